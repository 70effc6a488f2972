section
-- ===== PART A: goes FIRST, ahead of the names: the tables' words, and 'selects' of the private methods out of them =====
/-- a private method of a class that the tables say can be made, by its rows of tables_1 -/
def lw_okq (q : MethodName × Nat) : Prop := (q.1.cls ≠ "java/lang/invoke/MethodHandle" ∧ q.1.cls ≠ "java/lang/invoke/VarHandle") ∧ Cond.instantiable q.1.cls q.2 ∈ tables_1 ∧ Cond.privateMethod q.1 ∈ tables_1 ∧ Cond.instanceMethod q.1 ∈ tables_1
theorem lw_p0 : lw_okq (⟨"java/lang/Throwable", "fillInStackTrace", "(I)Ljava/lang/Throwable;"⟩, 6) := ⟨⟨by decide +kernel, by decide +kernel⟩, List.mem_of_getElem? (i := 167) (by decide +kernel), List.mem_of_getElem? (i := 165) (by decide +kernel), List.mem_of_getElem? (i := 166) (by decide +kernel)⟩
theorem lw_p1 : lw_okq (⟨"CardDirectory$RouteTable", "issuerAt", "(I)I"⟩, 4) := ⟨⟨by decide +kernel, by decide +kernel⟩, List.mem_of_getElem? (i := 28) (by decide +kernel), List.mem_of_getElem? (i := 214) (by decide +kernel), List.mem_of_getElem? (i := 215) (by decide +kernel)⟩
theorem lw_p2 : lw_okq (⟨"CardDirectory", "requireAccount", "(I)V"⟩, 6) := ⟨⟨by decide +kernel, by decide +kernel⟩, List.mem_of_getElem? (i := 14) (by decide +kernel), List.mem_of_getElem? (i := 280) (by decide +kernel), List.mem_of_getElem? (i := 281) (by decide +kernel)⟩
theorem lw_p3 : lw_okq (⟨"CardDirectory", "requireCard", "(I)V"⟩, 6) := ⟨⟨by decide +kernel, by decide +kernel⟩, List.mem_of_getElem? (i := 14) (by decide +kernel), List.mem_of_getElem? (i := 330) (by decide +kernel), List.mem_of_getElem? (i := 331) (by decide +kernel)⟩
theorem lw_p4 : lw_okq (⟨"CardDirectory", "requireTime", "(I)V"⟩, 6) := ⟨⟨by decide +kernel, by decide +kernel⟩, List.mem_of_getElem? (i := 14) (by decide +kernel), List.mem_of_getElem? (i := 376) (by decide +kernel), List.mem_of_getElem? (i := 377) (by decide +kernel)⟩
theorem lw_p5 : lw_okq (⟨"CardDirectoryModel", "placeOf", "(II)I"⟩, 16) := ⟨⟨by decide +kernel, by decide +kernel⟩, List.mem_of_getElem? (i := 413) (by decide +kernel), List.mem_of_getElem? (i := 476) (by decide +kernel), List.mem_of_getElem? (i := 477) (by decide +kernel)⟩
theorem lw_p6 : lw_okq (⟨"CardDirectoryModel", "goes", "(ZZ)Z"⟩, 16) := ⟨⟨by decide +kernel, by decide +kernel⟩, List.mem_of_getElem? (i := 413) (by decide +kernel), List.mem_of_getElem? (i := 487) (by decide +kernel), List.mem_of_getElem? (i := 488) (by decide +kernel)⟩
theorem lw_p7 : lw_okq (⟨"CardDirectoryModel", "routed", "(J)I"⟩, 16) := ⟨⟨by decide +kernel, by decide +kernel⟩, List.mem_of_getElem? (i := 413) (by decide +kernel), List.mem_of_getElem? (i := 506) (by decide +kernel), List.mem_of_getElem? (i := 507) (by decide +kernel)⟩
theorem lw_p8 : lw_okq (⟨"CardDirectoryModel", "cardOf", "(J)I"⟩, 16) := ⟨⟨by decide +kernel, by decide +kernel⟩, List.mem_of_getElem? (i := 413) (by decide +kernel), List.mem_of_getElem? (i := 532) (by decide +kernel), List.mem_of_getElem? (i := 533) (by decide +kernel)⟩
theorem lw_p9 : lw_okq (⟨"CardDirectoryModel", "since", "(II)I"⟩, 16) := ⟨⟨by decide +kernel, by decide +kernel⟩, List.mem_of_getElem? (i := 413) (by decide +kernel), List.mem_of_getElem? (i := 544) (by decide +kernel), List.mem_of_getElem? (i := 545) (by decide +kernel)⟩
def lw_privs_1 : List (MethodName × Nat) := [(⟨"java/lang/Throwable", "fillInStackTrace", "(I)Ljava/lang/Throwable;"⟩, 6), (⟨"CardDirectory$RouteTable", "issuerAt", "(I)I"⟩, 4), (⟨"CardDirectory", "requireAccount", "(I)V"⟩, 6), (⟨"CardDirectory", "requireCard", "(I)V"⟩, 6), (⟨"CardDirectory", "requireTime", "(I)V"⟩, 6), (⟨"CardDirectoryModel", "placeOf", "(II)I"⟩, 16), (⟨"CardDirectoryModel", "goes", "(ZZ)Z"⟩, 16), (⟨"CardDirectoryModel", "routed", "(J)I"⟩, 16), (⟨"CardDirectoryModel", "cardOf", "(J)I"⟩, 16), (⟨"CardDirectoryModel", "since", "(II)I"⟩, 16)]
theorem lw_r1 : ∀ q ∈ lw_privs_1, lw_okq q := List.forall_mem_cons.mpr ⟨lw_p0, List.forall_mem_cons.mpr ⟨lw_p1, List.forall_mem_cons.mpr ⟨lw_p2, List.forall_mem_cons.mpr ⟨lw_p3, List.forall_mem_cons.mpr ⟨lw_p4, List.forall_mem_cons.mpr ⟨lw_p5, List.forall_mem_cons.mpr ⟨lw_p6, List.forall_mem_cons.mpr ⟨lw_p7, List.forall_mem_cons.mpr ⟨lw_p8, List.forall_mem_cons.mpr ⟨lw_p9, fun _ h => absurd h List.not_mem_nil⟩⟩⟩⟩⟩⟩⟩⟩⟩⟩
def lw_privs : List (MethodName × Nat) := lw_privs_1
def lw_tbl : List Cond := k2_sels lw_privs ++ tables_1
theorem lw_privs_ok : ∀ q ∈ lw_privs, lw_okq q := lw_r1
/-! ONE LIST OF WORDS FOR ALL METHODS: the tables' words but the two of static fields; each of them stays true while the tables warm -/
def zw_ok : Cond → Bool
  | .arrayClass _ => true
  | .stringRef .. => true
  | .methodLinkNest .. => true
  | .fieldLinkNest .. => true
  | .laysStatic .. => false
  | w => w.onTables && (w.keeps || w.faceAtom)
def BG : List Cond := lw_tbl.filter (fun w => match w with | .laysStatic .. => false | _ => true)
theorem BG_all : BG.all zw_ok = true := by decide +kernel
def zw_st : Cond → Bool := fun w => match w with | .laysStatic .. => false | _ => true
theorem zm_0 {w : Cond} {i : Nat} (h : (k2_sels lw_privs)[i]? = some w) (hn : zw_st w = true) : w ∈ BG := List.mem_filter.mpr ⟨List.mem_append_left _ (List.mem_of_getElem? h), hn⟩
theorem zm_1 {w : Cond} {i : Nat} (h : tables_1_1[i]? = some w) (hn : zw_st w = true) : w ∈ BG := List.mem_filter.mpr ⟨List.mem_append_right _ (List.mem_append_left _ (List.mem_of_getElem? h)), hn⟩
theorem zm_2 {w : Cond} {i : Nat} (h : tables_1_2[i]? = some w) (hn : zw_st w = true) : w ∈ BG := List.mem_filter.mpr ⟨List.mem_append_right _ (List.mem_append_right _ (List.mem_append_left _ (List.mem_of_getElem? h))), hn⟩
theorem zm_3 {w : Cond} {i : Nat} (h : tables_1_3[i]? = some w) (hn : zw_st w = true) : w ∈ BG := List.mem_filter.mpr ⟨List.mem_append_right _ (List.mem_append_right _ (List.mem_append_right _ (List.mem_of_getElem? h))), hn⟩
theorem BG_tbl {w : Cond} (h : w ∈ BG) : w ∈ lw_tbl := (List.mem_filter.mp h).1
theorem zw_face {a a' : Array Value} {s U : State} (hW : s.WarmedH U.vm) {w : Cond} (h1 : w.onTables = true) (h2 : (w.keeps || w.faceAtom) = true) (h : w.before a s = true) : w.before a' U = true := by
  have h3 : w.keepsFace = true := by cases w <;> first | exact h2 | (simp [Cond.onTables] at h1)
  exact va_tabs h1 (rfl : (s.setVm U.vm).vm = U.vm) (Cond.before_shiftedFace (State.Shifted.of_warmed hW) w h3 h)
theorem zw_move {a a' : Array Value} {s U : State} (hW : s.WarmedH U.vm) {w : Cond} (hw : zw_ok w = true) (h : w.before a s = true) : w.before a' U = true := by
  cases w <;> first
    | (simp [zw_ok] at hw; done)
    | exact word_at hW (Or.inr ⟨_, rfl⟩) h
    | exact va_tabs rfl (rfl : (s.setVm U.vm).vm = U.vm) (Cond.stringRef_warmed hW h)
    | (have h1 := Cond.stringRef_warmed hW h
       simp only [Cond.before, Cond.holds, Cond.value, State.names, State.poolOf?, State.resolvedAt?] at h1 ⊢
       exact h1)
    | exact va_tabs rfl (rfl : (s.setVm U.vm).vm = U.vm) (Cond.methodLinkNest_warmed hW h)
    | exact va_tabs rfl (rfl : (s.setVm U.vm).vm = U.vm) (Cond.fieldLinkNest_warmed hW h)
    | (have hk : _ := hw
       simp only [zw_ok, Bool.and_eq_true] at hk
       exact zw_face hW hk.1 hk.2 h)
def R_AT : String := "CardDirectory$AccountTable"
def T_AT : u_T := fun k => match k with
  | 0 => ("CardDirectory$AccountTable", "issuers", "[I", true)
  | 1 => ("CardDirectory$AccountTable", "useTimes", "[I", true)
  | 2 => ("CardDirectory$AccountTable", "oldest", "[I", true)
  | _ => ("CardDirectory$AccountTable", "count", "I", false)
def t_AT : Nat → FieldType := fun k => match k with
  | 0 => .array .int
  | 1 => .array .int
  | 2 => .array .int
  | _ => .int
theorem n_AT : ∀ a, a < 4 → ∀ b, b < 4 → a ≠ b → (T_AT a).2.1 ≠ (T_AT b).2.1 := by decide +kernel
theorem tk_AT : ∀ k, k < 4 → parseFieldDescriptor (T_AT k).2.2.1 = some (t_AT k) := by decide +kernel
theorem i_AT : ∀ w ∈ u_ws R_AT T_AT 4, w ∈ BG := by decide +kernel
def R_CT : String := "CardDirectory$CardTable"
def T_CT : u_T := fun k => match k with
  | 0 => ("CardDirectory$CardTable", "numbers", "[J", true)
  | 1 => ("CardDirectory$CardTable", "accounts", "[I", true)
  | 2 => ("CardDirectory$CardTable", "blocked", "[Z", true)
  | _ => ("CardDirectory$CardTable", "count", "I", false)
def t_CT : Nat → FieldType := fun k => match k with
  | 0 => .array .long
  | 1 => .array .int
  | 2 => .array .boolean
  | _ => .int
theorem n_CT : ∀ a, a < 4 → ∀ b, b < 4 → a ≠ b → (T_CT a).2.1 ≠ (T_CT b).2.1 := by decide +kernel
theorem tk_CT : ∀ k, k < 4 → parseFieldDescriptor (T_CT k).2.2.1 = some (t_CT k) := by decide +kernel
theorem i_CT : ∀ w ∈ u_ws R_CT T_CT 4, w ∈ BG := by decide +kernel
def R_RT : String := "CardDirectory$RouteTable"
def T_RT : u_T := fun k => match k with
  | 0 => ("CardDirectory$RouteTable", "prefixes", "[I", true)
  | 1 => ("CardDirectory$RouteTable", "lengths", "[I", true)
  | 2 => ("CardDirectory$RouteTable", "issuers", "[I", true)
  | _ => ("CardDirectory$RouteTable", "count", "I", false)
def t_RT : Nat → FieldType := fun k => match k with
  | 0 => .array .int
  | 1 => .array .int
  | 2 => .array .int
  | _ => .int
theorem n_RT : ∀ a, a < 4 → ∀ b, b < 4 → a ≠ b → (T_RT a).2.1 ≠ (T_RT b).2.1 := by decide +kernel
theorem tk_RT : ∀ k, k < 4 → parseFieldDescriptor (T_RT k).2.2.1 = some (t_RT k) := by decide +kernel
theorem i_RT : ∀ w ∈ u_ws R_RT T_RT 4, w ∈ BG := by decide +kernel
def R_CD : String := "CardDirectory"
def T_CD : u_T := fun k => match k with
  | 0 => ("CardDirectory", "window", "I", true)
  | 1 => ("CardDirectory", "many", "I", true)
  | 2 => ("CardDirectory", "routeTable", "LCardDirectory$RouteTable;", true)
  | 3 => ("CardDirectory", "accountTable", "LCardDirectory$AccountTable;", true)
  | 4 => ("CardDirectory", "cardTable", "LCardDirectory$CardTable;", true)
  | _ => ("CardDirectory", "latestTime", "I", false)
def t_CD : Nat → FieldType := fun k => match k with
  | 0 => .int
  | 1 => .int
  | 2 => .object "CardDirectory$RouteTable"
  | 3 => .object "CardDirectory$AccountTable"
  | 4 => .object "CardDirectory$CardTable"
  | _ => .int
theorem n_CD : ∀ a, a < 6 → ∀ b, b < 6 → a ≠ b → (T_CD a).2.1 ≠ (T_CD b).2.1 := by decide +kernel
theorem tk_CD : ∀ k, k < 6 → parseFieldDescriptor (T_CD k).2.2.1 = some (t_CD k) := by decide +kernel
theorem i_CD : ∀ w ∈ u_ws R_CD T_CD 6, w ∈ BG := by decide +kernel
def R_MO : String := "CardDirectoryModel"
def T_MO : u_T := fun k => match k with
  | 0 => ("CardDirectoryModel", "code", "I", false)
  | 1 => ("CardDirectoryModel", "window", "I", true)
  | 2 => ("CardDirectoryModel", "many", "I", true)
  | 3 => ("CardDirectoryModel", "routes", "I", false)
  | 4 => ("CardDirectoryModel", "prefix", "[I", true)
  | 5 => ("CardDirectoryModel", "digits", "[I", true)
  | 6 => ("CardDirectoryModel", "leads", "[I", true)
  | 7 => ("CardDirectoryModel", "accounts", "I", false)
  | 8 => ("CardDirectoryModel", "issuer", "[I", true)
  | 9 => ("CardDirectoryModel", "uses", "[I", true)
  | 10 => ("CardDirectoryModel", "usedAt", "[I", true)
  | 11 => ("CardDirectoryModel", "cards", "I", false)
  | 12 => ("CardDirectoryModel", "card", "[J", true)
  | 13 => ("CardDirectoryModel", "of", "[I", true)
  | 14 => ("CardDirectoryModel", "blocked", "[Z", true)
  | _ => ("CardDirectoryModel", "now", "I", false)
def t_MO : Nat → FieldType := fun k => match k with
  | 0 => .int
  | 1 => .int
  | 2 => .int
  | 3 => .int
  | 4 => .array .int
  | 5 => .array .int
  | 6 => .array .int
  | 7 => .int
  | 8 => .array .int
  | 9 => .array .int
  | 10 => .array .int
  | 11 => .int
  | 12 => .array .long
  | 13 => .array .int
  | 14 => .array .boolean
  | _ => .int
theorem n_MO : ∀ a, a < 16 → ∀ b, b < 16 → a ≠ b → (T_MO a).2.1 ≠ (T_MO b).2.1 := by decide +kernel
theorem tk_MO : ∀ k, k < 16 → parseFieldDescriptor (T_MO k).2.2.1 = some (t_MO k) := by decide +kernel
theorem i_MO : ∀ w ∈ u_ws R_MO T_MO 16, w ∈ BG := by decide +kernel
def R_LW : String := "CardDirectoryLaw"
abbrev vwCl : List vw_C := [(R_AT, T_AT, 4), (R_CT, T_CT, 4), (R_RT, T_RT, 4), (R_CD, T_CD, 6), (R_MO, T_MO, 16)]
abbrev b_AT_init : ByteArray := prog_2_method_1_code
def y_AT_init : MethodName := ⟨R_AT, "<init>", "()V"⟩
set_option maxRecDepth 20000 in
theorem mc_AT_init : Cond.code y_AT_init b_AT_init 1 none ∈ BG := (zm_1 (i := 52) rfl rfl)
abbrev b_AT_isFull : ByteArray := prog_2_method_2_code
def y_AT_isFull : MethodName := ⟨R_AT, "isFull", "()Z"⟩
set_option maxRecDepth 20000 in
theorem mc_AT_isFull : Cond.code y_AT_isFull b_AT_isFull 1 (some .boolean) ∈ BG := (zm_2 (i := 22) rfl rfl)
abbrev b_AT_has : ByteArray := prog_2_method_3_code
def y_AT_has : MethodName := ⟨R_AT, "has", "(I)Z"⟩
set_option maxRecDepth 20000 in
theorem mc_AT_has : Cond.code y_AT_has b_AT_has 2 (some .boolean) ∈ BG := (zm_2 (i := 46) rfl rfl)
abbrev b_AT_add : ByteArray := prog_2_method_4_code
def y_AT_add : MethodName := ⟨R_AT, "add", "(I)I"⟩
set_option maxRecDepth 20000 in
theorem mc_AT_add : Cond.code y_AT_add b_AT_add 2 (some .int) ∈ BG := (zm_2 (i := 27) rfl rfl)
abbrev b_AT_issuerOf : ByteArray := prog_2_method_5_code
def y_AT_issuerOf : MethodName := ⟨R_AT, "issuerOf", "(I)I"⟩
set_option maxRecDepth 20000 in
theorem mc_AT_issuerOf : Cond.code y_AT_issuerOf b_AT_issuerOf 2 (some .int) ∈ BG := (zm_2 (i := 72) rfl rfl)
abbrev b_AT_usesSince : ByteArray := prog_2_method_6_code
def y_AT_usesSince : MethodName := ⟨R_AT, "usesSince", "(II)I"⟩
set_option maxRecDepth 20000 in
theorem mc_AT_usesSince : Cond.code y_AT_usesSince b_AT_usesSince 6 (some .int) ∈ BG := (zm_2 (i := 148) rfl rfl)
abbrev b_AT_noteUse : ByteArray := prog_2_method_7_code
def y_AT_noteUse : MethodName := ⟨R_AT, "noteUse", "(II)V"⟩
set_option maxRecDepth 20000 in
theorem mc_AT_noteUse : Cond.code y_AT_noteUse b_AT_noteUse 3 none ∈ BG := (zm_2 (i := 152) rfl rfl)
abbrev b_CT_init : ByteArray := prog_3_method_1_code
def y_CT_init : MethodName := ⟨R_CT, "<init>", "()V"⟩
set_option maxRecDepth 20000 in
theorem mc_CT_init : Cond.code y_CT_init b_CT_init 1 none ∈ BG := (zm_1 (i := 74) rfl rfl)
abbrev b_CT_isFull : ByteArray := prog_3_method_2_code
def y_CT_isFull : MethodName := ⟨R_CT, "isFull", "()Z"⟩
set_option maxRecDepth 20000 in
theorem mc_CT_isFull : Cond.code y_CT_isFull b_CT_isFull 1 (some .boolean) ∈ BG := (zm_2 (i := 51) rfl rfl)
abbrev b_CT_has : ByteArray := prog_3_method_3_code
def y_CT_has : MethodName := ⟨R_CT, "has", "(I)Z"⟩
set_option maxRecDepth 20000 in
theorem mc_CT_has : Cond.code y_CT_has b_CT_has 2 (some .boolean) ∈ BG := (zm_2 (i := 96) rfl rfl)
abbrev b_CT_find : ByteArray := prog_3_method_4_code
def y_CT_find : MethodName := ⟨R_CT, "find", "(J)I"⟩
set_option maxRecDepth 20000 in
theorem mc_CT_find : Cond.code y_CT_find b_CT_find 4 (some .int) ∈ BG := (zm_2 (i := 77) rfl rfl)
abbrev b_CT_add : ByteArray := prog_3_method_5_code
def y_CT_add : MethodName := ⟨R_CT, "add", "(JI)I"⟩
set_option maxRecDepth 20000 in
theorem mc_CT_add : Cond.code y_CT_add b_CT_add 4 (some .int) ∈ BG := (zm_2 (i := 81) rfl rfl)
abbrev b_CT_numberOf : ByteArray := prog_3_method_6_code
def y_CT_numberOf : MethodName := ⟨R_CT, "numberOf", "(I)J"⟩
set_option maxRecDepth 20000 in
theorem mc_CT_numberOf : Cond.code y_CT_numberOf b_CT_numberOf 2 (some .long) ∈ BG := (zm_2 (i := 170) rfl rfl)
abbrev b_CT_accountOf : ByteArray := prog_3_method_7_code
def y_CT_accountOf : MethodName := ⟨R_CT, "accountOf", "(I)I"⟩
set_option maxRecDepth 20000 in
theorem mc_CT_accountOf : Cond.code y_CT_accountOf b_CT_accountOf 2 (some .int) ∈ BG := (zm_2 (i := 144) rfl rfl)
abbrev b_CT_isBlocked : ByteArray := prog_3_method_8_code
def y_CT_isBlocked : MethodName := ⟨R_CT, "isBlocked", "(I)Z"⟩
set_option maxRecDepth 20000 in
theorem mc_CT_isBlocked : Cond.code y_CT_isBlocked b_CT_isBlocked 2 (some .boolean) ∈ BG := (zm_2 (i := 105) rfl rfl)
abbrev b_CT_setBlocked : ByteArray := prog_3_method_9_code
def y_CT_setBlocked : MethodName := ⟨R_CT, "setBlocked", "(IZ)Z"⟩
set_option maxRecDepth 20000 in
theorem mc_CT_setBlocked : Cond.code y_CT_setBlocked b_CT_setBlocked 4 (some .boolean) ∈ BG := (zm_2 (i := 101) rfl rfl)
abbrev b_RT_init : ByteArray := prog_4_method_1_code
def y_RT_init : MethodName := ⟨R_RT, "<init>", "()V"⟩
set_option maxRecDepth 20000 in
theorem mc_RT_init : Cond.code y_RT_init b_RT_init 1 none ∈ BG := (zm_1 (i := 31) rfl rfl)
abbrev b_RT_isFull : ByteArray := prog_4_method_2_code
def y_RT_isFull : MethodName := ⟨R_RT, "isFull", "()Z"⟩
set_option maxRecDepth 20000 in
theorem mc_RT_isFull : Cond.code y_RT_isFull b_RT_isFull 1 (some .boolean) ∈ BG := (zm_1 (i := 220) rfl rfl)
abbrev b_RT_find : ByteArray := prog_4_method_3_code
def y_RT_find : MethodName := ⟨R_RT, "find", "(JI)I"⟩
set_option maxRecDepth 20000 in
theorem mc_RT_find : Cond.code y_RT_find b_RT_find 5 (some .int) ∈ BG := (zm_1 (i := 208) rfl rfl)
abbrev b_RT_add : ByteArray := prog_4_method_4_code
def y_RT_add : MethodName := ⟨R_RT, "add", "(III)V"⟩
set_option maxRecDepth 20000 in
theorem mc_RT_add : Cond.code y_RT_add b_RT_add 4 none ∈ BG := (zm_2 (i := 0) rfl rfl)
abbrev b_RT_redirect : ByteArray := prog_4_method_5_code
def y_RT_redirect : MethodName := ⟨R_RT, "redirect", "(II)I"⟩
set_option maxRecDepth 20000 in
theorem mc_RT_redirect : Cond.code y_RT_redirect b_RT_redirect 4 (some .int) ∈ BG := (zm_1 (i := 212) rfl rfl)
abbrev b_RT_remove : ByteArray := prog_4_method_6_code
def y_RT_remove : MethodName := ⟨R_RT, "remove", "(I)I"⟩
set_option maxRecDepth 20000 in
theorem mc_RT_remove : Cond.code y_RT_remove b_RT_remove 3 (some .int) ∈ BG := (zm_2 (i := 11) rfl rfl)
abbrev b_RT_issuerFor : ByteArray := prog_4_method_7_code
def y_RT_issuerFor : MethodName := ⟨R_RT, "issuerFor", "(J)I"⟩
set_option maxRecDepth 20000 in
theorem mc_RT_issuerFor : Cond.code y_RT_issuerFor b_RT_issuerFor 7 (some .int) ∈ BG := (zm_2 (i := 65) rfl rfl)
abbrev b_RT_issuerAt : ByteArray := prog_4_method_8_code
def y_RT_issuerAt : MethodName := ⟨R_RT, "issuerAt", "(I)I"⟩
set_option maxRecDepth 20000 in
theorem mc_RT_issuerAt : Cond.code y_RT_issuerAt b_RT_issuerAt 2 (some .int) ∈ BG := (zm_1 (i := 216) rfl rfl)
abbrev b_CD_init : ByteArray := prog_1_method_1_code
def y_CD_init : MethodName := ⟨R_CD, "<init>", "(II)V"⟩
set_option maxRecDepth 20000 in
theorem mc_CD_init : Cond.code y_CD_init b_CD_init 3 none ∈ BG := (zm_1 (i := 17) rfl rfl)
abbrev b_CD_route : ByteArray := prog_1_method_2_code
def y_CD_route : MethodName := ⟨R_CD, "route", "(III)I"⟩
set_option maxRecDepth 20000 in
theorem mc_CD_route : Cond.code y_CD_route b_CD_route 5 (some .int) ∈ BG := (zm_1 (i := 125) rfl rfl)
abbrev b_CD_unroute : ByteArray := prog_1_method_3_code
def y_CD_unroute : MethodName := ⟨R_CD, "unroute", "(II)I"⟩
set_option maxRecDepth 20000 in
theorem mc_CD_unroute : Cond.code y_CD_unroute b_CD_unroute 4 (some .int) ∈ BG := (zm_2 (i := 7) rfl rfl)
abbrev b_CD_routes : ByteArray := prog_1_method_4_code
def y_CD_routes : MethodName := ⟨R_CD, "routes", "()I"⟩
set_option maxRecDepth 20000 in
theorem mc_CD_routes : Cond.code y_CD_routes b_CD_routes 1 (some .int) ∈ BG := (zm_1 (i := 113) rfl rfl)
abbrev b_CD_account : ByteArray := prog_1_method_5_code
def y_CD_account : MethodName := ⟨R_CD, "account", "(I)I"⟩
set_option maxRecDepth 20000 in
theorem mc_CD_account : Cond.code y_CD_account b_CD_account 2 (some .int) ∈ BG := (zm_2 (i := 18) rfl rfl)
abbrev b_CD_card : ByteArray := prog_1_method_6_code
def y_CD_card : MethodName := ⟨R_CD, "card", "(JI)I"⟩
set_option maxRecDepth 20000 in
theorem mc_CD_card : Cond.code y_CD_card b_CD_card 5 (some .int) ∈ BG := (zm_2 (i := 34) rfl rfl)
abbrev b_CD_block : ByteArray := prog_1_method_7_code
def y_CD_block : MethodName := ⟨R_CD, "block", "(IZ)Z"⟩
set_option maxRecDepth 20000 in
theorem mc_CD_block : Cond.code y_CD_block b_CD_block 3 (some .boolean) ∈ BG := (zm_2 (i := 88) rfl rfl)
abbrev b_CD_whose : ByteArray := prog_1_method_8_code
def y_CD_whose : MethodName := ⟨R_CD, "whose", "(J)I"⟩
set_option maxRecDepth 20000 in
theorem mc_CD_whose : Cond.code y_CD_whose b_CD_whose 3 (some .int) ∈ BG := (zm_2 (i := 113) rfl rfl)
abbrev b_CD_good : ByteArray := prog_1_method_9_code
def y_CD_good : MethodName := ⟨R_CD, "good", "(J)Z"⟩
set_option maxRecDepth 20000 in
theorem mc_CD_good : Cond.code y_CD_good b_CD_good 3 (some .boolean) ∈ BG := (zm_2 (i := 120) rfl rfl)
abbrev b_CD_digit : ByteArray := prog_1_method_10_code
def y_CD_digit : MethodName := ⟨R_CD, "digit", "(J)I"⟩
set_option maxRecDepth 20000 in
theorem mc_CD_digit : Cond.code y_CD_digit b_CD_digit 3 (some .int) ∈ BG := (zm_2 (i := 127) rfl rfl)
abbrev b_CD_use : ByteArray := prog_1_method_11_code
def y_CD_use : MethodName := ⟨R_CD, "use", "(JI)I"⟩
set_option maxRecDepth 20000 in
theorem mc_CD_use : Cond.code y_CD_use b_CD_use 6 (some .int) ∈ BG := (zm_2 (i := 134) rfl rfl)
abbrev b_CD_used : ByteArray := prog_1_method_12_code
def y_CD_used : MethodName := ⟨R_CD, "used", "(II)I"⟩
set_option maxRecDepth 20000 in
theorem mc_CD_used : Cond.code y_CD_used b_CD_used 3 (some .int) ∈ BG := (zm_2 (i := 159) rfl rfl)
abbrev b_CD_told : ByteArray := prog_1_method_13_code
def y_CD_told : MethodName := ⟨R_CD, "told", "(II)J"⟩
set_option maxRecDepth 20000 in
theorem mc_CD_told : Cond.code y_CD_told b_CD_told 3 (some .long) ∈ BG := (zm_2 (i := 166) rfl rfl)
abbrev b_CD_requireIssuer : ByteArray := prog_1_method_14_code
def y_CD_requireIssuer : MethodName := ⟨R_CD, "requireIssuer", "(I)V"⟩
set_option maxRecDepth 20000 in
theorem mc_CD_requireIssuer : Cond.code y_CD_requireIssuer b_CD_requireIssuer 1 none ∈ BG := (zm_1 (i := 128) rfl rfl)
abbrev b_CD_requirePrefix : ByteArray := prog_1_method_15_code
def y_CD_requirePrefix : MethodName := ⟨R_CD, "requirePrefix", "(II)V"⟩
set_option maxRecDepth 20000 in
theorem mc_CD_requirePrefix : Cond.code y_CD_requirePrefix b_CD_requirePrefix 2 none ∈ BG := (zm_1 (i := 198) rfl rfl)
abbrev b_CD_requireDigits : ByteArray := prog_1_method_16_code
def y_CD_requireDigits : MethodName := ⟨R_CD, "requireDigits", "(JII)V"⟩
set_option maxRecDepth 20000 in
theorem mc_CD_requireDigits : Cond.code y_CD_requireDigits b_CD_requireDigits 5 none ∈ BG := (zm_2 (i := 37) rfl rfl)
abbrev b_CD_requireAccount : ByteArray := prog_1_method_17_code
def y_CD_requireAccount : MethodName := ⟨R_CD, "requireAccount", "(I)V"⟩
set_option maxRecDepth 20000 in
theorem mc_CD_requireAccount : Cond.code y_CD_requireAccount b_CD_requireAccount 2 none ∈ BG := (zm_2 (i := 42) rfl rfl)
abbrev b_CD_requireCard : ByteArray := prog_1_method_18_code
def y_CD_requireCard : MethodName := ⟨R_CD, "requireCard", "(I)V"⟩
set_option maxRecDepth 20000 in
theorem mc_CD_requireCard : Cond.code y_CD_requireCard b_CD_requireCard 2 none ∈ BG := (zm_2 (i := 92) rfl rfl)
abbrev b_CD_requireTime : ByteArray := prog_1_method_19_code
def y_CD_requireTime : MethodName := ⟨R_CD, "requireTime", "(I)V"⟩
set_option maxRecDepth 20000 in
theorem mc_CD_requireTime : Cond.code y_CD_requireTime b_CD_requireTime 2 none ∈ BG := (zm_2 (i := 138) rfl rfl)
abbrev b_CD_digitsOf : ByteArray := prog_1_method_20_code
def y_CD_digitsOf : MethodName := ⟨R_CD, "digitsOf", "(J)I"⟩
set_option maxRecDepth 20000 in
theorem mc_CD_digitsOf : Cond.code y_CD_digitsOf b_CD_digitsOf 5 (some .int) ∈ BG := (zm_1 (i := 202) rfl rfl)
abbrev b_CD_isGood : ByteArray := prog_1_method_21_code
def y_CD_isGood : MethodName := ⟨R_CD, "isGood", "(J)Z"⟩
set_option maxRecDepth 20000 in
theorem mc_CD_isGood : Cond.code y_CD_isGood b_CD_isGood 2 (some .boolean) ∈ BG := (zm_2 (i := 55) rfl rfl)
abbrev b_CD_checkSum : ByteArray := prog_1_method_22_code
def y_CD_checkSum : MethodName := ⟨R_CD, "checkSum", "(J)I"⟩
set_option maxRecDepth 20000 in
theorem mc_CD_checkSum : Cond.code y_CD_checkSum b_CD_checkSum 7 (some .int) ∈ BG := (zm_2 (i := 58) rfl rfl)
abbrev b_CD_doubled : ByteArray := prog_1_method_23_code
def y_CD_doubled : MethodName := ⟨R_CD, "doubled", "(I)I"⟩
set_option maxRecDepth 20000 in
theorem mc_CD_doubled : Cond.code y_CD_doubled b_CD_doubled 2 (some .int) ∈ BG := (zm_2 (i := 61) rfl rfl)
abbrev b_MO_init : ByteArray := prog_6_method_1_code
def y_MO_init : MethodName := ⟨R_MO, "<init>", "(II)V"⟩
set_option maxRecDepth 20000 in
theorem mc_MO_init : Cond.code y_MO_init b_MO_init 3 none ∈ BG := (zm_2 (i := 176) rfl rfl)
abbrev b_MO_thrown : ByteArray := prog_6_method_2_code
def y_MO_thrown : MethodName := ⟨R_MO, "thrown", "()I"⟩
set_option maxRecDepth 20000 in
theorem mc_MO_thrown : Cond.code y_MO_thrown b_MO_thrown 1 (some .int) ∈ BG := (zm_2 (i := 230) rfl rfl)
abbrev b_MO_goes : ByteArray := prog_6_method_3_code
def y_MO_goes : MethodName := ⟨R_MO, "goes", "(ZZ)Z"⟩
set_option maxRecDepth 20000 in
theorem mc_MO_goes : Cond.code y_MO_goes b_MO_goes 3 (some .boolean) ∈ BG := (zm_3 (i := 9) rfl rfl)
abbrev b_MO_width : ByteArray := prog_6_method_4_code
def y_MO_width : MethodName := ⟨R_MO, "width", "(J)I"⟩
set_option maxRecDepth 20000 in
theorem mc_MO_width : Cond.code y_MO_width b_MO_width 5 (some .int) ∈ BG := (zm_3 (i := 4) rfl rfl)
abbrev b_MO_isNumber : ByteArray := prog_6_method_5_code
def y_MO_isNumber : MethodName := ⟨R_MO, "isNumber", "(JI)Z"⟩
set_option maxRecDepth 20000 in
theorem mc_MO_isNumber : Cond.code y_MO_isNumber b_MO_isNumber 3 (some .boolean) ∈ BG := (zm_3 (i := 24) rfl rfl)
abbrev b_MO_front : ByteArray := prog_6_method_6_code
def y_MO_front : MethodName := ⟨R_MO, "front", "(JI)J"⟩
set_option maxRecDepth 20000 in
theorem mc_MO_front : Cond.code y_MO_front b_MO_front 6 (some .long) ∈ BG := (zm_3 (i := 31) rfl rfl)
abbrev b_MO_isPrefix : ByteArray := prog_6_method_7_code
def y_MO_isPrefix : MethodName := ⟨R_MO, "isPrefix", "(II)Z"⟩
set_option maxRecDepth 20000 in
theorem mc_MO_isPrefix : Cond.code y_MO_isPrefix b_MO_isPrefix 2 (some .boolean) ∈ BG := (zm_3 (i := 1) rfl rfl)
abbrev b_MO_placeOf : ByteArray := prog_6_method_8_code
def y_MO_placeOf : MethodName := ⟨R_MO, "placeOf", "(II)I"⟩
set_option maxRecDepth 20000 in
theorem mc_MO_placeOf : Cond.code y_MO_placeOf b_MO_placeOf 4 (some .int) ∈ BG := (zm_2 (i := 238) rfl rfl)
abbrev b_MO_route : ByteArray := prog_6_method_9_code
def y_MO_route : MethodName := ⟨R_MO, "route", "(III)I"⟩
set_option maxRecDepth 20000 in
theorem mc_MO_route : Cond.code y_MO_route b_MO_route 6 (some .int) ∈ BG := (zm_2 (i := 234) rfl rfl)
abbrev b_MO_unroute : ByteArray := prog_6_method_10_code
def y_MO_unroute : MethodName := ⟨R_MO, "unroute", "(II)I"⟩
set_option maxRecDepth 20000 in
theorem mc_MO_unroute : Cond.code y_MO_unroute b_MO_unroute 5 (some .int) ∈ BG := (zm_3 (i := 13) rfl rfl)
abbrev b_MO_routes : ByteArray := prog_6_method_11_code
def y_MO_routes : MethodName := ⟨R_MO, "routes", "()I"⟩
set_option maxRecDepth 20000 in
theorem mc_MO_routes : Cond.code y_MO_routes b_MO_routes 1 (some .int) ∈ BG := (zm_3 (i := 17) rfl rfl)
abbrev b_MO_routed : ByteArray := prog_6_method_12_code
def y_MO_routed : MethodName := ⟨R_MO, "routed", "(J)I"⟩
set_option maxRecDepth 20000 in
theorem mc_MO_routed : Cond.code y_MO_routed b_MO_routed 6 (some .int) ∈ BG := (zm_3 (i := 28) rfl rfl)
abbrev b_MO_whose : ByteArray := prog_6_method_13_code
def y_MO_whose : MethodName := ⟨R_MO, "whose", "(J)I"⟩
set_option maxRecDepth 20000 in
theorem mc_MO_whose : Cond.code y_MO_whose b_MO_whose 3 (some .int) ∈ BG := (zm_3 (i := 21) rfl rfl)
abbrev b_MO_sum : ByteArray := prog_6_method_14_code
def y_MO_sum : MethodName := ⟨R_MO, "sum", "(JZ)I"⟩
set_option maxRecDepth 20000 in
theorem mc_MO_sum : Cond.code y_MO_sum b_MO_sum 8 (some .int) ∈ BG := (zm_3 (i := 38) rfl rfl)
abbrev b_MO_good : ByteArray := prog_6_method_15_code
def y_MO_good : MethodName := ⟨R_MO, "good", "(J)Z"⟩
set_option maxRecDepth 20000 in
theorem mc_MO_good : Cond.code y_MO_good b_MO_good 3 (some .boolean) ∈ BG := (zm_3 (i := 35) rfl rfl)
abbrev b_MO_digit : ByteArray := prog_6_method_16_code
def y_MO_digit : MethodName := ⟨R_MO, "digit", "(J)I"⟩
set_option maxRecDepth 20000 in
theorem mc_MO_digit : Cond.code y_MO_digit b_MO_digit 4 (some .int) ∈ BG := (zm_3 (i := 42) rfl rfl)
abbrev b_MO_account : ByteArray := prog_6_method_17_code
def y_MO_account : MethodName := ⟨R_MO, "account", "(I)I"⟩
set_option maxRecDepth 20000 in
theorem mc_MO_account : Cond.code y_MO_account b_MO_account 2 (some .int) ∈ BG := (zm_3 (i := 46) rfl rfl)
abbrev b_MO_cardOf : ByteArray := prog_6_method_18_code
def y_MO_cardOf : MethodName := ⟨R_MO, "cardOf", "(J)I"⟩
set_option maxRecDepth 20000 in
theorem mc_MO_cardOf : Cond.code y_MO_cardOf b_MO_cardOf 5 (some .int) ∈ BG := (zm_3 (i := 54) rfl rfl)
abbrev b_MO_card : ByteArray := prog_6_method_19_code
def y_MO_card : MethodName := ⟨R_MO, "card", "(JI)I"⟩
set_option maxRecDepth 20000 in
theorem mc_MO_card : Cond.code y_MO_card b_MO_card 5 (some .int) ∈ BG := (zm_3 (i := 50) rfl rfl)
abbrev b_MO_block : ByteArray := prog_6_method_20_code
def y_MO_block : MethodName := ⟨R_MO, "block", "(IZ)Z"⟩
set_option maxRecDepth 20000 in
theorem mc_MO_block : Cond.code y_MO_block b_MO_block 4 (some .boolean) ∈ BG := (zm_3 (i := 58) rfl rfl)
abbrev b_MO_since : ByteArray := prog_6_method_21_code
def y_MO_since : MethodName := ⟨R_MO, "since", "(II)I"⟩
set_option maxRecDepth 20000 in
theorem mc_MO_since : Cond.code y_MO_since b_MO_since 5 (some .int) ∈ BG := (zm_3 (i := 66) rfl rfl)
abbrev b_MO_use : ByteArray := prog_6_method_22_code
def y_MO_use : MethodName := ⟨R_MO, "use", "(JI)I"⟩
set_option maxRecDepth 20000 in
theorem mc_MO_use : Cond.code y_MO_use b_MO_use 7 (some .int) ∈ BG := (zm_3 (i := 62) rfl rfl)
abbrev b_MO_used : ByteArray := prog_6_method_23_code
def y_MO_used : MethodName := ⟨R_MO, "used", "(II)I"⟩
set_option maxRecDepth 20000 in
theorem mc_MO_used : Cond.code y_MO_used b_MO_used 3 (some .int) ∈ BG := (zm_3 (i := 70) rfl rfl)
abbrev b_MO_told : ByteArray := prog_6_method_24_code
def y_MO_told : MethodName := ⟨R_MO, "told", "(II)J"⟩
set_option maxRecDepth 20000 in
theorem mc_MO_told : Cond.code y_MO_told b_MO_told 3 (some .long) ∈ BG := (zm_3 (i := 74) rfl rfl)
abbrev b_LW_cell : ByteArray := method_2_code
def y_LW_cell : MethodName := ⟨R_LW, "cell", "([II)I"⟩
set_option maxRecDepth 20000 in
theorem mc_LW_cell : Cond.code y_LW_cell b_LW_cell 2 (some .int) ∈ BG := (zm_1 (i := 116) rfl rfl)
abbrev b_LW_route : ByteArray := method_3_code
def y_LW_route : MethodName := ⟨R_LW, "route", "(LCardDirectory;III[J)I"⟩
set_option maxRecDepth 20000 in
theorem mc_LW_route : Cond.codeWith y_LW_route b_LW_route 6 (some .int) [(0, 12, 15, 13), (0, 12, 19, 15)] ∈ BG := (zm_1 (i := 119) rfl rfl)
abbrev b_LW_unroute : ByteArray := method_4_code
def y_LW_unroute : MethodName := ⟨R_LW, "unroute", "(LCardDirectory;II[J)I"⟩
set_option maxRecDepth 20000 in
theorem mc_LW_unroute : Cond.codeWith y_LW_unroute b_LW_unroute 5 (some .int) [(0, 10, 13, 13)] ∈ BG := (zm_2 (i := 3) rfl rfl)
abbrev b_LW_account : ByteArray := method_5_code
def y_LW_account : MethodName := ⟨R_LW, "account", "(LCardDirectory;I[J)I"⟩
set_option maxRecDepth 20000 in
theorem mc_LW_account : Cond.codeWith y_LW_account b_LW_account 4 (some .int) [(0, 9, 12, 13), (0, 9, 15, 15)] ∈ BG := (zm_2 (i := 14) rfl rfl)
abbrev b_LW_card : ByteArray := method_6_code
def y_LW_card : MethodName := ⟨R_LW, "card", "(LCardDirectory;JI[J)I"⟩
set_option maxRecDepth 20000 in
theorem mc_LW_card : Cond.codeWith y_LW_card b_LW_card 6 (some .int) [(0, 11, 14, 13), (0, 11, 18, 15)] ∈ BG := (zm_2 (i := 30) rfl rfl)
abbrev b_LW_block : ByteArray := method_7_code
def y_LW_block : MethodName := ⟨R_LW, "block", "(LCardDirectory;IZ[J)I"⟩
set_option maxRecDepth 20000 in
theorem mc_LW_block : Cond.codeWith y_LW_block b_LW_block 5 (some .int) [(0, 17, 20, 13)] ∈ BG := (zm_2 (i := 84) rfl rfl)
abbrev b_LW_whose : ByteArray := method_8_code
def y_LW_whose : MethodName := ⟨R_LW, "whose", "(LCardDirectory;J[J)I"⟩
set_option maxRecDepth 20000 in
theorem mc_LW_whose : Cond.codeWith y_LW_whose b_LW_whose 5 (some .int) [(0, 9, 12, 13)] ∈ BG := (zm_2 (i := 109) rfl rfl)
abbrev b_LW_good : ByteArray := method_9_code
def y_LW_good : MethodName := ⟨R_LW, "good", "(LCardDirectory;J[J)I"⟩
set_option maxRecDepth 20000 in
theorem mc_LW_good : Cond.codeWith y_LW_good b_LW_good 5 (some .int) [(0, 16, 19, 13)] ∈ BG := (zm_2 (i := 116) rfl rfl)
abbrev b_LW_digit : ByteArray := method_10_code
def y_LW_digit : MethodName := ⟨R_LW, "digit", "(LCardDirectory;J[J)I"⟩
set_option maxRecDepth 20000 in
theorem mc_LW_digit : Cond.codeWith y_LW_digit b_LW_digit 5 (some .int) [(0, 9, 12, 13)] ∈ BG := (zm_2 (i := 123) rfl rfl)
abbrev b_LW_use : ByteArray := method_11_code
def y_LW_use : MethodName := ⟨R_LW, "use", "(LCardDirectory;JI[J)I"⟩
set_option maxRecDepth 20000 in
theorem mc_LW_use : Cond.codeWith y_LW_use b_LW_use 6 (some .int) [(0, 11, 14, 13)] ∈ BG := (zm_2 (i := 130) rfl rfl)
abbrev b_LW_used : ByteArray := method_12_code
def y_LW_used : MethodName := ⟨R_LW, "used", "(LCardDirectory;II[J)I"⟩
set_option maxRecDepth 20000 in
theorem mc_LW_used : Cond.codeWith y_LW_used b_LW_used 5 (some .int) [(0, 10, 13, 13)] ∈ BG := (zm_2 (i := 155) rfl rfl)
abbrev b_LW_told : ByteArray := method_13_code
def y_LW_told : MethodName := ⟨R_LW, "told", "(LCardDirectory;II[J)I"⟩
set_option maxRecDepth 20000 in
theorem mc_LW_told : Cond.codeWith y_LW_told b_LW_told 5 (some .int) [(0, 9, 12, 13)] ∈ BG := (zm_2 (i := 162) rfl rfl)
end
section
/-! CONTRACTS THAT MAY END IN A THROW: as the kit's Met, but the outcome is left to Qc; the walk over a call that may throw; what a catch takes. -/
def zt_End (st t : State) (L : List Loc) (k n : Nat) : Prop := st.WarmedH t.vm ∧ st.sameButNew ({ t with vm := st.vm } : State) L k n
/-- how much may be made: k where it returns, one exception where it throws -/
def zt_k (k n : Nat) : Outcome → Nat := fun o => match o with
  | .returned _ => k
  | .threw _ => n
def MetT (l : Launch) (y : MethodName) (ws : List Cond) (rm : Room) (Pc : Array Value → State → Prop) (Qc : Array Value → State → Outcome → State → Prop) (mc ms : Nat) (free : Addr → Prop) : Prop :=
  MetFree l y (headSpec ws rm) Pc (fun _ _ _ _ _ => True) (fun a st o t => Qc a st o t ∧ ∃ L, zt_End st t L (zt_k mc 1 o) (zt_k ms 6 o) ∧ ∀ q ∈ L, free q.base)
def ZQ (below : List Frame) (Qc : Array Value → State → Outcome → State → Prop) (a : Array Value) (s : State) (mc ms : Nat) (free : Addr → Prop) : State → Prop := fun t =>
  ∃ o, t.status = .running ∧ Ended t below o ∧ Qc a s o t ∧ ∃ L, zt_End s t L (zt_k mc 1 o) (zt_k ms 6 o) ∧ ∀ q ∈ L, free q.base
section ZTA
variable {l : Launch} {y : MethodName} {ws ws' : List Cond} {rm : Room} {Pc : Array Value → State → Prop} {Qc : Array Value → State → Outcome → State → Prop} {mc ms : Nat} {free : Addr → Prop} {cc : ByteArray} {maxL : Nat} {ret : Option FieldType} {hh : List (Nat × Nat × Nat × Nat)}
theorem zt_of (h : Met l y ws rm Pc Qc mc ms free) : MetT l y ws rm Pc Qc mc ms free := by
  intro p e ha hc hk s m args below hf happ hP hK
  obtain ⟨n, o, h1, h2, h3, hq, L, ⟨⟨v, rfl⟩, hF⟩, hL⟩ := h p e ha hc hk s m args below hf happ hP hK
  exact ⟨n, _, h1, h2, h3, hq, L, hF, hL⟩
/-- a method without handlers -/
theorem zt_ofW (hy : plainName y.cls = true) (hw : ws = Cond.code y cc maxL ret :: ws')
    (body : ∀ p e s m args below meth c s₁, BodyLoose p l y (headSpec ws rm) cc maxL ret e s m args below meth c s₁ → c.maxLocals = maxL → (∀ x ∈ c.exceptionTable.toList, ∀ pc, covers x pc = false) → Pc args s →
      W p l e (headSpec ws rm).room s m args below meth c s.heap [] 0 0 (ZQ below Qc args s mc ms free) (entryFrame m args maxL)) : MetT l y ws rm Pc Qc mc ms free := by
  refine MetFree.of_bodyS (code := cc) (maxLocals := maxL) (ret := ret) hy ?_ ?_
  · intro args s m h hn
    obtain ⟨meth, c, h1, h2, h3, h4, h5, h6, -, -⟩ := Cond.code_spec hn (atoms_spec (ws := ws) h _ (by rw [hw]; exact List.mem_cons_self))
    exact ⟨meth, c, h1, h2, h3, h4, h5, h6⟩
  · intro p e s m args below meth c s₁ B hml hP _
    have hh0 : s₁.heap = s.heap := by rw [B.state]; rfl
    have hno : c.exceptionTable.isEmpty = true := B.noHandlers (atoms_spec (ws := ws) B.pre _ (by rw [hw]; exact List.mem_cons_self))
    have h0 : c.exceptionTable.size = 0 := by simpa [Array.isEmpty] using hno
    have h1 : c.exceptionTable.toList = [] := List.eq_nil_of_length_eq_zero (by simpa using h0)
    obtain ⟨t, a1, o, b1, b2, b3⟩ := body p e s m args below meth c s₁ B hml (by rw [h1]; intro x hx; cases hx) hP s₁ hh0 (Stand.of_body B)
    exact ⟨t, o, a1, b1, b2, ⟨b3.1, b3.2⟩⟩
/-- a method with handlers -/
theorem zt_ofWW (hy : plainName y.cls = true) (hw : ws = Cond.codeWith y cc maxL ret hh :: ws')
    (body : ∀ p e s m args below meth c s₁, BodyLoose p l y (headSpec ws rm) cc maxL ret e s m args below meth c s₁ → c.maxLocals = maxL → c.exceptionTable.toList.map (fun h => (h.startPc, h.endPc, h.handlerPc, h.catchType)) = hh → Pc args s →
      W p l e (headSpec ws rm).room s m args below meth c s.heap [] 0 0 (ZQ below Qc args s mc ms free) (entryFrame m args maxL)) : MetT l y ws rm Pc Qc mc ms free := by
  refine MetFree.of_bodyS (code := cc) (maxLocals := maxL) (ret := ret) hy ?_ ?_
  · intro args s m h hn
    obtain ⟨m9, meth, c, hn9, h1, h2, h3, h4, -, h5, h6, -⟩ := Cond.codeWith_spec (atoms_spec (ws := ws) h _ (by rw [hw]; exact List.mem_cons_self))
    cases hn.symm.trans hn9
    exact ⟨meth, c, h1, h2, h3, h4, h5, h6⟩
  · intro p e s m args below meth c s₁ B hml hP _
    have hh0 : s₁.heap = s.heap := by rw [B.state]; rfl
    obtain ⟨m9, meth9, c9, hn9, h1, h2, -, -, htab, -⟩ := Cond.codeWith_spec (atoms_spec (ws := ws) B.pre _ (by rw [hw]; exact List.mem_cons_self))
    cases B.named.symm.trans hn9
    cases B.method.symm.trans h1
    cases (Stand.of_body B).code.symm.trans h2
    obtain ⟨t, a1, o, b1, b2, b3⟩ := body p e s m args below meth c s₁ B hml htab hP s₁ hh0 (Stand.of_body B)
    exact ⟨t, o, a1, b1, b2, ⟨b3.1, b3.2⟩⟩
end ZTA
section ZTW
variable {p : Program} {l : Launch} {e : Env} {R : Room} {s : State} {m : MethodId} {args : Array Value} {below : List Frame} {meth : Method} {c : Code} {H : Heap} {locs : List Loc} {cells slots : Nat} {Q : State → Prop}
/-- the end of a contract that returns, as the end of one that may throw -/
theorem zt_ret {Qc : Array Value → State → Outcome → State → Prop} {mc ms : Nat} {free : Addr → Prop} {g : JFrame} (k : W p l e R s m args below meth c H locs cells slots (MQ below Qc args s mc ms free) g) : W p l e R s m args below meth c H locs cells slots (ZQ below Qc args s mc ms free) g := by
  intro T hT X
  obtain ⟨t, a, o, h1, h2, h3, L, ⟨⟨v, rfl⟩, hF⟩, hL⟩ := k T hT X
  exact ⟨t, a, _, h1, h2, h3, L, hF, hL⟩
/-- the exception x is under way, the frame g on top -/
def WT (p : Program) (l : Launch) (e : Env) (R : Room) (s : State) (m : MethodId) (args : Array Value) (below : List Frame) (meth : Method) (c : Code) (H : Heap) (locs : List Loc) (cells slots : Nat) (Q : State → Prop) (g : JFrame) (x : Nat) : Prop :=
  ∀ T : State, T.heap = H → Stand p l e R s m args below meth c T locs cells slots → ∃ t, Steps p.tables e below ((T.setTop g).pushFrame (.throwing x)) t ∧ Q t
theorem zt_leave {Qc : Array Value → State → Outcome → State → Prop} {free : Addr → Prop} {pc : Nat} {ls : Array Slot} {st : List Value} {x : Nat} (hq : ∀ t : State, t.heap = H → s.WarmedH t.vm → Qc args s (.threw x) t) (hf : ∀ q ∈ locs, free q.base)
    (hout : ∀ z ∈ c.exceptionTable.toList, covers z pc = false) (hlocks : meth.locks = false) {mc ms : Nat} (hc : cells ≤ 1) (hs : slots ≤ 6) : WT p l e R s m args below meth c H locs cells slots (ZQ below Qc args s mc ms free) (F0 m pc ls st) x := by
  intro T hT X
  obtain ⟨h1, h2, h3, h4, h5⟩ := X.leaveThrown x (g := F0 m pc ls st) rfl rfl rfl hout hlocks
  exact ⟨_, h1, .threw x, h2, h3, hq _ hT h4, locs, ⟨h4, h5.mono hc hs⟩, hf⟩
theorem zt_wide {k n : Nat} {g : JFrame} {x : Nat} (hk : cells ≤ k) (hn : slots ≤ n) (kk : WT p l e R s m args below meth c H locs k n Q g x) : WT p l e R s m args below meth c H locs cells slots Q g x := by
  intro T hT X
  exact kk T hT { X with same := X.same.mono hk hn }
end ZTW
section ZTC
variable {p : Program} {l : Launch} {e : Env} {R : Room} {s : State} {m : MethodId} {args : Array Value} {below : List Frame} {meth : Method} {c : Code} {T : State} {locs : List Loc} {cells slots : Nat}
variable {y : MethodName} {ws : List Cond} {rm : Room} {Pc : Array Value → State → Prop} {Qc : Array Value → State → Outcome → State → Prop} {mc ms : Nat} {free : Addr → Prop} {maxL : Nat}
theorem zt_enter (X : Stand p l e R s m args below meth c T locs cells slots) (hM : MetT l y ws rm Pc Qc mc ms free) (hblind : FrameBlind Pc) (hfr : rm.frames + 1 ≤ R.frames) (hlo : 8 + (maxL + 11) + rm.locals ≤ R.locals)
    (hws : ∀ w ∈ ws, ∀ (a' : Array Value) (U : State), s.WarmedH U.vm → w.before a' U = true)
    {mk : MethodId} {methY : Method} {cY : Code} (hn : T.methodNamed? y = some mk) (hmY : T.vm.method? mk = some methY) (hcY : methY.code = some cY) (hlY : cY.maxLocals = maxL) {ai : Array Value} (hini : (Cond.initialized y.cls).before ai T = true)
    {g : JFrame} (hg : g.method = m) (hsize : g.locals.size = c.maxLocals) {ig : Instr} {len : Nat} (hdg : decode c.code g.pc = .ok (ig, len)) (hW : 2 * g.monitorRoom + (g.stack.map fun v => v.category).sum ≤ 8)
    {a : Array Value} (hP : Pc a T) (hcells : cells + rm.cells ≤ R.cells) (hslots : slots + rm.slots ≤ R.slots) :
    ∃ (o : Outcome) (t T' : State) (L : List Loc), Stand p l e R s m args below meth c T' (locs ++ L) (cells + zt_k mc 1 o) (slots + zt_k ms 6 o) ∧ T'.heap = t.heap ∧ T'.vm = t.vm ∧ (∀ q ∈ L, free q.base) ∧ Qc a (T.calling g mk a) o t ∧
      ((∃ v, o = .returned v ∧ Steps p.tables e below (doInvoke e (T.setTop g) [] mk a).1 (T'.setTop { g with pc := g.pc + len, stack := v.toList ++ g.stack })) ∨
       (∃ x, o = .threw x ∧ Steps p.tables e below (doInvoke e (T.setTop g) [] mk a).1 ((T'.setTop g).pushFrame (.throwing x)))) := by
  obtain ⟨kY, hkY, -⟩ := className_of_methodNamed hn
  have hinitY : kY.init = .initialized := Cond.initialized_spec (findClass_of_methodNamed hn) hkY hini
  have h : At T g.method c below := by rw [hg]; exact X.here
  have happ : (headSpec ws rm).appliesLoose y e.platform (T.calling g mk a) = true :=
    Spec.appliesLoose_calling (g := g) h hdg hn hkY hinitY
      (X.room_calling (g := g) (R' := (headSpec ws rm).room) hsize hmY hcY hfr (by rw [hlY]; show _ + _ + (maxL + 11) + rm.locals ≤ R.locals; omega) hcells hslots) (atoms_intro fun w hw => hws w hw _ _ X.warmed)
  obtain ⟨mid, hmid⟩ := h.above
  have hfr : (T.setTop g).frames = (.java g :: mid) ++ below := by rw [State.frames_setTop' g h.top, hmid]; rfl
  obtain ⟨o, s₂, hsteps, -, hend, hq, L, ⟨hW₂, hsame0⟩, hL⟩ := Steps.callFree hM p X.admits X.cas X.clock (acts := []) hfr happ (hblind _ _ _ _ hP) trivial
  have hq' : Qc a (T.calling g mk a) o s₂ := hq
  rw [State.frames_setTop' g h.top] at hend
  have hW' : T.WarmedH s₂.vm := hW₂
  cases o with
  | threw x =>
    have hend2 : Ended s₂ (.java g :: below) (.threw x) := by rw [← X.tail]; exact hend
    obtain ⟨T', X', -, -, ht⟩ := X.outOfThrown hg (mk := mk) (a := a) hend2 hW₂ hsame0
    refine ⟨.threw x, s₂, T', L, X', ?_, ?_, hL, hq', Or.inr ⟨x, rfl, ?_⟩⟩
    · rw [ht]; exact (Stand.throwing_heap T' g x).symm
    · rw [ht]; exact (Stand.throwing_vm T' g x).symm
    · rw [← ht]; exact hsteps
  | returned v =>
    have hsame1 : (T.calling g mk a).sameButNew ({ s₂ with vm := (T.calling g mk a).vm } : State) L (zt_k mc 1 (.returned v)) (zt_k ms 6 (.returned v)) := hsame0
    obtain ⟨e2, q2, q3, q4, q5, q6⟩ := hsame1
    have e3 : s₂ = ({ (T.calling g mk a).setFrames s₂.frames with heap := s₂.heap, slotsUsed := s₂.slotsUsed } : State).setVm s₂.vm := by
      have : s₂ = ({ s₂ with vm := (T.calling g mk a).vm } : State).setVm s₂.vm := rfl
      rw [e2] at this
      exact this
    obtain ⟨c₂, i₂, len₂, hc₂, hd₂, hf₂⟩ := hend
    have hcc : c₂ = c := by
      have h1 : s₂.code? g.method = T.code? g.method := by
        rw [State.code?_eq, State.code?_eq, hW'.alike.method?]
      exact Option.some.inj (hc₂.symm.trans (h1.trans h.code))
    subst hcc
    have hlen : len₂ = len := by rw [hdg] at hd₂; cases hd₂; rfl
    subst hlen
    obtain ⟨g₀, hg0⟩ := Option.isSome_iff_exists.mp h.top
    obtain ⟨r, hr⟩ := State.topJava?_eq_some.mp hg0
    have hs₂ : s₂ = (({ T with heap := s₂.heap, slotsUsed := s₂.slotsUsed } : State).setVm s₂.vm).setTop { g with pc := g.pc + len₂, stack := v.toList ++ g.stack } := by
      have hr' : (({ T with heap := s₂.heap, slotsUsed := s₂.slotsUsed } : State).setVm s₂.vm).frames = .java g₀ :: r := hr
      refine e3.trans ?_
      rw [hf₂, State.calling_eq h.top, State.setFrames_setFrames, State.setTop_of_frames _ hr', hr]
      rfl
    have hsame : T.sameButNew ({ T with heap := s₂.heap, slotsUsed := s₂.slotsUsed } : State) L (zt_k mc 1 (.returned v)) (zt_k ms 6 (.returned v)) := by
      refine ⟨?_, q2, q3, q4, q5, q6⟩
      obtain ⟨t, ht, -⟩ := State.frames_cons hr
      show ({ T with heap := s₂.heap, slotsUsed := s₂.slotsUsed } : State) = { T.setFrames T.frames with heap := s₂.heap, slotsUsed := s₂.slotsUsed }
      rw [State.setFrames_self ht]
    subst hg
    refine ⟨.returned v, s₂, (({ T with heap := s₂.heap, slotsUsed := s₂.slotsUsed } : State).setVm s₂.vm), L,
      ⟨X.admits, X.cas, X.clock, X.frames, X.room, X.hears, X.method, X.code, (X.here.setHeapUsed s₂.heap s₂.slotsUsed).setVm hW'.alike, X.tail, State.WarmedH.trans X.warmed hW', X.limits, X.bytes, X.same.trans (hsame.setVm s.vm)⟩,
      rfl, rfl, hL, hq', Or.inl ⟨v, rfl, ?_⟩⟩
    rw [← hs₂]
    exact hsteps
end ZTC
section ZTR
variable {p : Program} {l : Launch} {e : Env} {R : Room} {s : State} {m : MethodId} {args : Array Value} {below : List Frame} {meth : Method} {c : Code} {H : Heap} {locs : List Loc} {cells slots : Nat} {Q : State → Prop}
/-- a call that may throw -/
def zt_Run (p : Program) (l : Launch) (e : Env) (R : Room) (s : State) (m : MethodId) (args : Array Value) (below : List Frame) (meth : Method) (c : Code) (H : Heap) (locs : List Loc) (cells slots mc ms : Nat) (g : JFrame) (rest : List Value) (Qa : State → Outcome → State → Prop) (free : Addr → Prop) : Prop :=
  ∀ T : State, T.heap = H → Stand p l e R s m args below meth c T locs cells slots → ∃ (o : Outcome) (st₀ t T' : State) (L : List Loc), st₀.heap = H ∧ s.vm.Alike st₀.vm ∧ Stand p l e R s m args below meth c T' (locs ++ L) (cells + zt_k mc 1 o) (slots + zt_k ms 6 o) ∧ (∀ q ∈ L, free q.base) ∧ T'.heap = t.heap ∧ T'.vm = t.vm ∧ Qa st₀ o t ∧
    ((∃ v, o = .returned v ∧ Goes p e below T g T' { g with pc := g.pc + 3, stack := v.toList ++ rest }) ∨
     (∃ x, o = .threw x ∧ ∀ target, Steps p.tables e below ((T'.setTop { g with stack := rest }).pushFrame (.throwing x)) target → Steps p.tables e below (T.setTop g) target))
variable {y : MethodName} {bytes cc : ByteArray} {maxL nL mc ms n index : Nat} {ret : Option FieldType} {ws : List Cond} {rm : Room} {Pc : Array Value → State → Prop} {Qc : Array Value → State → Outcome → State → Prop} {free : Addr → Prop} {Ts : List Cond} {own C : String} {b : Addr} {As rest : List Value} {g : JFrame}
theorem zt_runV {kc ks : Nat} (S : CallFix p m c cc nL s args Ts own) (hM : MetT l y ws rm Pc Qc mc ms free) (cw : CallW R s args own C index y bytes maxL ret ws rm kc ks n) (hp : PreV s H C b Pc As)
    (hg : g.method = m) (hn : As.length = n) (hsize : g.locals.size = nL) (hstack : g.stack = As.reverse ++ .ref b :: rest) (hW : 2 * g.monitorRoom + (rest.map fun v => v.category).sum ≤ 8) (hdg : decode cc g.pc = .ok (.invokevirtual index, 3)) (hf : cells + rm.cells ≤ R.cells ∧ slots + rm.slots ≤ R.slots) :
    zt_Run p l e R s m args below meth c H locs cells slots mc ms g rest (Qc (Value.ref b :: As).toArray) free := by
  obtain ⟨⟨-, -, hfr, hlo, hws, hcw, hcode, hini, hy, hlen, hl⟩, hin, hse⟩ := cw
  obtain ⟨hx, hb, hml, ho, -⟩ := S
  obtain ⟨hblind, ⟨cellB, hcB, hoB, hclB⟩, hPc⟩ := hp
  intro T hT X
  obtain ⟨mk, methM, hnamed, hmethM, hstM, habM⟩ := Cond.instanceMethod_spec hin
  obtain ⟨methM', cM, hmethM', hcM, -, hlM, -, -, -, hsigM⟩ := Cond.code_spec hnamed hcode
  cases hmethM.symm.trans hmethM'
  obtain ⟨c2, r2, m2, q1, q2, q3, q4, kP, hkP, hkPi⟩ := Cond.selects_spec hse
  cases hclB.symm.trans q1
  cases (State.methodFound?_of_named hnamed hy).symm.trans q2
  cases hnamed.symm.trans q3
  have hselP : selectMethod e.platform s.vm cellB.cls mk = .method mk := by rw [Launch.admits_selectMethod X.admits]; exact q4
  obtain ⟨vm₁, X₁, hstep₁⟩ := X.invokevirtual hx ho hl hnamed hmethM hstM hkP hkPi hy (a := b) (cell := cellB) (by rw [hT]; exact hcB)
    (fun z h => by rw [h] at hoB; cases hoB) hselP hmethM habM hkP hkPi (g := g) hg (argsL := As) (rest := rest) (hn.trans (hlen _ hsigM)) hstack (by rw [hb]; exact hdg)
  have hal : s.vm.Alike (T.setVm vm₁).vm := X₁.warmed.alike
  obtain ⟨o, t, T', L, X', e1, e2, hL, hq, hend⟩ := zt_enter X₁ hM hblind hfr hlo hws (mk := mk) (methY := methM) (cY := cM) (X₁.named hnamed) (by rw [hal.method?]; exact hmethM) hcM hlM (ai := args)
    (word_at X₁.warmed (Or.inl (by first | rfl | simp [Cond.onTables, Cond.keeps, Cond.steady])) hini) (g := { g with stack := rest }) hg (by rw [hml]; exact hsize) (ig := .invokevirtual index) (len := 3) (by rw [hb]; exact hdg) hW (hPc (T.setVm vm₁) hT X₁.warmed) hf.1 hf.2
  refine ⟨o, (T.setVm vm₁).calling { g with stack := rest } mk (Value.ref b :: As).toArray, t, T', L, hT, hal, X', hL, e1, e2, hq, ?_⟩
  rcases hend with ⟨v, ev, st⟩ | ⟨x, ex, st⟩
  · exact Or.inl ⟨v, ev, fun target h => hstep₁ _ fun acts => by rw [doInvoke_state]; exact st.trans h⟩
  · exact Or.inr ⟨x, ex, fun target h => hstep₁ _ fun acts => by rw [doInvoke_state]; exact st.trans h⟩
theorem zt_runS {kc ks : Nat} (S : CallFix p m c cc nL s args Ts own) (hM : MetT l y ws rm Pc Qc mc ms free) (cw : CallB R s args own index y bytes maxL ret ws rm kc ks n ∧ (Cond.static y).before args s = true) (hp : PreS s H Pc As)
    (hg : g.method = m) (hn : As.length = n) (hsize : g.locals.size = nL) (hstack : g.stack = As.reverse ++ rest) (hW : 2 * g.monitorRoom + (rest.map fun v => v.category).sum ≤ 8) (hdg : decode cc g.pc = .ok (.invokestatic index, 3)) (hf : cells + rm.cells ≤ R.cells ∧ slots + rm.slots ≤ R.slots) :
    zt_Run p l e R s m args below meth c H locs cells slots mc ms g rest (Qc As.toArray) free := by
  obtain ⟨⟨-, -, hfr, hlo, hws, hcw, hcode, hini, hy, hlen, hl⟩, hstt⟩ := cw
  obtain ⟨hx, hb, hml, ho, -⟩ := S
  intro T hT X
  obtain ⟨mk, hnamed⟩ := Cond.code_named hcode
  obtain ⟨methM, cM, hmethM, hcM, -, hlM, -, -, -, hsigM⟩ := Cond.code_spec hnamed hcode
  have hstatic : methM.isStatic = true := Cond.static_spec hnamed hmethM hstt
  obtain ⟨kP, hkP, -⟩ := className_of_methodNamed hnamed
  have hinitP : kP.init = .initialized := Cond.initialized_spec (findClass_of_methodNamed hnamed) hkP hini
  obtain ⟨vm₁, X₁, hstep₁⟩ := X.invokestatic hx ho hl hnamed hmethM hstatic hkP hinitP hy (g := g) hg (argsL := As) (rest := rest) (hn.trans (hlen _ hsigM)) hstack (by rw [hb]; exact hdg)
  have hal : s.vm.Alike (T.setVm vm₁).vm := X₁.warmed.alike
  obtain ⟨o, t, T', L, X', e1, e2, hL, hq, hend⟩ := zt_enter X₁ hM hp.1 hfr hlo hws (mk := mk) (methY := methM) (cY := cM) (X₁.named hnamed) (by rw [hal.method?]; exact hmethM) hcM hlM (ai := args)
    (word_at X₁.warmed (Or.inl (by first | rfl | simp [Cond.onTables, Cond.keeps, Cond.steady])) hini) (g := { g with stack := rest }) hg (by rw [hml]; exact hsize) (ig := .invokestatic index) (len := 3) (by rw [hb]; exact hdg) hW (hp.2 (T.setVm vm₁) hT X₁.warmed) hf.1 hf.2
  refine ⟨o, (T.setVm vm₁).calling { g with stack := rest } mk As.toArray, t, T', L, hT, hal, X', hL, e1, e2, hq, ?_⟩
  rcases hend with ⟨v, ev, st⟩ | ⟨x, ex, st⟩
  · exact Or.inl ⟨v, ev, fun target h => hstep₁ _ fun acts => by rw [doInvoke_state]; exact st.trans h⟩
  · exact Or.inr ⟨x, ex, fun target h => hstep₁ _ fun acts => by rw [doInvoke_state]; exact st.trans h⟩
/-- a static method with handlers (the law's own) -/
theorem zt_runSW {hh : List (Nat × Nat × Nat × Nat)} (S : CallFix p m c cc nL s args Ts own) (hM : MetT l y ws rm Pc Qc mc ms free) (hfr : rm.frames + 1 ≤ R.frames) (hlo : 8 + (maxL + 11) + rm.locals ≤ R.locals)
    (hws : ∀ w ∈ ws, ∀ (a' : Array Value) (U : State), s.WarmedH U.vm → w.before a' U = true) (hcode : (Cond.codeWith y bytes maxL ret hh).before args s = true) (hini : (Cond.initialized y.cls).before args s = true) (hy : y.cls ≠ "java/lang/invoke/MethodHandle" ∧ y.cls ≠ "java/lang/invoke/VarHandle")
    (hlen : ∀ sig, parseMethodDescriptor y.desc = some sig → n = sig.parameters.length) (hl : (Cond.methodLink own index y).before args s = true) (hstt : (Cond.static y).before args s = true) (hp : PreS s H Pc As)
    (hg : g.method = m) (hn : As.length = n) (hsize : g.locals.size = nL) (hstack : g.stack = As.reverse ++ rest) (hW : 2 * g.monitorRoom + (rest.map fun v => v.category).sum ≤ 8) (hdg : decode cc g.pc = .ok (.invokestatic index, 3)) (hf : cells + rm.cells ≤ R.cells ∧ slots + rm.slots ≤ R.slots) :
    zt_Run p l e R s m args below meth c H locs cells slots mc ms g rest (Qc As.toArray) free := by
  obtain ⟨hx, hb, hml, ho, -⟩ := S
  intro T hT X
  obtain ⟨mk, methM, cM, hnamed, hmethM, hcM, -, hlM, -, -, -, hsigM⟩ := Cond.codeWith_spec hcode
  have hstatic : methM.isStatic = true := Cond.static_spec hnamed hmethM hstt
  obtain ⟨kP, hkP, -⟩ := className_of_methodNamed hnamed
  have hinitP : kP.init = .initialized := Cond.initialized_spec (findClass_of_methodNamed hnamed) hkP hini
  obtain ⟨vm₁, X₁, hstep₁⟩ := X.invokestatic hx ho hl hnamed hmethM hstatic hkP hinitP hy (g := g) hg (argsL := As) (rest := rest) (hn.trans (hlen _ hsigM)) hstack (by rw [hb]; exact hdg)
  have hal : s.vm.Alike (T.setVm vm₁).vm := X₁.warmed.alike
  obtain ⟨o, t, T', L, X', e1, e2, hL, hq, hend⟩ := zt_enter X₁ hM hp.1 hfr hlo hws (mk := mk) (methY := methM) (cY := cM) (X₁.named hnamed) (by rw [hal.method?]; exact hmethM) hcM hlM (ai := args)
    (word_at X₁.warmed (Or.inl (by first | rfl | simp [Cond.onTables, Cond.keeps, Cond.steady])) hini) (g := { g with stack := rest }) hg (by rw [hml]; exact hsize) (ig := .invokestatic index) (len := 3) (by rw [hb]; exact hdg) hW (hp.2 (T.setVm vm₁) hT X₁.warmed) hf.1 hf.2
  refine ⟨o, (T.setVm vm₁).calling { g with stack := rest } mk As.toArray, t, T', L, hT, hal, X', hL, e1, e2, hq, ?_⟩
  rcases hend with ⟨v, ev, st⟩ | ⟨x, ex, st⟩
  · exact Or.inl ⟨v, ev, fun target h => hstep₁ _ fun acts => by rw [doInvoke_state]; exact st.trans h⟩
  · exact Or.inr ⟨x, ex, fun target h => hstep₁ _ fun acts => by rw [doInvoke_state]; exact st.trans h⟩
/-- behind a call that may throw, the two roads -/
theorem zt_call {pc : Nat} {ls : Array Slot} {st0 : List Value} {Qa : State → Outcome → State → Prop} (hr : zt_Run p l e R s m args below meth c H locs cells slots mc ms (F0 m pc ls st0) rest Qa free)
    (kr : ∀ (v : Option Value) (st₀ t : State) (H1 : Heap) (L : List Loc), st₀.heap = H → s.vm.Alike st₀.vm → t.heap = H1 → s.vm.Alike t.vm → (∀ q ∈ L, free q.base) → Qa st₀ (.returned v) t → W p l e R s m args below meth c H1 (locs ++ L) (cells + mc) (slots + ms) Q (F0 m (pc + 3) ls (v.toList ++ rest)))
    (kt : ∀ (x : Nat) (st₀ t : State) (H1 : Heap) (L : List Loc), st₀.heap = H → s.vm.Alike st₀.vm → t.heap = H1 → s.vm.Alike t.vm → (∀ q ∈ L, free q.base) → Qa st₀ (.threw x) t → WT p l e R s m args below meth c H1 (locs ++ L) (cells + 1) (slots + 6) Q (F0 m pc ls rest) x) :
    W p l e R s m args below meth c H locs cells slots Q (F0 m pc ls st0) := by
  intro T hT X
  obtain ⟨o, st₀, t, T', L, h0, ha, X', hL, e1, e2, hq, hend⟩ := hr T hT X
  have hal : s.vm.Alike t.vm := by rw [← e2]; exact X'.warmed.alike
  rcases hend with ⟨v, rfl, st⟩ | ⟨x, rfl, st⟩
  · obtain ⟨t2, a1, b1⟩ := kr v st₀ t T'.heap L h0 ha e1.symm hal hL hq T' rfl X'
    exact ⟨t2, st t2 a1, b1⟩
  · obtain ⟨t2, a1, b1⟩ := kt x st₀ t T'.heap L h0 ha e1.symm hal hL hq T' rfl X'
    exact ⟨t2, st t2 a1, b1⟩
end ZTR
end
section
/-! A THROW OF A NEW EXCEPTION WITH A WRITTEN TEXT; a catch, its class resolved or not yet. -/
theorem zt_same {s U : State} {k n : Nat} (h : s.sameButNew ({ U with vm := s.vm } : State) [] k n) : s.heap.size ≤ U.heap.size ∧ ∀ q : Nat, q < s.heap.size → U.heap[q]? = s.heap[q]? := by
  obtain ⟨-, h2, -, -, -, h6⟩ := h
  refine ⟨h2, fun q hq => ?_⟩
  obtain ⟨c', q1, q2, q3, q4⟩ := h6 q s.heap[q] (Array.getElem?_eq_getElem hq)
  have hs : c'.slots = s.heap[q].slots := Array.ext_getElem? fun i => q4 i (by simp)
  have hc : c' = s.heap[q] := by rw [q2, hs]
  rw [Array.getElem?_eq_getElem hq, ← hc]
  exact q1
/-- an exception of the class cls is under way: it is new, nothing old has changed -/
def zt_Th (cls : String) (st t : State) (x : Nat) : Prop := (∃ ce : Cell, t.heap[x]? = some ce ∧ ce.vm.isStatics = false ∧ t.vm.findClass cls = some ce.cls) ∧ st.heap.size ≤ t.heap.size ∧ ∀ q : Nat, q < st.heap.size → t.heap[q]? = st.heap[q]?
/-- Throwable's two statics hold references -/
def zt_St (U : State) : Prop := (Cond.isRef (.static Bundle.tN "UNASSIGNED_STACK" Bundle.steD)).before #[] U = true ∧ (Cond.isRef (.static Bundle.tN "SUPPRESSED_SENTINEL" Bundle.listD)).before #[] U = true
section ZTN
variable {p : Program} {l : Launch} {e : Env} {R : Room} {s : State} {m : MethodId} {args : Array Value} {below : List Frame} {meth : Method} {c : Code} {H : Heap} {cells slots : Nat} {Q : State → Prop}
theorem zt_new {Qc : Array Value → State → Outcome → State → Prop} {free : Addr → Prop} {cc : ByteArray} (hx : p.tables.exec = Jvm.exec) (hb : c.code = cc) (htr : e.platform.stackTraces = false) {own cls tx : String} {names : List String} {icl ik ic : Nat}
    (hown : s.vm.findClass own = some m.cls) (hcls : Bundle.fit cls = true) (hnames : ∀ n ∈ names, Bundle.fit n = true) (h : ∀ a ∈ Bundle.ownAtoms own ic cls names, a.before args s = true)
    (hcl : (Cond.classLink own icl cls).before args s = true) (hins : (Cond.instantiable cls 6).before args s = true) (hini : (Cond.initialized cls).before args s = true) (htx : (Cond.stringRef own ik tx).before args s = true)
    {pc : Nat} {ls : Array Slot} {nL : Nat} (hsz : ls.size = nL) (hml : c.maxLocals = nL) (hd0 : decode cc pc = .ok (.new icl, 3)) (hd3 : decode cc (pc + 3) = .ok (.dup, 1)) (hd4 : decode cc (pc + 3 + 1) = .ok (.ldc ik, 2)) (hd6 : decode cc (pc + 3 + 1 + 2) = .ok (.invokespecial ic, 3)) (hd9 : decode cc (pc + 3 + 1 + 2 + 3) = .ok (.athrow, 1))
    (hout : ∀ z ∈ c.exceptionTable.toList, ∀ pc, covers z pc = false) (hlocks : meth.locks = false) (hsH : H = s.heap)
    (hcells : cells + 1 ≤ R.cells) (hslots : slots + 6 ≤ R.slots) (hRf : names.length + 3 < R.frames) (hRl : 1 + (13 * (names.length + 1) + 42) ≤ R.locals)
    (hq : ∀ (x : Nat) (t : State), zt_Th cls s t x → s.WarmedH t.vm → Qc args s (.threw x) t) {mc ms : Nat} (hc1 : cells + 1 ≤ 1) (hs1 : slots + 6 ≤ 6) :
    W p l e R s m args below meth c H [] cells slots (ZQ below Qc args s mc ms free) (F0 m pc ls []) := by
  subst hsH
  refine W.newc hx hb hown hcl hins hini rfl hd0 hcells hslots (fun cC kC h1 h2 h3 h4 => ?_)
  refine lv_dup hx hb hd3 rfl ?_
  obtain ⟨k, cf, i, a', -, -, -, -, -, hev⟩ := Cond.stringRef_spec hown htx
  intro T hT X
  have hst : ∀ target, Steps p.tables e below (T.setTop (F0 m (pc + 3 + 1 + 2) ls (.ref a' :: .ref s.heap.size :: .ref s.heap.size :: []))) target → Steps p.tables e below (T.setTop (F0 m (pc + 3 + 1) ls (.ref s.heap.size :: .ref s.heap.size :: []))) target :=
    fun target h9 => X.ldcString hx hown htx hev (g := F0 m (pc + 3 + 1) ls (.ref s.heap.size :: .ref s.heap.size :: [])) rfl (by rw [hb]; exact hd4) target h9
  have hcell : T.heap[s.heap.size]? = some (freshCell cC kC) := by rw [hT]; simp [freshCell]
  obtain ⟨U, u1, u2, u3, u4, u5, ce, u6, u7⟩ := X.ctorThrowS hx htr (own := own) (cls := cls) (names := names) (ic := ic) hown hcls hnames h (fun x hx => by cases hx) h1 h2 hcell (Nat.le_refl _) (msg := .ref a') rfl
    (g := F0 m (pc + 3 + 1 + 2) ls (.ref a' :: .ref s.heap.size :: .ref s.heap.size :: [])) rfl (by rw [hml]; exact hsz) rfl rfl (rest := []) rfl (by rw [hb]; exact hd6) (by rw [hb]; exact hd9) (fun z hz => hout z hz _) hRf (by show 2 * 0 + 1 + _ ≤ _; omega) hlocks
  have hal : s.vm.Alike U.vm := u4.alike
  refine ⟨U, hst U u1, .threw s.heap.size, u2, u3, hq _ U ⟨⟨ce, u6, by rw [u7.vm]; rfl, by rw [hal.findClass]; exact u7.cls⟩, zt_same u5⟩ u4, [], ⟨u4, u5.mono hc1 hs1⟩, fun q h => by cases h⟩
end ZTN
section ZTK
variable {E : CtlPost} {e : Env} {d : Bool} {acts : List Action} {s : State} {f : JFrame} {a : Addr} {Q : Handler → Pre}
theorem zk_cold {x : ExceptionTableEntry} {t : List ExceptionTableEntry} {c : ClassId} {vm' : Vm} {cell : Cell} (hx : covers x f.pc = true) (h0 : x.catchType ≠ 0) (hg : (Jvm.resolveClass f.method.cls x.catchType).Gives e.toSetting s.vm (.ok c) vm') (hsz : vm'.classes.size ≤ s.vm.classes.size)
    (hcell : s.heap[a]? = some cell) (hobj : ∀ k, cell.vm ≠ .statics k) (hk : ∃ k, vm'.classes[cell.cls]? = some k) (hc : ∃ k, vm'.classes[c]? = some k) :
    wp (findHandler.go f a (x :: t)) Q E e d acts s ↔ if vm'.assignable cell.cls c = true then Q (.found x.handlerPc) d acts (s.setVm vm') else wp (findHandler.go f a t) Q E e d acts (s.setVm vm') := by
  obtain ⟨ha, ht⟩ := hg.op (op := VmOp.resolveClass f.method.cls x.catchType) rfl
  simp only [covers] at hx
  cases hfit : vm'.assignable cell.cls c <;>
    simp [findHandler.go, hx, h0, ha, ht, hsz, hcell, hobj, hk, hc, hfit, VmOp.dirties, VmOp.acts]
theorem zk_step {s' : State} {r : List Frame} {pc : Nat} (hfind : ∀ (Q : Handler → Pre) (E : CtlPost) (d : Bool) (acts : List Action), wp (findHandler f a) Q E e d acts s ↔ Q (.found pc) d acts s') :
    (stepThrowing e s a (.java f :: r)).Is (s'.setFrames (.java { f with pc := pc, stack := [.ref a] } :: r)) [] := by
  simp only [stepThrowing, searchFrame, vmDo]
  generalize hr : Sem.go _ e false [] s = res
  obtain ⟨as, rfl, ha⟩ := Sem.eq_ok_of hr (a := Handler.found pc) (s' := s') (acts' := []) (by simp [hfind _ _ _ _])
  exact ⟨rfl, ha⟩
end ZTK
theorem zk_caught {tb : Tables} {e : Env} {s target : State} {g : JFrame} {c : Code} {below : List Frame} {a : Addr} (h : At s g.method c below) {vm' : Vm} {pc : Nat}
    (hfind : ∀ (Q : Handler → Pre) (E : CtlPost) (d : Bool) (acts : List Action), wp (findHandler g a) Q E e d acts ((s.setTop g).pushFrame (.throwing a)) ↔ Q (.found pc) d acts (((s.setTop g).pushFrame (.throwing a)).setVm vm'))
    (hrest : Steps tb e below ((s.setVm vm').setTop { g with pc := pc, stack := [.ref a] }) target) : Steps tb e below ((s.setTop g).pushFrame (.throwing a)) target := by
  obtain ⟨hgo, hw⟩ := h.throwing a
  refine Steps.head hgo hw ?_
  rw [stepThread_throwing (frames_entered h.top _), (zk_step hfind).1]
  obtain ⟨g₀, hg⟩ := Option.isSome_iff_exists.mp h.top
  obtain ⟨r, hr⟩ := State.topJava?_eq_some.mp hg
  have hr' : (s.setVm vm').frames = .java g₀ :: r := hr
  rw [State.setTop_of_frames _ hr'] at hrest
  have e1 : (((s.setTop g).pushFrame (.throwing a)).setVm vm').setFrames (.java { g with pc := pc, stack := [.ref a] } :: s.frames.tail) = (s.setVm vm').setFrames (.java { g with pc := pc, stack := [.ref a] } :: r) := by
    rw [hr, State.pushFrame, State.setTop_of_frames _ hr, State.setFrames_setFrames]
    show ((s.setFrames _).setFrames _).setVm vm' = _
    rw [State.setFrames_setFrames]
    rfl
  rw [e1]
  exact hrest
section ZTL
variable {p : Program} {l : Launch} {e : Env} {R : Room} {s : State} {m : MethodId} {args : Array Value} {below : List Frame} {meth : Method} {c : Code} {H : Heap} {locs : List Loc} {cells slots : Nat} {Q : State → Prop}
/-- the first entry of the table takes it -/
theorem zk_catch1 {own nm : String} {x pc hp ct sp ep : Nat} {hs : List (Nat × Nat × Nat × Nat)} {ls : Array Slot} {st : List Value} (hown : s.vm.findClass own = some m.cls) (htab : c.exceptionTable.toList.map (fun h => (h.startPc, h.endPc, h.handlerPc, h.catchType)) = (sp, ep, hp, ct) :: hs)
    (hcov : (decide (sp ≤ pc) && decide (pc < ep)) = true) (hct : ct ≠ 0) (hlink : (Cond.classLink own ct nm).before args s = true) (hr : ∃ cell : Cell, H[x]? = some cell ∧ cell.vm.isStatics = false ∧ s.vm.findClass nm = some cell.cls)
    (kk : W p l e R s m args below meth c H locs cells slots Q (F0 m hp ls [.ref x])) : WT p l e R s m args below meth c H locs cells slots Q (F0 m pc ls st) x := by
  intro T hT X
  obtain ⟨cell, h1, h2, h3⟩ := hr
  have hpl : e.platform.magicAccessors = ({} : Platform).magicAccessors := by rw [X.admits.platform]
  obtain ⟨c', hc', hcl⟩ := Cond.classLink_spec hown hlink e.platform hpl
  cases h3.symm.trans hc'
  obtain ⟨dk, _, _, kt, hd, _, _, _, _, hkt, _, hopen⟩ := hcl.here
  have hcl₀ := X.warmed.classLinks hcl
  have hW' : s.WarmedH (T.vm.noted m.cls ct (.cls cell.cls)) := X.warmed.noted hd hopen (State.rightAt_cls hcl)
  obtain ⟨kt', hkt', -⟩ := hW'.alike.2.2 _ _ hkt
  obtain ⟨t, a1, b1⟩ := kk (T.setVm (T.vm.noted m.cls ct (.cls cell.cls))) hT (X.noted hW')
  refine ⟨t, ?_, b1⟩
  refine zk_caught (g := F0 m pc ls st) X.here (vm' := T.vm.noted m.cls ct (.cls cell.cls)) (pc := hp) ?_ a1
  intro Q' E d acts
  cases htl : c.exceptionTable.toList with
  | nil => rw [htl] at htab; cases htab
  | cons z zs =>
    rw [htl, List.map_cons, List.cons.injEq] at htab
    obtain ⟨hz, -⟩ := htab
    simp only [Prod.mk.injEq] at hz
    obtain ⟨z1, z2, z3, z4⟩ := hz
    subst z1; subst z2; subst z3; subst z4
    rw [W.findHandler_eq (meth := meth) (code := c) X.method' X.code, htl]
    rw [zk_cold (c := cell.cls) (cell := cell) (vm' := T.vm.noted m.cls z.catchType (.cls cell.cls)) hcov hct (resolveClass_links e.toSetting hcl₀) (by show (T.vm.noted m.cls z.catchType (.cls cell.cls)).classes.size ≤ T.vm.classes.size; simp [Vm.noted]) (by show T.heap[x]? = _; rw [hT]; exact h1) (VmData.ne_statics_of h2) ⟨kt', hkt'⟩ ⟨kt', hkt'⟩, if_pos (va_asg _ _)]
/-- the first entry lets it pass, the second takes it -/
theorem zk_catch2 {own nm nm1 : String} {x pc hp ct sp ep hp1 ct1 sp1 ep1 : Nat} {hs : List (Nat × Nat × Nat × Nat)} {ls : Array Slot} {st : List Value} (hown : s.vm.findClass own = some m.cls) (htab : c.exceptionTable.toList.map (fun h => (h.startPc, h.endPc, h.handlerPc, h.catchType)) = (sp1, ep1, hp1, ct1) :: (sp, ep, hp, ct) :: hs)
    (hcov1 : (decide (sp1 ≤ pc) && decide (pc < ep1)) = true) (hct1 : ct1 ≠ 0) (hlink1 : (Cond.classLink own ct1 nm1).before args s = true) (hnc : va_Nc nm nm1 s)
    (hcov : (decide (sp ≤ pc) && decide (pc < ep)) = true) (hct : ct ≠ 0) (hlink : (Cond.classLink own ct nm).before args s = true) (hr : ∃ cell : Cell, H[x]? = some cell ∧ cell.vm.isStatics = false ∧ s.vm.findClass nm = some cell.cls)
    (kk : W p l e R s m args below meth c H locs cells slots Q (F0 m hp ls [.ref x])) : WT p l e R s m args below meth c H locs cells slots Q (F0 m pc ls st) x := by
  intro T hT X
  obtain ⟨cell, h1, h2, h3⟩ := hr
  have hpl : e.platform.magicAccessors = ({} : Platform).magicAccessors := by rw [X.admits.platform]
  obtain ⟨cn, c1, f1, f2, f3⟩ := hnc
  cases h3.symm.trans f1
  obtain ⟨c1', hc1', hcl1⟩ := Cond.classLink_spec hown hlink1 e.platform hpl
  cases f2.symm.trans hc1'
  obtain ⟨c', hc', hcl⟩ := Cond.classLink_spec hown hlink e.platform hpl
  cases h3.symm.trans hc'
  obtain ⟨dk1, _, _, kt1, hd1, _, _, _, _, hkt1, _, hopen1⟩ := hcl1.here
  obtain ⟨dk, _, _, kt, hd, _, _, _, _, hkt, _, hopen⟩ := hcl.here
  have hcl₁ := X.warmed.classLinks hcl1
  have hW1 : s.WarmedH (T.vm.noted m.cls ct1 (.cls c1)) := X.warmed.noted hd1 hopen1 (State.rightAt_cls hcl1)
  have hcl₀ := hW1.classLinks hcl
  have hW' : s.WarmedH ((T.vm.noted m.cls ct1 (.cls c1)).noted m.cls ct (.cls cell.cls)) := hW1.noted hd hopen (State.rightAt_cls hcl)
  obtain ⟨kt', hkt', -⟩ := hW'.alike.2.2 _ _ hkt
  obtain ⟨ka, hka, -⟩ := hW1.alike.2.2 _ _ hkt
  obtain ⟨kb, hkb, -⟩ := hW1.alike.2.2 _ _ hkt1
  have hno : (T.vm.noted m.cls ct1 (.cls c1)).assignable cell.cls c1 = false := by rw [hW1.alike.assignable]; exact f3
  obtain ⟨t, a1, b1⟩ := kk (T.setVm ((T.vm.noted m.cls ct1 (.cls c1)).noted m.cls ct (.cls cell.cls))) hT (X.noted hW')
  refine ⟨t, ?_, b1⟩
  refine zk_caught (g := F0 m pc ls st) X.here (vm' := (T.vm.noted m.cls ct1 (.cls c1)).noted m.cls ct (.cls cell.cls)) (pc := hp) ?_ a1
  intro Q' E d acts
  cases htl : c.exceptionTable.toList with
  | nil => rw [htl] at htab; cases htab
  | cons z zs =>
    cases zs with
    | nil => rw [htl] at htab; cases htab
    | cons w ws =>
      rw [htl, List.map_cons, List.map_cons, List.cons.injEq, List.cons.injEq] at htab
      obtain ⟨hz, hw, -⟩ := htab
      simp only [Prod.mk.injEq] at hz hw
      obtain ⟨z1, z2, z3, z4⟩ := hz
      obtain ⟨w1, w2, w3, w4⟩ := hw
      subst z1; subst z2; subst z3; subst z4; subst w1; subst w2; subst w3; subst w4
      rw [W.findHandler_eq (meth := meth) (code := c) X.method' X.code, htl]
      rw [zk_cold (c := c1) (cell := cell) (vm' := T.vm.noted m.cls z.catchType (.cls c1)) hcov1 hct1 (resolveClass_links e.toSetting hcl₁) (by show (T.vm.noted m.cls z.catchType (.cls c1)).classes.size ≤ T.vm.classes.size; simp [Vm.noted]) (by show T.heap[x]? = _; rw [hT]; exact h1) (VmData.ne_statics_of h2) ⟨ka, hka⟩ ⟨kb, hkb⟩, if_neg (by rw [hno]; decide)]
      rw [zk_cold (c := cell.cls) (cell := cell) (vm' := (T.vm.noted m.cls z.catchType (.cls c1)).noted m.cls w.catchType (.cls cell.cls)) hcov hct (resolveClass_links e.toSetting hcl₀) (by show ((T.vm.noted m.cls z.catchType (.cls c1)).noted m.cls w.catchType (.cls cell.cls)).classes.size ≤ (T.vm.noted m.cls z.catchType (.cls c1)).classes.size; simp [Vm.noted]) (by show T.heap[x]? = _; rw [hT]; exact h1) (VmData.ne_statics_of h2) ⟨kt', hkt'⟩ ⟨kt', hkt'⟩, if_pos (va_asg _ _)]
      rfl
end ZTL
end
section
/-! CALLS, with the one list of words; what a method starts from -/
def zw (y : MethodName) (b : ByteArray) (n : Nat) (r : Option FieldType) : List Cond := Cond.code y b n r :: BG
def zwW (y : MethodName) (b : ByteArray) (n : Nat) (r : Option FieldType) (hh : List (Nat × Nat × Nat × Nat)) : List Cond := Cond.codeWith y b n r hh :: BG
theorem zw_pay {args : Array Value} {s : State} {c0 : Cond} (htB : ∀ w ∈ BG, w.before args s = true) (hc : c0 ∈ BG) : ∀ w ∈ c0 :: BG, ∀ (a' : Array Value) (U : State), s.WarmedH U.vm → w.before a' U = true := by
  intro w hw a' U hW
  have h : w ∈ BG := (List.mem_cons.mp hw).elim (fun e => e ▸ hc) id
  exact zw_move hW (List.all_eq_true.mp BG_all w h) (htB w h)
def zB (D : va_G) (ws : va_W) (tys : List (ClassId × FieldType)) (U : State) : Prop := va_P D vwCl ws U.heap ∧ va_K D vwCl tys U
def zPre (As : List Value) (D : va_G) (ws : va_W) (tys : List (ClassId × FieldType)) : Array Value → State → Prop := va_Pc As (zB D ws tys)
theorem zPre_blind {As : List Value} {D : va_G} {ws : va_W} {tys : List (ClassId × FieldType)} : FrameBlind (zPre As D ws tys) := fun a U g mk q => ⟨q.1, q.2.1, va_K.moved (u := U) (U := U.calling g mk a) (Vm.Alike.refl U.vm) q.2.2⟩
theorem zPre_ok {As : List Value} {D : va_G} {ws : va_W} {tys : List (ClassId × FieldType)} {s : State} {H : Heap} (hP : va_P D vwCl ws H) (hK : va_K D vwCl tys s) : ∀ U : State, U.heap = H → s.WarmedH U.vm → zPre As D ws tys As.toArray U :=
  fun U hU hW => ⟨rfl, by rw [hU]; exact hP, va_K.moved hW.alike hK⟩
/-- Throwable's two statics: they lie there, and hold references -/
def zt_S4 (U : State) : Prop := (Cond.isRef (.static Bundle.tN "UNASSIGNED_STACK" Bundle.steD)).before #[] U = true ∧ (Cond.isRef (.static Bundle.tN "SUPPRESSED_SENTINEL" Bundle.listD)).before #[] U = true ∧
  (Cond.laysStatic Bundle.tN "UNASSIGNED_STACK" Bundle.steD).before #[] U = true ∧ (Cond.laysStatic Bundle.tN "SUPPRESSED_SENTINEL" Bundle.listD).before #[] U = true
theorem zt_ref {C n d : String} {A : Nat → Prop} {s : State} {args : Array Value} (h : va_Zq C n d A s s.heap) : (Cond.isRef (.static C n d)).before args s = true := by
  have key : ∀ v : Value, v.isRef = true → va_Z C n d v A s s.heap → (Cond.isRef (.static C n d)).before args s = true := by
    intro v hv h
    obtain ⟨cf, kf, fi, f, a, cell, h1, h2, h3, h4, h5, h6, h7, -⟩ := h
    have he : (Term.static C n d).eval args s none [] s = some v := by
      simp [Term.eval, State.fieldNamed?, h1, h2, h4, h5, h6, h7]
    simp only [Cond.before, Cond.holds, Cond.value, he]
    cases v <;> simp_all [Value.isRef]
  rcases h with h | ⟨t, h⟩
  · exact key _ rfl h
  · exact key _ rfl h
theorem zt_lays {C n d : String} {s U : State} {a a' : Array Value} (h : (Cond.laysStatic C n d).before a s = true) (hal : s.vm.Alike U.vm) (hq : ∀ q : Nat, q < s.heap.size → U.heap[q]? = s.heap[q]?) : (Cond.laysStatic C n d).before a' U = true := by
  obtain ⟨c, k, i, f, ad, cell, h1, h2, h3, h4, h5, h6, h7, h8, h9⟩ := Cond.laysStatic_spec h
  obtain ⟨k', hi', he⟩ := State.fieldFound?_setVm hal h2
  show (Cond.laysStatic C n d).holds a' U none U [] = true
  exact Cond.laysStatic_of (by rw [hal.findClass]; exact h1) hi' h3 (by rw [he]; exact h4) (by rw [hq ad (Array.getElem?_eq_some_iff.mp h5).1]; exact h5) h6 h7 h8 (by rw [he]; exact h9)
theorem zt_stat {C n d : String} {s U : State} {a a' : Array Value} (hi : (Cond.initialized C).before a s = true) (hl : (Cond.laysStatic C n d).before a s = true) (h : (Cond.isRef (.static C n d)).before a s = true) (hal : s.vm.Alike U.vm) (hq : ∀ q : Nat, q < s.heap.size → U.heap[q]? = s.heap[q]?) : (Cond.isRef (.static C n d)).before a' U = true := by
  have h1 : va_Zq C n d (fun _ => False) s s.heap := va_Zqof hl hi h (fun _ _ h => h)
  have h2 : va_Zq C n d (fun _ => False) U s.heap := va_Zq.moved hal h1
  exact zt_ref (va_Zq.kept h2 (fun q hlt _ => hq q hlt))
theorem zt_kept {s U : State} {a : Array Value} (hi : (Cond.initialized Bundle.tN).before a s = true) (h : zt_S4 s) (hal : s.vm.Alike U.vm) (hq : ∀ q : Nat, q < s.heap.size → U.heap[q]? = s.heap[q]?) : zt_S4 U :=
  ⟨zt_stat (a := #[]) hi h.2.2.1 h.1 hal hq, zt_stat (a := #[]) hi h.2.2.2 h.2.1 hal hq, zt_lays h.2.2.1 hal hq, zt_lays h.2.2.2 hal hq⟩
def zPreT (As : List Value) (D : va_G) (ws : va_W) (tys : List (ClassId × FieldType)) : Array Value → State → Prop := va_Pc As (fun U => zB D ws tys U ∧ zt_S4 U)
theorem zPreT_blind {As : List Value} {D : va_G} {ws : va_W} {tys : List (ClassId × FieldType)} : FrameBlind (zPreT As D ws tys) := fun a U g mk q => ⟨q.1, ⟨q.2.1.1, va_K.moved (u := U) (U := U.calling g mk a) (Vm.Alike.refl U.vm) q.2.1.2⟩, q.2.2⟩
theorem zm_init : Cond.initialized Bundle.tN ∈ BG := by decide +kernel
theorem zPreT_ok {As : List Value} {D : va_G} {ws : va_W} {tys : List (ClassId × FieldType)} {s : State} {args : Array Value} {H : Heap} (htB : ∀ w ∈ BG, w.before args s = true) (hP : va_P D vwCl ws H) (hK : va_K D vwCl tys s) (hSt : zt_S4 s) (hq : ∀ q : Nat, q < s.heap.size → H[q]? = s.heap[q]?) : ∀ U : State, U.heap = H → s.WarmedH U.vm → zPreT As D ws tys As.toArray U :=
  fun U hU hW => ⟨rfl, ⟨by rw [hU]; exact hP, va_K.moved hW.alike hK⟩, zt_kept (htB _ zm_init) hSt hW.alike (fun q h => by rw [hU]; exact hq q h)⟩
/-- the words of a throw of cls, by the two lists -/
def zt_is4 (w : Cond) : Bool := decide (w = .isRef (.static Bundle.tN "UNASSIGNED_STACK" Bundle.steD)) || decide (w = .isRef (.static Bundle.tN "SUPPRESSED_SENTINEL" Bundle.listD)) || decide (w = .laysStatic Bundle.tN "UNASSIGNED_STACK" Bundle.steD) || decide (w = .laysStatic Bundle.tN "SUPPRESSED_SENTINEL" Bundle.listD)
theorem zt_words {L : List Cond} {args : Array Value} {s : State} (h : L.all (fun w => zt_is4 w || decide (w ∈ BG)) = true) (htB : ∀ w ∈ BG, w.before args s = true) (hSt : zt_S4 s) : ∀ a ∈ L, a.before args s = true := by
  intro w hw
  have h1 := List.all_eq_true.mp h w hw
  simp only [zt_is4, Bool.or_eq_true, decide_eq_true_eq] at h1
  rcases h1 with (((h1 | h1) | h1) | h1) | h1
  · rw [h1]; exact hSt.1
  · rw [h1]; exact hSt.2.1
  · rw [h1]; exact zt_lays hSt.2.2.1 (Vm.Alike.refl s.vm) (fun _ _ => rfl)
  · rw [h1]; exact zt_lays hSt.2.2.2 (Vm.Alike.refl s.vm) (fun _ _ => rfl)
  · exact htB w h1
def zIAE : String := "java/lang/IllegalArgumentException"
def zISE : String := "java/lang/IllegalStateException"
def zUp : List String := ["java/lang/RuntimeException", "java/lang/Exception"]
section ZR
variable {p : Program} {l : Launch} {e : Env} {R : Room} {s : State} {m : MethodId} {args : Array Value} {below : List Frame} {meth : Method} {c : Code} {H : Heap} {locs : List Loc} {cells slots : Nat} {Q : State → Prop}
variable {y : MethodName} {b cc : ByteArray} {maxL nL mc ms n index : Nat} {ret : Option FieldType} {rm : Room} {Qc : Array Value → State → Outcome → State → Prop} {free : Addr → Prop} {own C host : String} {o : Addr} {As rest : List Value} {g : JFrame} {D : va_G} {ws : va_W} {tys : List (ClassId × FieldType)}
theorem zc_B (htB : ∀ w ∈ BG, w.before args s = true) (hc : Cond.code y b maxL ret ∈ BG) (hl : Cond.methodLink own index y ∈ BG) (hi : Cond.initialized y.cls ∈ BG) (hrc : rm.cells = mc) (hrs : rm.slots = ms)
    (hd : y.cls ≠ "java/lang/invoke/MethodHandle" ∧ y.cls ≠ "java/lang/invoke/VarHandle" ∧ (parseMethodDescriptor y.desc).map (fun d => d.parameters.length) = some n) (hR : rm.frames + 1 ≤ R.frames ∧ 8 + (maxL + 11) + rm.locals ≤ R.locals) : CallB R s args own index y b maxL ret (zw y b maxL ret) rm mc ms n :=
  ⟨hrc, hrs, hR.1, hR.2, zw_pay htB hc, List.mem_cons_self, htB _ hc, htB _ hi, ⟨hd.1, hd.2.1⟩, fun sig h => by have h2 := hd.2.2; rw [h] at h2; exact (Option.some.inj h2).symm, htB _ hl⟩
theorem zc_N (htB : ∀ w ∈ BG, w.before args s = true) (hc : Cond.code y b maxL ret ∈ BG) (hl : Cond.methodLinkNest own index y host ∈ BG) (hi : Cond.initialized y.cls ∈ BG) (hrc : rm.cells = mc) (hrs : rm.slots = ms)
    (hd : y.cls ≠ "java/lang/invoke/MethodHandle" ∧ y.cls ≠ "java/lang/invoke/VarHandle" ∧ (parseMethodDescriptor y.desc).map (fun d => d.parameters.length) = some n) (hR : rm.frames + 1 ≤ R.frames ∧ 8 + (maxL + 11) + rm.locals ≤ R.locals) : va_CN R s args own index y host b maxL ret (zw y b maxL ret) rm mc ms n :=
  ⟨⟨hrc, hrs, hR.1, hR.2, zw_pay htB hc, List.mem_cons_self⟩, htB _ hc, htB _ hi, ⟨hd.1, hd.2.1⟩, fun sig h => by have h2 := hd.2.2; rw [h] at h2; exact (Option.some.inj h2).symm, htB _ hl⟩
theorem zr_S (S : CallFix p m c cc nL s args BG own) (hM : Met l y (zw y b maxL ret) rm (zPre As D ws tys) Qc mc ms free) (hc : Cond.code y b maxL ret ∈ BG) (hl : Cond.methodLink own index y ∈ BG) (hst : Cond.static y ∈ BG) (hi : Cond.initialized y.cls ∈ BG) (hrc : rm.cells = mc) (hrs : rm.slots = ms)
    (hd : y.cls ≠ "java/lang/invoke/MethodHandle" ∧ y.cls ≠ "java/lang/invoke/VarHandle" ∧ (parseMethodDescriptor y.desc).map (fun d => d.parameters.length) = some n) (hR : rm.frames + 1 ≤ R.frames ∧ 8 + (maxL + 11) + rm.locals ≤ R.locals) (hP : va_P D vwCl ws H) (hK : va_K D vwCl tys s)
    (hg : g.method = m) (hn : As.length = n) (hsize : g.locals.size = nL) (hstack : g.stack = As.reverse ++ rest) (hW : 2 * g.monitorRoom + (rest.map fun v => v.category).sum ≤ 8) (hdg : decode cc g.pc = .ok (.invokestatic index, 3)) (hf : cells + mc ≤ R.cells ∧ slots + ms ≤ R.slots) :
    va_Run p l e R s m args below meth c H locs cells slots mc ms g rest (Qc As.toArray) free :=
  va_runS S hM ⟨zc_B S.2.2.2.2 hc hl hi hrc hrs hd hR, S.2.2.2.2 _ hst⟩ ⟨zPre_blind, zPre_ok hP hK⟩ hg hn hsize hstack hW hdg hf
theorem zr_SN (S : CallFix p m c cc nL s args BG own) (hM : Met l y (zw y b maxL ret) rm (zPre As D ws tys) Qc mc ms free) (hc : Cond.code y b maxL ret ∈ BG) (hl : Cond.methodLinkNest own index y host ∈ BG) (hst : Cond.static y ∈ BG) (hi : Cond.initialized y.cls ∈ BG) (hrc : rm.cells = mc) (hrs : rm.slots = ms)
    (hd : y.cls ≠ "java/lang/invoke/MethodHandle" ∧ y.cls ≠ "java/lang/invoke/VarHandle" ∧ (parseMethodDescriptor y.desc).map (fun d => d.parameters.length) = some n) (hR : rm.frames + 1 ≤ R.frames ∧ 8 + (maxL + 11) + rm.locals ≤ R.locals) (hP : va_P D vwCl ws H) (hK : va_K D vwCl tys s)
    (hg : g.method = m) (hn : As.length = n) (hsize : g.locals.size = nL) (hstack : g.stack = As.reverse ++ rest) (hW : 2 * g.monitorRoom + (rest.map fun v => v.category).sum ≤ 8) (hdg : decode cc g.pc = .ok (.invokestatic index, 3)) (hf : cells + mc ≤ R.cells ∧ slots + ms ≤ R.slots) :
    va_Run p l e R s m args below meth c H locs cells slots mc ms g rest (Qc As.toArray) free :=
  va_runSN S hM ⟨zc_N S.2.2.2.2 hc hl hi hrc hrs hd hR, S.2.2.2.2 _ hst, trivial⟩ ⟨zPre_blind, zPre_ok hP hK⟩ hg hn hsize hstack hW hdg hf
theorem zr_V {ci : Nat} {q : vw_C} {fs : List Value} {wr : va_W} (S : CallFix p m c cc nL s args BG own) (hM : Met l y (zw y b maxL ret) rm (zPre (.ref o :: As) D ((o, .inr (ci, fs)) :: wr) tys) Qc mc ms free) (hc : Cond.code y b maxL ret ∈ BG) (hl : Cond.methodLink own index y ∈ BG) (hin : Cond.instanceMethod y ∈ BG) (hse : Cond.selects q.1 y y ∈ BG) (hi : Cond.initialized y.cls ∈ BG) (hrc : rm.cells = mc) (hrs : rm.slots = ms)
    (hd : y.cls ≠ "java/lang/invoke/MethodHandle" ∧ y.cls ≠ "java/lang/invoke/VarHandle" ∧ (parseMethodDescriptor y.desc).map (fun d => d.parameters.length) = some n) (hR : rm.frames + 1 ≤ R.frames ∧ 8 + (maxL + 11) + rm.locals ≤ R.locals) (hP : va_P D vwCl ((o, .inr (ci, fs)) :: wr) H) (hK : va_K D vwCl tys s) (hci : vwCl[ci]? = some q)
    (hg : g.method = m) (hn : As.length = n) (hsize : g.locals.size = nL) (hstack : g.stack = As.reverse ++ .ref o :: rest) (hW : 2 * g.monitorRoom + (rest.map fun v => v.category).sum ≤ 8) (hdg : decode cc g.pc = .ok (.invokevirtual index, 3)) (hf : cells + mc ≤ R.cells ∧ slots + ms ≤ R.slots) :
    va_Run p l e R s m args below meth c H locs cells slots mc ms g rest (Qc (Value.ref o :: As).toArray) free :=
  va_runV (C := q.1) S hM ⟨zc_B S.2.2.2.2 hc hl hi hrc hrs hd hR, S.2.2.2.2 _ hin, S.2.2.2.2 _ hse⟩ ⟨zPre_blind, va_recv hK hP hci (q0 := 0) rfl, zPre_ok hP hK⟩ hg hn hsize hstack hW hdg hf
theorem zr_I (S : CallFix p m c cc nL s args BG own) (hM : Met l y (zw y b maxL none) rm (zPre (.ref o :: As) D ws tys) Qc mc ms free) (hc : Cond.code y b maxL none ∈ BG) (hl : Cond.methodLink own index y ∈ BG) (hin : Cond.instanceMethod y ∈ BG) (hnm : y.name = "<init>") (hi : Cond.initialized y.cls ∈ BG) (hrc : rm.cells = mc) (hrs : rm.slots = ms)
    (hd : y.cls ≠ "java/lang/invoke/MethodHandle" ∧ y.cls ≠ "java/lang/invoke/VarHandle" ∧ (parseMethodDescriptor y.desc).map (fun d => d.parameters.length) = some n) (hR : rm.frames + 1 ≤ R.frames ∧ 8 + (maxL + 11) + rm.locals ≤ R.locals) (hP : va_P D vwCl ws H) (hK : va_K D vwCl tys s)
    (hg : g.method = m) (hn : As.length = n) (hsize : g.locals.size = nL) (hstack : g.stack = As.reverse ++ .ref o :: rest) (hW : 2 * g.monitorRoom + (rest.map fun v => v.category).sum ≤ 8) (hdg : decode cc g.pc = .ok (.invokespecial index, 3)) (hf : cells + mc ≤ R.cells ∧ slots + ms ≤ R.slots) :
    va_Run p l e R s m args below meth c H locs cells slots mc ms g rest (Qc (Value.ref o :: As).toArray) free :=
  va_runI S hM ⟨zc_B S.2.2.2.2 hc hl hi hrc hrs hd hR, hnm, S.2.2.2.2 _ hin⟩ ⟨zPre_blind, zPre_ok hP hK⟩ hg hn hsize hstack hW hdg hf
theorem zr_IN (S : CallFix p m c cc nL s args BG own) (hM : Met l y (zw y b maxL none) rm (zPre (.ref o :: As) D ws tys) Qc mc ms free) (hc : Cond.code y b maxL none ∈ BG) (hl : Cond.methodLinkNest own index y host ∈ BG) (hin : Cond.instanceMethod y ∈ BG) (hnm : y.name = "<init>") (hi : Cond.initialized y.cls ∈ BG) (hrc : rm.cells = mc) (hrs : rm.slots = ms)
    (hd : y.cls ≠ "java/lang/invoke/MethodHandle" ∧ y.cls ≠ "java/lang/invoke/VarHandle" ∧ (parseMethodDescriptor y.desc).map (fun d => d.parameters.length) = some n) (hR : rm.frames + 1 ≤ R.frames ∧ 8 + (maxL + 11) + rm.locals ≤ R.locals) (hP : va_P D vwCl ws H) (hK : va_K D vwCl tys s)
    (hg : g.method = m) (hn : As.length = n) (hsize : g.locals.size = nL) (hstack : g.stack = As.reverse ++ .ref o :: rest) (hW : 2 * g.monitorRoom + (rest.map fun v => v.category).sum ≤ 8) (hdg : decode cc g.pc = .ok (.invokespecial index, 3)) (hf : cells + mc ≤ R.cells ∧ slots + ms ≤ R.slots) :
    va_Run p l e R s m args below meth c H locs cells slots mc ms g rest (Qc (Value.ref o :: As).toArray) free :=
  va_runIN S hM ⟨zc_N S.2.2.2.2 hc hl hi hrc hrs hd hR, hnm, S.2.2.2.2 _ hin⟩ ⟨zPre_blind, zPre_ok hP hK⟩ hg hn hsize hstack hW hdg hf
/-- calls of methods that may throw -/
theorem zr_TS (S : CallFix p m c cc nL s args BG own) (hM : MetT l y (zw y b maxL ret) rm (zPreT As D ws tys) Qc mc ms free) (hc : Cond.code y b maxL ret ∈ BG) (hl : Cond.methodLink own index y ∈ BG) (hst : Cond.static y ∈ BG) (hi : Cond.initialized y.cls ∈ BG)
    (hd : y.cls ≠ "java/lang/invoke/MethodHandle" ∧ y.cls ≠ "java/lang/invoke/VarHandle" ∧ (parseMethodDescriptor y.desc).map (fun d => d.parameters.length) = some n) (hR : rm.frames + 1 ≤ R.frames ∧ 8 + (maxL + 11) + rm.locals ≤ R.locals) (hP : va_P D vwCl ws H) (hK : va_K D vwCl tys s) (hSt : zt_S4 s) (hq : ∀ q : Nat, q < s.heap.size → H[q]? = s.heap[q]?)
    (hg : g.method = m) (hn : As.length = n) (hsize : g.locals.size = nL) (hstack : g.stack = As.reverse ++ rest) (hW : 2 * g.monitorRoom + (rest.map fun v => v.category).sum ≤ 8) (hdg : decode cc g.pc = .ok (.invokestatic index, 3)) (hf : cells + rm.cells ≤ R.cells ∧ slots + rm.slots ≤ R.slots) :
    zt_Run p l e R s m args below meth c H locs cells slots mc ms g rest (Qc As.toArray) free :=
  zt_runS S hM ⟨zc_B S.2.2.2.2 hc hl hi rfl rfl hd hR, S.2.2.2.2 _ hst⟩ ⟨zPreT_blind, zPreT_ok S.2.2.2.2 hP hK hSt hq⟩ hg hn hsize hstack hW hdg hf
theorem zr_TV {ci : Nat} {q : vw_C} {fs : List Value} {wr : va_W} (S : CallFix p m c cc nL s args BG own) (hM : MetT l y (zw y b maxL ret) rm (zPreT (.ref o :: As) D ((o, .inr (ci, fs)) :: wr) tys) Qc mc ms free) (hc : Cond.code y b maxL ret ∈ BG) (hl : Cond.methodLink own index y ∈ BG) (hin : Cond.instanceMethod y ∈ BG) (hse : Cond.selects q.1 y y ∈ BG) (hi : Cond.initialized y.cls ∈ BG)
    (hd : y.cls ≠ "java/lang/invoke/MethodHandle" ∧ y.cls ≠ "java/lang/invoke/VarHandle" ∧ (parseMethodDescriptor y.desc).map (fun d => d.parameters.length) = some n) (hR : rm.frames + 1 ≤ R.frames ∧ 8 + (maxL + 11) + rm.locals ≤ R.locals) (hP : va_P D vwCl ((o, .inr (ci, fs)) :: wr) H) (hK : va_K D vwCl tys s) (hSt : zt_S4 s) (hq : ∀ q : Nat, q < s.heap.size → H[q]? = s.heap[q]?) (hci : vwCl[ci]? = some q)
    (hg : g.method = m) (hn : As.length = n) (hsize : g.locals.size = nL) (hstack : g.stack = As.reverse ++ .ref o :: rest) (hW : 2 * g.monitorRoom + (rest.map fun v => v.category).sum ≤ 8) (hdg : decode cc g.pc = .ok (.invokevirtual index, 3)) (hf : cells + rm.cells ≤ R.cells ∧ slots + rm.slots ≤ R.slots) :
    zt_Run p l e R s m args below meth c H locs cells slots mc ms g rest (Qc (Value.ref o :: As).toArray) free :=
  zt_runV (C := q.1) S hM ⟨zc_B S.2.2.2.2 hc hl hi rfl rfl hd hR, S.2.2.2.2 _ hin, S.2.2.2.2 _ hse⟩ ⟨zPreT_blind, va_recv hK hP hci (q0 := 0) rfl, zPreT_ok S.2.2.2.2 hP hK hSt hq⟩ hg hn hsize hstack hW hdg hf
end ZR
theorem zw_IAE : (Bundle.ownAtoms R_CD 155 zIAE zUp).all (fun w => zt_is4 w || decide (w ∈ BG)) = true := by decide +kernel
end
section
theorem zw_ISE : (Bundle.ownAtoms R_CD 72 zISE zUp).all (fun w => zt_is4 w || decide (w ∈ BG)) = true := by decide +kernel
set_option maxRecDepth 20000 in
theorem ms_RT_issuerAt : Cond.selects R_RT y_RT_issuerAt y_RT_issuerAt ∈ BG := (zm_0 (i := 1) rfl rfl)
set_option maxRecDepth 20000 in
theorem ms_CD_requireAccount : Cond.selects R_CD y_CD_requireAccount y_CD_requireAccount ∈ BG := (zm_0 (i := 2) rfl rfl)
set_option maxRecDepth 20000 in
theorem ms_CD_requireCard : Cond.selects R_CD y_CD_requireCard y_CD_requireCard ∈ BG := (zm_0 (i := 3) rfl rfl)
set_option maxRecDepth 20000 in
theorem ms_CD_requireTime : Cond.selects R_CD y_CD_requireTime y_CD_requireTime ∈ BG := (zm_0 (i := 4) rfl rfl)
set_option maxRecDepth 20000 in
theorem ms_MO_placeOf : Cond.selects R_MO y_MO_placeOf y_MO_placeOf ∈ BG := (zm_0 (i := 5) rfl rfl)
set_option maxRecDepth 20000 in
theorem ms_MO_goes : Cond.selects R_MO y_MO_goes y_MO_goes ∈ BG := (zm_0 (i := 6) rfl rfl)
set_option maxRecDepth 20000 in
theorem ms_MO_routed : Cond.selects R_MO y_MO_routed y_MO_routed ∈ BG := (zm_0 (i := 7) rfl rfl)
set_option maxRecDepth 20000 in
theorem ms_MO_cardOf : Cond.selects R_MO y_MO_cardOf y_MO_cardOf ∈ BG := (zm_0 (i := 8) rfl rfl)
set_option maxRecDepth 20000 in
theorem ms_MO_since : Cond.selects R_MO y_MO_since y_MO_since ∈ BG := (zm_0 (i := 9) rfl rfl)
set_option maxRecDepth 20000 in
theorem ni_LW : (Cond.initialized R_LW) ∈ BG := (zm_1 (i := 0) rfl rfl)
set_option maxRecDepth 20000 in
theorem ni_CD : (Cond.initialized R_CD) ∈ BG := (zm_1 (i := 1) rfl rfl)
set_option maxRecDepth 20000 in
theorem ni_RT : (Cond.initialized R_RT) ∈ BG := (zm_1 (i := 3) rfl rfl)
set_option maxRecDepth 20000 in
theorem ni_AT : (Cond.initialized R_AT) ∈ BG := (zm_1 (i := 4) rfl rfl)
set_option maxRecDepth 20000 in
theorem ni_CT : (Cond.initialized R_CT) ∈ BG := (zm_1 (i := 6) rfl rfl)
set_option maxRecDepth 20000 in
theorem ni_MO : (Cond.initialized R_MO) ∈ BG := (zm_1 (i := 7) rfl rfl)
set_option maxRecDepth 20000 in
theorem lc_LW_8 : (Cond.classLink R_LW 8 "CardDirectory") ∈ BG := (zm_1 (i := 13) rfl rfl)
set_option maxRecDepth 20000 in
theorem nn_CD : (Cond.instantiable R_CD 6) ∈ BG := (zm_1 (i := 14) rfl rfl)
set_option maxRecDepth 20000 in
theorem lk_LW_60 : (Cond.methodLink R_LW 60 y_CD_init) ∈ BG := (zm_1 (i := 15) rfl rfl)
set_option maxRecDepth 20000 in
theorem mi_CD_init : Cond.instanceMethod y_CD_init ∈ BG := (zm_1 (i := 16) rfl rfl)
set_option maxRecDepth 20000 in
theorem lk_CD_1 : (Cond.methodLink R_CD 1 objectInit) ∈ BG := (zm_1 (i := 18) rfl rfl)
set_option maxRecDepth 20000 in
theorem lk_CD_9 : (Cond.methodLink R_CD 9 Lib.Math.min.name) ∈ BG := (zm_1 (i := 21) rfl rfl)
set_option maxRecDepth 20000 in
theorem lk_CD_15 : (Cond.methodLink R_CD 15 Lib.Math.max.name) ∈ BG := (zm_1 (i := 24) rfl rfl)
set_option maxRecDepth 20000 in
theorem lc_CD_25 : (Cond.classLink R_CD 25 "CardDirectory$RouteTable") ∈ BG := (zm_1 (i := 27) rfl rfl)
set_option maxRecDepth 20000 in
theorem nn_RT : (Cond.instantiable R_RT 4) ∈ BG := (zm_1 (i := 28) rfl rfl)
set_option maxRecDepth 20000 in
theorem lkN_CD_27 : (Cond.methodLinkNest R_CD 27 y_RT_init "CardDirectory") ∈ BG := (zm_1 (i := 29) rfl rfl)
set_option maxRecDepth 20000 in
theorem mi_RT_init : Cond.instanceMethod y_RT_init ∈ BG := (zm_1 (i := 30) rfl rfl)
set_option maxRecDepth 20000 in
theorem lk_RT_3 : (Cond.methodLink R_RT 3 objectInit) ∈ BG := (zm_1 (i := 32) rfl rfl)
set_option maxRecDepth 20000 in
theorem lf_RT_11 : (Cond.fieldLink R_RT 11 "CardDirectory$RouteTable" "prefixes" "[I") ∈ BG := (zm_1 (i := 33) rfl rfl)
set_option maxRecDepth 20000 in
theorem lf_RT_15 : (Cond.fieldLink R_RT 15 "CardDirectory$RouteTable" "lengths" "[I") ∈ BG := (zm_1 (i := 34) rfl rfl)
set_option maxRecDepth 20000 in
theorem lf_RT_18 : (Cond.fieldLink R_RT 18 "CardDirectory$RouteTable" "issuers" "[I") ∈ BG := (zm_1 (i := 35) rfl rfl)
set_option maxRecDepth 20000 in
theorem lf_RT_21 : (Cond.fieldLink R_RT 21 "CardDirectory$RouteTable" "count" "I") ∈ BG := (zm_1 (i := 36) rfl rfl)
set_option maxRecDepth 20000 in
theorem lfN_CD_83 : (Cond.fieldLinkNest R_CD 83 "CardDirectory$RouteTable" "count" "I" "CardDirectory") ∈ BG := (zm_1 (i := 37) rfl rfl)
set_option maxRecDepth 20000 in
theorem lc_CD_32 : (Cond.classLink R_CD 32 "CardDirectory$AccountTable") ∈ BG := (zm_1 (i := 48) rfl rfl)
set_option maxRecDepth 20000 in
theorem nn_AT : (Cond.instantiable R_AT 4) ∈ BG := (zm_1 (i := 49) rfl rfl)
set_option maxRecDepth 20000 in
theorem lk_CD_34 : (Cond.methodLink R_CD 34 y_AT_init) ∈ BG := (zm_1 (i := 50) rfl rfl)
set_option maxRecDepth 20000 in
theorem mi_AT_init : Cond.instanceMethod y_AT_init ∈ BG := (zm_1 (i := 51) rfl rfl)
set_option maxRecDepth 20000 in
theorem lk_AT_3 : (Cond.methodLink R_AT 3 objectInit) ∈ BG := (zm_1 (i := 53) rfl rfl)
set_option maxRecDepth 20000 in
theorem lk_AT_25 : (Cond.methodLink R_AT 25 ⟨"java/util/Arrays", "fill", "([II)V"⟩) ∈ BG := (zm_1 (i := 54) rfl rfl)
set_option maxRecDepth 20000 in
theorem lf_AT_11 : (Cond.fieldLink R_AT 11 "CardDirectory$AccountTable" "issuers" "[I") ∈ BG := (zm_1 (i := 57) rfl rfl)
set_option maxRecDepth 20000 in
theorem lf_AT_15 : (Cond.fieldLink R_AT 15 "CardDirectory$AccountTable" "useTimes" "[I") ∈ BG := (zm_1 (i := 58) rfl rfl)
set_option maxRecDepth 20000 in
theorem lf_AT_18 : (Cond.fieldLink R_AT 18 "CardDirectory$AccountTable" "oldest" "[I") ∈ BG := (zm_1 (i := 59) rfl rfl)
set_option maxRecDepth 20000 in
theorem lf_AT_21 : (Cond.fieldLink R_AT 21 "CardDirectory$AccountTable" "count" "I") ∈ BG := (zm_1 (i := 60) rfl rfl)
set_option maxRecDepth 20000 in
theorem lc_CD_39 : (Cond.classLink R_CD 39 "CardDirectory$CardTable") ∈ BG := (zm_1 (i := 70) rfl rfl)
set_option maxRecDepth 20000 in
theorem nn_CT : (Cond.instantiable R_CT 4) ∈ BG := (zm_1 (i := 71) rfl rfl)
set_option maxRecDepth 20000 in
theorem lkN_CD_41 : (Cond.methodLinkNest R_CD 41 y_CT_init "CardDirectory") ∈ BG := (zm_1 (i := 72) rfl rfl)
set_option maxRecDepth 20000 in
theorem mi_CT_init : Cond.instanceMethod y_CT_init ∈ BG := (zm_1 (i := 73) rfl rfl)
set_option maxRecDepth 20000 in
theorem lk_CT_3 : (Cond.methodLink R_CT 3 objectInit) ∈ BG := (zm_1 (i := 75) rfl rfl)
set_option maxRecDepth 20000 in
theorem lf_CT_11 : (Cond.fieldLink R_CT 11 "CardDirectory$CardTable" "numbers" "[J") ∈ BG := (zm_1 (i := 76) rfl rfl)
set_option maxRecDepth 20000 in
theorem lf_CT_15 : (Cond.fieldLink R_CT 15 "CardDirectory$CardTable" "accounts" "[I") ∈ BG := (zm_1 (i := 77) rfl rfl)
set_option maxRecDepth 20000 in
theorem lf_CT_19 : (Cond.fieldLink R_CT 19 "CardDirectory$CardTable" "blocked" "[Z") ∈ BG := (zm_1 (i := 78) rfl rfl)
set_option maxRecDepth 20000 in
theorem lf_CT_23 : (Cond.fieldLink R_CT 23 "CardDirectory$CardTable" "count" "I") ∈ BG := (zm_1 (i := 79) rfl rfl)
set_option maxRecDepth 20000 in
theorem lf_CD_18 : (Cond.fieldLink R_CD 18 "CardDirectory" "window" "I") ∈ BG := (zm_1 (i := 91) rfl rfl)
set_option maxRecDepth 20000 in
theorem lf_CD_22 : (Cond.fieldLink R_CD 22 "CardDirectory" "many" "I") ∈ BG := (zm_1 (i := 92) rfl rfl)
set_option maxRecDepth 20000 in
theorem lf_CD_28 : (Cond.fieldLink R_CD 28 "CardDirectory" "routeTable" "LCardDirectory$RouteTable;") ∈ BG := (zm_1 (i := 93) rfl rfl)
set_option maxRecDepth 20000 in
theorem lf_CD_35 : (Cond.fieldLink R_CD 35 "CardDirectory" "accountTable" "LCardDirectory$AccountTable;") ∈ BG := (zm_1 (i := 94) rfl rfl)
set_option maxRecDepth 20000 in
theorem lf_CD_42 : (Cond.fieldLink R_CD 42 "CardDirectory" "cardTable" "LCardDirectory$CardTable;") ∈ BG := (zm_1 (i := 95) rfl rfl)
set_option maxRecDepth 20000 in
theorem lf_CD_46 : (Cond.fieldLink R_CD 46 "CardDirectory" "latestTime" "I") ∈ BG := (zm_1 (i := 96) rfl rfl)
set_option maxRecDepth 20000 in
theorem lk_LW_78 : (Cond.methodLink R_LW 78 y_CD_routes) ∈ BG := (zm_1 (i := 110) rfl rfl)
set_option maxRecDepth 20000 in
theorem mi_CD_routes : Cond.instanceMethod y_CD_routes ∈ BG := (zm_1 (i := 111) rfl rfl)
set_option maxRecDepth 20000 in
theorem ms_CD_routes : Cond.selects R_CD y_CD_routes y_CD_routes ∈ BG := (zm_1 (i := 112) rfl rfl)
set_option maxRecDepth 20000 in
theorem lk_LW_54 : (Cond.methodLink R_LW 54 y_LW_cell) ∈ BG := (zm_1 (i := 114) rfl rfl)
set_option maxRecDepth 20000 in
theorem mt_LW_cell : Cond.static y_LW_cell ∈ BG := (zm_1 (i := 115) rfl rfl)
set_option maxRecDepth 20000 in
theorem lk_LW_66 : (Cond.methodLink R_LW 66 y_LW_route) ∈ BG := (zm_1 (i := 117) rfl rfl)
set_option maxRecDepth 20000 in
theorem mt_LW_route : Cond.static y_LW_route ∈ BG := (zm_1 (i := 118) rfl rfl)
set_option maxRecDepth 20000 in
theorem lc_LW_13 : (Cond.classLink R_LW 13 "java/lang/IllegalArgumentException") ∈ BG := (zm_1 (i := 120) rfl rfl)
set_option maxRecDepth 20000 in
theorem lc_LW_15 : (Cond.classLink R_LW 15 "java/lang/IllegalStateException") ∈ BG := (zm_1 (i := 121) rfl rfl)
set_option maxRecDepth 20000 in
theorem lk_LW_7 : (Cond.methodLink R_LW 7 y_CD_route) ∈ BG := (zm_1 (i := 122) rfl rfl)
set_option maxRecDepth 20000 in
theorem mi_CD_route : Cond.instanceMethod y_CD_route ∈ BG := (zm_1 (i := 123) rfl rfl)
set_option maxRecDepth 20000 in
theorem ms_CD_route : Cond.selects R_CD y_CD_route y_CD_route ∈ BG := (zm_1 (i := 124) rfl rfl)
set_option maxRecDepth 20000 in
theorem lk_CD_49 : (Cond.methodLink R_CD 49 y_CD_requireIssuer) ∈ BG := (zm_1 (i := 126) rfl rfl)
set_option maxRecDepth 20000 in
theorem mt_CD_requireIssuer : Cond.static y_CD_requireIssuer ∈ BG := (zm_1 (i := 127) rfl rfl)
set_option maxRecDepth 20000 in
theorem lc_CD_151 : (Cond.classLink R_CD 151 "java/lang/IllegalArgumentException") ∈ BG := (zm_1 (i := 129) rfl rfl)
set_option maxRecDepth 20000 in
theorem sr_CD_156 : (Cond.stringRef R_CD 156 "no such issuer") ∈ BG := (zm_1 (i := 169) rfl rfl)
set_option maxRecDepth 20000 in
theorem lk_CD_155 : (Cond.methodLink R_CD 155 ⟨"java/lang/IllegalArgumentException", "<init>", "(Ljava/lang/String;)V"⟩) ∈ BG := (zm_1 (i := 170) rfl rfl)
set_option maxRecDepth 20000 in
theorem lk_CD_53 : (Cond.methodLink R_CD 53 y_CD_requirePrefix) ∈ BG := (zm_1 (i := 196) rfl rfl)
set_option maxRecDepth 20000 in
theorem mt_CD_requirePrefix : Cond.static y_CD_requirePrefix ∈ BG := (zm_1 (i := 197) rfl rfl)
set_option maxRecDepth 20000 in
theorem sr_CD_158 : (Cond.stringRef R_CD 158 "digits are not 1 .. 8") ∈ BG := (zm_1 (i := 199) rfl rfl)
set_option maxRecDepth 20000 in
theorem lk_CD_148 : (Cond.methodLink R_CD 148 y_CD_digitsOf) ∈ BG := (zm_1 (i := 200) rfl rfl)
set_option maxRecDepth 20000 in
theorem mt_CD_digitsOf : Cond.static y_CD_digitsOf ∈ BG := (zm_1 (i := 201) rfl rfl)
set_option maxRecDepth 20000 in
theorem kl_CD_123 : (Cond.constantLong R_CD 123 10) ∈ BG := (zm_1 (i := 203) rfl rfl)
set_option maxRecDepth 20000 in
theorem sr_CD_160 : (Cond.stringRef R_CD 160 "prefix is below 0 or has more digits") ∈ BG := (zm_1 (i := 204) rfl rfl)
set_option maxRecDepth 20000 in
theorem lk_CD_57 : (Cond.methodLink R_CD 57 y_RT_find) ∈ BG := (zm_1 (i := 205) rfl rfl)
set_option maxRecDepth 20000 in
theorem mi_RT_find : Cond.instanceMethod y_RT_find ∈ BG := (zm_1 (i := 206) rfl rfl)
set_option maxRecDepth 20000 in
theorem ms_RT_find : Cond.selects R_RT y_RT_find y_RT_find ∈ BG := (zm_1 (i := 207) rfl rfl)
set_option maxRecDepth 20000 in
theorem lk_CD_61 : (Cond.methodLink R_CD 61 y_RT_redirect) ∈ BG := (zm_1 (i := 209) rfl rfl)
set_option maxRecDepth 20000 in
theorem mi_RT_redirect : Cond.instanceMethod y_RT_redirect ∈ BG := (zm_1 (i := 210) rfl rfl)
set_option maxRecDepth 20000 in
theorem ms_RT_redirect : Cond.selects R_RT y_RT_redirect y_RT_redirect ∈ BG := (zm_1 (i := 211) rfl rfl)
set_option maxRecDepth 20000 in
theorem lk_RT_25 : (Cond.methodLink R_RT 25 y_RT_issuerAt) ∈ BG := (zm_1 (i := 213) rfl rfl)
set_option maxRecDepth 20000 in
theorem mi_RT_issuerAt : Cond.instanceMethod y_RT_issuerAt ∈ BG := (zm_1 (i := 215) rfl rfl)
set_option maxRecDepth 20000 in
theorem lk_CD_64 : (Cond.methodLink R_CD 64 y_RT_isFull) ∈ BG := (zm_1 (i := 217) rfl rfl)
set_option maxRecDepth 20000 in
theorem mi_RT_isFull : Cond.instanceMethod y_RT_isFull ∈ BG := (zm_1 (i := 218) rfl rfl)
set_option maxRecDepth 20000 in
theorem ms_RT_isFull : Cond.selects R_RT y_RT_isFull y_RT_isFull ∈ BG := (zm_1 (i := 219) rfl rfl)
set_option maxRecDepth 20000 in
theorem lc_CD_68 : (Cond.classLink R_CD 68 "java/lang/IllegalStateException") ∈ BG := (zm_1 (i := 221) rfl rfl)
set_option maxRecDepth 20000 in
theorem sr_CD_70 : (Cond.stringRef R_CD 70 "there are 40 routes") ∈ BG := (zm_1 (i := 230) rfl rfl)
set_option maxRecDepth 20000 in
theorem lk_CD_72 : (Cond.methodLink R_CD 72 ⟨"java/lang/IllegalStateException", "<init>", "(Ljava/lang/String;)V"⟩) ∈ BG := (zm_1 (i := 231) rfl rfl)
set_option maxRecDepth 20000 in
theorem lk_CD_75 : (Cond.methodLink R_CD 75 y_RT_add) ∈ BG := (zm_1 (i := 237) rfl rfl)
set_option maxRecDepth 20000 in
theorem mi_RT_add : Cond.instanceMethod y_RT_add ∈ BG := (zm_1 (i := 238) rfl rfl)
set_option maxRecDepth 20000 in
theorem ms_RT_add : Cond.selects R_RT y_RT_add y_RT_add ∈ BG := (zm_1 (i := 239) rfl rfl)
set_option maxRecDepth 20000 in
theorem lk_LW_74 : (Cond.methodLink R_LW 74 y_LW_unroute) ∈ BG := (zm_2 (i := 1) rfl rfl)
set_option maxRecDepth 20000 in
theorem mt_LW_unroute : Cond.static y_LW_unroute ∈ BG := (zm_2 (i := 2) rfl rfl)
set_option maxRecDepth 20000 in
theorem lk_LW_17 : (Cond.methodLink R_LW 17 y_CD_unroute) ∈ BG := (zm_2 (i := 4) rfl rfl)
set_option maxRecDepth 20000 in
theorem mi_CD_unroute : Cond.instanceMethod y_CD_unroute ∈ BG := (zm_2 (i := 5) rfl rfl)
set_option maxRecDepth 20000 in
theorem ms_CD_unroute : Cond.selects R_CD y_CD_unroute y_CD_unroute ∈ BG := (zm_2 (i := 6) rfl rfl)
set_option maxRecDepth 20000 in
theorem lk_CD_79 : (Cond.methodLink R_CD 79 y_RT_remove) ∈ BG := (zm_2 (i := 8) rfl rfl)
set_option maxRecDepth 20000 in
theorem mi_RT_remove : Cond.instanceMethod y_RT_remove ∈ BG := (zm_2 (i := 9) rfl rfl)
set_option maxRecDepth 20000 in
theorem ms_RT_remove : Cond.selects R_RT y_RT_remove y_RT_remove ∈ BG := (zm_2 (i := 10) rfl rfl)
set_option maxRecDepth 20000 in
theorem lk_LW_82 : (Cond.methodLink R_LW 82 y_LW_account) ∈ BG := (zm_2 (i := 12) rfl rfl)
set_option maxRecDepth 20000 in
theorem mt_LW_account : Cond.static y_LW_account ∈ BG := (zm_2 (i := 13) rfl rfl)
set_option maxRecDepth 20000 in
theorem lk_LW_21 : (Cond.methodLink R_LW 21 y_CD_account) ∈ BG := (zm_2 (i := 15) rfl rfl)
set_option maxRecDepth 20000 in
theorem mi_CD_account : Cond.instanceMethod y_CD_account ∈ BG := (zm_2 (i := 16) rfl rfl)
set_option maxRecDepth 20000 in
theorem ms_CD_account : Cond.selects R_CD y_CD_account y_CD_account ∈ BG := (zm_2 (i := 17) rfl rfl)
set_option maxRecDepth 20000 in
theorem lk_CD_86 : (Cond.methodLink R_CD 86 y_AT_isFull) ∈ BG := (zm_2 (i := 19) rfl rfl)
set_option maxRecDepth 20000 in
theorem mi_AT_isFull : Cond.instanceMethod y_AT_isFull ∈ BG := (zm_2 (i := 20) rfl rfl)
set_option maxRecDepth 20000 in
theorem ms_AT_isFull : Cond.selects R_AT y_AT_isFull y_AT_isFull ∈ BG := (zm_2 (i := 21) rfl rfl)
set_option maxRecDepth 20000 in
theorem sr_CD_87 : (Cond.stringRef R_CD 87 "there are 64 accounts") ∈ BG := (zm_2 (i := 23) rfl rfl)
set_option maxRecDepth 20000 in
theorem lk_CD_89 : (Cond.methodLink R_CD 89 y_AT_add) ∈ BG := (zm_2 (i := 24) rfl rfl)
set_option maxRecDepth 20000 in
theorem mi_AT_add : Cond.instanceMethod y_AT_add ∈ BG := (zm_2 (i := 25) rfl rfl)
set_option maxRecDepth 20000 in
theorem ms_AT_add : Cond.selects R_AT y_AT_add y_AT_add ∈ BG := (zm_2 (i := 26) rfl rfl)
set_option maxRecDepth 20000 in
theorem lk_LW_88 : (Cond.methodLink R_LW 88 y_LW_card) ∈ BG := (zm_2 (i := 28) rfl rfl)
set_option maxRecDepth 20000 in
theorem mt_LW_card : Cond.static y_LW_card ∈ BG := (zm_2 (i := 29) rfl rfl)
set_option maxRecDepth 20000 in
theorem lk_LW_25 : (Cond.methodLink R_LW 25 y_CD_card) ∈ BG := (zm_2 (i := 31) rfl rfl)
set_option maxRecDepth 20000 in
theorem mi_CD_card : Cond.instanceMethod y_CD_card ∈ BG := (zm_2 (i := 32) rfl rfl)
set_option maxRecDepth 20000 in
theorem ms_CD_card : Cond.selects R_CD y_CD_card y_CD_card ∈ BG := (zm_2 (i := 33) rfl rfl)
set_option maxRecDepth 20000 in
theorem lk_CD_91 : (Cond.methodLink R_CD 91 y_CD_requireDigits) ∈ BG := (zm_2 (i := 35) rfl rfl)
set_option maxRecDepth 20000 in
theorem mt_CD_requireDigits : Cond.static y_CD_requireDigits ∈ BG := (zm_2 (i := 36) rfl rfl)
set_option maxRecDepth 20000 in
theorem sr_CD_162 : (Cond.stringRef R_CD 162 "the number has too few or too many digits") ∈ BG := (zm_2 (i := 38) rfl rfl)
set_option maxRecDepth 20000 in
theorem lk_CD_95 : (Cond.methodLink R_CD 95 y_CD_requireAccount) ∈ BG := (zm_2 (i := 39) rfl rfl)
set_option maxRecDepth 20000 in
theorem mi_CD_requireAccount : Cond.instanceMethod y_CD_requireAccount ∈ BG := (zm_2 (i := 41) rfl rfl)
set_option maxRecDepth 20000 in
theorem lk_CD_164 : (Cond.methodLink R_CD 164 y_AT_has) ∈ BG := (zm_2 (i := 43) rfl rfl)
set_option maxRecDepth 20000 in
theorem mi_AT_has : Cond.instanceMethod y_AT_has ∈ BG := (zm_2 (i := 44) rfl rfl)
set_option maxRecDepth 20000 in
theorem ms_AT_has : Cond.selects R_AT y_AT_has y_AT_has ∈ BG := (zm_2 (i := 45) rfl rfl)
set_option maxRecDepth 20000 in
theorem sr_CD_167 : (Cond.stringRef R_CD 167 "no such account") ∈ BG := (zm_2 (i := 47) rfl rfl)
set_option maxRecDepth 20000 in
theorem lk_CD_98 : (Cond.methodLink R_CD 98 y_CT_isFull) ∈ BG := (zm_2 (i := 48) rfl rfl)
set_option maxRecDepth 20000 in
theorem mi_CT_isFull : Cond.instanceMethod y_CT_isFull ∈ BG := (zm_2 (i := 49) rfl rfl)
set_option maxRecDepth 20000 in
theorem ms_CT_isFull : Cond.selects R_CT y_CT_isFull y_CT_isFull ∈ BG := (zm_2 (i := 50) rfl rfl)
set_option maxRecDepth 20000 in
theorem sr_CD_99 : (Cond.stringRef R_CD 99 "there are 100 cards") ∈ BG := (zm_2 (i := 52) rfl rfl)
set_option maxRecDepth 20000 in
theorem lk_CD_101 : (Cond.methodLink R_CD 101 y_CD_isGood) ∈ BG := (zm_2 (i := 53) rfl rfl)
set_option maxRecDepth 20000 in
theorem mt_CD_isGood : Cond.static y_CD_isGood ∈ BG := (zm_2 (i := 54) rfl rfl)
set_option maxRecDepth 20000 in
theorem lk_CD_125 : (Cond.methodLink R_CD 125 y_CD_checkSum) ∈ BG := (zm_2 (i := 56) rfl rfl)
set_option maxRecDepth 20000 in
theorem mt_CD_checkSum : Cond.static y_CD_checkSum ∈ BG := (zm_2 (i := 57) rfl rfl)
set_option maxRecDepth 20000 in
theorem lk_CD_174 : (Cond.methodLink R_CD 174 y_CD_doubled) ∈ BG := (zm_2 (i := 59) rfl rfl)
set_option maxRecDepth 20000 in
theorem mt_CD_doubled : Cond.static y_CD_doubled ∈ BG := (zm_2 (i := 60) rfl rfl)
set_option maxRecDepth 20000 in
theorem lk_CD_105 : (Cond.methodLink R_CD 105 y_RT_issuerFor) ∈ BG := (zm_2 (i := 62) rfl rfl)
set_option maxRecDepth 20000 in
theorem mi_RT_issuerFor : Cond.instanceMethod y_RT_issuerFor ∈ BG := (zm_2 (i := 63) rfl rfl)
set_option maxRecDepth 20000 in
theorem ms_RT_issuerFor : Cond.selects R_RT y_RT_issuerFor y_RT_issuerFor ∈ BG := (zm_2 (i := 64) rfl rfl)
set_option maxRecDepth 20000 in
theorem lkN_RT_29 : (Cond.methodLinkNest R_RT 29 y_CD_digitsOf "CardDirectory") ∈ BG := (zm_2 (i := 66) rfl rfl)
set_option maxRecDepth 20000 in
theorem lk_RT_33 : (Cond.methodLink R_RT 33 y_RT_find) ∈ BG := (zm_2 (i := 67) rfl rfl)
set_option maxRecDepth 20000 in
theorem kl_RT_37 : (Cond.constantLong R_RT 37 10) ∈ BG := (zm_2 (i := 68) rfl rfl)
set_option maxRecDepth 20000 in
theorem lk_CD_109 : (Cond.methodLink R_CD 109 y_AT_issuerOf) ∈ BG := (zm_2 (i := 69) rfl rfl)
set_option maxRecDepth 20000 in
theorem mi_AT_issuerOf : Cond.instanceMethod y_AT_issuerOf ∈ BG := (zm_2 (i := 70) rfl rfl)
set_option maxRecDepth 20000 in
theorem ms_AT_issuerOf : Cond.selects R_AT y_AT_issuerOf y_AT_issuerOf ∈ BG := (zm_2 (i := 71) rfl rfl)
set_option maxRecDepth 20000 in
theorem lk_AT_31 : (Cond.methodLink R_AT 31 y_AT_has) ∈ BG := (zm_2 (i := 73) rfl rfl)
set_option maxRecDepth 20000 in
theorem lk_CD_112 : (Cond.methodLink R_CD 112 y_CT_find) ∈ BG := (zm_2 (i := 74) rfl rfl)
set_option maxRecDepth 20000 in
theorem mi_CT_find : Cond.instanceMethod y_CT_find ∈ BG := (zm_2 (i := 75) rfl rfl)
set_option maxRecDepth 20000 in
theorem ms_CT_find : Cond.selects R_CT y_CT_find y_CT_find ∈ BG := (zm_2 (i := 76) rfl rfl)
set_option maxRecDepth 20000 in
theorem lk_CD_114 : (Cond.methodLink R_CD 114 y_CT_add) ∈ BG := (zm_2 (i := 78) rfl rfl)
set_option maxRecDepth 20000 in
theorem mi_CT_add : Cond.instanceMethod y_CT_add ∈ BG := (zm_2 (i := 79) rfl rfl)
set_option maxRecDepth 20000 in
theorem ms_CT_add : Cond.selects R_CT y_CT_add y_CT_add ∈ BG := (zm_2 (i := 80) rfl rfl)
set_option maxRecDepth 20000 in
theorem lk_LW_92 : (Cond.methodLink R_LW 92 y_LW_block) ∈ BG := (zm_2 (i := 82) rfl rfl)
set_option maxRecDepth 20000 in
theorem mt_LW_block : Cond.static y_LW_block ∈ BG := (zm_2 (i := 83) rfl rfl)
set_option maxRecDepth 20000 in
theorem lk_LW_29 : (Cond.methodLink R_LW 29 y_CD_block) ∈ BG := (zm_2 (i := 85) rfl rfl)
set_option maxRecDepth 20000 in
theorem mi_CD_block : Cond.instanceMethod y_CD_block ∈ BG := (zm_2 (i := 86) rfl rfl)
set_option maxRecDepth 20000 in
theorem ms_CD_block : Cond.selects R_CD y_CD_block y_CD_block ∈ BG := (zm_2 (i := 87) rfl rfl)
set_option maxRecDepth 20000 in
theorem lk_CD_116 : (Cond.methodLink R_CD 116 y_CD_requireCard) ∈ BG := (zm_2 (i := 89) rfl rfl)
set_option maxRecDepth 20000 in
theorem mi_CD_requireCard : Cond.instanceMethod y_CD_requireCard ∈ BG := (zm_2 (i := 91) rfl rfl)
set_option maxRecDepth 20000 in
theorem lk_CD_169 : (Cond.methodLink R_CD 169 y_CT_has) ∈ BG := (zm_2 (i := 93) rfl rfl)
set_option maxRecDepth 20000 in
theorem mi_CT_has : Cond.instanceMethod y_CT_has ∈ BG := (zm_2 (i := 94) rfl rfl)
set_option maxRecDepth 20000 in
theorem ms_CT_has : Cond.selects R_CT y_CT_has y_CT_has ∈ BG := (zm_2 (i := 95) rfl rfl)
set_option maxRecDepth 20000 in
theorem sr_CD_170 : (Cond.stringRef R_CD 170 "no such card") ∈ BG := (zm_2 (i := 97) rfl rfl)
set_option maxRecDepth 20000 in
theorem lk_CD_119 : (Cond.methodLink R_CD 119 y_CT_setBlocked) ∈ BG := (zm_2 (i := 98) rfl rfl)
set_option maxRecDepth 20000 in
theorem mi_CT_setBlocked : Cond.instanceMethod y_CT_setBlocked ∈ BG := (zm_2 (i := 99) rfl rfl)
set_option maxRecDepth 20000 in
theorem ms_CT_setBlocked : Cond.selects R_CT y_CT_setBlocked y_CT_setBlocked ∈ BG := (zm_2 (i := 100) rfl rfl)
set_option maxRecDepth 20000 in
theorem lk_CT_31 : (Cond.methodLink R_CT 31 y_CT_isBlocked) ∈ BG := (zm_2 (i := 102) rfl rfl)
set_option maxRecDepth 20000 in
theorem mi_CT_isBlocked : Cond.instanceMethod y_CT_isBlocked ∈ BG := (zm_2 (i := 103) rfl rfl)
set_option maxRecDepth 20000 in
theorem ms_CT_isBlocked : Cond.selects R_CT y_CT_isBlocked y_CT_isBlocked ∈ BG := (zm_2 (i := 104) rfl rfl)
set_option maxRecDepth 20000 in
theorem lk_CT_27 : (Cond.methodLink R_CT 27 y_CT_has) ∈ BG := (zm_2 (i := 106) rfl rfl)
set_option maxRecDepth 20000 in
theorem lk_LW_96 : (Cond.methodLink R_LW 96 y_LW_whose) ∈ BG := (zm_2 (i := 107) rfl rfl)
set_option maxRecDepth 20000 in
theorem mt_LW_whose : Cond.static y_LW_whose ∈ BG := (zm_2 (i := 108) rfl rfl)
set_option maxRecDepth 20000 in
theorem lk_LW_33 : (Cond.methodLink R_LW 33 y_CD_whose) ∈ BG := (zm_2 (i := 110) rfl rfl)
set_option maxRecDepth 20000 in
theorem mi_CD_whose : Cond.instanceMethod y_CD_whose ∈ BG := (zm_2 (i := 111) rfl rfl)
set_option maxRecDepth 20000 in
theorem ms_CD_whose : Cond.selects R_CD y_CD_whose y_CD_whose ∈ BG := (zm_2 (i := 112) rfl rfl)
set_option maxRecDepth 20000 in
theorem lk_LW_100 : (Cond.methodLink R_LW 100 y_LW_good) ∈ BG := (zm_2 (i := 114) rfl rfl)
set_option maxRecDepth 20000 in
theorem mt_LW_good : Cond.static y_LW_good ∈ BG := (zm_2 (i := 115) rfl rfl)
set_option maxRecDepth 20000 in
theorem lk_LW_37 : (Cond.methodLink R_LW 37 y_CD_good) ∈ BG := (zm_2 (i := 117) rfl rfl)
set_option maxRecDepth 20000 in
theorem mi_CD_good : Cond.instanceMethod y_CD_good ∈ BG := (zm_2 (i := 118) rfl rfl)
set_option maxRecDepth 20000 in
theorem ms_CD_good : Cond.selects R_CD y_CD_good y_CD_good ∈ BG := (zm_2 (i := 119) rfl rfl)
set_option maxRecDepth 20000 in
theorem lk_LW_103 : (Cond.methodLink R_LW 103 y_LW_digit) ∈ BG := (zm_2 (i := 121) rfl rfl)
set_option maxRecDepth 20000 in
theorem mt_LW_digit : Cond.static y_LW_digit ∈ BG := (zm_2 (i := 122) rfl rfl)
set_option maxRecDepth 20000 in
theorem lk_LW_41 : (Cond.methodLink R_LW 41 y_CD_digit) ∈ BG := (zm_2 (i := 124) rfl rfl)
set_option maxRecDepth 20000 in
theorem mi_CD_digit : Cond.instanceMethod y_CD_digit ∈ BG := (zm_2 (i := 125) rfl rfl)
set_option maxRecDepth 20000 in
theorem ms_CD_digit : Cond.selects R_CD y_CD_digit y_CD_digit ∈ BG := (zm_2 (i := 126) rfl rfl)
set_option maxRecDepth 20000 in
theorem lk_LW_106 : (Cond.methodLink R_LW 106 y_LW_use) ∈ BG := (zm_2 (i := 128) rfl rfl)
set_option maxRecDepth 20000 in
theorem mt_LW_use : Cond.static y_LW_use ∈ BG := (zm_2 (i := 129) rfl rfl)
set_option maxRecDepth 20000 in
theorem lk_LW_44 : (Cond.methodLink R_LW 44 y_CD_use) ∈ BG := (zm_2 (i := 131) rfl rfl)
set_option maxRecDepth 20000 in
theorem mi_CD_use : Cond.instanceMethod y_CD_use ∈ BG := (zm_2 (i := 132) rfl rfl)
set_option maxRecDepth 20000 in
theorem ms_CD_use : Cond.selects R_CD y_CD_use y_CD_use ∈ BG := (zm_2 (i := 133) rfl rfl)
set_option maxRecDepth 20000 in
theorem lk_CD_128 : (Cond.methodLink R_CD 128 y_CD_requireTime) ∈ BG := (zm_2 (i := 135) rfl rfl)
set_option maxRecDepth 20000 in
theorem mi_CD_requireTime : Cond.instanceMethod y_CD_requireTime ∈ BG := (zm_2 (i := 137) rfl rfl)
set_option maxRecDepth 20000 in
theorem sr_CD_172 : (Cond.stringRef R_CD 172 "the time is below 0 or below that of the latest use") ∈ BG := (zm_2 (i := 139) rfl rfl)
set_option maxRecDepth 20000 in
theorem lk_CD_131 : (Cond.methodLink R_CD 131 y_CT_isBlocked) ∈ BG := (zm_2 (i := 140) rfl rfl)
set_option maxRecDepth 20000 in
theorem lk_CD_135 : (Cond.methodLink R_CD 135 y_CT_accountOf) ∈ BG := (zm_2 (i := 141) rfl rfl)
set_option maxRecDepth 20000 in
theorem mi_CT_accountOf : Cond.instanceMethod y_CT_accountOf ∈ BG := (zm_2 (i := 142) rfl rfl)
set_option maxRecDepth 20000 in
theorem ms_CT_accountOf : Cond.selects R_CT y_CT_accountOf y_CT_accountOf ∈ BG := (zm_2 (i := 143) rfl rfl)
set_option maxRecDepth 20000 in
theorem lk_CD_138 : (Cond.methodLink R_CD 138 y_AT_usesSince) ∈ BG := (zm_2 (i := 145) rfl rfl)
set_option maxRecDepth 20000 in
theorem mi_AT_usesSince : Cond.instanceMethod y_AT_usesSince ∈ BG := (zm_2 (i := 146) rfl rfl)
set_option maxRecDepth 20000 in
theorem ms_AT_usesSince : Cond.selects R_AT y_AT_usesSince y_AT_usesSince ∈ BG := (zm_2 (i := 147) rfl rfl)
set_option maxRecDepth 20000 in
theorem lk_CD_141 : (Cond.methodLink R_CD 141 y_AT_noteUse) ∈ BG := (zm_2 (i := 149) rfl rfl)
set_option maxRecDepth 20000 in
theorem mi_AT_noteUse : Cond.instanceMethod y_AT_noteUse ∈ BG := (zm_2 (i := 150) rfl rfl)
set_option maxRecDepth 20000 in
theorem ms_AT_noteUse : Cond.selects R_AT y_AT_noteUse y_AT_noteUse ∈ BG := (zm_2 (i := 151) rfl rfl)
set_option maxRecDepth 20000 in
theorem lk_LW_109 : (Cond.methodLink R_LW 109 y_LW_used) ∈ BG := (zm_2 (i := 153) rfl rfl)
set_option maxRecDepth 20000 in
theorem mt_LW_used : Cond.static y_LW_used ∈ BG := (zm_2 (i := 154) rfl rfl)
set_option maxRecDepth 20000 in
theorem lk_LW_47 : (Cond.methodLink R_LW 47 y_CD_used) ∈ BG := (zm_2 (i := 156) rfl rfl)
set_option maxRecDepth 20000 in
theorem mi_CD_used : Cond.instanceMethod y_CD_used ∈ BG := (zm_2 (i := 157) rfl rfl)
set_option maxRecDepth 20000 in
theorem ms_CD_used : Cond.selects R_CD y_CD_used y_CD_used ∈ BG := (zm_2 (i := 158) rfl rfl)
set_option maxRecDepth 20000 in
theorem lk_LW_112 : (Cond.methodLink R_LW 112 y_LW_told) ∈ BG := (zm_2 (i := 160) rfl rfl)
set_option maxRecDepth 20000 in
theorem mt_LW_told : Cond.static y_LW_told ∈ BG := (zm_2 (i := 161) rfl rfl)
set_option maxRecDepth 20000 in
theorem lk_LW_50 : (Cond.methodLink R_LW 50 y_CD_told) ∈ BG := (zm_2 (i := 163) rfl rfl)
set_option maxRecDepth 20000 in
theorem mi_CD_told : Cond.instanceMethod y_CD_told ∈ BG := (zm_2 (i := 164) rfl rfl)
set_option maxRecDepth 20000 in
theorem ms_CD_told : Cond.selects R_CD y_CD_told y_CD_told ∈ BG := (zm_2 (i := 165) rfl rfl)
set_option maxRecDepth 20000 in
theorem lk_CD_144 : (Cond.methodLink R_CD 144 y_CT_numberOf) ∈ BG := (zm_2 (i := 167) rfl rfl)
set_option maxRecDepth 20000 in
theorem mi_CT_numberOf : Cond.instanceMethod y_CT_numberOf ∈ BG := (zm_2 (i := 168) rfl rfl)
set_option maxRecDepth 20000 in
theorem ms_CT_numberOf : Cond.selects R_CT y_CT_numberOf y_CT_numberOf ∈ BG := (zm_2 (i := 169) rfl rfl)
set_option maxRecDepth 20000 in
theorem sr_CD_153 : (Cond.stringRef R_CD 153 "what is not 0 .. 3") ∈ BG := (zm_2 (i := 171) rfl rfl)
set_option maxRecDepth 20000 in
theorem lc_LW_63 : (Cond.classLink R_LW 63 "CardDirectoryModel") ∈ BG := (zm_2 (i := 172) rfl rfl)
set_option maxRecDepth 20000 in
theorem nn_MO : (Cond.instantiable R_MO 16) ∈ BG := (zm_2 (i := 173) rfl rfl)
set_option maxRecDepth 20000 in
theorem lk_LW_65 : (Cond.methodLink R_LW 65 y_MO_init) ∈ BG := (zm_2 (i := 174) rfl rfl)
set_option maxRecDepth 20000 in
theorem mi_MO_init : Cond.instanceMethod y_MO_init ∈ BG := (zm_2 (i := 175) rfl rfl)
set_option maxRecDepth 20000 in
theorem lk_MO_1 : (Cond.methodLink R_MO 1 objectInit) ∈ BG := (zm_2 (i := 177) rfl rfl)
set_option maxRecDepth 20000 in
theorem lf_MO_46 : (Cond.fieldLink R_MO 46 "CardDirectoryModel" "code" "I") ∈ BG := (zm_2 (i := 178) rfl rfl)
set_option maxRecDepth 20000 in
theorem lf_MO_39 : (Cond.fieldLink R_MO 39 "CardDirectoryModel" "window" "I") ∈ BG := (zm_2 (i := 179) rfl rfl)
set_option maxRecDepth 20000 in
theorem lf_MO_43 : (Cond.fieldLink R_MO 43 "CardDirectoryModel" "many" "I") ∈ BG := (zm_2 (i := 180) rfl rfl)
set_option maxRecDepth 20000 in
theorem lf_MO_55 : (Cond.fieldLink R_MO 55 "CardDirectoryModel" "routes" "I") ∈ BG := (zm_2 (i := 181) rfl rfl)
set_option maxRecDepth 20000 in
theorem lf_MO_7 : (Cond.fieldLink R_MO 7 "CardDirectoryModel" "prefix" "[I") ∈ BG := (zm_2 (i := 182) rfl rfl)
set_option maxRecDepth 20000 in
theorem lf_MO_13 : (Cond.fieldLink R_MO 13 "CardDirectoryModel" "digits" "[I") ∈ BG := (zm_2 (i := 183) rfl rfl)
set_option maxRecDepth 20000 in
theorem lf_MO_16 : (Cond.fieldLink R_MO 16 "CardDirectoryModel" "leads" "[I") ∈ BG := (zm_2 (i := 184) rfl rfl)
set_option maxRecDepth 20000 in
theorem lf_MO_85 : (Cond.fieldLink R_MO 85 "CardDirectoryModel" "accounts" "I") ∈ BG := (zm_2 (i := 185) rfl rfl)
set_option maxRecDepth 20000 in
theorem lf_MO_19 : (Cond.fieldLink R_MO 19 "CardDirectoryModel" "issuer" "[I") ∈ BG := (zm_2 (i := 186) rfl rfl)
set_option maxRecDepth 20000 in
theorem lf_MO_22 : (Cond.fieldLink R_MO 22 "CardDirectoryModel" "uses" "[I") ∈ BG := (zm_2 (i := 187) rfl rfl)
set_option maxRecDepth 20000 in
theorem lf_MO_25 : (Cond.fieldLink R_MO 25 "CardDirectoryModel" "usedAt" "[I") ∈ BG := (zm_2 (i := 188) rfl rfl)
set_option maxRecDepth 20000 in
theorem lf_MO_88 : (Cond.fieldLink R_MO 88 "CardDirectoryModel" "cards" "I") ∈ BG := (zm_2 (i := 189) rfl rfl)
set_option maxRecDepth 20000 in
theorem lf_MO_28 : (Cond.fieldLink R_MO 28 "CardDirectoryModel" "card" "[J") ∈ BG := (zm_2 (i := 190) rfl rfl)
set_option maxRecDepth 20000 in
theorem lf_MO_32 : (Cond.fieldLink R_MO 32 "CardDirectoryModel" "of" "[I") ∈ BG := (zm_2 (i := 191) rfl rfl)
set_option maxRecDepth 20000 in
theorem lf_MO_35 : (Cond.fieldLink R_MO 35 "CardDirectoryModel" "blocked" "[Z") ∈ BG := (zm_2 (i := 192) rfl rfl)
set_option maxRecDepth 20000 in
theorem lf_MO_94 : (Cond.fieldLink R_MO 94 "CardDirectoryModel" "now" "I") ∈ BG := (zm_2 (i := 193) rfl rfl)
set_option maxRecDepth 20000 in
theorem lk_LW_70 : (Cond.methodLink R_LW 70 y_MO_thrown) ∈ BG := (zm_2 (i := 227) rfl rfl)
set_option maxRecDepth 20000 in
theorem mi_MO_thrown : Cond.instanceMethod y_MO_thrown ∈ BG := (zm_2 (i := 228) rfl rfl)
set_option maxRecDepth 20000 in
theorem ms_MO_thrown : Cond.selects R_MO y_MO_thrown y_MO_thrown ∈ BG := (zm_2 (i := 229) rfl rfl)
set_option maxRecDepth 20000 in
theorem lk_LW_69 : (Cond.methodLink R_LW 69 y_MO_route) ∈ BG := (zm_2 (i := 231) rfl rfl)
set_option maxRecDepth 20000 in
theorem mi_MO_route : Cond.instanceMethod y_MO_route ∈ BG := (zm_2 (i := 232) rfl rfl)
set_option maxRecDepth 20000 in
theorem ms_MO_route : Cond.selects R_MO y_MO_route y_MO_route ∈ BG := (zm_2 (i := 233) rfl rfl)
set_option maxRecDepth 20000 in
theorem lk_MO_58 : (Cond.methodLink R_MO 58 y_MO_placeOf) ∈ BG := (zm_2 (i := 235) rfl rfl)
set_option maxRecDepth 20000 in
theorem mi_MO_placeOf : Cond.instanceMethod y_MO_placeOf ∈ BG := (zm_2 (i := 237) rfl rfl)
set_option maxRecDepth 20000 in
theorem lk_MO_62 : (Cond.methodLink R_MO 62 y_MO_isPrefix) ∈ BG := (zm_2 (i := 239) rfl rfl)
set_option maxRecDepth 20000 in
theorem mt_MO_isPrefix : Cond.static y_MO_isPrefix ∈ BG := (zm_3 (i := 0) rfl rfl)
set_option maxRecDepth 20000 in
theorem lk_MO_51 : (Cond.methodLink R_MO 51 y_MO_width) ∈ BG := (zm_3 (i := 2) rfl rfl)
set_option maxRecDepth 20000 in
theorem mt_MO_width : Cond.static y_MO_width ∈ BG := (zm_3 (i := 3) rfl rfl)
set_option maxRecDepth 20000 in
theorem kl_MO_49 : (Cond.constantLong R_MO 49 10) ∈ BG := (zm_3 (i := 5) rfl rfl)
set_option maxRecDepth 20000 in
theorem lk_MO_66 : (Cond.methodLink R_MO 66 y_MO_goes) ∈ BG := (zm_3 (i := 6) rfl rfl)
set_option maxRecDepth 20000 in
theorem mi_MO_goes : Cond.instanceMethod y_MO_goes ∈ BG := (zm_3 (i := 8) rfl rfl)
set_option maxRecDepth 20000 in
theorem lk_LW_77 : (Cond.methodLink R_LW 77 y_MO_unroute) ∈ BG := (zm_3 (i := 10) rfl rfl)
set_option maxRecDepth 20000 in
theorem mi_MO_unroute : Cond.instanceMethod y_MO_unroute ∈ BG := (zm_3 (i := 11) rfl rfl)
set_option maxRecDepth 20000 in
theorem ms_MO_unroute : Cond.selects R_MO y_MO_unroute y_MO_unroute ∈ BG := (zm_3 (i := 12) rfl rfl)
set_option maxRecDepth 20000 in
theorem lk_LW_81 : (Cond.methodLink R_LW 81 y_MO_routes) ∈ BG := (zm_3 (i := 14) rfl rfl)
set_option maxRecDepth 20000 in
theorem mi_MO_routes : Cond.instanceMethod y_MO_routes ∈ BG := (zm_3 (i := 15) rfl rfl)
set_option maxRecDepth 20000 in
theorem ms_MO_routes : Cond.selects R_MO y_MO_routes y_MO_routes ∈ BG := (zm_3 (i := 16) rfl rfl)
set_option maxRecDepth 20000 in
theorem lk_LW_99 : (Cond.methodLink R_LW 99 y_MO_whose) ∈ BG := (zm_3 (i := 18) rfl rfl)
set_option maxRecDepth 20000 in
theorem mi_MO_whose : Cond.instanceMethod y_MO_whose ∈ BG := (zm_3 (i := 19) rfl rfl)
set_option maxRecDepth 20000 in
theorem ms_MO_whose : Cond.selects R_MO y_MO_whose y_MO_whose ∈ BG := (zm_3 (i := 20) rfl rfl)
set_option maxRecDepth 20000 in
theorem lk_MO_74 : (Cond.methodLink R_MO 74 y_MO_isNumber) ∈ BG := (zm_3 (i := 22) rfl rfl)
set_option maxRecDepth 20000 in
theorem mt_MO_isNumber : Cond.static y_MO_isNumber ∈ BG := (zm_3 (i := 23) rfl rfl)
set_option maxRecDepth 20000 in
theorem lk_MO_78 : (Cond.methodLink R_MO 78 y_MO_routed) ∈ BG := (zm_3 (i := 25) rfl rfl)
set_option maxRecDepth 20000 in
theorem mi_MO_routed : Cond.instanceMethod y_MO_routed ∈ BG := (zm_3 (i := 27) rfl rfl)
set_option maxRecDepth 20000 in
theorem lk_MO_70 : (Cond.methodLink R_MO 70 y_MO_front) ∈ BG := (zm_3 (i := 29) rfl rfl)
set_option maxRecDepth 20000 in
theorem mt_MO_front : Cond.static y_MO_front ∈ BG := (zm_3 (i := 30) rfl rfl)
set_option maxRecDepth 20000 in
theorem lk_LW_102 : (Cond.methodLink R_LW 102 y_MO_good) ∈ BG := (zm_3 (i := 32) rfl rfl)
set_option maxRecDepth 20000 in
theorem mi_MO_good : Cond.instanceMethod y_MO_good ∈ BG := (zm_3 (i := 33) rfl rfl)
set_option maxRecDepth 20000 in
theorem ms_MO_good : Cond.selects R_MO y_MO_good y_MO_good ∈ BG := (zm_3 (i := 34) rfl rfl)
set_option maxRecDepth 20000 in
theorem lk_MO_81 : (Cond.methodLink R_MO 81 y_MO_sum) ∈ BG := (zm_3 (i := 36) rfl rfl)
set_option maxRecDepth 20000 in
theorem mt_MO_sum : Cond.static y_MO_sum ∈ BG := (zm_3 (i := 37) rfl rfl)
set_option maxRecDepth 20000 in
theorem lk_LW_105 : (Cond.methodLink R_LW 105 y_MO_digit) ∈ BG := (zm_3 (i := 39) rfl rfl)
set_option maxRecDepth 20000 in
theorem mi_MO_digit : Cond.instanceMethod y_MO_digit ∈ BG := (zm_3 (i := 40) rfl rfl)
set_option maxRecDepth 20000 in
theorem ms_MO_digit : Cond.selects R_MO y_MO_digit y_MO_digit ∈ BG := (zm_3 (i := 41) rfl rfl)
set_option maxRecDepth 20000 in
theorem lk_LW_85 : (Cond.methodLink R_LW 85 y_MO_account) ∈ BG := (zm_3 (i := 43) rfl rfl)
set_option maxRecDepth 20000 in
theorem mi_MO_account : Cond.instanceMethod y_MO_account ∈ BG := (zm_3 (i := 44) rfl rfl)
set_option maxRecDepth 20000 in
theorem ms_MO_account : Cond.selects R_MO y_MO_account y_MO_account ∈ BG := (zm_3 (i := 45) rfl rfl)
set_option maxRecDepth 20000 in
theorem lk_LW_91 : (Cond.methodLink R_LW 91 y_MO_card) ∈ BG := (zm_3 (i := 47) rfl rfl)
set_option maxRecDepth 20000 in
theorem mi_MO_card : Cond.instanceMethod y_MO_card ∈ BG := (zm_3 (i := 48) rfl rfl)
set_option maxRecDepth 20000 in
theorem ms_MO_card : Cond.selects R_MO y_MO_card y_MO_card ∈ BG := (zm_3 (i := 49) rfl rfl)
set_option maxRecDepth 20000 in
theorem lk_MO_91 : (Cond.methodLink R_MO 91 y_MO_cardOf) ∈ BG := (zm_3 (i := 51) rfl rfl)
set_option maxRecDepth 20000 in
theorem mi_MO_cardOf : Cond.instanceMethod y_MO_cardOf ∈ BG := (zm_3 (i := 53) rfl rfl)
set_option maxRecDepth 20000 in
theorem lk_LW_95 : (Cond.methodLink R_LW 95 y_MO_block) ∈ BG := (zm_3 (i := 55) rfl rfl)
set_option maxRecDepth 20000 in
theorem mi_MO_block : Cond.instanceMethod y_MO_block ∈ BG := (zm_3 (i := 56) rfl rfl)
set_option maxRecDepth 20000 in
theorem ms_MO_block : Cond.selects R_MO y_MO_block y_MO_block ∈ BG := (zm_3 (i := 57) rfl rfl)
set_option maxRecDepth 20000 in
theorem lk_LW_108 : (Cond.methodLink R_LW 108 y_MO_use) ∈ BG := (zm_3 (i := 59) rfl rfl)
set_option maxRecDepth 20000 in
theorem mi_MO_use : Cond.instanceMethod y_MO_use ∈ BG := (zm_3 (i := 60) rfl rfl)
set_option maxRecDepth 20000 in
theorem ms_MO_use : Cond.selects R_MO y_MO_use y_MO_use ∈ BG := (zm_3 (i := 61) rfl rfl)
set_option maxRecDepth 20000 in
theorem lk_MO_97 : (Cond.methodLink R_MO 97 y_MO_since) ∈ BG := (zm_3 (i := 63) rfl rfl)
set_option maxRecDepth 20000 in
theorem mi_MO_since : Cond.instanceMethod y_MO_since ∈ BG := (zm_3 (i := 65) rfl rfl)
set_option maxRecDepth 20000 in
theorem lk_LW_111 : (Cond.methodLink R_LW 111 y_MO_used) ∈ BG := (zm_3 (i := 67) rfl rfl)
set_option maxRecDepth 20000 in
theorem mi_MO_used : Cond.instanceMethod y_MO_used ∈ BG := (zm_3 (i := 68) rfl rfl)
set_option maxRecDepth 20000 in
theorem ms_MO_used : Cond.selects R_MO y_MO_used y_MO_used ∈ BG := (zm_3 (i := 69) rfl rfl)
set_option maxRecDepth 20000 in
theorem lk_LW_114 : (Cond.methodLink R_LW 114 y_MO_told) ∈ BG := (zm_3 (i := 71) rfl rfl)
set_option maxRecDepth 20000 in
theorem mi_MO_told : Cond.instanceMethod y_MO_told ∈ BG := (zm_3 (i := 72) rfl rfl)
set_option maxRecDepth 20000 in
theorem ms_MO_told : Cond.selects R_MO y_MO_told y_MO_told ∈ BG := (zm_3 (i := 73) rfl rfl)
set_option maxRecDepth 20000 in
theorem kl_LW_86 : (Cond.constantLong R_LW 86 4294967295) ∈ BG := (zm_3 (i := 75) rfl rfl)
theorem ni_IAE : Cond.initialized zIAE ∈ BG := by decide +kernel
theorem ni_ISE : Cond.initialized zISE ∈ BG := by decide +kernel
theorem nn_IAE : Cond.instantiable zIAE 6 ∈ BG := by decide +kernel
theorem nn_ISE : Cond.instantiable zISE 6 ∈ BG := by decide +kernel
theorem ni_Math : Cond.initialized "java/lang/Math" ∈ BG := by decide +kernel
theorem mt_min : Cond.static Lib.Math.min.name ∈ BG := by decide +kernel
theorem mt_max : Cond.static Lib.Math.max.name ∈ BG := by decide +kernel
theorem mi_obj : Cond.instanceMethod objectInit ∈ BG := by decide +kernel
theorem ma_int : Cond.arrayClass .int ∈ BG := by decide +kernel
theorem ma_long : Cond.arrayClass .long ∈ BG := by decide +kernel
theorem ma_bool : Cond.arrayClass .boolean ∈ BG := by decide +kernel
theorem mc_min : Cond.code Lib.Math.min.name Lib.Math.min.code 2 (some .int) ∈ BG := by decide +kernel
theorem mc_max : Cond.code Lib.Math.max.name Lib.Math.max.code 2 (some .int) ∈ BG := by decide +kernel
theorem mc_obj : Cond.code objectInit ⟨#[0xb1]⟩ 1 none ∈ BG := by decide +kernel
end
section
theorem d_AT_init_0 : decode b_AT_init 0 = .ok (.aload_n 0, 1) := by decide +kernel
theorem d_AT_init_1 : decode b_AT_init 1 = .ok (.invokespecial 3, 3) := by decide +kernel
theorem d_AT_init_4 : decode b_AT_init 4 = .ok (.aload_n 0, 1) := by decide +kernel
theorem d_AT_init_5 : decode b_AT_init 5 = .ok (.bipush 64, 2) := by decide +kernel
theorem d_AT_init_7 : decode b_AT_init 7 = .ok (.newarray .int, 2) := by decide +kernel
theorem d_AT_init_9 : decode b_AT_init 9 = .ok (.putfield 11, 3) := by decide +kernel
theorem d_AT_init_12 : decode b_AT_init 12 = .ok (.aload_n 0, 1) := by decide +kernel
theorem d_AT_init_13 : decode b_AT_init 13 = .ok (.sipush 512, 3) := by decide +kernel
theorem d_AT_init_16 : decode b_AT_init 16 = .ok (.newarray .int, 2) := by decide +kernel
theorem d_AT_init_18 : decode b_AT_init 18 = .ok (.putfield 15, 3) := by decide +kernel
theorem d_AT_init_21 : decode b_AT_init 21 = .ok (.aload_n 0, 1) := by decide +kernel
theorem d_AT_init_22 : decode b_AT_init 22 = .ok (.bipush 64, 2) := by decide +kernel
theorem d_AT_init_24 : decode b_AT_init 24 = .ok (.newarray .int, 2) := by decide +kernel
theorem d_AT_init_26 : decode b_AT_init 26 = .ok (.putfield 18, 3) := by decide +kernel
theorem d_AT_init_29 : decode b_AT_init 29 = .ok (.aload_n 0, 1) := by decide +kernel
theorem d_AT_init_30 : decode b_AT_init 30 = .ok (.iconst 0, 1) := by decide +kernel
theorem d_AT_init_31 : decode b_AT_init 31 = .ok (.putfield 21, 3) := by decide +kernel
theorem d_AT_init_34 : decode b_AT_init 34 = .ok (.aload_n 0, 1) := by decide +kernel
theorem d_AT_init_35 : decode b_AT_init 35 = .ok (.getfield 15, 3) := by decide +kernel
theorem d_AT_init_38 : decode b_AT_init 38 = .ok (.sipush (-5001), 3) := by decide +kernel
theorem d_AT_init_41 : decode b_AT_init 41 = .ok (.invokestatic 25, 3) := by decide +kernel
theorem d_AT_init_44 : decode b_AT_init 44 = .ok (.return_, 1) := by decide +kernel
theorem d_AT_isFull_0 : decode b_AT_isFull 0 = .ok (.aload_n 0, 1) := by decide +kernel
theorem d_AT_isFull_1 : decode b_AT_isFull 1 = .ok (.getfield 21, 3) := by decide +kernel
theorem d_AT_isFull_4 : decode b_AT_isFull 4 = .ok (.bipush 64, 2) := by decide +kernel
theorem d_AT_isFull_6 : decode b_AT_isFull 6 = .ok (.if_icmp .lt 7, 3) := by decide +kernel
theorem d_AT_isFull_9 : decode b_AT_isFull 9 = .ok (.iconst 1, 1) := by decide +kernel
theorem d_AT_isFull_10 : decode b_AT_isFull 10 = .ok (.goto 4, 3) := by decide +kernel
theorem d_AT_isFull_13 : decode b_AT_isFull 13 = .ok (.iconst 0, 1) := by decide +kernel
theorem d_AT_isFull_14 : decode b_AT_isFull 14 = .ok (.ireturn, 1) := by decide +kernel
theorem d_AT_has_0 : decode b_AT_has 0 = .ok (.iload_n 1, 1) := by decide +kernel
theorem d_AT_has_1 : decode b_AT_has 1 = .ok (.ifCond .lt 21, 3) := by decide +kernel
theorem d_AT_has_4 : decode b_AT_has 4 = .ok (.iload_n 1, 1) := by decide +kernel
theorem d_AT_has_5 : decode b_AT_has 5 = .ok (.aload_n 0, 1) := by decide +kernel
theorem d_AT_has_6 : decode b_AT_has 6 = .ok (.getfield 21, 3) := by decide +kernel
theorem d_AT_has_9 : decode b_AT_has 9 = .ok (.if_icmp .ge 13, 3) := by decide +kernel
theorem d_AT_has_12 : decode b_AT_has 12 = .ok (.iload_n 1, 1) := by decide +kernel
theorem d_AT_has_13 : decode b_AT_has 13 = .ok (.bipush 64, 2) := by decide +kernel
theorem d_AT_has_15 : decode b_AT_has 15 = .ok (.if_icmp .ge 7, 3) := by decide +kernel
theorem d_AT_has_18 : decode b_AT_has 18 = .ok (.iconst 1, 1) := by decide +kernel
theorem d_AT_has_19 : decode b_AT_has 19 = .ok (.goto 4, 3) := by decide +kernel
theorem d_AT_has_22 : decode b_AT_has 22 = .ok (.iconst 0, 1) := by decide +kernel
theorem d_AT_has_23 : decode b_AT_has 23 = .ok (.ireturn, 1) := by decide +kernel
theorem d_AT_add_0 : decode b_AT_add 0 = .ok (.aload_n 0, 1) := by decide +kernel
theorem d_AT_add_1 : decode b_AT_add 1 = .ok (.getfield 21, 3) := by decide +kernel
theorem d_AT_add_4 : decode b_AT_add 4 = .ok (.ifCond .lt 12, 3) := by decide +kernel
theorem d_AT_add_7 : decode b_AT_add 7 = .ok (.aload_n 0, 1) := by decide +kernel
theorem d_AT_add_8 : decode b_AT_add 8 = .ok (.getfield 21, 3) := by decide +kernel
theorem d_AT_add_11 : decode b_AT_add 11 = .ok (.bipush 64, 2) := by decide +kernel
theorem d_AT_add_13 : decode b_AT_add 13 = .ok (.if_icmp .lt 5, 3) := by decide +kernel
theorem d_AT_add_16 : decode b_AT_add 16 = .ok (.iconst (-1), 1) := by decide +kernel
theorem d_AT_add_17 : decode b_AT_add 17 = .ok (.ireturn, 1) := by decide +kernel
theorem d_AT_add_18 : decode b_AT_add 18 = .ok (.aload_n 0, 1) := by decide +kernel
theorem d_AT_add_19 : decode b_AT_add 19 = .ok (.getfield 11, 3) := by decide +kernel
theorem d_AT_add_22 : decode b_AT_add 22 = .ok (.aload_n 0, 1) := by decide +kernel
theorem d_AT_add_23 : decode b_AT_add 23 = .ok (.getfield 21, 3) := by decide +kernel
theorem d_AT_add_26 : decode b_AT_add 26 = .ok (.iload_n 1, 1) := by decide +kernel
theorem d_AT_add_27 : decode b_AT_add 27 = .ok (.iastore, 1) := by decide +kernel
theorem d_AT_add_28 : decode b_AT_add 28 = .ok (.aload_n 0, 1) := by decide +kernel
theorem d_AT_add_29 : decode b_AT_add 29 = .ok (.dup, 1) := by decide +kernel
theorem d_AT_add_30 : decode b_AT_add 30 = .ok (.getfield 21, 3) := by decide +kernel
theorem d_AT_add_33 : decode b_AT_add 33 = .ok (.iconst 1, 1) := by decide +kernel
theorem d_AT_add_34 : decode b_AT_add 34 = .ok (.iadd, 1) := by decide +kernel
theorem d_AT_add_35 : decode b_AT_add 35 = .ok (.putfield 21, 3) := by decide +kernel
theorem d_AT_add_38 : decode b_AT_add 38 = .ok (.aload_n 0, 1) := by decide +kernel
theorem d_AT_add_39 : decode b_AT_add 39 = .ok (.getfield 21, 3) := by decide +kernel
theorem d_AT_add_42 : decode b_AT_add 42 = .ok (.iconst 1, 1) := by decide +kernel
theorem d_AT_add_43 : decode b_AT_add 43 = .ok (.isub, 1) := by decide +kernel
theorem d_AT_add_44 : decode b_AT_add 44 = .ok (.ireturn, 1) := by decide +kernel
theorem d_AT_issuerOf_0 : decode b_AT_issuerOf 0 = .ok (.aload_n 0, 1) := by decide +kernel
theorem d_AT_issuerOf_1 : decode b_AT_issuerOf 1 = .ok (.iload_n 1, 1) := by decide +kernel
theorem d_AT_issuerOf_2 : decode b_AT_issuerOf 2 = .ok (.invokevirtual 31, 3) := by decide +kernel
theorem d_AT_issuerOf_5 : decode b_AT_issuerOf 5 = .ok (.ifCond .eq 12, 3) := by decide +kernel
theorem d_AT_issuerOf_8 : decode b_AT_issuerOf 8 = .ok (.aload_n 0, 1) := by decide +kernel
theorem d_AT_issuerOf_9 : decode b_AT_issuerOf 9 = .ok (.getfield 11, 3) := by decide +kernel
theorem d_AT_issuerOf_12 : decode b_AT_issuerOf 12 = .ok (.iload_n 1, 1) := by decide +kernel
theorem d_AT_issuerOf_13 : decode b_AT_issuerOf 13 = .ok (.iaload, 1) := by decide +kernel
theorem d_AT_issuerOf_14 : decode b_AT_issuerOf 14 = .ok (.goto 4, 3) := by decide +kernel
theorem d_AT_issuerOf_17 : decode b_AT_issuerOf 17 = .ok (.iconst (-1), 1) := by decide +kernel
theorem d_AT_issuerOf_18 : decode b_AT_issuerOf 18 = .ok (.ireturn, 1) := by decide +kernel
theorem d_AT_usesSince_0 : decode b_AT_usesSince 0 = .ok (.aload_n 0, 1) := by decide +kernel
theorem d_AT_usesSince_1 : decode b_AT_usesSince 1 = .ok (.iload_n 1, 1) := by decide +kernel
theorem d_AT_usesSince_2 : decode b_AT_usesSince 2 = .ok (.invokevirtual 31, 3) := by decide +kernel
theorem d_AT_usesSince_5 : decode b_AT_usesSince 5 = .ok (.ifCond .ne 5, 3) := by decide +kernel
theorem d_AT_usesSince_8 : decode b_AT_usesSince 8 = .ok (.iconst 0, 1) := by decide +kernel
theorem d_AT_usesSince_9 : decode b_AT_usesSince 9 = .ok (.ireturn, 1) := by decide +kernel
theorem d_AT_usesSince_10 : decode b_AT_usesSince 10 = .ok (.iconst 0, 1) := by decide +kernel
theorem d_AT_usesSince_11 : decode b_AT_usesSince 11 = .ok (.istore_n 3, 1) := by decide +kernel
theorem d_AT_usesSince_12 : decode b_AT_usesSince 12 = .ok (.iload_n 1, 1) := by decide +kernel
theorem d_AT_usesSince_13 : decode b_AT_usesSince 13 = .ok (.bipush 8, 2) := by decide +kernel
theorem d_AT_usesSince_15 : decode b_AT_usesSince 15 = .ok (.imul, 1) := by decide +kernel
theorem d_AT_usesSince_16 : decode b_AT_usesSince 16 = .ok (.istore 4, 2) := by decide +kernel
theorem d_AT_usesSince_18 : decode b_AT_usesSince 18 = .ok (.iload 4, 2) := by decide +kernel
theorem d_AT_usesSince_20 : decode b_AT_usesSince 20 = .ok (.istore 5, 2) := by decide +kernel
theorem d_AT_usesSince_22 : decode b_AT_usesSince 22 = .ok (.iload 5, 2) := by decide +kernel
theorem d_AT_usesSince_24 : decode b_AT_usesSince 24 = .ok (.iload 4, 2) := by decide +kernel
theorem d_AT_usesSince_26 : decode b_AT_usesSince 26 = .ok (.bipush 8, 2) := by decide +kernel
theorem d_AT_usesSince_28 : decode b_AT_usesSince 28 = .ok (.iadd, 1) := by decide +kernel
theorem d_AT_usesSince_29 : decode b_AT_usesSince 29 = .ok (.if_icmp .ge 23, 3) := by decide +kernel
theorem d_AT_usesSince_32 : decode b_AT_usesSince 32 = .ok (.aload_n 0, 1) := by decide +kernel
theorem d_AT_usesSince_33 : decode b_AT_usesSince 33 = .ok (.getfield 15, 3) := by decide +kernel
theorem d_AT_usesSince_36 : decode b_AT_usesSince 36 = .ok (.iload 5, 2) := by decide +kernel
theorem d_AT_usesSince_38 : decode b_AT_usesSince 38 = .ok (.iaload, 1) := by decide +kernel
theorem d_AT_usesSince_39 : decode b_AT_usesSince 39 = .ok (.iload_n 2, 1) := by decide +kernel
theorem d_AT_usesSince_40 : decode b_AT_usesSince 40 = .ok (.if_icmp .lt 6, 3) := by decide +kernel
theorem d_AT_usesSince_43 : decode b_AT_usesSince 43 = .ok (.iinc 3 1, 3) := by decide +kernel
theorem d_AT_usesSince_46 : decode b_AT_usesSince 46 = .ok (.iinc 5 1, 3) := by decide +kernel
theorem d_AT_usesSince_49 : decode b_AT_usesSince 49 = .ok (.goto (-27), 3) := by decide +kernel
theorem d_AT_usesSince_52 : decode b_AT_usesSince 52 = .ok (.iload_n 3, 1) := by decide +kernel
theorem d_AT_usesSince_53 : decode b_AT_usesSince 53 = .ok (.ireturn, 1) := by decide +kernel
theorem d_AT_noteUse_0 : decode b_AT_noteUse 0 = .ok (.aload_n 0, 1) := by decide +kernel
theorem d_AT_noteUse_1 : decode b_AT_noteUse 1 = .ok (.iload_n 1, 1) := by decide +kernel
theorem d_AT_noteUse_2 : decode b_AT_noteUse 2 = .ok (.invokevirtual 31, 3) := by decide +kernel
theorem d_AT_noteUse_5 : decode b_AT_noteUse 5 = .ok (.ifCond .eq 37, 3) := by decide +kernel
theorem d_AT_noteUse_8 : decode b_AT_noteUse 8 = .ok (.aload_n 0, 1) := by decide +kernel
theorem d_AT_noteUse_9 : decode b_AT_noteUse 9 = .ok (.getfield 15, 3) := by decide +kernel
theorem d_AT_noteUse_12 : decode b_AT_noteUse 12 = .ok (.iload_n 1, 1) := by decide +kernel
theorem d_AT_noteUse_13 : decode b_AT_noteUse 13 = .ok (.bipush 8, 2) := by decide +kernel
theorem d_AT_noteUse_15 : decode b_AT_noteUse 15 = .ok (.imul, 1) := by decide +kernel
theorem d_AT_noteUse_16 : decode b_AT_noteUse 16 = .ok (.aload_n 0, 1) := by decide +kernel
theorem d_AT_noteUse_17 : decode b_AT_noteUse 17 = .ok (.getfield 18, 3) := by decide +kernel
theorem d_AT_noteUse_20 : decode b_AT_noteUse 20 = .ok (.iload_n 1, 1) := by decide +kernel
theorem d_AT_noteUse_21 : decode b_AT_noteUse 21 = .ok (.iaload, 1) := by decide +kernel
theorem d_AT_noteUse_22 : decode b_AT_noteUse 22 = .ok (.iadd, 1) := by decide +kernel
theorem d_AT_noteUse_23 : decode b_AT_noteUse 23 = .ok (.iload_n 2, 1) := by decide +kernel
theorem d_AT_noteUse_24 : decode b_AT_noteUse 24 = .ok (.iastore, 1) := by decide +kernel
theorem d_AT_noteUse_25 : decode b_AT_noteUse 25 = .ok (.aload_n 0, 1) := by decide +kernel
theorem d_AT_noteUse_26 : decode b_AT_noteUse 26 = .ok (.getfield 18, 3) := by decide +kernel
theorem d_AT_noteUse_29 : decode b_AT_noteUse 29 = .ok (.iload_n 1, 1) := by decide +kernel
theorem d_AT_noteUse_30 : decode b_AT_noteUse 30 = .ok (.aload_n 0, 1) := by decide +kernel
theorem d_AT_noteUse_31 : decode b_AT_noteUse 31 = .ok (.getfield 18, 3) := by decide +kernel
theorem d_AT_noteUse_34 : decode b_AT_noteUse 34 = .ok (.iload_n 1, 1) := by decide +kernel
theorem d_AT_noteUse_35 : decode b_AT_noteUse 35 = .ok (.iaload, 1) := by decide +kernel
theorem d_AT_noteUse_36 : decode b_AT_noteUse 36 = .ok (.iconst 1, 1) := by decide +kernel
theorem d_AT_noteUse_37 : decode b_AT_noteUse 37 = .ok (.iadd, 1) := by decide +kernel
theorem d_AT_noteUse_38 : decode b_AT_noteUse 38 = .ok (.bipush 8, 2) := by decide +kernel
theorem d_AT_noteUse_40 : decode b_AT_noteUse 40 = .ok (.irem, 1) := by decide +kernel
theorem d_AT_noteUse_41 : decode b_AT_noteUse 41 = .ok (.iastore, 1) := by decide +kernel
theorem d_AT_noteUse_42 : decode b_AT_noteUse 42 = .ok (.return_, 1) := by decide +kernel
theorem d_CT_init_0 : decode b_CT_init 0 = .ok (.aload_n 0, 1) := by decide +kernel
theorem d_CT_init_1 : decode b_CT_init 1 = .ok (.invokespecial 3, 3) := by decide +kernel
theorem d_CT_init_4 : decode b_CT_init 4 = .ok (.aload_n 0, 1) := by decide +kernel
theorem d_CT_init_5 : decode b_CT_init 5 = .ok (.bipush 100, 2) := by decide +kernel
theorem d_CT_init_7 : decode b_CT_init 7 = .ok (.newarray .long, 2) := by decide +kernel
theorem d_CT_init_9 : decode b_CT_init 9 = .ok (.putfield 11, 3) := by decide +kernel
theorem d_CT_init_12 : decode b_CT_init 12 = .ok (.aload_n 0, 1) := by decide +kernel
theorem d_CT_init_13 : decode b_CT_init 13 = .ok (.bipush 100, 2) := by decide +kernel
theorem d_CT_init_15 : decode b_CT_init 15 = .ok (.newarray .int, 2) := by decide +kernel
theorem d_CT_init_17 : decode b_CT_init 17 = .ok (.putfield 15, 3) := by decide +kernel
theorem d_CT_init_20 : decode b_CT_init 20 = .ok (.aload_n 0, 1) := by decide +kernel
theorem d_CT_init_21 : decode b_CT_init 21 = .ok (.bipush 100, 2) := by decide +kernel
theorem d_CT_init_23 : decode b_CT_init 23 = .ok (.newarray .boolean, 2) := by decide +kernel
theorem d_CT_init_25 : decode b_CT_init 25 = .ok (.putfield 19, 3) := by decide +kernel
theorem d_CT_init_28 : decode b_CT_init 28 = .ok (.aload_n 0, 1) := by decide +kernel
theorem d_CT_init_29 : decode b_CT_init 29 = .ok (.iconst 0, 1) := by decide +kernel
theorem d_CT_init_30 : decode b_CT_init 30 = .ok (.putfield 23, 3) := by decide +kernel
theorem d_CT_init_33 : decode b_CT_init 33 = .ok (.return_, 1) := by decide +kernel
theorem d_CT_isFull_0 : decode b_CT_isFull 0 = .ok (.aload_n 0, 1) := by decide +kernel
theorem d_CT_isFull_1 : decode b_CT_isFull 1 = .ok (.getfield 23, 3) := by decide +kernel
theorem d_CT_isFull_4 : decode b_CT_isFull 4 = .ok (.bipush 100, 2) := by decide +kernel
theorem d_CT_isFull_6 : decode b_CT_isFull 6 = .ok (.if_icmp .lt 7, 3) := by decide +kernel
theorem d_CT_isFull_9 : decode b_CT_isFull 9 = .ok (.iconst 1, 1) := by decide +kernel
theorem d_CT_isFull_10 : decode b_CT_isFull 10 = .ok (.goto 4, 3) := by decide +kernel
theorem d_CT_isFull_13 : decode b_CT_isFull 13 = .ok (.iconst 0, 1) := by decide +kernel
theorem d_CT_isFull_14 : decode b_CT_isFull 14 = .ok (.ireturn, 1) := by decide +kernel
theorem d_CT_has_0 : decode b_CT_has 0 = .ok (.iload_n 1, 1) := by decide +kernel
theorem d_CT_has_1 : decode b_CT_has 1 = .ok (.ifCond .lt 21, 3) := by decide +kernel
theorem d_CT_has_4 : decode b_CT_has 4 = .ok (.iload_n 1, 1) := by decide +kernel
theorem d_CT_has_5 : decode b_CT_has 5 = .ok (.aload_n 0, 1) := by decide +kernel
theorem d_CT_has_6 : decode b_CT_has 6 = .ok (.getfield 23, 3) := by decide +kernel
theorem d_CT_has_9 : decode b_CT_has 9 = .ok (.if_icmp .ge 13, 3) := by decide +kernel
theorem d_CT_has_12 : decode b_CT_has 12 = .ok (.iload_n 1, 1) := by decide +kernel
theorem d_CT_has_13 : decode b_CT_has 13 = .ok (.bipush 100, 2) := by decide +kernel
theorem d_CT_has_15 : decode b_CT_has 15 = .ok (.if_icmp .ge 7, 3) := by decide +kernel
theorem d_CT_has_18 : decode b_CT_has 18 = .ok (.iconst 1, 1) := by decide +kernel
theorem d_CT_has_19 : decode b_CT_has 19 = .ok (.goto 4, 3) := by decide +kernel
theorem d_CT_has_22 : decode b_CT_has 22 = .ok (.iconst 0, 1) := by decide +kernel
theorem d_CT_has_23 : decode b_CT_has 23 = .ok (.ireturn, 1) := by decide +kernel
theorem d_CT_find_0 : decode b_CT_find 0 = .ok (.iconst 0, 1) := by decide +kernel
theorem d_CT_find_1 : decode b_CT_find 1 = .ok (.istore_n 3, 1) := by decide +kernel
theorem d_CT_find_2 : decode b_CT_find 2 = .ok (.iload_n 3, 1) := by decide +kernel
theorem d_CT_find_3 : decode b_CT_find 3 = .ok (.aload_n 0, 1) := by decide +kernel
theorem d_CT_find_4 : decode b_CT_find 4 = .ok (.getfield 23, 3) := by decide +kernel
theorem d_CT_find_7 : decode b_CT_find 7 = .ok (.if_icmp .ge 28, 3) := by decide +kernel
theorem d_CT_find_10 : decode b_CT_find 10 = .ok (.iload_n 3, 1) := by decide +kernel
theorem d_CT_find_11 : decode b_CT_find 11 = .ok (.bipush 100, 2) := by decide +kernel
theorem d_CT_find_13 : decode b_CT_find 13 = .ok (.if_icmp .ge 22, 3) := by decide +kernel
theorem d_CT_find_16 : decode b_CT_find 16 = .ok (.aload_n 0, 1) := by decide +kernel
theorem d_CT_find_17 : decode b_CT_find 17 = .ok (.getfield 11, 3) := by decide +kernel
theorem d_CT_find_20 : decode b_CT_find 20 = .ok (.iload_n 3, 1) := by decide +kernel
theorem d_CT_find_21 : decode b_CT_find 21 = .ok (.laload, 1) := by decide +kernel
theorem d_CT_find_22 : decode b_CT_find 22 = .ok (.lload_n 1, 1) := by decide +kernel
theorem d_CT_find_23 : decode b_CT_find 23 = .ok (.lcmp, 1) := by decide +kernel
theorem d_CT_find_24 : decode b_CT_find 24 = .ok (.ifCond .ne 5, 3) := by decide +kernel
theorem d_CT_find_27 : decode b_CT_find 27 = .ok (.iload_n 3, 1) := by decide +kernel
theorem d_CT_find_28 : decode b_CT_find 28 = .ok (.ireturn, 1) := by decide +kernel
theorem d_CT_find_29 : decode b_CT_find 29 = .ok (.iinc 3 1, 3) := by decide +kernel
theorem d_CT_find_32 : decode b_CT_find 32 = .ok (.goto (-30), 3) := by decide +kernel
theorem d_CT_find_35 : decode b_CT_find 35 = .ok (.iconst (-1), 1) := by decide +kernel
theorem d_CT_find_36 : decode b_CT_find 36 = .ok (.ireturn, 1) := by decide +kernel
theorem d_CT_add_0 : decode b_CT_add 0 = .ok (.aload_n 0, 1) := by decide +kernel
theorem d_CT_add_1 : decode b_CT_add 1 = .ok (.getfield 23, 3) := by decide +kernel
theorem d_CT_add_4 : decode b_CT_add 4 = .ok (.ifCond .lt 12, 3) := by decide +kernel
theorem d_CT_add_7 : decode b_CT_add 7 = .ok (.aload_n 0, 1) := by decide +kernel
theorem d_CT_add_8 : decode b_CT_add 8 = .ok (.getfield 23, 3) := by decide +kernel
theorem d_CT_add_11 : decode b_CT_add 11 = .ok (.bipush 100, 2) := by decide +kernel
theorem d_CT_add_13 : decode b_CT_add 13 = .ok (.if_icmp .lt 5, 3) := by decide +kernel
theorem d_CT_add_16 : decode b_CT_add 16 = .ok (.iconst (-1), 1) := by decide +kernel
theorem d_CT_add_17 : decode b_CT_add 17 = .ok (.ireturn, 1) := by decide +kernel
theorem d_CT_add_18 : decode b_CT_add 18 = .ok (.aload_n 0, 1) := by decide +kernel
theorem d_CT_add_19 : decode b_CT_add 19 = .ok (.getfield 11, 3) := by decide +kernel
theorem d_CT_add_22 : decode b_CT_add 22 = .ok (.aload_n 0, 1) := by decide +kernel
theorem d_CT_add_23 : decode b_CT_add 23 = .ok (.getfield 23, 3) := by decide +kernel
theorem d_CT_add_26 : decode b_CT_add 26 = .ok (.lload_n 1, 1) := by decide +kernel
theorem d_CT_add_27 : decode b_CT_add 27 = .ok (.lastore, 1) := by decide +kernel
theorem d_CT_add_28 : decode b_CT_add 28 = .ok (.aload_n 0, 1) := by decide +kernel
theorem d_CT_add_29 : decode b_CT_add 29 = .ok (.getfield 15, 3) := by decide +kernel
theorem d_CT_add_32 : decode b_CT_add 32 = .ok (.aload_n 0, 1) := by decide +kernel
theorem d_CT_add_33 : decode b_CT_add 33 = .ok (.getfield 23, 3) := by decide +kernel
theorem d_CT_add_36 : decode b_CT_add 36 = .ok (.iload_n 3, 1) := by decide +kernel
theorem d_CT_add_37 : decode b_CT_add 37 = .ok (.iastore, 1) := by decide +kernel
theorem d_CT_add_38 : decode b_CT_add 38 = .ok (.aload_n 0, 1) := by decide +kernel
theorem d_CT_add_39 : decode b_CT_add 39 = .ok (.dup, 1) := by decide +kernel
theorem d_CT_add_40 : decode b_CT_add 40 = .ok (.getfield 23, 3) := by decide +kernel
theorem d_CT_add_43 : decode b_CT_add 43 = .ok (.iconst 1, 1) := by decide +kernel
theorem d_CT_add_44 : decode b_CT_add 44 = .ok (.iadd, 1) := by decide +kernel
theorem d_CT_add_45 : decode b_CT_add 45 = .ok (.putfield 23, 3) := by decide +kernel
theorem d_CT_add_48 : decode b_CT_add 48 = .ok (.aload_n 0, 1) := by decide +kernel
theorem d_CT_add_49 : decode b_CT_add 49 = .ok (.getfield 23, 3) := by decide +kernel
theorem d_CT_add_52 : decode b_CT_add 52 = .ok (.iconst 1, 1) := by decide +kernel
theorem d_CT_add_53 : decode b_CT_add 53 = .ok (.isub, 1) := by decide +kernel
theorem d_CT_add_54 : decode b_CT_add 54 = .ok (.ireturn, 1) := by decide +kernel
theorem d_CT_numberOf_0 : decode b_CT_numberOf 0 = .ok (.aload_n 0, 1) := by decide +kernel
theorem d_CT_numberOf_1 : decode b_CT_numberOf 1 = .ok (.iload_n 1, 1) := by decide +kernel
theorem d_CT_numberOf_2 : decode b_CT_numberOf 2 = .ok (.invokevirtual 27, 3) := by decide +kernel
theorem d_CT_numberOf_5 : decode b_CT_numberOf 5 = .ok (.ifCond .eq 12, 3) := by decide +kernel
theorem d_CT_numberOf_8 : decode b_CT_numberOf 8 = .ok (.aload_n 0, 1) := by decide +kernel
theorem d_CT_numberOf_9 : decode b_CT_numberOf 9 = .ok (.getfield 11, 3) := by decide +kernel
theorem d_CT_numberOf_12 : decode b_CT_numberOf 12 = .ok (.iload_n 1, 1) := by decide +kernel
theorem d_CT_numberOf_13 : decode b_CT_numberOf 13 = .ok (.laload, 1) := by decide +kernel
theorem d_CT_numberOf_14 : decode b_CT_numberOf 14 = .ok (.goto 4, 3) := by decide +kernel
theorem d_CT_numberOf_17 : decode b_CT_numberOf 17 = .ok (.lconst 0, 1) := by decide +kernel
theorem d_CT_numberOf_18 : decode b_CT_numberOf 18 = .ok (.lreturn, 1) := by decide +kernel
theorem d_CT_accountOf_0 : decode b_CT_accountOf 0 = .ok (.aload_n 0, 1) := by decide +kernel
theorem d_CT_accountOf_1 : decode b_CT_accountOf 1 = .ok (.iload_n 1, 1) := by decide +kernel
theorem d_CT_accountOf_2 : decode b_CT_accountOf 2 = .ok (.invokevirtual 27, 3) := by decide +kernel
theorem d_CT_accountOf_5 : decode b_CT_accountOf 5 = .ok (.ifCond .eq 12, 3) := by decide +kernel
theorem d_CT_accountOf_8 : decode b_CT_accountOf 8 = .ok (.aload_n 0, 1) := by decide +kernel
theorem d_CT_accountOf_9 : decode b_CT_accountOf 9 = .ok (.getfield 15, 3) := by decide +kernel
theorem d_CT_accountOf_12 : decode b_CT_accountOf 12 = .ok (.iload_n 1, 1) := by decide +kernel
theorem d_CT_accountOf_13 : decode b_CT_accountOf 13 = .ok (.iaload, 1) := by decide +kernel
theorem d_CT_accountOf_14 : decode b_CT_accountOf 14 = .ok (.goto 4, 3) := by decide +kernel
theorem d_CT_accountOf_17 : decode b_CT_accountOf 17 = .ok (.iconst (-1), 1) := by decide +kernel
theorem d_CT_accountOf_18 : decode b_CT_accountOf 18 = .ok (.ireturn, 1) := by decide +kernel
theorem d_CT_isBlocked_0 : decode b_CT_isBlocked 0 = .ok (.aload_n 0, 1) := by decide +kernel
theorem d_CT_isBlocked_1 : decode b_CT_isBlocked 1 = .ok (.iload_n 1, 1) := by decide +kernel
theorem d_CT_isBlocked_2 : decode b_CT_isBlocked 2 = .ok (.invokevirtual 27, 3) := by decide +kernel
theorem d_CT_isBlocked_5 : decode b_CT_isBlocked 5 = .ok (.ifCond .eq 16, 3) := by decide +kernel
theorem d_CT_isBlocked_8 : decode b_CT_isBlocked 8 = .ok (.aload_n 0, 1) := by decide +kernel
theorem d_CT_isBlocked_9 : decode b_CT_isBlocked 9 = .ok (.getfield 19, 3) := by decide +kernel
theorem d_CT_isBlocked_12 : decode b_CT_isBlocked 12 = .ok (.iload_n 1, 1) := by decide +kernel
theorem d_CT_isBlocked_13 : decode b_CT_isBlocked 13 = .ok (.baload, 1) := by decide +kernel
theorem d_CT_isBlocked_14 : decode b_CT_isBlocked 14 = .ok (.ifCond .eq 7, 3) := by decide +kernel
theorem d_CT_isBlocked_17 : decode b_CT_isBlocked 17 = .ok (.iconst 1, 1) := by decide +kernel
theorem d_CT_isBlocked_18 : decode b_CT_isBlocked 18 = .ok (.goto 4, 3) := by decide +kernel
theorem d_CT_isBlocked_21 : decode b_CT_isBlocked 21 = .ok (.iconst 0, 1) := by decide +kernel
theorem d_CT_isBlocked_22 : decode b_CT_isBlocked 22 = .ok (.ireturn, 1) := by decide +kernel
theorem d_CT_setBlocked_0 : decode b_CT_setBlocked 0 = .ok (.aload_n 0, 1) := by decide +kernel
theorem d_CT_setBlocked_1 : decode b_CT_setBlocked 1 = .ok (.iload_n 1, 1) := by decide +kernel
theorem d_CT_setBlocked_2 : decode b_CT_setBlocked 2 = .ok (.invokevirtual 31, 3) := by decide +kernel
theorem d_CT_setBlocked_5 : decode b_CT_setBlocked 5 = .ok (.istore_n 3, 1) := by decide +kernel
theorem d_CT_setBlocked_6 : decode b_CT_setBlocked 6 = .ok (.aload_n 0, 1) := by decide +kernel
theorem d_CT_setBlocked_7 : decode b_CT_setBlocked 7 = .ok (.iload_n 1, 1) := by decide +kernel
theorem d_CT_setBlocked_8 : decode b_CT_setBlocked 8 = .ok (.invokevirtual 27, 3) := by decide +kernel
theorem d_CT_setBlocked_11 : decode b_CT_setBlocked 11 = .ok (.ifCond .eq 10, 3) := by decide +kernel
theorem d_CT_setBlocked_14 : decode b_CT_setBlocked 14 = .ok (.aload_n 0, 1) := by decide +kernel
theorem d_CT_setBlocked_15 : decode b_CT_setBlocked 15 = .ok (.getfield 19, 3) := by decide +kernel
theorem d_CT_setBlocked_18 : decode b_CT_setBlocked 18 = .ok (.iload_n 1, 1) := by decide +kernel
theorem d_CT_setBlocked_19 : decode b_CT_setBlocked 19 = .ok (.iload_n 2, 1) := by decide +kernel
theorem d_CT_setBlocked_20 : decode b_CT_setBlocked 20 = .ok (.bastore, 1) := by decide +kernel
theorem d_CT_setBlocked_21 : decode b_CT_setBlocked 21 = .ok (.iload_n 3, 1) := by decide +kernel
theorem d_CT_setBlocked_22 : decode b_CT_setBlocked 22 = .ok (.ireturn, 1) := by decide +kernel
theorem d_RT_init_0 : decode b_RT_init 0 = .ok (.aload_n 0, 1) := by decide +kernel
theorem d_RT_init_1 : decode b_RT_init 1 = .ok (.invokespecial 3, 3) := by decide +kernel
theorem d_RT_init_4 : decode b_RT_init 4 = .ok (.aload_n 0, 1) := by decide +kernel
theorem d_RT_init_5 : decode b_RT_init 5 = .ok (.bipush 40, 2) := by decide +kernel
theorem d_RT_init_7 : decode b_RT_init 7 = .ok (.newarray .int, 2) := by decide +kernel
theorem d_RT_init_9 : decode b_RT_init 9 = .ok (.putfield 11, 3) := by decide +kernel
theorem d_RT_init_12 : decode b_RT_init 12 = .ok (.aload_n 0, 1) := by decide +kernel
theorem d_RT_init_13 : decode b_RT_init 13 = .ok (.bipush 40, 2) := by decide +kernel
theorem d_RT_init_15 : decode b_RT_init 15 = .ok (.newarray .int, 2) := by decide +kernel
theorem d_RT_init_17 : decode b_RT_init 17 = .ok (.putfield 15, 3) := by decide +kernel
theorem d_RT_init_20 : decode b_RT_init 20 = .ok (.aload_n 0, 1) := by decide +kernel
theorem d_RT_init_21 : decode b_RT_init 21 = .ok (.bipush 40, 2) := by decide +kernel
theorem d_RT_init_23 : decode b_RT_init 23 = .ok (.newarray .int, 2) := by decide +kernel
theorem d_RT_init_25 : decode b_RT_init 25 = .ok (.putfield 18, 3) := by decide +kernel
theorem d_RT_init_28 : decode b_RT_init 28 = .ok (.aload_n 0, 1) := by decide +kernel
theorem d_RT_init_29 : decode b_RT_init 29 = .ok (.iconst 0, 1) := by decide +kernel
theorem d_RT_init_30 : decode b_RT_init 30 = .ok (.putfield 21, 3) := by decide +kernel
theorem d_RT_init_33 : decode b_RT_init 33 = .ok (.return_, 1) := by decide +kernel
theorem d_RT_isFull_0 : decode b_RT_isFull 0 = .ok (.aload_n 0, 1) := by decide +kernel
theorem d_RT_isFull_1 : decode b_RT_isFull 1 = .ok (.getfield 21, 3) := by decide +kernel
theorem d_RT_isFull_4 : decode b_RT_isFull 4 = .ok (.bipush 40, 2) := by decide +kernel
theorem d_RT_isFull_6 : decode b_RT_isFull 6 = .ok (.if_icmp .lt 7, 3) := by decide +kernel
theorem d_RT_isFull_9 : decode b_RT_isFull 9 = .ok (.iconst 1, 1) := by decide +kernel
theorem d_RT_isFull_10 : decode b_RT_isFull 10 = .ok (.goto 4, 3) := by decide +kernel
theorem d_RT_isFull_13 : decode b_RT_isFull 13 = .ok (.iconst 0, 1) := by decide +kernel
theorem d_RT_isFull_14 : decode b_RT_isFull 14 = .ok (.ireturn, 1) := by decide +kernel
theorem d_RT_find_0 : decode b_RT_find 0 = .ok (.iconst 0, 1) := by decide +kernel
theorem d_RT_find_1 : decode b_RT_find 1 = .ok (.istore 4, 2) := by decide +kernel
theorem d_RT_find_3 : decode b_RT_find 3 = .ok (.iload 4, 2) := by decide +kernel
theorem d_RT_find_5 : decode b_RT_find 5 = .ok (.aload_n 0, 1) := by decide +kernel
theorem d_RT_find_6 : decode b_RT_find 6 = .ok (.getfield 21, 3) := by decide +kernel
theorem d_RT_find_9 : decode b_RT_find 9 = .ok (.if_icmp .ge 43, 3) := by decide +kernel
theorem d_RT_find_12 : decode b_RT_find 12 = .ok (.iload 4, 2) := by decide +kernel
theorem d_RT_find_14 : decode b_RT_find 14 = .ok (.bipush 40, 2) := by decide +kernel
theorem d_RT_find_16 : decode b_RT_find 16 = .ok (.if_icmp .ge 36, 3) := by decide +kernel
theorem d_RT_find_19 : decode b_RT_find 19 = .ok (.aload_n 0, 1) := by decide +kernel
theorem d_RT_find_20 : decode b_RT_find 20 = .ok (.getfield 15, 3) := by decide +kernel
theorem d_RT_find_23 : decode b_RT_find 23 = .ok (.iload 4, 2) := by decide +kernel
theorem d_RT_find_25 : decode b_RT_find 25 = .ok (.iaload, 1) := by decide +kernel
theorem d_RT_find_26 : decode b_RT_find 26 = .ok (.iload_n 3, 1) := by decide +kernel
theorem d_RT_find_27 : decode b_RT_find 27 = .ok (.if_icmp .ne 19, 3) := by decide +kernel
theorem d_RT_find_30 : decode b_RT_find 30 = .ok (.aload_n 0, 1) := by decide +kernel
theorem d_RT_find_31 : decode b_RT_find 31 = .ok (.getfield 11, 3) := by decide +kernel
theorem d_RT_find_34 : decode b_RT_find 34 = .ok (.iload 4, 2) := by decide +kernel
theorem d_RT_find_36 : decode b_RT_find 36 = .ok (.iaload, 1) := by decide +kernel
theorem d_RT_find_37 : decode b_RT_find 37 = .ok (.i2l, 1) := by decide +kernel
theorem d_RT_find_38 : decode b_RT_find 38 = .ok (.lload_n 1, 1) := by decide +kernel
theorem d_RT_find_39 : decode b_RT_find 39 = .ok (.lcmp, 1) := by decide +kernel
theorem d_RT_find_40 : decode b_RT_find 40 = .ok (.ifCond .ne 6, 3) := by decide +kernel
theorem d_RT_find_43 : decode b_RT_find 43 = .ok (.iload 4, 2) := by decide +kernel
theorem d_RT_find_45 : decode b_RT_find 45 = .ok (.ireturn, 1) := by decide +kernel
theorem d_RT_find_46 : decode b_RT_find 46 = .ok (.iinc 4 1, 3) := by decide +kernel
theorem d_RT_find_49 : decode b_RT_find 49 = .ok (.goto (-46), 3) := by decide +kernel
theorem d_RT_find_52 : decode b_RT_find 52 = .ok (.iconst (-1), 1) := by decide +kernel
theorem d_RT_find_53 : decode b_RT_find 53 = .ok (.ireturn, 1) := by decide +kernel
theorem d_RT_add_0 : decode b_RT_add 0 = .ok (.aload_n 0, 1) := by decide +kernel
theorem d_RT_add_1 : decode b_RT_add 1 = .ok (.getfield 21, 3) := by decide +kernel
theorem d_RT_add_4 : decode b_RT_add 4 = .ok (.ifCond .lt 52, 3) := by decide +kernel
theorem d_RT_add_7 : decode b_RT_add 7 = .ok (.aload_n 0, 1) := by decide +kernel
theorem d_RT_add_8 : decode b_RT_add 8 = .ok (.getfield 21, 3) := by decide +kernel
theorem d_RT_add_11 : decode b_RT_add 11 = .ok (.bipush 40, 2) := by decide +kernel
theorem d_RT_add_13 : decode b_RT_add 13 = .ok (.if_icmp .ge 43, 3) := by decide +kernel
theorem d_RT_add_16 : decode b_RT_add 16 = .ok (.aload_n 0, 1) := by decide +kernel
theorem d_RT_add_17 : decode b_RT_add 17 = .ok (.getfield 11, 3) := by decide +kernel
theorem d_RT_add_20 : decode b_RT_add 20 = .ok (.aload_n 0, 1) := by decide +kernel
theorem d_RT_add_21 : decode b_RT_add 21 = .ok (.getfield 21, 3) := by decide +kernel
theorem d_RT_add_24 : decode b_RT_add 24 = .ok (.iload_n 2, 1) := by decide +kernel
theorem d_RT_add_25 : decode b_RT_add 25 = .ok (.iastore, 1) := by decide +kernel
theorem d_RT_add_26 : decode b_RT_add 26 = .ok (.aload_n 0, 1) := by decide +kernel
theorem d_RT_add_27 : decode b_RT_add 27 = .ok (.getfield 15, 3) := by decide +kernel
theorem d_RT_add_30 : decode b_RT_add 30 = .ok (.aload_n 0, 1) := by decide +kernel
theorem d_RT_add_31 : decode b_RT_add 31 = .ok (.getfield 21, 3) := by decide +kernel
theorem d_RT_add_34 : decode b_RT_add 34 = .ok (.iload_n 3, 1) := by decide +kernel
theorem d_RT_add_35 : decode b_RT_add 35 = .ok (.iastore, 1) := by decide +kernel
theorem d_RT_add_36 : decode b_RT_add 36 = .ok (.aload_n 0, 1) := by decide +kernel
theorem d_RT_add_37 : decode b_RT_add 37 = .ok (.getfield 18, 3) := by decide +kernel
theorem d_RT_add_40 : decode b_RT_add 40 = .ok (.aload_n 0, 1) := by decide +kernel
theorem d_RT_add_41 : decode b_RT_add 41 = .ok (.getfield 21, 3) := by decide +kernel
theorem d_RT_add_44 : decode b_RT_add 44 = .ok (.iload_n 1, 1) := by decide +kernel
theorem d_RT_add_45 : decode b_RT_add 45 = .ok (.iastore, 1) := by decide +kernel
theorem d_RT_add_46 : decode b_RT_add 46 = .ok (.aload_n 0, 1) := by decide +kernel
theorem d_RT_add_47 : decode b_RT_add 47 = .ok (.dup, 1) := by decide +kernel
theorem d_RT_add_48 : decode b_RT_add 48 = .ok (.getfield 21, 3) := by decide +kernel
theorem d_RT_add_51 : decode b_RT_add 51 = .ok (.iconst 1, 1) := by decide +kernel
theorem d_RT_add_52 : decode b_RT_add 52 = .ok (.iadd, 1) := by decide +kernel
theorem d_RT_add_53 : decode b_RT_add 53 = .ok (.putfield 21, 3) := by decide +kernel
theorem d_RT_add_56 : decode b_RT_add 56 = .ok (.return_, 1) := by decide +kernel
theorem d_RT_redirect_0 : decode b_RT_redirect 0 = .ok (.aload_n 0, 1) := by decide +kernel
theorem d_RT_redirect_1 : decode b_RT_redirect 1 = .ok (.iload_n 1, 1) := by decide +kernel
theorem d_RT_redirect_2 : decode b_RT_redirect 2 = .ok (.invokevirtual 25, 3) := by decide +kernel
theorem d_RT_redirect_5 : decode b_RT_redirect 5 = .ok (.istore_n 3, 1) := by decide +kernel
theorem d_RT_redirect_6 : decode b_RT_redirect 6 = .ok (.iload_n 3, 1) := by decide +kernel
theorem d_RT_redirect_7 : decode b_RT_redirect 7 = .ok (.iconst (-1), 1) := by decide +kernel
theorem d_RT_redirect_8 : decode b_RT_redirect 8 = .ok (.if_icmp .eq 10, 3) := by decide +kernel
theorem d_RT_redirect_11 : decode b_RT_redirect 11 = .ok (.aload_n 0, 1) := by decide +kernel
theorem d_RT_redirect_12 : decode b_RT_redirect 12 = .ok (.getfield 18, 3) := by decide +kernel
theorem d_RT_redirect_15 : decode b_RT_redirect 15 = .ok (.iload_n 1, 1) := by decide +kernel
theorem d_RT_redirect_16 : decode b_RT_redirect 16 = .ok (.iload_n 2, 1) := by decide +kernel
theorem d_RT_redirect_17 : decode b_RT_redirect 17 = .ok (.iastore, 1) := by decide +kernel
theorem d_RT_redirect_18 : decode b_RT_redirect 18 = .ok (.iload_n 3, 1) := by decide +kernel
theorem d_RT_redirect_19 : decode b_RT_redirect 19 = .ok (.ireturn, 1) := by decide +kernel
theorem d_RT_remove_0 : decode b_RT_remove 0 = .ok (.aload_n 0, 1) := by decide +kernel
theorem d_RT_remove_1 : decode b_RT_remove 1 = .ok (.iload_n 1, 1) := by decide +kernel
theorem d_RT_remove_2 : decode b_RT_remove 2 = .ok (.invokevirtual 25, 3) := by decide +kernel
theorem d_RT_remove_5 : decode b_RT_remove 5 = .ok (.istore_n 2, 1) := by decide +kernel
theorem d_RT_remove_6 : decode b_RT_remove 6 = .ok (.iload_n 2, 1) := by decide +kernel
theorem d_RT_remove_7 : decode b_RT_remove 7 = .ok (.iconst (-1), 1) := by decide +kernel
theorem d_RT_remove_8 : decode b_RT_remove 8 = .ok (.if_icmp .eq 58, 3) := by decide +kernel
theorem d_RT_remove_11 : decode b_RT_remove 11 = .ok (.aload_n 0, 1) := by decide +kernel
theorem d_RT_remove_12 : decode b_RT_remove 12 = .ok (.dup, 1) := by decide +kernel
theorem d_RT_remove_13 : decode b_RT_remove 13 = .ok (.getfield 21, 3) := by decide +kernel
theorem d_RT_remove_16 : decode b_RT_remove 16 = .ok (.iconst 1, 1) := by decide +kernel
theorem d_RT_remove_17 : decode b_RT_remove 17 = .ok (.isub, 1) := by decide +kernel
theorem d_RT_remove_18 : decode b_RT_remove 18 = .ok (.putfield 21, 3) := by decide +kernel
theorem d_RT_remove_21 : decode b_RT_remove 21 = .ok (.aload_n 0, 1) := by decide +kernel
theorem d_RT_remove_22 : decode b_RT_remove 22 = .ok (.getfield 11, 3) := by decide +kernel
theorem d_RT_remove_25 : decode b_RT_remove 25 = .ok (.iload_n 1, 1) := by decide +kernel
theorem d_RT_remove_26 : decode b_RT_remove 26 = .ok (.aload_n 0, 1) := by decide +kernel
theorem d_RT_remove_27 : decode b_RT_remove 27 = .ok (.getfield 11, 3) := by decide +kernel
theorem d_RT_remove_30 : decode b_RT_remove 30 = .ok (.aload_n 0, 1) := by decide +kernel
theorem d_RT_remove_31 : decode b_RT_remove 31 = .ok (.getfield 21, 3) := by decide +kernel
theorem d_RT_remove_34 : decode b_RT_remove 34 = .ok (.iaload, 1) := by decide +kernel
theorem d_RT_remove_35 : decode b_RT_remove 35 = .ok (.iastore, 1) := by decide +kernel
theorem d_RT_remove_36 : decode b_RT_remove 36 = .ok (.aload_n 0, 1) := by decide +kernel
theorem d_RT_remove_37 : decode b_RT_remove 37 = .ok (.getfield 15, 3) := by decide +kernel
theorem d_RT_remove_40 : decode b_RT_remove 40 = .ok (.iload_n 1, 1) := by decide +kernel
theorem d_RT_remove_41 : decode b_RT_remove 41 = .ok (.aload_n 0, 1) := by decide +kernel
theorem d_RT_remove_42 : decode b_RT_remove 42 = .ok (.getfield 15, 3) := by decide +kernel
theorem d_RT_remove_45 : decode b_RT_remove 45 = .ok (.aload_n 0, 1) := by decide +kernel
theorem d_RT_remove_46 : decode b_RT_remove 46 = .ok (.getfield 21, 3) := by decide +kernel
theorem d_RT_remove_49 : decode b_RT_remove 49 = .ok (.iaload, 1) := by decide +kernel
theorem d_RT_remove_50 : decode b_RT_remove 50 = .ok (.iastore, 1) := by decide +kernel
theorem d_RT_remove_51 : decode b_RT_remove 51 = .ok (.aload_n 0, 1) := by decide +kernel
theorem d_RT_remove_52 : decode b_RT_remove 52 = .ok (.getfield 18, 3) := by decide +kernel
theorem d_RT_remove_55 : decode b_RT_remove 55 = .ok (.iload_n 1, 1) := by decide +kernel
theorem d_RT_remove_56 : decode b_RT_remove 56 = .ok (.aload_n 0, 1) := by decide +kernel
theorem d_RT_remove_57 : decode b_RT_remove 57 = .ok (.getfield 18, 3) := by decide +kernel
theorem d_RT_remove_60 : decode b_RT_remove 60 = .ok (.aload_n 0, 1) := by decide +kernel
theorem d_RT_remove_61 : decode b_RT_remove 61 = .ok (.getfield 21, 3) := by decide +kernel
theorem d_RT_remove_64 : decode b_RT_remove 64 = .ok (.iaload, 1) := by decide +kernel
theorem d_RT_remove_65 : decode b_RT_remove 65 = .ok (.iastore, 1) := by decide +kernel
theorem d_RT_remove_66 : decode b_RT_remove 66 = .ok (.iload_n 2, 1) := by decide +kernel
theorem d_RT_remove_67 : decode b_RT_remove 67 = .ok (.ireturn, 1) := by decide +kernel
theorem d_RT_issuerFor_0 : decode b_RT_issuerFor 0 = .ok (.lload_n 1, 1) := by decide +kernel
theorem d_RT_issuerFor_1 : decode b_RT_issuerFor 1 = .ok (.lstore_n 3, 1) := by decide +kernel
theorem d_RT_issuerFor_2 : decode b_RT_issuerFor 2 = .ok (.lload_n 1, 1) := by decide +kernel
theorem d_RT_issuerFor_3 : decode b_RT_issuerFor 3 = .ok (.invokestatic 29, 3) := by decide +kernel
theorem d_RT_issuerFor_6 : decode b_RT_issuerFor 6 = .ok (.istore 5, 2) := by decide +kernel
theorem d_RT_issuerFor_8 : decode b_RT_issuerFor 8 = .ok (.iload 5, 2) := by decide +kernel
theorem d_RT_issuerFor_10 : decode b_RT_issuerFor 10 = .ok (.ifCond .le 48, 3) := by decide +kernel
theorem d_RT_issuerFor_13 : decode b_RT_issuerFor 13 = .ok (.iload 5, 2) := by decide +kernel
theorem d_RT_issuerFor_15 : decode b_RT_issuerFor 15 = .ok (.bipush 8, 2) := by decide +kernel
theorem d_RT_issuerFor_17 : decode b_RT_issuerFor 17 = .ok (.if_icmp .le 7, 3) := by decide +kernel
theorem d_RT_issuerFor_20 : decode b_RT_issuerFor 20 = .ok (.iconst (-1), 1) := by decide +kernel
theorem d_RT_issuerFor_21 : decode b_RT_issuerFor 21 = .ok (.goto 10, 3) := by decide +kernel
theorem d_RT_issuerFor_24 : decode b_RT_issuerFor 24 = .ok (.aload_n 0, 1) := by decide +kernel
theorem d_RT_issuerFor_25 : decode b_RT_issuerFor 25 = .ok (.lload_n 3, 1) := by decide +kernel
theorem d_RT_issuerFor_26 : decode b_RT_issuerFor 26 = .ok (.iload 5, 2) := by decide +kernel
theorem d_RT_issuerFor_28 : decode b_RT_issuerFor 28 = .ok (.invokevirtual 33, 3) := by decide +kernel
theorem d_RT_issuerFor_31 : decode b_RT_issuerFor 31 = .ok (.istore 6, 2) := by decide +kernel
theorem d_RT_issuerFor_33 : decode b_RT_issuerFor 33 = .ok (.iload 6, 2) := by decide +kernel
theorem d_RT_issuerFor_35 : decode b_RT_issuerFor 35 = .ok (.iconst (-1), 1) := by decide +kernel
theorem d_RT_issuerFor_36 : decode b_RT_issuerFor 36 = .ok (.if_icmp .eq 10, 3) := by decide +kernel
theorem d_RT_issuerFor_39 : decode b_RT_issuerFor 39 = .ok (.aload_n 0, 1) := by decide +kernel
theorem d_RT_issuerFor_40 : decode b_RT_issuerFor 40 = .ok (.iload 6, 2) := by decide +kernel
theorem d_RT_issuerFor_42 : decode b_RT_issuerFor 42 = .ok (.invokevirtual 25, 3) := by decide +kernel
theorem d_RT_issuerFor_45 : decode b_RT_issuerFor 45 = .ok (.ireturn, 1) := by decide +kernel
theorem d_RT_issuerFor_46 : decode b_RT_issuerFor 46 = .ok (.lload_n 3, 1) := by decide +kernel
theorem d_RT_issuerFor_47 : decode b_RT_issuerFor 47 = .ok (.ldc2_w 37, 3) := by decide +kernel
theorem d_RT_issuerFor_50 : decode b_RT_issuerFor 50 = .ok (.ldiv, 1) := by decide +kernel
theorem d_RT_issuerFor_51 : decode b_RT_issuerFor 51 = .ok (.lstore_n 3, 1) := by decide +kernel
theorem d_RT_issuerFor_52 : decode b_RT_issuerFor 52 = .ok (.iinc 5 (-1), 3) := by decide +kernel
theorem d_RT_issuerFor_55 : decode b_RT_issuerFor 55 = .ok (.goto (-47), 3) := by decide +kernel
theorem d_RT_issuerFor_58 : decode b_RT_issuerFor 58 = .ok (.iconst (-1), 1) := by decide +kernel
theorem d_RT_issuerFor_59 : decode b_RT_issuerFor 59 = .ok (.ireturn, 1) := by decide +kernel
theorem d_RT_issuerAt_0 : decode b_RT_issuerAt 0 = .ok (.iload_n 1, 1) := by decide +kernel
theorem d_RT_issuerAt_1 : decode b_RT_issuerAt 1 = .ok (.ifCond .lt 26, 3) := by decide +kernel
theorem d_RT_issuerAt_4 : decode b_RT_issuerAt 4 = .ok (.iload_n 1, 1) := by decide +kernel
theorem d_RT_issuerAt_5 : decode b_RT_issuerAt 5 = .ok (.aload_n 0, 1) := by decide +kernel
theorem d_RT_issuerAt_6 : decode b_RT_issuerAt 6 = .ok (.getfield 21, 3) := by decide +kernel
theorem d_RT_issuerAt_9 : decode b_RT_issuerAt 9 = .ok (.if_icmp .ge 18, 3) := by decide +kernel
theorem d_RT_issuerAt_12 : decode b_RT_issuerAt 12 = .ok (.iload_n 1, 1) := by decide +kernel
theorem d_RT_issuerAt_13 : decode b_RT_issuerAt 13 = .ok (.bipush 40, 2) := by decide +kernel
theorem d_RT_issuerAt_15 : decode b_RT_issuerAt 15 = .ok (.if_icmp .ge 12, 3) := by decide +kernel
theorem d_RT_issuerAt_18 : decode b_RT_issuerAt 18 = .ok (.aload_n 0, 1) := by decide +kernel
theorem d_RT_issuerAt_19 : decode b_RT_issuerAt 19 = .ok (.getfield 18, 3) := by decide +kernel
theorem d_RT_issuerAt_22 : decode b_RT_issuerAt 22 = .ok (.iload_n 1, 1) := by decide +kernel
theorem d_RT_issuerAt_23 : decode b_RT_issuerAt 23 = .ok (.iaload, 1) := by decide +kernel
theorem d_RT_issuerAt_24 : decode b_RT_issuerAt 24 = .ok (.goto 4, 3) := by decide +kernel
theorem d_RT_issuerAt_27 : decode b_RT_issuerAt 27 = .ok (.iconst (-1), 1) := by decide +kernel
theorem d_RT_issuerAt_28 : decode b_RT_issuerAt 28 = .ok (.ireturn, 1) := by decide +kernel
theorem d_CD_init_0 : decode b_CD_init 0 = .ok (.aload_n 0, 1) := by decide +kernel
theorem d_CD_init_1 : decode b_CD_init 1 = .ok (.invokespecial 1, 3) := by decide +kernel
theorem d_CD_init_4 : decode b_CD_init 4 = .ok (.aload_n 0, 1) := by decide +kernel
theorem d_CD_init_5 : decode b_CD_init 5 = .ok (.iconst 1, 1) := by decide +kernel
theorem d_CD_init_6 : decode b_CD_init 6 = .ok (.iload_n 1, 1) := by decide +kernel
theorem d_CD_init_7 : decode b_CD_init 7 = .ok (.sipush 5000, 3) := by decide +kernel
theorem d_CD_init_10 : decode b_CD_init 10 = .ok (.invokestatic 9, 3) := by decide +kernel
theorem d_CD_init_13 : decode b_CD_init 13 = .ok (.invokestatic 15, 3) := by decide +kernel
theorem d_CD_init_16 : decode b_CD_init 16 = .ok (.putfield 18, 3) := by decide +kernel
theorem d_CD_init_19 : decode b_CD_init 19 = .ok (.aload_n 0, 1) := by decide +kernel
theorem d_CD_init_20 : decode b_CD_init 20 = .ok (.iconst 1, 1) := by decide +kernel
theorem d_CD_init_21 : decode b_CD_init 21 = .ok (.iload_n 2, 1) := by decide +kernel
theorem d_CD_init_22 : decode b_CD_init 22 = .ok (.bipush 8, 2) := by decide +kernel
theorem d_CD_init_24 : decode b_CD_init 24 = .ok (.invokestatic 9, 3) := by decide +kernel
theorem d_CD_init_27 : decode b_CD_init 27 = .ok (.invokestatic 15, 3) := by decide +kernel
theorem d_CD_init_30 : decode b_CD_init 30 = .ok (.putfield 22, 3) := by decide +kernel
theorem d_CD_init_33 : decode b_CD_init 33 = .ok (.aload_n 0, 1) := by decide +kernel
theorem d_CD_init_34 : decode b_CD_init 34 = .ok (.new 25, 3) := by decide +kernel
theorem d_CD_init_37 : decode b_CD_init 37 = .ok (.dup, 1) := by decide +kernel
theorem d_CD_init_38 : decode b_CD_init 38 = .ok (.invokespecial 27, 3) := by decide +kernel
theorem d_CD_init_41 : decode b_CD_init 41 = .ok (.putfield 28, 3) := by decide +kernel
theorem d_CD_init_44 : decode b_CD_init 44 = .ok (.aload_n 0, 1) := by decide +kernel
theorem d_CD_init_45 : decode b_CD_init 45 = .ok (.new 32, 3) := by decide +kernel
theorem d_CD_init_48 : decode b_CD_init 48 = .ok (.dup, 1) := by decide +kernel
theorem d_CD_init_49 : decode b_CD_init 49 = .ok (.invokespecial 34, 3) := by decide +kernel
theorem d_CD_init_52 : decode b_CD_init 52 = .ok (.putfield 35, 3) := by decide +kernel
theorem d_CD_init_55 : decode b_CD_init 55 = .ok (.aload_n 0, 1) := by decide +kernel
theorem d_CD_init_56 : decode b_CD_init 56 = .ok (.new 39, 3) := by decide +kernel
theorem d_CD_init_59 : decode b_CD_init 59 = .ok (.dup, 1) := by decide +kernel
theorem d_CD_init_60 : decode b_CD_init 60 = .ok (.invokespecial 41, 3) := by decide +kernel
theorem d_CD_init_63 : decode b_CD_init 63 = .ok (.putfield 42, 3) := by decide +kernel
theorem d_CD_init_66 : decode b_CD_init 66 = .ok (.aload_n 0, 1) := by decide +kernel
theorem d_CD_init_67 : decode b_CD_init 67 = .ok (.iconst 0, 1) := by decide +kernel
theorem d_CD_init_68 : decode b_CD_init 68 = .ok (.putfield 46, 3) := by decide +kernel
theorem d_CD_init_71 : decode b_CD_init 71 = .ok (.return_, 1) := by decide +kernel
theorem d_CD_route_0 : decode b_CD_route 0 = .ok (.iload_n 1, 1) := by decide +kernel
theorem d_CD_route_1 : decode b_CD_route 1 = .ok (.invokestatic 49, 3) := by decide +kernel
theorem d_CD_route_4 : decode b_CD_route 4 = .ok (.iload_n 2, 1) := by decide +kernel
theorem d_CD_route_5 : decode b_CD_route 5 = .ok (.iload_n 3, 1) := by decide +kernel
theorem d_CD_route_6 : decode b_CD_route 6 = .ok (.invokestatic 53, 3) := by decide +kernel
theorem d_CD_route_9 : decode b_CD_route 9 = .ok (.aload_n 0, 1) := by decide +kernel
theorem d_CD_route_10 : decode b_CD_route 10 = .ok (.getfield 28, 3) := by decide +kernel
theorem d_CD_route_13 : decode b_CD_route 13 = .ok (.iload_n 2, 1) := by decide +kernel
theorem d_CD_route_14 : decode b_CD_route 14 = .ok (.i2l, 1) := by decide +kernel
theorem d_CD_route_15 : decode b_CD_route 15 = .ok (.iload_n 3, 1) := by decide +kernel
theorem d_CD_route_16 : decode b_CD_route 16 = .ok (.invokevirtual 57, 3) := by decide +kernel
theorem d_CD_route_19 : decode b_CD_route 19 = .ok (.istore 4, 2) := by decide +kernel
theorem d_CD_route_21 : decode b_CD_route 21 = .ok (.iload 4, 2) := by decide +kernel
theorem d_CD_route_23 : decode b_CD_route 23 = .ok (.iconst (-1), 1) := by decide +kernel
theorem d_CD_route_24 : decode b_CD_route 24 = .ok (.if_icmp .eq 14, 3) := by decide +kernel
theorem d_CD_route_27 : decode b_CD_route 27 = .ok (.aload_n 0, 1) := by decide +kernel
theorem d_CD_route_28 : decode b_CD_route 28 = .ok (.getfield 28, 3) := by decide +kernel
theorem d_CD_route_31 : decode b_CD_route 31 = .ok (.iload 4, 2) := by decide +kernel
theorem d_CD_route_33 : decode b_CD_route 33 = .ok (.iload_n 1, 1) := by decide +kernel
theorem d_CD_route_34 : decode b_CD_route 34 = .ok (.invokevirtual 61, 3) := by decide +kernel
theorem d_CD_route_37 : decode b_CD_route 37 = .ok (.ireturn, 1) := by decide +kernel
theorem d_CD_route_38 : decode b_CD_route 38 = .ok (.aload_n 0, 1) := by decide +kernel
theorem d_CD_route_39 : decode b_CD_route 39 = .ok (.getfield 28, 3) := by decide +kernel
theorem d_CD_route_42 : decode b_CD_route 42 = .ok (.invokevirtual 64, 3) := by decide +kernel
theorem d_CD_route_45 : decode b_CD_route 45 = .ok (.ifCond .eq 13, 3) := by decide +kernel
theorem d_CD_route_48 : decode b_CD_route 48 = .ok (.new 68, 3) := by decide +kernel
theorem d_CD_route_51 : decode b_CD_route 51 = .ok (.dup, 1) := by decide +kernel
theorem d_CD_route_52 : decode b_CD_route 52 = .ok (.ldc 70, 2) := by decide +kernel
theorem d_CD_route_54 : decode b_CD_route 54 = .ok (.invokespecial 72, 3) := by decide +kernel
theorem d_CD_route_57 : decode b_CD_route 57 = .ok (.athrow, 1) := by decide +kernel
theorem d_CD_route_58 : decode b_CD_route 58 = .ok (.aload_n 0, 1) := by decide +kernel
theorem d_CD_route_59 : decode b_CD_route 59 = .ok (.getfield 28, 3) := by decide +kernel
theorem d_CD_route_62 : decode b_CD_route 62 = .ok (.iload_n 1, 1) := by decide +kernel
theorem d_CD_route_63 : decode b_CD_route 63 = .ok (.iload_n 2, 1) := by decide +kernel
theorem d_CD_route_64 : decode b_CD_route 64 = .ok (.iload_n 3, 1) := by decide +kernel
theorem d_CD_route_65 : decode b_CD_route 65 = .ok (.invokevirtual 75, 3) := by decide +kernel
theorem d_CD_route_68 : decode b_CD_route 68 = .ok (.iconst (-1), 1) := by decide +kernel
theorem d_CD_route_69 : decode b_CD_route 69 = .ok (.ireturn, 1) := by decide +kernel
theorem d_CD_unroute_0 : decode b_CD_unroute 0 = .ok (.iload_n 1, 1) := by decide +kernel
theorem d_CD_unroute_1 : decode b_CD_unroute 1 = .ok (.iload_n 2, 1) := by decide +kernel
theorem d_CD_unroute_2 : decode b_CD_unroute 2 = .ok (.invokestatic 53, 3) := by decide +kernel
theorem d_CD_unroute_5 : decode b_CD_unroute 5 = .ok (.aload_n 0, 1) := by decide +kernel
theorem d_CD_unroute_6 : decode b_CD_unroute 6 = .ok (.getfield 28, 3) := by decide +kernel
theorem d_CD_unroute_9 : decode b_CD_unroute 9 = .ok (.iload_n 1, 1) := by decide +kernel
theorem d_CD_unroute_10 : decode b_CD_unroute 10 = .ok (.i2l, 1) := by decide +kernel
theorem d_CD_unroute_11 : decode b_CD_unroute 11 = .ok (.iload_n 2, 1) := by decide +kernel
theorem d_CD_unroute_12 : decode b_CD_unroute 12 = .ok (.invokevirtual 57, 3) := by decide +kernel
theorem d_CD_unroute_15 : decode b_CD_unroute 15 = .ok (.istore_n 3, 1) := by decide +kernel
theorem d_CD_unroute_16 : decode b_CD_unroute 16 = .ok (.iload_n 3, 1) := by decide +kernel
theorem d_CD_unroute_17 : decode b_CD_unroute 17 = .ok (.iconst (-1), 1) := by decide +kernel
theorem d_CD_unroute_18 : decode b_CD_unroute 18 = .ok (.if_icmp .ne 7, 3) := by decide +kernel
theorem d_CD_unroute_21 : decode b_CD_unroute 21 = .ok (.iconst (-1), 1) := by decide +kernel
theorem d_CD_unroute_22 : decode b_CD_unroute 22 = .ok (.goto 11, 3) := by decide +kernel
theorem d_CD_unroute_25 : decode b_CD_unroute 25 = .ok (.aload_n 0, 1) := by decide +kernel
theorem d_CD_unroute_26 : decode b_CD_unroute 26 = .ok (.getfield 28, 3) := by decide +kernel
theorem d_CD_unroute_29 : decode b_CD_unroute 29 = .ok (.iload_n 3, 1) := by decide +kernel
theorem d_CD_unroute_30 : decode b_CD_unroute 30 = .ok (.invokevirtual 79, 3) := by decide +kernel
theorem d_CD_unroute_33 : decode b_CD_unroute 33 = .ok (.ireturn, 1) := by decide +kernel
theorem d_CD_routes_0 : decode b_CD_routes 0 = .ok (.aload_n 0, 1) := by decide +kernel
theorem d_CD_routes_1 : decode b_CD_routes 1 = .ok (.getfield 28, 3) := by decide +kernel
theorem d_CD_routes_4 : decode b_CD_routes 4 = .ok (.getfield 83, 3) := by decide +kernel
theorem d_CD_routes_7 : decode b_CD_routes 7 = .ok (.ireturn, 1) := by decide +kernel
theorem d_CD_account_0 : decode b_CD_account 0 = .ok (.iload_n 1, 1) := by decide +kernel
theorem d_CD_account_1 : decode b_CD_account 1 = .ok (.invokestatic 49, 3) := by decide +kernel
theorem d_CD_account_4 : decode b_CD_account 4 = .ok (.aload_n 0, 1) := by decide +kernel
theorem d_CD_account_5 : decode b_CD_account 5 = .ok (.getfield 35, 3) := by decide +kernel
theorem d_CD_account_8 : decode b_CD_account 8 = .ok (.invokevirtual 86, 3) := by decide +kernel
theorem d_CD_account_11 : decode b_CD_account 11 = .ok (.ifCond .eq 13, 3) := by decide +kernel
theorem d_CD_account_14 : decode b_CD_account 14 = .ok (.new 68, 3) := by decide +kernel
theorem d_CD_account_17 : decode b_CD_account 17 = .ok (.dup, 1) := by decide +kernel
theorem d_CD_account_18 : decode b_CD_account 18 = .ok (.ldc 87, 2) := by decide +kernel
theorem d_CD_account_20 : decode b_CD_account 20 = .ok (.invokespecial 72, 3) := by decide +kernel
theorem d_CD_account_23 : decode b_CD_account 23 = .ok (.athrow, 1) := by decide +kernel
theorem d_CD_account_24 : decode b_CD_account 24 = .ok (.aload_n 0, 1) := by decide +kernel
theorem d_CD_account_25 : decode b_CD_account 25 = .ok (.getfield 35, 3) := by decide +kernel
theorem d_CD_account_28 : decode b_CD_account 28 = .ok (.iload_n 1, 1) := by decide +kernel
theorem d_CD_account_29 : decode b_CD_account 29 = .ok (.invokevirtual 89, 3) := by decide +kernel
theorem d_CD_account_32 : decode b_CD_account 32 = .ok (.ireturn, 1) := by decide +kernel
theorem d_CD_card_0 : decode b_CD_card 0 = .ok (.lload_n 1, 1) := by decide +kernel
theorem d_CD_card_1 : decode b_CD_card 1 = .ok (.bipush 12, 2) := by decide +kernel
theorem d_CD_card_3 : decode b_CD_card 3 = .ok (.bipush 18, 2) := by decide +kernel
theorem d_CD_card_5 : decode b_CD_card 5 = .ok (.invokestatic 91, 3) := by decide +kernel
theorem d_CD_card_8 : decode b_CD_card 8 = .ok (.aload_n 0, 1) := by decide +kernel
theorem d_CD_card_9 : decode b_CD_card 9 = .ok (.iload_n 3, 1) := by decide +kernel
theorem d_CD_card_10 : decode b_CD_card 10 = .ok (.invokevirtual 95, 3) := by decide +kernel
theorem d_CD_card_13 : decode b_CD_card 13 = .ok (.aload_n 0, 1) := by decide +kernel
theorem d_CD_card_14 : decode b_CD_card 14 = .ok (.getfield 42, 3) := by decide +kernel
theorem d_CD_card_17 : decode b_CD_card 17 = .ok (.invokevirtual 98, 3) := by decide +kernel
theorem d_CD_card_20 : decode b_CD_card 20 = .ok (.ifCond .eq 13, 3) := by decide +kernel
theorem d_CD_card_23 : decode b_CD_card 23 = .ok (.new 68, 3) := by decide +kernel
theorem d_CD_card_26 : decode b_CD_card 26 = .ok (.dup, 1) := by decide +kernel
theorem d_CD_card_27 : decode b_CD_card 27 = .ok (.ldc 99, 2) := by decide +kernel
theorem d_CD_card_29 : decode b_CD_card 29 = .ok (.invokespecial 72, 3) := by decide +kernel
theorem d_CD_card_32 : decode b_CD_card 32 = .ok (.athrow, 1) := by decide +kernel
theorem d_CD_card_33 : decode b_CD_card 33 = .ok (.lload_n 1, 1) := by decide +kernel
theorem d_CD_card_34 : decode b_CD_card 34 = .ok (.invokestatic 101, 3) := by decide +kernel
theorem d_CD_card_37 : decode b_CD_card 37 = .ok (.ifCond .ne 6, 3) := by decide +kernel
theorem d_CD_card_40 : decode b_CD_card 40 = .ok (.bipush (-5), 2) := by decide +kernel
theorem d_CD_card_42 : decode b_CD_card 42 = .ok (.ireturn, 1) := by decide +kernel
theorem d_CD_card_43 : decode b_CD_card 43 = .ok (.aload_n 0, 1) := by decide +kernel
theorem d_CD_card_44 : decode b_CD_card 44 = .ok (.getfield 28, 3) := by decide +kernel
theorem d_CD_card_47 : decode b_CD_card 47 = .ok (.lload_n 1, 1) := by decide +kernel
theorem d_CD_card_48 : decode b_CD_card 48 = .ok (.invokevirtual 105, 3) := by decide +kernel
theorem d_CD_card_51 : decode b_CD_card 51 = .ok (.istore 4, 2) := by decide +kernel
theorem d_CD_card_53 : decode b_CD_card 53 = .ok (.iload 4, 2) := by decide +kernel
theorem d_CD_card_55 : decode b_CD_card 55 = .ok (.iconst (-1), 1) := by decide +kernel
theorem d_CD_card_56 : decode b_CD_card 56 = .ok (.if_icmp .ne 6, 3) := by decide +kernel
theorem d_CD_card_59 : decode b_CD_card 59 = .ok (.bipush (-6), 2) := by decide +kernel
theorem d_CD_card_61 : decode b_CD_card 61 = .ok (.ireturn, 1) := by decide +kernel
theorem d_CD_card_62 : decode b_CD_card 62 = .ok (.iload 4, 2) := by decide +kernel
theorem d_CD_card_64 : decode b_CD_card 64 = .ok (.aload_n 0, 1) := by decide +kernel
theorem d_CD_card_65 : decode b_CD_card 65 = .ok (.getfield 35, 3) := by decide +kernel
theorem d_CD_card_68 : decode b_CD_card 68 = .ok (.iload_n 3, 1) := by decide +kernel
theorem d_CD_card_69 : decode b_CD_card 69 = .ok (.invokevirtual 109, 3) := by decide +kernel
theorem d_CD_card_72 : decode b_CD_card 72 = .ok (.if_icmp .eq 6, 3) := by decide +kernel
theorem d_CD_card_75 : decode b_CD_card 75 = .ok (.bipush (-7), 2) := by decide +kernel
theorem d_CD_card_77 : decode b_CD_card 77 = .ok (.ireturn, 1) := by decide +kernel
theorem d_CD_card_78 : decode b_CD_card 78 = .ok (.aload_n 0, 1) := by decide +kernel
theorem d_CD_card_79 : decode b_CD_card 79 = .ok (.getfield 42, 3) := by decide +kernel
theorem d_CD_card_82 : decode b_CD_card 82 = .ok (.lload_n 1, 1) := by decide +kernel
theorem d_CD_card_83 : decode b_CD_card 83 = .ok (.invokevirtual 112, 3) := by decide +kernel
theorem d_CD_card_86 : decode b_CD_card 86 = .ok (.iconst (-1), 1) := by decide +kernel
theorem d_CD_card_87 : decode b_CD_card 87 = .ok (.if_icmp .eq 6, 3) := by decide +kernel
theorem d_CD_card_90 : decode b_CD_card 90 = .ok (.bipush (-8), 2) := by decide +kernel
theorem d_CD_card_92 : decode b_CD_card 92 = .ok (.ireturn, 1) := by decide +kernel
theorem d_CD_card_93 : decode b_CD_card 93 = .ok (.aload_n 0, 1) := by decide +kernel
theorem d_CD_card_94 : decode b_CD_card 94 = .ok (.getfield 42, 3) := by decide +kernel
theorem d_CD_card_97 : decode b_CD_card 97 = .ok (.lload_n 1, 1) := by decide +kernel
theorem d_CD_card_98 : decode b_CD_card 98 = .ok (.iload_n 3, 1) := by decide +kernel
theorem d_CD_card_99 : decode b_CD_card 99 = .ok (.invokevirtual 114, 3) := by decide +kernel
theorem d_CD_card_102 : decode b_CD_card 102 = .ok (.ireturn, 1) := by decide +kernel
theorem d_CD_block_0 : decode b_CD_block 0 = .ok (.aload_n 0, 1) := by decide +kernel
theorem d_CD_block_1 : decode b_CD_block 1 = .ok (.iload_n 1, 1) := by decide +kernel
theorem d_CD_block_2 : decode b_CD_block 2 = .ok (.invokevirtual 116, 3) := by decide +kernel
theorem d_CD_block_5 : decode b_CD_block 5 = .ok (.aload_n 0, 1) := by decide +kernel
theorem d_CD_block_6 : decode b_CD_block 6 = .ok (.getfield 42, 3) := by decide +kernel
theorem d_CD_block_9 : decode b_CD_block 9 = .ok (.iload_n 1, 1) := by decide +kernel
theorem d_CD_block_10 : decode b_CD_block 10 = .ok (.iload_n 2, 1) := by decide +kernel
theorem d_CD_block_11 : decode b_CD_block 11 = .ok (.invokevirtual 119, 3) := by decide +kernel
theorem d_CD_block_14 : decode b_CD_block 14 = .ok (.ireturn, 1) := by decide +kernel
theorem d_CD_whose_0 : decode b_CD_whose 0 = .ok (.lload_n 1, 1) := by decide +kernel
theorem d_CD_whose_1 : decode b_CD_whose 1 = .ok (.iconst 1, 1) := by decide +kernel
theorem d_CD_whose_2 : decode b_CD_whose 2 = .ok (.bipush 18, 2) := by decide +kernel
theorem d_CD_whose_4 : decode b_CD_whose 4 = .ok (.invokestatic 91, 3) := by decide +kernel
theorem d_CD_whose_7 : decode b_CD_whose 7 = .ok (.aload_n 0, 1) := by decide +kernel
theorem d_CD_whose_8 : decode b_CD_whose 8 = .ok (.getfield 28, 3) := by decide +kernel
theorem d_CD_whose_11 : decode b_CD_whose 11 = .ok (.lload_n 1, 1) := by decide +kernel
theorem d_CD_whose_12 : decode b_CD_whose 12 = .ok (.invokevirtual 105, 3) := by decide +kernel
theorem d_CD_whose_15 : decode b_CD_whose 15 = .ok (.ireturn, 1) := by decide +kernel
theorem d_CD_good_0 : decode b_CD_good 0 = .ok (.lload_n 1, 1) := by decide +kernel
theorem d_CD_good_1 : decode b_CD_good 1 = .ok (.iconst 1, 1) := by decide +kernel
theorem d_CD_good_2 : decode b_CD_good 2 = .ok (.bipush 18, 2) := by decide +kernel
theorem d_CD_good_4 : decode b_CD_good 4 = .ok (.invokestatic 91, 3) := by decide +kernel
theorem d_CD_good_7 : decode b_CD_good 7 = .ok (.lload_n 1, 1) := by decide +kernel
theorem d_CD_good_8 : decode b_CD_good 8 = .ok (.invokestatic 101, 3) := by decide +kernel
theorem d_CD_good_11 : decode b_CD_good 11 = .ok (.ireturn, 1) := by decide +kernel
theorem d_CD_digit_0 : decode b_CD_digit 0 = .ok (.lload_n 1, 1) := by decide +kernel
theorem d_CD_digit_1 : decode b_CD_digit 1 = .ok (.iconst 1, 1) := by decide +kernel
theorem d_CD_digit_2 : decode b_CD_digit 2 = .ok (.bipush 17, 2) := by decide +kernel
theorem d_CD_digit_4 : decode b_CD_digit 4 = .ok (.invokestatic 91, 3) := by decide +kernel
theorem d_CD_digit_7 : decode b_CD_digit 7 = .ok (.bipush 10, 2) := by decide +kernel
theorem d_CD_digit_9 : decode b_CD_digit 9 = .ok (.lload_n 1, 1) := by decide +kernel
theorem d_CD_digit_10 : decode b_CD_digit 10 = .ok (.ldc2_w 123, 3) := by decide +kernel
theorem d_CD_digit_13 : decode b_CD_digit 13 = .ok (.lmul, 1) := by decide +kernel
theorem d_CD_digit_14 : decode b_CD_digit 14 = .ok (.invokestatic 125, 3) := by decide +kernel
theorem d_CD_digit_17 : decode b_CD_digit 17 = .ok (.bipush 10, 2) := by decide +kernel
theorem d_CD_digit_19 : decode b_CD_digit 19 = .ok (.irem, 1) := by decide +kernel
theorem d_CD_digit_20 : decode b_CD_digit 20 = .ok (.isub, 1) := by decide +kernel
theorem d_CD_digit_21 : decode b_CD_digit 21 = .ok (.bipush 10, 2) := by decide +kernel
theorem d_CD_digit_23 : decode b_CD_digit 23 = .ok (.irem, 1) := by decide +kernel
theorem d_CD_digit_24 : decode b_CD_digit 24 = .ok (.ireturn, 1) := by decide +kernel
theorem d_CD_use_0 : decode b_CD_use 0 = .ok (.lload_n 1, 1) := by decide +kernel
theorem d_CD_use_1 : decode b_CD_use 1 = .ok (.iconst 1, 1) := by decide +kernel
theorem d_CD_use_2 : decode b_CD_use 2 = .ok (.bipush 18, 2) := by decide +kernel
theorem d_CD_use_4 : decode b_CD_use 4 = .ok (.invokestatic 91, 3) := by decide +kernel
theorem d_CD_use_7 : decode b_CD_use 7 = .ok (.aload_n 0, 1) := by decide +kernel
theorem d_CD_use_8 : decode b_CD_use 8 = .ok (.iload_n 3, 1) := by decide +kernel
theorem d_CD_use_9 : decode b_CD_use 9 = .ok (.invokevirtual 128, 3) := by decide +kernel
theorem d_CD_use_12 : decode b_CD_use 12 = .ok (.aload_n 0, 1) := by decide +kernel
theorem d_CD_use_13 : decode b_CD_use 13 = .ok (.iload_n 3, 1) := by decide +kernel
theorem d_CD_use_14 : decode b_CD_use 14 = .ok (.putfield 46, 3) := by decide +kernel
theorem d_CD_use_17 : decode b_CD_use 17 = .ok (.aload_n 0, 1) := by decide +kernel
theorem d_CD_use_18 : decode b_CD_use 18 = .ok (.getfield 28, 3) := by decide +kernel
theorem d_CD_use_21 : decode b_CD_use 21 = .ok (.lload_n 1, 1) := by decide +kernel
theorem d_CD_use_22 : decode b_CD_use 22 = .ok (.invokevirtual 105, 3) := by decide +kernel
theorem d_CD_use_25 : decode b_CD_use 25 = .ok (.iconst (-1), 1) := by decide +kernel
theorem d_CD_use_26 : decode b_CD_use 26 = .ok (.if_icmp .ne 6, 3) := by decide +kernel
theorem d_CD_use_29 : decode b_CD_use 29 = .ok (.bipush 92, 2) := by decide +kernel
theorem d_CD_use_31 : decode b_CD_use 31 = .ok (.ireturn, 1) := by decide +kernel
theorem d_CD_use_32 : decode b_CD_use 32 = .ok (.lload_n 1, 1) := by decide +kernel
theorem d_CD_use_33 : decode b_CD_use 33 = .ok (.invokestatic 101, 3) := by decide +kernel
theorem d_CD_use_36 : decode b_CD_use 36 = .ok (.ifCond .eq 14, 3) := by decide +kernel
theorem d_CD_use_39 : decode b_CD_use 39 = .ok (.aload_n 0, 1) := by decide +kernel
theorem d_CD_use_40 : decode b_CD_use 40 = .ok (.getfield 42, 3) := by decide +kernel
theorem d_CD_use_43 : decode b_CD_use 43 = .ok (.lload_n 1, 1) := by decide +kernel
theorem d_CD_use_44 : decode b_CD_use 44 = .ok (.invokevirtual 112, 3) := by decide +kernel
theorem d_CD_use_47 : decode b_CD_use 47 = .ok (.goto 4, 3) := by decide +kernel
theorem d_CD_use_50 : decode b_CD_use 50 = .ok (.iconst (-1), 1) := by decide +kernel
theorem d_CD_use_51 : decode b_CD_use 51 = .ok (.istore 4, 2) := by decide +kernel
theorem d_CD_use_53 : decode b_CD_use 53 = .ok (.iload 4, 2) := by decide +kernel
theorem d_CD_use_55 : decode b_CD_use 55 = .ok (.iconst (-1), 1) := by decide +kernel
theorem d_CD_use_56 : decode b_CD_use 56 = .ok (.if_icmp .ne 6, 3) := by decide +kernel
theorem d_CD_use_59 : decode b_CD_use 59 = .ok (.bipush 14, 2) := by decide +kernel
theorem d_CD_use_61 : decode b_CD_use 61 = .ok (.ireturn, 1) := by decide +kernel
theorem d_CD_use_62 : decode b_CD_use 62 = .ok (.aload_n 0, 1) := by decide +kernel
theorem d_CD_use_63 : decode b_CD_use 63 = .ok (.getfield 42, 3) := by decide +kernel
theorem d_CD_use_66 : decode b_CD_use 66 = .ok (.iload 4, 2) := by decide +kernel
theorem d_CD_use_68 : decode b_CD_use 68 = .ok (.invokevirtual 131, 3) := by decide +kernel
theorem d_CD_use_71 : decode b_CD_use 71 = .ok (.ifCond .eq 6, 3) := by decide +kernel
theorem d_CD_use_74 : decode b_CD_use 74 = .ok (.bipush 62, 2) := by decide +kernel
theorem d_CD_use_76 : decode b_CD_use 76 = .ok (.ireturn, 1) := by decide +kernel
theorem d_CD_use_77 : decode b_CD_use 77 = .ok (.aload_n 0, 1) := by decide +kernel
theorem d_CD_use_78 : decode b_CD_use 78 = .ok (.getfield 42, 3) := by decide +kernel
theorem d_CD_use_81 : decode b_CD_use 81 = .ok (.iload 4, 2) := by decide +kernel
theorem d_CD_use_83 : decode b_CD_use 83 = .ok (.invokevirtual 135, 3) := by decide +kernel
theorem d_CD_use_86 : decode b_CD_use 86 = .ok (.istore 5, 2) := by decide +kernel
theorem d_CD_use_88 : decode b_CD_use 88 = .ok (.aload_n 0, 1) := by decide +kernel
theorem d_CD_use_89 : decode b_CD_use 89 = .ok (.getfield 35, 3) := by decide +kernel
theorem d_CD_use_92 : decode b_CD_use 92 = .ok (.iload 5, 2) := by decide +kernel
theorem d_CD_use_94 : decode b_CD_use 94 = .ok (.iload_n 3, 1) := by decide +kernel
theorem d_CD_use_95 : decode b_CD_use 95 = .ok (.aload_n 0, 1) := by decide +kernel
theorem d_CD_use_96 : decode b_CD_use 96 = .ok (.getfield 18, 3) := by decide +kernel
theorem d_CD_use_99 : decode b_CD_use 99 = .ok (.isub, 1) := by decide +kernel
theorem d_CD_use_100 : decode b_CD_use 100 = .ok (.invokevirtual 138, 3) := by decide +kernel
theorem d_CD_use_103 : decode b_CD_use 103 = .ok (.aload_n 0, 1) := by decide +kernel
theorem d_CD_use_104 : decode b_CD_use 104 = .ok (.getfield 22, 3) := by decide +kernel
theorem d_CD_use_107 : decode b_CD_use 107 = .ok (.if_icmp .lt 6, 3) := by decide +kernel
theorem d_CD_use_110 : decode b_CD_use 110 = .ok (.bipush 65, 2) := by decide +kernel
theorem d_CD_use_112 : decode b_CD_use 112 = .ok (.ireturn, 1) := by decide +kernel
theorem d_CD_use_113 : decode b_CD_use 113 = .ok (.aload_n 0, 1) := by decide +kernel
theorem d_CD_use_114 : decode b_CD_use 114 = .ok (.getfield 35, 3) := by decide +kernel
theorem d_CD_use_117 : decode b_CD_use 117 = .ok (.iload 5, 2) := by decide +kernel
theorem d_CD_use_119 : decode b_CD_use 119 = .ok (.iload_n 3, 1) := by decide +kernel
theorem d_CD_use_120 : decode b_CD_use 120 = .ok (.invokevirtual 141, 3) := by decide +kernel
theorem d_CD_use_123 : decode b_CD_use 123 = .ok (.iconst 0, 1) := by decide +kernel
theorem d_CD_use_124 : decode b_CD_use 124 = .ok (.ireturn, 1) := by decide +kernel
theorem d_CD_used_0 : decode b_CD_used 0 = .ok (.aload_n 0, 1) := by decide +kernel
theorem d_CD_used_1 : decode b_CD_used 1 = .ok (.iload_n 1, 1) := by decide +kernel
theorem d_CD_used_2 : decode b_CD_used 2 = .ok (.invokevirtual 95, 3) := by decide +kernel
theorem d_CD_used_5 : decode b_CD_used 5 = .ok (.aload_n 0, 1) := by decide +kernel
theorem d_CD_used_6 : decode b_CD_used 6 = .ok (.iload_n 2, 1) := by decide +kernel
theorem d_CD_used_7 : decode b_CD_used 7 = .ok (.invokevirtual 128, 3) := by decide +kernel
theorem d_CD_used_10 : decode b_CD_used 10 = .ok (.aload_n 0, 1) := by decide +kernel
theorem d_CD_used_11 : decode b_CD_used 11 = .ok (.getfield 35, 3) := by decide +kernel
theorem d_CD_used_14 : decode b_CD_used 14 = .ok (.iload_n 1, 1) := by decide +kernel
theorem d_CD_used_15 : decode b_CD_used 15 = .ok (.iload_n 2, 1) := by decide +kernel
theorem d_CD_used_16 : decode b_CD_used 16 = .ok (.aload_n 0, 1) := by decide +kernel
theorem d_CD_used_17 : decode b_CD_used 17 = .ok (.getfield 18, 3) := by decide +kernel
theorem d_CD_used_20 : decode b_CD_used 20 = .ok (.isub, 1) := by decide +kernel
theorem d_CD_used_21 : decode b_CD_used 21 = .ok (.invokevirtual 138, 3) := by decide +kernel
theorem d_CD_used_24 : decode b_CD_used 24 = .ok (.ireturn, 1) := by decide +kernel
theorem d_CD_told_0 : decode b_CD_told 0 = .ok (.aload_n 0, 1) := by decide +kernel
theorem d_CD_told_1 : decode b_CD_told 1 = .ok (.iload_n 1, 1) := by decide +kernel
theorem d_CD_told_2 : decode b_CD_told 2 = .ok (.invokevirtual 116, 3) := by decide +kernel
theorem d_CD_told_5 : decode b_CD_told 5 = .ok (.iload_n 2, 1) := by decide +kernel
theorem d_CD_told_6 : decode b_CD_told 6 = .ok (.tableswitch 87 0 3 #[30, 40, 53, 70], 30) := by decide +kernel
theorem d_CD_told_36 : decode b_CD_told 36 = .ok (.aload_n 0, 1) := by decide +kernel
theorem d_CD_told_37 : decode b_CD_told 37 = .ok (.getfield 42, 3) := by decide +kernel
theorem d_CD_told_40 : decode b_CD_told 40 = .ok (.iload_n 1, 1) := by decide +kernel
theorem d_CD_told_41 : decode b_CD_told 41 = .ok (.invokevirtual 135, 3) := by decide +kernel
theorem d_CD_told_44 : decode b_CD_told 44 = .ok (.i2l, 1) := by decide +kernel
theorem d_CD_told_45 : decode b_CD_told 45 = .ok (.lreturn, 1) := by decide +kernel
theorem d_CD_told_46 : decode b_CD_told 46 = .ok (.aload_n 0, 1) := by decide +kernel
theorem d_CD_told_47 : decode b_CD_told 47 = .ok (.getfield 42, 3) := by decide +kernel
theorem d_CD_told_50 : decode b_CD_told 50 = .ok (.iload_n 1, 1) := by decide +kernel
theorem d_CD_told_51 : decode b_CD_told 51 = .ok (.invokevirtual 144, 3) := by decide +kernel
theorem d_CD_told_54 : decode b_CD_told 54 = .ok (.invokestatic 148, 3) := by decide +kernel
theorem d_CD_told_57 : decode b_CD_told 57 = .ok (.i2l, 1) := by decide +kernel
theorem d_CD_told_58 : decode b_CD_told 58 = .ok (.lreturn, 1) := by decide +kernel
theorem d_CD_told_59 : decode b_CD_told 59 = .ok (.aload_n 0, 1) := by decide +kernel
theorem d_CD_told_60 : decode b_CD_told 60 = .ok (.getfield 42, 3) := by decide +kernel
theorem d_CD_told_63 : decode b_CD_told 63 = .ok (.iload_n 1, 1) := by decide +kernel
theorem d_CD_told_64 : decode b_CD_told 64 = .ok (.invokevirtual 131, 3) := by decide +kernel
theorem d_CD_told_67 : decode b_CD_told 67 = .ok (.ifCond .eq 7, 3) := by decide +kernel
theorem d_CD_told_70 : decode b_CD_told 70 = .ok (.lconst 1, 1) := by decide +kernel
theorem d_CD_told_71 : decode b_CD_told 71 = .ok (.goto 4, 3) := by decide +kernel
theorem d_CD_told_74 : decode b_CD_told 74 = .ok (.lconst 0, 1) := by decide +kernel
theorem d_CD_told_75 : decode b_CD_told 75 = .ok (.lreturn, 1) := by decide +kernel
theorem d_CD_told_76 : decode b_CD_told 76 = .ok (.aload_n 0, 1) := by decide +kernel
theorem d_CD_told_77 : decode b_CD_told 77 = .ok (.getfield 28, 3) := by decide +kernel
theorem d_CD_told_80 : decode b_CD_told 80 = .ok (.aload_n 0, 1) := by decide +kernel
theorem d_CD_told_81 : decode b_CD_told 81 = .ok (.getfield 42, 3) := by decide +kernel
theorem d_CD_told_84 : decode b_CD_told 84 = .ok (.iload_n 1, 1) := by decide +kernel
theorem d_CD_told_85 : decode b_CD_told 85 = .ok (.invokevirtual 144, 3) := by decide +kernel
theorem d_CD_told_88 : decode b_CD_told 88 = .ok (.invokevirtual 105, 3) := by decide +kernel
theorem d_CD_told_91 : decode b_CD_told 91 = .ok (.i2l, 1) := by decide +kernel
theorem d_CD_told_92 : decode b_CD_told 92 = .ok (.lreturn, 1) := by decide +kernel
theorem d_CD_told_93 : decode b_CD_told 93 = .ok (.new 151, 3) := by decide +kernel
theorem d_CD_told_96 : decode b_CD_told 96 = .ok (.dup, 1) := by decide +kernel
theorem d_CD_told_97 : decode b_CD_told 97 = .ok (.ldc 153, 2) := by decide +kernel
theorem d_CD_told_99 : decode b_CD_told 99 = .ok (.invokespecial 155, 3) := by decide +kernel
theorem d_CD_told_102 : decode b_CD_told 102 = .ok (.athrow, 1) := by decide +kernel
theorem d_CD_requireIssuer_0 : decode b_CD_requireIssuer 0 = .ok (.iload_n 0, 1) := by decide +kernel
theorem d_CD_requireIssuer_1 : decode b_CD_requireIssuer 1 = .ok (.ifCond .lt 9, 3) := by decide +kernel
theorem d_CD_requireIssuer_4 : decode b_CD_requireIssuer 4 = .ok (.iload_n 0, 1) := by decide +kernel
theorem d_CD_requireIssuer_5 : decode b_CD_requireIssuer 5 = .ok (.bipush 6, 2) := by decide +kernel
theorem d_CD_requireIssuer_7 : decode b_CD_requireIssuer 7 = .ok (.if_icmp .lt 13, 3) := by decide +kernel
theorem d_CD_requireIssuer_10 : decode b_CD_requireIssuer 10 = .ok (.new 151, 3) := by decide +kernel
theorem d_CD_requireIssuer_13 : decode b_CD_requireIssuer 13 = .ok (.dup, 1) := by decide +kernel
theorem d_CD_requireIssuer_14 : decode b_CD_requireIssuer 14 = .ok (.ldc 156, 2) := by decide +kernel
theorem d_CD_requireIssuer_16 : decode b_CD_requireIssuer 16 = .ok (.invokespecial 155, 3) := by decide +kernel
theorem d_CD_requireIssuer_19 : decode b_CD_requireIssuer 19 = .ok (.athrow, 1) := by decide +kernel
theorem d_CD_requireIssuer_20 : decode b_CD_requireIssuer 20 = .ok (.return_, 1) := by decide +kernel
theorem d_CD_requirePrefix_0 : decode b_CD_requirePrefix 0 = .ok (.iload_n 1, 1) := by decide +kernel
theorem d_CD_requirePrefix_1 : decode b_CD_requirePrefix 1 = .ok (.iconst 1, 1) := by decide +kernel
theorem d_CD_requirePrefix_2 : decode b_CD_requirePrefix 2 = .ok (.if_icmp .lt 9, 3) := by decide +kernel
theorem d_CD_requirePrefix_5 : decode b_CD_requirePrefix 5 = .ok (.iload_n 1, 1) := by decide +kernel
theorem d_CD_requirePrefix_6 : decode b_CD_requirePrefix 6 = .ok (.bipush 8, 2) := by decide +kernel
theorem d_CD_requirePrefix_8 : decode b_CD_requirePrefix 8 = .ok (.if_icmp .le 13, 3) := by decide +kernel
theorem d_CD_requirePrefix_11 : decode b_CD_requirePrefix 11 = .ok (.new 151, 3) := by decide +kernel
theorem d_CD_requirePrefix_14 : decode b_CD_requirePrefix 14 = .ok (.dup, 1) := by decide +kernel
theorem d_CD_requirePrefix_15 : decode b_CD_requirePrefix 15 = .ok (.ldc 158, 2) := by decide +kernel
theorem d_CD_requirePrefix_17 : decode b_CD_requirePrefix 17 = .ok (.invokespecial 155, 3) := by decide +kernel
theorem d_CD_requirePrefix_20 : decode b_CD_requirePrefix 20 = .ok (.athrow, 1) := by decide +kernel
theorem d_CD_requirePrefix_21 : decode b_CD_requirePrefix 21 = .ok (.iload_n 0, 1) := by decide +kernel
theorem d_CD_requirePrefix_22 : decode b_CD_requirePrefix 22 = .ok (.ifCond .lt 12, 3) := by decide +kernel
theorem d_CD_requirePrefix_25 : decode b_CD_requirePrefix 25 = .ok (.iload_n 0, 1) := by decide +kernel
theorem d_CD_requirePrefix_26 : decode b_CD_requirePrefix 26 = .ok (.i2l, 1) := by decide +kernel
theorem d_CD_requirePrefix_27 : decode b_CD_requirePrefix 27 = .ok (.invokestatic 148, 3) := by decide +kernel
theorem d_CD_requirePrefix_30 : decode b_CD_requirePrefix 30 = .ok (.iload_n 1, 1) := by decide +kernel
theorem d_CD_requirePrefix_31 : decode b_CD_requirePrefix 31 = .ok (.if_icmp .le 13, 3) := by decide +kernel
theorem d_CD_requirePrefix_34 : decode b_CD_requirePrefix 34 = .ok (.new 151, 3) := by decide +kernel
theorem d_CD_requirePrefix_37 : decode b_CD_requirePrefix 37 = .ok (.dup, 1) := by decide +kernel
theorem d_CD_requirePrefix_38 : decode b_CD_requirePrefix 38 = .ok (.ldc 160, 2) := by decide +kernel
theorem d_CD_requirePrefix_40 : decode b_CD_requirePrefix 40 = .ok (.invokespecial 155, 3) := by decide +kernel
theorem d_CD_requirePrefix_43 : decode b_CD_requirePrefix 43 = .ok (.athrow, 1) := by decide +kernel
theorem d_CD_requirePrefix_44 : decode b_CD_requirePrefix 44 = .ok (.return_, 1) := by decide +kernel
theorem d_CD_requireDigits_0 : decode b_CD_requireDigits 0 = .ok (.lload_n 0, 1) := by decide +kernel
theorem d_CD_requireDigits_1 : decode b_CD_requireDigits 1 = .ok (.invokestatic 148, 3) := by decide +kernel
theorem d_CD_requireDigits_4 : decode b_CD_requireDigits 4 = .ok (.istore 4, 2) := by decide +kernel
theorem d_CD_requireDigits_6 : decode b_CD_requireDigits 6 = .ok (.iload 4, 2) := by decide +kernel
theorem d_CD_requireDigits_8 : decode b_CD_requireDigits 8 = .ok (.iload_n 2, 1) := by decide +kernel
theorem d_CD_requireDigits_9 : decode b_CD_requireDigits 9 = .ok (.if_icmp .lt 9, 3) := by decide +kernel
theorem d_CD_requireDigits_12 : decode b_CD_requireDigits 12 = .ok (.iload 4, 2) := by decide +kernel
theorem d_CD_requireDigits_14 : decode b_CD_requireDigits 14 = .ok (.iload_n 3, 1) := by decide +kernel
theorem d_CD_requireDigits_15 : decode b_CD_requireDigits 15 = .ok (.if_icmp .le 13, 3) := by decide +kernel
theorem d_CD_requireDigits_18 : decode b_CD_requireDigits 18 = .ok (.new 151, 3) := by decide +kernel
theorem d_CD_requireDigits_21 : decode b_CD_requireDigits 21 = .ok (.dup, 1) := by decide +kernel
theorem d_CD_requireDigits_22 : decode b_CD_requireDigits 22 = .ok (.ldc 162, 2) := by decide +kernel
theorem d_CD_requireDigits_24 : decode b_CD_requireDigits 24 = .ok (.invokespecial 155, 3) := by decide +kernel
theorem d_CD_requireDigits_27 : decode b_CD_requireDigits 27 = .ok (.athrow, 1) := by decide +kernel
theorem d_CD_requireDigits_28 : decode b_CD_requireDigits 28 = .ok (.return_, 1) := by decide +kernel
theorem d_CD_requireAccount_0 : decode b_CD_requireAccount 0 = .ok (.aload_n 0, 1) := by decide +kernel
theorem d_CD_requireAccount_1 : decode b_CD_requireAccount 1 = .ok (.getfield 35, 3) := by decide +kernel
theorem d_CD_requireAccount_4 : decode b_CD_requireAccount 4 = .ok (.iload_n 1, 1) := by decide +kernel
theorem d_CD_requireAccount_5 : decode b_CD_requireAccount 5 = .ok (.invokevirtual 164, 3) := by decide +kernel
theorem d_CD_requireAccount_8 : decode b_CD_requireAccount 8 = .ok (.ifCond .ne 13, 3) := by decide +kernel
theorem d_CD_requireAccount_11 : decode b_CD_requireAccount 11 = .ok (.new 151, 3) := by decide +kernel
theorem d_CD_requireAccount_14 : decode b_CD_requireAccount 14 = .ok (.dup, 1) := by decide +kernel
theorem d_CD_requireAccount_15 : decode b_CD_requireAccount 15 = .ok (.ldc 167, 2) := by decide +kernel
theorem d_CD_requireAccount_17 : decode b_CD_requireAccount 17 = .ok (.invokespecial 155, 3) := by decide +kernel
theorem d_CD_requireAccount_20 : decode b_CD_requireAccount 20 = .ok (.athrow, 1) := by decide +kernel
theorem d_CD_requireAccount_21 : decode b_CD_requireAccount 21 = .ok (.return_, 1) := by decide +kernel
theorem d_CD_requireCard_0 : decode b_CD_requireCard 0 = .ok (.aload_n 0, 1) := by decide +kernel
theorem d_CD_requireCard_1 : decode b_CD_requireCard 1 = .ok (.getfield 42, 3) := by decide +kernel
theorem d_CD_requireCard_4 : decode b_CD_requireCard 4 = .ok (.iload_n 1, 1) := by decide +kernel
theorem d_CD_requireCard_5 : decode b_CD_requireCard 5 = .ok (.invokevirtual 169, 3) := by decide +kernel
theorem d_CD_requireCard_8 : decode b_CD_requireCard 8 = .ok (.ifCond .ne 13, 3) := by decide +kernel
theorem d_CD_requireCard_11 : decode b_CD_requireCard 11 = .ok (.new 151, 3) := by decide +kernel
theorem d_CD_requireCard_14 : decode b_CD_requireCard 14 = .ok (.dup, 1) := by decide +kernel
theorem d_CD_requireCard_15 : decode b_CD_requireCard 15 = .ok (.ldc 170, 2) := by decide +kernel
theorem d_CD_requireCard_17 : decode b_CD_requireCard 17 = .ok (.invokespecial 155, 3) := by decide +kernel
theorem d_CD_requireCard_20 : decode b_CD_requireCard 20 = .ok (.athrow, 1) := by decide +kernel
theorem d_CD_requireCard_21 : decode b_CD_requireCard 21 = .ok (.return_, 1) := by decide +kernel
theorem d_CD_requireTime_0 : decode b_CD_requireTime 0 = .ok (.iload_n 1, 1) := by decide +kernel
theorem d_CD_requireTime_1 : decode b_CD_requireTime 1 = .ok (.aload_n 0, 1) := by decide +kernel
theorem d_CD_requireTime_2 : decode b_CD_requireTime 2 = .ok (.getfield 46, 3) := by decide +kernel
theorem d_CD_requireTime_5 : decode b_CD_requireTime 5 = .ok (.if_icmp .ge 13, 3) := by decide +kernel
theorem d_CD_requireTime_8 : decode b_CD_requireTime 8 = .ok (.new 151, 3) := by decide +kernel
theorem d_CD_requireTime_11 : decode b_CD_requireTime 11 = .ok (.dup, 1) := by decide +kernel
theorem d_CD_requireTime_12 : decode b_CD_requireTime 12 = .ok (.ldc 172, 2) := by decide +kernel
theorem d_CD_requireTime_14 : decode b_CD_requireTime 14 = .ok (.invokespecial 155, 3) := by decide +kernel
theorem d_CD_requireTime_17 : decode b_CD_requireTime 17 = .ok (.athrow, 1) := by decide +kernel
theorem d_CD_requireTime_18 : decode b_CD_requireTime 18 = .ok (.return_, 1) := by decide +kernel
theorem d_CD_digitsOf_0 : decode b_CD_digitsOf 0 = .ok (.iconst 0, 1) := by decide +kernel
theorem d_CD_digitsOf_1 : decode b_CD_digitsOf 1 = .ok (.istore_n 2, 1) := by decide +kernel
theorem d_CD_digitsOf_2 : decode b_CD_digitsOf 2 = .ok (.lload_n 0, 1) := by decide +kernel
theorem d_CD_digitsOf_3 : decode b_CD_digitsOf 3 = .ok (.lstore_n 3, 1) := by decide +kernel
theorem d_CD_digitsOf_4 : decode b_CD_digitsOf 4 = .ok (.iload_n 2, 1) := by decide +kernel
theorem d_CD_digitsOf_5 : decode b_CD_digitsOf 5 = .ok (.bipush 19, 2) := by decide +kernel
theorem d_CD_digitsOf_7 : decode b_CD_digitsOf 7 = .ok (.if_icmp .ge 21, 3) := by decide +kernel
theorem d_CD_digitsOf_10 : decode b_CD_digitsOf 10 = .ok (.lload_n 3, 1) := by decide +kernel
theorem d_CD_digitsOf_11 : decode b_CD_digitsOf 11 = .ok (.lconst 0, 1) := by decide +kernel
theorem d_CD_digitsOf_12 : decode b_CD_digitsOf 12 = .ok (.lcmp, 1) := by decide +kernel
theorem d_CD_digitsOf_13 : decode b_CD_digitsOf 13 = .ok (.ifCond .le 15, 3) := by decide +kernel
theorem d_CD_digitsOf_16 : decode b_CD_digitsOf 16 = .ok (.lload_n 3, 1) := by decide +kernel
theorem d_CD_digitsOf_17 : decode b_CD_digitsOf 17 = .ok (.ldc2_w 123, 3) := by decide +kernel
theorem d_CD_digitsOf_20 : decode b_CD_digitsOf 20 = .ok (.ldiv, 1) := by decide +kernel
theorem d_CD_digitsOf_21 : decode b_CD_digitsOf 21 = .ok (.lstore_n 3, 1) := by decide +kernel
theorem d_CD_digitsOf_22 : decode b_CD_digitsOf 22 = .ok (.iinc 2 1, 3) := by decide +kernel
theorem d_CD_digitsOf_25 : decode b_CD_digitsOf 25 = .ok (.goto (-21), 3) := by decide +kernel
theorem d_CD_digitsOf_28 : decode b_CD_digitsOf 28 = .ok (.iload_n 2, 1) := by decide +kernel
theorem d_CD_digitsOf_29 : decode b_CD_digitsOf 29 = .ok (.ireturn, 1) := by decide +kernel
theorem d_CD_isGood_0 : decode b_CD_isGood 0 = .ok (.lload_n 0, 1) := by decide +kernel
theorem d_CD_isGood_1 : decode b_CD_isGood 1 = .ok (.invokestatic 125, 3) := by decide +kernel
theorem d_CD_isGood_4 : decode b_CD_isGood 4 = .ok (.bipush 10, 2) := by decide +kernel
theorem d_CD_isGood_6 : decode b_CD_isGood 6 = .ok (.irem, 1) := by decide +kernel
theorem d_CD_isGood_7 : decode b_CD_isGood 7 = .ok (.ifCond .ne 7, 3) := by decide +kernel
theorem d_CD_isGood_10 : decode b_CD_isGood 10 = .ok (.iconst 1, 1) := by decide +kernel
theorem d_CD_isGood_11 : decode b_CD_isGood 11 = .ok (.goto 4, 3) := by decide +kernel
theorem d_CD_isGood_14 : decode b_CD_isGood 14 = .ok (.iconst 0, 1) := by decide +kernel
theorem d_CD_isGood_15 : decode b_CD_isGood 15 = .ok (.ireturn, 1) := by decide +kernel
theorem d_CD_checkSum_0 : decode b_CD_checkSum 0 = .ok (.iconst 0, 1) := by decide +kernel
theorem d_CD_checkSum_1 : decode b_CD_checkSum 1 = .ok (.istore_n 2, 1) := by decide +kernel
theorem d_CD_checkSum_2 : decode b_CD_checkSum 2 = .ok (.lload_n 0, 1) := by decide +kernel
theorem d_CD_checkSum_3 : decode b_CD_checkSum 3 = .ok (.lstore_n 3, 1) := by decide +kernel
theorem d_CD_checkSum_4 : decode b_CD_checkSum 4 = .ok (.iconst 0, 1) := by decide +kernel
theorem d_CD_checkSum_5 : decode b_CD_checkSum 5 = .ok (.istore 5, 2) := by decide +kernel
theorem d_CD_checkSum_7 : decode b_CD_checkSum 7 = .ok (.iload 5, 2) := by decide +kernel
theorem d_CD_checkSum_9 : decode b_CD_checkSum 9 = .ok (.bipush 19, 2) := by decide +kernel
theorem d_CD_checkSum_11 : decode b_CD_checkSum 11 = .ok (.if_icmp .ge 49, 3) := by decide +kernel
theorem d_CD_checkSum_14 : decode b_CD_checkSum 14 = .ok (.lload_n 3, 1) := by decide +kernel
theorem d_CD_checkSum_15 : decode b_CD_checkSum 15 = .ok (.lconst 0, 1) := by decide +kernel
theorem d_CD_checkSum_16 : decode b_CD_checkSum 16 = .ok (.lcmp, 1) := by decide +kernel
theorem d_CD_checkSum_17 : decode b_CD_checkSum 17 = .ok (.ifCond .le 43, 3) := by decide +kernel
theorem d_CD_checkSum_20 : decode b_CD_checkSum 20 = .ok (.lload_n 3, 1) := by decide +kernel
theorem d_CD_checkSum_21 : decode b_CD_checkSum 21 = .ok (.ldc2_w 123, 3) := by decide +kernel
theorem d_CD_checkSum_24 : decode b_CD_checkSum 24 = .ok (.lrem, 1) := by decide +kernel
theorem d_CD_checkSum_25 : decode b_CD_checkSum 25 = .ok (.l2i, 1) := by decide +kernel
theorem d_CD_checkSum_26 : decode b_CD_checkSum 26 = .ok (.istore 6, 2) := by decide +kernel
theorem d_CD_checkSum_28 : decode b_CD_checkSum 28 = .ok (.iload_n 2, 1) := by decide +kernel
theorem d_CD_checkSum_29 : decode b_CD_checkSum 29 = .ok (.iload 5, 2) := by decide +kernel
theorem d_CD_checkSum_31 : decode b_CD_checkSum 31 = .ok (.iconst 2, 1) := by decide +kernel
theorem d_CD_checkSum_32 : decode b_CD_checkSum 32 = .ok (.irem, 1) := by decide +kernel
theorem d_CD_checkSum_33 : decode b_CD_checkSum 33 = .ok (.ifCond .ne 8, 3) := by decide +kernel
theorem d_CD_checkSum_36 : decode b_CD_checkSum 36 = .ok (.iload 6, 2) := by decide +kernel
theorem d_CD_checkSum_38 : decode b_CD_checkSum 38 = .ok (.goto 8, 3) := by decide +kernel
theorem d_CD_checkSum_41 : decode b_CD_checkSum 41 = .ok (.iload 6, 2) := by decide +kernel
theorem d_CD_checkSum_43 : decode b_CD_checkSum 43 = .ok (.invokestatic 174, 3) := by decide +kernel
theorem d_CD_checkSum_46 : decode b_CD_checkSum 46 = .ok (.iadd, 1) := by decide +kernel
theorem d_CD_checkSum_47 : decode b_CD_checkSum 47 = .ok (.istore_n 2, 1) := by decide +kernel
theorem d_CD_checkSum_48 : decode b_CD_checkSum 48 = .ok (.lload_n 3, 1) := by decide +kernel
theorem d_CD_checkSum_49 : decode b_CD_checkSum 49 = .ok (.ldc2_w 123, 3) := by decide +kernel
theorem d_CD_checkSum_52 : decode b_CD_checkSum 52 = .ok (.ldiv, 1) := by decide +kernel
theorem d_CD_checkSum_53 : decode b_CD_checkSum 53 = .ok (.lstore_n 3, 1) := by decide +kernel
theorem d_CD_checkSum_54 : decode b_CD_checkSum 54 = .ok (.iinc 5 1, 3) := by decide +kernel
theorem d_CD_checkSum_57 : decode b_CD_checkSum 57 = .ok (.goto (-50), 3) := by decide +kernel
theorem d_CD_checkSum_60 : decode b_CD_checkSum 60 = .ok (.iload_n 2, 1) := by decide +kernel
theorem d_CD_checkSum_61 : decode b_CD_checkSum 61 = .ok (.ireturn, 1) := by decide +kernel
theorem d_CD_doubled_0 : decode b_CD_doubled 0 = .ok (.iconst 2, 1) := by decide +kernel
theorem d_CD_doubled_1 : decode b_CD_doubled 1 = .ok (.iload_n 0, 1) := by decide +kernel
theorem d_CD_doubled_2 : decode b_CD_doubled 2 = .ok (.imul, 1) := by decide +kernel
theorem d_CD_doubled_3 : decode b_CD_doubled 3 = .ok (.istore_n 1, 1) := by decide +kernel
theorem d_CD_doubled_4 : decode b_CD_doubled 4 = .ok (.iload_n 1, 1) := by decide +kernel
theorem d_CD_doubled_5 : decode b_CD_doubled 5 = .ok (.bipush 9, 2) := by decide +kernel
theorem d_CD_doubled_7 : decode b_CD_doubled 7 = .ok (.if_icmp .le 10, 3) := by decide +kernel
theorem d_CD_doubled_10 : decode b_CD_doubled 10 = .ok (.iload_n 1, 1) := by decide +kernel
theorem d_CD_doubled_11 : decode b_CD_doubled 11 = .ok (.bipush 9, 2) := by decide +kernel
theorem d_CD_doubled_13 : decode b_CD_doubled 13 = .ok (.isub, 1) := by decide +kernel
theorem d_CD_doubled_14 : decode b_CD_doubled 14 = .ok (.goto 4, 3) := by decide +kernel
theorem d_CD_doubled_17 : decode b_CD_doubled 17 = .ok (.iload_n 1, 1) := by decide +kernel
theorem d_CD_doubled_18 : decode b_CD_doubled 18 = .ok (.ireturn, 1) := by decide +kernel
end
section
theorem d_MO_init_0 : decode b_MO_init 0 = .ok (.aload_n 0, 1) := by decide +kernel
theorem d_MO_init_1 : decode b_MO_init 1 = .ok (.invokespecial 1, 3) := by decide +kernel
theorem d_MO_init_4 : decode b_MO_init 4 = .ok (.aload_n 0, 1) := by decide +kernel
theorem d_MO_init_5 : decode b_MO_init 5 = .ok (.bipush 40, 2) := by decide +kernel
theorem d_MO_init_7 : decode b_MO_init 7 = .ok (.newarray .int, 2) := by decide +kernel
theorem d_MO_init_9 : decode b_MO_init 9 = .ok (.putfield 7, 3) := by decide +kernel
theorem d_MO_init_12 : decode b_MO_init 12 = .ok (.aload_n 0, 1) := by decide +kernel
theorem d_MO_init_13 : decode b_MO_init 13 = .ok (.bipush 40, 2) := by decide +kernel
theorem d_MO_init_15 : decode b_MO_init 15 = .ok (.newarray .int, 2) := by decide +kernel
theorem d_MO_init_17 : decode b_MO_init 17 = .ok (.putfield 13, 3) := by decide +kernel
theorem d_MO_init_20 : decode b_MO_init 20 = .ok (.aload_n 0, 1) := by decide +kernel
theorem d_MO_init_21 : decode b_MO_init 21 = .ok (.bipush 40, 2) := by decide +kernel
theorem d_MO_init_23 : decode b_MO_init 23 = .ok (.newarray .int, 2) := by decide +kernel
theorem d_MO_init_25 : decode b_MO_init 25 = .ok (.putfield 16, 3) := by decide +kernel
theorem d_MO_init_28 : decode b_MO_init 28 = .ok (.aload_n 0, 1) := by decide +kernel
theorem d_MO_init_29 : decode b_MO_init 29 = .ok (.bipush 64, 2) := by decide +kernel
theorem d_MO_init_31 : decode b_MO_init 31 = .ok (.newarray .int, 2) := by decide +kernel
theorem d_MO_init_33 : decode b_MO_init 33 = .ok (.putfield 19, 3) := by decide +kernel
theorem d_MO_init_36 : decode b_MO_init 36 = .ok (.aload_n 0, 1) := by decide +kernel
theorem d_MO_init_37 : decode b_MO_init 37 = .ok (.bipush 64, 2) := by decide +kernel
theorem d_MO_init_39 : decode b_MO_init 39 = .ok (.newarray .int, 2) := by decide +kernel
theorem d_MO_init_41 : decode b_MO_init 41 = .ok (.putfield 22, 3) := by decide +kernel
theorem d_MO_init_44 : decode b_MO_init 44 = .ok (.aload_n 0, 1) := by decide +kernel
theorem d_MO_init_45 : decode b_MO_init 45 = .ok (.sipush 512, 3) := by decide +kernel
theorem d_MO_init_48 : decode b_MO_init 48 = .ok (.newarray .int, 2) := by decide +kernel
theorem d_MO_init_50 : decode b_MO_init 50 = .ok (.putfield 25, 3) := by decide +kernel
theorem d_MO_init_53 : decode b_MO_init 53 = .ok (.aload_n 0, 1) := by decide +kernel
theorem d_MO_init_54 : decode b_MO_init 54 = .ok (.bipush 100, 2) := by decide +kernel
theorem d_MO_init_56 : decode b_MO_init 56 = .ok (.newarray .long, 2) := by decide +kernel
theorem d_MO_init_58 : decode b_MO_init 58 = .ok (.putfield 28, 3) := by decide +kernel
theorem d_MO_init_61 : decode b_MO_init 61 = .ok (.aload_n 0, 1) := by decide +kernel
theorem d_MO_init_62 : decode b_MO_init 62 = .ok (.bipush 100, 2) := by decide +kernel
theorem d_MO_init_64 : decode b_MO_init 64 = .ok (.newarray .int, 2) := by decide +kernel
theorem d_MO_init_66 : decode b_MO_init 66 = .ok (.putfield 32, 3) := by decide +kernel
theorem d_MO_init_69 : decode b_MO_init 69 = .ok (.aload_n 0, 1) := by decide +kernel
theorem d_MO_init_70 : decode b_MO_init 70 = .ok (.bipush 100, 2) := by decide +kernel
theorem d_MO_init_72 : decode b_MO_init 72 = .ok (.newarray .boolean, 2) := by decide +kernel
theorem d_MO_init_74 : decode b_MO_init 74 = .ok (.putfield 35, 3) := by decide +kernel
theorem d_MO_init_77 : decode b_MO_init 77 = .ok (.aload_n 0, 1) := by decide +kernel
theorem d_MO_init_78 : decode b_MO_init 78 = .ok (.iload_n 1, 1) := by decide +kernel
theorem d_MO_init_79 : decode b_MO_init 79 = .ok (.iconst 1, 1) := by decide +kernel
theorem d_MO_init_80 : decode b_MO_init 80 = .ok (.if_icmp .ge 7, 3) := by decide +kernel
theorem d_MO_init_83 : decode b_MO_init 83 = .ok (.iconst 1, 1) := by decide +kernel
theorem d_MO_init_84 : decode b_MO_init 84 = .ok (.goto 17, 3) := by decide +kernel
theorem d_MO_init_87 : decode b_MO_init 87 = .ok (.iload_n 1, 1) := by decide +kernel
theorem d_MO_init_88 : decode b_MO_init 88 = .ok (.sipush 5000, 3) := by decide +kernel
theorem d_MO_init_91 : decode b_MO_init 91 = .ok (.if_icmp .le 9, 3) := by decide +kernel
theorem d_MO_init_94 : decode b_MO_init 94 = .ok (.sipush 5000, 3) := by decide +kernel
theorem d_MO_init_97 : decode b_MO_init 97 = .ok (.goto 4, 3) := by decide +kernel
theorem d_MO_init_100 : decode b_MO_init 100 = .ok (.iload_n 1, 1) := by decide +kernel
theorem d_MO_init_101 : decode b_MO_init 101 = .ok (.putfield 39, 3) := by decide +kernel
theorem d_MO_init_104 : decode b_MO_init 104 = .ok (.aload_n 0, 1) := by decide +kernel
theorem d_MO_init_105 : decode b_MO_init 105 = .ok (.iload_n 2, 1) := by decide +kernel
theorem d_MO_init_106 : decode b_MO_init 106 = .ok (.iconst 1, 1) := by decide +kernel
theorem d_MO_init_107 : decode b_MO_init 107 = .ok (.if_icmp .ge 7, 3) := by decide +kernel
theorem d_MO_init_110 : decode b_MO_init 110 = .ok (.iconst 1, 1) := by decide +kernel
theorem d_MO_init_111 : decode b_MO_init 111 = .ok (.goto 15, 3) := by decide +kernel
theorem d_MO_init_114 : decode b_MO_init 114 = .ok (.iload_n 2, 1) := by decide +kernel
theorem d_MO_init_115 : decode b_MO_init 115 = .ok (.bipush 8, 2) := by decide +kernel
theorem d_MO_init_117 : decode b_MO_init 117 = .ok (.if_icmp .le 8, 3) := by decide +kernel
theorem d_MO_init_120 : decode b_MO_init 120 = .ok (.bipush 8, 2) := by decide +kernel
theorem d_MO_init_122 : decode b_MO_init 122 = .ok (.goto 4, 3) := by decide +kernel
theorem d_MO_init_125 : decode b_MO_init 125 = .ok (.iload_n 2, 1) := by decide +kernel
theorem d_MO_init_126 : decode b_MO_init 126 = .ok (.putfield 43, 3) := by decide +kernel
theorem d_MO_init_129 : decode b_MO_init 129 = .ok (.return_, 1) := by decide +kernel
theorem d_MO_thrown_0 : decode b_MO_thrown 0 = .ok (.aload_n 0, 1) := by decide +kernel
theorem d_MO_thrown_1 : decode b_MO_thrown 1 = .ok (.getfield 46, 3) := by decide +kernel
theorem d_MO_thrown_4 : decode b_MO_thrown 4 = .ok (.ireturn, 1) := by decide +kernel
theorem d_MO_goes_0 : decode b_MO_goes 0 = .ok (.aload_n 0, 1) := by decide +kernel
theorem d_MO_goes_1 : decode b_MO_goes 1 = .ok (.iload_n 1, 1) := by decide +kernel
theorem d_MO_goes_2 : decode b_MO_goes 2 = .ok (.ifCond .ne 7, 3) := by decide +kernel
theorem d_MO_goes_5 : decode b_MO_goes 5 = .ok (.iconst 1, 1) := by decide +kernel
theorem d_MO_goes_6 : decode b_MO_goes 6 = .ok (.goto 12, 3) := by decide +kernel
theorem d_MO_goes_9 : decode b_MO_goes 9 = .ok (.iload_n 2, 1) := by decide +kernel
theorem d_MO_goes_10 : decode b_MO_goes 10 = .ok (.ifCond .ne 7, 3) := by decide +kernel
theorem d_MO_goes_13 : decode b_MO_goes 13 = .ok (.iconst 2, 1) := by decide +kernel
theorem d_MO_goes_14 : decode b_MO_goes 14 = .ok (.goto 4, 3) := by decide +kernel
theorem d_MO_goes_17 : decode b_MO_goes 17 = .ok (.iconst 0, 1) := by decide +kernel
theorem d_MO_goes_18 : decode b_MO_goes 18 = .ok (.putfield 46, 3) := by decide +kernel
theorem d_MO_goes_21 : decode b_MO_goes 21 = .ok (.aload_n 0, 1) := by decide +kernel
theorem d_MO_goes_22 : decode b_MO_goes 22 = .ok (.getfield 46, 3) := by decide +kernel
theorem d_MO_goes_25 : decode b_MO_goes 25 = .ok (.ifCond .ne 7, 3) := by decide +kernel
theorem d_MO_goes_28 : decode b_MO_goes 28 = .ok (.iconst 1, 1) := by decide +kernel
theorem d_MO_goes_29 : decode b_MO_goes 29 = .ok (.goto 4, 3) := by decide +kernel
theorem d_MO_goes_32 : decode b_MO_goes 32 = .ok (.iconst 0, 1) := by decide +kernel
theorem d_MO_goes_33 : decode b_MO_goes 33 = .ok (.ireturn, 1) := by decide +kernel
theorem d_MO_width_0 : decode b_MO_width 0 = .ok (.iconst 0, 1) := by decide +kernel
theorem d_MO_width_1 : decode b_MO_width 1 = .ok (.istore_n 2, 1) := by decide +kernel
theorem d_MO_width_2 : decode b_MO_width 2 = .ok (.lload_n 0, 1) := by decide +kernel
theorem d_MO_width_3 : decode b_MO_width 3 = .ok (.lstore_n 3, 1) := by decide +kernel
theorem d_MO_width_4 : decode b_MO_width 4 = .ok (.lload_n 3, 1) := by decide +kernel
theorem d_MO_width_5 : decode b_MO_width 5 = .ok (.lconst 0, 1) := by decide +kernel
theorem d_MO_width_6 : decode b_MO_width 6 = .ok (.lcmp, 1) := by decide +kernel
theorem d_MO_width_7 : decode b_MO_width 7 = .ok (.ifCond .le 15, 3) := by decide +kernel
theorem d_MO_width_10 : decode b_MO_width 10 = .ok (.lload_n 3, 1) := by decide +kernel
theorem d_MO_width_11 : decode b_MO_width 11 = .ok (.ldc2_w 49, 3) := by decide +kernel
theorem d_MO_width_14 : decode b_MO_width 14 = .ok (.ldiv, 1) := by decide +kernel
theorem d_MO_width_15 : decode b_MO_width 15 = .ok (.lstore_n 3, 1) := by decide +kernel
theorem d_MO_width_16 : decode b_MO_width 16 = .ok (.iinc 2 1, 3) := by decide +kernel
theorem d_MO_width_19 : decode b_MO_width 19 = .ok (.goto (-15), 3) := by decide +kernel
theorem d_MO_width_22 : decode b_MO_width 22 = .ok (.iload_n 2, 1) := by decide +kernel
theorem d_MO_width_23 : decode b_MO_width 23 = .ok (.ifCond .ne 7, 3) := by decide +kernel
theorem d_MO_width_26 : decode b_MO_width 26 = .ok (.iconst 1, 1) := by decide +kernel
theorem d_MO_width_27 : decode b_MO_width 27 = .ok (.goto 4, 3) := by decide +kernel
theorem d_MO_width_30 : decode b_MO_width 30 = .ok (.iload_n 2, 1) := by decide +kernel
theorem d_MO_width_31 : decode b_MO_width 31 = .ok (.ireturn, 1) := by decide +kernel
theorem d_MO_isNumber_0 : decode b_MO_isNumber 0 = .ok (.lload_n 0, 1) := by decide +kernel
theorem d_MO_isNumber_1 : decode b_MO_isNumber 1 = .ok (.lconst 1, 1) := by decide +kernel
theorem d_MO_isNumber_2 : decode b_MO_isNumber 2 = .ok (.lcmp, 1) := by decide +kernel
theorem d_MO_isNumber_3 : decode b_MO_isNumber 3 = .ok (.ifCond .lt 15, 3) := by decide +kernel
theorem d_MO_isNumber_6 : decode b_MO_isNumber 6 = .ok (.lload_n 0, 1) := by decide +kernel
theorem d_MO_isNumber_7 : decode b_MO_isNumber 7 = .ok (.invokestatic 51, 3) := by decide +kernel
theorem d_MO_isNumber_10 : decode b_MO_isNumber 10 = .ok (.iload_n 2, 1) := by decide +kernel
theorem d_MO_isNumber_11 : decode b_MO_isNumber 11 = .ok (.if_icmp .gt 7, 3) := by decide +kernel
theorem d_MO_isNumber_14 : decode b_MO_isNumber 14 = .ok (.iconst 1, 1) := by decide +kernel
theorem d_MO_isNumber_15 : decode b_MO_isNumber 15 = .ok (.goto 4, 3) := by decide +kernel
theorem d_MO_isNumber_18 : decode b_MO_isNumber 18 = .ok (.iconst 0, 1) := by decide +kernel
theorem d_MO_isNumber_19 : decode b_MO_isNumber 19 = .ok (.ireturn, 1) := by decide +kernel
theorem d_MO_front_0 : decode b_MO_front 0 = .ok (.lload_n 0, 1) := by decide +kernel
theorem d_MO_front_1 : decode b_MO_front 1 = .ok (.lstore_n 3, 1) := by decide +kernel
theorem d_MO_front_2 : decode b_MO_front 2 = .ok (.lload_n 0, 1) := by decide +kernel
theorem d_MO_front_3 : decode b_MO_front 3 = .ok (.invokestatic 51, 3) := by decide +kernel
theorem d_MO_front_6 : decode b_MO_front 6 = .ok (.istore 5, 2) := by decide +kernel
theorem d_MO_front_8 : decode b_MO_front 8 = .ok (.iload 5, 2) := by decide +kernel
theorem d_MO_front_10 : decode b_MO_front 10 = .ok (.iload_n 2, 1) := by decide +kernel
theorem d_MO_front_11 : decode b_MO_front 11 = .ok (.if_icmp .le 15, 3) := by decide +kernel
theorem d_MO_front_14 : decode b_MO_front 14 = .ok (.lload_n 3, 1) := by decide +kernel
theorem d_MO_front_15 : decode b_MO_front 15 = .ok (.ldc2_w 49, 3) := by decide +kernel
theorem d_MO_front_18 : decode b_MO_front 18 = .ok (.ldiv, 1) := by decide +kernel
theorem d_MO_front_19 : decode b_MO_front 19 = .ok (.lstore_n 3, 1) := by decide +kernel
theorem d_MO_front_20 : decode b_MO_front 20 = .ok (.iinc 5 (-1), 3) := by decide +kernel
theorem d_MO_front_23 : decode b_MO_front 23 = .ok (.goto (-15), 3) := by decide +kernel
theorem d_MO_front_26 : decode b_MO_front 26 = .ok (.lload_n 3, 1) := by decide +kernel
theorem d_MO_front_27 : decode b_MO_front 27 = .ok (.lreturn, 1) := by decide +kernel
theorem d_MO_isPrefix_0 : decode b_MO_isPrefix 0 = .ok (.iload_n 0, 1) := by decide +kernel
theorem d_MO_isPrefix_1 : decode b_MO_isPrefix 1 = .ok (.ifCond .lt 27, 3) := by decide +kernel
theorem d_MO_isPrefix_4 : decode b_MO_isPrefix 4 = .ok (.iload_n 1, 1) := by decide +kernel
theorem d_MO_isPrefix_5 : decode b_MO_isPrefix 5 = .ok (.iconst 1, 1) := by decide +kernel
theorem d_MO_isPrefix_6 : decode b_MO_isPrefix 6 = .ok (.if_icmp .lt 22, 3) := by decide +kernel
theorem d_MO_isPrefix_9 : decode b_MO_isPrefix 9 = .ok (.iload_n 1, 1) := by decide +kernel
theorem d_MO_isPrefix_10 : decode b_MO_isPrefix 10 = .ok (.bipush 8, 2) := by decide +kernel
theorem d_MO_isPrefix_12 : decode b_MO_isPrefix 12 = .ok (.if_icmp .gt 16, 3) := by decide +kernel
theorem d_MO_isPrefix_15 : decode b_MO_isPrefix 15 = .ok (.iload_n 0, 1) := by decide +kernel
theorem d_MO_isPrefix_16 : decode b_MO_isPrefix 16 = .ok (.i2l, 1) := by decide +kernel
theorem d_MO_isPrefix_17 : decode b_MO_isPrefix 17 = .ok (.invokestatic 51, 3) := by decide +kernel
theorem d_MO_isPrefix_20 : decode b_MO_isPrefix 20 = .ok (.iload_n 1, 1) := by decide +kernel
theorem d_MO_isPrefix_21 : decode b_MO_isPrefix 21 = .ok (.if_icmp .gt 7, 3) := by decide +kernel
theorem d_MO_isPrefix_24 : decode b_MO_isPrefix 24 = .ok (.iconst 1, 1) := by decide +kernel
theorem d_MO_isPrefix_25 : decode b_MO_isPrefix 25 = .ok (.goto 4, 3) := by decide +kernel
theorem d_MO_isPrefix_28 : decode b_MO_isPrefix 28 = .ok (.iconst 0, 1) := by decide +kernel
theorem d_MO_isPrefix_29 : decode b_MO_isPrefix 29 = .ok (.ireturn, 1) := by decide +kernel
theorem d_MO_placeOf_0 : decode b_MO_placeOf 0 = .ok (.iconst 0, 1) := by decide +kernel
theorem d_MO_placeOf_1 : decode b_MO_placeOf 1 = .ok (.istore_n 3, 1) := by decide +kernel
theorem d_MO_placeOf_2 : decode b_MO_placeOf 2 = .ok (.iload_n 3, 1) := by decide +kernel
theorem d_MO_placeOf_3 : decode b_MO_placeOf 3 = .ok (.aload_n 0, 1) := by decide +kernel
theorem d_MO_placeOf_4 : decode b_MO_placeOf 4 = .ok (.getfield 55, 3) := by decide +kernel
theorem d_MO_placeOf_7 : decode b_MO_placeOf 7 = .ok (.if_icmp .ge 29, 3) := by decide +kernel
theorem d_MO_placeOf_10 : decode b_MO_placeOf 10 = .ok (.aload_n 0, 1) := by decide +kernel
theorem d_MO_placeOf_11 : decode b_MO_placeOf 11 = .ok (.getfield 7, 3) := by decide +kernel
theorem d_MO_placeOf_14 : decode b_MO_placeOf 14 = .ok (.iload_n 3, 1) := by decide +kernel
theorem d_MO_placeOf_15 : decode b_MO_placeOf 15 = .ok (.iaload, 1) := by decide +kernel
theorem d_MO_placeOf_16 : decode b_MO_placeOf 16 = .ok (.iload_n 1, 1) := by decide +kernel
theorem d_MO_placeOf_17 : decode b_MO_placeOf 17 = .ok (.if_icmp .ne 13, 3) := by decide +kernel
theorem d_MO_placeOf_20 : decode b_MO_placeOf 20 = .ok (.aload_n 0, 1) := by decide +kernel
theorem d_MO_placeOf_21 : decode b_MO_placeOf 21 = .ok (.getfield 13, 3) := by decide +kernel
theorem d_MO_placeOf_24 : decode b_MO_placeOf 24 = .ok (.iload_n 3, 1) := by decide +kernel
theorem d_MO_placeOf_25 : decode b_MO_placeOf 25 = .ok (.iaload, 1) := by decide +kernel
theorem d_MO_placeOf_26 : decode b_MO_placeOf 26 = .ok (.iload_n 2, 1) := by decide +kernel
theorem d_MO_placeOf_27 : decode b_MO_placeOf 27 = .ok (.if_icmp .eq 9, 3) := by decide +kernel
theorem d_MO_placeOf_30 : decode b_MO_placeOf 30 = .ok (.iinc 3 1, 3) := by decide +kernel
theorem d_MO_placeOf_33 : decode b_MO_placeOf 33 = .ok (.goto (-31), 3) := by decide +kernel
theorem d_MO_placeOf_36 : decode b_MO_placeOf 36 = .ok (.iload_n 3, 1) := by decide +kernel
theorem d_MO_placeOf_37 : decode b_MO_placeOf 37 = .ok (.ireturn, 1) := by decide +kernel
theorem d_MO_route_0 : decode b_MO_route 0 = .ok (.aload_n 0, 1) := by decide +kernel
theorem d_MO_route_1 : decode b_MO_route 1 = .ok (.iload_n 2, 1) := by decide +kernel
theorem d_MO_route_2 : decode b_MO_route 2 = .ok (.iload_n 3, 1) := by decide +kernel
theorem d_MO_route_3 : decode b_MO_route 3 = .ok (.invokevirtual 58, 3) := by decide +kernel
theorem d_MO_route_6 : decode b_MO_route 6 = .ok (.istore 4, 2) := by decide +kernel
theorem d_MO_route_8 : decode b_MO_route 8 = .ok (.aload_n 0, 1) := by decide +kernel
theorem d_MO_route_9 : decode b_MO_route 9 = .ok (.iload_n 1, 1) := by decide +kernel
theorem d_MO_route_10 : decode b_MO_route 10 = .ok (.ifCond .lt 21, 3) := by decide +kernel
theorem d_MO_route_13 : decode b_MO_route 13 = .ok (.iload_n 1, 1) := by decide +kernel
theorem d_MO_route_14 : decode b_MO_route 14 = .ok (.bipush 6, 2) := by decide +kernel
theorem d_MO_route_16 : decode b_MO_route 16 = .ok (.if_icmp .ge 15, 3) := by decide +kernel
theorem d_MO_route_19 : decode b_MO_route 19 = .ok (.iload_n 2, 1) := by decide +kernel
theorem d_MO_route_20 : decode b_MO_route 20 = .ok (.iload_n 3, 1) := by decide +kernel
theorem d_MO_route_21 : decode b_MO_route 21 = .ok (.invokestatic 62, 3) := by decide +kernel
theorem d_MO_route_24 : decode b_MO_route 24 = .ok (.ifCond .eq 7, 3) := by decide +kernel
theorem d_MO_route_27 : decode b_MO_route 27 = .ok (.iconst 1, 1) := by decide +kernel
theorem d_MO_route_28 : decode b_MO_route 28 = .ok (.goto 4, 3) := by decide +kernel
theorem d_MO_route_31 : decode b_MO_route 31 = .ok (.iconst 0, 1) := by decide +kernel
theorem d_MO_route_32 : decode b_MO_route 32 = .ok (.iload 4, 2) := by decide +kernel
theorem d_MO_route_34 : decode b_MO_route 34 = .ok (.bipush 40, 2) := by decide +kernel
theorem d_MO_route_36 : decode b_MO_route 36 = .ok (.if_icmp .ge 7, 3) := by decide +kernel
theorem d_MO_route_39 : decode b_MO_route 39 = .ok (.iconst 1, 1) := by decide +kernel
theorem d_MO_route_40 : decode b_MO_route 40 = .ok (.goto 4, 3) := by decide +kernel
theorem d_MO_route_43 : decode b_MO_route 43 = .ok (.iconst 0, 1) := by decide +kernel
theorem d_MO_route_44 : decode b_MO_route 44 = .ok (.invokevirtual 66, 3) := by decide +kernel
theorem d_MO_route_47 : decode b_MO_route 47 = .ok (.ifCond .ne 5, 3) := by decide +kernel
theorem d_MO_route_50 : decode b_MO_route 50 = .ok (.iconst 0, 1) := by decide +kernel
theorem d_MO_route_51 : decode b_MO_route 51 = .ok (.ireturn, 1) := by decide +kernel
theorem d_MO_route_52 : decode b_MO_route 52 = .ok (.iload 4, 2) := by decide +kernel
theorem d_MO_route_54 : decode b_MO_route 54 = .ok (.aload_n 0, 1) := by decide +kernel
theorem d_MO_route_55 : decode b_MO_route 55 = .ok (.getfield 55, 3) := by decide +kernel
theorem d_MO_route_58 : decode b_MO_route 58 = .ok (.if_icmp .ge 13, 3) := by decide +kernel
theorem d_MO_route_61 : decode b_MO_route 61 = .ok (.aload_n 0, 1) := by decide +kernel
theorem d_MO_route_62 : decode b_MO_route 62 = .ok (.getfield 16, 3) := by decide +kernel
theorem d_MO_route_65 : decode b_MO_route 65 = .ok (.iload 4, 2) := by decide +kernel
theorem d_MO_route_67 : decode b_MO_route 67 = .ok (.iaload, 1) := by decide +kernel
theorem d_MO_route_68 : decode b_MO_route 68 = .ok (.goto 4, 3) := by decide +kernel
theorem d_MO_route_71 : decode b_MO_route 71 = .ok (.iconst (-1), 1) := by decide +kernel
theorem d_MO_route_72 : decode b_MO_route 72 = .ok (.istore 5, 2) := by decide +kernel
theorem d_MO_route_74 : decode b_MO_route 74 = .ok (.aload_n 0, 1) := by decide +kernel
theorem d_MO_route_75 : decode b_MO_route 75 = .ok (.getfield 7, 3) := by decide +kernel
theorem d_MO_route_78 : decode b_MO_route 78 = .ok (.iload 4, 2) := by decide +kernel
theorem d_MO_route_80 : decode b_MO_route 80 = .ok (.iload_n 2, 1) := by decide +kernel
theorem d_MO_route_81 : decode b_MO_route 81 = .ok (.iastore, 1) := by decide +kernel
theorem d_MO_route_82 : decode b_MO_route 82 = .ok (.aload_n 0, 1) := by decide +kernel
theorem d_MO_route_83 : decode b_MO_route 83 = .ok (.getfield 13, 3) := by decide +kernel
theorem d_MO_route_86 : decode b_MO_route 86 = .ok (.iload 4, 2) := by decide +kernel
theorem d_MO_route_88 : decode b_MO_route 88 = .ok (.iload_n 3, 1) := by decide +kernel
theorem d_MO_route_89 : decode b_MO_route 89 = .ok (.iastore, 1) := by decide +kernel
theorem d_MO_route_90 : decode b_MO_route 90 = .ok (.aload_n 0, 1) := by decide +kernel
theorem d_MO_route_91 : decode b_MO_route 91 = .ok (.getfield 16, 3) := by decide +kernel
theorem d_MO_route_94 : decode b_MO_route 94 = .ok (.iload 4, 2) := by decide +kernel
theorem d_MO_route_96 : decode b_MO_route 96 = .ok (.iload_n 1, 1) := by decide +kernel
theorem d_MO_route_97 : decode b_MO_route 97 = .ok (.iastore, 1) := by decide +kernel
theorem d_MO_route_98 : decode b_MO_route 98 = .ok (.aload_n 0, 1) := by decide +kernel
theorem d_MO_route_99 : decode b_MO_route 99 = .ok (.dup, 1) := by decide +kernel
theorem d_MO_route_100 : decode b_MO_route 100 = .ok (.getfield 55, 3) := by decide +kernel
theorem d_MO_route_103 : decode b_MO_route 103 = .ok (.iload 4, 2) := by decide +kernel
theorem d_MO_route_105 : decode b_MO_route 105 = .ok (.aload_n 0, 1) := by decide +kernel
theorem d_MO_route_106 : decode b_MO_route 106 = .ok (.getfield 55, 3) := by decide +kernel
theorem d_MO_route_109 : decode b_MO_route 109 = .ok (.if_icmp .ne 7, 3) := by decide +kernel
theorem d_MO_route_112 : decode b_MO_route 112 = .ok (.iconst 1, 1) := by decide +kernel
theorem d_MO_route_113 : decode b_MO_route 113 = .ok (.goto 4, 3) := by decide +kernel
theorem d_MO_route_116 : decode b_MO_route 116 = .ok (.iconst 0, 1) := by decide +kernel
theorem d_MO_route_117 : decode b_MO_route 117 = .ok (.iadd, 1) := by decide +kernel
theorem d_MO_route_118 : decode b_MO_route 118 = .ok (.putfield 55, 3) := by decide +kernel
theorem d_MO_route_121 : decode b_MO_route 121 = .ok (.iload 5, 2) := by decide +kernel
theorem d_MO_route_123 : decode b_MO_route 123 = .ok (.ireturn, 1) := by decide +kernel
theorem d_MO_unroute_0 : decode b_MO_unroute 0 = .ok (.aload_n 0, 1) := by decide +kernel
theorem d_MO_unroute_1 : decode b_MO_unroute 1 = .ok (.iload_n 1, 1) := by decide +kernel
theorem d_MO_unroute_2 : decode b_MO_unroute 2 = .ok (.iload_n 2, 1) := by decide +kernel
theorem d_MO_unroute_3 : decode b_MO_unroute 3 = .ok (.invokestatic 62, 3) := by decide +kernel
theorem d_MO_unroute_6 : decode b_MO_unroute 6 = .ok (.iconst 1, 1) := by decide +kernel
theorem d_MO_unroute_7 : decode b_MO_unroute 7 = .ok (.invokevirtual 66, 3) := by decide +kernel
theorem d_MO_unroute_10 : decode b_MO_unroute 10 = .ok (.ifCond .ne 5, 3) := by decide +kernel
theorem d_MO_unroute_13 : decode b_MO_unroute 13 = .ok (.iconst 0, 1) := by decide +kernel
theorem d_MO_unroute_14 : decode b_MO_unroute 14 = .ok (.ireturn, 1) := by decide +kernel
theorem d_MO_unroute_15 : decode b_MO_unroute 15 = .ok (.aload_n 0, 1) := by decide +kernel
theorem d_MO_unroute_16 : decode b_MO_unroute 16 = .ok (.iload_n 1, 1) := by decide +kernel
theorem d_MO_unroute_17 : decode b_MO_unroute 17 = .ok (.iload_n 2, 1) := by decide +kernel
theorem d_MO_unroute_18 : decode b_MO_unroute 18 = .ok (.invokevirtual 58, 3) := by decide +kernel
theorem d_MO_unroute_21 : decode b_MO_unroute 21 = .ok (.istore_n 3, 1) := by decide +kernel
theorem d_MO_unroute_22 : decode b_MO_unroute 22 = .ok (.iload_n 3, 1) := by decide +kernel
theorem d_MO_unroute_23 : decode b_MO_unroute 23 = .ok (.aload_n 0, 1) := by decide +kernel
theorem d_MO_unroute_24 : decode b_MO_unroute 24 = .ok (.getfield 55, 3) := by decide +kernel
theorem d_MO_unroute_27 : decode b_MO_unroute 27 = .ok (.if_icmp .ne 5, 3) := by decide +kernel
theorem d_MO_unroute_30 : decode b_MO_unroute 30 = .ok (.iconst (-1), 1) := by decide +kernel
theorem d_MO_unroute_31 : decode b_MO_unroute 31 = .ok (.ireturn, 1) := by decide +kernel
theorem d_MO_unroute_32 : decode b_MO_unroute 32 = .ok (.aload_n 0, 1) := by decide +kernel
theorem d_MO_unroute_33 : decode b_MO_unroute 33 = .ok (.getfield 16, 3) := by decide +kernel
theorem d_MO_unroute_36 : decode b_MO_unroute 36 = .ok (.iload_n 3, 1) := by decide +kernel
theorem d_MO_unroute_37 : decode b_MO_unroute 37 = .ok (.iaload, 1) := by decide +kernel
theorem d_MO_unroute_38 : decode b_MO_unroute 38 = .ok (.istore 4, 2) := by decide +kernel
theorem d_MO_unroute_40 : decode b_MO_unroute 40 = .ok (.aload_n 0, 1) := by decide +kernel
theorem d_MO_unroute_41 : decode b_MO_unroute 41 = .ok (.dup, 1) := by decide +kernel
theorem d_MO_unroute_42 : decode b_MO_unroute 42 = .ok (.getfield 55, 3) := by decide +kernel
theorem d_MO_unroute_45 : decode b_MO_unroute 45 = .ok (.iconst 1, 1) := by decide +kernel
theorem d_MO_unroute_46 : decode b_MO_unroute 46 = .ok (.isub, 1) := by decide +kernel
theorem d_MO_unroute_47 : decode b_MO_unroute 47 = .ok (.putfield 55, 3) := by decide +kernel
theorem d_MO_unroute_50 : decode b_MO_unroute 50 = .ok (.aload_n 0, 1) := by decide +kernel
theorem d_MO_unroute_51 : decode b_MO_unroute 51 = .ok (.getfield 7, 3) := by decide +kernel
theorem d_MO_unroute_54 : decode b_MO_unroute 54 = .ok (.iload_n 3, 1) := by decide +kernel
theorem d_MO_unroute_55 : decode b_MO_unroute 55 = .ok (.aload_n 0, 1) := by decide +kernel
theorem d_MO_unroute_56 : decode b_MO_unroute 56 = .ok (.getfield 7, 3) := by decide +kernel
theorem d_MO_unroute_59 : decode b_MO_unroute 59 = .ok (.aload_n 0, 1) := by decide +kernel
theorem d_MO_unroute_60 : decode b_MO_unroute 60 = .ok (.getfield 55, 3) := by decide +kernel
theorem d_MO_unroute_63 : decode b_MO_unroute 63 = .ok (.iaload, 1) := by decide +kernel
theorem d_MO_unroute_64 : decode b_MO_unroute 64 = .ok (.iastore, 1) := by decide +kernel
theorem d_MO_unroute_65 : decode b_MO_unroute 65 = .ok (.aload_n 0, 1) := by decide +kernel
theorem d_MO_unroute_66 : decode b_MO_unroute 66 = .ok (.getfield 13, 3) := by decide +kernel
theorem d_MO_unroute_69 : decode b_MO_unroute 69 = .ok (.iload_n 3, 1) := by decide +kernel
theorem d_MO_unroute_70 : decode b_MO_unroute 70 = .ok (.aload_n 0, 1) := by decide +kernel
theorem d_MO_unroute_71 : decode b_MO_unroute 71 = .ok (.getfield 13, 3) := by decide +kernel
theorem d_MO_unroute_74 : decode b_MO_unroute 74 = .ok (.aload_n 0, 1) := by decide +kernel
theorem d_MO_unroute_75 : decode b_MO_unroute 75 = .ok (.getfield 55, 3) := by decide +kernel
theorem d_MO_unroute_78 : decode b_MO_unroute 78 = .ok (.iaload, 1) := by decide +kernel
theorem d_MO_unroute_79 : decode b_MO_unroute 79 = .ok (.iastore, 1) := by decide +kernel
theorem d_MO_unroute_80 : decode b_MO_unroute 80 = .ok (.aload_n 0, 1) := by decide +kernel
theorem d_MO_unroute_81 : decode b_MO_unroute 81 = .ok (.getfield 16, 3) := by decide +kernel
theorem d_MO_unroute_84 : decode b_MO_unroute 84 = .ok (.iload_n 3, 1) := by decide +kernel
theorem d_MO_unroute_85 : decode b_MO_unroute 85 = .ok (.aload_n 0, 1) := by decide +kernel
theorem d_MO_unroute_86 : decode b_MO_unroute 86 = .ok (.getfield 16, 3) := by decide +kernel
theorem d_MO_unroute_89 : decode b_MO_unroute 89 = .ok (.aload_n 0, 1) := by decide +kernel
theorem d_MO_unroute_90 : decode b_MO_unroute 90 = .ok (.getfield 55, 3) := by decide +kernel
theorem d_MO_unroute_93 : decode b_MO_unroute 93 = .ok (.iaload, 1) := by decide +kernel
theorem d_MO_unroute_94 : decode b_MO_unroute 94 = .ok (.iastore, 1) := by decide +kernel
theorem d_MO_unroute_95 : decode b_MO_unroute 95 = .ok (.iload 4, 2) := by decide +kernel
theorem d_MO_unroute_97 : decode b_MO_unroute 97 = .ok (.ireturn, 1) := by decide +kernel
theorem d_MO_routes_0 : decode b_MO_routes 0 = .ok (.aload_n 0, 1) := by decide +kernel
theorem d_MO_routes_1 : decode b_MO_routes 1 = .ok (.iconst 0, 1) := by decide +kernel
theorem d_MO_routes_2 : decode b_MO_routes 2 = .ok (.putfield 46, 3) := by decide +kernel
theorem d_MO_routes_5 : decode b_MO_routes 5 = .ok (.aload_n 0, 1) := by decide +kernel
theorem d_MO_routes_6 : decode b_MO_routes 6 = .ok (.getfield 55, 3) := by decide +kernel
theorem d_MO_routes_9 : decode b_MO_routes 9 = .ok (.ireturn, 1) := by decide +kernel
theorem d_MO_routed_0 : decode b_MO_routed 0 = .ok (.iconst (-1), 1) := by decide +kernel
theorem d_MO_routed_1 : decode b_MO_routed 1 = .ok (.istore_n 3, 1) := by decide +kernel
theorem d_MO_routed_2 : decode b_MO_routed 2 = .ok (.iconst 0, 1) := by decide +kernel
theorem d_MO_routed_3 : decode b_MO_routed 3 = .ok (.istore 4, 2) := by decide +kernel
theorem d_MO_routed_5 : decode b_MO_routed 5 = .ok (.iconst 0, 1) := by decide +kernel
theorem d_MO_routed_6 : decode b_MO_routed 6 = .ok (.istore 5, 2) := by decide +kernel
theorem d_MO_routed_8 : decode b_MO_routed 8 = .ok (.iload 5, 2) := by decide +kernel
theorem d_MO_routed_10 : decode b_MO_routed 10 = .ok (.aload_n 0, 1) := by decide +kernel
theorem d_MO_routed_11 : decode b_MO_routed 11 = .ok (.getfield 55, 3) := by decide +kernel
theorem d_MO_routed_14 : decode b_MO_routed 14 = .ok (.if_icmp .ge 75, 3) := by decide +kernel
theorem d_MO_routed_17 : decode b_MO_routed 17 = .ok (.aload_n 0, 1) := by decide +kernel
theorem d_MO_routed_18 : decode b_MO_routed 18 = .ok (.getfield 13, 3) := by decide +kernel
theorem d_MO_routed_21 : decode b_MO_routed 21 = .ok (.iload 5, 2) := by decide +kernel
theorem d_MO_routed_23 : decode b_MO_routed 23 = .ok (.iaload, 1) := by decide +kernel
theorem d_MO_routed_24 : decode b_MO_routed 24 = .ok (.iload 4, 2) := by decide +kernel
theorem d_MO_routed_26 : decode b_MO_routed 26 = .ok (.if_icmp .le 57, 3) := by decide +kernel
theorem d_MO_routed_29 : decode b_MO_routed 29 = .ok (.aload_n 0, 1) := by decide +kernel
theorem d_MO_routed_30 : decode b_MO_routed 30 = .ok (.getfield 13, 3) := by decide +kernel
theorem d_MO_routed_33 : decode b_MO_routed 33 = .ok (.iload 5, 2) := by decide +kernel
theorem d_MO_routed_35 : decode b_MO_routed 35 = .ok (.iaload, 1) := by decide +kernel
theorem d_MO_routed_36 : decode b_MO_routed 36 = .ok (.lload_n 1, 1) := by decide +kernel
theorem d_MO_routed_37 : decode b_MO_routed 37 = .ok (.invokestatic 51, 3) := by decide +kernel
theorem d_MO_routed_40 : decode b_MO_routed 40 = .ok (.if_icmp .gt 43, 3) := by decide +kernel
theorem d_MO_routed_43 : decode b_MO_routed 43 = .ok (.lload_n 1, 1) := by decide +kernel
theorem d_MO_routed_44 : decode b_MO_routed 44 = .ok (.aload_n 0, 1) := by decide +kernel
theorem d_MO_routed_45 : decode b_MO_routed 45 = .ok (.getfield 13, 3) := by decide +kernel
theorem d_MO_routed_48 : decode b_MO_routed 48 = .ok (.iload 5, 2) := by decide +kernel
theorem d_MO_routed_50 : decode b_MO_routed 50 = .ok (.iaload, 1) := by decide +kernel
theorem d_MO_routed_51 : decode b_MO_routed 51 = .ok (.invokestatic 70, 3) := by decide +kernel
theorem d_MO_routed_54 : decode b_MO_routed 54 = .ok (.aload_n 0, 1) := by decide +kernel
theorem d_MO_routed_55 : decode b_MO_routed 55 = .ok (.getfield 7, 3) := by decide +kernel
theorem d_MO_routed_58 : decode b_MO_routed 58 = .ok (.iload 5, 2) := by decide +kernel
theorem d_MO_routed_60 : decode b_MO_routed 60 = .ok (.iaload, 1) := by decide +kernel
theorem d_MO_routed_61 : decode b_MO_routed 61 = .ok (.i2l, 1) := by decide +kernel
theorem d_MO_routed_62 : decode b_MO_routed 62 = .ok (.lcmp, 1) := by decide +kernel
theorem d_MO_routed_63 : decode b_MO_routed 63 = .ok (.ifCond .ne 20, 3) := by decide +kernel
theorem d_MO_routed_66 : decode b_MO_routed 66 = .ok (.aload_n 0, 1) := by decide +kernel
theorem d_MO_routed_67 : decode b_MO_routed 67 = .ok (.getfield 13, 3) := by decide +kernel
theorem d_MO_routed_70 : decode b_MO_routed 70 = .ok (.iload 5, 2) := by decide +kernel
theorem d_MO_routed_72 : decode b_MO_routed 72 = .ok (.iaload, 1) := by decide +kernel
theorem d_MO_routed_73 : decode b_MO_routed 73 = .ok (.istore 4, 2) := by decide +kernel
theorem d_MO_routed_75 : decode b_MO_routed 75 = .ok (.aload_n 0, 1) := by decide +kernel
theorem d_MO_routed_76 : decode b_MO_routed 76 = .ok (.getfield 16, 3) := by decide +kernel
theorem d_MO_routed_79 : decode b_MO_routed 79 = .ok (.iload 5, 2) := by decide +kernel
theorem d_MO_routed_81 : decode b_MO_routed 81 = .ok (.iaload, 1) := by decide +kernel
theorem d_MO_routed_82 : decode b_MO_routed 82 = .ok (.istore_n 3, 1) := by decide +kernel
theorem d_MO_routed_83 : decode b_MO_routed 83 = .ok (.iinc 5 1, 3) := by decide +kernel
theorem d_MO_routed_86 : decode b_MO_routed 86 = .ok (.goto (-78), 3) := by decide +kernel
theorem d_MO_routed_89 : decode b_MO_routed 89 = .ok (.iload_n 3, 1) := by decide +kernel
theorem d_MO_routed_90 : decode b_MO_routed 90 = .ok (.ireturn, 1) := by decide +kernel
theorem d_MO_whose_0 : decode b_MO_whose 0 = .ok (.aload_n 0, 1) := by decide +kernel
theorem d_MO_whose_1 : decode b_MO_whose 1 = .ok (.lload_n 1, 1) := by decide +kernel
theorem d_MO_whose_2 : decode b_MO_whose 2 = .ok (.bipush 18, 2) := by decide +kernel
theorem d_MO_whose_4 : decode b_MO_whose 4 = .ok (.invokestatic 74, 3) := by decide +kernel
theorem d_MO_whose_7 : decode b_MO_whose 7 = .ok (.iconst 1, 1) := by decide +kernel
theorem d_MO_whose_8 : decode b_MO_whose 8 = .ok (.invokevirtual 66, 3) := by decide +kernel
theorem d_MO_whose_11 : decode b_MO_whose 11 = .ok (.ifCond .eq 11, 3) := by decide +kernel
theorem d_MO_whose_14 : decode b_MO_whose 14 = .ok (.aload_n 0, 1) := by decide +kernel
theorem d_MO_whose_15 : decode b_MO_whose 15 = .ok (.lload_n 1, 1) := by decide +kernel
theorem d_MO_whose_16 : decode b_MO_whose 16 = .ok (.invokevirtual 78, 3) := by decide +kernel
theorem d_MO_whose_19 : decode b_MO_whose 19 = .ok (.goto 4, 3) := by decide +kernel
theorem d_MO_whose_22 : decode b_MO_whose 22 = .ok (.iconst 0, 1) := by decide +kernel
theorem d_MO_whose_23 : decode b_MO_whose 23 = .ok (.ireturn, 1) := by decide +kernel
theorem d_MO_sum_0 : decode b_MO_sum 0 = .ok (.iconst 0, 1) := by decide +kernel
theorem d_MO_sum_1 : decode b_MO_sum 1 = .ok (.istore_n 3, 1) := by decide +kernel
theorem d_MO_sum_2 : decode b_MO_sum 2 = .ok (.lload_n 0, 1) := by decide +kernel
theorem d_MO_sum_3 : decode b_MO_sum 3 = .ok (.lstore 4, 2) := by decide +kernel
theorem d_MO_sum_5 : decode b_MO_sum 5 = .ok (.iload_n 2, 1) := by decide +kernel
theorem d_MO_sum_6 : decode b_MO_sum 6 = .ok (.istore 6, 2) := by decide +kernel
theorem d_MO_sum_8 : decode b_MO_sum 8 = .ok (.lload 4, 2) := by decide +kernel
theorem d_MO_sum_10 : decode b_MO_sum 10 = .ok (.lconst 0, 1) := by decide +kernel
theorem d_MO_sum_11 : decode b_MO_sum 11 = .ok (.lcmp, 1) := by decide +kernel
theorem d_MO_sum_12 : decode b_MO_sum 12 = .ok (.ifCond .le 68, 3) := by decide +kernel
theorem d_MO_sum_15 : decode b_MO_sum 15 = .ok (.lload 4, 2) := by decide +kernel
theorem d_MO_sum_17 : decode b_MO_sum 17 = .ok (.ldc2_w 49, 3) := by decide +kernel
theorem d_MO_sum_20 : decode b_MO_sum 20 = .ok (.lrem, 1) := by decide +kernel
theorem d_MO_sum_21 : decode b_MO_sum 21 = .ok (.l2i, 1) := by decide +kernel
theorem d_MO_sum_22 : decode b_MO_sum 22 = .ok (.istore 7, 2) := by decide +kernel
theorem d_MO_sum_24 : decode b_MO_sum 24 = .ok (.iload_n 3, 1) := by decide +kernel
theorem d_MO_sum_25 : decode b_MO_sum 25 = .ok (.iload 6, 2) := by decide +kernel
theorem d_MO_sum_27 : decode b_MO_sum 27 = .ok (.ifCond .ne 8, 3) := by decide +kernel
theorem d_MO_sum_30 : decode b_MO_sum 30 = .ok (.iload 7, 2) := by decide +kernel
theorem d_MO_sum_32 : decode b_MO_sum 32 = .ok (.goto 23, 3) := by decide +kernel
theorem d_MO_sum_35 : decode b_MO_sum 35 = .ok (.iload 7, 2) := by decide +kernel
theorem d_MO_sum_37 : decode b_MO_sum 37 = .ok (.iconst 5, 1) := by decide +kernel
theorem d_MO_sum_38 : decode b_MO_sum 38 = .ok (.if_icmp .ge 10, 3) := by decide +kernel
theorem d_MO_sum_41 : decode b_MO_sum 41 = .ok (.iconst 2, 1) := by decide +kernel
theorem d_MO_sum_42 : decode b_MO_sum 42 = .ok (.iload 7, 2) := by decide +kernel
theorem d_MO_sum_44 : decode b_MO_sum 44 = .ok (.imul, 1) := by decide +kernel
theorem d_MO_sum_45 : decode b_MO_sum 45 = .ok (.goto 10, 3) := by decide +kernel
theorem d_MO_sum_48 : decode b_MO_sum 48 = .ok (.iconst 2, 1) := by decide +kernel
theorem d_MO_sum_49 : decode b_MO_sum 49 = .ok (.iload 7, 2) := by decide +kernel
theorem d_MO_sum_51 : decode b_MO_sum 51 = .ok (.imul, 1) := by decide +kernel
theorem d_MO_sum_52 : decode b_MO_sum 52 = .ok (.bipush 9, 2) := by decide +kernel
theorem d_MO_sum_54 : decode b_MO_sum 54 = .ok (.isub, 1) := by decide +kernel
theorem d_MO_sum_55 : decode b_MO_sum 55 = .ok (.iadd, 1) := by decide +kernel
theorem d_MO_sum_56 : decode b_MO_sum 56 = .ok (.istore_n 3, 1) := by decide +kernel
theorem d_MO_sum_57 : decode b_MO_sum 57 = .ok (.iload 6, 2) := by decide +kernel
theorem d_MO_sum_59 : decode b_MO_sum 59 = .ok (.ifCond .ne 7, 3) := by decide +kernel
theorem d_MO_sum_62 : decode b_MO_sum 62 = .ok (.iconst 1, 1) := by decide +kernel
theorem d_MO_sum_63 : decode b_MO_sum 63 = .ok (.goto 4, 3) := by decide +kernel
theorem d_MO_sum_66 : decode b_MO_sum 66 = .ok (.iconst 0, 1) := by decide +kernel
theorem d_MO_sum_67 : decode b_MO_sum 67 = .ok (.istore 6, 2) := by decide +kernel
theorem d_MO_sum_69 : decode b_MO_sum 69 = .ok (.lload 4, 2) := by decide +kernel
theorem d_MO_sum_71 : decode b_MO_sum 71 = .ok (.ldc2_w 49, 3) := by decide +kernel
theorem d_MO_sum_74 : decode b_MO_sum 74 = .ok (.ldiv, 1) := by decide +kernel
theorem d_MO_sum_75 : decode b_MO_sum 75 = .ok (.lstore 4, 2) := by decide +kernel
theorem d_MO_sum_77 : decode b_MO_sum 77 = .ok (.goto (-69), 3) := by decide +kernel
theorem d_MO_sum_80 : decode b_MO_sum 80 = .ok (.iload_n 3, 1) := by decide +kernel
theorem d_MO_sum_81 : decode b_MO_sum 81 = .ok (.ireturn, 1) := by decide +kernel
theorem d_MO_good_0 : decode b_MO_good 0 = .ok (.aload_n 0, 1) := by decide +kernel
theorem d_MO_good_1 : decode b_MO_good 1 = .ok (.lload_n 1, 1) := by decide +kernel
theorem d_MO_good_2 : decode b_MO_good 2 = .ok (.bipush 18, 2) := by decide +kernel
theorem d_MO_good_4 : decode b_MO_good 4 = .ok (.invokestatic 74, 3) := by decide +kernel
theorem d_MO_good_7 : decode b_MO_good 7 = .ok (.iconst 1, 1) := by decide +kernel
theorem d_MO_good_8 : decode b_MO_good 8 = .ok (.invokevirtual 66, 3) := by decide +kernel
theorem d_MO_good_11 : decode b_MO_good 11 = .ok (.ifCond .eq 18, 3) := by decide +kernel
theorem d_MO_good_14 : decode b_MO_good 14 = .ok (.lload_n 1, 1) := by decide +kernel
theorem d_MO_good_15 : decode b_MO_good 15 = .ok (.iconst 0, 1) := by decide +kernel
theorem d_MO_good_16 : decode b_MO_good 16 = .ok (.invokestatic 81, 3) := by decide +kernel
theorem d_MO_good_19 : decode b_MO_good 19 = .ok (.bipush 10, 2) := by decide +kernel
theorem d_MO_good_21 : decode b_MO_good 21 = .ok (.irem, 1) := by decide +kernel
theorem d_MO_good_22 : decode b_MO_good 22 = .ok (.ifCond .ne 7, 3) := by decide +kernel
theorem d_MO_good_25 : decode b_MO_good 25 = .ok (.iconst 1, 1) := by decide +kernel
theorem d_MO_good_26 : decode b_MO_good 26 = .ok (.goto 4, 3) := by decide +kernel
theorem d_MO_good_29 : decode b_MO_good 29 = .ok (.iconst 0, 1) := by decide +kernel
theorem d_MO_good_30 : decode b_MO_good 30 = .ok (.ireturn, 1) := by decide +kernel
theorem d_MO_digit_0 : decode b_MO_digit 0 = .ok (.aload_n 0, 1) := by decide +kernel
theorem d_MO_digit_1 : decode b_MO_digit 1 = .ok (.lload_n 1, 1) := by decide +kernel
theorem d_MO_digit_2 : decode b_MO_digit 2 = .ok (.bipush 17, 2) := by decide +kernel
theorem d_MO_digit_4 : decode b_MO_digit 4 = .ok (.invokestatic 74, 3) := by decide +kernel
theorem d_MO_digit_7 : decode b_MO_digit 7 = .ok (.iconst 1, 1) := by decide +kernel
theorem d_MO_digit_8 : decode b_MO_digit 8 = .ok (.invokevirtual 66, 3) := by decide +kernel
theorem d_MO_digit_11 : decode b_MO_digit 11 = .ok (.ifCond .ne 5, 3) := by decide +kernel
theorem d_MO_digit_14 : decode b_MO_digit 14 = .ok (.iconst 0, 1) := by decide +kernel
theorem d_MO_digit_15 : decode b_MO_digit 15 = .ok (.ireturn, 1) := by decide +kernel
theorem d_MO_digit_16 : decode b_MO_digit 16 = .ok (.iconst 0, 1) := by decide +kernel
theorem d_MO_digit_17 : decode b_MO_digit 17 = .ok (.istore_n 3, 1) := by decide +kernel
theorem d_MO_digit_18 : decode b_MO_digit 18 = .ok (.ldc2_w 49, 3) := by decide +kernel
theorem d_MO_digit_21 : decode b_MO_digit 21 = .ok (.lload_n 1, 1) := by decide +kernel
theorem d_MO_digit_22 : decode b_MO_digit 22 = .ok (.lmul, 1) := by decide +kernel
theorem d_MO_digit_23 : decode b_MO_digit 23 = .ok (.iload_n 3, 1) := by decide +kernel
theorem d_MO_digit_24 : decode b_MO_digit 24 = .ok (.i2l, 1) := by decide +kernel
theorem d_MO_digit_25 : decode b_MO_digit 25 = .ok (.ladd, 1) := by decide +kernel
theorem d_MO_digit_26 : decode b_MO_digit 26 = .ok (.iconst 0, 1) := by decide +kernel
theorem d_MO_digit_27 : decode b_MO_digit 27 = .ok (.invokestatic 81, 3) := by decide +kernel
theorem d_MO_digit_30 : decode b_MO_digit 30 = .ok (.bipush 10, 2) := by decide +kernel
theorem d_MO_digit_32 : decode b_MO_digit 32 = .ok (.irem, 1) := by decide +kernel
theorem d_MO_digit_33 : decode b_MO_digit 33 = .ok (.ifCond .eq 9, 3) := by decide +kernel
theorem d_MO_digit_36 : decode b_MO_digit 36 = .ok (.iinc 3 1, 3) := by decide +kernel
theorem d_MO_digit_39 : decode b_MO_digit 39 = .ok (.goto (-21), 3) := by decide +kernel
theorem d_MO_digit_42 : decode b_MO_digit 42 = .ok (.iload_n 3, 1) := by decide +kernel
theorem d_MO_digit_43 : decode b_MO_digit 43 = .ok (.ireturn, 1) := by decide +kernel
theorem d_MO_account_0 : decode b_MO_account 0 = .ok (.aload_n 0, 1) := by decide +kernel
theorem d_MO_account_1 : decode b_MO_account 1 = .ok (.iload_n 1, 1) := by decide +kernel
theorem d_MO_account_2 : decode b_MO_account 2 = .ok (.ifCond .lt 13, 3) := by decide +kernel
theorem d_MO_account_5 : decode b_MO_account 5 = .ok (.iload_n 1, 1) := by decide +kernel
theorem d_MO_account_6 : decode b_MO_account 6 = .ok (.bipush 6, 2) := by decide +kernel
theorem d_MO_account_8 : decode b_MO_account 8 = .ok (.if_icmp .ge 7, 3) := by decide +kernel
theorem d_MO_account_11 : decode b_MO_account 11 = .ok (.iconst 1, 1) := by decide +kernel
theorem d_MO_account_12 : decode b_MO_account 12 = .ok (.goto 4, 3) := by decide +kernel
theorem d_MO_account_15 : decode b_MO_account 15 = .ok (.iconst 0, 1) := by decide +kernel
theorem d_MO_account_16 : decode b_MO_account 16 = .ok (.aload_n 0, 1) := by decide +kernel
theorem d_MO_account_17 : decode b_MO_account 17 = .ok (.getfield 85, 3) := by decide +kernel
theorem d_MO_account_20 : decode b_MO_account 20 = .ok (.bipush 64, 2) := by decide +kernel
theorem d_MO_account_22 : decode b_MO_account 22 = .ok (.if_icmp .ge 7, 3) := by decide +kernel
theorem d_MO_account_25 : decode b_MO_account 25 = .ok (.iconst 1, 1) := by decide +kernel
theorem d_MO_account_26 : decode b_MO_account 26 = .ok (.goto 4, 3) := by decide +kernel
theorem d_MO_account_29 : decode b_MO_account 29 = .ok (.iconst 0, 1) := by decide +kernel
theorem d_MO_account_30 : decode b_MO_account 30 = .ok (.invokevirtual 66, 3) := by decide +kernel
theorem d_MO_account_33 : decode b_MO_account 33 = .ok (.ifCond .ne 5, 3) := by decide +kernel
theorem d_MO_account_36 : decode b_MO_account 36 = .ok (.iconst 0, 1) := by decide +kernel
theorem d_MO_account_37 : decode b_MO_account 37 = .ok (.ireturn, 1) := by decide +kernel
theorem d_MO_account_38 : decode b_MO_account 38 = .ok (.aload_n 0, 1) := by decide +kernel
theorem d_MO_account_39 : decode b_MO_account 39 = .ok (.getfield 19, 3) := by decide +kernel
theorem d_MO_account_42 : decode b_MO_account 42 = .ok (.aload_n 0, 1) := by decide +kernel
theorem d_MO_account_43 : decode b_MO_account 43 = .ok (.getfield 85, 3) := by decide +kernel
theorem d_MO_account_46 : decode b_MO_account 46 = .ok (.iload_n 1, 1) := by decide +kernel
theorem d_MO_account_47 : decode b_MO_account 47 = .ok (.iastore, 1) := by decide +kernel
theorem d_MO_account_48 : decode b_MO_account 48 = .ok (.aload_n 0, 1) := by decide +kernel
theorem d_MO_account_49 : decode b_MO_account 49 = .ok (.dup, 1) := by decide +kernel
theorem d_MO_account_50 : decode b_MO_account 50 = .ok (.getfield 85, 3) := by decide +kernel
theorem d_MO_account_53 : decode b_MO_account 53 = .ok (.iconst 1, 1) := by decide +kernel
theorem d_MO_account_54 : decode b_MO_account 54 = .ok (.iadd, 1) := by decide +kernel
theorem d_MO_account_55 : decode b_MO_account 55 = .ok (.putfield 85, 3) := by decide +kernel
theorem d_MO_account_58 : decode b_MO_account 58 = .ok (.aload_n 0, 1) := by decide +kernel
theorem d_MO_account_59 : decode b_MO_account 59 = .ok (.getfield 85, 3) := by decide +kernel
theorem d_MO_account_62 : decode b_MO_account 62 = .ok (.iconst 1, 1) := by decide +kernel
theorem d_MO_account_63 : decode b_MO_account 63 = .ok (.isub, 1) := by decide +kernel
theorem d_MO_account_64 : decode b_MO_account 64 = .ok (.ireturn, 1) := by decide +kernel
theorem d_MO_cardOf_0 : decode b_MO_cardOf 0 = .ok (.iconst (-1), 1) := by decide +kernel
theorem d_MO_cardOf_1 : decode b_MO_cardOf 1 = .ok (.istore_n 3, 1) := by decide +kernel
theorem d_MO_cardOf_2 : decode b_MO_cardOf 2 = .ok (.iconst 0, 1) := by decide +kernel
theorem d_MO_cardOf_3 : decode b_MO_cardOf 3 = .ok (.istore 4, 2) := by decide +kernel
theorem d_MO_cardOf_5 : decode b_MO_cardOf 5 = .ok (.iload 4, 2) := by decide +kernel
theorem d_MO_cardOf_7 : decode b_MO_cardOf 7 = .ok (.aload_n 0, 1) := by decide +kernel
theorem d_MO_cardOf_8 : decode b_MO_cardOf 8 = .ok (.getfield 88, 3) := by decide +kernel
theorem d_MO_cardOf_11 : decode b_MO_cardOf 11 = .ok (.if_icmp .ge 28, 3) := by decide +kernel
theorem d_MO_cardOf_14 : decode b_MO_cardOf 14 = .ok (.aload_n 0, 1) := by decide +kernel
theorem d_MO_cardOf_15 : decode b_MO_cardOf 15 = .ok (.getfield 28, 3) := by decide +kernel
theorem d_MO_cardOf_18 : decode b_MO_cardOf 18 = .ok (.iload 4, 2) := by decide +kernel
theorem d_MO_cardOf_20 : decode b_MO_cardOf 20 = .ok (.laload, 1) := by decide +kernel
theorem d_MO_cardOf_21 : decode b_MO_cardOf 21 = .ok (.lload_n 1, 1) := by decide +kernel
theorem d_MO_cardOf_22 : decode b_MO_cardOf 22 = .ok (.lcmp, 1) := by decide +kernel
theorem d_MO_cardOf_23 : decode b_MO_cardOf 23 = .ok (.ifCond .ne 8, 3) := by decide +kernel
theorem d_MO_cardOf_26 : decode b_MO_cardOf 26 = .ok (.iload 4, 2) := by decide +kernel
theorem d_MO_cardOf_28 : decode b_MO_cardOf 28 = .ok (.goto 4, 3) := by decide +kernel
theorem d_MO_cardOf_31 : decode b_MO_cardOf 31 = .ok (.iload_n 3, 1) := by decide +kernel
theorem d_MO_cardOf_32 : decode b_MO_cardOf 32 = .ok (.istore_n 3, 1) := by decide +kernel
theorem d_MO_cardOf_33 : decode b_MO_cardOf 33 = .ok (.iinc 4 1, 3) := by decide +kernel
theorem d_MO_cardOf_36 : decode b_MO_cardOf 36 = .ok (.goto (-31), 3) := by decide +kernel
theorem d_MO_cardOf_39 : decode b_MO_cardOf 39 = .ok (.iload_n 3, 1) := by decide +kernel
theorem d_MO_cardOf_40 : decode b_MO_cardOf 40 = .ok (.ireturn, 1) := by decide +kernel
theorem d_MO_card_0 : decode b_MO_card 0 = .ok (.aload_n 0, 1) := by decide +kernel
theorem d_MO_card_1 : decode b_MO_card 1 = .ok (.lload_n 1, 1) := by decide +kernel
theorem d_MO_card_2 : decode b_MO_card 2 = .ok (.bipush 18, 2) := by decide +kernel
theorem d_MO_card_4 : decode b_MO_card 4 = .ok (.invokestatic 74, 3) := by decide +kernel
theorem d_MO_card_7 : decode b_MO_card 7 = .ok (.ifCond .eq 28, 3) := by decide +kernel
theorem d_MO_card_10 : decode b_MO_card 10 = .ok (.lload_n 1, 1) := by decide +kernel
theorem d_MO_card_11 : decode b_MO_card 11 = .ok (.invokestatic 51, 3) := by decide +kernel
theorem d_MO_card_14 : decode b_MO_card 14 = .ok (.bipush 12, 2) := by decide +kernel
theorem d_MO_card_16 : decode b_MO_card 16 = .ok (.if_icmp .lt 19, 3) := by decide +kernel
theorem d_MO_card_19 : decode b_MO_card 19 = .ok (.iload_n 3, 1) := by decide +kernel
theorem d_MO_card_20 : decode b_MO_card 20 = .ok (.ifCond .lt 15, 3) := by decide +kernel
theorem d_MO_card_23 : decode b_MO_card 23 = .ok (.iload_n 3, 1) := by decide +kernel
theorem d_MO_card_24 : decode b_MO_card 24 = .ok (.aload_n 0, 1) := by decide +kernel
theorem d_MO_card_25 : decode b_MO_card 25 = .ok (.getfield 85, 3) := by decide +kernel
theorem d_MO_card_28 : decode b_MO_card 28 = .ok (.if_icmp .ge 7, 3) := by decide +kernel
theorem d_MO_card_31 : decode b_MO_card 31 = .ok (.iconst 1, 1) := by decide +kernel
theorem d_MO_card_32 : decode b_MO_card 32 = .ok (.goto 4, 3) := by decide +kernel
theorem d_MO_card_35 : decode b_MO_card 35 = .ok (.iconst 0, 1) := by decide +kernel
theorem d_MO_card_36 : decode b_MO_card 36 = .ok (.aload_n 0, 1) := by decide +kernel
theorem d_MO_card_37 : decode b_MO_card 37 = .ok (.getfield 88, 3) := by decide +kernel
theorem d_MO_card_40 : decode b_MO_card 40 = .ok (.bipush 100, 2) := by decide +kernel
theorem d_MO_card_42 : decode b_MO_card 42 = .ok (.if_icmp .ge 7, 3) := by decide +kernel
theorem d_MO_card_45 : decode b_MO_card 45 = .ok (.iconst 1, 1) := by decide +kernel
theorem d_MO_card_46 : decode b_MO_card 46 = .ok (.goto 4, 3) := by decide +kernel
theorem d_MO_card_49 : decode b_MO_card 49 = .ok (.iconst 0, 1) := by decide +kernel
theorem d_MO_card_50 : decode b_MO_card 50 = .ok (.invokevirtual 66, 3) := by decide +kernel
theorem d_MO_card_53 : decode b_MO_card 53 = .ok (.ifCond .ne 5, 3) := by decide +kernel
theorem d_MO_card_56 : decode b_MO_card 56 = .ok (.iconst 0, 1) := by decide +kernel
theorem d_MO_card_57 : decode b_MO_card 57 = .ok (.ireturn, 1) := by decide +kernel
theorem d_MO_card_58 : decode b_MO_card 58 = .ok (.lload_n 1, 1) := by decide +kernel
theorem d_MO_card_59 : decode b_MO_card 59 = .ok (.iconst 0, 1) := by decide +kernel
theorem d_MO_card_60 : decode b_MO_card 60 = .ok (.invokestatic 81, 3) := by decide +kernel
theorem d_MO_card_63 : decode b_MO_card 63 = .ok (.bipush 10, 2) := by decide +kernel
theorem d_MO_card_65 : decode b_MO_card 65 = .ok (.irem, 1) := by decide +kernel
theorem d_MO_card_66 : decode b_MO_card 66 = .ok (.ifCond .eq 6, 3) := by decide +kernel
theorem d_MO_card_69 : decode b_MO_card 69 = .ok (.bipush (-5), 2) := by decide +kernel
theorem d_MO_card_71 : decode b_MO_card 71 = .ok (.ireturn, 1) := by decide +kernel
theorem d_MO_card_72 : decode b_MO_card 72 = .ok (.aload_n 0, 1) := by decide +kernel
theorem d_MO_card_73 : decode b_MO_card 73 = .ok (.lload_n 1, 1) := by decide +kernel
theorem d_MO_card_74 : decode b_MO_card 74 = .ok (.invokevirtual 78, 3) := by decide +kernel
theorem d_MO_card_77 : decode b_MO_card 77 = .ok (.istore 4, 2) := by decide +kernel
theorem d_MO_card_79 : decode b_MO_card 79 = .ok (.iload 4, 2) := by decide +kernel
theorem d_MO_card_81 : decode b_MO_card 81 = .ok (.ifCond .ge 6, 3) := by decide +kernel
theorem d_MO_card_84 : decode b_MO_card 84 = .ok (.bipush (-6), 2) := by decide +kernel
theorem d_MO_card_86 : decode b_MO_card 86 = .ok (.ireturn, 1) := by decide +kernel
theorem d_MO_card_87 : decode b_MO_card 87 = .ok (.iload 4, 2) := by decide +kernel
theorem d_MO_card_89 : decode b_MO_card 89 = .ok (.aload_n 0, 1) := by decide +kernel
theorem d_MO_card_90 : decode b_MO_card 90 = .ok (.getfield 19, 3) := by decide +kernel
theorem d_MO_card_93 : decode b_MO_card 93 = .ok (.iload_n 3, 1) := by decide +kernel
theorem d_MO_card_94 : decode b_MO_card 94 = .ok (.iaload, 1) := by decide +kernel
theorem d_MO_card_95 : decode b_MO_card 95 = .ok (.if_icmp .eq 6, 3) := by decide +kernel
theorem d_MO_card_98 : decode b_MO_card 98 = .ok (.bipush (-7), 2) := by decide +kernel
theorem d_MO_card_100 : decode b_MO_card 100 = .ok (.ireturn, 1) := by decide +kernel
theorem d_MO_card_101 : decode b_MO_card 101 = .ok (.aload_n 0, 1) := by decide +kernel
theorem d_MO_card_102 : decode b_MO_card 102 = .ok (.lload_n 1, 1) := by decide +kernel
theorem d_MO_card_103 : decode b_MO_card 103 = .ok (.invokevirtual 91, 3) := by decide +kernel
theorem d_MO_card_106 : decode b_MO_card 106 = .ok (.ifCond .lt 6, 3) := by decide +kernel
theorem d_MO_card_109 : decode b_MO_card 109 = .ok (.bipush (-8), 2) := by decide +kernel
theorem d_MO_card_111 : decode b_MO_card 111 = .ok (.ireturn, 1) := by decide +kernel
theorem d_MO_card_112 : decode b_MO_card 112 = .ok (.aload_n 0, 1) := by decide +kernel
theorem d_MO_card_113 : decode b_MO_card 113 = .ok (.getfield 28, 3) := by decide +kernel
theorem d_MO_card_116 : decode b_MO_card 116 = .ok (.aload_n 0, 1) := by decide +kernel
theorem d_MO_card_117 : decode b_MO_card 117 = .ok (.getfield 88, 3) := by decide +kernel
theorem d_MO_card_120 : decode b_MO_card 120 = .ok (.lload_n 1, 1) := by decide +kernel
theorem d_MO_card_121 : decode b_MO_card 121 = .ok (.lastore, 1) := by decide +kernel
theorem d_MO_card_122 : decode b_MO_card 122 = .ok (.aload_n 0, 1) := by decide +kernel
theorem d_MO_card_123 : decode b_MO_card 123 = .ok (.getfield 32, 3) := by decide +kernel
theorem d_MO_card_126 : decode b_MO_card 126 = .ok (.aload_n 0, 1) := by decide +kernel
theorem d_MO_card_127 : decode b_MO_card 127 = .ok (.getfield 88, 3) := by decide +kernel
theorem d_MO_card_130 : decode b_MO_card 130 = .ok (.iload_n 3, 1) := by decide +kernel
theorem d_MO_card_131 : decode b_MO_card 131 = .ok (.iastore, 1) := by decide +kernel
theorem d_MO_card_132 : decode b_MO_card 132 = .ok (.aload_n 0, 1) := by decide +kernel
theorem d_MO_card_133 : decode b_MO_card 133 = .ok (.dup, 1) := by decide +kernel
theorem d_MO_card_134 : decode b_MO_card 134 = .ok (.getfield 88, 3) := by decide +kernel
theorem d_MO_card_137 : decode b_MO_card 137 = .ok (.iconst 1, 1) := by decide +kernel
theorem d_MO_card_138 : decode b_MO_card 138 = .ok (.iadd, 1) := by decide +kernel
theorem d_MO_card_139 : decode b_MO_card 139 = .ok (.putfield 88, 3) := by decide +kernel
theorem d_MO_card_142 : decode b_MO_card 142 = .ok (.aload_n 0, 1) := by decide +kernel
theorem d_MO_card_143 : decode b_MO_card 143 = .ok (.getfield 88, 3) := by decide +kernel
theorem d_MO_card_146 : decode b_MO_card 146 = .ok (.iconst 1, 1) := by decide +kernel
theorem d_MO_card_147 : decode b_MO_card 147 = .ok (.isub, 1) := by decide +kernel
theorem d_MO_card_148 : decode b_MO_card 148 = .ok (.ireturn, 1) := by decide +kernel
theorem d_MO_block_0 : decode b_MO_block 0 = .ok (.aload_n 0, 1) := by decide +kernel
theorem d_MO_block_1 : decode b_MO_block 1 = .ok (.iload_n 1, 1) := by decide +kernel
theorem d_MO_block_2 : decode b_MO_block 2 = .ok (.ifCond .lt 15, 3) := by decide +kernel
theorem d_MO_block_5 : decode b_MO_block 5 = .ok (.iload_n 1, 1) := by decide +kernel
theorem d_MO_block_6 : decode b_MO_block 6 = .ok (.aload_n 0, 1) := by decide +kernel
theorem d_MO_block_7 : decode b_MO_block 7 = .ok (.getfield 88, 3) := by decide +kernel
theorem d_MO_block_10 : decode b_MO_block 10 = .ok (.if_icmp .ge 7, 3) := by decide +kernel
theorem d_MO_block_13 : decode b_MO_block 13 = .ok (.iconst 1, 1) := by decide +kernel
theorem d_MO_block_14 : decode b_MO_block 14 = .ok (.goto 4, 3) := by decide +kernel
theorem d_MO_block_17 : decode b_MO_block 17 = .ok (.iconst 0, 1) := by decide +kernel
theorem d_MO_block_18 : decode b_MO_block 18 = .ok (.iconst 1, 1) := by decide +kernel
theorem d_MO_block_19 : decode b_MO_block 19 = .ok (.invokevirtual 66, 3) := by decide +kernel
theorem d_MO_block_22 : decode b_MO_block 22 = .ok (.ifCond .ne 5, 3) := by decide +kernel
theorem d_MO_block_25 : decode b_MO_block 25 = .ok (.iconst 0, 1) := by decide +kernel
theorem d_MO_block_26 : decode b_MO_block 26 = .ok (.ireturn, 1) := by decide +kernel
theorem d_MO_block_27 : decode b_MO_block 27 = .ok (.aload_n 0, 1) := by decide +kernel
theorem d_MO_block_28 : decode b_MO_block 28 = .ok (.getfield 35, 3) := by decide +kernel
theorem d_MO_block_31 : decode b_MO_block 31 = .ok (.iload_n 1, 1) := by decide +kernel
theorem d_MO_block_32 : decode b_MO_block 32 = .ok (.baload, 1) := by decide +kernel
theorem d_MO_block_33 : decode b_MO_block 33 = .ok (.istore_n 3, 1) := by decide +kernel
theorem d_MO_block_34 : decode b_MO_block 34 = .ok (.aload_n 0, 1) := by decide +kernel
theorem d_MO_block_35 : decode b_MO_block 35 = .ok (.getfield 35, 3) := by decide +kernel
theorem d_MO_block_38 : decode b_MO_block 38 = .ok (.iload_n 1, 1) := by decide +kernel
theorem d_MO_block_39 : decode b_MO_block 39 = .ok (.iload_n 2, 1) := by decide +kernel
theorem d_MO_block_40 : decode b_MO_block 40 = .ok (.bastore, 1) := by decide +kernel
theorem d_MO_block_41 : decode b_MO_block 41 = .ok (.iload_n 3, 1) := by decide +kernel
theorem d_MO_block_42 : decode b_MO_block 42 = .ok (.ireturn, 1) := by decide +kernel
theorem d_MO_since_0 : decode b_MO_since 0 = .ok (.iconst 0, 1) := by decide +kernel
theorem d_MO_since_1 : decode b_MO_since 1 = .ok (.istore_n 3, 1) := by decide +kernel
theorem d_MO_since_2 : decode b_MO_since 2 = .ok (.iconst 0, 1) := by decide +kernel
theorem d_MO_since_3 : decode b_MO_since 3 = .ok (.istore 4, 2) := by decide +kernel
theorem d_MO_since_5 : decode b_MO_since 5 = .ok (.iload 4, 2) := by decide +kernel
theorem d_MO_since_7 : decode b_MO_since 7 = .ok (.aload_n 0, 1) := by decide +kernel
theorem d_MO_since_8 : decode b_MO_since 8 = .ok (.getfield 22, 3) := by decide +kernel
theorem d_MO_since_11 : decode b_MO_since 11 = .ok (.iload_n 1, 1) := by decide +kernel
theorem d_MO_since_12 : decode b_MO_since 12 = .ok (.iaload, 1) := by decide +kernel
theorem d_MO_since_13 : decode b_MO_since 13 = .ok (.if_icmp .ge 38, 3) := by decide +kernel
theorem d_MO_since_16 : decode b_MO_since 16 = .ok (.iload_n 3, 1) := by decide +kernel
theorem d_MO_since_17 : decode b_MO_since 17 = .ok (.aload_n 0, 1) := by decide +kernel
theorem d_MO_since_18 : decode b_MO_since 18 = .ok (.getfield 25, 3) := by decide +kernel
theorem d_MO_since_21 : decode b_MO_since 21 = .ok (.bipush 8, 2) := by decide +kernel
theorem d_MO_since_23 : decode b_MO_since 23 = .ok (.iload_n 1, 1) := by decide +kernel
theorem d_MO_since_24 : decode b_MO_since 24 = .ok (.imul, 1) := by decide +kernel
theorem d_MO_since_25 : decode b_MO_since 25 = .ok (.iload 4, 2) := by decide +kernel
theorem d_MO_since_27 : decode b_MO_since 27 = .ok (.iadd, 1) := by decide +kernel
theorem d_MO_since_28 : decode b_MO_since 28 = .ok (.iaload, 1) := by decide +kernel
theorem d_MO_since_29 : decode b_MO_since 29 = .ok (.iload_n 2, 1) := by decide +kernel
theorem d_MO_since_30 : decode b_MO_since 30 = .ok (.aload_n 0, 1) := by decide +kernel
theorem d_MO_since_31 : decode b_MO_since 31 = .ok (.getfield 39, 3) := by decide +kernel
theorem d_MO_since_34 : decode b_MO_since 34 = .ok (.isub, 1) := by decide +kernel
theorem d_MO_since_35 : decode b_MO_since 35 = .ok (.if_icmp .lt 7, 3) := by decide +kernel
theorem d_MO_since_38 : decode b_MO_since 38 = .ok (.iconst 1, 1) := by decide +kernel
theorem d_MO_since_39 : decode b_MO_since 39 = .ok (.goto 4, 3) := by decide +kernel
theorem d_MO_since_42 : decode b_MO_since 42 = .ok (.iconst 0, 1) := by decide +kernel
theorem d_MO_since_43 : decode b_MO_since 43 = .ok (.iadd, 1) := by decide +kernel
theorem d_MO_since_44 : decode b_MO_since 44 = .ok (.istore_n 3, 1) := by decide +kernel
theorem d_MO_since_45 : decode b_MO_since 45 = .ok (.iinc 4 1, 3) := by decide +kernel
theorem d_MO_since_48 : decode b_MO_since 48 = .ok (.goto (-43), 3) := by decide +kernel
theorem d_MO_since_51 : decode b_MO_since 51 = .ok (.iload_n 3, 1) := by decide +kernel
theorem d_MO_since_52 : decode b_MO_since 52 = .ok (.ireturn, 1) := by decide +kernel
theorem d_MO_use_0 : decode b_MO_use 0 = .ok (.aload_n 0, 1) := by decide +kernel
theorem d_MO_use_1 : decode b_MO_use 1 = .ok (.lload_n 1, 1) := by decide +kernel
theorem d_MO_use_2 : decode b_MO_use 2 = .ok (.bipush 18, 2) := by decide +kernel
theorem d_MO_use_4 : decode b_MO_use 4 = .ok (.invokestatic 74, 3) := by decide +kernel
theorem d_MO_use_7 : decode b_MO_use 7 = .ok (.ifCond .eq 15, 3) := by decide +kernel
theorem d_MO_use_10 : decode b_MO_use 10 = .ok (.iload_n 3, 1) := by decide +kernel
theorem d_MO_use_11 : decode b_MO_use 11 = .ok (.aload_n 0, 1) := by decide +kernel
theorem d_MO_use_12 : decode b_MO_use 12 = .ok (.getfield 94, 3) := by decide +kernel
theorem d_MO_use_15 : decode b_MO_use 15 = .ok (.if_icmp .lt 7, 3) := by decide +kernel
theorem d_MO_use_18 : decode b_MO_use 18 = .ok (.iconst 1, 1) := by decide +kernel
theorem d_MO_use_19 : decode b_MO_use 19 = .ok (.goto 4, 3) := by decide +kernel
theorem d_MO_use_22 : decode b_MO_use 22 = .ok (.iconst 0, 1) := by decide +kernel
theorem d_MO_use_23 : decode b_MO_use 23 = .ok (.iconst 1, 1) := by decide +kernel
theorem d_MO_use_24 : decode b_MO_use 24 = .ok (.invokevirtual 66, 3) := by decide +kernel
theorem d_MO_use_27 : decode b_MO_use 27 = .ok (.ifCond .ne 5, 3) := by decide +kernel
theorem d_MO_use_30 : decode b_MO_use 30 = .ok (.iconst 0, 1) := by decide +kernel
theorem d_MO_use_31 : decode b_MO_use 31 = .ok (.ireturn, 1) := by decide +kernel
theorem d_MO_use_32 : decode b_MO_use 32 = .ok (.aload_n 0, 1) := by decide +kernel
theorem d_MO_use_33 : decode b_MO_use 33 = .ok (.iload_n 3, 1) := by decide +kernel
theorem d_MO_use_34 : decode b_MO_use 34 = .ok (.putfield 94, 3) := by decide +kernel
theorem d_MO_use_37 : decode b_MO_use 37 = .ok (.aload_n 0, 1) := by decide +kernel
theorem d_MO_use_38 : decode b_MO_use 38 = .ok (.lload_n 1, 1) := by decide +kernel
theorem d_MO_use_39 : decode b_MO_use 39 = .ok (.invokevirtual 78, 3) := by decide +kernel
theorem d_MO_use_42 : decode b_MO_use 42 = .ok (.ifCond .ge 6, 3) := by decide +kernel
theorem d_MO_use_45 : decode b_MO_use 45 = .ok (.bipush 92, 2) := by decide +kernel
theorem d_MO_use_47 : decode b_MO_use 47 = .ok (.ireturn, 1) := by decide +kernel
theorem d_MO_use_48 : decode b_MO_use 48 = .ok (.aload_n 0, 1) := by decide +kernel
theorem d_MO_use_49 : decode b_MO_use 49 = .ok (.lload_n 1, 1) := by decide +kernel
theorem d_MO_use_50 : decode b_MO_use 50 = .ok (.invokevirtual 91, 3) := by decide +kernel
theorem d_MO_use_53 : decode b_MO_use 53 = .ok (.istore 4, 2) := by decide +kernel
theorem d_MO_use_55 : decode b_MO_use 55 = .ok (.iload 4, 2) := by decide +kernel
theorem d_MO_use_57 : decode b_MO_use 57 = .ok (.ifCond .ge 6, 3) := by decide +kernel
theorem d_MO_use_60 : decode b_MO_use 60 = .ok (.bipush 14, 2) := by decide +kernel
theorem d_MO_use_62 : decode b_MO_use 62 = .ok (.ireturn, 1) := by decide +kernel
theorem d_MO_use_63 : decode b_MO_use 63 = .ok (.aload_n 0, 1) := by decide +kernel
theorem d_MO_use_64 : decode b_MO_use 64 = .ok (.getfield 35, 3) := by decide +kernel
theorem d_MO_use_67 : decode b_MO_use 67 = .ok (.iload 4, 2) := by decide +kernel
theorem d_MO_use_69 : decode b_MO_use 69 = .ok (.baload, 1) := by decide +kernel
theorem d_MO_use_70 : decode b_MO_use 70 = .ok (.ifCond .eq 6, 3) := by decide +kernel
theorem d_MO_use_73 : decode b_MO_use 73 = .ok (.bipush 62, 2) := by decide +kernel
theorem d_MO_use_75 : decode b_MO_use 75 = .ok (.ireturn, 1) := by decide +kernel
theorem d_MO_use_76 : decode b_MO_use 76 = .ok (.aload_n 0, 1) := by decide +kernel
theorem d_MO_use_77 : decode b_MO_use 77 = .ok (.getfield 32, 3) := by decide +kernel
theorem d_MO_use_80 : decode b_MO_use 80 = .ok (.iload 4, 2) := by decide +kernel
theorem d_MO_use_82 : decode b_MO_use 82 = .ok (.iaload, 1) := by decide +kernel
theorem d_MO_use_83 : decode b_MO_use 83 = .ok (.istore 5, 2) := by decide +kernel
theorem d_MO_use_85 : decode b_MO_use 85 = .ok (.aload_n 0, 1) := by decide +kernel
theorem d_MO_use_86 : decode b_MO_use 86 = .ok (.iload 5, 2) := by decide +kernel
theorem d_MO_use_88 : decode b_MO_use 88 = .ok (.iload_n 3, 1) := by decide +kernel
theorem d_MO_use_89 : decode b_MO_use 89 = .ok (.invokevirtual 97, 3) := by decide +kernel
theorem d_MO_use_92 : decode b_MO_use 92 = .ok (.aload_n 0, 1) := by decide +kernel
theorem d_MO_use_93 : decode b_MO_use 93 = .ok (.getfield 43, 3) := by decide +kernel
theorem d_MO_use_96 : decode b_MO_use 96 = .ok (.if_icmp .lt 6, 3) := by decide +kernel
theorem d_MO_use_99 : decode b_MO_use 99 = .ok (.bipush 65, 2) := by decide +kernel
theorem d_MO_use_101 : decode b_MO_use 101 = .ok (.ireturn, 1) := by decide +kernel
theorem d_MO_use_102 : decode b_MO_use 102 = .ok (.aload_n 0, 1) := by decide +kernel
theorem d_MO_use_103 : decode b_MO_use 103 = .ok (.getfield 22, 3) := by decide +kernel
theorem d_MO_use_106 : decode b_MO_use 106 = .ok (.iload 5, 2) := by decide +kernel
theorem d_MO_use_108 : decode b_MO_use 108 = .ok (.iaload, 1) := by decide +kernel
theorem d_MO_use_109 : decode b_MO_use 109 = .ok (.bipush 8, 2) := by decide +kernel
theorem d_MO_use_111 : decode b_MO_use 111 = .ok (.if_icmp .ne 58, 3) := by decide +kernel
theorem d_MO_use_114 : decode b_MO_use 114 = .ok (.iconst 1, 1) := by decide +kernel
theorem d_MO_use_115 : decode b_MO_use 115 = .ok (.istore 6, 2) := by decide +kernel
theorem d_MO_use_117 : decode b_MO_use 117 = .ok (.iload 6, 2) := by decide +kernel
theorem d_MO_use_119 : decode b_MO_use 119 = .ok (.bipush 8, 2) := by decide +kernel
theorem d_MO_use_121 : decode b_MO_use 121 = .ok (.if_icmp .ge 37, 3) := by decide +kernel
theorem d_MO_use_124 : decode b_MO_use 124 = .ok (.aload_n 0, 1) := by decide +kernel
theorem d_MO_use_125 : decode b_MO_use 125 = .ok (.getfield 25, 3) := by decide +kernel
theorem d_MO_use_128 : decode b_MO_use 128 = .ok (.bipush 8, 2) := by decide +kernel
theorem d_MO_use_130 : decode b_MO_use 130 = .ok (.iload 5, 2) := by decide +kernel
theorem d_MO_use_132 : decode b_MO_use 132 = .ok (.imul, 1) := by decide +kernel
theorem d_MO_use_133 : decode b_MO_use 133 = .ok (.iload 6, 2) := by decide +kernel
theorem d_MO_use_135 : decode b_MO_use 135 = .ok (.iadd, 1) := by decide +kernel
theorem d_MO_use_136 : decode b_MO_use 136 = .ok (.iconst 1, 1) := by decide +kernel
theorem d_MO_use_137 : decode b_MO_use 137 = .ok (.isub, 1) := by decide +kernel
theorem d_MO_use_138 : decode b_MO_use 138 = .ok (.aload_n 0, 1) := by decide +kernel
theorem d_MO_use_139 : decode b_MO_use 139 = .ok (.getfield 25, 3) := by decide +kernel
theorem d_MO_use_142 : decode b_MO_use 142 = .ok (.bipush 8, 2) := by decide +kernel
theorem d_MO_use_144 : decode b_MO_use 144 = .ok (.iload 5, 2) := by decide +kernel
theorem d_MO_use_146 : decode b_MO_use 146 = .ok (.imul, 1) := by decide +kernel
theorem d_MO_use_147 : decode b_MO_use 147 = .ok (.iload 6, 2) := by decide +kernel
theorem d_MO_use_149 : decode b_MO_use 149 = .ok (.iadd, 1) := by decide +kernel
theorem d_MO_use_150 : decode b_MO_use 150 = .ok (.iaload, 1) := by decide +kernel
theorem d_MO_use_151 : decode b_MO_use 151 = .ok (.iastore, 1) := by decide +kernel
theorem d_MO_use_152 : decode b_MO_use 152 = .ok (.iinc 6 1, 3) := by decide +kernel
theorem d_MO_use_155 : decode b_MO_use 155 = .ok (.goto (-38), 3) := by decide +kernel
theorem d_MO_use_158 : decode b_MO_use 158 = .ok (.aload_n 0, 1) := by decide +kernel
theorem d_MO_use_159 : decode b_MO_use 159 = .ok (.getfield 22, 3) := by decide +kernel
theorem d_MO_use_162 : decode b_MO_use 162 = .ok (.iload 5, 2) := by decide +kernel
theorem d_MO_use_164 : decode b_MO_use 164 = .ok (.dup2, 1) := by decide +kernel
theorem d_MO_use_165 : decode b_MO_use 165 = .ok (.iaload, 1) := by decide +kernel
theorem d_MO_use_166 : decode b_MO_use 166 = .ok (.iconst 1, 1) := by decide +kernel
theorem d_MO_use_167 : decode b_MO_use 167 = .ok (.isub, 1) := by decide +kernel
theorem d_MO_use_168 : decode b_MO_use 168 = .ok (.iastore, 1) := by decide +kernel
theorem d_MO_use_169 : decode b_MO_use 169 = .ok (.aload_n 0, 1) := by decide +kernel
theorem d_MO_use_170 : decode b_MO_use 170 = .ok (.getfield 25, 3) := by decide +kernel
theorem d_MO_use_173 : decode b_MO_use 173 = .ok (.bipush 8, 2) := by decide +kernel
theorem d_MO_use_175 : decode b_MO_use 175 = .ok (.iload 5, 2) := by decide +kernel
theorem d_MO_use_177 : decode b_MO_use 177 = .ok (.imul, 1) := by decide +kernel
theorem d_MO_use_178 : decode b_MO_use 178 = .ok (.aload_n 0, 1) := by decide +kernel
theorem d_MO_use_179 : decode b_MO_use 179 = .ok (.getfield 22, 3) := by decide +kernel
theorem d_MO_use_182 : decode b_MO_use 182 = .ok (.iload 5, 2) := by decide +kernel
theorem d_MO_use_184 : decode b_MO_use 184 = .ok (.iaload, 1) := by decide +kernel
theorem d_MO_use_185 : decode b_MO_use 185 = .ok (.iadd, 1) := by decide +kernel
theorem d_MO_use_186 : decode b_MO_use 186 = .ok (.iload_n 3, 1) := by decide +kernel
theorem d_MO_use_187 : decode b_MO_use 187 = .ok (.iastore, 1) := by decide +kernel
theorem d_MO_use_188 : decode b_MO_use 188 = .ok (.aload_n 0, 1) := by decide +kernel
theorem d_MO_use_189 : decode b_MO_use 189 = .ok (.getfield 22, 3) := by decide +kernel
theorem d_MO_use_192 : decode b_MO_use 192 = .ok (.iload 5, 2) := by decide +kernel
theorem d_MO_use_194 : decode b_MO_use 194 = .ok (.dup2, 1) := by decide +kernel
theorem d_MO_use_195 : decode b_MO_use 195 = .ok (.iaload, 1) := by decide +kernel
theorem d_MO_use_196 : decode b_MO_use 196 = .ok (.iconst 1, 1) := by decide +kernel
theorem d_MO_use_197 : decode b_MO_use 197 = .ok (.iadd, 1) := by decide +kernel
theorem d_MO_use_198 : decode b_MO_use 198 = .ok (.iastore, 1) := by decide +kernel
theorem d_MO_use_199 : decode b_MO_use 199 = .ok (.iconst 0, 1) := by decide +kernel
theorem d_MO_use_200 : decode b_MO_use 200 = .ok (.ireturn, 1) := by decide +kernel
theorem d_MO_used_0 : decode b_MO_used 0 = .ok (.aload_n 0, 1) := by decide +kernel
theorem d_MO_used_1 : decode b_MO_used 1 = .ok (.iload_n 1, 1) := by decide +kernel
theorem d_MO_used_2 : decode b_MO_used 2 = .ok (.ifCond .lt 23, 3) := by decide +kernel
theorem d_MO_used_5 : decode b_MO_used 5 = .ok (.iload_n 1, 1) := by decide +kernel
theorem d_MO_used_6 : decode b_MO_used 6 = .ok (.aload_n 0, 1) := by decide +kernel
theorem d_MO_used_7 : decode b_MO_used 7 = .ok (.getfield 85, 3) := by decide +kernel
theorem d_MO_used_10 : decode b_MO_used 10 = .ok (.if_icmp .ge 15, 3) := by decide +kernel
theorem d_MO_used_13 : decode b_MO_used 13 = .ok (.iload_n 2, 1) := by decide +kernel
theorem d_MO_used_14 : decode b_MO_used 14 = .ok (.aload_n 0, 1) := by decide +kernel
theorem d_MO_used_15 : decode b_MO_used 15 = .ok (.getfield 94, 3) := by decide +kernel
theorem d_MO_used_18 : decode b_MO_used 18 = .ok (.if_icmp .lt 7, 3) := by decide +kernel
theorem d_MO_used_21 : decode b_MO_used 21 = .ok (.iconst 1, 1) := by decide +kernel
theorem d_MO_used_22 : decode b_MO_used 22 = .ok (.goto 4, 3) := by decide +kernel
theorem d_MO_used_25 : decode b_MO_used 25 = .ok (.iconst 0, 1) := by decide +kernel
theorem d_MO_used_26 : decode b_MO_used 26 = .ok (.iconst 1, 1) := by decide +kernel
theorem d_MO_used_27 : decode b_MO_used 27 = .ok (.invokevirtual 66, 3) := by decide +kernel
theorem d_MO_used_30 : decode b_MO_used 30 = .ok (.ifCond .eq 12, 3) := by decide +kernel
theorem d_MO_used_33 : decode b_MO_used 33 = .ok (.aload_n 0, 1) := by decide +kernel
theorem d_MO_used_34 : decode b_MO_used 34 = .ok (.iload_n 1, 1) := by decide +kernel
theorem d_MO_used_35 : decode b_MO_used 35 = .ok (.iload_n 2, 1) := by decide +kernel
theorem d_MO_used_36 : decode b_MO_used 36 = .ok (.invokevirtual 97, 3) := by decide +kernel
theorem d_MO_used_39 : decode b_MO_used 39 = .ok (.goto 4, 3) := by decide +kernel
theorem d_MO_used_42 : decode b_MO_used 42 = .ok (.iconst 0, 1) := by decide +kernel
theorem d_MO_used_43 : decode b_MO_used 43 = .ok (.ireturn, 1) := by decide +kernel
theorem d_MO_told_0 : decode b_MO_told 0 = .ok (.aload_n 0, 1) := by decide +kernel
theorem d_MO_told_1 : decode b_MO_told 1 = .ok (.iload_n 1, 1) := by decide +kernel
theorem d_MO_told_2 : decode b_MO_told 2 = .ok (.ifCond .lt 24, 3) := by decide +kernel
theorem d_MO_told_5 : decode b_MO_told 5 = .ok (.iload_n 1, 1) := by decide +kernel
theorem d_MO_told_6 : decode b_MO_told 6 = .ok (.aload_n 0, 1) := by decide +kernel
theorem d_MO_told_7 : decode b_MO_told 7 = .ok (.getfield 88, 3) := by decide +kernel
theorem d_MO_told_10 : decode b_MO_told 10 = .ok (.if_icmp .ge 16, 3) := by decide +kernel
theorem d_MO_told_13 : decode b_MO_told 13 = .ok (.iload_n 2, 1) := by decide +kernel
theorem d_MO_told_14 : decode b_MO_told 14 = .ok (.ifCond .lt 12, 3) := by decide +kernel
theorem d_MO_told_17 : decode b_MO_told 17 = .ok (.iload_n 2, 1) := by decide +kernel
theorem d_MO_told_18 : decode b_MO_told 18 = .ok (.iconst 3, 1) := by decide +kernel
theorem d_MO_told_19 : decode b_MO_told 19 = .ok (.if_icmp .gt 7, 3) := by decide +kernel
theorem d_MO_told_22 : decode b_MO_told 22 = .ok (.iconst 1, 1) := by decide +kernel
theorem d_MO_told_23 : decode b_MO_told 23 = .ok (.goto 4, 3) := by decide +kernel
theorem d_MO_told_26 : decode b_MO_told 26 = .ok (.iconst 0, 1) := by decide +kernel
theorem d_MO_told_27 : decode b_MO_told 27 = .ok (.iconst 1, 1) := by decide +kernel
theorem d_MO_told_28 : decode b_MO_told 28 = .ok (.invokevirtual 66, 3) := by decide +kernel
theorem d_MO_told_31 : decode b_MO_told 31 = .ok (.ifCond .ne 5, 3) := by decide +kernel
theorem d_MO_told_34 : decode b_MO_told 34 = .ok (.lconst 0, 1) := by decide +kernel
theorem d_MO_told_35 : decode b_MO_told 35 = .ok (.lreturn, 1) := by decide +kernel
theorem d_MO_told_36 : decode b_MO_told 36 = .ok (.iload_n 2, 1) := by decide +kernel
theorem d_MO_told_37 : decode b_MO_told 37 = .ok (.ifCond .ne 13, 3) := by decide +kernel
theorem d_MO_told_40 : decode b_MO_told 40 = .ok (.aload_n 0, 1) := by decide +kernel
theorem d_MO_told_41 : decode b_MO_told 41 = .ok (.getfield 32, 3) := by decide +kernel
theorem d_MO_told_44 : decode b_MO_told 44 = .ok (.iload_n 1, 1) := by decide +kernel
theorem d_MO_told_45 : decode b_MO_told 45 = .ok (.iaload, 1) := by decide +kernel
theorem d_MO_told_46 : decode b_MO_told 46 = .ok (.i2l, 1) := by decide +kernel
theorem d_MO_told_47 : decode b_MO_told 47 = .ok (.goto 54, 3) := by decide +kernel
theorem d_MO_told_50 : decode b_MO_told 50 = .ok (.iload_n 2, 1) := by decide +kernel
theorem d_MO_told_51 : decode b_MO_told 51 = .ok (.iconst 1, 1) := by decide +kernel
theorem d_MO_told_52 : decode b_MO_told 52 = .ok (.if_icmp .ne 16, 3) := by decide +kernel
theorem d_MO_told_55 : decode b_MO_told 55 = .ok (.aload_n 0, 1) := by decide +kernel
theorem d_MO_told_56 : decode b_MO_told 56 = .ok (.getfield 28, 3) := by decide +kernel
theorem d_MO_told_59 : decode b_MO_told 59 = .ok (.iload_n 1, 1) := by decide +kernel
theorem d_MO_told_60 : decode b_MO_told 60 = .ok (.laload, 1) := by decide +kernel
theorem d_MO_told_61 : decode b_MO_told 61 = .ok (.invokestatic 51, 3) := by decide +kernel
theorem d_MO_told_64 : decode b_MO_told 64 = .ok (.i2l, 1) := by decide +kernel
theorem d_MO_told_65 : decode b_MO_told 65 = .ok (.goto 36, 3) := by decide +kernel
theorem d_MO_told_68 : decode b_MO_told 68 = .ok (.iload_n 2, 1) := by decide +kernel
theorem d_MO_told_69 : decode b_MO_told 69 = .ok (.iconst 2, 1) := by decide +kernel
theorem d_MO_told_70 : decode b_MO_told 70 = .ok (.if_icmp .ne 20, 3) := by decide +kernel
theorem d_MO_told_73 : decode b_MO_told 73 = .ok (.aload_n 0, 1) := by decide +kernel
theorem d_MO_told_74 : decode b_MO_told 74 = .ok (.getfield 35, 3) := by decide +kernel
theorem d_MO_told_77 : decode b_MO_told 77 = .ok (.iload_n 1, 1) := by decide +kernel
theorem d_MO_told_78 : decode b_MO_told 78 = .ok (.baload, 1) := by decide +kernel
theorem d_MO_told_79 : decode b_MO_told 79 = .ok (.ifCond .eq 7, 3) := by decide +kernel
theorem d_MO_told_82 : decode b_MO_told 82 = .ok (.lconst 1, 1) := by decide +kernel
theorem d_MO_told_83 : decode b_MO_told 83 = .ok (.goto 18, 3) := by decide +kernel
theorem d_MO_told_86 : decode b_MO_told 86 = .ok (.lconst 0, 1) := by decide +kernel
theorem d_MO_told_87 : decode b_MO_told 87 = .ok (.goto 14, 3) := by decide +kernel
theorem d_MO_told_90 : decode b_MO_told 90 = .ok (.aload_n 0, 1) := by decide +kernel
theorem d_MO_told_91 : decode b_MO_told 91 = .ok (.aload_n 0, 1) := by decide +kernel
theorem d_MO_told_92 : decode b_MO_told 92 = .ok (.getfield 28, 3) := by decide +kernel
theorem d_MO_told_95 : decode b_MO_told 95 = .ok (.iload_n 1, 1) := by decide +kernel
theorem d_MO_told_96 : decode b_MO_told 96 = .ok (.laload, 1) := by decide +kernel
theorem d_MO_told_97 : decode b_MO_told 97 = .ok (.invokevirtual 78, 3) := by decide +kernel
theorem d_MO_told_100 : decode b_MO_told 100 = .ok (.i2l, 1) := by decide +kernel
theorem d_MO_told_101 : decode b_MO_told 101 = .ok (.lreturn, 1) := by decide +kernel
end
section
theorem d_LW_cell_0 : decode b_LW_cell 0 = .ok (.iload_n 1, 1) := by decide +kernel
theorem d_LW_cell_1 : decode b_LW_cell 1 = .ok (.aload_n 0, 1) := by decide +kernel
theorem d_LW_cell_2 : decode b_LW_cell 2 = .ok (.arraylength, 1) := by decide +kernel
theorem d_LW_cell_3 : decode b_LW_cell 3 = .ok (.if_icmp .ge 9, 3) := by decide +kernel
theorem d_LW_cell_6 : decode b_LW_cell 6 = .ok (.aload_n 0, 1) := by decide +kernel
theorem d_LW_cell_7 : decode b_LW_cell 7 = .ok (.iload_n 1, 1) := by decide +kernel
theorem d_LW_cell_8 : decode b_LW_cell 8 = .ok (.iaload, 1) := by decide +kernel
theorem d_LW_cell_9 : decode b_LW_cell 9 = .ok (.goto 4, 3) := by decide +kernel
theorem d_LW_cell_12 : decode b_LW_cell 12 = .ok (.iconst 0, 1) := by decide +kernel
theorem d_LW_cell_13 : decode b_LW_cell 13 = .ok (.ireturn, 1) := by decide +kernel
theorem d_LW_route_0 : decode b_LW_route 0 = .ok (.aload 4, 2) := by decide +kernel
theorem d_LW_route_2 : decode b_LW_route 2 = .ok (.iconst 0, 1) := by decide +kernel
theorem d_LW_route_3 : decode b_LW_route 3 = .ok (.aload_n 0, 1) := by decide +kernel
theorem d_LW_route_4 : decode b_LW_route 4 = .ok (.iload_n 1, 1) := by decide +kernel
theorem d_LW_route_5 : decode b_LW_route 5 = .ok (.iload_n 2, 1) := by decide +kernel
theorem d_LW_route_6 : decode b_LW_route 6 = .ok (.iload_n 3, 1) := by decide +kernel
theorem d_LW_route_7 : decode b_LW_route 7 = .ok (.invokevirtual 7, 3) := by decide +kernel
theorem d_LW_route_10 : decode b_LW_route 10 = .ok (.i2l, 1) := by decide +kernel
theorem d_LW_route_11 : decode b_LW_route 11 = .ok (.lastore, 1) := by decide +kernel
theorem d_LW_route_12 : decode b_LW_route 12 = .ok (.goto 11, 3) := by decide +kernel
theorem d_LW_route_15 : decode b_LW_route 15 = .ok (.astore 5, 2) := by decide +kernel
theorem d_LW_route_17 : decode b_LW_route 17 = .ok (.iconst 1, 1) := by decide +kernel
theorem d_LW_route_18 : decode b_LW_route 18 = .ok (.ireturn, 1) := by decide +kernel
theorem d_LW_route_19 : decode b_LW_route 19 = .ok (.astore 5, 2) := by decide +kernel
theorem d_LW_route_21 : decode b_LW_route 21 = .ok (.iconst 2, 1) := by decide +kernel
theorem d_LW_route_22 : decode b_LW_route 22 = .ok (.ireturn, 1) := by decide +kernel
theorem d_LW_route_23 : decode b_LW_route 23 = .ok (.iconst 0, 1) := by decide +kernel
theorem d_LW_route_24 : decode b_LW_route 24 = .ok (.ireturn, 1) := by decide +kernel
theorem d_LW_unroute_0 : decode b_LW_unroute 0 = .ok (.aload_n 3, 1) := by decide +kernel
theorem d_LW_unroute_1 : decode b_LW_unroute 1 = .ok (.iconst 0, 1) := by decide +kernel
theorem d_LW_unroute_2 : decode b_LW_unroute 2 = .ok (.aload_n 0, 1) := by decide +kernel
theorem d_LW_unroute_3 : decode b_LW_unroute 3 = .ok (.iload_n 1, 1) := by decide +kernel
theorem d_LW_unroute_4 : decode b_LW_unroute 4 = .ok (.iload_n 2, 1) := by decide +kernel
theorem d_LW_unroute_5 : decode b_LW_unroute 5 = .ok (.invokevirtual 17, 3) := by decide +kernel
theorem d_LW_unroute_8 : decode b_LW_unroute 8 = .ok (.i2l, 1) := by decide +kernel
theorem d_LW_unroute_9 : decode b_LW_unroute 9 = .ok (.lastore, 1) := by decide +kernel
theorem d_LW_unroute_10 : decode b_LW_unroute 10 = .ok (.goto 7, 3) := by decide +kernel
theorem d_LW_unroute_13 : decode b_LW_unroute 13 = .ok (.astore 4, 2) := by decide +kernel
theorem d_LW_unroute_15 : decode b_LW_unroute 15 = .ok (.iconst 1, 1) := by decide +kernel
theorem d_LW_unroute_16 : decode b_LW_unroute 16 = .ok (.ireturn, 1) := by decide +kernel
theorem d_LW_unroute_17 : decode b_LW_unroute 17 = .ok (.iconst 0, 1) := by decide +kernel
theorem d_LW_unroute_18 : decode b_LW_unroute 18 = .ok (.ireturn, 1) := by decide +kernel
theorem d_LW_account_0 : decode b_LW_account 0 = .ok (.aload_n 2, 1) := by decide +kernel
theorem d_LW_account_1 : decode b_LW_account 1 = .ok (.iconst 0, 1) := by decide +kernel
theorem d_LW_account_2 : decode b_LW_account 2 = .ok (.aload_n 0, 1) := by decide +kernel
theorem d_LW_account_3 : decode b_LW_account 3 = .ok (.iload_n 1, 1) := by decide +kernel
theorem d_LW_account_4 : decode b_LW_account 4 = .ok (.invokevirtual 21, 3) := by decide +kernel
theorem d_LW_account_7 : decode b_LW_account 7 = .ok (.i2l, 1) := by decide +kernel
theorem d_LW_account_8 : decode b_LW_account 8 = .ok (.lastore, 1) := by decide +kernel
theorem d_LW_account_9 : decode b_LW_account 9 = .ok (.goto 9, 3) := by decide +kernel
theorem d_LW_account_12 : decode b_LW_account 12 = .ok (.astore_n 3, 1) := by decide +kernel
theorem d_LW_account_13 : decode b_LW_account 13 = .ok (.iconst 1, 1) := by decide +kernel
theorem d_LW_account_14 : decode b_LW_account 14 = .ok (.ireturn, 1) := by decide +kernel
theorem d_LW_account_15 : decode b_LW_account 15 = .ok (.astore_n 3, 1) := by decide +kernel
theorem d_LW_account_16 : decode b_LW_account 16 = .ok (.iconst 2, 1) := by decide +kernel
theorem d_LW_account_17 : decode b_LW_account 17 = .ok (.ireturn, 1) := by decide +kernel
theorem d_LW_account_18 : decode b_LW_account 18 = .ok (.iconst 0, 1) := by decide +kernel
theorem d_LW_account_19 : decode b_LW_account 19 = .ok (.ireturn, 1) := by decide +kernel
theorem d_LW_card_0 : decode b_LW_card 0 = .ok (.aload 4, 2) := by decide +kernel
theorem d_LW_card_2 : decode b_LW_card 2 = .ok (.iconst 0, 1) := by decide +kernel
theorem d_LW_card_3 : decode b_LW_card 3 = .ok (.aload_n 0, 1) := by decide +kernel
theorem d_LW_card_4 : decode b_LW_card 4 = .ok (.lload_n 1, 1) := by decide +kernel
theorem d_LW_card_5 : decode b_LW_card 5 = .ok (.iload_n 3, 1) := by decide +kernel
theorem d_LW_card_6 : decode b_LW_card 6 = .ok (.invokevirtual 25, 3) := by decide +kernel
theorem d_LW_card_9 : decode b_LW_card 9 = .ok (.i2l, 1) := by decide +kernel
theorem d_LW_card_10 : decode b_LW_card 10 = .ok (.lastore, 1) := by decide +kernel
theorem d_LW_card_11 : decode b_LW_card 11 = .ok (.goto 11, 3) := by decide +kernel
theorem d_LW_card_14 : decode b_LW_card 14 = .ok (.astore 5, 2) := by decide +kernel
theorem d_LW_card_16 : decode b_LW_card 16 = .ok (.iconst 1, 1) := by decide +kernel
theorem d_LW_card_17 : decode b_LW_card 17 = .ok (.ireturn, 1) := by decide +kernel
theorem d_LW_card_18 : decode b_LW_card 18 = .ok (.astore 5, 2) := by decide +kernel
theorem d_LW_card_20 : decode b_LW_card 20 = .ok (.iconst 2, 1) := by decide +kernel
theorem d_LW_card_21 : decode b_LW_card 21 = .ok (.ireturn, 1) := by decide +kernel
theorem d_LW_card_22 : decode b_LW_card 22 = .ok (.iconst 0, 1) := by decide +kernel
theorem d_LW_card_23 : decode b_LW_card 23 = .ok (.ireturn, 1) := by decide +kernel
theorem d_LW_block_0 : decode b_LW_block 0 = .ok (.aload_n 3, 1) := by decide +kernel
theorem d_LW_block_1 : decode b_LW_block 1 = .ok (.iconst 0, 1) := by decide +kernel
theorem d_LW_block_2 : decode b_LW_block 2 = .ok (.aload_n 0, 1) := by decide +kernel
theorem d_LW_block_3 : decode b_LW_block 3 = .ok (.iload_n 1, 1) := by decide +kernel
theorem d_LW_block_4 : decode b_LW_block 4 = .ok (.iload_n 2, 1) := by decide +kernel
theorem d_LW_block_5 : decode b_LW_block 5 = .ok (.invokevirtual 29, 3) := by decide +kernel
theorem d_LW_block_8 : decode b_LW_block 8 = .ok (.ifCond .eq 7, 3) := by decide +kernel
theorem d_LW_block_11 : decode b_LW_block 11 = .ok (.lconst 1, 1) := by decide +kernel
theorem d_LW_block_12 : decode b_LW_block 12 = .ok (.goto 4, 3) := by decide +kernel
theorem d_LW_block_15 : decode b_LW_block 15 = .ok (.lconst 0, 1) := by decide +kernel
theorem d_LW_block_16 : decode b_LW_block 16 = .ok (.lastore, 1) := by decide +kernel
theorem d_LW_block_17 : decode b_LW_block 17 = .ok (.goto 7, 3) := by decide +kernel
theorem d_LW_block_20 : decode b_LW_block 20 = .ok (.astore 4, 2) := by decide +kernel
theorem d_LW_block_22 : decode b_LW_block 22 = .ok (.iconst 1, 1) := by decide +kernel
theorem d_LW_block_23 : decode b_LW_block 23 = .ok (.ireturn, 1) := by decide +kernel
theorem d_LW_block_24 : decode b_LW_block 24 = .ok (.iconst 0, 1) := by decide +kernel
theorem d_LW_block_25 : decode b_LW_block 25 = .ok (.ireturn, 1) := by decide +kernel
theorem d_LW_whose_0 : decode b_LW_whose 0 = .ok (.aload_n 3, 1) := by decide +kernel
theorem d_LW_whose_1 : decode b_LW_whose 1 = .ok (.iconst 0, 1) := by decide +kernel
theorem d_LW_whose_2 : decode b_LW_whose 2 = .ok (.aload_n 0, 1) := by decide +kernel
theorem d_LW_whose_3 : decode b_LW_whose 3 = .ok (.lload_n 1, 1) := by decide +kernel
theorem d_LW_whose_4 : decode b_LW_whose 4 = .ok (.invokevirtual 33, 3) := by decide +kernel
theorem d_LW_whose_7 : decode b_LW_whose 7 = .ok (.i2l, 1) := by decide +kernel
theorem d_LW_whose_8 : decode b_LW_whose 8 = .ok (.lastore, 1) := by decide +kernel
theorem d_LW_whose_9 : decode b_LW_whose 9 = .ok (.goto 7, 3) := by decide +kernel
theorem d_LW_whose_12 : decode b_LW_whose 12 = .ok (.astore 4, 2) := by decide +kernel
theorem d_LW_whose_14 : decode b_LW_whose 14 = .ok (.iconst 1, 1) := by decide +kernel
theorem d_LW_whose_15 : decode b_LW_whose 15 = .ok (.ireturn, 1) := by decide +kernel
theorem d_LW_whose_16 : decode b_LW_whose 16 = .ok (.iconst 0, 1) := by decide +kernel
theorem d_LW_whose_17 : decode b_LW_whose 17 = .ok (.ireturn, 1) := by decide +kernel
theorem d_LW_good_0 : decode b_LW_good 0 = .ok (.aload_n 3, 1) := by decide +kernel
theorem d_LW_good_1 : decode b_LW_good 1 = .ok (.iconst 0, 1) := by decide +kernel
theorem d_LW_good_2 : decode b_LW_good 2 = .ok (.aload_n 0, 1) := by decide +kernel
theorem d_LW_good_3 : decode b_LW_good 3 = .ok (.lload_n 1, 1) := by decide +kernel
theorem d_LW_good_4 : decode b_LW_good 4 = .ok (.invokevirtual 37, 3) := by decide +kernel
theorem d_LW_good_7 : decode b_LW_good 7 = .ok (.ifCond .eq 7, 3) := by decide +kernel
theorem d_LW_good_10 : decode b_LW_good 10 = .ok (.lconst 1, 1) := by decide +kernel
theorem d_LW_good_11 : decode b_LW_good 11 = .ok (.goto 4, 3) := by decide +kernel
theorem d_LW_good_14 : decode b_LW_good 14 = .ok (.lconst 0, 1) := by decide +kernel
theorem d_LW_good_15 : decode b_LW_good 15 = .ok (.lastore, 1) := by decide +kernel
theorem d_LW_good_16 : decode b_LW_good 16 = .ok (.goto 7, 3) := by decide +kernel
theorem d_LW_good_19 : decode b_LW_good 19 = .ok (.astore 4, 2) := by decide +kernel
theorem d_LW_good_21 : decode b_LW_good 21 = .ok (.iconst 1, 1) := by decide +kernel
theorem d_LW_good_22 : decode b_LW_good 22 = .ok (.ireturn, 1) := by decide +kernel
theorem d_LW_good_23 : decode b_LW_good 23 = .ok (.iconst 0, 1) := by decide +kernel
theorem d_LW_good_24 : decode b_LW_good 24 = .ok (.ireturn, 1) := by decide +kernel
theorem d_LW_digit_0 : decode b_LW_digit 0 = .ok (.aload_n 3, 1) := by decide +kernel
theorem d_LW_digit_1 : decode b_LW_digit 1 = .ok (.iconst 0, 1) := by decide +kernel
theorem d_LW_digit_2 : decode b_LW_digit 2 = .ok (.aload_n 0, 1) := by decide +kernel
theorem d_LW_digit_3 : decode b_LW_digit 3 = .ok (.lload_n 1, 1) := by decide +kernel
theorem d_LW_digit_4 : decode b_LW_digit 4 = .ok (.invokevirtual 41, 3) := by decide +kernel
theorem d_LW_digit_7 : decode b_LW_digit 7 = .ok (.i2l, 1) := by decide +kernel
theorem d_LW_digit_8 : decode b_LW_digit 8 = .ok (.lastore, 1) := by decide +kernel
theorem d_LW_digit_9 : decode b_LW_digit 9 = .ok (.goto 7, 3) := by decide +kernel
theorem d_LW_digit_12 : decode b_LW_digit 12 = .ok (.astore 4, 2) := by decide +kernel
theorem d_LW_digit_14 : decode b_LW_digit 14 = .ok (.iconst 1, 1) := by decide +kernel
theorem d_LW_digit_15 : decode b_LW_digit 15 = .ok (.ireturn, 1) := by decide +kernel
theorem d_LW_digit_16 : decode b_LW_digit 16 = .ok (.iconst 0, 1) := by decide +kernel
theorem d_LW_digit_17 : decode b_LW_digit 17 = .ok (.ireturn, 1) := by decide +kernel
theorem d_LW_use_0 : decode b_LW_use 0 = .ok (.aload 4, 2) := by decide +kernel
theorem d_LW_use_2 : decode b_LW_use 2 = .ok (.iconst 0, 1) := by decide +kernel
theorem d_LW_use_3 : decode b_LW_use 3 = .ok (.aload_n 0, 1) := by decide +kernel
theorem d_LW_use_4 : decode b_LW_use 4 = .ok (.lload_n 1, 1) := by decide +kernel
theorem d_LW_use_5 : decode b_LW_use 5 = .ok (.iload_n 3, 1) := by decide +kernel
theorem d_LW_use_6 : decode b_LW_use 6 = .ok (.invokevirtual 44, 3) := by decide +kernel
theorem d_LW_use_9 : decode b_LW_use 9 = .ok (.i2l, 1) := by decide +kernel
theorem d_LW_use_10 : decode b_LW_use 10 = .ok (.lastore, 1) := by decide +kernel
theorem d_LW_use_11 : decode b_LW_use 11 = .ok (.goto 7, 3) := by decide +kernel
theorem d_LW_use_14 : decode b_LW_use 14 = .ok (.astore 5, 2) := by decide +kernel
theorem d_LW_use_16 : decode b_LW_use 16 = .ok (.iconst 1, 1) := by decide +kernel
theorem d_LW_use_17 : decode b_LW_use 17 = .ok (.ireturn, 1) := by decide +kernel
theorem d_LW_use_18 : decode b_LW_use 18 = .ok (.iconst 0, 1) := by decide +kernel
theorem d_LW_use_19 : decode b_LW_use 19 = .ok (.ireturn, 1) := by decide +kernel
theorem d_LW_used_0 : decode b_LW_used 0 = .ok (.aload_n 3, 1) := by decide +kernel
theorem d_LW_used_1 : decode b_LW_used 1 = .ok (.iconst 0, 1) := by decide +kernel
theorem d_LW_used_2 : decode b_LW_used 2 = .ok (.aload_n 0, 1) := by decide +kernel
theorem d_LW_used_3 : decode b_LW_used 3 = .ok (.iload_n 1, 1) := by decide +kernel
theorem d_LW_used_4 : decode b_LW_used 4 = .ok (.iload_n 2, 1) := by decide +kernel
theorem d_LW_used_5 : decode b_LW_used 5 = .ok (.invokevirtual 47, 3) := by decide +kernel
theorem d_LW_used_8 : decode b_LW_used 8 = .ok (.i2l, 1) := by decide +kernel
theorem d_LW_used_9 : decode b_LW_used 9 = .ok (.lastore, 1) := by decide +kernel
theorem d_LW_used_10 : decode b_LW_used 10 = .ok (.goto 7, 3) := by decide +kernel
theorem d_LW_used_13 : decode b_LW_used 13 = .ok (.astore 4, 2) := by decide +kernel
theorem d_LW_used_15 : decode b_LW_used 15 = .ok (.iconst 1, 1) := by decide +kernel
theorem d_LW_used_16 : decode b_LW_used 16 = .ok (.ireturn, 1) := by decide +kernel
theorem d_LW_used_17 : decode b_LW_used 17 = .ok (.iconst 0, 1) := by decide +kernel
theorem d_LW_used_18 : decode b_LW_used 18 = .ok (.ireturn, 1) := by decide +kernel
theorem d_LW_told_0 : decode b_LW_told 0 = .ok (.aload_n 3, 1) := by decide +kernel
theorem d_LW_told_1 : decode b_LW_told 1 = .ok (.iconst 0, 1) := by decide +kernel
theorem d_LW_told_2 : decode b_LW_told 2 = .ok (.aload_n 0, 1) := by decide +kernel
theorem d_LW_told_3 : decode b_LW_told 3 = .ok (.iload_n 1, 1) := by decide +kernel
theorem d_LW_told_4 : decode b_LW_told 4 = .ok (.iload_n 2, 1) := by decide +kernel
theorem d_LW_told_5 : decode b_LW_told 5 = .ok (.invokevirtual 50, 3) := by decide +kernel
theorem d_LW_told_8 : decode b_LW_told 8 = .ok (.lastore, 1) := by decide +kernel
theorem d_LW_told_9 : decode b_LW_told 9 = .ok (.goto 7, 3) := by decide +kernel
theorem d_LW_told_12 : decode b_LW_told 12 = .ok (.astore 4, 2) := by decide +kernel
theorem d_LW_told_14 : decode b_LW_told 14 = .ok (.iconst 1, 1) := by decide +kernel
theorem d_LW_told_15 : decode b_LW_told 15 = .ok (.ireturn, 1) := by decide +kernel
theorem d_LW_told_16 : decode b_LW_told 16 = .ok (.iconst 0, 1) := by decide +kernel
theorem d_LW_told_17 : decode b_LW_told 17 = .ok (.ireturn, 1) := by decide +kernel
theorem d_LW_law_0 : decode code 0 = .ok (.new 8, 3) := by decide +kernel
theorem d_LW_law_3 : decode code 3 = .ok (.dup, 1) := by decide +kernel
theorem d_LW_law_4 : decode code 4 = .ok (.aload_n 0, 1) := by decide +kernel
theorem d_LW_law_5 : decode code 5 = .ok (.iconst 0, 1) := by decide +kernel
theorem d_LW_law_6 : decode code 6 = .ok (.invokestatic 54, 3) := by decide +kernel
theorem d_LW_law_9 : decode code 9 = .ok (.aload_n 0, 1) := by decide +kernel
theorem d_LW_law_10 : decode code 10 = .ok (.iconst 1, 1) := by decide +kernel
theorem d_LW_law_11 : decode code 11 = .ok (.invokestatic 54, 3) := by decide +kernel
theorem d_LW_law_14 : decode code 14 = .ok (.invokespecial 60, 3) := by decide +kernel
theorem d_LW_law_17 : decode code 17 = .ok (.astore_n 1, 1) := by decide +kernel
theorem d_LW_law_18 : decode code 18 = .ok (.new 63, 3) := by decide +kernel
theorem d_LW_law_21 : decode code 21 = .ok (.dup, 1) := by decide +kernel
theorem d_LW_law_22 : decode code 22 = .ok (.aload_n 0, 1) := by decide +kernel
theorem d_LW_law_23 : decode code 23 = .ok (.iconst 0, 1) := by decide +kernel
theorem d_LW_law_24 : decode code 24 = .ok (.invokestatic 54, 3) := by decide +kernel
theorem d_LW_law_27 : decode code 27 = .ok (.aload_n 0, 1) := by decide +kernel
theorem d_LW_law_28 : decode code 28 = .ok (.iconst 1, 1) := by decide +kernel
theorem d_LW_law_29 : decode code 29 = .ok (.invokestatic 54, 3) := by decide +kernel
theorem d_LW_law_32 : decode code 32 = .ok (.invokespecial 65, 3) := by decide +kernel
theorem d_LW_law_35 : decode code 35 = .ok (.astore_n 2, 1) := by decide +kernel
theorem d_LW_law_36 : decode code 36 = .ok (.iconst 1, 1) := by decide +kernel
theorem d_LW_law_37 : decode code 37 = .ok (.newarray .long, 2) := by decide +kernel
theorem d_LW_law_39 : decode code 39 = .ok (.astore_n 3, 1) := by decide +kernel
theorem d_LW_law_40 : decode code 40 = .ok (.iconst 2, 1) := by decide +kernel
theorem d_LW_law_41 : decode code 41 = .ok (.istore 4, 2) := by decide +kernel
theorem d_LW_law_43 : decode code 43 = .ok (.iload 4, 2) := by decide +kernel
theorem d_LW_law_45 : decode code 45 = .ok (.aload_n 0, 1) := by decide +kernel
theorem d_LW_law_46 : decode code 46 = .ok (.arraylength, 1) := by decide +kernel
theorem d_LW_law_47 : decode code 47 = .ok (.iconst 4, 1) := by decide +kernel
theorem d_LW_law_48 : decode code 48 = .ok (.isub, 1) := by decide +kernel
theorem d_LW_law_49 : decode code 49 = .ok (.if_icmp .gt 991, 3) := by decide +kernel
theorem d_LW_law_52 : decode code 52 = .ok (.aload_n 0, 1) := by decide +kernel
theorem d_LW_law_53 : decode code 53 = .ok (.iload 4, 2) := by decide +kernel
theorem d_LW_law_55 : decode code 55 = .ok (.iaload, 1) := by decide +kernel
theorem d_LW_law_56 : decode code 56 = .ok (.bipush 15, 2) := by decide +kernel
theorem d_LW_law_58 : decode code 58 = .ok (.iand, 1) := by decide +kernel
theorem d_LW_law_59 : decode code 59 = .ok (.tableswitch 975 0 11 #[61, 141, 209, 222, 278, 378, 469, 557, 652, 740, 840, 908], 61) := by decide +kernel
theorem d_LW_law_120 : decode code 120 = .ok (.aload_n 1, 1) := by decide +kernel
theorem d_LW_law_121 : decode code 121 = .ok (.aload_n 0, 1) := by decide +kernel
theorem d_LW_law_122 : decode code 122 = .ok (.iload 4, 2) := by decide +kernel
theorem d_LW_law_124 : decode code 124 = .ok (.iconst 1, 1) := by decide +kernel
theorem d_LW_law_125 : decode code 125 = .ok (.iadd, 1) := by decide +kernel
theorem d_LW_law_126 : decode code 126 = .ok (.iaload, 1) := by decide +kernel
theorem d_LW_law_127 : decode code 127 = .ok (.aload_n 0, 1) := by decide +kernel
theorem d_LW_law_128 : decode code 128 = .ok (.iload 4, 2) := by decide +kernel
theorem d_LW_law_130 : decode code 130 = .ok (.iconst 2, 1) := by decide +kernel
theorem d_LW_law_131 : decode code 131 = .ok (.iadd, 1) := by decide +kernel
theorem d_LW_law_132 : decode code 132 = .ok (.iaload, 1) := by decide +kernel
theorem d_LW_law_133 : decode code 133 = .ok (.aload_n 0, 1) := by decide +kernel
theorem d_LW_law_134 : decode code 134 = .ok (.iload 4, 2) := by decide +kernel
theorem d_LW_law_136 : decode code 136 = .ok (.iconst 3, 1) := by decide +kernel
theorem d_LW_law_137 : decode code 137 = .ok (.iadd, 1) := by decide +kernel
theorem d_LW_law_138 : decode code 138 = .ok (.iaload, 1) := by decide +kernel
theorem d_LW_law_139 : decode code 139 = .ok (.aload_n 3, 1) := by decide +kernel
theorem d_LW_law_140 : decode code 140 = .ok (.invokestatic 66, 3) := by decide +kernel
theorem d_LW_law_143 : decode code 143 = .ok (.istore 5, 2) := by decide +kernel
theorem d_LW_law_145 : decode code 145 = .ok (.aload_n 2, 1) := by decide +kernel
theorem d_LW_law_146 : decode code 146 = .ok (.aload_n 0, 1) := by decide +kernel
theorem d_LW_law_147 : decode code 147 = .ok (.iload 4, 2) := by decide +kernel
theorem d_LW_law_149 : decode code 149 = .ok (.iconst 1, 1) := by decide +kernel
theorem d_LW_law_150 : decode code 150 = .ok (.iadd, 1) := by decide +kernel
theorem d_LW_law_151 : decode code 151 = .ok (.iaload, 1) := by decide +kernel
theorem d_LW_law_152 : decode code 152 = .ok (.aload_n 0, 1) := by decide +kernel
theorem d_LW_law_153 : decode code 153 = .ok (.iload 4, 2) := by decide +kernel
theorem d_LW_law_155 : decode code 155 = .ok (.iconst 2, 1) := by decide +kernel
theorem d_LW_law_156 : decode code 156 = .ok (.iadd, 1) := by decide +kernel
theorem d_LW_law_157 : decode code 157 = .ok (.iaload, 1) := by decide +kernel
theorem d_LW_law_158 : decode code 158 = .ok (.aload_n 0, 1) := by decide +kernel
theorem d_LW_law_159 : decode code 159 = .ok (.iload 4, 2) := by decide +kernel
theorem d_LW_law_161 : decode code 161 = .ok (.iconst 3, 1) := by decide +kernel
theorem d_LW_law_162 : decode code 162 = .ok (.iadd, 1) := by decide +kernel
theorem d_LW_law_163 : decode code 163 = .ok (.iaload, 1) := by decide +kernel
theorem d_LW_law_164 : decode code 164 = .ok (.invokevirtual 69, 3) := by decide +kernel
theorem d_LW_law_167 : decode code 167 = .ok (.istore 6, 2) := by decide +kernel
theorem d_LW_law_169 : decode code 169 = .ok (.aload_n 2, 1) := by decide +kernel
theorem d_LW_law_170 : decode code 170 = .ok (.invokevirtual 70, 3) := by decide +kernel
theorem d_LW_law_173 : decode code 173 = .ok (.iload 5, 2) := by decide +kernel
theorem d_LW_law_175 : decode code 175 = .ok (.if_icmp .eq 5, 3) := by decide +kernel
theorem d_LW_law_178 : decode code 178 = .ok (.iconst 0, 1) := by decide +kernel
theorem d_LW_law_179 : decode code 179 = .ok (.ireturn, 1) := by decide +kernel
theorem d_LW_law_180 : decode code 180 = .ok (.iload 5, 2) := by decide +kernel
theorem d_LW_law_182 : decode code 182 = .ok (.ifCond .ne 15, 3) := by decide +kernel
theorem d_LW_law_185 : decode code 185 = .ok (.aload_n 3, 1) := by decide +kernel
theorem d_LW_law_186 : decode code 186 = .ok (.iconst 0, 1) := by decide +kernel
theorem d_LW_law_187 : decode code 187 = .ok (.laload, 1) := by decide +kernel
theorem d_LW_law_188 : decode code 188 = .ok (.iload 6, 2) := by decide +kernel
theorem d_LW_law_190 : decode code 190 = .ok (.i2l, 1) := by decide +kernel
theorem d_LW_law_191 : decode code 191 = .ok (.lcmp, 1) := by decide +kernel
theorem d_LW_law_192 : decode code 192 = .ok (.ifCond .eq 5, 3) := by decide +kernel
theorem d_LW_law_195 : decode code 195 = .ok (.iconst 0, 1) := by decide +kernel
theorem d_LW_law_196 : decode code 196 = .ok (.ireturn, 1) := by decide +kernel
theorem d_LW_law_197 : decode code 197 = .ok (.goto 837, 3) := by decide +kernel
theorem d_LW_law_200 : decode code 200 = .ok (.aload_n 1, 1) := by decide +kernel
theorem d_LW_law_201 : decode code 201 = .ok (.aload_n 0, 1) := by decide +kernel
theorem d_LW_law_202 : decode code 202 = .ok (.iload 4, 2) := by decide +kernel
theorem d_LW_law_204 : decode code 204 = .ok (.iconst 1, 1) := by decide +kernel
theorem d_LW_law_205 : decode code 205 = .ok (.iadd, 1) := by decide +kernel
theorem d_LW_law_206 : decode code 206 = .ok (.iaload, 1) := by decide +kernel
theorem d_LW_law_207 : decode code 207 = .ok (.aload_n 0, 1) := by decide +kernel
theorem d_LW_law_208 : decode code 208 = .ok (.iload 4, 2) := by decide +kernel
theorem d_LW_law_210 : decode code 210 = .ok (.iconst 2, 1) := by decide +kernel
theorem d_LW_law_211 : decode code 211 = .ok (.iadd, 1) := by decide +kernel
theorem d_LW_law_212 : decode code 212 = .ok (.iaload, 1) := by decide +kernel
theorem d_LW_law_213 : decode code 213 = .ok (.aload_n 3, 1) := by decide +kernel
theorem d_LW_law_214 : decode code 214 = .ok (.invokestatic 74, 3) := by decide +kernel
theorem d_LW_law_217 : decode code 217 = .ok (.istore 5, 2) := by decide +kernel
theorem d_LW_law_219 : decode code 219 = .ok (.aload_n 2, 1) := by decide +kernel
theorem d_LW_law_220 : decode code 220 = .ok (.aload_n 0, 1) := by decide +kernel
theorem d_LW_law_221 : decode code 221 = .ok (.iload 4, 2) := by decide +kernel
theorem d_LW_law_223 : decode code 223 = .ok (.iconst 1, 1) := by decide +kernel
theorem d_LW_law_224 : decode code 224 = .ok (.iadd, 1) := by decide +kernel
theorem d_LW_law_225 : decode code 225 = .ok (.iaload, 1) := by decide +kernel
theorem d_LW_law_226 : decode code 226 = .ok (.aload_n 0, 1) := by decide +kernel
theorem d_LW_law_227 : decode code 227 = .ok (.iload 4, 2) := by decide +kernel
theorem d_LW_law_229 : decode code 229 = .ok (.iconst 2, 1) := by decide +kernel
theorem d_LW_law_230 : decode code 230 = .ok (.iadd, 1) := by decide +kernel
theorem d_LW_law_231 : decode code 231 = .ok (.iaload, 1) := by decide +kernel
theorem d_LW_law_232 : decode code 232 = .ok (.invokevirtual 77, 3) := by decide +kernel
theorem d_LW_law_235 : decode code 235 = .ok (.istore 6, 2) := by decide +kernel
theorem d_LW_law_237 : decode code 237 = .ok (.aload_n 2, 1) := by decide +kernel
theorem d_LW_law_238 : decode code 238 = .ok (.invokevirtual 70, 3) := by decide +kernel
theorem d_LW_law_241 : decode code 241 = .ok (.iload 5, 2) := by decide +kernel
theorem d_LW_law_243 : decode code 243 = .ok (.if_icmp .eq 5, 3) := by decide +kernel
theorem d_LW_law_246 : decode code 246 = .ok (.iconst 0, 1) := by decide +kernel
theorem d_LW_law_247 : decode code 247 = .ok (.ireturn, 1) := by decide +kernel
theorem d_LW_law_248 : decode code 248 = .ok (.iload 5, 2) := by decide +kernel
theorem d_LW_law_250 : decode code 250 = .ok (.ifCond .ne 15, 3) := by decide +kernel
theorem d_LW_law_253 : decode code 253 = .ok (.aload_n 3, 1) := by decide +kernel
theorem d_LW_law_254 : decode code 254 = .ok (.iconst 0, 1) := by decide +kernel
theorem d_LW_law_255 : decode code 255 = .ok (.laload, 1) := by decide +kernel
theorem d_LW_law_256 : decode code 256 = .ok (.iload 6, 2) := by decide +kernel
theorem d_LW_law_258 : decode code 258 = .ok (.i2l, 1) := by decide +kernel
theorem d_LW_law_259 : decode code 259 = .ok (.lcmp, 1) := by decide +kernel
theorem d_LW_law_260 : decode code 260 = .ok (.ifCond .eq 5, 3) := by decide +kernel
theorem d_LW_law_263 : decode code 263 = .ok (.iconst 0, 1) := by decide +kernel
theorem d_LW_law_264 : decode code 264 = .ok (.ireturn, 1) := by decide +kernel
theorem d_LW_law_265 : decode code 265 = .ok (.goto 769, 3) := by decide +kernel
theorem d_LW_law_268 : decode code 268 = .ok (.aload_n 1, 1) := by decide +kernel
theorem d_LW_law_269 : decode code 269 = .ok (.invokevirtual 78, 3) := by decide +kernel
theorem d_LW_law_272 : decode code 272 = .ok (.aload_n 2, 1) := by decide +kernel
theorem d_LW_law_273 : decode code 273 = .ok (.invokevirtual 81, 3) := by decide +kernel
theorem d_LW_law_276 : decode code 276 = .ok (.if_icmp .eq 758, 3) := by decide +kernel
theorem d_LW_law_279 : decode code 279 = .ok (.iconst 0, 1) := by decide +kernel
theorem d_LW_law_280 : decode code 280 = .ok (.ireturn, 1) := by decide +kernel
theorem d_LW_law_281 : decode code 281 = .ok (.aload_n 1, 1) := by decide +kernel
theorem d_LW_law_282 : decode code 282 = .ok (.aload_n 0, 1) := by decide +kernel
theorem d_LW_law_283 : decode code 283 = .ok (.iload 4, 2) := by decide +kernel
theorem d_LW_law_285 : decode code 285 = .ok (.iconst 1, 1) := by decide +kernel
theorem d_LW_law_286 : decode code 286 = .ok (.iadd, 1) := by decide +kernel
theorem d_LW_law_287 : decode code 287 = .ok (.iaload, 1) := by decide +kernel
theorem d_LW_law_288 : decode code 288 = .ok (.aload_n 3, 1) := by decide +kernel
theorem d_LW_law_289 : decode code 289 = .ok (.invokestatic 82, 3) := by decide +kernel
theorem d_LW_law_292 : decode code 292 = .ok (.istore 5, 2) := by decide +kernel
theorem d_LW_law_294 : decode code 294 = .ok (.aload_n 2, 1) := by decide +kernel
theorem d_LW_law_295 : decode code 295 = .ok (.aload_n 0, 1) := by decide +kernel
theorem d_LW_law_296 : decode code 296 = .ok (.iload 4, 2) := by decide +kernel
theorem d_LW_law_298 : decode code 298 = .ok (.iconst 1, 1) := by decide +kernel
theorem d_LW_law_299 : decode code 299 = .ok (.iadd, 1) := by decide +kernel
theorem d_LW_law_300 : decode code 300 = .ok (.iaload, 1) := by decide +kernel
theorem d_LW_law_301 : decode code 301 = .ok (.invokevirtual 85, 3) := by decide +kernel
theorem d_LW_law_304 : decode code 304 = .ok (.istore 6, 2) := by decide +kernel
theorem d_LW_law_306 : decode code 306 = .ok (.aload_n 2, 1) := by decide +kernel
theorem d_LW_law_307 : decode code 307 = .ok (.invokevirtual 70, 3) := by decide +kernel
theorem d_LW_law_310 : decode code 310 = .ok (.iload 5, 2) := by decide +kernel
theorem d_LW_law_312 : decode code 312 = .ok (.if_icmp .eq 5, 3) := by decide +kernel
theorem d_LW_law_315 : decode code 315 = .ok (.iconst 0, 1) := by decide +kernel
theorem d_LW_law_316 : decode code 316 = .ok (.ireturn, 1) := by decide +kernel
theorem d_LW_law_317 : decode code 317 = .ok (.iload 5, 2) := by decide +kernel
theorem d_LW_law_319 : decode code 319 = .ok (.ifCond .ne 15, 3) := by decide +kernel
theorem d_LW_law_322 : decode code 322 = .ok (.aload_n 3, 1) := by decide +kernel
theorem d_LW_law_323 : decode code 323 = .ok (.iconst 0, 1) := by decide +kernel
theorem d_LW_law_324 : decode code 324 = .ok (.laload, 1) := by decide +kernel
theorem d_LW_law_325 : decode code 325 = .ok (.iload 6, 2) := by decide +kernel
theorem d_LW_law_327 : decode code 327 = .ok (.i2l, 1) := by decide +kernel
theorem d_LW_law_328 : decode code 328 = .ok (.lcmp, 1) := by decide +kernel
theorem d_LW_law_329 : decode code 329 = .ok (.ifCond .eq 5, 3) := by decide +kernel
theorem d_LW_law_332 : decode code 332 = .ok (.iconst 0, 1) := by decide +kernel
theorem d_LW_law_333 : decode code 333 = .ok (.ireturn, 1) := by decide +kernel
theorem d_LW_law_334 : decode code 334 = .ok (.goto 700, 3) := by decide +kernel
theorem d_LW_law_337 : decode code 337 = .ok (.aload_n 1, 1) := by decide +kernel
theorem d_LW_law_338 : decode code 338 = .ok (.aload_n 0, 1) := by decide +kernel
theorem d_LW_law_339 : decode code 339 = .ok (.iload 4, 2) := by decide +kernel
theorem d_LW_law_341 : decode code 341 = .ok (.iconst 1, 1) := by decide +kernel
theorem d_LW_law_342 : decode code 342 = .ok (.iadd, 1) := by decide +kernel
theorem d_LW_law_343 : decode code 343 = .ok (.iaload, 1) := by decide +kernel
theorem d_LW_law_344 : decode code 344 = .ok (.i2l, 1) := by decide +kernel
theorem d_LW_law_345 : decode code 345 = .ok (.bipush 32, 2) := by decide +kernel
theorem d_LW_law_347 : decode code 347 = .ok (.lshl, 1) := by decide +kernel
theorem d_LW_law_348 : decode code 348 = .ok (.aload_n 0, 1) := by decide +kernel
theorem d_LW_law_349 : decode code 349 = .ok (.iload 4, 2) := by decide +kernel
theorem d_LW_law_351 : decode code 351 = .ok (.iconst 2, 1) := by decide +kernel
theorem d_LW_law_352 : decode code 352 = .ok (.iadd, 1) := by decide +kernel
theorem d_LW_law_353 : decode code 353 = .ok (.iaload, 1) := by decide +kernel
theorem d_LW_law_354 : decode code 354 = .ok (.i2l, 1) := by decide +kernel
theorem d_LW_law_355 : decode code 355 = .ok (.ldc2_w 86, 3) := by decide +kernel
theorem d_LW_law_358 : decode code 358 = .ok (.land, 1) := by decide +kernel
theorem d_LW_law_359 : decode code 359 = .ok (.lor, 1) := by decide +kernel
theorem d_LW_law_360 : decode code 360 = .ok (.aload_n 0, 1) := by decide +kernel
theorem d_LW_law_361 : decode code 361 = .ok (.iload 4, 2) := by decide +kernel
theorem d_LW_law_363 : decode code 363 = .ok (.iconst 3, 1) := by decide +kernel
theorem d_LW_law_364 : decode code 364 = .ok (.iadd, 1) := by decide +kernel
theorem d_LW_law_365 : decode code 365 = .ok (.iaload, 1) := by decide +kernel
theorem d_LW_law_366 : decode code 366 = .ok (.aload_n 3, 1) := by decide +kernel
theorem d_LW_law_367 : decode code 367 = .ok (.invokestatic 88, 3) := by decide +kernel
theorem d_LW_law_370 : decode code 370 = .ok (.istore 5, 2) := by decide +kernel
theorem d_LW_law_372 : decode code 372 = .ok (.aload_n 2, 1) := by decide +kernel
theorem d_LW_law_373 : decode code 373 = .ok (.aload_n 0, 1) := by decide +kernel
theorem d_LW_law_374 : decode code 374 = .ok (.iload 4, 2) := by decide +kernel
theorem d_LW_law_376 : decode code 376 = .ok (.iconst 1, 1) := by decide +kernel
theorem d_LW_law_377 : decode code 377 = .ok (.iadd, 1) := by decide +kernel
theorem d_LW_law_378 : decode code 378 = .ok (.iaload, 1) := by decide +kernel
theorem d_LW_law_379 : decode code 379 = .ok (.i2l, 1) := by decide +kernel
theorem d_LW_law_380 : decode code 380 = .ok (.bipush 32, 2) := by decide +kernel
theorem d_LW_law_382 : decode code 382 = .ok (.lshl, 1) := by decide +kernel
theorem d_LW_law_383 : decode code 383 = .ok (.aload_n 0, 1) := by decide +kernel
theorem d_LW_law_384 : decode code 384 = .ok (.iload 4, 2) := by decide +kernel
theorem d_LW_law_386 : decode code 386 = .ok (.iconst 2, 1) := by decide +kernel
theorem d_LW_law_387 : decode code 387 = .ok (.iadd, 1) := by decide +kernel
theorem d_LW_law_388 : decode code 388 = .ok (.iaload, 1) := by decide +kernel
theorem d_LW_law_389 : decode code 389 = .ok (.i2l, 1) := by decide +kernel
theorem d_LW_law_390 : decode code 390 = .ok (.ldc2_w 86, 3) := by decide +kernel
theorem d_LW_law_393 : decode code 393 = .ok (.land, 1) := by decide +kernel
theorem d_LW_law_394 : decode code 394 = .ok (.lor, 1) := by decide +kernel
theorem d_LW_law_395 : decode code 395 = .ok (.aload_n 0, 1) := by decide +kernel
theorem d_LW_law_396 : decode code 396 = .ok (.iload 4, 2) := by decide +kernel
theorem d_LW_law_398 : decode code 398 = .ok (.iconst 3, 1) := by decide +kernel
theorem d_LW_law_399 : decode code 399 = .ok (.iadd, 1) := by decide +kernel
theorem d_LW_law_400 : decode code 400 = .ok (.iaload, 1) := by decide +kernel
theorem d_LW_law_401 : decode code 401 = .ok (.invokevirtual 91, 3) := by decide +kernel
theorem d_LW_law_404 : decode code 404 = .ok (.istore 6, 2) := by decide +kernel
theorem d_LW_law_406 : decode code 406 = .ok (.aload_n 2, 1) := by decide +kernel
theorem d_LW_law_407 : decode code 407 = .ok (.invokevirtual 70, 3) := by decide +kernel
theorem d_LW_law_410 : decode code 410 = .ok (.iload 5, 2) := by decide +kernel
theorem d_LW_law_412 : decode code 412 = .ok (.if_icmp .eq 5, 3) := by decide +kernel
theorem d_LW_law_415 : decode code 415 = .ok (.iconst 0, 1) := by decide +kernel
theorem d_LW_law_416 : decode code 416 = .ok (.ireturn, 1) := by decide +kernel
theorem d_LW_law_417 : decode code 417 = .ok (.iload 5, 2) := by decide +kernel
theorem d_LW_law_419 : decode code 419 = .ok (.ifCond .ne 15, 3) := by decide +kernel
theorem d_LW_law_422 : decode code 422 = .ok (.aload_n 3, 1) := by decide +kernel
theorem d_LW_law_423 : decode code 423 = .ok (.iconst 0, 1) := by decide +kernel
theorem d_LW_law_424 : decode code 424 = .ok (.laload, 1) := by decide +kernel
theorem d_LW_law_425 : decode code 425 = .ok (.iload 6, 2) := by decide +kernel
theorem d_LW_law_427 : decode code 427 = .ok (.i2l, 1) := by decide +kernel
theorem d_LW_law_428 : decode code 428 = .ok (.lcmp, 1) := by decide +kernel
theorem d_LW_law_429 : decode code 429 = .ok (.ifCond .eq 5, 3) := by decide +kernel
theorem d_LW_law_432 : decode code 432 = .ok (.iconst 0, 1) := by decide +kernel
theorem d_LW_law_433 : decode code 433 = .ok (.ireturn, 1) := by decide +kernel
theorem d_LW_law_434 : decode code 434 = .ok (.goto 600, 3) := by decide +kernel
theorem d_LW_law_437 : decode code 437 = .ok (.aload_n 1, 1) := by decide +kernel
theorem d_LW_law_438 : decode code 438 = .ok (.aload_n 0, 1) := by decide +kernel
theorem d_LW_law_439 : decode code 439 = .ok (.iload 4, 2) := by decide +kernel
theorem d_LW_law_441 : decode code 441 = .ok (.iconst 1, 1) := by decide +kernel
theorem d_LW_law_442 : decode code 442 = .ok (.iadd, 1) := by decide +kernel
theorem d_LW_law_443 : decode code 443 = .ok (.iaload, 1) := by decide +kernel
theorem d_LW_law_444 : decode code 444 = .ok (.aload_n 0, 1) := by decide +kernel
theorem d_LW_law_445 : decode code 445 = .ok (.iload 4, 2) := by decide +kernel
theorem d_LW_law_447 : decode code 447 = .ok (.iconst 2, 1) := by decide +kernel
theorem d_LW_law_448 : decode code 448 = .ok (.iadd, 1) := by decide +kernel
theorem d_LW_law_449 : decode code 449 = .ok (.iaload, 1) := by decide +kernel
theorem d_LW_law_450 : decode code 450 = .ok (.ifCond .eq 7, 3) := by decide +kernel
theorem d_LW_law_453 : decode code 453 = .ok (.iconst 1, 1) := by decide +kernel
theorem d_LW_law_454 : decode code 454 = .ok (.goto 4, 3) := by decide +kernel
theorem d_LW_law_457 : decode code 457 = .ok (.iconst 0, 1) := by decide +kernel
theorem d_LW_law_458 : decode code 458 = .ok (.aload_n 3, 1) := by decide +kernel
theorem d_LW_law_459 : decode code 459 = .ok (.invokestatic 92, 3) := by decide +kernel
theorem d_LW_law_462 : decode code 462 = .ok (.istore 5, 2) := by decide +kernel
theorem d_LW_law_464 : decode code 464 = .ok (.aload_n 2, 1) := by decide +kernel
theorem d_LW_law_465 : decode code 465 = .ok (.aload_n 0, 1) := by decide +kernel
theorem d_LW_law_466 : decode code 466 = .ok (.iload 4, 2) := by decide +kernel
theorem d_LW_law_468 : decode code 468 = .ok (.iconst 1, 1) := by decide +kernel
theorem d_LW_law_469 : decode code 469 = .ok (.iadd, 1) := by decide +kernel
theorem d_LW_law_470 : decode code 470 = .ok (.iaload, 1) := by decide +kernel
theorem d_LW_law_471 : decode code 471 = .ok (.aload_n 0, 1) := by decide +kernel
theorem d_LW_law_472 : decode code 472 = .ok (.iload 4, 2) := by decide +kernel
theorem d_LW_law_474 : decode code 474 = .ok (.iconst 2, 1) := by decide +kernel
theorem d_LW_law_475 : decode code 475 = .ok (.iadd, 1) := by decide +kernel
theorem d_LW_law_476 : decode code 476 = .ok (.iaload, 1) := by decide +kernel
theorem d_LW_law_477 : decode code 477 = .ok (.ifCond .eq 7, 3) := by decide +kernel
theorem d_LW_law_480 : decode code 480 = .ok (.iconst 1, 1) := by decide +kernel
theorem d_LW_law_481 : decode code 481 = .ok (.goto 4, 3) := by decide +kernel
theorem d_LW_law_484 : decode code 484 = .ok (.iconst 0, 1) := by decide +kernel
theorem d_LW_law_485 : decode code 485 = .ok (.invokevirtual 95, 3) := by decide +kernel
theorem d_LW_law_488 : decode code 488 = .ok (.istore 6, 2) := by decide +kernel
theorem d_LW_law_490 : decode code 490 = .ok (.aload_n 2, 1) := by decide +kernel
theorem d_LW_law_491 : decode code 491 = .ok (.invokevirtual 70, 3) := by decide +kernel
theorem d_LW_law_494 : decode code 494 = .ok (.iload 5, 2) := by decide +kernel
theorem d_LW_law_496 : decode code 496 = .ok (.if_icmp .eq 5, 3) := by decide +kernel
theorem d_LW_law_499 : decode code 499 = .ok (.iconst 0, 1) := by decide +kernel
theorem d_LW_law_500 : decode code 500 = .ok (.ireturn, 1) := by decide +kernel
theorem d_LW_law_501 : decode code 501 = .ok (.iload 5, 2) := by decide +kernel
theorem d_LW_law_503 : decode code 503 = .ok (.ifCond .ne 22, 3) := by decide +kernel
theorem d_LW_law_506 : decode code 506 = .ok (.aload_n 3, 1) := by decide +kernel
theorem d_LW_law_507 : decode code 507 = .ok (.iconst 0, 1) := by decide +kernel
theorem d_LW_law_508 : decode code 508 = .ok (.laload, 1) := by decide +kernel
theorem d_LW_law_509 : decode code 509 = .ok (.iload 6, 2) := by decide +kernel
theorem d_LW_law_511 : decode code 511 = .ok (.ifCond .eq 7, 3) := by decide +kernel
theorem d_LW_law_514 : decode code 514 = .ok (.lconst 1, 1) := by decide +kernel
theorem d_LW_law_515 : decode code 515 = .ok (.goto 4, 3) := by decide +kernel
theorem d_LW_law_518 : decode code 518 = .ok (.lconst 0, 1) := by decide +kernel
theorem d_LW_law_519 : decode code 519 = .ok (.lcmp, 1) := by decide +kernel
theorem d_LW_law_520 : decode code 520 = .ok (.ifCond .eq 5, 3) := by decide +kernel
theorem d_LW_law_523 : decode code 523 = .ok (.iconst 0, 1) := by decide +kernel
theorem d_LW_law_524 : decode code 524 = .ok (.ireturn, 1) := by decide +kernel
theorem d_LW_law_525 : decode code 525 = .ok (.goto 509, 3) := by decide +kernel
theorem d_LW_law_528 : decode code 528 = .ok (.aload_n 1, 1) := by decide +kernel
theorem d_LW_law_529 : decode code 529 = .ok (.aload_n 0, 1) := by decide +kernel
theorem d_LW_law_530 : decode code 530 = .ok (.iload 4, 2) := by decide +kernel
theorem d_LW_law_532 : decode code 532 = .ok (.iconst 1, 1) := by decide +kernel
theorem d_LW_law_533 : decode code 533 = .ok (.iadd, 1) := by decide +kernel
theorem d_LW_law_534 : decode code 534 = .ok (.iaload, 1) := by decide +kernel
theorem d_LW_law_535 : decode code 535 = .ok (.i2l, 1) := by decide +kernel
theorem d_LW_law_536 : decode code 536 = .ok (.bipush 32, 2) := by decide +kernel
theorem d_LW_law_538 : decode code 538 = .ok (.lshl, 1) := by decide +kernel
theorem d_LW_law_539 : decode code 539 = .ok (.aload_n 0, 1) := by decide +kernel
theorem d_LW_law_540 : decode code 540 = .ok (.iload 4, 2) := by decide +kernel
theorem d_LW_law_542 : decode code 542 = .ok (.iconst 2, 1) := by decide +kernel
theorem d_LW_law_543 : decode code 543 = .ok (.iadd, 1) := by decide +kernel
theorem d_LW_law_544 : decode code 544 = .ok (.iaload, 1) := by decide +kernel
theorem d_LW_law_545 : decode code 545 = .ok (.i2l, 1) := by decide +kernel
theorem d_LW_law_546 : decode code 546 = .ok (.ldc2_w 86, 3) := by decide +kernel
theorem d_LW_law_549 : decode code 549 = .ok (.land, 1) := by decide +kernel
theorem d_LW_law_550 : decode code 550 = .ok (.lor, 1) := by decide +kernel
theorem d_LW_law_551 : decode code 551 = .ok (.aload_n 3, 1) := by decide +kernel
theorem d_LW_law_552 : decode code 552 = .ok (.invokestatic 96, 3) := by decide +kernel
theorem d_LW_law_555 : decode code 555 = .ok (.istore 5, 2) := by decide +kernel
theorem d_LW_law_557 : decode code 557 = .ok (.aload_n 2, 1) := by decide +kernel
theorem d_LW_law_558 : decode code 558 = .ok (.aload_n 0, 1) := by decide +kernel
theorem d_LW_law_559 : decode code 559 = .ok (.iload 4, 2) := by decide +kernel
theorem d_LW_law_561 : decode code 561 = .ok (.iconst 1, 1) := by decide +kernel
theorem d_LW_law_562 : decode code 562 = .ok (.iadd, 1) := by decide +kernel
theorem d_LW_law_563 : decode code 563 = .ok (.iaload, 1) := by decide +kernel
theorem d_LW_law_564 : decode code 564 = .ok (.i2l, 1) := by decide +kernel
theorem d_LW_law_565 : decode code 565 = .ok (.bipush 32, 2) := by decide +kernel
theorem d_LW_law_567 : decode code 567 = .ok (.lshl, 1) := by decide +kernel
theorem d_LW_law_568 : decode code 568 = .ok (.aload_n 0, 1) := by decide +kernel
theorem d_LW_law_569 : decode code 569 = .ok (.iload 4, 2) := by decide +kernel
theorem d_LW_law_571 : decode code 571 = .ok (.iconst 2, 1) := by decide +kernel
theorem d_LW_law_572 : decode code 572 = .ok (.iadd, 1) := by decide +kernel
theorem d_LW_law_573 : decode code 573 = .ok (.iaload, 1) := by decide +kernel
theorem d_LW_law_574 : decode code 574 = .ok (.i2l, 1) := by decide +kernel
theorem d_LW_law_575 : decode code 575 = .ok (.ldc2_w 86, 3) := by decide +kernel
theorem d_LW_law_578 : decode code 578 = .ok (.land, 1) := by decide +kernel
theorem d_LW_law_579 : decode code 579 = .ok (.lor, 1) := by decide +kernel
theorem d_LW_law_580 : decode code 580 = .ok (.invokevirtual 99, 3) := by decide +kernel
theorem d_LW_law_583 : decode code 583 = .ok (.istore 6, 2) := by decide +kernel
theorem d_LW_law_585 : decode code 585 = .ok (.aload_n 2, 1) := by decide +kernel
theorem d_LW_law_586 : decode code 586 = .ok (.invokevirtual 70, 3) := by decide +kernel
theorem d_LW_law_589 : decode code 589 = .ok (.iload 5, 2) := by decide +kernel
theorem d_LW_law_591 : decode code 591 = .ok (.if_icmp .eq 5, 3) := by decide +kernel
theorem d_LW_law_594 : decode code 594 = .ok (.iconst 0, 1) := by decide +kernel
theorem d_LW_law_595 : decode code 595 = .ok (.ireturn, 1) := by decide +kernel
theorem d_LW_law_596 : decode code 596 = .ok (.iload 5, 2) := by decide +kernel
theorem d_LW_law_598 : decode code 598 = .ok (.ifCond .ne 15, 3) := by decide +kernel
theorem d_LW_law_601 : decode code 601 = .ok (.aload_n 3, 1) := by decide +kernel
theorem d_LW_law_602 : decode code 602 = .ok (.iconst 0, 1) := by decide +kernel
theorem d_LW_law_603 : decode code 603 = .ok (.laload, 1) := by decide +kernel
theorem d_LW_law_604 : decode code 604 = .ok (.iload 6, 2) := by decide +kernel
theorem d_LW_law_606 : decode code 606 = .ok (.i2l, 1) := by decide +kernel
theorem d_LW_law_607 : decode code 607 = .ok (.lcmp, 1) := by decide +kernel
theorem d_LW_law_608 : decode code 608 = .ok (.ifCond .eq 5, 3) := by decide +kernel
theorem d_LW_law_611 : decode code 611 = .ok (.iconst 0, 1) := by decide +kernel
theorem d_LW_law_612 : decode code 612 = .ok (.ireturn, 1) := by decide +kernel
theorem d_LW_law_613 : decode code 613 = .ok (.goto 421, 3) := by decide +kernel
theorem d_LW_law_616 : decode code 616 = .ok (.aload_n 1, 1) := by decide +kernel
theorem d_LW_law_617 : decode code 617 = .ok (.aload_n 0, 1) := by decide +kernel
theorem d_LW_law_618 : decode code 618 = .ok (.iload 4, 2) := by decide +kernel
theorem d_LW_law_620 : decode code 620 = .ok (.iconst 1, 1) := by decide +kernel
theorem d_LW_law_621 : decode code 621 = .ok (.iadd, 1) := by decide +kernel
theorem d_LW_law_622 : decode code 622 = .ok (.iaload, 1) := by decide +kernel
theorem d_LW_law_623 : decode code 623 = .ok (.i2l, 1) := by decide +kernel
theorem d_LW_law_624 : decode code 624 = .ok (.bipush 32, 2) := by decide +kernel
theorem d_LW_law_626 : decode code 626 = .ok (.lshl, 1) := by decide +kernel
theorem d_LW_law_627 : decode code 627 = .ok (.aload_n 0, 1) := by decide +kernel
theorem d_LW_law_628 : decode code 628 = .ok (.iload 4, 2) := by decide +kernel
theorem d_LW_law_630 : decode code 630 = .ok (.iconst 2, 1) := by decide +kernel
theorem d_LW_law_631 : decode code 631 = .ok (.iadd, 1) := by decide +kernel
theorem d_LW_law_632 : decode code 632 = .ok (.iaload, 1) := by decide +kernel
theorem d_LW_law_633 : decode code 633 = .ok (.i2l, 1) := by decide +kernel
theorem d_LW_law_634 : decode code 634 = .ok (.ldc2_w 86, 3) := by decide +kernel
theorem d_LW_law_637 : decode code 637 = .ok (.land, 1) := by decide +kernel
theorem d_LW_law_638 : decode code 638 = .ok (.lor, 1) := by decide +kernel
theorem d_LW_law_639 : decode code 639 = .ok (.aload_n 3, 1) := by decide +kernel
theorem d_LW_law_640 : decode code 640 = .ok (.invokestatic 100, 3) := by decide +kernel
theorem d_LW_law_643 : decode code 643 = .ok (.istore 5, 2) := by decide +kernel
theorem d_LW_law_645 : decode code 645 = .ok (.aload_n 2, 1) := by decide +kernel
theorem d_LW_law_646 : decode code 646 = .ok (.aload_n 0, 1) := by decide +kernel
theorem d_LW_law_647 : decode code 647 = .ok (.iload 4, 2) := by decide +kernel
theorem d_LW_law_649 : decode code 649 = .ok (.iconst 1, 1) := by decide +kernel
theorem d_LW_law_650 : decode code 650 = .ok (.iadd, 1) := by decide +kernel
theorem d_LW_law_651 : decode code 651 = .ok (.iaload, 1) := by decide +kernel
theorem d_LW_law_652 : decode code 652 = .ok (.i2l, 1) := by decide +kernel
theorem d_LW_law_653 : decode code 653 = .ok (.bipush 32, 2) := by decide +kernel
theorem d_LW_law_655 : decode code 655 = .ok (.lshl, 1) := by decide +kernel
theorem d_LW_law_656 : decode code 656 = .ok (.aload_n 0, 1) := by decide +kernel
theorem d_LW_law_657 : decode code 657 = .ok (.iload 4, 2) := by decide +kernel
theorem d_LW_law_659 : decode code 659 = .ok (.iconst 2, 1) := by decide +kernel
theorem d_LW_law_660 : decode code 660 = .ok (.iadd, 1) := by decide +kernel
theorem d_LW_law_661 : decode code 661 = .ok (.iaload, 1) := by decide +kernel
theorem d_LW_law_662 : decode code 662 = .ok (.i2l, 1) := by decide +kernel
theorem d_LW_law_663 : decode code 663 = .ok (.ldc2_w 86, 3) := by decide +kernel
theorem d_LW_law_666 : decode code 666 = .ok (.land, 1) := by decide +kernel
theorem d_LW_law_667 : decode code 667 = .ok (.lor, 1) := by decide +kernel
theorem d_LW_law_668 : decode code 668 = .ok (.invokevirtual 102, 3) := by decide +kernel
theorem d_LW_law_671 : decode code 671 = .ok (.istore 6, 2) := by decide +kernel
theorem d_LW_law_673 : decode code 673 = .ok (.aload_n 2, 1) := by decide +kernel
theorem d_LW_law_674 : decode code 674 = .ok (.invokevirtual 70, 3) := by decide +kernel
theorem d_LW_law_677 : decode code 677 = .ok (.iload 5, 2) := by decide +kernel
theorem d_LW_law_679 : decode code 679 = .ok (.if_icmp .eq 5, 3) := by decide +kernel
theorem d_LW_law_682 : decode code 682 = .ok (.iconst 0, 1) := by decide +kernel
theorem d_LW_law_683 : decode code 683 = .ok (.ireturn, 1) := by decide +kernel
theorem d_LW_law_684 : decode code 684 = .ok (.iload 5, 2) := by decide +kernel
theorem d_LW_law_686 : decode code 686 = .ok (.ifCond .ne 22, 3) := by decide +kernel
theorem d_LW_law_689 : decode code 689 = .ok (.aload_n 3, 1) := by decide +kernel
theorem d_LW_law_690 : decode code 690 = .ok (.iconst 0, 1) := by decide +kernel
theorem d_LW_law_691 : decode code 691 = .ok (.laload, 1) := by decide +kernel
theorem d_LW_law_692 : decode code 692 = .ok (.iload 6, 2) := by decide +kernel
theorem d_LW_law_694 : decode code 694 = .ok (.ifCond .eq 7, 3) := by decide +kernel
theorem d_LW_law_697 : decode code 697 = .ok (.lconst 1, 1) := by decide +kernel
theorem d_LW_law_698 : decode code 698 = .ok (.goto 4, 3) := by decide +kernel
theorem d_LW_law_701 : decode code 701 = .ok (.lconst 0, 1) := by decide +kernel
theorem d_LW_law_702 : decode code 702 = .ok (.lcmp, 1) := by decide +kernel
theorem d_LW_law_703 : decode code 703 = .ok (.ifCond .eq 5, 3) := by decide +kernel
theorem d_LW_law_706 : decode code 706 = .ok (.iconst 0, 1) := by decide +kernel
theorem d_LW_law_707 : decode code 707 = .ok (.ireturn, 1) := by decide +kernel
theorem d_LW_law_708 : decode code 708 = .ok (.goto 326, 3) := by decide +kernel
theorem d_LW_law_711 : decode code 711 = .ok (.aload_n 1, 1) := by decide +kernel
theorem d_LW_law_712 : decode code 712 = .ok (.aload_n 0, 1) := by decide +kernel
theorem d_LW_law_713 : decode code 713 = .ok (.iload 4, 2) := by decide +kernel
theorem d_LW_law_715 : decode code 715 = .ok (.iconst 1, 1) := by decide +kernel
theorem d_LW_law_716 : decode code 716 = .ok (.iadd, 1) := by decide +kernel
theorem d_LW_law_717 : decode code 717 = .ok (.iaload, 1) := by decide +kernel
theorem d_LW_law_718 : decode code 718 = .ok (.i2l, 1) := by decide +kernel
theorem d_LW_law_719 : decode code 719 = .ok (.bipush 32, 2) := by decide +kernel
theorem d_LW_law_721 : decode code 721 = .ok (.lshl, 1) := by decide +kernel
theorem d_LW_law_722 : decode code 722 = .ok (.aload_n 0, 1) := by decide +kernel
theorem d_LW_law_723 : decode code 723 = .ok (.iload 4, 2) := by decide +kernel
theorem d_LW_law_725 : decode code 725 = .ok (.iconst 2, 1) := by decide +kernel
theorem d_LW_law_726 : decode code 726 = .ok (.iadd, 1) := by decide +kernel
theorem d_LW_law_727 : decode code 727 = .ok (.iaload, 1) := by decide +kernel
theorem d_LW_law_728 : decode code 728 = .ok (.i2l, 1) := by decide +kernel
theorem d_LW_law_729 : decode code 729 = .ok (.ldc2_w 86, 3) := by decide +kernel
theorem d_LW_law_732 : decode code 732 = .ok (.land, 1) := by decide +kernel
theorem d_LW_law_733 : decode code 733 = .ok (.lor, 1) := by decide +kernel
theorem d_LW_law_734 : decode code 734 = .ok (.aload_n 3, 1) := by decide +kernel
theorem d_LW_law_735 : decode code 735 = .ok (.invokestatic 103, 3) := by decide +kernel
theorem d_LW_law_738 : decode code 738 = .ok (.istore 5, 2) := by decide +kernel
theorem d_LW_law_740 : decode code 740 = .ok (.aload_n 2, 1) := by decide +kernel
theorem d_LW_law_741 : decode code 741 = .ok (.aload_n 0, 1) := by decide +kernel
theorem d_LW_law_742 : decode code 742 = .ok (.iload 4, 2) := by decide +kernel
theorem d_LW_law_744 : decode code 744 = .ok (.iconst 1, 1) := by decide +kernel
theorem d_LW_law_745 : decode code 745 = .ok (.iadd, 1) := by decide +kernel
theorem d_LW_law_746 : decode code 746 = .ok (.iaload, 1) := by decide +kernel
theorem d_LW_law_747 : decode code 747 = .ok (.i2l, 1) := by decide +kernel
theorem d_LW_law_748 : decode code 748 = .ok (.bipush 32, 2) := by decide +kernel
theorem d_LW_law_750 : decode code 750 = .ok (.lshl, 1) := by decide +kernel
theorem d_LW_law_751 : decode code 751 = .ok (.aload_n 0, 1) := by decide +kernel
theorem d_LW_law_752 : decode code 752 = .ok (.iload 4, 2) := by decide +kernel
theorem d_LW_law_754 : decode code 754 = .ok (.iconst 2, 1) := by decide +kernel
theorem d_LW_law_755 : decode code 755 = .ok (.iadd, 1) := by decide +kernel
theorem d_LW_law_756 : decode code 756 = .ok (.iaload, 1) := by decide +kernel
theorem d_LW_law_757 : decode code 757 = .ok (.i2l, 1) := by decide +kernel
theorem d_LW_law_758 : decode code 758 = .ok (.ldc2_w 86, 3) := by decide +kernel
theorem d_LW_law_761 : decode code 761 = .ok (.land, 1) := by decide +kernel
theorem d_LW_law_762 : decode code 762 = .ok (.lor, 1) := by decide +kernel
theorem d_LW_law_763 : decode code 763 = .ok (.invokevirtual 105, 3) := by decide +kernel
theorem d_LW_law_766 : decode code 766 = .ok (.istore 6, 2) := by decide +kernel
theorem d_LW_law_768 : decode code 768 = .ok (.aload_n 2, 1) := by decide +kernel
theorem d_LW_law_769 : decode code 769 = .ok (.invokevirtual 70, 3) := by decide +kernel
theorem d_LW_law_772 : decode code 772 = .ok (.iload 5, 2) := by decide +kernel
theorem d_LW_law_774 : decode code 774 = .ok (.if_icmp .eq 5, 3) := by decide +kernel
theorem d_LW_law_777 : decode code 777 = .ok (.iconst 0, 1) := by decide +kernel
theorem d_LW_law_778 : decode code 778 = .ok (.ireturn, 1) := by decide +kernel
theorem d_LW_law_779 : decode code 779 = .ok (.iload 5, 2) := by decide +kernel
theorem d_LW_law_781 : decode code 781 = .ok (.ifCond .ne 15, 3) := by decide +kernel
theorem d_LW_law_784 : decode code 784 = .ok (.aload_n 3, 1) := by decide +kernel
theorem d_LW_law_785 : decode code 785 = .ok (.iconst 0, 1) := by decide +kernel
theorem d_LW_law_786 : decode code 786 = .ok (.laload, 1) := by decide +kernel
theorem d_LW_law_787 : decode code 787 = .ok (.iload 6, 2) := by decide +kernel
theorem d_LW_law_789 : decode code 789 = .ok (.i2l, 1) := by decide +kernel
theorem d_LW_law_790 : decode code 790 = .ok (.lcmp, 1) := by decide +kernel
theorem d_LW_law_791 : decode code 791 = .ok (.ifCond .eq 5, 3) := by decide +kernel
theorem d_LW_law_794 : decode code 794 = .ok (.iconst 0, 1) := by decide +kernel
theorem d_LW_law_795 : decode code 795 = .ok (.ireturn, 1) := by decide +kernel
theorem d_LW_law_796 : decode code 796 = .ok (.goto 238, 3) := by decide +kernel
theorem d_LW_law_799 : decode code 799 = .ok (.aload_n 1, 1) := by decide +kernel
theorem d_LW_law_800 : decode code 800 = .ok (.aload_n 0, 1) := by decide +kernel
theorem d_LW_law_801 : decode code 801 = .ok (.iload 4, 2) := by decide +kernel
theorem d_LW_law_803 : decode code 803 = .ok (.iconst 1, 1) := by decide +kernel
theorem d_LW_law_804 : decode code 804 = .ok (.iadd, 1) := by decide +kernel
theorem d_LW_law_805 : decode code 805 = .ok (.iaload, 1) := by decide +kernel
theorem d_LW_law_806 : decode code 806 = .ok (.i2l, 1) := by decide +kernel
theorem d_LW_law_807 : decode code 807 = .ok (.bipush 32, 2) := by decide +kernel
theorem d_LW_law_809 : decode code 809 = .ok (.lshl, 1) := by decide +kernel
theorem d_LW_law_810 : decode code 810 = .ok (.aload_n 0, 1) := by decide +kernel
theorem d_LW_law_811 : decode code 811 = .ok (.iload 4, 2) := by decide +kernel
theorem d_LW_law_813 : decode code 813 = .ok (.iconst 2, 1) := by decide +kernel
theorem d_LW_law_814 : decode code 814 = .ok (.iadd, 1) := by decide +kernel
theorem d_LW_law_815 : decode code 815 = .ok (.iaload, 1) := by decide +kernel
theorem d_LW_law_816 : decode code 816 = .ok (.i2l, 1) := by decide +kernel
theorem d_LW_law_817 : decode code 817 = .ok (.ldc2_w 86, 3) := by decide +kernel
theorem d_LW_law_820 : decode code 820 = .ok (.land, 1) := by decide +kernel
theorem d_LW_law_821 : decode code 821 = .ok (.lor, 1) := by decide +kernel
theorem d_LW_law_822 : decode code 822 = .ok (.aload_n 0, 1) := by decide +kernel
theorem d_LW_law_823 : decode code 823 = .ok (.iload 4, 2) := by decide +kernel
theorem d_LW_law_825 : decode code 825 = .ok (.iconst 3, 1) := by decide +kernel
theorem d_LW_law_826 : decode code 826 = .ok (.iadd, 1) := by decide +kernel
theorem d_LW_law_827 : decode code 827 = .ok (.iaload, 1) := by decide +kernel
theorem d_LW_law_828 : decode code 828 = .ok (.aload_n 3, 1) := by decide +kernel
theorem d_LW_law_829 : decode code 829 = .ok (.invokestatic 106, 3) := by decide +kernel
theorem d_LW_law_832 : decode code 832 = .ok (.istore 5, 2) := by decide +kernel
theorem d_LW_law_834 : decode code 834 = .ok (.aload_n 2, 1) := by decide +kernel
theorem d_LW_law_835 : decode code 835 = .ok (.aload_n 0, 1) := by decide +kernel
theorem d_LW_law_836 : decode code 836 = .ok (.iload 4, 2) := by decide +kernel
theorem d_LW_law_838 : decode code 838 = .ok (.iconst 1, 1) := by decide +kernel
theorem d_LW_law_839 : decode code 839 = .ok (.iadd, 1) := by decide +kernel
theorem d_LW_law_840 : decode code 840 = .ok (.iaload, 1) := by decide +kernel
theorem d_LW_law_841 : decode code 841 = .ok (.i2l, 1) := by decide +kernel
theorem d_LW_law_842 : decode code 842 = .ok (.bipush 32, 2) := by decide +kernel
theorem d_LW_law_844 : decode code 844 = .ok (.lshl, 1) := by decide +kernel
theorem d_LW_law_845 : decode code 845 = .ok (.aload_n 0, 1) := by decide +kernel
theorem d_LW_law_846 : decode code 846 = .ok (.iload 4, 2) := by decide +kernel
theorem d_LW_law_848 : decode code 848 = .ok (.iconst 2, 1) := by decide +kernel
theorem d_LW_law_849 : decode code 849 = .ok (.iadd, 1) := by decide +kernel
theorem d_LW_law_850 : decode code 850 = .ok (.iaload, 1) := by decide +kernel
theorem d_LW_law_851 : decode code 851 = .ok (.i2l, 1) := by decide +kernel
theorem d_LW_law_852 : decode code 852 = .ok (.ldc2_w 86, 3) := by decide +kernel
theorem d_LW_law_855 : decode code 855 = .ok (.land, 1) := by decide +kernel
theorem d_LW_law_856 : decode code 856 = .ok (.lor, 1) := by decide +kernel
theorem d_LW_law_857 : decode code 857 = .ok (.aload_n 0, 1) := by decide +kernel
theorem d_LW_law_858 : decode code 858 = .ok (.iload 4, 2) := by decide +kernel
theorem d_LW_law_860 : decode code 860 = .ok (.iconst 3, 1) := by decide +kernel
theorem d_LW_law_861 : decode code 861 = .ok (.iadd, 1) := by decide +kernel
theorem d_LW_law_862 : decode code 862 = .ok (.iaload, 1) := by decide +kernel
theorem d_LW_law_863 : decode code 863 = .ok (.invokevirtual 108, 3) := by decide +kernel
theorem d_LW_law_866 : decode code 866 = .ok (.istore 6, 2) := by decide +kernel
theorem d_LW_law_868 : decode code 868 = .ok (.aload_n 2, 1) := by decide +kernel
theorem d_LW_law_869 : decode code 869 = .ok (.invokevirtual 70, 3) := by decide +kernel
theorem d_LW_law_872 : decode code 872 = .ok (.iload 5, 2) := by decide +kernel
theorem d_LW_law_874 : decode code 874 = .ok (.if_icmp .eq 5, 3) := by decide +kernel
theorem d_LW_law_877 : decode code 877 = .ok (.iconst 0, 1) := by decide +kernel
theorem d_LW_law_878 : decode code 878 = .ok (.ireturn, 1) := by decide +kernel
theorem d_LW_law_879 : decode code 879 = .ok (.iload 5, 2) := by decide +kernel
theorem d_LW_law_881 : decode code 881 = .ok (.ifCond .ne 15, 3) := by decide +kernel
theorem d_LW_law_884 : decode code 884 = .ok (.aload_n 3, 1) := by decide +kernel
theorem d_LW_law_885 : decode code 885 = .ok (.iconst 0, 1) := by decide +kernel
theorem d_LW_law_886 : decode code 886 = .ok (.laload, 1) := by decide +kernel
theorem d_LW_law_887 : decode code 887 = .ok (.iload 6, 2) := by decide +kernel
theorem d_LW_law_889 : decode code 889 = .ok (.i2l, 1) := by decide +kernel
theorem d_LW_law_890 : decode code 890 = .ok (.lcmp, 1) := by decide +kernel
theorem d_LW_law_891 : decode code 891 = .ok (.ifCond .eq 5, 3) := by decide +kernel
theorem d_LW_law_894 : decode code 894 = .ok (.iconst 0, 1) := by decide +kernel
theorem d_LW_law_895 : decode code 895 = .ok (.ireturn, 1) := by decide +kernel
theorem d_LW_law_896 : decode code 896 = .ok (.goto 138, 3) := by decide +kernel
theorem d_LW_law_899 : decode code 899 = .ok (.aload_n 1, 1) := by decide +kernel
theorem d_LW_law_900 : decode code 900 = .ok (.aload_n 0, 1) := by decide +kernel
theorem d_LW_law_901 : decode code 901 = .ok (.iload 4, 2) := by decide +kernel
theorem d_LW_law_903 : decode code 903 = .ok (.iconst 1, 1) := by decide +kernel
theorem d_LW_law_904 : decode code 904 = .ok (.iadd, 1) := by decide +kernel
theorem d_LW_law_905 : decode code 905 = .ok (.iaload, 1) := by decide +kernel
theorem d_LW_law_906 : decode code 906 = .ok (.aload_n 0, 1) := by decide +kernel
theorem d_LW_law_907 : decode code 907 = .ok (.iload 4, 2) := by decide +kernel
theorem d_LW_law_909 : decode code 909 = .ok (.iconst 2, 1) := by decide +kernel
theorem d_LW_law_910 : decode code 910 = .ok (.iadd, 1) := by decide +kernel
theorem d_LW_law_911 : decode code 911 = .ok (.iaload, 1) := by decide +kernel
theorem d_LW_law_912 : decode code 912 = .ok (.aload_n 3, 1) := by decide +kernel
theorem d_LW_law_913 : decode code 913 = .ok (.invokestatic 109, 3) := by decide +kernel
theorem d_LW_law_916 : decode code 916 = .ok (.istore 5, 2) := by decide +kernel
theorem d_LW_law_918 : decode code 918 = .ok (.aload_n 2, 1) := by decide +kernel
theorem d_LW_law_919 : decode code 919 = .ok (.aload_n 0, 1) := by decide +kernel
theorem d_LW_law_920 : decode code 920 = .ok (.iload 4, 2) := by decide +kernel
theorem d_LW_law_922 : decode code 922 = .ok (.iconst 1, 1) := by decide +kernel
theorem d_LW_law_923 : decode code 923 = .ok (.iadd, 1) := by decide +kernel
theorem d_LW_law_924 : decode code 924 = .ok (.iaload, 1) := by decide +kernel
theorem d_LW_law_925 : decode code 925 = .ok (.aload_n 0, 1) := by decide +kernel
theorem d_LW_law_926 : decode code 926 = .ok (.iload 4, 2) := by decide +kernel
theorem d_LW_law_928 : decode code 928 = .ok (.iconst 2, 1) := by decide +kernel
theorem d_LW_law_929 : decode code 929 = .ok (.iadd, 1) := by decide +kernel
theorem d_LW_law_930 : decode code 930 = .ok (.iaload, 1) := by decide +kernel
theorem d_LW_law_931 : decode code 931 = .ok (.invokevirtual 111, 3) := by decide +kernel
theorem d_LW_law_934 : decode code 934 = .ok (.istore 6, 2) := by decide +kernel
theorem d_LW_law_936 : decode code 936 = .ok (.aload_n 2, 1) := by decide +kernel
theorem d_LW_law_937 : decode code 937 = .ok (.invokevirtual 70, 3) := by decide +kernel
theorem d_LW_law_940 : decode code 940 = .ok (.iload 5, 2) := by decide +kernel
theorem d_LW_law_942 : decode code 942 = .ok (.if_icmp .eq 5, 3) := by decide +kernel
theorem d_LW_law_945 : decode code 945 = .ok (.iconst 0, 1) := by decide +kernel
theorem d_LW_law_946 : decode code 946 = .ok (.ireturn, 1) := by decide +kernel
theorem d_LW_law_947 : decode code 947 = .ok (.iload 5, 2) := by decide +kernel
theorem d_LW_law_949 : decode code 949 = .ok (.ifCond .ne 15, 3) := by decide +kernel
theorem d_LW_law_952 : decode code 952 = .ok (.aload_n 3, 1) := by decide +kernel
theorem d_LW_law_953 : decode code 953 = .ok (.iconst 0, 1) := by decide +kernel
theorem d_LW_law_954 : decode code 954 = .ok (.laload, 1) := by decide +kernel
theorem d_LW_law_955 : decode code 955 = .ok (.iload 6, 2) := by decide +kernel
theorem d_LW_law_957 : decode code 957 = .ok (.i2l, 1) := by decide +kernel
theorem d_LW_law_958 : decode code 958 = .ok (.lcmp, 1) := by decide +kernel
theorem d_LW_law_959 : decode code 959 = .ok (.ifCond .eq 5, 3) := by decide +kernel
theorem d_LW_law_962 : decode code 962 = .ok (.iconst 0, 1) := by decide +kernel
theorem d_LW_law_963 : decode code 963 = .ok (.ireturn, 1) := by decide +kernel
theorem d_LW_law_964 : decode code 964 = .ok (.goto 70, 3) := by decide +kernel
theorem d_LW_law_967 : decode code 967 = .ok (.aload_n 1, 1) := by decide +kernel
theorem d_LW_law_968 : decode code 968 = .ok (.aload_n 0, 1) := by decide +kernel
theorem d_LW_law_969 : decode code 969 = .ok (.iload 4, 2) := by decide +kernel
theorem d_LW_law_971 : decode code 971 = .ok (.iconst 1, 1) := by decide +kernel
theorem d_LW_law_972 : decode code 972 = .ok (.iadd, 1) := by decide +kernel
theorem d_LW_law_973 : decode code 973 = .ok (.iaload, 1) := by decide +kernel
theorem d_LW_law_974 : decode code 974 = .ok (.aload_n 0, 1) := by decide +kernel
theorem d_LW_law_975 : decode code 975 = .ok (.iload 4, 2) := by decide +kernel
theorem d_LW_law_977 : decode code 977 = .ok (.iconst 2, 1) := by decide +kernel
theorem d_LW_law_978 : decode code 978 = .ok (.iadd, 1) := by decide +kernel
theorem d_LW_law_979 : decode code 979 = .ok (.iaload, 1) := by decide +kernel
theorem d_LW_law_980 : decode code 980 = .ok (.aload_n 3, 1) := by decide +kernel
theorem d_LW_law_981 : decode code 981 = .ok (.invokestatic 112, 3) := by decide +kernel
theorem d_LW_law_984 : decode code 984 = .ok (.istore 5, 2) := by decide +kernel
theorem d_LW_law_986 : decode code 986 = .ok (.aload_n 2, 1) := by decide +kernel
theorem d_LW_law_987 : decode code 987 = .ok (.aload_n 0, 1) := by decide +kernel
theorem d_LW_law_988 : decode code 988 = .ok (.iload 4, 2) := by decide +kernel
theorem d_LW_law_990 : decode code 990 = .ok (.iconst 1, 1) := by decide +kernel
theorem d_LW_law_991 : decode code 991 = .ok (.iadd, 1) := by decide +kernel
theorem d_LW_law_992 : decode code 992 = .ok (.iaload, 1) := by decide +kernel
theorem d_LW_law_993 : decode code 993 = .ok (.aload_n 0, 1) := by decide +kernel
theorem d_LW_law_994 : decode code 994 = .ok (.iload 4, 2) := by decide +kernel
theorem d_LW_law_996 : decode code 996 = .ok (.iconst 2, 1) := by decide +kernel
theorem d_LW_law_997 : decode code 997 = .ok (.iadd, 1) := by decide +kernel
theorem d_LW_law_998 : decode code 998 = .ok (.iaload, 1) := by decide +kernel
theorem d_LW_law_999 : decode code 999 = .ok (.invokevirtual 114, 3) := by decide +kernel
theorem d_LW_law_1002 : decode code 1002 = .ok (.lstore 6, 2) := by decide +kernel
theorem d_LW_law_1004 : decode code 1004 = .ok (.aload_n 2, 1) := by decide +kernel
theorem d_LW_law_1005 : decode code 1005 = .ok (.invokevirtual 70, 3) := by decide +kernel
theorem d_LW_law_1008 : decode code 1008 = .ok (.iload 5, 2) := by decide +kernel
theorem d_LW_law_1010 : decode code 1010 = .ok (.if_icmp .eq 5, 3) := by decide +kernel
theorem d_LW_law_1013 : decode code 1013 = .ok (.iconst 0, 1) := by decide +kernel
theorem d_LW_law_1014 : decode code 1014 = .ok (.ireturn, 1) := by decide +kernel
theorem d_LW_law_1015 : decode code 1015 = .ok (.iload 5, 2) := by decide +kernel
theorem d_LW_law_1017 : decode code 1017 = .ok (.ifCond .ne 14, 3) := by decide +kernel
theorem d_LW_law_1020 : decode code 1020 = .ok (.aload_n 3, 1) := by decide +kernel
theorem d_LW_law_1021 : decode code 1021 = .ok (.iconst 0, 1) := by decide +kernel
theorem d_LW_law_1022 : decode code 1022 = .ok (.laload, 1) := by decide +kernel
theorem d_LW_law_1023 : decode code 1023 = .ok (.lload 6, 2) := by decide +kernel
theorem d_LW_law_1025 : decode code 1025 = .ok (.lcmp, 1) := by decide +kernel
theorem d_LW_law_1026 : decode code 1026 = .ok (.ifCond .eq 5, 3) := by decide +kernel
theorem d_LW_law_1029 : decode code 1029 = .ok (.iconst 0, 1) := by decide +kernel
theorem d_LW_law_1030 : decode code 1030 = .ok (.ireturn, 1) := by decide +kernel
theorem d_LW_law_1031 : decode code 1031 = .ok (.goto 3, 3) := by decide +kernel
theorem d_LW_law_1034 : decode code 1034 = .ok (.iinc 4 4, 3) := by decide +kernel
theorem d_LW_law_1037 : decode code 1037 = .ok (.goto (-994), 3) := by decide +kernel
theorem d_LW_law_1040 : decode code 1040 = .ok (.iconst 1, 1) := by decide +kernel
theorem d_LW_law_1041 : decode code 1041 = .ok (.ireturn, 1) := by decide +kernel
end
section
/-! digits and sums of a number, as numbers -/
/-- how many digits, at most k of them -/
def zd_dg : Nat → Nat → Nat
  | 0, _ => 0
  | k + 1, n => if n = 0 then 0 else zd_dg k (n / 10) + 1
def zd_tw (d : Nat) : Nat := if 9 < 2 * d then 2 * d - 9 else 2 * d
/-- the sum, at most k digits; odd: the last is doubled -/
def zd_cs : Nat → Bool → Nat → Nat
  | 0, _, _ => 0
  | k + 1, b, n => if n = 0 then 0 else (if b then zd_tw (n % 10) else n % 10) + zd_cs k (!b) (n / 10)
def zd_N (x : Int64) : Nat := x.toInt.toNat
theorem zd_neg {x : Int64} (h : x < 0) : zd_N x = 0 := by
  have := Int64.lt_iff_toInt_lt.mp h
  simp at this
  unfold zd_N; omega
theorem zd_lN {n : Nat} (h : n < 2 ^ 63) : zd_N (lN n) = n := by
  unfold zd_N; rw [pk_lT h]; simp
theorem zd_dg0 (k : Nat) : zd_dg k 0 = 0 := by cases k <;> simp [zd_dg]
theorem zd_dg_le (k n : Nat) : zd_dg k n ≤ k := by
  induction k generalizing n with
  | zero => simp [zd_dg]
  | succ k ih =>
    simp only [zd_dg]
    split
    · omega
    · have := ih (n / 10); omega
theorem zd_of {x : Int64} : x < 0 ∨ ∃ k : Nat, k < 2 ^ 63 ∧ x = lN k := by
  by_cases h : x < 0
  · exact Or.inl h
  · exact Or.inr (pk_lOf h)
theorem zd_l0 : (0 : Int64) = lN 0 := rfl
theorem zd_l10 : (10 : Int64) = lN 10 := rfl
theorem zd_div {n : Nat} (h : n < 2 ^ 63) : lN n / 10 = lN (n / 10) := by rw [zd_l10]; exact pk_lDiv h (by decide) (by decide)
theorem zd_rem {n : Nat} (h : n < 2 ^ 63) : (lN n - lN n / 10 * 10).toInt32 = nI (n % 10) := by rw [zd_l10, pk_lRem h (by decide) (by decide), lN_i]
theorem zd_le0 {n : Nat} (h : n < 2 ^ 63) : lg_cmp (lN n) 0 ≤ 0 ↔ n = 0 := by
  rw [lg_cmp_le, zd_l0, pk_lLE h (by decide)]; omega
theorem zd_tw_le {d : Nat} (h : d < 10) : zd_tw d ≤ 9 := by unfold zd_tw; split <;> omega
theorem zd_cs_le (k : Nat) (b : Bool) (n : Nat) : zd_cs k b n ≤ 9 * k := by
  induction k generalizing b n with
  | zero => simp [zd_cs]
  | succ k ih =>
    simp only [zd_cs]
    split
    · omega
    · have h1 := ih true (n / 10)
      have h3 := ih false (n / 10)
      have h2 := zd_tw_le (d := n % 10) (by omega)
      cases b <;> simp <;> omega
set_option maxHeartbeats 4000000 in
set_option maxRecDepth 100000 in
/-- how many digits: none below 1 -/
theorem c_CD_digitsOf (l : Launch) (dC : Nat → ClassId) (dI : Nat → Nat → Nat) (x : Int64) : Met l y_CD_digitsOf (zw y_CD_digitsOf b_CD_digitsOf 5 (some .int)) ({ frames := 0, cells := 0, slots := 0, locals := 0 }) (zPre [.long x] (dC, dI) [] []) (vp_Si (fun r => r = nI (zd_dg 19 (zd_N x)))) 0 0 (fun _ => False) := by
  refine Met.ofW (cc := b_CD_digitsOf) (maxL := 5) (ret := (some .int)) (by decide) rfl ?_
  intro p e s m args below meth c s₁ B hml hv
  obtain ⟨rfl, hP, hK⟩ := hv
  have hx := B.exec
  have hb := B.bytes
  have hr := B.returns
  have hts := atoms_spec (ws := (zw y_CD_digitsOf b_CD_digitsOf 5 (some .int))) B.pre
  have htB : ∀ w ∈ BG, w.before ([.long x] : List Value).toArray s = true := fun w h => hts w (List.mem_cons_of_mem _ h)
  have hown : s.vm.findClass R_CD = some m.cls := findClass_of_methodNamed B.named
  have hlocks := B.notSynchronized
  have CF : CallFix p m c b_CD_digitsOf 5 s ([.long x] : List Value).toArray BG R_CD := ⟨hx, hb, hml, hown, htB⟩
  have hP : va_P (dC, dI) vwCl [] s.heap := hP
  have hl := lv_entry [.long x] (n := 5) (Nat.le_of_ble_eq_true rfl)
  rw [lg_entry_eq]
  generalize (lg_sl [.long x] ++ List.replicate (5 - (lg_sl [.long x]).length) Slot.unset).toArray = ls at hl ⊢
  have hl : lv_has ls 5 [(0, .long x)] := hl
  refine lv_iconst (v := 0) hx hb d_CD_digitsOf_0 (by decide) ?_
  refine lv_istore_n (lv' := [(2, .int 0), (0, .long x)]) hx hb d_CD_digitsOf_1 rfl hl (by decide) rfl (fun ls hl => ?_)
  refine lv_lload_n hx hb d_CD_digitsOf_2 rfl (lv_at hl 1 rfl) ?_
  refine lv_lstore_n (lv' := [(3, .long x), (2, .int 0), (0, .long x)]) hx hb d_CD_digitsOf_3 rfl hl (by decide) rfl (fun ls hl => ?_)
  have loop : ∀ (k i r : Nat) (ls : Array Slot), i + k = 19 → r < 2 ^ 63 → i + zd_dg k r = zd_dg 19 (zd_N x) → lv_has ls 5 [(3, .long (lN r)), (2, .int (nI i)), (0, .long x)] → W p l e (headSpec (zw y_CD_digitsOf b_CD_digitsOf 5 (some .int)) ({ frames := 0, cells := 0, slots := 0, locals := 0 })).room s m ([.long x] : List Value).toArray below meth c s.heap [] 0 0 (MQ below (vp_Si (fun r => r = nI (zd_dg 19 (zd_N x)))) ([.long x] : List Value).toArray s 0 0 (fun _ => False)) (F0 m 4 ls []) := by
    intro k
    induction k with
    | zero =>
      intro i r ls hi hr9 he hl
      refine lv_iload_n hx hb d_CD_digitsOf_4 rfl (lv_at hl 1 rfl) ?_
      refine lv_bipush (v := 19) hx hb d_CD_digitsOf_5 (by decide) ?_
      refine lv_icmp_ge (tgt := 28) hx hb d_CD_digitsOf_7 (by decide) (fun c_7 => ?_) (fun c_7 => ?_)
      · refine lv_iload_n hx hb d_CD_digitsOf_28 rfl (lv_at hl 1 rfl) ?_
        exact W.iret (v := nI i) hx hb hr (fun t ht hW => ⟨_, rfl, by rw [← he]; simp [zd_dg], ht⟩) (fun _ h => by cases h) d_CD_digitsOf_29
      · exact absurd (by show nI 19 ≤ nI i; exact nI_le (by omega) (by omega)) c_7
    | succ k ih =>
      intro i r ls hi hr9 he hl
      refine lv_iload_n hx hb d_CD_digitsOf_4 rfl (lv_at hl 1 rfl) ?_
      refine lv_bipush (v := 19) hx hb d_CD_digitsOf_5 (by decide) ?_
      refine lv_icmp_ge (tgt := 28) hx hb d_CD_digitsOf_7 (by decide) (fun c_7 => ?_) (fun c_7 => ?_)
      · exact absurd c_7 (by show ¬ nI 19 ≤ nI i; exact nI_ge (by omega) (by omega))
      · refine lv_lload_n hx hb d_CD_digitsOf_10 rfl (lv_at hl 0 rfl) ?_
        refine lv_lconst (v := 0) hx hb d_CD_digitsOf_11 (by decide) ?_
        refine W.lcmp hx hb d_CD_digitsOf_12 ?_
        refine lv_if_le (tgt := 28) hx hb d_CD_digitsOf_13 (by decide) (fun c_13 => ?_) (fun c_13 => ?_)
        · have hr0 : r = 0 := (zd_le0 hr9).mp c_13
          subst hr0
          refine lv_iload_n hx hb d_CD_digitsOf_28 rfl (lv_at hl 1 rfl) ?_
          exact W.iret (v := nI i) hx hb hr (fun t ht hW => ⟨_, rfl, by rw [← he, zd_dg0]; rfl, ht⟩) (fun _ h => by cases h) d_CD_digitsOf_29
        · refine lv_lload_n hx hb d_CD_digitsOf_16 rfl (lv_at hl 0 rfl) ?_
          refine lv_ldc2 (v := 10) hx hb hown (htB _ kl_CD_123) d_CD_digitsOf_17 ?_
          refine lv_ldiv hx hb d_CD_digitsOf_20 (by decide) ?_
          refine lv_lstore_n (lv' := [(3, .long ((lN r) / 10)), (2, .int (nI i)), (0, .long x)]) hx hb d_CD_digitsOf_21 rfl hl (by decide) rfl (fun ls hl => ?_)
          refine lv_iinc (v := (nI i) + 1) (lv' := [(2, .int ((nI i) + 1)), (3, .long ((lN r) / 10)), (0, .long x)]) hx hb d_CD_digitsOf_22 hl (k := 1) rfl rfl (by decide) rfl (fun ls hl => ?_)
          refine lv_goto (tgt := 4) hx hb d_CD_digitsOf_25 (by decide) ?_
          have hr0 : r ≠ 0 := fun h => c_13 ((zd_le0 hr9).mpr h)
          refine ih (i + 1) (r / 10) ls (by omega) (by omega) ?_ ?_
          · rw [← he]; simp only [zd_dg, hr0, if_false]; omega
          · have e1 := zd_div hr9
            rw [e1, nI_1] at hl
            exact lv_sub hl [1, 0, 2] rfl
  rcases zd_of (x := x) with hx0 | ⟨n, hn, rfl⟩
  · refine lv_iload_n hx hb d_CD_digitsOf_4 rfl (lv_at hl 1 rfl) ?_
    refine lv_bipush (v := 19) hx hb d_CD_digitsOf_5 (by decide) ?_
    refine lv_icmp_ge (tgt := 28) hx hb d_CD_digitsOf_7 (by decide) (fun c_7 => ?_) (fun c_7 => ?_)
    · exact absurd c_7 (by decide)
    · refine lv_lload_n hx hb d_CD_digitsOf_10 rfl (lv_at hl 0 rfl) ?_
      refine lv_lconst (v := 0) hx hb d_CD_digitsOf_11 (by decide) ?_
      refine W.lcmp hx hb d_CD_digitsOf_12 ?_
      refine lv_if_le (tgt := 28) hx hb d_CD_digitsOf_13 (by decide) (fun c_13 => ?_) (fun c_13 => ?_)
      · refine lv_iload_n hx hb d_CD_digitsOf_28 rfl (lv_at hl 1 rfl) ?_
        exact W.iret (v := 0) hx hb hr (fun t ht hW => ⟨_, rfl, by rw [zd_neg hx0]; rfl, ht⟩) (fun _ h => by cases h) d_CD_digitsOf_29
      · exact absurd ((lg_cmp_le x 0).mpr (Int64.le_of_lt hx0)) c_13
  · exact loop 19 0 n ls rfl hn (by rw [zd_lN hn]; omega) (lv_sub hl [0, 1, 2] rfl)
end
section
set_option maxHeartbeats 4000000 in
set_option maxRecDepth 100000 in
theorem c_CD_doubled (l : Launch) (dC : Nat → ClassId) (dI : Nat → Nat → Nat) (d : Nat) (hd : d < 10) : Met l y_CD_doubled (zw y_CD_doubled b_CD_doubled 2 (some .int)) ({ frames := 0, cells := 0, slots := 0, locals := 0 }) (zPre [.int (nI d)] (dC, dI) [] []) (vp_Si (fun r => r = nI (zd_tw d))) 0 0 (fun _ => False) := by
  refine Met.ofW (cc := b_CD_doubled) (maxL := 2) (ret := (some .int)) (by decide) rfl ?_
  intro p e s m args below meth c s₁ B hml hv
  obtain ⟨rfl, hP, hK⟩ := hv
  have hx := B.exec
  have hb := B.bytes
  have hr := B.returns
  have hts := atoms_spec (ws := (zw y_CD_doubled b_CD_doubled 2 (some .int))) B.pre
  have htB : ∀ w ∈ BG, w.before ([.int (nI d)] : List Value).toArray s = true := fun w h => hts w (List.mem_cons_of_mem _ h)
  have hown : s.vm.findClass R_CD = some m.cls := findClass_of_methodNamed B.named
  have hlocks := B.notSynchronized
  have CF : CallFix p m c b_CD_doubled 2 s ([.int (nI d)] : List Value).toArray BG R_CD := ⟨hx, hb, hml, hown, htB⟩
  have hP : va_P (dC, dI) vwCl [] s.heap := hP
  have hl := lv_entry [.int (nI d)] (n := 2) (Nat.le_of_ble_eq_true rfl)
  rw [lg_entry_eq]
  generalize (lg_sl [.int (nI d)] ++ List.replicate (2 - (lg_sl [.int (nI d)]).length) Slot.unset).toArray = ls at hl ⊢
  have hl : lv_has ls 2 [(0, .int (nI d))] := hl
  refine lv_iconst (v := 2) hx hb d_CD_doubled_0 (by decide) ?_
  refine lv_iload_n hx hb d_CD_doubled_1 rfl (lv_at hl 0 rfl) ?_
  refine lv_imul hx hb d_CD_doubled_2 ?_
  rw [show (2 * (nI d) : Int32) = nI (2 * d) from pk_mul 2 d]
  refine lv_istore_n (lv' := [(1, .int (nI (2 * d))), (0, .int (nI d))]) hx hb d_CD_doubled_3 rfl hl (by decide) rfl (fun ls hl => ?_)
  refine lv_iload_n hx hb d_CD_doubled_4 rfl (lv_at hl 0 rfl) ?_
  refine lv_bipush (v := 9) hx hb d_CD_doubled_5 (by decide) ?_
  refine lv_icmp_le (tgt := 17) hx hb d_CD_doubled_7 (by decide) (fun c_7 => ?_) (fun c_7 => ?_)
  · have h9 : ¬ 9 < 2 * d := fun h => absurd c_7 (show ¬ nI (2 * d) ≤ nI 9 from nI_ge h (by omega))
    refine lv_iload_n hx hb d_CD_doubled_17 rfl (lv_at hl 0 rfl) ?_
    exact W.iret (v := nI (2 * d)) hx hb hr (fun t ht hW => ⟨_, rfl, by rw [zd_tw, if_neg h9], ht⟩) (fun _ h => by cases h) d_CD_doubled_18
  · have h9 : 9 < 2 * d := Nat.not_le.mp (fun h => c_7 (show nI (2 * d) ≤ nI 9 from nI_le h (by omega)))
    refine lv_iload_n hx hb d_CD_doubled_10 rfl (lv_at hl 0 rfl) ?_
    refine lv_bipush (v := 9) hx hb d_CD_doubled_11 (by decide) ?_
    refine lv_isub hx hb d_CD_doubled_13 ?_
    refine lv_goto (tgt := 18) hx hb d_CD_doubled_14 (by decide) ?_
    exact W.iret (v := (nI (2 * d)) - 9) hx hb hr (fun t ht hW => ⟨_, rfl, by rw [zd_tw, if_pos h9]; exact pk_sub (show 9 ≤ 2 * d by omega), ht⟩) (fun _ h => by cases h) d_CD_doubled_18
set_option maxHeartbeats 4000000 in
set_option maxRecDepth 100000 in
theorem c_CD_checkSum (l : Launch) (dC : Nat → ClassId) (dI : Nat → Nat → Nat) (x : Int64) : Met l y_CD_checkSum (zw y_CD_checkSum b_CD_checkSum 7 (some .int)) ({ frames := 1, cells := 0, slots := 0, locals := 21 }) (zPre [.long x] (dC, dI) [] []) (vp_Si (fun r => r = nI (zd_cs 19 false (zd_N x)))) 0 0 (fun _ => False) := by
  refine Met.ofW (cc := b_CD_checkSum) (maxL := 7) (ret := (some .int)) (by decide) rfl ?_
  intro p e s m args below meth c s₁ B hml hv
  obtain ⟨rfl, hP, hK⟩ := hv
  have hx := B.exec
  have hb := B.bytes
  have hr := B.returns
  have hts := atoms_spec (ws := (zw y_CD_checkSum b_CD_checkSum 7 (some .int))) B.pre
  have htB : ∀ w ∈ BG, w.before ([.long x] : List Value).toArray s = true := fun w h => hts w (List.mem_cons_of_mem _ h)
  have hown : s.vm.findClass R_CD = some m.cls := findClass_of_methodNamed B.named
  have hlocks := B.notSynchronized
  have CF : CallFix p m c b_CD_checkSum 7 s ([.long x] : List Value).toArray BG R_CD := ⟨hx, hb, hml, hown, htB⟩
  have hP : va_P (dC, dI) vwCl [] s.heap := hP
  have hl := lv_entry [.long x] (n := 7) (Nat.le_of_ble_eq_true rfl)
  rw [lg_entry_eq]
  generalize (lg_sl [.long x] ++ List.replicate (7 - (lg_sl [.long x]).length) Slot.unset).toArray = ls at hl ⊢
  have hl : lv_has ls 7 [(0, .long x)] := hl
  refine lv_iconst (v := 0) hx hb d_CD_checkSum_0 (by decide) ?_
  refine lv_istore_n (lv' := [(2, .int 0), (0, .long x)]) hx hb d_CD_checkSum_1 rfl hl (by decide) rfl (fun ls hl => ?_)
  refine lv_lload_n hx hb d_CD_checkSum_2 rfl (lv_at hl 1 rfl) ?_
  refine lv_lstore_n (lv' := [(3, .long x), (2, .int 0), (0, .long x)]) hx hb d_CD_checkSum_3 rfl hl (by decide) rfl (fun ls hl => ?_)
  refine lv_iconst (v := 0) hx hb d_CD_checkSum_4 (by decide) ?_
  refine lv_istore (lv' := [(5, .int 0), (3, .long x), (2, .int 0), (0, .long x)]) hx hb d_CD_checkSum_5 hl (by decide) rfl (fun ls hl => ?_)
  have loop : ∀ (k i r S : Nat) (ls : Array Slot), i + k = 19 → r < 2 ^ 63 → S ≤ 9 * i → S + zd_cs k (decide (i % 2 = 1)) r = zd_cs 19 false (zd_N x) → lv_has ls 7 [(5, .int (nI i)), (3, .long (lN r)), (2, .int (nI S)), (0, .long x)] → W p l e (headSpec (zw y_CD_checkSum b_CD_checkSum 7 (some .int)) ({ frames := 1, cells := 0, slots := 0, locals := 21 })).room s m ([.long x] : List Value).toArray below meth c s.heap [] 0 0 (MQ below (vp_Si (fun r => r = nI (zd_cs 19 false (zd_N x)))) ([.long x] : List Value).toArray s 0 0 (fun _ => False)) (F0 m 7 ls []) := by
    intro k
    induction k with
    | zero =>
      intro i r S ls hi hr9 hS he hl
      refine lv_iload hx hb d_CD_checkSum_7 (lv_at hl 0 rfl) ?_
      refine lv_bipush (v := 19) hx hb d_CD_checkSum_9 (by decide) ?_
      refine lv_icmp_ge (tgt := 60) hx hb d_CD_checkSum_11 (by decide) (fun c_11 => ?_) (fun c_11 => ?_)
      · refine lv_iload_n hx hb d_CD_checkSum_60 rfl (lv_at hl 2 rfl) ?_
        exact W.iret (v := nI S) hx hb hr (fun t ht hW => ⟨_, rfl, by rw [← he]; simp [zd_cs], ht⟩) (fun _ h => by cases h) d_CD_checkSum_61
      · exact absurd (by show nI 19 ≤ nI i; exact nI_le (by omega) (by omega)) c_11
    | succ k ih =>
      intro i r S ls hi hr9 hS he hl
      refine lv_iload hx hb d_CD_checkSum_7 (lv_at hl 0 rfl) ?_
      refine lv_bipush (v := 19) hx hb d_CD_checkSum_9 (by decide) ?_
      refine lv_icmp_ge (tgt := 60) hx hb d_CD_checkSum_11 (by decide) (fun c_11 => ?_) (fun c_11 => ?_)
      · exact absurd c_11 (by show ¬ nI 19 ≤ nI i; exact nI_ge (by omega) (by omega))
      · refine lv_lload_n hx hb d_CD_checkSum_14 rfl (lv_at hl 1 rfl) ?_
        refine lv_lconst (v := 0) hx hb d_CD_checkSum_15 (by decide) ?_
        refine W.lcmp hx hb d_CD_checkSum_16 ?_
        refine lv_if_le (tgt := 60) hx hb d_CD_checkSum_17 (by decide) (fun c_17 => ?_) (fun c_17 => ?_)
        · have hr0 : r = 0 := (zd_le0 hr9).mp c_17
          subst hr0
          refine lv_iload_n hx hb d_CD_checkSum_60 rfl (lv_at hl 2 rfl) ?_
          exact W.iret (v := nI S) hx hb hr (fun t ht hW => ⟨_, rfl, by rw [← he]; simp [zd_cs], ht⟩) (fun _ h => by cases h) d_CD_checkSum_61
        · have hr0 : r ≠ 0 := fun h => c_17 ((zd_le0 hr9).mpr h)
          refine lv_lload_n hx hb d_CD_checkSum_20 rfl (lv_at hl 1 rfl) ?_
          refine lv_ldc2 (v := 10) hx hb hown (htB _ kl_CD_123) d_CD_checkSum_21 ?_
          refine lv_lrem hx hb d_CD_checkSum_24 (by decide) ?_
          refine lv_l2i (v := ((lN r) - (lN r) / 10 * 10).toInt32) hx hb d_CD_checkSum_25 rfl ?_
          rw [show (((lN r) - (lN r) / 10 * 10).toInt32 : Int32) = nI (r % 10) from zd_rem hr9]
          refine lv_istore (lv' := [(6, .int (nI (r % 10))), (5, .int (nI i)), (3, .long (lN r)), (2, .int (nI S)), (0, .long x)]) hx hb d_CD_checkSum_26 hl (by decide) rfl (fun ls hl => ?_)
          refine lv_iload_n hx hb d_CD_checkSum_28 rfl (lv_at hl 3 rfl) ?_
          refine lv_iload hx hb d_CD_checkSum_29 (lv_at hl 1 rfl) ?_
          refine lv_iconst (v := 2) hx hb d_CD_checkSum_31 (by decide) ?_
          refine lv_irem hx hb d_CD_checkSum_32 (by decide) ?_
          rw [show ((nI i) - (nI i) / 2 * 2 : Int32) = nI (i % 2) from pk_rem (a := i) (d := 2) (by omega) (by decide) (by decide)]
          refine lv_if_ne (tgt := 41) hx hb d_CD_checkSum_33 (by decide) (fun c_33 => ?_) (fun c_33 => ?_)
          · have hod : i % 2 = 1 := by
              rcases (show i % 2 = 0 ∨ i % 2 = 1 by omega) with h | h
              · rw [h] at c_33; exact absurd rfl c_33
              · exact h
            refine lv_iload hx hb d_CD_checkSum_41 (lv_at hl 0 rfl) ?_
            refine vp_callSi (va_Run.run (zr_S (n := 1) (As := [.int (nI (r % 10))]) (rest := [.int (nI S)]) CF (c_CD_doubled l dC dI (r % 10) (by omega)) mc_CD_doubled lk_CD_174 mt_CD_doubled ni_CD rfl rfl (by decide +kernel) ⟨Nat.le_of_ble_eq_true rfl, Nat.le_of_ble_eq_true rfl⟩ (hP.sub (ws' := []) [] rfl) (hK.sub (tys' := []) [] rfl) rfl rfl hl.1 rfl (lv_room (Nat.le_of_ble_eq_true rfl)) d_CD_checkSum_43 ⟨Nat.zero_le _, Nat.zero_le _⟩)) (fun r_43 h_43 => ?_)
            subst h_43
            have hd9 : zd_tw (r % 10) ≤ 9 := zd_tw_le (by omega)
            obtain ⟨S2, hS2⟩ : ∃ z : Nat, z = S + (zd_tw (r % 10)) := ⟨_, rfl⟩
            have he2 : S2 + zd_cs k (decide ((i + 1) % 2 = 1)) (r / 10) = zd_cs 19 false (zd_N x) := by
              rw [← he, hS2, show decide ((i + 1) % 2 = 1) = false by simp; omega, show decide (i % 2 = 1) = true by simp; omega]; simp only [zd_cs, hr0, if_false]; simp; omega
            refine lv_iadd hx hb d_CD_checkSum_46 ?_
            rw [show ((nI S) + (nI (zd_tw (r % 10))) : Int32) = nI S2 by rw [hS2]; exact nI_add _ _]
            refine lv_istore_n (lv' := [(2, .int (nI S2)), (6, .int (nI (r % 10))), (5, .int (nI i)), (3, .long (lN r)), (0, .long x)]) hx hb d_CD_checkSum_47 rfl hl (by decide) rfl (fun ls hl => ?_)
            refine lv_lload_n hx hb d_CD_checkSum_48 rfl (lv_at hl 3 rfl) ?_
            refine lv_ldc2 (v := 10) hx hb hown (htB _ kl_CD_123) d_CD_checkSum_49 ?_
            refine lv_ldiv hx hb d_CD_checkSum_52 (by decide) ?_
            refine lv_lstore_n (lv' := [(3, .long ((lN r) / 10)), (2, .int (nI S2)), (6, .int (nI (r % 10))), (5, .int (nI i)), (0, .long x)]) hx hb d_CD_checkSum_53 rfl hl (by decide) rfl (fun ls hl => ?_)
            refine lv_iinc (v := (nI i) + 1) (lv' := [(5, .int ((nI i) + 1)), (3, .long ((lN r) / 10)), (2, .int (nI S2)), (6, .int (nI (r % 10))), (0, .long x)]) hx hb d_CD_checkSum_54 hl (k := 3) rfl rfl (by decide) rfl (fun ls hl => ?_)
            refine lv_goto (tgt := 7) hx hb d_CD_checkSum_57 (by decide) ?_
            rw [zd_div hr9, nI_1] at hl
            exact ih (i + 1) (r / 10) S2 ls (by omega) (by omega) (by omega) he2 (lv_sub hl [0, 1, 2, 4] rfl)
          · have hev : i % 2 = 0 := by
              rcases (show i % 2 = 0 ∨ i % 2 = 1 by omega) with h | h
              · exact h
              · rw [h] at c_33; exact absurd c_33 (by decide)
            refine lv_iload hx hb d_CD_checkSum_36 (lv_at hl 0 rfl) ?_
            refine lv_goto (tgt := 46) hx hb d_CD_checkSum_38 (by decide) ?_
            have hd9 : r % 10 ≤ 9 := by omega
            obtain ⟨S2, hS2⟩ : ∃ z : Nat, z = S + (r % 10) := ⟨_, rfl⟩
            have he2 : S2 + zd_cs k (decide ((i + 1) % 2 = 1)) (r / 10) = zd_cs 19 false (zd_N x) := by
              rw [← he, hS2, show decide ((i + 1) % 2 = 1) = true by simp; omega, show decide (i % 2 = 1) = false by simp; omega]; simp only [zd_cs, hr0, if_false]; simp; omega
            refine lv_iadd hx hb d_CD_checkSum_46 ?_
            rw [show ((nI S) + (nI (r % 10)) : Int32) = nI S2 by rw [hS2]; exact nI_add _ _]
            refine lv_istore_n (lv' := [(2, .int (nI S2)), (6, .int (nI (r % 10))), (5, .int (nI i)), (3, .long (lN r)), (0, .long x)]) hx hb d_CD_checkSum_47 rfl hl (by decide) rfl (fun ls hl => ?_)
            refine lv_lload_n hx hb d_CD_checkSum_48 rfl (lv_at hl 3 rfl) ?_
            refine lv_ldc2 (v := 10) hx hb hown (htB _ kl_CD_123) d_CD_checkSum_49 ?_
            refine lv_ldiv hx hb d_CD_checkSum_52 (by decide) ?_
            refine lv_lstore_n (lv' := [(3, .long ((lN r) / 10)), (2, .int (nI S2)), (6, .int (nI (r % 10))), (5, .int (nI i)), (0, .long x)]) hx hb d_CD_checkSum_53 rfl hl (by decide) rfl (fun ls hl => ?_)
            refine lv_iinc (v := (nI i) + 1) (lv' := [(5, .int ((nI i) + 1)), (3, .long ((lN r) / 10)), (2, .int (nI S2)), (6, .int (nI (r % 10))), (0, .long x)]) hx hb d_CD_checkSum_54 hl (k := 3) rfl rfl (by decide) rfl (fun ls hl => ?_)
            refine lv_goto (tgt := 7) hx hb d_CD_checkSum_57 (by decide) ?_
            rw [zd_div hr9, nI_1] at hl
            exact ih (i + 1) (r / 10) S2 ls (by omega) (by omega) (by omega) he2 (lv_sub hl [0, 1, 2, 4] rfl)
  rcases zd_of (x := x) with hx0 | ⟨n, hn, rfl⟩
  · refine lv_iload hx hb d_CD_checkSum_7 (lv_at hl 0 rfl) ?_
    refine lv_bipush (v := 19) hx hb d_CD_checkSum_9 (by decide) ?_
    refine lv_icmp_ge (tgt := 60) hx hb d_CD_checkSum_11 (by decide) (fun c_11 => ?_) (fun c_11 => ?_)
    · exact absurd c_11 (by decide)
    · refine lv_lload_n hx hb d_CD_checkSum_14 rfl (lv_at hl 1 rfl) ?_
      refine lv_lconst (v := 0) hx hb d_CD_checkSum_15 (by decide) ?_
      refine W.lcmp hx hb d_CD_checkSum_16 ?_
      refine lv_if_le (tgt := 60) hx hb d_CD_checkSum_17 (by decide) (fun c_17 => ?_) (fun c_17 => ?_)
      · refine lv_iload_n hx hb d_CD_checkSum_60 rfl (lv_at hl 2 rfl) ?_
        exact W.iret (v := 0) hx hb hr (fun t ht hW => ⟨_, rfl, by rw [zd_neg hx0]; rfl, ht⟩) (fun _ h => by cases h) d_CD_checkSum_61
      · exact absurd ((lg_cmp_le x 0).mpr (Int64.le_of_lt hx0)) c_17
  · exact loop 19 0 n 0 ls rfl hn (by omega) (by rw [zd_lN hn]; simp) (lv_sub hl [0, 1, 2, 3] rfl)
set_option maxHeartbeats 4000000 in
set_option maxRecDepth 100000 in
theorem c_CD_isGood (l : Launch) (dC : Nat → ClassId) (dI : Nat → Nat → Nat) (x : Int64) : Met l y_CD_isGood (zw y_CD_isGood b_CD_isGood 2 (some .boolean)) ({ frames := 2, cells := 0, slots := 0, locals := 47 }) (zPre [.long x] (dC, dI) [] []) (vp_Si (fun r => r = if zd_cs 19 false (zd_N x) % 10 = 0 then 1 else 0)) 0 0 (fun _ => False) := by
  refine Met.ofW (cc := b_CD_isGood) (maxL := 2) (ret := (some .boolean)) (by decide) rfl ?_
  intro p e s m args below meth c s₁ B hml hv
  obtain ⟨rfl, hP, hK⟩ := hv
  have hx := B.exec
  have hb := B.bytes
  have hr := B.returns
  have hts := atoms_spec (ws := (zw y_CD_isGood b_CD_isGood 2 (some .boolean))) B.pre
  have htB : ∀ w ∈ BG, w.before ([.long x] : List Value).toArray s = true := fun w h => hts w (List.mem_cons_of_mem _ h)
  have hown : s.vm.findClass R_CD = some m.cls := findClass_of_methodNamed B.named
  have hlocks := B.notSynchronized
  have CF : CallFix p m c b_CD_isGood 2 s ([.long x] : List Value).toArray BG R_CD := ⟨hx, hb, hml, hown, htB⟩
  have hP : va_P (dC, dI) vwCl [] s.heap := hP
  have hl := lv_entry [.long x] (n := 2) (Nat.le_of_ble_eq_true rfl)
  rw [lg_entry_eq]
  generalize (lg_sl [.long x] ++ List.replicate (2 - (lg_sl [.long x]).length) Slot.unset).toArray = ls at hl ⊢
  have hl : lv_has ls 2 [(0, .long x)] := hl
  refine lv_lload_n hx hb d_CD_isGood_0 rfl (lv_at hl 0 rfl) ?_
  refine vp_callSi (va_Run.run (zr_S (n := 1) (As := [.long x]) (rest := []) CF (c_CD_checkSum l dC dI x) mc_CD_checkSum lk_CD_125 mt_CD_checkSum ni_CD rfl rfl (by decide +kernel) ⟨Nat.le_of_ble_eq_true rfl, Nat.le_of_ble_eq_true rfl⟩ (hP.sub (ws' := []) [] rfl) (hK.sub (tys' := []) [] rfl) rfl rfl hl.1 rfl (lv_room (Nat.le_of_ble_eq_true rfl)) d_CD_isGood_1 ⟨Nat.zero_le _, Nat.zero_le _⟩)) (fun r_1 h_1 => ?_)
  subst h_1
  have hle := zd_cs_le 19 false (zd_N x)
  refine lv_bipush (v := 10) hx hb d_CD_isGood_4 (by decide) ?_
  refine lv_irem hx hb d_CD_isGood_6 (by decide) ?_
  rw [show ((nI (zd_cs 19 false (zd_N x))) - (nI (zd_cs 19 false (zd_N x))) / 10 * 10 : Int32) = nI (zd_cs 19 false (zd_N x) % 10) from pk_rem (d := 10) (by omega) (by decide) (by decide)]
  refine lv_if_ne (tgt := 14) hx hb d_CD_isGood_7 (by decide) (fun c_7 => ?_) (fun c_7 => ?_)
  · have h0 : ¬ zd_cs 19 false (zd_N x) % 10 = 0 := fun h => c_7 (by rw [h]; rfl)
    refine lv_iconst (v := 0) hx hb d_CD_isGood_14 (by decide) ?_
    exact W.zret (v := 0) (ty := .boolean) hx hb hr rfl (fun t ht hW => ⟨_, rfl, by rw [if_neg h0], ht⟩) (fun _ h => by cases h) d_CD_isGood_15
  · have h0 : zd_cs 19 false (zd_N x) % 10 = 0 := (nI_eq (b := 0) (by omega) (by decide)).mp c_7
    refine lv_iconst (v := 1) hx hb d_CD_isGood_10 (by decide) ?_
    refine lv_goto (tgt := 15) hx hb d_CD_isGood_11 (by decide) ?_
    exact W.zret (v := 1) (ty := .boolean) hx hb hr rfl (fun t ht hW => ⟨_, rfl, by rw [if_pos h0], ht⟩) (fun _ h => by cases h) d_CD_isGood_15
end
section
/-! WORLDS OF A FIXED SHAPE: which cells a method may change, what stands behind a call; the first place where something holds -/
def zA (ws : va_W) : Nat → Prop := fun q => ∃ (k : Nat) (e : va_E), ws[k]? = some (q, e)
theorem zA_of {ws : va_W} {A : Nat → Prop} (h : va_D A ws) : va_D (zA ws) ws := ⟨h.1, fun k q hk => ⟨k, q.2, hk⟩⟩
theorem zA_lt {D : va_G} {ws : va_W} {H : Heap} (h : va_P D vwCl ws H) {q : Nat} (hq : zA ws q) : q < H.size := by
  obtain ⟨k, e, hk⟩ := hq
  exact (h k _ hk).lt
theorem zA_sub {ws wc : va_W} {A : Nat → Prop} (hD : va_D A ws) (is : List Nat) (h : is.map (fun i => ws[i]?) = wc.map some) {q : Nat} (hq : zA wc q) : A q := by
  obtain ⟨k, e, hk⟩ := hq
  have h1 : (wc.map some)[k]? = some (some (q, e)) := by rw [List.getElem?_map, hk]; rfl
  rw [← h, List.getElem?_map] at h1
  cases hi : is[k]? with
  | none => simp [hi] at h1
  | some i =>
    simp [hi] at h1
    exact hD.2 i _ h1
def zset : va_W → List Nat → va_W → va_W
  | ws, i :: is, e :: es => zset (ws.set i e) is es
  | ws, _, _ => ws
theorem zset_get : ∀ (is : List Nat) (es ws : va_W) (k : Nat) (q : Nat × va_E), is.length = es.length → (zset ws is es)[k]? = some q → (∃ j : Nat, es[j]? = some q) ∨ (ws[k]? = some q ∧ k ∉ is)
  | [], [], ws, k, q, _, h => Or.inr ⟨h, by simp⟩
  | i :: is, e :: es, ws, k, q, hl, h => by
    rcases zset_get is es (ws.set i e) k q (by simpa using hl) h with ⟨j, hj⟩ | ⟨h1, h2⟩
    · exact Or.inl ⟨j + 1, hj⟩
    · by_cases hk : i = k
      · subst hk
        rw [List.getElem?_set] at h1
        simp only [if_true] at h1
        split at h1
        · exact Or.inl ⟨0, h1⟩
        · cases h1
      · rw [List.getElem?_set_ne hk] at h1
        exact Or.inr ⟨h1, by simp [Ne.symm hk, h2]⟩
  | [], _ :: _, _, _, _, hl, _ => by simp at hl
  | _ :: _, [], _, _, _, hl, _ => by simp at hl
theorem zD_of {A : Nat → Prop} {ws ws' : va_W} (h : ws'.map (·.1) = ws.map (·.1)) (hD : va_D A ws) : va_D A ws' := by
  have key : ∀ (k : Nat) (q : Nat × va_E), ws'[k]? = some q → ∃ e, ws[k]? = some (q.1, e) := by
    intro k q hq
    have h1 : (ws'.map (·.1))[k]? = some q.1 := by rw [List.getElem?_map, hq]; rfl
    rw [h, List.getElem?_map] at h1
    cases hw : ws[k]? with
    | none => simp [hw] at h1
    | some x =>
      simp [hw] at h1
      exact ⟨x.2, by rw [← h1]⟩
  refine ⟨fun i j p q hi hj e => ?_, fun k q hk => ?_⟩
  · obtain ⟨e1, h1⟩ := key i p hi
    obtain ⟨e2, h2⟩ := key j q hj
    exact hD.1 i j _ _ h1 h2 e
  · obtain ⟨e1, h1⟩ := key k q hk
    exact hD.2 k (q.1, e1) h1
/-- behind a call: the callee's cells anew, the others as they were -/
theorem zj {D : va_G} {ws wc w1 ws' : va_W} {A0 : Nat → Prop} {H H1 : Heap} (hP : va_P D vwCl ws H) (hD : va_D A0 ws) (is : List Nat) (hC : is.map (fun i => ws[i]?) = wc.map some) (hP1 : va_P D vwCl w1 H1) (hk : ∀ q : Nat, q < H.size → ¬ zA wc q → H1[q]? = H[q]?) (hlen : is.length = w1.length) (hs : zset ws is w1 = ws') : va_P D vwCl ws' H1 := by
  subst hs
  intro k q hq
  rcases zset_get is w1 ws k q hlen hq with ⟨j, hj⟩ | ⟨h1, h2⟩
  · exact hP1 j q hj
  · refine (hP k q h1).kept (hk q.1 (hP k q h1).lt ?_)
    rintro ⟨k2, e, h3⟩
    have h4 : (wc.map some)[k2]? = some (some (q.1, e)) := by rw [List.getElem?_map, h3]; rfl
    rw [← hC, List.getElem?_map] at h4
    cases hi : is[k2]? with
    | none => simp [hi] at h4
    | some i =>
      simp [hi] at h4
      have := hD.1 k i q _ h1 h4 rfl
      subst this
      exact h2 (List.mem_of_getElem? hi)
/-- the first place below n where P holds, else n -/
def zf_ix (P : Nat → Bool) : Nat → Nat
  | 0 => 0
  | n + 1 => if zf_ix P n < n then zf_ix P n else if P n then n else n + 1
theorem zf_le (P : Nat → Bool) (n : Nat) : zf_ix P n ≤ n := by
  induction n with
  | zero => simp [zf_ix]
  | succ n ih =>
    simp only [zf_ix]
    split
    · omega
    · split <;> omega
theorem zf_spec (P : Nat → Bool) (n : Nat) : (zf_ix P n < n → P (zf_ix P n) = true) ∧ ∀ k, k < zf_ix P n → P k = false := by
  induction n with
  | zero => simp [zf_ix]
  | succ n ih =>
    have hle := zf_le P n
    simp only [zf_ix]
    split
    · rename_i h
      exact ⟨fun _ => ih.1 h, ih.2⟩
    · rename_i h
      have hn : zf_ix P n = n := by omega
      rw [hn] at ih
      split
      · rename_i hp
        exact ⟨fun _ => hp, ih.2⟩
      · rename_i hp
        refine ⟨fun h => absurd h (by omega), fun k hk => ?_⟩
        by_cases e : k = n
        · subst e; simpa using hp
        · exact ih.2 k (by omega)
theorem zf_eq {P : Nat → Bool} {n i : Nat} (hi : i < n) (hp : P i = true) (hb : ∀ k, k < i → P k = false) : zf_ix P n = i := by
  have h := zf_spec P n
  rcases Nat.lt_trichotomy (zf_ix P n) i with h1 | h1 | h1
  · have := h.1 (by omega); rw [hb _ h1] at this; cases this
  · exact h1
  · have := h.2 i h1; rw [hp] at this; cases this
theorem zf_none {P : Nat → Bool} {n : Nat} (hb : ∀ k, k < n → P k = false) : zf_ix P n = n := by
  have h := zf_spec P n
  have hle := zf_le P n
  rcases Nat.lt_or_ge (zf_ix P n) n with h1 | h1
  · have := h.1 h1; rw [hb _ h1] at this; cases this
  · omega
def zf_r (P : Nat → Bool) (n : Nat) : Int32 := if zf_ix P n < n then nI (zf_ix P n) else -1
theorem zf_rs {P : Nat → Bool} {n i : Nat} (hi : i < n) (hp : P i = true) (hb : ∀ k, k < i → P k = false) : zf_r P n = nI i := by
  unfold zf_r; rw [zf_eq hi hp hb, if_pos hi]
theorem zf_rn {P : Nat → Bool} {n : Nat} (hb : ∀ k, k < n → P k = false) : zf_r P n = -1 := by
  unfold zf_r; rw [zf_none hb, if_neg (Nat.lt_irrefl n)]
theorem zf_m1 {n : Nat} (h : n < 2 ^ 31) : ¬ nI n = -1 := by
  intro e
  have h1 := nI_toInt h
  rw [e] at h1
  have : ((-1 : Int32)).toInt = -1 := by decide
  omega
theorem zb_in {i : Int32} {n : Nat} (j : Nat) (e : i = nI j) (h : j < n) (hn : n < 2 ^ 31) : vp_in i n := by rw [e]; exact vp_in_nI h hn
theorem zb_cl {j : Nat} (h : j < 2 ^ 31) : (nI j).toNatClampNeg = j := nI_clamp h
end
section
set_option maxHeartbeats 4000000 in
set_option maxRecDepth 100000 in
theorem c_RT_isFull (l : Launch) (dC : Nat → ClassId) (dI : Nat → Nat → Nat) (hR hp hq hi : Nat) (cP cQ cS : ClassId) (rc : Nat) (rp rl ri : Nat → Int32) (hrc : rc ≤ 40) : Met l y_RT_isFull (zw y_RT_isFull b_RT_isFull 1 (some .boolean)) ({ frames := 0, cells := 0, slots := 0, locals := 0 }) (zPre [.ref hR] (dC, dI) [(hR, .inr (2, [.ref hp, .ref hq, .ref hi, .int (nI rc)])), (hp, .inl (cP, 40, .inl rp)), (hq, .inl (cQ, 40, .inl rl)), (hi, .inl (cS, 40, .inl ri))] [(cP, .int), (cQ, .int), (cS, .int)]) (vp_Si (fun r => r = if 40 ≤ rc then 1 else 0)) 0 0 (fun _ => False) := by
  refine Met.ofW (cc := b_RT_isFull) (maxL := 1) (ret := (some .boolean)) (by decide) rfl ?_
  intro p e s m args below meth c s₁ B hml hv
  obtain ⟨rfl, hP, hK⟩ := hv
  have hx := B.exec
  have hb := B.bytes
  have hr := B.returns
  have hts := atoms_spec (ws := (zw y_RT_isFull b_RT_isFull 1 (some .boolean))) B.pre
  have htB : ∀ w ∈ BG, w.before ([.ref hR] : List Value).toArray s = true := fun w h => hts w (List.mem_cons_of_mem _ h)
  have hown : s.vm.findClass R_RT = some m.cls := findClass_of_methodNamed B.named
  have hlocks := B.notSynchronized
  have CF : CallFix p m c b_RT_isFull 1 s ([.ref hR] : List Value).toArray BG R_RT := ⟨hx, hb, hml, hown, htB⟩
  have hP : va_P (dC, dI) vwCl [(hR, .inr (2, [.ref hp, .ref hq, .ref hi, .int (nI rc)])), (hp, .inl (cP, 40, .inl rp)), (hq, .inl (cQ, 40, .inl rl)), (hi, .inl (cS, 40, .inl ri))] s.heap := hP
  have hl := lv_entry [.ref hR] (n := 1) (Nat.le_of_ble_eq_true rfl)
  rw [lg_entry_eq]
  generalize (lg_sl [.ref hR] ++ List.replicate (1 - (lg_sl [.ref hR]).length) Slot.unset).toArray = ls at hl ⊢
  have hl : lv_has ls 1 [(0, .ref hR)] := hl
  refine lv_aload_n hx hb d_RT_isFull_0 rfl (lv_at hl 0 rfl) ?_
  refine va_get (D := (dC, dI)) (ci := 2) (v := .int (nI rc)) (C := R_RT) (T := T_RT) (N := 4) hx hb htB i_RT hown hK hP 0 rfl rfl 3 (by decide) (htB _ lf_RT_21) (fun _ h9 => h9) rfl d_RT_isFull_1 ?_
  refine lv_bipush (v := 40) hx hb d_RT_isFull_4 (by decide) ?_
  refine lv_icmp_lt (tgt := 13) hx hb d_RT_isFull_6 (by decide) (fun c_6 => ?_) (fun c_6 => ?_)
  · have h0 : ¬ 40 ≤ rc := fun h => absurd c_6 (show ¬ nI rc < nI 40 from nI_nlt h (by omega))
    refine lv_iconst (v := 0) hx hb d_RT_isFull_13 (by decide) ?_
    exact W.zret (v := 0) (ty := .boolean) hx hb hr rfl (fun t ht hW => ⟨_, rfl, by rw [if_neg h0], ht⟩) (fun _ h => by cases h) d_RT_isFull_14
  · have h0 : 40 ≤ rc := Nat.not_lt.mp (fun h => c_6 (show nI rc < nI 40 from nI_lt h (by omega)))
    refine lv_iconst (v := 1) hx hb d_RT_isFull_9 (by decide) ?_
    refine lv_goto (tgt := 14) hx hb d_RT_isFull_10 (by decide) ?_
    exact W.zret (v := 1) (ty := .boolean) hx hb hr rfl (fun t ht hW => ⟨_, rfl, by rw [if_pos h0], ht⟩) (fun _ h => by cases h) d_RT_isFull_14
set_option maxHeartbeats 4000000 in
set_option maxRecDepth 100000 in
theorem c_AT_isFull (l : Launch) (dC : Nat → ClassId) (dI : Nat → Nat → Nat) (hT hs hu ho : Nat) (cI cU cO : ClassId) (ac : Nat) (ai ut ol : Nat → Int32) (hac : ac ≤ 64) : Met l y_AT_isFull (zw y_AT_isFull b_AT_isFull 1 (some .boolean)) ({ frames := 0, cells := 0, slots := 0, locals := 0 }) (zPre [.ref hT] (dC, dI) [(hT, .inr (0, [.ref hs, .ref hu, .ref ho, .int (nI ac)])), (hs, .inl (cI, 64, .inl ai)), (hu, .inl (cU, 512, .inl ut)), (ho, .inl (cO, 64, .inl ol))] [(cI, .int), (cU, .int), (cO, .int)]) (vp_Si (fun r => r = if 64 ≤ ac then 1 else 0)) 0 0 (fun _ => False) := by
  refine Met.ofW (cc := b_AT_isFull) (maxL := 1) (ret := (some .boolean)) (by decide) rfl ?_
  intro p e s m args below meth c s₁ B hml hv
  obtain ⟨rfl, hP, hK⟩ := hv
  have hx := B.exec
  have hb := B.bytes
  have hr := B.returns
  have hts := atoms_spec (ws := (zw y_AT_isFull b_AT_isFull 1 (some .boolean))) B.pre
  have htB : ∀ w ∈ BG, w.before ([.ref hT] : List Value).toArray s = true := fun w h => hts w (List.mem_cons_of_mem _ h)
  have hown : s.vm.findClass R_AT = some m.cls := findClass_of_methodNamed B.named
  have hlocks := B.notSynchronized
  have CF : CallFix p m c b_AT_isFull 1 s ([.ref hT] : List Value).toArray BG R_AT := ⟨hx, hb, hml, hown, htB⟩
  have hP : va_P (dC, dI) vwCl [(hT, .inr (0, [.ref hs, .ref hu, .ref ho, .int (nI ac)])), (hs, .inl (cI, 64, .inl ai)), (hu, .inl (cU, 512, .inl ut)), (ho, .inl (cO, 64, .inl ol))] s.heap := hP
  have hl := lv_entry [.ref hT] (n := 1) (Nat.le_of_ble_eq_true rfl)
  rw [lg_entry_eq]
  generalize (lg_sl [.ref hT] ++ List.replicate (1 - (lg_sl [.ref hT]).length) Slot.unset).toArray = ls at hl ⊢
  have hl : lv_has ls 1 [(0, .ref hT)] := hl
  refine lv_aload_n hx hb d_AT_isFull_0 rfl (lv_at hl 0 rfl) ?_
  refine va_get (D := (dC, dI)) (ci := 0) (v := .int (nI ac)) (C := R_AT) (T := T_AT) (N := 4) hx hb htB i_AT hown hK hP 0 rfl rfl 3 (by decide) (htB _ lf_AT_21) (fun _ h9 => h9) rfl d_AT_isFull_1 ?_
  refine lv_bipush (v := 64) hx hb d_AT_isFull_4 (by decide) ?_
  refine lv_icmp_lt (tgt := 13) hx hb d_AT_isFull_6 (by decide) (fun c_6 => ?_) (fun c_6 => ?_)
  · have h0 : ¬ 64 ≤ ac := fun h => absurd c_6 (show ¬ nI ac < nI 64 from nI_nlt h (by omega))
    refine lv_iconst (v := 0) hx hb d_AT_isFull_13 (by decide) ?_
    exact W.zret (v := 0) (ty := .boolean) hx hb hr rfl (fun t ht hW => ⟨_, rfl, by rw [if_neg h0], ht⟩) (fun _ h => by cases h) d_AT_isFull_14
  · have h0 : 64 ≤ ac := Nat.not_lt.mp (fun h => c_6 (show nI ac < nI 64 from nI_lt h (by omega)))
    refine lv_iconst (v := 1) hx hb d_AT_isFull_9 (by decide) ?_
    refine lv_goto (tgt := 14) hx hb d_AT_isFull_10 (by decide) ?_
    exact W.zret (v := 1) (ty := .boolean) hx hb hr rfl (fun t ht hW => ⟨_, rfl, by rw [if_pos h0], ht⟩) (fun _ h => by cases h) d_AT_isFull_14
set_option maxHeartbeats 4000000 in
set_option maxRecDepth 100000 in
theorem c_CT_isFull (l : Launch) (dC : Nat → ClassId) (dI : Nat → Nat → Nat) (hC hn ha hk : Nat) (cN cA cK : ClassId) (cc : Nat) (cn : Nat → Int64) (ca cb : Nat → Int32) (hcc : cc ≤ 100) : Met l y_CT_isFull (zw y_CT_isFull b_CT_isFull 1 (some .boolean)) ({ frames := 0, cells := 0, slots := 0, locals := 0 }) (zPre [.ref hC] (dC, dI) [(hC, .inr (1, [.ref hn, .ref ha, .ref hk, .int (nI cc)])), (hn, .inl (cN, 100, .inr (.inl cn))), (ha, .inl (cA, 100, .inl ca)), (hk, .inl (cK, 100, .inl cb))] [(cN, .long), (cA, .int), (cK, .boolean)]) (vp_Si (fun r => r = if 100 ≤ cc then 1 else 0)) 0 0 (fun _ => False) := by
  refine Met.ofW (cc := b_CT_isFull) (maxL := 1) (ret := (some .boolean)) (by decide) rfl ?_
  intro p e s m args below meth c s₁ B hml hv
  obtain ⟨rfl, hP, hK⟩ := hv
  have hx := B.exec
  have hb := B.bytes
  have hr := B.returns
  have hts := atoms_spec (ws := (zw y_CT_isFull b_CT_isFull 1 (some .boolean))) B.pre
  have htB : ∀ w ∈ BG, w.before ([.ref hC] : List Value).toArray s = true := fun w h => hts w (List.mem_cons_of_mem _ h)
  have hown : s.vm.findClass R_CT = some m.cls := findClass_of_methodNamed B.named
  have hlocks := B.notSynchronized
  have CF : CallFix p m c b_CT_isFull 1 s ([.ref hC] : List Value).toArray BG R_CT := ⟨hx, hb, hml, hown, htB⟩
  have hP : va_P (dC, dI) vwCl [(hC, .inr (1, [.ref hn, .ref ha, .ref hk, .int (nI cc)])), (hn, .inl (cN, 100, .inr (.inl cn))), (ha, .inl (cA, 100, .inl ca)), (hk, .inl (cK, 100, .inl cb))] s.heap := hP
  have hl := lv_entry [.ref hC] (n := 1) (Nat.le_of_ble_eq_true rfl)
  rw [lg_entry_eq]
  generalize (lg_sl [.ref hC] ++ List.replicate (1 - (lg_sl [.ref hC]).length) Slot.unset).toArray = ls at hl ⊢
  have hl : lv_has ls 1 [(0, .ref hC)] := hl
  refine lv_aload_n hx hb d_CT_isFull_0 rfl (lv_at hl 0 rfl) ?_
  refine va_get (D := (dC, dI)) (ci := 1) (v := .int (nI cc)) (C := R_CT) (T := T_CT) (N := 4) hx hb htB i_CT hown hK hP 0 rfl rfl 3 (by decide) (htB _ lf_CT_23) (fun _ h9 => h9) rfl d_CT_isFull_1 ?_
  refine lv_bipush (v := 100) hx hb d_CT_isFull_4 (by decide) ?_
  refine lv_icmp_lt (tgt := 13) hx hb d_CT_isFull_6 (by decide) (fun c_6 => ?_) (fun c_6 => ?_)
  · have h0 : ¬ 100 ≤ cc := fun h => absurd c_6 (show ¬ nI cc < nI 100 from nI_nlt h (by omega))
    refine lv_iconst (v := 0) hx hb d_CT_isFull_13 (by decide) ?_
    exact W.zret (v := 0) (ty := .boolean) hx hb hr rfl (fun t ht hW => ⟨_, rfl, by rw [if_neg h0], ht⟩) (fun _ h => by cases h) d_CT_isFull_14
  · have h0 : 100 ≤ cc := Nat.not_lt.mp (fun h => c_6 (show nI cc < nI 100 from nI_lt h (by omega)))
    refine lv_iconst (v := 1) hx hb d_CT_isFull_9 (by decide) ?_
    refine lv_goto (tgt := 14) hx hb d_CT_isFull_10 (by decide) ?_
    exact W.zret (v := 1) (ty := .boolean) hx hb hr rfl (fun t ht hW => ⟨_, rfl, by rw [if_pos h0], ht⟩) (fun _ h => by cases h) d_CT_isFull_14
set_option maxHeartbeats 4000000 in
set_option maxRecDepth 100000 in
theorem c_AT_has (l : Launch) (dC : Nat → ClassId) (dI : Nat → Nat → Nat) (hT hs hu ho : Nat) (cI cU cO : ClassId) (ac : Nat) (ai ut ol : Nat → Int32) (hac : ac ≤ 64) (a : Int32) : Met l y_AT_has (zw y_AT_has b_AT_has 2 (some .boolean)) ({ frames := 0, cells := 0, slots := 0, locals := 0 }) (zPre [.ref hT, .int a] (dC, dI) [(hT, .inr (0, [.ref hs, .ref hu, .ref ho, .int (nI ac)])), (hs, .inl (cI, 64, .inl ai)), (hu, .inl (cU, 512, .inl ut)), (ho, .inl (cO, 64, .inl ol))] [(cI, .int), (cU, .int), (cO, .int)]) (vp_Si (fun r => r = if 0 ≤ a.toInt ∧ a.toInt < ac then 1 else 0)) 0 0 (fun _ => False) := by
  refine Met.ofW (cc := b_AT_has) (maxL := 2) (ret := (some .boolean)) (by decide) rfl ?_
  intro p e s m args below meth c s₁ B hml hv
  obtain ⟨rfl, hP, hK⟩ := hv
  have hx := B.exec
  have hb := B.bytes
  have hr := B.returns
  have hts := atoms_spec (ws := (zw y_AT_has b_AT_has 2 (some .boolean))) B.pre
  have htB : ∀ w ∈ BG, w.before ([.ref hT, .int a] : List Value).toArray s = true := fun w h => hts w (List.mem_cons_of_mem _ h)
  have hown : s.vm.findClass R_AT = some m.cls := findClass_of_methodNamed B.named
  have hlocks := B.notSynchronized
  have CF : CallFix p m c b_AT_has 2 s ([.ref hT, .int a] : List Value).toArray BG R_AT := ⟨hx, hb, hml, hown, htB⟩
  have hP : va_P (dC, dI) vwCl [(hT, .inr (0, [.ref hs, .ref hu, .ref ho, .int (nI ac)])), (hs, .inl (cI, 64, .inl ai)), (hu, .inl (cU, 512, .inl ut)), (ho, .inl (cO, 64, .inl ol))] s.heap := hP
  have hl := lv_entry [.ref hT, .int a] (n := 2) (Nat.le_of_ble_eq_true rfl)
  rw [lg_entry_eq]
  generalize (lg_sl [.ref hT, .int a] ++ List.replicate (2 - (lg_sl [.ref hT, .int a]).length) Slot.unset).toArray = ls at hl ⊢
  have hl : lv_has ls 2 [(0, .ref hT), (1, .int a)] := hl
  refine lv_iload_n hx hb d_AT_has_0 rfl (lv_at hl 1 rfl) ?_
  refine lv_if_lt (tgt := 22) hx hb d_AT_has_1 (by decide) (fun c_1 => ?_) (fun c_1 => ?_)
  · have hz : ¬ (0 ≤ a.toInt ∧ a.toInt < ac) := by
      have h0 := Int32.lt_iff_toInt_lt.mp c_1
      simp at h0
      omega
    refine lv_iconst (v := 0) hx hb d_AT_has_22 (by decide) ?_
    exact W.zret (v := 0) (ty := .boolean) hx hb hr rfl (fun t ht hW => ⟨_, rfl, by rw [if_neg hz], ht⟩) (fun _ h => by cases h) d_AT_has_23
  · have h1 : 0 ≤ a.toInt := by
      have h0 := fun h => c_1 (Int32.lt_iff_toInt_lt.mpr h)
      simp at h0
      omega
    refine lv_iload_n hx hb d_AT_has_4 rfl (lv_at hl 1 rfl) ?_
    refine lv_aload_n hx hb d_AT_has_5 rfl (lv_at hl 0 rfl) ?_
    refine va_get (D := (dC, dI)) (ci := 0) (v := .int (nI ac)) (C := R_AT) (T := T_AT) (N := 4) hx hb htB i_AT hown hK hP 0 rfl rfl 3 (by decide) (htB _ lf_AT_21) (fun _ h9 => h9) rfl d_AT_has_6 ?_
    refine lv_icmp_ge (tgt := 22) hx hb d_AT_has_9 (by decide) (fun c_9 => ?_) (fun c_9 => ?_)
    · have hz : ¬ (0 ≤ a.toInt ∧ a.toInt < ac) := by
        have h0 := Int32.le_iff_toInt_le.mp c_9
        rw [nI_toInt (by omega)] at h0
        omega
      refine lv_iconst (v := 0) hx hb d_AT_has_22 (by decide) ?_
      exact W.zret (v := 0) (ty := .boolean) hx hb hr rfl (fun t ht hW => ⟨_, rfl, by rw [if_neg hz], ht⟩) (fun _ h => by cases h) d_AT_has_23
    · have h2 : a.toInt < ac := Int.not_le.mp (fun h => c_9 (Int32.le_iff_toInt_le.mpr (by rw [nI_toInt (by omega)]; exact h)))
      refine lv_iload_n hx hb d_AT_has_12 rfl (lv_at hl 1 rfl) ?_
      refine lv_bipush (v := 64) hx hb d_AT_has_13 (by decide) ?_
      refine lv_icmp_ge (tgt := 22) hx hb d_AT_has_15 (by decide) (fun c_15 => ?_) (fun c_15 => ?_)
      · exact absurd (Int32.le_iff_toInt_le.mp c_15) (by show ¬ (64 : Int) ≤ a.toInt; omega)
      · refine lv_iconst (v := 1) hx hb d_AT_has_18 (by decide) ?_
        refine lv_goto (tgt := 23) hx hb d_AT_has_19 (by decide) ?_
        exact W.zret (v := 1) (ty := .boolean) hx hb hr rfl (fun t ht hW => ⟨_, rfl, by rw [if_pos ⟨h1, h2⟩], ht⟩) (fun _ h => by cases h) d_AT_has_23
set_option maxHeartbeats 4000000 in
set_option maxRecDepth 100000 in
theorem c_CT_has (l : Launch) (dC : Nat → ClassId) (dI : Nat → Nat → Nat) (hC hn ha hk : Nat) (cN cA cK : ClassId) (cc : Nat) (cn : Nat → Int64) (ca cb : Nat → Int32) (hcc : cc ≤ 100) (a : Int32) : Met l y_CT_has (zw y_CT_has b_CT_has 2 (some .boolean)) ({ frames := 0, cells := 0, slots := 0, locals := 0 }) (zPre [.ref hC, .int a] (dC, dI) [(hC, .inr (1, [.ref hn, .ref ha, .ref hk, .int (nI cc)])), (hn, .inl (cN, 100, .inr (.inl cn))), (ha, .inl (cA, 100, .inl ca)), (hk, .inl (cK, 100, .inl cb))] [(cN, .long), (cA, .int), (cK, .boolean)]) (vp_Si (fun r => r = if 0 ≤ a.toInt ∧ a.toInt < cc then 1 else 0)) 0 0 (fun _ => False) := by
  refine Met.ofW (cc := b_CT_has) (maxL := 2) (ret := (some .boolean)) (by decide) rfl ?_
  intro p e s m args below meth c s₁ B hml hv
  obtain ⟨rfl, hP, hK⟩ := hv
  have hx := B.exec
  have hb := B.bytes
  have hr := B.returns
  have hts := atoms_spec (ws := (zw y_CT_has b_CT_has 2 (some .boolean))) B.pre
  have htB : ∀ w ∈ BG, w.before ([.ref hC, .int a] : List Value).toArray s = true := fun w h => hts w (List.mem_cons_of_mem _ h)
  have hown : s.vm.findClass R_CT = some m.cls := findClass_of_methodNamed B.named
  have hlocks := B.notSynchronized
  have CF : CallFix p m c b_CT_has 2 s ([.ref hC, .int a] : List Value).toArray BG R_CT := ⟨hx, hb, hml, hown, htB⟩
  have hP : va_P (dC, dI) vwCl [(hC, .inr (1, [.ref hn, .ref ha, .ref hk, .int (nI cc)])), (hn, .inl (cN, 100, .inr (.inl cn))), (ha, .inl (cA, 100, .inl ca)), (hk, .inl (cK, 100, .inl cb))] s.heap := hP
  have hl := lv_entry [.ref hC, .int a] (n := 2) (Nat.le_of_ble_eq_true rfl)
  rw [lg_entry_eq]
  generalize (lg_sl [.ref hC, .int a] ++ List.replicate (2 - (lg_sl [.ref hC, .int a]).length) Slot.unset).toArray = ls at hl ⊢
  have hl : lv_has ls 2 [(0, .ref hC), (1, .int a)] := hl
  refine lv_iload_n hx hb d_CT_has_0 rfl (lv_at hl 1 rfl) ?_
  refine lv_if_lt (tgt := 22) hx hb d_CT_has_1 (by decide) (fun c_1 => ?_) (fun c_1 => ?_)
  · have hz : ¬ (0 ≤ a.toInt ∧ a.toInt < cc) := by
      have h0 := Int32.lt_iff_toInt_lt.mp c_1
      simp at h0
      omega
    refine lv_iconst (v := 0) hx hb d_CT_has_22 (by decide) ?_
    exact W.zret (v := 0) (ty := .boolean) hx hb hr rfl (fun t ht hW => ⟨_, rfl, by rw [if_neg hz], ht⟩) (fun _ h => by cases h) d_CT_has_23
  · have h1 : 0 ≤ a.toInt := by
      have h0 := fun h => c_1 (Int32.lt_iff_toInt_lt.mpr h)
      simp at h0
      omega
    refine lv_iload_n hx hb d_CT_has_4 rfl (lv_at hl 1 rfl) ?_
    refine lv_aload_n hx hb d_CT_has_5 rfl (lv_at hl 0 rfl) ?_
    refine va_get (D := (dC, dI)) (ci := 1) (v := .int (nI cc)) (C := R_CT) (T := T_CT) (N := 4) hx hb htB i_CT hown hK hP 0 rfl rfl 3 (by decide) (htB _ lf_CT_23) (fun _ h9 => h9) rfl d_CT_has_6 ?_
    refine lv_icmp_ge (tgt := 22) hx hb d_CT_has_9 (by decide) (fun c_9 => ?_) (fun c_9 => ?_)
    · have hz : ¬ (0 ≤ a.toInt ∧ a.toInt < cc) := by
        have h0 := Int32.le_iff_toInt_le.mp c_9
        rw [nI_toInt (by omega)] at h0
        omega
      refine lv_iconst (v := 0) hx hb d_CT_has_22 (by decide) ?_
      exact W.zret (v := 0) (ty := .boolean) hx hb hr rfl (fun t ht hW => ⟨_, rfl, by rw [if_neg hz], ht⟩) (fun _ h => by cases h) d_CT_has_23
    · have h2 : a.toInt < cc := Int.not_le.mp (fun h => c_9 (Int32.le_iff_toInt_le.mpr (by rw [nI_toInt (by omega)]; exact h)))
      refine lv_iload_n hx hb d_CT_has_12 rfl (lv_at hl 1 rfl) ?_
      refine lv_bipush (v := 100) hx hb d_CT_has_13 (by decide) ?_
      refine lv_icmp_ge (tgt := 22) hx hb d_CT_has_15 (by decide) (fun c_15 => ?_) (fun c_15 => ?_)
      · exact absurd (Int32.le_iff_toInt_le.mp c_15) (by show ¬ (100 : Int) ≤ a.toInt; omega)
      · refine lv_iconst (v := 1) hx hb d_CT_has_18 (by decide) ?_
        refine lv_goto (tgt := 23) hx hb d_CT_has_19 (by decide) ?_
        exact W.zret (v := 1) (ty := .boolean) hx hb hr rfl (fun t ht hW => ⟨_, rfl, by rw [if_pos ⟨h1, h2⟩], ht⟩) (fun _ h => by cases h) d_CT_has_23
set_option maxHeartbeats 4000000 in
set_option maxRecDepth 100000 in
theorem c_RT_find (l : Launch) (dC : Nat → ClassId) (dI : Nat → Nat → Nat) (hR hp hq hi : Nat) (cP cQ cS : ClassId) (rc : Nat) (rp rl ri : Nat → Int32) (hrc : rc ≤ 40) (x : Int64) (y : Int32) : Met l y_RT_find (zw y_RT_find b_RT_find 5 (some .int)) ({ frames := 0, cells := 0, slots := 0, locals := 0 }) (zPre [.ref hR, .long x, .int y] (dC, dI) [(hR, .inr (2, [.ref hp, .ref hq, .ref hi, .int (nI rc)])), (hp, .inl (cP, 40, .inl rp)), (hq, .inl (cQ, 40, .inl rl)), (hi, .inl (cS, 40, .inl ri))] [(cP, .int), (cQ, .int), (cS, .int)]) (vp_Si (fun r => r = zf_r (fun j => decide (rl j = y ∧ (rp j).toInt64 = x)) rc)) 0 0 (fun _ => False) := by
  refine Met.ofW (cc := b_RT_find) (maxL := 5) (ret := (some .int)) (by decide) rfl ?_
  intro p e s m args below meth c s₁ B hml hv
  obtain ⟨rfl, hP, hK⟩ := hv
  have hx := B.exec
  have hb := B.bytes
  have hr := B.returns
  have hts := atoms_spec (ws := (zw y_RT_find b_RT_find 5 (some .int))) B.pre
  have htB : ∀ w ∈ BG, w.before ([.ref hR, .long x, .int y] : List Value).toArray s = true := fun w h => hts w (List.mem_cons_of_mem _ h)
  have hown : s.vm.findClass R_RT = some m.cls := findClass_of_methodNamed B.named
  have hlocks := B.notSynchronized
  have CF : CallFix p m c b_RT_find 5 s ([.ref hR, .long x, .int y] : List Value).toArray BG R_RT := ⟨hx, hb, hml, hown, htB⟩
  have hP : va_P (dC, dI) vwCl [(hR, .inr (2, [.ref hp, .ref hq, .ref hi, .int (nI rc)])), (hp, .inl (cP, 40, .inl rp)), (hq, .inl (cQ, 40, .inl rl)), (hi, .inl (cS, 40, .inl ri))] s.heap := hP
  have hl := lv_entry [.ref hR, .long x, .int y] (n := 5) (Nat.le_of_ble_eq_true rfl)
  rw [lg_entry_eq]
  generalize (lg_sl [.ref hR, .long x, .int y] ++ List.replicate (5 - (lg_sl [.ref hR, .long x, .int y]).length) Slot.unset).toArray = ls at hl ⊢
  have hl : lv_has ls 5 [(0, .ref hR), (1, .long x), (3, .int y)] := hl
  refine lv_iconst (v := 0) hx hb d_RT_find_0 (by decide) ?_
  refine lv_istore (lv' := [(4, .int 0), (0, .ref hR), (1, .long x), (3, .int y)]) hx hb d_RT_find_1 hl (by decide) rfl (fun ls hl => ?_)
  have loop : ∀ (k i : Nat) (ls : Array Slot), i + k = rc → (∀ j, j < i → decide (rl j = y ∧ (rp j).toInt64 = x) = false) → lv_has ls 5 [(4, .int (nI i)), (0, .ref hR), (1, .long x), (3, .int y)] → W p l e (headSpec (zw y_RT_find b_RT_find 5 (some .int)) ({ frames := 0, cells := 0, slots := 0, locals := 0 })).room s m ([.ref hR, .long x, .int y] : List Value).toArray below meth c s.heap [] 0 0 (MQ below (vp_Si (fun r => r = zf_r (fun j => decide (rl j = y ∧ (rp j).toInt64 = x)) rc)) ([.ref hR, .long x, .int y] : List Value).toArray s 0 0 (fun _ => False)) (F0 m 3 ls []) := by
    intro k
    induction k with
    | zero =>
      intro i ls hi hb9 hl
      refine lv_iload hx hb d_RT_find_3 (lv_at hl 0 rfl) ?_
      refine lv_aload_n hx hb d_RT_find_5 rfl (lv_at hl 1 rfl) ?_
      refine va_get (D := (dC, dI)) (ci := 2) (v := .int (nI rc)) (C := R_RT) (T := T_RT) (N := 4) hx hb htB i_RT hown hK hP 0 rfl rfl 3 (by decide) (htB _ lf_RT_21) (fun _ h9 => h9) rfl d_RT_find_6 ?_
      refine lv_icmp_ge (tgt := 52) hx hb d_RT_find_9 (by decide) (fun c_9 => ?_) (fun c_9 => ?_)
      · refine lv_iconst (v := (-1)) hx hb d_RT_find_52 (by decide) ?_
        exact W.iret (v := -1) hx hb hr (fun t ht hW => ⟨_, rfl, (zf_rn (by intro k hk; exact hb9 k (by omega))).symm, ht⟩) (fun _ h => by cases h) d_RT_find_53
      · exact absurd (nI_le (show rc ≤ i by omega) (by omega)) c_9
    | succ k ih =>
      intro i ls hi hb9 hl
      have b_25 : vp_in (nI i) 40 := vp_in_nI (by omega) (by omega)
      have b_36 := b_25
      have ec : (nI i).toNatClampNeg = i := nI_clamp (by omega)
      refine lv_iload hx hb d_RT_find_3 (lv_at hl 0 rfl) ?_
      refine lv_aload_n hx hb d_RT_find_5 rfl (lv_at hl 1 rfl) ?_
      refine va_get (D := (dC, dI)) (ci := 2) (v := .int (nI rc)) (C := R_RT) (T := T_RT) (N := 4) hx hb htB i_RT hown hK hP 0 rfl rfl 3 (by decide) (htB _ lf_RT_21) (fun _ h9 => h9) rfl d_RT_find_6 ?_
      refine lv_icmp_ge (tgt := 52) hx hb d_RT_find_9 (by decide) (fun c_9 => ?_) (fun c_9 => ?_)
      · exact absurd c_9 (nI_ge (show i < rc by omega) (by omega))
      · refine lv_iload hx hb d_RT_find_12 (lv_at hl 0 rfl) ?_
        refine lv_bipush (v := 40) hx hb d_RT_find_14 (by decide) ?_
        refine lv_icmp_ge (tgt := 52) hx hb d_RT_find_16 (by decide) (fun c_16 => ?_) (fun c_16 => ?_)
        · exact absurd c_16 (by show ¬ nI 40 ≤ nI i; exact nI_ge (by omega) (by omega))
        · refine lv_aload_n hx hb d_RT_find_19 rfl (lv_at hl 1 rfl) ?_
          refine va_get (D := (dC, dI)) (ci := 2) (v := .ref hq) (C := R_RT) (T := T_RT) (N := 4) hx hb htB i_RT hown hK hP 0 rfl rfl 1 (by decide) (htB _ lf_RT_15) (fun _ h9 => h9) rfl d_RT_find_20 ?_
          refine lv_iload hx hb d_RT_find_23 (lv_at hl 0 rfl) ?_
          refine va_iald hx hb hK hP 2 1 rfl rfl b_25 d_RT_find_25 ?_
          rw [show (rl (nI i).toNatClampNeg : Int32) = rl i from by rw [ec]]
          refine lv_iload_n hx hb d_RT_find_26 rfl (lv_at hl 3 rfl) ?_
          refine lv_icmp_ne (tgt := 46) hx hb d_RT_find_27 (by decide) (fun c_27 => ?_) (fun c_27 => ?_)
          · have hno : ¬ (rl i = y ∧ (rp i).toInt64 = x) := fun h => c_27 h.1
            refine lv_iinc (v := (nI i) + 1) (lv' := [(4, .int ((nI i) + 1)), (0, .ref hR), (1, .long x), (3, .int y)]) hx hb d_RT_find_46 hl (k := 0) rfl rfl (by decide) rfl (fun ls hl => ?_)
            refine lv_goto (tgt := 3) hx hb d_RT_find_49 (by decide) ?_
            rw [nI_1] at hl
            refine ih (i + 1) ls (by omega) (fun j hj => ?_) (lv_sub hl [0, 1, 2, 3] rfl)
            by_cases e : j = i
            · subst e; rw [decide_eq_false_iff_not]; exact hno
            · exact hb9 j (by omega)
          · have h27 : rl i = y := c_27
            refine lv_aload_n hx hb d_RT_find_30 rfl (lv_at hl 1 rfl) ?_
            refine va_get (D := (dC, dI)) (ci := 2) (v := .ref hp) (C := R_RT) (T := T_RT) (N := 4) hx hb htB i_RT hown hK hP 0 rfl rfl 0 (by decide) (htB _ lf_RT_11) (fun _ h9 => h9) rfl d_RT_find_31 ?_
            refine lv_iload hx hb d_RT_find_34 (lv_at hl 0 rfl) ?_
            refine va_iald hx hb hK hP 1 0 rfl rfl b_36 d_RT_find_36 ?_
            rw [show (rp (nI i).toNatClampNeg : Int32) = rp i from by rw [ec]]
            refine lv_i2l (v := (rp i).toInt64) hx hb d_RT_find_37 rfl ?_
            refine lv_lload_n hx hb d_RT_find_38 rfl (lv_at hl 2 rfl) ?_
            refine W.lcmp hx hb d_RT_find_39 ?_
            refine lv_if_ne (tgt := 46) hx hb d_RT_find_40 (by decide) (fun c_40 => ?_) (fun c_40 => ?_)
            · have hno : ¬ (rl i = y ∧ (rp i).toInt64 = x) := fun h => c_40 ((lg_cmp_eq _ _).mpr h.2)
              refine lv_iinc (v := (nI i) + 1) (lv' := [(4, .int ((nI i) + 1)), (0, .ref hR), (1, .long x), (3, .int y)]) hx hb d_RT_find_46 hl (k := 0) rfl rfl (by decide) rfl (fun ls hl => ?_)
              refine lv_goto (tgt := 3) hx hb d_RT_find_49 (by decide) ?_
              rw [nI_1] at hl
              refine ih (i + 1) ls (by omega) (fun j hj => ?_) (lv_sub hl [0, 1, 2, 3] rfl)
              by_cases e : j = i
              · subst e; rw [decide_eq_false_iff_not]; exact hno
              · exact hb9 j (by omega)
            · refine lv_iload hx hb d_RT_find_43 (lv_at hl 0 rfl) ?_
              exact W.iret (v := nI i) hx hb hr (fun t ht hW => ⟨_, rfl, (zf_rs (show i < rc by omega) (by rw [decide_eq_true_eq]; exact ⟨h27, (lg_cmp_eq _ _).mp c_40⟩) hb9).symm, ht⟩) (fun _ h => by cases h) d_RT_find_45
  exact loop rc 0 ls (by omega) (fun j hj => absurd hj (Nat.not_lt_zero j)) (lv_sub hl [0, 1, 2, 3] rfl)
set_option maxHeartbeats 4000000 in
set_option maxRecDepth 100000 in
theorem c_CT_find (l : Launch) (dC : Nat → ClassId) (dI : Nat → Nat → Nat) (hC hn ha hk : Nat) (cN cA cK : ClassId) (cc : Nat) (cn : Nat → Int64) (ca cb : Nat → Int32) (hcc : cc ≤ 100) (x : Int64) : Met l y_CT_find (zw y_CT_find b_CT_find 4 (some .int)) ({ frames := 0, cells := 0, slots := 0, locals := 0 }) (zPre [.ref hC, .long x] (dC, dI) [(hC, .inr (1, [.ref hn, .ref ha, .ref hk, .int (nI cc)])), (hn, .inl (cN, 100, .inr (.inl cn))), (ha, .inl (cA, 100, .inl ca)), (hk, .inl (cK, 100, .inl cb))] [(cN, .long), (cA, .int), (cK, .boolean)]) (vp_Si (fun r => r = zf_r (fun j => decide (cn j = x)) cc)) 0 0 (fun _ => False) := by
  refine Met.ofW (cc := b_CT_find) (maxL := 4) (ret := (some .int)) (by decide) rfl ?_
  intro p e s m args below meth c s₁ B hml hv
  obtain ⟨rfl, hP, hK⟩ := hv
  have hx := B.exec
  have hb := B.bytes
  have hr := B.returns
  have hts := atoms_spec (ws := (zw y_CT_find b_CT_find 4 (some .int))) B.pre
  have htB : ∀ w ∈ BG, w.before ([.ref hC, .long x] : List Value).toArray s = true := fun w h => hts w (List.mem_cons_of_mem _ h)
  have hown : s.vm.findClass R_CT = some m.cls := findClass_of_methodNamed B.named
  have hlocks := B.notSynchronized
  have CF : CallFix p m c b_CT_find 4 s ([.ref hC, .long x] : List Value).toArray BG R_CT := ⟨hx, hb, hml, hown, htB⟩
  have hP : va_P (dC, dI) vwCl [(hC, .inr (1, [.ref hn, .ref ha, .ref hk, .int (nI cc)])), (hn, .inl (cN, 100, .inr (.inl cn))), (ha, .inl (cA, 100, .inl ca)), (hk, .inl (cK, 100, .inl cb))] s.heap := hP
  have hl := lv_entry [.ref hC, .long x] (n := 4) (Nat.le_of_ble_eq_true rfl)
  rw [lg_entry_eq]
  generalize (lg_sl [.ref hC, .long x] ++ List.replicate (4 - (lg_sl [.ref hC, .long x]).length) Slot.unset).toArray = ls at hl ⊢
  have hl : lv_has ls 4 [(0, .ref hC), (1, .long x)] := hl
  refine lv_iconst (v := 0) hx hb d_CT_find_0 (by decide) ?_
  refine lv_istore_n (lv' := [(3, .int 0), (0, .ref hC), (1, .long x)]) hx hb d_CT_find_1 rfl hl (by decide) rfl (fun ls hl => ?_)
  have loop : ∀ (k i : Nat) (ls : Array Slot), i + k = cc → (∀ j, j < i → decide (cn j = x) = false) → lv_has ls 4 [(3, .int (nI i)), (0, .ref hC), (1, .long x)] → W p l e (headSpec (zw y_CT_find b_CT_find 4 (some .int)) ({ frames := 0, cells := 0, slots := 0, locals := 0 })).room s m ([.ref hC, .long x] : List Value).toArray below meth c s.heap [] 0 0 (MQ below (vp_Si (fun r => r = zf_r (fun j => decide (cn j = x)) cc)) ([.ref hC, .long x] : List Value).toArray s 0 0 (fun _ => False)) (F0 m 2 ls []) := by
    intro k
    induction k with
    | zero =>
      intro i ls hi hb9 hl
      refine lv_iload_n hx hb d_CT_find_2 rfl (lv_at hl 0 rfl) ?_
      refine lv_aload_n hx hb d_CT_find_3 rfl (lv_at hl 1 rfl) ?_
      refine va_get (D := (dC, dI)) (ci := 1) (v := .int (nI cc)) (C := R_CT) (T := T_CT) (N := 4) hx hb htB i_CT hown hK hP 0 rfl rfl 3 (by decide) (htB _ lf_CT_23) (fun _ h9 => h9) rfl d_CT_find_4 ?_
      refine lv_icmp_ge (tgt := 35) hx hb d_CT_find_7 (by decide) (fun c_7 => ?_) (fun c_7 => ?_)
      · refine lv_iconst (v := (-1)) hx hb d_CT_find_35 (by decide) ?_
        exact W.iret (v := -1) hx hb hr (fun t ht hW => ⟨_, rfl, (zf_rn (by intro k hk; exact hb9 k (by omega))).symm, ht⟩) (fun _ h => by cases h) d_CT_find_36
      · exact absurd (nI_le (show cc ≤ i by omega) (by omega)) c_7
    | succ k ih =>
      intro i ls hi hb9 hl
      have b_21 : vp_in (nI i) 100 := vp_in_nI (by omega) (by omega)
      have ec : (nI i).toNatClampNeg = i := nI_clamp (by omega)
      refine lv_iload_n hx hb d_CT_find_2 rfl (lv_at hl 0 rfl) ?_
      refine lv_aload_n hx hb d_CT_find_3 rfl (lv_at hl 1 rfl) ?_
      refine va_get (D := (dC, dI)) (ci := 1) (v := .int (nI cc)) (C := R_CT) (T := T_CT) (N := 4) hx hb htB i_CT hown hK hP 0 rfl rfl 3 (by decide) (htB _ lf_CT_23) (fun _ h9 => h9) rfl d_CT_find_4 ?_
      refine lv_icmp_ge (tgt := 35) hx hb d_CT_find_7 (by decide) (fun c_7 => ?_) (fun c_7 => ?_)
      · exact absurd c_7 (nI_ge (show i < cc by omega) (by omega))
      · refine lv_iload_n hx hb d_CT_find_10 rfl (lv_at hl 0 rfl) ?_
        refine lv_bipush (v := 100) hx hb d_CT_find_11 (by decide) ?_
        refine lv_icmp_ge (tgt := 35) hx hb d_CT_find_13 (by decide) (fun c_13 => ?_) (fun c_13 => ?_)
        · exact absurd c_13 (by show ¬ nI 100 ≤ nI i; exact nI_ge (by omega) (by omega))
        · refine lv_aload_n hx hb d_CT_find_16 rfl (lv_at hl 1 rfl) ?_
          refine va_get (D := (dC, dI)) (ci := 1) (v := .ref hn) (C := R_CT) (T := T_CT) (N := 4) hx hb htB i_CT hown hK hP 0 rfl rfl 0 (by decide) (htB _ lf_CT_11) (fun _ h9 => h9) rfl d_CT_find_17 ?_
          refine lv_iload_n hx hb d_CT_find_20 rfl (lv_at hl 0 rfl) ?_
          refine va_lald hx hb hK hP 1 0 rfl rfl b_21 d_CT_find_21 ?_
          rw [show (cn (nI i).toNatClampNeg : Int64) = cn i from by rw [ec]]
          refine lv_lload_n hx hb d_CT_find_22 rfl (lv_at hl 2 rfl) ?_
          refine W.lcmp hx hb d_CT_find_23 ?_
          refine lv_if_ne (tgt := 29) hx hb d_CT_find_24 (by decide) (fun c_24 => ?_) (fun c_24 => ?_)
          · refine lv_iinc (v := (nI i) + 1) (lv' := [(3, .int ((nI i) + 1)), (0, .ref hC), (1, .long x)]) hx hb d_CT_find_29 hl (k := 0) rfl rfl (by decide) rfl (fun ls hl => ?_)
            refine lv_goto (tgt := 2) hx hb d_CT_find_32 (by decide) ?_
            rw [nI_1] at hl
            refine ih (i + 1) ls (by omega) (fun j hj => ?_) (lv_sub hl [0, 1, 2] rfl)
            by_cases e : j = i
            · subst e; rw [decide_eq_false_iff_not]; exact fun h => c_24 ((lg_cmp_eq _ _).mpr h)
            · exact hb9 j (by omega)
          · refine lv_iload_n hx hb d_CT_find_27 rfl (lv_at hl 0 rfl) ?_
            exact W.iret (v := nI i) hx hb hr (fun t ht hW => ⟨_, rfl, (zf_rs (show i < cc by omega) (by rw [decide_eq_true_eq]; exact (lg_cmp_eq _ _).mp c_24) hb9).symm, ht⟩) (fun _ h => by cases h) d_CT_find_28
  exact loop cc 0 ls (by omega) (fun j hj => absurd hj (Nat.not_lt_zero j)) (lv_sub hl [0, 1, 2] rfl)
set_option maxHeartbeats 4000000 in
set_option maxRecDepth 100000 in
theorem c_RT_issuerAt (l : Launch) (dC : Nat → ClassId) (dI : Nat → Nat → Nat) (hR hp hq hi : Nat) (cP cQ cS : ClassId) (rc : Nat) (rp rl ri : Nat → Int32) (hrc : rc ≤ 40) (j : Nat) (hj : j < rc) : Met l y_RT_issuerAt (zw y_RT_issuerAt b_RT_issuerAt 2 (some .int)) ({ frames := 0, cells := 0, slots := 0, locals := 0 }) (zPre [.ref hR, .int (nI j)] (dC, dI) [(hR, .inr (2, [.ref hp, .ref hq, .ref hi, .int (nI rc)])), (hp, .inl (cP, 40, .inl rp)), (hq, .inl (cQ, 40, .inl rl)), (hi, .inl (cS, 40, .inl ri))] [(cP, .int), (cQ, .int), (cS, .int)]) (vp_Si (fun r => r = ri j)) 0 0 (fun _ => False) := by
  refine Met.ofW (cc := b_RT_issuerAt) (maxL := 2) (ret := (some .int)) (by decide) rfl ?_
  intro p e s m args below meth c s₁ B hml hv
  obtain ⟨rfl, hP, hK⟩ := hv
  have hx := B.exec
  have hb := B.bytes
  have hr := B.returns
  have hts := atoms_spec (ws := (zw y_RT_issuerAt b_RT_issuerAt 2 (some .int))) B.pre
  have htB : ∀ w ∈ BG, w.before ([.ref hR, .int (nI j)] : List Value).toArray s = true := fun w h => hts w (List.mem_cons_of_mem _ h)
  have hown : s.vm.findClass R_RT = some m.cls := findClass_of_methodNamed B.named
  have hlocks := B.notSynchronized
  have CF : CallFix p m c b_RT_issuerAt 2 s ([.ref hR, .int (nI j)] : List Value).toArray BG R_RT := ⟨hx, hb, hml, hown, htB⟩
  have hP : va_P (dC, dI) vwCl [(hR, .inr (2, [.ref hp, .ref hq, .ref hi, .int (nI rc)])), (hp, .inl (cP, 40, .inl rp)), (hq, .inl (cQ, 40, .inl rl)), (hi, .inl (cS, 40, .inl ri))] s.heap := hP
  have hl := lv_entry [.ref hR, .int (nI j)] (n := 2) (Nat.le_of_ble_eq_true rfl)
  rw [lg_entry_eq]
  generalize (lg_sl [.ref hR, .int (nI j)] ++ List.replicate (2 - (lg_sl [.ref hR, .int (nI j)]).length) Slot.unset).toArray = ls at hl ⊢
  have hl : lv_has ls 2 [(0, .ref hR), (1, .int (nI j))] := hl
  have b_23 : vp_in (nI j) 40 := vp_in_nI (by omega) (by omega)
  have ec : (nI j).toNatClampNeg = j := nI_clamp (by omega)
  refine lv_iload_n hx hb d_RT_issuerAt_0 rfl (lv_at hl 1 rfl) ?_
  refine lv_if_lt (tgt := 27) hx hb d_RT_issuerAt_1 (by decide) (fun c_1 => ?_) (fun c_1 => ?_)
  · exact absurd c_1 (nI_pos (by omega))
  · refine lv_iload_n hx hb d_RT_issuerAt_4 rfl (lv_at hl 1 rfl) ?_
    refine lv_aload_n hx hb d_RT_issuerAt_5 rfl (lv_at hl 0 rfl) ?_
    refine va_get (D := (dC, dI)) (ci := 2) (v := .int (nI rc)) (C := R_RT) (T := T_RT) (N := 4) hx hb htB i_RT hown hK hP 0 rfl rfl 3 (by decide) (htB _ lf_RT_21) (fun _ h9 => h9) rfl d_RT_issuerAt_6 ?_
    refine lv_icmp_ge (tgt := 27) hx hb d_RT_issuerAt_9 (by decide) (fun c_9 => ?_) (fun c_9 => ?_)
    · exact absurd c_9 (nI_ge hj (by omega))
    · refine lv_iload_n hx hb d_RT_issuerAt_12 rfl (lv_at hl 1 rfl) ?_
      refine lv_bipush (v := 40) hx hb d_RT_issuerAt_13 (by decide) ?_
      refine lv_icmp_ge (tgt := 27) hx hb d_RT_issuerAt_15 (by decide) (fun c_15 => ?_) (fun c_15 => ?_)
      · exact absurd c_15 (by show ¬ nI 40 ≤ nI j; exact nI_ge (by omega) (by omega))
      · refine lv_aload_n hx hb d_RT_issuerAt_18 rfl (lv_at hl 0 rfl) ?_
        refine va_get (D := (dC, dI)) (ci := 2) (v := .ref hi) (C := R_RT) (T := T_RT) (N := 4) hx hb htB i_RT hown hK hP 0 rfl rfl 2 (by decide) (htB _ lf_RT_18) (fun _ h9 => h9) rfl d_RT_issuerAt_19 ?_
        refine lv_iload_n hx hb d_RT_issuerAt_22 rfl (lv_at hl 1 rfl) ?_
        refine va_iald hx hb hK hP 3 2 rfl rfl b_23 d_RT_issuerAt_23 ?_
        rw [show (ri (nI j).toNatClampNeg : Int32) = ri j from by rw [ec]]
        refine lv_goto (tgt := 28) hx hb d_RT_issuerAt_24 (by decide) ?_
        exact W.iret (v := ri j) hx hb hr (fun t ht hW => ⟨_, rfl, rfl, ht⟩) (fun _ h => by cases h) d_RT_issuerAt_28
end
section
/-- how many of the n places from b on hold t or more -/
def zu_cnt (f : Nat → Int32) (t : Int32) (b : Nat) : Nat → Nat
  | 0 => 0
  | n + 1 => zu_cnt f t b n + (if t ≤ f (b + n) then 1 else 0)
theorem zu_le (f : Nat → Int32) (t : Int32) (b n : Nat) : zu_cnt f t b n ≤ n := by
  induction n with
  | zero => simp [zu_cnt]
  | succ n ih => simp only [zu_cnt]; split <;> omega
set_option maxHeartbeats 4000000 in
set_option maxRecDepth 100000 in
theorem c_AT_issuerOf (l : Launch) (dC : Nat → ClassId) (dI : Nat → Nat → Nat) (hT hs hu ho : Nat) (cI cU cO : ClassId) (ac : Nat) (ai ut ol : Nat → Int32) (hac : ac ≤ 64) (j : Nat) (hj : j < ac) : Met l y_AT_issuerOf (zw y_AT_issuerOf b_AT_issuerOf 2 (some .int)) ({ frames := 1, cells := 0, slots := 0, locals := 21 }) (zPre [.ref hT, .int (nI j)] (dC, dI) [(hT, .inr (0, [.ref hs, .ref hu, .ref ho, .int (nI ac)])), (hs, .inl (cI, 64, .inl ai)), (hu, .inl (cU, 512, .inl ut)), (ho, .inl (cO, 64, .inl ol))] [(cI, .int), (cU, .int), (cO, .int)]) (vp_Si (fun r => r = ai j)) 0 0 (fun _ => False) := by
  refine Met.ofW (cc := b_AT_issuerOf) (maxL := 2) (ret := (some .int)) (by decide) rfl ?_
  intro p e s m args below meth c s₁ B hml hv
  obtain ⟨rfl, hP, hK⟩ := hv
  have hx := B.exec
  have hb := B.bytes
  have hr := B.returns
  have hts := atoms_spec (ws := (zw y_AT_issuerOf b_AT_issuerOf 2 (some .int))) B.pre
  have htB : ∀ w ∈ BG, w.before ([.ref hT, .int (nI j)] : List Value).toArray s = true := fun w h => hts w (List.mem_cons_of_mem _ h)
  have hown : s.vm.findClass R_AT = some m.cls := findClass_of_methodNamed B.named
  have hlocks := B.notSynchronized
  have CF : CallFix p m c b_AT_issuerOf 2 s ([.ref hT, .int (nI j)] : List Value).toArray BG R_AT := ⟨hx, hb, hml, hown, htB⟩
  have hP : va_P (dC, dI) vwCl [(hT, .inr (0, [.ref hs, .ref hu, .ref ho, .int (nI ac)])), (hs, .inl (cI, 64, .inl ai)), (hu, .inl (cU, 512, .inl ut)), (ho, .inl (cO, 64, .inl ol))] s.heap := hP
  have hl := lv_entry [.ref hT, .int (nI j)] (n := 2) (Nat.le_of_ble_eq_true rfl)
  rw [lg_entry_eq]
  generalize (lg_sl [.ref hT, .int (nI j)] ++ List.replicate (2 - (lg_sl [.ref hT, .int (nI j)]).length) Slot.unset).toArray = ls at hl ⊢
  have hl : lv_has ls 2 [(0, .ref hT), (1, .int (nI j))] := hl
  have b_13 : vp_in (nI j) 64 := vp_in_nI (by omega) (by omega)
  refine lv_aload_n hx hb d_AT_issuerOf_0 rfl (lv_at hl 0 rfl) ?_
  refine lv_iload_n hx hb d_AT_issuerOf_1 rfl (lv_at hl 1 rfl) ?_
  refine vp_callSi (va_Run.run (zr_V (n := 1) (As := [.int (nI j)]) (rest := []) CF (c_AT_has l dC dI hT hs hu ho cI cU cO ac ai ut ol hac (nI j)) mc_AT_has lk_AT_31 mi_AT_has ms_AT_has ni_AT rfl rfl (by decide +kernel) ⟨Nat.le_of_ble_eq_true rfl, Nat.le_of_ble_eq_true rfl⟩ (hP.sub (ws' := [(hT, .inr (0, [.ref hs, .ref hu, .ref ho, .int (nI ac)])), (hs, .inl (cI, 64, .inl ai)), (hu, .inl (cU, 512, .inl ut)), (ho, .inl (cO, 64, .inl ol))]) [0, 1, 2, 3] rfl) (hK.sub (tys' := [(cI, .int), (cU, .int), (cO, .int)]) [0, 1, 2] rfl) rfl rfl rfl hl.1 rfl (lv_room (Nat.le_of_ble_eq_true rfl)) d_AT_issuerOf_2 ⟨Nat.zero_le _, Nat.zero_le _⟩)) (fun r_2 h_2 => ?_)
  rw [if_pos (show 0 ≤ (nI j).toInt ∧ (nI j).toInt < ac by rw [nI_toInt (by omega)]; omega)] at h_2
  subst h_2
  refine lv_if_eq (tgt := 17) hx hb d_AT_issuerOf_5 (by decide) (fun c_5 => ?_) (fun c_5 => ?_)
  · exact absurd c_5 (by decide)
  · refine lv_aload_n hx hb d_AT_issuerOf_8 rfl (lv_at hl 0 rfl) ?_
    refine va_get (D := (dC, dI)) (ci := 0) (v := .ref hs) (C := R_AT) (T := T_AT) (N := 4) hx hb htB i_AT hown hK hP 0 rfl rfl 0 (by decide) (htB _ lf_AT_11) (fun _ h9 => h9) rfl d_AT_issuerOf_9 ?_
    refine lv_iload_n hx hb d_AT_issuerOf_12 rfl (lv_at hl 1 rfl) ?_
    refine va_iald hx hb hK hP 1 0 rfl rfl b_13 d_AT_issuerOf_13 ?_
    rw [nI_clamp (n := j) (by omega)]
    refine lv_goto (tgt := 18) hx hb d_AT_issuerOf_14 (by decide) ?_
    exact W.iret (v := ai j) hx hb hr (fun t ht hW => ⟨_, rfl, rfl, ht⟩) (fun _ h => by cases h) d_AT_issuerOf_18
set_option maxHeartbeats 4000000 in
set_option maxRecDepth 100000 in
theorem c_CT_numberOf (l : Launch) (dC : Nat → ClassId) (dI : Nat → Nat → Nat) (hC hn ha hk : Nat) (cN cA cK : ClassId) (cc : Nat) (cn : Nat → Int64) (ca cb : Nat → Int32) (hcc : cc ≤ 100) (j : Nat) (hj : j < cc) : Met l y_CT_numberOf (zw y_CT_numberOf b_CT_numberOf 2 (some .long)) ({ frames := 1, cells := 0, slots := 0, locals := 21 }) (zPre [.ref hC, .int (nI j)] (dC, dI) [(hC, .inr (1, [.ref hn, .ref ha, .ref hk, .int (nI cc)])), (hn, .inl (cN, 100, .inr (.inl cn))), (ha, .inl (cA, 100, .inl ca)), (hk, .inl (cK, 100, .inl cb))] [(cN, .long), (cA, .int), (cK, .boolean)]) (vp_Sl (fun r => r = cn j)) 0 0 (fun _ => False) := by
  refine Met.ofW (cc := b_CT_numberOf) (maxL := 2) (ret := (some .long)) (by decide) rfl ?_
  intro p e s m args below meth c s₁ B hml hv
  obtain ⟨rfl, hP, hK⟩ := hv
  have hx := B.exec
  have hb := B.bytes
  have hr := B.returns
  have hts := atoms_spec (ws := (zw y_CT_numberOf b_CT_numberOf 2 (some .long))) B.pre
  have htB : ∀ w ∈ BG, w.before ([.ref hC, .int (nI j)] : List Value).toArray s = true := fun w h => hts w (List.mem_cons_of_mem _ h)
  have hown : s.vm.findClass R_CT = some m.cls := findClass_of_methodNamed B.named
  have hlocks := B.notSynchronized
  have CF : CallFix p m c b_CT_numberOf 2 s ([.ref hC, .int (nI j)] : List Value).toArray BG R_CT := ⟨hx, hb, hml, hown, htB⟩
  have hP : va_P (dC, dI) vwCl [(hC, .inr (1, [.ref hn, .ref ha, .ref hk, .int (nI cc)])), (hn, .inl (cN, 100, .inr (.inl cn))), (ha, .inl (cA, 100, .inl ca)), (hk, .inl (cK, 100, .inl cb))] s.heap := hP
  have hl := lv_entry [.ref hC, .int (nI j)] (n := 2) (Nat.le_of_ble_eq_true rfl)
  rw [lg_entry_eq]
  generalize (lg_sl [.ref hC, .int (nI j)] ++ List.replicate (2 - (lg_sl [.ref hC, .int (nI j)]).length) Slot.unset).toArray = ls at hl ⊢
  have hl : lv_has ls 2 [(0, .ref hC), (1, .int (nI j))] := hl
  have b_13 : vp_in (nI j) 100 := vp_in_nI (by omega) (by omega)
  refine lv_aload_n hx hb d_CT_numberOf_0 rfl (lv_at hl 0 rfl) ?_
  refine lv_iload_n hx hb d_CT_numberOf_1 rfl (lv_at hl 1 rfl) ?_
  refine vp_callSi (va_Run.run (zr_V (n := 1) (As := [.int (nI j)]) (rest := []) CF (c_CT_has l dC dI hC hn ha hk cN cA cK cc cn ca cb hcc (nI j)) mc_CT_has lk_CT_27 mi_CT_has ms_CT_has ni_CT rfl rfl (by decide +kernel) ⟨Nat.le_of_ble_eq_true rfl, Nat.le_of_ble_eq_true rfl⟩ (hP.sub (ws' := [(hC, .inr (1, [.ref hn, .ref ha, .ref hk, .int (nI cc)])), (hn, .inl (cN, 100, .inr (.inl cn))), (ha, .inl (cA, 100, .inl ca)), (hk, .inl (cK, 100, .inl cb))]) [0, 1, 2, 3] rfl) (hK.sub (tys' := [(cN, .long), (cA, .int), (cK, .boolean)]) [0, 1, 2] rfl) rfl rfl rfl hl.1 rfl (lv_room (Nat.le_of_ble_eq_true rfl)) d_CT_numberOf_2 ⟨Nat.zero_le _, Nat.zero_le _⟩)) (fun r_2 h_2 => ?_)
  rw [if_pos (show 0 ≤ (nI j).toInt ∧ (nI j).toInt < cc by rw [nI_toInt (by omega)]; omega)] at h_2
  subst h_2
  refine lv_if_eq (tgt := 17) hx hb d_CT_numberOf_5 (by decide) (fun c_5 => ?_) (fun c_5 => ?_)
  · exact absurd c_5 (by decide)
  · refine lv_aload_n hx hb d_CT_numberOf_8 rfl (lv_at hl 0 rfl) ?_
    refine va_get (D := (dC, dI)) (ci := 1) (v := .ref hn) (C := R_CT) (T := T_CT) (N := 4) hx hb htB i_CT hown hK hP 0 rfl rfl 0 (by decide) (htB _ lf_CT_11) (fun _ h9 => h9) rfl d_CT_numberOf_9 ?_
    refine lv_iload_n hx hb d_CT_numberOf_12 rfl (lv_at hl 1 rfl) ?_
    refine va_lald hx hb hK hP 1 0 rfl rfl b_13 d_CT_numberOf_13 ?_
    rw [nI_clamp (n := j) (by omega)]
    refine lv_goto (tgt := 18) hx hb d_CT_numberOf_14 (by decide) ?_
    exact W.lret (v := cn j) hx hb hr (fun t ht hW => ⟨_, rfl, rfl, ht⟩) (fun _ h => by cases h) d_CT_numberOf_18
set_option maxHeartbeats 4000000 in
set_option maxRecDepth 100000 in
theorem c_CT_accountOf (l : Launch) (dC : Nat → ClassId) (dI : Nat → Nat → Nat) (hC hn ha hk : Nat) (cN cA cK : ClassId) (cc : Nat) (cn : Nat → Int64) (ca cb : Nat → Int32) (hcc : cc ≤ 100) (j : Nat) (hj : j < cc) : Met l y_CT_accountOf (zw y_CT_accountOf b_CT_accountOf 2 (some .int)) ({ frames := 1, cells := 0, slots := 0, locals := 21 }) (zPre [.ref hC, .int (nI j)] (dC, dI) [(hC, .inr (1, [.ref hn, .ref ha, .ref hk, .int (nI cc)])), (hn, .inl (cN, 100, .inr (.inl cn))), (ha, .inl (cA, 100, .inl ca)), (hk, .inl (cK, 100, .inl cb))] [(cN, .long), (cA, .int), (cK, .boolean)]) (vp_Si (fun r => r = ca j)) 0 0 (fun _ => False) := by
  refine Met.ofW (cc := b_CT_accountOf) (maxL := 2) (ret := (some .int)) (by decide) rfl ?_
  intro p e s m args below meth c s₁ B hml hv
  obtain ⟨rfl, hP, hK⟩ := hv
  have hx := B.exec
  have hb := B.bytes
  have hr := B.returns
  have hts := atoms_spec (ws := (zw y_CT_accountOf b_CT_accountOf 2 (some .int))) B.pre
  have htB : ∀ w ∈ BG, w.before ([.ref hC, .int (nI j)] : List Value).toArray s = true := fun w h => hts w (List.mem_cons_of_mem _ h)
  have hown : s.vm.findClass R_CT = some m.cls := findClass_of_methodNamed B.named
  have hlocks := B.notSynchronized
  have CF : CallFix p m c b_CT_accountOf 2 s ([.ref hC, .int (nI j)] : List Value).toArray BG R_CT := ⟨hx, hb, hml, hown, htB⟩
  have hP : va_P (dC, dI) vwCl [(hC, .inr (1, [.ref hn, .ref ha, .ref hk, .int (nI cc)])), (hn, .inl (cN, 100, .inr (.inl cn))), (ha, .inl (cA, 100, .inl ca)), (hk, .inl (cK, 100, .inl cb))] s.heap := hP
  have hl := lv_entry [.ref hC, .int (nI j)] (n := 2) (Nat.le_of_ble_eq_true rfl)
  rw [lg_entry_eq]
  generalize (lg_sl [.ref hC, .int (nI j)] ++ List.replicate (2 - (lg_sl [.ref hC, .int (nI j)]).length) Slot.unset).toArray = ls at hl ⊢
  have hl : lv_has ls 2 [(0, .ref hC), (1, .int (nI j))] := hl
  have b_13 : vp_in (nI j) 100 := vp_in_nI (by omega) (by omega)
  refine lv_aload_n hx hb d_CT_accountOf_0 rfl (lv_at hl 0 rfl) ?_
  refine lv_iload_n hx hb d_CT_accountOf_1 rfl (lv_at hl 1 rfl) ?_
  refine vp_callSi (va_Run.run (zr_V (n := 1) (As := [.int (nI j)]) (rest := []) CF (c_CT_has l dC dI hC hn ha hk cN cA cK cc cn ca cb hcc (nI j)) mc_CT_has lk_CT_27 mi_CT_has ms_CT_has ni_CT rfl rfl (by decide +kernel) ⟨Nat.le_of_ble_eq_true rfl, Nat.le_of_ble_eq_true rfl⟩ (hP.sub (ws' := [(hC, .inr (1, [.ref hn, .ref ha, .ref hk, .int (nI cc)])), (hn, .inl (cN, 100, .inr (.inl cn))), (ha, .inl (cA, 100, .inl ca)), (hk, .inl (cK, 100, .inl cb))]) [0, 1, 2, 3] rfl) (hK.sub (tys' := [(cN, .long), (cA, .int), (cK, .boolean)]) [0, 1, 2] rfl) rfl rfl rfl hl.1 rfl (lv_room (Nat.le_of_ble_eq_true rfl)) d_CT_accountOf_2 ⟨Nat.zero_le _, Nat.zero_le _⟩)) (fun r_2 h_2 => ?_)
  rw [if_pos (show 0 ≤ (nI j).toInt ∧ (nI j).toInt < cc by rw [nI_toInt (by omega)]; omega)] at h_2
  subst h_2
  refine lv_if_eq (tgt := 17) hx hb d_CT_accountOf_5 (by decide) (fun c_5 => ?_) (fun c_5 => ?_)
  · exact absurd c_5 (by decide)
  · refine lv_aload_n hx hb d_CT_accountOf_8 rfl (lv_at hl 0 rfl) ?_
    refine va_get (D := (dC, dI)) (ci := 1) (v := .ref ha) (C := R_CT) (T := T_CT) (N := 4) hx hb htB i_CT hown hK hP 0 rfl rfl 1 (by decide) (htB _ lf_CT_15) (fun _ h9 => h9) rfl d_CT_accountOf_9 ?_
    refine lv_iload_n hx hb d_CT_accountOf_12 rfl (lv_at hl 1 rfl) ?_
    refine va_iald hx hb hK hP 2 1 rfl rfl b_13 d_CT_accountOf_13 ?_
    rw [nI_clamp (n := j) (by omega)]
    refine lv_goto (tgt := 18) hx hb d_CT_accountOf_14 (by decide) ?_
    exact W.iret (v := ca j) hx hb hr (fun t ht hW => ⟨_, rfl, rfl, ht⟩) (fun _ h => by cases h) d_CT_accountOf_18
set_option maxHeartbeats 4000000 in
set_option maxRecDepth 100000 in
theorem c_CT_isBlocked (l : Launch) (dC : Nat → ClassId) (dI : Nat → Nat → Nat) (hC hn ha hk : Nat) (cN cA cK : ClassId) (cc : Nat) (cn : Nat → Int64) (ca cb : Nat → Int32) (hcc : cc ≤ 100) (j : Nat) (hj : j < cc) : Met l y_CT_isBlocked (zw y_CT_isBlocked b_CT_isBlocked 2 (some .boolean)) ({ frames := 1, cells := 0, slots := 0, locals := 21 }) (zPre [.ref hC, .int (nI j)] (dC, dI) [(hC, .inr (1, [.ref hn, .ref ha, .ref hk, .int (nI cc)])), (hn, .inl (cN, 100, .inr (.inl cn))), (ha, .inl (cA, 100, .inl ca)), (hk, .inl (cK, 100, .inl cb))] [(cN, .long), (cA, .int), (cK, .boolean)]) (vp_Si (fun r => r = if cb j = 0 then 0 else 1)) 0 0 (fun _ => False) := by
  refine Met.ofW (cc := b_CT_isBlocked) (maxL := 2) (ret := (some .boolean)) (by decide) rfl ?_
  intro p e s m args below meth c s₁ B hml hv
  obtain ⟨rfl, hP, hK⟩ := hv
  have hx := B.exec
  have hb := B.bytes
  have hr := B.returns
  have hts := atoms_spec (ws := (zw y_CT_isBlocked b_CT_isBlocked 2 (some .boolean))) B.pre
  have htB : ∀ w ∈ BG, w.before ([.ref hC, .int (nI j)] : List Value).toArray s = true := fun w h => hts w (List.mem_cons_of_mem _ h)
  have hown : s.vm.findClass R_CT = some m.cls := findClass_of_methodNamed B.named
  have hlocks := B.notSynchronized
  have CF : CallFix p m c b_CT_isBlocked 2 s ([.ref hC, .int (nI j)] : List Value).toArray BG R_CT := ⟨hx, hb, hml, hown, htB⟩
  have hP : va_P (dC, dI) vwCl [(hC, .inr (1, [.ref hn, .ref ha, .ref hk, .int (nI cc)])), (hn, .inl (cN, 100, .inr (.inl cn))), (ha, .inl (cA, 100, .inl ca)), (hk, .inl (cK, 100, .inl cb))] s.heap := hP
  have hl := lv_entry [.ref hC, .int (nI j)] (n := 2) (Nat.le_of_ble_eq_true rfl)
  rw [lg_entry_eq]
  generalize (lg_sl [.ref hC, .int (nI j)] ++ List.replicate (2 - (lg_sl [.ref hC, .int (nI j)]).length) Slot.unset).toArray = ls at hl ⊢
  have hl : lv_has ls 2 [(0, .ref hC), (1, .int (nI j))] := hl
  have b_13 : vp_in (nI j) 100 := vp_in_nI (by omega) (by omega)
  refine lv_aload_n hx hb d_CT_isBlocked_0 rfl (lv_at hl 0 rfl) ?_
  refine lv_iload_n hx hb d_CT_isBlocked_1 rfl (lv_at hl 1 rfl) ?_
  refine vp_callSi (va_Run.run (zr_V (n := 1) (As := [.int (nI j)]) (rest := []) CF (c_CT_has l dC dI hC hn ha hk cN cA cK cc cn ca cb hcc (nI j)) mc_CT_has lk_CT_27 mi_CT_has ms_CT_has ni_CT rfl rfl (by decide +kernel) ⟨Nat.le_of_ble_eq_true rfl, Nat.le_of_ble_eq_true rfl⟩ (hP.sub (ws' := [(hC, .inr (1, [.ref hn, .ref ha, .ref hk, .int (nI cc)])), (hn, .inl (cN, 100, .inr (.inl cn))), (ha, .inl (cA, 100, .inl ca)), (hk, .inl (cK, 100, .inl cb))]) [0, 1, 2, 3] rfl) (hK.sub (tys' := [(cN, .long), (cA, .int), (cK, .boolean)]) [0, 1, 2] rfl) rfl rfl rfl hl.1 rfl (lv_room (Nat.le_of_ble_eq_true rfl)) d_CT_isBlocked_2 ⟨Nat.zero_le _, Nat.zero_le _⟩)) (fun r_2 h_2 => ?_)
  rw [if_pos (show 0 ≤ (nI j).toInt ∧ (nI j).toInt < cc by rw [nI_toInt (by omega)]; omega)] at h_2
  subst h_2
  refine lv_if_eq (tgt := 21) hx hb d_CT_isBlocked_5 (by decide) (fun c_5 => ?_) (fun c_5 => ?_)
  · exact absurd c_5 (by decide)
  · refine lv_aload_n hx hb d_CT_isBlocked_8 rfl (lv_at hl 0 rfl) ?_
    refine va_get (D := (dC, dI)) (ci := 1) (v := .ref hk) (C := R_CT) (T := T_CT) (N := 4) hx hb htB i_CT hown hK hP 0 rfl rfl 2 (by decide) (htB _ lf_CT_19) (fun _ h9 => h9) rfl d_CT_isBlocked_9 ?_
    refine lv_iload_n hx hb d_CT_isBlocked_12 rfl (lv_at hl 1 rfl) ?_
    refine va_zald hx hb hK hP 3 2 rfl rfl b_13 d_CT_isBlocked_13 ?_
    rw [nI_clamp (n := j) (by omega)]
    refine lv_if_eq (tgt := 21) hx hb d_CT_isBlocked_14 (by decide) (fun c_14 => ?_) (fun c_14 => ?_)
    · refine lv_iconst (v := 0) hx hb d_CT_isBlocked_21 (by decide) ?_
      exact W.zret (v := 0) (ty := .boolean) hx hb hr rfl (fun t ht hW => ⟨_, rfl, by rw [if_pos c_14], ht⟩) (fun _ h => by cases h) d_CT_isBlocked_22
    · refine lv_iconst (v := 1) hx hb d_CT_isBlocked_17 (by decide) ?_
      refine lv_goto (tgt := 22) hx hb d_CT_isBlocked_18 (by decide) ?_
      exact W.zret (v := 1) (ty := .boolean) hx hb hr rfl (fun t ht hW => ⟨_, rfl, by rw [if_neg c_14], ht⟩) (fun _ h => by cases h) d_CT_isBlocked_22
set_option maxHeartbeats 4000000 in
set_option maxRecDepth 100000 in
theorem c_AT_usesSince (l : Launch) (dC : Nat → ClassId) (dI : Nat → Nat → Nat) (hT hs hu ho : Nat) (cI cU cO : ClassId) (ac : Nat) (ai ut ol : Nat → Int32) (hac : ac ≤ 64) (j : Nat) (hj : j < ac) (T : Int32) : Met l y_AT_usesSince (zw y_AT_usesSince b_AT_usesSince 6 (some .int)) ({ frames := 1, cells := 0, slots := 0, locals := 21 }) (zPre [.ref hT, .int (nI j), .int T] (dC, dI) [(hT, .inr (0, [.ref hs, .ref hu, .ref ho, .int (nI ac)])), (hs, .inl (cI, 64, .inl ai)), (hu, .inl (cU, 512, .inl ut)), (ho, .inl (cO, 64, .inl ol))] [(cI, .int), (cU, .int), (cO, .int)]) (vp_Si (fun r => r = nI (zu_cnt ut T (8 * j) 8))) 0 0 (fun _ => False) := by
  refine Met.ofW (cc := b_AT_usesSince) (maxL := 6) (ret := (some .int)) (by decide) rfl ?_
  intro p e s m args below meth c s₁ B hml hv
  obtain ⟨rfl, hP, hK⟩ := hv
  have hx := B.exec
  have hb := B.bytes
  have hr := B.returns
  have hts := atoms_spec (ws := (zw y_AT_usesSince b_AT_usesSince 6 (some .int))) B.pre
  have htB : ∀ w ∈ BG, w.before ([.ref hT, .int (nI j), .int T] : List Value).toArray s = true := fun w h => hts w (List.mem_cons_of_mem _ h)
  have hown : s.vm.findClass R_AT = some m.cls := findClass_of_methodNamed B.named
  have hlocks := B.notSynchronized
  have CF : CallFix p m c b_AT_usesSince 6 s ([.ref hT, .int (nI j), .int T] : List Value).toArray BG R_AT := ⟨hx, hb, hml, hown, htB⟩
  have hP : va_P (dC, dI) vwCl [(hT, .inr (0, [.ref hs, .ref hu, .ref ho, .int (nI ac)])), (hs, .inl (cI, 64, .inl ai)), (hu, .inl (cU, 512, .inl ut)), (ho, .inl (cO, 64, .inl ol))] s.heap := hP
  have hl := lv_entry [.ref hT, .int (nI j), .int T] (n := 6) (Nat.le_of_ble_eq_true rfl)
  rw [lg_entry_eq]
  generalize (lg_sl [.ref hT, .int (nI j), .int T] ++ List.replicate (6 - (lg_sl [.ref hT, .int (nI j), .int T]).length) Slot.unset).toArray = ls at hl ⊢
  have hl : lv_has ls 6 [(0, .ref hT), (1, .int (nI j)), (2, .int T)] := hl
  refine lv_aload_n hx hb d_AT_usesSince_0 rfl (lv_at hl 0 rfl) ?_
  refine lv_iload_n hx hb d_AT_usesSince_1 rfl (lv_at hl 1 rfl) ?_
  refine vp_callSi (va_Run.run (zr_V (n := 1) (As := [.int (nI j)]) (rest := []) CF (c_AT_has l dC dI hT hs hu ho cI cU cO ac ai ut ol hac (nI j)) mc_AT_has lk_AT_31 mi_AT_has ms_AT_has ni_AT rfl rfl (by decide +kernel) ⟨Nat.le_of_ble_eq_true rfl, Nat.le_of_ble_eq_true rfl⟩ (hP.sub (ws' := [(hT, .inr (0, [.ref hs, .ref hu, .ref ho, .int (nI ac)])), (hs, .inl (cI, 64, .inl ai)), (hu, .inl (cU, 512, .inl ut)), (ho, .inl (cO, 64, .inl ol))]) [0, 1, 2, 3] rfl) (hK.sub (tys' := [(cI, .int), (cU, .int), (cO, .int)]) [0, 1, 2] rfl) rfl rfl rfl hl.1 rfl (lv_room (Nat.le_of_ble_eq_true rfl)) d_AT_usesSince_2 ⟨Nat.zero_le _, Nat.zero_le _⟩)) (fun r_2 h_2 => ?_)
  rw [if_pos (show 0 ≤ (nI j).toInt ∧ (nI j).toInt < ac by rw [nI_toInt (by omega)]; omega)] at h_2
  subst h_2
  refine lv_if_ne (tgt := 10) hx hb d_AT_usesSince_5 (by decide) (fun c_5 => ?_) (fun c_5 => ?_)
  · refine lv_iconst (v := 0) hx hb d_AT_usesSince_10 (by decide) ?_
    refine lv_istore_n (lv' := [(3, .int 0), (0, .ref hT), (1, .int (nI j)), (2, .int T)]) hx hb d_AT_usesSince_11 rfl hl (by decide) rfl (fun ls hl => ?_)
    refine lv_iload_n hx hb d_AT_usesSince_12 rfl (lv_at hl 2 rfl) ?_
    refine lv_bipush (v := 8) hx hb d_AT_usesSince_13 (by decide) ?_
    refine lv_imul hx hb d_AT_usesSince_15 ?_
    rw [show ((nI j) * 8 : Int32) = nI (8 * j) from by rw [Nat.mul_comm]; exact pk_mul j 8]
    refine lv_istore (lv' := [(4, .int (nI (8 * j))), (3, .int 0), (0, .ref hT), (1, .int (nI j)), (2, .int T)]) hx hb d_AT_usesSince_16 hl (by decide) rfl (fun ls hl => ?_)
    refine lv_iload hx hb d_AT_usesSince_18 (lv_at hl 0 rfl) ?_
    refine lv_istore (lv' := [(5, .int (nI (8 * j))), (4, .int (nI (8 * j))), (3, .int 0), (0, .ref hT), (1, .int (nI j)), (2, .int T)]) hx hb d_AT_usesSince_20 hl (by decide) rfl (fun ls hl => ?_)
    have loop : ∀ (k i : Nat) (ls : Array Slot), i + k = 8 → lv_has ls 6 [(5, .int (nI (8 * j + i))), (4, .int (nI (8 * j))), (3, .int (nI (zu_cnt ut T (8 * j) i))), (0, .ref hT), (2, .int T)] → W p l e (headSpec (zw y_AT_usesSince b_AT_usesSince 6 (some .int)) ({ frames := 1, cells := 0, slots := 0, locals := 21 })).room s m ([.ref hT, .int (nI j), .int T] : List Value).toArray below meth c s.heap [] 0 0 (MQ below (vp_Si (fun r => r = nI (zu_cnt ut T (8 * j) 8))) ([.ref hT, .int (nI j), .int T] : List Value).toArray s 0 0 (fun _ => False)) (F0 m 22 ls []) := by
      intro k
      induction k with
      | zero =>
        intro i ls hi hl
        refine lv_iload hx hb d_AT_usesSince_22 (lv_at hl 0 rfl) ?_
        refine lv_iload hx hb d_AT_usesSince_24 (lv_at hl 1 rfl) ?_
        refine lv_bipush (v := 8) hx hb d_AT_usesSince_26 (by decide) ?_
        refine lv_iadd hx hb d_AT_usesSince_28 ?_
        rw [show ((nI (8 * j)) + 8 : Int32) = nI (8 * j + 8) from nI_add (8 * j) 8]
        refine lv_icmp_ge (tgt := 52) hx hb d_AT_usesSince_29 (by decide) (fun c_29 => ?_) (fun c_29 => ?_)
        · refine lv_iload_n hx hb d_AT_usesSince_52 rfl (lv_at hl 2 rfl) ?_
          exact W.iret (v := nI (zu_cnt ut T (8 * j) i)) hx hb hr (fun t ht hW => ⟨_, rfl, by rw [show i = 8 by omega], ht⟩) (fun _ h => by cases h) d_AT_usesSince_53
        · exact absurd (nI_le (show 8 * j + 8 ≤ 8 * j + i by omega) (by omega)) c_29
      | succ k ih =>
        intro i ls hi hl
        have b_38 : vp_in (nI (8 * j + i)) 512 := vp_in_nI (by omega) (by omega)
        refine lv_iload hx hb d_AT_usesSince_22 (lv_at hl 0 rfl) ?_
        refine lv_iload hx hb d_AT_usesSince_24 (lv_at hl 1 rfl) ?_
        refine lv_bipush (v := 8) hx hb d_AT_usesSince_26 (by decide) ?_
        refine lv_iadd hx hb d_AT_usesSince_28 ?_
        rw [show ((nI (8 * j)) + 8 : Int32) = nI (8 * j + 8) from nI_add (8 * j) 8]
        refine lv_icmp_ge (tgt := 52) hx hb d_AT_usesSince_29 (by decide) (fun c_29 => ?_) (fun c_29 => ?_)
        · exact absurd c_29 (nI_ge (show 8 * j + i < 8 * j + 8 by omega) (by omega))
        · refine lv_aload_n hx hb d_AT_usesSince_32 rfl (lv_at hl 3 rfl) ?_
          refine va_get (D := (dC, dI)) (ci := 0) (v := .ref hu) (C := R_AT) (T := T_AT) (N := 4) hx hb htB i_AT hown hK hP 0 rfl rfl 1 (by decide) (htB _ lf_AT_15) (fun _ h9 => h9) rfl d_AT_usesSince_33 ?_
          refine lv_iload hx hb d_AT_usesSince_36 (lv_at hl 0 rfl) ?_
          refine va_iald hx hb hK hP 2 1 rfl rfl b_38 d_AT_usesSince_38 ?_
          rw [nI_clamp (n := (8 * j + i)) (by omega)]
          refine lv_iload_n hx hb d_AT_usesSince_39 rfl (lv_at hl 4 rfl) ?_
          refine lv_icmp_lt (tgt := 46) hx hb d_AT_usesSince_40 (by decide) (fun c_40 => ?_) (fun c_40 => ?_)
          · refine lv_iinc (v := (nI (8 * j + i)) + 1) (lv' := [(5, .int ((nI (8 * j + i)) + 1)), (4, .int (nI (8 * j))), (3, .int (nI (zu_cnt ut T (8 * j) i))), (0, .ref hT), (2, .int T)]) hx hb d_AT_usesSince_46 hl (k := 0) rfl rfl (by decide) rfl (fun ls hl => ?_)
            refine lv_goto (tgt := 22) hx hb d_AT_usesSince_49 (by decide) ?_
            rw [nI_1] at hl
            have ez : zu_cnt ut T (8 * j) (i + 1) = zu_cnt ut T (8 * j) i := by simp only [zu_cnt]; rw [if_neg (fun h => absurd c_40 (Int32.not_lt.mpr h))]; rfl
            refine ih (i + 1) ls (by omega) ?_
            rw [ez]
            exact lv_sub hl [0, 1, 2, 3, 4] rfl
          · refine lv_iinc (v := (nI (zu_cnt ut T (8 * j) i)) + 1) (lv' := [(3, .int ((nI (zu_cnt ut T (8 * j) i)) + 1)), (5, .int (nI (8 * j + i))), (4, .int (nI (8 * j))), (0, .ref hT), (2, .int T)]) hx hb d_AT_usesSince_43 hl (k := 2) rfl rfl (by decide) rfl (fun ls hl => ?_)
            refine lv_iinc (v := (nI (8 * j + i)) + 1) (lv' := [(5, .int ((nI (8 * j + i)) + 1)), (3, .int ((nI (zu_cnt ut T (8 * j) i)) + 1)), (4, .int (nI (8 * j))), (0, .ref hT), (2, .int T)]) hx hb d_AT_usesSince_46 hl (k := 1) rfl rfl (by decide) rfl (fun ls hl => ?_)
            refine lv_goto (tgt := 22) hx hb d_AT_usesSince_49 (by decide) ?_
            rw [nI_1, nI_1] at hl
            have ez : zu_cnt ut T (8 * j) (i + 1) = zu_cnt ut T (8 * j) i + 1 := by simp only [zu_cnt]; rw [if_pos (Int32.not_lt.mp c_40)]
            refine ih (i + 1) ls (by omega) ?_
            rw [ez]
            exact lv_sub hl [0, 2, 1, 3, 4] rfl
    exact loop 8 0 ls (by omega) (lv_sub hl [0, 1, 2, 3, 5] rfl)
  · exact absurd c_5 (by decide)
set_option maxHeartbeats 4000000 in
set_option maxRecDepth 100000 in
theorem c_AT_noteUse (l : Launch) (dC : Nat → ClassId) (dI : Nat → Nat → Nat) (hT hs hu ho : Nat) (cI cU cO : ClassId) (ac : Nat) (ai ut ol : Nat → Int32) (hac : ac ≤ 64) (j o : Nat) (hj : j < ac) (ho8 : o < 8) (hol : ol j = nI o) (T : Int32) (hD0 : va_D (fun _ => True) [(hT, .inr (0, [.ref hs, .ref hu, .ref ho, .int (nI ac)])), (hs, .inl (cI, 64, .inl ai)), (hu, .inl (cU, 512, .inl ut)), (ho, .inl (cO, 64, .inl ol))]) : Met l y_AT_noteUse (zw y_AT_noteUse b_AT_noteUse 3 none) ({ frames := 1, cells := 0, slots := 0, locals := 21 }) (zPre [.ref hT, .int (nI j), .int T] (dC, dI) [(hT, .inr (0, [.ref hs, .ref hu, .ref ho, .int (nI ac)])), (hs, .inl (cI, 64, .inl ai)), (hu, .inl (cU, 512, .inl ut)), (ho, .inl (cO, 64, .inl ol))] [(cI, .int), (cU, .int), (cO, .int)]) (va_Qv (fun (_ : Unit) => True) (fun (_ : Unit) (t : State) => va_P (dC, dI) vwCl [(hT, .inr (0, [.ref hs, .ref hu, .ref ho, .int (nI ac)])), (hs, .inl (cI, 64, .inl ai)), (hu, .inl (cU, 512, .inl (upd ut (8 * j + o) T))), (ho, .inl (cO, 64, .inl (upd ol j (nI ((o + 1) % 8)))))] t.heap) (zA [(hT, .inr (0, [.ref hs, .ref hu, .ref ho, .int (nI ac)])), (hs, .inl (cI, 64, .inl ai)), (hu, .inl (cU, 512, .inl ut)), (ho, .inl (cO, 64, .inl ol))])) 0 0 (zA [(hT, .inr (0, [.ref hs, .ref hu, .ref ho, .int (nI ac)])), (hs, .inl (cI, 64, .inl ai)), (hu, .inl (cU, 512, .inl ut)), (ho, .inl (cO, 64, .inl ol))]) := by
  refine Met.ofW (cc := b_AT_noteUse) (maxL := 3) (ret := none) (by decide) rfl ?_
  intro p e s m args below meth c s₁ B hml hv
  obtain ⟨rfl, hP, hK⟩ := hv
  have hx := B.exec
  have hb := B.bytes
  have hr := B.returns
  have hts := atoms_spec (ws := (zw y_AT_noteUse b_AT_noteUse 3 none)) B.pre
  have htB : ∀ w ∈ BG, w.before ([.ref hT, .int (nI j), .int T] : List Value).toArray s = true := fun w h => hts w (List.mem_cons_of_mem _ h)
  have hown : s.vm.findClass R_AT = some m.cls := findClass_of_methodNamed B.named
  have hlocks := B.notSynchronized
  have CF : CallFix p m c b_AT_noteUse 3 s ([.ref hT, .int (nI j), .int T] : List Value).toArray BG R_AT := ⟨hx, hb, hml, hown, htB⟩
  have hP : va_P (dC, dI) vwCl [(hT, .inr (0, [.ref hs, .ref hu, .ref ho, .int (nI ac)])), (hs, .inl (cI, 64, .inl ai)), (hu, .inl (cU, 512, .inl ut)), (ho, .inl (cO, 64, .inl ol))] s.heap := hP
  have hl := lv_entry [.ref hT, .int (nI j), .int T] (n := 3) (Nat.le_of_ble_eq_true rfl)
  rw [lg_entry_eq]
  generalize (lg_sl [.ref hT, .int (nI j), .int T] ++ List.replicate (3 - (lg_sl [.ref hT, .int (nI j), .int T]).length) Slot.unset).toArray = ls at hl ⊢
  have hl : lv_has ls 3 [(0, .ref hT), (1, .int (nI j)), (2, .int T)] := hl
  have hD : va_D (zA [(hT, .inr (0, [.ref hs, .ref hu, .ref ho, .int (nI ac)])), (hs, .inl (cI, 64, .inl ai)), (hu, .inl (cU, 512, .inl ut)), (ho, .inl (cO, 64, .inl ol))]) [(hT, .inr (0, [.ref hs, .ref hu, .ref ho, .int (nI ac)])), (hs, .inl (cI, 64, .inl ai)), (hu, .inl (cU, 512, .inl ut)), (ho, .inl (cO, 64, .inl ol))] := zA_of hD0
  have hS : va_S (zA [(hT, .inr (0, [.ref hs, .ref hu, .ref ho, .int (nI ac)])), (hs, .inl (cI, 64, .inl ai)), (hu, .inl (cU, 512, .inl ut)), (ho, .inl (cO, 64, .inl ol))]) s.heap s.heap [] := va_S.rf
  generalize zA [(hT, .inr (0, [.ref hs, .ref hu, .ref ho, .int (nI ac)])), (hs, .inl (cI, 64, .inl ai)), (hu, .inl (cU, 512, .inl ut)), (ho, .inl (cO, 64, .inl ol))] = A at hD hS ⊢
  have b_21 : vp_in (nI j) 64 := vp_in_nI (by omega) (by omega)
  have b_35 := b_21
  have b_41 := b_21
  have b_24 : vp_in (nI (8 * j + o)) 512 := vp_in_nI (by omega) (by omega)
  refine lv_aload_n hx hb d_AT_noteUse_0 rfl (lv_at hl 0 rfl) ?_
  refine lv_iload_n hx hb d_AT_noteUse_1 rfl (lv_at hl 1 rfl) ?_
  refine vp_callSi (va_Run.run (zr_V (n := 1) (As := [.int (nI j)]) (rest := []) CF (c_AT_has l dC dI hT hs hu ho cI cU cO ac ai ut ol hac (nI j)) mc_AT_has lk_AT_31 mi_AT_has ms_AT_has ni_AT rfl rfl (by decide +kernel) ⟨Nat.le_of_ble_eq_true rfl, Nat.le_of_ble_eq_true rfl⟩ (hP.sub (ws' := [(hT, .inr (0, [.ref hs, .ref hu, .ref ho, .int (nI ac)])), (hs, .inl (cI, 64, .inl ai)), (hu, .inl (cU, 512, .inl ut)), (ho, .inl (cO, 64, .inl ol))]) [0, 1, 2, 3] rfl) (hK.sub (tys' := [(cI, .int), (cU, .int), (cO, .int)]) [0, 1, 2] rfl) rfl rfl rfl hl.1 rfl (lv_room (Nat.le_of_ble_eq_true rfl)) d_AT_noteUse_2 ⟨Nat.zero_le _, Nat.zero_le _⟩)) (fun r_2 h_2 => ?_)
  rw [if_pos (show 0 ≤ (nI j).toInt ∧ (nI j).toInt < ac by rw [nI_toInt (by omega)]; omega)] at h_2
  subst h_2
  refine lv_if_eq (tgt := 42) hx hb d_AT_noteUse_5 (by decide) (fun c_5 => ?_) (fun c_5 => ?_)
  · exact absurd c_5 (by decide)
  · refine lv_aload_n hx hb d_AT_noteUse_8 rfl (lv_at hl 0 rfl) ?_
    refine va_get (D := (dC, dI)) (ci := 0) (v := .ref hu) (C := R_AT) (T := T_AT) (N := 4) hx hb htB i_AT hown hK hP 0 rfl rfl 1 (by decide) (htB _ lf_AT_15) (fun _ h9 => h9) rfl d_AT_noteUse_9 ?_
    refine lv_iload_n hx hb d_AT_noteUse_12 rfl (lv_at hl 1 rfl) ?_
    refine lv_bipush (v := 8) hx hb d_AT_noteUse_13 (by decide) ?_
    refine lv_imul hx hb d_AT_noteUse_15 ?_
    rw [show ((nI j) * 8 : Int32) = nI (8 * j) from by rw [Nat.mul_comm]; exact pk_mul j 8]
    refine lv_aload_n hx hb d_AT_noteUse_16 rfl (lv_at hl 0 rfl) ?_
    refine va_get (D := (dC, dI)) (ci := 0) (v := .ref ho) (C := R_AT) (T := T_AT) (N := 4) hx hb htB i_AT hown hK hP 0 rfl rfl 2 (by decide) (htB _ lf_AT_18) (fun _ h9 => h9) rfl d_AT_noteUse_17 ?_
    refine lv_iload_n hx hb d_AT_noteUse_20 rfl (lv_at hl 1 rfl) ?_
    refine va_iald hx hb hK hP 3 2 rfl rfl b_21 d_AT_noteUse_21 ?_
    rw [nI_clamp (n := j) (by omega)]
    rw [show (ol j : Int32) = nI o from hol]
    refine lv_iadd hx hb d_AT_noteUse_22 ?_
    rw [show ((nI (8 * j)) + (nI o) : Int32) = nI (8 * j + o) from nI_add _ _]
    refine lv_iload_n hx hb d_AT_noteUse_23 rfl (lv_at hl 2 rfl) ?_
    refine va_iast hx hb hK hP hD hS 2 1 rfl rfl b_24 d_AT_noteUse_24 (fun H locs hP hD hS => ?_)
    have hP : va_P (dC, dI) vwCl [(hT, .inr (0, [.ref hs, .ref hu, .ref ho, .int (nI ac)])), (hs, .inl (cI, 64, .inl ai)), (hu, .inl (cU, 512, .inl (upd ut (nI (8 * j + o)).toNatClampNeg T))), (ho, .inl (cO, 64, .inl ol))] H := hP
    have hD : va_D A [(hT, .inr (0, [.ref hs, .ref hu, .ref ho, .int (nI ac)])), (hs, .inl (cI, 64, .inl ai)), (hu, .inl (cU, 512, .inl (upd ut (nI (8 * j + o)).toNatClampNeg T))), (ho, .inl (cO, 64, .inl ol))] := hD
    rw [nI_clamp (n := (8 * j + o)) (by omega)] at hP hD
    refine lv_aload_n hx hb d_AT_noteUse_25 rfl (lv_at hl 0 rfl) ?_
    refine va_get (D := (dC, dI)) (ci := 0) (v := .ref ho) (C := R_AT) (T := T_AT) (N := 4) hx hb htB i_AT hown hK hP 0 rfl rfl 2 (by decide) (htB _ lf_AT_18) (fun _ h9 => h9) rfl d_AT_noteUse_26 ?_
    refine lv_iload_n hx hb d_AT_noteUse_29 rfl (lv_at hl 1 rfl) ?_
    refine lv_aload_n hx hb d_AT_noteUse_30 rfl (lv_at hl 0 rfl) ?_
    refine va_get (D := (dC, dI)) (ci := 0) (v := .ref ho) (C := R_AT) (T := T_AT) (N := 4) hx hb htB i_AT hown hK hP 0 rfl rfl 2 (by decide) (htB _ lf_AT_18) (fun _ h9 => h9) rfl d_AT_noteUse_31 ?_
    refine lv_iload_n hx hb d_AT_noteUse_34 rfl (lv_at hl 1 rfl) ?_
    refine va_iald hx hb hK hP 3 2 rfl rfl b_35 d_AT_noteUse_35 ?_
    rw [nI_clamp (n := j) (by omega)]
    rw [show (ol j : Int32) = nI o from hol]
    refine lv_iconst (v := 1) hx hb d_AT_noteUse_36 (by decide) ?_
    refine lv_iadd hx hb d_AT_noteUse_37 ?_
    rw [show ((nI o) + 1 : Int32) = nI (o + 1) from nI_1 o]
    refine lv_bipush (v := 8) hx hb d_AT_noteUse_38 (by decide) ?_
    refine lv_irem hx hb d_AT_noteUse_40 (by decide) ?_
    rw [show ((nI (o + 1)) - (nI (o + 1)) / 8 * 8 : Int32) = nI ((o + 1) % 8) from pk_rem (d := 8) (by omega) (by decide) (by decide)]
    refine va_iast hx hb hK hP hD hS 3 2 rfl rfl b_41 d_AT_noteUse_41 (fun H locs hP hD hS => ?_)
    have hP : va_P (dC, dI) vwCl [(hT, .inr (0, [.ref hs, .ref hu, .ref ho, .int (nI ac)])), (hs, .inl (cI, 64, .inl ai)), (hu, .inl (cU, 512, .inl (upd ut (8 * j + o) T))), (ho, .inl (cO, 64, .inl (upd ol (nI j).toNatClampNeg (nI ((o + 1) % 8)))))] H := hP
    have hD : va_D A [(hT, .inr (0, [.ref hs, .ref hu, .ref ho, .int (nI ac)])), (hs, .inl (cI, 64, .inl ai)), (hu, .inl (cU, 512, .inl (upd ut (8 * j + o) T))), (ho, .inl (cO, 64, .inl (upd ol (nI j).toNatClampNeg (nI ((o + 1) % 8)))))] := hD
    rw [nI_clamp (n := j) (by omega)] at hP hD
    exact W.vret hx hb hr (fun t ht hW => ⟨⟨(), rfl, trivial, by show va_P _ _ _ t.heap; rw [ht]; exact hP⟩, hS.F ht⟩) hS.2.2 d_AT_noteUse_42
set_option maxHeartbeats 4000000 in
set_option maxRecDepth 100000 in
theorem c_CT_setBlocked (l : Launch) (dC : Nat → ClassId) (dI : Nat → Nat → Nat) (hC hn ha hk : Nat) (cN cA cK : ClassId) (cc : Nat) (cn : Nat → Int64) (ca cb : Nat → Int32) (hcc : cc ≤ 100) (j : Nat) (hj : j < cc) (on : Int32) (hD0 : va_D (fun _ => True) [(hC, .inr (1, [.ref hn, .ref ha, .ref hk, .int (nI cc)])), (hn, .inl (cN, 100, .inr (.inl cn))), (ha, .inl (cA, 100, .inl ca)), (hk, .inl (cK, 100, .inl cb))]) : Met l y_CT_setBlocked (zw y_CT_setBlocked b_CT_setBlocked 4 (some .boolean)) ({ frames := 2, cells := 0, slots := 0, locals := 42 }) (zPre [.ref hC, .int (nI j), .int on] (dC, dI) [(hC, .inr (1, [.ref hn, .ref ha, .ref hk, .int (nI cc)])), (hn, .inl (cN, 100, .inr (.inl cn))), (ha, .inl (cA, 100, .inl ca)), (hk, .inl (cK, 100, .inl cb))] [(cN, .long), (cA, .int), (cK, .boolean)]) (va_Qi (fun (r : Int32) (_ : Unit) => r = if cb j = 0 then 0 else 1) (fun (_ : Unit) (t : State) => va_P (dC, dI) vwCl [(hC, .inr (1, [.ref hn, .ref ha, .ref hk, .int (nI cc)])), (hn, .inl (cN, 100, .inr (.inl cn))), (ha, .inl (cA, 100, .inl ca)), (hk, .inl (cK, 100, .inl (upd cb j (vp_nar .boolean on))))] t.heap) (zA [(hC, .inr (1, [.ref hn, .ref ha, .ref hk, .int (nI cc)])), (hn, .inl (cN, 100, .inr (.inl cn))), (ha, .inl (cA, 100, .inl ca)), (hk, .inl (cK, 100, .inl cb))])) 0 0 (zA [(hC, .inr (1, [.ref hn, .ref ha, .ref hk, .int (nI cc)])), (hn, .inl (cN, 100, .inr (.inl cn))), (ha, .inl (cA, 100, .inl ca)), (hk, .inl (cK, 100, .inl cb))]) := by
  refine Met.ofW (cc := b_CT_setBlocked) (maxL := 4) (ret := (some .boolean)) (by decide) rfl ?_
  intro p e s m args below meth c s₁ B hml hv
  obtain ⟨rfl, hP, hK⟩ := hv
  have hx := B.exec
  have hb := B.bytes
  have hr := B.returns
  have hts := atoms_spec (ws := (zw y_CT_setBlocked b_CT_setBlocked 4 (some .boolean))) B.pre
  have htB : ∀ w ∈ BG, w.before ([.ref hC, .int (nI j), .int on] : List Value).toArray s = true := fun w h => hts w (List.mem_cons_of_mem _ h)
  have hown : s.vm.findClass R_CT = some m.cls := findClass_of_methodNamed B.named
  have hlocks := B.notSynchronized
  have CF : CallFix p m c b_CT_setBlocked 4 s ([.ref hC, .int (nI j), .int on] : List Value).toArray BG R_CT := ⟨hx, hb, hml, hown, htB⟩
  have hP : va_P (dC, dI) vwCl [(hC, .inr (1, [.ref hn, .ref ha, .ref hk, .int (nI cc)])), (hn, .inl (cN, 100, .inr (.inl cn))), (ha, .inl (cA, 100, .inl ca)), (hk, .inl (cK, 100, .inl cb))] s.heap := hP
  have hl := lv_entry [.ref hC, .int (nI j), .int on] (n := 4) (Nat.le_of_ble_eq_true rfl)
  rw [lg_entry_eq]
  generalize (lg_sl [.ref hC, .int (nI j), .int on] ++ List.replicate (4 - (lg_sl [.ref hC, .int (nI j), .int on]).length) Slot.unset).toArray = ls at hl ⊢
  have hl : lv_has ls 4 [(0, .ref hC), (1, .int (nI j)), (2, .int on)] := hl
  have hD : va_D (zA [(hC, .inr (1, [.ref hn, .ref ha, .ref hk, .int (nI cc)])), (hn, .inl (cN, 100, .inr (.inl cn))), (ha, .inl (cA, 100, .inl ca)), (hk, .inl (cK, 100, .inl cb))]) [(hC, .inr (1, [.ref hn, .ref ha, .ref hk, .int (nI cc)])), (hn, .inl (cN, 100, .inr (.inl cn))), (ha, .inl (cA, 100, .inl ca)), (hk, .inl (cK, 100, .inl cb))] := zA_of hD0
  have hS : va_S (zA [(hC, .inr (1, [.ref hn, .ref ha, .ref hk, .int (nI cc)])), (hn, .inl (cN, 100, .inr (.inl cn))), (ha, .inl (cA, 100, .inl ca)), (hk, .inl (cK, 100, .inl cb))]) s.heap s.heap [] := va_S.rf
  generalize zA [(hC, .inr (1, [.ref hn, .ref ha, .ref hk, .int (nI cc)])), (hn, .inl (cN, 100, .inr (.inl cn))), (ha, .inl (cA, 100, .inl ca)), (hk, .inl (cK, 100, .inl cb))] = A at hD hS ⊢
  have b_20 : vp_in (nI j) 100 := vp_in_nI (by omega) (by omega)
  refine lv_aload_n hx hb d_CT_setBlocked_0 rfl (lv_at hl 0 rfl) ?_
  refine lv_iload_n hx hb d_CT_setBlocked_1 rfl (lv_at hl 1 rfl) ?_
  refine vp_callSi (va_Run.run (zr_V (n := 1) (As := [.int (nI j)]) (rest := []) CF (c_CT_isBlocked l dC dI hC hn ha hk cN cA cK cc cn ca cb hcc j hj) mc_CT_isBlocked lk_CT_31 mi_CT_isBlocked ms_CT_isBlocked ni_CT rfl rfl (by decide +kernel) ⟨Nat.le_of_ble_eq_true rfl, Nat.le_of_ble_eq_true rfl⟩ (hP.sub (ws' := [(hC, .inr (1, [.ref hn, .ref ha, .ref hk, .int (nI cc)])), (hn, .inl (cN, 100, .inr (.inl cn))), (ha, .inl (cA, 100, .inl ca)), (hk, .inl (cK, 100, .inl cb))]) [0, 1, 2, 3] rfl) (hK.sub (tys' := [(cN, .long), (cA, .int), (cK, .boolean)]) [0, 1, 2] rfl) rfl rfl rfl hl.1 rfl (lv_room (Nat.le_of_ble_eq_true rfl)) d_CT_setBlocked_2 ⟨Nat.zero_le _, Nat.zero_le _⟩)) (fun r_2 h_2 => ?_)
  refine lv_istore_n (lv' := [(3, .int r_2), (0, .ref hC), (1, .int (nI j)), (2, .int on)]) hx hb d_CT_setBlocked_5 rfl hl (by decide) rfl (fun ls hl => ?_)
  refine lv_aload_n hx hb d_CT_setBlocked_6 rfl (lv_at hl 1 rfl) ?_
  refine lv_iload_n hx hb d_CT_setBlocked_7 rfl (lv_at hl 2 rfl) ?_
  refine vp_callSi (va_Run.run (zr_V (n := 1) (As := [.int (nI j)]) (rest := []) CF (c_CT_has l dC dI hC hn ha hk cN cA cK cc cn ca cb hcc (nI j)) mc_CT_has lk_CT_27 mi_CT_has ms_CT_has ni_CT rfl rfl (by decide +kernel) ⟨Nat.le_of_ble_eq_true rfl, Nat.le_of_ble_eq_true rfl⟩ (hP.sub (ws' := [(hC, .inr (1, [.ref hn, .ref ha, .ref hk, .int (nI cc)])), (hn, .inl (cN, 100, .inr (.inl cn))), (ha, .inl (cA, 100, .inl ca)), (hk, .inl (cK, 100, .inl cb))]) [0, 1, 2, 3] rfl) (hK.sub (tys' := [(cN, .long), (cA, .int), (cK, .boolean)]) [0, 1, 2] rfl) rfl rfl rfl hl.1 rfl (lv_room (Nat.le_of_ble_eq_true rfl)) d_CT_setBlocked_8 ⟨Nat.zero_le _, Nat.zero_le _⟩)) (fun r_8 h_8 => ?_)
  rw [if_pos (show 0 ≤ (nI j).toInt ∧ (nI j).toInt < cc by rw [nI_toInt (by omega)]; omega)] at h_8
  subst h_8
  refine lv_if_eq (tgt := 21) hx hb d_CT_setBlocked_11 (by decide) (fun c_11 => ?_) (fun c_11 => ?_)
  · exact absurd c_11 (by decide)
  · refine lv_aload_n hx hb d_CT_setBlocked_14 rfl (lv_at hl 1 rfl) ?_
    refine va_get (D := (dC, dI)) (ci := 1) (v := .ref hk) (C := R_CT) (T := T_CT) (N := 4) hx hb htB i_CT hown hK hP 0 rfl rfl 2 (by decide) (htB _ lf_CT_19) (fun _ h9 => h9) rfl d_CT_setBlocked_15 ?_
    refine lv_iload_n hx hb d_CT_setBlocked_18 rfl (lv_at hl 2 rfl) ?_
    refine lv_iload_n hx hb d_CT_setBlocked_19 rfl (lv_at hl 3 rfl) ?_
    refine va_zast hx hb hK hP hD hS 3 2 rfl rfl b_20 d_CT_setBlocked_20 (fun H locs hP hD hS => ?_)
    have hP : va_P (dC, dI) vwCl [(hC, .inr (1, [.ref hn, .ref ha, .ref hk, .int (nI cc)])), (hn, .inl (cN, 100, .inr (.inl cn))), (ha, .inl (cA, 100, .inl ca)), (hk, .inl (cK, 100, .inl (upd cb (nI j).toNatClampNeg (vp_nar .boolean on))))] H := hP
    have hD : va_D A [(hC, .inr (1, [.ref hn, .ref ha, .ref hk, .int (nI cc)])), (hn, .inl (cN, 100, .inr (.inl cn))), (ha, .inl (cA, 100, .inl ca)), (hk, .inl (cK, 100, .inl (upd cb (nI j).toNatClampNeg (vp_nar .boolean on))))] := hD
    rw [nI_clamp (n := j) (by omega)] at hP hD
    refine lv_iload_n hx hb d_CT_setBlocked_21 rfl (lv_at hl 0 rfl) ?_
    exact W.zret (v := r_2) (ty := .boolean) hx hb hr (by rw [h_2]; split <;> rfl) (fun t ht hW => ⟨⟨_, (), rfl, h_2, by show va_P _ _ _ t.heap; rw [ht]; exact hP⟩, hS.F ht⟩) hS.2.2 d_CT_setBlocked_22
set_option maxHeartbeats 4000000 in
set_option maxRecDepth 100000 in
theorem c_AT_add (l : Launch) (dC : Nat → ClassId) (dI : Nat → Nat → Nat) (hT hs hu ho : Nat) (cI cU cO : ClassId) (ac : Nat) (ai ut ol : Nat → Int32) (hac : ac ≤ 64) (hlt : ac < 64) (x : Int32) (hD0 : va_D (fun _ => True) [(hT, .inr (0, [.ref hs, .ref hu, .ref ho, .int (nI ac)])), (hs, .inl (cI, 64, .inl ai)), (hu, .inl (cU, 512, .inl ut)), (ho, .inl (cO, 64, .inl ol))]) : Met l y_AT_add (zw y_AT_add b_AT_add 2 (some .int)) ({ frames := 0, cells := 0, slots := 0, locals := 0 }) (zPre [.ref hT, .int x] (dC, dI) [(hT, .inr (0, [.ref hs, .ref hu, .ref ho, .int (nI ac)])), (hs, .inl (cI, 64, .inl ai)), (hu, .inl (cU, 512, .inl ut)), (ho, .inl (cO, 64, .inl ol))] [(cI, .int), (cU, .int), (cO, .int)]) (va_Qi (fun (r : Int32) (_ : Unit) => r = nI ac) (fun (_ : Unit) (t : State) => va_P (dC, dI) vwCl [(hT, .inr (0, [.ref hs, .ref hu, .ref ho, .int (nI (ac + 1))])), (hs, .inl (cI, 64, .inl (upd ai ac x))), (hu, .inl (cU, 512, .inl ut)), (ho, .inl (cO, 64, .inl ol))] t.heap) (zA [(hT, .inr (0, [.ref hs, .ref hu, .ref ho, .int (nI ac)])), (hs, .inl (cI, 64, .inl ai)), (hu, .inl (cU, 512, .inl ut)), (ho, .inl (cO, 64, .inl ol))])) 0 0 (zA [(hT, .inr (0, [.ref hs, .ref hu, .ref ho, .int (nI ac)])), (hs, .inl (cI, 64, .inl ai)), (hu, .inl (cU, 512, .inl ut)), (ho, .inl (cO, 64, .inl ol))]) := by
  refine Met.ofW (cc := b_AT_add) (maxL := 2) (ret := (some .int)) (by decide) rfl ?_
  intro p e s m args below meth c s₁ B hml hv
  obtain ⟨rfl, hP, hK⟩ := hv
  have hx := B.exec
  have hb := B.bytes
  have hr := B.returns
  have hts := atoms_spec (ws := (zw y_AT_add b_AT_add 2 (some .int))) B.pre
  have htB : ∀ w ∈ BG, w.before ([.ref hT, .int x] : List Value).toArray s = true := fun w h => hts w (List.mem_cons_of_mem _ h)
  have hown : s.vm.findClass R_AT = some m.cls := findClass_of_methodNamed B.named
  have hlocks := B.notSynchronized
  have CF : CallFix p m c b_AT_add 2 s ([.ref hT, .int x] : List Value).toArray BG R_AT := ⟨hx, hb, hml, hown, htB⟩
  have hP : va_P (dC, dI) vwCl [(hT, .inr (0, [.ref hs, .ref hu, .ref ho, .int (nI ac)])), (hs, .inl (cI, 64, .inl ai)), (hu, .inl (cU, 512, .inl ut)), (ho, .inl (cO, 64, .inl ol))] s.heap := hP
  have hl := lv_entry [.ref hT, .int x] (n := 2) (Nat.le_of_ble_eq_true rfl)
  rw [lg_entry_eq]
  generalize (lg_sl [.ref hT, .int x] ++ List.replicate (2 - (lg_sl [.ref hT, .int x]).length) Slot.unset).toArray = ls at hl ⊢
  have hl : lv_has ls 2 [(0, .ref hT), (1, .int x)] := hl
  have hD : va_D (zA [(hT, .inr (0, [.ref hs, .ref hu, .ref ho, .int (nI ac)])), (hs, .inl (cI, 64, .inl ai)), (hu, .inl (cU, 512, .inl ut)), (ho, .inl (cO, 64, .inl ol))]) [(hT, .inr (0, [.ref hs, .ref hu, .ref ho, .int (nI ac)])), (hs, .inl (cI, 64, .inl ai)), (hu, .inl (cU, 512, .inl ut)), (ho, .inl (cO, 64, .inl ol))] := zA_of hD0
  have hS : va_S (zA [(hT, .inr (0, [.ref hs, .ref hu, .ref ho, .int (nI ac)])), (hs, .inl (cI, 64, .inl ai)), (hu, .inl (cU, 512, .inl ut)), (ho, .inl (cO, 64, .inl ol))]) s.heap s.heap [] := va_S.rf
  generalize zA [(hT, .inr (0, [.ref hs, .ref hu, .ref ho, .int (nI ac)])), (hs, .inl (cI, 64, .inl ai)), (hu, .inl (cU, 512, .inl ut)), (ho, .inl (cO, 64, .inl ol))] = A at hD hS ⊢
  have b_27 : vp_in (nI ac) 64 := vp_in_nI (by omega) (by omega)
  refine lv_aload_n hx hb d_AT_add_0 rfl (lv_at hl 0 rfl) ?_
  refine va_get (D := (dC, dI)) (ci := 0) (v := .int (nI ac)) (C := R_AT) (T := T_AT) (N := 4) hx hb htB i_AT hown hK hP 0 rfl rfl 3 (by decide) (htB _ lf_AT_21) (fun _ h9 => h9) rfl d_AT_add_1 ?_
  refine lv_if_lt (tgt := 16) hx hb d_AT_add_4 (by decide) (fun c_4 => ?_) (fun c_4 => ?_)
  · exact absurd c_4 (nI_pos (by omega))
  · refine lv_aload_n hx hb d_AT_add_7 rfl (lv_at hl 0 rfl) ?_
    refine va_get (D := (dC, dI)) (ci := 0) (v := .int (nI ac)) (C := R_AT) (T := T_AT) (N := 4) hx hb htB i_AT hown hK hP 0 rfl rfl 3 (by decide) (htB _ lf_AT_21) (fun _ h9 => h9) rfl d_AT_add_8 ?_
    refine lv_bipush (v := 64) hx hb d_AT_add_11 (by decide) ?_
    refine lv_icmp_lt (tgt := 18) hx hb d_AT_add_13 (by decide) (fun c_13 => ?_) (fun c_13 => ?_)
    · refine lv_aload_n hx hb d_AT_add_18 rfl (lv_at hl 0 rfl) ?_
      refine va_get (D := (dC, dI)) (ci := 0) (v := .ref hs) (C := R_AT) (T := T_AT) (N := 4) hx hb htB i_AT hown hK hP 0 rfl rfl 0 (by decide) (htB _ lf_AT_11) (fun _ h9 => h9) rfl d_AT_add_19 ?_
      refine lv_aload_n hx hb d_AT_add_22 rfl (lv_at hl 0 rfl) ?_
      refine va_get (D := (dC, dI)) (ci := 0) (v := .int (nI ac)) (C := R_AT) (T := T_AT) (N := 4) hx hb htB i_AT hown hK hP 0 rfl rfl 3 (by decide) (htB _ lf_AT_21) (fun _ h9 => h9) rfl d_AT_add_23 ?_
      refine lv_iload_n hx hb d_AT_add_26 rfl (lv_at hl 1 rfl) ?_
      refine va_iast hx hb hK hP hD hS 1 0 rfl rfl b_27 d_AT_add_27 (fun H locs hP hD hS => ?_)
      have hP : va_P (dC, dI) vwCl [(hT, .inr (0, [.ref hs, .ref hu, .ref ho, .int (nI ac)])), (hs, .inl (cI, 64, .inl (upd ai (nI ac).toNatClampNeg x))), (hu, .inl (cU, 512, .inl ut)), (ho, .inl (cO, 64, .inl ol))] H := hP
      have hD : va_D A [(hT, .inr (0, [.ref hs, .ref hu, .ref ho, .int (nI ac)])), (hs, .inl (cI, 64, .inl (upd ai (nI ac).toNatClampNeg x))), (hu, .inl (cU, 512, .inl ut)), (ho, .inl (cO, 64, .inl ol))] := hD
      rw [nI_clamp (n := ac) (by omega)] at hP hD
      refine lv_aload_n hx hb d_AT_add_28 rfl (lv_at hl 0 rfl) ?_
      refine lv_dup hx hb d_AT_add_29 rfl ?_
      refine va_get (D := (dC, dI)) (ci := 0) (v := .int (nI ac)) (C := R_AT) (T := T_AT) (N := 4) hx hb htB i_AT hown hK hP 0 rfl rfl 3 (by decide) (htB _ lf_AT_21) (fun _ h9 => h9) rfl d_AT_add_30 ?_
      refine lv_iconst (v := 1) hx hb d_AT_add_33 (by decide) ?_
      refine lv_iadd hx hb d_AT_add_34 ?_
      rw [show ((nI ac) + 1 : Int32) = nI (ac + 1) from nI_1 ac]
      refine va_put (D := (dC, dI)) (ci := 0) (v := .int (nI (ac + 1))) (ty := .int) (C := R_AT) (T := T_AT) (N := 4) hx hb htB i_AT t_AT tk_AT n_AT hown hK hP hD hS 0 rfl rfl 3 (by decide) (htB _ lf_AT_21) (fun _ h9 => h9) rfl (by decide +kernel) rfl rfl (Nat.le_of_ble_eq_true rfl) d_AT_add_35 (fun H locs hP hD hS => ?_)
      have hP : va_P (dC, dI) vwCl [(hT, .inr (0, [.ref hs, .ref hu, .ref ho, .int (nI (ac + 1))])), (hs, .inl (cI, 64, .inl (upd ai ac x))), (hu, .inl (cU, 512, .inl ut)), (ho, .inl (cO, 64, .inl ol))] H := hP
      have hD : va_D A [(hT, .inr (0, [.ref hs, .ref hu, .ref ho, .int (nI (ac + 1))])), (hs, .inl (cI, 64, .inl (upd ai ac x))), (hu, .inl (cU, 512, .inl ut)), (ho, .inl (cO, 64, .inl ol))] := hD
      refine lv_aload_n hx hb d_AT_add_38 rfl (lv_at hl 0 rfl) ?_
      refine va_get (D := (dC, dI)) (ci := 0) (v := .int (nI (ac + 1))) (C := R_AT) (T := T_AT) (N := 4) hx hb htB i_AT hown hK hP 0 rfl rfl 3 (by decide) (htB _ lf_AT_21) (fun _ h9 => h9) rfl d_AT_add_39 ?_
      refine lv_iconst (v := 1) hx hb d_AT_add_42 (by decide) ?_
      refine lv_isub hx hb d_AT_add_43 ?_
      exact W.iret (v := (nI (ac + 1)) - 1) hx hb hr (fun t ht hW => ⟨⟨_, (), rfl, nI_pred ac, by show va_P _ _ _ t.heap; rw [ht]; exact hP⟩, hS.F ht⟩) hS.2.2 d_AT_add_44
    · exact absurd (show nI ac < nI 64 from nI_lt hlt (by omega)) c_13
set_option maxHeartbeats 4000000 in
set_option maxRecDepth 100000 in
theorem c_CT_add (l : Launch) (dC : Nat → ClassId) (dI : Nat → Nat → Nat) (hC hn ha hk : Nat) (cN cA cK : ClassId) (cc : Nat) (cn : Nat → Int64) (ca cb : Nat → Int32) (hcc : cc ≤ 100) (hlt : cc < 100) (x : Int64) (y : Int32) (hD0 : va_D (fun _ => True) [(hC, .inr (1, [.ref hn, .ref ha, .ref hk, .int (nI cc)])), (hn, .inl (cN, 100, .inr (.inl cn))), (ha, .inl (cA, 100, .inl ca)), (hk, .inl (cK, 100, .inl cb))]) : Met l y_CT_add (zw y_CT_add b_CT_add 4 (some .int)) ({ frames := 0, cells := 0, slots := 0, locals := 0 }) (zPre [.ref hC, .long x, .int y] (dC, dI) [(hC, .inr (1, [.ref hn, .ref ha, .ref hk, .int (nI cc)])), (hn, .inl (cN, 100, .inr (.inl cn))), (ha, .inl (cA, 100, .inl ca)), (hk, .inl (cK, 100, .inl cb))] [(cN, .long), (cA, .int), (cK, .boolean)]) (va_Qi (fun (r : Int32) (_ : Unit) => r = nI cc) (fun (_ : Unit) (t : State) => va_P (dC, dI) vwCl [(hC, .inr (1, [.ref hn, .ref ha, .ref hk, .int (nI (cc + 1))])), (hn, .inl (cN, 100, .inr (.inl (vp_updL cn cc x)))), (ha, .inl (cA, 100, .inl (upd ca cc y))), (hk, .inl (cK, 100, .inl cb))] t.heap) (zA [(hC, .inr (1, [.ref hn, .ref ha, .ref hk, .int (nI cc)])), (hn, .inl (cN, 100, .inr (.inl cn))), (ha, .inl (cA, 100, .inl ca)), (hk, .inl (cK, 100, .inl cb))])) 0 0 (zA [(hC, .inr (1, [.ref hn, .ref ha, .ref hk, .int (nI cc)])), (hn, .inl (cN, 100, .inr (.inl cn))), (ha, .inl (cA, 100, .inl ca)), (hk, .inl (cK, 100, .inl cb))]) := by
  refine Met.ofW (cc := b_CT_add) (maxL := 4) (ret := (some .int)) (by decide) rfl ?_
  intro p e s m args below meth c s₁ B hml hv
  obtain ⟨rfl, hP, hK⟩ := hv
  have hx := B.exec
  have hb := B.bytes
  have hr := B.returns
  have hts := atoms_spec (ws := (zw y_CT_add b_CT_add 4 (some .int))) B.pre
  have htB : ∀ w ∈ BG, w.before ([.ref hC, .long x, .int y] : List Value).toArray s = true := fun w h => hts w (List.mem_cons_of_mem _ h)
  have hown : s.vm.findClass R_CT = some m.cls := findClass_of_methodNamed B.named
  have hlocks := B.notSynchronized
  have CF : CallFix p m c b_CT_add 4 s ([.ref hC, .long x, .int y] : List Value).toArray BG R_CT := ⟨hx, hb, hml, hown, htB⟩
  have hP : va_P (dC, dI) vwCl [(hC, .inr (1, [.ref hn, .ref ha, .ref hk, .int (nI cc)])), (hn, .inl (cN, 100, .inr (.inl cn))), (ha, .inl (cA, 100, .inl ca)), (hk, .inl (cK, 100, .inl cb))] s.heap := hP
  have hl := lv_entry [.ref hC, .long x, .int y] (n := 4) (Nat.le_of_ble_eq_true rfl)
  rw [lg_entry_eq]
  generalize (lg_sl [.ref hC, .long x, .int y] ++ List.replicate (4 - (lg_sl [.ref hC, .long x, .int y]).length) Slot.unset).toArray = ls at hl ⊢
  have hl : lv_has ls 4 [(0, .ref hC), (1, .long x), (3, .int y)] := hl
  have hD : va_D (zA [(hC, .inr (1, [.ref hn, .ref ha, .ref hk, .int (nI cc)])), (hn, .inl (cN, 100, .inr (.inl cn))), (ha, .inl (cA, 100, .inl ca)), (hk, .inl (cK, 100, .inl cb))]) [(hC, .inr (1, [.ref hn, .ref ha, .ref hk, .int (nI cc)])), (hn, .inl (cN, 100, .inr (.inl cn))), (ha, .inl (cA, 100, .inl ca)), (hk, .inl (cK, 100, .inl cb))] := zA_of hD0
  have hS : va_S (zA [(hC, .inr (1, [.ref hn, .ref ha, .ref hk, .int (nI cc)])), (hn, .inl (cN, 100, .inr (.inl cn))), (ha, .inl (cA, 100, .inl ca)), (hk, .inl (cK, 100, .inl cb))]) s.heap s.heap [] := va_S.rf
  generalize zA [(hC, .inr (1, [.ref hn, .ref ha, .ref hk, .int (nI cc)])), (hn, .inl (cN, 100, .inr (.inl cn))), (ha, .inl (cA, 100, .inl ca)), (hk, .inl (cK, 100, .inl cb))] = A at hD hS ⊢
  have b_27 : vp_in (nI cc) 100 := vp_in_nI (by omega) (by omega)
  have b_37 := b_27
  refine lv_aload_n hx hb d_CT_add_0 rfl (lv_at hl 0 rfl) ?_
  refine va_get (D := (dC, dI)) (ci := 1) (v := .int (nI cc)) (C := R_CT) (T := T_CT) (N := 4) hx hb htB i_CT hown hK hP 0 rfl rfl 3 (by decide) (htB _ lf_CT_23) (fun _ h9 => h9) rfl d_CT_add_1 ?_
  refine lv_if_lt (tgt := 16) hx hb d_CT_add_4 (by decide) (fun c_4 => ?_) (fun c_4 => ?_)
  · exact absurd c_4 (nI_pos (by omega))
  · refine lv_aload_n hx hb d_CT_add_7 rfl (lv_at hl 0 rfl) ?_
    refine va_get (D := (dC, dI)) (ci := 1) (v := .int (nI cc)) (C := R_CT) (T := T_CT) (N := 4) hx hb htB i_CT hown hK hP 0 rfl rfl 3 (by decide) (htB _ lf_CT_23) (fun _ h9 => h9) rfl d_CT_add_8 ?_
    refine lv_bipush (v := 100) hx hb d_CT_add_11 (by decide) ?_
    refine lv_icmp_lt (tgt := 18) hx hb d_CT_add_13 (by decide) (fun c_13 => ?_) (fun c_13 => ?_)
    · refine lv_aload_n hx hb d_CT_add_18 rfl (lv_at hl 0 rfl) ?_
      refine va_get (D := (dC, dI)) (ci := 1) (v := .ref hn) (C := R_CT) (T := T_CT) (N := 4) hx hb htB i_CT hown hK hP 0 rfl rfl 0 (by decide) (htB _ lf_CT_11) (fun _ h9 => h9) rfl d_CT_add_19 ?_
      refine lv_aload_n hx hb d_CT_add_22 rfl (lv_at hl 0 rfl) ?_
      refine va_get (D := (dC, dI)) (ci := 1) (v := .int (nI cc)) (C := R_CT) (T := T_CT) (N := 4) hx hb htB i_CT hown hK hP 0 rfl rfl 3 (by decide) (htB _ lf_CT_23) (fun _ h9 => h9) rfl d_CT_add_23 ?_
      refine lv_lload_n hx hb d_CT_add_26 rfl (lv_at hl 1 rfl) ?_
      refine va_last hx hb hK hP hD hS 1 0 rfl rfl b_27 d_CT_add_27 (fun H locs hP hD hS => ?_)
      have hP : va_P (dC, dI) vwCl [(hC, .inr (1, [.ref hn, .ref ha, .ref hk, .int (nI cc)])), (hn, .inl (cN, 100, .inr (.inl (vp_updL cn (nI cc).toNatClampNeg x)))), (ha, .inl (cA, 100, .inl ca)), (hk, .inl (cK, 100, .inl cb))] H := hP
      have hD : va_D A [(hC, .inr (1, [.ref hn, .ref ha, .ref hk, .int (nI cc)])), (hn, .inl (cN, 100, .inr (.inl (vp_updL cn (nI cc).toNatClampNeg x)))), (ha, .inl (cA, 100, .inl ca)), (hk, .inl (cK, 100, .inl cb))] := hD
      rw [nI_clamp (n := cc) (by omega)] at hP hD
      refine lv_aload_n hx hb d_CT_add_28 rfl (lv_at hl 0 rfl) ?_
      refine va_get (D := (dC, dI)) (ci := 1) (v := .ref ha) (C := R_CT) (T := T_CT) (N := 4) hx hb htB i_CT hown hK hP 0 rfl rfl 1 (by decide) (htB _ lf_CT_15) (fun _ h9 => h9) rfl d_CT_add_29 ?_
      refine lv_aload_n hx hb d_CT_add_32 rfl (lv_at hl 0 rfl) ?_
      refine va_get (D := (dC, dI)) (ci := 1) (v := .int (nI cc)) (C := R_CT) (T := T_CT) (N := 4) hx hb htB i_CT hown hK hP 0 rfl rfl 3 (by decide) (htB _ lf_CT_23) (fun _ h9 => h9) rfl d_CT_add_33 ?_
      refine lv_iload_n hx hb d_CT_add_36 rfl (lv_at hl 2 rfl) ?_
      refine va_iast hx hb hK hP hD hS 2 1 rfl rfl b_37 d_CT_add_37 (fun H locs hP hD hS => ?_)
      have hP : va_P (dC, dI) vwCl [(hC, .inr (1, [.ref hn, .ref ha, .ref hk, .int (nI cc)])), (hn, .inl (cN, 100, .inr (.inl (vp_updL cn cc x)))), (ha, .inl (cA, 100, .inl (upd ca (nI cc).toNatClampNeg y))), (hk, .inl (cK, 100, .inl cb))] H := hP
      have hD : va_D A [(hC, .inr (1, [.ref hn, .ref ha, .ref hk, .int (nI cc)])), (hn, .inl (cN, 100, .inr (.inl (vp_updL cn cc x)))), (ha, .inl (cA, 100, .inl (upd ca (nI cc).toNatClampNeg y))), (hk, .inl (cK, 100, .inl cb))] := hD
      rw [nI_clamp (n := cc) (by omega)] at hP hD
      refine lv_aload_n hx hb d_CT_add_38 rfl (lv_at hl 0 rfl) ?_
      refine lv_dup hx hb d_CT_add_39 rfl ?_
      refine va_get (D := (dC, dI)) (ci := 1) (v := .int (nI cc)) (C := R_CT) (T := T_CT) (N := 4) hx hb htB i_CT hown hK hP 0 rfl rfl 3 (by decide) (htB _ lf_CT_23) (fun _ h9 => h9) rfl d_CT_add_40 ?_
      refine lv_iconst (v := 1) hx hb d_CT_add_43 (by decide) ?_
      refine lv_iadd hx hb d_CT_add_44 ?_
      rw [show ((nI cc) + 1 : Int32) = nI (cc + 1) from nI_1 cc]
      refine va_put (D := (dC, dI)) (ci := 1) (v := .int (nI (cc + 1))) (ty := .int) (C := R_CT) (T := T_CT) (N := 4) hx hb htB i_CT t_CT tk_CT n_CT hown hK hP hD hS 0 rfl rfl 3 (by decide) (htB _ lf_CT_23) (fun _ h9 => h9) rfl (by decide +kernel) rfl rfl (Nat.le_of_ble_eq_true rfl) d_CT_add_45 (fun H locs hP hD hS => ?_)
      have hP : va_P (dC, dI) vwCl [(hC, .inr (1, [.ref hn, .ref ha, .ref hk, .int (nI (cc + 1))])), (hn, .inl (cN, 100, .inr (.inl (vp_updL cn cc x)))), (ha, .inl (cA, 100, .inl (upd ca cc y))), (hk, .inl (cK, 100, .inl cb))] H := hP
      have hD : va_D A [(hC, .inr (1, [.ref hn, .ref ha, .ref hk, .int (nI (cc + 1))])), (hn, .inl (cN, 100, .inr (.inl (vp_updL cn cc x)))), (ha, .inl (cA, 100, .inl (upd ca cc y))), (hk, .inl (cK, 100, .inl cb))] := hD
      refine lv_aload_n hx hb d_CT_add_48 rfl (lv_at hl 0 rfl) ?_
      refine va_get (D := (dC, dI)) (ci := 1) (v := .int (nI (cc + 1))) (C := R_CT) (T := T_CT) (N := 4) hx hb htB i_CT hown hK hP 0 rfl rfl 3 (by decide) (htB _ lf_CT_23) (fun _ h9 => h9) rfl d_CT_add_49 ?_
      refine lv_iconst (v := 1) hx hb d_CT_add_52 (by decide) ?_
      refine lv_isub hx hb d_CT_add_53 ?_
      exact W.iret (v := (nI (cc + 1)) - 1) hx hb hr (fun t ht hW => ⟨⟨_, (), rfl, nI_pred cc, by show va_P _ _ _ t.heap; rw [ht]; exact hP⟩, hS.F ht⟩) hS.2.2 d_CT_add_54
    · exact absurd (show nI cc < nI 100 from nI_lt hlt (by omega)) c_13
set_option maxHeartbeats 4000000 in
set_option maxRecDepth 100000 in
theorem c_RT_add (l : Launch) (dC : Nat → ClassId) (dI : Nat → Nat → Nat) (hR hp hq hi : Nat) (cP cQ cS : ClassId) (rc : Nat) (rp rl ri : Nat → Int32) (hrc : rc ≤ 40) (hlt : rc < 40) (x y z : Int32) (hD0 : va_D (fun _ => True) [(hR, .inr (2, [.ref hp, .ref hq, .ref hi, .int (nI rc)])), (hp, .inl (cP, 40, .inl rp)), (hq, .inl (cQ, 40, .inl rl)), (hi, .inl (cS, 40, .inl ri))]) : Met l y_RT_add (zw y_RT_add b_RT_add 4 none) ({ frames := 0, cells := 0, slots := 0, locals := 0 }) (zPre [.ref hR, .int x, .int y, .int z] (dC, dI) [(hR, .inr (2, [.ref hp, .ref hq, .ref hi, .int (nI rc)])), (hp, .inl (cP, 40, .inl rp)), (hq, .inl (cQ, 40, .inl rl)), (hi, .inl (cS, 40, .inl ri))] [(cP, .int), (cQ, .int), (cS, .int)]) (va_Qv (fun (_ : Unit) => True) (fun (_ : Unit) (t : State) => va_P (dC, dI) vwCl [(hR, .inr (2, [.ref hp, .ref hq, .ref hi, .int (nI (rc + 1))])), (hp, .inl (cP, 40, .inl (upd rp rc y))), (hq, .inl (cQ, 40, .inl (upd rl rc z))), (hi, .inl (cS, 40, .inl (upd ri rc x)))] t.heap) (zA [(hR, .inr (2, [.ref hp, .ref hq, .ref hi, .int (nI rc)])), (hp, .inl (cP, 40, .inl rp)), (hq, .inl (cQ, 40, .inl rl)), (hi, .inl (cS, 40, .inl ri))])) 0 0 (zA [(hR, .inr (2, [.ref hp, .ref hq, .ref hi, .int (nI rc)])), (hp, .inl (cP, 40, .inl rp)), (hq, .inl (cQ, 40, .inl rl)), (hi, .inl (cS, 40, .inl ri))]) := by
  refine Met.ofW (cc := b_RT_add) (maxL := 4) (ret := none) (by decide) rfl ?_
  intro p e s m args below meth c s₁ B hml hv
  obtain ⟨rfl, hP, hK⟩ := hv
  have hx := B.exec
  have hb := B.bytes
  have hr := B.returns
  have hts := atoms_spec (ws := (zw y_RT_add b_RT_add 4 none)) B.pre
  have htB : ∀ w ∈ BG, w.before ([.ref hR, .int x, .int y, .int z] : List Value).toArray s = true := fun w h => hts w (List.mem_cons_of_mem _ h)
  have hown : s.vm.findClass R_RT = some m.cls := findClass_of_methodNamed B.named
  have hlocks := B.notSynchronized
  have CF : CallFix p m c b_RT_add 4 s ([.ref hR, .int x, .int y, .int z] : List Value).toArray BG R_RT := ⟨hx, hb, hml, hown, htB⟩
  have hP : va_P (dC, dI) vwCl [(hR, .inr (2, [.ref hp, .ref hq, .ref hi, .int (nI rc)])), (hp, .inl (cP, 40, .inl rp)), (hq, .inl (cQ, 40, .inl rl)), (hi, .inl (cS, 40, .inl ri))] s.heap := hP
  have hl := lv_entry [.ref hR, .int x, .int y, .int z] (n := 4) (Nat.le_of_ble_eq_true rfl)
  rw [lg_entry_eq]
  generalize (lg_sl [.ref hR, .int x, .int y, .int z] ++ List.replicate (4 - (lg_sl [.ref hR, .int x, .int y, .int z]).length) Slot.unset).toArray = ls at hl ⊢
  have hl : lv_has ls 4 [(0, .ref hR), (1, .int x), (2, .int y), (3, .int z)] := hl
  have hD : va_D (zA [(hR, .inr (2, [.ref hp, .ref hq, .ref hi, .int (nI rc)])), (hp, .inl (cP, 40, .inl rp)), (hq, .inl (cQ, 40, .inl rl)), (hi, .inl (cS, 40, .inl ri))]) [(hR, .inr (2, [.ref hp, .ref hq, .ref hi, .int (nI rc)])), (hp, .inl (cP, 40, .inl rp)), (hq, .inl (cQ, 40, .inl rl)), (hi, .inl (cS, 40, .inl ri))] := zA_of hD0
  have hS : va_S (zA [(hR, .inr (2, [.ref hp, .ref hq, .ref hi, .int (nI rc)])), (hp, .inl (cP, 40, .inl rp)), (hq, .inl (cQ, 40, .inl rl)), (hi, .inl (cS, 40, .inl ri))]) s.heap s.heap [] := va_S.rf
  generalize zA [(hR, .inr (2, [.ref hp, .ref hq, .ref hi, .int (nI rc)])), (hp, .inl (cP, 40, .inl rp)), (hq, .inl (cQ, 40, .inl rl)), (hi, .inl (cS, 40, .inl ri))] = A at hD hS ⊢
  have b_25 : vp_in (nI rc) 40 := vp_in_nI (by omega) (by omega)
  have b_35 := b_25
  have b_45 := b_25
  refine lv_aload_n hx hb d_RT_add_0 rfl (lv_at hl 0 rfl) ?_
  refine va_get (D := (dC, dI)) (ci := 2) (v := .int (nI rc)) (C := R_RT) (T := T_RT) (N := 4) hx hb htB i_RT hown hK hP 0 rfl rfl 3 (by decide) (htB _ lf_RT_21) (fun _ h9 => h9) rfl d_RT_add_1 ?_
  refine lv_if_lt (tgt := 56) hx hb d_RT_add_4 (by decide) (fun c_4 => ?_) (fun c_4 => ?_)
  · exact absurd c_4 (nI_pos (by omega))
  · refine lv_aload_n hx hb d_RT_add_7 rfl (lv_at hl 0 rfl) ?_
    refine va_get (D := (dC, dI)) (ci := 2) (v := .int (nI rc)) (C := R_RT) (T := T_RT) (N := 4) hx hb htB i_RT hown hK hP 0 rfl rfl 3 (by decide) (htB _ lf_RT_21) (fun _ h9 => h9) rfl d_RT_add_8 ?_
    refine lv_bipush (v := 40) hx hb d_RT_add_11 (by decide) ?_
    refine lv_icmp_ge (tgt := 56) hx hb d_RT_add_13 (by decide) (fun c_13 => ?_) (fun c_13 => ?_)
    · exact absurd c_13 (show ¬ nI 40 ≤ nI rc from nI_ge hlt (by omega))
    · refine lv_aload_n hx hb d_RT_add_16 rfl (lv_at hl 0 rfl) ?_
      refine va_get (D := (dC, dI)) (ci := 2) (v := .ref hp) (C := R_RT) (T := T_RT) (N := 4) hx hb htB i_RT hown hK hP 0 rfl rfl 0 (by decide) (htB _ lf_RT_11) (fun _ h9 => h9) rfl d_RT_add_17 ?_
      refine lv_aload_n hx hb d_RT_add_20 rfl (lv_at hl 0 rfl) ?_
      refine va_get (D := (dC, dI)) (ci := 2) (v := .int (nI rc)) (C := R_RT) (T := T_RT) (N := 4) hx hb htB i_RT hown hK hP 0 rfl rfl 3 (by decide) (htB _ lf_RT_21) (fun _ h9 => h9) rfl d_RT_add_21 ?_
      refine lv_iload_n hx hb d_RT_add_24 rfl (lv_at hl 2 rfl) ?_
      refine va_iast hx hb hK hP hD hS 1 0 rfl rfl b_25 d_RT_add_25 (fun H locs hP hD hS => ?_)
      have hP : va_P (dC, dI) vwCl [(hR, .inr (2, [.ref hp, .ref hq, .ref hi, .int (nI rc)])), (hp, .inl (cP, 40, .inl (upd rp (nI rc).toNatClampNeg y))), (hq, .inl (cQ, 40, .inl rl)), (hi, .inl (cS, 40, .inl ri))] H := hP
      have hD : va_D A [(hR, .inr (2, [.ref hp, .ref hq, .ref hi, .int (nI rc)])), (hp, .inl (cP, 40, .inl (upd rp (nI rc).toNatClampNeg y))), (hq, .inl (cQ, 40, .inl rl)), (hi, .inl (cS, 40, .inl ri))] := hD
      rw [nI_clamp (n := rc) (by omega)] at hP hD
      refine lv_aload_n hx hb d_RT_add_26 rfl (lv_at hl 0 rfl) ?_
      refine va_get (D := (dC, dI)) (ci := 2) (v := .ref hq) (C := R_RT) (T := T_RT) (N := 4) hx hb htB i_RT hown hK hP 0 rfl rfl 1 (by decide) (htB _ lf_RT_15) (fun _ h9 => h9) rfl d_RT_add_27 ?_
      refine lv_aload_n hx hb d_RT_add_30 rfl (lv_at hl 0 rfl) ?_
      refine va_get (D := (dC, dI)) (ci := 2) (v := .int (nI rc)) (C := R_RT) (T := T_RT) (N := 4) hx hb htB i_RT hown hK hP 0 rfl rfl 3 (by decide) (htB _ lf_RT_21) (fun _ h9 => h9) rfl d_RT_add_31 ?_
      refine lv_iload_n hx hb d_RT_add_34 rfl (lv_at hl 3 rfl) ?_
      refine va_iast hx hb hK hP hD hS 2 1 rfl rfl b_35 d_RT_add_35 (fun H locs hP hD hS => ?_)
      have hP : va_P (dC, dI) vwCl [(hR, .inr (2, [.ref hp, .ref hq, .ref hi, .int (nI rc)])), (hp, .inl (cP, 40, .inl (upd rp rc y))), (hq, .inl (cQ, 40, .inl (upd rl (nI rc).toNatClampNeg z))), (hi, .inl (cS, 40, .inl ri))] H := hP
      have hD : va_D A [(hR, .inr (2, [.ref hp, .ref hq, .ref hi, .int (nI rc)])), (hp, .inl (cP, 40, .inl (upd rp rc y))), (hq, .inl (cQ, 40, .inl (upd rl (nI rc).toNatClampNeg z))), (hi, .inl (cS, 40, .inl ri))] := hD
      rw [nI_clamp (n := rc) (by omega)] at hP hD
      refine lv_aload_n hx hb d_RT_add_36 rfl (lv_at hl 0 rfl) ?_
      refine va_get (D := (dC, dI)) (ci := 2) (v := .ref hi) (C := R_RT) (T := T_RT) (N := 4) hx hb htB i_RT hown hK hP 0 rfl rfl 2 (by decide) (htB _ lf_RT_18) (fun _ h9 => h9) rfl d_RT_add_37 ?_
      refine lv_aload_n hx hb d_RT_add_40 rfl (lv_at hl 0 rfl) ?_
      refine va_get (D := (dC, dI)) (ci := 2) (v := .int (nI rc)) (C := R_RT) (T := T_RT) (N := 4) hx hb htB i_RT hown hK hP 0 rfl rfl 3 (by decide) (htB _ lf_RT_21) (fun _ h9 => h9) rfl d_RT_add_41 ?_
      refine lv_iload_n hx hb d_RT_add_44 rfl (lv_at hl 1 rfl) ?_
      refine va_iast hx hb hK hP hD hS 3 2 rfl rfl b_45 d_RT_add_45 (fun H locs hP hD hS => ?_)
      have hP : va_P (dC, dI) vwCl [(hR, .inr (2, [.ref hp, .ref hq, .ref hi, .int (nI rc)])), (hp, .inl (cP, 40, .inl (upd rp rc y))), (hq, .inl (cQ, 40, .inl (upd rl rc z))), (hi, .inl (cS, 40, .inl (upd ri (nI rc).toNatClampNeg x)))] H := hP
      have hD : va_D A [(hR, .inr (2, [.ref hp, .ref hq, .ref hi, .int (nI rc)])), (hp, .inl (cP, 40, .inl (upd rp rc y))), (hq, .inl (cQ, 40, .inl (upd rl rc z))), (hi, .inl (cS, 40, .inl (upd ri (nI rc).toNatClampNeg x)))] := hD
      rw [nI_clamp (n := rc) (by omega)] at hP hD
      refine lv_aload_n hx hb d_RT_add_46 rfl (lv_at hl 0 rfl) ?_
      refine lv_dup hx hb d_RT_add_47 rfl ?_
      refine va_get (D := (dC, dI)) (ci := 2) (v := .int (nI rc)) (C := R_RT) (T := T_RT) (N := 4) hx hb htB i_RT hown hK hP 0 rfl rfl 3 (by decide) (htB _ lf_RT_21) (fun _ h9 => h9) rfl d_RT_add_48 ?_
      refine lv_iconst (v := 1) hx hb d_RT_add_51 (by decide) ?_
      refine lv_iadd hx hb d_RT_add_52 ?_
      rw [show ((nI rc) + 1 : Int32) = nI (rc + 1) from nI_1 rc]
      refine va_put (D := (dC, dI)) (ci := 2) (v := .int (nI (rc + 1))) (ty := .int) (C := R_RT) (T := T_RT) (N := 4) hx hb htB i_RT t_RT tk_RT n_RT hown hK hP hD hS 0 rfl rfl 3 (by decide) (htB _ lf_RT_21) (fun _ h9 => h9) rfl (by decide +kernel) rfl rfl (Nat.le_of_ble_eq_true rfl) d_RT_add_53 (fun H locs hP hD hS => ?_)
      have hP : va_P (dC, dI) vwCl [(hR, .inr (2, [.ref hp, .ref hq, .ref hi, .int (nI (rc + 1))])), (hp, .inl (cP, 40, .inl (upd rp rc y))), (hq, .inl (cQ, 40, .inl (upd rl rc z))), (hi, .inl (cS, 40, .inl (upd ri rc x)))] H := hP
      have hD : va_D A [(hR, .inr (2, [.ref hp, .ref hq, .ref hi, .int (nI (rc + 1))])), (hp, .inl (cP, 40, .inl (upd rp rc y))), (hq, .inl (cQ, 40, .inl (upd rl rc z))), (hi, .inl (cS, 40, .inl (upd ri rc x)))] := hD
      exact W.vret hx hb hr (fun t ht hW => ⟨⟨(), rfl, trivial, by show va_P _ _ _ t.heap; rw [ht]; exact hP⟩, hS.F ht⟩) hS.2.2 d_RT_add_56
set_option maxHeartbeats 4000000 in
set_option maxRecDepth 100000 in
theorem c_RT_redirect (l : Launch) (dC : Nat → ClassId) (dI : Nat → Nat → Nat) (hR hp hq hi : Nat) (cP cQ cS : ClassId) (rc : Nat) (rp rl ri : Nat → Int32) (hrc : rc ≤ 40) (j : Nat) (hj : j < rc) (hne : ¬ ri j = -1) (x : Int32) (hD0 : va_D (fun _ => True) [(hR, .inr (2, [.ref hp, .ref hq, .ref hi, .int (nI rc)])), (hp, .inl (cP, 40, .inl rp)), (hq, .inl (cQ, 40, .inl rl)), (hi, .inl (cS, 40, .inl ri))]) : Met l y_RT_redirect (zw y_RT_redirect b_RT_redirect 4 (some .int)) ({ frames := 1, cells := 0, slots := 0, locals := 21 }) (zPre [.ref hR, .int (nI j), .int x] (dC, dI) [(hR, .inr (2, [.ref hp, .ref hq, .ref hi, .int (nI rc)])), (hp, .inl (cP, 40, .inl rp)), (hq, .inl (cQ, 40, .inl rl)), (hi, .inl (cS, 40, .inl ri))] [(cP, .int), (cQ, .int), (cS, .int)]) (va_Qi (fun (r : Int32) (_ : Unit) => r = ri j) (fun (_ : Unit) (t : State) => va_P (dC, dI) vwCl [(hR, .inr (2, [.ref hp, .ref hq, .ref hi, .int (nI rc)])), (hp, .inl (cP, 40, .inl rp)), (hq, .inl (cQ, 40, .inl rl)), (hi, .inl (cS, 40, .inl (upd ri j x)))] t.heap) (zA [(hR, .inr (2, [.ref hp, .ref hq, .ref hi, .int (nI rc)])), (hp, .inl (cP, 40, .inl rp)), (hq, .inl (cQ, 40, .inl rl)), (hi, .inl (cS, 40, .inl ri))])) 0 0 (zA [(hR, .inr (2, [.ref hp, .ref hq, .ref hi, .int (nI rc)])), (hp, .inl (cP, 40, .inl rp)), (hq, .inl (cQ, 40, .inl rl)), (hi, .inl (cS, 40, .inl ri))]) := by
  refine Met.ofW (cc := b_RT_redirect) (maxL := 4) (ret := (some .int)) (by decide) rfl ?_
  intro p e s m args below meth c s₁ B hml hv
  obtain ⟨rfl, hP, hK⟩ := hv
  have hx := B.exec
  have hb := B.bytes
  have hr := B.returns
  have hts := atoms_spec (ws := (zw y_RT_redirect b_RT_redirect 4 (some .int))) B.pre
  have htB : ∀ w ∈ BG, w.before ([.ref hR, .int (nI j), .int x] : List Value).toArray s = true := fun w h => hts w (List.mem_cons_of_mem _ h)
  have hown : s.vm.findClass R_RT = some m.cls := findClass_of_methodNamed B.named
  have hlocks := B.notSynchronized
  have CF : CallFix p m c b_RT_redirect 4 s ([.ref hR, .int (nI j), .int x] : List Value).toArray BG R_RT := ⟨hx, hb, hml, hown, htB⟩
  have hP : va_P (dC, dI) vwCl [(hR, .inr (2, [.ref hp, .ref hq, .ref hi, .int (nI rc)])), (hp, .inl (cP, 40, .inl rp)), (hq, .inl (cQ, 40, .inl rl)), (hi, .inl (cS, 40, .inl ri))] s.heap := hP
  have hl := lv_entry [.ref hR, .int (nI j), .int x] (n := 4) (Nat.le_of_ble_eq_true rfl)
  rw [lg_entry_eq]
  generalize (lg_sl [.ref hR, .int (nI j), .int x] ++ List.replicate (4 - (lg_sl [.ref hR, .int (nI j), .int x]).length) Slot.unset).toArray = ls at hl ⊢
  have hl : lv_has ls 4 [(0, .ref hR), (1, .int (nI j)), (2, .int x)] := hl
  have hD : va_D (zA [(hR, .inr (2, [.ref hp, .ref hq, .ref hi, .int (nI rc)])), (hp, .inl (cP, 40, .inl rp)), (hq, .inl (cQ, 40, .inl rl)), (hi, .inl (cS, 40, .inl ri))]) [(hR, .inr (2, [.ref hp, .ref hq, .ref hi, .int (nI rc)])), (hp, .inl (cP, 40, .inl rp)), (hq, .inl (cQ, 40, .inl rl)), (hi, .inl (cS, 40, .inl ri))] := zA_of hD0
  have hS : va_S (zA [(hR, .inr (2, [.ref hp, .ref hq, .ref hi, .int (nI rc)])), (hp, .inl (cP, 40, .inl rp)), (hq, .inl (cQ, 40, .inl rl)), (hi, .inl (cS, 40, .inl ri))]) s.heap s.heap [] := va_S.rf
  generalize zA [(hR, .inr (2, [.ref hp, .ref hq, .ref hi, .int (nI rc)])), (hp, .inl (cP, 40, .inl rp)), (hq, .inl (cQ, 40, .inl rl)), (hi, .inl (cS, 40, .inl ri))] = A at hD hS ⊢
  have b_17 : vp_in (nI j) 40 := vp_in_nI (by omega) (by omega)
  refine lv_aload_n hx hb d_RT_redirect_0 rfl (lv_at hl 0 rfl) ?_
  refine lv_iload_n hx hb d_RT_redirect_1 rfl (lv_at hl 1 rfl) ?_
  refine vp_callSi (va_Run.run (zr_V (n := 1) (As := [.int (nI j)]) (rest := []) CF (c_RT_issuerAt l dC dI hR hp hq hi cP cQ cS rc rp rl ri hrc j hj) mc_RT_issuerAt lk_RT_25 mi_RT_issuerAt ms_RT_issuerAt ni_RT rfl rfl (by decide +kernel) ⟨Nat.le_of_ble_eq_true rfl, Nat.le_of_ble_eq_true rfl⟩ (hP.sub (ws' := [(hR, .inr (2, [.ref hp, .ref hq, .ref hi, .int (nI rc)])), (hp, .inl (cP, 40, .inl rp)), (hq, .inl (cQ, 40, .inl rl)), (hi, .inl (cS, 40, .inl ri))]) [0, 1, 2, 3] rfl) (hK.sub (tys' := [(cP, .int), (cQ, .int), (cS, .int)]) [0, 1, 2] rfl) rfl rfl rfl hl.1 rfl (lv_room (Nat.le_of_ble_eq_true rfl)) d_RT_redirect_2 ⟨Nat.zero_le _, Nat.zero_le _⟩)) (fun r_2 h_2 => ?_)
  subst h_2
  refine lv_istore_n (lv' := [(3, .int (ri j)), (0, .ref hR), (1, .int (nI j)), (2, .int x)]) hx hb d_RT_redirect_5 rfl hl (by decide) rfl (fun ls hl => ?_)
  refine lv_iload_n hx hb d_RT_redirect_6 rfl (lv_at hl 0 rfl) ?_
  refine lv_iconst (v := (-1)) hx hb d_RT_redirect_7 (by decide) ?_
  refine lv_icmp_eq (tgt := 18) hx hb d_RT_redirect_8 (by decide) (fun c_8 => ?_) (fun c_8 => ?_)
  · exact absurd c_8 hne
  · refine lv_aload_n hx hb d_RT_redirect_11 rfl (lv_at hl 1 rfl) ?_
    refine va_get (D := (dC, dI)) (ci := 2) (v := .ref hi) (C := R_RT) (T := T_RT) (N := 4) hx hb htB i_RT hown hK hP 0 rfl rfl 2 (by decide) (htB _ lf_RT_18) (fun _ h9 => h9) rfl d_RT_redirect_12 ?_
    refine lv_iload_n hx hb d_RT_redirect_15 rfl (lv_at hl 2 rfl) ?_
    refine lv_iload_n hx hb d_RT_redirect_16 rfl (lv_at hl 3 rfl) ?_
    refine va_iast hx hb hK hP hD hS 3 2 rfl rfl b_17 d_RT_redirect_17 (fun H locs hP hD hS => ?_)
    have hP : va_P (dC, dI) vwCl [(hR, .inr (2, [.ref hp, .ref hq, .ref hi, .int (nI rc)])), (hp, .inl (cP, 40, .inl rp)), (hq, .inl (cQ, 40, .inl rl)), (hi, .inl (cS, 40, .inl (upd ri (nI j).toNatClampNeg x)))] H := hP
    have hD : va_D A [(hR, .inr (2, [.ref hp, .ref hq, .ref hi, .int (nI rc)])), (hp, .inl (cP, 40, .inl rp)), (hq, .inl (cQ, 40, .inl rl)), (hi, .inl (cS, 40, .inl (upd ri (nI j).toNatClampNeg x)))] := hD
    rw [nI_clamp (n := j) (by omega)] at hP hD
    refine lv_iload_n hx hb d_RT_redirect_18 rfl (lv_at hl 0 rfl) ?_
    exact W.iret (v := ri j) hx hb hr (fun t ht hW => ⟨⟨_, (), rfl, rfl, by show va_P _ _ _ t.heap; rw [ht]; exact hP⟩, hS.F ht⟩) hS.2.2 d_RT_redirect_19
set_option maxHeartbeats 4000000 in
set_option maxRecDepth 100000 in
theorem c_RT_remove (l : Launch) (dC : Nat → ClassId) (dI : Nat → Nat → Nat) (hR hp hq hi : Nat) (cP cQ cS : ClassId) (rc : Nat) (rp rl ri : Nat → Int32) (hrc : rc ≤ 40) (j : Nat) (hj : j < rc) (hne : ¬ ri j = -1) (hD0 : va_D (fun _ => True) [(hR, .inr (2, [.ref hp, .ref hq, .ref hi, .int (nI rc)])), (hp, .inl (cP, 40, .inl rp)), (hq, .inl (cQ, 40, .inl rl)), (hi, .inl (cS, 40, .inl ri))]) : Met l y_RT_remove (zw y_RT_remove b_RT_remove 3 (some .int)) ({ frames := 1, cells := 0, slots := 0, locals := 21 }) (zPre [.ref hR, .int (nI j)] (dC, dI) [(hR, .inr (2, [.ref hp, .ref hq, .ref hi, .int (nI rc)])), (hp, .inl (cP, 40, .inl rp)), (hq, .inl (cQ, 40, .inl rl)), (hi, .inl (cS, 40, .inl ri))] [(cP, .int), (cQ, .int), (cS, .int)]) (va_Qi (fun (r : Int32) (_ : Unit) => r = ri j) (fun (_ : Unit) (t : State) => va_P (dC, dI) vwCl [(hR, .inr (2, [.ref hp, .ref hq, .ref hi, .int (nI (rc - 1))])), (hp, .inl (cP, 40, .inl (upd rp j (rp (rc - 1))))), (hq, .inl (cQ, 40, .inl (upd rl j (rl (rc - 1))))), (hi, .inl (cS, 40, .inl (upd ri j (ri (rc - 1)))))] t.heap) (zA [(hR, .inr (2, [.ref hp, .ref hq, .ref hi, .int (nI rc)])), (hp, .inl (cP, 40, .inl rp)), (hq, .inl (cQ, 40, .inl rl)), (hi, .inl (cS, 40, .inl ri))])) 0 0 (zA [(hR, .inr (2, [.ref hp, .ref hq, .ref hi, .int (nI rc)])), (hp, .inl (cP, 40, .inl rp)), (hq, .inl (cQ, 40, .inl rl)), (hi, .inl (cS, 40, .inl ri))]) := by
  refine Met.ofW (cc := b_RT_remove) (maxL := 3) (ret := (some .int)) (by decide) rfl ?_
  intro p e s m args below meth c s₁ B hml hv
  obtain ⟨rfl, hP, hK⟩ := hv
  have hx := B.exec
  have hb := B.bytes
  have hr := B.returns
  have hts := atoms_spec (ws := (zw y_RT_remove b_RT_remove 3 (some .int))) B.pre
  have htB : ∀ w ∈ BG, w.before ([.ref hR, .int (nI j)] : List Value).toArray s = true := fun w h => hts w (List.mem_cons_of_mem _ h)
  have hown : s.vm.findClass R_RT = some m.cls := findClass_of_methodNamed B.named
  have hlocks := B.notSynchronized
  have CF : CallFix p m c b_RT_remove 3 s ([.ref hR, .int (nI j)] : List Value).toArray BG R_RT := ⟨hx, hb, hml, hown, htB⟩
  have hP : va_P (dC, dI) vwCl [(hR, .inr (2, [.ref hp, .ref hq, .ref hi, .int (nI rc)])), (hp, .inl (cP, 40, .inl rp)), (hq, .inl (cQ, 40, .inl rl)), (hi, .inl (cS, 40, .inl ri))] s.heap := hP
  have hl := lv_entry [.ref hR, .int (nI j)] (n := 3) (Nat.le_of_ble_eq_true rfl)
  rw [lg_entry_eq]
  generalize (lg_sl [.ref hR, .int (nI j)] ++ List.replicate (3 - (lg_sl [.ref hR, .int (nI j)]).length) Slot.unset).toArray = ls at hl ⊢
  have hl : lv_has ls 3 [(0, .ref hR), (1, .int (nI j))] := hl
  have hD : va_D (zA [(hR, .inr (2, [.ref hp, .ref hq, .ref hi, .int (nI rc)])), (hp, .inl (cP, 40, .inl rp)), (hq, .inl (cQ, 40, .inl rl)), (hi, .inl (cS, 40, .inl ri))]) [(hR, .inr (2, [.ref hp, .ref hq, .ref hi, .int (nI rc)])), (hp, .inl (cP, 40, .inl rp)), (hq, .inl (cQ, 40, .inl rl)), (hi, .inl (cS, 40, .inl ri))] := zA_of hD0
  have hS : va_S (zA [(hR, .inr (2, [.ref hp, .ref hq, .ref hi, .int (nI rc)])), (hp, .inl (cP, 40, .inl rp)), (hq, .inl (cQ, 40, .inl rl)), (hi, .inl (cS, 40, .inl ri))]) s.heap s.heap [] := va_S.rf
  generalize zA [(hR, .inr (2, [.ref hp, .ref hq, .ref hi, .int (nI rc)])), (hp, .inl (cP, 40, .inl rp)), (hq, .inl (cQ, 40, .inl rl)), (hi, .inl (cS, 40, .inl ri))] = A at hD hS ⊢
  have b_35 : vp_in (nI j) 40 := vp_in_nI (by omega) (by omega)
  have b_50 := b_35
  have b_65 := b_35
  have b_34 : vp_in (nI (rc - 1)) 40 := vp_in_nI (by omega) (by omega)
  have b_49 := b_34
  have b_64 := b_34
  refine lv_aload_n hx hb d_RT_remove_0 rfl (lv_at hl 0 rfl) ?_
  refine lv_iload_n hx hb d_RT_remove_1 rfl (lv_at hl 1 rfl) ?_
  refine vp_callSi (va_Run.run (zr_V (n := 1) (As := [.int (nI j)]) (rest := []) CF (c_RT_issuerAt l dC dI hR hp hq hi cP cQ cS rc rp rl ri hrc j hj) mc_RT_issuerAt lk_RT_25 mi_RT_issuerAt ms_RT_issuerAt ni_RT rfl rfl (by decide +kernel) ⟨Nat.le_of_ble_eq_true rfl, Nat.le_of_ble_eq_true rfl⟩ (hP.sub (ws' := [(hR, .inr (2, [.ref hp, .ref hq, .ref hi, .int (nI rc)])), (hp, .inl (cP, 40, .inl rp)), (hq, .inl (cQ, 40, .inl rl)), (hi, .inl (cS, 40, .inl ri))]) [0, 1, 2, 3] rfl) (hK.sub (tys' := [(cP, .int), (cQ, .int), (cS, .int)]) [0, 1, 2] rfl) rfl rfl rfl hl.1 rfl (lv_room (Nat.le_of_ble_eq_true rfl)) d_RT_remove_2 ⟨Nat.zero_le _, Nat.zero_le _⟩)) (fun r_2 h_2 => ?_)
  subst h_2
  refine lv_istore_n (lv' := [(2, .int (ri j)), (0, .ref hR), (1, .int (nI j))]) hx hb d_RT_remove_5 rfl hl (by decide) rfl (fun ls hl => ?_)
  refine lv_iload_n hx hb d_RT_remove_6 rfl (lv_at hl 0 rfl) ?_
  refine lv_iconst (v := (-1)) hx hb d_RT_remove_7 (by decide) ?_
  refine lv_icmp_eq (tgt := 66) hx hb d_RT_remove_8 (by decide) (fun c_8 => ?_) (fun c_8 => ?_)
  · exact absurd c_8 hne
  · refine lv_aload_n hx hb d_RT_remove_11 rfl (lv_at hl 1 rfl) ?_
    refine lv_dup hx hb d_RT_remove_12 rfl ?_
    refine va_get (D := (dC, dI)) (ci := 2) (v := .int (nI rc)) (C := R_RT) (T := T_RT) (N := 4) hx hb htB i_RT hown hK hP 0 rfl rfl 3 (by decide) (htB _ lf_RT_21) (fun _ h9 => h9) rfl d_RT_remove_13 ?_
    refine lv_iconst (v := 1) hx hb d_RT_remove_16 (by decide) ?_
    refine lv_isub hx hb d_RT_remove_17 ?_
    rw [show ((nI rc) - 1 : Int32) = nI (rc - 1) from pk_sub (b := 1) (by omega)]
    refine va_put (D := (dC, dI)) (ci := 2) (v := .int (nI (rc - 1))) (ty := .int) (C := R_RT) (T := T_RT) (N := 4) hx hb htB i_RT t_RT tk_RT n_RT hown hK hP hD hS 0 rfl rfl 3 (by decide) (htB _ lf_RT_21) (fun _ h9 => h9) rfl (by decide +kernel) rfl rfl (Nat.le_of_ble_eq_true rfl) d_RT_remove_18 (fun H locs hP hD hS => ?_)
    have hP : va_P (dC, dI) vwCl [(hR, .inr (2, [.ref hp, .ref hq, .ref hi, .int (nI (rc - 1))])), (hp, .inl (cP, 40, .inl rp)), (hq, .inl (cQ, 40, .inl rl)), (hi, .inl (cS, 40, .inl ri))] H := hP
    have hD : va_D A [(hR, .inr (2, [.ref hp, .ref hq, .ref hi, .int (nI (rc - 1))])), (hp, .inl (cP, 40, .inl rp)), (hq, .inl (cQ, 40, .inl rl)), (hi, .inl (cS, 40, .inl ri))] := hD
    refine lv_aload_n hx hb d_RT_remove_21 rfl (lv_at hl 1 rfl) ?_
    refine va_get (D := (dC, dI)) (ci := 2) (v := .ref hp) (C := R_RT) (T := T_RT) (N := 4) hx hb htB i_RT hown hK hP 0 rfl rfl 0 (by decide) (htB _ lf_RT_11) (fun _ h9 => h9) rfl d_RT_remove_22 ?_
    refine lv_iload_n hx hb d_RT_remove_25 rfl (lv_at hl 2 rfl) ?_
    refine lv_aload_n hx hb d_RT_remove_26 rfl (lv_at hl 1 rfl) ?_
    refine va_get (D := (dC, dI)) (ci := 2) (v := .ref hp) (C := R_RT) (T := T_RT) (N := 4) hx hb htB i_RT hown hK hP 0 rfl rfl 0 (by decide) (htB _ lf_RT_11) (fun _ h9 => h9) rfl d_RT_remove_27 ?_
    refine lv_aload_n hx hb d_RT_remove_30 rfl (lv_at hl 1 rfl) ?_
    refine va_get (D := (dC, dI)) (ci := 2) (v := .int (nI (rc - 1))) (C := R_RT) (T := T_RT) (N := 4) hx hb htB i_RT hown hK hP 0 rfl rfl 3 (by decide) (htB _ lf_RT_21) (fun _ h9 => h9) rfl d_RT_remove_31 ?_
    refine va_iald hx hb hK hP 1 0 rfl rfl b_34 d_RT_remove_34 ?_
    rw [nI_clamp (n := (rc - 1)) (by omega)]
    refine va_iast hx hb hK hP hD hS 1 0 rfl rfl b_35 d_RT_remove_35 (fun H locs hP hD hS => ?_)
    have hP : va_P (dC, dI) vwCl [(hR, .inr (2, [.ref hp, .ref hq, .ref hi, .int (nI (rc - 1))])), (hp, .inl (cP, 40, .inl (upd rp (nI j).toNatClampNeg (rp (rc - 1))))), (hq, .inl (cQ, 40, .inl rl)), (hi, .inl (cS, 40, .inl ri))] H := hP
    have hD : va_D A [(hR, .inr (2, [.ref hp, .ref hq, .ref hi, .int (nI (rc - 1))])), (hp, .inl (cP, 40, .inl (upd rp (nI j).toNatClampNeg (rp (rc - 1))))), (hq, .inl (cQ, 40, .inl rl)), (hi, .inl (cS, 40, .inl ri))] := hD
    rw [nI_clamp (n := j) (by omega)] at hP hD
    refine lv_aload_n hx hb d_RT_remove_36 rfl (lv_at hl 1 rfl) ?_
    refine va_get (D := (dC, dI)) (ci := 2) (v := .ref hq) (C := R_RT) (T := T_RT) (N := 4) hx hb htB i_RT hown hK hP 0 rfl rfl 1 (by decide) (htB _ lf_RT_15) (fun _ h9 => h9) rfl d_RT_remove_37 ?_
    refine lv_iload_n hx hb d_RT_remove_40 rfl (lv_at hl 2 rfl) ?_
    refine lv_aload_n hx hb d_RT_remove_41 rfl (lv_at hl 1 rfl) ?_
    refine va_get (D := (dC, dI)) (ci := 2) (v := .ref hq) (C := R_RT) (T := T_RT) (N := 4) hx hb htB i_RT hown hK hP 0 rfl rfl 1 (by decide) (htB _ lf_RT_15) (fun _ h9 => h9) rfl d_RT_remove_42 ?_
    refine lv_aload_n hx hb d_RT_remove_45 rfl (lv_at hl 1 rfl) ?_
    refine va_get (D := (dC, dI)) (ci := 2) (v := .int (nI (rc - 1))) (C := R_RT) (T := T_RT) (N := 4) hx hb htB i_RT hown hK hP 0 rfl rfl 3 (by decide) (htB _ lf_RT_21) (fun _ h9 => h9) rfl d_RT_remove_46 ?_
    refine va_iald hx hb hK hP 2 1 rfl rfl b_49 d_RT_remove_49 ?_
    rw [nI_clamp (n := (rc - 1)) (by omega)]
    refine va_iast hx hb hK hP hD hS 2 1 rfl rfl b_50 d_RT_remove_50 (fun H locs hP hD hS => ?_)
    have hP : va_P (dC, dI) vwCl [(hR, .inr (2, [.ref hp, .ref hq, .ref hi, .int (nI (rc - 1))])), (hp, .inl (cP, 40, .inl (upd rp j (rp (rc - 1))))), (hq, .inl (cQ, 40, .inl (upd rl (nI j).toNatClampNeg (rl (rc - 1))))), (hi, .inl (cS, 40, .inl ri))] H := hP
    have hD : va_D A [(hR, .inr (2, [.ref hp, .ref hq, .ref hi, .int (nI (rc - 1))])), (hp, .inl (cP, 40, .inl (upd rp j (rp (rc - 1))))), (hq, .inl (cQ, 40, .inl (upd rl (nI j).toNatClampNeg (rl (rc - 1))))), (hi, .inl (cS, 40, .inl ri))] := hD
    rw [nI_clamp (n := j) (by omega)] at hP hD
    refine lv_aload_n hx hb d_RT_remove_51 rfl (lv_at hl 1 rfl) ?_
    refine va_get (D := (dC, dI)) (ci := 2) (v := .ref hi) (C := R_RT) (T := T_RT) (N := 4) hx hb htB i_RT hown hK hP 0 rfl rfl 2 (by decide) (htB _ lf_RT_18) (fun _ h9 => h9) rfl d_RT_remove_52 ?_
    refine lv_iload_n hx hb d_RT_remove_55 rfl (lv_at hl 2 rfl) ?_
    refine lv_aload_n hx hb d_RT_remove_56 rfl (lv_at hl 1 rfl) ?_
    refine va_get (D := (dC, dI)) (ci := 2) (v := .ref hi) (C := R_RT) (T := T_RT) (N := 4) hx hb htB i_RT hown hK hP 0 rfl rfl 2 (by decide) (htB _ lf_RT_18) (fun _ h9 => h9) rfl d_RT_remove_57 ?_
    refine lv_aload_n hx hb d_RT_remove_60 rfl (lv_at hl 1 rfl) ?_
    refine va_get (D := (dC, dI)) (ci := 2) (v := .int (nI (rc - 1))) (C := R_RT) (T := T_RT) (N := 4) hx hb htB i_RT hown hK hP 0 rfl rfl 3 (by decide) (htB _ lf_RT_21) (fun _ h9 => h9) rfl d_RT_remove_61 ?_
    refine va_iald hx hb hK hP 3 2 rfl rfl b_64 d_RT_remove_64 ?_
    rw [nI_clamp (n := (rc - 1)) (by omega)]
    refine va_iast hx hb hK hP hD hS 3 2 rfl rfl b_65 d_RT_remove_65 (fun H locs hP hD hS => ?_)
    have hP : va_P (dC, dI) vwCl [(hR, .inr (2, [.ref hp, .ref hq, .ref hi, .int (nI (rc - 1))])), (hp, .inl (cP, 40, .inl (upd rp j (rp (rc - 1))))), (hq, .inl (cQ, 40, .inl (upd rl j (rl (rc - 1))))), (hi, .inl (cS, 40, .inl (upd ri (nI j).toNatClampNeg (ri (rc - 1)))))] H := hP
    have hD : va_D A [(hR, .inr (2, [.ref hp, .ref hq, .ref hi, .int (nI (rc - 1))])), (hp, .inl (cP, 40, .inl (upd rp j (rp (rc - 1))))), (hq, .inl (cQ, 40, .inl (upd rl j (rl (rc - 1))))), (hi, .inl (cS, 40, .inl (upd ri (nI j).toNatClampNeg (ri (rc - 1)))))] := hD
    rw [nI_clamp (n := j) (by omega)] at hP hD
    refine lv_iload_n hx hb d_RT_remove_66 rfl (lv_at hl 0 rfl) ?_
    exact W.iret (v := ri j) hx hb hr (fun t ht hW => ⟨⟨_, (), rfl, rfl, by show va_P _ _ _ t.heap; rw [ht]; exact hP⟩, hS.F ht⟩) hS.2.2 d_RT_remove_67
end
section
/-! METHODS THAT RETURN NOTHING OR THROW, and methods that answer a number and write, or throw one of two -/
def zt_Qv (ok : Prop) (cls : String) : Array Value → State → Outcome → State → Prop := fun _ st o t => (ok ∧ o = .returned none ∧ t.heap = st.heap) ∨ (¬ ok ∧ ∃ x, o = .threw x ∧ zt_Th cls st t x)
/-- the same, said of heaps -/
def zt_ThH (cls : String) (s : State) (H : Heap) (x : Nat) (H1 : Heap) : Prop := (∃ ce : Cell, H1[x]? = some ce ∧ ce.vm.isStatics = false ∧ s.vm.findClass cls = some ce.cls) ∧ H.size ≤ H1.size ∧ ∀ q : Nat, q < H.size → H1[q]? = H[q]?
theorem zt_ThH.to {cls : String} {s t : State} {x : Nat} {H1 : Heap} (h : zt_ThH cls s s.heap x H1) (ht : t.heap = H1) (hW : s.WarmedH t.vm) : zt_Th cls s t x := by
  obtain ⟨⟨ce, h1, h2, h3⟩, h4, h5⟩ := h
  exact ⟨⟨ce, by rw [ht]; exact h1, h2, by rw [hW.alike.findClass]; exact h3⟩, by rw [ht]; exact h4, fun q hq => by rw [ht]; exact h5 q hq⟩
theorem zt_Th.heap {cls : String} {s st t : State} {x : Nat} {H H1 : Heap} (h : zt_Th cls st t x) (h0 : st.heap = H) (h1 : t.heap = H1) (hal : s.vm.Alike t.vm) : zt_ThH cls s H x H1 := by
  obtain ⟨⟨ce, q1, q2, q3⟩, q4, q5⟩ := h
  exact ⟨⟨ce, by rw [← h1]; exact q1, q2, by rw [← hal.findClass]; exact q3⟩, by rw [← h0, ← h1]; exact q4, fun q hq => by rw [← h0, ← h1]; exact q5 q (by rw [h0]; exact hq)⟩
theorem zt_L0 {L : List Loc} (h : ∀ q ∈ L, (fun _ : Addr => False) q.base) : L = [] := by
  cases L with
  | nil => rfl
  | cons a l => exact (h a List.mem_cons_self).elim
section ZTV
variable {p : Program} {l : Launch} {e : Env} {R : Room} {s : State} {m : MethodId} {args : Array Value} {below : List Frame} {meth : Method} {c : Code} {H : Heap} {locs : List Loc} {cells slots : Nat} {Q : State → Prop}
variable {pc : Nat} {ls : Array Slot} {rest st0 : List Value} {a : Array Value}
theorem zt_callv {ok : Prop} {cls : String} (hr : zt_Run p l e R s m args below meth c H locs cells slots 0 0 (F0 m pc ls st0) rest (zt_Qv ok cls a) (fun _ => False))
    (kr : ok → W p l e R s m args below meth c H locs cells slots Q (F0 m (pc + 3) ls rest))
    (kt : ∀ (x : Nat) (H1 : Heap), ¬ ok → zt_ThH cls s H x H1 → WT p l e R s m args below meth c H1 locs (cells + 1) (slots + 6) Q (F0 m pc ls rest) x) : W p l e R s m args below meth c H locs cells slots Q (F0 m pc ls st0) := by
  refine zt_call hr (fun v st₀ t H1 L h0 ha ht hal hL hq => ?_) (fun x st₀ t H1 L h0 ha ht hal hL hq => ?_)
  · rcases hq with ⟨hok, hv, hh⟩ | ⟨-, x, hv, -⟩
    · cases hv
      have e1 : H1 = H := by rw [← ht, hh, h0]
      have e2 := zt_L0 hL
      subst e1; subst e2
      rw [List.append_nil]
      exact kr hok
    · cases hv
  · rcases hq with ⟨-, hv, -⟩ | ⟨hno, x', hv, hth⟩
    · cases hv
    · cases hv
      have e2 := zt_L0 hL
      subst e2
      rw [List.append_nil]
      exact kt x H1 hno (hth.heap h0 ht hal)
end ZTV
/-- k: 0 it answers r and the world is new; 1, 2: it throws, nothing is new -/
def zt_Q3 {S : Type} (k : Nat) (ans : S → Option Value) (B : S → State → Prop) (A : Nat → Prop) : Array Value → State → Outcome → State → Prop := fun _ st o t =>
  (k = 0 ∧ ∃ u : S, o = .returned (ans u) ∧ B u t ∧ va_F A st t) ∨ (k = 1 ∧ ∃ x, o = .threw x ∧ zt_Th zIAE st t x) ∨ (k = 2 ∧ ∃ x, o = .threw x ∧ zt_Th zISE st t x)
/-- the longest route that fits: of lengths d and below, b the number's beginning of d digits -/
def zf_m (rp rl : Nat → Int32) (b d : Nat) : Nat → Bool := fun j => decide (rl j = nI d ∧ (rp j).toInt64 = lN b)
def zf_iss (rc : Nat) (rp rl ri : Nat → Int32) : Nat → Nat → Int32
  | 0, _ => -1
  | d + 1, b => if d + 1 ≤ 8 ∧ zf_ix (zf_m rp rl b (d + 1)) rc < rc then ri (zf_ix (zf_m rp rl b (d + 1)) rc) else zf_iss rc rp rl ri d (b / 10)
end
section
set_option maxHeartbeats 4000000 in
set_option maxRecDepth 100000 in
theorem c_RT_issuerFor (l : Launch) (dC : Nat → ClassId) (dI : Nat → Nat → Nat) (hR hp hq hi : Nat) (cP cQ cS : ClassId) (rc : Nat) (rp rl ri : Nat → Int32) (hrc : rc ≤ 40) (n : Nat) (hn63 : n < 2 ^ 63) : Met l y_RT_issuerFor (zw y_RT_issuerFor b_RT_issuerFor 7 (some .int)) ({ frames := 1, cells := 0, slots := 0, locals := 24 }) (zPre [.ref hR, .long (lN n)] (dC, dI) [(hR, .inr (2, [.ref hp, .ref hq, .ref hi, .int (nI rc)])), (hp, .inl (cP, 40, .inl rp)), (hq, .inl (cQ, 40, .inl rl)), (hi, .inl (cS, 40, .inl ri))] [(cP, .int), (cQ, .int), (cS, .int)]) (vp_Si (fun r => r = zf_iss rc rp rl ri (zd_dg 19 n) n)) 0 0 (fun _ => False) := by
  refine Met.ofW (cc := b_RT_issuerFor) (maxL := 7) (ret := (some .int)) (by decide) rfl ?_
  intro p e s m args below meth c s₁ B hml hv
  obtain ⟨rfl, hP, hK⟩ := hv
  have hx := B.exec
  have hb := B.bytes
  have hr := B.returns
  have hts := atoms_spec (ws := (zw y_RT_issuerFor b_RT_issuerFor 7 (some .int))) B.pre
  have htB : ∀ w ∈ BG, w.before ([.ref hR, .long (lN n)] : List Value).toArray s = true := fun w h => hts w (List.mem_cons_of_mem _ h)
  have hown : s.vm.findClass R_RT = some m.cls := findClass_of_methodNamed B.named
  have hlocks := B.notSynchronized
  have CF : CallFix p m c b_RT_issuerFor 7 s ([.ref hR, .long (lN n)] : List Value).toArray BG R_RT := ⟨hx, hb, hml, hown, htB⟩
  have hP : va_P (dC, dI) vwCl [(hR, .inr (2, [.ref hp, .ref hq, .ref hi, .int (nI rc)])), (hp, .inl (cP, 40, .inl rp)), (hq, .inl (cQ, 40, .inl rl)), (hi, .inl (cS, 40, .inl ri))] s.heap := hP
  have hl := lv_entry [.ref hR, .long (lN n)] (n := 7) (Nat.le_of_ble_eq_true rfl)
  rw [lg_entry_eq]
  generalize (lg_sl [.ref hR, .long (lN n)] ++ List.replicate (7 - (lg_sl [.ref hR, .long (lN n)]).length) Slot.unset).toArray = ls at hl ⊢
  have hl : lv_has ls 7 [(0, .ref hR), (1, .long (lN n))] := hl
  refine lv_lload_n hx hb d_RT_issuerFor_0 rfl (lv_at hl 1 rfl) ?_
  refine lv_lstore_n (lv' := [(3, .long (lN n)), (0, .ref hR), (1, .long (lN n))]) hx hb d_RT_issuerFor_1 rfl hl (by decide) rfl (fun ls hl => ?_)
  refine lv_lload_n hx hb d_RT_issuerFor_2 rfl (lv_at hl 2 rfl) ?_
  refine vp_callSi (va_Run.run (zr_SN (n := 1) (As := [.long (lN n)]) (rest := []) CF (c_CD_digitsOf l dC dI (lN n)) mc_CD_digitsOf lkN_RT_29 mt_CD_digitsOf ni_CD rfl rfl (by decide +kernel) ⟨Nat.le_of_ble_eq_true rfl, Nat.le_of_ble_eq_true rfl⟩ (hP.sub (ws' := []) [] rfl) (hK.sub (tys' := []) [] rfl) rfl rfl hl.1 rfl (lv_room (Nat.le_of_ble_eq_true rfl)) d_RT_issuerFor_3 ⟨Nat.zero_le _, Nat.zero_le _⟩)) (fun r_3 h_3 => ?_)
  rw [zd_lN hn63] at h_3
  subst h_3
  refine lv_istore (lv' := [(5, .int (nI (zd_dg 19 n))), (3, .long (lN n)), (0, .ref hR), (1, .long (lN n))]) hx hb d_RT_issuerFor_6 hl (by decide) rfl (fun ls hl => ?_)
  have loop : ∀ (d b : Nat) (ls : Array Slot), d ≤ 19 → b < 2 ^ 63 → zf_iss rc rp rl ri d b = zf_iss rc rp rl ri (zd_dg 19 n) n → lv_has ls 7 [(5, .int (nI d)), (3, .long (lN b)), (0, .ref hR)] → W p l e (headSpec (zw y_RT_issuerFor b_RT_issuerFor 7 (some .int)) ({ frames := 1, cells := 0, slots := 0, locals := 24 })).room s m ([.ref hR, .long (lN n)] : List Value).toArray below meth c s.heap [] 0 0 (MQ below (vp_Si (fun r => r = zf_iss rc rp rl ri (zd_dg 19 n) n)) ([.ref hR, .long (lN n)] : List Value).toArray s 0 0 (fun _ => False)) (F0 m 8 ls []) := by
    intro d
    induction d with
    | zero =>
      intro b ls hd hb9 he hl
      refine lv_iload hx hb d_RT_issuerFor_8 (lv_at hl 0 rfl) ?_
      refine lv_if_le (tgt := 58) hx hb d_RT_issuerFor_10 (by decide) (fun c_10 => ?_) (fun c_10 => ?_)
      · refine lv_iconst (v := (-1)) hx hb d_RT_issuerFor_58 (by decide) ?_
        exact W.iret (v := -1) hx hb hr (fun t ht hW => ⟨_, rfl, by rw [← he]; rfl, ht⟩) (fun _ h => by cases h) d_RT_issuerFor_59
      · exact absurd (by decide) c_10
    | succ d ih =>
      intro b ls hd hb9 he hl
      refine lv_iload hx hb d_RT_issuerFor_8 (lv_at hl 0 rfl) ?_
      refine lv_if_le (tgt := 58) hx hb d_RT_issuerFor_10 (by decide) (fun c_10 => ?_) (fun c_10 => ?_)
      · exact absurd c_10 (nI_nle (by omega) (by omega))
      · refine lv_iload hx hb d_RT_issuerFor_13 (lv_at hl 0 rfl) ?_
        refine lv_bipush (v := 8) hx hb d_RT_issuerFor_15 (by decide) ?_
        refine lv_icmp_le (tgt := 24) hx hb d_RT_issuerFor_17 (by decide) (fun c_17 => ?_) (fun c_17 => ?_)
        · refine lv_aload_n hx hb d_RT_issuerFor_24 rfl (lv_at hl 2 rfl) ?_
          refine lv_lload_n hx hb d_RT_issuerFor_25 rfl (lv_at hl 1 rfl) ?_
          refine lv_iload hx hb d_RT_issuerFor_26 (lv_at hl 0 rfl) ?_
          refine vp_callSi (va_Run.run (zr_V (n := 2) (As := [.long (lN b), .int (nI (d + 1))]) (rest := []) CF (c_RT_find l dC dI hR hp hq hi cP cQ cS rc rp rl ri hrc (lN b) (nI (d + 1))) mc_RT_find lk_RT_33 mi_RT_find ms_RT_find ni_RT rfl rfl (by decide +kernel) ⟨Nat.le_of_ble_eq_true rfl, Nat.le_of_ble_eq_true rfl⟩ (hP.sub (ws' := [(hR, .inr (2, [.ref hp, .ref hq, .ref hi, .int (nI rc)])), (hp, .inl (cP, 40, .inl rp)), (hq, .inl (cQ, 40, .inl rl)), (hi, .inl (cS, 40, .inl ri))]) [0, 1, 2, 3] rfl) (hK.sub (tys' := [(cP, .int), (cQ, .int), (cS, .int)]) [0, 1, 2] rfl) rfl rfl rfl hl.1 rfl (lv_room (Nat.le_of_ble_eq_true rfl)) d_RT_issuerFor_28 ⟨Nat.zero_le _, Nat.zero_le _⟩)) (fun r_28 h_28 => ?_)
          subst h_28
          refine lv_istore (lv' := [(6, .int (zf_r (fun j => decide (rl j = nI (d + 1) ∧ (rp j).toInt64 = lN b)) rc)), (5, .int (nI (d + 1))), (3, .long (lN b)), (0, .ref hR)]) hx hb d_RT_issuerFor_31 hl (by decide) rfl (fun ls hl => ?_)
          refine lv_iload hx hb d_RT_issuerFor_33 (lv_at hl 0 rfl) ?_
          refine lv_iconst (v := (-1)) hx hb d_RT_issuerFor_35 (by decide) ?_
          refine lv_icmp_eq (tgt := 46) hx hb d_RT_issuerFor_36 (by decide) (fun c_36 => ?_) (fun c_36 => ?_)
          · have hno : ¬ (d + 1 ≤ 8 ∧ zf_ix (zf_m rp rl b (d + 1)) rc < rc) := fun h => zf_m1 (show zf_ix (zf_m rp rl b (d + 1)) rc < 2 ^ 31 by omega) ((if_pos h.2).symm.trans c_36)
            refine lv_lload_n hx hb d_RT_issuerFor_46 rfl (lv_at hl 2 rfl) ?_
            refine lv_ldc2 (v := 10) hx hb hown (htB _ kl_RT_37) d_RT_issuerFor_47 ?_
            refine lv_ldiv hx hb d_RT_issuerFor_50 (by decide) ?_
            refine lv_lstore_n (lv' := [(3, .long ((lN b) / 10)), (6, .int (zf_r (fun j => decide (rl j = nI (d + 1) ∧ (rp j).toInt64 = lN b)) rc)), (5, .int (nI (d + 1))), (0, .ref hR)]) hx hb d_RT_issuerFor_51 rfl hl (by decide) rfl (fun ls hl => ?_)
            refine lv_iinc (v := (nI (d + 1)) + (-1)) (lv' := [(5, .int ((nI (d + 1)) + (-1))), (3, .long ((lN b) / 10)), (6, .int (zf_r (fun j => decide (rl j = nI (d + 1) ∧ (rp j).toInt64 = lN b)) rc)), (0, .ref hR)]) hx hb d_RT_issuerFor_52 hl (k := 2) rfl rfl (by decide) rfl (fun ls hl => ?_)
            refine lv_goto (tgt := 8) hx hb d_RT_issuerFor_55 (by decide) ?_
            rw [zd_div hb9, pk_m1] at hl
            refine ih (b / 10) ls (by omega) (by omega) ?_ (lv_sub hl [0, 1, 3] rfl)
            rw [← he, zf_iss, if_neg hno]
          · have hix : zf_ix (zf_m rp rl b (d + 1)) rc < rc := Classical.byContradiction fun h => c_36 (if_neg h)
            have h8 : d + 1 ≤ 8 := Nat.not_lt.mp (fun h => absurd c_17 (show ¬ nI (d + 1) ≤ nI 8 from nI_ge h (by omega)))
            refine lv_aload_n hx hb d_RT_issuerFor_39 rfl (lv_at hl 3 rfl) ?_
            refine lv_iload hx hb d_RT_issuerFor_40 (lv_at hl 0 rfl) ?_
            rw [show (zf_r (fun j => decide (rl j = nI (d + 1) ∧ (rp j).toInt64 = lN b)) rc : Int32) = nI (zf_ix (zf_m rp rl b (d + 1)) rc) from if_pos hix]
            refine vp_callSi (va_Run.run (zr_V (n := 1) (As := [.int (nI (zf_ix (zf_m rp rl b (d + 1)) rc))]) (rest := []) CF (c_RT_issuerAt l dC dI hR hp hq hi cP cQ cS rc rp rl ri hrc (zf_ix (zf_m rp rl b (d + 1)) rc) hix) mc_RT_issuerAt lk_RT_25 mi_RT_issuerAt ms_RT_issuerAt ni_RT rfl rfl (by decide +kernel) ⟨Nat.le_of_ble_eq_true rfl, Nat.le_of_ble_eq_true rfl⟩ (hP.sub (ws' := [(hR, .inr (2, [.ref hp, .ref hq, .ref hi, .int (nI rc)])), (hp, .inl (cP, 40, .inl rp)), (hq, .inl (cQ, 40, .inl rl)), (hi, .inl (cS, 40, .inl ri))]) [0, 1, 2, 3] rfl) (hK.sub (tys' := [(cP, .int), (cQ, .int), (cS, .int)]) [0, 1, 2] rfl) rfl rfl rfl hl.1 rfl (lv_room (Nat.le_of_ble_eq_true rfl)) d_RT_issuerFor_42 ⟨Nat.zero_le _, Nat.zero_le _⟩)) (fun r_42 h_42 => ?_)
            subst h_42
            exact W.iret (v := ri (zf_ix (zf_m rp rl b (d + 1)) rc)) hx hb hr (fun t ht hW => ⟨_, rfl, by rw [← he, zf_iss, if_pos ⟨h8, hix⟩], ht⟩) (fun _ h => by cases h) d_RT_issuerFor_45
        · have hno : ¬ (d + 1 ≤ 8 ∧ zf_ix (zf_m rp rl b (d + 1)) rc < rc) := fun h => c_17 (show nI (d + 1) ≤ nI 8 from nI_le h.1 (by omega))
          refine lv_iconst (v := (-1)) hx hb d_RT_issuerFor_20 (by decide) ?_
          refine lv_goto (tgt := 31) hx hb d_RT_issuerFor_21 (by decide) ?_
          refine lv_istore (lv' := [(6, .int (-1)), (5, .int (nI (d + 1))), (3, .long (lN b)), (0, .ref hR)]) hx hb d_RT_issuerFor_31 hl (by decide) rfl (fun ls hl => ?_)
          refine lv_iload hx hb d_RT_issuerFor_33 (lv_at hl 0 rfl) ?_
          refine lv_iconst (v := (-1)) hx hb d_RT_issuerFor_35 (by decide) ?_
          refine lv_icmp_eq (tgt := 46) hx hb d_RT_issuerFor_36 (by decide) (fun c_36 => ?_) (fun c_36 => ?_)
          · refine lv_lload_n hx hb d_RT_issuerFor_46 rfl (lv_at hl 2 rfl) ?_
            refine lv_ldc2 (v := 10) hx hb hown (htB _ kl_RT_37) d_RT_issuerFor_47 ?_
            refine lv_ldiv hx hb d_RT_issuerFor_50 (by decide) ?_
            refine lv_lstore_n (lv' := [(3, .long ((lN b) / 10)), (6, .int (-1)), (5, .int (nI (d + 1))), (0, .ref hR)]) hx hb d_RT_issuerFor_51 rfl hl (by decide) rfl (fun ls hl => ?_)
            refine lv_iinc (v := (nI (d + 1)) + (-1)) (lv' := [(5, .int ((nI (d + 1)) + (-1))), (3, .long ((lN b) / 10)), (6, .int (-1)), (0, .ref hR)]) hx hb d_RT_issuerFor_52 hl (k := 2) rfl rfl (by decide) rfl (fun ls hl => ?_)
            refine lv_goto (tgt := 8) hx hb d_RT_issuerFor_55 (by decide) ?_
            rw [zd_div hb9, pk_m1] at hl
            refine ih (b / 10) ls (by omega) (by omega) ?_ (lv_sub hl [0, 1, 3] rfl)
            rw [← he, zf_iss, if_neg hno]
          · exact absurd rfl c_36
  exact loop _ n ls (zd_dg_le 19 n) hn63 rfl (lv_sub hl [0, 1, 2] rfl)
set_option maxHeartbeats 4000000 in
set_option maxRecDepth 100000 in
theorem c_CD_requireIssuer (l : Launch) (dC : Nat → ClassId) (dI : Nat → Nat → Nat) (hl0 : l.stackTraces = false) (x : Int32) : MetT l y_CD_requireIssuer (zw y_CD_requireIssuer b_CD_requireIssuer 1 none) ({ frames := 6, cells := 1, slots := 6, locals := 82 }) (zPreT [.int x] (dC, dI) [] []) (zt_Qv (0 ≤ x.toInt ∧ x.toInt < 6) zIAE) 0 0 (fun _ => False) := by
  refine zt_ofW (cc := b_CD_requireIssuer) (maxL := 1) (ret := none) (by decide) rfl ?_
  intro p e s m args below meth c s₁ B hml hout hv
  obtain ⟨rfl, ⟨hP, hK⟩, hSt⟩ := hv
  have hx := B.exec
  have hb := B.bytes
  have hr := B.returns
  have hts := atoms_spec (ws := (zw y_CD_requireIssuer b_CD_requireIssuer 1 none)) B.pre
  have htB : ∀ w ∈ BG, w.before ([.int x] : List Value).toArray s = true := fun w h => hts w (List.mem_cons_of_mem _ h)
  have hown : s.vm.findClass R_CD = some m.cls := findClass_of_methodNamed B.named
  have hlocks := B.notSynchronized
  have htr : e.platform.stackTraces = false := (show e.platform.stackTraces = l.stackTraces by rw [B.admits.platform]).trans hl0
  have CF : CallFix p m c b_CD_requireIssuer 1 s ([.int x] : List Value).toArray BG R_CD := ⟨hx, hb, hml, hown, htB⟩
  have hP : va_P (dC, dI) vwCl [] s.heap := hP
  have hl := lv_entry [.int x] (n := 1) (Nat.le_of_ble_eq_true rfl)
  rw [lg_entry_eq]
  generalize (lg_sl [.int x] ++ List.replicate (1 - (lg_sl [.int x]).length) Slot.unset).toArray = ls at hl ⊢
  have hl : lv_has ls 1 [(0, .int x)] := hl
  refine lv_iload_n hx hb d_CD_requireIssuer_0 rfl (lv_at hl 0 rfl) ?_
  refine lv_if_lt (tgt := 10) hx hb d_CD_requireIssuer_1 (by decide) (fun c_1 => ?_) (fun c_1 => ?_)
  · have hno : ¬ (0 ≤ x.toInt ∧ x.toInt < 6) := by
      have h0 := Int32.lt_iff_toInt_lt.mp c_1
      simp at h0
      omega
    exact zt_new hx hb htr (own := R_CD) (cls := zIAE) (names := zUp) hown (by decide +kernel) (by decide +kernel) (zt_words zw_IAE htB hSt) (htB _ lc_CD_151) (htB _ nn_IAE) (htB _ ni_IAE) (htB _ sr_CD_156) hl.1 hml d_CD_requireIssuer_10 d_CD_requireIssuer_13 d_CD_requireIssuer_14 d_CD_requireIssuer_16 d_CD_requireIssuer_19 hout hlocks rfl (Nat.le_of_ble_eq_true rfl) (Nat.le_of_ble_eq_true rfl) (Nat.le_of_ble_eq_true rfl) (Nat.le_of_ble_eq_true rfl) (fun x t hT hW => Or.inr ⟨hno, x, rfl, hT⟩) (Nat.le_of_ble_eq_true rfl) (Nat.le_of_ble_eq_true rfl)
  · have h1 : 0 ≤ x.toInt := by
      have h0 := fun h => c_1 (Int32.lt_iff_toInt_lt.mpr h)
      simp at h0
      omega
    refine lv_iload_n hx hb d_CD_requireIssuer_4 rfl (lv_at hl 0 rfl) ?_
    refine lv_bipush (v := 6) hx hb d_CD_requireIssuer_5 (by decide) ?_
    refine lv_icmp_lt (tgt := 20) hx hb d_CD_requireIssuer_7 (by decide) (fun c_7 => ?_) (fun c_7 => ?_)
    · have h2 : x.toInt < 6 := Int32.lt_iff_toInt_lt.mp c_7
      exact zt_ret (W.vret hx hb hr (fun t ht hW => Or.inl ⟨⟨h1, h2⟩, rfl, ht⟩) (fun _ h => by cases h) d_CD_requireIssuer_20)
    · have hno : ¬ (0 ≤ x.toInt ∧ x.toInt < 6) := fun h => c_7 (Int32.lt_iff_toInt_lt.mpr h.2)
      exact zt_new hx hb htr (own := R_CD) (cls := zIAE) (names := zUp) hown (by decide +kernel) (by decide +kernel) (zt_words zw_IAE htB hSt) (htB _ lc_CD_151) (htB _ nn_IAE) (htB _ ni_IAE) (htB _ sr_CD_156) hl.1 hml d_CD_requireIssuer_10 d_CD_requireIssuer_13 d_CD_requireIssuer_14 d_CD_requireIssuer_16 d_CD_requireIssuer_19 hout hlocks rfl (Nat.le_of_ble_eq_true rfl) (Nat.le_of_ble_eq_true rfl) (Nat.le_of_ble_eq_true rfl) (Nat.le_of_ble_eq_true rfl) (fun x t hT hW => Or.inr ⟨hno, x, rfl, hT⟩) (Nat.le_of_ble_eq_true rfl) (Nat.le_of_ble_eq_true rfl)
/-- digits 1 .. 8, and a row of digits that is no longer -/
abbrev zok_P (p n : Int32) : Prop := 1 ≤ n.toInt ∧ n.toInt ≤ 8 ∧ 0 ≤ p.toInt ∧ (zd_dg 19 (zd_N p.toInt64) : Int) ≤ n.toInt
abbrev zok_D (x : Int64) (a b : Nat) : Prop := a ≤ zd_dg 19 (zd_N x) ∧ zd_dg 19 (zd_N x) ≤ b
theorem zi_le {k : Nat} {x : Int32} (h : k < 2 ^ 31) : nI k ≤ x ↔ (k : Int) ≤ x.toInt := by rw [Int32.le_iff_toInt_le, nI_toInt h]
set_option maxHeartbeats 4000000 in
set_option maxRecDepth 100000 in
theorem c_CD_requirePrefix (l : Launch) (dC : Nat → ClassId) (dI : Nat → Nat → Nat) (hl0 : l.stackTraces = false) (y z : Int32) : MetT l y_CD_requirePrefix (zw y_CD_requirePrefix b_CD_requirePrefix 2 none) ({ frames := 6, cells := 1, slots := 6, locals := 82 }) (zPreT [.int y, .int z] (dC, dI) [] []) (zt_Qv (zok_P y z) zIAE) 0 0 (fun _ => False) := by
  refine zt_ofW (cc := b_CD_requirePrefix) (maxL := 2) (ret := none) (by decide) rfl ?_
  intro p e s m args below meth c s₁ B hml hout hv
  obtain ⟨rfl, ⟨hP, hK⟩, hSt⟩ := hv
  have hx := B.exec
  have hb := B.bytes
  have hr := B.returns
  have hts := atoms_spec (ws := (zw y_CD_requirePrefix b_CD_requirePrefix 2 none)) B.pre
  have htB : ∀ w ∈ BG, w.before ([.int y, .int z] : List Value).toArray s = true := fun w h => hts w (List.mem_cons_of_mem _ h)
  have hown : s.vm.findClass R_CD = some m.cls := findClass_of_methodNamed B.named
  have hlocks := B.notSynchronized
  have htr : e.platform.stackTraces = false := (show e.platform.stackTraces = l.stackTraces by rw [B.admits.platform]).trans hl0
  have CF : CallFix p m c b_CD_requirePrefix 2 s ([.int y, .int z] : List Value).toArray BG R_CD := ⟨hx, hb, hml, hown, htB⟩
  have hP : va_P (dC, dI) vwCl [] s.heap := hP
  have hl := lv_entry [.int y, .int z] (n := 2) (Nat.le_of_ble_eq_true rfl)
  rw [lg_entry_eq]
  generalize (lg_sl [.int y, .int z] ++ List.replicate (2 - (lg_sl [.int y, .int z]).length) Slot.unset).toArray = ls at hl ⊢
  have hl : lv_has ls 2 [(0, .int y), (1, .int z)] := hl
  have hdl := zd_dg_le 19 (zd_N y.toInt64)
  refine lv_iload_n hx hb d_CD_requirePrefix_0 rfl (lv_at hl 1 rfl) ?_
  refine lv_iconst (v := 1) hx hb d_CD_requirePrefix_1 (by decide) ?_
  refine lv_icmp_lt (tgt := 11) hx hb d_CD_requirePrefix_2 (by decide) (fun c_2 => ?_) (fun c_2 => ?_)
  · have hno : ¬ zok_P y z := fun h => by
      have h0 : z.toInt < 1 := Int32.lt_iff_toInt_lt.mp c_2
      have := h.1
      omega
    exact zt_new hx hb htr (own := R_CD) (cls := zIAE) (names := zUp) hown (by decide +kernel) (by decide +kernel) (zt_words zw_IAE htB hSt) (htB _ lc_CD_151) (htB _ nn_IAE) (htB _ ni_IAE) (htB _ sr_CD_158) hl.1 hml d_CD_requirePrefix_11 d_CD_requirePrefix_14 d_CD_requirePrefix_15 d_CD_requirePrefix_17 d_CD_requirePrefix_20 hout hlocks rfl (Nat.le_of_ble_eq_true rfl) (Nat.le_of_ble_eq_true rfl) (Nat.le_of_ble_eq_true rfl) (Nat.le_of_ble_eq_true rfl) (fun x t hT hW => Or.inr ⟨hno, x, rfl, hT⟩) (Nat.le_of_ble_eq_true rfl) (Nat.le_of_ble_eq_true rfl)
  · have h1 : 1 ≤ z.toInt := Int.not_lt.mp (fun h => c_2 (Int32.lt_iff_toInt_lt.mpr h))
    refine lv_iload_n hx hb d_CD_requirePrefix_5 rfl (lv_at hl 1 rfl) ?_
    refine lv_bipush (v := 8) hx hb d_CD_requirePrefix_6 (by decide) ?_
    refine lv_icmp_le (tgt := 21) hx hb d_CD_requirePrefix_8 (by decide) (fun c_8 => ?_) (fun c_8 => ?_)
    · have h2 : z.toInt ≤ 8 := Int32.le_iff_toInt_le.mp c_8
      refine lv_iload_n hx hb d_CD_requirePrefix_21 rfl (lv_at hl 0 rfl) ?_
      refine lv_if_lt (tgt := 34) hx hb d_CD_requirePrefix_22 (by decide) (fun c_22 => ?_) (fun c_22 => ?_)
      · have hno : ¬ zok_P y z := fun h => by
          have h0 : y.toInt < 0 := Int32.lt_iff_toInt_lt.mp c_22
          have := h.2.2.1
          omega
        exact zt_new hx hb htr (own := R_CD) (cls := zIAE) (names := zUp) hown (by decide +kernel) (by decide +kernel) (zt_words zw_IAE htB hSt) (htB _ lc_CD_151) (htB _ nn_IAE) (htB _ ni_IAE) (htB _ sr_CD_160) hl.1 hml d_CD_requirePrefix_34 d_CD_requirePrefix_37 d_CD_requirePrefix_38 d_CD_requirePrefix_40 d_CD_requirePrefix_43 hout hlocks rfl (Nat.le_of_ble_eq_true rfl) (Nat.le_of_ble_eq_true rfl) (Nat.le_of_ble_eq_true rfl) (Nat.le_of_ble_eq_true rfl) (fun x t hT hW => Or.inr ⟨hno, x, rfl, hT⟩) (Nat.le_of_ble_eq_true rfl) (Nat.le_of_ble_eq_true rfl)
      · have h3 : 0 ≤ y.toInt := Int.not_lt.mp (fun h => c_22 (Int32.lt_iff_toInt_lt.mpr h))
        refine lv_iload_n hx hb d_CD_requirePrefix_25 rfl (lv_at hl 0 rfl) ?_
        refine lv_i2l (v := y.toInt64) hx hb d_CD_requirePrefix_26 rfl ?_
        refine vp_callSi (va_Run.run (zr_S (n := 1) (As := [.long y.toInt64]) (rest := []) CF (c_CD_digitsOf l dC dI y.toInt64) mc_CD_digitsOf lk_CD_148 mt_CD_digitsOf ni_CD rfl rfl (by decide +kernel) ⟨Nat.le_of_ble_eq_true rfl, Nat.le_of_ble_eq_true rfl⟩ (hP.sub (ws' := []) [] rfl) (hK.sub (tys' := []) [] rfl) rfl rfl hl.1 rfl (lv_room (Nat.le_of_ble_eq_true rfl)) d_CD_requirePrefix_27 ⟨Nat.zero_le _, Nat.zero_le _⟩)) (fun r_27 h_27 => ?_)
        subst h_27
        refine lv_iload_n hx hb d_CD_requirePrefix_30 rfl (lv_at hl 1 rfl) ?_
        refine lv_icmp_le (tgt := 44) hx hb d_CD_requirePrefix_31 (by decide) (fun c_31 => ?_) (fun c_31 => ?_)
        · have h4 := (zi_le (by omega)).mp c_31
          exact zt_ret (W.vret hx hb hr (fun t ht hW => Or.inl ⟨⟨h1, h2, h3, h4⟩, rfl, ht⟩) (fun _ h => by cases h) d_CD_requirePrefix_44)
        · have hno : ¬ zok_P y z := fun h => c_31 ((zi_le (by omega)).mpr h.2.2.2)
          exact zt_new hx hb htr (own := R_CD) (cls := zIAE) (names := zUp) hown (by decide +kernel) (by decide +kernel) (zt_words zw_IAE htB hSt) (htB _ lc_CD_151) (htB _ nn_IAE) (htB _ ni_IAE) (htB _ sr_CD_160) hl.1 hml d_CD_requirePrefix_34 d_CD_requirePrefix_37 d_CD_requirePrefix_38 d_CD_requirePrefix_40 d_CD_requirePrefix_43 hout hlocks rfl (Nat.le_of_ble_eq_true rfl) (Nat.le_of_ble_eq_true rfl) (Nat.le_of_ble_eq_true rfl) (Nat.le_of_ble_eq_true rfl) (fun x t hT hW => Or.inr ⟨hno, x, rfl, hT⟩) (Nat.le_of_ble_eq_true rfl) (Nat.le_of_ble_eq_true rfl)
    · have hno : ¬ zok_P y z := fun h => c_8 (Int32.le_iff_toInt_le.mpr h.2.1)
      exact zt_new hx hb htr (own := R_CD) (cls := zIAE) (names := zUp) hown (by decide +kernel) (by decide +kernel) (zt_words zw_IAE htB hSt) (htB _ lc_CD_151) (htB _ nn_IAE) (htB _ ni_IAE) (htB _ sr_CD_158) hl.1 hml d_CD_requirePrefix_11 d_CD_requirePrefix_14 d_CD_requirePrefix_15 d_CD_requirePrefix_17 d_CD_requirePrefix_20 hout hlocks rfl (Nat.le_of_ble_eq_true rfl) (Nat.le_of_ble_eq_true rfl) (Nat.le_of_ble_eq_true rfl) (Nat.le_of_ble_eq_true rfl) (fun x t hT hW => Or.inr ⟨hno, x, rfl, hT⟩) (Nat.le_of_ble_eq_true rfl) (Nat.le_of_ble_eq_true rfl)
set_option maxHeartbeats 4000000 in
set_option maxRecDepth 100000 in
theorem c_CD_requireDigits (l : Launch) (dC : Nat → ClassId) (dI : Nat → Nat → Nat) (hl0 : l.stackTraces = false) (x0 : Int64) (a b : Nat) (ha19 : a < 20) (hb19 : b < 20) : MetT l y_CD_requireDigits (zw y_CD_requireDigits b_CD_requireDigits 5 none) ({ frames := 6, cells := 1, slots := 6, locals := 82 }) (zPreT [.long x0, .int (nI a), .int (nI b)] (dC, dI) [] []) (zt_Qv (zok_D x0 a b) zIAE) 0 0 (fun _ => False) := by
  refine zt_ofW (cc := b_CD_requireDigits) (maxL := 5) (ret := none) (by decide) rfl ?_
  intro p e s m args below meth c s₁ B hml hout hv
  obtain ⟨rfl, ⟨hP, hK⟩, hSt⟩ := hv
  have hx := B.exec
  have hb := B.bytes
  have hr := B.returns
  have hts := atoms_spec (ws := (zw y_CD_requireDigits b_CD_requireDigits 5 none)) B.pre
  have htB : ∀ w ∈ BG, w.before ([.long x0, .int (nI a), .int (nI b)] : List Value).toArray s = true := fun w h => hts w (List.mem_cons_of_mem _ h)
  have hown : s.vm.findClass R_CD = some m.cls := findClass_of_methodNamed B.named
  have hlocks := B.notSynchronized
  have htr : e.platform.stackTraces = false := (show e.platform.stackTraces = l.stackTraces by rw [B.admits.platform]).trans hl0
  have CF : CallFix p m c b_CD_requireDigits 5 s ([.long x0, .int (nI a), .int (nI b)] : List Value).toArray BG R_CD := ⟨hx, hb, hml, hown, htB⟩
  have hP : va_P (dC, dI) vwCl [] s.heap := hP
  have hl := lv_entry [.long x0, .int (nI a), .int (nI b)] (n := 5) (Nat.le_of_ble_eq_true rfl)
  rw [lg_entry_eq]
  generalize (lg_sl [.long x0, .int (nI a), .int (nI b)] ++ List.replicate (5 - (lg_sl [.long x0, .int (nI a), .int (nI b)]).length) Slot.unset).toArray = ls at hl ⊢
  have hl : lv_has ls 5 [(0, .long x0), (2, .int (nI a)), (3, .int (nI b))] := hl
  have hdl := zd_dg_le 19 (zd_N x0)
  refine lv_lload_n hx hb d_CD_requireDigits_0 rfl (lv_at hl 0 rfl) ?_
  refine vp_callSi (va_Run.run (zr_S (n := 1) (As := [.long x0]) (rest := []) CF (c_CD_digitsOf l dC dI x0) mc_CD_digitsOf lk_CD_148 mt_CD_digitsOf ni_CD rfl rfl (by decide +kernel) ⟨Nat.le_of_ble_eq_true rfl, Nat.le_of_ble_eq_true rfl⟩ (hP.sub (ws' := []) [] rfl) (hK.sub (tys' := []) [] rfl) rfl rfl hl.1 rfl (lv_room (Nat.le_of_ble_eq_true rfl)) d_CD_requireDigits_1 ⟨Nat.zero_le _, Nat.zero_le _⟩)) (fun r_1 h_1 => ?_)
  subst h_1
  refine lv_istore (lv' := [(4, .int (nI (zd_dg 19 (zd_N x0)))), (0, .long x0), (2, .int (nI a)), (3, .int (nI b))]) hx hb d_CD_requireDigits_4 hl (by decide) rfl (fun ls hl => ?_)
  refine lv_iload hx hb d_CD_requireDigits_6 (lv_at hl 0 rfl) ?_
  refine lv_iload_n hx hb d_CD_requireDigits_8 rfl (lv_at hl 2 rfl) ?_
  refine lv_icmp_lt (tgt := 18) hx hb d_CD_requireDigits_9 (by decide) (fun c_9 => ?_) (fun c_9 => ?_)
  · have hno : ¬ zok_D x0 a b := fun h => absurd c_9 (nI_nlt h.1 (by omega))
    exact zt_new hx hb htr (own := R_CD) (cls := zIAE) (names := zUp) hown (by decide +kernel) (by decide +kernel) (zt_words zw_IAE htB hSt) (htB _ lc_CD_151) (htB _ nn_IAE) (htB _ ni_IAE) (htB _ sr_CD_162) hl.1 hml d_CD_requireDigits_18 d_CD_requireDigits_21 d_CD_requireDigits_22 d_CD_requireDigits_24 d_CD_requireDigits_27 hout hlocks rfl (Nat.le_of_ble_eq_true rfl) (Nat.le_of_ble_eq_true rfl) (Nat.le_of_ble_eq_true rfl) (Nat.le_of_ble_eq_true rfl) (fun x t hT hW => Or.inr ⟨hno, x, rfl, hT⟩) (Nat.le_of_ble_eq_true rfl) (Nat.le_of_ble_eq_true rfl)
  · have h1 : a ≤ zd_dg 19 (zd_N x0) := Nat.not_lt.mp (fun h => c_9 (nI_lt h (by omega)))
    refine lv_iload hx hb d_CD_requireDigits_12 (lv_at hl 0 rfl) ?_
    refine lv_iload_n hx hb d_CD_requireDigits_14 rfl (lv_at hl 3 rfl) ?_
    refine lv_icmp_le (tgt := 28) hx hb d_CD_requireDigits_15 (by decide) (fun c_15 => ?_) (fun c_15 => ?_)
    · have h2 : zd_dg 19 (zd_N x0) ≤ b := Nat.not_lt.mp (fun h => absurd c_15 (nI_ge h (by omega)))
      exact zt_ret (W.vret hx hb hr (fun t ht hW => Or.inl ⟨⟨h1, h2⟩, rfl, ht⟩) (fun _ h => by cases h) d_CD_requireDigits_28)
    · have hno : ¬ zok_D x0 a b := fun h => c_15 (nI_le h.2 (by omega))
      exact zt_new hx hb htr (own := R_CD) (cls := zIAE) (names := zUp) hown (by decide +kernel) (by decide +kernel) (zt_words zw_IAE htB hSt) (htB _ lc_CD_151) (htB _ nn_IAE) (htB _ ni_IAE) (htB _ sr_CD_162) hl.1 hml d_CD_requireDigits_18 d_CD_requireDigits_21 d_CD_requireDigits_22 d_CD_requireDigits_24 d_CD_requireDigits_27 hout hlocks rfl (Nat.le_of_ble_eq_true rfl) (Nat.le_of_ble_eq_true rfl) (Nat.le_of_ble_eq_true rfl) (Nat.le_of_ble_eq_true rfl) (fun x t hT hW => Or.inr ⟨hno, x, rfl, hT⟩) (Nat.le_of_ble_eq_true rfl) (Nat.le_of_ble_eq_true rfl)
set_option maxHeartbeats 4000000 in
set_option maxRecDepth 100000 in
theorem c_CD_requireAccount (l : Launch) (dC : Nat → ClassId) (dI : Nat → Nat → Nat) (hl0 : l.stackTraces = false) (hX : Nat) (wi ma no : Int32) (hC : Nat) (hR : Nat) (hT hs hu ho : Nat) (cI cU cO : ClassId) (ac : Nat) (ai ut ol : Nat → Int32) (hac : ac ≤ 64) (x0 : Int32) : MetT l y_CD_requireAccount (zw y_CD_requireAccount b_CD_requireAccount 2 none) ({ frames := 6, cells := 1, slots := 6, locals := 82 }) (zPreT [.ref hX, .int x0] (dC, dI) [(hX, .inr (3, [.int wi, .int ma, .ref hR, .ref hT, .ref hC, .int no])), (hT, .inr (0, [.ref hs, .ref hu, .ref ho, .int (nI ac)])), (hs, .inl (cI, 64, .inl ai)), (hu, .inl (cU, 512, .inl ut)), (ho, .inl (cO, 64, .inl ol))] [(cI, .int), (cU, .int), (cO, .int)]) (zt_Qv (0 ≤ x0.toInt ∧ x0.toInt < ac) zIAE) 0 0 (fun _ => False) := by
  refine zt_ofW (cc := b_CD_requireAccount) (maxL := 2) (ret := none) (by decide) rfl ?_
  intro p e s m args below meth c s₁ B hml hout hv
  obtain ⟨rfl, ⟨hP, hK⟩, hSt⟩ := hv
  have hx := B.exec
  have hb := B.bytes
  have hr := B.returns
  have hts := atoms_spec (ws := (zw y_CD_requireAccount b_CD_requireAccount 2 none)) B.pre
  have htB : ∀ w ∈ BG, w.before ([.ref hX, .int x0] : List Value).toArray s = true := fun w h => hts w (List.mem_cons_of_mem _ h)
  have hown : s.vm.findClass R_CD = some m.cls := findClass_of_methodNamed B.named
  have hlocks := B.notSynchronized
  have htr : e.platform.stackTraces = false := (show e.platform.stackTraces = l.stackTraces by rw [B.admits.platform]).trans hl0
  have CF : CallFix p m c b_CD_requireAccount 2 s ([.ref hX, .int x0] : List Value).toArray BG R_CD := ⟨hx, hb, hml, hown, htB⟩
  have hP : va_P (dC, dI) vwCl [(hX, .inr (3, [.int wi, .int ma, .ref hR, .ref hT, .ref hC, .int no])), (hT, .inr (0, [.ref hs, .ref hu, .ref ho, .int (nI ac)])), (hs, .inl (cI, 64, .inl ai)), (hu, .inl (cU, 512, .inl ut)), (ho, .inl (cO, 64, .inl ol))] s.heap := hP
  have hl := lv_entry [.ref hX, .int x0] (n := 2) (Nat.le_of_ble_eq_true rfl)
  rw [lg_entry_eq]
  generalize (lg_sl [.ref hX, .int x0] ++ List.replicate (2 - (lg_sl [.ref hX, .int x0]).length) Slot.unset).toArray = ls at hl ⊢
  have hl : lv_has ls 2 [(0, .ref hX), (1, .int x0)] := hl
  refine lv_aload_n hx hb d_CD_requireAccount_0 rfl (lv_at hl 0 rfl) ?_
  refine va_get (D := (dC, dI)) (ci := 3) (v := .ref hT) (C := R_CD) (T := T_CD) (N := 6) hx hb htB i_CD hown hK hP 0 rfl rfl 3 (by decide) (htB _ lf_CD_35) (fun _ h9 => h9) rfl d_CD_requireAccount_1 ?_
  refine lv_iload_n hx hb d_CD_requireAccount_4 rfl (lv_at hl 1 rfl) ?_
  refine vp_callSi (va_Run.run (zr_V (n := 1) (As := [.int x0]) (rest := []) CF (c_AT_has l dC dI hT hs hu ho cI cU cO ac ai ut ol hac x0) mc_AT_has lk_CD_164 mi_AT_has ms_AT_has ni_AT rfl rfl (by decide +kernel) ⟨Nat.le_of_ble_eq_true rfl, Nat.le_of_ble_eq_true rfl⟩ (hP.sub (ws' := [(hT, .inr (0, [.ref hs, .ref hu, .ref ho, .int (nI ac)])), (hs, .inl (cI, 64, .inl ai)), (hu, .inl (cU, 512, .inl ut)), (ho, .inl (cO, 64, .inl ol))]) [1, 2, 3, 4] rfl) (hK.sub (tys' := [(cI, .int), (cU, .int), (cO, .int)]) [0, 1, 2] rfl) rfl rfl rfl hl.1 rfl (lv_room (Nat.le_of_ble_eq_true rfl)) d_CD_requireAccount_5 ⟨Nat.zero_le _, Nat.zero_le _⟩)) (fun r_5 h_5 => ?_)
  refine lv_if_ne (tgt := 21) hx hb d_CD_requireAccount_8 (by decide) (fun c_8 => ?_) (fun c_8 => ?_)
  · have hok : 0 ≤ x0.toInt ∧ x0.toInt < ac := Classical.byContradiction fun h => c_8 (by rw [h_5, if_neg h])
    exact zt_ret (W.vret hx hb hr (fun t ht hW => Or.inl ⟨hok, rfl, ht⟩) (fun _ h => by cases h) d_CD_requireAccount_21)
  · have hno : ¬ (0 ≤ x0.toInt ∧ x0.toInt < ac) := fun h => by
      rw [h_5, if_pos h] at c_8
      exact absurd c_8 (by decide)
    exact zt_new hx hb htr (own := R_CD) (cls := zIAE) (names := zUp) hown (by decide +kernel) (by decide +kernel) (zt_words zw_IAE htB hSt) (htB _ lc_CD_151) (htB _ nn_IAE) (htB _ ni_IAE) (htB _ sr_CD_167) hl.1 hml d_CD_requireAccount_11 d_CD_requireAccount_14 d_CD_requireAccount_15 d_CD_requireAccount_17 d_CD_requireAccount_20 hout hlocks rfl (Nat.le_of_ble_eq_true rfl) (Nat.le_of_ble_eq_true rfl) (Nat.le_of_ble_eq_true rfl) (Nat.le_of_ble_eq_true rfl) (fun x t hT hW => Or.inr ⟨hno, x, rfl, hT⟩) (Nat.le_of_ble_eq_true rfl) (Nat.le_of_ble_eq_true rfl)
set_option maxHeartbeats 4000000 in
set_option maxRecDepth 100000 in
theorem c_CD_requireCard (l : Launch) (dC : Nat → ClassId) (dI : Nat → Nat → Nat) (hl0 : l.stackTraces = false) (hX : Nat) (wi ma no : Int32) (hT : Nat) (hR : Nat) (hC hn ha hk : Nat) (cN cA cK : ClassId) (cc : Nat) (cn : Nat → Int64) (ca cb : Nat → Int32) (hcc : cc ≤ 100) (x0 : Int32) : MetT l y_CD_requireCard (zw y_CD_requireCard b_CD_requireCard 2 none) ({ frames := 6, cells := 1, slots := 6, locals := 82 }) (zPreT [.ref hX, .int x0] (dC, dI) [(hX, .inr (3, [.int wi, .int ma, .ref hR, .ref hT, .ref hC, .int no])), (hC, .inr (1, [.ref hn, .ref ha, .ref hk, .int (nI cc)])), (hn, .inl (cN, 100, .inr (.inl cn))), (ha, .inl (cA, 100, .inl ca)), (hk, .inl (cK, 100, .inl cb))] [(cN, .long), (cA, .int), (cK, .boolean)]) (zt_Qv (0 ≤ x0.toInt ∧ x0.toInt < cc) zIAE) 0 0 (fun _ => False) := by
  refine zt_ofW (cc := b_CD_requireCard) (maxL := 2) (ret := none) (by decide) rfl ?_
  intro p e s m args below meth c s₁ B hml hout hv
  obtain ⟨rfl, ⟨hP, hK⟩, hSt⟩ := hv
  have hx := B.exec
  have hb := B.bytes
  have hr := B.returns
  have hts := atoms_spec (ws := (zw y_CD_requireCard b_CD_requireCard 2 none)) B.pre
  have htB : ∀ w ∈ BG, w.before ([.ref hX, .int x0] : List Value).toArray s = true := fun w h => hts w (List.mem_cons_of_mem _ h)
  have hown : s.vm.findClass R_CD = some m.cls := findClass_of_methodNamed B.named
  have hlocks := B.notSynchronized
  have htr : e.platform.stackTraces = false := (show e.platform.stackTraces = l.stackTraces by rw [B.admits.platform]).trans hl0
  have CF : CallFix p m c b_CD_requireCard 2 s ([.ref hX, .int x0] : List Value).toArray BG R_CD := ⟨hx, hb, hml, hown, htB⟩
  have hP : va_P (dC, dI) vwCl [(hX, .inr (3, [.int wi, .int ma, .ref hR, .ref hT, .ref hC, .int no])), (hC, .inr (1, [.ref hn, .ref ha, .ref hk, .int (nI cc)])), (hn, .inl (cN, 100, .inr (.inl cn))), (ha, .inl (cA, 100, .inl ca)), (hk, .inl (cK, 100, .inl cb))] s.heap := hP
  have hl := lv_entry [.ref hX, .int x0] (n := 2) (Nat.le_of_ble_eq_true rfl)
  rw [lg_entry_eq]
  generalize (lg_sl [.ref hX, .int x0] ++ List.replicate (2 - (lg_sl [.ref hX, .int x0]).length) Slot.unset).toArray = ls at hl ⊢
  have hl : lv_has ls 2 [(0, .ref hX), (1, .int x0)] := hl
  refine lv_aload_n hx hb d_CD_requireCard_0 rfl (lv_at hl 0 rfl) ?_
  refine va_get (D := (dC, dI)) (ci := 3) (v := .ref hC) (C := R_CD) (T := T_CD) (N := 6) hx hb htB i_CD hown hK hP 0 rfl rfl 4 (by decide) (htB _ lf_CD_42) (fun _ h9 => h9) rfl d_CD_requireCard_1 ?_
  refine lv_iload_n hx hb d_CD_requireCard_4 rfl (lv_at hl 1 rfl) ?_
  refine vp_callSi (va_Run.run (zr_V (n := 1) (As := [.int x0]) (rest := []) CF (c_CT_has l dC dI hC hn ha hk cN cA cK cc cn ca cb hcc x0) mc_CT_has lk_CD_169 mi_CT_has ms_CT_has ni_CT rfl rfl (by decide +kernel) ⟨Nat.le_of_ble_eq_true rfl, Nat.le_of_ble_eq_true rfl⟩ (hP.sub (ws' := [(hC, .inr (1, [.ref hn, .ref ha, .ref hk, .int (nI cc)])), (hn, .inl (cN, 100, .inr (.inl cn))), (ha, .inl (cA, 100, .inl ca)), (hk, .inl (cK, 100, .inl cb))]) [1, 2, 3, 4] rfl) (hK.sub (tys' := [(cN, .long), (cA, .int), (cK, .boolean)]) [0, 1, 2] rfl) rfl rfl rfl hl.1 rfl (lv_room (Nat.le_of_ble_eq_true rfl)) d_CD_requireCard_5 ⟨Nat.zero_le _, Nat.zero_le _⟩)) (fun r_5 h_5 => ?_)
  refine lv_if_ne (tgt := 21) hx hb d_CD_requireCard_8 (by decide) (fun c_8 => ?_) (fun c_8 => ?_)
  · have hok : 0 ≤ x0.toInt ∧ x0.toInt < cc := Classical.byContradiction fun h => c_8 (by rw [h_5, if_neg h])
    exact zt_ret (W.vret hx hb hr (fun t ht hW => Or.inl ⟨hok, rfl, ht⟩) (fun _ h => by cases h) d_CD_requireCard_21)
  · have hno : ¬ (0 ≤ x0.toInt ∧ x0.toInt < cc) := fun h => by
      rw [h_5, if_pos h] at c_8
      exact absurd c_8 (by decide)
    exact zt_new hx hb htr (own := R_CD) (cls := zIAE) (names := zUp) hown (by decide +kernel) (by decide +kernel) (zt_words zw_IAE htB hSt) (htB _ lc_CD_151) (htB _ nn_IAE) (htB _ ni_IAE) (htB _ sr_CD_170) hl.1 hml d_CD_requireCard_11 d_CD_requireCard_14 d_CD_requireCard_15 d_CD_requireCard_17 d_CD_requireCard_20 hout hlocks rfl (Nat.le_of_ble_eq_true rfl) (Nat.le_of_ble_eq_true rfl) (Nat.le_of_ble_eq_true rfl) (Nat.le_of_ble_eq_true rfl) (fun x t hT hW => Or.inr ⟨hno, x, rfl, hT⟩) (Nat.le_of_ble_eq_true rfl) (Nat.le_of_ble_eq_true rfl)
set_option maxHeartbeats 4000000 in
set_option maxRecDepth 100000 in
theorem c_CD_requireTime (l : Launch) (dC : Nat → ClassId) (dI : Nat → Nat → Nat) (hl0 : l.stackTraces = false) (hX : Nat) (wi ma no : Int32) (hR hT hC : Nat) (x0 : Int32) : MetT l y_CD_requireTime (zw y_CD_requireTime b_CD_requireTime 2 none) ({ frames := 6, cells := 1, slots := 6, locals := 82 }) (zPreT [.ref hX, .int x0] (dC, dI) [(hX, .inr (3, [.int wi, .int ma, .ref hR, .ref hT, .ref hC, .int no]))] []) (zt_Qv (no ≤ x0) zIAE) 0 0 (fun _ => False) := by
  refine zt_ofW (cc := b_CD_requireTime) (maxL := 2) (ret := none) (by decide) rfl ?_
  intro p e s m args below meth c s₁ B hml hout hv
  obtain ⟨rfl, ⟨hP, hK⟩, hSt⟩ := hv
  have hx := B.exec
  have hb := B.bytes
  have hr := B.returns
  have hts := atoms_spec (ws := (zw y_CD_requireTime b_CD_requireTime 2 none)) B.pre
  have htB : ∀ w ∈ BG, w.before ([.ref hX, .int x0] : List Value).toArray s = true := fun w h => hts w (List.mem_cons_of_mem _ h)
  have hown : s.vm.findClass R_CD = some m.cls := findClass_of_methodNamed B.named
  have hlocks := B.notSynchronized
  have htr : e.platform.stackTraces = false := (show e.platform.stackTraces = l.stackTraces by rw [B.admits.platform]).trans hl0
  have CF : CallFix p m c b_CD_requireTime 2 s ([.ref hX, .int x0] : List Value).toArray BG R_CD := ⟨hx, hb, hml, hown, htB⟩
  have hP : va_P (dC, dI) vwCl [(hX, .inr (3, [.int wi, .int ma, .ref hR, .ref hT, .ref hC, .int no]))] s.heap := hP
  have hl := lv_entry [.ref hX, .int x0] (n := 2) (Nat.le_of_ble_eq_true rfl)
  rw [lg_entry_eq]
  generalize (lg_sl [.ref hX, .int x0] ++ List.replicate (2 - (lg_sl [.ref hX, .int x0]).length) Slot.unset).toArray = ls at hl ⊢
  have hl : lv_has ls 2 [(0, .ref hX), (1, .int x0)] := hl
  refine lv_iload_n hx hb d_CD_requireTime_0 rfl (lv_at hl 1 rfl) ?_
  refine lv_aload_n hx hb d_CD_requireTime_1 rfl (lv_at hl 0 rfl) ?_
  refine va_get (D := (dC, dI)) (ci := 3) (v := .int no) (C := R_CD) (T := T_CD) (N := 6) hx hb htB i_CD hown hK hP 0 rfl rfl 5 (by decide) (htB _ lf_CD_46) (fun _ h9 => h9) rfl d_CD_requireTime_2 ?_
  refine lv_icmp_ge (tgt := 18) hx hb d_CD_requireTime_5 (by decide) (fun c_5 => ?_) (fun c_5 => ?_)
  · have hok : no ≤ x0 := c_5
    exact zt_ret (W.vret hx hb hr (fun t ht hW => Or.inl ⟨hok, rfl, ht⟩) (fun _ h => by cases h) d_CD_requireTime_18)
  · have hno : ¬ no ≤ x0 := c_5
    exact zt_new hx hb htr (own := R_CD) (cls := zIAE) (names := zUp) hown (by decide +kernel) (by decide +kernel) (zt_words zw_IAE htB hSt) (htB _ lc_CD_151) (htB _ nn_IAE) (htB _ ni_IAE) (htB _ sr_CD_172) hl.1 hml d_CD_requireTime_8 d_CD_requireTime_11 d_CD_requireTime_12 d_CD_requireTime_14 d_CD_requireTime_17 hout hlocks rfl (Nat.le_of_ble_eq_true rfl) (Nat.le_of_ble_eq_true rfl) (Nat.le_of_ble_eq_true rfl) (Nat.le_of_ble_eq_true rfl) (fun x t hT hW => Or.inr ⟨hno, x, rfl, hT⟩) (Nat.le_of_ble_eq_true rfl) (Nat.le_of_ble_eq_true rfl)
end
section
theorem zu_self {f : Nat → Int32} {i : Nat} {v : Int32} (h : f i = v) : upd f i v = f := by
  funext j
  by_cases e : j = i
  · subst e; rw [pk_us, h]
  · rw [pk_un e]
theorem zi_of {x : Int32} {n : Nat} (h : 0 ≤ x.toInt ∧ x.toInt < n) : x = nI x.toInt.toNat ∧ x.toInt.toNat < n := by
  have hn : x.toInt < 2 ^ 31 := Int32.toInt_lt x
  refine ⟨Int32.toInt_inj.mp ?_, by omega⟩
  rw [nI_toInt (by omega)]
  omega
theorem zi_64 {x y : Int32} (h : x.toInt64 = y.toInt64) : x = y := by
  have h1 := congrArg Int64.toInt32 h
  rwa [lg_l2i_i2l, lg_l2i_i2l] at h1
theorem zl_of {x : Int64} {a b : Nat} (ha : 1 ≤ a) (h : zok_D x a b) : x = lN (zd_N x) ∧ zd_N x < 2 ^ 63 ∧ 0 < zd_N x := by
  rcases zd_of (x := x) with h0 | ⟨k, hk, rfl⟩
  · have h1 := h.1
    rw [zd_neg h0, zd_dg0] at h1
    omega
  · rw [zd_lN hk]
    refine ⟨rfl, hk, ?_⟩
    rcases Nat.eq_zero_or_pos k with e | e
    · have h1 := h.1
      rw [zd_lN hk, e, zd_dg0] at h1
      omega
    · exact e
theorem zd_pw : ∀ (K k n : Nat), n < 10 ^ K → zd_dg K n ≤ k → n < 10 ^ k
  | 0, k, n, h, _ => Nat.lt_of_lt_of_le h (Nat.pow_le_pow_right (by decide) (Nat.zero_le k))
  | K + 1, k, n, h, hd => by
    simp only [zd_dg] at hd
    split at hd
    · rename_i e; rw [e]; exact Nat.pow_pos (by decide)
    · cases k with
      | zero => omega
      | succ k =>
        have h1 := zd_pw K k (n / 10) (by rw [Nat.pow_succ] at h; omega) (by omega)
        rw [Nat.pow_succ]; omega
/-- the place of a route, or how many there are -/
def zr_at (rc : Nat) (rp rl : Nat → Int32) (y z : Int32) : Nat := zf_ix (fun j => decide (rl j = z ∧ (rp j).toInt64 = y.toInt64)) rc
theorem zr_le (rc : Nat) (rp rl : Nat → Int32) (y z : Int32) : zr_at rc rp rl y z ≤ rc := zf_le _ _
theorem zr_is {rc : Nat} {rp rl : Nat → Int32} {y z : Int32} (h : zr_at rc rp rl y z < rc) : rp (zr_at rc rp rl y z) = y ∧ rl (zr_at rc rp rl y z) = z := by
  have h1 := (zf_spec (fun j => decide (rl j = z ∧ (rp j).toInt64 = y.toInt64)) rc).1 h
  simp only [decide_eq_true_eq] at h1
  exact ⟨zi_64 h1.2, h1.1⟩
set_option maxHeartbeats 4000000 in
set_option maxRecDepth 100000 in
theorem c_CD_route (l : Launch) (dC : Nat → ClassId) (dI : Nat → Nat → Nat) (hl0 : l.stackTraces = false) (hX : Nat) (wi ma no : Int32) (hR hp hq hi : Nat) (cP cQ cS : ClassId) (rc : Nat) (rp rl ri : Nat → Int32) (hrc : rc ≤ 40) (hT hs hu ho : Nat) (cI cU cO : ClassId) (ac : Nat) (ai ut ol : Nat → Int32) (hac : ac ≤ 64) (hC hn ha hk : Nat) (cN cA cK : ClassId) (cc : Nat) (cn : Nat → Int64) (ca cb : Nat → Int32) (hcc : cc ≤ 100) (hri : ∀ j, j < rc → ¬ ri j = -1) (x y z : Int32) (hD0 : va_D (fun _ => True) [(hX, .inr (3, [.int wi, .int ma, .ref hR, .ref hT, .ref hC, .int no])), (hR, .inr (2, [.ref hp, .ref hq, .ref hi, .int (nI rc)])), (hp, .inl (cP, 40, .inl rp)), (hq, .inl (cQ, 40, .inl rl)), (hi, .inl (cS, 40, .inl ri)), (hT, .inr (0, [.ref hs, .ref hu, .ref ho, .int (nI ac)])), (hs, .inl (cI, 64, .inl ai)), (hu, .inl (cU, 512, .inl ut)), (ho, .inl (cO, 64, .inl ol)), (hC, .inr (1, [.ref hn, .ref ha, .ref hk, .int (nI cc)])), (hn, .inl (cN, 100, .inr (.inl cn))), (ha, .inl (cA, 100, .inl ca)), (hk, .inl (cK, 100, .inl cb))]) : MetT l y_CD_route (zw y_CD_route b_CD_route 5 (some .int)) ({ frames := 7, cells := 1, slots := 6, locals := 103 }) (zPreT [.ref hX, .int x, .int y, .int z] (dC, dI) [(hX, .inr (3, [.int wi, .int ma, .ref hR, .ref hT, .ref hC, .int no])), (hR, .inr (2, [.ref hp, .ref hq, .ref hi, .int (nI rc)])), (hp, .inl (cP, 40, .inl rp)), (hq, .inl (cQ, 40, .inl rl)), (hi, .inl (cS, 40, .inl ri)), (hT, .inr (0, [.ref hs, .ref hu, .ref ho, .int (nI ac)])), (hs, .inl (cI, 64, .inl ai)), (hu, .inl (cU, 512, .inl ut)), (ho, .inl (cO, 64, .inl ol)), (hC, .inr (1, [.ref hn, .ref ha, .ref hk, .int (nI cc)])), (hn, .inl (cN, 100, .inr (.inl cn))), (ha, .inl (cA, 100, .inl ca)), (hk, .inl (cK, 100, .inl cb))] [(cP, .int), (cQ, .int), (cS, .int), (cI, .int), (cU, .int), (cO, .int), (cN, .long), (cA, .int), (cK, .boolean)]) (zt_Q3 (S := Unit) (if (0 ≤ x.toInt ∧ x.toInt < 6) ∧ zok_P y z then (if zr_at rc rp rl y z < rc ∨ rc < 40 then 0 else 2) else 1) (fun _ => some (.int (if zr_at rc rp rl y z < rc then ri (zr_at rc rp rl y z) else -1))) (fun (_ : Unit) (t : State) => va_P (dC, dI) vwCl [(hX, .inr (3, [.int wi, .int ma, .ref hR, .ref hT, .ref hC, .int no])), (hR, .inr (2, [.ref hp, .ref hq, .ref hi, .int (nI (if zr_at rc rp rl y z < rc then rc else rc + 1))])), (hp, .inl (cP, 40, .inl (upd rp (zr_at rc rp rl y z) y))), (hq, .inl (cQ, 40, .inl (upd rl (zr_at rc rp rl y z) z))), (hi, .inl (cS, 40, .inl (upd ri (zr_at rc rp rl y z) x))), (hT, .inr (0, [.ref hs, .ref hu, .ref ho, .int (nI ac)])), (hs, .inl (cI, 64, .inl ai)), (hu, .inl (cU, 512, .inl ut)), (ho, .inl (cO, 64, .inl ol)), (hC, .inr (1, [.ref hn, .ref ha, .ref hk, .int (nI cc)])), (hn, .inl (cN, 100, .inr (.inl cn))), (ha, .inl (cA, 100, .inl ca)), (hk, .inl (cK, 100, .inl cb))] t.heap) (zA [(hX, .inr (3, [.int wi, .int ma, .ref hR, .ref hT, .ref hC, .int no])), (hR, .inr (2, [.ref hp, .ref hq, .ref hi, .int (nI rc)])), (hp, .inl (cP, 40, .inl rp)), (hq, .inl (cQ, 40, .inl rl)), (hi, .inl (cS, 40, .inl ri)), (hT, .inr (0, [.ref hs, .ref hu, .ref ho, .int (nI ac)])), (hs, .inl (cI, 64, .inl ai)), (hu, .inl (cU, 512, .inl ut)), (ho, .inl (cO, 64, .inl ol)), (hC, .inr (1, [.ref hn, .ref ha, .ref hk, .int (nI cc)])), (hn, .inl (cN, 100, .inr (.inl cn))), (ha, .inl (cA, 100, .inl ca)), (hk, .inl (cK, 100, .inl cb))])) 0 0 (zA [(hX, .inr (3, [.int wi, .int ma, .ref hR, .ref hT, .ref hC, .int no])), (hR, .inr (2, [.ref hp, .ref hq, .ref hi, .int (nI rc)])), (hp, .inl (cP, 40, .inl rp)), (hq, .inl (cQ, 40, .inl rl)), (hi, .inl (cS, 40, .inl ri)), (hT, .inr (0, [.ref hs, .ref hu, .ref ho, .int (nI ac)])), (hs, .inl (cI, 64, .inl ai)), (hu, .inl (cU, 512, .inl ut)), (ho, .inl (cO, 64, .inl ol)), (hC, .inr (1, [.ref hn, .ref ha, .ref hk, .int (nI cc)])), (hn, .inl (cN, 100, .inr (.inl cn))), (ha, .inl (cA, 100, .inl ca)), (hk, .inl (cK, 100, .inl cb))]) := by
  refine zt_ofW (cc := b_CD_route) (maxL := 5) (ret := (some .int)) (by decide) rfl ?_
  intro p e s m args below meth c s₁ B hml hout hv
  obtain ⟨rfl, ⟨hP, hK⟩, hSt⟩ := hv
  have hx := B.exec
  have hb := B.bytes
  have hr := B.returns
  have hts := atoms_spec (ws := (zw y_CD_route b_CD_route 5 (some .int))) B.pre
  have htB : ∀ w ∈ BG, w.before ([.ref hX, .int x, .int y, .int z] : List Value).toArray s = true := fun w h => hts w (List.mem_cons_of_mem _ h)
  have hown : s.vm.findClass R_CD = some m.cls := findClass_of_methodNamed B.named
  have hlocks := B.notSynchronized
  have htr : e.platform.stackTraces = false := (show e.platform.stackTraces = l.stackTraces by rw [B.admits.platform]).trans hl0
  have CF : CallFix p m c b_CD_route 5 s ([.ref hX, .int x, .int y, .int z] : List Value).toArray BG R_CD := ⟨hx, hb, hml, hown, htB⟩
  have hP : va_P (dC, dI) vwCl [(hX, .inr (3, [.int wi, .int ma, .ref hR, .ref hT, .ref hC, .int no])), (hR, .inr (2, [.ref hp, .ref hq, .ref hi, .int (nI rc)])), (hp, .inl (cP, 40, .inl rp)), (hq, .inl (cQ, 40, .inl rl)), (hi, .inl (cS, 40, .inl ri)), (hT, .inr (0, [.ref hs, .ref hu, .ref ho, .int (nI ac)])), (hs, .inl (cI, 64, .inl ai)), (hu, .inl (cU, 512, .inl ut)), (ho, .inl (cO, 64, .inl ol)), (hC, .inr (1, [.ref hn, .ref ha, .ref hk, .int (nI cc)])), (hn, .inl (cN, 100, .inr (.inl cn))), (ha, .inl (cA, 100, .inl ca)), (hk, .inl (cK, 100, .inl cb))] s.heap := hP
  have hl := lv_entry [.ref hX, .int x, .int y, .int z] (n := 5) (Nat.le_of_ble_eq_true rfl)
  rw [lg_entry_eq]
  generalize (lg_sl [.ref hX, .int x, .int y, .int z] ++ List.replicate (5 - (lg_sl [.ref hX, .int x, .int y, .int z]).length) Slot.unset).toArray = ls at hl ⊢
  have hl : lv_has ls 5 [(0, .ref hX), (1, .int x), (2, .int y), (3, .int z)] := hl
  have hD : va_D (zA [(hX, .inr (3, [.int wi, .int ma, .ref hR, .ref hT, .ref hC, .int no])), (hR, .inr (2, [.ref hp, .ref hq, .ref hi, .int (nI rc)])), (hp, .inl (cP, 40, .inl rp)), (hq, .inl (cQ, 40, .inl rl)), (hi, .inl (cS, 40, .inl ri)), (hT, .inr (0, [.ref hs, .ref hu, .ref ho, .int (nI ac)])), (hs, .inl (cI, 64, .inl ai)), (hu, .inl (cU, 512, .inl ut)), (ho, .inl (cO, 64, .inl ol)), (hC, .inr (1, [.ref hn, .ref ha, .ref hk, .int (nI cc)])), (hn, .inl (cN, 100, .inr (.inl cn))), (ha, .inl (cA, 100, .inl ca)), (hk, .inl (cK, 100, .inl cb))]) [(hX, .inr (3, [.int wi, .int ma, .ref hR, .ref hT, .ref hC, .int no])), (hR, .inr (2, [.ref hp, .ref hq, .ref hi, .int (nI rc)])), (hp, .inl (cP, 40, .inl rp)), (hq, .inl (cQ, 40, .inl rl)), (hi, .inl (cS, 40, .inl ri)), (hT, .inr (0, [.ref hs, .ref hu, .ref ho, .int (nI ac)])), (hs, .inl (cI, 64, .inl ai)), (hu, .inl (cU, 512, .inl ut)), (ho, .inl (cO, 64, .inl ol)), (hC, .inr (1, [.ref hn, .ref ha, .ref hk, .int (nI cc)])), (hn, .inl (cN, 100, .inr (.inl cn))), (ha, .inl (cA, 100, .inl ca)), (hk, .inl (cK, 100, .inl cb))] := zA_of hD0
  have hS : va_S (zA [(hX, .inr (3, [.int wi, .int ma, .ref hR, .ref hT, .ref hC, .int no])), (hR, .inr (2, [.ref hp, .ref hq, .ref hi, .int (nI rc)])), (hp, .inl (cP, 40, .inl rp)), (hq, .inl (cQ, 40, .inl rl)), (hi, .inl (cS, 40, .inl ri)), (hT, .inr (0, [.ref hs, .ref hu, .ref ho, .int (nI ac)])), (hs, .inl (cI, 64, .inl ai)), (hu, .inl (cU, 512, .inl ut)), (ho, .inl (cO, 64, .inl ol)), (hC, .inr (1, [.ref hn, .ref ha, .ref hk, .int (nI cc)])), (hn, .inl (cN, 100, .inr (.inl cn))), (ha, .inl (cA, 100, .inl ca)), (hk, .inl (cK, 100, .inl cb))]) s.heap s.heap [] := va_S.rf
  generalize zA [(hX, .inr (3, [.int wi, .int ma, .ref hR, .ref hT, .ref hC, .int no])), (hR, .inr (2, [.ref hp, .ref hq, .ref hi, .int (nI rc)])), (hp, .inl (cP, 40, .inl rp)), (hq, .inl (cQ, 40, .inl rl)), (hi, .inl (cS, 40, .inl ri)), (hT, .inr (0, [.ref hs, .ref hu, .ref ho, .int (nI ac)])), (hs, .inl (cI, 64, .inl ai)), (hu, .inl (cU, 512, .inl ut)), (ho, .inl (cO, 64, .inl ol)), (hC, .inr (1, [.ref hn, .ref ha, .ref hk, .int (nI cc)])), (hn, .inl (cN, 100, .inr (.inl cn))), (ha, .inl (cA, 100, .inl ca)), (hk, .inl (cK, 100, .inl cb))] = A at hD hS ⊢
  have hle := zr_le rc rp rl y z
  refine lv_iload_n hx hb d_CD_route_0 rfl (lv_at hl 1 rfl) ?_
  refine zt_callv (zr_TS (n := 1) (As := [.int x]) (rest := []) CF (c_CD_requireIssuer l dC dI hl0 x) mc_CD_requireIssuer lk_CD_49 mt_CD_requireIssuer ni_CD (by decide +kernel) ⟨Nat.le_of_ble_eq_true rfl, Nat.le_of_ble_eq_true rfl⟩ (hP.sub (ws' := []) [] rfl) (hK.sub (tys' := []) [] rfl) hSt (fun _ _ => rfl) rfl rfl hl.1 rfl (lv_room (Nat.le_of_ble_eq_true rfl)) d_CD_route_1 ⟨Nat.le_of_ble_eq_true rfl, Nat.le_of_ble_eq_true rfl⟩) (fun hI => ?_) (fun x H1 hno hth => zt_leave (fun t ht hW => Or.inr (Or.inl ⟨by rw [if_neg (fun h => hno h.1)], x, rfl, hth.to ht hW⟩)) (fun _ h => by cases h) (fun z hz => hout z hz _) hlocks (Nat.le_of_ble_eq_true rfl) (Nat.le_of_ble_eq_true rfl))
  refine lv_iload_n hx hb d_CD_route_4 rfl (lv_at hl 2 rfl) ?_
  refine lv_iload_n hx hb d_CD_route_5 rfl (lv_at hl 3 rfl) ?_
  refine zt_callv (zr_TS (n := 2) (As := [.int y, .int z]) (rest := []) CF (c_CD_requirePrefix l dC dI hl0 y z) mc_CD_requirePrefix lk_CD_53 mt_CD_requirePrefix ni_CD (by decide +kernel) ⟨Nat.le_of_ble_eq_true rfl, Nat.le_of_ble_eq_true rfl⟩ (hP.sub (ws' := []) [] rfl) (hK.sub (tys' := []) [] rfl) hSt (fun _ _ => rfl) rfl rfl hl.1 rfl (lv_room (Nat.le_of_ble_eq_true rfl)) d_CD_route_6 ⟨Nat.le_of_ble_eq_true rfl, Nat.le_of_ble_eq_true rfl⟩) (fun hPx => ?_) (fun x H1 hno hth => zt_leave (fun t ht hW => Or.inr (Or.inl ⟨by rw [if_neg (fun h => hno h.2)], x, rfl, hth.to ht hW⟩)) (fun _ h => by cases h) (fun z hz => hout z hz _) hlocks (Nat.le_of_ble_eq_true rfl) (Nat.le_of_ble_eq_true rfl))
  refine lv_aload_n hx hb d_CD_route_9 rfl (lv_at hl 0 rfl) ?_
  refine va_get (D := (dC, dI)) (ci := 3) (v := .ref hR) (C := R_CD) (T := T_CD) (N := 6) hx hb htB i_CD hown hK hP 0 rfl rfl 2 (by decide) (htB _ lf_CD_28) (fun _ h9 => h9) rfl d_CD_route_10 ?_
  refine lv_iload_n hx hb d_CD_route_13 rfl (lv_at hl 2 rfl) ?_
  refine lv_i2l (v := y.toInt64) hx hb d_CD_route_14 rfl ?_
  refine lv_iload_n hx hb d_CD_route_15 rfl (lv_at hl 3 rfl) ?_
  refine vp_callSi (va_Run.run (zr_V (n := 2) (As := [.long y.toInt64, .int z]) (rest := []) CF (c_RT_find l dC dI hR hp hq hi cP cQ cS rc rp rl ri hrc y.toInt64 z) mc_RT_find lk_CD_57 mi_RT_find ms_RT_find ni_RT rfl rfl (by decide +kernel) ⟨Nat.le_of_ble_eq_true rfl, Nat.le_of_ble_eq_true rfl⟩ (hP.sub (ws' := [(hR, .inr (2, [.ref hp, .ref hq, .ref hi, .int (nI rc)])), (hp, .inl (cP, 40, .inl rp)), (hq, .inl (cQ, 40, .inl rl)), (hi, .inl (cS, 40, .inl ri))]) [1, 2, 3, 4] rfl) (hK.sub (tys' := [(cP, .int), (cQ, .int), (cS, .int)]) [0, 1, 2] rfl) rfl rfl rfl hl.1 rfl (lv_room (Nat.le_of_ble_eq_true rfl)) d_CD_route_16 ⟨Nat.zero_le _, Nat.zero_le _⟩)) (fun r_16 h_16 => ?_)
  subst h_16
  refine lv_istore (lv' := [(4, .int (zf_r (fun j => decide (rl j = z ∧ (rp j).toInt64 = y.toInt64)) rc)), (0, .ref hX), (1, .int x), (2, .int y), (3, .int z)]) hx hb d_CD_route_19 hl (by decide) rfl (fun ls hl => ?_)
  refine lv_iload hx hb d_CD_route_21 (lv_at hl 0 rfl) ?_
  refine lv_iconst (v := (-1)) hx hb d_CD_route_23 (by decide) ?_
  refine lv_icmp_eq (tgt := 38) hx hb d_CD_route_24 (by decide) (fun c_24 => ?_) (fun c_24 => ?_)
  · have hix : ¬ zr_at rc rp rl y z < rc := fun h => zf_m1 (show zr_at rc rp rl y z < 2 ^ 31 by omega) ((if_pos h).symm.trans c_24)
    have hrceq : zr_at rc rp rl y z = rc := by omega
    refine lv_aload_n hx hb d_CD_route_38 rfl (lv_at hl 1 rfl) ?_
    refine va_get (D := (dC, dI)) (ci := 3) (v := .ref hR) (C := R_CD) (T := T_CD) (N := 6) hx hb htB i_CD hown hK hP 0 rfl rfl 2 (by decide) (htB _ lf_CD_28) (fun _ h9 => h9) rfl d_CD_route_39 ?_
    refine vp_callSi (va_Run.run (zr_V (n := 0) (As := []) (rest := []) CF (c_RT_isFull l dC dI hR hp hq hi cP cQ cS rc rp rl ri hrc) mc_RT_isFull lk_CD_64 mi_RT_isFull ms_RT_isFull ni_RT rfl rfl (by decide +kernel) ⟨Nat.le_of_ble_eq_true rfl, Nat.le_of_ble_eq_true rfl⟩ (hP.sub (ws' := [(hR, .inr (2, [.ref hp, .ref hq, .ref hi, .int (nI rc)])), (hp, .inl (cP, 40, .inl rp)), (hq, .inl (cQ, 40, .inl rl)), (hi, .inl (cS, 40, .inl ri))]) [1, 2, 3, 4] rfl) (hK.sub (tys' := [(cP, .int), (cQ, .int), (cS, .int)]) [0, 1, 2] rfl) rfl rfl rfl hl.1 rfl (lv_room (Nat.le_of_ble_eq_true rfl)) d_CD_route_42 ⟨Nat.zero_le _, Nat.zero_le _⟩)) (fun r_42 h_42 => ?_)
    refine lv_if_eq (tgt := 58) hx hb d_CD_route_45 (by decide) (fun c_45 => ?_) (fun c_45 => ?_)
    · have h40 : rc < 40 := Nat.not_le.mp (fun h => by rw [h_42, if_pos h] at c_45; exact absurd c_45 (by decide))
      refine lv_aload_n hx hb d_CD_route_58 rfl (lv_at hl 1 rfl) ?_
      refine va_get (D := (dC, dI)) (ci := 3) (v := .ref hR) (C := R_CD) (T := T_CD) (N := 6) hx hb htB i_CD hown hK hP 0 rfl rfl 2 (by decide) (htB _ lf_CD_28) (fun _ h9 => h9) rfl d_CD_route_59 ?_
      refine lv_iload_n hx hb d_CD_route_62 rfl (lv_at hl 2 rfl) ?_
      refine lv_iload_n hx hb d_CD_route_63 rfl (lv_at hl 3 rfl) ?_
      refine lv_iload_n hx hb d_CD_route_64 rfl (lv_at hl 4 rfl) ?_
      refine va_callv (zr_V (n := 3) (As := [.int x, .int y, .int z]) (rest := []) CF (c_RT_add l dC dI hR hp hq hi cP cQ cS rc rp rl ri hrc h40 x y z ((hD.sub (ws' := [(hR, .inr (2, [.ref hp, .ref hq, .ref hi, .int (nI rc)])), (hp, .inl (cP, 40, .inl rp)), (hq, .inl (cQ, 40, .inl rl)), (hi, .inl (cS, 40, .inl ri))]) [1, 2, 3, 4] (by decide) rfl).weaken (fun _ _ _ _ => trivial))) mc_RT_add lk_CD_75 mi_RT_add ms_RT_add ni_RT rfl rfl (by decide +kernel) ⟨Nat.le_of_ble_eq_true rfl, Nat.le_of_ble_eq_true rfl⟩ (hP.sub (ws' := [(hR, .inr (2, [.ref hp, .ref hq, .ref hi, .int (nI rc)])), (hp, .inl (cP, 40, .inl rp)), (hq, .inl (cQ, 40, .inl rl)), (hi, .inl (cS, 40, .inl ri))]) [1, 2, 3, 4] rfl) (hK.sub (tys' := [(cP, .int), (cQ, .int), (cS, .int)]) [0, 1, 2] rfl) rfl rfl rfl hl.1 rfl (lv_room (Nat.le_of_ble_eq_true rfl)) d_CD_route_65 ⟨Nat.zero_le _, Nat.zero_le _⟩) hS (fun q _ h => zA_sub hD (wc := [(hR, .inr (2, [.ref hp, .ref hq, .ref hi, .int (nI rc)])), (hp, .inl (cP, 40, .inl rp)), (hq, .inl (cQ, 40, .inl rl)), (hi, .inl (cS, 40, .inl ri))]) [1, 2, 3, 4] rfl h) (fun q h => zA_sub hD (wc := [(hR, .inr (2, [.ref hp, .ref hq, .ref hi, .int (nI rc)])), (hp, .inl (cP, 40, .inl rp)), (hq, .inl (cQ, 40, .inl rl)), (hi, .inl (cS, 40, .inl ri))]) [1, 2, 3, 4] rfl h) (fun u t H1 locs1 ht hvm hw_65 hB hz hk9 hS => ?_)
      have hP1 : va_P (dC, dI) vwCl [(hR, .inr (2, [.ref hp, .ref hq, .ref hi, .int (nI (rc + 1))])), (hp, .inl (cP, 40, .inl (upd rp rc y))), (hq, .inl (cQ, 40, .inl (upd rl rc z))), (hi, .inl (cS, 40, .inl (upd ri rc x)))] H1 := by
        have h9 : va_P (dC, dI) vwCl [(hR, .inr (2, [.ref hp, .ref hq, .ref hi, .int (nI (rc + 1))])), (hp, .inl (cP, 40, .inl (upd rp rc y))), (hq, .inl (cQ, 40, .inl (upd rl rc z))), (hi, .inl (cS, 40, .inl (upd ri rc x)))] t.heap := hB
        rw [ht] at h9
        exact h9
      have hP : va_P (dC, dI) vwCl [(hX, .inr (3, [.int wi, .int ma, .ref hR, .ref hT, .ref hC, .int no])), (hR, .inr (2, [.ref hp, .ref hq, .ref hi, .int (nI (rc + 1))])), (hp, .inl (cP, 40, .inl (upd rp rc y))), (hq, .inl (cQ, 40, .inl (upd rl rc z))), (hi, .inl (cS, 40, .inl (upd ri rc x))), (hT, .inr (0, [.ref hs, .ref hu, .ref ho, .int (nI ac)])), (hs, .inl (cI, 64, .inl ai)), (hu, .inl (cU, 512, .inl ut)), (ho, .inl (cO, 64, .inl ol)), (hC, .inr (1, [.ref hn, .ref ha, .ref hk, .int (nI cc)])), (hn, .inl (cN, 100, .inr (.inl cn))), (ha, .inl (cA, 100, .inl ca)), (hk, .inl (cK, 100, .inl cb))] H1 := zj (wc := [(hR, .inr (2, [.ref hp, .ref hq, .ref hi, .int (nI rc)])), (hp, .inl (cP, 40, .inl rp)), (hq, .inl (cQ, 40, .inl rl)), (hi, .inl (cS, 40, .inl ri))]) hP hD [1, 2, 3, 4] rfl hP1 hk9 rfl rfl
      have hD : va_D A [(hX, .inr (3, [.int wi, .int ma, .ref hR, .ref hT, .ref hC, .int no])), (hR, .inr (2, [.ref hp, .ref hq, .ref hi, .int (nI (rc + 1))])), (hp, .inl (cP, 40, .inl (upd rp rc y))), (hq, .inl (cQ, 40, .inl (upd rl rc z))), (hi, .inl (cS, 40, .inl (upd ri rc x))), (hT, .inr (0, [.ref hs, .ref hu, .ref ho, .int (nI ac)])), (hs, .inl (cI, 64, .inl ai)), (hu, .inl (cU, 512, .inl ut)), (ho, .inl (cO, 64, .inl ol)), (hC, .inr (1, [.ref hn, .ref ha, .ref hk, .int (nI cc)])), (hn, .inl (cN, 100, .inr (.inl cn))), (ha, .inl (cA, 100, .inl ca)), (hk, .inl (cK, 100, .inl cb))] := zD_of (ws := [(hX, .inr (3, [.int wi, .int ma, .ref hR, .ref hT, .ref hC, .int no])), (hR, .inr (2, [.ref hp, .ref hq, .ref hi, .int (nI rc)])), (hp, .inl (cP, 40, .inl rp)), (hq, .inl (cQ, 40, .inl rl)), (hi, .inl (cS, 40, .inl ri)), (hT, .inr (0, [.ref hs, .ref hu, .ref ho, .int (nI ac)])), (hs, .inl (cI, 64, .inl ai)), (hu, .inl (cU, 512, .inl ut)), (ho, .inl (cO, 64, .inl ol)), (hC, .inr (1, [.ref hn, .ref ha, .ref hk, .int (nI cc)])), (hn, .inl (cN, 100, .inr (.inl cn))), (ha, .inl (cA, 100, .inl ca)), (hk, .inl (cK, 100, .inl cb))]) rfl hD
      generalize H1 = H at hP hS ⊢
      refine lv_iconst (v := (-1)) hx hb d_CD_route_68 (by decide) ?_
      exact zt_ret (W.iret (v := -1) hx hb hr (fun t ht hW => Or.inl ⟨by rw [if_pos ⟨hI, hPx⟩, if_pos (Or.inr h40)], (), by rw [if_neg hix], by show va_P _ _ _ t.heap; rw [ht]; rw [if_neg hix, hrceq]; exact hP, hS.F ht⟩) hS.2.2 d_CD_route_69)
    · have h40 : ¬ rc < 40 := fun h => c_45 (by rw [h_42, if_neg (by omega)])
      exact zt_new hx hb htr (own := R_CD) (cls := zISE) (names := zUp) hown (by decide +kernel) (by decide +kernel) (zt_words zw_ISE htB hSt) (htB _ lc_CD_68) (htB _ nn_ISE) (htB _ ni_ISE) (htB _ sr_CD_70) hl.1 hml d_CD_route_48 d_CD_route_51 d_CD_route_52 d_CD_route_54 d_CD_route_57 hout hlocks rfl (Nat.le_of_ble_eq_true rfl) (Nat.le_of_ble_eq_true rfl) (Nat.le_of_ble_eq_true rfl) (Nat.le_of_ble_eq_true rfl) (fun x t hT hW => Or.inr (Or.inr ⟨by rw [if_pos ⟨hI, hPx⟩, if_neg (fun h => h.elim hix h40)], x, rfl, hT⟩)) (Nat.le_of_ble_eq_true rfl) (Nat.le_of_ble_eq_true rfl)
  · have hix : zr_at rc rp rl y z < rc := Classical.byContradiction fun h => c_24 (if_neg h)
    refine lv_aload_n hx hb d_CD_route_27 rfl (lv_at hl 1 rfl) ?_
    refine va_get (D := (dC, dI)) (ci := 3) (v := .ref hR) (C := R_CD) (T := T_CD) (N := 6) hx hb htB i_CD hown hK hP 0 rfl rfl 2 (by decide) (htB _ lf_CD_28) (fun _ h9 => h9) rfl d_CD_route_28 ?_
    refine lv_iload hx hb d_CD_route_31 (lv_at hl 0 rfl) ?_
    refine lv_iload_n hx hb d_CD_route_33 rfl (lv_at hl 2 rfl) ?_
    rw [show (zf_r (fun j => decide (rl j = z ∧ (rp j).toInt64 = y.toInt64)) rc : Int32) = nI (zr_at rc rp rl y z) from if_pos hix]
    refine va_calli (zr_V (n := 2) (As := [.int (nI (zr_at rc rp rl y z)), .int x]) (rest := []) CF (c_RT_redirect l dC dI hR hp hq hi cP cQ cS rc rp rl ri hrc (zr_at rc rp rl y z) hix (hri _ hix) x ((hD.sub (ws' := [(hR, .inr (2, [.ref hp, .ref hq, .ref hi, .int (nI rc)])), (hp, .inl (cP, 40, .inl rp)), (hq, .inl (cQ, 40, .inl rl)), (hi, .inl (cS, 40, .inl ri))]) [1, 2, 3, 4] (by decide) rfl).weaken (fun _ _ _ _ => trivial))) mc_RT_redirect lk_CD_61 mi_RT_redirect ms_RT_redirect ni_RT rfl rfl (by decide +kernel) ⟨Nat.le_of_ble_eq_true rfl, Nat.le_of_ble_eq_true rfl⟩ (hP.sub (ws' := [(hR, .inr (2, [.ref hp, .ref hq, .ref hi, .int (nI rc)])), (hp, .inl (cP, 40, .inl rp)), (hq, .inl (cQ, 40, .inl rl)), (hi, .inl (cS, 40, .inl ri))]) [1, 2, 3, 4] rfl) (hK.sub (tys' := [(cP, .int), (cQ, .int), (cS, .int)]) [0, 1, 2] rfl) rfl rfl rfl hl.1 rfl (lv_room (Nat.le_of_ble_eq_true rfl)) d_CD_route_34 ⟨Nat.zero_le _, Nat.zero_le _⟩) hS (fun q _ h => zA_sub hD (wc := [(hR, .inr (2, [.ref hp, .ref hq, .ref hi, .int (nI rc)])), (hp, .inl (cP, 40, .inl rp)), (hq, .inl (cQ, 40, .inl rl)), (hi, .inl (cS, 40, .inl ri))]) [1, 2, 3, 4] rfl h) (fun q h => zA_sub hD (wc := [(hR, .inr (2, [.ref hp, .ref hq, .ref hi, .int (nI rc)])), (hp, .inl (cP, 40, .inl rp)), (hq, .inl (cQ, 40, .inl rl)), (hi, .inl (cS, 40, .inl ri))]) [1, 2, 3, 4] rfl h) (fun r_34 u t H1 locs1 ht hvm hw_34 hB hz hk9 hS => ?_)
    have hP1 : va_P (dC, dI) vwCl [(hR, .inr (2, [.ref hp, .ref hq, .ref hi, .int (nI rc)])), (hp, .inl (cP, 40, .inl rp)), (hq, .inl (cQ, 40, .inl rl)), (hi, .inl (cS, 40, .inl (upd ri (zr_at rc rp rl y z) x)))] H1 := by
      have h9 : va_P (dC, dI) vwCl [(hR, .inr (2, [.ref hp, .ref hq, .ref hi, .int (nI rc)])), (hp, .inl (cP, 40, .inl rp)), (hq, .inl (cQ, 40, .inl rl)), (hi, .inl (cS, 40, .inl (upd ri (zr_at rc rp rl y z) x)))] t.heap := hB
      rw [ht] at h9
      exact h9
    have hP : va_P (dC, dI) vwCl [(hX, .inr (3, [.int wi, .int ma, .ref hR, .ref hT, .ref hC, .int no])), (hR, .inr (2, [.ref hp, .ref hq, .ref hi, .int (nI rc)])), (hp, .inl (cP, 40, .inl rp)), (hq, .inl (cQ, 40, .inl rl)), (hi, .inl (cS, 40, .inl (upd ri (zr_at rc rp rl y z) x))), (hT, .inr (0, [.ref hs, .ref hu, .ref ho, .int (nI ac)])), (hs, .inl (cI, 64, .inl ai)), (hu, .inl (cU, 512, .inl ut)), (ho, .inl (cO, 64, .inl ol)), (hC, .inr (1, [.ref hn, .ref ha, .ref hk, .int (nI cc)])), (hn, .inl (cN, 100, .inr (.inl cn))), (ha, .inl (cA, 100, .inl ca)), (hk, .inl (cK, 100, .inl cb))] H1 := zj (wc := [(hR, .inr (2, [.ref hp, .ref hq, .ref hi, .int (nI rc)])), (hp, .inl (cP, 40, .inl rp)), (hq, .inl (cQ, 40, .inl rl)), (hi, .inl (cS, 40, .inl ri))]) hP hD [1, 2, 3, 4] rfl hP1 hk9 rfl rfl
    have hD : va_D A [(hX, .inr (3, [.int wi, .int ma, .ref hR, .ref hT, .ref hC, .int no])), (hR, .inr (2, [.ref hp, .ref hq, .ref hi, .int (nI rc)])), (hp, .inl (cP, 40, .inl rp)), (hq, .inl (cQ, 40, .inl rl)), (hi, .inl (cS, 40, .inl (upd ri (zr_at rc rp rl y z) x))), (hT, .inr (0, [.ref hs, .ref hu, .ref ho, .int (nI ac)])), (hs, .inl (cI, 64, .inl ai)), (hu, .inl (cU, 512, .inl ut)), (ho, .inl (cO, 64, .inl ol)), (hC, .inr (1, [.ref hn, .ref ha, .ref hk, .int (nI cc)])), (hn, .inl (cN, 100, .inr (.inl cn))), (ha, .inl (cA, 100, .inl ca)), (hk, .inl (cK, 100, .inl cb))] := zD_of (ws := [(hX, .inr (3, [.int wi, .int ma, .ref hR, .ref hT, .ref hC, .int no])), (hR, .inr (2, [.ref hp, .ref hq, .ref hi, .int (nI rc)])), (hp, .inl (cP, 40, .inl rp)), (hq, .inl (cQ, 40, .inl rl)), (hi, .inl (cS, 40, .inl ri)), (hT, .inr (0, [.ref hs, .ref hu, .ref ho, .int (nI ac)])), (hs, .inl (cI, 64, .inl ai)), (hu, .inl (cU, 512, .inl ut)), (ho, .inl (cO, 64, .inl ol)), (hC, .inr (1, [.ref hn, .ref ha, .ref hk, .int (nI cc)])), (hn, .inl (cN, 100, .inr (.inl cn))), (ha, .inl (cA, 100, .inl ca)), (hk, .inl (cK, 100, .inl cb))]) rfl hD
    generalize H1 = H at hP hS ⊢
    subst hw_34
    exact zt_ret (W.iret (v := ri (zr_at rc rp rl y z)) hx hb hr (fun t ht hW => Or.inl ⟨by rw [if_pos ⟨hI, hPx⟩, if_pos (Or.inl hix)], (), by rw [if_pos hix], by show va_P _ _ _ t.heap; rw [ht]; rw [if_pos hix, zu_self (zr_is hix).1, zu_self (zr_is hix).2]; exact hP, hS.F ht⟩) hS.2.2 d_CD_route_37)
end
section
set_option maxHeartbeats 4000000 in
set_option maxRecDepth 100000 in
theorem c_CD_unroute (l : Launch) (dC : Nat → ClassId) (dI : Nat → Nat → Nat) (hl0 : l.stackTraces = false) (hX : Nat) (wi ma no : Int32) (hR hp hq hi : Nat) (cP cQ cS : ClassId) (rc : Nat) (rp rl ri : Nat → Int32) (hrc : rc ≤ 40) (hT hs hu ho : Nat) (cI cU cO : ClassId) (ac : Nat) (ai ut ol : Nat → Int32) (hac : ac ≤ 64) (hC hn ha hk : Nat) (cN cA cK : ClassId) (cc : Nat) (cn : Nat → Int64) (ca cb : Nat → Int32) (hcc : cc ≤ 100) (hri : ∀ j, j < rc → ¬ ri j = -1) (y z : Int32) (hD0 : va_D (fun _ => True) [(hX, .inr (3, [.int wi, .int ma, .ref hR, .ref hT, .ref hC, .int no])), (hR, .inr (2, [.ref hp, .ref hq, .ref hi, .int (nI rc)])), (hp, .inl (cP, 40, .inl rp)), (hq, .inl (cQ, 40, .inl rl)), (hi, .inl (cS, 40, .inl ri)), (hT, .inr (0, [.ref hs, .ref hu, .ref ho, .int (nI ac)])), (hs, .inl (cI, 64, .inl ai)), (hu, .inl (cU, 512, .inl ut)), (ho, .inl (cO, 64, .inl ol)), (hC, .inr (1, [.ref hn, .ref ha, .ref hk, .int (nI cc)])), (hn, .inl (cN, 100, .inr (.inl cn))), (ha, .inl (cA, 100, .inl ca)), (hk, .inl (cK, 100, .inl cb))]) : MetT l y_CD_unroute (zw y_CD_unroute b_CD_unroute 4 (some .int)) ({ frames := 7, cells := 1, slots := 6, locals := 103 }) (zPreT [.ref hX, .int y, .int z] (dC, dI) [(hX, .inr (3, [.int wi, .int ma, .ref hR, .ref hT, .ref hC, .int no])), (hR, .inr (2, [.ref hp, .ref hq, .ref hi, .int (nI rc)])), (hp, .inl (cP, 40, .inl rp)), (hq, .inl (cQ, 40, .inl rl)), (hi, .inl (cS, 40, .inl ri)), (hT, .inr (0, [.ref hs, .ref hu, .ref ho, .int (nI ac)])), (hs, .inl (cI, 64, .inl ai)), (hu, .inl (cU, 512, .inl ut)), (ho, .inl (cO, 64, .inl ol)), (hC, .inr (1, [.ref hn, .ref ha, .ref hk, .int (nI cc)])), (hn, .inl (cN, 100, .inr (.inl cn))), (ha, .inl (cA, 100, .inl ca)), (hk, .inl (cK, 100, .inl cb))] [(cP, .int), (cQ, .int), (cS, .int), (cI, .int), (cU, .int), (cO, .int), (cN, .long), (cA, .int), (cK, .boolean)]) (zt_Q3 (S := Unit) (if zok_P y z then 0 else 1) (fun _ => some (.int (if zr_at rc rp rl y z < rc then ri (zr_at rc rp rl y z) else -1))) (fun (_ : Unit) (t : State) => va_P (dC, dI) vwCl [(hX, .inr (3, [.int wi, .int ma, .ref hR, .ref hT, .ref hC, .int no])), (hR, .inr (2, [.ref hp, .ref hq, .ref hi, .int (nI (if zr_at rc rp rl y z < rc then rc - 1 else rc))])), (hp, .inl (cP, 40, .inl (if zr_at rc rp rl y z < rc then upd rp (zr_at rc rp rl y z) (rp (rc - 1)) else rp))), (hq, .inl (cQ, 40, .inl (if zr_at rc rp rl y z < rc then upd rl (zr_at rc rp rl y z) (rl (rc - 1)) else rl))), (hi, .inl (cS, 40, .inl (if zr_at rc rp rl y z < rc then upd ri (zr_at rc rp rl y z) (ri (rc - 1)) else ri))), (hT, .inr (0, [.ref hs, .ref hu, .ref ho, .int (nI ac)])), (hs, .inl (cI, 64, .inl ai)), (hu, .inl (cU, 512, .inl ut)), (ho, .inl (cO, 64, .inl ol)), (hC, .inr (1, [.ref hn, .ref ha, .ref hk, .int (nI cc)])), (hn, .inl (cN, 100, .inr (.inl cn))), (ha, .inl (cA, 100, .inl ca)), (hk, .inl (cK, 100, .inl cb))] t.heap) (zA [(hX, .inr (3, [.int wi, .int ma, .ref hR, .ref hT, .ref hC, .int no])), (hR, .inr (2, [.ref hp, .ref hq, .ref hi, .int (nI rc)])), (hp, .inl (cP, 40, .inl rp)), (hq, .inl (cQ, 40, .inl rl)), (hi, .inl (cS, 40, .inl ri)), (hT, .inr (0, [.ref hs, .ref hu, .ref ho, .int (nI ac)])), (hs, .inl (cI, 64, .inl ai)), (hu, .inl (cU, 512, .inl ut)), (ho, .inl (cO, 64, .inl ol)), (hC, .inr (1, [.ref hn, .ref ha, .ref hk, .int (nI cc)])), (hn, .inl (cN, 100, .inr (.inl cn))), (ha, .inl (cA, 100, .inl ca)), (hk, .inl (cK, 100, .inl cb))])) 0 0 (zA [(hX, .inr (3, [.int wi, .int ma, .ref hR, .ref hT, .ref hC, .int no])), (hR, .inr (2, [.ref hp, .ref hq, .ref hi, .int (nI rc)])), (hp, .inl (cP, 40, .inl rp)), (hq, .inl (cQ, 40, .inl rl)), (hi, .inl (cS, 40, .inl ri)), (hT, .inr (0, [.ref hs, .ref hu, .ref ho, .int (nI ac)])), (hs, .inl (cI, 64, .inl ai)), (hu, .inl (cU, 512, .inl ut)), (ho, .inl (cO, 64, .inl ol)), (hC, .inr (1, [.ref hn, .ref ha, .ref hk, .int (nI cc)])), (hn, .inl (cN, 100, .inr (.inl cn))), (ha, .inl (cA, 100, .inl ca)), (hk, .inl (cK, 100, .inl cb))]) := by
  refine zt_ofW (cc := b_CD_unroute) (maxL := 4) (ret := (some .int)) (by decide) rfl ?_
  intro p e s m args below meth c s₁ B hml hout hv
  obtain ⟨rfl, ⟨hP, hK⟩, hSt⟩ := hv
  have hx := B.exec
  have hb := B.bytes
  have hr := B.returns
  have hts := atoms_spec (ws := (zw y_CD_unroute b_CD_unroute 4 (some .int))) B.pre
  have htB : ∀ w ∈ BG, w.before ([.ref hX, .int y, .int z] : List Value).toArray s = true := fun w h => hts w (List.mem_cons_of_mem _ h)
  have hown : s.vm.findClass R_CD = some m.cls := findClass_of_methodNamed B.named
  have hlocks := B.notSynchronized
  have htr : e.platform.stackTraces = false := (show e.platform.stackTraces = l.stackTraces by rw [B.admits.platform]).trans hl0
  have CF : CallFix p m c b_CD_unroute 4 s ([.ref hX, .int y, .int z] : List Value).toArray BG R_CD := ⟨hx, hb, hml, hown, htB⟩
  have hP : va_P (dC, dI) vwCl [(hX, .inr (3, [.int wi, .int ma, .ref hR, .ref hT, .ref hC, .int no])), (hR, .inr (2, [.ref hp, .ref hq, .ref hi, .int (nI rc)])), (hp, .inl (cP, 40, .inl rp)), (hq, .inl (cQ, 40, .inl rl)), (hi, .inl (cS, 40, .inl ri)), (hT, .inr (0, [.ref hs, .ref hu, .ref ho, .int (nI ac)])), (hs, .inl (cI, 64, .inl ai)), (hu, .inl (cU, 512, .inl ut)), (ho, .inl (cO, 64, .inl ol)), (hC, .inr (1, [.ref hn, .ref ha, .ref hk, .int (nI cc)])), (hn, .inl (cN, 100, .inr (.inl cn))), (ha, .inl (cA, 100, .inl ca)), (hk, .inl (cK, 100, .inl cb))] s.heap := hP
  have hl := lv_entry [.ref hX, .int y, .int z] (n := 4) (Nat.le_of_ble_eq_true rfl)
  rw [lg_entry_eq]
  generalize (lg_sl [.ref hX, .int y, .int z] ++ List.replicate (4 - (lg_sl [.ref hX, .int y, .int z]).length) Slot.unset).toArray = ls at hl ⊢
  have hl : lv_has ls 4 [(0, .ref hX), (1, .int y), (2, .int z)] := hl
  have hD : va_D (zA [(hX, .inr (3, [.int wi, .int ma, .ref hR, .ref hT, .ref hC, .int no])), (hR, .inr (2, [.ref hp, .ref hq, .ref hi, .int (nI rc)])), (hp, .inl (cP, 40, .inl rp)), (hq, .inl (cQ, 40, .inl rl)), (hi, .inl (cS, 40, .inl ri)), (hT, .inr (0, [.ref hs, .ref hu, .ref ho, .int (nI ac)])), (hs, .inl (cI, 64, .inl ai)), (hu, .inl (cU, 512, .inl ut)), (ho, .inl (cO, 64, .inl ol)), (hC, .inr (1, [.ref hn, .ref ha, .ref hk, .int (nI cc)])), (hn, .inl (cN, 100, .inr (.inl cn))), (ha, .inl (cA, 100, .inl ca)), (hk, .inl (cK, 100, .inl cb))]) [(hX, .inr (3, [.int wi, .int ma, .ref hR, .ref hT, .ref hC, .int no])), (hR, .inr (2, [.ref hp, .ref hq, .ref hi, .int (nI rc)])), (hp, .inl (cP, 40, .inl rp)), (hq, .inl (cQ, 40, .inl rl)), (hi, .inl (cS, 40, .inl ri)), (hT, .inr (0, [.ref hs, .ref hu, .ref ho, .int (nI ac)])), (hs, .inl (cI, 64, .inl ai)), (hu, .inl (cU, 512, .inl ut)), (ho, .inl (cO, 64, .inl ol)), (hC, .inr (1, [.ref hn, .ref ha, .ref hk, .int (nI cc)])), (hn, .inl (cN, 100, .inr (.inl cn))), (ha, .inl (cA, 100, .inl ca)), (hk, .inl (cK, 100, .inl cb))] := zA_of hD0
  have hS : va_S (zA [(hX, .inr (3, [.int wi, .int ma, .ref hR, .ref hT, .ref hC, .int no])), (hR, .inr (2, [.ref hp, .ref hq, .ref hi, .int (nI rc)])), (hp, .inl (cP, 40, .inl rp)), (hq, .inl (cQ, 40, .inl rl)), (hi, .inl (cS, 40, .inl ri)), (hT, .inr (0, [.ref hs, .ref hu, .ref ho, .int (nI ac)])), (hs, .inl (cI, 64, .inl ai)), (hu, .inl (cU, 512, .inl ut)), (ho, .inl (cO, 64, .inl ol)), (hC, .inr (1, [.ref hn, .ref ha, .ref hk, .int (nI cc)])), (hn, .inl (cN, 100, .inr (.inl cn))), (ha, .inl (cA, 100, .inl ca)), (hk, .inl (cK, 100, .inl cb))]) s.heap s.heap [] := va_S.rf
  generalize zA [(hX, .inr (3, [.int wi, .int ma, .ref hR, .ref hT, .ref hC, .int no])), (hR, .inr (2, [.ref hp, .ref hq, .ref hi, .int (nI rc)])), (hp, .inl (cP, 40, .inl rp)), (hq, .inl (cQ, 40, .inl rl)), (hi, .inl (cS, 40, .inl ri)), (hT, .inr (0, [.ref hs, .ref hu, .ref ho, .int (nI ac)])), (hs, .inl (cI, 64, .inl ai)), (hu, .inl (cU, 512, .inl ut)), (ho, .inl (cO, 64, .inl ol)), (hC, .inr (1, [.ref hn, .ref ha, .ref hk, .int (nI cc)])), (hn, .inl (cN, 100, .inr (.inl cn))), (ha, .inl (cA, 100, .inl ca)), (hk, .inl (cK, 100, .inl cb))] = A at hD hS ⊢
  have hle := zr_le rc rp rl y z
  refine lv_iload_n hx hb d_CD_unroute_0 rfl (lv_at hl 1 rfl) ?_
  refine lv_iload_n hx hb d_CD_unroute_1 rfl (lv_at hl 2 rfl) ?_
  refine zt_callv (zr_TS (n := 2) (As := [.int y, .int z]) (rest := []) CF (c_CD_requirePrefix l dC dI hl0 y z) mc_CD_requirePrefix lk_CD_53 mt_CD_requirePrefix ni_CD (by decide +kernel) ⟨Nat.le_of_ble_eq_true rfl, Nat.le_of_ble_eq_true rfl⟩ (hP.sub (ws' := []) [] rfl) (hK.sub (tys' := []) [] rfl) hSt (fun _ _ => rfl) rfl rfl hl.1 rfl (lv_room (Nat.le_of_ble_eq_true rfl)) d_CD_unroute_2 ⟨Nat.le_of_ble_eq_true rfl, Nat.le_of_ble_eq_true rfl⟩) (fun hPx => ?_) (fun x H1 hno hth => zt_leave (fun t ht hW => Or.inr (Or.inl ⟨by rw [if_neg hno], x, rfl, hth.to ht hW⟩)) (fun _ h => by cases h) (fun z hz => hout z hz _) hlocks (Nat.le_of_ble_eq_true rfl) (Nat.le_of_ble_eq_true rfl))
  refine lv_aload_n hx hb d_CD_unroute_5 rfl (lv_at hl 0 rfl) ?_
  refine va_get (D := (dC, dI)) (ci := 3) (v := .ref hR) (C := R_CD) (T := T_CD) (N := 6) hx hb htB i_CD hown hK hP 0 rfl rfl 2 (by decide) (htB _ lf_CD_28) (fun _ h9 => h9) rfl d_CD_unroute_6 ?_
  refine lv_iload_n hx hb d_CD_unroute_9 rfl (lv_at hl 1 rfl) ?_
  refine lv_i2l (v := y.toInt64) hx hb d_CD_unroute_10 rfl ?_
  refine lv_iload_n hx hb d_CD_unroute_11 rfl (lv_at hl 2 rfl) ?_
  refine vp_callSi (va_Run.run (zr_V (n := 2) (As := [.long y.toInt64, .int z]) (rest := []) CF (c_RT_find l dC dI hR hp hq hi cP cQ cS rc rp rl ri hrc y.toInt64 z) mc_RT_find lk_CD_57 mi_RT_find ms_RT_find ni_RT rfl rfl (by decide +kernel) ⟨Nat.le_of_ble_eq_true rfl, Nat.le_of_ble_eq_true rfl⟩ (hP.sub (ws' := [(hR, .inr (2, [.ref hp, .ref hq, .ref hi, .int (nI rc)])), (hp, .inl (cP, 40, .inl rp)), (hq, .inl (cQ, 40, .inl rl)), (hi, .inl (cS, 40, .inl ri))]) [1, 2, 3, 4] rfl) (hK.sub (tys' := [(cP, .int), (cQ, .int), (cS, .int)]) [0, 1, 2] rfl) rfl rfl rfl hl.1 rfl (lv_room (Nat.le_of_ble_eq_true rfl)) d_CD_unroute_12 ⟨Nat.zero_le _, Nat.zero_le _⟩)) (fun r_12 h_12 => ?_)
  subst h_12
  refine lv_istore_n (lv' := [(3, .int (zf_r (fun j => decide (rl j = z ∧ (rp j).toInt64 = y.toInt64)) rc)), (0, .ref hX), (1, .int y), (2, .int z)]) hx hb d_CD_unroute_15 rfl hl (by decide) rfl (fun ls hl => ?_)
  refine lv_iload_n hx hb d_CD_unroute_16 rfl (lv_at hl 0 rfl) ?_
  refine lv_iconst (v := (-1)) hx hb d_CD_unroute_17 (by decide) ?_
  refine lv_icmp_ne (tgt := 25) hx hb d_CD_unroute_18 (by decide) (fun c_18 => ?_) (fun c_18 => ?_)
  · have hix : zr_at rc rp rl y z < rc := Classical.byContradiction fun h => c_18 (if_neg h)
    refine lv_aload_n hx hb d_CD_unroute_25 rfl (lv_at hl 1 rfl) ?_
    refine va_get (D := (dC, dI)) (ci := 3) (v := .ref hR) (C := R_CD) (T := T_CD) (N := 6) hx hb htB i_CD hown hK hP 0 rfl rfl 2 (by decide) (htB _ lf_CD_28) (fun _ h9 => h9) rfl d_CD_unroute_26 ?_
    refine lv_iload_n hx hb d_CD_unroute_29 rfl (lv_at hl 0 rfl) ?_
    rw [show (zf_r (fun j => decide (rl j = z ∧ (rp j).toInt64 = y.toInt64)) rc : Int32) = nI (zr_at rc rp rl y z) from if_pos hix]
    refine va_calli (zr_V (n := 1) (As := [.int (nI (zr_at rc rp rl y z))]) (rest := []) CF (c_RT_remove l dC dI hR hp hq hi cP cQ cS rc rp rl ri hrc (zr_at rc rp rl y z) hix (hri _ hix) ((hD.sub (ws' := [(hR, .inr (2, [.ref hp, .ref hq, .ref hi, .int (nI rc)])), (hp, .inl (cP, 40, .inl rp)), (hq, .inl (cQ, 40, .inl rl)), (hi, .inl (cS, 40, .inl ri))]) [1, 2, 3, 4] (by decide) rfl).weaken (fun _ _ _ _ => trivial))) mc_RT_remove lk_CD_79 mi_RT_remove ms_RT_remove ni_RT rfl rfl (by decide +kernel) ⟨Nat.le_of_ble_eq_true rfl, Nat.le_of_ble_eq_true rfl⟩ (hP.sub (ws' := [(hR, .inr (2, [.ref hp, .ref hq, .ref hi, .int (nI rc)])), (hp, .inl (cP, 40, .inl rp)), (hq, .inl (cQ, 40, .inl rl)), (hi, .inl (cS, 40, .inl ri))]) [1, 2, 3, 4] rfl) (hK.sub (tys' := [(cP, .int), (cQ, .int), (cS, .int)]) [0, 1, 2] rfl) rfl rfl rfl hl.1 rfl (lv_room (Nat.le_of_ble_eq_true rfl)) d_CD_unroute_30 ⟨Nat.zero_le _, Nat.zero_le _⟩) hS (fun q _ h => zA_sub hD (wc := [(hR, .inr (2, [.ref hp, .ref hq, .ref hi, .int (nI rc)])), (hp, .inl (cP, 40, .inl rp)), (hq, .inl (cQ, 40, .inl rl)), (hi, .inl (cS, 40, .inl ri))]) [1, 2, 3, 4] rfl h) (fun q h => zA_sub hD (wc := [(hR, .inr (2, [.ref hp, .ref hq, .ref hi, .int (nI rc)])), (hp, .inl (cP, 40, .inl rp)), (hq, .inl (cQ, 40, .inl rl)), (hi, .inl (cS, 40, .inl ri))]) [1, 2, 3, 4] rfl h) (fun r_30 u t H1 locs1 ht hvm hw_30 hB hz hk9 hS => ?_)
    have hP1 : va_P (dC, dI) vwCl [(hR, .inr (2, [.ref hp, .ref hq, .ref hi, .int (nI (rc - 1))])), (hp, .inl (cP, 40, .inl (upd rp (zr_at rc rp rl y z) (rp (rc - 1))))), (hq, .inl (cQ, 40, .inl (upd rl (zr_at rc rp rl y z) (rl (rc - 1))))), (hi, .inl (cS, 40, .inl (upd ri (zr_at rc rp rl y z) (ri (rc - 1)))))] H1 := by
      have h9 : va_P (dC, dI) vwCl [(hR, .inr (2, [.ref hp, .ref hq, .ref hi, .int (nI (rc - 1))])), (hp, .inl (cP, 40, .inl (upd rp (zr_at rc rp rl y z) (rp (rc - 1))))), (hq, .inl (cQ, 40, .inl (upd rl (zr_at rc rp rl y z) (rl (rc - 1))))), (hi, .inl (cS, 40, .inl (upd ri (zr_at rc rp rl y z) (ri (rc - 1)))))] t.heap := hB
      rw [ht] at h9
      exact h9
    have hP : va_P (dC, dI) vwCl [(hX, .inr (3, [.int wi, .int ma, .ref hR, .ref hT, .ref hC, .int no])), (hR, .inr (2, [.ref hp, .ref hq, .ref hi, .int (nI (rc - 1))])), (hp, .inl (cP, 40, .inl (upd rp (zr_at rc rp rl y z) (rp (rc - 1))))), (hq, .inl (cQ, 40, .inl (upd rl (zr_at rc rp rl y z) (rl (rc - 1))))), (hi, .inl (cS, 40, .inl (upd ri (zr_at rc rp rl y z) (ri (rc - 1))))), (hT, .inr (0, [.ref hs, .ref hu, .ref ho, .int (nI ac)])), (hs, .inl (cI, 64, .inl ai)), (hu, .inl (cU, 512, .inl ut)), (ho, .inl (cO, 64, .inl ol)), (hC, .inr (1, [.ref hn, .ref ha, .ref hk, .int (nI cc)])), (hn, .inl (cN, 100, .inr (.inl cn))), (ha, .inl (cA, 100, .inl ca)), (hk, .inl (cK, 100, .inl cb))] H1 := zj (wc := [(hR, .inr (2, [.ref hp, .ref hq, .ref hi, .int (nI rc)])), (hp, .inl (cP, 40, .inl rp)), (hq, .inl (cQ, 40, .inl rl)), (hi, .inl (cS, 40, .inl ri))]) hP hD [1, 2, 3, 4] rfl hP1 hk9 rfl rfl
    have hD : va_D A [(hX, .inr (3, [.int wi, .int ma, .ref hR, .ref hT, .ref hC, .int no])), (hR, .inr (2, [.ref hp, .ref hq, .ref hi, .int (nI (rc - 1))])), (hp, .inl (cP, 40, .inl (upd rp (zr_at rc rp rl y z) (rp (rc - 1))))), (hq, .inl (cQ, 40, .inl (upd rl (zr_at rc rp rl y z) (rl (rc - 1))))), (hi, .inl (cS, 40, .inl (upd ri (zr_at rc rp rl y z) (ri (rc - 1))))), (hT, .inr (0, [.ref hs, .ref hu, .ref ho, .int (nI ac)])), (hs, .inl (cI, 64, .inl ai)), (hu, .inl (cU, 512, .inl ut)), (ho, .inl (cO, 64, .inl ol)), (hC, .inr (1, [.ref hn, .ref ha, .ref hk, .int (nI cc)])), (hn, .inl (cN, 100, .inr (.inl cn))), (ha, .inl (cA, 100, .inl ca)), (hk, .inl (cK, 100, .inl cb))] := zD_of (ws := [(hX, .inr (3, [.int wi, .int ma, .ref hR, .ref hT, .ref hC, .int no])), (hR, .inr (2, [.ref hp, .ref hq, .ref hi, .int (nI rc)])), (hp, .inl (cP, 40, .inl rp)), (hq, .inl (cQ, 40, .inl rl)), (hi, .inl (cS, 40, .inl ri)), (hT, .inr (0, [.ref hs, .ref hu, .ref ho, .int (nI ac)])), (hs, .inl (cI, 64, .inl ai)), (hu, .inl (cU, 512, .inl ut)), (ho, .inl (cO, 64, .inl ol)), (hC, .inr (1, [.ref hn, .ref ha, .ref hk, .int (nI cc)])), (hn, .inl (cN, 100, .inr (.inl cn))), (ha, .inl (cA, 100, .inl ca)), (hk, .inl (cK, 100, .inl cb))]) rfl hD
    generalize H1 = H at hP hS ⊢
    subst hw_30
    exact zt_ret (W.iret (v := ri (zr_at rc rp rl y z)) hx hb hr (fun t ht hW => Or.inl ⟨by rw [if_pos hPx], (), by rw [if_pos hix], by show va_P _ _ _ t.heap; rw [ht]; rw [if_pos hix, if_pos hix, if_pos hix, if_pos hix]; exact hP, hS.F ht⟩) hS.2.2 d_CD_unroute_33)
  · have hix : ¬ zr_at rc rp rl y z < rc := fun h => zf_m1 (show zr_at rc rp rl y z < 2 ^ 31 by omega) ((if_pos h).symm.trans c_18)
    refine lv_iconst (v := (-1)) hx hb d_CD_unroute_21 (by decide) ?_
    refine lv_goto (tgt := 33) hx hb d_CD_unroute_22 (by decide) ?_
    exact zt_ret (W.iret (v := -1) hx hb hr (fun t ht hW => Or.inl ⟨by rw [if_pos hPx], (), by rw [if_neg hix], by show va_P _ _ _ t.heap; rw [ht]; rw [if_neg hix, if_neg hix, if_neg hix, if_neg hix]; exact hP, hS.F ht⟩) hS.2.2 d_CD_unroute_33)
set_option maxHeartbeats 4000000 in
set_option maxRecDepth 100000 in
theorem c_CD_routes (l : Launch) (dC : Nat → ClassId) (dI : Nat → Nat → Nat) (hX : Nat) (wi ma no : Int32) (hT hC : Nat) (hR hp hq hi : Nat) (cP cQ cS : ClassId) (rc : Nat) (rp rl ri : Nat → Int32) (hrc : rc ≤ 40) : Met l y_CD_routes (zw y_CD_routes b_CD_routes 1 (some .int)) ({ frames := 0, cells := 0, slots := 0, locals := 0 }) (zPre [.ref hX] (dC, dI) [(hX, .inr (3, [.int wi, .int ma, .ref hR, .ref hT, .ref hC, .int no])), (hR, .inr (2, [.ref hp, .ref hq, .ref hi, .int (nI rc)])), (hp, .inl (cP, 40, .inl rp)), (hq, .inl (cQ, 40, .inl rl)), (hi, .inl (cS, 40, .inl ri))] [(cP, .int), (cQ, .int), (cS, .int)]) (vp_Si (fun r => r = nI rc)) 0 0 (fun _ => False) := by
  refine Met.ofW (cc := b_CD_routes) (maxL := 1) (ret := (some .int)) (by decide) rfl ?_
  intro p e s m args below meth c s₁ B hml hv
  obtain ⟨rfl, hP, hK⟩ := hv
  have hx := B.exec
  have hb := B.bytes
  have hr := B.returns
  have hts := atoms_spec (ws := (zw y_CD_routes b_CD_routes 1 (some .int))) B.pre
  have htB : ∀ w ∈ BG, w.before ([.ref hX] : List Value).toArray s = true := fun w h => hts w (List.mem_cons_of_mem _ h)
  have hown : s.vm.findClass R_CD = some m.cls := findClass_of_methodNamed B.named
  have hlocks := B.notSynchronized
  have CF : CallFix p m c b_CD_routes 1 s ([.ref hX] : List Value).toArray BG R_CD := ⟨hx, hb, hml, hown, htB⟩
  have hP : va_P (dC, dI) vwCl [(hX, .inr (3, [.int wi, .int ma, .ref hR, .ref hT, .ref hC, .int no])), (hR, .inr (2, [.ref hp, .ref hq, .ref hi, .int (nI rc)])), (hp, .inl (cP, 40, .inl rp)), (hq, .inl (cQ, 40, .inl rl)), (hi, .inl (cS, 40, .inl ri))] s.heap := hP
  have hl := lv_entry [.ref hX] (n := 1) (Nat.le_of_ble_eq_true rfl)
  rw [lg_entry_eq]
  generalize (lg_sl [.ref hX] ++ List.replicate (1 - (lg_sl [.ref hX]).length) Slot.unset).toArray = ls at hl ⊢
  have hl : lv_has ls 1 [(0, .ref hX)] := hl
  refine lv_aload_n hx hb d_CD_routes_0 rfl (lv_at hl 0 rfl) ?_
  refine va_get (D := (dC, dI)) (ci := 3) (v := .ref hR) (C := R_CD) (T := T_CD) (N := 6) hx hb htB i_CD hown hK hP 0 rfl rfl 2 (by decide) (htB _ lf_CD_28) (fun _ h9 => h9) rfl d_CD_routes_1 ?_
  refine va_getN (D := (dC, dI)) (ci := 2) (v := .int (nI rc)) (C := R_RT) (T := T_RT) (N := 4) hx hb htB i_RT hown hK hP 1 rfl rfl 3 (by decide) (htB _ lfN_CD_83) (fun _ h9 => h9) rfl d_CD_routes_4 ?_
  exact W.iret (v := nI rc) hx hb hr (fun t ht hW => ⟨_, rfl, rfl, ht⟩) (fun _ h => by cases h) d_CD_routes_7
set_option maxHeartbeats 4000000 in
set_option maxRecDepth 100000 in
theorem c_CD_account (l : Launch) (dC : Nat → ClassId) (dI : Nat → Nat → Nat) (hl0 : l.stackTraces = false) (hX : Nat) (wi ma no : Int32) (hR hp hq hi : Nat) (cP cQ cS : ClassId) (rc : Nat) (rp rl ri : Nat → Int32) (hrc : rc ≤ 40) (hT hs hu ho : Nat) (cI cU cO : ClassId) (ac : Nat) (ai ut ol : Nat → Int32) (hac : ac ≤ 64) (hC hn ha hk : Nat) (cN cA cK : ClassId) (cc : Nat) (cn : Nat → Int64) (ca cb : Nat → Int32) (hcc : cc ≤ 100) (x : Int32) (hD0 : va_D (fun _ => True) [(hX, .inr (3, [.int wi, .int ma, .ref hR, .ref hT, .ref hC, .int no])), (hR, .inr (2, [.ref hp, .ref hq, .ref hi, .int (nI rc)])), (hp, .inl (cP, 40, .inl rp)), (hq, .inl (cQ, 40, .inl rl)), (hi, .inl (cS, 40, .inl ri)), (hT, .inr (0, [.ref hs, .ref hu, .ref ho, .int (nI ac)])), (hs, .inl (cI, 64, .inl ai)), (hu, .inl (cU, 512, .inl ut)), (ho, .inl (cO, 64, .inl ol)), (hC, .inr (1, [.ref hn, .ref ha, .ref hk, .int (nI cc)])), (hn, .inl (cN, 100, .inr (.inl cn))), (ha, .inl (cA, 100, .inl ca)), (hk, .inl (cK, 100, .inl cb))]) : MetT l y_CD_account (zw y_CD_account b_CD_account 2 (some .int)) ({ frames := 7, cells := 1, slots := 6, locals := 102 }) (zPreT [.ref hX, .int x] (dC, dI) [(hX, .inr (3, [.int wi, .int ma, .ref hR, .ref hT, .ref hC, .int no])), (hR, .inr (2, [.ref hp, .ref hq, .ref hi, .int (nI rc)])), (hp, .inl (cP, 40, .inl rp)), (hq, .inl (cQ, 40, .inl rl)), (hi, .inl (cS, 40, .inl ri)), (hT, .inr (0, [.ref hs, .ref hu, .ref ho, .int (nI ac)])), (hs, .inl (cI, 64, .inl ai)), (hu, .inl (cU, 512, .inl ut)), (ho, .inl (cO, 64, .inl ol)), (hC, .inr (1, [.ref hn, .ref ha, .ref hk, .int (nI cc)])), (hn, .inl (cN, 100, .inr (.inl cn))), (ha, .inl (cA, 100, .inl ca)), (hk, .inl (cK, 100, .inl cb))] [(cP, .int), (cQ, .int), (cS, .int), (cI, .int), (cU, .int), (cO, .int), (cN, .long), (cA, .int), (cK, .boolean)]) (zt_Q3 (S := Unit) (if (0 ≤ x.toInt ∧ x.toInt < 6) then (if ac < 64 then 0 else 2) else 1) (fun _ => some (.int (nI ac))) (fun (_ : Unit) (t : State) => va_P (dC, dI) vwCl [(hX, .inr (3, [.int wi, .int ma, .ref hR, .ref hT, .ref hC, .int no])), (hR, .inr (2, [.ref hp, .ref hq, .ref hi, .int (nI rc)])), (hp, .inl (cP, 40, .inl rp)), (hq, .inl (cQ, 40, .inl rl)), (hi, .inl (cS, 40, .inl ri)), (hT, .inr (0, [.ref hs, .ref hu, .ref ho, .int (nI (ac + 1))])), (hs, .inl (cI, 64, .inl (upd ai ac x))), (hu, .inl (cU, 512, .inl ut)), (ho, .inl (cO, 64, .inl ol)), (hC, .inr (1, [.ref hn, .ref ha, .ref hk, .int (nI cc)])), (hn, .inl (cN, 100, .inr (.inl cn))), (ha, .inl (cA, 100, .inl ca)), (hk, .inl (cK, 100, .inl cb))] t.heap) (zA [(hX, .inr (3, [.int wi, .int ma, .ref hR, .ref hT, .ref hC, .int no])), (hR, .inr (2, [.ref hp, .ref hq, .ref hi, .int (nI rc)])), (hp, .inl (cP, 40, .inl rp)), (hq, .inl (cQ, 40, .inl rl)), (hi, .inl (cS, 40, .inl ri)), (hT, .inr (0, [.ref hs, .ref hu, .ref ho, .int (nI ac)])), (hs, .inl (cI, 64, .inl ai)), (hu, .inl (cU, 512, .inl ut)), (ho, .inl (cO, 64, .inl ol)), (hC, .inr (1, [.ref hn, .ref ha, .ref hk, .int (nI cc)])), (hn, .inl (cN, 100, .inr (.inl cn))), (ha, .inl (cA, 100, .inl ca)), (hk, .inl (cK, 100, .inl cb))])) 0 0 (zA [(hX, .inr (3, [.int wi, .int ma, .ref hR, .ref hT, .ref hC, .int no])), (hR, .inr (2, [.ref hp, .ref hq, .ref hi, .int (nI rc)])), (hp, .inl (cP, 40, .inl rp)), (hq, .inl (cQ, 40, .inl rl)), (hi, .inl (cS, 40, .inl ri)), (hT, .inr (0, [.ref hs, .ref hu, .ref ho, .int (nI ac)])), (hs, .inl (cI, 64, .inl ai)), (hu, .inl (cU, 512, .inl ut)), (ho, .inl (cO, 64, .inl ol)), (hC, .inr (1, [.ref hn, .ref ha, .ref hk, .int (nI cc)])), (hn, .inl (cN, 100, .inr (.inl cn))), (ha, .inl (cA, 100, .inl ca)), (hk, .inl (cK, 100, .inl cb))]) := by
  refine zt_ofW (cc := b_CD_account) (maxL := 2) (ret := (some .int)) (by decide) rfl ?_
  intro p e s m args below meth c s₁ B hml hout hv
  obtain ⟨rfl, ⟨hP, hK⟩, hSt⟩ := hv
  have hx := B.exec
  have hb := B.bytes
  have hr := B.returns
  have hts := atoms_spec (ws := (zw y_CD_account b_CD_account 2 (some .int))) B.pre
  have htB : ∀ w ∈ BG, w.before ([.ref hX, .int x] : List Value).toArray s = true := fun w h => hts w (List.mem_cons_of_mem _ h)
  have hown : s.vm.findClass R_CD = some m.cls := findClass_of_methodNamed B.named
  have hlocks := B.notSynchronized
  have htr : e.platform.stackTraces = false := (show e.platform.stackTraces = l.stackTraces by rw [B.admits.platform]).trans hl0
  have CF : CallFix p m c b_CD_account 2 s ([.ref hX, .int x] : List Value).toArray BG R_CD := ⟨hx, hb, hml, hown, htB⟩
  have hP : va_P (dC, dI) vwCl [(hX, .inr (3, [.int wi, .int ma, .ref hR, .ref hT, .ref hC, .int no])), (hR, .inr (2, [.ref hp, .ref hq, .ref hi, .int (nI rc)])), (hp, .inl (cP, 40, .inl rp)), (hq, .inl (cQ, 40, .inl rl)), (hi, .inl (cS, 40, .inl ri)), (hT, .inr (0, [.ref hs, .ref hu, .ref ho, .int (nI ac)])), (hs, .inl (cI, 64, .inl ai)), (hu, .inl (cU, 512, .inl ut)), (ho, .inl (cO, 64, .inl ol)), (hC, .inr (1, [.ref hn, .ref ha, .ref hk, .int (nI cc)])), (hn, .inl (cN, 100, .inr (.inl cn))), (ha, .inl (cA, 100, .inl ca)), (hk, .inl (cK, 100, .inl cb))] s.heap := hP
  have hl := lv_entry [.ref hX, .int x] (n := 2) (Nat.le_of_ble_eq_true rfl)
  rw [lg_entry_eq]
  generalize (lg_sl [.ref hX, .int x] ++ List.replicate (2 - (lg_sl [.ref hX, .int x]).length) Slot.unset).toArray = ls at hl ⊢
  have hl : lv_has ls 2 [(0, .ref hX), (1, .int x)] := hl
  have hD : va_D (zA [(hX, .inr (3, [.int wi, .int ma, .ref hR, .ref hT, .ref hC, .int no])), (hR, .inr (2, [.ref hp, .ref hq, .ref hi, .int (nI rc)])), (hp, .inl (cP, 40, .inl rp)), (hq, .inl (cQ, 40, .inl rl)), (hi, .inl (cS, 40, .inl ri)), (hT, .inr (0, [.ref hs, .ref hu, .ref ho, .int (nI ac)])), (hs, .inl (cI, 64, .inl ai)), (hu, .inl (cU, 512, .inl ut)), (ho, .inl (cO, 64, .inl ol)), (hC, .inr (1, [.ref hn, .ref ha, .ref hk, .int (nI cc)])), (hn, .inl (cN, 100, .inr (.inl cn))), (ha, .inl (cA, 100, .inl ca)), (hk, .inl (cK, 100, .inl cb))]) [(hX, .inr (3, [.int wi, .int ma, .ref hR, .ref hT, .ref hC, .int no])), (hR, .inr (2, [.ref hp, .ref hq, .ref hi, .int (nI rc)])), (hp, .inl (cP, 40, .inl rp)), (hq, .inl (cQ, 40, .inl rl)), (hi, .inl (cS, 40, .inl ri)), (hT, .inr (0, [.ref hs, .ref hu, .ref ho, .int (nI ac)])), (hs, .inl (cI, 64, .inl ai)), (hu, .inl (cU, 512, .inl ut)), (ho, .inl (cO, 64, .inl ol)), (hC, .inr (1, [.ref hn, .ref ha, .ref hk, .int (nI cc)])), (hn, .inl (cN, 100, .inr (.inl cn))), (ha, .inl (cA, 100, .inl ca)), (hk, .inl (cK, 100, .inl cb))] := zA_of hD0
  have hS : va_S (zA [(hX, .inr (3, [.int wi, .int ma, .ref hR, .ref hT, .ref hC, .int no])), (hR, .inr (2, [.ref hp, .ref hq, .ref hi, .int (nI rc)])), (hp, .inl (cP, 40, .inl rp)), (hq, .inl (cQ, 40, .inl rl)), (hi, .inl (cS, 40, .inl ri)), (hT, .inr (0, [.ref hs, .ref hu, .ref ho, .int (nI ac)])), (hs, .inl (cI, 64, .inl ai)), (hu, .inl (cU, 512, .inl ut)), (ho, .inl (cO, 64, .inl ol)), (hC, .inr (1, [.ref hn, .ref ha, .ref hk, .int (nI cc)])), (hn, .inl (cN, 100, .inr (.inl cn))), (ha, .inl (cA, 100, .inl ca)), (hk, .inl (cK, 100, .inl cb))]) s.heap s.heap [] := va_S.rf
  generalize zA [(hX, .inr (3, [.int wi, .int ma, .ref hR, .ref hT, .ref hC, .int no])), (hR, .inr (2, [.ref hp, .ref hq, .ref hi, .int (nI rc)])), (hp, .inl (cP, 40, .inl rp)), (hq, .inl (cQ, 40, .inl rl)), (hi, .inl (cS, 40, .inl ri)), (hT, .inr (0, [.ref hs, .ref hu, .ref ho, .int (nI ac)])), (hs, .inl (cI, 64, .inl ai)), (hu, .inl (cU, 512, .inl ut)), (ho, .inl (cO, 64, .inl ol)), (hC, .inr (1, [.ref hn, .ref ha, .ref hk, .int (nI cc)])), (hn, .inl (cN, 100, .inr (.inl cn))), (ha, .inl (cA, 100, .inl ca)), (hk, .inl (cK, 100, .inl cb))] = A at hD hS ⊢
  refine lv_iload_n hx hb d_CD_account_0 rfl (lv_at hl 1 rfl) ?_
  refine zt_callv (zr_TS (n := 1) (As := [.int x]) (rest := []) CF (c_CD_requireIssuer l dC dI hl0 x) mc_CD_requireIssuer lk_CD_49 mt_CD_requireIssuer ni_CD (by decide +kernel) ⟨Nat.le_of_ble_eq_true rfl, Nat.le_of_ble_eq_true rfl⟩ (hP.sub (ws' := []) [] rfl) (hK.sub (tys' := []) [] rfl) hSt (fun _ _ => rfl) rfl rfl hl.1 rfl (lv_room (Nat.le_of_ble_eq_true rfl)) d_CD_account_1 ⟨Nat.le_of_ble_eq_true rfl, Nat.le_of_ble_eq_true rfl⟩) (fun hI => ?_) (fun x H1 hno hth => zt_leave (fun t ht hW => Or.inr (Or.inl ⟨by rw [if_neg hno], x, rfl, hth.to ht hW⟩)) (fun _ h => by cases h) (fun z hz => hout z hz _) hlocks (Nat.le_of_ble_eq_true rfl) (Nat.le_of_ble_eq_true rfl))
  refine lv_aload_n hx hb d_CD_account_4 rfl (lv_at hl 0 rfl) ?_
  refine va_get (D := (dC, dI)) (ci := 3) (v := .ref hT) (C := R_CD) (T := T_CD) (N := 6) hx hb htB i_CD hown hK hP 0 rfl rfl 3 (by decide) (htB _ lf_CD_35) (fun _ h9 => h9) rfl d_CD_account_5 ?_
  refine vp_callSi (va_Run.run (zr_V (n := 0) (As := []) (rest := []) CF (c_AT_isFull l dC dI hT hs hu ho cI cU cO ac ai ut ol hac) mc_AT_isFull lk_CD_86 mi_AT_isFull ms_AT_isFull ni_AT rfl rfl (by decide +kernel) ⟨Nat.le_of_ble_eq_true rfl, Nat.le_of_ble_eq_true rfl⟩ (hP.sub (ws' := [(hT, .inr (0, [.ref hs, .ref hu, .ref ho, .int (nI ac)])), (hs, .inl (cI, 64, .inl ai)), (hu, .inl (cU, 512, .inl ut)), (ho, .inl (cO, 64, .inl ol))]) [5, 6, 7, 8] rfl) (hK.sub (tys' := [(cI, .int), (cU, .int), (cO, .int)]) [3, 4, 5] rfl) rfl rfl rfl hl.1 rfl (lv_room (Nat.le_of_ble_eq_true rfl)) d_CD_account_8 ⟨Nat.zero_le _, Nat.zero_le _⟩)) (fun r_8 h_8 => ?_)
  refine lv_if_eq (tgt := 24) hx hb d_CD_account_11 (by decide) (fun c_11 => ?_) (fun c_11 => ?_)
  · have h64 : ac < 64 := Nat.not_le.mp (fun h => by rw [h_8, if_pos h] at c_11; exact absurd c_11 (by decide))
    refine lv_aload_n hx hb d_CD_account_24 rfl (lv_at hl 0 rfl) ?_
    refine va_get (D := (dC, dI)) (ci := 3) (v := .ref hT) (C := R_CD) (T := T_CD) (N := 6) hx hb htB i_CD hown hK hP 0 rfl rfl 3 (by decide) (htB _ lf_CD_35) (fun _ h9 => h9) rfl d_CD_account_25 ?_
    refine lv_iload_n hx hb d_CD_account_28 rfl (lv_at hl 1 rfl) ?_
    refine va_calli (zr_V (n := 1) (As := [.int x]) (rest := []) CF (c_AT_add l dC dI hT hs hu ho cI cU cO ac ai ut ol hac h64 x ((hD.sub (ws' := [(hT, .inr (0, [.ref hs, .ref hu, .ref ho, .int (nI ac)])), (hs, .inl (cI, 64, .inl ai)), (hu, .inl (cU, 512, .inl ut)), (ho, .inl (cO, 64, .inl ol))]) [5, 6, 7, 8] (by decide) rfl).weaken (fun _ _ _ _ => trivial))) mc_AT_add lk_CD_89 mi_AT_add ms_AT_add ni_AT rfl rfl (by decide +kernel) ⟨Nat.le_of_ble_eq_true rfl, Nat.le_of_ble_eq_true rfl⟩ (hP.sub (ws' := [(hT, .inr (0, [.ref hs, .ref hu, .ref ho, .int (nI ac)])), (hs, .inl (cI, 64, .inl ai)), (hu, .inl (cU, 512, .inl ut)), (ho, .inl (cO, 64, .inl ol))]) [5, 6, 7, 8] rfl) (hK.sub (tys' := [(cI, .int), (cU, .int), (cO, .int)]) [3, 4, 5] rfl) rfl rfl rfl hl.1 rfl (lv_room (Nat.le_of_ble_eq_true rfl)) d_CD_account_29 ⟨Nat.zero_le _, Nat.zero_le _⟩) hS (fun q _ h => zA_sub hD (wc := [(hT, .inr (0, [.ref hs, .ref hu, .ref ho, .int (nI ac)])), (hs, .inl (cI, 64, .inl ai)), (hu, .inl (cU, 512, .inl ut)), (ho, .inl (cO, 64, .inl ol))]) [5, 6, 7, 8] rfl h) (fun q h => zA_sub hD (wc := [(hT, .inr (0, [.ref hs, .ref hu, .ref ho, .int (nI ac)])), (hs, .inl (cI, 64, .inl ai)), (hu, .inl (cU, 512, .inl ut)), (ho, .inl (cO, 64, .inl ol))]) [5, 6, 7, 8] rfl h) (fun r_29 u t H1 locs1 ht hvm hw_29 hB hz hk9 hS => ?_)
    have hP1 : va_P (dC, dI) vwCl [(hT, .inr (0, [.ref hs, .ref hu, .ref ho, .int (nI (ac + 1))])), (hs, .inl (cI, 64, .inl (upd ai ac x))), (hu, .inl (cU, 512, .inl ut)), (ho, .inl (cO, 64, .inl ol))] H1 := by
      have h9 : va_P (dC, dI) vwCl [(hT, .inr (0, [.ref hs, .ref hu, .ref ho, .int (nI (ac + 1))])), (hs, .inl (cI, 64, .inl (upd ai ac x))), (hu, .inl (cU, 512, .inl ut)), (ho, .inl (cO, 64, .inl ol))] t.heap := hB
      rw [ht] at h9
      exact h9
    have hP : va_P (dC, dI) vwCl [(hX, .inr (3, [.int wi, .int ma, .ref hR, .ref hT, .ref hC, .int no])), (hR, .inr (2, [.ref hp, .ref hq, .ref hi, .int (nI rc)])), (hp, .inl (cP, 40, .inl rp)), (hq, .inl (cQ, 40, .inl rl)), (hi, .inl (cS, 40, .inl ri)), (hT, .inr (0, [.ref hs, .ref hu, .ref ho, .int (nI (ac + 1))])), (hs, .inl (cI, 64, .inl (upd ai ac x))), (hu, .inl (cU, 512, .inl ut)), (ho, .inl (cO, 64, .inl ol)), (hC, .inr (1, [.ref hn, .ref ha, .ref hk, .int (nI cc)])), (hn, .inl (cN, 100, .inr (.inl cn))), (ha, .inl (cA, 100, .inl ca)), (hk, .inl (cK, 100, .inl cb))] H1 := zj (wc := [(hT, .inr (0, [.ref hs, .ref hu, .ref ho, .int (nI ac)])), (hs, .inl (cI, 64, .inl ai)), (hu, .inl (cU, 512, .inl ut)), (ho, .inl (cO, 64, .inl ol))]) hP hD [5, 6, 7, 8] rfl hP1 hk9 rfl rfl
    have hD : va_D A [(hX, .inr (3, [.int wi, .int ma, .ref hR, .ref hT, .ref hC, .int no])), (hR, .inr (2, [.ref hp, .ref hq, .ref hi, .int (nI rc)])), (hp, .inl (cP, 40, .inl rp)), (hq, .inl (cQ, 40, .inl rl)), (hi, .inl (cS, 40, .inl ri)), (hT, .inr (0, [.ref hs, .ref hu, .ref ho, .int (nI (ac + 1))])), (hs, .inl (cI, 64, .inl (upd ai ac x))), (hu, .inl (cU, 512, .inl ut)), (ho, .inl (cO, 64, .inl ol)), (hC, .inr (1, [.ref hn, .ref ha, .ref hk, .int (nI cc)])), (hn, .inl (cN, 100, .inr (.inl cn))), (ha, .inl (cA, 100, .inl ca)), (hk, .inl (cK, 100, .inl cb))] := zD_of (ws := [(hX, .inr (3, [.int wi, .int ma, .ref hR, .ref hT, .ref hC, .int no])), (hR, .inr (2, [.ref hp, .ref hq, .ref hi, .int (nI rc)])), (hp, .inl (cP, 40, .inl rp)), (hq, .inl (cQ, 40, .inl rl)), (hi, .inl (cS, 40, .inl ri)), (hT, .inr (0, [.ref hs, .ref hu, .ref ho, .int (nI ac)])), (hs, .inl (cI, 64, .inl ai)), (hu, .inl (cU, 512, .inl ut)), (ho, .inl (cO, 64, .inl ol)), (hC, .inr (1, [.ref hn, .ref ha, .ref hk, .int (nI cc)])), (hn, .inl (cN, 100, .inr (.inl cn))), (ha, .inl (cA, 100, .inl ca)), (hk, .inl (cK, 100, .inl cb))]) rfl hD
    generalize H1 = H at hP hS ⊢
    subst hw_29
    exact zt_ret (W.iret (v := nI ac) hx hb hr (fun t ht hW => Or.inl ⟨by rw [if_pos hI, if_pos h64], (), rfl, by show va_P _ _ _ t.heap; rw [ht]; exact hP, hS.F ht⟩) hS.2.2 d_CD_account_32)
  · have h64 : ¬ ac < 64 := fun h => c_11 (by rw [h_8, if_neg (by omega)])
    exact zt_new hx hb htr (own := R_CD) (cls := zISE) (names := zUp) hown (by decide +kernel) (by decide +kernel) (zt_words zw_ISE htB hSt) (htB _ lc_CD_68) (htB _ nn_ISE) (htB _ ni_ISE) (htB _ sr_CD_87) hl.1 hml d_CD_account_14 d_CD_account_17 d_CD_account_18 d_CD_account_20 d_CD_account_23 hout hlocks rfl (Nat.le_of_ble_eq_true rfl) (Nat.le_of_ble_eq_true rfl) (Nat.le_of_ble_eq_true rfl) (Nat.le_of_ble_eq_true rfl) (fun x t hT hW => Or.inr (Or.inr ⟨by rw [if_pos hI, if_neg h64], x, rfl, hT⟩)) (Nat.le_of_ble_eq_true rfl) (Nat.le_of_ble_eq_true rfl)
set_option maxHeartbeats 4000000 in
set_option maxRecDepth 100000 in
theorem c_CD_block (l : Launch) (dC : Nat → ClassId) (dI : Nat → Nat → Nat) (hl0 : l.stackTraces = false) (hX : Nat) (wi ma no : Int32) (hR hp hq hi : Nat) (cP cQ cS : ClassId) (rc : Nat) (rp rl ri : Nat → Int32) (hrc : rc ≤ 40) (hT hs hu ho : Nat) (cI cU cO : ClassId) (ac : Nat) (ai ut ol : Nat → Int32) (hac : ac ≤ 64) (hC hn ha hk : Nat) (cN cA cK : ClassId) (cc : Nat) (cn : Nat → Int64) (ca cb : Nat → Int32) (hcc : cc ≤ 100) (x on : Int32) (hD0 : va_D (fun _ => True) [(hX, .inr (3, [.int wi, .int ma, .ref hR, .ref hT, .ref hC, .int no])), (hR, .inr (2, [.ref hp, .ref hq, .ref hi, .int (nI rc)])), (hp, .inl (cP, 40, .inl rp)), (hq, .inl (cQ, 40, .inl rl)), (hi, .inl (cS, 40, .inl ri)), (hT, .inr (0, [.ref hs, .ref hu, .ref ho, .int (nI ac)])), (hs, .inl (cI, 64, .inl ai)), (hu, .inl (cU, 512, .inl ut)), (ho, .inl (cO, 64, .inl ol)), (hC, .inr (1, [.ref hn, .ref ha, .ref hk, .int (nI cc)])), (hn, .inl (cN, 100, .inr (.inl cn))), (ha, .inl (cA, 100, .inl ca)), (hk, .inl (cK, 100, .inl cb))]) : MetT l y_CD_block (zw y_CD_block b_CD_block 3 (some .boolean)) ({ frames := 7, cells := 1, slots := 6, locals := 103 }) (zPreT [.ref hX, .int x, .int on] (dC, dI) [(hX, .inr (3, [.int wi, .int ma, .ref hR, .ref hT, .ref hC, .int no])), (hR, .inr (2, [.ref hp, .ref hq, .ref hi, .int (nI rc)])), (hp, .inl (cP, 40, .inl rp)), (hq, .inl (cQ, 40, .inl rl)), (hi, .inl (cS, 40, .inl ri)), (hT, .inr (0, [.ref hs, .ref hu, .ref ho, .int (nI ac)])), (hs, .inl (cI, 64, .inl ai)), (hu, .inl (cU, 512, .inl ut)), (ho, .inl (cO, 64, .inl ol)), (hC, .inr (1, [.ref hn, .ref ha, .ref hk, .int (nI cc)])), (hn, .inl (cN, 100, .inr (.inl cn))), (ha, .inl (cA, 100, .inl ca)), (hk, .inl (cK, 100, .inl cb))] [(cP, .int), (cQ, .int), (cS, .int), (cI, .int), (cU, .int), (cO, .int), (cN, .long), (cA, .int), (cK, .boolean)]) (zt_Q3 (S := Unit) (if 0 ≤ x.toInt ∧ x.toInt < cc then 0 else 1) (fun _ => some (.int (if cb x.toInt.toNat = 0 then 0 else 1))) (fun (_ : Unit) (t : State) => va_P (dC, dI) vwCl [(hX, .inr (3, [.int wi, .int ma, .ref hR, .ref hT, .ref hC, .int no])), (hR, .inr (2, [.ref hp, .ref hq, .ref hi, .int (nI rc)])), (hp, .inl (cP, 40, .inl rp)), (hq, .inl (cQ, 40, .inl rl)), (hi, .inl (cS, 40, .inl ri)), (hT, .inr (0, [.ref hs, .ref hu, .ref ho, .int (nI ac)])), (hs, .inl (cI, 64, .inl ai)), (hu, .inl (cU, 512, .inl ut)), (ho, .inl (cO, 64, .inl ol)), (hC, .inr (1, [.ref hn, .ref ha, .ref hk, .int (nI cc)])), (hn, .inl (cN, 100, .inr (.inl cn))), (ha, .inl (cA, 100, .inl ca)), (hk, .inl (cK, 100, .inl (upd cb x.toInt.toNat (vp_nar .boolean on))))] t.heap) (zA [(hX, .inr (3, [.int wi, .int ma, .ref hR, .ref hT, .ref hC, .int no])), (hR, .inr (2, [.ref hp, .ref hq, .ref hi, .int (nI rc)])), (hp, .inl (cP, 40, .inl rp)), (hq, .inl (cQ, 40, .inl rl)), (hi, .inl (cS, 40, .inl ri)), (hT, .inr (0, [.ref hs, .ref hu, .ref ho, .int (nI ac)])), (hs, .inl (cI, 64, .inl ai)), (hu, .inl (cU, 512, .inl ut)), (ho, .inl (cO, 64, .inl ol)), (hC, .inr (1, [.ref hn, .ref ha, .ref hk, .int (nI cc)])), (hn, .inl (cN, 100, .inr (.inl cn))), (ha, .inl (cA, 100, .inl ca)), (hk, .inl (cK, 100, .inl cb))])) 0 0 (zA [(hX, .inr (3, [.int wi, .int ma, .ref hR, .ref hT, .ref hC, .int no])), (hR, .inr (2, [.ref hp, .ref hq, .ref hi, .int (nI rc)])), (hp, .inl (cP, 40, .inl rp)), (hq, .inl (cQ, 40, .inl rl)), (hi, .inl (cS, 40, .inl ri)), (hT, .inr (0, [.ref hs, .ref hu, .ref ho, .int (nI ac)])), (hs, .inl (cI, 64, .inl ai)), (hu, .inl (cU, 512, .inl ut)), (ho, .inl (cO, 64, .inl ol)), (hC, .inr (1, [.ref hn, .ref ha, .ref hk, .int (nI cc)])), (hn, .inl (cN, 100, .inr (.inl cn))), (ha, .inl (cA, 100, .inl ca)), (hk, .inl (cK, 100, .inl cb))]) := by
  refine zt_ofW (cc := b_CD_block) (maxL := 3) (ret := (some .boolean)) (by decide) rfl ?_
  intro p e s m args below meth c s₁ B hml hout hv
  obtain ⟨rfl, ⟨hP, hK⟩, hSt⟩ := hv
  have hx := B.exec
  have hb := B.bytes
  have hr := B.returns
  have hts := atoms_spec (ws := (zw y_CD_block b_CD_block 3 (some .boolean))) B.pre
  have htB : ∀ w ∈ BG, w.before ([.ref hX, .int x, .int on] : List Value).toArray s = true := fun w h => hts w (List.mem_cons_of_mem _ h)
  have hown : s.vm.findClass R_CD = some m.cls := findClass_of_methodNamed B.named
  have hlocks := B.notSynchronized
  have htr : e.platform.stackTraces = false := (show e.platform.stackTraces = l.stackTraces by rw [B.admits.platform]).trans hl0
  have CF : CallFix p m c b_CD_block 3 s ([.ref hX, .int x, .int on] : List Value).toArray BG R_CD := ⟨hx, hb, hml, hown, htB⟩
  have hP : va_P (dC, dI) vwCl [(hX, .inr (3, [.int wi, .int ma, .ref hR, .ref hT, .ref hC, .int no])), (hR, .inr (2, [.ref hp, .ref hq, .ref hi, .int (nI rc)])), (hp, .inl (cP, 40, .inl rp)), (hq, .inl (cQ, 40, .inl rl)), (hi, .inl (cS, 40, .inl ri)), (hT, .inr (0, [.ref hs, .ref hu, .ref ho, .int (nI ac)])), (hs, .inl (cI, 64, .inl ai)), (hu, .inl (cU, 512, .inl ut)), (ho, .inl (cO, 64, .inl ol)), (hC, .inr (1, [.ref hn, .ref ha, .ref hk, .int (nI cc)])), (hn, .inl (cN, 100, .inr (.inl cn))), (ha, .inl (cA, 100, .inl ca)), (hk, .inl (cK, 100, .inl cb))] s.heap := hP
  have hl := lv_entry [.ref hX, .int x, .int on] (n := 3) (Nat.le_of_ble_eq_true rfl)
  rw [lg_entry_eq]
  generalize (lg_sl [.ref hX, .int x, .int on] ++ List.replicate (3 - (lg_sl [.ref hX, .int x, .int on]).length) Slot.unset).toArray = ls at hl ⊢
  have hl : lv_has ls 3 [(0, .ref hX), (1, .int x), (2, .int on)] := hl
  have hD : va_D (zA [(hX, .inr (3, [.int wi, .int ma, .ref hR, .ref hT, .ref hC, .int no])), (hR, .inr (2, [.ref hp, .ref hq, .ref hi, .int (nI rc)])), (hp, .inl (cP, 40, .inl rp)), (hq, .inl (cQ, 40, .inl rl)), (hi, .inl (cS, 40, .inl ri)), (hT, .inr (0, [.ref hs, .ref hu, .ref ho, .int (nI ac)])), (hs, .inl (cI, 64, .inl ai)), (hu, .inl (cU, 512, .inl ut)), (ho, .inl (cO, 64, .inl ol)), (hC, .inr (1, [.ref hn, .ref ha, .ref hk, .int (nI cc)])), (hn, .inl (cN, 100, .inr (.inl cn))), (ha, .inl (cA, 100, .inl ca)), (hk, .inl (cK, 100, .inl cb))]) [(hX, .inr (3, [.int wi, .int ma, .ref hR, .ref hT, .ref hC, .int no])), (hR, .inr (2, [.ref hp, .ref hq, .ref hi, .int (nI rc)])), (hp, .inl (cP, 40, .inl rp)), (hq, .inl (cQ, 40, .inl rl)), (hi, .inl (cS, 40, .inl ri)), (hT, .inr (0, [.ref hs, .ref hu, .ref ho, .int (nI ac)])), (hs, .inl (cI, 64, .inl ai)), (hu, .inl (cU, 512, .inl ut)), (ho, .inl (cO, 64, .inl ol)), (hC, .inr (1, [.ref hn, .ref ha, .ref hk, .int (nI cc)])), (hn, .inl (cN, 100, .inr (.inl cn))), (ha, .inl (cA, 100, .inl ca)), (hk, .inl (cK, 100, .inl cb))] := zA_of hD0
  have hS : va_S (zA [(hX, .inr (3, [.int wi, .int ma, .ref hR, .ref hT, .ref hC, .int no])), (hR, .inr (2, [.ref hp, .ref hq, .ref hi, .int (nI rc)])), (hp, .inl (cP, 40, .inl rp)), (hq, .inl (cQ, 40, .inl rl)), (hi, .inl (cS, 40, .inl ri)), (hT, .inr (0, [.ref hs, .ref hu, .ref ho, .int (nI ac)])), (hs, .inl (cI, 64, .inl ai)), (hu, .inl (cU, 512, .inl ut)), (ho, .inl (cO, 64, .inl ol)), (hC, .inr (1, [.ref hn, .ref ha, .ref hk, .int (nI cc)])), (hn, .inl (cN, 100, .inr (.inl cn))), (ha, .inl (cA, 100, .inl ca)), (hk, .inl (cK, 100, .inl cb))]) s.heap s.heap [] := va_S.rf
  generalize zA [(hX, .inr (3, [.int wi, .int ma, .ref hR, .ref hT, .ref hC, .int no])), (hR, .inr (2, [.ref hp, .ref hq, .ref hi, .int (nI rc)])), (hp, .inl (cP, 40, .inl rp)), (hq, .inl (cQ, 40, .inl rl)), (hi, .inl (cS, 40, .inl ri)), (hT, .inr (0, [.ref hs, .ref hu, .ref ho, .int (nI ac)])), (hs, .inl (cI, 64, .inl ai)), (hu, .inl (cU, 512, .inl ut)), (ho, .inl (cO, 64, .inl ol)), (hC, .inr (1, [.ref hn, .ref ha, .ref hk, .int (nI cc)])), (hn, .inl (cN, 100, .inr (.inl cn))), (ha, .inl (cA, 100, .inl ca)), (hk, .inl (cK, 100, .inl cb))] = A at hD hS ⊢
  refine lv_aload_n hx hb d_CD_block_0 rfl (lv_at hl 0 rfl) ?_
  refine lv_iload_n hx hb d_CD_block_1 rfl (lv_at hl 1 rfl) ?_
  refine zt_callv (zr_TV (n := 1) (As := [.int x]) (rest := []) CF (c_CD_requireCard l dC dI hl0 hX wi ma no hT hR hC hn ha hk cN cA cK cc cn ca cb hcc x) mc_CD_requireCard lk_CD_116 mi_CD_requireCard ms_CD_requireCard ni_CD (by decide +kernel) ⟨Nat.le_of_ble_eq_true rfl, Nat.le_of_ble_eq_true rfl⟩ (hP.sub (ws' := [(hX, .inr (3, [.int wi, .int ma, .ref hR, .ref hT, .ref hC, .int no])), (hC, .inr (1, [.ref hn, .ref ha, .ref hk, .int (nI cc)])), (hn, .inl (cN, 100, .inr (.inl cn))), (ha, .inl (cA, 100, .inl ca)), (hk, .inl (cK, 100, .inl cb))]) [0, 9, 10, 11, 12] rfl) (hK.sub (tys' := [(cN, .long), (cA, .int), (cK, .boolean)]) [6, 7, 8] rfl) hSt (fun _ _ => rfl) rfl rfl rfl hl.1 rfl (lv_room (Nat.le_of_ble_eq_true rfl)) d_CD_block_2 ⟨Nat.le_of_ble_eq_true rfl, Nat.le_of_ble_eq_true rfl⟩) (fun hok => ?_) (fun x H1 hno hth => zt_leave (fun t ht hW => Or.inr (Or.inl ⟨by rw [if_neg hno], x, rfl, hth.to ht hW⟩)) (fun _ h => by cases h) (fun z hz => hout z hz _) hlocks (Nat.le_of_ble_eq_true rfl) (Nat.le_of_ble_eq_true rfl))
  have hk0 : (if 0 ≤ x.toInt ∧ x.toInt < cc then 0 else 1 : Nat) = 0 := if_pos hok
  obtain ⟨ej, hj⟩ := zi_of hok
  rw [hk0]
  generalize x.toInt.toNat = j at ej hj ⊢
  subst ej
  refine lv_aload_n hx hb d_CD_block_5 rfl (lv_at hl 0 rfl) ?_
  refine va_get (D := (dC, dI)) (ci := 3) (v := .ref hC) (C := R_CD) (T := T_CD) (N := 6) hx hb htB i_CD hown hK hP 0 rfl rfl 4 (by decide) (htB _ lf_CD_42) (fun _ h9 => h9) rfl d_CD_block_6 ?_
  refine lv_iload_n hx hb d_CD_block_9 rfl (lv_at hl 1 rfl) ?_
  refine lv_iload_n hx hb d_CD_block_10 rfl (lv_at hl 2 rfl) ?_
  refine va_calli (zr_V (n := 2) (As := [.int (nI j), .int on]) (rest := []) CF (c_CT_setBlocked l dC dI hC hn ha hk cN cA cK cc cn ca cb hcc j hj on ((hD.sub (ws' := [(hC, .inr (1, [.ref hn, .ref ha, .ref hk, .int (nI cc)])), (hn, .inl (cN, 100, .inr (.inl cn))), (ha, .inl (cA, 100, .inl ca)), (hk, .inl (cK, 100, .inl cb))]) [9, 10, 11, 12] (by decide) rfl).weaken (fun _ _ _ _ => trivial))) mc_CT_setBlocked lk_CD_119 mi_CT_setBlocked ms_CT_setBlocked ni_CT rfl rfl (by decide +kernel) ⟨Nat.le_of_ble_eq_true rfl, Nat.le_of_ble_eq_true rfl⟩ (hP.sub (ws' := [(hC, .inr (1, [.ref hn, .ref ha, .ref hk, .int (nI cc)])), (hn, .inl (cN, 100, .inr (.inl cn))), (ha, .inl (cA, 100, .inl ca)), (hk, .inl (cK, 100, .inl cb))]) [9, 10, 11, 12] rfl) (hK.sub (tys' := [(cN, .long), (cA, .int), (cK, .boolean)]) [6, 7, 8] rfl) rfl rfl rfl hl.1 rfl (lv_room (Nat.le_of_ble_eq_true rfl)) d_CD_block_11 ⟨Nat.zero_le _, Nat.zero_le _⟩) hS (fun q _ h => zA_sub hD (wc := [(hC, .inr (1, [.ref hn, .ref ha, .ref hk, .int (nI cc)])), (hn, .inl (cN, 100, .inr (.inl cn))), (ha, .inl (cA, 100, .inl ca)), (hk, .inl (cK, 100, .inl cb))]) [9, 10, 11, 12] rfl h) (fun q h => zA_sub hD (wc := [(hC, .inr (1, [.ref hn, .ref ha, .ref hk, .int (nI cc)])), (hn, .inl (cN, 100, .inr (.inl cn))), (ha, .inl (cA, 100, .inl ca)), (hk, .inl (cK, 100, .inl cb))]) [9, 10, 11, 12] rfl h) (fun r_11 u t H1 locs1 ht hvm hw_11 hB hz hk9 hS => ?_)
  have hP1 : va_P (dC, dI) vwCl [(hC, .inr (1, [.ref hn, .ref ha, .ref hk, .int (nI cc)])), (hn, .inl (cN, 100, .inr (.inl cn))), (ha, .inl (cA, 100, .inl ca)), (hk, .inl (cK, 100, .inl (upd cb j (vp_nar .boolean on))))] H1 := by
    have h9 : va_P (dC, dI) vwCl [(hC, .inr (1, [.ref hn, .ref ha, .ref hk, .int (nI cc)])), (hn, .inl (cN, 100, .inr (.inl cn))), (ha, .inl (cA, 100, .inl ca)), (hk, .inl (cK, 100, .inl (upd cb j (vp_nar .boolean on))))] t.heap := hB
    rw [ht] at h9
    exact h9
  have hP : va_P (dC, dI) vwCl [(hX, .inr (3, [.int wi, .int ma, .ref hR, .ref hT, .ref hC, .int no])), (hR, .inr (2, [.ref hp, .ref hq, .ref hi, .int (nI rc)])), (hp, .inl (cP, 40, .inl rp)), (hq, .inl (cQ, 40, .inl rl)), (hi, .inl (cS, 40, .inl ri)), (hT, .inr (0, [.ref hs, .ref hu, .ref ho, .int (nI ac)])), (hs, .inl (cI, 64, .inl ai)), (hu, .inl (cU, 512, .inl ut)), (ho, .inl (cO, 64, .inl ol)), (hC, .inr (1, [.ref hn, .ref ha, .ref hk, .int (nI cc)])), (hn, .inl (cN, 100, .inr (.inl cn))), (ha, .inl (cA, 100, .inl ca)), (hk, .inl (cK, 100, .inl (upd cb j (vp_nar .boolean on))))] H1 := zj (wc := [(hC, .inr (1, [.ref hn, .ref ha, .ref hk, .int (nI cc)])), (hn, .inl (cN, 100, .inr (.inl cn))), (ha, .inl (cA, 100, .inl ca)), (hk, .inl (cK, 100, .inl cb))]) hP hD [9, 10, 11, 12] rfl hP1 hk9 rfl rfl
  have hD : va_D A [(hX, .inr (3, [.int wi, .int ma, .ref hR, .ref hT, .ref hC, .int no])), (hR, .inr (2, [.ref hp, .ref hq, .ref hi, .int (nI rc)])), (hp, .inl (cP, 40, .inl rp)), (hq, .inl (cQ, 40, .inl rl)), (hi, .inl (cS, 40, .inl ri)), (hT, .inr (0, [.ref hs, .ref hu, .ref ho, .int (nI ac)])), (hs, .inl (cI, 64, .inl ai)), (hu, .inl (cU, 512, .inl ut)), (ho, .inl (cO, 64, .inl ol)), (hC, .inr (1, [.ref hn, .ref ha, .ref hk, .int (nI cc)])), (hn, .inl (cN, 100, .inr (.inl cn))), (ha, .inl (cA, 100, .inl ca)), (hk, .inl (cK, 100, .inl (upd cb j (vp_nar .boolean on))))] := zD_of (ws := [(hX, .inr (3, [.int wi, .int ma, .ref hR, .ref hT, .ref hC, .int no])), (hR, .inr (2, [.ref hp, .ref hq, .ref hi, .int (nI rc)])), (hp, .inl (cP, 40, .inl rp)), (hq, .inl (cQ, 40, .inl rl)), (hi, .inl (cS, 40, .inl ri)), (hT, .inr (0, [.ref hs, .ref hu, .ref ho, .int (nI ac)])), (hs, .inl (cI, 64, .inl ai)), (hu, .inl (cU, 512, .inl ut)), (ho, .inl (cO, 64, .inl ol)), (hC, .inr (1, [.ref hn, .ref ha, .ref hk, .int (nI cc)])), (hn, .inl (cN, 100, .inr (.inl cn))), (ha, .inl (cA, 100, .inl ca)), (hk, .inl (cK, 100, .inl cb))]) rfl hD
  generalize H1 = H at hP hS ⊢
  exact zt_ret (W.zret (v := r_11) (ty := .boolean) hx hb hr (by rw [hw_11]; split <;> rfl) (fun t ht hW => Or.inl ⟨rfl, (), by rw [hw_11], by show va_P _ _ _ t.heap; rw [ht]; exact hP, hS.F ht⟩) hS.2.2 d_CD_block_14)
set_option maxHeartbeats 4000000 in
set_option maxRecDepth 100000 in
theorem c_CD_whose (l : Launch) (dC : Nat → ClassId) (dI : Nat → Nat → Nat) (hl0 : l.stackTraces = false) (hX : Nat) (wi ma no : Int32) (hR hp hq hi : Nat) (cP cQ cS : ClassId) (rc : Nat) (rp rl ri : Nat → Int32) (hrc : rc ≤ 40) (hT hs hu ho : Nat) (cI cU cO : ClassId) (ac : Nat) (ai ut ol : Nat → Int32) (hac : ac ≤ 64) (hC hn ha hk : Nat) (cN cA cK : ClassId) (cc : Nat) (cn : Nat → Int64) (ca cb : Nat → Int32) (hcc : cc ≤ 100) (x : Int64) (hD0 : va_D (fun _ => True) [(hX, .inr (3, [.int wi, .int ma, .ref hR, .ref hT, .ref hC, .int no])), (hR, .inr (2, [.ref hp, .ref hq, .ref hi, .int (nI rc)])), (hp, .inl (cP, 40, .inl rp)), (hq, .inl (cQ, 40, .inl rl)), (hi, .inl (cS, 40, .inl ri)), (hT, .inr (0, [.ref hs, .ref hu, .ref ho, .int (nI ac)])), (hs, .inl (cI, 64, .inl ai)), (hu, .inl (cU, 512, .inl ut)), (ho, .inl (cO, 64, .inl ol)), (hC, .inr (1, [.ref hn, .ref ha, .ref hk, .int (nI cc)])), (hn, .inl (cN, 100, .inr (.inl cn))), (ha, .inl (cA, 100, .inl ca)), (hk, .inl (cK, 100, .inl cb))]) : MetT l y_CD_whose (zw y_CD_whose b_CD_whose 3 (some .int)) ({ frames := 7, cells := 1, slots := 6, locals := 106 }) (zPreT [.ref hX, .long x] (dC, dI) [(hX, .inr (3, [.int wi, .int ma, .ref hR, .ref hT, .ref hC, .int no])), (hR, .inr (2, [.ref hp, .ref hq, .ref hi, .int (nI rc)])), (hp, .inl (cP, 40, .inl rp)), (hq, .inl (cQ, 40, .inl rl)), (hi, .inl (cS, 40, .inl ri)), (hT, .inr (0, [.ref hs, .ref hu, .ref ho, .int (nI ac)])), (hs, .inl (cI, 64, .inl ai)), (hu, .inl (cU, 512, .inl ut)), (ho, .inl (cO, 64, .inl ol)), (hC, .inr (1, [.ref hn, .ref ha, .ref hk, .int (nI cc)])), (hn, .inl (cN, 100, .inr (.inl cn))), (ha, .inl (cA, 100, .inl ca)), (hk, .inl (cK, 100, .inl cb))] [(cP, .int), (cQ, .int), (cS, .int), (cI, .int), (cU, .int), (cO, .int), (cN, .long), (cA, .int), (cK, .boolean)]) (zt_Q3 (S := Unit) (if zok_D x 1 18 then 0 else 1) (fun _ => some (.int (zf_iss rc rp rl ri (zd_dg 19 (zd_N x)) (zd_N x)))) (fun (_ : Unit) (t : State) => va_P (dC, dI) vwCl [(hX, .inr (3, [.int wi, .int ma, .ref hR, .ref hT, .ref hC, .int no])), (hR, .inr (2, [.ref hp, .ref hq, .ref hi, .int (nI rc)])), (hp, .inl (cP, 40, .inl rp)), (hq, .inl (cQ, 40, .inl rl)), (hi, .inl (cS, 40, .inl ri)), (hT, .inr (0, [.ref hs, .ref hu, .ref ho, .int (nI ac)])), (hs, .inl (cI, 64, .inl ai)), (hu, .inl (cU, 512, .inl ut)), (ho, .inl (cO, 64, .inl ol)), (hC, .inr (1, [.ref hn, .ref ha, .ref hk, .int (nI cc)])), (hn, .inl (cN, 100, .inr (.inl cn))), (ha, .inl (cA, 100, .inl ca)), (hk, .inl (cK, 100, .inl cb))] t.heap) (zA [(hX, .inr (3, [.int wi, .int ma, .ref hR, .ref hT, .ref hC, .int no])), (hR, .inr (2, [.ref hp, .ref hq, .ref hi, .int (nI rc)])), (hp, .inl (cP, 40, .inl rp)), (hq, .inl (cQ, 40, .inl rl)), (hi, .inl (cS, 40, .inl ri)), (hT, .inr (0, [.ref hs, .ref hu, .ref ho, .int (nI ac)])), (hs, .inl (cI, 64, .inl ai)), (hu, .inl (cU, 512, .inl ut)), (ho, .inl (cO, 64, .inl ol)), (hC, .inr (1, [.ref hn, .ref ha, .ref hk, .int (nI cc)])), (hn, .inl (cN, 100, .inr (.inl cn))), (ha, .inl (cA, 100, .inl ca)), (hk, .inl (cK, 100, .inl cb))])) 0 0 (zA [(hX, .inr (3, [.int wi, .int ma, .ref hR, .ref hT, .ref hC, .int no])), (hR, .inr (2, [.ref hp, .ref hq, .ref hi, .int (nI rc)])), (hp, .inl (cP, 40, .inl rp)), (hq, .inl (cQ, 40, .inl rl)), (hi, .inl (cS, 40, .inl ri)), (hT, .inr (0, [.ref hs, .ref hu, .ref ho, .int (nI ac)])), (hs, .inl (cI, 64, .inl ai)), (hu, .inl (cU, 512, .inl ut)), (ho, .inl (cO, 64, .inl ol)), (hC, .inr (1, [.ref hn, .ref ha, .ref hk, .int (nI cc)])), (hn, .inl (cN, 100, .inr (.inl cn))), (ha, .inl (cA, 100, .inl ca)), (hk, .inl (cK, 100, .inl cb))]) := by
  refine zt_ofW (cc := b_CD_whose) (maxL := 3) (ret := (some .int)) (by decide) rfl ?_
  intro p e s m args below meth c s₁ B hml hout hv
  obtain ⟨rfl, ⟨hP, hK⟩, hSt⟩ := hv
  have hx := B.exec
  have hb := B.bytes
  have hr := B.returns
  have hts := atoms_spec (ws := (zw y_CD_whose b_CD_whose 3 (some .int))) B.pre
  have htB : ∀ w ∈ BG, w.before ([.ref hX, .long x] : List Value).toArray s = true := fun w h => hts w (List.mem_cons_of_mem _ h)
  have hown : s.vm.findClass R_CD = some m.cls := findClass_of_methodNamed B.named
  have hlocks := B.notSynchronized
  have htr : e.platform.stackTraces = false := (show e.platform.stackTraces = l.stackTraces by rw [B.admits.platform]).trans hl0
  have CF : CallFix p m c b_CD_whose 3 s ([.ref hX, .long x] : List Value).toArray BG R_CD := ⟨hx, hb, hml, hown, htB⟩
  have hP : va_P (dC, dI) vwCl [(hX, .inr (3, [.int wi, .int ma, .ref hR, .ref hT, .ref hC, .int no])), (hR, .inr (2, [.ref hp, .ref hq, .ref hi, .int (nI rc)])), (hp, .inl (cP, 40, .inl rp)), (hq, .inl (cQ, 40, .inl rl)), (hi, .inl (cS, 40, .inl ri)), (hT, .inr (0, [.ref hs, .ref hu, .ref ho, .int (nI ac)])), (hs, .inl (cI, 64, .inl ai)), (hu, .inl (cU, 512, .inl ut)), (ho, .inl (cO, 64, .inl ol)), (hC, .inr (1, [.ref hn, .ref ha, .ref hk, .int (nI cc)])), (hn, .inl (cN, 100, .inr (.inl cn))), (ha, .inl (cA, 100, .inl ca)), (hk, .inl (cK, 100, .inl cb))] s.heap := hP
  have hl := lv_entry [.ref hX, .long x] (n := 3) (Nat.le_of_ble_eq_true rfl)
  rw [lg_entry_eq]
  generalize (lg_sl [.ref hX, .long x] ++ List.replicate (3 - (lg_sl [.ref hX, .long x]).length) Slot.unset).toArray = ls at hl ⊢
  have hl : lv_has ls 3 [(0, .ref hX), (1, .long x)] := hl
  have hD : va_D (zA [(hX, .inr (3, [.int wi, .int ma, .ref hR, .ref hT, .ref hC, .int no])), (hR, .inr (2, [.ref hp, .ref hq, .ref hi, .int (nI rc)])), (hp, .inl (cP, 40, .inl rp)), (hq, .inl (cQ, 40, .inl rl)), (hi, .inl (cS, 40, .inl ri)), (hT, .inr (0, [.ref hs, .ref hu, .ref ho, .int (nI ac)])), (hs, .inl (cI, 64, .inl ai)), (hu, .inl (cU, 512, .inl ut)), (ho, .inl (cO, 64, .inl ol)), (hC, .inr (1, [.ref hn, .ref ha, .ref hk, .int (nI cc)])), (hn, .inl (cN, 100, .inr (.inl cn))), (ha, .inl (cA, 100, .inl ca)), (hk, .inl (cK, 100, .inl cb))]) [(hX, .inr (3, [.int wi, .int ma, .ref hR, .ref hT, .ref hC, .int no])), (hR, .inr (2, [.ref hp, .ref hq, .ref hi, .int (nI rc)])), (hp, .inl (cP, 40, .inl rp)), (hq, .inl (cQ, 40, .inl rl)), (hi, .inl (cS, 40, .inl ri)), (hT, .inr (0, [.ref hs, .ref hu, .ref ho, .int (nI ac)])), (hs, .inl (cI, 64, .inl ai)), (hu, .inl (cU, 512, .inl ut)), (ho, .inl (cO, 64, .inl ol)), (hC, .inr (1, [.ref hn, .ref ha, .ref hk, .int (nI cc)])), (hn, .inl (cN, 100, .inr (.inl cn))), (ha, .inl (cA, 100, .inl ca)), (hk, .inl (cK, 100, .inl cb))] := zA_of hD0
  have hS : va_S (zA [(hX, .inr (3, [.int wi, .int ma, .ref hR, .ref hT, .ref hC, .int no])), (hR, .inr (2, [.ref hp, .ref hq, .ref hi, .int (nI rc)])), (hp, .inl (cP, 40, .inl rp)), (hq, .inl (cQ, 40, .inl rl)), (hi, .inl (cS, 40, .inl ri)), (hT, .inr (0, [.ref hs, .ref hu, .ref ho, .int (nI ac)])), (hs, .inl (cI, 64, .inl ai)), (hu, .inl (cU, 512, .inl ut)), (ho, .inl (cO, 64, .inl ol)), (hC, .inr (1, [.ref hn, .ref ha, .ref hk, .int (nI cc)])), (hn, .inl (cN, 100, .inr (.inl cn))), (ha, .inl (cA, 100, .inl ca)), (hk, .inl (cK, 100, .inl cb))]) s.heap s.heap [] := va_S.rf
  generalize zA [(hX, .inr (3, [.int wi, .int ma, .ref hR, .ref hT, .ref hC, .int no])), (hR, .inr (2, [.ref hp, .ref hq, .ref hi, .int (nI rc)])), (hp, .inl (cP, 40, .inl rp)), (hq, .inl (cQ, 40, .inl rl)), (hi, .inl (cS, 40, .inl ri)), (hT, .inr (0, [.ref hs, .ref hu, .ref ho, .int (nI ac)])), (hs, .inl (cI, 64, .inl ai)), (hu, .inl (cU, 512, .inl ut)), (ho, .inl (cO, 64, .inl ol)), (hC, .inr (1, [.ref hn, .ref ha, .ref hk, .int (nI cc)])), (hn, .inl (cN, 100, .inr (.inl cn))), (ha, .inl (cA, 100, .inl ca)), (hk, .inl (cK, 100, .inl cb))] = A at hD hS ⊢
  refine lv_lload_n hx hb d_CD_whose_0 rfl (lv_at hl 1 rfl) ?_
  refine lv_iconst (v := 1) hx hb d_CD_whose_1 (by decide) ?_
  refine lv_bipush (v := 18) hx hb d_CD_whose_2 (by decide) ?_
  refine zt_callv (zr_TS (n := 3) (As := [.long x, .int 1, .int 18]) (rest := []) CF (c_CD_requireDigits l dC dI hl0 x 1 18 (by decide) (by decide)) mc_CD_requireDigits lk_CD_91 mt_CD_requireDigits ni_CD (by decide +kernel) ⟨Nat.le_of_ble_eq_true rfl, Nat.le_of_ble_eq_true rfl⟩ (hP.sub (ws' := []) [] rfl) (hK.sub (tys' := []) [] rfl) hSt (fun _ _ => rfl) rfl rfl hl.1 rfl (lv_room (Nat.le_of_ble_eq_true rfl)) d_CD_whose_4 ⟨Nat.le_of_ble_eq_true rfl, Nat.le_of_ble_eq_true rfl⟩) (fun hok => ?_) (fun x H1 hno hth => zt_leave (fun t ht hW => Or.inr (Or.inl ⟨by rw [if_neg hno], x, rfl, hth.to ht hW⟩)) (fun _ h => by cases h) (fun z hz => hout z hz _) hlocks (Nat.le_of_ble_eq_true rfl) (Nat.le_of_ble_eq_true rfl))
  have hk0 : (if zok_D x 1 18 then 0 else 1 : Nat) = 0 := if_pos hok
  obtain ⟨ex, hN63, hNp⟩ := zl_of (by decide) hok
  rw [hk0]
  generalize zd_N x = N at ex hN63 hNp ⊢
  subst ex
  refine lv_aload_n hx hb d_CD_whose_7 rfl (lv_at hl 0 rfl) ?_
  refine va_get (D := (dC, dI)) (ci := 3) (v := .ref hR) (C := R_CD) (T := T_CD) (N := 6) hx hb htB i_CD hown hK hP 0 rfl rfl 2 (by decide) (htB _ lf_CD_28) (fun _ h9 => h9) rfl d_CD_whose_8 ?_
  refine lv_lload_n hx hb d_CD_whose_11 rfl (lv_at hl 1 rfl) ?_
  refine vp_callSi (va_Run.run (zr_V (n := 1) (As := [.long (lN N)]) (rest := []) CF (c_RT_issuerFor l dC dI hR hp hq hi cP cQ cS rc rp rl ri hrc N hN63) mc_RT_issuerFor lk_CD_105 mi_RT_issuerFor ms_RT_issuerFor ni_RT rfl rfl (by decide +kernel) ⟨Nat.le_of_ble_eq_true rfl, Nat.le_of_ble_eq_true rfl⟩ (hP.sub (ws' := [(hR, .inr (2, [.ref hp, .ref hq, .ref hi, .int (nI rc)])), (hp, .inl (cP, 40, .inl rp)), (hq, .inl (cQ, 40, .inl rl)), (hi, .inl (cS, 40, .inl ri))]) [1, 2, 3, 4] rfl) (hK.sub (tys' := [(cP, .int), (cQ, .int), (cS, .int)]) [0, 1, 2] rfl) rfl rfl rfl hl.1 rfl (lv_room (Nat.le_of_ble_eq_true rfl)) d_CD_whose_12 ⟨Nat.zero_le _, Nat.zero_le _⟩)) (fun r_12 h_12 => ?_)
  subst h_12
  exact zt_ret (W.iret (v := zf_iss rc rp rl ri (zd_dg 19 N) N) hx hb hr (fun t ht hW => Or.inl ⟨rfl, (), rfl, by show va_P _ _ _ t.heap; rw [ht]; exact hP, hS.F ht⟩) hS.2.2 d_CD_whose_15)
set_option maxHeartbeats 4000000 in
set_option maxRecDepth 100000 in
theorem c_CD_good (l : Launch) (dC : Nat → ClassId) (dI : Nat → Nat → Nat) (hl0 : l.stackTraces = false) (hX : Nat) (wi ma no : Int32) (hR hp hq hi : Nat) (cP cQ cS : ClassId) (rc : Nat) (rp rl ri : Nat → Int32) (hrc : rc ≤ 40) (hT hs hu ho : Nat) (cI cU cO : ClassId) (ac : Nat) (ai ut ol : Nat → Int32) (hac : ac ≤ 64) (hC hn ha hk : Nat) (cN cA cK : ClassId) (cc : Nat) (cn : Nat → Int64) (ca cb : Nat → Int32) (hcc : cc ≤ 100) (x : Int64) (hD0 : va_D (fun _ => True) [(hX, .inr (3, [.int wi, .int ma, .ref hR, .ref hT, .ref hC, .int no])), (hR, .inr (2, [.ref hp, .ref hq, .ref hi, .int (nI rc)])), (hp, .inl (cP, 40, .inl rp)), (hq, .inl (cQ, 40, .inl rl)), (hi, .inl (cS, 40, .inl ri)), (hT, .inr (0, [.ref hs, .ref hu, .ref ho, .int (nI ac)])), (hs, .inl (cI, 64, .inl ai)), (hu, .inl (cU, 512, .inl ut)), (ho, .inl (cO, 64, .inl ol)), (hC, .inr (1, [.ref hn, .ref ha, .ref hk, .int (nI cc)])), (hn, .inl (cN, 100, .inr (.inl cn))), (ha, .inl (cA, 100, .inl ca)), (hk, .inl (cK, 100, .inl cb))]) : MetT l y_CD_good (zw y_CD_good b_CD_good 3 (some .boolean)) ({ frames := 7, cells := 1, slots := 6, locals := 106 }) (zPreT [.ref hX, .long x] (dC, dI) [(hX, .inr (3, [.int wi, .int ma, .ref hR, .ref hT, .ref hC, .int no])), (hR, .inr (2, [.ref hp, .ref hq, .ref hi, .int (nI rc)])), (hp, .inl (cP, 40, .inl rp)), (hq, .inl (cQ, 40, .inl rl)), (hi, .inl (cS, 40, .inl ri)), (hT, .inr (0, [.ref hs, .ref hu, .ref ho, .int (nI ac)])), (hs, .inl (cI, 64, .inl ai)), (hu, .inl (cU, 512, .inl ut)), (ho, .inl (cO, 64, .inl ol)), (hC, .inr (1, [.ref hn, .ref ha, .ref hk, .int (nI cc)])), (hn, .inl (cN, 100, .inr (.inl cn))), (ha, .inl (cA, 100, .inl ca)), (hk, .inl (cK, 100, .inl cb))] [(cP, .int), (cQ, .int), (cS, .int), (cI, .int), (cU, .int), (cO, .int), (cN, .long), (cA, .int), (cK, .boolean)]) (zt_Q3 (S := Unit) (if zok_D x 1 18 then 0 else 1) (fun _ => some (.int (if zd_cs 19 false (zd_N x) % 10 = 0 then 1 else 0))) (fun (_ : Unit) (t : State) => va_P (dC, dI) vwCl [(hX, .inr (3, [.int wi, .int ma, .ref hR, .ref hT, .ref hC, .int no])), (hR, .inr (2, [.ref hp, .ref hq, .ref hi, .int (nI rc)])), (hp, .inl (cP, 40, .inl rp)), (hq, .inl (cQ, 40, .inl rl)), (hi, .inl (cS, 40, .inl ri)), (hT, .inr (0, [.ref hs, .ref hu, .ref ho, .int (nI ac)])), (hs, .inl (cI, 64, .inl ai)), (hu, .inl (cU, 512, .inl ut)), (ho, .inl (cO, 64, .inl ol)), (hC, .inr (1, [.ref hn, .ref ha, .ref hk, .int (nI cc)])), (hn, .inl (cN, 100, .inr (.inl cn))), (ha, .inl (cA, 100, .inl ca)), (hk, .inl (cK, 100, .inl cb))] t.heap) (zA [(hX, .inr (3, [.int wi, .int ma, .ref hR, .ref hT, .ref hC, .int no])), (hR, .inr (2, [.ref hp, .ref hq, .ref hi, .int (nI rc)])), (hp, .inl (cP, 40, .inl rp)), (hq, .inl (cQ, 40, .inl rl)), (hi, .inl (cS, 40, .inl ri)), (hT, .inr (0, [.ref hs, .ref hu, .ref ho, .int (nI ac)])), (hs, .inl (cI, 64, .inl ai)), (hu, .inl (cU, 512, .inl ut)), (ho, .inl (cO, 64, .inl ol)), (hC, .inr (1, [.ref hn, .ref ha, .ref hk, .int (nI cc)])), (hn, .inl (cN, 100, .inr (.inl cn))), (ha, .inl (cA, 100, .inl ca)), (hk, .inl (cK, 100, .inl cb))])) 0 0 (zA [(hX, .inr (3, [.int wi, .int ma, .ref hR, .ref hT, .ref hC, .int no])), (hR, .inr (2, [.ref hp, .ref hq, .ref hi, .int (nI rc)])), (hp, .inl (cP, 40, .inl rp)), (hq, .inl (cQ, 40, .inl rl)), (hi, .inl (cS, 40, .inl ri)), (hT, .inr (0, [.ref hs, .ref hu, .ref ho, .int (nI ac)])), (hs, .inl (cI, 64, .inl ai)), (hu, .inl (cU, 512, .inl ut)), (ho, .inl (cO, 64, .inl ol)), (hC, .inr (1, [.ref hn, .ref ha, .ref hk, .int (nI cc)])), (hn, .inl (cN, 100, .inr (.inl cn))), (ha, .inl (cA, 100, .inl ca)), (hk, .inl (cK, 100, .inl cb))]) := by
  refine zt_ofW (cc := b_CD_good) (maxL := 3) (ret := (some .boolean)) (by decide) rfl ?_
  intro p e s m args below meth c s₁ B hml hout hv
  obtain ⟨rfl, ⟨hP, hK⟩, hSt⟩ := hv
  have hx := B.exec
  have hb := B.bytes
  have hr := B.returns
  have hts := atoms_spec (ws := (zw y_CD_good b_CD_good 3 (some .boolean))) B.pre
  have htB : ∀ w ∈ BG, w.before ([.ref hX, .long x] : List Value).toArray s = true := fun w h => hts w (List.mem_cons_of_mem _ h)
  have hown : s.vm.findClass R_CD = some m.cls := findClass_of_methodNamed B.named
  have hlocks := B.notSynchronized
  have htr : e.platform.stackTraces = false := (show e.platform.stackTraces = l.stackTraces by rw [B.admits.platform]).trans hl0
  have CF : CallFix p m c b_CD_good 3 s ([.ref hX, .long x] : List Value).toArray BG R_CD := ⟨hx, hb, hml, hown, htB⟩
  have hP : va_P (dC, dI) vwCl [(hX, .inr (3, [.int wi, .int ma, .ref hR, .ref hT, .ref hC, .int no])), (hR, .inr (2, [.ref hp, .ref hq, .ref hi, .int (nI rc)])), (hp, .inl (cP, 40, .inl rp)), (hq, .inl (cQ, 40, .inl rl)), (hi, .inl (cS, 40, .inl ri)), (hT, .inr (0, [.ref hs, .ref hu, .ref ho, .int (nI ac)])), (hs, .inl (cI, 64, .inl ai)), (hu, .inl (cU, 512, .inl ut)), (ho, .inl (cO, 64, .inl ol)), (hC, .inr (1, [.ref hn, .ref ha, .ref hk, .int (nI cc)])), (hn, .inl (cN, 100, .inr (.inl cn))), (ha, .inl (cA, 100, .inl ca)), (hk, .inl (cK, 100, .inl cb))] s.heap := hP
  have hl := lv_entry [.ref hX, .long x] (n := 3) (Nat.le_of_ble_eq_true rfl)
  rw [lg_entry_eq]
  generalize (lg_sl [.ref hX, .long x] ++ List.replicate (3 - (lg_sl [.ref hX, .long x]).length) Slot.unset).toArray = ls at hl ⊢
  have hl : lv_has ls 3 [(0, .ref hX), (1, .long x)] := hl
  have hD : va_D (zA [(hX, .inr (3, [.int wi, .int ma, .ref hR, .ref hT, .ref hC, .int no])), (hR, .inr (2, [.ref hp, .ref hq, .ref hi, .int (nI rc)])), (hp, .inl (cP, 40, .inl rp)), (hq, .inl (cQ, 40, .inl rl)), (hi, .inl (cS, 40, .inl ri)), (hT, .inr (0, [.ref hs, .ref hu, .ref ho, .int (nI ac)])), (hs, .inl (cI, 64, .inl ai)), (hu, .inl (cU, 512, .inl ut)), (ho, .inl (cO, 64, .inl ol)), (hC, .inr (1, [.ref hn, .ref ha, .ref hk, .int (nI cc)])), (hn, .inl (cN, 100, .inr (.inl cn))), (ha, .inl (cA, 100, .inl ca)), (hk, .inl (cK, 100, .inl cb))]) [(hX, .inr (3, [.int wi, .int ma, .ref hR, .ref hT, .ref hC, .int no])), (hR, .inr (2, [.ref hp, .ref hq, .ref hi, .int (nI rc)])), (hp, .inl (cP, 40, .inl rp)), (hq, .inl (cQ, 40, .inl rl)), (hi, .inl (cS, 40, .inl ri)), (hT, .inr (0, [.ref hs, .ref hu, .ref ho, .int (nI ac)])), (hs, .inl (cI, 64, .inl ai)), (hu, .inl (cU, 512, .inl ut)), (ho, .inl (cO, 64, .inl ol)), (hC, .inr (1, [.ref hn, .ref ha, .ref hk, .int (nI cc)])), (hn, .inl (cN, 100, .inr (.inl cn))), (ha, .inl (cA, 100, .inl ca)), (hk, .inl (cK, 100, .inl cb))] := zA_of hD0
  have hS : va_S (zA [(hX, .inr (3, [.int wi, .int ma, .ref hR, .ref hT, .ref hC, .int no])), (hR, .inr (2, [.ref hp, .ref hq, .ref hi, .int (nI rc)])), (hp, .inl (cP, 40, .inl rp)), (hq, .inl (cQ, 40, .inl rl)), (hi, .inl (cS, 40, .inl ri)), (hT, .inr (0, [.ref hs, .ref hu, .ref ho, .int (nI ac)])), (hs, .inl (cI, 64, .inl ai)), (hu, .inl (cU, 512, .inl ut)), (ho, .inl (cO, 64, .inl ol)), (hC, .inr (1, [.ref hn, .ref ha, .ref hk, .int (nI cc)])), (hn, .inl (cN, 100, .inr (.inl cn))), (ha, .inl (cA, 100, .inl ca)), (hk, .inl (cK, 100, .inl cb))]) s.heap s.heap [] := va_S.rf
  generalize zA [(hX, .inr (3, [.int wi, .int ma, .ref hR, .ref hT, .ref hC, .int no])), (hR, .inr (2, [.ref hp, .ref hq, .ref hi, .int (nI rc)])), (hp, .inl (cP, 40, .inl rp)), (hq, .inl (cQ, 40, .inl rl)), (hi, .inl (cS, 40, .inl ri)), (hT, .inr (0, [.ref hs, .ref hu, .ref ho, .int (nI ac)])), (hs, .inl (cI, 64, .inl ai)), (hu, .inl (cU, 512, .inl ut)), (ho, .inl (cO, 64, .inl ol)), (hC, .inr (1, [.ref hn, .ref ha, .ref hk, .int (nI cc)])), (hn, .inl (cN, 100, .inr (.inl cn))), (ha, .inl (cA, 100, .inl ca)), (hk, .inl (cK, 100, .inl cb))] = A at hD hS ⊢
  refine lv_lload_n hx hb d_CD_good_0 rfl (lv_at hl 1 rfl) ?_
  refine lv_iconst (v := 1) hx hb d_CD_good_1 (by decide) ?_
  refine lv_bipush (v := 18) hx hb d_CD_good_2 (by decide) ?_
  refine zt_callv (zr_TS (n := 3) (As := [.long x, .int 1, .int 18]) (rest := []) CF (c_CD_requireDigits l dC dI hl0 x 1 18 (by decide) (by decide)) mc_CD_requireDigits lk_CD_91 mt_CD_requireDigits ni_CD (by decide +kernel) ⟨Nat.le_of_ble_eq_true rfl, Nat.le_of_ble_eq_true rfl⟩ (hP.sub (ws' := []) [] rfl) (hK.sub (tys' := []) [] rfl) hSt (fun _ _ => rfl) rfl rfl hl.1 rfl (lv_room (Nat.le_of_ble_eq_true rfl)) d_CD_good_4 ⟨Nat.le_of_ble_eq_true rfl, Nat.le_of_ble_eq_true rfl⟩) (fun hok => ?_) (fun x H1 hno hth => zt_leave (fun t ht hW => Or.inr (Or.inl ⟨by rw [if_neg hno], x, rfl, hth.to ht hW⟩)) (fun _ h => by cases h) (fun z hz => hout z hz _) hlocks (Nat.le_of_ble_eq_true rfl) (Nat.le_of_ble_eq_true rfl))
  refine lv_lload_n hx hb d_CD_good_7 rfl (lv_at hl 1 rfl) ?_
  refine vp_callSi (va_Run.run (zr_S (n := 1) (As := [.long x]) (rest := []) CF (c_CD_isGood l dC dI x) mc_CD_isGood lk_CD_101 mt_CD_isGood ni_CD rfl rfl (by decide +kernel) ⟨Nat.le_of_ble_eq_true rfl, Nat.le_of_ble_eq_true rfl⟩ (hP.sub (ws' := []) [] rfl) (hK.sub (tys' := []) [] rfl) rfl rfl hl.1 rfl (lv_room (Nat.le_of_ble_eq_true rfl)) d_CD_good_8 ⟨Nat.zero_le _, Nat.zero_le _⟩)) (fun r_8 h_8 => ?_)
  exact zt_ret (W.zret (v := r_8) (ty := .boolean) hx hb hr (by rw [h_8]; split <;> rfl) (fun t ht hW => Or.inl ⟨by rw [if_pos hok], (), by rw [h_8], by show va_P _ _ _ t.heap; rw [ht]; exact hP, hS.F ht⟩) hS.2.2 d_CD_good_11)
set_option maxHeartbeats 4000000 in
set_option maxRecDepth 100000 in
theorem c_CD_digit (l : Launch) (dC : Nat → ClassId) (dI : Nat → Nat → Nat) (hl0 : l.stackTraces = false) (hX : Nat) (wi ma no : Int32) (hR hp hq hi : Nat) (cP cQ cS : ClassId) (rc : Nat) (rp rl ri : Nat → Int32) (hrc : rc ≤ 40) (hT hs hu ho : Nat) (cI cU cO : ClassId) (ac : Nat) (ai ut ol : Nat → Int32) (hac : ac ≤ 64) (hC hn ha hk : Nat) (cN cA cK : ClassId) (cc : Nat) (cn : Nat → Int64) (ca cb : Nat → Int32) (hcc : cc ≤ 100) (x : Int64) (hD0 : va_D (fun _ => True) [(hX, .inr (3, [.int wi, .int ma, .ref hR, .ref hT, .ref hC, .int no])), (hR, .inr (2, [.ref hp, .ref hq, .ref hi, .int (nI rc)])), (hp, .inl (cP, 40, .inl rp)), (hq, .inl (cQ, 40, .inl rl)), (hi, .inl (cS, 40, .inl ri)), (hT, .inr (0, [.ref hs, .ref hu, .ref ho, .int (nI ac)])), (hs, .inl (cI, 64, .inl ai)), (hu, .inl (cU, 512, .inl ut)), (ho, .inl (cO, 64, .inl ol)), (hC, .inr (1, [.ref hn, .ref ha, .ref hk, .int (nI cc)])), (hn, .inl (cN, 100, .inr (.inl cn))), (ha, .inl (cA, 100, .inl ca)), (hk, .inl (cK, 100, .inl cb))]) : MetT l y_CD_digit (zw y_CD_digit b_CD_digit 3 (some .int)) ({ frames := 7, cells := 1, slots := 6, locals := 106 }) (zPreT [.ref hX, .long x] (dC, dI) [(hX, .inr (3, [.int wi, .int ma, .ref hR, .ref hT, .ref hC, .int no])), (hR, .inr (2, [.ref hp, .ref hq, .ref hi, .int (nI rc)])), (hp, .inl (cP, 40, .inl rp)), (hq, .inl (cQ, 40, .inl rl)), (hi, .inl (cS, 40, .inl ri)), (hT, .inr (0, [.ref hs, .ref hu, .ref ho, .int (nI ac)])), (hs, .inl (cI, 64, .inl ai)), (hu, .inl (cU, 512, .inl ut)), (ho, .inl (cO, 64, .inl ol)), (hC, .inr (1, [.ref hn, .ref ha, .ref hk, .int (nI cc)])), (hn, .inl (cN, 100, .inr (.inl cn))), (ha, .inl (cA, 100, .inl ca)), (hk, .inl (cK, 100, .inl cb))] [(cP, .int), (cQ, .int), (cS, .int), (cI, .int), (cU, .int), (cO, .int), (cN, .long), (cA, .int), (cK, .boolean)]) (zt_Q3 (S := Unit) (if zok_D x 1 17 then 0 else 1) (fun _ => some (.int (nI ((10 - zd_cs 19 false (zd_N x * 10) % 10) % 10)))) (fun (_ : Unit) (t : State) => va_P (dC, dI) vwCl [(hX, .inr (3, [.int wi, .int ma, .ref hR, .ref hT, .ref hC, .int no])), (hR, .inr (2, [.ref hp, .ref hq, .ref hi, .int (nI rc)])), (hp, .inl (cP, 40, .inl rp)), (hq, .inl (cQ, 40, .inl rl)), (hi, .inl (cS, 40, .inl ri)), (hT, .inr (0, [.ref hs, .ref hu, .ref ho, .int (nI ac)])), (hs, .inl (cI, 64, .inl ai)), (hu, .inl (cU, 512, .inl ut)), (ho, .inl (cO, 64, .inl ol)), (hC, .inr (1, [.ref hn, .ref ha, .ref hk, .int (nI cc)])), (hn, .inl (cN, 100, .inr (.inl cn))), (ha, .inl (cA, 100, .inl ca)), (hk, .inl (cK, 100, .inl cb))] t.heap) (zA [(hX, .inr (3, [.int wi, .int ma, .ref hR, .ref hT, .ref hC, .int no])), (hR, .inr (2, [.ref hp, .ref hq, .ref hi, .int (nI rc)])), (hp, .inl (cP, 40, .inl rp)), (hq, .inl (cQ, 40, .inl rl)), (hi, .inl (cS, 40, .inl ri)), (hT, .inr (0, [.ref hs, .ref hu, .ref ho, .int (nI ac)])), (hs, .inl (cI, 64, .inl ai)), (hu, .inl (cU, 512, .inl ut)), (ho, .inl (cO, 64, .inl ol)), (hC, .inr (1, [.ref hn, .ref ha, .ref hk, .int (nI cc)])), (hn, .inl (cN, 100, .inr (.inl cn))), (ha, .inl (cA, 100, .inl ca)), (hk, .inl (cK, 100, .inl cb))])) 0 0 (zA [(hX, .inr (3, [.int wi, .int ma, .ref hR, .ref hT, .ref hC, .int no])), (hR, .inr (2, [.ref hp, .ref hq, .ref hi, .int (nI rc)])), (hp, .inl (cP, 40, .inl rp)), (hq, .inl (cQ, 40, .inl rl)), (hi, .inl (cS, 40, .inl ri)), (hT, .inr (0, [.ref hs, .ref hu, .ref ho, .int (nI ac)])), (hs, .inl (cI, 64, .inl ai)), (hu, .inl (cU, 512, .inl ut)), (ho, .inl (cO, 64, .inl ol)), (hC, .inr (1, [.ref hn, .ref ha, .ref hk, .int (nI cc)])), (hn, .inl (cN, 100, .inr (.inl cn))), (ha, .inl (cA, 100, .inl ca)), (hk, .inl (cK, 100, .inl cb))]) := by
  refine zt_ofW (cc := b_CD_digit) (maxL := 3) (ret := (some .int)) (by decide) rfl ?_
  intro p e s m args below meth c s₁ B hml hout hv
  obtain ⟨rfl, ⟨hP, hK⟩, hSt⟩ := hv
  have hx := B.exec
  have hb := B.bytes
  have hr := B.returns
  have hts := atoms_spec (ws := (zw y_CD_digit b_CD_digit 3 (some .int))) B.pre
  have htB : ∀ w ∈ BG, w.before ([.ref hX, .long x] : List Value).toArray s = true := fun w h => hts w (List.mem_cons_of_mem _ h)
  have hown : s.vm.findClass R_CD = some m.cls := findClass_of_methodNamed B.named
  have hlocks := B.notSynchronized
  have htr : e.platform.stackTraces = false := (show e.platform.stackTraces = l.stackTraces by rw [B.admits.platform]).trans hl0
  have CF : CallFix p m c b_CD_digit 3 s ([.ref hX, .long x] : List Value).toArray BG R_CD := ⟨hx, hb, hml, hown, htB⟩
  have hP : va_P (dC, dI) vwCl [(hX, .inr (3, [.int wi, .int ma, .ref hR, .ref hT, .ref hC, .int no])), (hR, .inr (2, [.ref hp, .ref hq, .ref hi, .int (nI rc)])), (hp, .inl (cP, 40, .inl rp)), (hq, .inl (cQ, 40, .inl rl)), (hi, .inl (cS, 40, .inl ri)), (hT, .inr (0, [.ref hs, .ref hu, .ref ho, .int (nI ac)])), (hs, .inl (cI, 64, .inl ai)), (hu, .inl (cU, 512, .inl ut)), (ho, .inl (cO, 64, .inl ol)), (hC, .inr (1, [.ref hn, .ref ha, .ref hk, .int (nI cc)])), (hn, .inl (cN, 100, .inr (.inl cn))), (ha, .inl (cA, 100, .inl ca)), (hk, .inl (cK, 100, .inl cb))] s.heap := hP
  have hl := lv_entry [.ref hX, .long x] (n := 3) (Nat.le_of_ble_eq_true rfl)
  rw [lg_entry_eq]
  generalize (lg_sl [.ref hX, .long x] ++ List.replicate (3 - (lg_sl [.ref hX, .long x]).length) Slot.unset).toArray = ls at hl ⊢
  have hl : lv_has ls 3 [(0, .ref hX), (1, .long x)] := hl
  have hD : va_D (zA [(hX, .inr (3, [.int wi, .int ma, .ref hR, .ref hT, .ref hC, .int no])), (hR, .inr (2, [.ref hp, .ref hq, .ref hi, .int (nI rc)])), (hp, .inl (cP, 40, .inl rp)), (hq, .inl (cQ, 40, .inl rl)), (hi, .inl (cS, 40, .inl ri)), (hT, .inr (0, [.ref hs, .ref hu, .ref ho, .int (nI ac)])), (hs, .inl (cI, 64, .inl ai)), (hu, .inl (cU, 512, .inl ut)), (ho, .inl (cO, 64, .inl ol)), (hC, .inr (1, [.ref hn, .ref ha, .ref hk, .int (nI cc)])), (hn, .inl (cN, 100, .inr (.inl cn))), (ha, .inl (cA, 100, .inl ca)), (hk, .inl (cK, 100, .inl cb))]) [(hX, .inr (3, [.int wi, .int ma, .ref hR, .ref hT, .ref hC, .int no])), (hR, .inr (2, [.ref hp, .ref hq, .ref hi, .int (nI rc)])), (hp, .inl (cP, 40, .inl rp)), (hq, .inl (cQ, 40, .inl rl)), (hi, .inl (cS, 40, .inl ri)), (hT, .inr (0, [.ref hs, .ref hu, .ref ho, .int (nI ac)])), (hs, .inl (cI, 64, .inl ai)), (hu, .inl (cU, 512, .inl ut)), (ho, .inl (cO, 64, .inl ol)), (hC, .inr (1, [.ref hn, .ref ha, .ref hk, .int (nI cc)])), (hn, .inl (cN, 100, .inr (.inl cn))), (ha, .inl (cA, 100, .inl ca)), (hk, .inl (cK, 100, .inl cb))] := zA_of hD0
  have hS : va_S (zA [(hX, .inr (3, [.int wi, .int ma, .ref hR, .ref hT, .ref hC, .int no])), (hR, .inr (2, [.ref hp, .ref hq, .ref hi, .int (nI rc)])), (hp, .inl (cP, 40, .inl rp)), (hq, .inl (cQ, 40, .inl rl)), (hi, .inl (cS, 40, .inl ri)), (hT, .inr (0, [.ref hs, .ref hu, .ref ho, .int (nI ac)])), (hs, .inl (cI, 64, .inl ai)), (hu, .inl (cU, 512, .inl ut)), (ho, .inl (cO, 64, .inl ol)), (hC, .inr (1, [.ref hn, .ref ha, .ref hk, .int (nI cc)])), (hn, .inl (cN, 100, .inr (.inl cn))), (ha, .inl (cA, 100, .inl ca)), (hk, .inl (cK, 100, .inl cb))]) s.heap s.heap [] := va_S.rf
  generalize zA [(hX, .inr (3, [.int wi, .int ma, .ref hR, .ref hT, .ref hC, .int no])), (hR, .inr (2, [.ref hp, .ref hq, .ref hi, .int (nI rc)])), (hp, .inl (cP, 40, .inl rp)), (hq, .inl (cQ, 40, .inl rl)), (hi, .inl (cS, 40, .inl ri)), (hT, .inr (0, [.ref hs, .ref hu, .ref ho, .int (nI ac)])), (hs, .inl (cI, 64, .inl ai)), (hu, .inl (cU, 512, .inl ut)), (ho, .inl (cO, 64, .inl ol)), (hC, .inr (1, [.ref hn, .ref ha, .ref hk, .int (nI cc)])), (hn, .inl (cN, 100, .inr (.inl cn))), (ha, .inl (cA, 100, .inl ca)), (hk, .inl (cK, 100, .inl cb))] = A at hD hS ⊢
  refine lv_lload_n hx hb d_CD_digit_0 rfl (lv_at hl 1 rfl) ?_
  refine lv_iconst (v := 1) hx hb d_CD_digit_1 (by decide) ?_
  refine lv_bipush (v := 17) hx hb d_CD_digit_2 (by decide) ?_
  refine zt_callv (zr_TS (n := 3) (As := [.long x, .int 1, .int 17]) (rest := []) CF (c_CD_requireDigits l dC dI hl0 x 1 17 (by decide) (by decide)) mc_CD_requireDigits lk_CD_91 mt_CD_requireDigits ni_CD (by decide +kernel) ⟨Nat.le_of_ble_eq_true rfl, Nat.le_of_ble_eq_true rfl⟩ (hP.sub (ws' := []) [] rfl) (hK.sub (tys' := []) [] rfl) hSt (fun _ _ => rfl) rfl rfl hl.1 rfl (lv_room (Nat.le_of_ble_eq_true rfl)) d_CD_digit_4 ⟨Nat.le_of_ble_eq_true rfl, Nat.le_of_ble_eq_true rfl⟩) (fun hok => ?_) (fun x H1 hno hth => zt_leave (fun t ht hW => Or.inr (Or.inl ⟨by rw [if_neg hno], x, rfl, hth.to ht hW⟩)) (fun _ h => by cases h) (fun z hz => hout z hz _) hlocks (Nat.le_of_ble_eq_true rfl) (Nat.le_of_ble_eq_true rfl))
  have hk0 : (if zok_D x 1 17 then 0 else 1 : Nat) = 0 := if_pos hok
  obtain ⟨ex, hN63, hNp⟩ := zl_of (by decide) hok
  rw [hk0]
  have h17 := zd_pw 19 17 (zd_N x) (by omega) hok.2
  generalize zd_N x = N at ex hN63 hNp h17 ⊢
  subst ex
  refine lv_bipush (v := 10) hx hb d_CD_digit_7 (by decide) ?_
  refine lv_lload_n hx hb d_CD_digit_9 rfl (lv_at hl 1 rfl) ?_
  refine lv_ldc2 (v := 10) hx hb hown (htB _ kl_CD_123) d_CD_digit_10 ?_
  refine lv_lmul hx hb d_CD_digit_13 ?_
  rw [show ((lN N) * 10 : Int64) = lN (N * 10) from lN_mul N 10]
  refine vp_callSi (va_Run.run (zr_S (n := 1) (As := [.long (lN (N * 10))]) (rest := [.int 10]) CF (c_CD_checkSum l dC dI (lN (N * 10))) mc_CD_checkSum lk_CD_125 mt_CD_checkSum ni_CD rfl rfl (by decide +kernel) ⟨Nat.le_of_ble_eq_true rfl, Nat.le_of_ble_eq_true rfl⟩ (hP.sub (ws' := []) [] rfl) (hK.sub (tys' := []) [] rfl) rfl rfl hl.1 rfl (lv_room (Nat.le_of_ble_eq_true rfl)) d_CD_digit_14 ⟨Nat.zero_le _, Nat.zero_le _⟩)) (fun r_14 h_14 => ?_)
  rw [zd_lN (by omega)] at h_14
  subst h_14
  have hcs := zd_cs_le 19 false (N * 10)
  refine lv_bipush (v := 10) hx hb d_CD_digit_17 (by decide) ?_
  refine lv_irem hx hb d_CD_digit_19 (by decide) ?_
  rw [show (nI (zd_cs 19 false (N * 10)) - nI (zd_cs 19 false (N * 10)) / 10 * 10 : Int32) = nI (zd_cs 19 false (N * 10) % 10) from pk_rem (d := 10) (by omega) (by decide) (by decide)]
  refine lv_isub hx hb d_CD_digit_20 ?_
  rw [show (10 - (nI (zd_cs 19 false (N * 10) % 10)) : Int32) = nI (10 - zd_cs 19 false (N * 10) % 10) from pk_sub (show zd_cs 19 false (N * 10) % 10 ≤ 10 by omega)]
  refine lv_bipush (v := 10) hx hb d_CD_digit_21 (by decide) ?_
  refine lv_irem hx hb d_CD_digit_23 (by decide) ?_
  rw [show ((nI (10 - zd_cs 19 false (N * 10) % 10)) - (nI (10 - zd_cs 19 false (N * 10) % 10)) / 10 * 10 : Int32) = nI ((10 - zd_cs 19 false (N * 10) % 10) % 10) from pk_rem (d := 10) (by omega) (by decide) (by decide)]
  exact zt_ret (W.iret (v := nI ((10 - zd_cs 19 false (N * 10) % 10) % 10)) hx hb hr (fun t ht hW => Or.inl ⟨rfl, (), rfl, by show va_P _ _ _ t.heap; rw [ht]; exact hP, hS.F ht⟩) hS.2.2 d_CD_digit_24)
end
section
theorem x_RT_issuerFor (l : Launch) (dC : Nat → ClassId) (dI : Nat → Nat → Nat) (hR hp hq hi : Nat) (cP cQ cS : ClassId) (rc : Nat) (rp rl ri : Nat → Int32) (hrc : rc ≤ 40) (x : Int64) (hx0 : 1 ≤ zd_dg 19 (zd_N x)) : Met l y_RT_issuerFor (zw y_RT_issuerFor b_RT_issuerFor 7 (some .int)) ({ frames := 1, cells := 0, slots := 0, locals := 24 }) (zPre [.ref hR, .long x] (dC, dI) [(hR, .inr (2, [.ref hp, .ref hq, .ref hi, .int (nI rc)])), (hp, .inl (cP, 40, .inl rp)), (hq, .inl (cQ, 40, .inl rl)), (hi, .inl (cS, 40, .inl ri))] [(cP, .int), (cQ, .int), (cS, .int)]) (vp_Si (fun r => r = zf_iss rc rp rl ri (zd_dg 19 (zd_N x)) (zd_N x))) 0 0 (fun _ => False) := by
  have h9 := c_RT_issuerFor l dC dI hR hp hq hi cP cQ cS rc rp rl ri hrc (zd_N x) (zl_of (Nat.le_refl 1) ⟨hx0, zd_dg_le 19 (zd_N x)⟩).2.1
  rwa [← (zl_of (Nat.le_refl 1) ⟨hx0, zd_dg_le 19 (zd_N x)⟩).1] at h9
theorem x_AT_issuerOf (l : Launch) (dC : Nat → ClassId) (dI : Nat → Nat → Nat) (hT hs hu ho : Nat) (cI cU cO : ClassId) (ac : Nat) (ai ut ol : Nat → Int32) (hac : ac ≤ 64) (z : Int32) (hz : 0 ≤ z.toInt ∧ z.toInt < ac) : Met l y_AT_issuerOf (zw y_AT_issuerOf b_AT_issuerOf 2 (some .int)) ({ frames := 1, cells := 0, slots := 0, locals := 21 }) (zPre [.ref hT, .int z] (dC, dI) [(hT, .inr (0, [.ref hs, .ref hu, .ref ho, .int (nI ac)])), (hs, .inl (cI, 64, .inl ai)), (hu, .inl (cU, 512, .inl ut)), (ho, .inl (cO, 64, .inl ol))] [(cI, .int), (cU, .int), (cO, .int)]) (vp_Si (fun r => r = ai z.toInt.toNat)) 0 0 (fun _ => False) := by
  have h9 := c_AT_issuerOf l dC dI hT hs hu ho cI cU cO ac ai ut ol hac z.toInt.toNat (zi_of hz).2
  rwa [← (zi_of hz).1] at h9
theorem x_AT_usesSince (l : Launch) (dC : Nat → ClassId) (dI : Nat → Nat → Nat) (hT hs hu ho : Nat) (cI cU cO : ClassId) (ac : Nat) (ai ut ol : Nat → Int32) (hac : ac ≤ 64) (z : Int32) (hz : 0 ≤ z.toInt ∧ z.toInt < ac) (T : Int32) : Met l y_AT_usesSince (zw y_AT_usesSince b_AT_usesSince 6 (some .int)) ({ frames := 1, cells := 0, slots := 0, locals := 21 }) (zPre [.ref hT, .int z, .int T] (dC, dI) [(hT, .inr (0, [.ref hs, .ref hu, .ref ho, .int (nI ac)])), (hs, .inl (cI, 64, .inl ai)), (hu, .inl (cU, 512, .inl ut)), (ho, .inl (cO, 64, .inl ol))] [(cI, .int), (cU, .int), (cO, .int)]) (vp_Si (fun r => r = nI (zu_cnt ut T (8 * z.toInt.toNat) 8))) 0 0 (fun _ => False) := by
  have h9 := c_AT_usesSince l dC dI hT hs hu ho cI cU cO ac ai ut ol hac z.toInt.toNat (zi_of hz).2 T
  rwa [← (zi_of hz).1] at h9
theorem x_CT_accountOf (l : Launch) (dC : Nat → ClassId) (dI : Nat → Nat → Nat) (hC hn ha hk : Nat) (cN cA cK : ClassId) (cc : Nat) (cn : Nat → Int64) (ca cb : Nat → Int32) (hcc : cc ≤ 100) (z : Int32) (hz : 0 ≤ z.toInt ∧ z.toInt < cc) : Met l y_CT_accountOf (zw y_CT_accountOf b_CT_accountOf 2 (some .int)) ({ frames := 1, cells := 0, slots := 0, locals := 21 }) (zPre [.ref hC, .int z] (dC, dI) [(hC, .inr (1, [.ref hn, .ref ha, .ref hk, .int (nI cc)])), (hn, .inl (cN, 100, .inr (.inl cn))), (ha, .inl (cA, 100, .inl ca)), (hk, .inl (cK, 100, .inl cb))] [(cN, .long), (cA, .int), (cK, .boolean)]) (vp_Si (fun r => r = ca z.toInt.toNat)) 0 0 (fun _ => False) := by
  have h9 := c_CT_accountOf l dC dI hC hn ha hk cN cA cK cc cn ca cb hcc z.toInt.toNat (zi_of hz).2
  rwa [← (zi_of hz).1] at h9
theorem x_CT_numberOf (l : Launch) (dC : Nat → ClassId) (dI : Nat → Nat → Nat) (hC hn ha hk : Nat) (cN cA cK : ClassId) (cc : Nat) (cn : Nat → Int64) (ca cb : Nat → Int32) (hcc : cc ≤ 100) (z : Int32) (hz : 0 ≤ z.toInt ∧ z.toInt < cc) : Met l y_CT_numberOf (zw y_CT_numberOf b_CT_numberOf 2 (some .long)) ({ frames := 1, cells := 0, slots := 0, locals := 21 }) (zPre [.ref hC, .int z] (dC, dI) [(hC, .inr (1, [.ref hn, .ref ha, .ref hk, .int (nI cc)])), (hn, .inl (cN, 100, .inr (.inl cn))), (ha, .inl (cA, 100, .inl ca)), (hk, .inl (cK, 100, .inl cb))] [(cN, .long), (cA, .int), (cK, .boolean)]) (vp_Sl (fun r => r = cn z.toInt.toNat)) 0 0 (fun _ => False) := by
  have h9 := c_CT_numberOf l dC dI hC hn ha hk cN cA cK cc cn ca cb hcc z.toInt.toNat (zi_of hz).2
  rwa [← (zi_of hz).1] at h9
theorem x_CT_isBlocked (l : Launch) (dC : Nat → ClassId) (dI : Nat → Nat → Nat) (hC hn ha hk : Nat) (cN cA cK : ClassId) (cc : Nat) (cn : Nat → Int64) (ca cb : Nat → Int32) (hcc : cc ≤ 100) (z : Int32) (hz : 0 ≤ z.toInt ∧ z.toInt < cc) : Met l y_CT_isBlocked (zw y_CT_isBlocked b_CT_isBlocked 2 (some .boolean)) ({ frames := 1, cells := 0, slots := 0, locals := 21 }) (zPre [.ref hC, .int z] (dC, dI) [(hC, .inr (1, [.ref hn, .ref ha, .ref hk, .int (nI cc)])), (hn, .inl (cN, 100, .inr (.inl cn))), (ha, .inl (cA, 100, .inl ca)), (hk, .inl (cK, 100, .inl cb))] [(cN, .long), (cA, .int), (cK, .boolean)]) (vp_Si (fun r => r = if cb z.toInt.toNat = 0 then 0 else 1)) 0 0 (fun _ => False) := by
  have h9 := c_CT_isBlocked l dC dI hC hn ha hk cN cA cK cc cn ca cb hcc z.toInt.toNat (zi_of hz).2
  rwa [← (zi_of hz).1] at h9
/-- the place of a card, or how many there are -/
def zc_at (cc : Nat) (cn : Nat → Int64) (x : Int64) : Nat := zf_ix (fun j => decide (cn j = x)) cc
theorem zc_le (cc : Nat) (cn : Nat → Int64) (x : Int64) : zc_at cc cn x ≤ cc := zf_le _ _
theorem zc_is {cc : Nat} {cn : Nat → Int64} {x : Int64} (h : zc_at cc cn x < cc) : cn (zc_at cc cn x) = x := by
  have h1 := (zf_spec (fun j => decide (cn j = x)) cc).1 h
  rw [decide_eq_true_eq] at h1
  exact h1
/-- how a card is taken: 0 it is new; 1 bad, 2 nowhere, 3 elsewhere, 4 double -/
def zc_c (rc : Nat) (rp rl ri ai : Nat → Int32) (cc : Nat) (cn : Nat → Int64) (x : Int64) (a : Nat) : Nat :=
  if ¬ zd_cs 19 false (zd_N x) % 10 = 0 then 1 else if zf_iss rc rp rl ri (zd_dg 19 (zd_N x)) (zd_N x) = -1 then 2 else if ¬ zf_iss rc rp rl ri (zd_dg 19 (zd_N x)) (zd_N x) = ai a then 3 else if zc_at cc cn x < cc then 4 else 0
def zc_v (cc k : Nat) : Int32 := if k = 1 then -5 else if k = 2 then -6 else if k = 3 then -7 else if k = 4 then -8 else nI cc
/-- how a use is answered: 0 done; 1 no route, 2 no card, 3 blocked, 4 too often -/
def zu_c (rc : Nat) (rp rl ri ut : Nat → Int32) (cc : Nat) (cn : Nat → Int64) (ca cb : Nat → Int32) (wi ma : Int32) (x : Int64) (T : Int32) : Nat :=
  if zf_iss rc rp rl ri (zd_dg 19 (zd_N x)) (zd_N x) = -1 then 1 else if ¬ zc_at cc cn x < cc then 2 else if ¬ cb (zc_at cc cn x) = 0 then 3 else if ma ≤ nI (zu_cnt ut (T - wi) (8 * (ca (zc_at cc cn x)).toInt.toNat) 8) then 4 else 0
def zu_v (k : Nat) : Int32 := if k = 1 then 92 else if k = 2 then 14 else if k = 3 then 62 else if k = 4 then 65 else 0
/-- what is told -/
def zt_v (rc : Nat) (rp rl ri : Nat → Int32) (cn : Nat → Int64) (ca cb : Nat → Int32) (j : Nat) (w : Int32) : Int64 :=
  if w = 0 then (ca j).toInt64 else if w = 1 then (nI (zd_dg 19 (zd_N (cn j)))).toInt64 else if w = 2 then (if cb j = 0 then 0 else 1) else (zf_iss rc rp rl ri (zd_dg 19 (zd_N (cn j))) (zd_N (cn j))).toInt64
theorem zw_cases {w : Int32} (h : 0 ≤ w.toInt ∧ w.toInt ≤ 3) : w = 0 ∨ w = 1 ∨ w = 2 ∨ w = 3 := by
  have h1 := zi_of (x := w) (n := 4) ⟨h.1, by omega⟩
  rcases (show w.toInt.toNat = 0 ∨ w.toInt.toNat = 1 ∨ w.toInt.toNat = 2 ∨ w.toInt.toNat = 3 by omega) with e | e | e | e <;> rw [e] at h1
  · exact Or.inl h1.1
  · exact Or.inr (Or.inl h1.1)
  · exact Or.inr (Or.inr (Or.inl h1.1))
  · exact Or.inr (Or.inr (Or.inr h1.1))
set_option maxHeartbeats 4000000 in
set_option maxRecDepth 100000 in
theorem c_CD_card (l : Launch) (dC : Nat → ClassId) (dI : Nat → Nat → Nat) (hl0 : l.stackTraces = false) (hX : Nat) (wi ma no : Int32) (hR hp hq hi : Nat) (cP cQ cS : ClassId) (rc : Nat) (rp rl ri : Nat → Int32) (hrc : rc ≤ 40) (hT hs hu ho : Nat) (cI cU cO : ClassId) (ac : Nat) (ai ut ol : Nat → Int32) (hac : ac ≤ 64) (hC hn ha hk : Nat) (cN cA cK : ClassId) (cc : Nat) (cn : Nat → Int64) (ca cb : Nat → Int32) (hcc : cc ≤ 100) (x : Int64) (z : Int32) (hD0 : va_D (fun _ => True) [(hX, .inr (3, [.int wi, .int ma, .ref hR, .ref hT, .ref hC, .int no])), (hR, .inr (2, [.ref hp, .ref hq, .ref hi, .int (nI rc)])), (hp, .inl (cP, 40, .inl rp)), (hq, .inl (cQ, 40, .inl rl)), (hi, .inl (cS, 40, .inl ri)), (hT, .inr (0, [.ref hs, .ref hu, .ref ho, .int (nI ac)])), (hs, .inl (cI, 64, .inl ai)), (hu, .inl (cU, 512, .inl ut)), (ho, .inl (cO, 64, .inl ol)), (hC, .inr (1, [.ref hn, .ref ha, .ref hk, .int (nI cc)])), (hn, .inl (cN, 100, .inr (.inl cn))), (ha, .inl (cA, 100, .inl ca)), (hk, .inl (cK, 100, .inl cb))]) : MetT l y_CD_card (zw y_CD_card b_CD_card 5 (some .int)) ({ frames := 7, cells := 1, slots := 6, locals := 106 }) (zPreT [.ref hX, .long x, .int z] (dC, dI) [(hX, .inr (3, [.int wi, .int ma, .ref hR, .ref hT, .ref hC, .int no])), (hR, .inr (2, [.ref hp, .ref hq, .ref hi, .int (nI rc)])), (hp, .inl (cP, 40, .inl rp)), (hq, .inl (cQ, 40, .inl rl)), (hi, .inl (cS, 40, .inl ri)), (hT, .inr (0, [.ref hs, .ref hu, .ref ho, .int (nI ac)])), (hs, .inl (cI, 64, .inl ai)), (hu, .inl (cU, 512, .inl ut)), (ho, .inl (cO, 64, .inl ol)), (hC, .inr (1, [.ref hn, .ref ha, .ref hk, .int (nI cc)])), (hn, .inl (cN, 100, .inr (.inl cn))), (ha, .inl (cA, 100, .inl ca)), (hk, .inl (cK, 100, .inl cb))] [(cP, .int), (cQ, .int), (cS, .int), (cI, .int), (cU, .int), (cO, .int), (cN, .long), (cA, .int), (cK, .boolean)]) (zt_Q3 (S := Unit) (if (zok_D x 12 18 ∧ (0 ≤ z.toInt ∧ z.toInt < ac)) then (if cc < 100 then 0 else 2) else 1) (fun _ => some (.int (zc_v cc (zc_c rc rp rl ri ai cc cn x z.toInt.toNat)))) (fun (_ : Unit) (t : State) => va_P (dC, dI) vwCl [(hX, .inr (3, [.int wi, .int ma, .ref hR, .ref hT, .ref hC, .int no])), (hR, .inr (2, [.ref hp, .ref hq, .ref hi, .int (nI rc)])), (hp, .inl (cP, 40, .inl rp)), (hq, .inl (cQ, 40, .inl rl)), (hi, .inl (cS, 40, .inl ri)), (hT, .inr (0, [.ref hs, .ref hu, .ref ho, .int (nI ac)])), (hs, .inl (cI, 64, .inl ai)), (hu, .inl (cU, 512, .inl ut)), (ho, .inl (cO, 64, .inl ol)), (hC, .inr (1, [.ref hn, .ref ha, .ref hk, .int (nI (if zc_c rc rp rl ri ai cc cn x z.toInt.toNat = 0 then cc + 1 else cc))])), (hn, .inl (cN, 100, .inr (.inl (if zc_c rc rp rl ri ai cc cn x z.toInt.toNat = 0 then vp_updL cn cc x else cn)))), (ha, .inl (cA, 100, .inl (if zc_c rc rp rl ri ai cc cn x z.toInt.toNat = 0 then upd ca cc z else ca))), (hk, .inl (cK, 100, .inl cb))] t.heap) (zA [(hX, .inr (3, [.int wi, .int ma, .ref hR, .ref hT, .ref hC, .int no])), (hR, .inr (2, [.ref hp, .ref hq, .ref hi, .int (nI rc)])), (hp, .inl (cP, 40, .inl rp)), (hq, .inl (cQ, 40, .inl rl)), (hi, .inl (cS, 40, .inl ri)), (hT, .inr (0, [.ref hs, .ref hu, .ref ho, .int (nI ac)])), (hs, .inl (cI, 64, .inl ai)), (hu, .inl (cU, 512, .inl ut)), (ho, .inl (cO, 64, .inl ol)), (hC, .inr (1, [.ref hn, .ref ha, .ref hk, .int (nI cc)])), (hn, .inl (cN, 100, .inr (.inl cn))), (ha, .inl (cA, 100, .inl ca)), (hk, .inl (cK, 100, .inl cb))])) 0 0 (zA [(hX, .inr (3, [.int wi, .int ma, .ref hR, .ref hT, .ref hC, .int no])), (hR, .inr (2, [.ref hp, .ref hq, .ref hi, .int (nI rc)])), (hp, .inl (cP, 40, .inl rp)), (hq, .inl (cQ, 40, .inl rl)), (hi, .inl (cS, 40, .inl ri)), (hT, .inr (0, [.ref hs, .ref hu, .ref ho, .int (nI ac)])), (hs, .inl (cI, 64, .inl ai)), (hu, .inl (cU, 512, .inl ut)), (ho, .inl (cO, 64, .inl ol)), (hC, .inr (1, [.ref hn, .ref ha, .ref hk, .int (nI cc)])), (hn, .inl (cN, 100, .inr (.inl cn))), (ha, .inl (cA, 100, .inl ca)), (hk, .inl (cK, 100, .inl cb))]) := by
  refine zt_ofW (cc := b_CD_card) (maxL := 5) (ret := (some .int)) (by decide) rfl ?_
  intro p e s m args below meth c s₁ B hml hout hv
  obtain ⟨rfl, ⟨hP, hK⟩, hSt⟩ := hv
  have hx := B.exec
  have hb := B.bytes
  have hr := B.returns
  have hts := atoms_spec (ws := (zw y_CD_card b_CD_card 5 (some .int))) B.pre
  have htB : ∀ w ∈ BG, w.before ([.ref hX, .long x, .int z] : List Value).toArray s = true := fun w h => hts w (List.mem_cons_of_mem _ h)
  have hown : s.vm.findClass R_CD = some m.cls := findClass_of_methodNamed B.named
  have hlocks := B.notSynchronized
  have htr : e.platform.stackTraces = false := (show e.platform.stackTraces = l.stackTraces by rw [B.admits.platform]).trans hl0
  have CF : CallFix p m c b_CD_card 5 s ([.ref hX, .long x, .int z] : List Value).toArray BG R_CD := ⟨hx, hb, hml, hown, htB⟩
  have hP : va_P (dC, dI) vwCl [(hX, .inr (3, [.int wi, .int ma, .ref hR, .ref hT, .ref hC, .int no])), (hR, .inr (2, [.ref hp, .ref hq, .ref hi, .int (nI rc)])), (hp, .inl (cP, 40, .inl rp)), (hq, .inl (cQ, 40, .inl rl)), (hi, .inl (cS, 40, .inl ri)), (hT, .inr (0, [.ref hs, .ref hu, .ref ho, .int (nI ac)])), (hs, .inl (cI, 64, .inl ai)), (hu, .inl (cU, 512, .inl ut)), (ho, .inl (cO, 64, .inl ol)), (hC, .inr (1, [.ref hn, .ref ha, .ref hk, .int (nI cc)])), (hn, .inl (cN, 100, .inr (.inl cn))), (ha, .inl (cA, 100, .inl ca)), (hk, .inl (cK, 100, .inl cb))] s.heap := hP
  have hl := lv_entry [.ref hX, .long x, .int z] (n := 5) (Nat.le_of_ble_eq_true rfl)
  rw [lg_entry_eq]
  generalize (lg_sl [.ref hX, .long x, .int z] ++ List.replicate (5 - (lg_sl [.ref hX, .long x, .int z]).length) Slot.unset).toArray = ls at hl ⊢
  have hl : lv_has ls 5 [(0, .ref hX), (1, .long x), (3, .int z)] := hl
  have hD : va_D (zA [(hX, .inr (3, [.int wi, .int ma, .ref hR, .ref hT, .ref hC, .int no])), (hR, .inr (2, [.ref hp, .ref hq, .ref hi, .int (nI rc)])), (hp, .inl (cP, 40, .inl rp)), (hq, .inl (cQ, 40, .inl rl)), (hi, .inl (cS, 40, .inl ri)), (hT, .inr (0, [.ref hs, .ref hu, .ref ho, .int (nI ac)])), (hs, .inl (cI, 64, .inl ai)), (hu, .inl (cU, 512, .inl ut)), (ho, .inl (cO, 64, .inl ol)), (hC, .inr (1, [.ref hn, .ref ha, .ref hk, .int (nI cc)])), (hn, .inl (cN, 100, .inr (.inl cn))), (ha, .inl (cA, 100, .inl ca)), (hk, .inl (cK, 100, .inl cb))]) [(hX, .inr (3, [.int wi, .int ma, .ref hR, .ref hT, .ref hC, .int no])), (hR, .inr (2, [.ref hp, .ref hq, .ref hi, .int (nI rc)])), (hp, .inl (cP, 40, .inl rp)), (hq, .inl (cQ, 40, .inl rl)), (hi, .inl (cS, 40, .inl ri)), (hT, .inr (0, [.ref hs, .ref hu, .ref ho, .int (nI ac)])), (hs, .inl (cI, 64, .inl ai)), (hu, .inl (cU, 512, .inl ut)), (ho, .inl (cO, 64, .inl ol)), (hC, .inr (1, [.ref hn, .ref ha, .ref hk, .int (nI cc)])), (hn, .inl (cN, 100, .inr (.inl cn))), (ha, .inl (cA, 100, .inl ca)), (hk, .inl (cK, 100, .inl cb))] := zA_of hD0
  have hS : va_S (zA [(hX, .inr (3, [.int wi, .int ma, .ref hR, .ref hT, .ref hC, .int no])), (hR, .inr (2, [.ref hp, .ref hq, .ref hi, .int (nI rc)])), (hp, .inl (cP, 40, .inl rp)), (hq, .inl (cQ, 40, .inl rl)), (hi, .inl (cS, 40, .inl ri)), (hT, .inr (0, [.ref hs, .ref hu, .ref ho, .int (nI ac)])), (hs, .inl (cI, 64, .inl ai)), (hu, .inl (cU, 512, .inl ut)), (ho, .inl (cO, 64, .inl ol)), (hC, .inr (1, [.ref hn, .ref ha, .ref hk, .int (nI cc)])), (hn, .inl (cN, 100, .inr (.inl cn))), (ha, .inl (cA, 100, .inl ca)), (hk, .inl (cK, 100, .inl cb))]) s.heap s.heap [] := va_S.rf
  generalize zA [(hX, .inr (3, [.int wi, .int ma, .ref hR, .ref hT, .ref hC, .int no])), (hR, .inr (2, [.ref hp, .ref hq, .ref hi, .int (nI rc)])), (hp, .inl (cP, 40, .inl rp)), (hq, .inl (cQ, 40, .inl rl)), (hi, .inl (cS, 40, .inl ri)), (hT, .inr (0, [.ref hs, .ref hu, .ref ho, .int (nI ac)])), (hs, .inl (cI, 64, .inl ai)), (hu, .inl (cU, 512, .inl ut)), (ho, .inl (cO, 64, .inl ol)), (hC, .inr (1, [.ref hn, .ref ha, .ref hk, .int (nI cc)])), (hn, .inl (cN, 100, .inr (.inl cn))), (ha, .inl (cA, 100, .inl ca)), (hk, .inl (cK, 100, .inl cb))] = A at hD hS ⊢
  refine lv_lload_n hx hb d_CD_card_0 rfl (lv_at hl 1 rfl) ?_
  refine lv_bipush (v := 12) hx hb d_CD_card_1 (by decide) ?_
  refine lv_bipush (v := 18) hx hb d_CD_card_3 (by decide) ?_
  refine zt_callv (zr_TS (n := 3) (As := [.long x, .int 12, .int 18]) (rest := []) CF (c_CD_requireDigits l dC dI hl0 x 12 18 (by decide) (by decide)) mc_CD_requireDigits lk_CD_91 mt_CD_requireDigits ni_CD (by decide +kernel) ⟨Nat.le_of_ble_eq_true rfl, Nat.le_of_ble_eq_true rfl⟩ (hP.sub (ws' := []) [] rfl) (hK.sub (tys' := []) [] rfl) hSt (fun _ _ => rfl) rfl rfl hl.1 rfl (lv_room (Nat.le_of_ble_eq_true rfl)) d_CD_card_5 ⟨Nat.le_of_ble_eq_true rfl, Nat.le_of_ble_eq_true rfl⟩) (fun hok => ?_) (fun x H1 hno hth => zt_leave (fun t ht hW => Or.inr (Or.inl ⟨by rw [if_neg (fun h => hno h.1)], x, rfl, hth.to ht hW⟩)) (fun _ h => by cases h) (fun z hz => hout z hz _) hlocks (Nat.le_of_ble_eq_true rfl) (Nat.le_of_ble_eq_true rfl))
  refine lv_aload_n hx hb d_CD_card_8 rfl (lv_at hl 0 rfl) ?_
  refine lv_iload_n hx hb d_CD_card_9 rfl (lv_at hl 2 rfl) ?_
  refine zt_callv (zr_TV (n := 1) (As := [.int z]) (rest := []) CF (c_CD_requireAccount l dC dI hl0 hX wi ma no hC hR hT hs hu ho cI cU cO ac ai ut ol hac z) mc_CD_requireAccount lk_CD_95 mi_CD_requireAccount ms_CD_requireAccount ni_CD (by decide +kernel) ⟨Nat.le_of_ble_eq_true rfl, Nat.le_of_ble_eq_true rfl⟩ (hP.sub (ws' := [(hX, .inr (3, [.int wi, .int ma, .ref hR, .ref hT, .ref hC, .int no])), (hT, .inr (0, [.ref hs, .ref hu, .ref ho, .int (nI ac)])), (hs, .inl (cI, 64, .inl ai)), (hu, .inl (cU, 512, .inl ut)), (ho, .inl (cO, 64, .inl ol))]) [0, 5, 6, 7, 8] rfl) (hK.sub (tys' := [(cI, .int), (cU, .int), (cO, .int)]) [3, 4, 5] rfl) hSt (fun _ _ => rfl) rfl rfl rfl hl.1 rfl (lv_room (Nat.le_of_ble_eq_true rfl)) d_CD_card_10 ⟨Nat.le_of_ble_eq_true rfl, Nat.le_of_ble_eq_true rfl⟩) (fun hzz => ?_) (fun x H1 hno hth => zt_leave (fun t ht hW => Or.inr (Or.inl ⟨by rw [if_neg (fun h => hno h.2)], x, rfl, hth.to ht hW⟩)) (fun _ h => by cases h) (fun z hz => hout z hz _) hlocks (Nat.le_of_ble_eq_true rfl) (Nat.le_of_ble_eq_true rfl))
  refine lv_aload_n hx hb d_CD_card_13 rfl (lv_at hl 0 rfl) ?_
  refine va_get (D := (dC, dI)) (ci := 3) (v := .ref hC) (C := R_CD) (T := T_CD) (N := 6) hx hb htB i_CD hown hK hP 0 rfl rfl 4 (by decide) (htB _ lf_CD_42) (fun _ h9 => h9) rfl d_CD_card_14 ?_
  refine vp_callSi (va_Run.run (zr_V (n := 0) (As := []) (rest := []) CF (c_CT_isFull l dC dI hC hn ha hk cN cA cK cc cn ca cb hcc) mc_CT_isFull lk_CD_98 mi_CT_isFull ms_CT_isFull ni_CT rfl rfl (by decide +kernel) ⟨Nat.le_of_ble_eq_true rfl, Nat.le_of_ble_eq_true rfl⟩ (hP.sub (ws' := [(hC, .inr (1, [.ref hn, .ref ha, .ref hk, .int (nI cc)])), (hn, .inl (cN, 100, .inr (.inl cn))), (ha, .inl (cA, 100, .inl ca)), (hk, .inl (cK, 100, .inl cb))]) [9, 10, 11, 12] rfl) (hK.sub (tys' := [(cN, .long), (cA, .int), (cK, .boolean)]) [6, 7, 8] rfl) rfl rfl rfl hl.1 rfl (lv_room (Nat.le_of_ble_eq_true rfl)) d_CD_card_17 ⟨Nat.zero_le _, Nat.zero_le _⟩)) (fun r_17 h_17 => ?_)
  refine lv_if_eq (tgt := 33) hx hb d_CD_card_20 (by decide) (fun c_20 => ?_) (fun c_20 => ?_)
  · have h100 : cc < 100 := Nat.not_le.mp (fun h => by rw [h_17, if_pos h] at c_20; exact absurd c_20 (by decide))
    refine lv_lload_n hx hb d_CD_card_33 rfl (lv_at hl 1 rfl) ?_
    refine vp_callSi (va_Run.run (zr_S (n := 1) (As := [.long x]) (rest := []) CF (c_CD_isGood l dC dI x) mc_CD_isGood lk_CD_101 mt_CD_isGood ni_CD rfl rfl (by decide +kernel) ⟨Nat.le_of_ble_eq_true rfl, Nat.le_of_ble_eq_true rfl⟩ (hP.sub (ws' := []) [] rfl) (hK.sub (tys' := []) [] rfl) rfl rfl hl.1 rfl (lv_room (Nat.le_of_ble_eq_true rfl)) d_CD_card_34 ⟨Nat.zero_le _, Nat.zero_le _⟩)) (fun r_34 h_34 => ?_)
    refine lv_if_ne (tgt := 43) hx hb d_CD_card_37 (by decide) (fun c_37 => ?_) (fun c_37 => ?_)
    · have hG : zd_cs 19 false (zd_N x) % 10 = 0 := Classical.byContradiction fun h => c_37 (by rw [h_34, if_neg h])
      refine lv_aload_n hx hb d_CD_card_43 rfl (lv_at hl 0 rfl) ?_
      refine va_get (D := (dC, dI)) (ci := 3) (v := .ref hR) (C := R_CD) (T := T_CD) (N := 6) hx hb htB i_CD hown hK hP 0 rfl rfl 2 (by decide) (htB _ lf_CD_28) (fun _ h9 => h9) rfl d_CD_card_44 ?_
      refine lv_lload_n hx hb d_CD_card_47 rfl (lv_at hl 1 rfl) ?_
      refine vp_callSi (va_Run.run (zr_V (n := 1) (As := [.long x]) (rest := []) CF (x_RT_issuerFor l dC dI hR hp hq hi cP cQ cS rc rp rl ri hrc x (Nat.le_trans (by decide) hok.1)) mc_RT_issuerFor lk_CD_105 mi_RT_issuerFor ms_RT_issuerFor ni_RT rfl rfl (by decide +kernel) ⟨Nat.le_of_ble_eq_true rfl, Nat.le_of_ble_eq_true rfl⟩ (hP.sub (ws' := [(hR, .inr (2, [.ref hp, .ref hq, .ref hi, .int (nI rc)])), (hp, .inl (cP, 40, .inl rp)), (hq, .inl (cQ, 40, .inl rl)), (hi, .inl (cS, 40, .inl ri))]) [1, 2, 3, 4] rfl) (hK.sub (tys' := [(cP, .int), (cQ, .int), (cS, .int)]) [0, 1, 2] rfl) rfl rfl rfl hl.1 rfl (lv_room (Nat.le_of_ble_eq_true rfl)) d_CD_card_48 ⟨Nat.zero_le _, Nat.zero_le _⟩)) (fun r_48 h_48 => ?_)
      subst h_48
      refine lv_istore (lv' := [(4, .int (zf_iss rc rp rl ri (zd_dg 19 (zd_N x)) (zd_N x))), (0, .ref hX), (1, .long x), (3, .int z)]) hx hb d_CD_card_51 hl (by decide) rfl (fun ls hl => ?_)
      refine lv_iload hx hb d_CD_card_53 (lv_at hl 0 rfl) ?_
      refine lv_iconst (v := (-1)) hx hb d_CD_card_55 (by decide) ?_
      refine lv_icmp_ne (tgt := 62) hx hb d_CD_card_56 (by decide) (fun c_56 => ?_) (fun c_56 => ?_)
      · refine lv_iload hx hb d_CD_card_62 (lv_at hl 0 rfl) ?_
        refine lv_aload_n hx hb d_CD_card_64 rfl (lv_at hl 1 rfl) ?_
        refine va_get (D := (dC, dI)) (ci := 3) (v := .ref hT) (C := R_CD) (T := T_CD) (N := 6) hx hb htB i_CD hown hK hP 0 rfl rfl 3 (by decide) (htB _ lf_CD_35) (fun _ h9 => h9) rfl d_CD_card_65 ?_
        refine lv_iload_n hx hb d_CD_card_68 rfl (lv_at hl 3 rfl) ?_
        refine vp_callSi (va_Run.run (zr_V (n := 1) (As := [.int z]) (rest := [.int (zf_iss rc rp rl ri (zd_dg 19 (zd_N x)) (zd_N x))]) CF (x_AT_issuerOf l dC dI hT hs hu ho cI cU cO ac ai ut ol hac z hzz) mc_AT_issuerOf lk_CD_109 mi_AT_issuerOf ms_AT_issuerOf ni_AT rfl rfl (by decide +kernel) ⟨Nat.le_of_ble_eq_true rfl, Nat.le_of_ble_eq_true rfl⟩ (hP.sub (ws' := [(hT, .inr (0, [.ref hs, .ref hu, .ref ho, .int (nI ac)])), (hs, .inl (cI, 64, .inl ai)), (hu, .inl (cU, 512, .inl ut)), (ho, .inl (cO, 64, .inl ol))]) [5, 6, 7, 8] rfl) (hK.sub (tys' := [(cI, .int), (cU, .int), (cO, .int)]) [3, 4, 5] rfl) rfl rfl rfl hl.1 rfl (lv_room (Nat.le_of_ble_eq_true rfl)) d_CD_card_69 ⟨Nat.zero_le _, Nat.zero_le _⟩)) (fun r_69 h_69 => ?_)
        subst h_69
        refine lv_icmp_eq (tgt := 78) hx hb d_CD_card_72 (by decide) (fun c_72 => ?_) (fun c_72 => ?_)
        · refine lv_aload_n hx hb d_CD_card_78 rfl (lv_at hl 1 rfl) ?_
          refine va_get (D := (dC, dI)) (ci := 3) (v := .ref hC) (C := R_CD) (T := T_CD) (N := 6) hx hb htB i_CD hown hK hP 0 rfl rfl 4 (by decide) (htB _ lf_CD_42) (fun _ h9 => h9) rfl d_CD_card_79 ?_
          refine lv_lload_n hx hb d_CD_card_82 rfl (lv_at hl 2 rfl) ?_
          refine vp_callSi (va_Run.run (zr_V (n := 1) (As := [.long x]) (rest := []) CF (c_CT_find l dC dI hC hn ha hk cN cA cK cc cn ca cb hcc x) mc_CT_find lk_CD_112 mi_CT_find ms_CT_find ni_CT rfl rfl (by decide +kernel) ⟨Nat.le_of_ble_eq_true rfl, Nat.le_of_ble_eq_true rfl⟩ (hP.sub (ws' := [(hC, .inr (1, [.ref hn, .ref ha, .ref hk, .int (nI cc)])), (hn, .inl (cN, 100, .inr (.inl cn))), (ha, .inl (cA, 100, .inl ca)), (hk, .inl (cK, 100, .inl cb))]) [9, 10, 11, 12] rfl) (hK.sub (tys' := [(cN, .long), (cA, .int), (cK, .boolean)]) [6, 7, 8] rfl) rfl rfl rfl hl.1 rfl (lv_room (Nat.le_of_ble_eq_true rfl)) d_CD_card_83 ⟨Nat.zero_le _, Nat.zero_le _⟩)) (fun r_83 h_83 => ?_)
          subst h_83
          refine lv_iconst (v := (-1)) hx hb d_CD_card_86 (by decide) ?_
          refine lv_icmp_eq (tgt := 93) hx hb d_CD_card_87 (by decide) (fun c_87 => ?_) (fun c_87 => ?_)
          · have hle := zc_le cc cn x
            have hix : ¬ zc_at cc cn x < cc := fun h => zf_m1 (show zc_at cc cn x < 2 ^ 31 by omega) ((if_pos h).symm.trans c_87)
            refine lv_aload_n hx hb d_CD_card_93 rfl (lv_at hl 1 rfl) ?_
            refine va_get (D := (dC, dI)) (ci := 3) (v := .ref hC) (C := R_CD) (T := T_CD) (N := 6) hx hb htB i_CD hown hK hP 0 rfl rfl 4 (by decide) (htB _ lf_CD_42) (fun _ h9 => h9) rfl d_CD_card_94 ?_
            refine lv_lload_n hx hb d_CD_card_97 rfl (lv_at hl 2 rfl) ?_
            refine lv_iload_n hx hb d_CD_card_98 rfl (lv_at hl 3 rfl) ?_
            refine va_calli (zr_V (n := 2) (As := [.long x, .int z]) (rest := []) CF (c_CT_add l dC dI hC hn ha hk cN cA cK cc cn ca cb hcc h100 x z ((hD.sub (ws' := [(hC, .inr (1, [.ref hn, .ref ha, .ref hk, .int (nI cc)])), (hn, .inl (cN, 100, .inr (.inl cn))), (ha, .inl (cA, 100, .inl ca)), (hk, .inl (cK, 100, .inl cb))]) [9, 10, 11, 12] (by decide) rfl).weaken (fun _ _ _ _ => trivial))) mc_CT_add lk_CD_114 mi_CT_add ms_CT_add ni_CT rfl rfl (by decide +kernel) ⟨Nat.le_of_ble_eq_true rfl, Nat.le_of_ble_eq_true rfl⟩ (hP.sub (ws' := [(hC, .inr (1, [.ref hn, .ref ha, .ref hk, .int (nI cc)])), (hn, .inl (cN, 100, .inr (.inl cn))), (ha, .inl (cA, 100, .inl ca)), (hk, .inl (cK, 100, .inl cb))]) [9, 10, 11, 12] rfl) (hK.sub (tys' := [(cN, .long), (cA, .int), (cK, .boolean)]) [6, 7, 8] rfl) rfl rfl rfl hl.1 rfl (lv_room (Nat.le_of_ble_eq_true rfl)) d_CD_card_99 ⟨Nat.zero_le _, Nat.zero_le _⟩) hS (fun q _ h => zA_sub hD (wc := [(hC, .inr (1, [.ref hn, .ref ha, .ref hk, .int (nI cc)])), (hn, .inl (cN, 100, .inr (.inl cn))), (ha, .inl (cA, 100, .inl ca)), (hk, .inl (cK, 100, .inl cb))]) [9, 10, 11, 12] rfl h) (fun q h => zA_sub hD (wc := [(hC, .inr (1, [.ref hn, .ref ha, .ref hk, .int (nI cc)])), (hn, .inl (cN, 100, .inr (.inl cn))), (ha, .inl (cA, 100, .inl ca)), (hk, .inl (cK, 100, .inl cb))]) [9, 10, 11, 12] rfl h) (fun r_99 u t H1 locs1 ht hvm hw_99 hB hz hk9 hS => ?_)
            have hP1 : va_P (dC, dI) vwCl [(hC, .inr (1, [.ref hn, .ref ha, .ref hk, .int (nI (cc + 1))])), (hn, .inl (cN, 100, .inr (.inl (vp_updL cn cc x)))), (ha, .inl (cA, 100, .inl (upd ca cc z))), (hk, .inl (cK, 100, .inl cb))] H1 := by
              have h9 : va_P (dC, dI) vwCl [(hC, .inr (1, [.ref hn, .ref ha, .ref hk, .int (nI (cc + 1))])), (hn, .inl (cN, 100, .inr (.inl (vp_updL cn cc x)))), (ha, .inl (cA, 100, .inl (upd ca cc z))), (hk, .inl (cK, 100, .inl cb))] t.heap := hB
              rw [ht] at h9
              exact h9
            have hP : va_P (dC, dI) vwCl [(hX, .inr (3, [.int wi, .int ma, .ref hR, .ref hT, .ref hC, .int no])), (hR, .inr (2, [.ref hp, .ref hq, .ref hi, .int (nI rc)])), (hp, .inl (cP, 40, .inl rp)), (hq, .inl (cQ, 40, .inl rl)), (hi, .inl (cS, 40, .inl ri)), (hT, .inr (0, [.ref hs, .ref hu, .ref ho, .int (nI ac)])), (hs, .inl (cI, 64, .inl ai)), (hu, .inl (cU, 512, .inl ut)), (ho, .inl (cO, 64, .inl ol)), (hC, .inr (1, [.ref hn, .ref ha, .ref hk, .int (nI (cc + 1))])), (hn, .inl (cN, 100, .inr (.inl (vp_updL cn cc x)))), (ha, .inl (cA, 100, .inl (upd ca cc z))), (hk, .inl (cK, 100, .inl cb))] H1 := zj (wc := [(hC, .inr (1, [.ref hn, .ref ha, .ref hk, .int (nI cc)])), (hn, .inl (cN, 100, .inr (.inl cn))), (ha, .inl (cA, 100, .inl ca)), (hk, .inl (cK, 100, .inl cb))]) hP hD [9, 10, 11, 12] rfl hP1 hk9 rfl rfl
            have hD : va_D A [(hX, .inr (3, [.int wi, .int ma, .ref hR, .ref hT, .ref hC, .int no])), (hR, .inr (2, [.ref hp, .ref hq, .ref hi, .int (nI rc)])), (hp, .inl (cP, 40, .inl rp)), (hq, .inl (cQ, 40, .inl rl)), (hi, .inl (cS, 40, .inl ri)), (hT, .inr (0, [.ref hs, .ref hu, .ref ho, .int (nI ac)])), (hs, .inl (cI, 64, .inl ai)), (hu, .inl (cU, 512, .inl ut)), (ho, .inl (cO, 64, .inl ol)), (hC, .inr (1, [.ref hn, .ref ha, .ref hk, .int (nI (cc + 1))])), (hn, .inl (cN, 100, .inr (.inl (vp_updL cn cc x)))), (ha, .inl (cA, 100, .inl (upd ca cc z))), (hk, .inl (cK, 100, .inl cb))] := zD_of (ws := [(hX, .inr (3, [.int wi, .int ma, .ref hR, .ref hT, .ref hC, .int no])), (hR, .inr (2, [.ref hp, .ref hq, .ref hi, .int (nI rc)])), (hp, .inl (cP, 40, .inl rp)), (hq, .inl (cQ, 40, .inl rl)), (hi, .inl (cS, 40, .inl ri)), (hT, .inr (0, [.ref hs, .ref hu, .ref ho, .int (nI ac)])), (hs, .inl (cI, 64, .inl ai)), (hu, .inl (cU, 512, .inl ut)), (ho, .inl (cO, 64, .inl ol)), (hC, .inr (1, [.ref hn, .ref ha, .ref hk, .int (nI cc)])), (hn, .inl (cN, 100, .inr (.inl cn))), (ha, .inl (cA, 100, .inl ca)), (hk, .inl (cK, 100, .inl cb))]) rfl hD
            generalize H1 = H at hP hS ⊢
            subst hw_99
            have hkk : zc_c rc rp rl ri ai cc cn x z.toInt.toNat = 0 := by unfold zc_c; rw [if_neg (fun h => h hG), if_neg c_56, if_neg (fun h => h c_72), if_neg hix]
            exact zt_ret (W.iret (v := nI cc) hx hb hr (fun t ht hW => Or.inl ⟨by rw [if_pos ⟨hok, hzz⟩, if_pos h100], (), by rw [hkk]; rfl, by show va_P _ _ _ t.heap; rw [ht]; rw [hkk]; exact hP, hS.F ht⟩) hS.2.2 d_CD_card_102)
          · have hix : zc_at cc cn x < cc := Classical.byContradiction fun h => c_87 (if_neg h)
            refine lv_bipush (v := (-8)) hx hb d_CD_card_90 (by decide) ?_
            have hkk : zc_c rc rp rl ri ai cc cn x z.toInt.toNat = 4 := by unfold zc_c; rw [if_neg (fun h => h hG), if_neg c_56, if_neg (fun h => h c_72), if_pos hix]
            exact zt_ret (W.iret (v := -8) hx hb hr (fun t ht hW => Or.inl ⟨by rw [if_pos ⟨hok, hzz⟩, if_pos h100], (), by rw [hkk]; rfl, by show va_P _ _ _ t.heap; rw [ht]; rw [hkk]; exact hP, hS.F ht⟩) hS.2.2 d_CD_card_92)
        · refine lv_bipush (v := (-7)) hx hb d_CD_card_75 (by decide) ?_
          have hkk : zc_c rc rp rl ri ai cc cn x z.toInt.toNat = 3 := by unfold zc_c; rw [if_neg (fun h => h hG), if_neg c_56, if_pos c_72]
          exact zt_ret (W.iret (v := -7) hx hb hr (fun t ht hW => Or.inl ⟨by rw [if_pos ⟨hok, hzz⟩, if_pos h100], (), by rw [hkk]; rfl, by show va_P _ _ _ t.heap; rw [ht]; rw [hkk]; exact hP, hS.F ht⟩) hS.2.2 d_CD_card_77)
      · refine lv_bipush (v := (-6)) hx hb d_CD_card_59 (by decide) ?_
        have hkk : zc_c rc rp rl ri ai cc cn x z.toInt.toNat = 2 := by unfold zc_c; rw [if_neg (fun h => h hG), if_pos c_56]
        exact zt_ret (W.iret (v := -6) hx hb hr (fun t ht hW => Or.inl ⟨by rw [if_pos ⟨hok, hzz⟩, if_pos h100], (), by rw [hkk]; rfl, by show va_P _ _ _ t.heap; rw [ht]; rw [hkk]; exact hP, hS.F ht⟩) hS.2.2 d_CD_card_61)
    · have hG : ¬ zd_cs 19 false (zd_N x) % 10 = 0 := fun h => by rw [h_34, if_pos h] at c_37; exact absurd c_37 (by decide)
      refine lv_bipush (v := (-5)) hx hb d_CD_card_40 (by decide) ?_
      have hkk : zc_c rc rp rl ri ai cc cn x z.toInt.toNat = 1 := by unfold zc_c; rw [if_pos hG]
      exact zt_ret (W.iret (v := -5) hx hb hr (fun t ht hW => Or.inl ⟨by rw [if_pos ⟨hok, hzz⟩, if_pos h100], (), by rw [hkk]; rfl, by show va_P _ _ _ t.heap; rw [ht]; rw [hkk]; exact hP, hS.F ht⟩) hS.2.2 d_CD_card_42)
  · have h100 : ¬ cc < 100 := fun h => c_20 (by rw [h_17, if_neg (by omega)])
    exact zt_new hx hb htr (own := R_CD) (cls := zISE) (names := zUp) hown (by decide +kernel) (by decide +kernel) (zt_words zw_ISE htB hSt) (htB _ lc_CD_68) (htB _ nn_ISE) (htB _ ni_ISE) (htB _ sr_CD_99) hl.1 hml d_CD_card_23 d_CD_card_26 d_CD_card_27 d_CD_card_29 d_CD_card_32 hout hlocks rfl (Nat.le_of_ble_eq_true rfl) (Nat.le_of_ble_eq_true rfl) (Nat.le_of_ble_eq_true rfl) (Nat.le_of_ble_eq_true rfl) (fun x t hT hW => Or.inr (Or.inr ⟨by rw [if_pos ⟨hok, hzz⟩, if_neg h100], x, rfl, hT⟩)) (Nat.le_of_ble_eq_true rfl) (Nat.le_of_ble_eq_true rfl)
theorem x_AT_noteUse (l : Launch) (dC : Nat → ClassId) (dI : Nat → Nat → Nat) (hT hs hu ho : Nat) (cI cU cO : ClassId) (ac : Nat) (ai ut ol : Nat → Int32) (hac : ac ≤ 64) (z : Int32) (hz : 0 ≤ z.toInt ∧ z.toInt < ac) (hol : 0 ≤ (ol z.toInt.toNat).toInt ∧ (ol z.toInt.toNat).toInt < 8) (T : Int32) (hD0 : va_D (fun _ => True) [(hT, .inr (0, [.ref hs, .ref hu, .ref ho, .int (nI ac)])), (hs, .inl (cI, 64, .inl ai)), (hu, .inl (cU, 512, .inl ut)), (ho, .inl (cO, 64, .inl ol))]) : Met l y_AT_noteUse (zw y_AT_noteUse b_AT_noteUse 3 none) ({ frames := 1, cells := 0, slots := 0, locals := 21 }) (zPre [.ref hT, .int z, .int T] (dC, dI) [(hT, .inr (0, [.ref hs, .ref hu, .ref ho, .int (nI ac)])), (hs, .inl (cI, 64, .inl ai)), (hu, .inl (cU, 512, .inl ut)), (ho, .inl (cO, 64, .inl ol))] [(cI, .int), (cU, .int), (cO, .int)]) (va_Qv (fun (_ : Unit) => True) (fun (_ : Unit) (t : State) => va_P (dC, dI) vwCl [(hT, .inr (0, [.ref hs, .ref hu, .ref ho, .int (nI ac)])), (hs, .inl (cI, 64, .inl ai)), (hu, .inl (cU, 512, .inl (upd ut (8 * z.toInt.toNat + (ol z.toInt.toNat).toInt.toNat) T))), (ho, .inl (cO, 64, .inl (upd ol z.toInt.toNat (nI (((ol z.toInt.toNat).toInt.toNat + 1) % 8)))))] t.heap) (zA [(hT, .inr (0, [.ref hs, .ref hu, .ref ho, .int (nI ac)])), (hs, .inl (cI, 64, .inl ai)), (hu, .inl (cU, 512, .inl ut)), (ho, .inl (cO, 64, .inl ol))])) 0 0 (zA [(hT, .inr (0, [.ref hs, .ref hu, .ref ho, .int (nI ac)])), (hs, .inl (cI, 64, .inl ai)), (hu, .inl (cU, 512, .inl ut)), (ho, .inl (cO, 64, .inl ol))]) := by
  have h9 := c_AT_noteUse l dC dI hT hs hu ho cI cU cO ac ai ut ol hac z.toInt.toNat (ol z.toInt.toNat).toInt.toNat (zi_of hz).2 (zi_of hol).2 (zi_of hol).1 T hD0
  rwa [← (zi_of hz).1] at h9
set_option maxHeartbeats 4000000 in
set_option maxRecDepth 100000 in
theorem c_CD_use (l : Launch) (dC : Nat → ClassId) (dI : Nat → Nat → Nat) (hl0 : l.stackTraces = false) (hX : Nat) (wi ma no : Int32) (hR hp hq hi : Nat) (cP cQ cS : ClassId) (rc : Nat) (rp rl ri : Nat → Int32) (hrc : rc ≤ 40) (hT hs hu ho : Nat) (cI cU cO : ClassId) (ac : Nat) (ai ut ol : Nat → Int32) (hac : ac ≤ 64) (hC hn ha hk : Nat) (cN cA cK : ClassId) (cc : Nat) (cn : Nat → Int64) (ca cb : Nat → Int32) (hcc : cc ≤ 100) (hgood : ∀ j, j < cc → zd_cs 19 false (zd_N (cn j)) % 10 = 0) (hca : ∀ j, j < cc → 0 ≤ (ca j).toInt ∧ (ca j).toInt < ac) (hol : ∀ j, j < ac → 0 ≤ (ol j).toInt ∧ (ol j).toInt < 8) (x : Int64) (T : Int32) (hD0 : va_D (fun _ => True) [(hX, .inr (3, [.int wi, .int ma, .ref hR, .ref hT, .ref hC, .int no])), (hR, .inr (2, [.ref hp, .ref hq, .ref hi, .int (nI rc)])), (hp, .inl (cP, 40, .inl rp)), (hq, .inl (cQ, 40, .inl rl)), (hi, .inl (cS, 40, .inl ri)), (hT, .inr (0, [.ref hs, .ref hu, .ref ho, .int (nI ac)])), (hs, .inl (cI, 64, .inl ai)), (hu, .inl (cU, 512, .inl ut)), (ho, .inl (cO, 64, .inl ol)), (hC, .inr (1, [.ref hn, .ref ha, .ref hk, .int (nI cc)])), (hn, .inl (cN, 100, .inr (.inl cn))), (ha, .inl (cA, 100, .inl ca)), (hk, .inl (cK, 100, .inl cb))]) : MetT l y_CD_use (zw y_CD_use b_CD_use 6 (some .int)) ({ frames := 7, cells := 1, slots := 6, locals := 106 }) (zPreT [.ref hX, .long x, .int T] (dC, dI) [(hX, .inr (3, [.int wi, .int ma, .ref hR, .ref hT, .ref hC, .int no])), (hR, .inr (2, [.ref hp, .ref hq, .ref hi, .int (nI rc)])), (hp, .inl (cP, 40, .inl rp)), (hq, .inl (cQ, 40, .inl rl)), (hi, .inl (cS, 40, .inl ri)), (hT, .inr (0, [.ref hs, .ref hu, .ref ho, .int (nI ac)])), (hs, .inl (cI, 64, .inl ai)), (hu, .inl (cU, 512, .inl ut)), (ho, .inl (cO, 64, .inl ol)), (hC, .inr (1, [.ref hn, .ref ha, .ref hk, .int (nI cc)])), (hn, .inl (cN, 100, .inr (.inl cn))), (ha, .inl (cA, 100, .inl ca)), (hk, .inl (cK, 100, .inl cb))] [(cP, .int), (cQ, .int), (cS, .int), (cI, .int), (cU, .int), (cO, .int), (cN, .long), (cA, .int), (cK, .boolean)]) (zt_Q3 (S := Unit) (if zok_D x 1 18 ∧ no ≤ T then 0 else 1) (fun _ => some (.int (zu_v (zu_c rc rp rl ri ut cc cn ca cb wi ma x T)))) (fun (_ : Unit) (t : State) => va_P (dC, dI) vwCl [(hX, .inr (3, [.int wi, .int ma, .ref hR, .ref hT, .ref hC, .int T])), (hR, .inr (2, [.ref hp, .ref hq, .ref hi, .int (nI rc)])), (hp, .inl (cP, 40, .inl rp)), (hq, .inl (cQ, 40, .inl rl)), (hi, .inl (cS, 40, .inl ri)), (hT, .inr (0, [.ref hs, .ref hu, .ref ho, .int (nI ac)])), (hs, .inl (cI, 64, .inl ai)), (hu, .inl (cU, 512, .inl (if zu_c rc rp rl ri ut cc cn ca cb wi ma x T = 0 then upd ut (8 * (ca (zc_at cc cn x)).toInt.toNat + (ol ((ca (zc_at cc cn x)).toInt.toNat)).toInt.toNat) T else ut))), (ho, .inl (cO, 64, .inl (if zu_c rc rp rl ri ut cc cn ca cb wi ma x T = 0 then upd ol ((ca (zc_at cc cn x)).toInt.toNat) (nI (((ol ((ca (zc_at cc cn x)).toInt.toNat)).toInt.toNat + 1) % 8)) else ol))), (hC, .inr (1, [.ref hn, .ref ha, .ref hk, .int (nI cc)])), (hn, .inl (cN, 100, .inr (.inl cn))), (ha, .inl (cA, 100, .inl ca)), (hk, .inl (cK, 100, .inl cb))] t.heap) (zA [(hX, .inr (3, [.int wi, .int ma, .ref hR, .ref hT, .ref hC, .int no])), (hR, .inr (2, [.ref hp, .ref hq, .ref hi, .int (nI rc)])), (hp, .inl (cP, 40, .inl rp)), (hq, .inl (cQ, 40, .inl rl)), (hi, .inl (cS, 40, .inl ri)), (hT, .inr (0, [.ref hs, .ref hu, .ref ho, .int (nI ac)])), (hs, .inl (cI, 64, .inl ai)), (hu, .inl (cU, 512, .inl ut)), (ho, .inl (cO, 64, .inl ol)), (hC, .inr (1, [.ref hn, .ref ha, .ref hk, .int (nI cc)])), (hn, .inl (cN, 100, .inr (.inl cn))), (ha, .inl (cA, 100, .inl ca)), (hk, .inl (cK, 100, .inl cb))])) 0 0 (zA [(hX, .inr (3, [.int wi, .int ma, .ref hR, .ref hT, .ref hC, .int no])), (hR, .inr (2, [.ref hp, .ref hq, .ref hi, .int (nI rc)])), (hp, .inl (cP, 40, .inl rp)), (hq, .inl (cQ, 40, .inl rl)), (hi, .inl (cS, 40, .inl ri)), (hT, .inr (0, [.ref hs, .ref hu, .ref ho, .int (nI ac)])), (hs, .inl (cI, 64, .inl ai)), (hu, .inl (cU, 512, .inl ut)), (ho, .inl (cO, 64, .inl ol)), (hC, .inr (1, [.ref hn, .ref ha, .ref hk, .int (nI cc)])), (hn, .inl (cN, 100, .inr (.inl cn))), (ha, .inl (cA, 100, .inl ca)), (hk, .inl (cK, 100, .inl cb))]) := by
  refine zt_ofW (cc := b_CD_use) (maxL := 6) (ret := (some .int)) (by decide) rfl ?_
  intro p e s m args below meth c s₁ B hml hout hv
  obtain ⟨rfl, ⟨hP, hK⟩, hSt⟩ := hv
  have hx := B.exec
  have hb := B.bytes
  have hr := B.returns
  have hts := atoms_spec (ws := (zw y_CD_use b_CD_use 6 (some .int))) B.pre
  have htB : ∀ w ∈ BG, w.before ([.ref hX, .long x, .int T] : List Value).toArray s = true := fun w h => hts w (List.mem_cons_of_mem _ h)
  have hown : s.vm.findClass R_CD = some m.cls := findClass_of_methodNamed B.named
  have hlocks := B.notSynchronized
  have htr : e.platform.stackTraces = false := (show e.platform.stackTraces = l.stackTraces by rw [B.admits.platform]).trans hl0
  have CF : CallFix p m c b_CD_use 6 s ([.ref hX, .long x, .int T] : List Value).toArray BG R_CD := ⟨hx, hb, hml, hown, htB⟩
  have hP : va_P (dC, dI) vwCl [(hX, .inr (3, [.int wi, .int ma, .ref hR, .ref hT, .ref hC, .int no])), (hR, .inr (2, [.ref hp, .ref hq, .ref hi, .int (nI rc)])), (hp, .inl (cP, 40, .inl rp)), (hq, .inl (cQ, 40, .inl rl)), (hi, .inl (cS, 40, .inl ri)), (hT, .inr (0, [.ref hs, .ref hu, .ref ho, .int (nI ac)])), (hs, .inl (cI, 64, .inl ai)), (hu, .inl (cU, 512, .inl ut)), (ho, .inl (cO, 64, .inl ol)), (hC, .inr (1, [.ref hn, .ref ha, .ref hk, .int (nI cc)])), (hn, .inl (cN, 100, .inr (.inl cn))), (ha, .inl (cA, 100, .inl ca)), (hk, .inl (cK, 100, .inl cb))] s.heap := hP
  have hl := lv_entry [.ref hX, .long x, .int T] (n := 6) (Nat.le_of_ble_eq_true rfl)
  rw [lg_entry_eq]
  generalize (lg_sl [.ref hX, .long x, .int T] ++ List.replicate (6 - (lg_sl [.ref hX, .long x, .int T]).length) Slot.unset).toArray = ls at hl ⊢
  have hl : lv_has ls 6 [(0, .ref hX), (1, .long x), (3, .int T)] := hl
  have hD : va_D (zA [(hX, .inr (3, [.int wi, .int ma, .ref hR, .ref hT, .ref hC, .int no])), (hR, .inr (2, [.ref hp, .ref hq, .ref hi, .int (nI rc)])), (hp, .inl (cP, 40, .inl rp)), (hq, .inl (cQ, 40, .inl rl)), (hi, .inl (cS, 40, .inl ri)), (hT, .inr (0, [.ref hs, .ref hu, .ref ho, .int (nI ac)])), (hs, .inl (cI, 64, .inl ai)), (hu, .inl (cU, 512, .inl ut)), (ho, .inl (cO, 64, .inl ol)), (hC, .inr (1, [.ref hn, .ref ha, .ref hk, .int (nI cc)])), (hn, .inl (cN, 100, .inr (.inl cn))), (ha, .inl (cA, 100, .inl ca)), (hk, .inl (cK, 100, .inl cb))]) [(hX, .inr (3, [.int wi, .int ma, .ref hR, .ref hT, .ref hC, .int no])), (hR, .inr (2, [.ref hp, .ref hq, .ref hi, .int (nI rc)])), (hp, .inl (cP, 40, .inl rp)), (hq, .inl (cQ, 40, .inl rl)), (hi, .inl (cS, 40, .inl ri)), (hT, .inr (0, [.ref hs, .ref hu, .ref ho, .int (nI ac)])), (hs, .inl (cI, 64, .inl ai)), (hu, .inl (cU, 512, .inl ut)), (ho, .inl (cO, 64, .inl ol)), (hC, .inr (1, [.ref hn, .ref ha, .ref hk, .int (nI cc)])), (hn, .inl (cN, 100, .inr (.inl cn))), (ha, .inl (cA, 100, .inl ca)), (hk, .inl (cK, 100, .inl cb))] := zA_of hD0
  have hS : va_S (zA [(hX, .inr (3, [.int wi, .int ma, .ref hR, .ref hT, .ref hC, .int no])), (hR, .inr (2, [.ref hp, .ref hq, .ref hi, .int (nI rc)])), (hp, .inl (cP, 40, .inl rp)), (hq, .inl (cQ, 40, .inl rl)), (hi, .inl (cS, 40, .inl ri)), (hT, .inr (0, [.ref hs, .ref hu, .ref ho, .int (nI ac)])), (hs, .inl (cI, 64, .inl ai)), (hu, .inl (cU, 512, .inl ut)), (ho, .inl (cO, 64, .inl ol)), (hC, .inr (1, [.ref hn, .ref ha, .ref hk, .int (nI cc)])), (hn, .inl (cN, 100, .inr (.inl cn))), (ha, .inl (cA, 100, .inl ca)), (hk, .inl (cK, 100, .inl cb))]) s.heap s.heap [] := va_S.rf
  generalize zA [(hX, .inr (3, [.int wi, .int ma, .ref hR, .ref hT, .ref hC, .int no])), (hR, .inr (2, [.ref hp, .ref hq, .ref hi, .int (nI rc)])), (hp, .inl (cP, 40, .inl rp)), (hq, .inl (cQ, 40, .inl rl)), (hi, .inl (cS, 40, .inl ri)), (hT, .inr (0, [.ref hs, .ref hu, .ref ho, .int (nI ac)])), (hs, .inl (cI, 64, .inl ai)), (hu, .inl (cU, 512, .inl ut)), (ho, .inl (cO, 64, .inl ol)), (hC, .inr (1, [.ref hn, .ref ha, .ref hk, .int (nI cc)])), (hn, .inl (cN, 100, .inr (.inl cn))), (ha, .inl (cA, 100, .inl ca)), (hk, .inl (cK, 100, .inl cb))] = A at hD hS ⊢
  refine lv_lload_n hx hb d_CD_use_0 rfl (lv_at hl 1 rfl) ?_
  refine lv_iconst (v := 1) hx hb d_CD_use_1 (by decide) ?_
  refine lv_bipush (v := 18) hx hb d_CD_use_2 (by decide) ?_
  refine zt_callv (zr_TS (n := 3) (As := [.long x, .int 1, .int 18]) (rest := []) CF (c_CD_requireDigits l dC dI hl0 x 1 18 (by decide) (by decide)) mc_CD_requireDigits lk_CD_91 mt_CD_requireDigits ni_CD (by decide +kernel) ⟨Nat.le_of_ble_eq_true rfl, Nat.le_of_ble_eq_true rfl⟩ (hP.sub (ws' := []) [] rfl) (hK.sub (tys' := []) [] rfl) hSt (fun _ _ => rfl) rfl rfl hl.1 rfl (lv_room (Nat.le_of_ble_eq_true rfl)) d_CD_use_4 ⟨Nat.le_of_ble_eq_true rfl, Nat.le_of_ble_eq_true rfl⟩) (fun hok => ?_) (fun x H1 hno hth => zt_leave (fun t ht hW => Or.inr (Or.inl ⟨by rw [if_neg (fun h => hno h.1)], x, rfl, hth.to ht hW⟩)) (fun _ h => by cases h) (fun z hz => hout z hz _) hlocks (Nat.le_of_ble_eq_true rfl) (Nat.le_of_ble_eq_true rfl))
  refine lv_aload_n hx hb d_CD_use_7 rfl (lv_at hl 0 rfl) ?_
  refine lv_iload_n hx hb d_CD_use_8 rfl (lv_at hl 2 rfl) ?_
  refine zt_callv (zr_TV (n := 1) (As := [.int T]) (rest := []) CF (c_CD_requireTime l dC dI hl0 hX wi ma no hR hT hC T) mc_CD_requireTime lk_CD_128 mi_CD_requireTime ms_CD_requireTime ni_CD (by decide +kernel) ⟨Nat.le_of_ble_eq_true rfl, Nat.le_of_ble_eq_true rfl⟩ (hP.sub (ws' := [(hX, .inr (3, [.int wi, .int ma, .ref hR, .ref hT, .ref hC, .int no]))]) [0] rfl) (hK.sub (tys' := []) [] rfl) hSt (fun _ _ => rfl) rfl rfl rfl hl.1 rfl (lv_room (Nat.le_of_ble_eq_true rfl)) d_CD_use_9 ⟨Nat.le_of_ble_eq_true rfl, Nat.le_of_ble_eq_true rfl⟩) (fun htm => ?_) (fun x H1 hno hth => zt_leave (fun t ht hW => Or.inr (Or.inl ⟨by rw [if_neg (fun h => hno h.2)], x, rfl, hth.to ht hW⟩)) (fun _ h => by cases h) (fun z hz => hout z hz _) hlocks (Nat.le_of_ble_eq_true rfl) (Nat.le_of_ble_eq_true rfl))
  refine lv_aload_n hx hb d_CD_use_12 rfl (lv_at hl 0 rfl) ?_
  refine lv_iload_n hx hb d_CD_use_13 rfl (lv_at hl 2 rfl) ?_
  refine va_put (D := (dC, dI)) (ci := 3) (v := .int T) (ty := .int) (C := R_CD) (T := T_CD) (N := 6) hx hb htB i_CD t_CD tk_CD n_CD hown hK hP hD hS 0 rfl rfl 5 (by decide) (htB _ lf_CD_46) (fun _ h9 => h9) rfl (by decide +kernel) rfl rfl (Nat.le_of_ble_eq_true rfl) d_CD_use_14 (fun H locs hP hD hS => ?_)
  have hP : va_P (dC, dI) vwCl [(hX, .inr (3, [.int wi, .int ma, .ref hR, .ref hT, .ref hC, .int T])), (hR, .inr (2, [.ref hp, .ref hq, .ref hi, .int (nI rc)])), (hp, .inl (cP, 40, .inl rp)), (hq, .inl (cQ, 40, .inl rl)), (hi, .inl (cS, 40, .inl ri)), (hT, .inr (0, [.ref hs, .ref hu, .ref ho, .int (nI ac)])), (hs, .inl (cI, 64, .inl ai)), (hu, .inl (cU, 512, .inl ut)), (ho, .inl (cO, 64, .inl ol)), (hC, .inr (1, [.ref hn, .ref ha, .ref hk, .int (nI cc)])), (hn, .inl (cN, 100, .inr (.inl cn))), (ha, .inl (cA, 100, .inl ca)), (hk, .inl (cK, 100, .inl cb))] H := hP
  have hD : va_D A [(hX, .inr (3, [.int wi, .int ma, .ref hR, .ref hT, .ref hC, .int T])), (hR, .inr (2, [.ref hp, .ref hq, .ref hi, .int (nI rc)])), (hp, .inl (cP, 40, .inl rp)), (hq, .inl (cQ, 40, .inl rl)), (hi, .inl (cS, 40, .inl ri)), (hT, .inr (0, [.ref hs, .ref hu, .ref ho, .int (nI ac)])), (hs, .inl (cI, 64, .inl ai)), (hu, .inl (cU, 512, .inl ut)), (ho, .inl (cO, 64, .inl ol)), (hC, .inr (1, [.ref hn, .ref ha, .ref hk, .int (nI cc)])), (hn, .inl (cN, 100, .inr (.inl cn))), (ha, .inl (cA, 100, .inl ca)), (hk, .inl (cK, 100, .inl cb))] := hD
  refine lv_aload_n hx hb d_CD_use_17 rfl (lv_at hl 0 rfl) ?_
  refine va_get (D := (dC, dI)) (ci := 3) (v := .ref hR) (C := R_CD) (T := T_CD) (N := 6) hx hb htB i_CD hown hK hP 0 rfl rfl 2 (by decide) (htB _ lf_CD_28) (fun _ h9 => h9) rfl d_CD_use_18 ?_
  refine lv_lload_n hx hb d_CD_use_21 rfl (lv_at hl 1 rfl) ?_
  refine vp_callSi (va_Run.run (zr_V (n := 1) (As := [.long x]) (rest := []) CF (x_RT_issuerFor l dC dI hR hp hq hi cP cQ cS rc rp rl ri hrc x hok.1) mc_RT_issuerFor lk_CD_105 mi_RT_issuerFor ms_RT_issuerFor ni_RT rfl rfl (by decide +kernel) ⟨Nat.le_of_ble_eq_true rfl, Nat.le_of_ble_eq_true rfl⟩ (hP.sub (ws' := [(hR, .inr (2, [.ref hp, .ref hq, .ref hi, .int (nI rc)])), (hp, .inl (cP, 40, .inl rp)), (hq, .inl (cQ, 40, .inl rl)), (hi, .inl (cS, 40, .inl ri))]) [1, 2, 3, 4] rfl) (hK.sub (tys' := [(cP, .int), (cQ, .int), (cS, .int)]) [0, 1, 2] rfl) rfl rfl rfl hl.1 rfl (lv_room (Nat.le_of_ble_eq_true rfl)) d_CD_use_22 ⟨Nat.zero_le _, Nat.zero_le _⟩)) (fun r_22 h_22 => ?_)
  subst h_22
  refine lv_iconst (v := (-1)) hx hb d_CD_use_25 (by decide) ?_
  refine lv_icmp_ne (tgt := 32) hx hb d_CD_use_26 (by decide) (fun c_26 => ?_) (fun c_26 => ?_)
  · refine lv_lload_n hx hb d_CD_use_32 rfl (lv_at hl 1 rfl) ?_
    refine vp_callSi (va_Run.run (zr_S (n := 1) (As := [.long x]) (rest := []) CF (c_CD_isGood l dC dI x) mc_CD_isGood lk_CD_101 mt_CD_isGood ni_CD rfl rfl (by decide +kernel) ⟨Nat.le_of_ble_eq_true rfl, Nat.le_of_ble_eq_true rfl⟩ (hP.sub (ws' := []) [] rfl) (hK.sub (tys' := []) [] rfl) rfl rfl hl.1 rfl (lv_room (Nat.le_of_ble_eq_true rfl)) d_CD_use_33 ⟨Nat.zero_le _, Nat.zero_le _⟩)) (fun r_33 h_33 => ?_)
    refine lv_if_eq (tgt := 50) hx hb d_CD_use_36 (by decide) (fun c_36 => ?_) (fun c_36 => ?_)
    · have hG : ¬ zd_cs 19 false (zd_N x) % 10 = 0 := fun h => by rw [h_33, if_pos h] at c_36; exact absurd c_36 (by decide)
      refine lv_iconst (v := (-1)) hx hb d_CD_use_50 (by decide) ?_
      refine lv_istore (lv' := [(4, .int (-1)), (0, .ref hX), (1, .long x), (3, .int T)]) hx hb d_CD_use_51 hl (by decide) rfl (fun ls hl => ?_)
      refine lv_iload hx hb d_CD_use_53 (lv_at hl 0 rfl) ?_
      refine lv_iconst (v := (-1)) hx hb d_CD_use_55 (by decide) ?_
      refine lv_icmp_ne (tgt := 62) hx hb d_CD_use_56 (by decide) (fun c_56 => ?_) (fun c_56 => ?_)
      · exact absurd rfl c_56
      · have hix : ¬ zc_at cc cn x < cc := fun h => hG (by rw [← zc_is h]; exact hgood _ h)
        refine lv_bipush (v := 14) hx hb d_CD_use_59 (by decide) ?_
        have hkk : zu_c rc rp rl ri ut cc cn ca cb wi ma x T = 2 := by unfold zu_c; rw [if_neg c_26, if_pos hix]
        exact zt_ret (W.iret (v := 14) hx hb hr (fun t ht hW => Or.inl ⟨by rw [if_pos ⟨hok, htm⟩], (), by rw [hkk]; rfl, by show va_P _ _ _ t.heap; rw [ht]; rw [hkk]; exact hP, hS.F ht⟩) hS.2.2 d_CD_use_61)
    · refine lv_aload_n hx hb d_CD_use_39 rfl (lv_at hl 0 rfl) ?_
      refine va_get (D := (dC, dI)) (ci := 3) (v := .ref hC) (C := R_CD) (T := T_CD) (N := 6) hx hb htB i_CD hown hK hP 0 rfl rfl 4 (by decide) (htB _ lf_CD_42) (fun _ h9 => h9) rfl d_CD_use_40 ?_
      refine lv_lload_n hx hb d_CD_use_43 rfl (lv_at hl 1 rfl) ?_
      refine vp_callSi (va_Run.run (zr_V (n := 1) (As := [.long x]) (rest := []) CF (c_CT_find l dC dI hC hn ha hk cN cA cK cc cn ca cb hcc x) mc_CT_find lk_CD_112 mi_CT_find ms_CT_find ni_CT rfl rfl (by decide +kernel) ⟨Nat.le_of_ble_eq_true rfl, Nat.le_of_ble_eq_true rfl⟩ (hP.sub (ws' := [(hC, .inr (1, [.ref hn, .ref ha, .ref hk, .int (nI cc)])), (hn, .inl (cN, 100, .inr (.inl cn))), (ha, .inl (cA, 100, .inl ca)), (hk, .inl (cK, 100, .inl cb))]) [9, 10, 11, 12] rfl) (hK.sub (tys' := [(cN, .long), (cA, .int), (cK, .boolean)]) [6, 7, 8] rfl) rfl rfl rfl hl.1 rfl (lv_room (Nat.le_of_ble_eq_true rfl)) d_CD_use_44 ⟨Nat.zero_le _, Nat.zero_le _⟩)) (fun r_44 h_44 => ?_)
      subst h_44
      refine lv_goto (tgt := 51) hx hb d_CD_use_47 (by decide) ?_
      refine lv_istore (lv' := [(4, .int (zf_r (fun j => decide (cn j = x)) cc)), (0, .ref hX), (1, .long x), (3, .int T)]) hx hb d_CD_use_51 hl (by decide) rfl (fun ls hl => ?_)
      refine lv_iload hx hb d_CD_use_53 (lv_at hl 0 rfl) ?_
      refine lv_iconst (v := (-1)) hx hb d_CD_use_55 (by decide) ?_
      refine lv_icmp_ne (tgt := 62) hx hb d_CD_use_56 (by decide) (fun c_56 => ?_) (fun c_56 => ?_)
      · have hix : zc_at cc cn x < cc := Classical.byContradiction fun h => c_56 (if_neg h)
        have hle := zc_le cc cn x
        have hjx : 0 ≤ (nI (zc_at cc cn x)).toInt ∧ (nI (zc_at cc cn x)).toInt < cc := by rw [nI_toInt (by omega)]; omega
        have hjn : (nI (zc_at cc cn x)).toInt.toNat = zc_at cc cn x := by rw [nI_toInt (by omega)]; rfl
        refine lv_aload_n hx hb d_CD_use_62 rfl (lv_at hl 1 rfl) ?_
        refine va_get (D := (dC, dI)) (ci := 3) (v := .ref hC) (C := R_CD) (T := T_CD) (N := 6) hx hb htB i_CD hown hK hP 0 rfl rfl 4 (by decide) (htB _ lf_CD_42) (fun _ h9 => h9) rfl d_CD_use_63 ?_
        refine lv_iload hx hb d_CD_use_66 (lv_at hl 0 rfl) ?_
        rw [show (zf_r (fun j => decide (cn j = x)) cc : Int32) = nI (zc_at cc cn x) from if_pos hix]
        refine vp_callSi (va_Run.run (zr_V (n := 1) (As := [.int (nI (zc_at cc cn x))]) (rest := []) CF (x_CT_isBlocked l dC dI hC hn ha hk cN cA cK cc cn ca cb hcc (nI (zc_at cc cn x)) hjx) mc_CT_isBlocked lk_CD_131 mi_CT_isBlocked ms_CT_isBlocked ni_CT rfl rfl (by decide +kernel) ⟨Nat.le_of_ble_eq_true rfl, Nat.le_of_ble_eq_true rfl⟩ (hP.sub (ws' := [(hC, .inr (1, [.ref hn, .ref ha, .ref hk, .int (nI cc)])), (hn, .inl (cN, 100, .inr (.inl cn))), (ha, .inl (cA, 100, .inl ca)), (hk, .inl (cK, 100, .inl cb))]) [9, 10, 11, 12] rfl) (hK.sub (tys' := [(cN, .long), (cA, .int), (cK, .boolean)]) [6, 7, 8] rfl) rfl rfl rfl hl.1 rfl (lv_room (Nat.le_of_ble_eq_true rfl)) d_CD_use_68 ⟨Nat.zero_le _, Nat.zero_le _⟩)) (fun r_68 h_68 => ?_)
        rw [hjn] at h_68
        refine lv_if_eq (tgt := 77) hx hb d_CD_use_71 (by decide) (fun c_71 => ?_) (fun c_71 => ?_)
        · have hBl : cb (zc_at cc cn x) = 0 := Classical.byContradiction fun h => by rw [h_68, if_neg h] at c_71; exact absurd c_71 (by decide)
          refine lv_aload_n hx hb d_CD_use_77 rfl (lv_at hl 1 rfl) ?_
          refine va_get (D := (dC, dI)) (ci := 3) (v := .ref hC) (C := R_CD) (T := T_CD) (N := 6) hx hb htB i_CD hown hK hP 0 rfl rfl 4 (by decide) (htB _ lf_CD_42) (fun _ h9 => h9) rfl d_CD_use_78 ?_
          refine lv_iload hx hb d_CD_use_81 (lv_at hl 0 rfl) ?_
          rw [show (zf_r (fun j => decide (cn j = x)) cc : Int32) = nI (zc_at cc cn x) from if_pos hix]
          refine vp_callSi (va_Run.run (zr_V (n := 1) (As := [.int (nI (zc_at cc cn x))]) (rest := []) CF (x_CT_accountOf l dC dI hC hn ha hk cN cA cK cc cn ca cb hcc (nI (zc_at cc cn x)) hjx) mc_CT_accountOf lk_CD_135 mi_CT_accountOf ms_CT_accountOf ni_CT rfl rfl (by decide +kernel) ⟨Nat.le_of_ble_eq_true rfl, Nat.le_of_ble_eq_true rfl⟩ (hP.sub (ws' := [(hC, .inr (1, [.ref hn, .ref ha, .ref hk, .int (nI cc)])), (hn, .inl (cN, 100, .inr (.inl cn))), (ha, .inl (cA, 100, .inl ca)), (hk, .inl (cK, 100, .inl cb))]) [9, 10, 11, 12] rfl) (hK.sub (tys' := [(cN, .long), (cA, .int), (cK, .boolean)]) [6, 7, 8] rfl) rfl rfl rfl hl.1 rfl (lv_room (Nat.le_of_ble_eq_true rfl)) d_CD_use_83 ⟨Nat.zero_le _, Nat.zero_le _⟩)) (fun r_83 h_83 => ?_)
          rw [hjn] at h_83
          subst h_83
          refine lv_istore (lv' := [(5, .int (ca (zc_at cc cn x))), (4, .int (zf_r (fun j => decide (cn j = x)) cc)), (0, .ref hX), (1, .long x), (3, .int T)]) hx hb d_CD_use_86 hl (by decide) rfl (fun ls hl => ?_)
          refine lv_aload_n hx hb d_CD_use_88 rfl (lv_at hl 2 rfl) ?_
          refine va_get (D := (dC, dI)) (ci := 3) (v := .ref hT) (C := R_CD) (T := T_CD) (N := 6) hx hb htB i_CD hown hK hP 0 rfl rfl 3 (by decide) (htB _ lf_CD_35) (fun _ h9 => h9) rfl d_CD_use_89 ?_
          refine lv_iload hx hb d_CD_use_92 (lv_at hl 0 rfl) ?_
          refine lv_iload_n hx hb d_CD_use_94 rfl (lv_at hl 4 rfl) ?_
          refine lv_aload_n hx hb d_CD_use_95 rfl (lv_at hl 2 rfl) ?_
          refine va_get (D := (dC, dI)) (ci := 3) (v := .int wi) (C := R_CD) (T := T_CD) (N := 6) hx hb htB i_CD hown hK hP 0 rfl rfl 0 (by decide) (htB _ lf_CD_18) (fun _ h9 => h9) rfl d_CD_use_96 ?_
          refine lv_isub hx hb d_CD_use_99 ?_
          refine vp_callSi (va_Run.run (zr_V (n := 2) (As := [.int (ca (zc_at cc cn x)), .int (T - wi)]) (rest := []) CF (x_AT_usesSince l dC dI hT hs hu ho cI cU cO ac ai ut ol hac (ca (zc_at cc cn x)) (hca _ hix) (T - wi)) mc_AT_usesSince lk_CD_138 mi_AT_usesSince ms_AT_usesSince ni_AT rfl rfl (by decide +kernel) ⟨Nat.le_of_ble_eq_true rfl, Nat.le_of_ble_eq_true rfl⟩ (hP.sub (ws' := [(hT, .inr (0, [.ref hs, .ref hu, .ref ho, .int (nI ac)])), (hs, .inl (cI, 64, .inl ai)), (hu, .inl (cU, 512, .inl ut)), (ho, .inl (cO, 64, .inl ol))]) [5, 6, 7, 8] rfl) (hK.sub (tys' := [(cI, .int), (cU, .int), (cO, .int)]) [3, 4, 5] rfl) rfl rfl rfl hl.1 rfl (lv_room (Nat.le_of_ble_eq_true rfl)) d_CD_use_100 ⟨Nat.zero_le _, Nat.zero_le _⟩)) (fun r_100 h_100 => ?_)
          subst h_100
          refine lv_aload_n hx hb d_CD_use_103 rfl (lv_at hl 2 rfl) ?_
          refine va_get (D := (dC, dI)) (ci := 3) (v := .int ma) (C := R_CD) (T := T_CD) (N := 6) hx hb htB i_CD hown hK hP 0 rfl rfl 1 (by decide) (htB _ lf_CD_22) (fun _ h9 => h9) rfl d_CD_use_104 ?_
          refine lv_icmp_lt (tgt := 113) hx hb d_CD_use_107 (by decide) (fun c_107 => ?_) (fun c_107 => ?_)
          · refine lv_aload_n hx hb d_CD_use_113 rfl (lv_at hl 2 rfl) ?_
            refine va_get (D := (dC, dI)) (ci := 3) (v := .ref hT) (C := R_CD) (T := T_CD) (N := 6) hx hb htB i_CD hown hK hP 0 rfl rfl 3 (by decide) (htB _ lf_CD_35) (fun _ h9 => h9) rfl d_CD_use_114 ?_
            refine lv_iload hx hb d_CD_use_117 (lv_at hl 0 rfl) ?_
            refine lv_iload_n hx hb d_CD_use_119 rfl (lv_at hl 4 rfl) ?_
            have hac9 := zi_of (hca _ hix)
            have hol9 := zi_of (hol _ hac9.2)
            refine va_callv (zr_V (n := 2) (As := [.int (ca (zc_at cc cn x)), .int T]) (rest := []) CF (x_AT_noteUse l dC dI hT hs hu ho cI cU cO ac ai ut ol hac (ca (zc_at cc cn x)) (hca _ hix) (hol _ hac9.2) T ((hD.sub (ws' := [(hT, .inr (0, [.ref hs, .ref hu, .ref ho, .int (nI ac)])), (hs, .inl (cI, 64, .inl ai)), (hu, .inl (cU, 512, .inl ut)), (ho, .inl (cO, 64, .inl ol))]) [5, 6, 7, 8] (by decide) rfl).weaken (fun _ _ _ _ => trivial))) mc_AT_noteUse lk_CD_141 mi_AT_noteUse ms_AT_noteUse ni_AT rfl rfl (by decide +kernel) ⟨Nat.le_of_ble_eq_true rfl, Nat.le_of_ble_eq_true rfl⟩ (hP.sub (ws' := [(hT, .inr (0, [.ref hs, .ref hu, .ref ho, .int (nI ac)])), (hs, .inl (cI, 64, .inl ai)), (hu, .inl (cU, 512, .inl ut)), (ho, .inl (cO, 64, .inl ol))]) [5, 6, 7, 8] rfl) (hK.sub (tys' := [(cI, .int), (cU, .int), (cO, .int)]) [3, 4, 5] rfl) rfl rfl rfl hl.1 rfl (lv_room (Nat.le_of_ble_eq_true rfl)) d_CD_use_120 ⟨Nat.zero_le _, Nat.zero_le _⟩) hS (fun q _ h => zA_sub hD (wc := [(hT, .inr (0, [.ref hs, .ref hu, .ref ho, .int (nI ac)])), (hs, .inl (cI, 64, .inl ai)), (hu, .inl (cU, 512, .inl ut)), (ho, .inl (cO, 64, .inl ol))]) [5, 6, 7, 8] rfl h) (fun q h => zA_sub hD (wc := [(hT, .inr (0, [.ref hs, .ref hu, .ref ho, .int (nI ac)])), (hs, .inl (cI, 64, .inl ai)), (hu, .inl (cU, 512, .inl ut)), (ho, .inl (cO, 64, .inl ol))]) [5, 6, 7, 8] rfl h) (fun u t H1 locs1 ht hvm hw_120 hB hz hk9 hS => ?_)
            have hP1 : va_P (dC, dI) vwCl [(hT, .inr (0, [.ref hs, .ref hu, .ref ho, .int (nI ac)])), (hs, .inl (cI, 64, .inl ai)), (hu, .inl (cU, 512, .inl (upd ut (8 * (ca (zc_at cc cn x)).toInt.toNat + (ol ((ca (zc_at cc cn x)).toInt.toNat)).toInt.toNat) T))), (ho, .inl (cO, 64, .inl (upd ol ((ca (zc_at cc cn x)).toInt.toNat) (nI (((ol ((ca (zc_at cc cn x)).toInt.toNat)).toInt.toNat + 1) % 8)))))] H1 := by
              have h9 : va_P (dC, dI) vwCl [(hT, .inr (0, [.ref hs, .ref hu, .ref ho, .int (nI ac)])), (hs, .inl (cI, 64, .inl ai)), (hu, .inl (cU, 512, .inl (upd ut (8 * (ca (zc_at cc cn x)).toInt.toNat + (ol ((ca (zc_at cc cn x)).toInt.toNat)).toInt.toNat) T))), (ho, .inl (cO, 64, .inl (upd ol ((ca (zc_at cc cn x)).toInt.toNat) (nI (((ol ((ca (zc_at cc cn x)).toInt.toNat)).toInt.toNat + 1) % 8)))))] t.heap := hB
              rw [ht] at h9
              exact h9
            have hP : va_P (dC, dI) vwCl [(hX, .inr (3, [.int wi, .int ma, .ref hR, .ref hT, .ref hC, .int T])), (hR, .inr (2, [.ref hp, .ref hq, .ref hi, .int (nI rc)])), (hp, .inl (cP, 40, .inl rp)), (hq, .inl (cQ, 40, .inl rl)), (hi, .inl (cS, 40, .inl ri)), (hT, .inr (0, [.ref hs, .ref hu, .ref ho, .int (nI ac)])), (hs, .inl (cI, 64, .inl ai)), (hu, .inl (cU, 512, .inl (upd ut (8 * (ca (zc_at cc cn x)).toInt.toNat + (ol ((ca (zc_at cc cn x)).toInt.toNat)).toInt.toNat) T))), (ho, .inl (cO, 64, .inl (upd ol ((ca (zc_at cc cn x)).toInt.toNat) (nI (((ol ((ca (zc_at cc cn x)).toInt.toNat)).toInt.toNat + 1) % 8))))), (hC, .inr (1, [.ref hn, .ref ha, .ref hk, .int (nI cc)])), (hn, .inl (cN, 100, .inr (.inl cn))), (ha, .inl (cA, 100, .inl ca)), (hk, .inl (cK, 100, .inl cb))] H1 := zj (wc := [(hT, .inr (0, [.ref hs, .ref hu, .ref ho, .int (nI ac)])), (hs, .inl (cI, 64, .inl ai)), (hu, .inl (cU, 512, .inl ut)), (ho, .inl (cO, 64, .inl ol))]) hP hD [5, 6, 7, 8] rfl hP1 hk9 rfl rfl
            have hD : va_D A [(hX, .inr (3, [.int wi, .int ma, .ref hR, .ref hT, .ref hC, .int T])), (hR, .inr (2, [.ref hp, .ref hq, .ref hi, .int (nI rc)])), (hp, .inl (cP, 40, .inl rp)), (hq, .inl (cQ, 40, .inl rl)), (hi, .inl (cS, 40, .inl ri)), (hT, .inr (0, [.ref hs, .ref hu, .ref ho, .int (nI ac)])), (hs, .inl (cI, 64, .inl ai)), (hu, .inl (cU, 512, .inl (upd ut (8 * (ca (zc_at cc cn x)).toInt.toNat + (ol ((ca (zc_at cc cn x)).toInt.toNat)).toInt.toNat) T))), (ho, .inl (cO, 64, .inl (upd ol ((ca (zc_at cc cn x)).toInt.toNat) (nI (((ol ((ca (zc_at cc cn x)).toInt.toNat)).toInt.toNat + 1) % 8))))), (hC, .inr (1, [.ref hn, .ref ha, .ref hk, .int (nI cc)])), (hn, .inl (cN, 100, .inr (.inl cn))), (ha, .inl (cA, 100, .inl ca)), (hk, .inl (cK, 100, .inl cb))] := zD_of (ws := [(hX, .inr (3, [.int wi, .int ma, .ref hR, .ref hT, .ref hC, .int T])), (hR, .inr (2, [.ref hp, .ref hq, .ref hi, .int (nI rc)])), (hp, .inl (cP, 40, .inl rp)), (hq, .inl (cQ, 40, .inl rl)), (hi, .inl (cS, 40, .inl ri)), (hT, .inr (0, [.ref hs, .ref hu, .ref ho, .int (nI ac)])), (hs, .inl (cI, 64, .inl ai)), (hu, .inl (cU, 512, .inl ut)), (ho, .inl (cO, 64, .inl ol)), (hC, .inr (1, [.ref hn, .ref ha, .ref hk, .int (nI cc)])), (hn, .inl (cN, 100, .inr (.inl cn))), (ha, .inl (cA, 100, .inl ca)), (hk, .inl (cK, 100, .inl cb))]) rfl hD
            generalize H1 = H at hP hS ⊢
            refine lv_iconst (v := 0) hx hb d_CD_use_123 (by decide) ?_
            have hkk : zu_c rc rp rl ri ut cc cn ca cb wi ma x T = 0 := by unfold zu_c; rw [if_neg c_26, if_neg (fun h => h hix), if_neg (fun h => h hBl), if_neg (fun h => absurd c_107 (Int32.not_lt.mpr h))]
            exact zt_ret (W.iret (v := 0) hx hb hr (fun t ht hW => Or.inl ⟨by rw [if_pos ⟨hok, htm⟩], (), by rw [hkk]; rfl, by show va_P _ _ _ t.heap; rw [ht]; rw [hkk]; exact hP, hS.F ht⟩) hS.2.2 d_CD_use_124)
          · refine lv_bipush (v := 65) hx hb d_CD_use_110 (by decide) ?_
            have hkk : zu_c rc rp rl ri ut cc cn ca cb wi ma x T = 4 := by unfold zu_c; rw [if_neg c_26, if_neg (fun h => h hix), if_neg (fun h => h hBl), if_pos (Int32.not_lt.mp c_107)]
            exact zt_ret (W.iret (v := 65) hx hb hr (fun t ht hW => Or.inl ⟨by rw [if_pos ⟨hok, htm⟩], (), by rw [hkk]; rfl, by show va_P _ _ _ t.heap; rw [ht]; rw [hkk]; exact hP, hS.F ht⟩) hS.2.2 d_CD_use_112)
        · have hBl : ¬ cb (zc_at cc cn x) = 0 := fun h => c_71 (by rw [h_68, if_pos h])
          refine lv_bipush (v := 62) hx hb d_CD_use_74 (by decide) ?_
          have hkk : zu_c rc rp rl ri ut cc cn ca cb wi ma x T = 3 := by unfold zu_c; rw [if_neg c_26, if_neg (fun h => h hix), if_pos hBl]
          exact zt_ret (W.iret (v := 62) hx hb hr (fun t ht hW => Or.inl ⟨by rw [if_pos ⟨hok, htm⟩], (), by rw [hkk]; rfl, by show va_P _ _ _ t.heap; rw [ht]; rw [hkk]; exact hP, hS.F ht⟩) hS.2.2 d_CD_use_76)
      · have hle := zc_le cc cn x
        have hix : ¬ zc_at cc cn x < cc := fun h => zf_m1 (show zc_at cc cn x < 2 ^ 31 by omega) ((if_pos h).symm.trans c_56)
        refine lv_bipush (v := 14) hx hb d_CD_use_59 (by decide) ?_
        have hkk : zu_c rc rp rl ri ut cc cn ca cb wi ma x T = 2 := by unfold zu_c; rw [if_neg c_26, if_pos hix]
        exact zt_ret (W.iret (v := 14) hx hb hr (fun t ht hW => Or.inl ⟨by rw [if_pos ⟨hok, htm⟩], (), by rw [hkk]; rfl, by show va_P _ _ _ t.heap; rw [ht]; rw [hkk]; exact hP, hS.F ht⟩) hS.2.2 d_CD_use_61)
  · refine lv_bipush (v := 92) hx hb d_CD_use_29 (by decide) ?_
    have hkk : zu_c rc rp rl ri ut cc cn ca cb wi ma x T = 1 := by unfold zu_c; rw [if_pos c_26]
    exact zt_ret (W.iret (v := 92) hx hb hr (fun t ht hW => Or.inl ⟨by rw [if_pos ⟨hok, htm⟩], (), by rw [hkk]; rfl, by show va_P _ _ _ t.heap; rw [ht]; rw [hkk]; exact hP, hS.F ht⟩) hS.2.2 d_CD_use_31)
set_option maxHeartbeats 4000000 in
set_option maxRecDepth 100000 in
theorem c_CD_used (l : Launch) (dC : Nat → ClassId) (dI : Nat → Nat → Nat) (hl0 : l.stackTraces = false) (hX : Nat) (wi ma no : Int32) (hR hp hq hi : Nat) (cP cQ cS : ClassId) (rc : Nat) (rp rl ri : Nat → Int32) (hrc : rc ≤ 40) (hT hs hu ho : Nat) (cI cU cO : ClassId) (ac : Nat) (ai ut ol : Nat → Int32) (hac : ac ≤ 64) (hC hn ha hk : Nat) (cN cA cK : ClassId) (cc : Nat) (cn : Nat → Int64) (ca cb : Nat → Int32) (hcc : cc ≤ 100) (z T : Int32) (hD0 : va_D (fun _ => True) [(hX, .inr (3, [.int wi, .int ma, .ref hR, .ref hT, .ref hC, .int no])), (hR, .inr (2, [.ref hp, .ref hq, .ref hi, .int (nI rc)])), (hp, .inl (cP, 40, .inl rp)), (hq, .inl (cQ, 40, .inl rl)), (hi, .inl (cS, 40, .inl ri)), (hT, .inr (0, [.ref hs, .ref hu, .ref ho, .int (nI ac)])), (hs, .inl (cI, 64, .inl ai)), (hu, .inl (cU, 512, .inl ut)), (ho, .inl (cO, 64, .inl ol)), (hC, .inr (1, [.ref hn, .ref ha, .ref hk, .int (nI cc)])), (hn, .inl (cN, 100, .inr (.inl cn))), (ha, .inl (cA, 100, .inl ca)), (hk, .inl (cK, 100, .inl cb))]) : MetT l y_CD_used (zw y_CD_used b_CD_used 3 (some .int)) ({ frames := 7, cells := 1, slots := 6, locals := 103 }) (zPreT [.ref hX, .int z, .int T] (dC, dI) [(hX, .inr (3, [.int wi, .int ma, .ref hR, .ref hT, .ref hC, .int no])), (hR, .inr (2, [.ref hp, .ref hq, .ref hi, .int (nI rc)])), (hp, .inl (cP, 40, .inl rp)), (hq, .inl (cQ, 40, .inl rl)), (hi, .inl (cS, 40, .inl ri)), (hT, .inr (0, [.ref hs, .ref hu, .ref ho, .int (nI ac)])), (hs, .inl (cI, 64, .inl ai)), (hu, .inl (cU, 512, .inl ut)), (ho, .inl (cO, 64, .inl ol)), (hC, .inr (1, [.ref hn, .ref ha, .ref hk, .int (nI cc)])), (hn, .inl (cN, 100, .inr (.inl cn))), (ha, .inl (cA, 100, .inl ca)), (hk, .inl (cK, 100, .inl cb))] [(cP, .int), (cQ, .int), (cS, .int), (cI, .int), (cU, .int), (cO, .int), (cN, .long), (cA, .int), (cK, .boolean)]) (zt_Q3 (S := Unit) (if (0 ≤ z.toInt ∧ z.toInt < ac) ∧ no ≤ T then 0 else 1) (fun _ => some (.int (nI (zu_cnt ut (T - wi) (8 * z.toInt.toNat) 8)))) (fun (_ : Unit) (t : State) => va_P (dC, dI) vwCl [(hX, .inr (3, [.int wi, .int ma, .ref hR, .ref hT, .ref hC, .int no])), (hR, .inr (2, [.ref hp, .ref hq, .ref hi, .int (nI rc)])), (hp, .inl (cP, 40, .inl rp)), (hq, .inl (cQ, 40, .inl rl)), (hi, .inl (cS, 40, .inl ri)), (hT, .inr (0, [.ref hs, .ref hu, .ref ho, .int (nI ac)])), (hs, .inl (cI, 64, .inl ai)), (hu, .inl (cU, 512, .inl ut)), (ho, .inl (cO, 64, .inl ol)), (hC, .inr (1, [.ref hn, .ref ha, .ref hk, .int (nI cc)])), (hn, .inl (cN, 100, .inr (.inl cn))), (ha, .inl (cA, 100, .inl ca)), (hk, .inl (cK, 100, .inl cb))] t.heap) (zA [(hX, .inr (3, [.int wi, .int ma, .ref hR, .ref hT, .ref hC, .int no])), (hR, .inr (2, [.ref hp, .ref hq, .ref hi, .int (nI rc)])), (hp, .inl (cP, 40, .inl rp)), (hq, .inl (cQ, 40, .inl rl)), (hi, .inl (cS, 40, .inl ri)), (hT, .inr (0, [.ref hs, .ref hu, .ref ho, .int (nI ac)])), (hs, .inl (cI, 64, .inl ai)), (hu, .inl (cU, 512, .inl ut)), (ho, .inl (cO, 64, .inl ol)), (hC, .inr (1, [.ref hn, .ref ha, .ref hk, .int (nI cc)])), (hn, .inl (cN, 100, .inr (.inl cn))), (ha, .inl (cA, 100, .inl ca)), (hk, .inl (cK, 100, .inl cb))])) 0 0 (zA [(hX, .inr (3, [.int wi, .int ma, .ref hR, .ref hT, .ref hC, .int no])), (hR, .inr (2, [.ref hp, .ref hq, .ref hi, .int (nI rc)])), (hp, .inl (cP, 40, .inl rp)), (hq, .inl (cQ, 40, .inl rl)), (hi, .inl (cS, 40, .inl ri)), (hT, .inr (0, [.ref hs, .ref hu, .ref ho, .int (nI ac)])), (hs, .inl (cI, 64, .inl ai)), (hu, .inl (cU, 512, .inl ut)), (ho, .inl (cO, 64, .inl ol)), (hC, .inr (1, [.ref hn, .ref ha, .ref hk, .int (nI cc)])), (hn, .inl (cN, 100, .inr (.inl cn))), (ha, .inl (cA, 100, .inl ca)), (hk, .inl (cK, 100, .inl cb))]) := by
  refine zt_ofW (cc := b_CD_used) (maxL := 3) (ret := (some .int)) (by decide) rfl ?_
  intro p e s m args below meth c s₁ B hml hout hv
  obtain ⟨rfl, ⟨hP, hK⟩, hSt⟩ := hv
  have hx := B.exec
  have hb := B.bytes
  have hr := B.returns
  have hts := atoms_spec (ws := (zw y_CD_used b_CD_used 3 (some .int))) B.pre
  have htB : ∀ w ∈ BG, w.before ([.ref hX, .int z, .int T] : List Value).toArray s = true := fun w h => hts w (List.mem_cons_of_mem _ h)
  have hown : s.vm.findClass R_CD = some m.cls := findClass_of_methodNamed B.named
  have hlocks := B.notSynchronized
  have htr : e.platform.stackTraces = false := (show e.platform.stackTraces = l.stackTraces by rw [B.admits.platform]).trans hl0
  have CF : CallFix p m c b_CD_used 3 s ([.ref hX, .int z, .int T] : List Value).toArray BG R_CD := ⟨hx, hb, hml, hown, htB⟩
  have hP : va_P (dC, dI) vwCl [(hX, .inr (3, [.int wi, .int ma, .ref hR, .ref hT, .ref hC, .int no])), (hR, .inr (2, [.ref hp, .ref hq, .ref hi, .int (nI rc)])), (hp, .inl (cP, 40, .inl rp)), (hq, .inl (cQ, 40, .inl rl)), (hi, .inl (cS, 40, .inl ri)), (hT, .inr (0, [.ref hs, .ref hu, .ref ho, .int (nI ac)])), (hs, .inl (cI, 64, .inl ai)), (hu, .inl (cU, 512, .inl ut)), (ho, .inl (cO, 64, .inl ol)), (hC, .inr (1, [.ref hn, .ref ha, .ref hk, .int (nI cc)])), (hn, .inl (cN, 100, .inr (.inl cn))), (ha, .inl (cA, 100, .inl ca)), (hk, .inl (cK, 100, .inl cb))] s.heap := hP
  have hl := lv_entry [.ref hX, .int z, .int T] (n := 3) (Nat.le_of_ble_eq_true rfl)
  rw [lg_entry_eq]
  generalize (lg_sl [.ref hX, .int z, .int T] ++ List.replicate (3 - (lg_sl [.ref hX, .int z, .int T]).length) Slot.unset).toArray = ls at hl ⊢
  have hl : lv_has ls 3 [(0, .ref hX), (1, .int z), (2, .int T)] := hl
  have hD : va_D (zA [(hX, .inr (3, [.int wi, .int ma, .ref hR, .ref hT, .ref hC, .int no])), (hR, .inr (2, [.ref hp, .ref hq, .ref hi, .int (nI rc)])), (hp, .inl (cP, 40, .inl rp)), (hq, .inl (cQ, 40, .inl rl)), (hi, .inl (cS, 40, .inl ri)), (hT, .inr (0, [.ref hs, .ref hu, .ref ho, .int (nI ac)])), (hs, .inl (cI, 64, .inl ai)), (hu, .inl (cU, 512, .inl ut)), (ho, .inl (cO, 64, .inl ol)), (hC, .inr (1, [.ref hn, .ref ha, .ref hk, .int (nI cc)])), (hn, .inl (cN, 100, .inr (.inl cn))), (ha, .inl (cA, 100, .inl ca)), (hk, .inl (cK, 100, .inl cb))]) [(hX, .inr (3, [.int wi, .int ma, .ref hR, .ref hT, .ref hC, .int no])), (hR, .inr (2, [.ref hp, .ref hq, .ref hi, .int (nI rc)])), (hp, .inl (cP, 40, .inl rp)), (hq, .inl (cQ, 40, .inl rl)), (hi, .inl (cS, 40, .inl ri)), (hT, .inr (0, [.ref hs, .ref hu, .ref ho, .int (nI ac)])), (hs, .inl (cI, 64, .inl ai)), (hu, .inl (cU, 512, .inl ut)), (ho, .inl (cO, 64, .inl ol)), (hC, .inr (1, [.ref hn, .ref ha, .ref hk, .int (nI cc)])), (hn, .inl (cN, 100, .inr (.inl cn))), (ha, .inl (cA, 100, .inl ca)), (hk, .inl (cK, 100, .inl cb))] := zA_of hD0
  have hS : va_S (zA [(hX, .inr (3, [.int wi, .int ma, .ref hR, .ref hT, .ref hC, .int no])), (hR, .inr (2, [.ref hp, .ref hq, .ref hi, .int (nI rc)])), (hp, .inl (cP, 40, .inl rp)), (hq, .inl (cQ, 40, .inl rl)), (hi, .inl (cS, 40, .inl ri)), (hT, .inr (0, [.ref hs, .ref hu, .ref ho, .int (nI ac)])), (hs, .inl (cI, 64, .inl ai)), (hu, .inl (cU, 512, .inl ut)), (ho, .inl (cO, 64, .inl ol)), (hC, .inr (1, [.ref hn, .ref ha, .ref hk, .int (nI cc)])), (hn, .inl (cN, 100, .inr (.inl cn))), (ha, .inl (cA, 100, .inl ca)), (hk, .inl (cK, 100, .inl cb))]) s.heap s.heap [] := va_S.rf
  generalize zA [(hX, .inr (3, [.int wi, .int ma, .ref hR, .ref hT, .ref hC, .int no])), (hR, .inr (2, [.ref hp, .ref hq, .ref hi, .int (nI rc)])), (hp, .inl (cP, 40, .inl rp)), (hq, .inl (cQ, 40, .inl rl)), (hi, .inl (cS, 40, .inl ri)), (hT, .inr (0, [.ref hs, .ref hu, .ref ho, .int (nI ac)])), (hs, .inl (cI, 64, .inl ai)), (hu, .inl (cU, 512, .inl ut)), (ho, .inl (cO, 64, .inl ol)), (hC, .inr (1, [.ref hn, .ref ha, .ref hk, .int (nI cc)])), (hn, .inl (cN, 100, .inr (.inl cn))), (ha, .inl (cA, 100, .inl ca)), (hk, .inl (cK, 100, .inl cb))] = A at hD hS ⊢
  refine lv_aload_n hx hb d_CD_used_0 rfl (lv_at hl 0 rfl) ?_
  refine lv_iload_n hx hb d_CD_used_1 rfl (lv_at hl 1 rfl) ?_
  refine zt_callv (zr_TV (n := 1) (As := [.int z]) (rest := []) CF (c_CD_requireAccount l dC dI hl0 hX wi ma no hC hR hT hs hu ho cI cU cO ac ai ut ol hac z) mc_CD_requireAccount lk_CD_95 mi_CD_requireAccount ms_CD_requireAccount ni_CD (by decide +kernel) ⟨Nat.le_of_ble_eq_true rfl, Nat.le_of_ble_eq_true rfl⟩ (hP.sub (ws' := [(hX, .inr (3, [.int wi, .int ma, .ref hR, .ref hT, .ref hC, .int no])), (hT, .inr (0, [.ref hs, .ref hu, .ref ho, .int (nI ac)])), (hs, .inl (cI, 64, .inl ai)), (hu, .inl (cU, 512, .inl ut)), (ho, .inl (cO, 64, .inl ol))]) [0, 5, 6, 7, 8] rfl) (hK.sub (tys' := [(cI, .int), (cU, .int), (cO, .int)]) [3, 4, 5] rfl) hSt (fun _ _ => rfl) rfl rfl rfl hl.1 rfl (lv_room (Nat.le_of_ble_eq_true rfl)) d_CD_used_2 ⟨Nat.le_of_ble_eq_true rfl, Nat.le_of_ble_eq_true rfl⟩) (fun hzz => ?_) (fun x H1 hno hth => zt_leave (fun t ht hW => Or.inr (Or.inl ⟨by rw [if_neg (fun h => hno h.1)], x, rfl, hth.to ht hW⟩)) (fun _ h => by cases h) (fun z hz => hout z hz _) hlocks (Nat.le_of_ble_eq_true rfl) (Nat.le_of_ble_eq_true rfl))
  refine lv_aload_n hx hb d_CD_used_5 rfl (lv_at hl 0 rfl) ?_
  refine lv_iload_n hx hb d_CD_used_6 rfl (lv_at hl 2 rfl) ?_
  refine zt_callv (zr_TV (n := 1) (As := [.int T]) (rest := []) CF (c_CD_requireTime l dC dI hl0 hX wi ma no hR hT hC T) mc_CD_requireTime lk_CD_128 mi_CD_requireTime ms_CD_requireTime ni_CD (by decide +kernel) ⟨Nat.le_of_ble_eq_true rfl, Nat.le_of_ble_eq_true rfl⟩ (hP.sub (ws' := [(hX, .inr (3, [.int wi, .int ma, .ref hR, .ref hT, .ref hC, .int no]))]) [0] rfl) (hK.sub (tys' := []) [] rfl) hSt (fun _ _ => rfl) rfl rfl rfl hl.1 rfl (lv_room (Nat.le_of_ble_eq_true rfl)) d_CD_used_7 ⟨Nat.le_of_ble_eq_true rfl, Nat.le_of_ble_eq_true rfl⟩) (fun htm => ?_) (fun x H1 hno hth => zt_leave (fun t ht hW => Or.inr (Or.inl ⟨by rw [if_neg (fun h => hno h.2)], x, rfl, hth.to ht hW⟩)) (fun _ h => by cases h) (fun z hz => hout z hz _) hlocks (Nat.le_of_ble_eq_true rfl) (Nat.le_of_ble_eq_true rfl))
  refine lv_aload_n hx hb d_CD_used_10 rfl (lv_at hl 0 rfl) ?_
  refine va_get (D := (dC, dI)) (ci := 3) (v := .ref hT) (C := R_CD) (T := T_CD) (N := 6) hx hb htB i_CD hown hK hP 0 rfl rfl 3 (by decide) (htB _ lf_CD_35) (fun _ h9 => h9) rfl d_CD_used_11 ?_
  refine lv_iload_n hx hb d_CD_used_14 rfl (lv_at hl 1 rfl) ?_
  refine lv_iload_n hx hb d_CD_used_15 rfl (lv_at hl 2 rfl) ?_
  refine lv_aload_n hx hb d_CD_used_16 rfl (lv_at hl 0 rfl) ?_
  refine va_get (D := (dC, dI)) (ci := 3) (v := .int wi) (C := R_CD) (T := T_CD) (N := 6) hx hb htB i_CD hown hK hP 0 rfl rfl 0 (by decide) (htB _ lf_CD_18) (fun _ h9 => h9) rfl d_CD_used_17 ?_
  refine lv_isub hx hb d_CD_used_20 ?_
  refine vp_callSi (va_Run.run (zr_V (n := 2) (As := [.int z, .int (T - wi)]) (rest := []) CF (x_AT_usesSince l dC dI hT hs hu ho cI cU cO ac ai ut ol hac z hzz (T - wi)) mc_AT_usesSince lk_CD_138 mi_AT_usesSince ms_AT_usesSince ni_AT rfl rfl (by decide +kernel) ⟨Nat.le_of_ble_eq_true rfl, Nat.le_of_ble_eq_true rfl⟩ (hP.sub (ws' := [(hT, .inr (0, [.ref hs, .ref hu, .ref ho, .int (nI ac)])), (hs, .inl (cI, 64, .inl ai)), (hu, .inl (cU, 512, .inl ut)), (ho, .inl (cO, 64, .inl ol))]) [5, 6, 7, 8] rfl) (hK.sub (tys' := [(cI, .int), (cU, .int), (cO, .int)]) [3, 4, 5] rfl) rfl rfl rfl hl.1 rfl (lv_room (Nat.le_of_ble_eq_true rfl)) d_CD_used_21 ⟨Nat.zero_le _, Nat.zero_le _⟩)) (fun r_21 h_21 => ?_)
  subst h_21
  exact zt_ret (W.iret (v := nI (zu_cnt ut (T - wi) (8 * z.toInt.toNat) 8)) hx hb hr (fun t ht hW => Or.inl ⟨by rw [if_pos ⟨hzz, htm⟩], (), rfl, by show va_P _ _ _ t.heap; rw [ht]; exact hP, hS.F ht⟩) hS.2.2 d_CD_used_24)
set_option maxHeartbeats 4000000 in
set_option maxRecDepth 100000 in
theorem c_CD_told (l : Launch) (dC : Nat → ClassId) (dI : Nat → Nat → Nat) (hl0 : l.stackTraces = false) (hX : Nat) (wi ma no : Int32) (hR hp hq hi : Nat) (cP cQ cS : ClassId) (rc : Nat) (rp rl ri : Nat → Int32) (hrc : rc ≤ 40) (hT hs hu ho : Nat) (cI cU cO : ClassId) (ac : Nat) (ai ut ol : Nat → Int32) (hac : ac ≤ 64) (hC hn ha hk : Nat) (cN cA cK : ClassId) (cc : Nat) (cn : Nat → Int64) (ca cb : Nat → Int32) (hcc : cc ≤ 100) (hcn : ∀ j, j < cc → 1 ≤ zd_dg 19 (zd_N (cn j))) (z v : Int32) (hD0 : va_D (fun _ => True) [(hX, .inr (3, [.int wi, .int ma, .ref hR, .ref hT, .ref hC, .int no])), (hR, .inr (2, [.ref hp, .ref hq, .ref hi, .int (nI rc)])), (hp, .inl (cP, 40, .inl rp)), (hq, .inl (cQ, 40, .inl rl)), (hi, .inl (cS, 40, .inl ri)), (hT, .inr (0, [.ref hs, .ref hu, .ref ho, .int (nI ac)])), (hs, .inl (cI, 64, .inl ai)), (hu, .inl (cU, 512, .inl ut)), (ho, .inl (cO, 64, .inl ol)), (hC, .inr (1, [.ref hn, .ref ha, .ref hk, .int (nI cc)])), (hn, .inl (cN, 100, .inr (.inl cn))), (ha, .inl (cA, 100, .inl ca)), (hk, .inl (cK, 100, .inl cb))]) : MetT l y_CD_told (zw y_CD_told b_CD_told 3 (some .long)) ({ frames := 7, cells := 1, slots := 6, locals := 103 }) (zPreT [.ref hX, .int z, .int v] (dC, dI) [(hX, .inr (3, [.int wi, .int ma, .ref hR, .ref hT, .ref hC, .int no])), (hR, .inr (2, [.ref hp, .ref hq, .ref hi, .int (nI rc)])), (hp, .inl (cP, 40, .inl rp)), (hq, .inl (cQ, 40, .inl rl)), (hi, .inl (cS, 40, .inl ri)), (hT, .inr (0, [.ref hs, .ref hu, .ref ho, .int (nI ac)])), (hs, .inl (cI, 64, .inl ai)), (hu, .inl (cU, 512, .inl ut)), (ho, .inl (cO, 64, .inl ol)), (hC, .inr (1, [.ref hn, .ref ha, .ref hk, .int (nI cc)])), (hn, .inl (cN, 100, .inr (.inl cn))), (ha, .inl (cA, 100, .inl ca)), (hk, .inl (cK, 100, .inl cb))] [(cP, .int), (cQ, .int), (cS, .int), (cI, .int), (cU, .int), (cO, .int), (cN, .long), (cA, .int), (cK, .boolean)]) (zt_Q3 (S := Unit) (if (0 ≤ z.toInt ∧ z.toInt < cc) ∧ (0 ≤ v.toInt ∧ v.toInt ≤ 3) then 0 else 1) (fun _ => some (.long (zt_v rc rp rl ri cn ca cb z.toInt.toNat v))) (fun (_ : Unit) (t : State) => va_P (dC, dI) vwCl [(hX, .inr (3, [.int wi, .int ma, .ref hR, .ref hT, .ref hC, .int no])), (hR, .inr (2, [.ref hp, .ref hq, .ref hi, .int (nI rc)])), (hp, .inl (cP, 40, .inl rp)), (hq, .inl (cQ, 40, .inl rl)), (hi, .inl (cS, 40, .inl ri)), (hT, .inr (0, [.ref hs, .ref hu, .ref ho, .int (nI ac)])), (hs, .inl (cI, 64, .inl ai)), (hu, .inl (cU, 512, .inl ut)), (ho, .inl (cO, 64, .inl ol)), (hC, .inr (1, [.ref hn, .ref ha, .ref hk, .int (nI cc)])), (hn, .inl (cN, 100, .inr (.inl cn))), (ha, .inl (cA, 100, .inl ca)), (hk, .inl (cK, 100, .inl cb))] t.heap) (zA [(hX, .inr (3, [.int wi, .int ma, .ref hR, .ref hT, .ref hC, .int no])), (hR, .inr (2, [.ref hp, .ref hq, .ref hi, .int (nI rc)])), (hp, .inl (cP, 40, .inl rp)), (hq, .inl (cQ, 40, .inl rl)), (hi, .inl (cS, 40, .inl ri)), (hT, .inr (0, [.ref hs, .ref hu, .ref ho, .int (nI ac)])), (hs, .inl (cI, 64, .inl ai)), (hu, .inl (cU, 512, .inl ut)), (ho, .inl (cO, 64, .inl ol)), (hC, .inr (1, [.ref hn, .ref ha, .ref hk, .int (nI cc)])), (hn, .inl (cN, 100, .inr (.inl cn))), (ha, .inl (cA, 100, .inl ca)), (hk, .inl (cK, 100, .inl cb))])) 0 0 (zA [(hX, .inr (3, [.int wi, .int ma, .ref hR, .ref hT, .ref hC, .int no])), (hR, .inr (2, [.ref hp, .ref hq, .ref hi, .int (nI rc)])), (hp, .inl (cP, 40, .inl rp)), (hq, .inl (cQ, 40, .inl rl)), (hi, .inl (cS, 40, .inl ri)), (hT, .inr (0, [.ref hs, .ref hu, .ref ho, .int (nI ac)])), (hs, .inl (cI, 64, .inl ai)), (hu, .inl (cU, 512, .inl ut)), (ho, .inl (cO, 64, .inl ol)), (hC, .inr (1, [.ref hn, .ref ha, .ref hk, .int (nI cc)])), (hn, .inl (cN, 100, .inr (.inl cn))), (ha, .inl (cA, 100, .inl ca)), (hk, .inl (cK, 100, .inl cb))]) := by
  refine zt_ofW (cc := b_CD_told) (maxL := 3) (ret := (some .long)) (by decide) rfl ?_
  intro p e s m args below meth c s₁ B hml hout hv
  obtain ⟨rfl, ⟨hP, hK⟩, hSt⟩ := hv
  have hx := B.exec
  have hb := B.bytes
  have hr := B.returns
  have hts := atoms_spec (ws := (zw y_CD_told b_CD_told 3 (some .long))) B.pre
  have htB : ∀ w ∈ BG, w.before ([.ref hX, .int z, .int v] : List Value).toArray s = true := fun w h => hts w (List.mem_cons_of_mem _ h)
  have hown : s.vm.findClass R_CD = some m.cls := findClass_of_methodNamed B.named
  have hlocks := B.notSynchronized
  have htr : e.platform.stackTraces = false := (show e.platform.stackTraces = l.stackTraces by rw [B.admits.platform]).trans hl0
  have CF : CallFix p m c b_CD_told 3 s ([.ref hX, .int z, .int v] : List Value).toArray BG R_CD := ⟨hx, hb, hml, hown, htB⟩
  have hP : va_P (dC, dI) vwCl [(hX, .inr (3, [.int wi, .int ma, .ref hR, .ref hT, .ref hC, .int no])), (hR, .inr (2, [.ref hp, .ref hq, .ref hi, .int (nI rc)])), (hp, .inl (cP, 40, .inl rp)), (hq, .inl (cQ, 40, .inl rl)), (hi, .inl (cS, 40, .inl ri)), (hT, .inr (0, [.ref hs, .ref hu, .ref ho, .int (nI ac)])), (hs, .inl (cI, 64, .inl ai)), (hu, .inl (cU, 512, .inl ut)), (ho, .inl (cO, 64, .inl ol)), (hC, .inr (1, [.ref hn, .ref ha, .ref hk, .int (nI cc)])), (hn, .inl (cN, 100, .inr (.inl cn))), (ha, .inl (cA, 100, .inl ca)), (hk, .inl (cK, 100, .inl cb))] s.heap := hP
  have hl := lv_entry [.ref hX, .int z, .int v] (n := 3) (Nat.le_of_ble_eq_true rfl)
  rw [lg_entry_eq]
  generalize (lg_sl [.ref hX, .int z, .int v] ++ List.replicate (3 - (lg_sl [.ref hX, .int z, .int v]).length) Slot.unset).toArray = ls at hl ⊢
  have hl : lv_has ls 3 [(0, .ref hX), (1, .int z), (2, .int v)] := hl
  have hD : va_D (zA [(hX, .inr (3, [.int wi, .int ma, .ref hR, .ref hT, .ref hC, .int no])), (hR, .inr (2, [.ref hp, .ref hq, .ref hi, .int (nI rc)])), (hp, .inl (cP, 40, .inl rp)), (hq, .inl (cQ, 40, .inl rl)), (hi, .inl (cS, 40, .inl ri)), (hT, .inr (0, [.ref hs, .ref hu, .ref ho, .int (nI ac)])), (hs, .inl (cI, 64, .inl ai)), (hu, .inl (cU, 512, .inl ut)), (ho, .inl (cO, 64, .inl ol)), (hC, .inr (1, [.ref hn, .ref ha, .ref hk, .int (nI cc)])), (hn, .inl (cN, 100, .inr (.inl cn))), (ha, .inl (cA, 100, .inl ca)), (hk, .inl (cK, 100, .inl cb))]) [(hX, .inr (3, [.int wi, .int ma, .ref hR, .ref hT, .ref hC, .int no])), (hR, .inr (2, [.ref hp, .ref hq, .ref hi, .int (nI rc)])), (hp, .inl (cP, 40, .inl rp)), (hq, .inl (cQ, 40, .inl rl)), (hi, .inl (cS, 40, .inl ri)), (hT, .inr (0, [.ref hs, .ref hu, .ref ho, .int (nI ac)])), (hs, .inl (cI, 64, .inl ai)), (hu, .inl (cU, 512, .inl ut)), (ho, .inl (cO, 64, .inl ol)), (hC, .inr (1, [.ref hn, .ref ha, .ref hk, .int (nI cc)])), (hn, .inl (cN, 100, .inr (.inl cn))), (ha, .inl (cA, 100, .inl ca)), (hk, .inl (cK, 100, .inl cb))] := zA_of hD0
  have hS : va_S (zA [(hX, .inr (3, [.int wi, .int ma, .ref hR, .ref hT, .ref hC, .int no])), (hR, .inr (2, [.ref hp, .ref hq, .ref hi, .int (nI rc)])), (hp, .inl (cP, 40, .inl rp)), (hq, .inl (cQ, 40, .inl rl)), (hi, .inl (cS, 40, .inl ri)), (hT, .inr (0, [.ref hs, .ref hu, .ref ho, .int (nI ac)])), (hs, .inl (cI, 64, .inl ai)), (hu, .inl (cU, 512, .inl ut)), (ho, .inl (cO, 64, .inl ol)), (hC, .inr (1, [.ref hn, .ref ha, .ref hk, .int (nI cc)])), (hn, .inl (cN, 100, .inr (.inl cn))), (ha, .inl (cA, 100, .inl ca)), (hk, .inl (cK, 100, .inl cb))]) s.heap s.heap [] := va_S.rf
  generalize zA [(hX, .inr (3, [.int wi, .int ma, .ref hR, .ref hT, .ref hC, .int no])), (hR, .inr (2, [.ref hp, .ref hq, .ref hi, .int (nI rc)])), (hp, .inl (cP, 40, .inl rp)), (hq, .inl (cQ, 40, .inl rl)), (hi, .inl (cS, 40, .inl ri)), (hT, .inr (0, [.ref hs, .ref hu, .ref ho, .int (nI ac)])), (hs, .inl (cI, 64, .inl ai)), (hu, .inl (cU, 512, .inl ut)), (ho, .inl (cO, 64, .inl ol)), (hC, .inr (1, [.ref hn, .ref ha, .ref hk, .int (nI cc)])), (hn, .inl (cN, 100, .inr (.inl cn))), (ha, .inl (cA, 100, .inl ca)), (hk, .inl (cK, 100, .inl cb))] = A at hD hS ⊢
  refine lv_aload_n hx hb d_CD_told_0 rfl (lv_at hl 0 rfl) ?_
  refine lv_iload_n hx hb d_CD_told_1 rfl (lv_at hl 1 rfl) ?_
  refine zt_callv (zr_TV (n := 1) (As := [.int z]) (rest := []) CF (c_CD_requireCard l dC dI hl0 hX wi ma no hT hR hC hn ha hk cN cA cK cc cn ca cb hcc z) mc_CD_requireCard lk_CD_116 mi_CD_requireCard ms_CD_requireCard ni_CD (by decide +kernel) ⟨Nat.le_of_ble_eq_true rfl, Nat.le_of_ble_eq_true rfl⟩ (hP.sub (ws' := [(hX, .inr (3, [.int wi, .int ma, .ref hR, .ref hT, .ref hC, .int no])), (hC, .inr (1, [.ref hn, .ref ha, .ref hk, .int (nI cc)])), (hn, .inl (cN, 100, .inr (.inl cn))), (ha, .inl (cA, 100, .inl ca)), (hk, .inl (cK, 100, .inl cb))]) [0, 9, 10, 11, 12] rfl) (hK.sub (tys' := [(cN, .long), (cA, .int), (cK, .boolean)]) [6, 7, 8] rfl) hSt (fun _ _ => rfl) rfl rfl rfl hl.1 rfl (lv_room (Nat.le_of_ble_eq_true rfl)) d_CD_told_2 ⟨Nat.le_of_ble_eq_true rfl, Nat.le_of_ble_eq_true rfl⟩) (fun hzz => ?_) (fun x H1 hno hth => zt_leave (fun t ht hW => Or.inr (Or.inl ⟨by rw [if_neg (fun h => hno h.1)], x, rfl, hth.to ht hW⟩)) (fun _ h => by cases h) (fun z hz => hout z hz _) hlocks (Nat.le_of_ble_eq_true rfl) (Nat.le_of_ble_eq_true rfl))
  refine lv_iload_n hx hb d_CD_told_5 rfl (lv_at hl 2 rfl) ?_
  by_cases hw9 : 0 ≤ v.toInt ∧ v.toInt ≤ 3
  · have hk0 : (if (0 ≤ z.toInt ∧ z.toInt < cc) ∧ (0 ≤ v.toInt ∧ v.toInt ≤ 3) then 0 else 1 : Nat) = 0 := if_pos ⟨hzz, hw9⟩
    rw [hk0]
    rcases zw_cases hw9 with e9 | e9 | e9 | e9 <;> subst e9
    · refine lv_tableIn (off := 30) (tgt := 36) hx hb d_CD_told_6 (by decide) (by decide) (by decide) (by decide) ?_
      refine lv_aload_n hx hb d_CD_told_36 rfl (lv_at hl 0 rfl) ?_
      refine va_get (D := (dC, dI)) (ci := 3) (v := .ref hC) (C := R_CD) (T := T_CD) (N := 6) hx hb htB i_CD hown hK hP 0 rfl rfl 4 (by decide) (htB _ lf_CD_42) (fun _ h9 => h9) rfl d_CD_told_37 ?_
      refine lv_iload_n hx hb d_CD_told_40 rfl (lv_at hl 1 rfl) ?_
      refine vp_callSi (va_Run.run (zr_V (n := 1) (As := [.int z]) (rest := []) CF (x_CT_accountOf l dC dI hC hn ha hk cN cA cK cc cn ca cb hcc z hzz) mc_CT_accountOf lk_CD_135 mi_CT_accountOf ms_CT_accountOf ni_CT rfl rfl (by decide +kernel) ⟨Nat.le_of_ble_eq_true rfl, Nat.le_of_ble_eq_true rfl⟩ (hP.sub (ws' := [(hC, .inr (1, [.ref hn, .ref ha, .ref hk, .int (nI cc)])), (hn, .inl (cN, 100, .inr (.inl cn))), (ha, .inl (cA, 100, .inl ca)), (hk, .inl (cK, 100, .inl cb))]) [9, 10, 11, 12] rfl) (hK.sub (tys' := [(cN, .long), (cA, .int), (cK, .boolean)]) [6, 7, 8] rfl) rfl rfl rfl hl.1 rfl (lv_room (Nat.le_of_ble_eq_true rfl)) d_CD_told_41 ⟨Nat.zero_le _, Nat.zero_le _⟩)) (fun r_41 h_41 => ?_)
      subst h_41
      refine lv_i2l (v := (ca z.toInt.toNat).toInt64) hx hb d_CD_told_44 rfl ?_
      exact zt_ret (W.lret (v := (ca z.toInt.toNat).toInt64) hx hb hr (fun t ht hW => Or.inl ⟨rfl, (), rfl, by show va_P _ _ _ t.heap; rw [ht]; exact hP, hS.F ht⟩) hS.2.2 d_CD_told_45)
    · refine lv_tableIn (off := 40) (tgt := 46) hx hb d_CD_told_6 (by decide) (by decide) (by decide) (by decide) ?_
      refine lv_aload_n hx hb d_CD_told_46 rfl (lv_at hl 0 rfl) ?_
      refine va_get (D := (dC, dI)) (ci := 3) (v := .ref hC) (C := R_CD) (T := T_CD) (N := 6) hx hb htB i_CD hown hK hP 0 rfl rfl 4 (by decide) (htB _ lf_CD_42) (fun _ h9 => h9) rfl d_CD_told_47 ?_
      refine lv_iload_n hx hb d_CD_told_50 rfl (lv_at hl 1 rfl) ?_
      refine vp_callSl (va_Run.run (zr_V (n := 1) (As := [.int z]) (rest := []) CF (x_CT_numberOf l dC dI hC hn ha hk cN cA cK cc cn ca cb hcc z hzz) mc_CT_numberOf lk_CD_144 mi_CT_numberOf ms_CT_numberOf ni_CT rfl rfl (by decide +kernel) ⟨Nat.le_of_ble_eq_true rfl, Nat.le_of_ble_eq_true rfl⟩ (hP.sub (ws' := [(hC, .inr (1, [.ref hn, .ref ha, .ref hk, .int (nI cc)])), (hn, .inl (cN, 100, .inr (.inl cn))), (ha, .inl (cA, 100, .inl ca)), (hk, .inl (cK, 100, .inl cb))]) [9, 10, 11, 12] rfl) (hK.sub (tys' := [(cN, .long), (cA, .int), (cK, .boolean)]) [6, 7, 8] rfl) rfl rfl rfl hl.1 rfl (lv_room (Nat.le_of_ble_eq_true rfl)) d_CD_told_51 ⟨Nat.zero_le _, Nat.zero_le _⟩)) (fun r_51 h_51 => ?_)
      subst h_51
      refine vp_callSi (va_Run.run (zr_S (n := 1) (As := [.long (cn z.toInt.toNat)]) (rest := []) CF (c_CD_digitsOf l dC dI (cn z.toInt.toNat)) mc_CD_digitsOf lk_CD_148 mt_CD_digitsOf ni_CD rfl rfl (by decide +kernel) ⟨Nat.le_of_ble_eq_true rfl, Nat.le_of_ble_eq_true rfl⟩ (hP.sub (ws' := []) [] rfl) (hK.sub (tys' := []) [] rfl) rfl rfl hl.1 rfl (lv_room (Nat.le_of_ble_eq_true rfl)) d_CD_told_54 ⟨Nat.zero_le _, Nat.zero_le _⟩)) (fun r_54 h_54 => ?_)
      subst h_54
      refine lv_i2l (v := (nI (zd_dg 19 (zd_N (cn z.toInt.toNat)))).toInt64) hx hb d_CD_told_57 rfl ?_
      exact zt_ret (W.lret (v := (nI (zd_dg 19 (zd_N (cn z.toInt.toNat)))).toInt64) hx hb hr (fun t ht hW => Or.inl ⟨rfl, (), rfl, by show va_P _ _ _ t.heap; rw [ht]; exact hP, hS.F ht⟩) hS.2.2 d_CD_told_58)
    · refine lv_tableIn (off := 53) (tgt := 59) hx hb d_CD_told_6 (by decide) (by decide) (by decide) (by decide) ?_
      refine lv_aload_n hx hb d_CD_told_59 rfl (lv_at hl 0 rfl) ?_
      refine va_get (D := (dC, dI)) (ci := 3) (v := .ref hC) (C := R_CD) (T := T_CD) (N := 6) hx hb htB i_CD hown hK hP 0 rfl rfl 4 (by decide) (htB _ lf_CD_42) (fun _ h9 => h9) rfl d_CD_told_60 ?_
      refine lv_iload_n hx hb d_CD_told_63 rfl (lv_at hl 1 rfl) ?_
      refine vp_callSi (va_Run.run (zr_V (n := 1) (As := [.int z]) (rest := []) CF (x_CT_isBlocked l dC dI hC hn ha hk cN cA cK cc cn ca cb hcc z hzz) mc_CT_isBlocked lk_CD_131 mi_CT_isBlocked ms_CT_isBlocked ni_CT rfl rfl (by decide +kernel) ⟨Nat.le_of_ble_eq_true rfl, Nat.le_of_ble_eq_true rfl⟩ (hP.sub (ws' := [(hC, .inr (1, [.ref hn, .ref ha, .ref hk, .int (nI cc)])), (hn, .inl (cN, 100, .inr (.inl cn))), (ha, .inl (cA, 100, .inl ca)), (hk, .inl (cK, 100, .inl cb))]) [9, 10, 11, 12] rfl) (hK.sub (tys' := [(cN, .long), (cA, .int), (cK, .boolean)]) [6, 7, 8] rfl) rfl rfl rfl hl.1 rfl (lv_room (Nat.le_of_ble_eq_true rfl)) d_CD_told_64 ⟨Nat.zero_le _, Nat.zero_le _⟩)) (fun r_64 h_64 => ?_)
      refine lv_if_eq (tgt := 74) hx hb d_CD_told_67 (by decide) (fun c_67 => ?_) (fun c_67 => ?_)
      · have c_67z : cb z.toInt.toNat = 0 := Classical.byContradiction fun h => by rw [h_64, if_neg h] at c_67; exact absurd c_67 (by decide)
        refine lv_lconst (v := 0) hx hb d_CD_told_74 (by decide) ?_
        exact zt_ret (W.lret (v := 0) hx hb hr (fun t ht hW => Or.inl ⟨rfl, (), by show _ = Outcome.returned (some (Value.long (if cb z.toInt.toNat = 0 then 0 else 1))); rw [if_pos c_67z], by show va_P _ _ _ t.heap; rw [ht]; exact hP, hS.F ht⟩) hS.2.2 d_CD_told_75)
      · have c_67z : ¬ cb z.toInt.toNat = 0 := fun h => c_67 (by rw [h_64, if_pos h])
        refine lv_lconst (v := 1) hx hb d_CD_told_70 (by decide) ?_
        refine lv_goto (tgt := 75) hx hb d_CD_told_71 (by decide) ?_
        exact zt_ret (W.lret (v := 1) hx hb hr (fun t ht hW => Or.inl ⟨rfl, (), by show _ = Outcome.returned (some (Value.long (if cb z.toInt.toNat = 0 then 0 else 1))); rw [if_neg c_67z], by show va_P _ _ _ t.heap; rw [ht]; exact hP, hS.F ht⟩) hS.2.2 d_CD_told_75)
    · refine lv_tableIn (off := 70) (tgt := 76) hx hb d_CD_told_6 (by decide) (by decide) (by decide) (by decide) ?_
      refine lv_aload_n hx hb d_CD_told_76 rfl (lv_at hl 0 rfl) ?_
      refine va_get (D := (dC, dI)) (ci := 3) (v := .ref hR) (C := R_CD) (T := T_CD) (N := 6) hx hb htB i_CD hown hK hP 0 rfl rfl 2 (by decide) (htB _ lf_CD_28) (fun _ h9 => h9) rfl d_CD_told_77 ?_
      refine lv_aload_n hx hb d_CD_told_80 rfl (lv_at hl 0 rfl) ?_
      refine va_get (D := (dC, dI)) (ci := 3) (v := .ref hC) (C := R_CD) (T := T_CD) (N := 6) hx hb htB i_CD hown hK hP 0 rfl rfl 4 (by decide) (htB _ lf_CD_42) (fun _ h9 => h9) rfl d_CD_told_81 ?_
      refine lv_iload_n hx hb d_CD_told_84 rfl (lv_at hl 1 rfl) ?_
      refine vp_callSl (va_Run.run (zr_V (n := 1) (As := [.int z]) (rest := [.ref hR]) CF (x_CT_numberOf l dC dI hC hn ha hk cN cA cK cc cn ca cb hcc z hzz) mc_CT_numberOf lk_CD_144 mi_CT_numberOf ms_CT_numberOf ni_CT rfl rfl (by decide +kernel) ⟨Nat.le_of_ble_eq_true rfl, Nat.le_of_ble_eq_true rfl⟩ (hP.sub (ws' := [(hC, .inr (1, [.ref hn, .ref ha, .ref hk, .int (nI cc)])), (hn, .inl (cN, 100, .inr (.inl cn))), (ha, .inl (cA, 100, .inl ca)), (hk, .inl (cK, 100, .inl cb))]) [9, 10, 11, 12] rfl) (hK.sub (tys' := [(cN, .long), (cA, .int), (cK, .boolean)]) [6, 7, 8] rfl) rfl rfl rfl hl.1 rfl (lv_room (Nat.le_of_ble_eq_true rfl)) d_CD_told_85 ⟨Nat.zero_le _, Nat.zero_le _⟩)) (fun r_85 h_85 => ?_)
      subst h_85
      refine vp_callSi (va_Run.run (zr_V (n := 1) (As := [.long (cn z.toInt.toNat)]) (rest := []) CF (x_RT_issuerFor l dC dI hR hp hq hi cP cQ cS rc rp rl ri hrc (cn z.toInt.toNat) (hcn _ (zi_of hzz).2)) mc_RT_issuerFor lk_CD_105 mi_RT_issuerFor ms_RT_issuerFor ni_RT rfl rfl (by decide +kernel) ⟨Nat.le_of_ble_eq_true rfl, Nat.le_of_ble_eq_true rfl⟩ (hP.sub (ws' := [(hR, .inr (2, [.ref hp, .ref hq, .ref hi, .int (nI rc)])), (hp, .inl (cP, 40, .inl rp)), (hq, .inl (cQ, 40, .inl rl)), (hi, .inl (cS, 40, .inl ri))]) [1, 2, 3, 4] rfl) (hK.sub (tys' := [(cP, .int), (cQ, .int), (cS, .int)]) [0, 1, 2] rfl) rfl rfl rfl hl.1 rfl (lv_room (Nat.le_of_ble_eq_true rfl)) d_CD_told_88 ⟨Nat.zero_le _, Nat.zero_le _⟩)) (fun r_88 h_88 => ?_)
      subst h_88
      refine lv_i2l (v := (zf_iss rc rp rl ri (zd_dg 19 (zd_N (cn z.toInt.toNat))) (zd_N (cn z.toInt.toNat))).toInt64) hx hb d_CD_told_91 rfl ?_
      exact zt_ret (W.lret (v := (zf_iss rc rp rl ri (zd_dg 19 (zd_N (cn z.toInt.toNat))) (zd_N (cn z.toInt.toNat))).toInt64) hx hb hr (fun t ht hW => Or.inl ⟨rfl, (), rfl, by show va_P _ _ _ t.heap; rw [ht]; exact hP, hS.F ht⟩) hS.2.2 d_CD_told_92)
  · refine lv_tableOut (tgt := 93) hx hb d_CD_told_6 (by rcases Int.lt_or_le v.toInt 0 with h | h; exact Or.inl h; exact Or.inr (Int.not_le.mp fun h2 => hw9 ⟨h, h2⟩)) (by decide) ?_
    exact zt_new hx hb htr (own := R_CD) (cls := zIAE) (names := zUp) hown (by decide +kernel) (by decide +kernel) (zt_words zw_IAE htB hSt) (htB _ lc_CD_151) (htB _ nn_IAE) (htB _ ni_IAE) (htB _ sr_CD_153) hl.1 hml d_CD_told_93 d_CD_told_96 d_CD_told_97 d_CD_told_99 d_CD_told_102 hout hlocks rfl (Nat.le_of_ble_eq_true rfl) (Nat.le_of_ble_eq_true rfl) (Nat.le_of_ble_eq_true rfl) (Nat.le_of_ble_eq_true rfl) (fun x t hT hW => Or.inr (Or.inl ⟨by rw [if_neg (fun h => hw9 h.2)], x, rfl, hT⟩)) (Nat.le_of_ble_eq_true rfl) (Nat.le_of_ble_eq_true rfl)
end
section
/-- how many digits are written: 1 for 0 -/
def zd_wd (n : Nat) : Nat := if zd_dg 19 n = 0 then 1 else zd_dg 19 n
/-- without its last k digits -/
def zd_sh : Nat → Nat → Nat
  | 0, b => b
  | k + 1, b => zd_sh k (b / 10)
theorem zd_dgp {n : Nat} (h : n ≠ 0) : 1 ≤ zd_dg 19 n := by
  simp only [zd_dg, h, if_false]; omega
theorem zd_wdp {n : Nat} (h : 1 ≤ zd_dg 19 n) : zd_wd n = zd_dg 19 n := by
  unfold zd_wd; rw [if_neg (by omega)]
theorem zd_wd_le (n : Nat) : zd_wd n ≤ 19 := by
  have := zd_dg_le 19 n
  unfold zd_wd; split <;> omega
theorem zd_wd_iff {n : Nat} {m : Int} (hm : 1 ≤ m) : (zd_wd n : Int) ≤ m ↔ (zd_dg 19 n : Int) ≤ m := by
  unfold zd_wd; split <;> omega
theorem zd_p19 {n : Nat} (h : n < 2 ^ 63) : n < 10 ^ 19 := Nat.lt_trans h (by decide)
theorem zd_lt1 {x : Int64} : x < 1 ↔ zd_N x = 0 := by
  rcases zd_of (x := x) with h | ⟨k, hk, rfl⟩
  · rw [zd_neg h]
    exact ⟨fun _ => rfl, fun _ => Int64.lt_trans h (by decide)⟩
  · rw [zd_lN hk, show (1 : Int64) = lN 1 from rfl, pk_lLT hk (by decide)]; omega
theorem zd_1 {n : Nat} : 1 ≤ zd_dg 19 n ↔ n ≠ 0 := ⟨fun h e => by rw [e, zd_dg0] at h; omega, zd_dgp⟩
theorem zd_twm {d : Nat} (h : d < 10) : zd_tw d = if d < 5 then 2 * d else 2 * d - 9 := by
  unfold zd_tw; split <;> split <;> omega
set_option maxHeartbeats 4000000 in
set_option maxRecDepth 100000 in
theorem c_MO_width (l : Launch) (dC : Nat → ClassId) (dI : Nat → Nat → Nat) (x : Int64) : Met l y_MO_width (zw y_MO_width b_MO_width 5 (some .int)) ({ frames := 0, cells := 0, slots := 0, locals := 0 }) (zPre [.long x] (dC, dI) [] []) (vp_Si (fun r => r = nI (zd_wd (zd_N x)))) 0 0 (fun _ => False) := by
  refine Met.ofW (cc := b_MO_width) (maxL := 5) (ret := (some .int)) (by decide) rfl ?_
  intro p e s m args below meth c s₁ B hml hv
  obtain ⟨rfl, hP, hK⟩ := hv
  have hx := B.exec
  have hb := B.bytes
  have hr := B.returns
  have hts := atoms_spec (ws := (zw y_MO_width b_MO_width 5 (some .int))) B.pre
  have htB : ∀ w ∈ BG, w.before ([.long x] : List Value).toArray s = true := fun w h => hts w (List.mem_cons_of_mem _ h)
  have hown : s.vm.findClass R_MO = some m.cls := findClass_of_methodNamed B.named
  have hlocks := B.notSynchronized
  have CF : CallFix p m c b_MO_width 5 s ([.long x] : List Value).toArray BG R_MO := ⟨hx, hb, hml, hown, htB⟩
  have hP : va_P (dC, dI) vwCl [] s.heap := hP
  have hl := lv_entry [.long x] (n := 5) (Nat.le_of_ble_eq_true rfl)
  rw [lg_entry_eq]
  generalize (lg_sl [.long x] ++ List.replicate (5 - (lg_sl [.long x]).length) Slot.unset).toArray = ls at hl ⊢
  have hl : lv_has ls 5 [(0, .long x)] := hl
  refine lv_iconst (v := 0) hx hb d_MO_width_0 (by decide) ?_
  refine lv_istore_n (lv' := [(2, .int 0), (0, .long x)]) hx hb d_MO_width_1 rfl hl (by decide) rfl (fun ls hl => ?_)
  refine lv_lload_n hx hb d_MO_width_2 rfl (lv_at hl 1 rfl) ?_
  refine lv_lstore_n (lv' := [(3, .long x), (2, .int 0), (0, .long x)]) hx hb d_MO_width_3 rfl hl (by decide) rfl (fun ls hl => ?_)
  have loop : ∀ (k i r : Nat) (ls : Array Slot), i + k = 19 → r < 2 ^ 63 → r < 10 ^ k → i + zd_dg k r = zd_dg 19 (zd_N x) → lv_has ls 5 [(3, .long (lN r)), (2, .int (nI i)), (0, .long x)] → W p l e (headSpec (zw y_MO_width b_MO_width 5 (some .int)) ({ frames := 0, cells := 0, slots := 0, locals := 0 })).room s m ([.long x] : List Value).toArray below meth c s.heap [] 0 0 (MQ below (vp_Si (fun r => r = nI (zd_wd (zd_N x)))) ([.long x] : List Value).toArray s 0 0 (fun _ => False)) (F0 m 4 ls []) := by
    intro k
    induction k with
    | zero =>
      intro i r ls hi hr9 hr10 he hl
      have hr0 : r = 0 := by omega
      have hD9 : i = zd_dg 19 (zd_N x) := by rw [← he]; simp [zd_dg]
      refine lv_lload_n hx hb d_MO_width_4 rfl (lv_at hl 0 rfl) ?_
      refine lv_lconst (v := 0) hx hb d_MO_width_5 (by decide) ?_
      refine W.lcmp hx hb d_MO_width_6 ?_
      refine lv_if_le (tgt := 22) hx hb d_MO_width_7 (by decide) (fun c_7 => ?_) (fun c_7 => ?_)
      · refine lv_iload_n hx hb d_MO_width_22 rfl (lv_at hl 1 rfl) ?_
        refine lv_if_ne (tgt := 30) hx hb d_MO_width_23 (by decide) (fun c_23 => ?_) (fun c_23 => ?_)
        · have hi0 : ¬ i = 0 := fun h => c_23 (by rw [h]; rfl)
          refine lv_iload_n hx hb d_MO_width_30 rfl (lv_at hl 1 rfl) ?_
          exact W.iret (v := nI i) hx hb hr (fun t ht hW => ⟨_, rfl, by unfold zd_wd; rw [← hD9, if_neg hi0], ht⟩) (fun _ h => by cases h) d_MO_width_31
        · have hi0 : i = 0 := (nI_eq (b := 0) (by omega) (by decide)).mp c_23
          refine lv_iconst (v := 1) hx hb d_MO_width_26 (by decide) ?_
          refine lv_goto (tgt := 31) hx hb d_MO_width_27 (by decide) ?_
          exact W.iret (v := 1) hx hb hr (fun t ht hW => ⟨_, rfl, by unfold zd_wd; rw [← hD9, if_pos hi0]; rfl, ht⟩) (fun _ h => by cases h) d_MO_width_31
      · exact absurd ((zd_le0 hr9).mpr hr0) c_7
    | succ k ih =>
      intro i r ls hi hr9 hr10 he hl
      refine lv_lload_n hx hb d_MO_width_4 rfl (lv_at hl 0 rfl) ?_
      refine lv_lconst (v := 0) hx hb d_MO_width_5 (by decide) ?_
      refine W.lcmp hx hb d_MO_width_6 ?_
      refine lv_if_le (tgt := 22) hx hb d_MO_width_7 (by decide) (fun c_7 => ?_) (fun c_7 => ?_)
      · have hr0 : r = 0 := (zd_le0 hr9).mp c_7
        have hD9 : i = zd_dg 19 (zd_N x) := by rw [← he, hr0, zd_dg0]; rfl
        refine lv_iload_n hx hb d_MO_width_22 rfl (lv_at hl 1 rfl) ?_
        refine lv_if_ne (tgt := 30) hx hb d_MO_width_23 (by decide) (fun c_23 => ?_) (fun c_23 => ?_)
        · have hi0 : ¬ i = 0 := fun h => c_23 (by rw [h]; rfl)
          refine lv_iload_n hx hb d_MO_width_30 rfl (lv_at hl 1 rfl) ?_
          exact W.iret (v := nI i) hx hb hr (fun t ht hW => ⟨_, rfl, by unfold zd_wd; rw [← hD9, if_neg hi0], ht⟩) (fun _ h => by cases h) d_MO_width_31
        · have hi0 : i = 0 := (nI_eq (b := 0) (by omega) (by decide)).mp c_23
          refine lv_iconst (v := 1) hx hb d_MO_width_26 (by decide) ?_
          refine lv_goto (tgt := 31) hx hb d_MO_width_27 (by decide) ?_
          exact W.iret (v := 1) hx hb hr (fun t ht hW => ⟨_, rfl, by unfold zd_wd; rw [← hD9, if_pos hi0]; rfl, ht⟩) (fun _ h => by cases h) d_MO_width_31
      · refine lv_lload_n hx hb d_MO_width_10 rfl (lv_at hl 0 rfl) ?_
        refine lv_ldc2 (v := 10) hx hb hown (htB _ kl_MO_49) d_MO_width_11 ?_
        refine lv_ldiv hx hb d_MO_width_14 (by decide) ?_
        refine lv_lstore_n (lv' := [(3, .long ((lN r) / 10)), (2, .int (nI i)), (0, .long x)]) hx hb d_MO_width_15 rfl hl (by decide) rfl (fun ls hl => ?_)
        refine lv_iinc (v := (nI i) + 1) (lv' := [(2, .int ((nI i) + 1)), (3, .long ((lN r) / 10)), (0, .long x)]) hx hb d_MO_width_16 hl (k := 1) rfl rfl (by decide) rfl (fun ls hl => ?_)
        refine lv_goto (tgt := 4) hx hb d_MO_width_19 (by decide) ?_
        have hr0 : r ≠ 0 := fun h => c_7 ((zd_le0 hr9).mpr h)
        rw [zd_div hr9, nI_1] at hl
        refine ih (i + 1) (r / 10) ls (by omega) (by omega) (by rw [Nat.pow_succ] at hr10; omega) ?_ (lv_sub hl [1, 0, 2] rfl)
        rw [← he]; simp only [zd_dg, hr0, if_false]; omega
  rcases zd_of (x := x) with hx0 | ⟨n, hn, rfl⟩
  · refine lv_lload_n hx hb d_MO_width_4 rfl (lv_at hl 0 rfl) ?_
    refine lv_lconst (v := 0) hx hb d_MO_width_5 (by decide) ?_
    refine W.lcmp hx hb d_MO_width_6 ?_
    refine lv_if_le (tgt := 22) hx hb d_MO_width_7 (by decide) (fun c_7 => ?_) (fun c_7 => ?_)
    · refine lv_iload_n hx hb d_MO_width_22 rfl (lv_at hl 1 rfl) ?_
      refine lv_if_ne (tgt := 30) hx hb d_MO_width_23 (by decide) (fun c_23 => ?_) (fun c_23 => ?_)
      · exact absurd rfl c_23
      · refine lv_iconst (v := 1) hx hb d_MO_width_26 (by decide) ?_
        refine lv_goto (tgt := 31) hx hb d_MO_width_27 (by decide) ?_
        exact W.iret (v := 1) hx hb hr (fun t ht hW => ⟨_, rfl, by rw [zd_neg hx0]; rfl, ht⟩) (fun _ h => by cases h) d_MO_width_31
    · exact absurd ((lg_cmp_le x 0).mpr (Int64.le_of_lt hx0)) c_7
  · exact loop 19 0 n ls rfl hn (zd_p19 hn) (by rw [zd_lN hn]; omega) (lv_sub hl [0, 1, 2] rfl)
set_option maxHeartbeats 4000000 in
set_option maxRecDepth 100000 in
theorem c_MO_isNumber (l : Launch) (dC : Nat → ClassId) (dI : Nat → Nat → Nat) (x : Int64) (k : Nat) (hk20 : k < 20) : Met l y_MO_isNumber (zw y_MO_isNumber b_MO_isNumber 3 (some .boolean)) ({ frames := 1, cells := 0, slots := 0, locals := 24 }) (zPre [.long x, .int (nI k)] (dC, dI) [] []) (vp_Si (fun r => r = if zok_D x 1 k then 1 else 0)) 0 0 (fun _ => False) := by
  refine Met.ofW (cc := b_MO_isNumber) (maxL := 3) (ret := (some .boolean)) (by decide) rfl ?_
  intro p e s m args below meth c s₁ B hml hv
  obtain ⟨rfl, hP, hK⟩ := hv
  have hx := B.exec
  have hb := B.bytes
  have hr := B.returns
  have hts := atoms_spec (ws := (zw y_MO_isNumber b_MO_isNumber 3 (some .boolean))) B.pre
  have htB : ∀ w ∈ BG, w.before ([.long x, .int (nI k)] : List Value).toArray s = true := fun w h => hts w (List.mem_cons_of_mem _ h)
  have hown : s.vm.findClass R_MO = some m.cls := findClass_of_methodNamed B.named
  have hlocks := B.notSynchronized
  have CF : CallFix p m c b_MO_isNumber 3 s ([.long x, .int (nI k)] : List Value).toArray BG R_MO := ⟨hx, hb, hml, hown, htB⟩
  have hP : va_P (dC, dI) vwCl [] s.heap := hP
  have hl := lv_entry [.long x, .int (nI k)] (n := 3) (Nat.le_of_ble_eq_true rfl)
  rw [lg_entry_eq]
  generalize (lg_sl [.long x, .int (nI k)] ++ List.replicate (3 - (lg_sl [.long x, .int (nI k)]).length) Slot.unset).toArray = ls at hl ⊢
  have hl : lv_has ls 3 [(0, .long x), (2, .int (nI k))] := hl
  have hwl := zd_wd_le (zd_N x)
  refine lv_lload_n hx hb d_MO_isNumber_0 rfl (lv_at hl 0 rfl) ?_
  refine lv_lconst (v := 1) hx hb d_MO_isNumber_1 (by decide) ?_
  refine W.lcmp hx hb d_MO_isNumber_2 ?_
  refine lv_if_lt (tgt := 18) hx hb d_MO_isNumber_3 (by decide) (fun c_3 => ?_) (fun c_3 => ?_)
  · have hno : ¬ zok_D x 1 k := fun h => zd_1.mp h.1 (zd_lt1.mp ((lg_cmp_lt x 1).mp c_3))
    refine lv_iconst (v := 0) hx hb d_MO_isNumber_18 (by decide) ?_
    exact W.zret (v := 0) (ty := .boolean) hx hb hr rfl (fun t ht hW => ⟨_, rfl, by rw [if_neg hno], ht⟩) (fun _ h => by cases h) d_MO_isNumber_19
  · have h1 : 1 ≤ zd_dg 19 (zd_N x) := zd_1.mpr (fun h => c_3 ((lg_cmp_lt x 1).mpr (zd_lt1.mpr h)))
    have hwd := zd_wdp h1
    refine lv_lload_n hx hb d_MO_isNumber_6 rfl (lv_at hl 0 rfl) ?_
    refine vp_callSi (va_Run.run (zr_S (n := 1) (As := [.long x]) (rest := []) CF (c_MO_width l dC dI x) mc_MO_width lk_MO_51 mt_MO_width ni_MO rfl rfl (by decide +kernel) ⟨Nat.le_of_ble_eq_true rfl, Nat.le_of_ble_eq_true rfl⟩ (hP.sub (ws' := []) [] rfl) (hK.sub (tys' := []) [] rfl) rfl rfl hl.1 rfl (lv_room (Nat.le_of_ble_eq_true rfl)) d_MO_isNumber_7 ⟨Nat.zero_le _, Nat.zero_le _⟩)) (fun r_7 h_7 => ?_)
    subst h_7
    refine lv_iload_n hx hb d_MO_isNumber_10 rfl (lv_at hl 1 rfl) ?_
    refine lv_icmp_gt (tgt := 18) hx hb d_MO_isNumber_11 (by decide) (fun c_11 => ?_) (fun c_11 => ?_)
    · have hno : ¬ zok_D x 1 k := fun h => absurd c_11 (nI_nlt (show zd_wd (zd_N x) ≤ k by rw [hwd]; exact h.2) (by omega))
      refine lv_iconst (v := 0) hx hb d_MO_isNumber_18 (by decide) ?_
      exact W.zret (v := 0) (ty := .boolean) hx hb hr rfl (fun t ht hW => ⟨_, rfl, by rw [if_neg hno], ht⟩) (fun _ h => by cases h) d_MO_isNumber_19
    · have hok : zok_D x 1 k := ⟨h1, by rw [← hwd]; exact Nat.not_lt.mp (fun h => c_11 (nI_lt h (by omega)))⟩
      refine lv_iconst (v := 1) hx hb d_MO_isNumber_14 (by decide) ?_
      refine lv_goto (tgt := 19) hx hb d_MO_isNumber_15 (by decide) ?_
      exact W.zret (v := 1) (ty := .boolean) hx hb hr rfl (fun t ht hW => ⟨_, rfl, by rw [if_pos hok], ht⟩) (fun _ h => by cases h) d_MO_isNumber_19
set_option maxHeartbeats 4000000 in
set_option maxRecDepth 100000 in
theorem c_MO_isPrefix (l : Launch) (dC : Nat → ClassId) (dI : Nat → Nat → Nat) (y z : Int32) : Met l y_MO_isPrefix (zw y_MO_isPrefix b_MO_isPrefix 2 (some .boolean)) ({ frames := 1, cells := 0, slots := 0, locals := 24 }) (zPre [.int y, .int z] (dC, dI) [] []) (vp_Si (fun r => r = if zok_P y z then 1 else 0)) 0 0 (fun _ => False) := by
  refine Met.ofW (cc := b_MO_isPrefix) (maxL := 2) (ret := (some .boolean)) (by decide) rfl ?_
  intro p e s m args below meth c s₁ B hml hv
  obtain ⟨rfl, hP, hK⟩ := hv
  have hx := B.exec
  have hb := B.bytes
  have hr := B.returns
  have hts := atoms_spec (ws := (zw y_MO_isPrefix b_MO_isPrefix 2 (some .boolean))) B.pre
  have htB : ∀ w ∈ BG, w.before ([.int y, .int z] : List Value).toArray s = true := fun w h => hts w (List.mem_cons_of_mem _ h)
  have hown : s.vm.findClass R_MO = some m.cls := findClass_of_methodNamed B.named
  have hlocks := B.notSynchronized
  have CF : CallFix p m c b_MO_isPrefix 2 s ([.int y, .int z] : List Value).toArray BG R_MO := ⟨hx, hb, hml, hown, htB⟩
  have hP : va_P (dC, dI) vwCl [] s.heap := hP
  have hl := lv_entry [.int y, .int z] (n := 2) (Nat.le_of_ble_eq_true rfl)
  rw [lg_entry_eq]
  generalize (lg_sl [.int y, .int z] ++ List.replicate (2 - (lg_sl [.int y, .int z]).length) Slot.unset).toArray = ls at hl ⊢
  have hl : lv_has ls 2 [(0, .int y), (1, .int z)] := hl
  have hwl := zd_wd_le (zd_N y.toInt64)
  refine lv_iload_n hx hb d_MO_isPrefix_0 rfl (lv_at hl 0 rfl) ?_
  refine lv_if_lt (tgt := 28) hx hb d_MO_isPrefix_1 (by decide) (fun c_1 => ?_) (fun c_1 => ?_)
  · have hno : ¬ zok_P y z := fun h => by
      have h0 : y.toInt < 0 := Int32.lt_iff_toInt_lt.mp c_1
      have := h.2.2.1
      omega
    refine lv_iconst (v := 0) hx hb d_MO_isPrefix_28 (by decide) ?_
    exact W.zret (v := 0) (ty := .boolean) hx hb hr rfl (fun t ht hW => ⟨_, rfl, by rw [if_neg hno], ht⟩) (fun _ h => by cases h) d_MO_isPrefix_29
  · have h3 : 0 ≤ y.toInt := Int.not_lt.mp (fun h => c_1 (Int32.lt_iff_toInt_lt.mpr h))
    refine lv_iload_n hx hb d_MO_isPrefix_4 rfl (lv_at hl 1 rfl) ?_
    refine lv_iconst (v := 1) hx hb d_MO_isPrefix_5 (by decide) ?_
    refine lv_icmp_lt (tgt := 28) hx hb d_MO_isPrefix_6 (by decide) (fun c_6 => ?_) (fun c_6 => ?_)
    · have hno : ¬ zok_P y z := fun h => by
        have h0 : z.toInt < 1 := Int32.lt_iff_toInt_lt.mp c_6
        have := h.1
        omega
      refine lv_iconst (v := 0) hx hb d_MO_isPrefix_28 (by decide) ?_
      exact W.zret (v := 0) (ty := .boolean) hx hb hr rfl (fun t ht hW => ⟨_, rfl, by rw [if_neg hno], ht⟩) (fun _ h => by cases h) d_MO_isPrefix_29
    · have h1 : 1 ≤ z.toInt := Int.not_lt.mp (fun h => c_6 (Int32.lt_iff_toInt_lt.mpr h))
      refine lv_iload_n hx hb d_MO_isPrefix_9 rfl (lv_at hl 1 rfl) ?_
      refine lv_bipush (v := 8) hx hb d_MO_isPrefix_10 (by decide) ?_
      refine lv_icmp_gt (tgt := 28) hx hb d_MO_isPrefix_12 (by decide) (fun c_12 => ?_) (fun c_12 => ?_)
      · have hno : ¬ zok_P y z := fun h => absurd (Int32.lt_iff_toInt_lt.mp c_12) (Int.not_lt.mpr h.2.1)
        refine lv_iconst (v := 0) hx hb d_MO_isPrefix_28 (by decide) ?_
        exact W.zret (v := 0) (ty := .boolean) hx hb hr rfl (fun t ht hW => ⟨_, rfl, by rw [if_neg hno], ht⟩) (fun _ h => by cases h) d_MO_isPrefix_29
      · have h2 : z.toInt ≤ 8 := Int.not_lt.mp (fun h => c_12 (Int32.lt_iff_toInt_lt.mpr h))
        refine lv_iload_n hx hb d_MO_isPrefix_15 rfl (lv_at hl 0 rfl) ?_
        refine lv_i2l (v := y.toInt64) hx hb d_MO_isPrefix_16 rfl ?_
        refine vp_callSi (va_Run.run (zr_S (n := 1) (As := [.long y.toInt64]) (rest := []) CF (c_MO_width l dC dI y.toInt64) mc_MO_width lk_MO_51 mt_MO_width ni_MO rfl rfl (by decide +kernel) ⟨Nat.le_of_ble_eq_true rfl, Nat.le_of_ble_eq_true rfl⟩ (hP.sub (ws' := []) [] rfl) (hK.sub (tys' := []) [] rfl) rfl rfl hl.1 rfl (lv_room (Nat.le_of_ble_eq_true rfl)) d_MO_isPrefix_17 ⟨Nat.zero_le _, Nat.zero_le _⟩)) (fun r_17 h_17 => ?_)
        subst h_17
        refine lv_iload_n hx hb d_MO_isPrefix_20 rfl (lv_at hl 1 rfl) ?_
        refine lv_icmp_gt (tgt := 28) hx hb d_MO_isPrefix_21 (by decide) (fun c_21 => ?_) (fun c_21 => ?_)
        · have hno : ¬ zok_P y z := fun h => absurd ((zi_le (by omega)).mpr ((zd_wd_iff h1).mpr h.2.2.2)) (Int32.not_le.mpr c_21)
          refine lv_iconst (v := 0) hx hb d_MO_isPrefix_28 (by decide) ?_
          exact W.zret (v := 0) (ty := .boolean) hx hb hr rfl (fun t ht hW => ⟨_, rfl, by rw [if_neg hno], ht⟩) (fun _ h => by cases h) d_MO_isPrefix_29
        · have hok : zok_P y z := ⟨h1, h2, h3, (zd_wd_iff h1).mp ((zi_le (by omega)).mp (Int32.not_lt.mp c_21))⟩
          refine lv_iconst (v := 1) hx hb d_MO_isPrefix_24 (by decide) ?_
          refine lv_goto (tgt := 29) hx hb d_MO_isPrefix_25 (by decide) ?_
          exact W.zret (v := 1) (ty := .boolean) hx hb hr rfl (fun t ht hW => ⟨_, rfl, by rw [if_pos hok], ht⟩) (fun _ h => by cases h) d_MO_isPrefix_29
set_option maxHeartbeats 4000000 in
set_option maxRecDepth 100000 in
theorem c_MO_front (l : Launch) (dC : Nat → ClassId) (dI : Nat → Nat → Nat) (n d : Nat) (hn63 : n < 2 ^ 63) (hn1 : 1 ≤ zd_dg 19 n) (hd : d ≤ zd_dg 19 n) : Met l y_MO_front (zw y_MO_front b_MO_front 6 (some .long)) ({ frames := 1, cells := 0, slots := 0, locals := 24 }) (zPre [.long (lN n), .int (nI d)] (dC, dI) [] []) (vp_Sl (fun r => r = lN (zd_sh (zd_dg 19 n - d) n))) 0 0 (fun _ => False) := by
  refine Met.ofW (cc := b_MO_front) (maxL := 6) (ret := (some .long)) (by decide) rfl ?_
  intro p e s m args below meth c s₁ B hml hv
  obtain ⟨rfl, hP, hK⟩ := hv
  have hx := B.exec
  have hb := B.bytes
  have hr := B.returns
  have hts := atoms_spec (ws := (zw y_MO_front b_MO_front 6 (some .long))) B.pre
  have htB : ∀ w ∈ BG, w.before ([.long (lN n), .int (nI d)] : List Value).toArray s = true := fun w h => hts w (List.mem_cons_of_mem _ h)
  have hown : s.vm.findClass R_MO = some m.cls := findClass_of_methodNamed B.named
  have hlocks := B.notSynchronized
  have CF : CallFix p m c b_MO_front 6 s ([.long (lN n), .int (nI d)] : List Value).toArray BG R_MO := ⟨hx, hb, hml, hown, htB⟩
  have hP : va_P (dC, dI) vwCl [] s.heap := hP
  have hl := lv_entry [.long (lN n), .int (nI d)] (n := 6) (Nat.le_of_ble_eq_true rfl)
  rw [lg_entry_eq]
  generalize (lg_sl [.long (lN n), .int (nI d)] ++ List.replicate (6 - (lg_sl [.long (lN n), .int (nI d)]).length) Slot.unset).toArray = ls at hl ⊢
  have hl : lv_has ls 6 [(0, .long (lN n)), (2, .int (nI d))] := hl
  have hdl := zd_dg_le 19 n
  refine lv_lload_n hx hb d_MO_front_0 rfl (lv_at hl 0 rfl) ?_
  refine lv_lstore_n (lv' := [(3, .long (lN n)), (0, .long (lN n)), (2, .int (nI d))]) hx hb d_MO_front_1 rfl hl (by decide) rfl (fun ls hl => ?_)
  refine lv_lload_n hx hb d_MO_front_2 rfl (lv_at hl 1 rfl) ?_
  refine vp_callSi (va_Run.run (zr_S (n := 1) (As := [.long (lN n)]) (rest := []) CF (c_MO_width l dC dI (lN n)) mc_MO_width lk_MO_51 mt_MO_width ni_MO rfl rfl (by decide +kernel) ⟨Nat.le_of_ble_eq_true rfl, Nat.le_of_ble_eq_true rfl⟩ (hP.sub (ws' := []) [] rfl) (hK.sub (tys' := []) [] rfl) rfl rfl hl.1 rfl (lv_room (Nat.le_of_ble_eq_true rfl)) d_MO_front_3 ⟨Nat.zero_le _, Nat.zero_le _⟩)) (fun r_3 h_3 => ?_)
  rw [zd_lN hn63, zd_wdp hn1] at h_3
  rw [show zd_dg 19 n = d + (zd_dg 19 n - d) by omega] at h_3
  subst h_3
  refine lv_istore (lv' := [(5, .int (nI (d + (zd_dg 19 n - d)))), (3, .long (lN n)), (0, .long (lN n)), (2, .int (nI d))]) hx hb d_MO_front_6 hl (by decide) rfl (fun ls hl => ?_)
  have loop : ∀ (k b : Nat) (ls : Array Slot), d + k ≤ 19 → b < 2 ^ 63 → zd_sh k b = zd_sh (zd_dg 19 n - d) n → lv_has ls 6 [(5, .int (nI (d + k))), (3, .long (lN b)), (2, .int (nI d))] → W p l e (headSpec (zw y_MO_front b_MO_front 6 (some .long)) ({ frames := 1, cells := 0, slots := 0, locals := 24 })).room s m ([.long (lN n), .int (nI d)] : List Value).toArray below meth c s.heap [] 0 0 (MQ below (vp_Sl (fun r => r = lN (zd_sh (zd_dg 19 n - d) n))) ([.long (lN n), .int (nI d)] : List Value).toArray s 0 0 (fun _ => False)) (F0 m 8 ls []) := by
    intro k
    induction k with
    | zero =>
      intro b ls hk hb9 he hl
      refine lv_iload hx hb d_MO_front_8 (lv_at hl 0 rfl) ?_
      refine lv_iload_n hx hb d_MO_front_10 rfl (lv_at hl 2 rfl) ?_
      refine lv_icmp_le (tgt := 26) hx hb d_MO_front_11 (by decide) (fun c_11 => ?_) (fun c_11 => ?_)
      · refine lv_lload_n hx hb d_MO_front_26 rfl (lv_at hl 1 rfl) ?_
        exact W.lret (v := lN b) hx hb hr (fun t ht hW => ⟨_, rfl, by rw [← he]; rfl, ht⟩) (fun _ h => by cases h) d_MO_front_27
      · exact absurd (nI_le (Nat.le_refl d) (by omega)) c_11
    | succ k ih =>
      intro b ls hk hb9 he hl
      refine lv_iload hx hb d_MO_front_8 (lv_at hl 0 rfl) ?_
      refine lv_iload_n hx hb d_MO_front_10 rfl (lv_at hl 2 rfl) ?_
      refine lv_icmp_le (tgt := 26) hx hb d_MO_front_11 (by decide) (fun c_11 => ?_) (fun c_11 => ?_)
      · exact absurd c_11 (nI_ge (show d < d + (k + 1) by omega) (by omega))
      · refine lv_lload_n hx hb d_MO_front_14 rfl (lv_at hl 1 rfl) ?_
        refine lv_ldc2 (v := 10) hx hb hown (htB _ kl_MO_49) d_MO_front_15 ?_
        refine lv_ldiv hx hb d_MO_front_18 (by decide) ?_
        refine lv_lstore_n (lv' := [(3, .long ((lN b) / 10)), (5, .int (nI (d + (k + 1)))), (2, .int (nI d))]) hx hb d_MO_front_19 rfl hl (by decide) rfl (fun ls hl => ?_)
        refine lv_iinc (v := (nI (d + (k + 1))) + (-1)) (lv' := [(5, .int ((nI (d + (k + 1))) + (-1))), (3, .long ((lN b) / 10)), (2, .int (nI d))]) hx hb d_MO_front_20 hl (k := 1) rfl rfl (by decide) rfl (fun ls hl => ?_)
        refine lv_goto (tgt := 8) hx hb d_MO_front_23 (by decide) ?_
        rw [zd_div hb9, show nI (d + (k + 1)) + (-1) = nI (d + k) from pk_m1 (d + k)] at hl
        exact ih (b / 10) ls (by omega) (by omega) he (lv_sub hl [0, 1, 2] rfl)
  exact loop (zd_dg 19 n - d) n ls (by omega) hn63 rfl (lv_sub hl [0, 1, 3] rfl)
set_option maxHeartbeats 4000000 in
set_option maxRecDepth 100000 in
theorem c_MO_sum (l : Launch) (dC : Nat → ClassId) (dI : Nat → Nat → Nat) (x : Int64) : Met l y_MO_sum (zw y_MO_sum b_MO_sum 8 (some .int)) ({ frames := 0, cells := 0, slots := 0, locals := 0 }) (zPre [.long x, .int 0] (dC, dI) [] []) (vp_Si (fun r => r = nI (zd_cs 19 false (zd_N x)))) 0 0 (fun _ => False) := by
  refine Met.ofW (cc := b_MO_sum) (maxL := 8) (ret := (some .int)) (by decide) rfl ?_
  intro p e s m args below meth c s₁ B hml hv
  obtain ⟨rfl, hP, hK⟩ := hv
  have hx := B.exec
  have hb := B.bytes
  have hr := B.returns
  have hts := atoms_spec (ws := (zw y_MO_sum b_MO_sum 8 (some .int))) B.pre
  have htB : ∀ w ∈ BG, w.before ([.long x, .int 0] : List Value).toArray s = true := fun w h => hts w (List.mem_cons_of_mem _ h)
  have hown : s.vm.findClass R_MO = some m.cls := findClass_of_methodNamed B.named
  have hlocks := B.notSynchronized
  have CF : CallFix p m c b_MO_sum 8 s ([.long x, .int 0] : List Value).toArray BG R_MO := ⟨hx, hb, hml, hown, htB⟩
  have hP : va_P (dC, dI) vwCl [] s.heap := hP
  have hl := lv_entry [.long x, .int 0] (n := 8) (Nat.le_of_ble_eq_true rfl)
  rw [lg_entry_eq]
  generalize (lg_sl [.long x, .int 0] ++ List.replicate (8 - (lg_sl [.long x, .int 0]).length) Slot.unset).toArray = ls at hl ⊢
  have hl : lv_has ls 8 [(0, .long x), (2, .int 0)] := hl
  refine lv_iconst (v := 0) hx hb d_MO_sum_0 (by decide) ?_
  refine lv_istore_n (lv' := [(3, .int 0), (0, .long x), (2, .int 0)]) hx hb d_MO_sum_1 rfl hl (by decide) rfl (fun ls hl => ?_)
  refine lv_lload_n hx hb d_MO_sum_2 rfl (lv_at hl 1 rfl) ?_
  refine lv_lstore (lv' := [(4, .long x), (3, .int 0), (0, .long x), (2, .int 0)]) hx hb d_MO_sum_3 hl (by decide) rfl (fun ls hl => ?_)
  refine lv_iload_n hx hb d_MO_sum_5 rfl (lv_at hl 3 rfl) ?_
  refine lv_istore (lv' := [(6, .int 0), (4, .long x), (3, .int 0), (0, .long x), (2, .int 0)]) hx hb d_MO_sum_6 hl (by decide) rfl (fun ls hl => ?_)
  have loop : ∀ (k i r S : Nat) (b : Bool) (ls : Array Slot), i + k = 19 → r < 2 ^ 63 → r < 10 ^ k → S ≤ 9 * i → S + zd_cs k b r = zd_cs 19 false (zd_N x) → lv_has ls 8 [(6, .int (cond b 1 0)), (4, .long (lN r)), (3, .int (nI S)), (0, .long x)] → W p l e (headSpec (zw y_MO_sum b_MO_sum 8 (some .int)) ({ frames := 0, cells := 0, slots := 0, locals := 0 })).room s m ([.long x, .int 0] : List Value).toArray below meth c s.heap [] 0 0 (MQ below (vp_Si (fun r => r = nI (zd_cs 19 false (zd_N x)))) ([.long x, .int 0] : List Value).toArray s 0 0 (fun _ => False)) (F0 m 8 ls []) := by
    intro k
    induction k with
    | zero =>
      intro i r S b ls hi hr9 hr10 hS he hl
      have hr0 : r = 0 := by omega
      refine lv_lload hx hb d_MO_sum_8 (lv_at hl 1 rfl) ?_
      refine lv_lconst (v := 0) hx hb d_MO_sum_10 (by decide) ?_
      refine W.lcmp hx hb d_MO_sum_11 ?_
      refine lv_if_le (tgt := 80) hx hb d_MO_sum_12 (by decide) (fun c_12 => ?_) (fun c_12 => ?_)
      · refine lv_iload_n hx hb d_MO_sum_80 rfl (lv_at hl 2 rfl) ?_
        exact W.iret (v := nI S) hx hb hr (fun t ht hW => ⟨_, rfl, by rw [← he]; simp [zd_cs], ht⟩) (fun _ h => by cases h) d_MO_sum_81
      · exact absurd ((zd_le0 hr9).mpr hr0) c_12
    | succ k ih =>
      intro i r S b ls hi hr9 hr10 hS he hl
      cases b with
      | false =>
        have hl : lv_has ls 8 [(6, .int 0), (4, .long (lN r)), (3, .int (nI S)), (0, .long x)] := hl
        refine lv_lload hx hb d_MO_sum_8 (lv_at hl 1 rfl) ?_
        refine lv_lconst (v := 0) hx hb d_MO_sum_10 (by decide) ?_
        refine W.lcmp hx hb d_MO_sum_11 ?_
        refine lv_if_le (tgt := 80) hx hb d_MO_sum_12 (by decide) (fun c_12 => ?_) (fun c_12 => ?_)
        · have hr0 : r = 0 := (zd_le0 hr9).mp c_12
          subst hr0
          refine lv_iload_n hx hb d_MO_sum_80 rfl (lv_at hl 2 rfl) ?_
          exact W.iret (v := nI S) hx hb hr (fun t ht hW => ⟨_, rfl, by rw [← he]; simp [zd_cs], ht⟩) (fun _ h => by cases h) d_MO_sum_81
        · have hr0 : r ≠ 0 := fun h => c_12 ((zd_le0 hr9).mpr h)
          refine lv_lload hx hb d_MO_sum_15 (lv_at hl 1 rfl) ?_
          refine lv_ldc2 (v := 10) hx hb hown (htB _ kl_MO_49) d_MO_sum_17 ?_
          refine lv_lrem hx hb d_MO_sum_20 (by decide) ?_
          refine lv_l2i (v := ((lN r) - (lN r) / 10 * 10).toInt32) hx hb d_MO_sum_21 rfl ?_
          rw [show (((lN r) - (lN r) / 10 * 10).toInt32 : Int32) = nI (r % 10) from zd_rem hr9]
          refine lv_istore (lv' := [(7, .int (nI (r % 10))), (6, .int 0), (4, .long (lN r)), (3, .int (nI S)), (0, .long x)]) hx hb d_MO_sum_22 hl (by decide) rfl (fun ls hl => ?_)
          refine lv_iload_n hx hb d_MO_sum_24 rfl (lv_at hl 3 rfl) ?_
          refine lv_iload hx hb d_MO_sum_25 (lv_at hl 1 rfl) ?_
          refine lv_if_ne (tgt := 35) hx hb d_MO_sum_27 (by decide) (fun c_27 => ?_) (fun c_27 => ?_)
          · exact absurd rfl c_27
          · refine lv_iload hx hb d_MO_sum_30 (lv_at hl 0 rfl) ?_
            refine lv_goto (tgt := 55) hx hb d_MO_sum_32 (by decide) ?_
            obtain ⟨S2, hS2⟩ : ∃ z : Nat, z = S + (r % 10) := ⟨_, rfl⟩
            have he2 : S2 + zd_cs k true (r / 10) = zd_cs 19 false (zd_N x) := by rw [← he, hS2]; simp only [zd_cs, hr0, if_false]; simp; omega
            refine lv_iadd hx hb d_MO_sum_55 ?_
            rw [show ((nI S) + (nI (r % 10)) : Int32) = nI S2 by rw [hS2]; exact nI_add _ _]
            refine lv_istore_n (lv' := [(3, .int (nI S2)), (7, .int (nI (r % 10))), (6, .int 0), (4, .long (lN r)), (0, .long x)]) hx hb d_MO_sum_56 rfl hl (by decide) rfl (fun ls hl => ?_)
            refine lv_iload hx hb d_MO_sum_57 (lv_at hl 2 rfl) ?_
            refine lv_if_ne (tgt := 66) hx hb d_MO_sum_59 (by decide) (fun c_59 => ?_) (fun c_59 => ?_)
            · exact absurd rfl c_59
            · refine lv_iconst (v := 1) hx hb d_MO_sum_62 (by decide) ?_
              refine lv_goto (tgt := 67) hx hb d_MO_sum_63 (by decide) ?_
              refine lv_istore (lv' := [(6, .int 1), (3, .int (nI S2)), (7, .int (nI (r % 10))), (4, .long (lN r)), (0, .long x)]) hx hb d_MO_sum_67 hl (by decide) rfl (fun ls hl => ?_)
              refine lv_lload hx hb d_MO_sum_69 (lv_at hl 3 rfl) ?_
              refine lv_ldc2 (v := 10) hx hb hown (htB _ kl_MO_49) d_MO_sum_71 ?_
              refine lv_ldiv hx hb d_MO_sum_74 (by decide) ?_
              refine lv_lstore (lv' := [(4, .long ((lN r) / 10)), (6, .int 1), (3, .int (nI S2)), (7, .int (nI (r % 10))), (0, .long x)]) hx hb d_MO_sum_75 hl (by decide) rfl (fun ls hl => ?_)
              refine lv_goto (tgt := 8) hx hb d_MO_sum_77 (by decide) ?_
              rw [zd_div hr9] at hl
              exact ih (i + 1) (r / 10) S2 true ls (by omega) (by omega) (by rw [Nat.pow_succ] at hr10; omega) (by omega) he2 (lv_sub hl [1, 0, 2, 4] rfl)
      | true =>
        have hl : lv_has ls 8 [(6, .int 1), (4, .long (lN r)), (3, .int (nI S)), (0, .long x)] := hl
        refine lv_lload hx hb d_MO_sum_8 (lv_at hl 1 rfl) ?_
        refine lv_lconst (v := 0) hx hb d_MO_sum_10 (by decide) ?_
        refine W.lcmp hx hb d_MO_sum_11 ?_
        refine lv_if_le (tgt := 80) hx hb d_MO_sum_12 (by decide) (fun c_12 => ?_) (fun c_12 => ?_)
        · have hr0 : r = 0 := (zd_le0 hr9).mp c_12
          subst hr0
          refine lv_iload_n hx hb d_MO_sum_80 rfl (lv_at hl 2 rfl) ?_
          exact W.iret (v := nI S) hx hb hr (fun t ht hW => ⟨_, rfl, by rw [← he]; simp [zd_cs], ht⟩) (fun _ h => by cases h) d_MO_sum_81
        · have hr0 : r ≠ 0 := fun h => c_12 ((zd_le0 hr9).mpr h)
          refine lv_lload hx hb d_MO_sum_15 (lv_at hl 1 rfl) ?_
          refine lv_ldc2 (v := 10) hx hb hown (htB _ kl_MO_49) d_MO_sum_17 ?_
          refine lv_lrem hx hb d_MO_sum_20 (by decide) ?_
          refine lv_l2i (v := ((lN r) - (lN r) / 10 * 10).toInt32) hx hb d_MO_sum_21 rfl ?_
          rw [show (((lN r) - (lN r) / 10 * 10).toInt32 : Int32) = nI (r % 10) from zd_rem hr9]
          refine lv_istore (lv' := [(7, .int (nI (r % 10))), (6, .int 1), (4, .long (lN r)), (3, .int (nI S)), (0, .long x)]) hx hb d_MO_sum_22 hl (by decide) rfl (fun ls hl => ?_)
          refine lv_iload_n hx hb d_MO_sum_24 rfl (lv_at hl 3 rfl) ?_
          refine lv_iload hx hb d_MO_sum_25 (lv_at hl 1 rfl) ?_
          refine lv_if_ne (tgt := 35) hx hb d_MO_sum_27 (by decide) (fun c_27 => ?_) (fun c_27 => ?_)
          · refine lv_iload hx hb d_MO_sum_35 (lv_at hl 0 rfl) ?_
            refine lv_iconst (v := 5) hx hb d_MO_sum_37 (by decide) ?_
            refine lv_icmp_ge (tgt := 48) hx hb d_MO_sum_38 (by decide) (fun c_38 => ?_) (fun c_38 => ?_)
            · have h5 : ¬ r % 10 < 5 := fun h => absurd c_38 (show ¬ nI 5 ≤ nI (r % 10) from nI_ge h (by omega))
              refine lv_iconst (v := 2) hx hb d_MO_sum_48 (by decide) ?_
              refine lv_iload hx hb d_MO_sum_49 (lv_at hl 0 rfl) ?_
              refine lv_imul hx hb d_MO_sum_51 ?_
              refine lv_bipush (v := 9) hx hb d_MO_sum_52 (by decide) ?_
              refine lv_isub hx hb d_MO_sum_54 ?_
              obtain ⟨S2, hS2⟩ : ∃ z : Nat, z = S + (2 * (r % 10) - 9) := ⟨_, rfl⟩
              have htw : zd_tw (r % 10) = 2 * (r % 10) - 9 := by rw [zd_twm (by omega), if_neg h5]
              have he2 : S2 + zd_cs k false (r / 10) = zd_cs 19 false (zd_N x) := by rw [← he, hS2]; simp only [zd_cs, hr0, if_false]; simp [htw]; omega
              rw [show ((2 * (nI (r % 10))) - 9 : Int32) = nI (2 * (r % 10) - 9) by rw [show (2 : Int32) * nI (r % 10) = nI (2 * (r % 10)) from pk_mul 2 _]; exact pk_sub (show 9 ≤ 2 * (r % 10) by omega)]
              refine lv_iadd hx hb d_MO_sum_55 ?_
              rw [show ((nI S) + (nI (2 * (r % 10) - 9)) : Int32) = nI S2 by rw [hS2]; exact nI_add _ _]
              refine lv_istore_n (lv' := [(3, .int (nI S2)), (7, .int (nI (r % 10))), (6, .int 1), (4, .long (lN r)), (0, .long x)]) hx hb d_MO_sum_56 rfl hl (by decide) rfl (fun ls hl => ?_)
              refine lv_iload hx hb d_MO_sum_57 (lv_at hl 2 rfl) ?_
              refine lv_if_ne (tgt := 66) hx hb d_MO_sum_59 (by decide) (fun c_59 => ?_) (fun c_59 => ?_)
              · refine lv_iconst (v := 0) hx hb d_MO_sum_66 (by decide) ?_
                refine lv_istore (lv' := [(6, .int 0), (3, .int (nI S2)), (7, .int (nI (r % 10))), (4, .long (lN r)), (0, .long x)]) hx hb d_MO_sum_67 hl (by decide) rfl (fun ls hl => ?_)
                refine lv_lload hx hb d_MO_sum_69 (lv_at hl 3 rfl) ?_
                refine lv_ldc2 (v := 10) hx hb hown (htB _ kl_MO_49) d_MO_sum_71 ?_
                refine lv_ldiv hx hb d_MO_sum_74 (by decide) ?_
                refine lv_lstore (lv' := [(4, .long ((lN r) / 10)), (6, .int 0), (3, .int (nI S2)), (7, .int (nI (r % 10))), (0, .long x)]) hx hb d_MO_sum_75 hl (by decide) rfl (fun ls hl => ?_)
                refine lv_goto (tgt := 8) hx hb d_MO_sum_77 (by decide) ?_
                rw [zd_div hr9] at hl
                exact ih (i + 1) (r / 10) S2 false ls (by omega) (by omega) (by rw [Nat.pow_succ] at hr10; omega) (by omega) he2 (lv_sub hl [1, 0, 2, 4] rfl)
              · exact absurd c_59 (by decide)
            · have h5 : r % 10 < 5 := Nat.not_le.mp (fun h => c_38 (show nI 5 ≤ nI (r % 10) from nI_le h (by omega)))
              refine lv_iconst (v := 2) hx hb d_MO_sum_41 (by decide) ?_
              refine lv_iload hx hb d_MO_sum_42 (lv_at hl 0 rfl) ?_
              refine lv_imul hx hb d_MO_sum_44 ?_
              refine lv_goto (tgt := 55) hx hb d_MO_sum_45 (by decide) ?_
              obtain ⟨S2, hS2⟩ : ∃ z : Nat, z = S + (2 * (r % 10)) := ⟨_, rfl⟩
              have htw : zd_tw (r % 10) = 2 * (r % 10) := by rw [zd_twm (by omega), if_pos h5]
              have he2 : S2 + zd_cs k false (r / 10) = zd_cs 19 false (zd_N x) := by rw [← he, hS2]; simp only [zd_cs, hr0, if_false]; simp [htw]; omega
              rw [show (2 * (nI (r % 10)) : Int32) = nI (2 * (r % 10)) from pk_mul 2 _]
              refine lv_iadd hx hb d_MO_sum_55 ?_
              rw [show ((nI S) + (nI (2 * (r % 10))) : Int32) = nI S2 by rw [hS2]; exact nI_add _ _]
              refine lv_istore_n (lv' := [(3, .int (nI S2)), (7, .int (nI (r % 10))), (6, .int 1), (4, .long (lN r)), (0, .long x)]) hx hb d_MO_sum_56 rfl hl (by decide) rfl (fun ls hl => ?_)
              refine lv_iload hx hb d_MO_sum_57 (lv_at hl 2 rfl) ?_
              refine lv_if_ne (tgt := 66) hx hb d_MO_sum_59 (by decide) (fun c_59 => ?_) (fun c_59 => ?_)
              · refine lv_iconst (v := 0) hx hb d_MO_sum_66 (by decide) ?_
                refine lv_istore (lv' := [(6, .int 0), (3, .int (nI S2)), (7, .int (nI (r % 10))), (4, .long (lN r)), (0, .long x)]) hx hb d_MO_sum_67 hl (by decide) rfl (fun ls hl => ?_)
                refine lv_lload hx hb d_MO_sum_69 (lv_at hl 3 rfl) ?_
                refine lv_ldc2 (v := 10) hx hb hown (htB _ kl_MO_49) d_MO_sum_71 ?_
                refine lv_ldiv hx hb d_MO_sum_74 (by decide) ?_
                refine lv_lstore (lv' := [(4, .long ((lN r) / 10)), (6, .int 0), (3, .int (nI S2)), (7, .int (nI (r % 10))), (0, .long x)]) hx hb d_MO_sum_75 hl (by decide) rfl (fun ls hl => ?_)
                refine lv_goto (tgt := 8) hx hb d_MO_sum_77 (by decide) ?_
                rw [zd_div hr9] at hl
                exact ih (i + 1) (r / 10) S2 false ls (by omega) (by omega) (by rw [Nat.pow_succ] at hr10; omega) (by omega) he2 (lv_sub hl [1, 0, 2, 4] rfl)
              · exact absurd c_59 (by decide)
          · exact absurd c_27 (by decide)
  rcases zd_of (x := x) with hx0 | ⟨n, hn, rfl⟩
  · refine lv_lload hx hb d_MO_sum_8 (lv_at hl 1 rfl) ?_
    refine lv_lconst (v := 0) hx hb d_MO_sum_10 (by decide) ?_
    refine W.lcmp hx hb d_MO_sum_11 ?_
    refine lv_if_le (tgt := 80) hx hb d_MO_sum_12 (by decide) (fun c_12 => ?_) (fun c_12 => ?_)
    · refine lv_iload_n hx hb d_MO_sum_80 rfl (lv_at hl 2 rfl) ?_
      exact W.iret (v := 0) hx hb hr (fun t ht hW => ⟨_, rfl, by rw [zd_neg hx0]; rfl, ht⟩) (fun _ h => by cases h) d_MO_sum_81
    · exact absurd ((lg_cmp_le x 0).mpr (Int64.le_of_lt hx0)) c_12
  · exact loop 19 0 n 0 false ls rfl hn (zd_p19 hn) (by omega) (by rw [zd_lN hn]; omega) (lv_sub hl [0, 1, 2, 3] rfl)
end
section
/-- the length of the longest route that fits -/
def zf_len (rc : Nat) (rp rl : Nat → Int32) : Nat → Nat → Nat
  | 0, _ => 0
  | d + 1, b => if d + 1 ≤ 8 ∧ zf_ix (zf_m rp rl b (d + 1)) rc < rc then d + 1 else zf_len rc rp rl d (b / 10)
theorem zf_len_le (rc : Nat) (rp rl : Nat → Int32) : ∀ (d b : Nat), zf_len rc rp rl d b ≤ d
  | 0, _ => by simp [zf_len]
  | d + 1, b => by
    have := zf_len_le rc rp rl d (b / 10)
    rw [zf_len]; split <;> omega
theorem zf_iss0 (rp rl ri : Nat → Int32) : ∀ (d b : Nat), zf_iss 0 rp rl ri d b = -1
  | 0, _ => rfl
  | d + 1, b => by rw [zf_iss, if_neg (fun h => absurd h.2 (by simp [zf_ix]))]; exact zf_iss0 rp rl ri d (b / 10)
theorem zf_len0 (rp rl : Nat → Int32) : ∀ (d b : Nat), zf_len 0 rp rl d b = 0
  | 0, _ => rfl
  | d + 1, b => by rw [zf_len, if_neg (fun h => absurd h.2 (by simp [zf_ix]))]; exact zf_len0 rp rl d (b / 10)
/-- one route more -/
theorem zf_step {k L : Nat} {rp rl ri : Nat → Int32} (h1 : 1 ≤ L) (h8 : L ≤ 8) (eL : rl k = nI L) : ∀ (d b : Nat),
    (L ≤ d ∧ (rp k).toInt64 = lN (zd_sh (d - L) b) ∧ zf_len k rp rl d b < L → zf_iss (k + 1) rp rl ri d b = ri k ∧ zf_len (k + 1) rp rl d b = L) ∧
    (¬ (L ≤ d ∧ (rp k).toInt64 = lN (zd_sh (d - L) b) ∧ zf_len k rp rl d b < L) → zf_iss (k + 1) rp rl ri d b = zf_iss k rp rl ri d b ∧ zf_len (k + 1) rp rl d b = zf_len k rp rl d b)
  | 0, b => ⟨fun h => absurd h.1 (by omega), fun _ => ⟨rfl, rfl⟩⟩
  | d + 1, b => by
    have ih := zf_step (rp := rp) (ri := ri) h1 h8 eL d (b / 10)
    by_cases hA : d + 1 ≤ 8 ∧ zf_ix (zf_m rp rl b (d + 1)) k < k
    · have e1 : zf_ix (zf_m rp rl b (d + 1)) (k + 1) = zf_ix (zf_m rp rl b (d + 1)) k := by simp only [zf_ix]; rw [if_pos hA.2]
      have hk1 : d + 1 ≤ 8 ∧ zf_ix (zf_m rp rl b (d + 1)) (k + 1) < k + 1 := ⟨hA.1, by rw [e1]; omega⟩
      have el : zf_len k rp rl (d + 1) b = d + 1 := by rw [zf_len, if_pos hA]
      refine ⟨fun h => absurd h.2.2 (by rw [el]; omega), fun _ => ⟨?_, ?_⟩⟩
      · rw [zf_iss, if_pos hk1, e1, zf_iss, if_pos hA]
      · rw [zf_len, if_pos hk1, el]
    · have el : zf_len k rp rl (d + 1) b = zf_len k rp rl d (b / 10) := by rw [zf_len, if_neg hA]
      have ei : zf_iss k rp rl ri (d + 1) b = zf_iss k rp rl ri d (b / 10) := by rw [zf_iss, if_neg hA]
      by_cases hB : d + 1 ≤ 8 ∧ zf_m rp rl b (d + 1) k = true
      · have hn : ¬ zf_ix (zf_m rp rl b (d + 1)) k < k := fun h => hA ⟨hB.1, h⟩
        have e1 : zf_ix (zf_m rp rl b (d + 1)) (k + 1) = k := by simp only [zf_ix]; rw [if_neg hn, if_pos hB.2]
        have hm := hB.2
        simp only [zf_m, decide_eq_true_eq] at hm
        have eLd : L = d + 1 := (nI_eq (by omega) (by omega)).mp (eL.symm.trans hm.1)
        have hk1 : d + 1 ≤ 8 ∧ zf_ix (zf_m rp rl b (d + 1)) (k + 1) < k + 1 := ⟨hB.1, by rw [e1]; omega⟩
        have hle := zf_len_le k rp rl d (b / 10)
        refine ⟨fun _ => ⟨by rw [zf_iss, if_pos hk1, e1], by rw [zf_len, if_pos hk1, eLd]⟩, fun h => absurd ⟨by omega, ?_, by rw [el]; omega⟩ h⟩
        rw [eLd, Nat.sub_self]; exact hm.2
      · have e1 : ¬ (d + 1 ≤ 8 ∧ zf_ix (zf_m rp rl b (d + 1)) (k + 1) < k + 1) := fun h => by
          have h2 := h.2
          simp only [zf_ix] at h2
          rw [if_neg (fun q => hA ⟨h.1, q⟩), if_neg (fun q => hB ⟨h.1, q⟩)] at h2
          omega
        have el1 : zf_len (k + 1) rp rl (d + 1) b = zf_len (k + 1) rp rl d (b / 10) := by rw [zf_len, if_neg e1]
        have ei1 : zf_iss (k + 1) rp rl ri (d + 1) b = zf_iss (k + 1) rp rl ri d (b / 10) := by rw [zf_iss, if_neg e1]
        have hiff : (L ≤ d + 1 ∧ (rp k).toInt64 = lN (zd_sh (d + 1 - L) b) ∧ zf_len k rp rl (d + 1) b < L) ↔ (L ≤ d ∧ (rp k).toInt64 = lN (zd_sh (d - L) (b / 10)) ∧ zf_len k rp rl d (b / 10) < L) := by
          rw [el]
          by_cases e : L = d + 1
          · constructor
            · intro h
              refine absurd ⟨by omega, ?_⟩ hB
              simp only [zf_m, decide_eq_true_eq]
              refine ⟨by rw [eL, e], ?_⟩
              have h2 := h.2.1
              rw [e, Nat.sub_self] at h2
              exact h2
            · intro h; omega
          · constructor
            · intro h
              have h2 := h.2.1
              have h3 := h.1
              rw [show d + 1 - L = (d - L) + 1 by omega] at h2
              exact ⟨by omega, h2, h.2.2⟩
            · intro h
              refine ⟨by omega, ?_, h.2.2⟩
              have h3 := h.1
              rw [show d + 1 - L = (d - L) + 1 by omega]
              exact h.2.1
        rw [hiff, ei1, el1, ei, el]
        exact ih
theorem zf_rk {P : Nat → Bool} {k : Nat} (h : P k = false) : zf_r P (k + 1) = zf_r P k := by
  have hle := zf_le P k
  unfold zf_r
  by_cases hk : zf_ix P k < k
  · have e1 : zf_ix P (k + 1) = zf_ix P k := by simp only [zf_ix]; rw [if_pos hk]
    rw [e1, if_pos hk, if_pos (by omega)]
  · have e1 : zf_ix P (k + 1) = k + 1 := by simp only [zf_ix]; rw [if_neg hk, h]; rfl
    rw [e1, if_neg hk, if_neg (by omega)]
set_option maxHeartbeats 4000000 in
set_option maxRecDepth 100000 in
theorem c_MO_thrown (l : Launch) (dC : Nat → ClassId) (dI : Nat → Nat → Nat) (hM np nd nl nk nu nt nc nf nb : Nat) (cMP cMD cML cMI cMU cMT cMC cMF cMB : ClassId) (co wi ma no : Int32) (rc : Nat) (rp rl ri : Nat → Int32) (hrc : rc ≤ 40) (ac : Nat) (ai us ua : Nat → Int32) (hac : ac ≤ 64) (cc : Nat) (cn : Nat → Int64) (ca cb : Nat → Int32) (hcc : cc ≤ 100) : Met l y_MO_thrown (zw y_MO_thrown b_MO_thrown 1 (some .int)) ({ frames := 0, cells := 0, slots := 0, locals := 0 }) (zPre [.ref hM] (dC, dI) [(hM, .inr (4, [.int co, .int wi, .int ma, .int (nI rc), .ref np, .ref nd, .ref nl, .int (nI ac), .ref nk, .ref nu, .ref nt, .int (nI cc), .ref nc, .ref nf, .ref nb, .int no]))] []) (vp_Si (fun r => r = co)) 0 0 (fun _ => False) := by
  refine Met.ofW (cc := b_MO_thrown) (maxL := 1) (ret := (some .int)) (by decide) rfl ?_
  intro p e s m args below meth c s₁ B hml hv
  obtain ⟨rfl, hP, hK⟩ := hv
  have hx := B.exec
  have hb := B.bytes
  have hr := B.returns
  have hts := atoms_spec (ws := (zw y_MO_thrown b_MO_thrown 1 (some .int))) B.pre
  have htB : ∀ w ∈ BG, w.before ([.ref hM] : List Value).toArray s = true := fun w h => hts w (List.mem_cons_of_mem _ h)
  have hown : s.vm.findClass R_MO = some m.cls := findClass_of_methodNamed B.named
  have hlocks := B.notSynchronized
  have CF : CallFix p m c b_MO_thrown 1 s ([.ref hM] : List Value).toArray BG R_MO := ⟨hx, hb, hml, hown, htB⟩
  have hP : va_P (dC, dI) vwCl [(hM, .inr (4, [.int co, .int wi, .int ma, .int (nI rc), .ref np, .ref nd, .ref nl, .int (nI ac), .ref nk, .ref nu, .ref nt, .int (nI cc), .ref nc, .ref nf, .ref nb, .int no]))] s.heap := hP
  have hl := lv_entry [.ref hM] (n := 1) (Nat.le_of_ble_eq_true rfl)
  rw [lg_entry_eq]
  generalize (lg_sl [.ref hM] ++ List.replicate (1 - (lg_sl [.ref hM]).length) Slot.unset).toArray = ls at hl ⊢
  have hl : lv_has ls 1 [(0, .ref hM)] := hl
  refine lv_aload_n hx hb d_MO_thrown_0 rfl (lv_at hl 0 rfl) ?_
  refine va_get (D := (dC, dI)) (ci := 4) (v := .int co) (C := R_MO) (T := T_MO) (N := 16) hx hb htB i_MO hown hK hP 0 rfl rfl 0 (by decide) (htB _ lf_MO_46) (fun _ h9 => h9) rfl d_MO_thrown_1 ?_
  exact W.iret (v := co) hx hb hr (fun t ht hW => ⟨_, rfl, rfl, ht⟩) (fun _ h => by cases h) d_MO_thrown_4
set_option maxHeartbeats 4000000 in
set_option maxRecDepth 100000 in
theorem c_MO_goes_a (l : Launch) (dC : Nat → ClassId) (dI : Nat → Nat → Nat) (hM np nd nl nk nu nt nc nf nb : Nat) (cMP cMD cML cMI cMU cMT cMC cMF cMB : ClassId) (co wi ma no : Int32) (rc : Nat) (rp rl ri : Nat → Int32) (hrc : rc ≤ 40) (ac : Nat) (ai us ua : Nat → Int32) (hac : ac ≤ 64) (cc : Nat) (cn : Nat → Int64) (ca cb : Nat → Int32) (hcc : cc ≤ 100) (g : Int32) (hD0 : va_D (fun _ => True) [(hM, .inr (4, [.int co, .int wi, .int ma, .int (nI rc), .ref np, .ref nd, .ref nl, .int (nI ac), .ref nk, .ref nu, .ref nt, .int (nI cc), .ref nc, .ref nf, .ref nb, .int no]))]) : Met l y_MO_goes (zw y_MO_goes b_MO_goes 3 (some .boolean)) ({ frames := 0, cells := 0, slots := 0, locals := 0 }) (zPre [.ref hM, .int 0, .int g] (dC, dI) [(hM, .inr (4, [.int co, .int wi, .int ma, .int (nI rc), .ref np, .ref nd, .ref nl, .int (nI ac), .ref nk, .ref nu, .ref nt, .int (nI cc), .ref nc, .ref nf, .ref nb, .int no]))] []) (va_Qi (fun (r : Int32) (_ : Unit) => r = 0) (fun (_ : Unit) (t : State) => va_P (dC, dI) vwCl [(hM, .inr (4, [.int 1, .int wi, .int ma, .int (nI rc), .ref np, .ref nd, .ref nl, .int (nI ac), .ref nk, .ref nu, .ref nt, .int (nI cc), .ref nc, .ref nf, .ref nb, .int no]))] t.heap) (zA [(hM, .inr (4, [.int co, .int wi, .int ma, .int (nI rc), .ref np, .ref nd, .ref nl, .int (nI ac), .ref nk, .ref nu, .ref nt, .int (nI cc), .ref nc, .ref nf, .ref nb, .int no]))])) 0 0 (zA [(hM, .inr (4, [.int co, .int wi, .int ma, .int (nI rc), .ref np, .ref nd, .ref nl, .int (nI ac), .ref nk, .ref nu, .ref nt, .int (nI cc), .ref nc, .ref nf, .ref nb, .int no]))]) := by
  refine Met.ofW (cc := b_MO_goes) (maxL := 3) (ret := (some .boolean)) (by decide) rfl ?_
  intro p e s m args below meth c s₁ B hml hv
  obtain ⟨rfl, hP, hK⟩ := hv
  have hx := B.exec
  have hb := B.bytes
  have hr := B.returns
  have hts := atoms_spec (ws := (zw y_MO_goes b_MO_goes 3 (some .boolean))) B.pre
  have htB : ∀ w ∈ BG, w.before ([.ref hM, .int 0, .int g] : List Value).toArray s = true := fun w h => hts w (List.mem_cons_of_mem _ h)
  have hown : s.vm.findClass R_MO = some m.cls := findClass_of_methodNamed B.named
  have hlocks := B.notSynchronized
  have CF : CallFix p m c b_MO_goes 3 s ([.ref hM, .int 0, .int g] : List Value).toArray BG R_MO := ⟨hx, hb, hml, hown, htB⟩
  have hP : va_P (dC, dI) vwCl [(hM, .inr (4, [.int co, .int wi, .int ma, .int (nI rc), .ref np, .ref nd, .ref nl, .int (nI ac), .ref nk, .ref nu, .ref nt, .int (nI cc), .ref nc, .ref nf, .ref nb, .int no]))] s.heap := hP
  have hl := lv_entry [.ref hM, .int 0, .int g] (n := 3) (Nat.le_of_ble_eq_true rfl)
  rw [lg_entry_eq]
  generalize (lg_sl [.ref hM, .int 0, .int g] ++ List.replicate (3 - (lg_sl [.ref hM, .int 0, .int g]).length) Slot.unset).toArray = ls at hl ⊢
  have hl : lv_has ls 3 [(0, .ref hM), (1, .int 0), (2, .int g)] := hl
  have hD : va_D (zA [(hM, .inr (4, [.int co, .int wi, .int ma, .int (nI rc), .ref np, .ref nd, .ref nl, .int (nI ac), .ref nk, .ref nu, .ref nt, .int (nI cc), .ref nc, .ref nf, .ref nb, .int no]))]) [(hM, .inr (4, [.int co, .int wi, .int ma, .int (nI rc), .ref np, .ref nd, .ref nl, .int (nI ac), .ref nk, .ref nu, .ref nt, .int (nI cc), .ref nc, .ref nf, .ref nb, .int no]))] := zA_of hD0
  have hS : va_S (zA [(hM, .inr (4, [.int co, .int wi, .int ma, .int (nI rc), .ref np, .ref nd, .ref nl, .int (nI ac), .ref nk, .ref nu, .ref nt, .int (nI cc), .ref nc, .ref nf, .ref nb, .int no]))]) s.heap s.heap [] := va_S.rf
  generalize zA [(hM, .inr (4, [.int co, .int wi, .int ma, .int (nI rc), .ref np, .ref nd, .ref nl, .int (nI ac), .ref nk, .ref nu, .ref nt, .int (nI cc), .ref nc, .ref nf, .ref nb, .int no]))] = A at hD hS ⊢
  refine lv_aload_n hx hb d_MO_goes_0 rfl (lv_at hl 0 rfl) ?_
  refine lv_iload_n hx hb d_MO_goes_1 rfl (lv_at hl 1 rfl) ?_
  refine lv_if_ne (tgt := 9) hx hb d_MO_goes_2 (by decide) (fun c_2 => ?_) (fun c_2 => ?_)
  · exact absurd rfl c_2
  · refine lv_iconst (v := 1) hx hb d_MO_goes_5 (by decide) ?_
    refine lv_goto (tgt := 18) hx hb d_MO_goes_6 (by decide) ?_
    refine va_put (D := (dC, dI)) (ci := 4) (v := .int 1) (ty := .int) (C := R_MO) (T := T_MO) (N := 16) hx hb htB i_MO t_MO tk_MO n_MO hown hK hP hD hS 0 rfl rfl 0 (by decide) (htB _ lf_MO_46) (fun _ h9 => h9) rfl (by decide +kernel) rfl rfl (Nat.le_of_ble_eq_true rfl) d_MO_goes_18 (fun H locs hP hD hS => ?_)
    have hP : va_P (dC, dI) vwCl [(hM, .inr (4, [.int 1, .int wi, .int ma, .int (nI rc), .ref np, .ref nd, .ref nl, .int (nI ac), .ref nk, .ref nu, .ref nt, .int (nI cc), .ref nc, .ref nf, .ref nb, .int no]))] H := hP
    have hD : va_D A [(hM, .inr (4, [.int 1, .int wi, .int ma, .int (nI rc), .ref np, .ref nd, .ref nl, .int (nI ac), .ref nk, .ref nu, .ref nt, .int (nI cc), .ref nc, .ref nf, .ref nb, .int no]))] := hD
    refine lv_aload_n hx hb d_MO_goes_21 rfl (lv_at hl 0 rfl) ?_
    refine va_get (D := (dC, dI)) (ci := 4) (v := .int 1) (C := R_MO) (T := T_MO) (N := 16) hx hb htB i_MO hown hK hP 0 rfl rfl 0 (by decide) (htB _ lf_MO_46) (fun _ h9 => h9) rfl d_MO_goes_22 ?_
    refine lv_if_ne (tgt := 32) hx hb d_MO_goes_25 (by decide) (fun c_25 => ?_) (fun c_25 => ?_)
    · refine lv_iconst (v := 0) hx hb d_MO_goes_32 (by decide) ?_
      exact W.zret (v := 0) (ty := .boolean) hx hb hr (by rfl) (fun t ht hW => ⟨⟨_, (), rfl, rfl, by show va_P _ _ _ t.heap; rw [ht]; exact hP⟩, hS.F ht⟩) hS.2.2 d_MO_goes_33
    · exact absurd c_25 (by decide)
set_option maxHeartbeats 4000000 in
set_option maxRecDepth 100000 in
theorem c_MO_goes_b (l : Launch) (dC : Nat → ClassId) (dI : Nat → Nat → Nat) (hM np nd nl nk nu nt nc nf nb : Nat) (cMP cMD cML cMI cMU cMT cMC cMF cMB : ClassId) (co wi ma no : Int32) (rc : Nat) (rp rl ri : Nat → Int32) (hrc : rc ≤ 40) (ac : Nat) (ai us ua : Nat → Int32) (hac : ac ≤ 64) (cc : Nat) (cn : Nat → Int64) (ca cb : Nat → Int32) (hcc : cc ≤ 100) (hD0 : va_D (fun _ => True) [(hM, .inr (4, [.int co, .int wi, .int ma, .int (nI rc), .ref np, .ref nd, .ref nl, .int (nI ac), .ref nk, .ref nu, .ref nt, .int (nI cc), .ref nc, .ref nf, .ref nb, .int no]))]) : Met l y_MO_goes (zw y_MO_goes b_MO_goes 3 (some .boolean)) ({ frames := 0, cells := 0, slots := 0, locals := 0 }) (zPre [.ref hM, .int 1, .int 0] (dC, dI) [(hM, .inr (4, [.int co, .int wi, .int ma, .int (nI rc), .ref np, .ref nd, .ref nl, .int (nI ac), .ref nk, .ref nu, .ref nt, .int (nI cc), .ref nc, .ref nf, .ref nb, .int no]))] []) (va_Qi (fun (r : Int32) (_ : Unit) => r = 0) (fun (_ : Unit) (t : State) => va_P (dC, dI) vwCl [(hM, .inr (4, [.int 2, .int wi, .int ma, .int (nI rc), .ref np, .ref nd, .ref nl, .int (nI ac), .ref nk, .ref nu, .ref nt, .int (nI cc), .ref nc, .ref nf, .ref nb, .int no]))] t.heap) (zA [(hM, .inr (4, [.int co, .int wi, .int ma, .int (nI rc), .ref np, .ref nd, .ref nl, .int (nI ac), .ref nk, .ref nu, .ref nt, .int (nI cc), .ref nc, .ref nf, .ref nb, .int no]))])) 0 0 (zA [(hM, .inr (4, [.int co, .int wi, .int ma, .int (nI rc), .ref np, .ref nd, .ref nl, .int (nI ac), .ref nk, .ref nu, .ref nt, .int (nI cc), .ref nc, .ref nf, .ref nb, .int no]))]) := by
  refine Met.ofW (cc := b_MO_goes) (maxL := 3) (ret := (some .boolean)) (by decide) rfl ?_
  intro p e s m args below meth c s₁ B hml hv
  obtain ⟨rfl, hP, hK⟩ := hv
  have hx := B.exec
  have hb := B.bytes
  have hr := B.returns
  have hts := atoms_spec (ws := (zw y_MO_goes b_MO_goes 3 (some .boolean))) B.pre
  have htB : ∀ w ∈ BG, w.before ([.ref hM, .int 1, .int 0] : List Value).toArray s = true := fun w h => hts w (List.mem_cons_of_mem _ h)
  have hown : s.vm.findClass R_MO = some m.cls := findClass_of_methodNamed B.named
  have hlocks := B.notSynchronized
  have CF : CallFix p m c b_MO_goes 3 s ([.ref hM, .int 1, .int 0] : List Value).toArray BG R_MO := ⟨hx, hb, hml, hown, htB⟩
  have hP : va_P (dC, dI) vwCl [(hM, .inr (4, [.int co, .int wi, .int ma, .int (nI rc), .ref np, .ref nd, .ref nl, .int (nI ac), .ref nk, .ref nu, .ref nt, .int (nI cc), .ref nc, .ref nf, .ref nb, .int no]))] s.heap := hP
  have hl := lv_entry [.ref hM, .int 1, .int 0] (n := 3) (Nat.le_of_ble_eq_true rfl)
  rw [lg_entry_eq]
  generalize (lg_sl [.ref hM, .int 1, .int 0] ++ List.replicate (3 - (lg_sl [.ref hM, .int 1, .int 0]).length) Slot.unset).toArray = ls at hl ⊢
  have hl : lv_has ls 3 [(0, .ref hM), (1, .int 1), (2, .int 0)] := hl
  have hD : va_D (zA [(hM, .inr (4, [.int co, .int wi, .int ma, .int (nI rc), .ref np, .ref nd, .ref nl, .int (nI ac), .ref nk, .ref nu, .ref nt, .int (nI cc), .ref nc, .ref nf, .ref nb, .int no]))]) [(hM, .inr (4, [.int co, .int wi, .int ma, .int (nI rc), .ref np, .ref nd, .ref nl, .int (nI ac), .ref nk, .ref nu, .ref nt, .int (nI cc), .ref nc, .ref nf, .ref nb, .int no]))] := zA_of hD0
  have hS : va_S (zA [(hM, .inr (4, [.int co, .int wi, .int ma, .int (nI rc), .ref np, .ref nd, .ref nl, .int (nI ac), .ref nk, .ref nu, .ref nt, .int (nI cc), .ref nc, .ref nf, .ref nb, .int no]))]) s.heap s.heap [] := va_S.rf
  generalize zA [(hM, .inr (4, [.int co, .int wi, .int ma, .int (nI rc), .ref np, .ref nd, .ref nl, .int (nI ac), .ref nk, .ref nu, .ref nt, .int (nI cc), .ref nc, .ref nf, .ref nb, .int no]))] = A at hD hS ⊢
  refine lv_aload_n hx hb d_MO_goes_0 rfl (lv_at hl 0 rfl) ?_
  refine lv_iload_n hx hb d_MO_goes_1 rfl (lv_at hl 1 rfl) ?_
  refine lv_if_ne (tgt := 9) hx hb d_MO_goes_2 (by decide) (fun c_2 => ?_) (fun c_2 => ?_)
  · refine lv_iload_n hx hb d_MO_goes_9 rfl (lv_at hl 2 rfl) ?_
    refine lv_if_ne (tgt := 17) hx hb d_MO_goes_10 (by decide) (fun c_10 => ?_) (fun c_10 => ?_)
    · exact absurd rfl c_10
    · refine lv_iconst (v := 2) hx hb d_MO_goes_13 (by decide) ?_
      refine lv_goto (tgt := 18) hx hb d_MO_goes_14 (by decide) ?_
      refine va_put (D := (dC, dI)) (ci := 4) (v := .int 2) (ty := .int) (C := R_MO) (T := T_MO) (N := 16) hx hb htB i_MO t_MO tk_MO n_MO hown hK hP hD hS 0 rfl rfl 0 (by decide) (htB _ lf_MO_46) (fun _ h9 => h9) rfl (by decide +kernel) rfl rfl (Nat.le_of_ble_eq_true rfl) d_MO_goes_18 (fun H locs hP hD hS => ?_)
      have hP : va_P (dC, dI) vwCl [(hM, .inr (4, [.int 2, .int wi, .int ma, .int (nI rc), .ref np, .ref nd, .ref nl, .int (nI ac), .ref nk, .ref nu, .ref nt, .int (nI cc), .ref nc, .ref nf, .ref nb, .int no]))] H := hP
      have hD : va_D A [(hM, .inr (4, [.int 2, .int wi, .int ma, .int (nI rc), .ref np, .ref nd, .ref nl, .int (nI ac), .ref nk, .ref nu, .ref nt, .int (nI cc), .ref nc, .ref nf, .ref nb, .int no]))] := hD
      refine lv_aload_n hx hb d_MO_goes_21 rfl (lv_at hl 0 rfl) ?_
      refine va_get (D := (dC, dI)) (ci := 4) (v := .int 2) (C := R_MO) (T := T_MO) (N := 16) hx hb htB i_MO hown hK hP 0 rfl rfl 0 (by decide) (htB _ lf_MO_46) (fun _ h9 => h9) rfl d_MO_goes_22 ?_
      refine lv_if_ne (tgt := 32) hx hb d_MO_goes_25 (by decide) (fun c_25 => ?_) (fun c_25 => ?_)
      · refine lv_iconst (v := 0) hx hb d_MO_goes_32 (by decide) ?_
        exact W.zret (v := 0) (ty := .boolean) hx hb hr (by rfl) (fun t ht hW => ⟨⟨_, (), rfl, rfl, by show va_P _ _ _ t.heap; rw [ht]; exact hP⟩, hS.F ht⟩) hS.2.2 d_MO_goes_33
      · exact absurd c_25 (by decide)
  · exact absurd c_2 (by decide)
set_option maxHeartbeats 4000000 in
set_option maxRecDepth 100000 in
theorem c_MO_goes_c (l : Launch) (dC : Nat → ClassId) (dI : Nat → Nat → Nat) (hM np nd nl nk nu nt nc nf nb : Nat) (cMP cMD cML cMI cMU cMT cMC cMF cMB : ClassId) (co wi ma no : Int32) (rc : Nat) (rp rl ri : Nat → Int32) (hrc : rc ≤ 40) (ac : Nat) (ai us ua : Nat → Int32) (hac : ac ≤ 64) (cc : Nat) (cn : Nat → Int64) (ca cb : Nat → Int32) (hcc : cc ≤ 100) (hD0 : va_D (fun _ => True) [(hM, .inr (4, [.int co, .int wi, .int ma, .int (nI rc), .ref np, .ref nd, .ref nl, .int (nI ac), .ref nk, .ref nu, .ref nt, .int (nI cc), .ref nc, .ref nf, .ref nb, .int no]))]) : Met l y_MO_goes (zw y_MO_goes b_MO_goes 3 (some .boolean)) ({ frames := 0, cells := 0, slots := 0, locals := 0 }) (zPre [.ref hM, .int 1, .int 1] (dC, dI) [(hM, .inr (4, [.int co, .int wi, .int ma, .int (nI rc), .ref np, .ref nd, .ref nl, .int (nI ac), .ref nk, .ref nu, .ref nt, .int (nI cc), .ref nc, .ref nf, .ref nb, .int no]))] []) (va_Qi (fun (r : Int32) (_ : Unit) => r = 1) (fun (_ : Unit) (t : State) => va_P (dC, dI) vwCl [(hM, .inr (4, [.int 0, .int wi, .int ma, .int (nI rc), .ref np, .ref nd, .ref nl, .int (nI ac), .ref nk, .ref nu, .ref nt, .int (nI cc), .ref nc, .ref nf, .ref nb, .int no]))] t.heap) (zA [(hM, .inr (4, [.int co, .int wi, .int ma, .int (nI rc), .ref np, .ref nd, .ref nl, .int (nI ac), .ref nk, .ref nu, .ref nt, .int (nI cc), .ref nc, .ref nf, .ref nb, .int no]))])) 0 0 (zA [(hM, .inr (4, [.int co, .int wi, .int ma, .int (nI rc), .ref np, .ref nd, .ref nl, .int (nI ac), .ref nk, .ref nu, .ref nt, .int (nI cc), .ref nc, .ref nf, .ref nb, .int no]))]) := by
  refine Met.ofW (cc := b_MO_goes) (maxL := 3) (ret := (some .boolean)) (by decide) rfl ?_
  intro p e s m args below meth c s₁ B hml hv
  obtain ⟨rfl, hP, hK⟩ := hv
  have hx := B.exec
  have hb := B.bytes
  have hr := B.returns
  have hts := atoms_spec (ws := (zw y_MO_goes b_MO_goes 3 (some .boolean))) B.pre
  have htB : ∀ w ∈ BG, w.before ([.ref hM, .int 1, .int 1] : List Value).toArray s = true := fun w h => hts w (List.mem_cons_of_mem _ h)
  have hown : s.vm.findClass R_MO = some m.cls := findClass_of_methodNamed B.named
  have hlocks := B.notSynchronized
  have CF : CallFix p m c b_MO_goes 3 s ([.ref hM, .int 1, .int 1] : List Value).toArray BG R_MO := ⟨hx, hb, hml, hown, htB⟩
  have hP : va_P (dC, dI) vwCl [(hM, .inr (4, [.int co, .int wi, .int ma, .int (nI rc), .ref np, .ref nd, .ref nl, .int (nI ac), .ref nk, .ref nu, .ref nt, .int (nI cc), .ref nc, .ref nf, .ref nb, .int no]))] s.heap := hP
  have hl := lv_entry [.ref hM, .int 1, .int 1] (n := 3) (Nat.le_of_ble_eq_true rfl)
  rw [lg_entry_eq]
  generalize (lg_sl [.ref hM, .int 1, .int 1] ++ List.replicate (3 - (lg_sl [.ref hM, .int 1, .int 1]).length) Slot.unset).toArray = ls at hl ⊢
  have hl : lv_has ls 3 [(0, .ref hM), (1, .int 1), (2, .int 1)] := hl
  have hD : va_D (zA [(hM, .inr (4, [.int co, .int wi, .int ma, .int (nI rc), .ref np, .ref nd, .ref nl, .int (nI ac), .ref nk, .ref nu, .ref nt, .int (nI cc), .ref nc, .ref nf, .ref nb, .int no]))]) [(hM, .inr (4, [.int co, .int wi, .int ma, .int (nI rc), .ref np, .ref nd, .ref nl, .int (nI ac), .ref nk, .ref nu, .ref nt, .int (nI cc), .ref nc, .ref nf, .ref nb, .int no]))] := zA_of hD0
  have hS : va_S (zA [(hM, .inr (4, [.int co, .int wi, .int ma, .int (nI rc), .ref np, .ref nd, .ref nl, .int (nI ac), .ref nk, .ref nu, .ref nt, .int (nI cc), .ref nc, .ref nf, .ref nb, .int no]))]) s.heap s.heap [] := va_S.rf
  generalize zA [(hM, .inr (4, [.int co, .int wi, .int ma, .int (nI rc), .ref np, .ref nd, .ref nl, .int (nI ac), .ref nk, .ref nu, .ref nt, .int (nI cc), .ref nc, .ref nf, .ref nb, .int no]))] = A at hD hS ⊢
  refine lv_aload_n hx hb d_MO_goes_0 rfl (lv_at hl 0 rfl) ?_
  refine lv_iload_n hx hb d_MO_goes_1 rfl (lv_at hl 1 rfl) ?_
  refine lv_if_ne (tgt := 9) hx hb d_MO_goes_2 (by decide) (fun c_2 => ?_) (fun c_2 => ?_)
  · refine lv_iload_n hx hb d_MO_goes_9 rfl (lv_at hl 2 rfl) ?_
    refine lv_if_ne (tgt := 17) hx hb d_MO_goes_10 (by decide) (fun c_10 => ?_) (fun c_10 => ?_)
    · refine lv_iconst (v := 0) hx hb d_MO_goes_17 (by decide) ?_
      refine va_put (D := (dC, dI)) (ci := 4) (v := .int 0) (ty := .int) (C := R_MO) (T := T_MO) (N := 16) hx hb htB i_MO t_MO tk_MO n_MO hown hK hP hD hS 0 rfl rfl 0 (by decide) (htB _ lf_MO_46) (fun _ h9 => h9) rfl (by decide +kernel) rfl rfl (Nat.le_of_ble_eq_true rfl) d_MO_goes_18 (fun H locs hP hD hS => ?_)
      have hP : va_P (dC, dI) vwCl [(hM, .inr (4, [.int 0, .int wi, .int ma, .int (nI rc), .ref np, .ref nd, .ref nl, .int (nI ac), .ref nk, .ref nu, .ref nt, .int (nI cc), .ref nc, .ref nf, .ref nb, .int no]))] H := hP
      have hD : va_D A [(hM, .inr (4, [.int 0, .int wi, .int ma, .int (nI rc), .ref np, .ref nd, .ref nl, .int (nI ac), .ref nk, .ref nu, .ref nt, .int (nI cc), .ref nc, .ref nf, .ref nb, .int no]))] := hD
      refine lv_aload_n hx hb d_MO_goes_21 rfl (lv_at hl 0 rfl) ?_
      refine va_get (D := (dC, dI)) (ci := 4) (v := .int 0) (C := R_MO) (T := T_MO) (N := 16) hx hb htB i_MO hown hK hP 0 rfl rfl 0 (by decide) (htB _ lf_MO_46) (fun _ h9 => h9) rfl d_MO_goes_22 ?_
      refine lv_if_ne (tgt := 32) hx hb d_MO_goes_25 (by decide) (fun c_25 => ?_) (fun c_25 => ?_)
      · exact absurd rfl c_25
      · refine lv_iconst (v := 1) hx hb d_MO_goes_28 (by decide) ?_
        refine lv_goto (tgt := 33) hx hb d_MO_goes_29 (by decide) ?_
        exact W.zret (v := 1) (ty := .boolean) hx hb hr (by rfl) (fun t ht hW => ⟨⟨_, (), rfl, rfl, by show va_P _ _ _ t.heap; rw [ht]; exact hP⟩, hS.F ht⟩) hS.2.2 d_MO_goes_33
    · exact absurd c_10 (by decide)
  · exact absurd c_2 (by decide)
set_option maxHeartbeats 4000000 in
set_option maxRecDepth 100000 in
theorem c_MO_routes (l : Launch) (dC : Nat → ClassId) (dI : Nat → Nat → Nat) (hM np nd nl nk nu nt nc nf nb : Nat) (cMP cMD cML cMI cMU cMT cMC cMF cMB : ClassId) (co wi ma no : Int32) (rc : Nat) (rp rl ri : Nat → Int32) (hrc : rc ≤ 40) (ac : Nat) (ai us ua : Nat → Int32) (hac : ac ≤ 64) (cc : Nat) (cn : Nat → Int64) (ca cb : Nat → Int32) (hcc : cc ≤ 100) (hD0 : va_D (fun _ => True) [(hM, .inr (4, [.int co, .int wi, .int ma, .int (nI rc), .ref np, .ref nd, .ref nl, .int (nI ac), .ref nk, .ref nu, .ref nt, .int (nI cc), .ref nc, .ref nf, .ref nb, .int no]))]) : Met l y_MO_routes (zw y_MO_routes b_MO_routes 1 (some .int)) ({ frames := 0, cells := 0, slots := 0, locals := 0 }) (zPre [.ref hM] (dC, dI) [(hM, .inr (4, [.int co, .int wi, .int ma, .int (nI rc), .ref np, .ref nd, .ref nl, .int (nI ac), .ref nk, .ref nu, .ref nt, .int (nI cc), .ref nc, .ref nf, .ref nb, .int no]))] []) (va_Qi (fun (r : Int32) (_ : Unit) => r = nI rc) (fun (_ : Unit) (t : State) => va_P (dC, dI) vwCl [(hM, .inr (4, [.int 0, .int wi, .int ma, .int (nI rc), .ref np, .ref nd, .ref nl, .int (nI ac), .ref nk, .ref nu, .ref nt, .int (nI cc), .ref nc, .ref nf, .ref nb, .int no]))] t.heap) (zA [(hM, .inr (4, [.int co, .int wi, .int ma, .int (nI rc), .ref np, .ref nd, .ref nl, .int (nI ac), .ref nk, .ref nu, .ref nt, .int (nI cc), .ref nc, .ref nf, .ref nb, .int no]))])) 0 0 (zA [(hM, .inr (4, [.int co, .int wi, .int ma, .int (nI rc), .ref np, .ref nd, .ref nl, .int (nI ac), .ref nk, .ref nu, .ref nt, .int (nI cc), .ref nc, .ref nf, .ref nb, .int no]))]) := by
  refine Met.ofW (cc := b_MO_routes) (maxL := 1) (ret := (some .int)) (by decide) rfl ?_
  intro p e s m args below meth c s₁ B hml hv
  obtain ⟨rfl, hP, hK⟩ := hv
  have hx := B.exec
  have hb := B.bytes
  have hr := B.returns
  have hts := atoms_spec (ws := (zw y_MO_routes b_MO_routes 1 (some .int))) B.pre
  have htB : ∀ w ∈ BG, w.before ([.ref hM] : List Value).toArray s = true := fun w h => hts w (List.mem_cons_of_mem _ h)
  have hown : s.vm.findClass R_MO = some m.cls := findClass_of_methodNamed B.named
  have hlocks := B.notSynchronized
  have CF : CallFix p m c b_MO_routes 1 s ([.ref hM] : List Value).toArray BG R_MO := ⟨hx, hb, hml, hown, htB⟩
  have hP : va_P (dC, dI) vwCl [(hM, .inr (4, [.int co, .int wi, .int ma, .int (nI rc), .ref np, .ref nd, .ref nl, .int (nI ac), .ref nk, .ref nu, .ref nt, .int (nI cc), .ref nc, .ref nf, .ref nb, .int no]))] s.heap := hP
  have hl := lv_entry [.ref hM] (n := 1) (Nat.le_of_ble_eq_true rfl)
  rw [lg_entry_eq]
  generalize (lg_sl [.ref hM] ++ List.replicate (1 - (lg_sl [.ref hM]).length) Slot.unset).toArray = ls at hl ⊢
  have hl : lv_has ls 1 [(0, .ref hM)] := hl
  have hD : va_D (zA [(hM, .inr (4, [.int co, .int wi, .int ma, .int (nI rc), .ref np, .ref nd, .ref nl, .int (nI ac), .ref nk, .ref nu, .ref nt, .int (nI cc), .ref nc, .ref nf, .ref nb, .int no]))]) [(hM, .inr (4, [.int co, .int wi, .int ma, .int (nI rc), .ref np, .ref nd, .ref nl, .int (nI ac), .ref nk, .ref nu, .ref nt, .int (nI cc), .ref nc, .ref nf, .ref nb, .int no]))] := zA_of hD0
  have hS : va_S (zA [(hM, .inr (4, [.int co, .int wi, .int ma, .int (nI rc), .ref np, .ref nd, .ref nl, .int (nI ac), .ref nk, .ref nu, .ref nt, .int (nI cc), .ref nc, .ref nf, .ref nb, .int no]))]) s.heap s.heap [] := va_S.rf
  generalize zA [(hM, .inr (4, [.int co, .int wi, .int ma, .int (nI rc), .ref np, .ref nd, .ref nl, .int (nI ac), .ref nk, .ref nu, .ref nt, .int (nI cc), .ref nc, .ref nf, .ref nb, .int no]))] = A at hD hS ⊢
  refine lv_aload_n hx hb d_MO_routes_0 rfl (lv_at hl 0 rfl) ?_
  refine lv_iconst (v := 0) hx hb d_MO_routes_1 (by decide) ?_
  refine va_put (D := (dC, dI)) (ci := 4) (v := .int 0) (ty := .int) (C := R_MO) (T := T_MO) (N := 16) hx hb htB i_MO t_MO tk_MO n_MO hown hK hP hD hS 0 rfl rfl 0 (by decide) (htB _ lf_MO_46) (fun _ h9 => h9) rfl (by decide +kernel) rfl rfl (Nat.le_of_ble_eq_true rfl) d_MO_routes_2 (fun H locs hP hD hS => ?_)
  have hP : va_P (dC, dI) vwCl [(hM, .inr (4, [.int 0, .int wi, .int ma, .int (nI rc), .ref np, .ref nd, .ref nl, .int (nI ac), .ref nk, .ref nu, .ref nt, .int (nI cc), .ref nc, .ref nf, .ref nb, .int no]))] H := hP
  have hD : va_D A [(hM, .inr (4, [.int 0, .int wi, .int ma, .int (nI rc), .ref np, .ref nd, .ref nl, .int (nI ac), .ref nk, .ref nu, .ref nt, .int (nI cc), .ref nc, .ref nf, .ref nb, .int no]))] := hD
  refine lv_aload_n hx hb d_MO_routes_5 rfl (lv_at hl 0 rfl) ?_
  refine va_get (D := (dC, dI)) (ci := 4) (v := .int (nI rc)) (C := R_MO) (T := T_MO) (N := 16) hx hb htB i_MO hown hK hP 0 rfl rfl 3 (by decide) (htB _ lf_MO_55) (fun _ h9 => h9) rfl d_MO_routes_6 ?_
  exact W.iret (v := nI rc) hx hb hr (fun t ht hW => ⟨⟨_, (), rfl, rfl, by show va_P _ _ _ t.heap; rw [ht]; exact hP⟩, hS.F ht⟩) hS.2.2 d_MO_routes_9
set_option maxHeartbeats 4000000 in
set_option maxRecDepth 100000 in
theorem c_MO_placeOf (l : Launch) (dC : Nat → ClassId) (dI : Nat → Nat → Nat) (hM np nd nl nk nu nt nc nf nb : Nat) (cMP cMD cML cMI cMU cMT cMC cMF cMB : ClassId) (co wi ma no : Int32) (rc : Nat) (rp rl ri : Nat → Int32) (hrc : rc ≤ 40) (ac : Nat) (ai us ua : Nat → Int32) (hac : ac ≤ 64) (cc : Nat) (cn : Nat → Int64) (ca cb : Nat → Int32) (hcc : cc ≤ 100) (y z : Int32) : Met l y_MO_placeOf (zw y_MO_placeOf b_MO_placeOf 4 (some .int)) ({ frames := 0, cells := 0, slots := 0, locals := 0 }) (zPre [.ref hM, .int y, .int z] (dC, dI) [(hM, .inr (4, [.int co, .int wi, .int ma, .int (nI rc), .ref np, .ref nd, .ref nl, .int (nI ac), .ref nk, .ref nu, .ref nt, .int (nI cc), .ref nc, .ref nf, .ref nb, .int no])), (np, .inl (cMP, 40, .inl rp)), (nd, .inl (cMD, 40, .inl rl)), (nl, .inl (cML, 40, .inl ri)), (nk, .inl (cMI, 64, .inl ai)), (nu, .inl (cMU, 64, .inl us)), (nt, .inl (cMT, 512, .inl ua)), (nc, .inl (cMC, 100, .inr (.inl cn))), (nf, .inl (cMF, 100, .inl ca)), (nb, .inl (cMB, 100, .inl cb))] [(cMP, .int), (cMD, .int), (cML, .int), (cMI, .int), (cMU, .int), (cMT, .int), (cMC, .long), (cMF, .int), (cMB, .boolean)]) (vp_Si (fun r => r = nI (zr_at rc rp rl y z))) 0 0 (fun _ => False) := by
  refine Met.ofW (cc := b_MO_placeOf) (maxL := 4) (ret := (some .int)) (by decide) rfl ?_
  intro p e s m args below meth c s₁ B hml hv
  obtain ⟨rfl, hP, hK⟩ := hv
  have hx := B.exec
  have hb := B.bytes
  have hr := B.returns
  have hts := atoms_spec (ws := (zw y_MO_placeOf b_MO_placeOf 4 (some .int))) B.pre
  have htB : ∀ w ∈ BG, w.before ([.ref hM, .int y, .int z] : List Value).toArray s = true := fun w h => hts w (List.mem_cons_of_mem _ h)
  have hown : s.vm.findClass R_MO = some m.cls := findClass_of_methodNamed B.named
  have hlocks := B.notSynchronized
  have CF : CallFix p m c b_MO_placeOf 4 s ([.ref hM, .int y, .int z] : List Value).toArray BG R_MO := ⟨hx, hb, hml, hown, htB⟩
  have hP : va_P (dC, dI) vwCl [(hM, .inr (4, [.int co, .int wi, .int ma, .int (nI rc), .ref np, .ref nd, .ref nl, .int (nI ac), .ref nk, .ref nu, .ref nt, .int (nI cc), .ref nc, .ref nf, .ref nb, .int no])), (np, .inl (cMP, 40, .inl rp)), (nd, .inl (cMD, 40, .inl rl)), (nl, .inl (cML, 40, .inl ri)), (nk, .inl (cMI, 64, .inl ai)), (nu, .inl (cMU, 64, .inl us)), (nt, .inl (cMT, 512, .inl ua)), (nc, .inl (cMC, 100, .inr (.inl cn))), (nf, .inl (cMF, 100, .inl ca)), (nb, .inl (cMB, 100, .inl cb))] s.heap := hP
  have hl := lv_entry [.ref hM, .int y, .int z] (n := 4) (Nat.le_of_ble_eq_true rfl)
  rw [lg_entry_eq]
  generalize (lg_sl [.ref hM, .int y, .int z] ++ List.replicate (4 - (lg_sl [.ref hM, .int y, .int z]).length) Slot.unset).toArray = ls at hl ⊢
  have hl : lv_has ls 4 [(0, .ref hM), (1, .int y), (2, .int z)] := hl
  refine lv_iconst (v := 0) hx hb d_MO_placeOf_0 (by decide) ?_
  refine lv_istore_n (lv' := [(3, .int 0), (0, .ref hM), (1, .int y), (2, .int z)]) hx hb d_MO_placeOf_1 rfl hl (by decide) rfl (fun ls hl => ?_)
  have loop : ∀ (k i : Nat) (ls : Array Slot), i + k = rc → (∀ j, j < i → decide (rl j = z ∧ (rp j).toInt64 = y.toInt64) = false) → lv_has ls 4 [(3, .int (nI i)), (0, .ref hM), (1, .int y), (2, .int z)] → W p l e (headSpec (zw y_MO_placeOf b_MO_placeOf 4 (some .int)) ({ frames := 0, cells := 0, slots := 0, locals := 0 })).room s m ([.ref hM, .int y, .int z] : List Value).toArray below meth c s.heap [] 0 0 (MQ below (vp_Si (fun r => r = nI (zr_at rc rp rl y z))) ([.ref hM, .int y, .int z] : List Value).toArray s 0 0 (fun _ => False)) (F0 m 2 ls []) := by
    intro k
    induction k with
    | zero =>
      intro i ls hi hb9 hl
      have hres : zr_at rc rp rl y z = i := (zf_none (by intro k hk; exact hb9 k (by omega))).trans (by omega)
      refine lv_iload_n hx hb d_MO_placeOf_2 rfl (lv_at hl 0 rfl) ?_
      refine lv_aload_n hx hb d_MO_placeOf_3 rfl (lv_at hl 1 rfl) ?_
      refine va_get (D := (dC, dI)) (ci := 4) (v := .int (nI rc)) (C := R_MO) (T := T_MO) (N := 16) hx hb htB i_MO hown hK hP 0 rfl rfl 3 (by decide) (htB _ lf_MO_55) (fun _ h9 => h9) rfl d_MO_placeOf_4 ?_
      refine lv_icmp_ge (tgt := 36) hx hb d_MO_placeOf_7 (by decide) (fun c_7 => ?_) (fun c_7 => ?_)
      · refine lv_iload_n hx hb d_MO_placeOf_36 rfl (lv_at hl 0 rfl) ?_
        exact W.iret (v := nI i) hx hb hr (fun t ht hW => ⟨_, rfl, by rw [hres], ht⟩) (fun _ h => by cases h) d_MO_placeOf_37
      · exact absurd (nI_le (show rc ≤ i by omega) (by omega)) c_7
    | succ k ih =>
      intro i ls hi hb9 hl
      have b_15 : vp_in (nI i) 40 := vp_in_nI (by omega) (by omega)
      have b_25 := b_15
      refine lv_iload_n hx hb d_MO_placeOf_2 rfl (lv_at hl 0 rfl) ?_
      refine lv_aload_n hx hb d_MO_placeOf_3 rfl (lv_at hl 1 rfl) ?_
      refine va_get (D := (dC, dI)) (ci := 4) (v := .int (nI rc)) (C := R_MO) (T := T_MO) (N := 16) hx hb htB i_MO hown hK hP 0 rfl rfl 3 (by decide) (htB _ lf_MO_55) (fun _ h9 => h9) rfl d_MO_placeOf_4 ?_
      refine lv_icmp_ge (tgt := 36) hx hb d_MO_placeOf_7 (by decide) (fun c_7 => ?_) (fun c_7 => ?_)
      · exact absurd c_7 (nI_ge (show i < rc by omega) (by omega))
      · refine lv_aload_n hx hb d_MO_placeOf_10 rfl (lv_at hl 1 rfl) ?_
        refine va_get (D := (dC, dI)) (ci := 4) (v := .ref np) (C := R_MO) (T := T_MO) (N := 16) hx hb htB i_MO hown hK hP 0 rfl rfl 4 (by decide) (htB _ lf_MO_7) (fun _ h9 => h9) rfl d_MO_placeOf_11 ?_
        refine lv_iload_n hx hb d_MO_placeOf_14 rfl (lv_at hl 0 rfl) ?_
        refine va_iald hx hb hK hP 1 0 rfl rfl b_15 d_MO_placeOf_15 ?_
        rw [nI_clamp (n := i) (by omega)]
        refine lv_iload_n hx hb d_MO_placeOf_16 rfl (lv_at hl 2 rfl) ?_
        refine lv_icmp_ne (tgt := 30) hx hb d_MO_placeOf_17 (by decide) (fun c_17 => ?_) (fun c_17 => ?_)
        · have hno : ¬ (rl i = z ∧ (rp i).toInt64 = y.toInt64) := fun h => c_17 (zi_64 h.2)
          refine lv_iinc (v := (nI i) + 1) (lv' := [(3, .int ((nI i) + 1)), (0, .ref hM), (1, .int y), (2, .int z)]) hx hb d_MO_placeOf_30 hl (k := 0) rfl rfl (by decide) rfl (fun ls hl => ?_)
          refine lv_goto (tgt := 2) hx hb d_MO_placeOf_33 (by decide) ?_
          rw [nI_1] at hl
          refine ih (i + 1) ls (by omega) (fun j hj => ?_) (lv_sub hl [0, 1, 2, 3] rfl)
          by_cases e : j = i
          · subst e; rw [decide_eq_false_iff_not]; exact hno
          · exact hb9 j (by omega)
        · refine lv_aload_n hx hb d_MO_placeOf_20 rfl (lv_at hl 1 rfl) ?_
          refine va_get (D := (dC, dI)) (ci := 4) (v := .ref nd) (C := R_MO) (T := T_MO) (N := 16) hx hb htB i_MO hown hK hP 0 rfl rfl 5 (by decide) (htB _ lf_MO_13) (fun _ h9 => h9) rfl d_MO_placeOf_21 ?_
          refine lv_iload_n hx hb d_MO_placeOf_24 rfl (lv_at hl 0 rfl) ?_
          refine va_iald hx hb hK hP 2 1 rfl rfl b_25 d_MO_placeOf_25 ?_
          rw [nI_clamp (n := i) (by omega)]
          refine lv_iload_n hx hb d_MO_placeOf_26 rfl (lv_at hl 3 rfl) ?_
          refine lv_icmp_eq (tgt := 36) hx hb d_MO_placeOf_27 (by decide) (fun c_27 => ?_) (fun c_27 => ?_)
          · have hres : zr_at rc rp rl y z = i := zf_eq (show i < rc by omega) (by rw [decide_eq_true_eq]; exact ⟨c_27, by rw [c_17]⟩) hb9
            refine lv_iload_n hx hb d_MO_placeOf_36 rfl (lv_at hl 0 rfl) ?_
            exact W.iret (v := nI i) hx hb hr (fun t ht hW => ⟨_, rfl, by rw [hres], ht⟩) (fun _ h => by cases h) d_MO_placeOf_37
          · have hno : ¬ (rl i = z ∧ (rp i).toInt64 = y.toInt64) := fun h => c_27 h.1
            refine lv_iinc (v := (nI i) + 1) (lv' := [(3, .int ((nI i) + 1)), (0, .ref hM), (1, .int y), (2, .int z)]) hx hb d_MO_placeOf_30 hl (k := 0) rfl rfl (by decide) rfl (fun ls hl => ?_)
            refine lv_goto (tgt := 2) hx hb d_MO_placeOf_33 (by decide) ?_
            rw [nI_1] at hl
            refine ih (i + 1) ls (by omega) (fun j hj => ?_) (lv_sub hl [0, 1, 2, 3] rfl)
            by_cases e : j = i
            · subst e; rw [decide_eq_false_iff_not]; exact hno
            · exact hb9 j (by omega)
  exact loop rc 0 ls (by omega) (fun j hj => absurd hj (Nat.not_lt_zero j)) (lv_sub hl [0, 1, 2, 3] rfl)
set_option maxHeartbeats 4000000 in
set_option maxRecDepth 100000 in
theorem c_MO_routed (l : Launch) (dC : Nat → ClassId) (dI : Nat → Nat → Nat) (hM np nd nl nk nu nt nc nf nb : Nat) (cMP cMD cML cMI cMU cMT cMC cMF cMB : ClassId) (co wi ma no : Int32) (rc : Nat) (rp rl ri : Nat → Int32) (hrc : rc ≤ 40) (ac : Nat) (ai us ua : Nat → Int32) (hac : ac ≤ 64) (cc : Nat) (cn : Nat → Int64) (ca cb : Nat → Int32) (hcc : cc ≤ 100) (hrl : ∀ j, j < rc → 1 ≤ (rl j).toInt ∧ (rl j).toInt ≤ 8) (n : Nat) (hn63 : n < 2 ^ 63) (hn1 : 1 ≤ zd_dg 19 n) : Met l y_MO_routed (zw y_MO_routed b_MO_routed 6 (some .int)) ({ frames := 2, cells := 0, slots := 0, locals := 49 }) (zPre [.ref hM, .long (lN n)] (dC, dI) [(hM, .inr (4, [.int co, .int wi, .int ma, .int (nI rc), .ref np, .ref nd, .ref nl, .int (nI ac), .ref nk, .ref nu, .ref nt, .int (nI cc), .ref nc, .ref nf, .ref nb, .int no])), (np, .inl (cMP, 40, .inl rp)), (nd, .inl (cMD, 40, .inl rl)), (nl, .inl (cML, 40, .inl ri)), (nk, .inl (cMI, 64, .inl ai)), (nu, .inl (cMU, 64, .inl us)), (nt, .inl (cMT, 512, .inl ua)), (nc, .inl (cMC, 100, .inr (.inl cn))), (nf, .inl (cMF, 100, .inl ca)), (nb, .inl (cMB, 100, .inl cb))] [(cMP, .int), (cMD, .int), (cML, .int), (cMI, .int), (cMU, .int), (cMT, .int), (cMC, .long), (cMF, .int), (cMB, .boolean)]) (vp_Si (fun r => r = zf_iss rc rp rl ri (zd_dg 19 n) n)) 0 0 (fun _ => False) := by
  refine Met.ofW (cc := b_MO_routed) (maxL := 6) (ret := (some .int)) (by decide) rfl ?_
  intro p e s m args below meth c s₁ B hml hv
  obtain ⟨rfl, hP, hK⟩ := hv
  have hx := B.exec
  have hb := B.bytes
  have hr := B.returns
  have hts := atoms_spec (ws := (zw y_MO_routed b_MO_routed 6 (some .int))) B.pre
  have htB : ∀ w ∈ BG, w.before ([.ref hM, .long (lN n)] : List Value).toArray s = true := fun w h => hts w (List.mem_cons_of_mem _ h)
  have hown : s.vm.findClass R_MO = some m.cls := findClass_of_methodNamed B.named
  have hlocks := B.notSynchronized
  have CF : CallFix p m c b_MO_routed 6 s ([.ref hM, .long (lN n)] : List Value).toArray BG R_MO := ⟨hx, hb, hml, hown, htB⟩
  have hP : va_P (dC, dI) vwCl [(hM, .inr (4, [.int co, .int wi, .int ma, .int (nI rc), .ref np, .ref nd, .ref nl, .int (nI ac), .ref nk, .ref nu, .ref nt, .int (nI cc), .ref nc, .ref nf, .ref nb, .int no])), (np, .inl (cMP, 40, .inl rp)), (nd, .inl (cMD, 40, .inl rl)), (nl, .inl (cML, 40, .inl ri)), (nk, .inl (cMI, 64, .inl ai)), (nu, .inl (cMU, 64, .inl us)), (nt, .inl (cMT, 512, .inl ua)), (nc, .inl (cMC, 100, .inr (.inl cn))), (nf, .inl (cMF, 100, .inl ca)), (nb, .inl (cMB, 100, .inl cb))] s.heap := hP
  have hl := lv_entry [.ref hM, .long (lN n)] (n := 6) (Nat.le_of_ble_eq_true rfl)
  rw [lg_entry_eq]
  generalize (lg_sl [.ref hM, .long (lN n)] ++ List.replicate (6 - (lg_sl [.ref hM, .long (lN n)]).length) Slot.unset).toArray = ls at hl ⊢
  have hl : lv_has ls 6 [(0, .ref hM), (1, .long (lN n))] := hl
  have hdl := zd_dg_le 19 n
  refine lv_iconst (v := (-1)) hx hb d_MO_routed_0 (by decide) ?_
  refine lv_istore_n (lv' := [(3, .int (-1)), (0, .ref hM), (1, .long (lN n))]) hx hb d_MO_routed_1 rfl hl (by decide) rfl (fun ls hl => ?_)
  refine lv_iconst (v := 0) hx hb d_MO_routed_2 (by decide) ?_
  refine lv_istore (lv' := [(4, .int 0), (3, .int (-1)), (0, .ref hM), (1, .long (lN n))]) hx hb d_MO_routed_3 hl (by decide) rfl (fun ls hl => ?_)
  refine lv_iconst (v := 0) hx hb d_MO_routed_5 (by decide) ?_
  refine lv_istore (lv' := [(5, .int 0), (4, .int 0), (3, .int (-1)), (0, .ref hM), (1, .long (lN n))]) hx hb d_MO_routed_6 hl (by decide) rfl (fun ls hl => ?_)
  have loop : ∀ (k i : Nat) (ls : Array Slot), i + k = rc → lv_has ls 6 [(5, .int (nI i)), (4, .int (nI (zf_len i rp rl (zd_dg 19 n) n))), (3, .int (zf_iss i rp rl ri (zd_dg 19 n) n)), (0, .ref hM), (1, .long (lN n))] → W p l e (headSpec (zw y_MO_routed b_MO_routed 6 (some .int)) ({ frames := 2, cells := 0, slots := 0, locals := 49 })).room s m ([.ref hM, .long (lN n)] : List Value).toArray below meth c s.heap [] 0 0 (MQ below (vp_Si (fun r => r = zf_iss rc rp rl ri (zd_dg 19 n) n)) ([.ref hM, .long (lN n)] : List Value).toArray s 0 0 (fun _ => False)) (F0 m 8 ls []) := by
    intro k
    induction k with
    | zero =>
      intro i ls hi hl
      refine lv_iload hx hb d_MO_routed_8 (lv_at hl 0 rfl) ?_
      refine lv_aload_n hx hb d_MO_routed_10 rfl (lv_at hl 3 rfl) ?_
      refine va_get (D := (dC, dI)) (ci := 4) (v := .int (nI rc)) (C := R_MO) (T := T_MO) (N := 16) hx hb htB i_MO hown hK hP 0 rfl rfl 3 (by decide) (htB _ lf_MO_55) (fun _ h9 => h9) rfl d_MO_routed_11 ?_
      refine lv_icmp_ge (tgt := 89) hx hb d_MO_routed_14 (by decide) (fun c_14 => ?_) (fun c_14 => ?_)
      · refine lv_iload_n hx hb d_MO_routed_89 rfl (lv_at hl 2 rfl) ?_
        exact W.iret (v := zf_iss i rp rl ri (zd_dg 19 n) n) hx hb hr (fun t ht hW => ⟨_, rfl, by rw [show i = rc by omega], ht⟩) (fun _ h => by cases h) d_MO_routed_90
      · exact absurd (nI_le (show rc ≤ i by omega) (by omega)) c_14
    | succ k ih =>
      intro i ls hi hl
      have b_23 : vp_in (nI i) 40 := vp_in_nI (by omega) (by omega)
      have b_35 := b_23
      have b_50 := b_23
      have b_60 := b_23
      have b_72 := b_23
      have b_81 := b_23
      have hlb := hrl i (by omega)
      obtain ⟨eL, hL9⟩ := zi_of (x := rl i) (n := 9) ⟨by omega, by omega⟩
      have hL1 : 1 ≤ (rl i).toInt.toNat := by omega
      have hL8 : (rl i).toInt.toNat ≤ 8 := by omega
      generalize (rl i).toInt.toNat = L at eL hL9 hL1 hL8
      have hst := zf_step (rp := rp) (ri := ri) hL1 hL8 eL (zd_dg 19 n) n
      have hll := zf_len_le i rp rl (zd_dg 19 n) n
      refine lv_iload hx hb d_MO_routed_8 (lv_at hl 0 rfl) ?_
      refine lv_aload_n hx hb d_MO_routed_10 rfl (lv_at hl 3 rfl) ?_
      refine va_get (D := (dC, dI)) (ci := 4) (v := .int (nI rc)) (C := R_MO) (T := T_MO) (N := 16) hx hb htB i_MO hown hK hP 0 rfl rfl 3 (by decide) (htB _ lf_MO_55) (fun _ h9 => h9) rfl d_MO_routed_11 ?_
      refine lv_icmp_ge (tgt := 89) hx hb d_MO_routed_14 (by decide) (fun c_14 => ?_) (fun c_14 => ?_)
      · exact absurd c_14 (nI_ge (show i < rc by omega) (by omega))
      · refine lv_aload_n hx hb d_MO_routed_17 rfl (lv_at hl 3 rfl) ?_
        refine va_get (D := (dC, dI)) (ci := 4) (v := .ref nd) (C := R_MO) (T := T_MO) (N := 16) hx hb htB i_MO hown hK hP 0 rfl rfl 5 (by decide) (htB _ lf_MO_13) (fun _ h9 => h9) rfl d_MO_routed_18 ?_
        refine lv_iload hx hb d_MO_routed_21 (lv_at hl 0 rfl) ?_
        refine va_iald hx hb hK hP 2 1 rfl rfl b_23 d_MO_routed_23 ?_
        rw [nI_clamp (n := i) (by omega)]
        refine lv_iload hx hb d_MO_routed_24 (lv_at hl 1 rfl) ?_
        refine lv_icmp_le (tgt := 83) hx hb d_MO_routed_26 (by decide) (fun c_26 => ?_) (fun c_26 => ?_)
        · have hno : ¬ (L ≤ zd_dg 19 n ∧ (rp i).toInt64 = lN (zd_sh (zd_dg 19 n - L) n) ∧ zf_len i rp rl (zd_dg 19 n) n < L) := fun h => by rw [eL] at c_26; exact absurd c_26 (nI_ge h.2.2 (by omega))
          refine lv_iinc (v := (nI i) + 1) (lv' := [(5, .int ((nI i) + 1)), (4, .int (nI (zf_len i rp rl (zd_dg 19 n) n))), (3, .int (zf_iss i rp rl ri (zd_dg 19 n) n)), (0, .ref hM), (1, .long (lN n))]) hx hb d_MO_routed_83 hl (k := 0) rfl rfl (by decide) rfl (fun ls hl => ?_)
          refine lv_goto (tgt := 8) hx hb d_MO_routed_86 (by decide) ?_
          rw [nI_1] at hl
          refine ih (i + 1) ls (by omega) ?_
          rw [(hst.2 hno).1, (hst.2 hno).2]
          exact lv_sub hl [0, 1, 2, 3, 4] rfl
        · have hlt : zf_len i rp rl (zd_dg 19 n) n < L := Nat.not_le.mp (fun h => c_26 (by rw [eL]; exact nI_le h (by omega)))
          refine lv_aload_n hx hb d_MO_routed_29 rfl (lv_at hl 3 rfl) ?_
          refine va_get (D := (dC, dI)) (ci := 4) (v := .ref nd) (C := R_MO) (T := T_MO) (N := 16) hx hb htB i_MO hown hK hP 0 rfl rfl 5 (by decide) (htB _ lf_MO_13) (fun _ h9 => h9) rfl d_MO_routed_30 ?_
          refine lv_iload hx hb d_MO_routed_33 (lv_at hl 0 rfl) ?_
          refine va_iald hx hb hK hP 2 1 rfl rfl b_35 d_MO_routed_35 ?_
          rw [nI_clamp (n := i) (by omega)]
          refine lv_lload_n hx hb d_MO_routed_36 rfl (lv_at hl 4 rfl) ?_
          refine vp_callSi (va_Run.run (zr_S (n := 1) (As := [.long (lN n)]) (rest := [.int (rl i)]) CF (c_MO_width l dC dI (lN n)) mc_MO_width lk_MO_51 mt_MO_width ni_MO rfl rfl (by decide +kernel) ⟨Nat.le_of_ble_eq_true rfl, Nat.le_of_ble_eq_true rfl⟩ (hP.sub (ws' := []) [] rfl) (hK.sub (tys' := []) [] rfl) rfl rfl hl.1 rfl (lv_room (Nat.le_of_ble_eq_true rfl)) d_MO_routed_37 ⟨Nat.zero_le _, Nat.zero_le _⟩)) (fun r_37 h_37 => ?_)
          rw [zd_lN hn63, zd_wdp hn1] at h_37
          refine lv_icmp_gt (tgt := 83) hx hb d_MO_routed_40 (by decide) (fun c_40 => ?_) (fun c_40 => ?_)
          · have hno : ¬ (L ≤ zd_dg 19 n ∧ (rp i).toInt64 = lN (zd_sh (zd_dg 19 n - L) n) ∧ zf_len i rp rl (zd_dg 19 n) n < L) := fun h => by rw [eL, h_37] at c_40; exact absurd c_40 (nI_nlt h.1 (by omega))
            refine lv_iinc (v := (nI i) + 1) (lv' := [(5, .int ((nI i) + 1)), (4, .int (nI (zf_len i rp rl (zd_dg 19 n) n))), (3, .int (zf_iss i rp rl ri (zd_dg 19 n) n)), (0, .ref hM), (1, .long (lN n))]) hx hb d_MO_routed_83 hl (k := 0) rfl rfl (by decide) rfl (fun ls hl => ?_)
            refine lv_goto (tgt := 8) hx hb d_MO_routed_86 (by decide) ?_
            rw [nI_1] at hl
            refine ih (i + 1) ls (by omega) ?_
            rw [(hst.2 hno).1, (hst.2 hno).2]
            exact lv_sub hl [0, 1, 2, 3, 4] rfl
          · have hLD : L ≤ zd_dg 19 n := Nat.not_lt.mp (fun h => c_40 (by rw [eL, h_37]; exact nI_lt h (by omega)))
            refine lv_lload_n hx hb d_MO_routed_43 rfl (lv_at hl 4 rfl) ?_
            refine lv_aload_n hx hb d_MO_routed_44 rfl (lv_at hl 3 rfl) ?_
            refine va_get (D := (dC, dI)) (ci := 4) (v := .ref nd) (C := R_MO) (T := T_MO) (N := 16) hx hb htB i_MO hown hK hP 0 rfl rfl 5 (by decide) (htB _ lf_MO_13) (fun _ h9 => h9) rfl d_MO_routed_45 ?_
            refine lv_iload hx hb d_MO_routed_48 (lv_at hl 0 rfl) ?_
            refine va_iald hx hb hK hP 2 1 rfl rfl b_50 d_MO_routed_50 ?_
            rw [nI_clamp (n := i) (by omega)]
            rw [show (rl i : Int32) = nI L from eL]
            refine vp_callSl (va_Run.run (zr_S (n := 2) (As := [.long (lN n), .int (nI L)]) (rest := []) CF (c_MO_front l dC dI n L hn63 hn1 hLD) mc_MO_front lk_MO_70 mt_MO_front ni_MO rfl rfl (by decide +kernel) ⟨Nat.le_of_ble_eq_true rfl, Nat.le_of_ble_eq_true rfl⟩ (hP.sub (ws' := []) [] rfl) (hK.sub (tys' := []) [] rfl) rfl rfl hl.1 rfl (lv_room (Nat.le_of_ble_eq_true rfl)) d_MO_routed_51 ⟨Nat.zero_le _, Nat.zero_le _⟩)) (fun r_51 h_51 => ?_)
            subst h_51
            refine lv_aload_n hx hb d_MO_routed_54 rfl (lv_at hl 3 rfl) ?_
            refine va_get (D := (dC, dI)) (ci := 4) (v := .ref np) (C := R_MO) (T := T_MO) (N := 16) hx hb htB i_MO hown hK hP 0 rfl rfl 4 (by decide) (htB _ lf_MO_7) (fun _ h9 => h9) rfl d_MO_routed_55 ?_
            refine lv_iload hx hb d_MO_routed_58 (lv_at hl 0 rfl) ?_
            refine va_iald hx hb hK hP 1 0 rfl rfl b_60 d_MO_routed_60 ?_
            rw [nI_clamp (n := i) (by omega)]
            refine lv_i2l (v := (rp i).toInt64) hx hb d_MO_routed_61 rfl ?_
            refine W.lcmp hx hb d_MO_routed_62 ?_
            refine lv_if_ne (tgt := 83) hx hb d_MO_routed_63 (by decide) (fun c_63 => ?_) (fun c_63 => ?_)
            · have hno : ¬ (L ≤ zd_dg 19 n ∧ (rp i).toInt64 = lN (zd_sh (zd_dg 19 n - L) n) ∧ zf_len i rp rl (zd_dg 19 n) n < L) := fun h => c_63 ((lg_cmp_eq _ _).mpr h.2.1.symm)
              refine lv_iinc (v := (nI i) + 1) (lv' := [(5, .int ((nI i) + 1)), (4, .int (nI (zf_len i rp rl (zd_dg 19 n) n))), (3, .int (zf_iss i rp rl ri (zd_dg 19 n) n)), (0, .ref hM), (1, .long (lN n))]) hx hb d_MO_routed_83 hl (k := 0) rfl rfl (by decide) rfl (fun ls hl => ?_)
              refine lv_goto (tgt := 8) hx hb d_MO_routed_86 (by decide) ?_
              rw [nI_1] at hl
              refine ih (i + 1) ls (by omega) ?_
              rw [(hst.2 hno).1, (hst.2 hno).2]
              exact lv_sub hl [0, 1, 2, 3, 4] rfl
            · have hyes : L ≤ zd_dg 19 n ∧ (rp i).toInt64 = lN (zd_sh (zd_dg 19 n - L) n) ∧ zf_len i rp rl (zd_dg 19 n) n < L := ⟨hLD, ((lg_cmp_eq _ _).mp c_63).symm, hlt⟩
              refine lv_aload_n hx hb d_MO_routed_66 rfl (lv_at hl 3 rfl) ?_
              refine va_get (D := (dC, dI)) (ci := 4) (v := .ref nd) (C := R_MO) (T := T_MO) (N := 16) hx hb htB i_MO hown hK hP 0 rfl rfl 5 (by decide) (htB _ lf_MO_13) (fun _ h9 => h9) rfl d_MO_routed_67 ?_
              refine lv_iload hx hb d_MO_routed_70 (lv_at hl 0 rfl) ?_
              refine va_iald hx hb hK hP 2 1 rfl rfl b_72 d_MO_routed_72 ?_
              rw [nI_clamp (n := i) (by omega)]
              refine lv_istore (lv' := [(4, .int (rl i)), (5, .int (nI i)), (3, .int (zf_iss i rp rl ri (zd_dg 19 n) n)), (0, .ref hM), (1, .long (lN n))]) hx hb d_MO_routed_73 hl (by decide) rfl (fun ls hl => ?_)
              refine lv_aload_n hx hb d_MO_routed_75 rfl (lv_at hl 3 rfl) ?_
              refine va_get (D := (dC, dI)) (ci := 4) (v := .ref nl) (C := R_MO) (T := T_MO) (N := 16) hx hb htB i_MO hown hK hP 0 rfl rfl 6 (by decide) (htB _ lf_MO_16) (fun _ h9 => h9) rfl d_MO_routed_76 ?_
              refine lv_iload hx hb d_MO_routed_79 (lv_at hl 1 rfl) ?_
              refine va_iald hx hb hK hP 3 2 rfl rfl b_81 d_MO_routed_81 ?_
              rw [nI_clamp (n := i) (by omega)]
              refine lv_istore_n (lv' := [(3, .int (ri i)), (4, .int (rl i)), (5, .int (nI i)), (0, .ref hM), (1, .long (lN n))]) hx hb d_MO_routed_82 rfl hl (by decide) rfl (fun ls hl => ?_)
              refine lv_iinc (v := (nI i) + 1) (lv' := [(5, .int ((nI i) + 1)), (3, .int (ri i)), (4, .int (rl i)), (0, .ref hM), (1, .long (lN n))]) hx hb d_MO_routed_83 hl (k := 2) rfl rfl (by decide) rfl (fun ls hl => ?_)
              refine lv_goto (tgt := 8) hx hb d_MO_routed_86 (by decide) ?_
              rw [nI_1, eL] at hl
              refine ih (i + 1) ls (by omega) ?_
              rw [(hst.1 hyes).1, (hst.1 hyes).2]
              exact lv_sub hl [0, 2, 1, 3, 4] rfl
  refine loop rc 0 ls (by omega) ?_
  rw [zf_iss0, zf_len0]
  exact lv_sub hl [0, 1, 2, 3, 4] rfl
theorem x_MO_routed (l : Launch) (dC : Nat → ClassId) (dI : Nat → Nat → Nat) (hM np nd nl nk nu nt nc nf nb : Nat) (cMP cMD cML cMI cMU cMT cMC cMF cMB : ClassId) (co wi ma no : Int32) (rc : Nat) (rp rl ri : Nat → Int32) (hrc : rc ≤ 40) (ac : Nat) (ai us ua : Nat → Int32) (hac : ac ≤ 64) (cc : Nat) (cn : Nat → Int64) (ca cb : Nat → Int32) (hcc : cc ≤ 100) (hrl : ∀ j, j < rc → 1 ≤ (rl j).toInt ∧ (rl j).toInt ≤ 8) (x : Int64) (hx0 : 1 ≤ zd_dg 19 (zd_N x)) : Met l y_MO_routed (zw y_MO_routed b_MO_routed 6 (some .int)) ({ frames := 2, cells := 0, slots := 0, locals := 49 }) (zPre [.ref hM, .long x] (dC, dI) [(hM, .inr (4, [.int co, .int wi, .int ma, .int (nI rc), .ref np, .ref nd, .ref nl, .int (nI ac), .ref nk, .ref nu, .ref nt, .int (nI cc), .ref nc, .ref nf, .ref nb, .int no])), (np, .inl (cMP, 40, .inl rp)), (nd, .inl (cMD, 40, .inl rl)), (nl, .inl (cML, 40, .inl ri)), (nk, .inl (cMI, 64, .inl ai)), (nu, .inl (cMU, 64, .inl us)), (nt, .inl (cMT, 512, .inl ua)), (nc, .inl (cMC, 100, .inr (.inl cn))), (nf, .inl (cMF, 100, .inl ca)), (nb, .inl (cMB, 100, .inl cb))] [(cMP, .int), (cMD, .int), (cML, .int), (cMI, .int), (cMU, .int), (cMT, .int), (cMC, .long), (cMF, .int), (cMB, .boolean)]) (vp_Si (fun r => r = zf_iss rc rp rl ri (zd_dg 19 (zd_N x)) (zd_N x))) 0 0 (fun _ => False) := by
  have h9 := c_MO_routed l dC dI hM np nd nl nk nu nt nc nf nb cMP cMD cML cMI cMU cMT cMC cMF cMB co wi ma no rc rp rl ri hrc ac ai us ua hac cc cn ca cb hcc hrl (zd_N x) (zl_of (Nat.le_refl 1) ⟨hx0, zd_dg_le 19 (zd_N x)⟩).2.1 hx0
  rwa [← (zl_of (Nat.le_refl 1) ⟨hx0, zd_dg_le 19 (zd_N x)⟩).1] at h9
set_option maxHeartbeats 4000000 in
set_option maxRecDepth 100000 in
theorem c_MO_cardOf (l : Launch) (dC : Nat → ClassId) (dI : Nat → Nat → Nat) (hM np nd nl nk nu nt nc nf nb : Nat) (cMP cMD cML cMI cMU cMT cMC cMF cMB : ClassId) (co wi ma no : Int32) (rc : Nat) (rp rl ri : Nat → Int32) (hrc : rc ≤ 40) (ac : Nat) (ai us ua : Nat → Int32) (hac : ac ≤ 64) (cc : Nat) (cn : Nat → Int64) (ca cb : Nat → Int32) (hcc : cc ≤ 100) (hdist : ∀ i j, i < cc → j < cc → cn i = cn j → i = j) (x : Int64) : Met l y_MO_cardOf (zw y_MO_cardOf b_MO_cardOf 5 (some .int)) ({ frames := 0, cells := 0, slots := 0, locals := 0 }) (zPre [.ref hM, .long x] (dC, dI) [(hM, .inr (4, [.int co, .int wi, .int ma, .int (nI rc), .ref np, .ref nd, .ref nl, .int (nI ac), .ref nk, .ref nu, .ref nt, .int (nI cc), .ref nc, .ref nf, .ref nb, .int no])), (np, .inl (cMP, 40, .inl rp)), (nd, .inl (cMD, 40, .inl rl)), (nl, .inl (cML, 40, .inl ri)), (nk, .inl (cMI, 64, .inl ai)), (nu, .inl (cMU, 64, .inl us)), (nt, .inl (cMT, 512, .inl ua)), (nc, .inl (cMC, 100, .inr (.inl cn))), (nf, .inl (cMF, 100, .inl ca)), (nb, .inl (cMB, 100, .inl cb))] [(cMP, .int), (cMD, .int), (cML, .int), (cMI, .int), (cMU, .int), (cMT, .int), (cMC, .long), (cMF, .int), (cMB, .boolean)]) (vp_Si (fun r => r = zf_r (fun j => decide (cn j = x)) cc)) 0 0 (fun _ => False) := by
  refine Met.ofW (cc := b_MO_cardOf) (maxL := 5) (ret := (some .int)) (by decide) rfl ?_
  intro p e s m args below meth c s₁ B hml hv
  obtain ⟨rfl, hP, hK⟩ := hv
  have hx := B.exec
  have hb := B.bytes
  have hr := B.returns
  have hts := atoms_spec (ws := (zw y_MO_cardOf b_MO_cardOf 5 (some .int))) B.pre
  have htB : ∀ w ∈ BG, w.before ([.ref hM, .long x] : List Value).toArray s = true := fun w h => hts w (List.mem_cons_of_mem _ h)
  have hown : s.vm.findClass R_MO = some m.cls := findClass_of_methodNamed B.named
  have hlocks := B.notSynchronized
  have CF : CallFix p m c b_MO_cardOf 5 s ([.ref hM, .long x] : List Value).toArray BG R_MO := ⟨hx, hb, hml, hown, htB⟩
  have hP : va_P (dC, dI) vwCl [(hM, .inr (4, [.int co, .int wi, .int ma, .int (nI rc), .ref np, .ref nd, .ref nl, .int (nI ac), .ref nk, .ref nu, .ref nt, .int (nI cc), .ref nc, .ref nf, .ref nb, .int no])), (np, .inl (cMP, 40, .inl rp)), (nd, .inl (cMD, 40, .inl rl)), (nl, .inl (cML, 40, .inl ri)), (nk, .inl (cMI, 64, .inl ai)), (nu, .inl (cMU, 64, .inl us)), (nt, .inl (cMT, 512, .inl ua)), (nc, .inl (cMC, 100, .inr (.inl cn))), (nf, .inl (cMF, 100, .inl ca)), (nb, .inl (cMB, 100, .inl cb))] s.heap := hP
  have hl := lv_entry [.ref hM, .long x] (n := 5) (Nat.le_of_ble_eq_true rfl)
  rw [lg_entry_eq]
  generalize (lg_sl [.ref hM, .long x] ++ List.replicate (5 - (lg_sl [.ref hM, .long x]).length) Slot.unset).toArray = ls at hl ⊢
  have hl : lv_has ls 5 [(0, .ref hM), (1, .long x)] := hl
  refine lv_iconst (v := (-1)) hx hb d_MO_cardOf_0 (by decide) ?_
  refine lv_istore_n (lv' := [(3, .int (-1)), (0, .ref hM), (1, .long x)]) hx hb d_MO_cardOf_1 rfl hl (by decide) rfl (fun ls hl => ?_)
  refine lv_iconst (v := 0) hx hb d_MO_cardOf_2 (by decide) ?_
  refine lv_istore (lv' := [(4, .int 0), (3, .int (-1)), (0, .ref hM), (1, .long x)]) hx hb d_MO_cardOf_3 hl (by decide) rfl (fun ls hl => ?_)
  have loop : ∀ (k i : Nat) (ls : Array Slot), i + k = cc → lv_has ls 5 [(4, .int (nI i)), (3, .int (zf_r (fun j => decide (cn j = x)) i)), (0, .ref hM), (1, .long x)] → W p l e (headSpec (zw y_MO_cardOf b_MO_cardOf 5 (some .int)) ({ frames := 0, cells := 0, slots := 0, locals := 0 })).room s m ([.ref hM, .long x] : List Value).toArray below meth c s.heap [] 0 0 (MQ below (vp_Si (fun r => r = zf_r (fun j => decide (cn j = x)) cc)) ([.ref hM, .long x] : List Value).toArray s 0 0 (fun _ => False)) (F0 m 5 ls []) := by
    intro k
    induction k with
    | zero =>
      intro i ls hi hl
      refine lv_iload hx hb d_MO_cardOf_5 (lv_at hl 0 rfl) ?_
      refine lv_aload_n hx hb d_MO_cardOf_7 rfl (lv_at hl 2 rfl) ?_
      refine va_get (D := (dC, dI)) (ci := 4) (v := .int (nI cc)) (C := R_MO) (T := T_MO) (N := 16) hx hb htB i_MO hown hK hP 0 rfl rfl 11 (by decide) (htB _ lf_MO_88) (fun _ h9 => h9) rfl d_MO_cardOf_8 ?_
      refine lv_icmp_ge (tgt := 39) hx hb d_MO_cardOf_11 (by decide) (fun c_11 => ?_) (fun c_11 => ?_)
      · refine lv_iload_n hx hb d_MO_cardOf_39 rfl (lv_at hl 1 rfl) ?_
        exact W.iret (v := zf_r (fun j => decide (cn j = x)) i) hx hb hr (fun t ht hW => ⟨_, rfl, by rw [show i = cc by omega], ht⟩) (fun _ h => by cases h) d_MO_cardOf_40
      · exact absurd (nI_le (show cc ≤ i by omega) (by omega)) c_11
    | succ k ih =>
      intro i ls hi hl
      have b_20 : vp_in (nI i) 100 := vp_in_nI (by omega) (by omega)
      refine lv_iload hx hb d_MO_cardOf_5 (lv_at hl 0 rfl) ?_
      refine lv_aload_n hx hb d_MO_cardOf_7 rfl (lv_at hl 2 rfl) ?_
      refine va_get (D := (dC, dI)) (ci := 4) (v := .int (nI cc)) (C := R_MO) (T := T_MO) (N := 16) hx hb htB i_MO hown hK hP 0 rfl rfl 11 (by decide) (htB _ lf_MO_88) (fun _ h9 => h9) rfl d_MO_cardOf_8 ?_
      refine lv_icmp_ge (tgt := 39) hx hb d_MO_cardOf_11 (by decide) (fun c_11 => ?_) (fun c_11 => ?_)
      · exact absurd c_11 (nI_ge (show i < cc by omega) (by omega))
      · refine lv_aload_n hx hb d_MO_cardOf_14 rfl (lv_at hl 2 rfl) ?_
        refine va_get (D := (dC, dI)) (ci := 4) (v := .ref nc) (C := R_MO) (T := T_MO) (N := 16) hx hb htB i_MO hown hK hP 0 rfl rfl 12 (by decide) (htB _ lf_MO_28) (fun _ h9 => h9) rfl d_MO_cardOf_15 ?_
        refine lv_iload hx hb d_MO_cardOf_18 (lv_at hl 0 rfl) ?_
        refine va_lald hx hb hK hP 7 6 rfl rfl b_20 d_MO_cardOf_20 ?_
        rw [nI_clamp (n := i) (by omega)]
        refine lv_lload_n hx hb d_MO_cardOf_21 rfl (lv_at hl 3 rfl) ?_
        refine W.lcmp hx hb d_MO_cardOf_22 ?_
        refine lv_if_ne (tgt := 31) hx hb d_MO_cardOf_23 (by decide) (fun c_23 => ?_) (fun c_23 => ?_)
        · have hst : zf_r (fun j => decide (cn j = x)) (i + 1) = zf_r (fun j => decide (cn j = x)) i := zf_rk (by rw [decide_eq_false_iff_not]; exact fun h => c_23 ((lg_cmp_eq _ _).mpr h))
          refine lv_iload_n hx hb d_MO_cardOf_31 rfl (lv_at hl 1 rfl) ?_
          refine lv_istore_n (lv' := [(3, .int (zf_r (fun j => decide (cn j = x)) i)), (4, .int (nI i)), (0, .ref hM), (1, .long x)]) hx hb d_MO_cardOf_32 rfl hl (by decide) rfl (fun ls hl => ?_)
          refine lv_iinc (v := (nI i) + 1) (lv' := [(4, .int ((nI i) + 1)), (3, .int (zf_r (fun j => decide (cn j = x)) i)), (0, .ref hM), (1, .long x)]) hx hb d_MO_cardOf_33 hl (k := 1) rfl rfl (by decide) rfl (fun ls hl => ?_)
          refine lv_goto (tgt := 5) hx hb d_MO_cardOf_36 (by decide) ?_
          rw [nI_1] at hl
          refine ih (i + 1) ls (by omega) ?_
          rw [hst]
          exact lv_sub hl [0, 1, 2, 3] rfl
        · have hst : zf_r (fun j => decide (cn j = x)) (i + 1) = nI i := zf_rs (Nat.lt_succ_self i) (by rw [decide_eq_true_eq]; exact (lg_cmp_eq _ _).mp c_23) (fun j hj => by rw [decide_eq_false_iff_not]; exact fun h => absurd (hdist j i (by omega) (by omega) (h.trans ((lg_cmp_eq _ _).mp c_23).symm)) (by omega))
          refine lv_iload hx hb d_MO_cardOf_26 (lv_at hl 0 rfl) ?_
          refine lv_goto (tgt := 32) hx hb d_MO_cardOf_28 (by decide) ?_
          refine lv_istore_n (lv' := [(3, .int (nI i)), (4, .int (nI i)), (0, .ref hM), (1, .long x)]) hx hb d_MO_cardOf_32 rfl hl (by decide) rfl (fun ls hl => ?_)
          refine lv_iinc (v := (nI i) + 1) (lv' := [(4, .int ((nI i) + 1)), (3, .int (nI i)), (0, .ref hM), (1, .long x)]) hx hb d_MO_cardOf_33 hl (k := 1) rfl rfl (by decide) rfl (fun ls hl => ?_)
          refine lv_goto (tgt := 5) hx hb d_MO_cardOf_36 (by decide) ?_
          rw [nI_1] at hl
          refine ih (i + 1) ls (by omega) ?_
          rw [hst]
          exact lv_sub hl [0, 1, 2, 3] rfl
  exact loop cc 0 ls (by omega) (lv_sub hl [0, 1, 2, 3] rfl)
set_option maxHeartbeats 4000000 in
set_option maxRecDepth 100000 in
theorem c_MO_since (l : Launch) (dC : Nat → ClassId) (dI : Nat → Nat → Nat) (hM np nd nl nk nu nt nc nf nb : Nat) (cMP cMD cML cMI cMU cMT cMC cMF cMB : ClassId) (co wi ma no : Int32) (rc : Nat) (rp rl ri : Nat → Int32) (hrc : rc ≤ 40) (ac : Nat) (ai us ua : Nat → Int32) (hac : ac ≤ 64) (cc : Nat) (cn : Nat → Int64) (ca cb : Nat → Int32) (hcc : cc ≤ 100) (z : Int32) (hz : 0 ≤ z.toInt ∧ z.toInt < 64) (hus : 0 ≤ (us z.toInt.toNat).toInt ∧ (us z.toInt.toNat).toInt < 9) (T : Int32) : Met l y_MO_since (zw y_MO_since b_MO_since 5 (some .int)) ({ frames := 0, cells := 0, slots := 0, locals := 0 }) (zPre [.ref hM, .int z, .int T] (dC, dI) [(hM, .inr (4, [.int co, .int wi, .int ma, .int (nI rc), .ref np, .ref nd, .ref nl, .int (nI ac), .ref nk, .ref nu, .ref nt, .int (nI cc), .ref nc, .ref nf, .ref nb, .int no])), (np, .inl (cMP, 40, .inl rp)), (nd, .inl (cMD, 40, .inl rl)), (nl, .inl (cML, 40, .inl ri)), (nk, .inl (cMI, 64, .inl ai)), (nu, .inl (cMU, 64, .inl us)), (nt, .inl (cMT, 512, .inl ua)), (nc, .inl (cMC, 100, .inr (.inl cn))), (nf, .inl (cMF, 100, .inl ca)), (nb, .inl (cMB, 100, .inl cb))] [(cMP, .int), (cMD, .int), (cML, .int), (cMI, .int), (cMU, .int), (cMT, .int), (cMC, .long), (cMF, .int), (cMB, .boolean)]) (vp_Si (fun r => r = nI (zu_cnt ua (T - wi) (8 * z.toInt.toNat) (us z.toInt.toNat).toInt.toNat))) 0 0 (fun _ => False) := by
  refine Met.ofW (cc := b_MO_since) (maxL := 5) (ret := (some .int)) (by decide) rfl ?_
  intro p e s m args below meth c s₁ B hml hv
  obtain ⟨rfl, hP, hK⟩ := hv
  have hx := B.exec
  have hb := B.bytes
  have hr := B.returns
  have hts := atoms_spec (ws := (zw y_MO_since b_MO_since 5 (some .int))) B.pre
  have htB : ∀ w ∈ BG, w.before ([.ref hM, .int z, .int T] : List Value).toArray s = true := fun w h => hts w (List.mem_cons_of_mem _ h)
  have hown : s.vm.findClass R_MO = some m.cls := findClass_of_methodNamed B.named
  have hlocks := B.notSynchronized
  have CF : CallFix p m c b_MO_since 5 s ([.ref hM, .int z, .int T] : List Value).toArray BG R_MO := ⟨hx, hb, hml, hown, htB⟩
  have hP : va_P (dC, dI) vwCl [(hM, .inr (4, [.int co, .int wi, .int ma, .int (nI rc), .ref np, .ref nd, .ref nl, .int (nI ac), .ref nk, .ref nu, .ref nt, .int (nI cc), .ref nc, .ref nf, .ref nb, .int no])), (np, .inl (cMP, 40, .inl rp)), (nd, .inl (cMD, 40, .inl rl)), (nl, .inl (cML, 40, .inl ri)), (nk, .inl (cMI, 64, .inl ai)), (nu, .inl (cMU, 64, .inl us)), (nt, .inl (cMT, 512, .inl ua)), (nc, .inl (cMC, 100, .inr (.inl cn))), (nf, .inl (cMF, 100, .inl ca)), (nb, .inl (cMB, 100, .inl cb))] s.heap := hP
  have hl := lv_entry [.ref hM, .int z, .int T] (n := 5) (Nat.le_of_ble_eq_true rfl)
  rw [lg_entry_eq]
  generalize (lg_sl [.ref hM, .int z, .int T] ++ List.replicate (5 - (lg_sl [.ref hM, .int z, .int T]).length) Slot.unset).toArray = ls at hl ⊢
  have hl : lv_has ls 5 [(0, .ref hM), (1, .int z), (2, .int T)] := hl
  obtain ⟨ez, hz64⟩ := zi_of (n := 64) hz
  obtain ⟨eu, hu9⟩ := zi_of (n := 9) hus
  generalize z.toInt.toNat = a at ez hz64 eu hu9 hus ⊢
  subst ez
  generalize (us a).toInt.toNat = u at eu hu9 ⊢
  have b_12 : vp_in (nI a) 64 := vp_in_nI (by omega) (by omega)
  refine lv_iconst (v := 0) hx hb d_MO_since_0 (by decide) ?_
  refine lv_istore_n (lv' := [(3, .int 0), (0, .ref hM), (1, .int (nI a)), (2, .int T)]) hx hb d_MO_since_1 rfl hl (by decide) rfl (fun ls hl => ?_)
  refine lv_iconst (v := 0) hx hb d_MO_since_2 (by decide) ?_
  refine lv_istore (lv' := [(4, .int 0), (3, .int 0), (0, .ref hM), (1, .int (nI a)), (2, .int T)]) hx hb d_MO_since_3 hl (by decide) rfl (fun ls hl => ?_)
  have loop : ∀ (k i : Nat) (ls : Array Slot), i + k = u → lv_has ls 5 [(4, .int (nI i)), (3, .int (nI (zu_cnt ua (T - wi) (8 * a) i))), (0, .ref hM), (1, .int (nI a)), (2, .int T)] → W p l e (headSpec (zw y_MO_since b_MO_since 5 (some .int)) ({ frames := 0, cells := 0, slots := 0, locals := 0 })).room s m ([.ref hM, .int (nI a), .int T] : List Value).toArray below meth c s.heap [] 0 0 (MQ below (vp_Si (fun r => r = nI (zu_cnt ua (T - wi) (8 * a) u))) ([.ref hM, .int (nI a), .int T] : List Value).toArray s 0 0 (fun _ => False)) (F0 m 5 ls []) := by
    intro k
    induction k with
    | zero =>
      intro i ls hi hl
      refine lv_iload hx hb d_MO_since_5 (lv_at hl 0 rfl) ?_
      refine lv_aload_n hx hb d_MO_since_7 rfl (lv_at hl 2 rfl) ?_
      refine va_get (D := (dC, dI)) (ci := 4) (v := .ref nu) (C := R_MO) (T := T_MO) (N := 16) hx hb htB i_MO hown hK hP 0 rfl rfl 9 (by decide) (htB _ lf_MO_22) (fun _ h9 => h9) rfl d_MO_since_8 ?_
      refine lv_iload_n hx hb d_MO_since_11 rfl (lv_at hl 3 rfl) ?_
      refine va_iald hx hb hK hP 5 4 rfl rfl b_12 d_MO_since_12 ?_
      rw [nI_clamp (n := a) (by omega)]
      rw [show (us a : Int32) = nI u from eu]
      refine lv_icmp_ge (tgt := 51) hx hb d_MO_since_13 (by decide) (fun c_13 => ?_) (fun c_13 => ?_)
      · refine lv_iload_n hx hb d_MO_since_51 rfl (lv_at hl 1 rfl) ?_
        exact W.iret (v := nI (zu_cnt ua (T - wi) (8 * a) i)) hx hb hr (fun t ht hW => ⟨_, rfl, by rw [show i = u by omega], ht⟩) (fun _ h => by cases h) d_MO_since_52
      · exact absurd (nI_le (show u ≤ i by omega) (by omega)) c_13
    | succ k ih =>
      intro i ls hi hl
      have b_28 : vp_in (nI (8 * a + i)) 512 := vp_in_nI (by omega) (by omega)
      refine lv_iload hx hb d_MO_since_5 (lv_at hl 0 rfl) ?_
      refine lv_aload_n hx hb d_MO_since_7 rfl (lv_at hl 2 rfl) ?_
      refine va_get (D := (dC, dI)) (ci := 4) (v := .ref nu) (C := R_MO) (T := T_MO) (N := 16) hx hb htB i_MO hown hK hP 0 rfl rfl 9 (by decide) (htB _ lf_MO_22) (fun _ h9 => h9) rfl d_MO_since_8 ?_
      refine lv_iload_n hx hb d_MO_since_11 rfl (lv_at hl 3 rfl) ?_
      refine va_iald hx hb hK hP 5 4 rfl rfl b_12 d_MO_since_12 ?_
      rw [nI_clamp (n := a) (by omega)]
      rw [show (us a : Int32) = nI u from eu]
      refine lv_icmp_ge (tgt := 51) hx hb d_MO_since_13 (by decide) (fun c_13 => ?_) (fun c_13 => ?_)
      · exact absurd c_13 (nI_ge (show i < u by omega) (by omega))
      · refine lv_iload_n hx hb d_MO_since_16 rfl (lv_at hl 1 rfl) ?_
        refine lv_aload_n hx hb d_MO_since_17 rfl (lv_at hl 2 rfl) ?_
        refine va_get (D := (dC, dI)) (ci := 4) (v := .ref nt) (C := R_MO) (T := T_MO) (N := 16) hx hb htB i_MO hown hK hP 0 rfl rfl 10 (by decide) (htB _ lf_MO_25) (fun _ h9 => h9) rfl d_MO_since_18 ?_
        refine lv_bipush (v := 8) hx hb d_MO_since_21 (by decide) ?_
        refine lv_iload_n hx hb d_MO_since_23 rfl (lv_at hl 3 rfl) ?_
        refine lv_imul hx hb d_MO_since_24 ?_
        rw [show (8 * (nI a) : Int32) = nI (8 * a) from pk_mul 8 a]
        refine lv_iload hx hb d_MO_since_25 (lv_at hl 0 rfl) ?_
        refine lv_iadd hx hb d_MO_since_27 ?_
        rw [show ((nI (8 * a)) + (nI i) : Int32) = nI (8 * a + i) from nI_add (8 * a) i]
        refine va_iald hx hb hK hP 6 5 rfl rfl b_28 d_MO_since_28 ?_
        rw [nI_clamp (n := (8 * a + i)) (by omega)]
        refine lv_iload_n hx hb d_MO_since_29 rfl (lv_at hl 4 rfl) ?_
        refine lv_aload_n hx hb d_MO_since_30 rfl (lv_at hl 2 rfl) ?_
        refine va_get (D := (dC, dI)) (ci := 4) (v := .int wi) (C := R_MO) (T := T_MO) (N := 16) hx hb htB i_MO hown hK hP 0 rfl rfl 1 (by decide) (htB _ lf_MO_39) (fun _ h9 => h9) rfl d_MO_since_31 ?_
        refine lv_isub hx hb d_MO_since_34 ?_
        refine lv_icmp_lt (tgt := 42) hx hb d_MO_since_35 (by decide) (fun c_35 => ?_) (fun c_35 => ?_)
        · refine lv_iconst (v := 0) hx hb d_MO_since_42 (by decide) ?_
          refine lv_iadd hx hb d_MO_since_43 ?_
          refine lv_istore_n (lv' := [(3, .int ((nI (zu_cnt ua (T - wi) (8 * a) i)) + 0)), (4, .int (nI i)), (0, .ref hM), (1, .int (nI a)), (2, .int T)]) hx hb d_MO_since_44 rfl hl (by decide) rfl (fun ls hl => ?_)
          refine lv_iinc (v := (nI i) + 1) (lv' := [(4, .int ((nI i) + 1)), (3, .int ((nI (zu_cnt ua (T - wi) (8 * a) i)) + 0)), (0, .ref hM), (1, .int (nI a)), (2, .int T)]) hx hb d_MO_since_45 hl (k := 1) rfl rfl (by decide) rfl (fun ls hl => ?_)
          refine lv_goto (tgt := 5) hx hb d_MO_since_48 (by decide) ?_
          rw [nI_1, show nI (zu_cnt ua (T - wi) (8 * a) i) + 0 = nI (zu_cnt ua (T - wi) (8 * a) i) from nI_add _ 0] at hl
          have ez : zu_cnt ua (T - wi) (8 * a) (i + 1) = zu_cnt ua (T - wi) (8 * a) i := by simp only [zu_cnt]; rw [if_neg (fun h => absurd c_35 (Int32.not_lt.mpr h))]; rfl
          refine ih (i + 1) ls (by omega) ?_
          rw [ez]
          exact lv_sub hl [0, 1, 2, 3, 4] rfl
        · refine lv_iconst (v := 1) hx hb d_MO_since_38 (by decide) ?_
          refine lv_goto (tgt := 43) hx hb d_MO_since_39 (by decide) ?_
          refine lv_iadd hx hb d_MO_since_43 ?_
          refine lv_istore_n (lv' := [(3, .int ((nI (zu_cnt ua (T - wi) (8 * a) i)) + 1)), (4, .int (nI i)), (0, .ref hM), (1, .int (nI a)), (2, .int T)]) hx hb d_MO_since_44 rfl hl (by decide) rfl (fun ls hl => ?_)
          refine lv_iinc (v := (nI i) + 1) (lv' := [(4, .int ((nI i) + 1)), (3, .int ((nI (zu_cnt ua (T - wi) (8 * a) i)) + 1)), (0, .ref hM), (1, .int (nI a)), (2, .int T)]) hx hb d_MO_since_45 hl (k := 1) rfl rfl (by decide) rfl (fun ls hl => ?_)
          refine lv_goto (tgt := 5) hx hb d_MO_since_48 (by decide) ?_
          rw [nI_1, nI_1] at hl
          have ez : zu_cnt ua (T - wi) (8 * a) (i + 1) = zu_cnt ua (T - wi) (8 * a) i + 1 := by simp only [zu_cnt]; rw [if_pos (Int32.not_lt.mp c_35)]
          refine ih (i + 1) ls (by omega) ?_
          rw [ez]
          exact lv_sub hl [0, 1, 2, 3, 4] rfl
  exact loop u 0 ls (by omega) (lv_sub hl [0, 1, 2, 3, 4] rfl)
end
section
/-- how a call ends: 0 it answers, 1 its arguments are refused, 2 its state is -/
def zk_route (rc : Nat) (rp rl : Nat → Int32) (x y z : Int32) : Nat := if (0 ≤ x.toInt ∧ x.toInt < 6) ∧ zok_P y z then (if zr_at rc rp rl y z < rc ∨ rc < 40 then 0 else 2) else 1
def zk_unroute (y z : Int32) : Nat := if zok_P y z then 0 else 1
def zk_account (ac : Nat) (x : Int32) : Nat := if (0 ≤ x.toInt ∧ x.toInt < 6) then (if ac < 64 then 0 else 2) else 1
def zk_card (ac cc : Nat) (x : Int64) (z : Int32) : Nat := if (zok_D x 12 18 ∧ (0 ≤ z.toInt ∧ z.toInt < ac)) then (if cc < 100 then 0 else 2) else 1
def zk_ix (n : Nat) (x : Int32) : Nat := if 0 ≤ x.toInt ∧ x.toInt < n then 0 else 1
def zk_num (x : Int64) (k : Nat) : Nat := if zok_D x 1 k then 0 else 1
def zk_use (no : Int32) (x : Int64) (T : Int32) : Nat := if zok_D x 1 18 ∧ no ≤ T then 0 else 1
def zk_used (ac : Nat) (no z T : Int32) : Nat := if (0 ≤ z.toInt ∧ z.toInt < ac) ∧ no ≤ T then 0 else 1
def zk_told (cc : Nat) (z v : Int32) : Nat := if (0 ≤ z.toInt ∧ z.toInt < cc) ∧ (0 ≤ v.toInt ∧ v.toInt ≤ 3) then 0 else 1
/-- the account of a number's card -/
def zu_a (cc : Nat) (cn : Nat → Int64) (ca : Nat → Int32) (x : Int64) : Nat := (ca (zc_at cc cn x)).toInt.toNat
/-- as zu_c, by the uses that the reference keeps -/
def zm_c (rc : Nat) (rp rl ri us ua : Nat → Int32) (cc : Nat) (cn : Nat → Int64) (ca cb : Nat → Int32) (wi ma : Int32) (x : Int64) (T : Int32) : Nat :=
  if zf_iss rc rp rl ri (zd_dg 19 (zd_N x)) (zd_N x) = -1 then 1 else if ¬ zc_at cc cn x < cc then 2 else if ¬ cb (zc_at cc cn x) = 0 then 3 else if ma ≤ nI (zu_cnt ua (T - wi) (8 * zu_a cc cn ca x) (us (zu_a cc cn ca x)).toInt.toNat) then 4 else 0
/-- the uses of account a, the first i - 1 places filled from behind -/
def zm_sh (ua : Nat → Int32) (a i : Nat) : Nat → Int32 := fun j => if 8 * a ≤ j ∧ j < 8 * a + (i - 1) then ua (j + 1) else ua j
def zm_u (u : Nat) : Nat := if u = 8 then 8 else u + 1
def zm_ua (ua : Nat → Int32) (a u : Nat) (T : Int32) : Nat → Int32 := if u = 8 then upd (zm_sh ua a 8) (8 * a + 7) T else upd ua (8 * a + u) T
theorem zm_sh1 (ua : Nat → Int32) (a : Nat) : zm_sh ua a 1 = ua := by
  funext j; unfold zm_sh; rw [if_neg (by omega)]
theorem zm_shS (ua : Nat → Int32) (a i : Nat) (h : 1 ≤ i) : upd (zm_sh ua a i) (8 * a + i - 1) (zm_sh ua a i (8 * a + i)) = zm_sh ua a (i + 1) := by
  funext j
  by_cases e : j = 8 * a + i - 1
  · subst e
    rw [pk_us]
    unfold zm_sh
    rw [if_neg (by omega), if_pos (by omega), show 8 * a + i - 1 + 1 = 8 * a + i by omega]
  · rw [pk_un e]
    unfold zm_sh
    by_cases h1 : 8 * a ≤ j ∧ j < 8 * a + (i - 1)
    · rw [if_pos h1, if_pos (by omega)]
    · rw [if_neg h1, if_neg (by omega)]
theorem zm_uu (f : Nat → Int32) (k : Nat) (v w : Int32) : upd (upd f k v) k w = upd f k w := by
  funext j
  by_cases e : j = k
  · subst e; rw [pk_us, pk_us]
  · rw [pk_un e, pk_un e, pk_un e]
theorem zf_iss_or {rc : Nat} {rp rl ri : Nat → Int32} (h : ∀ j, j < rc → 0 ≤ (ri j).toInt ∧ (ri j).toInt < 6) : ∀ (d b : Nat), zf_iss rc rp rl ri d b = -1 ∨ (0 : Int32) ≤ zf_iss rc rp rl ri d b
  | 0, _ => Or.inl rfl
  | d + 1, b => by
    rw [zf_iss]
    split
    · rename_i h1
      exact Or.inr (Int32.le_iff_toInt_le.mpr (h _ h1.2).1)
    · exact zf_iss_or h d (b / 10)
theorem zf_iss_ge {rc : Nat} {rp rl ri : Nat → Int32} (h : ∀ j, j < rc → 0 ≤ (ri j).toInt ∧ (ri j).toInt < 6) (d b : Nat) : (0 : Int32) ≤ zf_iss rc rp rl ri d b ↔ ¬ zf_iss rc rp rl ri d b = -1 := by
  rcases zf_iss_or (rp := rp) (rl := rl) h d b with e | e
  · rw [e]; exact ⟨fun q => absurd q (by decide), fun q => absurd rfl q⟩
  · exact ⟨fun _ q => by rw [q] at e; exact absurd e (by decide), fun _ => e⟩
theorem zf_r_ge {P : Nat → Bool} {n : Nat} (hn : n < 2 ^ 31) : (0 : Int32) ≤ zf_r P n ↔ zf_ix P n < n := by
  unfold zf_r
  split
  · rename_i h; exact ⟨fun _ => h, fun _ => nI_pos' (by omega)⟩
  · rename_i h; exact ⟨fun q => absurd q (by decide), fun q => absurd q h⟩
theorem zd_c10 {N d : Nat} (h : 0 < N) (hd : d < 10) : zd_cs 19 false (10 * N + d) = d + zd_cs 18 true N := by
  rw [zd_cs, if_neg (by omega), show (10 * N + d) % 10 = d by omega, show (10 * N + d) / 10 = N by omega]
  rfl
theorem zd_c10' {N : Nat} (h : 0 < N) : zd_cs 19 false (N * 10) = zd_cs 18 true N := by
  have h1 := zd_c10 (d := 0) h (by decide)
  rw [Nat.mul_comm, Nat.add_zero, Nat.zero_add] at h1
  rw [Nat.mul_comm] at h1 ⊢
  first | exact h1 | (rw [Nat.mul_comm]; exact h1)
theorem vp_iz {x : Int32} {n k : Nat} (h : 0 ≤ x.toInt ∧ x.toInt < n) (hk : n ≤ k) : vp_in x k := vp_in_iff.mpr ⟨h.1, by omega⟩
theorem zb_nar {v : Int32} (h : v = 0 ∨ v = 1) : narrow .boolean (.int v) = .int v := by rcases h with h | h <;> subst h <;> rfl
set_option maxHeartbeats 4000000 in
set_option maxRecDepth 100000 in
theorem c_MO_account (l : Launch) (dC : Nat → ClassId) (dI : Nat → Nat → Nat) (hM np nd nl nk nu nt nc nf nb : Nat) (cMP cMD cML cMI cMU cMT cMC cMF cMB : ClassId) (co wi ma no : Int32) (rc : Nat) (rp rl ri : Nat → Int32) (hrc : rc ≤ 40) (ac : Nat) (ai us ua : Nat → Int32) (hac : ac ≤ 64) (cc : Nat) (cn : Nat → Int64) (ca cb : Nat → Int32) (hcc : cc ≤ 100) (x : Int32) (hD0 : va_D (fun _ => True) [(hM, .inr (4, [.int co, .int wi, .int ma, .int (nI rc), .ref np, .ref nd, .ref nl, .int (nI ac), .ref nk, .ref nu, .ref nt, .int (nI cc), .ref nc, .ref nf, .ref nb, .int no])), (np, .inl (cMP, 40, .inl rp)), (nd, .inl (cMD, 40, .inl rl)), (nl, .inl (cML, 40, .inl ri)), (nk, .inl (cMI, 64, .inl ai)), (nu, .inl (cMU, 64, .inl us)), (nt, .inl (cMT, 512, .inl ua)), (nc, .inl (cMC, 100, .inr (.inl cn))), (nf, .inl (cMF, 100, .inl ca)), (nb, .inl (cMB, 100, .inl cb))]) : Met l y_MO_account (zw y_MO_account b_MO_account 2 (some .int)) ({ frames := 1, cells := 0, slots := 0, locals := 22 }) (zPre [.ref hM, .int x] (dC, dI) [(hM, .inr (4, [.int co, .int wi, .int ma, .int (nI rc), .ref np, .ref nd, .ref nl, .int (nI ac), .ref nk, .ref nu, .ref nt, .int (nI cc), .ref nc, .ref nf, .ref nb, .int no])), (np, .inl (cMP, 40, .inl rp)), (nd, .inl (cMD, 40, .inl rl)), (nl, .inl (cML, 40, .inl ri)), (nk, .inl (cMI, 64, .inl ai)), (nu, .inl (cMU, 64, .inl us)), (nt, .inl (cMT, 512, .inl ua)), (nc, .inl (cMC, 100, .inr (.inl cn))), (nf, .inl (cMF, 100, .inl ca)), (nb, .inl (cMB, 100, .inl cb))] [(cMP, .int), (cMD, .int), (cML, .int), (cMI, .int), (cMU, .int), (cMT, .int), (cMC, .long), (cMF, .int), (cMB, .boolean)]) (va_Qi (fun (r : Int32) (_ : Unit) => r = (if zk_account ac x = 0 then nI ac else 0)) (fun (_ : Unit) (t : State) => va_P (dC, dI) vwCl [(hM, .inr (4, [.int (nI (zk_account ac x)), .int wi, .int ma, .int (nI rc), .ref np, .ref nd, .ref nl, .int (nI (if zk_account ac x = 0 then ac + 1 else ac)), .ref nk, .ref nu, .ref nt, .int (nI cc), .ref nc, .ref nf, .ref nb, .int no])), (np, .inl (cMP, 40, .inl rp)), (nd, .inl (cMD, 40, .inl rl)), (nl, .inl (cML, 40, .inl ri)), (nk, .inl (cMI, 64, .inl (if zk_account ac x = 0 then upd ai ac x else ai))), (nu, .inl (cMU, 64, .inl us)), (nt, .inl (cMT, 512, .inl ua)), (nc, .inl (cMC, 100, .inr (.inl cn))), (nf, .inl (cMF, 100, .inl ca)), (nb, .inl (cMB, 100, .inl cb))] t.heap) (zA [(hM, .inr (4, [.int co, .int wi, .int ma, .int (nI rc), .ref np, .ref nd, .ref nl, .int (nI ac), .ref nk, .ref nu, .ref nt, .int (nI cc), .ref nc, .ref nf, .ref nb, .int no])), (np, .inl (cMP, 40, .inl rp)), (nd, .inl (cMD, 40, .inl rl)), (nl, .inl (cML, 40, .inl ri)), (nk, .inl (cMI, 64, .inl ai)), (nu, .inl (cMU, 64, .inl us)), (nt, .inl (cMT, 512, .inl ua)), (nc, .inl (cMC, 100, .inr (.inl cn))), (nf, .inl (cMF, 100, .inl ca)), (nb, .inl (cMB, 100, .inl cb))])) 0 0 (zA [(hM, .inr (4, [.int co, .int wi, .int ma, .int (nI rc), .ref np, .ref nd, .ref nl, .int (nI ac), .ref nk, .ref nu, .ref nt, .int (nI cc), .ref nc, .ref nf, .ref nb, .int no])), (np, .inl (cMP, 40, .inl rp)), (nd, .inl (cMD, 40, .inl rl)), (nl, .inl (cML, 40, .inl ri)), (nk, .inl (cMI, 64, .inl ai)), (nu, .inl (cMU, 64, .inl us)), (nt, .inl (cMT, 512, .inl ua)), (nc, .inl (cMC, 100, .inr (.inl cn))), (nf, .inl (cMF, 100, .inl ca)), (nb, .inl (cMB, 100, .inl cb))]) := by
  refine Met.ofW (cc := b_MO_account) (maxL := 2) (ret := (some .int)) (by decide) rfl ?_
  intro p e s m args below meth c s₁ B hml hv
  obtain ⟨rfl, hP, hK⟩ := hv
  have hx := B.exec
  have hb := B.bytes
  have hr := B.returns
  have hts := atoms_spec (ws := (zw y_MO_account b_MO_account 2 (some .int))) B.pre
  have htB : ∀ w ∈ BG, w.before ([.ref hM, .int x] : List Value).toArray s = true := fun w h => hts w (List.mem_cons_of_mem _ h)
  have hown : s.vm.findClass R_MO = some m.cls := findClass_of_methodNamed B.named
  have hlocks := B.notSynchronized
  have CF : CallFix p m c b_MO_account 2 s ([.ref hM, .int x] : List Value).toArray BG R_MO := ⟨hx, hb, hml, hown, htB⟩
  have hP : va_P (dC, dI) vwCl [(hM, .inr (4, [.int co, .int wi, .int ma, .int (nI rc), .ref np, .ref nd, .ref nl, .int (nI ac), .ref nk, .ref nu, .ref nt, .int (nI cc), .ref nc, .ref nf, .ref nb, .int no])), (np, .inl (cMP, 40, .inl rp)), (nd, .inl (cMD, 40, .inl rl)), (nl, .inl (cML, 40, .inl ri)), (nk, .inl (cMI, 64, .inl ai)), (nu, .inl (cMU, 64, .inl us)), (nt, .inl (cMT, 512, .inl ua)), (nc, .inl (cMC, 100, .inr (.inl cn))), (nf, .inl (cMF, 100, .inl ca)), (nb, .inl (cMB, 100, .inl cb))] s.heap := hP
  have hl := lv_entry [.ref hM, .int x] (n := 2) (Nat.le_of_ble_eq_true rfl)
  rw [lg_entry_eq]
  generalize (lg_sl [.ref hM, .int x] ++ List.replicate (2 - (lg_sl [.ref hM, .int x]).length) Slot.unset).toArray = ls at hl ⊢
  have hl : lv_has ls 2 [(0, .ref hM), (1, .int x)] := hl
  have hD : va_D (zA [(hM, .inr (4, [.int co, .int wi, .int ma, .int (nI rc), .ref np, .ref nd, .ref nl, .int (nI ac), .ref nk, .ref nu, .ref nt, .int (nI cc), .ref nc, .ref nf, .ref nb, .int no])), (np, .inl (cMP, 40, .inl rp)), (nd, .inl (cMD, 40, .inl rl)), (nl, .inl (cML, 40, .inl ri)), (nk, .inl (cMI, 64, .inl ai)), (nu, .inl (cMU, 64, .inl us)), (nt, .inl (cMT, 512, .inl ua)), (nc, .inl (cMC, 100, .inr (.inl cn))), (nf, .inl (cMF, 100, .inl ca)), (nb, .inl (cMB, 100, .inl cb))]) [(hM, .inr (4, [.int co, .int wi, .int ma, .int (nI rc), .ref np, .ref nd, .ref nl, .int (nI ac), .ref nk, .ref nu, .ref nt, .int (nI cc), .ref nc, .ref nf, .ref nb, .int no])), (np, .inl (cMP, 40, .inl rp)), (nd, .inl (cMD, 40, .inl rl)), (nl, .inl (cML, 40, .inl ri)), (nk, .inl (cMI, 64, .inl ai)), (nu, .inl (cMU, 64, .inl us)), (nt, .inl (cMT, 512, .inl ua)), (nc, .inl (cMC, 100, .inr (.inl cn))), (nf, .inl (cMF, 100, .inl ca)), (nb, .inl (cMB, 100, .inl cb))] := zA_of hD0
  have hS : va_S (zA [(hM, .inr (4, [.int co, .int wi, .int ma, .int (nI rc), .ref np, .ref nd, .ref nl, .int (nI ac), .ref nk, .ref nu, .ref nt, .int (nI cc), .ref nc, .ref nf, .ref nb, .int no])), (np, .inl (cMP, 40, .inl rp)), (nd, .inl (cMD, 40, .inl rl)), (nl, .inl (cML, 40, .inl ri)), (nk, .inl (cMI, 64, .inl ai)), (nu, .inl (cMU, 64, .inl us)), (nt, .inl (cMT, 512, .inl ua)), (nc, .inl (cMC, 100, .inr (.inl cn))), (nf, .inl (cMF, 100, .inl ca)), (nb, .inl (cMB, 100, .inl cb))]) s.heap s.heap [] := va_S.rf
  generalize zA [(hM, .inr (4, [.int co, .int wi, .int ma, .int (nI rc), .ref np, .ref nd, .ref nl, .int (nI ac), .ref nk, .ref nu, .ref nt, .int (nI cc), .ref nc, .ref nf, .ref nb, .int no])), (np, .inl (cMP, 40, .inl rp)), (nd, .inl (cMD, 40, .inl rl)), (nl, .inl (cML, 40, .inl ri)), (nk, .inl (cMI, 64, .inl ai)), (nu, .inl (cMU, 64, .inl us)), (nt, .inl (cMT, 512, .inl ua)), (nc, .inl (cMC, 100, .inr (.inl cn))), (nf, .inl (cMF, 100, .inl ca)), (nb, .inl (cMB, 100, .inl cb))] = A at hD hS ⊢
  refine lv_aload_n hx hb d_MO_account_0 rfl (lv_at hl 0 rfl) ?_
  refine lv_iload_n hx hb d_MO_account_1 rfl (lv_at hl 1 rfl) ?_
  refine lv_if_lt (tgt := 15) hx hb d_MO_account_2 (by decide) (fun c_2 => ?_) (fun c_2 => ?_)
  · have hno : ¬ (0 ≤ x.toInt ∧ x.toInt < 6) := fun h => by
      have h0 : x.toInt < 0 := Int32.lt_iff_toInt_lt.mp c_2
      have := h.1
      omega
    refine lv_iconst (v := 0) hx hb d_MO_account_15 (by decide) ?_
    refine lv_aload_n hx hb d_MO_account_16 rfl (lv_at hl 0 rfl) ?_
    refine va_get (D := (dC, dI)) (ci := 4) (v := .int (nI ac)) (C := R_MO) (T := T_MO) (N := 16) hx hb htB i_MO hown hK hP 0 rfl rfl 7 (by decide) (htB _ lf_MO_85) (fun _ h9 => h9) rfl d_MO_account_17 ?_
    refine lv_bipush (v := 64) hx hb d_MO_account_20 (by decide) ?_
    refine lv_icmp_ge (tgt := 29) hx hb d_MO_account_22 (by decide) (fun c_22 => ?_) (fun c_22 => ?_)
    · have h64 : ¬ ac < 64 := fun h => absurd c_22 (show ¬ nI 64 ≤ nI ac from nI_ge h (by omega))
      refine lv_iconst (v := 0) hx hb d_MO_account_29 (by decide) ?_
      refine va_calli (zr_V (n := 2) (As := [.int 0, .int 0]) (rest := []) CF (c_MO_goes_a l dC dI hM np nd nl nk nu nt nc nf nb cMP cMD cML cMI cMU cMT cMC cMF cMB co wi ma no rc rp rl ri hrc ac ai us ua hac cc cn ca cb hcc 0 ((hD.sub (ws' := [(hM, .inr (4, [.int co, .int wi, .int ma, .int (nI rc), .ref np, .ref nd, .ref nl, .int (nI ac), .ref nk, .ref nu, .ref nt, .int (nI cc), .ref nc, .ref nf, .ref nb, .int no]))]) [0] (by decide) rfl).weaken (fun _ _ _ _ => trivial))) mc_MO_goes lk_MO_66 mi_MO_goes ms_MO_goes ni_MO rfl rfl (by decide +kernel) ⟨Nat.le_of_ble_eq_true rfl, Nat.le_of_ble_eq_true rfl⟩ (hP.sub (ws' := [(hM, .inr (4, [.int co, .int wi, .int ma, .int (nI rc), .ref np, .ref nd, .ref nl, .int (nI ac), .ref nk, .ref nu, .ref nt, .int (nI cc), .ref nc, .ref nf, .ref nb, .int no]))]) [0] rfl) (hK.sub (tys' := []) [] rfl) rfl rfl rfl hl.1 rfl (lv_room (Nat.le_of_ble_eq_true rfl)) d_MO_account_30 ⟨Nat.zero_le _, Nat.zero_le _⟩) hS (fun q _ h => zA_sub hD (wc := [(hM, .inr (4, [.int co, .int wi, .int ma, .int (nI rc), .ref np, .ref nd, .ref nl, .int (nI ac), .ref nk, .ref nu, .ref nt, .int (nI cc), .ref nc, .ref nf, .ref nb, .int no]))]) [0] rfl h) (fun q h => zA_sub hD (wc := [(hM, .inr (4, [.int co, .int wi, .int ma, .int (nI rc), .ref np, .ref nd, .ref nl, .int (nI ac), .ref nk, .ref nu, .ref nt, .int (nI cc), .ref nc, .ref nf, .ref nb, .int no]))]) [0] rfl h) (fun r_30 u t H1 locs1 ht hvm hw_30 hB hz hk9 hS => ?_)
      have hP1 : va_P (dC, dI) vwCl [(hM, .inr (4, [.int 1, .int wi, .int ma, .int (nI rc), .ref np, .ref nd, .ref nl, .int (nI ac), .ref nk, .ref nu, .ref nt, .int (nI cc), .ref nc, .ref nf, .ref nb, .int no]))] H1 := by
        have h9 : va_P (dC, dI) vwCl [(hM, .inr (4, [.int 1, .int wi, .int ma, .int (nI rc), .ref np, .ref nd, .ref nl, .int (nI ac), .ref nk, .ref nu, .ref nt, .int (nI cc), .ref nc, .ref nf, .ref nb, .int no]))] t.heap := hB
        rw [ht] at h9
        exact h9
      have hP : va_P (dC, dI) vwCl [(hM, .inr (4, [.int 1, .int wi, .int ma, .int (nI rc), .ref np, .ref nd, .ref nl, .int (nI ac), .ref nk, .ref nu, .ref nt, .int (nI cc), .ref nc, .ref nf, .ref nb, .int no])), (np, .inl (cMP, 40, .inl rp)), (nd, .inl (cMD, 40, .inl rl)), (nl, .inl (cML, 40, .inl ri)), (nk, .inl (cMI, 64, .inl ai)), (nu, .inl (cMU, 64, .inl us)), (nt, .inl (cMT, 512, .inl ua)), (nc, .inl (cMC, 100, .inr (.inl cn))), (nf, .inl (cMF, 100, .inl ca)), (nb, .inl (cMB, 100, .inl cb))] H1 := zj (wc := [(hM, .inr (4, [.int co, .int wi, .int ma, .int (nI rc), .ref np, .ref nd, .ref nl, .int (nI ac), .ref nk, .ref nu, .ref nt, .int (nI cc), .ref nc, .ref nf, .ref nb, .int no]))]) hP hD [0] rfl hP1 hk9 rfl rfl
      have hD : va_D A [(hM, .inr (4, [.int 1, .int wi, .int ma, .int (nI rc), .ref np, .ref nd, .ref nl, .int (nI ac), .ref nk, .ref nu, .ref nt, .int (nI cc), .ref nc, .ref nf, .ref nb, .int no])), (np, .inl (cMP, 40, .inl rp)), (nd, .inl (cMD, 40, .inl rl)), (nl, .inl (cML, 40, .inl ri)), (nk, .inl (cMI, 64, .inl ai)), (nu, .inl (cMU, 64, .inl us)), (nt, .inl (cMT, 512, .inl ua)), (nc, .inl (cMC, 100, .inr (.inl cn))), (nf, .inl (cMF, 100, .inl ca)), (nb, .inl (cMB, 100, .inl cb))] := zD_of (ws := [(hM, .inr (4, [.int co, .int wi, .int ma, .int (nI rc), .ref np, .ref nd, .ref nl, .int (nI ac), .ref nk, .ref nu, .ref nt, .int (nI cc), .ref nc, .ref nf, .ref nb, .int no])), (np, .inl (cMP, 40, .inl rp)), (nd, .inl (cMD, 40, .inl rl)), (nl, .inl (cML, 40, .inl ri)), (nk, .inl (cMI, 64, .inl ai)), (nu, .inl (cMU, 64, .inl us)), (nt, .inl (cMT, 512, .inl ua)), (nc, .inl (cMC, 100, .inr (.inl cn))), (nf, .inl (cMF, 100, .inl ca)), (nb, .inl (cMB, 100, .inl cb))]) rfl hD
      generalize H1 = H at hP hS ⊢
      subst hw_30
      refine lv_if_ne (tgt := 38) hx hb d_MO_account_33 (by decide) (fun c_33 => ?_) (fun c_33 => ?_)
      · exact absurd rfl c_33
      · refine lv_iconst (v := 0) hx hb d_MO_account_36 (by decide) ?_
        have hkk : zk_account ac x = 1 := by unfold zk_account; rw [if_neg hno]
        exact W.iret (v := 0) hx hb hr (fun t ht hW => ⟨⟨_, (), rfl, by rw [hkk] <;> rfl, by show va_P _ _ _ t.heap; rw [ht, hkk]; exact hP⟩, hS.F ht⟩) hS.2.2 d_MO_account_37
    · have h64 : ac < 64 := Nat.not_le.mp (fun h => c_22 (show nI 64 ≤ nI ac from nI_le h (by omega)))
      refine lv_iconst (v := 1) hx hb d_MO_account_25 (by decide) ?_
      refine lv_goto (tgt := 30) hx hb d_MO_account_26 (by decide) ?_
      refine va_calli (zr_V (n := 2) (As := [.int 0, .int 1]) (rest := []) CF (c_MO_goes_a l dC dI hM np nd nl nk nu nt nc nf nb cMP cMD cML cMI cMU cMT cMC cMF cMB co wi ma no rc rp rl ri hrc ac ai us ua hac cc cn ca cb hcc 1 ((hD.sub (ws' := [(hM, .inr (4, [.int co, .int wi, .int ma, .int (nI rc), .ref np, .ref nd, .ref nl, .int (nI ac), .ref nk, .ref nu, .ref nt, .int (nI cc), .ref nc, .ref nf, .ref nb, .int no]))]) [0] (by decide) rfl).weaken (fun _ _ _ _ => trivial))) mc_MO_goes lk_MO_66 mi_MO_goes ms_MO_goes ni_MO rfl rfl (by decide +kernel) ⟨Nat.le_of_ble_eq_true rfl, Nat.le_of_ble_eq_true rfl⟩ (hP.sub (ws' := [(hM, .inr (4, [.int co, .int wi, .int ma, .int (nI rc), .ref np, .ref nd, .ref nl, .int (nI ac), .ref nk, .ref nu, .ref nt, .int (nI cc), .ref nc, .ref nf, .ref nb, .int no]))]) [0] rfl) (hK.sub (tys' := []) [] rfl) rfl rfl rfl hl.1 rfl (lv_room (Nat.le_of_ble_eq_true rfl)) d_MO_account_30 ⟨Nat.zero_le _, Nat.zero_le _⟩) hS (fun q _ h => zA_sub hD (wc := [(hM, .inr (4, [.int co, .int wi, .int ma, .int (nI rc), .ref np, .ref nd, .ref nl, .int (nI ac), .ref nk, .ref nu, .ref nt, .int (nI cc), .ref nc, .ref nf, .ref nb, .int no]))]) [0] rfl h) (fun q h => zA_sub hD (wc := [(hM, .inr (4, [.int co, .int wi, .int ma, .int (nI rc), .ref np, .ref nd, .ref nl, .int (nI ac), .ref nk, .ref nu, .ref nt, .int (nI cc), .ref nc, .ref nf, .ref nb, .int no]))]) [0] rfl h) (fun r_30 u t H1 locs1 ht hvm hw_30 hB hz hk9 hS => ?_)
      have hP1 : va_P (dC, dI) vwCl [(hM, .inr (4, [.int 1, .int wi, .int ma, .int (nI rc), .ref np, .ref nd, .ref nl, .int (nI ac), .ref nk, .ref nu, .ref nt, .int (nI cc), .ref nc, .ref nf, .ref nb, .int no]))] H1 := by
        have h9 : va_P (dC, dI) vwCl [(hM, .inr (4, [.int 1, .int wi, .int ma, .int (nI rc), .ref np, .ref nd, .ref nl, .int (nI ac), .ref nk, .ref nu, .ref nt, .int (nI cc), .ref nc, .ref nf, .ref nb, .int no]))] t.heap := hB
        rw [ht] at h9
        exact h9
      have hP : va_P (dC, dI) vwCl [(hM, .inr (4, [.int 1, .int wi, .int ma, .int (nI rc), .ref np, .ref nd, .ref nl, .int (nI ac), .ref nk, .ref nu, .ref nt, .int (nI cc), .ref nc, .ref nf, .ref nb, .int no])), (np, .inl (cMP, 40, .inl rp)), (nd, .inl (cMD, 40, .inl rl)), (nl, .inl (cML, 40, .inl ri)), (nk, .inl (cMI, 64, .inl ai)), (nu, .inl (cMU, 64, .inl us)), (nt, .inl (cMT, 512, .inl ua)), (nc, .inl (cMC, 100, .inr (.inl cn))), (nf, .inl (cMF, 100, .inl ca)), (nb, .inl (cMB, 100, .inl cb))] H1 := zj (wc := [(hM, .inr (4, [.int co, .int wi, .int ma, .int (nI rc), .ref np, .ref nd, .ref nl, .int (nI ac), .ref nk, .ref nu, .ref nt, .int (nI cc), .ref nc, .ref nf, .ref nb, .int no]))]) hP hD [0] rfl hP1 hk9 rfl rfl
      have hD : va_D A [(hM, .inr (4, [.int 1, .int wi, .int ma, .int (nI rc), .ref np, .ref nd, .ref nl, .int (nI ac), .ref nk, .ref nu, .ref nt, .int (nI cc), .ref nc, .ref nf, .ref nb, .int no])), (np, .inl (cMP, 40, .inl rp)), (nd, .inl (cMD, 40, .inl rl)), (nl, .inl (cML, 40, .inl ri)), (nk, .inl (cMI, 64, .inl ai)), (nu, .inl (cMU, 64, .inl us)), (nt, .inl (cMT, 512, .inl ua)), (nc, .inl (cMC, 100, .inr (.inl cn))), (nf, .inl (cMF, 100, .inl ca)), (nb, .inl (cMB, 100, .inl cb))] := zD_of (ws := [(hM, .inr (4, [.int co, .int wi, .int ma, .int (nI rc), .ref np, .ref nd, .ref nl, .int (nI ac), .ref nk, .ref nu, .ref nt, .int (nI cc), .ref nc, .ref nf, .ref nb, .int no])), (np, .inl (cMP, 40, .inl rp)), (nd, .inl (cMD, 40, .inl rl)), (nl, .inl (cML, 40, .inl ri)), (nk, .inl (cMI, 64, .inl ai)), (nu, .inl (cMU, 64, .inl us)), (nt, .inl (cMT, 512, .inl ua)), (nc, .inl (cMC, 100, .inr (.inl cn))), (nf, .inl (cMF, 100, .inl ca)), (nb, .inl (cMB, 100, .inl cb))]) rfl hD
      generalize H1 = H at hP hS ⊢
      subst hw_30
      refine lv_if_ne (tgt := 38) hx hb d_MO_account_33 (by decide) (fun c_33 => ?_) (fun c_33 => ?_)
      · exact absurd rfl c_33
      · refine lv_iconst (v := 0) hx hb d_MO_account_36 (by decide) ?_
        have hkk : zk_account ac x = 1 := by unfold zk_account; rw [if_neg hno]
        exact W.iret (v := 0) hx hb hr (fun t ht hW => ⟨⟨_, (), rfl, by rw [hkk] <;> rfl, by show va_P _ _ _ t.heap; rw [ht, hkk]; exact hP⟩, hS.F ht⟩) hS.2.2 d_MO_account_37
  · have h1 : 0 ≤ x.toInt := Int.not_lt.mp (fun h => c_2 (Int32.lt_iff_toInt_lt.mpr h))
    refine lv_iload_n hx hb d_MO_account_5 rfl (lv_at hl 1 rfl) ?_
    refine lv_bipush (v := 6) hx hb d_MO_account_6 (by decide) ?_
    refine lv_icmp_ge (tgt := 15) hx hb d_MO_account_8 (by decide) (fun c_8 => ?_) (fun c_8 => ?_)
    · have hno : ¬ (0 ≤ x.toInt ∧ x.toInt < 6) := fun h => absurd (Int32.le_iff_toInt_le.mp c_8) (by show ¬ (6 : Int) ≤ x.toInt; have := h.2; omega)
      refine lv_iconst (v := 0) hx hb d_MO_account_15 (by decide) ?_
      refine lv_aload_n hx hb d_MO_account_16 rfl (lv_at hl 0 rfl) ?_
      refine va_get (D := (dC, dI)) (ci := 4) (v := .int (nI ac)) (C := R_MO) (T := T_MO) (N := 16) hx hb htB i_MO hown hK hP 0 rfl rfl 7 (by decide) (htB _ lf_MO_85) (fun _ h9 => h9) rfl d_MO_account_17 ?_
      refine lv_bipush (v := 64) hx hb d_MO_account_20 (by decide) ?_
      refine lv_icmp_ge (tgt := 29) hx hb d_MO_account_22 (by decide) (fun c_22 => ?_) (fun c_22 => ?_)
      · have h64 : ¬ ac < 64 := fun h => absurd c_22 (show ¬ nI 64 ≤ nI ac from nI_ge h (by omega))
        refine lv_iconst (v := 0) hx hb d_MO_account_29 (by decide) ?_
        refine va_calli (zr_V (n := 2) (As := [.int 0, .int 0]) (rest := []) CF (c_MO_goes_a l dC dI hM np nd nl nk nu nt nc nf nb cMP cMD cML cMI cMU cMT cMC cMF cMB co wi ma no rc rp rl ri hrc ac ai us ua hac cc cn ca cb hcc 0 ((hD.sub (ws' := [(hM, .inr (4, [.int co, .int wi, .int ma, .int (nI rc), .ref np, .ref nd, .ref nl, .int (nI ac), .ref nk, .ref nu, .ref nt, .int (nI cc), .ref nc, .ref nf, .ref nb, .int no]))]) [0] (by decide) rfl).weaken (fun _ _ _ _ => trivial))) mc_MO_goes lk_MO_66 mi_MO_goes ms_MO_goes ni_MO rfl rfl (by decide +kernel) ⟨Nat.le_of_ble_eq_true rfl, Nat.le_of_ble_eq_true rfl⟩ (hP.sub (ws' := [(hM, .inr (4, [.int co, .int wi, .int ma, .int (nI rc), .ref np, .ref nd, .ref nl, .int (nI ac), .ref nk, .ref nu, .ref nt, .int (nI cc), .ref nc, .ref nf, .ref nb, .int no]))]) [0] rfl) (hK.sub (tys' := []) [] rfl) rfl rfl rfl hl.1 rfl (lv_room (Nat.le_of_ble_eq_true rfl)) d_MO_account_30 ⟨Nat.zero_le _, Nat.zero_le _⟩) hS (fun q _ h => zA_sub hD (wc := [(hM, .inr (4, [.int co, .int wi, .int ma, .int (nI rc), .ref np, .ref nd, .ref nl, .int (nI ac), .ref nk, .ref nu, .ref nt, .int (nI cc), .ref nc, .ref nf, .ref nb, .int no]))]) [0] rfl h) (fun q h => zA_sub hD (wc := [(hM, .inr (4, [.int co, .int wi, .int ma, .int (nI rc), .ref np, .ref nd, .ref nl, .int (nI ac), .ref nk, .ref nu, .ref nt, .int (nI cc), .ref nc, .ref nf, .ref nb, .int no]))]) [0] rfl h) (fun r_30 u t H1 locs1 ht hvm hw_30 hB hz hk9 hS => ?_)
        have hP1 : va_P (dC, dI) vwCl [(hM, .inr (4, [.int 1, .int wi, .int ma, .int (nI rc), .ref np, .ref nd, .ref nl, .int (nI ac), .ref nk, .ref nu, .ref nt, .int (nI cc), .ref nc, .ref nf, .ref nb, .int no]))] H1 := by
          have h9 : va_P (dC, dI) vwCl [(hM, .inr (4, [.int 1, .int wi, .int ma, .int (nI rc), .ref np, .ref nd, .ref nl, .int (nI ac), .ref nk, .ref nu, .ref nt, .int (nI cc), .ref nc, .ref nf, .ref nb, .int no]))] t.heap := hB
          rw [ht] at h9
          exact h9
        have hP : va_P (dC, dI) vwCl [(hM, .inr (4, [.int 1, .int wi, .int ma, .int (nI rc), .ref np, .ref nd, .ref nl, .int (nI ac), .ref nk, .ref nu, .ref nt, .int (nI cc), .ref nc, .ref nf, .ref nb, .int no])), (np, .inl (cMP, 40, .inl rp)), (nd, .inl (cMD, 40, .inl rl)), (nl, .inl (cML, 40, .inl ri)), (nk, .inl (cMI, 64, .inl ai)), (nu, .inl (cMU, 64, .inl us)), (nt, .inl (cMT, 512, .inl ua)), (nc, .inl (cMC, 100, .inr (.inl cn))), (nf, .inl (cMF, 100, .inl ca)), (nb, .inl (cMB, 100, .inl cb))] H1 := zj (wc := [(hM, .inr (4, [.int co, .int wi, .int ma, .int (nI rc), .ref np, .ref nd, .ref nl, .int (nI ac), .ref nk, .ref nu, .ref nt, .int (nI cc), .ref nc, .ref nf, .ref nb, .int no]))]) hP hD [0] rfl hP1 hk9 rfl rfl
        have hD : va_D A [(hM, .inr (4, [.int 1, .int wi, .int ma, .int (nI rc), .ref np, .ref nd, .ref nl, .int (nI ac), .ref nk, .ref nu, .ref nt, .int (nI cc), .ref nc, .ref nf, .ref nb, .int no])), (np, .inl (cMP, 40, .inl rp)), (nd, .inl (cMD, 40, .inl rl)), (nl, .inl (cML, 40, .inl ri)), (nk, .inl (cMI, 64, .inl ai)), (nu, .inl (cMU, 64, .inl us)), (nt, .inl (cMT, 512, .inl ua)), (nc, .inl (cMC, 100, .inr (.inl cn))), (nf, .inl (cMF, 100, .inl ca)), (nb, .inl (cMB, 100, .inl cb))] := zD_of (ws := [(hM, .inr (4, [.int co, .int wi, .int ma, .int (nI rc), .ref np, .ref nd, .ref nl, .int (nI ac), .ref nk, .ref nu, .ref nt, .int (nI cc), .ref nc, .ref nf, .ref nb, .int no])), (np, .inl (cMP, 40, .inl rp)), (nd, .inl (cMD, 40, .inl rl)), (nl, .inl (cML, 40, .inl ri)), (nk, .inl (cMI, 64, .inl ai)), (nu, .inl (cMU, 64, .inl us)), (nt, .inl (cMT, 512, .inl ua)), (nc, .inl (cMC, 100, .inr (.inl cn))), (nf, .inl (cMF, 100, .inl ca)), (nb, .inl (cMB, 100, .inl cb))]) rfl hD
        generalize H1 = H at hP hS ⊢
        subst hw_30
        refine lv_if_ne (tgt := 38) hx hb d_MO_account_33 (by decide) (fun c_33 => ?_) (fun c_33 => ?_)
        · exact absurd rfl c_33
        · refine lv_iconst (v := 0) hx hb d_MO_account_36 (by decide) ?_
          have hkk : zk_account ac x = 1 := by unfold zk_account; rw [if_neg hno]
          exact W.iret (v := 0) hx hb hr (fun t ht hW => ⟨⟨_, (), rfl, by rw [hkk] <;> rfl, by show va_P _ _ _ t.heap; rw [ht, hkk]; exact hP⟩, hS.F ht⟩) hS.2.2 d_MO_account_37
      · have h64 : ac < 64 := Nat.not_le.mp (fun h => c_22 (show nI 64 ≤ nI ac from nI_le h (by omega)))
        refine lv_iconst (v := 1) hx hb d_MO_account_25 (by decide) ?_
        refine lv_goto (tgt := 30) hx hb d_MO_account_26 (by decide) ?_
        refine va_calli (zr_V (n := 2) (As := [.int 0, .int 1]) (rest := []) CF (c_MO_goes_a l dC dI hM np nd nl nk nu nt nc nf nb cMP cMD cML cMI cMU cMT cMC cMF cMB co wi ma no rc rp rl ri hrc ac ai us ua hac cc cn ca cb hcc 1 ((hD.sub (ws' := [(hM, .inr (4, [.int co, .int wi, .int ma, .int (nI rc), .ref np, .ref nd, .ref nl, .int (nI ac), .ref nk, .ref nu, .ref nt, .int (nI cc), .ref nc, .ref nf, .ref nb, .int no]))]) [0] (by decide) rfl).weaken (fun _ _ _ _ => trivial))) mc_MO_goes lk_MO_66 mi_MO_goes ms_MO_goes ni_MO rfl rfl (by decide +kernel) ⟨Nat.le_of_ble_eq_true rfl, Nat.le_of_ble_eq_true rfl⟩ (hP.sub (ws' := [(hM, .inr (4, [.int co, .int wi, .int ma, .int (nI rc), .ref np, .ref nd, .ref nl, .int (nI ac), .ref nk, .ref nu, .ref nt, .int (nI cc), .ref nc, .ref nf, .ref nb, .int no]))]) [0] rfl) (hK.sub (tys' := []) [] rfl) rfl rfl rfl hl.1 rfl (lv_room (Nat.le_of_ble_eq_true rfl)) d_MO_account_30 ⟨Nat.zero_le _, Nat.zero_le _⟩) hS (fun q _ h => zA_sub hD (wc := [(hM, .inr (4, [.int co, .int wi, .int ma, .int (nI rc), .ref np, .ref nd, .ref nl, .int (nI ac), .ref nk, .ref nu, .ref nt, .int (nI cc), .ref nc, .ref nf, .ref nb, .int no]))]) [0] rfl h) (fun q h => zA_sub hD (wc := [(hM, .inr (4, [.int co, .int wi, .int ma, .int (nI rc), .ref np, .ref nd, .ref nl, .int (nI ac), .ref nk, .ref nu, .ref nt, .int (nI cc), .ref nc, .ref nf, .ref nb, .int no]))]) [0] rfl h) (fun r_30 u t H1 locs1 ht hvm hw_30 hB hz hk9 hS => ?_)
        have hP1 : va_P (dC, dI) vwCl [(hM, .inr (4, [.int 1, .int wi, .int ma, .int (nI rc), .ref np, .ref nd, .ref nl, .int (nI ac), .ref nk, .ref nu, .ref nt, .int (nI cc), .ref nc, .ref nf, .ref nb, .int no]))] H1 := by
          have h9 : va_P (dC, dI) vwCl [(hM, .inr (4, [.int 1, .int wi, .int ma, .int (nI rc), .ref np, .ref nd, .ref nl, .int (nI ac), .ref nk, .ref nu, .ref nt, .int (nI cc), .ref nc, .ref nf, .ref nb, .int no]))] t.heap := hB
          rw [ht] at h9
          exact h9
        have hP : va_P (dC, dI) vwCl [(hM, .inr (4, [.int 1, .int wi, .int ma, .int (nI rc), .ref np, .ref nd, .ref nl, .int (nI ac), .ref nk, .ref nu, .ref nt, .int (nI cc), .ref nc, .ref nf, .ref nb, .int no])), (np, .inl (cMP, 40, .inl rp)), (nd, .inl (cMD, 40, .inl rl)), (nl, .inl (cML, 40, .inl ri)), (nk, .inl (cMI, 64, .inl ai)), (nu, .inl (cMU, 64, .inl us)), (nt, .inl (cMT, 512, .inl ua)), (nc, .inl (cMC, 100, .inr (.inl cn))), (nf, .inl (cMF, 100, .inl ca)), (nb, .inl (cMB, 100, .inl cb))] H1 := zj (wc := [(hM, .inr (4, [.int co, .int wi, .int ma, .int (nI rc), .ref np, .ref nd, .ref nl, .int (nI ac), .ref nk, .ref nu, .ref nt, .int (nI cc), .ref nc, .ref nf, .ref nb, .int no]))]) hP hD [0] rfl hP1 hk9 rfl rfl
        have hD : va_D A [(hM, .inr (4, [.int 1, .int wi, .int ma, .int (nI rc), .ref np, .ref nd, .ref nl, .int (nI ac), .ref nk, .ref nu, .ref nt, .int (nI cc), .ref nc, .ref nf, .ref nb, .int no])), (np, .inl (cMP, 40, .inl rp)), (nd, .inl (cMD, 40, .inl rl)), (nl, .inl (cML, 40, .inl ri)), (nk, .inl (cMI, 64, .inl ai)), (nu, .inl (cMU, 64, .inl us)), (nt, .inl (cMT, 512, .inl ua)), (nc, .inl (cMC, 100, .inr (.inl cn))), (nf, .inl (cMF, 100, .inl ca)), (nb, .inl (cMB, 100, .inl cb))] := zD_of (ws := [(hM, .inr (4, [.int co, .int wi, .int ma, .int (nI rc), .ref np, .ref nd, .ref nl, .int (nI ac), .ref nk, .ref nu, .ref nt, .int (nI cc), .ref nc, .ref nf, .ref nb, .int no])), (np, .inl (cMP, 40, .inl rp)), (nd, .inl (cMD, 40, .inl rl)), (nl, .inl (cML, 40, .inl ri)), (nk, .inl (cMI, 64, .inl ai)), (nu, .inl (cMU, 64, .inl us)), (nt, .inl (cMT, 512, .inl ua)), (nc, .inl (cMC, 100, .inr (.inl cn))), (nf, .inl (cMF, 100, .inl ca)), (nb, .inl (cMB, 100, .inl cb))]) rfl hD
        generalize H1 = H at hP hS ⊢
        subst hw_30
        refine lv_if_ne (tgt := 38) hx hb d_MO_account_33 (by decide) (fun c_33 => ?_) (fun c_33 => ?_)
        · exact absurd rfl c_33
        · refine lv_iconst (v := 0) hx hb d_MO_account_36 (by decide) ?_
          have hkk : zk_account ac x = 1 := by unfold zk_account; rw [if_neg hno]
          exact W.iret (v := 0) hx hb hr (fun t ht hW => ⟨⟨_, (), rfl, by rw [hkk] <;> rfl, by show va_P _ _ _ t.heap; rw [ht, hkk]; exact hP⟩, hS.F ht⟩) hS.2.2 d_MO_account_37
    · have hok : (0 ≤ x.toInt ∧ x.toInt < 6) := ⟨h1, Int.not_le.mp (fun h => c_8 (Int32.le_iff_toInt_le.mpr h))⟩
      refine lv_iconst (v := 1) hx hb d_MO_account_11 (by decide) ?_
      refine lv_goto (tgt := 16) hx hb d_MO_account_12 (by decide) ?_
      refine lv_aload_n hx hb d_MO_account_16 rfl (lv_at hl 0 rfl) ?_
      refine va_get (D := (dC, dI)) (ci := 4) (v := .int (nI ac)) (C := R_MO) (T := T_MO) (N := 16) hx hb htB i_MO hown hK hP 0 rfl rfl 7 (by decide) (htB _ lf_MO_85) (fun _ h9 => h9) rfl d_MO_account_17 ?_
      refine lv_bipush (v := 64) hx hb d_MO_account_20 (by decide) ?_
      refine lv_icmp_ge (tgt := 29) hx hb d_MO_account_22 (by decide) (fun c_22 => ?_) (fun c_22 => ?_)
      · have h64 : ¬ ac < 64 := fun h => absurd c_22 (show ¬ nI 64 ≤ nI ac from nI_ge h (by omega))
        refine lv_iconst (v := 0) hx hb d_MO_account_29 (by decide) ?_
        refine va_calli (zr_V (n := 2) (As := [.int 1, .int 0]) (rest := []) CF (c_MO_goes_b l dC dI hM np nd nl nk nu nt nc nf nb cMP cMD cML cMI cMU cMT cMC cMF cMB co wi ma no rc rp rl ri hrc ac ai us ua hac cc cn ca cb hcc ((hD.sub (ws' := [(hM, .inr (4, [.int co, .int wi, .int ma, .int (nI rc), .ref np, .ref nd, .ref nl, .int (nI ac), .ref nk, .ref nu, .ref nt, .int (nI cc), .ref nc, .ref nf, .ref nb, .int no]))]) [0] (by decide) rfl).weaken (fun _ _ _ _ => trivial))) mc_MO_goes lk_MO_66 mi_MO_goes ms_MO_goes ni_MO rfl rfl (by decide +kernel) ⟨Nat.le_of_ble_eq_true rfl, Nat.le_of_ble_eq_true rfl⟩ (hP.sub (ws' := [(hM, .inr (4, [.int co, .int wi, .int ma, .int (nI rc), .ref np, .ref nd, .ref nl, .int (nI ac), .ref nk, .ref nu, .ref nt, .int (nI cc), .ref nc, .ref nf, .ref nb, .int no]))]) [0] rfl) (hK.sub (tys' := []) [] rfl) rfl rfl rfl hl.1 rfl (lv_room (Nat.le_of_ble_eq_true rfl)) d_MO_account_30 ⟨Nat.zero_le _, Nat.zero_le _⟩) hS (fun q _ h => zA_sub hD (wc := [(hM, .inr (4, [.int co, .int wi, .int ma, .int (nI rc), .ref np, .ref nd, .ref nl, .int (nI ac), .ref nk, .ref nu, .ref nt, .int (nI cc), .ref nc, .ref nf, .ref nb, .int no]))]) [0] rfl h) (fun q h => zA_sub hD (wc := [(hM, .inr (4, [.int co, .int wi, .int ma, .int (nI rc), .ref np, .ref nd, .ref nl, .int (nI ac), .ref nk, .ref nu, .ref nt, .int (nI cc), .ref nc, .ref nf, .ref nb, .int no]))]) [0] rfl h) (fun r_30 u t H1 locs1 ht hvm hw_30 hB hz hk9 hS => ?_)
        have hP1 : va_P (dC, dI) vwCl [(hM, .inr (4, [.int 2, .int wi, .int ma, .int (nI rc), .ref np, .ref nd, .ref nl, .int (nI ac), .ref nk, .ref nu, .ref nt, .int (nI cc), .ref nc, .ref nf, .ref nb, .int no]))] H1 := by
          have h9 : va_P (dC, dI) vwCl [(hM, .inr (4, [.int 2, .int wi, .int ma, .int (nI rc), .ref np, .ref nd, .ref nl, .int (nI ac), .ref nk, .ref nu, .ref nt, .int (nI cc), .ref nc, .ref nf, .ref nb, .int no]))] t.heap := hB
          rw [ht] at h9
          exact h9
        have hP : va_P (dC, dI) vwCl [(hM, .inr (4, [.int 2, .int wi, .int ma, .int (nI rc), .ref np, .ref nd, .ref nl, .int (nI ac), .ref nk, .ref nu, .ref nt, .int (nI cc), .ref nc, .ref nf, .ref nb, .int no])), (np, .inl (cMP, 40, .inl rp)), (nd, .inl (cMD, 40, .inl rl)), (nl, .inl (cML, 40, .inl ri)), (nk, .inl (cMI, 64, .inl ai)), (nu, .inl (cMU, 64, .inl us)), (nt, .inl (cMT, 512, .inl ua)), (nc, .inl (cMC, 100, .inr (.inl cn))), (nf, .inl (cMF, 100, .inl ca)), (nb, .inl (cMB, 100, .inl cb))] H1 := zj (wc := [(hM, .inr (4, [.int co, .int wi, .int ma, .int (nI rc), .ref np, .ref nd, .ref nl, .int (nI ac), .ref nk, .ref nu, .ref nt, .int (nI cc), .ref nc, .ref nf, .ref nb, .int no]))]) hP hD [0] rfl hP1 hk9 rfl rfl
        have hD : va_D A [(hM, .inr (4, [.int 2, .int wi, .int ma, .int (nI rc), .ref np, .ref nd, .ref nl, .int (nI ac), .ref nk, .ref nu, .ref nt, .int (nI cc), .ref nc, .ref nf, .ref nb, .int no])), (np, .inl (cMP, 40, .inl rp)), (nd, .inl (cMD, 40, .inl rl)), (nl, .inl (cML, 40, .inl ri)), (nk, .inl (cMI, 64, .inl ai)), (nu, .inl (cMU, 64, .inl us)), (nt, .inl (cMT, 512, .inl ua)), (nc, .inl (cMC, 100, .inr (.inl cn))), (nf, .inl (cMF, 100, .inl ca)), (nb, .inl (cMB, 100, .inl cb))] := zD_of (ws := [(hM, .inr (4, [.int co, .int wi, .int ma, .int (nI rc), .ref np, .ref nd, .ref nl, .int (nI ac), .ref nk, .ref nu, .ref nt, .int (nI cc), .ref nc, .ref nf, .ref nb, .int no])), (np, .inl (cMP, 40, .inl rp)), (nd, .inl (cMD, 40, .inl rl)), (nl, .inl (cML, 40, .inl ri)), (nk, .inl (cMI, 64, .inl ai)), (nu, .inl (cMU, 64, .inl us)), (nt, .inl (cMT, 512, .inl ua)), (nc, .inl (cMC, 100, .inr (.inl cn))), (nf, .inl (cMF, 100, .inl ca)), (nb, .inl (cMB, 100, .inl cb))]) rfl hD
        generalize H1 = H at hP hS ⊢
        subst hw_30
        refine lv_if_ne (tgt := 38) hx hb d_MO_account_33 (by decide) (fun c_33 => ?_) (fun c_33 => ?_)
        · exact absurd rfl c_33
        · refine lv_iconst (v := 0) hx hb d_MO_account_36 (by decide) ?_
          have hkk : zk_account ac x = 2 := by unfold zk_account; rw [if_pos hok, if_neg h64]
          exact W.iret (v := 0) hx hb hr (fun t ht hW => ⟨⟨_, (), rfl, by rw [hkk] <;> rfl, by show va_P _ _ _ t.heap; rw [ht, hkk]; exact hP⟩, hS.F ht⟩) hS.2.2 d_MO_account_37
      · have h64 : ac < 64 := Nat.not_le.mp (fun h => c_22 (show nI 64 ≤ nI ac from nI_le h (by omega)))
        refine lv_iconst (v := 1) hx hb d_MO_account_25 (by decide) ?_
        refine lv_goto (tgt := 30) hx hb d_MO_account_26 (by decide) ?_
        refine va_calli (zr_V (n := 2) (As := [.int 1, .int 1]) (rest := []) CF (c_MO_goes_c l dC dI hM np nd nl nk nu nt nc nf nb cMP cMD cML cMI cMU cMT cMC cMF cMB co wi ma no rc rp rl ri hrc ac ai us ua hac cc cn ca cb hcc ((hD.sub (ws' := [(hM, .inr (4, [.int co, .int wi, .int ma, .int (nI rc), .ref np, .ref nd, .ref nl, .int (nI ac), .ref nk, .ref nu, .ref nt, .int (nI cc), .ref nc, .ref nf, .ref nb, .int no]))]) [0] (by decide) rfl).weaken (fun _ _ _ _ => trivial))) mc_MO_goes lk_MO_66 mi_MO_goes ms_MO_goes ni_MO rfl rfl (by decide +kernel) ⟨Nat.le_of_ble_eq_true rfl, Nat.le_of_ble_eq_true rfl⟩ (hP.sub (ws' := [(hM, .inr (4, [.int co, .int wi, .int ma, .int (nI rc), .ref np, .ref nd, .ref nl, .int (nI ac), .ref nk, .ref nu, .ref nt, .int (nI cc), .ref nc, .ref nf, .ref nb, .int no]))]) [0] rfl) (hK.sub (tys' := []) [] rfl) rfl rfl rfl hl.1 rfl (lv_room (Nat.le_of_ble_eq_true rfl)) d_MO_account_30 ⟨Nat.zero_le _, Nat.zero_le _⟩) hS (fun q _ h => zA_sub hD (wc := [(hM, .inr (4, [.int co, .int wi, .int ma, .int (nI rc), .ref np, .ref nd, .ref nl, .int (nI ac), .ref nk, .ref nu, .ref nt, .int (nI cc), .ref nc, .ref nf, .ref nb, .int no]))]) [0] rfl h) (fun q h => zA_sub hD (wc := [(hM, .inr (4, [.int co, .int wi, .int ma, .int (nI rc), .ref np, .ref nd, .ref nl, .int (nI ac), .ref nk, .ref nu, .ref nt, .int (nI cc), .ref nc, .ref nf, .ref nb, .int no]))]) [0] rfl h) (fun r_30 u t H1 locs1 ht hvm hw_30 hB hz hk9 hS => ?_)
        have hP1 : va_P (dC, dI) vwCl [(hM, .inr (4, [.int 0, .int wi, .int ma, .int (nI rc), .ref np, .ref nd, .ref nl, .int (nI ac), .ref nk, .ref nu, .ref nt, .int (nI cc), .ref nc, .ref nf, .ref nb, .int no]))] H1 := by
          have h9 : va_P (dC, dI) vwCl [(hM, .inr (4, [.int 0, .int wi, .int ma, .int (nI rc), .ref np, .ref nd, .ref nl, .int (nI ac), .ref nk, .ref nu, .ref nt, .int (nI cc), .ref nc, .ref nf, .ref nb, .int no]))] t.heap := hB
          rw [ht] at h9
          exact h9
        have hP : va_P (dC, dI) vwCl [(hM, .inr (4, [.int 0, .int wi, .int ma, .int (nI rc), .ref np, .ref nd, .ref nl, .int (nI ac), .ref nk, .ref nu, .ref nt, .int (nI cc), .ref nc, .ref nf, .ref nb, .int no])), (np, .inl (cMP, 40, .inl rp)), (nd, .inl (cMD, 40, .inl rl)), (nl, .inl (cML, 40, .inl ri)), (nk, .inl (cMI, 64, .inl ai)), (nu, .inl (cMU, 64, .inl us)), (nt, .inl (cMT, 512, .inl ua)), (nc, .inl (cMC, 100, .inr (.inl cn))), (nf, .inl (cMF, 100, .inl ca)), (nb, .inl (cMB, 100, .inl cb))] H1 := zj (wc := [(hM, .inr (4, [.int co, .int wi, .int ma, .int (nI rc), .ref np, .ref nd, .ref nl, .int (nI ac), .ref nk, .ref nu, .ref nt, .int (nI cc), .ref nc, .ref nf, .ref nb, .int no]))]) hP hD [0] rfl hP1 hk9 rfl rfl
        have hD : va_D A [(hM, .inr (4, [.int 0, .int wi, .int ma, .int (nI rc), .ref np, .ref nd, .ref nl, .int (nI ac), .ref nk, .ref nu, .ref nt, .int (nI cc), .ref nc, .ref nf, .ref nb, .int no])), (np, .inl (cMP, 40, .inl rp)), (nd, .inl (cMD, 40, .inl rl)), (nl, .inl (cML, 40, .inl ri)), (nk, .inl (cMI, 64, .inl ai)), (nu, .inl (cMU, 64, .inl us)), (nt, .inl (cMT, 512, .inl ua)), (nc, .inl (cMC, 100, .inr (.inl cn))), (nf, .inl (cMF, 100, .inl ca)), (nb, .inl (cMB, 100, .inl cb))] := zD_of (ws := [(hM, .inr (4, [.int co, .int wi, .int ma, .int (nI rc), .ref np, .ref nd, .ref nl, .int (nI ac), .ref nk, .ref nu, .ref nt, .int (nI cc), .ref nc, .ref nf, .ref nb, .int no])), (np, .inl (cMP, 40, .inl rp)), (nd, .inl (cMD, 40, .inl rl)), (nl, .inl (cML, 40, .inl ri)), (nk, .inl (cMI, 64, .inl ai)), (nu, .inl (cMU, 64, .inl us)), (nt, .inl (cMT, 512, .inl ua)), (nc, .inl (cMC, 100, .inr (.inl cn))), (nf, .inl (cMF, 100, .inl ca)), (nb, .inl (cMB, 100, .inl cb))]) rfl hD
        generalize H1 = H at hP hS ⊢
        subst hw_30
        refine lv_if_ne (tgt := 38) hx hb d_MO_account_33 (by decide) (fun c_33 => ?_) (fun c_33 => ?_)
        · have b_47 : vp_in (nI ac) 64 := vp_in_nI h64 (by omega)
          refine lv_aload_n hx hb d_MO_account_38 rfl (lv_at hl 0 rfl) ?_
          refine va_get (D := (dC, dI)) (ci := 4) (v := .ref nk) (C := R_MO) (T := T_MO) (N := 16) hx hb htB i_MO hown hK hP 0 rfl rfl 8 (by decide) (htB _ lf_MO_19) (fun _ h9 => h9) rfl d_MO_account_39 ?_
          refine lv_aload_n hx hb d_MO_account_42 rfl (lv_at hl 0 rfl) ?_
          refine va_get (D := (dC, dI)) (ci := 4) (v := .int (nI ac)) (C := R_MO) (T := T_MO) (N := 16) hx hb htB i_MO hown hK hP 0 rfl rfl 7 (by decide) (htB _ lf_MO_85) (fun _ h9 => h9) rfl d_MO_account_43 ?_
          refine lv_iload_n hx hb d_MO_account_46 rfl (lv_at hl 1 rfl) ?_
          refine va_iast hx hb hK hP hD hS 4 3 rfl rfl b_47 d_MO_account_47 (fun H locs hP hD hS => ?_)
          have hP : va_P (dC, dI) vwCl [(hM, .inr (4, [.int 0, .int wi, .int ma, .int (nI rc), .ref np, .ref nd, .ref nl, .int (nI ac), .ref nk, .ref nu, .ref nt, .int (nI cc), .ref nc, .ref nf, .ref nb, .int no])), (np, .inl (cMP, 40, .inl rp)), (nd, .inl (cMD, 40, .inl rl)), (nl, .inl (cML, 40, .inl ri)), (nk, .inl (cMI, 64, .inl (upd ai (nI ac).toNatClampNeg x))), (nu, .inl (cMU, 64, .inl us)), (nt, .inl (cMT, 512, .inl ua)), (nc, .inl (cMC, 100, .inr (.inl cn))), (nf, .inl (cMF, 100, .inl ca)), (nb, .inl (cMB, 100, .inl cb))] H := hP
          have hD : va_D A [(hM, .inr (4, [.int 0, .int wi, .int ma, .int (nI rc), .ref np, .ref nd, .ref nl, .int (nI ac), .ref nk, .ref nu, .ref nt, .int (nI cc), .ref nc, .ref nf, .ref nb, .int no])), (np, .inl (cMP, 40, .inl rp)), (nd, .inl (cMD, 40, .inl rl)), (nl, .inl (cML, 40, .inl ri)), (nk, .inl (cMI, 64, .inl (upd ai (nI ac).toNatClampNeg x))), (nu, .inl (cMU, 64, .inl us)), (nt, .inl (cMT, 512, .inl ua)), (nc, .inl (cMC, 100, .inr (.inl cn))), (nf, .inl (cMF, 100, .inl ca)), (nb, .inl (cMB, 100, .inl cb))] := hD
          rw [nI_clamp (n := ac) (by omega)] at hP hD
          refine lv_aload_n hx hb d_MO_account_48 rfl (lv_at hl 0 rfl) ?_
          refine lv_dup hx hb d_MO_account_49 rfl ?_
          refine va_get (D := (dC, dI)) (ci := 4) (v := .int (nI ac)) (C := R_MO) (T := T_MO) (N := 16) hx hb htB i_MO hown hK hP 0 rfl rfl 7 (by decide) (htB _ lf_MO_85) (fun _ h9 => h9) rfl d_MO_account_50 ?_
          refine lv_iconst (v := 1) hx hb d_MO_account_53 (by decide) ?_
          refine lv_iadd hx hb d_MO_account_54 ?_
          rw [show ((nI ac) + 1 : Int32) = nI (ac + 1) from nI_1 ac]
          refine va_put (D := (dC, dI)) (ci := 4) (v := .int (nI (ac + 1))) (ty := .int) (C := R_MO) (T := T_MO) (N := 16) hx hb htB i_MO t_MO tk_MO n_MO hown hK hP hD hS 0 rfl rfl 7 (by decide) (htB _ lf_MO_85) (fun _ h9 => h9) rfl (by decide +kernel) rfl rfl (Nat.le_of_ble_eq_true rfl) d_MO_account_55 (fun H locs hP hD hS => ?_)
          have hP : va_P (dC, dI) vwCl [(hM, .inr (4, [.int 0, .int wi, .int ma, .int (nI rc), .ref np, .ref nd, .ref nl, .int (nI (ac + 1)), .ref nk, .ref nu, .ref nt, .int (nI cc), .ref nc, .ref nf, .ref nb, .int no])), (np, .inl (cMP, 40, .inl rp)), (nd, .inl (cMD, 40, .inl rl)), (nl, .inl (cML, 40, .inl ri)), (nk, .inl (cMI, 64, .inl (upd ai ac x))), (nu, .inl (cMU, 64, .inl us)), (nt, .inl (cMT, 512, .inl ua)), (nc, .inl (cMC, 100, .inr (.inl cn))), (nf, .inl (cMF, 100, .inl ca)), (nb, .inl (cMB, 100, .inl cb))] H := hP
          have hD : va_D A [(hM, .inr (4, [.int 0, .int wi, .int ma, .int (nI rc), .ref np, .ref nd, .ref nl, .int (nI (ac + 1)), .ref nk, .ref nu, .ref nt, .int (nI cc), .ref nc, .ref nf, .ref nb, .int no])), (np, .inl (cMP, 40, .inl rp)), (nd, .inl (cMD, 40, .inl rl)), (nl, .inl (cML, 40, .inl ri)), (nk, .inl (cMI, 64, .inl (upd ai ac x))), (nu, .inl (cMU, 64, .inl us)), (nt, .inl (cMT, 512, .inl ua)), (nc, .inl (cMC, 100, .inr (.inl cn))), (nf, .inl (cMF, 100, .inl ca)), (nb, .inl (cMB, 100, .inl cb))] := hD
          refine lv_aload_n hx hb d_MO_account_58 rfl (lv_at hl 0 rfl) ?_
          refine va_get (D := (dC, dI)) (ci := 4) (v := .int (nI (ac + 1))) (C := R_MO) (T := T_MO) (N := 16) hx hb htB i_MO hown hK hP 0 rfl rfl 7 (by decide) (htB _ lf_MO_85) (fun _ h9 => h9) rfl d_MO_account_59 ?_
          refine lv_iconst (v := 1) hx hb d_MO_account_62 (by decide) ?_
          refine lv_isub hx hb d_MO_account_63 ?_
          rw [show ((nI (ac + 1)) - 1 : Int32) = nI ac from nI_pred ac]
          have hkk : zk_account ac x = 0 := by unfold zk_account; rw [if_pos hok, if_pos h64]
          exact W.iret (v := nI ac) hx hb hr (fun t ht hW => ⟨⟨_, (), rfl, by rw [hkk] <;> rfl, by show va_P _ _ _ t.heap; rw [ht, hkk]; exact hP⟩, hS.F ht⟩) hS.2.2 d_MO_account_64
        · exact absurd c_33 (by decide)
set_option maxHeartbeats 4000000 in
set_option maxRecDepth 100000 in
theorem c_MO_block (l : Launch) (dC : Nat → ClassId) (dI : Nat → Nat → Nat) (hM np nd nl nk nu nt nc nf nb : Nat) (cMP cMD cML cMI cMU cMT cMC cMF cMB : ClassId) (co wi ma no : Int32) (rc : Nat) (rp rl ri : Nat → Int32) (hrc : rc ≤ 40) (ac : Nat) (ai us ua : Nat → Int32) (hac : ac ≤ 64) (cc : Nat) (cn : Nat → Int64) (ca cb : Nat → Int32) (hcc : cc ≤ 100) (hcb : ∀ j, cb j = 0 ∨ cb j = 1) (x on : Int32) (hD0 : va_D (fun _ => True) [(hM, .inr (4, [.int co, .int wi, .int ma, .int (nI rc), .ref np, .ref nd, .ref nl, .int (nI ac), .ref nk, .ref nu, .ref nt, .int (nI cc), .ref nc, .ref nf, .ref nb, .int no])), (np, .inl (cMP, 40, .inl rp)), (nd, .inl (cMD, 40, .inl rl)), (nl, .inl (cML, 40, .inl ri)), (nk, .inl (cMI, 64, .inl ai)), (nu, .inl (cMU, 64, .inl us)), (nt, .inl (cMT, 512, .inl ua)), (nc, .inl (cMC, 100, .inr (.inl cn))), (nf, .inl (cMF, 100, .inl ca)), (nb, .inl (cMB, 100, .inl cb))]) : Met l y_MO_block (zw y_MO_block b_MO_block 4 (some .boolean)) ({ frames := 1, cells := 0, slots := 0, locals := 22 }) (zPre [.ref hM, .int x, .int on] (dC, dI) [(hM, .inr (4, [.int co, .int wi, .int ma, .int (nI rc), .ref np, .ref nd, .ref nl, .int (nI ac), .ref nk, .ref nu, .ref nt, .int (nI cc), .ref nc, .ref nf, .ref nb, .int no])), (np, .inl (cMP, 40, .inl rp)), (nd, .inl (cMD, 40, .inl rl)), (nl, .inl (cML, 40, .inl ri)), (nk, .inl (cMI, 64, .inl ai)), (nu, .inl (cMU, 64, .inl us)), (nt, .inl (cMT, 512, .inl ua)), (nc, .inl (cMC, 100, .inr (.inl cn))), (nf, .inl (cMF, 100, .inl ca)), (nb, .inl (cMB, 100, .inl cb))] [(cMP, .int), (cMD, .int), (cML, .int), (cMI, .int), (cMU, .int), (cMT, .int), (cMC, .long), (cMF, .int), (cMB, .boolean)]) (va_Qi (fun (r : Int32) (_ : Unit) => r = (if zk_ix cc x = 0 then cb x.toInt.toNat else 0)) (fun (_ : Unit) (t : State) => va_P (dC, dI) vwCl [(hM, .inr (4, [.int (nI (zk_ix cc x)), .int wi, .int ma, .int (nI rc), .ref np, .ref nd, .ref nl, .int (nI ac), .ref nk, .ref nu, .ref nt, .int (nI cc), .ref nc, .ref nf, .ref nb, .int no])), (np, .inl (cMP, 40, .inl rp)), (nd, .inl (cMD, 40, .inl rl)), (nl, .inl (cML, 40, .inl ri)), (nk, .inl (cMI, 64, .inl ai)), (nu, .inl (cMU, 64, .inl us)), (nt, .inl (cMT, 512, .inl ua)), (nc, .inl (cMC, 100, .inr (.inl cn))), (nf, .inl (cMF, 100, .inl ca)), (nb, .inl (cMB, 100, .inl (if zk_ix cc x = 0 then upd cb x.toInt.toNat (vp_nar .boolean on) else cb)))] t.heap) (zA [(hM, .inr (4, [.int co, .int wi, .int ma, .int (nI rc), .ref np, .ref nd, .ref nl, .int (nI ac), .ref nk, .ref nu, .ref nt, .int (nI cc), .ref nc, .ref nf, .ref nb, .int no])), (np, .inl (cMP, 40, .inl rp)), (nd, .inl (cMD, 40, .inl rl)), (nl, .inl (cML, 40, .inl ri)), (nk, .inl (cMI, 64, .inl ai)), (nu, .inl (cMU, 64, .inl us)), (nt, .inl (cMT, 512, .inl ua)), (nc, .inl (cMC, 100, .inr (.inl cn))), (nf, .inl (cMF, 100, .inl ca)), (nb, .inl (cMB, 100, .inl cb))])) 0 0 (zA [(hM, .inr (4, [.int co, .int wi, .int ma, .int (nI rc), .ref np, .ref nd, .ref nl, .int (nI ac), .ref nk, .ref nu, .ref nt, .int (nI cc), .ref nc, .ref nf, .ref nb, .int no])), (np, .inl (cMP, 40, .inl rp)), (nd, .inl (cMD, 40, .inl rl)), (nl, .inl (cML, 40, .inl ri)), (nk, .inl (cMI, 64, .inl ai)), (nu, .inl (cMU, 64, .inl us)), (nt, .inl (cMT, 512, .inl ua)), (nc, .inl (cMC, 100, .inr (.inl cn))), (nf, .inl (cMF, 100, .inl ca)), (nb, .inl (cMB, 100, .inl cb))]) := by
  refine Met.ofW (cc := b_MO_block) (maxL := 4) (ret := (some .boolean)) (by decide) rfl ?_
  intro p e s m args below meth c s₁ B hml hv
  obtain ⟨rfl, hP, hK⟩ := hv
  have hx := B.exec
  have hb := B.bytes
  have hr := B.returns
  have hts := atoms_spec (ws := (zw y_MO_block b_MO_block 4 (some .boolean))) B.pre
  have htB : ∀ w ∈ BG, w.before ([.ref hM, .int x, .int on] : List Value).toArray s = true := fun w h => hts w (List.mem_cons_of_mem _ h)
  have hown : s.vm.findClass R_MO = some m.cls := findClass_of_methodNamed B.named
  have hlocks := B.notSynchronized
  have CF : CallFix p m c b_MO_block 4 s ([.ref hM, .int x, .int on] : List Value).toArray BG R_MO := ⟨hx, hb, hml, hown, htB⟩
  have hP : va_P (dC, dI) vwCl [(hM, .inr (4, [.int co, .int wi, .int ma, .int (nI rc), .ref np, .ref nd, .ref nl, .int (nI ac), .ref nk, .ref nu, .ref nt, .int (nI cc), .ref nc, .ref nf, .ref nb, .int no])), (np, .inl (cMP, 40, .inl rp)), (nd, .inl (cMD, 40, .inl rl)), (nl, .inl (cML, 40, .inl ri)), (nk, .inl (cMI, 64, .inl ai)), (nu, .inl (cMU, 64, .inl us)), (nt, .inl (cMT, 512, .inl ua)), (nc, .inl (cMC, 100, .inr (.inl cn))), (nf, .inl (cMF, 100, .inl ca)), (nb, .inl (cMB, 100, .inl cb))] s.heap := hP
  have hl := lv_entry [.ref hM, .int x, .int on] (n := 4) (Nat.le_of_ble_eq_true rfl)
  rw [lg_entry_eq]
  generalize (lg_sl [.ref hM, .int x, .int on] ++ List.replicate (4 - (lg_sl [.ref hM, .int x, .int on]).length) Slot.unset).toArray = ls at hl ⊢
  have hl : lv_has ls 4 [(0, .ref hM), (1, .int x), (2, .int on)] := hl
  have hD : va_D (zA [(hM, .inr (4, [.int co, .int wi, .int ma, .int (nI rc), .ref np, .ref nd, .ref nl, .int (nI ac), .ref nk, .ref nu, .ref nt, .int (nI cc), .ref nc, .ref nf, .ref nb, .int no])), (np, .inl (cMP, 40, .inl rp)), (nd, .inl (cMD, 40, .inl rl)), (nl, .inl (cML, 40, .inl ri)), (nk, .inl (cMI, 64, .inl ai)), (nu, .inl (cMU, 64, .inl us)), (nt, .inl (cMT, 512, .inl ua)), (nc, .inl (cMC, 100, .inr (.inl cn))), (nf, .inl (cMF, 100, .inl ca)), (nb, .inl (cMB, 100, .inl cb))]) [(hM, .inr (4, [.int co, .int wi, .int ma, .int (nI rc), .ref np, .ref nd, .ref nl, .int (nI ac), .ref nk, .ref nu, .ref nt, .int (nI cc), .ref nc, .ref nf, .ref nb, .int no])), (np, .inl (cMP, 40, .inl rp)), (nd, .inl (cMD, 40, .inl rl)), (nl, .inl (cML, 40, .inl ri)), (nk, .inl (cMI, 64, .inl ai)), (nu, .inl (cMU, 64, .inl us)), (nt, .inl (cMT, 512, .inl ua)), (nc, .inl (cMC, 100, .inr (.inl cn))), (nf, .inl (cMF, 100, .inl ca)), (nb, .inl (cMB, 100, .inl cb))] := zA_of hD0
  have hS : va_S (zA [(hM, .inr (4, [.int co, .int wi, .int ma, .int (nI rc), .ref np, .ref nd, .ref nl, .int (nI ac), .ref nk, .ref nu, .ref nt, .int (nI cc), .ref nc, .ref nf, .ref nb, .int no])), (np, .inl (cMP, 40, .inl rp)), (nd, .inl (cMD, 40, .inl rl)), (nl, .inl (cML, 40, .inl ri)), (nk, .inl (cMI, 64, .inl ai)), (nu, .inl (cMU, 64, .inl us)), (nt, .inl (cMT, 512, .inl ua)), (nc, .inl (cMC, 100, .inr (.inl cn))), (nf, .inl (cMF, 100, .inl ca)), (nb, .inl (cMB, 100, .inl cb))]) s.heap s.heap [] := va_S.rf
  generalize zA [(hM, .inr (4, [.int co, .int wi, .int ma, .int (nI rc), .ref np, .ref nd, .ref nl, .int (nI ac), .ref nk, .ref nu, .ref nt, .int (nI cc), .ref nc, .ref nf, .ref nb, .int no])), (np, .inl (cMP, 40, .inl rp)), (nd, .inl (cMD, 40, .inl rl)), (nl, .inl (cML, 40, .inl ri)), (nk, .inl (cMI, 64, .inl ai)), (nu, .inl (cMU, 64, .inl us)), (nt, .inl (cMT, 512, .inl ua)), (nc, .inl (cMC, 100, .inr (.inl cn))), (nf, .inl (cMF, 100, .inl ca)), (nb, .inl (cMB, 100, .inl cb))] = A at hD hS ⊢
  refine lv_aload_n hx hb d_MO_block_0 rfl (lv_at hl 0 rfl) ?_
  refine lv_iload_n hx hb d_MO_block_1 rfl (lv_at hl 1 rfl) ?_
  refine lv_if_lt (tgt := 17) hx hb d_MO_block_2 (by decide) (fun c_2 => ?_) (fun c_2 => ?_)
  · have hno : ¬ (0 ≤ x.toInt ∧ x.toInt < cc) := fun h => by
      have h0 : x.toInt < 0 := Int32.lt_iff_toInt_lt.mp c_2
      have := h.1
      omega
    refine lv_iconst (v := 0) hx hb d_MO_block_17 (by decide) ?_
    refine lv_iconst (v := 1) hx hb d_MO_block_18 (by decide) ?_
    refine va_calli (zr_V (n := 2) (As := [.int 0, .int 1]) (rest := []) CF (c_MO_goes_a l dC dI hM np nd nl nk nu nt nc nf nb cMP cMD cML cMI cMU cMT cMC cMF cMB co wi ma no rc rp rl ri hrc ac ai us ua hac cc cn ca cb hcc 1 ((hD.sub (ws' := [(hM, .inr (4, [.int co, .int wi, .int ma, .int (nI rc), .ref np, .ref nd, .ref nl, .int (nI ac), .ref nk, .ref nu, .ref nt, .int (nI cc), .ref nc, .ref nf, .ref nb, .int no]))]) [0] (by decide) rfl).weaken (fun _ _ _ _ => trivial))) mc_MO_goes lk_MO_66 mi_MO_goes ms_MO_goes ni_MO rfl rfl (by decide +kernel) ⟨Nat.le_of_ble_eq_true rfl, Nat.le_of_ble_eq_true rfl⟩ (hP.sub (ws' := [(hM, .inr (4, [.int co, .int wi, .int ma, .int (nI rc), .ref np, .ref nd, .ref nl, .int (nI ac), .ref nk, .ref nu, .ref nt, .int (nI cc), .ref nc, .ref nf, .ref nb, .int no]))]) [0] rfl) (hK.sub (tys' := []) [] rfl) rfl rfl rfl hl.1 rfl (lv_room (Nat.le_of_ble_eq_true rfl)) d_MO_block_19 ⟨Nat.zero_le _, Nat.zero_le _⟩) hS (fun q _ h => zA_sub hD (wc := [(hM, .inr (4, [.int co, .int wi, .int ma, .int (nI rc), .ref np, .ref nd, .ref nl, .int (nI ac), .ref nk, .ref nu, .ref nt, .int (nI cc), .ref nc, .ref nf, .ref nb, .int no]))]) [0] rfl h) (fun q h => zA_sub hD (wc := [(hM, .inr (4, [.int co, .int wi, .int ma, .int (nI rc), .ref np, .ref nd, .ref nl, .int (nI ac), .ref nk, .ref nu, .ref nt, .int (nI cc), .ref nc, .ref nf, .ref nb, .int no]))]) [0] rfl h) (fun r_19 u t H1 locs1 ht hvm hw_19 hB hz hk9 hS => ?_)
    have hP1 : va_P (dC, dI) vwCl [(hM, .inr (4, [.int 1, .int wi, .int ma, .int (nI rc), .ref np, .ref nd, .ref nl, .int (nI ac), .ref nk, .ref nu, .ref nt, .int (nI cc), .ref nc, .ref nf, .ref nb, .int no]))] H1 := by
      have h9 : va_P (dC, dI) vwCl [(hM, .inr (4, [.int 1, .int wi, .int ma, .int (nI rc), .ref np, .ref nd, .ref nl, .int (nI ac), .ref nk, .ref nu, .ref nt, .int (nI cc), .ref nc, .ref nf, .ref nb, .int no]))] t.heap := hB
      rw [ht] at h9
      exact h9
    have hP : va_P (dC, dI) vwCl [(hM, .inr (4, [.int 1, .int wi, .int ma, .int (nI rc), .ref np, .ref nd, .ref nl, .int (nI ac), .ref nk, .ref nu, .ref nt, .int (nI cc), .ref nc, .ref nf, .ref nb, .int no])), (np, .inl (cMP, 40, .inl rp)), (nd, .inl (cMD, 40, .inl rl)), (nl, .inl (cML, 40, .inl ri)), (nk, .inl (cMI, 64, .inl ai)), (nu, .inl (cMU, 64, .inl us)), (nt, .inl (cMT, 512, .inl ua)), (nc, .inl (cMC, 100, .inr (.inl cn))), (nf, .inl (cMF, 100, .inl ca)), (nb, .inl (cMB, 100, .inl cb))] H1 := zj (wc := [(hM, .inr (4, [.int co, .int wi, .int ma, .int (nI rc), .ref np, .ref nd, .ref nl, .int (nI ac), .ref nk, .ref nu, .ref nt, .int (nI cc), .ref nc, .ref nf, .ref nb, .int no]))]) hP hD [0] rfl hP1 hk9 rfl rfl
    have hD : va_D A [(hM, .inr (4, [.int 1, .int wi, .int ma, .int (nI rc), .ref np, .ref nd, .ref nl, .int (nI ac), .ref nk, .ref nu, .ref nt, .int (nI cc), .ref nc, .ref nf, .ref nb, .int no])), (np, .inl (cMP, 40, .inl rp)), (nd, .inl (cMD, 40, .inl rl)), (nl, .inl (cML, 40, .inl ri)), (nk, .inl (cMI, 64, .inl ai)), (nu, .inl (cMU, 64, .inl us)), (nt, .inl (cMT, 512, .inl ua)), (nc, .inl (cMC, 100, .inr (.inl cn))), (nf, .inl (cMF, 100, .inl ca)), (nb, .inl (cMB, 100, .inl cb))] := zD_of (ws := [(hM, .inr (4, [.int co, .int wi, .int ma, .int (nI rc), .ref np, .ref nd, .ref nl, .int (nI ac), .ref nk, .ref nu, .ref nt, .int (nI cc), .ref nc, .ref nf, .ref nb, .int no])), (np, .inl (cMP, 40, .inl rp)), (nd, .inl (cMD, 40, .inl rl)), (nl, .inl (cML, 40, .inl ri)), (nk, .inl (cMI, 64, .inl ai)), (nu, .inl (cMU, 64, .inl us)), (nt, .inl (cMT, 512, .inl ua)), (nc, .inl (cMC, 100, .inr (.inl cn))), (nf, .inl (cMF, 100, .inl ca)), (nb, .inl (cMB, 100, .inl cb))]) rfl hD
    generalize H1 = H at hP hS ⊢
    subst hw_19
    refine lv_if_ne (tgt := 27) hx hb d_MO_block_22 (by decide) (fun c_22 => ?_) (fun c_22 => ?_)
    · exact absurd rfl c_22
    · refine lv_iconst (v := 0) hx hb d_MO_block_25 (by decide) ?_
      have hkk : zk_ix cc x = 1 := by unfold zk_ix; rw [if_neg hno]
      exact W.zret (v := 0) (ty := .boolean) hx hb hr (by rfl) (fun t ht hW => ⟨⟨_, (), rfl, by rw [hkk] <;> rfl, by show va_P _ _ _ t.heap; rw [ht, hkk]; exact hP⟩, hS.F ht⟩) hS.2.2 d_MO_block_26
  · have h1 : 0 ≤ x.toInt := Int.not_lt.mp (fun h => c_2 (Int32.lt_iff_toInt_lt.mpr h))
    refine lv_iload_n hx hb d_MO_block_5 rfl (lv_at hl 1 rfl) ?_
    refine lv_aload_n hx hb d_MO_block_6 rfl (lv_at hl 0 rfl) ?_
    refine va_get (D := (dC, dI)) (ci := 4) (v := .int (nI cc)) (C := R_MO) (T := T_MO) (N := 16) hx hb htB i_MO hown hK hP 0 rfl rfl 11 (by decide) (htB _ lf_MO_88) (fun _ h9 => h9) rfl d_MO_block_7 ?_
    refine lv_icmp_ge (tgt := 17) hx hb d_MO_block_10 (by decide) (fun c_10 => ?_) (fun c_10 => ?_)
    · have hno : ¬ (0 ≤ x.toInt ∧ x.toInt < cc) := fun h => by
        have h0 := (zi_le (by omega)).mp c_10
        have := h.2
        omega
      refine lv_iconst (v := 0) hx hb d_MO_block_17 (by decide) ?_
      refine lv_iconst (v := 1) hx hb d_MO_block_18 (by decide) ?_
      refine va_calli (zr_V (n := 2) (As := [.int 0, .int 1]) (rest := []) CF (c_MO_goes_a l dC dI hM np nd nl nk nu nt nc nf nb cMP cMD cML cMI cMU cMT cMC cMF cMB co wi ma no rc rp rl ri hrc ac ai us ua hac cc cn ca cb hcc 1 ((hD.sub (ws' := [(hM, .inr (4, [.int co, .int wi, .int ma, .int (nI rc), .ref np, .ref nd, .ref nl, .int (nI ac), .ref nk, .ref nu, .ref nt, .int (nI cc), .ref nc, .ref nf, .ref nb, .int no]))]) [0] (by decide) rfl).weaken (fun _ _ _ _ => trivial))) mc_MO_goes lk_MO_66 mi_MO_goes ms_MO_goes ni_MO rfl rfl (by decide +kernel) ⟨Nat.le_of_ble_eq_true rfl, Nat.le_of_ble_eq_true rfl⟩ (hP.sub (ws' := [(hM, .inr (4, [.int co, .int wi, .int ma, .int (nI rc), .ref np, .ref nd, .ref nl, .int (nI ac), .ref nk, .ref nu, .ref nt, .int (nI cc), .ref nc, .ref nf, .ref nb, .int no]))]) [0] rfl) (hK.sub (tys' := []) [] rfl) rfl rfl rfl hl.1 rfl (lv_room (Nat.le_of_ble_eq_true rfl)) d_MO_block_19 ⟨Nat.zero_le _, Nat.zero_le _⟩) hS (fun q _ h => zA_sub hD (wc := [(hM, .inr (4, [.int co, .int wi, .int ma, .int (nI rc), .ref np, .ref nd, .ref nl, .int (nI ac), .ref nk, .ref nu, .ref nt, .int (nI cc), .ref nc, .ref nf, .ref nb, .int no]))]) [0] rfl h) (fun q h => zA_sub hD (wc := [(hM, .inr (4, [.int co, .int wi, .int ma, .int (nI rc), .ref np, .ref nd, .ref nl, .int (nI ac), .ref nk, .ref nu, .ref nt, .int (nI cc), .ref nc, .ref nf, .ref nb, .int no]))]) [0] rfl h) (fun r_19 u t H1 locs1 ht hvm hw_19 hB hz hk9 hS => ?_)
      have hP1 : va_P (dC, dI) vwCl [(hM, .inr (4, [.int 1, .int wi, .int ma, .int (nI rc), .ref np, .ref nd, .ref nl, .int (nI ac), .ref nk, .ref nu, .ref nt, .int (nI cc), .ref nc, .ref nf, .ref nb, .int no]))] H1 := by
        have h9 : va_P (dC, dI) vwCl [(hM, .inr (4, [.int 1, .int wi, .int ma, .int (nI rc), .ref np, .ref nd, .ref nl, .int (nI ac), .ref nk, .ref nu, .ref nt, .int (nI cc), .ref nc, .ref nf, .ref nb, .int no]))] t.heap := hB
        rw [ht] at h9
        exact h9
      have hP : va_P (dC, dI) vwCl [(hM, .inr (4, [.int 1, .int wi, .int ma, .int (nI rc), .ref np, .ref nd, .ref nl, .int (nI ac), .ref nk, .ref nu, .ref nt, .int (nI cc), .ref nc, .ref nf, .ref nb, .int no])), (np, .inl (cMP, 40, .inl rp)), (nd, .inl (cMD, 40, .inl rl)), (nl, .inl (cML, 40, .inl ri)), (nk, .inl (cMI, 64, .inl ai)), (nu, .inl (cMU, 64, .inl us)), (nt, .inl (cMT, 512, .inl ua)), (nc, .inl (cMC, 100, .inr (.inl cn))), (nf, .inl (cMF, 100, .inl ca)), (nb, .inl (cMB, 100, .inl cb))] H1 := zj (wc := [(hM, .inr (4, [.int co, .int wi, .int ma, .int (nI rc), .ref np, .ref nd, .ref nl, .int (nI ac), .ref nk, .ref nu, .ref nt, .int (nI cc), .ref nc, .ref nf, .ref nb, .int no]))]) hP hD [0] rfl hP1 hk9 rfl rfl
      have hD : va_D A [(hM, .inr (4, [.int 1, .int wi, .int ma, .int (nI rc), .ref np, .ref nd, .ref nl, .int (nI ac), .ref nk, .ref nu, .ref nt, .int (nI cc), .ref nc, .ref nf, .ref nb, .int no])), (np, .inl (cMP, 40, .inl rp)), (nd, .inl (cMD, 40, .inl rl)), (nl, .inl (cML, 40, .inl ri)), (nk, .inl (cMI, 64, .inl ai)), (nu, .inl (cMU, 64, .inl us)), (nt, .inl (cMT, 512, .inl ua)), (nc, .inl (cMC, 100, .inr (.inl cn))), (nf, .inl (cMF, 100, .inl ca)), (nb, .inl (cMB, 100, .inl cb))] := zD_of (ws := [(hM, .inr (4, [.int co, .int wi, .int ma, .int (nI rc), .ref np, .ref nd, .ref nl, .int (nI ac), .ref nk, .ref nu, .ref nt, .int (nI cc), .ref nc, .ref nf, .ref nb, .int no])), (np, .inl (cMP, 40, .inl rp)), (nd, .inl (cMD, 40, .inl rl)), (nl, .inl (cML, 40, .inl ri)), (nk, .inl (cMI, 64, .inl ai)), (nu, .inl (cMU, 64, .inl us)), (nt, .inl (cMT, 512, .inl ua)), (nc, .inl (cMC, 100, .inr (.inl cn))), (nf, .inl (cMF, 100, .inl ca)), (nb, .inl (cMB, 100, .inl cb))]) rfl hD
      generalize H1 = H at hP hS ⊢
      subst hw_19
      refine lv_if_ne (tgt := 27) hx hb d_MO_block_22 (by decide) (fun c_22 => ?_) (fun c_22 => ?_)
      · exact absurd rfl c_22
      · refine lv_iconst (v := 0) hx hb d_MO_block_25 (by decide) ?_
        have hkk : zk_ix cc x = 1 := by unfold zk_ix; rw [if_neg hno]
        exact W.zret (v := 0) (ty := .boolean) hx hb hr (by rfl) (fun t ht hW => ⟨⟨_, (), rfl, by rw [hkk] <;> rfl, by show va_P _ _ _ t.heap; rw [ht, hkk]; exact hP⟩, hS.F ht⟩) hS.2.2 d_MO_block_26
    · have hok : (0 ≤ x.toInt ∧ x.toInt < cc) := ⟨h1, Int.not_le.mp (fun h => c_10 ((zi_le (by omega)).mpr h))⟩
      refine lv_iconst (v := 1) hx hb d_MO_block_13 (by decide) ?_
      refine lv_goto (tgt := 18) hx hb d_MO_block_14 (by decide) ?_
      refine lv_iconst (v := 1) hx hb d_MO_block_18 (by decide) ?_
      refine va_calli (zr_V (n := 2) (As := [.int 1, .int 1]) (rest := []) CF (c_MO_goes_c l dC dI hM np nd nl nk nu nt nc nf nb cMP cMD cML cMI cMU cMT cMC cMF cMB co wi ma no rc rp rl ri hrc ac ai us ua hac cc cn ca cb hcc ((hD.sub (ws' := [(hM, .inr (4, [.int co, .int wi, .int ma, .int (nI rc), .ref np, .ref nd, .ref nl, .int (nI ac), .ref nk, .ref nu, .ref nt, .int (nI cc), .ref nc, .ref nf, .ref nb, .int no]))]) [0] (by decide) rfl).weaken (fun _ _ _ _ => trivial))) mc_MO_goes lk_MO_66 mi_MO_goes ms_MO_goes ni_MO rfl rfl (by decide +kernel) ⟨Nat.le_of_ble_eq_true rfl, Nat.le_of_ble_eq_true rfl⟩ (hP.sub (ws' := [(hM, .inr (4, [.int co, .int wi, .int ma, .int (nI rc), .ref np, .ref nd, .ref nl, .int (nI ac), .ref nk, .ref nu, .ref nt, .int (nI cc), .ref nc, .ref nf, .ref nb, .int no]))]) [0] rfl) (hK.sub (tys' := []) [] rfl) rfl rfl rfl hl.1 rfl (lv_room (Nat.le_of_ble_eq_true rfl)) d_MO_block_19 ⟨Nat.zero_le _, Nat.zero_le _⟩) hS (fun q _ h => zA_sub hD (wc := [(hM, .inr (4, [.int co, .int wi, .int ma, .int (nI rc), .ref np, .ref nd, .ref nl, .int (nI ac), .ref nk, .ref nu, .ref nt, .int (nI cc), .ref nc, .ref nf, .ref nb, .int no]))]) [0] rfl h) (fun q h => zA_sub hD (wc := [(hM, .inr (4, [.int co, .int wi, .int ma, .int (nI rc), .ref np, .ref nd, .ref nl, .int (nI ac), .ref nk, .ref nu, .ref nt, .int (nI cc), .ref nc, .ref nf, .ref nb, .int no]))]) [0] rfl h) (fun r_19 u t H1 locs1 ht hvm hw_19 hB hz hk9 hS => ?_)
      have hP1 : va_P (dC, dI) vwCl [(hM, .inr (4, [.int 0, .int wi, .int ma, .int (nI rc), .ref np, .ref nd, .ref nl, .int (nI ac), .ref nk, .ref nu, .ref nt, .int (nI cc), .ref nc, .ref nf, .ref nb, .int no]))] H1 := by
        have h9 : va_P (dC, dI) vwCl [(hM, .inr (4, [.int 0, .int wi, .int ma, .int (nI rc), .ref np, .ref nd, .ref nl, .int (nI ac), .ref nk, .ref nu, .ref nt, .int (nI cc), .ref nc, .ref nf, .ref nb, .int no]))] t.heap := hB
        rw [ht] at h9
        exact h9
      have hP : va_P (dC, dI) vwCl [(hM, .inr (4, [.int 0, .int wi, .int ma, .int (nI rc), .ref np, .ref nd, .ref nl, .int (nI ac), .ref nk, .ref nu, .ref nt, .int (nI cc), .ref nc, .ref nf, .ref nb, .int no])), (np, .inl (cMP, 40, .inl rp)), (nd, .inl (cMD, 40, .inl rl)), (nl, .inl (cML, 40, .inl ri)), (nk, .inl (cMI, 64, .inl ai)), (nu, .inl (cMU, 64, .inl us)), (nt, .inl (cMT, 512, .inl ua)), (nc, .inl (cMC, 100, .inr (.inl cn))), (nf, .inl (cMF, 100, .inl ca)), (nb, .inl (cMB, 100, .inl cb))] H1 := zj (wc := [(hM, .inr (4, [.int co, .int wi, .int ma, .int (nI rc), .ref np, .ref nd, .ref nl, .int (nI ac), .ref nk, .ref nu, .ref nt, .int (nI cc), .ref nc, .ref nf, .ref nb, .int no]))]) hP hD [0] rfl hP1 hk9 rfl rfl
      have hD : va_D A [(hM, .inr (4, [.int 0, .int wi, .int ma, .int (nI rc), .ref np, .ref nd, .ref nl, .int (nI ac), .ref nk, .ref nu, .ref nt, .int (nI cc), .ref nc, .ref nf, .ref nb, .int no])), (np, .inl (cMP, 40, .inl rp)), (nd, .inl (cMD, 40, .inl rl)), (nl, .inl (cML, 40, .inl ri)), (nk, .inl (cMI, 64, .inl ai)), (nu, .inl (cMU, 64, .inl us)), (nt, .inl (cMT, 512, .inl ua)), (nc, .inl (cMC, 100, .inr (.inl cn))), (nf, .inl (cMF, 100, .inl ca)), (nb, .inl (cMB, 100, .inl cb))] := zD_of (ws := [(hM, .inr (4, [.int co, .int wi, .int ma, .int (nI rc), .ref np, .ref nd, .ref nl, .int (nI ac), .ref nk, .ref nu, .ref nt, .int (nI cc), .ref nc, .ref nf, .ref nb, .int no])), (np, .inl (cMP, 40, .inl rp)), (nd, .inl (cMD, 40, .inl rl)), (nl, .inl (cML, 40, .inl ri)), (nk, .inl (cMI, 64, .inl ai)), (nu, .inl (cMU, 64, .inl us)), (nt, .inl (cMT, 512, .inl ua)), (nc, .inl (cMC, 100, .inr (.inl cn))), (nf, .inl (cMF, 100, .inl ca)), (nb, .inl (cMB, 100, .inl cb))]) rfl hD
      generalize H1 = H at hP hS ⊢
      subst hw_19
      refine lv_if_ne (tgt := 27) hx hb d_MO_block_22 (by decide) (fun c_22 => ?_) (fun c_22 => ?_)
      · have b_32 : vp_in x 100 := vp_iz hok hcc
        have b_40 := b_32
        refine lv_aload_n hx hb d_MO_block_27 rfl (lv_at hl 0 rfl) ?_
        refine va_get (D := (dC, dI)) (ci := 4) (v := .ref nb) (C := R_MO) (T := T_MO) (N := 16) hx hb htB i_MO hown hK hP 0 rfl rfl 14 (by decide) (htB _ lf_MO_35) (fun _ h9 => h9) rfl d_MO_block_28 ?_
        refine lv_iload_n hx hb d_MO_block_31 rfl (lv_at hl 1 rfl) ?_
        refine va_zald hx hb hK hP 9 8 rfl rfl b_32 d_MO_block_32 ?_
        refine lv_istore_n (lv' := [(3, .int (cb x.toNatClampNeg)), (0, .ref hM), (1, .int x), (2, .int on)]) hx hb d_MO_block_33 rfl hl (by decide) rfl (fun ls hl => ?_)
        refine lv_aload_n hx hb d_MO_block_34 rfl (lv_at hl 1 rfl) ?_
        refine va_get (D := (dC, dI)) (ci := 4) (v := .ref nb) (C := R_MO) (T := T_MO) (N := 16) hx hb htB i_MO hown hK hP 0 rfl rfl 14 (by decide) (htB _ lf_MO_35) (fun _ h9 => h9) rfl d_MO_block_35 ?_
        refine lv_iload_n hx hb d_MO_block_38 rfl (lv_at hl 2 rfl) ?_
        refine lv_iload_n hx hb d_MO_block_39 rfl (lv_at hl 3 rfl) ?_
        refine va_zast hx hb hK hP hD hS 9 8 rfl rfl b_40 d_MO_block_40 (fun H locs hP hD hS => ?_)
        have hP : va_P (dC, dI) vwCl [(hM, .inr (4, [.int 0, .int wi, .int ma, .int (nI rc), .ref np, .ref nd, .ref nl, .int (nI ac), .ref nk, .ref nu, .ref nt, .int (nI cc), .ref nc, .ref nf, .ref nb, .int no])), (np, .inl (cMP, 40, .inl rp)), (nd, .inl (cMD, 40, .inl rl)), (nl, .inl (cML, 40, .inl ri)), (nk, .inl (cMI, 64, .inl ai)), (nu, .inl (cMU, 64, .inl us)), (nt, .inl (cMT, 512, .inl ua)), (nc, .inl (cMC, 100, .inr (.inl cn))), (nf, .inl (cMF, 100, .inl ca)), (nb, .inl (cMB, 100, .inl (upd cb x.toNatClampNeg (vp_nar .boolean on))))] H := hP
        have hD : va_D A [(hM, .inr (4, [.int 0, .int wi, .int ma, .int (nI rc), .ref np, .ref nd, .ref nl, .int (nI ac), .ref nk, .ref nu, .ref nt, .int (nI cc), .ref nc, .ref nf, .ref nb, .int no])), (np, .inl (cMP, 40, .inl rp)), (nd, .inl (cMD, 40, .inl rl)), (nl, .inl (cML, 40, .inl ri)), (nk, .inl (cMI, 64, .inl ai)), (nu, .inl (cMU, 64, .inl us)), (nt, .inl (cMT, 512, .inl ua)), (nc, .inl (cMC, 100, .inr (.inl cn))), (nf, .inl (cMF, 100, .inl ca)), (nb, .inl (cMB, 100, .inl (upd cb x.toNatClampNeg (vp_nar .boolean on))))] := hD
        refine lv_iload_n hx hb d_MO_block_41 rfl (lv_at hl 0 rfl) ?_
        have hkk : zk_ix cc x = 0 := by unfold zk_ix; rw [if_pos hok]
        exact W.zret (v := cb x.toNatClampNeg) (ty := .boolean) hx hb hr (by exact zb_nar (hcb _)) (fun t ht hW => ⟨⟨_, (), rfl, by rw [hkk] <;> rfl, by show va_P _ _ _ t.heap; rw [ht, hkk]; exact hP⟩, hS.F ht⟩) hS.2.2 d_MO_block_42
      · exact absurd c_22 (by decide)
set_option maxHeartbeats 4000000 in
set_option maxRecDepth 100000 in
theorem c_MO_whose (l : Launch) (dC : Nat → ClassId) (dI : Nat → Nat → Nat) (hM np nd nl nk nu nt nc nf nb : Nat) (cMP cMD cML cMI cMU cMT cMC cMF cMB : ClassId) (co wi ma no : Int32) (rc : Nat) (rp rl ri : Nat → Int32) (hrc : rc ≤ 40) (ac : Nat) (ai us ua : Nat → Int32) (hac : ac ≤ 64) (cc : Nat) (cn : Nat → Int64) (ca cb : Nat → Int32) (hcc : cc ≤ 100) (hrl : ∀ j, j < rc → 1 ≤ (rl j).toInt ∧ (rl j).toInt ≤ 8) (x : Int64) (hD0 : va_D (fun _ => True) [(hM, .inr (4, [.int co, .int wi, .int ma, .int (nI rc), .ref np, .ref nd, .ref nl, .int (nI ac), .ref nk, .ref nu, .ref nt, .int (nI cc), .ref nc, .ref nf, .ref nb, .int no])), (np, .inl (cMP, 40, .inl rp)), (nd, .inl (cMD, 40, .inl rl)), (nl, .inl (cML, 40, .inl ri)), (nk, .inl (cMI, 64, .inl ai)), (nu, .inl (cMU, 64, .inl us)), (nt, .inl (cMT, 512, .inl ua)), (nc, .inl (cMC, 100, .inr (.inl cn))), (nf, .inl (cMF, 100, .inl ca)), (nb, .inl (cMB, 100, .inl cb))]) : Met l y_MO_whose (zw y_MO_whose b_MO_whose 3 (some .int)) ({ frames := 3, cells := 0, slots := 0, locals := 74 }) (zPre [.ref hM, .long x] (dC, dI) [(hM, .inr (4, [.int co, .int wi, .int ma, .int (nI rc), .ref np, .ref nd, .ref nl, .int (nI ac), .ref nk, .ref nu, .ref nt, .int (nI cc), .ref nc, .ref nf, .ref nb, .int no])), (np, .inl (cMP, 40, .inl rp)), (nd, .inl (cMD, 40, .inl rl)), (nl, .inl (cML, 40, .inl ri)), (nk, .inl (cMI, 64, .inl ai)), (nu, .inl (cMU, 64, .inl us)), (nt, .inl (cMT, 512, .inl ua)), (nc, .inl (cMC, 100, .inr (.inl cn))), (nf, .inl (cMF, 100, .inl ca)), (nb, .inl (cMB, 100, .inl cb))] [(cMP, .int), (cMD, .int), (cML, .int), (cMI, .int), (cMU, .int), (cMT, .int), (cMC, .long), (cMF, .int), (cMB, .boolean)]) (va_Qi (fun (r : Int32) (_ : Unit) => r = (if zk_num x 18 = 0 then zf_iss rc rp rl ri (zd_dg 19 (zd_N x)) (zd_N x) else 0)) (fun (_ : Unit) (t : State) => va_P (dC, dI) vwCl [(hM, .inr (4, [.int (nI (zk_num x 18)), .int wi, .int ma, .int (nI rc), .ref np, .ref nd, .ref nl, .int (nI ac), .ref nk, .ref nu, .ref nt, .int (nI cc), .ref nc, .ref nf, .ref nb, .int no])), (np, .inl (cMP, 40, .inl rp)), (nd, .inl (cMD, 40, .inl rl)), (nl, .inl (cML, 40, .inl ri)), (nk, .inl (cMI, 64, .inl ai)), (nu, .inl (cMU, 64, .inl us)), (nt, .inl (cMT, 512, .inl ua)), (nc, .inl (cMC, 100, .inr (.inl cn))), (nf, .inl (cMF, 100, .inl ca)), (nb, .inl (cMB, 100, .inl cb))] t.heap) (zA [(hM, .inr (4, [.int co, .int wi, .int ma, .int (nI rc), .ref np, .ref nd, .ref nl, .int (nI ac), .ref nk, .ref nu, .ref nt, .int (nI cc), .ref nc, .ref nf, .ref nb, .int no])), (np, .inl (cMP, 40, .inl rp)), (nd, .inl (cMD, 40, .inl rl)), (nl, .inl (cML, 40, .inl ri)), (nk, .inl (cMI, 64, .inl ai)), (nu, .inl (cMU, 64, .inl us)), (nt, .inl (cMT, 512, .inl ua)), (nc, .inl (cMC, 100, .inr (.inl cn))), (nf, .inl (cMF, 100, .inl ca)), (nb, .inl (cMB, 100, .inl cb))])) 0 0 (zA [(hM, .inr (4, [.int co, .int wi, .int ma, .int (nI rc), .ref np, .ref nd, .ref nl, .int (nI ac), .ref nk, .ref nu, .ref nt, .int (nI cc), .ref nc, .ref nf, .ref nb, .int no])), (np, .inl (cMP, 40, .inl rp)), (nd, .inl (cMD, 40, .inl rl)), (nl, .inl (cML, 40, .inl ri)), (nk, .inl (cMI, 64, .inl ai)), (nu, .inl (cMU, 64, .inl us)), (nt, .inl (cMT, 512, .inl ua)), (nc, .inl (cMC, 100, .inr (.inl cn))), (nf, .inl (cMF, 100, .inl ca)), (nb, .inl (cMB, 100, .inl cb))]) := by
  refine Met.ofW (cc := b_MO_whose) (maxL := 3) (ret := (some .int)) (by decide) rfl ?_
  intro p e s m args below meth c s₁ B hml hv
  obtain ⟨rfl, hP, hK⟩ := hv
  have hx := B.exec
  have hb := B.bytes
  have hr := B.returns
  have hts := atoms_spec (ws := (zw y_MO_whose b_MO_whose 3 (some .int))) B.pre
  have htB : ∀ w ∈ BG, w.before ([.ref hM, .long x] : List Value).toArray s = true := fun w h => hts w (List.mem_cons_of_mem _ h)
  have hown : s.vm.findClass R_MO = some m.cls := findClass_of_methodNamed B.named
  have hlocks := B.notSynchronized
  have CF : CallFix p m c b_MO_whose 3 s ([.ref hM, .long x] : List Value).toArray BG R_MO := ⟨hx, hb, hml, hown, htB⟩
  have hP : va_P (dC, dI) vwCl [(hM, .inr (4, [.int co, .int wi, .int ma, .int (nI rc), .ref np, .ref nd, .ref nl, .int (nI ac), .ref nk, .ref nu, .ref nt, .int (nI cc), .ref nc, .ref nf, .ref nb, .int no])), (np, .inl (cMP, 40, .inl rp)), (nd, .inl (cMD, 40, .inl rl)), (nl, .inl (cML, 40, .inl ri)), (nk, .inl (cMI, 64, .inl ai)), (nu, .inl (cMU, 64, .inl us)), (nt, .inl (cMT, 512, .inl ua)), (nc, .inl (cMC, 100, .inr (.inl cn))), (nf, .inl (cMF, 100, .inl ca)), (nb, .inl (cMB, 100, .inl cb))] s.heap := hP
  have hl := lv_entry [.ref hM, .long x] (n := 3) (Nat.le_of_ble_eq_true rfl)
  rw [lg_entry_eq]
  generalize (lg_sl [.ref hM, .long x] ++ List.replicate (3 - (lg_sl [.ref hM, .long x]).length) Slot.unset).toArray = ls at hl ⊢
  have hl : lv_has ls 3 [(0, .ref hM), (1, .long x)] := hl
  have hD : va_D (zA [(hM, .inr (4, [.int co, .int wi, .int ma, .int (nI rc), .ref np, .ref nd, .ref nl, .int (nI ac), .ref nk, .ref nu, .ref nt, .int (nI cc), .ref nc, .ref nf, .ref nb, .int no])), (np, .inl (cMP, 40, .inl rp)), (nd, .inl (cMD, 40, .inl rl)), (nl, .inl (cML, 40, .inl ri)), (nk, .inl (cMI, 64, .inl ai)), (nu, .inl (cMU, 64, .inl us)), (nt, .inl (cMT, 512, .inl ua)), (nc, .inl (cMC, 100, .inr (.inl cn))), (nf, .inl (cMF, 100, .inl ca)), (nb, .inl (cMB, 100, .inl cb))]) [(hM, .inr (4, [.int co, .int wi, .int ma, .int (nI rc), .ref np, .ref nd, .ref nl, .int (nI ac), .ref nk, .ref nu, .ref nt, .int (nI cc), .ref nc, .ref nf, .ref nb, .int no])), (np, .inl (cMP, 40, .inl rp)), (nd, .inl (cMD, 40, .inl rl)), (nl, .inl (cML, 40, .inl ri)), (nk, .inl (cMI, 64, .inl ai)), (nu, .inl (cMU, 64, .inl us)), (nt, .inl (cMT, 512, .inl ua)), (nc, .inl (cMC, 100, .inr (.inl cn))), (nf, .inl (cMF, 100, .inl ca)), (nb, .inl (cMB, 100, .inl cb))] := zA_of hD0
  have hS : va_S (zA [(hM, .inr (4, [.int co, .int wi, .int ma, .int (nI rc), .ref np, .ref nd, .ref nl, .int (nI ac), .ref nk, .ref nu, .ref nt, .int (nI cc), .ref nc, .ref nf, .ref nb, .int no])), (np, .inl (cMP, 40, .inl rp)), (nd, .inl (cMD, 40, .inl rl)), (nl, .inl (cML, 40, .inl ri)), (nk, .inl (cMI, 64, .inl ai)), (nu, .inl (cMU, 64, .inl us)), (nt, .inl (cMT, 512, .inl ua)), (nc, .inl (cMC, 100, .inr (.inl cn))), (nf, .inl (cMF, 100, .inl ca)), (nb, .inl (cMB, 100, .inl cb))]) s.heap s.heap [] := va_S.rf
  generalize zA [(hM, .inr (4, [.int co, .int wi, .int ma, .int (nI rc), .ref np, .ref nd, .ref nl, .int (nI ac), .ref nk, .ref nu, .ref nt, .int (nI cc), .ref nc, .ref nf, .ref nb, .int no])), (np, .inl (cMP, 40, .inl rp)), (nd, .inl (cMD, 40, .inl rl)), (nl, .inl (cML, 40, .inl ri)), (nk, .inl (cMI, 64, .inl ai)), (nu, .inl (cMU, 64, .inl us)), (nt, .inl (cMT, 512, .inl ua)), (nc, .inl (cMC, 100, .inr (.inl cn))), (nf, .inl (cMF, 100, .inl ca)), (nb, .inl (cMB, 100, .inl cb))] = A at hD hS ⊢
  refine lv_aload_n hx hb d_MO_whose_0 rfl (lv_at hl 0 rfl) ?_
  refine lv_lload_n hx hb d_MO_whose_1 rfl (lv_at hl 1 rfl) ?_
  refine lv_bipush (v := 18) hx hb d_MO_whose_2 (by decide) ?_
  refine vp_callSi (va_Run.run (zr_S (n := 2) (As := [.long x, .int 18]) (rest := [.ref hM]) CF (c_MO_isNumber l dC dI x 18 (by decide)) mc_MO_isNumber lk_MO_74 mt_MO_isNumber ni_MO rfl rfl (by decide +kernel) ⟨Nat.le_of_ble_eq_true rfl, Nat.le_of_ble_eq_true rfl⟩ (hP.sub (ws' := []) [] rfl) (hK.sub (tys' := []) [] rfl) rfl rfl hl.1 rfl (lv_room (Nat.le_of_ble_eq_true rfl)) d_MO_whose_4 ⟨Nat.zero_le _, Nat.zero_le _⟩)) (fun r_4 h_4 => ?_)
  by_cases hok : zok_D x 1 18
  · rw [if_pos hok] at h_4
    subst h_4
    refine lv_iconst (v := 1) hx hb d_MO_whose_7 (by decide) ?_
    refine va_calli (zr_V (n := 2) (As := [.int 1, .int 1]) (rest := []) CF (c_MO_goes_c l dC dI hM np nd nl nk nu nt nc nf nb cMP cMD cML cMI cMU cMT cMC cMF cMB co wi ma no rc rp rl ri hrc ac ai us ua hac cc cn ca cb hcc ((hD.sub (ws' := [(hM, .inr (4, [.int co, .int wi, .int ma, .int (nI rc), .ref np, .ref nd, .ref nl, .int (nI ac), .ref nk, .ref nu, .ref nt, .int (nI cc), .ref nc, .ref nf, .ref nb, .int no]))]) [0] (by decide) rfl).weaken (fun _ _ _ _ => trivial))) mc_MO_goes lk_MO_66 mi_MO_goes ms_MO_goes ni_MO rfl rfl (by decide +kernel) ⟨Nat.le_of_ble_eq_true rfl, Nat.le_of_ble_eq_true rfl⟩ (hP.sub (ws' := [(hM, .inr (4, [.int co, .int wi, .int ma, .int (nI rc), .ref np, .ref nd, .ref nl, .int (nI ac), .ref nk, .ref nu, .ref nt, .int (nI cc), .ref nc, .ref nf, .ref nb, .int no]))]) [0] rfl) (hK.sub (tys' := []) [] rfl) rfl rfl rfl hl.1 rfl (lv_room (Nat.le_of_ble_eq_true rfl)) d_MO_whose_8 ⟨Nat.zero_le _, Nat.zero_le _⟩) hS (fun q _ h => zA_sub hD (wc := [(hM, .inr (4, [.int co, .int wi, .int ma, .int (nI rc), .ref np, .ref nd, .ref nl, .int (nI ac), .ref nk, .ref nu, .ref nt, .int (nI cc), .ref nc, .ref nf, .ref nb, .int no]))]) [0] rfl h) (fun q h => zA_sub hD (wc := [(hM, .inr (4, [.int co, .int wi, .int ma, .int (nI rc), .ref np, .ref nd, .ref nl, .int (nI ac), .ref nk, .ref nu, .ref nt, .int (nI cc), .ref nc, .ref nf, .ref nb, .int no]))]) [0] rfl h) (fun r_8 u t H1 locs1 ht hvm hw_8 hB hz hk9 hS => ?_)
    have hP1 : va_P (dC, dI) vwCl [(hM, .inr (4, [.int 0, .int wi, .int ma, .int (nI rc), .ref np, .ref nd, .ref nl, .int (nI ac), .ref nk, .ref nu, .ref nt, .int (nI cc), .ref nc, .ref nf, .ref nb, .int no]))] H1 := by
      have h9 : va_P (dC, dI) vwCl [(hM, .inr (4, [.int 0, .int wi, .int ma, .int (nI rc), .ref np, .ref nd, .ref nl, .int (nI ac), .ref nk, .ref nu, .ref nt, .int (nI cc), .ref nc, .ref nf, .ref nb, .int no]))] t.heap := hB
      rw [ht] at h9
      exact h9
    have hP : va_P (dC, dI) vwCl [(hM, .inr (4, [.int 0, .int wi, .int ma, .int (nI rc), .ref np, .ref nd, .ref nl, .int (nI ac), .ref nk, .ref nu, .ref nt, .int (nI cc), .ref nc, .ref nf, .ref nb, .int no])), (np, .inl (cMP, 40, .inl rp)), (nd, .inl (cMD, 40, .inl rl)), (nl, .inl (cML, 40, .inl ri)), (nk, .inl (cMI, 64, .inl ai)), (nu, .inl (cMU, 64, .inl us)), (nt, .inl (cMT, 512, .inl ua)), (nc, .inl (cMC, 100, .inr (.inl cn))), (nf, .inl (cMF, 100, .inl ca)), (nb, .inl (cMB, 100, .inl cb))] H1 := zj (wc := [(hM, .inr (4, [.int co, .int wi, .int ma, .int (nI rc), .ref np, .ref nd, .ref nl, .int (nI ac), .ref nk, .ref nu, .ref nt, .int (nI cc), .ref nc, .ref nf, .ref nb, .int no]))]) hP hD [0] rfl hP1 hk9 rfl rfl
    have hD : va_D A [(hM, .inr (4, [.int 0, .int wi, .int ma, .int (nI rc), .ref np, .ref nd, .ref nl, .int (nI ac), .ref nk, .ref nu, .ref nt, .int (nI cc), .ref nc, .ref nf, .ref nb, .int no])), (np, .inl (cMP, 40, .inl rp)), (nd, .inl (cMD, 40, .inl rl)), (nl, .inl (cML, 40, .inl ri)), (nk, .inl (cMI, 64, .inl ai)), (nu, .inl (cMU, 64, .inl us)), (nt, .inl (cMT, 512, .inl ua)), (nc, .inl (cMC, 100, .inr (.inl cn))), (nf, .inl (cMF, 100, .inl ca)), (nb, .inl (cMB, 100, .inl cb))] := zD_of (ws := [(hM, .inr (4, [.int co, .int wi, .int ma, .int (nI rc), .ref np, .ref nd, .ref nl, .int (nI ac), .ref nk, .ref nu, .ref nt, .int (nI cc), .ref nc, .ref nf, .ref nb, .int no])), (np, .inl (cMP, 40, .inl rp)), (nd, .inl (cMD, 40, .inl rl)), (nl, .inl (cML, 40, .inl ri)), (nk, .inl (cMI, 64, .inl ai)), (nu, .inl (cMU, 64, .inl us)), (nt, .inl (cMT, 512, .inl ua)), (nc, .inl (cMC, 100, .inr (.inl cn))), (nf, .inl (cMF, 100, .inl ca)), (nb, .inl (cMB, 100, .inl cb))]) rfl hD
    generalize H1 = H at hP hS ⊢
    subst hw_8
    refine lv_if_eq (tgt := 22) hx hb d_MO_whose_11 (by decide) (fun c_11 => ?_) (fun c_11 => ?_)
    · exact absurd c_11 (by decide)
    · refine lv_aload_n hx hb d_MO_whose_14 rfl (lv_at hl 0 rfl) ?_
      refine lv_lload_n hx hb d_MO_whose_15 rfl (lv_at hl 1 rfl) ?_
      refine vp_callSi (va_Run.run (zr_V (n := 1) (As := [.long x]) (rest := []) CF (x_MO_routed l dC dI hM np nd nl nk nu nt nc nf nb cMP cMD cML cMI cMU cMT cMC cMF cMB 0 wi ma no rc rp rl ri hrc ac ai us ua hac cc cn ca cb hcc hrl x hok.1) mc_MO_routed lk_MO_78 mi_MO_routed ms_MO_routed ni_MO rfl rfl (by decide +kernel) ⟨Nat.le_of_ble_eq_true rfl, Nat.le_of_ble_eq_true rfl⟩ (hP.sub (ws' := [(hM, .inr (4, [.int 0, .int wi, .int ma, .int (nI rc), .ref np, .ref nd, .ref nl, .int (nI ac), .ref nk, .ref nu, .ref nt, .int (nI cc), .ref nc, .ref nf, .ref nb, .int no])), (np, .inl (cMP, 40, .inl rp)), (nd, .inl (cMD, 40, .inl rl)), (nl, .inl (cML, 40, .inl ri)), (nk, .inl (cMI, 64, .inl ai)), (nu, .inl (cMU, 64, .inl us)), (nt, .inl (cMT, 512, .inl ua)), (nc, .inl (cMC, 100, .inr (.inl cn))), (nf, .inl (cMF, 100, .inl ca)), (nb, .inl (cMB, 100, .inl cb))]) [0, 1, 2, 3, 4, 5, 6, 7, 8, 9] rfl) (hK.sub (tys' := [(cMP, .int), (cMD, .int), (cML, .int), (cMI, .int), (cMU, .int), (cMT, .int), (cMC, .long), (cMF, .int), (cMB, .boolean)]) [0, 1, 2, 3, 4, 5, 6, 7, 8] rfl) rfl rfl rfl hl.1 rfl (lv_room (Nat.le_of_ble_eq_true rfl)) d_MO_whose_16 ⟨Nat.zero_le _, Nat.zero_le _⟩)) (fun r_16 h_16 => ?_)
      subst h_16
      refine lv_goto (tgt := 23) hx hb d_MO_whose_19 (by decide) ?_
      have hkk : zk_num x 18 = 0 := by unfold zk_num; rw [if_pos hok]
      exact W.iret (v := zf_iss rc rp rl ri (zd_dg 19 (zd_N x)) (zd_N x)) hx hb hr (fun t ht hW => ⟨⟨_, (), rfl, by rw [hkk] <;> rfl, by show va_P _ _ _ t.heap; rw [ht, hkk]; exact hP⟩, hS.F ht⟩) hS.2.2 d_MO_whose_23
  · rw [if_neg hok] at h_4
    subst h_4
    have hno := hok
    refine lv_iconst (v := 1) hx hb d_MO_whose_7 (by decide) ?_
    refine va_calli (zr_V (n := 2) (As := [.int 0, .int 1]) (rest := []) CF (c_MO_goes_a l dC dI hM np nd nl nk nu nt nc nf nb cMP cMD cML cMI cMU cMT cMC cMF cMB co wi ma no rc rp rl ri hrc ac ai us ua hac cc cn ca cb hcc 1 ((hD.sub (ws' := [(hM, .inr (4, [.int co, .int wi, .int ma, .int (nI rc), .ref np, .ref nd, .ref nl, .int (nI ac), .ref nk, .ref nu, .ref nt, .int (nI cc), .ref nc, .ref nf, .ref nb, .int no]))]) [0] (by decide) rfl).weaken (fun _ _ _ _ => trivial))) mc_MO_goes lk_MO_66 mi_MO_goes ms_MO_goes ni_MO rfl rfl (by decide +kernel) ⟨Nat.le_of_ble_eq_true rfl, Nat.le_of_ble_eq_true rfl⟩ (hP.sub (ws' := [(hM, .inr (4, [.int co, .int wi, .int ma, .int (nI rc), .ref np, .ref nd, .ref nl, .int (nI ac), .ref nk, .ref nu, .ref nt, .int (nI cc), .ref nc, .ref nf, .ref nb, .int no]))]) [0] rfl) (hK.sub (tys' := []) [] rfl) rfl rfl rfl hl.1 rfl (lv_room (Nat.le_of_ble_eq_true rfl)) d_MO_whose_8 ⟨Nat.zero_le _, Nat.zero_le _⟩) hS (fun q _ h => zA_sub hD (wc := [(hM, .inr (4, [.int co, .int wi, .int ma, .int (nI rc), .ref np, .ref nd, .ref nl, .int (nI ac), .ref nk, .ref nu, .ref nt, .int (nI cc), .ref nc, .ref nf, .ref nb, .int no]))]) [0] rfl h) (fun q h => zA_sub hD (wc := [(hM, .inr (4, [.int co, .int wi, .int ma, .int (nI rc), .ref np, .ref nd, .ref nl, .int (nI ac), .ref nk, .ref nu, .ref nt, .int (nI cc), .ref nc, .ref nf, .ref nb, .int no]))]) [0] rfl h) (fun r_8 u t H1 locs1 ht hvm hw_8 hB hz hk9 hS => ?_)
    have hP1 : va_P (dC, dI) vwCl [(hM, .inr (4, [.int 1, .int wi, .int ma, .int (nI rc), .ref np, .ref nd, .ref nl, .int (nI ac), .ref nk, .ref nu, .ref nt, .int (nI cc), .ref nc, .ref nf, .ref nb, .int no]))] H1 := by
      have h9 : va_P (dC, dI) vwCl [(hM, .inr (4, [.int 1, .int wi, .int ma, .int (nI rc), .ref np, .ref nd, .ref nl, .int (nI ac), .ref nk, .ref nu, .ref nt, .int (nI cc), .ref nc, .ref nf, .ref nb, .int no]))] t.heap := hB
      rw [ht] at h9
      exact h9
    have hP : va_P (dC, dI) vwCl [(hM, .inr (4, [.int 1, .int wi, .int ma, .int (nI rc), .ref np, .ref nd, .ref nl, .int (nI ac), .ref nk, .ref nu, .ref nt, .int (nI cc), .ref nc, .ref nf, .ref nb, .int no])), (np, .inl (cMP, 40, .inl rp)), (nd, .inl (cMD, 40, .inl rl)), (nl, .inl (cML, 40, .inl ri)), (nk, .inl (cMI, 64, .inl ai)), (nu, .inl (cMU, 64, .inl us)), (nt, .inl (cMT, 512, .inl ua)), (nc, .inl (cMC, 100, .inr (.inl cn))), (nf, .inl (cMF, 100, .inl ca)), (nb, .inl (cMB, 100, .inl cb))] H1 := zj (wc := [(hM, .inr (4, [.int co, .int wi, .int ma, .int (nI rc), .ref np, .ref nd, .ref nl, .int (nI ac), .ref nk, .ref nu, .ref nt, .int (nI cc), .ref nc, .ref nf, .ref nb, .int no]))]) hP hD [0] rfl hP1 hk9 rfl rfl
    have hD : va_D A [(hM, .inr (4, [.int 1, .int wi, .int ma, .int (nI rc), .ref np, .ref nd, .ref nl, .int (nI ac), .ref nk, .ref nu, .ref nt, .int (nI cc), .ref nc, .ref nf, .ref nb, .int no])), (np, .inl (cMP, 40, .inl rp)), (nd, .inl (cMD, 40, .inl rl)), (nl, .inl (cML, 40, .inl ri)), (nk, .inl (cMI, 64, .inl ai)), (nu, .inl (cMU, 64, .inl us)), (nt, .inl (cMT, 512, .inl ua)), (nc, .inl (cMC, 100, .inr (.inl cn))), (nf, .inl (cMF, 100, .inl ca)), (nb, .inl (cMB, 100, .inl cb))] := zD_of (ws := [(hM, .inr (4, [.int co, .int wi, .int ma, .int (nI rc), .ref np, .ref nd, .ref nl, .int (nI ac), .ref nk, .ref nu, .ref nt, .int (nI cc), .ref nc, .ref nf, .ref nb, .int no])), (np, .inl (cMP, 40, .inl rp)), (nd, .inl (cMD, 40, .inl rl)), (nl, .inl (cML, 40, .inl ri)), (nk, .inl (cMI, 64, .inl ai)), (nu, .inl (cMU, 64, .inl us)), (nt, .inl (cMT, 512, .inl ua)), (nc, .inl (cMC, 100, .inr (.inl cn))), (nf, .inl (cMF, 100, .inl ca)), (nb, .inl (cMB, 100, .inl cb))]) rfl hD
    generalize H1 = H at hP hS ⊢
    subst hw_8
    refine lv_if_eq (tgt := 22) hx hb d_MO_whose_11 (by decide) (fun c_11 => ?_) (fun c_11 => ?_)
    · refine lv_iconst (v := 0) hx hb d_MO_whose_22 (by decide) ?_
      have hkk : zk_num x 18 = 1 := by unfold zk_num; rw [if_neg hno]
      exact W.iret (v := 0) hx hb hr (fun t ht hW => ⟨⟨_, (), rfl, by rw [hkk] <;> rfl, by show va_P _ _ _ t.heap; rw [ht, hkk]; exact hP⟩, hS.F ht⟩) hS.2.2 d_MO_whose_23
    · exact absurd rfl c_11
set_option maxHeartbeats 4000000 in
set_option maxRecDepth 100000 in
theorem c_MO_good (l : Launch) (dC : Nat → ClassId) (dI : Nat → Nat → Nat) (hM np nd nl nk nu nt nc nf nb : Nat) (cMP cMD cML cMI cMU cMT cMC cMF cMB : ClassId) (co wi ma no : Int32) (rc : Nat) (rp rl ri : Nat → Int32) (hrc : rc ≤ 40) (ac : Nat) (ai us ua : Nat → Int32) (hac : ac ≤ 64) (cc : Nat) (cn : Nat → Int64) (ca cb : Nat → Int32) (hcc : cc ≤ 100) (x : Int64) (hD0 : va_D (fun _ => True) [(hM, .inr (4, [.int co, .int wi, .int ma, .int (nI rc), .ref np, .ref nd, .ref nl, .int (nI ac), .ref nk, .ref nu, .ref nt, .int (nI cc), .ref nc, .ref nf, .ref nb, .int no])), (np, .inl (cMP, 40, .inl rp)), (nd, .inl (cMD, 40, .inl rl)), (nl, .inl (cML, 40, .inl ri)), (nk, .inl (cMI, 64, .inl ai)), (nu, .inl (cMU, 64, .inl us)), (nt, .inl (cMT, 512, .inl ua)), (nc, .inl (cMC, 100, .inr (.inl cn))), (nf, .inl (cMF, 100, .inl ca)), (nb, .inl (cMB, 100, .inl cb))]) : Met l y_MO_good (zw y_MO_good b_MO_good 3 (some .boolean)) ({ frames := 2, cells := 0, slots := 0, locals := 46 }) (zPre [.ref hM, .long x] (dC, dI) [(hM, .inr (4, [.int co, .int wi, .int ma, .int (nI rc), .ref np, .ref nd, .ref nl, .int (nI ac), .ref nk, .ref nu, .ref nt, .int (nI cc), .ref nc, .ref nf, .ref nb, .int no])), (np, .inl (cMP, 40, .inl rp)), (nd, .inl (cMD, 40, .inl rl)), (nl, .inl (cML, 40, .inl ri)), (nk, .inl (cMI, 64, .inl ai)), (nu, .inl (cMU, 64, .inl us)), (nt, .inl (cMT, 512, .inl ua)), (nc, .inl (cMC, 100, .inr (.inl cn))), (nf, .inl (cMF, 100, .inl ca)), (nb, .inl (cMB, 100, .inl cb))] [(cMP, .int), (cMD, .int), (cML, .int), (cMI, .int), (cMU, .int), (cMT, .int), (cMC, .long), (cMF, .int), (cMB, .boolean)]) (va_Qi (fun (r : Int32) (_ : Unit) => r = (if zk_num x 18 = 0 then (if zd_cs 19 false (zd_N x) % 10 = 0 then 1 else 0) else 0)) (fun (_ : Unit) (t : State) => va_P (dC, dI) vwCl [(hM, .inr (4, [.int (nI (zk_num x 18)), .int wi, .int ma, .int (nI rc), .ref np, .ref nd, .ref nl, .int (nI ac), .ref nk, .ref nu, .ref nt, .int (nI cc), .ref nc, .ref nf, .ref nb, .int no])), (np, .inl (cMP, 40, .inl rp)), (nd, .inl (cMD, 40, .inl rl)), (nl, .inl (cML, 40, .inl ri)), (nk, .inl (cMI, 64, .inl ai)), (nu, .inl (cMU, 64, .inl us)), (nt, .inl (cMT, 512, .inl ua)), (nc, .inl (cMC, 100, .inr (.inl cn))), (nf, .inl (cMF, 100, .inl ca)), (nb, .inl (cMB, 100, .inl cb))] t.heap) (zA [(hM, .inr (4, [.int co, .int wi, .int ma, .int (nI rc), .ref np, .ref nd, .ref nl, .int (nI ac), .ref nk, .ref nu, .ref nt, .int (nI cc), .ref nc, .ref nf, .ref nb, .int no])), (np, .inl (cMP, 40, .inl rp)), (nd, .inl (cMD, 40, .inl rl)), (nl, .inl (cML, 40, .inl ri)), (nk, .inl (cMI, 64, .inl ai)), (nu, .inl (cMU, 64, .inl us)), (nt, .inl (cMT, 512, .inl ua)), (nc, .inl (cMC, 100, .inr (.inl cn))), (nf, .inl (cMF, 100, .inl ca)), (nb, .inl (cMB, 100, .inl cb))])) 0 0 (zA [(hM, .inr (4, [.int co, .int wi, .int ma, .int (nI rc), .ref np, .ref nd, .ref nl, .int (nI ac), .ref nk, .ref nu, .ref nt, .int (nI cc), .ref nc, .ref nf, .ref nb, .int no])), (np, .inl (cMP, 40, .inl rp)), (nd, .inl (cMD, 40, .inl rl)), (nl, .inl (cML, 40, .inl ri)), (nk, .inl (cMI, 64, .inl ai)), (nu, .inl (cMU, 64, .inl us)), (nt, .inl (cMT, 512, .inl ua)), (nc, .inl (cMC, 100, .inr (.inl cn))), (nf, .inl (cMF, 100, .inl ca)), (nb, .inl (cMB, 100, .inl cb))]) := by
  refine Met.ofW (cc := b_MO_good) (maxL := 3) (ret := (some .boolean)) (by decide) rfl ?_
  intro p e s m args below meth c s₁ B hml hv
  obtain ⟨rfl, hP, hK⟩ := hv
  have hx := B.exec
  have hb := B.bytes
  have hr := B.returns
  have hts := atoms_spec (ws := (zw y_MO_good b_MO_good 3 (some .boolean))) B.pre
  have htB : ∀ w ∈ BG, w.before ([.ref hM, .long x] : List Value).toArray s = true := fun w h => hts w (List.mem_cons_of_mem _ h)
  have hown : s.vm.findClass R_MO = some m.cls := findClass_of_methodNamed B.named
  have hlocks := B.notSynchronized
  have CF : CallFix p m c b_MO_good 3 s ([.ref hM, .long x] : List Value).toArray BG R_MO := ⟨hx, hb, hml, hown, htB⟩
  have hP : va_P (dC, dI) vwCl [(hM, .inr (4, [.int co, .int wi, .int ma, .int (nI rc), .ref np, .ref nd, .ref nl, .int (nI ac), .ref nk, .ref nu, .ref nt, .int (nI cc), .ref nc, .ref nf, .ref nb, .int no])), (np, .inl (cMP, 40, .inl rp)), (nd, .inl (cMD, 40, .inl rl)), (nl, .inl (cML, 40, .inl ri)), (nk, .inl (cMI, 64, .inl ai)), (nu, .inl (cMU, 64, .inl us)), (nt, .inl (cMT, 512, .inl ua)), (nc, .inl (cMC, 100, .inr (.inl cn))), (nf, .inl (cMF, 100, .inl ca)), (nb, .inl (cMB, 100, .inl cb))] s.heap := hP
  have hl := lv_entry [.ref hM, .long x] (n := 3) (Nat.le_of_ble_eq_true rfl)
  rw [lg_entry_eq]
  generalize (lg_sl [.ref hM, .long x] ++ List.replicate (3 - (lg_sl [.ref hM, .long x]).length) Slot.unset).toArray = ls at hl ⊢
  have hl : lv_has ls 3 [(0, .ref hM), (1, .long x)] := hl
  have hD : va_D (zA [(hM, .inr (4, [.int co, .int wi, .int ma, .int (nI rc), .ref np, .ref nd, .ref nl, .int (nI ac), .ref nk, .ref nu, .ref nt, .int (nI cc), .ref nc, .ref nf, .ref nb, .int no])), (np, .inl (cMP, 40, .inl rp)), (nd, .inl (cMD, 40, .inl rl)), (nl, .inl (cML, 40, .inl ri)), (nk, .inl (cMI, 64, .inl ai)), (nu, .inl (cMU, 64, .inl us)), (nt, .inl (cMT, 512, .inl ua)), (nc, .inl (cMC, 100, .inr (.inl cn))), (nf, .inl (cMF, 100, .inl ca)), (nb, .inl (cMB, 100, .inl cb))]) [(hM, .inr (4, [.int co, .int wi, .int ma, .int (nI rc), .ref np, .ref nd, .ref nl, .int (nI ac), .ref nk, .ref nu, .ref nt, .int (nI cc), .ref nc, .ref nf, .ref nb, .int no])), (np, .inl (cMP, 40, .inl rp)), (nd, .inl (cMD, 40, .inl rl)), (nl, .inl (cML, 40, .inl ri)), (nk, .inl (cMI, 64, .inl ai)), (nu, .inl (cMU, 64, .inl us)), (nt, .inl (cMT, 512, .inl ua)), (nc, .inl (cMC, 100, .inr (.inl cn))), (nf, .inl (cMF, 100, .inl ca)), (nb, .inl (cMB, 100, .inl cb))] := zA_of hD0
  have hS : va_S (zA [(hM, .inr (4, [.int co, .int wi, .int ma, .int (nI rc), .ref np, .ref nd, .ref nl, .int (nI ac), .ref nk, .ref nu, .ref nt, .int (nI cc), .ref nc, .ref nf, .ref nb, .int no])), (np, .inl (cMP, 40, .inl rp)), (nd, .inl (cMD, 40, .inl rl)), (nl, .inl (cML, 40, .inl ri)), (nk, .inl (cMI, 64, .inl ai)), (nu, .inl (cMU, 64, .inl us)), (nt, .inl (cMT, 512, .inl ua)), (nc, .inl (cMC, 100, .inr (.inl cn))), (nf, .inl (cMF, 100, .inl ca)), (nb, .inl (cMB, 100, .inl cb))]) s.heap s.heap [] := va_S.rf
  generalize zA [(hM, .inr (4, [.int co, .int wi, .int ma, .int (nI rc), .ref np, .ref nd, .ref nl, .int (nI ac), .ref nk, .ref nu, .ref nt, .int (nI cc), .ref nc, .ref nf, .ref nb, .int no])), (np, .inl (cMP, 40, .inl rp)), (nd, .inl (cMD, 40, .inl rl)), (nl, .inl (cML, 40, .inl ri)), (nk, .inl (cMI, 64, .inl ai)), (nu, .inl (cMU, 64, .inl us)), (nt, .inl (cMT, 512, .inl ua)), (nc, .inl (cMC, 100, .inr (.inl cn))), (nf, .inl (cMF, 100, .inl ca)), (nb, .inl (cMB, 100, .inl cb))] = A at hD hS ⊢
  refine lv_aload_n hx hb d_MO_good_0 rfl (lv_at hl 0 rfl) ?_
  refine lv_lload_n hx hb d_MO_good_1 rfl (lv_at hl 1 rfl) ?_
  refine lv_bipush (v := 18) hx hb d_MO_good_2 (by decide) ?_
  refine vp_callSi (va_Run.run (zr_S (n := 2) (As := [.long x, .int 18]) (rest := [.ref hM]) CF (c_MO_isNumber l dC dI x 18 (by decide)) mc_MO_isNumber lk_MO_74 mt_MO_isNumber ni_MO rfl rfl (by decide +kernel) ⟨Nat.le_of_ble_eq_true rfl, Nat.le_of_ble_eq_true rfl⟩ (hP.sub (ws' := []) [] rfl) (hK.sub (tys' := []) [] rfl) rfl rfl hl.1 rfl (lv_room (Nat.le_of_ble_eq_true rfl)) d_MO_good_4 ⟨Nat.zero_le _, Nat.zero_le _⟩)) (fun r_4 h_4 => ?_)
  by_cases hok : zok_D x 1 18
  · rw [if_pos hok] at h_4
    subst h_4
    refine lv_iconst (v := 1) hx hb d_MO_good_7 (by decide) ?_
    refine va_calli (zr_V (n := 2) (As := [.int 1, .int 1]) (rest := []) CF (c_MO_goes_c l dC dI hM np nd nl nk nu nt nc nf nb cMP cMD cML cMI cMU cMT cMC cMF cMB co wi ma no rc rp rl ri hrc ac ai us ua hac cc cn ca cb hcc ((hD.sub (ws' := [(hM, .inr (4, [.int co, .int wi, .int ma, .int (nI rc), .ref np, .ref nd, .ref nl, .int (nI ac), .ref nk, .ref nu, .ref nt, .int (nI cc), .ref nc, .ref nf, .ref nb, .int no]))]) [0] (by decide) rfl).weaken (fun _ _ _ _ => trivial))) mc_MO_goes lk_MO_66 mi_MO_goes ms_MO_goes ni_MO rfl rfl (by decide +kernel) ⟨Nat.le_of_ble_eq_true rfl, Nat.le_of_ble_eq_true rfl⟩ (hP.sub (ws' := [(hM, .inr (4, [.int co, .int wi, .int ma, .int (nI rc), .ref np, .ref nd, .ref nl, .int (nI ac), .ref nk, .ref nu, .ref nt, .int (nI cc), .ref nc, .ref nf, .ref nb, .int no]))]) [0] rfl) (hK.sub (tys' := []) [] rfl) rfl rfl rfl hl.1 rfl (lv_room (Nat.le_of_ble_eq_true rfl)) d_MO_good_8 ⟨Nat.zero_le _, Nat.zero_le _⟩) hS (fun q _ h => zA_sub hD (wc := [(hM, .inr (4, [.int co, .int wi, .int ma, .int (nI rc), .ref np, .ref nd, .ref nl, .int (nI ac), .ref nk, .ref nu, .ref nt, .int (nI cc), .ref nc, .ref nf, .ref nb, .int no]))]) [0] rfl h) (fun q h => zA_sub hD (wc := [(hM, .inr (4, [.int co, .int wi, .int ma, .int (nI rc), .ref np, .ref nd, .ref nl, .int (nI ac), .ref nk, .ref nu, .ref nt, .int (nI cc), .ref nc, .ref nf, .ref nb, .int no]))]) [0] rfl h) (fun r_8 u t H1 locs1 ht hvm hw_8 hB hz hk9 hS => ?_)
    have hP1 : va_P (dC, dI) vwCl [(hM, .inr (4, [.int 0, .int wi, .int ma, .int (nI rc), .ref np, .ref nd, .ref nl, .int (nI ac), .ref nk, .ref nu, .ref nt, .int (nI cc), .ref nc, .ref nf, .ref nb, .int no]))] H1 := by
      have h9 : va_P (dC, dI) vwCl [(hM, .inr (4, [.int 0, .int wi, .int ma, .int (nI rc), .ref np, .ref nd, .ref nl, .int (nI ac), .ref nk, .ref nu, .ref nt, .int (nI cc), .ref nc, .ref nf, .ref nb, .int no]))] t.heap := hB
      rw [ht] at h9
      exact h9
    have hP : va_P (dC, dI) vwCl [(hM, .inr (4, [.int 0, .int wi, .int ma, .int (nI rc), .ref np, .ref nd, .ref nl, .int (nI ac), .ref nk, .ref nu, .ref nt, .int (nI cc), .ref nc, .ref nf, .ref nb, .int no])), (np, .inl (cMP, 40, .inl rp)), (nd, .inl (cMD, 40, .inl rl)), (nl, .inl (cML, 40, .inl ri)), (nk, .inl (cMI, 64, .inl ai)), (nu, .inl (cMU, 64, .inl us)), (nt, .inl (cMT, 512, .inl ua)), (nc, .inl (cMC, 100, .inr (.inl cn))), (nf, .inl (cMF, 100, .inl ca)), (nb, .inl (cMB, 100, .inl cb))] H1 := zj (wc := [(hM, .inr (4, [.int co, .int wi, .int ma, .int (nI rc), .ref np, .ref nd, .ref nl, .int (nI ac), .ref nk, .ref nu, .ref nt, .int (nI cc), .ref nc, .ref nf, .ref nb, .int no]))]) hP hD [0] rfl hP1 hk9 rfl rfl
    have hD : va_D A [(hM, .inr (4, [.int 0, .int wi, .int ma, .int (nI rc), .ref np, .ref nd, .ref nl, .int (nI ac), .ref nk, .ref nu, .ref nt, .int (nI cc), .ref nc, .ref nf, .ref nb, .int no])), (np, .inl (cMP, 40, .inl rp)), (nd, .inl (cMD, 40, .inl rl)), (nl, .inl (cML, 40, .inl ri)), (nk, .inl (cMI, 64, .inl ai)), (nu, .inl (cMU, 64, .inl us)), (nt, .inl (cMT, 512, .inl ua)), (nc, .inl (cMC, 100, .inr (.inl cn))), (nf, .inl (cMF, 100, .inl ca)), (nb, .inl (cMB, 100, .inl cb))] := zD_of (ws := [(hM, .inr (4, [.int co, .int wi, .int ma, .int (nI rc), .ref np, .ref nd, .ref nl, .int (nI ac), .ref nk, .ref nu, .ref nt, .int (nI cc), .ref nc, .ref nf, .ref nb, .int no])), (np, .inl (cMP, 40, .inl rp)), (nd, .inl (cMD, 40, .inl rl)), (nl, .inl (cML, 40, .inl ri)), (nk, .inl (cMI, 64, .inl ai)), (nu, .inl (cMU, 64, .inl us)), (nt, .inl (cMT, 512, .inl ua)), (nc, .inl (cMC, 100, .inr (.inl cn))), (nf, .inl (cMF, 100, .inl ca)), (nb, .inl (cMB, 100, .inl cb))]) rfl hD
    generalize H1 = H at hP hS ⊢
    subst hw_8
    refine lv_if_eq (tgt := 29) hx hb d_MO_good_11 (by decide) (fun c_11 => ?_) (fun c_11 => ?_)
    · exact absurd c_11 (by decide)
    · refine lv_lload_n hx hb d_MO_good_14 rfl (lv_at hl 1 rfl) ?_
      refine lv_iconst (v := 0) hx hb d_MO_good_15 (by decide) ?_
      refine vp_callSi (va_Run.run (zr_S (n := 2) (As := [.long x, .int 0]) (rest := []) CF (c_MO_sum l dC dI x) mc_MO_sum lk_MO_81 mt_MO_sum ni_MO rfl rfl (by decide +kernel) ⟨Nat.le_of_ble_eq_true rfl, Nat.le_of_ble_eq_true rfl⟩ (hP.sub (ws' := []) [] rfl) (hK.sub (tys' := []) [] rfl) rfl rfl hl.1 rfl (lv_room (Nat.le_of_ble_eq_true rfl)) d_MO_good_16 ⟨Nat.zero_le _, Nat.zero_le _⟩)) (fun r_16 h_16 => ?_)
      subst h_16
      have hcl := zd_cs_le 19 false (zd_N x)
      refine lv_bipush (v := 10) hx hb d_MO_good_19 (by decide) ?_
      refine lv_irem hx hb d_MO_good_21 (by decide) ?_
      rw [show ((nI (zd_cs 19 false (zd_N x))) - (nI (zd_cs 19 false (zd_N x))) / 10 * 10 : Int32) = nI (zd_cs 19 false (zd_N x) % 10) from pk_rem (d := 10) (by omega) (by decide) (by decide)]
      refine lv_if_ne (tgt := 29) hx hb d_MO_good_22 (by decide) (fun c_22 => ?_) (fun c_22 => ?_)
      · have hcs : ¬ zd_cs 19 false (zd_N x) % 10 = 0 := fun h => c_22 (by rw [h]; rfl)
        refine lv_iconst (v := 0) hx hb d_MO_good_29 (by decide) ?_
        have hkk : zk_num x 18 = 0 := by unfold zk_num; rw [if_pos hok]
        exact W.zret (v := 0) (ty := .boolean) hx hb hr (by rfl) (fun t ht hW => ⟨⟨_, (), rfl, by rw [hkk] <;> (rw [if_neg hcs]; rfl), by show va_P _ _ _ t.heap; rw [ht, hkk]; exact hP⟩, hS.F ht⟩) hS.2.2 d_MO_good_30
      · have hcs : zd_cs 19 false (zd_N x) % 10 = 0 := (nI_eq (b := 0) (by omega) (by decide)).mp c_22
        refine lv_iconst (v := 1) hx hb d_MO_good_25 (by decide) ?_
        refine lv_goto (tgt := 30) hx hb d_MO_good_26 (by decide) ?_
        have hkk : zk_num x 18 = 0 := by unfold zk_num; rw [if_pos hok]
        exact W.zret (v := 1) (ty := .boolean) hx hb hr (by rfl) (fun t ht hW => ⟨⟨_, (), rfl, by rw [hkk] <;> (rw [if_pos hcs]; rfl), by show va_P _ _ _ t.heap; rw [ht, hkk]; exact hP⟩, hS.F ht⟩) hS.2.2 d_MO_good_30
  · rw [if_neg hok] at h_4
    subst h_4
    have hno := hok
    refine lv_iconst (v := 1) hx hb d_MO_good_7 (by decide) ?_
    refine va_calli (zr_V (n := 2) (As := [.int 0, .int 1]) (rest := []) CF (c_MO_goes_a l dC dI hM np nd nl nk nu nt nc nf nb cMP cMD cML cMI cMU cMT cMC cMF cMB co wi ma no rc rp rl ri hrc ac ai us ua hac cc cn ca cb hcc 1 ((hD.sub (ws' := [(hM, .inr (4, [.int co, .int wi, .int ma, .int (nI rc), .ref np, .ref nd, .ref nl, .int (nI ac), .ref nk, .ref nu, .ref nt, .int (nI cc), .ref nc, .ref nf, .ref nb, .int no]))]) [0] (by decide) rfl).weaken (fun _ _ _ _ => trivial))) mc_MO_goes lk_MO_66 mi_MO_goes ms_MO_goes ni_MO rfl rfl (by decide +kernel) ⟨Nat.le_of_ble_eq_true rfl, Nat.le_of_ble_eq_true rfl⟩ (hP.sub (ws' := [(hM, .inr (4, [.int co, .int wi, .int ma, .int (nI rc), .ref np, .ref nd, .ref nl, .int (nI ac), .ref nk, .ref nu, .ref nt, .int (nI cc), .ref nc, .ref nf, .ref nb, .int no]))]) [0] rfl) (hK.sub (tys' := []) [] rfl) rfl rfl rfl hl.1 rfl (lv_room (Nat.le_of_ble_eq_true rfl)) d_MO_good_8 ⟨Nat.zero_le _, Nat.zero_le _⟩) hS (fun q _ h => zA_sub hD (wc := [(hM, .inr (4, [.int co, .int wi, .int ma, .int (nI rc), .ref np, .ref nd, .ref nl, .int (nI ac), .ref nk, .ref nu, .ref nt, .int (nI cc), .ref nc, .ref nf, .ref nb, .int no]))]) [0] rfl h) (fun q h => zA_sub hD (wc := [(hM, .inr (4, [.int co, .int wi, .int ma, .int (nI rc), .ref np, .ref nd, .ref nl, .int (nI ac), .ref nk, .ref nu, .ref nt, .int (nI cc), .ref nc, .ref nf, .ref nb, .int no]))]) [0] rfl h) (fun r_8 u t H1 locs1 ht hvm hw_8 hB hz hk9 hS => ?_)
    have hP1 : va_P (dC, dI) vwCl [(hM, .inr (4, [.int 1, .int wi, .int ma, .int (nI rc), .ref np, .ref nd, .ref nl, .int (nI ac), .ref nk, .ref nu, .ref nt, .int (nI cc), .ref nc, .ref nf, .ref nb, .int no]))] H1 := by
      have h9 : va_P (dC, dI) vwCl [(hM, .inr (4, [.int 1, .int wi, .int ma, .int (nI rc), .ref np, .ref nd, .ref nl, .int (nI ac), .ref nk, .ref nu, .ref nt, .int (nI cc), .ref nc, .ref nf, .ref nb, .int no]))] t.heap := hB
      rw [ht] at h9
      exact h9
    have hP : va_P (dC, dI) vwCl [(hM, .inr (4, [.int 1, .int wi, .int ma, .int (nI rc), .ref np, .ref nd, .ref nl, .int (nI ac), .ref nk, .ref nu, .ref nt, .int (nI cc), .ref nc, .ref nf, .ref nb, .int no])), (np, .inl (cMP, 40, .inl rp)), (nd, .inl (cMD, 40, .inl rl)), (nl, .inl (cML, 40, .inl ri)), (nk, .inl (cMI, 64, .inl ai)), (nu, .inl (cMU, 64, .inl us)), (nt, .inl (cMT, 512, .inl ua)), (nc, .inl (cMC, 100, .inr (.inl cn))), (nf, .inl (cMF, 100, .inl ca)), (nb, .inl (cMB, 100, .inl cb))] H1 := zj (wc := [(hM, .inr (4, [.int co, .int wi, .int ma, .int (nI rc), .ref np, .ref nd, .ref nl, .int (nI ac), .ref nk, .ref nu, .ref nt, .int (nI cc), .ref nc, .ref nf, .ref nb, .int no]))]) hP hD [0] rfl hP1 hk9 rfl rfl
    have hD : va_D A [(hM, .inr (4, [.int 1, .int wi, .int ma, .int (nI rc), .ref np, .ref nd, .ref nl, .int (nI ac), .ref nk, .ref nu, .ref nt, .int (nI cc), .ref nc, .ref nf, .ref nb, .int no])), (np, .inl (cMP, 40, .inl rp)), (nd, .inl (cMD, 40, .inl rl)), (nl, .inl (cML, 40, .inl ri)), (nk, .inl (cMI, 64, .inl ai)), (nu, .inl (cMU, 64, .inl us)), (nt, .inl (cMT, 512, .inl ua)), (nc, .inl (cMC, 100, .inr (.inl cn))), (nf, .inl (cMF, 100, .inl ca)), (nb, .inl (cMB, 100, .inl cb))] := zD_of (ws := [(hM, .inr (4, [.int co, .int wi, .int ma, .int (nI rc), .ref np, .ref nd, .ref nl, .int (nI ac), .ref nk, .ref nu, .ref nt, .int (nI cc), .ref nc, .ref nf, .ref nb, .int no])), (np, .inl (cMP, 40, .inl rp)), (nd, .inl (cMD, 40, .inl rl)), (nl, .inl (cML, 40, .inl ri)), (nk, .inl (cMI, 64, .inl ai)), (nu, .inl (cMU, 64, .inl us)), (nt, .inl (cMT, 512, .inl ua)), (nc, .inl (cMC, 100, .inr (.inl cn))), (nf, .inl (cMF, 100, .inl ca)), (nb, .inl (cMB, 100, .inl cb))]) rfl hD
    generalize H1 = H at hP hS ⊢
    subst hw_8
    refine lv_if_eq (tgt := 29) hx hb d_MO_good_11 (by decide) (fun c_11 => ?_) (fun c_11 => ?_)
    · refine lv_iconst (v := 0) hx hb d_MO_good_29 (by decide) ?_
      have hkk : zk_num x 18 = 1 := by unfold zk_num; rw [if_neg hno]
      exact W.zret (v := 0) (ty := .boolean) hx hb hr (by rfl) (fun t ht hW => ⟨⟨_, (), rfl, by rw [hkk] <;> rfl, by show va_P _ _ _ t.heap; rw [ht, hkk]; exact hP⟩, hS.F ht⟩) hS.2.2 d_MO_good_30
    · exact absurd rfl c_11
set_option maxHeartbeats 4000000 in
set_option maxRecDepth 100000 in
theorem c_MO_digit (l : Launch) (dC : Nat → ClassId) (dI : Nat → Nat → Nat) (hM np nd nl nk nu nt nc nf nb : Nat) (cMP cMD cML cMI cMU cMT cMC cMF cMB : ClassId) (co wi ma no : Int32) (rc : Nat) (rp rl ri : Nat → Int32) (hrc : rc ≤ 40) (ac : Nat) (ai us ua : Nat → Int32) (hac : ac ≤ 64) (cc : Nat) (cn : Nat → Int64) (ca cb : Nat → Int32) (hcc : cc ≤ 100) (x : Int64) (hD0 : va_D (fun _ => True) [(hM, .inr (4, [.int co, .int wi, .int ma, .int (nI rc), .ref np, .ref nd, .ref nl, .int (nI ac), .ref nk, .ref nu, .ref nt, .int (nI cc), .ref nc, .ref nf, .ref nb, .int no])), (np, .inl (cMP, 40, .inl rp)), (nd, .inl (cMD, 40, .inl rl)), (nl, .inl (cML, 40, .inl ri)), (nk, .inl (cMI, 64, .inl ai)), (nu, .inl (cMU, 64, .inl us)), (nt, .inl (cMT, 512, .inl ua)), (nc, .inl (cMC, 100, .inr (.inl cn))), (nf, .inl (cMF, 100, .inl ca)), (nb, .inl (cMB, 100, .inl cb))]) : Met l y_MO_digit (zw y_MO_digit b_MO_digit 4 (some .int)) ({ frames := 2, cells := 0, slots := 0, locals := 46 }) (zPre [.ref hM, .long x] (dC, dI) [(hM, .inr (4, [.int co, .int wi, .int ma, .int (nI rc), .ref np, .ref nd, .ref nl, .int (nI ac), .ref nk, .ref nu, .ref nt, .int (nI cc), .ref nc, .ref nf, .ref nb, .int no])), (np, .inl (cMP, 40, .inl rp)), (nd, .inl (cMD, 40, .inl rl)), (nl, .inl (cML, 40, .inl ri)), (nk, .inl (cMI, 64, .inl ai)), (nu, .inl (cMU, 64, .inl us)), (nt, .inl (cMT, 512, .inl ua)), (nc, .inl (cMC, 100, .inr (.inl cn))), (nf, .inl (cMF, 100, .inl ca)), (nb, .inl (cMB, 100, .inl cb))] [(cMP, .int), (cMD, .int), (cML, .int), (cMI, .int), (cMU, .int), (cMT, .int), (cMC, .long), (cMF, .int), (cMB, .boolean)]) (va_Qi (fun (r : Int32) (_ : Unit) => r = (if zk_num x 17 = 0 then nI ((10 - zd_cs 19 false (zd_N x * 10) % 10) % 10) else 0)) (fun (_ : Unit) (t : State) => va_P (dC, dI) vwCl [(hM, .inr (4, [.int (nI (zk_num x 17)), .int wi, .int ma, .int (nI rc), .ref np, .ref nd, .ref nl, .int (nI ac), .ref nk, .ref nu, .ref nt, .int (nI cc), .ref nc, .ref nf, .ref nb, .int no])), (np, .inl (cMP, 40, .inl rp)), (nd, .inl (cMD, 40, .inl rl)), (nl, .inl (cML, 40, .inl ri)), (nk, .inl (cMI, 64, .inl ai)), (nu, .inl (cMU, 64, .inl us)), (nt, .inl (cMT, 512, .inl ua)), (nc, .inl (cMC, 100, .inr (.inl cn))), (nf, .inl (cMF, 100, .inl ca)), (nb, .inl (cMB, 100, .inl cb))] t.heap) (zA [(hM, .inr (4, [.int co, .int wi, .int ma, .int (nI rc), .ref np, .ref nd, .ref nl, .int (nI ac), .ref nk, .ref nu, .ref nt, .int (nI cc), .ref nc, .ref nf, .ref nb, .int no])), (np, .inl (cMP, 40, .inl rp)), (nd, .inl (cMD, 40, .inl rl)), (nl, .inl (cML, 40, .inl ri)), (nk, .inl (cMI, 64, .inl ai)), (nu, .inl (cMU, 64, .inl us)), (nt, .inl (cMT, 512, .inl ua)), (nc, .inl (cMC, 100, .inr (.inl cn))), (nf, .inl (cMF, 100, .inl ca)), (nb, .inl (cMB, 100, .inl cb))])) 0 0 (zA [(hM, .inr (4, [.int co, .int wi, .int ma, .int (nI rc), .ref np, .ref nd, .ref nl, .int (nI ac), .ref nk, .ref nu, .ref nt, .int (nI cc), .ref nc, .ref nf, .ref nb, .int no])), (np, .inl (cMP, 40, .inl rp)), (nd, .inl (cMD, 40, .inl rl)), (nl, .inl (cML, 40, .inl ri)), (nk, .inl (cMI, 64, .inl ai)), (nu, .inl (cMU, 64, .inl us)), (nt, .inl (cMT, 512, .inl ua)), (nc, .inl (cMC, 100, .inr (.inl cn))), (nf, .inl (cMF, 100, .inl ca)), (nb, .inl (cMB, 100, .inl cb))]) := by
  refine Met.ofW (cc := b_MO_digit) (maxL := 4) (ret := (some .int)) (by decide) rfl ?_
  intro p e s m args below meth c s₁ B hml hv
  obtain ⟨rfl, hP, hK⟩ := hv
  have hx := B.exec
  have hb := B.bytes
  have hr := B.returns
  have hts := atoms_spec (ws := (zw y_MO_digit b_MO_digit 4 (some .int))) B.pre
  have htB : ∀ w ∈ BG, w.before ([.ref hM, .long x] : List Value).toArray s = true := fun w h => hts w (List.mem_cons_of_mem _ h)
  have hown : s.vm.findClass R_MO = some m.cls := findClass_of_methodNamed B.named
  have hlocks := B.notSynchronized
  have CF : CallFix p m c b_MO_digit 4 s ([.ref hM, .long x] : List Value).toArray BG R_MO := ⟨hx, hb, hml, hown, htB⟩
  have hP : va_P (dC, dI) vwCl [(hM, .inr (4, [.int co, .int wi, .int ma, .int (nI rc), .ref np, .ref nd, .ref nl, .int (nI ac), .ref nk, .ref nu, .ref nt, .int (nI cc), .ref nc, .ref nf, .ref nb, .int no])), (np, .inl (cMP, 40, .inl rp)), (nd, .inl (cMD, 40, .inl rl)), (nl, .inl (cML, 40, .inl ri)), (nk, .inl (cMI, 64, .inl ai)), (nu, .inl (cMU, 64, .inl us)), (nt, .inl (cMT, 512, .inl ua)), (nc, .inl (cMC, 100, .inr (.inl cn))), (nf, .inl (cMF, 100, .inl ca)), (nb, .inl (cMB, 100, .inl cb))] s.heap := hP
  have hl := lv_entry [.ref hM, .long x] (n := 4) (Nat.le_of_ble_eq_true rfl)
  rw [lg_entry_eq]
  generalize (lg_sl [.ref hM, .long x] ++ List.replicate (4 - (lg_sl [.ref hM, .long x]).length) Slot.unset).toArray = ls at hl ⊢
  have hl : lv_has ls 4 [(0, .ref hM), (1, .long x)] := hl
  have hD : va_D (zA [(hM, .inr (4, [.int co, .int wi, .int ma, .int (nI rc), .ref np, .ref nd, .ref nl, .int (nI ac), .ref nk, .ref nu, .ref nt, .int (nI cc), .ref nc, .ref nf, .ref nb, .int no])), (np, .inl (cMP, 40, .inl rp)), (nd, .inl (cMD, 40, .inl rl)), (nl, .inl (cML, 40, .inl ri)), (nk, .inl (cMI, 64, .inl ai)), (nu, .inl (cMU, 64, .inl us)), (nt, .inl (cMT, 512, .inl ua)), (nc, .inl (cMC, 100, .inr (.inl cn))), (nf, .inl (cMF, 100, .inl ca)), (nb, .inl (cMB, 100, .inl cb))]) [(hM, .inr (4, [.int co, .int wi, .int ma, .int (nI rc), .ref np, .ref nd, .ref nl, .int (nI ac), .ref nk, .ref nu, .ref nt, .int (nI cc), .ref nc, .ref nf, .ref nb, .int no])), (np, .inl (cMP, 40, .inl rp)), (nd, .inl (cMD, 40, .inl rl)), (nl, .inl (cML, 40, .inl ri)), (nk, .inl (cMI, 64, .inl ai)), (nu, .inl (cMU, 64, .inl us)), (nt, .inl (cMT, 512, .inl ua)), (nc, .inl (cMC, 100, .inr (.inl cn))), (nf, .inl (cMF, 100, .inl ca)), (nb, .inl (cMB, 100, .inl cb))] := zA_of hD0
  have hS : va_S (zA [(hM, .inr (4, [.int co, .int wi, .int ma, .int (nI rc), .ref np, .ref nd, .ref nl, .int (nI ac), .ref nk, .ref nu, .ref nt, .int (nI cc), .ref nc, .ref nf, .ref nb, .int no])), (np, .inl (cMP, 40, .inl rp)), (nd, .inl (cMD, 40, .inl rl)), (nl, .inl (cML, 40, .inl ri)), (nk, .inl (cMI, 64, .inl ai)), (nu, .inl (cMU, 64, .inl us)), (nt, .inl (cMT, 512, .inl ua)), (nc, .inl (cMC, 100, .inr (.inl cn))), (nf, .inl (cMF, 100, .inl ca)), (nb, .inl (cMB, 100, .inl cb))]) s.heap s.heap [] := va_S.rf
  generalize zA [(hM, .inr (4, [.int co, .int wi, .int ma, .int (nI rc), .ref np, .ref nd, .ref nl, .int (nI ac), .ref nk, .ref nu, .ref nt, .int (nI cc), .ref nc, .ref nf, .ref nb, .int no])), (np, .inl (cMP, 40, .inl rp)), (nd, .inl (cMD, 40, .inl rl)), (nl, .inl (cML, 40, .inl ri)), (nk, .inl (cMI, 64, .inl ai)), (nu, .inl (cMU, 64, .inl us)), (nt, .inl (cMT, 512, .inl ua)), (nc, .inl (cMC, 100, .inr (.inl cn))), (nf, .inl (cMF, 100, .inl ca)), (nb, .inl (cMB, 100, .inl cb))] = A at hD hS ⊢
  refine lv_aload_n hx hb d_MO_digit_0 rfl (lv_at hl 0 rfl) ?_
  refine lv_lload_n hx hb d_MO_digit_1 rfl (lv_at hl 1 rfl) ?_
  refine lv_bipush (v := 17) hx hb d_MO_digit_2 (by decide) ?_
  refine vp_callSi (va_Run.run (zr_S (n := 2) (As := [.long x, .int 17]) (rest := [.ref hM]) CF (c_MO_isNumber l dC dI x 17 (by decide)) mc_MO_isNumber lk_MO_74 mt_MO_isNumber ni_MO rfl rfl (by decide +kernel) ⟨Nat.le_of_ble_eq_true rfl, Nat.le_of_ble_eq_true rfl⟩ (hP.sub (ws' := []) [] rfl) (hK.sub (tys' := []) [] rfl) rfl rfl hl.1 rfl (lv_room (Nat.le_of_ble_eq_true rfl)) d_MO_digit_4 ⟨Nat.zero_le _, Nat.zero_le _⟩)) (fun r_4 h_4 => ?_)
  by_cases hok : zok_D x 1 17
  · rw [if_pos hok] at h_4
    subst h_4
    refine lv_iconst (v := 1) hx hb d_MO_digit_7 (by decide) ?_
    refine va_calli (zr_V (n := 2) (As := [.int 1, .int 1]) (rest := []) CF (c_MO_goes_c l dC dI hM np nd nl nk nu nt nc nf nb cMP cMD cML cMI cMU cMT cMC cMF cMB co wi ma no rc rp rl ri hrc ac ai us ua hac cc cn ca cb hcc ((hD.sub (ws' := [(hM, .inr (4, [.int co, .int wi, .int ma, .int (nI rc), .ref np, .ref nd, .ref nl, .int (nI ac), .ref nk, .ref nu, .ref nt, .int (nI cc), .ref nc, .ref nf, .ref nb, .int no]))]) [0] (by decide) rfl).weaken (fun _ _ _ _ => trivial))) mc_MO_goes lk_MO_66 mi_MO_goes ms_MO_goes ni_MO rfl rfl (by decide +kernel) ⟨Nat.le_of_ble_eq_true rfl, Nat.le_of_ble_eq_true rfl⟩ (hP.sub (ws' := [(hM, .inr (4, [.int co, .int wi, .int ma, .int (nI rc), .ref np, .ref nd, .ref nl, .int (nI ac), .ref nk, .ref nu, .ref nt, .int (nI cc), .ref nc, .ref nf, .ref nb, .int no]))]) [0] rfl) (hK.sub (tys' := []) [] rfl) rfl rfl rfl hl.1 rfl (lv_room (Nat.le_of_ble_eq_true rfl)) d_MO_digit_8 ⟨Nat.zero_le _, Nat.zero_le _⟩) hS (fun q _ h => zA_sub hD (wc := [(hM, .inr (4, [.int co, .int wi, .int ma, .int (nI rc), .ref np, .ref nd, .ref nl, .int (nI ac), .ref nk, .ref nu, .ref nt, .int (nI cc), .ref nc, .ref nf, .ref nb, .int no]))]) [0] rfl h) (fun q h => zA_sub hD (wc := [(hM, .inr (4, [.int co, .int wi, .int ma, .int (nI rc), .ref np, .ref nd, .ref nl, .int (nI ac), .ref nk, .ref nu, .ref nt, .int (nI cc), .ref nc, .ref nf, .ref nb, .int no]))]) [0] rfl h) (fun r_8 u t H1 locs1 ht hvm hw_8 hB hz hk9 hS => ?_)
    have hP1 : va_P (dC, dI) vwCl [(hM, .inr (4, [.int 0, .int wi, .int ma, .int (nI rc), .ref np, .ref nd, .ref nl, .int (nI ac), .ref nk, .ref nu, .ref nt, .int (nI cc), .ref nc, .ref nf, .ref nb, .int no]))] H1 := by
      have h9 : va_P (dC, dI) vwCl [(hM, .inr (4, [.int 0, .int wi, .int ma, .int (nI rc), .ref np, .ref nd, .ref nl, .int (nI ac), .ref nk, .ref nu, .ref nt, .int (nI cc), .ref nc, .ref nf, .ref nb, .int no]))] t.heap := hB
      rw [ht] at h9
      exact h9
    have hP : va_P (dC, dI) vwCl [(hM, .inr (4, [.int 0, .int wi, .int ma, .int (nI rc), .ref np, .ref nd, .ref nl, .int (nI ac), .ref nk, .ref nu, .ref nt, .int (nI cc), .ref nc, .ref nf, .ref nb, .int no])), (np, .inl (cMP, 40, .inl rp)), (nd, .inl (cMD, 40, .inl rl)), (nl, .inl (cML, 40, .inl ri)), (nk, .inl (cMI, 64, .inl ai)), (nu, .inl (cMU, 64, .inl us)), (nt, .inl (cMT, 512, .inl ua)), (nc, .inl (cMC, 100, .inr (.inl cn))), (nf, .inl (cMF, 100, .inl ca)), (nb, .inl (cMB, 100, .inl cb))] H1 := zj (wc := [(hM, .inr (4, [.int co, .int wi, .int ma, .int (nI rc), .ref np, .ref nd, .ref nl, .int (nI ac), .ref nk, .ref nu, .ref nt, .int (nI cc), .ref nc, .ref nf, .ref nb, .int no]))]) hP hD [0] rfl hP1 hk9 rfl rfl
    have hD : va_D A [(hM, .inr (4, [.int 0, .int wi, .int ma, .int (nI rc), .ref np, .ref nd, .ref nl, .int (nI ac), .ref nk, .ref nu, .ref nt, .int (nI cc), .ref nc, .ref nf, .ref nb, .int no])), (np, .inl (cMP, 40, .inl rp)), (nd, .inl (cMD, 40, .inl rl)), (nl, .inl (cML, 40, .inl ri)), (nk, .inl (cMI, 64, .inl ai)), (nu, .inl (cMU, 64, .inl us)), (nt, .inl (cMT, 512, .inl ua)), (nc, .inl (cMC, 100, .inr (.inl cn))), (nf, .inl (cMF, 100, .inl ca)), (nb, .inl (cMB, 100, .inl cb))] := zD_of (ws := [(hM, .inr (4, [.int co, .int wi, .int ma, .int (nI rc), .ref np, .ref nd, .ref nl, .int (nI ac), .ref nk, .ref nu, .ref nt, .int (nI cc), .ref nc, .ref nf, .ref nb, .int no])), (np, .inl (cMP, 40, .inl rp)), (nd, .inl (cMD, 40, .inl rl)), (nl, .inl (cML, 40, .inl ri)), (nk, .inl (cMI, 64, .inl ai)), (nu, .inl (cMU, 64, .inl us)), (nt, .inl (cMT, 512, .inl ua)), (nc, .inl (cMC, 100, .inr (.inl cn))), (nf, .inl (cMF, 100, .inl ca)), (nb, .inl (cMB, 100, .inl cb))]) rfl hD
    generalize H1 = H at hP hS ⊢
    subst hw_8
    refine lv_if_ne (tgt := 16) hx hb d_MO_digit_11 (by decide) (fun c_11 => ?_) (fun c_11 => ?_)
    · refine lv_iconst (v := 0) hx hb d_MO_digit_16 (by decide) ?_
      refine lv_istore_n (lv' := [(3, .int 0), (0, .ref hM), (1, .long x)]) hx hb d_MO_digit_17 rfl hl (by decide) rfl (fun ls hl => ?_)
      obtain ⟨ex, hN63, hNp⟩ := zl_of (by decide) hok
      have h17 := zd_pw 19 17 (zd_N x) (zd_p19 hN63) hok.2
      have hS10 := zd_c10' hNp
      have hlt : (10 - zd_cs 19 false (zd_N x * 10) % 10) % 10 < 10 := Nat.mod_lt _ (by decide)
      have h10x : (10 : Int64) * x = lN (10 * zd_N x) := (congrArg (fun w => (10 : Int64) * w) ex).trans (lN_mul 10 (zd_N x))
      have loop : ∀ (k d : Nat) (ls : Array Slot), d + k = (10 - zd_cs 19 false (zd_N x * 10) % 10) % 10 → lv_has ls 4 [(3, .int (nI d)), (0, .ref hM), (1, .long x)] → W p l e (headSpec (zw y_MO_digit b_MO_digit 4 (some .int)) ({ frames := 2, cells := 0, slots := 0, locals := 46 })).room s m ([.ref hM, .long x] : List Value).toArray below meth c H locs1 0 0 (MQ below (va_Qi (fun (r : Int32) (_ : Unit) => r = (if zk_num x 17 = 0 then nI ((10 - zd_cs 19 false (zd_N x * 10) % 10) % 10) else 0)) (fun (_ : Unit) (t : State) => va_P (dC, dI) vwCl [(hM, .inr (4, [.int (nI (zk_num x 17)), .int wi, .int ma, .int (nI rc), .ref np, .ref nd, .ref nl, .int (nI ac), .ref nk, .ref nu, .ref nt, .int (nI cc), .ref nc, .ref nf, .ref nb, .int no])), (np, .inl (cMP, 40, .inl rp)), (nd, .inl (cMD, 40, .inl rl)), (nl, .inl (cML, 40, .inl ri)), (nk, .inl (cMI, 64, .inl ai)), (nu, .inl (cMU, 64, .inl us)), (nt, .inl (cMT, 512, .inl ua)), (nc, .inl (cMC, 100, .inr (.inl cn))), (nf, .inl (cMF, 100, .inl ca)), (nb, .inl (cMB, 100, .inl cb))] t.heap) A) ([.ref hM, .long x] : List Value).toArray s 0 0 A) (F0 m 18 ls []) := by
        intro k
        induction k with
        | zero =>
          intro d ls hi hl
          have hd10 : d < 10 := by omega
          have hcsd := zd_c10 hNp hd10
          have hcl := zd_cs_le 19 false (10 * zd_N x + d)
          refine lv_ldc2 (v := 10) hx hb hown (htB _ kl_MO_49) d_MO_digit_18 ?_
          refine lv_lload_n hx hb d_MO_digit_21 rfl (lv_at hl 2 rfl) ?_
          refine lv_lmul hx hb d_MO_digit_22 ?_
          refine lv_iload_n hx hb d_MO_digit_23 rfl (lv_at hl 0 rfl) ?_
          refine lv_i2l (v := (nI d).toInt64) hx hb d_MO_digit_24 rfl ?_
          refine lv_ladd hx hb d_MO_digit_25 ?_
          rw [show ((10 * x) + ((nI d).toInt64) : Int64) = lN (10 * zd_N x + d) from by rw [h10x, nI_l (by omega)]; exact lN_add _ _]
          refine lv_iconst (v := 0) hx hb d_MO_digit_26 (by decide) ?_
          refine vp_callSi (va_Run.run (zr_S (n := 2) (As := [.long (lN (10 * zd_N x + d)), .int 0]) (rest := []) CF (c_MO_sum l dC dI (lN (10 * zd_N x + d))) mc_MO_sum lk_MO_81 mt_MO_sum ni_MO rfl rfl (by decide +kernel) ⟨Nat.le_of_ble_eq_true rfl, Nat.le_of_ble_eq_true rfl⟩ (hP.sub (ws' := []) [] rfl) (hK.sub (tys' := []) [] rfl) rfl rfl hl.1 rfl (lv_room (Nat.le_of_ble_eq_true rfl)) d_MO_digit_27 ⟨Nat.zero_le _, Nat.zero_le _⟩)) (fun r_27 h_27 => ?_)
          rw [zd_lN (by omega)] at h_27
          subst h_27
          refine lv_bipush (v := 10) hx hb d_MO_digit_30 (by decide) ?_
          refine lv_irem hx hb d_MO_digit_32 (by decide) ?_
          rw [show ((nI (zd_cs 19 false (10 * zd_N x + d))) - (nI (zd_cs 19 false (10 * zd_N x + d))) / 10 * 10 : Int32) = nI (zd_cs 19 false (10 * zd_N x + d) % 10) from pk_rem (d := 10) (by omega) (by decide) (by decide)]
          refine lv_if_eq (tgt := 42) hx hb d_MO_digit_33 (by decide) (fun c_33 => ?_) (fun c_33 => ?_)
          · refine lv_iload_n hx hb d_MO_digit_42 rfl (lv_at hl 0 rfl) ?_
            have hkk : zk_num x 17 = 0 := by unfold zk_num; rw [if_pos hok]
            exact W.iret (v := nI d) hx hb hr (fun t ht hW => ⟨⟨_, (), rfl, by rw [hkk] <;> (show nI d = nI ((10 - zd_cs 19 false (zd_N x * 10) % 10) % 10); rw [show d = (10 - zd_cs 19 false (zd_N x * 10) % 10) % 10 by omega]), by show va_P _ _ _ t.heap; rw [ht, hkk]; exact hP⟩, hS.F ht⟩) hS.2.2 d_MO_digit_43
          · exact absurd (by rw [show zd_cs 19 false (10 * zd_N x + d) % 10 = 0 by omega]; rfl) c_33
        | succ k ih =>
          intro d ls hi hl
          have hd10 : d < 10 := by omega
          have hcsd := zd_c10 hNp hd10
          have hcl := zd_cs_le 19 false (10 * zd_N x + d)
          refine lv_ldc2 (v := 10) hx hb hown (htB _ kl_MO_49) d_MO_digit_18 ?_
          refine lv_lload_n hx hb d_MO_digit_21 rfl (lv_at hl 2 rfl) ?_
          refine lv_lmul hx hb d_MO_digit_22 ?_
          refine lv_iload_n hx hb d_MO_digit_23 rfl (lv_at hl 0 rfl) ?_
          refine lv_i2l (v := (nI d).toInt64) hx hb d_MO_digit_24 rfl ?_
          refine lv_ladd hx hb d_MO_digit_25 ?_
          rw [show ((10 * x) + ((nI d).toInt64) : Int64) = lN (10 * zd_N x + d) from by rw [h10x, nI_l (by omega)]; exact lN_add _ _]
          refine lv_iconst (v := 0) hx hb d_MO_digit_26 (by decide) ?_
          refine vp_callSi (va_Run.run (zr_S (n := 2) (As := [.long (lN (10 * zd_N x + d)), .int 0]) (rest := []) CF (c_MO_sum l dC dI (lN (10 * zd_N x + d))) mc_MO_sum lk_MO_81 mt_MO_sum ni_MO rfl rfl (by decide +kernel) ⟨Nat.le_of_ble_eq_true rfl, Nat.le_of_ble_eq_true rfl⟩ (hP.sub (ws' := []) [] rfl) (hK.sub (tys' := []) [] rfl) rfl rfl hl.1 rfl (lv_room (Nat.le_of_ble_eq_true rfl)) d_MO_digit_27 ⟨Nat.zero_le _, Nat.zero_le _⟩)) (fun r_27 h_27 => ?_)
          rw [zd_lN (by omega)] at h_27
          subst h_27
          refine lv_bipush (v := 10) hx hb d_MO_digit_30 (by decide) ?_
          refine lv_irem hx hb d_MO_digit_32 (by decide) ?_
          rw [show ((nI (zd_cs 19 false (10 * zd_N x + d))) - (nI (zd_cs 19 false (10 * zd_N x + d))) / 10 * 10 : Int32) = nI (zd_cs 19 false (10 * zd_N x + d) % 10) from pk_rem (d := 10) (by omega) (by decide) (by decide)]
          refine lv_if_eq (tgt := 42) hx hb d_MO_digit_33 (by decide) (fun c_33 => ?_) (fun c_33 => ?_)
          · exact absurd ((nI_eq (b := 0) (by omega) (by decide)).mp c_33) (by omega)
          · refine lv_iinc (v := (nI d) + 1) (lv' := [(3, .int ((nI d) + 1)), (0, .ref hM), (1, .long x)]) hx hb d_MO_digit_36 hl (k := 0) rfl rfl (by decide) rfl (fun ls hl => ?_)
            refine lv_goto (tgt := 18) hx hb d_MO_digit_39 (by decide) ?_
            rw [nI_1] at hl
            exact ih (d + 1) ls (by omega) (lv_sub hl [0, 1, 2] rfl)
      exact loop ((10 - zd_cs 19 false (zd_N x * 10) % 10) % 10) 0 ls (by omega) (lv_sub hl [0, 1, 2] rfl)
    · exact absurd c_11 (by decide)
  · rw [if_neg hok] at h_4
    subst h_4
    have hno := hok
    refine lv_iconst (v := 1) hx hb d_MO_digit_7 (by decide) ?_
    refine va_calli (zr_V (n := 2) (As := [.int 0, .int 1]) (rest := []) CF (c_MO_goes_a l dC dI hM np nd nl nk nu nt nc nf nb cMP cMD cML cMI cMU cMT cMC cMF cMB co wi ma no rc rp rl ri hrc ac ai us ua hac cc cn ca cb hcc 1 ((hD.sub (ws' := [(hM, .inr (4, [.int co, .int wi, .int ma, .int (nI rc), .ref np, .ref nd, .ref nl, .int (nI ac), .ref nk, .ref nu, .ref nt, .int (nI cc), .ref nc, .ref nf, .ref nb, .int no]))]) [0] (by decide) rfl).weaken (fun _ _ _ _ => trivial))) mc_MO_goes lk_MO_66 mi_MO_goes ms_MO_goes ni_MO rfl rfl (by decide +kernel) ⟨Nat.le_of_ble_eq_true rfl, Nat.le_of_ble_eq_true rfl⟩ (hP.sub (ws' := [(hM, .inr (4, [.int co, .int wi, .int ma, .int (nI rc), .ref np, .ref nd, .ref nl, .int (nI ac), .ref nk, .ref nu, .ref nt, .int (nI cc), .ref nc, .ref nf, .ref nb, .int no]))]) [0] rfl) (hK.sub (tys' := []) [] rfl) rfl rfl rfl hl.1 rfl (lv_room (Nat.le_of_ble_eq_true rfl)) d_MO_digit_8 ⟨Nat.zero_le _, Nat.zero_le _⟩) hS (fun q _ h => zA_sub hD (wc := [(hM, .inr (4, [.int co, .int wi, .int ma, .int (nI rc), .ref np, .ref nd, .ref nl, .int (nI ac), .ref nk, .ref nu, .ref nt, .int (nI cc), .ref nc, .ref nf, .ref nb, .int no]))]) [0] rfl h) (fun q h => zA_sub hD (wc := [(hM, .inr (4, [.int co, .int wi, .int ma, .int (nI rc), .ref np, .ref nd, .ref nl, .int (nI ac), .ref nk, .ref nu, .ref nt, .int (nI cc), .ref nc, .ref nf, .ref nb, .int no]))]) [0] rfl h) (fun r_8 u t H1 locs1 ht hvm hw_8 hB hz hk9 hS => ?_)
    have hP1 : va_P (dC, dI) vwCl [(hM, .inr (4, [.int 1, .int wi, .int ma, .int (nI rc), .ref np, .ref nd, .ref nl, .int (nI ac), .ref nk, .ref nu, .ref nt, .int (nI cc), .ref nc, .ref nf, .ref nb, .int no]))] H1 := by
      have h9 : va_P (dC, dI) vwCl [(hM, .inr (4, [.int 1, .int wi, .int ma, .int (nI rc), .ref np, .ref nd, .ref nl, .int (nI ac), .ref nk, .ref nu, .ref nt, .int (nI cc), .ref nc, .ref nf, .ref nb, .int no]))] t.heap := hB
      rw [ht] at h9
      exact h9
    have hP : va_P (dC, dI) vwCl [(hM, .inr (4, [.int 1, .int wi, .int ma, .int (nI rc), .ref np, .ref nd, .ref nl, .int (nI ac), .ref nk, .ref nu, .ref nt, .int (nI cc), .ref nc, .ref nf, .ref nb, .int no])), (np, .inl (cMP, 40, .inl rp)), (nd, .inl (cMD, 40, .inl rl)), (nl, .inl (cML, 40, .inl ri)), (nk, .inl (cMI, 64, .inl ai)), (nu, .inl (cMU, 64, .inl us)), (nt, .inl (cMT, 512, .inl ua)), (nc, .inl (cMC, 100, .inr (.inl cn))), (nf, .inl (cMF, 100, .inl ca)), (nb, .inl (cMB, 100, .inl cb))] H1 := zj (wc := [(hM, .inr (4, [.int co, .int wi, .int ma, .int (nI rc), .ref np, .ref nd, .ref nl, .int (nI ac), .ref nk, .ref nu, .ref nt, .int (nI cc), .ref nc, .ref nf, .ref nb, .int no]))]) hP hD [0] rfl hP1 hk9 rfl rfl
    have hD : va_D A [(hM, .inr (4, [.int 1, .int wi, .int ma, .int (nI rc), .ref np, .ref nd, .ref nl, .int (nI ac), .ref nk, .ref nu, .ref nt, .int (nI cc), .ref nc, .ref nf, .ref nb, .int no])), (np, .inl (cMP, 40, .inl rp)), (nd, .inl (cMD, 40, .inl rl)), (nl, .inl (cML, 40, .inl ri)), (nk, .inl (cMI, 64, .inl ai)), (nu, .inl (cMU, 64, .inl us)), (nt, .inl (cMT, 512, .inl ua)), (nc, .inl (cMC, 100, .inr (.inl cn))), (nf, .inl (cMF, 100, .inl ca)), (nb, .inl (cMB, 100, .inl cb))] := zD_of (ws := [(hM, .inr (4, [.int co, .int wi, .int ma, .int (nI rc), .ref np, .ref nd, .ref nl, .int (nI ac), .ref nk, .ref nu, .ref nt, .int (nI cc), .ref nc, .ref nf, .ref nb, .int no])), (np, .inl (cMP, 40, .inl rp)), (nd, .inl (cMD, 40, .inl rl)), (nl, .inl (cML, 40, .inl ri)), (nk, .inl (cMI, 64, .inl ai)), (nu, .inl (cMU, 64, .inl us)), (nt, .inl (cMT, 512, .inl ua)), (nc, .inl (cMC, 100, .inr (.inl cn))), (nf, .inl (cMF, 100, .inl ca)), (nb, .inl (cMB, 100, .inl cb))]) rfl hD
    generalize H1 = H at hP hS ⊢
    subst hw_8
    refine lv_if_ne (tgt := 16) hx hb d_MO_digit_11 (by decide) (fun c_11 => ?_) (fun c_11 => ?_)
    · exact absurd rfl c_11
    · refine lv_iconst (v := 0) hx hb d_MO_digit_14 (by decide) ?_
      have hkk : zk_num x 17 = 1 := by unfold zk_num; rw [if_neg hno]
      exact W.iret (v := 0) hx hb hr (fun t ht hW => ⟨⟨_, (), rfl, by rw [hkk] <;> rfl, by show va_P _ _ _ t.heap; rw [ht, hkk]; exact hP⟩, hS.F ht⟩) hS.2.2 d_MO_digit_15
end
