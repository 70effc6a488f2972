section
-- ===== PART A: goes FIRST, ahead of the names: the tables' words, and 'selects' of the private methods out of them =====
/-- a private method of a class that the tables say can be made, by its rows of tables_1 -/
def lw_okq (q : MethodName × Nat) : Prop := (q.1.cls ≠ "java/lang/invoke/MethodHandle" ∧ q.1.cls ≠ "java/lang/invoke/VarHandle") ∧ Cond.instantiable q.1.cls q.2 ∈ tables_1 ∧ Cond.privateMethod q.1 ∈ tables_1 ∧ Cond.instanceMethod q.1 ∈ tables_1
theorem lw_p0 : lw_okq (⟨"java/lang/Throwable", "fillInStackTrace", "(I)Ljava/lang/Throwable;"⟩, 6) := ⟨⟨by decide +kernel, by decide +kernel⟩, List.mem_of_getElem? (i := 167) (by decide +kernel), List.mem_of_getElem? (i := 165) (by decide +kernel), List.mem_of_getElem? (i := 166) (by decide +kernel)⟩
theorem lw_p1 : lw_okq (⟨"CardDirectory$RouteTable", "issuerAt", "(I)I"⟩, 4) := ⟨⟨by decide +kernel, by decide +kernel⟩, List.mem_of_getElem? (i := 28) (by decide +kernel), List.mem_of_getElem? (i := 214) (by decide +kernel), List.mem_of_getElem? (i := 215) (by decide +kernel)⟩
theorem lw_p2 : lw_okq (⟨"CardDirectory", "requireAccount", "(I)V"⟩, 6) := ⟨⟨by decide +kernel, by decide +kernel⟩, List.mem_of_getElem? (i := 14) (by decide +kernel), List.mem_of_getElem? (i := 280) (by decide +kernel), List.mem_of_getElem? (i := 281) (by decide +kernel)⟩
theorem lw_p3 : lw_okq (⟨"CardDirectory", "requireCard", "(I)V"⟩, 6) := ⟨⟨by decide +kernel, by decide +kernel⟩, List.mem_of_getElem? (i := 14) (by decide +kernel), List.mem_of_getElem? (i := 330) (by decide +kernel), List.mem_of_getElem? (i := 331) (by decide +kernel)⟩
theorem lw_p4 : lw_okq (⟨"CardDirectory", "requireTime", "(I)V"⟩, 6) := ⟨⟨by decide +kernel, by decide +kernel⟩, List.mem_of_getElem? (i := 14) (by decide +kernel), List.mem_of_getElem? (i := 376) (by decide +kernel), List.mem_of_getElem? (i := 377) (by decide +kernel)⟩
theorem lw_p5 : lw_okq (⟨"CardDirectoryModel", "placeOf", "(II)I"⟩, 16) := ⟨⟨by decide +kernel, by decide +kernel⟩, List.mem_of_getElem? (i := 413) (by decide +kernel), List.mem_of_getElem? (i := 476) (by decide +kernel), List.mem_of_getElem? (i := 477) (by decide +kernel)⟩
theorem lw_p6 : lw_okq (⟨"CardDirectoryModel", "goes", "(ZZ)Z"⟩, 16) := ⟨⟨by decide +kernel, by decide +kernel⟩, List.mem_of_getElem? (i := 413) (by decide +kernel), List.mem_of_getElem? (i := 487) (by decide +kernel), List.mem_of_getElem? (i := 488) (by decide +kernel)⟩
theorem lw_p7 : lw_okq (⟨"CardDirectoryModel", "routed", "(J)I"⟩, 16) := ⟨⟨by decide +kernel, by decide +kernel⟩, List.mem_of_getElem? (i := 413) (by decide +kernel), List.mem_of_getElem? (i := 506) (by decide +kernel), List.mem_of_getElem? (i := 507) (by decide +kernel)⟩
theorem lw_p8 : lw_okq (⟨"CardDirectoryModel", "cardOf", "(J)I"⟩, 16) := ⟨⟨by decide +kernel, by decide +kernel⟩, List.mem_of_getElem? (i := 413) (by decide +kernel), List.mem_of_getElem? (i := 532) (by decide +kernel), List.mem_of_getElem? (i := 533) (by decide +kernel)⟩
theorem lw_p9 : lw_okq (⟨"CardDirectoryModel", "since", "(II)I"⟩, 16) := ⟨⟨by decide +kernel, by decide +kernel⟩, List.mem_of_getElem? (i := 413) (by decide +kernel), List.mem_of_getElem? (i := 544) (by decide +kernel), List.mem_of_getElem? (i := 545) (by decide +kernel)⟩
def lw_privs_1 : List (MethodName × Nat) := [(⟨"java/lang/Throwable", "fillInStackTrace", "(I)Ljava/lang/Throwable;"⟩, 6), (⟨"CardDirectory$RouteTable", "issuerAt", "(I)I"⟩, 4), (⟨"CardDirectory", "requireAccount", "(I)V"⟩, 6), (⟨"CardDirectory", "requireCard", "(I)V"⟩, 6), (⟨"CardDirectory", "requireTime", "(I)V"⟩, 6), (⟨"CardDirectoryModel", "placeOf", "(II)I"⟩, 16), (⟨"CardDirectoryModel", "goes", "(ZZ)Z"⟩, 16), (⟨"CardDirectoryModel", "routed", "(J)I"⟩, 16), (⟨"CardDirectoryModel", "cardOf", "(J)I"⟩, 16), (⟨"CardDirectoryModel", "since", "(II)I"⟩, 16)]
theorem lw_r1 : ∀ q ∈ lw_privs_1, lw_okq q := List.forall_mem_cons.mpr ⟨lw_p0, List.forall_mem_cons.mpr ⟨lw_p1, List.forall_mem_cons.mpr ⟨lw_p2, List.forall_mem_cons.mpr ⟨lw_p3, List.forall_mem_cons.mpr ⟨lw_p4, List.forall_mem_cons.mpr ⟨lw_p5, List.forall_mem_cons.mpr ⟨lw_p6, List.forall_mem_cons.mpr ⟨lw_p7, List.forall_mem_cons.mpr ⟨lw_p8, List.forall_mem_cons.mpr ⟨lw_p9, fun _ h => absurd h List.not_mem_nil⟩⟩⟩⟩⟩⟩⟩⟩⟩⟩
def lw_privs : List (MethodName × Nat) := lw_privs_1
def lw_tbl : List Cond := k2_sels lw_privs ++ tables_1
theorem lw_privs_ok : ∀ q ∈ lw_privs, lw_okq q := lw_r1
/-! ONE LIST OF WORDS FOR ALL METHODS: the tables' words but the two of static fields; each of them stays true while the tables warm -/
def zw_ok : Cond → Bool
  | .arrayClass _ => true
  | .stringRef .. => true
  | .methodLinkNest .. => true
  | .fieldLinkNest .. => true
  | .laysStatic .. => false
  | w => w.onTables && (w.keeps || w.faceAtom)
def BG : List Cond := lw_tbl.filter (fun w => match w with | .laysStatic .. => false | _ => true)
theorem BG_all : BG.all zw_ok = true := by decide +kernel
def zw_st : Cond → Bool := fun w => match w with | .laysStatic .. => false | _ => true
theorem zm_0 {w : Cond} {i : Nat} (h : (k2_sels lw_privs)[i]? = some w) (hn : zw_st w = true) : w ∈ BG := List.mem_filter.mpr ⟨List.mem_append_left _ (List.mem_of_getElem? h), hn⟩
theorem zm_1 {w : Cond} {i : Nat} (h : tables_1_1[i]? = some w) (hn : zw_st w = true) : w ∈ BG := List.mem_filter.mpr ⟨List.mem_append_right _ (List.mem_append_left _ (List.mem_of_getElem? h)), hn⟩
theorem zm_2 {w : Cond} {i : Nat} (h : tables_1_2[i]? = some w) (hn : zw_st w = true) : w ∈ BG := List.mem_filter.mpr ⟨List.mem_append_right _ (List.mem_append_right _ (List.mem_append_left _ (List.mem_of_getElem? h))), hn⟩
theorem zm_3 {w : Cond} {i : Nat} (h : tables_1_3[i]? = some w) (hn : zw_st w = true) : w ∈ BG := List.mem_filter.mpr ⟨List.mem_append_right _ (List.mem_append_right _ (List.mem_append_right _ (List.mem_of_getElem? h))), hn⟩
theorem BG_tbl {w : Cond} (h : w ∈ BG) : w ∈ lw_tbl := (List.mem_filter.mp h).1
theorem zw_face {a a' : Array Value} {s U : State} (hW : s.WarmedH U.vm) {w : Cond} (h1 : w.onTables = true) (h2 : (w.keeps || w.faceAtom) = true) (h : w.before a s = true) : w.before a' U = true := by
  have h3 : w.keepsFace = true := by cases w <;> first | exact h2 | (simp [Cond.onTables] at h1)
  exact va_tabs h1 (rfl : (s.setVm U.vm).vm = U.vm) (Cond.before_shiftedFace (State.Shifted.of_warmed hW) w h3 h)
theorem zw_move {a a' : Array Value} {s U : State} (hW : s.WarmedH U.vm) {w : Cond} (hw : zw_ok w = true) (h : w.before a s = true) : w.before a' U = true := by
  cases w <;> first
    | (simp [zw_ok] at hw; done)
    | exact word_at hW (Or.inr ⟨_, rfl⟩) h
    | exact va_tabs rfl (rfl : (s.setVm U.vm).vm = U.vm) (Cond.stringRef_warmed hW h)
    | (have h1 := Cond.stringRef_warmed hW h
       simp only [Cond.before, Cond.holds, Cond.value, State.names, State.poolOf?, State.resolvedAt?] at h1 ⊢
       exact h1)
    | exact va_tabs rfl (rfl : (s.setVm U.vm).vm = U.vm) (Cond.methodLinkNest_warmed hW h)
    | exact va_tabs rfl (rfl : (s.setVm U.vm).vm = U.vm) (Cond.fieldLinkNest_warmed hW h)
    | (have hk : _ := hw
       simp only [zw_ok, Bool.and_eq_true] at hk
       exact zw_face hW hk.1 hk.2 h)
def R_AT : String := "CardDirectory$AccountTable"
def T_AT : u_T := fun k => match k with
  | 0 => ("CardDirectory$AccountTable", "issuers", "[I", true)
  | 1 => ("CardDirectory$AccountTable", "useTimes", "[I", true)
  | 2 => ("CardDirectory$AccountTable", "oldest", "[I", true)
  | _ => ("CardDirectory$AccountTable", "count", "I", false)
def t_AT : Nat → FieldType := fun k => match k with
  | 0 => .array .int
  | 1 => .array .int
  | 2 => .array .int
  | _ => .int
theorem n_AT : ∀ a, a < 4 → ∀ b, b < 4 → a ≠ b → (T_AT a).2.1 ≠ (T_AT b).2.1 := by decide +kernel
theorem tk_AT : ∀ k, k < 4 → parseFieldDescriptor (T_AT k).2.2.1 = some (t_AT k) := by decide +kernel
theorem i_AT : ∀ w ∈ u_ws R_AT T_AT 4, w ∈ BG := by decide +kernel
def R_CT : String := "CardDirectory$CardTable"
def T_CT : u_T := fun k => match k with
  | 0 => ("CardDirectory$CardTable", "numbers", "[J", true)
  | 1 => ("CardDirectory$CardTable", "accounts", "[I", true)
  | 2 => ("CardDirectory$CardTable", "blocked", "[Z", true)
  | _ => ("CardDirectory$CardTable", "count", "I", false)
def t_CT : Nat → FieldType := fun k => match k with
  | 0 => .array .long
  | 1 => .array .int
  | 2 => .array .boolean
  | _ => .int
theorem n_CT : ∀ a, a < 4 → ∀ b, b < 4 → a ≠ b → (T_CT a).2.1 ≠ (T_CT b).2.1 := by decide +kernel
theorem tk_CT : ∀ k, k < 4 → parseFieldDescriptor (T_CT k).2.2.1 = some (t_CT k) := by decide +kernel
theorem i_CT : ∀ w ∈ u_ws R_CT T_CT 4, w ∈ BG := by decide +kernel
def R_RT : String := "CardDirectory$RouteTable"
def T_RT : u_T := fun k => match k with
  | 0 => ("CardDirectory$RouteTable", "prefixes", "[I", true)
  | 1 => ("CardDirectory$RouteTable", "lengths", "[I", true)
  | 2 => ("CardDirectory$RouteTable", "issuers", "[I", true)
  | _ => ("CardDirectory$RouteTable", "count", "I", false)
def t_RT : Nat → FieldType := fun k => match k with
  | 0 => .array .int
  | 1 => .array .int
  | 2 => .array .int
  | _ => .int
theorem n_RT : ∀ a, a < 4 → ∀ b, b < 4 → a ≠ b → (T_RT a).2.1 ≠ (T_RT b).2.1 := by decide +kernel
theorem tk_RT : ∀ k, k < 4 → parseFieldDescriptor (T_RT k).2.2.1 = some (t_RT k) := by decide +kernel
theorem i_RT : ∀ w ∈ u_ws R_RT T_RT 4, w ∈ BG := by decide +kernel
def R_CD : String := "CardDirectory"
def T_CD : u_T := fun k => match k with
  | 0 => ("CardDirectory", "window", "I", true)
  | 1 => ("CardDirectory", "many", "I", true)
  | 2 => ("CardDirectory", "routeTable", "LCardDirectory$RouteTable;", true)
  | 3 => ("CardDirectory", "accountTable", "LCardDirectory$AccountTable;", true)
  | 4 => ("CardDirectory", "cardTable", "LCardDirectory$CardTable;", true)
  | _ => ("CardDirectory", "latestTime", "I", false)
def t_CD : Nat → FieldType := fun k => match k with
  | 0 => .int
  | 1 => .int
  | 2 => .object "CardDirectory$RouteTable"
  | 3 => .object "CardDirectory$AccountTable"
  | 4 => .object "CardDirectory$CardTable"
  | _ => .int
theorem n_CD : ∀ a, a < 6 → ∀ b, b < 6 → a ≠ b → (T_CD a).2.1 ≠ (T_CD b).2.1 := by decide +kernel
theorem tk_CD : ∀ k, k < 6 → parseFieldDescriptor (T_CD k).2.2.1 = some (t_CD k) := by decide +kernel
theorem i_CD : ∀ w ∈ u_ws R_CD T_CD 6, w ∈ BG := by decide +kernel
def R_MO : String := "CardDirectoryModel"
def T_MO : u_T := fun k => match k with
  | 0 => ("CardDirectoryModel", "code", "I", false)
  | 1 => ("CardDirectoryModel", "window", "I", true)
  | 2 => ("CardDirectoryModel", "many", "I", true)
  | 3 => ("CardDirectoryModel", "routes", "I", false)
  | 4 => ("CardDirectoryModel", "prefix", "[I", true)
  | 5 => ("CardDirectoryModel", "digits", "[I", true)
  | 6 => ("CardDirectoryModel", "leads", "[I", true)
  | 7 => ("CardDirectoryModel", "accounts", "I", false)
  | 8 => ("CardDirectoryModel", "issuer", "[I", true)
  | 9 => ("CardDirectoryModel", "uses", "[I", true)
  | 10 => ("CardDirectoryModel", "usedAt", "[I", true)
  | 11 => ("CardDirectoryModel", "cards", "I", false)
  | 12 => ("CardDirectoryModel", "card", "[J", true)
  | 13 => ("CardDirectoryModel", "of", "[I", true)
  | 14 => ("CardDirectoryModel", "blocked", "[Z", true)
  | _ => ("CardDirectoryModel", "now", "I", false)
def t_MO : Nat → FieldType := fun k => match k with
  | 0 => .int
  | 1 => .int
  | 2 => .int
  | 3 => .int
  | 4 => .array .int
  | 5 => .array .int
  | 6 => .array .int
  | 7 => .int
  | 8 => .array .int
  | 9 => .array .int
  | 10 => .array .int
  | 11 => .int
  | 12 => .array .long
  | 13 => .array .int
  | 14 => .array .boolean
  | _ => .int
theorem n_MO : ∀ a, a < 16 → ∀ b, b < 16 → a ≠ b → (T_MO a).2.1 ≠ (T_MO b).2.1 := by decide +kernel
theorem tk_MO : ∀ k, k < 16 → parseFieldDescriptor (T_MO k).2.2.1 = some (t_MO k) := by decide +kernel
theorem i_MO : ∀ w ∈ u_ws R_MO T_MO 16, w ∈ BG := by decide +kernel
def R_LW : String := "CardDirectoryLaw"
abbrev vwCl : List vw_C := [(R_AT, T_AT, 4), (R_CT, T_CT, 4), (R_RT, T_RT, 4), (R_CD, T_CD, 6), (R_MO, T_MO, 16)]
abbrev b_AT_init : ByteArray := prog_2_method_1_code
def y_AT_init : MethodName := ⟨R_AT, "<init>", "()V"⟩
set_option maxRecDepth 20000 in
theorem mc_AT_init : Cond.code y_AT_init b_AT_init 1 none ∈ BG := (zm_1 (i := 52) rfl rfl)
abbrev b_AT_isFull : ByteArray := prog_2_method_2_code
def y_AT_isFull : MethodName := ⟨R_AT, "isFull", "()Z"⟩
set_option maxRecDepth 20000 in
theorem mc_AT_isFull : Cond.code y_AT_isFull b_AT_isFull 1 (some .boolean) ∈ BG := (zm_2 (i := 22) rfl rfl)
abbrev b_AT_has : ByteArray := prog_2_method_3_code
def y_AT_has : MethodName := ⟨R_AT, "has", "(I)Z"⟩
set_option maxRecDepth 20000 in
theorem mc_AT_has : Cond.code y_AT_has b_AT_has 2 (some .boolean) ∈ BG := (zm_2 (i := 46) rfl rfl)
abbrev b_AT_add : ByteArray := prog_2_method_4_code
def y_AT_add : MethodName := ⟨R_AT, "add", "(I)I"⟩
set_option maxRecDepth 20000 in
theorem mc_AT_add : Cond.code y_AT_add b_AT_add 2 (some .int) ∈ BG := (zm_2 (i := 27) rfl rfl)
abbrev b_AT_issuerOf : ByteArray := prog_2_method_5_code
def y_AT_issuerOf : MethodName := ⟨R_AT, "issuerOf", "(I)I"⟩
set_option maxRecDepth 20000 in
theorem mc_AT_issuerOf : Cond.code y_AT_issuerOf b_AT_issuerOf 2 (some .int) ∈ BG := (zm_2 (i := 72) rfl rfl)
abbrev b_AT_usesSince : ByteArray := prog_2_method_6_code
def y_AT_usesSince : MethodName := ⟨R_AT, "usesSince", "(II)I"⟩
set_option maxRecDepth 20000 in
theorem mc_AT_usesSince : Cond.code y_AT_usesSince b_AT_usesSince 6 (some .int) ∈ BG := (zm_2 (i := 148) rfl rfl)
abbrev b_AT_noteUse : ByteArray := prog_2_method_7_code
def y_AT_noteUse : MethodName := ⟨R_AT, "noteUse", "(II)V"⟩
set_option maxRecDepth 20000 in
theorem mc_AT_noteUse : Cond.code y_AT_noteUse b_AT_noteUse 3 none ∈ BG := (zm_2 (i := 152) rfl rfl)
abbrev b_CT_init : ByteArray := prog_3_method_1_code
def y_CT_init : MethodName := ⟨R_CT, "<init>", "()V"⟩
set_option maxRecDepth 20000 in
theorem mc_CT_init : Cond.code y_CT_init b_CT_init 1 none ∈ BG := (zm_1 (i := 74) rfl rfl)
abbrev b_CT_isFull : ByteArray := prog_3_method_2_code
def y_CT_isFull : MethodName := ⟨R_CT, "isFull", "()Z"⟩
set_option maxRecDepth 20000 in
theorem mc_CT_isFull : Cond.code y_CT_isFull b_CT_isFull 1 (some .boolean) ∈ BG := (zm_2 (i := 51) rfl rfl)
abbrev b_CT_has : ByteArray := prog_3_method_3_code
def y_CT_has : MethodName := ⟨R_CT, "has", "(I)Z"⟩
set_option maxRecDepth 20000 in
theorem mc_CT_has : Cond.code y_CT_has b_CT_has 2 (some .boolean) ∈ BG := (zm_2 (i := 96) rfl rfl)
abbrev b_CT_find : ByteArray := prog_3_method_4_code
def y_CT_find : MethodName := ⟨R_CT, "find", "(J)I"⟩
set_option maxRecDepth 20000 in
theorem mc_CT_find : Cond.code y_CT_find b_CT_find 4 (some .int) ∈ BG := (zm_2 (i := 77) rfl rfl)
abbrev b_CT_add : ByteArray := prog_3_method_5_code
def y_CT_add : MethodName := ⟨R_CT, "add", "(JI)I"⟩
set_option maxRecDepth 20000 in
theorem mc_CT_add : Cond.code y_CT_add b_CT_add 4 (some .int) ∈ BG := (zm_2 (i := 81) rfl rfl)
abbrev b_CT_numberOf : ByteArray := prog_3_method_6_code
def y_CT_numberOf : MethodName := ⟨R_CT, "numberOf", "(I)J"⟩
set_option maxRecDepth 20000 in
theorem mc_CT_numberOf : Cond.code y_CT_numberOf b_CT_numberOf 2 (some .long) ∈ BG := (zm_2 (i := 170) rfl rfl)
abbrev b_CT_accountOf : ByteArray := prog_3_method_7_code
def y_CT_accountOf : MethodName := ⟨R_CT, "accountOf", "(I)I"⟩
set_option maxRecDepth 20000 in
theorem mc_CT_accountOf : Cond.code y_CT_accountOf b_CT_accountOf 2 (some .int) ∈ BG := (zm_2 (i := 144) rfl rfl)
abbrev b_CT_isBlocked : ByteArray := prog_3_method_8_code
def y_CT_isBlocked : MethodName := ⟨R_CT, "isBlocked", "(I)Z"⟩
set_option maxRecDepth 20000 in
theorem mc_CT_isBlocked : Cond.code y_CT_isBlocked b_CT_isBlocked 2 (some .boolean) ∈ BG := (zm_2 (i := 105) rfl rfl)
abbrev b_CT_setBlocked : ByteArray := prog_3_method_9_code
def y_CT_setBlocked : MethodName := ⟨R_CT, "setBlocked", "(IZ)Z"⟩
set_option maxRecDepth 20000 in
theorem mc_CT_setBlocked : Cond.code y_CT_setBlocked b_CT_setBlocked 4 (some .boolean) ∈ BG := (zm_2 (i := 101) rfl rfl)
abbrev b_RT_init : ByteArray := prog_4_method_1_code
def y_RT_init : MethodName := ⟨R_RT, "<init>", "()V"⟩
set_option maxRecDepth 20000 in
theorem mc_RT_init : Cond.code y_RT_init b_RT_init 1 none ∈ BG := (zm_1 (i := 31) rfl rfl)
abbrev b_RT_isFull : ByteArray := prog_4_method_2_code
def y_RT_isFull : MethodName := ⟨R_RT, "isFull", "()Z"⟩
set_option maxRecDepth 20000 in
theorem mc_RT_isFull : Cond.code y_RT_isFull b_RT_isFull 1 (some .boolean) ∈ BG := (zm_1 (i := 220) rfl rfl)
abbrev b_RT_find : ByteArray := prog_4_method_3_code
def y_RT_find : MethodName := ⟨R_RT, "find", "(JI)I"⟩
set_option maxRecDepth 20000 in
theorem mc_RT_find : Cond.code y_RT_find b_RT_find 5 (some .int) ∈ BG := (zm_1 (i := 208) rfl rfl)
abbrev b_RT_add : ByteArray := prog_4_method_4_code
def y_RT_add : MethodName := ⟨R_RT, "add", "(III)V"⟩
set_option maxRecDepth 20000 in
theorem mc_RT_add : Cond.code y_RT_add b_RT_add 4 none ∈ BG := (zm_2 (i := 0) rfl rfl)
abbrev b_RT_redirect : ByteArray := prog_4_method_5_code
def y_RT_redirect : MethodName := ⟨R_RT, "redirect", "(II)I"⟩
set_option maxRecDepth 20000 in
theorem mc_RT_redirect : Cond.code y_RT_redirect b_RT_redirect 4 (some .int) ∈ BG := (zm_1 (i := 212) rfl rfl)
abbrev b_RT_remove : ByteArray := prog_4_method_6_code
def y_RT_remove : MethodName := ⟨R_RT, "remove", "(I)I"⟩
set_option maxRecDepth 20000 in
theorem mc_RT_remove : Cond.code y_RT_remove b_RT_remove 3 (some .int) ∈ BG := (zm_2 (i := 11) rfl rfl)
abbrev b_RT_issuerFor : ByteArray := prog_4_method_7_code
def y_RT_issuerFor : MethodName := ⟨R_RT, "issuerFor", "(J)I"⟩
set_option maxRecDepth 20000 in
theorem mc_RT_issuerFor : Cond.code y_RT_issuerFor b_RT_issuerFor 7 (some .int) ∈ BG := (zm_2 (i := 65) rfl rfl)
abbrev b_RT_issuerAt : ByteArray := prog_4_method_8_code
def y_RT_issuerAt : MethodName := ⟨R_RT, "issuerAt", "(I)I"⟩
set_option maxRecDepth 20000 in
theorem mc_RT_issuerAt : Cond.code y_RT_issuerAt b_RT_issuerAt 2 (some .int) ∈ BG := (zm_1 (i := 216) rfl rfl)
abbrev b_CD_init : ByteArray := prog_1_method_1_code
def y_CD_init : MethodName := ⟨R_CD, "<init>", "(II)V"⟩
set_option maxRecDepth 20000 in
theorem mc_CD_init : Cond.code y_CD_init b_CD_init 3 none ∈ BG := (zm_1 (i := 17) rfl rfl)
abbrev b_CD_route : ByteArray := prog_1_method_2_code
def y_CD_route : MethodName := ⟨R_CD, "route", "(III)I"⟩
set_option maxRecDepth 20000 in
theorem mc_CD_route : Cond.code y_CD_route b_CD_route 5 (some .int) ∈ BG := (zm_1 (i := 125) rfl rfl)
abbrev b_CD_unroute : ByteArray := prog_1_method_3_code
def y_CD_unroute : MethodName := ⟨R_CD, "unroute", "(II)I"⟩
set_option maxRecDepth 20000 in
theorem mc_CD_unroute : Cond.code y_CD_unroute b_CD_unroute 4 (some .int) ∈ BG := (zm_2 (i := 7) rfl rfl)
abbrev b_CD_routes : ByteArray := prog_1_method_4_code
def y_CD_routes : MethodName := ⟨R_CD, "routes", "()I"⟩
set_option maxRecDepth 20000 in
theorem mc_CD_routes : Cond.code y_CD_routes b_CD_routes 1 (some .int) ∈ BG := (zm_1 (i := 113) rfl rfl)
abbrev b_CD_account : ByteArray := prog_1_method_5_code
def y_CD_account : MethodName := ⟨R_CD, "account", "(I)I"⟩
set_option maxRecDepth 20000 in
theorem mc_CD_account : Cond.code y_CD_account b_CD_account 2 (some .int) ∈ BG := (zm_2 (i := 18) rfl rfl)
abbrev b_CD_card : ByteArray := prog_1_method_6_code
def y_CD_card : MethodName := ⟨R_CD, "card", "(JI)I"⟩
set_option maxRecDepth 20000 in
theorem mc_CD_card : Cond.code y_CD_card b_CD_card 5 (some .int) ∈ BG := (zm_2 (i := 34) rfl rfl)
abbrev b_CD_block : ByteArray := prog_1_method_7_code
def y_CD_block : MethodName := ⟨R_CD, "block", "(IZ)Z"⟩
set_option maxRecDepth 20000 in
theorem mc_CD_block : Cond.code y_CD_block b_CD_block 3 (some .boolean) ∈ BG := (zm_2 (i := 88) rfl rfl)
abbrev b_CD_whose : ByteArray := prog_1_method_8_code
def y_CD_whose : MethodName := ⟨R_CD, "whose", "(J)I"⟩
set_option maxRecDepth 20000 in
theorem mc_CD_whose : Cond.code y_CD_whose b_CD_whose 3 (some .int) ∈ BG := (zm_2 (i := 113) rfl rfl)
abbrev b_CD_good : ByteArray := prog_1_method_9_code
def y_CD_good : MethodName := ⟨R_CD, "good", "(J)Z"⟩
set_option maxRecDepth 20000 in
theorem mc_CD_good : Cond.code y_CD_good b_CD_good 3 (some .boolean) ∈ BG := (zm_2 (i := 120) rfl rfl)
abbrev b_CD_digit : ByteArray := prog_1_method_10_code
def y_CD_digit : MethodName := ⟨R_CD, "digit", "(J)I"⟩
set_option maxRecDepth 20000 in
theorem mc_CD_digit : Cond.code y_CD_digit b_CD_digit 3 (some .int) ∈ BG := (zm_2 (i := 127) rfl rfl)
abbrev b_CD_use : ByteArray := prog_1_method_11_code
def y_CD_use : MethodName := ⟨R_CD, "use", "(JI)I"⟩
set_option maxRecDepth 20000 in
theorem mc_CD_use : Cond.code y_CD_use b_CD_use 6 (some .int) ∈ BG := (zm_2 (i := 134) rfl rfl)
abbrev b_CD_used : ByteArray := prog_1_method_12_code
def y_CD_used : MethodName := ⟨R_CD, "used", "(II)I"⟩
set_option maxRecDepth 20000 in
theorem mc_CD_used : Cond.code y_CD_used b_CD_used 3 (some .int) ∈ BG := (zm_2 (i := 159) rfl rfl)
abbrev b_CD_told : ByteArray := prog_1_method_13_code
def y_CD_told : MethodName := ⟨R_CD, "told", "(II)J"⟩
set_option maxRecDepth 20000 in
theorem mc_CD_told : Cond.code y_CD_told b_CD_told 3 (some .long) ∈ BG := (zm_2 (i := 166) rfl rfl)
abbrev b_CD_requireIssuer : ByteArray := prog_1_method_14_code
def y_CD_requireIssuer : MethodName := ⟨R_CD, "requireIssuer", "(I)V"⟩
set_option maxRecDepth 20000 in
theorem mc_CD_requireIssuer : Cond.code y_CD_requireIssuer b_CD_requireIssuer 1 none ∈ BG := (zm_1 (i := 128) rfl rfl)
abbrev b_CD_requirePrefix : ByteArray := prog_1_method_15_code
def y_CD_requirePrefix : MethodName := ⟨R_CD, "requirePrefix", "(II)V"⟩
set_option maxRecDepth 20000 in
theorem mc_CD_requirePrefix : Cond.code y_CD_requirePrefix b_CD_requirePrefix 2 none ∈ BG := (zm_1 (i := 198) rfl rfl)
abbrev b_CD_requireDigits : ByteArray := prog_1_method_16_code
def y_CD_requireDigits : MethodName := ⟨R_CD, "requireDigits", "(JII)V"⟩
set_option maxRecDepth 20000 in
theorem mc_CD_requireDigits : Cond.code y_CD_requireDigits b_CD_requireDigits 5 none ∈ BG := (zm_2 (i := 37) rfl rfl)
abbrev b_CD_requireAccount : ByteArray := prog_1_method_17_code
def y_CD_requireAccount : MethodName := ⟨R_CD, "requireAccount", "(I)V"⟩
set_option maxRecDepth 20000 in
theorem mc_CD_requireAccount : Cond.code y_CD_requireAccount b_CD_requireAccount 2 none ∈ BG := (zm_2 (i := 42) rfl rfl)
abbrev b_CD_requireCard : ByteArray := prog_1_method_18_code
def y_CD_requireCard : MethodName := ⟨R_CD, "requireCard", "(I)V"⟩
set_option maxRecDepth 20000 in
theorem mc_CD_requireCard : Cond.code y_CD_requireCard b_CD_requireCard 2 none ∈ BG := (zm_2 (i := 92) rfl rfl)
abbrev b_CD_requireTime : ByteArray := prog_1_method_19_code
def y_CD_requireTime : MethodName := ⟨R_CD, "requireTime", "(I)V"⟩
set_option maxRecDepth 20000 in
theorem mc_CD_requireTime : Cond.code y_CD_requireTime b_CD_requireTime 2 none ∈ BG := (zm_2 (i := 138) rfl rfl)
abbrev b_CD_digitsOf : ByteArray := prog_1_method_20_code
def y_CD_digitsOf : MethodName := ⟨R_CD, "digitsOf", "(J)I"⟩
set_option maxRecDepth 20000 in
theorem mc_CD_digitsOf : Cond.code y_CD_digitsOf b_CD_digitsOf 5 (some .int) ∈ BG := (zm_1 (i := 202) rfl rfl)
abbrev b_CD_isGood : ByteArray := prog_1_method_21_code
def y_CD_isGood : MethodName := ⟨R_CD, "isGood", "(J)Z"⟩
set_option maxRecDepth 20000 in
theorem mc_CD_isGood : Cond.code y_CD_isGood b_CD_isGood 2 (some .boolean) ∈ BG := (zm_2 (i := 55) rfl rfl)
abbrev b_CD_checkSum : ByteArray := prog_1_method_22_code
def y_CD_checkSum : MethodName := ⟨R_CD, "checkSum", "(J)I"⟩
set_option maxRecDepth 20000 in
theorem mc_CD_checkSum : Cond.code y_CD_checkSum b_CD_checkSum 7 (some .int) ∈ BG := (zm_2 (i := 58) rfl rfl)
abbrev b_CD_doubled : ByteArray := prog_1_method_23_code
def y_CD_doubled : MethodName := ⟨R_CD, "doubled", "(I)I"⟩
set_option maxRecDepth 20000 in
theorem mc_CD_doubled : Cond.code y_CD_doubled b_CD_doubled 2 (some .int) ∈ BG := (zm_2 (i := 61) rfl rfl)
abbrev b_MO_init : ByteArray := prog_6_method_1_code
def y_MO_init : MethodName := ⟨R_MO, "<init>", "(II)V"⟩
set_option maxRecDepth 20000 in
theorem mc_MO_init : Cond.code y_MO_init b_MO_init 3 none ∈ BG := (zm_2 (i := 176) rfl rfl)
abbrev b_MO_thrown : ByteArray := prog_6_method_2_code
def y_MO_thrown : MethodName := ⟨R_MO, "thrown", "()I"⟩
set_option maxRecDepth 20000 in
theorem mc_MO_thrown : Cond.code y_MO_thrown b_MO_thrown 1 (some .int) ∈ BG := (zm_2 (i := 230) rfl rfl)
abbrev b_MO_goes : ByteArray := prog_6_method_3_code
def y_MO_goes : MethodName := ⟨R_MO, "goes", "(ZZ)Z"⟩
set_option maxRecDepth 20000 in
theorem mc_MO_goes : Cond.code y_MO_goes b_MO_goes 3 (some .boolean) ∈ BG := (zm_3 (i := 9) rfl rfl)
abbrev b_MO_width : ByteArray := prog_6_method_4_code
def y_MO_width : MethodName := ⟨R_MO, "width", "(J)I"⟩
set_option maxRecDepth 20000 in
theorem mc_MO_width : Cond.code y_MO_width b_MO_width 5 (some .int) ∈ BG := (zm_3 (i := 4) rfl rfl)
abbrev b_MO_isNumber : ByteArray := prog_6_method_5_code
def y_MO_isNumber : MethodName := ⟨R_MO, "isNumber", "(JI)Z"⟩
set_option maxRecDepth 20000 in
theorem mc_MO_isNumber : Cond.code y_MO_isNumber b_MO_isNumber 3 (some .boolean) ∈ BG := (zm_3 (i := 24) rfl rfl)
abbrev b_MO_front : ByteArray := prog_6_method_6_code
def y_MO_front : MethodName := ⟨R_MO, "front", "(JI)J"⟩
set_option maxRecDepth 20000 in
theorem mc_MO_front : Cond.code y_MO_front b_MO_front 6 (some .long) ∈ BG := (zm_3 (i := 31) rfl rfl)
abbrev b_MO_isPrefix : ByteArray := prog_6_method_7_code
def y_MO_isPrefix : MethodName := ⟨R_MO, "isPrefix", "(II)Z"⟩
set_option maxRecDepth 20000 in
theorem mc_MO_isPrefix : Cond.code y_MO_isPrefix b_MO_isPrefix 2 (some .boolean) ∈ BG := (zm_3 (i := 1) rfl rfl)
abbrev b_MO_placeOf : ByteArray := prog_6_method_8_code
def y_MO_placeOf : MethodName := ⟨R_MO, "placeOf", "(II)I"⟩
set_option maxRecDepth 20000 in
theorem mc_MO_placeOf : Cond.code y_MO_placeOf b_MO_placeOf 4 (some .int) ∈ BG := (zm_2 (i := 238) rfl rfl)
abbrev b_MO_route : ByteArray := prog_6_method_9_code
def y_MO_route : MethodName := ⟨R_MO, "route", "(III)I"⟩
set_option maxRecDepth 20000 in
theorem mc_MO_route : Cond.code y_MO_route b_MO_route 6 (some .int) ∈ BG := (zm_2 (i := 234) rfl rfl)
abbrev b_MO_unroute : ByteArray := prog_6_method_10_code
def y_MO_unroute : MethodName := ⟨R_MO, "unroute", "(II)I"⟩
set_option maxRecDepth 20000 in
theorem mc_MO_unroute : Cond.code y_MO_unroute b_MO_unroute 5 (some .int) ∈ BG := (zm_3 (i := 13) rfl rfl)
abbrev b_MO_routes : ByteArray := prog_6_method_11_code
def y_MO_routes : MethodName := ⟨R_MO, "routes", "()I"⟩
set_option maxRecDepth 20000 in
theorem mc_MO_routes : Cond.code y_MO_routes b_MO_routes 1 (some .int) ∈ BG := (zm_3 (i := 17) rfl rfl)
abbrev b_MO_routed : ByteArray := prog_6_method_12_code
def y_MO_routed : MethodName := ⟨R_MO, "routed", "(J)I"⟩
set_option maxRecDepth 20000 in
theorem mc_MO_routed : Cond.code y_MO_routed b_MO_routed 6 (some .int) ∈ BG := (zm_3 (i := 28) rfl rfl)
abbrev b_MO_whose : ByteArray := prog_6_method_13_code
def y_MO_whose : MethodName := ⟨R_MO, "whose", "(J)I"⟩
set_option maxRecDepth 20000 in
theorem mc_MO_whose : Cond.code y_MO_whose b_MO_whose 3 (some .int) ∈ BG := (zm_3 (i := 21) rfl rfl)
abbrev b_MO_sum : ByteArray := prog_6_method_14_code
def y_MO_sum : MethodName := ⟨R_MO, "sum", "(JZ)I"⟩
set_option maxRecDepth 20000 in
theorem mc_MO_sum : Cond.code y_MO_sum b_MO_sum 8 (some .int) ∈ BG := (zm_3 (i := 38) rfl rfl)
abbrev b_MO_good : ByteArray := prog_6_method_15_code
def y_MO_good : MethodName := ⟨R_MO, "good", "(J)Z"⟩
set_option maxRecDepth 20000 in
theorem mc_MO_good : Cond.code y_MO_good b_MO_good 3 (some .boolean) ∈ BG := (zm_3 (i := 35) rfl rfl)
abbrev b_MO_digit : ByteArray := prog_6_method_16_code
def y_MO_digit : MethodName := ⟨R_MO, "digit", "(J)I"⟩
set_option maxRecDepth 20000 in
theorem mc_MO_digit : Cond.code y_MO_digit b_MO_digit 4 (some .int) ∈ BG := (zm_3 (i := 42) rfl rfl)
abbrev b_MO_account : ByteArray := prog_6_method_17_code
def y_MO_account : MethodName := ⟨R_MO, "account", "(I)I"⟩
set_option maxRecDepth 20000 in
theorem mc_MO_account : Cond.code y_MO_account b_MO_account 2 (some .int) ∈ BG := (zm_3 (i := 46) rfl rfl)
abbrev b_MO_cardOf : ByteArray := prog_6_method_18_code
def y_MO_cardOf : MethodName := ⟨R_MO, "cardOf", "(J)I"⟩
set_option maxRecDepth 20000 in
theorem mc_MO_cardOf : Cond.code y_MO_cardOf b_MO_cardOf 5 (some .int) ∈ BG := (zm_3 (i := 54) rfl rfl)
abbrev b_MO_card : ByteArray := prog_6_method_19_code
def y_MO_card : MethodName := ⟨R_MO, "card", "(JI)I"⟩
set_option maxRecDepth 20000 in
theorem mc_MO_card : Cond.code y_MO_card b_MO_card 5 (some .int) ∈ BG := (zm_3 (i := 50) rfl rfl)
abbrev b_MO_block : ByteArray := prog_6_method_20_code
def y_MO_block : MethodName := ⟨R_MO, "block", "(IZ)Z"⟩
set_option maxRecDepth 20000 in
theorem mc_MO_block : Cond.code y_MO_block b_MO_block 4 (some .boolean) ∈ BG := (zm_3 (i := 58) rfl rfl)
abbrev b_MO_since : ByteArray := prog_6_method_21_code
def y_MO_since : MethodName := ⟨R_MO, "since", "(II)I"⟩
set_option maxRecDepth 20000 in
theorem mc_MO_since : Cond.code y_MO_since b_MO_since 5 (some .int) ∈ BG := (zm_3 (i := 66) rfl rfl)
abbrev b_MO_use : ByteArray := prog_6_method_22_code
def y_MO_use : MethodName := ⟨R_MO, "use", "(JI)I"⟩
set_option maxRecDepth 20000 in
theorem mc_MO_use : Cond.code y_MO_use b_MO_use 7 (some .int) ∈ BG := (zm_3 (i := 62) rfl rfl)
abbrev b_MO_used : ByteArray := prog_6_method_23_code
def y_MO_used : MethodName := ⟨R_MO, "used", "(II)I"⟩
set_option maxRecDepth 20000 in
theorem mc_MO_used : Cond.code y_MO_used b_MO_used 3 (some .int) ∈ BG := (zm_3 (i := 70) rfl rfl)
abbrev b_MO_told : ByteArray := prog_6_method_24_code
def y_MO_told : MethodName := ⟨R_MO, "told", "(II)J"⟩
set_option maxRecDepth 20000 in
theorem mc_MO_told : Cond.code y_MO_told b_MO_told 3 (some .long) ∈ BG := (zm_3 (i := 74) rfl rfl)
abbrev b_LW_cell : ByteArray := method_2_code
def y_LW_cell : MethodName := ⟨R_LW, "cell", "([II)I"⟩
set_option maxRecDepth 20000 in
theorem mc_LW_cell : Cond.code y_LW_cell b_LW_cell 2 (some .int) ∈ BG := (zm_1 (i := 116) rfl rfl)
abbrev b_LW_route : ByteArray := method_3_code
def y_LW_route : MethodName := ⟨R_LW, "route", "(LCardDirectory;III[J)I"⟩
set_option maxRecDepth 20000 in
theorem mc_LW_route : Cond.codeWith y_LW_route b_LW_route 6 (some .int) [(0, 12, 15, 13), (0, 12, 19, 15)] ∈ BG := (zm_1 (i := 119) rfl rfl)
abbrev b_LW_unroute : ByteArray := method_4_code
def y_LW_unroute : MethodName := ⟨R_LW, "unroute", "(LCardDirectory;II[J)I"⟩
set_option maxRecDepth 20000 in
theorem mc_LW_unroute : Cond.codeWith y_LW_unroute b_LW_unroute 5 (some .int) [(0, 10, 13, 13)] ∈ BG := (zm_2 (i := 3) rfl rfl)
abbrev b_LW_account : ByteArray := method_5_code
def y_LW_account : MethodName := ⟨R_LW, "account", "(LCardDirectory;I[J)I"⟩
set_option maxRecDepth 20000 in
theorem mc_LW_account : Cond.codeWith y_LW_account b_LW_account 4 (some .int) [(0, 9, 12, 13), (0, 9, 15, 15)] ∈ BG := (zm_2 (i := 14) rfl rfl)
abbrev b_LW_card : ByteArray := method_6_code
def y_LW_card : MethodName := ⟨R_LW, "card", "(LCardDirectory;JI[J)I"⟩
set_option maxRecDepth 20000 in
theorem mc_LW_card : Cond.codeWith y_LW_card b_LW_card 6 (some .int) [(0, 11, 14, 13), (0, 11, 18, 15)] ∈ BG := (zm_2 (i := 30) rfl rfl)
abbrev b_LW_block : ByteArray := method_7_code
def y_LW_block : MethodName := ⟨R_LW, "block", "(LCardDirectory;IZ[J)I"⟩
set_option maxRecDepth 20000 in
theorem mc_LW_block : Cond.codeWith y_LW_block b_LW_block 5 (some .int) [(0, 17, 20, 13)] ∈ BG := (zm_2 (i := 84) rfl rfl)
abbrev b_LW_whose : ByteArray := method_8_code
def y_LW_whose : MethodName := ⟨R_LW, "whose", "(LCardDirectory;J[J)I"⟩
set_option maxRecDepth 20000 in
theorem mc_LW_whose : Cond.codeWith y_LW_whose b_LW_whose 5 (some .int) [(0, 9, 12, 13)] ∈ BG := (zm_2 (i := 109) rfl rfl)
abbrev b_LW_good : ByteArray := method_9_code
def y_LW_good : MethodName := ⟨R_LW, "good", "(LCardDirectory;J[J)I"⟩
set_option maxRecDepth 20000 in
theorem mc_LW_good : Cond.codeWith y_LW_good b_LW_good 5 (some .int) [(0, 16, 19, 13)] ∈ BG := (zm_2 (i := 116) rfl rfl)
abbrev b_LW_digit : ByteArray := method_10_code
def y_LW_digit : MethodName := ⟨R_LW, "digit", "(LCardDirectory;J[J)I"⟩
set_option maxRecDepth 20000 in
theorem mc_LW_digit : Cond.codeWith y_LW_digit b_LW_digit 5 (some .int) [(0, 9, 12, 13)] ∈ BG := (zm_2 (i := 123) rfl rfl)
abbrev b_LW_use : ByteArray := method_11_code
def y_LW_use : MethodName := ⟨R_LW, "use", "(LCardDirectory;JI[J)I"⟩
set_option maxRecDepth 20000 in
theorem mc_LW_use : Cond.codeWith y_LW_use b_LW_use 6 (some .int) [(0, 11, 14, 13)] ∈ BG := (zm_2 (i := 130) rfl rfl)
abbrev b_LW_used : ByteArray := method_12_code
def y_LW_used : MethodName := ⟨R_LW, "used", "(LCardDirectory;II[J)I"⟩
set_option maxRecDepth 20000 in
theorem mc_LW_used : Cond.codeWith y_LW_used b_LW_used 5 (some .int) [(0, 10, 13, 13)] ∈ BG := (zm_2 (i := 155) rfl rfl)
abbrev b_LW_told : ByteArray := method_13_code
def y_LW_told : MethodName := ⟨R_LW, "told", "(LCardDirectory;II[J)I"⟩
set_option maxRecDepth 20000 in
theorem mc_LW_told : Cond.codeWith y_LW_told b_LW_told 5 (some .int) [(0, 9, 12, 13)] ∈ BG := (zm_2 (i := 162) rfl rfl)
end
section
/-! CONTRACTS THAT MAY END IN A THROW: as the kit's Met, but the outcome is left to Qc; the walk over a call that may throw; what a catch takes. -/
def zt_End (st t : State) (L : List Loc) (k n : Nat) : Prop := st.WarmedH t.vm ∧ st.sameButNew ({ t with vm := st.vm } : State) L k n
/-- how much may be made: k where it returns, one exception where it throws -/
def zt_k (k n : Nat) : Outcome → Nat := fun o => match o with
  | .returned _ => k
  | .threw _ => n
def MetT (l : Launch) (y : MethodName) (ws : List Cond) (rm : Room) (Pc : Array Value → State → Prop) (Qc : Array Value → State → Outcome → State → Prop) (mc ms : Nat) (free : Addr → Prop) : Prop :=
  MetFree l y (headSpec ws rm) Pc (fun _ _ _ _ _ => True) (fun a st o t => Qc a st o t ∧ ∃ L, zt_End st t L (zt_k mc 1 o) (zt_k ms 6 o) ∧ ∀ q ∈ L, free q.base)
def ZQ (below : List Frame) (Qc : Array Value → State → Outcome → State → Prop) (a : Array Value) (s : State) (mc ms : Nat) (free : Addr → Prop) : State → Prop := fun t =>
  ∃ o, t.status = .running ∧ Ended t below o ∧ Qc a s o t ∧ ∃ L, zt_End s t L (zt_k mc 1 o) (zt_k ms 6 o) ∧ ∀ q ∈ L, free q.base
section ZTA
variable {l : Launch} {y : MethodName} {ws ws' : List Cond} {rm : Room} {Pc : Array Value → State → Prop} {Qc : Array Value → State → Outcome → State → Prop} {mc ms : Nat} {free : Addr → Prop} {cc : ByteArray} {maxL : Nat} {ret : Option FieldType} {hh : List (Nat × Nat × Nat × Nat)}
theorem zt_of (h : Met l y ws rm Pc Qc mc ms free) : MetT l y ws rm Pc Qc mc ms free := by
  intro p e ha hc hk s m args below hf happ hP hK
  obtain ⟨n, o, h1, h2, h3, hq, L, ⟨⟨v, rfl⟩, hF⟩, hL⟩ := h p e ha hc hk s m args below hf happ hP hK
  exact ⟨n, _, h1, h2, h3, hq, L, hF, hL⟩
/-- a method without handlers -/
theorem zt_ofW (hy : plainName y.cls = true) (hw : ws = Cond.code y cc maxL ret :: ws')
    (body : ∀ p e s m args below meth c s₁, BodyLoose p l y (headSpec ws rm) cc maxL ret e s m args below meth c s₁ → c.maxLocals = maxL → (∀ x ∈ c.exceptionTable.toList, ∀ pc, covers x pc = false) → Pc args s →
      W p l e (headSpec ws rm).room s m args below meth c s.heap [] 0 0 (ZQ below Qc args s mc ms free) (entryFrame m args maxL)) : MetT l y ws rm Pc Qc mc ms free := by
  refine MetFree.of_bodyS (code := cc) (maxLocals := maxL) (ret := ret) hy ?_ ?_
  · intro args s m h hn
    obtain ⟨meth, c, h1, h2, h3, h4, h5, h6, -, -⟩ := Cond.code_spec hn (atoms_spec (ws := ws) h _ (by rw [hw]; exact List.mem_cons_self))
    exact ⟨meth, c, h1, h2, h3, h4, h5, h6⟩
  · intro p e s m args below meth c s₁ B hml hP _
    have hh0 : s₁.heap = s.heap := by rw [B.state]; rfl
    have hno : c.exceptionTable.isEmpty = true := B.noHandlers (atoms_spec (ws := ws) B.pre _ (by rw [hw]; exact List.mem_cons_self))
    have h0 : c.exceptionTable.size = 0 := by simpa [Array.isEmpty] using hno
    have h1 : c.exceptionTable.toList = [] := List.eq_nil_of_length_eq_zero (by simpa using h0)
    obtain ⟨t, a1, o, b1, b2, b3⟩ := body p e s m args below meth c s₁ B hml (by rw [h1]; intro x hx; cases hx) hP s₁ hh0 (Stand.of_body B)
    exact ⟨t, o, a1, b1, b2, ⟨b3.1, b3.2⟩⟩
/-- a method with handlers -/
theorem zt_ofWW (hy : plainName y.cls = true) (hw : ws = Cond.codeWith y cc maxL ret hh :: ws')
    (body : ∀ p e s m args below meth c s₁, BodyLoose p l y (headSpec ws rm) cc maxL ret e s m args below meth c s₁ → c.maxLocals = maxL → c.exceptionTable.toList.map (fun h => (h.startPc, h.endPc, h.handlerPc, h.catchType)) = hh → Pc args s →
      W p l e (headSpec ws rm).room s m args below meth c s.heap [] 0 0 (ZQ below Qc args s mc ms free) (entryFrame m args maxL)) : MetT l y ws rm Pc Qc mc ms free := by
  refine MetFree.of_bodyS (code := cc) (maxLocals := maxL) (ret := ret) hy ?_ ?_
  · intro args s m h hn
    obtain ⟨m9, meth, c, hn9, h1, h2, h3, h4, -, h5, h6, -⟩ := Cond.codeWith_spec (atoms_spec (ws := ws) h _ (by rw [hw]; exact List.mem_cons_self))
    cases hn.symm.trans hn9
    exact ⟨meth, c, h1, h2, h3, h4, h5, h6⟩
  · intro p e s m args below meth c s₁ B hml hP _
    have hh0 : s₁.heap = s.heap := by rw [B.state]; rfl
    obtain ⟨m9, meth9, c9, hn9, h1, h2, -, -, htab, -⟩ := Cond.codeWith_spec (atoms_spec (ws := ws) B.pre _ (by rw [hw]; exact List.mem_cons_self))
    cases B.named.symm.trans hn9
    cases B.method.symm.trans h1
    cases (Stand.of_body B).code.symm.trans h2
    obtain ⟨t, a1, o, b1, b2, b3⟩ := body p e s m args below meth c s₁ B hml htab hP s₁ hh0 (Stand.of_body B)
    exact ⟨t, o, a1, b1, b2, ⟨b3.1, b3.2⟩⟩
end ZTA
section ZTW
variable {p : Program} {l : Launch} {e : Env} {R : Room} {s : State} {m : MethodId} {args : Array Value} {below : List Frame} {meth : Method} {c : Code} {H : Heap} {locs : List Loc} {cells slots : Nat} {Q : State → Prop}
/-- the end of a contract that returns, as the end of one that may throw -/
theorem zt_ret {Qc : Array Value → State → Outcome → State → Prop} {mc ms : Nat} {free : Addr → Prop} {g : JFrame} (k : W p l e R s m args below meth c H locs cells slots (MQ below Qc args s mc ms free) g) : W p l e R s m args below meth c H locs cells slots (ZQ below Qc args s mc ms free) g := by
  intro T hT X
  obtain ⟨t, a, o, h1, h2, h3, L, ⟨⟨v, rfl⟩, hF⟩, hL⟩ := k T hT X
  exact ⟨t, a, _, h1, h2, h3, L, hF, hL⟩
/-- the exception x is under way, the frame g on top -/
def WT (p : Program) (l : Launch) (e : Env) (R : Room) (s : State) (m : MethodId) (args : Array Value) (below : List Frame) (meth : Method) (c : Code) (H : Heap) (locs : List Loc) (cells slots : Nat) (Q : State → Prop) (g : JFrame) (x : Nat) : Prop :=
  ∀ T : State, T.heap = H → Stand p l e R s m args below meth c T locs cells slots → ∃ t, Steps p.tables e below ((T.setTop g).pushFrame (.throwing x)) t ∧ Q t
theorem zt_leave {Qc : Array Value → State → Outcome → State → Prop} {free : Addr → Prop} {pc : Nat} {ls : Array Slot} {st : List Value} {x : Nat} (hq : ∀ t : State, t.heap = H → s.WarmedH t.vm → Qc args s (.threw x) t) (hf : ∀ q ∈ locs, free q.base)
    (hout : ∀ z ∈ c.exceptionTable.toList, covers z pc = false) (hlocks : meth.locks = false) {mc ms : Nat} (hc : cells ≤ 1) (hs : slots ≤ 6) : WT p l e R s m args below meth c H locs cells slots (ZQ below Qc args s mc ms free) (F0 m pc ls st) x := by
  intro T hT X
  obtain ⟨h1, h2, h3, h4, h5⟩ := X.leaveThrown x (g := F0 m pc ls st) rfl rfl rfl hout hlocks
  exact ⟨_, h1, .threw x, h2, h3, hq _ hT h4, locs, ⟨h4, h5.mono hc hs⟩, hf⟩
theorem zt_wide {k n : Nat} {g : JFrame} {x : Nat} (hk : cells ≤ k) (hn : slots ≤ n) (kk : WT p l e R s m args below meth c H locs k n Q g x) : WT p l e R s m args below meth c H locs cells slots Q g x := by
  intro T hT X
  exact kk T hT { X with same := X.same.mono hk hn }
end ZTW
section ZTC
variable {p : Program} {l : Launch} {e : Env} {R : Room} {s : State} {m : MethodId} {args : Array Value} {below : List Frame} {meth : Method} {c : Code} {T : State} {locs : List Loc} {cells slots : Nat}
variable {y : MethodName} {ws : List Cond} {rm : Room} {Pc : Array Value → State → Prop} {Qc : Array Value → State → Outcome → State → Prop} {mc ms : Nat} {free : Addr → Prop} {maxL : Nat}
theorem zt_enter (X : Stand p l e R s m args below meth c T locs cells slots) (hM : MetT l y ws rm Pc Qc mc ms free) (hblind : FrameBlind Pc) (hfr : rm.frames + 1 ≤ R.frames) (hlo : 8 + (maxL + 11) + rm.locals ≤ R.locals)
    (hws : ∀ w ∈ ws, ∀ (a' : Array Value) (U : State), s.WarmedH U.vm → w.before a' U = true)
    {mk : MethodId} {methY : Method} {cY : Code} (hn : T.methodNamed? y = some mk) (hmY : T.vm.method? mk = some methY) (hcY : methY.code = some cY) (hlY : cY.maxLocals = maxL) {ai : Array Value} (hini : (Cond.initialized y.cls).before ai T = true)
    {g : JFrame} (hg : g.method = m) (hsize : g.locals.size = c.maxLocals) {ig : Instr} {len : Nat} (hdg : decode c.code g.pc = .ok (ig, len)) (hW : 2 * g.monitorRoom + (g.stack.map fun v => v.category).sum ≤ 8)
    {a : Array Value} (hP : Pc a T) (hcells : cells + rm.cells ≤ R.cells) (hslots : slots + rm.slots ≤ R.slots) :
    ∃ (o : Outcome) (t T' : State) (L : List Loc), Stand p l e R s m args below meth c T' (locs ++ L) (cells + zt_k mc 1 o) (slots + zt_k ms 6 o) ∧ T'.heap = t.heap ∧ T'.vm = t.vm ∧ (∀ q ∈ L, free q.base) ∧ Qc a (T.calling g mk a) o t ∧
      ((∃ v, o = .returned v ∧ Steps p.tables e below (doInvoke e (T.setTop g) [] mk a).1 (T'.setTop { g with pc := g.pc + len, stack := v.toList ++ g.stack })) ∨
       (∃ x, o = .threw x ∧ Steps p.tables e below (doInvoke e (T.setTop g) [] mk a).1 ((T'.setTop g).pushFrame (.throwing x)))) := by
  obtain ⟨kY, hkY, -⟩ := className_of_methodNamed hn
  have hinitY : kY.init = .initialized := Cond.initialized_spec (findClass_of_methodNamed hn) hkY hini
  have h : At T g.method c below := by rw [hg]; exact X.here
  have happ : (headSpec ws rm).appliesLoose y e.platform (T.calling g mk a) = true :=
    Spec.appliesLoose_calling (g := g) h hdg hn hkY hinitY
      (X.room_calling (g := g) (R' := (headSpec ws rm).room) hsize hmY hcY hfr (by rw [hlY]; show _ + _ + (maxL + 11) + rm.locals ≤ R.locals; omega) hcells hslots) (atoms_intro fun w hw => hws w hw _ _ X.warmed)
  obtain ⟨mid, hmid⟩ := h.above
  have hfr : (T.setTop g).frames = (.java g :: mid) ++ below := by rw [State.frames_setTop' g h.top, hmid]; rfl
  obtain ⟨o, s₂, hsteps, -, hend, hq, L, ⟨hW₂, hsame0⟩, hL⟩ := Steps.callFree hM p X.admits X.cas X.clock (acts := []) hfr happ (hblind _ _ _ _ hP) trivial
  have hq' : Qc a (T.calling g mk a) o s₂ := hq
  rw [State.frames_setTop' g h.top] at hend
  have hW' : T.WarmedH s₂.vm := hW₂
  cases o with
  | threw x =>
    have hend2 : Ended s₂ (.java g :: below) (.threw x) := by rw [← X.tail]; exact hend
    obtain ⟨T', X', -, -, ht⟩ := X.outOfThrown hg (mk := mk) (a := a) hend2 hW₂ hsame0
    refine ⟨.threw x, s₂, T', L, X', ?_, ?_, hL, hq', Or.inr ⟨x, rfl, ?_⟩⟩
    · rw [ht]; exact (Stand.throwing_heap T' g x).symm
    · rw [ht]; exact (Stand.throwing_vm T' g x).symm
    · rw [← ht]; exact hsteps
  | returned v =>
    have hsame1 : (T.calling g mk a).sameButNew ({ s₂ with vm := (T.calling g mk a).vm } : State) L (zt_k mc 1 (.returned v)) (zt_k ms 6 (.returned v)) := hsame0
    obtain ⟨e2, q2, q3, q4, q5, q6⟩ := hsame1
    have e3 : s₂ = ({ (T.calling g mk a).setFrames s₂.frames with heap := s₂.heap, slotsUsed := s₂.slotsUsed } : State).setVm s₂.vm := by
      have : s₂ = ({ s₂ with vm := (T.calling g mk a).vm } : State).setVm s₂.vm := rfl
      rw [e2] at this
      exact this
    obtain ⟨c₂, i₂, len₂, hc₂, hd₂, hf₂⟩ := hend
    have hcc : c₂ = c := by
      have h1 : s₂.code? g.method = T.code? g.method := by
        rw [State.code?_eq, State.code?_eq, hW'.alike.method?]
      exact Option.some.inj (hc₂.symm.trans (h1.trans h.code))
    subst hcc
    have hlen : len₂ = len := by rw [hdg] at hd₂; cases hd₂; rfl
    subst hlen
    obtain ⟨g₀, hg0⟩ := Option.isSome_iff_exists.mp h.top
    obtain ⟨r, hr⟩ := State.topJava?_eq_some.mp hg0
    have hs₂ : s₂ = (({ T with heap := s₂.heap, slotsUsed := s₂.slotsUsed } : State).setVm s₂.vm).setTop { g with pc := g.pc + len₂, stack := v.toList ++ g.stack } := by
      have hr' : (({ T with heap := s₂.heap, slotsUsed := s₂.slotsUsed } : State).setVm s₂.vm).frames = .java g₀ :: r := hr
      refine e3.trans ?_
      rw [hf₂, State.calling_eq h.top, State.setFrames_setFrames, State.setTop_of_frames _ hr', hr]
      rfl
    have hsame : T.sameButNew ({ T with heap := s₂.heap, slotsUsed := s₂.slotsUsed } : State) L (zt_k mc 1 (.returned v)) (zt_k ms 6 (.returned v)) := by
      refine ⟨?_, q2, q3, q4, q5, q6⟩
      obtain ⟨t, ht, -⟩ := State.frames_cons hr
      show ({ T with heap := s₂.heap, slotsUsed := s₂.slotsUsed } : State) = { T.setFrames T.frames with heap := s₂.heap, slotsUsed := s₂.slotsUsed }
      rw [State.setFrames_self ht]
    subst hg
    refine ⟨.returned v, s₂, (({ T with heap := s₂.heap, slotsUsed := s₂.slotsUsed } : State).setVm s₂.vm), L,
      ⟨X.admits, X.cas, X.clock, X.frames, X.room, X.hears, X.method, X.code, (X.here.setHeapUsed s₂.heap s₂.slotsUsed).setVm hW'.alike, X.tail, State.WarmedH.trans X.warmed hW', X.limits, X.bytes, X.same.trans (hsame.setVm s.vm)⟩,
      rfl, rfl, hL, hq', Or.inl ⟨v, rfl, ?_⟩⟩
    rw [← hs₂]
    exact hsteps
end ZTC
section ZTR
variable {p : Program} {l : Launch} {e : Env} {R : Room} {s : State} {m : MethodId} {args : Array Value} {below : List Frame} {meth : Method} {c : Code} {H : Heap} {locs : List Loc} {cells slots : Nat} {Q : State → Prop}
/-- a call that may throw -/
def zt_Run (p : Program) (l : Launch) (e : Env) (R : Room) (s : State) (m : MethodId) (args : Array Value) (below : List Frame) (meth : Method) (c : Code) (H : Heap) (locs : List Loc) (cells slots mc ms : Nat) (g : JFrame) (rest : List Value) (Qa : State → Outcome → State → Prop) (free : Addr → Prop) : Prop :=
  ∀ T : State, T.heap = H → Stand p l e R s m args below meth c T locs cells slots → ∃ (o : Outcome) (st₀ t T' : State) (L : List Loc), st₀.heap = H ∧ s.vm.Alike st₀.vm ∧ Stand p l e R s m args below meth c T' (locs ++ L) (cells + zt_k mc 1 o) (slots + zt_k ms 6 o) ∧ (∀ q ∈ L, free q.base) ∧ T'.heap = t.heap ∧ T'.vm = t.vm ∧ Qa st₀ o t ∧
    ((∃ v, o = .returned v ∧ Goes p e below T g T' { g with pc := g.pc + 3, stack := v.toList ++ rest }) ∨
     (∃ x, o = .threw x ∧ ∀ target, Steps p.tables e below ((T'.setTop { g with stack := rest }).pushFrame (.throwing x)) target → Steps p.tables e below (T.setTop g) target))
variable {y : MethodName} {bytes cc : ByteArray} {maxL nL mc ms n index : Nat} {ret : Option FieldType} {ws : List Cond} {rm : Room} {Pc : Array Value → State → Prop} {Qc : Array Value → State → Outcome → State → Prop} {free : Addr → Prop} {Ts : List Cond} {own C : String} {b : Addr} {As rest : List Value} {g : JFrame}
theorem zt_runV {kc ks : Nat} (S : CallFix p m c cc nL s args Ts own) (hM : MetT l y ws rm Pc Qc mc ms free) (cw : CallW R s args own C index y bytes maxL ret ws rm kc ks n) (hp : PreV s H C b Pc As)
    (hg : g.method = m) (hn : As.length = n) (hsize : g.locals.size = nL) (hstack : g.stack = As.reverse ++ .ref b :: rest) (hW : 2 * g.monitorRoom + (rest.map fun v => v.category).sum ≤ 8) (hdg : decode cc g.pc = .ok (.invokevirtual index, 3)) (hf : cells + rm.cells ≤ R.cells ∧ slots + rm.slots ≤ R.slots) :
    zt_Run p l e R s m args below meth c H locs cells slots mc ms g rest (Qc (Value.ref b :: As).toArray) free := by
  obtain ⟨⟨-, -, hfr, hlo, hws, hcw, hcode, hini, hy, hlen, hl⟩, hin, hse⟩ := cw
  obtain ⟨hx, hb, hml, ho, -⟩ := S
  obtain ⟨hblind, ⟨cellB, hcB, hoB, hclB⟩, hPc⟩ := hp
  intro T hT X
  obtain ⟨mk, methM, hnamed, hmethM, hstM, habM⟩ := Cond.instanceMethod_spec hin
  obtain ⟨methM', cM, hmethM', hcM, -, hlM, -, -, -, hsigM⟩ := Cond.code_spec hnamed hcode
  cases hmethM.symm.trans hmethM'
  obtain ⟨c2, r2, m2, q1, q2, q3, q4, kP, hkP, hkPi⟩ := Cond.selects_spec hse
  cases hclB.symm.trans q1
  cases (State.methodFound?_of_named hnamed hy).symm.trans q2
  cases hnamed.symm.trans q3
  have hselP : selectMethod e.platform s.vm cellB.cls mk = .method mk := by rw [Launch.admits_selectMethod X.admits]; exact q4
  obtain ⟨vm₁, X₁, hstep₁⟩ := X.invokevirtual hx ho hl hnamed hmethM hstM hkP hkPi hy (a := b) (cell := cellB) (by rw [hT]; exact hcB)
    (fun z h => by rw [h] at hoB; cases hoB) hselP hmethM habM hkP hkPi (g := g) hg (argsL := As) (rest := rest) (hn.trans (hlen _ hsigM)) hstack (by rw [hb]; exact hdg)
  have hal : s.vm.Alike (T.setVm vm₁).vm := X₁.warmed.alike
  obtain ⟨o, t, T', L, X', e1, e2, hL, hq, hend⟩ := zt_enter X₁ hM hblind hfr hlo hws (mk := mk) (methY := methM) (cY := cM) (X₁.named hnamed) (by rw [hal.method?]; exact hmethM) hcM hlM (ai := args)
    (word_at X₁.warmed (Or.inl (by first | rfl | simp [Cond.onTables, Cond.keeps, Cond.steady])) hini) (g := { g with stack := rest }) hg (by rw [hml]; exact hsize) (ig := .invokevirtual index) (len := 3) (by rw [hb]; exact hdg) hW (hPc (T.setVm vm₁) hT X₁.warmed) hf.1 hf.2
  refine ⟨o, (T.setVm vm₁).calling { g with stack := rest } mk (Value.ref b :: As).toArray, t, T', L, hT, hal, X', hL, e1, e2, hq, ?_⟩
  rcases hend with ⟨v, ev, st⟩ | ⟨x, ex, st⟩
  · exact Or.inl ⟨v, ev, fun target h => hstep₁ _ fun acts => by rw [doInvoke_state]; exact st.trans h⟩
  · exact Or.inr ⟨x, ex, fun target h => hstep₁ _ fun acts => by rw [doInvoke_state]; exact st.trans h⟩
theorem zt_runS {kc ks : Nat} (S : CallFix p m c cc nL s args Ts own) (hM : MetT l y ws rm Pc Qc mc ms free) (cw : CallB R s args own index y bytes maxL ret ws rm kc ks n ∧ (Cond.static y).before args s = true) (hp : PreS s H Pc As)
    (hg : g.method = m) (hn : As.length = n) (hsize : g.locals.size = nL) (hstack : g.stack = As.reverse ++ rest) (hW : 2 * g.monitorRoom + (rest.map fun v => v.category).sum ≤ 8) (hdg : decode cc g.pc = .ok (.invokestatic index, 3)) (hf : cells + rm.cells ≤ R.cells ∧ slots + rm.slots ≤ R.slots) :
    zt_Run p l e R s m args below meth c H locs cells slots mc ms g rest (Qc As.toArray) free := by
  obtain ⟨⟨-, -, hfr, hlo, hws, hcw, hcode, hini, hy, hlen, hl⟩, hstt⟩ := cw
  obtain ⟨hx, hb, hml, ho, -⟩ := S
  intro T hT X
  obtain ⟨mk, hnamed⟩ := Cond.code_named hcode
  obtain ⟨methM, cM, hmethM, hcM, -, hlM, -, -, -, hsigM⟩ := Cond.code_spec hnamed hcode
  have hstatic : methM.isStatic = true := Cond.static_spec hnamed hmethM hstt
  obtain ⟨kP, hkP, -⟩ := className_of_methodNamed hnamed
  have hinitP : kP.init = .initialized := Cond.initialized_spec (findClass_of_methodNamed hnamed) hkP hini
  obtain ⟨vm₁, X₁, hstep₁⟩ := X.invokestatic hx ho hl hnamed hmethM hstatic hkP hinitP hy (g := g) hg (argsL := As) (rest := rest) (hn.trans (hlen _ hsigM)) hstack (by rw [hb]; exact hdg)
  have hal : s.vm.Alike (T.setVm vm₁).vm := X₁.warmed.alike
  obtain ⟨o, t, T', L, X', e1, e2, hL, hq, hend⟩ := zt_enter X₁ hM hp.1 hfr hlo hws (mk := mk) (methY := methM) (cY := cM) (X₁.named hnamed) (by rw [hal.method?]; exact hmethM) hcM hlM (ai := args)
    (word_at X₁.warmed (Or.inl (by first | rfl | simp [Cond.onTables, Cond.keeps, Cond.steady])) hini) (g := { g with stack := rest }) hg (by rw [hml]; exact hsize) (ig := .invokestatic index) (len := 3) (by rw [hb]; exact hdg) hW (hp.2 (T.setVm vm₁) hT X₁.warmed) hf.1 hf.2
  refine ⟨o, (T.setVm vm₁).calling { g with stack := rest } mk As.toArray, t, T', L, hT, hal, X', hL, e1, e2, hq, ?_⟩
  rcases hend with ⟨v, ev, st⟩ | ⟨x, ex, st⟩
  · exact Or.inl ⟨v, ev, fun target h => hstep₁ _ fun acts => by rw [doInvoke_state]; exact st.trans h⟩
  · exact Or.inr ⟨x, ex, fun target h => hstep₁ _ fun acts => by rw [doInvoke_state]; exact st.trans h⟩
/-- a static method with handlers (the law's own) -/
theorem zt_runSW {hh : List (Nat × Nat × Nat × Nat)} (S : CallFix p m c cc nL s args Ts own) (hM : MetT l y ws rm Pc Qc mc ms free) (hfr : rm.frames + 1 ≤ R.frames) (hlo : 8 + (maxL + 11) + rm.locals ≤ R.locals)
    (hws : ∀ w ∈ ws, ∀ (a' : Array Value) (U : State), s.WarmedH U.vm → w.before a' U = true) (hcode : (Cond.codeWith y bytes maxL ret hh).before args s = true) (hini : (Cond.initialized y.cls).before args s = true) (hy : y.cls ≠ "java/lang/invoke/MethodHandle" ∧ y.cls ≠ "java/lang/invoke/VarHandle")
    (hlen : ∀ sig, parseMethodDescriptor y.desc = some sig → n = sig.parameters.length) (hl : (Cond.methodLink own index y).before args s = true) (hstt : (Cond.static y).before args s = true) (hp : PreS s H Pc As)
    (hg : g.method = m) (hn : As.length = n) (hsize : g.locals.size = nL) (hstack : g.stack = As.reverse ++ rest) (hW : 2 * g.monitorRoom + (rest.map fun v => v.category).sum ≤ 8) (hdg : decode cc g.pc = .ok (.invokestatic index, 3)) (hf : cells + rm.cells ≤ R.cells ∧ slots + rm.slots ≤ R.slots) :
    zt_Run p l e R s m args below meth c H locs cells slots mc ms g rest (Qc As.toArray) free := by
  obtain ⟨hx, hb, hml, ho, -⟩ := S
  intro T hT X
  obtain ⟨mk, methM, cM, hnamed, hmethM, hcM, -, hlM, -, -, -, hsigM⟩ := Cond.codeWith_spec hcode
  have hstatic : methM.isStatic = true := Cond.static_spec hnamed hmethM hstt
  obtain ⟨kP, hkP, -⟩ := className_of_methodNamed hnamed
  have hinitP : kP.init = .initialized := Cond.initialized_spec (findClass_of_methodNamed hnamed) hkP hini
  obtain ⟨vm₁, X₁, hstep₁⟩ := X.invokestatic hx ho hl hnamed hmethM hstatic hkP hinitP hy (g := g) hg (argsL := As) (rest := rest) (hn.trans (hlen _ hsigM)) hstack (by rw [hb]; exact hdg)
  have hal : s.vm.Alike (T.setVm vm₁).vm := X₁.warmed.alike
  obtain ⟨o, t, T', L, X', e1, e2, hL, hq, hend⟩ := zt_enter X₁ hM hp.1 hfr hlo hws (mk := mk) (methY := methM) (cY := cM) (X₁.named hnamed) (by rw [hal.method?]; exact hmethM) hcM hlM (ai := args)
    (word_at X₁.warmed (Or.inl (by first | rfl | simp [Cond.onTables, Cond.keeps, Cond.steady])) hini) (g := { g with stack := rest }) hg (by rw [hml]; exact hsize) (ig := .invokestatic index) (len := 3) (by rw [hb]; exact hdg) hW (hp.2 (T.setVm vm₁) hT X₁.warmed) hf.1 hf.2
  refine ⟨o, (T.setVm vm₁).calling { g with stack := rest } mk As.toArray, t, T', L, hT, hal, X', hL, e1, e2, hq, ?_⟩
  rcases hend with ⟨v, ev, st⟩ | ⟨x, ex, st⟩
  · exact Or.inl ⟨v, ev, fun target h => hstep₁ _ fun acts => by rw [doInvoke_state]; exact st.trans h⟩
  · exact Or.inr ⟨x, ex, fun target h => hstep₁ _ fun acts => by rw [doInvoke_state]; exact st.trans h⟩
/-- behind a call that may throw, the two roads -/
theorem zt_call {pc : Nat} {ls : Array Slot} {st0 : List Value} {Qa : State → Outcome → State → Prop} (hr : zt_Run p l e R s m args below meth c H locs cells slots mc ms (F0 m pc ls st0) rest Qa free)
    (kr : ∀ (v : Option Value) (st₀ t : State) (H1 : Heap) (L : List Loc), st₀.heap = H → s.vm.Alike st₀.vm → t.heap = H1 → s.vm.Alike t.vm → (∀ q ∈ L, free q.base) → Qa st₀ (.returned v) t → W p l e R s m args below meth c H1 (locs ++ L) (cells + mc) (slots + ms) Q (F0 m (pc + 3) ls (v.toList ++ rest)))
    (kt : ∀ (x : Nat) (st₀ t : State) (H1 : Heap) (L : List Loc), st₀.heap = H → s.vm.Alike st₀.vm → t.heap = H1 → s.vm.Alike t.vm → (∀ q ∈ L, free q.base) → Qa st₀ (.threw x) t → WT p l e R s m args below meth c H1 (locs ++ L) (cells + 1) (slots + 6) Q (F0 m pc ls rest) x) :
    W p l e R s m args below meth c H locs cells slots Q (F0 m pc ls st0) := by
  intro T hT X
  obtain ⟨o, st₀, t, T', L, h0, ha, X', hL, e1, e2, hq, hend⟩ := hr T hT X
  have hal : s.vm.Alike t.vm := by rw [← e2]; exact X'.warmed.alike
  rcases hend with ⟨v, rfl, st⟩ | ⟨x, rfl, st⟩
  · obtain ⟨t2, a1, b1⟩ := kr v st₀ t T'.heap L h0 ha e1.symm hal hL hq T' rfl X'
    exact ⟨t2, st t2 a1, b1⟩
  · obtain ⟨t2, a1, b1⟩ := kt x st₀ t T'.heap L h0 ha e1.symm hal hL hq T' rfl X'
    exact ⟨t2, st t2 a1, b1⟩
end ZTR
end
section
/-! A THROW OF A NEW EXCEPTION WITH A WRITTEN TEXT; a catch, its class resolved or not yet. -/
theorem zt_same {s U : State} {k n : Nat} (h : s.sameButNew ({ U with vm := s.vm } : State) [] k n) : s.heap.size ≤ U.heap.size ∧ ∀ q : Nat, q < s.heap.size → U.heap[q]? = s.heap[q]? := by
  obtain ⟨-, h2, -, -, -, h6⟩ := h
  refine ⟨h2, fun q hq => ?_⟩
  obtain ⟨c', q1, q2, q3, q4⟩ := h6 q s.heap[q] (Array.getElem?_eq_getElem hq)
  have hs : c'.slots = s.heap[q].slots := Array.ext_getElem? fun i => q4 i (by simp)
  have hc : c' = s.heap[q] := by rw [q2, hs]
  rw [Array.getElem?_eq_getElem hq, ← hc]
  exact q1
/-- an exception of the class cls is under way: it is new, nothing old has changed -/
def zt_Th (cls : String) (st t : State) (x : Nat) : Prop := (∃ ce : Cell, t.heap[x]? = some ce ∧ ce.vm.isStatics = false ∧ t.vm.findClass cls = some ce.cls) ∧ st.heap.size ≤ t.heap.size ∧ ∀ q : Nat, q < st.heap.size → t.heap[q]? = st.heap[q]?
/-- Throwable's two statics hold references -/
def zt_St (U : State) : Prop := (Cond.isRef (.static Bundle.tN "UNASSIGNED_STACK" Bundle.steD)).before #[] U = true ∧ (Cond.isRef (.static Bundle.tN "SUPPRESSED_SENTINEL" Bundle.listD)).before #[] U = true
section ZTN
variable {p : Program} {l : Launch} {e : Env} {R : Room} {s : State} {m : MethodId} {args : Array Value} {below : List Frame} {meth : Method} {c : Code} {H : Heap} {cells slots : Nat} {Q : State → Prop}
theorem zt_new {Qc : Array Value → State → Outcome → State → Prop} {free : Addr → Prop} {cc : ByteArray} (hx : p.tables.exec = Jvm.exec) (hb : c.code = cc) (htr : e.platform.stackTraces = false) {own cls tx : String} {names : List String} {icl ik ic : Nat}
    (hown : s.vm.findClass own = some m.cls) (hcls : Bundle.fit cls = true) (hnames : ∀ n ∈ names, Bundle.fit n = true) (h : ∀ a ∈ Bundle.ownAtoms own ic cls names, a.before args s = true)
    (hcl : (Cond.classLink own icl cls).before args s = true) (hins : (Cond.instantiable cls 6).before args s = true) (hini : (Cond.initialized cls).before args s = true) (htx : (Cond.stringRef own ik tx).before args s = true)
    {pc : Nat} {ls : Array Slot} {nL : Nat} (hsz : ls.size = nL) (hml : c.maxLocals = nL) (hd0 : decode cc pc = .ok (.new icl, 3)) (hd3 : decode cc (pc + 3) = .ok (.dup, 1)) (hd4 : decode cc (pc + 3 + 1) = .ok (.ldc ik, 2)) (hd6 : decode cc (pc + 3 + 1 + 2) = .ok (.invokespecial ic, 3)) (hd9 : decode cc (pc + 3 + 1 + 2 + 3) = .ok (.athrow, 1))
    (hout : ∀ z ∈ c.exceptionTable.toList, ∀ pc, covers z pc = false) (hlocks : meth.locks = false) (hsH : H = s.heap)
    (hcells : cells + 1 ≤ R.cells) (hslots : slots + 6 ≤ R.slots) (hRf : names.length + 3 < R.frames) (hRl : 1 + (13 * (names.length + 1) + 42) ≤ R.locals)
    (hq : ∀ (x : Nat) (t : State), zt_Th cls s t x → s.WarmedH t.vm → Qc args s (.threw x) t) {mc ms : Nat} (hc1 : cells + 1 ≤ 1) (hs1 : slots + 6 ≤ 6) :
    W p l e R s m args below meth c H [] cells slots (ZQ below Qc args s mc ms free) (F0 m pc ls []) := by
  subst hsH
  refine W.newc hx hb hown hcl hins hini rfl hd0 hcells hslots (fun cC kC h1 h2 h3 h4 => ?_)
  refine lv_dup hx hb hd3 rfl ?_
  obtain ⟨k, cf, i, a', -, -, -, -, -, hev⟩ := Cond.stringRef_spec hown htx
  intro T hT X
  have hst : ∀ target, Steps p.tables e below (T.setTop (F0 m (pc + 3 + 1 + 2) ls (.ref a' :: .ref s.heap.size :: .ref s.heap.size :: []))) target → Steps p.tables e below (T.setTop (F0 m (pc + 3 + 1) ls (.ref s.heap.size :: .ref s.heap.size :: []))) target :=
    fun target h9 => X.ldcString hx hown htx hev (g := F0 m (pc + 3 + 1) ls (.ref s.heap.size :: .ref s.heap.size :: [])) rfl (by rw [hb]; exact hd4) target h9
  have hcell : T.heap[s.heap.size]? = some (freshCell cC kC) := by rw [hT]; simp [freshCell]
  obtain ⟨U, u1, u2, u3, u4, u5, ce, u6, u7⟩ := X.ctorThrowS hx htr (own := own) (cls := cls) (names := names) (ic := ic) hown hcls hnames h (fun x hx => by cases hx) h1 h2 hcell (Nat.le_refl _) (msg := .ref a') rfl
    (g := F0 m (pc + 3 + 1 + 2) ls (.ref a' :: .ref s.heap.size :: .ref s.heap.size :: [])) rfl (by rw [hml]; exact hsz) rfl rfl (rest := []) rfl (by rw [hb]; exact hd6) (by rw [hb]; exact hd9) (fun z hz => hout z hz _) hRf (by show 2 * 0 + 1 + _ ≤ _; omega) hlocks
  have hal : s.vm.Alike U.vm := u4.alike
  refine ⟨U, hst U u1, .threw s.heap.size, u2, u3, hq _ U ⟨⟨ce, u6, by rw [u7.vm]; rfl, by rw [hal.findClass]; exact u7.cls⟩, zt_same u5⟩ u4, [], ⟨u4, u5.mono hc1 hs1⟩, fun q h => by cases h⟩
end ZTN
section ZTK
variable {E : CtlPost} {e : Env} {d : Bool} {acts : List Action} {s : State} {f : JFrame} {a : Addr} {Q : Handler → Pre}
theorem zk_cold {x : ExceptionTableEntry} {t : List ExceptionTableEntry} {c : ClassId} {vm' : Vm} {cell : Cell} (hx : covers x f.pc = true) (h0 : x.catchType ≠ 0) (hg : (Jvm.resolveClass f.method.cls x.catchType).Gives e.toSetting s.vm (.ok c) vm') (hsz : vm'.classes.size ≤ s.vm.classes.size)
    (hcell : s.heap[a]? = some cell) (hobj : ∀ k, cell.vm ≠ .statics k) (hk : ∃ k, vm'.classes[cell.cls]? = some k) (hc : ∃ k, vm'.classes[c]? = some k) :
    wp (findHandler.go f a (x :: t)) Q E e d acts s ↔ if vm'.assignable cell.cls c = true then Q (.found x.handlerPc) d acts (s.setVm vm') else wp (findHandler.go f a t) Q E e d acts (s.setVm vm') := by
  obtain ⟨ha, ht⟩ := hg.op (op := VmOp.resolveClass f.method.cls x.catchType) rfl
  simp only [covers] at hx
  cases hfit : vm'.assignable cell.cls c <;>
    simp [findHandler.go, hx, h0, ha, ht, hsz, hcell, hobj, hk, hc, hfit, VmOp.dirties, VmOp.acts]
theorem zk_step {s' : State} {r : List Frame} {pc : Nat} (hfind : ∀ (Q : Handler → Pre) (E : CtlPost) (d : Bool) (acts : List Action), wp (findHandler f a) Q E e d acts s ↔ Q (.found pc) d acts s') :
    (stepThrowing e s a (.java f :: r)).Is (s'.setFrames (.java { f with pc := pc, stack := [.ref a] } :: r)) [] := by
  simp only [stepThrowing, searchFrame, vmDo]
  generalize hr : Sem.go _ e false [] s = res
  obtain ⟨as, rfl, ha⟩ := Sem.eq_ok_of hr (a := Handler.found pc) (s' := s') (acts' := []) (by simp [hfind _ _ _ _])
  exact ⟨rfl, ha⟩
end ZTK
theorem zk_caught {tb : Tables} {e : Env} {s target : State} {g : JFrame} {c : Code} {below : List Frame} {a : Addr} (h : At s g.method c below) {vm' : Vm} {pc : Nat}
    (hfind : ∀ (Q : Handler → Pre) (E : CtlPost) (d : Bool) (acts : List Action), wp (findHandler g a) Q E e d acts ((s.setTop g).pushFrame (.throwing a)) ↔ Q (.found pc) d acts (((s.setTop g).pushFrame (.throwing a)).setVm vm'))
    (hrest : Steps tb e below ((s.setVm vm').setTop { g with pc := pc, stack := [.ref a] }) target) : Steps tb e below ((s.setTop g).pushFrame (.throwing a)) target := by
  obtain ⟨hgo, hw⟩ := h.throwing a
  refine Steps.head hgo hw ?_
  rw [stepThread_throwing (frames_entered h.top _), (zk_step hfind).1]
  obtain ⟨g₀, hg⟩ := Option.isSome_iff_exists.mp h.top
  obtain ⟨r, hr⟩ := State.topJava?_eq_some.mp hg
  have hr' : (s.setVm vm').frames = .java g₀ :: r := hr
  rw [State.setTop_of_frames _ hr'] at hrest
  have e1 : (((s.setTop g).pushFrame (.throwing a)).setVm vm').setFrames (.java { g with pc := pc, stack := [.ref a] } :: s.frames.tail) = (s.setVm vm').setFrames (.java { g with pc := pc, stack := [.ref a] } :: r) := by
    rw [hr, State.pushFrame, State.setTop_of_frames _ hr, State.setFrames_setFrames]
    show ((s.setFrames _).setFrames _).setVm vm' = _
    rw [State.setFrames_setFrames]
    rfl
  rw [e1]
  exact hrest
section ZTL
variable {p : Program} {l : Launch} {e : Env} {R : Room} {s : State} {m : MethodId} {args : Array Value} {below : List Frame} {meth : Method} {c : Code} {H : Heap} {locs : List Loc} {cells slots : Nat} {Q : State → Prop}
/-- the first entry of the table takes it -/
theorem zk_catch1 {own nm : String} {x pc hp ct sp ep : Nat} {hs : List (Nat × Nat × Nat × Nat)} {ls : Array Slot} {st : List Value} (hown : s.vm.findClass own = some m.cls) (htab : c.exceptionTable.toList.map (fun h => (h.startPc, h.endPc, h.handlerPc, h.catchType)) = (sp, ep, hp, ct) :: hs)
    (hcov : (decide (sp ≤ pc) && decide (pc < ep)) = true) (hct : ct ≠ 0) (hlink : (Cond.classLink own ct nm).before args s = true) (hr : ∃ cell : Cell, H[x]? = some cell ∧ cell.vm.isStatics = false ∧ s.vm.findClass nm = some cell.cls)
    (kk : W p l e R s m args below meth c H locs cells slots Q (F0 m hp ls [.ref x])) : WT p l e R s m args below meth c H locs cells slots Q (F0 m pc ls st) x := by
  intro T hT X
  obtain ⟨cell, h1, h2, h3⟩ := hr
  have hpl : e.platform.magicAccessors = ({} : Platform).magicAccessors := by rw [X.admits.platform]
  obtain ⟨c', hc', hcl⟩ := Cond.classLink_spec hown hlink e.platform hpl
  cases h3.symm.trans hc'
  obtain ⟨dk, _, _, kt, hd, _, _, _, _, hkt, _, hopen⟩ := hcl.here
  have hcl₀ := X.warmed.classLinks hcl
  have hW' : s.WarmedH (T.vm.noted m.cls ct (.cls cell.cls)) := X.warmed.noted hd hopen (State.rightAt_cls hcl)
  obtain ⟨kt', hkt', -⟩ := hW'.alike.2.2 _ _ hkt
  obtain ⟨t, a1, b1⟩ := kk (T.setVm (T.vm.noted m.cls ct (.cls cell.cls))) hT (X.noted hW')
  refine ⟨t, ?_, b1⟩
  refine zk_caught (g := F0 m pc ls st) X.here (vm' := T.vm.noted m.cls ct (.cls cell.cls)) (pc := hp) ?_ a1
  intro Q' E d acts
  cases htl : c.exceptionTable.toList with
  | nil => rw [htl] at htab; cases htab
  | cons z zs =>
    rw [htl, List.map_cons, List.cons.injEq] at htab
    obtain ⟨hz, -⟩ := htab
    simp only [Prod.mk.injEq] at hz
    obtain ⟨z1, z2, z3, z4⟩ := hz
    subst z1; subst z2; subst z3; subst z4
    rw [W.findHandler_eq (meth := meth) (code := c) X.method' X.code, htl]
    rw [zk_cold (c := cell.cls) (cell := cell) (vm' := T.vm.noted m.cls z.catchType (.cls cell.cls)) hcov hct (resolveClass_links e.toSetting hcl₀) (by show (T.vm.noted m.cls z.catchType (.cls cell.cls)).classes.size ≤ T.vm.classes.size; simp [Vm.noted]) (by show T.heap[x]? = _; rw [hT]; exact h1) (VmData.ne_statics_of h2) ⟨kt', hkt'⟩ ⟨kt', hkt'⟩, if_pos (va_asg _ _)]
/-- the first entry lets it pass, the second takes it -/
theorem zk_catch2 {own nm nm1 : String} {x pc hp ct sp ep hp1 ct1 sp1 ep1 : Nat} {hs : List (Nat × Nat × Nat × Nat)} {ls : Array Slot} {st : List Value} (hown : s.vm.findClass own = some m.cls) (htab : c.exceptionTable.toList.map (fun h => (h.startPc, h.endPc, h.handlerPc, h.catchType)) = (sp1, ep1, hp1, ct1) :: (sp, ep, hp, ct) :: hs)
    (hcov1 : (decide (sp1 ≤ pc) && decide (pc < ep1)) = true) (hct1 : ct1 ≠ 0) (hlink1 : (Cond.classLink own ct1 nm1).before args s = true) (hnc : va_Nc nm nm1 s)
    (hcov : (decide (sp ≤ pc) && decide (pc < ep)) = true) (hct : ct ≠ 0) (hlink : (Cond.classLink own ct nm).before args s = true) (hr : ∃ cell : Cell, H[x]? = some cell ∧ cell.vm.isStatics = false ∧ s.vm.findClass nm = some cell.cls)
    (kk : W p l e R s m args below meth c H locs cells slots Q (F0 m hp ls [.ref x])) : WT p l e R s m args below meth c H locs cells slots Q (F0 m pc ls st) x := by
  intro T hT X
  obtain ⟨cell, h1, h2, h3⟩ := hr
  have hpl : e.platform.magicAccessors = ({} : Platform).magicAccessors := by rw [X.admits.platform]
  obtain ⟨cn, c1, f1, f2, f3⟩ := hnc
  cases h3.symm.trans f1
  obtain ⟨c1', hc1', hcl1⟩ := Cond.classLink_spec hown hlink1 e.platform hpl
  cases f2.symm.trans hc1'
  obtain ⟨c', hc', hcl⟩ := Cond.classLink_spec hown hlink e.platform hpl
  cases h3.symm.trans hc'
  obtain ⟨dk1, _, _, kt1, hd1, _, _, _, _, hkt1, _, hopen1⟩ := hcl1.here
  obtain ⟨dk, _, _, kt, hd, _, _, _, _, hkt, _, hopen⟩ := hcl.here
  have hcl₁ := X.warmed.classLinks hcl1
  have hW1 : s.WarmedH (T.vm.noted m.cls ct1 (.cls c1)) := X.warmed.noted hd1 hopen1 (State.rightAt_cls hcl1)
  have hcl₀ := hW1.classLinks hcl
  have hW' : s.WarmedH ((T.vm.noted m.cls ct1 (.cls c1)).noted m.cls ct (.cls cell.cls)) := hW1.noted hd hopen (State.rightAt_cls hcl)
  obtain ⟨kt', hkt', -⟩ := hW'.alike.2.2 _ _ hkt
  obtain ⟨ka, hka, -⟩ := hW1.alike.2.2 _ _ hkt
  obtain ⟨kb, hkb, -⟩ := hW1.alike.2.2 _ _ hkt1
  have hno : (T.vm.noted m.cls ct1 (.cls c1)).assignable cell.cls c1 = false := by rw [hW1.alike.assignable]; exact f3
  obtain ⟨t, a1, b1⟩ := kk (T.setVm ((T.vm.noted m.cls ct1 (.cls c1)).noted m.cls ct (.cls cell.cls))) hT (X.noted hW')
  refine ⟨t, ?_, b1⟩
  refine zk_caught (g := F0 m pc ls st) X.here (vm' := (T.vm.noted m.cls ct1 (.cls c1)).noted m.cls ct (.cls cell.cls)) (pc := hp) ?_ a1
  intro Q' E d acts
  cases htl : c.exceptionTable.toList with
  | nil => rw [htl] at htab; cases htab
  | cons z zs =>
    cases zs with
    | nil => rw [htl] at htab; cases htab
    | cons w ws =>
      rw [htl, List.map_cons, List.map_cons, List.cons.injEq, List.cons.injEq] at htab
      obtain ⟨hz, hw, -⟩ := htab
      simp only [Prod.mk.injEq] at hz hw
      obtain ⟨z1, z2, z3, z4⟩ := hz
      obtain ⟨w1, w2, w3, w4⟩ := hw
      subst z1; subst z2; subst z3; subst z4; subst w1; subst w2; subst w3; subst w4
      rw [W.findHandler_eq (meth := meth) (code := c) X.method' X.code, htl]
      rw [zk_cold (c := c1) (cell := cell) (vm' := T.vm.noted m.cls z.catchType (.cls c1)) hcov1 hct1 (resolveClass_links e.toSetting hcl₁) (by show (T.vm.noted m.cls z.catchType (.cls c1)).classes.size ≤ T.vm.classes.size; simp [Vm.noted]) (by show T.heap[x]? = _; rw [hT]; exact h1) (VmData.ne_statics_of h2) ⟨ka, hka⟩ ⟨kb, hkb⟩, if_neg (by rw [hno]; decide)]
      rw [zk_cold (c := cell.cls) (cell := cell) (vm' := (T.vm.noted m.cls z.catchType (.cls c1)).noted m.cls w.catchType (.cls cell.cls)) hcov hct (resolveClass_links e.toSetting hcl₀) (by show ((T.vm.noted m.cls z.catchType (.cls c1)).noted m.cls w.catchType (.cls cell.cls)).classes.size ≤ (T.vm.noted m.cls z.catchType (.cls c1)).classes.size; simp [Vm.noted]) (by show T.heap[x]? = _; rw [hT]; exact h1) (VmData.ne_statics_of h2) ⟨kt', hkt'⟩ ⟨kt', hkt'⟩, if_pos (va_asg _ _)]
      rfl
end ZTL
end
section
/-! CALLS, with the one list of words; what a method starts from -/
def zw (y : MethodName) (b : ByteArray) (n : Nat) (r : Option FieldType) : List Cond := Cond.code y b n r :: BG
def zwW (y : MethodName) (b : ByteArray) (n : Nat) (r : Option FieldType) (hh : List (Nat × Nat × Nat × Nat)) : List Cond := Cond.codeWith y b n r hh :: BG
theorem zw_pay {args : Array Value} {s : State} {c0 : Cond} (htB : ∀ w ∈ BG, w.before args s = true) (hc : c0 ∈ BG) : ∀ w ∈ c0 :: BG, ∀ (a' : Array Value) (U : State), s.WarmedH U.vm → w.before a' U = true := by
  intro w hw a' U hW
  have h : w ∈ BG := (List.mem_cons.mp hw).elim (fun e => e ▸ hc) id
  exact zw_move hW (List.all_eq_true.mp BG_all w h) (htB w h)
def zB (D : va_G) (ws : va_W) (tys : List (ClassId × FieldType)) (U : State) : Prop := va_P D vwCl ws U.heap ∧ va_K D vwCl tys U
def zPre (As : List Value) (D : va_G) (ws : va_W) (tys : List (ClassId × FieldType)) : Array Value → State → Prop := va_Pc As (zB D ws tys)
theorem zPre_blind {As : List Value} {D : va_G} {ws : va_W} {tys : List (ClassId × FieldType)} : FrameBlind (zPre As D ws tys) := fun a U g mk q => ⟨q.1, q.2.1, va_K.moved (u := U) (U := U.calling g mk a) (Vm.Alike.refl U.vm) q.2.2⟩
theorem zPre_ok {As : List Value} {D : va_G} {ws : va_W} {tys : List (ClassId × FieldType)} {s : State} {H : Heap} (hP : va_P D vwCl ws H) (hK : va_K D vwCl tys s) : ∀ U : State, U.heap = H → s.WarmedH U.vm → zPre As D ws tys As.toArray U :=
  fun U hU hW => ⟨rfl, by rw [hU]; exact hP, va_K.moved hW.alike hK⟩
/-- Throwable's two statics: they lie there, and hold references -/
def zt_S4 (U : State) : Prop := (Cond.isRef (.static Bundle.tN "UNASSIGNED_STACK" Bundle.steD)).before #[] U = true ∧ (Cond.isRef (.static Bundle.tN "SUPPRESSED_SENTINEL" Bundle.listD)).before #[] U = true ∧
  (Cond.laysStatic Bundle.tN "UNASSIGNED_STACK" Bundle.steD).before #[] U = true ∧ (Cond.laysStatic Bundle.tN "SUPPRESSED_SENTINEL" Bundle.listD).before #[] U = true
theorem zt_ref {C n d : String} {A : Nat → Prop} {s : State} {args : Array Value} (h : va_Zq C n d A s s.heap) : (Cond.isRef (.static C n d)).before args s = true := by
  have key : ∀ v : Value, v.isRef = true → va_Z C n d v A s s.heap → (Cond.isRef (.static C n d)).before args s = true := by
    intro v hv h
    obtain ⟨cf, kf, fi, f, a, cell, h1, h2, h3, h4, h5, h6, h7, -⟩ := h
    have he : (Term.static C n d).eval args s none [] s = some v := by
      simp [Term.eval, State.fieldNamed?, h1, h2, h4, h5, h6, h7]
    simp only [Cond.before, Cond.holds, Cond.value, he]
    cases v <;> simp_all [Value.isRef]
  rcases h with h | ⟨t, h⟩
  · exact key _ rfl h
  · exact key _ rfl h
theorem zt_lays {C n d : String} {s U : State} {a a' : Array Value} (h : (Cond.laysStatic C n d).before a s = true) (hal : s.vm.Alike U.vm) (hq : ∀ q : Nat, q < s.heap.size → U.heap[q]? = s.heap[q]?) : (Cond.laysStatic C n d).before a' U = true := by
  obtain ⟨c, k, i, f, ad, cell, h1, h2, h3, h4, h5, h6, h7, h8, h9⟩ := Cond.laysStatic_spec h
  obtain ⟨k', hi', he⟩ := State.fieldFound?_setVm hal h2
  show (Cond.laysStatic C n d).holds a' U none U [] = true
  exact Cond.laysStatic_of (by rw [hal.findClass]; exact h1) hi' h3 (by rw [he]; exact h4) (by rw [hq ad (Array.getElem?_eq_some_iff.mp h5).1]; exact h5) h6 h7 h8 (by rw [he]; exact h9)
theorem zt_stat {C n d : String} {s U : State} {a a' : Array Value} (hi : (Cond.initialized C).before a s = true) (hl : (Cond.laysStatic C n d).before a s = true) (h : (Cond.isRef (.static C n d)).before a s = true) (hal : s.vm.Alike U.vm) (hq : ∀ q : Nat, q < s.heap.size → U.heap[q]? = s.heap[q]?) : (Cond.isRef (.static C n d)).before a' U = true := by
  have h1 : va_Zq C n d (fun _ => False) s s.heap := va_Zqof hl hi h (fun _ _ h => h)
  have h2 : va_Zq C n d (fun _ => False) U s.heap := va_Zq.moved hal h1
  exact zt_ref (va_Zq.kept h2 (fun q hlt _ => hq q hlt))
theorem zt_kept {s U : State} {a : Array Value} (hi : (Cond.initialized Bundle.tN).before a s = true) (h : zt_S4 s) (hal : s.vm.Alike U.vm) (hq : ∀ q : Nat, q < s.heap.size → U.heap[q]? = s.heap[q]?) : zt_S4 U :=
  ⟨zt_stat (a := #[]) hi h.2.2.1 h.1 hal hq, zt_stat (a := #[]) hi h.2.2.2 h.2.1 hal hq, zt_lays h.2.2.1 hal hq, zt_lays h.2.2.2 hal hq⟩
def zPreT (As : List Value) (D : va_G) (ws : va_W) (tys : List (ClassId × FieldType)) : Array Value → State → Prop := va_Pc As (fun U => zB D ws tys U ∧ zt_S4 U)
theorem zPreT_blind {As : List Value} {D : va_G} {ws : va_W} {tys : List (ClassId × FieldType)} : FrameBlind (zPreT As D ws tys) := fun a U g mk q => ⟨q.1, ⟨q.2.1.1, va_K.moved (u := U) (U := U.calling g mk a) (Vm.Alike.refl U.vm) q.2.1.2⟩, q.2.2⟩
theorem zm_init : Cond.initialized Bundle.tN ∈ BG := by decide +kernel
theorem zPreT_ok {As : List Value} {D : va_G} {ws : va_W} {tys : List (ClassId × FieldType)} {s : State} {args : Array Value} {H : Heap} (htB : ∀ w ∈ BG, w.before args s = true) (hP : va_P D vwCl ws H) (hK : va_K D vwCl tys s) (hSt : zt_S4 s) (hq : ∀ q : Nat, q < s.heap.size → H[q]? = s.heap[q]?) : ∀ U : State, U.heap = H → s.WarmedH U.vm → zPreT As D ws tys As.toArray U :=
  fun U hU hW => ⟨rfl, ⟨by rw [hU]; exact hP, va_K.moved hW.alike hK⟩, zt_kept (htB _ zm_init) hSt hW.alike (fun q h => by rw [hU]; exact hq q h)⟩
/-- the words of a throw of cls, by the two lists -/
def zt_is4 (w : Cond) : Bool := decide (w = .isRef (.static Bundle.tN "UNASSIGNED_STACK" Bundle.steD)) || decide (w = .isRef (.static Bundle.tN "SUPPRESSED_SENTINEL" Bundle.listD)) || decide (w = .laysStatic Bundle.tN "UNASSIGNED_STACK" Bundle.steD) || decide (w = .laysStatic Bundle.tN "SUPPRESSED_SENTINEL" Bundle.listD)
theorem zt_words {L : List Cond} {args : Array Value} {s : State} (h : L.all (fun w => zt_is4 w || decide (w ∈ BG)) = true) (htB : ∀ w ∈ BG, w.before args s = true) (hSt : zt_S4 s) : ∀ a ∈ L, a.before args s = true := by
  intro w hw
  have h1 := List.all_eq_true.mp h w hw
  simp only [zt_is4, Bool.or_eq_true, decide_eq_true_eq] at h1
  rcases h1 with (((h1 | h1) | h1) | h1) | h1
  · rw [h1]; exact hSt.1
  · rw [h1]; exact hSt.2.1
  · rw [h1]; exact zt_lays hSt.2.2.1 (Vm.Alike.refl s.vm) (fun _ _ => rfl)
  · rw [h1]; exact zt_lays hSt.2.2.2 (Vm.Alike.refl s.vm) (fun _ _ => rfl)
  · exact htB w h1
def zIAE : String := "java/lang/IllegalArgumentException"
def zISE : String := "java/lang/IllegalStateException"
def zUp : List String := ["java/lang/RuntimeException", "java/lang/Exception"]
section ZR
variable {p : Program} {l : Launch} {e : Env} {R : Room} {s : State} {m : MethodId} {args : Array Value} {below : List Frame} {meth : Method} {c : Code} {H : Heap} {locs : List Loc} {cells slots : Nat} {Q : State → Prop}
variable {y : MethodName} {b cc : ByteArray} {maxL nL mc ms n index : Nat} {ret : Option FieldType} {rm : Room} {Qc : Array Value → State → Outcome → State → Prop} {free : Addr → Prop} {own C host : String} {o : Addr} {As rest : List Value} {g : JFrame} {D : va_G} {ws : va_W} {tys : List (ClassId × FieldType)}
theorem zc_B (htB : ∀ w ∈ BG, w.before args s = true) (hc : Cond.code y b maxL ret ∈ BG) (hl : Cond.methodLink own index y ∈ BG) (hi : Cond.initialized y.cls ∈ BG) (hrc : rm.cells = mc) (hrs : rm.slots = ms)
    (hd : y.cls ≠ "java/lang/invoke/MethodHandle" ∧ y.cls ≠ "java/lang/invoke/VarHandle" ∧ (parseMethodDescriptor y.desc).map (fun d => d.parameters.length) = some n) (hR : rm.frames + 1 ≤ R.frames ∧ 8 + (maxL + 11) + rm.locals ≤ R.locals) : CallB R s args own index y b maxL ret (zw y b maxL ret) rm mc ms n :=
  ⟨hrc, hrs, hR.1, hR.2, zw_pay htB hc, List.mem_cons_self, htB _ hc, htB _ hi, ⟨hd.1, hd.2.1⟩, fun sig h => by have h2 := hd.2.2; rw [h] at h2; exact (Option.some.inj h2).symm, htB _ hl⟩
theorem zc_N (htB : ∀ w ∈ BG, w.before args s = true) (hc : Cond.code y b maxL ret ∈ BG) (hl : Cond.methodLinkNest own index y host ∈ BG) (hi : Cond.initialized y.cls ∈ BG) (hrc : rm.cells = mc) (hrs : rm.slots = ms)
    (hd : y.cls ≠ "java/lang/invoke/MethodHandle" ∧ y.cls ≠ "java/lang/invoke/VarHandle" ∧ (parseMethodDescriptor y.desc).map (fun d => d.parameters.length) = some n) (hR : rm.frames + 1 ≤ R.frames ∧ 8 + (maxL + 11) + rm.locals ≤ R.locals) : va_CN R s args own index y host b maxL ret (zw y b maxL ret) rm mc ms n :=
  ⟨⟨hrc, hrs, hR.1, hR.2, zw_pay htB hc, List.mem_cons_self⟩, htB _ hc, htB _ hi, ⟨hd.1, hd.2.1⟩, fun sig h => by have h2 := hd.2.2; rw [h] at h2; exact (Option.some.inj h2).symm, htB _ hl⟩
theorem zr_S (S : CallFix p m c cc nL s args BG own) (hM : Met l y (zw y b maxL ret) rm (zPre As D ws tys) Qc mc ms free) (hc : Cond.code y b maxL ret ∈ BG) (hl : Cond.methodLink own index y ∈ BG) (hst : Cond.static y ∈ BG) (hi : Cond.initialized y.cls ∈ BG) (hrc : rm.cells = mc) (hrs : rm.slots = ms)
    (hd : y.cls ≠ "java/lang/invoke/MethodHandle" ∧ y.cls ≠ "java/lang/invoke/VarHandle" ∧ (parseMethodDescriptor y.desc).map (fun d => d.parameters.length) = some n) (hR : rm.frames + 1 ≤ R.frames ∧ 8 + (maxL + 11) + rm.locals ≤ R.locals) (hP : va_P D vwCl ws H) (hK : va_K D vwCl tys s)
    (hg : g.method = m) (hn : As.length = n) (hsize : g.locals.size = nL) (hstack : g.stack = As.reverse ++ rest) (hW : 2 * g.monitorRoom + (rest.map fun v => v.category).sum ≤ 8) (hdg : decode cc g.pc = .ok (.invokestatic index, 3)) (hf : cells + mc ≤ R.cells ∧ slots + ms ≤ R.slots) :
    va_Run p l e R s m args below meth c H locs cells slots mc ms g rest (Qc As.toArray) free :=
  va_runS S hM ⟨zc_B S.2.2.2.2 hc hl hi hrc hrs hd hR, S.2.2.2.2 _ hst⟩ ⟨zPre_blind, zPre_ok hP hK⟩ hg hn hsize hstack hW hdg hf
theorem zr_SN (S : CallFix p m c cc nL s args BG own) (hM : Met l y (zw y b maxL ret) rm (zPre As D ws tys) Qc mc ms free) (hc : Cond.code y b maxL ret ∈ BG) (hl : Cond.methodLinkNest own index y host ∈ BG) (hst : Cond.static y ∈ BG) (hi : Cond.initialized y.cls ∈ BG) (hrc : rm.cells = mc) (hrs : rm.slots = ms)
    (hd : y.cls ≠ "java/lang/invoke/MethodHandle" ∧ y.cls ≠ "java/lang/invoke/VarHandle" ∧ (parseMethodDescriptor y.desc).map (fun d => d.parameters.length) = some n) (hR : rm.frames + 1 ≤ R.frames ∧ 8 + (maxL + 11) + rm.locals ≤ R.locals) (hP : va_P D vwCl ws H) (hK : va_K D vwCl tys s)
    (hg : g.method = m) (hn : As.length = n) (hsize : g.locals.size = nL) (hstack : g.stack = As.reverse ++ rest) (hW : 2 * g.monitorRoom + (rest.map fun v => v.category).sum ≤ 8) (hdg : decode cc g.pc = .ok (.invokestatic index, 3)) (hf : cells + mc ≤ R.cells ∧ slots + ms ≤ R.slots) :
    va_Run p l e R s m args below meth c H locs cells slots mc ms g rest (Qc As.toArray) free :=
  va_runSN S hM ⟨zc_N S.2.2.2.2 hc hl hi hrc hrs hd hR, S.2.2.2.2 _ hst, trivial⟩ ⟨zPre_blind, zPre_ok hP hK⟩ hg hn hsize hstack hW hdg hf
theorem zr_V {ci : Nat} {q : vw_C} {fs : List Value} {wr : va_W} (S : CallFix p m c cc nL s args BG own) (hM : Met l y (zw y b maxL ret) rm (zPre (.ref o :: As) D ((o, .inr (ci, fs)) :: wr) tys) Qc mc ms free) (hc : Cond.code y b maxL ret ∈ BG) (hl : Cond.methodLink own index y ∈ BG) (hin : Cond.instanceMethod y ∈ BG) (hse : Cond.selects q.1 y y ∈ BG) (hi : Cond.initialized y.cls ∈ BG) (hrc : rm.cells = mc) (hrs : rm.slots = ms)
    (hd : y.cls ≠ "java/lang/invoke/MethodHandle" ∧ y.cls ≠ "java/lang/invoke/VarHandle" ∧ (parseMethodDescriptor y.desc).map (fun d => d.parameters.length) = some n) (hR : rm.frames + 1 ≤ R.frames ∧ 8 + (maxL + 11) + rm.locals ≤ R.locals) (hP : va_P D vwCl ((o, .inr (ci, fs)) :: wr) H) (hK : va_K D vwCl tys s) (hci : vwCl[ci]? = some q)
    (hg : g.method = m) (hn : As.length = n) (hsize : g.locals.size = nL) (hstack : g.stack = As.reverse ++ .ref o :: rest) (hW : 2 * g.monitorRoom + (rest.map fun v => v.category).sum ≤ 8) (hdg : decode cc g.pc = .ok (.invokevirtual index, 3)) (hf : cells + mc ≤ R.cells ∧ slots + ms ≤ R.slots) :
    va_Run p l e R s m args below meth c H locs cells slots mc ms g rest (Qc (Value.ref o :: As).toArray) free :=
  va_runV (C := q.1) S hM ⟨zc_B S.2.2.2.2 hc hl hi hrc hrs hd hR, S.2.2.2.2 _ hin, S.2.2.2.2 _ hse⟩ ⟨zPre_blind, va_recv hK hP hci (q0 := 0) rfl, zPre_ok hP hK⟩ hg hn hsize hstack hW hdg hf
theorem zr_I (S : CallFix p m c cc nL s args BG own) (hM : Met l y (zw y b maxL none) rm (zPre (.ref o :: As) D ws tys) Qc mc ms free) (hc : Cond.code y b maxL none ∈ BG) (hl : Cond.methodLink own index y ∈ BG) (hin : Cond.instanceMethod y ∈ BG) (hnm : y.name = "<init>") (hi : Cond.initialized y.cls ∈ BG) (hrc : rm.cells = mc) (hrs : rm.slots = ms)
    (hd : y.cls ≠ "java/lang/invoke/MethodHandle" ∧ y.cls ≠ "java/lang/invoke/VarHandle" ∧ (parseMethodDescriptor y.desc).map (fun d => d.parameters.length) = some n) (hR : rm.frames + 1 ≤ R.frames ∧ 8 + (maxL + 11) + rm.locals ≤ R.locals) (hP : va_P D vwCl ws H) (hK : va_K D vwCl tys s)
    (hg : g.method = m) (hn : As.length = n) (hsize : g.locals.size = nL) (hstack : g.stack = As.reverse ++ .ref o :: rest) (hW : 2 * g.monitorRoom + (rest.map fun v => v.category).sum ≤ 8) (hdg : decode cc g.pc = .ok (.invokespecial index, 3)) (hf : cells + mc ≤ R.cells ∧ slots + ms ≤ R.slots) :
    va_Run p l e R s m args below meth c H locs cells slots mc ms g rest (Qc (Value.ref o :: As).toArray) free :=
  va_runI S hM ⟨zc_B S.2.2.2.2 hc hl hi hrc hrs hd hR, hnm, S.2.2.2.2 _ hin⟩ ⟨zPre_blind, zPre_ok hP hK⟩ hg hn hsize hstack hW hdg hf
theorem zr_IN (S : CallFix p m c cc nL s args BG own) (hM : Met l y (zw y b maxL none) rm (zPre (.ref o :: As) D ws tys) Qc mc ms free) (hc : Cond.code y b maxL none ∈ BG) (hl : Cond.methodLinkNest own index y host ∈ BG) (hin : Cond.instanceMethod y ∈ BG) (hnm : y.name = "<init>") (hi : Cond.initialized y.cls ∈ BG) (hrc : rm.cells = mc) (hrs : rm.slots = ms)
    (hd : y.cls ≠ "java/lang/invoke/MethodHandle" ∧ y.cls ≠ "java/lang/invoke/VarHandle" ∧ (parseMethodDescriptor y.desc).map (fun d => d.parameters.length) = some n) (hR : rm.frames + 1 ≤ R.frames ∧ 8 + (maxL + 11) + rm.locals ≤ R.locals) (hP : va_P D vwCl ws H) (hK : va_K D vwCl tys s)
    (hg : g.method = m) (hn : As.length = n) (hsize : g.locals.size = nL) (hstack : g.stack = As.reverse ++ .ref o :: rest) (hW : 2 * g.monitorRoom + (rest.map fun v => v.category).sum ≤ 8) (hdg : decode cc g.pc = .ok (.invokespecial index, 3)) (hf : cells + mc ≤ R.cells ∧ slots + ms ≤ R.slots) :
    va_Run p l e R s m args below meth c H locs cells slots mc ms g rest (Qc (Value.ref o :: As).toArray) free :=
  va_runIN S hM ⟨zc_N S.2.2.2.2 hc hl hi hrc hrs hd hR, hnm, S.2.2.2.2 _ hin⟩ ⟨zPre_blind, zPre_ok hP hK⟩ hg hn hsize hstack hW hdg hf
/-- calls of methods that may throw -/
theorem zr_TS (S : CallFix p m c cc nL s args BG own) (hM : MetT l y (zw y b maxL ret) rm (zPreT As D ws tys) Qc mc ms free) (hc : Cond.code y b maxL ret ∈ BG) (hl : Cond.methodLink own index y ∈ BG) (hst : Cond.static y ∈ BG) (hi : Cond.initialized y.cls ∈ BG)
    (hd : y.cls ≠ "java/lang/invoke/MethodHandle" ∧ y.cls ≠ "java/lang/invoke/VarHandle" ∧ (parseMethodDescriptor y.desc).map (fun d => d.parameters.length) = some n) (hR : rm.frames + 1 ≤ R.frames ∧ 8 + (maxL + 11) + rm.locals ≤ R.locals) (hP : va_P D vwCl ws H) (hK : va_K D vwCl tys s) (hSt : zt_S4 s) (hq : ∀ q : Nat, q < s.heap.size → H[q]? = s.heap[q]?)
    (hg : g.method = m) (hn : As.length = n) (hsize : g.locals.size = nL) (hstack : g.stack = As.reverse ++ rest) (hW : 2 * g.monitorRoom + (rest.map fun v => v.category).sum ≤ 8) (hdg : decode cc g.pc = .ok (.invokestatic index, 3)) (hf : cells + rm.cells ≤ R.cells ∧ slots + rm.slots ≤ R.slots) :
    zt_Run p l e R s m args below meth c H locs cells slots mc ms g rest (Qc As.toArray) free :=
  zt_runS S hM ⟨zc_B S.2.2.2.2 hc hl hi rfl rfl hd hR, S.2.2.2.2 _ hst⟩ ⟨zPreT_blind, zPreT_ok S.2.2.2.2 hP hK hSt hq⟩ hg hn hsize hstack hW hdg hf
theorem zr_TV {ci : Nat} {q : vw_C} {fs : List Value} {wr : va_W} (S : CallFix p m c cc nL s args BG own) (hM : MetT l y (zw y b maxL ret) rm (zPreT (.ref o :: As) D ((o, .inr (ci, fs)) :: wr) tys) Qc mc ms free) (hc : Cond.code y b maxL ret ∈ BG) (hl : Cond.methodLink own index y ∈ BG) (hin : Cond.instanceMethod y ∈ BG) (hse : Cond.selects q.1 y y ∈ BG) (hi : Cond.initialized y.cls ∈ BG)
    (hd : y.cls ≠ "java/lang/invoke/MethodHandle" ∧ y.cls ≠ "java/lang/invoke/VarHandle" ∧ (parseMethodDescriptor y.desc).map (fun d => d.parameters.length) = some n) (hR : rm.frames + 1 ≤ R.frames ∧ 8 + (maxL + 11) + rm.locals ≤ R.locals) (hP : va_P D vwCl ((o, .inr (ci, fs)) :: wr) H) (hK : va_K D vwCl tys s) (hSt : zt_S4 s) (hq : ∀ q : Nat, q < s.heap.size → H[q]? = s.heap[q]?) (hci : vwCl[ci]? = some q)
    (hg : g.method = m) (hn : As.length = n) (hsize : g.locals.size = nL) (hstack : g.stack = As.reverse ++ .ref o :: rest) (hW : 2 * g.monitorRoom + (rest.map fun v => v.category).sum ≤ 8) (hdg : decode cc g.pc = .ok (.invokevirtual index, 3)) (hf : cells + rm.cells ≤ R.cells ∧ slots + rm.slots ≤ R.slots) :
    zt_Run p l e R s m args below meth c H locs cells slots mc ms g rest (Qc (Value.ref o :: As).toArray) free :=
  zt_runV (C := q.1) S hM ⟨zc_B S.2.2.2.2 hc hl hi rfl rfl hd hR, S.2.2.2.2 _ hin, S.2.2.2.2 _ hse⟩ ⟨zPreT_blind, va_recv hK hP hci (q0 := 0) rfl, zPreT_ok S.2.2.2.2 hP hK hSt hq⟩ hg hn hsize hstack hW hdg hf
end ZR
theorem zw_IAE : (Bundle.ownAtoms R_CD 155 zIAE zUp).all (fun w => zt_is4 w || decide (w ∈ BG)) = true := by decide +kernel
end
