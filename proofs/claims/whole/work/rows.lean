section
-- ===== PART A: goes FIRST, ahead of the names: the tables' words, and 'selects' of the private methods out of them =====
/-- a private method of a class that the tables say can be made, by its rows of tables_1 -/
def lw_okq (q : MethodName × Nat) : Prop := (q.1.cls ≠ "java/lang/invoke/MethodHandle" ∧ q.1.cls ≠ "java/lang/invoke/VarHandle") ∧ Cond.instantiable q.1.cls q.2 ∈ tables_1 ∧ Cond.privateMethod q.1 ∈ tables_1 ∧ Cond.instanceMethod q.1 ∈ tables_1
theorem lw_p0 : lw_okq (⟨"java/lang/Throwable", "fillInStackTrace", "(I)Ljava/lang/Throwable;"⟩, 6) := ⟨⟨by decide +kernel, by decide +kernel⟩, List.mem_of_getElem? (i := 295) (by decide +kernel), List.mem_of_getElem? (i := 293) (by decide +kernel), List.mem_of_getElem? (i := 294) (by decide +kernel)⟩
theorem lw_p1 : lw_okq (⟨"PriceHouse", "isBook", "(I)Z"⟩, 9) := ⟨⟨by decide +kernel, by decide +kernel⟩, List.mem_of_getElem? (i := 20) (by decide +kernel), List.mem_of_getElem? (i := 378) (by decide +kernel), List.mem_of_getElem? (i := 379) (by decide +kernel)⟩
theorem lw_p2 : lw_okq (⟨"PriceHouse", "checkLetter", "(I)V"⟩, 9) := ⟨⟨by decide +kernel, by decide +kernel⟩, List.mem_of_getElem? (i := 20) (by decide +kernel), List.mem_of_getElem? (i := 486) (by decide +kernel), List.mem_of_getElem? (i := 487) (by decide +kernel)⟩
theorem lw_p3 : lw_okq (⟨"PriceHouse", "bringToDesk", "(IIII)V"⟩, 9) := ⟨⟨by decide +kernel, by decide +kernel⟩, List.mem_of_getElem? (i := 20) (by decide +kernel), List.mem_of_getElem? (i := 518) (by decide +kernel), List.mem_of_getElem? (i := 519) (by decide +kernel)⟩
theorem lw_p4 : lw_okq (⟨"PriceHouse$Desk", "bookFor", "(LPriceHouse$Note;)I"⟩, 5) := ⟨⟨by decide +kernel, by decide +kernel⟩, List.mem_of_getElem? (i := 100) (by decide +kernel), List.mem_of_getElem? (i := 526) (by decide +kernel), List.mem_of_getElem? (i := 527) (by decide +kernel)⟩
theorem lw_p5 : lw_okq (⟨"PriceHouse", "checkOpenBasket", "(I)V"⟩, 9) := ⟨⟨by decide +kernel, by decide +kernel⟩, List.mem_of_getElem? (i := 20) (by decide +kernel), List.mem_of_getElem? (i := 586) (by decide +kernel), List.mem_of_getElem? (i := 587) (by decide +kernel)⟩
theorem lw_p6 : lw_okq (⟨"PriceHouse", "isBasket", "(I)Z"⟩, 9) := ⟨⟨by decide +kernel, by decide +kernel⟩, List.mem_of_getElem? (i := 20) (by decide +kernel), List.mem_of_getElem? (i := 590) (by decide +kernel), List.mem_of_getElem? (i := 591) (by decide +kernel)⟩
theorem lw_p7 : lw_okq (⟨"PriceHouse", "sells", "(II)Z"⟩, 9) := ⟨⟨by decide +kernel, by decide +kernel⟩, List.mem_of_getElem? (i := 20) (by decide +kernel), List.mem_of_getElem? (i := 609) (by decide +kernel), List.mem_of_getElem? (i := 610) (by decide +kernel)⟩
theorem lw_p8 : lw_okq (⟨"PriceHouseModel", "post", "(IIII)V"⟩, 30) := ⟨⟨by decide +kernel, by decide +kernel⟩, List.mem_of_getElem? (i := 656) (by decide +kernel), List.mem_of_getElem? (i := 774) (by decide +kernel), List.mem_of_getElem? (i := 775) (by decide +kernel)⟩
theorem lw_p9 : lw_okq (⟨"PriceHouseModel", "look", "()V"⟩, 30) := ⟨⟨by decide +kernel, by decide +kernel⟩, List.mem_of_getElem? (i := 656) (by decide +kernel), List.mem_of_getElem? (i := 782) (by decide +kernel), List.mem_of_getElem? (i := 783) (by decide +kernel)⟩
theorem lw_p10 : lw_okq (⟨"PriceHouseModel", "clock", "(I)I"⟩, 30) := ⟨⟨by decide +kernel, by decide +kernel⟩, List.mem_of_getElem? (i := 656) (by decide +kernel), List.mem_of_getElem? (i := 786) (by decide +kernel), List.mem_of_getElem? (i := 787) (by decide +kernel)⟩
theorem lw_p11 : lw_okq (⟨"PriceHouseModel", "free", "(I)Z"⟩, 30) := ⟨⟨by decide +kernel, by decide +kernel⟩, List.mem_of_getElem? (i := 656) (by decide +kernel), List.mem_of_getElem? (i := 790) (by decide +kernel), List.mem_of_getElem? (i := 791) (by decide +kernel)⟩
theorem lw_p12 : lw_okq (⟨"PriceHouseModel", "validLease", "(I)I"⟩, 30) := ⟨⟨by decide +kernel, by decide +kernel⟩, List.mem_of_getElem? (i := 656) (by decide +kernel), List.mem_of_getElem? (i := 826) (by decide +kernel), List.mem_of_getElem? (i := 827) (by decide +kernel)⟩
theorem lw_p13 : lw_okq (⟨"PriceHouseModel", "remove", "(I)V"⟩, 30) := ⟨⟨by decide +kernel, by decide +kernel⟩, List.mem_of_getElem? (i := 656) (by decide +kernel), List.mem_of_getElem? (i := 838) (by decide +kernel), List.mem_of_getElem? (i := 839) (by decide +kernel)⟩
theorem lw_p14 : lw_okq (⟨"PriceHouseModel", "comes", "(IIII)V"⟩, 30) := ⟨⟨by decide +kernel, by decide +kernel⟩, List.mem_of_getElem? (i := 656) (by decide +kernel), List.mem_of_getElem? (i := 842) (by decide +kernel), List.mem_of_getElem? (i := 843) (by decide +kernel)⟩
theorem lw_p15 : lw_okq (⟨"PriceHouseModel", "asked", "(II)V"⟩, 30) := ⟨⟨by decide +kernel, by decide +kernel⟩, List.mem_of_getElem? (i := 656) (by decide +kernel), List.mem_of_getElem? (i := 846) (by decide +kernel), List.mem_of_getElem? (i := 847) (by decide +kernel)⟩
def lw_privs_1 : List (MethodName × Nat) := [(⟨"java/lang/Throwable", "fillInStackTrace", "(I)Ljava/lang/Throwable;"⟩, 6), (⟨"PriceHouse", "isBook", "(I)Z"⟩, 9), (⟨"PriceHouse", "checkLetter", "(I)V"⟩, 9), (⟨"PriceHouse", "bringToDesk", "(IIII)V"⟩, 9), (⟨"PriceHouse$Desk", "bookFor", "(LPriceHouse$Note;)I"⟩, 5), (⟨"PriceHouse", "checkOpenBasket", "(I)V"⟩, 9), (⟨"PriceHouse", "isBasket", "(I)Z"⟩, 9), (⟨"PriceHouse", "sells", "(II)Z"⟩, 9), (⟨"PriceHouseModel", "post", "(IIII)V"⟩, 30), (⟨"PriceHouseModel", "look", "()V"⟩, 30), (⟨"PriceHouseModel", "clock", "(I)I"⟩, 30), (⟨"PriceHouseModel", "free", "(I)Z"⟩, 30), (⟨"PriceHouseModel", "validLease", "(I)I"⟩, 30), (⟨"PriceHouseModel", "remove", "(I)V"⟩, 30), (⟨"PriceHouseModel", "comes", "(IIII)V"⟩, 30), (⟨"PriceHouseModel", "asked", "(II)V"⟩, 30)]
theorem lw_r1 : ∀ q ∈ lw_privs_1, lw_okq q := List.forall_mem_cons.mpr ⟨lw_p0, List.forall_mem_cons.mpr ⟨lw_p1, List.forall_mem_cons.mpr ⟨lw_p2, List.forall_mem_cons.mpr ⟨lw_p3, List.forall_mem_cons.mpr ⟨lw_p4, List.forall_mem_cons.mpr ⟨lw_p5, List.forall_mem_cons.mpr ⟨lw_p6, List.forall_mem_cons.mpr ⟨lw_p7, List.forall_mem_cons.mpr ⟨lw_p8, List.forall_mem_cons.mpr ⟨lw_p9, List.forall_mem_cons.mpr ⟨lw_p10, List.forall_mem_cons.mpr ⟨lw_p11, List.forall_mem_cons.mpr ⟨lw_p12, List.forall_mem_cons.mpr ⟨lw_p13, List.forall_mem_cons.mpr ⟨lw_p14, List.forall_mem_cons.mpr ⟨lw_p15, fun _ h => absurd h List.not_mem_nil⟩⟩⟩⟩⟩⟩⟩⟩⟩⟩⟩⟩⟩⟩⟩⟩
theorem lw_p16 : lw_okq (⟨"PriceHouseModel", "noOpen", "(I)Z"⟩, 30) := ⟨⟨by decide +kernel, by decide +kernel⟩, List.mem_of_getElem? (i := 656) (by decide +kernel), List.mem_of_getElem? (i := 874) (by decide +kernel), List.mem_of_getElem? (i := 875) (by decide +kernel)⟩
theorem lw_p17 : lw_okq (⟨"PriceHouseModel", "cheapest", "(III)J"⟩, 30) := ⟨⟨by decide +kernel, by decide +kernel⟩, List.mem_of_getElem? (i := 656) (by decide +kernel), List.mem_of_getElem? (i := 882) (by decide +kernel), List.mem_of_getElem? (i := 883) (by decide +kernel)⟩
def lw_privs_2 : List (MethodName × Nat) := [(⟨"PriceHouseModel", "noOpen", "(I)Z"⟩, 30), (⟨"PriceHouseModel", "cheapest", "(III)J"⟩, 30)]
theorem lw_r2 : ∀ q ∈ lw_privs_2, lw_okq q := List.forall_mem_cons.mpr ⟨lw_p16, List.forall_mem_cons.mpr ⟨lw_p17, fun _ h => absurd h List.not_mem_nil⟩⟩
def lw_privs : List (MethodName × Nat) := lw_privs_1 ++ (lw_privs_2)
def lw_tbl : List Cond := k2_sels lw_privs ++ tables_1
theorem lw_privs_ok : ∀ q ∈ lw_privs, lw_okq q := by
  show ∀ q ∈ lw_privs_1 ++ (lw_privs_2), lw_okq q
  exact List.forall_mem_append.mpr ⟨lw_r1, lw_r2⟩
-- ===== end of PART A; then your names; then what follows =====
end
section
/-! names: of the class (B Basket, C Clock, D Desk, R LetterRow, N Note, L PriceList, T Till, H PriceHouse), the reference (M) and the law (W), by program out of the listing -/
def R_B : String := "PriceHouse$Basket"
def T_B : u_T := fun k => match k with
  | 0 => ("PriceHouse$Basket", "till", "I", false)
  | 1 => ("PriceHouse$Basket", "bookNumber", "I", false)
  | 2 => ("PriceHouse$Basket", "isOpen", "Z", false)
  | _ => ("PriceHouse$Basket", "pieces", "[I", true)
def ft_B : Nat → FieldType := fun k => match k with
  | 0 => .int
  | 1 => .int
  | 2 => .boolean
  | _ => .array .int
theorem n_B : ∀ a, a < 4 → ∀ b, b < 4 → a ≠ b → (T_B a).2.1 ≠ (T_B b).2.1 := by decide +kernel
theorem k_B : ∀ k, k < 4 → parseFieldDescriptor (T_B k).2.2.1 = some (ft_B k) := by decide +kernel
def R_C : String := "PriceHouse$Clock"
def T_C : u_T := fun k => match k with
  | 0 => ("PriceHouse$Clock", "hundredths", "I", false)
  | _ => ("PriceHouse$Clock", "perTick", "I", false)
def ft_C : Nat → FieldType := fun k => match k with
  | 0 => .int
  | _ => .int
theorem n_C : ∀ a, a < 2 → ∀ b, b < 2 → a ≠ b → (T_C a).2.1 ≠ (T_C b).2.1 := by decide +kernel
theorem k_C : ∀ k, k < 2 → parseFieldDescriptor (T_C k).2.2.1 = some (ft_C k) := by decide +kernel
def R_D : String := "PriceHouse$Desk"
def T_D : u_T := fun k => match k with
  | 0 => ("PriceHouse$Desk", "clock", "LPriceHouse$Clock;", true)
  | 1 => ("PriceHouse$Desk", "notes", "[LPriceHouse$Note;", true)
  | 2 => ("PriceHouse$Desk", "activeBook", "I", false)
  | 3 => ("PriceHouse$Desk", "changeTo", "I", false)
  | _ => ("PriceHouse$Desk", "waitsUntil", "I", false)
def ft_D : Nat → FieldType := fun k => match k with
  | 0 => .object "PriceHouse$Clock"
  | 1 => .array (.object "PriceHouse$Note")
  | 2 => .int
  | 3 => .int
  | _ => .int
theorem n_D : ∀ a, a < 5 → ∀ b, b < 5 → a ≠ b → (T_D a).2.1 ≠ (T_D b).2.1 := by decide +kernel
theorem k_D : ∀ k, k < 5 → parseFieldDescriptor (T_D k).2.2.1 = some (ft_D k) := by decide +kernel
def R_R : String := "PriceHouse$LetterRow"
def T_R : u_T := fun k => match k with
  | 0 => ("PriceHouse$LetterRow", "kinds", "[I", true)
  | 1 => ("PriceHouse$LetterRow", "tills", "[I", true)
  | 2 => ("PriceHouse$LetterRow", "books", "[I", true)
  | 3 => ("PriceHouse$LetterRow", "askings", "[I", true)
  | _ => ("PriceHouse$LetterRow", "count", "I", false)
def ft_R : Nat → FieldType := fun k => match k with
  | 0 => .array .int
  | 1 => .array .int
  | 2 => .array .int
  | 3 => .array .int
  | _ => .int
theorem n_R : ∀ a, a < 5 → ∀ b, b < 5 → a ≠ b → (T_R a).2.1 ≠ (T_R b).2.1 := by decide +kernel
theorem k_R : ∀ k, k < 5 → parseFieldDescriptor (T_R k).2.2.1 = some (ft_R k) := by decide +kernel
def R_N : String := "PriceHouse$Note"
def T_N : u_T := fun k => match k with
  | 0 => ("PriceHouse$Note", "knownReady", "I", false)
  | 1 => ("PriceHouse$Note", "lastAsking", "I", false)
  | 2 => ("PriceHouse$Note", "grantedBook", "I", false)
  | 3 => ("PriceHouse$Note", "grantedAt", "I", false)
  | _ => ("PriceHouse$Note", "holds", "Z", false)
def ft_N : Nat → FieldType := fun k => match k with
  | 0 => .int
  | 1 => .int
  | 2 => .int
  | 3 => .int
  | _ => .boolean
theorem n_N : ∀ a, a < 5 → ∀ b, b < 5 → a ≠ b → (T_N a).2.1 ≠ (T_N b).2.1 := by decide +kernel
theorem k_N : ∀ k, k < 5 → parseFieldDescriptor (T_N k).2.2.1 = some (ft_N k) := by decide +kernel
def R_L : String := "PriceHouse$PriceList"
def T_L : u_T := fun k => match k with
  | 0 => ("PriceHouse$PriceList", "prices", "[I", true)
  | 1 => ("PriceHouse$PriceList", "sizes", "[I", true)
  | _ => ("PriceHouse$PriceList", "costs", "[I", true)
def ft_L : Nat → FieldType := fun k => match k with
  | 0 => .array .int
  | 1 => .array .int
  | _ => .array .int
theorem n_L : ∀ a, a < 3 → ∀ b, b < 3 → a ≠ b → (T_L a).2.1 ≠ (T_L b).2.1 := by decide +kernel
theorem k_L : ∀ k, k < 3 → parseFieldDescriptor (T_L k).2.2.1 = some (ft_L k) := by decide +kernel
def R_T : String := "PriceHouse$Till"
def T_T : u_T := fun k => match k with
  | 0 => ("PriceHouse$Till", "clock", "LPriceHouse$Clock;", true)
  | 1 => ("PriceHouse$Till", "bookCount", "I", false)
  | 2 => ("PriceHouse$Till", "readyFor", "I", false)
  | 3 => ("PriceHouse$Till", "asking", "I", false)
  | 4 => ("PriceHouse$Till", "askedAt", "I", false)
  | 5 => ("PriceHouse$Till", "gaveUp", "Z", false)
  | 6 => ("PriceHouse$Till", "leasedBook", "I", false)
  | _ => ("PriceHouse$Till", "openBaskets", "I", false)
def ft_T : Nat → FieldType := fun k => match k with
  | 0 => .object "PriceHouse$Clock"
  | 1 => .int
  | 2 => .int
  | 3 => .int
  | 4 => .int
  | 5 => .boolean
  | 6 => .int
  | _ => .int
theorem n_T : ∀ a, a < 8 → ∀ b, b < 8 → a ≠ b → (T_T a).2.1 ≠ (T_T b).2.1 := by decide +kernel
theorem k_T : ∀ k, k < 8 → parseFieldDescriptor (T_T k).2.2.1 = some (ft_T k) := by decide +kernel
def R_H : String := "PriceHouse"
def T_H : u_T := fun k => match k with
  | 0 => ("PriceHouse", "draft", "LPriceHouse$PriceList;", true)
  | 1 => ("PriceHouse", "books", "[LPriceHouse$PriceList;", true)
  | 2 => ("PriceHouse", "published", "I", false)
  | 3 => ("PriceHouse", "tills", "[LPriceHouse$Till;", true)
  | 4 => ("PriceHouse", "desk", "LPriceHouse$Desk;", true)
  | 5 => ("PriceHouse", "row", "LPriceHouse$LetterRow;", true)
  | 6 => ("PriceHouse", "baskets", "[LPriceHouse$Basket;", true)
  | 7 => ("PriceHouse", "basketCount", "I", false)
  | _ => ("PriceHouse", "leastRow", "[J", true)
def ft_H : Nat → FieldType := fun k => match k with
  | 0 => .object "PriceHouse$PriceList"
  | 1 => .array (.object "PriceHouse$PriceList")
  | 2 => .int
  | 3 => .array (.object "PriceHouse$Till")
  | 4 => .object "PriceHouse$Desk"
  | 5 => .object "PriceHouse$LetterRow"
  | 6 => .array (.object "PriceHouse$Basket")
  | 7 => .int
  | _ => .array .long
theorem n_H : ∀ a, a < 9 → ∀ b, b < 9 → a ≠ b → (T_H a).2.1 ≠ (T_H b).2.1 := by decide +kernel
theorem k_H : ∀ k, k < 9 → parseFieldDescriptor (T_H k).2.2.1 = some (ft_H k) := by decide +kernel
def R_M : String := "PriceHouseModel"
def T_M : u_T := fun k => match k with
  | 0 => ("PriceHouseModel", "thrownCode", "I", false)
  | 1 => ("PriceHouseModel", "books", "I", false)
  | 2 => ("PriceHouseModel", "prices", "[I", true)
  | 3 => ("PriceHouseModel", "pieces", "[I", true)
  | 4 => ("PriceHouseModel", "cents", "[I", true)
  | 5 => ("PriceHouseModel", "hundredths", "[I", true)
  | 6 => ("PriceHouseModel", "rates", "[I", true)
  | 7 => ("PriceHouseModel", "has", "[I", true)
  | 8 => ("PriceHouseModel", "isReady", "[I", true)
  | 9 => ("PriceHouseModel", "askings", "[I", true)
  | 10 => ("PriceHouseModel", "given", "[Z", true)
  | 11 => ("PriceHouseModel", "askedAt", "[I", true)
  | 12 => ("PriceHouseModel", "leaseOf", "[I", true)
  | 13 => ("PriceHouseModel", "activeBook", "I", false)
  | 14 => ("PriceHouseModel", "change", "I", false)
  | 15 => ("PriceHouseModel", "waits", "Z", false)
  | 16 => ("PriceHouseModel", "waitsTo", "I", false)
  | 17 => ("PriceHouseModel", "noted", "[I", true)
  | 18 => ("PriceHouseModel", "holds", "[Z", true)
  | 19 => ("PriceHouseModel", "notedBook", "[I", true)
  | 20 => ("PriceHouseModel", "notedAt", "[I", true)
  | 21 => ("PriceHouseModel", "knownReady", "[I", true)
  | 22 => ("PriceHouseModel", "letters", "I", false)
  | 23 => ("PriceHouseModel", "row", "[I", true)
  | 24 => ("PriceHouseModel", "baskets", "I", false)
  | 25 => ("PriceHouseModel", "basketTill", "[I", true)
  | 26 => ("PriceHouseModel", "basketBook", "[I", true)
  | 27 => ("PriceHouseModel", "isOpen", "[Z", true)
  | 28 => ("PriceHouseModel", "count", "[I", true)
  | _ => ("PriceHouseModel", "least", "[J", true)
def ft_M : Nat → FieldType := fun k => match k with
  | 0 => .int
  | 1 => .int
  | 2 => .array .int
  | 3 => .array .int
  | 4 => .array .int
  | 5 => .array .int
  | 6 => .array .int
  | 7 => .array .int
  | 8 => .array .int
  | 9 => .array .int
  | 10 => .array .boolean
  | 11 => .array .int
  | 12 => .array .int
  | 13 => .int
  | 14 => .int
  | 15 => .boolean
  | 16 => .int
  | 17 => .array .int
  | 18 => .array .boolean
  | 19 => .array .int
  | 20 => .array .int
  | 21 => .array .int
  | 22 => .int
  | 23 => .array .int
  | 24 => .int
  | 25 => .array .int
  | 26 => .array .int
  | 27 => .array .boolean
  | 28 => .array .int
  | _ => .array .long
theorem n_M : ∀ a, a < 30 → ∀ b, b < 30 → a ≠ b → (T_M a).2.1 ≠ (T_M b).2.1 := by decide +kernel
theorem k_M : ∀ k, k < 30 → parseFieldDescriptor (T_M k).2.2.1 = some (ft_M k) := by decide +kernel
def R_W : String := "PriceHouseLaw"
abbrev qCl : List vw_C := [(R_B, T_B, 4), (R_C, T_C, 2), (R_D, T_D, 5), (R_R, T_R, 5), (R_N, T_N, 5), (R_L, T_L, 3), (R_T, T_T, 8), (R_H, T_H, 9), (R_M, T_M, 30)]
abbrev b_H_init : ByteArray := prog_1_method_1_code
abbrev y_H_init : MethodName := ⟨"PriceHouse", "<init>", "()V"⟩
abbrev b_H_article : ByteArray := prog_1_method_2_code
abbrev y_H_article : MethodName := ⟨"PriceHouse", "article", "(II)V"⟩
abbrev b_H_bundle : ByteArray := prog_1_method_3_code
abbrev y_H_bundle : MethodName := ⟨"PriceHouse", "bundle", "(IIII)V"⟩
abbrev b_H_publish : ByteArray := prog_1_method_4_code
abbrev y_H_publish : MethodName := ⟨"PriceHouse", "publish", "()I"⟩
abbrev b_H_price : ByteArray := prog_1_method_5_code
abbrev y_H_price : MethodName := ⟨"PriceHouse", "price", "(II)I"⟩
abbrev b_H_activate : ByteArray := prog_1_method_6_code
abbrev y_H_activate : MethodName := ⟨"PriceHouse", "activate", "(I)V"⟩
abbrev b_H_active : ByteArray := prog_1_method_7_code
abbrev y_H_active : MethodName := ⟨"PriceHouse", "active", "()I"⟩
abbrev b_H_tick : ByteArray := prog_1_method_8_code
abbrev y_H_tick : MethodName := ⟨"PriceHouse", "tick", "(I)I"⟩
abbrev b_H_rate : ByteArray := prog_1_method_9_code
abbrev y_H_rate : MethodName := ⟨"PriceHouse", "rate", "(II)V"⟩
abbrev b_H_fetch : ByteArray := prog_1_method_10_code
abbrev y_H_fetch : MethodName := ⟨"PriceHouse", "fetch", "(I)I"⟩
abbrev b_H_ready : ByteArray := prog_1_method_11_code
abbrev y_H_ready : MethodName := ⟨"PriceHouse", "ready", "(I)I"⟩
abbrev b_H_ask : ByteArray := prog_1_method_12_code
abbrev y_H_ask : MethodName := ⟨"PriceHouse", "ask", "(I)I"⟩
abbrev b_H_giveUp : ByteArray := prog_1_method_13_code
abbrev y_H_giveUp : MethodName := ⟨"PriceHouse", "giveUp", "(I)V"⟩
abbrev b_H_lease : ByteArray := prog_1_method_14_code
abbrev y_H_lease : MethodName := ⟨"PriceHouse", "lease", "(I)I"⟩
abbrev b_H_loaded : ByteArray := prog_1_method_15_code
abbrev y_H_loaded : MethodName := ⟨"PriceHouse", "loaded", "(I)I"⟩
abbrev b_H_restart : ByteArray := prog_1_method_16_code
abbrev y_H_restart : MethodName := ⟨"PriceHouse", "restart", "(I)V"⟩
abbrev b_H_deliver : ByteArray := prog_1_method_17_code
abbrev y_H_deliver : MethodName := ⟨"PriceHouse", "deliver", "(I)V"⟩
abbrev b_H_lose : ByteArray := prog_1_method_18_code
abbrev y_H_lose : MethodName := ⟨"PriceHouse", "lose", "(I)V"⟩
abbrev b_H_twin : ByteArray := prog_1_method_19_code
abbrev y_H_twin : MethodName := ⟨"PriceHouse", "twin", "(I)V"⟩
abbrev b_H_letter : ByteArray := prog_1_method_20_code
abbrev y_H_letter : MethodName := ⟨"PriceHouse", "letter", "(II)I"⟩
abbrev b_H_letters : ByteArray := prog_1_method_21_code
abbrev y_H_letters : MethodName := ⟨"PriceHouse", "letters", "()I"⟩
abbrev b_H_open : ByteArray := prog_1_method_22_code
abbrev y_H_open : MethodName := ⟨"PriceHouse", "open", "(I)I"⟩
abbrev b_H_scan : ByteArray := prog_1_method_23_code
abbrev y_H_scan : MethodName := ⟨"PriceHouse", "scan", "(III)I"⟩
abbrev b_H_pay : ByteArray := prog_1_method_24_code
abbrev y_H_pay : MethodName := ⟨"PriceHouse", "pay", "(I)J"⟩
abbrev b_H_book : ByteArray := prog_1_method_25_code
abbrev y_H_book : MethodName := ⟨"PriceHouse", "book", "(I)I"⟩
abbrev b_H_isArticle : ByteArray := prog_1_method_26_code
abbrev y_H_isArticle : MethodName := ⟨"PriceHouse", "isArticle", "(I)Z"⟩
abbrev b_H_isSlot : ByteArray := prog_1_method_27_code
abbrev y_H_isSlot : MethodName := ⟨"PriceHouse", "isSlot", "(I)Z"⟩
abbrev b_H_isBundleSize : ByteArray := prog_1_method_28_code
abbrev y_H_isBundleSize : MethodName := ⟨"PriceHouse", "isBundleSize", "(I)Z"⟩
abbrev b_H_isAmount : ByteArray := prog_1_method_29_code
abbrev y_H_isAmount : MethodName := ⟨"PriceHouse", "isAmount", "(I)Z"⟩
abbrev b_H_isTillOrDesk : ByteArray := prog_1_method_30_code
abbrev y_H_isTillOrDesk : MethodName := ⟨"PriceHouse", "isTillOrDesk", "(I)Z"⟩
abbrev b_H_isBook : ByteArray := prog_1_method_31_code
abbrev y_H_isBook : MethodName := ⟨"PriceHouse", "isBook", "(I)Z"⟩
abbrev b_H_isBasket : ByteArray := prog_1_method_32_code
abbrev y_H_isBasket : MethodName := ⟨"PriceHouse", "isBasket", "(I)Z"⟩
abbrev b_H_sells : ByteArray := prog_1_method_33_code
abbrev y_H_sells : MethodName := ⟨"PriceHouse", "sells", "(II)Z"⟩
abbrev b_H_checkTill : ByteArray := prog_1_method_34_code
abbrev y_H_checkTill : MethodName := ⟨"PriceHouse", "checkTill", "(I)V"⟩
abbrev b_H_checkLetter : ByteArray := prog_1_method_35_code
abbrev y_H_checkLetter : MethodName := ⟨"PriceHouse", "checkLetter", "(I)V"⟩
abbrev b_H_checkOpenBasket : ByteArray := prog_1_method_36_code
abbrev y_H_checkOpenBasket : MethodName := ⟨"PriceHouse", "checkOpenBasket", "(I)V"⟩
abbrev b_H_bringToDesk : ByteArray := prog_1_method_37_code
abbrev y_H_bringToDesk : MethodName := ⟨"PriceHouse", "bringToDesk", "(IIII)V"⟩
abbrev b_M_init : ByteArray := prog_10_method_1_code
abbrev y_M_init : MethodName := ⟨"PriceHouseModel", "<init>", "()V"⟩
abbrev b_M_clock : ByteArray := prog_10_method_2_code
abbrev y_M_clock : MethodName := ⟨"PriceHouseModel", "clock", "(I)I"⟩
abbrev b_M_post : ByteArray := prog_10_method_3_code
abbrev y_M_post : MethodName := ⟨"PriceHouseModel", "post", "(IIII)V"⟩
abbrev b_M_remove : ByteArray := prog_10_method_4_code
abbrev y_M_remove : MethodName := ⟨"PriceHouseModel", "remove", "(I)V"⟩
abbrev b_M_free : ByteArray := prog_10_method_5_code
abbrev y_M_free : MethodName := ⟨"PriceHouseModel", "free", "(I)Z"⟩
abbrev b_M_look : ByteArray := prog_10_method_6_code
abbrev y_M_look : MethodName := ⟨"PriceHouseModel", "look", "()V"⟩
abbrev b_M_asked : ByteArray := prog_10_method_7_code
abbrev y_M_asked : MethodName := ⟨"PriceHouseModel", "asked", "(II)V"⟩
abbrev b_M_comes : ByteArray := prog_10_method_8_code
abbrev y_M_comes : MethodName := ⟨"PriceHouseModel", "comes", "(IIII)V"⟩
abbrev b_M_validLease : ByteArray := prog_10_method_9_code
abbrev y_M_validLease : MethodName := ⟨"PriceHouseModel", "validLease", "(I)I"⟩
abbrev b_M_thrown : ByteArray := prog_10_method_10_code
abbrev y_M_thrown : MethodName := ⟨"PriceHouseModel", "thrown", "()I"⟩
abbrev b_M_not : ByteArray := prog_10_method_11_code
abbrev y_M_not : MethodName := ⟨"PriceHouseModel", "not", "(II)Z"⟩
abbrev b_M_article : ByteArray := prog_10_method_12_code
abbrev y_M_article : MethodName := ⟨"PriceHouseModel", "article", "(II)V"⟩
abbrev b_M_bundle : ByteArray := prog_10_method_13_code
abbrev y_M_bundle : MethodName := ⟨"PriceHouseModel", "bundle", "(IIII)V"⟩
abbrev b_M_publish : ByteArray := prog_10_method_14_code
abbrev y_M_publish : MethodName := ⟨"PriceHouseModel", "publish", "()I"⟩
abbrev b_M_activate : ByteArray := prog_10_method_15_code
abbrev y_M_activate : MethodName := ⟨"PriceHouseModel", "activate", "(I)V"⟩
abbrev b_M_active : ByteArray := prog_10_method_16_code
abbrev y_M_active : MethodName := ⟨"PriceHouseModel", "active", "()I"⟩
abbrev b_M_tick : ByteArray := prog_10_method_17_code
abbrev y_M_tick : MethodName := ⟨"PriceHouseModel", "tick", "(I)I"⟩
abbrev b_M_rate : ByteArray := prog_10_method_18_code
abbrev y_M_rate : MethodName := ⟨"PriceHouseModel", "rate", "(II)V"⟩
abbrev b_M_fetch : ByteArray := prog_10_method_19_code
abbrev y_M_fetch : MethodName := ⟨"PriceHouseModel", "fetch", "(I)I"⟩
abbrev b_M_ready : ByteArray := prog_10_method_20_code
abbrev y_M_ready : MethodName := ⟨"PriceHouseModel", "ready", "(I)I"⟩
abbrev b_M_ask : ByteArray := prog_10_method_21_code
abbrev y_M_ask : MethodName := ⟨"PriceHouseModel", "ask", "(I)I"⟩
abbrev b_M_giveUp : ByteArray := prog_10_method_22_code
abbrev y_M_giveUp : MethodName := ⟨"PriceHouseModel", "giveUp", "(I)V"⟩
abbrev b_M_lease : ByteArray := prog_10_method_23_code
abbrev y_M_lease : MethodName := ⟨"PriceHouseModel", "lease", "(I)I"⟩
abbrev b_M_loaded : ByteArray := prog_10_method_24_code
abbrev y_M_loaded : MethodName := ⟨"PriceHouseModel", "loaded", "(I)I"⟩
abbrev b_M_deliver : ByteArray := prog_10_method_25_code
abbrev y_M_deliver : MethodName := ⟨"PriceHouseModel", "deliver", "(I)V"⟩
abbrev b_M_lose : ByteArray := prog_10_method_26_code
abbrev y_M_lose : MethodName := ⟨"PriceHouseModel", "lose", "(I)V"⟩
abbrev b_M_twin : ByteArray := prog_10_method_27_code
abbrev y_M_twin : MethodName := ⟨"PriceHouseModel", "twin", "(I)V"⟩
abbrev b_M_letter : ByteArray := prog_10_method_28_code
abbrev y_M_letter : MethodName := ⟨"PriceHouseModel", "letter", "(II)I"⟩
abbrev b_M_letters : ByteArray := prog_10_method_29_code
abbrev y_M_letters : MethodName := ⟨"PriceHouseModel", "letters", "()I"⟩
abbrev b_M_open : ByteArray := prog_10_method_30_code
abbrev y_M_open : MethodName := ⟨"PriceHouseModel", "open", "(I)I"⟩
abbrev b_M_noOpen : ByteArray := prog_10_method_31_code
abbrev y_M_noOpen : MethodName := ⟨"PriceHouseModel", "noOpen", "(I)Z"⟩
abbrev b_M_scan : ByteArray := prog_10_method_32_code
abbrev y_M_scan : MethodName := ⟨"PriceHouseModel", "scan", "(III)I"⟩
abbrev b_M_cheapest : ByteArray := prog_10_method_33_code
abbrev y_M_cheapest : MethodName := ⟨"PriceHouseModel", "cheapest", "(III)J"⟩
abbrev b_M_pay : ByteArray := prog_10_method_34_code
abbrev y_M_pay : MethodName := ⟨"PriceHouseModel", "pay", "(I)J"⟩
abbrev b_M_book : ByteArray := prog_10_method_35_code
abbrev y_M_book : MethodName := ⟨"PriceHouseModel", "book", "(I)I"⟩
abbrev b_M_price : ByteArray := prog_10_method_36_code
abbrev y_M_price : MethodName := ⟨"PriceHouseModel", "price", "(II)I"⟩
abbrev b_M_restart : ByteArray := prog_10_method_37_code
abbrev y_M_restart : MethodName := ⟨"PriceHouseModel", "restart", "(I)V"⟩
abbrev b_B_init : ByteArray := prog_2_method_1_code
abbrev y_B_init : MethodName := ⟨"PriceHouse$Basket", "<init>", "()V"⟩
abbrev b_B_begin : ByteArray := prog_2_method_2_code
abbrev y_B_begin : MethodName := ⟨"PriceHouse$Basket", "begin", "(II)V"⟩
abbrev b_C_init : ByteArray := prog_3_method_1_code
abbrev y_C_init : MethodName := ⟨"PriceHouse$Clock", "<init>", "()V"⟩
abbrev b_C_go : ByteArray := prog_3_method_2_code
abbrev y_C_go : MethodName := ⟨"PriceHouse$Clock", "go", "(I)V"⟩
abbrev b_C_shown : ByteArray := prog_3_method_3_code
abbrev y_C_shown : MethodName := ⟨"PriceHouse$Clock", "shown", "()I"⟩
abbrev b_D_init : ByteArray := prog_4_method_1_code
abbrev y_D_init : MethodName := ⟨"PriceHouse$Desk", "<init>", "()V"⟩
abbrev b_D_waits : ByteArray := prog_4_method_2_code
abbrev y_D_waits : MethodName := ⟨"PriceHouse$Desk", "waits", "()Z"⟩
abbrev b_D_forgetAndWait : ByteArray := prog_4_method_3_code
abbrev y_D_forgetAndWait : MethodName := ⟨"PriceHouse$Desk", "forgetAndWait", "()V"⟩
abbrev b_D_grant : ByteArray := prog_4_method_4_code
abbrev y_D_grant : MethodName := ⟨"PriceHouse$Desk", "grant", "(II)I"⟩
abbrev b_D_bookFor : ByteArray := prog_4_method_5_code
abbrev y_D_bookFor : MethodName := ⟨"PriceHouse$Desk", "bookFor", "(LPriceHouse$Note;)I"⟩
abbrev b_D_lookAtChange : ByteArray := prog_4_method_6_code
abbrev y_D_lookAtChange : MethodName := ⟨"PriceHouse$Desk", "lookAtChange", "()V"⟩
abbrev b_R_init : ByteArray := prog_5_method_1_code
abbrev y_R_init : MethodName := ⟨"PriceHouse$LetterRow", "<init>", "()V"⟩
abbrev b_R_isFull : ByteArray := prog_5_method_2_code
abbrev y_R_isFull : MethodName := ⟨"PriceHouse$LetterRow", "isFull", "()Z"⟩
abbrev b_R_post : ByteArray := prog_5_method_3_code
abbrev y_R_post : MethodName := ⟨"PriceHouse$LetterRow", "post", "(IIII)V"⟩
abbrev b_R_takeOut : ByteArray := prog_5_method_4_code
abbrev y_R_takeOut : MethodName := ⟨"PriceHouse$LetterRow", "takeOut", "(I)V"⟩
abbrev b_N_init : ByteArray := prog_6_method_1_code
abbrev y_N_init : MethodName := ⟨"PriceHouse$Note", "<init>", "()V"⟩
abbrev b_N_forget : ByteArray := prog_6_method_2_code
abbrev y_N_forget : MethodName := ⟨"PriceHouse$Note", "forget", "()V"⟩
abbrev b_N_noteReady : ByteArray := prog_6_method_3_code
abbrev y_N_noteReady : MethodName := ⟨"PriceHouse$Note", "noteReady", "(I)V"⟩
abbrev b_N_noteGrant : ByteArray := prog_6_method_4_code
abbrev y_N_noteGrant : MethodName := ⟨"PriceHouse$Note", "noteGrant", "(III)V"⟩
abbrev b_N_noteGiven : ByteArray := prog_6_method_5_code
abbrev y_N_noteGiven : MethodName := ⟨"PriceHouse$Note", "noteGiven", "(I)V"⟩
abbrev b_N_allows : ByteArray := prog_6_method_6_code
abbrev y_N_allows : MethodName := ⟨"PriceHouse$Note", "allows", "(II)Z"⟩
abbrev b_L_init : ByteArray := prog_7_method_1_code
abbrev y_L_init : MethodName := ⟨"PriceHouse$PriceList", "<init>", "()V"⟩
abbrev b_L_copyFrom : ByteArray := prog_7_method_2_code
abbrev y_L_copyFrom : MethodName := ⟨"PriceHouse$PriceList", "copyFrom", "(LPriceHouse$PriceList;)V"⟩
abbrev b_L_leastFor : ByteArray := prog_7_method_3_code
abbrev y_L_leastFor : MethodName := ⟨"PriceHouse$PriceList", "leastFor", "(II[J)J"⟩
abbrev b_T_init : ByteArray := prog_8_method_1_code
abbrev y_T_init : MethodName := ⟨"PriceHouse$Till", "<init>", "()V"⟩
abbrev b_T_takeBook : ByteArray := prog_8_method_2_code
abbrev y_T_takeBook : MethodName := ⟨"PriceHouse$Till", "takeBook", "(I)V"⟩
abbrev b_T_beginAsking : ByteArray := prog_8_method_3_code
abbrev y_T_beginAsking : MethodName := ⟨"PriceHouse$Till", "beginAsking", "()I"⟩
abbrev b_T_endAsking : ByteArray := prog_8_method_4_code
abbrev y_T_endAsking : MethodName := ⟨"PriceHouse$Till", "endAsking", "()V"⟩
abbrev b_T_takeGrant : ByteArray := prog_8_method_5_code
abbrev y_T_takeGrant : MethodName := ⟨"PriceHouse$Till", "takeGrant", "(II)V"⟩
abbrev b_T_validLease : ByteArray := prog_8_method_6_code
abbrev y_T_validLease : MethodName := ⟨"PriceHouse$Till", "validLease", "()I"⟩
abbrev b_W_article : ByteArray := method_3_code
abbrev y_W_article : MethodName := ⟨"PriceHouseLaw", "article", "(LPriceHouse;II)I"⟩
abbrev b_W_bundle : ByteArray := method_4_code
abbrev y_W_bundle : MethodName := ⟨"PriceHouseLaw", "bundle", "(LPriceHouse;IIII)I"⟩
abbrev b_W_publish : ByteArray := method_5_code
abbrev y_W_publish : MethodName := ⟨"PriceHouseLaw", "publish", "(LPriceHouse;[J)I"⟩
abbrev b_W_activate : ByteArray := method_6_code
abbrev y_W_activate : MethodName := ⟨"PriceHouseLaw", "activate", "(LPriceHouse;I)I"⟩
abbrev b_W_tick : ByteArray := method_7_code
abbrev y_W_tick : MethodName := ⟨"PriceHouseLaw", "tick", "(LPriceHouse;I[J)I"⟩
abbrev b_W_rate : ByteArray := method_8_code
abbrev y_W_rate : MethodName := ⟨"PriceHouseLaw", "rate", "(LPriceHouse;II)I"⟩
abbrev b_W_fetch : ByteArray := method_9_code
abbrev y_W_fetch : MethodName := ⟨"PriceHouseLaw", "fetch", "(LPriceHouse;I[J)I"⟩
abbrev b_W_ready : ByteArray := method_10_code
abbrev y_W_ready : MethodName := ⟨"PriceHouseLaw", "ready", "(LPriceHouse;I[J)I"⟩
abbrev b_W_ask : ByteArray := method_11_code
abbrev y_W_ask : MethodName := ⟨"PriceHouseLaw", "ask", "(LPriceHouse;I[J)I"⟩
abbrev b_W_giveUp : ByteArray := method_12_code
abbrev y_W_giveUp : MethodName := ⟨"PriceHouseLaw", "giveUp", "(LPriceHouse;I)I"⟩
abbrev b_W_lease : ByteArray := method_13_code
abbrev y_W_lease : MethodName := ⟨"PriceHouseLaw", "lease", "(LPriceHouse;I[J)I"⟩
abbrev b_W_loaded : ByteArray := method_14_code
abbrev y_W_loaded : MethodName := ⟨"PriceHouseLaw", "loaded", "(LPriceHouse;I[J)I"⟩
abbrev b_W_deliver : ByteArray := method_15_code
abbrev y_W_deliver : MethodName := ⟨"PriceHouseLaw", "deliver", "(LPriceHouse;I)I"⟩
abbrev b_W_lose : ByteArray := method_16_code
abbrev y_W_lose : MethodName := ⟨"PriceHouseLaw", "lose", "(LPriceHouse;I)I"⟩
abbrev b_W_twin : ByteArray := method_17_code
abbrev y_W_twin : MethodName := ⟨"PriceHouseLaw", "twin", "(LPriceHouse;I)I"⟩
abbrev b_W_letter : ByteArray := method_18_code
abbrev y_W_letter : MethodName := ⟨"PriceHouseLaw", "letter", "(LPriceHouse;II[J)I"⟩
abbrev b_W_open : ByteArray := method_19_code
abbrev y_W_open : MethodName := ⟨"PriceHouseLaw", "open", "(LPriceHouse;I[J)I"⟩
abbrev b_W_scan : ByteArray := method_20_code
abbrev y_W_scan : MethodName := ⟨"PriceHouseLaw", "scan", "(LPriceHouse;III[J)I"⟩
abbrev b_W_pay : ByteArray := method_21_code
abbrev y_W_pay : MethodName := ⟨"PriceHouseLaw", "pay", "(LPriceHouse;I[J)I"⟩
abbrev b_W_book : ByteArray := method_22_code
abbrev y_W_book : MethodName := ⟨"PriceHouseLaw", "book", "(LPriceHouse;I[J)I"⟩
abbrev b_W_price : ByteArray := method_23_code
abbrev y_W_price : MethodName := ⟨"PriceHouseLaw", "price", "(LPriceHouse;II[J)I"⟩
abbrev b_W_restart : ByteArray := method_24_code
abbrev y_W_restart : MethodName := ⟨"PriceHouseLaw", "restart", "(LPriceHouse;I)I"⟩
/-! the tables' words that hold at every later state too -/
def qgw : Cond → Bool
  | .castable _ _ => true
  | .not (.castable _ _) => true
  | w => goodWord w
def qNo : List Cond := [.not (.castable "java/lang/IllegalArgumentException" "java/lang/IllegalStateException"), .not (.castable "java/lang/IllegalArgumentException" "java/lang/IndexOutOfBoundsException"), .not (.castable "java/lang/IllegalArgumentException" "java/util/NoSuchElementException"), .not (.castable "java/lang/IllegalStateException" "java/lang/IllegalArgumentException"), .not (.castable "java/lang/IllegalStateException" "java/lang/IndexOutOfBoundsException"), .not (.castable "java/lang/IllegalStateException" "java/util/NoSuchElementException"), .not (.castable "java/lang/IndexOutOfBoundsException" "java/lang/IllegalArgumentException"), .not (.castable "java/lang/IndexOutOfBoundsException" "java/lang/IllegalStateException"), .not (.castable "java/lang/IndexOutOfBoundsException" "java/util/NoSuchElementException"), .not (.castable "java/util/NoSuchElementException" "java/lang/IllegalArgumentException"), .not (.castable "java/util/NoSuchElementException" "java/lang/IllegalStateException"), .not (.castable "java/util/NoSuchElementException" "java/lang/IndexOutOfBoundsException")]
def QT : List Cond := lw_tbl.filter qgw ++ qNo
theorem q_in {w : Cond} (i : Nat) (h : tables_1[i]? = some w) (hg : qgw w = true) : w ∈ QT := List.mem_append_left _ (List.mem_filter.mpr ⟨List.mem_append_right _ (List.mem_of_getElem? h), hg⟩)
theorem q_sel {w : Cond} (i : Nat) (h : (k2_sels lw_privs)[i]? = some w) (hg : qgw w = true) : w ∈ QT := List.mem_append_left _ (List.mem_filter.mpr ⟨List.mem_append_left _ (List.mem_of_getElem? h), hg⟩)
theorem q_no {w : Cond} (i : Nat) (h : qNo[i]? = some w) : w ∈ QT := List.mem_append_right _ (List.mem_of_getElem? h)
theorem QT_qgw : ∀ w ∈ QT, qgw w = true := fun w h => (List.mem_append.mp h).elim (fun h => (List.mem_filter.mp h).2) (fun h => List.all_eq_true.mp (by decide +kernel : qNo.all qgw = true) w h)
theorem qgw_at {args a' : Array Value} {s U : State} (hW : s.WarmedH U.vm) {c : Cond} (hg : qgw c = true) (h : c.before args s = true) : c.before a' U = true := by
  unfold qgw at hg
  split at hg
  · simp only [Cond.before, Cond.holds, Cond.value, hW.alike.findClass, hW.alike.assignable] at h ⊢
    exact h
  · simp only [Cond.before, Cond.holds, Cond.value, hW.alike.findClass, hW.alike.assignable] at h ⊢
    exact h
  · exact word_at hW (good_of_word hg) h
theorem QT_at {args a' : Array Value} {s U : State} (hW : s.WarmedH U.vm) (hts : ∀ w ∈ QT, w.before args s = true) : ∀ w ∈ QT, w.before a' U = true := fun w h => qgw_at hW (QT_qgw w h) (hts w h)
theorem in_B : ∀ w ∈ u_ws R_B T_B 4, w ∈ QT := List.forall_mem_cons.mpr ⟨q_in 194 (by decide +kernel) rfl, List.forall_mem_cons.mpr ⟨q_in 196 (by decide +kernel) rfl, List.forall_mem_cons.mpr ⟨q_in 198 (by decide +kernel) rfl, List.forall_mem_cons.mpr ⟨q_in 200 (by decide +kernel) rfl, fun _ h => absurd h List.not_mem_nil⟩⟩⟩⟩
theorem in_C : ∀ w ∈ u_ws R_C T_C 2, w ∈ QT := List.forall_mem_cons.mpr ⟨q_in 64 (by decide +kernel) rfl, List.forall_mem_cons.mpr ⟨q_in 66 (by decide +kernel) rfl, fun _ h => absurd h List.not_mem_nil⟩⟩
theorem in_D : ∀ w ∈ u_ws R_D T_D 5, w ∈ QT := List.forall_mem_cons.mpr ⟨q_in 141 (by decide +kernel) rfl, List.forall_mem_cons.mpr ⟨q_in 143 (by decide +kernel) rfl, List.forall_mem_cons.mpr ⟨q_in 145 (by decide +kernel) rfl, List.forall_mem_cons.mpr ⟨q_in 147 (by decide +kernel) rfl, List.forall_mem_cons.mpr ⟨q_in 149 (by decide +kernel) rfl, fun _ h => absurd h List.not_mem_nil⟩⟩⟩⟩⟩
theorem in_R : ∀ w ∈ u_ws R_R T_R 5, w ∈ QT := List.forall_mem_cons.mpr ⟨q_in 168 (by decide +kernel) rfl, List.forall_mem_cons.mpr ⟨q_in 170 (by decide +kernel) rfl, List.forall_mem_cons.mpr ⟨q_in 172 (by decide +kernel) rfl, List.forall_mem_cons.mpr ⟨q_in 174 (by decide +kernel) rfl, List.forall_mem_cons.mpr ⟨q_in 176 (by decide +kernel) rfl, fun _ h => absurd h List.not_mem_nil⟩⟩⟩⟩⟩
theorem in_N : ∀ w ∈ u_ws R_N T_N 5, w ∈ QT := List.forall_mem_cons.mpr ⟨q_in 121 (by decide +kernel) rfl, List.forall_mem_cons.mpr ⟨q_in 123 (by decide +kernel) rfl, List.forall_mem_cons.mpr ⟨q_in 125 (by decide +kernel) rfl, List.forall_mem_cons.mpr ⟨q_in 127 (by decide +kernel) rfl, List.forall_mem_cons.mpr ⟨q_in 129 (by decide +kernel) rfl, fun _ h => absurd h List.not_mem_nil⟩⟩⟩⟩⟩
theorem in_L : ∀ w ∈ u_ws R_L T_L 3, w ∈ QT := List.forall_mem_cons.mpr ⟨q_in 39 (by decide +kernel) rfl, List.forall_mem_cons.mpr ⟨q_in 41 (by decide +kernel) rfl, List.forall_mem_cons.mpr ⟨q_in 43 (by decide +kernel) rfl, fun _ h => absurd h List.not_mem_nil⟩⟩⟩
theorem in_T : ∀ w ∈ u_ws R_T T_T 8, w ∈ QT := List.forall_mem_cons.mpr ⟨q_in 82 (by decide +kernel) rfl, List.forall_mem_cons.mpr ⟨q_in 84 (by decide +kernel) rfl, List.forall_mem_cons.mpr ⟨q_in 86 (by decide +kernel) rfl, List.forall_mem_cons.mpr ⟨q_in 88 (by decide +kernel) rfl, List.forall_mem_cons.mpr ⟨q_in 90 (by decide +kernel) rfl, List.forall_mem_cons.mpr ⟨q_in 92 (by decide +kernel) rfl, List.forall_mem_cons.mpr ⟨q_in 94 (by decide +kernel) rfl, List.forall_mem_cons.mpr ⟨q_in 96 (by decide +kernel) rfl, fun _ h => absurd h List.not_mem_nil⟩⟩⟩⟩⟩⟩⟩⟩
theorem in_H : ∀ w ∈ u_ws R_H T_H 9, w ∈ QT := List.forall_mem_cons.mpr ⟨q_in 212 (by decide +kernel) rfl, List.forall_mem_cons.mpr ⟨q_in 214 (by decide +kernel) rfl, List.forall_mem_cons.mpr ⟨q_in 216 (by decide +kernel) rfl, List.forall_mem_cons.mpr ⟨q_in 218 (by decide +kernel) rfl, List.forall_mem_cons.mpr ⟨q_in 220 (by decide +kernel) rfl, List.forall_mem_cons.mpr ⟨q_in 222 (by decide +kernel) rfl, List.forall_mem_cons.mpr ⟨q_in 224 (by decide +kernel) rfl, List.forall_mem_cons.mpr ⟨q_in 226 (by decide +kernel) rfl, List.forall_mem_cons.mpr ⟨q_in 228 (by decide +kernel) rfl, fun _ h => absurd h List.not_mem_nil⟩⟩⟩⟩⟩⟩⟩⟩⟩
theorem in_M : ∀ w ∈ u_ws R_M T_M 30, w ∈ QT := List.forall_mem_cons.mpr ⟨q_in 691 (by decide +kernel) rfl, List.forall_mem_cons.mpr ⟨q_in 693 (by decide +kernel) rfl, List.forall_mem_cons.mpr ⟨q_in 695 (by decide +kernel) rfl, List.forall_mem_cons.mpr ⟨q_in 697 (by decide +kernel) rfl, List.forall_mem_cons.mpr ⟨q_in 699 (by decide +kernel) rfl, List.forall_mem_cons.mpr ⟨q_in 701 (by decide +kernel) rfl, List.forall_mem_cons.mpr ⟨q_in 703 (by decide +kernel) rfl, List.forall_mem_cons.mpr ⟨q_in 705 (by decide +kernel) rfl, List.forall_mem_cons.mpr ⟨q_in 707 (by decide +kernel) rfl, List.forall_mem_cons.mpr ⟨q_in 709 (by decide +kernel) rfl, List.forall_mem_cons.mpr ⟨q_in 711 (by decide +kernel) rfl, List.forall_mem_cons.mpr ⟨q_in 713 (by decide +kernel) rfl, List.forall_mem_cons.mpr ⟨q_in 715 (by decide +kernel) rfl, List.forall_mem_cons.mpr ⟨q_in 717 (by decide +kernel) rfl, List.forall_mem_cons.mpr ⟨q_in 719 (by decide +kernel) rfl, List.forall_mem_cons.mpr ⟨q_in 721 (by decide +kernel) rfl, List.forall_mem_cons.mpr ⟨q_in 723 (by decide +kernel) rfl, List.forall_mem_cons.mpr ⟨q_in 725 (by decide +kernel) rfl, List.forall_mem_cons.mpr ⟨q_in 727 (by decide +kernel) rfl, List.forall_mem_cons.mpr ⟨q_in 729 (by decide +kernel) rfl, List.forall_mem_cons.mpr ⟨q_in 731 (by decide +kernel) rfl, List.forall_mem_cons.mpr ⟨q_in 733 (by decide +kernel) rfl, List.forall_mem_cons.mpr ⟨q_in 735 (by decide +kernel) rfl, List.forall_mem_cons.mpr ⟨q_in 737 (by decide +kernel) rfl, List.forall_mem_cons.mpr ⟨q_in 739 (by decide +kernel) rfl, List.forall_mem_cons.mpr ⟨q_in 741 (by decide +kernel) rfl, List.forall_mem_cons.mpr ⟨q_in 743 (by decide +kernel) rfl, List.forall_mem_cons.mpr ⟨q_in 745 (by decide +kernel) rfl, List.forall_mem_cons.mpr ⟨q_in 747 (by decide +kernel) rfl, List.forall_mem_cons.mpr ⟨q_in 749 (by decide +kernel) rfl, fun _ h => absurd h List.not_mem_nil⟩⟩⟩⟩⟩⟩⟩⟩⟩⟩⟩⟩⟩⟩⟩⟩⟩⟩⟩⟩⟩⟩⟩⟩⟩⟩⟩⟩⟩⟩
end
section
/-! The ground of all contracts here. A world is a list of cells (g, j): family g, number j; its address is qal x g j, its content is qcf x g j of the ints V g j and the longs Y g j. So the heap is the pair V, Y, and every row of a walk speaks of these alone. -/
abbrev qX : Type := va_G × List vw_C × List (ClassId × FieldType) × (Nat → Nat → Nat) × List (Nat × Nat) × (Nat → Nat → (Nat → Int32) → (Nat → Int64) → va_E)
abbrev qD (x : qX) : va_G := x.1
abbrev qcl (x : qX) : List vw_C := x.2.1
abbrev qty (x : qX) : List (ClassId × FieldType) := x.2.2.1
abbrev qal (x : qX) : Nat → Nat → Nat := x.2.2.2.1
abbrev qI (x : qX) : List (Nat × Nat) := x.2.2.2.2.1
abbrev qcf (x : qX) : Nat → Nat → (Nat → Int32) → (Nat → Int64) → va_E := x.2.2.2.2.2
abbrev qV : Type := Nat → Nat → Nat → Int32
abbrev qY : Type := Nat → Nat → Nat → Int64
def qw (x : qX) (V : qV) (Y : qY) : va_W := (qI x).map (fun q => (qal x q.1 q.2, qcf x q.1 q.2 (V q.1 q.2) (Y q.1 q.2)))
def qA (x : qX) : Nat → Prop := fun a => ∃ q : Nat × Nat, q ∈ qI x ∧ a = qal x q.1 q.2
def qok (x : qX) : Prop := ∀ (i j : Nat) (p q : Nat × Nat), (qI x)[i]? = some p → (qI x)[j]? = some q → qal x p.1 p.2 = qal x q.1 q.2 → i = j
def qu (V : qV) (g j : Nat) (f : Nat → Int32) : qV := fun g' j' => if g' = g ∧ j' = j then f else V g' j'
def qv (V : qV) (g j k : Nat) (v : Int32) : qV := qu V g j (upd (V g j) k v)
def quY (Y : qY) (g j : Nat) (f : Nat → Int64) : qY := fun g' j' => if g' = g ∧ j' = j then f else Y g' j'
def qy (Y : qY) (g j k : Nat) (v : Int64) : qY := quY Y g j (vp_updL (Y g j) k v)
theorem qu_self (V : qV) (g j : Nat) : qu V g j (V g j) = V := by
  funext a b
  unfold qu
  split
  · rename_i h
    rw [h.1, h.2]
  · rfl
theorem quY_self (Y : qY) (g j : Nat) : quY Y g j (Y g j) = Y := by
  funext a b
  unfold quY
  split
  · rename_i h
    rw [h.1, h.2]
  · rfl
theorem qv_at (V : qV) (g j k : Nat) (v : Int32) (a b c : Nat) : qv V g j k v a b c = if a = g ∧ b = j ∧ c = k then v else V a b c := by
  unfold qv qu
  by_cases h : a = g ∧ b = j
  · rw [if_pos h]
    by_cases hc : c = k
    · rw [if_pos ⟨h.1, h.2, hc⟩, hc, pk_us]
    · rw [if_neg (fun z => hc z.2.2), pk_un hc, h.1, h.2]
  · rw [if_neg h, if_neg (fun z => h ⟨z.1, z.2.1⟩)]
theorem qy_at (Y : qY) (g j k : Nat) (v : Int64) (a b c : Nat) : qy Y g j k v a b c = if a = g ∧ b = j ∧ c = k then v else Y a b c := by
  unfold qy quY
  by_cases h : a = g ∧ b = j
  · rw [if_pos h]
    by_cases hc : c = k
    · rw [if_pos ⟨h.1, h.2, hc⟩, hc, pk_uLs]
    · rw [if_neg (fun z => hc z.2.2), pk_uLn hc, h.1, h.2]
  · rw [if_neg h, if_neg (fun z => h ⟨z.1, z.2.1⟩)]
theorem qw_get (x : qX) (V : qV) (Y : qY) (k : Nat) : (qw x V Y)[k]? = ((qI x)[k]?).map (fun q => (qal x q.1 q.2, qcf x q.1 q.2 (V q.1 q.2) (Y q.1 q.2))) := by
  unfold qw
  rw [List.getElem?_map]
theorem qw_at {x : qX} {g j : Nat} (V : qV) (Y : qY) (h : (g, j) ∈ qI x) : ∃ k : Nat, (qI x)[k]? = some (g, j) ∧ (qw x V Y)[k]? = some (qal x g j, qcf x g j (V g j) (Y g j)) := by
  obtain ⟨k, hk⟩ := List.getElem?_of_mem h
  exact ⟨k, hk, by rw [qw_get, hk]; rfl⟩
theorem qw_D {x : qX} (h : qok x) (V : qV) (Y : qY) : va_D (qA x) (qw x V Y) := by
  refine ⟨fun i j p q hi hj he => ?_, fun k q hk => ?_⟩
  · rw [qw_get] at hi hj
    obtain ⟨a, ha, rfl⟩ := Option.map_eq_some_iff.mp hi
    obtain ⟨b, hb, rfl⟩ := Option.map_eq_some_iff.mp hj
    exact h i j a b ha hb he
  · rw [qw_get] at hk
    obtain ⟨a, ha, rfl⟩ := Option.map_eq_some_iff.mp hk
    exact ⟨a, List.mem_of_getElem? ha, rfl⟩
theorem qw_set {x : qX} (h : qok x) {k g j : Nat} (hk : (qI x)[k]? = some (g, j)) (V : qV) (Y : qY) (f : Nat → Int32) (y : Nat → Int64) : (qw x V Y).set k (qal x g j, qcf x g j f y) = qw x (qu V g j f) (quY Y g j y) := by
  apply List.ext_getElem?
  intro i
  have hl : k < (qw x V Y).length := by
    unfold qw
    rw [List.length_map]
    exact (List.getElem?_eq_some_iff.mp hk).1
  by_cases hi : i = k
  · subst hi
    rw [List.getElem?_set_self hl, qw_get, hk]
    simp [qu, quY]
  · rw [List.getElem?_set_ne (Ne.symm hi), qw_get, qw_get]
    cases hq : (qI x)[i]? with
    | none => rfl
    | some q =>
      have hne : ¬ (q.1 = g ∧ q.2 = j) := fun z => hi (h i k q (g, j) hq hk (by rw [z.1, z.2]))
      simp [qu, quY, hne]
theorem qw_setV {x : qX} (h : qok x) {k g j : Nat} (hk : (qI x)[k]? = some (g, j)) (V : qV) (Y : qY) (f : Nat → Int32) : (qw x V Y).set k (qal x g j, qcf x g j f (Y g j)) = qw x (qu V g j f) Y := by
  rw [qw_set h hk, quY_self]
theorem qw_setY {x : qX} (h : qok x) {k g j : Nat} (hk : (qI x)[k]? = some (g, j)) (V : qV) (Y : qY) (y : Nat → Int64) : (qw x V Y).set k (qal x g j, qcf x g j (V g j) y) = qw x V (quY Y g j y) := by
  rw [qw_set h hk, qu_self]
/-- a local by its number -/
def qlk (lo : List (Nat × Value)) (i : Nat) : Option Value := (lo.find? (fun q => q.1 == i)).map (fun q => q.2)
theorem qlk_ok {ls : Array Slot} {nL : Nat} {lo : List (Nat × Value)} {i : Nat} {v : Value} (h : lv_has ls nL lo) (hi : qlk lo i = some v) : ls[i]? = some (.val v) := by
  unfold qlk at hi
  obtain ⟨q, hq, rfl⟩ := Option.map_eq_some_iff.mp hi
  have h1 := List.mem_of_find?_eq_some hq
  have h2 := List.find?_some hq
  have h3 : q.1 = i := by simpa using h2
  rw [← h3]
  exact h.2.2 q h1
def qZs (A : Nat → Prop) (U : State) : Prop := va_Zq "java/lang/Throwable" "UNASSIGNED_STACK" "[Ljava/lang/StackTraceElement;" A U U.heap ∧ va_Zq "java/lang/Throwable" "SUPPRESSED_SENTINEL" "Ljava/util/List;" A U U.heap
/-- what a method's walk stands on -/
def Cx (p : Program) (s : State) (m : MethodId) (args : Array Value) (meth : Method) (c : Code) (x : qX) (nL : Nat) (A : Nat → Prop) (cc : ByteArray) (own : String) (Ts : List Cond) : Prop :=
  p.tables.exec = Jvm.exec ∧ c.code = cc ∧ c.maxLocals = nL ∧ s.vm.findClass own = some m.cls ∧ (∀ w ∈ Ts, w.before args s = true) ∧ va_K (qD x) (qcl x) (qty x) s ∧ qok x ∧ meth.locks = false ∧ qZs A s
/-- the walk, now at pc with the locals lo, the stack st, the heap V, Y -/
def G (p : Program) (l : Launch) (e : Env) (R : Room) (s : State) (m : MethodId) (args : Array Value) (below : List Frame) (meth : Method) (c : Code) (Q : State → Prop) (x : qX) (nL : Nat) (A : Nat → Prop) (V : qV) (Y : qY) (cells slots pc : Nat) (lo : List (Nat × Value)) (st : List Value) : Prop :=
  ∀ (H : Heap) (locs : List Loc) (ls : Array Slot), va_P (qD x) (qcl x) (qw x V Y) H → va_S A s.heap H locs → lv_has ls nL lo → W p l e R s m args below meth c H locs cells slots Q (F0 m pc ls st)
section QR
variable {p : Program} {l : Launch} {e : Env} {R : Room} {s : State} {m : MethodId} {args : Array Value} {below : List Frame} {meth : Method} {c : Code} {Q : State → Prop} {x : qX} {nL : Nat} {A : Nat → Prop} {V V' : qV} {Y Y' : qY} {cells slots pc : Nat} {lo lo' : List (Nat × Value)} {st : List Value} {cc : ByteArray} {own : String} {Ts : List Cond}
theorem G.eqV (h : V = V') (k : G p l e R s m args below meth c Q x nL A V' Y cells slots pc lo st) : G p l e R s m args below meth c Q x nL A V Y cells slots pc lo st := h ▸ k
theorem G.eqY (h : Y = Y') (k : G p l e R s m args below meth c Q x nL A V Y' cells slots pc lo st) : G p l e R s m args below meth c Q x nL A V Y cells slots pc lo st := h ▸ k
theorem G.eqS {st' : List Value} (h : st = st') (k : G p l e R s m args below meth c Q x nL A V Y cells slots pc lo st') : G p l e R s m args below meth c Q x nL A V Y cells slots pc lo st := h ▸ k
theorem G.sub (h : ∀ q ∈ lo', q ∈ lo) (k : G p l e R s m args below meth c Q x nL A V Y cells slots pc lo' st) : G p l e R s m args below meth c Q x nL A V Y cells slots pc lo st := fun H locs ls hP hS hl => k H locs ls hP hS ⟨hl.1, hl.2.1, fun q hq => hl.2.2 q (h q hq)⟩
theorem G.wide {k n : Nat} (h1 : cells ≤ k) (h2 : slots ≤ n) (kk : G p l e R s m args below meth c Q x nL A V Y k n pc lo st) : G p l e R s m args below meth c Q x nL A V Y cells slots pc lo st := fun H locs ls hP hS hl => W.widen h1 h2 (kk H locs ls hP hS hl)
theorem gq_iconst (C : Cx p s m args meth c x nL A cc own Ts) {n : Int} {v : Int32} (hd : decode cc pc = .ok (.iconst n, 1)) (hv : Int32.ofInt n = v) (k : G p l e R s m args below meth c Q x nL A V Y cells slots (pc + 1) lo (.int v :: st)) : G p l e R s m args below meth c Q x nL A V Y cells slots pc lo st := fun H locs ls hP hS hl => lv_iconst C.1 C.2.1 hd hv (k H locs ls hP hS hl)
theorem gq_bipush (C : Cx p s m args meth c x nL A cc own Ts) {n : Int} {v : Int32} (hd : decode cc pc = .ok (.bipush n, 2)) (hv : (Int8.ofInt n).toInt32 = v) (k : G p l e R s m args below meth c Q x nL A V Y cells slots (pc + 2) lo (.int v :: st)) : G p l e R s m args below meth c Q x nL A V Y cells slots pc lo st := fun H locs ls hP hS hl => lv_bipush C.1 C.2.1 hd hv (k H locs ls hP hS hl)
theorem gq_sipush (C : Cx p s m args meth c x nL A cc own Ts) {n : Int} {v : Int32} (hd : decode cc pc = .ok (.sipush n, 3)) (hv : (Int16.ofInt n).toInt32 = v) (k : G p l e R s m args below meth c Q x nL A V Y cells slots (pc + 3) lo (.int v :: st)) : G p l e R s m args below meth c Q x nL A V Y cells slots pc lo st := fun H locs ls hP hS hl => lv_sipush C.1 C.2.1 hd hv (k H locs ls hP hS hl)
theorem gq_lconst (C : Cx p s m args meth c x nL A cc own Ts) {n : Fin 2} {v : Int64} (hd : decode cc pc = .ok (.lconst n, 1)) (hv : Int64.ofNat (n : Nat) = v) (k : G p l e R s m args below meth c Q x nL A V Y cells slots (pc + 1) lo (.long v :: st)) : G p l e R s m args below meth c Q x nL A V Y cells slots pc lo st := fun H locs ls hP hS hl => lv_lconst C.1 C.2.1 hd hv (k H locs ls hP hS hl)
theorem gq_ldc (C : Cx p s m args meth c x nL A cc own Ts) {index : Nat} {v : Int32} (hc : Cond.constant own index v ∈ Ts) (hd : decode cc pc = .ok (.ldc index, 2)) (k : G p l e R s m args below meth c Q x nL A V Y cells slots (pc + 2) lo (.int v :: st)) : G p l e R s m args below meth c Q x nL A V Y cells slots pc lo st := fun H locs ls hP hS hl => lv_ldc C.1 C.2.1 C.2.2.2.1 (C.2.2.2.2.1 _ hc) hd (k H locs ls hP hS hl)
theorem gq_iload_n (C : Cx p s m args meth c x nL A cc own Ts) {k : Fin 4} {v : Int32} (hd : decode cc pc = .ok (.iload_n k, 1)) (hi : qlk lo k = some (.int v)) (kk : G p l e R s m args below meth c Q x nL A V Y cells slots (pc + 1) lo (.int v :: st)) : G p l e R s m args below meth c Q x nL A V Y cells slots pc lo st := fun H locs ls hP hS hl => lv_iload_n C.1 C.2.1 hd rfl (qlk_ok hl hi) (kk H locs ls hP hS hl)
theorem gq_iload (C : Cx p s m args meth c x nL A cc own Ts) {i : Nat} {v : Int32} (hd : decode cc pc = .ok (.iload i, 2)) (hi : qlk lo i = some (.int v)) (kk : G p l e R s m args below meth c Q x nL A V Y cells slots (pc + 2) lo (.int v :: st)) : G p l e R s m args below meth c Q x nL A V Y cells slots pc lo st := fun H locs ls hP hS hl => lv_iload C.1 C.2.1 hd (qlk_ok hl hi) (kk H locs ls hP hS hl)
theorem gq_lload_n (C : Cx p s m args meth c x nL A cc own Ts) {k : Fin 4} {v : Int64} (hd : decode cc pc = .ok (.lload_n k, 1)) (hi : qlk lo k = some (.long v)) (kk : G p l e R s m args below meth c Q x nL A V Y cells slots (pc + 1) lo (.long v :: st)) : G p l e R s m args below meth c Q x nL A V Y cells slots pc lo st := fun H locs ls hP hS hl => lv_lload_n C.1 C.2.1 hd rfl (qlk_ok hl hi) (kk H locs ls hP hS hl)
theorem gq_lload (C : Cx p s m args meth c x nL A cc own Ts) {i : Nat} {v : Int64} (hd : decode cc pc = .ok (.lload i, 2)) (hi : qlk lo i = some (.long v)) (kk : G p l e R s m args below meth c Q x nL A V Y cells slots (pc + 2) lo (.long v :: st)) : G p l e R s m args below meth c Q x nL A V Y cells slots pc lo st := fun H locs ls hP hS hl => lv_lload C.1 C.2.1 hd (qlk_ok hl hi) (kk H locs ls hP hS hl)
theorem gq_aload_n (C : Cx p s m args meth c x nL A cc own Ts) {k : Fin 4} {v : Nat} (hd : decode cc pc = .ok (.aload_n k, 1)) (hi : qlk lo k = some (.ref v)) (kk : G p l e R s m args below meth c Q x nL A V Y cells slots (pc + 1) lo (.ref v :: st)) : G p l e R s m args below meth c Q x nL A V Y cells slots pc lo st := fun H locs ls hP hS hl => lv_aload_n C.1 C.2.1 hd rfl (qlk_ok hl hi) (kk H locs ls hP hS hl)
theorem gq_aload (C : Cx p s m args meth c x nL A cc own Ts) {i : Nat} {v : Nat} (hd : decode cc pc = .ok (.aload i, 2)) (hi : qlk lo i = some (.ref v)) (kk : G p l e R s m args below meth c Q x nL A V Y cells slots (pc + 2) lo (.ref v :: st)) : G p l e R s m args below meth c Q x nL A V Y cells slots pc lo st := fun H locs ls hP hS hl => lv_aload C.1 C.2.1 hd (qlk_ok hl hi) (kk H locs ls hP hS hl)
theorem gq_istore_n (C : Cx p s m args meth c x nL A cc own Ts) {k : Fin 4} {i : Nat} {v : Int32} (hd : decode cc pc = .ok (.istore_n k, 1)) (hi : (k : Nat) = i) (hn : i < nL) (hl : (i, Value.int v) :: lo.filter (fun q => !(q.1 == i) && !(q.1 + 1 == i && q.2.category == 2)) = lo') (kk : G p l e R s m args below meth c Q x nL A V Y cells slots (pc + 1) lo' st) : G p l e R s m args below meth c Q x nL A V Y cells slots pc lo (.int v :: st) := fun H locs _ hP hS h => lv_istore_n C.1 C.2.1 hd hi h hn hl (fun ls' h' => kk H locs ls' hP hS h')
theorem gq_istore (C : Cx p s m args meth c x nL A cc own Ts) {i : Nat} {v : Int32} (hd : decode cc pc = .ok (.istore i, 2)) (hn : i < nL) (hl : (i, Value.int v) :: lo.filter (fun q => !(q.1 == i) && !(q.1 + 1 == i && q.2.category == 2)) = lo') (kk : G p l e R s m args below meth c Q x nL A V Y cells slots (pc + 2) lo' st) : G p l e R s m args below meth c Q x nL A V Y cells slots pc lo (.int v :: st) := fun H locs _ hP hS h => lv_istore C.1 C.2.1 hd h hn hl (fun ls' h' => kk H locs ls' hP hS h')
theorem gq_lstore_n (C : Cx p s m args meth c x nL A cc own Ts) {k : Fin 4} {i : Nat} {v : Int64} (hd : decode cc pc = .ok (.lstore_n k, 1)) (hi : (k : Nat) = i) (hn : i + 1 < nL) (hl : (i, Value.long v) :: lo.filter (fun q => !(q.1 == i) && (!(q.1 == i + 1) && !(q.1 + 1 == i && q.2.category == 2))) = lo') (kk : G p l e R s m args below meth c Q x nL A V Y cells slots (pc + 1) lo' st) : G p l e R s m args below meth c Q x nL A V Y cells slots pc lo (.long v :: st) := fun H locs _ hP hS h => lv_lstore_n C.1 C.2.1 hd hi h hn hl (fun ls' h' => kk H locs ls' hP hS h')
theorem gq_lstore (C : Cx p s m args meth c x nL A cc own Ts) {i : Nat} {v : Int64} (hd : decode cc pc = .ok (.lstore i, 2)) (hn : i + 1 < nL) (hl : (i, Value.long v) :: lo.filter (fun q => !(q.1 == i) && (!(q.1 == i + 1) && !(q.1 + 1 == i && q.2.category == 2))) = lo') (kk : G p l e R s m args below meth c Q x nL A V Y cells slots (pc + 2) lo' st) : G p l e R s m args below meth c Q x nL A V Y cells slots pc lo (.long v :: st) := fun H locs _ hP hS h => lv_lstore C.1 C.2.1 hd h hn hl (fun ls' h' => kk H locs ls' hP hS h')
theorem gq_astore_n (C : Cx p s m args meth c x nL A cc own Ts) {k : Fin 4} {i : Nat} {v : Nat} (hd : decode cc pc = .ok (.astore_n k, 1)) (hi : (k : Nat) = i) (hn : i < nL) (hl : (i, Value.ref v) :: lo.filter (fun q => !(q.1 == i) && !(q.1 + 1 == i && q.2.category == 2)) = lo') (kk : G p l e R s m args below meth c Q x nL A V Y cells slots (pc + 1) lo' st) : G p l e R s m args below meth c Q x nL A V Y cells slots pc lo (.ref v :: st) := fun H locs _ hP hS h => lv_astore_n C.1 C.2.1 hd hi h hn hl (fun ls' h' => kk H locs ls' hP hS h')
theorem gq_astore (C : Cx p s m args meth c x nL A cc own Ts) {i : Nat} {v : Nat} (hd : decode cc pc = .ok (.astore i, 2)) (hn : i < nL) (hl : (i, Value.ref v) :: lo.filter (fun q => !(q.1 == i) && !(q.1 + 1 == i && q.2.category == 2)) = lo') (kk : G p l e R s m args below meth c Q x nL A V Y cells slots (pc + 2) lo' st) : G p l e R s m args below meth c Q x nL A V Y cells slots pc lo (.ref v :: st) := fun H locs _ hP hS h => lv_astore C.1 C.2.1 hd h hn hl (fun ls' h' => kk H locs ls' hP hS h')
theorem gq_iinc (C : Cx p s m args meth c x nL A cc own Ts) {i k : Nat} {n : Int} {v w : Int32} (hd : decode cc pc = .ok (.iinc i n, 3)) (hk : lo[k]? = some (i, .int v)) (hv : v + Int32.ofInt n = w) (hn : i < nL) (hl : (i, Value.int w) :: lo.filter (fun q => !(q.1 == i) && !(q.1 + 1 == i && q.2.category == 2)) = lo') (kk : G p l e R s m args below meth c Q x nL A V Y cells slots (pc + 3) lo' st) : G p l e R s m args below meth c Q x nL A V Y cells slots pc lo st := fun H locs _ hP hS h => lv_iinc C.1 C.2.1 hd h hk hv hn hl (fun ls' h' => kk H locs ls' hP hS h')
theorem gq_dup (C : Cx p s m args meth c x nL A cc own Ts) {v : Value} (hd : decode cc pc = .ok (.dup, 1)) (hv : v.category = 1) (k : G p l e R s m args below meth c Q x nL A V Y cells slots (pc + 1) lo (v :: v :: st)) : G p l e R s m args below meth c Q x nL A V Y cells slots pc lo (v :: st) := fun H locs ls hP hS hl => lv_dup C.1 C.2.1 hd hv (k H locs ls hP hS hl)
theorem gq_pop (C : Cx p s m args meth c x nL A cc own Ts) {v : Value} (hd : decode cc pc = .ok (.pop, 1)) (hv : v.category = 1) (k : G p l e R s m args below meth c Q x nL A V Y cells slots (pc + 1) lo st) : G p l e R s m args below meth c Q x nL A V Y cells slots pc lo (v :: st) := fun H locs ls hP hS hl => lv_pop C.1 C.2.1 hd hv (k H locs ls hP hS hl)
theorem gq_dup_x1 (C : Cx p s m args meth c x nL A cc own Ts) {v w : Value} (hd : decode cc pc = .ok (.dup_x1, 1)) (hv : v.category = 1) (hw : w.category = 1) (k : G p l e R s m args below meth c Q x nL A V Y cells slots (pc + 1) lo (v :: w :: v :: st)) : G p l e R s m args below meth c Q x nL A V Y cells slots pc lo (v :: w :: st) := fun H locs ls hP hS hl => lv_dup_x1 C.1 C.2.1 hd hv hw (k H locs ls hP hS hl)
theorem gq_iadd (C : Cx p s m args meth c x nL A cc own Ts) {v w : Int32} (hd : decode cc pc = .ok (.iadd, 1)) (k : G p l e R s m args below meth c Q x nL A V Y cells slots (pc + 1) lo (.int (v + w) :: st)) : G p l e R s m args below meth c Q x nL A V Y cells slots pc lo (.int w :: .int v :: st) := fun H locs ls hP hS hl => lv_iadd C.1 C.2.1 hd (k H locs ls hP hS hl)
theorem gq_isub (C : Cx p s m args meth c x nL A cc own Ts) {v w : Int32} (hd : decode cc pc = .ok (.isub, 1)) (k : G p l e R s m args below meth c Q x nL A V Y cells slots (pc + 1) lo (.int (v - w) :: st)) : G p l e R s m args below meth c Q x nL A V Y cells slots pc lo (.int w :: .int v :: st) := fun H locs ls hP hS hl => lv_isub C.1 C.2.1 hd (k H locs ls hP hS hl)
theorem gq_imul (C : Cx p s m args meth c x nL A cc own Ts) {v w : Int32} (hd : decode cc pc = .ok (.imul, 1)) (k : G p l e R s m args below meth c Q x nL A V Y cells slots (pc + 1) lo (.int (v * w) :: st)) : G p l e R s m args below meth c Q x nL A V Y cells slots pc lo (.int w :: .int v :: st) := fun H locs ls hP hS hl => lv_imul C.1 C.2.1 hd (k H locs ls hP hS hl)
theorem gq_idiv (C : Cx p s m args meth c x nL A cc own Ts) {v w : Int32} (hd : decode cc pc = .ok (.idiv, 1)) (hne : ¬ w = 0) (k : G p l e R s m args below meth c Q x nL A V Y cells slots (pc + 1) lo (.int (v / w) :: st)) : G p l e R s m args below meth c Q x nL A V Y cells slots pc lo (.int w :: .int v :: st) := fun H locs ls hP hS hl => lv_idiv C.1 C.2.1 hd hne (k H locs ls hP hS hl)
theorem gq_iand (C : Cx p s m args meth c x nL A cc own Ts) {v w : Int32} (hd : decode cc pc = .ok (.iand, 1)) (k : G p l e R s m args below meth c Q x nL A V Y cells slots (pc + 1) lo (.int (v &&& w) :: st)) : G p l e R s m args below meth c Q x nL A V Y cells slots pc lo (.int w :: .int v :: st) := fun H locs ls hP hS hl => lv_iand C.1 C.2.1 hd (k H locs ls hP hS hl)
theorem gq_ladd (C : Cx p s m args meth c x nL A cc own Ts) {v w : Int64} (hd : decode cc pc = .ok (.ladd, 1)) (k : G p l e R s m args below meth c Q x nL A V Y cells slots (pc + 1) lo (.long (v + w) :: st)) : G p l e R s m args below meth c Q x nL A V Y cells slots pc lo (.long w :: .long v :: st) := fun H locs ls hP hS hl => lv_ladd C.1 C.2.1 hd (k H locs ls hP hS hl)
theorem gq_i2l (C : Cx p s m args meth c x nL A cc own Ts) {v : Int32} (hd : decode cc pc = .ok (.i2l, 1)) (k : G p l e R s m args below meth c Q x nL A V Y cells slots (pc + 1) lo (.long v.toInt64 :: st)) : G p l e R s m args below meth c Q x nL A V Y cells slots pc lo (.int v :: st) := fun H locs ls hP hS hl => lv_i2l C.1 C.2.1 hd rfl (k H locs ls hP hS hl)
theorem gq_lcmp (C : Cx p s m args meth c x nL A cc own Ts) {v w : Int64} (hd : decode cc pc = .ok (.lcmp, 1)) (k : G p l e R s m args below meth c Q x nL A V Y cells slots (pc + 1) lo (.int (lg_cmp v w) :: st)) : G p l e R s m args below meth c Q x nL A V Y cells slots pc lo (.long w :: .long v :: st) := fun H locs ls hP hS hl => W.lcmp C.1 C.2.1 hd (k H locs ls hP hS hl)
theorem gq_goto (C : Cx p s m args meth c x nL A cc own Ts) {off : Int} {tgt : Nat} (hd : decode cc pc = .ok (.goto off, 3)) (ht : (pc : Int) + off = (tgt : Int)) (k : G p l e R s m args below meth c Q x nL A V Y cells slots tgt lo st) : G p l e R s m args below meth c Q x nL A V Y cells slots pc lo st := fun H locs ls hP hS hl => lv_goto C.1 C.2.1 hd ht (k H locs ls hP hS hl)
theorem gq_if_eq (C : Cx p s m args meth c x nL A cc own Ts) {v : Int32} {off : Int} {tgt : Nat} (hd : decode cc pc = .ok (.ifCond .eq off, 3)) (ht : (pc : Int) + off = (tgt : Int)) (kt : v = 0 → G p l e R s m args below meth c Q x nL A V Y cells slots tgt lo st) (kf : ¬ v = 0 → G p l e R s m args below meth c Q x nL A V Y cells slots (pc + 3) lo st) : G p l e R s m args below meth c Q x nL A V Y cells slots pc lo (.int v :: st) := fun H locs ls hP hS hl => lv_if_eq C.1 C.2.1 hd ht (fun h => kt h H locs ls hP hS hl) (fun h => kf h H locs ls hP hS hl)
theorem gq_icmp_eq (C : Cx p s m args meth c x nL A cc own Ts) {v w : Int32} {off : Int} {tgt : Nat} (hd : decode cc pc = .ok (.if_icmp .eq off, 3)) (ht : (pc : Int) + off = (tgt : Int)) (kt : v = w → G p l e R s m args below meth c Q x nL A V Y cells slots tgt lo st) (kf : ¬ v = w → G p l e R s m args below meth c Q x nL A V Y cells slots (pc + 3) lo st) : G p l e R s m args below meth c Q x nL A V Y cells slots pc lo (.int w :: .int v :: st) := fun H locs ls hP hS hl => lv_icmp_eq C.1 C.2.1 hd ht (fun h => kt h H locs ls hP hS hl) (fun h => kf h H locs ls hP hS hl)
theorem gq_if_ne (C : Cx p s m args meth c x nL A cc own Ts) {v : Int32} {off : Int} {tgt : Nat} (hd : decode cc pc = .ok (.ifCond .ne off, 3)) (ht : (pc : Int) + off = (tgt : Int)) (kt : ¬ v = 0 → G p l e R s m args below meth c Q x nL A V Y cells slots tgt lo st) (kf : v = 0 → G p l e R s m args below meth c Q x nL A V Y cells slots (pc + 3) lo st) : G p l e R s m args below meth c Q x nL A V Y cells slots pc lo (.int v :: st) := fun H locs ls hP hS hl => lv_if_ne C.1 C.2.1 hd ht (fun h => kt h H locs ls hP hS hl) (fun h => kf h H locs ls hP hS hl)
theorem gq_icmp_ne (C : Cx p s m args meth c x nL A cc own Ts) {v w : Int32} {off : Int} {tgt : Nat} (hd : decode cc pc = .ok (.if_icmp .ne off, 3)) (ht : (pc : Int) + off = (tgt : Int)) (kt : ¬ v = w → G p l e R s m args below meth c Q x nL A V Y cells slots tgt lo st) (kf : v = w → G p l e R s m args below meth c Q x nL A V Y cells slots (pc + 3) lo st) : G p l e R s m args below meth c Q x nL A V Y cells slots pc lo (.int w :: .int v :: st) := fun H locs ls hP hS hl => lv_icmp_ne C.1 C.2.1 hd ht (fun h => kt h H locs ls hP hS hl) (fun h => kf h H locs ls hP hS hl)
theorem gq_if_lt (C : Cx p s m args meth c x nL A cc own Ts) {v : Int32} {off : Int} {tgt : Nat} (hd : decode cc pc = .ok (.ifCond .lt off, 3)) (ht : (pc : Int) + off = (tgt : Int)) (kt : v < 0 → G p l e R s m args below meth c Q x nL A V Y cells slots tgt lo st) (kf : ¬ v < 0 → G p l e R s m args below meth c Q x nL A V Y cells slots (pc + 3) lo st) : G p l e R s m args below meth c Q x nL A V Y cells slots pc lo (.int v :: st) := fun H locs ls hP hS hl => lv_if_lt C.1 C.2.1 hd ht (fun h => kt h H locs ls hP hS hl) (fun h => kf h H locs ls hP hS hl)
theorem gq_icmp_lt (C : Cx p s m args meth c x nL A cc own Ts) {v w : Int32} {off : Int} {tgt : Nat} (hd : decode cc pc = .ok (.if_icmp .lt off, 3)) (ht : (pc : Int) + off = (tgt : Int)) (kt : v < w → G p l e R s m args below meth c Q x nL A V Y cells slots tgt lo st) (kf : ¬ v < w → G p l e R s m args below meth c Q x nL A V Y cells slots (pc + 3) lo st) : G p l e R s m args below meth c Q x nL A V Y cells slots pc lo (.int w :: .int v :: st) := fun H locs ls hP hS hl => lv_icmp_lt C.1 C.2.1 hd ht (fun h => kt h H locs ls hP hS hl) (fun h => kf h H locs ls hP hS hl)
theorem gq_if_ge (C : Cx p s m args meth c x nL A cc own Ts) {v : Int32} {off : Int} {tgt : Nat} (hd : decode cc pc = .ok (.ifCond .ge off, 3)) (ht : (pc : Int) + off = (tgt : Int)) (kt : 0 ≤ v → G p l e R s m args below meth c Q x nL A V Y cells slots tgt lo st) (kf : ¬ 0 ≤ v → G p l e R s m args below meth c Q x nL A V Y cells slots (pc + 3) lo st) : G p l e R s m args below meth c Q x nL A V Y cells slots pc lo (.int v :: st) := fun H locs ls hP hS hl => lv_if_ge C.1 C.2.1 hd ht (fun h => kt h H locs ls hP hS hl) (fun h => kf h H locs ls hP hS hl)
theorem gq_icmp_ge (C : Cx p s m args meth c x nL A cc own Ts) {v w : Int32} {off : Int} {tgt : Nat} (hd : decode cc pc = .ok (.if_icmp .ge off, 3)) (ht : (pc : Int) + off = (tgt : Int)) (kt : w ≤ v → G p l e R s m args below meth c Q x nL A V Y cells slots tgt lo st) (kf : ¬ w ≤ v → G p l e R s m args below meth c Q x nL A V Y cells slots (pc + 3) lo st) : G p l e R s m args below meth c Q x nL A V Y cells slots pc lo (.int w :: .int v :: st) := fun H locs ls hP hS hl => lv_icmp_ge C.1 C.2.1 hd ht (fun h => kt h H locs ls hP hS hl) (fun h => kf h H locs ls hP hS hl)
theorem gq_if_gt (C : Cx p s m args meth c x nL A cc own Ts) {v : Int32} {off : Int} {tgt : Nat} (hd : decode cc pc = .ok (.ifCond .gt off, 3)) (ht : (pc : Int) + off = (tgt : Int)) (kt : 0 < v → G p l e R s m args below meth c Q x nL A V Y cells slots tgt lo st) (kf : ¬ 0 < v → G p l e R s m args below meth c Q x nL A V Y cells slots (pc + 3) lo st) : G p l e R s m args below meth c Q x nL A V Y cells slots pc lo (.int v :: st) := fun H locs ls hP hS hl => lv_if_gt C.1 C.2.1 hd ht (fun h => kt h H locs ls hP hS hl) (fun h => kf h H locs ls hP hS hl)
theorem gq_icmp_gt (C : Cx p s m args meth c x nL A cc own Ts) {v w : Int32} {off : Int} {tgt : Nat} (hd : decode cc pc = .ok (.if_icmp .gt off, 3)) (ht : (pc : Int) + off = (tgt : Int)) (kt : w < v → G p l e R s m args below meth c Q x nL A V Y cells slots tgt lo st) (kf : ¬ w < v → G p l e R s m args below meth c Q x nL A V Y cells slots (pc + 3) lo st) : G p l e R s m args below meth c Q x nL A V Y cells slots pc lo (.int w :: .int v :: st) := fun H locs ls hP hS hl => lv_icmp_gt C.1 C.2.1 hd ht (fun h => kt h H locs ls hP hS hl) (fun h => kf h H locs ls hP hS hl)
theorem gq_if_le (C : Cx p s m args meth c x nL A cc own Ts) {v : Int32} {off : Int} {tgt : Nat} (hd : decode cc pc = .ok (.ifCond .le off, 3)) (ht : (pc : Int) + off = (tgt : Int)) (kt : v ≤ 0 → G p l e R s m args below meth c Q x nL A V Y cells slots tgt lo st) (kf : ¬ v ≤ 0 → G p l e R s m args below meth c Q x nL A V Y cells slots (pc + 3) lo st) : G p l e R s m args below meth c Q x nL A V Y cells slots pc lo (.int v :: st) := fun H locs ls hP hS hl => lv_if_le C.1 C.2.1 hd ht (fun h => kt h H locs ls hP hS hl) (fun h => kf h H locs ls hP hS hl)
theorem gq_icmp_le (C : Cx p s m args meth c x nL A cc own Ts) {v w : Int32} {off : Int} {tgt : Nat} (hd : decode cc pc = .ok (.if_icmp .le off, 3)) (ht : (pc : Int) + off = (tgt : Int)) (kt : v ≤ w → G p l e R s m args below meth c Q x nL A V Y cells slots tgt lo st) (kf : ¬ v ≤ w → G p l e R s m args below meth c Q x nL A V Y cells slots (pc + 3) lo st) : G p l e R s m args below meth c Q x nL A V Y cells slots pc lo (.int w :: .int v :: st) := fun H locs ls hP hS hl => lv_icmp_le C.1 C.2.1 hd ht (fun h => kt h H locs ls hP hS hl) (fun h => kf h H locs ls hP hS hl)
/-- a field is read -/
theorem gq_get (C : Cx p s m args meth c x nL A cc own Ts) {g j k ci index N : Nat} {T : u_T} {C0 : String} {fs : List Value} {v : Value} (hm : (g, j) ∈ qI x) (he : qcf x g j (V g j) (Y g j) = .inr (ci, fs)) (hc : (qcl x)[ci]? = some (C0, T, N)) (hin : ∀ w ∈ u_ws C0 T N, w ∈ Ts) (hk : k < N) (hlink : Cond.fieldLink own index (T k).1 (T k).2.1 (T k).2.2.1 ∈ Ts) (hv : fs[k]? = some v) (hd : decode cc pc = .ok (.getfield index, 3))
    (kk : G p l e R s m args below meth c Q x nL A V Y cells slots (pc + 3) lo (v :: st)) : G p l e R s m args below meth c Q x nL A V Y cells slots pc lo (.ref (qal x g j) :: st) := by
  intro H locs ls hP hS hl
  obtain ⟨q, -, hq⟩ := qw_at V Y hm
  rw [he] at hq
  exact va_get C.1 C.2.1 C.2.2.2.2.1 hin C.2.2.2.1 C.2.2.2.2.2.1 hP q hq hc k hk (C.2.2.2.2.1 _ hlink) (fun _ h => h) hv hd (kk H locs ls hP hS hl)
/-- a field of ints is written -/
theorem gq_put (C : Cx p s m args meth c x nL A cc own Ts) (hA : ∀ q, qA x q → A q) {g j k ci index N : Nat} {T : u_T} {C0 : String} {fs : List Value} {v : Int32} {ty : FieldType} (ty0 : Nat → FieldType) (hty : ∀ k, k < N → parseFieldDescriptor (T k).2.2.1 = some (ty0 k)) (hnm : ∀ a, a < N → ∀ b, b < N → a ≠ b → (T a).2.1 ≠ (T b).2.1) (hm : (g, j) ∈ qI x) (he : qcf x g j (V g j) (Y g j) = .inr (ci, fs)) (hc : (qcl x)[ci]? = some (C0, T, N)) (hin : ∀ w ∈ u_ws C0 T N, w ∈ Ts) (hk : k < N) (hlink : Cond.fieldLink own index (T k).1 (T k).2.1 (T k).2.2.1 ∈ Ts) (hfin : (T k).2.2.2 = false) (hdd : parseFieldDescriptor (T k).2.2.1 = some ty) (hn : narrow ty (.int v) = .int v) (hfit : fits ty (.int v) = true) (hl : k < fs.length) (he2 : qcf x g j (upd (V g j) k v) (Y g j) = .inr (ci, fs.set k (.int v))) (hd : decode cc pc = .ok (.putfield index, 3))
    (kk : G p l e R s m args below meth c Q x nL A (qv V g j k v) Y cells slots (pc + 3) lo st) : G p l e R s m args below meth c Q x nL A V Y cells slots pc lo (.int v :: .ref (qal x g j) :: st) := by
  intro H locs ls hP hS hl2
  obtain ⟨q, h1, hq⟩ := qw_at V Y hm
  rw [he] at hq
  refine va_put C.1 C.2.1 C.2.2.2.2.1 hin ty0 hty hnm C.2.2.2.1 C.2.2.2.2.2.1 hP ((qw_D C.2.2.2.2.2.2.1 V Y).weaken (fun _ _ _ h => hA _ h)) hS q hq hc k hk (C.2.2.2.2.1 _ hlink) (fun _ h => h) hfin hdd hn hfit hl hd (fun H1 locs1 hP1 _ hS1 => ?_)
  rw [← he2, qw_setV C.2.2.2.2.2.2.1 h1] at hP1
  exact kk H1 locs1 ls hP1 hS1 hl2
/-- an int array is read, its index a number -/
theorem gq_iald (C : Cx p s m args meth c x nL A cc own Ts) {g j n a t0 : Nat} {cA : ClassId} {i : Int32} (hm : (g, j) ∈ qI x) (he : qcf x g j (V g j) (Y g j) = .inl (cA, n, .inl (V g j))) (ht : (qty x)[t0]? = some (cA, .int)) (hi : i = nI a) (ha : a < n) (hn : n < 2 ^ 31) (hd : decode cc pc = .ok (.iaload, 1))
    (kk : G p l e R s m args below meth c Q x nL A V Y cells slots (pc + 1) lo (.int (V g j a) :: st)) : G p l e R s m args below meth c Q x nL A V Y cells slots pc lo (.int i :: .ref (qal x g j) :: st) := by
  intro H locs ls hP hS hl
  obtain ⟨q, -, hq⟩ := qw_at V Y hm
  rw [he] at hq
  subst hi
  refine va_iald C.1 C.2.1 C.2.2.2.2.2.1 hP q t0 hq ht (vp_in_nI ha hn) hd ?_
  rw [nI_clamp (by omega)]
  exact kk H locs ls hP hS hl
theorem gq_zald (C : Cx p s m args meth c x nL A cc own Ts) {g j n a t0 : Nat} {cA : ClassId} {i : Int32} (hm : (g, j) ∈ qI x) (he : qcf x g j (V g j) (Y g j) = .inl (cA, n, .inl (V g j))) (ht : (qty x)[t0]? = some (cA, .boolean)) (hi : i = nI a) (ha : a < n) (hn : n < 2 ^ 31) (hd : decode cc pc = .ok (.baload, 1))
    (kk : G p l e R s m args below meth c Q x nL A V Y cells slots (pc + 1) lo (.int (V g j a) :: st)) : G p l e R s m args below meth c Q x nL A V Y cells slots pc lo (.int i :: .ref (qal x g j) :: st) := by
  intro H locs ls hP hS hl
  obtain ⟨q, -, hq⟩ := qw_at V Y hm
  rw [he] at hq
  subst hi
  refine va_zald C.1 C.2.1 C.2.2.2.2.2.1 hP q t0 hq ht (vp_in_nI ha hn) hd ?_
  rw [nI_clamp (by omega)]
  exact kk H locs ls hP hS hl
theorem gq_lald (C : Cx p s m args meth c x nL A cc own Ts) {g j n a t0 : Nat} {cA : ClassId} {i : Int32} (hm : (g, j) ∈ qI x) (he : qcf x g j (V g j) (Y g j) = .inl (cA, n, .inr (.inl (Y g j)))) (ht : (qty x)[t0]? = some (cA, .long)) (hi : i = nI a) (ha : a < n) (hn : n < 2 ^ 31) (hd : decode cc pc = .ok (.laload, 1))
    (kk : G p l e R s m args below meth c Q x nL A V Y cells slots (pc + 1) lo (.long (Y g j a) :: st)) : G p l e R s m args below meth c Q x nL A V Y cells slots pc lo (.int i :: .ref (qal x g j) :: st) := by
  intro H locs ls hP hS hl
  obtain ⟨q, -, hq⟩ := qw_at V Y hm
  rw [he] at hq
  subst hi
  refine va_lald C.1 C.2.1 C.2.2.2.2.2.1 hP q t0 hq ht (vp_in_nI ha hn) hd ?_
  rw [nI_clamp (by omega)]
  exact kk H locs ls hP hS hl
/-- an array of references is read -/
theorem gq_aald (C : Cx p s m args meth c x nL A cc own Ts) {g j n a t0 b : Nat} {cA : ClassId} {C1 : String} {f : Nat → Option Nat} {i : Int32} (hm : (g, j) ∈ qI x) (he : qcf x g j (V g j) (Y g j) = .inl (cA, n, .inr (.inr (.inr (.inr f))))) (ht : (qty x)[t0]? = some (cA, .object C1)) (hi : i = nI a) (ha : a < n) (hn : n < 2 ^ 31) (hf : f a = some b) (hd : decode cc pc = .ok (.aaload, 1))
    (kk : G p l e R s m args below meth c Q x nL A V Y cells slots (pc + 1) lo (.ref b :: st)) : G p l e R s m args below meth c Q x nL A V Y cells slots pc lo (.int i :: .ref (qal x g j) :: st) := by
  intro H locs ls hP hS hl
  obtain ⟨q, -, hq⟩ := qw_at V Y hm
  rw [he] at hq
  subst hi
  refine va_aldq C.1 C.2.1 C.2.2.2.2.2.1 hP q t0 hq ht (vp_in_nI ha hn) hd ?_
  rw [nI_clamp (by omega), hf]
  exact kk H locs ls hP hS hl
theorem gq_iast (C : Cx p s m args meth c x nL A cc own Ts) (hA : ∀ q, qA x q → A q) {g j n a t0 : Nat} {cA : ClassId} {i v : Int32} (hm : (g, j) ∈ qI x) (he : ∀ f, qcf x g j f (Y g j) = .inl (cA, n, .inl f)) (ht : (qty x)[t0]? = some (cA, .int)) (hi : i = nI a) (ha : a < n) (hn : n < 2 ^ 31) (hd : decode cc pc = .ok (.iastore, 1))
    (kk : G p l e R s m args below meth c Q x nL A (qv V g j a v) Y cells slots (pc + 1) lo st) : G p l e R s m args below meth c Q x nL A V Y cells slots pc lo (.int v :: .int i :: .ref (qal x g j) :: st) := by
  intro H locs ls hP hS hl
  obtain ⟨q, h1, hq⟩ := qw_at V Y hm
  rw [he] at hq
  subst hi
  refine va_iast C.1 C.2.1 C.2.2.2.2.2.1 hP ((qw_D C.2.2.2.2.2.2.1 V Y).weaken (fun _ _ _ h => hA _ h)) hS q t0 hq ht (vp_in_nI ha hn) hd (fun H1 locs1 hP1 _ hS1 => ?_)
  rw [nI_clamp (by omega), ← he, qw_setV C.2.2.2.2.2.2.1 h1] at hP1
  exact kk H1 locs1 ls hP1 hS1 hl
theorem gq_zast (C : Cx p s m args meth c x nL A cc own Ts) (hA : ∀ q, qA x q → A q) {g j n a t0 : Nat} {cA : ClassId} {i v : Int32} (hm : (g, j) ∈ qI x) (he : ∀ f, qcf x g j f (Y g j) = .inl (cA, n, .inl f)) (ht : (qty x)[t0]? = some (cA, .boolean)) (hi : i = nI a) (ha : a < n) (hn : n < 2 ^ 31) (hv : vp_nar .boolean v = v) (hd : decode cc pc = .ok (.bastore, 1))
    (kk : G p l e R s m args below meth c Q x nL A (qv V g j a v) Y cells slots (pc + 1) lo st) : G p l e R s m args below meth c Q x nL A V Y cells slots pc lo (.int v :: .int i :: .ref (qal x g j) :: st) := by
  intro H locs ls hP hS hl
  obtain ⟨q, h1, hq⟩ := qw_at V Y hm
  rw [he] at hq
  subst hi
  refine va_zast C.1 C.2.1 C.2.2.2.2.2.1 hP ((qw_D C.2.2.2.2.2.2.1 V Y).weaken (fun _ _ _ h => hA _ h)) hS q t0 hq ht (vp_in_nI ha hn) hd (fun H1 locs1 hP1 _ hS1 => ?_)
  rw [nI_clamp (by omega), hv, ← he, qw_setV C.2.2.2.2.2.2.1 h1] at hP1
  exact kk H1 locs1 ls hP1 hS1 hl
theorem gq_last (C : Cx p s m args meth c x nL A cc own Ts) (hA : ∀ q, qA x q → A q) {g j n a t0 : Nat} {cA : ClassId} {i : Int32} {v : Int64} (hm : (g, j) ∈ qI x) (he : ∀ f, qcf x g j (V g j) f = .inl (cA, n, .inr (.inl f))) (ht : (qty x)[t0]? = some (cA, .long)) (hi : i = nI a) (ha : a < n) (hn : n < 2 ^ 31) (hd : decode cc pc = .ok (.lastore, 1))
    (kk : G p l e R s m args below meth c Q x nL A V (qy Y g j a v) cells slots (pc + 1) lo st) : G p l e R s m args below meth c Q x nL A V Y cells slots pc lo (.long v :: .int i :: .ref (qal x g j) :: st) := by
  intro H locs ls hP hS hl
  obtain ⟨q, h1, hq⟩ := qw_at V Y hm
  rw [he] at hq
  subst hi
  refine va_last C.1 C.2.1 C.2.2.2.2.2.1 hP ((qw_D C.2.2.2.2.2.2.1 V Y).weaken (fun _ _ _ h => hA _ h)) hS q t0 hq ht (vp_in_nI ha hn) hd (fun H1 locs1 hP1 _ hS1 => ?_)
  rw [nI_clamp (by omega), ← he, qw_setY C.2.2.2.2.2.2.1 h1] at hP1
  exact kk H1 locs1 ls hP1 hS1 hl
end QR
end
section
/-! Contracts over the worlds V, Y, and calls. A method's contract CT: with the arguments av and the heap V, Y it ends as res says (a value, or an exception of a class), the heap is V', Y', and no old cell outside A has changed (A is qA x, or qN where it writes nothing). -/
def qN : Nat → Prop := fun _ => False
def qO (res : Option Value ⊕ String) (st : State) (o : Outcome) (t : State) : Prop := match res with
  | .inl v => o = .returned v
  | .inr X => ∃ (a : Addr) (cell : Cell), o = .threw a ∧ t.heap[a]? = some cell ∧ cell.vm.isStatics = false ∧ st.vm.findClass X = some cell.cls
def qPost (x : qX) (A : Nat → Prop) (rm : Room) (res : Option Value ⊕ String) (V' : qV) (Y' : qY) (st : State) (o : Outcome) (t : State) : Prop :=
  qO res st o t ∧ va_P (qD x) (qcl x) (qw x V' Y') t.heap ∧ va_F A st t ∧ st.WarmedH t.vm ∧ ∃ L : List Loc, st.sameButNew ({ t with vm := st.vm } : State) L rm.cells rm.slots ∧ ∀ q ∈ L, A q.base
def qQ (below : List Frame) (x : qX) (A : Nat → Prop) (rm : Room) (res : Option Value ⊕ String) (V' : qV) (Y' : qY) (st : State) : State → Prop := fun t => ∃ o, t.status = .running ∧ Ended t below o ∧ qPost x A rm res V' Y' st o t
def qPre (x : qX) (A : Nat → Prop) (av : List Value) (V : qV) (Y : qY) (a : Array Value) (U : State) : Prop := a = av.toArray ∧ va_P (qD x) (qcl x) (qw x V Y) U.heap ∧ va_K (qD x) (qcl x) (qty x) U ∧ qZs A U
def CT (l : Launch) (y : MethodName) (rm : Room) (x : qX) (A : Nat → Prop) (av : List Value) (V : qV) (Y : qY) (res : Option Value ⊕ String) (V' : qV) (Y' : qY) : Prop :=
  MetFree l y (headSpec QT rm) (qPre x A av V Y) (fun _ _ _ _ _ => True) (fun _ st o t => qPost x A rm res V' Y' st o t)
/-- the world's cells were there at the method's start -/
def qlt (x : qX) (s : State) : Prop := ∀ q, qA x q → q < s.heap.size
theorem qlt_of {x : qX} {V : qV} {Y : qY} {s : State} (h : va_P (qD x) (qcl x) (qw x V Y) s.heap) : qlt x s := by
  rintro q ⟨⟨g, j⟩, hm, rfl⟩
  obtain ⟨k, -, hk⟩ := qw_at V Y hm
  exact (h k _ hk).lt
theorem CT.of {l : Launch} {y : MethodName} {rm : Room} {x : qX} {A : Nat → Prop} {av : List Value} {V V' : qV} {Y Y' : qY} {res : Option Value ⊕ String} {cc : ByteArray} {maxL : Nat} {ret : Option FieldType} (hok : qok x) (hy : plainName y.cls = true) (hcw : Cond.code y cc maxL ret ∈ QT) (hlen : (lg_sl av).length ≤ maxL)
    (body : ∀ (p : Program) (e : Env) (s : State) (m : MethodId) (below : List Frame) (meth : Method) (c : Code), Cx p s m av.toArray meth c x maxL A cc y.cls QT → meth.sig.returnType = ret → c.exceptionTable.isEmpty = true → qlt x s → G p l e rm s m av.toArray below meth c (qQ below x A rm res V' Y' s) x maxL A V Y 0 0 0 (lv_args 0 av) []) : CT l y rm x A av V Y res V' Y' := by
  refine MetFree.of_bodyS (code := cc) (maxLocals := maxL) (ret := ret) hy ?_ ?_
  · intro args s m h hn
    obtain ⟨meth, c, h1, h2, h3, h4, h5, h6, -, -⟩ := Cond.code_spec hn (atoms_spec (ws := QT) h _ hcw)
    exact ⟨meth, c, h1, h2, h3, h4, h5, h6⟩
  · intro p e s m args below meth c s₁ B hml hP _
    obtain ⟨rfl, hPP, hK, hZ⟩ := hP
    have hh0 : s₁.heap = s.heap := by rw [B.state]; rfl
    have hts := atoms_spec (ws := QT) B.pre
    have X := Stand.of_body B
    have C : Cx p s m av.toArray meth c x maxL A cc y.cls QT := ⟨B.exec, B.bytes, hml, findClass_of_methodNamed B.named, hts, hK, hok, B.notSynchronized, hZ⟩
    have K : W p l e rm s m av.toArray below meth c s.heap [] 0 0 (qQ below x A rm res V' Y' s) (entryFrame m av.toArray maxL) := by
      rw [lg_entry_eq]
      exact body p e s m below meth c C B.returns (B.noHandlers (hts _ hcw)) (qlt_of hPP) s.heap [] _ hPP va_S.rf (lv_entry av (n := maxL) hlen)
    obtain ⟨t, a1, o, b1, b2, b3⟩ := K s₁ hh0 X
    exact ⟨t, o, a1, b1, b2, b3⟩
section QC
variable {p : Program} {l : Launch} {e : Env} {R : Room} {s : State} {m : MethodId} {args : Array Value} {below : List Frame} {meth : Method} {c : Code} {Q : State → Prop} {x : qX} {nL : Nat} {A B : Nat → Prop} {V V' : qV} {Y Y' : qY} {cells slots pc : Nat} {lo lo' : List (Nat × Value)} {st : List Value} {cc : ByteArray} {own : String} {Ts : List Cond}
theorem W_mono {Q' : State → Prop} {H : Heap} {locs : List Loc} {g : JFrame} (h : ∀ t, Q t → Q' t) (k : W p l e R s m args below meth c H locs cells slots Q g) : W p l e R s m args below meth c H locs cells slots Q' g := by
  intro T hT X
  obtain ⟨t, a, b⟩ := k T hT X
  exact ⟨t, a, h t b⟩
theorem q_end {rm : Room} {H : Heap} {locs : List Loc} {o₀ : Outcome} {v : Option Value} (hP : va_P (qD x) (qcl x) (qw x V Y) H) (hS : va_S A s.heap H locs) (ho : o₀ = .returned v) (t : State) (h : MQ below (fun _ _ o t => o = o₀ ∧ t.heap = H) args s rm.cells rm.slots A t) : qQ below x A rm (.inl v) V Y s t := by
  obtain ⟨o, h1, h2, ⟨rfl, hH⟩, L, ⟨-, hW, hsm⟩, hL⟩ := h
  exact ⟨_, h1, h2, ho, by rw [hH]; exact hP, hS.F hH, hW, L, hsm, hL⟩
theorem gq_iret (C : Cx p s m args meth c x nL A cc own Ts) {rm : Room} {v : Int32} (hr : meth.sig.returnType = some .int) (hc : cells ≤ rm.cells) (hs : slots ≤ rm.slots) (hd : decode cc pc = .ok (.ireturn, 1)) : G p l e R s m args below meth c (qQ below x A rm (.inl (some (.int v))) V Y s) x nL A V Y cells slots pc lo [.int v] := by
  intro H locs ls hP hS hl
  refine W.widen hc hs ?_
  exact W_mono (q_end hP hS rfl) (W.iret C.1 C.2.1 hr (fun t ht _ => ⟨rfl, ht⟩) hS.2.2 hd C.2.2.2.2.2.2.2.1)
theorem gq_zret (C : Cx p s m args meth c x nL A cc own Ts) {rm : Room} {v : Int32} {ty : FieldType} (hr : meth.sig.returnType = some ty) (hn : narrow ty (.int v) = .int v) (hc : cells ≤ rm.cells) (hs : slots ≤ rm.slots) (hd : decode cc pc = .ok (.ireturn, 1)) : G p l e R s m args below meth c (qQ below x A rm (.inl (some (.int v))) V Y s) x nL A V Y cells slots pc lo [.int v] := by
  intro H locs ls hP hS hl
  refine W.widen hc hs ?_
  exact W_mono (q_end hP hS rfl) (W.zret C.1 C.2.1 hr hn (fun t ht _ => ⟨rfl, ht⟩) hS.2.2 hd C.2.2.2.2.2.2.2.1)
theorem gq_lret (C : Cx p s m args meth c x nL A cc own Ts) {rm : Room} {v : Int64} (hr : meth.sig.returnType = some .long) (hc : cells ≤ rm.cells) (hs : slots ≤ rm.slots) (hd : decode cc pc = .ok (.lreturn, 1)) : G p l e R s m args below meth c (qQ below x A rm (.inl (some (.long v))) V Y s) x nL A V Y cells slots pc lo [.long v] := by
  intro H locs ls hP hS hl
  refine W.widen hc hs ?_
  exact W_mono (q_end hP hS rfl) (W.lret C.1 C.2.1 hr (fun t ht _ => ⟨rfl, ht⟩) hS.2.2 hd C.2.2.2.2.2.2.2.1)
theorem gq_vret (C : Cx p s m args meth c x nL A cc own Ts) {rm : Room} (hr : meth.sig.returnType = none) (hc : cells ≤ rm.cells) (hs : slots ≤ rm.slots) (hd : decode cc pc = .ok (.return_, 1)) : G p l e R s m args below meth c (qQ below x A rm (.inl none) V Y s) x nL A V Y cells slots pc lo [] := by
  intro H locs ls hP hS hl
  refine W.widen hc hs ?_
  exact W_mono (q_end hP hS rfl) (W.vret C.1 C.2.1 hr (fun t ht _ => ⟨rfl, ht⟩) hS.2.2 hd C.2.2.2.2.2.2.2.1)
theorem qZs_moved {u U : State} (h : qZs A u) (hvm : u.vm.Alike U.vm) (hk : ∀ a : Nat, a < u.heap.size → ¬ A a → U.heap[a]? = u.heap[a]?) (hAB : ∀ q, B q → A q) : qZs B U :=
  ⟨((h.1.kept hk).moved hvm).narrow hAB, ((h.2.kept hk).moved hvm).narrow hAB⟩
/-- the machine from a call's invocation to its end, by the contract -/
theorem q_call {T : State} {locs : List Loc} {y : MethodName} {rm : Room} {av : List Value} {res : Option Value ⊕ String} {bytes : ByteArray} {maxL : Nat} {ret : Option FieldType} (C : Cx p s m args meth c x nL A cc own QT) (X : Stand p l e R s m args below meth c T locs cells slots) (hM : CT l y rm x B av V Y res V' Y') (hB : ∀ q, B q → A q)
    (hcode : Cond.code y bytes maxL ret ∈ QT) (hini : Cond.initialized y.cls ∈ QT) (hR : rm.frames + 1 ≤ R.frames ∧ 8 + (maxL + 11) + rm.locals ≤ R.locals) (hf : cells + rm.cells ≤ R.cells ∧ slots + rm.slots ≤ R.slots)
    (hP : va_P (qD x) (qcl x) (qw x V Y) T.heap) (hS : va_S A s.heap T.heap locs) {g : JFrame} (hg : g.method = m) (hsize : g.locals.size = nL) {ig : Instr} {len : Nat} (hdg : decode c.code g.pc = .ok (ig, len)) (hW : 2 * g.monitorRoom + (g.stack.map fun v => v.category).sum ≤ 8) {mk : MethodId} (hn : s.methodNamed? y = some mk) :
    ∃ (o : Outcome) (t : State), Steps p.tables e below (doInvoke e (T.setTop g) [] mk av.toArray).1 t ∧ Ended t (.java g :: below) o ∧ qPost x B rm res V' Y' (T.calling g mk av.toArray) o t := by
  have hws : ∀ w ∈ QT, w.before av.toArray T = true := fun w hw => qgw_at X.warmed (QT_qgw w hw) (C.2.2.2.2.1 w hw)
  have hnT : T.methodNamed? y = some mk := X.named hn
  obtain ⟨methY, cY, hmY, hcY, -, hlY, -, -, -, -⟩ := Cond.code_spec hnT (hws _ hcode)
  obtain ⟨kY, hkY, -⟩ := className_of_methodNamed hnT
  have hinitY : kY.init = .initialized := Cond.initialized_spec (findClass_of_methodNamed hnT) hkY (hws _ hini)
  have h : At T g.method c below := by rw [hg]; exact X.here
  have happ : (headSpec QT rm).appliesLoose y e.platform (T.calling g mk av.toArray) = true :=
    Spec.appliesLoose_calling (g := g) h hdg hnT hkY hinitY (X.room_calling (g := g) (R' := rm) (hsize.trans C.2.2.1.symm) hmY hcY hR.1 (by rw [hlY]; omega) hf.1 hf.2) (atoms_intro hws)
  have hfr : (T.setTop g).frames = [.java g] ++ below := by rw [State.frames_setTop' g h.top, X.tail]; rfl
  obtain ⟨o, t, hsteps, -, hend, hq⟩ := Steps.callFree hM p X.admits X.cas X.clock (acts := []) hfr happ
    ⟨rfl, hP, va_K.moved (u := s) X.warmed.alike C.2.2.2.2.2.1, qZs_moved (U := T) C.2.2.2.2.2.2.2.2 X.warmed.alike hS.2.1 hB⟩ trivial
  rw [hfr] at hend
  exact ⟨o, t, hsteps, hend, hq⟩
theorem q_S {H : Heap} {locs L : List Loc} {T st t : State} (hS : va_S A s.heap H locs) (hT : T.heap = H) (hst : st.heap = T.heap) (hF : va_F B st t) (hA : ∀ q, B q → A q) (hL : ∀ q ∈ L, B q.base) : va_S A s.heap t.heap (locs ++ L) := by
  obtain ⟨h1, h2⟩ := hF
  rw [hst, hT] at h1 h2
  refine ⟨Nat.le_trans hS.1 h1, fun q hq hn => ?_, fun q hq => ?_⟩
  · rw [h2 q (Nat.lt_of_lt_of_le hq hS.1) (fun z => hn (hA q z))]
    exact hS.2.1 q hq hn
  · rcases List.mem_append.mp hq with h | h
    · exact hS.2.2 q h
    · exact hA _ (hL q h)
/-- a call of a method that comes back -/
theorem gq_callS (C : Cx p s m args meth c x nL A cc own QT) {y : MethodName} {rm : Room} {av : List Value} {v : Option Value} {bytes : ByteArray} {maxL index : Nat} {ret : Option FieldType} {stk : List Value} (hB : ∀ q, B q → A q) (hM : CT l y rm x B av V Y (.inl v) V' Y')
    (hlink : Cond.methodLink own index y ∈ QT) (hst : Cond.static y ∈ QT) (hcode : Cond.code y bytes maxL ret ∈ QT) (hini : Cond.initialized y.cls ∈ QT) (hy : y.cls ≠ "java/lang/invoke/MethodHandle" ∧ y.cls ≠ "java/lang/invoke/VarHandle" ∧ (parseMethodDescriptor y.desc).map (fun d => d.parameters.length) = some av.length)
    (hR : rm.frames + 1 ≤ R.frames ∧ 8 + (maxL + 11) + rm.locals ≤ R.locals) (hf : cells + rm.cells ≤ R.cells ∧ slots + rm.slots ≤ R.slots) (hk : stk = av.reverse ++ st) (hW : (st.map fun v => v.category).sum ≤ 8) (hd : decode cc pc = .ok (.invokestatic index, 3))
    (kk : G p l e R s m args below meth c Q x nL A V' Y' (cells + rm.cells) (slots + rm.slots) (pc + 3) lo (v.toList ++ st)) : G p l e R s m args below meth c Q x nL A V Y cells slots pc lo stk := by
  intro H locs ls hP hS hl T hT X
  have hts := C.2.2.2.2.1
  obtain ⟨mk, hnamed⟩ := Cond.code_named (hts _ hcode)
  obtain ⟨methM, cM, hmethM, -, -, -, -, -, -, hsigM⟩ := Cond.code_spec hnamed (hts _ hcode)
  obtain ⟨kP, hkP, -⟩ := className_of_methodNamed hnamed
  have hlen : av.length = methM.sig.parameters.length := by
    have h2 := hy.2.2
    rw [hsigM] at h2
    exact (Option.some.inj h2).symm
  obtain ⟨vm₁, X₁, st1⟩ := X.invokestatic C.1 C.2.2.2.1 (hts _ hlink) hnamed hmethM (Cond.static_spec hnamed hmethM (hts _ hst)) hkP (Cond.initialized_spec (findClass_of_methodNamed hnamed) hkP (hts _ hini)) ⟨hy.1, hy.2.1⟩ (g := F0 m pc ls stk) rfl (argsL := av) (rest := st) hlen hk (by rw [C.2.1]; exact hd)
  obtain ⟨o, t, a1, a2, ⟨a3, a4, a5, a6, L, a7, a8⟩⟩ := q_call C X₁ hM hB hcode hini hR hf (by rw [show (T.setVm vm₁).heap = H from hT]; exact hP) (by rw [show (T.setVm vm₁).heap = H from hT]; exact hS) (g := F0 m pc ls st) rfl hl.1 (by rw [C.2.1]; exact hd) (by show 2 * 0 + (st.map fun v => v.category).sum ≤ 8; omega) hnamed
  obtain rfl : o = .returned v := a3
  obtain ⟨T', X', -, -, ht⟩ := X₁.outOf (g := F0 m pc ls st) rfl (by rw [C.2.1]; exact hd) a2 a6 a7
  have hT' : T'.heap = t.heap := by rw [ht]; rfl
  obtain ⟨t2, b1, b2⟩ := kk T'.heap (locs ++ L) ls (by rw [hT']; exact a4) (by rw [hT']; exact q_S hS (T := T.setVm vm₁) hT rfl a5 hB a8) hl T' rfl X'
  refine ⟨t2, st1 _ (fun acts => ?_), b2⟩
  rw [doInvoke_state]
  refine a1.trans ?_
  rw [ht]
  exact b1
theorem gq_callV (C : Cx p s m args meth c x nL A cc own QT) {y : MethodName} {rm : Room} {bytes : ByteArray} {maxL index : Nat} {ret : Option FieldType} {stk : List Value} {As : List Value} {g j ci : Nat} {C0 : vw_C} {fs : List Value} {v : Option Value} (hB : ∀ q, B q → A q) (hM : CT l y rm x B (.ref (qal x g j) :: As) V Y (.inl v) V' Y')
    (hm : (g, j) ∈ qI x) (he : qcf x g j (V g j) (Y g j) = .inr (ci, fs)) (hc : (qcl x)[ci]? = some C0) (hlink : Cond.methodLink own index y ∈ QT) (hinst : Cond.instanceMethod y ∈ QT) (hsel : Cond.selects C0.1 y y ∈ QT) (hcode : Cond.code y bytes maxL ret ∈ QT) (hini : Cond.initialized y.cls ∈ QT) (hy : y.cls ≠ "java/lang/invoke/MethodHandle" ∧ y.cls ≠ "java/lang/invoke/VarHandle" ∧ (parseMethodDescriptor y.desc).map (fun d => d.parameters.length) = some As.length)
    (hR : rm.frames + 1 ≤ R.frames ∧ 8 + (maxL + 11) + rm.locals ≤ R.locals) (hf : cells + rm.cells ≤ R.cells ∧ slots + rm.slots ≤ R.slots) (hk : stk = As.reverse ++ .ref (qal x g j) :: st) (hW : (st.map fun v => v.category).sum ≤ 8) (hd : decode cc pc = .ok (.invokevirtual index, 3))
    (kk : G p l e R s m args below meth c Q x nL A V' Y' (cells + rm.cells) (slots + rm.slots) (pc + 3) lo (v.toList ++ st)) : G p l e R s m args below meth c Q x nL A V Y cells slots pc lo stk := by
  intro H locs ls hP hS hl T hT X
  have hts := C.2.2.2.2.1
  obtain ⟨mk, methM, hnamed, hmethM, hstM, habM⟩ := Cond.instanceMethod_spec (hts _ hinst)
  obtain ⟨methM', cM, hmethM', -, -, -, -, -, -, hsigM⟩ := Cond.code_spec hnamed (hts _ hcode)
  cases hmethM.symm.trans hmethM'
  obtain ⟨q0, -, hq0⟩ := qw_at V Y hm
  rw [he] at hq0
  obtain ⟨cellB, hcB, hoB, hclB⟩ := va_recv C.2.2.2.2.2.1 hP hc hq0
  obtain ⟨c2, r2, m2, q1, q2, q3, q4, kP, hkP, hkPi⟩ := Cond.selects_spec (hts _ hsel)
  cases hclB.symm.trans q1
  cases (State.methodFound?_of_named hnamed ⟨hy.1, hy.2.1⟩).symm.trans q2
  cases hnamed.symm.trans q3
  have hselP : selectMethod e.platform s.vm cellB.cls mk = .method mk := by rw [Launch.admits_selectMethod X.admits]; exact q4
  have hlen : As.length = methM.sig.parameters.length := by
    have h2 := hy.2.2
    rw [hsigM] at h2
    exact (Option.some.inj h2).symm
  obtain ⟨vm₁, X₁, st1⟩ := X.invokevirtual C.1 C.2.2.2.1 (hts _ hlink) hnamed hmethM hstM hkP hkPi ⟨hy.1, hy.2.1⟩ (a := qal x g j) (cell := cellB) (by rw [hT]; exact hcB) (fun z h => by rw [h] at hoB; cases hoB) hselP hmethM habM hkP hkPi (g := F0 m pc ls stk) rfl (argsL := As) (rest := st) hlen hk (by rw [C.2.1]; exact hd)
  obtain ⟨o, t, a1, a2, ⟨a3, a4, a5, a6, L, a7, a8⟩⟩ := q_call C X₁ hM hB hcode hini hR hf (by rw [show (T.setVm vm₁).heap = H from hT]; exact hP) (by rw [show (T.setVm vm₁).heap = H from hT]; exact hS) (g := F0 m pc ls st) rfl hl.1 (by rw [C.2.1]; exact hd) (by show 2 * 0 + (st.map fun v => v.category).sum ≤ 8; omega) hnamed
  obtain rfl : o = .returned v := a3
  obtain ⟨T', X', -, -, ht⟩ := X₁.outOf (g := F0 m pc ls st) rfl (by rw [C.2.1]; exact hd) a2 a6 a7
  have hT' : T'.heap = t.heap := by rw [ht]; rfl
  obtain ⟨t2, b1, b2⟩ := kk T'.heap (locs ++ L) ls (by rw [hT']; exact a4) (by rw [hT']; exact q_S hS (T := T.setVm vm₁) hT rfl a5 hB a8) hl T' rfl X'
  refine ⟨t2, st1 _ (fun acts => ?_), b2⟩
  rw [doInvoke_state]
  refine a1.trans ?_
  rw [ht]
  exact b1
/-- a call of a method that throws, in a method without a table: it throws too -/
theorem gq_thrS (C : Cx p s m args meth c x nL A cc own QT) {y : MethodName} {rm : Room} {bytes : ByteArray} {maxL index : Nat} {ret : Option FieldType} {stk : List Value} {av : List Value} {X0 : String} {rm0 : Room} (hex : c.exceptionTable.isEmpty = true) (hB : ∀ q, B q → A q) (hM : CT l y rm x B av V Y (.inr X0) V' Y')
    (hlink : Cond.methodLink own index y ∈ QT) (hst : Cond.static y ∈ QT) (hcode : Cond.code y bytes maxL ret ∈ QT) (hini : Cond.initialized y.cls ∈ QT) (hy : y.cls ≠ "java/lang/invoke/MethodHandle" ∧ y.cls ≠ "java/lang/invoke/VarHandle" ∧ (parseMethodDescriptor y.desc).map (fun d => d.parameters.length) = some av.length)
    (hR : rm.frames + 1 ≤ R.frames ∧ 8 + (maxL + 11) + rm.locals ≤ R.locals) (hf : cells + rm.cells ≤ R.cells ∧ slots + rm.slots ≤ R.slots) (hf2 : cells + rm.cells ≤ rm0.cells ∧ slots + rm.slots ≤ rm0.slots) (hk : stk = av.reverse ++ st) (hW : (st.map fun v => v.category).sum ≤ 8) (hd : decode cc pc = .ok (.invokestatic index, 3)) :
    G p l e R s m args below meth c (qQ below x A rm0 (.inr X0) V' Y' s) x nL A V Y cells slots pc lo stk := by
  intro H locs ls hP hS hl T hT X
  have hts := C.2.2.2.2.1
  obtain ⟨mk, hnamed⟩ := Cond.code_named (hts _ hcode)
  obtain ⟨methM, cM, hmethM, -, -, -, -, -, -, hsigM⟩ := Cond.code_spec hnamed (hts _ hcode)
  obtain ⟨kP, hkP, -⟩ := className_of_methodNamed hnamed
  have hlen : av.length = methM.sig.parameters.length := by
    have h2 := hy.2.2
    rw [hsigM] at h2
    exact (Option.some.inj h2).symm
  obtain ⟨vm₁, X₁, st1⟩ := X.invokestatic C.1 C.2.2.2.1 (hts _ hlink) hnamed hmethM (Cond.static_spec hnamed hmethM (hts _ hst)) hkP (Cond.initialized_spec (findClass_of_methodNamed hnamed) hkP (hts _ hini)) ⟨hy.1, hy.2.1⟩ (g := F0 m pc ls stk) rfl (argsL := av) (rest := st) hlen hk (by rw [C.2.1]; exact hd)
  obtain ⟨o, t, a1, a2, ⟨a3, a4, a5, a6, L, a7, a8⟩⟩ := q_call C X₁ hM hB hcode hini hR hf (by rw [show (T.setVm vm₁).heap = H from hT]; exact hP) (by rw [show (T.setVm vm₁).heap = H from hT]; exact hS) (g := F0 m pc ls st) rfl hl.1 (by rw [C.2.1]; exact hd) (by show 2 * 0 + (st.map fun v => v.category).sum ≤ 8; omega) hnamed
  obtain ⟨a, cell, rfl, h4, h5, h6⟩ := a3
  obtain ⟨T', X', -, -, ht⟩ := X₁.outOfThrown (g := F0 m pc ls st) rfl a2 a6 a7
  have hT' : T'.heap = t.heap := by rw [ht]; rfl
  obtain ⟨w1, w2, w3, w4, w5⟩ := X'.leaveThrown a (g := F0 m pc ls st) rfl rfl rfl (by
    intro z hz
    have h0 : c.exceptionTable.toList = [] := by simpa using hex
    rw [h0] at hz
    cases hz) C.2.2.2.2.2.2.2.1
  refine ⟨_, st1 _ (fun acts => ?_), .threw a, w2, w3, ⟨a, cell, rfl, ?_, h5, ?_⟩, ?_, ?_, w4, _, w5.weaken (fun _ h _ => h) hf2.1 hf2.2, ?_⟩
  · rw [doInvoke_state]
    refine a1.trans ?_
    rw [ht]
    exact w1
  · show T'.heap[a]? = _
    rw [hT']; exact h4
  · rw [← h6]
    exact (X₁.warmed.alike.findClass _ _).symm
  · show va_P _ _ _ T'.heap
    rw [hT']; exact a4
  · have := q_S hS (T := T.setVm vm₁) hT rfl a5 hB a8
    rw [← hT'] at this
    exact va_S.F (t := T'.setFrames (.throwing a :: below)) this rfl
  · intro q hq
    rcases List.mem_append.mp hq with h | h
    · exact hS.2.2 q h
    · exact hB _ (a8 q h)
/-- a call of a method that throws, in a method without a table: it throws too -/
theorem gq_thrV (C : Cx p s m args meth c x nL A cc own QT) {y : MethodName} {rm : Room} {bytes : ByteArray} {maxL index : Nat} {ret : Option FieldType} {stk : List Value} {As : List Value} {g j ci : Nat} {C0 : vw_C} {fs : List Value} {X0 : String} {rm0 : Room} (hex : c.exceptionTable.isEmpty = true) (hB : ∀ q, B q → A q) (hM : CT l y rm x B (.ref (qal x g j) :: As) V Y (.inr X0) V' Y')
    (hm : (g, j) ∈ qI x) (he : qcf x g j (V g j) (Y g j) = .inr (ci, fs)) (hc : (qcl x)[ci]? = some C0) (hlink : Cond.methodLink own index y ∈ QT) (hinst : Cond.instanceMethod y ∈ QT) (hsel : Cond.selects C0.1 y y ∈ QT) (hcode : Cond.code y bytes maxL ret ∈ QT) (hini : Cond.initialized y.cls ∈ QT) (hy : y.cls ≠ "java/lang/invoke/MethodHandle" ∧ y.cls ≠ "java/lang/invoke/VarHandle" ∧ (parseMethodDescriptor y.desc).map (fun d => d.parameters.length) = some As.length)
    (hR : rm.frames + 1 ≤ R.frames ∧ 8 + (maxL + 11) + rm.locals ≤ R.locals) (hf : cells + rm.cells ≤ R.cells ∧ slots + rm.slots ≤ R.slots) (hf2 : cells + rm.cells ≤ rm0.cells ∧ slots + rm.slots ≤ rm0.slots) (hk : stk = As.reverse ++ .ref (qal x g j) :: st) (hW : (st.map fun v => v.category).sum ≤ 8) (hd : decode cc pc = .ok (.invokevirtual index, 3)) :
    G p l e R s m args below meth c (qQ below x A rm0 (.inr X0) V' Y' s) x nL A V Y cells slots pc lo stk := by
  intro H locs ls hP hS hl T hT X
  have hts := C.2.2.2.2.1
  obtain ⟨mk, methM, hnamed, hmethM, hstM, habM⟩ := Cond.instanceMethod_spec (hts _ hinst)
  obtain ⟨methM', cM, hmethM', -, -, -, -, -, -, hsigM⟩ := Cond.code_spec hnamed (hts _ hcode)
  cases hmethM.symm.trans hmethM'
  obtain ⟨q0, -, hq0⟩ := qw_at V Y hm
  rw [he] at hq0
  obtain ⟨cellB, hcB, hoB, hclB⟩ := va_recv C.2.2.2.2.2.1 hP hc hq0
  obtain ⟨c2, r2, m2, q1, q2, q3, q4, kP, hkP, hkPi⟩ := Cond.selects_spec (hts _ hsel)
  cases hclB.symm.trans q1
  cases (State.methodFound?_of_named hnamed ⟨hy.1, hy.2.1⟩).symm.trans q2
  cases hnamed.symm.trans q3
  have hselP : selectMethod e.platform s.vm cellB.cls mk = .method mk := by rw [Launch.admits_selectMethod X.admits]; exact q4
  have hlen : As.length = methM.sig.parameters.length := by
    have h2 := hy.2.2
    rw [hsigM] at h2
    exact (Option.some.inj h2).symm
  obtain ⟨vm₁, X₁, st1⟩ := X.invokevirtual C.1 C.2.2.2.1 (hts _ hlink) hnamed hmethM hstM hkP hkPi ⟨hy.1, hy.2.1⟩ (a := qal x g j) (cell := cellB) (by rw [hT]; exact hcB) (fun z h => by rw [h] at hoB; cases hoB) hselP hmethM habM hkP hkPi (g := F0 m pc ls stk) rfl (argsL := As) (rest := st) hlen hk (by rw [C.2.1]; exact hd)
  obtain ⟨o, t, a1, a2, ⟨a3, a4, a5, a6, L, a7, a8⟩⟩ := q_call C X₁ hM hB hcode hini hR hf (by rw [show (T.setVm vm₁).heap = H from hT]; exact hP) (by rw [show (T.setVm vm₁).heap = H from hT]; exact hS) (g := F0 m pc ls st) rfl hl.1 (by rw [C.2.1]; exact hd) (by show 2 * 0 + (st.map fun v => v.category).sum ≤ 8; omega) hnamed
  obtain ⟨a, cell, rfl, h4, h5, h6⟩ := a3
  obtain ⟨T', X', -, -, ht⟩ := X₁.outOfThrown (g := F0 m pc ls st) rfl a2 a6 a7
  have hT' : T'.heap = t.heap := by rw [ht]; rfl
  obtain ⟨w1, w2, w3, w4, w5⟩ := X'.leaveThrown a (g := F0 m pc ls st) rfl rfl rfl (by
    intro z hz
    have h0 : c.exceptionTable.toList = [] := by simpa using hex
    rw [h0] at hz
    cases hz) C.2.2.2.2.2.2.2.1
  refine ⟨_, st1 _ (fun acts => ?_), .threw a, w2, w3, ⟨a, cell, rfl, ?_, h5, ?_⟩, ?_, ?_, w4, _, w5.weaken (fun _ h _ => h) hf2.1 hf2.2, ?_⟩
  · rw [doInvoke_state]
    refine a1.trans ?_
    rw [ht]
    exact w1
  · show T'.heap[a]? = _
    rw [hT']; exact h4
  · rw [← h6]
    exact (X₁.warmed.alike.findClass _ _).symm
  · show va_P _ _ _ T'.heap
    rw [hT']; exact a4
  · have := q_S hS (T := T.setVm vm₁) hT rfl a5 hB a8
    rw [← hT'] at this
    exact va_S.F (t := T'.setFrames (.throwing a :: below)) this rfl
  · intro q hq
    rcases List.mem_append.mp hq with h | h
    · exact hS.2.2 q h
    · exact hB _ (a8 q h)
end QC
end
section
/-! 'throw new X()' in a method that has written nothing, and the words that it needs -/
theorem q_isRef {C n d : String} {A : Nat → Prop} {U : State} {args : Array Value} (h : va_Zq C n d A U U.heap) : (Cond.isRef (.static C n d)).before args U = true := by
  rcases h with ⟨cf, kf, fi, f, a, cell, h1, h2, h3, h4, h5, h6, h7, -⟩ | ⟨t, cf, kf, fi, f, a, cell, h1, h2, h3, h4, h5, h6, h7, -⟩
  · simp [Cond.before, Cond.holds, Cond.value, Term.eval, State.fieldNamed?, h1, h2, h4, h5, h6, h7]
  · simp [Cond.before, Cond.holds, Cond.value, Term.eval, State.fieldNamed?, h1, h2, h4, h5, h6, h7]
theorem q_same {s t : State} {k n : Nat} (h : s.sameButNew t [] k n) {a : Nat} (ha : a < s.heap.size) : t.heap[a]? = s.heap[a]? := by
  obtain ⟨c', h1, h2, -, h4⟩ := h.2.2.2.2.2 a s.heap[a] (Array.getElem?_eq_getElem ha)
  have h5 : c'.slots = s.heap[a].slots := Array.ext_getElem? (fun i => h4 i (by simp))
  rw [h1, Array.getElem?_eq_getElem ha, h2, h5]
/-- the words of a throw: all in QT, but for two that speak of statics -/
def qTw (own : String) (ic : Nat) (X0 : String) (names : List String) : Prop := ∀ a ∈ Bundle.ownAtoms0 own ic X0 names, a ∈ QT ∨ a = .isRef (.static Bundle.tN "UNASSIGNED_STACK" Bundle.steD) ∨ a = .isRef (.static Bundle.tN "SUPPRESSED_SENTINEL" Bundle.listD)
section QT0
variable {p : Program} {l : Launch} {e : Env} {R : Room} {s : State} {m : MethodId} {args : Array Value} {below : List Frame} {meth : Method} {c : Code} {x : qX} {nL : Nat} {V : qV} {Y : qY} {cells slots pc : Nat} {lo : List (Nat × Value)} {st : List Value} {cc : ByteArray} {own : String}
theorem gq_throw (C : Cx p s m args meth c x nL qN cc own QT) (hadm : ∀ e, l.admits e → e.platform.stackTraces = false) (hex : c.exceptionTable.isEmpty = true) (hlt : qlt x s) {X0 : String} {names : List String} {ia ic : Nat} {rm0 : Room} (hw : qTw own ic X0 names) (hcl : Cond.classLink own ia X0 ∈ QT) (hins : Cond.instantiable X0 6 ∈ QT) (hini : Cond.initialized X0 ∈ QT) (hfit : Bundle.fit X0 = true) (hnames : ∀ n ∈ names, Bundle.fit n = true)
    (hf : cells + 1 ≤ R.cells ∧ slots + 6 ≤ R.slots) (hf2 : cells + 1 ≤ rm0.cells ∧ slots + 6 ≤ rm0.slots) (hRf : names.length + 3 < R.frames) (hRl : 1 + (st.map fun v => v.category).sum + (13 * (names.length + 1) + 41) ≤ R.locals)
    (hd0 : decode cc pc = .ok (.new ia, 3)) (hd3 : decode cc (pc + 3) = .ok (.dup, 1)) (hd4 : decode cc (pc + 3 + 1) = .ok (.invokespecial ic, 3)) (hd7 : decode cc (pc + 3 + 1 + 3) = .ok (.athrow, 1)) :
    G p l e R s m args below meth c (qQ below x qN rm0 (.inr X0) V Y s) x nL qN V Y cells slots pc lo st := by
  intro H locs ls hP hS hl
  have hts := C.2.2.2.2.1
  have hloc : locs = [] := by
    cases locs with
    | nil => rfl
    | cons a t => exact absurd (hS.2.2 a List.mem_cons_self) id
  subst hloc
  refine W.newc C.1 C.2.1 C.2.2.2.1 (hts _ hcl) (hts _ hins) (hts _ hini) (g := F0 m pc ls st) rfl hd0 hf.1 hf.2 (fun cC kC h1 h2 h3 h4 => ?_)
  refine lv_dup C.1 C.2.1 (pc := pc + 3) (ls := ls) (rest := st) (va := .ref H.size) hd3 rfl ?_
  intro T hT X
  have hat : ∀ a ∈ Bundle.ownAtoms0 own ic X0 names, a.before args s = true := by
    intro a ha
    rcases hw a ha with h | rfl | rfl
    · exact hts a h
    · exact q_isRef C.2.2.2.2.2.2.2.2.1
    · exact q_isRef C.2.2.2.2.2.2.2.2.2
  obtain ⟨U, u1, u2, u3, u4, u5, ce, u6, u7⟩ := X.ctorThrow0 C.1 (hadm e X.admits) (own := own) (cls := X0) (names := names) (ic := ic) C.2.2.2.1 hfit hnames hat (fun z hz => by cases hz) (a := H.size) (cX := cC) (kX := kC) h1 h2
    (by rw [hT]; simp) hS.1 (g := F0 m (pc + 3 + 1) ls (.ref H.size :: .ref H.size :: st)) rfl (hl.1.trans C.2.2.1.symm) rfl rfl rfl (by rw [C.2.1]; exact hd4) (by rw [C.2.1]; exact hd7)
    (by
      intro z hz
      have h0 : c.exceptionTable.toList = [] := by simpa using hex
      rw [h0] at hz
      cases hz) hRf (by
        show 2 * 0 + (1 + (st.map fun v => v.category).sum) + _ ≤ _
        omega) C.2.2.2.2.2.2.2.1
  have hU : ∀ q, q < s.heap.size → U.heap[q]? = s.heap[q]? := fun q hq => q_same u5 hq
  refine ⟨U, u1, .threw H.size, u2, u3, ⟨H.size, ce, rfl, u6, by rw [u7.vm]; rfl, u7.cls⟩, ?_, ⟨?_, fun q hq _ => hU q hq⟩, u4, [], u5.weaken (fun _ h _ => h) hf2.1 hf2.2, fun _ h => by cases h⟩
  · refine hP.kept (fun k q hk => ?_)
    rw [qw_get] at hk
    obtain ⟨a, ha, rfl⟩ := Option.map_eq_some_iff.mp hk
    have hq := hlt _ ⟨a, List.mem_of_getElem? ha, rfl⟩
    rw [hU _ hq, hS.2.1 _ hq id]
  · exact u5.2.1
end QT0
/-! library calls: Math.max of ints, Math.min of longs, System.arraycopy of ints -/
section QM
variable {p : Program} {l : Launch} {e : Env} {R : Room} {s : State} {m : MethodId} {args : Array Value} {below : List Frame} {meth : Method} {c : Code} {Q : State → Prop} {x : qX} {nL : Nat} {A : Nat → Prop} {V : qV} {Y : qY} {cells slots pc : Nat} {lo : List (Nat × Value)} {st : List Value} {cc : ByteArray} {own : String} {Ts : List Cond}
theorem gq_max (C : Cx p s m args meth c x nL A cc own Ts) {index : Nat} {v w : Int32} (hlink : Cond.methodLink own index Lib.Math.max.name ∈ Ts) (hst : Cond.static Lib.Math.max.name ∈ Ts) (hini : Cond.initialized "java/lang/Math" ∈ Ts) (hcode : Cond.code Lib.Math.max.name Lib.Math.max.code 2 (some .int) ∈ Ts) (hfr : 1 ≤ R.frames) (hlo : (st.map fun v => v.category).sum + 13 ≤ R.locals) (hc : cells ≤ R.cells) (hs : slots ≤ R.slots) (hd : decode cc pc = .ok (.invokestatic index, 3))
    (k : G p l e R s m args below meth c Q x nL A V Y cells slots (pc + 3) lo (.int (if v < w then w else v) :: st)) : G p l e R s m args below meth c Q x nL A V Y cells slots pc lo (.int w :: .int v :: st) := fun H locs ls hP hS hl => va_mmax C.1 C.2.1 (C.2.2.1.trans hl.1.symm) C.2.2.2.1 (C.2.2.2.2.1 _ hlink) (C.2.2.2.2.1 _ hst) (C.2.2.2.2.1 _ hini) (C.2.2.2.2.1 _ hcode) hfr hlo hc hs hd (k H locs ls hP hS hl)
theorem gq_minL (C : Cx p s m args meth c x nL A cc own Ts) {index : Nat} {v w : Int64} (hlink : Cond.methodLink own index Lib.MathLoose.min_long.x ∈ Ts) (hst : Cond.static Lib.MathLoose.min_long.x ∈ Ts) (hini : Cond.initialized "java/lang/Math" ∈ Ts) (hcode : Cond.code Lib.MathLoose.min_long.x Lib.MathLoose.min_long.code 4 (some .long) ∈ Ts) (hfr : 1 ≤ R.frames) (hlo : (st.map fun v => v.category).sum + 15 ≤ R.locals) (hc : cells ≤ R.cells) (hs : slots ≤ R.slots) (hd : decode cc pc = .ok (.invokestatic index, 3))
    (k : G p l e R s m args below meth c Q x nL A V Y cells slots (pc + 3) lo (.long (if w < v then w else v) :: st)) : G p l e R s m args below meth c Q x nL A V Y cells slots pc lo (.long w :: .long v :: st) := fun H locs ls hP hS hl => va_mmin_long C.1 C.2.1 (C.2.2.1.trans hl.1.symm) C.2.2.2.1 (C.2.2.2.2.1 _ hlink) (C.2.2.2.2.1 _ hst) (C.2.2.2.2.1 _ hini) (C.2.2.2.2.1 _ hcode) hfr hlo hc hs hd (k H locs ls hP hS hl)
theorem gq_copyi (C : Cx p s m args meth c x nL A cc own Ts) (hA : ∀ q, qA x q → A q) {index g0 j0 g1 j1 n0 n1 t0 sp dp n : Nat} {cA : ClassId} (hlink : Cond.methodLink own index arraycopyName ∈ Ts) (hnat : Cond.native arraycopyName ∈ Ts) (hst : Cond.static arraycopyName ∈ Ts) (hini : Cond.initialized "java/lang/System" ∈ Ts) (hm0 : (g0, j0) ∈ qI x) (hm1 : (g1, j1) ∈ qI x) (he0 : qcf x g0 j0 (V g0 j0) (Y g0 j0) = .inl (cA, n0, .inl (V g0 j0))) (he1 : ∀ f, qcf x g1 j1 f (Y g1 j1) = .inl (cA, n1, .inl f)) (ht : (qty x)[t0]? = some (cA, .int)) {i1 i2 i3 : Int32} (hi1 : i1 = nI sp) (hi2 : i2 = nI dp) (hi3 : i3 = nI n) (h0 : sp + n ≤ n0) (h1 : dp + n ≤ n1) (hb0 : n0 < 2 ^ 31) (hb1 : n1 < 2 ^ 31)
    (hfr : 1 ≤ R.frames) (hlo : (st.map fun v => v.category).sum + (nativeFrameWords "java/lang/System" "arraycopy" 5 + 11) ≤ R.locals) (hd : decode cc pc = .ok (.invokestatic index, 3))
    (k : G p l e R s m args below meth c Q x nL A (qu V g1 j1 (va_cpy (V g0 j0) (V g1 j1) sp dp n)) Y cells slots (pc + 3) lo st) : G p l e R s m args below meth c Q x nL A V Y cells slots pc lo (.int i3 :: .int i2 :: .ref (qal x g1 j1) :: .int i1 :: .ref (qal x g0 j0) :: st) := by
  intro H locs ls hP hS hl
  subst hi1; subst hi2; subst hi3
  obtain ⟨q0, -, hq0⟩ := qw_at V Y hm0
  obtain ⟨q1, hk1, hq1⟩ := qw_at V Y hm1
  rw [he0] at hq0
  rw [he1] at hq1
  have e1 := nI_clamp (n := sp) (by omega)
  have e2 := nI_clamp (n := dp) (by omega)
  have e3 := nI_clamp (n := n) (by omega)
  refine va_copyi C.1 C.2.1 (C.2.2.1.trans hl.1.symm) C.2.2.2.1 (C.2.2.2.2.1 _ hlink) (C.2.2.2.2.1 _ hnat) (C.2.2.2.2.1 _ hst) (C.2.2.2.2.1 _ hini) C.2.2.2.2.2.1 hP ((qw_D C.2.2.2.2.2.2.1 V Y).weaken (fun _ _ _ h => hA _ h)) hS q0 q1 t0 t0 hq0 hq1 ht ht rfl (nI_pos (by omega)) (nI_pos (by omega)) (nI_pos (by omega)) (by rw [e1, e3]; exact h0) (by rw [e2, e3]; exact h1) (fun _ _ => rfl) hfr hlo hd (fun H1 locs1 hP1 _ hS1 => ?_)
  rw [e1, e2, e3, ← he1, qw_setV C.2.2.2.2.2.2.1 hk1] at hP1
  exact k H1 locs1 ls hP1 hS1 hl
end QM
end
