section
-- ===== PART A: goes FIRST, ahead of the names: the tables' words, and 'selects' of the private methods out of them =====
/-- a private method of a class that the tables say can be made, by its rows of tables_1 -/
def lw_okq (q : MethodName × Nat) : Prop := (q.1.cls ≠ "java/lang/invoke/MethodHandle" ∧ q.1.cls ≠ "java/lang/invoke/VarHandle") ∧ Cond.instantiable q.1.cls q.2 ∈ tables_1 ∧ Cond.privateMethod q.1 ∈ tables_1 ∧ Cond.instanceMethod q.1 ∈ tables_1
theorem lw_p0 : lw_okq (⟨"java/lang/Throwable", "fillInStackTrace", "(I)Ljava/lang/Throwable;"⟩, 6) := ⟨⟨by decide +kernel, by decide +kernel⟩, List.mem_of_getElem? (i := 295) (by decide +kernel), List.mem_of_getElem? (i := 293) (by decide +kernel), List.mem_of_getElem? (i := 294) (by decide +kernel)⟩
theorem lw_p1 : lw_okq (⟨"PriceHouse", "isBook", "(I)Z"⟩, 9) := ⟨⟨by decide +kernel, by decide +kernel⟩, List.mem_of_getElem? (i := 20) (by decide +kernel), List.mem_of_getElem? (i := 378) (by decide +kernel), List.mem_of_getElem? (i := 379) (by decide +kernel)⟩
theorem lw_p2 : lw_okq (⟨"PriceHouse", "checkLetter", "(I)V"⟩, 9) := ⟨⟨by decide +kernel, by decide +kernel⟩, List.mem_of_getElem? (i := 20) (by decide +kernel), List.mem_of_getElem? (i := 486) (by decide +kernel), List.mem_of_getElem? (i := 487) (by decide +kernel)⟩
theorem lw_p3 : lw_okq (⟨"PriceHouse", "bringToDesk", "(IIII)V"⟩, 9) := ⟨⟨by decide +kernel, by decide +kernel⟩, List.mem_of_getElem? (i := 20) (by decide +kernel), List.mem_of_getElem? (i := 518) (by decide +kernel), List.mem_of_getElem? (i := 519) (by decide +kernel)⟩
theorem lw_p4 : lw_okq (⟨"PriceHouse$Desk", "bookFor", "(LPriceHouse$Note;)I"⟩, 5) := ⟨⟨by decide +kernel, by decide +kernel⟩, List.mem_of_getElem? (i := 100) (by decide +kernel), List.mem_of_getElem? (i := 526) (by decide +kernel), List.mem_of_getElem? (i := 527) (by decide +kernel)⟩
theorem lw_p5 : lw_okq (⟨"PriceHouse", "checkOpenBasket", "(I)V"⟩, 9) := ⟨⟨by decide +kernel, by decide +kernel⟩, List.mem_of_getElem? (i := 20) (by decide +kernel), List.mem_of_getElem? (i := 586) (by decide +kernel), List.mem_of_getElem? (i := 587) (by decide +kernel)⟩
theorem lw_p6 : lw_okq (⟨"PriceHouse", "isBasket", "(I)Z"⟩, 9) := ⟨⟨by decide +kernel, by decide +kernel⟩, List.mem_of_getElem? (i := 20) (by decide +kernel), List.mem_of_getElem? (i := 590) (by decide +kernel), List.mem_of_getElem? (i := 591) (by decide +kernel)⟩
theorem lw_p7 : lw_okq (⟨"PriceHouse", "sells", "(II)Z"⟩, 9) := ⟨⟨by decide +kernel, by decide +kernel⟩, List.mem_of_getElem? (i := 20) (by decide +kernel), List.mem_of_getElem? (i := 609) (by decide +kernel), List.mem_of_getElem? (i := 610) (by decide +kernel)⟩
theorem lw_p8 : lw_okq (⟨"PriceHouseModel", "post", "(IIII)V"⟩, 30) := ⟨⟨by decide +kernel, by decide +kernel⟩, List.mem_of_getElem? (i := 656) (by decide +kernel), List.mem_of_getElem? (i := 774) (by decide +kernel), List.mem_of_getElem? (i := 775) (by decide +kernel)⟩
theorem lw_p9 : lw_okq (⟨"PriceHouseModel", "look", "()V"⟩, 30) := ⟨⟨by decide +kernel, by decide +kernel⟩, List.mem_of_getElem? (i := 656) (by decide +kernel), List.mem_of_getElem? (i := 782) (by decide +kernel), List.mem_of_getElem? (i := 783) (by decide +kernel)⟩
theorem lw_p10 : lw_okq (⟨"PriceHouseModel", "clock", "(I)I"⟩, 30) := ⟨⟨by decide +kernel, by decide +kernel⟩, List.mem_of_getElem? (i := 656) (by decide +kernel), List.mem_of_getElem? (i := 786) (by decide +kernel), List.mem_of_getElem? (i := 787) (by decide +kernel)⟩
theorem lw_p11 : lw_okq (⟨"PriceHouseModel", "free", "(I)Z"⟩, 30) := ⟨⟨by decide +kernel, by decide +kernel⟩, List.mem_of_getElem? (i := 656) (by decide +kernel), List.mem_of_getElem? (i := 790) (by decide +kernel), List.mem_of_getElem? (i := 791) (by decide +kernel)⟩
theorem lw_p12 : lw_okq (⟨"PriceHouseModel", "validLease", "(I)I"⟩, 30) := ⟨⟨by decide +kernel, by decide +kernel⟩, List.mem_of_getElem? (i := 656) (by decide +kernel), List.mem_of_getElem? (i := 826) (by decide +kernel), List.mem_of_getElem? (i := 827) (by decide +kernel)⟩
theorem lw_p13 : lw_okq (⟨"PriceHouseModel", "remove", "(I)V"⟩, 30) := ⟨⟨by decide +kernel, by decide +kernel⟩, List.mem_of_getElem? (i := 656) (by decide +kernel), List.mem_of_getElem? (i := 838) (by decide +kernel), List.mem_of_getElem? (i := 839) (by decide +kernel)⟩
theorem lw_p14 : lw_okq (⟨"PriceHouseModel", "comes", "(IIII)V"⟩, 30) := ⟨⟨by decide +kernel, by decide +kernel⟩, List.mem_of_getElem? (i := 656) (by decide +kernel), List.mem_of_getElem? (i := 842) (by decide +kernel), List.mem_of_getElem? (i := 843) (by decide +kernel)⟩
theorem lw_p15 : lw_okq (⟨"PriceHouseModel", "asked", "(II)V"⟩, 30) := ⟨⟨by decide +kernel, by decide +kernel⟩, List.mem_of_getElem? (i := 656) (by decide +kernel), List.mem_of_getElem? (i := 846) (by decide +kernel), List.mem_of_getElem? (i := 847) (by decide +kernel)⟩
def lw_privs_1 : List (MethodName × Nat) := [(⟨"java/lang/Throwable", "fillInStackTrace", "(I)Ljava/lang/Throwable;"⟩, 6), (⟨"PriceHouse", "isBook", "(I)Z"⟩, 9), (⟨"PriceHouse", "checkLetter", "(I)V"⟩, 9), (⟨"PriceHouse", "bringToDesk", "(IIII)V"⟩, 9), (⟨"PriceHouse$Desk", "bookFor", "(LPriceHouse$Note;)I"⟩, 5), (⟨"PriceHouse", "checkOpenBasket", "(I)V"⟩, 9), (⟨"PriceHouse", "isBasket", "(I)Z"⟩, 9), (⟨"PriceHouse", "sells", "(II)Z"⟩, 9), (⟨"PriceHouseModel", "post", "(IIII)V"⟩, 30), (⟨"PriceHouseModel", "look", "()V"⟩, 30), (⟨"PriceHouseModel", "clock", "(I)I"⟩, 30), (⟨"PriceHouseModel", "free", "(I)Z"⟩, 30), (⟨"PriceHouseModel", "validLease", "(I)I"⟩, 30), (⟨"PriceHouseModel", "remove", "(I)V"⟩, 30), (⟨"PriceHouseModel", "comes", "(IIII)V"⟩, 30), (⟨"PriceHouseModel", "asked", "(II)V"⟩, 30)]
theorem lw_r1 : ∀ q ∈ lw_privs_1, lw_okq q := List.forall_mem_cons.mpr ⟨lw_p0, List.forall_mem_cons.mpr ⟨lw_p1, List.forall_mem_cons.mpr ⟨lw_p2, List.forall_mem_cons.mpr ⟨lw_p3, List.forall_mem_cons.mpr ⟨lw_p4, List.forall_mem_cons.mpr ⟨lw_p5, List.forall_mem_cons.mpr ⟨lw_p6, List.forall_mem_cons.mpr ⟨lw_p7, List.forall_mem_cons.mpr ⟨lw_p8, List.forall_mem_cons.mpr ⟨lw_p9, List.forall_mem_cons.mpr ⟨lw_p10, List.forall_mem_cons.mpr ⟨lw_p11, List.forall_mem_cons.mpr ⟨lw_p12, List.forall_mem_cons.mpr ⟨lw_p13, List.forall_mem_cons.mpr ⟨lw_p14, List.forall_mem_cons.mpr ⟨lw_p15, fun _ h => absurd h List.not_mem_nil⟩⟩⟩⟩⟩⟩⟩⟩⟩⟩⟩⟩⟩⟩⟩⟩
theorem lw_p16 : lw_okq (⟨"PriceHouseModel", "noOpen", "(I)Z"⟩, 30) := ⟨⟨by decide +kernel, by decide +kernel⟩, List.mem_of_getElem? (i := 656) (by decide +kernel), List.mem_of_getElem? (i := 874) (by decide +kernel), List.mem_of_getElem? (i := 875) (by decide +kernel)⟩
theorem lw_p17 : lw_okq (⟨"PriceHouseModel", "cheapest", "(III)J"⟩, 30) := ⟨⟨by decide +kernel, by decide +kernel⟩, List.mem_of_getElem? (i := 656) (by decide +kernel), List.mem_of_getElem? (i := 882) (by decide +kernel), List.mem_of_getElem? (i := 883) (by decide +kernel)⟩
def lw_privs_2 : List (MethodName × Nat) := [(⟨"PriceHouseModel", "noOpen", "(I)Z"⟩, 30), (⟨"PriceHouseModel", "cheapest", "(III)J"⟩, 30)]
theorem lw_r2 : ∀ q ∈ lw_privs_2, lw_okq q := List.forall_mem_cons.mpr ⟨lw_p16, List.forall_mem_cons.mpr ⟨lw_p17, fun _ h => absurd h List.not_mem_nil⟩⟩
def lw_privs : List (MethodName × Nat) := lw_privs_1 ++ (lw_privs_2)
def lw_tbl : List Cond := k2_sels lw_privs ++ tables_1
theorem lw_privs_ok : ∀ q ∈ lw_privs, lw_okq q := by
  show ∀ q ∈ lw_privs_1 ++ (lw_privs_2), lw_okq q
  exact List.forall_mem_append.mpr ⟨lw_r1, lw_r2⟩
-- ===== end of PART A; then your names; then what follows =====
end
section
/-! names: of the class (B Basket, C Clock, D Desk, R LetterRow, N Note, L PriceList, T Till, H PriceHouse), the reference (M) and the law (W), by program out of the listing -/
def R_B : String := "PriceHouse$Basket"
def T_B : u_T := fun k => match k with
  | 0 => ("PriceHouse$Basket", "till", "I", false)
  | 1 => ("PriceHouse$Basket", "bookNumber", "I", false)
  | 2 => ("PriceHouse$Basket", "isOpen", "Z", false)
  | _ => ("PriceHouse$Basket", "pieces", "[I", true)
def ft_B : Nat → FieldType := fun k => match k with
  | 0 => .int
  | 1 => .int
  | 2 => .boolean
  | _ => .array .int
theorem n_B : ∀ a, a < 4 → ∀ b, b < 4 → a ≠ b → (T_B a).2.1 ≠ (T_B b).2.1 := by decide +kernel
theorem k_B : ∀ k, k < 4 → parseFieldDescriptor (T_B k).2.2.1 = some (ft_B k) := by decide +kernel
def R_C : String := "PriceHouse$Clock"
def T_C : u_T := fun k => match k with
  | 0 => ("PriceHouse$Clock", "hundredths", "I", false)
  | _ => ("PriceHouse$Clock", "perTick", "I", false)
def ft_C : Nat → FieldType := fun k => match k with
  | 0 => .int
  | _ => .int
theorem n_C : ∀ a, a < 2 → ∀ b, b < 2 → a ≠ b → (T_C a).2.1 ≠ (T_C b).2.1 := by decide +kernel
theorem k_C : ∀ k, k < 2 → parseFieldDescriptor (T_C k).2.2.1 = some (ft_C k) := by decide +kernel
def R_D : String := "PriceHouse$Desk"
def T_D : u_T := fun k => match k with
  | 0 => ("PriceHouse$Desk", "clock", "LPriceHouse$Clock;", true)
  | 1 => ("PriceHouse$Desk", "notes", "[LPriceHouse$Note;", true)
  | 2 => ("PriceHouse$Desk", "activeBook", "I", false)
  | 3 => ("PriceHouse$Desk", "changeTo", "I", false)
  | _ => ("PriceHouse$Desk", "waitsUntil", "I", false)
def ft_D : Nat → FieldType := fun k => match k with
  | 0 => .object "PriceHouse$Clock"
  | 1 => .array (.object "PriceHouse$Note")
  | 2 => .int
  | 3 => .int
  | _ => .int
theorem n_D : ∀ a, a < 5 → ∀ b, b < 5 → a ≠ b → (T_D a).2.1 ≠ (T_D b).2.1 := by decide +kernel
theorem k_D : ∀ k, k < 5 → parseFieldDescriptor (T_D k).2.2.1 = some (ft_D k) := by decide +kernel
def R_R : String := "PriceHouse$LetterRow"
def T_R : u_T := fun k => match k with
  | 0 => ("PriceHouse$LetterRow", "kinds", "[I", true)
  | 1 => ("PriceHouse$LetterRow", "tills", "[I", true)
  | 2 => ("PriceHouse$LetterRow", "books", "[I", true)
  | 3 => ("PriceHouse$LetterRow", "askings", "[I", true)
  | _ => ("PriceHouse$LetterRow", "count", "I", false)
def ft_R : Nat → FieldType := fun k => match k with
  | 0 => .array .int
  | 1 => .array .int
  | 2 => .array .int
  | 3 => .array .int
  | _ => .int
theorem n_R : ∀ a, a < 5 → ∀ b, b < 5 → a ≠ b → (T_R a).2.1 ≠ (T_R b).2.1 := by decide +kernel
theorem k_R : ∀ k, k < 5 → parseFieldDescriptor (T_R k).2.2.1 = some (ft_R k) := by decide +kernel
def R_N : String := "PriceHouse$Note"
def T_N : u_T := fun k => match k with
  | 0 => ("PriceHouse$Note", "knownReady", "I", false)
  | 1 => ("PriceHouse$Note", "lastAsking", "I", false)
  | 2 => ("PriceHouse$Note", "grantedBook", "I", false)
  | 3 => ("PriceHouse$Note", "grantedAt", "I", false)
  | _ => ("PriceHouse$Note", "holds", "Z", false)
def ft_N : Nat → FieldType := fun k => match k with
  | 0 => .int
  | 1 => .int
  | 2 => .int
  | 3 => .int
  | _ => .boolean
theorem n_N : ∀ a, a < 5 → ∀ b, b < 5 → a ≠ b → (T_N a).2.1 ≠ (T_N b).2.1 := by decide +kernel
theorem k_N : ∀ k, k < 5 → parseFieldDescriptor (T_N k).2.2.1 = some (ft_N k) := by decide +kernel
def R_L : String := "PriceHouse$PriceList"
def T_L : u_T := fun k => match k with
  | 0 => ("PriceHouse$PriceList", "prices", "[I", true)
  | 1 => ("PriceHouse$PriceList", "sizes", "[I", true)
  | _ => ("PriceHouse$PriceList", "costs", "[I", true)
def ft_L : Nat → FieldType := fun k => match k with
  | 0 => .array .int
  | 1 => .array .int
  | _ => .array .int
theorem n_L : ∀ a, a < 3 → ∀ b, b < 3 → a ≠ b → (T_L a).2.1 ≠ (T_L b).2.1 := by decide +kernel
theorem k_L : ∀ k, k < 3 → parseFieldDescriptor (T_L k).2.2.1 = some (ft_L k) := by decide +kernel
def R_T : String := "PriceHouse$Till"
def T_T : u_T := fun k => match k with
  | 0 => ("PriceHouse$Till", "clock", "LPriceHouse$Clock;", true)
  | 1 => ("PriceHouse$Till", "bookCount", "I", false)
  | 2 => ("PriceHouse$Till", "readyFor", "I", false)
  | 3 => ("PriceHouse$Till", "asking", "I", false)
  | 4 => ("PriceHouse$Till", "askedAt", "I", false)
  | 5 => ("PriceHouse$Till", "gaveUp", "Z", false)
  | 6 => ("PriceHouse$Till", "leasedBook", "I", false)
  | _ => ("PriceHouse$Till", "openBaskets", "I", false)
def ft_T : Nat → FieldType := fun k => match k with
  | 0 => .object "PriceHouse$Clock"
  | 1 => .int
  | 2 => .int
  | 3 => .int
  | 4 => .int
  | 5 => .boolean
  | 6 => .int
  | _ => .int
theorem n_T : ∀ a, a < 8 → ∀ b, b < 8 → a ≠ b → (T_T a).2.1 ≠ (T_T b).2.1 := by decide +kernel
theorem k_T : ∀ k, k < 8 → parseFieldDescriptor (T_T k).2.2.1 = some (ft_T k) := by decide +kernel
def R_H : String := "PriceHouse"
def T_H : u_T := fun k => match k with
  | 0 => ("PriceHouse", "draft", "LPriceHouse$PriceList;", true)
  | 1 => ("PriceHouse", "books", "[LPriceHouse$PriceList;", true)
  | 2 => ("PriceHouse", "published", "I", false)
  | 3 => ("PriceHouse", "tills", "[LPriceHouse$Till;", true)
  | 4 => ("PriceHouse", "desk", "LPriceHouse$Desk;", true)
  | 5 => ("PriceHouse", "row", "LPriceHouse$LetterRow;", true)
  | 6 => ("PriceHouse", "baskets", "[LPriceHouse$Basket;", true)
  | 7 => ("PriceHouse", "basketCount", "I", false)
  | _ => ("PriceHouse", "leastRow", "[J", true)
def ft_H : Nat → FieldType := fun k => match k with
  | 0 => .object "PriceHouse$PriceList"
  | 1 => .array (.object "PriceHouse$PriceList")
  | 2 => .int
  | 3 => .array (.object "PriceHouse$Till")
  | 4 => .object "PriceHouse$Desk"
  | 5 => .object "PriceHouse$LetterRow"
  | 6 => .array (.object "PriceHouse$Basket")
  | 7 => .int
  | _ => .array .long
theorem n_H : ∀ a, a < 9 → ∀ b, b < 9 → a ≠ b → (T_H a).2.1 ≠ (T_H b).2.1 := by decide +kernel
theorem k_H : ∀ k, k < 9 → parseFieldDescriptor (T_H k).2.2.1 = some (ft_H k) := by decide +kernel
def R_M : String := "PriceHouseModel"
def T_M : u_T := fun k => match k with
  | 0 => ("PriceHouseModel", "thrownCode", "I", false)
  | 1 => ("PriceHouseModel", "books", "I", false)
  | 2 => ("PriceHouseModel", "prices", "[I", true)
  | 3 => ("PriceHouseModel", "pieces", "[I", true)
  | 4 => ("PriceHouseModel", "cents", "[I", true)
  | 5 => ("PriceHouseModel", "hundredths", "[I", true)
  | 6 => ("PriceHouseModel", "rates", "[I", true)
  | 7 => ("PriceHouseModel", "has", "[I", true)
  | 8 => ("PriceHouseModel", "isReady", "[I", true)
  | 9 => ("PriceHouseModel", "askings", "[I", true)
  | 10 => ("PriceHouseModel", "given", "[Z", true)
  | 11 => ("PriceHouseModel", "askedAt", "[I", true)
  | 12 => ("PriceHouseModel", "leaseOf", "[I", true)
  | 13 => ("PriceHouseModel", "activeBook", "I", false)
  | 14 => ("PriceHouseModel", "change", "I", false)
  | 15 => ("PriceHouseModel", "waits", "Z", false)
  | 16 => ("PriceHouseModel", "waitsTo", "I", false)
  | 17 => ("PriceHouseModel", "noted", "[I", true)
  | 18 => ("PriceHouseModel", "holds", "[Z", true)
  | 19 => ("PriceHouseModel", "notedBook", "[I", true)
  | 20 => ("PriceHouseModel", "notedAt", "[I", true)
  | 21 => ("PriceHouseModel", "knownReady", "[I", true)
  | 22 => ("PriceHouseModel", "letters", "I", false)
  | 23 => ("PriceHouseModel", "row", "[I", true)
  | 24 => ("PriceHouseModel", "baskets", "I", false)
  | 25 => ("PriceHouseModel", "basketTill", "[I", true)
  | 26 => ("PriceHouseModel", "basketBook", "[I", true)
  | 27 => ("PriceHouseModel", "isOpen", "[Z", true)
  | 28 => ("PriceHouseModel", "count", "[I", true)
  | _ => ("PriceHouseModel", "least", "[J", true)
def ft_M : Nat → FieldType := fun k => match k with
  | 0 => .int
  | 1 => .int
  | 2 => .array .int
  | 3 => .array .int
  | 4 => .array .int
  | 5 => .array .int
  | 6 => .array .int
  | 7 => .array .int
  | 8 => .array .int
  | 9 => .array .int
  | 10 => .array .boolean
  | 11 => .array .int
  | 12 => .array .int
  | 13 => .int
  | 14 => .int
  | 15 => .boolean
  | 16 => .int
  | 17 => .array .int
  | 18 => .array .boolean
  | 19 => .array .int
  | 20 => .array .int
  | 21 => .array .int
  | 22 => .int
  | 23 => .array .int
  | 24 => .int
  | 25 => .array .int
  | 26 => .array .int
  | 27 => .array .boolean
  | 28 => .array .int
  | _ => .array .long
theorem n_M : ∀ a, a < 30 → ∀ b, b < 30 → a ≠ b → (T_M a).2.1 ≠ (T_M b).2.1 := by decide +kernel
theorem k_M : ∀ k, k < 30 → parseFieldDescriptor (T_M k).2.2.1 = some (ft_M k) := by decide +kernel
def R_W : String := "PriceHouseLaw"
abbrev qCl : List vw_C := [(R_B, T_B, 4), (R_C, T_C, 2), (R_D, T_D, 5), (R_R, T_R, 5), (R_N, T_N, 5), (R_L, T_L, 3), (R_T, T_T, 8), (R_H, T_H, 9), (R_M, T_M, 30)]
abbrev b_H_init : ByteArray := prog_1_method_1_code
abbrev y_H_init : MethodName := ⟨"PriceHouse", "<init>", "()V"⟩
abbrev b_H_article : ByteArray := prog_1_method_2_code
abbrev y_H_article : MethodName := ⟨"PriceHouse", "article", "(II)V"⟩
abbrev b_H_bundle : ByteArray := prog_1_method_3_code
abbrev y_H_bundle : MethodName := ⟨"PriceHouse", "bundle", "(IIII)V"⟩
abbrev b_H_publish : ByteArray := prog_1_method_4_code
abbrev y_H_publish : MethodName := ⟨"PriceHouse", "publish", "()I"⟩
abbrev b_H_price : ByteArray := prog_1_method_5_code
abbrev y_H_price : MethodName := ⟨"PriceHouse", "price", "(II)I"⟩
abbrev b_H_activate : ByteArray := prog_1_method_6_code
abbrev y_H_activate : MethodName := ⟨"PriceHouse", "activate", "(I)V"⟩
abbrev b_H_active : ByteArray := prog_1_method_7_code
abbrev y_H_active : MethodName := ⟨"PriceHouse", "active", "()I"⟩
abbrev b_H_tick : ByteArray := prog_1_method_8_code
abbrev y_H_tick : MethodName := ⟨"PriceHouse", "tick", "(I)I"⟩
abbrev b_H_rate : ByteArray := prog_1_method_9_code
abbrev y_H_rate : MethodName := ⟨"PriceHouse", "rate", "(II)V"⟩
abbrev b_H_fetch : ByteArray := prog_1_method_10_code
abbrev y_H_fetch : MethodName := ⟨"PriceHouse", "fetch", "(I)I"⟩
abbrev b_H_ready : ByteArray := prog_1_method_11_code
abbrev y_H_ready : MethodName := ⟨"PriceHouse", "ready", "(I)I"⟩
abbrev b_H_ask : ByteArray := prog_1_method_12_code
abbrev y_H_ask : MethodName := ⟨"PriceHouse", "ask", "(I)I"⟩
abbrev b_H_giveUp : ByteArray := prog_1_method_13_code
abbrev y_H_giveUp : MethodName := ⟨"PriceHouse", "giveUp", "(I)V"⟩
abbrev b_H_lease : ByteArray := prog_1_method_14_code
abbrev y_H_lease : MethodName := ⟨"PriceHouse", "lease", "(I)I"⟩
abbrev b_H_loaded : ByteArray := prog_1_method_15_code
abbrev y_H_loaded : MethodName := ⟨"PriceHouse", "loaded", "(I)I"⟩
abbrev b_H_restart : ByteArray := prog_1_method_16_code
abbrev y_H_restart : MethodName := ⟨"PriceHouse", "restart", "(I)V"⟩
abbrev b_H_deliver : ByteArray := prog_1_method_17_code
abbrev y_H_deliver : MethodName := ⟨"PriceHouse", "deliver", "(I)V"⟩
abbrev b_H_lose : ByteArray := prog_1_method_18_code
abbrev y_H_lose : MethodName := ⟨"PriceHouse", "lose", "(I)V"⟩
abbrev b_H_twin : ByteArray := prog_1_method_19_code
abbrev y_H_twin : MethodName := ⟨"PriceHouse", "twin", "(I)V"⟩
abbrev b_H_letter : ByteArray := prog_1_method_20_code
abbrev y_H_letter : MethodName := ⟨"PriceHouse", "letter", "(II)I"⟩
abbrev b_H_letters : ByteArray := prog_1_method_21_code
abbrev y_H_letters : MethodName := ⟨"PriceHouse", "letters", "()I"⟩
abbrev b_H_open : ByteArray := prog_1_method_22_code
abbrev y_H_open : MethodName := ⟨"PriceHouse", "open", "(I)I"⟩
abbrev b_H_scan : ByteArray := prog_1_method_23_code
abbrev y_H_scan : MethodName := ⟨"PriceHouse", "scan", "(III)I"⟩
abbrev b_H_pay : ByteArray := prog_1_method_24_code
abbrev y_H_pay : MethodName := ⟨"PriceHouse", "pay", "(I)J"⟩
abbrev b_H_book : ByteArray := prog_1_method_25_code
abbrev y_H_book : MethodName := ⟨"PriceHouse", "book", "(I)I"⟩
abbrev b_H_isArticle : ByteArray := prog_1_method_26_code
abbrev y_H_isArticle : MethodName := ⟨"PriceHouse", "isArticle", "(I)Z"⟩
abbrev b_H_isSlot : ByteArray := prog_1_method_27_code
abbrev y_H_isSlot : MethodName := ⟨"PriceHouse", "isSlot", "(I)Z"⟩
abbrev b_H_isBundleSize : ByteArray := prog_1_method_28_code
abbrev y_H_isBundleSize : MethodName := ⟨"PriceHouse", "isBundleSize", "(I)Z"⟩
abbrev b_H_isAmount : ByteArray := prog_1_method_29_code
abbrev y_H_isAmount : MethodName := ⟨"PriceHouse", "isAmount", "(I)Z"⟩
abbrev b_H_isTillOrDesk : ByteArray := prog_1_method_30_code
abbrev y_H_isTillOrDesk : MethodName := ⟨"PriceHouse", "isTillOrDesk", "(I)Z"⟩
abbrev b_H_isBook : ByteArray := prog_1_method_31_code
abbrev y_H_isBook : MethodName := ⟨"PriceHouse", "isBook", "(I)Z"⟩
abbrev b_H_isBasket : ByteArray := prog_1_method_32_code
abbrev y_H_isBasket : MethodName := ⟨"PriceHouse", "isBasket", "(I)Z"⟩
abbrev b_H_sells : ByteArray := prog_1_method_33_code
abbrev y_H_sells : MethodName := ⟨"PriceHouse", "sells", "(II)Z"⟩
abbrev b_H_checkTill : ByteArray := prog_1_method_34_code
abbrev y_H_checkTill : MethodName := ⟨"PriceHouse", "checkTill", "(I)V"⟩
abbrev b_H_checkLetter : ByteArray := prog_1_method_35_code
abbrev y_H_checkLetter : MethodName := ⟨"PriceHouse", "checkLetter", "(I)V"⟩
abbrev b_H_checkOpenBasket : ByteArray := prog_1_method_36_code
abbrev y_H_checkOpenBasket : MethodName := ⟨"PriceHouse", "checkOpenBasket", "(I)V"⟩
abbrev b_H_bringToDesk : ByteArray := prog_1_method_37_code
abbrev y_H_bringToDesk : MethodName := ⟨"PriceHouse", "bringToDesk", "(IIII)V"⟩
abbrev b_M_init : ByteArray := prog_10_method_1_code
abbrev y_M_init : MethodName := ⟨"PriceHouseModel", "<init>", "()V"⟩
abbrev b_M_clock : ByteArray := prog_10_method_2_code
abbrev y_M_clock : MethodName := ⟨"PriceHouseModel", "clock", "(I)I"⟩
abbrev b_M_post : ByteArray := prog_10_method_3_code
abbrev y_M_post : MethodName := ⟨"PriceHouseModel", "post", "(IIII)V"⟩
abbrev b_M_remove : ByteArray := prog_10_method_4_code
abbrev y_M_remove : MethodName := ⟨"PriceHouseModel", "remove", "(I)V"⟩
abbrev b_M_free : ByteArray := prog_10_method_5_code
abbrev y_M_free : MethodName := ⟨"PriceHouseModel", "free", "(I)Z"⟩
abbrev b_M_look : ByteArray := prog_10_method_6_code
abbrev y_M_look : MethodName := ⟨"PriceHouseModel", "look", "()V"⟩
abbrev b_M_asked : ByteArray := prog_10_method_7_code
abbrev y_M_asked : MethodName := ⟨"PriceHouseModel", "asked", "(II)V"⟩
abbrev b_M_comes : ByteArray := prog_10_method_8_code
abbrev y_M_comes : MethodName := ⟨"PriceHouseModel", "comes", "(IIII)V"⟩
abbrev b_M_validLease : ByteArray := prog_10_method_9_code
abbrev y_M_validLease : MethodName := ⟨"PriceHouseModel", "validLease", "(I)I"⟩
abbrev b_M_thrown : ByteArray := prog_10_method_10_code
abbrev y_M_thrown : MethodName := ⟨"PriceHouseModel", "thrown", "()I"⟩
abbrev b_M_not : ByteArray := prog_10_method_11_code
abbrev y_M_not : MethodName := ⟨"PriceHouseModel", "not", "(II)Z"⟩
abbrev b_M_article : ByteArray := prog_10_method_12_code
abbrev y_M_article : MethodName := ⟨"PriceHouseModel", "article", "(II)V"⟩
abbrev b_M_bundle : ByteArray := prog_10_method_13_code
abbrev y_M_bundle : MethodName := ⟨"PriceHouseModel", "bundle", "(IIII)V"⟩
abbrev b_M_publish : ByteArray := prog_10_method_14_code
abbrev y_M_publish : MethodName := ⟨"PriceHouseModel", "publish", "()I"⟩
abbrev b_M_activate : ByteArray := prog_10_method_15_code
abbrev y_M_activate : MethodName := ⟨"PriceHouseModel", "activate", "(I)V"⟩
abbrev b_M_active : ByteArray := prog_10_method_16_code
abbrev y_M_active : MethodName := ⟨"PriceHouseModel", "active", "()I"⟩
abbrev b_M_tick : ByteArray := prog_10_method_17_code
abbrev y_M_tick : MethodName := ⟨"PriceHouseModel", "tick", "(I)I"⟩
abbrev b_M_rate : ByteArray := prog_10_method_18_code
abbrev y_M_rate : MethodName := ⟨"PriceHouseModel", "rate", "(II)V"⟩
abbrev b_M_fetch : ByteArray := prog_10_method_19_code
abbrev y_M_fetch : MethodName := ⟨"PriceHouseModel", "fetch", "(I)I"⟩
abbrev b_M_ready : ByteArray := prog_10_method_20_code
abbrev y_M_ready : MethodName := ⟨"PriceHouseModel", "ready", "(I)I"⟩
abbrev b_M_ask : ByteArray := prog_10_method_21_code
abbrev y_M_ask : MethodName := ⟨"PriceHouseModel", "ask", "(I)I"⟩
abbrev b_M_giveUp : ByteArray := prog_10_method_22_code
abbrev y_M_giveUp : MethodName := ⟨"PriceHouseModel", "giveUp", "(I)V"⟩
abbrev b_M_lease : ByteArray := prog_10_method_23_code
abbrev y_M_lease : MethodName := ⟨"PriceHouseModel", "lease", "(I)I"⟩
abbrev b_M_loaded : ByteArray := prog_10_method_24_code
abbrev y_M_loaded : MethodName := ⟨"PriceHouseModel", "loaded", "(I)I"⟩
abbrev b_M_deliver : ByteArray := prog_10_method_25_code
abbrev y_M_deliver : MethodName := ⟨"PriceHouseModel", "deliver", "(I)V"⟩
abbrev b_M_lose : ByteArray := prog_10_method_26_code
abbrev y_M_lose : MethodName := ⟨"PriceHouseModel", "lose", "(I)V"⟩
abbrev b_M_twin : ByteArray := prog_10_method_27_code
abbrev y_M_twin : MethodName := ⟨"PriceHouseModel", "twin", "(I)V"⟩
abbrev b_M_letter : ByteArray := prog_10_method_28_code
abbrev y_M_letter : MethodName := ⟨"PriceHouseModel", "letter", "(II)I"⟩
abbrev b_M_letters : ByteArray := prog_10_method_29_code
abbrev y_M_letters : MethodName := ⟨"PriceHouseModel", "letters", "()I"⟩
abbrev b_M_open : ByteArray := prog_10_method_30_code
abbrev y_M_open : MethodName := ⟨"PriceHouseModel", "open", "(I)I"⟩
abbrev b_M_noOpen : ByteArray := prog_10_method_31_code
abbrev y_M_noOpen : MethodName := ⟨"PriceHouseModel", "noOpen", "(I)Z"⟩
abbrev b_M_scan : ByteArray := prog_10_method_32_code
abbrev y_M_scan : MethodName := ⟨"PriceHouseModel", "scan", "(III)I"⟩
abbrev b_M_cheapest : ByteArray := prog_10_method_33_code
abbrev y_M_cheapest : MethodName := ⟨"PriceHouseModel", "cheapest", "(III)J"⟩
abbrev b_M_pay : ByteArray := prog_10_method_34_code
abbrev y_M_pay : MethodName := ⟨"PriceHouseModel", "pay", "(I)J"⟩
abbrev b_M_book : ByteArray := prog_10_method_35_code
abbrev y_M_book : MethodName := ⟨"PriceHouseModel", "book", "(I)I"⟩
abbrev b_M_price : ByteArray := prog_10_method_36_code
abbrev y_M_price : MethodName := ⟨"PriceHouseModel", "price", "(II)I"⟩
abbrev b_M_restart : ByteArray := prog_10_method_37_code
abbrev y_M_restart : MethodName := ⟨"PriceHouseModel", "restart", "(I)V"⟩
abbrev b_B_init : ByteArray := prog_2_method_1_code
abbrev y_B_init : MethodName := ⟨"PriceHouse$Basket", "<init>", "()V"⟩
abbrev b_B_begin : ByteArray := prog_2_method_2_code
abbrev y_B_begin : MethodName := ⟨"PriceHouse$Basket", "begin", "(II)V"⟩
abbrev b_C_init : ByteArray := prog_3_method_1_code
abbrev y_C_init : MethodName := ⟨"PriceHouse$Clock", "<init>", "()V"⟩
abbrev b_C_go : ByteArray := prog_3_method_2_code
abbrev y_C_go : MethodName := ⟨"PriceHouse$Clock", "go", "(I)V"⟩
abbrev b_C_shown : ByteArray := prog_3_method_3_code
abbrev y_C_shown : MethodName := ⟨"PriceHouse$Clock", "shown", "()I"⟩
abbrev b_D_init : ByteArray := prog_4_method_1_code
abbrev y_D_init : MethodName := ⟨"PriceHouse$Desk", "<init>", "()V"⟩
abbrev b_D_waits : ByteArray := prog_4_method_2_code
abbrev y_D_waits : MethodName := ⟨"PriceHouse$Desk", "waits", "()Z"⟩
abbrev b_D_forgetAndWait : ByteArray := prog_4_method_3_code
abbrev y_D_forgetAndWait : MethodName := ⟨"PriceHouse$Desk", "forgetAndWait", "()V"⟩
abbrev b_D_grant : ByteArray := prog_4_method_4_code
abbrev y_D_grant : MethodName := ⟨"PriceHouse$Desk", "grant", "(II)I"⟩
abbrev b_D_bookFor : ByteArray := prog_4_method_5_code
abbrev y_D_bookFor : MethodName := ⟨"PriceHouse$Desk", "bookFor", "(LPriceHouse$Note;)I"⟩
abbrev b_D_lookAtChange : ByteArray := prog_4_method_6_code
abbrev y_D_lookAtChange : MethodName := ⟨"PriceHouse$Desk", "lookAtChange", "()V"⟩
abbrev b_R_init : ByteArray := prog_5_method_1_code
abbrev y_R_init : MethodName := ⟨"PriceHouse$LetterRow", "<init>", "()V"⟩
abbrev b_R_isFull : ByteArray := prog_5_method_2_code
abbrev y_R_isFull : MethodName := ⟨"PriceHouse$LetterRow", "isFull", "()Z"⟩
abbrev b_R_post : ByteArray := prog_5_method_3_code
abbrev y_R_post : MethodName := ⟨"PriceHouse$LetterRow", "post", "(IIII)V"⟩
abbrev b_R_takeOut : ByteArray := prog_5_method_4_code
abbrev y_R_takeOut : MethodName := ⟨"PriceHouse$LetterRow", "takeOut", "(I)V"⟩
abbrev b_N_init : ByteArray := prog_6_method_1_code
abbrev y_N_init : MethodName := ⟨"PriceHouse$Note", "<init>", "()V"⟩
abbrev b_N_forget : ByteArray := prog_6_method_2_code
abbrev y_N_forget : MethodName := ⟨"PriceHouse$Note", "forget", "()V"⟩
abbrev b_N_noteReady : ByteArray := prog_6_method_3_code
abbrev y_N_noteReady : MethodName := ⟨"PriceHouse$Note", "noteReady", "(I)V"⟩
abbrev b_N_noteGrant : ByteArray := prog_6_method_4_code
abbrev y_N_noteGrant : MethodName := ⟨"PriceHouse$Note", "noteGrant", "(III)V"⟩
abbrev b_N_noteGiven : ByteArray := prog_6_method_5_code
abbrev y_N_noteGiven : MethodName := ⟨"PriceHouse$Note", "noteGiven", "(I)V"⟩
abbrev b_N_allows : ByteArray := prog_6_method_6_code
abbrev y_N_allows : MethodName := ⟨"PriceHouse$Note", "allows", "(II)Z"⟩
abbrev b_L_init : ByteArray := prog_7_method_1_code
abbrev y_L_init : MethodName := ⟨"PriceHouse$PriceList", "<init>", "()V"⟩
abbrev b_L_copyFrom : ByteArray := prog_7_method_2_code
abbrev y_L_copyFrom : MethodName := ⟨"PriceHouse$PriceList", "copyFrom", "(LPriceHouse$PriceList;)V"⟩
abbrev b_L_leastFor : ByteArray := prog_7_method_3_code
abbrev y_L_leastFor : MethodName := ⟨"PriceHouse$PriceList", "leastFor", "(II[J)J"⟩
abbrev b_T_init : ByteArray := prog_8_method_1_code
abbrev y_T_init : MethodName := ⟨"PriceHouse$Till", "<init>", "()V"⟩
abbrev b_T_takeBook : ByteArray := prog_8_method_2_code
abbrev y_T_takeBook : MethodName := ⟨"PriceHouse$Till", "takeBook", "(I)V"⟩
abbrev b_T_beginAsking : ByteArray := prog_8_method_3_code
abbrev y_T_beginAsking : MethodName := ⟨"PriceHouse$Till", "beginAsking", "()I"⟩
abbrev b_T_endAsking : ByteArray := prog_8_method_4_code
abbrev y_T_endAsking : MethodName := ⟨"PriceHouse$Till", "endAsking", "()V"⟩
abbrev b_T_takeGrant : ByteArray := prog_8_method_5_code
abbrev y_T_takeGrant : MethodName := ⟨"PriceHouse$Till", "takeGrant", "(II)V"⟩
abbrev b_T_validLease : ByteArray := prog_8_method_6_code
abbrev y_T_validLease : MethodName := ⟨"PriceHouse$Till", "validLease", "()I"⟩
abbrev b_W_article : ByteArray := method_3_code
abbrev y_W_article : MethodName := ⟨"PriceHouseLaw", "article", "(LPriceHouse;II)I"⟩
abbrev b_W_bundle : ByteArray := method_4_code
abbrev y_W_bundle : MethodName := ⟨"PriceHouseLaw", "bundle", "(LPriceHouse;IIII)I"⟩
abbrev b_W_publish : ByteArray := method_5_code
abbrev y_W_publish : MethodName := ⟨"PriceHouseLaw", "publish", "(LPriceHouse;[J)I"⟩
abbrev b_W_activate : ByteArray := method_6_code
abbrev y_W_activate : MethodName := ⟨"PriceHouseLaw", "activate", "(LPriceHouse;I)I"⟩
abbrev b_W_tick : ByteArray := method_7_code
abbrev y_W_tick : MethodName := ⟨"PriceHouseLaw", "tick", "(LPriceHouse;I[J)I"⟩
abbrev b_W_rate : ByteArray := method_8_code
abbrev y_W_rate : MethodName := ⟨"PriceHouseLaw", "rate", "(LPriceHouse;II)I"⟩
abbrev b_W_fetch : ByteArray := method_9_code
abbrev y_W_fetch : MethodName := ⟨"PriceHouseLaw", "fetch", "(LPriceHouse;I[J)I"⟩
abbrev b_W_ready : ByteArray := method_10_code
abbrev y_W_ready : MethodName := ⟨"PriceHouseLaw", "ready", "(LPriceHouse;I[J)I"⟩
abbrev b_W_ask : ByteArray := method_11_code
abbrev y_W_ask : MethodName := ⟨"PriceHouseLaw", "ask", "(LPriceHouse;I[J)I"⟩
abbrev b_W_giveUp : ByteArray := method_12_code
abbrev y_W_giveUp : MethodName := ⟨"PriceHouseLaw", "giveUp", "(LPriceHouse;I)I"⟩
abbrev b_W_lease : ByteArray := method_13_code
abbrev y_W_lease : MethodName := ⟨"PriceHouseLaw", "lease", "(LPriceHouse;I[J)I"⟩
abbrev b_W_loaded : ByteArray := method_14_code
abbrev y_W_loaded : MethodName := ⟨"PriceHouseLaw", "loaded", "(LPriceHouse;I[J)I"⟩
abbrev b_W_deliver : ByteArray := method_15_code
abbrev y_W_deliver : MethodName := ⟨"PriceHouseLaw", "deliver", "(LPriceHouse;I)I"⟩
abbrev b_W_lose : ByteArray := method_16_code
abbrev y_W_lose : MethodName := ⟨"PriceHouseLaw", "lose", "(LPriceHouse;I)I"⟩
abbrev b_W_twin : ByteArray := method_17_code
abbrev y_W_twin : MethodName := ⟨"PriceHouseLaw", "twin", "(LPriceHouse;I)I"⟩
abbrev b_W_letter : ByteArray := method_18_code
abbrev y_W_letter : MethodName := ⟨"PriceHouseLaw", "letter", "(LPriceHouse;II[J)I"⟩
abbrev b_W_open : ByteArray := method_19_code
abbrev y_W_open : MethodName := ⟨"PriceHouseLaw", "open", "(LPriceHouse;I[J)I"⟩
abbrev b_W_scan : ByteArray := method_20_code
abbrev y_W_scan : MethodName := ⟨"PriceHouseLaw", "scan", "(LPriceHouse;III[J)I"⟩
abbrev b_W_pay : ByteArray := method_21_code
abbrev y_W_pay : MethodName := ⟨"PriceHouseLaw", "pay", "(LPriceHouse;I[J)I"⟩
abbrev b_W_book : ByteArray := method_22_code
abbrev y_W_book : MethodName := ⟨"PriceHouseLaw", "book", "(LPriceHouse;I[J)I"⟩
abbrev b_W_price : ByteArray := method_23_code
abbrev y_W_price : MethodName := ⟨"PriceHouseLaw", "price", "(LPriceHouse;II[J)I"⟩
abbrev b_W_restart : ByteArray := method_24_code
abbrev y_W_restart : MethodName := ⟨"PriceHouseLaw", "restart", "(LPriceHouse;I)I"⟩
/-! the tables' words that hold at every later state too -/
def qgw : Cond → Bool
  | .castable _ _ => true
  | .not (.castable _ _) => true
  | .declares _ => true
  | w => goodWord w
def qNo : List Cond := [.not (.castable "java/lang/IllegalArgumentException" "java/lang/IllegalStateException"), .not (.castable "java/lang/IllegalArgumentException" "java/lang/IndexOutOfBoundsException"), .not (.castable "java/lang/IllegalArgumentException" "java/util/NoSuchElementException"), .not (.castable "java/lang/IllegalStateException" "java/lang/IllegalArgumentException"), .not (.castable "java/lang/IllegalStateException" "java/lang/IndexOutOfBoundsException"), .not (.castable "java/lang/IllegalStateException" "java/util/NoSuchElementException"), .not (.castable "java/lang/IndexOutOfBoundsException" "java/lang/IllegalArgumentException"), .not (.castable "java/lang/IndexOutOfBoundsException" "java/lang/IllegalStateException"), .not (.castable "java/lang/IndexOutOfBoundsException" "java/util/NoSuchElementException"), .not (.castable "java/util/NoSuchElementException" "java/lang/IllegalArgumentException"), .not (.castable "java/util/NoSuchElementException" "java/lang/IllegalStateException"), .not (.castable "java/util/NoSuchElementException" "java/lang/IndexOutOfBoundsException")]
def QT : List Cond := lw_tbl.filter qgw ++ qNo
theorem q_in {w : Cond} (i : Nat) (h : tables_1[i]? = some w) (hg : qgw w = true) : w ∈ QT := List.mem_append_left _ (List.mem_filter.mpr ⟨List.mem_append_right _ (List.mem_of_getElem? h), hg⟩)
theorem q_sel {w : Cond} (i : Nat) (h : (k2_sels lw_privs)[i]? = some w) (hg : qgw w = true) : w ∈ QT := List.mem_append_left _ (List.mem_filter.mpr ⟨List.mem_append_left _ (List.mem_of_getElem? h), hg⟩)
theorem q_no {w : Cond} (i : Nat) (h : qNo[i]? = some w) : w ∈ QT := List.mem_append_right _ (List.mem_of_getElem? h)
theorem QT_qgw : ∀ w ∈ QT, qgw w = true := fun w h => (List.mem_append.mp h).elim (fun h => (List.mem_filter.mp h).2) (fun h => List.all_eq_true.mp (by decide +kernel : qNo.all qgw = true) w h)
theorem qgw_at {args a' : Array Value} {s U : State} (hW : s.WarmedH U.vm) {c : Cond} (hg : qgw c = true) (h : c.before args s = true) : c.before a' U = true := by
  unfold qgw at hg
  split at hg
  · simp only [Cond.before, Cond.holds, Cond.value, hW.alike.findClass, hW.alike.assignable] at h ⊢
    exact h
  · simp only [Cond.before, Cond.holds, Cond.value, hW.alike.findClass, hW.alike.assignable] at h ⊢
    exact h
  · exact va_tabs rfl (rfl : (s.setVm U.vm).vm = U.vm) (by rw [Cond.declares_setVm hW.alike]; exact h)
  · exact word_at hW (good_of_word hg) h
theorem QT_at {args a' : Array Value} {s U : State} (hW : s.WarmedH U.vm) (hts : ∀ w ∈ QT, w.before args s = true) : ∀ w ∈ QT, w.before a' U = true := fun w h => qgw_at hW (QT_qgw w h) (hts w h)
theorem in_B : ∀ w ∈ u_ws R_B T_B 4, w ∈ QT := List.forall_mem_cons.mpr ⟨q_in 194 (by decide +kernel) rfl, List.forall_mem_cons.mpr ⟨q_in 196 (by decide +kernel) rfl, List.forall_mem_cons.mpr ⟨q_in 198 (by decide +kernel) rfl, List.forall_mem_cons.mpr ⟨q_in 200 (by decide +kernel) rfl, fun _ h => absurd h List.not_mem_nil⟩⟩⟩⟩
theorem in_C : ∀ w ∈ u_ws R_C T_C 2, w ∈ QT := List.forall_mem_cons.mpr ⟨q_in 64 (by decide +kernel) rfl, List.forall_mem_cons.mpr ⟨q_in 66 (by decide +kernel) rfl, fun _ h => absurd h List.not_mem_nil⟩⟩
theorem in_D : ∀ w ∈ u_ws R_D T_D 5, w ∈ QT := List.forall_mem_cons.mpr ⟨q_in 141 (by decide +kernel) rfl, List.forall_mem_cons.mpr ⟨q_in 143 (by decide +kernel) rfl, List.forall_mem_cons.mpr ⟨q_in 145 (by decide +kernel) rfl, List.forall_mem_cons.mpr ⟨q_in 147 (by decide +kernel) rfl, List.forall_mem_cons.mpr ⟨q_in 149 (by decide +kernel) rfl, fun _ h => absurd h List.not_mem_nil⟩⟩⟩⟩⟩
theorem in_R : ∀ w ∈ u_ws R_R T_R 5, w ∈ QT := List.forall_mem_cons.mpr ⟨q_in 168 (by decide +kernel) rfl, List.forall_mem_cons.mpr ⟨q_in 170 (by decide +kernel) rfl, List.forall_mem_cons.mpr ⟨q_in 172 (by decide +kernel) rfl, List.forall_mem_cons.mpr ⟨q_in 174 (by decide +kernel) rfl, List.forall_mem_cons.mpr ⟨q_in 176 (by decide +kernel) rfl, fun _ h => absurd h List.not_mem_nil⟩⟩⟩⟩⟩
theorem in_N : ∀ w ∈ u_ws R_N T_N 5, w ∈ QT := List.forall_mem_cons.mpr ⟨q_in 121 (by decide +kernel) rfl, List.forall_mem_cons.mpr ⟨q_in 123 (by decide +kernel) rfl, List.forall_mem_cons.mpr ⟨q_in 125 (by decide +kernel) rfl, List.forall_mem_cons.mpr ⟨q_in 127 (by decide +kernel) rfl, List.forall_mem_cons.mpr ⟨q_in 129 (by decide +kernel) rfl, fun _ h => absurd h List.not_mem_nil⟩⟩⟩⟩⟩
theorem in_L : ∀ w ∈ u_ws R_L T_L 3, w ∈ QT := List.forall_mem_cons.mpr ⟨q_in 39 (by decide +kernel) rfl, List.forall_mem_cons.mpr ⟨q_in 41 (by decide +kernel) rfl, List.forall_mem_cons.mpr ⟨q_in 43 (by decide +kernel) rfl, fun _ h => absurd h List.not_mem_nil⟩⟩⟩
theorem in_T : ∀ w ∈ u_ws R_T T_T 8, w ∈ QT := List.forall_mem_cons.mpr ⟨q_in 82 (by decide +kernel) rfl, List.forall_mem_cons.mpr ⟨q_in 84 (by decide +kernel) rfl, List.forall_mem_cons.mpr ⟨q_in 86 (by decide +kernel) rfl, List.forall_mem_cons.mpr ⟨q_in 88 (by decide +kernel) rfl, List.forall_mem_cons.mpr ⟨q_in 90 (by decide +kernel) rfl, List.forall_mem_cons.mpr ⟨q_in 92 (by decide +kernel) rfl, List.forall_mem_cons.mpr ⟨q_in 94 (by decide +kernel) rfl, List.forall_mem_cons.mpr ⟨q_in 96 (by decide +kernel) rfl, fun _ h => absurd h List.not_mem_nil⟩⟩⟩⟩⟩⟩⟩⟩
theorem in_H : ∀ w ∈ u_ws R_H T_H 9, w ∈ QT := List.forall_mem_cons.mpr ⟨q_in 212 (by decide +kernel) rfl, List.forall_mem_cons.mpr ⟨q_in 214 (by decide +kernel) rfl, List.forall_mem_cons.mpr ⟨q_in 216 (by decide +kernel) rfl, List.forall_mem_cons.mpr ⟨q_in 218 (by decide +kernel) rfl, List.forall_mem_cons.mpr ⟨q_in 220 (by decide +kernel) rfl, List.forall_mem_cons.mpr ⟨q_in 222 (by decide +kernel) rfl, List.forall_mem_cons.mpr ⟨q_in 224 (by decide +kernel) rfl, List.forall_mem_cons.mpr ⟨q_in 226 (by decide +kernel) rfl, List.forall_mem_cons.mpr ⟨q_in 228 (by decide +kernel) rfl, fun _ h => absurd h List.not_mem_nil⟩⟩⟩⟩⟩⟩⟩⟩⟩
theorem in_M : ∀ w ∈ u_ws R_M T_M 30, w ∈ QT := List.forall_mem_cons.mpr ⟨q_in 691 (by decide +kernel) rfl, List.forall_mem_cons.mpr ⟨q_in 693 (by decide +kernel) rfl, List.forall_mem_cons.mpr ⟨q_in 695 (by decide +kernel) rfl, List.forall_mem_cons.mpr ⟨q_in 697 (by decide +kernel) rfl, List.forall_mem_cons.mpr ⟨q_in 699 (by decide +kernel) rfl, List.forall_mem_cons.mpr ⟨q_in 701 (by decide +kernel) rfl, List.forall_mem_cons.mpr ⟨q_in 703 (by decide +kernel) rfl, List.forall_mem_cons.mpr ⟨q_in 705 (by decide +kernel) rfl, List.forall_mem_cons.mpr ⟨q_in 707 (by decide +kernel) rfl, List.forall_mem_cons.mpr ⟨q_in 709 (by decide +kernel) rfl, List.forall_mem_cons.mpr ⟨q_in 711 (by decide +kernel) rfl, List.forall_mem_cons.mpr ⟨q_in 713 (by decide +kernel) rfl, List.forall_mem_cons.mpr ⟨q_in 715 (by decide +kernel) rfl, List.forall_mem_cons.mpr ⟨q_in 717 (by decide +kernel) rfl, List.forall_mem_cons.mpr ⟨q_in 719 (by decide +kernel) rfl, List.forall_mem_cons.mpr ⟨q_in 721 (by decide +kernel) rfl, List.forall_mem_cons.mpr ⟨q_in 723 (by decide +kernel) rfl, List.forall_mem_cons.mpr ⟨q_in 725 (by decide +kernel) rfl, List.forall_mem_cons.mpr ⟨q_in 727 (by decide +kernel) rfl, List.forall_mem_cons.mpr ⟨q_in 729 (by decide +kernel) rfl, List.forall_mem_cons.mpr ⟨q_in 731 (by decide +kernel) rfl, List.forall_mem_cons.mpr ⟨q_in 733 (by decide +kernel) rfl, List.forall_mem_cons.mpr ⟨q_in 735 (by decide +kernel) rfl, List.forall_mem_cons.mpr ⟨q_in 737 (by decide +kernel) rfl, List.forall_mem_cons.mpr ⟨q_in 739 (by decide +kernel) rfl, List.forall_mem_cons.mpr ⟨q_in 741 (by decide +kernel) rfl, List.forall_mem_cons.mpr ⟨q_in 743 (by decide +kernel) rfl, List.forall_mem_cons.mpr ⟨q_in 745 (by decide +kernel) rfl, List.forall_mem_cons.mpr ⟨q_in 747 (by decide +kernel) rfl, List.forall_mem_cons.mpr ⟨q_in 749 (by decide +kernel) rfl, fun _ h => absurd h List.not_mem_nil⟩⟩⟩⟩⟩⟩⟩⟩⟩⟩⟩⟩⟩⟩⟩⟩⟩⟩⟩⟩⟩⟩⟩⟩⟩⟩⟩⟩⟩⟩
end
section
/-! The ground of all contracts here. A world is a list of cells (g, j): family g, number j; its address is qal x g j, its content is qcf x g j of the ints V g j and the longs Y g j. So the heap is the pair V, Y, and every row of a walk speaks of these alone. -/
abbrev qX : Type := va_G × List vw_C × List (ClassId × FieldType) × (Nat → Nat → Nat) × List (Nat × Nat) × (Nat → Nat → (Nat → Int32) → (Nat → Int64) → va_E)
abbrev qD (x : qX) : va_G := x.1
abbrev qcl (x : qX) : List vw_C := x.2.1
abbrev qty (x : qX) : List (ClassId × FieldType) := x.2.2.1
abbrev qal (x : qX) : Nat → Nat → Nat := x.2.2.2.1
abbrev qI (x : qX) : List (Nat × Nat) := x.2.2.2.2.1
abbrev qcf (x : qX) : Nat → Nat → (Nat → Int32) → (Nat → Int64) → va_E := x.2.2.2.2.2
abbrev qV : Type := Nat → Nat → Nat → Int32
abbrev qY : Type := Nat → Nat → Nat → Int64
def qw (x : qX) (V : qV) (Y : qY) : va_W := (qI x).map (fun q => (qal x q.1 q.2, qcf x q.1 q.2 (V q.1 q.2) (Y q.1 q.2)))
def qA (x : qX) : Nat → Prop := fun a => ∃ q : Nat × Nat, q ∈ qI x ∧ a = qal x q.1 q.2
def qok (x : qX) : Prop := ∀ (i j : Nat) (p q : Nat × Nat), (qI x)[i]? = some p → (qI x)[j]? = some q → qal x p.1 p.2 = qal x q.1 q.2 → i = j
def qu (V : qV) (g j : Nat) (f : Nat → Int32) : qV := fun g' j' => if g' = g ∧ j' = j then f else V g' j'
def qv (V : qV) (g j k : Nat) (v : Int32) : qV := qu V g j (upd (V g j) k v)
def quY (Y : qY) (g j : Nat) (f : Nat → Int64) : qY := fun g' j' => if g' = g ∧ j' = j then f else Y g' j'
def qy (Y : qY) (g j k : Nat) (v : Int64) : qY := quY Y g j (vp_updL (Y g j) k v)
theorem qu_self (V : qV) (g j : Nat) : qu V g j (V g j) = V := by
  funext a b
  unfold qu
  split
  · rename_i h
    rw [h.1, h.2]
  · rfl
theorem quY_self (Y : qY) (g j : Nat) : quY Y g j (Y g j) = Y := by
  funext a b
  unfold quY
  split
  · rename_i h
    rw [h.1, h.2]
  · rfl
theorem qv_at (V : qV) (g j k : Nat) (v : Int32) (a b c : Nat) : qv V g j k v a b c = if a = g ∧ b = j ∧ c = k then v else V a b c := by
  unfold qv qu
  by_cases h : a = g ∧ b = j
  · rw [if_pos h]
    by_cases hc : c = k
    · rw [if_pos ⟨h.1, h.2, hc⟩, hc, pk_us]
    · rw [if_neg (fun z => hc z.2.2), pk_un hc, h.1, h.2]
  · rw [if_neg h, if_neg (fun z => h ⟨z.1, z.2.1⟩)]
theorem qy_at (Y : qY) (g j k : Nat) (v : Int64) (a b c : Nat) : qy Y g j k v a b c = if a = g ∧ b = j ∧ c = k then v else Y a b c := by
  unfold qy quY
  by_cases h : a = g ∧ b = j
  · rw [if_pos h]
    by_cases hc : c = k
    · rw [if_pos ⟨h.1, h.2, hc⟩, hc, pk_uLs]
    · rw [if_neg (fun z => hc z.2.2), pk_uLn hc, h.1, h.2]
  · rw [if_neg h, if_neg (fun z => h ⟨z.1, z.2.1⟩)]
theorem qw_get (x : qX) (V : qV) (Y : qY) (k : Nat) : (qw x V Y)[k]? = ((qI x)[k]?).map (fun q => (qal x q.1 q.2, qcf x q.1 q.2 (V q.1 q.2) (Y q.1 q.2))) := by
  unfold qw
  rw [List.getElem?_map]
theorem qw_at {x : qX} {g j : Nat} (V : qV) (Y : qY) (h : (g, j) ∈ qI x) : ∃ k : Nat, (qI x)[k]? = some (g, j) ∧ (qw x V Y)[k]? = some (qal x g j, qcf x g j (V g j) (Y g j)) := by
  obtain ⟨k, hk⟩ := List.getElem?_of_mem h
  exact ⟨k, hk, by rw [qw_get, hk]; rfl⟩
theorem qw_D {x : qX} (h : qok x) (V : qV) (Y : qY) : va_D (qA x) (qw x V Y) := by
  refine ⟨fun i j p q hi hj he => ?_, fun k q hk => ?_⟩
  · rw [qw_get] at hi hj
    obtain ⟨a, ha, rfl⟩ := Option.map_eq_some_iff.mp hi
    obtain ⟨b, hb, rfl⟩ := Option.map_eq_some_iff.mp hj
    exact h i j a b ha hb he
  · rw [qw_get] at hk
    obtain ⟨a, ha, rfl⟩ := Option.map_eq_some_iff.mp hk
    exact ⟨a, List.mem_of_getElem? ha, rfl⟩
theorem qw_set {x : qX} (h : qok x) {k g j : Nat} (hk : (qI x)[k]? = some (g, j)) (V : qV) (Y : qY) (f : Nat → Int32) (y : Nat → Int64) : (qw x V Y).set k (qal x g j, qcf x g j f y) = qw x (qu V g j f) (quY Y g j y) := by
  apply List.ext_getElem?
  intro i
  have hl : k < (qw x V Y).length := by
    unfold qw
    rw [List.length_map]
    exact (List.getElem?_eq_some_iff.mp hk).1
  by_cases hi : i = k
  · subst hi
    rw [List.getElem?_set_self hl, qw_get, hk]
    simp [qu, quY]
  · rw [List.getElem?_set_ne (Ne.symm hi), qw_get, qw_get]
    cases hq : (qI x)[i]? with
    | none => rfl
    | some q =>
      have hne : ¬ (q.1 = g ∧ q.2 = j) := fun z => hi (h i k q (g, j) hq hk (by rw [z.1, z.2]))
      simp [qu, quY, hne]
theorem qw_setV {x : qX} (h : qok x) {k g j : Nat} (hk : (qI x)[k]? = some (g, j)) (V : qV) (Y : qY) (f : Nat → Int32) : (qw x V Y).set k (qal x g j, qcf x g j f (Y g j)) = qw x (qu V g j f) Y := by
  rw [qw_set h hk, quY_self]
theorem qw_setY {x : qX} (h : qok x) {k g j : Nat} (hk : (qI x)[k]? = some (g, j)) (V : qV) (Y : qY) (y : Nat → Int64) : (qw x V Y).set k (qal x g j, qcf x g j (V g j) y) = qw x V (quY Y g j y) := by
  rw [qw_set h hk, qu_self]
/-- a local by its number -/
def qlk (lo : List (Nat × Value)) (i : Nat) : Option Value := (lo.find? (fun q => q.1 == i)).map (fun q => q.2)
theorem qlk_ok {ls : Array Slot} {nL : Nat} {lo : List (Nat × Value)} {i : Nat} {v : Value} (h : lv_has ls nL lo) (hi : qlk lo i = some v) : ls[i]? = some (.val v) := by
  unfold qlk at hi
  obtain ⟨q, hq, rfl⟩ := Option.map_eq_some_iff.mp hi
  have h1 := List.mem_of_find?_eq_some hq
  have h2 := List.find?_some hq
  have h3 : q.1 = i := by simpa using h2
  rw [← h3]
  exact h.2.2 q h1
def qZs (A : Nat → Prop) (U : State) : Prop := (va_Zq "java/lang/Throwable" "UNASSIGNED_STACK" "[Ljava/lang/StackTraceElement;" A U U.heap ∧ va_Zq "java/lang/Throwable" "SUPPRESSED_SENTINEL" "Ljava/util/List;" A U U.heap) ∧ (Cond.laysStatic "java/lang/Throwable" "UNASSIGNED_STACK" "[Ljava/lang/StackTraceElement;").before #[] U = true ∧ (Cond.laysStatic "java/lang/Throwable" "SUPPRESSED_SENTINEL" "Ljava/util/List;").before #[] U = true
/-- what a method's walk stands on -/
def Cx (p : Program) (s : State) (m : MethodId) (args : Array Value) (meth : Method) (c : Code) (x : qX) (nL : Nat) (A : Nat → Prop) (cc : ByteArray) (own : String) (Ts : List Cond) : Prop :=
  p.tables.exec = Jvm.exec ∧ c.code = cc ∧ c.maxLocals = nL ∧ s.vm.findClass own = some m.cls ∧ (∀ w ∈ Ts, w.before args s = true) ∧ va_K (qD x) (qcl x) (qty x) s ∧ qok x ∧ meth.locks = false ∧ qZs A s
/-- the walk, now at pc with the locals lo, the stack st, the heap V, Y -/
def G (p : Program) (l : Launch) (e : Env) (R : Room) (s : State) (m : MethodId) (args : Array Value) (below : List Frame) (meth : Method) (c : Code) (Q : State → Prop) (x : qX) (nL : Nat) (A : Nat → Prop) (V : qV) (Y : qY) (cells slots pc : Nat) (lo : List (Nat × Value)) (st : List Value) : Prop :=
  ∀ (H : Heap) (locs : List Loc) (ls : Array Slot), va_P (qD x) (qcl x) (qw x V Y) H → va_S A s.heap H locs → lv_has ls nL lo → W p l e R s m args below meth c H locs cells slots Q (F0 m pc ls st)
section QR
variable {p : Program} {l : Launch} {e : Env} {R : Room} {s : State} {m : MethodId} {args : Array Value} {below : List Frame} {meth : Method} {c : Code} {Q : State → Prop} {x : qX} {nL : Nat} {A : Nat → Prop} {V V' : qV} {Y Y' : qY} {cells slots pc : Nat} {lo lo' : List (Nat × Value)} {st : List Value} {cc : ByteArray} {own : String} {Ts : List Cond}
theorem G.eqV (h : V = V') (k : G p l e R s m args below meth c Q x nL A V' Y cells slots pc lo st) : G p l e R s m args below meth c Q x nL A V Y cells slots pc lo st := h ▸ k
theorem G.eqY (h : Y = Y') (k : G p l e R s m args below meth c Q x nL A V Y' cells slots pc lo st) : G p l e R s m args below meth c Q x nL A V Y cells slots pc lo st := h ▸ k
theorem G.eqS {st' : List Value} (h : st = st') (k : G p l e R s m args below meth c Q x nL A V Y cells slots pc lo st') : G p l e R s m args below meth c Q x nL A V Y cells slots pc lo st := h ▸ k
theorem G.sub (h : ∀ q ∈ lo', q ∈ lo) (k : G p l e R s m args below meth c Q x nL A V Y cells slots pc lo' st) : G p l e R s m args below meth c Q x nL A V Y cells slots pc lo st := fun H locs ls hP hS hl => k H locs ls hP hS ⟨hl.1, hl.2.1, fun q hq => hl.2.2 q (h q hq)⟩
theorem G.wide {k n : Nat} (h1 : cells ≤ k) (h2 : slots ≤ n) (kk : G p l e R s m args below meth c Q x nL A V Y k n pc lo st) : G p l e R s m args below meth c Q x nL A V Y cells slots pc lo st := fun H locs ls hP hS hl => W.widen h1 h2 (kk H locs ls hP hS hl)
theorem gq_iconst (C : Cx p s m args meth c x nL A cc own Ts) {n : Int} {v : Int32} (hd : decode cc pc = .ok (.iconst n, 1)) (hv : Int32.ofInt n = v) (k : G p l e R s m args below meth c Q x nL A V Y cells slots (pc + 1) lo (.int v :: st)) : G p l e R s m args below meth c Q x nL A V Y cells slots pc lo st := fun H locs ls hP hS hl => lv_iconst C.1 C.2.1 hd hv (k H locs ls hP hS hl)
theorem gq_bipush (C : Cx p s m args meth c x nL A cc own Ts) {n : Int} {v : Int32} (hd : decode cc pc = .ok (.bipush n, 2)) (hv : (Int8.ofInt n).toInt32 = v) (k : G p l e R s m args below meth c Q x nL A V Y cells slots (pc + 2) lo (.int v :: st)) : G p l e R s m args below meth c Q x nL A V Y cells slots pc lo st := fun H locs ls hP hS hl => lv_bipush C.1 C.2.1 hd hv (k H locs ls hP hS hl)
theorem gq_sipush (C : Cx p s m args meth c x nL A cc own Ts) {n : Int} {v : Int32} (hd : decode cc pc = .ok (.sipush n, 3)) (hv : (Int16.ofInt n).toInt32 = v) (k : G p l e R s m args below meth c Q x nL A V Y cells slots (pc + 3) lo (.int v :: st)) : G p l e R s m args below meth c Q x nL A V Y cells slots pc lo st := fun H locs ls hP hS hl => lv_sipush C.1 C.2.1 hd hv (k H locs ls hP hS hl)
theorem gq_lconst (C : Cx p s m args meth c x nL A cc own Ts) {n : Fin 2} {v : Int64} (hd : decode cc pc = .ok (.lconst n, 1)) (hv : Int64.ofNat (n : Nat) = v) (k : G p l e R s m args below meth c Q x nL A V Y cells slots (pc + 1) lo (.long v :: st)) : G p l e R s m args below meth c Q x nL A V Y cells slots pc lo st := fun H locs ls hP hS hl => lv_lconst C.1 C.2.1 hd hv (k H locs ls hP hS hl)
theorem gq_ldc (C : Cx p s m args meth c x nL A cc own Ts) {index : Nat} {v : Int32} (hc : Cond.constant own index v ∈ Ts) (hd : decode cc pc = .ok (.ldc index, 2)) (k : G p l e R s m args below meth c Q x nL A V Y cells slots (pc + 2) lo (.int v :: st)) : G p l e R s m args below meth c Q x nL A V Y cells slots pc lo st := fun H locs ls hP hS hl => lv_ldc C.1 C.2.1 C.2.2.2.1 (C.2.2.2.2.1 _ hc) hd (k H locs ls hP hS hl)
theorem gq_iload_n (C : Cx p s m args meth c x nL A cc own Ts) {k : Fin 4} {v : Int32} (hd : decode cc pc = .ok (.iload_n k, 1)) (hi : qlk lo k = some (.int v)) (kk : G p l e R s m args below meth c Q x nL A V Y cells slots (pc + 1) lo (.int v :: st)) : G p l e R s m args below meth c Q x nL A V Y cells slots pc lo st := fun H locs ls hP hS hl => lv_iload_n C.1 C.2.1 hd rfl (qlk_ok hl hi) (kk H locs ls hP hS hl)
theorem gq_iload (C : Cx p s m args meth c x nL A cc own Ts) {i : Nat} {v : Int32} (hd : decode cc pc = .ok (.iload i, 2)) (hi : qlk lo i = some (.int v)) (kk : G p l e R s m args below meth c Q x nL A V Y cells slots (pc + 2) lo (.int v :: st)) : G p l e R s m args below meth c Q x nL A V Y cells slots pc lo st := fun H locs ls hP hS hl => lv_iload C.1 C.2.1 hd (qlk_ok hl hi) (kk H locs ls hP hS hl)
theorem gq_lload_n (C : Cx p s m args meth c x nL A cc own Ts) {k : Fin 4} {v : Int64} (hd : decode cc pc = .ok (.lload_n k, 1)) (hi : qlk lo k = some (.long v)) (kk : G p l e R s m args below meth c Q x nL A V Y cells slots (pc + 1) lo (.long v :: st)) : G p l e R s m args below meth c Q x nL A V Y cells slots pc lo st := fun H locs ls hP hS hl => lv_lload_n C.1 C.2.1 hd rfl (qlk_ok hl hi) (kk H locs ls hP hS hl)
theorem gq_lload (C : Cx p s m args meth c x nL A cc own Ts) {i : Nat} {v : Int64} (hd : decode cc pc = .ok (.lload i, 2)) (hi : qlk lo i = some (.long v)) (kk : G p l e R s m args below meth c Q x nL A V Y cells slots (pc + 2) lo (.long v :: st)) : G p l e R s m args below meth c Q x nL A V Y cells slots pc lo st := fun H locs ls hP hS hl => lv_lload C.1 C.2.1 hd (qlk_ok hl hi) (kk H locs ls hP hS hl)
theorem gq_aload_n (C : Cx p s m args meth c x nL A cc own Ts) {k : Fin 4} {v : Nat} (hd : decode cc pc = .ok (.aload_n k, 1)) (hi : qlk lo k = some (.ref v)) (kk : G p l e R s m args below meth c Q x nL A V Y cells slots (pc + 1) lo (.ref v :: st)) : G p l e R s m args below meth c Q x nL A V Y cells slots pc lo st := fun H locs ls hP hS hl => lv_aload_n C.1 C.2.1 hd rfl (qlk_ok hl hi) (kk H locs ls hP hS hl)
theorem gq_aload (C : Cx p s m args meth c x nL A cc own Ts) {i : Nat} {v : Nat} (hd : decode cc pc = .ok (.aload i, 2)) (hi : qlk lo i = some (.ref v)) (kk : G p l e R s m args below meth c Q x nL A V Y cells slots (pc + 2) lo (.ref v :: st)) : G p l e R s m args below meth c Q x nL A V Y cells slots pc lo st := fun H locs ls hP hS hl => lv_aload C.1 C.2.1 hd (qlk_ok hl hi) (kk H locs ls hP hS hl)
theorem gq_istore_n (C : Cx p s m args meth c x nL A cc own Ts) {k : Fin 4} {i : Nat} {v : Int32} (hd : decode cc pc = .ok (.istore_n k, 1)) (hi : (k : Nat) = i) (hn : i < nL) (hl : (i, Value.int v) :: lo.filter (fun q => !(q.1 == i) && !(q.1 + 1 == i && q.2.category == 2)) = lo') (kk : G p l e R s m args below meth c Q x nL A V Y cells slots (pc + 1) lo' st) : G p l e R s m args below meth c Q x nL A V Y cells slots pc lo (.int v :: st) := fun H locs _ hP hS h => lv_istore_n C.1 C.2.1 hd hi h hn hl (fun ls' h' => kk H locs ls' hP hS h')
theorem gq_istore (C : Cx p s m args meth c x nL A cc own Ts) {i : Nat} {v : Int32} (hd : decode cc pc = .ok (.istore i, 2)) (hn : i < nL) (hl : (i, Value.int v) :: lo.filter (fun q => !(q.1 == i) && !(q.1 + 1 == i && q.2.category == 2)) = lo') (kk : G p l e R s m args below meth c Q x nL A V Y cells slots (pc + 2) lo' st) : G p l e R s m args below meth c Q x nL A V Y cells slots pc lo (.int v :: st) := fun H locs _ hP hS h => lv_istore C.1 C.2.1 hd h hn hl (fun ls' h' => kk H locs ls' hP hS h')
theorem gq_lstore_n (C : Cx p s m args meth c x nL A cc own Ts) {k : Fin 4} {i : Nat} {v : Int64} (hd : decode cc pc = .ok (.lstore_n k, 1)) (hi : (k : Nat) = i) (hn : i + 1 < nL) (hl : (i, Value.long v) :: lo.filter (fun q => !(q.1 == i) && (!(q.1 == i + 1) && !(q.1 + 1 == i && q.2.category == 2))) = lo') (kk : G p l e R s m args below meth c Q x nL A V Y cells slots (pc + 1) lo' st) : G p l e R s m args below meth c Q x nL A V Y cells slots pc lo (.long v :: st) := fun H locs _ hP hS h => lv_lstore_n C.1 C.2.1 hd hi h hn hl (fun ls' h' => kk H locs ls' hP hS h')
theorem gq_lstore (C : Cx p s m args meth c x nL A cc own Ts) {i : Nat} {v : Int64} (hd : decode cc pc = .ok (.lstore i, 2)) (hn : i + 1 < nL) (hl : (i, Value.long v) :: lo.filter (fun q => !(q.1 == i) && (!(q.1 == i + 1) && !(q.1 + 1 == i && q.2.category == 2))) = lo') (kk : G p l e R s m args below meth c Q x nL A V Y cells slots (pc + 2) lo' st) : G p l e R s m args below meth c Q x nL A V Y cells slots pc lo (.long v :: st) := fun H locs _ hP hS h => lv_lstore C.1 C.2.1 hd h hn hl (fun ls' h' => kk H locs ls' hP hS h')
theorem gq_astore_n (C : Cx p s m args meth c x nL A cc own Ts) {k : Fin 4} {i : Nat} {v : Nat} (hd : decode cc pc = .ok (.astore_n k, 1)) (hi : (k : Nat) = i) (hn : i < nL) (hl : (i, Value.ref v) :: lo.filter (fun q => !(q.1 == i) && !(q.1 + 1 == i && q.2.category == 2)) = lo') (kk : G p l e R s m args below meth c Q x nL A V Y cells slots (pc + 1) lo' st) : G p l e R s m args below meth c Q x nL A V Y cells slots pc lo (.ref v :: st) := fun H locs _ hP hS h => lv_astore_n C.1 C.2.1 hd hi h hn hl (fun ls' h' => kk H locs ls' hP hS h')
theorem gq_astore (C : Cx p s m args meth c x nL A cc own Ts) {i : Nat} {v : Nat} (hd : decode cc pc = .ok (.astore i, 2)) (hn : i < nL) (hl : (i, Value.ref v) :: lo.filter (fun q => !(q.1 == i) && !(q.1 + 1 == i && q.2.category == 2)) = lo') (kk : G p l e R s m args below meth c Q x nL A V Y cells slots (pc + 2) lo' st) : G p l e R s m args below meth c Q x nL A V Y cells slots pc lo (.ref v :: st) := fun H locs _ hP hS h => lv_astore C.1 C.2.1 hd h hn hl (fun ls' h' => kk H locs ls' hP hS h')
theorem gq_iinc (C : Cx p s m args meth c x nL A cc own Ts) {i k : Nat} {n : Int} {v w : Int32} (hd : decode cc pc = .ok (.iinc i n, 3)) (hk : lo[k]? = some (i, .int v)) (hv : v + Int32.ofInt n = w) (hn : i < nL) (hl : (i, Value.int w) :: lo.filter (fun q => !(q.1 == i) && !(q.1 + 1 == i && q.2.category == 2)) = lo') (kk : G p l e R s m args below meth c Q x nL A V Y cells slots (pc + 3) lo' st) : G p l e R s m args below meth c Q x nL A V Y cells slots pc lo st := fun H locs _ hP hS h => lv_iinc C.1 C.2.1 hd h hk hv hn hl (fun ls' h' => kk H locs ls' hP hS h')
theorem gq_dup (C : Cx p s m args meth c x nL A cc own Ts) {v : Value} (hd : decode cc pc = .ok (.dup, 1)) (hv : v.category = 1) (k : G p l e R s m args below meth c Q x nL A V Y cells slots (pc + 1) lo (v :: v :: st)) : G p l e R s m args below meth c Q x nL A V Y cells slots pc lo (v :: st) := fun H locs ls hP hS hl => lv_dup C.1 C.2.1 hd hv (k H locs ls hP hS hl)
theorem gq_pop (C : Cx p s m args meth c x nL A cc own Ts) {v : Value} (hd : decode cc pc = .ok (.pop, 1)) (hv : v.category = 1) (k : G p l e R s m args below meth c Q x nL A V Y cells slots (pc + 1) lo st) : G p l e R s m args below meth c Q x nL A V Y cells slots pc lo (v :: st) := fun H locs ls hP hS hl => lv_pop C.1 C.2.1 hd hv (k H locs ls hP hS hl)
theorem gq_dup_x1 (C : Cx p s m args meth c x nL A cc own Ts) {v w : Value} (hd : decode cc pc = .ok (.dup_x1, 1)) (hv : v.category = 1) (hw : w.category = 1) (k : G p l e R s m args below meth c Q x nL A V Y cells slots (pc + 1) lo (v :: w :: v :: st)) : G p l e R s m args below meth c Q x nL A V Y cells slots pc lo (v :: w :: st) := fun H locs ls hP hS hl => lv_dup_x1 C.1 C.2.1 hd hv hw (k H locs ls hP hS hl)
theorem gq_iadd (C : Cx p s m args meth c x nL A cc own Ts) {v w : Int32} (hd : decode cc pc = .ok (.iadd, 1)) (k : G p l e R s m args below meth c Q x nL A V Y cells slots (pc + 1) lo (.int (v + w) :: st)) : G p l e R s m args below meth c Q x nL A V Y cells slots pc lo (.int w :: .int v :: st) := fun H locs ls hP hS hl => lv_iadd C.1 C.2.1 hd (k H locs ls hP hS hl)
theorem gq_isub (C : Cx p s m args meth c x nL A cc own Ts) {v w : Int32} (hd : decode cc pc = .ok (.isub, 1)) (k : G p l e R s m args below meth c Q x nL A V Y cells slots (pc + 1) lo (.int (v - w) :: st)) : G p l e R s m args below meth c Q x nL A V Y cells slots pc lo (.int w :: .int v :: st) := fun H locs ls hP hS hl => lv_isub C.1 C.2.1 hd (k H locs ls hP hS hl)
theorem gq_imul (C : Cx p s m args meth c x nL A cc own Ts) {v w : Int32} (hd : decode cc pc = .ok (.imul, 1)) (k : G p l e R s m args below meth c Q x nL A V Y cells slots (pc + 1) lo (.int (v * w) :: st)) : G p l e R s m args below meth c Q x nL A V Y cells slots pc lo (.int w :: .int v :: st) := fun H locs ls hP hS hl => lv_imul C.1 C.2.1 hd (k H locs ls hP hS hl)
theorem gq_idiv (C : Cx p s m args meth c x nL A cc own Ts) {v w : Int32} (hd : decode cc pc = .ok (.idiv, 1)) (hne : ¬ w = 0) (k : G p l e R s m args below meth c Q x nL A V Y cells slots (pc + 1) lo (.int (v / w) :: st)) : G p l e R s m args below meth c Q x nL A V Y cells slots pc lo (.int w :: .int v :: st) := fun H locs ls hP hS hl => lv_idiv C.1 C.2.1 hd hne (k H locs ls hP hS hl)
theorem gq_iand (C : Cx p s m args meth c x nL A cc own Ts) {v w : Int32} (hd : decode cc pc = .ok (.iand, 1)) (k : G p l e R s m args below meth c Q x nL A V Y cells slots (pc + 1) lo (.int (v &&& w) :: st)) : G p l e R s m args below meth c Q x nL A V Y cells slots pc lo (.int w :: .int v :: st) := fun H locs ls hP hS hl => lv_iand C.1 C.2.1 hd (k H locs ls hP hS hl)
theorem gq_ladd (C : Cx p s m args meth c x nL A cc own Ts) {v w : Int64} (hd : decode cc pc = .ok (.ladd, 1)) (k : G p l e R s m args below meth c Q x nL A V Y cells slots (pc + 1) lo (.long (v + w) :: st)) : G p l e R s m args below meth c Q x nL A V Y cells slots pc lo (.long w :: .long v :: st) := fun H locs ls hP hS hl => lv_ladd C.1 C.2.1 hd (k H locs ls hP hS hl)
theorem gq_i2l (C : Cx p s m args meth c x nL A cc own Ts) {v : Int32} (hd : decode cc pc = .ok (.i2l, 1)) (k : G p l e R s m args below meth c Q x nL A V Y cells slots (pc + 1) lo (.long v.toInt64 :: st)) : G p l e R s m args below meth c Q x nL A V Y cells slots pc lo (.int v :: st) := fun H locs ls hP hS hl => lv_i2l C.1 C.2.1 hd rfl (k H locs ls hP hS hl)
theorem gq_lcmp (C : Cx p s m args meth c x nL A cc own Ts) {v w : Int64} (hd : decode cc pc = .ok (.lcmp, 1)) (k : G p l e R s m args below meth c Q x nL A V Y cells slots (pc + 1) lo (.int (lg_cmp v w) :: st)) : G p l e R s m args below meth c Q x nL A V Y cells slots pc lo (.long w :: .long v :: st) := fun H locs ls hP hS hl => W.lcmp C.1 C.2.1 hd (k H locs ls hP hS hl)
theorem gq_goto (C : Cx p s m args meth c x nL A cc own Ts) {off : Int} {tgt : Nat} (hd : decode cc pc = .ok (.goto off, 3)) (ht : (pc : Int) + off = (tgt : Int)) (k : G p l e R s m args below meth c Q x nL A V Y cells slots tgt lo st) : G p l e R s m args below meth c Q x nL A V Y cells slots pc lo st := fun H locs ls hP hS hl => lv_goto C.1 C.2.1 hd ht (k H locs ls hP hS hl)
theorem gq_if_eq (C : Cx p s m args meth c x nL A cc own Ts) {v : Int32} {off : Int} {tgt : Nat} (hd : decode cc pc = .ok (.ifCond .eq off, 3)) (ht : (pc : Int) + off = (tgt : Int)) (kt : v = 0 → G p l e R s m args below meth c Q x nL A V Y cells slots tgt lo st) (kf : ¬ v = 0 → G p l e R s m args below meth c Q x nL A V Y cells slots (pc + 3) lo st) : G p l e R s m args below meth c Q x nL A V Y cells slots pc lo (.int v :: st) := fun H locs ls hP hS hl => lv_if_eq C.1 C.2.1 hd ht (fun h => kt h H locs ls hP hS hl) (fun h => kf h H locs ls hP hS hl)
theorem gq_icmp_eq (C : Cx p s m args meth c x nL A cc own Ts) {v w : Int32} {off : Int} {tgt : Nat} (hd : decode cc pc = .ok (.if_icmp .eq off, 3)) (ht : (pc : Int) + off = (tgt : Int)) (kt : v = w → G p l e R s m args below meth c Q x nL A V Y cells slots tgt lo st) (kf : ¬ v = w → G p l e R s m args below meth c Q x nL A V Y cells slots (pc + 3) lo st) : G p l e R s m args below meth c Q x nL A V Y cells slots pc lo (.int w :: .int v :: st) := fun H locs ls hP hS hl => lv_icmp_eq C.1 C.2.1 hd ht (fun h => kt h H locs ls hP hS hl) (fun h => kf h H locs ls hP hS hl)
theorem gq_if_ne (C : Cx p s m args meth c x nL A cc own Ts) {v : Int32} {off : Int} {tgt : Nat} (hd : decode cc pc = .ok (.ifCond .ne off, 3)) (ht : (pc : Int) + off = (tgt : Int)) (kt : ¬ v = 0 → G p l e R s m args below meth c Q x nL A V Y cells slots tgt lo st) (kf : v = 0 → G p l e R s m args below meth c Q x nL A V Y cells slots (pc + 3) lo st) : G p l e R s m args below meth c Q x nL A V Y cells slots pc lo (.int v :: st) := fun H locs ls hP hS hl => lv_if_ne C.1 C.2.1 hd ht (fun h => kt h H locs ls hP hS hl) (fun h => kf h H locs ls hP hS hl)
theorem gq_icmp_ne (C : Cx p s m args meth c x nL A cc own Ts) {v w : Int32} {off : Int} {tgt : Nat} (hd : decode cc pc = .ok (.if_icmp .ne off, 3)) (ht : (pc : Int) + off = (tgt : Int)) (kt : ¬ v = w → G p l e R s m args below meth c Q x nL A V Y cells slots tgt lo st) (kf : v = w → G p l e R s m args below meth c Q x nL A V Y cells slots (pc + 3) lo st) : G p l e R s m args below meth c Q x nL A V Y cells slots pc lo (.int w :: .int v :: st) := fun H locs ls hP hS hl => lv_icmp_ne C.1 C.2.1 hd ht (fun h => kt h H locs ls hP hS hl) (fun h => kf h H locs ls hP hS hl)
theorem gq_if_lt (C : Cx p s m args meth c x nL A cc own Ts) {v : Int32} {off : Int} {tgt : Nat} (hd : decode cc pc = .ok (.ifCond .lt off, 3)) (ht : (pc : Int) + off = (tgt : Int)) (kt : v < 0 → G p l e R s m args below meth c Q x nL A V Y cells slots tgt lo st) (kf : ¬ v < 0 → G p l e R s m args below meth c Q x nL A V Y cells slots (pc + 3) lo st) : G p l e R s m args below meth c Q x nL A V Y cells slots pc lo (.int v :: st) := fun H locs ls hP hS hl => lv_if_lt C.1 C.2.1 hd ht (fun h => kt h H locs ls hP hS hl) (fun h => kf h H locs ls hP hS hl)
theorem gq_icmp_lt (C : Cx p s m args meth c x nL A cc own Ts) {v w : Int32} {off : Int} {tgt : Nat} (hd : decode cc pc = .ok (.if_icmp .lt off, 3)) (ht : (pc : Int) + off = (tgt : Int)) (kt : v < w → G p l e R s m args below meth c Q x nL A V Y cells slots tgt lo st) (kf : ¬ v < w → G p l e R s m args below meth c Q x nL A V Y cells slots (pc + 3) lo st) : G p l e R s m args below meth c Q x nL A V Y cells slots pc lo (.int w :: .int v :: st) := fun H locs ls hP hS hl => lv_icmp_lt C.1 C.2.1 hd ht (fun h => kt h H locs ls hP hS hl) (fun h => kf h H locs ls hP hS hl)
theorem gq_if_ge (C : Cx p s m args meth c x nL A cc own Ts) {v : Int32} {off : Int} {tgt : Nat} (hd : decode cc pc = .ok (.ifCond .ge off, 3)) (ht : (pc : Int) + off = (tgt : Int)) (kt : 0 ≤ v → G p l e R s m args below meth c Q x nL A V Y cells slots tgt lo st) (kf : ¬ 0 ≤ v → G p l e R s m args below meth c Q x nL A V Y cells slots (pc + 3) lo st) : G p l e R s m args below meth c Q x nL A V Y cells slots pc lo (.int v :: st) := fun H locs ls hP hS hl => lv_if_ge C.1 C.2.1 hd ht (fun h => kt h H locs ls hP hS hl) (fun h => kf h H locs ls hP hS hl)
theorem gq_icmp_ge (C : Cx p s m args meth c x nL A cc own Ts) {v w : Int32} {off : Int} {tgt : Nat} (hd : decode cc pc = .ok (.if_icmp .ge off, 3)) (ht : (pc : Int) + off = (tgt : Int)) (kt : w ≤ v → G p l e R s m args below meth c Q x nL A V Y cells slots tgt lo st) (kf : ¬ w ≤ v → G p l e R s m args below meth c Q x nL A V Y cells slots (pc + 3) lo st) : G p l e R s m args below meth c Q x nL A V Y cells slots pc lo (.int w :: .int v :: st) := fun H locs ls hP hS hl => lv_icmp_ge C.1 C.2.1 hd ht (fun h => kt h H locs ls hP hS hl) (fun h => kf h H locs ls hP hS hl)
theorem gq_if_gt (C : Cx p s m args meth c x nL A cc own Ts) {v : Int32} {off : Int} {tgt : Nat} (hd : decode cc pc = .ok (.ifCond .gt off, 3)) (ht : (pc : Int) + off = (tgt : Int)) (kt : 0 < v → G p l e R s m args below meth c Q x nL A V Y cells slots tgt lo st) (kf : ¬ 0 < v → G p l e R s m args below meth c Q x nL A V Y cells slots (pc + 3) lo st) : G p l e R s m args below meth c Q x nL A V Y cells slots pc lo (.int v :: st) := fun H locs ls hP hS hl => lv_if_gt C.1 C.2.1 hd ht (fun h => kt h H locs ls hP hS hl) (fun h => kf h H locs ls hP hS hl)
theorem gq_icmp_gt (C : Cx p s m args meth c x nL A cc own Ts) {v w : Int32} {off : Int} {tgt : Nat} (hd : decode cc pc = .ok (.if_icmp .gt off, 3)) (ht : (pc : Int) + off = (tgt : Int)) (kt : w < v → G p l e R s m args below meth c Q x nL A V Y cells slots tgt lo st) (kf : ¬ w < v → G p l e R s m args below meth c Q x nL A V Y cells slots (pc + 3) lo st) : G p l e R s m args below meth c Q x nL A V Y cells slots pc lo (.int w :: .int v :: st) := fun H locs ls hP hS hl => lv_icmp_gt C.1 C.2.1 hd ht (fun h => kt h H locs ls hP hS hl) (fun h => kf h H locs ls hP hS hl)
theorem gq_if_le (C : Cx p s m args meth c x nL A cc own Ts) {v : Int32} {off : Int} {tgt : Nat} (hd : decode cc pc = .ok (.ifCond .le off, 3)) (ht : (pc : Int) + off = (tgt : Int)) (kt : v ≤ 0 → G p l e R s m args below meth c Q x nL A V Y cells slots tgt lo st) (kf : ¬ v ≤ 0 → G p l e R s m args below meth c Q x nL A V Y cells slots (pc + 3) lo st) : G p l e R s m args below meth c Q x nL A V Y cells slots pc lo (.int v :: st) := fun H locs ls hP hS hl => lv_if_le C.1 C.2.1 hd ht (fun h => kt h H locs ls hP hS hl) (fun h => kf h H locs ls hP hS hl)
theorem gq_icmp_le (C : Cx p s m args meth c x nL A cc own Ts) {v w : Int32} {off : Int} {tgt : Nat} (hd : decode cc pc = .ok (.if_icmp .le off, 3)) (ht : (pc : Int) + off = (tgt : Int)) (kt : v ≤ w → G p l e R s m args below meth c Q x nL A V Y cells slots tgt lo st) (kf : ¬ v ≤ w → G p l e R s m args below meth c Q x nL A V Y cells slots (pc + 3) lo st) : G p l e R s m args below meth c Q x nL A V Y cells slots pc lo (.int w :: .int v :: st) := fun H locs ls hP hS hl => lv_icmp_le C.1 C.2.1 hd ht (fun h => kt h H locs ls hP hS hl) (fun h => kf h H locs ls hP hS hl)
/-- a field is read -/
theorem gq_get (C : Cx p s m args meth c x nL A cc own Ts) {g j k ci index N : Nat} {T : u_T} {C0 : String} {fs : List Value} {v : Value} (hm : (g, j) ∈ qI x) (he : qcf x g j (V g j) (Y g j) = .inr (ci, fs)) (hc : (qcl x)[ci]? = some (C0, T, N)) (hin : ∀ w ∈ u_ws C0 T N, w ∈ Ts) (hk : k < N) (hlink : Cond.fieldLink own index (T k).1 (T k).2.1 (T k).2.2.1 ∈ Ts) (hv : fs[k]? = some v) (hd : decode cc pc = .ok (.getfield index, 3))
    (kk : G p l e R s m args below meth c Q x nL A V Y cells slots (pc + 3) lo (v :: st)) : G p l e R s m args below meth c Q x nL A V Y cells slots pc lo (.ref (qal x g j) :: st) := by
  intro H locs ls hP hS hl
  obtain ⟨q, -, hq⟩ := qw_at V Y hm
  rw [he] at hq
  exact va_get C.1 C.2.1 C.2.2.2.2.1 hin C.2.2.2.1 C.2.2.2.2.2.1 hP q hq hc k hk (C.2.2.2.2.1 _ hlink) (fun _ h => h) hv hd (kk H locs ls hP hS hl)
/-- a field of ints is written -/
theorem gq_put (C : Cx p s m args meth c x nL A cc own Ts) (hA : ∀ q, qA x q → A q) {g j k ci index N : Nat} {T : u_T} {C0 : String} {fs : List Value} {v : Int32} {ty : FieldType} (ty0 : Nat → FieldType) (hty : ∀ k, k < N → parseFieldDescriptor (T k).2.2.1 = some (ty0 k)) (hnm : ∀ a, a < N → ∀ b, b < N → a ≠ b → (T a).2.1 ≠ (T b).2.1) (hm : (g, j) ∈ qI x) (he : qcf x g j (V g j) (Y g j) = .inr (ci, fs)) (hc : (qcl x)[ci]? = some (C0, T, N)) (hin : ∀ w ∈ u_ws C0 T N, w ∈ Ts) (hk : k < N) (hlink : Cond.fieldLink own index (T k).1 (T k).2.1 (T k).2.2.1 ∈ Ts) (hfin : (T k).2.2.2 = false) (hdd : parseFieldDescriptor (T k).2.2.1 = some ty) (hn : narrow ty (.int v) = .int v) (hfit : fits ty (.int v) = true) (hl : k < fs.length) (he2 : qcf x g j (upd (V g j) k v) (Y g j) = .inr (ci, fs.set k (.int v))) (hd : decode cc pc = .ok (.putfield index, 3))
    (kk : G p l e R s m args below meth c Q x nL A (qv V g j k v) Y cells slots (pc + 3) lo st) : G p l e R s m args below meth c Q x nL A V Y cells slots pc lo (.int v :: .ref (qal x g j) :: st) := by
  intro H locs ls hP hS hl2
  obtain ⟨q, h1, hq⟩ := qw_at V Y hm
  rw [he] at hq
  refine va_put C.1 C.2.1 C.2.2.2.2.1 hin ty0 hty hnm C.2.2.2.1 C.2.2.2.2.2.1 hP ((qw_D C.2.2.2.2.2.2.1 V Y).weaken (fun _ _ _ h => hA _ h)) hS q hq hc k hk (C.2.2.2.2.1 _ hlink) (fun _ h => h) hfin hdd hn hfit hl hd (fun H1 locs1 hP1 _ hS1 => ?_)
  rw [← he2, qw_setV C.2.2.2.2.2.2.1 h1] at hP1
  exact kk H1 locs1 ls hP1 hS1 hl2
/-- an int array is read, its index a number -/
theorem gq_iald (C : Cx p s m args meth c x nL A cc own Ts) {g j n a t0 : Nat} {cA : ClassId} {i : Int32} (hm : (g, j) ∈ qI x) (he : qcf x g j (V g j) (Y g j) = .inl (cA, n, .inl (V g j))) (ht : (qty x)[t0]? = some (cA, .int)) (hi : i = nI a) (ha : a < n) (hn : n < 2 ^ 31) (hd : decode cc pc = .ok (.iaload, 1))
    (kk : G p l e R s m args below meth c Q x nL A V Y cells slots (pc + 1) lo (.int (V g j a) :: st)) : G p l e R s m args below meth c Q x nL A V Y cells slots pc lo (.int i :: .ref (qal x g j) :: st) := by
  intro H locs ls hP hS hl
  obtain ⟨q, -, hq⟩ := qw_at V Y hm
  rw [he] at hq
  subst hi
  refine va_iald C.1 C.2.1 C.2.2.2.2.2.1 hP q t0 hq ht (vp_in_nI ha hn) hd ?_
  rw [nI_clamp (by omega)]
  exact kk H locs ls hP hS hl
theorem gq_zald (C : Cx p s m args meth c x nL A cc own Ts) {g j n a t0 : Nat} {cA : ClassId} {i : Int32} (hm : (g, j) ∈ qI x) (he : qcf x g j (V g j) (Y g j) = .inl (cA, n, .inl (V g j))) (ht : (qty x)[t0]? = some (cA, .boolean)) (hi : i = nI a) (ha : a < n) (hn : n < 2 ^ 31) (hd : decode cc pc = .ok (.baload, 1))
    (kk : G p l e R s m args below meth c Q x nL A V Y cells slots (pc + 1) lo (.int (V g j a) :: st)) : G p l e R s m args below meth c Q x nL A V Y cells slots pc lo (.int i :: .ref (qal x g j) :: st) := by
  intro H locs ls hP hS hl
  obtain ⟨q, -, hq⟩ := qw_at V Y hm
  rw [he] at hq
  subst hi
  refine va_zald C.1 C.2.1 C.2.2.2.2.2.1 hP q t0 hq ht (vp_in_nI ha hn) hd ?_
  rw [nI_clamp (by omega)]
  exact kk H locs ls hP hS hl
theorem gq_lald (C : Cx p s m args meth c x nL A cc own Ts) {g j n a t0 : Nat} {cA : ClassId} {i : Int32} (hm : (g, j) ∈ qI x) (he : qcf x g j (V g j) (Y g j) = .inl (cA, n, .inr (.inl (Y g j)))) (ht : (qty x)[t0]? = some (cA, .long)) (hi : i = nI a) (ha : a < n) (hn : n < 2 ^ 31) (hd : decode cc pc = .ok (.laload, 1))
    (kk : G p l e R s m args below meth c Q x nL A V Y cells slots (pc + 1) lo (.long (Y g j a) :: st)) : G p l e R s m args below meth c Q x nL A V Y cells slots pc lo (.int i :: .ref (qal x g j) :: st) := by
  intro H locs ls hP hS hl
  obtain ⟨q, -, hq⟩ := qw_at V Y hm
  rw [he] at hq
  subst hi
  refine va_lald C.1 C.2.1 C.2.2.2.2.2.1 hP q t0 hq ht (vp_in_nI ha hn) hd ?_
  rw [nI_clamp (by omega)]
  exact kk H locs ls hP hS hl
/-- an array of references is read -/
theorem gq_aald (C : Cx p s m args meth c x nL A cc own Ts) {g j n a t0 b : Nat} {cA : ClassId} {C1 : String} {f : Nat → Option Nat} {i : Int32} (hm : (g, j) ∈ qI x) (he : qcf x g j (V g j) (Y g j) = .inl (cA, n, .inr (.inr (.inr (.inr f))))) (ht : (qty x)[t0]? = some (cA, .object C1)) (hi : i = nI a) (ha : a < n) (hn : n < 2 ^ 31) (hf : f a = some b) (hd : decode cc pc = .ok (.aaload, 1))
    (kk : G p l e R s m args below meth c Q x nL A V Y cells slots (pc + 1) lo (.ref b :: st)) : G p l e R s m args below meth c Q x nL A V Y cells slots pc lo (.int i :: .ref (qal x g j) :: st) := by
  intro H locs ls hP hS hl
  obtain ⟨q, -, hq⟩ := qw_at V Y hm
  rw [he] at hq
  subst hi
  refine va_aldq C.1 C.2.1 C.2.2.2.2.2.1 hP q t0 hq ht (vp_in_nI ha hn) hd ?_
  rw [nI_clamp (by omega), hf]
  exact kk H locs ls hP hS hl
theorem gq_iast (C : Cx p s m args meth c x nL A cc own Ts) (hA : ∀ q, qA x q → A q) {g j n a t0 : Nat} {cA : ClassId} {i v : Int32} (hm : (g, j) ∈ qI x) (he : ∀ f, qcf x g j f (Y g j) = .inl (cA, n, .inl f)) (ht : (qty x)[t0]? = some (cA, .int)) (hi : i = nI a) (ha : a < n) (hn : n < 2 ^ 31) (hd : decode cc pc = .ok (.iastore, 1))
    (kk : G p l e R s m args below meth c Q x nL A (qv V g j a v) Y cells slots (pc + 1) lo st) : G p l e R s m args below meth c Q x nL A V Y cells slots pc lo (.int v :: .int i :: .ref (qal x g j) :: st) := by
  intro H locs ls hP hS hl
  obtain ⟨q, h1, hq⟩ := qw_at V Y hm
  rw [he] at hq
  subst hi
  refine va_iast C.1 C.2.1 C.2.2.2.2.2.1 hP ((qw_D C.2.2.2.2.2.2.1 V Y).weaken (fun _ _ _ h => hA _ h)) hS q t0 hq ht (vp_in_nI ha hn) hd (fun H1 locs1 hP1 _ hS1 => ?_)
  rw [nI_clamp (by omega), ← he, qw_setV C.2.2.2.2.2.2.1 h1] at hP1
  exact kk H1 locs1 ls hP1 hS1 hl
theorem gq_zast (C : Cx p s m args meth c x nL A cc own Ts) (hA : ∀ q, qA x q → A q) {g j n a t0 : Nat} {cA : ClassId} {i v : Int32} (hm : (g, j) ∈ qI x) (he : ∀ f, qcf x g j f (Y g j) = .inl (cA, n, .inl f)) (ht : (qty x)[t0]? = some (cA, .boolean)) (hi : i = nI a) (ha : a < n) (hn : n < 2 ^ 31) (hv : vp_nar .boolean v = v) (hd : decode cc pc = .ok (.bastore, 1))
    (kk : G p l e R s m args below meth c Q x nL A (qv V g j a v) Y cells slots (pc + 1) lo st) : G p l e R s m args below meth c Q x nL A V Y cells slots pc lo (.int v :: .int i :: .ref (qal x g j) :: st) := by
  intro H locs ls hP hS hl
  obtain ⟨q, h1, hq⟩ := qw_at V Y hm
  rw [he] at hq
  subst hi
  refine va_zast C.1 C.2.1 C.2.2.2.2.2.1 hP ((qw_D C.2.2.2.2.2.2.1 V Y).weaken (fun _ _ _ h => hA _ h)) hS q t0 hq ht (vp_in_nI ha hn) hd (fun H1 locs1 hP1 _ hS1 => ?_)
  rw [nI_clamp (by omega), hv, ← he, qw_setV C.2.2.2.2.2.2.1 h1] at hP1
  exact kk H1 locs1 ls hP1 hS1 hl
theorem gq_last (C : Cx p s m args meth c x nL A cc own Ts) (hA : ∀ q, qA x q → A q) {g j n a t0 : Nat} {cA : ClassId} {i : Int32} {v : Int64} (hm : (g, j) ∈ qI x) (he : ∀ f, qcf x g j (V g j) f = .inl (cA, n, .inr (.inl f))) (ht : (qty x)[t0]? = some (cA, .long)) (hi : i = nI a) (ha : a < n) (hn : n < 2 ^ 31) (hd : decode cc pc = .ok (.lastore, 1))
    (kk : G p l e R s m args below meth c Q x nL A V (qy Y g j a v) cells slots (pc + 1) lo st) : G p l e R s m args below meth c Q x nL A V Y cells slots pc lo (.long v :: .int i :: .ref (qal x g j) :: st) := by
  intro H locs ls hP hS hl
  obtain ⟨q, h1, hq⟩ := qw_at V Y hm
  rw [he] at hq
  subst hi
  refine va_last C.1 C.2.1 C.2.2.2.2.2.1 hP ((qw_D C.2.2.2.2.2.2.1 V Y).weaken (fun _ _ _ h => hA _ h)) hS q t0 hq ht (vp_in_nI ha hn) hd (fun H1 locs1 hP1 _ hS1 => ?_)
  rw [nI_clamp (by omega), ← he, qw_setY C.2.2.2.2.2.2.1 h1] at hP1
  exact kk H1 locs1 ls hP1 hS1 hl
end QR
end
section
/-! Contracts over the worlds V, Y, and calls. A method's contract CT: with the arguments av and the heap V, Y it ends as res says (a value, or an exception of a class), the heap is V', Y', and no old cell outside A has changed (A is qA x, or qN where it writes nothing). -/
def qN : Nat → Prop := fun _ => False
def qO (res : Option Value ⊕ String) (st : State) (o : Outcome) (t : State) : Prop := match res with
  | .inl v => o = .returned v
  | .inr X => ∃ (a : Addr) (cell : Cell), o = .threw a ∧ t.heap[a]? = some cell ∧ cell.vm.isStatics = false ∧ st.vm.findClass X = some cell.cls
def qPost (x : qX) (A : Nat → Prop) (rm : Room) (res : Option Value ⊕ String) (V' : qV) (Y' : qY) (st : State) (o : Outcome) (t : State) : Prop :=
  qO res st o t ∧ va_P (qD x) (qcl x) (qw x V' Y') t.heap ∧ va_F A st t ∧ st.WarmedH t.vm ∧ ∃ L : List Loc, st.sameButNew ({ t with vm := st.vm } : State) L rm.cells rm.slots ∧ ∀ q ∈ L, A q.base
def qQ (below : List Frame) (x : qX) (A : Nat → Prop) (rm : Room) (res : Option Value ⊕ String) (V' : qV) (Y' : qY) (st : State) : State → Prop := fun t => ∃ o, t.status = .running ∧ Ended t below o ∧ qPost x A rm res V' Y' st o t
def qPre (x : qX) (A : Nat → Prop) (av : List Value) (V : qV) (Y : qY) (a : Array Value) (U : State) : Prop := a = av.toArray ∧ va_P (qD x) (qcl x) (qw x V Y) U.heap ∧ va_K (qD x) (qcl x) (qty x) U ∧ qZs A U
def CT (l : Launch) (y : MethodName) (rm : Room) (x : qX) (A : Nat → Prop) (av : List Value) (V : qV) (Y : qY) (res : Option Value ⊕ String) (V' : qV) (Y' : qY) : Prop :=
  MetFree l y (headSpec QT rm) (qPre x A av V Y) (fun _ _ _ _ _ => True) (fun _ st o t => qPost x A rm res V' Y' st o t)
/-- the world's cells were there at the method's start -/
def qlt (x : qX) (s : State) : Prop := ∀ q, qA x q → q < s.heap.size
theorem qlt_of {x : qX} {V : qV} {Y : qY} {s : State} (h : va_P (qD x) (qcl x) (qw x V Y) s.heap) : qlt x s := by
  rintro q ⟨⟨g, j⟩, hm, rfl⟩
  obtain ⟨k, -, hk⟩ := qw_at V Y hm
  exact (h k _ hk).lt
theorem CT.of {l : Launch} {y : MethodName} {rm : Room} {x : qX} {A : Nat → Prop} {av : List Value} {V V' : qV} {Y Y' : qY} {res : Option Value ⊕ String} {cc : ByteArray} {maxL : Nat} {ret : Option FieldType} (hok : qok x) (hy : plainName y.cls = true) (hcw : Cond.code y cc maxL ret ∈ QT) (hlen : (lg_sl av).length ≤ maxL)
    (body : ∀ (p : Program) (e : Env) (s : State) (m : MethodId) (below : List Frame) (meth : Method) (c : Code), Cx p s m av.toArray meth c x maxL A cc y.cls QT → meth.sig.returnType = ret → c.exceptionTable.isEmpty = true → qlt x s → G p l e rm s m av.toArray below meth c (qQ below x A rm res V' Y' s) x maxL A V Y 0 0 0 (lv_args 0 av) []) : CT l y rm x A av V Y res V' Y' := by
  refine MetFree.of_bodyS (code := cc) (maxLocals := maxL) (ret := ret) hy ?_ ?_
  · intro args s m h hn
    obtain ⟨meth, c, h1, h2, h3, h4, h5, h6, -, -⟩ := Cond.code_spec hn (atoms_spec (ws := QT) h _ hcw)
    exact ⟨meth, c, h1, h2, h3, h4, h5, h6⟩
  · intro p e s m args below meth c s₁ B hml hP _
    obtain ⟨rfl, hPP, hK, hZ⟩ := hP
    have hh0 : s₁.heap = s.heap := by rw [B.state]; rfl
    have hts := atoms_spec (ws := QT) B.pre
    have X := Stand.of_body B
    have C : Cx p s m av.toArray meth c x maxL A cc y.cls QT := ⟨B.exec, B.bytes, hml, findClass_of_methodNamed B.named, hts, hK, hok, B.notSynchronized, hZ⟩
    have K : W p l e rm s m av.toArray below meth c s.heap [] 0 0 (qQ below x A rm res V' Y' s) (entryFrame m av.toArray maxL) := by
      rw [lg_entry_eq]
      exact body p e s m below meth c C B.returns (B.noHandlers (hts _ hcw)) (qlt_of hPP) s.heap [] _ hPP va_S.rf (lv_entry av (n := maxL) hlen)
    obtain ⟨t, a1, o, b1, b2, b3⟩ := K s₁ hh0 X
    exact ⟨t, o, a1, b1, b2, b3⟩
section QC
variable {p : Program} {l : Launch} {e : Env} {R : Room} {s : State} {m : MethodId} {args : Array Value} {below : List Frame} {meth : Method} {c : Code} {Q : State → Prop} {x : qX} {nL : Nat} {A B : Nat → Prop} {V V' : qV} {Y Y' : qY} {cells slots pc : Nat} {lo lo' : List (Nat × Value)} {st : List Value} {cc : ByteArray} {own : String} {Ts : List Cond}
theorem W_mono {Q' : State → Prop} {H : Heap} {locs : List Loc} {g : JFrame} (h : ∀ t, Q t → Q' t) (k : W p l e R s m args below meth c H locs cells slots Q g) : W p l e R s m args below meth c H locs cells slots Q' g := by
  intro T hT X
  obtain ⟨t, a, b⟩ := k T hT X
  exact ⟨t, a, h t b⟩
theorem q_end {rm : Room} {H : Heap} {locs : List Loc} {o₀ : Outcome} {v : Option Value} (hP : va_P (qD x) (qcl x) (qw x V Y) H) (hS : va_S A s.heap H locs) (ho : o₀ = .returned v) (t : State) (h : MQ below (fun _ _ o t => o = o₀ ∧ t.heap = H) args s rm.cells rm.slots A t) : qQ below x A rm (.inl v) V Y s t := by
  obtain ⟨o, h1, h2, ⟨rfl, hH⟩, L, ⟨-, hW, hsm⟩, hL⟩ := h
  exact ⟨_, h1, h2, ho, by rw [hH]; exact hP, hS.F hH, hW, L, hsm, hL⟩
theorem gq_iret (C : Cx p s m args meth c x nL A cc own Ts) {rm : Room} {v : Int32} (hr : meth.sig.returnType = some .int) (hc : cells ≤ rm.cells) (hs : slots ≤ rm.slots) (hd : decode cc pc = .ok (.ireturn, 1)) : G p l e R s m args below meth c (qQ below x A rm (.inl (some (.int v))) V Y s) x nL A V Y cells slots pc lo [.int v] := by
  intro H locs ls hP hS hl
  refine W.widen hc hs ?_
  exact W_mono (q_end hP hS rfl) (W.iret C.1 C.2.1 hr (fun t ht _ => ⟨rfl, ht⟩) hS.2.2 hd C.2.2.2.2.2.2.2.1)
theorem gq_zret (C : Cx p s m args meth c x nL A cc own Ts) {rm : Room} {v : Int32} {ty : FieldType} (hr : meth.sig.returnType = some ty) (hn : narrow ty (.int v) = .int v) (hc : cells ≤ rm.cells) (hs : slots ≤ rm.slots) (hd : decode cc pc = .ok (.ireturn, 1)) : G p l e R s m args below meth c (qQ below x A rm (.inl (some (.int v))) V Y s) x nL A V Y cells slots pc lo [.int v] := by
  intro H locs ls hP hS hl
  refine W.widen hc hs ?_
  exact W_mono (q_end hP hS rfl) (W.zret C.1 C.2.1 hr hn (fun t ht _ => ⟨rfl, ht⟩) hS.2.2 hd C.2.2.2.2.2.2.2.1)
theorem gq_lret (C : Cx p s m args meth c x nL A cc own Ts) {rm : Room} {v : Int64} (hr : meth.sig.returnType = some .long) (hc : cells ≤ rm.cells) (hs : slots ≤ rm.slots) (hd : decode cc pc = .ok (.lreturn, 1)) : G p l e R s m args below meth c (qQ below x A rm (.inl (some (.long v))) V Y s) x nL A V Y cells slots pc lo [.long v] := by
  intro H locs ls hP hS hl
  refine W.widen hc hs ?_
  exact W_mono (q_end hP hS rfl) (W.lret C.1 C.2.1 hr (fun t ht _ => ⟨rfl, ht⟩) hS.2.2 hd C.2.2.2.2.2.2.2.1)
theorem gq_vret (C : Cx p s m args meth c x nL A cc own Ts) {rm : Room} (hr : meth.sig.returnType = none) (hc : cells ≤ rm.cells) (hs : slots ≤ rm.slots) (hd : decode cc pc = .ok (.return_, 1)) : G p l e R s m args below meth c (qQ below x A rm (.inl none) V Y s) x nL A V Y cells slots pc lo [] := by
  intro H locs ls hP hS hl
  refine W.widen hc hs ?_
  exact W_mono (q_end hP hS rfl) (W.vret C.1 C.2.1 hr (fun t ht _ => ⟨rfl, ht⟩) hS.2.2 hd C.2.2.2.2.2.2.2.1)
theorem q_ls {u U : State} {C n d : String} {a0 a1 : Array Value} (hz : va_Zq C n d A u u.heap) (h : (Cond.laysStatic C n d).before a0 u = true) (hvm : u.vm.Alike U.vm) (hk : ∀ a : Nat, a < u.heap.size → ¬ A a → U.heap[a]? = u.heap[a]?) : (Cond.laysStatic C n d).before a1 U = true := by
  obtain ⟨c, k, i, f, a, cell, hc, hi, hst, ha, hcell, hs, hcls, hlt, hty⟩ := Cond.laysStatic_spec h
  have hn : ¬ A a := by
    rcases hz with ⟨cf, kf, fi, f', a', cell', h1, h2, h3, h4, h5, h6, h7, h8⟩ | ⟨t, cf, kf, fi, f', a', cell', h1, h2, h3, h4, h5, h6, h7, h8⟩
    · have e := hi.symm.trans h1
      simp only [Option.some.injEq, Prod.mk.injEq] at e
      obtain ⟨-, e2, -⟩ := e
      subst e2
      cases ha.symm.trans h4
      exact h8
    · have e := hi.symm.trans h1
      simp only [Option.some.injEq, Prod.mk.injEq] at e
      obtain ⟨-, e2, -⟩ := e
      subst e2
      cases ha.symm.trans h4
      exact h8
  obtain ⟨k', hi', hek⟩ := State.fieldFound?_setVm (vm' := U.vm) hvm hi
  refine Cond.laysStatic_of (s := U) (c := c) (k := k') (i := i) (f := f) (a := a) (cell := cell) ?_ hi' hst (by rw [hek]; exact ha) ?_ hs hcls hlt (by rw [hek]; exact hty)
  · rw [hvm.findClass]
    exact hc
  · rw [hk a (Array.getElem?_eq_some_iff.mp hcell).1 hn]
    exact hcell
theorem qZs_moved {u U : State} (h : qZs A u) (hvm : u.vm.Alike U.vm) (hk : ∀ a : Nat, a < u.heap.size → ¬ A a → U.heap[a]? = u.heap[a]?) (hAB : ∀ q, B q → A q) : qZs B U :=
  ⟨⟨((h.1.1.kept hk).moved hvm).narrow hAB, ((h.1.2.kept hk).moved hvm).narrow hAB⟩, q_ls h.1.1 h.2.1 hvm hk, q_ls h.1.2 h.2.2 hvm hk⟩
/-- the machine from a call's invocation to its end, by the contract -/
theorem q_call {T : State} {locs : List Loc} {y : MethodName} {rm : Room} {av : List Value} {res : Option Value ⊕ String} {bytes : ByteArray} {maxL : Nat} {ret : Option FieldType} (C : Cx p s m args meth c x nL A cc own QT) (X : Stand p l e R s m args below meth c T locs cells slots) (hM : CT l y rm x B av V Y res V' Y') (hB : ∀ q, B q → A q)
    (hcode : Cond.code y bytes maxL ret ∈ QT) (hini : Cond.initialized y.cls ∈ QT) (hR : rm.frames + 1 ≤ R.frames ∧ 8 + (maxL + 11) + rm.locals ≤ R.locals) (hf : cells + rm.cells ≤ R.cells ∧ slots + rm.slots ≤ R.slots)
    (hP : va_P (qD x) (qcl x) (qw x V Y) T.heap) (hS : va_S A s.heap T.heap locs) {g : JFrame} (hg : g.method = m) (hsize : g.locals.size = nL) {ig : Instr} {len : Nat} (hdg : decode c.code g.pc = .ok (ig, len)) (hW : 2 * g.monitorRoom + (g.stack.map fun v => v.category).sum ≤ 8) {mk : MethodId} (hn : s.methodNamed? y = some mk) :
    ∃ (o : Outcome) (t : State), Steps p.tables e below (doInvoke e (T.setTop g) [] mk av.toArray).1 t ∧ Ended t (.java g :: below) o ∧ qPost x B rm res V' Y' (T.calling g mk av.toArray) o t := by
  have hws : ∀ w ∈ QT, w.before av.toArray T = true := fun w hw => qgw_at X.warmed (QT_qgw w hw) (C.2.2.2.2.1 w hw)
  have hnT : T.methodNamed? y = some mk := X.named hn
  obtain ⟨methY, cY, hmY, hcY, -, hlY, -, -, -, -⟩ := Cond.code_spec hnT (hws _ hcode)
  obtain ⟨kY, hkY, -⟩ := className_of_methodNamed hnT
  have hinitY : kY.init = .initialized := Cond.initialized_spec (findClass_of_methodNamed hnT) hkY (hws _ hini)
  have h : At T g.method c below := by rw [hg]; exact X.here
  have happ : (headSpec QT rm).appliesLoose y e.platform (T.calling g mk av.toArray) = true :=
    Spec.appliesLoose_calling (g := g) h hdg hnT hkY hinitY (X.room_calling (g := g) (R' := rm) (hsize.trans C.2.2.1.symm) hmY hcY hR.1 (by rw [hlY]; omega) hf.1 hf.2) (atoms_intro hws)
  have hfr : (T.setTop g).frames = [.java g] ++ below := by rw [State.frames_setTop' g h.top, X.tail]; rfl
  obtain ⟨o, t, hsteps, -, hend, hq⟩ := Steps.callFree hM p X.admits X.cas X.clock (acts := []) hfr happ
    ⟨rfl, hP, va_K.moved (u := s) X.warmed.alike C.2.2.2.2.2.1, qZs_moved (U := T) C.2.2.2.2.2.2.2.2 X.warmed.alike hS.2.1 hB⟩ trivial
  rw [hfr] at hend
  exact ⟨o, t, hsteps, hend, hq⟩
theorem q_S {H : Heap} {locs L : List Loc} {T st t : State} (hS : va_S A s.heap H locs) (hT : T.heap = H) (hst : st.heap = T.heap) (hF : va_F B st t) (hA : ∀ q, B q → A q) (hL : ∀ q ∈ L, B q.base) : va_S A s.heap t.heap (locs ++ L) := by
  obtain ⟨h1, h2⟩ := hF
  rw [hst, hT] at h1 h2
  refine ⟨Nat.le_trans hS.1 h1, fun q hq hn => ?_, fun q hq => ?_⟩
  · rw [h2 q (Nat.lt_of_lt_of_le hq hS.1) (fun z => hn (hA q z))]
    exact hS.2.1 q hq hn
  · rcases List.mem_append.mp hq with h | h
    · exact hS.2.2 q h
    · exact hA _ (hL q h)
/-- a call of a method that comes back -/
theorem gq_callS (C : Cx p s m args meth c x nL A cc own QT) {y : MethodName} {rm : Room} {av : List Value} {v : Option Value} {bytes : ByteArray} {maxL index : Nat} {ret : Option FieldType} {stk : List Value} (hB : ∀ q, B q → A q) (hM : CT l y rm x B av V Y (.inl v) V' Y')
    (hlink : Cond.methodLink own index y ∈ QT) (hst : Cond.static y ∈ QT) (hcode : Cond.code y bytes maxL ret ∈ QT) (hini : Cond.initialized y.cls ∈ QT) (hy : y.cls ≠ "java/lang/invoke/MethodHandle" ∧ y.cls ≠ "java/lang/invoke/VarHandle" ∧ (parseMethodDescriptor y.desc).map (fun d => d.parameters.length) = some av.length)
    (hR : rm.frames + 1 ≤ R.frames ∧ 8 + (maxL + 11) + rm.locals ≤ R.locals) (hf : cells + rm.cells ≤ R.cells ∧ slots + rm.slots ≤ R.slots) (hk : stk = av.reverse ++ st) (hW : (st.map fun v => v.category).sum ≤ 8) (hd : decode cc pc = .ok (.invokestatic index, 3))
    (kk : G p l e R s m args below meth c Q x nL A V' Y' (cells + rm.cells) (slots + rm.slots) (pc + 3) lo (v.toList ++ st)) : G p l e R s m args below meth c Q x nL A V Y cells slots pc lo stk := by
  intro H locs ls hP hS hl T hT X
  have hts := C.2.2.2.2.1
  obtain ⟨mk, hnamed⟩ := Cond.code_named (hts _ hcode)
  obtain ⟨methM, cM, hmethM, -, -, -, -, -, -, hsigM⟩ := Cond.code_spec hnamed (hts _ hcode)
  obtain ⟨kP, hkP, -⟩ := className_of_methodNamed hnamed
  have hlen : av.length = methM.sig.parameters.length := by
    have h2 := hy.2.2
    rw [hsigM] at h2
    exact (Option.some.inj h2).symm
  obtain ⟨vm₁, X₁, st1⟩ := X.invokestatic C.1 C.2.2.2.1 (hts _ hlink) hnamed hmethM (Cond.static_spec hnamed hmethM (hts _ hst)) hkP (Cond.initialized_spec (findClass_of_methodNamed hnamed) hkP (hts _ hini)) ⟨hy.1, hy.2.1⟩ (g := F0 m pc ls stk) rfl (argsL := av) (rest := st) hlen hk (by rw [C.2.1]; exact hd)
  obtain ⟨o, t, a1, a2, ⟨a3, a4, a5, a6, L, a7, a8⟩⟩ := q_call C X₁ hM hB hcode hini hR hf (by rw [show (T.setVm vm₁).heap = H from hT]; exact hP) (by rw [show (T.setVm vm₁).heap = H from hT]; exact hS) (g := F0 m pc ls st) rfl hl.1 (by rw [C.2.1]; exact hd) (by show 2 * 0 + (st.map fun v => v.category).sum ≤ 8; omega) hnamed
  obtain rfl : o = .returned v := a3
  obtain ⟨T', X', -, -, ht⟩ := X₁.outOf (g := F0 m pc ls st) rfl (by rw [C.2.1]; exact hd) a2 a6 a7
  have hT' : T'.heap = t.heap := by rw [ht]; rfl
  obtain ⟨t2, b1, b2⟩ := kk T'.heap (locs ++ L) ls (by rw [hT']; exact a4) (by rw [hT']; exact q_S hS (T := T.setVm vm₁) hT rfl a5 hB a8) hl T' rfl X'
  refine ⟨t2, st1 _ (fun acts => ?_), b2⟩
  rw [doInvoke_state]
  refine a1.trans ?_
  rw [ht]
  exact b1
theorem gq_callV (C : Cx p s m args meth c x nL A cc own QT) {y : MethodName} {rm : Room} {bytes : ByteArray} {maxL index : Nat} {ret : Option FieldType} {stk : List Value} {As : List Value} {g j ci : Nat} {C0 : vw_C} {fs : List Value} {v : Option Value} (hB : ∀ q, B q → A q) (hM : CT l y rm x B (.ref (qal x g j) :: As) V Y (.inl v) V' Y')
    (hm : (g, j) ∈ qI x) (he : qcf x g j (V g j) (Y g j) = .inr (ci, fs)) (hc : (qcl x)[ci]? = some C0) (hlink : Cond.methodLink own index y ∈ QT) (hinst : Cond.instanceMethod y ∈ QT) (hsel : Cond.selects C0.1 y y ∈ QT) (hcode : Cond.code y bytes maxL ret ∈ QT) (hini : Cond.initialized y.cls ∈ QT) (hy : y.cls ≠ "java/lang/invoke/MethodHandle" ∧ y.cls ≠ "java/lang/invoke/VarHandle" ∧ (parseMethodDescriptor y.desc).map (fun d => d.parameters.length) = some As.length)
    (hR : rm.frames + 1 ≤ R.frames ∧ 8 + (maxL + 11) + rm.locals ≤ R.locals) (hf : cells + rm.cells ≤ R.cells ∧ slots + rm.slots ≤ R.slots) (hk : stk = As.reverse ++ .ref (qal x g j) :: st) (hW : (st.map fun v => v.category).sum ≤ 8) (hd : decode cc pc = .ok (.invokevirtual index, 3))
    (kk : G p l e R s m args below meth c Q x nL A V' Y' (cells + rm.cells) (slots + rm.slots) (pc + 3) lo (v.toList ++ st)) : G p l e R s m args below meth c Q x nL A V Y cells slots pc lo stk := by
  intro H locs ls hP hS hl T hT X
  have hts := C.2.2.2.2.1
  obtain ⟨mk, methM, hnamed, hmethM, hstM, habM⟩ := Cond.instanceMethod_spec (hts _ hinst)
  obtain ⟨methM', cM, hmethM', -, -, -, -, -, -, hsigM⟩ := Cond.code_spec hnamed (hts _ hcode)
  cases hmethM.symm.trans hmethM'
  obtain ⟨q0, -, hq0⟩ := qw_at V Y hm
  rw [he] at hq0
  obtain ⟨cellB, hcB, hoB, hclB⟩ := va_recv C.2.2.2.2.2.1 hP hc hq0
  obtain ⟨c2, r2, m2, q1, q2, q3, q4, kP, hkP, hkPi⟩ := Cond.selects_spec (hts _ hsel)
  cases hclB.symm.trans q1
  cases (State.methodFound?_of_named hnamed ⟨hy.1, hy.2.1⟩).symm.trans q2
  cases hnamed.symm.trans q3
  have hselP : selectMethod e.platform s.vm cellB.cls mk = .method mk := by rw [Launch.admits_selectMethod X.admits]; exact q4
  have hlen : As.length = methM.sig.parameters.length := by
    have h2 := hy.2.2
    rw [hsigM] at h2
    exact (Option.some.inj h2).symm
  obtain ⟨vm₁, X₁, st1⟩ := X.invokevirtual C.1 C.2.2.2.1 (hts _ hlink) hnamed hmethM hstM hkP hkPi ⟨hy.1, hy.2.1⟩ (a := qal x g j) (cell := cellB) (by rw [hT]; exact hcB) (fun z h => by rw [h] at hoB; cases hoB) hselP hmethM habM hkP hkPi (g := F0 m pc ls stk) rfl (argsL := As) (rest := st) hlen hk (by rw [C.2.1]; exact hd)
  obtain ⟨o, t, a1, a2, ⟨a3, a4, a5, a6, L, a7, a8⟩⟩ := q_call C X₁ hM hB hcode hini hR hf (by rw [show (T.setVm vm₁).heap = H from hT]; exact hP) (by rw [show (T.setVm vm₁).heap = H from hT]; exact hS) (g := F0 m pc ls st) rfl hl.1 (by rw [C.2.1]; exact hd) (by show 2 * 0 + (st.map fun v => v.category).sum ≤ 8; omega) hnamed
  obtain rfl : o = .returned v := a3
  obtain ⟨T', X', -, -, ht⟩ := X₁.outOf (g := F0 m pc ls st) rfl (by rw [C.2.1]; exact hd) a2 a6 a7
  have hT' : T'.heap = t.heap := by rw [ht]; rfl
  obtain ⟨t2, b1, b2⟩ := kk T'.heap (locs ++ L) ls (by rw [hT']; exact a4) (by rw [hT']; exact q_S hS (T := T.setVm vm₁) hT rfl a5 hB a8) hl T' rfl X'
  refine ⟨t2, st1 _ (fun acts => ?_), b2⟩
  rw [doInvoke_state]
  refine a1.trans ?_
  rw [ht]
  exact b1
/-- a call of a method that throws, in a method without a table: it throws too -/
theorem gq_thrS (C : Cx p s m args meth c x nL A cc own QT) {y : MethodName} {rm : Room} {bytes : ByteArray} {maxL index : Nat} {ret : Option FieldType} {stk : List Value} {av : List Value} {X0 : String} {rm0 : Room} (hex : c.exceptionTable.isEmpty = true) (hB : ∀ q, B q → A q) (hM : CT l y rm x B av V Y (.inr X0) V' Y')
    (hlink : Cond.methodLink own index y ∈ QT) (hst : Cond.static y ∈ QT) (hcode : Cond.code y bytes maxL ret ∈ QT) (hini : Cond.initialized y.cls ∈ QT) (hy : y.cls ≠ "java/lang/invoke/MethodHandle" ∧ y.cls ≠ "java/lang/invoke/VarHandle" ∧ (parseMethodDescriptor y.desc).map (fun d => d.parameters.length) = some av.length)
    (hR : rm.frames + 1 ≤ R.frames ∧ 8 + (maxL + 11) + rm.locals ≤ R.locals) (hf : cells + rm.cells ≤ R.cells ∧ slots + rm.slots ≤ R.slots) (hf2 : cells + rm.cells ≤ rm0.cells ∧ slots + rm.slots ≤ rm0.slots) (hk : stk = av.reverse ++ st) (hW : (st.map fun v => v.category).sum ≤ 8) (hd : decode cc pc = .ok (.invokestatic index, 3)) :
    G p l e R s m args below meth c (qQ below x A rm0 (.inr X0) V' Y' s) x nL A V Y cells slots pc lo stk := by
  intro H locs ls hP hS hl T hT X
  have hts := C.2.2.2.2.1
  obtain ⟨mk, hnamed⟩ := Cond.code_named (hts _ hcode)
  obtain ⟨methM, cM, hmethM, -, -, -, -, -, -, hsigM⟩ := Cond.code_spec hnamed (hts _ hcode)
  obtain ⟨kP, hkP, -⟩ := className_of_methodNamed hnamed
  have hlen : av.length = methM.sig.parameters.length := by
    have h2 := hy.2.2
    rw [hsigM] at h2
    exact (Option.some.inj h2).symm
  obtain ⟨vm₁, X₁, st1⟩ := X.invokestatic C.1 C.2.2.2.1 (hts _ hlink) hnamed hmethM (Cond.static_spec hnamed hmethM (hts _ hst)) hkP (Cond.initialized_spec (findClass_of_methodNamed hnamed) hkP (hts _ hini)) ⟨hy.1, hy.2.1⟩ (g := F0 m pc ls stk) rfl (argsL := av) (rest := st) hlen hk (by rw [C.2.1]; exact hd)
  obtain ⟨o, t, a1, a2, ⟨a3, a4, a5, a6, L, a7, a8⟩⟩ := q_call C X₁ hM hB hcode hini hR hf (by rw [show (T.setVm vm₁).heap = H from hT]; exact hP) (by rw [show (T.setVm vm₁).heap = H from hT]; exact hS) (g := F0 m pc ls st) rfl hl.1 (by rw [C.2.1]; exact hd) (by show 2 * 0 + (st.map fun v => v.category).sum ≤ 8; omega) hnamed
  obtain ⟨a, cell, rfl, h4, h5, h6⟩ := a3
  obtain ⟨T', X', -, -, ht⟩ := X₁.outOfThrown (g := F0 m pc ls st) rfl a2 a6 a7
  have hT' : T'.heap = t.heap := by rw [ht]; rfl
  obtain ⟨w1, w2, w3, w4, w5⟩ := X'.leaveThrown a (g := F0 m pc ls st) rfl rfl rfl (by
    intro z hz
    have h0 : c.exceptionTable.toList = [] := by simpa using hex
    rw [h0] at hz
    cases hz) C.2.2.2.2.2.2.2.1
  refine ⟨_, st1 _ (fun acts => ?_), .threw a, w2, w3, ⟨a, cell, rfl, ?_, h5, ?_⟩, ?_, ?_, w4, _, w5.weaken (fun _ h _ => h) hf2.1 hf2.2, ?_⟩
  · rw [doInvoke_state]
    refine a1.trans ?_
    rw [ht]
    exact w1
  · show T'.heap[a]? = _
    rw [hT']; exact h4
  · rw [← h6]
    exact (X₁.warmed.alike.findClass _ _).symm
  · show va_P _ _ _ T'.heap
    rw [hT']; exact a4
  · have := q_S hS (T := T.setVm vm₁) hT rfl a5 hB a8
    rw [← hT'] at this
    exact va_S.F (t := T'.setFrames (.throwing a :: below)) this rfl
  · intro q hq
    rcases List.mem_append.mp hq with h | h
    · exact hS.2.2 q h
    · exact hB _ (a8 q h)
/-- a call of a method that throws, in a method without a table: it throws too -/
theorem gq_thrV (C : Cx p s m args meth c x nL A cc own QT) {y : MethodName} {rm : Room} {bytes : ByteArray} {maxL index : Nat} {ret : Option FieldType} {stk : List Value} {As : List Value} {g j ci : Nat} {C0 : vw_C} {fs : List Value} {X0 : String} {rm0 : Room} (hex : c.exceptionTable.isEmpty = true) (hB : ∀ q, B q → A q) (hM : CT l y rm x B (.ref (qal x g j) :: As) V Y (.inr X0) V' Y')
    (hm : (g, j) ∈ qI x) (he : qcf x g j (V g j) (Y g j) = .inr (ci, fs)) (hc : (qcl x)[ci]? = some C0) (hlink : Cond.methodLink own index y ∈ QT) (hinst : Cond.instanceMethod y ∈ QT) (hsel : Cond.selects C0.1 y y ∈ QT) (hcode : Cond.code y bytes maxL ret ∈ QT) (hini : Cond.initialized y.cls ∈ QT) (hy : y.cls ≠ "java/lang/invoke/MethodHandle" ∧ y.cls ≠ "java/lang/invoke/VarHandle" ∧ (parseMethodDescriptor y.desc).map (fun d => d.parameters.length) = some As.length)
    (hR : rm.frames + 1 ≤ R.frames ∧ 8 + (maxL + 11) + rm.locals ≤ R.locals) (hf : cells + rm.cells ≤ R.cells ∧ slots + rm.slots ≤ R.slots) (hf2 : cells + rm.cells ≤ rm0.cells ∧ slots + rm.slots ≤ rm0.slots) (hk : stk = As.reverse ++ .ref (qal x g j) :: st) (hW : (st.map fun v => v.category).sum ≤ 8) (hd : decode cc pc = .ok (.invokevirtual index, 3)) :
    G p l e R s m args below meth c (qQ below x A rm0 (.inr X0) V' Y' s) x nL A V Y cells slots pc lo stk := by
  intro H locs ls hP hS hl T hT X
  have hts := C.2.2.2.2.1
  obtain ⟨mk, methM, hnamed, hmethM, hstM, habM⟩ := Cond.instanceMethod_spec (hts _ hinst)
  obtain ⟨methM', cM, hmethM', -, -, -, -, -, -, hsigM⟩ := Cond.code_spec hnamed (hts _ hcode)
  cases hmethM.symm.trans hmethM'
  obtain ⟨q0, -, hq0⟩ := qw_at V Y hm
  rw [he] at hq0
  obtain ⟨cellB, hcB, hoB, hclB⟩ := va_recv C.2.2.2.2.2.1 hP hc hq0
  obtain ⟨c2, r2, m2, q1, q2, q3, q4, kP, hkP, hkPi⟩ := Cond.selects_spec (hts _ hsel)
  cases hclB.symm.trans q1
  cases (State.methodFound?_of_named hnamed ⟨hy.1, hy.2.1⟩).symm.trans q2
  cases hnamed.symm.trans q3
  have hselP : selectMethod e.platform s.vm cellB.cls mk = .method mk := by rw [Launch.admits_selectMethod X.admits]; exact q4
  have hlen : As.length = methM.sig.parameters.length := by
    have h2 := hy.2.2
    rw [hsigM] at h2
    exact (Option.some.inj h2).symm
  obtain ⟨vm₁, X₁, st1⟩ := X.invokevirtual C.1 C.2.2.2.1 (hts _ hlink) hnamed hmethM hstM hkP hkPi ⟨hy.1, hy.2.1⟩ (a := qal x g j) (cell := cellB) (by rw [hT]; exact hcB) (fun z h => by rw [h] at hoB; cases hoB) hselP hmethM habM hkP hkPi (g := F0 m pc ls stk) rfl (argsL := As) (rest := st) hlen hk (by rw [C.2.1]; exact hd)
  obtain ⟨o, t, a1, a2, ⟨a3, a4, a5, a6, L, a7, a8⟩⟩ := q_call C X₁ hM hB hcode hini hR hf (by rw [show (T.setVm vm₁).heap = H from hT]; exact hP) (by rw [show (T.setVm vm₁).heap = H from hT]; exact hS) (g := F0 m pc ls st) rfl hl.1 (by rw [C.2.1]; exact hd) (by show 2 * 0 + (st.map fun v => v.category).sum ≤ 8; omega) hnamed
  obtain ⟨a, cell, rfl, h4, h5, h6⟩ := a3
  obtain ⟨T', X', -, -, ht⟩ := X₁.outOfThrown (g := F0 m pc ls st) rfl a2 a6 a7
  have hT' : T'.heap = t.heap := by rw [ht]; rfl
  obtain ⟨w1, w2, w3, w4, w5⟩ := X'.leaveThrown a (g := F0 m pc ls st) rfl rfl rfl (by
    intro z hz
    have h0 : c.exceptionTable.toList = [] := by simpa using hex
    rw [h0] at hz
    cases hz) C.2.2.2.2.2.2.2.1
  refine ⟨_, st1 _ (fun acts => ?_), .threw a, w2, w3, ⟨a, cell, rfl, ?_, h5, ?_⟩, ?_, ?_, w4, _, w5.weaken (fun _ h _ => h) hf2.1 hf2.2, ?_⟩
  · rw [doInvoke_state]
    refine a1.trans ?_
    rw [ht]
    exact w1
  · show T'.heap[a]? = _
    rw [hT']; exact h4
  · rw [← h6]
    exact (X₁.warmed.alike.findClass _ _).symm
  · show va_P _ _ _ T'.heap
    rw [hT']; exact a4
  · have := q_S hS (T := T.setVm vm₁) hT rfl a5 hB a8
    rw [← hT'] at this
    exact va_S.F (t := T'.setFrames (.throwing a :: below)) this rfl
  · intro q hq
    rcases List.mem_append.mp hq with h | h
    · exact hS.2.2 q h
    · exact hB _ (a8 q h)
end QC
end
section
/-! 'throw new X()' in a method that has written nothing, and the words that it needs -/
theorem q_isRef {C n d : String} {A : Nat → Prop} {U : State} {args : Array Value} (h : va_Zq C n d A U U.heap) : (Cond.isRef (.static C n d)).before args U = true := by
  rcases h with ⟨cf, kf, fi, f, a, cell, h1, h2, h3, h4, h5, h6, h7, -⟩ | ⟨t, cf, kf, fi, f, a, cell, h1, h2, h3, h4, h5, h6, h7, -⟩
  · simp [Cond.before, Cond.holds, Cond.value, Term.eval, State.fieldNamed?, h1, h2, h4, h5, h6, h7]
  · simp [Cond.before, Cond.holds, Cond.value, Term.eval, State.fieldNamed?, h1, h2, h4, h5, h6, h7]
theorem q_same {s t : State} {k n : Nat} (h : s.sameButNew t [] k n) {a : Nat} (ha : a < s.heap.size) : t.heap[a]? = s.heap[a]? := by
  obtain ⟨c', h1, h2, -, h4⟩ := h.2.2.2.2.2 a s.heap[a] (Array.getElem?_eq_getElem ha)
  have h5 : c'.slots = s.heap[a].slots := Array.ext_getElem? (fun i => h4 i (by simp))
  rw [h1, Array.getElem?_eq_getElem ha, h2, h5]
/-- the words of a throw: all in QT, but for two that speak of statics -/
def qTw (own : String) (ic : Nat) (X0 : String) (names : List String) : Prop := ∀ a ∈ Bundle.ownAtoms0 own ic X0 names, a ∈ QT ∨ a = .isRef (.static Bundle.tN "UNASSIGNED_STACK" Bundle.steD) ∨ a = .isRef (.static Bundle.tN "SUPPRESSED_SENTINEL" Bundle.listD) ∨ a = .laysStatic Bundle.tN "UNASSIGNED_STACK" Bundle.steD ∨ a = .laysStatic Bundle.tN "SUPPRESSED_SENTINEL" Bundle.listD
section QT0
variable {p : Program} {l : Launch} {e : Env} {R : Room} {s : State} {m : MethodId} {args : Array Value} {below : List Frame} {meth : Method} {c : Code} {x : qX} {nL : Nat} {V : qV} {Y : qY} {cells slots pc : Nat} {lo : List (Nat × Value)} {st : List Value} {cc : ByteArray} {own : String}
theorem gq_throw (C : Cx p s m args meth c x nL qN cc own QT) (hadm : ∀ e, l.admits e → e.platform.stackTraces = false) (hex : c.exceptionTable.isEmpty = true) (hlt : qlt x s) {X0 : String} {names : List String} {ia ic : Nat} {rm0 : Room} (hw : qTw own ic X0 names) (hcl : Cond.classLink own ia X0 ∈ QT) (hins : Cond.instantiable X0 6 ∈ QT) (hini : Cond.initialized X0 ∈ QT) (hfit : Bundle.fit X0 = true) (hnames : ∀ n ∈ names, Bundle.fit n = true)
    (hf : cells + 1 ≤ R.cells ∧ slots + 6 ≤ R.slots) (hf2 : cells + 1 ≤ rm0.cells ∧ slots + 6 ≤ rm0.slots) (hRf : names.length + 3 < R.frames) (hRl : 1 + (st.map fun v => v.category).sum + (13 * (names.length + 1) + 41) ≤ R.locals)
    (hd0 : decode cc pc = .ok (.new ia, 3)) (hd3 : decode cc (pc + 3) = .ok (.dup, 1)) (hd4 : decode cc (pc + 3 + 1) = .ok (.invokespecial ic, 3)) (hd7 : decode cc (pc + 3 + 1 + 3) = .ok (.athrow, 1)) :
    G p l e R s m args below meth c (qQ below x qN rm0 (.inr X0) V Y s) x nL qN V Y cells slots pc lo st := by
  intro H locs ls hP hS hl
  have hts := C.2.2.2.2.1
  have hloc : locs = [] := by
    cases locs with
    | nil => rfl
    | cons a t => exact absurd (hS.2.2 a List.mem_cons_self) id
  subst hloc
  refine W.newc C.1 C.2.1 C.2.2.2.1 (hts _ hcl) (hts _ hins) (hts _ hini) (g := F0 m pc ls st) rfl hd0 hf.1 hf.2 (fun cC kC h1 h2 h3 h4 => ?_)
  refine lv_dup C.1 C.2.1 (pc := pc + 3) (ls := ls) (rest := st) (va := .ref H.size) hd3 rfl ?_
  intro T hT X
  have hat : ∀ a ∈ Bundle.ownAtoms0 own ic X0 names, a.before args s = true := by
    intro a ha
    rcases hw a ha with h | rfl | rfl | rfl | rfl
    · exact hts a h
    · exact q_isRef C.2.2.2.2.2.2.2.2.1.1
    · exact q_isRef C.2.2.2.2.2.2.2.2.1.2
    · exact q_ls C.2.2.2.2.2.2.2.2.1.1 C.2.2.2.2.2.2.2.2.2.1 (Vm.Alike.refl _) (fun _ _ _ => rfl)
    · exact q_ls C.2.2.2.2.2.2.2.2.1.2 C.2.2.2.2.2.2.2.2.2.2 (Vm.Alike.refl _) (fun _ _ _ => rfl)
  obtain ⟨U, u1, u2, u3, u4, u5, ce, u6, u7⟩ := X.ctorThrow0 C.1 (hadm e X.admits) (own := own) (cls := X0) (names := names) (ic := ic) C.2.2.2.1 hfit hnames hat (fun z hz => by cases hz) (a := H.size) (cX := cC) (kX := kC) h1 h2
    (by rw [hT]; simp) hS.1 (g := F0 m (pc + 3 + 1) ls (.ref H.size :: .ref H.size :: st)) rfl (hl.1.trans C.2.2.1.symm) rfl rfl rfl (by rw [C.2.1]; exact hd4) (by rw [C.2.1]; exact hd7)
    (by
      intro z hz
      have h0 : c.exceptionTable.toList = [] := by simpa using hex
      rw [h0] at hz
      cases hz) hRf (by
        show 2 * 0 + (1 + (st.map fun v => v.category).sum) + _ ≤ _
        omega) C.2.2.2.2.2.2.2.1
  have hU : ∀ q, q < s.heap.size → U.heap[q]? = s.heap[q]? := fun q hq => q_same u5 hq
  refine ⟨U, u1, .threw H.size, u2, u3, ⟨H.size, ce, rfl, u6, by rw [u7.vm]; rfl, u7.cls⟩, ?_, ⟨?_, fun q hq _ => hU q hq⟩, u4, [], u5.weaken (fun _ h _ => h) hf2.1 hf2.2, fun _ h => by cases h⟩
  · refine hP.kept (fun k q hk => ?_)
    rw [qw_get] at hk
    obtain ⟨a, ha, rfl⟩ := Option.map_eq_some_iff.mp hk
    have hq := hlt _ ⟨a, List.mem_of_getElem? ha, rfl⟩
    rw [hU _ hq, hS.2.1 _ hq id]
  · exact u5.2.1
end QT0
/-! library calls: Math.max of ints, Math.min of longs, System.arraycopy of ints -/
section QM
variable {p : Program} {l : Launch} {e : Env} {R : Room} {s : State} {m : MethodId} {args : Array Value} {below : List Frame} {meth : Method} {c : Code} {Q : State → Prop} {x : qX} {nL : Nat} {A : Nat → Prop} {V : qV} {Y : qY} {cells slots pc : Nat} {lo : List (Nat × Value)} {st : List Value} {cc : ByteArray} {own : String} {Ts : List Cond}
theorem gq_max (C : Cx p s m args meth c x nL A cc own Ts) {index : Nat} {v w : Int32} (hlink : Cond.methodLink own index Lib.Math.max.name ∈ Ts) (hst : Cond.static Lib.Math.max.name ∈ Ts) (hini : Cond.initialized "java/lang/Math" ∈ Ts) (hcode : Cond.code Lib.Math.max.name Lib.Math.max.code 2 (some .int) ∈ Ts) (hfr : 1 ≤ R.frames) (hlo : (st.map fun v => v.category).sum + 13 ≤ R.locals) (hc : cells ≤ R.cells) (hs : slots ≤ R.slots) (hd : decode cc pc = .ok (.invokestatic index, 3))
    (k : G p l e R s m args below meth c Q x nL A V Y cells slots (pc + 3) lo (.int (if v < w then w else v) :: st)) : G p l e R s m args below meth c Q x nL A V Y cells slots pc lo (.int w :: .int v :: st) := fun H locs ls hP hS hl => va_mmax C.1 C.2.1 (C.2.2.1.trans hl.1.symm) C.2.2.2.1 (C.2.2.2.2.1 _ hlink) (C.2.2.2.2.1 _ hst) (C.2.2.2.2.1 _ hini) (C.2.2.2.2.1 _ hcode) hfr hlo hc hs hd (k H locs ls hP hS hl)
theorem gq_minL (C : Cx p s m args meth c x nL A cc own Ts) {index : Nat} {v w : Int64} (hlink : Cond.methodLink own index Lib.MathLoose.min_long.x ∈ Ts) (hst : Cond.static Lib.MathLoose.min_long.x ∈ Ts) (hini : Cond.initialized "java/lang/Math" ∈ Ts) (hcode : Cond.code Lib.MathLoose.min_long.x Lib.MathLoose.min_long.code 4 (some .long) ∈ Ts) (hfr : 1 ≤ R.frames) (hlo : (st.map fun v => v.category).sum + 15 ≤ R.locals) (hc : cells ≤ R.cells) (hs : slots ≤ R.slots) (hd : decode cc pc = .ok (.invokestatic index, 3))
    (k : G p l e R s m args below meth c Q x nL A V Y cells slots (pc + 3) lo (.long (if w < v then w else v) :: st)) : G p l e R s m args below meth c Q x nL A V Y cells slots pc lo (.long w :: .long v :: st) := fun H locs ls hP hS hl => va_mmin_long C.1 C.2.1 (C.2.2.1.trans hl.1.symm) C.2.2.2.1 (C.2.2.2.2.1 _ hlink) (C.2.2.2.2.1 _ hst) (C.2.2.2.2.1 _ hini) (C.2.2.2.2.1 _ hcode) hfr hlo hc hs hd (k H locs ls hP hS hl)
theorem gq_copyi (C : Cx p s m args meth c x nL A cc own Ts) (hA : ∀ q, qA x q → A q) {index g0 j0 g1 j1 n0 n1 t0 sp dp n : Nat} {cA : ClassId} (hlink : Cond.methodLink own index arraycopyName ∈ Ts) (hnat : Cond.native arraycopyName ∈ Ts) (hst : Cond.static arraycopyName ∈ Ts) (hini : Cond.initialized "java/lang/System" ∈ Ts) (hm0 : (g0, j0) ∈ qI x) (hm1 : (g1, j1) ∈ qI x) (he0 : qcf x g0 j0 (V g0 j0) (Y g0 j0) = .inl (cA, n0, .inl (V g0 j0))) (he1 : ∀ f, qcf x g1 j1 f (Y g1 j1) = .inl (cA, n1, .inl f)) (ht : (qty x)[t0]? = some (cA, .int)) {i1 i2 i3 : Int32} (hi1 : i1 = nI sp) (hi2 : i2 = nI dp) (hi3 : i3 = nI n) (h0 : sp + n ≤ n0) (h1 : dp + n ≤ n1) (hb0 : n0 < 2 ^ 31) (hb1 : n1 < 2 ^ 31)
    (hfr : 1 ≤ R.frames) (hlo : (st.map fun v => v.category).sum + (nativeFrameWords "java/lang/System" "arraycopy" 5 + 11) ≤ R.locals) (hd : decode cc pc = .ok (.invokestatic index, 3))
    (k : G p l e R s m args below meth c Q x nL A (qu V g1 j1 (va_cpy (V g0 j0) (V g1 j1) sp dp n)) Y cells slots (pc + 3) lo st) : G p l e R s m args below meth c Q x nL A V Y cells slots pc lo (.int i3 :: .int i2 :: .ref (qal x g1 j1) :: .int i1 :: .ref (qal x g0 j0) :: st) := by
  intro H locs ls hP hS hl
  subst hi1; subst hi2; subst hi3
  obtain ⟨q0, -, hq0⟩ := qw_at V Y hm0
  obtain ⟨q1, hk1, hq1⟩ := qw_at V Y hm1
  rw [he0] at hq0
  rw [he1] at hq1
  have e1 := nI_clamp (n := sp) (by omega)
  have e2 := nI_clamp (n := dp) (by omega)
  have e3 := nI_clamp (n := n) (by omega)
  refine va_copyi C.1 C.2.1 (C.2.2.1.trans hl.1.symm) C.2.2.2.1 (C.2.2.2.2.1 _ hlink) (C.2.2.2.2.1 _ hnat) (C.2.2.2.2.1 _ hst) (C.2.2.2.2.1 _ hini) C.2.2.2.2.2.1 hP ((qw_D C.2.2.2.2.2.2.1 V Y).weaken (fun _ _ _ h => hA _ h)) hS q0 q1 t0 t0 hq0 hq1 ht ht rfl (nI_pos (by omega)) (nI_pos (by omega)) (nI_pos (by omega)) (by rw [e1, e3]; exact h0) (by rw [e2, e3]; exact h1) (fun _ _ => rfl) hfr hlo hd (fun H1 locs1 hP1 _ hS1 => ?_)
  rw [e1, e2, e3, ← he1, qw_setV C.2.2.2.2.2.2.1 hk1] at hP1
  exact k H1 locs1 ls hP1 hS1 hl
end QM
section QE
variable {p : Program} {l : Launch} {e : Env} {R : Room} {s : State} {m : MethodId} {args : Array Value} {below : List Frame} {meth : Method} {c : Code} {Q : State → Prop} {x : qX} {nL : Nat} {A : Nat → Prop} {V V' : qV} {Y Y' : qY} {cells slots pc : Nat} {lo : List (Nat × Value)} {cc : ByteArray} {own : String} {Ts : List Cond}
theorem gq_iretE (C : Cx p s m args meth c x nL A cc own Ts) {rm : Room} {v v' : Int32} (hr : meth.sig.returnType = some .int) (hv : v = v') (hV : V = V') (hY : Y = Y') (hc : cells ≤ rm.cells) (hs : slots ≤ rm.slots) (hd : decode cc pc = .ok (.ireturn, 1)) : G p l e R s m args below meth c (qQ below x A rm (.inl (some (.int v'))) V' Y' s) x nL A V Y cells slots pc lo [.int v] := by
  subst hv; subst hV; subst hY; exact gq_iret C hr hc hs hd
theorem gq_zretE (C : Cx p s m args meth c x nL A cc own Ts) {rm : Room} {v v' : Int32} {ty : FieldType} (hr : meth.sig.returnType = some ty) (hn : narrow ty (.int v) = .int v) (hv : v = v') (hV : V = V') (hY : Y = Y') (hc : cells ≤ rm.cells) (hs : slots ≤ rm.slots) (hd : decode cc pc = .ok (.ireturn, 1)) : G p l e R s m args below meth c (qQ below x A rm (.inl (some (.int v'))) V' Y' s) x nL A V Y cells slots pc lo [.int v] := by
  subst hv; subst hV; subst hY; exact gq_zret C hr hn hc hs hd
theorem gq_lretE (C : Cx p s m args meth c x nL A cc own Ts) {rm : Room} {v v' : Int64} (hr : meth.sig.returnType = some .long) (hv : v = v') (hV : V = V') (hY : Y = Y') (hc : cells ≤ rm.cells) (hs : slots ≤ rm.slots) (hd : decode cc pc = .ok (.lreturn, 1)) : G p l e R s m args below meth c (qQ below x A rm (.inl (some (.long v'))) V' Y' s) x nL A V Y cells slots pc lo [.long v] := by
  subst hv; subst hV; subst hY; exact gq_lret C hr hc hs hd
theorem gq_vretE (C : Cx p s m args meth c x nL A cc own Ts) {rm : Room} (hr : meth.sig.returnType = none) (hV : V = V') (hY : Y = Y') (hc : cells ≤ rm.cells) (hs : slots ≤ rm.slots) (hd : decode cc pc = .ok (.return_, 1)) : G p l e R s m args below meth c (qQ below x A rm (.inl none) V' Y' s) x nL A V Y cells slots pc lo [] := by
  subst hV; subst hY; exact gq_vret C hr hc hs hd
end QE
end
section
/-! the world of this claim: which cells there are, and what they hold, given the numbers V, Y -/
abbrev qZ : Type := (Nat → ClassId) × (Nat → Nat → Nat) × (Nat → Nat → Nat) × (Nat → ClassId)
abbrev al (Z : qZ) (g j : Nat) : Nat := Z.2.2.1 g j
def fz : Nat → Nat := fun g => match g with
  | 0 => 1
  | 1 => 10
  | 2 => 10
  | 3 => 10
  | 4 => 10
  | 5 => 1
  | 6 => 1
  | 7 => 4
  | 8 => 5
  | 9 => 1
  | 10 => 1
  | 11 => 4
  | 12 => 1
  | 13 => 4
  | 14 => 1
  | 15 => 40
  | 16 => 40
  | 17 => 1
  | 20 => 1
  | 21 => 1
  | 22 => 1
  | 23 => 1
  | 24 => 1
  | 25 => 1
  | 26 => 1
  | 27 => 1
  | 28 => 1
  | 29 => 1
  | 30 => 1
  | 31 => 1
  | 32 => 1
  | 33 => 1
  | 34 => 1
  | 35 => 1
  | 36 => 1
  | 37 => 1
  | 38 => 1
  | 39 => 1
  | 40 => 1
  | 41 => 1
  | 42 => 1
  | 45 => 1
  | _ => 0
def qIL : List (Nat × Nat) := (List.range 46).flatMap (fun g => (List.range (fz g)).map (fun j => (g, j)))
theorem qm {g j : Nat} (hg : g < 46) (h : j < fz g) : (g, j) ∈ qIL := List.mem_flatMap.mpr ⟨g, List.mem_range.mpr hg, List.mem_map.mpr ⟨j, List.mem_range.mpr h, rfl⟩⟩
def pcf (Z : qZ) (g j : Nat) (f : Nat → Int32) (y : Nat → Int64) : va_E := match g with
  | 0 => .inr (7, [.ref (Z.2.2.1 1 0), .ref (Z.2.2.1 5 0), .int (f 2), .ref (Z.2.2.1 6 0), .ref (Z.2.2.1 9 0), .ref (Z.2.2.1 12 0), .ref (Z.2.2.1 14 0), .int (f 7), .ref (Z.2.2.1 17 0)])
  | 1 => .inr (5, [.ref (Z.2.2.1 2 j), .ref (Z.2.2.1 3 j), .ref (Z.2.2.1 4 j)])
  | 2 => .inl (Z.2.2.2 0, 8, .inl f)
  | 3 => .inl (Z.2.2.2 0, 16, .inl f)
  | 4 => .inl (Z.2.2.2 0, 16, .inl f)
  | 5 => .inl (Z.2.2.2 3, 9, .inr (.inr (.inr (.inr (fun k => some (Z.2.2.1 1 (k + 1)))))))
  | 6 => .inl (Z.2.2.2 4, 4, .inr (.inr (.inr (.inr (fun k => some (Z.2.2.1 7 (k)))))))
  | 7 => .inr (6, [.ref (Z.2.2.1 8 j), .int (f 1), .int (f 2), .int (f 3), .int (f 4), .int (f 5), .int (f 6), .int (f 7)])
  | 8 => .inr (1, [.int (f 0), .int (f 1)])
  | 9 => .inr (2, [.ref (Z.2.2.1 8 4), .ref (Z.2.2.1 10 0), .int (f 2), .int (f 3), .int (f 4)])
  | 10 => .inl (Z.2.2.2 5, 4, .inr (.inr (.inr (.inr (fun k => some (Z.2.2.1 11 (k)))))))
  | 11 => .inr (4, [.int (f 0), .int (f 1), .int (f 2), .int (f 3), .int (f 4)])
  | 12 => .inr (3, [.ref (Z.2.2.1 13 0), .ref (Z.2.2.1 13 1), .ref (Z.2.2.1 13 2), .ref (Z.2.2.1 13 3), .int (f 4)])
  | 13 => .inl (Z.2.2.2 0, 40, .inl f)
  | 14 => .inl (Z.2.2.2 6, 40, .inr (.inr (.inr (.inr (fun k => some (Z.2.2.1 15 (k)))))))
  | 15 => .inr (0, [.int (f 0), .int (f 1), .int (f 2), .ref (Z.2.2.1 16 j)])
  | 16 => .inl (Z.2.2.2 0, 8, .inl f)
  | 17 => .inl (Z.2.2.2 1, 31, .inr (.inl y))
  | 20 => .inr (8, [.int (f 0), .int (f 1), .ref (Z.2.2.1 21 0), .ref (Z.2.2.1 22 0), .ref (Z.2.2.1 23 0), .ref (Z.2.2.1 24 0), .ref (Z.2.2.1 25 0), .ref (Z.2.2.1 26 0), .ref (Z.2.2.1 27 0), .ref (Z.2.2.1 28 0), .ref (Z.2.2.1 29 0), .ref (Z.2.2.1 30 0), .ref (Z.2.2.1 31 0), .int (f 13), .int (f 14), .int (f 15), .int (f 16), .ref (Z.2.2.1 32 0), .ref (Z.2.2.1 33 0), .ref (Z.2.2.1 34 0), .ref (Z.2.2.1 35 0), .ref (Z.2.2.1 36 0), .int (f 22), .ref (Z.2.2.1 37 0), .int (f 24), .ref (Z.2.2.1 38 0), .ref (Z.2.2.1 39 0), .ref (Z.2.2.1 40 0), .ref (Z.2.2.1 41 0), .ref (Z.2.2.1 42 0)])
  | 21 => .inl (Z.2.2.2 0, 80, .inl f)
  | 22 => .inl (Z.2.2.2 0, 160, .inl f)
  | 23 => .inl (Z.2.2.2 0, 160, .inl f)
  | 24 => .inl (Z.2.2.2 0, 5, .inl f)
  | 25 => .inl (Z.2.2.2 0, 5, .inl f)
  | 26 => .inl (Z.2.2.2 0, 4, .inl f)
  | 27 => .inl (Z.2.2.2 0, 4, .inl f)
  | 28 => .inl (Z.2.2.2 0, 4, .inl f)
  | 29 => .inl (Z.2.2.2 2, 4, .inl f)
  | 30 => .inl (Z.2.2.2 0, 4, .inl f)
  | 31 => .inl (Z.2.2.2 0, 4, .inl f)
  | 32 => .inl (Z.2.2.2 0, 4, .inl f)
  | 33 => .inl (Z.2.2.2 2, 4, .inl f)
  | 34 => .inl (Z.2.2.2 0, 4, .inl f)
  | 35 => .inl (Z.2.2.2 0, 4, .inl f)
  | 36 => .inl (Z.2.2.2 0, 4, .inl f)
  | 37 => .inl (Z.2.2.2 0, 160, .inl f)
  | 38 => .inl (Z.2.2.2 0, 40, .inl f)
  | 39 => .inl (Z.2.2.2 0, 40, .inl f)
  | 40 => .inl (Z.2.2.2 2, 40, .inl f)
  | 41 => .inl (Z.2.2.2 0, 320, .inl f)
  | 42 => .inl (Z.2.2.2 1, 31, .inr (.inl y))
  | 45 => .inl (Z.2.2.2 1, 1, .inr (.inl y))
  | _ => .inr (1, [.int (f 0), .int (f 1)])
abbrev pty (Z : qZ) : List (ClassId × FieldType) := [(Z.2.2.2 0, .int), (Z.2.2.2 1, .long), (Z.2.2.2 2, .boolean), (Z.2.2.2 3, .object "PriceHouse$PriceList"), (Z.2.2.2 4, .object "PriceHouse$Till"), (Z.2.2.2 5, .object "PriceHouse$Note"), (Z.2.2.2 6, .object "PriceHouse$Basket")]
abbrev pX (Z : qZ) : qX := ((Z.1, Z.2.1), qCl, pty Z, Z.2.2.1, qIL, pcf Z)
end
section
/-! the words of the tables, each by its place -/
theorem w_0 : Cond.initialized "PriceHouseLaw" ∈ QT := q_in 0 (by decide +kernel) rfl
theorem w_1 : Cond.initialized "PriceHouse" ∈ QT := q_in 1 (by decide +kernel) rfl
theorem w_2 : Cond.initialized "PriceHouse$PriceList" ∈ QT := q_in 2 (by decide +kernel) rfl
theorem w_3 : Cond.initialized "PriceHouse$Till" ∈ QT := q_in 3 (by decide +kernel) rfl
theorem w_4 : Cond.initialized "PriceHouse$Clock" ∈ QT := q_in 4 (by decide +kernel) rfl
theorem w_5 : Cond.initialized "PriceHouse$Desk" ∈ QT := q_in 5 (by decide +kernel) rfl
theorem w_6 : Cond.initialized "PriceHouse$Note" ∈ QT := q_in 6 (by decide +kernel) rfl
theorem w_7 : Cond.initialized "PriceHouse$LetterRow" ∈ QT := q_in 7 (by decide +kernel) rfl
theorem w_8 : Cond.initialized "PriceHouse$Basket" ∈ QT := q_in 8 (by decide +kernel) rfl
theorem w_9 : Cond.initialized "PriceHouseModel" ∈ QT := q_in 9 (by decide +kernel) rfl
theorem w_10 : Cond.initialized "java/lang/Throwable" ∈ QT := q_in 10 (by decide +kernel) rfl
theorem w_11 : Cond.initialized "java/lang/Exception" ∈ QT := q_in 11 (by decide +kernel) rfl
theorem w_12 : Cond.initialized "java/lang/RuntimeException" ∈ QT := q_in 12 (by decide +kernel) rfl
theorem w_13 : Cond.initialized "java/lang/IllegalArgumentException" ∈ QT := q_in 13 (by decide +kernel) rfl
theorem w_14 : Cond.initialized "java/lang/IllegalStateException" ∈ QT := q_in 14 (by decide +kernel) rfl
theorem w_15 : Cond.initialized "java/lang/System" ∈ QT := q_in 15 (by decide +kernel) rfl
theorem w_16 : Cond.initialized "java/lang/IndexOutOfBoundsException" ∈ QT := q_in 16 (by decide +kernel) rfl
theorem w_17 : Cond.initialized "java/lang/Math" ∈ QT := q_in 17 (by decide +kernel) rfl
theorem w_18 : Cond.initialized "java/util/NoSuchElementException" ∈ QT := q_in 18 (by decide +kernel) rfl
theorem w_19 : Cond.classLink "PriceHouseLaw" 8 "PriceHouse" ∈ QT := q_in 19 (by decide +kernel) rfl
theorem w_20 : Cond.instantiable "PriceHouse" 9 ∈ QT := q_in 20 (by decide +kernel) rfl
theorem w_21 : Cond.methodLink "PriceHouseLaw" 91 ⟨"PriceHouse", "<init>", "()V"⟩ ∈ QT := q_in 21 (by decide +kernel) rfl
theorem w_22 : Cond.instanceMethod ⟨"PriceHouse", "<init>", "()V"⟩ ∈ QT := q_in 22 (by decide +kernel) rfl
theorem w_23 : Cond.code ⟨"PriceHouse", "<init>", "()V"⟩ prog_1_method_1_code 2 none ∈ QT := q_in 23 (by decide +kernel) rfl
theorem w_24 : Cond.methodLink "PriceHouse" 1 ⟨"java/lang/Object", "<init>", "()V"⟩ ∈ QT := q_in 24 (by decide +kernel) rfl
theorem w_25 : Cond.instanceMethod ⟨"java/lang/Object", "<init>", "()V"⟩ ∈ QT := q_in 25 (by decide +kernel) rfl
theorem w_26 : Cond.code ⟨"java/lang/Object", "<init>", "()V"⟩ object_method_1_code 1 none ∈ QT := q_in 26 (by decide +kernel) rfl
theorem w_27 : Cond.classLink "PriceHouse" 7 "PriceHouse$PriceList" ∈ QT := q_in 27 (by decide +kernel) rfl
theorem w_28 : Cond.instantiable "PriceHouse$PriceList" 3 ∈ QT := q_in 28 (by decide +kernel) rfl
theorem w_29 : Cond.methodLink "PriceHouse" 9 ⟨"PriceHouse$PriceList", "<init>", "()V"⟩ ∈ QT := q_in 29 (by decide +kernel) rfl
theorem w_30 : Cond.instanceMethod ⟨"PriceHouse$PriceList", "<init>", "()V"⟩ ∈ QT := q_in 30 (by decide +kernel) rfl
theorem w_31 : Cond.code ⟨"PriceHouse$PriceList", "<init>", "()V"⟩ prog_7_method_1_code 1 none ∈ QT := q_in 31 (by decide +kernel) rfl
theorem w_32 : Cond.methodLink "PriceHouse$PriceList" 3 ⟨"java/lang/Object", "<init>", "()V"⟩ ∈ QT := q_in 32 (by decide +kernel) rfl
theorem w_33 : Cond.fieldLink "PriceHouse$PriceList" 9 "PriceHouse$PriceList" "prices" "[I" ∈ QT := q_in 33 (by decide +kernel) rfl
theorem w_34 : Cond.fieldLink "PriceHouse" 62 "PriceHouse$PriceList" "prices" "[I" ∈ QT := q_in 34 (by decide +kernel) rfl
theorem w_35 : Cond.fieldLink "PriceHouse$PriceList" 15 "PriceHouse$PriceList" "sizes" "[I" ∈ QT := q_in 35 (by decide +kernel) rfl
theorem w_36 : Cond.fieldLink "PriceHouse" 72 "PriceHouse$PriceList" "sizes" "[I" ∈ QT := q_in 36 (by decide +kernel) rfl
theorem w_37 : Cond.fieldLink "PriceHouse$PriceList" 18 "PriceHouse$PriceList" "costs" "[I" ∈ QT := q_in 37 (by decide +kernel) rfl
theorem w_38 : Cond.fieldLink "PriceHouse" 75 "PriceHouse$PriceList" "costs" "[I" ∈ QT := q_in 38 (by decide +kernel) rfl
theorem w_39 : Cond.laysFinal "PriceHouse$PriceList" "PriceHouse$PriceList" "prices" "[I" ∈ QT := q_in 39 (by decide +kernel) rfl
theorem w_40 : Cond.soleField "PriceHouse$PriceList" "prices" ∈ QT := q_in 40 (by decide +kernel) rfl
theorem w_41 : Cond.laysFinal "PriceHouse$PriceList" "PriceHouse$PriceList" "sizes" "[I" ∈ QT := q_in 41 (by decide +kernel) rfl
theorem w_42 : Cond.soleField "PriceHouse$PriceList" "sizes" ∈ QT := q_in 42 (by decide +kernel) rfl
theorem w_43 : Cond.laysFinal "PriceHouse$PriceList" "PriceHouse$PriceList" "costs" "[I" ∈ QT := q_in 43 (by decide +kernel) rfl
theorem w_44 : Cond.soleField "PriceHouse$PriceList" "costs" ∈ QT := q_in 44 (by decide +kernel) rfl
theorem w_45 : Cond.superclass "PriceHouse$PriceList" "java/lang/Object" ∈ QT := q_in 45 (by decide +kernel) rfl
theorem w_46 : Cond.arrayClass .int ∈ QT := q_in 46 (by decide +kernel) rfl
theorem w_48 : Cond.classLink "PriceHouse" 20 "PriceHouse$Till" ∈ QT := q_in 48 (by decide +kernel) rfl
theorem w_50 : Cond.instantiable "PriceHouse$Till" 8 ∈ QT := q_in 50 (by decide +kernel) rfl
theorem w_51 : Cond.methodLink "PriceHouse" 26 ⟨"PriceHouse$Till", "<init>", "()V"⟩ ∈ QT := q_in 51 (by decide +kernel) rfl
theorem w_52 : Cond.instanceMethod ⟨"PriceHouse$Till", "<init>", "()V"⟩ ∈ QT := q_in 52 (by decide +kernel) rfl
theorem w_53 : Cond.code ⟨"PriceHouse$Till", "<init>", "()V"⟩ prog_8_method_1_code 1 none ∈ QT := q_in 53 (by decide +kernel) rfl
theorem w_54 : Cond.methodLink "PriceHouse$Till" 3 ⟨"java/lang/Object", "<init>", "()V"⟩ ∈ QT := q_in 54 (by decide +kernel) rfl
theorem w_55 : Cond.classLink "PriceHouse$Till" 9 "PriceHouse$Clock" ∈ QT := q_in 55 (by decide +kernel) rfl
theorem w_56 : Cond.instantiable "PriceHouse$Clock" 2 ∈ QT := q_in 56 (by decide +kernel) rfl
theorem w_57 : Cond.methodLink "PriceHouse$Till" 11 ⟨"PriceHouse$Clock", "<init>", "()V"⟩ ∈ QT := q_in 57 (by decide +kernel) rfl
theorem w_58 : Cond.instanceMethod ⟨"PriceHouse$Clock", "<init>", "()V"⟩ ∈ QT := q_in 58 (by decide +kernel) rfl
theorem w_59 : Cond.code ⟨"PriceHouse$Clock", "<init>", "()V"⟩ prog_3_method_1_code 1 none ∈ QT := q_in 59 (by decide +kernel) rfl
theorem w_60 : Cond.methodLink "PriceHouse$Clock" 1 ⟨"java/lang/Object", "<init>", "()V"⟩ ∈ QT := q_in 60 (by decide +kernel) rfl
theorem w_61 : Cond.fieldLink "PriceHouse$Clock" 13 "PriceHouse$Clock" "hundredths" "I" ∈ QT := q_in 61 (by decide +kernel) rfl
theorem w_62 : Cond.fieldLink "PriceHouse$Clock" 7 "PriceHouse$Clock" "perTick" "I" ∈ QT := q_in 62 (by decide +kernel) rfl
theorem w_63 : Cond.fieldLink "PriceHouse" 123 "PriceHouse$Clock" "perTick" "I" ∈ QT := q_in 63 (by decide +kernel) rfl
theorem w_64 : Cond.lays "PriceHouse$Clock" "PriceHouse$Clock" "hundredths" "I" ∈ QT := q_in 64 (by decide +kernel) rfl
theorem w_65 : Cond.soleField "PriceHouse$Clock" "hundredths" ∈ QT := q_in 65 (by decide +kernel) rfl
theorem w_66 : Cond.lays "PriceHouse$Clock" "PriceHouse$Clock" "perTick" "I" ∈ QT := q_in 66 (by decide +kernel) rfl
theorem w_67 : Cond.soleField "PriceHouse$Clock" "perTick" ∈ QT := q_in 67 (by decide +kernel) rfl
theorem w_68 : Cond.superclass "PriceHouse$Clock" "java/lang/Object" ∈ QT := q_in 68 (by decide +kernel) rfl
theorem w_69 : Cond.fieldLink "PriceHouse$Till" 12 "PriceHouse$Till" "clock" "LPriceHouse$Clock;" ∈ QT := q_in 69 (by decide +kernel) rfl
theorem w_70 : Cond.fieldLink "PriceHouse" 105 "PriceHouse$Till" "clock" "LPriceHouse$Clock;" ∈ QT := q_in 70 (by decide +kernel) rfl
theorem w_71 : Cond.fieldLink "PriceHouse$Till" 18 "PriceHouse$Till" "bookCount" "I" ∈ QT := q_in 71 (by decide +kernel) rfl
theorem w_72 : Cond.fieldLink "PriceHouse" 129 "PriceHouse$Till" "bookCount" "I" ∈ QT := q_in 72 (by decide +kernel) rfl
theorem w_73 : Cond.fieldLink "PriceHouse$Till" 39 "PriceHouse$Till" "readyFor" "I" ∈ QT := q_in 73 (by decide +kernel) rfl
theorem w_74 : Cond.fieldLink "PriceHouse" 132 "PriceHouse$Till" "readyFor" "I" ∈ QT := q_in 74 (by decide +kernel) rfl
theorem w_75 : Cond.fieldLink "PriceHouse$Till" 22 "PriceHouse$Till" "asking" "I" ∈ QT := q_in 75 (by decide +kernel) rfl
theorem w_76 : Cond.fieldLink "PriceHouse" 138 "PriceHouse$Till" "asking" "I" ∈ QT := q_in 76 (by decide +kernel) rfl
theorem w_77 : Cond.fieldLink "PriceHouse$Till" 29 "PriceHouse$Till" "askedAt" "I" ∈ QT := q_in 77 (by decide +kernel) rfl
theorem w_78 : Cond.fieldLink "PriceHouse$Till" 32 "PriceHouse$Till" "gaveUp" "Z" ∈ QT := q_in 78 (by decide +kernel) rfl
theorem w_79 : Cond.fieldLink "PriceHouse" 141 "PriceHouse$Till" "gaveUp" "Z" ∈ QT := q_in 79 (by decide +kernel) rfl
theorem w_80 : Cond.fieldLink "PriceHouse$Till" 36 "PriceHouse$Till" "leasedBook" "I" ∈ QT := q_in 80 (by decide +kernel) rfl
theorem w_81 : Cond.fieldLink "PriceHouse" 187 "PriceHouse$Till" "openBaskets" "I" ∈ QT := q_in 81 (by decide +kernel) rfl
theorem w_82 : Cond.laysFinal "PriceHouse$Till" "PriceHouse$Till" "clock" "LPriceHouse$Clock;" ∈ QT := q_in 82 (by decide +kernel) rfl
theorem w_83 : Cond.soleField "PriceHouse$Till" "clock" ∈ QT := q_in 83 (by decide +kernel) rfl
theorem w_84 : Cond.lays "PriceHouse$Till" "PriceHouse$Till" "bookCount" "I" ∈ QT := q_in 84 (by decide +kernel) rfl
theorem w_85 : Cond.soleField "PriceHouse$Till" "bookCount" ∈ QT := q_in 85 (by decide +kernel) rfl
theorem w_86 : Cond.lays "PriceHouse$Till" "PriceHouse$Till" "readyFor" "I" ∈ QT := q_in 86 (by decide +kernel) rfl
theorem w_87 : Cond.soleField "PriceHouse$Till" "readyFor" ∈ QT := q_in 87 (by decide +kernel) rfl
theorem w_88 : Cond.lays "PriceHouse$Till" "PriceHouse$Till" "asking" "I" ∈ QT := q_in 88 (by decide +kernel) rfl
theorem w_89 : Cond.soleField "PriceHouse$Till" "asking" ∈ QT := q_in 89 (by decide +kernel) rfl
theorem w_90 : Cond.lays "PriceHouse$Till" "PriceHouse$Till" "askedAt" "I" ∈ QT := q_in 90 (by decide +kernel) rfl
theorem w_91 : Cond.soleField "PriceHouse$Till" "askedAt" ∈ QT := q_in 91 (by decide +kernel) rfl
theorem w_92 : Cond.lays "PriceHouse$Till" "PriceHouse$Till" "gaveUp" "Z" ∈ QT := q_in 92 (by decide +kernel) rfl
theorem w_93 : Cond.soleField "PriceHouse$Till" "gaveUp" ∈ QT := q_in 93 (by decide +kernel) rfl
theorem w_94 : Cond.lays "PriceHouse$Till" "PriceHouse$Till" "leasedBook" "I" ∈ QT := q_in 94 (by decide +kernel) rfl
theorem w_95 : Cond.soleField "PriceHouse$Till" "leasedBook" ∈ QT := q_in 95 (by decide +kernel) rfl
theorem w_96 : Cond.lays "PriceHouse$Till" "PriceHouse$Till" "openBaskets" "I" ∈ QT := q_in 96 (by decide +kernel) rfl
theorem w_97 : Cond.soleField "PriceHouse$Till" "openBaskets" ∈ QT := q_in 97 (by decide +kernel) rfl
theorem w_98 : Cond.superclass "PriceHouse$Till" "java/lang/Object" ∈ QT := q_in 98 (by decide +kernel) rfl
theorem w_99 : Cond.classLink "PriceHouse" 27 "PriceHouse$Desk" ∈ QT := q_in 99 (by decide +kernel) rfl
theorem w_100 : Cond.instantiable "PriceHouse$Desk" 5 ∈ QT := q_in 100 (by decide +kernel) rfl
theorem w_101 : Cond.methodLink "PriceHouse" 29 ⟨"PriceHouse$Desk", "<init>", "()V"⟩ ∈ QT := q_in 101 (by decide +kernel) rfl
theorem w_102 : Cond.instanceMethod ⟨"PriceHouse$Desk", "<init>", "()V"⟩ ∈ QT := q_in 102 (by decide +kernel) rfl
theorem w_103 : Cond.code ⟨"PriceHouse$Desk", "<init>", "()V"⟩ prog_4_method_1_code 2 none ∈ QT := q_in 103 (by decide +kernel) rfl
theorem w_104 : Cond.methodLink "PriceHouse$Desk" 3 ⟨"java/lang/Object", "<init>", "()V"⟩ ∈ QT := q_in 104 (by decide +kernel) rfl
theorem w_105 : Cond.classLink "PriceHouse$Desk" 9 "PriceHouse$Clock" ∈ QT := q_in 105 (by decide +kernel) rfl
theorem w_106 : Cond.methodLink "PriceHouse$Desk" 11 ⟨"PriceHouse$Clock", "<init>", "()V"⟩ ∈ QT := q_in 106 (by decide +kernel) rfl
theorem w_107 : Cond.classLink "PriceHouse$Desk" 18 "PriceHouse$Note" ∈ QT := q_in 107 (by decide +kernel) rfl
theorem w_109 : Cond.instantiable "PriceHouse$Note" 5 ∈ QT := q_in 109 (by decide +kernel) rfl
theorem w_111 : Cond.instanceMethod ⟨"PriceHouse$Note", "<init>", "()V"⟩ ∈ QT := q_in 111 (by decide +kernel) rfl
theorem w_112 : Cond.code ⟨"PriceHouse$Note", "<init>", "()V"⟩ prog_6_method_1_code 1 none ∈ QT := q_in 112 (by decide +kernel) rfl
theorem w_113 : Cond.methodLink "PriceHouse$Note" 3 ⟨"java/lang/Object", "<init>", "()V"⟩ ∈ QT := q_in 113 (by decide +kernel) rfl
theorem w_114 : Cond.fieldLink "PriceHouse$Note" 9 "PriceHouse$Note" "knownReady" "I" ∈ QT := q_in 114 (by decide +kernel) rfl
theorem w_115 : Cond.fieldLink "PriceHouse$Desk" 57 "PriceHouse$Note" "knownReady" "I" ∈ QT := q_in 115 (by decide +kernel) rfl
theorem w_116 : Cond.fieldLink "PriceHouse$Note" 15 "PriceHouse$Note" "lastAsking" "I" ∈ QT := q_in 116 (by decide +kernel) rfl
theorem w_117 : Cond.fieldLink "PriceHouse$Desk" 40 "PriceHouse$Note" "lastAsking" "I" ∈ QT := q_in 117 (by decide +kernel) rfl
theorem w_118 : Cond.fieldLink "PriceHouse$Note" 18 "PriceHouse$Note" "grantedBook" "I" ∈ QT := q_in 118 (by decide +kernel) rfl
theorem w_119 : Cond.fieldLink "PriceHouse$Note" 21 "PriceHouse$Note" "grantedAt" "I" ∈ QT := q_in 119 (by decide +kernel) rfl
theorem w_120 : Cond.fieldLink "PriceHouse$Note" 24 "PriceHouse$Note" "holds" "Z" ∈ QT := q_in 120 (by decide +kernel) rfl
theorem w_121 : Cond.lays "PriceHouse$Note" "PriceHouse$Note" "knownReady" "I" ∈ QT := q_in 121 (by decide +kernel) rfl
theorem w_122 : Cond.soleField "PriceHouse$Note" "knownReady" ∈ QT := q_in 122 (by decide +kernel) rfl
theorem w_123 : Cond.lays "PriceHouse$Note" "PriceHouse$Note" "lastAsking" "I" ∈ QT := q_in 123 (by decide +kernel) rfl
theorem w_124 : Cond.soleField "PriceHouse$Note" "lastAsking" ∈ QT := q_in 124 (by decide +kernel) rfl
theorem w_125 : Cond.lays "PriceHouse$Note" "PriceHouse$Note" "grantedBook" "I" ∈ QT := q_in 125 (by decide +kernel) rfl
theorem w_126 : Cond.soleField "PriceHouse$Note" "grantedBook" ∈ QT := q_in 126 (by decide +kernel) rfl
theorem w_127 : Cond.lays "PriceHouse$Note" "PriceHouse$Note" "grantedAt" "I" ∈ QT := q_in 127 (by decide +kernel) rfl
theorem w_128 : Cond.soleField "PriceHouse$Note" "grantedAt" ∈ QT := q_in 128 (by decide +kernel) rfl
theorem w_129 : Cond.lays "PriceHouse$Note" "PriceHouse$Note" "holds" "Z" ∈ QT := q_in 129 (by decide +kernel) rfl
theorem w_130 : Cond.soleField "PriceHouse$Note" "holds" ∈ QT := q_in 130 (by decide +kernel) rfl
theorem w_131 : Cond.superclass "PriceHouse$Note" "java/lang/Object" ∈ QT := q_in 131 (by decide +kernel) rfl
theorem w_132 : Cond.fieldLink "PriceHouse$Desk" 12 "PriceHouse$Desk" "clock" "LPriceHouse$Clock;" ∈ QT := q_in 132 (by decide +kernel) rfl
theorem w_133 : Cond.fieldLink "PriceHouse" 115 "PriceHouse$Desk" "clock" "LPriceHouse$Clock;" ∈ QT := q_in 133 (by decide +kernel) rfl
theorem w_134 : Cond.fieldLink "PriceHouse$Desk" 20 "PriceHouse$Desk" "notes" "[LPriceHouse$Note;" ∈ QT := q_in 134 (by decide +kernel) rfl
theorem w_135 : Cond.fieldLink "PriceHouse" 233 "PriceHouse$Desk" "notes" "[LPriceHouse$Note;" ∈ QT := q_in 135 (by decide +kernel) rfl
theorem w_136 : Cond.fieldLink "PriceHouse$Desk" 54 "PriceHouse$Desk" "activeBook" "I" ∈ QT := q_in 136 (by decide +kernel) rfl
theorem w_137 : Cond.fieldLink "PriceHouse" 96 "PriceHouse$Desk" "activeBook" "I" ∈ QT := q_in 137 (by decide +kernel) rfl
theorem w_138 : Cond.fieldLink "PriceHouse$Desk" 51 "PriceHouse$Desk" "changeTo" "I" ∈ QT := q_in 138 (by decide +kernel) rfl
theorem w_139 : Cond.fieldLink "PriceHouse" 99 "PriceHouse$Desk" "changeTo" "I" ∈ QT := q_in 139 (by decide +kernel) rfl
theorem w_140 : Cond.fieldLink "PriceHouse$Desk" 29 "PriceHouse$Desk" "waitsUntil" "I" ∈ QT := q_in 140 (by decide +kernel) rfl
theorem w_141 : Cond.laysFinal "PriceHouse$Desk" "PriceHouse$Desk" "clock" "LPriceHouse$Clock;" ∈ QT := q_in 141 (by decide +kernel) rfl
theorem w_142 : Cond.soleField "PriceHouse$Desk" "clock" ∈ QT := q_in 142 (by decide +kernel) rfl
theorem w_143 : Cond.laysFinal "PriceHouse$Desk" "PriceHouse$Desk" "notes" "[LPriceHouse$Note;" ∈ QT := q_in 143 (by decide +kernel) rfl
theorem w_144 : Cond.soleField "PriceHouse$Desk" "notes" ∈ QT := q_in 144 (by decide +kernel) rfl
theorem w_145 : Cond.lays "PriceHouse$Desk" "PriceHouse$Desk" "activeBook" "I" ∈ QT := q_in 145 (by decide +kernel) rfl
theorem w_146 : Cond.soleField "PriceHouse$Desk" "activeBook" ∈ QT := q_in 146 (by decide +kernel) rfl
theorem w_147 : Cond.lays "PriceHouse$Desk" "PriceHouse$Desk" "changeTo" "I" ∈ QT := q_in 147 (by decide +kernel) rfl
theorem w_148 : Cond.soleField "PriceHouse$Desk" "changeTo" ∈ QT := q_in 148 (by decide +kernel) rfl
theorem w_149 : Cond.lays "PriceHouse$Desk" "PriceHouse$Desk" "waitsUntil" "I" ∈ QT := q_in 149 (by decide +kernel) rfl
theorem w_150 : Cond.soleField "PriceHouse$Desk" "waitsUntil" ∈ QT := q_in 150 (by decide +kernel) rfl
theorem w_151 : Cond.superclass "PriceHouse$Desk" "java/lang/Object" ∈ QT := q_in 151 (by decide +kernel) rfl
theorem w_152 : Cond.classLink "PriceHouse" 34 "PriceHouse$LetterRow" ∈ QT := q_in 152 (by decide +kernel) rfl
theorem w_153 : Cond.instantiable "PriceHouse$LetterRow" 5 ∈ QT := q_in 153 (by decide +kernel) rfl
theorem w_154 : Cond.methodLink "PriceHouse" 36 ⟨"PriceHouse$LetterRow", "<init>", "()V"⟩ ∈ QT := q_in 154 (by decide +kernel) rfl
theorem w_155 : Cond.instanceMethod ⟨"PriceHouse$LetterRow", "<init>", "()V"⟩ ∈ QT := q_in 155 (by decide +kernel) rfl
theorem w_156 : Cond.code ⟨"PriceHouse$LetterRow", "<init>", "()V"⟩ prog_5_method_1_code 1 none ∈ QT := q_in 156 (by decide +kernel) rfl
theorem w_157 : Cond.methodLink "PriceHouse$LetterRow" 3 ⟨"java/lang/Object", "<init>", "()V"⟩ ∈ QT := q_in 157 (by decide +kernel) rfl
theorem w_158 : Cond.fieldLink "PriceHouse$LetterRow" 9 "PriceHouse$LetterRow" "kinds" "[I" ∈ QT := q_in 158 (by decide +kernel) rfl
theorem w_159 : Cond.fieldLink "PriceHouse" 157 "PriceHouse$LetterRow" "kinds" "[I" ∈ QT := q_in 159 (by decide +kernel) rfl
theorem w_160 : Cond.fieldLink "PriceHouse$LetterRow" 15 "PriceHouse$LetterRow" "tills" "[I" ∈ QT := q_in 160 (by decide +kernel) rfl
theorem w_161 : Cond.fieldLink "PriceHouse" 160 "PriceHouse$LetterRow" "tills" "[I" ∈ QT := q_in 161 (by decide +kernel) rfl
theorem w_162 : Cond.fieldLink "PriceHouse$LetterRow" 18 "PriceHouse$LetterRow" "books" "[I" ∈ QT := q_in 162 (by decide +kernel) rfl
theorem w_163 : Cond.fieldLink "PriceHouse" 162 "PriceHouse$LetterRow" "books" "[I" ∈ QT := q_in 163 (by decide +kernel) rfl
theorem w_164 : Cond.fieldLink "PriceHouse$LetterRow" 21 "PriceHouse$LetterRow" "askings" "[I" ∈ QT := q_in 164 (by decide +kernel) rfl
theorem w_165 : Cond.fieldLink "PriceHouse" 164 "PriceHouse$LetterRow" "askings" "[I" ∈ QT := q_in 165 (by decide +kernel) rfl
theorem w_166 : Cond.fieldLink "PriceHouse$LetterRow" 24 "PriceHouse$LetterRow" "count" "I" ∈ QT := q_in 166 (by decide +kernel) rfl
theorem w_167 : Cond.fieldLink "PriceHouse" 184 "PriceHouse$LetterRow" "count" "I" ∈ QT := q_in 167 (by decide +kernel) rfl
theorem w_168 : Cond.laysFinal "PriceHouse$LetterRow" "PriceHouse$LetterRow" "kinds" "[I" ∈ QT := q_in 168 (by decide +kernel) rfl
theorem w_169 : Cond.soleField "PriceHouse$LetterRow" "kinds" ∈ QT := q_in 169 (by decide +kernel) rfl
theorem w_170 : Cond.laysFinal "PriceHouse$LetterRow" "PriceHouse$LetterRow" "tills" "[I" ∈ QT := q_in 170 (by decide +kernel) rfl
theorem w_171 : Cond.soleField "PriceHouse$LetterRow" "tills" ∈ QT := q_in 171 (by decide +kernel) rfl
theorem w_172 : Cond.laysFinal "PriceHouse$LetterRow" "PriceHouse$LetterRow" "books" "[I" ∈ QT := q_in 172 (by decide +kernel) rfl
theorem w_173 : Cond.soleField "PriceHouse$LetterRow" "books" ∈ QT := q_in 173 (by decide +kernel) rfl
theorem w_174 : Cond.laysFinal "PriceHouse$LetterRow" "PriceHouse$LetterRow" "askings" "[I" ∈ QT := q_in 174 (by decide +kernel) rfl
theorem w_175 : Cond.soleField "PriceHouse$LetterRow" "askings" ∈ QT := q_in 175 (by decide +kernel) rfl
theorem w_176 : Cond.lays "PriceHouse$LetterRow" "PriceHouse$LetterRow" "count" "I" ∈ QT := q_in 176 (by decide +kernel) rfl
theorem w_177 : Cond.soleField "PriceHouse$LetterRow" "count" ∈ QT := q_in 177 (by decide +kernel) rfl
theorem w_178 : Cond.superclass "PriceHouse$LetterRow" "java/lang/Object" ∈ QT := q_in 178 (by decide +kernel) rfl
theorem w_179 : Cond.classLink "PriceHouse" 41 "PriceHouse$Basket" ∈ QT := q_in 179 (by decide +kernel) rfl
theorem w_181 : Cond.instantiable "PriceHouse$Basket" 4 ∈ QT := q_in 181 (by decide +kernel) rfl
theorem w_182 : Cond.methodLink "PriceHouse" 47 ⟨"PriceHouse$Basket", "<init>", "()V"⟩ ∈ QT := q_in 182 (by decide +kernel) rfl
theorem w_183 : Cond.instanceMethod ⟨"PriceHouse$Basket", "<init>", "()V"⟩ ∈ QT := q_in 183 (by decide +kernel) rfl
theorem w_184 : Cond.code ⟨"PriceHouse$Basket", "<init>", "()V"⟩ prog_2_method_1_code 1 none ∈ QT := q_in 184 (by decide +kernel) rfl
theorem w_185 : Cond.methodLink "PriceHouse$Basket" 3 ⟨"java/lang/Object", "<init>", "()V"⟩ ∈ QT := q_in 185 (by decide +kernel) rfl
theorem w_186 : Cond.fieldLink "PriceHouse$Basket" 15 "PriceHouse$Basket" "till" "I" ∈ QT := q_in 186 (by decide +kernel) rfl
theorem w_187 : Cond.fieldLink "PriceHouse" 212 "PriceHouse$Basket" "till" "I" ∈ QT := q_in 187 (by decide +kernel) rfl
theorem w_188 : Cond.fieldLink "PriceHouse$Basket" 19 "PriceHouse$Basket" "bookNumber" "I" ∈ QT := q_in 188 (by decide +kernel) rfl
theorem w_189 : Cond.fieldLink "PriceHouse" 199 "PriceHouse$Basket" "bookNumber" "I" ∈ QT := q_in 189 (by decide +kernel) rfl
theorem w_190 : Cond.fieldLink "PriceHouse$Basket" 22 "PriceHouse$Basket" "isOpen" "Z" ∈ QT := q_in 190 (by decide +kernel) rfl
theorem w_191 : Cond.fieldLink "PriceHouse" 209 "PriceHouse$Basket" "isOpen" "Z" ∈ QT := q_in 191 (by decide +kernel) rfl
theorem w_192 : Cond.fieldLink "PriceHouse$Basket" 9 "PriceHouse$Basket" "pieces" "[I" ∈ QT := q_in 192 (by decide +kernel) rfl
theorem w_193 : Cond.fieldLink "PriceHouse" 206 "PriceHouse$Basket" "pieces" "[I" ∈ QT := q_in 193 (by decide +kernel) rfl
theorem w_194 : Cond.lays "PriceHouse$Basket" "PriceHouse$Basket" "till" "I" ∈ QT := q_in 194 (by decide +kernel) rfl
theorem w_195 : Cond.soleField "PriceHouse$Basket" "till" ∈ QT := q_in 195 (by decide +kernel) rfl
theorem w_196 : Cond.lays "PriceHouse$Basket" "PriceHouse$Basket" "bookNumber" "I" ∈ QT := q_in 196 (by decide +kernel) rfl
theorem w_197 : Cond.soleField "PriceHouse$Basket" "bookNumber" ∈ QT := q_in 197 (by decide +kernel) rfl
theorem w_198 : Cond.lays "PriceHouse$Basket" "PriceHouse$Basket" "isOpen" "Z" ∈ QT := q_in 198 (by decide +kernel) rfl
theorem w_199 : Cond.soleField "PriceHouse$Basket" "isOpen" ∈ QT := q_in 199 (by decide +kernel) rfl
theorem w_200 : Cond.laysFinal "PriceHouse$Basket" "PriceHouse$Basket" "pieces" "[I" ∈ QT := q_in 200 (by decide +kernel) rfl
theorem w_201 : Cond.soleField "PriceHouse$Basket" "pieces" ∈ QT := q_in 201 (by decide +kernel) rfl
theorem w_202 : Cond.superclass "PriceHouse$Basket" "java/lang/Object" ∈ QT := q_in 202 (by decide +kernel) rfl
theorem w_203 : Cond.fieldLink "PriceHouse" 10 "PriceHouse" "draft" "LPriceHouse$PriceList;" ∈ QT := q_in 203 (by decide +kernel) rfl
theorem w_204 : Cond.fieldLink "PriceHouse" 16 "PriceHouse" "books" "[LPriceHouse$PriceList;" ∈ QT := q_in 204 (by decide +kernel) rfl
theorem w_205 : Cond.fieldLink "PriceHouse" 78 "PriceHouse" "published" "I" ∈ QT := q_in 205 (by decide +kernel) rfl
theorem w_206 : Cond.fieldLink "PriceHouse" 22 "PriceHouse" "tills" "[LPriceHouse$Till;" ∈ QT := q_in 206 (by decide +kernel) rfl
theorem w_207 : Cond.fieldLink "PriceHouse" 30 "PriceHouse" "desk" "LPriceHouse$Desk;" ∈ QT := q_in 207 (by decide +kernel) rfl
theorem w_208 : Cond.fieldLink "PriceHouse" 37 "PriceHouse" "row" "LPriceHouse$LetterRow;" ∈ QT := q_in 208 (by decide +kernel) rfl
theorem w_209 : Cond.fieldLink "PriceHouse" 43 "PriceHouse" "baskets" "[LPriceHouse$Basket;" ∈ QT := q_in 209 (by decide +kernel) rfl
theorem w_210 : Cond.fieldLink "PriceHouse" 190 "PriceHouse" "basketCount" "I" ∈ QT := q_in 210 (by decide +kernel) rfl
theorem w_211 : Cond.fieldLink "PriceHouse" 48 "PriceHouse" "leastRow" "[J" ∈ QT := q_in 211 (by decide +kernel) rfl
theorem w_212 : Cond.laysFinal "PriceHouse" "PriceHouse" "draft" "LPriceHouse$PriceList;" ∈ QT := q_in 212 (by decide +kernel) rfl
theorem w_213 : Cond.soleField "PriceHouse" "draft" ∈ QT := q_in 213 (by decide +kernel) rfl
theorem w_214 : Cond.laysFinal "PriceHouse" "PriceHouse" "books" "[LPriceHouse$PriceList;" ∈ QT := q_in 214 (by decide +kernel) rfl
theorem w_215 : Cond.soleField "PriceHouse" "books" ∈ QT := q_in 215 (by decide +kernel) rfl
theorem w_216 : Cond.lays "PriceHouse" "PriceHouse" "published" "I" ∈ QT := q_in 216 (by decide +kernel) rfl
theorem w_217 : Cond.soleField "PriceHouse" "published" ∈ QT := q_in 217 (by decide +kernel) rfl
theorem w_218 : Cond.laysFinal "PriceHouse" "PriceHouse" "tills" "[LPriceHouse$Till;" ∈ QT := q_in 218 (by decide +kernel) rfl
theorem w_219 : Cond.soleField "PriceHouse" "tills" ∈ QT := q_in 219 (by decide +kernel) rfl
theorem w_220 : Cond.laysFinal "PriceHouse" "PriceHouse" "desk" "LPriceHouse$Desk;" ∈ QT := q_in 220 (by decide +kernel) rfl
theorem w_221 : Cond.soleField "PriceHouse" "desk" ∈ QT := q_in 221 (by decide +kernel) rfl
theorem w_222 : Cond.laysFinal "PriceHouse" "PriceHouse" "row" "LPriceHouse$LetterRow;" ∈ QT := q_in 222 (by decide +kernel) rfl
theorem w_223 : Cond.soleField "PriceHouse" "row" ∈ QT := q_in 223 (by decide +kernel) rfl
theorem w_224 : Cond.laysFinal "PriceHouse" "PriceHouse" "baskets" "[LPriceHouse$Basket;" ∈ QT := q_in 224 (by decide +kernel) rfl
theorem w_225 : Cond.soleField "PriceHouse" "baskets" ∈ QT := q_in 225 (by decide +kernel) rfl
theorem w_226 : Cond.lays "PriceHouse" "PriceHouse" "basketCount" "I" ∈ QT := q_in 226 (by decide +kernel) rfl
theorem w_227 : Cond.soleField "PriceHouse" "basketCount" ∈ QT := q_in 227 (by decide +kernel) rfl
theorem w_228 : Cond.laysFinal "PriceHouse" "PriceHouse" "leastRow" "[J" ∈ QT := q_in 228 (by decide +kernel) rfl
theorem w_229 : Cond.soleField "PriceHouse" "leastRow" ∈ QT := q_in 229 (by decide +kernel) rfl
theorem w_230 : Cond.superclass "PriceHouse" "java/lang/Object" ∈ QT := q_in 230 (by decide +kernel) rfl
theorem w_231 : Cond.arrayClass .long ∈ QT := q_in 231 (by decide +kernel) rfl
theorem w_232 : Cond.methodLink "PriceHouseLaw" 116 ⟨"PriceHouse", "active", "()I"⟩ ∈ QT := q_in 232 (by decide +kernel) rfl
theorem w_233 : Cond.instanceMethod ⟨"PriceHouse", "active", "()I"⟩ ∈ QT := q_in 233 (by decide +kernel) rfl
theorem w_234 : Cond.selects "PriceHouse" ⟨"PriceHouse", "active", "()I"⟩ ⟨"PriceHouse", "active", "()I"⟩ ∈ QT := q_in 234 (by decide +kernel) rfl
theorem w_235 : Cond.code ⟨"PriceHouse", "active", "()I"⟩ prog_1_method_7_code 1 (some .int) ∈ QT := q_in 235 (by decide +kernel) rfl
theorem w_236 : Cond.methodLink "PriceHouseLaw" 158 ⟨"PriceHouse", "letters", "()I"⟩ ∈ QT := q_in 236 (by decide +kernel) rfl
theorem w_237 : Cond.instanceMethod ⟨"PriceHouse", "letters", "()I"⟩ ∈ QT := q_in 237 (by decide +kernel) rfl
theorem w_238 : Cond.selects "PriceHouse" ⟨"PriceHouse", "letters", "()I"⟩ ⟨"PriceHouse", "letters", "()I"⟩ ∈ QT := q_in 238 (by decide +kernel) rfl
theorem w_239 : Cond.code ⟨"PriceHouse", "letters", "()I"⟩ prog_1_method_21_code 1 (some .int) ∈ QT := q_in 239 (by decide +kernel) rfl
theorem w_240 : Cond.methodLink "PriceHouseLaw" 95 ⟨"PriceHouseLaw", "article", "(LPriceHouse;II)I"⟩ ∈ QT := q_in 240 (by decide +kernel) rfl
theorem w_241 : Cond.static ⟨"PriceHouseLaw", "article", "(LPriceHouse;II)I"⟩ ∈ QT := q_in 241 (by decide +kernel) rfl
theorem w_242 : Cond.codeWith ⟨"PriceHouseLaw", "article", "(LPriceHouse;II)I"⟩ method_3_code 4 (some .int) [(0, 6, 9, 13)] ∈ QT := q_in 242 (by decide +kernel) rfl
theorem w_243 : Cond.classLink "PriceHouseLaw" 13 "java/lang/IllegalArgumentException" ∈ QT := q_in 243 (by decide +kernel) rfl
theorem w_244 : Cond.methodLink "PriceHouseLaw" 7 ⟨"PriceHouse", "article", "(II)V"⟩ ∈ QT := q_in 244 (by decide +kernel) rfl
theorem w_245 : Cond.instanceMethod ⟨"PriceHouse", "article", "(II)V"⟩ ∈ QT := q_in 245 (by decide +kernel) rfl
theorem w_246 : Cond.selects "PriceHouse" ⟨"PriceHouse", "article", "(II)V"⟩ ⟨"PriceHouse", "article", "(II)V"⟩ ∈ QT := q_in 246 (by decide +kernel) rfl
theorem w_247 : Cond.code ⟨"PriceHouse", "article", "(II)V"⟩ prog_1_method_2_code 3 none ∈ QT := q_in 247 (by decide +kernel) rfl
theorem w_248 : Cond.methodLink "PriceHouse" 52 ⟨"PriceHouse", "isArticle", "(I)Z"⟩ ∈ QT := q_in 248 (by decide +kernel) rfl
theorem w_249 : Cond.static ⟨"PriceHouse", "isArticle", "(I)Z"⟩ ∈ QT := q_in 249 (by decide +kernel) rfl
theorem w_250 : Cond.code ⟨"PriceHouse", "isArticle", "(I)Z"⟩ prog_1_method_26_code 1 (some .boolean) ∈ QT := q_in 250 (by decide +kernel) rfl
theorem w_251 : Cond.methodLink "PriceHouse" 56 ⟨"PriceHouse", "isAmount", "(I)Z"⟩ ∈ QT := q_in 251 (by decide +kernel) rfl
theorem w_252 : Cond.static ⟨"PriceHouse", "isAmount", "(I)Z"⟩ ∈ QT := q_in 252 (by decide +kernel) rfl
theorem w_253 : Cond.code ⟨"PriceHouse", "isAmount", "(I)Z"⟩ prog_1_method_29_code 1 (some .boolean) ∈ QT := q_in 253 (by decide +kernel) rfl
theorem w_254 : Cond.constant "PriceHouse" 225 (10000000 : Int32) ∈ QT := q_in 254 (by decide +kernel) rfl
theorem w_255 : Cond.classLink "PriceHouse" 59 "java/lang/IllegalArgumentException" ∈ QT := q_in 255 (by decide +kernel) rfl
theorem w_256 : Cond.instantiable "java/lang/IllegalArgumentException" 6 ∈ QT := q_in 256 (by decide +kernel) rfl
theorem w_257 : Cond.castable "java/lang/IllegalArgumentException" "java/lang/IllegalArgumentException" ∈ QT := q_in 257 (by decide +kernel) rfl
theorem w_264 : Cond.selects "java/lang/IllegalArgumentException" ⟨"java/lang/Throwable", "fillInStackTrace", "(I)Ljava/lang/Throwable;"⟩ ⟨"java/lang/Throwable", "fillInStackTrace", "(I)Ljava/lang/Throwable;"⟩ ∈ QT := q_in 264 (by decide +kernel) rfl
theorem w_265 : Cond.selects "java/lang/IllegalArgumentException" ⟨"java/lang/Throwable", "fillInStackTrace", "()Ljava/lang/Throwable;"⟩ ⟨"java/lang/Throwable", "fillInStackTrace", "()Ljava/lang/Throwable;"⟩ ∈ QT := q_in 265 (by decide +kernel) rfl
theorem w_266 : Cond.lays "java/lang/IllegalArgumentException" "java/lang/Throwable" "cause" "Ljava/lang/Throwable;" ∈ QT := q_in 266 (by decide +kernel) rfl
theorem w_267 : Cond.lays "java/lang/Throwable" "java/lang/Throwable" "cause" "Ljava/lang/Throwable;" ∈ QT := q_in 267 (by decide +kernel) rfl
theorem w_268 : Cond.lays "java/lang/IllegalArgumentException" "java/lang/Throwable" "stackTrace" "[Ljava/lang/StackTraceElement;" ∈ QT := q_in 268 (by decide +kernel) rfl
theorem w_269 : Cond.lays "java/lang/Throwable" "java/lang/Throwable" "stackTrace" "[Ljava/lang/StackTraceElement;" ∈ QT := q_in 269 (by decide +kernel) rfl
theorem w_270 : Cond.lays "java/lang/IllegalArgumentException" "java/lang/Throwable" "suppressedExceptions" "Ljava/util/List;" ∈ QT := q_in 270 (by decide +kernel) rfl
theorem w_271 : Cond.lays "java/lang/Throwable" "java/lang/Throwable" "suppressedExceptions" "Ljava/util/List;" ∈ QT := q_in 271 (by decide +kernel) rfl
theorem w_272 : Cond.lays "java/lang/IllegalArgumentException" "java/lang/Throwable" "detailMessage" "Ljava/lang/String;" ∈ QT := q_in 272 (by decide +kernel) rfl
theorem w_273 : Cond.lays "java/lang/Throwable" "java/lang/Throwable" "detailMessage" "Ljava/lang/String;" ∈ QT := q_in 273 (by decide +kernel) rfl
theorem w_274 : Cond.lays "java/lang/IllegalArgumentException" "java/lang/Throwable" "backtrace" "Ljava/lang/Object;" ∈ QT := q_in 274 (by decide +kernel) rfl
theorem w_275 : Cond.lays "java/lang/Throwable" "java/lang/Throwable" "backtrace" "Ljava/lang/Object;" ∈ QT := q_in 275 (by decide +kernel) rfl
theorem w_276 : Cond.fieldLink "java/lang/Throwable" 198 "java/lang/Throwable" "backtrace" "Ljava/lang/Object;" ∈ QT := q_in 276 (by decide +kernel) rfl
theorem w_277 : Cond.superclass "java/lang/Throwable" "java/lang/Object" ∈ QT := q_in 277 (by decide +kernel) rfl
theorem w_278 : Cond.instanceMethod ⟨"java/lang/Throwable", "<init>", "()V"⟩ ∈ QT := q_in 278 (by decide +kernel) rfl
theorem w_279 : Cond.code ⟨"java/lang/Throwable", "<init>", "()V"⟩ prog_18_method_1_code 1 none ∈ QT := q_in 279 (by decide +kernel) rfl
theorem w_280 : Cond.methodLink "java/lang/Throwable" 1 ⟨"java/lang/Object", "<init>", "()V"⟩ ∈ QT := q_in 280 (by decide +kernel) rfl
theorem w_281 : Cond.fieldLink "java/lang/Throwable" 13 "java/lang/Throwable" "UNASSIGNED_STACK" "[Ljava/lang/StackTraceElement;" ∈ QT := q_in 281 (by decide +kernel) rfl
theorem w_283 : Cond.fieldLink "java/lang/Throwable" 20 "java/lang/Throwable" "SUPPRESSED_SENTINEL" "Ljava/util/List;" ∈ QT := q_in 283 (by decide +kernel) rfl
theorem w_285 : Cond.methodLink "java/lang/Throwable" 27 ⟨"java/lang/Throwable", "fillInStackTrace", "()Ljava/lang/Throwable;"⟩ ∈ QT := q_in 285 (by decide +kernel) rfl
theorem w_286 : Cond.instanceMethod ⟨"java/lang/Throwable", "fillInStackTrace", "()Ljava/lang/Throwable;"⟩ ∈ QT := q_in 286 (by decide +kernel) rfl
theorem w_287 : Cond.sameMethod "java/lang/Throwable" "java/lang/Throwable" "fillInStackTrace" "()Ljava/lang/Throwable;" ∈ QT := q_in 287 (by decide +kernel) rfl
theorem w_288 : Cond.selects "java/lang/IllegalStateException" ⟨"java/lang/Throwable", "fillInStackTrace", "()Ljava/lang/Throwable;"⟩ ⟨"java/lang/Throwable", "fillInStackTrace", "()Ljava/lang/Throwable;"⟩ ∈ QT := q_in 288 (by decide +kernel) rfl
theorem w_289 : Cond.selects "java/lang/IndexOutOfBoundsException" ⟨"java/lang/Throwable", "fillInStackTrace", "()Ljava/lang/Throwable;"⟩ ⟨"java/lang/Throwable", "fillInStackTrace", "()Ljava/lang/Throwable;"⟩ ∈ QT := q_in 289 (by decide +kernel) rfl
theorem w_290 : Cond.selects "java/util/NoSuchElementException" ⟨"java/lang/Throwable", "fillInStackTrace", "()Ljava/lang/Throwable;"⟩ ⟨"java/lang/Throwable", "fillInStackTrace", "()Ljava/lang/Throwable;"⟩ ∈ QT := q_in 290 (by decide +kernel) rfl
theorem w_291 : Cond.codeSync ⟨"java/lang/Throwable", "fillInStackTrace", "()Ljava/lang/Throwable;"⟩ prog_18_method_18_code 1 (some (.object "java/lang/Throwable")) ∈ QT := q_in 291 (by decide +kernel) rfl
theorem w_292 : Cond.methodLink "java/lang/Throwable" 202 ⟨"java/lang/Throwable", "fillInStackTrace", "(I)Ljava/lang/Throwable;"⟩ ∈ QT := q_in 292 (by decide +kernel) rfl
theorem w_294 : Cond.instanceMethod ⟨"java/lang/Throwable", "fillInStackTrace", "(I)Ljava/lang/Throwable;"⟩ ∈ QT := q_in 294 (by decide +kernel) rfl
theorem w_295 : Cond.instantiable "java/lang/Throwable" 6 ∈ QT := q_in 295 (by decide +kernel) rfl
theorem w_296 : Cond.native ⟨"java/lang/Throwable", "fillInStackTrace", "(I)Ljava/lang/Throwable;"⟩ ∈ QT := q_in 296 (by decide +kernel) rfl
theorem w_297 : Cond.methodLink "PriceHouse" 61 ⟨"java/lang/IllegalArgumentException", "<init>", "()V"⟩ ∈ QT := q_in 297 (by decide +kernel) rfl
theorem w_298 : Cond.instanceMethod ⟨"java/lang/IllegalArgumentException", "<init>", "()V"⟩ ∈ QT := q_in 298 (by decide +kernel) rfl
theorem w_299 : Cond.code ⟨"java/lang/IllegalArgumentException", "<init>", "()V"⟩ prog_12_method_1_code 1 none ∈ QT := q_in 299 (by decide +kernel) rfl
theorem w_300 : Cond.methodLink "java/lang/IllegalArgumentException" 1 ⟨"java/lang/RuntimeException", "<init>", "()V"⟩ ∈ QT := q_in 300 (by decide +kernel) rfl
theorem w_301 : Cond.instanceMethod ⟨"java/lang/RuntimeException", "<init>", "()V"⟩ ∈ QT := q_in 301 (by decide +kernel) rfl
theorem w_302 : Cond.code ⟨"java/lang/RuntimeException", "<init>", "()V"⟩ prog_16_method_1_code 1 none ∈ QT := q_in 302 (by decide +kernel) rfl
theorem w_303 : Cond.methodLink "java/lang/RuntimeException" 1 ⟨"java/lang/Exception", "<init>", "()V"⟩ ∈ QT := q_in 303 (by decide +kernel) rfl
theorem w_304 : Cond.instanceMethod ⟨"java/lang/Exception", "<init>", "()V"⟩ ∈ QT := q_in 304 (by decide +kernel) rfl
theorem w_305 : Cond.code ⟨"java/lang/Exception", "<init>", "()V"⟩ prog_11_method_1_code 1 none ∈ QT := q_in 305 (by decide +kernel) rfl
theorem w_306 : Cond.methodLink "java/lang/Exception" 1 ⟨"java/lang/Throwable", "<init>", "()V"⟩ ∈ QT := q_in 306 (by decide +kernel) rfl
theorem w_307 : Cond.fieldLink "java/lang/Throwable" 198 "java/lang/Throwable" "backtrace" "Ljava/lang/Object;" ∈ QT := q_in 307 (by decide +kernel) rfl
theorem w_308 : Cond.fieldLink "java/lang/Throwable" 7 "java/lang/Throwable" "cause" "Ljava/lang/Throwable;" ∈ QT := q_in 308 (by decide +kernel) rfl
theorem w_309 : Cond.fieldLink "java/lang/Throwable" 17 "java/lang/Throwable" "stackTrace" "[Ljava/lang/StackTraceElement;" ∈ QT := q_in 309 (by decide +kernel) rfl
theorem w_310 : Cond.fieldLink "java/lang/Throwable" 24 "java/lang/Throwable" "suppressedExceptions" "Ljava/util/List;" ∈ QT := q_in 310 (by decide +kernel) rfl
theorem w_311 : Cond.soleField "java/lang/Throwable" "backtrace" ∈ QT := q_in 311 (by decide +kernel) rfl
theorem w_312 : Cond.soleField "java/lang/Throwable" "detailMessage" ∈ QT := q_in 312 (by decide +kernel) rfl
theorem w_313 : Cond.soleField "java/lang/Throwable" "cause" ∈ QT := q_in 313 (by decide +kernel) rfl
theorem w_314 : Cond.soleField "java/lang/Throwable" "stackTrace" ∈ QT := q_in 314 (by decide +kernel) rfl
theorem w_315 : Cond.lays "java/lang/IllegalArgumentException" "java/lang/Throwable" "depth" "I" ∈ QT := q_in 315 (by decide +kernel) rfl
theorem w_316 : Cond.soleField "java/lang/Throwable" "depth" ∈ QT := q_in 316 (by decide +kernel) rfl
theorem w_317 : Cond.soleField "java/lang/Throwable" "suppressedExceptions" ∈ QT := q_in 317 (by decide +kernel) rfl
theorem w_318 : Cond.superclass "java/lang/IllegalArgumentException" "java/lang/RuntimeException" ∈ QT := q_in 318 (by decide +kernel) rfl
theorem w_319 : Cond.methodLink "PriceHouseLaw" 104 ⟨"PriceHouseLaw", "bundle", "(LPriceHouse;IIII)I"⟩ ∈ QT := q_in 319 (by decide +kernel) rfl
theorem w_320 : Cond.static ⟨"PriceHouseLaw", "bundle", "(LPriceHouse;IIII)I"⟩ ∈ QT := q_in 320 (by decide +kernel) rfl
theorem w_321 : Cond.codeWith ⟨"PriceHouseLaw", "bundle", "(LPriceHouse;IIII)I"⟩ method_4_code 6 (some .int) [(0, 9, 12, 13)] ∈ QT := q_in 321 (by decide +kernel) rfl
theorem w_322 : Cond.methodLink "PriceHouseLaw" 15 ⟨"PriceHouse", "bundle", "(IIII)V"⟩ ∈ QT := q_in 322 (by decide +kernel) rfl
theorem w_323 : Cond.instanceMethod ⟨"PriceHouse", "bundle", "(IIII)V"⟩ ∈ QT := q_in 323 (by decide +kernel) rfl
theorem w_324 : Cond.selects "PriceHouse" ⟨"PriceHouse", "bundle", "(IIII)V"⟩ ⟨"PriceHouse", "bundle", "(IIII)V"⟩ ∈ QT := q_in 324 (by decide +kernel) rfl
theorem w_325 : Cond.code ⟨"PriceHouse", "bundle", "(IIII)V"⟩ prog_1_method_3_code 5 none ∈ QT := q_in 325 (by decide +kernel) rfl
theorem w_326 : Cond.methodLink "PriceHouse" 66 ⟨"PriceHouse", "isSlot", "(I)Z"⟩ ∈ QT := q_in 326 (by decide +kernel) rfl
theorem w_327 : Cond.static ⟨"PriceHouse", "isSlot", "(I)Z"⟩ ∈ QT := q_in 327 (by decide +kernel) rfl
theorem w_328 : Cond.code ⟨"PriceHouse", "isSlot", "(I)Z"⟩ prog_1_method_27_code 1 (some .boolean) ∈ QT := q_in 328 (by decide +kernel) rfl
theorem w_329 : Cond.methodLink "PriceHouse" 69 ⟨"PriceHouse", "isBundleSize", "(I)Z"⟩ ∈ QT := q_in 329 (by decide +kernel) rfl
theorem w_330 : Cond.static ⟨"PriceHouse", "isBundleSize", "(I)Z"⟩ ∈ QT := q_in 330 (by decide +kernel) rfl
theorem w_331 : Cond.code ⟨"PriceHouse", "isBundleSize", "(I)Z"⟩ prog_1_method_28_code 1 (some .boolean) ∈ QT := q_in 331 (by decide +kernel) rfl
theorem w_332 : Cond.methodLink "PriceHouseLaw" 108 ⟨"PriceHouseLaw", "publish", "(LPriceHouse;[J)I"⟩ ∈ QT := q_in 332 (by decide +kernel) rfl
theorem w_333 : Cond.static ⟨"PriceHouseLaw", "publish", "(LPriceHouse;[J)I"⟩ ∈ QT := q_in 333 (by decide +kernel) rfl
theorem w_334 : Cond.codeWith ⟨"PriceHouseLaw", "publish", "(LPriceHouse;[J)I"⟩ method_5_code 3 (some .int) [(0, 8, 11, 23)] ∈ QT := q_in 334 (by decide +kernel) rfl
theorem w_335 : Cond.classLink "PriceHouseLaw" 23 "java/lang/IllegalStateException" ∈ QT := q_in 335 (by decide +kernel) rfl
theorem w_336 : Cond.methodLink "PriceHouseLaw" 19 ⟨"PriceHouse", "publish", "()I"⟩ ∈ QT := q_in 336 (by decide +kernel) rfl
theorem w_337 : Cond.instanceMethod ⟨"PriceHouse", "publish", "()I"⟩ ∈ QT := q_in 337 (by decide +kernel) rfl
theorem w_338 : Cond.selects "PriceHouse" ⟨"PriceHouse", "publish", "()I"⟩ ⟨"PriceHouse", "publish", "()I"⟩ ∈ QT := q_in 338 (by decide +kernel) rfl
theorem w_339 : Cond.code ⟨"PriceHouse", "publish", "()I"⟩ prog_1_method_4_code 2 (some .int) ∈ QT := q_in 339 (by decide +kernel) rfl
theorem w_340 : Cond.classLink "PriceHouse" 82 "java/lang/IllegalStateException" ∈ QT := q_in 340 (by decide +kernel) rfl
theorem w_341 : Cond.instantiable "java/lang/IllegalStateException" 6 ∈ QT := q_in 341 (by decide +kernel) rfl
theorem w_342 : Cond.castable "java/lang/IllegalStateException" "java/lang/IllegalStateException" ∈ QT := q_in 342 (by decide +kernel) rfl
theorem w_343 : Cond.selects "java/lang/IllegalStateException" ⟨"java/lang/Throwable", "fillInStackTrace", "(I)Ljava/lang/Throwable;"⟩ ⟨"java/lang/Throwable", "fillInStackTrace", "(I)Ljava/lang/Throwable;"⟩ ∈ QT := q_in 343 (by decide +kernel) rfl
theorem w_344 : Cond.lays "java/lang/IllegalStateException" "java/lang/Throwable" "cause" "Ljava/lang/Throwable;" ∈ QT := q_in 344 (by decide +kernel) rfl
theorem w_345 : Cond.lays "java/lang/IllegalStateException" "java/lang/Throwable" "stackTrace" "[Ljava/lang/StackTraceElement;" ∈ QT := q_in 345 (by decide +kernel) rfl
theorem w_346 : Cond.lays "java/lang/IllegalStateException" "java/lang/Throwable" "suppressedExceptions" "Ljava/util/List;" ∈ QT := q_in 346 (by decide +kernel) rfl
theorem w_347 : Cond.lays "java/lang/IllegalStateException" "java/lang/Throwable" "detailMessage" "Ljava/lang/String;" ∈ QT := q_in 347 (by decide +kernel) rfl
theorem w_348 : Cond.lays "java/lang/IllegalStateException" "java/lang/Throwable" "backtrace" "Ljava/lang/Object;" ∈ QT := q_in 348 (by decide +kernel) rfl
theorem w_349 : Cond.methodLink "PriceHouse" 84 ⟨"java/lang/IllegalStateException", "<init>", "()V"⟩ ∈ QT := q_in 349 (by decide +kernel) rfl
theorem w_350 : Cond.instanceMethod ⟨"java/lang/IllegalStateException", "<init>", "()V"⟩ ∈ QT := q_in 350 (by decide +kernel) rfl
theorem w_351 : Cond.code ⟨"java/lang/IllegalStateException", "<init>", "()V"⟩ prog_13_method_1_code 1 none ∈ QT := q_in 351 (by decide +kernel) rfl
theorem w_352 : Cond.methodLink "java/lang/IllegalStateException" 1 ⟨"java/lang/RuntimeException", "<init>", "()V"⟩ ∈ QT := q_in 352 (by decide +kernel) rfl
theorem w_353 : Cond.lays "java/lang/IllegalStateException" "java/lang/Throwable" "depth" "I" ∈ QT := q_in 353 (by decide +kernel) rfl
theorem w_354 : Cond.superclass "java/lang/IllegalStateException" "java/lang/RuntimeException" ∈ QT := q_in 354 (by decide +kernel) rfl
theorem w_355 : Cond.methodLink "PriceHouse" 85 ⟨"PriceHouse$PriceList", "copyFrom", "(LPriceHouse$PriceList;)V"⟩ ∈ QT := q_in 355 (by decide +kernel) rfl
theorem w_356 : Cond.instanceMethod ⟨"PriceHouse$PriceList", "copyFrom", "(LPriceHouse$PriceList;)V"⟩ ∈ QT := q_in 356 (by decide +kernel) rfl
theorem w_357 : Cond.selects "PriceHouse$PriceList" ⟨"PriceHouse$PriceList", "copyFrom", "(LPriceHouse$PriceList;)V"⟩ ⟨"PriceHouse$PriceList", "copyFrom", "(LPriceHouse$PriceList;)V"⟩ ∈ QT := q_in 357 (by decide +kernel) rfl
theorem w_358 : Cond.code ⟨"PriceHouse$PriceList", "copyFrom", "(LPriceHouse$PriceList;)V"⟩ prog_7_method_2_code 2 none ∈ QT := q_in 358 (by decide +kernel) rfl
theorem w_359 : Cond.methodLink "PriceHouse$PriceList" 21 ⟨"java/lang/System", "arraycopy", "(Ljava/lang/Object;ILjava/lang/Object;II)V"⟩ ∈ QT := q_in 359 (by decide +kernel) rfl
theorem w_360 : Cond.static ⟨"java/lang/System", "arraycopy", "(Ljava/lang/Object;ILjava/lang/Object;II)V"⟩ ∈ QT := q_in 360 (by decide +kernel) rfl
theorem w_361 : Cond.native ⟨"java/lang/System", "arraycopy", "(Ljava/lang/Object;ILjava/lang/Object;II)V"⟩ ∈ QT := q_in 361 (by decide +kernel) rfl
theorem w_362 : Cond.methodLink "PriceHouse" 89 ⟨"PriceHouse$LetterRow", "post", "(IIII)V"⟩ ∈ QT := q_in 362 (by decide +kernel) rfl
theorem w_363 : Cond.instanceMethod ⟨"PriceHouse$LetterRow", "post", "(IIII)V"⟩ ∈ QT := q_in 363 (by decide +kernel) rfl
theorem w_364 : Cond.selects "PriceHouse$LetterRow" ⟨"PriceHouse$LetterRow", "post", "(IIII)V"⟩ ⟨"PriceHouse$LetterRow", "post", "(IIII)V"⟩ ∈ QT := q_in 364 (by decide +kernel) rfl
theorem w_365 : Cond.code ⟨"PriceHouse$LetterRow", "post", "(IIII)V"⟩ prog_5_method_3_code 5 none ∈ QT := q_in 365 (by decide +kernel) rfl
theorem w_366 : Cond.methodLink "PriceHouse$LetterRow" 28 ⟨"PriceHouse$LetterRow", "isFull", "()Z"⟩ ∈ QT := q_in 366 (by decide +kernel) rfl
theorem w_367 : Cond.instanceMethod ⟨"PriceHouse$LetterRow", "isFull", "()Z"⟩ ∈ QT := q_in 367 (by decide +kernel) rfl
theorem w_368 : Cond.selects "PriceHouse$LetterRow" ⟨"PriceHouse$LetterRow", "isFull", "()Z"⟩ ⟨"PriceHouse$LetterRow", "isFull", "()Z"⟩ ∈ QT := q_in 368 (by decide +kernel) rfl
theorem w_369 : Cond.code ⟨"PriceHouse$LetterRow", "isFull", "()Z"⟩ prog_5_method_2_code 1 (some .boolean) ∈ QT := q_in 369 (by decide +kernel) rfl
theorem w_370 : Cond.methodLink "PriceHouseLaw" 112 ⟨"PriceHouseLaw", "activate", "(LPriceHouse;I)I"⟩ ∈ QT := q_in 370 (by decide +kernel) rfl
theorem w_371 : Cond.static ⟨"PriceHouseLaw", "activate", "(LPriceHouse;I)I"⟩ ∈ QT := q_in 371 (by decide +kernel) rfl
theorem w_372 : Cond.codeWith ⟨"PriceHouseLaw", "activate", "(LPriceHouse;I)I"⟩ method_6_code 3 (some .int) [(0, 5, 8, 13), (0, 5, 11, 23)] ∈ QT := q_in 372 (by decide +kernel) rfl
theorem w_373 : Cond.methodLink "PriceHouseLaw" 25 ⟨"PriceHouse", "activate", "(I)V"⟩ ∈ QT := q_in 373 (by decide +kernel) rfl
theorem w_374 : Cond.instanceMethod ⟨"PriceHouse", "activate", "(I)V"⟩ ∈ QT := q_in 374 (by decide +kernel) rfl
theorem w_375 : Cond.selects "PriceHouse" ⟨"PriceHouse", "activate", "(I)V"⟩ ⟨"PriceHouse", "activate", "(I)V"⟩ ∈ QT := q_in 375 (by decide +kernel) rfl
theorem w_376 : Cond.code ⟨"PriceHouse", "activate", "(I)V"⟩ prog_1_method_6_code 2 none ∈ QT := q_in 376 (by decide +kernel) rfl
theorem w_377 : Cond.methodLink "PriceHouse" 93 ⟨"PriceHouse", "isBook", "(I)Z"⟩ ∈ QT := q_in 377 (by decide +kernel) rfl
theorem w_379 : Cond.instanceMethod ⟨"PriceHouse", "isBook", "(I)Z"⟩ ∈ QT := q_in 379 (by decide +kernel) rfl
theorem w_380 : Cond.code ⟨"PriceHouse", "isBook", "(I)Z"⟩ prog_1_method_31_code 2 (some .boolean) ∈ QT := q_in 380 (by decide +kernel) rfl
theorem w_381 : Cond.methodLink "PriceHouse" 102 ⟨"PriceHouse$Desk", "lookAtChange", "()V"⟩ ∈ QT := q_in 381 (by decide +kernel) rfl
theorem w_382 : Cond.instanceMethod ⟨"PriceHouse$Desk", "lookAtChange", "()V"⟩ ∈ QT := q_in 382 (by decide +kernel) rfl
theorem w_383 : Cond.selects "PriceHouse$Desk" ⟨"PriceHouse$Desk", "lookAtChange", "()V"⟩ ⟨"PriceHouse$Desk", "lookAtChange", "()V"⟩ ∈ QT := q_in 383 (by decide +kernel) rfl
theorem w_384 : Cond.code ⟨"PriceHouse$Desk", "lookAtChange", "()V"⟩ prog_4_method_6_code 2 none ∈ QT := q_in 384 (by decide +kernel) rfl
theorem w_385 : Cond.methodLink "PriceHouse$Desk" 36 ⟨"PriceHouse$Desk", "waits", "()Z"⟩ ∈ QT := q_in 385 (by decide +kernel) rfl
theorem w_386 : Cond.instanceMethod ⟨"PriceHouse$Desk", "waits", "()Z"⟩ ∈ QT := q_in 386 (by decide +kernel) rfl
theorem w_387 : Cond.selects "PriceHouse$Desk" ⟨"PriceHouse$Desk", "waits", "()Z"⟩ ⟨"PriceHouse$Desk", "waits", "()Z"⟩ ∈ QT := q_in 387 (by decide +kernel) rfl
theorem w_388 : Cond.code ⟨"PriceHouse$Desk", "waits", "()Z"⟩ prog_4_method_2_code 1 (some .boolean) ∈ QT := q_in 388 (by decide +kernel) rfl
theorem w_389 : Cond.methodLink "PriceHouse$Desk" 25 ⟨"PriceHouse$Clock", "shown", "()I"⟩ ∈ QT := q_in 389 (by decide +kernel) rfl
theorem w_390 : Cond.instanceMethod ⟨"PriceHouse$Clock", "shown", "()I"⟩ ∈ QT := q_in 390 (by decide +kernel) rfl
theorem w_391 : Cond.selects "PriceHouse$Clock" ⟨"PriceHouse$Clock", "shown", "()I"⟩ ⟨"PriceHouse$Clock", "shown", "()I"⟩ ∈ QT := q_in 391 (by decide +kernel) rfl
theorem w_392 : Cond.code ⟨"PriceHouse$Clock", "shown", "()I"⟩ prog_3_method_3_code 1 (some .int) ∈ QT := q_in 392 (by decide +kernel) rfl
theorem w_393 : Cond.methodLink "PriceHouse$Desk" 60 ⟨"PriceHouse$Note", "allows", "(II)Z"⟩ ∈ QT := q_in 393 (by decide +kernel) rfl
theorem w_394 : Cond.instanceMethod ⟨"PriceHouse$Note", "allows", "(II)Z"⟩ ∈ QT := q_in 394 (by decide +kernel) rfl
theorem w_395 : Cond.selects "PriceHouse$Note" ⟨"PriceHouse$Note", "allows", "(II)Z"⟩ ⟨"PriceHouse$Note", "allows", "(II)Z"⟩ ∈ QT := q_in 395 (by decide +kernel) rfl
theorem w_396 : Cond.code ⟨"PriceHouse$Note", "allows", "(II)Z"⟩ prog_6_method_6_code 3 (some .boolean) ∈ QT := q_in 396 (by decide +kernel) rfl
theorem w_397 : Cond.methodLink "PriceHouseLaw" 120 ⟨"PriceHouseLaw", "tick", "(LPriceHouse;I[J)I"⟩ ∈ QT := q_in 397 (by decide +kernel) rfl
theorem w_398 : Cond.static ⟨"PriceHouseLaw", "tick", "(LPriceHouse;I[J)I"⟩ ∈ QT := q_in 398 (by decide +kernel) rfl
theorem w_399 : Cond.codeWith ⟨"PriceHouseLaw", "tick", "(LPriceHouse;I[J)I"⟩ method_7_code 4 (some .int) [(0, 9, 12, 13)] ∈ QT := q_in 399 (by decide +kernel) rfl
theorem w_400 : Cond.methodLink "PriceHouseLaw" 29 ⟨"PriceHouse", "tick", "(I)I"⟩ ∈ QT := q_in 400 (by decide +kernel) rfl
theorem w_401 : Cond.instanceMethod ⟨"PriceHouse", "tick", "(I)I"⟩ ∈ QT := q_in 401 (by decide +kernel) rfl
theorem w_402 : Cond.selects "PriceHouse" ⟨"PriceHouse", "tick", "(I)I"⟩ ⟨"PriceHouse", "tick", "(I)I"⟩ ∈ QT := q_in 402 (by decide +kernel) rfl
theorem w_403 : Cond.code ⟨"PriceHouse", "tick", "(I)I"⟩ prog_1_method_8_code 3 (some .int) ∈ QT := q_in 403 (by decide +kernel) rfl
theorem w_404 : Cond.methodLink "PriceHouse" 109 ⟨"PriceHouse$Clock", "go", "(I)V"⟩ ∈ QT := q_in 404 (by decide +kernel) rfl
theorem w_405 : Cond.instanceMethod ⟨"PriceHouse$Clock", "go", "(I)V"⟩ ∈ QT := q_in 405 (by decide +kernel) rfl
theorem w_406 : Cond.selects "PriceHouse$Clock" ⟨"PriceHouse$Clock", "go", "(I)V"⟩ ⟨"PriceHouse$Clock", "go", "(I)V"⟩ ∈ QT := q_in 406 (by decide +kernel) rfl
theorem w_407 : Cond.code ⟨"PriceHouse$Clock", "go", "(I)V"⟩ prog_3_method_2_code 2 none ∈ QT := q_in 407 (by decide +kernel) rfl
theorem w_408 : Cond.methodLink "PriceHouse" 116 ⟨"PriceHouse$Clock", "shown", "()I"⟩ ∈ QT := q_in 408 (by decide +kernel) rfl
theorem w_409 : Cond.methodLink "PriceHouseLaw" 124 ⟨"PriceHouseLaw", "rate", "(LPriceHouse;II)I"⟩ ∈ QT := q_in 409 (by decide +kernel) rfl
theorem w_410 : Cond.static ⟨"PriceHouseLaw", "rate", "(LPriceHouse;II)I"⟩ ∈ QT := q_in 410 (by decide +kernel) rfl
theorem w_411 : Cond.codeWith ⟨"PriceHouseLaw", "rate", "(LPriceHouse;II)I"⟩ method_8_code 4 (some .int) [(0, 6, 9, 13)] ∈ QT := q_in 411 (by decide +kernel) rfl
theorem w_412 : Cond.methodLink "PriceHouseLaw" 33 ⟨"PriceHouse", "rate", "(II)V"⟩ ∈ QT := q_in 412 (by decide +kernel) rfl
theorem w_413 : Cond.instanceMethod ⟨"PriceHouse", "rate", "(II)V"⟩ ∈ QT := q_in 413 (by decide +kernel) rfl
theorem w_414 : Cond.selects "PriceHouse" ⟨"PriceHouse", "rate", "(II)V"⟩ ⟨"PriceHouse", "rate", "(II)V"⟩ ∈ QT := q_in 414 (by decide +kernel) rfl
theorem w_415 : Cond.code ⟨"PriceHouse", "rate", "(II)V"⟩ prog_1_method_9_code 4 none ∈ QT := q_in 415 (by decide +kernel) rfl
theorem w_416 : Cond.methodLink "PriceHouse" 120 ⟨"PriceHouse", "isTillOrDesk", "(I)Z"⟩ ∈ QT := q_in 416 (by decide +kernel) rfl
theorem w_417 : Cond.static ⟨"PriceHouse", "isTillOrDesk", "(I)Z"⟩ ∈ QT := q_in 417 (by decide +kernel) rfl
theorem w_418 : Cond.code ⟨"PriceHouse", "isTillOrDesk", "(I)Z"⟩ prog_1_method_30_code 1 (some .boolean) ∈ QT := q_in 418 (by decide +kernel) rfl
theorem w_419 : Cond.methodLink "PriceHouseLaw" 127 ⟨"PriceHouseLaw", "fetch", "(LPriceHouse;I[J)I"⟩ ∈ QT := q_in 419 (by decide +kernel) rfl
theorem w_420 : Cond.static ⟨"PriceHouseLaw", "fetch", "(LPriceHouse;I[J)I"⟩ ∈ QT := q_in 420 (by decide +kernel) rfl
theorem w_421 : Cond.codeWith ⟨"PriceHouseLaw", "fetch", "(LPriceHouse;I[J)I"⟩ method_9_code 4 (some .int) [(0, 9, 12, 13)] ∈ QT := q_in 421 (by decide +kernel) rfl
theorem w_422 : Cond.methodLink "PriceHouseLaw" 36 ⟨"PriceHouse", "fetch", "(I)I"⟩ ∈ QT := q_in 422 (by decide +kernel) rfl
theorem w_423 : Cond.instanceMethod ⟨"PriceHouse", "fetch", "(I)I"⟩ ∈ QT := q_in 423 (by decide +kernel) rfl
theorem w_424 : Cond.selects "PriceHouse" ⟨"PriceHouse", "fetch", "(I)I"⟩ ⟨"PriceHouse", "fetch", "(I)I"⟩ ∈ QT := q_in 424 (by decide +kernel) rfl
theorem w_425 : Cond.code ⟨"PriceHouse", "fetch", "(I)I"⟩ prog_1_method_10_code 4 (some .int) ∈ QT := q_in 425 (by decide +kernel) rfl
theorem w_426 : Cond.methodLink "PriceHouse" 126 ⟨"PriceHouse", "checkTill", "(I)V"⟩ ∈ QT := q_in 426 (by decide +kernel) rfl
theorem w_427 : Cond.static ⟨"PriceHouse", "checkTill", "(I)V"⟩ ∈ QT := q_in 427 (by decide +kernel) rfl
theorem w_428 : Cond.code ⟨"PriceHouse", "checkTill", "(I)V"⟩ prog_1_method_34_code 1 none ∈ QT := q_in 428 (by decide +kernel) rfl
theorem w_429 : Cond.methodLink "PriceHouseLaw" 130 ⟨"PriceHouseLaw", "ready", "(LPriceHouse;I[J)I"⟩ ∈ QT := q_in 429 (by decide +kernel) rfl
theorem w_430 : Cond.static ⟨"PriceHouseLaw", "ready", "(LPriceHouse;I[J)I"⟩ ∈ QT := q_in 430 (by decide +kernel) rfl
theorem w_431 : Cond.codeWith ⟨"PriceHouseLaw", "ready", "(LPriceHouse;I[J)I"⟩ method_10_code 4 (some .int) [(0, 9, 12, 13), (0, 9, 15, 23)] ∈ QT := q_in 431 (by decide +kernel) rfl
theorem w_432 : Cond.methodLink "PriceHouseLaw" 39 ⟨"PriceHouse", "ready", "(I)I"⟩ ∈ QT := q_in 432 (by decide +kernel) rfl
theorem w_433 : Cond.instanceMethod ⟨"PriceHouse", "ready", "(I)I"⟩ ∈ QT := q_in 433 (by decide +kernel) rfl
theorem w_434 : Cond.selects "PriceHouse" ⟨"PriceHouse", "ready", "(I)I"⟩ ⟨"PriceHouse", "ready", "(I)I"⟩ ∈ QT := q_in 434 (by decide +kernel) rfl
theorem w_435 : Cond.code ⟨"PriceHouse", "ready", "(I)I"⟩ prog_1_method_11_code 3 (some .int) ∈ QT := q_in 435 (by decide +kernel) rfl
theorem w_436 : Cond.methodLink "PriceHouseLaw" 133 ⟨"PriceHouseLaw", "ask", "(LPriceHouse;I[J)I"⟩ ∈ QT := q_in 436 (by decide +kernel) rfl
theorem w_437 : Cond.static ⟨"PriceHouseLaw", "ask", "(LPriceHouse;I[J)I"⟩ ∈ QT := q_in 437 (by decide +kernel) rfl
theorem w_438 : Cond.codeWith ⟨"PriceHouseLaw", "ask", "(LPriceHouse;I[J)I"⟩ method_11_code 4 (some .int) [(0, 9, 12, 13)] ∈ QT := q_in 438 (by decide +kernel) rfl
theorem w_439 : Cond.methodLink "PriceHouseLaw" 42 ⟨"PriceHouse", "ask", "(I)I"⟩ ∈ QT := q_in 439 (by decide +kernel) rfl
theorem w_440 : Cond.instanceMethod ⟨"PriceHouse", "ask", "(I)I"⟩ ∈ QT := q_in 440 (by decide +kernel) rfl
theorem w_441 : Cond.selects "PriceHouse" ⟨"PriceHouse", "ask", "(I)I"⟩ ⟨"PriceHouse", "ask", "(I)I"⟩ ∈ QT := q_in 441 (by decide +kernel) rfl
theorem w_442 : Cond.code ⟨"PriceHouse", "ask", "(I)I"⟩ prog_1_method_12_code 3 (some .int) ∈ QT := q_in 442 (by decide +kernel) rfl
theorem w_443 : Cond.methodLink "PriceHouse" 135 ⟨"PriceHouse$Till", "beginAsking", "()I"⟩ ∈ QT := q_in 443 (by decide +kernel) rfl
theorem w_444 : Cond.instanceMethod ⟨"PriceHouse$Till", "beginAsking", "()I"⟩ ∈ QT := q_in 444 (by decide +kernel) rfl
theorem w_445 : Cond.selects "PriceHouse$Till" ⟨"PriceHouse$Till", "beginAsking", "()I"⟩ ⟨"PriceHouse$Till", "beginAsking", "()I"⟩ ∈ QT := q_in 445 (by decide +kernel) rfl
theorem w_446 : Cond.code ⟨"PriceHouse$Till", "beginAsking", "()I"⟩ prog_8_method_3_code 1 (some .int) ∈ QT := q_in 446 (by decide +kernel) rfl
theorem w_447 : Cond.methodLink "PriceHouse$Till" 25 ⟨"PriceHouse$Clock", "shown", "()I"⟩ ∈ QT := q_in 447 (by decide +kernel) rfl
theorem w_448 : Cond.methodLink "PriceHouseLaw" 136 ⟨"PriceHouseLaw", "giveUp", "(LPriceHouse;I)I"⟩ ∈ QT := q_in 448 (by decide +kernel) rfl
theorem w_449 : Cond.static ⟨"PriceHouseLaw", "giveUp", "(LPriceHouse;I)I"⟩ ∈ QT := q_in 449 (by decide +kernel) rfl
theorem w_450 : Cond.codeWith ⟨"PriceHouseLaw", "giveUp", "(LPriceHouse;I)I"⟩ method_12_code 3 (some .int) [(0, 5, 8, 13), (0, 5, 11, 23)] ∈ QT := q_in 450 (by decide +kernel) rfl
theorem w_451 : Cond.methodLink "PriceHouseLaw" 45 ⟨"PriceHouse", "giveUp", "(I)V"⟩ ∈ QT := q_in 451 (by decide +kernel) rfl
theorem w_452 : Cond.instanceMethod ⟨"PriceHouse", "giveUp", "(I)V"⟩ ∈ QT := q_in 452 (by decide +kernel) rfl
theorem w_453 : Cond.selects "PriceHouse" ⟨"PriceHouse", "giveUp", "(I)V"⟩ ⟨"PriceHouse", "giveUp", "(I)V"⟩ ∈ QT := q_in 453 (by decide +kernel) rfl
theorem w_454 : Cond.code ⟨"PriceHouse", "giveUp", "(I)V"⟩ prog_1_method_13_code 3 none ∈ QT := q_in 454 (by decide +kernel) rfl
theorem w_455 : Cond.methodLink "PriceHouse" 145 ⟨"PriceHouse$Till", "endAsking", "()V"⟩ ∈ QT := q_in 455 (by decide +kernel) rfl
theorem w_456 : Cond.instanceMethod ⟨"PriceHouse$Till", "endAsking", "()V"⟩ ∈ QT := q_in 456 (by decide +kernel) rfl
theorem w_457 : Cond.selects "PriceHouse$Till" ⟨"PriceHouse$Till", "endAsking", "()V"⟩ ⟨"PriceHouse$Till", "endAsking", "()V"⟩ ∈ QT := q_in 457 (by decide +kernel) rfl
theorem w_458 : Cond.code ⟨"PriceHouse$Till", "endAsking", "()V"⟩ prog_8_method_4_code 1 none ∈ QT := q_in 458 (by decide +kernel) rfl
theorem w_459 : Cond.methodLink "PriceHouseLaw" 139 ⟨"PriceHouseLaw", "lease", "(LPriceHouse;I[J)I"⟩ ∈ QT := q_in 459 (by decide +kernel) rfl
theorem w_460 : Cond.static ⟨"PriceHouseLaw", "lease", "(LPriceHouse;I[J)I"⟩ ∈ QT := q_in 460 (by decide +kernel) rfl
theorem w_461 : Cond.codeWith ⟨"PriceHouseLaw", "lease", "(LPriceHouse;I[J)I"⟩ method_13_code 4 (some .int) [(0, 9, 12, 13)] ∈ QT := q_in 461 (by decide +kernel) rfl
theorem w_462 : Cond.methodLink "PriceHouseLaw" 48 ⟨"PriceHouse", "lease", "(I)I"⟩ ∈ QT := q_in 462 (by decide +kernel) rfl
theorem w_463 : Cond.instanceMethod ⟨"PriceHouse", "lease", "(I)I"⟩ ∈ QT := q_in 463 (by decide +kernel) rfl
theorem w_464 : Cond.selects "PriceHouse" ⟨"PriceHouse", "lease", "(I)I"⟩ ⟨"PriceHouse", "lease", "(I)I"⟩ ∈ QT := q_in 464 (by decide +kernel) rfl
theorem w_465 : Cond.code ⟨"PriceHouse", "lease", "(I)I"⟩ prog_1_method_14_code 2 (some .int) ∈ QT := q_in 465 (by decide +kernel) rfl
theorem w_466 : Cond.methodLink "PriceHouse" 148 ⟨"PriceHouse$Till", "validLease", "()I"⟩ ∈ QT := q_in 466 (by decide +kernel) rfl
theorem w_467 : Cond.instanceMethod ⟨"PriceHouse$Till", "validLease", "()I"⟩ ∈ QT := q_in 467 (by decide +kernel) rfl
theorem w_468 : Cond.selects "PriceHouse$Till" ⟨"PriceHouse$Till", "validLease", "()I"⟩ ⟨"PriceHouse$Till", "validLease", "()I"⟩ ∈ QT := q_in 468 (by decide +kernel) rfl
theorem w_469 : Cond.code ⟨"PriceHouse$Till", "validLease", "()I"⟩ prog_8_method_6_code 4 (some .int) ∈ QT := q_in 469 (by decide +kernel) rfl
theorem w_470 : Cond.methodLink "PriceHouseLaw" 142 ⟨"PriceHouseLaw", "loaded", "(LPriceHouse;I[J)I"⟩ ∈ QT := q_in 470 (by decide +kernel) rfl
theorem w_471 : Cond.static ⟨"PriceHouseLaw", "loaded", "(LPriceHouse;I[J)I"⟩ ∈ QT := q_in 471 (by decide +kernel) rfl
theorem w_472 : Cond.codeWith ⟨"PriceHouseLaw", "loaded", "(LPriceHouse;I[J)I"⟩ method_14_code 4 (some .int) [(0, 9, 12, 13)] ∈ QT := q_in 472 (by decide +kernel) rfl
theorem w_473 : Cond.methodLink "PriceHouseLaw" 51 ⟨"PriceHouse", "loaded", "(I)I"⟩ ∈ QT := q_in 473 (by decide +kernel) rfl
theorem w_474 : Cond.instanceMethod ⟨"PriceHouse", "loaded", "(I)I"⟩ ∈ QT := q_in 474 (by decide +kernel) rfl
theorem w_475 : Cond.selects "PriceHouse" ⟨"PriceHouse", "loaded", "(I)I"⟩ ⟨"PriceHouse", "loaded", "(I)I"⟩ ∈ QT := q_in 475 (by decide +kernel) rfl
theorem w_476 : Cond.code ⟨"PriceHouse", "loaded", "(I)I"⟩ prog_1_method_15_code 2 (some .int) ∈ QT := q_in 476 (by decide +kernel) rfl
theorem w_477 : Cond.methodLink "PriceHouseLaw" 145 ⟨"PriceHouseLaw", "deliver", "(LPriceHouse;I)I"⟩ ∈ QT := q_in 477 (by decide +kernel) rfl
theorem w_478 : Cond.static ⟨"PriceHouseLaw", "deliver", "(LPriceHouse;I)I"⟩ ∈ QT := q_in 478 (by decide +kernel) rfl
theorem w_479 : Cond.codeWith ⟨"PriceHouseLaw", "deliver", "(LPriceHouse;I)I"⟩ method_15_code 3 (some .int) [(0, 5, 8, 57)] ∈ QT := q_in 479 (by decide +kernel) rfl
theorem w_480 : Cond.classLink "PriceHouseLaw" 57 "java/lang/IndexOutOfBoundsException" ∈ QT := q_in 480 (by decide +kernel) rfl
theorem w_481 : Cond.methodLink "PriceHouseLaw" 54 ⟨"PriceHouse", "deliver", "(I)V"⟩ ∈ QT := q_in 481 (by decide +kernel) rfl
theorem w_482 : Cond.instanceMethod ⟨"PriceHouse", "deliver", "(I)V"⟩ ∈ QT := q_in 482 (by decide +kernel) rfl
theorem w_483 : Cond.selects "PriceHouse" ⟨"PriceHouse", "deliver", "(I)V"⟩ ⟨"PriceHouse", "deliver", "(I)V"⟩ ∈ QT := q_in 483 (by decide +kernel) rfl
theorem w_484 : Cond.code ⟨"PriceHouse", "deliver", "(I)V"⟩ prog_1_method_17_code 6 none ∈ QT := q_in 484 (by decide +kernel) rfl
theorem w_485 : Cond.methodLink "PriceHouse" 154 ⟨"PriceHouse", "checkLetter", "(I)V"⟩ ∈ QT := q_in 485 (by decide +kernel) rfl
theorem w_487 : Cond.instanceMethod ⟨"PriceHouse", "checkLetter", "(I)V"⟩ ∈ QT := q_in 487 (by decide +kernel) rfl
theorem w_488 : Cond.code ⟨"PriceHouse", "checkLetter", "(I)V"⟩ prog_1_method_35_code 2 none ∈ QT := q_in 488 (by decide +kernel) rfl
theorem w_489 : Cond.classLink "PriceHouse" 226 "java/lang/IndexOutOfBoundsException" ∈ QT := q_in 489 (by decide +kernel) rfl
theorem w_490 : Cond.instantiable "java/lang/IndexOutOfBoundsException" 6 ∈ QT := q_in 490 (by decide +kernel) rfl
theorem w_491 : Cond.castable "java/lang/IndexOutOfBoundsException" "java/lang/IndexOutOfBoundsException" ∈ QT := q_in 491 (by decide +kernel) rfl
theorem w_492 : Cond.selects "java/lang/IndexOutOfBoundsException" ⟨"java/lang/Throwable", "fillInStackTrace", "(I)Ljava/lang/Throwable;"⟩ ⟨"java/lang/Throwable", "fillInStackTrace", "(I)Ljava/lang/Throwable;"⟩ ∈ QT := q_in 492 (by decide +kernel) rfl
theorem w_493 : Cond.lays "java/lang/IndexOutOfBoundsException" "java/lang/Throwable" "cause" "Ljava/lang/Throwable;" ∈ QT := q_in 493 (by decide +kernel) rfl
theorem w_494 : Cond.lays "java/lang/IndexOutOfBoundsException" "java/lang/Throwable" "stackTrace" "[Ljava/lang/StackTraceElement;" ∈ QT := q_in 494 (by decide +kernel) rfl
theorem w_495 : Cond.lays "java/lang/IndexOutOfBoundsException" "java/lang/Throwable" "suppressedExceptions" "Ljava/util/List;" ∈ QT := q_in 495 (by decide +kernel) rfl
theorem w_496 : Cond.lays "java/lang/IndexOutOfBoundsException" "java/lang/Throwable" "detailMessage" "Ljava/lang/String;" ∈ QT := q_in 496 (by decide +kernel) rfl
theorem w_497 : Cond.lays "java/lang/IndexOutOfBoundsException" "java/lang/Throwable" "backtrace" "Ljava/lang/Object;" ∈ QT := q_in 497 (by decide +kernel) rfl
theorem w_498 : Cond.methodLink "PriceHouse" 228 ⟨"java/lang/IndexOutOfBoundsException", "<init>", "()V"⟩ ∈ QT := q_in 498 (by decide +kernel) rfl
theorem w_499 : Cond.instanceMethod ⟨"java/lang/IndexOutOfBoundsException", "<init>", "()V"⟩ ∈ QT := q_in 499 (by decide +kernel) rfl
theorem w_500 : Cond.code ⟨"java/lang/IndexOutOfBoundsException", "<init>", "()V"⟩ prog_14_method_1_code 1 none ∈ QT := q_in 500 (by decide +kernel) rfl
theorem w_501 : Cond.methodLink "java/lang/IndexOutOfBoundsException" 1 ⟨"java/lang/RuntimeException", "<init>", "()V"⟩ ∈ QT := q_in 501 (by decide +kernel) rfl
theorem w_502 : Cond.lays "java/lang/IndexOutOfBoundsException" "java/lang/Throwable" "depth" "I" ∈ QT := q_in 502 (by decide +kernel) rfl
theorem w_503 : Cond.superclass "java/lang/IndexOutOfBoundsException" "java/lang/RuntimeException" ∈ QT := q_in 503 (by decide +kernel) rfl
theorem w_504 : Cond.methodLink "PriceHouse" 167 ⟨"PriceHouse$LetterRow", "takeOut", "(I)V"⟩ ∈ QT := q_in 504 (by decide +kernel) rfl
theorem w_505 : Cond.instanceMethod ⟨"PriceHouse$LetterRow", "takeOut", "(I)V"⟩ ∈ QT := q_in 505 (by decide +kernel) rfl
theorem w_506 : Cond.selects "PriceHouse$LetterRow" ⟨"PriceHouse$LetterRow", "takeOut", "(I)V"⟩ ⟨"PriceHouse$LetterRow", "takeOut", "(I)V"⟩ ∈ QT := q_in 506 (by decide +kernel) rfl
theorem w_507 : Cond.code ⟨"PriceHouse$LetterRow", "takeOut", "(I)V"⟩ prog_5_method_4_code 3 none ∈ QT := q_in 507 (by decide +kernel) rfl
theorem w_508 : Cond.methodLink "PriceHouse$LetterRow" 32 ⟨"java/lang/System", "arraycopy", "(Ljava/lang/Object;ILjava/lang/Object;II)V"⟩ ∈ QT := q_in 508 (by decide +kernel) rfl
theorem w_509 : Cond.methodLink "PriceHouse" 170 ⟨"PriceHouse$Till", "takeBook", "(I)V"⟩ ∈ QT := q_in 509 (by decide +kernel) rfl
theorem w_510 : Cond.instanceMethod ⟨"PriceHouse$Till", "takeBook", "(I)V"⟩ ∈ QT := q_in 510 (by decide +kernel) rfl
theorem w_511 : Cond.selects "PriceHouse$Till" ⟨"PriceHouse$Till", "takeBook", "(I)V"⟩ ⟨"PriceHouse$Till", "takeBook", "(I)V"⟩ ∈ QT := q_in 511 (by decide +kernel) rfl
theorem w_512 : Cond.code ⟨"PriceHouse$Till", "takeBook", "(I)V"⟩ prog_8_method_2_code 2 none ∈ QT := q_in 512 (by decide +kernel) rfl
theorem w_513 : Cond.methodLink "PriceHouse" 173 ⟨"PriceHouse$Till", "takeGrant", "(II)V"⟩ ∈ QT := q_in 513 (by decide +kernel) rfl
theorem w_514 : Cond.instanceMethod ⟨"PriceHouse$Till", "takeGrant", "(II)V"⟩ ∈ QT := q_in 514 (by decide +kernel) rfl
theorem w_515 : Cond.selects "PriceHouse$Till" ⟨"PriceHouse$Till", "takeGrant", "(II)V"⟩ ⟨"PriceHouse$Till", "takeGrant", "(II)V"⟩ ∈ QT := q_in 515 (by decide +kernel) rfl
theorem w_516 : Cond.code ⟨"PriceHouse$Till", "takeGrant", "(II)V"⟩ prog_8_method_5_code 3 none ∈ QT := q_in 516 (by decide +kernel) rfl
theorem w_517 : Cond.methodLink "PriceHouse" 177 ⟨"PriceHouse", "bringToDesk", "(IIII)V"⟩ ∈ QT := q_in 517 (by decide +kernel) rfl
theorem w_519 : Cond.instanceMethod ⟨"PriceHouse", "bringToDesk", "(IIII)V"⟩ ∈ QT := q_in 519 (by decide +kernel) rfl
theorem w_520 : Cond.code ⟨"PriceHouse", "bringToDesk", "(IIII)V"⟩ prog_1_method_37_code 6 none ∈ QT := q_in 520 (by decide +kernel) rfl
theorem w_521 : Cond.methodLink "PriceHouse" 229 ⟨"PriceHouse$Desk", "grant", "(II)I"⟩ ∈ QT := q_in 521 (by decide +kernel) rfl
theorem w_522 : Cond.instanceMethod ⟨"PriceHouse$Desk", "grant", "(II)I"⟩ ∈ QT := q_in 522 (by decide +kernel) rfl
theorem w_523 : Cond.selects "PriceHouse$Desk" ⟨"PriceHouse$Desk", "grant", "(II)I"⟩ ⟨"PriceHouse$Desk", "grant", "(II)I"⟩ ∈ QT := q_in 523 (by decide +kernel) rfl
theorem w_524 : Cond.code ⟨"PriceHouse$Desk", "grant", "(II)I"⟩ prog_4_method_4_code 5 (some .int) ∈ QT := q_in 524 (by decide +kernel) rfl
theorem w_525 : Cond.methodLink "PriceHouse$Desk" 43 ⟨"PriceHouse$Desk", "bookFor", "(LPriceHouse$Note;)I"⟩ ∈ QT := q_in 525 (by decide +kernel) rfl
theorem w_527 : Cond.instanceMethod ⟨"PriceHouse$Desk", "bookFor", "(LPriceHouse$Note;)I"⟩ ∈ QT := q_in 527 (by decide +kernel) rfl
theorem w_528 : Cond.code ⟨"PriceHouse$Desk", "bookFor", "(LPriceHouse$Note;)I"⟩ prog_4_method_5_code 2 (some .int) ∈ QT := q_in 528 (by decide +kernel) rfl
theorem w_529 : Cond.methodLink "PriceHouse$Desk" 47 ⟨"PriceHouse$Note", "noteGrant", "(III)V"⟩ ∈ QT := q_in 529 (by decide +kernel) rfl
theorem w_530 : Cond.instanceMethod ⟨"PriceHouse$Note", "noteGrant", "(III)V"⟩ ∈ QT := q_in 530 (by decide +kernel) rfl
theorem w_531 : Cond.selects "PriceHouse$Note" ⟨"PriceHouse$Note", "noteGrant", "(III)V"⟩ ⟨"PriceHouse$Note", "noteGrant", "(III)V"⟩ ∈ QT := q_in 531 (by decide +kernel) rfl
theorem w_532 : Cond.code ⟨"PriceHouse$Note", "noteGrant", "(III)V"⟩ prog_6_method_4_code 4 none ∈ QT := q_in 532 (by decide +kernel) rfl
theorem w_533 : Cond.methodLink "PriceHouse" 237 ⟨"PriceHouse$Note", "noteReady", "(I)V"⟩ ∈ QT := q_in 533 (by decide +kernel) rfl
theorem w_534 : Cond.instanceMethod ⟨"PriceHouse$Note", "noteReady", "(I)V"⟩ ∈ QT := q_in 534 (by decide +kernel) rfl
theorem w_535 : Cond.selects "PriceHouse$Note" ⟨"PriceHouse$Note", "noteReady", "(I)V"⟩ ⟨"PriceHouse$Note", "noteReady", "(I)V"⟩ ∈ QT := q_in 535 (by decide +kernel) rfl
theorem w_536 : Cond.code ⟨"PriceHouse$Note", "noteReady", "(I)V"⟩ prog_6_method_3_code 2 none ∈ QT := q_in 536 (by decide +kernel) rfl
theorem w_537 : Cond.methodLink "PriceHouse$Note" 28 ⟨"java/lang/Math", "max", "(II)I"⟩ ∈ QT := q_in 537 (by decide +kernel) rfl
theorem w_538 : Cond.static ⟨"java/lang/Math", "max", "(II)I"⟩ ∈ QT := q_in 538 (by decide +kernel) rfl
theorem w_539 : Cond.code ⟨"java/lang/Math", "max", "(II)I"⟩ prog_15_method_65_code 2 (some .int) ∈ QT := q_in 539 (by decide +kernel) rfl
theorem w_540 : Cond.methodLink "PriceHouse" 242 ⟨"PriceHouse$Note", "noteGiven", "(I)V"⟩ ∈ QT := q_in 540 (by decide +kernel) rfl
theorem w_541 : Cond.instanceMethod ⟨"PriceHouse$Note", "noteGiven", "(I)V"⟩ ∈ QT := q_in 541 (by decide +kernel) rfl
theorem w_542 : Cond.selects "PriceHouse$Note" ⟨"PriceHouse$Note", "noteGiven", "(I)V"⟩ ⟨"PriceHouse$Note", "noteGiven", "(I)V"⟩ ∈ QT := q_in 542 (by decide +kernel) rfl
theorem w_543 : Cond.code ⟨"PriceHouse$Note", "noteGiven", "(I)V"⟩ prog_6_method_5_code 2 none ∈ QT := q_in 543 (by decide +kernel) rfl
theorem w_544 : Cond.methodLink "PriceHouseLaw" 148 ⟨"PriceHouseLaw", "lose", "(LPriceHouse;I)I"⟩ ∈ QT := q_in 544 (by decide +kernel) rfl
theorem w_545 : Cond.static ⟨"PriceHouseLaw", "lose", "(LPriceHouse;I)I"⟩ ∈ QT := q_in 545 (by decide +kernel) rfl
theorem w_546 : Cond.codeWith ⟨"PriceHouseLaw", "lose", "(LPriceHouse;I)I"⟩ method_16_code 3 (some .int) [(0, 5, 8, 57)] ∈ QT := q_in 546 (by decide +kernel) rfl
theorem w_547 : Cond.methodLink "PriceHouseLaw" 59 ⟨"PriceHouse", "lose", "(I)V"⟩ ∈ QT := q_in 547 (by decide +kernel) rfl
theorem w_548 : Cond.instanceMethod ⟨"PriceHouse", "lose", "(I)V"⟩ ∈ QT := q_in 548 (by decide +kernel) rfl
theorem w_549 : Cond.selects "PriceHouse" ⟨"PriceHouse", "lose", "(I)V"⟩ ⟨"PriceHouse", "lose", "(I)V"⟩ ∈ QT := q_in 549 (by decide +kernel) rfl
theorem w_550 : Cond.code ⟨"PriceHouse", "lose", "(I)V"⟩ prog_1_method_18_code 2 none ∈ QT := q_in 550 (by decide +kernel) rfl
theorem w_551 : Cond.methodLink "PriceHouseLaw" 151 ⟨"PriceHouseLaw", "twin", "(LPriceHouse;I)I"⟩ ∈ QT := q_in 551 (by decide +kernel) rfl
theorem w_552 : Cond.static ⟨"PriceHouseLaw", "twin", "(LPriceHouse;I)I"⟩ ∈ QT := q_in 552 (by decide +kernel) rfl
theorem w_553 : Cond.codeWith ⟨"PriceHouseLaw", "twin", "(LPriceHouse;I)I"⟩ method_17_code 3 (some .int) [(0, 5, 8, 57), (0, 5, 11, 23)] ∈ QT := q_in 553 (by decide +kernel) rfl
theorem w_554 : Cond.methodLink "PriceHouseLaw" 62 ⟨"PriceHouse", "twin", "(I)V"⟩ ∈ QT := q_in 554 (by decide +kernel) rfl
theorem w_555 : Cond.instanceMethod ⟨"PriceHouse", "twin", "(I)V"⟩ ∈ QT := q_in 555 (by decide +kernel) rfl
theorem w_556 : Cond.selects "PriceHouse" ⟨"PriceHouse", "twin", "(I)V"⟩ ⟨"PriceHouse", "twin", "(I)V"⟩ ∈ QT := q_in 556 (by decide +kernel) rfl
theorem w_557 : Cond.code ⟨"PriceHouse", "twin", "(I)V"⟩ prog_1_method_19_code 2 none ∈ QT := q_in 557 (by decide +kernel) rfl
theorem w_558 : Cond.methodLink "PriceHouse" 180 ⟨"PriceHouse$LetterRow", "isFull", "()Z"⟩ ∈ QT := q_in 558 (by decide +kernel) rfl
theorem w_559 : Cond.methodLink "PriceHouseLaw" 154 ⟨"PriceHouseLaw", "letter", "(LPriceHouse;II[J)I"⟩ ∈ QT := q_in 559 (by decide +kernel) rfl
theorem w_560 : Cond.static ⟨"PriceHouseLaw", "letter", "(LPriceHouse;II[J)I"⟩ ∈ QT := q_in 560 (by decide +kernel) rfl
theorem w_561 : Cond.codeWith ⟨"PriceHouseLaw", "letter", "(LPriceHouse;II[J)I"⟩ method_18_code 5 (some .int) [(0, 10, 13, 57), (0, 10, 17, 13)] ∈ QT := q_in 561 (by decide +kernel) rfl
theorem w_562 : Cond.methodLink "PriceHouseLaw" 65 ⟨"PriceHouse", "letter", "(II)I"⟩ ∈ QT := q_in 562 (by decide +kernel) rfl
theorem w_563 : Cond.instanceMethod ⟨"PriceHouse", "letter", "(II)I"⟩ ∈ QT := q_in 563 (by decide +kernel) rfl
theorem w_564 : Cond.selects "PriceHouse" ⟨"PriceHouse", "letter", "(II)I"⟩ ⟨"PriceHouse", "letter", "(II)I"⟩ ∈ QT := q_in 564 (by decide +kernel) rfl
theorem w_565 : Cond.code ⟨"PriceHouse", "letter", "(II)I"⟩ prog_1_method_20_code 3 (some .int) ∈ QT := q_in 565 (by decide +kernel) rfl
theorem w_566 : Cond.methodLink "PriceHouseLaw" 162 ⟨"PriceHouseLaw", "open", "(LPriceHouse;I[J)I"⟩ ∈ QT := q_in 566 (by decide +kernel) rfl
theorem w_567 : Cond.static ⟨"PriceHouseLaw", "open", "(LPriceHouse;I[J)I"⟩ ∈ QT := q_in 567 (by decide +kernel) rfl
theorem w_568 : Cond.codeWith ⟨"PriceHouseLaw", "open", "(LPriceHouse;I[J)I"⟩ method_19_code 4 (some .int) [(0, 9, 12, 13), (0, 9, 15, 23)] ∈ QT := q_in 568 (by decide +kernel) rfl
theorem w_569 : Cond.methodLink "PriceHouseLaw" 69 ⟨"PriceHouse", "open", "(I)I"⟩ ∈ QT := q_in 569 (by decide +kernel) rfl
theorem w_570 : Cond.instanceMethod ⟨"PriceHouse", "open", "(I)I"⟩ ∈ QT := q_in 570 (by decide +kernel) rfl
theorem w_571 : Cond.selects "PriceHouse" ⟨"PriceHouse", "open", "(I)I"⟩ ⟨"PriceHouse", "open", "(I)I"⟩ ∈ QT := q_in 571 (by decide +kernel) rfl
theorem w_572 : Cond.code ⟨"PriceHouse", "open", "(I)I"⟩ prog_1_method_22_code 4 (some .int) ∈ QT := q_in 572 (by decide +kernel) rfl
theorem w_573 : Cond.methodLink "PriceHouse" 193 ⟨"PriceHouse$Basket", "begin", "(II)V"⟩ ∈ QT := q_in 573 (by decide +kernel) rfl
theorem w_574 : Cond.instanceMethod ⟨"PriceHouse$Basket", "begin", "(II)V"⟩ ∈ QT := q_in 574 (by decide +kernel) rfl
theorem w_575 : Cond.selects "PriceHouse$Basket" ⟨"PriceHouse$Basket", "begin", "(II)V"⟩ ⟨"PriceHouse$Basket", "begin", "(II)V"⟩ ∈ QT := q_in 575 (by decide +kernel) rfl
theorem w_576 : Cond.code ⟨"PriceHouse$Basket", "begin", "(II)V"⟩ prog_2_method_2_code 3 none ∈ QT := q_in 576 (by decide +kernel) rfl
theorem w_577 : Cond.methodLink "PriceHouseLaw" 165 ⟨"PriceHouseLaw", "scan", "(LPriceHouse;III[J)I"⟩ ∈ QT := q_in 577 (by decide +kernel) rfl
theorem w_578 : Cond.static ⟨"PriceHouseLaw", "scan", "(LPriceHouse;III[J)I"⟩ ∈ QT := q_in 578 (by decide +kernel) rfl
theorem w_579 : Cond.codeWith ⟨"PriceHouseLaw", "scan", "(LPriceHouse;III[J)I"⟩ method_20_code 6 (some .int) [(0, 12, 15, 76), (0, 12, 19, 13), (0, 12, 23, 23)] ∈ QT := q_in 579 (by decide +kernel) rfl
theorem w_580 : Cond.classLink "PriceHouseLaw" 76 "java/util/NoSuchElementException" ∈ QT := q_in 580 (by decide +kernel) rfl
theorem w_581 : Cond.methodLink "PriceHouseLaw" 72 ⟨"PriceHouse", "scan", "(III)I"⟩ ∈ QT := q_in 581 (by decide +kernel) rfl
theorem w_582 : Cond.instanceMethod ⟨"PriceHouse", "scan", "(III)I"⟩ ∈ QT := q_in 582 (by decide +kernel) rfl
theorem w_583 : Cond.selects "PriceHouse" ⟨"PriceHouse", "scan", "(III)I"⟩ ⟨"PriceHouse", "scan", "(III)I"⟩ ∈ QT := q_in 583 (by decide +kernel) rfl
theorem w_584 : Cond.code ⟨"PriceHouse", "scan", "(III)I"⟩ prog_1_method_23_code 5 (some .int) ∈ QT := q_in 584 (by decide +kernel) rfl
theorem w_585 : Cond.methodLink "PriceHouse" 196 ⟨"PriceHouse", "checkOpenBasket", "(I)V"⟩ ∈ QT := q_in 585 (by decide +kernel) rfl
theorem w_587 : Cond.instanceMethod ⟨"PriceHouse", "checkOpenBasket", "(I)V"⟩ ∈ QT := q_in 587 (by decide +kernel) rfl
theorem w_588 : Cond.code ⟨"PriceHouse", "checkOpenBasket", "(I)V"⟩ prog_1_method_36_code 2 none ∈ QT := q_in 588 (by decide +kernel) rfl
theorem w_589 : Cond.methodLink "PriceHouse" 219 ⟨"PriceHouse", "isBasket", "(I)Z"⟩ ∈ QT := q_in 589 (by decide +kernel) rfl
theorem w_591 : Cond.instanceMethod ⟨"PriceHouse", "isBasket", "(I)Z"⟩ ∈ QT := q_in 591 (by decide +kernel) rfl
theorem w_592 : Cond.code ⟨"PriceHouse", "isBasket", "(I)Z"⟩ prog_1_method_32_code 2 (some .boolean) ∈ QT := q_in 592 (by decide +kernel) rfl
theorem w_593 : Cond.classLink "PriceHouse" 222 "java/util/NoSuchElementException" ∈ QT := q_in 593 (by decide +kernel) rfl
theorem w_594 : Cond.instantiable "java/util/NoSuchElementException" 6 ∈ QT := q_in 594 (by decide +kernel) rfl
theorem w_595 : Cond.castable "java/util/NoSuchElementException" "java/util/NoSuchElementException" ∈ QT := q_in 595 (by decide +kernel) rfl
theorem w_596 : Cond.selects "java/util/NoSuchElementException" ⟨"java/lang/Throwable", "fillInStackTrace", "(I)Ljava/lang/Throwable;"⟩ ⟨"java/lang/Throwable", "fillInStackTrace", "(I)Ljava/lang/Throwable;"⟩ ∈ QT := q_in 596 (by decide +kernel) rfl
theorem w_597 : Cond.lays "java/util/NoSuchElementException" "java/lang/Throwable" "cause" "Ljava/lang/Throwable;" ∈ QT := q_in 597 (by decide +kernel) rfl
theorem w_598 : Cond.lays "java/util/NoSuchElementException" "java/lang/Throwable" "stackTrace" "[Ljava/lang/StackTraceElement;" ∈ QT := q_in 598 (by decide +kernel) rfl
theorem w_599 : Cond.lays "java/util/NoSuchElementException" "java/lang/Throwable" "suppressedExceptions" "Ljava/util/List;" ∈ QT := q_in 599 (by decide +kernel) rfl
theorem w_600 : Cond.lays "java/util/NoSuchElementException" "java/lang/Throwable" "detailMessage" "Ljava/lang/String;" ∈ QT := q_in 600 (by decide +kernel) rfl
theorem w_601 : Cond.lays "java/util/NoSuchElementException" "java/lang/Throwable" "backtrace" "Ljava/lang/Object;" ∈ QT := q_in 601 (by decide +kernel) rfl
theorem w_602 : Cond.methodLink "PriceHouse" 224 ⟨"java/util/NoSuchElementException", "<init>", "()V"⟩ ∈ QT := q_in 602 (by decide +kernel) rfl
theorem w_603 : Cond.instanceMethod ⟨"java/util/NoSuchElementException", "<init>", "()V"⟩ ∈ QT := q_in 603 (by decide +kernel) rfl
theorem w_604 : Cond.code ⟨"java/util/NoSuchElementException", "<init>", "()V"⟩ prog_19_method_1_code 1 none ∈ QT := q_in 604 (by decide +kernel) rfl
theorem w_605 : Cond.methodLink "java/util/NoSuchElementException" 1 ⟨"java/lang/RuntimeException", "<init>", "()V"⟩ ∈ QT := q_in 605 (by decide +kernel) rfl
theorem w_606 : Cond.lays "java/util/NoSuchElementException" "java/lang/Throwable" "depth" "I" ∈ QT := q_in 606 (by decide +kernel) rfl
theorem w_607 : Cond.superclass "java/util/NoSuchElementException" "java/lang/RuntimeException" ∈ QT := q_in 607 (by decide +kernel) rfl
theorem w_608 : Cond.methodLink "PriceHouse" 202 ⟨"PriceHouse", "sells", "(II)Z"⟩ ∈ QT := q_in 608 (by decide +kernel) rfl
theorem w_610 : Cond.instanceMethod ⟨"PriceHouse", "sells", "(II)Z"⟩ ∈ QT := q_in 610 (by decide +kernel) rfl
theorem w_611 : Cond.code ⟨"PriceHouse", "sells", "(II)Z"⟩ prog_1_method_33_code 3 (some .boolean) ∈ QT := q_in 611 (by decide +kernel) rfl
theorem w_612 : Cond.methodLink "PriceHouseLaw" 169 ⟨"PriceHouseLaw", "pay", "(LPriceHouse;I[J)I"⟩ ∈ QT := q_in 612 (by decide +kernel) rfl
theorem w_613 : Cond.static ⟨"PriceHouseLaw", "pay", "(LPriceHouse;I[J)I"⟩ ∈ QT := q_in 613 (by decide +kernel) rfl
theorem w_614 : Cond.codeWith ⟨"PriceHouseLaw", "pay", "(LPriceHouse;I[J)I"⟩ method_21_code 4 (some .int) [(0, 8, 11, 76)] ∈ QT := q_in 614 (by decide +kernel) rfl
theorem w_615 : Cond.methodLink "PriceHouseLaw" 78 ⟨"PriceHouse", "pay", "(I)J"⟩ ∈ QT := q_in 615 (by decide +kernel) rfl
theorem w_616 : Cond.instanceMethod ⟨"PriceHouse", "pay", "(I)J"⟩ ∈ QT := q_in 616 (by decide +kernel) rfl
theorem w_617 : Cond.selects "PriceHouse" ⟨"PriceHouse", "pay", "(I)J"⟩ ⟨"PriceHouse", "pay", "(I)J"⟩ ∈ QT := q_in 617 (by decide +kernel) rfl
theorem w_618 : Cond.code ⟨"PriceHouse", "pay", "(I)J"⟩ prog_1_method_24_code 7 (some .long) ∈ QT := q_in 618 (by decide +kernel) rfl
theorem w_619 : Cond.methodLink "PriceHouse" 215 ⟨"PriceHouse$PriceList", "leastFor", "(II[J)J"⟩ ∈ QT := q_in 619 (by decide +kernel) rfl
theorem w_620 : Cond.instanceMethod ⟨"PriceHouse$PriceList", "leastFor", "(II[J)J"⟩ ∈ QT := q_in 620 (by decide +kernel) rfl
theorem w_621 : Cond.selects "PriceHouse$PriceList" ⟨"PriceHouse$PriceList", "leastFor", "(II[J)J"⟩ ⟨"PriceHouse$PriceList", "leastFor", "(II[J)J"⟩ ∈ QT := q_in 621 (by decide +kernel) rfl
theorem w_622 : Cond.code ⟨"PriceHouse$PriceList", "leastFor", "(II[J)J"⟩ prog_7_method_3_code 6 (some .long) ∈ QT := q_in 622 (by decide +kernel) rfl
theorem w_623 : Cond.methodLink "PriceHouse$PriceList" 27 ⟨"java/lang/Math", "min", "(JJ)J"⟩ ∈ QT := q_in 623 (by decide +kernel) rfl
theorem w_624 : Cond.static ⟨"java/lang/Math", "min", "(JJ)J"⟩ ∈ QT := q_in 624 (by decide +kernel) rfl
theorem w_625 : Cond.code ⟨"java/lang/Math", "min", "(JJ)J"⟩ prog_15_method_70_code 4 (some .long) ∈ QT := q_in 625 (by decide +kernel) rfl
theorem w_626 : Cond.methodLink "PriceHouseLaw" 172 ⟨"PriceHouseLaw", "book", "(LPriceHouse;I[J)I"⟩ ∈ QT := q_in 626 (by decide +kernel) rfl
theorem w_627 : Cond.static ⟨"PriceHouseLaw", "book", "(LPriceHouse;I[J)I"⟩ ∈ QT := q_in 627 (by decide +kernel) rfl
theorem w_628 : Cond.codeWith ⟨"PriceHouseLaw", "book", "(LPriceHouse;I[J)I"⟩ method_22_code 4 (some .int) [(0, 9, 12, 76)] ∈ QT := q_in 628 (by decide +kernel) rfl
theorem w_629 : Cond.methodLink "PriceHouseLaw" 82 ⟨"PriceHouse", "book", "(I)I"⟩ ∈ QT := q_in 629 (by decide +kernel) rfl
theorem w_630 : Cond.instanceMethod ⟨"PriceHouse", "book", "(I)I"⟩ ∈ QT := q_in 630 (by decide +kernel) rfl
theorem w_631 : Cond.selects "PriceHouse" ⟨"PriceHouse", "book", "(I)I"⟩ ⟨"PriceHouse", "book", "(I)I"⟩ ∈ QT := q_in 631 (by decide +kernel) rfl
theorem w_632 : Cond.code ⟨"PriceHouse", "book", "(I)I"⟩ prog_1_method_25_code 2 (some .int) ∈ QT := q_in 632 (by decide +kernel) rfl
theorem w_633 : Cond.methodLink "PriceHouseLaw" 175 ⟨"PriceHouseLaw", "price", "(LPriceHouse;II[J)I"⟩ ∈ QT := q_in 633 (by decide +kernel) rfl
theorem w_634 : Cond.static ⟨"PriceHouseLaw", "price", "(LPriceHouse;II[J)I"⟩ ∈ QT := q_in 634 (by decide +kernel) rfl
theorem w_635 : Cond.codeWith ⟨"PriceHouseLaw", "price", "(LPriceHouse;II[J)I"⟩ method_23_code 5 (some .int) [(0, 10, 13, 13)] ∈ QT := q_in 635 (by decide +kernel) rfl
theorem w_636 : Cond.methodLink "PriceHouseLaw" 85 ⟨"PriceHouse", "price", "(II)I"⟩ ∈ QT := q_in 636 (by decide +kernel) rfl
theorem w_637 : Cond.instanceMethod ⟨"PriceHouse", "price", "(II)I"⟩ ∈ QT := q_in 637 (by decide +kernel) rfl
theorem w_638 : Cond.selects "PriceHouse" ⟨"PriceHouse", "price", "(II)I"⟩ ⟨"PriceHouse", "price", "(II)I"⟩ ∈ QT := q_in 638 (by decide +kernel) rfl
theorem w_639 : Cond.code ⟨"PriceHouse", "price", "(II)I"⟩ prog_1_method_5_code 3 (some .int) ∈ QT := q_in 639 (by decide +kernel) rfl
theorem w_640 : Cond.methodLink "PriceHouseLaw" 178 ⟨"PriceHouseLaw", "restart", "(LPriceHouse;I)I"⟩ ∈ QT := q_in 640 (by decide +kernel) rfl
theorem w_641 : Cond.static ⟨"PriceHouseLaw", "restart", "(LPriceHouse;I)I"⟩ ∈ QT := q_in 641 (by decide +kernel) rfl
theorem w_642 : Cond.codeWith ⟨"PriceHouseLaw", "restart", "(LPriceHouse;I)I"⟩ method_24_code 3 (some .int) [(0, 5, 8, 13)] ∈ QT := q_in 642 (by decide +kernel) rfl
theorem w_643 : Cond.methodLink "PriceHouseLaw" 88 ⟨"PriceHouse", "restart", "(I)V"⟩ ∈ QT := q_in 643 (by decide +kernel) rfl
theorem w_644 : Cond.instanceMethod ⟨"PriceHouse", "restart", "(I)V"⟩ ∈ QT := q_in 644 (by decide +kernel) rfl
theorem w_645 : Cond.selects "PriceHouse" ⟨"PriceHouse", "restart", "(I)V"⟩ ⟨"PriceHouse", "restart", "(I)V"⟩ ∈ QT := q_in 645 (by decide +kernel) rfl
theorem w_646 : Cond.code ⟨"PriceHouse", "restart", "(I)V"⟩ prog_1_method_16_code 2 none ∈ QT := q_in 646 (by decide +kernel) rfl
theorem w_647 : Cond.methodLink "PriceHouse" 151 ⟨"PriceHouse$Desk", "forgetAndWait", "()V"⟩ ∈ QT := q_in 647 (by decide +kernel) rfl
theorem w_648 : Cond.instanceMethod ⟨"PriceHouse$Desk", "forgetAndWait", "()V"⟩ ∈ QT := q_in 648 (by decide +kernel) rfl
theorem w_649 : Cond.selects "PriceHouse$Desk" ⟨"PriceHouse$Desk", "forgetAndWait", "()V"⟩ ⟨"PriceHouse$Desk", "forgetAndWait", "()V"⟩ ∈ QT := q_in 649 (by decide +kernel) rfl
theorem w_650 : Cond.code ⟨"PriceHouse$Desk", "forgetAndWait", "()V"⟩ prog_4_method_3_code 2 none ∈ QT := q_in 650 (by decide +kernel) rfl
theorem w_651 : Cond.methodLink "PriceHouse$Desk" 33 ⟨"PriceHouse$Note", "forget", "()V"⟩ ∈ QT := q_in 651 (by decide +kernel) rfl
theorem w_652 : Cond.instanceMethod ⟨"PriceHouse$Note", "forget", "()V"⟩ ∈ QT := q_in 652 (by decide +kernel) rfl
theorem w_653 : Cond.selects "PriceHouse$Note" ⟨"PriceHouse$Note", "forget", "()V"⟩ ⟨"PriceHouse$Note", "forget", "()V"⟩ ∈ QT := q_in 653 (by decide +kernel) rfl
theorem w_654 : Cond.code ⟨"PriceHouse$Note", "forget", "()V"⟩ prog_6_method_2_code 1 none ∈ QT := q_in 654 (by decide +kernel) rfl
theorem w_655 : Cond.classLink "PriceHouseLaw" 92 "PriceHouseModel" ∈ QT := q_in 655 (by decide +kernel) rfl
theorem w_656 : Cond.instantiable "PriceHouseModel" 30 ∈ QT := q_in 656 (by decide +kernel) rfl
theorem w_657 : Cond.methodLink "PriceHouseLaw" 94 ⟨"PriceHouseModel", "<init>", "()V"⟩ ∈ QT := q_in 657 (by decide +kernel) rfl
theorem w_658 : Cond.instanceMethod ⟨"PriceHouseModel", "<init>", "()V"⟩ ∈ QT := q_in 658 (by decide +kernel) rfl
theorem w_659 : Cond.code ⟨"PriceHouseModel", "<init>", "()V"⟩ prog_10_method_1_code 2 none ∈ QT := q_in 659 (by decide +kernel) rfl
theorem w_660 : Cond.methodLink "PriceHouseModel" 1 ⟨"java/lang/Object", "<init>", "()V"⟩ ∈ QT := q_in 660 (by decide +kernel) rfl
theorem w_661 : Cond.fieldLink "PriceHouseModel" 7 "PriceHouseModel" "thrownCode" "I" ∈ QT := q_in 661 (by decide +kernel) rfl
theorem w_662 : Cond.fieldLink "PriceHouseModel" 13 "PriceHouseModel" "books" "I" ∈ QT := q_in 662 (by decide +kernel) rfl
theorem w_663 : Cond.fieldLink "PriceHouseModel" 16 "PriceHouseModel" "prices" "[I" ∈ QT := q_in 663 (by decide +kernel) rfl
theorem w_664 : Cond.fieldLink "PriceHouseModel" 20 "PriceHouseModel" "pieces" "[I" ∈ QT := q_in 664 (by decide +kernel) rfl
theorem w_665 : Cond.fieldLink "PriceHouseModel" 23 "PriceHouseModel" "cents" "[I" ∈ QT := q_in 665 (by decide +kernel) rfl
theorem w_666 : Cond.fieldLink "PriceHouseModel" 26 "PriceHouseModel" "hundredths" "[I" ∈ QT := q_in 666 (by decide +kernel) rfl
theorem w_667 : Cond.fieldLink "PriceHouseModel" 29 "PriceHouseModel" "rates" "[I" ∈ QT := q_in 667 (by decide +kernel) rfl
theorem w_668 : Cond.fieldLink "PriceHouseModel" 32 "PriceHouseModel" "has" "[I" ∈ QT := q_in 668 (by decide +kernel) rfl
theorem w_669 : Cond.fieldLink "PriceHouseModel" 35 "PriceHouseModel" "isReady" "[I" ∈ QT := q_in 669 (by decide +kernel) rfl
theorem w_670 : Cond.fieldLink "PriceHouseModel" 38 "PriceHouseModel" "askings" "[I" ∈ QT := q_in 670 (by decide +kernel) rfl
theorem w_671 : Cond.fieldLink "PriceHouseModel" 41 "PriceHouseModel" "given" "[Z" ∈ QT := q_in 671 (by decide +kernel) rfl
theorem w_672 : Cond.fieldLink "PriceHouseModel" 45 "PriceHouseModel" "askedAt" "[I" ∈ QT := q_in 672 (by decide +kernel) rfl
theorem w_673 : Cond.fieldLink "PriceHouseModel" 48 "PriceHouseModel" "leaseOf" "[I" ∈ QT := q_in 673 (by decide +kernel) rfl
theorem w_674 : Cond.fieldLink "PriceHouseModel" 51 "PriceHouseModel" "activeBook" "I" ∈ QT := q_in 674 (by decide +kernel) rfl
theorem w_675 : Cond.fieldLink "PriceHouseModel" 54 "PriceHouseModel" "change" "I" ∈ QT := q_in 675 (by decide +kernel) rfl
theorem w_676 : Cond.fieldLink "PriceHouseModel" 57 "PriceHouseModel" "waits" "Z" ∈ QT := q_in 676 (by decide +kernel) rfl
theorem w_677 : Cond.fieldLink "PriceHouseModel" 61 "PriceHouseModel" "waitsTo" "I" ∈ QT := q_in 677 (by decide +kernel) rfl
theorem w_678 : Cond.fieldLink "PriceHouseModel" 64 "PriceHouseModel" "noted" "[I" ∈ QT := q_in 678 (by decide +kernel) rfl
theorem w_679 : Cond.fieldLink "PriceHouseModel" 67 "PriceHouseModel" "holds" "[Z" ∈ QT := q_in 679 (by decide +kernel) rfl
theorem w_680 : Cond.fieldLink "PriceHouseModel" 70 "PriceHouseModel" "notedBook" "[I" ∈ QT := q_in 680 (by decide +kernel) rfl
theorem w_681 : Cond.fieldLink "PriceHouseModel" 73 "PriceHouseModel" "notedAt" "[I" ∈ QT := q_in 681 (by decide +kernel) rfl
theorem w_682 : Cond.fieldLink "PriceHouseModel" 76 "PriceHouseModel" "knownReady" "[I" ∈ QT := q_in 682 (by decide +kernel) rfl
theorem w_683 : Cond.fieldLink "PriceHouseModel" 79 "PriceHouseModel" "letters" "I" ∈ QT := q_in 683 (by decide +kernel) rfl
theorem w_684 : Cond.fieldLink "PriceHouseModel" 82 "PriceHouseModel" "row" "[I" ∈ QT := q_in 684 (by decide +kernel) rfl
theorem w_685 : Cond.fieldLink "PriceHouseModel" 85 "PriceHouseModel" "baskets" "I" ∈ QT := q_in 685 (by decide +kernel) rfl
theorem w_686 : Cond.fieldLink "PriceHouseModel" 88 "PriceHouseModel" "basketTill" "[I" ∈ QT := q_in 686 (by decide +kernel) rfl
theorem w_687 : Cond.fieldLink "PriceHouseModel" 91 "PriceHouseModel" "basketBook" "[I" ∈ QT := q_in 687 (by decide +kernel) rfl
theorem w_688 : Cond.fieldLink "PriceHouseModel" 94 "PriceHouseModel" "isOpen" "[Z" ∈ QT := q_in 688 (by decide +kernel) rfl
theorem w_689 : Cond.fieldLink "PriceHouseModel" 97 "PriceHouseModel" "count" "[I" ∈ QT := q_in 689 (by decide +kernel) rfl
theorem w_690 : Cond.fieldLink "PriceHouseModel" 100 "PriceHouseModel" "least" "[J" ∈ QT := q_in 690 (by decide +kernel) rfl
theorem w_691 : Cond.lays "PriceHouseModel" "PriceHouseModel" "thrownCode" "I" ∈ QT := q_in 691 (by decide +kernel) rfl
theorem w_692 : Cond.soleField "PriceHouseModel" "thrownCode" ∈ QT := q_in 692 (by decide +kernel) rfl
theorem w_693 : Cond.lays "PriceHouseModel" "PriceHouseModel" "books" "I" ∈ QT := q_in 693 (by decide +kernel) rfl
theorem w_694 : Cond.soleField "PriceHouseModel" "books" ∈ QT := q_in 694 (by decide +kernel) rfl
theorem w_695 : Cond.laysFinal "PriceHouseModel" "PriceHouseModel" "prices" "[I" ∈ QT := q_in 695 (by decide +kernel) rfl
theorem w_696 : Cond.soleField "PriceHouseModel" "prices" ∈ QT := q_in 696 (by decide +kernel) rfl
theorem w_697 : Cond.laysFinal "PriceHouseModel" "PriceHouseModel" "pieces" "[I" ∈ QT := q_in 697 (by decide +kernel) rfl
theorem w_698 : Cond.soleField "PriceHouseModel" "pieces" ∈ QT := q_in 698 (by decide +kernel) rfl
theorem w_699 : Cond.laysFinal "PriceHouseModel" "PriceHouseModel" "cents" "[I" ∈ QT := q_in 699 (by decide +kernel) rfl
theorem w_700 : Cond.soleField "PriceHouseModel" "cents" ∈ QT := q_in 700 (by decide +kernel) rfl
theorem w_701 : Cond.laysFinal "PriceHouseModel" "PriceHouseModel" "hundredths" "[I" ∈ QT := q_in 701 (by decide +kernel) rfl
theorem w_702 : Cond.soleField "PriceHouseModel" "hundredths" ∈ QT := q_in 702 (by decide +kernel) rfl
theorem w_703 : Cond.laysFinal "PriceHouseModel" "PriceHouseModel" "rates" "[I" ∈ QT := q_in 703 (by decide +kernel) rfl
theorem w_704 : Cond.soleField "PriceHouseModel" "rates" ∈ QT := q_in 704 (by decide +kernel) rfl
theorem w_705 : Cond.laysFinal "PriceHouseModel" "PriceHouseModel" "has" "[I" ∈ QT := q_in 705 (by decide +kernel) rfl
theorem w_706 : Cond.soleField "PriceHouseModel" "has" ∈ QT := q_in 706 (by decide +kernel) rfl
theorem w_707 : Cond.laysFinal "PriceHouseModel" "PriceHouseModel" "isReady" "[I" ∈ QT := q_in 707 (by decide +kernel) rfl
theorem w_708 : Cond.soleField "PriceHouseModel" "isReady" ∈ QT := q_in 708 (by decide +kernel) rfl
theorem w_709 : Cond.laysFinal "PriceHouseModel" "PriceHouseModel" "askings" "[I" ∈ QT := q_in 709 (by decide +kernel) rfl
theorem w_710 : Cond.soleField "PriceHouseModel" "askings" ∈ QT := q_in 710 (by decide +kernel) rfl
theorem w_711 : Cond.laysFinal "PriceHouseModel" "PriceHouseModel" "given" "[Z" ∈ QT := q_in 711 (by decide +kernel) rfl
theorem w_712 : Cond.soleField "PriceHouseModel" "given" ∈ QT := q_in 712 (by decide +kernel) rfl
theorem w_713 : Cond.laysFinal "PriceHouseModel" "PriceHouseModel" "askedAt" "[I" ∈ QT := q_in 713 (by decide +kernel) rfl
theorem w_714 : Cond.soleField "PriceHouseModel" "askedAt" ∈ QT := q_in 714 (by decide +kernel) rfl
theorem w_715 : Cond.laysFinal "PriceHouseModel" "PriceHouseModel" "leaseOf" "[I" ∈ QT := q_in 715 (by decide +kernel) rfl
theorem w_716 : Cond.soleField "PriceHouseModel" "leaseOf" ∈ QT := q_in 716 (by decide +kernel) rfl
theorem w_717 : Cond.lays "PriceHouseModel" "PriceHouseModel" "activeBook" "I" ∈ QT := q_in 717 (by decide +kernel) rfl
theorem w_718 : Cond.soleField "PriceHouseModel" "activeBook" ∈ QT := q_in 718 (by decide +kernel) rfl
theorem w_719 : Cond.lays "PriceHouseModel" "PriceHouseModel" "change" "I" ∈ QT := q_in 719 (by decide +kernel) rfl
theorem w_720 : Cond.soleField "PriceHouseModel" "change" ∈ QT := q_in 720 (by decide +kernel) rfl
theorem w_721 : Cond.lays "PriceHouseModel" "PriceHouseModel" "waits" "Z" ∈ QT := q_in 721 (by decide +kernel) rfl
theorem w_722 : Cond.soleField "PriceHouseModel" "waits" ∈ QT := q_in 722 (by decide +kernel) rfl
theorem w_723 : Cond.lays "PriceHouseModel" "PriceHouseModel" "waitsTo" "I" ∈ QT := q_in 723 (by decide +kernel) rfl
theorem w_724 : Cond.soleField "PriceHouseModel" "waitsTo" ∈ QT := q_in 724 (by decide +kernel) rfl
theorem w_725 : Cond.laysFinal "PriceHouseModel" "PriceHouseModel" "noted" "[I" ∈ QT := q_in 725 (by decide +kernel) rfl
theorem w_726 : Cond.soleField "PriceHouseModel" "noted" ∈ QT := q_in 726 (by decide +kernel) rfl
theorem w_727 : Cond.laysFinal "PriceHouseModel" "PriceHouseModel" "holds" "[Z" ∈ QT := q_in 727 (by decide +kernel) rfl
theorem w_728 : Cond.soleField "PriceHouseModel" "holds" ∈ QT := q_in 728 (by decide +kernel) rfl
theorem w_729 : Cond.laysFinal "PriceHouseModel" "PriceHouseModel" "notedBook" "[I" ∈ QT := q_in 729 (by decide +kernel) rfl
theorem w_730 : Cond.soleField "PriceHouseModel" "notedBook" ∈ QT := q_in 730 (by decide +kernel) rfl
theorem w_731 : Cond.laysFinal "PriceHouseModel" "PriceHouseModel" "notedAt" "[I" ∈ QT := q_in 731 (by decide +kernel) rfl
theorem w_732 : Cond.soleField "PriceHouseModel" "notedAt" ∈ QT := q_in 732 (by decide +kernel) rfl
theorem w_733 : Cond.laysFinal "PriceHouseModel" "PriceHouseModel" "knownReady" "[I" ∈ QT := q_in 733 (by decide +kernel) rfl
theorem w_734 : Cond.soleField "PriceHouseModel" "knownReady" ∈ QT := q_in 734 (by decide +kernel) rfl
theorem w_735 : Cond.lays "PriceHouseModel" "PriceHouseModel" "letters" "I" ∈ QT := q_in 735 (by decide +kernel) rfl
theorem w_736 : Cond.soleField "PriceHouseModel" "letters" ∈ QT := q_in 736 (by decide +kernel) rfl
theorem w_737 : Cond.laysFinal "PriceHouseModel" "PriceHouseModel" "row" "[I" ∈ QT := q_in 737 (by decide +kernel) rfl
theorem w_738 : Cond.soleField "PriceHouseModel" "row" ∈ QT := q_in 738 (by decide +kernel) rfl
theorem w_739 : Cond.lays "PriceHouseModel" "PriceHouseModel" "baskets" "I" ∈ QT := q_in 739 (by decide +kernel) rfl
theorem w_740 : Cond.soleField "PriceHouseModel" "baskets" ∈ QT := q_in 740 (by decide +kernel) rfl
theorem w_741 : Cond.laysFinal "PriceHouseModel" "PriceHouseModel" "basketTill" "[I" ∈ QT := q_in 741 (by decide +kernel) rfl
theorem w_742 : Cond.soleField "PriceHouseModel" "basketTill" ∈ QT := q_in 742 (by decide +kernel) rfl
theorem w_743 : Cond.laysFinal "PriceHouseModel" "PriceHouseModel" "basketBook" "[I" ∈ QT := q_in 743 (by decide +kernel) rfl
theorem w_744 : Cond.soleField "PriceHouseModel" "basketBook" ∈ QT := q_in 744 (by decide +kernel) rfl
theorem w_745 : Cond.laysFinal "PriceHouseModel" "PriceHouseModel" "isOpen" "[Z" ∈ QT := q_in 745 (by decide +kernel) rfl
theorem w_746 : Cond.soleField "PriceHouseModel" "isOpen" ∈ QT := q_in 746 (by decide +kernel) rfl
theorem w_747 : Cond.laysFinal "PriceHouseModel" "PriceHouseModel" "count" "[I" ∈ QT := q_in 747 (by decide +kernel) rfl
theorem w_748 : Cond.soleField "PriceHouseModel" "count" ∈ QT := q_in 748 (by decide +kernel) rfl
theorem w_749 : Cond.laysFinal "PriceHouseModel" "PriceHouseModel" "least" "[J" ∈ QT := q_in 749 (by decide +kernel) rfl
theorem w_750 : Cond.soleField "PriceHouseModel" "least" ∈ QT := q_in 750 (by decide +kernel) rfl
theorem w_751 : Cond.superclass "PriceHouseModel" "java/lang/Object" ∈ QT := q_in 751 (by decide +kernel) rfl
theorem w_752 : Cond.arrayClass .boolean ∈ QT := q_in 752 (by decide +kernel) rfl
theorem w_753 : Cond.methodLink "PriceHouseLaw" 101 ⟨"PriceHouseModel", "thrown", "()I"⟩ ∈ QT := q_in 753 (by decide +kernel) rfl
theorem w_754 : Cond.instanceMethod ⟨"PriceHouseModel", "thrown", "()I"⟩ ∈ QT := q_in 754 (by decide +kernel) rfl
theorem w_755 : Cond.selects "PriceHouseModel" ⟨"PriceHouseModel", "thrown", "()I"⟩ ⟨"PriceHouseModel", "thrown", "()I"⟩ ∈ QT := q_in 755 (by decide +kernel) rfl
theorem w_756 : Cond.code ⟨"PriceHouseModel", "thrown", "()I"⟩ prog_10_method_10_code 1 (some .int) ∈ QT := q_in 756 (by decide +kernel) rfl
theorem w_757 : Cond.methodLink "PriceHouseLaw" 100 ⟨"PriceHouseModel", "article", "(II)V"⟩ ∈ QT := q_in 757 (by decide +kernel) rfl
theorem w_758 : Cond.instanceMethod ⟨"PriceHouseModel", "article", "(II)V"⟩ ∈ QT := q_in 758 (by decide +kernel) rfl
theorem w_759 : Cond.selects "PriceHouseModel" ⟨"PriceHouseModel", "article", "(II)V"⟩ ⟨"PriceHouseModel", "article", "(II)V"⟩ ∈ QT := q_in 759 (by decide +kernel) rfl
theorem w_760 : Cond.code ⟨"PriceHouseModel", "article", "(II)V"⟩ prog_10_method_12_code 3 none ∈ QT := q_in 760 (by decide +kernel) rfl
theorem w_761 : Cond.methodLink "PriceHouseModel" 123 ⟨"PriceHouseModel", "not", "(II)Z"⟩ ∈ QT := q_in 761 (by decide +kernel) rfl
theorem w_762 : Cond.static ⟨"PriceHouseModel", "not", "(II)Z"⟩ ∈ QT := q_in 762 (by decide +kernel) rfl
theorem w_763 : Cond.code ⟨"PriceHouseModel", "not", "(II)Z"⟩ prog_10_method_11_code 2 (some .boolean) ∈ QT := q_in 763 (by decide +kernel) rfl
theorem w_764 : Cond.constant "PriceHouseModel" 127 (10000000 : Int32) ∈ QT := q_in 764 (by decide +kernel) rfl
theorem w_765 : Cond.methodLink "PriceHouseLaw" 107 ⟨"PriceHouseModel", "bundle", "(IIII)V"⟩ ∈ QT := q_in 765 (by decide +kernel) rfl
theorem w_766 : Cond.instanceMethod ⟨"PriceHouseModel", "bundle", "(IIII)V"⟩ ∈ QT := q_in 766 (by decide +kernel) rfl
theorem w_767 : Cond.selects "PriceHouseModel" ⟨"PriceHouseModel", "bundle", "(IIII)V"⟩ ⟨"PriceHouseModel", "bundle", "(IIII)V"⟩ ∈ QT := q_in 767 (by decide +kernel) rfl
theorem w_768 : Cond.code ⟨"PriceHouseModel", "bundle", "(IIII)V"⟩ prog_10_method_13_code 5 none ∈ QT := q_in 768 (by decide +kernel) rfl
theorem w_769 : Cond.methodLink "PriceHouseLaw" 111 ⟨"PriceHouseModel", "publish", "()I"⟩ ∈ QT := q_in 769 (by decide +kernel) rfl
theorem w_770 : Cond.instanceMethod ⟨"PriceHouseModel", "publish", "()I"⟩ ∈ QT := q_in 770 (by decide +kernel) rfl
theorem w_771 : Cond.selects "PriceHouseModel" ⟨"PriceHouseModel", "publish", "()I"⟩ ⟨"PriceHouseModel", "publish", "()I"⟩ ∈ QT := q_in 771 (by decide +kernel) rfl
theorem w_772 : Cond.code ⟨"PriceHouseModel", "publish", "()I"⟩ prog_10_method_14_code 2 (some .int) ∈ QT := q_in 772 (by decide +kernel) rfl
theorem w_773 : Cond.methodLink "PriceHouseModel" 112 ⟨"PriceHouseModel", "post", "(IIII)V"⟩ ∈ QT := q_in 773 (by decide +kernel) rfl
theorem w_775 : Cond.instanceMethod ⟨"PriceHouseModel", "post", "(IIII)V"⟩ ∈ QT := q_in 775 (by decide +kernel) rfl
theorem w_776 : Cond.code ⟨"PriceHouseModel", "post", "(IIII)V"⟩ prog_10_method_3_code 5 none ∈ QT := q_in 776 (by decide +kernel) rfl
theorem w_777 : Cond.methodLink "PriceHouseLaw" 115 ⟨"PriceHouseModel", "activate", "(I)V"⟩ ∈ QT := q_in 777 (by decide +kernel) rfl
theorem w_778 : Cond.instanceMethod ⟨"PriceHouseModel", "activate", "(I)V"⟩ ∈ QT := q_in 778 (by decide +kernel) rfl
theorem w_779 : Cond.selects "PriceHouseModel" ⟨"PriceHouseModel", "activate", "(I)V"⟩ ⟨"PriceHouseModel", "activate", "(I)V"⟩ ∈ QT := q_in 779 (by decide +kernel) rfl
theorem w_780 : Cond.code ⟨"PriceHouseModel", "activate", "(I)V"⟩ prog_10_method_15_code 2 none ∈ QT := q_in 780 (by decide +kernel) rfl
theorem w_781 : Cond.methodLink "PriceHouseModel" 120 ⟨"PriceHouseModel", "look", "()V"⟩ ∈ QT := q_in 781 (by decide +kernel) rfl
theorem w_783 : Cond.instanceMethod ⟨"PriceHouseModel", "look", "()V"⟩ ∈ QT := q_in 783 (by decide +kernel) rfl
theorem w_784 : Cond.code ⟨"PriceHouseModel", "look", "()V"⟩ prog_10_method_6_code 2 none ∈ QT := q_in 784 (by decide +kernel) rfl
theorem w_785 : Cond.methodLink "PriceHouseModel" 104 ⟨"PriceHouseModel", "clock", "(I)I"⟩ ∈ QT := q_in 785 (by decide +kernel) rfl
theorem w_787 : Cond.instanceMethod ⟨"PriceHouseModel", "clock", "(I)I"⟩ ∈ QT := q_in 787 (by decide +kernel) rfl
theorem w_788 : Cond.code ⟨"PriceHouseModel", "clock", "(I)I"⟩ prog_10_method_2_code 2 (some .int) ∈ QT := q_in 788 (by decide +kernel) rfl
theorem w_789 : Cond.methodLink "PriceHouseModel" 108 ⟨"PriceHouseModel", "free", "(I)Z"⟩ ∈ QT := q_in 789 (by decide +kernel) rfl
theorem w_791 : Cond.instanceMethod ⟨"PriceHouseModel", "free", "(I)Z"⟩ ∈ QT := q_in 791 (by decide +kernel) rfl
theorem w_792 : Cond.code ⟨"PriceHouseModel", "free", "(I)Z"⟩ prog_10_method_5_code 2 (some .boolean) ∈ QT := q_in 792 (by decide +kernel) rfl
theorem w_793 : Cond.methodLink "PriceHouseLaw" 119 ⟨"PriceHouseModel", "active", "()I"⟩ ∈ QT := q_in 793 (by decide +kernel) rfl
theorem w_794 : Cond.instanceMethod ⟨"PriceHouseModel", "active", "()I"⟩ ∈ QT := q_in 794 (by decide +kernel) rfl
theorem w_795 : Cond.selects "PriceHouseModel" ⟨"PriceHouseModel", "active", "()I"⟩ ⟨"PriceHouseModel", "active", "()I"⟩ ∈ QT := q_in 795 (by decide +kernel) rfl
theorem w_796 : Cond.code ⟨"PriceHouseModel", "active", "()I"⟩ prog_10_method_16_code 1 (some .int) ∈ QT := q_in 796 (by decide +kernel) rfl
theorem w_797 : Cond.methodLink "PriceHouseLaw" 123 ⟨"PriceHouseModel", "tick", "(I)I"⟩ ∈ QT := q_in 797 (by decide +kernel) rfl
theorem w_798 : Cond.instanceMethod ⟨"PriceHouseModel", "tick", "(I)I"⟩ ∈ QT := q_in 798 (by decide +kernel) rfl
theorem w_799 : Cond.selects "PriceHouseModel" ⟨"PriceHouseModel", "tick", "(I)I"⟩ ⟨"PriceHouseModel", "tick", "(I)I"⟩ ∈ QT := q_in 799 (by decide +kernel) rfl
theorem w_800 : Cond.code ⟨"PriceHouseModel", "tick", "(I)I"⟩ prog_10_method_17_code 4 (some .int) ∈ QT := q_in 800 (by decide +kernel) rfl
theorem w_801 : Cond.methodLink "PriceHouseLaw" 126 ⟨"PriceHouseModel", "rate", "(II)V"⟩ ∈ QT := q_in 801 (by decide +kernel) rfl
theorem w_802 : Cond.instanceMethod ⟨"PriceHouseModel", "rate", "(II)V"⟩ ∈ QT := q_in 802 (by decide +kernel) rfl
theorem w_803 : Cond.selects "PriceHouseModel" ⟨"PriceHouseModel", "rate", "(II)V"⟩ ⟨"PriceHouseModel", "rate", "(II)V"⟩ ∈ QT := q_in 803 (by decide +kernel) rfl
theorem w_804 : Cond.code ⟨"PriceHouseModel", "rate", "(II)V"⟩ prog_10_method_18_code 3 none ∈ QT := q_in 804 (by decide +kernel) rfl
theorem w_805 : Cond.methodLink "PriceHouseLaw" 129 ⟨"PriceHouseModel", "fetch", "(I)I"⟩ ∈ QT := q_in 805 (by decide +kernel) rfl
theorem w_806 : Cond.instanceMethod ⟨"PriceHouseModel", "fetch", "(I)I"⟩ ∈ QT := q_in 806 (by decide +kernel) rfl
theorem w_807 : Cond.selects "PriceHouseModel" ⟨"PriceHouseModel", "fetch", "(I)I"⟩ ⟨"PriceHouseModel", "fetch", "(I)I"⟩ ∈ QT := q_in 807 (by decide +kernel) rfl
theorem w_808 : Cond.code ⟨"PriceHouseModel", "fetch", "(I)I"⟩ prog_10_method_19_code 3 (some .int) ∈ QT := q_in 808 (by decide +kernel) rfl
theorem w_809 : Cond.methodLink "PriceHouseLaw" 132 ⟨"PriceHouseModel", "ready", "(I)I"⟩ ∈ QT := q_in 809 (by decide +kernel) rfl
theorem w_810 : Cond.instanceMethod ⟨"PriceHouseModel", "ready", "(I)I"⟩ ∈ QT := q_in 810 (by decide +kernel) rfl
theorem w_811 : Cond.selects "PriceHouseModel" ⟨"PriceHouseModel", "ready", "(I)I"⟩ ⟨"PriceHouseModel", "ready", "(I)I"⟩ ∈ QT := q_in 811 (by decide +kernel) rfl
theorem w_812 : Cond.code ⟨"PriceHouseModel", "ready", "(I)I"⟩ prog_10_method_20_code 2 (some .int) ∈ QT := q_in 812 (by decide +kernel) rfl
theorem w_813 : Cond.methodLink "PriceHouseLaw" 135 ⟨"PriceHouseModel", "ask", "(I)I"⟩ ∈ QT := q_in 813 (by decide +kernel) rfl
theorem w_814 : Cond.instanceMethod ⟨"PriceHouseModel", "ask", "(I)I"⟩ ∈ QT := q_in 814 (by decide +kernel) rfl
theorem w_815 : Cond.selects "PriceHouseModel" ⟨"PriceHouseModel", "ask", "(I)I"⟩ ⟨"PriceHouseModel", "ask", "(I)I"⟩ ∈ QT := q_in 815 (by decide +kernel) rfl
theorem w_816 : Cond.code ⟨"PriceHouseModel", "ask", "(I)I"⟩ prog_10_method_21_code 2 (some .int) ∈ QT := q_in 816 (by decide +kernel) rfl
theorem w_817 : Cond.methodLink "PriceHouseLaw" 138 ⟨"PriceHouseModel", "giveUp", "(I)V"⟩ ∈ QT := q_in 817 (by decide +kernel) rfl
theorem w_818 : Cond.instanceMethod ⟨"PriceHouseModel", "giveUp", "(I)V"⟩ ∈ QT := q_in 818 (by decide +kernel) rfl
theorem w_819 : Cond.selects "PriceHouseModel" ⟨"PriceHouseModel", "giveUp", "(I)V"⟩ ⟨"PriceHouseModel", "giveUp", "(I)V"⟩ ∈ QT := q_in 819 (by decide +kernel) rfl
theorem w_820 : Cond.code ⟨"PriceHouseModel", "giveUp", "(I)V"⟩ prog_10_method_22_code 2 none ∈ QT := q_in 820 (by decide +kernel) rfl
theorem w_821 : Cond.methodLink "PriceHouseLaw" 141 ⟨"PriceHouseModel", "lease", "(I)I"⟩ ∈ QT := q_in 821 (by decide +kernel) rfl
theorem w_822 : Cond.instanceMethod ⟨"PriceHouseModel", "lease", "(I)I"⟩ ∈ QT := q_in 822 (by decide +kernel) rfl
theorem w_823 : Cond.selects "PriceHouseModel" ⟨"PriceHouseModel", "lease", "(I)I"⟩ ⟨"PriceHouseModel", "lease", "(I)I"⟩ ∈ QT := q_in 823 (by decide +kernel) rfl
theorem w_824 : Cond.code ⟨"PriceHouseModel", "lease", "(I)I"⟩ prog_10_method_23_code 2 (some .int) ∈ QT := q_in 824 (by decide +kernel) rfl
theorem w_825 : Cond.methodLink "PriceHouseModel" 128 ⟨"PriceHouseModel", "validLease", "(I)I"⟩ ∈ QT := q_in 825 (by decide +kernel) rfl
theorem w_827 : Cond.instanceMethod ⟨"PriceHouseModel", "validLease", "(I)I"⟩ ∈ QT := q_in 827 (by decide +kernel) rfl
theorem w_828 : Cond.code ⟨"PriceHouseModel", "validLease", "(I)I"⟩ prog_10_method_9_code 4 (some .int) ∈ QT := q_in 828 (by decide +kernel) rfl
theorem w_829 : Cond.methodLink "PriceHouseLaw" 144 ⟨"PriceHouseModel", "loaded", "(I)I"⟩ ∈ QT := q_in 829 (by decide +kernel) rfl
theorem w_830 : Cond.instanceMethod ⟨"PriceHouseModel", "loaded", "(I)I"⟩ ∈ QT := q_in 830 (by decide +kernel) rfl
theorem w_831 : Cond.selects "PriceHouseModel" ⟨"PriceHouseModel", "loaded", "(I)I"⟩ ⟨"PriceHouseModel", "loaded", "(I)I"⟩ ∈ QT := q_in 831 (by decide +kernel) rfl
theorem w_832 : Cond.code ⟨"PriceHouseModel", "loaded", "(I)I"⟩ prog_10_method_24_code 2 (some .int) ∈ QT := q_in 832 (by decide +kernel) rfl
theorem w_833 : Cond.methodLink "PriceHouseLaw" 147 ⟨"PriceHouseModel", "deliver", "(I)V"⟩ ∈ QT := q_in 833 (by decide +kernel) rfl
theorem w_834 : Cond.instanceMethod ⟨"PriceHouseModel", "deliver", "(I)V"⟩ ∈ QT := q_in 834 (by decide +kernel) rfl
theorem w_835 : Cond.selects "PriceHouseModel" ⟨"PriceHouseModel", "deliver", "(I)V"⟩ ⟨"PriceHouseModel", "deliver", "(I)V"⟩ ∈ QT := q_in 835 (by decide +kernel) rfl
theorem w_836 : Cond.code ⟨"PriceHouseModel", "deliver", "(I)V"⟩ prog_10_method_25_code 6 none ∈ QT := q_in 836 (by decide +kernel) rfl
theorem w_837 : Cond.methodLink "PriceHouseModel" 131 ⟨"PriceHouseModel", "remove", "(I)V"⟩ ∈ QT := q_in 837 (by decide +kernel) rfl
theorem w_839 : Cond.instanceMethod ⟨"PriceHouseModel", "remove", "(I)V"⟩ ∈ QT := q_in 839 (by decide +kernel) rfl
theorem w_840 : Cond.code ⟨"PriceHouseModel", "remove", "(I)V"⟩ prog_10_method_4_code 3 none ∈ QT := q_in 840 (by decide +kernel) rfl
theorem w_841 : Cond.methodLink "PriceHouseModel" 135 ⟨"PriceHouseModel", "comes", "(IIII)V"⟩ ∈ QT := q_in 841 (by decide +kernel) rfl
theorem w_843 : Cond.instanceMethod ⟨"PriceHouseModel", "comes", "(IIII)V"⟩ ∈ QT := q_in 843 (by decide +kernel) rfl
theorem w_844 : Cond.code ⟨"PriceHouseModel", "comes", "(IIII)V"⟩ prog_10_method_8_code 5 none ∈ QT := q_in 844 (by decide +kernel) rfl
theorem w_845 : Cond.methodLink "PriceHouseModel" 116 ⟨"PriceHouseModel", "asked", "(II)V"⟩ ∈ QT := q_in 845 (by decide +kernel) rfl
theorem w_847 : Cond.instanceMethod ⟨"PriceHouseModel", "asked", "(II)V"⟩ ∈ QT := q_in 847 (by decide +kernel) rfl
theorem w_848 : Cond.code ⟨"PriceHouseModel", "asked", "(II)V"⟩ prog_10_method_7_code 4 none ∈ QT := q_in 848 (by decide +kernel) rfl
theorem w_849 : Cond.methodLink "PriceHouseLaw" 150 ⟨"PriceHouseModel", "lose", "(I)V"⟩ ∈ QT := q_in 849 (by decide +kernel) rfl
theorem w_850 : Cond.instanceMethod ⟨"PriceHouseModel", "lose", "(I)V"⟩ ∈ QT := q_in 850 (by decide +kernel) rfl
theorem w_851 : Cond.selects "PriceHouseModel" ⟨"PriceHouseModel", "lose", "(I)V"⟩ ⟨"PriceHouseModel", "lose", "(I)V"⟩ ∈ QT := q_in 851 (by decide +kernel) rfl
theorem w_852 : Cond.code ⟨"PriceHouseModel", "lose", "(I)V"⟩ prog_10_method_26_code 2 none ∈ QT := q_in 852 (by decide +kernel) rfl
theorem w_853 : Cond.methodLink "PriceHouseLaw" 153 ⟨"PriceHouseModel", "twin", "(I)V"⟩ ∈ QT := q_in 853 (by decide +kernel) rfl
theorem w_854 : Cond.instanceMethod ⟨"PriceHouseModel", "twin", "(I)V"⟩ ∈ QT := q_in 854 (by decide +kernel) rfl
theorem w_855 : Cond.selects "PriceHouseModel" ⟨"PriceHouseModel", "twin", "(I)V"⟩ ⟨"PriceHouseModel", "twin", "(I)V"⟩ ∈ QT := q_in 855 (by decide +kernel) rfl
theorem w_856 : Cond.code ⟨"PriceHouseModel", "twin", "(I)V"⟩ prog_10_method_27_code 2 none ∈ QT := q_in 856 (by decide +kernel) rfl
theorem w_857 : Cond.methodLink "PriceHouseLaw" 157 ⟨"PriceHouseModel", "letter", "(II)I"⟩ ∈ QT := q_in 857 (by decide +kernel) rfl
theorem w_858 : Cond.instanceMethod ⟨"PriceHouseModel", "letter", "(II)I"⟩ ∈ QT := q_in 858 (by decide +kernel) rfl
theorem w_859 : Cond.selects "PriceHouseModel" ⟨"PriceHouseModel", "letter", "(II)I"⟩ ⟨"PriceHouseModel", "letter", "(II)I"⟩ ∈ QT := q_in 859 (by decide +kernel) rfl
theorem w_860 : Cond.code ⟨"PriceHouseModel", "letter", "(II)I"⟩ prog_10_method_28_code 3 (some .int) ∈ QT := q_in 860 (by decide +kernel) rfl
theorem w_861 : Cond.methodLink "PriceHouseLaw" 161 ⟨"PriceHouseModel", "letters", "()I"⟩ ∈ QT := q_in 861 (by decide +kernel) rfl
theorem w_862 : Cond.instanceMethod ⟨"PriceHouseModel", "letters", "()I"⟩ ∈ QT := q_in 862 (by decide +kernel) rfl
theorem w_863 : Cond.selects "PriceHouseModel" ⟨"PriceHouseModel", "letters", "()I"⟩ ⟨"PriceHouseModel", "letters", "()I"⟩ ∈ QT := q_in 863 (by decide +kernel) rfl
theorem w_864 : Cond.code ⟨"PriceHouseModel", "letters", "()I"⟩ prog_10_method_29_code 1 (some .int) ∈ QT := q_in 864 (by decide +kernel) rfl
theorem w_865 : Cond.methodLink "PriceHouseLaw" 164 ⟨"PriceHouseModel", "open", "(I)I"⟩ ∈ QT := q_in 865 (by decide +kernel) rfl
theorem w_866 : Cond.instanceMethod ⟨"PriceHouseModel", "open", "(I)I"⟩ ∈ QT := q_in 866 (by decide +kernel) rfl
theorem w_867 : Cond.selects "PriceHouseModel" ⟨"PriceHouseModel", "open", "(I)I"⟩ ⟨"PriceHouseModel", "open", "(I)I"⟩ ∈ QT := q_in 867 (by decide +kernel) rfl
theorem w_868 : Cond.code ⟨"PriceHouseModel", "open", "(I)I"⟩ prog_10_method_30_code 4 (some .int) ∈ QT := q_in 868 (by decide +kernel) rfl
theorem w_869 : Cond.methodLink "PriceHouseLaw" 168 ⟨"PriceHouseModel", "scan", "(III)I"⟩ ∈ QT := q_in 869 (by decide +kernel) rfl
theorem w_870 : Cond.instanceMethod ⟨"PriceHouseModel", "scan", "(III)I"⟩ ∈ QT := q_in 870 (by decide +kernel) rfl
theorem w_871 : Cond.selects "PriceHouseModel" ⟨"PriceHouseModel", "scan", "(III)I"⟩ ⟨"PriceHouseModel", "scan", "(III)I"⟩ ∈ QT := q_in 871 (by decide +kernel) rfl
theorem w_872 : Cond.code ⟨"PriceHouseModel", "scan", "(III)I"⟩ prog_10_method_32_code 5 (some .int) ∈ QT := q_in 872 (by decide +kernel) rfl
theorem w_873 : Cond.methodLink "PriceHouseModel" 138 ⟨"PriceHouseModel", "noOpen", "(I)Z"⟩ ∈ QT := q_in 873 (by decide +kernel) rfl
theorem w_875 : Cond.instanceMethod ⟨"PriceHouseModel", "noOpen", "(I)Z"⟩ ∈ QT := q_in 875 (by decide +kernel) rfl
theorem w_876 : Cond.code ⟨"PriceHouseModel", "noOpen", "(I)Z"⟩ prog_10_method_31_code 2 (some .boolean) ∈ QT := q_in 876 (by decide +kernel) rfl
theorem w_877 : Cond.methodLink "PriceHouseLaw" 171 ⟨"PriceHouseModel", "pay", "(I)J"⟩ ∈ QT := q_in 877 (by decide +kernel) rfl
theorem w_878 : Cond.instanceMethod ⟨"PriceHouseModel", "pay", "(I)J"⟩ ∈ QT := q_in 878 (by decide +kernel) rfl
theorem w_879 : Cond.selects "PriceHouseModel" ⟨"PriceHouseModel", "pay", "(I)J"⟩ ⟨"PriceHouseModel", "pay", "(I)J"⟩ ∈ QT := q_in 879 (by decide +kernel) rfl
theorem w_880 : Cond.code ⟨"PriceHouseModel", "pay", "(I)J"⟩ prog_10_method_34_code 5 (some .long) ∈ QT := q_in 880 (by decide +kernel) rfl
theorem w_881 : Cond.methodLink "PriceHouseModel" 141 ⟨"PriceHouseModel", "cheapest", "(III)J"⟩ ∈ QT := q_in 881 (by decide +kernel) rfl
theorem w_883 : Cond.instanceMethod ⟨"PriceHouseModel", "cheapest", "(III)J"⟩ ∈ QT := q_in 883 (by decide +kernel) rfl
theorem w_884 : Cond.code ⟨"PriceHouseModel", "cheapest", "(III)J"⟩ prog_10_method_33_code 7 (some .long) ∈ QT := q_in 884 (by decide +kernel) rfl
theorem w_885 : Cond.methodLink "PriceHouseLaw" 174 ⟨"PriceHouseModel", "book", "(I)I"⟩ ∈ QT := q_in 885 (by decide +kernel) rfl
theorem w_886 : Cond.instanceMethod ⟨"PriceHouseModel", "book", "(I)I"⟩ ∈ QT := q_in 886 (by decide +kernel) rfl
theorem w_887 : Cond.selects "PriceHouseModel" ⟨"PriceHouseModel", "book", "(I)I"⟩ ⟨"PriceHouseModel", "book", "(I)I"⟩ ∈ QT := q_in 887 (by decide +kernel) rfl
theorem w_888 : Cond.code ⟨"PriceHouseModel", "book", "(I)I"⟩ prog_10_method_35_code 2 (some .int) ∈ QT := q_in 888 (by decide +kernel) rfl
theorem w_889 : Cond.methodLink "PriceHouseLaw" 177 ⟨"PriceHouseModel", "price", "(II)I"⟩ ∈ QT := q_in 889 (by decide +kernel) rfl
theorem w_890 : Cond.instanceMethod ⟨"PriceHouseModel", "price", "(II)I"⟩ ∈ QT := q_in 890 (by decide +kernel) rfl
theorem w_891 : Cond.selects "PriceHouseModel" ⟨"PriceHouseModel", "price", "(II)I"⟩ ⟨"PriceHouseModel", "price", "(II)I"⟩ ∈ QT := q_in 891 (by decide +kernel) rfl
theorem w_892 : Cond.code ⟨"PriceHouseModel", "price", "(II)I"⟩ prog_10_method_36_code 3 (some .int) ∈ QT := q_in 892 (by decide +kernel) rfl
theorem w_893 : Cond.methodLink "PriceHouseLaw" 180 ⟨"PriceHouseModel", "restart", "(I)V"⟩ ∈ QT := q_in 893 (by decide +kernel) rfl
theorem w_894 : Cond.instanceMethod ⟨"PriceHouseModel", "restart", "(I)V"⟩ ∈ QT := q_in 894 (by decide +kernel) rfl
theorem w_895 : Cond.selects "PriceHouseModel" ⟨"PriceHouseModel", "restart", "(I)V"⟩ ⟨"PriceHouseModel", "restart", "(I)V"⟩ ∈ QT := q_in 895 (by decide +kernel) rfl
theorem w_896 : Cond.code ⟨"PriceHouseModel", "restart", "(I)V"⟩ prog_10_method_37_code 3 none ∈ QT := q_in 896 (by decide +kernel) rfl
theorem w_897 : Cond.sameMethod "java/lang/Throwable" "java/lang/Throwable" "fillInStackTrace" "(I)Ljava/lang/Throwable;" ∈ QT := q_in 897 (by decide +kernel) rfl
theorem ws_H_isBook : Cond.selects "PriceHouse" ⟨"PriceHouse", "isBook", "(I)Z"⟩ ⟨"PriceHouse", "isBook", "(I)Z"⟩ ∈ QT := q_sel 1 (by decide +kernel) rfl
theorem ws_H_checkLetter : Cond.selects "PriceHouse" ⟨"PriceHouse", "checkLetter", "(I)V"⟩ ⟨"PriceHouse", "checkLetter", "(I)V"⟩ ∈ QT := q_sel 2 (by decide +kernel) rfl
theorem ws_H_bringToDesk : Cond.selects "PriceHouse" ⟨"PriceHouse", "bringToDesk", "(IIII)V"⟩ ⟨"PriceHouse", "bringToDesk", "(IIII)V"⟩ ∈ QT := q_sel 3 (by decide +kernel) rfl
theorem ws_D_bookFor : Cond.selects "PriceHouse$Desk" ⟨"PriceHouse$Desk", "bookFor", "(LPriceHouse$Note;)I"⟩ ⟨"PriceHouse$Desk", "bookFor", "(LPriceHouse$Note;)I"⟩ ∈ QT := q_sel 4 (by decide +kernel) rfl
theorem ws_H_checkOpenBasket : Cond.selects "PriceHouse" ⟨"PriceHouse", "checkOpenBasket", "(I)V"⟩ ⟨"PriceHouse", "checkOpenBasket", "(I)V"⟩ ∈ QT := q_sel 5 (by decide +kernel) rfl
theorem ws_H_isBasket : Cond.selects "PriceHouse" ⟨"PriceHouse", "isBasket", "(I)Z"⟩ ⟨"PriceHouse", "isBasket", "(I)Z"⟩ ∈ QT := q_sel 6 (by decide +kernel) rfl
theorem ws_H_sells : Cond.selects "PriceHouse" ⟨"PriceHouse", "sells", "(II)Z"⟩ ⟨"PriceHouse", "sells", "(II)Z"⟩ ∈ QT := q_sel 7 (by decide +kernel) rfl
theorem ws_M_post : Cond.selects "PriceHouseModel" ⟨"PriceHouseModel", "post", "(IIII)V"⟩ ⟨"PriceHouseModel", "post", "(IIII)V"⟩ ∈ QT := q_sel 8 (by decide +kernel) rfl
theorem ws_M_look : Cond.selects "PriceHouseModel" ⟨"PriceHouseModel", "look", "()V"⟩ ⟨"PriceHouseModel", "look", "()V"⟩ ∈ QT := q_sel 9 (by decide +kernel) rfl
theorem ws_M_clock : Cond.selects "PriceHouseModel" ⟨"PriceHouseModel", "clock", "(I)I"⟩ ⟨"PriceHouseModel", "clock", "(I)I"⟩ ∈ QT := q_sel 10 (by decide +kernel) rfl
theorem ws_M_free : Cond.selects "PriceHouseModel" ⟨"PriceHouseModel", "free", "(I)Z"⟩ ⟨"PriceHouseModel", "free", "(I)Z"⟩ ∈ QT := q_sel 11 (by decide +kernel) rfl
theorem ws_M_validLease : Cond.selects "PriceHouseModel" ⟨"PriceHouseModel", "validLease", "(I)I"⟩ ⟨"PriceHouseModel", "validLease", "(I)I"⟩ ∈ QT := q_sel 12 (by decide +kernel) rfl
theorem ws_M_remove : Cond.selects "PriceHouseModel" ⟨"PriceHouseModel", "remove", "(I)V"⟩ ⟨"PriceHouseModel", "remove", "(I)V"⟩ ∈ QT := q_sel 13 (by decide +kernel) rfl
theorem ws_M_comes : Cond.selects "PriceHouseModel" ⟨"PriceHouseModel", "comes", "(IIII)V"⟩ ⟨"PriceHouseModel", "comes", "(IIII)V"⟩ ∈ QT := q_sel 14 (by decide +kernel) rfl
theorem ws_M_asked : Cond.selects "PriceHouseModel" ⟨"PriceHouseModel", "asked", "(II)V"⟩ ⟨"PriceHouseModel", "asked", "(II)V"⟩ ∈ QT := q_sel 15 (by decide +kernel) rfl
theorem ws_M_noOpen : Cond.selects "PriceHouseModel" ⟨"PriceHouseModel", "noOpen", "(I)Z"⟩ ⟨"PriceHouseModel", "noOpen", "(I)Z"⟩ ∈ QT := q_sel 16 (by decide +kernel) rfl
theorem ws_M_cheapest : Cond.selects "PriceHouseModel" ⟨"PriceHouseModel", "cheapest", "(III)J"⟩ ⟨"PriceHouseModel", "cheapest", "(III)J"⟩ ∈ QT := q_sel 17 (by decide +kernel) rfl
theorem wn_0_1 : Cond.not (.castable "java/lang/IllegalArgumentException" "java/lang/IllegalStateException") ∈ QT := q_no 0 (by decide +kernel)
theorem wn_0_2 : Cond.not (.castable "java/lang/IllegalArgumentException" "java/lang/IndexOutOfBoundsException") ∈ QT := q_no 1 (by decide +kernel)
theorem wn_0_3 : Cond.not (.castable "java/lang/IllegalArgumentException" "java/util/NoSuchElementException") ∈ QT := q_no 2 (by decide +kernel)
theorem wn_1_0 : Cond.not (.castable "java/lang/IllegalStateException" "java/lang/IllegalArgumentException") ∈ QT := q_no 3 (by decide +kernel)
theorem wn_1_2 : Cond.not (.castable "java/lang/IllegalStateException" "java/lang/IndexOutOfBoundsException") ∈ QT := q_no 4 (by decide +kernel)
theorem wn_1_3 : Cond.not (.castable "java/lang/IllegalStateException" "java/util/NoSuchElementException") ∈ QT := q_no 5 (by decide +kernel)
theorem wn_2_0 : Cond.not (.castable "java/lang/IndexOutOfBoundsException" "java/lang/IllegalArgumentException") ∈ QT := q_no 6 (by decide +kernel)
theorem wn_2_1 : Cond.not (.castable "java/lang/IndexOutOfBoundsException" "java/lang/IllegalStateException") ∈ QT := q_no 7 (by decide +kernel)
theorem wn_2_3 : Cond.not (.castable "java/lang/IndexOutOfBoundsException" "java/util/NoSuchElementException") ∈ QT := q_no 8 (by decide +kernel)
theorem wn_3_0 : Cond.not (.castable "java/util/NoSuchElementException" "java/lang/IllegalArgumentException") ∈ QT := q_no 9 (by decide +kernel)
theorem wn_3_1 : Cond.not (.castable "java/util/NoSuchElementException" "java/lang/IllegalStateException") ∈ QT := q_no 10 (by decide +kernel)
theorem wn_3_2 : Cond.not (.castable "java/util/NoSuchElementException" "java/lang/IndexOutOfBoundsException") ∈ QT := q_no 11 (by decide +kernel)
end
section
theorem d_C_shown_0 : decode b_C_shown 0 = .ok (.aload_n 0, 1) := by decide +kernel
theorem d_C_shown_1 : decode b_C_shown 1 = .ok (.getfield 13, 3) := by decide +kernel
theorem d_C_shown_4 : decode b_C_shown 4 = .ok (.bipush 100, 2) := by decide +kernel
theorem d_C_shown_6 : decode b_C_shown 6 = .ok (.idiv, 1) := by decide +kernel
theorem d_C_shown_7 : decode b_C_shown 7 = .ok (.ireturn, 1) := by decide +kernel

theorem d_C_go_0 : decode b_C_go 0 = .ok (.aload_n 0, 1) := by decide +kernel
theorem d_C_go_1 : decode b_C_go 1 = .ok (.dup, 1) := by decide +kernel
theorem d_C_go_2 : decode b_C_go 2 = .ok (.getfield 13, 3) := by decide +kernel
theorem d_C_go_5 : decode b_C_go 5 = .ok (.iload_n 1, 1) := by decide +kernel
theorem d_C_go_6 : decode b_C_go 6 = .ok (.aload_n 0, 1) := by decide +kernel
theorem d_C_go_7 : decode b_C_go 7 = .ok (.getfield 7, 3) := by decide +kernel
theorem d_C_go_10 : decode b_C_go 10 = .ok (.imul, 1) := by decide +kernel
theorem d_C_go_11 : decode b_C_go 11 = .ok (.iadd, 1) := by decide +kernel
theorem d_C_go_12 : decode b_C_go 12 = .ok (.putfield 13, 3) := by decide +kernel
theorem d_C_go_15 : decode b_C_go 15 = .ok (.return_, 1) := by decide +kernel

theorem d_B_begin_0 : decode b_B_begin 0 = .ok (.aload_n 0, 1) := by decide +kernel
theorem d_B_begin_1 : decode b_B_begin 1 = .ok (.iload_n 1, 1) := by decide +kernel
theorem d_B_begin_2 : decode b_B_begin 2 = .ok (.putfield 15, 3) := by decide +kernel
theorem d_B_begin_5 : decode b_B_begin 5 = .ok (.aload_n 0, 1) := by decide +kernel
theorem d_B_begin_6 : decode b_B_begin 6 = .ok (.iload_n 2, 1) := by decide +kernel
theorem d_B_begin_7 : decode b_B_begin 7 = .ok (.putfield 19, 3) := by decide +kernel
theorem d_B_begin_10 : decode b_B_begin 10 = .ok (.aload_n 0, 1) := by decide +kernel
theorem d_B_begin_11 : decode b_B_begin 11 = .ok (.iconst 1, 1) := by decide +kernel
theorem d_B_begin_12 : decode b_B_begin 12 = .ok (.putfield 22, 3) := by decide +kernel
theorem d_B_begin_15 : decode b_B_begin 15 = .ok (.return_, 1) := by decide +kernel

theorem d_R_isFull_0 : decode b_R_isFull 0 = .ok (.aload_n 0, 1) := by decide +kernel
theorem d_R_isFull_1 : decode b_R_isFull 1 = .ok (.getfield 24, 3) := by decide +kernel
theorem d_R_isFull_4 : decode b_R_isFull 4 = .ok (.bipush 40, 2) := by decide +kernel
theorem d_R_isFull_6 : decode b_R_isFull 6 = .ok (.if_icmp .lt 7, 3) := by decide +kernel
theorem d_R_isFull_9 : decode b_R_isFull 9 = .ok (.iconst 1, 1) := by decide +kernel
theorem d_R_isFull_10 : decode b_R_isFull 10 = .ok (.goto 4, 3) := by decide +kernel
theorem d_R_isFull_13 : decode b_R_isFull 13 = .ok (.iconst 0, 1) := by decide +kernel
theorem d_R_isFull_14 : decode b_R_isFull 14 = .ok (.ireturn, 1) := by decide +kernel

theorem d_R_post_0 : decode b_R_post 0 = .ok (.aload_n 0, 1) := by decide +kernel
theorem d_R_post_1 : decode b_R_post 1 = .ok (.invokevirtual 28, 3) := by decide +kernel
theorem d_R_post_4 : decode b_R_post 4 = .ok (.ifCond .eq 4, 3) := by decide +kernel
theorem d_R_post_7 : decode b_R_post 7 = .ok (.return_, 1) := by decide +kernel
theorem d_R_post_8 : decode b_R_post 8 = .ok (.aload_n 0, 1) := by decide +kernel
theorem d_R_post_9 : decode b_R_post 9 = .ok (.getfield 9, 3) := by decide +kernel
theorem d_R_post_12 : decode b_R_post 12 = .ok (.aload_n 0, 1) := by decide +kernel
theorem d_R_post_13 : decode b_R_post 13 = .ok (.getfield 24, 3) := by decide +kernel
theorem d_R_post_16 : decode b_R_post 16 = .ok (.iload_n 1, 1) := by decide +kernel
theorem d_R_post_17 : decode b_R_post 17 = .ok (.iastore, 1) := by decide +kernel
theorem d_R_post_18 : decode b_R_post 18 = .ok (.aload_n 0, 1) := by decide +kernel
theorem d_R_post_19 : decode b_R_post 19 = .ok (.getfield 15, 3) := by decide +kernel
theorem d_R_post_22 : decode b_R_post 22 = .ok (.aload_n 0, 1) := by decide +kernel
theorem d_R_post_23 : decode b_R_post 23 = .ok (.getfield 24, 3) := by decide +kernel
theorem d_R_post_26 : decode b_R_post 26 = .ok (.iload_n 2, 1) := by decide +kernel
theorem d_R_post_27 : decode b_R_post 27 = .ok (.iastore, 1) := by decide +kernel
theorem d_R_post_28 : decode b_R_post 28 = .ok (.aload_n 0, 1) := by decide +kernel
theorem d_R_post_29 : decode b_R_post 29 = .ok (.getfield 18, 3) := by decide +kernel
theorem d_R_post_32 : decode b_R_post 32 = .ok (.aload_n 0, 1) := by decide +kernel
theorem d_R_post_33 : decode b_R_post 33 = .ok (.getfield 24, 3) := by decide +kernel
theorem d_R_post_36 : decode b_R_post 36 = .ok (.iload_n 3, 1) := by decide +kernel
theorem d_R_post_37 : decode b_R_post 37 = .ok (.iastore, 1) := by decide +kernel
theorem d_R_post_38 : decode b_R_post 38 = .ok (.aload_n 0, 1) := by decide +kernel
theorem d_R_post_39 : decode b_R_post 39 = .ok (.getfield 21, 3) := by decide +kernel
theorem d_R_post_42 : decode b_R_post 42 = .ok (.aload_n 0, 1) := by decide +kernel
theorem d_R_post_43 : decode b_R_post 43 = .ok (.getfield 24, 3) := by decide +kernel
theorem d_R_post_46 : decode b_R_post 46 = .ok (.iload 4, 2) := by decide +kernel
theorem d_R_post_48 : decode b_R_post 48 = .ok (.iastore, 1) := by decide +kernel
theorem d_R_post_49 : decode b_R_post 49 = .ok (.aload_n 0, 1) := by decide +kernel
theorem d_R_post_50 : decode b_R_post 50 = .ok (.dup, 1) := by decide +kernel
theorem d_R_post_51 : decode b_R_post 51 = .ok (.getfield 24, 3) := by decide +kernel
theorem d_R_post_54 : decode b_R_post 54 = .ok (.iconst 1, 1) := by decide +kernel
theorem d_R_post_55 : decode b_R_post 55 = .ok (.iadd, 1) := by decide +kernel
theorem d_R_post_56 : decode b_R_post 56 = .ok (.putfield 24, 3) := by decide +kernel
theorem d_R_post_59 : decode b_R_post 59 = .ok (.return_, 1) := by decide +kernel

theorem d_R_takeOut_0 : decode b_R_takeOut 0 = .ok (.aload_n 0, 1) := by decide +kernel
theorem d_R_takeOut_1 : decode b_R_takeOut 1 = .ok (.getfield 24, 3) := by decide +kernel
theorem d_R_takeOut_4 : decode b_R_takeOut 4 = .ok (.iload_n 1, 1) := by decide +kernel
theorem d_R_takeOut_5 : decode b_R_takeOut 5 = .ok (.isub, 1) := by decide +kernel
theorem d_R_takeOut_6 : decode b_R_takeOut 6 = .ok (.iconst 1, 1) := by decide +kernel
theorem d_R_takeOut_7 : decode b_R_takeOut 7 = .ok (.isub, 1) := by decide +kernel
theorem d_R_takeOut_8 : decode b_R_takeOut 8 = .ok (.istore_n 2, 1) := by decide +kernel
theorem d_R_takeOut_9 : decode b_R_takeOut 9 = .ok (.aload_n 0, 1) := by decide +kernel
theorem d_R_takeOut_10 : decode b_R_takeOut 10 = .ok (.getfield 9, 3) := by decide +kernel
theorem d_R_takeOut_13 : decode b_R_takeOut 13 = .ok (.iload_n 1, 1) := by decide +kernel
theorem d_R_takeOut_14 : decode b_R_takeOut 14 = .ok (.iconst 1, 1) := by decide +kernel
theorem d_R_takeOut_15 : decode b_R_takeOut 15 = .ok (.iadd, 1) := by decide +kernel
theorem d_R_takeOut_16 : decode b_R_takeOut 16 = .ok (.aload_n 0, 1) := by decide +kernel
theorem d_R_takeOut_17 : decode b_R_takeOut 17 = .ok (.getfield 9, 3) := by decide +kernel
theorem d_R_takeOut_20 : decode b_R_takeOut 20 = .ok (.iload_n 1, 1) := by decide +kernel
theorem d_R_takeOut_21 : decode b_R_takeOut 21 = .ok (.iload_n 2, 1) := by decide +kernel
theorem d_R_takeOut_22 : decode b_R_takeOut 22 = .ok (.invokestatic 32, 3) := by decide +kernel
theorem d_R_takeOut_25 : decode b_R_takeOut 25 = .ok (.aload_n 0, 1) := by decide +kernel
theorem d_R_takeOut_26 : decode b_R_takeOut 26 = .ok (.getfield 15, 3) := by decide +kernel
theorem d_R_takeOut_29 : decode b_R_takeOut 29 = .ok (.iload_n 1, 1) := by decide +kernel
theorem d_R_takeOut_30 : decode b_R_takeOut 30 = .ok (.iconst 1, 1) := by decide +kernel
theorem d_R_takeOut_31 : decode b_R_takeOut 31 = .ok (.iadd, 1) := by decide +kernel
theorem d_R_takeOut_32 : decode b_R_takeOut 32 = .ok (.aload_n 0, 1) := by decide +kernel
theorem d_R_takeOut_33 : decode b_R_takeOut 33 = .ok (.getfield 15, 3) := by decide +kernel
theorem d_R_takeOut_36 : decode b_R_takeOut 36 = .ok (.iload_n 1, 1) := by decide +kernel
theorem d_R_takeOut_37 : decode b_R_takeOut 37 = .ok (.iload_n 2, 1) := by decide +kernel
theorem d_R_takeOut_38 : decode b_R_takeOut 38 = .ok (.invokestatic 32, 3) := by decide +kernel
theorem d_R_takeOut_41 : decode b_R_takeOut 41 = .ok (.aload_n 0, 1) := by decide +kernel
theorem d_R_takeOut_42 : decode b_R_takeOut 42 = .ok (.getfield 18, 3) := by decide +kernel
theorem d_R_takeOut_45 : decode b_R_takeOut 45 = .ok (.iload_n 1, 1) := by decide +kernel
theorem d_R_takeOut_46 : decode b_R_takeOut 46 = .ok (.iconst 1, 1) := by decide +kernel
theorem d_R_takeOut_47 : decode b_R_takeOut 47 = .ok (.iadd, 1) := by decide +kernel
theorem d_R_takeOut_48 : decode b_R_takeOut 48 = .ok (.aload_n 0, 1) := by decide +kernel
theorem d_R_takeOut_49 : decode b_R_takeOut 49 = .ok (.getfield 18, 3) := by decide +kernel
theorem d_R_takeOut_52 : decode b_R_takeOut 52 = .ok (.iload_n 1, 1) := by decide +kernel
theorem d_R_takeOut_53 : decode b_R_takeOut 53 = .ok (.iload_n 2, 1) := by decide +kernel
theorem d_R_takeOut_54 : decode b_R_takeOut 54 = .ok (.invokestatic 32, 3) := by decide +kernel
theorem d_R_takeOut_57 : decode b_R_takeOut 57 = .ok (.aload_n 0, 1) := by decide +kernel
theorem d_R_takeOut_58 : decode b_R_takeOut 58 = .ok (.getfield 21, 3) := by decide +kernel
theorem d_R_takeOut_61 : decode b_R_takeOut 61 = .ok (.iload_n 1, 1) := by decide +kernel
theorem d_R_takeOut_62 : decode b_R_takeOut 62 = .ok (.iconst 1, 1) := by decide +kernel
theorem d_R_takeOut_63 : decode b_R_takeOut 63 = .ok (.iadd, 1) := by decide +kernel
theorem d_R_takeOut_64 : decode b_R_takeOut 64 = .ok (.aload_n 0, 1) := by decide +kernel
theorem d_R_takeOut_65 : decode b_R_takeOut 65 = .ok (.getfield 21, 3) := by decide +kernel
theorem d_R_takeOut_68 : decode b_R_takeOut 68 = .ok (.iload_n 1, 1) := by decide +kernel
theorem d_R_takeOut_69 : decode b_R_takeOut 69 = .ok (.iload_n 2, 1) := by decide +kernel
theorem d_R_takeOut_70 : decode b_R_takeOut 70 = .ok (.invokestatic 32, 3) := by decide +kernel
theorem d_R_takeOut_73 : decode b_R_takeOut 73 = .ok (.aload_n 0, 1) := by decide +kernel
theorem d_R_takeOut_74 : decode b_R_takeOut 74 = .ok (.dup, 1) := by decide +kernel
theorem d_R_takeOut_75 : decode b_R_takeOut 75 = .ok (.getfield 24, 3) := by decide +kernel
theorem d_R_takeOut_78 : decode b_R_takeOut 78 = .ok (.iconst 1, 1) := by decide +kernel
theorem d_R_takeOut_79 : decode b_R_takeOut 79 = .ok (.isub, 1) := by decide +kernel
theorem d_R_takeOut_80 : decode b_R_takeOut 80 = .ok (.putfield 24, 3) := by decide +kernel
theorem d_R_takeOut_83 : decode b_R_takeOut 83 = .ok (.return_, 1) := by decide +kernel

theorem d_N_forget_0 : decode b_N_forget 0 = .ok (.aload_n 0, 1) := by decide +kernel
theorem d_N_forget_1 : decode b_N_forget 1 = .ok (.iconst 0, 1) := by decide +kernel
theorem d_N_forget_2 : decode b_N_forget 2 = .ok (.putfield 9, 3) := by decide +kernel
theorem d_N_forget_5 : decode b_N_forget 5 = .ok (.aload_n 0, 1) := by decide +kernel
theorem d_N_forget_6 : decode b_N_forget 6 = .ok (.iconst 0, 1) := by decide +kernel
theorem d_N_forget_7 : decode b_N_forget 7 = .ok (.putfield 15, 3) := by decide +kernel
theorem d_N_forget_10 : decode b_N_forget 10 = .ok (.aload_n 0, 1) := by decide +kernel
theorem d_N_forget_11 : decode b_N_forget 11 = .ok (.iconst 0, 1) := by decide +kernel
theorem d_N_forget_12 : decode b_N_forget 12 = .ok (.putfield 18, 3) := by decide +kernel
theorem d_N_forget_15 : decode b_N_forget 15 = .ok (.aload_n 0, 1) := by decide +kernel
theorem d_N_forget_16 : decode b_N_forget 16 = .ok (.iconst 0, 1) := by decide +kernel
theorem d_N_forget_17 : decode b_N_forget 17 = .ok (.putfield 21, 3) := by decide +kernel
theorem d_N_forget_20 : decode b_N_forget 20 = .ok (.aload_n 0, 1) := by decide +kernel
theorem d_N_forget_21 : decode b_N_forget 21 = .ok (.iconst 0, 1) := by decide +kernel
theorem d_N_forget_22 : decode b_N_forget 22 = .ok (.putfield 24, 3) := by decide +kernel
theorem d_N_forget_25 : decode b_N_forget 25 = .ok (.return_, 1) := by decide +kernel

theorem d_N_noteReady_0 : decode b_N_noteReady 0 = .ok (.aload_n 0, 1) := by decide +kernel
theorem d_N_noteReady_1 : decode b_N_noteReady 1 = .ok (.aload_n 0, 1) := by decide +kernel
theorem d_N_noteReady_2 : decode b_N_noteReady 2 = .ok (.getfield 9, 3) := by decide +kernel
theorem d_N_noteReady_5 : decode b_N_noteReady 5 = .ok (.iload_n 1, 1) := by decide +kernel
theorem d_N_noteReady_6 : decode b_N_noteReady 6 = .ok (.invokestatic 28, 3) := by decide +kernel
theorem d_N_noteReady_9 : decode b_N_noteReady 9 = .ok (.putfield 9, 3) := by decide +kernel
theorem d_N_noteReady_12 : decode b_N_noteReady 12 = .ok (.return_, 1) := by decide +kernel

theorem d_N_noteGrant_0 : decode b_N_noteGrant 0 = .ok (.aload_n 0, 1) := by decide +kernel
theorem d_N_noteGrant_1 : decode b_N_noteGrant 1 = .ok (.iload_n 1, 1) := by decide +kernel
theorem d_N_noteGrant_2 : decode b_N_noteGrant 2 = .ok (.putfield 15, 3) := by decide +kernel
theorem d_N_noteGrant_5 : decode b_N_noteGrant 5 = .ok (.aload_n 0, 1) := by decide +kernel
theorem d_N_noteGrant_6 : decode b_N_noteGrant 6 = .ok (.iload_n 2, 1) := by decide +kernel
theorem d_N_noteGrant_7 : decode b_N_noteGrant 7 = .ok (.putfield 18, 3) := by decide +kernel
theorem d_N_noteGrant_10 : decode b_N_noteGrant 10 = .ok (.aload_n 0, 1) := by decide +kernel
theorem d_N_noteGrant_11 : decode b_N_noteGrant 11 = .ok (.iload_n 3, 1) := by decide +kernel
theorem d_N_noteGrant_12 : decode b_N_noteGrant 12 = .ok (.putfield 21, 3) := by decide +kernel
theorem d_N_noteGrant_15 : decode b_N_noteGrant 15 = .ok (.aload_n 0, 1) := by decide +kernel
theorem d_N_noteGrant_16 : decode b_N_noteGrant 16 = .ok (.iconst 1, 1) := by decide +kernel
theorem d_N_noteGrant_17 : decode b_N_noteGrant 17 = .ok (.putfield 24, 3) := by decide +kernel
theorem d_N_noteGrant_20 : decode b_N_noteGrant 20 = .ok (.return_, 1) := by decide +kernel

theorem d_N_noteGiven_0 : decode b_N_noteGiven 0 = .ok (.iload_n 1, 1) := by decide +kernel
theorem d_N_noteGiven_1 : decode b_N_noteGiven 1 = .ok (.aload_n 0, 1) := by decide +kernel
theorem d_N_noteGiven_2 : decode b_N_noteGiven 2 = .ok (.getfield 15, 3) := by decide +kernel
theorem d_N_noteGiven_5 : decode b_N_noteGiven 5 = .ok (.if_icmp .ne 8, 3) := by decide +kernel
theorem d_N_noteGiven_8 : decode b_N_noteGiven 8 = .ok (.aload_n 0, 1) := by decide +kernel
theorem d_N_noteGiven_9 : decode b_N_noteGiven 9 = .ok (.iconst 0, 1) := by decide +kernel
theorem d_N_noteGiven_10 : decode b_N_noteGiven 10 = .ok (.putfield 24, 3) := by decide +kernel
theorem d_N_noteGiven_13 : decode b_N_noteGiven 13 = .ok (.return_, 1) := by decide +kernel

theorem d_N_allows_0 : decode b_N_allows 0 = .ok (.aload_n 0, 1) := by decide +kernel
theorem d_N_allows_1 : decode b_N_allows 1 = .ok (.getfield 9, 3) := by decide +kernel
theorem d_N_allows_4 : decode b_N_allows 4 = .ok (.iload_n 1, 1) := by decide +kernel
theorem d_N_allows_5 : decode b_N_allows 5 = .ok (.if_icmp .ge 29, 3) := by decide +kernel
theorem d_N_allows_8 : decode b_N_allows 8 = .ok (.aload_n 0, 1) := by decide +kernel
theorem d_N_allows_9 : decode b_N_allows 9 = .ok (.getfield 24, 3) := by decide +kernel
theorem d_N_allows_12 : decode b_N_allows 12 = .ok (.ifCond .eq 22, 3) := by decide +kernel
theorem d_N_allows_15 : decode b_N_allows 15 = .ok (.aload_n 0, 1) := by decide +kernel
theorem d_N_allows_16 : decode b_N_allows 16 = .ok (.getfield 18, 3) := by decide +kernel
theorem d_N_allows_19 : decode b_N_allows 19 = .ok (.iload_n 1, 1) := by decide +kernel
theorem d_N_allows_20 : decode b_N_allows 20 = .ok (.if_icmp .eq 14, 3) := by decide +kernel
theorem d_N_allows_23 : decode b_N_allows 23 = .ok (.iload_n 2, 1) := by decide +kernel
theorem d_N_allows_24 : decode b_N_allows 24 = .ok (.aload_n 0, 1) := by decide +kernel
theorem d_N_allows_25 : decode b_N_allows 25 = .ok (.getfield 21, 3) := by decide +kernel
theorem d_N_allows_28 : decode b_N_allows 28 = .ok (.isub, 1) := by decide +kernel
theorem d_N_allows_29 : decode b_N_allows 29 = .ok (.bipush 63, 2) := by decide +kernel
theorem d_N_allows_31 : decode b_N_allows 31 = .ok (.if_icmp .lt 7, 3) := by decide +kernel
theorem d_N_allows_34 : decode b_N_allows 34 = .ok (.iconst 1, 1) := by decide +kernel
theorem d_N_allows_35 : decode b_N_allows 35 = .ok (.goto 4, 3) := by decide +kernel
theorem d_N_allows_38 : decode b_N_allows 38 = .ok (.iconst 0, 1) := by decide +kernel
theorem d_N_allows_39 : decode b_N_allows 39 = .ok (.ireturn, 1) := by decide +kernel

theorem d_L_copyFrom_0 : decode b_L_copyFrom 0 = .ok (.aload_n 1, 1) := by decide +kernel
theorem d_L_copyFrom_1 : decode b_L_copyFrom 1 = .ok (.getfield 9, 3) := by decide +kernel
theorem d_L_copyFrom_4 : decode b_L_copyFrom 4 = .ok (.iconst 0, 1) := by decide +kernel
theorem d_L_copyFrom_5 : decode b_L_copyFrom 5 = .ok (.aload_n 0, 1) := by decide +kernel
theorem d_L_copyFrom_6 : decode b_L_copyFrom 6 = .ok (.getfield 9, 3) := by decide +kernel
theorem d_L_copyFrom_9 : decode b_L_copyFrom 9 = .ok (.iconst 0, 1) := by decide +kernel
theorem d_L_copyFrom_10 : decode b_L_copyFrom 10 = .ok (.bipush 8, 2) := by decide +kernel
theorem d_L_copyFrom_12 : decode b_L_copyFrom 12 = .ok (.invokestatic 21, 3) := by decide +kernel
theorem d_L_copyFrom_15 : decode b_L_copyFrom 15 = .ok (.aload_n 1, 1) := by decide +kernel
theorem d_L_copyFrom_16 : decode b_L_copyFrom 16 = .ok (.getfield 15, 3) := by decide +kernel
theorem d_L_copyFrom_19 : decode b_L_copyFrom 19 = .ok (.iconst 0, 1) := by decide +kernel
theorem d_L_copyFrom_20 : decode b_L_copyFrom 20 = .ok (.aload_n 0, 1) := by decide +kernel
theorem d_L_copyFrom_21 : decode b_L_copyFrom 21 = .ok (.getfield 15, 3) := by decide +kernel
theorem d_L_copyFrom_24 : decode b_L_copyFrom 24 = .ok (.iconst 0, 1) := by decide +kernel
theorem d_L_copyFrom_25 : decode b_L_copyFrom 25 = .ok (.bipush 16, 2) := by decide +kernel
theorem d_L_copyFrom_27 : decode b_L_copyFrom 27 = .ok (.invokestatic 21, 3) := by decide +kernel
theorem d_L_copyFrom_30 : decode b_L_copyFrom 30 = .ok (.aload_n 1, 1) := by decide +kernel
theorem d_L_copyFrom_31 : decode b_L_copyFrom 31 = .ok (.getfield 18, 3) := by decide +kernel
theorem d_L_copyFrom_34 : decode b_L_copyFrom 34 = .ok (.iconst 0, 1) := by decide +kernel
theorem d_L_copyFrom_35 : decode b_L_copyFrom 35 = .ok (.aload_n 0, 1) := by decide +kernel
theorem d_L_copyFrom_36 : decode b_L_copyFrom 36 = .ok (.getfield 18, 3) := by decide +kernel
theorem d_L_copyFrom_39 : decode b_L_copyFrom 39 = .ok (.iconst 0, 1) := by decide +kernel
theorem d_L_copyFrom_40 : decode b_L_copyFrom 40 = .ok (.bipush 16, 2) := by decide +kernel
theorem d_L_copyFrom_42 : decode b_L_copyFrom 42 = .ok (.invokestatic 21, 3) := by decide +kernel
theorem d_L_copyFrom_45 : decode b_L_copyFrom 45 = .ok (.return_, 1) := by decide +kernel

theorem d_T_takeBook_0 : decode b_T_takeBook 0 = .ok (.iload_n 1, 1) := by decide +kernel
theorem d_T_takeBook_1 : decode b_T_takeBook 1 = .ok (.aload_n 0, 1) := by decide +kernel
theorem d_T_takeBook_2 : decode b_T_takeBook 2 = .ok (.getfield 18, 3) := by decide +kernel
theorem d_T_takeBook_5 : decode b_T_takeBook 5 = .ok (.iconst 1, 1) := by decide +kernel
theorem d_T_takeBook_6 : decode b_T_takeBook 6 = .ok (.iadd, 1) := by decide +kernel
theorem d_T_takeBook_7 : decode b_T_takeBook 7 = .ok (.if_icmp .ne 8, 3) := by decide +kernel
theorem d_T_takeBook_10 : decode b_T_takeBook 10 = .ok (.aload_n 0, 1) := by decide +kernel
theorem d_T_takeBook_11 : decode b_T_takeBook 11 = .ok (.iload_n 1, 1) := by decide +kernel
theorem d_T_takeBook_12 : decode b_T_takeBook 12 = .ok (.putfield 18, 3) := by decide +kernel
theorem d_T_takeBook_15 : decode b_T_takeBook 15 = .ok (.return_, 1) := by decide +kernel

theorem d_T_endAsking_0 : decode b_T_endAsking 0 = .ok (.aload_n 0, 1) := by decide +kernel
theorem d_T_endAsking_1 : decode b_T_endAsking 1 = .ok (.iconst 1, 1) := by decide +kernel
theorem d_T_endAsking_2 : decode b_T_endAsking 2 = .ok (.putfield 32, 3) := by decide +kernel
theorem d_T_endAsking_5 : decode b_T_endAsking 5 = .ok (.aload_n 0, 1) := by decide +kernel
theorem d_T_endAsking_6 : decode b_T_endAsking 6 = .ok (.iconst 0, 1) := by decide +kernel
theorem d_T_endAsking_7 : decode b_T_endAsking 7 = .ok (.putfield 36, 3) := by decide +kernel
theorem d_T_endAsking_10 : decode b_T_endAsking 10 = .ok (.return_, 1) := by decide +kernel

theorem d_T_takeGrant_0 : decode b_T_takeGrant 0 = .ok (.iload_n 1, 1) := by decide +kernel
theorem d_T_takeGrant_1 : decode b_T_takeGrant 1 = .ok (.aload_n 0, 1) := by decide +kernel
theorem d_T_takeGrant_2 : decode b_T_takeGrant 2 = .ok (.getfield 22, 3) := by decide +kernel
theorem d_T_takeGrant_5 : decode b_T_takeGrant 5 = .ok (.if_icmp .ne 15, 3) := by decide +kernel
theorem d_T_takeGrant_8 : decode b_T_takeGrant 8 = .ok (.aload_n 0, 1) := by decide +kernel
theorem d_T_takeGrant_9 : decode b_T_takeGrant 9 = .ok (.getfield 32, 3) := by decide +kernel
theorem d_T_takeGrant_12 : decode b_T_takeGrant 12 = .ok (.ifCond .ne 8, 3) := by decide +kernel
theorem d_T_takeGrant_15 : decode b_T_takeGrant 15 = .ok (.aload_n 0, 1) := by decide +kernel
theorem d_T_takeGrant_16 : decode b_T_takeGrant 16 = .ok (.iload_n 2, 1) := by decide +kernel
theorem d_T_takeGrant_17 : decode b_T_takeGrant 17 = .ok (.putfield 36, 3) := by decide +kernel
theorem d_T_takeGrant_20 : decode b_T_takeGrant 20 = .ok (.return_, 1) := by decide +kernel

theorem d_T_beginAsking_0 : decode b_T_beginAsking 0 = .ok (.aload_n 0, 1) := by decide +kernel
theorem d_T_beginAsking_1 : decode b_T_beginAsking 1 = .ok (.dup, 1) := by decide +kernel
theorem d_T_beginAsking_2 : decode b_T_beginAsking 2 = .ok (.getfield 22, 3) := by decide +kernel
theorem d_T_beginAsking_5 : decode b_T_beginAsking 5 = .ok (.iconst 1, 1) := by decide +kernel
theorem d_T_beginAsking_6 : decode b_T_beginAsking 6 = .ok (.iadd, 1) := by decide +kernel
theorem d_T_beginAsking_7 : decode b_T_beginAsking 7 = .ok (.putfield 22, 3) := by decide +kernel
theorem d_T_beginAsking_10 : decode b_T_beginAsking 10 = .ok (.aload_n 0, 1) := by decide +kernel
theorem d_T_beginAsking_11 : decode b_T_beginAsking 11 = .ok (.aload_n 0, 1) := by decide +kernel
theorem d_T_beginAsking_12 : decode b_T_beginAsking 12 = .ok (.getfield 12, 3) := by decide +kernel
theorem d_T_beginAsking_15 : decode b_T_beginAsking 15 = .ok (.invokevirtual 25, 3) := by decide +kernel
theorem d_T_beginAsking_18 : decode b_T_beginAsking 18 = .ok (.putfield 29, 3) := by decide +kernel
theorem d_T_beginAsking_21 : decode b_T_beginAsking 21 = .ok (.aload_n 0, 1) := by decide +kernel
theorem d_T_beginAsking_22 : decode b_T_beginAsking 22 = .ok (.iconst 0, 1) := by decide +kernel
theorem d_T_beginAsking_23 : decode b_T_beginAsking 23 = .ok (.putfield 32, 3) := by decide +kernel
theorem d_T_beginAsking_26 : decode b_T_beginAsking 26 = .ok (.aload_n 0, 1) := by decide +kernel
theorem d_T_beginAsking_27 : decode b_T_beginAsking 27 = .ok (.iconst 0, 1) := by decide +kernel
theorem d_T_beginAsking_28 : decode b_T_beginAsking 28 = .ok (.putfield 36, 3) := by decide +kernel
theorem d_T_beginAsking_31 : decode b_T_beginAsking 31 = .ok (.aload_n 0, 1) := by decide +kernel
theorem d_T_beginAsking_32 : decode b_T_beginAsking 32 = .ok (.getfield 22, 3) := by decide +kernel
theorem d_T_beginAsking_35 : decode b_T_beginAsking 35 = .ok (.ireturn, 1) := by decide +kernel

theorem d_T_validLease_0 : decode b_T_validLease 0 = .ok (.aload_n 0, 1) := by decide +kernel
theorem d_T_validLease_1 : decode b_T_validLease 1 = .ok (.getfield 12, 3) := by decide +kernel
theorem d_T_validLease_4 : decode b_T_validLease 4 = .ok (.invokevirtual 25, 3) := by decide +kernel
theorem d_T_validLease_7 : decode b_T_validLease 7 = .ok (.aload_n 0, 1) := by decide +kernel
theorem d_T_validLease_8 : decode b_T_validLease 8 = .ok (.getfield 29, 3) := by decide +kernel
theorem d_T_validLease_11 : decode b_T_validLease 11 = .ok (.isub, 1) := by decide +kernel
theorem d_T_validLease_12 : decode b_T_validLease 12 = .ok (.bipush 60, 2) := by decide +kernel
theorem d_T_validLease_14 : decode b_T_validLease 14 = .ok (.if_icmp .ge 7, 3) := by decide +kernel
theorem d_T_validLease_17 : decode b_T_validLease 17 = .ok (.iconst 1, 1) := by decide +kernel
theorem d_T_validLease_18 : decode b_T_validLease 18 = .ok (.goto 4, 3) := by decide +kernel
theorem d_T_validLease_21 : decode b_T_validLease 21 = .ok (.iconst 0, 1) := by decide +kernel
theorem d_T_validLease_22 : decode b_T_validLease 22 = .ok (.istore_n 1, 1) := by decide +kernel
theorem d_T_validLease_23 : decode b_T_validLease 23 = .ok (.aload_n 0, 1) := by decide +kernel
theorem d_T_validLease_24 : decode b_T_validLease 24 = .ok (.getfield 36, 3) := by decide +kernel
theorem d_T_validLease_27 : decode b_T_validLease 27 = .ok (.aload_n 0, 1) := by decide +kernel
theorem d_T_validLease_28 : decode b_T_validLease 28 = .ok (.getfield 18, 3) := by decide +kernel
theorem d_T_validLease_31 : decode b_T_validLease 31 = .ok (.if_icmp .gt 7, 3) := by decide +kernel
theorem d_T_validLease_34 : decode b_T_validLease 34 = .ok (.iconst 1, 1) := by decide +kernel
theorem d_T_validLease_35 : decode b_T_validLease 35 = .ok (.goto 4, 3) := by decide +kernel
theorem d_T_validLease_38 : decode b_T_validLease 38 = .ok (.iconst 0, 1) := by decide +kernel
theorem d_T_validLease_39 : decode b_T_validLease 39 = .ok (.istore_n 2, 1) := by decide +kernel
theorem d_T_validLease_40 : decode b_T_validLease 40 = .ok (.aload_n 0, 1) := by decide +kernel
theorem d_T_validLease_41 : decode b_T_validLease 41 = .ok (.getfield 39, 3) := by decide +kernel
theorem d_T_validLease_44 : decode b_T_validLease 44 = .ok (.aload_n 0, 1) := by decide +kernel
theorem d_T_validLease_45 : decode b_T_validLease 45 = .ok (.getfield 36, 3) := by decide +kernel
theorem d_T_validLease_48 : decode b_T_validLease 48 = .ok (.if_icmp .le 7, 3) := by decide +kernel
theorem d_T_validLease_51 : decode b_T_validLease 51 = .ok (.iconst 1, 1) := by decide +kernel
theorem d_T_validLease_52 : decode b_T_validLease 52 = .ok (.goto 4, 3) := by decide +kernel
theorem d_T_validLease_55 : decode b_T_validLease 55 = .ok (.iconst 0, 1) := by decide +kernel
theorem d_T_validLease_56 : decode b_T_validLease 56 = .ok (.istore_n 3, 1) := by decide +kernel
theorem d_T_validLease_57 : decode b_T_validLease 57 = .ok (.iload_n 1, 1) := by decide +kernel
theorem d_T_validLease_58 : decode b_T_validLease 58 = .ok (.ifCond .eq 18, 3) := by decide +kernel
theorem d_T_validLease_61 : decode b_T_validLease 61 = .ok (.iload_n 2, 1) := by decide +kernel
theorem d_T_validLease_62 : decode b_T_validLease 62 = .ok (.ifCond .eq 14, 3) := by decide +kernel
theorem d_T_validLease_65 : decode b_T_validLease 65 = .ok (.iload_n 3, 1) := by decide +kernel
theorem d_T_validLease_66 : decode b_T_validLease 66 = .ok (.ifCond .ne 10, 3) := by decide +kernel
theorem d_T_validLease_69 : decode b_T_validLease 69 = .ok (.aload_n 0, 1) := by decide +kernel
theorem d_T_validLease_70 : decode b_T_validLease 70 = .ok (.getfield 36, 3) := by decide +kernel
theorem d_T_validLease_73 : decode b_T_validLease 73 = .ok (.goto 4, 3) := by decide +kernel
theorem d_T_validLease_76 : decode b_T_validLease 76 = .ok (.iconst 0, 1) := by decide +kernel
theorem d_T_validLease_77 : decode b_T_validLease 77 = .ok (.ireturn, 1) := by decide +kernel

set_option maxHeartbeats 4000000 in
set_option maxRecDepth 100000 in
theorem c_C_shown (l : Launch) (Z : qZ) (hZ : qok (pX Z)) (V : qV) (Y : qY) (j : Nat) (hj : j < 5) : CT l y_C_shown { frames := 1, cells := 0, slots := 0, locals := 40 } (pX Z) qN [.ref (al Z 8 j)] V Y (.inl (some (.int ((V 8 j 0) / 100)))) V Y := by
  refine CT.of (cc := b_C_shown) (maxL := 1) (ret := (some .int)) hZ (by decide) w_392 (Nat.le_of_ble_eq_true rfl) ?_
  intro p e s m below meth c C hr hex hlt
  refine gq_aload_n C d_C_shown_0 rfl ?_
  refine gq_get C (g := 8) (j := j) (ci := 1) (k := 0) (v := .int (V 8 j 0)) (qm (by decide) hj) rfl rfl in_C (by decide) w_61 rfl d_C_shown_1 ?_
  refine gq_bipush C (v := 100) d_C_shown_4 (by decide) ?_
  refine gq_idiv C d_C_shown_6 (by decide) ?_
  exact gq_iret C hr (by decide) (by decide) d_C_shown_7

set_option maxHeartbeats 4000000 in
set_option maxRecDepth 100000 in
theorem c_C_go (l : Launch) (Z : qZ) (hZ : qok (pX Z)) (V : qV) (Y : qY) (j : Nat) (hj : j < 5) (n : Int32) : CT l y_C_go { frames := 1, cells := 0, slots := 0, locals := 40 } (pX Z) (qA (pX Z)) [.ref (al Z 8 j), .int n] V Y (.inl none) (qv V 8 j 0 ((V 8 j 0) + (n * (V 8 j 1)))) Y := by
  refine CT.of (cc := b_C_go) (maxL := 2) (ret := none) hZ (by decide) w_407 (Nat.le_of_ble_eq_true rfl) ?_
  intro p e s m below meth c C hr hex hlt
  refine gq_aload_n C d_C_go_0 rfl ?_
  refine gq_dup C d_C_go_1 rfl ?_
  refine gq_get C (g := 8) (j := j) (ci := 1) (k := 0) (v := .int (V 8 j 0)) (qm (by decide) hj) rfl rfl in_C (by decide) w_61 rfl d_C_go_2 ?_
  refine gq_iload_n C d_C_go_5 rfl ?_
  refine gq_aload_n C d_C_go_6 rfl ?_
  refine gq_get C (g := 8) (j := j) (ci := 1) (k := 1) (v := .int (V 8 j 1)) (qm (by decide) hj) rfl rfl in_C (by decide) w_62 rfl d_C_go_7 ?_
  refine gq_imul C d_C_go_10 ?_
  refine gq_iadd C d_C_go_11 ?_
  refine gq_put C (fun _ h => h) (g := 8) (j := j) (ci := 1) (k := 0) ft_C k_C n_C (qm (by decide) hj) rfl rfl in_C (by decide) w_61 rfl (k_C 0 (by decide)) rfl rfl (Nat.le_of_ble_eq_true rfl) rfl d_C_go_12 ?_
  exact gq_vret C hr (by decide) (by decide) d_C_go_15

set_option maxHeartbeats 4000000 in
set_option maxRecDepth 100000 in
theorem c_B_begin (l : Launch) (Z : qZ) (hZ : qok (pX Z)) (V : qV) (Y : qY) (j : Nat) (hj : j < 40) (a b : Int32) : CT l y_B_begin { frames := 1, cells := 0, slots := 0, locals := 40 } (pX Z) (qA (pX Z)) [.ref (al Z 15 j), .int a, .int b] V Y (.inl none) (qv (qv (qv V 15 j 0 a) 15 j 1 b) 15 j 2 1) Y := by
  refine CT.of (cc := b_B_begin) (maxL := 3) (ret := none) hZ (by decide) w_576 (Nat.le_of_ble_eq_true rfl) ?_
  intro p e s m below meth c C hr hex hlt
  refine gq_aload_n C d_B_begin_0 rfl ?_
  refine gq_iload_n C d_B_begin_1 rfl ?_
  refine gq_put C (fun _ h => h) (g := 15) (j := j) (ci := 0) (k := 0) ft_B k_B n_B (qm (by decide) hj) rfl rfl in_B (by decide) w_186 rfl (k_B 0 (by decide)) rfl rfl (Nat.le_of_ble_eq_true rfl) rfl d_B_begin_2 ?_
  refine gq_aload_n C d_B_begin_5 rfl ?_
  refine gq_iload_n C d_B_begin_6 rfl ?_
  refine gq_put C (fun _ h => h) (g := 15) (j := j) (ci := 0) (k := 1) ft_B k_B n_B (qm (by decide) hj) rfl rfl in_B (by decide) w_188 rfl (k_B 1 (by decide)) rfl rfl (Nat.le_of_ble_eq_true rfl) rfl d_B_begin_7 ?_
  refine gq_aload_n C d_B_begin_10 rfl ?_
  refine gq_iconst C (v := 1) d_B_begin_11 (by decide) ?_
  refine gq_put C (fun _ h => h) (g := 15) (j := j) (ci := 0) (k := 2) ft_B k_B n_B (qm (by decide) hj) rfl rfl in_B (by decide) w_190 rfl (k_B 2 (by decide)) rfl rfl (Nat.le_of_ble_eq_true rfl) rfl d_B_begin_12 ?_
  exact gq_vret C hr (by decide) (by decide) d_B_begin_15

set_option maxHeartbeats 4000000 in
set_option maxRecDepth 100000 in
theorem c_R_isFull (l : Launch) (Z : qZ) (hZ : qok (pX Z)) (V : qV) (Y : qY)  : CT l y_R_isFull { frames := 1, cells := 0, slots := 0, locals := 40 } (pX Z) qN [.ref (al Z 12 0)] V Y (.inl (some (.int (if V 12 0 4 < 40 then 0 else 1)))) V Y := by
  refine CT.of (cc := b_R_isFull) (maxL := 1) (ret := (some .boolean)) hZ (by decide) w_369 (Nat.le_of_ble_eq_true rfl) ?_
  intro p e s m below meth c C hr hex hlt
  refine gq_aload_n C d_R_isFull_0 rfl ?_
  refine gq_get C (g := 12) (j := 0) (ci := 3) (k := 4) (v := .int (V 12 0 4)) (qm (by decide) (by decide)) rfl rfl in_R (by decide) w_166 rfl d_R_isFull_1 ?_
  refine gq_bipush C (v := 40) d_R_isFull_4 (by decide) ?_
  refine gq_icmp_lt C (tgt := 13) d_R_isFull_6 rfl (fun hb6 => ?_) (fun hb6 => ?_)
  · skip
    refine gq_iconst C (v := 0) d_R_isFull_13 (by decide) ?_
    exact gq_zretE C hr (by decide) (by simp [*]) rfl rfl (by decide) (by decide) d_R_isFull_14
  · skip
    refine gq_iconst C (v := 1) d_R_isFull_9 (by decide) ?_
    refine gq_goto C (tgt := 14) d_R_isFull_10 rfl ?_
    exact gq_zretE C hr (by decide) (by simp [*]) rfl rfl (by decide) (by decide) d_R_isFull_14

/-- a letter is posted: nothing happens to a full row -/
def f_post (V : qV) (n : Nat) (k t b a : Int32) : qV := qv (qv (qv (qv (qv V 13 0 n k) 13 1 n t) 13 2 n b) 13 3 n a) 12 0 4 (nI (n + 1))

set_option maxHeartbeats 4000000 in
set_option maxRecDepth 100000 in
theorem c_R_post_full (l : Launch) (Z : qZ) (hZ : qok (pX Z)) (V : qV) (Y : qY) (hf : ¬ V 12 0 4 < 40) (k t b a : Int32) : CT l y_R_post { frames := 2, cells := 0, slots := 0, locals := 60 } (pX Z) (qA (pX Z)) [.ref (al Z 12 0), .int k, .int t, .int b, .int a] V Y (.inl none) V Y := by
  refine CT.of (cc := b_R_post) (maxL := 5) (ret := none) hZ (by decide) w_365 (Nat.le_of_ble_eq_true rfl) ?_
  intro p e s m below meth c C hr hex hlt
  refine gq_aload_n C d_R_post_0 rfl ?_
  refine gq_callV C (st := []) (fun _ h => h.elim) (c_R_isFull l Z hZ V Y) (qm (by decide) (by decide)) rfl rfl w_366 w_367 w_368 w_369 w_7 ⟨by decide, by decide, (by decide +kernel : (parseMethodDescriptor y_R_isFull.desc).map (fun d => d.parameters.length) = some 0)⟩ ⟨by decide, by decide⟩ ⟨by decide, by decide⟩ rfl (Nat.le_of_ble_eq_true rfl) d_R_post_1 ?_
  refine gq_if_eq C (tgt := 8) d_R_post_4 rfl (fun hb => by first | contradiction | exact absurd hb (by rw [if_neg hf]; decide)) (fun hb4 => ?_)
  exact gq_vret C hr (by decide) (by decide) d_R_post_7

set_option maxHeartbeats 4000000 in
set_option maxRecDepth 100000 in
theorem c_R_post (l : Launch) (Z : qZ) (hZ : qok (pX Z)) (V : qV) (Y : qY) (n : Nat) (hn : n < 40) (h4 : V 12 0 4 = nI n) (k t b a : Int32) : CT l y_R_post { frames := 2, cells := 0, slots := 0, locals := 60 } (pX Z) (qA (pX Z)) [.ref (al Z 12 0), .int k, .int t, .int b, .int a] V Y (.inl none) (f_post V n k t b a) Y := by
  refine CT.of (cc := b_R_post) (maxL := 5) (ret := none) hZ (by decide) w_365 (Nat.le_of_ble_eq_true rfl) ?_
  intro p e s m below meth c C hr hex hlt
  refine gq_aload_n C d_R_post_0 rfl ?_
  refine gq_callV C (st := []) (fun _ h => h.elim) (c_R_isFull l Z hZ V Y) (qm (by decide) (by decide)) rfl rfl w_366 w_367 w_368 w_369 w_7 ⟨by decide, by decide, (by decide +kernel : (parseMethodDescriptor y_R_isFull.desc).map (fun d => d.parameters.length) = some 0)⟩ ⟨by decide, by decide⟩ ⟨by decide, by decide⟩ rfl (Nat.le_of_ble_eq_true rfl) d_R_post_1 ?_
  refine gq_if_eq C (tgt := 8) d_R_post_4 rfl (fun hb4 => ?_) (fun hb => by first | contradiction | exact absurd (by rw [h4, if_pos (show nI n < (40 : Int32) from nI_lt hn (by decide))]) hb)
  refine gq_aload_n C d_R_post_8 rfl ?_
  refine gq_get C (g := 12) (j := 0) (ci := 3) (k := 0) (v := .ref (al Z 13 0)) (qm (by decide) (by decide)) rfl rfl in_R (by decide) w_158 rfl d_R_post_9 ?_
  refine gq_aload_n C d_R_post_12 rfl ?_
  refine gq_get C (g := 12) (j := 0) (ci := 3) (k := 4) (v := .int (V 12 0 4)) (qm (by decide) (by decide)) rfl rfl in_R (by decide) w_166 rfl d_R_post_13 ?_
  refine gq_iload_n C d_R_post_16 rfl ?_
  refine gq_iast C (fun _ h => h) (g := 13) (j := 0) (a := n) (t0 := 0) (qm (by decide) (by decide)) (fun _ => rfl) rfl h4 hn (by decide) d_R_post_17 ?_
  refine gq_aload_n C d_R_post_18 rfl ?_
  refine gq_get C (g := 12) (j := 0) (ci := 3) (k := 1) (v := .ref (al Z 13 1)) (qm (by decide) (by decide)) rfl rfl in_R (by decide) w_160 rfl d_R_post_19 ?_
  refine gq_aload_n C d_R_post_22 rfl ?_
  refine gq_get C (g := 12) (j := 0) (ci := 3) (k := 4) (v := .int (V 12 0 4)) (qm (by decide) (by decide)) rfl rfl in_R (by decide) w_166 rfl d_R_post_23 ?_
  refine gq_iload_n C d_R_post_26 rfl ?_
  refine gq_iast C (fun _ h => h) (g := 13) (j := 1) (a := n) (t0 := 0) (qm (by decide) (by decide)) (fun _ => rfl) rfl h4 hn (by decide) d_R_post_27 ?_
  refine gq_aload_n C d_R_post_28 rfl ?_
  refine gq_get C (g := 12) (j := 0) (ci := 3) (k := 2) (v := .ref (al Z 13 2)) (qm (by decide) (by decide)) rfl rfl in_R (by decide) w_162 rfl d_R_post_29 ?_
  refine gq_aload_n C d_R_post_32 rfl ?_
  refine gq_get C (g := 12) (j := 0) (ci := 3) (k := 4) (v := .int (V 12 0 4)) (qm (by decide) (by decide)) rfl rfl in_R (by decide) w_166 rfl d_R_post_33 ?_
  refine gq_iload_n C d_R_post_36 rfl ?_
  refine gq_iast C (fun _ h => h) (g := 13) (j := 2) (a := n) (t0 := 0) (qm (by decide) (by decide)) (fun _ => rfl) rfl h4 hn (by decide) d_R_post_37 ?_
  refine gq_aload_n C d_R_post_38 rfl ?_
  refine gq_get C (g := 12) (j := 0) (ci := 3) (k := 3) (v := .ref (al Z 13 3)) (qm (by decide) (by decide)) rfl rfl in_R (by decide) w_164 rfl d_R_post_39 ?_
  refine gq_aload_n C d_R_post_42 rfl ?_
  refine gq_get C (g := 12) (j := 0) (ci := 3) (k := 4) (v := .int (V 12 0 4)) (qm (by decide) (by decide)) rfl rfl in_R (by decide) w_166 rfl d_R_post_43 ?_
  refine gq_iload C d_R_post_46 rfl ?_
  refine gq_iast C (fun _ h => h) (g := 13) (j := 3) (a := n) (t0 := 0) (qm (by decide) (by decide)) (fun _ => rfl) rfl h4 hn (by decide) d_R_post_48 ?_
  refine gq_aload_n C d_R_post_49 rfl ?_
  refine gq_dup C d_R_post_50 rfl ?_
  refine gq_get C (g := 12) (j := 0) (ci := 3) (k := 4) (v := .int (V 12 0 4)) (qm (by decide) (by decide)) rfl rfl in_R (by decide) w_166 rfl d_R_post_51 ?_
  refine gq_iconst C (v := 1) d_R_post_54 (by decide) ?_
  refine gq_iadd C d_R_post_55 ?_
  refine gq_put C (fun _ h => h) (g := 12) (j := 0) (ci := 3) (k := 4) ft_R k_R n_R (qm (by decide) (by decide)) rfl rfl in_R (by decide) w_166 rfl (k_R 4 (by decide)) rfl rfl (Nat.le_of_ble_eq_true rfl) rfl d_R_post_56 ?_
  exact gq_vretE C hr (by unfold f_post; rw [h4, nI_succ]) rfl (by decide) (by decide) d_R_post_59

/-- letter i is taken out of n -/
def f_cut (f : Nat → Int32) (i n : Nat) : Nat → Int32 := va_cpy f f (i + 1) i (n - i - 1)
def f_takeOut (V : qV) (i n : Nat) : qV := qv (qu (qu (qu (qu V 13 0 (f_cut (V 13 0) i n)) 13 1 (f_cut (V 13 1) i n)) 13 2 (f_cut (V 13 2) i n)) 13 3 (f_cut (V 13 3) i n)) 12 0 4 (nI n - 1)

set_option maxHeartbeats 4000000 in
set_option maxRecDepth 100000 in
theorem c_R_takeOut (l : Launch) (Z : qZ) (hZ : qok (pX Z)) (V : qV) (Y : qY) (i n : Nat) (hi : i < n) (hn : n ≤ 40) (h4 : V 12 0 4 = nI n) (hbeh : V 12 0 4 - nI i - 1 = nI (n - i - 1)) : CT l y_R_takeOut { frames := 1, cells := 0, slots := 0, locals := 60 } (pX Z) (qA (pX Z)) [.ref (al Z 12 0), .int (nI i)] V Y (.inl none) (f_takeOut V i n) Y := by
  refine CT.of (cc := b_R_takeOut) (maxL := 3) (ret := none) hZ (by decide) w_507 (Nat.le_of_ble_eq_true rfl) ?_
  intro p e s m below meth c C hr hex hlt
  refine gq_aload_n C d_R_takeOut_0 rfl ?_
  refine gq_get C (g := 12) (j := 0) (ci := 3) (k := 4) (v := .int (V 12 0 4)) (qm (by decide) (by decide)) rfl rfl in_R (by decide) w_166 rfl d_R_takeOut_1 ?_
  refine gq_iload_n C d_R_takeOut_4 rfl ?_
  refine gq_isub C d_R_takeOut_5 ?_
  refine gq_iconst C (v := 1) d_R_takeOut_6 (by decide) ?_
  refine gq_isub C d_R_takeOut_7 ?_
  refine gq_istore_n C (lo' := [(2, .int (((V 12 0 4) - (nI i)) - 1)), (0, .ref (al Z 12 0)), (1, .int (nI i))]) d_R_takeOut_8 rfl (by decide) rfl ?_
  refine gq_aload_n C d_R_takeOut_9 rfl ?_
  refine gq_get C (g := 12) (j := 0) (ci := 3) (k := 0) (v := .ref (al Z 13 0)) (qm (by decide) (by decide)) rfl rfl in_R (by decide) w_158 rfl d_R_takeOut_10 ?_
  refine gq_iload_n C d_R_takeOut_13 rfl ?_
  refine gq_iconst C (v := 1) d_R_takeOut_14 (by decide) ?_
  refine gq_iadd C d_R_takeOut_15 ?_
  refine gq_aload_n C d_R_takeOut_16 rfl ?_
  refine gq_get C (g := 12) (j := 0) (ci := 3) (k := 0) (v := .ref (al Z 13 0)) (qm (by decide) (by decide)) rfl rfl in_R (by decide) w_158 rfl d_R_takeOut_17 ?_
  refine gq_iload_n C d_R_takeOut_20 rfl ?_
  refine gq_iload_n C d_R_takeOut_21 rfl ?_
  refine gq_copyi C (fun _ h => h) (g0 := 13) (j0 := 0) (g1 := 13) (j1 := 0) (t0 := 0) (sp := (i + 1)) (dp := i) (n := (n - i - 1)) w_508 w_361 w_360 w_15 (qm (by decide) (by decide)) (qm (by decide) (by decide)) rfl (fun _ => rfl) rfl (nI_1 i) rfl hbeh (by omega) (by omega) (by decide) (by decide) (by decide) (by decide) d_R_takeOut_22 ?_
  refine gq_aload_n C d_R_takeOut_25 rfl ?_
  refine gq_get C (g := 12) (j := 0) (ci := 3) (k := 1) (v := .ref (al Z 13 1)) (qm (by decide) (by decide)) rfl rfl in_R (by decide) w_160 rfl d_R_takeOut_26 ?_
  refine gq_iload_n C d_R_takeOut_29 rfl ?_
  refine gq_iconst C (v := 1) d_R_takeOut_30 (by decide) ?_
  refine gq_iadd C d_R_takeOut_31 ?_
  refine gq_aload_n C d_R_takeOut_32 rfl ?_
  refine gq_get C (g := 12) (j := 0) (ci := 3) (k := 1) (v := .ref (al Z 13 1)) (qm (by decide) (by decide)) rfl rfl in_R (by decide) w_160 rfl d_R_takeOut_33 ?_
  refine gq_iload_n C d_R_takeOut_36 rfl ?_
  refine gq_iload_n C d_R_takeOut_37 rfl ?_
  refine gq_copyi C (fun _ h => h) (g0 := 13) (j0 := 1) (g1 := 13) (j1 := 1) (t0 := 0) (sp := (i + 1)) (dp := i) (n := (n - i - 1)) w_508 w_361 w_360 w_15 (qm (by decide) (by decide)) (qm (by decide) (by decide)) rfl (fun _ => rfl) rfl (nI_1 i) rfl hbeh (by omega) (by omega) (by decide) (by decide) (by decide) (by decide) d_R_takeOut_38 ?_
  refine gq_aload_n C d_R_takeOut_41 rfl ?_
  refine gq_get C (g := 12) (j := 0) (ci := 3) (k := 2) (v := .ref (al Z 13 2)) (qm (by decide) (by decide)) rfl rfl in_R (by decide) w_162 rfl d_R_takeOut_42 ?_
  refine gq_iload_n C d_R_takeOut_45 rfl ?_
  refine gq_iconst C (v := 1) d_R_takeOut_46 (by decide) ?_
  refine gq_iadd C d_R_takeOut_47 ?_
  refine gq_aload_n C d_R_takeOut_48 rfl ?_
  refine gq_get C (g := 12) (j := 0) (ci := 3) (k := 2) (v := .ref (al Z 13 2)) (qm (by decide) (by decide)) rfl rfl in_R (by decide) w_162 rfl d_R_takeOut_49 ?_
  refine gq_iload_n C d_R_takeOut_52 rfl ?_
  refine gq_iload_n C d_R_takeOut_53 rfl ?_
  refine gq_copyi C (fun _ h => h) (g0 := 13) (j0 := 2) (g1 := 13) (j1 := 2) (t0 := 0) (sp := (i + 1)) (dp := i) (n := (n - i - 1)) w_508 w_361 w_360 w_15 (qm (by decide) (by decide)) (qm (by decide) (by decide)) rfl (fun _ => rfl) rfl (nI_1 i) rfl hbeh (by omega) (by omega) (by decide) (by decide) (by decide) (by decide) d_R_takeOut_54 ?_
  refine gq_aload_n C d_R_takeOut_57 rfl ?_
  refine gq_get C (g := 12) (j := 0) (ci := 3) (k := 3) (v := .ref (al Z 13 3)) (qm (by decide) (by decide)) rfl rfl in_R (by decide) w_164 rfl d_R_takeOut_58 ?_
  refine gq_iload_n C d_R_takeOut_61 rfl ?_
  refine gq_iconst C (v := 1) d_R_takeOut_62 (by decide) ?_
  refine gq_iadd C d_R_takeOut_63 ?_
  refine gq_aload_n C d_R_takeOut_64 rfl ?_
  refine gq_get C (g := 12) (j := 0) (ci := 3) (k := 3) (v := .ref (al Z 13 3)) (qm (by decide) (by decide)) rfl rfl in_R (by decide) w_164 rfl d_R_takeOut_65 ?_
  refine gq_iload_n C d_R_takeOut_68 rfl ?_
  refine gq_iload_n C d_R_takeOut_69 rfl ?_
  refine gq_copyi C (fun _ h => h) (g0 := 13) (j0 := 3) (g1 := 13) (j1 := 3) (t0 := 0) (sp := (i + 1)) (dp := i) (n := (n - i - 1)) w_508 w_361 w_360 w_15 (qm (by decide) (by decide)) (qm (by decide) (by decide)) rfl (fun _ => rfl) rfl (nI_1 i) rfl hbeh (by omega) (by omega) (by decide) (by decide) (by decide) (by decide) d_R_takeOut_70 ?_
  refine gq_aload_n C d_R_takeOut_73 rfl ?_
  refine gq_dup C d_R_takeOut_74 rfl ?_
  refine gq_get C (g := 12) (j := 0) (ci := 3) (k := 4) (v := .int (V 12 0 4)) (qm (by decide) (by decide)) rfl rfl in_R (by decide) w_166 rfl d_R_takeOut_75 ?_
  refine gq_iconst C (v := 1) d_R_takeOut_78 (by decide) ?_
  refine gq_isub C d_R_takeOut_79 ?_
  refine gq_put C (fun _ h => h) (g := 12) (j := 0) (ci := 3) (k := 4) ft_R k_R n_R (qm (by decide) (by decide)) rfl rfl in_R (by decide) w_166 rfl (k_R 4 (by decide)) rfl rfl (Nat.le_of_ble_eq_true rfl) rfl d_R_takeOut_80 ?_
  exact gq_vretE C hr (by unfold f_takeOut f_cut; rw [h4]; rfl) rfl (by decide) (by decide) d_R_takeOut_83

set_option maxHeartbeats 4000000 in
set_option maxRecDepth 100000 in
theorem c_N_forget (l : Launch) (Z : qZ) (hZ : qok (pX Z)) (V : qV) (Y : qY) (j : Nat) (hj : j < 4) : CT l y_N_forget { frames := 1, cells := 0, slots := 0, locals := 40 } (pX Z) (qA (pX Z)) [.ref (al Z 11 j)] V Y (.inl none) (qv (qv (qv (qv (qv V 11 j 0 0) 11 j 1 0) 11 j 2 0) 11 j 3 0) 11 j 4 0) Y := by
  refine CT.of (cc := b_N_forget) (maxL := 1) (ret := none) hZ (by decide) w_654 (Nat.le_of_ble_eq_true rfl) ?_
  intro p e s m below meth c C hr hex hlt
  refine gq_aload_n C d_N_forget_0 rfl ?_
  refine gq_iconst C (v := 0) d_N_forget_1 (by decide) ?_
  refine gq_put C (fun _ h => h) (g := 11) (j := j) (ci := 4) (k := 0) ft_N k_N n_N (qm (by decide) hj) rfl rfl in_N (by decide) w_114 rfl (k_N 0 (by decide)) rfl rfl (Nat.le_of_ble_eq_true rfl) rfl d_N_forget_2 ?_
  refine gq_aload_n C d_N_forget_5 rfl ?_
  refine gq_iconst C (v := 0) d_N_forget_6 (by decide) ?_
  refine gq_put C (fun _ h => h) (g := 11) (j := j) (ci := 4) (k := 1) ft_N k_N n_N (qm (by decide) hj) rfl rfl in_N (by decide) w_116 rfl (k_N 1 (by decide)) rfl rfl (Nat.le_of_ble_eq_true rfl) rfl d_N_forget_7 ?_
  refine gq_aload_n C d_N_forget_10 rfl ?_
  refine gq_iconst C (v := 0) d_N_forget_11 (by decide) ?_
  refine gq_put C (fun _ h => h) (g := 11) (j := j) (ci := 4) (k := 2) ft_N k_N n_N (qm (by decide) hj) rfl rfl in_N (by decide) w_118 rfl (k_N 2 (by decide)) rfl rfl (Nat.le_of_ble_eq_true rfl) rfl d_N_forget_12 ?_
  refine gq_aload_n C d_N_forget_15 rfl ?_
  refine gq_iconst C (v := 0) d_N_forget_16 (by decide) ?_
  refine gq_put C (fun _ h => h) (g := 11) (j := j) (ci := 4) (k := 3) ft_N k_N n_N (qm (by decide) hj) rfl rfl in_N (by decide) w_119 rfl (k_N 3 (by decide)) rfl rfl (Nat.le_of_ble_eq_true rfl) rfl d_N_forget_17 ?_
  refine gq_aload_n C d_N_forget_20 rfl ?_
  refine gq_iconst C (v := 0) d_N_forget_21 (by decide) ?_
  refine gq_put C (fun _ h => h) (g := 11) (j := j) (ci := 4) (k := 4) ft_N k_N n_N (qm (by decide) hj) rfl rfl in_N (by decide) w_120 rfl (k_N 4 (by decide)) rfl rfl (Nat.le_of_ble_eq_true rfl) rfl d_N_forget_22 ?_
  exact gq_vret C hr (by decide) (by decide) d_N_forget_25

set_option maxHeartbeats 4000000 in
set_option maxRecDepth 100000 in
theorem c_N_noteReady (l : Launch) (Z : qZ) (hZ : qok (pX Z)) (V : qV) (Y : qY) (j : Nat) (hj : j < 4) (b : Int32) : CT l y_N_noteReady { frames := 1, cells := 0, slots := 0, locals := 60 } (pX Z) (qA (pX Z)) [.ref (al Z 11 j), .int b] V Y (.inl none) (qv V 11 j 0 (if V 11 j 0 < b then b else V 11 j 0)) Y := by
  refine CT.of (cc := b_N_noteReady) (maxL := 2) (ret := none) hZ (by decide) w_536 (Nat.le_of_ble_eq_true rfl) ?_
  intro p e s m below meth c C hr hex hlt
  refine gq_aload_n C d_N_noteReady_0 rfl ?_
  refine gq_aload_n C d_N_noteReady_1 rfl ?_
  refine gq_get C (g := 11) (j := j) (ci := 4) (k := 0) (v := .int (V 11 j 0)) (qm (by decide) hj) rfl rfl in_N (by decide) w_114 rfl d_N_noteReady_2 ?_
  refine gq_iload_n C d_N_noteReady_5 rfl ?_
  refine gq_max C w_537 w_538 w_17 w_539 (by decide) (Nat.le_of_ble_eq_true rfl) (by decide) (by decide) d_N_noteReady_6 ?_
  refine gq_put C (fun _ h => h) (g := 11) (j := j) (ci := 4) (k := 0) ft_N k_N n_N (qm (by decide) hj) rfl rfl in_N (by decide) w_114 rfl (k_N 0 (by decide)) rfl rfl (Nat.le_of_ble_eq_true rfl) rfl d_N_noteReady_9 ?_
  exact gq_vret C hr (by decide) (by decide) d_N_noteReady_12

set_option maxHeartbeats 4000000 in
set_option maxRecDepth 100000 in
theorem c_N_noteGrant (l : Launch) (Z : qZ) (hZ : qok (pX Z)) (V : qV) (Y : qY) (j : Nat) (hj : j < 4) (a b n : Int32) : CT l y_N_noteGrant { frames := 1, cells := 0, slots := 0, locals := 40 } (pX Z) (qA (pX Z)) [.ref (al Z 11 j), .int a, .int b, .int n] V Y (.inl none) (qv (qv (qv (qv V 11 j 1 a) 11 j 2 b) 11 j 3 n) 11 j 4 1) Y := by
  refine CT.of (cc := b_N_noteGrant) (maxL := 4) (ret := none) hZ (by decide) w_532 (Nat.le_of_ble_eq_true rfl) ?_
  intro p e s m below meth c C hr hex hlt
  refine gq_aload_n C d_N_noteGrant_0 rfl ?_
  refine gq_iload_n C d_N_noteGrant_1 rfl ?_
  refine gq_put C (fun _ h => h) (g := 11) (j := j) (ci := 4) (k := 1) ft_N k_N n_N (qm (by decide) hj) rfl rfl in_N (by decide) w_116 rfl (k_N 1 (by decide)) rfl rfl (Nat.le_of_ble_eq_true rfl) rfl d_N_noteGrant_2 ?_
  refine gq_aload_n C d_N_noteGrant_5 rfl ?_
  refine gq_iload_n C d_N_noteGrant_6 rfl ?_
  refine gq_put C (fun _ h => h) (g := 11) (j := j) (ci := 4) (k := 2) ft_N k_N n_N (qm (by decide) hj) rfl rfl in_N (by decide) w_118 rfl (k_N 2 (by decide)) rfl rfl (Nat.le_of_ble_eq_true rfl) rfl d_N_noteGrant_7 ?_
  refine gq_aload_n C d_N_noteGrant_10 rfl ?_
  refine gq_iload_n C d_N_noteGrant_11 rfl ?_
  refine gq_put C (fun _ h => h) (g := 11) (j := j) (ci := 4) (k := 3) ft_N k_N n_N (qm (by decide) hj) rfl rfl in_N (by decide) w_119 rfl (k_N 3 (by decide)) rfl rfl (Nat.le_of_ble_eq_true rfl) rfl d_N_noteGrant_12 ?_
  refine gq_aload_n C d_N_noteGrant_15 rfl ?_
  refine gq_iconst C (v := 1) d_N_noteGrant_16 (by decide) ?_
  refine gq_put C (fun _ h => h) (g := 11) (j := j) (ci := 4) (k := 4) ft_N k_N n_N (qm (by decide) hj) rfl rfl in_N (by decide) w_120 rfl (k_N 4 (by decide)) rfl rfl (Nat.le_of_ble_eq_true rfl) rfl d_N_noteGrant_17 ?_
  exact gq_vret C hr (by decide) (by decide) d_N_noteGrant_20

set_option maxHeartbeats 4000000 in
set_option maxRecDepth 100000 in
theorem c_N_noteGiven (l : Launch) (Z : qZ) (hZ : qok (pX Z)) (V : qV) (Y : qY) (j : Nat) (hj : j < 4) (a : Int32) : CT l y_N_noteGiven { frames := 1, cells := 0, slots := 0, locals := 40 } (pX Z) (qA (pX Z)) [.ref (al Z 11 j), .int a] V Y (.inl none) (if a = V 11 j 1 then qv V 11 j 4 0 else V) Y := by
  refine CT.of (cc := b_N_noteGiven) (maxL := 2) (ret := none) hZ (by decide) w_543 (Nat.le_of_ble_eq_true rfl) ?_
  intro p e s m below meth c C hr hex hlt
  refine gq_iload_n C d_N_noteGiven_0 rfl ?_
  refine gq_aload_n C d_N_noteGiven_1 rfl ?_
  refine gq_get C (g := 11) (j := j) (ci := 4) (k := 1) (v := .int (V 11 j 1)) (qm (by decide) hj) rfl rfl in_N (by decide) w_116 rfl d_N_noteGiven_2 ?_
  refine gq_icmp_ne C (tgt := 13) d_N_noteGiven_5 rfl (fun hb5 => ?_) (fun hb5 => ?_)
  · skip
    exact gq_vretE C hr (by simp [*]) rfl (by decide) (by decide) d_N_noteGiven_13
  · skip
    refine gq_aload_n C d_N_noteGiven_8 rfl ?_
    refine gq_iconst C (v := 0) d_N_noteGiven_9 (by decide) ?_
    refine gq_put C (fun _ h => h) (g := 11) (j := j) (ci := 4) (k := 4) ft_N k_N n_N (qm (by decide) hj) rfl rfl in_N (by decide) w_120 rfl (k_N 4 (by decide)) rfl rfl (Nat.le_of_ble_eq_true rfl) rfl d_N_noteGiven_10 ?_
    exact gq_vretE C hr (by simp [*]) rfl (by decide) (by decide) d_N_noteGiven_13

def f_al (V : qV) (j : Nat) (ch now : Int32) : Int32 := if ch ≤ V 11 j 0 then 1 else if V 11 j 4 = 0 then 1 else if V 11 j 2 = ch then 1 else if now - V 11 j 3 < 63 then 0 else 1

set_option maxHeartbeats 4000000 in
set_option maxRecDepth 100000 in
theorem c_N_allows (l : Launch) (Z : qZ) (hZ : qok (pX Z)) (V : qV) (Y : qY) (j : Nat) (hj : j < 4) (ch now : Int32) : CT l y_N_allows { frames := 1, cells := 0, slots := 0, locals := 40 } (pX Z) qN [.ref (al Z 11 j), .int ch, .int now] V Y (.inl (some (.int (f_al V j ch now)))) V Y := by
  refine CT.of (cc := b_N_allows) (maxL := 3) (ret := (some .boolean)) hZ (by decide) w_396 (Nat.le_of_ble_eq_true rfl) ?_
  intro p e s m below meth c C hr hex hlt
  refine gq_aload_n C d_N_allows_0 rfl ?_
  refine gq_get C (g := 11) (j := j) (ci := 4) (k := 0) (v := .int (V 11 j 0)) (qm (by decide) hj) rfl rfl in_N (by decide) w_114 rfl d_N_allows_1 ?_
  refine gq_iload_n C d_N_allows_4 rfl ?_
  refine gq_icmp_ge C (tgt := 34) d_N_allows_5 rfl (fun hb5 => ?_) (fun hb5 => ?_)
  · skip
    refine gq_iconst C (v := 1) d_N_allows_34 (by decide) ?_
    refine gq_goto C (tgt := 39) d_N_allows_35 rfl ?_
    exact gq_zretE C hr (by decide) (by unfold f_al; simp [*]) rfl rfl (by decide) (by decide) d_N_allows_39
  · skip
    refine gq_aload_n C d_N_allows_8 rfl ?_
    refine gq_get C (g := 11) (j := j) (ci := 4) (k := 4) (v := .int (V 11 j 4)) (qm (by decide) hj) rfl rfl in_N (by decide) w_120 rfl d_N_allows_9 ?_
    refine gq_if_eq C (tgt := 34) d_N_allows_12 rfl (fun hb12 => ?_) (fun hb12 => ?_)
    · skip
      refine gq_iconst C (v := 1) d_N_allows_34 (by decide) ?_
      refine gq_goto C (tgt := 39) d_N_allows_35 rfl ?_
      exact gq_zretE C hr (by decide) (by unfold f_al; simp [*]) rfl rfl (by decide) (by decide) d_N_allows_39
    · skip
      refine gq_aload_n C d_N_allows_15 rfl ?_
      refine gq_get C (g := 11) (j := j) (ci := 4) (k := 2) (v := .int (V 11 j 2)) (qm (by decide) hj) rfl rfl in_N (by decide) w_118 rfl d_N_allows_16 ?_
      refine gq_iload_n C d_N_allows_19 rfl ?_
      refine gq_icmp_eq C (tgt := 34) d_N_allows_20 rfl (fun hb20 => ?_) (fun hb20 => ?_)
      · skip
        refine gq_iconst C (v := 1) d_N_allows_34 (by decide) ?_
        refine gq_goto C (tgt := 39) d_N_allows_35 rfl ?_
        exact gq_zretE C hr (by decide) (by unfold f_al; simp [*]) rfl rfl (by decide) (by decide) d_N_allows_39
      · skip
        refine gq_iload_n C d_N_allows_23 rfl ?_
        refine gq_aload_n C d_N_allows_24 rfl ?_
        refine gq_get C (g := 11) (j := j) (ci := 4) (k := 3) (v := .int (V 11 j 3)) (qm (by decide) hj) rfl rfl in_N (by decide) w_119 rfl d_N_allows_25 ?_
        refine gq_isub C d_N_allows_28 ?_
        refine gq_bipush C (v := 63) d_N_allows_29 (by decide) ?_
        refine gq_icmp_lt C (tgt := 38) d_N_allows_31 rfl (fun hb31 => ?_) (fun hb31 => ?_)
        · skip
          refine gq_iconst C (v := 0) d_N_allows_38 (by decide) ?_
          exact gq_zretE C hr (by decide) (by unfold f_al; simp [*]) rfl rfl (by decide) (by decide) d_N_allows_39
        · skip
          refine gq_iconst C (v := 1) d_N_allows_34 (by decide) ?_
          refine gq_goto C (tgt := 39) d_N_allows_35 rfl ?_
          exact gq_zretE C hr (by decide) (by unfold f_al; simp [*]) rfl rfl (by decide) (by decide) d_N_allows_39

def f_copy (V : qV) (j : Nat) : qV := qu (qu (qu V 2 j (va_cpy (V 2 0) (V 2 j) 0 0 8)) 3 j (va_cpy (V 3 0) (V 3 j) 0 0 16)) 4 j (va_cpy (V 4 0) (V 4 j) 0 0 16)

set_option maxHeartbeats 4000000 in
set_option maxRecDepth 100000 in
theorem c_L_copyFrom (l : Launch) (Z : qZ) (hZ : qok (pX Z)) (V : qV) (Y : qY) (j : Nat) (hj : j < 10) : CT l y_L_copyFrom { frames := 1, cells := 0, slots := 0, locals := 60 } (pX Z) (qA (pX Z)) [.ref (al Z 1 j), .ref (al Z 1 0)] V Y (.inl none) (f_copy V j) Y := by
  refine CT.of (cc := b_L_copyFrom) (maxL := 2) (ret := none) hZ (by decide) w_358 (Nat.le_of_ble_eq_true rfl) ?_
  intro p e s m below meth c C hr hex hlt
  refine gq_aload_n C d_L_copyFrom_0 rfl ?_
  refine gq_get C (g := 1) (j := 0) (ci := 5) (k := 0) (v := .ref (al Z 2 0)) (qm (by decide) (by decide)) rfl rfl in_L (by decide) w_33 rfl d_L_copyFrom_1 ?_
  refine gq_iconst C (v := 0) d_L_copyFrom_4 (by decide) ?_
  refine gq_aload_n C d_L_copyFrom_5 rfl ?_
  refine gq_get C (g := 1) (j := j) (ci := 5) (k := 0) (v := .ref (al Z 2 j)) (qm (by decide) hj) rfl rfl in_L (by decide) w_33 rfl d_L_copyFrom_6 ?_
  refine gq_iconst C (v := 0) d_L_copyFrom_9 (by decide) ?_
  refine gq_bipush C (v := 8) d_L_copyFrom_10 (by decide) ?_
  refine gq_copyi C (fun _ h => h) (g0 := 2) (j0 := 0) (g1 := 2) (j1 := j) (t0 := 0) (sp := 0) (dp := 0) (n := 8) w_359 w_361 w_360 w_15 (qm (by decide) (by decide)) (qm (by decide) hj) rfl (fun _ => rfl) rfl rfl rfl rfl (by decide) (by decide) (by decide) (by decide) (by decide) (by decide) d_L_copyFrom_12 ?_
  refine gq_aload_n C d_L_copyFrom_15 rfl ?_
  refine gq_get C (g := 1) (j := 0) (ci := 5) (k := 1) (v := .ref (al Z 3 0)) (qm (by decide) (by decide)) rfl rfl in_L (by decide) w_35 rfl d_L_copyFrom_16 ?_
  refine gq_iconst C (v := 0) d_L_copyFrom_19 (by decide) ?_
  refine gq_aload_n C d_L_copyFrom_20 rfl ?_
  refine gq_get C (g := 1) (j := j) (ci := 5) (k := 1) (v := .ref (al Z 3 j)) (qm (by decide) hj) rfl rfl in_L (by decide) w_35 rfl d_L_copyFrom_21 ?_
  refine gq_iconst C (v := 0) d_L_copyFrom_24 (by decide) ?_
  refine gq_bipush C (v := 16) d_L_copyFrom_25 (by decide) ?_
  refine gq_copyi C (fun _ h => h) (g0 := 3) (j0 := 0) (g1 := 3) (j1 := j) (t0 := 0) (sp := 0) (dp := 0) (n := 16) w_359 w_361 w_360 w_15 (qm (by decide) (by decide)) (qm (by decide) hj) rfl (fun _ => rfl) rfl rfl rfl rfl (by decide) (by decide) (by decide) (by decide) (by decide) (by decide) d_L_copyFrom_27 ?_
  refine gq_aload_n C d_L_copyFrom_30 rfl ?_
  refine gq_get C (g := 1) (j := 0) (ci := 5) (k := 2) (v := .ref (al Z 4 0)) (qm (by decide) (by decide)) rfl rfl in_L (by decide) w_37 rfl d_L_copyFrom_31 ?_
  refine gq_iconst C (v := 0) d_L_copyFrom_34 (by decide) ?_
  refine gq_aload_n C d_L_copyFrom_35 rfl ?_
  refine gq_get C (g := 1) (j := j) (ci := 5) (k := 2) (v := .ref (al Z 4 j)) (qm (by decide) hj) rfl rfl in_L (by decide) w_37 rfl d_L_copyFrom_36 ?_
  refine gq_iconst C (v := 0) d_L_copyFrom_39 (by decide) ?_
  refine gq_bipush C (v := 16) d_L_copyFrom_40 (by decide) ?_
  refine gq_copyi C (fun _ h => h) (g0 := 4) (j0 := 0) (g1 := 4) (j1 := j) (t0 := 0) (sp := 0) (dp := 0) (n := 16) w_359 w_361 w_360 w_15 (qm (by decide) (by decide)) (qm (by decide) hj) rfl (fun _ => rfl) rfl rfl rfl rfl (by decide) (by decide) (by decide) (by decide) (by decide) (by decide) d_L_copyFrom_42 ?_
  exact gq_vretE C hr (by rfl) rfl (by decide) (by decide) d_L_copyFrom_45

set_option maxHeartbeats 4000000 in
set_option maxRecDepth 100000 in
theorem c_T_takeBook (l : Launch) (Z : qZ) (hZ : qok (pX Z)) (V : qV) (Y : qY) (j : Nat) (hj : j < 4) (b : Int32) : CT l y_T_takeBook { frames := 1, cells := 0, slots := 0, locals := 40 } (pX Z) (qA (pX Z)) [.ref (al Z 7 j), .int b] V Y (.inl none) (if b = V 7 j 1 + 1 then qv V 7 j 1 b else V) Y := by
  refine CT.of (cc := b_T_takeBook) (maxL := 2) (ret := none) hZ (by decide) w_512 (Nat.le_of_ble_eq_true rfl) ?_
  intro p e s m below meth c C hr hex hlt
  refine gq_iload_n C d_T_takeBook_0 rfl ?_
  refine gq_aload_n C d_T_takeBook_1 rfl ?_
  refine gq_get C (g := 7) (j := j) (ci := 6) (k := 1) (v := .int (V 7 j 1)) (qm (by decide) hj) rfl rfl in_T (by decide) w_71 rfl d_T_takeBook_2 ?_
  refine gq_iconst C (v := 1) d_T_takeBook_5 (by decide) ?_
  refine gq_iadd C d_T_takeBook_6 ?_
  refine gq_icmp_ne C (tgt := 15) d_T_takeBook_7 rfl (fun hb7 => ?_) (fun hb7 => ?_)
  · skip
    exact gq_vretE C hr (by simp [*]) rfl (by decide) (by decide) d_T_takeBook_15
  · skip
    refine gq_aload_n C d_T_takeBook_10 rfl ?_
    refine gq_iload_n C d_T_takeBook_11 rfl ?_
    refine gq_put C (fun _ h => h) (g := 7) (j := j) (ci := 6) (k := 1) ft_T k_T n_T (qm (by decide) hj) rfl rfl in_T (by decide) w_71 rfl (k_T 1 (by decide)) rfl rfl (Nat.le_of_ble_eq_true rfl) rfl d_T_takeBook_12 ?_
    exact gq_vretE C hr (by simp [*]) rfl (by decide) (by decide) d_T_takeBook_15

set_option maxHeartbeats 4000000 in
set_option maxRecDepth 100000 in
theorem c_T_endAsking (l : Launch) (Z : qZ) (hZ : qok (pX Z)) (V : qV) (Y : qY) (j : Nat) (hj : j < 4) : CT l y_T_endAsking { frames := 1, cells := 0, slots := 0, locals := 40 } (pX Z) (qA (pX Z)) [.ref (al Z 7 j)] V Y (.inl none) (qv (qv V 7 j 5 1) 7 j 6 0) Y := by
  refine CT.of (cc := b_T_endAsking) (maxL := 1) (ret := none) hZ (by decide) w_458 (Nat.le_of_ble_eq_true rfl) ?_
  intro p e s m below meth c C hr hex hlt
  refine gq_aload_n C d_T_endAsking_0 rfl ?_
  refine gq_iconst C (v := 1) d_T_endAsking_1 (by decide) ?_
  refine gq_put C (fun _ h => h) (g := 7) (j := j) (ci := 6) (k := 5) ft_T k_T n_T (qm (by decide) hj) rfl rfl in_T (by decide) w_78 rfl (k_T 5 (by decide)) rfl rfl (Nat.le_of_ble_eq_true rfl) rfl d_T_endAsking_2 ?_
  refine gq_aload_n C d_T_endAsking_5 rfl ?_
  refine gq_iconst C (v := 0) d_T_endAsking_6 (by decide) ?_
  refine gq_put C (fun _ h => h) (g := 7) (j := j) (ci := 6) (k := 6) ft_T k_T n_T (qm (by decide) hj) rfl rfl in_T (by decide) w_80 rfl (k_T 6 (by decide)) rfl rfl (Nat.le_of_ble_eq_true rfl) rfl d_T_endAsking_7 ?_
  exact gq_vret C hr (by decide) (by decide) d_T_endAsking_10

set_option maxHeartbeats 4000000 in
set_option maxRecDepth 100000 in
theorem c_T_takeGrant (l : Launch) (Z : qZ) (hZ : qok (pX Z)) (V : qV) (Y : qY) (j : Nat) (hj : j < 4) (a b : Int32) : CT l y_T_takeGrant { frames := 1, cells := 0, slots := 0, locals := 40 } (pX Z) (qA (pX Z)) [.ref (al Z 7 j), .int a, .int b] V Y (.inl none) (if a = V 7 j 3 ∧ V 7 j 5 = 0 then qv V 7 j 6 b else V) Y := by
  refine CT.of (cc := b_T_takeGrant) (maxL := 3) (ret := none) hZ (by decide) w_516 (Nat.le_of_ble_eq_true rfl) ?_
  intro p e s m below meth c C hr hex hlt
  refine gq_iload_n C d_T_takeGrant_0 rfl ?_
  refine gq_aload_n C d_T_takeGrant_1 rfl ?_
  refine gq_get C (g := 7) (j := j) (ci := 6) (k := 3) (v := .int (V 7 j 3)) (qm (by decide) hj) rfl rfl in_T (by decide) w_75 rfl d_T_takeGrant_2 ?_
  refine gq_icmp_ne C (tgt := 20) d_T_takeGrant_5 rfl (fun hb5 => ?_) (fun hb5 => ?_)
  · skip
    exact gq_vretE C hr (by simp [*]) rfl (by decide) (by decide) d_T_takeGrant_20
  · skip
    refine gq_aload_n C d_T_takeGrant_8 rfl ?_
    refine gq_get C (g := 7) (j := j) (ci := 6) (k := 5) (v := .int (V 7 j 5)) (qm (by decide) hj) rfl rfl in_T (by decide) w_78 rfl d_T_takeGrant_9 ?_
    refine gq_if_ne C (tgt := 20) d_T_takeGrant_12 rfl (fun hb12 => ?_) (fun hb12 => ?_)
    · skip
      exact gq_vretE C hr (by simp [*]) rfl (by decide) (by decide) d_T_takeGrant_20
    · skip
      refine gq_aload_n C d_T_takeGrant_15 rfl ?_
      refine gq_iload_n C d_T_takeGrant_16 rfl ?_
      refine gq_put C (fun _ h => h) (g := 7) (j := j) (ci := 6) (k := 6) ft_T k_T n_T (qm (by decide) hj) rfl rfl in_T (by decide) w_80 rfl (k_T 6 (by decide)) rfl rfl (Nat.le_of_ble_eq_true rfl) rfl d_T_takeGrant_17 ?_
      exact gq_vretE C hr (by simp [*]) rfl (by decide) (by decide) d_T_takeGrant_20

set_option maxHeartbeats 4000000 in
set_option maxRecDepth 100000 in
theorem c_T_beginAsking (l : Launch) (Z : qZ) (hZ : qok (pX Z)) (V : qV) (Y : qY) (j : Nat) (hj : j < 4) : CT l y_T_beginAsking { frames := 2, cells := 0, slots := 0, locals := 60 } (pX Z) (qA (pX Z)) [.ref (al Z 7 j)] V Y (.inl (some (.int ((V 7 j 3) + 1)))) (qv (qv (qv (qv V 7 j 3 ((V 7 j 3) + 1)) 7 j 4 (V 8 j 0 / 100)) 7 j 5 0) 7 j 6 0) Y := by
  refine CT.of (cc := b_T_beginAsking) (maxL := 1) (ret := (some .int)) hZ (by decide) w_446 (Nat.le_of_ble_eq_true rfl) ?_
  intro p e s m below meth c C hr hex hlt
  refine gq_aload_n C d_T_beginAsking_0 rfl ?_
  refine gq_dup C d_T_beginAsking_1 rfl ?_
  refine gq_get C (g := 7) (j := j) (ci := 6) (k := 3) (v := .int (V 7 j 3)) (qm (by decide) hj) rfl rfl in_T (by decide) w_75 rfl d_T_beginAsking_2 ?_
  refine gq_iconst C (v := 1) d_T_beginAsking_5 (by decide) ?_
  refine gq_iadd C d_T_beginAsking_6 ?_
  refine gq_put C (fun _ h => h) (g := 7) (j := j) (ci := 6) (k := 3) ft_T k_T n_T (qm (by decide) hj) rfl rfl in_T (by decide) w_75 rfl (k_T 3 (by decide)) rfl rfl (Nat.le_of_ble_eq_true rfl) rfl d_T_beginAsking_7 ?_
  refine gq_aload_n C d_T_beginAsking_10 rfl ?_
  refine gq_aload_n C d_T_beginAsking_11 rfl ?_
  refine gq_get C (g := 7) (j := j) (ci := 6) (k := 0) (v := .ref (al Z 8 j)) (qm (by decide) hj) rfl rfl in_T (by decide) w_69 rfl d_T_beginAsking_12 ?_
  refine gq_callV C (st := [.ref (al Z 7 j)]) (fun _ h => h.elim) (c_C_shown l Z hZ _ Y j (Nat.lt_trans hj (by decide))) (qm (by decide) (Nat.lt_trans hj (by decide))) rfl rfl w_447 w_390 w_391 w_392 w_4 ⟨by decide, by decide, (by decide +kernel : (parseMethodDescriptor y_C_shown.desc).map (fun d => d.parameters.length) = some 0)⟩ ⟨by decide, by decide⟩ ⟨by decide, by decide⟩ rfl (Nat.le_of_ble_eq_true rfl) d_T_beginAsking_15 ?_
  refine G.eqS (st' := [.int (V 8 j 0 / 100), .ref (al Z 7 j)]) rfl ?_
  refine gq_put C (fun _ h => h) (g := 7) (j := j) (ci := 6) (k := 4) ft_T k_T n_T (qm (by decide) hj) rfl rfl in_T (by decide) w_77 rfl (k_T 4 (by decide)) rfl rfl (Nat.le_of_ble_eq_true rfl) rfl d_T_beginAsking_18 ?_
  refine gq_aload_n C d_T_beginAsking_21 rfl ?_
  refine gq_iconst C (v := 0) d_T_beginAsking_22 (by decide) ?_
  refine gq_put C (fun _ h => h) (g := 7) (j := j) (ci := 6) (k := 5) ft_T k_T n_T (qm (by decide) hj) rfl rfl in_T (by decide) w_78 rfl (k_T 5 (by decide)) rfl rfl (Nat.le_of_ble_eq_true rfl) rfl d_T_beginAsking_23 ?_
  refine gq_aload_n C d_T_beginAsking_26 rfl ?_
  refine gq_iconst C (v := 0) d_T_beginAsking_27 (by decide) ?_
  refine gq_put C (fun _ h => h) (g := 7) (j := j) (ci := 6) (k := 6) ft_T k_T n_T (qm (by decide) hj) rfl rfl in_T (by decide) w_80 rfl (k_T 6 (by decide)) rfl rfl (Nat.le_of_ble_eq_true rfl) rfl d_T_beginAsking_28 ?_
  refine gq_aload_n C d_T_beginAsking_31 rfl ?_
  refine gq_get C (g := 7) (j := j) (ci := 6) (k := 3) (v := .int ((V 7 j 3) + 1)) (qm (by decide) hj) rfl rfl in_T (by decide) w_75 (by simp [qv_at]) d_T_beginAsking_32 ?_
  exact gq_iret C hr (by decide) (by decide) d_T_beginAsking_35

def f_lease (V : qV) (j : Nat) : Int32 := if ¬ 60 ≤ V 8 j 0 / 100 - V 7 j 4 ∧ ¬ V 7 j 1 < V 7 j 6 ∧ V 7 j 2 ≤ V 7 j 6 then V 7 j 6 else 0

set_option maxHeartbeats 4000000 in
set_option maxRecDepth 100000 in
theorem c_T_validLease (l : Launch) (Z : qZ) (hZ : qok (pX Z)) (V : qV) (Y : qY) (j : Nat) (hj : j < 4) : CT l y_T_validLease { frames := 2, cells := 0, slots := 0, locals := 60 } (pX Z) qN [.ref (al Z 7 j)] V Y (.inl (some (.int (f_lease V j)))) V Y := by
  refine CT.of (cc := b_T_validLease) (maxL := 4) (ret := (some .int)) hZ (by decide) w_469 (Nat.le_of_ble_eq_true rfl) ?_
  intro p e s m below meth c C hr hex hlt
  refine gq_aload_n C d_T_validLease_0 rfl ?_
  refine gq_get C (g := 7) (j := j) (ci := 6) (k := 0) (v := .ref (al Z 8 j)) (qm (by decide) hj) rfl rfl in_T (by decide) w_69 rfl d_T_validLease_1 ?_
  refine gq_callV C (st := []) (fun _ h => h) (c_C_shown l Z hZ V Y j (Nat.lt_trans hj (by decide))) (qm (by decide) (Nat.lt_trans hj (by decide))) rfl rfl w_447 w_390 w_391 w_392 w_4 ⟨by decide, by decide, (by decide +kernel : (parseMethodDescriptor y_C_shown.desc).map (fun d => d.parameters.length) = some 0)⟩ ⟨by decide, by decide⟩ ⟨by decide, by decide⟩ rfl (Nat.le_of_ble_eq_true rfl) d_T_validLease_4 ?_
  refine gq_aload_n C d_T_validLease_7 rfl ?_
  refine gq_get C (g := 7) (j := j) (ci := 6) (k := 4) (v := .int (V 7 j 4)) (qm (by decide) hj) rfl rfl in_T (by decide) w_77 rfl d_T_validLease_8 ?_
  refine gq_isub C d_T_validLease_11 ?_
  refine gq_bipush C (v := 60) d_T_validLease_12 (by decide) ?_
  refine gq_icmp_ge C (tgt := 21) d_T_validLease_14 rfl (fun hb14 => ?_) (fun hb14 => ?_)
  · skip
    refine gq_iconst C (v := 0) d_T_validLease_21 (by decide) ?_
    refine gq_istore_n C (lo' := [(1, .int 0), (0, .ref (al Z 7 j))]) d_T_validLease_22 rfl (by decide) rfl ?_
    refine gq_aload_n C d_T_validLease_23 rfl ?_
    refine gq_get C (g := 7) (j := j) (ci := 6) (k := 6) (v := .int (V 7 j 6)) (qm (by decide) hj) rfl rfl in_T (by decide) w_80 rfl d_T_validLease_24 ?_
    refine gq_aload_n C d_T_validLease_27 rfl ?_
    refine gq_get C (g := 7) (j := j) (ci := 6) (k := 1) (v := .int (V 7 j 1)) (qm (by decide) hj) rfl rfl in_T (by decide) w_71 rfl d_T_validLease_28 ?_
    refine gq_icmp_gt C (tgt := 38) d_T_validLease_31 rfl (fun hb31 => ?_) (fun hb31 => ?_)
    · skip
      refine gq_iconst C (v := 0) d_T_validLease_38 (by decide) ?_
      refine gq_istore_n C (lo' := [(2, .int 0), (1, .int 0), (0, .ref (al Z 7 j))]) d_T_validLease_39 rfl (by decide) rfl ?_
      refine gq_aload_n C d_T_validLease_40 rfl ?_
      refine gq_get C (g := 7) (j := j) (ci := 6) (k := 2) (v := .int (V 7 j 2)) (qm (by decide) hj) rfl rfl in_T (by decide) w_73 rfl d_T_validLease_41 ?_
      refine gq_aload_n C d_T_validLease_44 rfl ?_
      refine gq_get C (g := 7) (j := j) (ci := 6) (k := 6) (v := .int (V 7 j 6)) (qm (by decide) hj) rfl rfl in_T (by decide) w_80 rfl d_T_validLease_45 ?_
      refine gq_icmp_le C (tgt := 55) d_T_validLease_48 rfl (fun hb48 => ?_) (fun hb48 => ?_)
      · skip
        refine gq_iconst C (v := 0) d_T_validLease_55 (by decide) ?_
        refine gq_istore_n C (lo' := [(3, .int 0), (2, .int 0), (1, .int 0), (0, .ref (al Z 7 j))]) d_T_validLease_56 rfl (by decide) rfl ?_
        refine gq_iload_n C d_T_validLease_57 rfl ?_
        refine gq_if_eq C (tgt := 76) d_T_validLease_58 rfl (fun hb58 => ?_) (fun hb => by first | contradiction | exact absurd hb (by decide))
        refine gq_iconst C (v := 0) d_T_validLease_76 (by decide) ?_
        exact gq_iretE C hr (by unfold f_lease; first | (rw [if_pos ⟨by assumption, by assumption, by assumption⟩]) | (rw [if_neg (by rintro ⟨h1, h2, h3⟩; contradiction)])) rfl rfl (by decide) (by decide) d_T_validLease_77
      · skip
        refine gq_iconst C (v := 1) d_T_validLease_51 (by decide) ?_
        refine gq_goto C (tgt := 56) d_T_validLease_52 rfl ?_
        refine gq_istore_n C (lo' := [(3, .int 1), (2, .int 0), (1, .int 0), (0, .ref (al Z 7 j))]) d_T_validLease_56 rfl (by decide) rfl ?_
        refine gq_iload_n C d_T_validLease_57 rfl ?_
        refine gq_if_eq C (tgt := 76) d_T_validLease_58 rfl (fun hb58 => ?_) (fun hb => by first | contradiction | exact absurd hb (by decide))
        refine gq_iconst C (v := 0) d_T_validLease_76 (by decide) ?_
        exact gq_iretE C hr (by unfold f_lease; first | (rw [if_pos ⟨by assumption, by assumption, by assumption⟩]) | (rw [if_neg (by rintro ⟨h1, h2, h3⟩; contradiction)])) rfl rfl (by decide) (by decide) d_T_validLease_77
    · skip
      refine gq_iconst C (v := 1) d_T_validLease_34 (by decide) ?_
      refine gq_goto C (tgt := 39) d_T_validLease_35 rfl ?_
      refine gq_istore_n C (lo' := [(2, .int 1), (1, .int 0), (0, .ref (al Z 7 j))]) d_T_validLease_39 rfl (by decide) rfl ?_
      refine gq_aload_n C d_T_validLease_40 rfl ?_
      refine gq_get C (g := 7) (j := j) (ci := 6) (k := 2) (v := .int (V 7 j 2)) (qm (by decide) hj) rfl rfl in_T (by decide) w_73 rfl d_T_validLease_41 ?_
      refine gq_aload_n C d_T_validLease_44 rfl ?_
      refine gq_get C (g := 7) (j := j) (ci := 6) (k := 6) (v := .int (V 7 j 6)) (qm (by decide) hj) rfl rfl in_T (by decide) w_80 rfl d_T_validLease_45 ?_
      refine gq_icmp_le C (tgt := 55) d_T_validLease_48 rfl (fun hb48 => ?_) (fun hb48 => ?_)
      · skip
        refine gq_iconst C (v := 0) d_T_validLease_55 (by decide) ?_
        refine gq_istore_n C (lo' := [(3, .int 0), (2, .int 1), (1, .int 0), (0, .ref (al Z 7 j))]) d_T_validLease_56 rfl (by decide) rfl ?_
        refine gq_iload_n C d_T_validLease_57 rfl ?_
        refine gq_if_eq C (tgt := 76) d_T_validLease_58 rfl (fun hb58 => ?_) (fun hb => by first | contradiction | exact absurd hb (by decide))
        refine gq_iconst C (v := 0) d_T_validLease_76 (by decide) ?_
        exact gq_iretE C hr (by unfold f_lease; first | (rw [if_pos ⟨by assumption, by assumption, by assumption⟩]) | (rw [if_neg (by rintro ⟨h1, h2, h3⟩; contradiction)])) rfl rfl (by decide) (by decide) d_T_validLease_77
      · skip
        refine gq_iconst C (v := 1) d_T_validLease_51 (by decide) ?_
        refine gq_goto C (tgt := 56) d_T_validLease_52 rfl ?_
        refine gq_istore_n C (lo' := [(3, .int 1), (2, .int 1), (1, .int 0), (0, .ref (al Z 7 j))]) d_T_validLease_56 rfl (by decide) rfl ?_
        refine gq_iload_n C d_T_validLease_57 rfl ?_
        refine gq_if_eq C (tgt := 76) d_T_validLease_58 rfl (fun hb58 => ?_) (fun hb => by first | contradiction | exact absurd hb (by decide))
        refine gq_iconst C (v := 0) d_T_validLease_76 (by decide) ?_
        exact gq_iretE C hr (by unfold f_lease; first | (rw [if_pos ⟨by assumption, by assumption, by assumption⟩]) | (rw [if_neg (by rintro ⟨h1, h2, h3⟩; contradiction)])) rfl rfl (by decide) (by decide) d_T_validLease_77
  · skip
    refine gq_iconst C (v := 1) d_T_validLease_17 (by decide) ?_
    refine gq_goto C (tgt := 22) d_T_validLease_18 rfl ?_
    refine gq_istore_n C (lo' := [(1, .int 1), (0, .ref (al Z 7 j))]) d_T_validLease_22 rfl (by decide) rfl ?_
    refine gq_aload_n C d_T_validLease_23 rfl ?_
    refine gq_get C (g := 7) (j := j) (ci := 6) (k := 6) (v := .int (V 7 j 6)) (qm (by decide) hj) rfl rfl in_T (by decide) w_80 rfl d_T_validLease_24 ?_
    refine gq_aload_n C d_T_validLease_27 rfl ?_
    refine gq_get C (g := 7) (j := j) (ci := 6) (k := 1) (v := .int (V 7 j 1)) (qm (by decide) hj) rfl rfl in_T (by decide) w_71 rfl d_T_validLease_28 ?_
    refine gq_icmp_gt C (tgt := 38) d_T_validLease_31 rfl (fun hb31 => ?_) (fun hb31 => ?_)
    · skip
      refine gq_iconst C (v := 0) d_T_validLease_38 (by decide) ?_
      refine gq_istore_n C (lo' := [(2, .int 0), (1, .int 1), (0, .ref (al Z 7 j))]) d_T_validLease_39 rfl (by decide) rfl ?_
      refine gq_aload_n C d_T_validLease_40 rfl ?_
      refine gq_get C (g := 7) (j := j) (ci := 6) (k := 2) (v := .int (V 7 j 2)) (qm (by decide) hj) rfl rfl in_T (by decide) w_73 rfl d_T_validLease_41 ?_
      refine gq_aload_n C d_T_validLease_44 rfl ?_
      refine gq_get C (g := 7) (j := j) (ci := 6) (k := 6) (v := .int (V 7 j 6)) (qm (by decide) hj) rfl rfl in_T (by decide) w_80 rfl d_T_validLease_45 ?_
      refine gq_icmp_le C (tgt := 55) d_T_validLease_48 rfl (fun hb48 => ?_) (fun hb48 => ?_)
      · skip
        refine gq_iconst C (v := 0) d_T_validLease_55 (by decide) ?_
        refine gq_istore_n C (lo' := [(3, .int 0), (2, .int 0), (1, .int 1), (0, .ref (al Z 7 j))]) d_T_validLease_56 rfl (by decide) rfl ?_
        refine gq_iload_n C d_T_validLease_57 rfl ?_
        refine gq_if_eq C (tgt := 76) d_T_validLease_58 rfl (fun hb => by first | contradiction | exact absurd hb (by decide)) (fun hb58 => ?_)
        refine gq_iload_n C d_T_validLease_61 rfl ?_
        refine gq_if_eq C (tgt := 76) d_T_validLease_62 rfl (fun hb62 => ?_) (fun hb => by first | contradiction | exact absurd hb (by decide))
        refine gq_iconst C (v := 0) d_T_validLease_76 (by decide) ?_
        exact gq_iretE C hr (by unfold f_lease; first | (rw [if_pos ⟨by assumption, by assumption, by assumption⟩]) | (rw [if_neg (by rintro ⟨h1, h2, h3⟩; contradiction)])) rfl rfl (by decide) (by decide) d_T_validLease_77
      · skip
        refine gq_iconst C (v := 1) d_T_validLease_51 (by decide) ?_
        refine gq_goto C (tgt := 56) d_T_validLease_52 rfl ?_
        refine gq_istore_n C (lo' := [(3, .int 1), (2, .int 0), (1, .int 1), (0, .ref (al Z 7 j))]) d_T_validLease_56 rfl (by decide) rfl ?_
        refine gq_iload_n C d_T_validLease_57 rfl ?_
        refine gq_if_eq C (tgt := 76) d_T_validLease_58 rfl (fun hb => by first | contradiction | exact absurd hb (by decide)) (fun hb58 => ?_)
        refine gq_iload_n C d_T_validLease_61 rfl ?_
        refine gq_if_eq C (tgt := 76) d_T_validLease_62 rfl (fun hb62 => ?_) (fun hb => by first | contradiction | exact absurd hb (by decide))
        refine gq_iconst C (v := 0) d_T_validLease_76 (by decide) ?_
        exact gq_iretE C hr (by unfold f_lease; first | (rw [if_pos ⟨by assumption, by assumption, by assumption⟩]) | (rw [if_neg (by rintro ⟨h1, h2, h3⟩; contradiction)])) rfl rfl (by decide) (by decide) d_T_validLease_77
    · skip
      refine gq_iconst C (v := 1) d_T_validLease_34 (by decide) ?_
      refine gq_goto C (tgt := 39) d_T_validLease_35 rfl ?_
      refine gq_istore_n C (lo' := [(2, .int 1), (1, .int 1), (0, .ref (al Z 7 j))]) d_T_validLease_39 rfl (by decide) rfl ?_
      refine gq_aload_n C d_T_validLease_40 rfl ?_
      refine gq_get C (g := 7) (j := j) (ci := 6) (k := 2) (v := .int (V 7 j 2)) (qm (by decide) hj) rfl rfl in_T (by decide) w_73 rfl d_T_validLease_41 ?_
      refine gq_aload_n C d_T_validLease_44 rfl ?_
      refine gq_get C (g := 7) (j := j) (ci := 6) (k := 6) (v := .int (V 7 j 6)) (qm (by decide) hj) rfl rfl in_T (by decide) w_80 rfl d_T_validLease_45 ?_
      refine gq_icmp_le C (tgt := 55) d_T_validLease_48 rfl (fun hb48 => ?_) (fun hb48 => ?_)
      · skip
        refine gq_iconst C (v := 0) d_T_validLease_55 (by decide) ?_
        refine gq_istore_n C (lo' := [(3, .int 0), (2, .int 1), (1, .int 1), (0, .ref (al Z 7 j))]) d_T_validLease_56 rfl (by decide) rfl ?_
        refine gq_iload_n C d_T_validLease_57 rfl ?_
        refine gq_if_eq C (tgt := 76) d_T_validLease_58 rfl (fun hb => by first | contradiction | exact absurd hb (by decide)) (fun hb58 => ?_)
        refine gq_iload_n C d_T_validLease_61 rfl ?_
        refine gq_if_eq C (tgt := 76) d_T_validLease_62 rfl (fun hb => by first | contradiction | exact absurd hb (by decide)) (fun hb62 => ?_)
        refine gq_iload_n C d_T_validLease_65 rfl ?_
        refine gq_if_ne C (tgt := 76) d_T_validLease_66 rfl (fun hb => by first | contradiction | exact absurd hb (by decide)) (fun hb66 => ?_)
        refine gq_aload_n C d_T_validLease_69 rfl ?_
        refine gq_get C (g := 7) (j := j) (ci := 6) (k := 6) (v := .int (V 7 j 6)) (qm (by decide) hj) rfl rfl in_T (by decide) w_80 rfl d_T_validLease_70 ?_
        refine gq_goto C (tgt := 77) d_T_validLease_73 rfl ?_
        exact gq_iretE C hr (by unfold f_lease; first | (rw [if_pos ⟨by assumption, by assumption, by assumption⟩]) | (rw [if_neg (by rintro ⟨h1, h2, h3⟩; contradiction)])) rfl rfl (by decide) (by decide) d_T_validLease_77
      · skip
        refine gq_iconst C (v := 1) d_T_validLease_51 (by decide) ?_
        refine gq_goto C (tgt := 56) d_T_validLease_52 rfl ?_
        refine gq_istore_n C (lo' := [(3, .int 1), (2, .int 1), (1, .int 1), (0, .ref (al Z 7 j))]) d_T_validLease_56 rfl (by decide) rfl ?_
        refine gq_iload_n C d_T_validLease_57 rfl ?_
        refine gq_if_eq C (tgt := 76) d_T_validLease_58 rfl (fun hb => by first | contradiction | exact absurd hb (by decide)) (fun hb58 => ?_)
        refine gq_iload_n C d_T_validLease_61 rfl ?_
        refine gq_if_eq C (tgt := 76) d_T_validLease_62 rfl (fun hb => by first | contradiction | exact absurd hb (by decide)) (fun hb62 => ?_)
        refine gq_iload_n C d_T_validLease_65 rfl ?_
        refine gq_if_ne C (tgt := 76) d_T_validLease_66 rfl (fun hb66 => ?_) (fun hb => by first | contradiction | exact absurd hb (by decide))
        refine gq_iconst C (v := 0) d_T_validLease_76 (by decide) ?_
        exact gq_iretE C hr (by unfold f_lease; first | (rw [if_pos ⟨by assumption, by assumption, by assumption⟩]) | (rw [if_neg (by rintro ⟨h1, h2, h3⟩; contradiction)])) rfl rfl (by decide) (by decide) d_T_validLease_77
end
section
/-! the row's post, whatever the row holds; the desk -/
def f_put (V : qV) (k t b a : Int32) : qV := if V 12 0 4 < 40 then f_post V (V 12 0 4).toNatClampNeg k t b a else V
theorem f_put_fr (V : qV) (k t b a : Int32) (g : Nat) (h : g ≠ 12 ∧ g ≠ 13) : f_put V k t b a g = V g := by
  funext j i
  unfold f_put f_post
  split
  · simp [qv_at, h.1, h.2]
  · rfl
theorem f_put_cnt {V : qV} (k t b a : Int32) (h : ∃ n, n ≤ 40 ∧ V 12 0 4 = nI n) : ∃ n, n ≤ 40 ∧ f_put V k t b a 12 0 4 = nI n := by
  obtain ⟨n, hn, h4⟩ := h
  by_cases hl : n < 40
  · refine ⟨n + 1, hl, ?_⟩
    unfold f_put f_post
    rw [if_pos (by rw [h4]; exact nI_lt hl (by decide)), h4, nI_clamp (by omega)]
    simp [qv_at]
  · refine ⟨n, hn, ?_⟩
    unfold f_put
    rw [if_neg (by rw [h4]; exact nI_nlt (b := 40) (by omega) (by omega))]
    exact h4
theorem c_R_put (l : Launch) (Z : qZ) (hZ : qok (pX Z)) (V : qV) (Y : qY) (h : ∃ n, n ≤ 40 ∧ V 12 0 4 = nI n) (k t b a : Int32) : CT l y_R_post { frames := 2, cells := 0, slots := 0, locals := 60 } (pX Z) (qA (pX Z)) [.ref (al Z 12 0), .int k, .int t, .int b, .int a] V Y (.inl none) (f_put V k t b a) Y := by
  obtain ⟨n, hn, h4⟩ := h
  by_cases hl : n < 40
  · have e : f_put V k t b a = f_post V n k t b a := by
      unfold f_put
      rw [if_pos (by rw [h4]; exact nI_lt hl (by decide)), h4, nI_clamp (by omega)]
    rw [e]
    exact c_R_post l Z hZ V Y n hl h4 k t b a
  · have hf : ¬ V 12 0 4 < 40 := by rw [h4]; exact nI_nlt (b := 40) (by omega) (by omega)
    have e : f_put V k t b a = V := by
      unfold f_put
      rw [if_neg hf]
    rw [e]
    exact c_R_post_full l Z hZ V Y hf k t b a
def f_waits (V : qV) : Int32 := if V 9 0 4 ≤ V 8 4 0 / 100 then 0 else 1
def f_bookFor (V : qV) (t : Nat) : Int32 := if V 9 0 3 = 0 then V 9 0 2 else if V 11 t 0 < V 9 0 3 then 0 else V 9 0 3
def f_look (V : qV) : qV := if V 9 0 3 = 0 then V else if f_waits V = 0 then (if f_al V 0 (V 9 0 3) (V 8 4 0 / 100) = 0 then V else if f_al V 1 (V 9 0 3) (V 8 4 0 / 100) = 0 then V else if f_al V 2 (V 9 0 3) (V 8 4 0 / 100) = 0 then V else if f_al V 3 (V 9 0 3) (V 8 4 0 / 100) = 0 then V else qv (qv V 9 0 2 (V 9 0 3)) 9 0 3 0) else V
def f_grantB (V : qV) (t : Nat) (a : Int32) : Int32 := if f_waits V = 0 then (if V 11 t 1 ≤ a then f_bookFor V t else 0) else 0
def f_grant (V : qV) (t : Nat) (a : Int32) : qV := if f_grantB V t a = 0 then V else qv (qv (qv (qv V 11 t 1 a) 11 t 2 (f_grantB V t a)) 11 t 3 (V 8 4 0 / 100)) 11 t 4 1
def f_forget (V : qV) (t : Nat) : qV := qv (qv (qv (qv (qv V 11 t 0 0) 11 t 1 0) 11 t 2 0) 11 t 3 0) 11 t 4 0

theorem d_D_waits_0 : decode b_D_waits 0 = .ok (.aload_n 0, 1) := by decide +kernel
theorem d_D_waits_1 : decode b_D_waits 1 = .ok (.getfield 12, 3) := by decide +kernel
theorem d_D_waits_4 : decode b_D_waits 4 = .ok (.invokevirtual 25, 3) := by decide +kernel
theorem d_D_waits_7 : decode b_D_waits 7 = .ok (.aload_n 0, 1) := by decide +kernel
theorem d_D_waits_8 : decode b_D_waits 8 = .ok (.getfield 29, 3) := by decide +kernel
theorem d_D_waits_11 : decode b_D_waits 11 = .ok (.if_icmp .ge 7, 3) := by decide +kernel
theorem d_D_waits_14 : decode b_D_waits 14 = .ok (.iconst 1, 1) := by decide +kernel
theorem d_D_waits_15 : decode b_D_waits 15 = .ok (.goto 4, 3) := by decide +kernel
theorem d_D_waits_18 : decode b_D_waits 18 = .ok (.iconst 0, 1) := by decide +kernel
theorem d_D_waits_19 : decode b_D_waits 19 = .ok (.ireturn, 1) := by decide +kernel

theorem d_D_forgetAndWait_0 : decode b_D_forgetAndWait 0 = .ok (.iconst 0, 1) := by decide +kernel
theorem d_D_forgetAndWait_1 : decode b_D_forgetAndWait 1 = .ok (.istore_n 1, 1) := by decide +kernel
theorem d_D_forgetAndWait_2 : decode b_D_forgetAndWait 2 = .ok (.iload_n 1, 1) := by decide +kernel
theorem d_D_forgetAndWait_3 : decode b_D_forgetAndWait 3 = .ok (.iconst 4, 1) := by decide +kernel
theorem d_D_forgetAndWait_4 : decode b_D_forgetAndWait 4 = .ok (.if_icmp .ge 18, 3) := by decide +kernel
theorem d_D_forgetAndWait_7 : decode b_D_forgetAndWait 7 = .ok (.aload_n 0, 1) := by decide +kernel
theorem d_D_forgetAndWait_8 : decode b_D_forgetAndWait 8 = .ok (.getfield 20, 3) := by decide +kernel
theorem d_D_forgetAndWait_11 : decode b_D_forgetAndWait 11 = .ok (.iload_n 1, 1) := by decide +kernel
theorem d_D_forgetAndWait_12 : decode b_D_forgetAndWait 12 = .ok (.aaload, 1) := by decide +kernel
theorem d_D_forgetAndWait_13 : decode b_D_forgetAndWait 13 = .ok (.invokevirtual 33, 3) := by decide +kernel
theorem d_D_forgetAndWait_16 : decode b_D_forgetAndWait 16 = .ok (.iinc 1 1, 3) := by decide +kernel
theorem d_D_forgetAndWait_19 : decode b_D_forgetAndWait 19 = .ok (.goto (-17), 3) := by decide +kernel
theorem d_D_forgetAndWait_22 : decode b_D_forgetAndWait 22 = .ok (.aload_n 0, 1) := by decide +kernel
theorem d_D_forgetAndWait_23 : decode b_D_forgetAndWait 23 = .ok (.aload_n 0, 1) := by decide +kernel
theorem d_D_forgetAndWait_24 : decode b_D_forgetAndWait 24 = .ok (.getfield 12, 3) := by decide +kernel
theorem d_D_forgetAndWait_27 : decode b_D_forgetAndWait 27 = .ok (.invokevirtual 25, 3) := by decide +kernel
theorem d_D_forgetAndWait_30 : decode b_D_forgetAndWait 30 = .ok (.bipush 63, 2) := by decide +kernel
theorem d_D_forgetAndWait_32 : decode b_D_forgetAndWait 32 = .ok (.iadd, 1) := by decide +kernel
theorem d_D_forgetAndWait_33 : decode b_D_forgetAndWait 33 = .ok (.putfield 29, 3) := by decide +kernel
theorem d_D_forgetAndWait_36 : decode b_D_forgetAndWait 36 = .ok (.return_, 1) := by decide +kernel

theorem d_D_grant_0 : decode b_D_grant 0 = .ok (.aload_n 0, 1) := by decide +kernel
theorem d_D_grant_1 : decode b_D_grant 1 = .ok (.getfield 20, 3) := by decide +kernel
theorem d_D_grant_4 : decode b_D_grant 4 = .ok (.iload_n 1, 1) := by decide +kernel
theorem d_D_grant_5 : decode b_D_grant 5 = .ok (.aaload, 1) := by decide +kernel
theorem d_D_grant_6 : decode b_D_grant 6 = .ok (.astore_n 3, 1) := by decide +kernel
theorem d_D_grant_7 : decode b_D_grant 7 = .ok (.aload_n 0, 1) := by decide +kernel
theorem d_D_grant_8 : decode b_D_grant 8 = .ok (.invokevirtual 36, 3) := by decide +kernel
theorem d_D_grant_11 : decode b_D_grant 11 = .ok (.ifCond .ne 11, 3) := by decide +kernel
theorem d_D_grant_14 : decode b_D_grant 14 = .ok (.iload_n 2, 1) := by decide +kernel
theorem d_D_grant_15 : decode b_D_grant 15 = .ok (.aload_n 3, 1) := by decide +kernel
theorem d_D_grant_16 : decode b_D_grant 16 = .ok (.getfield 40, 3) := by decide +kernel
theorem d_D_grant_19 : decode b_D_grant 19 = .ok (.if_icmp .ge 5, 3) := by decide +kernel
theorem d_D_grant_22 : decode b_D_grant 22 = .ok (.iconst 0, 1) := by decide +kernel
theorem d_D_grant_23 : decode b_D_grant 23 = .ok (.ireturn, 1) := by decide +kernel
theorem d_D_grant_24 : decode b_D_grant 24 = .ok (.aload_n 0, 1) := by decide +kernel
theorem d_D_grant_25 : decode b_D_grant 25 = .ok (.aload_n 3, 1) := by decide +kernel
theorem d_D_grant_26 : decode b_D_grant 26 = .ok (.invokevirtual 43, 3) := by decide +kernel
theorem d_D_grant_29 : decode b_D_grant 29 = .ok (.istore 4, 2) := by decide +kernel
theorem d_D_grant_31 : decode b_D_grant 31 = .ok (.iload 4, 2) := by decide +kernel
theorem d_D_grant_33 : decode b_D_grant 33 = .ok (.ifCond .eq 17, 3) := by decide +kernel
theorem d_D_grant_36 : decode b_D_grant 36 = .ok (.aload_n 3, 1) := by decide +kernel
theorem d_D_grant_37 : decode b_D_grant 37 = .ok (.iload_n 2, 1) := by decide +kernel
theorem d_D_grant_38 : decode b_D_grant 38 = .ok (.iload 4, 2) := by decide +kernel
theorem d_D_grant_40 : decode b_D_grant 40 = .ok (.aload_n 0, 1) := by decide +kernel
theorem d_D_grant_41 : decode b_D_grant 41 = .ok (.getfield 12, 3) := by decide +kernel
theorem d_D_grant_44 : decode b_D_grant 44 = .ok (.invokevirtual 25, 3) := by decide +kernel
theorem d_D_grant_47 : decode b_D_grant 47 = .ok (.invokevirtual 47, 3) := by decide +kernel
theorem d_D_grant_50 : decode b_D_grant 50 = .ok (.iload 4, 2) := by decide +kernel
theorem d_D_grant_52 : decode b_D_grant 52 = .ok (.ireturn, 1) := by decide +kernel

theorem d_D_bookFor_0 : decode b_D_bookFor 0 = .ok (.aload_n 0, 1) := by decide +kernel
theorem d_D_bookFor_1 : decode b_D_bookFor 1 = .ok (.getfield 51, 3) := by decide +kernel
theorem d_D_bookFor_4 : decode b_D_bookFor 4 = .ok (.ifCond .ne 8, 3) := by decide +kernel
theorem d_D_bookFor_7 : decode b_D_bookFor 7 = .ok (.aload_n 0, 1) := by decide +kernel
theorem d_D_bookFor_8 : decode b_D_bookFor 8 = .ok (.getfield 54, 3) := by decide +kernel
theorem d_D_bookFor_11 : decode b_D_bookFor 11 = .ok (.ireturn, 1) := by decide +kernel
theorem d_D_bookFor_12 : decode b_D_bookFor 12 = .ok (.aload_n 1, 1) := by decide +kernel
theorem d_D_bookFor_13 : decode b_D_bookFor 13 = .ok (.getfield 57, 3) := by decide +kernel
theorem d_D_bookFor_16 : decode b_D_bookFor 16 = .ok (.aload_n 0, 1) := by decide +kernel
theorem d_D_bookFor_17 : decode b_D_bookFor 17 = .ok (.getfield 51, 3) := by decide +kernel
theorem d_D_bookFor_20 : decode b_D_bookFor 20 = .ok (.if_icmp .lt 10, 3) := by decide +kernel
theorem d_D_bookFor_23 : decode b_D_bookFor 23 = .ok (.aload_n 0, 1) := by decide +kernel
theorem d_D_bookFor_24 : decode b_D_bookFor 24 = .ok (.getfield 51, 3) := by decide +kernel
theorem d_D_bookFor_27 : decode b_D_bookFor 27 = .ok (.goto 4, 3) := by decide +kernel
theorem d_D_bookFor_30 : decode b_D_bookFor 30 = .ok (.iconst 0, 1) := by decide +kernel
theorem d_D_bookFor_31 : decode b_D_bookFor 31 = .ok (.ireturn, 1) := by decide +kernel

theorem d_D_lookAtChange_0 : decode b_D_lookAtChange 0 = .ok (.aload_n 0, 1) := by decide +kernel
theorem d_D_lookAtChange_1 : decode b_D_lookAtChange 1 = .ok (.getfield 51, 3) := by decide +kernel
theorem d_D_lookAtChange_4 : decode b_D_lookAtChange 4 = .ok (.ifCond .eq 10, 3) := by decide +kernel
theorem d_D_lookAtChange_7 : decode b_D_lookAtChange 7 = .ok (.aload_n 0, 1) := by decide +kernel
theorem d_D_lookAtChange_8 : decode b_D_lookAtChange 8 = .ok (.invokevirtual 36, 3) := by decide +kernel
theorem d_D_lookAtChange_11 : decode b_D_lookAtChange 11 = .ok (.ifCond .eq 4, 3) := by decide +kernel
theorem d_D_lookAtChange_14 : decode b_D_lookAtChange 14 = .ok (.return_, 1) := by decide +kernel
theorem d_D_lookAtChange_15 : decode b_D_lookAtChange 15 = .ok (.iconst 0, 1) := by decide +kernel
theorem d_D_lookAtChange_16 : decode b_D_lookAtChange 16 = .ok (.istore_n 1, 1) := by decide +kernel
theorem d_D_lookAtChange_17 : decode b_D_lookAtChange 17 = .ok (.iload_n 1, 1) := by decide +kernel
theorem d_D_lookAtChange_18 : decode b_D_lookAtChange 18 = .ok (.iconst 4, 1) := by decide +kernel
theorem d_D_lookAtChange_19 : decode b_D_lookAtChange 19 = .ok (.if_icmp .ge 33, 3) := by decide +kernel
theorem d_D_lookAtChange_22 : decode b_D_lookAtChange 22 = .ok (.aload_n 0, 1) := by decide +kernel
theorem d_D_lookAtChange_23 : decode b_D_lookAtChange 23 = .ok (.getfield 20, 3) := by decide +kernel
theorem d_D_lookAtChange_26 : decode b_D_lookAtChange 26 = .ok (.iload_n 1, 1) := by decide +kernel
theorem d_D_lookAtChange_27 : decode b_D_lookAtChange 27 = .ok (.aaload, 1) := by decide +kernel
theorem d_D_lookAtChange_28 : decode b_D_lookAtChange 28 = .ok (.aload_n 0, 1) := by decide +kernel
theorem d_D_lookAtChange_29 : decode b_D_lookAtChange 29 = .ok (.getfield 51, 3) := by decide +kernel
theorem d_D_lookAtChange_32 : decode b_D_lookAtChange 32 = .ok (.aload_n 0, 1) := by decide +kernel
theorem d_D_lookAtChange_33 : decode b_D_lookAtChange 33 = .ok (.getfield 12, 3) := by decide +kernel
theorem d_D_lookAtChange_36 : decode b_D_lookAtChange 36 = .ok (.invokevirtual 25, 3) := by decide +kernel
theorem d_D_lookAtChange_39 : decode b_D_lookAtChange 39 = .ok (.invokevirtual 60, 3) := by decide +kernel
theorem d_D_lookAtChange_42 : decode b_D_lookAtChange 42 = .ok (.ifCond .ne 4, 3) := by decide +kernel
theorem d_D_lookAtChange_45 : decode b_D_lookAtChange 45 = .ok (.return_, 1) := by decide +kernel
theorem d_D_lookAtChange_46 : decode b_D_lookAtChange 46 = .ok (.iinc 1 1, 3) := by decide +kernel
theorem d_D_lookAtChange_49 : decode b_D_lookAtChange 49 = .ok (.goto (-32), 3) := by decide +kernel
theorem d_D_lookAtChange_52 : decode b_D_lookAtChange 52 = .ok (.aload_n 0, 1) := by decide +kernel
theorem d_D_lookAtChange_53 : decode b_D_lookAtChange 53 = .ok (.aload_n 0, 1) := by decide +kernel
theorem d_D_lookAtChange_54 : decode b_D_lookAtChange 54 = .ok (.getfield 51, 3) := by decide +kernel
theorem d_D_lookAtChange_57 : decode b_D_lookAtChange 57 = .ok (.putfield 54, 3) := by decide +kernel
theorem d_D_lookAtChange_60 : decode b_D_lookAtChange 60 = .ok (.aload_n 0, 1) := by decide +kernel
theorem d_D_lookAtChange_61 : decode b_D_lookAtChange 61 = .ok (.iconst 0, 1) := by decide +kernel
theorem d_D_lookAtChange_62 : decode b_D_lookAtChange 62 = .ok (.putfield 51, 3) := by decide +kernel
theorem d_D_lookAtChange_65 : decode b_D_lookAtChange 65 = .ok (.return_, 1) := by decide +kernel

set_option maxHeartbeats 4000000 in
set_option maxRecDepth 100000 in
theorem c_D_waits (l : Launch) (Z : qZ) (hZ : qok (pX Z)) (V : qV) (Y : qY)  : CT l y_D_waits { frames := 2, cells := 0, slots := 0, locals := 60 } (pX Z) qN [.ref (al Z 9 0)] V Y (.inl (some (.int (f_waits V)))) V Y := by
  refine CT.of (cc := b_D_waits) (maxL := 1) (ret := (some .boolean)) hZ (by decide) w_388 (Nat.le_of_ble_eq_true rfl) ?_
  intro p e s m below meth c C hr hex hlt
  refine gq_aload_n C d_D_waits_0 rfl ?_
  refine gq_get C (g := 9) (j := 0) (ci := 2) (k := 0) (v := .ref (al Z 8 4)) (qm (by decide) (by decide)) rfl rfl in_D (by decide) w_132 rfl d_D_waits_1 ?_
  refine gq_callV C (st := []) (fun _ h => h) (c_C_shown l Z hZ _ _ 4 (by decide)) (qm (by decide) (by decide)) rfl rfl w_389 w_390 w_391 w_392 w_4 ⟨by decide, by decide, (by decide +kernel : (parseMethodDescriptor y_C_shown.desc).map (fun d => d.parameters.length) = some 0)⟩ ⟨by decide, by decide⟩ ⟨by decide, by decide⟩ rfl (Nat.le_of_ble_eq_true rfl) d_D_waits_4 ?_
  refine gq_aload_n C d_D_waits_7 rfl ?_
  refine gq_get C (g := 9) (j := 0) (ci := 2) (k := 4) (v := .int (V 9 0 4)) (qm (by decide) (by decide)) rfl rfl in_D (by decide) w_140 rfl d_D_waits_8 ?_
  refine gq_icmp_ge C (tgt := 18) d_D_waits_11 rfl (fun hb11 => ?_) (fun hb11 => ?_)
  · skip
    refine gq_iconst C (v := 0) d_D_waits_18 (by decide) ?_
    exact gq_zretE C hr (by decide) (by unfold f_waits; simp [*]) rfl rfl (by decide) (by decide) d_D_waits_19
  · skip
    refine gq_iconst C (v := 1) d_D_waits_14 (by decide) ?_
    refine gq_goto C (tgt := 19) d_D_waits_15 rfl ?_
    exact gq_zretE C hr (by decide) (by unfold f_waits; simp [*]) rfl rfl (by decide) (by decide) d_D_waits_19

set_option maxHeartbeats 4000000 in
set_option maxRecDepth 100000 in
theorem c_D_bookFor (l : Launch) (Z : qZ) (hZ : qok (pX Z)) (V : qV) (Y : qY) (t : Nat) (ht : t < 4) : CT l y_D_bookFor { frames := 1, cells := 0, slots := 0, locals := 40 } (pX Z) qN [.ref (al Z 9 0), .ref (al Z 11 t)] V Y (.inl (some (.int (f_bookFor V t)))) V Y := by
  refine CT.of (cc := b_D_bookFor) (maxL := 2) (ret := (some .int)) hZ (by decide) w_528 (Nat.le_of_ble_eq_true rfl) ?_
  intro p e s m below meth c C hr hex hlt
  refine gq_aload_n C d_D_bookFor_0 rfl ?_
  refine gq_get C (g := 9) (j := 0) (ci := 2) (k := 3) (v := .int (V 9 0 3)) (qm (by decide) (by decide)) rfl rfl in_D (by decide) w_138 rfl d_D_bookFor_1 ?_
  refine gq_if_ne C (tgt := 12) d_D_bookFor_4 rfl (fun hb4 => ?_) (fun hb4 => ?_)
  · skip
    refine gq_aload_n C d_D_bookFor_12 rfl ?_
    refine gq_get C (g := 11) (j := t) (ci := 4) (k := 0) (v := .int (V 11 t 0)) (qm (by decide) ht) rfl rfl in_N (by decide) w_115 rfl d_D_bookFor_13 ?_
    refine gq_aload_n C d_D_bookFor_16 rfl ?_
    refine gq_get C (g := 9) (j := 0) (ci := 2) (k := 3) (v := .int (V 9 0 3)) (qm (by decide) (by decide)) rfl rfl in_D (by decide) w_138 rfl d_D_bookFor_17 ?_
    refine gq_icmp_lt C (tgt := 30) d_D_bookFor_20 rfl (fun hb20 => ?_) (fun hb20 => ?_)
    · skip
      refine gq_iconst C (v := 0) d_D_bookFor_30 (by decide) ?_
      exact gq_iretE C hr (by unfold f_bookFor; simp [*]) rfl rfl (by decide) (by decide) d_D_bookFor_31
    · skip
      refine gq_aload_n C d_D_bookFor_23 rfl ?_
      refine gq_get C (g := 9) (j := 0) (ci := 2) (k := 3) (v := .int (V 9 0 3)) (qm (by decide) (by decide)) rfl rfl in_D (by decide) w_138 rfl d_D_bookFor_24 ?_
      refine gq_goto C (tgt := 31) d_D_bookFor_27 rfl ?_
      exact gq_iretE C hr (by unfold f_bookFor; simp [*]) rfl rfl (by decide) (by decide) d_D_bookFor_31
  · skip
    refine gq_aload_n C d_D_bookFor_7 rfl ?_
    refine gq_get C (g := 9) (j := 0) (ci := 2) (k := 2) (v := .int (V 9 0 2)) (qm (by decide) (by decide)) rfl rfl in_D (by decide) w_136 rfl d_D_bookFor_8 ?_
    exact gq_iretE C hr (by unfold f_bookFor; simp [*]) rfl rfl (by decide) (by decide) d_D_bookFor_11

set_option maxHeartbeats 4000000 in
set_option maxRecDepth 100000 in
theorem c_D_forgetAndWait (l : Launch) (Z : qZ) (hZ : qok (pX Z)) (V : qV) (Y : qY)  : CT l y_D_forgetAndWait { frames := 2, cells := 0, slots := 0, locals := 60 } (pX Z) (qA (pX Z)) [.ref (al Z 9 0)] V Y (.inl none) (qv (f_forget (f_forget (f_forget (f_forget V 0) 1) 2) 3) 9 0 4 (V 8 4 0 / 100 + 63)) Y := by
  refine CT.of (cc := b_D_forgetAndWait) (maxL := 2) (ret := none) hZ (by decide) w_650 (Nat.le_of_ble_eq_true rfl) ?_
  intro p e s m below meth c C hr hex hlt
  refine gq_iconst C (v := 0) d_D_forgetAndWait_0 (by decide) ?_
  refine gq_istore_n C (lo' := [(1, .int 0), (0, .ref (al Z 9 0))]) d_D_forgetAndWait_1 rfl (by decide) rfl ?_
  refine gq_iload_n C d_D_forgetAndWait_2 rfl ?_
  refine gq_iconst C (v := 4) d_D_forgetAndWait_3 (by decide) ?_
  refine gq_icmp_ge C (tgt := 22) d_D_forgetAndWait_4 rfl (fun hb => by first | contradiction | exact absurd hb (by decide)) (fun hb4 => ?_)
  refine gq_aload_n C d_D_forgetAndWait_7 rfl ?_
  refine gq_get C (g := 9) (j := 0) (ci := 2) (k := 1) (v := .ref (al Z 10 0)) (qm (by decide) (by decide)) rfl rfl in_D (by decide) w_134 rfl d_D_forgetAndWait_8 ?_
  refine gq_iload_n C d_D_forgetAndWait_11 rfl ?_
  refine gq_aald C (g := 10) (j := 0) (a := 0) (t0 := 5) (b := al Z 11 0) (qm (by decide) (by decide)) rfl rfl rfl (by decide) (by decide) rfl d_D_forgetAndWait_12 ?_
  refine gq_callV C (st := []) (fun _ h => h) (c_N_forget l Z hZ _ _ 0 (by decide)) (qm (by decide) (by decide)) rfl rfl w_651 w_652 w_653 w_654 w_6 ⟨by decide, by decide, (by decide +kernel : (parseMethodDescriptor y_N_forget.desc).map (fun d => d.parameters.length) = some 0)⟩ ⟨by decide, by decide⟩ ⟨by decide, by decide⟩ rfl (Nat.le_of_ble_eq_true rfl) d_D_forgetAndWait_13 ?_
  refine gq_iinc C (k := 0) (w := 1) (lo' := [(1, .int 1), (0, .ref (al Z 9 0))]) d_D_forgetAndWait_16 rfl (by decide) (by decide) rfl ?_
  refine gq_goto C (tgt := 2) d_D_forgetAndWait_19 rfl ?_
  refine gq_iload_n C d_D_forgetAndWait_2 rfl ?_
  refine gq_iconst C (v := 4) d_D_forgetAndWait_3 (by decide) ?_
  refine gq_icmp_ge C (tgt := 22) d_D_forgetAndWait_4 rfl (fun hb => by first | contradiction | exact absurd hb (by decide)) (fun hb4 => ?_)
  refine gq_aload_n C d_D_forgetAndWait_7 rfl ?_
  refine gq_get C (g := 9) (j := 0) (ci := 2) (k := 1) (v := .ref (al Z 10 0)) (qm (by decide) (by decide)) rfl rfl in_D (by decide) w_134 rfl d_D_forgetAndWait_8 ?_
  refine gq_iload_n C d_D_forgetAndWait_11 rfl ?_
  refine gq_aald C (g := 10) (j := 0) (a := 1) (t0 := 5) (b := al Z 11 1) (qm (by decide) (by decide)) rfl rfl rfl (by decide) (by decide) rfl d_D_forgetAndWait_12 ?_
  refine gq_callV C (st := []) (fun _ h => h) (c_N_forget l Z hZ _ _ 1 (by decide)) (qm (by decide) (by decide)) rfl rfl w_651 w_652 w_653 w_654 w_6 ⟨by decide, by decide, (by decide +kernel : (parseMethodDescriptor y_N_forget.desc).map (fun d => d.parameters.length) = some 0)⟩ ⟨by decide, by decide⟩ ⟨by decide, by decide⟩ rfl (Nat.le_of_ble_eq_true rfl) d_D_forgetAndWait_13 ?_
  refine gq_iinc C (k := 0) (w := 2) (lo' := [(1, .int 2), (0, .ref (al Z 9 0))]) d_D_forgetAndWait_16 rfl (by decide) (by decide) rfl ?_
  refine gq_goto C (tgt := 2) d_D_forgetAndWait_19 rfl ?_
  refine gq_iload_n C d_D_forgetAndWait_2 rfl ?_
  refine gq_iconst C (v := 4) d_D_forgetAndWait_3 (by decide) ?_
  refine gq_icmp_ge C (tgt := 22) d_D_forgetAndWait_4 rfl (fun hb => by first | contradiction | exact absurd hb (by decide)) (fun hb4 => ?_)
  refine gq_aload_n C d_D_forgetAndWait_7 rfl ?_
  refine gq_get C (g := 9) (j := 0) (ci := 2) (k := 1) (v := .ref (al Z 10 0)) (qm (by decide) (by decide)) rfl rfl in_D (by decide) w_134 rfl d_D_forgetAndWait_8 ?_
  refine gq_iload_n C d_D_forgetAndWait_11 rfl ?_
  refine gq_aald C (g := 10) (j := 0) (a := 2) (t0 := 5) (b := al Z 11 2) (qm (by decide) (by decide)) rfl rfl rfl (by decide) (by decide) rfl d_D_forgetAndWait_12 ?_
  refine gq_callV C (st := []) (fun _ h => h) (c_N_forget l Z hZ _ _ 2 (by decide)) (qm (by decide) (by decide)) rfl rfl w_651 w_652 w_653 w_654 w_6 ⟨by decide, by decide, (by decide +kernel : (parseMethodDescriptor y_N_forget.desc).map (fun d => d.parameters.length) = some 0)⟩ ⟨by decide, by decide⟩ ⟨by decide, by decide⟩ rfl (Nat.le_of_ble_eq_true rfl) d_D_forgetAndWait_13 ?_
  refine gq_iinc C (k := 0) (w := 3) (lo' := [(1, .int 3), (0, .ref (al Z 9 0))]) d_D_forgetAndWait_16 rfl (by decide) (by decide) rfl ?_
  refine gq_goto C (tgt := 2) d_D_forgetAndWait_19 rfl ?_
  refine gq_iload_n C d_D_forgetAndWait_2 rfl ?_
  refine gq_iconst C (v := 4) d_D_forgetAndWait_3 (by decide) ?_
  refine gq_icmp_ge C (tgt := 22) d_D_forgetAndWait_4 rfl (fun hb => by first | contradiction | exact absurd hb (by decide)) (fun hb4 => ?_)
  refine gq_aload_n C d_D_forgetAndWait_7 rfl ?_
  refine gq_get C (g := 9) (j := 0) (ci := 2) (k := 1) (v := .ref (al Z 10 0)) (qm (by decide) (by decide)) rfl rfl in_D (by decide) w_134 rfl d_D_forgetAndWait_8 ?_
  refine gq_iload_n C d_D_forgetAndWait_11 rfl ?_
  refine gq_aald C (g := 10) (j := 0) (a := 3) (t0 := 5) (b := al Z 11 3) (qm (by decide) (by decide)) rfl rfl rfl (by decide) (by decide) rfl d_D_forgetAndWait_12 ?_
  refine gq_callV C (st := []) (fun _ h => h) (c_N_forget l Z hZ _ _ 3 (by decide)) (qm (by decide) (by decide)) rfl rfl w_651 w_652 w_653 w_654 w_6 ⟨by decide, by decide, (by decide +kernel : (parseMethodDescriptor y_N_forget.desc).map (fun d => d.parameters.length) = some 0)⟩ ⟨by decide, by decide⟩ ⟨by decide, by decide⟩ rfl (Nat.le_of_ble_eq_true rfl) d_D_forgetAndWait_13 ?_
  refine gq_iinc C (k := 0) (w := 4) (lo' := [(1, .int 4), (0, .ref (al Z 9 0))]) d_D_forgetAndWait_16 rfl (by decide) (by decide) rfl ?_
  refine gq_goto C (tgt := 2) d_D_forgetAndWait_19 rfl ?_
  refine gq_iload_n C d_D_forgetAndWait_2 rfl ?_
  refine gq_iconst C (v := 4) d_D_forgetAndWait_3 (by decide) ?_
  refine gq_icmp_ge C (tgt := 22) d_D_forgetAndWait_4 rfl (fun hb4 => ?_) (fun hb => by first | contradiction | exact absurd hb (by decide))
  refine gq_aload_n C d_D_forgetAndWait_22 rfl ?_
  refine gq_aload_n C d_D_forgetAndWait_23 rfl ?_
  refine gq_get C (g := 9) (j := 0) (ci := 2) (k := 0) (v := .ref (al Z 8 4)) (qm (by decide) (by decide)) rfl rfl in_D (by decide) w_132 rfl d_D_forgetAndWait_24 ?_
  refine gq_callV C (st := [.ref (al Z 9 0)]) (fun _ h => h.elim) (c_C_shown l Z hZ _ _ 4 (by decide)) (qm (by decide) (by decide)) rfl rfl w_389 w_390 w_391 w_392 w_4 ⟨by decide, by decide, (by decide +kernel : (parseMethodDescriptor y_C_shown.desc).map (fun d => d.parameters.length) = some 0)⟩ ⟨by decide, by decide⟩ ⟨by decide, by decide⟩ rfl (Nat.le_of_ble_eq_true rfl) d_D_forgetAndWait_27 ?_
  refine G.eqS (st' := [.int ((V 8 4 0) / 100), .ref (al Z 9 0)]) rfl ?_
  refine gq_bipush C (v := 63) d_D_forgetAndWait_30 (by decide) ?_
  refine gq_iadd C d_D_forgetAndWait_32 ?_
  refine gq_put C (fun _ h => h) (g := 9) (j := 0) (ci := 2) (k := 4) ft_D k_D n_D (qm (by decide) (by decide)) rfl rfl in_D (by decide) w_140 rfl (k_D 4 (by decide)) rfl rfl (Nat.le_of_ble_eq_true rfl) rfl d_D_forgetAndWait_33 ?_
  exact gq_vretE C hr (by rfl) rfl (by decide) (by decide) d_D_forgetAndWait_36

set_option maxHeartbeats 4000000 in
set_option maxRecDepth 100000 in
theorem c_D_lookAtChange (l : Launch) (Z : qZ) (hZ : qok (pX Z)) (V : qV) (Y : qY)  : CT l y_D_lookAtChange { frames := 3, cells := 0, slots := 0, locals := 80 } (pX Z) (qA (pX Z)) [.ref (al Z 9 0)] V Y (.inl none) (f_look V) Y := by
  refine CT.of (cc := b_D_lookAtChange) (maxL := 2) (ret := none) hZ (by decide) w_384 (Nat.le_of_ble_eq_true rfl) ?_
  intro p e s m below meth c C hr hex hlt
  refine gq_aload_n C d_D_lookAtChange_0 rfl ?_
  refine gq_get C (g := 9) (j := 0) (ci := 2) (k := 3) (v := .int (V 9 0 3)) (qm (by decide) (by decide)) rfl rfl in_D (by decide) w_138 rfl d_D_lookAtChange_1 ?_
  refine gq_if_eq C (tgt := 14) d_D_lookAtChange_4 rfl (fun hb4 => ?_) (fun hb4 => ?_)
  · skip
    exact gq_vretE C hr (by unfold f_look; simp [*]) rfl (by decide) (by decide) d_D_lookAtChange_14
  · skip
    refine gq_aload_n C d_D_lookAtChange_7 rfl ?_
    refine gq_callV C (st := []) (fun _ h => h.elim) (c_D_waits l Z hZ _ _) (qm (by decide) (by decide)) rfl rfl w_385 w_386 w_387 w_388 w_5 ⟨by decide, by decide, (by decide +kernel : (parseMethodDescriptor y_D_waits.desc).map (fun d => d.parameters.length) = some 0)⟩ ⟨by decide, by decide⟩ ⟨by decide, by decide⟩ rfl (Nat.le_of_ble_eq_true rfl) d_D_lookAtChange_8 ?_
    refine gq_if_eq C (tgt := 15) d_D_lookAtChange_11 rfl (fun hb11 => ?_) (fun hb11 => ?_)
    · skip
      refine gq_iconst C (v := 0) d_D_lookAtChange_15 (by decide) ?_
      refine gq_istore_n C (lo' := [(1, .int 0), (0, .ref (al Z 9 0))]) d_D_lookAtChange_16 rfl (by decide) rfl ?_
      refine gq_iload_n C d_D_lookAtChange_17 rfl ?_
      refine gq_iconst C (v := 4) d_D_lookAtChange_18 (by decide) ?_
      refine gq_icmp_ge C (tgt := 52) d_D_lookAtChange_19 rfl (fun hb => by first | contradiction | exact absurd hb (by decide)) (fun hb19 => ?_)
      refine gq_aload_n C d_D_lookAtChange_22 rfl ?_
      refine gq_get C (g := 9) (j := 0) (ci := 2) (k := 1) (v := .ref (al Z 10 0)) (qm (by decide) (by decide)) rfl rfl in_D (by decide) w_134 rfl d_D_lookAtChange_23 ?_
      refine gq_iload_n C d_D_lookAtChange_26 rfl ?_
      refine gq_aald C (g := 10) (j := 0) (a := 0) (t0 := 5) (b := al Z 11 0) (qm (by decide) (by decide)) rfl rfl rfl (by decide) (by decide) rfl d_D_lookAtChange_27 ?_
      refine gq_aload_n C d_D_lookAtChange_28 rfl ?_
      refine gq_get C (g := 9) (j := 0) (ci := 2) (k := 3) (v := .int (V 9 0 3)) (qm (by decide) (by decide)) rfl rfl in_D (by decide) w_138 rfl d_D_lookAtChange_29 ?_
      refine gq_aload_n C d_D_lookAtChange_32 rfl ?_
      refine gq_get C (g := 9) (j := 0) (ci := 2) (k := 0) (v := .ref (al Z 8 4)) (qm (by decide) (by decide)) rfl rfl in_D (by decide) w_132 rfl d_D_lookAtChange_33 ?_
      refine gq_callV C (st := [.int (V 9 0 3), .ref (al Z 11 0)]) (fun _ h => h.elim) (c_C_shown l Z hZ _ _ 4 (by decide)) (qm (by decide) (by decide)) rfl rfl w_389 w_390 w_391 w_392 w_4 ⟨by decide, by decide, (by decide +kernel : (parseMethodDescriptor y_C_shown.desc).map (fun d => d.parameters.length) = some 0)⟩ ⟨by decide, by decide⟩ ⟨by decide, by decide⟩ rfl (Nat.le_of_ble_eq_true rfl) d_D_lookAtChange_36 ?_
      refine gq_callV C (st := []) (fun _ h => h.elim) (c_N_allows l Z hZ _ _ 0 (by decide) _ _) (qm (by decide) (by decide)) rfl rfl w_393 w_394 w_395 w_396 w_6 ⟨by decide, by decide, (by decide +kernel : (parseMethodDescriptor y_N_allows.desc).map (fun d => d.parameters.length) = some 2)⟩ ⟨by decide, by decide⟩ ⟨by decide, by decide⟩ rfl (Nat.le_of_ble_eq_true rfl) d_D_lookAtChange_39 ?_
      refine gq_if_ne C (tgt := 46) d_D_lookAtChange_42 rfl (fun hb42 => ?_) (fun hb42 => ?_)
      · skip
        refine gq_iinc C (k := 0) (w := 1) (lo' := [(1, .int 1), (0, .ref (al Z 9 0))]) d_D_lookAtChange_46 rfl (by decide) (by decide) rfl ?_
        refine gq_goto C (tgt := 17) d_D_lookAtChange_49 rfl ?_
        refine gq_iload_n C d_D_lookAtChange_17 rfl ?_
        refine gq_iconst C (v := 4) d_D_lookAtChange_18 (by decide) ?_
        refine gq_icmp_ge C (tgt := 52) d_D_lookAtChange_19 rfl (fun hb => by first | contradiction | exact absurd hb (by decide)) (fun hb19 => ?_)
        refine gq_aload_n C d_D_lookAtChange_22 rfl ?_
        refine gq_get C (g := 9) (j := 0) (ci := 2) (k := 1) (v := .ref (al Z 10 0)) (qm (by decide) (by decide)) rfl rfl in_D (by decide) w_134 rfl d_D_lookAtChange_23 ?_
        refine gq_iload_n C d_D_lookAtChange_26 rfl ?_
        refine gq_aald C (g := 10) (j := 0) (a := 1) (t0 := 5) (b := al Z 11 1) (qm (by decide) (by decide)) rfl rfl rfl (by decide) (by decide) rfl d_D_lookAtChange_27 ?_
        refine gq_aload_n C d_D_lookAtChange_28 rfl ?_
        refine gq_get C (g := 9) (j := 0) (ci := 2) (k := 3) (v := .int (V 9 0 3)) (qm (by decide) (by decide)) rfl rfl in_D (by decide) w_138 rfl d_D_lookAtChange_29 ?_
        refine gq_aload_n C d_D_lookAtChange_32 rfl ?_
        refine gq_get C (g := 9) (j := 0) (ci := 2) (k := 0) (v := .ref (al Z 8 4)) (qm (by decide) (by decide)) rfl rfl in_D (by decide) w_132 rfl d_D_lookAtChange_33 ?_
        refine gq_callV C (st := [.int (V 9 0 3), .ref (al Z 11 1)]) (fun _ h => h.elim) (c_C_shown l Z hZ _ _ 4 (by decide)) (qm (by decide) (by decide)) rfl rfl w_389 w_390 w_391 w_392 w_4 ⟨by decide, by decide, (by decide +kernel : (parseMethodDescriptor y_C_shown.desc).map (fun d => d.parameters.length) = some 0)⟩ ⟨by decide, by decide⟩ ⟨by decide, by decide⟩ rfl (Nat.le_of_ble_eq_true rfl) d_D_lookAtChange_36 ?_
        refine gq_callV C (st := []) (fun _ h => h.elim) (c_N_allows l Z hZ _ _ 1 (by decide) _ _) (qm (by decide) (by decide)) rfl rfl w_393 w_394 w_395 w_396 w_6 ⟨by decide, by decide, (by decide +kernel : (parseMethodDescriptor y_N_allows.desc).map (fun d => d.parameters.length) = some 2)⟩ ⟨by decide, by decide⟩ ⟨by decide, by decide⟩ rfl (Nat.le_of_ble_eq_true rfl) d_D_lookAtChange_39 ?_
        refine gq_if_ne C (tgt := 46) d_D_lookAtChange_42 rfl (fun hb42 => ?_) (fun hb42 => ?_)
        · skip
          refine gq_iinc C (k := 0) (w := 2) (lo' := [(1, .int 2), (0, .ref (al Z 9 0))]) d_D_lookAtChange_46 rfl (by decide) (by decide) rfl ?_
          refine gq_goto C (tgt := 17) d_D_lookAtChange_49 rfl ?_
          refine gq_iload_n C d_D_lookAtChange_17 rfl ?_
          refine gq_iconst C (v := 4) d_D_lookAtChange_18 (by decide) ?_
          refine gq_icmp_ge C (tgt := 52) d_D_lookAtChange_19 rfl (fun hb => by first | contradiction | exact absurd hb (by decide)) (fun hb19 => ?_)
          refine gq_aload_n C d_D_lookAtChange_22 rfl ?_
          refine gq_get C (g := 9) (j := 0) (ci := 2) (k := 1) (v := .ref (al Z 10 0)) (qm (by decide) (by decide)) rfl rfl in_D (by decide) w_134 rfl d_D_lookAtChange_23 ?_
          refine gq_iload_n C d_D_lookAtChange_26 rfl ?_
          refine gq_aald C (g := 10) (j := 0) (a := 2) (t0 := 5) (b := al Z 11 2) (qm (by decide) (by decide)) rfl rfl rfl (by decide) (by decide) rfl d_D_lookAtChange_27 ?_
          refine gq_aload_n C d_D_lookAtChange_28 rfl ?_
          refine gq_get C (g := 9) (j := 0) (ci := 2) (k := 3) (v := .int (V 9 0 3)) (qm (by decide) (by decide)) rfl rfl in_D (by decide) w_138 rfl d_D_lookAtChange_29 ?_
          refine gq_aload_n C d_D_lookAtChange_32 rfl ?_
          refine gq_get C (g := 9) (j := 0) (ci := 2) (k := 0) (v := .ref (al Z 8 4)) (qm (by decide) (by decide)) rfl rfl in_D (by decide) w_132 rfl d_D_lookAtChange_33 ?_
          refine gq_callV C (st := [.int (V 9 0 3), .ref (al Z 11 2)]) (fun _ h => h.elim) (c_C_shown l Z hZ _ _ 4 (by decide)) (qm (by decide) (by decide)) rfl rfl w_389 w_390 w_391 w_392 w_4 ⟨by decide, by decide, (by decide +kernel : (parseMethodDescriptor y_C_shown.desc).map (fun d => d.parameters.length) = some 0)⟩ ⟨by decide, by decide⟩ ⟨by decide, by decide⟩ rfl (Nat.le_of_ble_eq_true rfl) d_D_lookAtChange_36 ?_
          refine gq_callV C (st := []) (fun _ h => h.elim) (c_N_allows l Z hZ _ _ 2 (by decide) _ _) (qm (by decide) (by decide)) rfl rfl w_393 w_394 w_395 w_396 w_6 ⟨by decide, by decide, (by decide +kernel : (parseMethodDescriptor y_N_allows.desc).map (fun d => d.parameters.length) = some 2)⟩ ⟨by decide, by decide⟩ ⟨by decide, by decide⟩ rfl (Nat.le_of_ble_eq_true rfl) d_D_lookAtChange_39 ?_
          refine gq_if_ne C (tgt := 46) d_D_lookAtChange_42 rfl (fun hb42 => ?_) (fun hb42 => ?_)
          · skip
            refine gq_iinc C (k := 0) (w := 3) (lo' := [(1, .int 3), (0, .ref (al Z 9 0))]) d_D_lookAtChange_46 rfl (by decide) (by decide) rfl ?_
            refine gq_goto C (tgt := 17) d_D_lookAtChange_49 rfl ?_
            refine gq_iload_n C d_D_lookAtChange_17 rfl ?_
            refine gq_iconst C (v := 4) d_D_lookAtChange_18 (by decide) ?_
            refine gq_icmp_ge C (tgt := 52) d_D_lookAtChange_19 rfl (fun hb => by first | contradiction | exact absurd hb (by decide)) (fun hb19 => ?_)
            refine gq_aload_n C d_D_lookAtChange_22 rfl ?_
            refine gq_get C (g := 9) (j := 0) (ci := 2) (k := 1) (v := .ref (al Z 10 0)) (qm (by decide) (by decide)) rfl rfl in_D (by decide) w_134 rfl d_D_lookAtChange_23 ?_
            refine gq_iload_n C d_D_lookAtChange_26 rfl ?_
            refine gq_aald C (g := 10) (j := 0) (a := 3) (t0 := 5) (b := al Z 11 3) (qm (by decide) (by decide)) rfl rfl rfl (by decide) (by decide) rfl d_D_lookAtChange_27 ?_
            refine gq_aload_n C d_D_lookAtChange_28 rfl ?_
            refine gq_get C (g := 9) (j := 0) (ci := 2) (k := 3) (v := .int (V 9 0 3)) (qm (by decide) (by decide)) rfl rfl in_D (by decide) w_138 rfl d_D_lookAtChange_29 ?_
            refine gq_aload_n C d_D_lookAtChange_32 rfl ?_
            refine gq_get C (g := 9) (j := 0) (ci := 2) (k := 0) (v := .ref (al Z 8 4)) (qm (by decide) (by decide)) rfl rfl in_D (by decide) w_132 rfl d_D_lookAtChange_33 ?_
            refine gq_callV C (st := [.int (V 9 0 3), .ref (al Z 11 3)]) (fun _ h => h.elim) (c_C_shown l Z hZ _ _ 4 (by decide)) (qm (by decide) (by decide)) rfl rfl w_389 w_390 w_391 w_392 w_4 ⟨by decide, by decide, (by decide +kernel : (parseMethodDescriptor y_C_shown.desc).map (fun d => d.parameters.length) = some 0)⟩ ⟨by decide, by decide⟩ ⟨by decide, by decide⟩ rfl (Nat.le_of_ble_eq_true rfl) d_D_lookAtChange_36 ?_
            refine gq_callV C (st := []) (fun _ h => h.elim) (c_N_allows l Z hZ _ _ 3 (by decide) _ _) (qm (by decide) (by decide)) rfl rfl w_393 w_394 w_395 w_396 w_6 ⟨by decide, by decide, (by decide +kernel : (parseMethodDescriptor y_N_allows.desc).map (fun d => d.parameters.length) = some 2)⟩ ⟨by decide, by decide⟩ ⟨by decide, by decide⟩ rfl (Nat.le_of_ble_eq_true rfl) d_D_lookAtChange_39 ?_
            refine gq_if_ne C (tgt := 46) d_D_lookAtChange_42 rfl (fun hb42 => ?_) (fun hb42 => ?_)
            · skip
              refine gq_iinc C (k := 0) (w := 4) (lo' := [(1, .int 4), (0, .ref (al Z 9 0))]) d_D_lookAtChange_46 rfl (by decide) (by decide) rfl ?_
              refine gq_goto C (tgt := 17) d_D_lookAtChange_49 rfl ?_
              refine gq_iload_n C d_D_lookAtChange_17 rfl ?_
              refine gq_iconst C (v := 4) d_D_lookAtChange_18 (by decide) ?_
              refine gq_icmp_ge C (tgt := 52) d_D_lookAtChange_19 rfl (fun hb19 => ?_) (fun hb => by first | contradiction | exact absurd hb (by decide))
              refine gq_aload_n C d_D_lookAtChange_52 rfl ?_
              refine gq_aload_n C d_D_lookAtChange_53 rfl ?_
              refine gq_get C (g := 9) (j := 0) (ci := 2) (k := 3) (v := .int (V 9 0 3)) (qm (by decide) (by decide)) rfl rfl in_D (by decide) w_138 rfl d_D_lookAtChange_54 ?_
              refine gq_put C (fun _ h => h) (g := 9) (j := 0) (ci := 2) (k := 2) ft_D k_D n_D (qm (by decide) (by decide)) rfl rfl in_D (by decide) w_136 rfl (k_D 2 (by decide)) rfl rfl (Nat.le_of_ble_eq_true rfl) rfl d_D_lookAtChange_57 ?_
              refine gq_aload_n C d_D_lookAtChange_60 rfl ?_
              refine gq_iconst C (v := 0) d_D_lookAtChange_61 (by decide) ?_
              refine gq_put C (fun _ h => h) (g := 9) (j := 0) (ci := 2) (k := 3) ft_D k_D n_D (qm (by decide) (by decide)) rfl rfl in_D (by decide) w_138 rfl (k_D 3 (by decide)) rfl rfl (Nat.le_of_ble_eq_true rfl) rfl d_D_lookAtChange_62 ?_
              exact gq_vretE C hr (by unfold f_look; simp [*]) rfl (by decide) (by decide) d_D_lookAtChange_65
            · skip
              exact gq_vretE C hr (by unfold f_look; simp [*]) rfl (by decide) (by decide) d_D_lookAtChange_45
          · skip
            exact gq_vretE C hr (by unfold f_look; simp [*]) rfl (by decide) (by decide) d_D_lookAtChange_45
        · skip
          exact gq_vretE C hr (by unfold f_look; simp [*]) rfl (by decide) (by decide) d_D_lookAtChange_45
      · skip
        exact gq_vretE C hr (by unfold f_look; simp [*]) rfl (by decide) (by decide) d_D_lookAtChange_45
    · skip
      exact gq_vretE C hr (by unfold f_look; simp [*]) rfl (by decide) (by decide) d_D_lookAtChange_14

set_option maxHeartbeats 4000000 in
set_option maxRecDepth 100000 in
theorem c_D_grant (l : Launch) (Z : qZ) (hZ : qok (pX Z)) (V : qV) (Y : qY) (t : Nat) (ht : t < 4) (a : Int32) : CT l y_D_grant { frames := 3, cells := 0, slots := 0, locals := 80 } (pX Z) (qA (pX Z)) [.ref (al Z 9 0), .int (nI t), .int a] V Y (.inl (some (.int (f_grantB V t a)))) (f_grant V t a) Y := by
  refine CT.of (cc := b_D_grant) (maxL := 5) (ret := (some .int)) hZ (by decide) w_524 (Nat.le_of_ble_eq_true rfl) ?_
  intro p e s m below meth c C hr hex hlt
  refine gq_aload_n C d_D_grant_0 rfl ?_
  refine gq_get C (g := 9) (j := 0) (ci := 2) (k := 1) (v := .ref (al Z 10 0)) (qm (by decide) (by decide)) rfl rfl in_D (by decide) w_134 rfl d_D_grant_1 ?_
  refine gq_iload_n C d_D_grant_4 rfl ?_
  refine gq_aald C (g := 10) (j := 0) (a := t) (t0 := 5) (b := al Z 11 t) (qm (by decide) (by decide)) rfl rfl rfl ht (by decide) rfl d_D_grant_5 ?_
  refine gq_astore_n C (lo' := [(3, .ref (al Z 11 t)), (0, .ref (al Z 9 0)), (1, .int (nI t)), (2, .int a)]) d_D_grant_6 rfl (by decide) rfl ?_
  refine gq_aload_n C d_D_grant_7 rfl ?_
  refine gq_callV C (st := []) (fun _ h => h.elim) (c_D_waits l Z hZ _ _) (qm (by decide) (by decide)) rfl rfl w_385 w_386 w_387 w_388 w_5 ⟨by decide, by decide, (by decide +kernel : (parseMethodDescriptor y_D_waits.desc).map (fun d => d.parameters.length) = some 0)⟩ ⟨by decide, by decide⟩ ⟨by decide, by decide⟩ rfl (Nat.le_of_ble_eq_true rfl) d_D_grant_8 ?_
  refine gq_if_ne C (tgt := 22) d_D_grant_11 rfl (fun hb11 => ?_) (fun hb11 => ?_)
  · skip
    refine gq_iconst C (v := 0) d_D_grant_22 (by decide) ?_
    exact gq_iretE C hr (by unfold f_grantB; simp [*]) (by unfold f_grant f_grantB; simp [*]) rfl (by decide) (by decide) d_D_grant_23
  · skip
    refine gq_iload_n C d_D_grant_14 rfl ?_
    refine gq_aload_n C d_D_grant_15 rfl ?_
    refine gq_get C (g := 11) (j := t) (ci := 4) (k := 1) (v := .int (V 11 t 1)) (qm (by decide) ht) rfl rfl in_N (by decide) w_117 rfl d_D_grant_16 ?_
    refine gq_icmp_ge C (tgt := 24) d_D_grant_19 rfl (fun hb19 => ?_) (fun hb19 => ?_)
    · skip
      refine gq_aload_n C d_D_grant_24 rfl ?_
      refine gq_aload_n C d_D_grant_25 rfl ?_
      refine gq_callV C (st := []) (fun _ h => h.elim) (c_D_bookFor l Z hZ _ _ t ht) (qm (by decide) (by decide)) rfl rfl w_525 w_527 ws_D_bookFor w_528 w_5 ⟨by decide, by decide, (by decide +kernel : (parseMethodDescriptor y_D_bookFor.desc).map (fun d => d.parameters.length) = some 1)⟩ ⟨by decide, by decide⟩ ⟨by decide, by decide⟩ rfl (Nat.le_of_ble_eq_true rfl) d_D_grant_26 ?_
      refine gq_istore C (lo' := [(4, .int (f_bookFor V t)), (3, .ref (al Z 11 t)), (0, .ref (al Z 9 0)), (1, .int (nI t)), (2, .int a)]) d_D_grant_29 (by decide) rfl ?_
      refine gq_iload C d_D_grant_31 rfl ?_
      refine gq_if_eq C (tgt := 50) d_D_grant_33 rfl (fun hb33 => ?_) (fun hb33 => ?_)
      · skip
        refine gq_iload C d_D_grant_50 rfl ?_
        exact gq_iretE C hr (by unfold f_grantB; simp [*]) (by unfold f_grant f_grantB; simp [*]) rfl (by decide) (by decide) d_D_grant_52
      · skip
        refine gq_aload_n C d_D_grant_36 rfl ?_
        refine gq_iload_n C d_D_grant_37 rfl ?_
        refine gq_iload C d_D_grant_38 rfl ?_
        refine gq_aload_n C d_D_grant_40 rfl ?_
        refine gq_get C (g := 9) (j := 0) (ci := 2) (k := 0) (v := .ref (al Z 8 4)) (qm (by decide) (by decide)) rfl rfl in_D (by decide) w_132 rfl d_D_grant_41 ?_
        refine gq_callV C (st := [.int (f_bookFor V t), .int a, .ref (al Z 11 t)]) (fun _ h => h.elim) (c_C_shown l Z hZ _ _ 4 (by decide)) (qm (by decide) (by decide)) rfl rfl w_389 w_390 w_391 w_392 w_4 ⟨by decide, by decide, (by decide +kernel : (parseMethodDescriptor y_C_shown.desc).map (fun d => d.parameters.length) = some 0)⟩ ⟨by decide, by decide⟩ ⟨by decide, by decide⟩ rfl (Nat.le_of_ble_eq_true rfl) d_D_grant_44 ?_
        refine gq_callV C (st := []) (fun _ h => h) (c_N_noteGrant l Z hZ _ _ t ht _ _ _) (qm (by decide) ht) rfl rfl w_529 w_530 w_531 w_532 w_6 ⟨by decide, by decide, (by decide +kernel : (parseMethodDescriptor y_N_noteGrant.desc).map (fun d => d.parameters.length) = some 3)⟩ ⟨by decide, by decide⟩ ⟨by decide, by decide⟩ rfl (Nat.le_of_ble_eq_true rfl) d_D_grant_47 ?_
        refine gq_iload C d_D_grant_50 rfl ?_
        exact gq_iretE C hr (by unfold f_grantB; simp [*]) (by unfold f_grant f_grantB; simp [*]) rfl (by decide) (by decide) d_D_grant_52
    · skip
      refine gq_iconst C (v := 0) d_D_grant_22 (by decide) ?_
      exact gq_iretE C hr (by unfold f_grantB; simp [*]) (by unfold f_grant f_grantB; simp [*]) rfl (by decide) (by decide) d_D_grant_23
end
section
/-! PriceHouse: what its calls look at first, and its simple calls -/
section QS
variable {p : Program} {l : Launch} {e : Env} {R : Room} {s : State} {m : MethodId} {args : Array Value} {below : List Frame} {meth : Method} {c : Code} {Q : State → Prop} {x : qX} {nL : Nat} {A : Nat → Prop} {V : qV} {Y : qY} {cells slots pc : Nat} {lo : List (Nat × Value)} {st : List Value} {cc : ByteArray} {own : String} {Ts : List Cond}
theorem gq_tableOut (C : Cx p s m args meth c x nL A cc own Ts) {dflt l0 h0 : Int} {offs : Array Int} {len : Nat} {v : Int32} {tgt : Nat} (hd : decode cc pc = .ok (.tableswitch dflt l0 h0 offs, len)) (h : v.toInt < l0 ∨ h0 < v.toInt) (ht : (pc : Int) + dflt = (tgt : Int)) (k : G p l e R s m args below meth c Q x nL A V Y cells slots tgt lo st) : G p l e R s m args below meth c Q x nL A V Y cells slots pc lo (.int v :: st) := fun H locs ls hP hS hl => lv_tableOut C.1 C.2.1 hd h ht (k H locs ls hP hS hl)
theorem gq_tableIn (C : Cx p s m args meth c x nL A cc own Ts) {dflt l0 h0 : Int} {offs : Array Int} {len : Nat} {v : Int32} {off : Int} {tgt : Nat} (hd : decode cc pc = .ok (.tableswitch dflt l0 h0 offs, len)) (h1 : ¬ v.toInt < l0) (h2 : ¬ h0 < v.toInt) (ho : offs[(v.toInt - l0).toNat]? = some off) (ht : (pc : Int) + off = (tgt : Int)) (k : G p l e R s m args below meth c Q x nL A V Y cells slots tgt lo st) : G p l e R s m args below meth c Q x nL A V Y cells slots pc lo (.int v :: st) := fun H locs ls hP hS hl => lv_tableIn C.1 C.2.1 hd h1 h2 ho ht (k H locs ls hP hS hl)
end QS
def f_isArticle (a : Int32) : Int32 := if a < 0 then 0 else if 8 ≤ a then 0 else 1
def f_isSlot (a : Int32) : Int32 := if a < 0 then 0 else if 2 ≤ a then 0 else 1
def f_isBundleSize (a : Int32) : Int32 := if a = 0 then 1 else if a < 2 then 0 else if 12 < a then 0 else 1
def f_isAmount (a : Int32) : Int32 := if a < 0 then 0 else if 10000000 < a then 0 else 1
def f_isTD (a : Int32) : Int32 := if a < 0 then 0 else if 4 < a then 0 else 1
def f_isBook (V : qV) (b : Int32) : Int32 := if b < 1 then 0 else if V 0 0 2 < b then 0 else 1
def f_isBasket (V : qV) (k : Int32) : Int32 := if k < 0 then 0 else if V 0 0 7 ≤ k then 0 else 1
def f_sells (V : qV) (b n : Nat) : Int32 := if V 2 b n = 0 then 0 else 1
theorem f_t0 {t : Nat} (h : t < 4) : ¬ nI t < 0 := nI_pos (by omega)
theorem f_t4 {t : Nat} (h : t < 4) : nI t < 4 := nI_lt (b := 4) h (by decide)
theorem f_n4 {t : Nat} (h : t < 4) : ¬ nI t = 4 := fun q => by
  have := (nI_eq (a := t) (b := 4) (by omega) (by omega)).mp q
  omega
theorem f_i0 {i n : Nat} (hi : i < n) (hn : n ≤ 40) : ¬ nI i < 0 := nI_pos (by omega)
theorem f_i4 {V : qV} {i n : Nat} (hi : i < n) (hn : n ≤ 40) (h4 : V 12 0 4 = nI n) : nI i < V 12 0 4 := by
  rw [h4]
  exact nI_lt hi (by omega)
theorem f_beh {V : qV} {i n : Nat} (hi : i < n) (hn : n ≤ 40) (h4 : V 12 0 4 = nI n) : V 12 0 4 - nI i - 1 = nI (n - i - 1) := by
  rw [h4, pk_sub (by omega), show (1 : Int32) = nI 1 from rfl, pk_sub (by omega)]
theorem f_copy_fr (V : qV) (j g : Nat) (h : g ≠ 2 ∧ g ≠ 3 ∧ g ≠ 4) : f_copy V j g = V g := by
  funext a i
  simp [f_copy, qu, h.1, h.2.1, h.2.2]
theorem f_look_fr (V : qV) (g : Nat) (h : g ≠ 9) : f_look V g = V g := by
  funext a i
  unfold f_look
  repeat' split
  all_goals first | rfl | simp [qv_at, h]
theorem f_grant_fr (V : qV) (t : Nat) (a : Int32) (g : Nat) (h : g ≠ 11) : f_grant V t a g = V g := by
  funext b i
  unfold f_grant
  split
  · rfl
  · simp [qv_at, h]
theorem f_takeOut_fr (V : qV) (i n g : Nat) (h : g ≠ 12 ∧ g ≠ 13) : f_takeOut V i n g = V g := by
  funext a k
  simp [f_takeOut, qv, qu, h.1, h.2]
def f_begin (V : qV) (j : Nat) : qV := qv (qv (qv (qv V 7 j 3 (V 7 j 3 + 1)) 7 j 4 (V 8 j 0 / 100)) 7 j 5 0) 7 j 6 0
theorem f_begin_fr (V : qV) (j g : Nat) (h : g ≠ 7) : f_begin V j g = V g := by
  funext a k
  simp [f_begin, qv_at, h]
def f_again (V : qV) : qV := qv (f_forget (f_forget (f_forget (f_forget V 0) 1) 2) 3) 9 0 4 (V 8 4 0 / 100 + 63)
def f_takeBook (V : qV) (t : Nat) (b : Int32) : qV := if b = V 7 t 1 + 1 then qv V 7 t 1 b else V
def f_takeGrant (V : qV) (t : Nat) (a b : Int32) : qV := if a = V 7 t 3 ∧ V 7 t 5 = 0 then qv V 7 t 6 b else V
def f_pub1 (V : qV) (n : Nat) : qV := qv (f_copy V (n + 1)) 0 0 2 (V 0 0 2 + 1)
theorem f_cnt1 {V : qV} (n : Nat) (h : ∃ m, m ≤ 40 ∧ V 12 0 4 = nI m) : ∃ m, m ≤ 40 ∧ f_pub1 V n 12 0 4 = nI m := by
  unfold f_pub1
  rw [qv_at, if_neg (by decide), f_copy_fr _ _ _ (by decide)]
  exact h
def f_publish (V : qV) (n : Nat) : qV := f_put (f_put (f_put (f_put (f_pub1 V n) 0 0 (V 0 0 2 + 1) 0) 0 1 (V 0 0 2 + 1) 0) 0 2 (V 0 0 2 + 1) 0) 0 3 (V 0 0 2 + 1) 0
def f_go (V : qV) (j : Nat) (n : Int32) : qV := qv V 8 j 0 (V 8 j 0 + n * V 8 j 1)
def f_go5 (V : qV) (n : Int32) : qV := f_go (f_go (f_go (f_go (f_go V 0 n) 1 n) 2 n) 3 n) 4 n
theorem tw_IllegalArgumentException : qTw "PriceHouse" 61 "java/lang/IllegalArgumentException" ["java/lang/RuntimeException", "java/lang/Exception"] := by
  unfold qTw
  decide +kernel
theorem tw_IllegalStateException : qTw "PriceHouse" 84 "java/lang/IllegalStateException" ["java/lang/RuntimeException", "java/lang/Exception"] := by
  unfold qTw
  decide +kernel
theorem tw_IndexOutOfBoundsException : qTw "PriceHouse" 228 "java/lang/IndexOutOfBoundsException" ["java/lang/RuntimeException", "java/lang/Exception"] := by
  unfold qTw
  decide +kernel
theorem tw_NoSuchElementException : qTw "PriceHouse" 224 "java/util/NoSuchElementException" ["java/lang/RuntimeException", "java/lang/Exception"] := by
  unfold qTw
  decide +kernel

theorem d_H_isArticle_0 : decode b_H_isArticle 0 = .ok (.iload_n 0, 1) := by decide +kernel
theorem d_H_isArticle_1 : decode b_H_isArticle 1 = .ok (.ifCond .lt 13, 3) := by decide +kernel
theorem d_H_isArticle_4 : decode b_H_isArticle 4 = .ok (.iload_n 0, 1) := by decide +kernel
theorem d_H_isArticle_5 : decode b_H_isArticle 5 = .ok (.bipush 8, 2) := by decide +kernel
theorem d_H_isArticle_7 : decode b_H_isArticle 7 = .ok (.if_icmp .ge 7, 3) := by decide +kernel
theorem d_H_isArticle_10 : decode b_H_isArticle 10 = .ok (.iconst 1, 1) := by decide +kernel
theorem d_H_isArticle_11 : decode b_H_isArticle 11 = .ok (.goto 4, 3) := by decide +kernel
theorem d_H_isArticle_14 : decode b_H_isArticle 14 = .ok (.iconst 0, 1) := by decide +kernel
theorem d_H_isArticle_15 : decode b_H_isArticle 15 = .ok (.ireturn, 1) := by decide +kernel

theorem d_H_isSlot_0 : decode b_H_isSlot 0 = .ok (.iload_n 0, 1) := by decide +kernel
theorem d_H_isSlot_1 : decode b_H_isSlot 1 = .ok (.ifCond .lt 12, 3) := by decide +kernel
theorem d_H_isSlot_4 : decode b_H_isSlot 4 = .ok (.iload_n 0, 1) := by decide +kernel
theorem d_H_isSlot_5 : decode b_H_isSlot 5 = .ok (.iconst 2, 1) := by decide +kernel
theorem d_H_isSlot_6 : decode b_H_isSlot 6 = .ok (.if_icmp .ge 7, 3) := by decide +kernel
theorem d_H_isSlot_9 : decode b_H_isSlot 9 = .ok (.iconst 1, 1) := by decide +kernel
theorem d_H_isSlot_10 : decode b_H_isSlot 10 = .ok (.goto 4, 3) := by decide +kernel
theorem d_H_isSlot_13 : decode b_H_isSlot 13 = .ok (.iconst 0, 1) := by decide +kernel
theorem d_H_isSlot_14 : decode b_H_isSlot 14 = .ok (.ireturn, 1) := by decide +kernel

theorem d_H_isBundleSize_0 : decode b_H_isBundleSize 0 = .ok (.iload_n 0, 1) := by decide +kernel
theorem d_H_isBundleSize_1 : decode b_H_isBundleSize 1 = .ok (.ifCond .eq 14, 3) := by decide +kernel
theorem d_H_isBundleSize_4 : decode b_H_isBundleSize 4 = .ok (.iload_n 0, 1) := by decide +kernel
theorem d_H_isBundleSize_5 : decode b_H_isBundleSize 5 = .ok (.iconst 2, 1) := by decide +kernel
theorem d_H_isBundleSize_6 : decode b_H_isBundleSize 6 = .ok (.if_icmp .lt 13, 3) := by decide +kernel
theorem d_H_isBundleSize_9 : decode b_H_isBundleSize 9 = .ok (.iload_n 0, 1) := by decide +kernel
theorem d_H_isBundleSize_10 : decode b_H_isBundleSize 10 = .ok (.bipush 12, 2) := by decide +kernel
theorem d_H_isBundleSize_12 : decode b_H_isBundleSize 12 = .ok (.if_icmp .gt 7, 3) := by decide +kernel
theorem d_H_isBundleSize_15 : decode b_H_isBundleSize 15 = .ok (.iconst 1, 1) := by decide +kernel
theorem d_H_isBundleSize_16 : decode b_H_isBundleSize 16 = .ok (.goto 4, 3) := by decide +kernel
theorem d_H_isBundleSize_19 : decode b_H_isBundleSize 19 = .ok (.iconst 0, 1) := by decide +kernel
theorem d_H_isBundleSize_20 : decode b_H_isBundleSize 20 = .ok (.ireturn, 1) := by decide +kernel

theorem d_H_isAmount_0 : decode b_H_isAmount 0 = .ok (.iload_n 0, 1) := by decide +kernel
theorem d_H_isAmount_1 : decode b_H_isAmount 1 = .ok (.ifCond .lt 13, 3) := by decide +kernel
theorem d_H_isAmount_4 : decode b_H_isAmount 4 = .ok (.iload_n 0, 1) := by decide +kernel
theorem d_H_isAmount_5 : decode b_H_isAmount 5 = .ok (.ldc 225, 2) := by decide +kernel
theorem d_H_isAmount_7 : decode b_H_isAmount 7 = .ok (.if_icmp .gt 7, 3) := by decide +kernel
theorem d_H_isAmount_10 : decode b_H_isAmount 10 = .ok (.iconst 1, 1) := by decide +kernel
theorem d_H_isAmount_11 : decode b_H_isAmount 11 = .ok (.goto 4, 3) := by decide +kernel
theorem d_H_isAmount_14 : decode b_H_isAmount 14 = .ok (.iconst 0, 1) := by decide +kernel
theorem d_H_isAmount_15 : decode b_H_isAmount 15 = .ok (.ireturn, 1) := by decide +kernel

theorem d_H_isTillOrDesk_0 : decode b_H_isTillOrDesk 0 = .ok (.iload_n 0, 1) := by decide +kernel
theorem d_H_isTillOrDesk_1 : decode b_H_isTillOrDesk 1 = .ok (.ifCond .lt 12, 3) := by decide +kernel
theorem d_H_isTillOrDesk_4 : decode b_H_isTillOrDesk 4 = .ok (.iload_n 0, 1) := by decide +kernel
theorem d_H_isTillOrDesk_5 : decode b_H_isTillOrDesk 5 = .ok (.iconst 4, 1) := by decide +kernel
theorem d_H_isTillOrDesk_6 : decode b_H_isTillOrDesk 6 = .ok (.if_icmp .gt 7, 3) := by decide +kernel
theorem d_H_isTillOrDesk_9 : decode b_H_isTillOrDesk 9 = .ok (.iconst 1, 1) := by decide +kernel
theorem d_H_isTillOrDesk_10 : decode b_H_isTillOrDesk 10 = .ok (.goto 4, 3) := by decide +kernel
theorem d_H_isTillOrDesk_13 : decode b_H_isTillOrDesk 13 = .ok (.iconst 0, 1) := by decide +kernel
theorem d_H_isTillOrDesk_14 : decode b_H_isTillOrDesk 14 = .ok (.ireturn, 1) := by decide +kernel

theorem d_H_isBook_0 : decode b_H_isBook 0 = .ok (.iload_n 1, 1) := by decide +kernel
theorem d_H_isBook_1 : decode b_H_isBook 1 = .ok (.iconst 1, 1) := by decide +kernel
theorem d_H_isBook_2 : decode b_H_isBook 2 = .ok (.if_icmp .lt 15, 3) := by decide +kernel
theorem d_H_isBook_5 : decode b_H_isBook 5 = .ok (.iload_n 1, 1) := by decide +kernel
theorem d_H_isBook_6 : decode b_H_isBook 6 = .ok (.aload_n 0, 1) := by decide +kernel
theorem d_H_isBook_7 : decode b_H_isBook 7 = .ok (.getfield 78, 3) := by decide +kernel
theorem d_H_isBook_10 : decode b_H_isBook 10 = .ok (.if_icmp .gt 7, 3) := by decide +kernel
theorem d_H_isBook_13 : decode b_H_isBook 13 = .ok (.iconst 1, 1) := by decide +kernel
theorem d_H_isBook_14 : decode b_H_isBook 14 = .ok (.goto 4, 3) := by decide +kernel
theorem d_H_isBook_17 : decode b_H_isBook 17 = .ok (.iconst 0, 1) := by decide +kernel
theorem d_H_isBook_18 : decode b_H_isBook 18 = .ok (.ireturn, 1) := by decide +kernel

theorem d_H_isBasket_0 : decode b_H_isBasket 0 = .ok (.iload_n 1, 1) := by decide +kernel
theorem d_H_isBasket_1 : decode b_H_isBasket 1 = .ok (.ifCond .lt 15, 3) := by decide +kernel
theorem d_H_isBasket_4 : decode b_H_isBasket 4 = .ok (.iload_n 1, 1) := by decide +kernel
theorem d_H_isBasket_5 : decode b_H_isBasket 5 = .ok (.aload_n 0, 1) := by decide +kernel
theorem d_H_isBasket_6 : decode b_H_isBasket 6 = .ok (.getfield 190, 3) := by decide +kernel
theorem d_H_isBasket_9 : decode b_H_isBasket 9 = .ok (.if_icmp .ge 7, 3) := by decide +kernel
theorem d_H_isBasket_12 : decode b_H_isBasket 12 = .ok (.iconst 1, 1) := by decide +kernel
theorem d_H_isBasket_13 : decode b_H_isBasket 13 = .ok (.goto 4, 3) := by decide +kernel
theorem d_H_isBasket_16 : decode b_H_isBasket 16 = .ok (.iconst 0, 1) := by decide +kernel
theorem d_H_isBasket_17 : decode b_H_isBasket 17 = .ok (.ireturn, 1) := by decide +kernel

theorem d_H_sells_0 : decode b_H_sells 0 = .ok (.aload_n 0, 1) := by decide +kernel
theorem d_H_sells_1 : decode b_H_sells 1 = .ok (.getfield 16, 3) := by decide +kernel
theorem d_H_sells_4 : decode b_H_sells 4 = .ok (.iload_n 1, 1) := by decide +kernel
theorem d_H_sells_5 : decode b_H_sells 5 = .ok (.iconst 1, 1) := by decide +kernel
theorem d_H_sells_6 : decode b_H_sells 6 = .ok (.isub, 1) := by decide +kernel
theorem d_H_sells_7 : decode b_H_sells 7 = .ok (.aaload, 1) := by decide +kernel
theorem d_H_sells_8 : decode b_H_sells 8 = .ok (.getfield 62, 3) := by decide +kernel
theorem d_H_sells_11 : decode b_H_sells 11 = .ok (.iload_n 2, 1) := by decide +kernel
theorem d_H_sells_12 : decode b_H_sells 12 = .ok (.iaload, 1) := by decide +kernel
theorem d_H_sells_13 : decode b_H_sells 13 = .ok (.ifCond .eq 7, 3) := by decide +kernel
theorem d_H_sells_16 : decode b_H_sells 16 = .ok (.iconst 1, 1) := by decide +kernel
theorem d_H_sells_17 : decode b_H_sells 17 = .ok (.goto 4, 3) := by decide +kernel
theorem d_H_sells_20 : decode b_H_sells 20 = .ok (.iconst 0, 1) := by decide +kernel
theorem d_H_sells_21 : decode b_H_sells 21 = .ok (.ireturn, 1) := by decide +kernel

theorem d_H_checkTill_0 : decode b_H_checkTill 0 = .ok (.iload_n 0, 1) := by decide +kernel
theorem d_H_checkTill_1 : decode b_H_checkTill 1 = .ok (.ifCond .lt 8, 3) := by decide +kernel
theorem d_H_checkTill_4 : decode b_H_checkTill 4 = .ok (.iload_n 0, 1) := by decide +kernel
theorem d_H_checkTill_5 : decode b_H_checkTill 5 = .ok (.iconst 4, 1) := by decide +kernel
theorem d_H_checkTill_6 : decode b_H_checkTill 6 = .ok (.if_icmp .lt 11, 3) := by decide +kernel
theorem d_H_checkTill_9 : decode b_H_checkTill 9 = .ok (.new 59, 3) := by decide +kernel
theorem d_H_checkTill_12 : decode b_H_checkTill 12 = .ok (.dup, 1) := by decide +kernel
theorem d_H_checkTill_13 : decode b_H_checkTill 13 = .ok (.invokespecial 61, 3) := by decide +kernel
theorem d_H_checkTill_16 : decode b_H_checkTill 16 = .ok (.athrow, 1) := by decide +kernel
theorem d_H_checkTill_17 : decode b_H_checkTill 17 = .ok (.return_, 1) := by decide +kernel

theorem d_H_checkLetter_0 : decode b_H_checkLetter 0 = .ok (.iload_n 1, 1) := by decide +kernel
theorem d_H_checkLetter_1 : decode b_H_checkLetter 1 = .ok (.ifCond .lt 14, 3) := by decide +kernel
theorem d_H_checkLetter_4 : decode b_H_checkLetter 4 = .ok (.iload_n 1, 1) := by decide +kernel
theorem d_H_checkLetter_5 : decode b_H_checkLetter 5 = .ok (.aload_n 0, 1) := by decide +kernel
theorem d_H_checkLetter_6 : decode b_H_checkLetter 6 = .ok (.getfield 37, 3) := by decide +kernel
theorem d_H_checkLetter_9 : decode b_H_checkLetter 9 = .ok (.getfield 184, 3) := by decide +kernel
theorem d_H_checkLetter_12 : decode b_H_checkLetter 12 = .ok (.if_icmp .lt 11, 3) := by decide +kernel
theorem d_H_checkLetter_15 : decode b_H_checkLetter 15 = .ok (.new 226, 3) := by decide +kernel
theorem d_H_checkLetter_18 : decode b_H_checkLetter 18 = .ok (.dup, 1) := by decide +kernel
theorem d_H_checkLetter_19 : decode b_H_checkLetter 19 = .ok (.invokespecial 228, 3) := by decide +kernel
theorem d_H_checkLetter_22 : decode b_H_checkLetter 22 = .ok (.athrow, 1) := by decide +kernel
theorem d_H_checkLetter_23 : decode b_H_checkLetter 23 = .ok (.return_, 1) := by decide +kernel

theorem d_H_checkOpenBasket_0 : decode b_H_checkOpenBasket 0 = .ok (.aload_n 0, 1) := by decide +kernel
theorem d_H_checkOpenBasket_1 : decode b_H_checkOpenBasket 1 = .ok (.iload_n 1, 1) := by decide +kernel
theorem d_H_checkOpenBasket_2 : decode b_H_checkOpenBasket 2 = .ok (.invokevirtual 219, 3) := by decide +kernel
theorem d_H_checkOpenBasket_5 : decode b_H_checkOpenBasket 5 = .ok (.ifCond .eq 15, 3) := by decide +kernel
theorem d_H_checkOpenBasket_8 : decode b_H_checkOpenBasket 8 = .ok (.aload_n 0, 1) := by decide +kernel
theorem d_H_checkOpenBasket_9 : decode b_H_checkOpenBasket 9 = .ok (.getfield 43, 3) := by decide +kernel
theorem d_H_checkOpenBasket_12 : decode b_H_checkOpenBasket 12 = .ok (.iload_n 1, 1) := by decide +kernel
theorem d_H_checkOpenBasket_13 : decode b_H_checkOpenBasket 13 = .ok (.aaload, 1) := by decide +kernel
theorem d_H_checkOpenBasket_14 : decode b_H_checkOpenBasket 14 = .ok (.getfield 209, 3) := by decide +kernel
theorem d_H_checkOpenBasket_17 : decode b_H_checkOpenBasket 17 = .ok (.ifCond .ne 11, 3) := by decide +kernel
theorem d_H_checkOpenBasket_20 : decode b_H_checkOpenBasket 20 = .ok (.new 222, 3) := by decide +kernel
theorem d_H_checkOpenBasket_23 : decode b_H_checkOpenBasket 23 = .ok (.dup, 1) := by decide +kernel
theorem d_H_checkOpenBasket_24 : decode b_H_checkOpenBasket 24 = .ok (.invokespecial 224, 3) := by decide +kernel
theorem d_H_checkOpenBasket_27 : decode b_H_checkOpenBasket 27 = .ok (.athrow, 1) := by decide +kernel
theorem d_H_checkOpenBasket_28 : decode b_H_checkOpenBasket 28 = .ok (.return_, 1) := by decide +kernel

set_option maxHeartbeats 4000000 in
set_option maxRecDepth 100000 in
theorem c_H_isArticle (l : Launch) (Z : qZ) (hZ : qok (pX Z)) (V : qV) (Y : qY) (a : Int32) : CT l y_H_isArticle { frames := 1, cells := 0, slots := 0, locals := 40 } (pX Z) qN [.int a] V Y (.inl (some (.int (f_isArticle a)))) V Y := by
  refine CT.of (cc := b_H_isArticle) (maxL := 1) (ret := (some .boolean)) hZ (by decide) w_250 (Nat.le_of_ble_eq_true rfl) ?_
  intro p e s m below meth c C hr hex hlt
  refine gq_iload_n C d_H_isArticle_0 rfl ?_
  refine gq_if_lt C (tgt := 14) d_H_isArticle_1 rfl (fun hb1 => ?_) (fun hb1 => ?_)
  · skip
    refine gq_iconst C (v := 0) d_H_isArticle_14 (by decide) ?_
    exact gq_zretE C hr (by decide) (by unfold f_isArticle; simp [*]) rfl rfl (by decide) (by decide) d_H_isArticle_15
  · skip
    refine gq_iload_n C d_H_isArticle_4 rfl ?_
    refine gq_bipush C (v := 8) d_H_isArticle_5 (by decide) ?_
    refine gq_icmp_ge C (tgt := 14) d_H_isArticle_7 rfl (fun hb7 => ?_) (fun hb7 => ?_)
    · skip
      refine gq_iconst C (v := 0) d_H_isArticle_14 (by decide) ?_
      exact gq_zretE C hr (by decide) (by unfold f_isArticle; simp [*]) rfl rfl (by decide) (by decide) d_H_isArticle_15
    · skip
      refine gq_iconst C (v := 1) d_H_isArticle_10 (by decide) ?_
      refine gq_goto C (tgt := 15) d_H_isArticle_11 rfl ?_
      exact gq_zretE C hr (by decide) (by unfold f_isArticle; simp [*]) rfl rfl (by decide) (by decide) d_H_isArticle_15

set_option maxHeartbeats 4000000 in
set_option maxRecDepth 100000 in
theorem c_H_isSlot (l : Launch) (Z : qZ) (hZ : qok (pX Z)) (V : qV) (Y : qY) (a : Int32) : CT l y_H_isSlot { frames := 1, cells := 0, slots := 0, locals := 40 } (pX Z) qN [.int a] V Y (.inl (some (.int (f_isSlot a)))) V Y := by
  refine CT.of (cc := b_H_isSlot) (maxL := 1) (ret := (some .boolean)) hZ (by decide) w_328 (Nat.le_of_ble_eq_true rfl) ?_
  intro p e s m below meth c C hr hex hlt
  refine gq_iload_n C d_H_isSlot_0 rfl ?_
  refine gq_if_lt C (tgt := 13) d_H_isSlot_1 rfl (fun hb1 => ?_) (fun hb1 => ?_)
  · skip
    refine gq_iconst C (v := 0) d_H_isSlot_13 (by decide) ?_
    exact gq_zretE C hr (by decide) (by unfold f_isSlot; simp [*]) rfl rfl (by decide) (by decide) d_H_isSlot_14
  · skip
    refine gq_iload_n C d_H_isSlot_4 rfl ?_
    refine gq_iconst C (v := 2) d_H_isSlot_5 (by decide) ?_
    refine gq_icmp_ge C (tgt := 13) d_H_isSlot_6 rfl (fun hb6 => ?_) (fun hb6 => ?_)
    · skip
      refine gq_iconst C (v := 0) d_H_isSlot_13 (by decide) ?_
      exact gq_zretE C hr (by decide) (by unfold f_isSlot; simp [*]) rfl rfl (by decide) (by decide) d_H_isSlot_14
    · skip
      refine gq_iconst C (v := 1) d_H_isSlot_9 (by decide) ?_
      refine gq_goto C (tgt := 14) d_H_isSlot_10 rfl ?_
      exact gq_zretE C hr (by decide) (by unfold f_isSlot; simp [*]) rfl rfl (by decide) (by decide) d_H_isSlot_14

set_option maxHeartbeats 4000000 in
set_option maxRecDepth 100000 in
theorem c_H_isBundleSize (l : Launch) (Z : qZ) (hZ : qok (pX Z)) (V : qV) (Y : qY) (a : Int32) : CT l y_H_isBundleSize { frames := 1, cells := 0, slots := 0, locals := 40 } (pX Z) qN [.int a] V Y (.inl (some (.int (f_isBundleSize a)))) V Y := by
  refine CT.of (cc := b_H_isBundleSize) (maxL := 1) (ret := (some .boolean)) hZ (by decide) w_331 (Nat.le_of_ble_eq_true rfl) ?_
  intro p e s m below meth c C hr hex hlt
  refine gq_iload_n C d_H_isBundleSize_0 rfl ?_
  refine gq_if_eq C (tgt := 15) d_H_isBundleSize_1 rfl (fun hb1 => ?_) (fun hb1 => ?_)
  · skip
    refine gq_iconst C (v := 1) d_H_isBundleSize_15 (by decide) ?_
    refine gq_goto C (tgt := 20) d_H_isBundleSize_16 rfl ?_
    exact gq_zretE C hr (by decide) (by unfold f_isBundleSize; simp [*]) rfl rfl (by decide) (by decide) d_H_isBundleSize_20
  · skip
    refine gq_iload_n C d_H_isBundleSize_4 rfl ?_
    refine gq_iconst C (v := 2) d_H_isBundleSize_5 (by decide) ?_
    refine gq_icmp_lt C (tgt := 19) d_H_isBundleSize_6 rfl (fun hb6 => ?_) (fun hb6 => ?_)
    · skip
      refine gq_iconst C (v := 0) d_H_isBundleSize_19 (by decide) ?_
      exact gq_zretE C hr (by decide) (by unfold f_isBundleSize; simp [*]) rfl rfl (by decide) (by decide) d_H_isBundleSize_20
    · skip
      refine gq_iload_n C d_H_isBundleSize_9 rfl ?_
      refine gq_bipush C (v := 12) d_H_isBundleSize_10 (by decide) ?_
      refine gq_icmp_gt C (tgt := 19) d_H_isBundleSize_12 rfl (fun hb12 => ?_) (fun hb12 => ?_)
      · skip
        refine gq_iconst C (v := 0) d_H_isBundleSize_19 (by decide) ?_
        exact gq_zretE C hr (by decide) (by unfold f_isBundleSize; simp [*]) rfl rfl (by decide) (by decide) d_H_isBundleSize_20
      · skip
        refine gq_iconst C (v := 1) d_H_isBundleSize_15 (by decide) ?_
        refine gq_goto C (tgt := 20) d_H_isBundleSize_16 rfl ?_
        exact gq_zretE C hr (by decide) (by unfold f_isBundleSize; simp [*]) rfl rfl (by decide) (by decide) d_H_isBundleSize_20

set_option maxHeartbeats 4000000 in
set_option maxRecDepth 100000 in
theorem c_H_isAmount (l : Launch) (Z : qZ) (hZ : qok (pX Z)) (V : qV) (Y : qY) (a : Int32) : CT l y_H_isAmount { frames := 1, cells := 0, slots := 0, locals := 40 } (pX Z) qN [.int a] V Y (.inl (some (.int (f_isAmount a)))) V Y := by
  refine CT.of (cc := b_H_isAmount) (maxL := 1) (ret := (some .boolean)) hZ (by decide) w_253 (Nat.le_of_ble_eq_true rfl) ?_
  intro p e s m below meth c C hr hex hlt
  refine gq_iload_n C d_H_isAmount_0 rfl ?_
  refine gq_if_lt C (tgt := 14) d_H_isAmount_1 rfl (fun hb1 => ?_) (fun hb1 => ?_)
  · skip
    refine gq_iconst C (v := 0) d_H_isAmount_14 (by decide) ?_
    exact gq_zretE C hr (by decide) (by unfold f_isAmount; simp [*]) rfl rfl (by decide) (by decide) d_H_isAmount_15
  · skip
    refine gq_iload_n C d_H_isAmount_4 rfl ?_
    refine gq_ldc C w_254 d_H_isAmount_5 ?_
    refine gq_icmp_gt C (tgt := 14) d_H_isAmount_7 rfl (fun hb7 => ?_) (fun hb7 => ?_)
    · skip
      refine gq_iconst C (v := 0) d_H_isAmount_14 (by decide) ?_
      exact gq_zretE C hr (by decide) (by unfold f_isAmount; simp [*]) rfl rfl (by decide) (by decide) d_H_isAmount_15
    · skip
      refine gq_iconst C (v := 1) d_H_isAmount_10 (by decide) ?_
      refine gq_goto C (tgt := 15) d_H_isAmount_11 rfl ?_
      exact gq_zretE C hr (by decide) (by unfold f_isAmount; simp [*]) rfl rfl (by decide) (by decide) d_H_isAmount_15

set_option maxHeartbeats 4000000 in
set_option maxRecDepth 100000 in
theorem c_H_isTillOrDesk (l : Launch) (Z : qZ) (hZ : qok (pX Z)) (V : qV) (Y : qY) (a : Int32) : CT l y_H_isTillOrDesk { frames := 1, cells := 0, slots := 0, locals := 40 } (pX Z) qN [.int a] V Y (.inl (some (.int (f_isTD a)))) V Y := by
  refine CT.of (cc := b_H_isTillOrDesk) (maxL := 1) (ret := (some .boolean)) hZ (by decide) w_418 (Nat.le_of_ble_eq_true rfl) ?_
  intro p e s m below meth c C hr hex hlt
  refine gq_iload_n C d_H_isTillOrDesk_0 rfl ?_
  refine gq_if_lt C (tgt := 13) d_H_isTillOrDesk_1 rfl (fun hb1 => ?_) (fun hb1 => ?_)
  · skip
    refine gq_iconst C (v := 0) d_H_isTillOrDesk_13 (by decide) ?_
    exact gq_zretE C hr (by decide) (by unfold f_isTD; simp [*]) rfl rfl (by decide) (by decide) d_H_isTillOrDesk_14
  · skip
    refine gq_iload_n C d_H_isTillOrDesk_4 rfl ?_
    refine gq_iconst C (v := 4) d_H_isTillOrDesk_5 (by decide) ?_
    refine gq_icmp_gt C (tgt := 13) d_H_isTillOrDesk_6 rfl (fun hb6 => ?_) (fun hb6 => ?_)
    · skip
      refine gq_iconst C (v := 0) d_H_isTillOrDesk_13 (by decide) ?_
      exact gq_zretE C hr (by decide) (by unfold f_isTD; simp [*]) rfl rfl (by decide) (by decide) d_H_isTillOrDesk_14
    · skip
      refine gq_iconst C (v := 1) d_H_isTillOrDesk_9 (by decide) ?_
      refine gq_goto C (tgt := 14) d_H_isTillOrDesk_10 rfl ?_
      exact gq_zretE C hr (by decide) (by unfold f_isTD; simp [*]) rfl rfl (by decide) (by decide) d_H_isTillOrDesk_14

set_option maxHeartbeats 4000000 in
set_option maxRecDepth 100000 in
theorem c_H_isBook (l : Launch) (Z : qZ) (hZ : qok (pX Z)) (V : qV) (Y : qY) (b : Int32) : CT l y_H_isBook { frames := 1, cells := 0, slots := 0, locals := 40 } (pX Z) qN [.ref (al Z 0 0), .int b] V Y (.inl (some (.int (f_isBook V b)))) V Y := by
  refine CT.of (cc := b_H_isBook) (maxL := 2) (ret := (some .boolean)) hZ (by decide) w_380 (Nat.le_of_ble_eq_true rfl) ?_
  intro p e s m below meth c C hr hex hlt
  refine gq_iload_n C d_H_isBook_0 rfl ?_
  refine gq_iconst C (v := 1) d_H_isBook_1 (by decide) ?_
  refine gq_icmp_lt C (tgt := 17) d_H_isBook_2 rfl (fun hb2 => ?_) (fun hb2 => ?_)
  · skip
    refine gq_iconst C (v := 0) d_H_isBook_17 (by decide) ?_
    exact gq_zretE C hr (by decide) (by unfold f_isBook; simp [*]) rfl rfl (by decide) (by decide) d_H_isBook_18
  · skip
    refine gq_iload_n C d_H_isBook_5 rfl ?_
    refine gq_aload_n C d_H_isBook_6 rfl ?_
    refine gq_get C (g := 0) (j := 0) (ci := 7) (k := 2) (v := .int (V 0 0 2)) (qm (by decide) (by decide)) rfl rfl in_H (by decide) w_205 rfl d_H_isBook_7 ?_
    refine gq_icmp_gt C (tgt := 17) d_H_isBook_10 rfl (fun hb10 => ?_) (fun hb10 => ?_)
    · skip
      refine gq_iconst C (v := 0) d_H_isBook_17 (by decide) ?_
      exact gq_zretE C hr (by decide) (by unfold f_isBook; simp [*]) rfl rfl (by decide) (by decide) d_H_isBook_18
    · skip
      refine gq_iconst C (v := 1) d_H_isBook_13 (by decide) ?_
      refine gq_goto C (tgt := 18) d_H_isBook_14 rfl ?_
      exact gq_zretE C hr (by decide) (by unfold f_isBook; simp [*]) rfl rfl (by decide) (by decide) d_H_isBook_18

set_option maxHeartbeats 4000000 in
set_option maxRecDepth 100000 in
theorem c_H_isBasket (l : Launch) (Z : qZ) (hZ : qok (pX Z)) (V : qV) (Y : qY) (k : Int32) : CT l y_H_isBasket { frames := 1, cells := 0, slots := 0, locals := 40 } (pX Z) qN [.ref (al Z 0 0), .int k] V Y (.inl (some (.int (f_isBasket V k)))) V Y := by
  refine CT.of (cc := b_H_isBasket) (maxL := 2) (ret := (some .boolean)) hZ (by decide) w_592 (Nat.le_of_ble_eq_true rfl) ?_
  intro p e s m below meth c C hr hex hlt
  refine gq_iload_n C d_H_isBasket_0 rfl ?_
  refine gq_if_lt C (tgt := 16) d_H_isBasket_1 rfl (fun hb1 => ?_) (fun hb1 => ?_)
  · skip
    refine gq_iconst C (v := 0) d_H_isBasket_16 (by decide) ?_
    exact gq_zretE C hr (by decide) (by unfold f_isBasket; simp [*]) rfl rfl (by decide) (by decide) d_H_isBasket_17
  · skip
    refine gq_iload_n C d_H_isBasket_4 rfl ?_
    refine gq_aload_n C d_H_isBasket_5 rfl ?_
    refine gq_get C (g := 0) (j := 0) (ci := 7) (k := 7) (v := .int (V 0 0 7)) (qm (by decide) (by decide)) rfl rfl in_H (by decide) w_210 rfl d_H_isBasket_6 ?_
    refine gq_icmp_ge C (tgt := 16) d_H_isBasket_9 rfl (fun hb9 => ?_) (fun hb9 => ?_)
    · skip
      refine gq_iconst C (v := 0) d_H_isBasket_16 (by decide) ?_
      exact gq_zretE C hr (by decide) (by unfold f_isBasket; simp [*]) rfl rfl (by decide) (by decide) d_H_isBasket_17
    · skip
      refine gq_iconst C (v := 1) d_H_isBasket_12 (by decide) ?_
      refine gq_goto C (tgt := 17) d_H_isBasket_13 rfl ?_
      exact gq_zretE C hr (by decide) (by unfold f_isBasket; simp [*]) rfl rfl (by decide) (by decide) d_H_isBasket_17

set_option maxHeartbeats 4000000 in
set_option maxRecDepth 100000 in
theorem c_H_sells (l : Launch) (Z : qZ) (hZ : qok (pX Z)) (V : qV) (Y : qY) (b : Nat) (hb : b < 9) (n : Nat) (hn : n < 8) : CT l y_H_sells { frames := 1, cells := 0, slots := 0, locals := 40 } (pX Z) qN [.ref (al Z 0 0), .int (nI (b + 1)), .int (nI n)] V Y (.inl (some (.int (f_sells V (b + 1) n)))) V Y := by
  refine CT.of (cc := b_H_sells) (maxL := 3) (ret := (some .boolean)) hZ (by decide) w_611 (Nat.le_of_ble_eq_true rfl) ?_
  intro p e s m below meth c C hr hex hlt
  refine gq_aload_n C d_H_sells_0 rfl ?_
  refine gq_get C (g := 0) (j := 0) (ci := 7) (k := 1) (v := .ref (al Z 5 0)) (qm (by decide) (by decide)) rfl rfl in_H (by decide) w_204 rfl d_H_sells_1 ?_
  refine gq_iload_n C d_H_sells_4 rfl ?_
  refine gq_iconst C (v := 1) d_H_sells_5 (by decide) ?_
  refine gq_isub C d_H_sells_6 ?_
  refine G.eqS (st' := [.int (nI b), .ref (al Z 5 0)]) (by first | (rw [show (nI (b + 1)) - 1 = nI b from (nI_pred b)]; done) | (rw [show (nI (b + 1)) - 1 = nI b from (nI_pred b)]; rfl)) ?_
  refine gq_aald C (g := 5) (j := 0) (a := b) (t0 := 3) (b := al Z 1 (b + 1)) (qm (by decide) (by decide)) rfl rfl rfl hb (by decide) rfl d_H_sells_7 ?_
  refine gq_get C (g := 1) (j := (b + 1)) (ci := 5) (k := 0) (v := .ref (al Z 2 (b + 1))) (qm (by decide) (Nat.succ_lt_succ hb)) rfl rfl in_L (by decide) w_34 rfl d_H_sells_8 ?_
  refine gq_iload_n C d_H_sells_11 rfl ?_
  refine gq_iald C (g := 2) (j := (b + 1)) (a := n) (t0 := 0) (qm (by decide) (Nat.succ_lt_succ hb)) rfl rfl rfl hn (by decide) d_H_sells_12 ?_
  refine gq_if_eq C (tgt := 20) d_H_sells_13 rfl (fun hb13 => ?_) (fun hb13 => ?_)
  · skip
    refine gq_iconst C (v := 0) d_H_sells_20 (by decide) ?_
    exact gq_zretE C hr (by decide) (by unfold f_sells; simp [*]) rfl rfl (by decide) (by decide) d_H_sells_21
  · skip
    refine gq_iconst C (v := 1) d_H_sells_16 (by decide) ?_
    refine gq_goto C (tgt := 21) d_H_sells_17 rfl ?_
    exact gq_zretE C hr (by decide) (by unfold f_sells; simp [*]) rfl rfl (by decide) (by decide) d_H_sells_21

set_option maxHeartbeats 4000000 in
set_option maxRecDepth 100000 in
theorem c_H_checkTill (l : Launch) (Z : qZ) (hZ : qok (pX Z)) (V : qV) (Y : qY) (t : Int32) (h0 : ¬ t < 0) (h1 : t < 4) : CT l y_H_checkTill { frames := 6, cells := 0, slots := 0, locals := 96 } (pX Z) qN [.int t] V Y (.inl none) V Y := by
  refine CT.of (cc := b_H_checkTill) (maxL := 1) (ret := none) hZ (by decide) w_428 (Nat.le_of_ble_eq_true rfl) ?_
  intro p e s m below meth c C hr hex hlt
  refine gq_iload_n C d_H_checkTill_0 rfl ?_
  refine gq_if_lt C (tgt := 9) d_H_checkTill_1 rfl (fun hb => by first | contradiction | contradiction) (fun hb1 => ?_)
  refine gq_iload_n C d_H_checkTill_4 rfl ?_
  refine gq_iconst C (v := 4) d_H_checkTill_5 (by decide) ?_
  refine gq_icmp_lt C (tgt := 17) d_H_checkTill_6 rfl (fun hb6 => ?_) (fun hb => by first | contradiction | contradiction)
  exact gq_vret C hr (by decide) (by decide) d_H_checkTill_17

set_option maxHeartbeats 4000000 in
set_option maxRecDepth 100000 in
theorem c_H_checkTill_x (l : Launch) (hadm : ∀ e : Env, l.admits e → e.platform.stackTraces = false) (Z : qZ) (hZ : qok (pX Z)) (V : qV) (Y : qY) (t : Int32) (h : t < 0 ∨ ¬ t < 4) : CT l y_H_checkTill { frames := 6, cells := 1, slots := 6, locals := 96 } (pX Z) qN [.int t] V Y (.inr "java/lang/IllegalArgumentException") V Y := by
  refine CT.of (cc := b_H_checkTill) (maxL := 1) (ret := none) hZ (by decide) w_428 (Nat.le_of_ble_eq_true rfl) ?_
  intro p e s m below meth c C hr hex hlt
  refine gq_iload_n C d_H_checkTill_0 rfl ?_
  refine gq_if_lt C (tgt := 9) d_H_checkTill_1 rfl (fun hb1 => ?_) (fun hb1 => ?_)
  · skip
    exact gq_throw C hadm hex hlt tw_IllegalArgumentException w_255 w_256 w_13 (by decide) (by decide) (by decide) (by decide) (by decide) (Nat.le_of_ble_eq_true rfl) d_H_checkTill_9 d_H_checkTill_12 d_H_checkTill_13 d_H_checkTill_16
  · skip
    refine gq_iload_n C d_H_checkTill_4 rfl ?_
    refine gq_iconst C (v := 4) d_H_checkTill_5 (by decide) ?_
    refine gq_icmp_lt C (tgt := 17) d_H_checkTill_6 rfl (fun hb6 => ?_) (fun hb6 => ?_)
    · skip
      exfalso
      (rcases h with h | h <;> contradiction)
    · skip
      exact gq_throw C hadm hex hlt tw_IllegalArgumentException w_255 w_256 w_13 (by decide) (by decide) (by decide) (by decide) (by decide) (Nat.le_of_ble_eq_true rfl) d_H_checkTill_9 d_H_checkTill_12 d_H_checkTill_13 d_H_checkTill_16

set_option maxHeartbeats 4000000 in
set_option maxRecDepth 100000 in
theorem c_H_checkLetter (l : Launch) (Z : qZ) (hZ : qok (pX Z)) (V : qV) (Y : qY) (i : Int32) (h0 : ¬ i < 0) (h1 : i < V 12 0 4) : CT l y_H_checkLetter { frames := 6, cells := 0, slots := 0, locals := 96 } (pX Z) qN [.ref (al Z 0 0), .int i] V Y (.inl none) V Y := by
  refine CT.of (cc := b_H_checkLetter) (maxL := 2) (ret := none) hZ (by decide) w_488 (Nat.le_of_ble_eq_true rfl) ?_
  intro p e s m below meth c C hr hex hlt
  refine gq_iload_n C d_H_checkLetter_0 rfl ?_
  refine gq_if_lt C (tgt := 15) d_H_checkLetter_1 rfl (fun hb => by first | contradiction | contradiction) (fun hb1 => ?_)
  refine gq_iload_n C d_H_checkLetter_4 rfl ?_
  refine gq_aload_n C d_H_checkLetter_5 rfl ?_
  refine gq_get C (g := 0) (j := 0) (ci := 7) (k := 5) (v := .ref (al Z 12 0)) (qm (by decide) (by decide)) rfl rfl in_H (by decide) w_208 rfl d_H_checkLetter_6 ?_
  refine gq_get C (g := 12) (j := 0) (ci := 3) (k := 4) (v := .int (V 12 0 4)) (qm (by decide) (by decide)) rfl rfl in_R (by decide) w_167 rfl d_H_checkLetter_9 ?_
  refine gq_icmp_lt C (tgt := 23) d_H_checkLetter_12 rfl (fun hb12 => ?_) (fun hb => by first | contradiction | contradiction)
  exact gq_vret C hr (by decide) (by decide) d_H_checkLetter_23

set_option maxHeartbeats 4000000 in
set_option maxRecDepth 100000 in
theorem c_H_checkLetter_x (l : Launch) (hadm : ∀ e : Env, l.admits e → e.platform.stackTraces = false) (Z : qZ) (hZ : qok (pX Z)) (V : qV) (Y : qY) (i : Int32) (h : i < 0 ∨ ¬ i < V 12 0 4) : CT l y_H_checkLetter { frames := 6, cells := 1, slots := 6, locals := 96 } (pX Z) qN [.ref (al Z 0 0), .int i] V Y (.inr "java/lang/IndexOutOfBoundsException") V Y := by
  refine CT.of (cc := b_H_checkLetter) (maxL := 2) (ret := none) hZ (by decide) w_488 (Nat.le_of_ble_eq_true rfl) ?_
  intro p e s m below meth c C hr hex hlt
  refine gq_iload_n C d_H_checkLetter_0 rfl ?_
  refine gq_if_lt C (tgt := 15) d_H_checkLetter_1 rfl (fun hb1 => ?_) (fun hb1 => ?_)
  · skip
    exact gq_throw C hadm hex hlt tw_IndexOutOfBoundsException w_489 w_490 w_16 (by decide) (by decide) (by decide) (by decide) (by decide) (Nat.le_of_ble_eq_true rfl) d_H_checkLetter_15 d_H_checkLetter_18 d_H_checkLetter_19 d_H_checkLetter_22
  · skip
    refine gq_iload_n C d_H_checkLetter_4 rfl ?_
    refine gq_aload_n C d_H_checkLetter_5 rfl ?_
    refine gq_get C (g := 0) (j := 0) (ci := 7) (k := 5) (v := .ref (al Z 12 0)) (qm (by decide) (by decide)) rfl rfl in_H (by decide) w_208 rfl d_H_checkLetter_6 ?_
    refine gq_get C (g := 12) (j := 0) (ci := 3) (k := 4) (v := .int (V 12 0 4)) (qm (by decide) (by decide)) rfl rfl in_R (by decide) w_167 rfl d_H_checkLetter_9 ?_
    refine gq_icmp_lt C (tgt := 23) d_H_checkLetter_12 rfl (fun hb12 => ?_) (fun hb12 => ?_)
    · skip
      exfalso
      (rcases h with h | h <;> contradiction)
    · skip
      exact gq_throw C hadm hex hlt tw_IndexOutOfBoundsException w_489 w_490 w_16 (by decide) (by decide) (by decide) (by decide) (by decide) (Nat.le_of_ble_eq_true rfl) d_H_checkLetter_15 d_H_checkLetter_18 d_H_checkLetter_19 d_H_checkLetter_22

set_option maxHeartbeats 4000000 in
set_option maxRecDepth 100000 in
theorem c_H_checkOpenBasket (l : Launch) (Z : qZ) (hZ : qok (pX Z)) (V : qV) (Y : qY) (k : Nat) (hk : k < 40) (h1 : f_isBasket V (nI k) = 1) (h2 : ¬ V 15 k 2 = 0) : CT l y_H_checkOpenBasket { frames := 6, cells := 0, slots := 0, locals := 96 } (pX Z) qN [.ref (al Z 0 0), .int (nI k)] V Y (.inl none) V Y := by
  refine CT.of (cc := b_H_checkOpenBasket) (maxL := 2) (ret := none) hZ (by decide) w_588 (Nat.le_of_ble_eq_true rfl) ?_
  intro p e s m below meth c C hr hex hlt
  refine gq_aload_n C d_H_checkOpenBasket_0 rfl ?_
  refine gq_iload_n C d_H_checkOpenBasket_1 rfl ?_
  refine gq_callV C (st := []) (fun _ h => h) (c_H_isBasket l Z hZ _ _ (nI k)) (qm (by decide) (by decide)) rfl rfl w_589 w_591 ws_H_isBasket w_592 w_1 ⟨by decide, by decide, (by decide +kernel : (parseMethodDescriptor y_H_isBasket.desc).map (fun d => d.parameters.length) = some 1)⟩ ⟨by decide, by decide⟩ ⟨by decide, by decide⟩ rfl (Nat.le_of_ble_eq_true rfl) d_H_checkOpenBasket_2 ?_
  refine gq_if_eq C (tgt := 20) d_H_checkOpenBasket_5 rfl (fun hb => by first | contradiction | simp_all) (fun hb5 => ?_)
  refine gq_aload_n C d_H_checkOpenBasket_8 rfl ?_
  refine gq_get C (g := 0) (j := 0) (ci := 7) (k := 6) (v := .ref (al Z 14 0)) (qm (by decide) (by decide)) rfl rfl in_H (by decide) w_209 rfl d_H_checkOpenBasket_9 ?_
  refine gq_iload_n C d_H_checkOpenBasket_12 rfl ?_
  refine gq_aald C (g := 14) (j := 0) (a := k) (t0 := 6) (b := al Z 15 k) (qm (by decide) (by decide)) rfl rfl rfl hk (by decide) rfl d_H_checkOpenBasket_13 ?_
  refine gq_get C (g := 15) (j := k) (ci := 0) (k := 2) (v := .int (V 15 k 2)) (qm (by decide) hk) rfl rfl in_B (by decide) w_191 rfl d_H_checkOpenBasket_14 ?_
  refine gq_if_ne C (tgt := 28) d_H_checkOpenBasket_17 rfl (fun hb17 => ?_) (fun hb => by first | contradiction | contradiction)
  exact gq_vret C hr (by decide) (by decide) d_H_checkOpenBasket_28

set_option maxHeartbeats 4000000 in
set_option maxRecDepth 100000 in
theorem c_H_checkOpenBasket_x1 (l : Launch) (hadm : ∀ e : Env, l.admits e → e.platform.stackTraces = false) (Z : qZ) (hZ : qok (pX Z)) (V : qV) (Y : qY) (k : Int32) (h : f_isBasket V k = 0) : CT l y_H_checkOpenBasket { frames := 6, cells := 1, slots := 6, locals := 96 } (pX Z) qN [.ref (al Z 0 0), .int k] V Y (.inr "java/util/NoSuchElementException") V Y := by
  refine CT.of (cc := b_H_checkOpenBasket) (maxL := 2) (ret := none) hZ (by decide) w_588 (Nat.le_of_ble_eq_true rfl) ?_
  intro p e s m below meth c C hr hex hlt
  refine gq_aload_n C d_H_checkOpenBasket_0 rfl ?_
  refine gq_iload_n C d_H_checkOpenBasket_1 rfl ?_
  refine gq_callV C (st := []) (fun _ h => h) (c_H_isBasket l Z hZ _ _ k) (qm (by decide) (by decide)) rfl rfl w_589 w_591 ws_H_isBasket w_592 w_1 ⟨by decide, by decide, (by decide +kernel : (parseMethodDescriptor y_H_isBasket.desc).map (fun d => d.parameters.length) = some 1)⟩ ⟨by decide, by decide⟩ ⟨by decide, by decide⟩ rfl (Nat.le_of_ble_eq_true rfl) d_H_checkOpenBasket_2 ?_
  refine gq_if_eq C (tgt := 20) d_H_checkOpenBasket_5 rfl (fun hb5 => ?_) (fun hb => by first | contradiction | contradiction)
  exact gq_throw C hadm hex hlt tw_NoSuchElementException w_593 w_594 w_18 (by decide) (by decide) (by decide) (by decide) (by decide) (Nat.le_of_ble_eq_true rfl) d_H_checkOpenBasket_20 d_H_checkOpenBasket_23 d_H_checkOpenBasket_24 d_H_checkOpenBasket_27

set_option maxHeartbeats 4000000 in
set_option maxRecDepth 100000 in
theorem c_H_checkOpenBasket_x2 (l : Launch) (hadm : ∀ e : Env, l.admits e → e.platform.stackTraces = false) (Z : qZ) (hZ : qok (pX Z)) (V : qV) (Y : qY) (k : Nat) (hk : k < 40) (h1 : f_isBasket V (nI k) = 1) (h2 : V 15 k 2 = 0) : CT l y_H_checkOpenBasket { frames := 6, cells := 1, slots := 6, locals := 96 } (pX Z) qN [.ref (al Z 0 0), .int (nI k)] V Y (.inr "java/util/NoSuchElementException") V Y := by
  refine CT.of (cc := b_H_checkOpenBasket) (maxL := 2) (ret := none) hZ (by decide) w_588 (Nat.le_of_ble_eq_true rfl) ?_
  intro p e s m below meth c C hr hex hlt
  refine gq_aload_n C d_H_checkOpenBasket_0 rfl ?_
  refine gq_iload_n C d_H_checkOpenBasket_1 rfl ?_
  refine gq_callV C (st := []) (fun _ h => h) (c_H_isBasket l Z hZ _ _ (nI k)) (qm (by decide) (by decide)) rfl rfl w_589 w_591 ws_H_isBasket w_592 w_1 ⟨by decide, by decide, (by decide +kernel : (parseMethodDescriptor y_H_isBasket.desc).map (fun d => d.parameters.length) = some 1)⟩ ⟨by decide, by decide⟩ ⟨by decide, by decide⟩ rfl (Nat.le_of_ble_eq_true rfl) d_H_checkOpenBasket_2 ?_
  refine gq_if_eq C (tgt := 20) d_H_checkOpenBasket_5 rfl (fun hb => by first | contradiction | simp_all) (fun hb5 => ?_)
  refine gq_aload_n C d_H_checkOpenBasket_8 rfl ?_
  refine gq_get C (g := 0) (j := 0) (ci := 7) (k := 6) (v := .ref (al Z 14 0)) (qm (by decide) (by decide)) rfl rfl in_H (by decide) w_209 rfl d_H_checkOpenBasket_9 ?_
  refine gq_iload_n C d_H_checkOpenBasket_12 rfl ?_
  refine gq_aald C (g := 14) (j := 0) (a := k) (t0 := 6) (b := al Z 15 k) (qm (by decide) (by decide)) rfl rfl rfl hk (by decide) rfl d_H_checkOpenBasket_13 ?_
  refine gq_get C (g := 15) (j := k) (ci := 0) (k := 2) (v := .int (V 15 k 2)) (qm (by decide) hk) rfl rfl in_B (by decide) w_191 rfl d_H_checkOpenBasket_14 ?_
  refine gq_if_ne C (tgt := 28) d_H_checkOpenBasket_17 rfl (fun hb => by first | contradiction | contradiction) (fun hb17 => ?_)
  exact gq_throw C hadm hex hlt tw_NoSuchElementException w_593 w_594 w_18 (by decide) (by decide) (by decide) (by decide) (by decide) (Nat.le_of_ble_eq_true rfl) d_H_checkOpenBasket_20 d_H_checkOpenBasket_23 d_H_checkOpenBasket_24 d_H_checkOpenBasket_27

theorem d_H_article_0 : decode b_H_article 0 = .ok (.iload_n 1, 1) := by decide +kernel
theorem d_H_article_1 : decode b_H_article 1 = .ok (.invokestatic 52, 3) := by decide +kernel
theorem d_H_article_4 : decode b_H_article 4 = .ok (.ifCond .eq 10, 3) := by decide +kernel
theorem d_H_article_7 : decode b_H_article 7 = .ok (.iload_n 2, 1) := by decide +kernel
theorem d_H_article_8 : decode b_H_article 8 = .ok (.invokestatic 56, 3) := by decide +kernel
theorem d_H_article_11 : decode b_H_article 11 = .ok (.ifCond .ne 11, 3) := by decide +kernel
theorem d_H_article_14 : decode b_H_article 14 = .ok (.new 59, 3) := by decide +kernel
theorem d_H_article_17 : decode b_H_article 17 = .ok (.dup, 1) := by decide +kernel
theorem d_H_article_18 : decode b_H_article 18 = .ok (.invokespecial 61, 3) := by decide +kernel
theorem d_H_article_21 : decode b_H_article 21 = .ok (.athrow, 1) := by decide +kernel
theorem d_H_article_22 : decode b_H_article 22 = .ok (.aload_n 0, 1) := by decide +kernel
theorem d_H_article_23 : decode b_H_article 23 = .ok (.getfield 10, 3) := by decide +kernel
theorem d_H_article_26 : decode b_H_article 26 = .ok (.getfield 62, 3) := by decide +kernel
theorem d_H_article_29 : decode b_H_article 29 = .ok (.iload_n 1, 1) := by decide +kernel
theorem d_H_article_30 : decode b_H_article 30 = .ok (.iload_n 2, 1) := by decide +kernel
theorem d_H_article_31 : decode b_H_article 31 = .ok (.iastore, 1) := by decide +kernel
theorem d_H_article_32 : decode b_H_article 32 = .ok (.return_, 1) := by decide +kernel

theorem d_H_bundle_0 : decode b_H_bundle 0 = .ok (.iload_n 1, 1) := by decide +kernel
theorem d_H_bundle_1 : decode b_H_bundle 1 = .ok (.invokestatic 52, 3) := by decide +kernel
theorem d_H_bundle_4 : decode b_H_bundle 4 = .ok (.ifCond .eq 25, 3) := by decide +kernel
theorem d_H_bundle_7 : decode b_H_bundle 7 = .ok (.iload_n 2, 1) := by decide +kernel
theorem d_H_bundle_8 : decode b_H_bundle 8 = .ok (.invokestatic 66, 3) := by decide +kernel
theorem d_H_bundle_11 : decode b_H_bundle 11 = .ok (.ifCond .eq 18, 3) := by decide +kernel
theorem d_H_bundle_14 : decode b_H_bundle 14 = .ok (.iload_n 3, 1) := by decide +kernel
theorem d_H_bundle_15 : decode b_H_bundle 15 = .ok (.invokestatic 69, 3) := by decide +kernel
theorem d_H_bundle_18 : decode b_H_bundle 18 = .ok (.ifCond .eq 11, 3) := by decide +kernel
theorem d_H_bundle_21 : decode b_H_bundle 21 = .ok (.iload 4, 2) := by decide +kernel
theorem d_H_bundle_23 : decode b_H_bundle 23 = .ok (.invokestatic 56, 3) := by decide +kernel
theorem d_H_bundle_26 : decode b_H_bundle 26 = .ok (.ifCond .ne 11, 3) := by decide +kernel
theorem d_H_bundle_29 : decode b_H_bundle 29 = .ok (.new 59, 3) := by decide +kernel
theorem d_H_bundle_32 : decode b_H_bundle 32 = .ok (.dup, 1) := by decide +kernel
theorem d_H_bundle_33 : decode b_H_bundle 33 = .ok (.invokespecial 61, 3) := by decide +kernel
theorem d_H_bundle_36 : decode b_H_bundle 36 = .ok (.athrow, 1) := by decide +kernel
theorem d_H_bundle_37 : decode b_H_bundle 37 = .ok (.aload_n 0, 1) := by decide +kernel
theorem d_H_bundle_38 : decode b_H_bundle 38 = .ok (.getfield 10, 3) := by decide +kernel
theorem d_H_bundle_41 : decode b_H_bundle 41 = .ok (.getfield 72, 3) := by decide +kernel
theorem d_H_bundle_44 : decode b_H_bundle 44 = .ok (.iload_n 1, 1) := by decide +kernel
theorem d_H_bundle_45 : decode b_H_bundle 45 = .ok (.iconst 2, 1) := by decide +kernel
theorem d_H_bundle_46 : decode b_H_bundle 46 = .ok (.imul, 1) := by decide +kernel
theorem d_H_bundle_47 : decode b_H_bundle 47 = .ok (.iload_n 2, 1) := by decide +kernel
theorem d_H_bundle_48 : decode b_H_bundle 48 = .ok (.iadd, 1) := by decide +kernel
theorem d_H_bundle_49 : decode b_H_bundle 49 = .ok (.iload_n 3, 1) := by decide +kernel
theorem d_H_bundle_50 : decode b_H_bundle 50 = .ok (.iastore, 1) := by decide +kernel
theorem d_H_bundle_51 : decode b_H_bundle 51 = .ok (.aload_n 0, 1) := by decide +kernel
theorem d_H_bundle_52 : decode b_H_bundle 52 = .ok (.getfield 10, 3) := by decide +kernel
theorem d_H_bundle_55 : decode b_H_bundle 55 = .ok (.getfield 75, 3) := by decide +kernel
theorem d_H_bundle_58 : decode b_H_bundle 58 = .ok (.iload_n 1, 1) := by decide +kernel
theorem d_H_bundle_59 : decode b_H_bundle 59 = .ok (.iconst 2, 1) := by decide +kernel
theorem d_H_bundle_60 : decode b_H_bundle 60 = .ok (.imul, 1) := by decide +kernel
theorem d_H_bundle_61 : decode b_H_bundle 61 = .ok (.iload_n 2, 1) := by decide +kernel
theorem d_H_bundle_62 : decode b_H_bundle 62 = .ok (.iadd, 1) := by decide +kernel
theorem d_H_bundle_63 : decode b_H_bundle 63 = .ok (.iload 4, 2) := by decide +kernel
theorem d_H_bundle_65 : decode b_H_bundle 65 = .ok (.iastore, 1) := by decide +kernel
theorem d_H_bundle_66 : decode b_H_bundle 66 = .ok (.return_, 1) := by decide +kernel

theorem d_H_publish_0 : decode b_H_publish 0 = .ok (.aload_n 0, 1) := by decide +kernel
theorem d_H_publish_1 : decode b_H_publish 1 = .ok (.getfield 78, 3) := by decide +kernel
theorem d_H_publish_4 : decode b_H_publish 4 = .ok (.bipush 9, 2) := by decide +kernel
theorem d_H_publish_6 : decode b_H_publish 6 = .ok (.if_icmp .lt 11, 3) := by decide +kernel
theorem d_H_publish_9 : decode b_H_publish 9 = .ok (.new 82, 3) := by decide +kernel
theorem d_H_publish_12 : decode b_H_publish 12 = .ok (.dup, 1) := by decide +kernel
theorem d_H_publish_13 : decode b_H_publish 13 = .ok (.invokespecial 84, 3) := by decide +kernel
theorem d_H_publish_16 : decode b_H_publish 16 = .ok (.athrow, 1) := by decide +kernel
theorem d_H_publish_17 : decode b_H_publish 17 = .ok (.aload_n 0, 1) := by decide +kernel
theorem d_H_publish_18 : decode b_H_publish 18 = .ok (.getfield 16, 3) := by decide +kernel
theorem d_H_publish_21 : decode b_H_publish 21 = .ok (.aload_n 0, 1) := by decide +kernel
theorem d_H_publish_22 : decode b_H_publish 22 = .ok (.getfield 78, 3) := by decide +kernel
theorem d_H_publish_25 : decode b_H_publish 25 = .ok (.aaload, 1) := by decide +kernel
theorem d_H_publish_26 : decode b_H_publish 26 = .ok (.aload_n 0, 1) := by decide +kernel
theorem d_H_publish_27 : decode b_H_publish 27 = .ok (.getfield 10, 3) := by decide +kernel
theorem d_H_publish_30 : decode b_H_publish 30 = .ok (.invokevirtual 85, 3) := by decide +kernel
theorem d_H_publish_33 : decode b_H_publish 33 = .ok (.aload_n 0, 1) := by decide +kernel
theorem d_H_publish_34 : decode b_H_publish 34 = .ok (.dup, 1) := by decide +kernel
theorem d_H_publish_35 : decode b_H_publish 35 = .ok (.getfield 78, 3) := by decide +kernel
theorem d_H_publish_38 : decode b_H_publish 38 = .ok (.iconst 1, 1) := by decide +kernel
theorem d_H_publish_39 : decode b_H_publish 39 = .ok (.iadd, 1) := by decide +kernel
theorem d_H_publish_40 : decode b_H_publish 40 = .ok (.putfield 78, 3) := by decide +kernel
theorem d_H_publish_43 : decode b_H_publish 43 = .ok (.iconst 0, 1) := by decide +kernel
theorem d_H_publish_44 : decode b_H_publish 44 = .ok (.istore_n 1, 1) := by decide +kernel
theorem d_H_publish_45 : decode b_H_publish 45 = .ok (.iload_n 1, 1) := by decide +kernel
theorem d_H_publish_46 : decode b_H_publish 46 = .ok (.iconst 4, 1) := by decide +kernel
theorem d_H_publish_47 : decode b_H_publish 47 = .ok (.if_icmp .ge 23, 3) := by decide +kernel
theorem d_H_publish_50 : decode b_H_publish 50 = .ok (.aload_n 0, 1) := by decide +kernel
theorem d_H_publish_51 : decode b_H_publish 51 = .ok (.getfield 37, 3) := by decide +kernel
theorem d_H_publish_54 : decode b_H_publish 54 = .ok (.iconst 0, 1) := by decide +kernel
theorem d_H_publish_55 : decode b_H_publish 55 = .ok (.iload_n 1, 1) := by decide +kernel
theorem d_H_publish_56 : decode b_H_publish 56 = .ok (.aload_n 0, 1) := by decide +kernel
theorem d_H_publish_57 : decode b_H_publish 57 = .ok (.getfield 78, 3) := by decide +kernel
theorem d_H_publish_60 : decode b_H_publish 60 = .ok (.iconst 0, 1) := by decide +kernel
theorem d_H_publish_61 : decode b_H_publish 61 = .ok (.invokevirtual 89, 3) := by decide +kernel
theorem d_H_publish_64 : decode b_H_publish 64 = .ok (.iinc 1 1, 3) := by decide +kernel
theorem d_H_publish_67 : decode b_H_publish 67 = .ok (.goto (-22), 3) := by decide +kernel
theorem d_H_publish_70 : decode b_H_publish 70 = .ok (.aload_n 0, 1) := by decide +kernel
theorem d_H_publish_71 : decode b_H_publish 71 = .ok (.getfield 78, 3) := by decide +kernel
theorem d_H_publish_74 : decode b_H_publish 74 = .ok (.ireturn, 1) := by decide +kernel

theorem d_H_price_0 : decode b_H_price 0 = .ok (.aload_n 0, 1) := by decide +kernel
theorem d_H_price_1 : decode b_H_price 1 = .ok (.iload_n 1, 1) := by decide +kernel
theorem d_H_price_2 : decode b_H_price 2 = .ok (.invokevirtual 93, 3) := by decide +kernel
theorem d_H_price_5 : decode b_H_price 5 = .ok (.ifCond .eq 10, 3) := by decide +kernel
theorem d_H_price_8 : decode b_H_price 8 = .ok (.iload_n 2, 1) := by decide +kernel
theorem d_H_price_9 : decode b_H_price 9 = .ok (.invokestatic 52, 3) := by decide +kernel
theorem d_H_price_12 : decode b_H_price 12 = .ok (.ifCond .ne 11, 3) := by decide +kernel
theorem d_H_price_15 : decode b_H_price 15 = .ok (.new 59, 3) := by decide +kernel
theorem d_H_price_18 : decode b_H_price 18 = .ok (.dup, 1) := by decide +kernel
theorem d_H_price_19 : decode b_H_price 19 = .ok (.invokespecial 61, 3) := by decide +kernel
theorem d_H_price_22 : decode b_H_price 22 = .ok (.athrow, 1) := by decide +kernel
theorem d_H_price_23 : decode b_H_price 23 = .ok (.aload_n 0, 1) := by decide +kernel
theorem d_H_price_24 : decode b_H_price 24 = .ok (.getfield 16, 3) := by decide +kernel
theorem d_H_price_27 : decode b_H_price 27 = .ok (.iload_n 1, 1) := by decide +kernel
theorem d_H_price_28 : decode b_H_price 28 = .ok (.iconst 1, 1) := by decide +kernel
theorem d_H_price_29 : decode b_H_price 29 = .ok (.isub, 1) := by decide +kernel
theorem d_H_price_30 : decode b_H_price 30 = .ok (.aaload, 1) := by decide +kernel
theorem d_H_price_31 : decode b_H_price 31 = .ok (.getfield 62, 3) := by decide +kernel
theorem d_H_price_34 : decode b_H_price 34 = .ok (.iload_n 2, 1) := by decide +kernel
theorem d_H_price_35 : decode b_H_price 35 = .ok (.iaload, 1) := by decide +kernel
theorem d_H_price_36 : decode b_H_price 36 = .ok (.ireturn, 1) := by decide +kernel

theorem d_H_activate_0 : decode b_H_activate 0 = .ok (.aload_n 0, 1) := by decide +kernel
theorem d_H_activate_1 : decode b_H_activate 1 = .ok (.iload_n 1, 1) := by decide +kernel
theorem d_H_activate_2 : decode b_H_activate 2 = .ok (.invokevirtual 93, 3) := by decide +kernel
theorem d_H_activate_5 : decode b_H_activate 5 = .ok (.ifCond .ne 11, 3) := by decide +kernel
theorem d_H_activate_8 : decode b_H_activate 8 = .ok (.new 59, 3) := by decide +kernel
theorem d_H_activate_11 : decode b_H_activate 11 = .ok (.dup, 1) := by decide +kernel
theorem d_H_activate_12 : decode b_H_activate 12 = .ok (.invokespecial 61, 3) := by decide +kernel
theorem d_H_activate_15 : decode b_H_activate 15 = .ok (.athrow, 1) := by decide +kernel
theorem d_H_activate_16 : decode b_H_activate 16 = .ok (.iload_n 1, 1) := by decide +kernel
theorem d_H_activate_17 : decode b_H_activate 17 = .ok (.aload_n 0, 1) := by decide +kernel
theorem d_H_activate_18 : decode b_H_activate 18 = .ok (.getfield 30, 3) := by decide +kernel
theorem d_H_activate_21 : decode b_H_activate 21 = .ok (.getfield 96, 3) := by decide +kernel
theorem d_H_activate_24 : decode b_H_activate 24 = .ok (.if_icmp .le 14, 3) := by decide +kernel
theorem d_H_activate_27 : decode b_H_activate 27 = .ok (.iload_n 1, 1) := by decide +kernel
theorem d_H_activate_28 : decode b_H_activate 28 = .ok (.aload_n 0, 1) := by decide +kernel
theorem d_H_activate_29 : decode b_H_activate 29 = .ok (.getfield 30, 3) := by decide +kernel
theorem d_H_activate_32 : decode b_H_activate 32 = .ok (.getfield 99, 3) := by decide +kernel
theorem d_H_activate_35 : decode b_H_activate 35 = .ok (.if_icmp .gt 11, 3) := by decide +kernel
theorem d_H_activate_38 : decode b_H_activate 38 = .ok (.new 82, 3) := by decide +kernel
theorem d_H_activate_41 : decode b_H_activate 41 = .ok (.dup, 1) := by decide +kernel
theorem d_H_activate_42 : decode b_H_activate 42 = .ok (.invokespecial 84, 3) := by decide +kernel
theorem d_H_activate_45 : decode b_H_activate 45 = .ok (.athrow, 1) := by decide +kernel
theorem d_H_activate_46 : decode b_H_activate 46 = .ok (.aload_n 0, 1) := by decide +kernel
theorem d_H_activate_47 : decode b_H_activate 47 = .ok (.getfield 30, 3) := by decide +kernel
theorem d_H_activate_50 : decode b_H_activate 50 = .ok (.iload_n 1, 1) := by decide +kernel
theorem d_H_activate_51 : decode b_H_activate 51 = .ok (.putfield 99, 3) := by decide +kernel
theorem d_H_activate_54 : decode b_H_activate 54 = .ok (.aload_n 0, 1) := by decide +kernel
theorem d_H_activate_55 : decode b_H_activate 55 = .ok (.getfield 30, 3) := by decide +kernel
theorem d_H_activate_58 : decode b_H_activate 58 = .ok (.invokevirtual 102, 3) := by decide +kernel
theorem d_H_activate_61 : decode b_H_activate 61 = .ok (.return_, 1) := by decide +kernel

theorem d_H_active_0 : decode b_H_active 0 = .ok (.aload_n 0, 1) := by decide +kernel
theorem d_H_active_1 : decode b_H_active 1 = .ok (.getfield 30, 3) := by decide +kernel
theorem d_H_active_4 : decode b_H_active 4 = .ok (.getfield 96, 3) := by decide +kernel
theorem d_H_active_7 : decode b_H_active 7 = .ok (.ireturn, 1) := by decide +kernel

theorem d_H_tick_0 : decode b_H_tick 0 = .ok (.iload_n 1, 1) := by decide +kernel
theorem d_H_tick_1 : decode b_H_tick 1 = .ok (.iconst 1, 1) := by decide +kernel
theorem d_H_tick_2 : decode b_H_tick 2 = .ok (.if_icmp .lt 10, 3) := by decide +kernel
theorem d_H_tick_5 : decode b_H_tick 5 = .ok (.iload_n 1, 1) := by decide +kernel
theorem d_H_tick_6 : decode b_H_tick 6 = .ok (.sipush 500, 3) := by decide +kernel
theorem d_H_tick_9 : decode b_H_tick 9 = .ok (.if_icmp .le 11, 3) := by decide +kernel
theorem d_H_tick_12 : decode b_H_tick 12 = .ok (.new 59, 3) := by decide +kernel
theorem d_H_tick_15 : decode b_H_tick 15 = .ok (.dup, 1) := by decide +kernel
theorem d_H_tick_16 : decode b_H_tick 16 = .ok (.invokespecial 61, 3) := by decide +kernel
theorem d_H_tick_19 : decode b_H_tick 19 = .ok (.athrow, 1) := by decide +kernel
theorem d_H_tick_20 : decode b_H_tick 20 = .ok (.iconst 0, 1) := by decide +kernel
theorem d_H_tick_21 : decode b_H_tick 21 = .ok (.istore_n 2, 1) := by decide +kernel
theorem d_H_tick_22 : decode b_H_tick 22 = .ok (.iload_n 2, 1) := by decide +kernel
theorem d_H_tick_23 : decode b_H_tick 23 = .ok (.iconst 4, 1) := by decide +kernel
theorem d_H_tick_24 : decode b_H_tick 24 = .ok (.if_icmp .ge 22, 3) := by decide +kernel
theorem d_H_tick_27 : decode b_H_tick 27 = .ok (.aload_n 0, 1) := by decide +kernel
theorem d_H_tick_28 : decode b_H_tick 28 = .ok (.getfield 22, 3) := by decide +kernel
theorem d_H_tick_31 : decode b_H_tick 31 = .ok (.iload_n 2, 1) := by decide +kernel
theorem d_H_tick_32 : decode b_H_tick 32 = .ok (.aaload, 1) := by decide +kernel
theorem d_H_tick_33 : decode b_H_tick 33 = .ok (.getfield 105, 3) := by decide +kernel
theorem d_H_tick_36 : decode b_H_tick 36 = .ok (.iload_n 1, 1) := by decide +kernel
theorem d_H_tick_37 : decode b_H_tick 37 = .ok (.invokevirtual 109, 3) := by decide +kernel
theorem d_H_tick_40 : decode b_H_tick 40 = .ok (.iinc 2 1, 3) := by decide +kernel
theorem d_H_tick_43 : decode b_H_tick 43 = .ok (.goto (-21), 3) := by decide +kernel
theorem d_H_tick_46 : decode b_H_tick 46 = .ok (.aload_n 0, 1) := by decide +kernel
theorem d_H_tick_47 : decode b_H_tick 47 = .ok (.getfield 30, 3) := by decide +kernel
theorem d_H_tick_50 : decode b_H_tick 50 = .ok (.getfield 115, 3) := by decide +kernel
theorem d_H_tick_53 : decode b_H_tick 53 = .ok (.iload_n 1, 1) := by decide +kernel
theorem d_H_tick_54 : decode b_H_tick 54 = .ok (.invokevirtual 109, 3) := by decide +kernel
theorem d_H_tick_57 : decode b_H_tick 57 = .ok (.aload_n 0, 1) := by decide +kernel
theorem d_H_tick_58 : decode b_H_tick 58 = .ok (.getfield 30, 3) := by decide +kernel
theorem d_H_tick_61 : decode b_H_tick 61 = .ok (.invokevirtual 102, 3) := by decide +kernel
theorem d_H_tick_64 : decode b_H_tick 64 = .ok (.aload_n 0, 1) := by decide +kernel
theorem d_H_tick_65 : decode b_H_tick 65 = .ok (.getfield 30, 3) := by decide +kernel
theorem d_H_tick_68 : decode b_H_tick 68 = .ok (.getfield 115, 3) := by decide +kernel
theorem d_H_tick_71 : decode b_H_tick 71 = .ok (.invokevirtual 116, 3) := by decide +kernel
theorem d_H_tick_74 : decode b_H_tick 74 = .ok (.ireturn, 1) := by decide +kernel

theorem d_H_rate_0 : decode b_H_rate 0 = .ok (.iload_n 1, 1) := by decide +kernel
theorem d_H_rate_1 : decode b_H_rate 1 = .ok (.invokestatic 120, 3) := by decide +kernel
theorem d_H_rate_4 : decode b_H_rate 4 = .ok (.ifCond .eq 15, 3) := by decide +kernel
theorem d_H_rate_7 : decode b_H_rate 7 = .ok (.iload_n 2, 1) := by decide +kernel
theorem d_H_rate_8 : decode b_H_rate 8 = .ok (.bipush 99, 2) := by decide +kernel
theorem d_H_rate_10 : decode b_H_rate 10 = .ok (.if_icmp .lt 9, 3) := by decide +kernel
theorem d_H_rate_13 : decode b_H_rate 13 = .ok (.iload_n 2, 1) := by decide +kernel
theorem d_H_rate_14 : decode b_H_rate 14 = .ok (.bipush 101, 2) := by decide +kernel
theorem d_H_rate_16 : decode b_H_rate 16 = .ok (.if_icmp .le 11, 3) := by decide +kernel
theorem d_H_rate_19 : decode b_H_rate 19 = .ok (.new 59, 3) := by decide +kernel
theorem d_H_rate_22 : decode b_H_rate 22 = .ok (.dup, 1) := by decide +kernel
theorem d_H_rate_23 : decode b_H_rate 23 = .ok (.invokespecial 61, 3) := by decide +kernel
theorem d_H_rate_26 : decode b_H_rate 26 = .ok (.athrow, 1) := by decide +kernel
theorem d_H_rate_27 : decode b_H_rate 27 = .ok (.iload_n 1, 1) := by decide +kernel
theorem d_H_rate_28 : decode b_H_rate 28 = .ok (.iconst 4, 1) := by decide +kernel
theorem d_H_rate_29 : decode b_H_rate 29 = .ok (.if_icmp .ne 13, 3) := by decide +kernel
theorem d_H_rate_32 : decode b_H_rate 32 = .ok (.aload_n 0, 1) := by decide +kernel
theorem d_H_rate_33 : decode b_H_rate 33 = .ok (.getfield 30, 3) := by decide +kernel
theorem d_H_rate_36 : decode b_H_rate 36 = .ok (.getfield 115, 3) := by decide +kernel
theorem d_H_rate_39 : decode b_H_rate 39 = .ok (.goto 12, 3) := by decide +kernel
theorem d_H_rate_42 : decode b_H_rate 42 = .ok (.aload_n 0, 1) := by decide +kernel
theorem d_H_rate_43 : decode b_H_rate 43 = .ok (.getfield 22, 3) := by decide +kernel
theorem d_H_rate_46 : decode b_H_rate 46 = .ok (.iload_n 1, 1) := by decide +kernel
theorem d_H_rate_47 : decode b_H_rate 47 = .ok (.aaload, 1) := by decide +kernel
theorem d_H_rate_48 : decode b_H_rate 48 = .ok (.getfield 105, 3) := by decide +kernel
theorem d_H_rate_51 : decode b_H_rate 51 = .ok (.astore_n 3, 1) := by decide +kernel
theorem d_H_rate_52 : decode b_H_rate 52 = .ok (.aload_n 3, 1) := by decide +kernel
theorem d_H_rate_53 : decode b_H_rate 53 = .ok (.iload_n 2, 1) := by decide +kernel
theorem d_H_rate_54 : decode b_H_rate 54 = .ok (.putfield 123, 3) := by decide +kernel
theorem d_H_rate_57 : decode b_H_rate 57 = .ok (.return_, 1) := by decide +kernel

set_option maxHeartbeats 4000000 in
set_option maxRecDepth 100000 in
theorem c_H_article (l : Launch) (Z : qZ) (hZ : qok (pX Z)) (V : qV) (Y : qY) (n : Nat) (hn : n < 8) (w : Int32) (h1 : f_isArticle (nI n) = 1) (h2 : f_isAmount w = 1) : CT l y_H_article { frames := 6, cells := 0, slots := 0, locals := 96 } (pX Z) (qA (pX Z)) [.ref (al Z 0 0), .int (nI n), .int w] V Y (.inl none) (qv V 2 0 n w) Y := by
  refine CT.of (cc := b_H_article) (maxL := 3) (ret := none) hZ (by decide) w_247 (Nat.le_of_ble_eq_true rfl) ?_
  intro p e s m below meth c C hr hex hlt
  refine gq_iload_n C d_H_article_0 rfl ?_
  refine gq_callS C (st := []) (fun _ h => h.elim) (c_H_isArticle l Z hZ _ _ (nI n)) w_248 w_249 w_250 w_1 ⟨by decide, by decide, (by decide +kernel : (parseMethodDescriptor y_H_isArticle.desc).map (fun d => d.parameters.length) = some 1)⟩ ⟨by decide, by decide⟩ ⟨by decide, by decide⟩ rfl (Nat.le_of_ble_eq_true rfl) d_H_article_1 ?_
  refine gq_if_eq C (tgt := 14) d_H_article_4 rfl (fun hb => by first | contradiction | simp_all) (fun hb4 => ?_)
  refine gq_iload_n C d_H_article_7 rfl ?_
  refine gq_callS C (st := []) (fun _ h => h.elim) (c_H_isAmount l Z hZ _ _ w) w_251 w_252 w_253 w_1 ⟨by decide, by decide, (by decide +kernel : (parseMethodDescriptor y_H_isAmount.desc).map (fun d => d.parameters.length) = some 1)⟩ ⟨by decide, by decide⟩ ⟨by decide, by decide⟩ rfl (Nat.le_of_ble_eq_true rfl) d_H_article_8 ?_
  refine gq_if_ne C (tgt := 22) d_H_article_11 rfl (fun hb11 => ?_) (fun hb => by first | contradiction | simp_all)
  refine gq_aload_n C d_H_article_22 rfl ?_
  refine gq_get C (g := 0) (j := 0) (ci := 7) (k := 0) (v := .ref (al Z 1 0)) (qm (by decide) (by decide)) rfl rfl in_H (by decide) w_203 rfl d_H_article_23 ?_
  refine gq_get C (g := 1) (j := 0) (ci := 5) (k := 0) (v := .ref (al Z 2 0)) (qm (by decide) (by decide)) rfl rfl in_L (by decide) w_34 rfl d_H_article_26 ?_
  refine gq_iload_n C d_H_article_29 rfl ?_
  refine gq_iload_n C d_H_article_30 rfl ?_
  refine gq_iast C (fun _ h => h) (g := 2) (j := 0) (a := n) (t0 := 0) (qm (by decide) (by decide)) (fun _ => rfl) rfl rfl hn (by decide) d_H_article_31 ?_
  exact gq_vret C hr (by decide) (by decide) d_H_article_32

set_option maxHeartbeats 4000000 in
set_option maxRecDepth 100000 in
theorem c_H_article_x (l : Launch) (hadm : ∀ e : Env, l.admits e → e.platform.stackTraces = false) (Z : qZ) (hZ : qok (pX Z)) (V : qV) (Y : qY) (a w : Int32) (h : f_isArticle a = 0 ∨ f_isAmount w = 0) : CT l y_H_article { frames := 6, cells := 1, slots := 6, locals := 96 } (pX Z) qN [.ref (al Z 0 0), .int a, .int w] V Y (.inr "java/lang/IllegalArgumentException") V Y := by
  refine CT.of (cc := b_H_article) (maxL := 3) (ret := none) hZ (by decide) w_247 (Nat.le_of_ble_eq_true rfl) ?_
  intro p e s m below meth c C hr hex hlt
  refine gq_iload_n C d_H_article_0 rfl ?_
  refine gq_callS C (st := []) (fun _ h => h) (c_H_isArticle l Z hZ _ _ a) w_248 w_249 w_250 w_1 ⟨by decide, by decide, (by decide +kernel : (parseMethodDescriptor y_H_isArticle.desc).map (fun d => d.parameters.length) = some 1)⟩ ⟨by decide, by decide⟩ ⟨by decide, by decide⟩ rfl (Nat.le_of_ble_eq_true rfl) d_H_article_1 ?_
  refine gq_if_eq C (tgt := 14) d_H_article_4 rfl (fun hb4 => ?_) (fun hb4 => ?_)
  · skip
    exact gq_throw C hadm hex hlt tw_IllegalArgumentException w_255 w_256 w_13 (by decide) (by decide) (by decide) (by decide) (by decide) (Nat.le_of_ble_eq_true rfl) d_H_article_14 d_H_article_17 d_H_article_18 d_H_article_21
  · skip
    refine gq_iload_n C d_H_article_7 rfl ?_
    refine gq_callS C (st := []) (fun _ h => h) (c_H_isAmount l Z hZ _ _ w) w_251 w_252 w_253 w_1 ⟨by decide, by decide, (by decide +kernel : (parseMethodDescriptor y_H_isAmount.desc).map (fun d => d.parameters.length) = some 1)⟩ ⟨by decide, by decide⟩ ⟨by decide, by decide⟩ rfl (Nat.le_of_ble_eq_true rfl) d_H_article_8 ?_
    refine gq_if_ne C (tgt := 22) d_H_article_11 rfl (fun hb => by first | contradiction | (rcases h with h | h <;> contradiction)) (fun hb11 => ?_)
    exact gq_throw C hadm hex hlt tw_IllegalArgumentException w_255 w_256 w_13 (by decide) (by decide) (by decide) (by decide) (by decide) (Nat.le_of_ble_eq_true rfl) d_H_article_14 d_H_article_17 d_H_article_18 d_H_article_21

set_option maxHeartbeats 4000000 in
set_option maxRecDepth 100000 in
theorem c_H_bundle (l : Launch) (Z : qZ) (hZ : qok (pX Z)) (V : qV) (Y : qY) (n u : Nat) (hn : n < 8) (hu : u < 2) (z w : Int32) (h1 : f_isArticle (nI n) = 1) (h2 : f_isSlot (nI u) = 1) (h3 : f_isBundleSize z = 1) (h4 : f_isAmount w = 1) : CT l y_H_bundle { frames := 6, cells := 0, slots := 0, locals := 96 } (pX Z) (qA (pX Z)) [.ref (al Z 0 0), .int (nI n), .int (nI u), .int z, .int w] V Y (.inl none) (qv (qv V 3 0 (n * 2 + u) z) 4 0 (n * 2 + u) w) Y := by
  refine CT.of (cc := b_H_bundle) (maxL := 5) (ret := none) hZ (by decide) w_325 (Nat.le_of_ble_eq_true rfl) ?_
  intro p e s m below meth c C hr hex hlt
  refine gq_iload_n C d_H_bundle_0 rfl ?_
  refine gq_callS C (st := []) (fun _ h => h.elim) (c_H_isArticle l Z hZ _ _ (nI n)) w_248 w_249 w_250 w_1 ⟨by decide, by decide, (by decide +kernel : (parseMethodDescriptor y_H_isArticle.desc).map (fun d => d.parameters.length) = some 1)⟩ ⟨by decide, by decide⟩ ⟨by decide, by decide⟩ rfl (Nat.le_of_ble_eq_true rfl) d_H_bundle_1 ?_
  refine gq_if_eq C (tgt := 29) d_H_bundle_4 rfl (fun hb => by first | contradiction | simp_all) (fun hb4 => ?_)
  refine gq_iload_n C d_H_bundle_7 rfl ?_
  refine gq_callS C (st := []) (fun _ h => h.elim) (c_H_isSlot l Z hZ _ _ (nI u)) w_326 w_327 w_328 w_1 ⟨by decide, by decide, (by decide +kernel : (parseMethodDescriptor y_H_isSlot.desc).map (fun d => d.parameters.length) = some 1)⟩ ⟨by decide, by decide⟩ ⟨by decide, by decide⟩ rfl (Nat.le_of_ble_eq_true rfl) d_H_bundle_8 ?_
  refine gq_if_eq C (tgt := 29) d_H_bundle_11 rfl (fun hb => by first | contradiction | simp_all) (fun hb11 => ?_)
  refine gq_iload_n C d_H_bundle_14 rfl ?_
  refine gq_callS C (st := []) (fun _ h => h.elim) (c_H_isBundleSize l Z hZ _ _ z) w_329 w_330 w_331 w_1 ⟨by decide, by decide, (by decide +kernel : (parseMethodDescriptor y_H_isBundleSize.desc).map (fun d => d.parameters.length) = some 1)⟩ ⟨by decide, by decide⟩ ⟨by decide, by decide⟩ rfl (Nat.le_of_ble_eq_true rfl) d_H_bundle_15 ?_
  refine gq_if_eq C (tgt := 29) d_H_bundle_18 rfl (fun hb => by first | contradiction | simp_all) (fun hb18 => ?_)
  refine gq_iload C d_H_bundle_21 rfl ?_
  refine gq_callS C (st := []) (fun _ h => h.elim) (c_H_isAmount l Z hZ _ _ w) w_251 w_252 w_253 w_1 ⟨by decide, by decide, (by decide +kernel : (parseMethodDescriptor y_H_isAmount.desc).map (fun d => d.parameters.length) = some 1)⟩ ⟨by decide, by decide⟩ ⟨by decide, by decide⟩ rfl (Nat.le_of_ble_eq_true rfl) d_H_bundle_23 ?_
  refine gq_if_ne C (tgt := 37) d_H_bundle_26 rfl (fun hb26 => ?_) (fun hb => by first | contradiction | simp_all)
  refine gq_aload_n C d_H_bundle_37 rfl ?_
  refine gq_get C (g := 0) (j := 0) (ci := 7) (k := 0) (v := .ref (al Z 1 0)) (qm (by decide) (by decide)) rfl rfl in_H (by decide) w_203 rfl d_H_bundle_38 ?_
  refine gq_get C (g := 1) (j := 0) (ci := 5) (k := 1) (v := .ref (al Z 3 0)) (qm (by decide) (by decide)) rfl rfl in_L (by decide) w_36 rfl d_H_bundle_41 ?_
  refine gq_iload_n C d_H_bundle_44 rfl ?_
  refine gq_iconst C (v := 2) d_H_bundle_45 (by decide) ?_
  refine gq_imul C d_H_bundle_46 ?_
  refine gq_iload_n C d_H_bundle_47 rfl ?_
  refine gq_iadd C d_H_bundle_48 ?_
  refine gq_iload_n C d_H_bundle_49 rfl ?_
  refine gq_iast C (fun _ h => h) (g := 3) (j := 0) (a := (n * 2 + u)) (t0 := 0) (qm (by decide) (by decide)) (fun _ => rfl) rfl (by rw [show (2 : Int32) = nI 2 from rfl, pk_mul, nI_add]) (by omega) (by decide) d_H_bundle_50 ?_
  refine gq_aload_n C d_H_bundle_51 rfl ?_
  refine gq_get C (g := 0) (j := 0) (ci := 7) (k := 0) (v := .ref (al Z 1 0)) (qm (by decide) (by decide)) rfl rfl in_H (by decide) w_203 rfl d_H_bundle_52 ?_
  refine gq_get C (g := 1) (j := 0) (ci := 5) (k := 2) (v := .ref (al Z 4 0)) (qm (by decide) (by decide)) rfl rfl in_L (by decide) w_38 rfl d_H_bundle_55 ?_
  refine gq_iload_n C d_H_bundle_58 rfl ?_
  refine gq_iconst C (v := 2) d_H_bundle_59 (by decide) ?_
  refine gq_imul C d_H_bundle_60 ?_
  refine gq_iload_n C d_H_bundle_61 rfl ?_
  refine gq_iadd C d_H_bundle_62 ?_
  refine gq_iload C d_H_bundle_63 rfl ?_
  refine gq_iast C (fun _ h => h) (g := 4) (j := 0) (a := (n * 2 + u)) (t0 := 0) (qm (by decide) (by decide)) (fun _ => rfl) rfl (by rw [show (2 : Int32) = nI 2 from rfl, pk_mul, nI_add]) (by omega) (by decide) d_H_bundle_65 ?_
  exact gq_vret C hr (by decide) (by decide) d_H_bundle_66

set_option maxHeartbeats 4000000 in
set_option maxRecDepth 100000 in
theorem c_H_bundle_x (l : Launch) (hadm : ∀ e : Env, l.admits e → e.platform.stackTraces = false) (Z : qZ) (hZ : qok (pX Z)) (V : qV) (Y : qY) (a u z w : Int32) (h : f_isArticle a = 0 ∨ f_isSlot u = 0 ∨ f_isBundleSize z = 0 ∨ f_isAmount w = 0) : CT l y_H_bundle { frames := 6, cells := 1, slots := 6, locals := 96 } (pX Z) qN [.ref (al Z 0 0), .int a, .int u, .int z, .int w] V Y (.inr "java/lang/IllegalArgumentException") V Y := by
  refine CT.of (cc := b_H_bundle) (maxL := 5) (ret := none) hZ (by decide) w_325 (Nat.le_of_ble_eq_true rfl) ?_
  intro p e s m below meth c C hr hex hlt
  refine gq_iload_n C d_H_bundle_0 rfl ?_
  refine gq_callS C (st := []) (fun _ h => h) (c_H_isArticle l Z hZ _ _ a) w_248 w_249 w_250 w_1 ⟨by decide, by decide, (by decide +kernel : (parseMethodDescriptor y_H_isArticle.desc).map (fun d => d.parameters.length) = some 1)⟩ ⟨by decide, by decide⟩ ⟨by decide, by decide⟩ rfl (Nat.le_of_ble_eq_true rfl) d_H_bundle_1 ?_
  refine gq_if_eq C (tgt := 29) d_H_bundle_4 rfl (fun hb4 => ?_) (fun hb4 => ?_)
  · skip
    exact gq_throw C hadm hex hlt tw_IllegalArgumentException w_255 w_256 w_13 (by decide) (by decide) (by decide) (by decide) (by decide) (Nat.le_of_ble_eq_true rfl) d_H_bundle_29 d_H_bundle_32 d_H_bundle_33 d_H_bundle_36
  · skip
    refine gq_iload_n C d_H_bundle_7 rfl ?_
    refine gq_callS C (st := []) (fun _ h => h) (c_H_isSlot l Z hZ _ _ u) w_326 w_327 w_328 w_1 ⟨by decide, by decide, (by decide +kernel : (parseMethodDescriptor y_H_isSlot.desc).map (fun d => d.parameters.length) = some 1)⟩ ⟨by decide, by decide⟩ ⟨by decide, by decide⟩ rfl (Nat.le_of_ble_eq_true rfl) d_H_bundle_8 ?_
    refine gq_if_eq C (tgt := 29) d_H_bundle_11 rfl (fun hb11 => ?_) (fun hb11 => ?_)
    · skip
      exact gq_throw C hadm hex hlt tw_IllegalArgumentException w_255 w_256 w_13 (by decide) (by decide) (by decide) (by decide) (by decide) (Nat.le_of_ble_eq_true rfl) d_H_bundle_29 d_H_bundle_32 d_H_bundle_33 d_H_bundle_36
    · skip
      refine gq_iload_n C d_H_bundle_14 rfl ?_
      refine gq_callS C (st := []) (fun _ h => h) (c_H_isBundleSize l Z hZ _ _ z) w_329 w_330 w_331 w_1 ⟨by decide, by decide, (by decide +kernel : (parseMethodDescriptor y_H_isBundleSize.desc).map (fun d => d.parameters.length) = some 1)⟩ ⟨by decide, by decide⟩ ⟨by decide, by decide⟩ rfl (Nat.le_of_ble_eq_true rfl) d_H_bundle_15 ?_
      refine gq_if_eq C (tgt := 29) d_H_bundle_18 rfl (fun hb18 => ?_) (fun hb18 => ?_)
      · skip
        exact gq_throw C hadm hex hlt tw_IllegalArgumentException w_255 w_256 w_13 (by decide) (by decide) (by decide) (by decide) (by decide) (Nat.le_of_ble_eq_true rfl) d_H_bundle_29 d_H_bundle_32 d_H_bundle_33 d_H_bundle_36
      · skip
        refine gq_iload C d_H_bundle_21 rfl ?_
        refine gq_callS C (st := []) (fun _ h => h) (c_H_isAmount l Z hZ _ _ w) w_251 w_252 w_253 w_1 ⟨by decide, by decide, (by decide +kernel : (parseMethodDescriptor y_H_isAmount.desc).map (fun d => d.parameters.length) = some 1)⟩ ⟨by decide, by decide⟩ ⟨by decide, by decide⟩ rfl (Nat.le_of_ble_eq_true rfl) d_H_bundle_23 ?_
        refine gq_if_ne C (tgt := 37) d_H_bundle_26 rfl (fun hb => by first | contradiction | (rcases h with h | h | h | h <;> contradiction)) (fun hb26 => ?_)
        exact gq_throw C hadm hex hlt tw_IllegalArgumentException w_255 w_256 w_13 (by decide) (by decide) (by decide) (by decide) (by decide) (Nat.le_of_ble_eq_true rfl) d_H_bundle_29 d_H_bundle_32 d_H_bundle_33 d_H_bundle_36

set_option maxHeartbeats 4000000 in
set_option maxRecDepth 100000 in
theorem c_H_publish (l : Launch) (Z : qZ) (hZ : qok (pX Z)) (V : qV) (Y : qY) (n : Nat) (hn : n < 9) (h2 : V 0 0 2 = nI n) (hc : ∃ m, m ≤ 40 ∧ V 12 0 4 = nI m) : CT l y_H_publish { frames := 6, cells := 0, slots := 0, locals := 96 } (pX Z) (qA (pX Z)) [.ref (al Z 0 0)] V Y (.inl (some (.int (V 0 0 2 + 1)))) (f_publish V n) Y := by
  refine CT.of (cc := b_H_publish) (maxL := 2) (ret := (some .int)) hZ (by decide) w_339 (Nat.le_of_ble_eq_true rfl) ?_
  intro p e s m below meth c C hr hex hlt
  refine gq_aload_n C d_H_publish_0 rfl ?_
  refine gq_get C (g := 0) (j := 0) (ci := 7) (k := 2) (v := .int (V 0 0 2)) (qm (by decide) (by decide)) rfl rfl in_H (by decide) w_205 rfl d_H_publish_1 ?_
  refine gq_bipush C (v := 9) d_H_publish_4 (by decide) ?_
  refine gq_icmp_lt C (tgt := 17) d_H_publish_6 rfl (fun hb6 => ?_) (fun hb => by first | contradiction | exact absurd (by rw [h2]; exact nI_lt (b := 9) hn (by decide)) hb)
  refine gq_aload_n C d_H_publish_17 rfl ?_
  refine gq_get C (g := 0) (j := 0) (ci := 7) (k := 1) (v := .ref (al Z 5 0)) (qm (by decide) (by decide)) rfl rfl in_H (by decide) w_204 rfl d_H_publish_18 ?_
  refine gq_aload_n C d_H_publish_21 rfl ?_
  refine gq_get C (g := 0) (j := 0) (ci := 7) (k := 2) (v := .int (V 0 0 2)) (qm (by decide) (by decide)) rfl rfl in_H (by decide) w_205 rfl d_H_publish_22 ?_
  refine gq_aald C (g := 5) (j := 0) (a := n) (t0 := 3) (b := al Z 1 (n + 1)) (qm (by decide) (by decide)) rfl rfl h2 hn (by decide) rfl d_H_publish_25 ?_
  refine gq_aload_n C d_H_publish_26 rfl ?_
  refine gq_get C (g := 0) (j := 0) (ci := 7) (k := 0) (v := .ref (al Z 1 0)) (qm (by decide) (by decide)) rfl rfl in_H (by decide) w_203 rfl d_H_publish_27 ?_
  refine gq_callV C (st := []) (fun _ h => h) (c_L_copyFrom l Z hZ _ _ (n + 1) (Nat.succ_lt_succ hn)) (qm (by decide) (Nat.succ_lt_succ hn)) rfl rfl w_355 w_356 w_357 w_358 w_2 ⟨by decide, by decide, (by decide +kernel : (parseMethodDescriptor y_L_copyFrom.desc).map (fun d => d.parameters.length) = some 1)⟩ ⟨by decide, by decide⟩ ⟨by decide, by decide⟩ rfl (Nat.le_of_ble_eq_true rfl) d_H_publish_30 ?_
  refine gq_aload_n C d_H_publish_33 rfl ?_
  refine gq_dup C d_H_publish_34 rfl ?_
  refine gq_get C (g := 0) (j := 0) (ci := 7) (k := 2) (v := .int (V 0 0 2)) (qm (by decide) (by decide)) rfl rfl in_H (by decide) w_205 (by simp [qv_at, f_copy_fr, f_pub1]) d_H_publish_35 ?_
  refine gq_iconst C (v := 1) d_H_publish_38 (by decide) ?_
  refine gq_iadd C d_H_publish_39 ?_
  refine gq_put C (fun _ h => h) (g := 0) (j := 0) (ci := 7) (k := 2) ft_H k_H n_H (qm (by decide) (by decide)) rfl rfl in_H (by decide) w_205 rfl (k_H 2 (by decide)) rfl rfl (Nat.le_of_ble_eq_true rfl) rfl d_H_publish_40 ?_
  refine gq_iconst C (v := 0) d_H_publish_43 (by decide) ?_
  refine gq_istore_n C (lo' := [(1, .int 0), (0, .ref (al Z 0 0))]) d_H_publish_44 rfl (by decide) rfl ?_
  refine gq_iload_n C d_H_publish_45 rfl ?_
  refine gq_iconst C (v := 4) d_H_publish_46 (by decide) ?_
  refine gq_icmp_ge C (tgt := 70) d_H_publish_47 rfl (fun hb => by first | contradiction | exact absurd hb (by decide)) (fun hb47 => ?_)
  refine gq_aload_n C d_H_publish_50 rfl ?_
  refine gq_get C (g := 0) (j := 0) (ci := 7) (k := 5) (v := .ref (al Z 12 0)) (qm (by decide) (by decide)) rfl rfl in_H (by decide) w_208 rfl d_H_publish_51 ?_
  refine gq_iconst C (v := 0) d_H_publish_54 (by decide) ?_
  refine gq_iload_n C d_H_publish_55 rfl ?_
  refine gq_aload_n C d_H_publish_56 rfl ?_
  refine gq_get C (g := 0) (j := 0) (ci := 7) (k := 2) (v := .int ((V 0 0 2) + 1)) (qm (by decide) (by decide)) rfl rfl in_H (by decide) w_205 (by simp [qv_at, f_copy_fr, f_pub1]) d_H_publish_57 ?_
  refine gq_iconst C (v := 0) d_H_publish_60 (by decide) ?_
  refine gq_callV C (st := []) (fun _ h => h) (c_R_put l Z hZ _ _ (f_cnt1 n hc) 0 0 ((V 0 0 2) + 1) 0) (qm (by decide) (by decide)) rfl rfl w_362 w_363 w_364 w_365 w_7 ⟨by decide, by decide, (by decide +kernel : (parseMethodDescriptor y_R_post.desc).map (fun d => d.parameters.length) = some 4)⟩ ⟨by decide, by decide⟩ ⟨by decide, by decide⟩ rfl (Nat.le_of_ble_eq_true rfl) d_H_publish_61 ?_
  refine gq_iinc C (k := 0) (w := 1) (lo' := [(1, .int 1), (0, .ref (al Z 0 0))]) d_H_publish_64 rfl (by decide) (by decide) rfl ?_
  refine gq_goto C (tgt := 45) d_H_publish_67 rfl ?_
  refine gq_iload_n C d_H_publish_45 rfl ?_
  refine gq_iconst C (v := 4) d_H_publish_46 (by decide) ?_
  refine gq_icmp_ge C (tgt := 70) d_H_publish_47 rfl (fun hb => by first | contradiction | exact absurd hb (by decide)) (fun hb47 => ?_)
  refine gq_aload_n C d_H_publish_50 rfl ?_
  refine gq_get C (g := 0) (j := 0) (ci := 7) (k := 5) (v := .ref (al Z 12 0)) (qm (by decide) (by decide)) rfl rfl in_H (by decide) w_208 rfl d_H_publish_51 ?_
  refine gq_iconst C (v := 0) d_H_publish_54 (by decide) ?_
  refine gq_iload_n C d_H_publish_55 rfl ?_
  refine gq_aload_n C d_H_publish_56 rfl ?_
  refine gq_get C (g := 0) (j := 0) (ci := 7) (k := 2) (v := .int ((V 0 0 2) + 1)) (qm (by decide) (by decide)) rfl rfl in_H (by decide) w_205 (by simp [qv_at, f_copy_fr, f_pub1, f_put_fr]) d_H_publish_57 ?_
  refine gq_iconst C (v := 0) d_H_publish_60 (by decide) ?_
  refine gq_callV C (st := []) (fun _ h => h) (c_R_put l Z hZ _ _ (f_put_cnt _ _ _ _ (f_cnt1 n hc)) 0 1 ((V 0 0 2) + 1) 0) (qm (by decide) (by decide)) rfl rfl w_362 w_363 w_364 w_365 w_7 ⟨by decide, by decide, (by decide +kernel : (parseMethodDescriptor y_R_post.desc).map (fun d => d.parameters.length) = some 4)⟩ ⟨by decide, by decide⟩ ⟨by decide, by decide⟩ rfl (Nat.le_of_ble_eq_true rfl) d_H_publish_61 ?_
  refine gq_iinc C (k := 0) (w := 2) (lo' := [(1, .int 2), (0, .ref (al Z 0 0))]) d_H_publish_64 rfl (by decide) (by decide) rfl ?_
  refine gq_goto C (tgt := 45) d_H_publish_67 rfl ?_
  refine gq_iload_n C d_H_publish_45 rfl ?_
  refine gq_iconst C (v := 4) d_H_publish_46 (by decide) ?_
  refine gq_icmp_ge C (tgt := 70) d_H_publish_47 rfl (fun hb => by first | contradiction | exact absurd hb (by decide)) (fun hb47 => ?_)
  refine gq_aload_n C d_H_publish_50 rfl ?_
  refine gq_get C (g := 0) (j := 0) (ci := 7) (k := 5) (v := .ref (al Z 12 0)) (qm (by decide) (by decide)) rfl rfl in_H (by decide) w_208 rfl d_H_publish_51 ?_
  refine gq_iconst C (v := 0) d_H_publish_54 (by decide) ?_
  refine gq_iload_n C d_H_publish_55 rfl ?_
  refine gq_aload_n C d_H_publish_56 rfl ?_
  refine gq_get C (g := 0) (j := 0) (ci := 7) (k := 2) (v := .int ((V 0 0 2) + 1)) (qm (by decide) (by decide)) rfl rfl in_H (by decide) w_205 (by simp [qv_at, f_copy_fr, f_pub1, f_put_fr]) d_H_publish_57 ?_
  refine gq_iconst C (v := 0) d_H_publish_60 (by decide) ?_
  refine gq_callV C (st := []) (fun _ h => h) (c_R_put l Z hZ _ _ (f_put_cnt _ _ _ _ (f_put_cnt _ _ _ _ (f_cnt1 n hc))) 0 2 ((V 0 0 2) + 1) 0) (qm (by decide) (by decide)) rfl rfl w_362 w_363 w_364 w_365 w_7 ⟨by decide, by decide, (by decide +kernel : (parseMethodDescriptor y_R_post.desc).map (fun d => d.parameters.length) = some 4)⟩ ⟨by decide, by decide⟩ ⟨by decide, by decide⟩ rfl (Nat.le_of_ble_eq_true rfl) d_H_publish_61 ?_
  refine gq_iinc C (k := 0) (w := 3) (lo' := [(1, .int 3), (0, .ref (al Z 0 0))]) d_H_publish_64 rfl (by decide) (by decide) rfl ?_
  refine gq_goto C (tgt := 45) d_H_publish_67 rfl ?_
  refine gq_iload_n C d_H_publish_45 rfl ?_
  refine gq_iconst C (v := 4) d_H_publish_46 (by decide) ?_
  refine gq_icmp_ge C (tgt := 70) d_H_publish_47 rfl (fun hb => by first | contradiction | exact absurd hb (by decide)) (fun hb47 => ?_)
  refine gq_aload_n C d_H_publish_50 rfl ?_
  refine gq_get C (g := 0) (j := 0) (ci := 7) (k := 5) (v := .ref (al Z 12 0)) (qm (by decide) (by decide)) rfl rfl in_H (by decide) w_208 rfl d_H_publish_51 ?_
  refine gq_iconst C (v := 0) d_H_publish_54 (by decide) ?_
  refine gq_iload_n C d_H_publish_55 rfl ?_
  refine gq_aload_n C d_H_publish_56 rfl ?_
  refine gq_get C (g := 0) (j := 0) (ci := 7) (k := 2) (v := .int ((V 0 0 2) + 1)) (qm (by decide) (by decide)) rfl rfl in_H (by decide) w_205 (by simp [qv_at, f_copy_fr, f_pub1, f_put_fr]) d_H_publish_57 ?_
  refine gq_iconst C (v := 0) d_H_publish_60 (by decide) ?_
  refine gq_callV C (st := []) (fun _ h => h) (c_R_put l Z hZ _ _ (f_put_cnt _ _ _ _ (f_put_cnt _ _ _ _ (f_put_cnt _ _ _ _ (f_cnt1 n hc)))) 0 3 ((V 0 0 2) + 1) 0) (qm (by decide) (by decide)) rfl rfl w_362 w_363 w_364 w_365 w_7 ⟨by decide, by decide, (by decide +kernel : (parseMethodDescriptor y_R_post.desc).map (fun d => d.parameters.length) = some 4)⟩ ⟨by decide, by decide⟩ ⟨by decide, by decide⟩ rfl (Nat.le_of_ble_eq_true rfl) d_H_publish_61 ?_
  refine gq_iinc C (k := 0) (w := 4) (lo' := [(1, .int 4), (0, .ref (al Z 0 0))]) d_H_publish_64 rfl (by decide) (by decide) rfl ?_
  refine gq_goto C (tgt := 45) d_H_publish_67 rfl ?_
  refine gq_iload_n C d_H_publish_45 rfl ?_
  refine gq_iconst C (v := 4) d_H_publish_46 (by decide) ?_
  refine gq_icmp_ge C (tgt := 70) d_H_publish_47 rfl (fun hb47 => ?_) (fun hb => by first | contradiction | exact absurd hb (by decide))
  refine gq_aload_n C d_H_publish_70 rfl ?_
  refine gq_get C (g := 0) (j := 0) (ci := 7) (k := 2) (v := .int ((V 0 0 2) + 1)) (qm (by decide) (by decide)) rfl rfl in_H (by decide) w_205 (by simp [qv_at, f_copy_fr, f_pub1, f_put_fr]) d_H_publish_71 ?_
  exact gq_iretE C hr (by simp [*]) (by rfl) rfl (by decide) (by decide) d_H_publish_74

set_option maxHeartbeats 4000000 in
set_option maxRecDepth 100000 in
theorem c_H_publish_x (l : Launch) (hadm : ∀ e : Env, l.admits e → e.platform.stackTraces = false) (Z : qZ) (hZ : qok (pX Z)) (V : qV) (Y : qY) (h : ¬ V 0 0 2 < 9) : CT l y_H_publish { frames := 6, cells := 1, slots := 6, locals := 96 } (pX Z) qN [.ref (al Z 0 0)] V Y (.inr "java/lang/IllegalStateException") V Y := by
  refine CT.of (cc := b_H_publish) (maxL := 2) (ret := (some .int)) hZ (by decide) w_339 (Nat.le_of_ble_eq_true rfl) ?_
  intro p e s m below meth c C hr hex hlt
  refine gq_aload_n C d_H_publish_0 rfl ?_
  refine gq_get C (g := 0) (j := 0) (ci := 7) (k := 2) (v := .int (V 0 0 2)) (qm (by decide) (by decide)) rfl rfl in_H (by decide) w_205 rfl d_H_publish_1 ?_
  refine gq_bipush C (v := 9) d_H_publish_4 (by decide) ?_
  refine gq_icmp_lt C (tgt := 17) d_H_publish_6 rfl (fun hb => by first | contradiction | contradiction) (fun hb6 => ?_)
  exact gq_throw C hadm hex hlt tw_IllegalStateException w_340 w_341 w_14 (by decide) (by decide) (by decide) (by decide) (by decide) (Nat.le_of_ble_eq_true rfl) d_H_publish_9 d_H_publish_12 d_H_publish_13 d_H_publish_16

set_option maxHeartbeats 4000000 in
set_option maxRecDepth 100000 in
theorem c_H_price (l : Launch) (Z : qZ) (hZ : qok (pX Z)) (V : qV) (Y : qY) (b : Nat) (hb : b < 9) (n : Nat) (hn : n < 8) (h1 : f_isBook V (nI (b + 1)) = 1) (h2 : f_isArticle (nI n) = 1) : CT l y_H_price { frames := 6, cells := 0, slots := 0, locals := 96 } (pX Z) qN [.ref (al Z 0 0), .int (nI (b + 1)), .int (nI n)] V Y (.inl (some (.int (V 2 (b + 1) n)))) V Y := by
  refine CT.of (cc := b_H_price) (maxL := 3) (ret := (some .int)) hZ (by decide) w_639 (Nat.le_of_ble_eq_true rfl) ?_
  intro p e s m below meth c C hr hex hlt
  refine gq_aload_n C d_H_price_0 rfl ?_
  refine gq_iload_n C d_H_price_1 rfl ?_
  refine gq_callV C (st := []) (fun _ h => h) (c_H_isBook l Z hZ _ _ (nI (b + 1))) (qm (by decide) (by decide)) rfl rfl w_377 w_379 ws_H_isBook w_380 w_1 ⟨by decide, by decide, (by decide +kernel : (parseMethodDescriptor y_H_isBook.desc).map (fun d => d.parameters.length) = some 1)⟩ ⟨by decide, by decide⟩ ⟨by decide, by decide⟩ rfl (Nat.le_of_ble_eq_true rfl) d_H_price_2 ?_
  refine gq_if_eq C (tgt := 15) d_H_price_5 rfl (fun hb => by first | contradiction | simp_all) (fun hb5 => ?_)
  refine gq_iload_n C d_H_price_8 rfl ?_
  refine gq_callS C (st := []) (fun _ h => h) (c_H_isArticle l Z hZ _ _ (nI n)) w_248 w_249 w_250 w_1 ⟨by decide, by decide, (by decide +kernel : (parseMethodDescriptor y_H_isArticle.desc).map (fun d => d.parameters.length) = some 1)⟩ ⟨by decide, by decide⟩ ⟨by decide, by decide⟩ rfl (Nat.le_of_ble_eq_true rfl) d_H_price_9 ?_
  refine gq_if_ne C (tgt := 23) d_H_price_12 rfl (fun hb12 => ?_) (fun hb => by first | contradiction | simp_all)
  refine gq_aload_n C d_H_price_23 rfl ?_
  refine gq_get C (g := 0) (j := 0) (ci := 7) (k := 1) (v := .ref (al Z 5 0)) (qm (by decide) (by decide)) rfl rfl in_H (by decide) w_204 rfl d_H_price_24 ?_
  refine gq_iload_n C d_H_price_27 rfl ?_
  refine gq_iconst C (v := 1) d_H_price_28 (by decide) ?_
  refine gq_isub C d_H_price_29 ?_
  refine G.eqS (st' := [.int (nI b), .ref (al Z 5 0)]) (by first | (rw [show (nI (b + 1)) - 1 = nI b from (nI_pred b)]; done) | (rw [show (nI (b + 1)) - 1 = nI b from (nI_pred b)]; rfl)) ?_
  refine gq_aald C (g := 5) (j := 0) (a := b) (t0 := 3) (b := al Z 1 (b + 1)) (qm (by decide) (by decide)) rfl rfl rfl hb (by decide) rfl d_H_price_30 ?_
  refine gq_get C (g := 1) (j := (b + 1)) (ci := 5) (k := 0) (v := .ref (al Z 2 (b + 1))) (qm (by decide) (Nat.succ_lt_succ hb)) rfl rfl in_L (by decide) w_34 rfl d_H_price_31 ?_
  refine gq_iload_n C d_H_price_34 rfl ?_
  refine gq_iald C (g := 2) (j := (b + 1)) (a := n) (t0 := 0) (qm (by decide) (Nat.succ_lt_succ hb)) rfl rfl rfl hn (by decide) d_H_price_35 ?_
  exact gq_iret C hr (by decide) (by decide) d_H_price_36

set_option maxHeartbeats 4000000 in
set_option maxRecDepth 100000 in
theorem c_H_price_x (l : Launch) (hadm : ∀ e : Env, l.admits e → e.platform.stackTraces = false) (Z : qZ) (hZ : qok (pX Z)) (V : qV) (Y : qY) (b a : Int32) (h : f_isBook V b = 0 ∨ f_isArticle a = 0) : CT l y_H_price { frames := 6, cells := 1, slots := 6, locals := 96 } (pX Z) qN [.ref (al Z 0 0), .int b, .int a] V Y (.inr "java/lang/IllegalArgumentException") V Y := by
  refine CT.of (cc := b_H_price) (maxL := 3) (ret := (some .int)) hZ (by decide) w_639 (Nat.le_of_ble_eq_true rfl) ?_
  intro p e s m below meth c C hr hex hlt
  refine gq_aload_n C d_H_price_0 rfl ?_
  refine gq_iload_n C d_H_price_1 rfl ?_
  refine gq_callV C (st := []) (fun _ h => h) (c_H_isBook l Z hZ _ _ b) (qm (by decide) (by decide)) rfl rfl w_377 w_379 ws_H_isBook w_380 w_1 ⟨by decide, by decide, (by decide +kernel : (parseMethodDescriptor y_H_isBook.desc).map (fun d => d.parameters.length) = some 1)⟩ ⟨by decide, by decide⟩ ⟨by decide, by decide⟩ rfl (Nat.le_of_ble_eq_true rfl) d_H_price_2 ?_
  refine gq_if_eq C (tgt := 15) d_H_price_5 rfl (fun hb5 => ?_) (fun hb5 => ?_)
  · skip
    exact gq_throw C hadm hex hlt tw_IllegalArgumentException w_255 w_256 w_13 (by decide) (by decide) (by decide) (by decide) (by decide) (Nat.le_of_ble_eq_true rfl) d_H_price_15 d_H_price_18 d_H_price_19 d_H_price_22
  · skip
    refine gq_iload_n C d_H_price_8 rfl ?_
    refine gq_callS C (st := []) (fun _ h => h) (c_H_isArticle l Z hZ _ _ a) w_248 w_249 w_250 w_1 ⟨by decide, by decide, (by decide +kernel : (parseMethodDescriptor y_H_isArticle.desc).map (fun d => d.parameters.length) = some 1)⟩ ⟨by decide, by decide⟩ ⟨by decide, by decide⟩ rfl (Nat.le_of_ble_eq_true rfl) d_H_price_9 ?_
    refine gq_if_ne C (tgt := 23) d_H_price_12 rfl (fun hb => by first | contradiction | (rcases h with h | h <;> contradiction)) (fun hb12 => ?_)
    exact gq_throw C hadm hex hlt tw_IllegalArgumentException w_255 w_256 w_13 (by decide) (by decide) (by decide) (by decide) (by decide) (Nat.le_of_ble_eq_true rfl) d_H_price_15 d_H_price_18 d_H_price_19 d_H_price_22

set_option maxHeartbeats 4000000 in
set_option maxRecDepth 100000 in
theorem c_H_activate (l : Launch) (Z : qZ) (hZ : qok (pX Z)) (V : qV) (Y : qY) (b : Int32) (h1 : f_isBook V b = 1) (h2 : ¬ b ≤ V 9 0 2) (h3 : V 9 0 3 < b) : CT l y_H_activate { frames := 6, cells := 0, slots := 0, locals := 101 } (pX Z) (qA (pX Z)) [.ref (al Z 0 0), .int b] V Y (.inl none) (f_look (qv V 9 0 3 b)) Y := by
  refine CT.of (cc := b_H_activate) (maxL := 2) (ret := none) hZ (by decide) w_376 (Nat.le_of_ble_eq_true rfl) ?_
  intro p e s m below meth c C hr hex hlt
  refine gq_aload_n C d_H_activate_0 rfl ?_
  refine gq_iload_n C d_H_activate_1 rfl ?_
  refine gq_callV C (st := []) (fun _ h => h.elim) (c_H_isBook l Z hZ _ _ b) (qm (by decide) (by decide)) rfl rfl w_377 w_379 ws_H_isBook w_380 w_1 ⟨by decide, by decide, (by decide +kernel : (parseMethodDescriptor y_H_isBook.desc).map (fun d => d.parameters.length) = some 1)⟩ ⟨by decide, by decide⟩ ⟨by decide, by decide⟩ rfl (Nat.le_of_ble_eq_true rfl) d_H_activate_2 ?_
  refine gq_if_ne C (tgt := 16) d_H_activate_5 rfl (fun hb5 => ?_) (fun hb => by first | contradiction | simp_all)
  refine gq_iload_n C d_H_activate_16 rfl ?_
  refine gq_aload_n C d_H_activate_17 rfl ?_
  refine gq_get C (g := 0) (j := 0) (ci := 7) (k := 4) (v := .ref (al Z 9 0)) (qm (by decide) (by decide)) rfl rfl in_H (by decide) w_207 rfl d_H_activate_18 ?_
  refine gq_get C (g := 9) (j := 0) (ci := 2) (k := 2) (v := .int (V 9 0 2)) (qm (by decide) (by decide)) rfl rfl in_D (by decide) w_137 rfl d_H_activate_21 ?_
  refine gq_icmp_le C (tgt := 38) d_H_activate_24 rfl (fun hb => by first | contradiction | simp_all) (fun hb24 => ?_)
  refine gq_iload_n C d_H_activate_27 rfl ?_
  refine gq_aload_n C d_H_activate_28 rfl ?_
  refine gq_get C (g := 0) (j := 0) (ci := 7) (k := 4) (v := .ref (al Z 9 0)) (qm (by decide) (by decide)) rfl rfl in_H (by decide) w_207 rfl d_H_activate_29 ?_
  refine gq_get C (g := 9) (j := 0) (ci := 2) (k := 3) (v := .int (V 9 0 3)) (qm (by decide) (by decide)) rfl rfl in_D (by decide) w_139 rfl d_H_activate_32 ?_
  refine gq_icmp_gt C (tgt := 46) d_H_activate_35 rfl (fun hb35 => ?_) (fun hb => by first | contradiction | simp_all)
  refine gq_aload_n C d_H_activate_46 rfl ?_
  refine gq_get C (g := 0) (j := 0) (ci := 7) (k := 4) (v := .ref (al Z 9 0)) (qm (by decide) (by decide)) rfl rfl in_H (by decide) w_207 rfl d_H_activate_47 ?_
  refine gq_iload_n C d_H_activate_50 rfl ?_
  refine gq_put C (fun _ h => h) (g := 9) (j := 0) (ci := 2) (k := 3) ft_D k_D n_D (qm (by decide) (by decide)) rfl rfl in_D (by decide) w_139 rfl (k_D 3 (by decide)) rfl rfl (Nat.le_of_ble_eq_true rfl) rfl d_H_activate_51 ?_
  refine gq_aload_n C d_H_activate_54 rfl ?_
  refine gq_get C (g := 0) (j := 0) (ci := 7) (k := 4) (v := .ref (al Z 9 0)) (qm (by decide) (by decide)) rfl rfl in_H (by decide) w_207 rfl d_H_activate_55 ?_
  refine gq_callV C (st := []) (fun _ h => h) (c_D_lookAtChange l Z hZ _ _) (qm (by decide) (by decide)) rfl rfl w_381 w_382 w_383 w_384 w_5 ⟨by decide, by decide, (by decide +kernel : (parseMethodDescriptor y_D_lookAtChange.desc).map (fun d => d.parameters.length) = some 0)⟩ ⟨by decide, by decide⟩ ⟨by decide, by decide⟩ rfl (Nat.le_of_ble_eq_true rfl) d_H_activate_58 ?_
  exact gq_vret C hr (by decide) (by decide) d_H_activate_61

set_option maxHeartbeats 4000000 in
set_option maxRecDepth 100000 in
theorem c_H_activate_x1 (l : Launch) (hadm : ∀ e : Env, l.admits e → e.platform.stackTraces = false) (Z : qZ) (hZ : qok (pX Z)) (V : qV) (Y : qY) (b : Int32) (h : f_isBook V b = 0) : CT l y_H_activate { frames := 6, cells := 1, slots := 6, locals := 101 } (pX Z) qN [.ref (al Z 0 0), .int b] V Y (.inr "java/lang/IllegalArgumentException") V Y := by
  refine CT.of (cc := b_H_activate) (maxL := 2) (ret := none) hZ (by decide) w_376 (Nat.le_of_ble_eq_true rfl) ?_
  intro p e s m below meth c C hr hex hlt
  refine gq_aload_n C d_H_activate_0 rfl ?_
  refine gq_iload_n C d_H_activate_1 rfl ?_
  refine gq_callV C (st := []) (fun _ h => h) (c_H_isBook l Z hZ _ _ b) (qm (by decide) (by decide)) rfl rfl w_377 w_379 ws_H_isBook w_380 w_1 ⟨by decide, by decide, (by decide +kernel : (parseMethodDescriptor y_H_isBook.desc).map (fun d => d.parameters.length) = some 1)⟩ ⟨by decide, by decide⟩ ⟨by decide, by decide⟩ rfl (Nat.le_of_ble_eq_true rfl) d_H_activate_2 ?_
  refine gq_if_ne C (tgt := 16) d_H_activate_5 rfl (fun hb => by first | contradiction | contradiction) (fun hb5 => ?_)
  exact gq_throw C hadm hex hlt tw_IllegalArgumentException w_255 w_256 w_13 (by decide) (by decide) (by decide) (by decide) (by decide) (Nat.le_of_ble_eq_true rfl) d_H_activate_8 d_H_activate_11 d_H_activate_12 d_H_activate_15

set_option maxHeartbeats 4000000 in
set_option maxRecDepth 100000 in
theorem c_H_activate_x2 (l : Launch) (hadm : ∀ e : Env, l.admits e → e.platform.stackTraces = false) (Z : qZ) (hZ : qok (pX Z)) (V : qV) (Y : qY) (b : Int32) (h1 : f_isBook V b = 1) (h : b ≤ V 9 0 2 ∨ ¬ V 9 0 3 < b) : CT l y_H_activate { frames := 6, cells := 1, slots := 6, locals := 101 } (pX Z) qN [.ref (al Z 0 0), .int b] V Y (.inr "java/lang/IllegalStateException") V Y := by
  refine CT.of (cc := b_H_activate) (maxL := 2) (ret := none) hZ (by decide) w_376 (Nat.le_of_ble_eq_true rfl) ?_
  intro p e s m below meth c C hr hex hlt
  refine gq_aload_n C d_H_activate_0 rfl ?_
  refine gq_iload_n C d_H_activate_1 rfl ?_
  refine gq_callV C (st := []) (fun _ h => h) (c_H_isBook l Z hZ _ _ b) (qm (by decide) (by decide)) rfl rfl w_377 w_379 ws_H_isBook w_380 w_1 ⟨by decide, by decide, (by decide +kernel : (parseMethodDescriptor y_H_isBook.desc).map (fun d => d.parameters.length) = some 1)⟩ ⟨by decide, by decide⟩ ⟨by decide, by decide⟩ rfl (Nat.le_of_ble_eq_true rfl) d_H_activate_2 ?_
  refine gq_if_ne C (tgt := 16) d_H_activate_5 rfl (fun hb5 => ?_) (fun hb => by first | contradiction | simp_all)
  refine gq_iload_n C d_H_activate_16 rfl ?_
  refine gq_aload_n C d_H_activate_17 rfl ?_
  refine gq_get C (g := 0) (j := 0) (ci := 7) (k := 4) (v := .ref (al Z 9 0)) (qm (by decide) (by decide)) rfl rfl in_H (by decide) w_207 rfl d_H_activate_18 ?_
  refine gq_get C (g := 9) (j := 0) (ci := 2) (k := 2) (v := .int (V 9 0 2)) (qm (by decide) (by decide)) rfl rfl in_D (by decide) w_137 rfl d_H_activate_21 ?_
  refine gq_icmp_le C (tgt := 38) d_H_activate_24 rfl (fun hb24 => ?_) (fun hb24 => ?_)
  · skip
    exact gq_throw C hadm hex hlt tw_IllegalStateException w_340 w_341 w_14 (by decide) (by decide) (by decide) (by decide) (by decide) (Nat.le_of_ble_eq_true rfl) d_H_activate_38 d_H_activate_41 d_H_activate_42 d_H_activate_45
  · skip
    refine gq_iload_n C d_H_activate_27 rfl ?_
    refine gq_aload_n C d_H_activate_28 rfl ?_
    refine gq_get C (g := 0) (j := 0) (ci := 7) (k := 4) (v := .ref (al Z 9 0)) (qm (by decide) (by decide)) rfl rfl in_H (by decide) w_207 rfl d_H_activate_29 ?_
    refine gq_get C (g := 9) (j := 0) (ci := 2) (k := 3) (v := .int (V 9 0 3)) (qm (by decide) (by decide)) rfl rfl in_D (by decide) w_139 rfl d_H_activate_32 ?_
    refine gq_icmp_gt C (tgt := 46) d_H_activate_35 rfl (fun hb => by first | contradiction | (rcases h with h | h <;> contradiction)) (fun hb35 => ?_)
    exact gq_throw C hadm hex hlt tw_IllegalStateException w_340 w_341 w_14 (by decide) (by decide) (by decide) (by decide) (by decide) (Nat.le_of_ble_eq_true rfl) d_H_activate_38 d_H_activate_41 d_H_activate_42 d_H_activate_45

set_option maxHeartbeats 4000000 in
set_option maxRecDepth 100000 in
theorem c_H_active (l : Launch) (Z : qZ) (hZ : qok (pX Z)) (V : qV) (Y : qY)  : CT l y_H_active { frames := 1, cells := 0, slots := 0, locals := 40 } (pX Z) qN [.ref (al Z 0 0)] V Y (.inl (some (.int (V 9 0 2)))) V Y := by
  refine CT.of (cc := b_H_active) (maxL := 1) (ret := (some .int)) hZ (by decide) w_235 (Nat.le_of_ble_eq_true rfl) ?_
  intro p e s m below meth c C hr hex hlt
  refine gq_aload_n C d_H_active_0 rfl ?_
  refine gq_get C (g := 0) (j := 0) (ci := 7) (k := 4) (v := .ref (al Z 9 0)) (qm (by decide) (by decide)) rfl rfl in_H (by decide) w_207 rfl d_H_active_1 ?_
  refine gq_get C (g := 9) (j := 0) (ci := 2) (k := 2) (v := .int (V 9 0 2)) (qm (by decide) (by decide)) rfl rfl in_D (by decide) w_137 rfl d_H_active_4 ?_
  exact gq_iret C hr (by decide) (by decide) d_H_active_7

set_option maxHeartbeats 4000000 in
set_option maxRecDepth 100000 in
theorem c_H_tick (l : Launch) (Z : qZ) (hZ : qok (pX Z)) (V : qV) (Y : qY) (n : Int32) (h1 : ¬ n < 1) (h2 : n ≤ 500) : CT l y_H_tick { frames := 6, cells := 0, slots := 0, locals := 101 } (pX Z) (qA (pX Z)) [.ref (al Z 0 0), .int n] V Y (.inl (some (.int ((V 8 4 0 + n * V 8 4 1) / 100)))) (f_look (f_go5 V n)) Y := by
  refine CT.of (cc := b_H_tick) (maxL := 3) (ret := (some .int)) hZ (by decide) w_403 (Nat.le_of_ble_eq_true rfl) ?_
  intro p e s m below meth c C hr hex hlt
  refine gq_iload_n C d_H_tick_0 rfl ?_
  refine gq_iconst C (v := 1) d_H_tick_1 (by decide) ?_
  refine gq_icmp_lt C (tgt := 12) d_H_tick_2 rfl (fun hb => by first | contradiction | contradiction) (fun hb2 => ?_)
  refine gq_iload_n C d_H_tick_5 rfl ?_
  refine gq_sipush C (v := 500) d_H_tick_6 (by decide) ?_
  refine gq_icmp_le C (tgt := 20) d_H_tick_9 rfl (fun hb9 => ?_) (fun hb => by first | contradiction | contradiction)
  refine gq_iconst C (v := 0) d_H_tick_20 (by decide) ?_
  refine gq_istore_n C (lo' := [(2, .int 0), (0, .ref (al Z 0 0)), (1, .int n)]) d_H_tick_21 rfl (by decide) rfl ?_
  refine gq_iload_n C d_H_tick_22 rfl ?_
  refine gq_iconst C (v := 4) d_H_tick_23 (by decide) ?_
  refine gq_icmp_ge C (tgt := 46) d_H_tick_24 rfl (fun hb => by first | contradiction | exact absurd hb (by decide)) (fun hb24 => ?_)
  refine gq_aload_n C d_H_tick_27 rfl ?_
  refine gq_get C (g := 0) (j := 0) (ci := 7) (k := 3) (v := .ref (al Z 6 0)) (qm (by decide) (by decide)) rfl rfl in_H (by decide) w_206 rfl d_H_tick_28 ?_
  refine gq_iload_n C d_H_tick_31 rfl ?_
  refine gq_aald C (g := 6) (j := 0) (a := 0) (t0 := 4) (b := al Z 7 0) (qm (by decide) (by decide)) rfl rfl rfl (by decide) (by decide) rfl d_H_tick_32 ?_
  refine gq_get C (g := 7) (j := 0) (ci := 6) (k := 0) (v := .ref (al Z 8 0)) (qm (by decide) (by decide)) rfl rfl in_T (by decide) w_70 rfl d_H_tick_33 ?_
  refine gq_iload_n C d_H_tick_36 rfl ?_
  refine gq_callV C (st := []) (fun _ h => h) (c_C_go l Z hZ _ _ 0 (by decide) n) (qm (by decide) (by decide)) rfl rfl w_404 w_405 w_406 w_407 w_4 ⟨by decide, by decide, (by decide +kernel : (parseMethodDescriptor y_C_go.desc).map (fun d => d.parameters.length) = some 1)⟩ ⟨by decide, by decide⟩ ⟨by decide, by decide⟩ rfl (Nat.le_of_ble_eq_true rfl) d_H_tick_37 ?_
  refine gq_iinc C (k := 0) (w := 1) (lo' := [(2, .int 1), (0, .ref (al Z 0 0)), (1, .int n)]) d_H_tick_40 rfl (by decide) (by decide) rfl ?_
  refine gq_goto C (tgt := 22) d_H_tick_43 rfl ?_
  refine gq_iload_n C d_H_tick_22 rfl ?_
  refine gq_iconst C (v := 4) d_H_tick_23 (by decide) ?_
  refine gq_icmp_ge C (tgt := 46) d_H_tick_24 rfl (fun hb => by first | contradiction | exact absurd hb (by decide)) (fun hb24 => ?_)
  refine gq_aload_n C d_H_tick_27 rfl ?_
  refine gq_get C (g := 0) (j := 0) (ci := 7) (k := 3) (v := .ref (al Z 6 0)) (qm (by decide) (by decide)) rfl rfl in_H (by decide) w_206 rfl d_H_tick_28 ?_
  refine gq_iload_n C d_H_tick_31 rfl ?_
  refine gq_aald C (g := 6) (j := 0) (a := 1) (t0 := 4) (b := al Z 7 1) (qm (by decide) (by decide)) rfl rfl rfl (by decide) (by decide) rfl d_H_tick_32 ?_
  refine gq_get C (g := 7) (j := 1) (ci := 6) (k := 0) (v := .ref (al Z 8 1)) (qm (by decide) (by decide)) rfl rfl in_T (by decide) w_70 rfl d_H_tick_33 ?_
  refine gq_iload_n C d_H_tick_36 rfl ?_
  refine gq_callV C (st := []) (fun _ h => h) (c_C_go l Z hZ _ _ 1 (by decide) n) (qm (by decide) (by decide)) rfl rfl w_404 w_405 w_406 w_407 w_4 ⟨by decide, by decide, (by decide +kernel : (parseMethodDescriptor y_C_go.desc).map (fun d => d.parameters.length) = some 1)⟩ ⟨by decide, by decide⟩ ⟨by decide, by decide⟩ rfl (Nat.le_of_ble_eq_true rfl) d_H_tick_37 ?_
  refine gq_iinc C (k := 0) (w := 2) (lo' := [(2, .int 2), (0, .ref (al Z 0 0)), (1, .int n)]) d_H_tick_40 rfl (by decide) (by decide) rfl ?_
  refine gq_goto C (tgt := 22) d_H_tick_43 rfl ?_
  refine gq_iload_n C d_H_tick_22 rfl ?_
  refine gq_iconst C (v := 4) d_H_tick_23 (by decide) ?_
  refine gq_icmp_ge C (tgt := 46) d_H_tick_24 rfl (fun hb => by first | contradiction | exact absurd hb (by decide)) (fun hb24 => ?_)
  refine gq_aload_n C d_H_tick_27 rfl ?_
  refine gq_get C (g := 0) (j := 0) (ci := 7) (k := 3) (v := .ref (al Z 6 0)) (qm (by decide) (by decide)) rfl rfl in_H (by decide) w_206 rfl d_H_tick_28 ?_
  refine gq_iload_n C d_H_tick_31 rfl ?_
  refine gq_aald C (g := 6) (j := 0) (a := 2) (t0 := 4) (b := al Z 7 2) (qm (by decide) (by decide)) rfl rfl rfl (by decide) (by decide) rfl d_H_tick_32 ?_
  refine gq_get C (g := 7) (j := 2) (ci := 6) (k := 0) (v := .ref (al Z 8 2)) (qm (by decide) (by decide)) rfl rfl in_T (by decide) w_70 rfl d_H_tick_33 ?_
  refine gq_iload_n C d_H_tick_36 rfl ?_
  refine gq_callV C (st := []) (fun _ h => h) (c_C_go l Z hZ _ _ 2 (by decide) n) (qm (by decide) (by decide)) rfl rfl w_404 w_405 w_406 w_407 w_4 ⟨by decide, by decide, (by decide +kernel : (parseMethodDescriptor y_C_go.desc).map (fun d => d.parameters.length) = some 1)⟩ ⟨by decide, by decide⟩ ⟨by decide, by decide⟩ rfl (Nat.le_of_ble_eq_true rfl) d_H_tick_37 ?_
  refine gq_iinc C (k := 0) (w := 3) (lo' := [(2, .int 3), (0, .ref (al Z 0 0)), (1, .int n)]) d_H_tick_40 rfl (by decide) (by decide) rfl ?_
  refine gq_goto C (tgt := 22) d_H_tick_43 rfl ?_
  refine gq_iload_n C d_H_tick_22 rfl ?_
  refine gq_iconst C (v := 4) d_H_tick_23 (by decide) ?_
  refine gq_icmp_ge C (tgt := 46) d_H_tick_24 rfl (fun hb => by first | contradiction | exact absurd hb (by decide)) (fun hb24 => ?_)
  refine gq_aload_n C d_H_tick_27 rfl ?_
  refine gq_get C (g := 0) (j := 0) (ci := 7) (k := 3) (v := .ref (al Z 6 0)) (qm (by decide) (by decide)) rfl rfl in_H (by decide) w_206 rfl d_H_tick_28 ?_
  refine gq_iload_n C d_H_tick_31 rfl ?_
  refine gq_aald C (g := 6) (j := 0) (a := 3) (t0 := 4) (b := al Z 7 3) (qm (by decide) (by decide)) rfl rfl rfl (by decide) (by decide) rfl d_H_tick_32 ?_
  refine gq_get C (g := 7) (j := 3) (ci := 6) (k := 0) (v := .ref (al Z 8 3)) (qm (by decide) (by decide)) rfl rfl in_T (by decide) w_70 rfl d_H_tick_33 ?_
  refine gq_iload_n C d_H_tick_36 rfl ?_
  refine gq_callV C (st := []) (fun _ h => h) (c_C_go l Z hZ _ _ 3 (by decide) n) (qm (by decide) (by decide)) rfl rfl w_404 w_405 w_406 w_407 w_4 ⟨by decide, by decide, (by decide +kernel : (parseMethodDescriptor y_C_go.desc).map (fun d => d.parameters.length) = some 1)⟩ ⟨by decide, by decide⟩ ⟨by decide, by decide⟩ rfl (Nat.le_of_ble_eq_true rfl) d_H_tick_37 ?_
  refine gq_iinc C (k := 0) (w := 4) (lo' := [(2, .int 4), (0, .ref (al Z 0 0)), (1, .int n)]) d_H_tick_40 rfl (by decide) (by decide) rfl ?_
  refine gq_goto C (tgt := 22) d_H_tick_43 rfl ?_
  refine gq_iload_n C d_H_tick_22 rfl ?_
  refine gq_iconst C (v := 4) d_H_tick_23 (by decide) ?_
  refine gq_icmp_ge C (tgt := 46) d_H_tick_24 rfl (fun hb24 => ?_) (fun hb => by first | contradiction | exact absurd hb (by decide))
  refine gq_aload_n C d_H_tick_46 rfl ?_
  refine gq_get C (g := 0) (j := 0) (ci := 7) (k := 4) (v := .ref (al Z 9 0)) (qm (by decide) (by decide)) rfl rfl in_H (by decide) w_207 rfl d_H_tick_47 ?_
  refine gq_get C (g := 9) (j := 0) (ci := 2) (k := 0) (v := .ref (al Z 8 4)) (qm (by decide) (by decide)) rfl rfl in_D (by decide) w_133 rfl d_H_tick_50 ?_
  refine gq_iload_n C d_H_tick_53 rfl ?_
  refine gq_callV C (st := []) (fun _ h => h) (c_C_go l Z hZ _ _ 4 (by decide) n) (qm (by decide) (by decide)) rfl rfl w_404 w_405 w_406 w_407 w_4 ⟨by decide, by decide, (by decide +kernel : (parseMethodDescriptor y_C_go.desc).map (fun d => d.parameters.length) = some 1)⟩ ⟨by decide, by decide⟩ ⟨by decide, by decide⟩ rfl (Nat.le_of_ble_eq_true rfl) d_H_tick_54 ?_
  refine gq_aload_n C d_H_tick_57 rfl ?_
  refine gq_get C (g := 0) (j := 0) (ci := 7) (k := 4) (v := .ref (al Z 9 0)) (qm (by decide) (by decide)) rfl rfl in_H (by decide) w_207 rfl d_H_tick_58 ?_
  refine gq_callV C (st := []) (fun _ h => h) (c_D_lookAtChange l Z hZ _ _) (qm (by decide) (by decide)) rfl rfl w_381 w_382 w_383 w_384 w_5 ⟨by decide, by decide, (by decide +kernel : (parseMethodDescriptor y_D_lookAtChange.desc).map (fun d => d.parameters.length) = some 0)⟩ ⟨by decide, by decide⟩ ⟨by decide, by decide⟩ rfl (Nat.le_of_ble_eq_true rfl) d_H_tick_61 ?_
  refine gq_aload_n C d_H_tick_64 rfl ?_
  refine gq_get C (g := 0) (j := 0) (ci := 7) (k := 4) (v := .ref (al Z 9 0)) (qm (by decide) (by decide)) rfl rfl in_H (by decide) w_207 rfl d_H_tick_65 ?_
  refine gq_get C (g := 9) (j := 0) (ci := 2) (k := 0) (v := .ref (al Z 8 4)) (qm (by decide) (by decide)) rfl rfl in_D (by decide) w_133 rfl d_H_tick_68 ?_
  refine gq_callV C (st := []) (fun _ h => h.elim) (c_C_shown l Z hZ _ _ 4 (by decide)) (qm (by decide) (by decide)) rfl rfl w_408 w_390 w_391 w_392 w_4 ⟨by decide, by decide, (by decide +kernel : (parseMethodDescriptor y_C_shown.desc).map (fun d => d.parameters.length) = some 0)⟩ ⟨by decide, by decide⟩ ⟨by decide, by decide⟩ rfl (Nat.le_of_ble_eq_true rfl) d_H_tick_71 ?_
  refine G.eqS (st' := [.int (((V 8 4 0) + n * (V 8 4 1)) / 100)]) (by simp [qv_at, f_look_fr]) ?_
  exact gq_iretE C hr (by rfl) (by rfl) rfl (by decide) (by decide) d_H_tick_74

set_option maxHeartbeats 4000000 in
set_option maxRecDepth 100000 in
theorem c_H_tick_x (l : Launch) (hadm : ∀ e : Env, l.admits e → e.platform.stackTraces = false) (Z : qZ) (hZ : qok (pX Z)) (V : qV) (Y : qY) (n : Int32) (h : n < 1 ∨ ¬ n ≤ 500) : CT l y_H_tick { frames := 6, cells := 1, slots := 6, locals := 101 } (pX Z) qN [.ref (al Z 0 0), .int n] V Y (.inr "java/lang/IllegalArgumentException") V Y := by
  refine CT.of (cc := b_H_tick) (maxL := 3) (ret := (some .int)) hZ (by decide) w_403 (Nat.le_of_ble_eq_true rfl) ?_
  intro p e s m below meth c C hr hex hlt
  refine gq_iload_n C d_H_tick_0 rfl ?_
  refine gq_iconst C (v := 1) d_H_tick_1 (by decide) ?_
  refine gq_icmp_lt C (tgt := 12) d_H_tick_2 rfl (fun hb2 => ?_) (fun hb2 => ?_)
  · skip
    exact gq_throw C hadm hex hlt tw_IllegalArgumentException w_255 w_256 w_13 (by decide) (by decide) (by decide) (by decide) (by decide) (Nat.le_of_ble_eq_true rfl) d_H_tick_12 d_H_tick_15 d_H_tick_16 d_H_tick_19
  · skip
    refine gq_iload_n C d_H_tick_5 rfl ?_
    refine gq_sipush C (v := 500) d_H_tick_6 (by decide) ?_
    refine gq_icmp_le C (tgt := 20) d_H_tick_9 rfl (fun hb => by first | contradiction | (rcases h with h | h <;> contradiction)) (fun hb9 => ?_)
    exact gq_throw C hadm hex hlt tw_IllegalArgumentException w_255 w_256 w_13 (by decide) (by decide) (by decide) (by decide) (by decide) (Nat.le_of_ble_eq_true rfl) d_H_tick_12 d_H_tick_15 d_H_tick_16 d_H_tick_19

set_option maxHeartbeats 4000000 in
set_option maxRecDepth 100000 in
theorem c_H_rate_desk (l : Launch) (Z : qZ) (hZ : qok (pX Z)) (V : qV) (Y : qY) (q : Int32) (h1 : f_isTD 4 = 1) (h2 : ¬ q < 99) (h3 : q ≤ 101) : CT l y_H_rate { frames := 6, cells := 0, slots := 0, locals := 96 } (pX Z) (qA (pX Z)) [.ref (al Z 0 0), .int 4, .int q] V Y (.inl none) (qv V 8 4 1 q) Y := by
  refine CT.of (cc := b_H_rate) (maxL := 4) (ret := none) hZ (by decide) w_415 (Nat.le_of_ble_eq_true rfl) ?_
  intro p e s m below meth c C hr hex hlt
  refine gq_iload_n C d_H_rate_0 rfl ?_
  refine gq_callS C (st := []) (fun _ h => h.elim) (c_H_isTillOrDesk l Z hZ _ _ 4) w_416 w_417 w_418 w_1 ⟨by decide, by decide, (by decide +kernel : (parseMethodDescriptor y_H_isTillOrDesk.desc).map (fun d => d.parameters.length) = some 1)⟩ ⟨by decide, by decide⟩ ⟨by decide, by decide⟩ rfl (Nat.le_of_ble_eq_true rfl) d_H_rate_1 ?_
  refine gq_if_eq C (tgt := 19) d_H_rate_4 rfl (fun hb => by first | contradiction | simp_all) (fun hb4 => ?_)
  refine gq_iload_n C d_H_rate_7 rfl ?_
  refine gq_bipush C (v := 99) d_H_rate_8 (by decide) ?_
  refine gq_icmp_lt C (tgt := 19) d_H_rate_10 rfl (fun hb => by first | contradiction | simp_all) (fun hb10 => ?_)
  refine gq_iload_n C d_H_rate_13 rfl ?_
  refine gq_bipush C (v := 101) d_H_rate_14 (by decide) ?_
  refine gq_icmp_le C (tgt := 27) d_H_rate_16 rfl (fun hb16 => ?_) (fun hb => by first | contradiction | simp_all)
  refine gq_iload_n C d_H_rate_27 rfl ?_
  refine gq_iconst C (v := 4) d_H_rate_28 (by decide) ?_
  refine gq_icmp_ne C (tgt := 42) d_H_rate_29 rfl (fun hb => by first | contradiction | exact absurd hb (by decide)) (fun hb29 => ?_)
  refine gq_aload_n C d_H_rate_32 rfl ?_
  refine gq_get C (g := 0) (j := 0) (ci := 7) (k := 4) (v := .ref (al Z 9 0)) (qm (by decide) (by decide)) rfl rfl in_H (by decide) w_207 rfl d_H_rate_33 ?_
  refine gq_get C (g := 9) (j := 0) (ci := 2) (k := 0) (v := .ref (al Z 8 4)) (qm (by decide) (by decide)) rfl rfl in_D (by decide) w_133 rfl d_H_rate_36 ?_
  refine gq_goto C (tgt := 51) d_H_rate_39 rfl ?_
  refine gq_astore_n C (lo' := [(3, .ref (al Z 8 4)), (0, .ref (al Z 0 0)), (1, .int 4), (2, .int q)]) d_H_rate_51 rfl (by decide) rfl ?_
  refine gq_aload_n C d_H_rate_52 rfl ?_
  refine gq_iload_n C d_H_rate_53 rfl ?_
  refine gq_put C (fun _ h => h) (g := 8) (j := 4) (ci := 1) (k := 1) ft_C k_C n_C (qm (by decide) (by decide)) rfl rfl in_C (by decide) w_63 rfl (k_C 1 (by decide)) rfl rfl (Nat.le_of_ble_eq_true rfl) rfl d_H_rate_54 ?_
  exact gq_vret C hr (by decide) (by decide) d_H_rate_57

set_option maxHeartbeats 4000000 in
set_option maxRecDepth 100000 in
theorem c_H_rate (l : Launch) (Z : qZ) (hZ : qok (pX Z)) (V : qV) (Y : qY) (t : Nat) (ht : t < 4) (q : Int32) (h1 : f_isTD (nI t) = 1) (h2 : ¬ q < 99) (h3 : q ≤ 101) : CT l y_H_rate { frames := 6, cells := 0, slots := 0, locals := 96 } (pX Z) (qA (pX Z)) [.ref (al Z 0 0), .int (nI t), .int q] V Y (.inl none) (qv V 8 t 1 q) Y := by
  refine CT.of (cc := b_H_rate) (maxL := 4) (ret := none) hZ (by decide) w_415 (Nat.le_of_ble_eq_true rfl) ?_
  intro p e s m below meth c C hr hex hlt
  refine gq_iload_n C d_H_rate_0 rfl ?_
  refine gq_callS C (st := []) (fun _ h => h.elim) (c_H_isTillOrDesk l Z hZ _ _ (nI t)) w_416 w_417 w_418 w_1 ⟨by decide, by decide, (by decide +kernel : (parseMethodDescriptor y_H_isTillOrDesk.desc).map (fun d => d.parameters.length) = some 1)⟩ ⟨by decide, by decide⟩ ⟨by decide, by decide⟩ rfl (Nat.le_of_ble_eq_true rfl) d_H_rate_1 ?_
  refine gq_if_eq C (tgt := 19) d_H_rate_4 rfl (fun hb => by first | contradiction | simp_all) (fun hb4 => ?_)
  refine gq_iload_n C d_H_rate_7 rfl ?_
  refine gq_bipush C (v := 99) d_H_rate_8 (by decide) ?_
  refine gq_icmp_lt C (tgt := 19) d_H_rate_10 rfl (fun hb => by first | contradiction | simp_all) (fun hb10 => ?_)
  refine gq_iload_n C d_H_rate_13 rfl ?_
  refine gq_bipush C (v := 101) d_H_rate_14 (by decide) ?_
  refine gq_icmp_le C (tgt := 27) d_H_rate_16 rfl (fun hb16 => ?_) (fun hb => by first | contradiction | simp_all)
  refine gq_iload_n C d_H_rate_27 rfl ?_
  refine gq_iconst C (v := 4) d_H_rate_28 (by decide) ?_
  refine gq_icmp_ne C (tgt := 42) d_H_rate_29 rfl (fun hb29 => ?_) (fun hb => by first | contradiction | exact absurd hb (f_n4 ht))
  refine gq_aload_n C d_H_rate_42 rfl ?_
  refine gq_get C (g := 0) (j := 0) (ci := 7) (k := 3) (v := .ref (al Z 6 0)) (qm (by decide) (by decide)) rfl rfl in_H (by decide) w_206 rfl d_H_rate_43 ?_
  refine gq_iload_n C d_H_rate_46 rfl ?_
  refine gq_aald C (g := 6) (j := 0) (a := t) (t0 := 4) (b := al Z 7 t) (qm (by decide) (by decide)) rfl rfl rfl ht (by decide) rfl d_H_rate_47 ?_
  refine gq_get C (g := 7) (j := t) (ci := 6) (k := 0) (v := .ref (al Z 8 t)) (qm (by decide) ht) rfl rfl in_T (by decide) w_70 rfl d_H_rate_48 ?_
  refine gq_astore_n C (lo' := [(3, .ref (al Z 8 t)), (0, .ref (al Z 0 0)), (1, .int (nI t)), (2, .int q)]) d_H_rate_51 rfl (by decide) rfl ?_
  refine gq_aload_n C d_H_rate_52 rfl ?_
  refine gq_iload_n C d_H_rate_53 rfl ?_
  refine gq_put C (fun _ h => h) (g := 8) (j := t) (ci := 1) (k := 1) ft_C k_C n_C (qm (by decide) (Nat.lt_trans ht (by decide))) rfl rfl in_C (by decide) w_63 rfl (k_C 1 (by decide)) rfl rfl (Nat.le_of_ble_eq_true rfl) rfl d_H_rate_54 ?_
  exact gq_vret C hr (by decide) (by decide) d_H_rate_57

set_option maxHeartbeats 4000000 in
set_option maxRecDepth 100000 in
theorem c_H_rate_x (l : Launch) (hadm : ∀ e : Env, l.admits e → e.platform.stackTraces = false) (Z : qZ) (hZ : qok (pX Z)) (V : qV) (Y : qY) (w q : Int32) (h : f_isTD w = 0 ∨ q < 99 ∨ ¬ q ≤ 101) : CT l y_H_rate { frames := 6, cells := 1, slots := 6, locals := 96 } (pX Z) qN [.ref (al Z 0 0), .int w, .int q] V Y (.inr "java/lang/IllegalArgumentException") V Y := by
  refine CT.of (cc := b_H_rate) (maxL := 4) (ret := none) hZ (by decide) w_415 (Nat.le_of_ble_eq_true rfl) ?_
  intro p e s m below meth c C hr hex hlt
  refine gq_iload_n C d_H_rate_0 rfl ?_
  refine gq_callS C (st := []) (fun _ h => h) (c_H_isTillOrDesk l Z hZ _ _ w) w_416 w_417 w_418 w_1 ⟨by decide, by decide, (by decide +kernel : (parseMethodDescriptor y_H_isTillOrDesk.desc).map (fun d => d.parameters.length) = some 1)⟩ ⟨by decide, by decide⟩ ⟨by decide, by decide⟩ rfl (Nat.le_of_ble_eq_true rfl) d_H_rate_1 ?_
  refine gq_if_eq C (tgt := 19) d_H_rate_4 rfl (fun hb4 => ?_) (fun hb4 => ?_)
  · skip
    exact gq_throw C hadm hex hlt tw_IllegalArgumentException w_255 w_256 w_13 (by decide) (by decide) (by decide) (by decide) (by decide) (Nat.le_of_ble_eq_true rfl) d_H_rate_19 d_H_rate_22 d_H_rate_23 d_H_rate_26
  · skip
    refine gq_iload_n C d_H_rate_7 rfl ?_
    refine gq_bipush C (v := 99) d_H_rate_8 (by decide) ?_
    refine gq_icmp_lt C (tgt := 19) d_H_rate_10 rfl (fun hb10 => ?_) (fun hb10 => ?_)
    · skip
      exact gq_throw C hadm hex hlt tw_IllegalArgumentException w_255 w_256 w_13 (by decide) (by decide) (by decide) (by decide) (by decide) (Nat.le_of_ble_eq_true rfl) d_H_rate_19 d_H_rate_22 d_H_rate_23 d_H_rate_26
    · skip
      refine gq_iload_n C d_H_rate_13 rfl ?_
      refine gq_bipush C (v := 101) d_H_rate_14 (by decide) ?_
      refine gq_icmp_le C (tgt := 27) d_H_rate_16 rfl (fun hb => by first | contradiction | (rcases h with h | h | h <;> contradiction)) (fun hb16 => ?_)
      exact gq_throw C hadm hex hlt tw_IllegalArgumentException w_255 w_256 w_13 (by decide) (by decide) (by decide) (by decide) (by decide) (Nat.le_of_ble_eq_true rfl) d_H_rate_19 d_H_rate_22 d_H_rate_23 d_H_rate_26
end
section
/-! PriceHouse: the tills, the letters, the baskets -/
theorem f_cnt2 {V V' : qV} (h : ∃ q, q ≤ 40 ∧ V 12 0 4 = nI q) (e : V' 12 0 4 = V 12 0 4) : ∃ q, q ≤ 40 ∧ V' 12 0 4 = nI q := by
  rw [e]
  exact h

theorem d_H_ready_0 : decode b_H_ready 0 = .ok (.iload_n 1, 1) := by decide +kernel
theorem d_H_ready_1 : decode b_H_ready 1 = .ok (.invokestatic 126, 3) := by decide +kernel
theorem d_H_ready_4 : decode b_H_ready 4 = .ok (.aload_n 0, 1) := by decide +kernel
theorem d_H_ready_5 : decode b_H_ready 5 = .ok (.getfield 22, 3) := by decide +kernel
theorem d_H_ready_8 : decode b_H_ready 8 = .ok (.iload_n 1, 1) := by decide +kernel
theorem d_H_ready_9 : decode b_H_ready 9 = .ok (.aaload, 1) := by decide +kernel
theorem d_H_ready_10 : decode b_H_ready 10 = .ok (.getfield 129, 3) := by decide +kernel
theorem d_H_ready_13 : decode b_H_ready 13 = .ok (.istore_n 2, 1) := by decide +kernel
theorem d_H_ready_14 : decode b_H_ready 14 = .ok (.iload_n 2, 1) := by decide +kernel
theorem d_H_ready_15 : decode b_H_ready 15 = .ok (.ifCond .ne 11, 3) := by decide +kernel
theorem d_H_ready_18 : decode b_H_ready 18 = .ok (.new 82, 3) := by decide +kernel
theorem d_H_ready_21 : decode b_H_ready 21 = .ok (.dup, 1) := by decide +kernel
theorem d_H_ready_22 : decode b_H_ready 22 = .ok (.invokespecial 84, 3) := by decide +kernel
theorem d_H_ready_25 : decode b_H_ready 25 = .ok (.athrow, 1) := by decide +kernel
theorem d_H_ready_26 : decode b_H_ready 26 = .ok (.aload_n 0, 1) := by decide +kernel
theorem d_H_ready_27 : decode b_H_ready 27 = .ok (.getfield 22, 3) := by decide +kernel
theorem d_H_ready_30 : decode b_H_ready 30 = .ok (.iload_n 1, 1) := by decide +kernel
theorem d_H_ready_31 : decode b_H_ready 31 = .ok (.aaload, 1) := by decide +kernel
theorem d_H_ready_32 : decode b_H_ready 32 = .ok (.iload_n 2, 1) := by decide +kernel
theorem d_H_ready_33 : decode b_H_ready 33 = .ok (.putfield 132, 3) := by decide +kernel
theorem d_H_ready_36 : decode b_H_ready 36 = .ok (.aload_n 0, 1) := by decide +kernel
theorem d_H_ready_37 : decode b_H_ready 37 = .ok (.getfield 37, 3) := by decide +kernel
theorem d_H_ready_40 : decode b_H_ready 40 = .ok (.iconst 3, 1) := by decide +kernel
theorem d_H_ready_41 : decode b_H_ready 41 = .ok (.iload_n 1, 1) := by decide +kernel
theorem d_H_ready_42 : decode b_H_ready 42 = .ok (.iload_n 2, 1) := by decide +kernel
theorem d_H_ready_43 : decode b_H_ready 43 = .ok (.iconst 0, 1) := by decide +kernel
theorem d_H_ready_44 : decode b_H_ready 44 = .ok (.invokevirtual 89, 3) := by decide +kernel
theorem d_H_ready_47 : decode b_H_ready 47 = .ok (.iload_n 2, 1) := by decide +kernel
theorem d_H_ready_48 : decode b_H_ready 48 = .ok (.ireturn, 1) := by decide +kernel

theorem d_H_ask_0 : decode b_H_ask 0 = .ok (.iload_n 1, 1) := by decide +kernel
theorem d_H_ask_1 : decode b_H_ask 1 = .ok (.invokestatic 126, 3) := by decide +kernel
theorem d_H_ask_4 : decode b_H_ask 4 = .ok (.aload_n 0, 1) := by decide +kernel
theorem d_H_ask_5 : decode b_H_ask 5 = .ok (.getfield 22, 3) := by decide +kernel
theorem d_H_ask_8 : decode b_H_ask 8 = .ok (.iload_n 1, 1) := by decide +kernel
theorem d_H_ask_9 : decode b_H_ask 9 = .ok (.aaload, 1) := by decide +kernel
theorem d_H_ask_10 : decode b_H_ask 10 = .ok (.invokevirtual 135, 3) := by decide +kernel
theorem d_H_ask_13 : decode b_H_ask 13 = .ok (.istore_n 2, 1) := by decide +kernel
theorem d_H_ask_14 : decode b_H_ask 14 = .ok (.aload_n 0, 1) := by decide +kernel
theorem d_H_ask_15 : decode b_H_ask 15 = .ok (.getfield 37, 3) := by decide +kernel
theorem d_H_ask_18 : decode b_H_ask 18 = .ok (.iconst 1, 1) := by decide +kernel
theorem d_H_ask_19 : decode b_H_ask 19 = .ok (.iload_n 1, 1) := by decide +kernel
theorem d_H_ask_20 : decode b_H_ask 20 = .ok (.iconst 0, 1) := by decide +kernel
theorem d_H_ask_21 : decode b_H_ask 21 = .ok (.iload_n 2, 1) := by decide +kernel
theorem d_H_ask_22 : decode b_H_ask 22 = .ok (.invokevirtual 89, 3) := by decide +kernel
theorem d_H_ask_25 : decode b_H_ask 25 = .ok (.iload_n 2, 1) := by decide +kernel
theorem d_H_ask_26 : decode b_H_ask 26 = .ok (.ireturn, 1) := by decide +kernel

theorem d_H_giveUp_0 : decode b_H_giveUp 0 = .ok (.iload_n 1, 1) := by decide +kernel
theorem d_H_giveUp_1 : decode b_H_giveUp 1 = .ok (.invokestatic 126, 3) := by decide +kernel
theorem d_H_giveUp_4 : decode b_H_giveUp 4 = .ok (.aload_n 0, 1) := by decide +kernel
theorem d_H_giveUp_5 : decode b_H_giveUp 5 = .ok (.getfield 22, 3) := by decide +kernel
theorem d_H_giveUp_8 : decode b_H_giveUp 8 = .ok (.iload_n 1, 1) := by decide +kernel
theorem d_H_giveUp_9 : decode b_H_giveUp 9 = .ok (.aaload, 1) := by decide +kernel
theorem d_H_giveUp_10 : decode b_H_giveUp 10 = .ok (.astore_n 2, 1) := by decide +kernel
theorem d_H_giveUp_11 : decode b_H_giveUp 11 = .ok (.aload_n 2, 1) := by decide +kernel
theorem d_H_giveUp_12 : decode b_H_giveUp 12 = .ok (.getfield 138, 3) := by decide +kernel
theorem d_H_giveUp_15 : decode b_H_giveUp 15 = .ok (.ifCond .eq 10, 3) := by decide +kernel
theorem d_H_giveUp_18 : decode b_H_giveUp 18 = .ok (.aload_n 2, 1) := by decide +kernel
theorem d_H_giveUp_19 : decode b_H_giveUp 19 = .ok (.getfield 141, 3) := by decide +kernel
theorem d_H_giveUp_22 : decode b_H_giveUp 22 = .ok (.ifCond .eq 11, 3) := by decide +kernel
theorem d_H_giveUp_25 : decode b_H_giveUp 25 = .ok (.new 82, 3) := by decide +kernel
theorem d_H_giveUp_28 : decode b_H_giveUp 28 = .ok (.dup, 1) := by decide +kernel
theorem d_H_giveUp_29 : decode b_H_giveUp 29 = .ok (.invokespecial 84, 3) := by decide +kernel
theorem d_H_giveUp_32 : decode b_H_giveUp 32 = .ok (.athrow, 1) := by decide +kernel
theorem d_H_giveUp_33 : decode b_H_giveUp 33 = .ok (.aload_n 2, 1) := by decide +kernel
theorem d_H_giveUp_34 : decode b_H_giveUp 34 = .ok (.invokevirtual 145, 3) := by decide +kernel
theorem d_H_giveUp_37 : decode b_H_giveUp 37 = .ok (.aload_n 0, 1) := by decide +kernel
theorem d_H_giveUp_38 : decode b_H_giveUp 38 = .ok (.getfield 37, 3) := by decide +kernel
theorem d_H_giveUp_41 : decode b_H_giveUp 41 = .ok (.iconst 4, 1) := by decide +kernel
theorem d_H_giveUp_42 : decode b_H_giveUp 42 = .ok (.iload_n 1, 1) := by decide +kernel
theorem d_H_giveUp_43 : decode b_H_giveUp 43 = .ok (.iconst 0, 1) := by decide +kernel
theorem d_H_giveUp_44 : decode b_H_giveUp 44 = .ok (.aload_n 2, 1) := by decide +kernel
theorem d_H_giveUp_45 : decode b_H_giveUp 45 = .ok (.getfield 138, 3) := by decide +kernel
theorem d_H_giveUp_48 : decode b_H_giveUp 48 = .ok (.invokevirtual 89, 3) := by decide +kernel
theorem d_H_giveUp_51 : decode b_H_giveUp 51 = .ok (.return_, 1) := by decide +kernel

theorem d_H_lease_0 : decode b_H_lease 0 = .ok (.iload_n 1, 1) := by decide +kernel
theorem d_H_lease_1 : decode b_H_lease 1 = .ok (.invokestatic 126, 3) := by decide +kernel
theorem d_H_lease_4 : decode b_H_lease 4 = .ok (.aload_n 0, 1) := by decide +kernel
theorem d_H_lease_5 : decode b_H_lease 5 = .ok (.getfield 22, 3) := by decide +kernel
theorem d_H_lease_8 : decode b_H_lease 8 = .ok (.iload_n 1, 1) := by decide +kernel
theorem d_H_lease_9 : decode b_H_lease 9 = .ok (.aaload, 1) := by decide +kernel
theorem d_H_lease_10 : decode b_H_lease 10 = .ok (.invokevirtual 148, 3) := by decide +kernel
theorem d_H_lease_13 : decode b_H_lease 13 = .ok (.ireturn, 1) := by decide +kernel

theorem d_H_loaded_0 : decode b_H_loaded 0 = .ok (.iload_n 1, 1) := by decide +kernel
theorem d_H_loaded_1 : decode b_H_loaded 1 = .ok (.invokestatic 126, 3) := by decide +kernel
theorem d_H_loaded_4 : decode b_H_loaded 4 = .ok (.aload_n 0, 1) := by decide +kernel
theorem d_H_loaded_5 : decode b_H_loaded 5 = .ok (.getfield 22, 3) := by decide +kernel
theorem d_H_loaded_8 : decode b_H_loaded 8 = .ok (.iload_n 1, 1) := by decide +kernel
theorem d_H_loaded_9 : decode b_H_loaded 9 = .ok (.aaload, 1) := by decide +kernel
theorem d_H_loaded_10 : decode b_H_loaded 10 = .ok (.getfield 129, 3) := by decide +kernel
theorem d_H_loaded_13 : decode b_H_loaded 13 = .ok (.ireturn, 1) := by decide +kernel

theorem d_H_restart_0 : decode b_H_restart 0 = .ok (.iload_n 1, 1) := by decide +kernel
theorem d_H_restart_1 : decode b_H_restart 1 = .ok (.invokestatic 120, 3) := by decide +kernel
theorem d_H_restart_4 : decode b_H_restart 4 = .ok (.ifCond .ne 11, 3) := by decide +kernel
theorem d_H_restart_7 : decode b_H_restart 7 = .ok (.new 59, 3) := by decide +kernel
theorem d_H_restart_10 : decode b_H_restart 10 = .ok (.dup, 1) := by decide +kernel
theorem d_H_restart_11 : decode b_H_restart 11 = .ok (.invokespecial 61, 3) := by decide +kernel
theorem d_H_restart_14 : decode b_H_restart 14 = .ok (.athrow, 1) := by decide +kernel
theorem d_H_restart_15 : decode b_H_restart 15 = .ok (.iload_n 1, 1) := by decide +kernel
theorem d_H_restart_16 : decode b_H_restart 16 = .ok (.iconst 4, 1) := by decide +kernel
theorem d_H_restart_17 : decode b_H_restart 17 = .ok (.if_icmp .ne 13, 3) := by decide +kernel
theorem d_H_restart_20 : decode b_H_restart 20 = .ok (.aload_n 0, 1) := by decide +kernel
theorem d_H_restart_21 : decode b_H_restart 21 = .ok (.getfield 30, 3) := by decide +kernel
theorem d_H_restart_24 : decode b_H_restart 24 = .ok (.invokevirtual 151, 3) := by decide +kernel
theorem d_H_restart_27 : decode b_H_restart 27 = .ok (.goto 12, 3) := by decide +kernel
theorem d_H_restart_30 : decode b_H_restart 30 = .ok (.aload_n 0, 1) := by decide +kernel
theorem d_H_restart_31 : decode b_H_restart 31 = .ok (.getfield 22, 3) := by decide +kernel
theorem d_H_restart_34 : decode b_H_restart 34 = .ok (.iload_n 1, 1) := by decide +kernel
theorem d_H_restart_35 : decode b_H_restart 35 = .ok (.aaload, 1) := by decide +kernel
theorem d_H_restart_36 : decode b_H_restart 36 = .ok (.invokevirtual 145, 3) := by decide +kernel
theorem d_H_restart_39 : decode b_H_restart 39 = .ok (.return_, 1) := by decide +kernel

theorem d_H_deliver_0 : decode b_H_deliver 0 = .ok (.aload_n 0, 1) := by decide +kernel
theorem d_H_deliver_1 : decode b_H_deliver 1 = .ok (.iload_n 1, 1) := by decide +kernel
theorem d_H_deliver_2 : decode b_H_deliver 2 = .ok (.invokevirtual 154, 3) := by decide +kernel
theorem d_H_deliver_5 : decode b_H_deliver 5 = .ok (.aload_n 0, 1) := by decide +kernel
theorem d_H_deliver_6 : decode b_H_deliver 6 = .ok (.getfield 37, 3) := by decide +kernel
theorem d_H_deliver_9 : decode b_H_deliver 9 = .ok (.getfield 157, 3) := by decide +kernel
theorem d_H_deliver_12 : decode b_H_deliver 12 = .ok (.iload_n 1, 1) := by decide +kernel
theorem d_H_deliver_13 : decode b_H_deliver 13 = .ok (.iaload, 1) := by decide +kernel
theorem d_H_deliver_14 : decode b_H_deliver 14 = .ok (.istore_n 2, 1) := by decide +kernel
theorem d_H_deliver_15 : decode b_H_deliver 15 = .ok (.aload_n 0, 1) := by decide +kernel
theorem d_H_deliver_16 : decode b_H_deliver 16 = .ok (.getfield 37, 3) := by decide +kernel
theorem d_H_deliver_19 : decode b_H_deliver 19 = .ok (.getfield 160, 3) := by decide +kernel
theorem d_H_deliver_22 : decode b_H_deliver 22 = .ok (.iload_n 1, 1) := by decide +kernel
theorem d_H_deliver_23 : decode b_H_deliver 23 = .ok (.iaload, 1) := by decide +kernel
theorem d_H_deliver_24 : decode b_H_deliver 24 = .ok (.istore_n 3, 1) := by decide +kernel
theorem d_H_deliver_25 : decode b_H_deliver 25 = .ok (.aload_n 0, 1) := by decide +kernel
theorem d_H_deliver_26 : decode b_H_deliver 26 = .ok (.getfield 37, 3) := by decide +kernel
theorem d_H_deliver_29 : decode b_H_deliver 29 = .ok (.getfield 162, 3) := by decide +kernel
theorem d_H_deliver_32 : decode b_H_deliver 32 = .ok (.iload_n 1, 1) := by decide +kernel
theorem d_H_deliver_33 : decode b_H_deliver 33 = .ok (.iaload, 1) := by decide +kernel
theorem d_H_deliver_34 : decode b_H_deliver 34 = .ok (.istore 4, 2) := by decide +kernel
theorem d_H_deliver_36 : decode b_H_deliver 36 = .ok (.aload_n 0, 1) := by decide +kernel
theorem d_H_deliver_37 : decode b_H_deliver 37 = .ok (.getfield 37, 3) := by decide +kernel
theorem d_H_deliver_40 : decode b_H_deliver 40 = .ok (.getfield 164, 3) := by decide +kernel
theorem d_H_deliver_43 : decode b_H_deliver 43 = .ok (.iload_n 1, 1) := by decide +kernel
theorem d_H_deliver_44 : decode b_H_deliver 44 = .ok (.iaload, 1) := by decide +kernel
theorem d_H_deliver_45 : decode b_H_deliver 45 = .ok (.istore 5, 2) := by decide +kernel
theorem d_H_deliver_47 : decode b_H_deliver 47 = .ok (.aload_n 0, 1) := by decide +kernel
theorem d_H_deliver_48 : decode b_H_deliver 48 = .ok (.getfield 37, 3) := by decide +kernel
theorem d_H_deliver_51 : decode b_H_deliver 51 = .ok (.iload_n 1, 1) := by decide +kernel
theorem d_H_deliver_52 : decode b_H_deliver 52 = .ok (.invokevirtual 167, 3) := by decide +kernel
theorem d_H_deliver_55 : decode b_H_deliver 55 = .ok (.iload_n 2, 1) := by decide +kernel
theorem d_H_deliver_56 : decode b_H_deliver 56 = .ok (.ifCond .ne 17, 3) := by decide +kernel
theorem d_H_deliver_59 : decode b_H_deliver 59 = .ok (.aload_n 0, 1) := by decide +kernel
theorem d_H_deliver_60 : decode b_H_deliver 60 = .ok (.getfield 22, 3) := by decide +kernel
theorem d_H_deliver_63 : decode b_H_deliver 63 = .ok (.iload_n 3, 1) := by decide +kernel
theorem d_H_deliver_64 : decode b_H_deliver 64 = .ok (.aaload, 1) := by decide +kernel
theorem d_H_deliver_65 : decode b_H_deliver 65 = .ok (.iload 4, 2) := by decide +kernel
theorem d_H_deliver_67 : decode b_H_deliver 67 = .ok (.invokevirtual 170, 3) := by decide +kernel
theorem d_H_deliver_70 : decode b_H_deliver 70 = .ok (.goto 34, 3) := by decide +kernel
theorem d_H_deliver_73 : decode b_H_deliver 73 = .ok (.iload_n 2, 1) := by decide +kernel
theorem d_H_deliver_74 : decode b_H_deliver 74 = .ok (.iconst 2, 1) := by decide +kernel
theorem d_H_deliver_75 : decode b_H_deliver 75 = .ok (.if_icmp .ne 19, 3) := by decide +kernel
theorem d_H_deliver_78 : decode b_H_deliver 78 = .ok (.aload_n 0, 1) := by decide +kernel
theorem d_H_deliver_79 : decode b_H_deliver 79 = .ok (.getfield 22, 3) := by decide +kernel
theorem d_H_deliver_82 : decode b_H_deliver 82 = .ok (.iload_n 3, 1) := by decide +kernel
theorem d_H_deliver_83 : decode b_H_deliver 83 = .ok (.aaload, 1) := by decide +kernel
theorem d_H_deliver_84 : decode b_H_deliver 84 = .ok (.iload 5, 2) := by decide +kernel
theorem d_H_deliver_86 : decode b_H_deliver 86 = .ok (.iload 4, 2) := by decide +kernel
theorem d_H_deliver_88 : decode b_H_deliver 88 = .ok (.invokevirtual 173, 3) := by decide +kernel
theorem d_H_deliver_91 : decode b_H_deliver 91 = .ok (.goto 13, 3) := by decide +kernel
theorem d_H_deliver_94 : decode b_H_deliver 94 = .ok (.aload_n 0, 1) := by decide +kernel
theorem d_H_deliver_95 : decode b_H_deliver 95 = .ok (.iload_n 2, 1) := by decide +kernel
theorem d_H_deliver_96 : decode b_H_deliver 96 = .ok (.iload_n 3, 1) := by decide +kernel
theorem d_H_deliver_97 : decode b_H_deliver 97 = .ok (.iload 4, 2) := by decide +kernel
theorem d_H_deliver_99 : decode b_H_deliver 99 = .ok (.iload 5, 2) := by decide +kernel
theorem d_H_deliver_101 : decode b_H_deliver 101 = .ok (.invokevirtual 177, 3) := by decide +kernel
theorem d_H_deliver_104 : decode b_H_deliver 104 = .ok (.return_, 1) := by decide +kernel

theorem d_H_lose_0 : decode b_H_lose 0 = .ok (.aload_n 0, 1) := by decide +kernel
theorem d_H_lose_1 : decode b_H_lose 1 = .ok (.iload_n 1, 1) := by decide +kernel
theorem d_H_lose_2 : decode b_H_lose 2 = .ok (.invokevirtual 154, 3) := by decide +kernel
theorem d_H_lose_5 : decode b_H_lose 5 = .ok (.aload_n 0, 1) := by decide +kernel
theorem d_H_lose_6 : decode b_H_lose 6 = .ok (.getfield 37, 3) := by decide +kernel
theorem d_H_lose_9 : decode b_H_lose 9 = .ok (.iload_n 1, 1) := by decide +kernel
theorem d_H_lose_10 : decode b_H_lose 10 = .ok (.invokevirtual 167, 3) := by decide +kernel
theorem d_H_lose_13 : decode b_H_lose 13 = .ok (.return_, 1) := by decide +kernel

theorem d_H_twin_0 : decode b_H_twin 0 = .ok (.aload_n 0, 1) := by decide +kernel
theorem d_H_twin_1 : decode b_H_twin 1 = .ok (.iload_n 1, 1) := by decide +kernel
theorem d_H_twin_2 : decode b_H_twin 2 = .ok (.invokevirtual 154, 3) := by decide +kernel
theorem d_H_twin_5 : decode b_H_twin 5 = .ok (.aload_n 0, 1) := by decide +kernel
theorem d_H_twin_6 : decode b_H_twin 6 = .ok (.getfield 37, 3) := by decide +kernel
theorem d_H_twin_9 : decode b_H_twin 9 = .ok (.invokevirtual 180, 3) := by decide +kernel
theorem d_H_twin_12 : decode b_H_twin 12 = .ok (.ifCond .eq 11, 3) := by decide +kernel
theorem d_H_twin_15 : decode b_H_twin 15 = .ok (.new 82, 3) := by decide +kernel
theorem d_H_twin_18 : decode b_H_twin 18 = .ok (.dup, 1) := by decide +kernel
theorem d_H_twin_19 : decode b_H_twin 19 = .ok (.invokespecial 84, 3) := by decide +kernel
theorem d_H_twin_22 : decode b_H_twin 22 = .ok (.athrow, 1) := by decide +kernel
theorem d_H_twin_23 : decode b_H_twin 23 = .ok (.aload_n 0, 1) := by decide +kernel
theorem d_H_twin_24 : decode b_H_twin 24 = .ok (.getfield 37, 3) := by decide +kernel
theorem d_H_twin_27 : decode b_H_twin 27 = .ok (.aload_n 0, 1) := by decide +kernel
theorem d_H_twin_28 : decode b_H_twin 28 = .ok (.getfield 37, 3) := by decide +kernel
theorem d_H_twin_31 : decode b_H_twin 31 = .ok (.getfield 157, 3) := by decide +kernel
theorem d_H_twin_34 : decode b_H_twin 34 = .ok (.iload_n 1, 1) := by decide +kernel
theorem d_H_twin_35 : decode b_H_twin 35 = .ok (.iaload, 1) := by decide +kernel
theorem d_H_twin_36 : decode b_H_twin 36 = .ok (.aload_n 0, 1) := by decide +kernel
theorem d_H_twin_37 : decode b_H_twin 37 = .ok (.getfield 37, 3) := by decide +kernel
theorem d_H_twin_40 : decode b_H_twin 40 = .ok (.getfield 160, 3) := by decide +kernel
theorem d_H_twin_43 : decode b_H_twin 43 = .ok (.iload_n 1, 1) := by decide +kernel
theorem d_H_twin_44 : decode b_H_twin 44 = .ok (.iaload, 1) := by decide +kernel
theorem d_H_twin_45 : decode b_H_twin 45 = .ok (.aload_n 0, 1) := by decide +kernel
theorem d_H_twin_46 : decode b_H_twin 46 = .ok (.getfield 37, 3) := by decide +kernel
theorem d_H_twin_49 : decode b_H_twin 49 = .ok (.getfield 162, 3) := by decide +kernel
theorem d_H_twin_52 : decode b_H_twin 52 = .ok (.iload_n 1, 1) := by decide +kernel
theorem d_H_twin_53 : decode b_H_twin 53 = .ok (.iaload, 1) := by decide +kernel
theorem d_H_twin_54 : decode b_H_twin 54 = .ok (.aload_n 0, 1) := by decide +kernel
theorem d_H_twin_55 : decode b_H_twin 55 = .ok (.getfield 37, 3) := by decide +kernel
theorem d_H_twin_58 : decode b_H_twin 58 = .ok (.getfield 164, 3) := by decide +kernel
theorem d_H_twin_61 : decode b_H_twin 61 = .ok (.iload_n 1, 1) := by decide +kernel
theorem d_H_twin_62 : decode b_H_twin 62 = .ok (.iaload, 1) := by decide +kernel
theorem d_H_twin_63 : decode b_H_twin 63 = .ok (.invokevirtual 89, 3) := by decide +kernel
theorem d_H_twin_66 : decode b_H_twin 66 = .ok (.return_, 1) := by decide +kernel

theorem d_H_letter_0 : decode b_H_letter 0 = .ok (.aload_n 0, 1) := by decide +kernel
theorem d_H_letter_1 : decode b_H_letter 1 = .ok (.iload_n 1, 1) := by decide +kernel
theorem d_H_letter_2 : decode b_H_letter 2 = .ok (.invokevirtual 154, 3) := by decide +kernel
theorem d_H_letter_5 : decode b_H_letter 5 = .ok (.iload_n 2, 1) := by decide +kernel
theorem d_H_letter_6 : decode b_H_letter 6 = .ok (.tableswitch 70 0 3 #[30, 40, 50, 60], 30) := by decide +kernel
theorem d_H_letter_36 : decode b_H_letter 36 = .ok (.aload_n 0, 1) := by decide +kernel
theorem d_H_letter_37 : decode b_H_letter 37 = .ok (.getfield 37, 3) := by decide +kernel
theorem d_H_letter_40 : decode b_H_letter 40 = .ok (.getfield 157, 3) := by decide +kernel
theorem d_H_letter_43 : decode b_H_letter 43 = .ok (.iload_n 1, 1) := by decide +kernel
theorem d_H_letter_44 : decode b_H_letter 44 = .ok (.iaload, 1) := by decide +kernel
theorem d_H_letter_45 : decode b_H_letter 45 = .ok (.ireturn, 1) := by decide +kernel
theorem d_H_letter_46 : decode b_H_letter 46 = .ok (.aload_n 0, 1) := by decide +kernel
theorem d_H_letter_47 : decode b_H_letter 47 = .ok (.getfield 37, 3) := by decide +kernel
theorem d_H_letter_50 : decode b_H_letter 50 = .ok (.getfield 160, 3) := by decide +kernel
theorem d_H_letter_53 : decode b_H_letter 53 = .ok (.iload_n 1, 1) := by decide +kernel
theorem d_H_letter_54 : decode b_H_letter 54 = .ok (.iaload, 1) := by decide +kernel
theorem d_H_letter_55 : decode b_H_letter 55 = .ok (.ireturn, 1) := by decide +kernel
theorem d_H_letter_56 : decode b_H_letter 56 = .ok (.aload_n 0, 1) := by decide +kernel
theorem d_H_letter_57 : decode b_H_letter 57 = .ok (.getfield 37, 3) := by decide +kernel
theorem d_H_letter_60 : decode b_H_letter 60 = .ok (.getfield 162, 3) := by decide +kernel
theorem d_H_letter_63 : decode b_H_letter 63 = .ok (.iload_n 1, 1) := by decide +kernel
theorem d_H_letter_64 : decode b_H_letter 64 = .ok (.iaload, 1) := by decide +kernel
theorem d_H_letter_65 : decode b_H_letter 65 = .ok (.ireturn, 1) := by decide +kernel
theorem d_H_letter_66 : decode b_H_letter 66 = .ok (.aload_n 0, 1) := by decide +kernel
theorem d_H_letter_67 : decode b_H_letter 67 = .ok (.getfield 37, 3) := by decide +kernel
theorem d_H_letter_70 : decode b_H_letter 70 = .ok (.getfield 164, 3) := by decide +kernel
theorem d_H_letter_73 : decode b_H_letter 73 = .ok (.iload_n 1, 1) := by decide +kernel
theorem d_H_letter_74 : decode b_H_letter 74 = .ok (.iaload, 1) := by decide +kernel
theorem d_H_letter_75 : decode b_H_letter 75 = .ok (.ireturn, 1) := by decide +kernel
theorem d_H_letter_76 : decode b_H_letter 76 = .ok (.new 59, 3) := by decide +kernel
theorem d_H_letter_79 : decode b_H_letter 79 = .ok (.dup, 1) := by decide +kernel
theorem d_H_letter_80 : decode b_H_letter 80 = .ok (.invokespecial 61, 3) := by decide +kernel
theorem d_H_letter_83 : decode b_H_letter 83 = .ok (.athrow, 1) := by decide +kernel

theorem d_H_letters_0 : decode b_H_letters 0 = .ok (.aload_n 0, 1) := by decide +kernel
theorem d_H_letters_1 : decode b_H_letters 1 = .ok (.getfield 37, 3) := by decide +kernel
theorem d_H_letters_4 : decode b_H_letters 4 = .ok (.getfield 184, 3) := by decide +kernel
theorem d_H_letters_7 : decode b_H_letters 7 = .ok (.ireturn, 1) := by decide +kernel

theorem d_H_open_0 : decode b_H_open 0 = .ok (.iload_n 1, 1) := by decide +kernel
theorem d_H_open_1 : decode b_H_open 1 = .ok (.invokestatic 126, 3) := by decide +kernel
theorem d_H_open_4 : decode b_H_open 4 = .ok (.aload_n 0, 1) := by decide +kernel
theorem d_H_open_5 : decode b_H_open 5 = .ok (.getfield 22, 3) := by decide +kernel
theorem d_H_open_8 : decode b_H_open 8 = .ok (.iload_n 1, 1) := by decide +kernel
theorem d_H_open_9 : decode b_H_open 9 = .ok (.aaload, 1) := by decide +kernel
theorem d_H_open_10 : decode b_H_open 10 = .ok (.invokevirtual 148, 3) := by decide +kernel
theorem d_H_open_13 : decode b_H_open 13 = .ok (.istore_n 2, 1) := by decide +kernel
theorem d_H_open_14 : decode b_H_open 14 = .ok (.iload_n 2, 1) := by decide +kernel
theorem d_H_open_15 : decode b_H_open 15 = .ok (.ifCond .eq 25, 3) := by decide +kernel
theorem d_H_open_18 : decode b_H_open 18 = .ok (.aload_n 0, 1) := by decide +kernel
theorem d_H_open_19 : decode b_H_open 19 = .ok (.getfield 22, 3) := by decide +kernel
theorem d_H_open_22 : decode b_H_open 22 = .ok (.iload_n 1, 1) := by decide +kernel
theorem d_H_open_23 : decode b_H_open 23 = .ok (.aaload, 1) := by decide +kernel
theorem d_H_open_24 : decode b_H_open 24 = .ok (.getfield 187, 3) := by decide +kernel
theorem d_H_open_27 : decode b_H_open 27 = .ok (.iconst 3, 1) := by decide +kernel
theorem d_H_open_28 : decode b_H_open 28 = .ok (.if_icmp .ge 12, 3) := by decide +kernel
theorem d_H_open_31 : decode b_H_open 31 = .ok (.aload_n 0, 1) := by decide +kernel
theorem d_H_open_32 : decode b_H_open 32 = .ok (.getfield 190, 3) := by decide +kernel
theorem d_H_open_35 : decode b_H_open 35 = .ok (.bipush 40, 2) := by decide +kernel
theorem d_H_open_37 : decode b_H_open 37 = .ok (.if_icmp .lt 11, 3) := by decide +kernel
theorem d_H_open_40 : decode b_H_open 40 = .ok (.new 82, 3) := by decide +kernel
theorem d_H_open_43 : decode b_H_open 43 = .ok (.dup, 1) := by decide +kernel
theorem d_H_open_44 : decode b_H_open 44 = .ok (.invokespecial 84, 3) := by decide +kernel
theorem d_H_open_47 : decode b_H_open 47 = .ok (.athrow, 1) := by decide +kernel
theorem d_H_open_48 : decode b_H_open 48 = .ok (.aload_n 0, 1) := by decide +kernel
theorem d_H_open_49 : decode b_H_open 49 = .ok (.getfield 190, 3) := by decide +kernel
theorem d_H_open_52 : decode b_H_open 52 = .ok (.istore_n 3, 1) := by decide +kernel
theorem d_H_open_53 : decode b_H_open 53 = .ok (.aload_n 0, 1) := by decide +kernel
theorem d_H_open_54 : decode b_H_open 54 = .ok (.dup, 1) := by decide +kernel
theorem d_H_open_55 : decode b_H_open 55 = .ok (.getfield 190, 3) := by decide +kernel
theorem d_H_open_58 : decode b_H_open 58 = .ok (.iconst 1, 1) := by decide +kernel
theorem d_H_open_59 : decode b_H_open 59 = .ok (.iadd, 1) := by decide +kernel
theorem d_H_open_60 : decode b_H_open 60 = .ok (.putfield 190, 3) := by decide +kernel
theorem d_H_open_63 : decode b_H_open 63 = .ok (.aload_n 0, 1) := by decide +kernel
theorem d_H_open_64 : decode b_H_open 64 = .ok (.getfield 43, 3) := by decide +kernel
theorem d_H_open_67 : decode b_H_open 67 = .ok (.iload_n 3, 1) := by decide +kernel
theorem d_H_open_68 : decode b_H_open 68 = .ok (.aaload, 1) := by decide +kernel
theorem d_H_open_69 : decode b_H_open 69 = .ok (.iload_n 1, 1) := by decide +kernel
theorem d_H_open_70 : decode b_H_open 70 = .ok (.iload_n 2, 1) := by decide +kernel
theorem d_H_open_71 : decode b_H_open 71 = .ok (.invokevirtual 193, 3) := by decide +kernel
theorem d_H_open_74 : decode b_H_open 74 = .ok (.aload_n 0, 1) := by decide +kernel
theorem d_H_open_75 : decode b_H_open 75 = .ok (.getfield 22, 3) := by decide +kernel
theorem d_H_open_78 : decode b_H_open 78 = .ok (.iload_n 1, 1) := by decide +kernel
theorem d_H_open_79 : decode b_H_open 79 = .ok (.aaload, 1) := by decide +kernel
theorem d_H_open_80 : decode b_H_open 80 = .ok (.dup, 1) := by decide +kernel
theorem d_H_open_81 : decode b_H_open 81 = .ok (.getfield 187, 3) := by decide +kernel
theorem d_H_open_84 : decode b_H_open 84 = .ok (.iconst 1, 1) := by decide +kernel
theorem d_H_open_85 : decode b_H_open 85 = .ok (.iadd, 1) := by decide +kernel
theorem d_H_open_86 : decode b_H_open 86 = .ok (.putfield 187, 3) := by decide +kernel
theorem d_H_open_89 : decode b_H_open 89 = .ok (.iload_n 3, 1) := by decide +kernel
theorem d_H_open_90 : decode b_H_open 90 = .ok (.ireturn, 1) := by decide +kernel

theorem d_H_scan_0 : decode b_H_scan 0 = .ok (.aload_n 0, 1) := by decide +kernel
theorem d_H_scan_1 : decode b_H_scan 1 = .ok (.iload_n 1, 1) := by decide +kernel
theorem d_H_scan_2 : decode b_H_scan 2 = .ok (.invokevirtual 196, 3) := by decide +kernel
theorem d_H_scan_5 : decode b_H_scan 5 = .ok (.iload_n 2, 1) := by decide +kernel
theorem d_H_scan_6 : decode b_H_scan 6 = .ok (.invokestatic 52, 3) := by decide +kernel
theorem d_H_scan_9 : decode b_H_scan 9 = .ok (.ifCond .eq 30, 3) := by decide +kernel
theorem d_H_scan_12 : decode b_H_scan 12 = .ok (.iload_n 3, 1) := by decide +kernel
theorem d_H_scan_13 : decode b_H_scan 13 = .ok (.iconst 1, 1) := by decide +kernel
theorem d_H_scan_14 : decode b_H_scan 14 = .ok (.if_icmp .eq 8, 3) := by decide +kernel
theorem d_H_scan_17 : decode b_H_scan 17 = .ok (.iload_n 3, 1) := by decide +kernel
theorem d_H_scan_18 : decode b_H_scan 18 = .ok (.iconst (-1), 1) := by decide +kernel
theorem d_H_scan_19 : decode b_H_scan 19 = .ok (.if_icmp .ne 20, 3) := by decide +kernel
theorem d_H_scan_22 : decode b_H_scan 22 = .ok (.aload_n 0, 1) := by decide +kernel
theorem d_H_scan_23 : decode b_H_scan 23 = .ok (.aload_n 0, 1) := by decide +kernel
theorem d_H_scan_24 : decode b_H_scan 24 = .ok (.getfield 43, 3) := by decide +kernel
theorem d_H_scan_27 : decode b_H_scan 27 = .ok (.iload_n 1, 1) := by decide +kernel
theorem d_H_scan_28 : decode b_H_scan 28 = .ok (.aaload, 1) := by decide +kernel
theorem d_H_scan_29 : decode b_H_scan 29 = .ok (.getfield 199, 3) := by decide +kernel
theorem d_H_scan_32 : decode b_H_scan 32 = .ok (.iload_n 2, 1) := by decide +kernel
theorem d_H_scan_33 : decode b_H_scan 33 = .ok (.invokevirtual 202, 3) := by decide +kernel
theorem d_H_scan_36 : decode b_H_scan 36 = .ok (.ifCond .ne 11, 3) := by decide +kernel
theorem d_H_scan_39 : decode b_H_scan 39 = .ok (.new 59, 3) := by decide +kernel
theorem d_H_scan_42 : decode b_H_scan 42 = .ok (.dup, 1) := by decide +kernel
theorem d_H_scan_43 : decode b_H_scan 43 = .ok (.invokespecial 61, 3) := by decide +kernel
theorem d_H_scan_46 : decode b_H_scan 46 = .ok (.athrow, 1) := by decide +kernel
theorem d_H_scan_47 : decode b_H_scan 47 = .ok (.aload_n 0, 1) := by decide +kernel
theorem d_H_scan_48 : decode b_H_scan 48 = .ok (.getfield 43, 3) := by decide +kernel
theorem d_H_scan_51 : decode b_H_scan 51 = .ok (.iload_n 1, 1) := by decide +kernel
theorem d_H_scan_52 : decode b_H_scan 52 = .ok (.aaload, 1) := by decide +kernel
theorem d_H_scan_53 : decode b_H_scan 53 = .ok (.getfield 206, 3) := by decide +kernel
theorem d_H_scan_56 : decode b_H_scan 56 = .ok (.iload_n 2, 1) := by decide +kernel
theorem d_H_scan_57 : decode b_H_scan 57 = .ok (.iaload, 1) := by decide +kernel
theorem d_H_scan_58 : decode b_H_scan 58 = .ok (.iload_n 3, 1) := by decide +kernel
theorem d_H_scan_59 : decode b_H_scan 59 = .ok (.iadd, 1) := by decide +kernel
theorem d_H_scan_60 : decode b_H_scan 60 = .ok (.istore 4, 2) := by decide +kernel
theorem d_H_scan_62 : decode b_H_scan 62 = .ok (.iload 4, 2) := by decide +kernel
theorem d_H_scan_64 : decode b_H_scan 64 = .ok (.ifCond .lt 10, 3) := by decide +kernel
theorem d_H_scan_67 : decode b_H_scan 67 = .ok (.iload 4, 2) := by decide +kernel
theorem d_H_scan_69 : decode b_H_scan 69 = .ok (.bipush 30, 2) := by decide +kernel
theorem d_H_scan_71 : decode b_H_scan 71 = .ok (.if_icmp .le 11, 3) := by decide +kernel
theorem d_H_scan_74 : decode b_H_scan 74 = .ok (.new 82, 3) := by decide +kernel
theorem d_H_scan_77 : decode b_H_scan 77 = .ok (.dup, 1) := by decide +kernel
theorem d_H_scan_78 : decode b_H_scan 78 = .ok (.invokespecial 84, 3) := by decide +kernel
theorem d_H_scan_81 : decode b_H_scan 81 = .ok (.athrow, 1) := by decide +kernel
theorem d_H_scan_82 : decode b_H_scan 82 = .ok (.aload_n 0, 1) := by decide +kernel
theorem d_H_scan_83 : decode b_H_scan 83 = .ok (.getfield 43, 3) := by decide +kernel
theorem d_H_scan_86 : decode b_H_scan 86 = .ok (.iload_n 1, 1) := by decide +kernel
theorem d_H_scan_87 : decode b_H_scan 87 = .ok (.aaload, 1) := by decide +kernel
theorem d_H_scan_88 : decode b_H_scan 88 = .ok (.getfield 206, 3) := by decide +kernel
theorem d_H_scan_91 : decode b_H_scan 91 = .ok (.iload_n 2, 1) := by decide +kernel
theorem d_H_scan_92 : decode b_H_scan 92 = .ok (.iload 4, 2) := by decide +kernel
theorem d_H_scan_94 : decode b_H_scan 94 = .ok (.iastore, 1) := by decide +kernel
theorem d_H_scan_95 : decode b_H_scan 95 = .ok (.iload 4, 2) := by decide +kernel
theorem d_H_scan_97 : decode b_H_scan 97 = .ok (.ireturn, 1) := by decide +kernel

theorem d_H_book_0 : decode b_H_book 0 = .ok (.aload_n 0, 1) := by decide +kernel
theorem d_H_book_1 : decode b_H_book 1 = .ok (.iload_n 1, 1) := by decide +kernel
theorem d_H_book_2 : decode b_H_book 2 = .ok (.invokevirtual 219, 3) := by decide +kernel
theorem d_H_book_5 : decode b_H_book 5 = .ok (.ifCond .ne 11, 3) := by decide +kernel
theorem d_H_book_8 : decode b_H_book 8 = .ok (.new 222, 3) := by decide +kernel
theorem d_H_book_11 : decode b_H_book 11 = .ok (.dup, 1) := by decide +kernel
theorem d_H_book_12 : decode b_H_book 12 = .ok (.invokespecial 224, 3) := by decide +kernel
theorem d_H_book_15 : decode b_H_book 15 = .ok (.athrow, 1) := by decide +kernel
theorem d_H_book_16 : decode b_H_book 16 = .ok (.aload_n 0, 1) := by decide +kernel
theorem d_H_book_17 : decode b_H_book 17 = .ok (.getfield 43, 3) := by decide +kernel
theorem d_H_book_20 : decode b_H_book 20 = .ok (.iload_n 1, 1) := by decide +kernel
theorem d_H_book_21 : decode b_H_book 21 = .ok (.aaload, 1) := by decide +kernel
theorem d_H_book_22 : decode b_H_book 22 = .ok (.getfield 199, 3) := by decide +kernel
theorem d_H_book_25 : decode b_H_book 25 = .ok (.ireturn, 1) := by decide +kernel

theorem d_H_bringToDesk_0 : decode b_H_bringToDesk 0 = .ok (.iload_n 1, 1) := by decide +kernel
theorem d_H_bringToDesk_1 : decode b_H_bringToDesk 1 = .ok (.iconst 1, 1) := by decide +kernel
theorem d_H_bringToDesk_2 : decode b_H_bringToDesk 2 = .ok (.if_icmp .ne 36, 3) := by decide +kernel
theorem d_H_bringToDesk_5 : decode b_H_bringToDesk 5 = .ok (.aload_n 0, 1) := by decide +kernel
theorem d_H_bringToDesk_6 : decode b_H_bringToDesk 6 = .ok (.getfield 30, 3) := by decide +kernel
theorem d_H_bringToDesk_9 : decode b_H_bringToDesk 9 = .ok (.iload_n 2, 1) := by decide +kernel
theorem d_H_bringToDesk_10 : decode b_H_bringToDesk 10 = .ok (.iload 4, 2) := by decide +kernel
theorem d_H_bringToDesk_12 : decode b_H_bringToDesk 12 = .ok (.invokevirtual 229, 3) := by decide +kernel
theorem d_H_bringToDesk_15 : decode b_H_bringToDesk 15 = .ok (.istore 5, 2) := by decide +kernel
theorem d_H_bringToDesk_17 : decode b_H_bringToDesk 17 = .ok (.iload 5, 2) := by decide +kernel
theorem d_H_bringToDesk_19 : decode b_H_bringToDesk 19 = .ok (.ifCond .eq 16, 3) := by decide +kernel
theorem d_H_bringToDesk_22 : decode b_H_bringToDesk 22 = .ok (.aload_n 0, 1) := by decide +kernel
theorem d_H_bringToDesk_23 : decode b_H_bringToDesk 23 = .ok (.getfield 37, 3) := by decide +kernel
theorem d_H_bringToDesk_26 : decode b_H_bringToDesk 26 = .ok (.iconst 2, 1) := by decide +kernel
theorem d_H_bringToDesk_27 : decode b_H_bringToDesk 27 = .ok (.iload_n 2, 1) := by decide +kernel
theorem d_H_bringToDesk_28 : decode b_H_bringToDesk 28 = .ok (.iload 5, 2) := by decide +kernel
theorem d_H_bringToDesk_30 : decode b_H_bringToDesk 30 = .ok (.iload 4, 2) := by decide +kernel
theorem d_H_bringToDesk_32 : decode b_H_bringToDesk 32 = .ok (.invokevirtual 89, 3) := by decide +kernel
theorem d_H_bringToDesk_35 : decode b_H_bringToDesk 35 = .ok (.goto 38, 3) := by decide +kernel
theorem d_H_bringToDesk_38 : decode b_H_bringToDesk 38 = .ok (.iload_n 1, 1) := by decide +kernel
theorem d_H_bringToDesk_39 : decode b_H_bringToDesk 39 = .ok (.iconst 3, 1) := by decide +kernel
theorem d_H_bringToDesk_40 : decode b_H_bringToDesk 40 = .ok (.if_icmp .ne 19, 3) := by decide +kernel
theorem d_H_bringToDesk_43 : decode b_H_bringToDesk 43 = .ok (.aload_n 0, 1) := by decide +kernel
theorem d_H_bringToDesk_44 : decode b_H_bringToDesk 44 = .ok (.getfield 30, 3) := by decide +kernel
theorem d_H_bringToDesk_47 : decode b_H_bringToDesk 47 = .ok (.getfield 233, 3) := by decide +kernel
theorem d_H_bringToDesk_50 : decode b_H_bringToDesk 50 = .ok (.iload_n 2, 1) := by decide +kernel
theorem d_H_bringToDesk_51 : decode b_H_bringToDesk 51 = .ok (.aaload, 1) := by decide +kernel
theorem d_H_bringToDesk_52 : decode b_H_bringToDesk 52 = .ok (.iload_n 3, 1) := by decide +kernel
theorem d_H_bringToDesk_53 : decode b_H_bringToDesk 53 = .ok (.invokevirtual 237, 3) := by decide +kernel
theorem d_H_bringToDesk_56 : decode b_H_bringToDesk 56 = .ok (.goto 17, 3) := by decide +kernel
theorem d_H_bringToDesk_59 : decode b_H_bringToDesk 59 = .ok (.aload_n 0, 1) := by decide +kernel
theorem d_H_bringToDesk_60 : decode b_H_bringToDesk 60 = .ok (.getfield 30, 3) := by decide +kernel
theorem d_H_bringToDesk_63 : decode b_H_bringToDesk 63 = .ok (.getfield 233, 3) := by decide +kernel
theorem d_H_bringToDesk_66 : decode b_H_bringToDesk 66 = .ok (.iload_n 2, 1) := by decide +kernel
theorem d_H_bringToDesk_67 : decode b_H_bringToDesk 67 = .ok (.aaload, 1) := by decide +kernel
theorem d_H_bringToDesk_68 : decode b_H_bringToDesk 68 = .ok (.iload 4, 2) := by decide +kernel
theorem d_H_bringToDesk_70 : decode b_H_bringToDesk 70 = .ok (.invokevirtual 242, 3) := by decide +kernel
theorem d_H_bringToDesk_73 : decode b_H_bringToDesk 73 = .ok (.aload_n 0, 1) := by decide +kernel
theorem d_H_bringToDesk_74 : decode b_H_bringToDesk 74 = .ok (.getfield 30, 3) := by decide +kernel
theorem d_H_bringToDesk_77 : decode b_H_bringToDesk 77 = .ok (.invokevirtual 102, 3) := by decide +kernel
theorem d_H_bringToDesk_80 : decode b_H_bringToDesk 80 = .ok (.return_, 1) := by decide +kernel

set_option maxHeartbeats 4000000 in
set_option maxRecDepth 100000 in
theorem c_H_ready_x1 (l : Launch) (hadm : ∀ e : Env, l.admits e → e.platform.stackTraces = false) (Z : qZ) (hZ : qok (pX Z)) (V : qV) (Y : qY) (t : Int32) (h : t < 0 ∨ ¬ t < 4) : CT l y_H_ready { frames := 7, cells := 1, slots := 6, locals := 116 } (pX Z) qN [.ref (al Z 0 0), .int t] V Y (.inr "java/lang/IllegalArgumentException") V Y := by
  refine CT.of (cc := b_H_ready) (maxL := 3) (ret := (some .int)) hZ (by decide) w_435 (Nat.le_of_ble_eq_true rfl) ?_
  intro p e s m below meth c C hr hex hlt
  refine gq_iload_n C d_H_ready_0 rfl ?_
  exact gq_thrS C (st := []) hex (fun _ h => h) (c_H_checkTill_x l hadm Z hZ _ _ t h) w_426 w_427 w_428 w_1 ⟨by decide, by decide, (by decide +kernel : (parseMethodDescriptor y_H_checkTill.desc).map (fun d => d.parameters.length) = some 1)⟩ ⟨by decide, by decide⟩ ⟨by decide, by decide⟩ ⟨by decide, by decide⟩ rfl (Nat.le_of_ble_eq_true rfl) d_H_ready_1

set_option maxHeartbeats 4000000 in
set_option maxRecDepth 100000 in
theorem c_H_ask_x1 (l : Launch) (hadm : ∀ e : Env, l.admits e → e.platform.stackTraces = false) (Z : qZ) (hZ : qok (pX Z)) (V : qV) (Y : qY) (t : Int32) (h : t < 0 ∨ ¬ t < 4) : CT l y_H_ask { frames := 7, cells := 1, slots := 6, locals := 116 } (pX Z) qN [.ref (al Z 0 0), .int t] V Y (.inr "java/lang/IllegalArgumentException") V Y := by
  refine CT.of (cc := b_H_ask) (maxL := 3) (ret := (some .int)) hZ (by decide) w_442 (Nat.le_of_ble_eq_true rfl) ?_
  intro p e s m below meth c C hr hex hlt
  refine gq_iload_n C d_H_ask_0 rfl ?_
  exact gq_thrS C (st := []) hex (fun _ h => h) (c_H_checkTill_x l hadm Z hZ _ _ t h) w_426 w_427 w_428 w_1 ⟨by decide, by decide, (by decide +kernel : (parseMethodDescriptor y_H_checkTill.desc).map (fun d => d.parameters.length) = some 1)⟩ ⟨by decide, by decide⟩ ⟨by decide, by decide⟩ ⟨by decide, by decide⟩ rfl (Nat.le_of_ble_eq_true rfl) d_H_ask_1

set_option maxHeartbeats 4000000 in
set_option maxRecDepth 100000 in
theorem c_H_giveUp_x1 (l : Launch) (hadm : ∀ e : Env, l.admits e → e.platform.stackTraces = false) (Z : qZ) (hZ : qok (pX Z)) (V : qV) (Y : qY) (t : Int32) (h : t < 0 ∨ ¬ t < 4) : CT l y_H_giveUp { frames := 7, cells := 1, slots := 6, locals := 116 } (pX Z) qN [.ref (al Z 0 0), .int t] V Y (.inr "java/lang/IllegalArgumentException") V Y := by
  refine CT.of (cc := b_H_giveUp) (maxL := 3) (ret := none) hZ (by decide) w_454 (Nat.le_of_ble_eq_true rfl) ?_
  intro p e s m below meth c C hr hex hlt
  refine gq_iload_n C d_H_giveUp_0 rfl ?_
  exact gq_thrS C (st := []) hex (fun _ h => h) (c_H_checkTill_x l hadm Z hZ _ _ t h) w_426 w_427 w_428 w_1 ⟨by decide, by decide, (by decide +kernel : (parseMethodDescriptor y_H_checkTill.desc).map (fun d => d.parameters.length) = some 1)⟩ ⟨by decide, by decide⟩ ⟨by decide, by decide⟩ ⟨by decide, by decide⟩ rfl (Nat.le_of_ble_eq_true rfl) d_H_giveUp_1

set_option maxHeartbeats 4000000 in
set_option maxRecDepth 100000 in
theorem c_H_lease_x1 (l : Launch) (hadm : ∀ e : Env, l.admits e → e.platform.stackTraces = false) (Z : qZ) (hZ : qok (pX Z)) (V : qV) (Y : qY) (t : Int32) (h : t < 0 ∨ ¬ t < 4) : CT l y_H_lease { frames := 7, cells := 1, slots := 6, locals := 116 } (pX Z) qN [.ref (al Z 0 0), .int t] V Y (.inr "java/lang/IllegalArgumentException") V Y := by
  refine CT.of (cc := b_H_lease) (maxL := 2) (ret := (some .int)) hZ (by decide) w_465 (Nat.le_of_ble_eq_true rfl) ?_
  intro p e s m below meth c C hr hex hlt
  refine gq_iload_n C d_H_lease_0 rfl ?_
  exact gq_thrS C (st := []) hex (fun _ h => h) (c_H_checkTill_x l hadm Z hZ _ _ t h) w_426 w_427 w_428 w_1 ⟨by decide, by decide, (by decide +kernel : (parseMethodDescriptor y_H_checkTill.desc).map (fun d => d.parameters.length) = some 1)⟩ ⟨by decide, by decide⟩ ⟨by decide, by decide⟩ ⟨by decide, by decide⟩ rfl (Nat.le_of_ble_eq_true rfl) d_H_lease_1

set_option maxHeartbeats 4000000 in
set_option maxRecDepth 100000 in
theorem c_H_loaded_x1 (l : Launch) (hadm : ∀ e : Env, l.admits e → e.platform.stackTraces = false) (Z : qZ) (hZ : qok (pX Z)) (V : qV) (Y : qY) (t : Int32) (h : t < 0 ∨ ¬ t < 4) : CT l y_H_loaded { frames := 7, cells := 1, slots := 6, locals := 116 } (pX Z) qN [.ref (al Z 0 0), .int t] V Y (.inr "java/lang/IllegalArgumentException") V Y := by
  refine CT.of (cc := b_H_loaded) (maxL := 2) (ret := (some .int)) hZ (by decide) w_476 (Nat.le_of_ble_eq_true rfl) ?_
  intro p e s m below meth c C hr hex hlt
  refine gq_iload_n C d_H_loaded_0 rfl ?_
  exact gq_thrS C (st := []) hex (fun _ h => h) (c_H_checkTill_x l hadm Z hZ _ _ t h) w_426 w_427 w_428 w_1 ⟨by decide, by decide, (by decide +kernel : (parseMethodDescriptor y_H_checkTill.desc).map (fun d => d.parameters.length) = some 1)⟩ ⟨by decide, by decide⟩ ⟨by decide, by decide⟩ ⟨by decide, by decide⟩ rfl (Nat.le_of_ble_eq_true rfl) d_H_loaded_1

set_option maxHeartbeats 4000000 in
set_option maxRecDepth 100000 in
theorem c_H_open_x1 (l : Launch) (hadm : ∀ e : Env, l.admits e → e.platform.stackTraces = false) (Z : qZ) (hZ : qok (pX Z)) (V : qV) (Y : qY) (t : Int32) (h : t < 0 ∨ ¬ t < 4) : CT l y_H_open { frames := 7, cells := 1, slots := 6, locals := 116 } (pX Z) qN [.ref (al Z 0 0), .int t] V Y (.inr "java/lang/IllegalArgumentException") V Y := by
  refine CT.of (cc := b_H_open) (maxL := 4) (ret := (some .int)) hZ (by decide) w_572 (Nat.le_of_ble_eq_true rfl) ?_
  intro p e s m below meth c C hr hex hlt
  refine gq_iload_n C d_H_open_0 rfl ?_
  exact gq_thrS C (st := []) hex (fun _ h => h) (c_H_checkTill_x l hadm Z hZ _ _ t h) w_426 w_427 w_428 w_1 ⟨by decide, by decide, (by decide +kernel : (parseMethodDescriptor y_H_checkTill.desc).map (fun d => d.parameters.length) = some 1)⟩ ⟨by decide, by decide⟩ ⟨by decide, by decide⟩ ⟨by decide, by decide⟩ rfl (Nat.le_of_ble_eq_true rfl) d_H_open_1

theorem d_H_fetch_0 : decode b_H_fetch 0 = .ok (.iload_n 1, 1) := by decide +kernel
theorem d_H_fetch_1 : decode b_H_fetch 1 = .ok (.invokestatic 126, 3) := by decide +kernel
theorem d_H_fetch_4 : decode b_H_fetch 4 = .ok (.aload_n 0, 1) := by decide +kernel
theorem d_H_fetch_5 : decode b_H_fetch 5 = .ok (.getfield 22, 3) := by decide +kernel
theorem d_H_fetch_8 : decode b_H_fetch 8 = .ok (.iload_n 1, 1) := by decide +kernel
theorem d_H_fetch_9 : decode b_H_fetch 9 = .ok (.aaload, 1) := by decide +kernel
theorem d_H_fetch_10 : decode b_H_fetch 10 = .ok (.getfield 129, 3) := by decide +kernel
theorem d_H_fetch_13 : decode b_H_fetch 13 = .ok (.istore_n 2, 1) := by decide +kernel
theorem d_H_fetch_14 : decode b_H_fetch 14 = .ok (.iload_n 2, 1) := by decide +kernel
theorem d_H_fetch_15 : decode b_H_fetch 15 = .ok (.iconst 1, 1) := by decide +kernel
theorem d_H_fetch_16 : decode b_H_fetch 16 = .ok (.iadd, 1) := by decide +kernel
theorem d_H_fetch_17 : decode b_H_fetch 17 = .ok (.istore_n 3, 1) := by decide +kernel
theorem d_H_fetch_18 : decode b_H_fetch 18 = .ok (.iload_n 3, 1) := by decide +kernel
theorem d_H_fetch_19 : decode b_H_fetch 19 = .ok (.aload_n 0, 1) := by decide +kernel
theorem d_H_fetch_20 : decode b_H_fetch 20 = .ok (.getfield 78, 3) := by decide +kernel
theorem d_H_fetch_23 : decode b_H_fetch 23 = .ok (.if_icmp .gt 20, 3) := by decide +kernel
theorem d_H_fetch_26 : decode b_H_fetch 26 = .ok (.aload_n 0, 1) := by decide +kernel
theorem d_H_fetch_27 : decode b_H_fetch 27 = .ok (.getfield 37, 3) := by decide +kernel
theorem d_H_fetch_30 : decode b_H_fetch 30 = .ok (.iconst 0, 1) := by decide +kernel
theorem d_H_fetch_31 : decode b_H_fetch 31 = .ok (.iload_n 1, 1) := by decide +kernel
theorem d_H_fetch_32 : decode b_H_fetch 32 = .ok (.iload_n 3, 1) := by decide +kernel
theorem d_H_fetch_33 : decode b_H_fetch 33 = .ok (.iconst 0, 1) := by decide +kernel
theorem d_H_fetch_34 : decode b_H_fetch 34 = .ok (.invokevirtual 89, 3) := by decide +kernel
theorem d_H_fetch_37 : decode b_H_fetch 37 = .ok (.iinc 3 1, 3) := by decide +kernel
theorem d_H_fetch_40 : decode b_H_fetch 40 = .ok (.goto (-22), 3) := by decide +kernel
theorem d_H_fetch_43 : decode b_H_fetch 43 = .ok (.aload_n 0, 1) := by decide +kernel
theorem d_H_fetch_44 : decode b_H_fetch 44 = .ok (.getfield 78, 3) := by decide +kernel
theorem d_H_fetch_47 : decode b_H_fetch 47 = .ok (.iload_n 2, 1) := by decide +kernel
theorem d_H_fetch_48 : decode b_H_fetch 48 = .ok (.isub, 1) := by decide +kernel
theorem d_H_fetch_49 : decode b_H_fetch 49 = .ok (.ireturn, 1) := by decide +kernel

set_option maxHeartbeats 4000000 in
set_option maxRecDepth 100000 in
theorem c_H_fetch_x1 (l : Launch) (hadm : ∀ e : Env, l.admits e → e.platform.stackTraces = false) (Z : qZ) (hZ : qok (pX Z)) (V : qV) (Y : qY) (t : Int32) (h : t < 0 ∨ ¬ t < 4) : CT l y_H_fetch { frames := 7, cells := 1, slots := 6, locals := 116 } (pX Z) qN [.ref (al Z 0 0), .int t] V Y (.inr "java/lang/IllegalArgumentException") V Y := by
  refine CT.of (cc := b_H_fetch) (maxL := 4) (ret := (some .int)) hZ (by decide) w_425 (Nat.le_of_ble_eq_true rfl) ?_
  intro p e s m below meth c C hr hex hlt
  refine gq_iload_n C d_H_fetch_0 rfl ?_
  exact gq_thrS C (st := []) hex (fun _ h => h) (c_H_checkTill_x l hadm Z hZ _ _ t h) w_426 w_427 w_428 w_1 ⟨by decide, by decide, (by decide +kernel : (parseMethodDescriptor y_H_checkTill.desc).map (fun d => d.parameters.length) = some 1)⟩ ⟨by decide, by decide⟩ ⟨by decide, by decide⟩ ⟨by decide, by decide⟩ rfl (Nat.le_of_ble_eq_true rfl) d_H_fetch_1

set_option maxHeartbeats 4000000 in
set_option maxRecDepth 100000 in
theorem c_H_ready (l : Launch) (Z : qZ) (hZ : qok (pX Z)) (V : qV) (Y : qY) (t : Nat) (ht : t < 4) (h0 : ¬ V 7 t 1 = 0) (hc : ∃ q, q ≤ 40 ∧ V 12 0 4 = nI q) : CT l y_H_ready { frames := 7, cells := 0, slots := 0, locals := 116 } (pX Z) (qA (pX Z)) [.ref (al Z 0 0), .int (nI t)] V Y (.inl (some (.int (V 7 t 1)))) (f_put (qv V 7 t 2 (V 7 t 1)) 3 (nI t) (V 7 t 1) 0) Y := by
  refine CT.of (cc := b_H_ready) (maxL := 3) (ret := (some .int)) hZ (by decide) w_435 (Nat.le_of_ble_eq_true rfl) ?_
  intro p e s m below meth c C hr hex hlt
  refine gq_iload_n C d_H_ready_0 rfl ?_
  refine gq_callS C (st := []) (fun _ h => h.elim) (c_H_checkTill l Z hZ _ _ (nI t) (f_t0 ht) (f_t4 ht)) w_426 w_427 w_428 w_1 ⟨by decide, by decide, (by decide +kernel : (parseMethodDescriptor y_H_checkTill.desc).map (fun d => d.parameters.length) = some 1)⟩ ⟨by decide, by decide⟩ ⟨by decide, by decide⟩ rfl (Nat.le_of_ble_eq_true rfl) d_H_ready_1 ?_
  refine gq_aload_n C d_H_ready_4 rfl ?_
  refine gq_get C (g := 0) (j := 0) (ci := 7) (k := 3) (v := .ref (al Z 6 0)) (qm (by decide) (by decide)) rfl rfl in_H (by decide) w_206 rfl d_H_ready_5 ?_
  refine gq_iload_n C d_H_ready_8 rfl ?_
  refine gq_aald C (g := 6) (j := 0) (a := t) (t0 := 4) (b := al Z 7 t) (qm (by decide) (by decide)) rfl rfl rfl ht (by decide) rfl d_H_ready_9 ?_
  refine gq_get C (g := 7) (j := t) (ci := 6) (k := 1) (v := .int (V 7 t 1)) (qm (by decide) ht) rfl rfl in_T (by decide) w_72 rfl d_H_ready_10 ?_
  refine gq_istore_n C (lo' := [(2, .int (V 7 t 1)), (0, .ref (al Z 0 0)), (1, .int (nI t))]) d_H_ready_13 rfl (by decide) rfl ?_
  refine gq_iload_n C d_H_ready_14 rfl ?_
  refine gq_if_ne C (tgt := 26) d_H_ready_15 rfl (fun hb15 => ?_) (fun hb => by first | contradiction | contradiction)
  refine gq_aload_n C d_H_ready_26 rfl ?_
  refine gq_get C (g := 0) (j := 0) (ci := 7) (k := 3) (v := .ref (al Z 6 0)) (qm (by decide) (by decide)) rfl rfl in_H (by decide) w_206 rfl d_H_ready_27 ?_
  refine gq_iload_n C d_H_ready_30 rfl ?_
  refine gq_aald C (g := 6) (j := 0) (a := t) (t0 := 4) (b := al Z 7 t) (qm (by decide) (by decide)) rfl rfl rfl ht (by decide) rfl d_H_ready_31 ?_
  refine gq_iload_n C d_H_ready_32 rfl ?_
  refine gq_put C (fun _ h => h) (g := 7) (j := t) (ci := 6) (k := 2) ft_T k_T n_T (qm (by decide) ht) rfl rfl in_T (by decide) w_74 rfl (k_T 2 (by decide)) rfl rfl (Nat.le_of_ble_eq_true rfl) rfl d_H_ready_33 ?_
  refine gq_aload_n C d_H_ready_36 rfl ?_
  refine gq_get C (g := 0) (j := 0) (ci := 7) (k := 5) (v := .ref (al Z 12 0)) (qm (by decide) (by decide)) rfl rfl in_H (by decide) w_208 rfl d_H_ready_37 ?_
  refine gq_iconst C (v := 3) d_H_ready_40 (by decide) ?_
  refine gq_iload_n C d_H_ready_41 rfl ?_
  refine gq_iload_n C d_H_ready_42 rfl ?_
  refine gq_iconst C (v := 0) d_H_ready_43 (by decide) ?_
  refine gq_callV C (st := []) (fun _ h => h) (c_R_put l Z hZ _ _ (f_cnt2 hc (by simp [qv_at])) 3 (nI t) (V 7 t 1) 0) (qm (by decide) (by decide)) rfl rfl w_362 w_363 w_364 w_365 w_7 ⟨by decide, by decide, (by decide +kernel : (parseMethodDescriptor y_R_post.desc).map (fun d => d.parameters.length) = some 4)⟩ ⟨by decide, by decide⟩ ⟨by decide, by decide⟩ rfl (Nat.le_of_ble_eq_true rfl) d_H_ready_44 ?_
  refine gq_iload_n C d_H_ready_47 rfl ?_
  exact gq_iret C hr (by decide) (by decide) d_H_ready_48

set_option maxHeartbeats 4000000 in
set_option maxRecDepth 100000 in
theorem c_H_ready_x2 (l : Launch) (hadm : ∀ e : Env, l.admits e → e.platform.stackTraces = false) (Z : qZ) (hZ : qok (pX Z)) (V : qV) (Y : qY) (t : Nat) (ht : t < 4) (h0 : V 7 t 1 = 0) : CT l y_H_ready { frames := 7, cells := 1, slots := 6, locals := 116 } (pX Z) qN [.ref (al Z 0 0), .int (nI t)] V Y (.inr "java/lang/IllegalStateException") V Y := by
  refine CT.of (cc := b_H_ready) (maxL := 3) (ret := (some .int)) hZ (by decide) w_435 (Nat.le_of_ble_eq_true rfl) ?_
  intro p e s m below meth c C hr hex hlt
  refine gq_iload_n C d_H_ready_0 rfl ?_
  refine gq_callS C (st := []) (fun _ h => h) (c_H_checkTill l Z hZ _ _ (nI t) (f_t0 ht) (f_t4 ht)) w_426 w_427 w_428 w_1 ⟨by decide, by decide, (by decide +kernel : (parseMethodDescriptor y_H_checkTill.desc).map (fun d => d.parameters.length) = some 1)⟩ ⟨by decide, by decide⟩ ⟨by decide, by decide⟩ rfl (Nat.le_of_ble_eq_true rfl) d_H_ready_1 ?_
  refine gq_aload_n C d_H_ready_4 rfl ?_
  refine gq_get C (g := 0) (j := 0) (ci := 7) (k := 3) (v := .ref (al Z 6 0)) (qm (by decide) (by decide)) rfl rfl in_H (by decide) w_206 rfl d_H_ready_5 ?_
  refine gq_iload_n C d_H_ready_8 rfl ?_
  refine gq_aald C (g := 6) (j := 0) (a := t) (t0 := 4) (b := al Z 7 t) (qm (by decide) (by decide)) rfl rfl rfl ht (by decide) rfl d_H_ready_9 ?_
  refine gq_get C (g := 7) (j := t) (ci := 6) (k := 1) (v := .int (V 7 t 1)) (qm (by decide) ht) rfl rfl in_T (by decide) w_72 rfl d_H_ready_10 ?_
  refine gq_istore_n C (lo' := [(2, .int (V 7 t 1)), (0, .ref (al Z 0 0)), (1, .int (nI t))]) d_H_ready_13 rfl (by decide) rfl ?_
  refine gq_iload_n C d_H_ready_14 rfl ?_
  refine gq_if_ne C (tgt := 26) d_H_ready_15 rfl (fun hb => by first | contradiction | contradiction) (fun hb15 => ?_)
  exact gq_throw C hadm hex hlt tw_IllegalStateException w_340 w_341 w_14 (by decide) (by decide) (by decide) (by decide) (by decide) (Nat.le_of_ble_eq_true rfl) d_H_ready_18 d_H_ready_21 d_H_ready_22 d_H_ready_25

set_option maxHeartbeats 4000000 in
set_option maxRecDepth 100000 in
theorem c_H_ask (l : Launch) (Z : qZ) (hZ : qok (pX Z)) (V : qV) (Y : qY) (t : Nat) (ht : t < 4) (hc : ∃ q, q ≤ 40 ∧ V 12 0 4 = nI q) : CT l y_H_ask { frames := 7, cells := 0, slots := 0, locals := 116 } (pX Z) (qA (pX Z)) [.ref (al Z 0 0), .int (nI t)] V Y (.inl (some (.int (V 7 t 3 + 1)))) (f_put (f_begin V t) 1 (nI t) 0 (V 7 t 3 + 1)) Y := by
  refine CT.of (cc := b_H_ask) (maxL := 3) (ret := (some .int)) hZ (by decide) w_442 (Nat.le_of_ble_eq_true rfl) ?_
  intro p e s m below meth c C hr hex hlt
  refine gq_iload_n C d_H_ask_0 rfl ?_
  refine gq_callS C (st := []) (fun _ h => h.elim) (c_H_checkTill l Z hZ _ _ (nI t) (f_t0 ht) (f_t4 ht)) w_426 w_427 w_428 w_1 ⟨by decide, by decide, (by decide +kernel : (parseMethodDescriptor y_H_checkTill.desc).map (fun d => d.parameters.length) = some 1)⟩ ⟨by decide, by decide⟩ ⟨by decide, by decide⟩ rfl (Nat.le_of_ble_eq_true rfl) d_H_ask_1 ?_
  refine gq_aload_n C d_H_ask_4 rfl ?_
  refine gq_get C (g := 0) (j := 0) (ci := 7) (k := 3) (v := .ref (al Z 6 0)) (qm (by decide) (by decide)) rfl rfl in_H (by decide) w_206 rfl d_H_ask_5 ?_
  refine gq_iload_n C d_H_ask_8 rfl ?_
  refine gq_aald C (g := 6) (j := 0) (a := t) (t0 := 4) (b := al Z 7 t) (qm (by decide) (by decide)) rfl rfl rfl ht (by decide) rfl d_H_ask_9 ?_
  refine gq_callV C (st := []) (fun _ h => h) (c_T_beginAsking l Z hZ _ _ t ht) (qm (by decide) ht) rfl rfl w_443 w_444 w_445 w_446 w_3 ⟨by decide, by decide, (by decide +kernel : (parseMethodDescriptor y_T_beginAsking.desc).map (fun d => d.parameters.length) = some 0)⟩ ⟨by decide, by decide⟩ ⟨by decide, by decide⟩ rfl (Nat.le_of_ble_eq_true rfl) d_H_ask_10 ?_
  refine gq_istore_n C (lo' := [(2, .int (V 7 t 3 + 1)), (0, .ref (al Z 0 0)), (1, .int (nI t))]) d_H_ask_13 rfl (by decide) rfl ?_
  refine gq_aload_n C d_H_ask_14 rfl ?_
  refine gq_get C (g := 0) (j := 0) (ci := 7) (k := 5) (v := .ref (al Z 12 0)) (qm (by decide) (by decide)) rfl rfl in_H (by decide) w_208 rfl d_H_ask_15 ?_
  refine gq_iconst C (v := 1) d_H_ask_18 (by decide) ?_
  refine gq_iload_n C d_H_ask_19 rfl ?_
  refine gq_iconst C (v := 0) d_H_ask_20 (by decide) ?_
  refine gq_iload_n C d_H_ask_21 rfl ?_
  refine gq_callV C (st := []) (fun _ h => h) (c_R_put l Z hZ _ _ (f_cnt2 hc (by simp [qv_at])) 1 (nI t) 0 (V 7 t 3 + 1)) (qm (by decide) (by decide)) rfl rfl w_362 w_363 w_364 w_365 w_7 ⟨by decide, by decide, (by decide +kernel : (parseMethodDescriptor y_R_post.desc).map (fun d => d.parameters.length) = some 4)⟩ ⟨by decide, by decide⟩ ⟨by decide, by decide⟩ rfl (Nat.le_of_ble_eq_true rfl) d_H_ask_22 ?_
  refine gq_iload_n C d_H_ask_25 rfl ?_
  exact gq_iret C hr (by decide) (by decide) d_H_ask_26

set_option maxHeartbeats 4000000 in
set_option maxRecDepth 100000 in
theorem c_H_giveUp (l : Launch) (Z : qZ) (hZ : qok (pX Z)) (V : qV) (Y : qY) (t : Nat) (ht : t < 4) (h0 : ¬ V 7 t 3 = 0) (h5 : V 7 t 5 = 0) (hc : ∃ q, q ≤ 40 ∧ V 12 0 4 = nI q) : CT l y_H_giveUp { frames := 7, cells := 0, slots := 0, locals := 116 } (pX Z) (qA (pX Z)) [.ref (al Z 0 0), .int (nI t)] V Y (.inl none) (f_put (qv (qv V 7 t 5 1) 7 t 6 0) 4 (nI t) 0 (V 7 t 3)) Y := by
  refine CT.of (cc := b_H_giveUp) (maxL := 3) (ret := none) hZ (by decide) w_454 (Nat.le_of_ble_eq_true rfl) ?_
  intro p e s m below meth c C hr hex hlt
  refine gq_iload_n C d_H_giveUp_0 rfl ?_
  refine gq_callS C (st := []) (fun _ h => h.elim) (c_H_checkTill l Z hZ _ _ (nI t) (f_t0 ht) (f_t4 ht)) w_426 w_427 w_428 w_1 ⟨by decide, by decide, (by decide +kernel : (parseMethodDescriptor y_H_checkTill.desc).map (fun d => d.parameters.length) = some 1)⟩ ⟨by decide, by decide⟩ ⟨by decide, by decide⟩ rfl (Nat.le_of_ble_eq_true rfl) d_H_giveUp_1 ?_
  refine gq_aload_n C d_H_giveUp_4 rfl ?_
  refine gq_get C (g := 0) (j := 0) (ci := 7) (k := 3) (v := .ref (al Z 6 0)) (qm (by decide) (by decide)) rfl rfl in_H (by decide) w_206 rfl d_H_giveUp_5 ?_
  refine gq_iload_n C d_H_giveUp_8 rfl ?_
  refine gq_aald C (g := 6) (j := 0) (a := t) (t0 := 4) (b := al Z 7 t) (qm (by decide) (by decide)) rfl rfl rfl ht (by decide) rfl d_H_giveUp_9 ?_
  refine gq_astore_n C (lo' := [(2, .ref (al Z 7 t)), (0, .ref (al Z 0 0)), (1, .int (nI t))]) d_H_giveUp_10 rfl (by decide) rfl ?_
  refine gq_aload_n C d_H_giveUp_11 rfl ?_
  refine gq_get C (g := 7) (j := t) (ci := 6) (k := 3) (v := .int (V 7 t 3)) (qm (by decide) ht) rfl rfl in_T (by decide) w_76 rfl d_H_giveUp_12 ?_
  refine gq_if_eq C (tgt := 25) d_H_giveUp_15 rfl (fun hb => by first | contradiction | contradiction) (fun hb15 => ?_)
  refine gq_aload_n C d_H_giveUp_18 rfl ?_
  refine gq_get C (g := 7) (j := t) (ci := 6) (k := 5) (v := .int (V 7 t 5)) (qm (by decide) ht) rfl rfl in_T (by decide) w_79 rfl d_H_giveUp_19 ?_
  refine gq_if_eq C (tgt := 33) d_H_giveUp_22 rfl (fun hb22 => ?_) (fun hb => by first | contradiction | contradiction)
  refine gq_aload_n C d_H_giveUp_33 rfl ?_
  refine gq_callV C (st := []) (fun _ h => h) (c_T_endAsking l Z hZ _ _ t ht) (qm (by decide) ht) rfl rfl w_455 w_456 w_457 w_458 w_3 ⟨by decide, by decide, (by decide +kernel : (parseMethodDescriptor y_T_endAsking.desc).map (fun d => d.parameters.length) = some 0)⟩ ⟨by decide, by decide⟩ ⟨by decide, by decide⟩ rfl (Nat.le_of_ble_eq_true rfl) d_H_giveUp_34 ?_
  refine gq_aload_n C d_H_giveUp_37 rfl ?_
  refine gq_get C (g := 0) (j := 0) (ci := 7) (k := 5) (v := .ref (al Z 12 0)) (qm (by decide) (by decide)) rfl rfl in_H (by decide) w_208 rfl d_H_giveUp_38 ?_
  refine gq_iconst C (v := 4) d_H_giveUp_41 (by decide) ?_
  refine gq_iload_n C d_H_giveUp_42 rfl ?_
  refine gq_iconst C (v := 0) d_H_giveUp_43 (by decide) ?_
  refine gq_aload_n C d_H_giveUp_44 rfl ?_
  refine gq_get C (g := 7) (j := t) (ci := 6) (k := 3) (v := .int (V 7 t 3)) (qm (by decide) ht) rfl rfl in_T (by decide) w_76 (by simp [qv_at]) d_H_giveUp_45 ?_
  refine gq_callV C (st := []) (fun _ h => h) (c_R_put l Z hZ _ _ (f_cnt2 hc (by simp [qv_at])) 4 (nI t) 0 (V 7 t 3)) (qm (by decide) (by decide)) rfl rfl w_362 w_363 w_364 w_365 w_7 ⟨by decide, by decide, (by decide +kernel : (parseMethodDescriptor y_R_post.desc).map (fun d => d.parameters.length) = some 4)⟩ ⟨by decide, by decide⟩ ⟨by decide, by decide⟩ rfl (Nat.le_of_ble_eq_true rfl) d_H_giveUp_48 ?_
  exact gq_vret C hr (by decide) (by decide) d_H_giveUp_51

set_option maxHeartbeats 4000000 in
set_option maxRecDepth 100000 in
theorem c_H_giveUp_x2 (l : Launch) (hadm : ∀ e : Env, l.admits e → e.platform.stackTraces = false) (Z : qZ) (hZ : qok (pX Z)) (V : qV) (Y : qY) (t : Nat) (ht : t < 4) (h : V 7 t 3 = 0 ∨ ¬ V 7 t 5 = 0) : CT l y_H_giveUp { frames := 7, cells := 1, slots := 6, locals := 116 } (pX Z) qN [.ref (al Z 0 0), .int (nI t)] V Y (.inr "java/lang/IllegalStateException") V Y := by
  refine CT.of (cc := b_H_giveUp) (maxL := 3) (ret := none) hZ (by decide) w_454 (Nat.le_of_ble_eq_true rfl) ?_
  intro p e s m below meth c C hr hex hlt
  refine gq_iload_n C d_H_giveUp_0 rfl ?_
  refine gq_callS C (st := []) (fun _ h => h) (c_H_checkTill l Z hZ _ _ (nI t) (f_t0 ht) (f_t4 ht)) w_426 w_427 w_428 w_1 ⟨by decide, by decide, (by decide +kernel : (parseMethodDescriptor y_H_checkTill.desc).map (fun d => d.parameters.length) = some 1)⟩ ⟨by decide, by decide⟩ ⟨by decide, by decide⟩ rfl (Nat.le_of_ble_eq_true rfl) d_H_giveUp_1 ?_
  refine gq_aload_n C d_H_giveUp_4 rfl ?_
  refine gq_get C (g := 0) (j := 0) (ci := 7) (k := 3) (v := .ref (al Z 6 0)) (qm (by decide) (by decide)) rfl rfl in_H (by decide) w_206 rfl d_H_giveUp_5 ?_
  refine gq_iload_n C d_H_giveUp_8 rfl ?_
  refine gq_aald C (g := 6) (j := 0) (a := t) (t0 := 4) (b := al Z 7 t) (qm (by decide) (by decide)) rfl rfl rfl ht (by decide) rfl d_H_giveUp_9 ?_
  refine gq_astore_n C (lo' := [(2, .ref (al Z 7 t)), (0, .ref (al Z 0 0)), (1, .int (nI t))]) d_H_giveUp_10 rfl (by decide) rfl ?_
  refine gq_aload_n C d_H_giveUp_11 rfl ?_
  refine gq_get C (g := 7) (j := t) (ci := 6) (k := 3) (v := .int (V 7 t 3)) (qm (by decide) ht) rfl rfl in_T (by decide) w_76 rfl d_H_giveUp_12 ?_
  refine gq_if_eq C (tgt := 25) d_H_giveUp_15 rfl (fun hb15 => ?_) (fun hb15 => ?_)
  · skip
    exact gq_throw C hadm hex hlt tw_IllegalStateException w_340 w_341 w_14 (by decide) (by decide) (by decide) (by decide) (by decide) (Nat.le_of_ble_eq_true rfl) d_H_giveUp_25 d_H_giveUp_28 d_H_giveUp_29 d_H_giveUp_32
  · skip
    refine gq_aload_n C d_H_giveUp_18 rfl ?_
    refine gq_get C (g := 7) (j := t) (ci := 6) (k := 5) (v := .int (V 7 t 5)) (qm (by decide) ht) rfl rfl in_T (by decide) w_79 rfl d_H_giveUp_19 ?_
    refine gq_if_eq C (tgt := 33) d_H_giveUp_22 rfl (fun hb => by first | contradiction | (rcases h with h | h <;> contradiction)) (fun hb22 => ?_)
    exact gq_throw C hadm hex hlt tw_IllegalStateException w_340 w_341 w_14 (by decide) (by decide) (by decide) (by decide) (by decide) (Nat.le_of_ble_eq_true rfl) d_H_giveUp_25 d_H_giveUp_28 d_H_giveUp_29 d_H_giveUp_32

set_option maxHeartbeats 4000000 in
set_option maxRecDepth 100000 in
theorem c_H_lease (l : Launch) (Z : qZ) (hZ : qok (pX Z)) (V : qV) (Y : qY) (t : Nat) (ht : t < 4) : CT l y_H_lease { frames := 7, cells := 0, slots := 0, locals := 116 } (pX Z) qN [.ref (al Z 0 0), .int (nI t)] V Y (.inl (some (.int (f_lease V t)))) V Y := by
  refine CT.of (cc := b_H_lease) (maxL := 2) (ret := (some .int)) hZ (by decide) w_465 (Nat.le_of_ble_eq_true rfl) ?_
  intro p e s m below meth c C hr hex hlt
  refine gq_iload_n C d_H_lease_0 rfl ?_
  refine gq_callS C (st := []) (fun _ h => h) (c_H_checkTill l Z hZ _ _ (nI t) (f_t0 ht) (f_t4 ht)) w_426 w_427 w_428 w_1 ⟨by decide, by decide, (by decide +kernel : (parseMethodDescriptor y_H_checkTill.desc).map (fun d => d.parameters.length) = some 1)⟩ ⟨by decide, by decide⟩ ⟨by decide, by decide⟩ rfl (Nat.le_of_ble_eq_true rfl) d_H_lease_1 ?_
  refine gq_aload_n C d_H_lease_4 rfl ?_
  refine gq_get C (g := 0) (j := 0) (ci := 7) (k := 3) (v := .ref (al Z 6 0)) (qm (by decide) (by decide)) rfl rfl in_H (by decide) w_206 rfl d_H_lease_5 ?_
  refine gq_iload_n C d_H_lease_8 rfl ?_
  refine gq_aald C (g := 6) (j := 0) (a := t) (t0 := 4) (b := al Z 7 t) (qm (by decide) (by decide)) rfl rfl rfl ht (by decide) rfl d_H_lease_9 ?_
  refine gq_callV C (st := []) (fun _ h => h) (c_T_validLease l Z hZ _ _ t ht) (qm (by decide) ht) rfl rfl w_466 w_467 w_468 w_469 w_3 ⟨by decide, by decide, (by decide +kernel : (parseMethodDescriptor y_T_validLease.desc).map (fun d => d.parameters.length) = some 0)⟩ ⟨by decide, by decide⟩ ⟨by decide, by decide⟩ rfl (Nat.le_of_ble_eq_true rfl) d_H_lease_10 ?_
  exact gq_iret C hr (by decide) (by decide) d_H_lease_13

set_option maxHeartbeats 4000000 in
set_option maxRecDepth 100000 in
theorem c_H_loaded (l : Launch) (Z : qZ) (hZ : qok (pX Z)) (V : qV) (Y : qY) (t : Nat) (ht : t < 4) : CT l y_H_loaded { frames := 7, cells := 0, slots := 0, locals := 116 } (pX Z) qN [.ref (al Z 0 0), .int (nI t)] V Y (.inl (some (.int (V 7 t 1)))) V Y := by
  refine CT.of (cc := b_H_loaded) (maxL := 2) (ret := (some .int)) hZ (by decide) w_476 (Nat.le_of_ble_eq_true rfl) ?_
  intro p e s m below meth c C hr hex hlt
  refine gq_iload_n C d_H_loaded_0 rfl ?_
  refine gq_callS C (st := []) (fun _ h => h) (c_H_checkTill l Z hZ _ _ (nI t) (f_t0 ht) (f_t4 ht)) w_426 w_427 w_428 w_1 ⟨by decide, by decide, (by decide +kernel : (parseMethodDescriptor y_H_checkTill.desc).map (fun d => d.parameters.length) = some 1)⟩ ⟨by decide, by decide⟩ ⟨by decide, by decide⟩ rfl (Nat.le_of_ble_eq_true rfl) d_H_loaded_1 ?_
  refine gq_aload_n C d_H_loaded_4 rfl ?_
  refine gq_get C (g := 0) (j := 0) (ci := 7) (k := 3) (v := .ref (al Z 6 0)) (qm (by decide) (by decide)) rfl rfl in_H (by decide) w_206 rfl d_H_loaded_5 ?_
  refine gq_iload_n C d_H_loaded_8 rfl ?_
  refine gq_aald C (g := 6) (j := 0) (a := t) (t0 := 4) (b := al Z 7 t) (qm (by decide) (by decide)) rfl rfl rfl ht (by decide) rfl d_H_loaded_9 ?_
  refine gq_get C (g := 7) (j := t) (ci := 6) (k := 1) (v := .int (V 7 t 1)) (qm (by decide) ht) rfl rfl in_T (by decide) w_72 rfl d_H_loaded_10 ?_
  exact gq_iret C hr (by decide) (by decide) d_H_loaded_13

set_option maxHeartbeats 4000000 in
set_option maxRecDepth 100000 in
theorem c_H_restart_desk (l : Launch) (Z : qZ) (hZ : qok (pX Z)) (V : qV) (Y : qY) (h1 : f_isTD 4 = 1) : CT l y_H_restart { frames := 6, cells := 0, slots := 0, locals := 96 } (pX Z) (qA (pX Z)) [.ref (al Z 0 0), .int 4] V Y (.inl none) (f_again V) Y := by
  refine CT.of (cc := b_H_restart) (maxL := 2) (ret := none) hZ (by decide) w_646 (Nat.le_of_ble_eq_true rfl) ?_
  intro p e s m below meth c C hr hex hlt
  refine gq_iload_n C d_H_restart_0 rfl ?_
  refine gq_callS C (st := []) (fun _ h => h.elim) (c_H_isTillOrDesk l Z hZ _ _ 4) w_416 w_417 w_418 w_1 ⟨by decide, by decide, (by decide +kernel : (parseMethodDescriptor y_H_isTillOrDesk.desc).map (fun d => d.parameters.length) = some 1)⟩ ⟨by decide, by decide⟩ ⟨by decide, by decide⟩ rfl (Nat.le_of_ble_eq_true rfl) d_H_restart_1 ?_
  refine gq_if_ne C (tgt := 15) d_H_restart_4 rfl (fun hb4 => ?_) (fun hb => by first | contradiction | simp_all)
  refine gq_iload_n C d_H_restart_15 rfl ?_
  refine gq_iconst C (v := 4) d_H_restart_16 (by decide) ?_
  refine gq_icmp_ne C (tgt := 30) d_H_restart_17 rfl (fun hb => by exact absurd hb (by decide)) (fun hb17 => ?_)
  refine gq_aload_n C d_H_restart_20 rfl ?_
  refine gq_get C (g := 0) (j := 0) (ci := 7) (k := 4) (v := .ref (al Z 9 0)) (qm (by decide) (by decide)) rfl rfl in_H (by decide) w_207 rfl d_H_restart_21 ?_
  refine gq_callV C (st := []) (fun _ h => h) (c_D_forgetAndWait l Z hZ _ _) (qm (by decide) (by decide)) rfl rfl w_647 w_648 w_649 w_650 w_5 ⟨by decide, by decide, (by decide +kernel : (parseMethodDescriptor y_D_forgetAndWait.desc).map (fun d => d.parameters.length) = some 0)⟩ ⟨by decide, by decide⟩ ⟨by decide, by decide⟩ rfl (Nat.le_of_ble_eq_true rfl) d_H_restart_24 ?_
  refine gq_goto C (tgt := 39) d_H_restart_27 rfl ?_
  exact gq_vret C hr (by decide) (by decide) d_H_restart_39

set_option maxHeartbeats 4000000 in
set_option maxRecDepth 100000 in
theorem c_H_restart (l : Launch) (Z : qZ) (hZ : qok (pX Z)) (V : qV) (Y : qY) (t : Nat) (ht : t < 4) (h1 : f_isTD (nI t) = 1) : CT l y_H_restart { frames := 6, cells := 0, slots := 0, locals := 96 } (pX Z) (qA (pX Z)) [.ref (al Z 0 0), .int (nI t)] V Y (.inl none) (qv (qv V 7 t 5 1) 7 t 6 0) Y := by
  refine CT.of (cc := b_H_restart) (maxL := 2) (ret := none) hZ (by decide) w_646 (Nat.le_of_ble_eq_true rfl) ?_
  intro p e s m below meth c C hr hex hlt
  refine gq_iload_n C d_H_restart_0 rfl ?_
  refine gq_callS C (st := []) (fun _ h => h.elim) (c_H_isTillOrDesk l Z hZ _ _ (nI t)) w_416 w_417 w_418 w_1 ⟨by decide, by decide, (by decide +kernel : (parseMethodDescriptor y_H_isTillOrDesk.desc).map (fun d => d.parameters.length) = some 1)⟩ ⟨by decide, by decide⟩ ⟨by decide, by decide⟩ rfl (Nat.le_of_ble_eq_true rfl) d_H_restart_1 ?_
  refine gq_if_ne C (tgt := 15) d_H_restart_4 rfl (fun hb4 => ?_) (fun hb => by first | contradiction | simp_all)
  refine gq_iload_n C d_H_restart_15 rfl ?_
  refine gq_iconst C (v := 4) d_H_restart_16 (by decide) ?_
  refine gq_icmp_ne C (tgt := 30) d_H_restart_17 rfl (fun hb17 => ?_) (fun hb => by exact absurd hb (f_n4 ht))
  refine gq_aload_n C d_H_restart_30 rfl ?_
  refine gq_get C (g := 0) (j := 0) (ci := 7) (k := 3) (v := .ref (al Z 6 0)) (qm (by decide) (by decide)) rfl rfl in_H (by decide) w_206 rfl d_H_restart_31 ?_
  refine gq_iload_n C d_H_restart_34 rfl ?_
  refine gq_aald C (g := 6) (j := 0) (a := t) (t0 := 4) (b := al Z 7 t) (qm (by decide) (by decide)) rfl rfl rfl ht (by decide) rfl d_H_restart_35 ?_
  refine gq_callV C (st := []) (fun _ h => h) (c_T_endAsking l Z hZ _ _ t ht) (qm (by decide) ht) rfl rfl w_455 w_456 w_457 w_458 w_3 ⟨by decide, by decide, (by decide +kernel : (parseMethodDescriptor y_T_endAsking.desc).map (fun d => d.parameters.length) = some 0)⟩ ⟨by decide, by decide⟩ ⟨by decide, by decide⟩ rfl (Nat.le_of_ble_eq_true rfl) d_H_restart_36 ?_
  exact gq_vret C hr (by decide) (by decide) d_H_restart_39

set_option maxHeartbeats 4000000 in
set_option maxRecDepth 100000 in
theorem c_H_restart_x (l : Launch) (hadm : ∀ e : Env, l.admits e → e.platform.stackTraces = false) (Z : qZ) (hZ : qok (pX Z)) (V : qV) (Y : qY) (w : Int32) (h : f_isTD w = 0) : CT l y_H_restart { frames := 6, cells := 1, slots := 6, locals := 96 } (pX Z) qN [.ref (al Z 0 0), .int w] V Y (.inr "java/lang/IllegalArgumentException") V Y := by
  refine CT.of (cc := b_H_restart) (maxL := 2) (ret := none) hZ (by decide) w_646 (Nat.le_of_ble_eq_true rfl) ?_
  intro p e s m below meth c C hr hex hlt
  refine gq_iload_n C d_H_restart_0 rfl ?_
  refine gq_callS C (st := []) (fun _ h => h) (c_H_isTillOrDesk l Z hZ _ _ w) w_416 w_417 w_418 w_1 ⟨by decide, by decide, (by decide +kernel : (parseMethodDescriptor y_H_isTillOrDesk.desc).map (fun d => d.parameters.length) = some 1)⟩ ⟨by decide, by decide⟩ ⟨by decide, by decide⟩ rfl (Nat.le_of_ble_eq_true rfl) d_H_restart_1 ?_
  refine gq_if_ne C (tgt := 15) d_H_restart_4 rfl (fun hb => by first | contradiction | contradiction) (fun hb4 => ?_)
  exact gq_throw C hadm hex hlt tw_IllegalArgumentException w_255 w_256 w_13 (by decide) (by decide) (by decide) (by decide) (by decide) (Nat.le_of_ble_eq_true rfl) d_H_restart_7 d_H_restart_10 d_H_restart_11 d_H_restart_14

set_option maxHeartbeats 4000000 in
set_option maxRecDepth 100000 in
theorem c_H_deliver_x1 (l : Launch) (hadm : ∀ e : Env, l.admits e → e.platform.stackTraces = false) (Z : qZ) (hZ : qok (pX Z)) (V : qV) (Y : qY) (i : Int32) (h : i < 0 ∨ ¬ i < V 12 0 4) : CT l y_H_deliver { frames := 7, cells := 1, slots := 6, locals := 129 } (pX Z) qN [.ref (al Z 0 0), .int i] V Y (.inr "java/lang/IndexOutOfBoundsException") V Y := by
  refine CT.of (cc := b_H_deliver) (maxL := 6) (ret := none) hZ (by decide) w_484 (Nat.le_of_ble_eq_true rfl) ?_
  intro p e s m below meth c C hr hex hlt
  refine gq_aload_n C d_H_deliver_0 rfl ?_
  refine gq_iload_n C d_H_deliver_1 rfl ?_
  exact gq_thrV C (st := []) hex (fun _ h => h) (c_H_checkLetter_x l hadm Z hZ _ _ i h) (qm (by decide) (by decide)) rfl rfl w_485 w_487 ws_H_checkLetter w_488 w_1 ⟨by decide, by decide, (by decide +kernel : (parseMethodDescriptor y_H_checkLetter.desc).map (fun d => d.parameters.length) = some 1)⟩ ⟨by decide, by decide⟩ ⟨by decide, by decide⟩ ⟨by decide, by decide⟩ rfl (Nat.le_of_ble_eq_true rfl) d_H_deliver_2

set_option maxHeartbeats 4000000 in
set_option maxRecDepth 100000 in
theorem c_H_lose_x1 (l : Launch) (hadm : ∀ e : Env, l.admits e → e.platform.stackTraces = false) (Z : qZ) (hZ : qok (pX Z)) (V : qV) (Y : qY) (i : Int32) (h : i < 0 ∨ ¬ i < V 12 0 4) : CT l y_H_lose { frames := 7, cells := 1, slots := 6, locals := 117 } (pX Z) qN [.ref (al Z 0 0), .int i] V Y (.inr "java/lang/IndexOutOfBoundsException") V Y := by
  refine CT.of (cc := b_H_lose) (maxL := 2) (ret := none) hZ (by decide) w_550 (Nat.le_of_ble_eq_true rfl) ?_
  intro p e s m below meth c C hr hex hlt
  refine gq_aload_n C d_H_lose_0 rfl ?_
  refine gq_iload_n C d_H_lose_1 rfl ?_
  exact gq_thrV C (st := []) hex (fun _ h => h) (c_H_checkLetter_x l hadm Z hZ _ _ i h) (qm (by decide) (by decide)) rfl rfl w_485 w_487 ws_H_checkLetter w_488 w_1 ⟨by decide, by decide, (by decide +kernel : (parseMethodDescriptor y_H_checkLetter.desc).map (fun d => d.parameters.length) = some 1)⟩ ⟨by decide, by decide⟩ ⟨by decide, by decide⟩ ⟨by decide, by decide⟩ rfl (Nat.le_of_ble_eq_true rfl) d_H_lose_2

set_option maxHeartbeats 4000000 in
set_option maxRecDepth 100000 in
theorem c_H_twin_x1 (l : Launch) (hadm : ∀ e : Env, l.admits e → e.platform.stackTraces = false) (Z : qZ) (hZ : qok (pX Z)) (V : qV) (Y : qY) (i : Int32) (h : i < 0 ∨ ¬ i < V 12 0 4) : CT l y_H_twin { frames := 7, cells := 1, slots := 6, locals := 117 } (pX Z) qN [.ref (al Z 0 0), .int i] V Y (.inr "java/lang/IndexOutOfBoundsException") V Y := by
  refine CT.of (cc := b_H_twin) (maxL := 2) (ret := none) hZ (by decide) w_557 (Nat.le_of_ble_eq_true rfl) ?_
  intro p e s m below meth c C hr hex hlt
  refine gq_aload_n C d_H_twin_0 rfl ?_
  refine gq_iload_n C d_H_twin_1 rfl ?_
  exact gq_thrV C (st := []) hex (fun _ h => h) (c_H_checkLetter_x l hadm Z hZ _ _ i h) (qm (by decide) (by decide)) rfl rfl w_485 w_487 ws_H_checkLetter w_488 w_1 ⟨by decide, by decide, (by decide +kernel : (parseMethodDescriptor y_H_checkLetter.desc).map (fun d => d.parameters.length) = some 1)⟩ ⟨by decide, by decide⟩ ⟨by decide, by decide⟩ ⟨by decide, by decide⟩ rfl (Nat.le_of_ble_eq_true rfl) d_H_twin_2

set_option maxHeartbeats 4000000 in
set_option maxRecDepth 100000 in
theorem c_H_letter_x1 (l : Launch) (hadm : ∀ e : Env, l.admits e → e.platform.stackTraces = false) (Z : qZ) (hZ : qok (pX Z)) (V : qV) (Y : qY) (i : Int32) (h : i < 0 ∨ ¬ i < V 12 0 4) (w : Int32) : CT l y_H_letter { frames := 7, cells := 1, slots := 6, locals := 117 } (pX Z) qN [.ref (al Z 0 0), .int i, .int w] V Y (.inr "java/lang/IndexOutOfBoundsException") V Y := by
  refine CT.of (cc := b_H_letter) (maxL := 3) (ret := (some .int)) hZ (by decide) w_565 (Nat.le_of_ble_eq_true rfl) ?_
  intro p e s m below meth c C hr hex hlt
  refine gq_aload_n C d_H_letter_0 rfl ?_
  refine gq_iload_n C d_H_letter_1 rfl ?_
  exact gq_thrV C (st := []) hex (fun _ h => h) (c_H_checkLetter_x l hadm Z hZ _ _ i h) (qm (by decide) (by decide)) rfl rfl w_485 w_487 ws_H_checkLetter w_488 w_1 ⟨by decide, by decide, (by decide +kernel : (parseMethodDescriptor y_H_checkLetter.desc).map (fun d => d.parameters.length) = some 1)⟩ ⟨by decide, by decide⟩ ⟨by decide, by decide⟩ ⟨by decide, by decide⟩ rfl (Nat.le_of_ble_eq_true rfl) d_H_letter_2

set_option maxHeartbeats 4000000 in
set_option maxRecDepth 100000 in
theorem c_H_lose (l : Launch) (Z : qZ) (hZ : qok (pX Z)) (V : qV) (Y : qY) (i n : Nat) (hi : i < n) (hn : n ≤ 40) (h4 : V 12 0 4 = nI n) : CT l y_H_lose { frames := 7, cells := 0, slots := 0, locals := 117 } (pX Z) (qA (pX Z)) [.ref (al Z 0 0), .int (nI i)] V Y (.inl none) (f_takeOut V i n) Y := by
  refine CT.of (cc := b_H_lose) (maxL := 2) (ret := none) hZ (by decide) w_550 (Nat.le_of_ble_eq_true rfl) ?_
  intro p e s m below meth c C hr hex hlt
  refine gq_aload_n C d_H_lose_0 rfl ?_
  refine gq_iload_n C d_H_lose_1 rfl ?_
  refine gq_callV C (st := []) (fun _ h => h.elim) (c_H_checkLetter l Z hZ _ _ (nI i) (f_i0 hi hn) (f_i4 hi hn h4)) (qm (by decide) (by decide)) rfl rfl w_485 w_487 ws_H_checkLetter w_488 w_1 ⟨by decide, by decide, (by decide +kernel : (parseMethodDescriptor y_H_checkLetter.desc).map (fun d => d.parameters.length) = some 1)⟩ ⟨by decide, by decide⟩ ⟨by decide, by decide⟩ rfl (Nat.le_of_ble_eq_true rfl) d_H_lose_2 ?_
  refine gq_aload_n C d_H_lose_5 rfl ?_
  refine gq_get C (g := 0) (j := 0) (ci := 7) (k := 5) (v := .ref (al Z 12 0)) (qm (by decide) (by decide)) rfl rfl in_H (by decide) w_208 rfl d_H_lose_6 ?_
  refine gq_iload_n C d_H_lose_9 rfl ?_
  refine gq_callV C (st := []) (fun _ h => h) (c_R_takeOut l Z hZ _ _ i n hi hn h4 (f_beh hi hn h4)) (qm (by decide) (by decide)) rfl rfl w_504 w_505 w_506 w_507 w_7 ⟨by decide, by decide, (by decide +kernel : (parseMethodDescriptor y_R_takeOut.desc).map (fun d => d.parameters.length) = some 1)⟩ ⟨by decide, by decide⟩ ⟨by decide, by decide⟩ rfl (Nat.le_of_ble_eq_true rfl) d_H_lose_10 ?_
  exact gq_vret C hr (by decide) (by decide) d_H_lose_13

set_option maxHeartbeats 4000000 in
set_option maxRecDepth 100000 in
theorem c_H_twin (l : Launch) (Z : qZ) (hZ : qok (pX Z)) (V : qV) (Y : qY) (i n : Nat) (hi : i < n) (hn : n ≤ 40) (h4 : V 12 0 4 = nI n) (hf : n < 40) : CT l y_H_twin { frames := 7, cells := 0, slots := 0, locals := 117 } (pX Z) (qA (pX Z)) [.ref (al Z 0 0), .int (nI i)] V Y (.inl none) (f_put V (V 13 0 i) (V 13 1 i) (V 13 2 i) (V 13 3 i)) Y := by
  refine CT.of (cc := b_H_twin) (maxL := 2) (ret := none) hZ (by decide) w_557 (Nat.le_of_ble_eq_true rfl) ?_
  intro p e s m below meth c C hr hex hlt
  refine gq_aload_n C d_H_twin_0 rfl ?_
  refine gq_iload_n C d_H_twin_1 rfl ?_
  refine gq_callV C (st := []) (fun _ h => h.elim) (c_H_checkLetter l Z hZ _ _ (nI i) (f_i0 hi hn) (f_i4 hi hn h4)) (qm (by decide) (by decide)) rfl rfl w_485 w_487 ws_H_checkLetter w_488 w_1 ⟨by decide, by decide, (by decide +kernel : (parseMethodDescriptor y_H_checkLetter.desc).map (fun d => d.parameters.length) = some 1)⟩ ⟨by decide, by decide⟩ ⟨by decide, by decide⟩ rfl (Nat.le_of_ble_eq_true rfl) d_H_twin_2 ?_
  refine gq_aload_n C d_H_twin_5 rfl ?_
  refine gq_get C (g := 0) (j := 0) (ci := 7) (k := 5) (v := .ref (al Z 12 0)) (qm (by decide) (by decide)) rfl rfl in_H (by decide) w_208 rfl d_H_twin_6 ?_
  refine gq_callV C (st := []) (fun _ h => h.elim) (c_R_isFull l Z hZ _ _) (qm (by decide) (by decide)) rfl rfl w_558 w_367 w_368 w_369 w_7 ⟨by decide, by decide, (by decide +kernel : (parseMethodDescriptor y_R_isFull.desc).map (fun d => d.parameters.length) = some 0)⟩ ⟨by decide, by decide⟩ ⟨by decide, by decide⟩ rfl (Nat.le_of_ble_eq_true rfl) d_H_twin_9 ?_
  refine gq_if_eq C (tgt := 23) d_H_twin_12 rfl (fun hb12 => ?_) (fun hb => by exact absurd (by rw [h4, if_pos (show nI n < (40 : Int32) from nI_lt hf (by decide))]) hb)
  refine gq_aload_n C d_H_twin_23 rfl ?_
  refine gq_get C (g := 0) (j := 0) (ci := 7) (k := 5) (v := .ref (al Z 12 0)) (qm (by decide) (by decide)) rfl rfl in_H (by decide) w_208 rfl d_H_twin_24 ?_
  refine gq_aload_n C d_H_twin_27 rfl ?_
  refine gq_get C (g := 0) (j := 0) (ci := 7) (k := 5) (v := .ref (al Z 12 0)) (qm (by decide) (by decide)) rfl rfl in_H (by decide) w_208 rfl d_H_twin_28 ?_
  refine gq_get C (g := 12) (j := 0) (ci := 3) (k := 0) (v := .ref (al Z 13 0)) (qm (by decide) (by decide)) rfl rfl in_R (by decide) w_159 rfl d_H_twin_31 ?_
  refine gq_iload_n C d_H_twin_34 rfl ?_
  refine gq_iald C (g := 13) (j := 0) (a := i) (t0 := 0) (qm (by decide) (by decide)) rfl rfl rfl (Nat.lt_of_lt_of_le hi hn) (by decide) d_H_twin_35 ?_
  refine gq_aload_n C d_H_twin_36 rfl ?_
  refine gq_get C (g := 0) (j := 0) (ci := 7) (k := 5) (v := .ref (al Z 12 0)) (qm (by decide) (by decide)) rfl rfl in_H (by decide) w_208 rfl d_H_twin_37 ?_
  refine gq_get C (g := 12) (j := 0) (ci := 3) (k := 1) (v := .ref (al Z 13 1)) (qm (by decide) (by decide)) rfl rfl in_R (by decide) w_161 rfl d_H_twin_40 ?_
  refine gq_iload_n C d_H_twin_43 rfl ?_
  refine gq_iald C (g := 13) (j := 1) (a := i) (t0 := 0) (qm (by decide) (by decide)) rfl rfl rfl (Nat.lt_of_lt_of_le hi hn) (by decide) d_H_twin_44 ?_
  refine gq_aload_n C d_H_twin_45 rfl ?_
  refine gq_get C (g := 0) (j := 0) (ci := 7) (k := 5) (v := .ref (al Z 12 0)) (qm (by decide) (by decide)) rfl rfl in_H (by decide) w_208 rfl d_H_twin_46 ?_
  refine gq_get C (g := 12) (j := 0) (ci := 3) (k := 2) (v := .ref (al Z 13 2)) (qm (by decide) (by decide)) rfl rfl in_R (by decide) w_163 rfl d_H_twin_49 ?_
  refine gq_iload_n C d_H_twin_52 rfl ?_
  refine gq_iald C (g := 13) (j := 2) (a := i) (t0 := 0) (qm (by decide) (by decide)) rfl rfl rfl (Nat.lt_of_lt_of_le hi hn) (by decide) d_H_twin_53 ?_
  refine gq_aload_n C d_H_twin_54 rfl ?_
  refine gq_get C (g := 0) (j := 0) (ci := 7) (k := 5) (v := .ref (al Z 12 0)) (qm (by decide) (by decide)) rfl rfl in_H (by decide) w_208 rfl d_H_twin_55 ?_
  refine gq_get C (g := 12) (j := 0) (ci := 3) (k := 3) (v := .ref (al Z 13 3)) (qm (by decide) (by decide)) rfl rfl in_R (by decide) w_165 rfl d_H_twin_58 ?_
  refine gq_iload_n C d_H_twin_61 rfl ?_
  refine gq_iald C (g := 13) (j := 3) (a := i) (t0 := 0) (qm (by decide) (by decide)) rfl rfl rfl (Nat.lt_of_lt_of_le hi hn) (by decide) d_H_twin_62 ?_
  refine gq_callV C (st := []) (fun _ h => h) (c_R_put l Z hZ _ _ ⟨n, hn, h4⟩ (V 13 0 i) (V 13 1 i) (V 13 2 i) (V 13 3 i)) (qm (by decide) (by decide)) rfl rfl w_362 w_363 w_364 w_365 w_7 ⟨by decide, by decide, (by decide +kernel : (parseMethodDescriptor y_R_post.desc).map (fun d => d.parameters.length) = some 4)⟩ ⟨by decide, by decide⟩ ⟨by decide, by decide⟩ rfl (Nat.le_of_ble_eq_true rfl) d_H_twin_63 ?_
  exact gq_vret C hr (by decide) (by decide) d_H_twin_66

set_option maxHeartbeats 4000000 in
set_option maxRecDepth 100000 in
theorem c_H_twin_x2 (l : Launch) (hadm : ∀ e : Env, l.admits e → e.platform.stackTraces = false) (Z : qZ) (hZ : qok (pX Z)) (V : qV) (Y : qY) (i n : Nat) (hi : i < n) (hn : n ≤ 40) (h4 : V 12 0 4 = nI n) (hf : n = 40) : CT l y_H_twin { frames := 7, cells := 1, slots := 6, locals := 117 } (pX Z) qN [.ref (al Z 0 0), .int (nI i)] V Y (.inr "java/lang/IllegalStateException") V Y := by
  refine CT.of (cc := b_H_twin) (maxL := 2) (ret := none) hZ (by decide) w_557 (Nat.le_of_ble_eq_true rfl) ?_
  intro p e s m below meth c C hr hex hlt
  refine gq_aload_n C d_H_twin_0 rfl ?_
  refine gq_iload_n C d_H_twin_1 rfl ?_
  refine gq_callV C (st := []) (fun _ h => h) (c_H_checkLetter l Z hZ _ _ (nI i) (f_i0 hi hn) (f_i4 hi hn h4)) (qm (by decide) (by decide)) rfl rfl w_485 w_487 ws_H_checkLetter w_488 w_1 ⟨by decide, by decide, (by decide +kernel : (parseMethodDescriptor y_H_checkLetter.desc).map (fun d => d.parameters.length) = some 1)⟩ ⟨by decide, by decide⟩ ⟨by decide, by decide⟩ rfl (Nat.le_of_ble_eq_true rfl) d_H_twin_2 ?_
  refine gq_aload_n C d_H_twin_5 rfl ?_
  refine gq_get C (g := 0) (j := 0) (ci := 7) (k := 5) (v := .ref (al Z 12 0)) (qm (by decide) (by decide)) rfl rfl in_H (by decide) w_208 rfl d_H_twin_6 ?_
  refine gq_callV C (st := []) (fun _ h => h) (c_R_isFull l Z hZ _ _) (qm (by decide) (by decide)) rfl rfl w_558 w_367 w_368 w_369 w_7 ⟨by decide, by decide, (by decide +kernel : (parseMethodDescriptor y_R_isFull.desc).map (fun d => d.parameters.length) = some 0)⟩ ⟨by decide, by decide⟩ ⟨by decide, by decide⟩ rfl (Nat.le_of_ble_eq_true rfl) d_H_twin_9 ?_
  refine gq_if_eq C (tgt := 23) d_H_twin_12 rfl (fun hb => by exact absurd hb (by rw [h4, hf]; decide)) (fun hb12 => ?_)
  exact gq_throw C hadm hex hlt tw_IllegalStateException w_340 w_341 w_14 (by decide) (by decide) (by decide) (by decide) (by decide) (Nat.le_of_ble_eq_true rfl) d_H_twin_15 d_H_twin_18 d_H_twin_19 d_H_twin_22

set_option maxHeartbeats 4000000 in
set_option maxRecDepth 100000 in
theorem c_H_letter_0 (l : Launch) (Z : qZ) (hZ : qok (pX Z)) (V : qV) (Y : qY) (i n : Nat) (hi : i < n) (hn : n ≤ 40) (h4 : V 12 0 4 = nI n) : CT l y_H_letter { frames := 7, cells := 0, slots := 0, locals := 117 } (pX Z) qN [.ref (al Z 0 0), .int (nI i), .int 0] V Y (.inl (some (.int (V 13 0 i)))) V Y := by
  refine CT.of (cc := b_H_letter) (maxL := 3) (ret := (some .int)) hZ (by decide) w_565 (Nat.le_of_ble_eq_true rfl) ?_
  intro p e s m below meth c C hr hex hlt
  refine gq_aload_n C d_H_letter_0 rfl ?_
  refine gq_iload_n C d_H_letter_1 rfl ?_
  refine gq_callV C (st := []) (fun _ h => h) (c_H_checkLetter l Z hZ _ _ (nI i) (f_i0 hi hn) (f_i4 hi hn h4)) (qm (by decide) (by decide)) rfl rfl w_485 w_487 ws_H_checkLetter w_488 w_1 ⟨by decide, by decide, (by decide +kernel : (parseMethodDescriptor y_H_checkLetter.desc).map (fun d => d.parameters.length) = some 1)⟩ ⟨by decide, by decide⟩ ⟨by decide, by decide⟩ rfl (Nat.le_of_ble_eq_true rfl) d_H_letter_2 ?_
  refine gq_iload_n C d_H_letter_5 rfl ?_
  refine gq_tableIn C (tgt := 36) d_H_letter_6 (by decide) (by decide) rfl rfl ?_
  refine gq_aload_n C d_H_letter_36 rfl ?_
  refine gq_get C (g := 0) (j := 0) (ci := 7) (k := 5) (v := .ref (al Z 12 0)) (qm (by decide) (by decide)) rfl rfl in_H (by decide) w_208 rfl d_H_letter_37 ?_
  refine gq_get C (g := 12) (j := 0) (ci := 3) (k := 0) (v := .ref (al Z 13 0)) (qm (by decide) (by decide)) rfl rfl in_R (by decide) w_159 rfl d_H_letter_40 ?_
  refine gq_iload_n C d_H_letter_43 rfl ?_
  refine gq_iald C (g := 13) (j := 0) (a := i) (t0 := 0) (qm (by decide) (by decide)) rfl rfl rfl (Nat.lt_of_lt_of_le hi hn) (by decide) d_H_letter_44 ?_
  exact gq_iret C hr (by decide) (by decide) d_H_letter_45

set_option maxHeartbeats 4000000 in
set_option maxRecDepth 100000 in
theorem c_H_letter_1 (l : Launch) (Z : qZ) (hZ : qok (pX Z)) (V : qV) (Y : qY) (i n : Nat) (hi : i < n) (hn : n ≤ 40) (h4 : V 12 0 4 = nI n) : CT l y_H_letter { frames := 7, cells := 0, slots := 0, locals := 117 } (pX Z) qN [.ref (al Z 0 0), .int (nI i), .int 1] V Y (.inl (some (.int (V 13 1 i)))) V Y := by
  refine CT.of (cc := b_H_letter) (maxL := 3) (ret := (some .int)) hZ (by decide) w_565 (Nat.le_of_ble_eq_true rfl) ?_
  intro p e s m below meth c C hr hex hlt
  refine gq_aload_n C d_H_letter_0 rfl ?_
  refine gq_iload_n C d_H_letter_1 rfl ?_
  refine gq_callV C (st := []) (fun _ h => h) (c_H_checkLetter l Z hZ _ _ (nI i) (f_i0 hi hn) (f_i4 hi hn h4)) (qm (by decide) (by decide)) rfl rfl w_485 w_487 ws_H_checkLetter w_488 w_1 ⟨by decide, by decide, (by decide +kernel : (parseMethodDescriptor y_H_checkLetter.desc).map (fun d => d.parameters.length) = some 1)⟩ ⟨by decide, by decide⟩ ⟨by decide, by decide⟩ rfl (Nat.le_of_ble_eq_true rfl) d_H_letter_2 ?_
  refine gq_iload_n C d_H_letter_5 rfl ?_
  refine gq_tableIn C (tgt := 46) d_H_letter_6 (by decide) (by decide) rfl rfl ?_
  refine gq_aload_n C d_H_letter_46 rfl ?_
  refine gq_get C (g := 0) (j := 0) (ci := 7) (k := 5) (v := .ref (al Z 12 0)) (qm (by decide) (by decide)) rfl rfl in_H (by decide) w_208 rfl d_H_letter_47 ?_
  refine gq_get C (g := 12) (j := 0) (ci := 3) (k := 1) (v := .ref (al Z 13 1)) (qm (by decide) (by decide)) rfl rfl in_R (by decide) w_161 rfl d_H_letter_50 ?_
  refine gq_iload_n C d_H_letter_53 rfl ?_
  refine gq_iald C (g := 13) (j := 1) (a := i) (t0 := 0) (qm (by decide) (by decide)) rfl rfl rfl (Nat.lt_of_lt_of_le hi hn) (by decide) d_H_letter_54 ?_
  exact gq_iret C hr (by decide) (by decide) d_H_letter_55

set_option maxHeartbeats 4000000 in
set_option maxRecDepth 100000 in
theorem c_H_letter_2 (l : Launch) (Z : qZ) (hZ : qok (pX Z)) (V : qV) (Y : qY) (i n : Nat) (hi : i < n) (hn : n ≤ 40) (h4 : V 12 0 4 = nI n) : CT l y_H_letter { frames := 7, cells := 0, slots := 0, locals := 117 } (pX Z) qN [.ref (al Z 0 0), .int (nI i), .int 2] V Y (.inl (some (.int (V 13 2 i)))) V Y := by
  refine CT.of (cc := b_H_letter) (maxL := 3) (ret := (some .int)) hZ (by decide) w_565 (Nat.le_of_ble_eq_true rfl) ?_
  intro p e s m below meth c C hr hex hlt
  refine gq_aload_n C d_H_letter_0 rfl ?_
  refine gq_iload_n C d_H_letter_1 rfl ?_
  refine gq_callV C (st := []) (fun _ h => h) (c_H_checkLetter l Z hZ _ _ (nI i) (f_i0 hi hn) (f_i4 hi hn h4)) (qm (by decide) (by decide)) rfl rfl w_485 w_487 ws_H_checkLetter w_488 w_1 ⟨by decide, by decide, (by decide +kernel : (parseMethodDescriptor y_H_checkLetter.desc).map (fun d => d.parameters.length) = some 1)⟩ ⟨by decide, by decide⟩ ⟨by decide, by decide⟩ rfl (Nat.le_of_ble_eq_true rfl) d_H_letter_2 ?_
  refine gq_iload_n C d_H_letter_5 rfl ?_
  refine gq_tableIn C (tgt := 56) d_H_letter_6 (by decide) (by decide) rfl rfl ?_
  refine gq_aload_n C d_H_letter_56 rfl ?_
  refine gq_get C (g := 0) (j := 0) (ci := 7) (k := 5) (v := .ref (al Z 12 0)) (qm (by decide) (by decide)) rfl rfl in_H (by decide) w_208 rfl d_H_letter_57 ?_
  refine gq_get C (g := 12) (j := 0) (ci := 3) (k := 2) (v := .ref (al Z 13 2)) (qm (by decide) (by decide)) rfl rfl in_R (by decide) w_163 rfl d_H_letter_60 ?_
  refine gq_iload_n C d_H_letter_63 rfl ?_
  refine gq_iald C (g := 13) (j := 2) (a := i) (t0 := 0) (qm (by decide) (by decide)) rfl rfl rfl (Nat.lt_of_lt_of_le hi hn) (by decide) d_H_letter_64 ?_
  exact gq_iret C hr (by decide) (by decide) d_H_letter_65

set_option maxHeartbeats 4000000 in
set_option maxRecDepth 100000 in
theorem c_H_letter_3 (l : Launch) (Z : qZ) (hZ : qok (pX Z)) (V : qV) (Y : qY) (i n : Nat) (hi : i < n) (hn : n ≤ 40) (h4 : V 12 0 4 = nI n) : CT l y_H_letter { frames := 7, cells := 0, slots := 0, locals := 117 } (pX Z) qN [.ref (al Z 0 0), .int (nI i), .int 3] V Y (.inl (some (.int (V 13 3 i)))) V Y := by
  refine CT.of (cc := b_H_letter) (maxL := 3) (ret := (some .int)) hZ (by decide) w_565 (Nat.le_of_ble_eq_true rfl) ?_
  intro p e s m below meth c C hr hex hlt
  refine gq_aload_n C d_H_letter_0 rfl ?_
  refine gq_iload_n C d_H_letter_1 rfl ?_
  refine gq_callV C (st := []) (fun _ h => h) (c_H_checkLetter l Z hZ _ _ (nI i) (f_i0 hi hn) (f_i4 hi hn h4)) (qm (by decide) (by decide)) rfl rfl w_485 w_487 ws_H_checkLetter w_488 w_1 ⟨by decide, by decide, (by decide +kernel : (parseMethodDescriptor y_H_checkLetter.desc).map (fun d => d.parameters.length) = some 1)⟩ ⟨by decide, by decide⟩ ⟨by decide, by decide⟩ rfl (Nat.le_of_ble_eq_true rfl) d_H_letter_2 ?_
  refine gq_iload_n C d_H_letter_5 rfl ?_
  refine gq_tableIn C (tgt := 66) d_H_letter_6 (by decide) (by decide) rfl rfl ?_
  refine gq_aload_n C d_H_letter_66 rfl ?_
  refine gq_get C (g := 0) (j := 0) (ci := 7) (k := 5) (v := .ref (al Z 12 0)) (qm (by decide) (by decide)) rfl rfl in_H (by decide) w_208 rfl d_H_letter_67 ?_
  refine gq_get C (g := 12) (j := 0) (ci := 3) (k := 3) (v := .ref (al Z 13 3)) (qm (by decide) (by decide)) rfl rfl in_R (by decide) w_165 rfl d_H_letter_70 ?_
  refine gq_iload_n C d_H_letter_73 rfl ?_
  refine gq_iald C (g := 13) (j := 3) (a := i) (t0 := 0) (qm (by decide) (by decide)) rfl rfl rfl (Nat.lt_of_lt_of_le hi hn) (by decide) d_H_letter_74 ?_
  exact gq_iret C hr (by decide) (by decide) d_H_letter_75

set_option maxHeartbeats 4000000 in
set_option maxRecDepth 100000 in
theorem c_H_letter_x2 (l : Launch) (hadm : ∀ e : Env, l.admits e → e.platform.stackTraces = false) (Z : qZ) (hZ : qok (pX Z)) (V : qV) (Y : qY) (i n : Nat) (hi : i < n) (hn : n ≤ 40) (h4 : V 12 0 4 = nI n) (w : Int32) (h : w.toInt < 0 ∨ 3 < w.toInt) : CT l y_H_letter { frames := 7, cells := 1, slots := 6, locals := 117 } (pX Z) qN [.ref (al Z 0 0), .int (nI i), .int w] V Y (.inr "java/lang/IllegalArgumentException") V Y := by
  refine CT.of (cc := b_H_letter) (maxL := 3) (ret := (some .int)) hZ (by decide) w_565 (Nat.le_of_ble_eq_true rfl) ?_
  intro p e s m below meth c C hr hex hlt
  refine gq_aload_n C d_H_letter_0 rfl ?_
  refine gq_iload_n C d_H_letter_1 rfl ?_
  refine gq_callV C (st := []) (fun _ h => h) (c_H_checkLetter l Z hZ _ _ (nI i) (f_i0 hi hn) (f_i4 hi hn h4)) (qm (by decide) (by decide)) rfl rfl w_485 w_487 ws_H_checkLetter w_488 w_1 ⟨by decide, by decide, (by decide +kernel : (parseMethodDescriptor y_H_checkLetter.desc).map (fun d => d.parameters.length) = some 1)⟩ ⟨by decide, by decide⟩ ⟨by decide, by decide⟩ rfl (Nat.le_of_ble_eq_true rfl) d_H_letter_2 ?_
  refine gq_iload_n C d_H_letter_5 rfl ?_
  refine gq_tableOut C (tgt := 76) d_H_letter_6 h rfl ?_
  exact gq_throw C hadm hex hlt tw_IllegalArgumentException w_255 w_256 w_13 (by decide) (by decide) (by decide) (by decide) (by decide) (Nat.le_of_ble_eq_true rfl) d_H_letter_76 d_H_letter_79 d_H_letter_80 d_H_letter_83

set_option maxHeartbeats 4000000 in
set_option maxRecDepth 100000 in
theorem c_H_letters (l : Launch) (Z : qZ) (hZ : qok (pX Z)) (V : qV) (Y : qY)  : CT l y_H_letters { frames := 1, cells := 0, slots := 0, locals := 40 } (pX Z) qN [.ref (al Z 0 0)] V Y (.inl (some (.int (V 12 0 4)))) V Y := by
  refine CT.of (cc := b_H_letters) (maxL := 1) (ret := (some .int)) hZ (by decide) w_239 (Nat.le_of_ble_eq_true rfl) ?_
  intro p e s m below meth c C hr hex hlt
  refine gq_aload_n C d_H_letters_0 rfl ?_
  refine gq_get C (g := 0) (j := 0) (ci := 7) (k := 5) (v := .ref (al Z 12 0)) (qm (by decide) (by decide)) rfl rfl in_H (by decide) w_208 rfl d_H_letters_1 ?_
  refine gq_get C (g := 12) (j := 0) (ci := 3) (k := 4) (v := .int (V 12 0 4)) (qm (by decide) (by decide)) rfl rfl in_R (by decide) w_167 rfl d_H_letters_4 ?_
  exact gq_iret C hr (by decide) (by decide) d_H_letters_7

def f_bring1 (V : qV) (t : Nat) (a : Int32) : qV := f_look (if f_grantB V t a = 0 then f_grant V t a else f_put (f_grant V t a) 2 (nI t) (f_grantB V t a) a)
def f_bring3 (V : qV) (t : Nat) (b : Int32) : qV := f_look (qv V 11 t 0 (if V 11 t 0 < b then b else V 11 t 0))
def f_bring4 (V : qV) (t : Nat) (a : Int32) : qV := f_look (if a = V 11 t 1 then qv V 11 t 4 0 else V)

set_option maxHeartbeats 4000000 in
set_option maxRecDepth 100000 in
theorem c_H_bring1 (l : Launch) (Z : qZ) (hZ : qok (pX Z)) (V : qV) (Y : qY) (t : Nat) (ht : t < 4) (b a : Int32) (hc : ∃ q, q ≤ 40 ∧ V 12 0 4 = nI q) : CT l y_H_bringToDesk { frames := 4, cells := 0, slots := 0, locals := 104 } (pX Z) (qA (pX Z)) [.ref (al Z 0 0), .int 1, .int (nI t), .int b, .int a] V Y (.inl none) (f_bring1 V t a) Y := by
  refine CT.of (cc := b_H_bringToDesk) (maxL := 6) (ret := none) hZ (by decide) w_520 (Nat.le_of_ble_eq_true rfl) ?_
  intro p e s m below meth c C hr hex hlt
  refine gq_iload_n C d_H_bringToDesk_0 rfl ?_
  refine gq_iconst C (v := 1) d_H_bringToDesk_1 (by decide) ?_
  refine gq_icmp_ne C (tgt := 38) d_H_bringToDesk_2 rfl (fun hb => by exact absurd hb (by decide)) (fun hb2 => ?_)
  refine gq_aload_n C d_H_bringToDesk_5 rfl ?_
  refine gq_get C (g := 0) (j := 0) (ci := 7) (k := 4) (v := .ref (al Z 9 0)) (qm (by decide) (by decide)) rfl rfl in_H (by decide) w_207 rfl d_H_bringToDesk_6 ?_
  refine gq_iload_n C d_H_bringToDesk_9 rfl ?_
  refine gq_iload C d_H_bringToDesk_10 rfl ?_
  refine gq_callV C (st := []) (fun _ h => h) (c_D_grant l Z hZ _ _ t ht a) (qm (by decide) (by decide)) rfl rfl w_521 w_522 w_523 w_524 w_5 ⟨by decide, by decide, (by decide +kernel : (parseMethodDescriptor y_D_grant.desc).map (fun d => d.parameters.length) = some 2)⟩ ⟨by decide, by decide⟩ ⟨by decide, by decide⟩ rfl (Nat.le_of_ble_eq_true rfl) d_H_bringToDesk_12 ?_
  refine gq_istore C (lo' := [(5, .int (f_grantB V t a)), (0, .ref (al Z 0 0)), (1, .int 1), (2, .int (nI t)), (3, .int b), (4, .int a)]) d_H_bringToDesk_15 (by decide) rfl ?_
  refine gq_iload C d_H_bringToDesk_17 rfl ?_
  refine gq_if_eq C (tgt := 35) d_H_bringToDesk_19 rfl (fun hb19 => ?_) (fun hb19 => ?_)
  · skip
    refine gq_goto C (tgt := 73) d_H_bringToDesk_35 rfl ?_
    refine gq_aload_n C d_H_bringToDesk_73 rfl ?_
    refine gq_get C (g := 0) (j := 0) (ci := 7) (k := 4) (v := .ref (al Z 9 0)) (qm (by decide) (by decide)) rfl rfl in_H (by decide) w_207 rfl d_H_bringToDesk_74 ?_
    refine gq_callV C (st := []) (fun _ h => h) (c_D_lookAtChange l Z hZ _ _) (qm (by decide) (by decide)) rfl rfl w_381 w_382 w_383 w_384 w_5 ⟨by decide, by decide, (by decide +kernel : (parseMethodDescriptor y_D_lookAtChange.desc).map (fun d => d.parameters.length) = some 0)⟩ ⟨by decide, by decide⟩ ⟨by decide, by decide⟩ rfl (Nat.le_of_ble_eq_true rfl) d_H_bringToDesk_77 ?_
    exact gq_vretE C hr (by unfold f_bring1; simp [*]) rfl (by decide) (by decide) d_H_bringToDesk_80
  · skip
    refine gq_aload_n C d_H_bringToDesk_22 rfl ?_
    refine gq_get C (g := 0) (j := 0) (ci := 7) (k := 5) (v := .ref (al Z 12 0)) (qm (by decide) (by decide)) rfl rfl in_H (by decide) w_208 rfl d_H_bringToDesk_23 ?_
    refine gq_iconst C (v := 2) d_H_bringToDesk_26 (by decide) ?_
    refine gq_iload_n C d_H_bringToDesk_27 rfl ?_
    refine gq_iload C d_H_bringToDesk_28 rfl ?_
    refine gq_iload C d_H_bringToDesk_30 rfl ?_
    refine gq_callV C (st := []) (fun _ h => h) (c_R_put l Z hZ _ _ (f_cnt2 hc (by rw [f_grant_fr _ _ _ _ (by decide)])) 2 (nI t) (f_grantB V t a) a) (qm (by decide) (by decide)) rfl rfl w_362 w_363 w_364 w_365 w_7 ⟨by decide, by decide, (by decide +kernel : (parseMethodDescriptor y_R_post.desc).map (fun d => d.parameters.length) = some 4)⟩ ⟨by decide, by decide⟩ ⟨by decide, by decide⟩ rfl (Nat.le_of_ble_eq_true rfl) d_H_bringToDesk_32 ?_
    refine gq_goto C (tgt := 73) d_H_bringToDesk_35 rfl ?_
    refine gq_aload_n C d_H_bringToDesk_73 rfl ?_
    refine gq_get C (g := 0) (j := 0) (ci := 7) (k := 4) (v := .ref (al Z 9 0)) (qm (by decide) (by decide)) rfl rfl in_H (by decide) w_207 rfl d_H_bringToDesk_74 ?_
    refine gq_callV C (st := []) (fun _ h => h) (c_D_lookAtChange l Z hZ _ _) (qm (by decide) (by decide)) rfl rfl w_381 w_382 w_383 w_384 w_5 ⟨by decide, by decide, (by decide +kernel : (parseMethodDescriptor y_D_lookAtChange.desc).map (fun d => d.parameters.length) = some 0)⟩ ⟨by decide, by decide⟩ ⟨by decide, by decide⟩ rfl (Nat.le_of_ble_eq_true rfl) d_H_bringToDesk_77 ?_
    exact gq_vretE C hr (by unfold f_bring1; simp [*]) rfl (by decide) (by decide) d_H_bringToDesk_80

set_option maxHeartbeats 4000000 in
set_option maxRecDepth 100000 in
theorem c_H_bring3 (l : Launch) (Z : qZ) (hZ : qok (pX Z)) (V : qV) (Y : qY) (t : Nat) (ht : t < 4) (b a : Int32) : CT l y_H_bringToDesk { frames := 4, cells := 0, slots := 0, locals := 104 } (pX Z) (qA (pX Z)) [.ref (al Z 0 0), .int 3, .int (nI t), .int b, .int a] V Y (.inl none) (f_bring3 V t b) Y := by
  refine CT.of (cc := b_H_bringToDesk) (maxL := 6) (ret := none) hZ (by decide) w_520 (Nat.le_of_ble_eq_true rfl) ?_
  intro p e s m below meth c C hr hex hlt
  refine gq_iload_n C d_H_bringToDesk_0 rfl ?_
  refine gq_iconst C (v := 1) d_H_bringToDesk_1 (by decide) ?_
  refine gq_icmp_ne C (tgt := 38) d_H_bringToDesk_2 rfl (fun hb2 => ?_) (fun hb => by exact absurd hb (by decide))
  refine gq_iload_n C d_H_bringToDesk_38 rfl ?_
  refine gq_iconst C (v := 3) d_H_bringToDesk_39 (by decide) ?_
  refine gq_icmp_ne C (tgt := 59) d_H_bringToDesk_40 rfl (fun hb => by exact absurd hb (by decide)) (fun hb40 => ?_)
  refine gq_aload_n C d_H_bringToDesk_43 rfl ?_
  refine gq_get C (g := 0) (j := 0) (ci := 7) (k := 4) (v := .ref (al Z 9 0)) (qm (by decide) (by decide)) rfl rfl in_H (by decide) w_207 rfl d_H_bringToDesk_44 ?_
  refine gq_get C (g := 9) (j := 0) (ci := 2) (k := 1) (v := .ref (al Z 10 0)) (qm (by decide) (by decide)) rfl rfl in_D (by decide) w_135 rfl d_H_bringToDesk_47 ?_
  refine gq_iload_n C d_H_bringToDesk_50 rfl ?_
  refine gq_aald C (g := 10) (j := 0) (a := t) (t0 := 5) (b := al Z 11 t) (qm (by decide) (by decide)) rfl rfl rfl ht (by decide) rfl d_H_bringToDesk_51 ?_
  refine gq_iload_n C d_H_bringToDesk_52 rfl ?_
  refine gq_callV C (st := []) (fun _ h => h) (c_N_noteReady l Z hZ _ _ t ht b) (qm (by decide) ht) rfl rfl w_533 w_534 w_535 w_536 w_6 ⟨by decide, by decide, (by decide +kernel : (parseMethodDescriptor y_N_noteReady.desc).map (fun d => d.parameters.length) = some 1)⟩ ⟨by decide, by decide⟩ ⟨by decide, by decide⟩ rfl (Nat.le_of_ble_eq_true rfl) d_H_bringToDesk_53 ?_
  refine gq_goto C (tgt := 73) d_H_bringToDesk_56 rfl ?_
  refine gq_aload_n C d_H_bringToDesk_73 rfl ?_
  refine gq_get C (g := 0) (j := 0) (ci := 7) (k := 4) (v := .ref (al Z 9 0)) (qm (by decide) (by decide)) rfl rfl in_H (by decide) w_207 rfl d_H_bringToDesk_74 ?_
  refine gq_callV C (st := []) (fun _ h => h) (c_D_lookAtChange l Z hZ _ _) (qm (by decide) (by decide)) rfl rfl w_381 w_382 w_383 w_384 w_5 ⟨by decide, by decide, (by decide +kernel : (parseMethodDescriptor y_D_lookAtChange.desc).map (fun d => d.parameters.length) = some 0)⟩ ⟨by decide, by decide⟩ ⟨by decide, by decide⟩ rfl (Nat.le_of_ble_eq_true rfl) d_H_bringToDesk_77 ?_
  exact gq_vretE C hr (by rfl) rfl (by decide) (by decide) d_H_bringToDesk_80

set_option maxHeartbeats 4000000 in
set_option maxRecDepth 100000 in
theorem c_H_bring4 (l : Launch) (Z : qZ) (hZ : qok (pX Z)) (V : qV) (Y : qY) (t : Nat) (ht : t < 4) (b a : Int32) : CT l y_H_bringToDesk { frames := 4, cells := 0, slots := 0, locals := 104 } (pX Z) (qA (pX Z)) [.ref (al Z 0 0), .int 4, .int (nI t), .int b, .int a] V Y (.inl none) (f_bring4 V t a) Y := by
  refine CT.of (cc := b_H_bringToDesk) (maxL := 6) (ret := none) hZ (by decide) w_520 (Nat.le_of_ble_eq_true rfl) ?_
  intro p e s m below meth c C hr hex hlt
  refine gq_iload_n C d_H_bringToDesk_0 rfl ?_
  refine gq_iconst C (v := 1) d_H_bringToDesk_1 (by decide) ?_
  refine gq_icmp_ne C (tgt := 38) d_H_bringToDesk_2 rfl (fun hb2 => ?_) (fun hb => by exact absurd hb (by decide))
  refine gq_iload_n C d_H_bringToDesk_38 rfl ?_
  refine gq_iconst C (v := 3) d_H_bringToDesk_39 (by decide) ?_
  refine gq_icmp_ne C (tgt := 59) d_H_bringToDesk_40 rfl (fun hb40 => ?_) (fun hb => by exact absurd hb (by decide))
  refine gq_aload_n C d_H_bringToDesk_59 rfl ?_
  refine gq_get C (g := 0) (j := 0) (ci := 7) (k := 4) (v := .ref (al Z 9 0)) (qm (by decide) (by decide)) rfl rfl in_H (by decide) w_207 rfl d_H_bringToDesk_60 ?_
  refine gq_get C (g := 9) (j := 0) (ci := 2) (k := 1) (v := .ref (al Z 10 0)) (qm (by decide) (by decide)) rfl rfl in_D (by decide) w_135 rfl d_H_bringToDesk_63 ?_
  refine gq_iload_n C d_H_bringToDesk_66 rfl ?_
  refine gq_aald C (g := 10) (j := 0) (a := t) (t0 := 5) (b := al Z 11 t) (qm (by decide) (by decide)) rfl rfl rfl ht (by decide) rfl d_H_bringToDesk_67 ?_
  refine gq_iload C d_H_bringToDesk_68 rfl ?_
  refine gq_callV C (st := []) (fun _ h => h) (c_N_noteGiven l Z hZ _ _ t ht a) (qm (by decide) ht) rfl rfl w_540 w_541 w_542 w_543 w_6 ⟨by decide, by decide, (by decide +kernel : (parseMethodDescriptor y_N_noteGiven.desc).map (fun d => d.parameters.length) = some 1)⟩ ⟨by decide, by decide⟩ ⟨by decide, by decide⟩ rfl (Nat.le_of_ble_eq_true rfl) d_H_bringToDesk_70 ?_
  refine gq_aload_n C d_H_bringToDesk_73 rfl ?_
  refine gq_get C (g := 0) (j := 0) (ci := 7) (k := 4) (v := .ref (al Z 9 0)) (qm (by decide) (by decide)) rfl rfl in_H (by decide) w_207 rfl d_H_bringToDesk_74 ?_
  refine gq_callV C (st := []) (fun _ h => h) (c_D_lookAtChange l Z hZ _ _) (qm (by decide) (by decide)) rfl rfl w_381 w_382 w_383 w_384 w_5 ⟨by decide, by decide, (by decide +kernel : (parseMethodDescriptor y_D_lookAtChange.desc).map (fun d => d.parameters.length) = some 0)⟩ ⟨by decide, by decide⟩ ⟨by decide, by decide⟩ rfl (Nat.le_of_ble_eq_true rfl) d_H_bringToDesk_77 ?_
  exact gq_vretE C hr (by rfl) rfl (by decide) (by decide) d_H_bringToDesk_80

theorem c_H_bring1e (l : Launch) (Z : qZ) (hZ : qok (pX Z)) (V : qV) (Y : qY) (t : Nat) (ht : t < 4) (b a : Int32) (hc : ∃ q, q ≤ 40 ∧ V 12 0 4 = nI q) (k u : Int32) (hk : k = 1) (hu : u = nI t) : CT l y_H_bringToDesk { frames := 4, cells := 0, slots := 0, locals := 104 } (pX Z) (qA (pX Z)) [.ref (al Z 0 0), .int k, .int u, .int b, .int a] V Y (.inl none) (f_bring1 V t a) Y := by
  subst hk; subst hu
  exact c_H_bring1 l Z hZ V Y t ht b a hc

theorem c_H_bring3e (l : Launch) (Z : qZ) (hZ : qok (pX Z)) (V : qV) (Y : qY) (t : Nat) (ht : t < 4) (b a : Int32) (k u : Int32) (hk : k = 3) (hu : u = nI t) : CT l y_H_bringToDesk { frames := 4, cells := 0, slots := 0, locals := 104 } (pX Z) (qA (pX Z)) [.ref (al Z 0 0), .int k, .int u, .int b, .int a] V Y (.inl none) (f_bring3 V t b) Y := by
  subst hk; subst hu
  exact c_H_bring3 l Z hZ V Y t ht b a

theorem c_H_bring4e (l : Launch) (Z : qZ) (hZ : qok (pX Z)) (V : qV) (Y : qY) (t : Nat) (ht : t < 4) (b a : Int32) (k u : Int32) (hk : k = 4) (hu : u = nI t) : CT l y_H_bringToDesk { frames := 4, cells := 0, slots := 0, locals := 104 } (pX Z) (qA (pX Z)) [.ref (al Z 0 0), .int k, .int u, .int b, .int a] V Y (.inl none) (f_bring4 V t a) Y := by
  subst hk; subst hu
  exact c_H_bring4 l Z hZ V Y t ht b a

set_option maxHeartbeats 4000000 in
set_option maxRecDepth 100000 in
theorem c_H_deliver0 (l : Launch) (Z : qZ) (hZ : qok (pX Z)) (V : qV) (Y : qY) (i n : Nat) (hi : i < n) (hn : n ≤ 40) (h4 : V 12 0 4 = nI n) (t : Nat) (ht : t < 4) (h1 : V 13 1 i = nI t) (hk : V 13 0 i = 0) : CT l y_H_deliver { frames := 7, cells := 0, slots := 0, locals := 129 } (pX Z) (qA (pX Z)) [.ref (al Z 0 0), .int (nI i)] V Y (.inl none) (f_takeBook (f_takeOut V i n) t (V 13 2 i)) Y := by
  refine CT.of (cc := b_H_deliver) (maxL := 6) (ret := none) hZ (by decide) w_484 (Nat.le_of_ble_eq_true rfl) ?_
  intro p e s m below meth c C hr hex hlt
  refine gq_aload_n C d_H_deliver_0 rfl ?_
  refine gq_iload_n C d_H_deliver_1 rfl ?_
  refine gq_callV C (st := []) (fun _ h => h.elim) (c_H_checkLetter l Z hZ _ _ (nI i) (f_i0 hi hn) (f_i4 hi hn h4)) (qm (by decide) (by decide)) rfl rfl w_485 w_487 ws_H_checkLetter w_488 w_1 ⟨by decide, by decide, (by decide +kernel : (parseMethodDescriptor y_H_checkLetter.desc).map (fun d => d.parameters.length) = some 1)⟩ ⟨by decide, by decide⟩ ⟨by decide, by decide⟩ rfl (Nat.le_of_ble_eq_true rfl) d_H_deliver_2 ?_
  refine gq_aload_n C d_H_deliver_5 rfl ?_
  refine gq_get C (g := 0) (j := 0) (ci := 7) (k := 5) (v := .ref (al Z 12 0)) (qm (by decide) (by decide)) rfl rfl in_H (by decide) w_208 rfl d_H_deliver_6 ?_
  refine gq_get C (g := 12) (j := 0) (ci := 3) (k := 0) (v := .ref (al Z 13 0)) (qm (by decide) (by decide)) rfl rfl in_R (by decide) w_159 rfl d_H_deliver_9 ?_
  refine gq_iload_n C d_H_deliver_12 rfl ?_
  refine gq_iald C (g := 13) (j := 0) (a := i) (t0 := 0) (qm (by decide) (by decide)) rfl rfl rfl (Nat.lt_of_lt_of_le hi hn) (by decide) d_H_deliver_13 ?_
  refine gq_istore_n C (lo' := [(2, .int (V 13 0 i)), (0, .ref (al Z 0 0)), (1, .int (nI i))]) d_H_deliver_14 rfl (by decide) rfl ?_
  refine gq_aload_n C d_H_deliver_15 rfl ?_
  refine gq_get C (g := 0) (j := 0) (ci := 7) (k := 5) (v := .ref (al Z 12 0)) (qm (by decide) (by decide)) rfl rfl in_H (by decide) w_208 rfl d_H_deliver_16 ?_
  refine gq_get C (g := 12) (j := 0) (ci := 3) (k := 1) (v := .ref (al Z 13 1)) (qm (by decide) (by decide)) rfl rfl in_R (by decide) w_161 rfl d_H_deliver_19 ?_
  refine gq_iload_n C d_H_deliver_22 rfl ?_
  refine gq_iald C (g := 13) (j := 1) (a := i) (t0 := 0) (qm (by decide) (by decide)) rfl rfl rfl (Nat.lt_of_lt_of_le hi hn) (by decide) d_H_deliver_23 ?_
  refine gq_istore_n C (lo' := [(3, .int (V 13 1 i)), (2, .int (V 13 0 i)), (0, .ref (al Z 0 0)), (1, .int (nI i))]) d_H_deliver_24 rfl (by decide) rfl ?_
  refine gq_aload_n C d_H_deliver_25 rfl ?_
  refine gq_get C (g := 0) (j := 0) (ci := 7) (k := 5) (v := .ref (al Z 12 0)) (qm (by decide) (by decide)) rfl rfl in_H (by decide) w_208 rfl d_H_deliver_26 ?_
  refine gq_get C (g := 12) (j := 0) (ci := 3) (k := 2) (v := .ref (al Z 13 2)) (qm (by decide) (by decide)) rfl rfl in_R (by decide) w_163 rfl d_H_deliver_29 ?_
  refine gq_iload_n C d_H_deliver_32 rfl ?_
  refine gq_iald C (g := 13) (j := 2) (a := i) (t0 := 0) (qm (by decide) (by decide)) rfl rfl rfl (Nat.lt_of_lt_of_le hi hn) (by decide) d_H_deliver_33 ?_
  refine gq_istore C (lo' := [(4, .int (V 13 2 i)), (3, .int (V 13 1 i)), (2, .int (V 13 0 i)), (0, .ref (al Z 0 0)), (1, .int (nI i))]) d_H_deliver_34 (by decide) rfl ?_
  refine gq_aload_n C d_H_deliver_36 rfl ?_
  refine gq_get C (g := 0) (j := 0) (ci := 7) (k := 5) (v := .ref (al Z 12 0)) (qm (by decide) (by decide)) rfl rfl in_H (by decide) w_208 rfl d_H_deliver_37 ?_
  refine gq_get C (g := 12) (j := 0) (ci := 3) (k := 3) (v := .ref (al Z 13 3)) (qm (by decide) (by decide)) rfl rfl in_R (by decide) w_165 rfl d_H_deliver_40 ?_
  refine gq_iload_n C d_H_deliver_43 rfl ?_
  refine gq_iald C (g := 13) (j := 3) (a := i) (t0 := 0) (qm (by decide) (by decide)) rfl rfl rfl (Nat.lt_of_lt_of_le hi hn) (by decide) d_H_deliver_44 ?_
  refine gq_istore C (lo' := [(5, .int (V 13 3 i)), (4, .int (V 13 2 i)), (3, .int (V 13 1 i)), (2, .int (V 13 0 i)), (0, .ref (al Z 0 0)), (1, .int (nI i))]) d_H_deliver_45 (by decide) rfl ?_
  refine gq_aload_n C d_H_deliver_47 rfl ?_
  refine gq_get C (g := 0) (j := 0) (ci := 7) (k := 5) (v := .ref (al Z 12 0)) (qm (by decide) (by decide)) rfl rfl in_H (by decide) w_208 rfl d_H_deliver_48 ?_
  refine gq_iload_n C d_H_deliver_51 rfl ?_
  refine gq_callV C (st := []) (fun _ h => h) (c_R_takeOut l Z hZ _ _ i n hi hn h4 (f_beh hi hn h4)) (qm (by decide) (by decide)) rfl rfl w_504 w_505 w_506 w_507 w_7 ⟨by decide, by decide, (by decide +kernel : (parseMethodDescriptor y_R_takeOut.desc).map (fun d => d.parameters.length) = some 1)⟩ ⟨by decide, by decide⟩ ⟨by decide, by decide⟩ rfl (Nat.le_of_ble_eq_true rfl) d_H_deliver_52 ?_
  refine gq_iload_n C d_H_deliver_55 rfl ?_
  refine gq_if_ne C (tgt := 73) d_H_deliver_56 rfl (fun hb => by first | contradiction | contradiction) (fun hb56 => ?_)
  refine gq_aload_n C d_H_deliver_59 rfl ?_
  refine gq_get C (g := 0) (j := 0) (ci := 7) (k := 3) (v := .ref (al Z 6 0)) (qm (by decide) (by decide)) rfl rfl in_H (by decide) w_206 rfl d_H_deliver_60 ?_
  refine gq_iload_n C d_H_deliver_63 rfl ?_
  refine gq_aald C (g := 6) (j := 0) (a := t) (t0 := 4) (b := al Z 7 t) (qm (by decide) (by decide)) rfl rfl h1 ht (by decide) rfl d_H_deliver_64 ?_
  refine gq_iload C d_H_deliver_65 rfl ?_
  refine gq_callV C (st := []) (fun _ h => h) (c_T_takeBook l Z hZ _ _ t ht (V 13 2 i)) (qm (by decide) ht) rfl rfl w_509 w_510 w_511 w_512 w_3 ⟨by decide, by decide, (by decide +kernel : (parseMethodDescriptor y_T_takeBook.desc).map (fun d => d.parameters.length) = some 1)⟩ ⟨by decide, by decide⟩ ⟨by decide, by decide⟩ rfl (Nat.le_of_ble_eq_true rfl) d_H_deliver_67 ?_
  refine gq_goto C (tgt := 104) d_H_deliver_70 rfl ?_
  exact gq_vret C hr (by decide) (by decide) d_H_deliver_104

set_option maxHeartbeats 4000000 in
set_option maxRecDepth 100000 in
theorem c_H_deliver2 (l : Launch) (Z : qZ) (hZ : qok (pX Z)) (V : qV) (Y : qY) (i n : Nat) (hi : i < n) (hn : n ≤ 40) (h4 : V 12 0 4 = nI n) (t : Nat) (ht : t < 4) (h1 : V 13 1 i = nI t) (hk : V 13 0 i = 2) : CT l y_H_deliver { frames := 7, cells := 0, slots := 0, locals := 129 } (pX Z) (qA (pX Z)) [.ref (al Z 0 0), .int (nI i)] V Y (.inl none) (f_takeGrant (f_takeOut V i n) t (V 13 3 i) (V 13 2 i)) Y := by
  refine CT.of (cc := b_H_deliver) (maxL := 6) (ret := none) hZ (by decide) w_484 (Nat.le_of_ble_eq_true rfl) ?_
  intro p e s m below meth c C hr hex hlt
  refine gq_aload_n C d_H_deliver_0 rfl ?_
  refine gq_iload_n C d_H_deliver_1 rfl ?_
  refine gq_callV C (st := []) (fun _ h => h.elim) (c_H_checkLetter l Z hZ _ _ (nI i) (f_i0 hi hn) (f_i4 hi hn h4)) (qm (by decide) (by decide)) rfl rfl w_485 w_487 ws_H_checkLetter w_488 w_1 ⟨by decide, by decide, (by decide +kernel : (parseMethodDescriptor y_H_checkLetter.desc).map (fun d => d.parameters.length) = some 1)⟩ ⟨by decide, by decide⟩ ⟨by decide, by decide⟩ rfl (Nat.le_of_ble_eq_true rfl) d_H_deliver_2 ?_
  refine gq_aload_n C d_H_deliver_5 rfl ?_
  refine gq_get C (g := 0) (j := 0) (ci := 7) (k := 5) (v := .ref (al Z 12 0)) (qm (by decide) (by decide)) rfl rfl in_H (by decide) w_208 rfl d_H_deliver_6 ?_
  refine gq_get C (g := 12) (j := 0) (ci := 3) (k := 0) (v := .ref (al Z 13 0)) (qm (by decide) (by decide)) rfl rfl in_R (by decide) w_159 rfl d_H_deliver_9 ?_
  refine gq_iload_n C d_H_deliver_12 rfl ?_
  refine gq_iald C (g := 13) (j := 0) (a := i) (t0 := 0) (qm (by decide) (by decide)) rfl rfl rfl (Nat.lt_of_lt_of_le hi hn) (by decide) d_H_deliver_13 ?_
  refine gq_istore_n C (lo' := [(2, .int (V 13 0 i)), (0, .ref (al Z 0 0)), (1, .int (nI i))]) d_H_deliver_14 rfl (by decide) rfl ?_
  refine gq_aload_n C d_H_deliver_15 rfl ?_
  refine gq_get C (g := 0) (j := 0) (ci := 7) (k := 5) (v := .ref (al Z 12 0)) (qm (by decide) (by decide)) rfl rfl in_H (by decide) w_208 rfl d_H_deliver_16 ?_
  refine gq_get C (g := 12) (j := 0) (ci := 3) (k := 1) (v := .ref (al Z 13 1)) (qm (by decide) (by decide)) rfl rfl in_R (by decide) w_161 rfl d_H_deliver_19 ?_
  refine gq_iload_n C d_H_deliver_22 rfl ?_
  refine gq_iald C (g := 13) (j := 1) (a := i) (t0 := 0) (qm (by decide) (by decide)) rfl rfl rfl (Nat.lt_of_lt_of_le hi hn) (by decide) d_H_deliver_23 ?_
  refine gq_istore_n C (lo' := [(3, .int (V 13 1 i)), (2, .int (V 13 0 i)), (0, .ref (al Z 0 0)), (1, .int (nI i))]) d_H_deliver_24 rfl (by decide) rfl ?_
  refine gq_aload_n C d_H_deliver_25 rfl ?_
  refine gq_get C (g := 0) (j := 0) (ci := 7) (k := 5) (v := .ref (al Z 12 0)) (qm (by decide) (by decide)) rfl rfl in_H (by decide) w_208 rfl d_H_deliver_26 ?_
  refine gq_get C (g := 12) (j := 0) (ci := 3) (k := 2) (v := .ref (al Z 13 2)) (qm (by decide) (by decide)) rfl rfl in_R (by decide) w_163 rfl d_H_deliver_29 ?_
  refine gq_iload_n C d_H_deliver_32 rfl ?_
  refine gq_iald C (g := 13) (j := 2) (a := i) (t0 := 0) (qm (by decide) (by decide)) rfl rfl rfl (Nat.lt_of_lt_of_le hi hn) (by decide) d_H_deliver_33 ?_
  refine gq_istore C (lo' := [(4, .int (V 13 2 i)), (3, .int (V 13 1 i)), (2, .int (V 13 0 i)), (0, .ref (al Z 0 0)), (1, .int (nI i))]) d_H_deliver_34 (by decide) rfl ?_
  refine gq_aload_n C d_H_deliver_36 rfl ?_
  refine gq_get C (g := 0) (j := 0) (ci := 7) (k := 5) (v := .ref (al Z 12 0)) (qm (by decide) (by decide)) rfl rfl in_H (by decide) w_208 rfl d_H_deliver_37 ?_
  refine gq_get C (g := 12) (j := 0) (ci := 3) (k := 3) (v := .ref (al Z 13 3)) (qm (by decide) (by decide)) rfl rfl in_R (by decide) w_165 rfl d_H_deliver_40 ?_
  refine gq_iload_n C d_H_deliver_43 rfl ?_
  refine gq_iald C (g := 13) (j := 3) (a := i) (t0 := 0) (qm (by decide) (by decide)) rfl rfl rfl (Nat.lt_of_lt_of_le hi hn) (by decide) d_H_deliver_44 ?_
  refine gq_istore C (lo' := [(5, .int (V 13 3 i)), (4, .int (V 13 2 i)), (3, .int (V 13 1 i)), (2, .int (V 13 0 i)), (0, .ref (al Z 0 0)), (1, .int (nI i))]) d_H_deliver_45 (by decide) rfl ?_
  refine gq_aload_n C d_H_deliver_47 rfl ?_
  refine gq_get C (g := 0) (j := 0) (ci := 7) (k := 5) (v := .ref (al Z 12 0)) (qm (by decide) (by decide)) rfl rfl in_H (by decide) w_208 rfl d_H_deliver_48 ?_
  refine gq_iload_n C d_H_deliver_51 rfl ?_
  refine gq_callV C (st := []) (fun _ h => h) (c_R_takeOut l Z hZ _ _ i n hi hn h4 (f_beh hi hn h4)) (qm (by decide) (by decide)) rfl rfl w_504 w_505 w_506 w_507 w_7 ⟨by decide, by decide, (by decide +kernel : (parseMethodDescriptor y_R_takeOut.desc).map (fun d => d.parameters.length) = some 1)⟩ ⟨by decide, by decide⟩ ⟨by decide, by decide⟩ rfl (Nat.le_of_ble_eq_true rfl) d_H_deliver_52 ?_
  refine gq_iload_n C d_H_deliver_55 rfl ?_
  refine gq_if_ne C (tgt := 73) d_H_deliver_56 rfl (fun hb56 => ?_) (fun hb => by exact absurd hb (by rw [hk]; decide))
  refine gq_iload_n C d_H_deliver_73 rfl ?_
  refine gq_iconst C (v := 2) d_H_deliver_74 (by decide) ?_
  refine gq_icmp_ne C (tgt := 94) d_H_deliver_75 rfl (fun hb => by first | contradiction | contradiction) (fun hb75 => ?_)
  refine gq_aload_n C d_H_deliver_78 rfl ?_
  refine gq_get C (g := 0) (j := 0) (ci := 7) (k := 3) (v := .ref (al Z 6 0)) (qm (by decide) (by decide)) rfl rfl in_H (by decide) w_206 rfl d_H_deliver_79 ?_
  refine gq_iload_n C d_H_deliver_82 rfl ?_
  refine gq_aald C (g := 6) (j := 0) (a := t) (t0 := 4) (b := al Z 7 t) (qm (by decide) (by decide)) rfl rfl h1 ht (by decide) rfl d_H_deliver_83 ?_
  refine gq_iload C d_H_deliver_84 rfl ?_
  refine gq_iload C d_H_deliver_86 rfl ?_
  refine gq_callV C (st := []) (fun _ h => h) (c_T_takeGrant l Z hZ _ _ t ht (V 13 3 i) (V 13 2 i)) (qm (by decide) ht) rfl rfl w_513 w_514 w_515 w_516 w_3 ⟨by decide, by decide, (by decide +kernel : (parseMethodDescriptor y_T_takeGrant.desc).map (fun d => d.parameters.length) = some 2)⟩ ⟨by decide, by decide⟩ ⟨by decide, by decide⟩ rfl (Nat.le_of_ble_eq_true rfl) d_H_deliver_88 ?_
  refine gq_goto C (tgt := 104) d_H_deliver_91 rfl ?_
  exact gq_vret C hr (by decide) (by decide) d_H_deliver_104

theorem f_cnt3 {V : qV} {i n : Nat} (hi : i < n) (hn : n ≤ 40) (h4 : V 12 0 4 = nI n) : ∃ q, q ≤ 40 ∧ f_takeOut V i n 12 0 4 = nI q := by
  refine ⟨n - 1, by omega, ?_⟩
  unfold f_takeOut
  rw [qv_at, if_pos ⟨rfl, rfl, rfl⟩, show (1 : Int32) = nI 1 from rfl, pk_sub (by omega)]

set_option maxHeartbeats 4000000 in
set_option maxRecDepth 100000 in
theorem c_H_deliver1 (l : Launch) (Z : qZ) (hZ : qok (pX Z)) (V : qV) (Y : qY) (i n : Nat) (hi : i < n) (hn : n ≤ 40) (h4 : V 12 0 4 = nI n) (t : Nat) (ht : t < 4) (h1 : V 13 1 i = nI t) (hk : V 13 0 i = 1) : CT l y_H_deliver { frames := 7, cells := 0, slots := 0, locals := 129 } (pX Z) (qA (pX Z)) [.ref (al Z 0 0), .int (nI i)] V Y (.inl none) (f_bring1 (f_takeOut V i n) t (V 13 3 i)) Y := by
  refine CT.of (cc := b_H_deliver) (maxL := 6) (ret := none) hZ (by decide) w_484 (Nat.le_of_ble_eq_true rfl) ?_
  intro p e s m below meth c C hr hex hlt
  refine gq_aload_n C d_H_deliver_0 rfl ?_
  refine gq_iload_n C d_H_deliver_1 rfl ?_
  refine gq_callV C (st := []) (fun _ h => h.elim) (c_H_checkLetter l Z hZ _ _ (nI i) (f_i0 hi hn) (f_i4 hi hn h4)) (qm (by decide) (by decide)) rfl rfl w_485 w_487 ws_H_checkLetter w_488 w_1 ⟨by decide, by decide, (by decide +kernel : (parseMethodDescriptor y_H_checkLetter.desc).map (fun d => d.parameters.length) = some 1)⟩ ⟨by decide, by decide⟩ ⟨by decide, by decide⟩ rfl (Nat.le_of_ble_eq_true rfl) d_H_deliver_2 ?_
  refine gq_aload_n C d_H_deliver_5 rfl ?_
  refine gq_get C (g := 0) (j := 0) (ci := 7) (k := 5) (v := .ref (al Z 12 0)) (qm (by decide) (by decide)) rfl rfl in_H (by decide) w_208 rfl d_H_deliver_6 ?_
  refine gq_get C (g := 12) (j := 0) (ci := 3) (k := 0) (v := .ref (al Z 13 0)) (qm (by decide) (by decide)) rfl rfl in_R (by decide) w_159 rfl d_H_deliver_9 ?_
  refine gq_iload_n C d_H_deliver_12 rfl ?_
  refine gq_iald C (g := 13) (j := 0) (a := i) (t0 := 0) (qm (by decide) (by decide)) rfl rfl rfl (Nat.lt_of_lt_of_le hi hn) (by decide) d_H_deliver_13 ?_
  refine gq_istore_n C (lo' := [(2, .int (V 13 0 i)), (0, .ref (al Z 0 0)), (1, .int (nI i))]) d_H_deliver_14 rfl (by decide) rfl ?_
  refine gq_aload_n C d_H_deliver_15 rfl ?_
  refine gq_get C (g := 0) (j := 0) (ci := 7) (k := 5) (v := .ref (al Z 12 0)) (qm (by decide) (by decide)) rfl rfl in_H (by decide) w_208 rfl d_H_deliver_16 ?_
  refine gq_get C (g := 12) (j := 0) (ci := 3) (k := 1) (v := .ref (al Z 13 1)) (qm (by decide) (by decide)) rfl rfl in_R (by decide) w_161 rfl d_H_deliver_19 ?_
  refine gq_iload_n C d_H_deliver_22 rfl ?_
  refine gq_iald C (g := 13) (j := 1) (a := i) (t0 := 0) (qm (by decide) (by decide)) rfl rfl rfl (Nat.lt_of_lt_of_le hi hn) (by decide) d_H_deliver_23 ?_
  refine gq_istore_n C (lo' := [(3, .int (V 13 1 i)), (2, .int (V 13 0 i)), (0, .ref (al Z 0 0)), (1, .int (nI i))]) d_H_deliver_24 rfl (by decide) rfl ?_
  refine gq_aload_n C d_H_deliver_25 rfl ?_
  refine gq_get C (g := 0) (j := 0) (ci := 7) (k := 5) (v := .ref (al Z 12 0)) (qm (by decide) (by decide)) rfl rfl in_H (by decide) w_208 rfl d_H_deliver_26 ?_
  refine gq_get C (g := 12) (j := 0) (ci := 3) (k := 2) (v := .ref (al Z 13 2)) (qm (by decide) (by decide)) rfl rfl in_R (by decide) w_163 rfl d_H_deliver_29 ?_
  refine gq_iload_n C d_H_deliver_32 rfl ?_
  refine gq_iald C (g := 13) (j := 2) (a := i) (t0 := 0) (qm (by decide) (by decide)) rfl rfl rfl (Nat.lt_of_lt_of_le hi hn) (by decide) d_H_deliver_33 ?_
  refine gq_istore C (lo' := [(4, .int (V 13 2 i)), (3, .int (V 13 1 i)), (2, .int (V 13 0 i)), (0, .ref (al Z 0 0)), (1, .int (nI i))]) d_H_deliver_34 (by decide) rfl ?_
  refine gq_aload_n C d_H_deliver_36 rfl ?_
  refine gq_get C (g := 0) (j := 0) (ci := 7) (k := 5) (v := .ref (al Z 12 0)) (qm (by decide) (by decide)) rfl rfl in_H (by decide) w_208 rfl d_H_deliver_37 ?_
  refine gq_get C (g := 12) (j := 0) (ci := 3) (k := 3) (v := .ref (al Z 13 3)) (qm (by decide) (by decide)) rfl rfl in_R (by decide) w_165 rfl d_H_deliver_40 ?_
  refine gq_iload_n C d_H_deliver_43 rfl ?_
  refine gq_iald C (g := 13) (j := 3) (a := i) (t0 := 0) (qm (by decide) (by decide)) rfl rfl rfl (Nat.lt_of_lt_of_le hi hn) (by decide) d_H_deliver_44 ?_
  refine gq_istore C (lo' := [(5, .int (V 13 3 i)), (4, .int (V 13 2 i)), (3, .int (V 13 1 i)), (2, .int (V 13 0 i)), (0, .ref (al Z 0 0)), (1, .int (nI i))]) d_H_deliver_45 (by decide) rfl ?_
  refine gq_aload_n C d_H_deliver_47 rfl ?_
  refine gq_get C (g := 0) (j := 0) (ci := 7) (k := 5) (v := .ref (al Z 12 0)) (qm (by decide) (by decide)) rfl rfl in_H (by decide) w_208 rfl d_H_deliver_48 ?_
  refine gq_iload_n C d_H_deliver_51 rfl ?_
  refine gq_callV C (st := []) (fun _ h => h) (c_R_takeOut l Z hZ _ _ i n hi hn h4 (f_beh hi hn h4)) (qm (by decide) (by decide)) rfl rfl w_504 w_505 w_506 w_507 w_7 ⟨by decide, by decide, (by decide +kernel : (parseMethodDescriptor y_R_takeOut.desc).map (fun d => d.parameters.length) = some 1)⟩ ⟨by decide, by decide⟩ ⟨by decide, by decide⟩ rfl (Nat.le_of_ble_eq_true rfl) d_H_deliver_52 ?_
  refine gq_iload_n C d_H_deliver_55 rfl ?_
  refine gq_if_ne C (tgt := 73) d_H_deliver_56 rfl (fun hb56 => ?_) (fun hb => by exact absurd hb (by rw [hk]; decide))
  refine gq_iload_n C d_H_deliver_73 rfl ?_
  refine gq_iconst C (v := 2) d_H_deliver_74 (by decide) ?_
  refine gq_icmp_ne C (tgt := 94) d_H_deliver_75 rfl (fun hb75 => ?_) (fun hb => by exact absurd hb (by rw [hk]; decide))
  refine gq_aload_n C d_H_deliver_94 rfl ?_
  refine gq_iload_n C d_H_deliver_95 rfl ?_
  refine gq_iload_n C d_H_deliver_96 rfl ?_
  refine gq_iload C d_H_deliver_97 rfl ?_
  refine gq_iload C d_H_deliver_99 rfl ?_
  refine gq_callV C (st := []) (fun _ h => h) (c_H_bring1e l Z hZ _ _ t ht _ _ (f_cnt3 hi hn h4) _ _ hk h1) (qm (by decide) (by decide)) rfl rfl w_517 w_519 ws_H_bringToDesk w_520 w_1 ⟨by decide, by decide, (by decide +kernel : (parseMethodDescriptor y_H_bringToDesk.desc).map (fun d => d.parameters.length) = some 4)⟩ ⟨by decide, by decide⟩ ⟨by decide, by decide⟩ rfl (Nat.le_of_ble_eq_true rfl) d_H_deliver_101 ?_
  exact gq_vret C hr (by decide) (by decide) d_H_deliver_104

set_option maxHeartbeats 4000000 in
set_option maxRecDepth 100000 in
theorem c_H_deliver3 (l : Launch) (Z : qZ) (hZ : qok (pX Z)) (V : qV) (Y : qY) (i n : Nat) (hi : i < n) (hn : n ≤ 40) (h4 : V 12 0 4 = nI n) (t : Nat) (ht : t < 4) (h1 : V 13 1 i = nI t) (hk : V 13 0 i = 3) : CT l y_H_deliver { frames := 7, cells := 0, slots := 0, locals := 129 } (pX Z) (qA (pX Z)) [.ref (al Z 0 0), .int (nI i)] V Y (.inl none) (f_bring3 (f_takeOut V i n) t (V 13 2 i)) Y := by
  refine CT.of (cc := b_H_deliver) (maxL := 6) (ret := none) hZ (by decide) w_484 (Nat.le_of_ble_eq_true rfl) ?_
  intro p e s m below meth c C hr hex hlt
  refine gq_aload_n C d_H_deliver_0 rfl ?_
  refine gq_iload_n C d_H_deliver_1 rfl ?_
  refine gq_callV C (st := []) (fun _ h => h.elim) (c_H_checkLetter l Z hZ _ _ (nI i) (f_i0 hi hn) (f_i4 hi hn h4)) (qm (by decide) (by decide)) rfl rfl w_485 w_487 ws_H_checkLetter w_488 w_1 ⟨by decide, by decide, (by decide +kernel : (parseMethodDescriptor y_H_checkLetter.desc).map (fun d => d.parameters.length) = some 1)⟩ ⟨by decide, by decide⟩ ⟨by decide, by decide⟩ rfl (Nat.le_of_ble_eq_true rfl) d_H_deliver_2 ?_
  refine gq_aload_n C d_H_deliver_5 rfl ?_
  refine gq_get C (g := 0) (j := 0) (ci := 7) (k := 5) (v := .ref (al Z 12 0)) (qm (by decide) (by decide)) rfl rfl in_H (by decide) w_208 rfl d_H_deliver_6 ?_
  refine gq_get C (g := 12) (j := 0) (ci := 3) (k := 0) (v := .ref (al Z 13 0)) (qm (by decide) (by decide)) rfl rfl in_R (by decide) w_159 rfl d_H_deliver_9 ?_
  refine gq_iload_n C d_H_deliver_12 rfl ?_
  refine gq_iald C (g := 13) (j := 0) (a := i) (t0 := 0) (qm (by decide) (by decide)) rfl rfl rfl (Nat.lt_of_lt_of_le hi hn) (by decide) d_H_deliver_13 ?_
  refine gq_istore_n C (lo' := [(2, .int (V 13 0 i)), (0, .ref (al Z 0 0)), (1, .int (nI i))]) d_H_deliver_14 rfl (by decide) rfl ?_
  refine gq_aload_n C d_H_deliver_15 rfl ?_
  refine gq_get C (g := 0) (j := 0) (ci := 7) (k := 5) (v := .ref (al Z 12 0)) (qm (by decide) (by decide)) rfl rfl in_H (by decide) w_208 rfl d_H_deliver_16 ?_
  refine gq_get C (g := 12) (j := 0) (ci := 3) (k := 1) (v := .ref (al Z 13 1)) (qm (by decide) (by decide)) rfl rfl in_R (by decide) w_161 rfl d_H_deliver_19 ?_
  refine gq_iload_n C d_H_deliver_22 rfl ?_
  refine gq_iald C (g := 13) (j := 1) (a := i) (t0 := 0) (qm (by decide) (by decide)) rfl rfl rfl (Nat.lt_of_lt_of_le hi hn) (by decide) d_H_deliver_23 ?_
  refine gq_istore_n C (lo' := [(3, .int (V 13 1 i)), (2, .int (V 13 0 i)), (0, .ref (al Z 0 0)), (1, .int (nI i))]) d_H_deliver_24 rfl (by decide) rfl ?_
  refine gq_aload_n C d_H_deliver_25 rfl ?_
  refine gq_get C (g := 0) (j := 0) (ci := 7) (k := 5) (v := .ref (al Z 12 0)) (qm (by decide) (by decide)) rfl rfl in_H (by decide) w_208 rfl d_H_deliver_26 ?_
  refine gq_get C (g := 12) (j := 0) (ci := 3) (k := 2) (v := .ref (al Z 13 2)) (qm (by decide) (by decide)) rfl rfl in_R (by decide) w_163 rfl d_H_deliver_29 ?_
  refine gq_iload_n C d_H_deliver_32 rfl ?_
  refine gq_iald C (g := 13) (j := 2) (a := i) (t0 := 0) (qm (by decide) (by decide)) rfl rfl rfl (Nat.lt_of_lt_of_le hi hn) (by decide) d_H_deliver_33 ?_
  refine gq_istore C (lo' := [(4, .int (V 13 2 i)), (3, .int (V 13 1 i)), (2, .int (V 13 0 i)), (0, .ref (al Z 0 0)), (1, .int (nI i))]) d_H_deliver_34 (by decide) rfl ?_
  refine gq_aload_n C d_H_deliver_36 rfl ?_
  refine gq_get C (g := 0) (j := 0) (ci := 7) (k := 5) (v := .ref (al Z 12 0)) (qm (by decide) (by decide)) rfl rfl in_H (by decide) w_208 rfl d_H_deliver_37 ?_
  refine gq_get C (g := 12) (j := 0) (ci := 3) (k := 3) (v := .ref (al Z 13 3)) (qm (by decide) (by decide)) rfl rfl in_R (by decide) w_165 rfl d_H_deliver_40 ?_
  refine gq_iload_n C d_H_deliver_43 rfl ?_
  refine gq_iald C (g := 13) (j := 3) (a := i) (t0 := 0) (qm (by decide) (by decide)) rfl rfl rfl (Nat.lt_of_lt_of_le hi hn) (by decide) d_H_deliver_44 ?_
  refine gq_istore C (lo' := [(5, .int (V 13 3 i)), (4, .int (V 13 2 i)), (3, .int (V 13 1 i)), (2, .int (V 13 0 i)), (0, .ref (al Z 0 0)), (1, .int (nI i))]) d_H_deliver_45 (by decide) rfl ?_
  refine gq_aload_n C d_H_deliver_47 rfl ?_
  refine gq_get C (g := 0) (j := 0) (ci := 7) (k := 5) (v := .ref (al Z 12 0)) (qm (by decide) (by decide)) rfl rfl in_H (by decide) w_208 rfl d_H_deliver_48 ?_
  refine gq_iload_n C d_H_deliver_51 rfl ?_
  refine gq_callV C (st := []) (fun _ h => h) (c_R_takeOut l Z hZ _ _ i n hi hn h4 (f_beh hi hn h4)) (qm (by decide) (by decide)) rfl rfl w_504 w_505 w_506 w_507 w_7 ⟨by decide, by decide, (by decide +kernel : (parseMethodDescriptor y_R_takeOut.desc).map (fun d => d.parameters.length) = some 1)⟩ ⟨by decide, by decide⟩ ⟨by decide, by decide⟩ rfl (Nat.le_of_ble_eq_true rfl) d_H_deliver_52 ?_
  refine gq_iload_n C d_H_deliver_55 rfl ?_
  refine gq_if_ne C (tgt := 73) d_H_deliver_56 rfl (fun hb56 => ?_) (fun hb => by exact absurd hb (by rw [hk]; decide))
  refine gq_iload_n C d_H_deliver_73 rfl ?_
  refine gq_iconst C (v := 2) d_H_deliver_74 (by decide) ?_
  refine gq_icmp_ne C (tgt := 94) d_H_deliver_75 rfl (fun hb75 => ?_) (fun hb => by exact absurd hb (by rw [hk]; decide))
  refine gq_aload_n C d_H_deliver_94 rfl ?_
  refine gq_iload_n C d_H_deliver_95 rfl ?_
  refine gq_iload_n C d_H_deliver_96 rfl ?_
  refine gq_iload C d_H_deliver_97 rfl ?_
  refine gq_iload C d_H_deliver_99 rfl ?_
  refine gq_callV C (st := []) (fun _ h => h) (c_H_bring3e l Z hZ _ _ t ht _ _ _ _ hk h1) (qm (by decide) (by decide)) rfl rfl w_517 w_519 ws_H_bringToDesk w_520 w_1 ⟨by decide, by decide, (by decide +kernel : (parseMethodDescriptor y_H_bringToDesk.desc).map (fun d => d.parameters.length) = some 4)⟩ ⟨by decide, by decide⟩ ⟨by decide, by decide⟩ rfl (Nat.le_of_ble_eq_true rfl) d_H_deliver_101 ?_
  exact gq_vret C hr (by decide) (by decide) d_H_deliver_104

set_option maxHeartbeats 4000000 in
set_option maxRecDepth 100000 in
theorem c_H_deliver4 (l : Launch) (Z : qZ) (hZ : qok (pX Z)) (V : qV) (Y : qY) (i n : Nat) (hi : i < n) (hn : n ≤ 40) (h4 : V 12 0 4 = nI n) (t : Nat) (ht : t < 4) (h1 : V 13 1 i = nI t) (hk : V 13 0 i = 4) : CT l y_H_deliver { frames := 7, cells := 0, slots := 0, locals := 129 } (pX Z) (qA (pX Z)) [.ref (al Z 0 0), .int (nI i)] V Y (.inl none) (f_bring4 (f_takeOut V i n) t (V 13 3 i)) Y := by
  refine CT.of (cc := b_H_deliver) (maxL := 6) (ret := none) hZ (by decide) w_484 (Nat.le_of_ble_eq_true rfl) ?_
  intro p e s m below meth c C hr hex hlt
  refine gq_aload_n C d_H_deliver_0 rfl ?_
  refine gq_iload_n C d_H_deliver_1 rfl ?_
  refine gq_callV C (st := []) (fun _ h => h.elim) (c_H_checkLetter l Z hZ _ _ (nI i) (f_i0 hi hn) (f_i4 hi hn h4)) (qm (by decide) (by decide)) rfl rfl w_485 w_487 ws_H_checkLetter w_488 w_1 ⟨by decide, by decide, (by decide +kernel : (parseMethodDescriptor y_H_checkLetter.desc).map (fun d => d.parameters.length) = some 1)⟩ ⟨by decide, by decide⟩ ⟨by decide, by decide⟩ rfl (Nat.le_of_ble_eq_true rfl) d_H_deliver_2 ?_
  refine gq_aload_n C d_H_deliver_5 rfl ?_
  refine gq_get C (g := 0) (j := 0) (ci := 7) (k := 5) (v := .ref (al Z 12 0)) (qm (by decide) (by decide)) rfl rfl in_H (by decide) w_208 rfl d_H_deliver_6 ?_
  refine gq_get C (g := 12) (j := 0) (ci := 3) (k := 0) (v := .ref (al Z 13 0)) (qm (by decide) (by decide)) rfl rfl in_R (by decide) w_159 rfl d_H_deliver_9 ?_
  refine gq_iload_n C d_H_deliver_12 rfl ?_
  refine gq_iald C (g := 13) (j := 0) (a := i) (t0 := 0) (qm (by decide) (by decide)) rfl rfl rfl (Nat.lt_of_lt_of_le hi hn) (by decide) d_H_deliver_13 ?_
  refine gq_istore_n C (lo' := [(2, .int (V 13 0 i)), (0, .ref (al Z 0 0)), (1, .int (nI i))]) d_H_deliver_14 rfl (by decide) rfl ?_
  refine gq_aload_n C d_H_deliver_15 rfl ?_
  refine gq_get C (g := 0) (j := 0) (ci := 7) (k := 5) (v := .ref (al Z 12 0)) (qm (by decide) (by decide)) rfl rfl in_H (by decide) w_208 rfl d_H_deliver_16 ?_
  refine gq_get C (g := 12) (j := 0) (ci := 3) (k := 1) (v := .ref (al Z 13 1)) (qm (by decide) (by decide)) rfl rfl in_R (by decide) w_161 rfl d_H_deliver_19 ?_
  refine gq_iload_n C d_H_deliver_22 rfl ?_
  refine gq_iald C (g := 13) (j := 1) (a := i) (t0 := 0) (qm (by decide) (by decide)) rfl rfl rfl (Nat.lt_of_lt_of_le hi hn) (by decide) d_H_deliver_23 ?_
  refine gq_istore_n C (lo' := [(3, .int (V 13 1 i)), (2, .int (V 13 0 i)), (0, .ref (al Z 0 0)), (1, .int (nI i))]) d_H_deliver_24 rfl (by decide) rfl ?_
  refine gq_aload_n C d_H_deliver_25 rfl ?_
  refine gq_get C (g := 0) (j := 0) (ci := 7) (k := 5) (v := .ref (al Z 12 0)) (qm (by decide) (by decide)) rfl rfl in_H (by decide) w_208 rfl d_H_deliver_26 ?_
  refine gq_get C (g := 12) (j := 0) (ci := 3) (k := 2) (v := .ref (al Z 13 2)) (qm (by decide) (by decide)) rfl rfl in_R (by decide) w_163 rfl d_H_deliver_29 ?_
  refine gq_iload_n C d_H_deliver_32 rfl ?_
  refine gq_iald C (g := 13) (j := 2) (a := i) (t0 := 0) (qm (by decide) (by decide)) rfl rfl rfl (Nat.lt_of_lt_of_le hi hn) (by decide) d_H_deliver_33 ?_
  refine gq_istore C (lo' := [(4, .int (V 13 2 i)), (3, .int (V 13 1 i)), (2, .int (V 13 0 i)), (0, .ref (al Z 0 0)), (1, .int (nI i))]) d_H_deliver_34 (by decide) rfl ?_
  refine gq_aload_n C d_H_deliver_36 rfl ?_
  refine gq_get C (g := 0) (j := 0) (ci := 7) (k := 5) (v := .ref (al Z 12 0)) (qm (by decide) (by decide)) rfl rfl in_H (by decide) w_208 rfl d_H_deliver_37 ?_
  refine gq_get C (g := 12) (j := 0) (ci := 3) (k := 3) (v := .ref (al Z 13 3)) (qm (by decide) (by decide)) rfl rfl in_R (by decide) w_165 rfl d_H_deliver_40 ?_
  refine gq_iload_n C d_H_deliver_43 rfl ?_
  refine gq_iald C (g := 13) (j := 3) (a := i) (t0 := 0) (qm (by decide) (by decide)) rfl rfl rfl (Nat.lt_of_lt_of_le hi hn) (by decide) d_H_deliver_44 ?_
  refine gq_istore C (lo' := [(5, .int (V 13 3 i)), (4, .int (V 13 2 i)), (3, .int (V 13 1 i)), (2, .int (V 13 0 i)), (0, .ref (al Z 0 0)), (1, .int (nI i))]) d_H_deliver_45 (by decide) rfl ?_
  refine gq_aload_n C d_H_deliver_47 rfl ?_
  refine gq_get C (g := 0) (j := 0) (ci := 7) (k := 5) (v := .ref (al Z 12 0)) (qm (by decide) (by decide)) rfl rfl in_H (by decide) w_208 rfl d_H_deliver_48 ?_
  refine gq_iload_n C d_H_deliver_51 rfl ?_
  refine gq_callV C (st := []) (fun _ h => h) (c_R_takeOut l Z hZ _ _ i n hi hn h4 (f_beh hi hn h4)) (qm (by decide) (by decide)) rfl rfl w_504 w_505 w_506 w_507 w_7 ⟨by decide, by decide, (by decide +kernel : (parseMethodDescriptor y_R_takeOut.desc).map (fun d => d.parameters.length) = some 1)⟩ ⟨by decide, by decide⟩ ⟨by decide, by decide⟩ rfl (Nat.le_of_ble_eq_true rfl) d_H_deliver_52 ?_
  refine gq_iload_n C d_H_deliver_55 rfl ?_
  refine gq_if_ne C (tgt := 73) d_H_deliver_56 rfl (fun hb56 => ?_) (fun hb => by exact absurd hb (by rw [hk]; decide))
  refine gq_iload_n C d_H_deliver_73 rfl ?_
  refine gq_iconst C (v := 2) d_H_deliver_74 (by decide) ?_
  refine gq_icmp_ne C (tgt := 94) d_H_deliver_75 rfl (fun hb75 => ?_) (fun hb => by exact absurd hb (by rw [hk]; decide))
  refine gq_aload_n C d_H_deliver_94 rfl ?_
  refine gq_iload_n C d_H_deliver_95 rfl ?_
  refine gq_iload_n C d_H_deliver_96 rfl ?_
  refine gq_iload C d_H_deliver_97 rfl ?_
  refine gq_iload C d_H_deliver_99 rfl ?_
  refine gq_callV C (st := []) (fun _ h => h) (c_H_bring4e l Z hZ _ _ t ht _ _ _ _ hk h1) (qm (by decide) (by decide)) rfl rfl w_517 w_519 ws_H_bringToDesk w_520 w_1 ⟨by decide, by decide, (by decide +kernel : (parseMethodDescriptor y_H_bringToDesk.desc).map (fun d => d.parameters.length) = some 4)⟩ ⟨by decide, by decide⟩ ⟨by decide, by decide⟩ rfl (Nat.le_of_ble_eq_true rfl) d_H_deliver_101 ?_
  exact gq_vret C hr (by decide) (by decide) d_H_deliver_104

set_option maxHeartbeats 4000000 in
set_option maxRecDepth 100000 in
theorem c_H_open (l : Launch) (Z : qZ) (hZ : qok (pX Z)) (V : qV) (Y : qY) (t : Nat) (ht : t < 4) (k : Nat) (hk : k < 40) (h7 : V 0 0 7 = nI k) (h0 : ¬ f_lease V t = 0) (h1 : ¬ 3 ≤ V 7 t 7) : CT l y_H_open { frames := 7, cells := 0, slots := 0, locals := 116 } (pX Z) (qA (pX Z)) [.ref (al Z 0 0), .int (nI t)] V Y (.inl (some (.int (V 0 0 7)))) (qv (qv (qv (qv (qv V 0 0 7 ((V 0 0 7) + 1)) 15 k 0 (nI t)) 15 k 1 (f_lease V t)) 15 k 2 1) 7 t 7 ((V 7 t 7) + 1)) Y := by
  refine CT.of (cc := b_H_open) (maxL := 4) (ret := (some .int)) hZ (by decide) w_572 (Nat.le_of_ble_eq_true rfl) ?_
  intro p e s m below meth c C hr hex hlt
  refine gq_iload_n C d_H_open_0 rfl ?_
  refine gq_callS C (st := []) (fun _ h => h.elim) (c_H_checkTill l Z hZ _ _ (nI t) (f_t0 ht) (f_t4 ht)) w_426 w_427 w_428 w_1 ⟨by decide, by decide, (by decide +kernel : (parseMethodDescriptor y_H_checkTill.desc).map (fun d => d.parameters.length) = some 1)⟩ ⟨by decide, by decide⟩ ⟨by decide, by decide⟩ rfl (Nat.le_of_ble_eq_true rfl) d_H_open_1 ?_
  refine gq_aload_n C d_H_open_4 rfl ?_
  refine gq_get C (g := 0) (j := 0) (ci := 7) (k := 3) (v := .ref (al Z 6 0)) (qm (by decide) (by decide)) rfl rfl in_H (by decide) w_206 rfl d_H_open_5 ?_
  refine gq_iload_n C d_H_open_8 rfl ?_
  refine gq_aald C (g := 6) (j := 0) (a := t) (t0 := 4) (b := al Z 7 t) (qm (by decide) (by decide)) rfl rfl rfl ht (by decide) rfl d_H_open_9 ?_
  refine gq_callV C (st := []) (fun _ h => h.elim) (c_T_validLease l Z hZ _ _ t ht) (qm (by decide) ht) rfl rfl w_466 w_467 w_468 w_469 w_3 ⟨by decide, by decide, (by decide +kernel : (parseMethodDescriptor y_T_validLease.desc).map (fun d => d.parameters.length) = some 0)⟩ ⟨by decide, by decide⟩ ⟨by decide, by decide⟩ rfl (Nat.le_of_ble_eq_true rfl) d_H_open_10 ?_
  refine gq_istore_n C (lo' := [(2, .int (f_lease V t)), (0, .ref (al Z 0 0)), (1, .int (nI t))]) d_H_open_13 rfl (by decide) rfl ?_
  refine gq_iload_n C d_H_open_14 rfl ?_
  refine gq_if_eq C (tgt := 40) d_H_open_15 rfl (fun hb => by first | contradiction | contradiction) (fun hb15 => ?_)
  refine gq_aload_n C d_H_open_18 rfl ?_
  refine gq_get C (g := 0) (j := 0) (ci := 7) (k := 3) (v := .ref (al Z 6 0)) (qm (by decide) (by decide)) rfl rfl in_H (by decide) w_206 rfl d_H_open_19 ?_
  refine gq_iload_n C d_H_open_22 rfl ?_
  refine gq_aald C (g := 6) (j := 0) (a := t) (t0 := 4) (b := al Z 7 t) (qm (by decide) (by decide)) rfl rfl rfl ht (by decide) rfl d_H_open_23 ?_
  refine gq_get C (g := 7) (j := t) (ci := 6) (k := 7) (v := .int (V 7 t 7)) (qm (by decide) ht) rfl rfl in_T (by decide) w_81 rfl d_H_open_24 ?_
  refine gq_iconst C (v := 3) d_H_open_27 (by decide) ?_
  refine gq_icmp_ge C (tgt := 40) d_H_open_28 rfl (fun hb => by first | contradiction | contradiction) (fun hb28 => ?_)
  refine gq_aload_n C d_H_open_31 rfl ?_
  refine gq_get C (g := 0) (j := 0) (ci := 7) (k := 7) (v := .int (V 0 0 7)) (qm (by decide) (by decide)) rfl rfl in_H (by decide) w_210 rfl d_H_open_32 ?_
  refine gq_bipush C (v := 40) d_H_open_35 (by decide) ?_
  refine gq_icmp_lt C (tgt := 48) d_H_open_37 rfl (fun hb37 => ?_) (fun hb => by exact absurd (by rw [h7]; exact nI_lt (b := 40) hk (by decide)) hb)
  refine gq_aload_n C d_H_open_48 rfl ?_
  refine gq_get C (g := 0) (j := 0) (ci := 7) (k := 7) (v := .int (V 0 0 7)) (qm (by decide) (by decide)) rfl rfl in_H (by decide) w_210 rfl d_H_open_49 ?_
  refine gq_istore_n C (lo' := [(3, .int (V 0 0 7)), (2, .int (f_lease V t)), (0, .ref (al Z 0 0)), (1, .int (nI t))]) d_H_open_52 rfl (by decide) rfl ?_
  refine gq_aload_n C d_H_open_53 rfl ?_
  refine gq_dup C d_H_open_54 rfl ?_
  refine gq_get C (g := 0) (j := 0) (ci := 7) (k := 7) (v := .int (V 0 0 7)) (qm (by decide) (by decide)) rfl rfl in_H (by decide) w_210 rfl d_H_open_55 ?_
  refine gq_iconst C (v := 1) d_H_open_58 (by decide) ?_
  refine gq_iadd C d_H_open_59 ?_
  refine gq_put C (fun _ h => h) (g := 0) (j := 0) (ci := 7) (k := 7) ft_H k_H n_H (qm (by decide) (by decide)) rfl rfl in_H (by decide) w_210 rfl (k_H 7 (by decide)) rfl rfl (Nat.le_of_ble_eq_true rfl) rfl d_H_open_60 ?_
  refine gq_aload_n C d_H_open_63 rfl ?_
  refine gq_get C (g := 0) (j := 0) (ci := 7) (k := 6) (v := .ref (al Z 14 0)) (qm (by decide) (by decide)) rfl rfl in_H (by decide) w_209 rfl d_H_open_64 ?_
  refine gq_iload_n C d_H_open_67 rfl ?_
  refine gq_aald C (g := 14) (j := 0) (a := k) (t0 := 6) (b := al Z 15 k) (qm (by decide) (by decide)) rfl rfl h7 hk (by decide) rfl d_H_open_68 ?_
  refine gq_iload_n C d_H_open_69 rfl ?_
  refine gq_iload_n C d_H_open_70 rfl ?_
  refine gq_callV C (st := []) (fun _ h => h) (c_B_begin l Z hZ _ _ k hk (nI t) (f_lease V t)) (qm (by decide) hk) rfl rfl w_573 w_574 w_575 w_576 w_8 ⟨by decide, by decide, (by decide +kernel : (parseMethodDescriptor y_B_begin.desc).map (fun d => d.parameters.length) = some 2)⟩ ⟨by decide, by decide⟩ ⟨by decide, by decide⟩ rfl (Nat.le_of_ble_eq_true rfl) d_H_open_71 ?_
  refine gq_aload_n C d_H_open_74 rfl ?_
  refine gq_get C (g := 0) (j := 0) (ci := 7) (k := 3) (v := .ref (al Z 6 0)) (qm (by decide) (by decide)) rfl rfl in_H (by decide) w_206 rfl d_H_open_75 ?_
  refine gq_iload_n C d_H_open_78 rfl ?_
  refine gq_aald C (g := 6) (j := 0) (a := t) (t0 := 4) (b := al Z 7 t) (qm (by decide) (by decide)) rfl rfl rfl ht (by decide) rfl d_H_open_79 ?_
  refine gq_dup C d_H_open_80 rfl ?_
  refine gq_get C (g := 7) (j := t) (ci := 6) (k := 7) (v := .int (V 7 t 7)) (qm (by decide) ht) rfl rfl in_T (by decide) w_81 rfl d_H_open_81 ?_
  refine gq_iconst C (v := 1) d_H_open_84 (by decide) ?_
  refine gq_iadd C d_H_open_85 ?_
  refine gq_put C (fun _ h => h) (g := 7) (j := t) (ci := 6) (k := 7) ft_T k_T n_T (qm (by decide) ht) rfl rfl in_T (by decide) w_81 rfl (k_T 7 (by decide)) rfl rfl (Nat.le_of_ble_eq_true rfl) rfl d_H_open_86 ?_
  refine gq_iload_n C d_H_open_89 rfl ?_
  exact gq_iret C hr (by decide) (by decide) d_H_open_90

set_option maxHeartbeats 4000000 in
set_option maxRecDepth 100000 in
theorem c_H_open_x2 (l : Launch) (hadm : ∀ e : Env, l.admits e → e.platform.stackTraces = false) (Z : qZ) (hZ : qok (pX Z)) (V : qV) (Y : qY) (t : Nat) (ht : t < 4) (h : f_lease V t = 0 ∨ 3 ≤ V 7 t 7 ∨ ¬ V 0 0 7 < 40) : CT l y_H_open { frames := 7, cells := 1, slots := 6, locals := 116 } (pX Z) qN [.ref (al Z 0 0), .int (nI t)] V Y (.inr "java/lang/IllegalStateException") V Y := by
  refine CT.of (cc := b_H_open) (maxL := 4) (ret := (some .int)) hZ (by decide) w_572 (Nat.le_of_ble_eq_true rfl) ?_
  intro p e s m below meth c C hr hex hlt
  refine gq_iload_n C d_H_open_0 rfl ?_
  refine gq_callS C (st := []) (fun _ h => h) (c_H_checkTill l Z hZ _ _ (nI t) (f_t0 ht) (f_t4 ht)) w_426 w_427 w_428 w_1 ⟨by decide, by decide, (by decide +kernel : (parseMethodDescriptor y_H_checkTill.desc).map (fun d => d.parameters.length) = some 1)⟩ ⟨by decide, by decide⟩ ⟨by decide, by decide⟩ rfl (Nat.le_of_ble_eq_true rfl) d_H_open_1 ?_
  refine gq_aload_n C d_H_open_4 rfl ?_
  refine gq_get C (g := 0) (j := 0) (ci := 7) (k := 3) (v := .ref (al Z 6 0)) (qm (by decide) (by decide)) rfl rfl in_H (by decide) w_206 rfl d_H_open_5 ?_
  refine gq_iload_n C d_H_open_8 rfl ?_
  refine gq_aald C (g := 6) (j := 0) (a := t) (t0 := 4) (b := al Z 7 t) (qm (by decide) (by decide)) rfl rfl rfl ht (by decide) rfl d_H_open_9 ?_
  refine gq_callV C (st := []) (fun _ h => h) (c_T_validLease l Z hZ _ _ t ht) (qm (by decide) ht) rfl rfl w_466 w_467 w_468 w_469 w_3 ⟨by decide, by decide, (by decide +kernel : (parseMethodDescriptor y_T_validLease.desc).map (fun d => d.parameters.length) = some 0)⟩ ⟨by decide, by decide⟩ ⟨by decide, by decide⟩ rfl (Nat.le_of_ble_eq_true rfl) d_H_open_10 ?_
  refine gq_istore_n C (lo' := [(2, .int (f_lease V t)), (0, .ref (al Z 0 0)), (1, .int (nI t))]) d_H_open_13 rfl (by decide) rfl ?_
  refine gq_iload_n C d_H_open_14 rfl ?_
  refine gq_if_eq C (tgt := 40) d_H_open_15 rfl (fun hb15 => ?_) (fun hb15 => ?_)
  · skip
    exact gq_throw C hadm hex hlt tw_IllegalStateException w_340 w_341 w_14 (by decide) (by decide) (by decide) (by decide) (by decide) (Nat.le_of_ble_eq_true rfl) d_H_open_40 d_H_open_43 d_H_open_44 d_H_open_47
  · skip
    refine gq_aload_n C d_H_open_18 rfl ?_
    refine gq_get C (g := 0) (j := 0) (ci := 7) (k := 3) (v := .ref (al Z 6 0)) (qm (by decide) (by decide)) rfl rfl in_H (by decide) w_206 rfl d_H_open_19 ?_
    refine gq_iload_n C d_H_open_22 rfl ?_
    refine gq_aald C (g := 6) (j := 0) (a := t) (t0 := 4) (b := al Z 7 t) (qm (by decide) (by decide)) rfl rfl rfl ht (by decide) rfl d_H_open_23 ?_
    refine gq_get C (g := 7) (j := t) (ci := 6) (k := 7) (v := .int (V 7 t 7)) (qm (by decide) ht) rfl rfl in_T (by decide) w_81 rfl d_H_open_24 ?_
    refine gq_iconst C (v := 3) d_H_open_27 (by decide) ?_
    refine gq_icmp_ge C (tgt := 40) d_H_open_28 rfl (fun hb28 => ?_) (fun hb28 => ?_)
    · skip
      exact gq_throw C hadm hex hlt tw_IllegalStateException w_340 w_341 w_14 (by decide) (by decide) (by decide) (by decide) (by decide) (Nat.le_of_ble_eq_true rfl) d_H_open_40 d_H_open_43 d_H_open_44 d_H_open_47
    · skip
      refine gq_aload_n C d_H_open_31 rfl ?_
      refine gq_get C (g := 0) (j := 0) (ci := 7) (k := 7) (v := .int (V 0 0 7)) (qm (by decide) (by decide)) rfl rfl in_H (by decide) w_210 rfl d_H_open_32 ?_
      refine gq_bipush C (v := 40) d_H_open_35 (by decide) ?_
      refine gq_icmp_lt C (tgt := 48) d_H_open_37 rfl (fun hb => by first | contradiction | (rcases h with h | h | h <;> contradiction)) (fun hb37 => ?_)
      exact gq_throw C hadm hex hlt tw_IllegalStateException w_340 w_341 w_14 (by decide) (by decide) (by decide) (by decide) (by decide) (Nat.le_of_ble_eq_true rfl) d_H_open_40 d_H_open_43 d_H_open_44 d_H_open_47

set_option maxHeartbeats 4000000 in
set_option maxRecDepth 100000 in
theorem c_H_scan_p (l : Launch) (Z : qZ) (hZ : qok (pX Z)) (V : qV) (Y : qY) (k : Nat) (hk : k < 40) (hib : f_isBasket V (nI k) = 1) (hop : ¬ V 15 k 2 = 0) (b : Nat) (hb : b < 9) (hbk : V 15 k 1 = nI (b + 1)) (n : Nat) (hn : n < 8) (h1 : f_isArticle (nI n) = 1) (h5 : f_sells V (b + 1) n = 1) (h6 : ¬ V 16 k n + 1 < 0) (h7 : V 16 k n + 1 ≤ 30) : CT l y_H_scan { frames := 7, cells := 0, slots := 0, locals := 117 } (pX Z) (qA (pX Z)) [.ref (al Z 0 0), .int (nI k), .int (nI n), .int 1] V Y (.inl (some (.int ((V 16 k n) + 1)))) (qv V 16 k n ((V 16 k n) + 1)) Y := by
  refine CT.of (cc := b_H_scan) (maxL := 5) (ret := (some .int)) hZ (by decide) w_584 (Nat.le_of_ble_eq_true rfl) ?_
  intro p e s m below meth c C hr hex hlt
  refine gq_aload_n C d_H_scan_0 rfl ?_
  refine gq_iload_n C d_H_scan_1 rfl ?_
  refine gq_callV C (st := []) (fun _ h => h.elim) (c_H_checkOpenBasket l Z hZ _ _ k hk hib hop) (qm (by decide) (by decide)) rfl rfl w_585 w_587 ws_H_checkOpenBasket w_588 w_1 ⟨by decide, by decide, (by decide +kernel : (parseMethodDescriptor y_H_checkOpenBasket.desc).map (fun d => d.parameters.length) = some 1)⟩ ⟨by decide, by decide⟩ ⟨by decide, by decide⟩ rfl (Nat.le_of_ble_eq_true rfl) d_H_scan_2 ?_
  refine gq_iload_n C d_H_scan_5 rfl ?_
  refine gq_callS C (st := []) (fun _ h => h.elim) (c_H_isArticle l Z hZ _ _ (nI n)) w_248 w_249 w_250 w_1 ⟨by decide, by decide, (by decide +kernel : (parseMethodDescriptor y_H_isArticle.desc).map (fun d => d.parameters.length) = some 1)⟩ ⟨by decide, by decide⟩ ⟨by decide, by decide⟩ rfl (Nat.le_of_ble_eq_true rfl) d_H_scan_6 ?_
  refine gq_if_eq C (tgt := 39) d_H_scan_9 rfl (fun hb => by exact absurd (hb.symm.trans h1) (by decide)) (fun hb9 => ?_)
  refine gq_iload_n C d_H_scan_12 rfl ?_
  refine gq_iconst C (v := 1) d_H_scan_13 (by decide) ?_
  refine gq_icmp_eq C (tgt := 22) d_H_scan_14 rfl (fun hb14 => ?_) (fun hb => by exact absurd hb (by decide))
  refine gq_aload_n C d_H_scan_22 rfl ?_
  refine gq_aload_n C d_H_scan_23 rfl ?_
  refine gq_get C (g := 0) (j := 0) (ci := 7) (k := 6) (v := .ref (al Z 14 0)) (qm (by decide) (by decide)) rfl rfl in_H (by decide) w_209 rfl d_H_scan_24 ?_
  refine gq_iload_n C d_H_scan_27 rfl ?_
  refine gq_aald C (g := 14) (j := 0) (a := k) (t0 := 6) (b := al Z 15 k) (qm (by decide) (by decide)) rfl rfl rfl hk (by decide) rfl d_H_scan_28 ?_
  refine gq_get C (g := 15) (j := k) (ci := 0) (k := 1) (v := .int (V 15 k 1)) (qm (by decide) hk) rfl rfl in_B (by decide) w_189 rfl d_H_scan_29 ?_
  refine G.eqS (st' := [.int (nI (b + 1)), .ref (al Z 0 0)]) (by first | (rw [show V 15 k 1 = nI (b + 1) from hbk]; done) | (rw [show V 15 k 1 = nI (b + 1) from hbk]; rfl)) ?_
  refine gq_iload_n C d_H_scan_32 rfl ?_
  refine gq_callV C (st := []) (fun _ h => h.elim) (c_H_sells l Z hZ _ _ b hb n hn) (qm (by decide) (by decide)) rfl rfl w_608 w_610 ws_H_sells w_611 w_1 ⟨by decide, by decide, (by decide +kernel : (parseMethodDescriptor y_H_sells.desc).map (fun d => d.parameters.length) = some 2)⟩ ⟨by decide, by decide⟩ ⟨by decide, by decide⟩ rfl (Nat.le_of_ble_eq_true rfl) d_H_scan_33 ?_
  refine gq_if_ne C (tgt := 47) d_H_scan_36 rfl (fun hb36 => ?_) (fun hb => by exact absurd (hb.symm.trans h5) (by decide))
  refine gq_aload_n C d_H_scan_47 rfl ?_
  refine gq_get C (g := 0) (j := 0) (ci := 7) (k := 6) (v := .ref (al Z 14 0)) (qm (by decide) (by decide)) rfl rfl in_H (by decide) w_209 rfl d_H_scan_48 ?_
  refine gq_iload_n C d_H_scan_51 rfl ?_
  refine gq_aald C (g := 14) (j := 0) (a := k) (t0 := 6) (b := al Z 15 k) (qm (by decide) (by decide)) rfl rfl rfl hk (by decide) rfl d_H_scan_52 ?_
  refine gq_get C (g := 15) (j := k) (ci := 0) (k := 3) (v := .ref (al Z 16 k)) (qm (by decide) hk) rfl rfl in_B (by decide) w_193 rfl d_H_scan_53 ?_
  refine gq_iload_n C d_H_scan_56 rfl ?_
  refine gq_iald C (g := 16) (j := k) (a := n) (t0 := 0) (qm (by decide) hk) rfl rfl rfl hn (by decide) d_H_scan_57 ?_
  refine gq_iload_n C d_H_scan_58 rfl ?_
  refine gq_iadd C d_H_scan_59 ?_
  refine gq_istore C (lo' := [(4, .int ((V 16 k n) + 1)), (0, .ref (al Z 0 0)), (1, .int (nI k)), (2, .int (nI n)), (3, .int 1)]) d_H_scan_60 (by decide) rfl ?_
  refine gq_iload C d_H_scan_62 rfl ?_
  refine gq_if_lt C (tgt := 74) d_H_scan_64 rfl (fun hb => by exact absurd hb h6) (fun hb64 => ?_)
  refine gq_iload C d_H_scan_67 rfl ?_
  refine gq_bipush C (v := 30) d_H_scan_69 (by decide) ?_
  refine gq_icmp_le C (tgt := 82) d_H_scan_71 rfl (fun hb71 => ?_) (fun hb => by exact absurd h7 hb)
  refine gq_aload_n C d_H_scan_82 rfl ?_
  refine gq_get C (g := 0) (j := 0) (ci := 7) (k := 6) (v := .ref (al Z 14 0)) (qm (by decide) (by decide)) rfl rfl in_H (by decide) w_209 rfl d_H_scan_83 ?_
  refine gq_iload_n C d_H_scan_86 rfl ?_
  refine gq_aald C (g := 14) (j := 0) (a := k) (t0 := 6) (b := al Z 15 k) (qm (by decide) (by decide)) rfl rfl rfl hk (by decide) rfl d_H_scan_87 ?_
  refine gq_get C (g := 15) (j := k) (ci := 0) (k := 3) (v := .ref (al Z 16 k)) (qm (by decide) hk) rfl rfl in_B (by decide) w_193 rfl d_H_scan_88 ?_
  refine gq_iload_n C d_H_scan_91 rfl ?_
  refine gq_iload C d_H_scan_92 rfl ?_
  refine gq_iast C (fun _ h => h) (g := 16) (j := k) (a := n) (t0 := 0) (qm (by decide) hk) (fun _ => rfl) rfl rfl hn (by decide) d_H_scan_94 ?_
  refine gq_iload C d_H_scan_95 rfl ?_
  exact gq_iret C hr (by decide) (by decide) d_H_scan_97

set_option maxHeartbeats 4000000 in
set_option maxRecDepth 100000 in
theorem c_H_scan_p_x2 (l : Launch) (hadm : ∀ e : Env, l.admits e → e.platform.stackTraces = false) (Z : qZ) (hZ : qok (pX Z)) (V : qV) (Y : qY) (k : Nat) (hk : k < 40) (hib : f_isBasket V (nI k) = 1) (hop : ¬ V 15 k 2 = 0) (b : Nat) (hb : b < 9) (hbk : V 15 k 1 = nI (b + 1)) (n : Nat) (hn : n < 8) (h1 : f_isArticle (nI n) = 1) (h5 : f_sells V (b + 1) n = 0) : CT l y_H_scan { frames := 7, cells := 1, slots := 6, locals := 117 } (pX Z) qN [.ref (al Z 0 0), .int (nI k), .int (nI n), .int 1] V Y (.inr "java/lang/IllegalArgumentException") V Y := by
  refine CT.of (cc := b_H_scan) (maxL := 5) (ret := (some .int)) hZ (by decide) w_584 (Nat.le_of_ble_eq_true rfl) ?_
  intro p e s m below meth c C hr hex hlt
  refine gq_aload_n C d_H_scan_0 rfl ?_
  refine gq_iload_n C d_H_scan_1 rfl ?_
  refine gq_callV C (st := []) (fun _ h => h) (c_H_checkOpenBasket l Z hZ _ _ k hk hib hop) (qm (by decide) (by decide)) rfl rfl w_585 w_587 ws_H_checkOpenBasket w_588 w_1 ⟨by decide, by decide, (by decide +kernel : (parseMethodDescriptor y_H_checkOpenBasket.desc).map (fun d => d.parameters.length) = some 1)⟩ ⟨by decide, by decide⟩ ⟨by decide, by decide⟩ rfl (Nat.le_of_ble_eq_true rfl) d_H_scan_2 ?_
  refine gq_iload_n C d_H_scan_5 rfl ?_
  refine gq_callS C (st := []) (fun _ h => h) (c_H_isArticle l Z hZ _ _ (nI n)) w_248 w_249 w_250 w_1 ⟨by decide, by decide, (by decide +kernel : (parseMethodDescriptor y_H_isArticle.desc).map (fun d => d.parameters.length) = some 1)⟩ ⟨by decide, by decide⟩ ⟨by decide, by decide⟩ rfl (Nat.le_of_ble_eq_true rfl) d_H_scan_6 ?_
  refine gq_if_eq C (tgt := 39) d_H_scan_9 rfl (fun hb => by exact absurd (hb.symm.trans h1) (by decide)) (fun hb9 => ?_)
  refine gq_iload_n C d_H_scan_12 rfl ?_
  refine gq_iconst C (v := 1) d_H_scan_13 (by decide) ?_
  refine gq_icmp_eq C (tgt := 22) d_H_scan_14 rfl (fun hb14 => ?_) (fun hb => by exact absurd hb (by decide))
  refine gq_aload_n C d_H_scan_22 rfl ?_
  refine gq_aload_n C d_H_scan_23 rfl ?_
  refine gq_get C (g := 0) (j := 0) (ci := 7) (k := 6) (v := .ref (al Z 14 0)) (qm (by decide) (by decide)) rfl rfl in_H (by decide) w_209 rfl d_H_scan_24 ?_
  refine gq_iload_n C d_H_scan_27 rfl ?_
  refine gq_aald C (g := 14) (j := 0) (a := k) (t0 := 6) (b := al Z 15 k) (qm (by decide) (by decide)) rfl rfl rfl hk (by decide) rfl d_H_scan_28 ?_
  refine gq_get C (g := 15) (j := k) (ci := 0) (k := 1) (v := .int (V 15 k 1)) (qm (by decide) hk) rfl rfl in_B (by decide) w_189 rfl d_H_scan_29 ?_
  refine G.eqS (st' := [.int (nI (b + 1)), .ref (al Z 0 0)]) (by first | (rw [show V 15 k 1 = nI (b + 1) from hbk]; done) | (rw [show V 15 k 1 = nI (b + 1) from hbk]; rfl)) ?_
  refine gq_iload_n C d_H_scan_32 rfl ?_
  refine gq_callV C (st := []) (fun _ h => h) (c_H_sells l Z hZ _ _ b hb n hn) (qm (by decide) (by decide)) rfl rfl w_608 w_610 ws_H_sells w_611 w_1 ⟨by decide, by decide, (by decide +kernel : (parseMethodDescriptor y_H_sells.desc).map (fun d => d.parameters.length) = some 2)⟩ ⟨by decide, by decide⟩ ⟨by decide, by decide⟩ rfl (Nat.le_of_ble_eq_true rfl) d_H_scan_33 ?_
  refine gq_if_ne C (tgt := 47) d_H_scan_36 rfl (fun hb => by exact absurd h5 hb) (fun hb36 => ?_)
  exact gq_throw C hadm hex hlt tw_IllegalArgumentException w_255 w_256 w_13 (by decide) (by decide) (by decide) (by decide) (by decide) (Nat.le_of_ble_eq_true rfl) d_H_scan_39 d_H_scan_42 d_H_scan_43 d_H_scan_46

set_option maxHeartbeats 4000000 in
set_option maxRecDepth 100000 in
theorem c_H_scan_p_x3 (l : Launch) (hadm : ∀ e : Env, l.admits e → e.platform.stackTraces = false) (Z : qZ) (hZ : qok (pX Z)) (V : qV) (Y : qY) (k : Nat) (hk : k < 40) (hib : f_isBasket V (nI k) = 1) (hop : ¬ V 15 k 2 = 0) (b : Nat) (hb : b < 9) (hbk : V 15 k 1 = nI (b + 1)) (n : Nat) (hn : n < 8) (h1 : f_isArticle (nI n) = 1) (h5 : f_sells V (b + 1) n = 1) (h : V 16 k n + 1 < 0 ∨ ¬ V 16 k n + 1 ≤ 30) : CT l y_H_scan { frames := 7, cells := 1, slots := 6, locals := 117 } (pX Z) qN [.ref (al Z 0 0), .int (nI k), .int (nI n), .int 1] V Y (.inr "java/lang/IllegalStateException") V Y := by
  refine CT.of (cc := b_H_scan) (maxL := 5) (ret := (some .int)) hZ (by decide) w_584 (Nat.le_of_ble_eq_true rfl) ?_
  intro p e s m below meth c C hr hex hlt
  refine gq_aload_n C d_H_scan_0 rfl ?_
  refine gq_iload_n C d_H_scan_1 rfl ?_
  refine gq_callV C (st := []) (fun _ h => h) (c_H_checkOpenBasket l Z hZ _ _ k hk hib hop) (qm (by decide) (by decide)) rfl rfl w_585 w_587 ws_H_checkOpenBasket w_588 w_1 ⟨by decide, by decide, (by decide +kernel : (parseMethodDescriptor y_H_checkOpenBasket.desc).map (fun d => d.parameters.length) = some 1)⟩ ⟨by decide, by decide⟩ ⟨by decide, by decide⟩ rfl (Nat.le_of_ble_eq_true rfl) d_H_scan_2 ?_
  refine gq_iload_n C d_H_scan_5 rfl ?_
  refine gq_callS C (st := []) (fun _ h => h) (c_H_isArticle l Z hZ _ _ (nI n)) w_248 w_249 w_250 w_1 ⟨by decide, by decide, (by decide +kernel : (parseMethodDescriptor y_H_isArticle.desc).map (fun d => d.parameters.length) = some 1)⟩ ⟨by decide, by decide⟩ ⟨by decide, by decide⟩ rfl (Nat.le_of_ble_eq_true rfl) d_H_scan_6 ?_
  refine gq_if_eq C (tgt := 39) d_H_scan_9 rfl (fun hb => by exact absurd (hb.symm.trans h1) (by decide)) (fun hb9 => ?_)
  refine gq_iload_n C d_H_scan_12 rfl ?_
  refine gq_iconst C (v := 1) d_H_scan_13 (by decide) ?_
  refine gq_icmp_eq C (tgt := 22) d_H_scan_14 rfl (fun hb14 => ?_) (fun hb => by exact absurd hb (by decide))
  refine gq_aload_n C d_H_scan_22 rfl ?_
  refine gq_aload_n C d_H_scan_23 rfl ?_
  refine gq_get C (g := 0) (j := 0) (ci := 7) (k := 6) (v := .ref (al Z 14 0)) (qm (by decide) (by decide)) rfl rfl in_H (by decide) w_209 rfl d_H_scan_24 ?_
  refine gq_iload_n C d_H_scan_27 rfl ?_
  refine gq_aald C (g := 14) (j := 0) (a := k) (t0 := 6) (b := al Z 15 k) (qm (by decide) (by decide)) rfl rfl rfl hk (by decide) rfl d_H_scan_28 ?_
  refine gq_get C (g := 15) (j := k) (ci := 0) (k := 1) (v := .int (V 15 k 1)) (qm (by decide) hk) rfl rfl in_B (by decide) w_189 rfl d_H_scan_29 ?_
  refine G.eqS (st' := [.int (nI (b + 1)), .ref (al Z 0 0)]) (by first | (rw [show V 15 k 1 = nI (b + 1) from hbk]; done) | (rw [show V 15 k 1 = nI (b + 1) from hbk]; rfl)) ?_
  refine gq_iload_n C d_H_scan_32 rfl ?_
  refine gq_callV C (st := []) (fun _ h => h) (c_H_sells l Z hZ _ _ b hb n hn) (qm (by decide) (by decide)) rfl rfl w_608 w_610 ws_H_sells w_611 w_1 ⟨by decide, by decide, (by decide +kernel : (parseMethodDescriptor y_H_sells.desc).map (fun d => d.parameters.length) = some 2)⟩ ⟨by decide, by decide⟩ ⟨by decide, by decide⟩ rfl (Nat.le_of_ble_eq_true rfl) d_H_scan_33 ?_
  refine gq_if_ne C (tgt := 47) d_H_scan_36 rfl (fun hb36 => ?_) (fun hb => by exact absurd (hb.symm.trans h5) (by decide))
  refine gq_aload_n C d_H_scan_47 rfl ?_
  refine gq_get C (g := 0) (j := 0) (ci := 7) (k := 6) (v := .ref (al Z 14 0)) (qm (by decide) (by decide)) rfl rfl in_H (by decide) w_209 rfl d_H_scan_48 ?_
  refine gq_iload_n C d_H_scan_51 rfl ?_
  refine gq_aald C (g := 14) (j := 0) (a := k) (t0 := 6) (b := al Z 15 k) (qm (by decide) (by decide)) rfl rfl rfl hk (by decide) rfl d_H_scan_52 ?_
  refine gq_get C (g := 15) (j := k) (ci := 0) (k := 3) (v := .ref (al Z 16 k)) (qm (by decide) hk) rfl rfl in_B (by decide) w_193 rfl d_H_scan_53 ?_
  refine gq_iload_n C d_H_scan_56 rfl ?_
  refine gq_iald C (g := 16) (j := k) (a := n) (t0 := 0) (qm (by decide) hk) rfl rfl rfl hn (by decide) d_H_scan_57 ?_
  refine gq_iload_n C d_H_scan_58 rfl ?_
  refine gq_iadd C d_H_scan_59 ?_
  refine gq_istore C (lo' := [(4, .int ((V 16 k n) + 1)), (0, .ref (al Z 0 0)), (1, .int (nI k)), (2, .int (nI n)), (3, .int 1)]) d_H_scan_60 (by decide) rfl ?_
  refine gq_iload C d_H_scan_62 rfl ?_
  refine gq_if_lt C (tgt := 74) d_H_scan_64 rfl (fun hb64 => ?_) (fun hb64 => ?_)
  · skip
    exact gq_throw C hadm hex hlt tw_IllegalStateException w_340 w_341 w_14 (by decide) (by decide) (by decide) (by decide) (by decide) (Nat.le_of_ble_eq_true rfl) d_H_scan_74 d_H_scan_77 d_H_scan_78 d_H_scan_81
  · skip
    refine gq_iload C d_H_scan_67 rfl ?_
    refine gq_bipush C (v := 30) d_H_scan_69 (by decide) ?_
    refine gq_icmp_le C (tgt := 82) d_H_scan_71 rfl (fun hb => by exact h.elim (fun q => absurd q hb64) (fun q => absurd hb q)) (fun hb71 => ?_)
    exact gq_throw C hadm hex hlt tw_IllegalStateException w_340 w_341 w_14 (by decide) (by decide) (by decide) (by decide) (by decide) (Nat.le_of_ble_eq_true rfl) d_H_scan_74 d_H_scan_77 d_H_scan_78 d_H_scan_81

set_option maxHeartbeats 4000000 in
set_option maxRecDepth 100000 in
theorem c_H_scan_m (l : Launch) (Z : qZ) (hZ : qok (pX Z)) (V : qV) (Y : qY) (k : Nat) (hk : k < 40) (hib : f_isBasket V (nI k) = 1) (hop : ¬ V 15 k 2 = 0) (b : Nat) (hb : b < 9) (hbk : V 15 k 1 = nI (b + 1)) (n : Nat) (hn : n < 8) (h1 : f_isArticle (nI n) = 1) (h5 : f_sells V (b + 1) n = 1) (h6 : ¬ V 16 k n + (-1) < 0) (h7 : V 16 k n + (-1) ≤ 30) : CT l y_H_scan { frames := 7, cells := 0, slots := 0, locals := 117 } (pX Z) (qA (pX Z)) [.ref (al Z 0 0), .int (nI k), .int (nI n), .int ((-1))] V Y (.inl (some (.int ((V 16 k n) + ((-1)))))) (qv V 16 k n ((V 16 k n) + ((-1)))) Y := by
  refine CT.of (cc := b_H_scan) (maxL := 5) (ret := (some .int)) hZ (by decide) w_584 (Nat.le_of_ble_eq_true rfl) ?_
  intro p e s m below meth c C hr hex hlt
  refine gq_aload_n C d_H_scan_0 rfl ?_
  refine gq_iload_n C d_H_scan_1 rfl ?_
  refine gq_callV C (st := []) (fun _ h => h.elim) (c_H_checkOpenBasket l Z hZ _ _ k hk hib hop) (qm (by decide) (by decide)) rfl rfl w_585 w_587 ws_H_checkOpenBasket w_588 w_1 ⟨by decide, by decide, (by decide +kernel : (parseMethodDescriptor y_H_checkOpenBasket.desc).map (fun d => d.parameters.length) = some 1)⟩ ⟨by decide, by decide⟩ ⟨by decide, by decide⟩ rfl (Nat.le_of_ble_eq_true rfl) d_H_scan_2 ?_
  refine gq_iload_n C d_H_scan_5 rfl ?_
  refine gq_callS C (st := []) (fun _ h => h.elim) (c_H_isArticle l Z hZ _ _ (nI n)) w_248 w_249 w_250 w_1 ⟨by decide, by decide, (by decide +kernel : (parseMethodDescriptor y_H_isArticle.desc).map (fun d => d.parameters.length) = some 1)⟩ ⟨by decide, by decide⟩ ⟨by decide, by decide⟩ rfl (Nat.le_of_ble_eq_true rfl) d_H_scan_6 ?_
  refine gq_if_eq C (tgt := 39) d_H_scan_9 rfl (fun hb => by exact absurd (hb.symm.trans h1) (by decide)) (fun hb9 => ?_)
  refine gq_iload_n C d_H_scan_12 rfl ?_
  refine gq_iconst C (v := 1) d_H_scan_13 (by decide) ?_
  refine gq_icmp_eq C (tgt := 22) d_H_scan_14 rfl (fun hb => by exact absurd hb (by decide)) (fun hb14 => ?_)
  refine gq_iload_n C d_H_scan_17 rfl ?_
  refine gq_iconst C (v := (-1)) d_H_scan_18 (by decide) ?_
  refine gq_icmp_ne C (tgt := 39) d_H_scan_19 rfl (fun hb => by exact absurd hb (by decide)) (fun hb19 => ?_)
  refine gq_aload_n C d_H_scan_22 rfl ?_
  refine gq_aload_n C d_H_scan_23 rfl ?_
  refine gq_get C (g := 0) (j := 0) (ci := 7) (k := 6) (v := .ref (al Z 14 0)) (qm (by decide) (by decide)) rfl rfl in_H (by decide) w_209 rfl d_H_scan_24 ?_
  refine gq_iload_n C d_H_scan_27 rfl ?_
  refine gq_aald C (g := 14) (j := 0) (a := k) (t0 := 6) (b := al Z 15 k) (qm (by decide) (by decide)) rfl rfl rfl hk (by decide) rfl d_H_scan_28 ?_
  refine gq_get C (g := 15) (j := k) (ci := 0) (k := 1) (v := .int (V 15 k 1)) (qm (by decide) hk) rfl rfl in_B (by decide) w_189 rfl d_H_scan_29 ?_
  refine G.eqS (st' := [.int (nI (b + 1)), .ref (al Z 0 0)]) (by first | (rw [show V 15 k 1 = nI (b + 1) from hbk]; done) | (rw [show V 15 k 1 = nI (b + 1) from hbk]; rfl)) ?_
  refine gq_iload_n C d_H_scan_32 rfl ?_
  refine gq_callV C (st := []) (fun _ h => h.elim) (c_H_sells l Z hZ _ _ b hb n hn) (qm (by decide) (by decide)) rfl rfl w_608 w_610 ws_H_sells w_611 w_1 ⟨by decide, by decide, (by decide +kernel : (parseMethodDescriptor y_H_sells.desc).map (fun d => d.parameters.length) = some 2)⟩ ⟨by decide, by decide⟩ ⟨by decide, by decide⟩ rfl (Nat.le_of_ble_eq_true rfl) d_H_scan_33 ?_
  refine gq_if_ne C (tgt := 47) d_H_scan_36 rfl (fun hb36 => ?_) (fun hb => by exact absurd (hb.symm.trans h5) (by decide))
  refine gq_aload_n C d_H_scan_47 rfl ?_
  refine gq_get C (g := 0) (j := 0) (ci := 7) (k := 6) (v := .ref (al Z 14 0)) (qm (by decide) (by decide)) rfl rfl in_H (by decide) w_209 rfl d_H_scan_48 ?_
  refine gq_iload_n C d_H_scan_51 rfl ?_
  refine gq_aald C (g := 14) (j := 0) (a := k) (t0 := 6) (b := al Z 15 k) (qm (by decide) (by decide)) rfl rfl rfl hk (by decide) rfl d_H_scan_52 ?_
  refine gq_get C (g := 15) (j := k) (ci := 0) (k := 3) (v := .ref (al Z 16 k)) (qm (by decide) hk) rfl rfl in_B (by decide) w_193 rfl d_H_scan_53 ?_
  refine gq_iload_n C d_H_scan_56 rfl ?_
  refine gq_iald C (g := 16) (j := k) (a := n) (t0 := 0) (qm (by decide) hk) rfl rfl rfl hn (by decide) d_H_scan_57 ?_
  refine gq_iload_n C d_H_scan_58 rfl ?_
  refine gq_iadd C d_H_scan_59 ?_
  refine gq_istore C (lo' := [(4, .int ((V 16 k n) + ((-1)))), (0, .ref (al Z 0 0)), (1, .int (nI k)), (2, .int (nI n)), (3, .int ((-1)))]) d_H_scan_60 (by decide) rfl ?_
  refine gq_iload C d_H_scan_62 rfl ?_
  refine gq_if_lt C (tgt := 74) d_H_scan_64 rfl (fun hb => by exact absurd hb h6) (fun hb64 => ?_)
  refine gq_iload C d_H_scan_67 rfl ?_
  refine gq_bipush C (v := 30) d_H_scan_69 (by decide) ?_
  refine gq_icmp_le C (tgt := 82) d_H_scan_71 rfl (fun hb71 => ?_) (fun hb => by exact absurd h7 hb)
  refine gq_aload_n C d_H_scan_82 rfl ?_
  refine gq_get C (g := 0) (j := 0) (ci := 7) (k := 6) (v := .ref (al Z 14 0)) (qm (by decide) (by decide)) rfl rfl in_H (by decide) w_209 rfl d_H_scan_83 ?_
  refine gq_iload_n C d_H_scan_86 rfl ?_
  refine gq_aald C (g := 14) (j := 0) (a := k) (t0 := 6) (b := al Z 15 k) (qm (by decide) (by decide)) rfl rfl rfl hk (by decide) rfl d_H_scan_87 ?_
  refine gq_get C (g := 15) (j := k) (ci := 0) (k := 3) (v := .ref (al Z 16 k)) (qm (by decide) hk) rfl rfl in_B (by decide) w_193 rfl d_H_scan_88 ?_
  refine gq_iload_n C d_H_scan_91 rfl ?_
  refine gq_iload C d_H_scan_92 rfl ?_
  refine gq_iast C (fun _ h => h) (g := 16) (j := k) (a := n) (t0 := 0) (qm (by decide) hk) (fun _ => rfl) rfl rfl hn (by decide) d_H_scan_94 ?_
  refine gq_iload C d_H_scan_95 rfl ?_
  exact gq_iret C hr (by decide) (by decide) d_H_scan_97

set_option maxHeartbeats 4000000 in
set_option maxRecDepth 100000 in
theorem c_H_scan_m_x2 (l : Launch) (hadm : ∀ e : Env, l.admits e → e.platform.stackTraces = false) (Z : qZ) (hZ : qok (pX Z)) (V : qV) (Y : qY) (k : Nat) (hk : k < 40) (hib : f_isBasket V (nI k) = 1) (hop : ¬ V 15 k 2 = 0) (b : Nat) (hb : b < 9) (hbk : V 15 k 1 = nI (b + 1)) (n : Nat) (hn : n < 8) (h1 : f_isArticle (nI n) = 1) (h5 : f_sells V (b + 1) n = 0) : CT l y_H_scan { frames := 7, cells := 1, slots := 6, locals := 117 } (pX Z) qN [.ref (al Z 0 0), .int (nI k), .int (nI n), .int ((-1))] V Y (.inr "java/lang/IllegalArgumentException") V Y := by
  refine CT.of (cc := b_H_scan) (maxL := 5) (ret := (some .int)) hZ (by decide) w_584 (Nat.le_of_ble_eq_true rfl) ?_
  intro p e s m below meth c C hr hex hlt
  refine gq_aload_n C d_H_scan_0 rfl ?_
  refine gq_iload_n C d_H_scan_1 rfl ?_
  refine gq_callV C (st := []) (fun _ h => h) (c_H_checkOpenBasket l Z hZ _ _ k hk hib hop) (qm (by decide) (by decide)) rfl rfl w_585 w_587 ws_H_checkOpenBasket w_588 w_1 ⟨by decide, by decide, (by decide +kernel : (parseMethodDescriptor y_H_checkOpenBasket.desc).map (fun d => d.parameters.length) = some 1)⟩ ⟨by decide, by decide⟩ ⟨by decide, by decide⟩ rfl (Nat.le_of_ble_eq_true rfl) d_H_scan_2 ?_
  refine gq_iload_n C d_H_scan_5 rfl ?_
  refine gq_callS C (st := []) (fun _ h => h) (c_H_isArticle l Z hZ _ _ (nI n)) w_248 w_249 w_250 w_1 ⟨by decide, by decide, (by decide +kernel : (parseMethodDescriptor y_H_isArticle.desc).map (fun d => d.parameters.length) = some 1)⟩ ⟨by decide, by decide⟩ ⟨by decide, by decide⟩ rfl (Nat.le_of_ble_eq_true rfl) d_H_scan_6 ?_
  refine gq_if_eq C (tgt := 39) d_H_scan_9 rfl (fun hb => by exact absurd (hb.symm.trans h1) (by decide)) (fun hb9 => ?_)
  refine gq_iload_n C d_H_scan_12 rfl ?_
  refine gq_iconst C (v := 1) d_H_scan_13 (by decide) ?_
  refine gq_icmp_eq C (tgt := 22) d_H_scan_14 rfl (fun hb => by exact absurd hb (by decide)) (fun hb14 => ?_)
  refine gq_iload_n C d_H_scan_17 rfl ?_
  refine gq_iconst C (v := (-1)) d_H_scan_18 (by decide) ?_
  refine gq_icmp_ne C (tgt := 39) d_H_scan_19 rfl (fun hb => by exact absurd hb (by decide)) (fun hb19 => ?_)
  refine gq_aload_n C d_H_scan_22 rfl ?_
  refine gq_aload_n C d_H_scan_23 rfl ?_
  refine gq_get C (g := 0) (j := 0) (ci := 7) (k := 6) (v := .ref (al Z 14 0)) (qm (by decide) (by decide)) rfl rfl in_H (by decide) w_209 rfl d_H_scan_24 ?_
  refine gq_iload_n C d_H_scan_27 rfl ?_
  refine gq_aald C (g := 14) (j := 0) (a := k) (t0 := 6) (b := al Z 15 k) (qm (by decide) (by decide)) rfl rfl rfl hk (by decide) rfl d_H_scan_28 ?_
  refine gq_get C (g := 15) (j := k) (ci := 0) (k := 1) (v := .int (V 15 k 1)) (qm (by decide) hk) rfl rfl in_B (by decide) w_189 rfl d_H_scan_29 ?_
  refine G.eqS (st' := [.int (nI (b + 1)), .ref (al Z 0 0)]) (by first | (rw [show V 15 k 1 = nI (b + 1) from hbk]; done) | (rw [show V 15 k 1 = nI (b + 1) from hbk]; rfl)) ?_
  refine gq_iload_n C d_H_scan_32 rfl ?_
  refine gq_callV C (st := []) (fun _ h => h) (c_H_sells l Z hZ _ _ b hb n hn) (qm (by decide) (by decide)) rfl rfl w_608 w_610 ws_H_sells w_611 w_1 ⟨by decide, by decide, (by decide +kernel : (parseMethodDescriptor y_H_sells.desc).map (fun d => d.parameters.length) = some 2)⟩ ⟨by decide, by decide⟩ ⟨by decide, by decide⟩ rfl (Nat.le_of_ble_eq_true rfl) d_H_scan_33 ?_
  refine gq_if_ne C (tgt := 47) d_H_scan_36 rfl (fun hb => by exact absurd h5 hb) (fun hb36 => ?_)
  exact gq_throw C hadm hex hlt tw_IllegalArgumentException w_255 w_256 w_13 (by decide) (by decide) (by decide) (by decide) (by decide) (Nat.le_of_ble_eq_true rfl) d_H_scan_39 d_H_scan_42 d_H_scan_43 d_H_scan_46

set_option maxHeartbeats 4000000 in
set_option maxRecDepth 100000 in
theorem c_H_scan_m_x3 (l : Launch) (hadm : ∀ e : Env, l.admits e → e.platform.stackTraces = false) (Z : qZ) (hZ : qok (pX Z)) (V : qV) (Y : qY) (k : Nat) (hk : k < 40) (hib : f_isBasket V (nI k) = 1) (hop : ¬ V 15 k 2 = 0) (b : Nat) (hb : b < 9) (hbk : V 15 k 1 = nI (b + 1)) (n : Nat) (hn : n < 8) (h1 : f_isArticle (nI n) = 1) (h5 : f_sells V (b + 1) n = 1) (h : V 16 k n + (-1) < 0 ∨ ¬ V 16 k n + (-1) ≤ 30) : CT l y_H_scan { frames := 7, cells := 1, slots := 6, locals := 117 } (pX Z) qN [.ref (al Z 0 0), .int (nI k), .int (nI n), .int ((-1))] V Y (.inr "java/lang/IllegalStateException") V Y := by
  refine CT.of (cc := b_H_scan) (maxL := 5) (ret := (some .int)) hZ (by decide) w_584 (Nat.le_of_ble_eq_true rfl) ?_
  intro p e s m below meth c C hr hex hlt
  refine gq_aload_n C d_H_scan_0 rfl ?_
  refine gq_iload_n C d_H_scan_1 rfl ?_
  refine gq_callV C (st := []) (fun _ h => h) (c_H_checkOpenBasket l Z hZ _ _ k hk hib hop) (qm (by decide) (by decide)) rfl rfl w_585 w_587 ws_H_checkOpenBasket w_588 w_1 ⟨by decide, by decide, (by decide +kernel : (parseMethodDescriptor y_H_checkOpenBasket.desc).map (fun d => d.parameters.length) = some 1)⟩ ⟨by decide, by decide⟩ ⟨by decide, by decide⟩ rfl (Nat.le_of_ble_eq_true rfl) d_H_scan_2 ?_
  refine gq_iload_n C d_H_scan_5 rfl ?_
  refine gq_callS C (st := []) (fun _ h => h) (c_H_isArticle l Z hZ _ _ (nI n)) w_248 w_249 w_250 w_1 ⟨by decide, by decide, (by decide +kernel : (parseMethodDescriptor y_H_isArticle.desc).map (fun d => d.parameters.length) = some 1)⟩ ⟨by decide, by decide⟩ ⟨by decide, by decide⟩ rfl (Nat.le_of_ble_eq_true rfl) d_H_scan_6 ?_
  refine gq_if_eq C (tgt := 39) d_H_scan_9 rfl (fun hb => by exact absurd (hb.symm.trans h1) (by decide)) (fun hb9 => ?_)
  refine gq_iload_n C d_H_scan_12 rfl ?_
  refine gq_iconst C (v := 1) d_H_scan_13 (by decide) ?_
  refine gq_icmp_eq C (tgt := 22) d_H_scan_14 rfl (fun hb => by exact absurd hb (by decide)) (fun hb14 => ?_)
  refine gq_iload_n C d_H_scan_17 rfl ?_
  refine gq_iconst C (v := (-1)) d_H_scan_18 (by decide) ?_
  refine gq_icmp_ne C (tgt := 39) d_H_scan_19 rfl (fun hb => by exact absurd hb (by decide)) (fun hb19 => ?_)
  refine gq_aload_n C d_H_scan_22 rfl ?_
  refine gq_aload_n C d_H_scan_23 rfl ?_
  refine gq_get C (g := 0) (j := 0) (ci := 7) (k := 6) (v := .ref (al Z 14 0)) (qm (by decide) (by decide)) rfl rfl in_H (by decide) w_209 rfl d_H_scan_24 ?_
  refine gq_iload_n C d_H_scan_27 rfl ?_
  refine gq_aald C (g := 14) (j := 0) (a := k) (t0 := 6) (b := al Z 15 k) (qm (by decide) (by decide)) rfl rfl rfl hk (by decide) rfl d_H_scan_28 ?_
  refine gq_get C (g := 15) (j := k) (ci := 0) (k := 1) (v := .int (V 15 k 1)) (qm (by decide) hk) rfl rfl in_B (by decide) w_189 rfl d_H_scan_29 ?_
  refine G.eqS (st' := [.int (nI (b + 1)), .ref (al Z 0 0)]) (by first | (rw [show V 15 k 1 = nI (b + 1) from hbk]; done) | (rw [show V 15 k 1 = nI (b + 1) from hbk]; rfl)) ?_
  refine gq_iload_n C d_H_scan_32 rfl ?_
  refine gq_callV C (st := []) (fun _ h => h) (c_H_sells l Z hZ _ _ b hb n hn) (qm (by decide) (by decide)) rfl rfl w_608 w_610 ws_H_sells w_611 w_1 ⟨by decide, by decide, (by decide +kernel : (parseMethodDescriptor y_H_sells.desc).map (fun d => d.parameters.length) = some 2)⟩ ⟨by decide, by decide⟩ ⟨by decide, by decide⟩ rfl (Nat.le_of_ble_eq_true rfl) d_H_scan_33 ?_
  refine gq_if_ne C (tgt := 47) d_H_scan_36 rfl (fun hb36 => ?_) (fun hb => by exact absurd (hb.symm.trans h5) (by decide))
  refine gq_aload_n C d_H_scan_47 rfl ?_
  refine gq_get C (g := 0) (j := 0) (ci := 7) (k := 6) (v := .ref (al Z 14 0)) (qm (by decide) (by decide)) rfl rfl in_H (by decide) w_209 rfl d_H_scan_48 ?_
  refine gq_iload_n C d_H_scan_51 rfl ?_
  refine gq_aald C (g := 14) (j := 0) (a := k) (t0 := 6) (b := al Z 15 k) (qm (by decide) (by decide)) rfl rfl rfl hk (by decide) rfl d_H_scan_52 ?_
  refine gq_get C (g := 15) (j := k) (ci := 0) (k := 3) (v := .ref (al Z 16 k)) (qm (by decide) hk) rfl rfl in_B (by decide) w_193 rfl d_H_scan_53 ?_
  refine gq_iload_n C d_H_scan_56 rfl ?_
  refine gq_iald C (g := 16) (j := k) (a := n) (t0 := 0) (qm (by decide) hk) rfl rfl rfl hn (by decide) d_H_scan_57 ?_
  refine gq_iload_n C d_H_scan_58 rfl ?_
  refine gq_iadd C d_H_scan_59 ?_
  refine gq_istore C (lo' := [(4, .int ((V 16 k n) + ((-1)))), (0, .ref (al Z 0 0)), (1, .int (nI k)), (2, .int (nI n)), (3, .int ((-1)))]) d_H_scan_60 (by decide) rfl ?_
  refine gq_iload C d_H_scan_62 rfl ?_
  refine gq_if_lt C (tgt := 74) d_H_scan_64 rfl (fun hb64 => ?_) (fun hb64 => ?_)
  · skip
    exact gq_throw C hadm hex hlt tw_IllegalStateException w_340 w_341 w_14 (by decide) (by decide) (by decide) (by decide) (by decide) (Nat.le_of_ble_eq_true rfl) d_H_scan_74 d_H_scan_77 d_H_scan_78 d_H_scan_81
  · skip
    refine gq_iload C d_H_scan_67 rfl ?_
    refine gq_bipush C (v := 30) d_H_scan_69 (by decide) ?_
    refine gq_icmp_le C (tgt := 82) d_H_scan_71 rfl (fun hb => by exact h.elim (fun q => absurd q hb64) (fun q => absurd hb q)) (fun hb71 => ?_)
    exact gq_throw C hadm hex hlt tw_IllegalStateException w_340 w_341 w_14 (by decide) (by decide) (by decide) (by decide) (by decide) (Nat.le_of_ble_eq_true rfl) d_H_scan_74 d_H_scan_77 d_H_scan_78 d_H_scan_81

set_option maxHeartbeats 4000000 in
set_option maxRecDepth 100000 in
theorem c_H_scan_x2a (l : Launch) (hadm : ∀ e : Env, l.admits e → e.platform.stackTraces = false) (Z : qZ) (hZ : qok (pX Z)) (V : qV) (Y : qY) (k : Nat) (hk : k < 40) (hib : f_isBasket V (nI k) = 1) (hop : ¬ V 15 k 2 = 0) (a g : Int32) (h : f_isArticle a = 0 ∨ (¬ g = 1 ∧ ¬ g = -1)) : CT l y_H_scan { frames := 7, cells := 1, slots := 6, locals := 117 } (pX Z) qN [.ref (al Z 0 0), .int (nI k), .int a, .int g] V Y (.inr "java/lang/IllegalArgumentException") V Y := by
  refine CT.of (cc := b_H_scan) (maxL := 5) (ret := (some .int)) hZ (by decide) w_584 (Nat.le_of_ble_eq_true rfl) ?_
  intro p e s m below meth c C hr hex hlt
  refine gq_aload_n C d_H_scan_0 rfl ?_
  refine gq_iload_n C d_H_scan_1 rfl ?_
  refine gq_callV C (st := []) (fun _ h => h) (c_H_checkOpenBasket l Z hZ _ _ k hk hib hop) (qm (by decide) (by decide)) rfl rfl w_585 w_587 ws_H_checkOpenBasket w_588 w_1 ⟨by decide, by decide, (by decide +kernel : (parseMethodDescriptor y_H_checkOpenBasket.desc).map (fun d => d.parameters.length) = some 1)⟩ ⟨by decide, by decide⟩ ⟨by decide, by decide⟩ rfl (Nat.le_of_ble_eq_true rfl) d_H_scan_2 ?_
  refine gq_iload_n C d_H_scan_5 rfl ?_
  refine gq_callS C (st := []) (fun _ h => h) (c_H_isArticle l Z hZ _ _ a) w_248 w_249 w_250 w_1 ⟨by decide, by decide, (by decide +kernel : (parseMethodDescriptor y_H_isArticle.desc).map (fun d => d.parameters.length) = some 1)⟩ ⟨by decide, by decide⟩ ⟨by decide, by decide⟩ rfl (Nat.le_of_ble_eq_true rfl) d_H_scan_6 ?_
  refine gq_if_eq C (tgt := 39) d_H_scan_9 rfl (fun hb9 => ?_) (fun hb9 => ?_)
  · skip
    exact gq_throw C hadm hex hlt tw_IllegalArgumentException w_255 w_256 w_13 (by decide) (by decide) (by decide) (by decide) (by decide) (Nat.le_of_ble_eq_true rfl) d_H_scan_39 d_H_scan_42 d_H_scan_43 d_H_scan_46
  · skip
    refine gq_iload_n C d_H_scan_12 rfl ?_
    refine gq_iconst C (v := 1) d_H_scan_13 (by decide) ?_
    refine gq_icmp_eq C (tgt := 22) d_H_scan_14 rfl (fun hb => by first | contradiction | (rcases h with h | h; contradiction; exact absurd hb h.1)) (fun hb14 => ?_)
    refine gq_iload_n C d_H_scan_17 rfl ?_
    refine gq_iconst C (v := (-1)) d_H_scan_18 (by decide) ?_
    refine gq_icmp_ne C (tgt := 39) d_H_scan_19 rfl (fun hb19 => ?_) (fun hb => by first | contradiction | (rcases h with h | h; contradiction; exact absurd hb h.2))
    exact gq_throw C hadm hex hlt tw_IllegalArgumentException w_255 w_256 w_13 (by decide) (by decide) (by decide) (by decide) (by decide) (Nat.le_of_ble_eq_true rfl) d_H_scan_39 d_H_scan_42 d_H_scan_43 d_H_scan_46

set_option maxHeartbeats 4000000 in
set_option maxRecDepth 100000 in
theorem c_H_scan_x1a (l : Launch) (hadm : ∀ e : Env, l.admits e → e.platform.stackTraces = false) (Z : qZ) (hZ : qok (pX Z)) (V : qV) (Y : qY) (k : Int32) (h : f_isBasket V k = 0) (a g : Int32) : CT l y_H_scan { frames := 7, cells := 1, slots := 6, locals := 117 } (pX Z) qN [.ref (al Z 0 0), .int k, .int a, .int g] V Y (.inr "java/util/NoSuchElementException") V Y := by
  refine CT.of (cc := b_H_scan) (maxL := 5) (ret := (some .int)) hZ (by decide) w_584 (Nat.le_of_ble_eq_true rfl) ?_
  intro p e s m below meth c C hr hex hlt
  refine gq_aload_n C d_H_scan_0 rfl ?_
  refine gq_iload_n C d_H_scan_1 rfl ?_
  exact gq_thrV C (st := []) hex (fun _ h => h) (c_H_checkOpenBasket_x1 l hadm Z hZ _ _ k h) (qm (by decide) (by decide)) rfl rfl w_585 w_587 ws_H_checkOpenBasket w_588 w_1 ⟨by decide, by decide, (by decide +kernel : (parseMethodDescriptor y_H_checkOpenBasket.desc).map (fun d => d.parameters.length) = some 1)⟩ ⟨by decide, by decide⟩ ⟨by decide, by decide⟩ ⟨by decide, by decide⟩ rfl (Nat.le_of_ble_eq_true rfl) d_H_scan_2

set_option maxHeartbeats 4000000 in
set_option maxRecDepth 100000 in
theorem c_H_scan_x1b (l : Launch) (hadm : ∀ e : Env, l.admits e → e.platform.stackTraces = false) (Z : qZ) (hZ : qok (pX Z)) (V : qV) (Y : qY) (k : Nat) (hk : k < 40) (h1 : f_isBasket V (nI k) = 1) (h2 : V 15 k 2 = 0) (a g : Int32) : CT l y_H_scan { frames := 7, cells := 1, slots := 6, locals := 117 } (pX Z) qN [.ref (al Z 0 0), .int (nI k), .int a, .int g] V Y (.inr "java/util/NoSuchElementException") V Y := by
  refine CT.of (cc := b_H_scan) (maxL := 5) (ret := (some .int)) hZ (by decide) w_584 (Nat.le_of_ble_eq_true rfl) ?_
  intro p e s m below meth c C hr hex hlt
  refine gq_aload_n C d_H_scan_0 rfl ?_
  refine gq_iload_n C d_H_scan_1 rfl ?_
  exact gq_thrV C (st := []) hex (fun _ h => h) (c_H_checkOpenBasket_x2 l hadm Z hZ _ _ k hk h1 h2) (qm (by decide) (by decide)) rfl rfl w_585 w_587 ws_H_checkOpenBasket w_588 w_1 ⟨by decide, by decide, (by decide +kernel : (parseMethodDescriptor y_H_checkOpenBasket.desc).map (fun d => d.parameters.length) = some 1)⟩ ⟨by decide, by decide⟩ ⟨by decide, by decide⟩ ⟨by decide, by decide⟩ rfl (Nat.le_of_ble_eq_true rfl) d_H_scan_2

theorem d_H_pay_0 : decode b_H_pay 0 = .ok (.aload_n 0, 1) := by decide +kernel
theorem d_H_pay_1 : decode b_H_pay 1 = .ok (.iload_n 1, 1) := by decide +kernel
theorem d_H_pay_2 : decode b_H_pay 2 = .ok (.invokevirtual 196, 3) := by decide +kernel
theorem d_H_pay_5 : decode b_H_pay 5 = .ok (.aload_n 0, 1) := by decide +kernel
theorem d_H_pay_6 : decode b_H_pay 6 = .ok (.getfield 43, 3) := by decide +kernel
theorem d_H_pay_9 : decode b_H_pay 9 = .ok (.iload_n 1, 1) := by decide +kernel
theorem d_H_pay_10 : decode b_H_pay 10 = .ok (.aaload, 1) := by decide +kernel
theorem d_H_pay_11 : decode b_H_pay 11 = .ok (.astore_n 2, 1) := by decide +kernel
theorem d_H_pay_12 : decode b_H_pay 12 = .ok (.aload_n 2, 1) := by decide +kernel
theorem d_H_pay_13 : decode b_H_pay 13 = .ok (.iconst 0, 1) := by decide +kernel
theorem d_H_pay_14 : decode b_H_pay 14 = .ok (.putfield 209, 3) := by decide +kernel
theorem d_H_pay_17 : decode b_H_pay 17 = .ok (.aload_n 0, 1) := by decide +kernel
theorem d_H_pay_18 : decode b_H_pay 18 = .ok (.getfield 22, 3) := by decide +kernel
theorem d_H_pay_21 : decode b_H_pay 21 = .ok (.aload_n 2, 1) := by decide +kernel
theorem d_H_pay_22 : decode b_H_pay 22 = .ok (.getfield 212, 3) := by decide +kernel
theorem d_H_pay_25 : decode b_H_pay 25 = .ok (.aaload, 1) := by decide +kernel
theorem d_H_pay_26 : decode b_H_pay 26 = .ok (.dup, 1) := by decide +kernel
theorem d_H_pay_27 : decode b_H_pay 27 = .ok (.getfield 187, 3) := by decide +kernel
theorem d_H_pay_30 : decode b_H_pay 30 = .ok (.iconst 1, 1) := by decide +kernel
theorem d_H_pay_31 : decode b_H_pay 31 = .ok (.isub, 1) := by decide +kernel
theorem d_H_pay_32 : decode b_H_pay 32 = .ok (.putfield 187, 3) := by decide +kernel
theorem d_H_pay_35 : decode b_H_pay 35 = .ok (.aload_n 0, 1) := by decide +kernel
theorem d_H_pay_36 : decode b_H_pay 36 = .ok (.getfield 16, 3) := by decide +kernel
theorem d_H_pay_39 : decode b_H_pay 39 = .ok (.aload_n 2, 1) := by decide +kernel
theorem d_H_pay_40 : decode b_H_pay 40 = .ok (.getfield 199, 3) := by decide +kernel
theorem d_H_pay_43 : decode b_H_pay 43 = .ok (.iconst 1, 1) := by decide +kernel
theorem d_H_pay_44 : decode b_H_pay 44 = .ok (.isub, 1) := by decide +kernel
theorem d_H_pay_45 : decode b_H_pay 45 = .ok (.aaload, 1) := by decide +kernel
theorem d_H_pay_46 : decode b_H_pay 46 = .ok (.astore_n 3, 1) := by decide +kernel
theorem d_H_pay_47 : decode b_H_pay 47 = .ok (.lconst 0, 1) := by decide +kernel
theorem d_H_pay_48 : decode b_H_pay 48 = .ok (.lstore 4, 2) := by decide +kernel
theorem d_H_pay_50 : decode b_H_pay 50 = .ok (.iconst 0, 1) := by decide +kernel
theorem d_H_pay_51 : decode b_H_pay 51 = .ok (.istore 6, 2) := by decide +kernel
theorem d_H_pay_53 : decode b_H_pay 53 = .ok (.iload 6, 2) := by decide +kernel
theorem d_H_pay_55 : decode b_H_pay 55 = .ok (.bipush 8, 2) := by decide +kernel
theorem d_H_pay_57 : decode b_H_pay 57 = .ok (.if_icmp .ge 31, 3) := by decide +kernel
theorem d_H_pay_60 : decode b_H_pay 60 = .ok (.lload 4, 2) := by decide +kernel
theorem d_H_pay_62 : decode b_H_pay 62 = .ok (.aload_n 3, 1) := by decide +kernel
theorem d_H_pay_63 : decode b_H_pay 63 = .ok (.iload 6, 2) := by decide +kernel
theorem d_H_pay_65 : decode b_H_pay 65 = .ok (.aload_n 2, 1) := by decide +kernel
theorem d_H_pay_66 : decode b_H_pay 66 = .ok (.getfield 206, 3) := by decide +kernel
theorem d_H_pay_69 : decode b_H_pay 69 = .ok (.iload 6, 2) := by decide +kernel
theorem d_H_pay_71 : decode b_H_pay 71 = .ok (.iaload, 1) := by decide +kernel
theorem d_H_pay_72 : decode b_H_pay 72 = .ok (.aload_n 0, 1) := by decide +kernel
theorem d_H_pay_73 : decode b_H_pay 73 = .ok (.getfield 48, 3) := by decide +kernel
theorem d_H_pay_76 : decode b_H_pay 76 = .ok (.invokevirtual 215, 3) := by decide +kernel
theorem d_H_pay_79 : decode b_H_pay 79 = .ok (.ladd, 1) := by decide +kernel
theorem d_H_pay_80 : decode b_H_pay 80 = .ok (.lstore 4, 2) := by decide +kernel
theorem d_H_pay_82 : decode b_H_pay 82 = .ok (.iinc 6 1, 3) := by decide +kernel
theorem d_H_pay_85 : decode b_H_pay 85 = .ok (.goto (-32), 3) := by decide +kernel
theorem d_H_pay_88 : decode b_H_pay 88 = .ok (.lload 4, 2) := by decide +kernel
theorem d_H_pay_90 : decode b_H_pay 90 = .ok (.lreturn, 1) := by decide +kernel

set_option maxHeartbeats 4000000 in
set_option maxRecDepth 100000 in
theorem c_H_pay_x1a (l : Launch) (hadm : ∀ e : Env, l.admits e → e.platform.stackTraces = false) (Z : qZ) (hZ : qok (pX Z)) (V : qV) (Y : qY) (k : Int32) (h : f_isBasket V k = 0) : CT l y_H_pay { frames := 7, cells := 1, slots := 6, locals := 117 } (pX Z) qN [.ref (al Z 0 0), .int k] V Y (.inr "java/util/NoSuchElementException") V Y := by
  refine CT.of (cc := b_H_pay) (maxL := 7) (ret := (some .long)) hZ (by decide) w_618 (Nat.le_of_ble_eq_true rfl) ?_
  intro p e s m below meth c C hr hex hlt
  refine gq_aload_n C d_H_pay_0 rfl ?_
  refine gq_iload_n C d_H_pay_1 rfl ?_
  exact gq_thrV C (st := []) hex (fun _ h => h) (c_H_checkOpenBasket_x1 l hadm Z hZ _ _ k h) (qm (by decide) (by decide)) rfl rfl w_585 w_587 ws_H_checkOpenBasket w_588 w_1 ⟨by decide, by decide, (by decide +kernel : (parseMethodDescriptor y_H_checkOpenBasket.desc).map (fun d => d.parameters.length) = some 1)⟩ ⟨by decide, by decide⟩ ⟨by decide, by decide⟩ ⟨by decide, by decide⟩ rfl (Nat.le_of_ble_eq_true rfl) d_H_pay_2

set_option maxHeartbeats 4000000 in
set_option maxRecDepth 100000 in
theorem c_H_pay_x1b (l : Launch) (hadm : ∀ e : Env, l.admits e → e.platform.stackTraces = false) (Z : qZ) (hZ : qok (pX Z)) (V : qV) (Y : qY) (k : Nat) (hk : k < 40) (h1 : f_isBasket V (nI k) = 1) (h2 : V 15 k 2 = 0) : CT l y_H_pay { frames := 7, cells := 1, slots := 6, locals := 117 } (pX Z) qN [.ref (al Z 0 0), .int (nI k)] V Y (.inr "java/util/NoSuchElementException") V Y := by
  refine CT.of (cc := b_H_pay) (maxL := 7) (ret := (some .long)) hZ (by decide) w_618 (Nat.le_of_ble_eq_true rfl) ?_
  intro p e s m below meth c C hr hex hlt
  refine gq_aload_n C d_H_pay_0 rfl ?_
  refine gq_iload_n C d_H_pay_1 rfl ?_
  exact gq_thrV C (st := []) hex (fun _ h => h) (c_H_checkOpenBasket_x2 l hadm Z hZ _ _ k hk h1 h2) (qm (by decide) (by decide)) rfl rfl w_585 w_587 ws_H_checkOpenBasket w_588 w_1 ⟨by decide, by decide, (by decide +kernel : (parseMethodDescriptor y_H_checkOpenBasket.desc).map (fun d => d.parameters.length) = some 1)⟩ ⟨by decide, by decide⟩ ⟨by decide, by decide⟩ ⟨by decide, by decide⟩ rfl (Nat.le_of_ble_eq_true rfl) d_H_pay_2

set_option maxHeartbeats 4000000 in
set_option maxRecDepth 100000 in
theorem c_H_book (l : Launch) (Z : qZ) (hZ : qok (pX Z)) (V : qV) (Y : qY) (k : Nat) (hk : k < 40) (h1 : f_isBasket V (nI k) = 1) : CT l y_H_book { frames := 6, cells := 0, slots := 0, locals := 96 } (pX Z) qN [.ref (al Z 0 0), .int (nI k)] V Y (.inl (some (.int (V 15 k 1)))) V Y := by
  refine CT.of (cc := b_H_book) (maxL := 2) (ret := (some .int)) hZ (by decide) w_632 (Nat.le_of_ble_eq_true rfl) ?_
  intro p e s m below meth c C hr hex hlt
  refine gq_aload_n C d_H_book_0 rfl ?_
  refine gq_iload_n C d_H_book_1 rfl ?_
  refine gq_callV C (st := []) (fun _ h => h) (c_H_isBasket l Z hZ _ _ (nI k)) (qm (by decide) (by decide)) rfl rfl w_589 w_591 ws_H_isBasket w_592 w_1 ⟨by decide, by decide, (by decide +kernel : (parseMethodDescriptor y_H_isBasket.desc).map (fun d => d.parameters.length) = some 1)⟩ ⟨by decide, by decide⟩ ⟨by decide, by decide⟩ rfl (Nat.le_of_ble_eq_true rfl) d_H_book_2 ?_
  refine gq_if_ne C (tgt := 16) d_H_book_5 rfl (fun hb5 => ?_) (fun hb => by first | contradiction | simp_all)
  refine gq_aload_n C d_H_book_16 rfl ?_
  refine gq_get C (g := 0) (j := 0) (ci := 7) (k := 6) (v := .ref (al Z 14 0)) (qm (by decide) (by decide)) rfl rfl in_H (by decide) w_209 rfl d_H_book_17 ?_
  refine gq_iload_n C d_H_book_20 rfl ?_
  refine gq_aald C (g := 14) (j := 0) (a := k) (t0 := 6) (b := al Z 15 k) (qm (by decide) (by decide)) rfl rfl rfl hk (by decide) rfl d_H_book_21 ?_
  refine gq_get C (g := 15) (j := k) (ci := 0) (k := 1) (v := .int (V 15 k 1)) (qm (by decide) hk) rfl rfl in_B (by decide) w_189 rfl d_H_book_22 ?_
  exact gq_iret C hr (by decide) (by decide) d_H_book_25

set_option maxHeartbeats 4000000 in
set_option maxRecDepth 100000 in
theorem c_H_book_x (l : Launch) (hadm : ∀ e : Env, l.admits e → e.platform.stackTraces = false) (Z : qZ) (hZ : qok (pX Z)) (V : qV) (Y : qY) (k : Int32) (h : f_isBasket V k = 0) : CT l y_H_book { frames := 6, cells := 1, slots := 6, locals := 96 } (pX Z) qN [.ref (al Z 0 0), .int k] V Y (.inr "java/util/NoSuchElementException") V Y := by
  refine CT.of (cc := b_H_book) (maxL := 2) (ret := (some .int)) hZ (by decide) w_632 (Nat.le_of_ble_eq_true rfl) ?_
  intro p e s m below meth c C hr hex hlt
  refine gq_aload_n C d_H_book_0 rfl ?_
  refine gq_iload_n C d_H_book_1 rfl ?_
  refine gq_callV C (st := []) (fun _ h => h) (c_H_isBasket l Z hZ _ _ k) (qm (by decide) (by decide)) rfl rfl w_589 w_591 ws_H_isBasket w_592 w_1 ⟨by decide, by decide, (by decide +kernel : (parseMethodDescriptor y_H_isBasket.desc).map (fun d => d.parameters.length) = some 1)⟩ ⟨by decide, by decide⟩ ⟨by decide, by decide⟩ rfl (Nat.le_of_ble_eq_true rfl) d_H_book_2 ?_
  refine gq_if_ne C (tgt := 16) d_H_book_5 rfl (fun hb => by first | contradiction | contradiction) (fun hb5 => ?_)
  exact gq_throw C hadm hex hlt tw_NoSuchElementException w_593 w_594 w_18 (by decide) (by decide) (by decide) (by decide) (by decide) (Nat.le_of_ble_eq_true rfl) d_H_book_8 d_H_book_11 d_H_book_12 d_H_book_15
end
section
/-! PriceHouse: calls with loops: fetch, leastFor, pay -/
def f_fetch (t : Int32) : Nat → Nat → qV → qV
  | 0, _, V => V
  | r + 1, b, V => f_fetch t r (b + 1) (f_put V 0 t (nI b) 0)

set_option maxHeartbeats 4000000 in
set_option maxRecDepth 100000 in
theorem c_H_fetch (l : Launch) (Z : qZ) (hZ : qok (pX Z)) (V : qV) (Y : qY) (t : Nat) (ht : t < 4) (h n : Nat) (hh : h ≤ n) (hn : n ≤ 9) (h1 : V 7 t 1 = nI h) (h2 : V 0 0 2 = nI n) (hc : ∃ q, q ≤ 40 ∧ V 12 0 4 = nI q) : CT l y_H_fetch { frames := 7, cells := 0, slots := 0, locals := 116 } (pX Z) (qA (pX Z)) [.ref (al Z 0 0), .int (nI t)] V Y (.inl (some (.int (nI n - nI h)))) (f_fetch (nI t) (n - h) (h + 1) V) Y := by
  refine CT.of (cc := b_H_fetch) (maxL := 4) (ret := (some .int)) hZ (by decide) w_425 (Nat.le_of_ble_eq_true rfl) ?_
  intro p e s m below meth c C hr hex hlt
  generalize hVE : f_fetch (nI t) (n - h) (h + 1) V = VE
  have loop : ∀ (r b : Nat) (V : qV), b + r = n + 1 → V 0 0 2 = nI n → (∃ q, q ≤ 40 ∧ V 12 0 4 = nI q) → f_fetch (nI t) r b V = VE → G p l e { frames := 7, cells := 0, slots := 0, locals := 116 } s m ([.ref (al Z 0 0), .int (nI t)] : List Value).toArray below meth c (qQ below (pX Z) (qA (pX Z)) { frames := 7, cells := 0, slots := 0, locals := 116 } (.inl (some (.int (nI n - nI h)))) VE Y s) (pX Z) 4 (qA (pX Z)) V Y 0 0 18 [(3, .int (nI b)), (2, .int (nI h)), (0, .ref (al Z 0 0)), (1, .int (nI t))] [] := by
    intro r
    induction r with
    | zero =>
      intro b V hb h2 hcn hE
      obtain rfl : V = VE := hE
      refine gq_iload_n C d_H_fetch_18 rfl ?_
      refine gq_aload_n C d_H_fetch_19 rfl ?_
      refine gq_get C (g := 0) (j := 0) (ci := 7) (k := 2) (v := .int (V 0 0 2)) (qm (by decide) (by decide)) rfl rfl in_H (by decide) w_205 rfl d_H_fetch_20 ?_
      refine G.eqS (st' := [.int (nI n), .int (nI b)]) (by first | (rw [show V 0 0 2 = nI n from h2]; done) | (rw [show V 0 0 2 = nI n from h2]; rfl)) ?_
      refine gq_icmp_gt C (tgt := 43) d_H_fetch_23 rfl (fun hb23 => ?_) (fun hq => by exact absurd (show nI n < nI b from nI_lt (by omega) (by omega)) hq)
      refine gq_aload_n C d_H_fetch_43 rfl ?_
      refine gq_get C (g := 0) (j := 0) (ci := 7) (k := 2) (v := .int (V 0 0 2)) (qm (by decide) (by decide)) rfl rfl in_H (by decide) w_205 rfl d_H_fetch_44 ?_
      refine G.eqS (st' := [.int (nI n)]) (by first | (rw [show V 0 0 2 = nI n from h2]; done) | (rw [show V 0 0 2 = nI n from h2]; rfl)) ?_
      refine gq_iload_n C d_H_fetch_47 rfl ?_
      refine gq_isub C d_H_fetch_48 ?_
      exact gq_iret C hr (by decide) (by decide) d_H_fetch_49
    | succ r ih =>
      intro b V hb h2 hcn hE
      refine gq_iload_n C d_H_fetch_18 rfl ?_
      refine gq_aload_n C d_H_fetch_19 rfl ?_
      refine gq_get C (g := 0) (j := 0) (ci := 7) (k := 2) (v := .int (V 0 0 2)) (qm (by decide) (by decide)) rfl rfl in_H (by decide) w_205 rfl d_H_fetch_20 ?_
      refine G.eqS (st' := [.int (nI n), .int (nI b)]) (by first | (rw [show V 0 0 2 = nI n from h2]; done) | (rw [show V 0 0 2 = nI n from h2]; rfl)) ?_
      refine gq_icmp_gt C (tgt := 43) d_H_fetch_23 rfl (fun hq => by exact absurd (show nI n < nI b from hq) (nI_nlt (by omega) (by omega))) (fun hb23 => ?_)
      refine gq_aload_n C d_H_fetch_26 rfl ?_
      refine gq_get C (g := 0) (j := 0) (ci := 7) (k := 5) (v := .ref (al Z 12 0)) (qm (by decide) (by decide)) rfl rfl in_H (by decide) w_208 rfl d_H_fetch_27 ?_
      refine gq_iconst C (v := 0) d_H_fetch_30 (by decide) ?_
      refine gq_iload_n C d_H_fetch_31 rfl ?_
      refine gq_iload_n C d_H_fetch_32 rfl ?_
      refine gq_iconst C (v := 0) d_H_fetch_33 (by decide) ?_
      refine gq_callV C (st := []) (fun _ h => h) (c_R_put l Z hZ _ _ hcn 0 (nI t) (nI b) 0) (qm (by decide) (by decide)) rfl rfl w_362 w_363 w_364 w_365 w_7 ⟨by decide, by decide, (by decide +kernel : (parseMethodDescriptor y_R_post.desc).map (fun d => d.parameters.length) = some 4)⟩ ⟨by decide, by decide⟩ ⟨by decide, by decide⟩ rfl (Nat.le_of_ble_eq_true rfl) d_H_fetch_34 ?_
      refine gq_iinc C (k := 0) (w := nI (b + 1)) (lo' := [(3, .int (nI (b + 1))), (2, .int (nI h)), (0, .ref (al Z 0 0)), (1, .int (nI t))]) d_H_fetch_37 rfl (nI_1 b) (by decide) rfl ?_
      refine gq_goto C (tgt := 18) d_H_fetch_40 rfl ?_
      exact ih (b + 1) _ (by omega) (by rw [f_put_fr _ _ _ _ _ _ (by decide)]; exact h2) (f_put_cnt _ _ _ _ hcn) hE
  refine gq_iload_n C d_H_fetch_0 rfl ?_
  refine gq_callS C (st := []) (fun _ h => h.elim) (c_H_checkTill l Z hZ _ _ (nI t) (f_t0 ht) (f_t4 ht)) w_426 w_427 w_428 w_1 ⟨by decide, by decide, (by decide +kernel : (parseMethodDescriptor y_H_checkTill.desc).map (fun d => d.parameters.length) = some 1)⟩ ⟨by decide, by decide⟩ ⟨by decide, by decide⟩ rfl (Nat.le_of_ble_eq_true rfl) d_H_fetch_1 ?_
  refine gq_aload_n C d_H_fetch_4 rfl ?_
  refine gq_get C (g := 0) (j := 0) (ci := 7) (k := 3) (v := .ref (al Z 6 0)) (qm (by decide) (by decide)) rfl rfl in_H (by decide) w_206 rfl d_H_fetch_5 ?_
  refine gq_iload_n C d_H_fetch_8 rfl ?_
  refine gq_aald C (g := 6) (j := 0) (a := t) (t0 := 4) (b := al Z 7 t) (qm (by decide) (by decide)) rfl rfl rfl ht (by decide) rfl d_H_fetch_9 ?_
  refine gq_get C (g := 7) (j := t) (ci := 6) (k := 1) (v := .int (V 7 t 1)) (qm (by decide) ht) rfl rfl in_T (by decide) w_72 rfl d_H_fetch_10 ?_
  refine G.eqS (st' := [.int (nI h)]) (by first | (rw [show V 7 t 1 = nI h from h1]; done) | (rw [show V 7 t 1 = nI h from h1]; rfl)) ?_
  refine gq_istore_n C (lo' := [(2, .int (nI h)), (0, .ref (al Z 0 0)), (1, .int (nI t))]) d_H_fetch_13 rfl (by decide) rfl ?_
  refine gq_iload_n C d_H_fetch_14 rfl ?_
  refine gq_iconst C (v := 1) d_H_fetch_15 (by decide) ?_
  refine gq_iadd C d_H_fetch_16 ?_
  refine G.eqS (st' := [.int (nI (h + 1))]) (by first | (rw [show (nI h) + 1 = nI (h + 1) from (nI_1 h)]; done) | (rw [show (nI h) + 1 = nI (h + 1) from (nI_1 h)]; rfl)) ?_
  refine gq_istore_n C (lo' := [(3, .int (nI (h + 1))), (2, .int (nI h)), (0, .ref (al Z 0 0)), (1, .int (nI t))]) d_H_fetch_17 rfl (by decide) rfl ?_
  exact loop (n - h) (h + 1) V (by omega) h2 hc hVE
end
section
/-! the least for so many pieces: a row of longs, filled from the left; the class's way (the reference's is another part) -/
def f_s1 (f : Nat → Int64) (k z : Nat) (w : Int32) : Nat → Int64 := if z = 0 then f else if k < z then f else vp_updL f k (if f (k - z) + w.toInt64 < f k then f (k - z) + w.toInt64 else f k)
def f_st (f : Nat → Int64) (k : Nat) (pr : Int32) (z0 : Nat) (w0 : Int32) (z1 : Nat) (w1 : Int32) : Nat → Int64 := f_s1 (f_s1 (vp_updL f k (f (k - 1) + pr.toInt64)) k z0 w0) k z1 w1
def f_more (pr : Int32) (z0 : Nat) (w0 : Int32) (z1 : Nat) (w1 : Int32) : Nat → Nat → (Nat → Int64) → (Nat → Int64)
  | 0, _, f => f
  | r + 1, k, f => f_more pr z0 w0 z1 w1 r (k + 1) (f_st f k pr z0 w0 z1 w1)
def f_rows (pr : Int32) (z0 : Nat) (w0 : Int32) (z1 : Nat) (w1 : Int32) (n : Nat) (f : Nat → Int64) : Nat → Int64 := f_more pr z0 w0 z1 w1 n 1 (vp_updL f 0 0)
theorem qy_quY (Y : qY) (g j : Nat) (f : Nat → Int64) (k : Nat) (v : Int64) : qy (quY Y g j f) g j k v = quY Y g j (vp_updL f k v) := by
  funext a b
  unfold qy quY
  by_cases h : a = g ∧ b = j
  · simp [h]
  · simp [h]

theorem d_L_leastFor_0 : decode b_L_leastFor 0 = .ok (.aload_n 3, 1) := by decide +kernel
theorem d_L_leastFor_1 : decode b_L_leastFor 1 = .ok (.iconst 0, 1) := by decide +kernel
theorem d_L_leastFor_2 : decode b_L_leastFor 2 = .ok (.lconst 0, 1) := by decide +kernel
theorem d_L_leastFor_3 : decode b_L_leastFor 3 = .ok (.lastore, 1) := by decide +kernel
theorem d_L_leastFor_4 : decode b_L_leastFor 4 = .ok (.iconst 1, 1) := by decide +kernel
theorem d_L_leastFor_5 : decode b_L_leastFor 5 = .ok (.istore 4, 2) := by decide +kernel
theorem d_L_leastFor_7 : decode b_L_leastFor 7 = .ok (.iload 4, 2) := by decide +kernel
theorem d_L_leastFor_9 : decode b_L_leastFor 9 = .ok (.iload_n 2, 1) := by decide +kernel
theorem d_L_leastFor_10 : decode b_L_leastFor 10 = .ok (.if_icmp .gt 102, 3) := by decide +kernel
theorem d_L_leastFor_13 : decode b_L_leastFor 13 = .ok (.aload_n 3, 1) := by decide +kernel
theorem d_L_leastFor_14 : decode b_L_leastFor 14 = .ok (.iload 4, 2) := by decide +kernel
theorem d_L_leastFor_16 : decode b_L_leastFor 16 = .ok (.aload_n 3, 1) := by decide +kernel
theorem d_L_leastFor_17 : decode b_L_leastFor 17 = .ok (.iload 4, 2) := by decide +kernel
theorem d_L_leastFor_19 : decode b_L_leastFor 19 = .ok (.iconst 1, 1) := by decide +kernel
theorem d_L_leastFor_20 : decode b_L_leastFor 20 = .ok (.isub, 1) := by decide +kernel
theorem d_L_leastFor_21 : decode b_L_leastFor 21 = .ok (.laload, 1) := by decide +kernel
theorem d_L_leastFor_22 : decode b_L_leastFor 22 = .ok (.aload_n 0, 1) := by decide +kernel
theorem d_L_leastFor_23 : decode b_L_leastFor 23 = .ok (.getfield 9, 3) := by decide +kernel
theorem d_L_leastFor_26 : decode b_L_leastFor 26 = .ok (.iload_n 1, 1) := by decide +kernel
theorem d_L_leastFor_27 : decode b_L_leastFor 27 = .ok (.iaload, 1) := by decide +kernel
theorem d_L_leastFor_28 : decode b_L_leastFor 28 = .ok (.i2l, 1) := by decide +kernel
theorem d_L_leastFor_29 : decode b_L_leastFor 29 = .ok (.ladd, 1) := by decide +kernel
theorem d_L_leastFor_30 : decode b_L_leastFor 30 = .ok (.lastore, 1) := by decide +kernel
theorem d_L_leastFor_31 : decode b_L_leastFor 31 = .ok (.iload_n 1, 1) := by decide +kernel
theorem d_L_leastFor_32 : decode b_L_leastFor 32 = .ok (.iconst 2, 1) := by decide +kernel
theorem d_L_leastFor_33 : decode b_L_leastFor 33 = .ok (.imul, 1) := by decide +kernel
theorem d_L_leastFor_34 : decode b_L_leastFor 34 = .ok (.istore 5, 2) := by decide +kernel
theorem d_L_leastFor_36 : decode b_L_leastFor 36 = .ok (.iload 5, 2) := by decide +kernel
theorem d_L_leastFor_38 : decode b_L_leastFor 38 = .ok (.iload_n 1, 1) := by decide +kernel
theorem d_L_leastFor_39 : decode b_L_leastFor 39 = .ok (.iconst 1, 1) := by decide +kernel
theorem d_L_leastFor_40 : decode b_L_leastFor 40 = .ok (.iadd, 1) := by decide +kernel
theorem d_L_leastFor_41 : decode b_L_leastFor 41 = .ok (.iconst 2, 1) := by decide +kernel
theorem d_L_leastFor_42 : decode b_L_leastFor 42 = .ok (.imul, 1) := by decide +kernel
theorem d_L_leastFor_43 : decode b_L_leastFor 43 = .ok (.if_icmp .ge 63, 3) := by decide +kernel
theorem d_L_leastFor_46 : decode b_L_leastFor 46 = .ok (.aload_n 0, 1) := by decide +kernel
theorem d_L_leastFor_47 : decode b_L_leastFor 47 = .ok (.getfield 15, 3) := by decide +kernel
theorem d_L_leastFor_50 : decode b_L_leastFor 50 = .ok (.iload 5, 2) := by decide +kernel
theorem d_L_leastFor_52 : decode b_L_leastFor 52 = .ok (.iaload, 1) := by decide +kernel
theorem d_L_leastFor_53 : decode b_L_leastFor 53 = .ok (.ifCond .eq 47, 3) := by decide +kernel
theorem d_L_leastFor_56 : decode b_L_leastFor 56 = .ok (.aload_n 0, 1) := by decide +kernel
theorem d_L_leastFor_57 : decode b_L_leastFor 57 = .ok (.getfield 15, 3) := by decide +kernel
theorem d_L_leastFor_60 : decode b_L_leastFor 60 = .ok (.iload 5, 2) := by decide +kernel
theorem d_L_leastFor_62 : decode b_L_leastFor 62 = .ok (.iaload, 1) := by decide +kernel
theorem d_L_leastFor_63 : decode b_L_leastFor 63 = .ok (.iload 4, 2) := by decide +kernel
theorem d_L_leastFor_65 : decode b_L_leastFor 65 = .ok (.if_icmp .gt 35, 3) := by decide +kernel
theorem d_L_leastFor_68 : decode b_L_leastFor 68 = .ok (.aload_n 3, 1) := by decide +kernel
theorem d_L_leastFor_69 : decode b_L_leastFor 69 = .ok (.iload 4, 2) := by decide +kernel
theorem d_L_leastFor_71 : decode b_L_leastFor 71 = .ok (.aload_n 3, 1) := by decide +kernel
theorem d_L_leastFor_72 : decode b_L_leastFor 72 = .ok (.iload 4, 2) := by decide +kernel
theorem d_L_leastFor_74 : decode b_L_leastFor 74 = .ok (.laload, 1) := by decide +kernel
theorem d_L_leastFor_75 : decode b_L_leastFor 75 = .ok (.aload_n 3, 1) := by decide +kernel
theorem d_L_leastFor_76 : decode b_L_leastFor 76 = .ok (.iload 4, 2) := by decide +kernel
theorem d_L_leastFor_78 : decode b_L_leastFor 78 = .ok (.aload_n 0, 1) := by decide +kernel
theorem d_L_leastFor_79 : decode b_L_leastFor 79 = .ok (.getfield 15, 3) := by decide +kernel
theorem d_L_leastFor_82 : decode b_L_leastFor 82 = .ok (.iload 5, 2) := by decide +kernel
theorem d_L_leastFor_84 : decode b_L_leastFor 84 = .ok (.iaload, 1) := by decide +kernel
theorem d_L_leastFor_85 : decode b_L_leastFor 85 = .ok (.isub, 1) := by decide +kernel
theorem d_L_leastFor_86 : decode b_L_leastFor 86 = .ok (.laload, 1) := by decide +kernel
theorem d_L_leastFor_87 : decode b_L_leastFor 87 = .ok (.aload_n 0, 1) := by decide +kernel
theorem d_L_leastFor_88 : decode b_L_leastFor 88 = .ok (.getfield 18, 3) := by decide +kernel
theorem d_L_leastFor_91 : decode b_L_leastFor 91 = .ok (.iload 5, 2) := by decide +kernel
theorem d_L_leastFor_93 : decode b_L_leastFor 93 = .ok (.iaload, 1) := by decide +kernel
theorem d_L_leastFor_94 : decode b_L_leastFor 94 = .ok (.i2l, 1) := by decide +kernel
theorem d_L_leastFor_95 : decode b_L_leastFor 95 = .ok (.ladd, 1) := by decide +kernel
theorem d_L_leastFor_96 : decode b_L_leastFor 96 = .ok (.invokestatic 27, 3) := by decide +kernel
theorem d_L_leastFor_99 : decode b_L_leastFor 99 = .ok (.lastore, 1) := by decide +kernel
theorem d_L_leastFor_100 : decode b_L_leastFor 100 = .ok (.iinc 5 1, 3) := by decide +kernel
theorem d_L_leastFor_103 : decode b_L_leastFor 103 = .ok (.goto (-67), 3) := by decide +kernel
theorem d_L_leastFor_106 : decode b_L_leastFor 106 = .ok (.iinc 4 1, 3) := by decide +kernel
theorem d_L_leastFor_109 : decode b_L_leastFor 109 = .ok (.goto (-102), 3) := by decide +kernel
theorem d_L_leastFor_112 : decode b_L_leastFor 112 = .ok (.aload_n 3, 1) := by decide +kernel
theorem d_L_leastFor_113 : decode b_L_leastFor 113 = .ok (.iload_n 2, 1) := by decide +kernel
theorem d_L_leastFor_114 : decode b_L_leastFor 114 = .ok (.laload, 1) := by decide +kernel
theorem d_L_leastFor_115 : decode b_L_leastFor 115 = .ok (.lreturn, 1) := by decide +kernel

set_option maxHeartbeats 4000000 in
set_option maxRecDepth 100000 in
theorem c_L_leastFor (l : Launch) (Z : qZ) (hZ : qok (pX Z)) (V : qV) (Y : qY) (j : Nat) (hj : j < 10) (a : Nat) (ha : a < 8) (n : Nat) (hn : n ≤ 30) (z0 z1 : Nat) (h0 : V 3 j (a * 2) = nI z0) (h1 : V 3 j (a * 2 + 1) = nI z1) (hz0 : z0 < 100) (hz1 : z1 < 100) : CT l y_L_leastFor { frames := 1, cells := 0, slots := 0, locals := 60 } (pX Z) (qA (pX Z)) [.ref (al Z 1 j), .int (nI a), .int (nI n), .ref (al Z 17 0)] V Y (.inl (some (.long (f_rows (V 2 j a) z0 (V 4 j (a * 2)) z1 (V 4 j (a * 2 + 1)) n (Y 17 0) n)))) V (quY Y 17 0 (f_rows (V 2 j a) z0 (V 4 j (a * 2)) z1 (V 4 j (a * 2 + 1)) n (Y 17 0))) := by
  refine CT.of (cc := b_L_leastFor) (maxL := 6) (ret := (some .long)) hZ (by decide) w_622 (Nat.le_of_ble_eq_true rfl) ?_
  intro p e s m below meth c C hr hex hlt
  generalize hE : f_rows (V 2 j a) z0 (V 4 j (a * 2)) z1 (V 4 j (a * 2 + 1)) n (Y 17 0) = E
  have slot : ∀ (k : Nat) (g : Nat → Int64) (u z : Nat) (w : Int32), k + 1 ≤ 30 → u < 16 → V 3 j u = nI z → V 4 j u = w → z < 100 → G p l e { frames := 1, cells := 0, slots := 0, locals := 60 } s m ([.ref (al Z 1 j), .int (nI a), .int (nI n), .ref (al Z 17 0)] : List Value).toArray below meth c (qQ below (pX Z) (qA (pX Z)) { frames := 1, cells := 0, slots := 0, locals := 60 } (.inl (some (.long (E n)))) V (quY Y 17 0 E) s) (pX Z) 6 (qA (pX Z)) V (quY Y 17 0 (f_s1 g (k + 1) z w)) 0 0 100 [(5, .int (nI u)), (4, .int (nI (k + 1))), (0, .ref (al Z 1 j)), (1, .int (nI a)), (2, .int (nI n)), (3, .ref (al Z 17 0))] [] → G p l e { frames := 1, cells := 0, slots := 0, locals := 60 } s m ([.ref (al Z 1 j), .int (nI a), .int (nI n), .ref (al Z 17 0)] : List Value).toArray below meth c (qQ below (pX Z) (qA (pX Z)) { frames := 1, cells := 0, slots := 0, locals := 60 } (.inl (some (.long (E n)))) V (quY Y 17 0 E) s) (pX Z) 6 (qA (pX Z)) V (quY Y 17 0 g) 0 0 46 [(5, .int (nI u)), (4, .int (nI (k + 1))), (0, .ref (al Z 1 j)), (1, .int (nI a)), (2, .int (nI n)), (3, .ref (al Z 17 0))] [] := by
    intro k g u z w hk hu hz hw hz9 kk
    by_cases hz0 : z = 0
    · have e : f_s1 g (k + 1) z w = g := by unfold f_s1; rw [if_pos hz0]
      rw [e] at kk
      refine gq_aload_n C d_L_leastFor_46 rfl ?_
      refine gq_get C (g := 1) (j := j) (ci := 5) (k := 1) (v := .ref (al Z 3 j)) (qm (by decide) hj) rfl rfl in_L (by decide) w_35 rfl d_L_leastFor_47 ?_
      refine gq_iload C d_L_leastFor_50 rfl ?_
      refine gq_iald C (g := 3) (j := j) (a := u) (t0 := 0) (qm (by decide) hj) rfl rfl rfl hu (by decide) d_L_leastFor_52 ?_
      refine G.eqS (st' := [.int (nI z)]) (by first | (rw [show V 3 j u = nI z from hz]; done) | (rw [show V 3 j u = nI z from hz]; rfl)) ?_
      refine gq_if_eq C (tgt := 100) d_L_leastFor_53 rfl (fun hb53 => ?_) (fun hb => by exact absurd (by rw [hz0]; rfl) hb)
      exact kk
    · by_cases hzk : k + 1 < z
      · have e : f_s1 g (k + 1) z w = g := by unfold f_s1; rw [if_neg hz0, if_pos hzk]
        rw [e] at kk
        refine gq_aload_n C d_L_leastFor_46 rfl ?_
        refine gq_get C (g := 1) (j := j) (ci := 5) (k := 1) (v := .ref (al Z 3 j)) (qm (by decide) hj) rfl rfl in_L (by decide) w_35 rfl d_L_leastFor_47 ?_
        refine gq_iload C d_L_leastFor_50 rfl ?_
        refine gq_iald C (g := 3) (j := j) (a := u) (t0 := 0) (qm (by decide) hj) rfl rfl rfl hu (by decide) d_L_leastFor_52 ?_
        refine G.eqS (st' := [.int (nI z)]) (by first | (rw [show V 3 j u = nI z from hz]; done) | (rw [show V 3 j u = nI z from hz]; rfl)) ?_
        refine gq_if_eq C (tgt := 100) d_L_leastFor_53 rfl (fun hb => by exact absurd ((nI_eq (a := z) (b := 0) (by omega) (by omega)).mp hb) hz0) (fun hb53 => ?_)
        refine gq_aload_n C d_L_leastFor_56 rfl ?_
        refine gq_get C (g := 1) (j := j) (ci := 5) (k := 1) (v := .ref (al Z 3 j)) (qm (by decide) hj) rfl rfl in_L (by decide) w_35 rfl d_L_leastFor_57 ?_
        refine gq_iload C d_L_leastFor_60 rfl ?_
        refine gq_iald C (g := 3) (j := j) (a := u) (t0 := 0) (qm (by decide) hj) rfl rfl rfl hu (by decide) d_L_leastFor_62 ?_
        refine G.eqS (st' := [.int (nI z)]) (by first | (rw [show V 3 j u = nI z from hz]; done) | (rw [show V 3 j u = nI z from hz]; rfl)) ?_
        refine gq_iload C d_L_leastFor_63 rfl ?_
        refine gq_icmp_gt C (tgt := 100) d_L_leastFor_65 rfl (fun hb65 => ?_) (fun hb => by exact absurd (nI_lt hzk (by omega)) hb)
        exact kk
      · have e : f_s1 g (k + 1) z w = vp_updL g (k + 1) (if g (k + 1 - z) + w.toInt64 < g (k + 1) then g (k + 1 - z) + w.toInt64 else g (k + 1)) := by unfold f_s1; rw [if_neg hz0, if_neg hzk]
        rw [e, ← qy_quY] at kk
        refine gq_aload_n C d_L_leastFor_46 rfl ?_
        refine gq_get C (g := 1) (j := j) (ci := 5) (k := 1) (v := .ref (al Z 3 j)) (qm (by decide) hj) rfl rfl in_L (by decide) w_35 rfl d_L_leastFor_47 ?_
        refine gq_iload C d_L_leastFor_50 rfl ?_
        refine gq_iald C (g := 3) (j := j) (a := u) (t0 := 0) (qm (by decide) hj) rfl rfl rfl hu (by decide) d_L_leastFor_52 ?_
        refine G.eqS (st' := [.int (nI z)]) (by first | (rw [show V 3 j u = nI z from hz]; done) | (rw [show V 3 j u = nI z from hz]; rfl)) ?_
        refine gq_if_eq C (tgt := 100) d_L_leastFor_53 rfl (fun hb => by exact absurd ((nI_eq (a := z) (b := 0) (by omega) (by omega)).mp hb) hz0) (fun hb53 => ?_)
        refine gq_aload_n C d_L_leastFor_56 rfl ?_
        refine gq_get C (g := 1) (j := j) (ci := 5) (k := 1) (v := .ref (al Z 3 j)) (qm (by decide) hj) rfl rfl in_L (by decide) w_35 rfl d_L_leastFor_57 ?_
        refine gq_iload C d_L_leastFor_60 rfl ?_
        refine gq_iald C (g := 3) (j := j) (a := u) (t0 := 0) (qm (by decide) hj) rfl rfl rfl hu (by decide) d_L_leastFor_62 ?_
        refine G.eqS (st' := [.int (nI z)]) (by first | (rw [show V 3 j u = nI z from hz]; done) | (rw [show V 3 j u = nI z from hz]; rfl)) ?_
        refine gq_iload C d_L_leastFor_63 rfl ?_
        refine gq_icmp_gt C (tgt := 100) d_L_leastFor_65 rfl (fun hb => by exact absurd hb (nI_nlt (by omega) (by omega))) (fun hb65 => ?_)
        refine gq_aload_n C d_L_leastFor_68 rfl ?_
        refine gq_iload C d_L_leastFor_69 rfl ?_
        refine gq_aload_n C d_L_leastFor_71 rfl ?_
        refine gq_iload C d_L_leastFor_72 rfl ?_
        refine gq_lald C (g := 17) (j := 0) (a := (k + 1)) (t0 := 1) (qm (by decide) (by decide)) rfl rfl rfl (by omega) (by decide) d_L_leastFor_74 ?_
        refine G.eqS (st' := [.long (g (k + 1)), .int (nI (k + 1)), .ref (al Z 17 0)]) (by first | (rw [show quY Y 17 0 g 17 0 (k + 1) = g (k + 1) from rfl]; done) | (rw [show quY Y 17 0 g 17 0 (k + 1) = g (k + 1) from rfl]; rfl)) ?_
        refine gq_aload_n C d_L_leastFor_75 rfl ?_
        refine gq_iload C d_L_leastFor_76 rfl ?_
        refine gq_aload_n C d_L_leastFor_78 rfl ?_
        refine gq_get C (g := 1) (j := j) (ci := 5) (k := 1) (v := .ref (al Z 3 j)) (qm (by decide) hj) rfl rfl in_L (by decide) w_35 rfl d_L_leastFor_79 ?_
        refine gq_iload C d_L_leastFor_82 rfl ?_
        refine gq_iald C (g := 3) (j := j) (a := u) (t0 := 0) (qm (by decide) hj) rfl rfl rfl hu (by decide) d_L_leastFor_84 ?_
        refine G.eqS (st' := [.int (nI z), .int (nI (k + 1)), .ref (al Z 17 0), .long (g (k + 1)), .int (nI (k + 1)), .ref (al Z 17 0)]) (by first | (rw [show V 3 j u = nI z from hz]; done) | (rw [show V 3 j u = nI z from hz]; rfl)) ?_
        refine gq_isub C d_L_leastFor_85 ?_
        refine G.eqS (st' := [.int (nI (k + 1 - z)), .ref (al Z 17 0), .long (g (k + 1)), .int (nI (k + 1)), .ref (al Z 17 0)]) (by first | (rw [show (nI (k + 1)) - (nI z) = nI (k + 1 - z) from (pk_sub (by omega))]; done) | (rw [show (nI (k + 1)) - (nI z) = nI (k + 1 - z) from (pk_sub (by omega))]; rfl)) ?_
        refine gq_lald C (g := 17) (j := 0) (a := (k + 1 - z)) (t0 := 1) (qm (by decide) (by decide)) rfl rfl rfl (by omega) (by decide) d_L_leastFor_86 ?_
        refine G.eqS (st' := [.long (g (k + 1 - z)), .long (g (k + 1)), .int (nI (k + 1)), .ref (al Z 17 0)]) (by first | (rw [show quY Y 17 0 g 17 0 (k + 1 - z) = g (k + 1 - z) from rfl]; done) | (rw [show quY Y 17 0 g 17 0 (k + 1 - z) = g (k + 1 - z) from rfl]; rfl)) ?_
        refine gq_aload_n C d_L_leastFor_87 rfl ?_
        refine gq_get C (g := 1) (j := j) (ci := 5) (k := 2) (v := .ref (al Z 4 j)) (qm (by decide) hj) rfl rfl in_L (by decide) w_37 rfl d_L_leastFor_88 ?_
        refine gq_iload C d_L_leastFor_91 rfl ?_
        refine gq_iald C (g := 4) (j := j) (a := u) (t0 := 0) (qm (by decide) hj) rfl rfl rfl hu (by decide) d_L_leastFor_93 ?_
        refine G.eqS (st' := [.int w, .long (g (k + 1 - z)), .long (g (k + 1)), .int (nI (k + 1)), .ref (al Z 17 0)]) (by first | (rw [show V 4 j u = w from hw]; done) | (rw [show V 4 j u = w from hw]; rfl)) ?_
        refine gq_i2l C d_L_leastFor_94 ?_
        refine gq_ladd C d_L_leastFor_95 ?_
        refine gq_minL C w_623 w_624 w_17 w_625 (by decide) (Nat.le_of_ble_eq_true rfl) (by decide) (by decide) d_L_leastFor_96 ?_
        refine gq_last C (fun _ h => h) (g := 17) (j := 0) (a := (k + 1)) (t0 := 1) (qm (by decide) (by decide)) (fun _ => rfl) rfl rfl (by omega) (by decide) d_L_leastFor_99 ?_
        exact kk
  have loop : ∀ (r k : Nat) (g : Nat → Int64) (lx : List (Nat × Value)), k + r = n → f_more (V 2 j a) z0 (V 4 j (a * 2)) z1 (V 4 j (a * 2 + 1)) r (k + 1) g = E → (∀ q ∈ ([(4, .int (nI (k + 1))), (0, .ref (al Z 1 j)), (1, .int (nI a)), (2, .int (nI n)), (3, .ref (al Z 17 0))] : List (Nat × Value)), q ∈ lx) → G p l e { frames := 1, cells := 0, slots := 0, locals := 60 } s m ([.ref (al Z 1 j), .int (nI a), .int (nI n), .ref (al Z 17 0)] : List Value).toArray below meth c (qQ below (pX Z) (qA (pX Z)) { frames := 1, cells := 0, slots := 0, locals := 60 } (.inl (some (.long (E n)))) V (quY Y 17 0 E) s) (pX Z) 6 (qA (pX Z)) V (quY Y 17 0 g) 0 0 7 lx [] := by
    intro r
    induction r with
    | zero =>
      intro k g lx hk hE hx
      obtain rfl : g = E := hE
      obtain rfl : k = n := by omega
      refine G.sub hx ?_
      refine gq_iload C d_L_leastFor_7 rfl ?_
      refine gq_iload_n C d_L_leastFor_9 rfl ?_
      refine gq_icmp_gt C (tgt := 112) d_L_leastFor_10 rfl (fun hb10 => ?_) (fun hb => by exact absurd (nI_lt (by omega) (by omega)) hb)
      refine gq_aload_n C d_L_leastFor_112 rfl ?_
      refine gq_iload_n C d_L_leastFor_113 rfl ?_
      refine gq_lald C (g := 17) (j := 0) (a := k) (t0 := 1) (qm (by decide) (by decide)) rfl rfl rfl (by omega) (by decide) d_L_leastFor_114 ?_
      refine G.eqS (st' := [.long (g k)]) (by first | (rw [show quY Y 17 0 g 17 0 k = g k from rfl]; done) | (rw [show quY Y 17 0 g 17 0 k = g k from rfl]; rfl)) ?_
      exact gq_lret C hr (by decide) (by decide) d_L_leastFor_115
    | succ r ih =>
      intro k g lx hk hE hx
      refine G.sub hx ?_
      refine gq_iload C d_L_leastFor_7 rfl ?_
      refine gq_iload_n C d_L_leastFor_9 rfl ?_
      refine gq_icmp_gt C (tgt := 112) d_L_leastFor_10 rfl (fun hb => by exact absurd hb (nI_nlt (by omega) (by omega))) (fun hb10 => ?_)
      refine gq_aload_n C d_L_leastFor_13 rfl ?_
      refine gq_iload C d_L_leastFor_14 rfl ?_
      refine gq_aload_n C d_L_leastFor_16 rfl ?_
      refine gq_iload C d_L_leastFor_17 rfl ?_
      refine gq_iconst C (v := 1) d_L_leastFor_19 (by decide) ?_
      refine gq_isub C d_L_leastFor_20 ?_
      refine G.eqS (st' := [.int (nI k), .ref (al Z 17 0), .int (nI (k + 1)), .ref (al Z 17 0)]) (by first | (rw [show (nI (k + 1)) - 1 = nI k from (nI_pred k)]; done) | (rw [show (nI (k + 1)) - 1 = nI k from (nI_pred k)]; rfl)) ?_
      refine gq_lald C (g := 17) (j := 0) (a := k) (t0 := 1) (qm (by decide) (by decide)) rfl rfl rfl (by omega) (by decide) d_L_leastFor_21 ?_
      refine G.eqS (st' := [.long (g k), .int (nI (k + 1)), .ref (al Z 17 0)]) (by first | (rw [show quY Y 17 0 g 17 0 k = g k from rfl]; done) | (rw [show quY Y 17 0 g 17 0 k = g k from rfl]; rfl)) ?_
      refine gq_aload_n C d_L_leastFor_22 rfl ?_
      refine gq_get C (g := 1) (j := j) (ci := 5) (k := 0) (v := .ref (al Z 2 j)) (qm (by decide) hj) rfl rfl in_L (by decide) w_33 rfl d_L_leastFor_23 ?_
      refine gq_iload_n C d_L_leastFor_26 rfl ?_
      refine gq_iald C (g := 2) (j := j) (a := a) (t0 := 0) (qm (by decide) hj) rfl rfl rfl ha (by decide) d_L_leastFor_27 ?_
      refine gq_i2l C d_L_leastFor_28 ?_
      refine gq_ladd C d_L_leastFor_29 ?_
      refine gq_last C (fun _ h => h) (g := 17) (j := 0) (a := (k + 1)) (t0 := 1) (qm (by decide) (by decide)) (fun _ => rfl) rfl rfl (by omega) (by decide) d_L_leastFor_30 ?_
      refine G.eqY (qy_quY _ _ _ _ _ _) ?_
      generalize hg1 : vp_updL g (k + 1) (g k + (V 2 j a).toInt64) = g1
      refine gq_iload_n C d_L_leastFor_31 rfl ?_
      refine gq_iconst C (v := 2) d_L_leastFor_32 (by decide) ?_
      refine gq_imul C d_L_leastFor_33 ?_
      refine G.eqS (st' := [.int (nI (a * 2))]) (by first | (rw [show (nI a) * 2 = nI (a * 2) from (by rw [show (2 : Int32) = nI 2 from rfl, pk_mul])]; done) | (rw [show (nI a) * 2 = nI (a * 2) from (by rw [show (2 : Int32) = nI 2 from rfl, pk_mul])]; rfl)) ?_
      refine gq_istore C (lo' := [(5, .int (nI (a * 2))), (4, .int (nI (k + 1))), (0, .ref (al Z 1 j)), (1, .int (nI a)), (2, .int (nI n)), (3, .ref (al Z 17 0))]) d_L_leastFor_34 (by decide) rfl ?_
      refine gq_iload C d_L_leastFor_36 rfl ?_
      refine gq_iload_n C d_L_leastFor_38 rfl ?_
      refine gq_iconst C (v := 1) d_L_leastFor_39 (by decide) ?_
      refine gq_iadd C d_L_leastFor_40 ?_
      refine G.eqS (st' := [.int (nI (a + 1)), .int (nI (a * 2))]) (by first | (rw [show (nI a) + 1 = nI (a + 1) from (nI_1 a)]; done) | (rw [show (nI a) + 1 = nI (a + 1) from (nI_1 a)]; rfl)) ?_
      refine gq_iconst C (v := 2) d_L_leastFor_41 (by decide) ?_
      refine gq_imul C d_L_leastFor_42 ?_
      refine G.eqS (st' := [.int (nI ((a + 1) * 2)), .int (nI (a * 2))]) (by first | (rw [show (nI (a + 1)) * 2 = nI ((a + 1) * 2) from (by rw [show (2 : Int32) = nI 2 from rfl, pk_mul])]; done) | (rw [show (nI (a + 1)) * 2 = nI ((a + 1) * 2) from (by rw [show (2 : Int32) = nI 2 from rfl, pk_mul])]; rfl)) ?_
      refine gq_icmp_ge C (tgt := 106) d_L_leastFor_43 rfl (fun hb => by exact absurd hb (nI_ge (by omega) (by omega))) (fun hb43 => ?_)
      refine slot k g1 (a * 2) z0 _ (by omega) (by omega) h0 rfl hz0 ?_
      generalize hg2 : f_s1 g1 (k + 1) z0 (V 4 j (a * 2)) = g2
      refine gq_iinc C (k := 0) (w := nI (a * 2 + 1)) (lo' := [(5, .int (nI (a * 2 + 1))), (4, .int (nI (k + 1))), (0, .ref (al Z 1 j)), (1, .int (nI a)), (2, .int (nI n)), (3, .ref (al Z 17 0))]) d_L_leastFor_100 rfl (nI_1 (a * 2)) (by decide) rfl ?_
      refine gq_goto C (tgt := 36) d_L_leastFor_103 rfl ?_
      refine gq_iload C d_L_leastFor_36 rfl ?_
      refine gq_iload_n C d_L_leastFor_38 rfl ?_
      refine gq_iconst C (v := 1) d_L_leastFor_39 (by decide) ?_
      refine gq_iadd C d_L_leastFor_40 ?_
      refine G.eqS (st' := [.int (nI (a + 1)), .int (nI (a * 2 + 1))]) (by first | (rw [show (nI a) + 1 = nI (a + 1) from (nI_1 a)]; done) | (rw [show (nI a) + 1 = nI (a + 1) from (nI_1 a)]; rfl)) ?_
      refine gq_iconst C (v := 2) d_L_leastFor_41 (by decide) ?_
      refine gq_imul C d_L_leastFor_42 ?_
      refine G.eqS (st' := [.int (nI ((a + 1) * 2)), .int (nI (a * 2 + 1))]) (by first | (rw [show (nI (a + 1)) * 2 = nI ((a + 1) * 2) from (by rw [show (2 : Int32) = nI 2 from rfl, pk_mul])]; done) | (rw [show (nI (a + 1)) * 2 = nI ((a + 1) * 2) from (by rw [show (2 : Int32) = nI 2 from rfl, pk_mul])]; rfl)) ?_
      refine gq_icmp_ge C (tgt := 106) d_L_leastFor_43 rfl (fun hb => by exact absurd hb (nI_ge (by omega) (by omega))) (fun hb43 => ?_)
      refine slot k g2 (a * 2 + 1) z1 _ (by omega) (by omega) h1 rfl hz1 ?_
      generalize hg3 : f_s1 g2 (k + 1) z1 (V 4 j (a * 2 + 1)) = g3
      refine gq_iinc C (k := 0) (w := nI (a * 2 + 2)) (lo' := [(5, .int (nI (a * 2 + 2))), (4, .int (nI (k + 1))), (0, .ref (al Z 1 j)), (1, .int (nI a)), (2, .int (nI n)), (3, .ref (al Z 17 0))]) d_L_leastFor_100 rfl (nI_1 (a * 2 + 1)) (by decide) rfl ?_
      refine gq_goto C (tgt := 36) d_L_leastFor_103 rfl ?_
      refine gq_iload C d_L_leastFor_36 rfl ?_
      refine gq_iload_n C d_L_leastFor_38 rfl ?_
      refine gq_iconst C (v := 1) d_L_leastFor_39 (by decide) ?_
      refine gq_iadd C d_L_leastFor_40 ?_
      refine G.eqS (st' := [.int (nI (a + 1)), .int (nI (a * 2 + 2))]) (by first | (rw [show (nI a) + 1 = nI (a + 1) from (nI_1 a)]; done) | (rw [show (nI a) + 1 = nI (a + 1) from (nI_1 a)]; rfl)) ?_
      refine gq_iconst C (v := 2) d_L_leastFor_41 (by decide) ?_
      refine gq_imul C d_L_leastFor_42 ?_
      refine G.eqS (st' := [.int (nI ((a + 1) * 2)), .int (nI (a * 2 + 2))]) (by first | (rw [show (nI (a + 1)) * 2 = nI ((a + 1) * 2) from (by rw [show (2 : Int32) = nI 2 from rfl, pk_mul])]; done) | (rw [show (nI (a + 1)) * 2 = nI ((a + 1) * 2) from (by rw [show (2 : Int32) = nI 2 from rfl, pk_mul])]; rfl)) ?_
      refine gq_icmp_ge C (tgt := 106) d_L_leastFor_43 rfl (fun hb43 => ?_) (fun hb => by exact absurd (nI_le (by omega) (by omega)) hb)
      refine gq_iinc C (k := 1) (w := nI (k + 1 + 1)) (lo' := [(4, .int (nI (k + 1 + 1))), (5, .int (nI (a * 2 + 2))), (0, .ref (al Z 1 j)), (1, .int (nI a)), (2, .int (nI n)), (3, .ref (al Z 17 0))]) d_L_leastFor_106 rfl (nI_1 (k + 1)) (by decide) rfl ?_
      refine gq_goto C (tgt := 7) d_L_leastFor_109 rfl ?_
      refine ih (k + 1) g3 _ (by omega) ?_ (fun q hq => by simp only [List.mem_cons, List.not_mem_nil, or_false] at hq ⊢; rcases hq with h | h | h | h | h <;> simp [h])
      rw [← hE]
      show _ = f_more _ _ _ _ _ r (k + 1 + 1) (f_st g (k + 1) _ _ _ _ _)
      rw [← hg3, ← hg2, ← hg1]
      rfl
  refine gq_aload_n C d_L_leastFor_0 rfl ?_
  refine gq_iconst C (v := 0) d_L_leastFor_1 (by decide) ?_
  refine gq_lconst C (v := 0) d_L_leastFor_2 (by decide) ?_
  refine gq_last C (fun _ h => h) (g := 17) (j := 0) (a := 0) (t0 := 1) (qm (by decide) (by decide)) (fun _ => rfl) rfl rfl (by decide) (by decide) d_L_leastFor_3 ?_
  refine gq_iconst C (v := 1) d_L_leastFor_4 (by decide) ?_
  refine gq_istore C (lo' := [(4, .int 1), (0, .ref (al Z 1 j)), (1, .int (nI a)), (2, .int (nI n)), (3, .ref (al Z 17 0))]) d_L_leastFor_5 (by decide) rfl ?_
  exact loop n 0 (vp_updL (Y 17 0) 0 0) _ (by omega) hE (fun q hq => hq)
end
section
/-! pay -/
def f_payR (V : qV) (b : Nat) (pn zf : Nat → Nat) : Nat → Nat → (Nat → Int64) → Int64 → (Nat → Int64) × Int64
  | 0, _, f, s => (f, s)
  | r + 1, a, f, s => f_payR V b pn zf r (a + 1) (f_rows (V 2 b a) (zf (a * 2)) (V 4 b (a * 2)) (zf (a * 2 + 1)) (V 4 b (a * 2 + 1)) (pn a) f) (s + f_rows (V 2 b a) (zf (a * 2)) (V 4 b (a * 2)) (zf (a * 2 + 1)) (V 4 b (a * 2 + 1)) (pn a) f (pn a))
def f_pay (V : qV) (k t : Nat) : qV := qv (qv V 15 k 2 0) 7 t 7 (V 7 t 7 - 1)
theorem quY_quY (Y : qY) (g j : Nat) (f f' : Nat → Int64) : quY (quY Y g j f) g j f' = quY Y g j f' := by
  funext a b
  unfold quY
  by_cases h : a = g ∧ b = j
  · simp [h]
  · simp [h]

set_option maxHeartbeats 4000000 in
set_option maxRecDepth 100000 in
theorem c_H_pay (l : Launch) (Z : qZ) (hZ : qok (pX Z)) (V : qV) (Y : qY) (k : Nat) (hk : k < 40) (hib : f_isBasket V (nI k) = 1) (hop : ¬ V 15 k 2 = 0) (t : Nat) (ht : t < 4) (h15 : V 15 k 0 = nI t) (b : Nat) (hb : b < 9) (hbk : V 15 k 1 = nI (b + 1)) (pn zf : Nat → Nat) (hp : ∀ a, a < 8 → V 16 k a = nI (pn a) ∧ pn a ≤ 30) (hz : ∀ u, u < 16 → V 3 (b + 1) u = nI (zf u) ∧ zf u < 100) : CT l y_H_pay { frames := 7, cells := 0, slots := 0, locals := 117 } (pX Z) (qA (pX Z)) [.ref (al Z 0 0), .int (nI k)] V Y (.inl (some (.long (f_payR V (b + 1) pn zf 8 0 (Y 17 0) 0).2))) (f_pay V k t) (quY Y 17 0 (f_payR V (b + 1) pn zf 8 0 (Y 17 0) 0).1) := by
  refine CT.of (cc := b_H_pay) (maxL := 7) (ret := (some .long)) hZ (by decide) w_618 (Nat.le_of_ble_eq_true rfl) ?_
  intro p e s m below meth c C hr hex hlt
  generalize hE : f_payR V (b + 1) pn zf 8 0 (Y 17 0) 0 = E
  have loop : ∀ (r a : Nat) (f : Nat → Int64) (x : Int64), a + r = 8 → f_payR V (b + 1) pn zf r a f x = E → G p l e { frames := 7, cells := 0, slots := 0, locals := 117 } s m ([.ref (al Z 0 0), .int (nI k)] : List Value).toArray below meth c (qQ below (pX Z) (qA (pX Z)) { frames := 7, cells := 0, slots := 0, locals := 117 } (.inl (some (.long E.2))) (f_pay V k t) (quY Y 17 0 E.1) s) (pX Z) 7 (qA (pX Z)) (f_pay V k t) (quY Y 17 0 f) 0 0 53 [(6, .int (nI a)), (4, .long x), (3, .ref (al Z 1 (b + 1))), (2, .ref (al Z 15 k)), (0, .ref (al Z 0 0)), (1, .int (nI k))] [] := by
    intro r
    induction r with
    | zero =>
      intro a f x ha hE
      subst hE
      refine gq_iload C d_H_pay_53 rfl ?_
      refine gq_bipush C (v := 8) d_H_pay_55 (by decide) ?_
      refine gq_icmp_ge C (tgt := 88) d_H_pay_57 rfl (fun hb57 => ?_) (fun hb => by exact absurd (nI_le (a := 8) (by omega) (by omega)) hb)
      refine gq_lload C d_H_pay_88 rfl ?_
      exact gq_lret C hr (by decide) (by decide) d_H_pay_90
    | succ r ih =>
      intro a f x ha hE
      have hpa := (hp a (by omega)).2
      refine gq_iload C d_H_pay_53 rfl ?_
      refine gq_bipush C (v := 8) d_H_pay_55 (by decide) ?_
      refine gq_icmp_ge C (tgt := 88) d_H_pay_57 rfl (fun hb => by exact absurd hb (nI_ge (b := 8) (by omega) (by omega))) (fun hb57 => ?_)
      refine gq_lload C d_H_pay_60 rfl ?_
      refine gq_aload_n C d_H_pay_62 rfl ?_
      refine gq_iload C d_H_pay_63 rfl ?_
      refine gq_aload_n C d_H_pay_65 rfl ?_
      refine gq_get C (g := 15) (j := k) (ci := 0) (k := 3) (v := .ref (al Z 16 k)) (qm (by decide) hk) rfl rfl in_B (by decide) w_193 rfl d_H_pay_66 ?_
      refine gq_iload C d_H_pay_69 rfl ?_
      refine gq_iald C (g := 16) (j := k) (a := a) (t0 := 0) (qm (by decide) hk) rfl rfl rfl (by omega) (by decide) d_H_pay_71 ?_
      refine G.eqS (st' := [.int (nI (pn a)), .int (nI a), .ref (al Z 1 (b + 1)), .long x]) (by first | (rw [show f_pay V k t 16 k a = nI (pn a) from ((hp a (by omega)).1)]; done) | (rw [show f_pay V k t 16 k a = nI (pn a) from ((hp a (by omega)).1)]; rfl)) ?_
      refine gq_aload_n C d_H_pay_72 rfl ?_
      refine gq_get C (g := 0) (j := 0) (ci := 7) (k := 8) (v := .ref (al Z 17 0)) (qm (by decide) (by decide)) rfl rfl in_H (by decide) w_211 rfl d_H_pay_73 ?_
      refine gq_callV C (st := [.long x]) (fun _ h => h) (c_L_leastFor l Z hZ (f_pay V k t) (quY Y 17 0 f) (b + 1) (Nat.succ_lt_succ hb) a (by omega) (pn a) hpa (zf (a * 2)) (zf (a * 2 + 1)) (hz (a * 2) (by omega)).1 (hz (a * 2 + 1) (by omega)).1 (hz (a * 2) (by omega)).2 (hz (a * 2 + 1) (by omega)).2) (qm (by decide) (Nat.succ_lt_succ hb)) rfl rfl w_619 w_620 w_621 w_622 w_2 ⟨by decide, by decide, (by decide +kernel : (parseMethodDescriptor y_L_leastFor.desc).map (fun d => d.parameters.length) = some 3)⟩ ⟨by decide, by decide⟩ ⟨by decide, by decide⟩ rfl (Nat.le_of_ble_eq_true rfl) d_H_pay_76 ?_
      refine gq_ladd C d_H_pay_79 ?_
      refine gq_lstore C (lo' := [(4, .long (x + (f_rows (V 2 (b + 1) a) (zf (a * 2)) (V 4 (b + 1) (a * 2)) (zf (a * 2 + 1)) (V 4 (b + 1) (a * 2 + 1)) (pn a) f (pn a)))), (6, .int (nI a)), (3, .ref (al Z 1 (b + 1))), (2, .ref (al Z 15 k)), (0, .ref (al Z 0 0)), (1, .int (nI k))]) d_H_pay_80 (by decide) rfl ?_
      refine gq_iinc C (k := 1) (w := nI (a + 1)) (lo' := [(6, .int (nI (a + 1))), (4, .long (x + (f_rows (V 2 (b + 1) a) (zf (a * 2)) (V 4 (b + 1) (a * 2)) (zf (a * 2 + 1)) (V 4 (b + 1) (a * 2 + 1)) (pn a) f (pn a)))), (3, .ref (al Z 1 (b + 1))), (2, .ref (al Z 15 k)), (0, .ref (al Z 0 0)), (1, .int (nI k))]) d_H_pay_82 rfl (nI_1 a) (by decide) rfl ?_
      refine gq_goto C (tgt := 53) d_H_pay_85 rfl ?_
      refine G.eqY (quY_quY _ _ _ _ _) ?_
      exact ih (a + 1) _ _ (by omega) hE
  refine gq_aload_n C d_H_pay_0 rfl ?_
  refine gq_iload_n C d_H_pay_1 rfl ?_
  refine gq_callV C (st := []) (fun _ h => h.elim) (c_H_checkOpenBasket l Z hZ _ _ k hk hib hop) (qm (by decide) (by decide)) rfl rfl w_585 w_587 ws_H_checkOpenBasket w_588 w_1 ⟨by decide, by decide, (by decide +kernel : (parseMethodDescriptor y_H_checkOpenBasket.desc).map (fun d => d.parameters.length) = some 1)⟩ ⟨by decide, by decide⟩ ⟨by decide, by decide⟩ rfl (Nat.le_of_ble_eq_true rfl) d_H_pay_2 ?_
  refine gq_aload_n C d_H_pay_5 rfl ?_
  refine gq_get C (g := 0) (j := 0) (ci := 7) (k := 6) (v := .ref (al Z 14 0)) (qm (by decide) (by decide)) rfl rfl in_H (by decide) w_209 rfl d_H_pay_6 ?_
  refine gq_iload_n C d_H_pay_9 rfl ?_
  refine gq_aald C (g := 14) (j := 0) (a := k) (t0 := 6) (b := al Z 15 k) (qm (by decide) (by decide)) rfl rfl rfl hk (by decide) rfl d_H_pay_10 ?_
  refine gq_astore_n C (lo' := [(2, .ref (al Z 15 k)), (0, .ref (al Z 0 0)), (1, .int (nI k))]) d_H_pay_11 rfl (by decide) rfl ?_
  refine gq_aload_n C d_H_pay_12 rfl ?_
  refine gq_iconst C (v := 0) d_H_pay_13 (by decide) ?_
  refine gq_put C (fun _ h => h) (g := 15) (j := k) (ci := 0) (k := 2) ft_B k_B n_B (qm (by decide) hk) rfl rfl in_B (by decide) w_191 rfl (k_B 2 (by decide)) rfl rfl (Nat.le_of_ble_eq_true rfl) rfl d_H_pay_14 ?_
  refine gq_aload_n C d_H_pay_17 rfl ?_
  refine gq_get C (g := 0) (j := 0) (ci := 7) (k := 3) (v := .ref (al Z 6 0)) (qm (by decide) (by decide)) rfl rfl in_H (by decide) w_206 rfl d_H_pay_18 ?_
  refine gq_aload_n C d_H_pay_21 rfl ?_
  refine gq_get C (g := 15) (j := k) (ci := 0) (k := 0) (v := .int (V 15 k 0)) (qm (by decide) hk) rfl rfl in_B (by decide) w_187 (by simp [qv_at]) d_H_pay_22 ?_
  refine gq_aald C (g := 6) (j := 0) (a := t) (t0 := 4) (b := al Z 7 t) (qm (by decide) (by decide)) rfl rfl h15 ht (by decide) rfl d_H_pay_25 ?_
  refine gq_dup C d_H_pay_26 rfl ?_
  refine gq_get C (g := 7) (j := t) (ci := 6) (k := 7) (v := .int (V 7 t 7)) (qm (by decide) ht) rfl rfl in_T (by decide) w_81 rfl d_H_pay_27 ?_
  refine gq_iconst C (v := 1) d_H_pay_30 (by decide) ?_
  refine gq_isub C d_H_pay_31 ?_
  refine gq_put C (fun _ h => h) (g := 7) (j := t) (ci := 6) (k := 7) ft_T k_T n_T (qm (by decide) ht) rfl rfl in_T (by decide) w_81 rfl (k_T 7 (by decide)) rfl rfl (Nat.le_of_ble_eq_true rfl) rfl d_H_pay_32 ?_
  refine gq_aload_n C d_H_pay_35 rfl ?_
  refine gq_get C (g := 0) (j := 0) (ci := 7) (k := 1) (v := .ref (al Z 5 0)) (qm (by decide) (by decide)) rfl rfl in_H (by decide) w_204 rfl d_H_pay_36 ?_
  refine gq_aload_n C d_H_pay_39 rfl ?_
  refine gq_get C (g := 15) (j := k) (ci := 0) (k := 1) (v := .int (V 15 k 1)) (qm (by decide) hk) rfl rfl in_B (by decide) w_189 (by simp [qv_at]) d_H_pay_40 ?_
  refine G.eqS (st' := [.int (nI (b + 1)), .ref (al Z 5 0)]) (by first | (rw [show V 15 k 1 = nI (b + 1) from hbk]; done) | (rw [show V 15 k 1 = nI (b + 1) from hbk]; rfl)) ?_
  refine gq_iconst C (v := 1) d_H_pay_43 (by decide) ?_
  refine gq_isub C d_H_pay_44 ?_
  refine G.eqS (st' := [.int (nI b), .ref (al Z 5 0)]) (by first | (rw [show (nI (b + 1)) - 1 = nI b from (nI_pred b)]; done) | (rw [show (nI (b + 1)) - 1 = nI b from (nI_pred b)]; rfl)) ?_
  refine gq_aald C (g := 5) (j := 0) (a := b) (t0 := 3) (b := al Z 1 (b + 1)) (qm (by decide) (by decide)) rfl rfl rfl hb (by decide) rfl d_H_pay_45 ?_
  refine gq_astore_n C (lo' := [(3, .ref (al Z 1 (b + 1))), (2, .ref (al Z 15 k)), (0, .ref (al Z 0 0)), (1, .int (nI k))]) d_H_pay_46 rfl (by decide) rfl ?_
  refine gq_lconst C (v := 0) d_H_pay_47 (by decide) ?_
  refine gq_lstore C (lo' := [(4, .long 0), (3, .ref (al Z 1 (b + 1))), (2, .ref (al Z 15 k)), (0, .ref (al Z 0 0)), (1, .int (nI k))]) d_H_pay_48 (by decide) rfl ?_
  refine gq_iconst C (v := 0) d_H_pay_50 (by decide) ?_
  refine gq_istore C (lo' := [(6, .int 0), (4, .long 0), (3, .ref (al Z 1 (b + 1))), (2, .ref (al Z 15 k)), (0, .ref (al Z 0 0)), (1, .int (nI k))]) d_H_pay_51 (by decide) rfl ?_
  refine G.eqY (Y' := quY Y 17 0 (Y 17 0)) (quY_self _ _ _).symm ?_
  exact loop 8 0 (Y 17 0) 0 rfl hE
end
section
/-! the reference: its private methods. Family 20: its object (field 0 thrownCode, 1 books, 13 activeBook, 14 change, 15 waits, 16 waitsTo, 22 letters, 24 baskets); 21 .. 42: its arrays in the order of its fields -/
def g_not (a b : Int32) : Int32 := if a < 0 then 1 else if a < b then 0 else 1
def g_post (V : qV) (n : Nat) (k t b a : Int32) : qV := qv (qv (qv (qv (qv V 37 0 (4 * n) k) 37 0 (4 * n + 1) t) 37 0 (4 * n + 2) b) 37 0 (4 * n + 3) a) 20 0 22 (nI (n + 1))
def g_put (V : qV) (k t b a : Int32) : qV := if V 20 0 22 = 40 then V else g_post V (V 20 0 22).toNatClampNeg k t b a
theorem g_put_fr (V : qV) (k t b a : Int32) (g : Nat) (h : g ≠ 20 ∧ g ≠ 37) : g_put V k t b a g = V g := by
  funext j i
  unfold g_put g_post
  split
  · rfl
  · simp [qv_at, h.1, h.2]
theorem g_put_20 (V : qV) (k t b a : Int32) (i : Nat) (h : i ≠ 22) : g_put V k t b a 20 0 i = V 20 0 i := by
  unfold g_put g_post
  split
  · rfl
  · simp [qv_at, h]
theorem g_cnt2 {V V' : qV} (h : ∃ q, q ≤ 40 ∧ V 20 0 22 = nI q) (e : V' 20 0 22 = V 20 0 22) : ∃ q, q ≤ 40 ∧ V' 20 0 22 = nI q := by
  rw [e]
  exact h
def g_free (V : qV) (t : Nat) : Int32 := if V 20 0 14 ≤ V 36 0 t then 1 else if V 33 0 t = 0 then 1 else if V 34 0 t = V 20 0 14 then 1 else if V 24 0 4 / 100 < V 35 0 t + 63 then 0 else 1
def g_wake (V : qV) : qV := if V 20 0 15 = 0 then V else if V 24 0 4 / 100 < V 20 0 16 then V else qv V 20 0 15 0
def g_look1 (V : qV) : qV := if V 20 0 14 = 0 then V else if V 20 0 15 = 0 then (if g_free V 0 = 0 then V else if g_free V 1 = 0 then V else if g_free V 2 = 0 then V else if g_free V 3 = 0 then V else qv (qv V 20 0 13 (V 20 0 14)) 20 0 14 0) else V
def g_look (V : qV) : qV := g_look1 (g_wake V)
theorem g_wake_fr (V : qV) (g : Nat) (h : g ≠ 20) : g_wake V g = V g := by
  funext a i
  unfold g_wake
  repeat' split
  all_goals first | rfl | simp [qv_at, h]
theorem g_look_fr (V : qV) (g : Nat) (h : g ≠ 20) : g_look V g = V g := by
  rw [← g_wake_fr V g h]
  funext a i
  unfold g_look g_look1
  repeat' split
  all_goals first | rfl | simp [qv_at, h]
def g_bookFor (V : qV) (t : Nat) : Int32 := if V 20 0 14 = 0 then V 20 0 13 else if V 36 0 t < V 20 0 14 then 0 else V 20 0 14
def g_asked1 (V : qV) (t : Nat) (a : Int32) : qV := if V 20 0 15 = 0 then (if a < V 32 0 t then V else if g_bookFor V t = 0 then V else g_put (qv (qv (qv (qv V 32 0 t a) 34 0 t (g_bookFor V t)) 35 0 t (V 24 0 4 / 100)) 33 0 t 1) 2 (nI t) (g_bookFor V t) a) else V
def g_asked (V : qV) (t : Nat) (a : Int32) : qV := g_asked1 (g_wake V) t a
def g_lease (V : qV) (t : Nat) : Int32 := if V 31 0 t ≤ 0 then 0 else if V 30 0 t + 60 ≤ V 24 0 t / 100 then 0 else if V 26 0 t < V 31 0 t then 0 else if V 31 0 t < V 27 0 t then 0 else V 31 0 t
def g_shift : (Nat → Int32) → Nat → Nat → (Nat → Int32)
  | f, 0, _ => f
  | f, r + 1, k => g_shift (upd f k (f (k + 4))) r (k + 1)
def g_cut (f : Nat → Int32) (i n : Nat) : Nat → Int32 := fun k => if 4 * i ≤ k ∧ k < 4 * (n - 1) then f (k + 4) else f k
def g_remove (V : qV) (i n : Nat) : qV := qu (qv V 20 0 22 (nI (n - 1))) 37 0 (g_cut (V 37 0) i n)
theorem g_shift_at : ∀ (r : Nat) (f : Nat → Int32) (k j : Nat), g_shift f r k j = if k ≤ j ∧ j < k + r then f (j + 4) else f j := by
  intro r
  induction r with
  | zero => intro f k j; rw [if_neg (by omega)]; rfl
  | succ r ih =>
    intro f k j
    show g_shift (upd f k (f (k + 4))) r (k + 1) j = _
    rw [ih]
    by_cases h1 : j = k
    · subst h1
      rw [if_neg (by omega), if_pos (by omega), pk_us]
    · by_cases h2 : k ≤ j ∧ j < k + (r + 1)
      · rw [if_pos (by omega), if_pos h2, pk_un (by omega)]
      · rw [if_neg (by omega), if_neg h2, pk_un h1]
theorem g_shift_cut (f : Nat → Int32) (i n : Nat) (h : i < n) : g_shift f (4 * (n - 1) - 4 * i) (4 * i) = g_cut f i n := by
  funext j
  rw [g_shift_at]
  unfold g_cut
  by_cases h1 : 4 * i ≤ j ∧ j < 4 * (n - 1)
  · rw [if_pos (by omega), if_pos h1]
  · rw [if_neg (by omega), if_neg h1]
theorem g_qu (V : qV) (g j : Nat) (f : Nat → Int32) (k : Nat) (v : Int32) : qv (qu V g j f) g j k v = qu V g j (upd f k v) := by
  funext a b
  unfold qv qu
  by_cases h : a = g ∧ b = j
  · simp [h]
  · simp [h]
theorem g_remove_fr (V : qV) (i n g : Nat) (h : g ≠ 20 ∧ g ≠ 37) : g_remove V i n g = V g := by
  funext a k
  simp [g_remove, qv, qu, h.1, h.2]
theorem g_remove_20 (V : qV) (i n k : Nat) (h : k ≠ 22) : g_remove V i n 20 0 k = V 20 0 k := by
  have : g_remove V i n 20 0 = qv V 20 0 22 (nI (n - 1)) 20 0 := by simp [g_remove, qu]
  rw [this, qv_at, if_neg (by omega)]

theorem d_M_clock_0 : decode b_M_clock 0 = .ok (.aload_n 0, 1) := by decide +kernel
theorem d_M_clock_1 : decode b_M_clock 1 = .ok (.getfield 26, 3) := by decide +kernel
theorem d_M_clock_4 : decode b_M_clock 4 = .ok (.iload_n 1, 1) := by decide +kernel
theorem d_M_clock_5 : decode b_M_clock 5 = .ok (.iaload, 1) := by decide +kernel
theorem d_M_clock_6 : decode b_M_clock 6 = .ok (.bipush 100, 2) := by decide +kernel
theorem d_M_clock_8 : decode b_M_clock 8 = .ok (.idiv, 1) := by decide +kernel
theorem d_M_clock_9 : decode b_M_clock 9 = .ok (.ireturn, 1) := by decide +kernel

theorem d_M_post_0 : decode b_M_post 0 = .ok (.aload_n 0, 1) := by decide +kernel
theorem d_M_post_1 : decode b_M_post 1 = .ok (.getfield 79, 3) := by decide +kernel
theorem d_M_post_4 : decode b_M_post 4 = .ok (.bipush 40, 2) := by decide +kernel
theorem d_M_post_6 : decode b_M_post 6 = .ok (.if_icmp .ne 4, 3) := by decide +kernel
theorem d_M_post_9 : decode b_M_post 9 = .ok (.return_, 1) := by decide +kernel
theorem d_M_post_10 : decode b_M_post 10 = .ok (.aload_n 0, 1) := by decide +kernel
theorem d_M_post_11 : decode b_M_post 11 = .ok (.getfield 82, 3) := by decide +kernel
theorem d_M_post_14 : decode b_M_post 14 = .ok (.iconst 4, 1) := by decide +kernel
theorem d_M_post_15 : decode b_M_post 15 = .ok (.aload_n 0, 1) := by decide +kernel
theorem d_M_post_16 : decode b_M_post 16 = .ok (.getfield 79, 3) := by decide +kernel
theorem d_M_post_19 : decode b_M_post 19 = .ok (.imul, 1) := by decide +kernel
theorem d_M_post_20 : decode b_M_post 20 = .ok (.iload_n 1, 1) := by decide +kernel
theorem d_M_post_21 : decode b_M_post 21 = .ok (.iastore, 1) := by decide +kernel
theorem d_M_post_22 : decode b_M_post 22 = .ok (.aload_n 0, 1) := by decide +kernel
theorem d_M_post_23 : decode b_M_post 23 = .ok (.getfield 82, 3) := by decide +kernel
theorem d_M_post_26 : decode b_M_post 26 = .ok (.iconst 4, 1) := by decide +kernel
theorem d_M_post_27 : decode b_M_post 27 = .ok (.aload_n 0, 1) := by decide +kernel
theorem d_M_post_28 : decode b_M_post 28 = .ok (.getfield 79, 3) := by decide +kernel
theorem d_M_post_31 : decode b_M_post 31 = .ok (.imul, 1) := by decide +kernel
theorem d_M_post_32 : decode b_M_post 32 = .ok (.iconst 1, 1) := by decide +kernel
theorem d_M_post_33 : decode b_M_post 33 = .ok (.iadd, 1) := by decide +kernel
theorem d_M_post_34 : decode b_M_post 34 = .ok (.iload_n 2, 1) := by decide +kernel
theorem d_M_post_35 : decode b_M_post 35 = .ok (.iastore, 1) := by decide +kernel
theorem d_M_post_36 : decode b_M_post 36 = .ok (.aload_n 0, 1) := by decide +kernel
theorem d_M_post_37 : decode b_M_post 37 = .ok (.getfield 82, 3) := by decide +kernel
theorem d_M_post_40 : decode b_M_post 40 = .ok (.iconst 4, 1) := by decide +kernel
theorem d_M_post_41 : decode b_M_post 41 = .ok (.aload_n 0, 1) := by decide +kernel
theorem d_M_post_42 : decode b_M_post 42 = .ok (.getfield 79, 3) := by decide +kernel
theorem d_M_post_45 : decode b_M_post 45 = .ok (.imul, 1) := by decide +kernel
theorem d_M_post_46 : decode b_M_post 46 = .ok (.iconst 2, 1) := by decide +kernel
theorem d_M_post_47 : decode b_M_post 47 = .ok (.iadd, 1) := by decide +kernel
theorem d_M_post_48 : decode b_M_post 48 = .ok (.iload_n 3, 1) := by decide +kernel
theorem d_M_post_49 : decode b_M_post 49 = .ok (.iastore, 1) := by decide +kernel
theorem d_M_post_50 : decode b_M_post 50 = .ok (.aload_n 0, 1) := by decide +kernel
theorem d_M_post_51 : decode b_M_post 51 = .ok (.getfield 82, 3) := by decide +kernel
theorem d_M_post_54 : decode b_M_post 54 = .ok (.iconst 4, 1) := by decide +kernel
theorem d_M_post_55 : decode b_M_post 55 = .ok (.aload_n 0, 1) := by decide +kernel
theorem d_M_post_56 : decode b_M_post 56 = .ok (.getfield 79, 3) := by decide +kernel
theorem d_M_post_59 : decode b_M_post 59 = .ok (.imul, 1) := by decide +kernel
theorem d_M_post_60 : decode b_M_post 60 = .ok (.iconst 3, 1) := by decide +kernel
theorem d_M_post_61 : decode b_M_post 61 = .ok (.iadd, 1) := by decide +kernel
theorem d_M_post_62 : decode b_M_post 62 = .ok (.iload 4, 2) := by decide +kernel
theorem d_M_post_64 : decode b_M_post 64 = .ok (.iastore, 1) := by decide +kernel
theorem d_M_post_65 : decode b_M_post 65 = .ok (.aload_n 0, 1) := by decide +kernel
theorem d_M_post_66 : decode b_M_post 66 = .ok (.dup, 1) := by decide +kernel
theorem d_M_post_67 : decode b_M_post 67 = .ok (.getfield 79, 3) := by decide +kernel
theorem d_M_post_70 : decode b_M_post 70 = .ok (.iconst 1, 1) := by decide +kernel
theorem d_M_post_71 : decode b_M_post 71 = .ok (.iadd, 1) := by decide +kernel
theorem d_M_post_72 : decode b_M_post 72 = .ok (.putfield 79, 3) := by decide +kernel
theorem d_M_post_75 : decode b_M_post 75 = .ok (.return_, 1) := by decide +kernel

theorem d_M_remove_0 : decode b_M_remove 0 = .ok (.aload_n 0, 1) := by decide +kernel
theorem d_M_remove_1 : decode b_M_remove 1 = .ok (.dup, 1) := by decide +kernel
theorem d_M_remove_2 : decode b_M_remove 2 = .ok (.getfield 79, 3) := by decide +kernel
theorem d_M_remove_5 : decode b_M_remove 5 = .ok (.iconst 1, 1) := by decide +kernel
theorem d_M_remove_6 : decode b_M_remove 6 = .ok (.isub, 1) := by decide +kernel
theorem d_M_remove_7 : decode b_M_remove 7 = .ok (.putfield 79, 3) := by decide +kernel
theorem d_M_remove_10 : decode b_M_remove 10 = .ok (.iconst 4, 1) := by decide +kernel
theorem d_M_remove_11 : decode b_M_remove 11 = .ok (.iload_n 1, 1) := by decide +kernel
theorem d_M_remove_12 : decode b_M_remove 12 = .ok (.imul, 1) := by decide +kernel
theorem d_M_remove_13 : decode b_M_remove 13 = .ok (.istore_n 2, 1) := by decide +kernel
theorem d_M_remove_14 : decode b_M_remove 14 = .ok (.iload_n 2, 1) := by decide +kernel
theorem d_M_remove_15 : decode b_M_remove 15 = .ok (.iconst 4, 1) := by decide +kernel
theorem d_M_remove_16 : decode b_M_remove 16 = .ok (.aload_n 0, 1) := by decide +kernel
theorem d_M_remove_17 : decode b_M_remove 17 = .ok (.getfield 79, 3) := by decide +kernel
theorem d_M_remove_20 : decode b_M_remove 20 = .ok (.imul, 1) := by decide +kernel
theorem d_M_remove_21 : decode b_M_remove 21 = .ok (.if_icmp .ge 23, 3) := by decide +kernel
theorem d_M_remove_24 : decode b_M_remove 24 = .ok (.aload_n 0, 1) := by decide +kernel
theorem d_M_remove_25 : decode b_M_remove 25 = .ok (.getfield 82, 3) := by decide +kernel
theorem d_M_remove_28 : decode b_M_remove 28 = .ok (.iload_n 2, 1) := by decide +kernel
theorem d_M_remove_29 : decode b_M_remove 29 = .ok (.aload_n 0, 1) := by decide +kernel
theorem d_M_remove_30 : decode b_M_remove 30 = .ok (.getfield 82, 3) := by decide +kernel
theorem d_M_remove_33 : decode b_M_remove 33 = .ok (.iload_n 2, 1) := by decide +kernel
theorem d_M_remove_34 : decode b_M_remove 34 = .ok (.iconst 4, 1) := by decide +kernel
theorem d_M_remove_35 : decode b_M_remove 35 = .ok (.iadd, 1) := by decide +kernel
theorem d_M_remove_36 : decode b_M_remove 36 = .ok (.iaload, 1) := by decide +kernel
theorem d_M_remove_37 : decode b_M_remove 37 = .ok (.iastore, 1) := by decide +kernel
theorem d_M_remove_38 : decode b_M_remove 38 = .ok (.iinc 2 1, 3) := by decide +kernel
theorem d_M_remove_41 : decode b_M_remove 41 = .ok (.goto (-27), 3) := by decide +kernel
theorem d_M_remove_44 : decode b_M_remove 44 = .ok (.return_, 1) := by decide +kernel

theorem d_M_free_0 : decode b_M_free 0 = .ok (.aload_n 0, 1) := by decide +kernel
theorem d_M_free_1 : decode b_M_free 1 = .ok (.getfield 76, 3) := by decide +kernel
theorem d_M_free_4 : decode b_M_free 4 = .ok (.iload_n 1, 1) := by decide +kernel
theorem d_M_free_5 : decode b_M_free 5 = .ok (.iaload, 1) := by decide +kernel
theorem d_M_free_6 : decode b_M_free 6 = .ok (.aload_n 0, 1) := by decide +kernel
theorem d_M_free_7 : decode b_M_free 7 = .ok (.getfield 54, 3) := by decide +kernel
theorem d_M_free_10 : decode b_M_free 10 = .ok (.if_icmp .ge 42, 3) := by decide +kernel
theorem d_M_free_13 : decode b_M_free 13 = .ok (.aload_n 0, 1) := by decide +kernel
theorem d_M_free_14 : decode b_M_free 14 = .ok (.getfield 67, 3) := by decide +kernel
theorem d_M_free_17 : decode b_M_free 17 = .ok (.iload_n 1, 1) := by decide +kernel
theorem d_M_free_18 : decode b_M_free 18 = .ok (.baload, 1) := by decide +kernel
theorem d_M_free_19 : decode b_M_free 19 = .ok (.ifCond .eq 33, 3) := by decide +kernel
theorem d_M_free_22 : decode b_M_free 22 = .ok (.aload_n 0, 1) := by decide +kernel
theorem d_M_free_23 : decode b_M_free 23 = .ok (.getfield 70, 3) := by decide +kernel
theorem d_M_free_26 : decode b_M_free 26 = .ok (.iload_n 1, 1) := by decide +kernel
theorem d_M_free_27 : decode b_M_free 27 = .ok (.iaload, 1) := by decide +kernel
theorem d_M_free_28 : decode b_M_free 28 = .ok (.aload_n 0, 1) := by decide +kernel
theorem d_M_free_29 : decode b_M_free 29 = .ok (.getfield 54, 3) := by decide +kernel
theorem d_M_free_32 : decode b_M_free 32 = .ok (.if_icmp .eq 20, 3) := by decide +kernel
theorem d_M_free_35 : decode b_M_free 35 = .ok (.aload_n 0, 1) := by decide +kernel
theorem d_M_free_36 : decode b_M_free 36 = .ok (.iconst 4, 1) := by decide +kernel
theorem d_M_free_37 : decode b_M_free 37 = .ok (.invokevirtual 104, 3) := by decide +kernel
theorem d_M_free_40 : decode b_M_free 40 = .ok (.aload_n 0, 1) := by decide +kernel
theorem d_M_free_41 : decode b_M_free 41 = .ok (.getfield 73, 3) := by decide +kernel
theorem d_M_free_44 : decode b_M_free 44 = .ok (.iload_n 1, 1) := by decide +kernel
theorem d_M_free_45 : decode b_M_free 45 = .ok (.iaload, 1) := by decide +kernel
theorem d_M_free_46 : decode b_M_free 46 = .ok (.bipush 63, 2) := by decide +kernel
theorem d_M_free_48 : decode b_M_free 48 = .ok (.iadd, 1) := by decide +kernel
theorem d_M_free_49 : decode b_M_free 49 = .ok (.if_icmp .lt 7, 3) := by decide +kernel
theorem d_M_free_52 : decode b_M_free 52 = .ok (.iconst 1, 1) := by decide +kernel
theorem d_M_free_53 : decode b_M_free 53 = .ok (.goto 4, 3) := by decide +kernel
theorem d_M_free_56 : decode b_M_free 56 = .ok (.iconst 0, 1) := by decide +kernel
theorem d_M_free_57 : decode b_M_free 57 = .ok (.ireturn, 1) := by decide +kernel

theorem d_M_look_0 : decode b_M_look 0 = .ok (.aload_n 0, 1) := by decide +kernel
theorem d_M_look_1 : decode b_M_look 1 = .ok (.getfield 57, 3) := by decide +kernel
theorem d_M_look_4 : decode b_M_look 4 = .ok (.ifCond .eq 20, 3) := by decide +kernel
theorem d_M_look_7 : decode b_M_look 7 = .ok (.aload_n 0, 1) := by decide +kernel
theorem d_M_look_8 : decode b_M_look 8 = .ok (.iconst 4, 1) := by decide +kernel
theorem d_M_look_9 : decode b_M_look 9 = .ok (.invokevirtual 104, 3) := by decide +kernel
theorem d_M_look_12 : decode b_M_look 12 = .ok (.aload_n 0, 1) := by decide +kernel
theorem d_M_look_13 : decode b_M_look 13 = .ok (.getfield 61, 3) := by decide +kernel
theorem d_M_look_16 : decode b_M_look 16 = .ok (.if_icmp .lt 8, 3) := by decide +kernel
theorem d_M_look_19 : decode b_M_look 19 = .ok (.aload_n 0, 1) := by decide +kernel
theorem d_M_look_20 : decode b_M_look 20 = .ok (.iconst 0, 1) := by decide +kernel
theorem d_M_look_21 : decode b_M_look 21 = .ok (.putfield 57, 3) := by decide +kernel
theorem d_M_look_24 : decode b_M_look 24 = .ok (.aload_n 0, 1) := by decide +kernel
theorem d_M_look_25 : decode b_M_look 25 = .ok (.getfield 54, 3) := by decide +kernel
theorem d_M_look_28 : decode b_M_look 28 = .ok (.ifCond .eq 10, 3) := by decide +kernel
theorem d_M_look_31 : decode b_M_look 31 = .ok (.aload_n 0, 1) := by decide +kernel
theorem d_M_look_32 : decode b_M_look 32 = .ok (.getfield 57, 3) := by decide +kernel
theorem d_M_look_35 : decode b_M_look 35 = .ok (.ifCond .eq 4, 3) := by decide +kernel
theorem d_M_look_38 : decode b_M_look 38 = .ok (.return_, 1) := by decide +kernel
theorem d_M_look_39 : decode b_M_look 39 = .ok (.iconst 0, 1) := by decide +kernel
theorem d_M_look_40 : decode b_M_look 40 = .ok (.istore_n 1, 1) := by decide +kernel
theorem d_M_look_41 : decode b_M_look 41 = .ok (.iload_n 1, 1) := by decide +kernel
theorem d_M_look_42 : decode b_M_look 42 = .ok (.iconst 4, 1) := by decide +kernel
theorem d_M_look_43 : decode b_M_look 43 = .ok (.if_icmp .ge 18, 3) := by decide +kernel
theorem d_M_look_46 : decode b_M_look 46 = .ok (.aload_n 0, 1) := by decide +kernel
theorem d_M_look_47 : decode b_M_look 47 = .ok (.iload_n 1, 1) := by decide +kernel
theorem d_M_look_48 : decode b_M_look 48 = .ok (.invokevirtual 108, 3) := by decide +kernel
theorem d_M_look_51 : decode b_M_look 51 = .ok (.ifCond .ne 4, 3) := by decide +kernel
theorem d_M_look_54 : decode b_M_look 54 = .ok (.return_, 1) := by decide +kernel
theorem d_M_look_55 : decode b_M_look 55 = .ok (.iinc 1 1, 3) := by decide +kernel
theorem d_M_look_58 : decode b_M_look 58 = .ok (.goto (-17), 3) := by decide +kernel
theorem d_M_look_61 : decode b_M_look 61 = .ok (.aload_n 0, 1) := by decide +kernel
theorem d_M_look_62 : decode b_M_look 62 = .ok (.aload_n 0, 1) := by decide +kernel
theorem d_M_look_63 : decode b_M_look 63 = .ok (.getfield 54, 3) := by decide +kernel
theorem d_M_look_66 : decode b_M_look 66 = .ok (.putfield 51, 3) := by decide +kernel
theorem d_M_look_69 : decode b_M_look 69 = .ok (.aload_n 0, 1) := by decide +kernel
theorem d_M_look_70 : decode b_M_look 70 = .ok (.iconst 0, 1) := by decide +kernel
theorem d_M_look_71 : decode b_M_look 71 = .ok (.putfield 54, 3) := by decide +kernel
theorem d_M_look_74 : decode b_M_look 74 = .ok (.return_, 1) := by decide +kernel

theorem d_M_asked_0 : decode b_M_asked 0 = .ok (.aload_n 0, 1) := by decide +kernel
theorem d_M_asked_1 : decode b_M_asked 1 = .ok (.getfield 57, 3) := by decide +kernel
theorem d_M_asked_4 : decode b_M_asked 4 = .ok (.ifCond .eq 20, 3) := by decide +kernel
theorem d_M_asked_7 : decode b_M_asked 7 = .ok (.aload_n 0, 1) := by decide +kernel
theorem d_M_asked_8 : decode b_M_asked 8 = .ok (.iconst 4, 1) := by decide +kernel
theorem d_M_asked_9 : decode b_M_asked 9 = .ok (.invokevirtual 104, 3) := by decide +kernel
theorem d_M_asked_12 : decode b_M_asked 12 = .ok (.aload_n 0, 1) := by decide +kernel
theorem d_M_asked_13 : decode b_M_asked 13 = .ok (.getfield 61, 3) := by decide +kernel
theorem d_M_asked_16 : decode b_M_asked 16 = .ok (.if_icmp .lt 8, 3) := by decide +kernel
theorem d_M_asked_19 : decode b_M_asked 19 = .ok (.aload_n 0, 1) := by decide +kernel
theorem d_M_asked_20 : decode b_M_asked 20 = .ok (.iconst 0, 1) := by decide +kernel
theorem d_M_asked_21 : decode b_M_asked 21 = .ok (.putfield 57, 3) := by decide +kernel
theorem d_M_asked_24 : decode b_M_asked 24 = .ok (.aload_n 0, 1) := by decide +kernel
theorem d_M_asked_25 : decode b_M_asked 25 = .ok (.getfield 54, 3) := by decide +kernel
theorem d_M_asked_28 : decode b_M_asked 28 = .ok (.ifCond .ne 10, 3) := by decide +kernel
theorem d_M_asked_31 : decode b_M_asked 31 = .ok (.aload_n 0, 1) := by decide +kernel
theorem d_M_asked_32 : decode b_M_asked 32 = .ok (.getfield 51, 3) := by decide +kernel
theorem d_M_asked_35 : decode b_M_asked 35 = .ok (.goto 24, 3) := by decide +kernel
theorem d_M_asked_38 : decode b_M_asked 38 = .ok (.aload_n 0, 1) := by decide +kernel
theorem d_M_asked_39 : decode b_M_asked 39 = .ok (.getfield 76, 3) := by decide +kernel
theorem d_M_asked_42 : decode b_M_asked 42 = .ok (.iload_n 1, 1) := by decide +kernel
theorem d_M_asked_43 : decode b_M_asked 43 = .ok (.iaload, 1) := by decide +kernel
theorem d_M_asked_44 : decode b_M_asked 44 = .ok (.aload_n 0, 1) := by decide +kernel
theorem d_M_asked_45 : decode b_M_asked 45 = .ok (.getfield 54, 3) := by decide +kernel
theorem d_M_asked_48 : decode b_M_asked 48 = .ok (.if_icmp .lt 10, 3) := by decide +kernel
theorem d_M_asked_51 : decode b_M_asked 51 = .ok (.aload_n 0, 1) := by decide +kernel
theorem d_M_asked_52 : decode b_M_asked 52 = .ok (.getfield 54, 3) := by decide +kernel
theorem d_M_asked_55 : decode b_M_asked 55 = .ok (.goto 4, 3) := by decide +kernel
theorem d_M_asked_58 : decode b_M_asked 58 = .ok (.iconst 0, 1) := by decide +kernel
theorem d_M_asked_59 : decode b_M_asked 59 = .ok (.istore_n 3, 1) := by decide +kernel
theorem d_M_asked_60 : decode b_M_asked 60 = .ok (.aload_n 0, 1) := by decide +kernel
theorem d_M_asked_61 : decode b_M_asked 61 = .ok (.getfield 57, 3) := by decide +kernel
theorem d_M_asked_64 : decode b_M_asked 64 = .ok (.ifCond .ne 17, 3) := by decide +kernel
theorem d_M_asked_67 : decode b_M_asked 67 = .ok (.iload_n 2, 1) := by decide +kernel
theorem d_M_asked_68 : decode b_M_asked 68 = .ok (.aload_n 0, 1) := by decide +kernel
theorem d_M_asked_69 : decode b_M_asked 69 = .ok (.getfield 64, 3) := by decide +kernel
theorem d_M_asked_72 : decode b_M_asked 72 = .ok (.iload_n 1, 1) := by decide +kernel
theorem d_M_asked_73 : decode b_M_asked 73 = .ok (.iaload, 1) := by decide +kernel
theorem d_M_asked_74 : decode b_M_asked 74 = .ok (.if_icmp .lt 7, 3) := by decide +kernel
theorem d_M_asked_77 : decode b_M_asked 77 = .ok (.iload_n 3, 1) := by decide +kernel
theorem d_M_asked_78 : decode b_M_asked 78 = .ok (.ifCond .ne 4, 3) := by decide +kernel
theorem d_M_asked_81 : decode b_M_asked 81 = .ok (.return_, 1) := by decide +kernel
theorem d_M_asked_82 : decode b_M_asked 82 = .ok (.aload_n 0, 1) := by decide +kernel
theorem d_M_asked_83 : decode b_M_asked 83 = .ok (.getfield 64, 3) := by decide +kernel
theorem d_M_asked_86 : decode b_M_asked 86 = .ok (.iload_n 1, 1) := by decide +kernel
theorem d_M_asked_87 : decode b_M_asked 87 = .ok (.iload_n 2, 1) := by decide +kernel
theorem d_M_asked_88 : decode b_M_asked 88 = .ok (.iastore, 1) := by decide +kernel
theorem d_M_asked_89 : decode b_M_asked 89 = .ok (.aload_n 0, 1) := by decide +kernel
theorem d_M_asked_90 : decode b_M_asked 90 = .ok (.getfield 70, 3) := by decide +kernel
theorem d_M_asked_93 : decode b_M_asked 93 = .ok (.iload_n 1, 1) := by decide +kernel
theorem d_M_asked_94 : decode b_M_asked 94 = .ok (.iload_n 3, 1) := by decide +kernel
theorem d_M_asked_95 : decode b_M_asked 95 = .ok (.iastore, 1) := by decide +kernel
theorem d_M_asked_96 : decode b_M_asked 96 = .ok (.aload_n 0, 1) := by decide +kernel
theorem d_M_asked_97 : decode b_M_asked 97 = .ok (.getfield 73, 3) := by decide +kernel
theorem d_M_asked_100 : decode b_M_asked 100 = .ok (.iload_n 1, 1) := by decide +kernel
theorem d_M_asked_101 : decode b_M_asked 101 = .ok (.aload_n 0, 1) := by decide +kernel
theorem d_M_asked_102 : decode b_M_asked 102 = .ok (.iconst 4, 1) := by decide +kernel
theorem d_M_asked_103 : decode b_M_asked 103 = .ok (.invokevirtual 104, 3) := by decide +kernel
theorem d_M_asked_106 : decode b_M_asked 106 = .ok (.iastore, 1) := by decide +kernel
theorem d_M_asked_107 : decode b_M_asked 107 = .ok (.aload_n 0, 1) := by decide +kernel
theorem d_M_asked_108 : decode b_M_asked 108 = .ok (.getfield 67, 3) := by decide +kernel
theorem d_M_asked_111 : decode b_M_asked 111 = .ok (.iload_n 1, 1) := by decide +kernel
theorem d_M_asked_112 : decode b_M_asked 112 = .ok (.iconst 1, 1) := by decide +kernel
theorem d_M_asked_113 : decode b_M_asked 113 = .ok (.bastore, 1) := by decide +kernel
theorem d_M_asked_114 : decode b_M_asked 114 = .ok (.aload_n 0, 1) := by decide +kernel
theorem d_M_asked_115 : decode b_M_asked 115 = .ok (.iconst 2, 1) := by decide +kernel
theorem d_M_asked_116 : decode b_M_asked 116 = .ok (.iload_n 1, 1) := by decide +kernel
theorem d_M_asked_117 : decode b_M_asked 117 = .ok (.iload_n 3, 1) := by decide +kernel
theorem d_M_asked_118 : decode b_M_asked 118 = .ok (.iload_n 2, 1) := by decide +kernel
theorem d_M_asked_119 : decode b_M_asked 119 = .ok (.invokevirtual 112, 3) := by decide +kernel
theorem d_M_asked_122 : decode b_M_asked 122 = .ok (.return_, 1) := by decide +kernel

theorem d_M_comes_0 : decode b_M_comes 0 = .ok (.iload_n 1, 1) := by decide +kernel
theorem d_M_comes_1 : decode b_M_comes 1 = .ok (.ifCond .ne 25, 3) := by decide +kernel
theorem d_M_comes_4 : decode b_M_comes 4 = .ok (.aload_n 0, 1) := by decide +kernel
theorem d_M_comes_5 : decode b_M_comes 5 = .ok (.getfield 32, 3) := by decide +kernel
theorem d_M_comes_8 : decode b_M_comes 8 = .ok (.iload_n 2, 1) := by decide +kernel
theorem d_M_comes_9 : decode b_M_comes 9 = .ok (.iaload, 1) := by decide +kernel
theorem d_M_comes_10 : decode b_M_comes 10 = .ok (.iload_n 3, 1) := by decide +kernel
theorem d_M_comes_11 : decode b_M_comes 11 = .ok (.iconst 1, 1) := by decide +kernel
theorem d_M_comes_12 : decode b_M_comes 12 = .ok (.isub, 1) := by decide +kernel
theorem d_M_comes_13 : decode b_M_comes 13 = .ok (.if_icmp .ne 109, 3) := by decide +kernel
theorem d_M_comes_16 : decode b_M_comes 16 = .ok (.aload_n 0, 1) := by decide +kernel
theorem d_M_comes_17 : decode b_M_comes 17 = .ok (.getfield 32, 3) := by decide +kernel
theorem d_M_comes_20 : decode b_M_comes 20 = .ok (.iload_n 2, 1) := by decide +kernel
theorem d_M_comes_21 : decode b_M_comes 21 = .ok (.iload_n 3, 1) := by decide +kernel
theorem d_M_comes_22 : decode b_M_comes 22 = .ok (.iastore, 1) := by decide +kernel
theorem d_M_comes_23 : decode b_M_comes 23 = .ok (.goto 99, 3) := by decide +kernel
theorem d_M_comes_26 : decode b_M_comes 26 = .ok (.iload_n 1, 1) := by decide +kernel
theorem d_M_comes_27 : decode b_M_comes 27 = .ok (.iconst 2, 1) := by decide +kernel
theorem d_M_comes_28 : decode b_M_comes 28 = .ok (.if_icmp .ne 33, 3) := by decide +kernel
theorem d_M_comes_31 : decode b_M_comes 31 = .ok (.iload 4, 2) := by decide +kernel
theorem d_M_comes_33 : decode b_M_comes 33 = .ok (.aload_n 0, 1) := by decide +kernel
theorem d_M_comes_34 : decode b_M_comes 34 = .ok (.getfield 38, 3) := by decide +kernel
theorem d_M_comes_37 : decode b_M_comes 37 = .ok (.iload_n 2, 1) := by decide +kernel
theorem d_M_comes_38 : decode b_M_comes 38 = .ok (.iaload, 1) := by decide +kernel
theorem d_M_comes_39 : decode b_M_comes 39 = .ok (.if_icmp .ne 83, 3) := by decide +kernel
theorem d_M_comes_42 : decode b_M_comes 42 = .ok (.aload_n 0, 1) := by decide +kernel
theorem d_M_comes_43 : decode b_M_comes 43 = .ok (.getfield 41, 3) := by decide +kernel
theorem d_M_comes_46 : decode b_M_comes 46 = .ok (.iload_n 2, 1) := by decide +kernel
theorem d_M_comes_47 : decode b_M_comes 47 = .ok (.baload, 1) := by decide +kernel
theorem d_M_comes_48 : decode b_M_comes 48 = .ok (.ifCond .ne 74, 3) := by decide +kernel
theorem d_M_comes_51 : decode b_M_comes 51 = .ok (.aload_n 0, 1) := by decide +kernel
theorem d_M_comes_52 : decode b_M_comes 52 = .ok (.getfield 48, 3) := by decide +kernel
theorem d_M_comes_55 : decode b_M_comes 55 = .ok (.iload_n 2, 1) := by decide +kernel
theorem d_M_comes_56 : decode b_M_comes 56 = .ok (.iload_n 3, 1) := by decide +kernel
theorem d_M_comes_57 : decode b_M_comes 57 = .ok (.iastore, 1) := by decide +kernel
theorem d_M_comes_58 : decode b_M_comes 58 = .ok (.goto 64, 3) := by decide +kernel
theorem d_M_comes_61 : decode b_M_comes 61 = .ok (.iload_n 1, 1) := by decide +kernel
theorem d_M_comes_62 : decode b_M_comes 62 = .ok (.iconst 1, 1) := by decide +kernel
theorem d_M_comes_63 : decode b_M_comes 63 = .ok (.if_icmp .ne 10, 3) := by decide +kernel
theorem d_M_comes_66 : decode b_M_comes 66 = .ok (.aload_n 0, 1) := by decide +kernel
theorem d_M_comes_67 : decode b_M_comes 67 = .ok (.iload_n 2, 1) := by decide +kernel
theorem d_M_comes_68 : decode b_M_comes 68 = .ok (.iload 4, 2) := by decide +kernel
theorem d_M_comes_70 : decode b_M_comes 70 = .ok (.invokevirtual 116, 3) := by decide +kernel
theorem d_M_comes_73 : decode b_M_comes 73 = .ok (.iload_n 1, 1) := by decide +kernel
theorem d_M_comes_74 : decode b_M_comes 74 = .ok (.iconst 3, 1) := by decide +kernel
theorem d_M_comes_75 : decode b_M_comes 75 = .ok (.if_icmp .ne 20, 3) := by decide +kernel
theorem d_M_comes_78 : decode b_M_comes 78 = .ok (.iload_n 3, 1) := by decide +kernel
theorem d_M_comes_79 : decode b_M_comes 79 = .ok (.aload_n 0, 1) := by decide +kernel
theorem d_M_comes_80 : decode b_M_comes 80 = .ok (.getfield 76, 3) := by decide +kernel
theorem d_M_comes_83 : decode b_M_comes 83 = .ok (.iload_n 2, 1) := by decide +kernel
theorem d_M_comes_84 : decode b_M_comes 84 = .ok (.iaload, 1) := by decide +kernel
theorem d_M_comes_85 : decode b_M_comes 85 = .ok (.if_icmp .le 10, 3) := by decide +kernel
theorem d_M_comes_88 : decode b_M_comes 88 = .ok (.aload_n 0, 1) := by decide +kernel
theorem d_M_comes_89 : decode b_M_comes 89 = .ok (.getfield 76, 3) := by decide +kernel
theorem d_M_comes_92 : decode b_M_comes 92 = .ok (.iload_n 2, 1) := by decide +kernel
theorem d_M_comes_93 : decode b_M_comes 93 = .ok (.iload_n 3, 1) := by decide +kernel
theorem d_M_comes_94 : decode b_M_comes 94 = .ok (.iastore, 1) := by decide +kernel
theorem d_M_comes_95 : decode b_M_comes 95 = .ok (.iload_n 1, 1) := by decide +kernel
theorem d_M_comes_96 : decode b_M_comes 96 = .ok (.iconst 4, 1) := by decide +kernel
theorem d_M_comes_97 : decode b_M_comes 97 = .ok (.if_icmp .ne 21, 3) := by decide +kernel
theorem d_M_comes_100 : decode b_M_comes 100 = .ok (.iload 4, 2) := by decide +kernel
theorem d_M_comes_102 : decode b_M_comes 102 = .ok (.aload_n 0, 1) := by decide +kernel
theorem d_M_comes_103 : decode b_M_comes 103 = .ok (.getfield 64, 3) := by decide +kernel
theorem d_M_comes_106 : decode b_M_comes 106 = .ok (.iload_n 2, 1) := by decide +kernel
theorem d_M_comes_107 : decode b_M_comes 107 = .ok (.iaload, 1) := by decide +kernel
theorem d_M_comes_108 : decode b_M_comes 108 = .ok (.if_icmp .ne 10, 3) := by decide +kernel
theorem d_M_comes_111 : decode b_M_comes 111 = .ok (.aload_n 0, 1) := by decide +kernel
theorem d_M_comes_112 : decode b_M_comes 112 = .ok (.getfield 67, 3) := by decide +kernel
theorem d_M_comes_115 : decode b_M_comes 115 = .ok (.iload_n 2, 1) := by decide +kernel
theorem d_M_comes_116 : decode b_M_comes 116 = .ok (.iconst 0, 1) := by decide +kernel
theorem d_M_comes_117 : decode b_M_comes 117 = .ok (.bastore, 1) := by decide +kernel
theorem d_M_comes_118 : decode b_M_comes 118 = .ok (.aload_n 0, 1) := by decide +kernel
theorem d_M_comes_119 : decode b_M_comes 119 = .ok (.invokevirtual 120, 3) := by decide +kernel
theorem d_M_comes_122 : decode b_M_comes 122 = .ok (.return_, 1) := by decide +kernel

theorem d_M_validLease_0 : decode b_M_validLease 0 = .ok (.aload_n 0, 1) := by decide +kernel
theorem d_M_validLease_1 : decode b_M_validLease 1 = .ok (.getfield 48, 3) := by decide +kernel
theorem d_M_validLease_4 : decode b_M_validLease 4 = .ok (.iload_n 1, 1) := by decide +kernel
theorem d_M_validLease_5 : decode b_M_validLease 5 = .ok (.iaload, 1) := by decide +kernel
theorem d_M_validLease_6 : decode b_M_validLease 6 = .ok (.istore_n 2, 1) := by decide +kernel
theorem d_M_validLease_7 : decode b_M_validLease 7 = .ok (.iload_n 2, 1) := by decide +kernel
theorem d_M_validLease_8 : decode b_M_validLease 8 = .ok (.ifCond .le 44, 3) := by decide +kernel
theorem d_M_validLease_11 : decode b_M_validLease 11 = .ok (.aload_n 0, 1) := by decide +kernel
theorem d_M_validLease_12 : decode b_M_validLease 12 = .ok (.iload_n 1, 1) := by decide +kernel
theorem d_M_validLease_13 : decode b_M_validLease 13 = .ok (.invokevirtual 104, 3) := by decide +kernel
theorem d_M_validLease_16 : decode b_M_validLease 16 = .ok (.aload_n 0, 1) := by decide +kernel
theorem d_M_validLease_17 : decode b_M_validLease 17 = .ok (.getfield 45, 3) := by decide +kernel
theorem d_M_validLease_20 : decode b_M_validLease 20 = .ok (.iload_n 1, 1) := by decide +kernel
theorem d_M_validLease_21 : decode b_M_validLease 21 = .ok (.iaload, 1) := by decide +kernel
theorem d_M_validLease_22 : decode b_M_validLease 22 = .ok (.bipush 60, 2) := by decide +kernel
theorem d_M_validLease_24 : decode b_M_validLease 24 = .ok (.iadd, 1) := by decide +kernel
theorem d_M_validLease_25 : decode b_M_validLease 25 = .ok (.if_icmp .ge 27, 3) := by decide +kernel
theorem d_M_validLease_28 : decode b_M_validLease 28 = .ok (.aload_n 0, 1) := by decide +kernel
theorem d_M_validLease_29 : decode b_M_validLease 29 = .ok (.getfield 32, 3) := by decide +kernel
theorem d_M_validLease_32 : decode b_M_validLease 32 = .ok (.iload_n 1, 1) := by decide +kernel
theorem d_M_validLease_33 : decode b_M_validLease 33 = .ok (.iaload, 1) := by decide +kernel
theorem d_M_validLease_34 : decode b_M_validLease 34 = .ok (.iload_n 2, 1) := by decide +kernel
theorem d_M_validLease_35 : decode b_M_validLease 35 = .ok (.if_icmp .lt 17, 3) := by decide +kernel
theorem d_M_validLease_38 : decode b_M_validLease 38 = .ok (.aload_n 0, 1) := by decide +kernel
theorem d_M_validLease_39 : decode b_M_validLease 39 = .ok (.getfield 35, 3) := by decide +kernel
theorem d_M_validLease_42 : decode b_M_validLease 42 = .ok (.iload_n 1, 1) := by decide +kernel
theorem d_M_validLease_43 : decode b_M_validLease 43 = .ok (.iaload, 1) := by decide +kernel
theorem d_M_validLease_44 : decode b_M_validLease 44 = .ok (.iload_n 2, 1) := by decide +kernel
theorem d_M_validLease_45 : decode b_M_validLease 45 = .ok (.if_icmp .gt 7, 3) := by decide +kernel
theorem d_M_validLease_48 : decode b_M_validLease 48 = .ok (.iconst 1, 1) := by decide +kernel
theorem d_M_validLease_49 : decode b_M_validLease 49 = .ok (.goto 4, 3) := by decide +kernel
theorem d_M_validLease_52 : decode b_M_validLease 52 = .ok (.iconst 0, 1) := by decide +kernel
theorem d_M_validLease_53 : decode b_M_validLease 53 = .ok (.istore_n 3, 1) := by decide +kernel
theorem d_M_validLease_54 : decode b_M_validLease 54 = .ok (.iload_n 3, 1) := by decide +kernel
theorem d_M_validLease_55 : decode b_M_validLease 55 = .ok (.ifCond .eq 7, 3) := by decide +kernel
theorem d_M_validLease_58 : decode b_M_validLease 58 = .ok (.iload_n 2, 1) := by decide +kernel
theorem d_M_validLease_59 : decode b_M_validLease 59 = .ok (.goto 4, 3) := by decide +kernel
theorem d_M_validLease_62 : decode b_M_validLease 62 = .ok (.iconst 0, 1) := by decide +kernel
theorem d_M_validLease_63 : decode b_M_validLease 63 = .ok (.ireturn, 1) := by decide +kernel

theorem d_M_not_0 : decode b_M_not 0 = .ok (.iload_n 0, 1) := by decide +kernel
theorem d_M_not_1 : decode b_M_not 1 = .ok (.ifCond .lt 8, 3) := by decide +kernel
theorem d_M_not_4 : decode b_M_not 4 = .ok (.iload_n 0, 1) := by decide +kernel
theorem d_M_not_5 : decode b_M_not 5 = .ok (.iload_n 1, 1) := by decide +kernel
theorem d_M_not_6 : decode b_M_not 6 = .ok (.if_icmp .lt 7, 3) := by decide +kernel
theorem d_M_not_9 : decode b_M_not 9 = .ok (.iconst 1, 1) := by decide +kernel
theorem d_M_not_10 : decode b_M_not 10 = .ok (.goto 4, 3) := by decide +kernel
theorem d_M_not_13 : decode b_M_not 13 = .ok (.iconst 0, 1) := by decide +kernel
theorem d_M_not_14 : decode b_M_not 14 = .ok (.ireturn, 1) := by decide +kernel

theorem d_M_thrown_0 : decode b_M_thrown 0 = .ok (.aload_n 0, 1) := by decide +kernel
theorem d_M_thrown_1 : decode b_M_thrown 1 = .ok (.getfield 7, 3) := by decide +kernel
theorem d_M_thrown_4 : decode b_M_thrown 4 = .ok (.ireturn, 1) := by decide +kernel

set_option maxHeartbeats 4000000 in
set_option maxRecDepth 100000 in
theorem c_M_clock (l : Launch) (Z : qZ) (hZ : qok (pX Z)) (V : qV) (Y : qY) (j : Nat) (hj : j < 5) : CT l y_M_clock { frames := 1, cells := 0, slots := 0, locals := 40 } (pX Z) qN [.ref (al Z 20 0), .int (nI j)] V Y (.inl (some (.int ((V 24 0 j) / 100)))) V Y := by
  refine CT.of (cc := b_M_clock) (maxL := 2) (ret := (some .int)) hZ (by decide) w_788 (Nat.le_of_ble_eq_true rfl) ?_
  intro p e s m below meth c C hr hex hlt
  refine gq_aload_n C d_M_clock_0 rfl ?_
  refine gq_get C (g := 20) (j := 0) (ci := 8) (k := 5) (v := .ref (al Z 24 0)) (qm (by decide) (by decide)) rfl rfl in_M (by decide) w_666 rfl d_M_clock_1 ?_
  refine gq_iload_n C d_M_clock_4 rfl ?_
  refine gq_iald C (g := 24) (j := 0) (a := j) (t0 := 0) (qm (by decide) (by decide)) rfl rfl rfl hj (by decide) d_M_clock_5 ?_
  refine gq_bipush C (v := 100) d_M_clock_6 (by decide) ?_
  refine gq_idiv C d_M_clock_8 (by decide) ?_
  exact gq_iret C hr (by decide) (by decide) d_M_clock_9

set_option maxHeartbeats 4000000 in
set_option maxRecDepth 100000 in
theorem c_M_not (l : Launch) (Z : qZ) (hZ : qok (pX Z)) (V : qV) (Y : qY) (a b : Int32) : CT l y_M_not { frames := 1, cells := 0, slots := 0, locals := 40 } (pX Z) qN [.int a, .int b] V Y (.inl (some (.int (g_not a b)))) V Y := by
  refine CT.of (cc := b_M_not) (maxL := 2) (ret := (some .boolean)) hZ (by decide) w_763 (Nat.le_of_ble_eq_true rfl) ?_
  intro p e s m below meth c C hr hex hlt
  refine gq_iload_n C d_M_not_0 rfl ?_
  refine gq_if_lt C (tgt := 9) d_M_not_1 rfl (fun hb1 => ?_) (fun hb1 => ?_)
  · skip
    refine gq_iconst C (v := 1) d_M_not_9 (by decide) ?_
    refine gq_goto C (tgt := 14) d_M_not_10 rfl ?_
    exact gq_zretE C hr (by decide) (by unfold g_not; simp [*]) rfl rfl (by decide) (by decide) d_M_not_14
  · skip
    refine gq_iload_n C d_M_not_4 rfl ?_
    refine gq_iload_n C d_M_not_5 rfl ?_
    refine gq_icmp_lt C (tgt := 13) d_M_not_6 rfl (fun hb6 => ?_) (fun hb6 => ?_)
    · skip
      refine gq_iconst C (v := 0) d_M_not_13 (by decide) ?_
      exact gq_zretE C hr (by decide) (by unfold g_not; simp [*]) rfl rfl (by decide) (by decide) d_M_not_14
    · skip
      refine gq_iconst C (v := 1) d_M_not_9 (by decide) ?_
      refine gq_goto C (tgt := 14) d_M_not_10 rfl ?_
      exact gq_zretE C hr (by decide) (by unfold g_not; simp [*]) rfl rfl (by decide) (by decide) d_M_not_14

set_option maxHeartbeats 4000000 in
set_option maxRecDepth 100000 in
theorem c_M_thrown (l : Launch) (Z : qZ) (hZ : qok (pX Z)) (V : qV) (Y : qY)  : CT l y_M_thrown { frames := 1, cells := 0, slots := 0, locals := 40 } (pX Z) qN [.ref (al Z 20 0)] V Y (.inl (some (.int (V 20 0 0)))) V Y := by
  refine CT.of (cc := b_M_thrown) (maxL := 1) (ret := (some .int)) hZ (by decide) w_756 (Nat.le_of_ble_eq_true rfl) ?_
  intro p e s m below meth c C hr hex hlt
  refine gq_aload_n C d_M_thrown_0 rfl ?_
  refine gq_get C (g := 20) (j := 0) (ci := 8) (k := 0) (v := .int (V 20 0 0)) (qm (by decide) (by decide)) rfl rfl in_M (by decide) w_661 rfl d_M_thrown_1 ?_
  exact gq_iret C hr (by decide) (by decide) d_M_thrown_4

set_option maxHeartbeats 4000000 in
set_option maxRecDepth 100000 in
theorem c_M_post_full (l : Launch) (Z : qZ) (hZ : qok (pX Z)) (V : qV) (Y : qY) (h : V 20 0 22 = 40) (k t b a : Int32) : CT l y_M_post { frames := 1, cells := 0, slots := 0, locals := 40 } (pX Z) (qA (pX Z)) [.ref (al Z 20 0), .int k, .int t, .int b, .int a] V Y (.inl none) V Y := by
  refine CT.of (cc := b_M_post) (maxL := 5) (ret := none) hZ (by decide) w_776 (Nat.le_of_ble_eq_true rfl) ?_
  intro p e s m below meth c C hr hex hlt
  refine gq_aload_n C d_M_post_0 rfl ?_
  refine gq_get C (g := 20) (j := 0) (ci := 8) (k := 22) (v := .int (V 20 0 22)) (qm (by decide) (by decide)) rfl rfl in_M (by decide) w_683 rfl d_M_post_1 ?_
  refine gq_bipush C (v := 40) d_M_post_4 (by decide) ?_
  refine gq_icmp_ne C (tgt := 10) d_M_post_6 rfl (fun hb => by first | contradiction | contradiction) (fun hb6 => ?_)
  exact gq_vret C hr (by decide) (by decide) d_M_post_9

set_option maxHeartbeats 4000000 in
set_option maxRecDepth 100000 in
theorem c_M_post (l : Launch) (Z : qZ) (hZ : qok (pX Z)) (V : qV) (Y : qY) (n : Nat) (hn : n < 40) (h22 : V 20 0 22 = nI n) (k t b a : Int32) : CT l y_M_post { frames := 1, cells := 0, slots := 0, locals := 40 } (pX Z) (qA (pX Z)) [.ref (al Z 20 0), .int k, .int t, .int b, .int a] V Y (.inl none) (g_post V n k t b a) Y := by
  refine CT.of (cc := b_M_post) (maxL := 5) (ret := none) hZ (by decide) w_776 (Nat.le_of_ble_eq_true rfl) ?_
  intro p e s m below meth c C hr hex hlt
  refine gq_aload_n C d_M_post_0 rfl ?_
  refine gq_get C (g := 20) (j := 0) (ci := 8) (k := 22) (v := .int (V 20 0 22)) (qm (by decide) (by decide)) rfl rfl in_M (by decide) w_683 rfl d_M_post_1 ?_
  refine gq_bipush C (v := 40) d_M_post_4 (by decide) ?_
  refine gq_icmp_ne C (tgt := 10) d_M_post_6 rfl (fun hb6 => ?_) (fun hb => by exact absurd ((nI_eq (a := n) (b := 40) (by omega) (by omega)).mp (h22.symm.trans hb)) (by omega))
  refine gq_aload_n C d_M_post_10 rfl ?_
  refine gq_get C (g := 20) (j := 0) (ci := 8) (k := 23) (v := .ref (al Z 37 0)) (qm (by decide) (by decide)) rfl rfl in_M (by decide) w_684 rfl d_M_post_11 ?_
  refine gq_iconst C (v := 4) d_M_post_14 (by decide) ?_
  refine gq_aload_n C d_M_post_15 rfl ?_
  refine gq_get C (g := 20) (j := 0) (ci := 8) (k := 22) (v := .int (V 20 0 22)) (qm (by decide) (by decide)) rfl rfl in_M (by decide) w_683 rfl d_M_post_16 ?_
  refine gq_imul C d_M_post_19 ?_
  refine gq_iload_n C d_M_post_20 rfl ?_
  refine gq_iast C (fun _ h => h) (g := 37) (j := 0) (a := (4 * n)) (t0 := 0) (qm (by decide) (by decide)) (fun _ => rfl) rfl (by rw [h22, show (4 : Int32) = nI 4 from rfl, pk_mul]) (by omega) (by decide) d_M_post_21 ?_
  refine gq_aload_n C d_M_post_22 rfl ?_
  refine gq_get C (g := 20) (j := 0) (ci := 8) (k := 23) (v := .ref (al Z 37 0)) (qm (by decide) (by decide)) rfl rfl in_M (by decide) w_684 rfl d_M_post_23 ?_
  refine gq_iconst C (v := 4) d_M_post_26 (by decide) ?_
  refine gq_aload_n C d_M_post_27 rfl ?_
  refine gq_get C (g := 20) (j := 0) (ci := 8) (k := 22) (v := .int (V 20 0 22)) (qm (by decide) (by decide)) rfl rfl in_M (by decide) w_683 rfl d_M_post_28 ?_
  refine gq_imul C d_M_post_31 ?_
  refine gq_iconst C (v := 1) d_M_post_32 (by decide) ?_
  refine gq_iadd C d_M_post_33 ?_
  refine gq_iload_n C d_M_post_34 rfl ?_
  refine gq_iast C (fun _ h => h) (g := 37) (j := 0) (a := (4 * n + 1)) (t0 := 0) (qm (by decide) (by decide)) (fun _ => rfl) rfl (by rw [h22, show (4 : Int32) = nI 4 from rfl, pk_mul]; exact nI_add _ _) (by omega) (by decide) d_M_post_35 ?_
  refine gq_aload_n C d_M_post_36 rfl ?_
  refine gq_get C (g := 20) (j := 0) (ci := 8) (k := 23) (v := .ref (al Z 37 0)) (qm (by decide) (by decide)) rfl rfl in_M (by decide) w_684 rfl d_M_post_37 ?_
  refine gq_iconst C (v := 4) d_M_post_40 (by decide) ?_
  refine gq_aload_n C d_M_post_41 rfl ?_
  refine gq_get C (g := 20) (j := 0) (ci := 8) (k := 22) (v := .int (V 20 0 22)) (qm (by decide) (by decide)) rfl rfl in_M (by decide) w_683 rfl d_M_post_42 ?_
  refine gq_imul C d_M_post_45 ?_
  refine gq_iconst C (v := 2) d_M_post_46 (by decide) ?_
  refine gq_iadd C d_M_post_47 ?_
  refine gq_iload_n C d_M_post_48 rfl ?_
  refine gq_iast C (fun _ h => h) (g := 37) (j := 0) (a := (4 * n + 2)) (t0 := 0) (qm (by decide) (by decide)) (fun _ => rfl) rfl (by rw [h22, show (4 : Int32) = nI 4 from rfl, pk_mul]; exact nI_add _ _) (by omega) (by decide) d_M_post_49 ?_
  refine gq_aload_n C d_M_post_50 rfl ?_
  refine gq_get C (g := 20) (j := 0) (ci := 8) (k := 23) (v := .ref (al Z 37 0)) (qm (by decide) (by decide)) rfl rfl in_M (by decide) w_684 rfl d_M_post_51 ?_
  refine gq_iconst C (v := 4) d_M_post_54 (by decide) ?_
  refine gq_aload_n C d_M_post_55 rfl ?_
  refine gq_get C (g := 20) (j := 0) (ci := 8) (k := 22) (v := .int (V 20 0 22)) (qm (by decide) (by decide)) rfl rfl in_M (by decide) w_683 rfl d_M_post_56 ?_
  refine gq_imul C d_M_post_59 ?_
  refine gq_iconst C (v := 3) d_M_post_60 (by decide) ?_
  refine gq_iadd C d_M_post_61 ?_
  refine gq_iload C d_M_post_62 rfl ?_
  refine gq_iast C (fun _ h => h) (g := 37) (j := 0) (a := (4 * n + 3)) (t0 := 0) (qm (by decide) (by decide)) (fun _ => rfl) rfl (by rw [h22, show (4 : Int32) = nI 4 from rfl, pk_mul]; exact nI_add _ _) (by omega) (by decide) d_M_post_64 ?_
  refine gq_aload_n C d_M_post_65 rfl ?_
  refine gq_dup C d_M_post_66 rfl ?_
  refine gq_get C (g := 20) (j := 0) (ci := 8) (k := 22) (v := .int (V 20 0 22)) (qm (by decide) (by decide)) rfl rfl in_M (by decide) w_683 rfl d_M_post_67 ?_
  refine gq_iconst C (v := 1) d_M_post_70 (by decide) ?_
  refine gq_iadd C d_M_post_71 ?_
  refine gq_put C (fun _ h => h) (g := 20) (j := 0) (ci := 8) (k := 22) ft_M k_M n_M (qm (by decide) (by decide)) rfl rfl in_M (by decide) w_683 rfl (k_M 22 (by decide)) rfl rfl (Nat.le_of_ble_eq_true rfl) rfl d_M_post_72 ?_
  exact gq_vretE C hr (by unfold g_post; rw [h22, nI_succ]) rfl (by decide) (by decide) d_M_post_75

theorem g_put_cnt {V : qV} (k t b a : Int32) (h : ∃ n, n ≤ 40 ∧ V 20 0 22 = nI n) : ∃ n, n ≤ 40 ∧ g_put V k t b a 20 0 22 = nI n := by
  obtain ⟨n, hn, h4⟩ := h
  by_cases hl : n < 40
  · refine ⟨n + 1, hl, ?_⟩
    unfold g_put g_post
    rw [if_neg (show ¬ V 20 0 22 = (40 : Int32) from fun q => absurd ((nI_eq (a := n) (b := 40) (by omega) (by omega)).mp (h4.symm.trans q)) (by omega)), h4, nI_clamp (by omega)]
    simp [qv_at]
  · refine ⟨n, hn, ?_⟩
    unfold g_put
    rw [if_pos (show V 20 0 22 = (40 : Int32) by rw [h4, show n = 40 by omega]; rfl)]
    exact h4
theorem c_M_put (l : Launch) (Z : qZ) (hZ : qok (pX Z)) (V : qV) (Y : qY) (h : ∃ n, n ≤ 40 ∧ V 20 0 22 = nI n) (k t b a : Int32) : CT l y_M_post { frames := 1, cells := 0, slots := 0, locals := 40 } (pX Z) (qA (pX Z)) [.ref (al Z 20 0), .int k, .int t, .int b, .int a] V Y (.inl none) (g_put V k t b a) Y := by
  obtain ⟨n, hn, h4⟩ := h
  by_cases hl : n < 40
  · have e : g_put V k t b a = g_post V n k t b a := by
      unfold g_put
      rw [if_neg (show ¬ V 20 0 22 = (40 : Int32) from fun q => absurd ((nI_eq (a := n) (b := 40) (by omega) (by omega)).mp (h4.symm.trans q)) (by omega)), h4, nI_clamp (by omega)]
    rw [e]
    exact c_M_post l Z hZ V Y n hl h4 k t b a
  · have hf : V 20 0 22 = 40 := by rw [h4, show n = 40 by omega]; rfl
    have e : g_put V k t b a = V := by
      unfold g_put
      rw [if_pos hf]
    rw [e]
    exact c_M_post_full l Z hZ V Y hf k t b a

set_option maxHeartbeats 4000000 in
set_option maxRecDepth 100000 in
theorem c_M_free (l : Launch) (Z : qZ) (hZ : qok (pX Z)) (V : qV) (Y : qY) (t : Nat) (ht : t < 4) : CT l y_M_free { frames := 2, cells := 0, slots := 0, locals := 61 } (pX Z) qN [.ref (al Z 20 0), .int (nI t)] V Y (.inl (some (.int (g_free V t)))) V Y := by
  refine CT.of (cc := b_M_free) (maxL := 2) (ret := (some .boolean)) hZ (by decide) w_792 (Nat.le_of_ble_eq_true rfl) ?_
  intro p e s m below meth c C hr hex hlt
  refine gq_aload_n C d_M_free_0 rfl ?_
  refine gq_get C (g := 20) (j := 0) (ci := 8) (k := 21) (v := .ref (al Z 36 0)) (qm (by decide) (by decide)) rfl rfl in_M (by decide) w_682 rfl d_M_free_1 ?_
  refine gq_iload_n C d_M_free_4 rfl ?_
  refine gq_iald C (g := 36) (j := 0) (a := t) (t0 := 0) (qm (by decide) (by decide)) rfl rfl rfl ht (by decide) d_M_free_5 ?_
  refine gq_aload_n C d_M_free_6 rfl ?_
  refine gq_get C (g := 20) (j := 0) (ci := 8) (k := 14) (v := .int (V 20 0 14)) (qm (by decide) (by decide)) rfl rfl in_M (by decide) w_675 rfl d_M_free_7 ?_
  refine gq_icmp_ge C (tgt := 52) d_M_free_10 rfl (fun hb10 => ?_) (fun hb10 => ?_)
  · skip
    refine gq_iconst C (v := 1) d_M_free_52 (by decide) ?_
    refine gq_goto C (tgt := 57) d_M_free_53 rfl ?_
    exact gq_zretE C hr (by decide) (by unfold g_free; simp [*]) rfl rfl (by decide) (by decide) d_M_free_57
  · skip
    refine gq_aload_n C d_M_free_13 rfl ?_
    refine gq_get C (g := 20) (j := 0) (ci := 8) (k := 18) (v := .ref (al Z 33 0)) (qm (by decide) (by decide)) rfl rfl in_M (by decide) w_679 rfl d_M_free_14 ?_
    refine gq_iload_n C d_M_free_17 rfl ?_
    refine gq_zald C (g := 33) (j := 0) (a := t) (t0 := 2) (qm (by decide) (by decide)) rfl rfl rfl ht (by decide) d_M_free_18 ?_
    refine gq_if_eq C (tgt := 52) d_M_free_19 rfl (fun hb19 => ?_) (fun hb19 => ?_)
    · skip
      refine gq_iconst C (v := 1) d_M_free_52 (by decide) ?_
      refine gq_goto C (tgt := 57) d_M_free_53 rfl ?_
      exact gq_zretE C hr (by decide) (by unfold g_free; simp [*]) rfl rfl (by decide) (by decide) d_M_free_57
    · skip
      refine gq_aload_n C d_M_free_22 rfl ?_
      refine gq_get C (g := 20) (j := 0) (ci := 8) (k := 19) (v := .ref (al Z 34 0)) (qm (by decide) (by decide)) rfl rfl in_M (by decide) w_680 rfl d_M_free_23 ?_
      refine gq_iload_n C d_M_free_26 rfl ?_
      refine gq_iald C (g := 34) (j := 0) (a := t) (t0 := 0) (qm (by decide) (by decide)) rfl rfl rfl ht (by decide) d_M_free_27 ?_
      refine gq_aload_n C d_M_free_28 rfl ?_
      refine gq_get C (g := 20) (j := 0) (ci := 8) (k := 14) (v := .int (V 20 0 14)) (qm (by decide) (by decide)) rfl rfl in_M (by decide) w_675 rfl d_M_free_29 ?_
      refine gq_icmp_eq C (tgt := 52) d_M_free_32 rfl (fun hb32 => ?_) (fun hb32 => ?_)
      · skip
        refine gq_iconst C (v := 1) d_M_free_52 (by decide) ?_
        refine gq_goto C (tgt := 57) d_M_free_53 rfl ?_
        exact gq_zretE C hr (by decide) (by unfold g_free; simp [*]) rfl rfl (by decide) (by decide) d_M_free_57
      · skip
        refine gq_aload_n C d_M_free_35 rfl ?_
        refine gq_iconst C (v := 4) d_M_free_36 (by decide) ?_
        refine gq_callV C (st := []) (fun _ h => h) (c_M_clock l Z hZ _ _ 4 (by decide)) (qm (by decide) (by decide)) rfl rfl w_785 w_787 ws_M_clock w_788 w_9 ⟨by decide, by decide, (by decide +kernel : (parseMethodDescriptor y_M_clock.desc).map (fun d => d.parameters.length) = some 1)⟩ ⟨by decide, by decide⟩ ⟨by decide, by decide⟩ rfl (Nat.le_of_ble_eq_true rfl) d_M_free_37 ?_
        refine gq_aload_n C d_M_free_40 rfl ?_
        refine gq_get C (g := 20) (j := 0) (ci := 8) (k := 20) (v := .ref (al Z 35 0)) (qm (by decide) (by decide)) rfl rfl in_M (by decide) w_681 rfl d_M_free_41 ?_
        refine gq_iload_n C d_M_free_44 rfl ?_
        refine gq_iald C (g := 35) (j := 0) (a := t) (t0 := 0) (qm (by decide) (by decide)) rfl rfl rfl ht (by decide) d_M_free_45 ?_
        refine gq_bipush C (v := 63) d_M_free_46 (by decide) ?_
        refine gq_iadd C d_M_free_48 ?_
        refine gq_icmp_lt C (tgt := 56) d_M_free_49 rfl (fun hb49 => ?_) (fun hb49 => ?_)
        · skip
          refine gq_iconst C (v := 0) d_M_free_56 (by decide) ?_
          exact gq_zretE C hr (by decide) (by unfold g_free; simp [*]) rfl rfl (by decide) (by decide) d_M_free_57
        · skip
          refine gq_iconst C (v := 1) d_M_free_52 (by decide) ?_
          refine gq_goto C (tgt := 57) d_M_free_53 rfl ?_
          exact gq_zretE C hr (by decide) (by unfold g_free; simp [*]) rfl rfl (by decide) (by decide) d_M_free_57

set_option maxHeartbeats 4000000 in
set_option maxRecDepth 100000 in
theorem c_M_look (l : Launch) (Z : qZ) (hZ : qok (pX Z)) (V : qV) (Y : qY)  : CT l y_M_look { frames := 3, cells := 0, slots := 0, locals := 82 } (pX Z) (qA (pX Z)) [.ref (al Z 20 0)] V Y (.inl none) (g_look V) Y := by
  refine CT.of (cc := b_M_look) (maxL := 2) (ret := none) hZ (by decide) w_784 (Nat.le_of_ble_eq_true rfl) ?_
  intro p e s m below meth c C hr hex hlt
  refine gq_aload_n C d_M_look_0 rfl ?_
  refine gq_get C (g := 20) (j := 0) (ci := 8) (k := 15) (v := .int (V 20 0 15)) (qm (by decide) (by decide)) rfl rfl in_M (by decide) w_676 rfl d_M_look_1 ?_
  refine gq_if_eq C (tgt := 24) d_M_look_4 rfl (fun hb4 => ?_) (fun hb4 => ?_)
  · skip
    refine gq_aload_n C d_M_look_24 rfl ?_
    refine gq_get C (g := 20) (j := 0) (ci := 8) (k := 14) (v := .int (V 20 0 14)) (qm (by decide) (by decide)) rfl rfl in_M (by decide) w_675 rfl d_M_look_25 ?_
    refine gq_if_eq C (tgt := 38) d_M_look_28 rfl (fun hb28 => ?_) (fun hb28 => ?_)
    · skip
      exact gq_vretE C hr (by first | contradiction | (unfold g_look g_look1 g_wake; simp [*, qv_at])) rfl (by decide) (by decide) d_M_look_38
    · skip
      refine gq_aload_n C d_M_look_31 rfl ?_
      refine gq_get C (g := 20) (j := 0) (ci := 8) (k := 15) (v := .int (V 20 0 15)) (qm (by decide) (by decide)) rfl rfl in_M (by decide) w_676 rfl d_M_look_32 ?_
      refine gq_if_eq C (tgt := 39) d_M_look_35 rfl (fun hb35 => ?_) (fun hb35 => ?_)
      · skip
        refine gq_iconst C (v := 0) d_M_look_39 (by decide) ?_
        refine gq_istore_n C (lo' := [(1, .int 0), (0, .ref (al Z 20 0))]) d_M_look_40 rfl (by decide) rfl ?_
        refine gq_iload_n C d_M_look_41 rfl ?_
        refine gq_iconst C (v := 4) d_M_look_42 (by decide) ?_
        refine gq_icmp_ge C (tgt := 61) d_M_look_43 rfl (fun hb => by exact absurd hb (by decide)) (fun hb43 => ?_)
        refine gq_aload_n C d_M_look_46 rfl ?_
        refine gq_iload_n C d_M_look_47 rfl ?_
        refine gq_callV C (st := []) (fun _ h => h.elim) (c_M_free l Z hZ _ _ 0 (by decide)) (qm (by decide) (by decide)) rfl rfl w_789 w_791 ws_M_free w_792 w_9 ⟨by decide, by decide, (by decide +kernel : (parseMethodDescriptor y_M_free.desc).map (fun d => d.parameters.length) = some 1)⟩ ⟨by decide, by decide⟩ ⟨by decide, by decide⟩ rfl (Nat.le_of_ble_eq_true rfl) d_M_look_48 ?_
        refine gq_if_ne C (tgt := 55) d_M_look_51 rfl (fun hb51 => ?_) (fun hb51 => ?_)
        · skip
          refine gq_iinc C (k := 0) (w := 1) (lo' := [(1, .int 1), (0, .ref (al Z 20 0))]) d_M_look_55 rfl (by decide) (by decide) rfl ?_
          refine gq_goto C (tgt := 41) d_M_look_58 rfl ?_
          refine gq_iload_n C d_M_look_41 rfl ?_
          refine gq_iconst C (v := 4) d_M_look_42 (by decide) ?_
          refine gq_icmp_ge C (tgt := 61) d_M_look_43 rfl (fun hb => by exact absurd hb (by decide)) (fun hb43 => ?_)
          refine gq_aload_n C d_M_look_46 rfl ?_
          refine gq_iload_n C d_M_look_47 rfl ?_
          refine gq_callV C (st := []) (fun _ h => h.elim) (c_M_free l Z hZ _ _ 1 (by decide)) (qm (by decide) (by decide)) rfl rfl w_789 w_791 ws_M_free w_792 w_9 ⟨by decide, by decide, (by decide +kernel : (parseMethodDescriptor y_M_free.desc).map (fun d => d.parameters.length) = some 1)⟩ ⟨by decide, by decide⟩ ⟨by decide, by decide⟩ rfl (Nat.le_of_ble_eq_true rfl) d_M_look_48 ?_
          refine gq_if_ne C (tgt := 55) d_M_look_51 rfl (fun hb51 => ?_) (fun hb51 => ?_)
          · skip
            refine gq_iinc C (k := 0) (w := 2) (lo' := [(1, .int 2), (0, .ref (al Z 20 0))]) d_M_look_55 rfl (by decide) (by decide) rfl ?_
            refine gq_goto C (tgt := 41) d_M_look_58 rfl ?_
            refine gq_iload_n C d_M_look_41 rfl ?_
            refine gq_iconst C (v := 4) d_M_look_42 (by decide) ?_
            refine gq_icmp_ge C (tgt := 61) d_M_look_43 rfl (fun hb => by exact absurd hb (by decide)) (fun hb43 => ?_)
            refine gq_aload_n C d_M_look_46 rfl ?_
            refine gq_iload_n C d_M_look_47 rfl ?_
            refine gq_callV C (st := []) (fun _ h => h.elim) (c_M_free l Z hZ _ _ 2 (by decide)) (qm (by decide) (by decide)) rfl rfl w_789 w_791 ws_M_free w_792 w_9 ⟨by decide, by decide, (by decide +kernel : (parseMethodDescriptor y_M_free.desc).map (fun d => d.parameters.length) = some 1)⟩ ⟨by decide, by decide⟩ ⟨by decide, by decide⟩ rfl (Nat.le_of_ble_eq_true rfl) d_M_look_48 ?_
            refine gq_if_ne C (tgt := 55) d_M_look_51 rfl (fun hb51 => ?_) (fun hb51 => ?_)
            · skip
              refine gq_iinc C (k := 0) (w := 3) (lo' := [(1, .int 3), (0, .ref (al Z 20 0))]) d_M_look_55 rfl (by decide) (by decide) rfl ?_
              refine gq_goto C (tgt := 41) d_M_look_58 rfl ?_
              refine gq_iload_n C d_M_look_41 rfl ?_
              refine gq_iconst C (v := 4) d_M_look_42 (by decide) ?_
              refine gq_icmp_ge C (tgt := 61) d_M_look_43 rfl (fun hb => by exact absurd hb (by decide)) (fun hb43 => ?_)
              refine gq_aload_n C d_M_look_46 rfl ?_
              refine gq_iload_n C d_M_look_47 rfl ?_
              refine gq_callV C (st := []) (fun _ h => h.elim) (c_M_free l Z hZ _ _ 3 (by decide)) (qm (by decide) (by decide)) rfl rfl w_789 w_791 ws_M_free w_792 w_9 ⟨by decide, by decide, (by decide +kernel : (parseMethodDescriptor y_M_free.desc).map (fun d => d.parameters.length) = some 1)⟩ ⟨by decide, by decide⟩ ⟨by decide, by decide⟩ rfl (Nat.le_of_ble_eq_true rfl) d_M_look_48 ?_
              refine gq_if_ne C (tgt := 55) d_M_look_51 rfl (fun hb51 => ?_) (fun hb51 => ?_)
              · skip
                refine gq_iinc C (k := 0) (w := 4) (lo' := [(1, .int 4), (0, .ref (al Z 20 0))]) d_M_look_55 rfl (by decide) (by decide) rfl ?_
                refine gq_goto C (tgt := 41) d_M_look_58 rfl ?_
                refine gq_iload_n C d_M_look_41 rfl ?_
                refine gq_iconst C (v := 4) d_M_look_42 (by decide) ?_
                refine gq_icmp_ge C (tgt := 61) d_M_look_43 rfl (fun hb43 => ?_) (fun hb => by exact absurd hb (by decide))
                refine gq_aload_n C d_M_look_61 rfl ?_
                refine gq_aload_n C d_M_look_62 rfl ?_
                refine gq_get C (g := 20) (j := 0) (ci := 8) (k := 14) (v := .int (V 20 0 14)) (qm (by decide) (by decide)) rfl rfl in_M (by decide) w_675 rfl d_M_look_63 ?_
                refine gq_put C (fun _ h => h) (g := 20) (j := 0) (ci := 8) (k := 13) ft_M k_M n_M (qm (by decide) (by decide)) rfl rfl in_M (by decide) w_674 rfl (k_M 13 (by decide)) rfl rfl (Nat.le_of_ble_eq_true rfl) rfl d_M_look_66 ?_
                refine gq_aload_n C d_M_look_69 rfl ?_
                refine gq_iconst C (v := 0) d_M_look_70 (by decide) ?_
                refine gq_put C (fun _ h => h) (g := 20) (j := 0) (ci := 8) (k := 14) ft_M k_M n_M (qm (by decide) (by decide)) rfl rfl in_M (by decide) w_675 rfl (k_M 14 (by decide)) rfl rfl (Nat.le_of_ble_eq_true rfl) rfl d_M_look_71 ?_
                exact gq_vretE C hr (by first | contradiction | (unfold g_look g_look1 g_wake; simp [*, qv_at])) rfl (by decide) (by decide) d_M_look_74
              · skip
                exact gq_vretE C hr (by first | contradiction | (unfold g_look g_look1 g_wake; simp [*, qv_at])) rfl (by decide) (by decide) d_M_look_54
            · skip
              exact gq_vretE C hr (by first | contradiction | (unfold g_look g_look1 g_wake; simp [*, qv_at])) rfl (by decide) (by decide) d_M_look_54
          · skip
            exact gq_vretE C hr (by first | contradiction | (unfold g_look g_look1 g_wake; simp [*, qv_at])) rfl (by decide) (by decide) d_M_look_54
        · skip
          exact gq_vretE C hr (by first | contradiction | (unfold g_look g_look1 g_wake; simp [*, qv_at])) rfl (by decide) (by decide) d_M_look_54
      · skip
        exact gq_vretE C hr (by first | contradiction | (unfold g_look g_look1 g_wake; simp [*, qv_at])) rfl (by decide) (by decide) d_M_look_38
  · skip
    refine gq_aload_n C d_M_look_7 rfl ?_
    refine gq_iconst C (v := 4) d_M_look_8 (by decide) ?_
    refine gq_callV C (st := []) (fun _ h => h.elim) (c_M_clock l Z hZ _ _ 4 (by decide)) (qm (by decide) (by decide)) rfl rfl w_785 w_787 ws_M_clock w_788 w_9 ⟨by decide, by decide, (by decide +kernel : (parseMethodDescriptor y_M_clock.desc).map (fun d => d.parameters.length) = some 1)⟩ ⟨by decide, by decide⟩ ⟨by decide, by decide⟩ rfl (Nat.le_of_ble_eq_true rfl) d_M_look_9 ?_
    refine gq_aload_n C d_M_look_12 rfl ?_
    refine gq_get C (g := 20) (j := 0) (ci := 8) (k := 16) (v := .int (V 20 0 16)) (qm (by decide) (by decide)) rfl rfl in_M (by decide) w_677 rfl d_M_look_13 ?_
    refine gq_icmp_lt C (tgt := 24) d_M_look_16 rfl (fun hb16 => ?_) (fun hb16 => ?_)
    · skip
      refine gq_aload_n C d_M_look_24 rfl ?_
      refine gq_get C (g := 20) (j := 0) (ci := 8) (k := 14) (v := .int (V 20 0 14)) (qm (by decide) (by decide)) rfl rfl in_M (by decide) w_675 rfl d_M_look_25 ?_
      refine gq_if_eq C (tgt := 38) d_M_look_28 rfl (fun hb28 => ?_) (fun hb28 => ?_)
      · skip
        exact gq_vretE C hr (by first | contradiction | (unfold g_look g_look1 g_wake; simp [*, qv_at])) rfl (by decide) (by decide) d_M_look_38
      · skip
        refine gq_aload_n C d_M_look_31 rfl ?_
        refine gq_get C (g := 20) (j := 0) (ci := 8) (k := 15) (v := .int (V 20 0 15)) (qm (by decide) (by decide)) rfl rfl in_M (by decide) w_676 rfl d_M_look_32 ?_
        refine gq_if_eq C (tgt := 39) d_M_look_35 rfl (fun hb35 => ?_) (fun hb35 => ?_)
        · skip
          refine gq_iconst C (v := 0) d_M_look_39 (by decide) ?_
          refine gq_istore_n C (lo' := [(1, .int 0), (0, .ref (al Z 20 0))]) d_M_look_40 rfl (by decide) rfl ?_
          refine gq_iload_n C d_M_look_41 rfl ?_
          refine gq_iconst C (v := 4) d_M_look_42 (by decide) ?_
          refine gq_icmp_ge C (tgt := 61) d_M_look_43 rfl (fun hb => by exact absurd hb (by decide)) (fun hb43 => ?_)
          refine gq_aload_n C d_M_look_46 rfl ?_
          refine gq_iload_n C d_M_look_47 rfl ?_
          refine gq_callV C (st := []) (fun _ h => h.elim) (c_M_free l Z hZ _ _ 0 (by decide)) (qm (by decide) (by decide)) rfl rfl w_789 w_791 ws_M_free w_792 w_9 ⟨by decide, by decide, (by decide +kernel : (parseMethodDescriptor y_M_free.desc).map (fun d => d.parameters.length) = some 1)⟩ ⟨by decide, by decide⟩ ⟨by decide, by decide⟩ rfl (Nat.le_of_ble_eq_true rfl) d_M_look_48 ?_
          refine gq_if_ne C (tgt := 55) d_M_look_51 rfl (fun hb51 => ?_) (fun hb51 => ?_)
          · skip
            refine gq_iinc C (k := 0) (w := 1) (lo' := [(1, .int 1), (0, .ref (al Z 20 0))]) d_M_look_55 rfl (by decide) (by decide) rfl ?_
            refine gq_goto C (tgt := 41) d_M_look_58 rfl ?_
            refine gq_iload_n C d_M_look_41 rfl ?_
            refine gq_iconst C (v := 4) d_M_look_42 (by decide) ?_
            refine gq_icmp_ge C (tgt := 61) d_M_look_43 rfl (fun hb => by exact absurd hb (by decide)) (fun hb43 => ?_)
            refine gq_aload_n C d_M_look_46 rfl ?_
            refine gq_iload_n C d_M_look_47 rfl ?_
            refine gq_callV C (st := []) (fun _ h => h.elim) (c_M_free l Z hZ _ _ 1 (by decide)) (qm (by decide) (by decide)) rfl rfl w_789 w_791 ws_M_free w_792 w_9 ⟨by decide, by decide, (by decide +kernel : (parseMethodDescriptor y_M_free.desc).map (fun d => d.parameters.length) = some 1)⟩ ⟨by decide, by decide⟩ ⟨by decide, by decide⟩ rfl (Nat.le_of_ble_eq_true rfl) d_M_look_48 ?_
            refine gq_if_ne C (tgt := 55) d_M_look_51 rfl (fun hb51 => ?_) (fun hb51 => ?_)
            · skip
              refine gq_iinc C (k := 0) (w := 2) (lo' := [(1, .int 2), (0, .ref (al Z 20 0))]) d_M_look_55 rfl (by decide) (by decide) rfl ?_
              refine gq_goto C (tgt := 41) d_M_look_58 rfl ?_
              refine gq_iload_n C d_M_look_41 rfl ?_
              refine gq_iconst C (v := 4) d_M_look_42 (by decide) ?_
              refine gq_icmp_ge C (tgt := 61) d_M_look_43 rfl (fun hb => by exact absurd hb (by decide)) (fun hb43 => ?_)
              refine gq_aload_n C d_M_look_46 rfl ?_
              refine gq_iload_n C d_M_look_47 rfl ?_
              refine gq_callV C (st := []) (fun _ h => h.elim) (c_M_free l Z hZ _ _ 2 (by decide)) (qm (by decide) (by decide)) rfl rfl w_789 w_791 ws_M_free w_792 w_9 ⟨by decide, by decide, (by decide +kernel : (parseMethodDescriptor y_M_free.desc).map (fun d => d.parameters.length) = some 1)⟩ ⟨by decide, by decide⟩ ⟨by decide, by decide⟩ rfl (Nat.le_of_ble_eq_true rfl) d_M_look_48 ?_
              refine gq_if_ne C (tgt := 55) d_M_look_51 rfl (fun hb51 => ?_) (fun hb51 => ?_)
              · skip
                refine gq_iinc C (k := 0) (w := 3) (lo' := [(1, .int 3), (0, .ref (al Z 20 0))]) d_M_look_55 rfl (by decide) (by decide) rfl ?_
                refine gq_goto C (tgt := 41) d_M_look_58 rfl ?_
                refine gq_iload_n C d_M_look_41 rfl ?_
                refine gq_iconst C (v := 4) d_M_look_42 (by decide) ?_
                refine gq_icmp_ge C (tgt := 61) d_M_look_43 rfl (fun hb => by exact absurd hb (by decide)) (fun hb43 => ?_)
                refine gq_aload_n C d_M_look_46 rfl ?_
                refine gq_iload_n C d_M_look_47 rfl ?_
                refine gq_callV C (st := []) (fun _ h => h.elim) (c_M_free l Z hZ _ _ 3 (by decide)) (qm (by decide) (by decide)) rfl rfl w_789 w_791 ws_M_free w_792 w_9 ⟨by decide, by decide, (by decide +kernel : (parseMethodDescriptor y_M_free.desc).map (fun d => d.parameters.length) = some 1)⟩ ⟨by decide, by decide⟩ ⟨by decide, by decide⟩ rfl (Nat.le_of_ble_eq_true rfl) d_M_look_48 ?_
                refine gq_if_ne C (tgt := 55) d_M_look_51 rfl (fun hb51 => ?_) (fun hb51 => ?_)
                · skip
                  refine gq_iinc C (k := 0) (w := 4) (lo' := [(1, .int 4), (0, .ref (al Z 20 0))]) d_M_look_55 rfl (by decide) (by decide) rfl ?_
                  refine gq_goto C (tgt := 41) d_M_look_58 rfl ?_
                  refine gq_iload_n C d_M_look_41 rfl ?_
                  refine gq_iconst C (v := 4) d_M_look_42 (by decide) ?_
                  refine gq_icmp_ge C (tgt := 61) d_M_look_43 rfl (fun hb43 => ?_) (fun hb => by exact absurd hb (by decide))
                  refine gq_aload_n C d_M_look_61 rfl ?_
                  refine gq_aload_n C d_M_look_62 rfl ?_
                  refine gq_get C (g := 20) (j := 0) (ci := 8) (k := 14) (v := .int (V 20 0 14)) (qm (by decide) (by decide)) rfl rfl in_M (by decide) w_675 rfl d_M_look_63 ?_
                  refine gq_put C (fun _ h => h) (g := 20) (j := 0) (ci := 8) (k := 13) ft_M k_M n_M (qm (by decide) (by decide)) rfl rfl in_M (by decide) w_674 rfl (k_M 13 (by decide)) rfl rfl (Nat.le_of_ble_eq_true rfl) rfl d_M_look_66 ?_
                  refine gq_aload_n C d_M_look_69 rfl ?_
                  refine gq_iconst C (v := 0) d_M_look_70 (by decide) ?_
                  refine gq_put C (fun _ h => h) (g := 20) (j := 0) (ci := 8) (k := 14) ft_M k_M n_M (qm (by decide) (by decide)) rfl rfl in_M (by decide) w_675 rfl (k_M 14 (by decide)) rfl rfl (Nat.le_of_ble_eq_true rfl) rfl d_M_look_71 ?_
                  exact gq_vretE C hr (by first | contradiction | (unfold g_look g_look1 g_wake; simp [*, qv_at])) rfl (by decide) (by decide) d_M_look_74
                · skip
                  exact gq_vretE C hr (by first | contradiction | (unfold g_look g_look1 g_wake; simp [*, qv_at])) rfl (by decide) (by decide) d_M_look_54
              · skip
                exact gq_vretE C hr (by first | contradiction | (unfold g_look g_look1 g_wake; simp [*, qv_at])) rfl (by decide) (by decide) d_M_look_54
            · skip
              exact gq_vretE C hr (by first | contradiction | (unfold g_look g_look1 g_wake; simp [*, qv_at])) rfl (by decide) (by decide) d_M_look_54
          · skip
            exact gq_vretE C hr (by first | contradiction | (unfold g_look g_look1 g_wake; simp [*, qv_at])) rfl (by decide) (by decide) d_M_look_54
        · skip
          exact gq_vretE C hr (by first | contradiction | (unfold g_look g_look1 g_wake; simp [*, qv_at])) rfl (by decide) (by decide) d_M_look_38
    · skip
      refine gq_aload_n C d_M_look_19 rfl ?_
      refine gq_iconst C (v := 0) d_M_look_20 (by decide) ?_
      refine gq_put C (fun _ h => h) (g := 20) (j := 0) (ci := 8) (k := 15) ft_M k_M n_M (qm (by decide) (by decide)) rfl rfl in_M (by decide) w_676 rfl (k_M 15 (by decide)) rfl rfl (Nat.le_of_ble_eq_true rfl) rfl d_M_look_21 ?_
      refine gq_aload_n C d_M_look_24 rfl ?_
      refine gq_get C (g := 20) (j := 0) (ci := 8) (k := 14) (v := .int (V 20 0 14)) (qm (by decide) (by decide)) rfl rfl in_M (by decide) w_675 rfl d_M_look_25 ?_
      refine gq_if_eq C (tgt := 38) d_M_look_28 rfl (fun hb28 => ?_) (fun hb28 => ?_)
      · skip
        exact gq_vretE C hr (by first | contradiction | (unfold g_look g_look1 g_wake; simp [*, qv_at])) rfl (by decide) (by decide) d_M_look_38
      · skip
        refine gq_aload_n C d_M_look_31 rfl ?_
        refine gq_get C (g := 20) (j := 0) (ci := 8) (k := 15) (v := .int 0) (qm (by decide) (by decide)) rfl rfl in_M (by decide) w_676 rfl d_M_look_32 ?_
        refine gq_if_eq C (tgt := 39) d_M_look_35 rfl (fun hb35 => ?_) (fun hb => by exact absurd hb (by decide))
        refine gq_iconst C (v := 0) d_M_look_39 (by decide) ?_
        refine gq_istore_n C (lo' := [(1, .int 0), (0, .ref (al Z 20 0))]) d_M_look_40 rfl (by decide) rfl ?_
        refine gq_iload_n C d_M_look_41 rfl ?_
        refine gq_iconst C (v := 4) d_M_look_42 (by decide) ?_
        refine gq_icmp_ge C (tgt := 61) d_M_look_43 rfl (fun hb => by exact absurd hb (by decide)) (fun hb43 => ?_)
        refine gq_aload_n C d_M_look_46 rfl ?_
        refine gq_iload_n C d_M_look_47 rfl ?_
        refine gq_callV C (st := []) (fun _ h => h.elim) (c_M_free l Z hZ _ _ 0 (by decide)) (qm (by decide) (by decide)) rfl rfl w_789 w_791 ws_M_free w_792 w_9 ⟨by decide, by decide, (by decide +kernel : (parseMethodDescriptor y_M_free.desc).map (fun d => d.parameters.length) = some 1)⟩ ⟨by decide, by decide⟩ ⟨by decide, by decide⟩ rfl (Nat.le_of_ble_eq_true rfl) d_M_look_48 ?_
        refine gq_if_ne C (tgt := 55) d_M_look_51 rfl (fun hb51 => ?_) (fun hb51 => ?_)
        · skip
          refine gq_iinc C (k := 0) (w := 1) (lo' := [(1, .int 1), (0, .ref (al Z 20 0))]) d_M_look_55 rfl (by decide) (by decide) rfl ?_
          refine gq_goto C (tgt := 41) d_M_look_58 rfl ?_
          refine gq_iload_n C d_M_look_41 rfl ?_
          refine gq_iconst C (v := 4) d_M_look_42 (by decide) ?_
          refine gq_icmp_ge C (tgt := 61) d_M_look_43 rfl (fun hb => by exact absurd hb (by decide)) (fun hb43 => ?_)
          refine gq_aload_n C d_M_look_46 rfl ?_
          refine gq_iload_n C d_M_look_47 rfl ?_
          refine gq_callV C (st := []) (fun _ h => h.elim) (c_M_free l Z hZ _ _ 1 (by decide)) (qm (by decide) (by decide)) rfl rfl w_789 w_791 ws_M_free w_792 w_9 ⟨by decide, by decide, (by decide +kernel : (parseMethodDescriptor y_M_free.desc).map (fun d => d.parameters.length) = some 1)⟩ ⟨by decide, by decide⟩ ⟨by decide, by decide⟩ rfl (Nat.le_of_ble_eq_true rfl) d_M_look_48 ?_
          refine gq_if_ne C (tgt := 55) d_M_look_51 rfl (fun hb51 => ?_) (fun hb51 => ?_)
          · skip
            refine gq_iinc C (k := 0) (w := 2) (lo' := [(1, .int 2), (0, .ref (al Z 20 0))]) d_M_look_55 rfl (by decide) (by decide) rfl ?_
            refine gq_goto C (tgt := 41) d_M_look_58 rfl ?_
            refine gq_iload_n C d_M_look_41 rfl ?_
            refine gq_iconst C (v := 4) d_M_look_42 (by decide) ?_
            refine gq_icmp_ge C (tgt := 61) d_M_look_43 rfl (fun hb => by exact absurd hb (by decide)) (fun hb43 => ?_)
            refine gq_aload_n C d_M_look_46 rfl ?_
            refine gq_iload_n C d_M_look_47 rfl ?_
            refine gq_callV C (st := []) (fun _ h => h.elim) (c_M_free l Z hZ _ _ 2 (by decide)) (qm (by decide) (by decide)) rfl rfl w_789 w_791 ws_M_free w_792 w_9 ⟨by decide, by decide, (by decide +kernel : (parseMethodDescriptor y_M_free.desc).map (fun d => d.parameters.length) = some 1)⟩ ⟨by decide, by decide⟩ ⟨by decide, by decide⟩ rfl (Nat.le_of_ble_eq_true rfl) d_M_look_48 ?_
            refine gq_if_ne C (tgt := 55) d_M_look_51 rfl (fun hb51 => ?_) (fun hb51 => ?_)
            · skip
              refine gq_iinc C (k := 0) (w := 3) (lo' := [(1, .int 3), (0, .ref (al Z 20 0))]) d_M_look_55 rfl (by decide) (by decide) rfl ?_
              refine gq_goto C (tgt := 41) d_M_look_58 rfl ?_
              refine gq_iload_n C d_M_look_41 rfl ?_
              refine gq_iconst C (v := 4) d_M_look_42 (by decide) ?_
              refine gq_icmp_ge C (tgt := 61) d_M_look_43 rfl (fun hb => by exact absurd hb (by decide)) (fun hb43 => ?_)
              refine gq_aload_n C d_M_look_46 rfl ?_
              refine gq_iload_n C d_M_look_47 rfl ?_
              refine gq_callV C (st := []) (fun _ h => h.elim) (c_M_free l Z hZ _ _ 3 (by decide)) (qm (by decide) (by decide)) rfl rfl w_789 w_791 ws_M_free w_792 w_9 ⟨by decide, by decide, (by decide +kernel : (parseMethodDescriptor y_M_free.desc).map (fun d => d.parameters.length) = some 1)⟩ ⟨by decide, by decide⟩ ⟨by decide, by decide⟩ rfl (Nat.le_of_ble_eq_true rfl) d_M_look_48 ?_
              refine gq_if_ne C (tgt := 55) d_M_look_51 rfl (fun hb51 => ?_) (fun hb51 => ?_)
              · skip
                refine gq_iinc C (k := 0) (w := 4) (lo' := [(1, .int 4), (0, .ref (al Z 20 0))]) d_M_look_55 rfl (by decide) (by decide) rfl ?_
                refine gq_goto C (tgt := 41) d_M_look_58 rfl ?_
                refine gq_iload_n C d_M_look_41 rfl ?_
                refine gq_iconst C (v := 4) d_M_look_42 (by decide) ?_
                refine gq_icmp_ge C (tgt := 61) d_M_look_43 rfl (fun hb43 => ?_) (fun hb => by exact absurd hb (by decide))
                refine gq_aload_n C d_M_look_61 rfl ?_
                refine gq_aload_n C d_M_look_62 rfl ?_
                refine gq_get C (g := 20) (j := 0) (ci := 8) (k := 14) (v := .int (V 20 0 14)) (qm (by decide) (by decide)) rfl rfl in_M (by decide) w_675 rfl d_M_look_63 ?_
                refine gq_put C (fun _ h => h) (g := 20) (j := 0) (ci := 8) (k := 13) ft_M k_M n_M (qm (by decide) (by decide)) rfl rfl in_M (by decide) w_674 rfl (k_M 13 (by decide)) rfl rfl (Nat.le_of_ble_eq_true rfl) rfl d_M_look_66 ?_
                refine gq_aload_n C d_M_look_69 rfl ?_
                refine gq_iconst C (v := 0) d_M_look_70 (by decide) ?_
                refine gq_put C (fun _ h => h) (g := 20) (j := 0) (ci := 8) (k := 14) ft_M k_M n_M (qm (by decide) (by decide)) rfl rfl in_M (by decide) w_675 rfl (k_M 14 (by decide)) rfl rfl (Nat.le_of_ble_eq_true rfl) rfl d_M_look_71 ?_
                exact gq_vretE C hr (by first | contradiction | (unfold g_look g_look1 g_wake; simp [*, qv_at])) rfl (by decide) (by decide) d_M_look_74
              · skip
                exact gq_vretE C hr (by first | contradiction | (unfold g_look g_look1 g_wake; simp [*, qv_at])) rfl (by decide) (by decide) d_M_look_54
            · skip
              exact gq_vretE C hr (by first | contradiction | (unfold g_look g_look1 g_wake; simp [*, qv_at])) rfl (by decide) (by decide) d_M_look_54
          · skip
            exact gq_vretE C hr (by first | contradiction | (unfold g_look g_look1 g_wake; simp [*, qv_at])) rfl (by decide) (by decide) d_M_look_54
        · skip
          exact gq_vretE C hr (by first | contradiction | (unfold g_look g_look1 g_wake; simp [*, qv_at])) rfl (by decide) (by decide) d_M_look_54

set_option maxHeartbeats 4000000 in
set_option maxRecDepth 100000 in
theorem c_M_validLease (l : Launch) (Z : qZ) (hZ : qok (pX Z)) (V : qV) (Y : qY) (t : Nat) (ht : t < 4) : CT l y_M_validLease { frames := 2, cells := 0, slots := 0, locals := 61 } (pX Z) qN [.ref (al Z 20 0), .int (nI t)] V Y (.inl (some (.int (g_lease V t)))) V Y := by
  refine CT.of (cc := b_M_validLease) (maxL := 4) (ret := (some .int)) hZ (by decide) w_828 (Nat.le_of_ble_eq_true rfl) ?_
  intro p e s m below meth c C hr hex hlt
  refine gq_aload_n C d_M_validLease_0 rfl ?_
  refine gq_get C (g := 20) (j := 0) (ci := 8) (k := 12) (v := .ref (al Z 31 0)) (qm (by decide) (by decide)) rfl rfl in_M (by decide) w_673 rfl d_M_validLease_1 ?_
  refine gq_iload_n C d_M_validLease_4 rfl ?_
  refine gq_iald C (g := 31) (j := 0) (a := t) (t0 := 0) (qm (by decide) (by decide)) rfl rfl rfl ht (by decide) d_M_validLease_5 ?_
  refine gq_istore_n C (lo' := [(2, .int (V 31 0 t)), (0, .ref (al Z 20 0)), (1, .int (nI t))]) d_M_validLease_6 rfl (by decide) rfl ?_
  refine gq_iload_n C d_M_validLease_7 rfl ?_
  refine gq_if_le C (tgt := 52) d_M_validLease_8 rfl (fun hb8 => ?_) (fun hb8 => ?_)
  · skip
    refine gq_iconst C (v := 0) d_M_validLease_52 (by decide) ?_
    refine gq_istore_n C (lo' := [(3, .int 0), (2, .int (V 31 0 t)), (0, .ref (al Z 20 0)), (1, .int (nI t))]) d_M_validLease_53 rfl (by decide) rfl ?_
    refine gq_iload_n C d_M_validLease_54 rfl ?_
    refine gq_if_eq C (tgt := 62) d_M_validLease_55 rfl (fun hb55 => ?_) (fun hb => by exact absurd hb (by decide))
    refine gq_iconst C (v := 0) d_M_validLease_62 (by decide) ?_
    exact gq_iretE C hr (by unfold g_lease; simp [*]) rfl rfl (by decide) (by decide) d_M_validLease_63
  · skip
    refine gq_aload_n C d_M_validLease_11 rfl ?_
    refine gq_iload_n C d_M_validLease_12 rfl ?_
    refine gq_callV C (st := []) (fun _ h => h) (c_M_clock l Z hZ _ _ t (Nat.lt_trans ht (by decide))) (qm (by decide) (by decide)) rfl rfl w_785 w_787 ws_M_clock w_788 w_9 ⟨by decide, by decide, (by decide +kernel : (parseMethodDescriptor y_M_clock.desc).map (fun d => d.parameters.length) = some 1)⟩ ⟨by decide, by decide⟩ ⟨by decide, by decide⟩ rfl (Nat.le_of_ble_eq_true rfl) d_M_validLease_13 ?_
    refine gq_aload_n C d_M_validLease_16 rfl ?_
    refine gq_get C (g := 20) (j := 0) (ci := 8) (k := 11) (v := .ref (al Z 30 0)) (qm (by decide) (by decide)) rfl rfl in_M (by decide) w_672 rfl d_M_validLease_17 ?_
    refine gq_iload_n C d_M_validLease_20 rfl ?_
    refine gq_iald C (g := 30) (j := 0) (a := t) (t0 := 0) (qm (by decide) (by decide)) rfl rfl rfl ht (by decide) d_M_validLease_21 ?_
    refine gq_bipush C (v := 60) d_M_validLease_22 (by decide) ?_
    refine gq_iadd C d_M_validLease_24 ?_
    refine gq_icmp_ge C (tgt := 52) d_M_validLease_25 rfl (fun hb25 => ?_) (fun hb25 => ?_)
    · skip
      refine gq_iconst C (v := 0) d_M_validLease_52 (by decide) ?_
      refine gq_istore_n C (lo' := [(3, .int 0), (2, .int (V 31 0 t)), (0, .ref (al Z 20 0)), (1, .int (nI t))]) d_M_validLease_53 rfl (by decide) rfl ?_
      refine gq_iload_n C d_M_validLease_54 rfl ?_
      refine gq_if_eq C (tgt := 62) d_M_validLease_55 rfl (fun hb55 => ?_) (fun hb => by exact absurd hb (by decide))
      refine gq_iconst C (v := 0) d_M_validLease_62 (by decide) ?_
      exact gq_iretE C hr (by unfold g_lease; simp [*]) rfl rfl (by decide) (by decide) d_M_validLease_63
    · skip
      refine gq_aload_n C d_M_validLease_28 rfl ?_
      refine gq_get C (g := 20) (j := 0) (ci := 8) (k := 7) (v := .ref (al Z 26 0)) (qm (by decide) (by decide)) rfl rfl in_M (by decide) w_668 rfl d_M_validLease_29 ?_
      refine gq_iload_n C d_M_validLease_32 rfl ?_
      refine gq_iald C (g := 26) (j := 0) (a := t) (t0 := 0) (qm (by decide) (by decide)) rfl rfl rfl ht (by decide) d_M_validLease_33 ?_
      refine gq_iload_n C d_M_validLease_34 rfl ?_
      refine gq_icmp_lt C (tgt := 52) d_M_validLease_35 rfl (fun hb35 => ?_) (fun hb35 => ?_)
      · skip
        refine gq_iconst C (v := 0) d_M_validLease_52 (by decide) ?_
        refine gq_istore_n C (lo' := [(3, .int 0), (2, .int (V 31 0 t)), (0, .ref (al Z 20 0)), (1, .int (nI t))]) d_M_validLease_53 rfl (by decide) rfl ?_
        refine gq_iload_n C d_M_validLease_54 rfl ?_
        refine gq_if_eq C (tgt := 62) d_M_validLease_55 rfl (fun hb55 => ?_) (fun hb => by exact absurd hb (by decide))
        refine gq_iconst C (v := 0) d_M_validLease_62 (by decide) ?_
        exact gq_iretE C hr (by unfold g_lease; simp [*]) rfl rfl (by decide) (by decide) d_M_validLease_63
      · skip
        refine gq_aload_n C d_M_validLease_38 rfl ?_
        refine gq_get C (g := 20) (j := 0) (ci := 8) (k := 8) (v := .ref (al Z 27 0)) (qm (by decide) (by decide)) rfl rfl in_M (by decide) w_669 rfl d_M_validLease_39 ?_
        refine gq_iload_n C d_M_validLease_42 rfl ?_
        refine gq_iald C (g := 27) (j := 0) (a := t) (t0 := 0) (qm (by decide) (by decide)) rfl rfl rfl ht (by decide) d_M_validLease_43 ?_
        refine gq_iload_n C d_M_validLease_44 rfl ?_
        refine gq_icmp_gt C (tgt := 52) d_M_validLease_45 rfl (fun hb45 => ?_) (fun hb45 => ?_)
        · skip
          refine gq_iconst C (v := 0) d_M_validLease_52 (by decide) ?_
          refine gq_istore_n C (lo' := [(3, .int 0), (2, .int (V 31 0 t)), (0, .ref (al Z 20 0)), (1, .int (nI t))]) d_M_validLease_53 rfl (by decide) rfl ?_
          refine gq_iload_n C d_M_validLease_54 rfl ?_
          refine gq_if_eq C (tgt := 62) d_M_validLease_55 rfl (fun hb55 => ?_) (fun hb => by exact absurd hb (by decide))
          refine gq_iconst C (v := 0) d_M_validLease_62 (by decide) ?_
          exact gq_iretE C hr (by unfold g_lease; simp [*]) rfl rfl (by decide) (by decide) d_M_validLease_63
        · skip
          refine gq_iconst C (v := 1) d_M_validLease_48 (by decide) ?_
          refine gq_goto C (tgt := 53) d_M_validLease_49 rfl ?_
          refine gq_istore_n C (lo' := [(3, .int 1), (2, .int (V 31 0 t)), (0, .ref (al Z 20 0)), (1, .int (nI t))]) d_M_validLease_53 rfl (by decide) rfl ?_
          refine gq_iload_n C d_M_validLease_54 rfl ?_
          refine gq_if_eq C (tgt := 62) d_M_validLease_55 rfl (fun hb => by exact absurd hb (by decide)) (fun hb55 => ?_)
          refine gq_iload_n C d_M_validLease_58 rfl ?_
          refine gq_goto C (tgt := 63) d_M_validLease_59 rfl ?_
          exact gq_iretE C hr (by unfold g_lease; simp [*]) rfl rfl (by decide) (by decide) d_M_validLease_63

set_option maxHeartbeats 4000000 in
set_option maxRecDepth 100000 in
theorem c_M_asked (l : Launch) (Z : qZ) (hZ : qok (pX Z)) (V : qV) (Y : qY) (t : Nat) (ht : t < 4) (a : Int32) (hc : ∃ q, q ≤ 40 ∧ V 20 0 22 = nI q) : CT l y_M_asked { frames := 2, cells := 0, slots := 0, locals := 64 } (pX Z) (qA (pX Z)) [.ref (al Z 20 0), .int (nI t), .int a] V Y (.inl none) (g_asked V t a) Y := by
  refine CT.of (cc := b_M_asked) (maxL := 4) (ret := none) hZ (by decide) w_848 (Nat.le_of_ble_eq_true rfl) ?_
  intro p e s m below meth c C hr hex hlt
  refine gq_aload_n C d_M_asked_0 rfl ?_
  refine gq_get C (g := 20) (j := 0) (ci := 8) (k := 15) (v := .int (V 20 0 15)) (qm (by decide) (by decide)) rfl rfl in_M (by decide) w_676 rfl d_M_asked_1 ?_
  refine gq_if_eq C (tgt := 24) d_M_asked_4 rfl (fun hb4 => ?_) (fun hb4 => ?_)
  · skip
    refine gq_aload_n C d_M_asked_24 rfl ?_
    refine gq_get C (g := 20) (j := 0) (ci := 8) (k := 14) (v := .int (V 20 0 14)) (qm (by decide) (by decide)) rfl rfl in_M (by decide) w_675 rfl d_M_asked_25 ?_
    refine gq_if_ne C (tgt := 38) d_M_asked_28 rfl (fun hb28 => ?_) (fun hb28 => ?_)
    · skip
      refine gq_aload_n C d_M_asked_38 rfl ?_
      refine gq_get C (g := 20) (j := 0) (ci := 8) (k := 21) (v := .ref (al Z 36 0)) (qm (by decide) (by decide)) rfl rfl in_M (by decide) w_682 rfl d_M_asked_39 ?_
      refine gq_iload_n C d_M_asked_42 rfl ?_
      refine gq_iald C (g := 36) (j := 0) (a := t) (t0 := 0) (qm (by decide) (by decide)) rfl rfl rfl ht (by decide) d_M_asked_43 ?_
      refine gq_aload_n C d_M_asked_44 rfl ?_
      refine gq_get C (g := 20) (j := 0) (ci := 8) (k := 14) (v := .int (V 20 0 14)) (qm (by decide) (by decide)) rfl rfl in_M (by decide) w_675 rfl d_M_asked_45 ?_
      refine gq_icmp_lt C (tgt := 58) d_M_asked_48 rfl (fun hb48 => ?_) (fun hb48 => ?_)
      · skip
        refine gq_iconst C (v := 0) d_M_asked_58 (by decide) ?_
        refine gq_istore_n C (lo' := [(3, .int 0), (0, .ref (al Z 20 0)), (1, .int (nI t)), (2, .int a)]) d_M_asked_59 rfl (by decide) rfl ?_
        refine gq_aload_n C d_M_asked_60 rfl ?_
        refine gq_get C (g := 20) (j := 0) (ci := 8) (k := 15) (v := .int (V 20 0 15)) (qm (by decide) (by decide)) rfl rfl in_M (by decide) w_676 rfl d_M_asked_61 ?_
        refine gq_if_ne C (tgt := 81) d_M_asked_64 rfl (fun hb64 => ?_) (fun hb64 => ?_)
        · skip
          exact gq_vretE C hr (by first | contradiction | (unfold g_asked g_asked1 g_bookFor g_wake; simp [*, qv_at])) rfl (by decide) (by decide) d_M_asked_81
        · skip
          refine gq_iload_n C d_M_asked_67 rfl ?_
          refine gq_aload_n C d_M_asked_68 rfl ?_
          refine gq_get C (g := 20) (j := 0) (ci := 8) (k := 17) (v := .ref (al Z 32 0)) (qm (by decide) (by decide)) rfl rfl in_M (by decide) w_678 rfl d_M_asked_69 ?_
          refine gq_iload_n C d_M_asked_72 rfl ?_
          refine gq_iald C (g := 32) (j := 0) (a := t) (t0 := 0) (qm (by decide) (by decide)) rfl rfl rfl ht (by decide) d_M_asked_73 ?_
          refine gq_icmp_lt C (tgt := 81) d_M_asked_74 rfl (fun hb74 => ?_) (fun hb74 => ?_)
          · skip
            exact gq_vretE C hr (by first | contradiction | (unfold g_asked g_asked1 g_bookFor g_wake; simp [*, qv_at])) rfl (by decide) (by decide) d_M_asked_81
          · skip
            refine gq_iload_n C d_M_asked_77 rfl ?_
            refine gq_if_ne C (tgt := 82) d_M_asked_78 rfl (fun hb => by exact absurd hb (by decide)) (fun hb78 => ?_)
            exact gq_vretE C hr (by first | contradiction | (unfold g_asked g_asked1 g_bookFor g_wake; simp [*, qv_at])) rfl (by decide) (by decide) d_M_asked_81
      · skip
        refine gq_aload_n C d_M_asked_51 rfl ?_
        refine gq_get C (g := 20) (j := 0) (ci := 8) (k := 14) (v := .int (V 20 0 14)) (qm (by decide) (by decide)) rfl rfl in_M (by decide) w_675 rfl d_M_asked_52 ?_
        refine gq_goto C (tgt := 59) d_M_asked_55 rfl ?_
        refine gq_istore_n C (lo' := [(3, .int (V 20 0 14)), (0, .ref (al Z 20 0)), (1, .int (nI t)), (2, .int a)]) d_M_asked_59 rfl (by decide) rfl ?_
        refine gq_aload_n C d_M_asked_60 rfl ?_
        refine gq_get C (g := 20) (j := 0) (ci := 8) (k := 15) (v := .int (V 20 0 15)) (qm (by decide) (by decide)) rfl rfl in_M (by decide) w_676 rfl d_M_asked_61 ?_
        refine gq_if_ne C (tgt := 81) d_M_asked_64 rfl (fun hb64 => ?_) (fun hb64 => ?_)
        · skip
          exact gq_vretE C hr (by first | contradiction | (unfold g_asked g_asked1 g_bookFor g_wake; simp [*, qv_at])) rfl (by decide) (by decide) d_M_asked_81
        · skip
          refine gq_iload_n C d_M_asked_67 rfl ?_
          refine gq_aload_n C d_M_asked_68 rfl ?_
          refine gq_get C (g := 20) (j := 0) (ci := 8) (k := 17) (v := .ref (al Z 32 0)) (qm (by decide) (by decide)) rfl rfl in_M (by decide) w_678 rfl d_M_asked_69 ?_
          refine gq_iload_n C d_M_asked_72 rfl ?_
          refine gq_iald C (g := 32) (j := 0) (a := t) (t0 := 0) (qm (by decide) (by decide)) rfl rfl rfl ht (by decide) d_M_asked_73 ?_
          refine gq_icmp_lt C (tgt := 81) d_M_asked_74 rfl (fun hb74 => ?_) (fun hb74 => ?_)
          · skip
            exact gq_vretE C hr (by first | contradiction | (unfold g_asked g_asked1 g_bookFor g_wake; simp [*, qv_at])) rfl (by decide) (by decide) d_M_asked_81
          · skip
            refine gq_iload_n C d_M_asked_77 rfl ?_
            refine gq_if_ne C (tgt := 82) d_M_asked_78 rfl (fun hb78 => ?_) (fun hb78 => ?_)
            · skip
              refine gq_aload_n C d_M_asked_82 rfl ?_
              refine gq_get C (g := 20) (j := 0) (ci := 8) (k := 17) (v := .ref (al Z 32 0)) (qm (by decide) (by decide)) rfl rfl in_M (by decide) w_678 rfl d_M_asked_83 ?_
              refine gq_iload_n C d_M_asked_86 rfl ?_
              refine gq_iload_n C d_M_asked_87 rfl ?_
              refine gq_iast C (fun _ h => h) (g := 32) (j := 0) (a := t) (t0 := 0) (qm (by decide) (by decide)) (fun _ => rfl) rfl rfl ht (by decide) d_M_asked_88 ?_
              refine gq_aload_n C d_M_asked_89 rfl ?_
              refine gq_get C (g := 20) (j := 0) (ci := 8) (k := 19) (v := .ref (al Z 34 0)) (qm (by decide) (by decide)) rfl rfl in_M (by decide) w_680 rfl d_M_asked_90 ?_
              refine gq_iload_n C d_M_asked_93 rfl ?_
              refine gq_iload_n C d_M_asked_94 rfl ?_
              refine gq_iast C (fun _ h => h) (g := 34) (j := 0) (a := t) (t0 := 0) (qm (by decide) (by decide)) (fun _ => rfl) rfl rfl ht (by decide) d_M_asked_95 ?_
              refine gq_aload_n C d_M_asked_96 rfl ?_
              refine gq_get C (g := 20) (j := 0) (ci := 8) (k := 20) (v := .ref (al Z 35 0)) (qm (by decide) (by decide)) rfl rfl in_M (by decide) w_681 rfl d_M_asked_97 ?_
              refine gq_iload_n C d_M_asked_100 rfl ?_
              refine gq_aload_n C d_M_asked_101 rfl ?_
              refine gq_iconst C (v := 4) d_M_asked_102 (by decide) ?_
              refine gq_callV C (st := [.int (nI t), .ref (al Z 35 0)]) (fun _ h => h.elim) (c_M_clock l Z hZ _ _ 4 (by decide)) (qm (by decide) (by decide)) rfl rfl w_785 w_787 ws_M_clock w_788 w_9 ⟨by decide, by decide, (by decide +kernel : (parseMethodDescriptor y_M_clock.desc).map (fun d => d.parameters.length) = some 1)⟩ ⟨by decide, by decide⟩ ⟨by decide, by decide⟩ rfl (Nat.le_of_ble_eq_true rfl) d_M_asked_103 ?_
              refine G.eqS (st' := [.int ((V 24 0 4) / 100), .int (nI t), .ref (al Z 35 0)]) rfl ?_
              refine gq_iast C (fun _ h => h) (g := 35) (j := 0) (a := t) (t0 := 0) (qm (by decide) (by decide)) (fun _ => rfl) rfl rfl ht (by decide) d_M_asked_106 ?_
              refine gq_aload_n C d_M_asked_107 rfl ?_
              refine gq_get C (g := 20) (j := 0) (ci := 8) (k := 18) (v := .ref (al Z 33 0)) (qm (by decide) (by decide)) rfl rfl in_M (by decide) w_679 rfl d_M_asked_108 ?_
              refine gq_iload_n C d_M_asked_111 rfl ?_
              refine gq_iconst C (v := 1) d_M_asked_112 (by decide) ?_
              refine gq_zast C (fun _ h => h) (g := 33) (j := 0) (a := t) (t0 := 2) (qm (by decide) (by decide)) (fun _ => rfl) rfl rfl ht (by decide) rfl d_M_asked_113 ?_
              refine gq_aload_n C d_M_asked_114 rfl ?_
              refine gq_iconst C (v := 2) d_M_asked_115 (by decide) ?_
              refine gq_iload_n C d_M_asked_116 rfl ?_
              refine gq_iload_n C d_M_asked_117 rfl ?_
              refine gq_iload_n C d_M_asked_118 rfl ?_
              refine gq_callV C (st := []) (fun _ h => h) (c_M_put l Z hZ _ _ (g_cnt2 hc (by simp [qv_at])) 2 (nI t) (V 20 0 14) a) (qm (by decide) (by decide)) rfl rfl w_773 w_775 ws_M_post w_776 w_9 ⟨by decide, by decide, (by decide +kernel : (parseMethodDescriptor y_M_post.desc).map (fun d => d.parameters.length) = some 4)⟩ ⟨by decide, by decide⟩ ⟨by decide, by decide⟩ rfl (Nat.le_of_ble_eq_true rfl) d_M_asked_119 ?_
              exact gq_vretE C hr (by first | contradiction | (unfold g_asked g_asked1 g_bookFor g_wake; simp [*, qv_at])) rfl (by decide) (by decide) d_M_asked_122
            · skip
              exact gq_vretE C hr (by first | contradiction | (unfold g_asked g_asked1 g_bookFor g_wake; simp [*, qv_at])) rfl (by decide) (by decide) d_M_asked_81
    · skip
      refine gq_aload_n C d_M_asked_31 rfl ?_
      refine gq_get C (g := 20) (j := 0) (ci := 8) (k := 13) (v := .int (V 20 0 13)) (qm (by decide) (by decide)) rfl rfl in_M (by decide) w_674 rfl d_M_asked_32 ?_
      refine gq_goto C (tgt := 59) d_M_asked_35 rfl ?_
      refine gq_istore_n C (lo' := [(3, .int (V 20 0 13)), (0, .ref (al Z 20 0)), (1, .int (nI t)), (2, .int a)]) d_M_asked_59 rfl (by decide) rfl ?_
      refine gq_aload_n C d_M_asked_60 rfl ?_
      refine gq_get C (g := 20) (j := 0) (ci := 8) (k := 15) (v := .int (V 20 0 15)) (qm (by decide) (by decide)) rfl rfl in_M (by decide) w_676 rfl d_M_asked_61 ?_
      refine gq_if_ne C (tgt := 81) d_M_asked_64 rfl (fun hb64 => ?_) (fun hb64 => ?_)
      · skip
        exact gq_vretE C hr (by first | contradiction | (unfold g_asked g_asked1 g_bookFor g_wake; simp [*, qv_at])) rfl (by decide) (by decide) d_M_asked_81
      · skip
        refine gq_iload_n C d_M_asked_67 rfl ?_
        refine gq_aload_n C d_M_asked_68 rfl ?_
        refine gq_get C (g := 20) (j := 0) (ci := 8) (k := 17) (v := .ref (al Z 32 0)) (qm (by decide) (by decide)) rfl rfl in_M (by decide) w_678 rfl d_M_asked_69 ?_
        refine gq_iload_n C d_M_asked_72 rfl ?_
        refine gq_iald C (g := 32) (j := 0) (a := t) (t0 := 0) (qm (by decide) (by decide)) rfl rfl rfl ht (by decide) d_M_asked_73 ?_
        refine gq_icmp_lt C (tgt := 81) d_M_asked_74 rfl (fun hb74 => ?_) (fun hb74 => ?_)
        · skip
          exact gq_vretE C hr (by first | contradiction | (unfold g_asked g_asked1 g_bookFor g_wake; simp [*, qv_at])) rfl (by decide) (by decide) d_M_asked_81
        · skip
          refine gq_iload_n C d_M_asked_77 rfl ?_
          refine gq_if_ne C (tgt := 82) d_M_asked_78 rfl (fun hb78 => ?_) (fun hb78 => ?_)
          · skip
            refine gq_aload_n C d_M_asked_82 rfl ?_
            refine gq_get C (g := 20) (j := 0) (ci := 8) (k := 17) (v := .ref (al Z 32 0)) (qm (by decide) (by decide)) rfl rfl in_M (by decide) w_678 rfl d_M_asked_83 ?_
            refine gq_iload_n C d_M_asked_86 rfl ?_
            refine gq_iload_n C d_M_asked_87 rfl ?_
            refine gq_iast C (fun _ h => h) (g := 32) (j := 0) (a := t) (t0 := 0) (qm (by decide) (by decide)) (fun _ => rfl) rfl rfl ht (by decide) d_M_asked_88 ?_
            refine gq_aload_n C d_M_asked_89 rfl ?_
            refine gq_get C (g := 20) (j := 0) (ci := 8) (k := 19) (v := .ref (al Z 34 0)) (qm (by decide) (by decide)) rfl rfl in_M (by decide) w_680 rfl d_M_asked_90 ?_
            refine gq_iload_n C d_M_asked_93 rfl ?_
            refine gq_iload_n C d_M_asked_94 rfl ?_
            refine gq_iast C (fun _ h => h) (g := 34) (j := 0) (a := t) (t0 := 0) (qm (by decide) (by decide)) (fun _ => rfl) rfl rfl ht (by decide) d_M_asked_95 ?_
            refine gq_aload_n C d_M_asked_96 rfl ?_
            refine gq_get C (g := 20) (j := 0) (ci := 8) (k := 20) (v := .ref (al Z 35 0)) (qm (by decide) (by decide)) rfl rfl in_M (by decide) w_681 rfl d_M_asked_97 ?_
            refine gq_iload_n C d_M_asked_100 rfl ?_
            refine gq_aload_n C d_M_asked_101 rfl ?_
            refine gq_iconst C (v := 4) d_M_asked_102 (by decide) ?_
            refine gq_callV C (st := [.int (nI t), .ref (al Z 35 0)]) (fun _ h => h.elim) (c_M_clock l Z hZ _ _ 4 (by decide)) (qm (by decide) (by decide)) rfl rfl w_785 w_787 ws_M_clock w_788 w_9 ⟨by decide, by decide, (by decide +kernel : (parseMethodDescriptor y_M_clock.desc).map (fun d => d.parameters.length) = some 1)⟩ ⟨by decide, by decide⟩ ⟨by decide, by decide⟩ rfl (Nat.le_of_ble_eq_true rfl) d_M_asked_103 ?_
            refine G.eqS (st' := [.int ((V 24 0 4) / 100), .int (nI t), .ref (al Z 35 0)]) rfl ?_
            refine gq_iast C (fun _ h => h) (g := 35) (j := 0) (a := t) (t0 := 0) (qm (by decide) (by decide)) (fun _ => rfl) rfl rfl ht (by decide) d_M_asked_106 ?_
            refine gq_aload_n C d_M_asked_107 rfl ?_
            refine gq_get C (g := 20) (j := 0) (ci := 8) (k := 18) (v := .ref (al Z 33 0)) (qm (by decide) (by decide)) rfl rfl in_M (by decide) w_679 rfl d_M_asked_108 ?_
            refine gq_iload_n C d_M_asked_111 rfl ?_
            refine gq_iconst C (v := 1) d_M_asked_112 (by decide) ?_
            refine gq_zast C (fun _ h => h) (g := 33) (j := 0) (a := t) (t0 := 2) (qm (by decide) (by decide)) (fun _ => rfl) rfl rfl ht (by decide) rfl d_M_asked_113 ?_
            refine gq_aload_n C d_M_asked_114 rfl ?_
            refine gq_iconst C (v := 2) d_M_asked_115 (by decide) ?_
            refine gq_iload_n C d_M_asked_116 rfl ?_
            refine gq_iload_n C d_M_asked_117 rfl ?_
            refine gq_iload_n C d_M_asked_118 rfl ?_
            refine gq_callV C (st := []) (fun _ h => h) (c_M_put l Z hZ _ _ (g_cnt2 hc (by simp [qv_at])) 2 (nI t) (V 20 0 13) a) (qm (by decide) (by decide)) rfl rfl w_773 w_775 ws_M_post w_776 w_9 ⟨by decide, by decide, (by decide +kernel : (parseMethodDescriptor y_M_post.desc).map (fun d => d.parameters.length) = some 4)⟩ ⟨by decide, by decide⟩ ⟨by decide, by decide⟩ rfl (Nat.le_of_ble_eq_true rfl) d_M_asked_119 ?_
            exact gq_vretE C hr (by first | contradiction | (unfold g_asked g_asked1 g_bookFor g_wake; simp [*, qv_at])) rfl (by decide) (by decide) d_M_asked_122
          · skip
            exact gq_vretE C hr (by first | contradiction | (unfold g_asked g_asked1 g_bookFor g_wake; simp [*, qv_at])) rfl (by decide) (by decide) d_M_asked_81
  · skip
    refine gq_aload_n C d_M_asked_7 rfl ?_
    refine gq_iconst C (v := 4) d_M_asked_8 (by decide) ?_
    refine gq_callV C (st := []) (fun _ h => h.elim) (c_M_clock l Z hZ _ _ 4 (by decide)) (qm (by decide) (by decide)) rfl rfl w_785 w_787 ws_M_clock w_788 w_9 ⟨by decide, by decide, (by decide +kernel : (parseMethodDescriptor y_M_clock.desc).map (fun d => d.parameters.length) = some 1)⟩ ⟨by decide, by decide⟩ ⟨by decide, by decide⟩ rfl (Nat.le_of_ble_eq_true rfl) d_M_asked_9 ?_
    refine gq_aload_n C d_M_asked_12 rfl ?_
    refine gq_get C (g := 20) (j := 0) (ci := 8) (k := 16) (v := .int (V 20 0 16)) (qm (by decide) (by decide)) rfl rfl in_M (by decide) w_677 rfl d_M_asked_13 ?_
    refine gq_icmp_lt C (tgt := 24) d_M_asked_16 rfl (fun hb16 => ?_) (fun hb16 => ?_)
    · skip
      refine gq_aload_n C d_M_asked_24 rfl ?_
      refine gq_get C (g := 20) (j := 0) (ci := 8) (k := 14) (v := .int (V 20 0 14)) (qm (by decide) (by decide)) rfl rfl in_M (by decide) w_675 rfl d_M_asked_25 ?_
      refine gq_if_ne C (tgt := 38) d_M_asked_28 rfl (fun hb28 => ?_) (fun hb28 => ?_)
      · skip
        refine gq_aload_n C d_M_asked_38 rfl ?_
        refine gq_get C (g := 20) (j := 0) (ci := 8) (k := 21) (v := .ref (al Z 36 0)) (qm (by decide) (by decide)) rfl rfl in_M (by decide) w_682 rfl d_M_asked_39 ?_
        refine gq_iload_n C d_M_asked_42 rfl ?_
        refine gq_iald C (g := 36) (j := 0) (a := t) (t0 := 0) (qm (by decide) (by decide)) rfl rfl rfl ht (by decide) d_M_asked_43 ?_
        refine gq_aload_n C d_M_asked_44 rfl ?_
        refine gq_get C (g := 20) (j := 0) (ci := 8) (k := 14) (v := .int (V 20 0 14)) (qm (by decide) (by decide)) rfl rfl in_M (by decide) w_675 rfl d_M_asked_45 ?_
        refine gq_icmp_lt C (tgt := 58) d_M_asked_48 rfl (fun hb48 => ?_) (fun hb48 => ?_)
        · skip
          refine gq_iconst C (v := 0) d_M_asked_58 (by decide) ?_
          refine gq_istore_n C (lo' := [(3, .int 0), (0, .ref (al Z 20 0)), (1, .int (nI t)), (2, .int a)]) d_M_asked_59 rfl (by decide) rfl ?_
          refine gq_aload_n C d_M_asked_60 rfl ?_
          refine gq_get C (g := 20) (j := 0) (ci := 8) (k := 15) (v := .int (V 20 0 15)) (qm (by decide) (by decide)) rfl rfl in_M (by decide) w_676 rfl d_M_asked_61 ?_
          refine gq_if_ne C (tgt := 81) d_M_asked_64 rfl (fun hb64 => ?_) (fun hb64 => ?_)
          · skip
            exact gq_vretE C hr (by first | contradiction | (unfold g_asked g_asked1 g_bookFor g_wake; simp [*, qv_at])) rfl (by decide) (by decide) d_M_asked_81
          · skip
            refine gq_iload_n C d_M_asked_67 rfl ?_
            refine gq_aload_n C d_M_asked_68 rfl ?_
            refine gq_get C (g := 20) (j := 0) (ci := 8) (k := 17) (v := .ref (al Z 32 0)) (qm (by decide) (by decide)) rfl rfl in_M (by decide) w_678 rfl d_M_asked_69 ?_
            refine gq_iload_n C d_M_asked_72 rfl ?_
            refine gq_iald C (g := 32) (j := 0) (a := t) (t0 := 0) (qm (by decide) (by decide)) rfl rfl rfl ht (by decide) d_M_asked_73 ?_
            refine gq_icmp_lt C (tgt := 81) d_M_asked_74 rfl (fun hb74 => ?_) (fun hb74 => ?_)
            · skip
              exact gq_vretE C hr (by first | contradiction | (unfold g_asked g_asked1 g_bookFor g_wake; simp [*, qv_at])) rfl (by decide) (by decide) d_M_asked_81
            · skip
              refine gq_iload_n C d_M_asked_77 rfl ?_
              refine gq_if_ne C (tgt := 82) d_M_asked_78 rfl (fun hb => by exact absurd hb (by decide)) (fun hb78 => ?_)
              exact gq_vretE C hr (by first | contradiction | (unfold g_asked g_asked1 g_bookFor g_wake; simp [*, qv_at])) rfl (by decide) (by decide) d_M_asked_81
        · skip
          refine gq_aload_n C d_M_asked_51 rfl ?_
          refine gq_get C (g := 20) (j := 0) (ci := 8) (k := 14) (v := .int (V 20 0 14)) (qm (by decide) (by decide)) rfl rfl in_M (by decide) w_675 rfl d_M_asked_52 ?_
          refine gq_goto C (tgt := 59) d_M_asked_55 rfl ?_
          refine gq_istore_n C (lo' := [(3, .int (V 20 0 14)), (0, .ref (al Z 20 0)), (1, .int (nI t)), (2, .int a)]) d_M_asked_59 rfl (by decide) rfl ?_
          refine gq_aload_n C d_M_asked_60 rfl ?_
          refine gq_get C (g := 20) (j := 0) (ci := 8) (k := 15) (v := .int (V 20 0 15)) (qm (by decide) (by decide)) rfl rfl in_M (by decide) w_676 rfl d_M_asked_61 ?_
          refine gq_if_ne C (tgt := 81) d_M_asked_64 rfl (fun hb64 => ?_) (fun hb64 => ?_)
          · skip
            exact gq_vretE C hr (by first | contradiction | (unfold g_asked g_asked1 g_bookFor g_wake; simp [*, qv_at])) rfl (by decide) (by decide) d_M_asked_81
          · skip
            refine gq_iload_n C d_M_asked_67 rfl ?_
            refine gq_aload_n C d_M_asked_68 rfl ?_
            refine gq_get C (g := 20) (j := 0) (ci := 8) (k := 17) (v := .ref (al Z 32 0)) (qm (by decide) (by decide)) rfl rfl in_M (by decide) w_678 rfl d_M_asked_69 ?_
            refine gq_iload_n C d_M_asked_72 rfl ?_
            refine gq_iald C (g := 32) (j := 0) (a := t) (t0 := 0) (qm (by decide) (by decide)) rfl rfl rfl ht (by decide) d_M_asked_73 ?_
            refine gq_icmp_lt C (tgt := 81) d_M_asked_74 rfl (fun hb74 => ?_) (fun hb74 => ?_)
            · skip
              exact gq_vretE C hr (by first | contradiction | (unfold g_asked g_asked1 g_bookFor g_wake; simp [*, qv_at])) rfl (by decide) (by decide) d_M_asked_81
            · skip
              refine gq_iload_n C d_M_asked_77 rfl ?_
              refine gq_if_ne C (tgt := 82) d_M_asked_78 rfl (fun hb78 => ?_) (fun hb78 => ?_)
              · skip
                refine gq_aload_n C d_M_asked_82 rfl ?_
                refine gq_get C (g := 20) (j := 0) (ci := 8) (k := 17) (v := .ref (al Z 32 0)) (qm (by decide) (by decide)) rfl rfl in_M (by decide) w_678 rfl d_M_asked_83 ?_
                refine gq_iload_n C d_M_asked_86 rfl ?_
                refine gq_iload_n C d_M_asked_87 rfl ?_
                refine gq_iast C (fun _ h => h) (g := 32) (j := 0) (a := t) (t0 := 0) (qm (by decide) (by decide)) (fun _ => rfl) rfl rfl ht (by decide) d_M_asked_88 ?_
                refine gq_aload_n C d_M_asked_89 rfl ?_
                refine gq_get C (g := 20) (j := 0) (ci := 8) (k := 19) (v := .ref (al Z 34 0)) (qm (by decide) (by decide)) rfl rfl in_M (by decide) w_680 rfl d_M_asked_90 ?_
                refine gq_iload_n C d_M_asked_93 rfl ?_
                refine gq_iload_n C d_M_asked_94 rfl ?_
                refine gq_iast C (fun _ h => h) (g := 34) (j := 0) (a := t) (t0 := 0) (qm (by decide) (by decide)) (fun _ => rfl) rfl rfl ht (by decide) d_M_asked_95 ?_
                refine gq_aload_n C d_M_asked_96 rfl ?_
                refine gq_get C (g := 20) (j := 0) (ci := 8) (k := 20) (v := .ref (al Z 35 0)) (qm (by decide) (by decide)) rfl rfl in_M (by decide) w_681 rfl d_M_asked_97 ?_
                refine gq_iload_n C d_M_asked_100 rfl ?_
                refine gq_aload_n C d_M_asked_101 rfl ?_
                refine gq_iconst C (v := 4) d_M_asked_102 (by decide) ?_
                refine gq_callV C (st := [.int (nI t), .ref (al Z 35 0)]) (fun _ h => h.elim) (c_M_clock l Z hZ _ _ 4 (by decide)) (qm (by decide) (by decide)) rfl rfl w_785 w_787 ws_M_clock w_788 w_9 ⟨by decide, by decide, (by decide +kernel : (parseMethodDescriptor y_M_clock.desc).map (fun d => d.parameters.length) = some 1)⟩ ⟨by decide, by decide⟩ ⟨by decide, by decide⟩ rfl (Nat.le_of_ble_eq_true rfl) d_M_asked_103 ?_
                refine G.eqS (st' := [.int ((V 24 0 4) / 100), .int (nI t), .ref (al Z 35 0)]) rfl ?_
                refine gq_iast C (fun _ h => h) (g := 35) (j := 0) (a := t) (t0 := 0) (qm (by decide) (by decide)) (fun _ => rfl) rfl rfl ht (by decide) d_M_asked_106 ?_
                refine gq_aload_n C d_M_asked_107 rfl ?_
                refine gq_get C (g := 20) (j := 0) (ci := 8) (k := 18) (v := .ref (al Z 33 0)) (qm (by decide) (by decide)) rfl rfl in_M (by decide) w_679 rfl d_M_asked_108 ?_
                refine gq_iload_n C d_M_asked_111 rfl ?_
                refine gq_iconst C (v := 1) d_M_asked_112 (by decide) ?_
                refine gq_zast C (fun _ h => h) (g := 33) (j := 0) (a := t) (t0 := 2) (qm (by decide) (by decide)) (fun _ => rfl) rfl rfl ht (by decide) rfl d_M_asked_113 ?_
                refine gq_aload_n C d_M_asked_114 rfl ?_
                refine gq_iconst C (v := 2) d_M_asked_115 (by decide) ?_
                refine gq_iload_n C d_M_asked_116 rfl ?_
                refine gq_iload_n C d_M_asked_117 rfl ?_
                refine gq_iload_n C d_M_asked_118 rfl ?_
                refine gq_callV C (st := []) (fun _ h => h) (c_M_put l Z hZ _ _ (g_cnt2 hc (by simp [qv_at])) 2 (nI t) (V 20 0 14) a) (qm (by decide) (by decide)) rfl rfl w_773 w_775 ws_M_post w_776 w_9 ⟨by decide, by decide, (by decide +kernel : (parseMethodDescriptor y_M_post.desc).map (fun d => d.parameters.length) = some 4)⟩ ⟨by decide, by decide⟩ ⟨by decide, by decide⟩ rfl (Nat.le_of_ble_eq_true rfl) d_M_asked_119 ?_
                exact gq_vretE C hr (by first | contradiction | (unfold g_asked g_asked1 g_bookFor g_wake; simp [*, qv_at])) rfl (by decide) (by decide) d_M_asked_122
              · skip
                exact gq_vretE C hr (by first | contradiction | (unfold g_asked g_asked1 g_bookFor g_wake; simp [*, qv_at])) rfl (by decide) (by decide) d_M_asked_81
      · skip
        refine gq_aload_n C d_M_asked_31 rfl ?_
        refine gq_get C (g := 20) (j := 0) (ci := 8) (k := 13) (v := .int (V 20 0 13)) (qm (by decide) (by decide)) rfl rfl in_M (by decide) w_674 rfl d_M_asked_32 ?_
        refine gq_goto C (tgt := 59) d_M_asked_35 rfl ?_
        refine gq_istore_n C (lo' := [(3, .int (V 20 0 13)), (0, .ref (al Z 20 0)), (1, .int (nI t)), (2, .int a)]) d_M_asked_59 rfl (by decide) rfl ?_
        refine gq_aload_n C d_M_asked_60 rfl ?_
        refine gq_get C (g := 20) (j := 0) (ci := 8) (k := 15) (v := .int (V 20 0 15)) (qm (by decide) (by decide)) rfl rfl in_M (by decide) w_676 rfl d_M_asked_61 ?_
        refine gq_if_ne C (tgt := 81) d_M_asked_64 rfl (fun hb64 => ?_) (fun hb64 => ?_)
        · skip
          exact gq_vretE C hr (by first | contradiction | (unfold g_asked g_asked1 g_bookFor g_wake; simp [*, qv_at])) rfl (by decide) (by decide) d_M_asked_81
        · skip
          refine gq_iload_n C d_M_asked_67 rfl ?_
          refine gq_aload_n C d_M_asked_68 rfl ?_
          refine gq_get C (g := 20) (j := 0) (ci := 8) (k := 17) (v := .ref (al Z 32 0)) (qm (by decide) (by decide)) rfl rfl in_M (by decide) w_678 rfl d_M_asked_69 ?_
          refine gq_iload_n C d_M_asked_72 rfl ?_
          refine gq_iald C (g := 32) (j := 0) (a := t) (t0 := 0) (qm (by decide) (by decide)) rfl rfl rfl ht (by decide) d_M_asked_73 ?_
          refine gq_icmp_lt C (tgt := 81) d_M_asked_74 rfl (fun hb74 => ?_) (fun hb74 => ?_)
          · skip
            exact gq_vretE C hr (by first | contradiction | (unfold g_asked g_asked1 g_bookFor g_wake; simp [*, qv_at])) rfl (by decide) (by decide) d_M_asked_81
          · skip
            refine gq_iload_n C d_M_asked_77 rfl ?_
            refine gq_if_ne C (tgt := 82) d_M_asked_78 rfl (fun hb78 => ?_) (fun hb78 => ?_)
            · skip
              refine gq_aload_n C d_M_asked_82 rfl ?_
              refine gq_get C (g := 20) (j := 0) (ci := 8) (k := 17) (v := .ref (al Z 32 0)) (qm (by decide) (by decide)) rfl rfl in_M (by decide) w_678 rfl d_M_asked_83 ?_
              refine gq_iload_n C d_M_asked_86 rfl ?_
              refine gq_iload_n C d_M_asked_87 rfl ?_
              refine gq_iast C (fun _ h => h) (g := 32) (j := 0) (a := t) (t0 := 0) (qm (by decide) (by decide)) (fun _ => rfl) rfl rfl ht (by decide) d_M_asked_88 ?_
              refine gq_aload_n C d_M_asked_89 rfl ?_
              refine gq_get C (g := 20) (j := 0) (ci := 8) (k := 19) (v := .ref (al Z 34 0)) (qm (by decide) (by decide)) rfl rfl in_M (by decide) w_680 rfl d_M_asked_90 ?_
              refine gq_iload_n C d_M_asked_93 rfl ?_
              refine gq_iload_n C d_M_asked_94 rfl ?_
              refine gq_iast C (fun _ h => h) (g := 34) (j := 0) (a := t) (t0 := 0) (qm (by decide) (by decide)) (fun _ => rfl) rfl rfl ht (by decide) d_M_asked_95 ?_
              refine gq_aload_n C d_M_asked_96 rfl ?_
              refine gq_get C (g := 20) (j := 0) (ci := 8) (k := 20) (v := .ref (al Z 35 0)) (qm (by decide) (by decide)) rfl rfl in_M (by decide) w_681 rfl d_M_asked_97 ?_
              refine gq_iload_n C d_M_asked_100 rfl ?_
              refine gq_aload_n C d_M_asked_101 rfl ?_
              refine gq_iconst C (v := 4) d_M_asked_102 (by decide) ?_
              refine gq_callV C (st := [.int (nI t), .ref (al Z 35 0)]) (fun _ h => h.elim) (c_M_clock l Z hZ _ _ 4 (by decide)) (qm (by decide) (by decide)) rfl rfl w_785 w_787 ws_M_clock w_788 w_9 ⟨by decide, by decide, (by decide +kernel : (parseMethodDescriptor y_M_clock.desc).map (fun d => d.parameters.length) = some 1)⟩ ⟨by decide, by decide⟩ ⟨by decide, by decide⟩ rfl (Nat.le_of_ble_eq_true rfl) d_M_asked_103 ?_
              refine G.eqS (st' := [.int ((V 24 0 4) / 100), .int (nI t), .ref (al Z 35 0)]) rfl ?_
              refine gq_iast C (fun _ h => h) (g := 35) (j := 0) (a := t) (t0 := 0) (qm (by decide) (by decide)) (fun _ => rfl) rfl rfl ht (by decide) d_M_asked_106 ?_
              refine gq_aload_n C d_M_asked_107 rfl ?_
              refine gq_get C (g := 20) (j := 0) (ci := 8) (k := 18) (v := .ref (al Z 33 0)) (qm (by decide) (by decide)) rfl rfl in_M (by decide) w_679 rfl d_M_asked_108 ?_
              refine gq_iload_n C d_M_asked_111 rfl ?_
              refine gq_iconst C (v := 1) d_M_asked_112 (by decide) ?_
              refine gq_zast C (fun _ h => h) (g := 33) (j := 0) (a := t) (t0 := 2) (qm (by decide) (by decide)) (fun _ => rfl) rfl rfl ht (by decide) rfl d_M_asked_113 ?_
              refine gq_aload_n C d_M_asked_114 rfl ?_
              refine gq_iconst C (v := 2) d_M_asked_115 (by decide) ?_
              refine gq_iload_n C d_M_asked_116 rfl ?_
              refine gq_iload_n C d_M_asked_117 rfl ?_
              refine gq_iload_n C d_M_asked_118 rfl ?_
              refine gq_callV C (st := []) (fun _ h => h) (c_M_put l Z hZ _ _ (g_cnt2 hc (by simp [qv_at])) 2 (nI t) (V 20 0 13) a) (qm (by decide) (by decide)) rfl rfl w_773 w_775 ws_M_post w_776 w_9 ⟨by decide, by decide, (by decide +kernel : (parseMethodDescriptor y_M_post.desc).map (fun d => d.parameters.length) = some 4)⟩ ⟨by decide, by decide⟩ ⟨by decide, by decide⟩ rfl (Nat.le_of_ble_eq_true rfl) d_M_asked_119 ?_
              exact gq_vretE C hr (by first | contradiction | (unfold g_asked g_asked1 g_bookFor g_wake; simp [*, qv_at])) rfl (by decide) (by decide) d_M_asked_122
            · skip
              exact gq_vretE C hr (by first | contradiction | (unfold g_asked g_asked1 g_bookFor g_wake; simp [*, qv_at])) rfl (by decide) (by decide) d_M_asked_81
    · skip
      refine gq_aload_n C d_M_asked_19 rfl ?_
      refine gq_iconst C (v := 0) d_M_asked_20 (by decide) ?_
      refine gq_put C (fun _ h => h) (g := 20) (j := 0) (ci := 8) (k := 15) ft_M k_M n_M (qm (by decide) (by decide)) rfl rfl in_M (by decide) w_676 rfl (k_M 15 (by decide)) rfl rfl (Nat.le_of_ble_eq_true rfl) rfl d_M_asked_21 ?_
      refine gq_aload_n C d_M_asked_24 rfl ?_
      refine gq_get C (g := 20) (j := 0) (ci := 8) (k := 14) (v := .int (V 20 0 14)) (qm (by decide) (by decide)) rfl rfl in_M (by decide) w_675 rfl d_M_asked_25 ?_
      refine gq_if_ne C (tgt := 38) d_M_asked_28 rfl (fun hb28 => ?_) (fun hb28 => ?_)
      · skip
        refine gq_aload_n C d_M_asked_38 rfl ?_
        refine gq_get C (g := 20) (j := 0) (ci := 8) (k := 21) (v := .ref (al Z 36 0)) (qm (by decide) (by decide)) rfl rfl in_M (by decide) w_682 rfl d_M_asked_39 ?_
        refine gq_iload_n C d_M_asked_42 rfl ?_
        refine gq_iald C (g := 36) (j := 0) (a := t) (t0 := 0) (qm (by decide) (by decide)) rfl rfl rfl ht (by decide) d_M_asked_43 ?_
        refine G.eqS (st' := [.int (V 36 0 t)]) rfl ?_
        refine gq_aload_n C d_M_asked_44 rfl ?_
        refine gq_get C (g := 20) (j := 0) (ci := 8) (k := 14) (v := .int (V 20 0 14)) (qm (by decide) (by decide)) rfl rfl in_M (by decide) w_675 rfl d_M_asked_45 ?_
        refine gq_icmp_lt C (tgt := 58) d_M_asked_48 rfl (fun hb48 => ?_) (fun hb48 => ?_)
        · skip
          refine gq_iconst C (v := 0) d_M_asked_58 (by decide) ?_
          refine gq_istore_n C (lo' := [(3, .int 0), (0, .ref (al Z 20 0)), (1, .int (nI t)), (2, .int a)]) d_M_asked_59 rfl (by decide) rfl ?_
          refine gq_aload_n C d_M_asked_60 rfl ?_
          refine gq_get C (g := 20) (j := 0) (ci := 8) (k := 15) (v := .int 0) (qm (by decide) (by decide)) rfl rfl in_M (by decide) w_676 rfl d_M_asked_61 ?_
          refine gq_if_ne C (tgt := 81) d_M_asked_64 rfl (fun hb => by exact absurd hb (by decide)) (fun hb64 => ?_)
          refine gq_iload_n C d_M_asked_67 rfl ?_
          refine gq_aload_n C d_M_asked_68 rfl ?_
          refine gq_get C (g := 20) (j := 0) (ci := 8) (k := 17) (v := .ref (al Z 32 0)) (qm (by decide) (by decide)) rfl rfl in_M (by decide) w_678 rfl d_M_asked_69 ?_
          refine gq_iload_n C d_M_asked_72 rfl ?_
          refine gq_iald C (g := 32) (j := 0) (a := t) (t0 := 0) (qm (by decide) (by decide)) rfl rfl rfl ht (by decide) d_M_asked_73 ?_
          refine G.eqS (st' := [.int (V 32 0 t), .int a]) rfl ?_
          refine gq_icmp_lt C (tgt := 81) d_M_asked_74 rfl (fun hb74 => ?_) (fun hb74 => ?_)
          · skip
            exact gq_vretE C hr (by first | contradiction | (unfold g_asked g_asked1 g_bookFor g_wake; simp [*, qv_at])) rfl (by decide) (by decide) d_M_asked_81
          · skip
            refine gq_iload_n C d_M_asked_77 rfl ?_
            refine gq_if_ne C (tgt := 82) d_M_asked_78 rfl (fun hb => by exact absurd hb (by decide)) (fun hb78 => ?_)
            exact gq_vretE C hr (by first | contradiction | (unfold g_asked g_asked1 g_bookFor g_wake; simp [*, qv_at])) rfl (by decide) (by decide) d_M_asked_81
        · skip
          refine gq_aload_n C d_M_asked_51 rfl ?_
          refine gq_get C (g := 20) (j := 0) (ci := 8) (k := 14) (v := .int (V 20 0 14)) (qm (by decide) (by decide)) rfl rfl in_M (by decide) w_675 rfl d_M_asked_52 ?_
          refine gq_goto C (tgt := 59) d_M_asked_55 rfl ?_
          refine gq_istore_n C (lo' := [(3, .int (V 20 0 14)), (0, .ref (al Z 20 0)), (1, .int (nI t)), (2, .int a)]) d_M_asked_59 rfl (by decide) rfl ?_
          refine gq_aload_n C d_M_asked_60 rfl ?_
          refine gq_get C (g := 20) (j := 0) (ci := 8) (k := 15) (v := .int 0) (qm (by decide) (by decide)) rfl rfl in_M (by decide) w_676 rfl d_M_asked_61 ?_
          refine gq_if_ne C (tgt := 81) d_M_asked_64 rfl (fun hb => by exact absurd hb (by decide)) (fun hb64 => ?_)
          refine gq_iload_n C d_M_asked_67 rfl ?_
          refine gq_aload_n C d_M_asked_68 rfl ?_
          refine gq_get C (g := 20) (j := 0) (ci := 8) (k := 17) (v := .ref (al Z 32 0)) (qm (by decide) (by decide)) rfl rfl in_M (by decide) w_678 rfl d_M_asked_69 ?_
          refine gq_iload_n C d_M_asked_72 rfl ?_
          refine gq_iald C (g := 32) (j := 0) (a := t) (t0 := 0) (qm (by decide) (by decide)) rfl rfl rfl ht (by decide) d_M_asked_73 ?_
          refine G.eqS (st' := [.int (V 32 0 t), .int a]) rfl ?_
          refine gq_icmp_lt C (tgt := 81) d_M_asked_74 rfl (fun hb74 => ?_) (fun hb74 => ?_)
          · skip
            exact gq_vretE C hr (by first | contradiction | (unfold g_asked g_asked1 g_bookFor g_wake; simp [*, qv_at])) rfl (by decide) (by decide) d_M_asked_81
          · skip
            refine gq_iload_n C d_M_asked_77 rfl ?_
            refine gq_if_ne C (tgt := 82) d_M_asked_78 rfl (fun hb78 => ?_) (fun hb78 => ?_)
            · skip
              refine gq_aload_n C d_M_asked_82 rfl ?_
              refine gq_get C (g := 20) (j := 0) (ci := 8) (k := 17) (v := .ref (al Z 32 0)) (qm (by decide) (by decide)) rfl rfl in_M (by decide) w_678 rfl d_M_asked_83 ?_
              refine gq_iload_n C d_M_asked_86 rfl ?_
              refine gq_iload_n C d_M_asked_87 rfl ?_
              refine gq_iast C (fun _ h => h) (g := 32) (j := 0) (a := t) (t0 := 0) (qm (by decide) (by decide)) (fun _ => rfl) rfl rfl ht (by decide) d_M_asked_88 ?_
              refine gq_aload_n C d_M_asked_89 rfl ?_
              refine gq_get C (g := 20) (j := 0) (ci := 8) (k := 19) (v := .ref (al Z 34 0)) (qm (by decide) (by decide)) rfl rfl in_M (by decide) w_680 rfl d_M_asked_90 ?_
              refine gq_iload_n C d_M_asked_93 rfl ?_
              refine gq_iload_n C d_M_asked_94 rfl ?_
              refine gq_iast C (fun _ h => h) (g := 34) (j := 0) (a := t) (t0 := 0) (qm (by decide) (by decide)) (fun _ => rfl) rfl rfl ht (by decide) d_M_asked_95 ?_
              refine gq_aload_n C d_M_asked_96 rfl ?_
              refine gq_get C (g := 20) (j := 0) (ci := 8) (k := 20) (v := .ref (al Z 35 0)) (qm (by decide) (by decide)) rfl rfl in_M (by decide) w_681 rfl d_M_asked_97 ?_
              refine gq_iload_n C d_M_asked_100 rfl ?_
              refine gq_aload_n C d_M_asked_101 rfl ?_
              refine gq_iconst C (v := 4) d_M_asked_102 (by decide) ?_
              refine gq_callV C (st := [.int (nI t), .ref (al Z 35 0)]) (fun _ h => h.elim) (c_M_clock l Z hZ _ _ 4 (by decide)) (qm (by decide) (by decide)) rfl rfl w_785 w_787 ws_M_clock w_788 w_9 ⟨by decide, by decide, (by decide +kernel : (parseMethodDescriptor y_M_clock.desc).map (fun d => d.parameters.length) = some 1)⟩ ⟨by decide, by decide⟩ ⟨by decide, by decide⟩ rfl (Nat.le_of_ble_eq_true rfl) d_M_asked_103 ?_
              refine G.eqS (st' := [.int ((V 24 0 4) / 100), .int (nI t), .ref (al Z 35 0)]) rfl ?_
              refine gq_iast C (fun _ h => h) (g := 35) (j := 0) (a := t) (t0 := 0) (qm (by decide) (by decide)) (fun _ => rfl) rfl rfl ht (by decide) d_M_asked_106 ?_
              refine gq_aload_n C d_M_asked_107 rfl ?_
              refine gq_get C (g := 20) (j := 0) (ci := 8) (k := 18) (v := .ref (al Z 33 0)) (qm (by decide) (by decide)) rfl rfl in_M (by decide) w_679 rfl d_M_asked_108 ?_
              refine gq_iload_n C d_M_asked_111 rfl ?_
              refine gq_iconst C (v := 1) d_M_asked_112 (by decide) ?_
              refine gq_zast C (fun _ h => h) (g := 33) (j := 0) (a := t) (t0 := 2) (qm (by decide) (by decide)) (fun _ => rfl) rfl rfl ht (by decide) rfl d_M_asked_113 ?_
              refine gq_aload_n C d_M_asked_114 rfl ?_
              refine gq_iconst C (v := 2) d_M_asked_115 (by decide) ?_
              refine gq_iload_n C d_M_asked_116 rfl ?_
              refine gq_iload_n C d_M_asked_117 rfl ?_
              refine gq_iload_n C d_M_asked_118 rfl ?_
              refine gq_callV C (st := []) (fun _ h => h) (c_M_put l Z hZ _ _ (g_cnt2 hc (by simp [qv_at])) 2 (nI t) (V 20 0 14) a) (qm (by decide) (by decide)) rfl rfl w_773 w_775 ws_M_post w_776 w_9 ⟨by decide, by decide, (by decide +kernel : (parseMethodDescriptor y_M_post.desc).map (fun d => d.parameters.length) = some 4)⟩ ⟨by decide, by decide⟩ ⟨by decide, by decide⟩ rfl (Nat.le_of_ble_eq_true rfl) d_M_asked_119 ?_
              exact gq_vretE C hr (by first | contradiction | (unfold g_asked g_asked1 g_bookFor g_wake; simp [*, qv_at])) rfl (by decide) (by decide) d_M_asked_122
            · skip
              exact gq_vretE C hr (by first | contradiction | (unfold g_asked g_asked1 g_bookFor g_wake; simp [*, qv_at])) rfl (by decide) (by decide) d_M_asked_81
      · skip
        refine gq_aload_n C d_M_asked_31 rfl ?_
        refine gq_get C (g := 20) (j := 0) (ci := 8) (k := 13) (v := .int (V 20 0 13)) (qm (by decide) (by decide)) rfl rfl in_M (by decide) w_674 rfl d_M_asked_32 ?_
        refine gq_goto C (tgt := 59) d_M_asked_35 rfl ?_
        refine gq_istore_n C (lo' := [(3, .int (V 20 0 13)), (0, .ref (al Z 20 0)), (1, .int (nI t)), (2, .int a)]) d_M_asked_59 rfl (by decide) rfl ?_
        refine gq_aload_n C d_M_asked_60 rfl ?_
        refine gq_get C (g := 20) (j := 0) (ci := 8) (k := 15) (v := .int 0) (qm (by decide) (by decide)) rfl rfl in_M (by decide) w_676 rfl d_M_asked_61 ?_
        refine gq_if_ne C (tgt := 81) d_M_asked_64 rfl (fun hb => by exact absurd hb (by decide)) (fun hb64 => ?_)
        refine gq_iload_n C d_M_asked_67 rfl ?_
        refine gq_aload_n C d_M_asked_68 rfl ?_
        refine gq_get C (g := 20) (j := 0) (ci := 8) (k := 17) (v := .ref (al Z 32 0)) (qm (by decide) (by decide)) rfl rfl in_M (by decide) w_678 rfl d_M_asked_69 ?_
        refine gq_iload_n C d_M_asked_72 rfl ?_
        refine gq_iald C (g := 32) (j := 0) (a := t) (t0 := 0) (qm (by decide) (by decide)) rfl rfl rfl ht (by decide) d_M_asked_73 ?_
        refine G.eqS (st' := [.int (V 32 0 t), .int a]) rfl ?_
        refine gq_icmp_lt C (tgt := 81) d_M_asked_74 rfl (fun hb74 => ?_) (fun hb74 => ?_)
        · skip
          exact gq_vretE C hr (by first | contradiction | (unfold g_asked g_asked1 g_bookFor g_wake; simp [*, qv_at])) rfl (by decide) (by decide) d_M_asked_81
        · skip
          refine gq_iload_n C d_M_asked_77 rfl ?_
          refine gq_if_ne C (tgt := 82) d_M_asked_78 rfl (fun hb78 => ?_) (fun hb78 => ?_)
          · skip
            refine gq_aload_n C d_M_asked_82 rfl ?_
            refine gq_get C (g := 20) (j := 0) (ci := 8) (k := 17) (v := .ref (al Z 32 0)) (qm (by decide) (by decide)) rfl rfl in_M (by decide) w_678 rfl d_M_asked_83 ?_
            refine gq_iload_n C d_M_asked_86 rfl ?_
            refine gq_iload_n C d_M_asked_87 rfl ?_
            refine gq_iast C (fun _ h => h) (g := 32) (j := 0) (a := t) (t0 := 0) (qm (by decide) (by decide)) (fun _ => rfl) rfl rfl ht (by decide) d_M_asked_88 ?_
            refine gq_aload_n C d_M_asked_89 rfl ?_
            refine gq_get C (g := 20) (j := 0) (ci := 8) (k := 19) (v := .ref (al Z 34 0)) (qm (by decide) (by decide)) rfl rfl in_M (by decide) w_680 rfl d_M_asked_90 ?_
            refine gq_iload_n C d_M_asked_93 rfl ?_
            refine gq_iload_n C d_M_asked_94 rfl ?_
            refine gq_iast C (fun _ h => h) (g := 34) (j := 0) (a := t) (t0 := 0) (qm (by decide) (by decide)) (fun _ => rfl) rfl rfl ht (by decide) d_M_asked_95 ?_
            refine gq_aload_n C d_M_asked_96 rfl ?_
            refine gq_get C (g := 20) (j := 0) (ci := 8) (k := 20) (v := .ref (al Z 35 0)) (qm (by decide) (by decide)) rfl rfl in_M (by decide) w_681 rfl d_M_asked_97 ?_
            refine gq_iload_n C d_M_asked_100 rfl ?_
            refine gq_aload_n C d_M_asked_101 rfl ?_
            refine gq_iconst C (v := 4) d_M_asked_102 (by decide) ?_
            refine gq_callV C (st := [.int (nI t), .ref (al Z 35 0)]) (fun _ h => h.elim) (c_M_clock l Z hZ _ _ 4 (by decide)) (qm (by decide) (by decide)) rfl rfl w_785 w_787 ws_M_clock w_788 w_9 ⟨by decide, by decide, (by decide +kernel : (parseMethodDescriptor y_M_clock.desc).map (fun d => d.parameters.length) = some 1)⟩ ⟨by decide, by decide⟩ ⟨by decide, by decide⟩ rfl (Nat.le_of_ble_eq_true rfl) d_M_asked_103 ?_
            refine G.eqS (st' := [.int ((V 24 0 4) / 100), .int (nI t), .ref (al Z 35 0)]) rfl ?_
            refine gq_iast C (fun _ h => h) (g := 35) (j := 0) (a := t) (t0 := 0) (qm (by decide) (by decide)) (fun _ => rfl) rfl rfl ht (by decide) d_M_asked_106 ?_
            refine gq_aload_n C d_M_asked_107 rfl ?_
            refine gq_get C (g := 20) (j := 0) (ci := 8) (k := 18) (v := .ref (al Z 33 0)) (qm (by decide) (by decide)) rfl rfl in_M (by decide) w_679 rfl d_M_asked_108 ?_
            refine gq_iload_n C d_M_asked_111 rfl ?_
            refine gq_iconst C (v := 1) d_M_asked_112 (by decide) ?_
            refine gq_zast C (fun _ h => h) (g := 33) (j := 0) (a := t) (t0 := 2) (qm (by decide) (by decide)) (fun _ => rfl) rfl rfl ht (by decide) rfl d_M_asked_113 ?_
            refine gq_aload_n C d_M_asked_114 rfl ?_
            refine gq_iconst C (v := 2) d_M_asked_115 (by decide) ?_
            refine gq_iload_n C d_M_asked_116 rfl ?_
            refine gq_iload_n C d_M_asked_117 rfl ?_
            refine gq_iload_n C d_M_asked_118 rfl ?_
            refine gq_callV C (st := []) (fun _ h => h) (c_M_put l Z hZ _ _ (g_cnt2 hc (by simp [qv_at])) 2 (nI t) (V 20 0 13) a) (qm (by decide) (by decide)) rfl rfl w_773 w_775 ws_M_post w_776 w_9 ⟨by decide, by decide, (by decide +kernel : (parseMethodDescriptor y_M_post.desc).map (fun d => d.parameters.length) = some 4)⟩ ⟨by decide, by decide⟩ ⟨by decide, by decide⟩ rfl (Nat.le_of_ble_eq_true rfl) d_M_asked_119 ?_
            exact gq_vretE C hr (by first | contradiction | (unfold g_asked g_asked1 g_bookFor g_wake; simp [*, qv_at])) rfl (by decide) (by decide) d_M_asked_122
          · skip
            exact gq_vretE C hr (by first | contradiction | (unfold g_asked g_asked1 g_bookFor g_wake; simp [*, qv_at])) rfl (by decide) (by decide) d_M_asked_81

set_option maxHeartbeats 4000000 in
set_option maxRecDepth 100000 in
theorem c_M_comes0 (l : Launch) (Z : qZ) (hZ : qok (pX Z)) (V : qV) (Y : qY) (t : Nat) (ht : t < 4) (b a : Int32) : CT l y_M_comes { frames := 4, cells := 0, slots := 0, locals := 103 } (pX Z) (qA (pX Z)) [.ref (al Z 20 0), .int 0, .int (nI t), .int b, .int a] V Y (.inl none) (if V 26 0 t = b - 1 then qv V 26 0 t b else V) Y := by
  refine CT.of (cc := b_M_comes) (maxL := 5) (ret := none) hZ (by decide) w_844 (Nat.le_of_ble_eq_true rfl) ?_
  intro p e s m below meth c C hr hex hlt
  refine gq_iload_n C d_M_comes_0 rfl ?_
  refine gq_if_ne C (tgt := 26) d_M_comes_1 rfl (fun hb => by exact absurd hb (by decide)) (fun hb1 => ?_)
  refine gq_aload_n C d_M_comes_4 rfl ?_
  refine gq_get C (g := 20) (j := 0) (ci := 8) (k := 7) (v := .ref (al Z 26 0)) (qm (by decide) (by decide)) rfl rfl in_M (by decide) w_668 rfl d_M_comes_5 ?_
  refine gq_iload_n C d_M_comes_8 rfl ?_
  refine gq_iald C (g := 26) (j := 0) (a := t) (t0 := 0) (qm (by decide) (by decide)) rfl rfl rfl ht (by decide) d_M_comes_9 ?_
  refine gq_iload_n C d_M_comes_10 rfl ?_
  refine gq_iconst C (v := 1) d_M_comes_11 (by decide) ?_
  refine gq_isub C d_M_comes_12 ?_
  refine gq_icmp_ne C (tgt := 122) d_M_comes_13 rfl (fun hb13 => ?_) (fun hb13 => ?_)
  · skip
    exact gq_vretE C hr (by simp [*]) rfl (by decide) (by decide) d_M_comes_122
  · skip
    refine gq_aload_n C d_M_comes_16 rfl ?_
    refine gq_get C (g := 20) (j := 0) (ci := 8) (k := 7) (v := .ref (al Z 26 0)) (qm (by decide) (by decide)) rfl rfl in_M (by decide) w_668 rfl d_M_comes_17 ?_
    refine gq_iload_n C d_M_comes_20 rfl ?_
    refine gq_iload_n C d_M_comes_21 rfl ?_
    refine gq_iast C (fun _ h => h) (g := 26) (j := 0) (a := t) (t0 := 0) (qm (by decide) (by decide)) (fun _ => rfl) rfl rfl ht (by decide) d_M_comes_22 ?_
    refine gq_goto C (tgt := 122) d_M_comes_23 rfl ?_
    exact gq_vretE C hr (by simp [*]) rfl (by decide) (by decide) d_M_comes_122

theorem c_M_comes0e (l : Launch) (Z : qZ) (hZ : qok (pX Z)) (V : qV) (Y : qY) (t : Nat) (ht : t < 4) (b a : Int32) (k u : Int32) (hk : k = 0) (hu : u = nI t) : CT l y_M_comes { frames := 4, cells := 0, slots := 0, locals := 103 } (pX Z) (qA (pX Z)) [.ref (al Z 20 0), .int k, .int u, .int b, .int a] V Y (.inl none) (if V 26 0 t = b - 1 then qv V 26 0 t b else V) Y := by
  subst hk; subst hu
  exact c_M_comes0 l Z hZ V Y t ht b a

set_option maxHeartbeats 4000000 in
set_option maxRecDepth 100000 in
theorem c_M_comes2 (l : Launch) (Z : qZ) (hZ : qok (pX Z)) (V : qV) (Y : qY) (t : Nat) (ht : t < 4) (b a : Int32) : CT l y_M_comes { frames := 4, cells := 0, slots := 0, locals := 103 } (pX Z) (qA (pX Z)) [.ref (al Z 20 0), .int 2, .int (nI t), .int b, .int a] V Y (.inl none) (if a = V 28 0 t ∧ V 29 0 t = 0 then qv V 31 0 t b else V) Y := by
  refine CT.of (cc := b_M_comes) (maxL := 5) (ret := none) hZ (by decide) w_844 (Nat.le_of_ble_eq_true rfl) ?_
  intro p e s m below meth c C hr hex hlt
  refine gq_iload_n C d_M_comes_0 rfl ?_
  refine gq_if_ne C (tgt := 26) d_M_comes_1 rfl (fun hb1 => ?_) (fun hb => by exact absurd hb (by decide))
  refine gq_iload_n C d_M_comes_26 rfl ?_
  refine gq_iconst C (v := 2) d_M_comes_27 (by decide) ?_
  refine gq_icmp_ne C (tgt := 61) d_M_comes_28 rfl (fun hb => by exact absurd hb (by decide)) (fun hb28 => ?_)
  refine gq_iload C d_M_comes_31 rfl ?_
  refine gq_aload_n C d_M_comes_33 rfl ?_
  refine gq_get C (g := 20) (j := 0) (ci := 8) (k := 9) (v := .ref (al Z 28 0)) (qm (by decide) (by decide)) rfl rfl in_M (by decide) w_670 rfl d_M_comes_34 ?_
  refine gq_iload_n C d_M_comes_37 rfl ?_
  refine gq_iald C (g := 28) (j := 0) (a := t) (t0 := 0) (qm (by decide) (by decide)) rfl rfl rfl ht (by decide) d_M_comes_38 ?_
  refine gq_icmp_ne C (tgt := 122) d_M_comes_39 rfl (fun hb39 => ?_) (fun hb39 => ?_)
  · skip
    exact gq_vretE C hr (by simp [*]) rfl (by decide) (by decide) d_M_comes_122
  · skip
    refine gq_aload_n C d_M_comes_42 rfl ?_
    refine gq_get C (g := 20) (j := 0) (ci := 8) (k := 10) (v := .ref (al Z 29 0)) (qm (by decide) (by decide)) rfl rfl in_M (by decide) w_671 rfl d_M_comes_43 ?_
    refine gq_iload_n C d_M_comes_46 rfl ?_
    refine gq_zald C (g := 29) (j := 0) (a := t) (t0 := 2) (qm (by decide) (by decide)) rfl rfl rfl ht (by decide) d_M_comes_47 ?_
    refine gq_if_ne C (tgt := 122) d_M_comes_48 rfl (fun hb48 => ?_) (fun hb48 => ?_)
    · skip
      exact gq_vretE C hr (by simp [*]) rfl (by decide) (by decide) d_M_comes_122
    · skip
      refine gq_aload_n C d_M_comes_51 rfl ?_
      refine gq_get C (g := 20) (j := 0) (ci := 8) (k := 12) (v := .ref (al Z 31 0)) (qm (by decide) (by decide)) rfl rfl in_M (by decide) w_673 rfl d_M_comes_52 ?_
      refine gq_iload_n C d_M_comes_55 rfl ?_
      refine gq_iload_n C d_M_comes_56 rfl ?_
      refine gq_iast C (fun _ h => h) (g := 31) (j := 0) (a := t) (t0 := 0) (qm (by decide) (by decide)) (fun _ => rfl) rfl rfl ht (by decide) d_M_comes_57 ?_
      refine gq_goto C (tgt := 122) d_M_comes_58 rfl ?_
      exact gq_vretE C hr (by simp [*]) rfl (by decide) (by decide) d_M_comes_122

theorem c_M_comes2e (l : Launch) (Z : qZ) (hZ : qok (pX Z)) (V : qV) (Y : qY) (t : Nat) (ht : t < 4) (b a : Int32) (k u : Int32) (hk : k = 2) (hu : u = nI t) : CT l y_M_comes { frames := 4, cells := 0, slots := 0, locals := 103 } (pX Z) (qA (pX Z)) [.ref (al Z 20 0), .int k, .int u, .int b, .int a] V Y (.inl none) (if a = V 28 0 t ∧ V 29 0 t = 0 then qv V 31 0 t b else V) Y := by
  subst hk; subst hu
  exact c_M_comes2 l Z hZ V Y t ht b a

set_option maxHeartbeats 4000000 in
set_option maxRecDepth 100000 in
theorem c_M_comes1 (l : Launch) (Z : qZ) (hZ : qok (pX Z)) (V : qV) (Y : qY) (t : Nat) (ht : t < 4) (b a : Int32) (hc : ∃ q, q ≤ 40 ∧ V 20 0 22 = nI q) : CT l y_M_comes { frames := 4, cells := 0, slots := 0, locals := 103 } (pX Z) (qA (pX Z)) [.ref (al Z 20 0), .int 1, .int (nI t), .int b, .int a] V Y (.inl none) (g_look (g_asked V t a)) Y := by
  refine CT.of (cc := b_M_comes) (maxL := 5) (ret := none) hZ (by decide) w_844 (Nat.le_of_ble_eq_true rfl) ?_
  intro p e s m below meth c C hr hex hlt
  refine gq_iload_n C d_M_comes_0 rfl ?_
  refine gq_if_ne C (tgt := 26) d_M_comes_1 rfl (fun hb1 => ?_) (fun hb => by exact absurd hb (by decide))
  refine gq_iload_n C d_M_comes_26 rfl ?_
  refine gq_iconst C (v := 2) d_M_comes_27 (by decide) ?_
  refine gq_icmp_ne C (tgt := 61) d_M_comes_28 rfl (fun hb28 => ?_) (fun hb => by exact absurd hb (by decide))
  refine gq_iload_n C d_M_comes_61 rfl ?_
  refine gq_iconst C (v := 1) d_M_comes_62 (by decide) ?_
  refine gq_icmp_ne C (tgt := 73) d_M_comes_63 rfl (fun hb => by exact absurd hb (by decide)) (fun hb63 => ?_)
  refine gq_aload_n C d_M_comes_66 rfl ?_
  refine gq_iload_n C d_M_comes_67 rfl ?_
  refine gq_iload C d_M_comes_68 rfl ?_
  refine gq_callV C (st := []) (fun _ h => h) (c_M_asked l Z hZ _ _ t ht a hc) (qm (by decide) (by decide)) rfl rfl w_845 w_847 ws_M_asked w_848 w_9 ⟨by decide, by decide, (by decide +kernel : (parseMethodDescriptor y_M_asked.desc).map (fun d => d.parameters.length) = some 2)⟩ ⟨by decide, by decide⟩ ⟨by decide, by decide⟩ rfl (Nat.le_of_ble_eq_true rfl) d_M_comes_70 ?_
  refine gq_iload_n C d_M_comes_73 rfl ?_
  refine gq_iconst C (v := 3) d_M_comes_74 (by decide) ?_
  refine gq_icmp_ne C (tgt := 95) d_M_comes_75 rfl (fun hb75 => ?_) (fun hb => by exact absurd hb (by decide))
  refine gq_iload_n C d_M_comes_95 rfl ?_
  refine gq_iconst C (v := 4) d_M_comes_96 (by decide) ?_
  refine gq_icmp_ne C (tgt := 118) d_M_comes_97 rfl (fun hb97 => ?_) (fun hb => by exact absurd hb (by decide))
  refine gq_aload_n C d_M_comes_118 rfl ?_
  refine gq_callV C (st := []) (fun _ h => h) (c_M_look l Z hZ _ _) (qm (by decide) (by decide)) rfl rfl w_781 w_783 ws_M_look w_784 w_9 ⟨by decide, by decide, (by decide +kernel : (parseMethodDescriptor y_M_look.desc).map (fun d => d.parameters.length) = some 0)⟩ ⟨by decide, by decide⟩ ⟨by decide, by decide⟩ rfl (Nat.le_of_ble_eq_true rfl) d_M_comes_119 ?_
  exact gq_vretE C hr rfl rfl (by decide) (by decide) d_M_comes_122

theorem c_M_comes1e (l : Launch) (Z : qZ) (hZ : qok (pX Z)) (V : qV) (Y : qY) (t : Nat) (ht : t < 4) (b a : Int32) (hc : ∃ q, q ≤ 40 ∧ V 20 0 22 = nI q) (k u : Int32) (hk : k = 1) (hu : u = nI t) : CT l y_M_comes { frames := 4, cells := 0, slots := 0, locals := 103 } (pX Z) (qA (pX Z)) [.ref (al Z 20 0), .int k, .int u, .int b, .int a] V Y (.inl none) (g_look (g_asked V t a)) Y := by
  subst hk; subst hu
  exact c_M_comes1 l Z hZ V Y t ht b a hc

set_option maxHeartbeats 4000000 in
set_option maxRecDepth 100000 in
theorem c_M_comes3 (l : Launch) (Z : qZ) (hZ : qok (pX Z)) (V : qV) (Y : qY) (t : Nat) (ht : t < 4) (b a : Int32) : CT l y_M_comes { frames := 4, cells := 0, slots := 0, locals := 103 } (pX Z) (qA (pX Z)) [.ref (al Z 20 0), .int 3, .int (nI t), .int b, .int a] V Y (.inl none) (g_look (if b ≤ V 36 0 t then V else qv V 36 0 t b)) Y := by
  refine CT.of (cc := b_M_comes) (maxL := 5) (ret := none) hZ (by decide) w_844 (Nat.le_of_ble_eq_true rfl) ?_
  intro p e s m below meth c C hr hex hlt
  refine gq_iload_n C d_M_comes_0 rfl ?_
  refine gq_if_ne C (tgt := 26) d_M_comes_1 rfl (fun hb1 => ?_) (fun hb => by exact absurd hb (by decide))
  refine gq_iload_n C d_M_comes_26 rfl ?_
  refine gq_iconst C (v := 2) d_M_comes_27 (by decide) ?_
  refine gq_icmp_ne C (tgt := 61) d_M_comes_28 rfl (fun hb28 => ?_) (fun hb => by exact absurd hb (by decide))
  refine gq_iload_n C d_M_comes_61 rfl ?_
  refine gq_iconst C (v := 1) d_M_comes_62 (by decide) ?_
  refine gq_icmp_ne C (tgt := 73) d_M_comes_63 rfl (fun hb63 => ?_) (fun hb => by exact absurd hb (by decide))
  refine gq_iload_n C d_M_comes_73 rfl ?_
  refine gq_iconst C (v := 3) d_M_comes_74 (by decide) ?_
  refine gq_icmp_ne C (tgt := 95) d_M_comes_75 rfl (fun hb => by exact absurd hb (by decide)) (fun hb75 => ?_)
  refine gq_iload_n C d_M_comes_78 rfl ?_
  refine gq_aload_n C d_M_comes_79 rfl ?_
  refine gq_get C (g := 20) (j := 0) (ci := 8) (k := 21) (v := .ref (al Z 36 0)) (qm (by decide) (by decide)) rfl rfl in_M (by decide) w_682 rfl d_M_comes_80 ?_
  refine gq_iload_n C d_M_comes_83 rfl ?_
  refine gq_iald C (g := 36) (j := 0) (a := t) (t0 := 0) (qm (by decide) (by decide)) rfl rfl rfl ht (by decide) d_M_comes_84 ?_
  refine gq_icmp_le C (tgt := 95) d_M_comes_85 rfl (fun hb85 => ?_) (fun hb85 => ?_)
  · skip
    refine gq_iload_n C d_M_comes_95 rfl ?_
    refine gq_iconst C (v := 4) d_M_comes_96 (by decide) ?_
    refine gq_icmp_ne C (tgt := 118) d_M_comes_97 rfl (fun hb97 => ?_) (fun hb => by exact absurd hb (by decide))
    refine gq_aload_n C d_M_comes_118 rfl ?_
    refine gq_callV C (st := []) (fun _ h => h) (c_M_look l Z hZ _ _) (qm (by decide) (by decide)) rfl rfl w_781 w_783 ws_M_look w_784 w_9 ⟨by decide, by decide, (by decide +kernel : (parseMethodDescriptor y_M_look.desc).map (fun d => d.parameters.length) = some 0)⟩ ⟨by decide, by decide⟩ ⟨by decide, by decide⟩ rfl (Nat.le_of_ble_eq_true rfl) d_M_comes_119 ?_
    exact gq_vretE C hr (by simp [*]) rfl (by decide) (by decide) d_M_comes_122
  · skip
    refine gq_aload_n C d_M_comes_88 rfl ?_
    refine gq_get C (g := 20) (j := 0) (ci := 8) (k := 21) (v := .ref (al Z 36 0)) (qm (by decide) (by decide)) rfl rfl in_M (by decide) w_682 rfl d_M_comes_89 ?_
    refine gq_iload_n C d_M_comes_92 rfl ?_
    refine gq_iload_n C d_M_comes_93 rfl ?_
    refine gq_iast C (fun _ h => h) (g := 36) (j := 0) (a := t) (t0 := 0) (qm (by decide) (by decide)) (fun _ => rfl) rfl rfl ht (by decide) d_M_comes_94 ?_
    refine gq_iload_n C d_M_comes_95 rfl ?_
    refine gq_iconst C (v := 4) d_M_comes_96 (by decide) ?_
    refine gq_icmp_ne C (tgt := 118) d_M_comes_97 rfl (fun hb97 => ?_) (fun hb => by exact absurd hb (by decide))
    refine gq_aload_n C d_M_comes_118 rfl ?_
    refine gq_callV C (st := []) (fun _ h => h) (c_M_look l Z hZ _ _) (qm (by decide) (by decide)) rfl rfl w_781 w_783 ws_M_look w_784 w_9 ⟨by decide, by decide, (by decide +kernel : (parseMethodDescriptor y_M_look.desc).map (fun d => d.parameters.length) = some 0)⟩ ⟨by decide, by decide⟩ ⟨by decide, by decide⟩ rfl (Nat.le_of_ble_eq_true rfl) d_M_comes_119 ?_
    exact gq_vretE C hr (by simp [*]) rfl (by decide) (by decide) d_M_comes_122

theorem c_M_comes3e (l : Launch) (Z : qZ) (hZ : qok (pX Z)) (V : qV) (Y : qY) (t : Nat) (ht : t < 4) (b a : Int32) (k u : Int32) (hk : k = 3) (hu : u = nI t) : CT l y_M_comes { frames := 4, cells := 0, slots := 0, locals := 103 } (pX Z) (qA (pX Z)) [.ref (al Z 20 0), .int k, .int u, .int b, .int a] V Y (.inl none) (g_look (if b ≤ V 36 0 t then V else qv V 36 0 t b)) Y := by
  subst hk; subst hu
  exact c_M_comes3 l Z hZ V Y t ht b a

set_option maxHeartbeats 4000000 in
set_option maxRecDepth 100000 in
theorem c_M_comes4 (l : Launch) (Z : qZ) (hZ : qok (pX Z)) (V : qV) (Y : qY) (t : Nat) (ht : t < 4) (b a : Int32) : CT l y_M_comes { frames := 4, cells := 0, slots := 0, locals := 103 } (pX Z) (qA (pX Z)) [.ref (al Z 20 0), .int 4, .int (nI t), .int b, .int a] V Y (.inl none) (g_look (if a = V 32 0 t then qv V 33 0 t 0 else V)) Y := by
  refine CT.of (cc := b_M_comes) (maxL := 5) (ret := none) hZ (by decide) w_844 (Nat.le_of_ble_eq_true rfl) ?_
  intro p e s m below meth c C hr hex hlt
  refine gq_iload_n C d_M_comes_0 rfl ?_
  refine gq_if_ne C (tgt := 26) d_M_comes_1 rfl (fun hb1 => ?_) (fun hb => by exact absurd hb (by decide))
  refine gq_iload_n C d_M_comes_26 rfl ?_
  refine gq_iconst C (v := 2) d_M_comes_27 (by decide) ?_
  refine gq_icmp_ne C (tgt := 61) d_M_comes_28 rfl (fun hb28 => ?_) (fun hb => by exact absurd hb (by decide))
  refine gq_iload_n C d_M_comes_61 rfl ?_
  refine gq_iconst C (v := 1) d_M_comes_62 (by decide) ?_
  refine gq_icmp_ne C (tgt := 73) d_M_comes_63 rfl (fun hb63 => ?_) (fun hb => by exact absurd hb (by decide))
  refine gq_iload_n C d_M_comes_73 rfl ?_
  refine gq_iconst C (v := 3) d_M_comes_74 (by decide) ?_
  refine gq_icmp_ne C (tgt := 95) d_M_comes_75 rfl (fun hb75 => ?_) (fun hb => by exact absurd hb (by decide))
  refine gq_iload_n C d_M_comes_95 rfl ?_
  refine gq_iconst C (v := 4) d_M_comes_96 (by decide) ?_
  refine gq_icmp_ne C (tgt := 118) d_M_comes_97 rfl (fun hb => by exact absurd hb (by decide)) (fun hb97 => ?_)
  refine gq_iload C d_M_comes_100 rfl ?_
  refine gq_aload_n C d_M_comes_102 rfl ?_
  refine gq_get C (g := 20) (j := 0) (ci := 8) (k := 17) (v := .ref (al Z 32 0)) (qm (by decide) (by decide)) rfl rfl in_M (by decide) w_678 rfl d_M_comes_103 ?_
  refine gq_iload_n C d_M_comes_106 rfl ?_
  refine gq_iald C (g := 32) (j := 0) (a := t) (t0 := 0) (qm (by decide) (by decide)) rfl rfl rfl ht (by decide) d_M_comes_107 ?_
  refine gq_icmp_ne C (tgt := 118) d_M_comes_108 rfl (fun hb108 => ?_) (fun hb108 => ?_)
  · skip
    refine gq_aload_n C d_M_comes_118 rfl ?_
    refine gq_callV C (st := []) (fun _ h => h) (c_M_look l Z hZ _ _) (qm (by decide) (by decide)) rfl rfl w_781 w_783 ws_M_look w_784 w_9 ⟨by decide, by decide, (by decide +kernel : (parseMethodDescriptor y_M_look.desc).map (fun d => d.parameters.length) = some 0)⟩ ⟨by decide, by decide⟩ ⟨by decide, by decide⟩ rfl (Nat.le_of_ble_eq_true rfl) d_M_comes_119 ?_
    exact gq_vretE C hr (by simp [*]) rfl (by decide) (by decide) d_M_comes_122
  · skip
    refine gq_aload_n C d_M_comes_111 rfl ?_
    refine gq_get C (g := 20) (j := 0) (ci := 8) (k := 18) (v := .ref (al Z 33 0)) (qm (by decide) (by decide)) rfl rfl in_M (by decide) w_679 rfl d_M_comes_112 ?_
    refine gq_iload_n C d_M_comes_115 rfl ?_
    refine gq_iconst C (v := 0) d_M_comes_116 (by decide) ?_
    refine gq_zast C (fun _ h => h) (g := 33) (j := 0) (a := t) (t0 := 2) (qm (by decide) (by decide)) (fun _ => rfl) rfl rfl ht (by decide) rfl d_M_comes_117 ?_
    refine gq_aload_n C d_M_comes_118 rfl ?_
    refine gq_callV C (st := []) (fun _ h => h) (c_M_look l Z hZ _ _) (qm (by decide) (by decide)) rfl rfl w_781 w_783 ws_M_look w_784 w_9 ⟨by decide, by decide, (by decide +kernel : (parseMethodDescriptor y_M_look.desc).map (fun d => d.parameters.length) = some 0)⟩ ⟨by decide, by decide⟩ ⟨by decide, by decide⟩ rfl (Nat.le_of_ble_eq_true rfl) d_M_comes_119 ?_
    exact gq_vretE C hr (by simp [*]) rfl (by decide) (by decide) d_M_comes_122

theorem c_M_comes4e (l : Launch) (Z : qZ) (hZ : qok (pX Z)) (V : qV) (Y : qY) (t : Nat) (ht : t < 4) (b a : Int32) (k u : Int32) (hk : k = 4) (hu : u = nI t) : CT l y_M_comes { frames := 4, cells := 0, slots := 0, locals := 103 } (pX Z) (qA (pX Z)) [.ref (al Z 20 0), .int k, .int u, .int b, .int a] V Y (.inl none) (g_look (if a = V 32 0 t then qv V 33 0 t 0 else V)) Y := by
  subst hk; subst hu
  exact c_M_comes4 l Z hZ V Y t ht b a

set_option maxHeartbeats 4000000 in
set_option maxRecDepth 100000 in
theorem c_M_remove (l : Launch) (Z : qZ) (hZ : qok (pX Z)) (V : qV) (Y : qY) (i n : Nat) (hi : i < n) (hn : n ≤ 40) (h22 : V 20 0 22 = nI n) : CT l y_M_remove { frames := 1, cells := 0, slots := 0, locals := 40 } (pX Z) (qA (pX Z)) [.ref (al Z 20 0), .int (nI i)] V Y (.inl none) (g_remove V i n) Y := by
  refine CT.of (cc := b_M_remove) (maxL := 3) (ret := none) hZ (by decide) w_840 (Nat.le_of_ble_eq_true rfl) ?_
  intro p e s m below meth c C hr hex hlt
  have loop : ∀ (r k : Nat) (f : Nat → Int32), k + r = 4 * (n - 1) → 4 * i ≤ k → g_shift f r k = g_cut (V 37 0) i n → G p l e { frames := 1, cells := 0, slots := 0, locals := 40 } s m ([.ref (al Z 20 0), .int (nI i)] : List Value).toArray below meth c (qQ below (pX Z) (qA (pX Z)) { frames := 1, cells := 0, slots := 0, locals := 40 } (.inl none) (g_remove V i n) Y s) (pX Z) 3 (qA (pX Z)) (qu (qv V 20 0 22 (nI (n - 1))) 37 0 f) Y 0 0 14 [(2, .int (nI k)), (0, .ref (al Z 20 0)), (1, .int (nI i))] [] := by
    intro r
    induction r with
    | zero =>
      intro k f hk h4 hf
      have hf : f = g_cut (V 37 0) i n := hf
      refine gq_iload_n C d_M_remove_14 rfl ?_
      refine gq_iconst C (v := 4) d_M_remove_15 (by decide) ?_
      refine gq_aload_n C d_M_remove_16 rfl ?_
      refine gq_get C (g := 20) (j := 0) (ci := 8) (k := 22) (v := .int (qu (qv V 20 0 22 (nI (n - 1))) 37 0 f 20 0 22)) (qm (by decide) (by decide)) rfl rfl in_M (by decide) w_683 rfl d_M_remove_17 ?_
      refine G.eqS (st' := [.int (nI (n - 1)), .int 4, .int (nI k)]) (by first | (rw [show qu (qv V 20 0 22 (nI (n - 1))) 37 0 f 20 0 22 = nI (n - 1) from rfl]; done) | (rw [show qu (qv V 20 0 22 (nI (n - 1))) 37 0 f 20 0 22 = nI (n - 1) from rfl]; rfl)) ?_
      refine gq_imul C d_M_remove_20 ?_
      refine G.eqS (st' := [.int (nI (4 * (n - 1))), .int (nI k)]) (by first | (rw [show 4 * (nI (n - 1)) = nI (4 * (n - 1)) from (by rw [show (4 : Int32) = nI 4 from rfl, pk_mul])]; done) | (rw [show 4 * (nI (n - 1)) = nI (4 * (n - 1)) from (by rw [show (4 : Int32) = nI 4 from rfl, pk_mul])]; rfl)) ?_
      refine gq_icmp_ge C (tgt := 44) d_M_remove_21 rfl (fun hb21 => ?_) (fun hb => by exact absurd (nI_le (by omega) (by omega)) hb)
      exact gq_vretE C hr (by rw [hf]; rfl) rfl (by decide) (by decide) d_M_remove_44
    | succ r ih =>
      intro k f hk h4 hf
      refine gq_iload_n C d_M_remove_14 rfl ?_
      refine gq_iconst C (v := 4) d_M_remove_15 (by decide) ?_
      refine gq_aload_n C d_M_remove_16 rfl ?_
      refine gq_get C (g := 20) (j := 0) (ci := 8) (k := 22) (v := .int (qu (qv V 20 0 22 (nI (n - 1))) 37 0 f 20 0 22)) (qm (by decide) (by decide)) rfl rfl in_M (by decide) w_683 rfl d_M_remove_17 ?_
      refine G.eqS (st' := [.int (nI (n - 1)), .int 4, .int (nI k)]) (by first | (rw [show qu (qv V 20 0 22 (nI (n - 1))) 37 0 f 20 0 22 = nI (n - 1) from rfl]; done) | (rw [show qu (qv V 20 0 22 (nI (n - 1))) 37 0 f 20 0 22 = nI (n - 1) from rfl]; rfl)) ?_
      refine gq_imul C d_M_remove_20 ?_
      refine G.eqS (st' := [.int (nI (4 * (n - 1))), .int (nI k)]) (by first | (rw [show 4 * (nI (n - 1)) = nI (4 * (n - 1)) from (by rw [show (4 : Int32) = nI 4 from rfl, pk_mul])]; done) | (rw [show 4 * (nI (n - 1)) = nI (4 * (n - 1)) from (by rw [show (4 : Int32) = nI 4 from rfl, pk_mul])]; rfl)) ?_
      refine gq_icmp_ge C (tgt := 44) d_M_remove_21 rfl (fun hb => by exact absurd hb (nI_ge (by omega) (by omega))) (fun hb21 => ?_)
      refine gq_aload_n C d_M_remove_24 rfl ?_
      refine gq_get C (g := 20) (j := 0) (ci := 8) (k := 23) (v := .ref (al Z 37 0)) (qm (by decide) (by decide)) rfl rfl in_M (by decide) w_684 rfl d_M_remove_25 ?_
      refine gq_iload_n C d_M_remove_28 rfl ?_
      refine gq_aload_n C d_M_remove_29 rfl ?_
      refine gq_get C (g := 20) (j := 0) (ci := 8) (k := 23) (v := .ref (al Z 37 0)) (qm (by decide) (by decide)) rfl rfl in_M (by decide) w_684 rfl d_M_remove_30 ?_
      refine gq_iload_n C d_M_remove_33 rfl ?_
      refine gq_iconst C (v := 4) d_M_remove_34 (by decide) ?_
      refine gq_iadd C d_M_remove_35 ?_
      refine gq_iald C (g := 37) (j := 0) (a := (k + 4)) (t0 := 0) (qm (by decide) (by decide)) rfl rfl (nI_add k 4) (by omega) (by decide) d_M_remove_36 ?_
      refine G.eqS (st' := [.int (f (k + 4)), .int (nI k), .ref (al Z 37 0)]) (by first | (rw [show qu (qv V 20 0 22 (nI (n - 1))) 37 0 f 37 0 (k + 4) = f (k + 4) from rfl]; done) | (rw [show qu (qv V 20 0 22 (nI (n - 1))) 37 0 f 37 0 (k + 4) = f (k + 4) from rfl]; rfl)) ?_
      refine gq_iast C (fun _ h => h) (g := 37) (j := 0) (a := k) (t0 := 0) (qm (by decide) (by decide)) (fun _ => rfl) rfl rfl (by omega) (by decide) d_M_remove_37 ?_
      refine gq_iinc C (k := 0) (w := nI (k + 1)) (lo' := [(2, .int (nI (k + 1))), (0, .ref (al Z 20 0)), (1, .int (nI i))]) d_M_remove_38 rfl (nI_1 k) (by decide) rfl ?_
      refine gq_goto C (tgt := 14) d_M_remove_41 rfl ?_
      refine G.eqV (g_qu _ _ _ _ _ _) ?_
      exact ih (k + 1) _ (by omega) (by omega) hf
  refine gq_aload_n C d_M_remove_0 rfl ?_
  refine gq_dup C d_M_remove_1 rfl ?_
  refine gq_get C (g := 20) (j := 0) (ci := 8) (k := 22) (v := .int (V 20 0 22)) (qm (by decide) (by decide)) rfl rfl in_M (by decide) w_683 rfl d_M_remove_2 ?_
  refine G.eqS (st' := [.int (nI n), .ref (al Z 20 0)]) (by first | (rw [show V 20 0 22 = nI n from h22]; done) | (rw [show V 20 0 22 = nI n from h22]; rfl)) ?_
  refine gq_iconst C (v := 1) d_M_remove_5 (by decide) ?_
  refine gq_isub C d_M_remove_6 ?_
  refine G.eqS (st' := [.int (nI (n - 1)), .ref (al Z 20 0)]) (by first | (rw [show (nI n) - 1 = nI (n - 1) from (by rw [show (1 : Int32) = nI 1 from rfl, pk_sub (by omega)])]; done) | (rw [show (nI n) - 1 = nI (n - 1) from (by rw [show (1 : Int32) = nI 1 from rfl, pk_sub (by omega)])]; rfl)) ?_
  refine gq_put C (fun _ h => h) (g := 20) (j := 0) (ci := 8) (k := 22) ft_M k_M n_M (qm (by decide) (by decide)) rfl rfl in_M (by decide) w_683 rfl (k_M 22 (by decide)) rfl rfl (Nat.le_of_ble_eq_true rfl) rfl d_M_remove_7 ?_
  refine gq_iconst C (v := 4) d_M_remove_10 (by decide) ?_
  refine gq_iload_n C d_M_remove_11 rfl ?_
  refine gq_imul C d_M_remove_12 ?_
  refine G.eqS (st' := [.int (nI (4 * i))]) (by first | (rw [show 4 * (nI i) = nI (4 * i) from (by rw [show (4 : Int32) = nI 4 from rfl, pk_mul])]; done) | (rw [show 4 * (nI i) = nI (4 * i) from (by rw [show (4 : Int32) = nI 4 from rfl, pk_mul])]; rfl)) ?_
  refine gq_istore_n C (lo' := [(2, .int (nI (4 * i))), (0, .ref (al Z 20 0)), (1, .int (nI i))]) d_M_remove_13 rfl (by decide) rfl ?_
  refine G.eqV (qu_self _ 37 0).symm ?_
  exact loop (4 * (n - 1) - 4 * i) (4 * i) _ (by omega) (by omega) (g_shift_cut _ _ _ hi)
end
