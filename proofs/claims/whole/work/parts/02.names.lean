/-! names: of the class (B Basket, C Clock, D Desk, R LetterRow, N Note, L PriceList, T Till, H PriceHouse), the reference (M) and the law (W), by program out of the listing -/
def R_B : String := "PriceHouse$Basket"
def T_B : u_T := fun k => match k with
  | 0 => ("PriceHouse$Basket", "till", "I", false)
  | 1 => ("PriceHouse$Basket", "bookNumber", "I", false)
  | 2 => ("PriceHouse$Basket", "isOpen", "Z", false)
  | _ => ("PriceHouse$Basket", "pieces", "[I", true)
def ft_B : Nat → FieldType := fun k => match k with
  | 0 => .int
  | 1 => .int
  | 2 => .boolean
  | _ => .array .int
theorem n_B : ∀ a, a < 4 → ∀ b, b < 4 → a ≠ b → (T_B a).2.1 ≠ (T_B b).2.1 := by decide +kernel
theorem k_B : ∀ k, k < 4 → parseFieldDescriptor (T_B k).2.2.1 = some (ft_B k) := by decide +kernel
def R_C : String := "PriceHouse$Clock"
def T_C : u_T := fun k => match k with
  | 0 => ("PriceHouse$Clock", "hundredths", "I", false)
  | _ => ("PriceHouse$Clock", "perTick", "I", false)
def ft_C : Nat → FieldType := fun k => match k with
  | 0 => .int
  | _ => .int
theorem n_C : ∀ a, a < 2 → ∀ b, b < 2 → a ≠ b → (T_C a).2.1 ≠ (T_C b).2.1 := by decide +kernel
theorem k_C : ∀ k, k < 2 → parseFieldDescriptor (T_C k).2.2.1 = some (ft_C k) := by decide +kernel
def R_D : String := "PriceHouse$Desk"
def T_D : u_T := fun k => match k with
  | 0 => ("PriceHouse$Desk", "clock", "LPriceHouse$Clock;", true)
  | 1 => ("PriceHouse$Desk", "notes", "[LPriceHouse$Note;", true)
  | 2 => ("PriceHouse$Desk", "activeBook", "I", false)
  | 3 => ("PriceHouse$Desk", "changeTo", "I", false)
  | _ => ("PriceHouse$Desk", "waitsUntil", "I", false)
def ft_D : Nat → FieldType := fun k => match k with
  | 0 => .object "PriceHouse$Clock"
  | 1 => .array (.object "PriceHouse$Note")
  | 2 => .int
  | 3 => .int
  | _ => .int
theorem n_D : ∀ a, a < 5 → ∀ b, b < 5 → a ≠ b → (T_D a).2.1 ≠ (T_D b).2.1 := by decide +kernel
theorem k_D : ∀ k, k < 5 → parseFieldDescriptor (T_D k).2.2.1 = some (ft_D k) := by decide +kernel
def R_R : String := "PriceHouse$LetterRow"
def T_R : u_T := fun k => match k with
  | 0 => ("PriceHouse$LetterRow", "kinds", "[I", true)
  | 1 => ("PriceHouse$LetterRow", "tills", "[I", true)
  | 2 => ("PriceHouse$LetterRow", "books", "[I", true)
  | 3 => ("PriceHouse$LetterRow", "askings", "[I", true)
  | _ => ("PriceHouse$LetterRow", "count", "I", false)
def ft_R : Nat → FieldType := fun k => match k with
  | 0 => .array .int
  | 1 => .array .int
  | 2 => .array .int
  | 3 => .array .int
  | _ => .int
theorem n_R : ∀ a, a < 5 → ∀ b, b < 5 → a ≠ b → (T_R a).2.1 ≠ (T_R b).2.1 := by decide +kernel
theorem k_R : ∀ k, k < 5 → parseFieldDescriptor (T_R k).2.2.1 = some (ft_R k) := by decide +kernel
def R_N : String := "PriceHouse$Note"
def T_N : u_T := fun k => match k with
  | 0 => ("PriceHouse$Note", "knownReady", "I", false)
  | 1 => ("PriceHouse$Note", "lastAsking", "I", false)
  | 2 => ("PriceHouse$Note", "grantedBook", "I", false)
  | 3 => ("PriceHouse$Note", "grantedAt", "I", false)
  | _ => ("PriceHouse$Note", "holds", "Z", false)
def ft_N : Nat → FieldType := fun k => match k with
  | 0 => .int
  | 1 => .int
  | 2 => .int
  | 3 => .int
  | _ => .boolean
theorem n_N : ∀ a, a < 5 → ∀ b, b < 5 → a ≠ b → (T_N a).2.1 ≠ (T_N b).2.1 := by decide +kernel
theorem k_N : ∀ k, k < 5 → parseFieldDescriptor (T_N k).2.2.1 = some (ft_N k) := by decide +kernel
def R_L : String := "PriceHouse$PriceList"
def T_L : u_T := fun k => match k with
  | 0 => ("PriceHouse$PriceList", "prices", "[I", true)
  | 1 => ("PriceHouse$PriceList", "sizes", "[I", true)
  | _ => ("PriceHouse$PriceList", "costs", "[I", true)
def ft_L : Nat → FieldType := fun k => match k with
  | 0 => .array .int
  | 1 => .array .int
  | _ => .array .int
theorem n_L : ∀ a, a < 3 → ∀ b, b < 3 → a ≠ b → (T_L a).2.1 ≠ (T_L b).2.1 := by decide +kernel
theorem k_L : ∀ k, k < 3 → parseFieldDescriptor (T_L k).2.2.1 = some (ft_L k) := by decide +kernel
def R_T : String := "PriceHouse$Till"
def T_T : u_T := fun k => match k with
  | 0 => ("PriceHouse$Till", "clock", "LPriceHouse$Clock;", true)
  | 1 => ("PriceHouse$Till", "bookCount", "I", false)
  | 2 => ("PriceHouse$Till", "readyFor", "I", false)
  | 3 => ("PriceHouse$Till", "asking", "I", false)
  | 4 => ("PriceHouse$Till", "askedAt", "I", false)
  | 5 => ("PriceHouse$Till", "gaveUp", "Z", false)
  | 6 => ("PriceHouse$Till", "leasedBook", "I", false)
  | _ => ("PriceHouse$Till", "openBaskets", "I", false)
def ft_T : Nat → FieldType := fun k => match k with
  | 0 => .object "PriceHouse$Clock"
  | 1 => .int
  | 2 => .int
  | 3 => .int
  | 4 => .int
  | 5 => .boolean
  | 6 => .int
  | _ => .int
theorem n_T : ∀ a, a < 8 → ∀ b, b < 8 → a ≠ b → (T_T a).2.1 ≠ (T_T b).2.1 := by decide +kernel
theorem k_T : ∀ k, k < 8 → parseFieldDescriptor (T_T k).2.2.1 = some (ft_T k) := by decide +kernel
def R_H : String := "PriceHouse"
def T_H : u_T := fun k => match k with
  | 0 => ("PriceHouse", "draft", "LPriceHouse$PriceList;", true)
  | 1 => ("PriceHouse", "books", "[LPriceHouse$PriceList;", true)
  | 2 => ("PriceHouse", "published", "I", false)
  | 3 => ("PriceHouse", "tills", "[LPriceHouse$Till;", true)
  | 4 => ("PriceHouse", "desk", "LPriceHouse$Desk;", true)
  | 5 => ("PriceHouse", "row", "LPriceHouse$LetterRow;", true)
  | 6 => ("PriceHouse", "baskets", "[LPriceHouse$Basket;", true)
  | 7 => ("PriceHouse", "basketCount", "I", false)
  | _ => ("PriceHouse", "leastRow", "[J", true)
def ft_H : Nat → FieldType := fun k => match k with
  | 0 => .object "PriceHouse$PriceList"
  | 1 => .array (.object "PriceHouse$PriceList")
  | 2 => .int
  | 3 => .array (.object "PriceHouse$Till")
  | 4 => .object "PriceHouse$Desk"
  | 5 => .object "PriceHouse$LetterRow"
  | 6 => .array (.object "PriceHouse$Basket")
  | 7 => .int
  | _ => .array .long
theorem n_H : ∀ a, a < 9 → ∀ b, b < 9 → a ≠ b → (T_H a).2.1 ≠ (T_H b).2.1 := by decide +kernel
theorem k_H : ∀ k, k < 9 → parseFieldDescriptor (T_H k).2.2.1 = some (ft_H k) := by decide +kernel
def R_M : String := "PriceHouseModel"
def T_M : u_T := fun k => match k with
  | 0 => ("PriceHouseModel", "thrownCode", "I", false)
  | 1 => ("PriceHouseModel", "books", "I", false)
  | 2 => ("PriceHouseModel", "prices", "[I", true)
  | 3 => ("PriceHouseModel", "pieces", "[I", true)
  | 4 => ("PriceHouseModel", "cents", "[I", true)
  | 5 => ("PriceHouseModel", "hundredths", "[I", true)
  | 6 => ("PriceHouseModel", "rates", "[I", true)
  | 7 => ("PriceHouseModel", "has", "[I", true)
  | 8 => ("PriceHouseModel", "isReady", "[I", true)
  | 9 => ("PriceHouseModel", "askings", "[I", true)
  | 10 => ("PriceHouseModel", "given", "[Z", true)
  | 11 => ("PriceHouseModel", "askedAt", "[I", true)
  | 12 => ("PriceHouseModel", "leaseOf", "[I", true)
  | 13 => ("PriceHouseModel", "activeBook", "I", false)
  | 14 => ("PriceHouseModel", "change", "I", false)
  | 15 => ("PriceHouseModel", "waits", "Z", false)
  | 16 => ("PriceHouseModel", "waitsTo", "I", false)
  | 17 => ("PriceHouseModel", "noted", "[I", true)
  | 18 => ("PriceHouseModel", "holds", "[Z", true)
  | 19 => ("PriceHouseModel", "notedBook", "[I", true)
  | 20 => ("PriceHouseModel", "notedAt", "[I", true)
  | 21 => ("PriceHouseModel", "knownReady", "[I", true)
  | 22 => ("PriceHouseModel", "letters", "I", false)
  | 23 => ("PriceHouseModel", "row", "[I", true)
  | 24 => ("PriceHouseModel", "baskets", "I", false)
  | 25 => ("PriceHouseModel", "basketTill", "[I", true)
  | 26 => ("PriceHouseModel", "basketBook", "[I", true)
  | 27 => ("PriceHouseModel", "isOpen", "[Z", true)
  | 28 => ("PriceHouseModel", "count", "[I", true)
  | _ => ("PriceHouseModel", "least", "[J", true)
def ft_M : Nat → FieldType := fun k => match k with
  | 0 => .int
  | 1 => .int
  | 2 => .array .int
  | 3 => .array .int
  | 4 => .array .int
  | 5 => .array .int
  | 6 => .array .int
  | 7 => .array .int
  | 8 => .array .int
  | 9 => .array .int
  | 10 => .array .boolean
  | 11 => .array .int
  | 12 => .array .int
  | 13 => .int
  | 14 => .int
  | 15 => .boolean
  | 16 => .int
  | 17 => .array .int
  | 18 => .array .boolean
  | 19 => .array .int
  | 20 => .array .int
  | 21 => .array .int
  | 22 => .int
  | 23 => .array .int
  | 24 => .int
  | 25 => .array .int
  | 26 => .array .int
  | 27 => .array .boolean
  | 28 => .array .int
  | _ => .array .long
theorem n_M : ∀ a, a < 30 → ∀ b, b < 30 → a ≠ b → (T_M a).2.1 ≠ (T_M b).2.1 := by decide +kernel
theorem k_M : ∀ k, k < 30 → parseFieldDescriptor (T_M k).2.2.1 = some (ft_M k) := by decide +kernel
def R_W : String := "PriceHouseLaw"
abbrev qCl : List vw_C := [(R_B, T_B, 4), (R_C, T_C, 2), (R_D, T_D, 5), (R_R, T_R, 5), (R_N, T_N, 5), (R_L, T_L, 3), (R_T, T_T, 8), (R_H, T_H, 9), (R_M, T_M, 30)]
abbrev b_H_init : ByteArray := prog_1_method_1_code
abbrev y_H_init : MethodName := ⟨"PriceHouse", "<init>", "()V"⟩
abbrev b_H_article : ByteArray := prog_1_method_2_code
abbrev y_H_article : MethodName := ⟨"PriceHouse", "article", "(II)V"⟩
abbrev b_H_bundle : ByteArray := prog_1_method_3_code
abbrev y_H_bundle : MethodName := ⟨"PriceHouse", "bundle", "(IIII)V"⟩
abbrev b_H_publish : ByteArray := prog_1_method_4_code
abbrev y_H_publish : MethodName := ⟨"PriceHouse", "publish", "()I"⟩
abbrev b_H_price : ByteArray := prog_1_method_5_code
abbrev y_H_price : MethodName := ⟨"PriceHouse", "price", "(II)I"⟩
abbrev b_H_activate : ByteArray := prog_1_method_6_code
abbrev y_H_activate : MethodName := ⟨"PriceHouse", "activate", "(I)V"⟩
abbrev b_H_active : ByteArray := prog_1_method_7_code
abbrev y_H_active : MethodName := ⟨"PriceHouse", "active", "()I"⟩
abbrev b_H_tick : ByteArray := prog_1_method_8_code
abbrev y_H_tick : MethodName := ⟨"PriceHouse", "tick", "(I)I"⟩
abbrev b_H_rate : ByteArray := prog_1_method_9_code
abbrev y_H_rate : MethodName := ⟨"PriceHouse", "rate", "(II)V"⟩
abbrev b_H_fetch : ByteArray := prog_1_method_10_code
abbrev y_H_fetch : MethodName := ⟨"PriceHouse", "fetch", "(I)I"⟩
abbrev b_H_ready : ByteArray := prog_1_method_11_code
abbrev y_H_ready : MethodName := ⟨"PriceHouse", "ready", "(I)I"⟩
abbrev b_H_ask : ByteArray := prog_1_method_12_code
abbrev y_H_ask : MethodName := ⟨"PriceHouse", "ask", "(I)I"⟩
abbrev b_H_giveUp : ByteArray := prog_1_method_13_code
abbrev y_H_giveUp : MethodName := ⟨"PriceHouse", "giveUp", "(I)V"⟩
abbrev b_H_lease : ByteArray := prog_1_method_14_code
abbrev y_H_lease : MethodName := ⟨"PriceHouse", "lease", "(I)I"⟩
abbrev b_H_loaded : ByteArray := prog_1_method_15_code
abbrev y_H_loaded : MethodName := ⟨"PriceHouse", "loaded", "(I)I"⟩
abbrev b_H_restart : ByteArray := prog_1_method_16_code
abbrev y_H_restart : MethodName := ⟨"PriceHouse", "restart", "(I)V"⟩
abbrev b_H_deliver : ByteArray := prog_1_method_17_code
abbrev y_H_deliver : MethodName := ⟨"PriceHouse", "deliver", "(I)V"⟩
abbrev b_H_lose : ByteArray := prog_1_method_18_code
abbrev y_H_lose : MethodName := ⟨"PriceHouse", "lose", "(I)V"⟩
abbrev b_H_twin : ByteArray := prog_1_method_19_code
abbrev y_H_twin : MethodName := ⟨"PriceHouse", "twin", "(I)V"⟩
abbrev b_H_letter : ByteArray := prog_1_method_20_code
abbrev y_H_letter : MethodName := ⟨"PriceHouse", "letter", "(II)I"⟩
abbrev b_H_letters : ByteArray := prog_1_method_21_code
abbrev y_H_letters : MethodName := ⟨"PriceHouse", "letters", "()I"⟩
abbrev b_H_open : ByteArray := prog_1_method_22_code
abbrev y_H_open : MethodName := ⟨"PriceHouse", "open", "(I)I"⟩
abbrev b_H_scan : ByteArray := prog_1_method_23_code
abbrev y_H_scan : MethodName := ⟨"PriceHouse", "scan", "(III)I"⟩
abbrev b_H_pay : ByteArray := prog_1_method_24_code
abbrev y_H_pay : MethodName := ⟨"PriceHouse", "pay", "(I)J"⟩
abbrev b_H_book : ByteArray := prog_1_method_25_code
abbrev y_H_book : MethodName := ⟨"PriceHouse", "book", "(I)I"⟩
abbrev b_H_isArticle : ByteArray := prog_1_method_26_code
abbrev y_H_isArticle : MethodName := ⟨"PriceHouse", "isArticle", "(I)Z"⟩
abbrev b_H_isSlot : ByteArray := prog_1_method_27_code
abbrev y_H_isSlot : MethodName := ⟨"PriceHouse", "isSlot", "(I)Z"⟩
abbrev b_H_isBundleSize : ByteArray := prog_1_method_28_code
abbrev y_H_isBundleSize : MethodName := ⟨"PriceHouse", "isBundleSize", "(I)Z"⟩
abbrev b_H_isAmount : ByteArray := prog_1_method_29_code
abbrev y_H_isAmount : MethodName := ⟨"PriceHouse", "isAmount", "(I)Z"⟩
abbrev b_H_isTillOrDesk : ByteArray := prog_1_method_30_code
abbrev y_H_isTillOrDesk : MethodName := ⟨"PriceHouse", "isTillOrDesk", "(I)Z"⟩
abbrev b_H_isBook : ByteArray := prog_1_method_31_code
abbrev y_H_isBook : MethodName := ⟨"PriceHouse", "isBook", "(I)Z"⟩
abbrev b_H_isBasket : ByteArray := prog_1_method_32_code
abbrev y_H_isBasket : MethodName := ⟨"PriceHouse", "isBasket", "(I)Z"⟩
abbrev b_H_sells : ByteArray := prog_1_method_33_code
abbrev y_H_sells : MethodName := ⟨"PriceHouse", "sells", "(II)Z"⟩
abbrev b_H_checkTill : ByteArray := prog_1_method_34_code
abbrev y_H_checkTill : MethodName := ⟨"PriceHouse", "checkTill", "(I)V"⟩
abbrev b_H_checkLetter : ByteArray := prog_1_method_35_code
abbrev y_H_checkLetter : MethodName := ⟨"PriceHouse", "checkLetter", "(I)V"⟩
abbrev b_H_checkOpenBasket : ByteArray := prog_1_method_36_code
abbrev y_H_checkOpenBasket : MethodName := ⟨"PriceHouse", "checkOpenBasket", "(I)V"⟩
abbrev b_H_bringToDesk : ByteArray := prog_1_method_37_code
abbrev y_H_bringToDesk : MethodName := ⟨"PriceHouse", "bringToDesk", "(IIII)V"⟩
abbrev b_M_init : ByteArray := prog_10_method_1_code
abbrev y_M_init : MethodName := ⟨"PriceHouseModel", "<init>", "()V"⟩
abbrev b_M_clock : ByteArray := prog_10_method_2_code
abbrev y_M_clock : MethodName := ⟨"PriceHouseModel", "clock", "(I)I"⟩
abbrev b_M_post : ByteArray := prog_10_method_3_code
abbrev y_M_post : MethodName := ⟨"PriceHouseModel", "post", "(IIII)V"⟩
abbrev b_M_remove : ByteArray := prog_10_method_4_code
abbrev y_M_remove : MethodName := ⟨"PriceHouseModel", "remove", "(I)V"⟩
abbrev b_M_free : ByteArray := prog_10_method_5_code
abbrev y_M_free : MethodName := ⟨"PriceHouseModel", "free", "(I)Z"⟩
abbrev b_M_look : ByteArray := prog_10_method_6_code
abbrev y_M_look : MethodName := ⟨"PriceHouseModel", "look", "()V"⟩
abbrev b_M_asked : ByteArray := prog_10_method_7_code
abbrev y_M_asked : MethodName := ⟨"PriceHouseModel", "asked", "(II)V"⟩
abbrev b_M_comes : ByteArray := prog_10_method_8_code
abbrev y_M_comes : MethodName := ⟨"PriceHouseModel", "comes", "(IIII)V"⟩
abbrev b_M_validLease : ByteArray := prog_10_method_9_code
abbrev y_M_validLease : MethodName := ⟨"PriceHouseModel", "validLease", "(I)I"⟩
abbrev b_M_thrown : ByteArray := prog_10_method_10_code
abbrev y_M_thrown : MethodName := ⟨"PriceHouseModel", "thrown", "()I"⟩
abbrev b_M_not : ByteArray := prog_10_method_11_code
abbrev y_M_not : MethodName := ⟨"PriceHouseModel", "not", "(II)Z"⟩
abbrev b_M_article : ByteArray := prog_10_method_12_code
abbrev y_M_article : MethodName := ⟨"PriceHouseModel", "article", "(II)V"⟩
abbrev b_M_bundle : ByteArray := prog_10_method_13_code
abbrev y_M_bundle : MethodName := ⟨"PriceHouseModel", "bundle", "(IIII)V"⟩
abbrev b_M_publish : ByteArray := prog_10_method_14_code
abbrev y_M_publish : MethodName := ⟨"PriceHouseModel", "publish", "()I"⟩
abbrev b_M_activate : ByteArray := prog_10_method_15_code
abbrev y_M_activate : MethodName := ⟨"PriceHouseModel", "activate", "(I)V"⟩
abbrev b_M_active : ByteArray := prog_10_method_16_code
abbrev y_M_active : MethodName := ⟨"PriceHouseModel", "active", "()I"⟩
abbrev b_M_tick : ByteArray := prog_10_method_17_code
abbrev y_M_tick : MethodName := ⟨"PriceHouseModel", "tick", "(I)I"⟩
abbrev b_M_rate : ByteArray := prog_10_method_18_code
abbrev y_M_rate : MethodName := ⟨"PriceHouseModel", "rate", "(II)V"⟩
abbrev b_M_fetch : ByteArray := prog_10_method_19_code
abbrev y_M_fetch : MethodName := ⟨"PriceHouseModel", "fetch", "(I)I"⟩
abbrev b_M_ready : ByteArray := prog_10_method_20_code
abbrev y_M_ready : MethodName := ⟨"PriceHouseModel", "ready", "(I)I"⟩
abbrev b_M_ask : ByteArray := prog_10_method_21_code
abbrev y_M_ask : MethodName := ⟨"PriceHouseModel", "ask", "(I)I"⟩
abbrev b_M_giveUp : ByteArray := prog_10_method_22_code
abbrev y_M_giveUp : MethodName := ⟨"PriceHouseModel", "giveUp", "(I)V"⟩
abbrev b_M_lease : ByteArray := prog_10_method_23_code
abbrev y_M_lease : MethodName := ⟨"PriceHouseModel", "lease", "(I)I"⟩
abbrev b_M_loaded : ByteArray := prog_10_method_24_code
abbrev y_M_loaded : MethodName := ⟨"PriceHouseModel", "loaded", "(I)I"⟩
abbrev b_M_deliver : ByteArray := prog_10_method_25_code
abbrev y_M_deliver : MethodName := ⟨"PriceHouseModel", "deliver", "(I)V"⟩
abbrev b_M_lose : ByteArray := prog_10_method_26_code
abbrev y_M_lose : MethodName := ⟨"PriceHouseModel", "lose", "(I)V"⟩
abbrev b_M_twin : ByteArray := prog_10_method_27_code
abbrev y_M_twin : MethodName := ⟨"PriceHouseModel", "twin", "(I)V"⟩
abbrev b_M_letter : ByteArray := prog_10_method_28_code
abbrev y_M_letter : MethodName := ⟨"PriceHouseModel", "letter", "(II)I"⟩
abbrev b_M_letters : ByteArray := prog_10_method_29_code
abbrev y_M_letters : MethodName := ⟨"PriceHouseModel", "letters", "()I"⟩
abbrev b_M_open : ByteArray := prog_10_method_30_code
abbrev y_M_open : MethodName := ⟨"PriceHouseModel", "open", "(I)I"⟩
abbrev b_M_noOpen : ByteArray := prog_10_method_31_code
abbrev y_M_noOpen : MethodName := ⟨"PriceHouseModel", "noOpen", "(I)Z"⟩
abbrev b_M_scan : ByteArray := prog_10_method_32_code
abbrev y_M_scan : MethodName := ⟨"PriceHouseModel", "scan", "(III)I"⟩
abbrev b_M_cheapest : ByteArray := prog_10_method_33_code
abbrev y_M_cheapest : MethodName := ⟨"PriceHouseModel", "cheapest", "(III)J"⟩
abbrev b_M_pay : ByteArray := prog_10_method_34_code
abbrev y_M_pay : MethodName := ⟨"PriceHouseModel", "pay", "(I)J"⟩
abbrev b_M_book : ByteArray := prog_10_method_35_code
abbrev y_M_book : MethodName := ⟨"PriceHouseModel", "book", "(I)I"⟩
abbrev b_M_price : ByteArray := prog_10_method_36_code
abbrev y_M_price : MethodName := ⟨"PriceHouseModel", "price", "(II)I"⟩
abbrev b_M_restart : ByteArray := prog_10_method_37_code
abbrev y_M_restart : MethodName := ⟨"PriceHouseModel", "restart", "(I)V"⟩
abbrev b_B_init : ByteArray := prog_2_method_1_code
abbrev y_B_init : MethodName := ⟨"PriceHouse$Basket", "<init>", "()V"⟩
abbrev b_B_begin : ByteArray := prog_2_method_2_code
abbrev y_B_begin : MethodName := ⟨"PriceHouse$Basket", "begin", "(II)V"⟩
abbrev b_C_init : ByteArray := prog_3_method_1_code
abbrev y_C_init : MethodName := ⟨"PriceHouse$Clock", "<init>", "()V"⟩
abbrev b_C_go : ByteArray := prog_3_method_2_code
abbrev y_C_go : MethodName := ⟨"PriceHouse$Clock", "go", "(I)V"⟩
abbrev b_C_shown : ByteArray := prog_3_method_3_code
abbrev y_C_shown : MethodName := ⟨"PriceHouse$Clock", "shown", "()I"⟩
abbrev b_D_init : ByteArray := prog_4_method_1_code
abbrev y_D_init : MethodName := ⟨"PriceHouse$Desk", "<init>", "()V"⟩
abbrev b_D_waits : ByteArray := prog_4_method_2_code
abbrev y_D_waits : MethodName := ⟨"PriceHouse$Desk", "waits", "()Z"⟩
abbrev b_D_forgetAndWait : ByteArray := prog_4_method_3_code
abbrev y_D_forgetAndWait : MethodName := ⟨"PriceHouse$Desk", "forgetAndWait", "()V"⟩
abbrev b_D_grant : ByteArray := prog_4_method_4_code
abbrev y_D_grant : MethodName := ⟨"PriceHouse$Desk", "grant", "(II)I"⟩
abbrev b_D_bookFor : ByteArray := prog_4_method_5_code
abbrev y_D_bookFor : MethodName := ⟨"PriceHouse$Desk", "bookFor", "(LPriceHouse$Note;)I"⟩
abbrev b_D_lookAtChange : ByteArray := prog_4_method_6_code
abbrev y_D_lookAtChange : MethodName := ⟨"PriceHouse$Desk", "lookAtChange", "()V"⟩
abbrev b_R_init : ByteArray := prog_5_method_1_code
abbrev y_R_init : MethodName := ⟨"PriceHouse$LetterRow", "<init>", "()V"⟩
abbrev b_R_isFull : ByteArray := prog_5_method_2_code
abbrev y_R_isFull : MethodName := ⟨"PriceHouse$LetterRow", "isFull", "()Z"⟩
abbrev b_R_post : ByteArray := prog_5_method_3_code
abbrev y_R_post : MethodName := ⟨"PriceHouse$LetterRow", "post", "(IIII)V"⟩
abbrev b_R_takeOut : ByteArray := prog_5_method_4_code
abbrev y_R_takeOut : MethodName := ⟨"PriceHouse$LetterRow", "takeOut", "(I)V"⟩
abbrev b_N_init : ByteArray := prog_6_method_1_code
abbrev y_N_init : MethodName := ⟨"PriceHouse$Note", "<init>", "()V"⟩
abbrev b_N_forget : ByteArray := prog_6_method_2_code
abbrev y_N_forget : MethodName := ⟨"PriceHouse$Note", "forget", "()V"⟩
abbrev b_N_noteReady : ByteArray := prog_6_method_3_code
abbrev y_N_noteReady : MethodName := ⟨"PriceHouse$Note", "noteReady", "(I)V"⟩
abbrev b_N_noteGrant : ByteArray := prog_6_method_4_code
abbrev y_N_noteGrant : MethodName := ⟨"PriceHouse$Note", "noteGrant", "(III)V"⟩
abbrev b_N_noteGiven : ByteArray := prog_6_method_5_code
abbrev y_N_noteGiven : MethodName := ⟨"PriceHouse$Note", "noteGiven", "(I)V"⟩
abbrev b_N_allows : ByteArray := prog_6_method_6_code
abbrev y_N_allows : MethodName := ⟨"PriceHouse$Note", "allows", "(II)Z"⟩
abbrev b_L_init : ByteArray := prog_7_method_1_code
abbrev y_L_init : MethodName := ⟨"PriceHouse$PriceList", "<init>", "()V"⟩
abbrev b_L_copyFrom : ByteArray := prog_7_method_2_code
abbrev y_L_copyFrom : MethodName := ⟨"PriceHouse$PriceList", "copyFrom", "(LPriceHouse$PriceList;)V"⟩
abbrev b_L_leastFor : ByteArray := prog_7_method_3_code
abbrev y_L_leastFor : MethodName := ⟨"PriceHouse$PriceList", "leastFor", "(II[J)J"⟩
abbrev b_T_init : ByteArray := prog_8_method_1_code
abbrev y_T_init : MethodName := ⟨"PriceHouse$Till", "<init>", "()V"⟩
abbrev b_T_takeBook : ByteArray := prog_8_method_2_code
abbrev y_T_takeBook : MethodName := ⟨"PriceHouse$Till", "takeBook", "(I)V"⟩
abbrev b_T_beginAsking : ByteArray := prog_8_method_3_code
abbrev y_T_beginAsking : MethodName := ⟨"PriceHouse$Till", "beginAsking", "()I"⟩
abbrev b_T_endAsking : ByteArray := prog_8_method_4_code
abbrev y_T_endAsking : MethodName := ⟨"PriceHouse$Till", "endAsking", "()V"⟩
abbrev b_T_takeGrant : ByteArray := prog_8_method_5_code
abbrev y_T_takeGrant : MethodName := ⟨"PriceHouse$Till", "takeGrant", "(II)V"⟩
abbrev b_T_validLease : ByteArray := prog_8_method_6_code
abbrev y_T_validLease : MethodName := ⟨"PriceHouse$Till", "validLease", "()I"⟩
abbrev b_W_article : ByteArray := method_3_code
abbrev y_W_article : MethodName := ⟨"PriceHouseLaw", "article", "(LPriceHouse;II)I"⟩
abbrev b_W_bundle : ByteArray := method_4_code
abbrev y_W_bundle : MethodName := ⟨"PriceHouseLaw", "bundle", "(LPriceHouse;IIII)I"⟩
abbrev b_W_publish : ByteArray := method_5_code
abbrev y_W_publish : MethodName := ⟨"PriceHouseLaw", "publish", "(LPriceHouse;[J)I"⟩
abbrev b_W_activate : ByteArray := method_6_code
abbrev y_W_activate : MethodName := ⟨"PriceHouseLaw", "activate", "(LPriceHouse;I)I"⟩
abbrev b_W_tick : ByteArray := method_7_code
abbrev y_W_tick : MethodName := ⟨"PriceHouseLaw", "tick", "(LPriceHouse;I[J)I"⟩
abbrev b_W_rate : ByteArray := method_8_code
abbrev y_W_rate : MethodName := ⟨"PriceHouseLaw", "rate", "(LPriceHouse;II)I"⟩
abbrev b_W_fetch : ByteArray := method_9_code
abbrev y_W_fetch : MethodName := ⟨"PriceHouseLaw", "fetch", "(LPriceHouse;I[J)I"⟩
abbrev b_W_ready : ByteArray := method_10_code
abbrev y_W_ready : MethodName := ⟨"PriceHouseLaw", "ready", "(LPriceHouse;I[J)I"⟩
abbrev b_W_ask : ByteArray := method_11_code
abbrev y_W_ask : MethodName := ⟨"PriceHouseLaw", "ask", "(LPriceHouse;I[J)I"⟩
abbrev b_W_giveUp : ByteArray := method_12_code
abbrev y_W_giveUp : MethodName := ⟨"PriceHouseLaw", "giveUp", "(LPriceHouse;I)I"⟩
abbrev b_W_lease : ByteArray := method_13_code
abbrev y_W_lease : MethodName := ⟨"PriceHouseLaw", "lease", "(LPriceHouse;I[J)I"⟩
abbrev b_W_loaded : ByteArray := method_14_code
abbrev y_W_loaded : MethodName := ⟨"PriceHouseLaw", "loaded", "(LPriceHouse;I[J)I"⟩
abbrev b_W_deliver : ByteArray := method_15_code
abbrev y_W_deliver : MethodName := ⟨"PriceHouseLaw", "deliver", "(LPriceHouse;I)I"⟩
abbrev b_W_lose : ByteArray := method_16_code
abbrev y_W_lose : MethodName := ⟨"PriceHouseLaw", "lose", "(LPriceHouse;I)I"⟩
abbrev b_W_twin : ByteArray := method_17_code
abbrev y_W_twin : MethodName := ⟨"PriceHouseLaw", "twin", "(LPriceHouse;I)I"⟩
abbrev b_W_letter : ByteArray := method_18_code
abbrev y_W_letter : MethodName := ⟨"PriceHouseLaw", "letter", "(LPriceHouse;II[J)I"⟩
abbrev b_W_open : ByteArray := method_19_code
abbrev y_W_open : MethodName := ⟨"PriceHouseLaw", "open", "(LPriceHouse;I[J)I"⟩
abbrev b_W_scan : ByteArray := method_20_code
abbrev y_W_scan : MethodName := ⟨"PriceHouseLaw", "scan", "(LPriceHouse;III[J)I"⟩
abbrev b_W_pay : ByteArray := method_21_code
abbrev y_W_pay : MethodName := ⟨"PriceHouseLaw", "pay", "(LPriceHouse;I[J)I"⟩
abbrev b_W_book : ByteArray := method_22_code
abbrev y_W_book : MethodName := ⟨"PriceHouseLaw", "book", "(LPriceHouse;I[J)I"⟩
abbrev b_W_price : ByteArray := method_23_code
abbrev y_W_price : MethodName := ⟨"PriceHouseLaw", "price", "(LPriceHouse;II[J)I"⟩
abbrev b_W_restart : ByteArray := method_24_code
abbrev y_W_restart : MethodName := ⟨"PriceHouseLaw", "restart", "(LPriceHouse;I)I"⟩
/-! the tables' words that hold at every later state too -/
def qgw : Cond → Bool
  | .castable _ _ => true
  | .not (.castable _ _) => true
  | .declares _ => true
  | w => goodWord w
def qNo : List Cond := [.not (.castable "java/lang/IllegalArgumentException" "java/lang/IllegalStateException"), .not (.castable "java/lang/IllegalArgumentException" "java/lang/IndexOutOfBoundsException"), .not (.castable "java/lang/IllegalArgumentException" "java/util/NoSuchElementException"), .not (.castable "java/lang/IllegalStateException" "java/lang/IllegalArgumentException"), .not (.castable "java/lang/IllegalStateException" "java/lang/IndexOutOfBoundsException"), .not (.castable "java/lang/IllegalStateException" "java/util/NoSuchElementException"), .not (.castable "java/lang/IndexOutOfBoundsException" "java/lang/IllegalArgumentException"), .not (.castable "java/lang/IndexOutOfBoundsException" "java/lang/IllegalStateException"), .not (.castable "java/lang/IndexOutOfBoundsException" "java/util/NoSuchElementException"), .not (.castable "java/util/NoSuchElementException" "java/lang/IllegalArgumentException"), .not (.castable "java/util/NoSuchElementException" "java/lang/IllegalStateException"), .not (.castable "java/util/NoSuchElementException" "java/lang/IndexOutOfBoundsException")]
def QT : List Cond := lw_tbl.filter qgw ++ qNo
theorem q_in {w : Cond} (i : Nat) (h : tables_1[i]? = some w) (hg : qgw w = true) : w ∈ QT := List.mem_append_left _ (List.mem_filter.mpr ⟨List.mem_append_right _ (List.mem_of_getElem? h), hg⟩)
theorem q_sel {w : Cond} (i : Nat) (h : (k2_sels lw_privs)[i]? = some w) (hg : qgw w = true) : w ∈ QT := List.mem_append_left _ (List.mem_filter.mpr ⟨List.mem_append_left _ (List.mem_of_getElem? h), hg⟩)
theorem q_no {w : Cond} (i : Nat) (h : qNo[i]? = some w) : w ∈ QT := List.mem_append_right _ (List.mem_of_getElem? h)
theorem QT_qgw : ∀ w ∈ QT, qgw w = true := fun w h => (List.mem_append.mp h).elim (fun h => (List.mem_filter.mp h).2) (fun h => List.all_eq_true.mp (by decide +kernel : qNo.all qgw = true) w h)
theorem qgw_at {args a' : Array Value} {s U : State} (hW : s.WarmedH U.vm) {c : Cond} (hg : qgw c = true) (h : c.before args s = true) : c.before a' U = true := by
  unfold qgw at hg
  split at hg
  · simp only [Cond.before, Cond.holds, Cond.value, hW.alike.findClass, hW.alike.assignable] at h ⊢
    exact h
  · simp only [Cond.before, Cond.holds, Cond.value, hW.alike.findClass, hW.alike.assignable] at h ⊢
    exact h
  · exact va_tabs rfl (rfl : (s.setVm U.vm).vm = U.vm) (by rw [Cond.declares_setVm hW.alike]; exact h)
  · exact word_at hW (good_of_word hg) h
theorem QT_at {args a' : Array Value} {s U : State} (hW : s.WarmedH U.vm) (hts : ∀ w ∈ QT, w.before args s = true) : ∀ w ∈ QT, w.before a' U = true := fun w h => qgw_at hW (QT_qgw w h) (hts w h)
theorem in_B : ∀ w ∈ u_ws R_B T_B 4, w ∈ QT := List.forall_mem_cons.mpr ⟨q_in 194 (by decide +kernel) rfl, List.forall_mem_cons.mpr ⟨q_in 196 (by decide +kernel) rfl, List.forall_mem_cons.mpr ⟨q_in 198 (by decide +kernel) rfl, List.forall_mem_cons.mpr ⟨q_in 200 (by decide +kernel) rfl, fun _ h => absurd h List.not_mem_nil⟩⟩⟩⟩
theorem in_C : ∀ w ∈ u_ws R_C T_C 2, w ∈ QT := List.forall_mem_cons.mpr ⟨q_in 64 (by decide +kernel) rfl, List.forall_mem_cons.mpr ⟨q_in 66 (by decide +kernel) rfl, fun _ h => absurd h List.not_mem_nil⟩⟩
theorem in_D : ∀ w ∈ u_ws R_D T_D 5, w ∈ QT := List.forall_mem_cons.mpr ⟨q_in 141 (by decide +kernel) rfl, List.forall_mem_cons.mpr ⟨q_in 143 (by decide +kernel) rfl, List.forall_mem_cons.mpr ⟨q_in 145 (by decide +kernel) rfl, List.forall_mem_cons.mpr ⟨q_in 147 (by decide +kernel) rfl, List.forall_mem_cons.mpr ⟨q_in 149 (by decide +kernel) rfl, fun _ h => absurd h List.not_mem_nil⟩⟩⟩⟩⟩
theorem in_R : ∀ w ∈ u_ws R_R T_R 5, w ∈ QT := List.forall_mem_cons.mpr ⟨q_in 168 (by decide +kernel) rfl, List.forall_mem_cons.mpr ⟨q_in 170 (by decide +kernel) rfl, List.forall_mem_cons.mpr ⟨q_in 172 (by decide +kernel) rfl, List.forall_mem_cons.mpr ⟨q_in 174 (by decide +kernel) rfl, List.forall_mem_cons.mpr ⟨q_in 176 (by decide +kernel) rfl, fun _ h => absurd h List.not_mem_nil⟩⟩⟩⟩⟩
theorem in_N : ∀ w ∈ u_ws R_N T_N 5, w ∈ QT := List.forall_mem_cons.mpr ⟨q_in 121 (by decide +kernel) rfl, List.forall_mem_cons.mpr ⟨q_in 123 (by decide +kernel) rfl, List.forall_mem_cons.mpr ⟨q_in 125 (by decide +kernel) rfl, List.forall_mem_cons.mpr ⟨q_in 127 (by decide +kernel) rfl, List.forall_mem_cons.mpr ⟨q_in 129 (by decide +kernel) rfl, fun _ h => absurd h List.not_mem_nil⟩⟩⟩⟩⟩
theorem in_L : ∀ w ∈ u_ws R_L T_L 3, w ∈ QT := List.forall_mem_cons.mpr ⟨q_in 39 (by decide +kernel) rfl, List.forall_mem_cons.mpr ⟨q_in 41 (by decide +kernel) rfl, List.forall_mem_cons.mpr ⟨q_in 43 (by decide +kernel) rfl, fun _ h => absurd h List.not_mem_nil⟩⟩⟩
theorem in_T : ∀ w ∈ u_ws R_T T_T 8, w ∈ QT := List.forall_mem_cons.mpr ⟨q_in 82 (by decide +kernel) rfl, List.forall_mem_cons.mpr ⟨q_in 84 (by decide +kernel) rfl, List.forall_mem_cons.mpr ⟨q_in 86 (by decide +kernel) rfl, List.forall_mem_cons.mpr ⟨q_in 88 (by decide +kernel) rfl, List.forall_mem_cons.mpr ⟨q_in 90 (by decide +kernel) rfl, List.forall_mem_cons.mpr ⟨q_in 92 (by decide +kernel) rfl, List.forall_mem_cons.mpr ⟨q_in 94 (by decide +kernel) rfl, List.forall_mem_cons.mpr ⟨q_in 96 (by decide +kernel) rfl, fun _ h => absurd h List.not_mem_nil⟩⟩⟩⟩⟩⟩⟩⟩
theorem in_H : ∀ w ∈ u_ws R_H T_H 9, w ∈ QT := List.forall_mem_cons.mpr ⟨q_in 212 (by decide +kernel) rfl, List.forall_mem_cons.mpr ⟨q_in 214 (by decide +kernel) rfl, List.forall_mem_cons.mpr ⟨q_in 216 (by decide +kernel) rfl, List.forall_mem_cons.mpr ⟨q_in 218 (by decide +kernel) rfl, List.forall_mem_cons.mpr ⟨q_in 220 (by decide +kernel) rfl, List.forall_mem_cons.mpr ⟨q_in 222 (by decide +kernel) rfl, List.forall_mem_cons.mpr ⟨q_in 224 (by decide +kernel) rfl, List.forall_mem_cons.mpr ⟨q_in 226 (by decide +kernel) rfl, List.forall_mem_cons.mpr ⟨q_in 228 (by decide +kernel) rfl, fun _ h => absurd h List.not_mem_nil⟩⟩⟩⟩⟩⟩⟩⟩⟩
theorem in_M : ∀ w ∈ u_ws R_M T_M 30, w ∈ QT := List.forall_mem_cons.mpr ⟨q_in 691 (by decide +kernel) rfl, List.forall_mem_cons.mpr ⟨q_in 693 (by decide +kernel) rfl, List.forall_mem_cons.mpr ⟨q_in 695 (by decide +kernel) rfl, List.forall_mem_cons.mpr ⟨q_in 697 (by decide +kernel) rfl, List.forall_mem_cons.mpr ⟨q_in 699 (by decide +kernel) rfl, List.forall_mem_cons.mpr ⟨q_in 701 (by decide +kernel) rfl, List.forall_mem_cons.mpr ⟨q_in 703 (by decide +kernel) rfl, List.forall_mem_cons.mpr ⟨q_in 705 (by decide +kernel) rfl, List.forall_mem_cons.mpr ⟨q_in 707 (by decide +kernel) rfl, List.forall_mem_cons.mpr ⟨q_in 709 (by decide +kernel) rfl, List.forall_mem_cons.mpr ⟨q_in 711 (by decide +kernel) rfl, List.forall_mem_cons.mpr ⟨q_in 713 (by decide +kernel) rfl, List.forall_mem_cons.mpr ⟨q_in 715 (by decide +kernel) rfl, List.forall_mem_cons.mpr ⟨q_in 717 (by decide +kernel) rfl, List.forall_mem_cons.mpr ⟨q_in 719 (by decide +kernel) rfl, List.forall_mem_cons.mpr ⟨q_in 721 (by decide +kernel) rfl, List.forall_mem_cons.mpr ⟨q_in 723 (by decide +kernel) rfl, List.forall_mem_cons.mpr ⟨q_in 725 (by decide +kernel) rfl, List.forall_mem_cons.mpr ⟨q_in 727 (by decide +kernel) rfl, List.forall_mem_cons.mpr ⟨q_in 729 (by decide +kernel) rfl, List.forall_mem_cons.mpr ⟨q_in 731 (by decide +kernel) rfl, List.forall_mem_cons.mpr ⟨q_in 733 (by decide +kernel) rfl, List.forall_mem_cons.mpr ⟨q_in 735 (by decide +kernel) rfl, List.forall_mem_cons.mpr ⟨q_in 737 (by decide +kernel) rfl, List.forall_mem_cons.mpr ⟨q_in 739 (by decide +kernel) rfl, List.forall_mem_cons.mpr ⟨q_in 741 (by decide +kernel) rfl, List.forall_mem_cons.mpr ⟨q_in 743 (by decide +kernel) rfl, List.forall_mem_cons.mpr ⟨q_in 745 (by decide +kernel) rfl, List.forall_mem_cons.mpr ⟨q_in 747 (by decide +kernel) rfl, List.forall_mem_cons.mpr ⟨q_in 749 (by decide +kernel) rfl, fun _ h => absurd h List.not_mem_nil⟩⟩⟩⟩⟩⟩⟩⟩⟩⟩⟩⟩⟩⟩⟩⟩⟩⟩⟩⟩⟩⟩⟩⟩⟩⟩⟩⟩⟩⟩
