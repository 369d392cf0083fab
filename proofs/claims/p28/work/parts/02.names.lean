/-! ===== BEGIN printed: names, fields, word lists, decode rows ===== -/
def RX0 : String := "ShopPaymaster$Land"
def TX0 : u_T := fun k => match k with
  | 0 => ("ShopPaymaster$Land", "number", "I", true)
  | 1 => ("ShopPaymaster$Land", "rate", "I", false)
  | 2 => ("ShopPaymaster$Land", "isHeld", "Z", false)
  | _ => ("ShopPaymaster$Land", "heldSum", "I", false)
def tyX0 : Nat → FieldType := fun k => match k with
  | 0 => .int
  | 1 => .int
  | 2 => .boolean
  | _ => .int
abbrev wsX00 : List Cond := u_ws RX0 TX0 4
theorem nmX0 : ∀ a, a < 4 → ∀ b, b < 4 → a ≠ b → (TX0 a).2.1 ≠ (TX0 b).2.1 := by decide +kernel
theorem tyX0_ok : ∀ k, k < 4 → parseFieldDescriptor (TX0 k).2.2.1 = some (tyX0 k) := by decide +kernel
abbrev cX0_init : ByteArray := prog_2_method_1_code
def yX0_init : MethodName := ⟨RX0, "<init>", "(I)V"⟩
abbrev cX0_taxIn : ByteArray := prog_2_method_2_code
def yX0_taxIn : MethodName := ⟨RX0, "taxIn", "(I)I"⟩
def RX1 : String := "ShopPaymaster$Maker"
def TX1 : u_T := fun k => match k with
  | 0 => ("ShopPaymaster$Maker", "threshold", "I", true)
  | 1 => ("ShopPaymaster$Maker", "payouts", "[I", true)
  | 2 => ("ShopPaymaster$Maker", "carriedSum", "I", false)
  | 3 => ("ShopPaymaster$Maker", "partsOfMonth", "I", false)
  | _ => ("ShopPaymaster$Maker", "netsOfYear", "I", false)
def tyX1 : Nat → FieldType := fun k => match k with
  | 0 => .int
  | 1 => .array .int
  | 2 => .int
  | 3 => .int
  | _ => .int
abbrev wsX10 : List Cond := u_ws RX1 TX1 5
theorem nmX1 : ∀ a, a < 5 → ∀ b, b < 5 → a ≠ b → (TX1 a).2.1 ≠ (TX1 b).2.1 := by decide +kernel
theorem tyX1_ok : ∀ k, k < 5 → parseFieldDescriptor (TX1 k).2.2.1 = some (tyX1 k) := by decide +kernel
abbrev cX1_init : ByteArray := prog_3_method_1_code
def yX1_init : MethodName := ⟨RX1, "<init>", "(I)V"⟩
abbrev cX1_currentBalance : ByteArray := prog_3_method_2_code
def yX1_currentBalance : MethodName := ⟨RX1, "currentBalance", "()I"⟩
abbrev cX1_settle : ByteArray := prog_3_method_3_code
def yX1_settle : MethodName := ⟨RX1, "settle", "(I)V"⟩
abbrev cX1_payoutOf : ByteArray := prog_3_method_4_code
def yX1_payoutOf : MethodName := ⟨RX1, "payoutOf", "(I)I"⟩
def RX2 : String := "ShopPaymaster$Product"
def TX2 : u_T := fun k => match k with
  | 0 => ("ShopPaymaster$Product", "number", "I", true)
  | 1 => ("ShopPaymaster$Product", "maker", "LShopPaymaster$Maker;", true)
  | _ => ("ShopPaymaster$Product", "prices", "[I", true)
def tyX2 : Nat → FieldType := fun k => match k with
  | 0 => .int
  | 1 => .object "ShopPaymaster$Maker"
  | _ => .array .int
abbrev wsX20 : List Cond := u_ws RX2 TX2 3
theorem nmX2 : ∀ a, a < 3 → ∀ b, b < 3 → a ≠ b → (TX2 a).2.1 ≠ (TX2 b).2.1 := by decide +kernel
theorem tyX2_ok : ∀ k, k < 3 → parseFieldDescriptor (TX2 k).2.2.1 = some (tyX2 k) := by decide +kernel
abbrev cX2_init : ByteArray := prog_4_method_1_code
def yX2_init : MethodName := ⟨RX2, "<init>", "(ILShopPaymaster$Maker;I)V"⟩
abbrev cX2_priceIn : ByteArray := prog_4_method_2_code
def yX2_priceIn : MethodName := ⟨RX2, "priceIn", "(LShopPaymaster$Land;)I"⟩
abbrev cX2_changePrice : ByteArray := prog_4_method_3_code
def yX2_changePrice : MethodName := ⟨RX2, "changePrice", "(LShopPaymaster$Land;I)I"⟩
def RX3 : String := "ShopPaymaster$Sale"
def TX3 : u_T := fun k => match k with
  | 0 => ("ShopPaymaster$Sale", "maker", "LShopPaymaster$Maker;", true)
  | 1 => ("ShopPaymaster$Sale", "land", "LShopPaymaster$Land;", true)
  | 2 => ("ShopPaymaster$Sale", "month", "I", true)
  | 3 => ("ShopPaymaster$Sale", "paid", "I", true)
  | 4 => ("ShopPaymaster$Sale", "tax", "I", true)
  | 5 => ("ShopPaymaster$Sale", "share", "I", true)
  | 6 => ("ShopPaymaster$Sale", "part", "I", true)
  | 7 => ("ShopPaymaster$Sale", "isTaxHeld", "Z", true)
  | _ => ("ShopPaymaster$Sale", "isRefunded", "Z", false)
def tyX3 : Nat → FieldType := fun k => match k with
  | 0 => .object "ShopPaymaster$Maker"
  | 1 => .object "ShopPaymaster$Land"
  | 2 => .int
  | 3 => .int
  | 4 => .int
  | 5 => .int
  | 6 => .int
  | 7 => .boolean
  | _ => .boolean
abbrev wsX30 : List Cond := u_ws RX3 TX3 9
theorem nmX3 : ∀ a, a < 9 → ∀ b, b < 9 → a ≠ b → (TX3 a).2.1 ≠ (TX3 b).2.1 := by decide +kernel
theorem tyX3_ok : ∀ k, k < 9 → parseFieldDescriptor (TX3 k).2.2.1 = some (tyX3 k) := by decide +kernel
abbrev cX3_init : ByteArray := prog_5_method_1_code
def yX3_init : MethodName := ⟨RX3, "<init>", "(LShopPaymaster$Maker;LShopPaymaster$Land;III)V"⟩
def RX4 : String := "ShopPaymaster$Subscription"
def TX4 : u_T := fun k => match k with
  | 0 => ("ShopPaymaster$Subscription", "land", "LShopPaymaster$Land;", true)
  | 1 => ("ShopPaymaster$Subscription", "isFirstHalf", "Z", true)
  | 2 => ("ShopPaymaster$Subscription", "product", "LShopPaymaster$Product;", false)
  | 3 => ("ShopPaymaster$Subscription", "isFailing", "Z", false)
  | 4 => ("ShopPaymaster$Subscription", "failures", "I", false)
  | 5 => ("ShopPaymaster$Subscription", "paymentsMade", "I", false)
  | _ => ("ShopPaymaster$Subscription", "nextDay", "I", false)
def tyX4 : Nat → FieldType := fun k => match k with
  | 0 => .object "ShopPaymaster$Land"
  | 1 => .boolean
  | 2 => .object "ShopPaymaster$Product"
  | 3 => .boolean
  | 4 => .int
  | 5 => .int
  | _ => .int
abbrev wsX40 : List Cond := u_ws RX4 TX4 7
theorem nmX4 : ∀ a, a < 7 → ∀ b, b < 7 → a ≠ b → (TX4 a).2.1 ≠ (TX4 b).2.1 := by decide +kernel
theorem tyX4_ok : ∀ k, k < 7 → parseFieldDescriptor (TX4 k).2.2.1 = some (tyX4 k) := by decide +kernel
abbrev cX4_init : ByteArray := prog_6_method_1_code
def yX4_init : MethodName := ⟨RX4, "<init>", "(LShopPaymaster$Product;LShopPaymaster$Land;IZ)V"⟩
abbrev cX4_isEnded : ByteArray := prog_6_method_2_code
def yX4_isEnded : MethodName := ⟨RX4, "isEnded", "()Z"⟩
abbrev cX4_end : ByteArray := prog_6_method_3_code
def yX4_end : MethodName := ⟨RX4, "end", "()V"⟩
abbrev cX4_priceOfNext : ByteArray := prog_6_method_4_code
def yX4_priceOfNext : MethodName := ⟨RX4, "priceOfNext", "()I"⟩
abbrev cX4_countPayment : ByteArray := prog_6_method_5_code
def yX4_countPayment : MethodName := ⟨RX4, "countPayment", "(I)V"⟩
abbrev cX4_fail : ByteArray := prog_6_method_6_code
def yX4_fail : MethodName := ⟨RX4, "fail", "()V"⟩
def RX5 : String := "ShopPaymaster"
def TX5 : u_T := fun k => match k with
  | 0 => ("ShopPaymaster", "lands", "[LShopPaymaster$Land;", true)
  | 1 => ("ShopPaymaster", "makers", "Ljava/util/ArrayList;", true)
  | 2 => ("ShopPaymaster", "products", "Ljava/util/ArrayList;", true)
  | 3 => ("ShopPaymaster", "sales", "Ljava/util/ArrayList;", true)
  | 4 => ("ShopPaymaster", "subscriptions", "Ljava/util/ArrayList;", true)
  | 5 => ("ShopPaymaster", "day", "I", false)
  | 6 => ("ShopPaymaster", "shopSum", "I", false)
  | _ => ("ShopPaymaster", "takingsSum", "I", false)
def tyX5 : Nat → FieldType := fun k => match k with
  | 0 => .array (.object "ShopPaymaster$Land")
  | 1 => .object "java/util/ArrayList"
  | 2 => .object "java/util/ArrayList"
  | 3 => .object "java/util/ArrayList"
  | 4 => .object "java/util/ArrayList"
  | 5 => .int
  | 6 => .int
  | _ => .int
abbrev wsX50 : List Cond := u_ws RX5 TX5 8
theorem nmX5 : ∀ a, a < 8 → ∀ b, b < 8 → a ≠ b → (TX5 a).2.1 ≠ (TX5 b).2.1 := by decide +kernel
theorem tyX5_ok : ∀ k, k < 8 → parseFieldDescriptor (TX5 k).2.2.1 = some (tyX5 k) := by decide +kernel
abbrev cX5_init : ByteArray := prog_1_method_1_code
def yX5_init : MethodName := ⟨RX5, "<init>", "()V"⟩
abbrev cX5_setTax : ByteArray := prog_1_method_2_code
def yX5_setTax : MethodName := ⟨RX5, "setTax", "(IIZ)I"⟩
abbrev cX5_addMaker : ByteArray := prog_1_method_3_code
def yX5_addMaker : MethodName := ⟨RX5, "addMaker", "(I)I"⟩
abbrev cX5_addProduct : ByteArray := prog_1_method_4_code
def yX5_addProduct : MethodName := ⟨RX5, "addProduct", "(II)I"⟩
abbrev cX5_setPrice : ByteArray := prog_1_method_5_code
def yX5_setPrice : MethodName := ⟨RX5, "setPrice", "(III)I"⟩
abbrev cX5_buy : ByteArray := prog_1_method_6_code
def yX5_buy : MethodName := ⟨RX5, "buy", "(II)I"⟩
abbrev cX5_refund : ByteArray := prog_1_method_7_code
def yX5_refund : MethodName := ⟨RX5, "refund", "(I)I"⟩
abbrev cX5_sales : ByteArray := prog_1_method_8_code
def yX5_sales : MethodName := ⟨RX5, "sales", "()I"⟩
abbrev cX5_paid : ByteArray := prog_1_method_9_code
def yX5_paid : MethodName := ⟨RX5, "paid", "(I)I"⟩
abbrev cX5_tax : ByteArray := prog_1_method_10_code
def yX5_tax : MethodName := ⟨RX5, "tax", "(I)I"⟩
abbrev cX5_shopShare : ByteArray := prog_1_method_11_code
def yX5_shopShare : MethodName := ⟨RX5, "shopShare", "(I)I"⟩
abbrev cX5_makerPart : ByteArray := prog_1_method_12_code
def yX5_makerPart : MethodName := ⟨RX5, "makerPart", "(I)I"⟩
abbrev cX5_subscribe : ByteArray := prog_1_method_13_code
def yX5_subscribe : MethodName := ⟨RX5, "subscribe", "(IIIZ)I"⟩
abbrev cX5_cancel : ByteArray := prog_1_method_16_code
def yX5_cancel : MethodName := ⟨RX5, "cancel", "(I)I"⟩
abbrev cX5_payments : ByteArray := prog_1_method_17_code
def yX5_payments : MethodName := ⟨RX5, "payments", "(I)I"⟩
abbrev cX5_next : ByteArray := prog_1_method_18_code
def yX5_next : MethodName := ⟨RX5, "next", "(I)I"⟩
abbrev cX5_payout : ByteArray := prog_1_method_19_code
def yX5_payout : MethodName := ⟨RX5, "payout", "(II)I"⟩
abbrev cX5_balance : ByteArray := prog_1_method_21_code
def yX5_balance : MethodName := ⟨RX5, "balance", "(I)I"⟩
abbrev cX5_heldTax : ByteArray := prog_1_method_22_code
def yX5_heldTax : MethodName := ⟨RX5, "heldTax", "(I)I"⟩
abbrev cX5_shop : ByteArray := prog_1_method_23_code
def yX5_shop : MethodName := ⟨RX5, "shop", "()I"⟩
abbrev cX5_takings : ByteArray := prog_1_method_24_code
def yX5_takings : MethodName := ⟨RX5, "takings", "()I"⟩
abbrev cX5_pass : ByteArray := prog_1_method_25_code
def yX5_pass : MethodName := ⟨RX5, "pass", "(I)I"⟩
abbrev cX5_day : ByteArray := prog_1_method_26_code
def yX5_day : MethodName := ⟨RX5, "day", "()I"⟩
abbrev cX5_landAt : ByteArray := prog_1_method_27_code
def yX5_landAt : MethodName := ⟨RX5, "landAt", "(I)LShopPaymaster$Land;"⟩
abbrev cX5_makerAt : ByteArray := prog_1_method_28_code
def yX5_makerAt : MethodName := ⟨RX5, "makerAt", "(I)LShopPaymaster$Maker;"⟩
abbrev cX5_productAt : ByteArray := prog_1_method_29_code
def yX5_productAt : MethodName := ⟨RX5, "productAt", "(I)LShopPaymaster$Product;"⟩
abbrev cX5_saleAt : ByteArray := prog_1_method_30_code
def yX5_saleAt : MethodName := ⟨RX5, "saleAt", "(I)LShopPaymaster$Sale;"⟩
abbrev cX5_subscriptionAt : ByteArray := prog_1_method_31_code
def yX5_subscriptionAt : MethodName := ⟨RX5, "subscriptionAt", "(I)LShopPaymaster$Subscription;"⟩
abbrev cX5_requireRange : ByteArray := prog_1_method_32_code
def yX5_requireRange : MethodName := ⟨RX5, "requireRange", "(III)V"⟩
abbrev cX5_requireRoom : ByteArray := prog_1_method_33_code
def yX5_requireRoom : MethodName := ⟨RX5, "requireRoom", "(II)V"⟩
abbrev cX5_requireRunning : ByteArray := prog_1_method_34_code
def yX5_requireRunning : MethodName := ⟨RX5, "requireRunning", "(LShopPaymaster$Subscription;)V"⟩
abbrev cX5_currentMonth : ByteArray := prog_1_method_35_code
def yX5_currentMonth : MethodName := ⟨RX5, "currentMonth", "()I"⟩
abbrev cX5_sell : ByteArray := prog_1_method_36_code
def yX5_sell : MethodName := ⟨RX5, "sell", "(LShopPaymaster$Product;LShopPaymaster$Land;IZ)I"⟩
abbrev cX5_book : ByteArray := prog_1_method_37_code
def yX5_book : MethodName := ⟨RX5, "book", "(LShopPaymaster$Sale;I)V"⟩
abbrev cX5_beginNextDay : ByteArray := prog_1_method_38_code
def yX5_beginNextDay : MethodName := ⟨RX5, "beginNextDay", "()I"⟩
abbrev cX5_closeMonth : ByteArray := prog_1_method_39_code
def yX5_closeMonth : MethodName := ⟨RX5, "closeMonth", "(I)V"⟩
abbrev cX5_beginYear : ByteArray := prog_1_method_40_code
def yX5_beginYear : MethodName := ⟨RX5, "beginYear", "()V"⟩
abbrev cX5_collectPayments : ByteArray := prog_1_method_41_code
def yX5_collectPayments : MethodName := ⟨RX5, "collectPayments", "()I"⟩
abbrev cX5_tryPayment : ByteArray := prog_1_method_42_code
def yX5_tryPayment : MethodName := ⟨RX5, "tryPayment", "(LShopPaymaster$Subscription;)Z"⟩
def RX6 : String := "ShopPaymasterModel"
def TX6 : u_T := fun k => match k with
  | _ => ("", "", "", false)
def tyX6 : Nat → FieldType := fun k => match k with
  | _ => .int
abbrev wsX60 : List Cond := u_ws RX6 TX6 0
theorem nmX6 : ∀ a, a < 0 → ∀ b, b < 0 → a ≠ b → (TX6 a).2.1 ≠ (TX6 b).2.1 := by decide +kernel
theorem tyX6_ok : ∀ k, k < 0 → parseFieldDescriptor (TX6 k).2.2.1 = some (tyX6 k) := by decide +kernel
def RJx145de : String := "java/io/Serializable"
def TJx145de : u_T := fun k => match k with
  | _ => ("", "", "", false)
def tyJx145de : Nat → FieldType := fun k => match k with
  | _ => .int
abbrev wsJx145de0 : List Cond := u_ws RJx145de TJx145de 0
theorem nmJx145de : ∀ a, a < 0 → ∀ b, b < 0 → a ≠ b → (TJx145de a).2.1 ≠ (TJx145de b).2.1 := by decide +kernel
theorem tyJx145de_ok : ∀ k, k < 0 → parseFieldDescriptor (TJx145de k).2.2.1 = some (tyJx145de k) := by decide +kernel
def RJx8e188 : String := "java/lang/Cloneable"
def TJx8e188 : u_T := fun k => match k with
  | _ => ("", "", "", false)
def tyJx8e188 : Nat → FieldType := fun k => match k with
  | _ => .int
abbrev wsJx8e1880 : List Cond := u_ws RJx8e188 TJx8e188 0
theorem nmJx8e188 : ∀ a, a < 0 → ∀ b, b < 0 → a ≠ b → (TJx8e188 a).2.1 ≠ (TJx8e188 b).2.1 := by decide +kernel
theorem tyJx8e188_ok : ∀ k, k < 0 → parseFieldDescriptor (TJx8e188 k).2.2.1 = some (tyJx8e188 k) := by decide +kernel
def RJxab1ab : String := "java/lang/Iterable"
def TJxab1ab : u_T := fun k => match k with
  | _ => ("", "", "", false)
def tyJxab1ab : Nat → FieldType := fun k => match k with
  | _ => .int
abbrev wsJxab1ab0 : List Cond := u_ws RJxab1ab TJxab1ab 0
theorem nmJxab1ab : ∀ a, a < 0 → ∀ b, b < 0 → a ≠ b → (TJxab1ab a).2.1 ≠ (TJxab1ab b).2.1 := by decide +kernel
theorem tyJxab1ab_ok : ∀ k, k < 0 → parseFieldDescriptor (TJxab1ab k).2.2.1 = some (tyJxab1ab k) := by decide +kernel
def RJ9 : String := "java/lang/Math"
def TJ9 : u_T := fun k => match k with
  | _ => ("", "", "", false)
def tyJ9 : Nat → FieldType := fun k => match k with
  | _ => .int
abbrev wsJ90 : List Cond := u_ws RJ9 TJ9 0
theorem nmJ9 : ∀ a, a < 0 → ∀ b, b < 0 → a ≠ b → (TJ9 a).2.1 ≠ (TJ9 b).2.1 := by decide +kernel
theorem tyJ9_ok : ∀ k, k < 0 → parseFieldDescriptor (TJ9 k).2.2.1 = some (tyJ9 k) := by decide +kernel
abbrev cJ9_max_7cf53 : ByteArray := prog_16_method_65_code
def yJ9_max_7cf53 : MethodName := ⟨RJ9, "max", "(II)I"⟩
abbrev cJ9_min_7cf53 : ByteArray := prog_16_method_69_code
def yJ9_min_7cf53 : MethodName := ⟨RJ9, "min", "(II)I"⟩
def RJ0 : String := "java/lang/String"
def TJ0 : u_T := fun k => match k with
  | _ => ("", "", "", false)
def tyJ0 : Nat → FieldType := fun k => match k with
  | _ => .int
abbrev wsJ00 : List Cond := u_ws RJ0 TJ0 0
theorem nmJ0 : ∀ a, a < 0 → ∀ b, b < 0 → a ≠ b → (TJ0 a).2.1 ≠ (TJ0 b).2.1 := by decide +kernel
theorem tyJ0_ok : ∀ k, k < 0 → parseFieldDescriptor (TJ0 k).2.2.1 = some (tyJ0 k) := by decide +kernel
def RJ10 : String := "java/lang/System"
def TJ10 : u_T := fun k => match k with
  | _ => ("", "", "", false)
def tyJ10 : Nat → FieldType := fun k => match k with
  | _ => .int
abbrev wsJ100 : List Cond := u_ws RJ10 TJ10 0
theorem nmJ10 : ∀ a, a < 0 → ∀ b, b < 0 → a ≠ b → (TJ10 a).2.1 ≠ (TJ10 b).2.1 := by decide +kernel
theorem tyJ10_ok : ∀ k, k < 0 → parseFieldDescriptor (TJ10 k).2.2.1 = some (tyJ10 k) := by decide +kernel
def RJxa1e45 : String := "java/util/AbstractCollection"
def TJxa1e45 : u_T := fun k => match k with
  | _ => ("", "", "", false)
def tyJxa1e45 : Nat → FieldType := fun k => match k with
  | _ => .int
abbrev wsJxa1e450 : List Cond := u_ws RJxa1e45 TJxa1e45 0
theorem nmJxa1e45 : ∀ a, a < 0 → ∀ b, b < 0 → a ≠ b → (TJxa1e45 a).2.1 ≠ (TJxa1e45 b).2.1 := by decide +kernel
theorem tyJxa1e45_ok : ∀ k, k < 0 → parseFieldDescriptor (TJxa1e45 k).2.2.1 = some (tyJxa1e45 k) := by decide +kernel
abbrev cJxa1e45_init_da8c8 : ByteArray := prog_21_method_1_code
def yJxa1e45_init_da8c8 : MethodName := ⟨RJxa1e45, "<init>", "()V"⟩
def RJxc12de : String := "java/util/AbstractList"
def TJxc12de : u_T := fun k => match k with
  | _ => ("", "", "", false)
def tyJxc12de : Nat → FieldType := fun k => match k with
  | _ => .int
abbrev wsJxc12de0 : List Cond := u_ws RJxc12de TJxc12de 0
theorem nmJxc12de : ∀ a, a < 0 → ∀ b, b < 0 → a ≠ b → (TJxc12de a).2.1 ≠ (TJxc12de b).2.1 := by decide +kernel
theorem tyJxc12de_ok : ∀ k, k < 0 → parseFieldDescriptor (TJxc12de k).2.2.1 = some (tyJxc12de k) := by decide +kernel
abbrev cJxc12de_init_da8c8 : ByteArray := prog_22_method_1_code
def yJxc12de_init_da8c8 : MethodName := ⟨RJxc12de, "<init>", "()V"⟩
def RJx4a65c : String := "java/util/ArrayList"
def TJx4a65c : u_T := fun k => match k with
  | 0 => ("java/util/AbstractList", "modCount", "I", false)
  | 1 => ("java/util/ArrayList", "elementData", "[Ljava/lang/Object;", false)
  | _ => ("java/util/ArrayList", "size", "I", false)
def tyJx4a65c : Nat → FieldType := fun k => match k with
  | 0 => .int
  | 1 => .array (.object "java/lang/Object")
  | _ => .int
abbrev wsJx4a65c0 : List Cond := u_ws RJx4a65c TJx4a65c 3
theorem nmJx4a65c : ∀ a, a < 3 → ∀ b, b < 3 → a ≠ b → (TJx4a65c a).2.1 ≠ (TJx4a65c b).2.1 := by decide +kernel
theorem tyJx4a65c_ok : ∀ k, k < 3 → parseFieldDescriptor (TJx4a65c k).2.2.1 = some (tyJx4a65c k) := by decide +kernel
abbrev cJx4a65c_init_da8c8 : ByteArray := prog_23_method_2_code
def yJx4a65c_init_da8c8 : MethodName := ⟨RJx4a65c, "<init>", "()V"⟩
abbrev cJx4a65c_grow_92f84 : ByteArray := prog_23_method_6_code
def yJx4a65c_grow_92f84 : MethodName := ⟨RJx4a65c, "grow", "(I)[Ljava/lang/Object;"⟩
abbrev cJx4a65c_grow_d5877 : ByteArray := prog_23_method_7_code
def yJx4a65c_grow_d5877 : MethodName := ⟨RJx4a65c, "grow", "()[Ljava/lang/Object;"⟩
abbrev cJx4a65c_size_8abf5 : ByteArray := prog_23_method_8_code
def yJx4a65c_size_8abf5 : MethodName := ⟨RJx4a65c, "size", "()I"⟩
abbrev cJx4a65c_elementData_915e3 : ByteArray := prog_23_method_18_code
def yJx4a65c_elementData_915e3 : MethodName := ⟨RJx4a65c, "elementData", "(I)Ljava/lang/Object;"⟩
abbrev cJx4a65c_get_915e3 : ByteArray := prog_23_method_20_code
def yJx4a65c_get_915e3 : MethodName := ⟨RJx4a65c, "get", "(I)Ljava/lang/Object;"⟩
abbrev cJx4a65c_add_72be8 : ByteArray := prog_23_method_24_code
def yJx4a65c_add_72be8 : MethodName := ⟨RJx4a65c, "add", "(Ljava/lang/Object;[Ljava/lang/Object;I)V"⟩
abbrev cJx4a65c_add_9ea2d : ByteArray := prog_23_method_25_code
def yJx4a65c_add_9ea2d : MethodName := ⟨RJx4a65c, "add", "(Ljava/lang/Object;)Z"⟩
def RJ7 : String := "java/util/Arrays"
def TJ7 : u_T := fun k => match k with
  | _ => ("", "", "", false)
def tyJ7 : Nat → FieldType := fun k => match k with
  | _ => .int
abbrev wsJ70 : List Cond := u_ws RJ7 TJ7 0
theorem nmJ7 : ∀ a, a < 0 → ∀ b, b < 0 → a ≠ b → (TJ7 a).2.1 ≠ (TJ7 b).2.1 := by decide +kernel
theorem tyJ7_ok : ∀ k, k < 0 → parseFieldDescriptor (TJ7 k).2.2.1 = some (tyJ7 k) := by decide +kernel
abbrev cJ7_copyOf_1904c : ByteArray := prog_24_method_119_code
def yJ7_copyOf_1904c : MethodName := ⟨RJ7, "copyOf", "([Ljava/lang/Object;I)[Ljava/lang/Object;"⟩
abbrev cJ7_copyOf_6403c : ByteArray := prog_24_method_120_code
def yJ7_copyOf_6403c : MethodName := ⟨RJ7, "copyOf", "([Ljava/lang/Object;ILjava/lang/Class;)[Ljava/lang/Object;"⟩
def RJx5ef63 : String := "java/util/Collection"
def TJx5ef63 : u_T := fun k => match k with
  | _ => ("", "", "", false)
def tyJx5ef63 : Nat → FieldType := fun k => match k with
  | _ => .int
abbrev wsJx5ef630 : List Cond := u_ws RJx5ef63 TJx5ef63 0
theorem nmJx5ef63 : ∀ a, a < 0 → ∀ b, b < 0 → a ≠ b → (TJx5ef63 a).2.1 ≠ (TJx5ef63 b).2.1 := by decide +kernel
theorem tyJx5ef63_ok : ∀ k, k < 0 → parseFieldDescriptor (TJx5ef63 k).2.2.1 = some (tyJx5ef63 k) := by decide +kernel
def RJxbd725 : String := "java/util/List"
def TJxbd725 : u_T := fun k => match k with
  | _ => ("", "", "", false)
def tyJxbd725 : Nat → FieldType := fun k => match k with
  | _ => .int
abbrev wsJxbd7250 : List Cond := u_ws RJxbd725 TJxbd725 0
theorem nmJxbd725 : ∀ a, a < 0 → ∀ b, b < 0 → a ≠ b → (TJxbd725 a).2.1 ≠ (TJxbd725 b).2.1 := by decide +kernel
theorem tyJxbd725_ok : ∀ k, k < 0 → parseFieldDescriptor (TJxbd725 k).2.2.1 = some (tyJxbd725 k) := by decide +kernel
def RJ15 : String := "java/util/Objects"
def TJ15 : u_T := fun k => match k with
  | _ => ("", "", "", false)
def tyJ15 : Nat → FieldType := fun k => match k with
  | _ => .int
abbrev wsJ150 : List Cond := u_ws RJ15 TJ15 0
theorem nmJ15 : ∀ a, a < 0 → ∀ b, b < 0 → a ≠ b → (TJ15 a).2.1 ≠ (TJ15 b).2.1 := by decide +kernel
theorem tyJ15_ok : ∀ k, k < 0 → parseFieldDescriptor (TJ15 k).2.2.1 = some (tyJ15 k) := by decide +kernel
abbrev cJ15_checkIndex_7cf53 : ByteArray := prog_27_method_17_code
def yJ15_checkIndex_7cf53 : MethodName := ⟨RJ15, "checkIndex", "(II)I"⟩
def RJxf0a74 : String := "java/util/RandomAccess"
def TJxf0a74 : u_T := fun k => match k with
  | _ => ("", "", "", false)
def tyJxf0a74 : Nat → FieldType := fun k => match k with
  | _ => .int
abbrev wsJxf0a740 : List Cond := u_ws RJxf0a74 TJxf0a74 0
theorem nmJxf0a74 : ∀ a, a < 0 → ∀ b, b < 0 → a ≠ b → (TJxf0a74 a).2.1 ≠ (TJxf0a74 b).2.1 := by decide +kernel
theorem tyJxf0a74_ok : ∀ k, k < 0 → parseFieldDescriptor (TJxf0a74 k).2.2.1 = some (tyJxf0a74 k) := by decide +kernel
def RJxa66e6 : String := "java/util/SequencedCollection"
def TJxa66e6 : u_T := fun k => match k with
  | _ => ("", "", "", false)
def tyJxa66e6 : Nat → FieldType := fun k => match k with
  | _ => .int
abbrev wsJxa66e60 : List Cond := u_ws RJxa66e6 TJxa66e6 0
theorem nmJxa66e6 : ∀ a, a < 0 → ∀ b, b < 0 → a ≠ b → (TJxa66e6 a).2.1 ≠ (TJxa66e6 b).2.1 := by decide +kernel
theorem tyJxa66e6_ok : ∀ k, k < 0 → parseFieldDescriptor (TJxa66e6 k).2.2.1 = some (tyJxa66e6 k) := by decide +kernel
def RJ8 : String := "jdk/internal/util/ArraysSupport"
def TJ8 : u_T := fun k => match k with
  | _ => ("", "", "", false)
def tyJ8 : Nat → FieldType := fun k => match k with
  | _ => .int
abbrev wsJ80 : List Cond := u_ws RJ8 TJ8 0
theorem nmJ8 : ∀ a, a < 0 → ∀ b, b < 0 → a ≠ b → (TJ8 a).2.1 ≠ (TJ8 b).2.1 := by decide +kernel
theorem tyJ8_ok : ∀ k, k < 0 → parseFieldDescriptor (TJ8 k).2.2.1 = some (tyJ8 k) := by decide +kernel
abbrev cJ8_newLength_cabcc : ByteArray := prog_30_method_27_code
def yJ8_newLength_cabcc : MethodName := ⟨RJ8, "newLength", "(III)I"⟩
abbrev cJ8_hugeLength_7cf53 : ByteArray := prog_30_method_28_code
def yJ8_hugeLength_7cf53 : MethodName := ⟨RJ8, "hugeLength", "(II)I"⟩
def RJ3 : String := "jdk/internal/util/Preconditions"
def TJ3 : u_T := fun k => match k with
  | _ => ("", "", "", false)
def tyJ3 : Nat → FieldType := fun k => match k with
  | _ => .int
abbrev wsJ30 : List Cond := u_ws RJ3 TJ3 0
theorem nmJ3 : ∀ a, a < 0 → ∀ b, b < 0 → a ≠ b → (TJ3 a).2.1 ≠ (TJ3 b).2.1 := by decide +kernel
theorem tyJ3_ok : ∀ k, k < 0 → parseFieldDescriptor (TJ3 k).2.2.1 = some (tyJ3 k) := by decide +kernel
abbrev cJ3_checkIndex_8e157 : ByteArray := prog_31_method_11_code
def yJ3_checkIndex_8e157 : MethodName := ⟨RJ3, "checkIndex", "(IILjava/util/function/BiFunction;)I"⟩
def RL : String := "ShopPaymasterLaw"
abbrev cL_low : ByteArray := method_2_code
def yL_low : MethodName := ⟨RL, "low", "(II)I"⟩
abbrev cL_cell : ByteArray := method_3_code
def yL_cell : MethodName := ⟨RL, "cell", "([II)I"⟩
abbrev cL_refund : ByteArray := method_4_code
def yL_refund : MethodName := ⟨RL, "refund", "(LShopPaymaster;I)I"⟩
abbrev cL_pass : ByteArray := method_5_code
def yL_pass : MethodName := ⟨RL, "pass", "(LShopPaymaster;I)I"⟩
abbrev cL_cancel : ByteArray := method_6_code
def yL_cancel : MethodName := ⟨RL, "cancel", "(LShopPaymaster;I)I"⟩
abbrev cL_sums : ByteArray := method_7_code
def yL_sums : MethodName := ⟨RL, "sums", "(LShopPaymaster;I)Z"⟩
abbrev cL_sale : ByteArray := method_8_code
def yL_sale : MethodName := ⟨RL, "sale", "(LShopPaymaster;I)Z"⟩
abbrev cL_law : ByteArray := code
def yL_law : MethodName := ⟨RL, "law", "([I)Z"⟩
theorem dX0_init_0 : decode cX0_init 0 = .ok (.aload_n 0, 1) := by decide +kernel
theorem dX0_init_1 : decode cX0_init 1 = .ok (.invokespecial 1, 3) := by decide +kernel
theorem dX0_init_4 : decode cX0_init 4 = .ok (.aload_n 0, 1) := by decide +kernel
theorem dX0_init_5 : decode cX0_init 5 = .ok (.iconst 0, 1) := by decide +kernel
theorem dX0_init_6 : decode cX0_init 6 = .ok (.putfield 7, 3) := by decide +kernel
theorem dX0_init_9 : decode cX0_init 9 = .ok (.aload_n 0, 1) := by decide +kernel
theorem dX0_init_10 : decode cX0_init 10 = .ok (.iconst 1, 1) := by decide +kernel
theorem dX0_init_11 : decode cX0_init 11 = .ok (.putfield 13, 3) := by decide +kernel
theorem dX0_init_14 : decode cX0_init 14 = .ok (.aload_n 0, 1) := by decide +kernel
theorem dX0_init_15 : decode cX0_init 15 = .ok (.iconst 0, 1) := by decide +kernel
theorem dX0_init_16 : decode cX0_init 16 = .ok (.putfield 17, 3) := by decide +kernel
theorem dX0_init_19 : decode cX0_init 19 = .ok (.aload_n 0, 1) := by decide +kernel
theorem dX0_init_20 : decode cX0_init 20 = .ok (.iload_n 1, 1) := by decide +kernel
theorem dX0_init_21 : decode cX0_init 21 = .ok (.putfield 20, 3) := by decide +kernel
theorem dX0_init_24 : decode cX0_init 24 = .ok (.return_, 1) := by decide +kernel
theorem dX0_taxIn_0 : decode cX0_taxIn 0 = .ok (.bipush 100, 2) := by decide +kernel
theorem dX0_taxIn_2 : decode cX0_taxIn 2 = .ok (.aload_n 0, 1) := by decide +kernel
theorem dX0_taxIn_3 : decode cX0_taxIn 3 = .ok (.getfield 7, 3) := by decide +kernel
theorem dX0_taxIn_6 : decode cX0_taxIn 6 = .ok (.iadd, 1) := by decide +kernel
theorem dX0_taxIn_7 : decode cX0_taxIn 7 = .ok (.istore_n 2, 1) := by decide +kernel
theorem dX0_taxIn_8 : decode cX0_taxIn 8 = .ok (.iload_n 2, 1) := by decide +kernel
theorem dX0_taxIn_9 : decode cX0_taxIn 9 = .ok (.ifCond .le 14, 3) := by decide +kernel
theorem dX0_taxIn_12 : decode cX0_taxIn 12 = .ok (.iload_n 1, 1) := by decide +kernel
theorem dX0_taxIn_13 : decode cX0_taxIn 13 = .ok (.aload_n 0, 1) := by decide +kernel
theorem dX0_taxIn_14 : decode cX0_taxIn 14 = .ok (.getfield 7, 3) := by decide +kernel
theorem dX0_taxIn_17 : decode cX0_taxIn 17 = .ok (.imul, 1) := by decide +kernel
theorem dX0_taxIn_18 : decode cX0_taxIn 18 = .ok (.iload_n 2, 1) := by decide +kernel
theorem dX0_taxIn_19 : decode cX0_taxIn 19 = .ok (.idiv, 1) := by decide +kernel
theorem dX0_taxIn_20 : decode cX0_taxIn 20 = .ok (.goto 4, 3) := by decide +kernel
theorem dX0_taxIn_23 : decode cX0_taxIn 23 = .ok (.iconst 0, 1) := by decide +kernel
theorem dX0_taxIn_24 : decode cX0_taxIn 24 = .ok (.ireturn, 1) := by decide +kernel
theorem dX1_init_0 : decode cX1_init 0 = .ok (.aload_n 0, 1) := by decide +kernel
theorem dX1_init_1 : decode cX1_init 1 = .ok (.invokespecial 3, 3) := by decide +kernel
theorem dX1_init_4 : decode cX1_init 4 = .ok (.aload_n 0, 1) := by decide +kernel
theorem dX1_init_5 : decode cX1_init 5 = .ok (.bipush 120, 2) := by decide +kernel
theorem dX1_init_7 : decode cX1_init 7 = .ok (.newarray .int, 2) := by decide +kernel
theorem dX1_init_9 : decode cX1_init 9 = .ok (.putfield 9, 3) := by decide +kernel
theorem dX1_init_12 : decode cX1_init 12 = .ok (.aload_n 0, 1) := by decide +kernel
theorem dX1_init_13 : decode cX1_init 13 = .ok (.iconst 0, 1) := by decide +kernel
theorem dX1_init_14 : decode cX1_init 14 = .ok (.putfield 15, 3) := by decide +kernel
theorem dX1_init_17 : decode cX1_init 17 = .ok (.aload_n 0, 1) := by decide +kernel
theorem dX1_init_18 : decode cX1_init 18 = .ok (.iconst 0, 1) := by decide +kernel
theorem dX1_init_19 : decode cX1_init 19 = .ok (.putfield 19, 3) := by decide +kernel
theorem dX1_init_22 : decode cX1_init 22 = .ok (.aload_n 0, 1) := by decide +kernel
theorem dX1_init_23 : decode cX1_init 23 = .ok (.iconst 0, 1) := by decide +kernel
theorem dX1_init_24 : decode cX1_init 24 = .ok (.putfield 22, 3) := by decide +kernel
theorem dX1_init_27 : decode cX1_init 27 = .ok (.aload_n 0, 1) := by decide +kernel
theorem dX1_init_28 : decode cX1_init 28 = .ok (.iload_n 1, 1) := by decide +kernel
theorem dX1_init_29 : decode cX1_init 29 = .ok (.putfield 25, 3) := by decide +kernel
theorem dX1_init_32 : decode cX1_init 32 = .ok (.return_, 1) := by decide +kernel
theorem dX1_currentBalance_0 : decode cX1_currentBalance 0 = .ok (.aload_n 0, 1) := by decide +kernel
theorem dX1_currentBalance_1 : decode cX1_currentBalance 1 = .ok (.getfield 15, 3) := by decide +kernel
theorem dX1_currentBalance_4 : decode cX1_currentBalance 4 = .ok (.aload_n 0, 1) := by decide +kernel
theorem dX1_currentBalance_5 : decode cX1_currentBalance 5 = .ok (.getfield 19, 3) := by decide +kernel
theorem dX1_currentBalance_8 : decode cX1_currentBalance 8 = .ok (.iadd, 1) := by decide +kernel
theorem dX1_currentBalance_9 : decode cX1_currentBalance 9 = .ok (.ireturn, 1) := by decide +kernel
theorem dX1_settle_0 : decode cX1_settle 0 = .ok (.aload_n 0, 1) := by decide +kernel
theorem dX1_settle_1 : decode cX1_settle 1 = .ok (.invokevirtual 28, 3) := by decide +kernel
theorem dX1_settle_4 : decode cX1_settle 4 = .ok (.istore_n 2, 1) := by decide +kernel
theorem dX1_settle_5 : decode cX1_settle 5 = .ok (.iload_n 2, 1) := by decide +kernel
theorem dX1_settle_6 : decode cX1_settle 6 = .ok (.ifCond .le 15, 3) := by decide +kernel
theorem dX1_settle_9 : decode cX1_settle 9 = .ok (.iload_n 2, 1) := by decide +kernel
theorem dX1_settle_10 : decode cX1_settle 10 = .ok (.aload_n 0, 1) := by decide +kernel
theorem dX1_settle_11 : decode cX1_settle 11 = .ok (.getfield 25, 3) := by decide +kernel
theorem dX1_settle_14 : decode cX1_settle 14 = .ok (.if_icmp .lt 7, 3) := by decide +kernel
theorem dX1_settle_17 : decode cX1_settle 17 = .ok (.iconst 1, 1) := by decide +kernel
theorem dX1_settle_18 : decode cX1_settle 18 = .ok (.goto 4, 3) := by decide +kernel
theorem dX1_settle_21 : decode cX1_settle 21 = .ok (.iconst 0, 1) := by decide +kernel
theorem dX1_settle_22 : decode cX1_settle 22 = .ok (.istore_n 3, 1) := by decide +kernel
theorem dX1_settle_23 : decode cX1_settle 23 = .ok (.iload_n 1, 1) := by decide +kernel
theorem dX1_settle_24 : decode cX1_settle 24 = .ok (.ifCond .lt 27, 3) := by decide +kernel
theorem dX1_settle_27 : decode cX1_settle 27 = .ok (.iload_n 1, 1) := by decide +kernel
theorem dX1_settle_28 : decode cX1_settle 28 = .ok (.aload_n 0, 1) := by decide +kernel
theorem dX1_settle_29 : decode cX1_settle 29 = .ok (.getfield 9, 3) := by decide +kernel
theorem dX1_settle_32 : decode cX1_settle 32 = .ok (.arraylength, 1) := by decide +kernel
theorem dX1_settle_33 : decode cX1_settle 33 = .ok (.if_icmp .ge 18, 3) := by decide +kernel
theorem dX1_settle_36 : decode cX1_settle 36 = .ok (.aload_n 0, 1) := by decide +kernel
theorem dX1_settle_37 : decode cX1_settle 37 = .ok (.getfield 9, 3) := by decide +kernel
theorem dX1_settle_40 : decode cX1_settle 40 = .ok (.iload_n 1, 1) := by decide +kernel
theorem dX1_settle_41 : decode cX1_settle 41 = .ok (.iload_n 3, 1) := by decide +kernel
theorem dX1_settle_42 : decode cX1_settle 42 = .ok (.ifCond .eq 7, 3) := by decide +kernel
theorem dX1_settle_45 : decode cX1_settle 45 = .ok (.iload_n 2, 1) := by decide +kernel
theorem dX1_settle_46 : decode cX1_settle 46 = .ok (.goto 4, 3) := by decide +kernel
theorem dX1_settle_49 : decode cX1_settle 49 = .ok (.iconst 0, 1) := by decide +kernel
theorem dX1_settle_50 : decode cX1_settle 50 = .ok (.iastore, 1) := by decide +kernel
theorem dX1_settle_51 : decode cX1_settle 51 = .ok (.aload_n 0, 1) := by decide +kernel
theorem dX1_settle_52 : decode cX1_settle 52 = .ok (.iload_n 3, 1) := by decide +kernel
theorem dX1_settle_53 : decode cX1_settle 53 = .ok (.ifCond .eq 7, 3) := by decide +kernel
theorem dX1_settle_56 : decode cX1_settle 56 = .ok (.iconst 0, 1) := by decide +kernel
theorem dX1_settle_57 : decode cX1_settle 57 = .ok (.goto 4, 3) := by decide +kernel
theorem dX1_settle_60 : decode cX1_settle 60 = .ok (.iload_n 2, 1) := by decide +kernel
theorem dX1_settle_61 : decode cX1_settle 61 = .ok (.putfield 15, 3) := by decide +kernel
theorem dX1_settle_64 : decode cX1_settle 64 = .ok (.aload_n 0, 1) := by decide +kernel
theorem dX1_settle_65 : decode cX1_settle 65 = .ok (.iconst 0, 1) := by decide +kernel
theorem dX1_settle_66 : decode cX1_settle 66 = .ok (.putfield 19, 3) := by decide +kernel
theorem dX1_settle_69 : decode cX1_settle 69 = .ok (.return_, 1) := by decide +kernel
theorem dX1_payoutOf_0 : decode cX1_payoutOf 0 = .ok (.iload_n 1, 1) := by decide +kernel
theorem dX1_payoutOf_1 : decode cX1_payoutOf 1 = .ok (.ifCond .lt 21, 3) := by decide +kernel
theorem dX1_payoutOf_4 : decode cX1_payoutOf 4 = .ok (.iload_n 1, 1) := by decide +kernel
theorem dX1_payoutOf_5 : decode cX1_payoutOf 5 = .ok (.aload_n 0, 1) := by decide +kernel
theorem dX1_payoutOf_6 : decode cX1_payoutOf 6 = .ok (.getfield 9, 3) := by decide +kernel
theorem dX1_payoutOf_9 : decode cX1_payoutOf 9 = .ok (.arraylength, 1) := by decide +kernel
theorem dX1_payoutOf_10 : decode cX1_payoutOf 10 = .ok (.if_icmp .ge 12, 3) := by decide +kernel
theorem dX1_payoutOf_13 : decode cX1_payoutOf 13 = .ok (.aload_n 0, 1) := by decide +kernel
theorem dX1_payoutOf_14 : decode cX1_payoutOf 14 = .ok (.getfield 9, 3) := by decide +kernel
theorem dX1_payoutOf_17 : decode cX1_payoutOf 17 = .ok (.iload_n 1, 1) := by decide +kernel
theorem dX1_payoutOf_18 : decode cX1_payoutOf 18 = .ok (.iaload, 1) := by decide +kernel
theorem dX1_payoutOf_19 : decode cX1_payoutOf 19 = .ok (.goto 4, 3) := by decide +kernel
theorem dX1_payoutOf_22 : decode cX1_payoutOf 22 = .ok (.iconst 0, 1) := by decide +kernel
theorem dX1_payoutOf_23 : decode cX1_payoutOf 23 = .ok (.ireturn, 1) := by decide +kernel
theorem dX2_init_0 : decode cX2_init 0 = .ok (.aload_n 0, 1) := by decide +kernel
theorem dX2_init_1 : decode cX2_init 1 = .ok (.invokespecial 3, 3) := by decide +kernel
theorem dX2_init_4 : decode cX2_init 4 = .ok (.aload_n 0, 1) := by decide +kernel
theorem dX2_init_5 : decode cX2_init 5 = .ok (.iconst 5, 1) := by decide +kernel
theorem dX2_init_6 : decode cX2_init 6 = .ok (.newarray .int, 2) := by decide +kernel
theorem dX2_init_8 : decode cX2_init 8 = .ok (.putfield 9, 3) := by decide +kernel
theorem dX2_init_11 : decode cX2_init 11 = .ok (.aload_n 0, 1) := by decide +kernel
theorem dX2_init_12 : decode cX2_init 12 = .ok (.iload_n 1, 1) := by decide +kernel
theorem dX2_init_13 : decode cX2_init 13 = .ok (.putfield 15, 3) := by decide +kernel
theorem dX2_init_16 : decode cX2_init 16 = .ok (.aload_n 0, 1) := by decide +kernel
theorem dX2_init_17 : decode cX2_init 17 = .ok (.aload_n 2, 1) := by decide +kernel
theorem dX2_init_18 : decode cX2_init 18 = .ok (.putfield 19, 3) := by decide +kernel
theorem dX2_init_21 : decode cX2_init 21 = .ok (.iconst 0, 1) := by decide +kernel
theorem dX2_init_22 : decode cX2_init 22 = .ok (.istore 4, 2) := by decide +kernel
theorem dX2_init_24 : decode cX2_init 24 = .ok (.iload 4, 2) := by decide +kernel
theorem dX2_init_26 : decode cX2_init 26 = .ok (.aload_n 0, 1) := by decide +kernel
theorem dX2_init_27 : decode cX2_init 27 = .ok (.getfield 9, 3) := by decide +kernel
theorem dX2_init_30 : decode cX2_init 30 = .ok (.arraylength, 1) := by decide +kernel
theorem dX2_init_31 : decode cX2_init 31 = .ok (.if_icmp .ge 17, 3) := by decide +kernel
theorem dX2_init_34 : decode cX2_init 34 = .ok (.aload_n 0, 1) := by decide +kernel
theorem dX2_init_35 : decode cX2_init 35 = .ok (.getfield 9, 3) := by decide +kernel
theorem dX2_init_38 : decode cX2_init 38 = .ok (.iload 4, 2) := by decide +kernel
theorem dX2_init_40 : decode cX2_init 40 = .ok (.iload_n 3, 1) := by decide +kernel
theorem dX2_init_41 : decode cX2_init 41 = .ok (.iastore, 1) := by decide +kernel
theorem dX2_init_42 : decode cX2_init 42 = .ok (.iinc 4 1, 3) := by decide +kernel
theorem dX2_init_45 : decode cX2_init 45 = .ok (.goto (-21), 3) := by decide +kernel
theorem dX2_init_48 : decode cX2_init 48 = .ok (.return_, 1) := by decide +kernel
theorem dX2_priceIn_0 : decode cX2_priceIn 0 = .ok (.aload_n 1, 1) := by decide +kernel
theorem dX2_priceIn_1 : decode cX2_priceIn 1 = .ok (.getfield 23, 3) := by decide +kernel
theorem dX2_priceIn_4 : decode cX2_priceIn 4 = .ok (.istore_n 2, 1) := by decide +kernel
theorem dX2_priceIn_5 : decode cX2_priceIn 5 = .ok (.iload_n 2, 1) := by decide +kernel
theorem dX2_priceIn_6 : decode cX2_priceIn 6 = .ok (.ifCond .lt 21, 3) := by decide +kernel
theorem dX2_priceIn_9 : decode cX2_priceIn 9 = .ok (.iload_n 2, 1) := by decide +kernel
theorem dX2_priceIn_10 : decode cX2_priceIn 10 = .ok (.aload_n 0, 1) := by decide +kernel
theorem dX2_priceIn_11 : decode cX2_priceIn 11 = .ok (.getfield 9, 3) := by decide +kernel
theorem dX2_priceIn_14 : decode cX2_priceIn 14 = .ok (.arraylength, 1) := by decide +kernel
theorem dX2_priceIn_15 : decode cX2_priceIn 15 = .ok (.if_icmp .ge 12, 3) := by decide +kernel
theorem dX2_priceIn_18 : decode cX2_priceIn 18 = .ok (.aload_n 0, 1) := by decide +kernel
theorem dX2_priceIn_19 : decode cX2_priceIn 19 = .ok (.getfield 9, 3) := by decide +kernel
theorem dX2_priceIn_22 : decode cX2_priceIn 22 = .ok (.iload_n 2, 1) := by decide +kernel
theorem dX2_priceIn_23 : decode cX2_priceIn 23 = .ok (.iaload, 1) := by decide +kernel
theorem dX2_priceIn_24 : decode cX2_priceIn 24 = .ok (.goto 4, 3) := by decide +kernel
theorem dX2_priceIn_27 : decode cX2_priceIn 27 = .ok (.iconst 0, 1) := by decide +kernel
theorem dX2_priceIn_28 : decode cX2_priceIn 28 = .ok (.ireturn, 1) := by decide +kernel
theorem dX2_changePrice_0 : decode cX2_changePrice 0 = .ok (.aload_n 0, 1) := by decide +kernel
theorem dX2_changePrice_1 : decode cX2_changePrice 1 = .ok (.aload_n 1, 1) := by decide +kernel
theorem dX2_changePrice_2 : decode cX2_changePrice 2 = .ok (.invokevirtual 26, 3) := by decide +kernel
theorem dX2_changePrice_5 : decode cX2_changePrice 5 = .ok (.istore_n 3, 1) := by decide +kernel
theorem dX2_changePrice_6 : decode cX2_changePrice 6 = .ok (.aload_n 1, 1) := by decide +kernel
theorem dX2_changePrice_7 : decode cX2_changePrice 7 = .ok (.getfield 23, 3) := by decide +kernel
theorem dX2_changePrice_10 : decode cX2_changePrice 10 = .ok (.istore 4, 2) := by decide +kernel
theorem dX2_changePrice_12 : decode cX2_changePrice 12 = .ok (.iload 4, 2) := by decide +kernel
theorem dX2_changePrice_14 : decode cX2_changePrice 14 = .ok (.ifCond .lt 21, 3) := by decide +kernel
theorem dX2_changePrice_17 : decode cX2_changePrice 17 = .ok (.iload 4, 2) := by decide +kernel
theorem dX2_changePrice_19 : decode cX2_changePrice 19 = .ok (.aload_n 0, 1) := by decide +kernel
theorem dX2_changePrice_20 : decode cX2_changePrice 20 = .ok (.getfield 9, 3) := by decide +kernel
theorem dX2_changePrice_23 : decode cX2_changePrice 23 = .ok (.arraylength, 1) := by decide +kernel
theorem dX2_changePrice_24 : decode cX2_changePrice 24 = .ok (.if_icmp .ge 11, 3) := by decide +kernel
theorem dX2_changePrice_27 : decode cX2_changePrice 27 = .ok (.aload_n 0, 1) := by decide +kernel
theorem dX2_changePrice_28 : decode cX2_changePrice 28 = .ok (.getfield 9, 3) := by decide +kernel
theorem dX2_changePrice_31 : decode cX2_changePrice 31 = .ok (.iload 4, 2) := by decide +kernel
theorem dX2_changePrice_33 : decode cX2_changePrice 33 = .ok (.iload_n 2, 1) := by decide +kernel
theorem dX2_changePrice_34 : decode cX2_changePrice 34 = .ok (.iastore, 1) := by decide +kernel
theorem dX2_changePrice_35 : decode cX2_changePrice 35 = .ok (.iload_n 3, 1) := by decide +kernel
theorem dX2_changePrice_36 : decode cX2_changePrice 36 = .ok (.ireturn, 1) := by decide +kernel
theorem dX3_init_0 : decode cX3_init 0 = .ok (.aload_n 0, 1) := by decide +kernel
theorem dX3_init_1 : decode cX3_init 1 = .ok (.invokespecial 1, 3) := by decide +kernel
theorem dX3_init_4 : decode cX3_init 4 = .ok (.aload_n 0, 1) := by decide +kernel
theorem dX3_init_5 : decode cX3_init 5 = .ok (.iconst 0, 1) := by decide +kernel
theorem dX3_init_6 : decode cX3_init 6 = .ok (.putfield 7, 3) := by decide +kernel
theorem dX3_init_9 : decode cX3_init 9 = .ok (.aload_n 0, 1) := by decide +kernel
theorem dX3_init_10 : decode cX3_init 10 = .ok (.aload_n 1, 1) := by decide +kernel
theorem dX3_init_11 : decode cX3_init 11 = .ok (.putfield 13, 3) := by decide +kernel
theorem dX3_init_14 : decode cX3_init 14 = .ok (.aload_n 0, 1) := by decide +kernel
theorem dX3_init_15 : decode cX3_init 15 = .ok (.aload_n 2, 1) := by decide +kernel
theorem dX3_init_16 : decode cX3_init 16 = .ok (.putfield 17, 3) := by decide +kernel
theorem dX3_init_19 : decode cX3_init 19 = .ok (.aload_n 0, 1) := by decide +kernel
theorem dX3_init_20 : decode cX3_init 20 = .ok (.iload_n 3, 1) := by decide +kernel
theorem dX3_init_21 : decode cX3_init 21 = .ok (.putfield 21, 3) := by decide +kernel
theorem dX3_init_24 : decode cX3_init 24 = .ok (.aload_n 0, 1) := by decide +kernel
theorem dX3_init_25 : decode cX3_init 25 = .ok (.iload 4, 2) := by decide +kernel
theorem dX3_init_27 : decode cX3_init 27 = .ok (.putfield 25, 3) := by decide +kernel
theorem dX3_init_30 : decode cX3_init 30 = .ok (.aload_n 0, 1) := by decide +kernel
theorem dX3_init_31 : decode cX3_init 31 = .ok (.aload_n 2, 1) := by decide +kernel
theorem dX3_init_32 : decode cX3_init 32 = .ok (.iload 4, 2) := by decide +kernel
theorem dX3_init_34 : decode cX3_init 34 = .ok (.invokevirtual 28, 3) := by decide +kernel
theorem dX3_init_37 : decode cX3_init 37 = .ok (.putfield 34, 3) := by decide +kernel
theorem dX3_init_40 : decode cX3_init 40 = .ok (.aload_n 0, 1) := by decide +kernel
theorem dX3_init_41 : decode cX3_init 41 = .ok (.aload_n 2, 1) := by decide +kernel
theorem dX3_init_42 : decode cX3_init 42 = .ok (.getfield 37, 3) := by decide +kernel
theorem dX3_init_45 : decode cX3_init 45 = .ok (.putfield 40, 3) := by decide +kernel
theorem dX3_init_48 : decode cX3_init 48 = .ok (.iload 4, 2) := by decide +kernel
theorem dX3_init_50 : decode cX3_init 50 = .ok (.aload_n 0, 1) := by decide +kernel
theorem dX3_init_51 : decode cX3_init 51 = .ok (.getfield 34, 3) := by decide +kernel
theorem dX3_init_54 : decode cX3_init 54 = .ok (.isub, 1) := by decide +kernel
theorem dX3_init_55 : decode cX3_init 55 = .ok (.istore 6, 2) := by decide +kernel
theorem dX3_init_57 : decode cX3_init 57 = .ok (.aload_n 0, 1) := by decide +kernel
theorem dX3_init_58 : decode cX3_init 58 = .ok (.iload 6, 2) := by decide +kernel
theorem dX3_init_60 : decode cX3_init 60 = .ok (.iload 5, 2) := by decide +kernel
theorem dX3_init_62 : decode cX3_init 62 = .ok (.imul, 1) := by decide +kernel
theorem dX3_init_63 : decode cX3_init 63 = .ok (.bipush 100, 2) := by decide +kernel
theorem dX3_init_65 : decode cX3_init 65 = .ok (.idiv, 1) := by decide +kernel
theorem dX3_init_66 : decode cX3_init 66 = .ok (.putfield 43, 3) := by decide +kernel
theorem dX3_init_69 : decode cX3_init 69 = .ok (.aload_n 0, 1) := by decide +kernel
theorem dX3_init_70 : decode cX3_init 70 = .ok (.iload 6, 2) := by decide +kernel
theorem dX3_init_72 : decode cX3_init 72 = .ok (.aload_n 0, 1) := by decide +kernel
theorem dX3_init_73 : decode cX3_init 73 = .ok (.getfield 43, 3) := by decide +kernel
theorem dX3_init_76 : decode cX3_init 76 = .ok (.isub, 1) := by decide +kernel
theorem dX3_init_77 : decode cX3_init 77 = .ok (.aload_n 0, 1) := by decide +kernel
theorem dX3_init_78 : decode cX3_init 78 = .ok (.getfield 40, 3) := by decide +kernel
theorem dX3_init_81 : decode cX3_init 81 = .ok (.ifCond .eq 7, 3) := by decide +kernel
theorem dX3_init_84 : decode cX3_init 84 = .ok (.iconst 0, 1) := by decide +kernel
theorem dX3_init_85 : decode cX3_init 85 = .ok (.goto 7, 3) := by decide +kernel
theorem dX3_init_88 : decode cX3_init 88 = .ok (.aload_n 0, 1) := by decide +kernel
theorem dX3_init_89 : decode cX3_init 89 = .ok (.getfield 34, 3) := by decide +kernel
theorem dX3_init_92 : decode cX3_init 92 = .ok (.iadd, 1) := by decide +kernel
theorem dX3_init_93 : decode cX3_init 93 = .ok (.putfield 46, 3) := by decide +kernel
theorem dX3_init_96 : decode cX3_init 96 = .ok (.return_, 1) := by decide +kernel
theorem dX4_init_0 : decode cX4_init 0 = .ok (.aload_n 0, 1) := by decide +kernel
theorem dX4_init_1 : decode cX4_init 1 = .ok (.invokespecial 3, 3) := by decide +kernel
theorem dX4_init_4 : decode cX4_init 4 = .ok (.aload_n 0, 1) := by decide +kernel
theorem dX4_init_5 : decode cX4_init 5 = .ok (.iconst 0, 1) := by decide +kernel
theorem dX4_init_6 : decode cX4_init 6 = .ok (.putfield 9, 3) := by decide +kernel
theorem dX4_init_9 : decode cX4_init 9 = .ok (.aload_n 0, 1) := by decide +kernel
theorem dX4_init_10 : decode cX4_init 10 = .ok (.iconst 0, 1) := by decide +kernel
theorem dX4_init_11 : decode cX4_init 11 = .ok (.putfield 15, 3) := by decide +kernel
theorem dX4_init_14 : decode cX4_init 14 = .ok (.aload_n 0, 1) := by decide +kernel
theorem dX4_init_15 : decode cX4_init 15 = .ok (.iconst 0, 1) := by decide +kernel
theorem dX4_init_16 : decode cX4_init 16 = .ok (.putfield 19, 3) := by decide +kernel
theorem dX4_init_19 : decode cX4_init 19 = .ok (.aload_n 0, 1) := by decide +kernel
theorem dX4_init_20 : decode cX4_init 20 = .ok (.aload_n 1, 1) := by decide +kernel
theorem dX4_init_21 : decode cX4_init 21 = .ok (.putfield 22, 3) := by decide +kernel
theorem dX4_init_24 : decode cX4_init 24 = .ok (.aload_n 0, 1) := by decide +kernel
theorem dX4_init_25 : decode cX4_init 25 = .ok (.aload_n 2, 1) := by decide +kernel
theorem dX4_init_26 : decode cX4_init 26 = .ok (.putfield 26, 3) := by decide +kernel
theorem dX4_init_29 : decode cX4_init 29 = .ok (.aload_n 0, 1) := by decide +kernel
theorem dX4_init_30 : decode cX4_init 30 = .ok (.iload 4, 2) := by decide +kernel
theorem dX4_init_32 : decode cX4_init 32 = .ok (.putfield 30, 3) := by decide +kernel
theorem dX4_init_35 : decode cX4_init 35 = .ok (.aload_n 0, 1) := by decide +kernel
theorem dX4_init_36 : decode cX4_init 36 = .ok (.iload_n 3, 1) := by decide +kernel
theorem dX4_init_37 : decode cX4_init 37 = .ok (.putfield 33, 3) := by decide +kernel
theorem dX4_init_40 : decode cX4_init 40 = .ok (.return_, 1) := by decide +kernel
theorem dX4_isEnded_0 : decode cX4_isEnded 0 = .ok (.aload_n 0, 1) := by decide +kernel
theorem dX4_isEnded_1 : decode cX4_isEnded 1 = .ok (.getfield 33, 3) := by decide +kernel
theorem dX4_isEnded_4 : decode cX4_isEnded 4 = .ok (.iconst (-1), 1) := by decide +kernel
theorem dX4_isEnded_5 : decode cX4_isEnded 5 = .ok (.if_icmp .ne 7, 3) := by decide +kernel
theorem dX4_isEnded_8 : decode cX4_isEnded 8 = .ok (.iconst 1, 1) := by decide +kernel
theorem dX4_isEnded_9 : decode cX4_isEnded 9 = .ok (.goto 4, 3) := by decide +kernel
theorem dX4_isEnded_12 : decode cX4_isEnded 12 = .ok (.iconst 0, 1) := by decide +kernel
theorem dX4_isEnded_13 : decode cX4_isEnded 13 = .ok (.ireturn, 1) := by decide +kernel
theorem dX4_end_0 : decode cX4_end 0 = .ok (.aload_n 0, 1) := by decide +kernel
theorem dX4_end_1 : decode cX4_end 1 = .ok (.iconst (-1), 1) := by decide +kernel
theorem dX4_end_2 : decode cX4_end 2 = .ok (.putfield 33, 3) := by decide +kernel
theorem dX4_end_5 : decode cX4_end 5 = .ok (.return_, 1) := by decide +kernel
theorem dX4_priceOfNext_0 : decode cX4_priceOfNext 0 = .ok (.aload_n 0, 1) := by decide +kernel
theorem dX4_priceOfNext_1 : decode cX4_priceOfNext 1 = .ok (.getfield 22, 3) := by decide +kernel
theorem dX4_priceOfNext_4 : decode cX4_priceOfNext 4 = .ok (.aload_n 0, 1) := by decide +kernel
theorem dX4_priceOfNext_5 : decode cX4_priceOfNext 5 = .ok (.getfield 26, 3) := by decide +kernel
theorem dX4_priceOfNext_8 : decode cX4_priceOfNext 8 = .ok (.invokevirtual 36, 3) := by decide +kernel
theorem dX4_priceOfNext_11 : decode cX4_priceOfNext 11 = .ok (.istore_n 1, 1) := by decide +kernel
theorem dX4_priceOfNext_12 : decode cX4_priceOfNext 12 = .ok (.aload_n 0, 1) := by decide +kernel
theorem dX4_priceOfNext_13 : decode cX4_priceOfNext 13 = .ok (.getfield 30, 3) := by decide +kernel
theorem dX4_priceOfNext_16 : decode cX4_priceOfNext 16 = .ok (.ifCond .eq 16, 3) := by decide +kernel
theorem dX4_priceOfNext_19 : decode cX4_priceOfNext 19 = .ok (.aload_n 0, 1) := by decide +kernel
theorem dX4_priceOfNext_20 : decode cX4_priceOfNext 20 = .ok (.getfield 19, 3) := by decide +kernel
theorem dX4_priceOfNext_23 : decode cX4_priceOfNext 23 = .ok (.ifCond .ne 9, 3) := by decide +kernel
theorem dX4_priceOfNext_26 : decode cX4_priceOfNext 26 = .ok (.iload_n 1, 1) := by decide +kernel
theorem dX4_priceOfNext_27 : decode cX4_priceOfNext 27 = .ok (.iconst 2, 1) := by decide +kernel
theorem dX4_priceOfNext_28 : decode cX4_priceOfNext 28 = .ok (.idiv, 1) := by decide +kernel
theorem dX4_priceOfNext_29 : decode cX4_priceOfNext 29 = .ok (.goto 4, 3) := by decide +kernel
theorem dX4_priceOfNext_32 : decode cX4_priceOfNext 32 = .ok (.iload_n 1, 1) := by decide +kernel
theorem dX4_priceOfNext_33 : decode cX4_priceOfNext 33 = .ok (.ireturn, 1) := by decide +kernel
theorem dX4_countPayment_0 : decode cX4_countPayment 0 = .ok (.aload_n 0, 1) := by decide +kernel
theorem dX4_countPayment_1 : decode cX4_countPayment 1 = .ok (.dup, 1) := by decide +kernel
theorem dX4_countPayment_2 : decode cX4_countPayment 2 = .ok (.getfield 19, 3) := by decide +kernel
theorem dX4_countPayment_5 : decode cX4_countPayment 5 = .ok (.iconst 1, 1) := by decide +kernel
theorem dX4_countPayment_6 : decode cX4_countPayment 6 = .ok (.iadd, 1) := by decide +kernel
theorem dX4_countPayment_7 : decode cX4_countPayment 7 = .ok (.putfield 19, 3) := by decide +kernel
theorem dX4_countPayment_10 : decode cX4_countPayment 10 = .ok (.aload_n 0, 1) := by decide +kernel
theorem dX4_countPayment_11 : decode cX4_countPayment 11 = .ok (.iconst 0, 1) := by decide +kernel
theorem dX4_countPayment_12 : decode cX4_countPayment 12 = .ok (.putfield 15, 3) := by decide +kernel
theorem dX4_countPayment_15 : decode cX4_countPayment 15 = .ok (.aload_n 0, 1) := by decide +kernel
theorem dX4_countPayment_16 : decode cX4_countPayment 16 = .ok (.iload_n 1, 1) := by decide +kernel
theorem dX4_countPayment_17 : decode cX4_countPayment 17 = .ok (.bipush 30, 2) := by decide +kernel
theorem dX4_countPayment_19 : decode cX4_countPayment 19 = .ok (.iadd, 1) := by decide +kernel
theorem dX4_countPayment_20 : decode cX4_countPayment 20 = .ok (.putfield 33, 3) := by decide +kernel
theorem dX4_countPayment_23 : decode cX4_countPayment 23 = .ok (.return_, 1) := by decide +kernel
theorem dX4_fail_0 : decode cX4_fail 0 = .ok (.aload_n 0, 1) := by decide +kernel
theorem dX4_fail_1 : decode cX4_fail 1 = .ok (.dup, 1) := by decide +kernel
theorem dX4_fail_2 : decode cX4_fail 2 = .ok (.getfield 15, 3) := by decide +kernel
theorem dX4_fail_5 : decode cX4_fail 5 = .ok (.iconst 1, 1) := by decide +kernel
theorem dX4_fail_6 : decode cX4_fail 6 = .ok (.iadd, 1) := by decide +kernel
theorem dX4_fail_7 : decode cX4_fail 7 = .ok (.putfield 15, 3) := by decide +kernel
theorem dX4_fail_10 : decode cX4_fail 10 = .ok (.aload_n 0, 1) := by decide +kernel
theorem dX4_fail_11 : decode cX4_fail 11 = .ok (.getfield 15, 3) := by decide +kernel
theorem dX4_fail_14 : decode cX4_fail 14 = .ok (.bipush 6, 2) := by decide +kernel
theorem dX4_fail_16 : decode cX4_fail 16 = .ok (.if_icmp .lt 10, 3) := by decide +kernel
theorem dX4_fail_19 : decode cX4_fail 19 = .ok (.aload_n 0, 1) := by decide +kernel
theorem dX4_fail_20 : decode cX4_fail 20 = .ok (.invokevirtual 42, 3) := by decide +kernel
theorem dX4_fail_23 : decode cX4_fail 23 = .ok (.goto 13, 3) := by decide +kernel
theorem dX4_fail_26 : decode cX4_fail 26 = .ok (.aload_n 0, 1) := by decide +kernel
theorem dX4_fail_27 : decode cX4_fail 27 = .ok (.dup, 1) := by decide +kernel
theorem dX4_fail_28 : decode cX4_fail 28 = .ok (.getfield 33, 3) := by decide +kernel
theorem dX4_fail_31 : decode cX4_fail 31 = .ok (.iconst 1, 1) := by decide +kernel
theorem dX4_fail_32 : decode cX4_fail 32 = .ok (.iadd, 1) := by decide +kernel
theorem dX4_fail_33 : decode cX4_fail 33 = .ok (.putfield 33, 3) := by decide +kernel
theorem dX4_fail_36 : decode cX4_fail 36 = .ok (.return_, 1) := by decide +kernel
theorem dX5_init_0 : decode cX5_init 0 = .ok (.aload_n 0, 1) := by decide +kernel
theorem dX5_init_1 : decode cX5_init 1 = .ok (.invokespecial 3, 3) := by decide +kernel
theorem dX5_init_4 : decode cX5_init 4 = .ok (.aload_n 0, 1) := by decide +kernel
theorem dX5_init_5 : decode cX5_init 5 = .ok (.iconst 5, 1) := by decide +kernel
theorem dX5_init_6 : decode cX5_init 6 = .ok (.anewarray 9, 3) := by decide +kernel
theorem dX5_init_9 : decode cX5_init 9 = .ok (.putfield 11, 3) := by decide +kernel
theorem dX5_init_12 : decode cX5_init 12 = .ok (.aload_n 0, 1) := by decide +kernel
theorem dX5_init_13 : decode cX5_init 13 = .ok (.new 15, 3) := by decide +kernel
theorem dX5_init_16 : decode cX5_init 16 = .ok (.dup, 1) := by decide +kernel
theorem dX5_init_17 : decode cX5_init 17 = .ok (.invokespecial 17, 3) := by decide +kernel
theorem dX5_init_20 : decode cX5_init 20 = .ok (.putfield 18, 3) := by decide +kernel
theorem dX5_init_23 : decode cX5_init 23 = .ok (.aload_n 0, 1) := by decide +kernel
theorem dX5_init_24 : decode cX5_init 24 = .ok (.new 15, 3) := by decide +kernel
theorem dX5_init_27 : decode cX5_init 27 = .ok (.dup, 1) := by decide +kernel
theorem dX5_init_28 : decode cX5_init 28 = .ok (.invokespecial 17, 3) := by decide +kernel
theorem dX5_init_31 : decode cX5_init 31 = .ok (.putfield 22, 3) := by decide +kernel
theorem dX5_init_34 : decode cX5_init 34 = .ok (.aload_n 0, 1) := by decide +kernel
theorem dX5_init_35 : decode cX5_init 35 = .ok (.new 15, 3) := by decide +kernel
theorem dX5_init_38 : decode cX5_init 38 = .ok (.dup, 1) := by decide +kernel
theorem dX5_init_39 : decode cX5_init 39 = .ok (.invokespecial 17, 3) := by decide +kernel
theorem dX5_init_42 : decode cX5_init 42 = .ok (.putfield 25, 3) := by decide +kernel
theorem dX5_init_45 : decode cX5_init 45 = .ok (.aload_n 0, 1) := by decide +kernel
theorem dX5_init_46 : decode cX5_init 46 = .ok (.new 15, 3) := by decide +kernel
theorem dX5_init_49 : decode cX5_init 49 = .ok (.dup, 1) := by decide +kernel
theorem dX5_init_50 : decode cX5_init 50 = .ok (.invokespecial 17, 3) := by decide +kernel
theorem dX5_init_53 : decode cX5_init 53 = .ok (.putfield 28, 3) := by decide +kernel
theorem dX5_init_56 : decode cX5_init 56 = .ok (.aload_n 0, 1) := by decide +kernel
theorem dX5_init_57 : decode cX5_init 57 = .ok (.iconst 0, 1) := by decide +kernel
theorem dX5_init_58 : decode cX5_init 58 = .ok (.putfield 31, 3) := by decide +kernel
theorem dX5_init_61 : decode cX5_init 61 = .ok (.aload_n 0, 1) := by decide +kernel
theorem dX5_init_62 : decode cX5_init 62 = .ok (.iconst 0, 1) := by decide +kernel
theorem dX5_init_63 : decode cX5_init 63 = .ok (.putfield 35, 3) := by decide +kernel
theorem dX5_init_66 : decode cX5_init 66 = .ok (.aload_n 0, 1) := by decide +kernel
theorem dX5_init_67 : decode cX5_init 67 = .ok (.iconst 0, 1) := by decide +kernel
theorem dX5_init_68 : decode cX5_init 68 = .ok (.putfield 38, 3) := by decide +kernel
theorem dX5_init_71 : decode cX5_init 71 = .ok (.iconst 0, 1) := by decide +kernel
theorem dX5_init_72 : decode cX5_init 72 = .ok (.istore_n 1, 1) := by decide +kernel
theorem dX5_init_73 : decode cX5_init 73 = .ok (.iload_n 1, 1) := by decide +kernel
theorem dX5_init_74 : decode cX5_init 74 = .ok (.aload_n 0, 1) := by decide +kernel
theorem dX5_init_75 : decode cX5_init 75 = .ok (.getfield 11, 3) := by decide +kernel
theorem dX5_init_78 : decode cX5_init 78 = .ok (.arraylength, 1) := by decide +kernel
theorem dX5_init_79 : decode cX5_init 79 = .ok (.if_icmp .ge 23, 3) := by decide +kernel
theorem dX5_init_82 : decode cX5_init 82 = .ok (.aload_n 0, 1) := by decide +kernel
theorem dX5_init_83 : decode cX5_init 83 = .ok (.getfield 11, 3) := by decide +kernel
theorem dX5_init_86 : decode cX5_init 86 = .ok (.iload_n 1, 1) := by decide +kernel
theorem dX5_init_87 : decode cX5_init 87 = .ok (.new 9, 3) := by decide +kernel
theorem dX5_init_90 : decode cX5_init 90 = .ok (.dup, 1) := by decide +kernel
theorem dX5_init_91 : decode cX5_init 91 = .ok (.iload_n 1, 1) := by decide +kernel
theorem dX5_init_92 : decode cX5_init 92 = .ok (.invokespecial 41, 3) := by decide +kernel
theorem dX5_init_95 : decode cX5_init 95 = .ok (.aastore, 1) := by decide +kernel
theorem dX5_init_96 : decode cX5_init 96 = .ok (.iinc 1 1, 3) := by decide +kernel
theorem dX5_init_99 : decode cX5_init 99 = .ok (.goto (-26), 3) := by decide +kernel
theorem dX5_init_102 : decode cX5_init 102 = .ok (.return_, 1) := by decide +kernel
theorem dX5_setTax_0 : decode cX5_setTax 0 = .ok (.aload_n 0, 1) := by decide +kernel
theorem dX5_setTax_1 : decode cX5_setTax 1 = .ok (.iload_n 1, 1) := by decide +kernel
theorem dX5_setTax_2 : decode cX5_setTax 2 = .ok (.invokevirtual 44, 3) := by decide +kernel
theorem dX5_setTax_5 : decode cX5_setTax 5 = .ok (.astore 4, 2) := by decide +kernel
theorem dX5_setTax_7 : decode cX5_setTax 7 = .ok (.iload_n 2, 1) := by decide +kernel
theorem dX5_setTax_8 : decode cX5_setTax 8 = .ok (.iconst 0, 1) := by decide +kernel
theorem dX5_setTax_9 : decode cX5_setTax 9 = .ok (.bipush 30, 2) := by decide +kernel
theorem dX5_setTax_11 : decode cX5_setTax 11 = .ok (.invokestatic 48, 3) := by decide +kernel
theorem dX5_setTax_14 : decode cX5_setTax 14 = .ok (.aload 4, 2) := by decide +kernel
theorem dX5_setTax_16 : decode cX5_setTax 16 = .ok (.getfield 52, 3) := by decide +kernel
theorem dX5_setTax_19 : decode cX5_setTax 19 = .ok (.istore 5, 2) := by decide +kernel
theorem dX5_setTax_21 : decode cX5_setTax 21 = .ok (.aload 4, 2) := by decide +kernel
theorem dX5_setTax_23 : decode cX5_setTax 23 = .ok (.iload_n 2, 1) := by decide +kernel
theorem dX5_setTax_24 : decode cX5_setTax 24 = .ok (.putfield 52, 3) := by decide +kernel
theorem dX5_setTax_27 : decode cX5_setTax 27 = .ok (.aload 4, 2) := by decide +kernel
theorem dX5_setTax_29 : decode cX5_setTax 29 = .ok (.iload_n 3, 1) := by decide +kernel
theorem dX5_setTax_30 : decode cX5_setTax 30 = .ok (.putfield 55, 3) := by decide +kernel
theorem dX5_setTax_33 : decode cX5_setTax 33 = .ok (.iload 5, 2) := by decide +kernel
theorem dX5_setTax_35 : decode cX5_setTax 35 = .ok (.ireturn, 1) := by decide +kernel
theorem dX5_addMaker_0 : decode cX5_addMaker 0 = .ok (.iload_n 1, 1) := by decide +kernel
theorem dX5_addMaker_1 : decode cX5_addMaker 1 = .ok (.iconst 0, 1) := by decide +kernel
theorem dX5_addMaker_2 : decode cX5_addMaker 2 = .ok (.ldc 59, 2) := by decide +kernel
theorem dX5_addMaker_4 : decode cX5_addMaker 4 = .ok (.invokestatic 48, 3) := by decide +kernel
theorem dX5_addMaker_7 : decode cX5_addMaker 7 = .ok (.aload_n 0, 1) := by decide +kernel
theorem dX5_addMaker_8 : decode cX5_addMaker 8 = .ok (.getfield 18, 3) := by decide +kernel
theorem dX5_addMaker_11 : decode cX5_addMaker 11 = .ok (.invokevirtual 60, 3) := by decide +kernel
theorem dX5_addMaker_14 : decode cX5_addMaker 14 = .ok (.bipush 6, 2) := by decide +kernel
theorem dX5_addMaker_16 : decode cX5_addMaker 16 = .ok (.invokestatic 64, 3) := by decide +kernel
theorem dX5_addMaker_19 : decode cX5_addMaker 19 = .ok (.aload_n 0, 1) := by decide +kernel
theorem dX5_addMaker_20 : decode cX5_addMaker 20 = .ok (.getfield 18, 3) := by decide +kernel
theorem dX5_addMaker_23 : decode cX5_addMaker 23 = .ok (.new 68, 3) := by decide +kernel
theorem dX5_addMaker_26 : decode cX5_addMaker 26 = .ok (.dup, 1) := by decide +kernel
theorem dX5_addMaker_27 : decode cX5_addMaker 27 = .ok (.iload_n 1, 1) := by decide +kernel
theorem dX5_addMaker_28 : decode cX5_addMaker 28 = .ok (.invokespecial 70, 3) := by decide +kernel
theorem dX5_addMaker_31 : decode cX5_addMaker 31 = .ok (.invokevirtual 71, 3) := by decide +kernel
theorem dX5_addMaker_34 : decode cX5_addMaker 34 = .ok (.pop, 1) := by decide +kernel
theorem dX5_addMaker_35 : decode cX5_addMaker 35 = .ok (.aload_n 0, 1) := by decide +kernel
theorem dX5_addMaker_36 : decode cX5_addMaker 36 = .ok (.getfield 18, 3) := by decide +kernel
theorem dX5_addMaker_39 : decode cX5_addMaker 39 = .ok (.invokevirtual 60, 3) := by decide +kernel
theorem dX5_addMaker_42 : decode cX5_addMaker 42 = .ok (.iconst 1, 1) := by decide +kernel
theorem dX5_addMaker_43 : decode cX5_addMaker 43 = .ok (.isub, 1) := by decide +kernel
theorem dX5_addMaker_44 : decode cX5_addMaker 44 = .ok (.ireturn, 1) := by decide +kernel
theorem dX5_addProduct_0 : decode cX5_addProduct 0 = .ok (.aload_n 0, 1) := by decide +kernel
theorem dX5_addProduct_1 : decode cX5_addProduct 1 = .ok (.iload_n 1, 1) := by decide +kernel
theorem dX5_addProduct_2 : decode cX5_addProduct 2 = .ok (.invokevirtual 75, 3) := by decide +kernel
theorem dX5_addProduct_5 : decode cX5_addProduct 5 = .ok (.astore_n 3, 1) := by decide +kernel
theorem dX5_addProduct_6 : decode cX5_addProduct 6 = .ok (.iload_n 2, 1) := by decide +kernel
theorem dX5_addProduct_7 : decode cX5_addProduct 7 = .ok (.iconst 0, 1) := by decide +kernel
theorem dX5_addProduct_8 : decode cX5_addProduct 8 = .ok (.ldc 79, 2) := by decide +kernel
theorem dX5_addProduct_10 : decode cX5_addProduct 10 = .ok (.invokestatic 48, 3) := by decide +kernel
theorem dX5_addProduct_13 : decode cX5_addProduct 13 = .ok (.aload_n 0, 1) := by decide +kernel
theorem dX5_addProduct_14 : decode cX5_addProduct 14 = .ok (.getfield 22, 3) := by decide +kernel
theorem dX5_addProduct_17 : decode cX5_addProduct 17 = .ok (.invokevirtual 60, 3) := by decide +kernel
theorem dX5_addProduct_20 : decode cX5_addProduct 20 = .ok (.bipush 20, 2) := by decide +kernel
theorem dX5_addProduct_22 : decode cX5_addProduct 22 = .ok (.invokestatic 64, 3) := by decide +kernel
theorem dX5_addProduct_25 : decode cX5_addProduct 25 = .ok (.aload_n 0, 1) := by decide +kernel
theorem dX5_addProduct_26 : decode cX5_addProduct 26 = .ok (.getfield 22, 3) := by decide +kernel
theorem dX5_addProduct_29 : decode cX5_addProduct 29 = .ok (.new 80, 3) := by decide +kernel
theorem dX5_addProduct_32 : decode cX5_addProduct 32 = .ok (.dup, 1) := by decide +kernel
theorem dX5_addProduct_33 : decode cX5_addProduct 33 = .ok (.aload_n 0, 1) := by decide +kernel
theorem dX5_addProduct_34 : decode cX5_addProduct 34 = .ok (.getfield 22, 3) := by decide +kernel
theorem dX5_addProduct_37 : decode cX5_addProduct 37 = .ok (.invokevirtual 60, 3) := by decide +kernel
theorem dX5_addProduct_40 : decode cX5_addProduct 40 = .ok (.aload_n 3, 1) := by decide +kernel
theorem dX5_addProduct_41 : decode cX5_addProduct 41 = .ok (.iload_n 2, 1) := by decide +kernel
theorem dX5_addProduct_42 : decode cX5_addProduct 42 = .ok (.invokespecial 82, 3) := by decide +kernel
theorem dX5_addProduct_45 : decode cX5_addProduct 45 = .ok (.invokevirtual 71, 3) := by decide +kernel
theorem dX5_addProduct_48 : decode cX5_addProduct 48 = .ok (.pop, 1) := by decide +kernel
theorem dX5_addProduct_49 : decode cX5_addProduct 49 = .ok (.aload_n 0, 1) := by decide +kernel
theorem dX5_addProduct_50 : decode cX5_addProduct 50 = .ok (.getfield 22, 3) := by decide +kernel
theorem dX5_addProduct_53 : decode cX5_addProduct 53 = .ok (.invokevirtual 60, 3) := by decide +kernel
theorem dX5_addProduct_56 : decode cX5_addProduct 56 = .ok (.iconst 1, 1) := by decide +kernel
theorem dX5_addProduct_57 : decode cX5_addProduct 57 = .ok (.isub, 1) := by decide +kernel
theorem dX5_addProduct_58 : decode cX5_addProduct 58 = .ok (.ireturn, 1) := by decide +kernel
theorem dX5_setPrice_0 : decode cX5_setPrice 0 = .ok (.aload_n 0, 1) := by decide +kernel
theorem dX5_setPrice_1 : decode cX5_setPrice 1 = .ok (.iload_n 1, 1) := by decide +kernel
theorem dX5_setPrice_2 : decode cX5_setPrice 2 = .ok (.invokevirtual 85, 3) := by decide +kernel
theorem dX5_setPrice_5 : decode cX5_setPrice 5 = .ok (.astore 4, 2) := by decide +kernel
theorem dX5_setPrice_7 : decode cX5_setPrice 7 = .ok (.aload_n 0, 1) := by decide +kernel
theorem dX5_setPrice_8 : decode cX5_setPrice 8 = .ok (.iload_n 2, 1) := by decide +kernel
theorem dX5_setPrice_9 : decode cX5_setPrice 9 = .ok (.invokevirtual 44, 3) := by decide +kernel
theorem dX5_setPrice_12 : decode cX5_setPrice 12 = .ok (.astore 5, 2) := by decide +kernel
theorem dX5_setPrice_14 : decode cX5_setPrice 14 = .ok (.iload_n 3, 1) := by decide +kernel
theorem dX5_setPrice_15 : decode cX5_setPrice 15 = .ok (.iconst 0, 1) := by decide +kernel
theorem dX5_setPrice_16 : decode cX5_setPrice 16 = .ok (.ldc 79, 2) := by decide +kernel
theorem dX5_setPrice_18 : decode cX5_setPrice 18 = .ok (.invokestatic 48, 3) := by decide +kernel
theorem dX5_setPrice_21 : decode cX5_setPrice 21 = .ok (.aload 4, 2) := by decide +kernel
theorem dX5_setPrice_23 : decode cX5_setPrice 23 = .ok (.aload 5, 2) := by decide +kernel
theorem dX5_setPrice_25 : decode cX5_setPrice 25 = .ok (.iload_n 3, 1) := by decide +kernel
theorem dX5_setPrice_26 : decode cX5_setPrice 26 = .ok (.invokevirtual 89, 3) := by decide +kernel
theorem dX5_setPrice_29 : decode cX5_setPrice 29 = .ok (.ireturn, 1) := by decide +kernel
theorem dX5_buy_0 : decode cX5_buy 0 = .ok (.aload_n 0, 1) := by decide +kernel
theorem dX5_buy_1 : decode cX5_buy 1 = .ok (.iload_n 1, 1) := by decide +kernel
theorem dX5_buy_2 : decode cX5_buy 2 = .ok (.invokevirtual 85, 3) := by decide +kernel
theorem dX5_buy_5 : decode cX5_buy 5 = .ok (.astore_n 3, 1) := by decide +kernel
theorem dX5_buy_6 : decode cX5_buy 6 = .ok (.aload_n 0, 1) := by decide +kernel
theorem dX5_buy_7 : decode cX5_buy 7 = .ok (.iload_n 2, 1) := by decide +kernel
theorem dX5_buy_8 : decode cX5_buy 8 = .ok (.invokevirtual 44, 3) := by decide +kernel
theorem dX5_buy_11 : decode cX5_buy 11 = .ok (.astore 4, 2) := by decide +kernel
theorem dX5_buy_13 : decode cX5_buy 13 = .ok (.aload_n 0, 1) := by decide +kernel
theorem dX5_buy_14 : decode cX5_buy 14 = .ok (.aload_n 3, 1) := by decide +kernel
theorem dX5_buy_15 : decode cX5_buy 15 = .ok (.aload 4, 2) := by decide +kernel
theorem dX5_buy_17 : decode cX5_buy 17 = .ok (.aload_n 3, 1) := by decide +kernel
theorem dX5_buy_18 : decode cX5_buy 18 = .ok (.aload 4, 2) := by decide +kernel
theorem dX5_buy_20 : decode cX5_buy 20 = .ok (.invokevirtual 93, 3) := by decide +kernel
theorem dX5_buy_23 : decode cX5_buy 23 = .ok (.iconst 0, 1) := by decide +kernel
theorem dX5_buy_24 : decode cX5_buy 24 = .ok (.invokevirtual 97, 3) := by decide +kernel
theorem dX5_buy_27 : decode cX5_buy 27 = .ok (.ireturn, 1) := by decide +kernel
theorem dX5_refund_0 : decode cX5_refund 0 = .ok (.aload_n 0, 1) := by decide +kernel
theorem dX5_refund_1 : decode cX5_refund 1 = .ok (.iload_n 1, 1) := by decide +kernel
theorem dX5_refund_2 : decode cX5_refund 2 = .ok (.invokevirtual 101, 3) := by decide +kernel
theorem dX5_refund_5 : decode cX5_refund 5 = .ok (.astore_n 2, 1) := by decide +kernel
theorem dX5_refund_6 : decode cX5_refund 6 = .ok (.aload_n 2, 1) := by decide +kernel
theorem dX5_refund_7 : decode cX5_refund 7 = .ok (.getfield 105, 3) := by decide +kernel
theorem dX5_refund_10 : decode cX5_refund 10 = .ok (.ifCond .eq 13, 3) := by decide +kernel
theorem dX5_refund_13 : decode cX5_refund 13 = .ok (.new 110, 3) := by decide +kernel
theorem dX5_refund_16 : decode cX5_refund 16 = .ok (.dup, 1) := by decide +kernel
theorem dX5_refund_17 : decode cX5_refund 17 = .ok (.ldc 112, 2) := by decide +kernel
theorem dX5_refund_19 : decode cX5_refund 19 = .ok (.invokespecial 114, 3) := by decide +kernel
theorem dX5_refund_22 : decode cX5_refund 22 = .ok (.athrow, 1) := by decide +kernel
theorem dX5_refund_23 : decode cX5_refund 23 = .ok (.aload_n 0, 1) := by decide +kernel
theorem dX5_refund_24 : decode cX5_refund 24 = .ok (.invokevirtual 117, 3) := by decide +kernel
theorem dX5_refund_27 : decode cX5_refund 27 = .ok (.aload_n 2, 1) := by decide +kernel
theorem dX5_refund_28 : decode cX5_refund 28 = .ok (.getfield 120, 3) := by decide +kernel
theorem dX5_refund_31 : decode cX5_refund 31 = .ok (.isub, 1) := by decide +kernel
theorem dX5_refund_32 : decode cX5_refund 32 = .ok (.iconst 3, 1) := by decide +kernel
theorem dX5_refund_33 : decode cX5_refund 33 = .ok (.if_icmp .le 13, 3) := by decide +kernel
theorem dX5_refund_36 : decode cX5_refund 36 = .ok (.new 110, 3) := by decide +kernel
theorem dX5_refund_39 : decode cX5_refund 39 = .ok (.dup, 1) := by decide +kernel
theorem dX5_refund_40 : decode cX5_refund 40 = .ok (.ldc 123, 2) := by decide +kernel
theorem dX5_refund_42 : decode cX5_refund 42 = .ok (.invokespecial 114, 3) := by decide +kernel
theorem dX5_refund_45 : decode cX5_refund 45 = .ok (.athrow, 1) := by decide +kernel
theorem dX5_refund_46 : decode cX5_refund 46 = .ok (.aload_n 2, 1) := by decide +kernel
theorem dX5_refund_47 : decode cX5_refund 47 = .ok (.iconst 1, 1) := by decide +kernel
theorem dX5_refund_48 : decode cX5_refund 48 = .ok (.putfield 105, 3) := by decide +kernel
theorem dX5_refund_51 : decode cX5_refund 51 = .ok (.aload_n 0, 1) := by decide +kernel
theorem dX5_refund_52 : decode cX5_refund 52 = .ok (.aload_n 2, 1) := by decide +kernel
theorem dX5_refund_53 : decode cX5_refund 53 = .ok (.iconst (-1), 1) := by decide +kernel
theorem dX5_refund_54 : decode cX5_refund 54 = .ok (.invokevirtual 125, 3) := by decide +kernel
theorem dX5_refund_57 : decode cX5_refund 57 = .ok (.aload_n 2, 1) := by decide +kernel
theorem dX5_refund_58 : decode cX5_refund 58 = .ok (.getfield 129, 3) := by decide +kernel
theorem dX5_refund_61 : decode cX5_refund 61 = .ok (.ireturn, 1) := by decide +kernel
theorem dX5_sales_0 : decode cX5_sales 0 = .ok (.aload_n 0, 1) := by decide +kernel
theorem dX5_sales_1 : decode cX5_sales 1 = .ok (.getfield 25, 3) := by decide +kernel
theorem dX5_sales_4 : decode cX5_sales 4 = .ok (.invokevirtual 60, 3) := by decide +kernel
theorem dX5_sales_7 : decode cX5_sales 7 = .ok (.ireturn, 1) := by decide +kernel
theorem dX5_paid_0 : decode cX5_paid 0 = .ok (.aload_n 0, 1) := by decide +kernel
theorem dX5_paid_1 : decode cX5_paid 1 = .ok (.iload_n 1, 1) := by decide +kernel
theorem dX5_paid_2 : decode cX5_paid 2 = .ok (.invokevirtual 101, 3) := by decide +kernel
theorem dX5_paid_5 : decode cX5_paid 5 = .ok (.getfield 129, 3) := by decide +kernel
theorem dX5_paid_8 : decode cX5_paid 8 = .ok (.ireturn, 1) := by decide +kernel
theorem dX5_tax_0 : decode cX5_tax 0 = .ok (.aload_n 0, 1) := by decide +kernel
theorem dX5_tax_1 : decode cX5_tax 1 = .ok (.iload_n 1, 1) := by decide +kernel
theorem dX5_tax_2 : decode cX5_tax 2 = .ok (.invokevirtual 101, 3) := by decide +kernel
theorem dX5_tax_5 : decode cX5_tax 5 = .ok (.getfield 132, 3) := by decide +kernel
theorem dX5_tax_8 : decode cX5_tax 8 = .ok (.ireturn, 1) := by decide +kernel
theorem dX5_shopShare_0 : decode cX5_shopShare 0 = .ok (.aload_n 0, 1) := by decide +kernel
theorem dX5_shopShare_1 : decode cX5_shopShare 1 = .ok (.iload_n 1, 1) := by decide +kernel
theorem dX5_shopShare_2 : decode cX5_shopShare 2 = .ok (.invokevirtual 101, 3) := by decide +kernel
theorem dX5_shopShare_5 : decode cX5_shopShare 5 = .ok (.getfield 135, 3) := by decide +kernel
theorem dX5_shopShare_8 : decode cX5_shopShare 8 = .ok (.ireturn, 1) := by decide +kernel
theorem dX5_makerPart_0 : decode cX5_makerPart 0 = .ok (.aload_n 0, 1) := by decide +kernel
theorem dX5_makerPart_1 : decode cX5_makerPart 1 = .ok (.iload_n 1, 1) := by decide +kernel
theorem dX5_makerPart_2 : decode cX5_makerPart 2 = .ok (.invokevirtual 101, 3) := by decide +kernel
theorem dX5_makerPart_5 : decode cX5_makerPart 5 = .ok (.getfield 138, 3) := by decide +kernel
theorem dX5_makerPart_8 : decode cX5_makerPart 8 = .ok (.ireturn, 1) := by decide +kernel
theorem dX5_subscribe_0 : decode cX5_subscribe 0 = .ok (.aload_n 0, 1) := by decide +kernel
theorem dX5_subscribe_1 : decode cX5_subscribe 1 = .ok (.iload_n 1, 1) := by decide +kernel
theorem dX5_subscribe_2 : decode cX5_subscribe 2 = .ok (.invokevirtual 85, 3) := by decide +kernel
theorem dX5_subscribe_5 : decode cX5_subscribe 5 = .ok (.astore 5, 2) := by decide +kernel
theorem dX5_subscribe_7 : decode cX5_subscribe 7 = .ok (.aload_n 0, 1) := by decide +kernel
theorem dX5_subscribe_8 : decode cX5_subscribe 8 = .ok (.iload_n 2, 1) := by decide +kernel
theorem dX5_subscribe_9 : decode cX5_subscribe 9 = .ok (.invokevirtual 44, 3) := by decide +kernel
theorem dX5_subscribe_12 : decode cX5_subscribe 12 = .ok (.astore 6, 2) := by decide +kernel
theorem dX5_subscribe_14 : decode cX5_subscribe 14 = .ok (.iload_n 3, 1) := by decide +kernel
theorem dX5_subscribe_15 : decode cX5_subscribe 15 = .ok (.iconst 1, 1) := by decide +kernel
theorem dX5_subscribe_16 : decode cX5_subscribe 16 = .ok (.bipush 60, 2) := by decide +kernel
theorem dX5_subscribe_18 : decode cX5_subscribe 18 = .ok (.invokestatic 48, 3) := by decide +kernel
theorem dX5_subscribe_21 : decode cX5_subscribe 21 = .ok (.aload_n 0, 1) := by decide +kernel
theorem dX5_subscribe_22 : decode cX5_subscribe 22 = .ok (.getfield 28, 3) := by decide +kernel
theorem dX5_subscribe_25 : decode cX5_subscribe 25 = .ok (.invokevirtual 60, 3) := by decide +kernel
theorem dX5_subscribe_28 : decode cX5_subscribe 28 = .ok (.bipush 40, 2) := by decide +kernel
theorem dX5_subscribe_30 : decode cX5_subscribe 30 = .ok (.invokestatic 64, 3) := by decide +kernel
theorem dX5_subscribe_33 : decode cX5_subscribe 33 = .ok (.aload_n 0, 1) := by decide +kernel
theorem dX5_subscribe_34 : decode cX5_subscribe 34 = .ok (.getfield 28, 3) := by decide +kernel
theorem dX5_subscribe_37 : decode cX5_subscribe 37 = .ok (.new 141, 3) := by decide +kernel
theorem dX5_subscribe_40 : decode cX5_subscribe 40 = .ok (.dup, 1) := by decide +kernel
theorem dX5_subscribe_41 : decode cX5_subscribe 41 = .ok (.aload 5, 2) := by decide +kernel
theorem dX5_subscribe_43 : decode cX5_subscribe 43 = .ok (.aload 6, 2) := by decide +kernel
theorem dX5_subscribe_45 : decode cX5_subscribe 45 = .ok (.aload_n 0, 1) := by decide +kernel
theorem dX5_subscribe_46 : decode cX5_subscribe 46 = .ok (.getfield 31, 3) := by decide +kernel
theorem dX5_subscribe_49 : decode cX5_subscribe 49 = .ok (.iload_n 3, 1) := by decide +kernel
theorem dX5_subscribe_50 : decode cX5_subscribe 50 = .ok (.iadd, 1) := by decide +kernel
theorem dX5_subscribe_51 : decode cX5_subscribe 51 = .ok (.iload 4, 2) := by decide +kernel
theorem dX5_subscribe_53 : decode cX5_subscribe 53 = .ok (.invokespecial 143, 3) := by decide +kernel
theorem dX5_subscribe_56 : decode cX5_subscribe 56 = .ok (.invokevirtual 71, 3) := by decide +kernel
theorem dX5_subscribe_59 : decode cX5_subscribe 59 = .ok (.pop, 1) := by decide +kernel
theorem dX5_subscribe_60 : decode cX5_subscribe 60 = .ok (.aload_n 0, 1) := by decide +kernel
theorem dX5_subscribe_61 : decode cX5_subscribe 61 = .ok (.getfield 28, 3) := by decide +kernel
theorem dX5_subscribe_64 : decode cX5_subscribe 64 = .ok (.invokevirtual 60, 3) := by decide +kernel
theorem dX5_subscribe_67 : decode cX5_subscribe 67 = .ok (.iconst 1, 1) := by decide +kernel
theorem dX5_subscribe_68 : decode cX5_subscribe 68 = .ok (.isub, 1) := by decide +kernel
theorem dX5_subscribe_69 : decode cX5_subscribe 69 = .ok (.ireturn, 1) := by decide +kernel
theorem dX5_cancel_0 : decode cX5_cancel 0 = .ok (.aload_n 0, 1) := by decide +kernel
theorem dX5_cancel_1 : decode cX5_cancel 1 = .ok (.iload_n 1, 1) := by decide +kernel
theorem dX5_cancel_2 : decode cX5_cancel 2 = .ok (.invokevirtual 146, 3) := by decide +kernel
theorem dX5_cancel_5 : decode cX5_cancel 5 = .ok (.astore_n 2, 1) := by decide +kernel
theorem dX5_cancel_6 : decode cX5_cancel 6 = .ok (.aload_n 2, 1) := by decide +kernel
theorem dX5_cancel_7 : decode cX5_cancel 7 = .ok (.invokestatic 165, 3) := by decide +kernel
theorem dX5_cancel_10 : decode cX5_cancel 10 = .ok (.aload_n 2, 1) := by decide +kernel
theorem dX5_cancel_11 : decode cX5_cancel 11 = .ok (.invokevirtual 175, 3) := by decide +kernel
theorem dX5_cancel_14 : decode cX5_cancel 14 = .ok (.aload_n 2, 1) := by decide +kernel
theorem dX5_cancel_15 : decode cX5_cancel 15 = .ok (.getfield 178, 3) := by decide +kernel
theorem dX5_cancel_18 : decode cX5_cancel 18 = .ok (.ireturn, 1) := by decide +kernel
theorem dX5_payments_0 : decode cX5_payments 0 = .ok (.aload_n 0, 1) := by decide +kernel
theorem dX5_payments_1 : decode cX5_payments 1 = .ok (.iload_n 1, 1) := by decide +kernel
theorem dX5_payments_2 : decode cX5_payments 2 = .ok (.invokevirtual 146, 3) := by decide +kernel
theorem dX5_payments_5 : decode cX5_payments 5 = .ok (.getfield 178, 3) := by decide +kernel
theorem dX5_payments_8 : decode cX5_payments 8 = .ok (.ireturn, 1) := by decide +kernel
theorem dX5_next_0 : decode cX5_next 0 = .ok (.aload_n 0, 1) := by decide +kernel
theorem dX5_next_1 : decode cX5_next 1 = .ok (.iload_n 1, 1) := by decide +kernel
theorem dX5_next_2 : decode cX5_next 2 = .ok (.invokevirtual 146, 3) := by decide +kernel
theorem dX5_next_5 : decode cX5_next 5 = .ok (.getfield 181, 3) := by decide +kernel
theorem dX5_next_8 : decode cX5_next 8 = .ok (.ireturn, 1) := by decide +kernel
theorem dX5_payout_0 : decode cX5_payout 0 = .ok (.aload_n 0, 1) := by decide +kernel
theorem dX5_payout_1 : decode cX5_payout 1 = .ok (.iload_n 1, 1) := by decide +kernel
theorem dX5_payout_2 : decode cX5_payout 2 = .ok (.invokevirtual 75, 3) := by decide +kernel
theorem dX5_payout_5 : decode cX5_payout 5 = .ok (.astore_n 3, 1) := by decide +kernel
theorem dX5_payout_6 : decode cX5_payout 6 = .ok (.iload_n 2, 1) := by decide +kernel
theorem dX5_payout_7 : decode cX5_payout 7 = .ok (.iconst 0, 1) := by decide +kernel
theorem dX5_payout_8 : decode cX5_payout 8 = .ok (.aload_n 0, 1) := by decide +kernel
theorem dX5_payout_9 : decode cX5_payout 9 = .ok (.invokevirtual 117, 3) := by decide +kernel
theorem dX5_payout_12 : decode cX5_payout 12 = .ok (.iconst 1, 1) := by decide +kernel
theorem dX5_payout_13 : decode cX5_payout 13 = .ok (.isub, 1) := by decide +kernel
theorem dX5_payout_14 : decode cX5_payout 14 = .ok (.invokestatic 48, 3) := by decide +kernel
theorem dX5_payout_17 : decode cX5_payout 17 = .ok (.aload_n 3, 1) := by decide +kernel
theorem dX5_payout_18 : decode cX5_payout 18 = .ok (.iload_n 2, 1) := by decide +kernel
theorem dX5_payout_19 : decode cX5_payout 19 = .ok (.invokevirtual 184, 3) := by decide +kernel
theorem dX5_payout_22 : decode cX5_payout 22 = .ok (.ireturn, 1) := by decide +kernel
theorem dX5_balance_0 : decode cX5_balance 0 = .ok (.aload_n 0, 1) := by decide +kernel
theorem dX5_balance_1 : decode cX5_balance 1 = .ok (.iload_n 1, 1) := by decide +kernel
theorem dX5_balance_2 : decode cX5_balance 2 = .ok (.invokevirtual 75, 3) := by decide +kernel
theorem dX5_balance_5 : decode cX5_balance 5 = .ok (.invokevirtual 191, 3) := by decide +kernel
theorem dX5_balance_8 : decode cX5_balance 8 = .ok (.ireturn, 1) := by decide +kernel
theorem dX5_heldTax_0 : decode cX5_heldTax 0 = .ok (.aload_n 0, 1) := by decide +kernel
theorem dX5_heldTax_1 : decode cX5_heldTax 1 = .ok (.iload_n 1, 1) := by decide +kernel
theorem dX5_heldTax_2 : decode cX5_heldTax 2 = .ok (.invokevirtual 44, 3) := by decide +kernel
theorem dX5_heldTax_5 : decode cX5_heldTax 5 = .ok (.getfield 194, 3) := by decide +kernel
theorem dX5_heldTax_8 : decode cX5_heldTax 8 = .ok (.ireturn, 1) := by decide +kernel
theorem dX5_shop_0 : decode cX5_shop 0 = .ok (.aload_n 0, 1) := by decide +kernel
theorem dX5_shop_1 : decode cX5_shop 1 = .ok (.getfield 35, 3) := by decide +kernel
theorem dX5_shop_4 : decode cX5_shop 4 = .ok (.ireturn, 1) := by decide +kernel
theorem dX5_takings_0 : decode cX5_takings 0 = .ok (.aload_n 0, 1) := by decide +kernel
theorem dX5_takings_1 : decode cX5_takings 1 = .ok (.getfield 38, 3) := by decide +kernel
theorem dX5_takings_4 : decode cX5_takings 4 = .ok (.ireturn, 1) := by decide +kernel
theorem dX5_pass_0 : decode cX5_pass 0 = .ok (.iload_n 1, 1) := by decide +kernel
theorem dX5_pass_1 : decode cX5_pass 1 = .ok (.iconst 1, 1) := by decide +kernel
theorem dX5_pass_2 : decode cX5_pass 2 = .ok (.sipush 400, 3) := by decide +kernel
theorem dX5_pass_5 : decode cX5_pass 5 = .ok (.invokestatic 48, 3) := by decide +kernel
theorem dX5_pass_8 : decode cX5_pass 8 = .ok (.aload_n 0, 1) := by decide +kernel
theorem dX5_pass_9 : decode cX5_pass 9 = .ok (.getfield 31, 3) := by decide +kernel
theorem dX5_pass_12 : decode cX5_pass 12 = .ok (.iload_n 1, 1) := by decide +kernel
theorem dX5_pass_13 : decode cX5_pass 13 = .ok (.iadd, 1) := by decide +kernel
theorem dX5_pass_14 : decode cX5_pass 14 = .ok (.sipush 3600, 3) := by decide +kernel
theorem dX5_pass_17 : decode cX5_pass 17 = .ok (.if_icmp .le 13, 3) := by decide +kernel
theorem dX5_pass_20 : decode cX5_pass 20 = .ok (.new 110, 3) := by decide +kernel
theorem dX5_pass_23 : decode cX5_pass 23 = .ok (.dup, 1) := by decide +kernel
theorem dX5_pass_24 : decode cX5_pass 24 = .ok (.ldc 197, 2) := by decide +kernel
theorem dX5_pass_26 : decode cX5_pass 26 = .ok (.invokespecial 114, 3) := by decide +kernel
theorem dX5_pass_29 : decode cX5_pass 29 = .ok (.athrow, 1) := by decide +kernel
theorem dX5_pass_30 : decode cX5_pass 30 = .ok (.iconst 0, 1) := by decide +kernel
theorem dX5_pass_31 : decode cX5_pass 31 = .ok (.istore_n 2, 1) := by decide +kernel
theorem dX5_pass_32 : decode cX5_pass 32 = .ok (.iconst 0, 1) := by decide +kernel
theorem dX5_pass_33 : decode cX5_pass 33 = .ok (.istore_n 3, 1) := by decide +kernel
theorem dX5_pass_34 : decode cX5_pass 34 = .ok (.iload_n 3, 1) := by decide +kernel
theorem dX5_pass_35 : decode cX5_pass 35 = .ok (.iload_n 1, 1) := by decide +kernel
theorem dX5_pass_36 : decode cX5_pass 36 = .ok (.if_icmp .ge 16, 3) := by decide +kernel
theorem dX5_pass_39 : decode cX5_pass 39 = .ok (.iload_n 2, 1) := by decide +kernel
theorem dX5_pass_40 : decode cX5_pass 40 = .ok (.aload_n 0, 1) := by decide +kernel
theorem dX5_pass_41 : decode cX5_pass 41 = .ok (.invokevirtual 199, 3) := by decide +kernel
theorem dX5_pass_44 : decode cX5_pass 44 = .ok (.iadd, 1) := by decide +kernel
theorem dX5_pass_45 : decode cX5_pass 45 = .ok (.istore_n 2, 1) := by decide +kernel
theorem dX5_pass_46 : decode cX5_pass 46 = .ok (.iinc 3 1, 3) := by decide +kernel
theorem dX5_pass_49 : decode cX5_pass 49 = .ok (.goto (-15), 3) := by decide +kernel
theorem dX5_pass_52 : decode cX5_pass 52 = .ok (.iload_n 2, 1) := by decide +kernel
theorem dX5_pass_53 : decode cX5_pass 53 = .ok (.ireturn, 1) := by decide +kernel
theorem dX5_day_0 : decode cX5_day 0 = .ok (.aload_n 0, 1) := by decide +kernel
theorem dX5_day_1 : decode cX5_day 1 = .ok (.getfield 31, 3) := by decide +kernel
theorem dX5_day_4 : decode cX5_day 4 = .ok (.ireturn, 1) := by decide +kernel
theorem dX5_landAt_0 : decode cX5_landAt 0 = .ok (.iload_n 1, 1) := by decide +kernel
theorem dX5_landAt_1 : decode cX5_landAt 1 = .ok (.ifCond .lt 12, 3) := by decide +kernel
theorem dX5_landAt_4 : decode cX5_landAt 4 = .ok (.iload_n 1, 1) := by decide +kernel
theorem dX5_landAt_5 : decode cX5_landAt 5 = .ok (.aload_n 0, 1) := by decide +kernel
theorem dX5_landAt_6 : decode cX5_landAt 6 = .ok (.getfield 11, 3) := by decide +kernel
theorem dX5_landAt_9 : decode cX5_landAt 9 = .ok (.arraylength, 1) := by decide +kernel
theorem dX5_landAt_10 : decode cX5_landAt 10 = .ok (.if_icmp .lt 13, 3) := by decide +kernel
theorem dX5_landAt_13 : decode cX5_landAt 13 = .ok (.new 154, 3) := by decide +kernel
theorem dX5_landAt_16 : decode cX5_landAt 16 = .ok (.dup, 1) := by decide +kernel
theorem dX5_landAt_17 : decode cX5_landAt 17 = .ok (.ldc 202, 2) := by decide +kernel
theorem dX5_landAt_19 : decode cX5_landAt 19 = .ok (.invokespecial 158, 3) := by decide +kernel
theorem dX5_landAt_22 : decode cX5_landAt 22 = .ok (.athrow, 1) := by decide +kernel
theorem dX5_landAt_23 : decode cX5_landAt 23 = .ok (.aload_n 0, 1) := by decide +kernel
theorem dX5_landAt_24 : decode cX5_landAt 24 = .ok (.getfield 11, 3) := by decide +kernel
theorem dX5_landAt_27 : decode cX5_landAt 27 = .ok (.iload_n 1, 1) := by decide +kernel
theorem dX5_landAt_28 : decode cX5_landAt 28 = .ok (.aaload, 1) := by decide +kernel
theorem dX5_landAt_29 : decode cX5_landAt 29 = .ok (.areturn, 1) := by decide +kernel
theorem dX5_makerAt_0 : decode cX5_makerAt 0 = .ok (.iload_n 1, 1) := by decide +kernel
theorem dX5_makerAt_1 : decode cX5_makerAt 1 = .ok (.ifCond .lt 14, 3) := by decide +kernel
theorem dX5_makerAt_4 : decode cX5_makerAt 4 = .ok (.iload_n 1, 1) := by decide +kernel
theorem dX5_makerAt_5 : decode cX5_makerAt 5 = .ok (.aload_n 0, 1) := by decide +kernel
theorem dX5_makerAt_6 : decode cX5_makerAt 6 = .ok (.getfield 18, 3) := by decide +kernel
theorem dX5_makerAt_9 : decode cX5_makerAt 9 = .ok (.invokevirtual 60, 3) := by decide +kernel
theorem dX5_makerAt_12 : decode cX5_makerAt 12 = .ok (.if_icmp .lt 13, 3) := by decide +kernel
theorem dX5_makerAt_15 : decode cX5_makerAt 15 = .ok (.new 204, 3) := by decide +kernel
theorem dX5_makerAt_18 : decode cX5_makerAt 18 = .ok (.dup, 1) := by decide +kernel
theorem dX5_makerAt_19 : decode cX5_makerAt 19 = .ok (.ldc 206, 2) := by decide +kernel
theorem dX5_makerAt_21 : decode cX5_makerAt 21 = .ok (.invokespecial 208, 3) := by decide +kernel
theorem dX5_makerAt_24 : decode cX5_makerAt 24 = .ok (.athrow, 1) := by decide +kernel
theorem dX5_makerAt_25 : decode cX5_makerAt 25 = .ok (.aload_n 0, 1) := by decide +kernel
theorem dX5_makerAt_26 : decode cX5_makerAt 26 = .ok (.getfield 18, 3) := by decide +kernel
theorem dX5_makerAt_29 : decode cX5_makerAt 29 = .ok (.iload_n 1, 1) := by decide +kernel
theorem dX5_makerAt_30 : decode cX5_makerAt 30 = .ok (.invokevirtual 209, 3) := by decide +kernel
theorem dX5_makerAt_33 : decode cX5_makerAt 33 = .ok (.checkcast 68, 3) := by decide +kernel
theorem dX5_makerAt_36 : decode cX5_makerAt 36 = .ok (.areturn, 1) := by decide +kernel
theorem dX5_productAt_0 : decode cX5_productAt 0 = .ok (.iload_n 1, 1) := by decide +kernel
theorem dX5_productAt_1 : decode cX5_productAt 1 = .ok (.ifCond .lt 14, 3) := by decide +kernel
theorem dX5_productAt_4 : decode cX5_productAt 4 = .ok (.iload_n 1, 1) := by decide +kernel
theorem dX5_productAt_5 : decode cX5_productAt 5 = .ok (.aload_n 0, 1) := by decide +kernel
theorem dX5_productAt_6 : decode cX5_productAt 6 = .ok (.getfield 22, 3) := by decide +kernel
theorem dX5_productAt_9 : decode cX5_productAt 9 = .ok (.invokevirtual 60, 3) := by decide +kernel
theorem dX5_productAt_12 : decode cX5_productAt 12 = .ok (.if_icmp .lt 13, 3) := by decide +kernel
theorem dX5_productAt_15 : decode cX5_productAt 15 = .ok (.new 204, 3) := by decide +kernel
theorem dX5_productAt_18 : decode cX5_productAt 18 = .ok (.dup, 1) := by decide +kernel
theorem dX5_productAt_19 : decode cX5_productAt 19 = .ok (.ldc 213, 2) := by decide +kernel
theorem dX5_productAt_21 : decode cX5_productAt 21 = .ok (.invokespecial 208, 3) := by decide +kernel
theorem dX5_productAt_24 : decode cX5_productAt 24 = .ok (.athrow, 1) := by decide +kernel
theorem dX5_productAt_25 : decode cX5_productAt 25 = .ok (.aload_n 0, 1) := by decide +kernel
theorem dX5_productAt_26 : decode cX5_productAt 26 = .ok (.getfield 22, 3) := by decide +kernel
theorem dX5_productAt_29 : decode cX5_productAt 29 = .ok (.iload_n 1, 1) := by decide +kernel
theorem dX5_productAt_30 : decode cX5_productAt 30 = .ok (.invokevirtual 209, 3) := by decide +kernel
theorem dX5_productAt_33 : decode cX5_productAt 33 = .ok (.checkcast 80, 3) := by decide +kernel
theorem dX5_productAt_36 : decode cX5_productAt 36 = .ok (.areturn, 1) := by decide +kernel
theorem dX5_saleAt_0 : decode cX5_saleAt 0 = .ok (.iload_n 1, 1) := by decide +kernel
theorem dX5_saleAt_1 : decode cX5_saleAt 1 = .ok (.ifCond .lt 14, 3) := by decide +kernel
theorem dX5_saleAt_4 : decode cX5_saleAt 4 = .ok (.iload_n 1, 1) := by decide +kernel
theorem dX5_saleAt_5 : decode cX5_saleAt 5 = .ok (.aload_n 0, 1) := by decide +kernel
theorem dX5_saleAt_6 : decode cX5_saleAt 6 = .ok (.getfield 25, 3) := by decide +kernel
theorem dX5_saleAt_9 : decode cX5_saleAt 9 = .ok (.invokevirtual 60, 3) := by decide +kernel
theorem dX5_saleAt_12 : decode cX5_saleAt 12 = .ok (.if_icmp .lt 13, 3) := by decide +kernel
theorem dX5_saleAt_15 : decode cX5_saleAt 15 = .ok (.new 204, 3) := by decide +kernel
theorem dX5_saleAt_18 : decode cX5_saleAt 18 = .ok (.dup, 1) := by decide +kernel
theorem dX5_saleAt_19 : decode cX5_saleAt 19 = .ok (.ldc 215, 2) := by decide +kernel
theorem dX5_saleAt_21 : decode cX5_saleAt 21 = .ok (.invokespecial 208, 3) := by decide +kernel
theorem dX5_saleAt_24 : decode cX5_saleAt 24 = .ok (.athrow, 1) := by decide +kernel
theorem dX5_saleAt_25 : decode cX5_saleAt 25 = .ok (.aload_n 0, 1) := by decide +kernel
theorem dX5_saleAt_26 : decode cX5_saleAt 26 = .ok (.getfield 25, 3) := by decide +kernel
theorem dX5_saleAt_29 : decode cX5_saleAt 29 = .ok (.iload_n 1, 1) := by decide +kernel
theorem dX5_saleAt_30 : decode cX5_saleAt 30 = .ok (.invokevirtual 209, 3) := by decide +kernel
theorem dX5_saleAt_33 : decode cX5_saleAt 33 = .ok (.checkcast 106, 3) := by decide +kernel
theorem dX5_saleAt_36 : decode cX5_saleAt 36 = .ok (.areturn, 1) := by decide +kernel
theorem dX5_subscriptionAt_0 : decode cX5_subscriptionAt 0 = .ok (.iload_n 1, 1) := by decide +kernel
theorem dX5_subscriptionAt_1 : decode cX5_subscriptionAt 1 = .ok (.ifCond .lt 14, 3) := by decide +kernel
theorem dX5_subscriptionAt_4 : decode cX5_subscriptionAt 4 = .ok (.iload_n 1, 1) := by decide +kernel
theorem dX5_subscriptionAt_5 : decode cX5_subscriptionAt 5 = .ok (.aload_n 0, 1) := by decide +kernel
theorem dX5_subscriptionAt_6 : decode cX5_subscriptionAt 6 = .ok (.getfield 28, 3) := by decide +kernel
theorem dX5_subscriptionAt_9 : decode cX5_subscriptionAt 9 = .ok (.invokevirtual 60, 3) := by decide +kernel
theorem dX5_subscriptionAt_12 : decode cX5_subscriptionAt 12 = .ok (.if_icmp .lt 13, 3) := by decide +kernel
theorem dX5_subscriptionAt_15 : decode cX5_subscriptionAt 15 = .ok (.new 204, 3) := by decide +kernel
theorem dX5_subscriptionAt_18 : decode cX5_subscriptionAt 18 = .ok (.dup, 1) := by decide +kernel
theorem dX5_subscriptionAt_19 : decode cX5_subscriptionAt 19 = .ok (.ldc 217, 2) := by decide +kernel
theorem dX5_subscriptionAt_21 : decode cX5_subscriptionAt 21 = .ok (.invokespecial 208, 3) := by decide +kernel
theorem dX5_subscriptionAt_24 : decode cX5_subscriptionAt 24 = .ok (.athrow, 1) := by decide +kernel
theorem dX5_subscriptionAt_25 : decode cX5_subscriptionAt 25 = .ok (.aload_n 0, 1) := by decide +kernel
theorem dX5_subscriptionAt_26 : decode cX5_subscriptionAt 26 = .ok (.getfield 28, 3) := by decide +kernel
theorem dX5_subscriptionAt_29 : decode cX5_subscriptionAt 29 = .ok (.iload_n 1, 1) := by decide +kernel
theorem dX5_subscriptionAt_30 : decode cX5_subscriptionAt 30 = .ok (.invokevirtual 209, 3) := by decide +kernel
theorem dX5_subscriptionAt_33 : decode cX5_subscriptionAt 33 = .ok (.checkcast 141, 3) := by decide +kernel
theorem dX5_subscriptionAt_36 : decode cX5_subscriptionAt 36 = .ok (.areturn, 1) := by decide +kernel
theorem dX5_requireRange_0 : decode cX5_requireRange 0 = .ok (.iload_n 0, 1) := by decide +kernel
theorem dX5_requireRange_1 : decode cX5_requireRange 1 = .ok (.iload_n 1, 1) := by decide +kernel
theorem dX5_requireRange_2 : decode cX5_requireRange 2 = .ok (.if_icmp .lt 8, 3) := by decide +kernel
theorem dX5_requireRange_5 : decode cX5_requireRange 5 = .ok (.iload_n 0, 1) := by decide +kernel
theorem dX5_requireRange_6 : decode cX5_requireRange 6 = .ok (.iload_n 2, 1) := by decide +kernel
theorem dX5_requireRange_7 : decode cX5_requireRange 7 = .ok (.if_icmp .le 13, 3) := by decide +kernel
theorem dX5_requireRange_10 : decode cX5_requireRange 10 = .ok (.new 154, 3) := by decide +kernel
theorem dX5_requireRange_13 : decode cX5_requireRange 13 = .ok (.dup, 1) := by decide +kernel
theorem dX5_requireRange_14 : decode cX5_requireRange 14 = .ok (.ldc 219, 2) := by decide +kernel
theorem dX5_requireRange_16 : decode cX5_requireRange 16 = .ok (.invokespecial 158, 3) := by decide +kernel
theorem dX5_requireRange_19 : decode cX5_requireRange 19 = .ok (.athrow, 1) := by decide +kernel
theorem dX5_requireRange_20 : decode cX5_requireRange 20 = .ok (.return_, 1) := by decide +kernel
theorem dX5_requireRoom_0 : decode cX5_requireRoom 0 = .ok (.iload_n 0, 1) := by decide +kernel
theorem dX5_requireRoom_1 : decode cX5_requireRoom 1 = .ok (.iload_n 1, 1) := by decide +kernel
theorem dX5_requireRoom_2 : decode cX5_requireRoom 2 = .ok (.if_icmp .lt 13, 3) := by decide +kernel
theorem dX5_requireRoom_5 : decode cX5_requireRoom 5 = .ok (.new 110, 3) := by decide +kernel
theorem dX5_requireRoom_8 : decode cX5_requireRoom 8 = .ok (.dup, 1) := by decide +kernel
theorem dX5_requireRoom_9 : decode cX5_requireRoom 9 = .ok (.ldc 221, 2) := by decide +kernel
theorem dX5_requireRoom_11 : decode cX5_requireRoom 11 = .ok (.invokespecial 114, 3) := by decide +kernel
theorem dX5_requireRoom_14 : decode cX5_requireRoom 14 = .ok (.athrow, 1) := by decide +kernel
theorem dX5_requireRoom_15 : decode cX5_requireRoom 15 = .ok (.return_, 1) := by decide +kernel
theorem dX5_requireRunning_0 : decode cX5_requireRunning 0 = .ok (.aload_n 0, 1) := by decide +kernel
theorem dX5_requireRunning_1 : decode cX5_requireRunning 1 = .ok (.invokevirtual 223, 3) := by decide +kernel
theorem dX5_requireRunning_4 : decode cX5_requireRunning 4 = .ok (.ifCond .eq 13, 3) := by decide +kernel
theorem dX5_requireRunning_7 : decode cX5_requireRunning 7 = .ok (.new 110, 3) := by decide +kernel
theorem dX5_requireRunning_10 : decode cX5_requireRunning 10 = .ok (.dup, 1) := by decide +kernel
theorem dX5_requireRunning_11 : decode cX5_requireRunning 11 = .ok (.ldc 227, 2) := by decide +kernel
theorem dX5_requireRunning_13 : decode cX5_requireRunning 13 = .ok (.invokespecial 114, 3) := by decide +kernel
theorem dX5_requireRunning_16 : decode cX5_requireRunning 16 = .ok (.athrow, 1) := by decide +kernel
theorem dX5_requireRunning_17 : decode cX5_requireRunning 17 = .ok (.return_, 1) := by decide +kernel
theorem dX5_currentMonth_0 : decode cX5_currentMonth 0 = .ok (.aload_n 0, 1) := by decide +kernel
theorem dX5_currentMonth_1 : decode cX5_currentMonth 1 = .ok (.getfield 31, 3) := by decide +kernel
theorem dX5_currentMonth_4 : decode cX5_currentMonth 4 = .ok (.bipush 30, 2) := by decide +kernel
theorem dX5_currentMonth_6 : decode cX5_currentMonth 6 = .ok (.idiv, 1) := by decide +kernel
theorem dX5_currentMonth_7 : decode cX5_currentMonth 7 = .ok (.ireturn, 1) := by decide +kernel
theorem dX5_sell_0 : decode cX5_sell 0 = .ok (.aload_n 0, 1) := by decide +kernel
theorem dX5_sell_1 : decode cX5_sell 1 = .ok (.getfield 25, 3) := by decide +kernel
theorem dX5_sell_4 : decode cX5_sell 4 = .ok (.invokevirtual 60, 3) := by decide +kernel
theorem dX5_sell_7 : decode cX5_sell 7 = .ok (.sipush 6000, 3) := by decide +kernel
theorem dX5_sell_10 : decode cX5_sell 10 = .ok (.if_icmp .lt 5, 3) := by decide +kernel
theorem dX5_sell_13 : decode cX5_sell 13 = .ok (.iconst (-1), 1) := by decide +kernel
theorem dX5_sell_14 : decode cX5_sell 14 = .ok (.ireturn, 1) := by decide +kernel
theorem dX5_sell_15 : decode cX5_sell 15 = .ok (.aload_n 1, 1) := by decide +kernel
theorem dX5_sell_16 : decode cX5_sell 16 = .ok (.getfield 159, 3) := by decide +kernel
theorem dX5_sell_19 : decode cX5_sell 19 = .ok (.astore 5, 2) := by decide +kernel
theorem dX5_sell_21 : decode cX5_sell 21 = .ok (.iload 4, 2) := by decide +kernel
theorem dX5_sell_23 : decode cX5_sell 23 = .ok (.ifCond .ne 13, 3) := by decide +kernel
theorem dX5_sell_26 : decode cX5_sell 26 = .ok (.aload 5, 2) := by decide +kernel
theorem dX5_sell_28 : decode cX5_sell 28 = .ok (.getfield 229, 3) := by decide +kernel
theorem dX5_sell_31 : decode cX5_sell 31 = .ok (.ldc 59, 2) := by decide +kernel
theorem dX5_sell_33 : decode cX5_sell 33 = .ok (.if_icmp .ge 7, 3) := by decide +kernel
theorem dX5_sell_36 : decode cX5_sell 36 = .ok (.iconst 1, 1) := by decide +kernel
theorem dX5_sell_37 : decode cX5_sell 37 = .ok (.goto 4, 3) := by decide +kernel
theorem dX5_sell_40 : decode cX5_sell 40 = .ok (.iconst 0, 1) := by decide +kernel
theorem dX5_sell_41 : decode cX5_sell 41 = .ok (.istore 6, 2) := by decide +kernel
theorem dX5_sell_43 : decode cX5_sell 43 = .ok (.new 106, 3) := by decide +kernel
theorem dX5_sell_46 : decode cX5_sell 46 = .ok (.dup, 1) := by decide +kernel
theorem dX5_sell_47 : decode cX5_sell 47 = .ok (.aload 5, 2) := by decide +kernel
theorem dX5_sell_49 : decode cX5_sell 49 = .ok (.aload_n 2, 1) := by decide +kernel
theorem dX5_sell_50 : decode cX5_sell 50 = .ok (.aload_n 0, 1) := by decide +kernel
theorem dX5_sell_51 : decode cX5_sell 51 = .ok (.invokevirtual 117, 3) := by decide +kernel
theorem dX5_sell_54 : decode cX5_sell 54 = .ok (.iload_n 3, 1) := by decide +kernel
theorem dX5_sell_55 : decode cX5_sell 55 = .ok (.iload 6, 2) := by decide +kernel
theorem dX5_sell_57 : decode cX5_sell 57 = .ok (.ifCond .eq 8, 3) := by decide +kernel
theorem dX5_sell_60 : decode cX5_sell 60 = .ok (.bipush 15, 2) := by decide +kernel
theorem dX5_sell_62 : decode cX5_sell 62 = .ok (.goto 5, 3) := by decide +kernel
theorem dX5_sell_65 : decode cX5_sell 65 = .ok (.bipush 30, 2) := by decide +kernel
theorem dX5_sell_67 : decode cX5_sell 67 = .ok (.invokespecial 232, 3) := by decide +kernel
theorem dX5_sell_70 : decode cX5_sell 70 = .ok (.astore 7, 2) := by decide +kernel
theorem dX5_sell_72 : decode cX5_sell 72 = .ok (.aload 5, 2) := by decide +kernel
theorem dX5_sell_74 : decode cX5_sell 74 = .ok (.dup, 1) := by decide +kernel
theorem dX5_sell_75 : decode cX5_sell 75 = .ok (.getfield 229, 3) := by decide +kernel
theorem dX5_sell_78 : decode cX5_sell 78 = .ok (.iload_n 3, 1) := by decide +kernel
theorem dX5_sell_79 : decode cX5_sell 79 = .ok (.aload 7, 2) := by decide +kernel
theorem dX5_sell_81 : decode cX5_sell 81 = .ok (.getfield 132, 3) := by decide +kernel
theorem dX5_sell_84 : decode cX5_sell 84 = .ok (.isub, 1) := by decide +kernel
theorem dX5_sell_85 : decode cX5_sell 85 = .ok (.iadd, 1) := by decide +kernel
theorem dX5_sell_86 : decode cX5_sell 86 = .ok (.putfield 229, 3) := by decide +kernel
theorem dX5_sell_89 : decode cX5_sell 89 = .ok (.aload_n 0, 1) := by decide +kernel
theorem dX5_sell_90 : decode cX5_sell 90 = .ok (.aload 7, 2) := by decide +kernel
theorem dX5_sell_92 : decode cX5_sell 92 = .ok (.iconst 1, 1) := by decide +kernel
theorem dX5_sell_93 : decode cX5_sell 93 = .ok (.invokevirtual 125, 3) := by decide +kernel
theorem dX5_sell_96 : decode cX5_sell 96 = .ok (.aload_n 0, 1) := by decide +kernel
theorem dX5_sell_97 : decode cX5_sell 97 = .ok (.getfield 25, 3) := by decide +kernel
theorem dX5_sell_100 : decode cX5_sell 100 = .ok (.aload 7, 2) := by decide +kernel
theorem dX5_sell_102 : decode cX5_sell 102 = .ok (.invokevirtual 71, 3) := by decide +kernel
theorem dX5_sell_105 : decode cX5_sell 105 = .ok (.pop, 1) := by decide +kernel
theorem dX5_sell_106 : decode cX5_sell 106 = .ok (.aload_n 0, 1) := by decide +kernel
theorem dX5_sell_107 : decode cX5_sell 107 = .ok (.getfield 25, 3) := by decide +kernel
theorem dX5_sell_110 : decode cX5_sell 110 = .ok (.invokevirtual 60, 3) := by decide +kernel
theorem dX5_sell_113 : decode cX5_sell 113 = .ok (.iconst 1, 1) := by decide +kernel
theorem dX5_sell_114 : decode cX5_sell 114 = .ok (.isub, 1) := by decide +kernel
theorem dX5_sell_115 : decode cX5_sell 115 = .ok (.ireturn, 1) := by decide +kernel
theorem dX5_book_0 : decode cX5_book 0 = .ok (.aload_n 0, 1) := by decide +kernel
theorem dX5_book_1 : decode cX5_book 1 = .ok (.dup, 1) := by decide +kernel
theorem dX5_book_2 : decode cX5_book 2 = .ok (.getfield 38, 3) := by decide +kernel
theorem dX5_book_5 : decode cX5_book 5 = .ok (.iload_n 2, 1) := by decide +kernel
theorem dX5_book_6 : decode cX5_book 6 = .ok (.aload_n 1, 1) := by decide +kernel
theorem dX5_book_7 : decode cX5_book 7 = .ok (.getfield 129, 3) := by decide +kernel
theorem dX5_book_10 : decode cX5_book 10 = .ok (.imul, 1) := by decide +kernel
theorem dX5_book_11 : decode cX5_book 11 = .ok (.iadd, 1) := by decide +kernel
theorem dX5_book_12 : decode cX5_book 12 = .ok (.putfield 38, 3) := by decide +kernel
theorem dX5_book_15 : decode cX5_book 15 = .ok (.aload_n 0, 1) := by decide +kernel
theorem dX5_book_16 : decode cX5_book 16 = .ok (.dup, 1) := by decide +kernel
theorem dX5_book_17 : decode cX5_book 17 = .ok (.getfield 35, 3) := by decide +kernel
theorem dX5_book_20 : decode cX5_book 20 = .ok (.iload_n 2, 1) := by decide +kernel
theorem dX5_book_21 : decode cX5_book 21 = .ok (.aload_n 1, 1) := by decide +kernel
theorem dX5_book_22 : decode cX5_book 22 = .ok (.getfield 135, 3) := by decide +kernel
theorem dX5_book_25 : decode cX5_book 25 = .ok (.imul, 1) := by decide +kernel
theorem dX5_book_26 : decode cX5_book 26 = .ok (.iadd, 1) := by decide +kernel
theorem dX5_book_27 : decode cX5_book 27 = .ok (.putfield 35, 3) := by decide +kernel
theorem dX5_book_30 : decode cX5_book 30 = .ok (.aload_n 1, 1) := by decide +kernel
theorem dX5_book_31 : decode cX5_book 31 = .ok (.getfield 235, 3) := by decide +kernel
theorem dX5_book_34 : decode cX5_book 34 = .ok (.dup, 1) := by decide +kernel
theorem dX5_book_35 : decode cX5_book 35 = .ok (.getfield 236, 3) := by decide +kernel
theorem dX5_book_38 : decode cX5_book 38 = .ok (.iload_n 2, 1) := by decide +kernel
theorem dX5_book_39 : decode cX5_book 39 = .ok (.aload_n 1, 1) := by decide +kernel
theorem dX5_book_40 : decode cX5_book 40 = .ok (.getfield 138, 3) := by decide +kernel
theorem dX5_book_43 : decode cX5_book 43 = .ok (.imul, 1) := by decide +kernel
theorem dX5_book_44 : decode cX5_book 44 = .ok (.iadd, 1) := by decide +kernel
theorem dX5_book_45 : decode cX5_book 45 = .ok (.putfield 236, 3) := by decide +kernel
theorem dX5_book_48 : decode cX5_book 48 = .ok (.aload_n 1, 1) := by decide +kernel
theorem dX5_book_49 : decode cX5_book 49 = .ok (.getfield 239, 3) := by decide +kernel
theorem dX5_book_52 : decode cX5_book 52 = .ok (.ifCond .eq 21, 3) := by decide +kernel
theorem dX5_book_55 : decode cX5_book 55 = .ok (.aload_n 1, 1) := by decide +kernel
theorem dX5_book_56 : decode cX5_book 56 = .ok (.getfield 242, 3) := by decide +kernel
theorem dX5_book_59 : decode cX5_book 59 = .ok (.dup, 1) := by decide +kernel
theorem dX5_book_60 : decode cX5_book 60 = .ok (.getfield 194, 3) := by decide +kernel
theorem dX5_book_63 : decode cX5_book 63 = .ok (.iload_n 2, 1) := by decide +kernel
theorem dX5_book_64 : decode cX5_book 64 = .ok (.aload_n 1, 1) := by decide +kernel
theorem dX5_book_65 : decode cX5_book 65 = .ok (.getfield 132, 3) := by decide +kernel
theorem dX5_book_68 : decode cX5_book 68 = .ok (.imul, 1) := by decide +kernel
theorem dX5_book_69 : decode cX5_book 69 = .ok (.iadd, 1) := by decide +kernel
theorem dX5_book_70 : decode cX5_book 70 = .ok (.putfield 194, 3) := by decide +kernel
theorem dX5_book_73 : decode cX5_book 73 = .ok (.return_, 1) := by decide +kernel
theorem dX5_beginNextDay_0 : decode cX5_beginNextDay 0 = .ok (.aload_n 0, 1) := by decide +kernel
theorem dX5_beginNextDay_1 : decode cX5_beginNextDay 1 = .ok (.dup, 1) := by decide +kernel
theorem dX5_beginNextDay_2 : decode cX5_beginNextDay 2 = .ok (.getfield 31, 3) := by decide +kernel
theorem dX5_beginNextDay_5 : decode cX5_beginNextDay 5 = .ok (.iconst 1, 1) := by decide +kernel
theorem dX5_beginNextDay_6 : decode cX5_beginNextDay 6 = .ok (.iadd, 1) := by decide +kernel
theorem dX5_beginNextDay_7 : decode cX5_beginNextDay 7 = .ok (.putfield 31, 3) := by decide +kernel
theorem dX5_beginNextDay_10 : decode cX5_beginNextDay 10 = .ok (.aload_n 0, 1) := by decide +kernel
theorem dX5_beginNextDay_11 : decode cX5_beginNextDay 11 = .ok (.getfield 31, 3) := by decide +kernel
theorem dX5_beginNextDay_14 : decode cX5_beginNextDay 14 = .ok (.bipush 30, 2) := by decide +kernel
theorem dX5_beginNextDay_16 : decode cX5_beginNextDay 16 = .ok (.irem, 1) := by decide +kernel
theorem dX5_beginNextDay_17 : decode cX5_beginNextDay 17 = .ok (.ifCond .ne 13, 3) := by decide +kernel
theorem dX5_beginNextDay_20 : decode cX5_beginNextDay 20 = .ok (.aload_n 0, 1) := by decide +kernel
theorem dX5_beginNextDay_21 : decode cX5_beginNextDay 21 = .ok (.aload_n 0, 1) := by decide +kernel
theorem dX5_beginNextDay_22 : decode cX5_beginNextDay 22 = .ok (.invokevirtual 117, 3) := by decide +kernel
theorem dX5_beginNextDay_25 : decode cX5_beginNextDay 25 = .ok (.iconst 1, 1) := by decide +kernel
theorem dX5_beginNextDay_26 : decode cX5_beginNextDay 26 = .ok (.isub, 1) := by decide +kernel
theorem dX5_beginNextDay_27 : decode cX5_beginNextDay 27 = .ok (.invokevirtual 246, 3) := by decide +kernel
theorem dX5_beginNextDay_30 : decode cX5_beginNextDay 30 = .ok (.aload_n 0, 1) := by decide +kernel
theorem dX5_beginNextDay_31 : decode cX5_beginNextDay 31 = .ok (.getfield 31, 3) := by decide +kernel
theorem dX5_beginNextDay_34 : decode cX5_beginNextDay 34 = .ok (.sipush 360, 3) := by decide +kernel
theorem dX5_beginNextDay_37 : decode cX5_beginNextDay 37 = .ok (.irem, 1) := by decide +kernel
theorem dX5_beginNextDay_38 : decode cX5_beginNextDay 38 = .ok (.ifCond .ne 7, 3) := by decide +kernel
theorem dX5_beginNextDay_41 : decode cX5_beginNextDay 41 = .ok (.aload_n 0, 1) := by decide +kernel
theorem dX5_beginNextDay_42 : decode cX5_beginNextDay 42 = .ok (.invokevirtual 249, 3) := by decide +kernel
theorem dX5_beginNextDay_45 : decode cX5_beginNextDay 45 = .ok (.aload_n 0, 1) := by decide +kernel
theorem dX5_beginNextDay_46 : decode cX5_beginNextDay 46 = .ok (.invokevirtual 252, 3) := by decide +kernel
theorem dX5_beginNextDay_49 : decode cX5_beginNextDay 49 = .ok (.ireturn, 1) := by decide +kernel
theorem dX5_closeMonth_0 : decode cX5_closeMonth 0 = .ok (.iconst 0, 1) := by decide +kernel
theorem dX5_closeMonth_1 : decode cX5_closeMonth 1 = .ok (.istore_n 2, 1) := by decide +kernel
theorem dX5_closeMonth_2 : decode cX5_closeMonth 2 = .ok (.iload_n 2, 1) := by decide +kernel
theorem dX5_closeMonth_3 : decode cX5_closeMonth 3 = .ok (.aload_n 0, 1) := by decide +kernel
theorem dX5_closeMonth_4 : decode cX5_closeMonth 4 = .ok (.getfield 18, 3) := by decide +kernel
theorem dX5_closeMonth_7 : decode cX5_closeMonth 7 = .ok (.invokevirtual 60, 3) := by decide +kernel
theorem dX5_closeMonth_10 : decode cX5_closeMonth 10 = .ok (.if_icmp .ge 24, 3) := by decide +kernel
theorem dX5_closeMonth_13 : decode cX5_closeMonth 13 = .ok (.aload_n 0, 1) := by decide +kernel
theorem dX5_closeMonth_14 : decode cX5_closeMonth 14 = .ok (.getfield 18, 3) := by decide +kernel
theorem dX5_closeMonth_17 : decode cX5_closeMonth 17 = .ok (.iload_n 2, 1) := by decide +kernel
theorem dX5_closeMonth_18 : decode cX5_closeMonth 18 = .ok (.invokevirtual 209, 3) := by decide +kernel
theorem dX5_closeMonth_21 : decode cX5_closeMonth 21 = .ok (.checkcast 68, 3) := by decide +kernel
theorem dX5_closeMonth_24 : decode cX5_closeMonth 24 = .ok (.iload_n 1, 1) := by decide +kernel
theorem dX5_closeMonth_25 : decode cX5_closeMonth 25 = .ok (.invokevirtual 255, 3) := by decide +kernel
theorem dX5_closeMonth_28 : decode cX5_closeMonth 28 = .ok (.iinc 2 1, 3) := by decide +kernel
theorem dX5_closeMonth_31 : decode cX5_closeMonth 31 = .ok (.goto (-29), 3) := by decide +kernel
theorem dX5_closeMonth_34 : decode cX5_closeMonth 34 = .ok (.return_, 1) := by decide +kernel
theorem dX5_beginYear_0 : decode cX5_beginYear 0 = .ok (.iconst 0, 1) := by decide +kernel
theorem dX5_beginYear_1 : decode cX5_beginYear 1 = .ok (.istore_n 1, 1) := by decide +kernel
theorem dX5_beginYear_2 : decode cX5_beginYear 2 = .ok (.iload_n 1, 1) := by decide +kernel
theorem dX5_beginYear_3 : decode cX5_beginYear 3 = .ok (.aload_n 0, 1) := by decide +kernel
theorem dX5_beginYear_4 : decode cX5_beginYear 4 = .ok (.getfield 18, 3) := by decide +kernel
theorem dX5_beginYear_7 : decode cX5_beginYear 7 = .ok (.invokevirtual 60, 3) := by decide +kernel
theorem dX5_beginYear_10 : decode cX5_beginYear 10 = .ok (.if_icmp .ge 24, 3) := by decide +kernel
theorem dX5_beginYear_13 : decode cX5_beginYear 13 = .ok (.aload_n 0, 1) := by decide +kernel
theorem dX5_beginYear_14 : decode cX5_beginYear 14 = .ok (.getfield 18, 3) := by decide +kernel
theorem dX5_beginYear_17 : decode cX5_beginYear 17 = .ok (.iload_n 1, 1) := by decide +kernel
theorem dX5_beginYear_18 : decode cX5_beginYear 18 = .ok (.invokevirtual 209, 3) := by decide +kernel
theorem dX5_beginYear_21 : decode cX5_beginYear 21 = .ok (.checkcast 68, 3) := by decide +kernel
theorem dX5_beginYear_24 : decode cX5_beginYear 24 = .ok (.iconst 0, 1) := by decide +kernel
theorem dX5_beginYear_25 : decode cX5_beginYear 25 = .ok (.putfield 229, 3) := by decide +kernel
theorem dX5_beginYear_28 : decode cX5_beginYear 28 = .ok (.iinc 1 1, 3) := by decide +kernel
theorem dX5_beginYear_31 : decode cX5_beginYear 31 = .ok (.goto (-29), 3) := by decide +kernel
theorem dX5_beginYear_34 : decode cX5_beginYear 34 = .ok (.return_, 1) := by decide +kernel
theorem dX5_collectPayments_0 : decode cX5_collectPayments 0 = .ok (.iconst 0, 1) := by decide +kernel
theorem dX5_collectPayments_1 : decode cX5_collectPayments 1 = .ok (.istore_n 1, 1) := by decide +kernel
theorem dX5_collectPayments_2 : decode cX5_collectPayments 2 = .ok (.iconst 0, 1) := by decide +kernel
theorem dX5_collectPayments_3 : decode cX5_collectPayments 3 = .ok (.istore_n 2, 1) := by decide +kernel
theorem dX5_collectPayments_4 : decode cX5_collectPayments 4 = .ok (.iload_n 2, 1) := by decide +kernel
theorem dX5_collectPayments_5 : decode cX5_collectPayments 5 = .ok (.aload_n 0, 1) := by decide +kernel
theorem dX5_collectPayments_6 : decode cX5_collectPayments 6 = .ok (.getfield 28, 3) := by decide +kernel
theorem dX5_collectPayments_9 : decode cX5_collectPayments 9 = .ok (.invokevirtual 60, 3) := by decide +kernel
theorem dX5_collectPayments_12 : decode cX5_collectPayments 12 = .ok (.if_icmp .ge 43, 3) := by decide +kernel
theorem dX5_collectPayments_15 : decode cX5_collectPayments 15 = .ok (.aload_n 0, 1) := by decide +kernel
theorem dX5_collectPayments_16 : decode cX5_collectPayments 16 = .ok (.getfield 28, 3) := by decide +kernel
theorem dX5_collectPayments_19 : decode cX5_collectPayments 19 = .ok (.iload_n 2, 1) := by decide +kernel
theorem dX5_collectPayments_20 : decode cX5_collectPayments 20 = .ok (.invokevirtual 209, 3) := by decide +kernel
theorem dX5_collectPayments_23 : decode cX5_collectPayments 23 = .ok (.checkcast 141, 3) := by decide +kernel
theorem dX5_collectPayments_26 : decode cX5_collectPayments 26 = .ok (.astore_n 3, 1) := by decide +kernel
theorem dX5_collectPayments_27 : decode cX5_collectPayments 27 = .ok (.aload_n 3, 1) := by decide +kernel
theorem dX5_collectPayments_28 : decode cX5_collectPayments 28 = .ok (.getfield 181, 3) := by decide +kernel
theorem dX5_collectPayments_31 : decode cX5_collectPayments 31 = .ok (.aload_n 0, 1) := by decide +kernel
theorem dX5_collectPayments_32 : decode cX5_collectPayments 32 = .ok (.getfield 31, 3) := by decide +kernel
theorem dX5_collectPayments_35 : decode cX5_collectPayments 35 = .ok (.if_icmp .ne 14, 3) := by decide +kernel
theorem dX5_collectPayments_38 : decode cX5_collectPayments 38 = .ok (.aload_n 0, 1) := by decide +kernel
theorem dX5_collectPayments_39 : decode cX5_collectPayments 39 = .ok (.aload_n 3, 1) := by decide +kernel
theorem dX5_collectPayments_40 : decode cX5_collectPayments 40 = .ok (.invokevirtual 258, 3) := by decide +kernel
theorem dX5_collectPayments_43 : decode cX5_collectPayments 43 = .ok (.ifCond .eq 6, 3) := by decide +kernel
theorem dX5_collectPayments_46 : decode cX5_collectPayments 46 = .ok (.iinc 1 1, 3) := by decide +kernel
theorem dX5_collectPayments_49 : decode cX5_collectPayments 49 = .ok (.iinc 2 1, 3) := by decide +kernel
theorem dX5_collectPayments_52 : decode cX5_collectPayments 52 = .ok (.goto (-48), 3) := by decide +kernel
theorem dX5_collectPayments_55 : decode cX5_collectPayments 55 = .ok (.iload_n 1, 1) := by decide +kernel
theorem dX5_collectPayments_56 : decode cX5_collectPayments 56 = .ok (.ireturn, 1) := by decide +kernel
theorem dX5_tryPayment_0 : decode cX5_tryPayment 0 = .ok (.aload_n 1, 1) := by decide +kernel
theorem dX5_tryPayment_1 : decode cX5_tryPayment 1 = .ok (.getfield 172, 3) := by decide +kernel
theorem dX5_tryPayment_4 : decode cX5_tryPayment 4 = .ok (.ifCond .eq 9, 3) := by decide +kernel
theorem dX5_tryPayment_7 : decode cX5_tryPayment 7 = .ok (.aload_n 1, 1) := by decide +kernel
theorem dX5_tryPayment_8 : decode cX5_tryPayment 8 = .ok (.invokevirtual 262, 3) := by decide +kernel
theorem dX5_tryPayment_11 : decode cX5_tryPayment 11 = .ok (.iconst 0, 1) := by decide +kernel
theorem dX5_tryPayment_12 : decode cX5_tryPayment 12 = .ok (.ireturn, 1) := by decide +kernel
theorem dX5_tryPayment_13 : decode cX5_tryPayment 13 = .ok (.aload_n 1, 1) := by decide +kernel
theorem dX5_tryPayment_14 : decode cX5_tryPayment 14 = .ok (.invokevirtual 265, 3) := by decide +kernel
theorem dX5_tryPayment_17 : decode cX5_tryPayment 17 = .ok (.istore_n 2, 1) := by decide +kernel
theorem dX5_tryPayment_18 : decode cX5_tryPayment 18 = .ok (.aload_n 1, 1) := by decide +kernel
theorem dX5_tryPayment_19 : decode cX5_tryPayment 19 = .ok (.aload_n 0, 1) := by decide +kernel
theorem dX5_tryPayment_20 : decode cX5_tryPayment 20 = .ok (.getfield 31, 3) := by decide +kernel
theorem dX5_tryPayment_23 : decode cX5_tryPayment 23 = .ok (.invokevirtual 268, 3) := by decide +kernel
theorem dX5_tryPayment_26 : decode cX5_tryPayment 26 = .ok (.aload_n 1, 1) := by decide +kernel
theorem dX5_tryPayment_27 : decode cX5_tryPayment 27 = .ok (.getfield 178, 3) := by decide +kernel
theorem dX5_tryPayment_30 : decode cX5_tryPayment 30 = .ok (.bipush 13, 2) := by decide +kernel
theorem dX5_tryPayment_32 : decode cX5_tryPayment 32 = .ok (.if_icmp .lt 7, 3) := by decide +kernel
theorem dX5_tryPayment_35 : decode cX5_tryPayment 35 = .ok (.iconst 1, 1) := by decide +kernel
theorem dX5_tryPayment_36 : decode cX5_tryPayment 36 = .ok (.goto 4, 3) := by decide +kernel
theorem dX5_tryPayment_39 : decode cX5_tryPayment 39 = .ok (.iconst 0, 1) := by decide +kernel
theorem dX5_tryPayment_40 : decode cX5_tryPayment 40 = .ok (.istore_n 3, 1) := by decide +kernel
theorem dX5_tryPayment_41 : decode cX5_tryPayment 41 = .ok (.aload_n 0, 1) := by decide +kernel
theorem dX5_tryPayment_42 : decode cX5_tryPayment 42 = .ok (.aload_n 1, 1) := by decide +kernel
theorem dX5_tryPayment_43 : decode cX5_tryPayment 43 = .ok (.getfield 150, 3) := by decide +kernel
theorem dX5_tryPayment_46 : decode cX5_tryPayment 46 = .ok (.aload_n 1, 1) := by decide +kernel
theorem dX5_tryPayment_47 : decode cX5_tryPayment 47 = .ok (.getfield 271, 3) := by decide +kernel
theorem dX5_tryPayment_50 : decode cX5_tryPayment 50 = .ok (.iload_n 2, 1) := by decide +kernel
theorem dX5_tryPayment_51 : decode cX5_tryPayment 51 = .ok (.iload_n 3, 1) := by decide +kernel
theorem dX5_tryPayment_52 : decode cX5_tryPayment 52 = .ok (.invokevirtual 97, 3) := by decide +kernel
theorem dX5_tryPayment_55 : decode cX5_tryPayment 55 = .ok (.pop, 1) := by decide +kernel
theorem dX5_tryPayment_56 : decode cX5_tryPayment 56 = .ok (.iconst 1, 1) := by decide +kernel
theorem dX5_tryPayment_57 : decode cX5_tryPayment 57 = .ok (.ireturn, 1) := by decide +kernel
theorem dJ9_max_7cf53_0 : decode cJ9_max_7cf53 0 = .ok (.iload_n 0, 1) := by decide +kernel
theorem dJ9_max_7cf53_1 : decode cJ9_max_7cf53 1 = .ok (.iload_n 1, 1) := by decide +kernel
theorem dJ9_max_7cf53_2 : decode cJ9_max_7cf53 2 = .ok (.if_icmp .lt 7, 3) := by decide +kernel
theorem dJ9_max_7cf53_5 : decode cJ9_max_7cf53 5 = .ok (.iload_n 0, 1) := by decide +kernel
theorem dJ9_max_7cf53_6 : decode cJ9_max_7cf53 6 = .ok (.goto 4, 3) := by decide +kernel
theorem dJ9_max_7cf53_9 : decode cJ9_max_7cf53 9 = .ok (.iload_n 1, 1) := by decide +kernel
theorem dJ9_max_7cf53_10 : decode cJ9_max_7cf53 10 = .ok (.ireturn, 1) := by decide +kernel
theorem dJ9_min_7cf53_0 : decode cJ9_min_7cf53 0 = .ok (.iload_n 0, 1) := by decide +kernel
theorem dJ9_min_7cf53_1 : decode cJ9_min_7cf53 1 = .ok (.iload_n 1, 1) := by decide +kernel
theorem dJ9_min_7cf53_2 : decode cJ9_min_7cf53 2 = .ok (.if_icmp .gt 7, 3) := by decide +kernel
theorem dJ9_min_7cf53_5 : decode cJ9_min_7cf53 5 = .ok (.iload_n 0, 1) := by decide +kernel
theorem dJ9_min_7cf53_6 : decode cJ9_min_7cf53 6 = .ok (.goto 4, 3) := by decide +kernel
theorem dJ9_min_7cf53_9 : decode cJ9_min_7cf53 9 = .ok (.iload_n 1, 1) := by decide +kernel
theorem dJ9_min_7cf53_10 : decode cJ9_min_7cf53 10 = .ok (.ireturn, 1) := by decide +kernel
theorem dJxa1e45_init_da8c8_0 : decode cJxa1e45_init_da8c8 0 = .ok (.aload_n 0, 1) := by decide +kernel
theorem dJxa1e45_init_da8c8_1 : decode cJxa1e45_init_da8c8 1 = .ok (.invokespecial 1, 3) := by decide +kernel
theorem dJxa1e45_init_da8c8_4 : decode cJxa1e45_init_da8c8 4 = .ok (.return_, 1) := by decide +kernel
theorem dJxc12de_init_da8c8_0 : decode cJxc12de_init_da8c8 0 = .ok (.aload_n 0, 1) := by decide +kernel
theorem dJxc12de_init_da8c8_1 : decode cJxc12de_init_da8c8 1 = .ok (.invokespecial 1, 3) := by decide +kernel
theorem dJxc12de_init_da8c8_4 : decode cJxc12de_init_da8c8 4 = .ok (.aload_n 0, 1) := by decide +kernel
theorem dJxc12de_init_da8c8_5 : decode cJxc12de_init_da8c8 5 = .ok (.iconst 0, 1) := by decide +kernel
theorem dJxc12de_init_da8c8_6 : decode cJxc12de_init_da8c8 6 = .ok (.putfield 7, 3) := by decide +kernel
theorem dJxc12de_init_da8c8_9 : decode cJxc12de_init_da8c8 9 = .ok (.return_, 1) := by decide +kernel
theorem dJx4a65c_init_da8c8_0 : decode cJx4a65c_init_da8c8 0 = .ok (.aload_n 0, 1) := by decide +kernel
theorem dJx4a65c_init_da8c8_1 : decode cJx4a65c_init_da8c8 1 = .ok (.invokespecial 1, 3) := by decide +kernel
theorem dJx4a65c_init_da8c8_4 : decode cJx4a65c_init_da8c8 4 = .ok (.aload_n 0, 1) := by decide +kernel
theorem dJx4a65c_init_da8c8_5 : decode cJx4a65c_init_da8c8 5 = .ok (.getstatic 39, 3) := by decide +kernel
theorem dJx4a65c_init_da8c8_8 : decode cJx4a65c_init_da8c8 8 = .ok (.putfield 9, 3) := by decide +kernel
theorem dJx4a65c_init_da8c8_11 : decode cJx4a65c_init_da8c8 11 = .ok (.return_, 1) := by decide +kernel
theorem dJx4a65c_grow_92f84_0 : decode cJx4a65c_grow_92f84 0 = .ok (.aload_n 0, 1) := by decide +kernel
theorem dJx4a65c_grow_92f84_1 : decode cJx4a65c_grow_92f84 1 = .ok (.getfield 9, 3) := by decide +kernel
theorem dJx4a65c_grow_92f84_4 : decode cJx4a65c_grow_92f84 4 = .ok (.arraylength, 1) := by decide +kernel
theorem dJx4a65c_grow_92f84_5 : decode cJx4a65c_grow_92f84 5 = .ok (.istore_n 2, 1) := by decide +kernel
theorem dJx4a65c_grow_92f84_6 : decode cJx4a65c_grow_92f84 6 = .ok (.iload_n 2, 1) := by decide +kernel
theorem dJx4a65c_grow_92f84_7 : decode cJx4a65c_grow_92f84 7 = .ok (.ifCond .gt 13, 3) := by decide +kernel
theorem dJx4a65c_grow_92f84_10 : decode cJx4a65c_grow_92f84 10 = .ok (.aload_n 0, 1) := by decide +kernel
theorem dJx4a65c_grow_92f84_11 : decode cJx4a65c_grow_92f84 11 = .ok (.getfield 9, 3) := by decide +kernel
theorem dJx4a65c_grow_92f84_14 : decode cJx4a65c_grow_92f84 14 = .ok (.getstatic 39, 3) := by decide +kernel
theorem dJx4a65c_grow_92f84_17 : decode cJx4a65c_grow_92f84 17 = .ok (.if_acmp .eq 28, 3) := by decide +kernel
theorem dJx4a65c_grow_92f84_20 : decode cJx4a65c_grow_92f84 20 = .ok (.iload_n 2, 1) := by decide +kernel
theorem dJx4a65c_grow_92f84_21 : decode cJx4a65c_grow_92f84 21 = .ok (.iload_n 1, 1) := by decide +kernel
theorem dJx4a65c_grow_92f84_22 : decode cJx4a65c_grow_92f84 22 = .ok (.iload_n 2, 1) := by decide +kernel
theorem dJx4a65c_grow_92f84_23 : decode cJx4a65c_grow_92f84 23 = .ok (.isub, 1) := by decide +kernel
theorem dJx4a65c_grow_92f84_24 : decode cJx4a65c_grow_92f84 24 = .ok (.iload_n 2, 1) := by decide +kernel
theorem dJx4a65c_grow_92f84_25 : decode cJx4a65c_grow_92f84 25 = .ok (.iconst 1, 1) := by decide +kernel
theorem dJx4a65c_grow_92f84_26 : decode cJx4a65c_grow_92f84 26 = .ok (.ishr, 1) := by decide +kernel
theorem dJx4a65c_grow_92f84_27 : decode cJx4a65c_grow_92f84 27 = .ok (.invokestatic 73, 3) := by decide +kernel
theorem dJx4a65c_grow_92f84_30 : decode cJx4a65c_grow_92f84 30 = .ok (.istore_n 3, 1) := by decide +kernel
theorem dJx4a65c_grow_92f84_31 : decode cJx4a65c_grow_92f84 31 = .ok (.aload_n 0, 1) := by decide +kernel
theorem dJx4a65c_grow_92f84_32 : decode cJx4a65c_grow_92f84 32 = .ok (.aload_n 0, 1) := by decide +kernel
theorem dJx4a65c_grow_92f84_33 : decode cJx4a65c_grow_92f84 33 = .ok (.getfield 9, 3) := by decide +kernel
theorem dJx4a65c_grow_92f84_36 : decode cJx4a65c_grow_92f84 36 = .ok (.iload_n 3, 1) := by decide +kernel
theorem dJx4a65c_grow_92f84_37 : decode cJx4a65c_grow_92f84 37 = .ok (.invokestatic 66, 3) := by decide +kernel
theorem dJx4a65c_grow_92f84_40 : decode cJx4a65c_grow_92f84 40 = .ok (.dup_x1, 1) := by decide +kernel
theorem dJx4a65c_grow_92f84_41 : decode cJx4a65c_grow_92f84 41 = .ok (.putfield 9, 3) := by decide +kernel
theorem dJx4a65c_grow_92f84_44 : decode cJx4a65c_grow_92f84 44 = .ok (.areturn, 1) := by decide +kernel
theorem dJx4a65c_grow_92f84_45 : decode cJx4a65c_grow_92f84 45 = .ok (.aload_n 0, 1) := by decide +kernel
theorem dJx4a65c_grow_92f84_46 : decode cJx4a65c_grow_92f84 46 = .ok (.bipush 10, 2) := by decide +kernel
theorem dJx4a65c_grow_92f84_48 : decode cJx4a65c_grow_92f84 48 = .ok (.iload_n 1, 1) := by decide +kernel
theorem dJx4a65c_grow_92f84_49 : decode cJx4a65c_grow_92f84 49 = .ok (.invokestatic 79, 3) := by decide +kernel
theorem dJx4a65c_grow_92f84_52 : decode cJx4a65c_grow_92f84 52 = .ok (.anewarray 7, 3) := by decide +kernel
theorem dJx4a65c_grow_92f84_55 : decode cJx4a65c_grow_92f84 55 = .ok (.dup_x1, 1) := by decide +kernel
theorem dJx4a65c_grow_92f84_56 : decode cJx4a65c_grow_92f84 56 = .ok (.putfield 9, 3) := by decide +kernel
theorem dJx4a65c_grow_92f84_59 : decode cJx4a65c_grow_92f84 59 = .ok (.areturn, 1) := by decide +kernel
theorem dJx4a65c_grow_d5877_0 : decode cJx4a65c_grow_d5877 0 = .ok (.aload_n 0, 1) := by decide +kernel
theorem dJx4a65c_grow_d5877_1 : decode cJx4a65c_grow_d5877 1 = .ok (.aload_n 0, 1) := by decide +kernel
theorem dJx4a65c_grow_d5877_2 : decode cJx4a65c_grow_d5877 2 = .ok (.getfield 48, 3) := by decide +kernel
theorem dJx4a65c_grow_d5877_5 : decode cJx4a65c_grow_d5877 5 = .ok (.iconst 1, 1) := by decide +kernel
theorem dJx4a65c_grow_d5877_6 : decode cJx4a65c_grow_d5877 6 = .ok (.iadd, 1) := by decide +kernel
theorem dJx4a65c_grow_d5877_7 : decode cJx4a65c_grow_d5877 7 = .ok (.invokevirtual 69, 3) := by decide +kernel
theorem dJx4a65c_grow_d5877_10 : decode cJx4a65c_grow_d5877 10 = .ok (.areturn, 1) := by decide +kernel
theorem dJx4a65c_size_8abf5_0 : decode cJx4a65c_size_8abf5 0 = .ok (.aload_n 0, 1) := by decide +kernel
theorem dJx4a65c_size_8abf5_1 : decode cJx4a65c_size_8abf5 1 = .ok (.getfield 48, 3) := by decide +kernel
theorem dJx4a65c_size_8abf5_4 : decode cJx4a65c_size_8abf5 4 = .ok (.ireturn, 1) := by decide +kernel
theorem dJx4a65c_elementData_915e3_0 : decode cJx4a65c_elementData_915e3 0 = .ok (.aload_n 0, 1) := by decide +kernel
theorem dJx4a65c_elementData_915e3_1 : decode cJx4a65c_elementData_915e3 1 = .ok (.getfield 9, 3) := by decide +kernel
theorem dJx4a65c_elementData_915e3_4 : decode cJx4a65c_elementData_915e3 4 = .ok (.iload_n 1, 1) := by decide +kernel
theorem dJx4a65c_elementData_915e3_5 : decode cJx4a65c_elementData_915e3 5 = .ok (.aaload, 1) := by decide +kernel
theorem dJx4a65c_elementData_915e3_6 : decode cJx4a65c_elementData_915e3 6 = .ok (.areturn, 1) := by decide +kernel
theorem dJx4a65c_get_915e3_0 : decode cJx4a65c_get_915e3 0 = .ok (.iload_n 1, 1) := by decide +kernel
theorem dJx4a65c_get_915e3_1 : decode cJx4a65c_get_915e3 1 = .ok (.aload_n 0, 1) := by decide +kernel
theorem dJx4a65c_get_915e3_2 : decode cJx4a65c_get_915e3 2 = .ok (.getfield 48, 3) := by decide +kernel
theorem dJx4a65c_get_915e3_5 : decode cJx4a65c_get_915e3 5 = .ok (.invokestatic 118, 3) := by decide +kernel
theorem dJx4a65c_get_915e3_8 : decode cJx4a65c_get_915e3 8 = .ok (.pop, 1) := by decide +kernel
theorem dJx4a65c_get_915e3_9 : decode cJx4a65c_get_915e3 9 = .ok (.aload_n 0, 1) := by decide +kernel
theorem dJx4a65c_get_915e3_10 : decode cJx4a65c_get_915e3 10 = .ok (.iload_n 1, 1) := by decide +kernel
theorem dJx4a65c_get_915e3_11 : decode cJx4a65c_get_915e3 11 = .ok (.invokevirtual 123, 3) := by decide +kernel
theorem dJx4a65c_get_915e3_14 : decode cJx4a65c_get_915e3 14 = .ok (.areturn, 1) := by decide +kernel
theorem dJx4a65c_add_72be8_0 : decode cJx4a65c_add_72be8 0 = .ok (.iload_n 3, 1) := by decide +kernel
theorem dJx4a65c_add_72be8_1 : decode cJx4a65c_add_72be8 1 = .ok (.aload_n 2, 1) := by decide +kernel
theorem dJx4a65c_add_72be8_2 : decode cJx4a65c_add_72be8 2 = .ok (.arraylength, 1) := by decide +kernel
theorem dJx4a65c_add_72be8_3 : decode cJx4a65c_add_72be8 3 = .ok (.if_icmp .ne 8, 3) := by decide +kernel
theorem dJx4a65c_add_72be8_6 : decode cJx4a65c_add_72be8 6 = .ok (.aload_n 0, 1) := by decide +kernel
theorem dJx4a65c_add_72be8_7 : decode cJx4a65c_add_72be8 7 = .ok (.invokevirtual 129, 3) := by decide +kernel
theorem dJx4a65c_add_72be8_10 : decode cJx4a65c_add_72be8 10 = .ok (.astore_n 2, 1) := by decide +kernel
theorem dJx4a65c_add_72be8_11 : decode cJx4a65c_add_72be8 11 = .ok (.aload_n 2, 1) := by decide +kernel
theorem dJx4a65c_add_72be8_12 : decode cJx4a65c_add_72be8 12 = .ok (.iload_n 3, 1) := by decide +kernel
theorem dJx4a65c_add_72be8_13 : decode cJx4a65c_add_72be8 13 = .ok (.aload_n 1, 1) := by decide +kernel
theorem dJx4a65c_add_72be8_14 : decode cJx4a65c_add_72be8 14 = .ok (.aastore, 1) := by decide +kernel
theorem dJx4a65c_add_72be8_15 : decode cJx4a65c_add_72be8 15 = .ok (.aload_n 0, 1) := by decide +kernel
theorem dJx4a65c_add_72be8_16 : decode cJx4a65c_add_72be8 16 = .ok (.iload_n 3, 1) := by decide +kernel
theorem dJx4a65c_add_72be8_17 : decode cJx4a65c_add_72be8 17 = .ok (.iconst 1, 1) := by decide +kernel
theorem dJx4a65c_add_72be8_18 : decode cJx4a65c_add_72be8 18 = .ok (.iadd, 1) := by decide +kernel
theorem dJx4a65c_add_72be8_19 : decode cJx4a65c_add_72be8 19 = .ok (.putfield 48, 3) := by decide +kernel
theorem dJx4a65c_add_72be8_22 : decode cJx4a65c_add_72be8 22 = .ok (.return_, 1) := by decide +kernel
theorem dJx4a65c_add_9ea2d_0 : decode cJx4a65c_add_9ea2d 0 = .ok (.aload_n 0, 1) := by decide +kernel
theorem dJx4a65c_add_9ea2d_1 : decode cJx4a65c_add_9ea2d 1 = .ok (.dup, 1) := by decide +kernel
theorem dJx4a65c_add_9ea2d_2 : decode cJx4a65c_add_9ea2d 2 = .ok (.getfield 63, 3) := by decide +kernel
theorem dJx4a65c_add_9ea2d_5 : decode cJx4a65c_add_9ea2d 5 = .ok (.iconst 1, 1) := by decide +kernel
theorem dJx4a65c_add_9ea2d_6 : decode cJx4a65c_add_9ea2d 6 = .ok (.iadd, 1) := by decide +kernel
theorem dJx4a65c_add_9ea2d_7 : decode cJx4a65c_add_9ea2d 7 = .ok (.putfield 63, 3) := by decide +kernel
theorem dJx4a65c_add_9ea2d_10 : decode cJx4a65c_add_9ea2d 10 = .ok (.aload_n 0, 1) := by decide +kernel
theorem dJx4a65c_add_9ea2d_11 : decode cJx4a65c_add_9ea2d 11 = .ok (.aload_n 1, 1) := by decide +kernel
theorem dJx4a65c_add_9ea2d_12 : decode cJx4a65c_add_9ea2d 12 = .ok (.aload_n 0, 1) := by decide +kernel
theorem dJx4a65c_add_9ea2d_13 : decode cJx4a65c_add_9ea2d 13 = .ok (.getfield 9, 3) := by decide +kernel
theorem dJx4a65c_add_9ea2d_16 : decode cJx4a65c_add_9ea2d 16 = .ok (.aload_n 0, 1) := by decide +kernel
theorem dJx4a65c_add_9ea2d_17 : decode cJx4a65c_add_9ea2d 17 = .ok (.getfield 48, 3) := by decide +kernel
theorem dJx4a65c_add_9ea2d_20 : decode cJx4a65c_add_9ea2d 20 = .ok (.invokevirtual 131, 3) := by decide +kernel
theorem dJx4a65c_add_9ea2d_23 : decode cJx4a65c_add_9ea2d 23 = .ok (.iconst 1, 1) := by decide +kernel
theorem dJx4a65c_add_9ea2d_24 : decode cJx4a65c_add_9ea2d 24 = .ok (.ireturn, 1) := by decide +kernel
theorem dJ7_copyOf_1904c_0 : decode cJ7_copyOf_1904c 0 = .ok (.aload_n 0, 1) := by decide +kernel
theorem dJ7_copyOf_1904c_1 : decode cJ7_copyOf_1904c 1 = .ok (.iload_n 1, 1) := by decide +kernel
theorem dJ7_copyOf_1904c_2 : decode cJ7_copyOf_1904c 2 = .ok (.aload_n 0, 1) := by decide +kernel
theorem dJ7_copyOf_1904c_3 : decode cJ7_copyOf_1904c 3 = .ok (.invokevirtual 86, 3) := by decide +kernel
theorem dJ7_copyOf_1904c_6 : decode cJ7_copyOf_1904c 6 = .ok (.invokestatic 300, 3) := by decide +kernel
theorem dJ7_copyOf_1904c_9 : decode cJ7_copyOf_1904c 9 = .ok (.areturn, 1) := by decide +kernel
theorem dJ7_copyOf_6403c_0 : decode cJ7_copyOf_6403c 0 = .ok (.aload_n 2, 1) := by decide +kernel
theorem dJ7_copyOf_6403c_1 : decode cJ7_copyOf_6403c 1 = .ok (.ldc 110, 2) := by decide +kernel
theorem dJ7_copyOf_6403c_3 : decode cJ7_copyOf_6403c 3 = .ok (.if_acmp .ne 10, 3) := by decide +kernel
theorem dJ7_copyOf_6403c_6 : decode cJ7_copyOf_6403c 6 = .ok (.iload_n 1, 1) := by decide +kernel
theorem dJ7_copyOf_6403c_7 : decode cJ7_copyOf_6403c 7 = .ok (.anewarray 2, 3) := by decide +kernel
theorem dJ7_copyOf_6403c_10 : decode cJ7_copyOf_6403c 10 = .ok (.goto 14, 3) := by decide +kernel
theorem dJ7_copyOf_6403c_13 : decode cJ7_copyOf_6403c 13 = .ok (.aload_n 2, 1) := by decide +kernel
theorem dJ7_copyOf_6403c_14 : decode cJ7_copyOf_6403c 14 = .ok (.invokevirtual 90, 3) := by decide +kernel
theorem dJ7_copyOf_6403c_17 : decode cJ7_copyOf_6403c 17 = .ok (.iload_n 1, 1) := by decide +kernel
theorem dJ7_copyOf_6403c_18 : decode cJ7_copyOf_6403c 18 = .ok (.invokestatic 95, 3) := by decide +kernel
theorem dJ7_copyOf_6403c_21 : decode cJ7_copyOf_6403c 21 = .ok (.checkcast 110, 3) := by decide +kernel
theorem dJ7_copyOf_6403c_24 : decode cJ7_copyOf_6403c 24 = .ok (.astore_n 3, 1) := by decide +kernel
theorem dJ7_copyOf_6403c_25 : decode cJ7_copyOf_6403c 25 = .ok (.aload_n 0, 1) := by decide +kernel
theorem dJ7_copyOf_6403c_26 : decode cJ7_copyOf_6403c 26 = .ok (.iconst 0, 1) := by decide +kernel
theorem dJ7_copyOf_6403c_27 : decode cJ7_copyOf_6403c 27 = .ok (.aload_n 3, 1) := by decide +kernel
theorem dJ7_copyOf_6403c_28 : decode cJ7_copyOf_6403c 28 = .ok (.iconst 0, 1) := by decide +kernel
theorem dJ7_copyOf_6403c_29 : decode cJ7_copyOf_6403c 29 = .ok (.aload_n 0, 1) := by decide +kernel
theorem dJ7_copyOf_6403c_30 : decode cJ7_copyOf_6403c 30 = .ok (.arraylength, 1) := by decide +kernel
theorem dJ7_copyOf_6403c_31 : decode cJ7_copyOf_6403c 31 = .ok (.iload_n 1, 1) := by decide +kernel
theorem dJ7_copyOf_6403c_32 : decode cJ7_copyOf_6403c 32 = .ok (.invokestatic 304, 3) := by decide +kernel
theorem dJ7_copyOf_6403c_35 : decode cJ7_copyOf_6403c 35 = .ok (.invokestatic 150, 3) := by decide +kernel
theorem dJ7_copyOf_6403c_38 : decode cJ7_copyOf_6403c 38 = .ok (.aload_n 3, 1) := by decide +kernel
theorem dJ7_copyOf_6403c_39 : decode cJ7_copyOf_6403c 39 = .ok (.areturn, 1) := by decide +kernel
theorem dJ15_checkIndex_7cf53_0 : decode cJ15_checkIndex_7cf53 0 = .ok (.iload_n 0, 1) := by decide +kernel
theorem dJ15_checkIndex_7cf53_1 : decode cJ15_checkIndex_7cf53 1 = .ok (.iload_n 1, 1) := by decide +kernel
theorem dJ15_checkIndex_7cf53_2 : decode cJ15_checkIndex_7cf53 2 = .ok (.aconst_null, 1) := by decide +kernel
theorem dJ15_checkIndex_7cf53_3 : decode cJ15_checkIndex_7cf53 3 = .ok (.invokestatic 105, 3) := by decide +kernel
theorem dJ15_checkIndex_7cf53_6 : decode cJ15_checkIndex_7cf53 6 = .ok (.ireturn, 1) := by decide +kernel
theorem dJ8_newLength_cabcc_0 : decode cJ8_newLength_cabcc 0 = .ok (.iload_n 0, 1) := by decide +kernel
theorem dJ8_newLength_cabcc_1 : decode cJ8_newLength_cabcc 1 = .ok (.iload_n 1, 1) := by decide +kernel
theorem dJ8_newLength_cabcc_2 : decode cJ8_newLength_cabcc 2 = .ok (.iload_n 2, 1) := by decide +kernel
theorem dJ8_newLength_cabcc_3 : decode cJ8_newLength_cabcc 3 = .ok (.invokestatic 194, 3) := by decide +kernel
theorem dJ8_newLength_cabcc_6 : decode cJ8_newLength_cabcc 6 = .ok (.iadd, 1) := by decide +kernel
theorem dJ8_newLength_cabcc_7 : decode cJ8_newLength_cabcc 7 = .ok (.istore_n 3, 1) := by decide +kernel
theorem dJ8_newLength_cabcc_8 : decode cJ8_newLength_cabcc 8 = .ok (.iconst 0, 1) := by decide +kernel
theorem dJ8_newLength_cabcc_9 : decode cJ8_newLength_cabcc 9 = .ok (.iload_n 3, 1) := by decide +kernel
theorem dJ8_newLength_cabcc_10 : decode cJ8_newLength_cabcc 10 = .ok (.if_icmp .ge 11, 3) := by decide +kernel
theorem dJ8_newLength_cabcc_13 : decode cJ8_newLength_cabcc 13 = .ok (.iload_n 3, 1) := by decide +kernel
theorem dJ8_newLength_cabcc_14 : decode cJ8_newLength_cabcc 14 = .ok (.ldc 200, 2) := by decide +kernel
theorem dJ8_newLength_cabcc_16 : decode cJ8_newLength_cabcc 16 = .ok (.if_icmp .gt 5, 3) := by decide +kernel
theorem dJ8_newLength_cabcc_19 : decode cJ8_newLength_cabcc 19 = .ok (.iload_n 3, 1) := by decide +kernel
theorem dJ8_newLength_cabcc_20 : decode cJ8_newLength_cabcc 20 = .ok (.ireturn, 1) := by decide +kernel
theorem dJ8_newLength_cabcc_21 : decode cJ8_newLength_cabcc 21 = .ok (.iload_n 0, 1) := by decide +kernel
theorem dJ8_newLength_cabcc_22 : decode cJ8_newLength_cabcc 22 = .ok (.iload_n 1, 1) := by decide +kernel
theorem dJ8_newLength_cabcc_23 : decode cJ8_newLength_cabcc 23 = .ok (.invokestatic 201, 3) := by decide +kernel
theorem dJ8_newLength_cabcc_26 : decode cJ8_newLength_cabcc 26 = .ok (.ireturn, 1) := by decide +kernel
theorem dJ8_hugeLength_7cf53_0 : decode cJ8_hugeLength_7cf53 0 = .ok (.iload_n 0, 1) := by decide +kernel
theorem dJ8_hugeLength_7cf53_1 : decode cJ8_hugeLength_7cf53 1 = .ok (.iload_n 1, 1) := by decide +kernel
theorem dJ8_hugeLength_7cf53_2 : decode cJ8_hugeLength_7cf53 2 = .ok (.iadd, 1) := by decide +kernel
theorem dJ8_hugeLength_7cf53_3 : decode cJ8_hugeLength_7cf53 3 = .ok (.istore_n 2, 1) := by decide +kernel
theorem dJ8_hugeLength_7cf53_4 : decode cJ8_hugeLength_7cf53 4 = .ok (.iload_n 2, 1) := by decide +kernel
theorem dJ8_hugeLength_7cf53_5 : decode cJ8_hugeLength_7cf53 5 = .ok (.ifCond .ge 44, 3) := by decide +kernel
theorem dJ8_hugeLength_7cf53_8 : decode cJ8_hugeLength_7cf53 8 = .ok (.new 204, 3) := by decide +kernel
theorem dJ8_hugeLength_7cf53_11 : decode cJ8_hugeLength_7cf53 11 = .ok (.dup, 1) := by decide +kernel
theorem dJ8_hugeLength_7cf53_12 : decode cJ8_hugeLength_7cf53 12 = .ok (.new 89, 3) := by decide +kernel
theorem dJ8_hugeLength_7cf53_15 : decode cJ8_hugeLength_7cf53 15 = .ok (.dup, 1) := by decide +kernel
theorem dJ8_hugeLength_7cf53_16 : decode cJ8_hugeLength_7cf53 16 = .ok (.invokespecial 91, 3) := by decide +kernel
theorem dJ8_hugeLength_7cf53_19 : decode cJ8_hugeLength_7cf53 19 = .ok (.ldc 206, 2) := by decide +kernel
theorem dJ8_hugeLength_7cf53_21 : decode cJ8_hugeLength_7cf53 21 = .ok (.invokevirtual 94, 3) := by decide +kernel
theorem dJ8_hugeLength_7cf53_24 : decode cJ8_hugeLength_7cf53 24 = .ok (.iload_n 0, 1) := by decide +kernel
theorem dJ8_hugeLength_7cf53_25 : decode cJ8_hugeLength_7cf53 25 = .ok (.invokevirtual 98, 3) := by decide +kernel
theorem dJ8_hugeLength_7cf53_28 : decode cJ8_hugeLength_7cf53 28 = .ok (.ldc 208, 2) := by decide +kernel
theorem dJ8_hugeLength_7cf53_30 : decode cJ8_hugeLength_7cf53 30 = .ok (.invokevirtual 94, 3) := by decide +kernel
theorem dJ8_hugeLength_7cf53_33 : decode cJ8_hugeLength_7cf53 33 = .ok (.iload_n 1, 1) := by decide +kernel
theorem dJ8_hugeLength_7cf53_34 : decode cJ8_hugeLength_7cf53 34 = .ok (.invokevirtual 98, 3) := by decide +kernel
theorem dJ8_hugeLength_7cf53_37 : decode cJ8_hugeLength_7cf53 37 = .ok (.ldc 210, 2) := by decide +kernel
theorem dJ8_hugeLength_7cf53_39 : decode cJ8_hugeLength_7cf53 39 = .ok (.invokevirtual 94, 3) := by decide +kernel
theorem dJ8_hugeLength_7cf53_42 : decode cJ8_hugeLength_7cf53 42 = .ok (.invokevirtual 101, 3) := by decide +kernel
theorem dJ8_hugeLength_7cf53_45 : decode cJ8_hugeLength_7cf53 45 = .ok (.invokespecial 212, 3) := by decide +kernel
theorem dJ8_hugeLength_7cf53_48 : decode cJ8_hugeLength_7cf53 48 = .ok (.athrow, 1) := by decide +kernel
theorem dJ8_hugeLength_7cf53_49 : decode cJ8_hugeLength_7cf53 49 = .ok (.iload_n 2, 1) := by decide +kernel
theorem dJ8_hugeLength_7cf53_50 : decode cJ8_hugeLength_7cf53 50 = .ok (.ldc 200, 2) := by decide +kernel
theorem dJ8_hugeLength_7cf53_52 : decode cJ8_hugeLength_7cf53 52 = .ok (.if_icmp .gt 6, 3) := by decide +kernel
theorem dJ8_hugeLength_7cf53_55 : decode cJ8_hugeLength_7cf53 55 = .ok (.ldc 200, 2) := by decide +kernel
theorem dJ8_hugeLength_7cf53_57 : decode cJ8_hugeLength_7cf53 57 = .ok (.ireturn, 1) := by decide +kernel
theorem dJ8_hugeLength_7cf53_58 : decode cJ8_hugeLength_7cf53 58 = .ok (.iload_n 2, 1) := by decide +kernel
theorem dJ8_hugeLength_7cf53_59 : decode cJ8_hugeLength_7cf53 59 = .ok (.ireturn, 1) := by decide +kernel
theorem dJ3_checkIndex_8e157_0 : decode cJ3_checkIndex_8e157 0 = .ok (.iload_n 0, 1) := by decide +kernel
theorem dJ3_checkIndex_8e157_1 : decode cJ3_checkIndex_8e157 1 = .ok (.ifCond .lt 8, 3) := by decide +kernel
theorem dJ3_checkIndex_8e157_4 : decode cJ3_checkIndex_8e157 4 = .ok (.iload_n 0, 1) := by decide +kernel
theorem dJ3_checkIndex_8e157_5 : decode cJ3_checkIndex_8e157 5 = .ok (.iload_n 1, 1) := by decide +kernel
theorem dJ3_checkIndex_8e157_6 : decode cJ3_checkIndex_8e157 6 = .ok (.if_icmp .lt 10, 3) := by decide +kernel
theorem dJ3_checkIndex_8e157_9 : decode cJ3_checkIndex_8e157 9 = .ok (.aload_n 2, 1) := by decide +kernel
theorem dJ3_checkIndex_8e157_10 : decode cJ3_checkIndex_8e157 10 = .ok (.iload_n 0, 1) := by decide +kernel
theorem dJ3_checkIndex_8e157_11 : decode cJ3_checkIndex_8e157 11 = .ok (.iload_n 1, 1) := by decide +kernel
theorem dJ3_checkIndex_8e157_12 : decode cJ3_checkIndex_8e157 12 = .ok (.invokestatic 95, 3) := by decide +kernel
theorem dJ3_checkIndex_8e157_15 : decode cJ3_checkIndex_8e157 15 = .ok (.athrow, 1) := by decide +kernel
theorem dJ3_checkIndex_8e157_16 : decode cJ3_checkIndex_8e157 16 = .ok (.iload_n 0, 1) := by decide +kernel
theorem dJ3_checkIndex_8e157_17 : decode cJ3_checkIndex_8e157 17 = .ok (.ireturn, 1) := by decide +kernel
abbrev vwCl : List vw_C := [(RJx4a65c, TJx4a65c, 3), (RX0, TX0, 4), (RX1, TX1, 5), (RX2, TX2, 3), (RX3, TX3, 9), (RX4, TX4, 7), (RX5, TX5, 8)]
/-- the good ones of the tables' words: what every contract asks -/
def TT : List Cond := lw_tbl.filter goodWord
theorem TT_lw (w : Cond) (h : w ∈ TT) : w ∈ lw_tbl := (List.mem_filter.mp h).1
theorem TT_gd (w : Cond) (h : w ∈ TT) : goodWord w = true := (List.mem_filter.mp h).2
theorem tt_of {w : Cond} (h : w ∈ tables_1) (g : goodWord w = true) : w ∈ TT := List.mem_filter.mpr ⟨List.mem_append_right _ h, g⟩
theorem tA {w : Cond} (i : Nat) (h : tables_1_1[i]? = some w) (g : goodWord w = true) : w ∈ TT := tt_of (List.mem_append_left _ (List.mem_of_getElem? h)) g
theorem tB {w : Cond} (i : Nat) (h : tables_1_2[i]? = some w) (g : goodWord w = true) : w ∈ TT := tt_of (List.mem_append_right _ (List.mem_append_left _ (List.mem_of_getElem? h))) g
theorem tC {w : Cond} (i : Nat) (h : tables_1_3[i]? = some w) (g : goodWord w = true) : w ∈ TT := tt_of (List.mem_append_right _ (List.mem_append_right _ (List.mem_of_getElem? h))) g
theorem tP {y : MethodName} (i : Nat) (h : (lw_privs[i]?).map (fun q => q.1) = some y) : Cond.selects y.cls y y ∈ TT := by
  obtain ⟨q, hq, e⟩ := Option.map_eq_some_iff.mp h
  subst e
  exact List.mem_filter.mpr ⟨List.mem_append_left _ (List.mem_map.mpr ⟨q, List.mem_of_getElem? hq, rfl⟩), rfl⟩
theorem inX0 : ∀ w ∈ wsX00, w ∈ TT := (List.forall_mem_cons.mpr ⟨(tA 72 rfl rfl), (List.forall_mem_cons.mpr ⟨(tA 74 rfl rfl), (List.forall_mem_cons.mpr ⟨(tA 76 rfl rfl), (List.forall_mem_cons.mpr ⟨(tA 78 rfl rfl), (fun _ h => absurd h List.not_mem_nil)⟩)⟩)⟩)⟩)
theorem inX1 : ∀ w ∈ wsX10, w ∈ TT := (List.forall_mem_cons.mpr ⟨(tA 227 rfl rfl), (List.forall_mem_cons.mpr ⟨(tA 229 rfl rfl), (List.forall_mem_cons.mpr ⟨(tA 231 rfl rfl), (List.forall_mem_cons.mpr ⟨(tA 233 rfl rfl), (List.forall_mem_cons.mpr ⟨(tA 235 rfl rfl), (fun _ h => absurd h List.not_mem_nil)⟩)⟩)⟩)⟩)⟩)
theorem inX2 : ∀ w ∈ wsX20, w ∈ TT := (List.forall_mem_cons.mpr ⟨(tB 105 rfl rfl), (List.forall_mem_cons.mpr ⟨(tB 107 rfl rfl), (List.forall_mem_cons.mpr ⟨(tB 109 rfl rfl), (fun _ h => absurd h List.not_mem_nil)⟩)⟩)⟩)
theorem inX3 : ∀ w ∈ wsX30, w ∈ TT := (List.forall_mem_cons.mpr ⟨(tB 170 rfl rfl), (List.forall_mem_cons.mpr ⟨(tB 172 rfl rfl), (List.forall_mem_cons.mpr ⟨(tB 174 rfl rfl), (List.forall_mem_cons.mpr ⟨(tB 176 rfl rfl), (List.forall_mem_cons.mpr ⟨(tB 178 rfl rfl), (List.forall_mem_cons.mpr ⟨(tB 180 rfl rfl), (List.forall_mem_cons.mpr ⟨(tB 182 rfl rfl), (List.forall_mem_cons.mpr ⟨(tB 184 rfl rfl), (List.forall_mem_cons.mpr ⟨(tB 186 rfl rfl), (fun _ h => absurd h List.not_mem_nil)⟩)⟩)⟩)⟩)⟩)⟩)⟩)⟩)⟩)
theorem inX4 : ∀ w ∈ wsX40, w ∈ TT := (List.forall_mem_cons.mpr ⟨(tB 228 rfl rfl), (List.forall_mem_cons.mpr ⟨(tB 230 rfl rfl), (List.forall_mem_cons.mpr ⟨(tB 232 rfl rfl), (List.forall_mem_cons.mpr ⟨(tB 234 rfl rfl), (List.forall_mem_cons.mpr ⟨(tB 236 rfl rfl), (List.forall_mem_cons.mpr ⟨(tB 238 rfl rfl), (List.forall_mem_cons.mpr ⟨(tC 0 rfl rfl), (fun _ h => absurd h List.not_mem_nil)⟩)⟩)⟩)⟩)⟩)⟩)⟩)
theorem inX5 : ∀ w ∈ wsX50, w ∈ TT := (List.forall_mem_cons.mpr ⟨(tA 89 rfl rfl), (List.forall_mem_cons.mpr ⟨(tA 91 rfl rfl), (List.forall_mem_cons.mpr ⟨(tA 93 rfl rfl), (List.forall_mem_cons.mpr ⟨(tA 95 rfl rfl), (List.forall_mem_cons.mpr ⟨(tA 97 rfl rfl), (List.forall_mem_cons.mpr ⟨(tA 99 rfl rfl), (List.forall_mem_cons.mpr ⟨(tA 101 rfl rfl), (List.forall_mem_cons.mpr ⟨(tA 103 rfl rfl), (fun _ h => absurd h List.not_mem_nil)⟩)⟩)⟩)⟩)⟩)⟩)⟩)⟩)
theorem inJx4a65c : ∀ w ∈ wsJx4a65c0, w ∈ TT := (List.forall_mem_cons.mpr ⟨(tA 55 rfl rfl), (List.forall_mem_cons.mpr ⟨(tA 51 rfl rfl), (List.forall_mem_cons.mpr ⟨(tA 53 rfl rfl), (fun _ h => absurd h List.not_mem_nil)⟩)⟩)⟩)
def kD0 : MethodName := ⟨"java/lang/RuntimeException", "<init>", "(Ljava/lang/String;)V"⟩
def kD1 : MethodName := ⟨"java/lang/Exception", "<init>", "(Ljava/lang/String;)V"⟩
def kD2 : MethodName := ⟨"java/lang/Throwable", "<init>", "(Ljava/lang/String;)V"⟩
theorem in_x0 : ∀ w ∈ (vx_atS RX5 158 "java/lang/IllegalArgumentException" ["java/lang/RuntimeException", "java/lang/Exception"]).filter goodWord, w ∈ TT := fun w h => List.mem_filter.mpr ⟨(show ∀ w ∈ (vx_atS RX5 158 "java/lang/IllegalArgumentException" ["java/lang/RuntimeException", "java/lang/Exception"]).filter goodWord, w ∈ lw_tbl by decide +kernel) w h, (List.mem_filter.mp h).2⟩
theorem in_y0 : ∀ w ∈ (vx_atS RX5 158 "java/lang/IllegalArgumentException" ["java/lang/RuntimeException", "java/lang/Exception"]).filter (fun w => !goodWord w), w ∈ [Cond.castable "java/lang/IllegalArgumentException" "java/lang/IllegalArgumentException", .declares kD0, .declares kD1, .declares kD2] := by decide +kernel
theorem in_z0 : ∀ w ∈ Cond.classLink RX5 154 "java/lang/IllegalArgumentException" :: Cond.initialized "java/lang/IllegalArgumentException" :: vx_atS RX5 158 "java/lang/IllegalArgumentException" ["java/lang/RuntimeException", "java/lang/Exception"], vx_ot w = true := by decide +kernel
theorem in_x1 : ∀ w ∈ (vx_atS RX5 114 "java/lang/IllegalStateException" ["java/lang/RuntimeException", "java/lang/Exception"]).filter goodWord, w ∈ TT := fun w h => List.mem_filter.mpr ⟨(show ∀ w ∈ (vx_atS RX5 114 "java/lang/IllegalStateException" ["java/lang/RuntimeException", "java/lang/Exception"]).filter goodWord, w ∈ lw_tbl by decide +kernel) w h, (List.mem_filter.mp h).2⟩
theorem in_y1 : ∀ w ∈ (vx_atS RX5 114 "java/lang/IllegalStateException" ["java/lang/RuntimeException", "java/lang/Exception"]).filter (fun w => !goodWord w), w ∈ [Cond.castable "java/lang/IllegalStateException" "java/lang/IllegalStateException", .declares kD0, .declares kD1, .declares kD2] := by decide +kernel
theorem in_z1 : ∀ w ∈ Cond.classLink RX5 110 "java/lang/IllegalStateException" :: Cond.initialized "java/lang/IllegalStateException" :: vx_atS RX5 114 "java/lang/IllegalStateException" ["java/lang/RuntimeException", "java/lang/Exception"], vx_ot w = true := by decide +kernel
theorem in_x2 : ∀ w ∈ (vx_atS RX5 208 "java/lang/IndexOutOfBoundsException" ["java/lang/RuntimeException", "java/lang/Exception"]).filter goodWord, w ∈ TT := fun w h => List.mem_filter.mpr ⟨(show ∀ w ∈ (vx_atS RX5 208 "java/lang/IndexOutOfBoundsException" ["java/lang/RuntimeException", "java/lang/Exception"]).filter goodWord, w ∈ lw_tbl by decide +kernel) w h, (List.mem_filter.mp h).2⟩
theorem in_y2 : ∀ w ∈ (vx_atS RX5 208 "java/lang/IndexOutOfBoundsException" ["java/lang/RuntimeException", "java/lang/Exception"]).filter (fun w => !goodWord w), w ∈ [Cond.castable "java/lang/IndexOutOfBoundsException" "java/lang/IndexOutOfBoundsException", .declares kD0, .declares kD1, .declares kD2] := by decide +kernel
theorem in_z2 : ∀ w ∈ Cond.classLink RX5 204 "java/lang/IndexOutOfBoundsException" :: Cond.initialized "java/lang/IndexOutOfBoundsException" :: vx_atS RX5 208 "java/lang/IndexOutOfBoundsException" ["java/lang/RuntimeException", "java/lang/Exception"], vx_ot w = true := by decide +kernel
