section
theorem goodIn_r {big : List Cond} (ws : List Cond) (ps : List Nat) (hp : ws = ps.filterMap (fun i => big[i]?)) (h : ws.all goodWord = true) : GoodIn big ws := by
  intro w hw
  have h1 := List.all_eq_true.mp h w hw
  rw [hp] at hw
  obtain ⟨i, -, hi⟩ := List.mem_filterMap.mp hw
  have hm : w ∈ big := by first | exact List.mem_of_getElem? hi | exact List.getElem?_mem hi
  exact ⟨hm, good_of_word h1⟩
theorem goodIn_app {big a b : List Cond} (ha : GoodIn big a) (hb : GoodIn big b) : GoodIn big (a ++ b) := fun w h => (List.mem_append.mp h).elim (ha w) (hb w)
theorem goodIn_ca {big a b : List Cond} {c : Cond} (ha : GoodIn big (c :: a)) (hb : GoodIn big b) : GoodIn big (c :: (a ++ b)) := fun w h => (List.mem_cons.mp h).elim (fun e => ha w (List.mem_cons.mpr (Or.inl e))) (fun h => (List.mem_append.mp h).elim (fun h => ha w (List.mem_cons.mpr (Or.inr h))) (hb w))
theorem goodIn_sub {big ws : List Cond} (hm : ∀ w ∈ ws, w ∈ big) (h : ws.all goodWord = true) : GoodIn big ws := fun w hw => ⟨hm w hw, good_of_word (List.all_eq_true.mp h w hw)⟩
def RX0 : String := "SharesDesk$Natural"
def TX0 : u_T := fun k => match k with
  | _ => ("SharesDesk$Natural", "words", "[I", true)
def tyX0 : Nat → FieldType := fun k => match k with
  | _ => .array .int
abbrev wsX00 : List Cond := u_ws RX0 TX0 1
theorem nmX0 : ∀ a, a < 1 → ∀ b, b < 1 → a ≠ b → (TX0 a).2.1 ≠ (TX0 b).2.1 := by decide +kernel
theorem tyX0_ok : ∀ k, k < 1 → parseFieldDescriptor (TX0 k).2.2.1 = some (tyX0 k) := by decide +kernel
abbrev cX0_init : ByteArray := prog_2_method_1_code
def yX0_init : MethodName := ⟨RX0, "<init>", "()V"⟩
abbrev cX0_set : ByteArray := prog_2_method_2_code
def yX0_set : MethodName := ⟨RX0, "set", "(I)V"⟩
abbrev cX0_copy : ByteArray := prog_2_method_3_code
def yX0_copy : MethodName := ⟨RX0, "copy", "(LSharesDesk$Natural;)V"⟩
abbrev cX0_wordAt : ByteArray := prog_2_method_4_code
def yX0_wordAt : MethodName := ⟨RX0, "wordAt", "(I)I"⟩
abbrev cX0_isZero : ByteArray := prog_2_method_5_code
def yX0_isZero : MethodName := ⟨RX0, "isZero", "()Z"⟩
abbrev cX0_isOne : ByteArray := prog_2_method_6_code
def yX0_isOne : MethodName := ⟨RX0, "isOne", "()Z"⟩
abbrev cX0_against : ByteArray := prog_2_method_7_code
def yX0_against : MethodName := ⟨RX0, "against", "(LSharesDesk$Natural;)I"⟩
abbrev cX0_minus : ByteArray := prog_2_method_8_code
def yX0_minus : MethodName := ⟨RX0, "minus", "(LSharesDesk$Natural;)V"⟩
abbrev cX0_times : ByteArray := prog_2_method_9_code
def yX0_times : MethodName := ⟨RX0, "times", "(I)V"⟩
abbrev cX0_divide : ByteArray := prog_2_method_10_code
def yX0_divide : MethodName := ⟨RX0, "divide", "(I)I"⟩
abbrev cX0_modulo : ByteArray := prog_2_method_11_code
def yX0_modulo : MethodName := ⟨RX0, "modulo", "(I)I"⟩
def RX1 : String := "SharesDesk$Phase"
def TX1 : u_T := fun k => match k with
  | 0 => ("SharesDesk$Phase", "town", "LSharesDesk$Town;", true)
  | 1 => ("SharesDesk$Phase", "base", "LSharesDesk$Natural;", true)
  | 2 => ("SharesDesk$Phase", "purses", "[LSharesDesk$Natural;", true)
  | 3 => ("SharesDesk$Phase", "lastPays", "[LSharesDesk$Natural;", true)
  | 4 => ("SharesDesk$Phase", "emptiedIn", "[I", true)
  | 5 => ("SharesDesk$Phase", "payers", "[I", true)
  | 6 => ("SharesDesk$Phase", "payerCount", "I", false)
  | 7 => ("SharesDesk$Phase", "picks", "[I", true)
  | 8 => ("SharesDesk$Phase", "picked", "I", false)
  | 9 => ("SharesDesk$Phase", "pickedSet", "I", false)
  | 10 => ("SharesDesk$Phase", "cost", "I", false)
  | 11 => ("SharesDesk$Phase", "rates", "[LSharesDesk$Natural;", true)
  | 12 => ("SharesDesk$Phase", "bases", "[LSharesDesk$Natural;", true)
  | 13 => ("SharesDesk$Phase", "open", "I", false)
  | 14 => ("SharesDesk$Phase", "best", "LSharesDesk$Share;", false)
  | _ => ("SharesDesk$Phase", "tried", "LSharesDesk$Share;", false)
def tyX1 : Nat → FieldType := fun k => match k with
  | 0 => .object "SharesDesk$Town"
  | 1 => .object "SharesDesk$Natural"
  | 2 => .array (.object "SharesDesk$Natural")
  | 3 => .array (.object "SharesDesk$Natural")
  | 4 => .array .int
  | 5 => .array .int
  | 6 => .int
  | 7 => .array .int
  | 8 => .int
  | 9 => .int
  | 10 => .int
  | 11 => .array (.object "SharesDesk$Natural")
  | 12 => .array (.object "SharesDesk$Natural")
  | 13 => .int
  | 14 => .object "SharesDesk$Share"
  | _ => .object "SharesDesk$Share"
abbrev wsX10 : List Cond := u_ws RX1 TX1 16
theorem nmX1 : ∀ a, a < 16 → ∀ b, b < 16 → a ≠ b → (TX1 a).2.1 ≠ (TX1 b).2.1 := by decide +kernel
theorem tyX1_ok : ∀ k, k < 16 → parseFieldDescriptor (TX1 k).2.2.1 = some (tyX1 k) := by decide +kernel
abbrev cX1_init : ByteArray := prog_3_method_1_code
def yX1_init : MethodName := ⟨RX1, "<init>", "(LSharesDesk$Town;)V"⟩
abbrev cX1_play : ByteArray := prog_3_method_2_code
def yX1_play : MethodName := ⟨RX1, "play", "(I)V"⟩
abbrev cX1_overspends : ByteArray := prog_3_method_3_code
def yX1_overspends : MethodName := ⟨RX1, "overspends", "()Z"⟩
abbrev cX1_roundOf : ByteArray := prog_3_method_4_code
def yX1_roundOf : MethodName := ⟨RX1, "roundOf", "(I)I"⟩
abbrev cX1_payment : ByteArray := prog_3_method_5_code
def yX1_payment : MethodName := ⟨RX1, "payment", "(II)LSharesDesk$Natural;"⟩
abbrev cX1_countServed : ByteArray := prog_3_method_6_code
def yX1_countServed : MethodName := ⟨RX1, "countServed", "(I)I"⟩
abbrev cX1_measureLack : ByteArray := prog_3_method_7_code
def yX1_measureLack : MethodName := ⟨RX1, "measureLack", "(ILSharesDesk$Natural;)V"⟩
abbrev cX1_fillPurses : ByteArray := prog_3_method_8_code
def yX1_fillPurses : MethodName := ⟨RX1, "fillPurses", "(I)V"⟩
abbrev cX1_findCheapest : ByteArray := prog_3_method_9_code
def yX1_findCheapest : MethodName := ⟨RX1, "findCheapest", "()I"⟩
abbrev cX1_isBetter : ByteArray := prog_3_method_10_code
def yX1_isBetter : MethodName := ⟨RX1, "isBetter", "(II)Z"⟩
abbrev cX1_swapShares : ByteArray := prog_3_method_11_code
def yX1_swapShares : MethodName := ⟨RX1, "swapShares", "()V"⟩
abbrev cX1_findShare : ByteArray := prog_3_method_12_code
def yX1_findShare : MethodName := ⟨RX1, "findShare", "(I)Z"⟩
abbrev cX1_countPayers : ByteArray := prog_3_method_13_code
def yX1_countPayers : MethodName := ⟨RX1, "countPayers", "(I)I"⟩
abbrev cX1_pay : ByteArray := prog_3_method_14_code
def yX1_pay : MethodName := ⟨RX1, "pay", "(II)V"⟩
abbrev cX1_charge : ByteArray := prog_3_method_15_code
def yX1_charge : MethodName := ⟨RX1, "charge", "(II)V"⟩
abbrev cX1_sortPayers : ByteArray := prog_3_method_16_code
def yX1_sortPayers : MethodName := ⟨RX1, "sortPayers", "()V"⟩
def RX2 : String := "SharesDesk$Ratio"
def TX2 : u_T := fun k => match k with
  | 0 => ("SharesDesk$Ratio", "top", "LSharesDesk$Natural;", true)
  | _ => ("SharesDesk$Ratio", "bottom", "LSharesDesk$Natural;", true)
def tyX2 : Nat → FieldType := fun k => match k with
  | 0 => .object "SharesDesk$Natural"
  | _ => .object "SharesDesk$Natural"
abbrev wsX20 : List Cond := u_ws RX2 TX2 2
theorem nmX2 : ∀ a, a < 2 → ∀ b, b < 2 → a ≠ b → (TX2 a).2.1 ≠ (TX2 b).2.1 := by decide +kernel
theorem tyX2_ok : ∀ k, k < 2 → parseFieldDescriptor (TX2 k).2.2.1 = some (tyX2 k) := by decide +kernel
abbrev cX2_init : ByteArray := prog_4_method_1_code
def yX2_init : MethodName := ⟨RX2, "<init>", "()V"⟩
abbrev cX2_takeZero : ByteArray := prog_4_method_2_code
def yX2_takeZero : MethodName := ⟨RX2, "takeZero", "()V"⟩
abbrev cX2_take : ByteArray := prog_4_method_3_code
def yX2_take : MethodName := ⟨RX2, "take", "(LSharesDesk$Natural;LSharesDesk$Natural;)V"⟩
abbrev cX2_wordOf : ByteArray := prog_4_method_4_code
def yX2_wordOf : MethodName := ⟨RX2, "wordOf", "(II)I"⟩
abbrev cX2_cancel : ByteArray := prog_4_method_5_code
def yX2_cancel : MethodName := ⟨RX2, "cancel", "(I)V"⟩
def RX3 : String := "SharesDesk$Share"
def TX3 : u_T := fun k => match k with
  | 0 => ("SharesDesk$Share", "rest", "LSharesDesk$Natural;", true)
  | 1 => ("SharesDesk$Share", "payers", "I", false)
  | 2 => ("SharesDesk$Share", "left", "LSharesDesk$Natural;", true)
  | _ => ("SharesDesk$Share", "right", "LSharesDesk$Natural;", true)
def tyX3 : Nat → FieldType := fun k => match k with
  | 0 => .object "SharesDesk$Natural"
  | 1 => .int
  | 2 => .object "SharesDesk$Natural"
  | _ => .object "SharesDesk$Natural"
abbrev wsX30 : List Cond := u_ws RX3 TX3 4
theorem nmX3 : ∀ a, a < 4 → ∀ b, b < 4 → a ≠ b → (TX3 a).2.1 ≠ (TX3 b).2.1 := by decide +kernel
theorem tyX3_ok : ∀ k, k < 4 → parseFieldDescriptor (TX3 k).2.2.1 = some (tyX3 k) := by decide +kernel
abbrev cX3_init : ByteArray := prog_5_method_1_code
def yX3_init : MethodName := ⟨RX3, "<init>", "()V"⟩
abbrev cX3_isWithin : ByteArray := prog_5_method_2_code
def yX3_isWithin : MethodName := ⟨RX3, "isWithin", "(LSharesDesk$Natural;)Z"⟩
abbrev cX3_against : ByteArray := prog_5_method_3_code
def yX3_against : MethodName := ⟨RX3, "against", "(LSharesDesk$Share;)I"⟩
def RX4 : String := "SharesDesk$Slip"
def TX4 : u_T := fun k => match k with
  | 0 => ("SharesDesk$Slip", "owner", "I", false)
  | 1 => ("SharesDesk$Slip", "text", "[C", true)
  | 2 => ("SharesDesk$Slip", "length", "I", false)
  | 3 => ("SharesDesk$Slip", "digits", "[C", true)
  | _ => ("SharesDesk$Slip", "rest", "LSharesDesk$Natural;", true)
def tyX4 : Nat → FieldType := fun k => match k with
  | 0 => .int
  | 1 => .array .char
  | 2 => .int
  | 3 => .array .char
  | _ => .object "SharesDesk$Natural"
abbrev wsX40 : List Cond := u_ws RX4 TX4 5
theorem nmX4 : ∀ a, a < 5 → ∀ b, b < 5 → a ≠ b → (TX4 a).2.1 ≠ (TX4 b).2.1 := by decide +kernel
theorem tyX4_ok : ∀ k, k < 5 → parseFieldDescriptor (TX4 k).2.2.1 = some (tyX4 k) := by decide +kernel
abbrev cX4_init : ByteArray := prog_6_method_1_code
def yX4_init : MethodName := ⟨RX4, "<init>", "()V"⟩
abbrev cX4_clear : ByteArray := prog_6_method_2_code
def yX4_clear : MethodName := ⟨RX4, "clear", "(I)V"⟩
abbrev cX4_charOr : ByteArray := prog_6_method_3_code
def yX4_charOr : MethodName := ⟨RX4, "charOr", "(II)I"⟩
abbrev cX4_put : ByteArray := prog_6_method_4_code
def yX4_put : MethodName := ⟨RX4, "put", "(C)V"⟩
abbrev cX4_putProject : ByteArray := prog_6_method_5_code
def yX4_putProject : MethodName := ⟨RX4, "putProject", "(I)V"⟩
abbrev cX4_putRatio : ByteArray := prog_6_method_6_code
def yX4_putRatio : MethodName := ⟨RX4, "putRatio", "(LSharesDesk$Ratio;)V"⟩
abbrev cX4_putNatural : ByteArray := prog_6_method_7_code
def yX4_putNatural : MethodName := ⟨RX4, "putNatural", "(LSharesDesk$Natural;)V"⟩
def RX5 : String := "SharesDesk$Town"
def TX5 : u_T := fun k => match k with
  | 0 => ("SharesDesk$Town", "costs", "[I", true)
  | 1 => ("SharesDesk$Town", "voters", "J", false)
  | 2 => ("SharesDesk$Town", "approvals", "[I", true)
  | _ => ("SharesDesk$Town", "budget", "I", false)
def tyX5 : Nat → FieldType := fun k => match k with
  | 0 => .array .int
  | 1 => .long
  | 2 => .array .int
  | _ => .int
abbrev wsX50 : List Cond := u_ws RX5 TX5 4
theorem nmX5 : ∀ a, a < 4 → ∀ b, b < 4 → a ≠ b → (TX5 a).2.1 ≠ (TX5 b).2.1 := by decide +kernel
theorem tyX5_ok : ∀ k, k < 4 → parseFieldDescriptor (TX5 k).2.2.1 = some (tyX5 k) := by decide +kernel
abbrev cX5_init : ByteArray := prog_7_method_1_code
def yX5_init : MethodName := ⟨RX5, "<init>", "()V"⟩
abbrev cX5_hasProject : ByteArray := prog_7_method_2_code
def yX5_hasProject : MethodName := ⟨RX5, "hasProject", "(I)Z"⟩
abbrev cX5_hasVoter : ByteArray := prog_7_method_3_code
def yX5_hasVoter : MethodName := ⟨RX5, "hasVoter", "(I)Z"⟩
abbrev cX5_approves : ByteArray := prog_7_method_4_code
def yX5_approves : MethodName := ⟨RX5, "approves", "(II)Z"⟩
abbrev cX5_countVoters : ByteArray := prog_7_method_5_code
def yX5_countVoters : MethodName := ⟨RX5, "countVoters", "()I"⟩
abbrev cX5_allProjects : ByteArray := prog_7_method_6_code
def yX5_allProjects : MethodName := ⟨RX5, "allProjects", "()I"⟩
abbrev cX5_costOf : ByteArray := prog_7_method_7_code
def yX5_costOf : MethodName := ⟨RX5, "costOf", "(I)I"⟩
abbrev cX5_copy : ByteArray := prog_7_method_8_code
def yX5_copy : MethodName := ⟨RX5, "copy", "(LSharesDesk$Town;)V"⟩
def RX6 : String := "SharesDesk"
def TX6 : u_T := fun k => match k with
  | 0 => ("SharesDesk", "town", "LSharesDesk$Town;", true)
  | 1 => ("SharesDesk", "past", "LSharesDesk$Town;", true)
  | 2 => ("SharesDesk", "ratio", "LSharesDesk$Ratio;", true)
  | 3 => ("SharesDesk", "lack", "LSharesDesk$Natural;", true)
  | 4 => ("SharesDesk", "slip", "LSharesDesk$Slip;", true)
  | 5 => ("SharesDesk", "result", "LSharesDesk$Phase;", false)
  | _ => ("SharesDesk", "trial", "LSharesDesk$Phase;", false)
def tyX6 : Nat → FieldType := fun k => match k with
  | 0 => .object "SharesDesk$Town"
  | 1 => .object "SharesDesk$Town"
  | 2 => .object "SharesDesk$Ratio"
  | 3 => .object "SharesDesk$Natural"
  | 4 => .object "SharesDesk$Slip"
  | 5 => .object "SharesDesk$Phase"
  | _ => .object "SharesDesk$Phase"
abbrev wsX60 : List Cond := u_ws RX6 TX6 7
theorem nmX6 : ∀ a, a < 7 → ∀ b, b < 7 → a ≠ b → (TX6 a).2.1 ≠ (TX6 b).2.1 := by decide +kernel
theorem tyX6_ok : ∀ k, k < 7 → parseFieldDescriptor (TX6 k).2.2.1 = some (tyX6 k) := by decide +kernel
abbrev cX6_init : ByteArray := prog_1_method_1_code
def yX6_init : MethodName := ⟨RX6, "<init>", "()V"⟩
abbrev cX6_project : ByteArray := prog_1_method_2_code
def yX6_project : MethodName := ⟨RX6, "project", "(II)Z"⟩
abbrev cX6_drop : ByteArray := prog_1_method_3_code
def yX6_drop : MethodName := ⟨RX6, "drop", "(I)Z"⟩
abbrev cX6_budget : ByteArray := prog_1_method_4_code
def yX6_budget : MethodName := ⟨RX6, "budget", "(I)Z"⟩
abbrev cX6_voter : ByteArray := prog_1_method_5_code
def yX6_voter : MethodName := ⟨RX6, "voter", "(I)Z"⟩
abbrev cX6_strike : ByteArray := prog_1_method_6_code
def yX6_strike : MethodName := ⟨RX6, "strike", "(I)Z"⟩
abbrev cX6_approve : ByteArray := prog_1_method_7_code
def yX6_approve : MethodName := ⟨RX6, "approve", "(IIZ)Z"⟩
abbrev cX6_run : ByteArray := prog_1_method_8_code
def yX6_run : MethodName := ⟨RX6, "run", "()I"⟩
abbrev cX6_raise : ByteArray := prog_1_method_9_code
def yX6_raise : MethodName := ⟨RX6, "raise", "(II)I"⟩
abbrev cX6_chosen : ByteArray := prog_1_method_10_code
def yX6_chosen : MethodName := ⟨RX6, "chosen", "(I)I"⟩
abbrev cX6_spent : ByteArray := prog_1_method_11_code
def yX6_spent : MethodName := ⟨RX6, "spent", "()I"⟩
abbrev cX6_purse : ByteArray := prog_1_method_12_code
def yX6_purse : MethodName := ⟨RX6, "purse", "(III)I"⟩
abbrev cX6_paid : ByteArray := prog_1_method_13_code
def yX6_paid : MethodName := ⟨RX6, "paid", "(IIII)I"⟩
abbrev cX6_rate : ByteArray := prog_1_method_14_code
def yX6_rate : MethodName := ⟨RX6, "rate", "(III)I"⟩
abbrev cX6_missing : ByteArray := prog_1_method_15_code
def yX6_missing : MethodName := ⟨RX6, "missing", "(III)I"⟩
abbrev cX6_served : ByteArray := prog_1_method_16_code
def yX6_served : MethodName := ⟨RX6, "served", "(I)I"⟩
abbrev cX6_passedOver : ByteArray := prog_1_method_17_code
def yX6_passedOver : MethodName := ⟨RX6, "passedOver", "(I)I"⟩
abbrev cX6_receipt : ByteArray := prog_1_method_18_code
def yX6_receipt : MethodName := ⟨RX6, "receipt", "(II)I"⟩
abbrev cX6_isProjectNumber : ByteArray := prog_1_method_19_code
def yX6_isProjectNumber : MethodName := ⟨RX6, "isProjectNumber", "(I)Z"⟩
abbrev cX6_isVoterNumber : ByteArray := prog_1_method_20_code
def yX6_isVoterNumber : MethodName := ⟨RX6, "isVoterNumber", "(I)Z"⟩
abbrev cX6_keepTown : ByteArray := prog_1_method_21_code
def yX6_keepTown : MethodName := ⟨RX6, "keepTown", "()V"⟩
abbrev cX6_swapPhases : ByteArray := prog_1_method_22_code
def yX6_swapPhases : MethodName := ⟨RX6, "swapPhases", "()V"⟩
abbrev cX6_deservesMore : ByteArray := prog_1_method_23_code
def yX6_deservesMore : MethodName := ⟨RX6, "deservesMore", "(III)Z"⟩
abbrev cX6_nextOfSameSize : ByteArray := prog_1_method_24_code
def yX6_nextOfSameSize : MethodName := ⟨RX6, "nextOfSameSize", "(I)I"⟩
abbrev cX6_writeSlip : ByteArray := prog_1_method_25_code
def yX6_writeSlip : MethodName := ⟨RX6, "writeSlip", "(I)V"⟩
def RX7 : String := "SharesDeskModel"
def TX7 : u_T := fun k => match k with
  | 0 => ("SharesDeskModel", "thrown", "I", false)
  | 1 => ("SharesDeskModel", "m", "[I", true)
  | 2 => ("SharesDeskModel", "costs", "[I", true)
  | 3 => ("SharesDeskModel", "voters", "[Z", true)
  | 4 => ("SharesDeskModel", "wishes", "[I", true)
  | 5 => ("SharesDeskModel", "budget", "I", false)
  | 6 => ("SharesDeskModel", "oldCosts", "[I", true)
  | 7 => ("SharesDeskModel", "oldVoters", "[Z", true)
  | 8 => ("SharesDeskModel", "oldWishes", "[I", true)
  | 9 => ("SharesDeskModel", "oldBudget", "I", false)
  | 10 => ("SharesDeskModel", "count", "I", false)
  | 11 => ("SharesDeskModel", "rounds", "I", false)
  | 12 => ("SharesDeskModel", "order", "[I", true)
  | 13 => ("SharesDeskModel", "isChosen", "[Z", true)
  | 14 => ("SharesDeskModel", "poor", "[Z", true)
  | 15 => ("SharesDeskModel", "payers", "I", false)
  | 16 => ("SharesDeskModel", "text", "[I", true)
  | _ => ("SharesDeskModel", "length", "I", false)
def tyX7 : Nat → FieldType := fun k => match k with
  | 0 => .int
  | 1 => .array .int
  | 2 => .array .int
  | 3 => .array .boolean
  | 4 => .array .int
  | 5 => .int
  | 6 => .array .int
  | 7 => .array .boolean
  | 8 => .array .int
  | 9 => .int
  | 10 => .int
  | 11 => .int
  | 12 => .array .int
  | 13 => .array .boolean
  | 14 => .array .boolean
  | 15 => .int
  | 16 => .array .int
  | _ => .int
abbrev wsX70 : List Cond := u_ws RX7 TX7 18
theorem nmX7 : ∀ a, a < 18 → ∀ b, b < 18 → a ≠ b → (TX7 a).2.1 ≠ (TX7 b).2.1 := by decide +kernel
theorem tyX7_ok : ∀ k, k < 18 → parseFieldDescriptor (TX7 k).2.2.1 = some (tyX7 k) := by decide +kernel
abbrev cX7_init : ByteArray := prog_9_method_1_code
def yX7_init : MethodName := ⟨RX7, "<init>", "()V"⟩
abbrev cX7_thrown : ByteArray := prog_9_method_2_code
def yX7_thrown : MethodName := ⟨RX7, "thrown", "()I"⟩
abbrev cX7_set : ByteArray := prog_9_method_3_code
def yX7_set : MethodName := ⟨RX7, "set", "(IJ)V"⟩
abbrev cX7_copy : ByteArray := prog_9_method_4_code
def yX7_copy : MethodName := ⟨RX7, "copy", "(II)V"⟩
abbrev cX7_compare : ByteArray := prog_9_method_5_code
def yX7_compare : MethodName := ⟨RX7, "compare", "(II)I"⟩
abbrev cX7_isNone : ByteArray := prog_9_method_6_code
def yX7_isNone : MethodName := ⟨RX7, "isNone", "(I)Z"⟩
abbrev cX7_add : ByteArray := prog_9_method_7_code
def yX7_add : MethodName := ⟨RX7, "add", "(III)V"⟩
abbrev cX7_lessen : ByteArray := prog_9_method_8_code
def yX7_lessen : MethodName := ⟨RX7, "lessen", "(III)V"⟩
abbrev cX7_times : ByteArray := prog_9_method_9_code
def yX7_times : MethodName := ⟨RX7, "times", "(III)V"⟩
abbrev cX7_tenth : ByteArray := prog_9_method_10_code
def yX7_tenth : MethodName := ⟨RX7, "tenth", "(I)I"⟩
abbrev cX7_twice : ByteArray := prog_9_method_11_code
def yX7_twice : MethodName := ⟨RX7, "twice", "(II)V"⟩
abbrev cX7_bitOf : ByteArray := prog_9_method_12_code
def yX7_bitOf : MethodName := ⟨RX7, "bitOf", "(II)I"⟩
abbrev cX7_bits : ByteArray := prog_9_method_13_code
def yX7_bits : MethodName := ⟨RX7, "bits", "(I)I"⟩
abbrev cX7_quotient : ByteArray := prog_9_method_14_code
def yX7_quotient : MethodName := ⟨RX7, "quotient", "(II)V"⟩
abbrev cX7_reduce : ByteArray := prog_9_method_15_code
def yX7_reduce : MethodName := ⟨RX7, "reduce", "(II)V"⟩
abbrev cX7_within : ByteArray := prog_9_method_16_code
def yX7_within : MethodName := ⟨RX7, "within", "(III)Z"⟩
abbrev cX7_project : ByteArray := prog_9_method_17_code
def yX7_project : MethodName := ⟨RX7, "project", "(II)Z"⟩
abbrev cX7_drop : ByteArray := prog_9_method_18_code
def yX7_drop : MethodName := ⟨RX7, "drop", "(I)Z"⟩
abbrev cX7_budget : ByteArray := prog_9_method_19_code
def yX7_budget : MethodName := ⟨RX7, "budget", "(I)Z"⟩
abbrev cX7_voter : ByteArray := prog_9_method_20_code
def yX7_voter : MethodName := ⟨RX7, "voter", "(I)Z"⟩
abbrev cX7_strike : ByteArray := prog_9_method_21_code
def yX7_strike : MethodName := ⟨RX7, "strike", "(I)Z"⟩
abbrev cX7_approve : ByteArray := prog_9_method_22_code
def yX7_approve : MethodName := ⟨RX7, "approve", "(IIZ)Z"⟩
abbrev cX7_supports : ByteArray := prog_9_method_23_code
def yX7_supports : MethodName := ⟨RX7, "supports", "(II)Z"⟩
abbrev cX7_gather : ByteArray := prog_9_method_24_code
def yX7_gather : MethodName := ⟨RX7, "gather", "(I)V"⟩
abbrev cX7_isAfforded : ByteArray := prog_9_method_25_code
def yX7_isAfforded : MethodName := ⟨RX7, "isAfforded", "(I)Z"⟩
abbrev cX7_share : ByteArray := prog_9_method_26_code
def yX7_share : MethodName := ⟨RX7, "share", "(I)V"⟩
abbrev cX7_next : ByteArray := prog_9_method_27_code
def yX7_next : MethodName := ⟨RX7, "next", "()I"⟩
abbrev cX7_pay : ByteArray := prog_9_method_28_code
def yX7_pay : MethodName := ⟨RX7, "pay", "(I)V"⟩
abbrev cX7_phase : ByteArray := prog_9_method_29_code
def yX7_phase : MethodName := ⟨RX7, "phase", "(I)I"⟩
abbrev cX7_cost : ByteArray := prog_9_method_30_code
def yX7_cost : MethodName := ⟨RX7, "cost", "()I"⟩
abbrev cX7_run : ByteArray := prog_9_method_31_code
def yX7_run : MethodName := ⟨RX7, "run", "()I"⟩
abbrev cX7_raise : ByteArray := prog_9_method_32_code
def yX7_raise : MethodName := ⟨RX7, "raise", "(II)I"⟩
abbrev cX7_chosen : ByteArray := prog_9_method_33_code
def yX7_chosen : MethodName := ⟨RX7, "chosen", "(I)I"⟩
abbrev cX7_spent : ByteArray := prog_9_method_34_code
def yX7_spent : MethodName := ⟨RX7, "spent", "()I"⟩
abbrev cX7_isVoter : ByteArray := prog_9_method_35_code
def yX7_isVoter : MethodName := ⟨RX7, "isVoter", "(I)Z"⟩
abbrev cX7_word : ByteArray := prog_9_method_36_code
def yX7_word : MethodName := ⟨RX7, "word", "(IIII)I"⟩
abbrev cX7_isPart : ByteArray := prog_9_method_37_code
def yX7_isPart : MethodName := ⟨RX7, "isPart", "(II)Z"⟩
abbrev cX7_purse : ByteArray := prog_9_method_38_code
def yX7_purse : MethodName := ⟨RX7, "purse", "(III)I"⟩
abbrev cX7_roundOf : ByteArray := prog_9_method_39_code
def yX7_roundOf : MethodName := ⟨RX7, "roundOf", "(I)I"⟩
abbrev cX7_paid : ByteArray := prog_9_method_40_code
def yX7_paid : MethodName := ⟨RX7, "paid", "(IIII)I"⟩
abbrev cX7_rate : ByteArray := prog_9_method_41_code
def yX7_rate : MethodName := ⟨RX7, "rate", "(III)I"⟩
abbrev cX7_missing : ByteArray := prog_9_method_42_code
def yX7_missing : MethodName := ⟨RX7, "missing", "(III)I"⟩
abbrev cX7_servedOf : ByteArray := prog_9_method_43_code
def yX7_servedOf : MethodName := ⟨RX7, "servedOf", "(I)I"⟩
abbrev cX7_served : ByteArray := prog_9_method_44_code
def yX7_served : MethodName := ⟨RX7, "served", "(I)I"⟩
abbrev cX7_size : ByteArray := prog_9_method_45_code
def yX7_size : MethodName := ⟨RX7, "size", "(I)I"⟩
abbrev cX7_passedOver : ByteArray := prog_9_method_46_code
def yX7_passedOver : MethodName := ⟨RX7, "passedOver", "(I)I"⟩
abbrev cX7_say : ByteArray := prog_9_method_47_code
def yX7_say : MethodName := ⟨RX7, "say", "(I)V"⟩
abbrev cX7_sayNumber : ByteArray := prog_9_method_48_code
def yX7_sayNumber : MethodName := ⟨RX7, "sayNumber", "(I)V"⟩
abbrev cX7_sayFraction : ByteArray := prog_9_method_49_code
def yX7_sayFraction : MethodName := ⟨RX7, "sayFraction", "(II)V"⟩
abbrev cX7_receipt : ByteArray := prog_9_method_50_code
def yX7_receipt : MethodName := ⟨RX7, "receipt", "(II)I"⟩
def RJ6 : String := "java/lang/Integer"
def TJ6 : u_T := fun k => match k with
  | _ => ("", "", "", false)
def tyJ6 : Nat → FieldType := fun k => match k with
  | _ => .int
abbrev wsJ60 : List Cond := u_ws RJ6 TJ6 0
theorem nmJ6 : ∀ a, a < 0 → ∀ b, b < 0 → a ≠ b → (TJ6 a).2.1 ≠ (TJ6 b).2.1 := by decide +kernel
theorem tyJ6_ok : ∀ k, k < 0 → parseFieldDescriptor (TJ6 k).2.2.1 = some (tyJ6 k) := by decide +kernel
abbrev cJ6_numberOfTrailingZeros_0f7a4 : ByteArray := prog_12_method_48_code
def yJ6_numberOfTrailingZeros_0f7a4 : MethodName := ⟨RJ6, "numberOfTrailingZeros", "(I)I"⟩
abbrev cJ6_bitCount_0f7a4 : ByteArray := prog_12_method_49_code
def yJ6_bitCount_0f7a4 : MethodName := ⟨RJ6, "bitCount", "(I)I"⟩
def RJ13 : String := "java/lang/Long"
def TJ13 : u_T := fun k => match k with
  | _ => ("", "", "", false)
def tyJ13 : Nat → FieldType := fun k => match k with
  | _ => .int
abbrev wsJ130 : List Cond := u_ws RJ13 TJ13 0
theorem nmJ13 : ∀ a, a < 0 → ∀ b, b < 0 → a ≠ b → (TJ13 a).2.1 ≠ (TJ13 b).2.1 := by decide +kernel
theorem tyJ13_ok : ∀ k, k < 0 → parseFieldDescriptor (TJ13 k).2.2.1 = some (tyJ13 k) := by decide +kernel
abbrev cJ13_bitCount_95d88 : ByteArray := prog_13_method_50_code
def yJ13_bitCount_95d88 : MethodName := ⟨RJ13, "bitCount", "(J)I"⟩
def RJ9 : String := "java/lang/Math"
def TJ9 : u_T := fun k => match k with
  | _ => ("", "", "", false)
def tyJ9 : Nat → FieldType := fun k => match k with
  | _ => .int
abbrev wsJ90 : List Cond := u_ws RJ9 TJ9 0
theorem nmJ9 : ∀ a, a < 0 → ∀ b, b < 0 → a ≠ b → (TJ9 a).2.1 ≠ (TJ9 b).2.1 := by decide +kernel
theorem tyJ9_ok : ∀ k, k < 0 → parseFieldDescriptor (TJ9 k).2.2.1 = some (tyJ9 k) := by decide +kernel
abbrev cJ9_max_7cf53 : ByteArray := prog_14_method_65_code
def yJ9_max_7cf53 : MethodName := ⟨RJ9, "max", "(II)I"⟩
def RJ0 : String := "java/lang/String"
def TJ0 : u_T := fun k => match k with
  | _ => ("", "", "", false)
def tyJ0 : Nat → FieldType := fun k => match k with
  | _ => .int
abbrev wsJ00 : List Cond := u_ws RJ0 TJ0 0
theorem nmJ0 : ∀ a, a < 0 → ∀ b, b < 0 → a ≠ b → (TJ0 a).2.1 ≠ (TJ0 b).2.1 := by decide +kernel
theorem tyJ0_ok : ∀ k, k < 0 → parseFieldDescriptor (TJ0 k).2.2.1 = some (tyJ0 k) := by decide +kernel
def RJ10 : String := "java/lang/System"
def TJ10 : u_T := fun k => match k with
  | _ => ("", "", "", false)
def tyJ10 : Nat → FieldType := fun k => match k with
  | _ => .int
abbrev wsJ100 : List Cond := u_ws RJ10 TJ10 0
theorem nmJ10 : ∀ a, a < 0 → ∀ b, b < 0 → a ≠ b → (TJ10 a).2.1 ≠ (TJ10 b).2.1 := by decide +kernel
theorem tyJ10_ok : ∀ k, k < 0 → parseFieldDescriptor (TJ10 k).2.2.1 = some (tyJ10 k) := by decide +kernel
def RJ7 : String := "java/util/Arrays"
def TJ7 : u_T := fun k => match k with
  | _ => ("", "", "", false)
def tyJ7 : Nat → FieldType := fun k => match k with
  | _ => .int
abbrev wsJ70 : List Cond := u_ws RJ7 TJ7 0
theorem nmJ7 : ∀ a, a < 0 → ∀ b, b < 0 → a ≠ b → (TJ7 a).2.1 ≠ (TJ7 b).2.1 := by decide +kernel
theorem tyJ7_ok : ∀ k, k < 0 → parseFieldDescriptor (TJ7 k).2.2.1 = some (tyJ7 k) := by decide +kernel
abbrev cJ7_fill_53178 : ByteArray := prog_19_method_103_code
def yJ7_fill_53178 : MethodName := ⟨RJ7, "fill", "([II)V"⟩
def RL : String := "SharesDeskLaw"
abbrev cL_raise : ByteArray := method_3_code
def yL_raise : MethodName := ⟨RL, "raise", "(LSharesDesk;II[J)I"⟩
abbrev cL_passedOver : ByteArray := method_4_code
def yL_passedOver : MethodName := ⟨RL, "passedOver", "(LSharesDesk;I[J)I"⟩
abbrev cL_law : ByteArray := code
def yL_law : MethodName := ⟨RL, "law", "([I)Z"⟩
def wsX0_init : List Cond := .code yX0_init cX0_init 1 none :: ([.methodLink RX0 3 objectInit, .instanceMethod objectInit, .code objectInit ⟨#[0xb1]⟩ 1 none, .arrayClass .int, .fieldLink RX0 9 "SharesDesk$Natural" "words" "[I"] ++ wsX00)
def wsJ7_fill_53178 : List Cond := .code yJ7_fill_53178 cJ7_fill_53178 4 none :: ([])
def wsX0_set : List Cond := .code yX0_set cX0_set 2 none :: ([.fieldLink RX0 9 "SharesDesk$Natural" "words" "[I", .methodLink RX0 13 yJ7_fill_53178, .static yJ7_fill_53178, .initialized RJ7, .code yJ7_fill_53178 cJ7_fill_53178 4 none] ++ wsX00)
def wsX0_copy : List Cond := .code yX0_copy cX0_copy 2 none :: ([.fieldLink RX0 9 "SharesDesk$Natural" "words" "[I", .methodLink RX0 19 arraycopyName, .native arraycopyName, .static arraycopyName, .initialized "java/lang/System"] ++ wsX00)
def wsX0_wordAt : List Cond := .code yX0_wordAt cX0_wordAt 2 (some .int) :: ([.fieldLink RX0 9 "SharesDesk$Natural" "words" "[I"] ++ wsX00)
def wsX0_isZero : List Cond := .code yX0_isZero cX0_isZero 1 (some .boolean) :: ([.fieldLink RX0 9 "SharesDesk$Natural" "words" "[I"] ++ wsX00)
def wsX0_isOne : List Cond := .code yX0_isOne cX0_isOne 1 (some .boolean) :: ([.fieldLink RX0 9 "SharesDesk$Natural" "words" "[I"] ++ wsX00)
def wsX0_against : List Cond := .code yX0_against cX0_against 3 (some .int) :: ([.fieldLink RX0 9 "SharesDesk$Natural" "words" "[I", .constantLong RX0 25 (4294967295)] ++ wsX00)
def wsX0_minus : List Cond := .code yX0_minus cX0_minus 7 none :: ([.fieldLink RX0 9 "SharesDesk$Natural" "words" "[I", .constantLong RX0 25 (4294967295)] ++ wsX00)
def wsX0_times : List Cond := .code yX0_times cX0_times 7 none :: ([.fieldLink RX0 9 "SharesDesk$Natural" "words" "[I", .constantLong RX0 25 (4294967295)] ++ wsX00)
def wsX0_divide : List Cond := .code yX0_divide cX0_divide 7 (some .int) :: ([.fieldLink RX0 9 "SharesDesk$Natural" "words" "[I", .constantLong RX0 25 (4294967295)] ++ wsX00)
def wsX0_modulo : List Cond := .code yX0_modulo cX0_modulo 5 (some .int) :: ([.fieldLink RX0 9 "SharesDesk$Natural" "words" "[I", .constantLong RX0 25 (4294967295)] ++ wsX00)
def wsX3_init : List Cond := .code yX3_init cX3_init 1 none :: ([.methodLink RX3 1 objectInit, .instanceMethod objectInit, .code objectInit ⟨#[0xb1]⟩ 1 none, .classLink RX3 7 RX0, .instantiable RX0 1, .initialized RX0, .fieldLink RX3 10 "SharesDesk$Share" "rest" "LSharesDesk$Natural;", .fieldLink RX3 16 "SharesDesk$Share" "left" "LSharesDesk$Natural;", .fieldLink RX3 19 "SharesDesk$Share" "right" "LSharesDesk$Natural;", .instanceMethod yX0_init, .code yX0_init cX0_init 1 none, .methodLink RX0 3 objectInit, .arrayClass .int, .fieldLink RX0 9 "SharesDesk$Natural" "words" "[I"] ++ wsX00 ++ wsX30)
def wsX1_init_r1 : List Cond := [Cond.methodLink RX1 3 objectInit, Cond.instanceMethod objectInit, Cond.code objectInit ⟨#[0xb1]⟩ 1 none, Cond.classLink RX1 9 RX0, Cond.instantiable RX0 1, Cond.initialized RX0, Cond.fieldLink RX1 12 "SharesDesk$Phase" "base" "LSharesDesk$Natural;", Cond.fieldLink RX1 18 "SharesDesk$Phase" "purses" "[LSharesDesk$Natural;", Cond.fieldLink RX1 22 "SharesDesk$Phase" "lastPays" "[LSharesDesk$Natural;", Cond.arrayClass .int, Cond.fieldLink RX1 25 "SharesDesk$Phase" "emptiedIn" "[I", Cond.fieldLink RX1 29 "SharesDesk$Phase" "payers" "[I", Cond.fieldLink RX1 32 "SharesDesk$Phase" "picks" "[I", Cond.fieldLink RX1 35 "SharesDesk$Phase" "rates" "[LSharesDesk$Natural;", Cond.fieldLink RX1 38 "SharesDesk$Phase" "bases" "[LSharesDesk$Natural;", Cond.classLink RX1 41 RX3, Cond.instantiable RX3 4, Cond.initialized RX3, Cond.fieldLink RX1 44 "SharesDesk$Phase" "best" "LSharesDesk$Share;", Cond.fieldLink RX1 48 "SharesDesk$Phase" "tried" "LSharesDesk$Share;", Cond.fieldLink RX1 51 "SharesDesk$Phase" "town" "LSharesDesk$Town;", Cond.instanceMethod yX0_init, Cond.code yX0_init cX0_init 1 none, Cond.methodLink RX0 3 objectInit]
def wsX1_init_r2 : List Cond := [Cond.fieldLink RX0 9 "SharesDesk$Natural" "words" "[I", Cond.instanceMethod yX3_init, Cond.code yX3_init cX3_init 1 none, Cond.methodLink RX3 1 objectInit, Cond.classLink RX3 7 RX0, Cond.fieldLink RX3 10 "SharesDesk$Share" "rest" "LSharesDesk$Natural;", Cond.fieldLink RX3 16 "SharesDesk$Share" "left" "LSharesDesk$Natural;", Cond.fieldLink RX3 19 "SharesDesk$Share" "right" "LSharesDesk$Natural;"]
def wsX1_init : List Cond := .code yX1_init cX1_init 3 none :: ((wsX1_init_r1 ++ wsX1_init_r2) ++ wsX00 ++ wsX10 ++ wsX30)
def wsJ13_bitCount_95d88 : List Cond := .code yJ13_bitCount_95d88 cJ13_bitCount_95d88 2 (some .int) :: ([.constantLong RJ13 314 (6148914691236517205), .constantLong RJ13 316 (3689348814741910323), .constantLong RJ13 318 (1085102592571150095)])
def wsX5_countVoters : List Cond := .code yX5_countVoters cX5_countVoters 1 (some .int) :: ([.fieldLink RX5 29 "SharesDesk$Town" "voters" "J", .methodLink RX5 33 yJ13_bitCount_95d88, .static yJ13_bitCount_95d88, .initialized RJ13, .code yJ13_bitCount_95d88 cJ13_bitCount_95d88 2 (some .int), .constantLong RJ13 314 (6148914691236517205), .constantLong RJ13 316 (3689348814741910323), .constantLong RJ13 318 (1085102592571150095)] ++ wsX50)
def wsX6_isVoterNumber : List Cond := .code yX6_isVoterNumber cX6_isVoterNumber 1 (some .boolean) :: ([])
def wsX5_hasVoter : List Cond := .code yX5_hasVoter cX5_hasVoter 2 (some .boolean) :: ([.fieldLink RX5 29 "SharesDesk$Town" "voters" "J", .static yX6_isVoterNumber, .initialized RX6, .code yX6_isVoterNumber cX6_isVoterNumber 1 (some .boolean)] ++ wsX50)
def wsX1_fillPurses_r1 : List Cond := [Cond.fieldLink RX1 51 "SharesDesk$Phase" "town" "LSharesDesk$Town;", Cond.fieldLink RX1 12 "SharesDesk$Phase" "base" "LSharesDesk$Natural;", Cond.methodLink RX1 127 Lib.Math.max.name, Cond.static Lib.Math.max.name, Cond.initialized "java/lang/Math", Cond.code Lib.Math.max.name Lib.Math.max.code 2 (some .int), Cond.fieldLink RX1 118 "SharesDesk$Phase" "payerCount" "I", Cond.fieldLink RX1 25 "SharesDesk$Phase" "emptiedIn" "[I", Cond.fieldLink RX1 18 "SharesDesk$Phase" "purses" "[LSharesDesk$Natural;", Cond.fieldLink RX1 92 "SharesDesk$Town" "budget" "I", Cond.fieldLink RX1 29 "SharesDesk$Phase" "payers" "[I", Cond.methodLink RX1 124 yX5_countVoters, Cond.instanceMethod yX5_countVoters, Cond.selects RX5 yX5_countVoters yX5_countVoters, Cond.initialized RX5, Cond.code yX5_countVoters cX5_countVoters 1 (some .int), Cond.fieldLink RX5 29 "SharesDesk$Town" "voters" "J", Cond.methodLink RX5 33 yJ13_bitCount_95d88, Cond.static yJ13_bitCount_95d88, Cond.initialized RJ13, Cond.code yJ13_bitCount_95d88 cJ13_bitCount_95d88 2 (some .int), Cond.constantLong RJ13 314 (6148914691236517205), Cond.constantLong RJ13 316 (3689348814741910323), Cond.constantLong RJ13 318 (1085102592571150095)]
def wsX1_fillPurses_r2 : List Cond := [Cond.methodLink RX1 133 yX0_set, Cond.instanceMethod yX0_set, Cond.selects RX0 yX0_set yX0_set, Cond.initialized RX0, Cond.code yX0_set cX0_set 2 none, Cond.fieldLink RX0 9 "SharesDesk$Natural" "words" "[I", Cond.methodLink RX0 13 yJ7_fill_53178, Cond.static yJ7_fill_53178, Cond.initialized RJ7, Cond.code yJ7_fill_53178 cJ7_fill_53178 4 none, Cond.methodLink RX1 136 yX5_hasVoter, Cond.instanceMethod yX5_hasVoter, Cond.selects RX5 yX5_hasVoter yX5_hasVoter, Cond.code yX5_hasVoter cX5_hasVoter 2 (some .boolean), Cond.static yX6_isVoterNumber, Cond.initialized RX6, Cond.code yX6_isVoterNumber cX6_isVoterNumber 1 (some .boolean)]
def wsX1_fillPurses : List Cond := .code yX1_fillPurses cX1_fillPurses 4 none :: ((wsX1_fillPurses_r1 ++ wsX1_fillPurses_r2) ++ wsX10 ++ wsX50 ++ wsX00)
def wsX5_allProjects : List Cond := .code yX5_allProjects cX5_allProjects 3 (some .int) :: ([.fieldLink RX5 9 "SharesDesk$Town" "costs" "[I"] ++ wsX50)
def wsX1_overspends : List Cond := .code yX1_overspends cX1_overspends 1 (some .boolean) :: ([.fieldLink RX1 66 "SharesDesk$Phase" "cost" "I", .fieldLink RX1 51 "SharesDesk$Phase" "town" "LSharesDesk$Town;", .fieldLink RX1 92 "SharesDesk$Town" "budget" "I"] ++ wsX10 ++ wsX50)
def wsX5_approves : List Cond := .code yX5_approves cX5_approves 3 (some .boolean) :: ([.fieldLink RX5 15 "SharesDesk$Town" "approvals" "[I"] ++ wsX50)
def wsX1_countPayers : List Cond := .code yX1_countPayers cX1_countPayers 4 (some .int) :: ([.fieldLink RX1 118 "SharesDesk$Phase" "payerCount" "I", .fieldLink RX1 51 "SharesDesk$Phase" "town" "LSharesDesk$Town;", .fieldLink RX1 29 "SharesDesk$Phase" "payers" "[I", .methodLink RX1 95 yX5_approves, .instanceMethod yX5_approves, .selects RX5 yX5_approves yX5_approves, .initialized RX5, .code yX5_approves cX5_approves 3 (some .boolean), .fieldLink RX5 15 "SharesDesk$Town" "approvals" "[I"] ++ wsX10 ++ wsX50)
def wsX3_isWithin : List Cond := .code yX3_isWithin cX3_isWithin 2 (some .boolean) :: ([.fieldLink RX3 16 "SharesDesk$Share" "left" "LSharesDesk$Natural;", .fieldLink RX3 26 "SharesDesk$Share" "payers" "I", .fieldLink RX3 10 "SharesDesk$Share" "rest" "LSharesDesk$Natural;", .methodLink RX3 22 yX0_copy, .instanceMethod yX0_copy, .selects RX0 yX0_copy yX0_copy, .initialized RX0, .code yX0_copy cX0_copy 2 none, .fieldLink RX0 9 "SharesDesk$Natural" "words" "[I", .methodLink RX0 19 arraycopyName, .native arraycopyName, .static arraycopyName, .initialized "java/lang/System", .methodLink RX3 30 yX0_times, .instanceMethod yX0_times, .selects RX0 yX0_times yX0_times, .code yX0_times cX0_times 7 none, .constantLong RX0 25 (4294967295), .methodLink RX3 34 yX0_against, .instanceMethod yX0_against, .selects RX0 yX0_against yX0_against, .code yX0_against cX0_against 3 (some .int)] ++ wsX30 ++ wsX00)
def wsX1_findShare_r1 : List Cond := [Cond.fieldLink RX1 48 "SharesDesk$Phase" "tried" "LSharesDesk$Share;", Cond.fieldLink RX1 153 "SharesDesk$Share" "rest" "LSharesDesk$Natural;", Cond.fieldLink RX1 12 "SharesDesk$Phase" "base" "LSharesDesk$Natural;", Cond.fieldLink RX1 51 "SharesDesk$Phase" "town" "LSharesDesk$Town;", Cond.fieldLink RX1 112 "SharesDesk$Town" "costs" "[I", Cond.fieldLink RX1 159 "SharesDesk$Share" "payers" "I", Cond.fieldLink RX1 118 "SharesDesk$Phase" "payerCount" "I", Cond.fieldLink RX1 29 "SharesDesk$Phase" "payers" "[I", Cond.fieldLink RX1 18 "SharesDesk$Phase" "purses" "[LSharesDesk$Natural;", Cond.methodLink RX1 108 yX0_copy, Cond.instanceMethod yX0_copy, Cond.selects RX0 yX0_copy yX0_copy, Cond.initialized RX0, Cond.code yX0_copy cX0_copy 2 none, Cond.fieldLink RX0 9 "SharesDesk$Natural" "words" "[I", Cond.methodLink RX0 19 arraycopyName, Cond.native arraycopyName, Cond.static arraycopyName, Cond.initialized "java/lang/System", Cond.methodLink RX1 115 yX0_times, Cond.instanceMethod yX0_times, Cond.selects RX0 yX0_times yX0_times, Cond.code yX0_times cX0_times 7 none, Cond.constantLong RX0 25 (4294967295)]
def wsX1_findShare_r2 : List Cond := [Cond.methodLink RX1 156 yX1_countPayers, Cond.instanceMethod yX1_countPayers, Cond.selects RX1 yX1_countPayers yX1_countPayers, Cond.initialized RX1, Cond.code yX1_countPayers cX1_countPayers 4 (some .int), Cond.methodLink RX1 95 yX5_approves, Cond.instanceMethod yX5_approves, Cond.selects RX5 yX5_approves yX5_approves, Cond.initialized RX5, Cond.code yX5_approves cX5_approves 3 (some .boolean), Cond.fieldLink RX5 15 "SharesDesk$Town" "approvals" "[I", Cond.methodLink RX1 161 yX3_isWithin, Cond.instanceMethod yX3_isWithin, Cond.selects RX3 yX3_isWithin yX3_isWithin, Cond.initialized RX3, Cond.code yX3_isWithin cX3_isWithin 2 (some .boolean), Cond.fieldLink RX3 16 "SharesDesk$Share" "left" "LSharesDesk$Natural;", Cond.fieldLink RX3 26 "SharesDesk$Share" "payers" "I", Cond.fieldLink RX3 10 "SharesDesk$Share" "rest" "LSharesDesk$Natural;", Cond.methodLink RX3 22 yX0_copy, Cond.methodLink RX3 30 yX0_times, Cond.methodLink RX3 34 yX0_against, Cond.instanceMethod yX0_against, Cond.selects RX0 yX0_against yX0_against]
def wsX1_findShare_r3 : List Cond := [Cond.code yX0_against cX0_against 3 (some .int), Cond.methodLink RX1 121 yX0_minus, Cond.instanceMethod yX0_minus, Cond.selects RX0 yX0_minus yX0_minus, Cond.code yX0_minus cX0_minus 7 none]
def wsX1_findShare : List Cond := .code yX1_findShare cX1_findShare 4 (some .boolean) :: ((wsX1_findShare_r1 ++ (wsX1_findShare_r2 ++ wsX1_findShare_r3)) ++ wsX10 ++ wsX30 ++ wsX50 ++ wsX00)
def wsX3_against : List Cond := .code yX3_against cX3_against 2 (some .int) :: ([.fieldLink RX3 16 "SharesDesk$Share" "left" "LSharesDesk$Natural;", .fieldLink RX3 10 "SharesDesk$Share" "rest" "LSharesDesk$Natural;", .fieldLink RX3 26 "SharesDesk$Share" "payers" "I", .fieldLink RX3 19 "SharesDesk$Share" "right" "LSharesDesk$Natural;", .methodLink RX3 22 yX0_copy, .instanceMethod yX0_copy, .selects RX0 yX0_copy yX0_copy, .initialized RX0, .code yX0_copy cX0_copy 2 none, .fieldLink RX0 9 "SharesDesk$Natural" "words" "[I", .methodLink RX0 19 arraycopyName, .native arraycopyName, .static arraycopyName, .initialized "java/lang/System", .methodLink RX3 30 yX0_times, .instanceMethod yX0_times, .selects RX0 yX0_times yX0_times, .code yX0_times cX0_times 7 none, .constantLong RX0 25 (4294967295), .methodLink RX3 34 yX0_against, .instanceMethod yX0_against, .selects RX0 yX0_against yX0_against, .code yX0_against cX0_against 3 (some .int)] ++ wsX30 ++ wsX00)
def wsX1_isBetter_r1 : List Cond := [Cond.fieldLink RX1 48 "SharesDesk$Phase" "tried" "LSharesDesk$Share;", Cond.fieldLink RX1 44 "SharesDesk$Phase" "best" "LSharesDesk$Share;", Cond.fieldLink RX1 51 "SharesDesk$Phase" "town" "LSharesDesk$Town;", Cond.fieldLink RX1 112 "SharesDesk$Town" "costs" "[I", Cond.methodLink RX1 149 yX3_against, Cond.instanceMethod yX3_against, Cond.selects RX3 yX3_against yX3_against, Cond.initialized RX3, Cond.code yX3_against cX3_against 2 (some .int), Cond.fieldLink RX3 16 "SharesDesk$Share" "left" "LSharesDesk$Natural;", Cond.fieldLink RX3 10 "SharesDesk$Share" "rest" "LSharesDesk$Natural;", Cond.fieldLink RX3 26 "SharesDesk$Share" "payers" "I", Cond.fieldLink RX3 19 "SharesDesk$Share" "right" "LSharesDesk$Natural;", Cond.methodLink RX3 22 yX0_copy, Cond.instanceMethod yX0_copy, Cond.selects RX0 yX0_copy yX0_copy, Cond.initialized RX0, Cond.code yX0_copy cX0_copy 2 none, Cond.fieldLink RX0 9 "SharesDesk$Natural" "words" "[I", Cond.methodLink RX0 19 arraycopyName, Cond.native arraycopyName, Cond.static arraycopyName, Cond.initialized "java/lang/System", Cond.methodLink RX3 30 yX0_times]
def wsX1_isBetter_r2 : List Cond := [Cond.instanceMethod yX0_times, Cond.selects RX0 yX0_times yX0_times, Cond.code yX0_times cX0_times 7 none, Cond.constantLong RX0 25 (4294967295), Cond.methodLink RX3 34 yX0_against, Cond.instanceMethod yX0_against, Cond.selects RX0 yX0_against yX0_against, Cond.code yX0_against cX0_against 3 (some .int)]
def wsX1_isBetter : List Cond := .code yX1_isBetter cX1_isBetter 4 (some .boolean) :: ((wsX1_isBetter_r1 ++ wsX1_isBetter_r2) ++ wsX10 ++ wsX50 ++ wsX30 ++ wsX00)
def wsX1_swapShares : List Cond := .code yX1_swapShares cX1_swapShares 2 none :: ([.fieldLink RX1 44 "SharesDesk$Phase" "best" "LSharesDesk$Share;", .fieldLink RX1 48 "SharesDesk$Phase" "tried" "LSharesDesk$Share;"] ++ wsX10)
def wsX1_findCheapest_r1 : List Cond := [Cond.fieldLink RX1 75 "SharesDesk$Phase" "open" "I", Cond.methodLink RX1 140 yX1_findShare, Cond.instanceMethod yX1_findShare, Cond.selects RX1 yX1_findShare yX1_findShare, Cond.initialized RX1, Cond.code yX1_findShare cX1_findShare 4 (some .boolean), Cond.fieldLink RX1 48 "SharesDesk$Phase" "tried" "LSharesDesk$Share;", Cond.fieldLink RX1 153 "SharesDesk$Share" "rest" "LSharesDesk$Natural;", Cond.fieldLink RX1 12 "SharesDesk$Phase" "base" "LSharesDesk$Natural;", Cond.fieldLink RX1 51 "SharesDesk$Phase" "town" "LSharesDesk$Town;", Cond.fieldLink RX1 112 "SharesDesk$Town" "costs" "[I", Cond.fieldLink RX1 159 "SharesDesk$Share" "payers" "I", Cond.fieldLink RX1 118 "SharesDesk$Phase" "payerCount" "I", Cond.fieldLink RX1 29 "SharesDesk$Phase" "payers" "[I", Cond.fieldLink RX1 18 "SharesDesk$Phase" "purses" "[LSharesDesk$Natural;", Cond.methodLink RX1 108 yX0_copy, Cond.instanceMethod yX0_copy, Cond.selects RX0 yX0_copy yX0_copy, Cond.initialized RX0, Cond.code yX0_copy cX0_copy 2 none, Cond.fieldLink RX0 9 "SharesDesk$Natural" "words" "[I", Cond.methodLink RX0 19 arraycopyName, Cond.native arraycopyName, Cond.static arraycopyName]
def wsX1_findCheapest_r2 : List Cond := [Cond.initialized "java/lang/System", Cond.methodLink RX1 115 yX0_times, Cond.instanceMethod yX0_times, Cond.selects RX0 yX0_times yX0_times, Cond.code yX0_times cX0_times 7 none, Cond.constantLong RX0 25 (4294967295), Cond.methodLink RX1 156 yX1_countPayers, Cond.instanceMethod yX1_countPayers, Cond.selects RX1 yX1_countPayers yX1_countPayers, Cond.code yX1_countPayers cX1_countPayers 4 (some .int), Cond.methodLink RX1 95 yX5_approves, Cond.instanceMethod yX5_approves, Cond.selects RX5 yX5_approves yX5_approves, Cond.initialized RX5, Cond.code yX5_approves cX5_approves 3 (some .boolean), Cond.fieldLink RX5 15 "SharesDesk$Town" "approvals" "[I", Cond.methodLink RX1 161 yX3_isWithin, Cond.instanceMethod yX3_isWithin, Cond.selects RX3 yX3_isWithin yX3_isWithin, Cond.initialized RX3, Cond.code yX3_isWithin cX3_isWithin 2 (some .boolean), Cond.fieldLink RX3 16 "SharesDesk$Share" "left" "LSharesDesk$Natural;", Cond.fieldLink RX3 26 "SharesDesk$Share" "payers" "I", Cond.fieldLink RX3 10 "SharesDesk$Share" "rest" "LSharesDesk$Natural;"]
def wsX1_findCheapest_r3 : List Cond := [Cond.methodLink RX3 22 yX0_copy, Cond.methodLink RX3 30 yX0_times, Cond.methodLink RX3 34 yX0_against, Cond.instanceMethod yX0_against, Cond.selects RX0 yX0_against yX0_against, Cond.code yX0_against cX0_against 3 (some .int), Cond.methodLink RX1 121 yX0_minus, Cond.instanceMethod yX0_minus, Cond.selects RX0 yX0_minus yX0_minus, Cond.code yX0_minus cX0_minus 7 none, Cond.methodLink RX1 143 yX1_isBetter, Cond.instanceMethod yX1_isBetter, Cond.selects RX1 yX1_isBetter yX1_isBetter, Cond.code yX1_isBetter cX1_isBetter 4 (some .boolean), Cond.fieldLink RX1 44 "SharesDesk$Phase" "best" "LSharesDesk$Share;", Cond.methodLink RX1 149 yX3_against, Cond.instanceMethod yX3_against, Cond.selects RX3 yX3_against yX3_against, Cond.code yX3_against cX3_against 2 (some .int), Cond.fieldLink RX3 19 "SharesDesk$Share" "right" "LSharesDesk$Natural;", Cond.methodLink RX1 146 yX1_swapShares, Cond.instanceMethod yX1_swapShares, Cond.selects RX1 yX1_swapShares yX1_swapShares, Cond.code yX1_swapShares cX1_swapShares 2 none]
def wsX1_findCheapest : List Cond := .code yX1_findCheapest cX1_findCheapest 3 (some .int) :: ((wsX1_findCheapest_r1 ++ (wsX1_findCheapest_r2 ++ wsX1_findCheapest_r3)) ++ wsX10 ++ wsX30 ++ wsX50 ++ wsX00)
def wsX1_charge_r1 : List Cond := [Cond.fieldLink RX1 18 "SharesDesk$Phase" "purses" "[LSharesDesk$Natural;", Cond.fieldLink RX1 35 "SharesDesk$Phase" "rates" "[LSharesDesk$Natural;", Cond.fieldLink RX1 22 "SharesDesk$Phase" "lastPays" "[LSharesDesk$Natural;", Cond.fieldLink RX1 25 "SharesDesk$Phase" "emptiedIn" "[I", Cond.methodLink RX1 171 yX0_against, Cond.instanceMethod yX0_against, Cond.selects RX0 yX0_against yX0_against, Cond.initialized RX0, Cond.code yX0_against cX0_against 3 (some .int), Cond.fieldLink RX0 9 "SharesDesk$Natural" "words" "[I", Cond.constantLong RX0 25 (4294967295), Cond.methodLink RX1 121 yX0_minus, Cond.instanceMethod yX0_minus, Cond.selects RX0 yX0_minus yX0_minus, Cond.code yX0_minus cX0_minus 7 none, Cond.methodLink RX1 108 yX0_copy, Cond.instanceMethod yX0_copy, Cond.selects RX0 yX0_copy yX0_copy, Cond.code yX0_copy cX0_copy 2 none, Cond.methodLink RX0 19 arraycopyName, Cond.native arraycopyName, Cond.static arraycopyName, Cond.initialized "java/lang/System", Cond.methodLink RX1 133 yX0_set]
def wsX1_charge_r2 : List Cond := [Cond.instanceMethod yX0_set, Cond.selects RX0 yX0_set yX0_set, Cond.code yX0_set cX0_set 2 none, Cond.methodLink RX0 13 yJ7_fill_53178, Cond.static yJ7_fill_53178, Cond.initialized RJ7, Cond.code yJ7_fill_53178 cJ7_fill_53178 4 none]
def wsX1_charge : List Cond := .code yX1_charge cX1_charge 3 none :: ((wsX1_charge_r1 ++ wsX1_charge_r2) ++ wsX10 ++ wsX00)
def wsX1_pay_r1 : List Cond := [Cond.fieldLink RX1 12 "SharesDesk$Phase" "base" "LSharesDesk$Natural;", Cond.fieldLink RX1 44 "SharesDesk$Phase" "best" "LSharesDesk$Share;", Cond.fieldLink RX1 159 "SharesDesk$Share" "payers" "I", Cond.fieldLink RX1 38 "SharesDesk$Phase" "bases" "[LSharesDesk$Natural;", Cond.fieldLink RX1 35 "SharesDesk$Phase" "rates" "[LSharesDesk$Natural;", Cond.fieldLink RX1 153 "SharesDesk$Share" "rest" "LSharesDesk$Natural;", Cond.fieldLink RX1 118 "SharesDesk$Phase" "payerCount" "I", Cond.fieldLink RX1 29 "SharesDesk$Phase" "payers" "[I", Cond.fieldLink RX1 18 "SharesDesk$Phase" "purses" "[LSharesDesk$Natural;", Cond.fieldLink RX1 51 "SharesDesk$Phase" "town" "LSharesDesk$Town;", Cond.fieldLink RX1 32 "SharesDesk$Phase" "picks" "[I", Cond.fieldLink RX1 59 "SharesDesk$Phase" "picked" "I", Cond.fieldLink RX1 63 "SharesDesk$Phase" "pickedSet" "I", Cond.fieldLink RX1 66 "SharesDesk$Phase" "cost" "I", Cond.fieldLink RX1 112 "SharesDesk$Town" "costs" "[I", Cond.fieldLink RX1 75 "SharesDesk$Phase" "open" "I", Cond.methodLink RX1 115 yX0_times, Cond.instanceMethod yX0_times, Cond.selects RX0 yX0_times yX0_times, Cond.initialized RX0, Cond.code yX0_times cX0_times 7 none, Cond.fieldLink RX0 9 "SharesDesk$Natural" "words" "[I", Cond.constantLong RX0 25 (4294967295), Cond.methodLink RX1 108 yX0_copy]
def wsX1_pay_r2 : List Cond := [Cond.instanceMethod yX0_copy, Cond.selects RX0 yX0_copy yX0_copy, Cond.code yX0_copy cX0_copy 2 none, Cond.methodLink RX0 19 arraycopyName, Cond.native arraycopyName, Cond.static arraycopyName, Cond.initialized "java/lang/System", Cond.methodLink RX1 95 yX5_approves, Cond.instanceMethod yX5_approves, Cond.selects RX5 yX5_approves yX5_approves, Cond.initialized RX5, Cond.code yX5_approves cX5_approves 3 (some .boolean), Cond.fieldLink RX5 15 "SharesDesk$Town" "approvals" "[I", Cond.methodLink RX1 165 yX1_charge, Cond.instanceMethod yX1_charge, Cond.selects RX1 yX1_charge yX1_charge, Cond.initialized RX1, Cond.code yX1_charge cX1_charge 3 none, Cond.fieldLink RX1 22 "SharesDesk$Phase" "lastPays" "[LSharesDesk$Natural;", Cond.fieldLink RX1 25 "SharesDesk$Phase" "emptiedIn" "[I", Cond.methodLink RX1 171 yX0_against, Cond.instanceMethod yX0_against, Cond.selects RX0 yX0_against yX0_against, Cond.code yX0_against cX0_against 3 (some .int)]
def wsX1_pay_r3 : List Cond := [Cond.methodLink RX1 121 yX0_minus, Cond.instanceMethod yX0_minus, Cond.selects RX0 yX0_minus yX0_minus, Cond.code yX0_minus cX0_minus 7 none, Cond.methodLink RX1 133 yX0_set, Cond.instanceMethod yX0_set, Cond.selects RX0 yX0_set yX0_set, Cond.code yX0_set cX0_set 2 none, Cond.methodLink RX0 13 yJ7_fill_53178, Cond.static yJ7_fill_53178, Cond.initialized RJ7, Cond.code yJ7_fill_53178 cJ7_fill_53178 4 none, Cond.methodLink RX1 168 yX0_isZero, Cond.instanceMethod yX0_isZero, Cond.selects RX0 yX0_isZero yX0_isZero, Cond.code yX0_isZero cX0_isZero 1 (some .boolean)]
def wsX1_pay : List Cond := .code yX1_pay cX1_pay 6 none :: ((wsX1_pay_r1 ++ (wsX1_pay_r2 ++ wsX1_pay_r3)) ++ wsX10 ++ wsX30 ++ wsX50 ++ wsX00)
def wsX1_sortPayers : List Cond := .code yX1_sortPayers cX1_sortPayers 4 none :: ([.fieldLink RX1 118 "SharesDesk$Phase" "payerCount" "I", .fieldLink RX1 29 "SharesDesk$Phase" "payers" "[I", .fieldLink RX1 18 "SharesDesk$Phase" "purses" "[LSharesDesk$Natural;", .methodLink RX1 171 yX0_against, .instanceMethod yX0_against, .selects RX0 yX0_against yX0_against, .initialized RX0, .code yX0_against cX0_against 3 (some .int), .fieldLink RX0 9 "SharesDesk$Natural" "words" "[I", .constantLong RX0 25 (4294967295)] ++ wsX10 ++ wsX00)
def wsX1_play_r1 : List Cond := [Cond.fieldLink RX1 59 "SharesDesk$Phase" "picked" "I", Cond.fieldLink RX1 63 "SharesDesk$Phase" "pickedSet" "I", Cond.fieldLink RX1 66 "SharesDesk$Phase" "cost" "I", Cond.fieldLink RX1 51 "SharesDesk$Phase" "town" "LSharesDesk$Town;", Cond.fieldLink RX1 75 "SharesDesk$Phase" "open" "I", Cond.methodLink RX1 55 yX1_fillPurses, Cond.instanceMethod yX1_fillPurses, Cond.selects RX1 yX1_fillPurses yX1_fillPurses, Cond.initialized RX1, Cond.code yX1_fillPurses cX1_fillPurses 4 none, Cond.fieldLink RX1 12 "SharesDesk$Phase" "base" "LSharesDesk$Natural;", Cond.methodLink RX1 127 Lib.Math.max.name, Cond.static Lib.Math.max.name, Cond.initialized "java/lang/Math", Cond.code Lib.Math.max.name Lib.Math.max.code 2 (some .int), Cond.fieldLink RX1 118 "SharesDesk$Phase" "payerCount" "I", Cond.fieldLink RX1 25 "SharesDesk$Phase" "emptiedIn" "[I", Cond.fieldLink RX1 18 "SharesDesk$Phase" "purses" "[LSharesDesk$Natural;", Cond.fieldLink RX1 92 "SharesDesk$Town" "budget" "I", Cond.fieldLink RX1 29 "SharesDesk$Phase" "payers" "[I", Cond.methodLink RX1 124 yX5_countVoters, Cond.instanceMethod yX5_countVoters, Cond.selects RX5 yX5_countVoters yX5_countVoters, Cond.initialized RX5]
def wsX1_play_r2 : List Cond := [Cond.code yX5_countVoters cX5_countVoters 1 (some .int), Cond.fieldLink RX5 29 "SharesDesk$Town" "voters" "J", Cond.methodLink RX5 33 yJ13_bitCount_95d88, Cond.static yJ13_bitCount_95d88, Cond.initialized RJ13, Cond.code yJ13_bitCount_95d88 cJ13_bitCount_95d88 2 (some .int), Cond.constantLong RJ13 314 (6148914691236517205), Cond.constantLong RJ13 316 (3689348814741910323), Cond.constantLong RJ13 318 (1085102592571150095), Cond.methodLink RX1 133 yX0_set, Cond.instanceMethod yX0_set, Cond.selects RX0 yX0_set yX0_set, Cond.initialized RX0, Cond.code yX0_set cX0_set 2 none, Cond.fieldLink RX0 9 "SharesDesk$Natural" "words" "[I", Cond.methodLink RX0 13 yJ7_fill_53178, Cond.static yJ7_fill_53178, Cond.initialized RJ7, Cond.code yJ7_fill_53178 cJ7_fill_53178 4 none, Cond.methodLink RX1 136 yX5_hasVoter, Cond.instanceMethod yX5_hasVoter, Cond.selects RX5 yX5_hasVoter yX5_hasVoter, Cond.code yX5_hasVoter cX5_hasVoter 2 (some .boolean), Cond.static yX6_isVoterNumber]
def wsX1_play_r3 : List Cond := [Cond.initialized RX6, Cond.code yX6_isVoterNumber cX6_isVoterNumber 1 (some .boolean), Cond.methodLink RX1 69 yX5_allProjects, Cond.instanceMethod yX5_allProjects, Cond.selects RX5 yX5_allProjects yX5_allProjects, Cond.code yX5_allProjects cX5_allProjects 3 (some .int), Cond.fieldLink RX5 9 "SharesDesk$Town" "costs" "[I", Cond.methodLink RX1 78 yX1_overspends, Cond.instanceMethod yX1_overspends, Cond.selects RX1 yX1_overspends yX1_overspends, Cond.code yX1_overspends cX1_overspends 1 (some .boolean), Cond.methodLink RX1 82 yX1_findCheapest, Cond.instanceMethod yX1_findCheapest, Cond.selects RX1 yX1_findCheapest yX1_findCheapest, Cond.code yX1_findCheapest cX1_findCheapest 3 (some .int), Cond.methodLink RX1 140 yX1_findShare, Cond.instanceMethod yX1_findShare, Cond.selects RX1 yX1_findShare yX1_findShare, Cond.code yX1_findShare cX1_findShare 4 (some .boolean), Cond.fieldLink RX1 48 "SharesDesk$Phase" "tried" "LSharesDesk$Share;", Cond.fieldLink RX1 153 "SharesDesk$Share" "rest" "LSharesDesk$Natural;", Cond.fieldLink RX1 112 "SharesDesk$Town" "costs" "[I", Cond.fieldLink RX1 159 "SharesDesk$Share" "payers" "I", Cond.methodLink RX1 108 yX0_copy]
def wsX1_play_r4 : List Cond := [Cond.instanceMethod yX0_copy, Cond.selects RX0 yX0_copy yX0_copy, Cond.code yX0_copy cX0_copy 2 none, Cond.methodLink RX0 19 arraycopyName, Cond.native arraycopyName, Cond.static arraycopyName, Cond.initialized "java/lang/System", Cond.methodLink RX1 115 yX0_times, Cond.instanceMethod yX0_times, Cond.selects RX0 yX0_times yX0_times, Cond.code yX0_times cX0_times 7 none, Cond.constantLong RX0 25 (4294967295), Cond.methodLink RX1 156 yX1_countPayers, Cond.instanceMethod yX1_countPayers, Cond.selects RX1 yX1_countPayers yX1_countPayers, Cond.code yX1_countPayers cX1_countPayers 4 (some .int), Cond.methodLink RX1 95 yX5_approves, Cond.instanceMethod yX5_approves, Cond.selects RX5 yX5_approves yX5_approves, Cond.code yX5_approves cX5_approves 3 (some .boolean), Cond.fieldLink RX5 15 "SharesDesk$Town" "approvals" "[I", Cond.methodLink RX1 161 yX3_isWithin, Cond.instanceMethod yX3_isWithin, Cond.selects RX3 yX3_isWithin yX3_isWithin]
def wsX1_play_r5 : List Cond := [Cond.initialized RX3, Cond.code yX3_isWithin cX3_isWithin 2 (some .boolean), Cond.fieldLink RX3 16 "SharesDesk$Share" "left" "LSharesDesk$Natural;", Cond.fieldLink RX3 26 "SharesDesk$Share" "payers" "I", Cond.fieldLink RX3 10 "SharesDesk$Share" "rest" "LSharesDesk$Natural;", Cond.methodLink RX3 22 yX0_copy, Cond.methodLink RX3 30 yX0_times, Cond.methodLink RX3 34 yX0_against, Cond.instanceMethod yX0_against, Cond.selects RX0 yX0_against yX0_against, Cond.code yX0_against cX0_against 3 (some .int), Cond.methodLink RX1 121 yX0_minus, Cond.instanceMethod yX0_minus, Cond.selects RX0 yX0_minus yX0_minus, Cond.code yX0_minus cX0_minus 7 none, Cond.methodLink RX1 143 yX1_isBetter, Cond.instanceMethod yX1_isBetter, Cond.selects RX1 yX1_isBetter yX1_isBetter, Cond.code yX1_isBetter cX1_isBetter 4 (some .boolean), Cond.fieldLink RX1 44 "SharesDesk$Phase" "best" "LSharesDesk$Share;", Cond.methodLink RX1 149 yX3_against, Cond.instanceMethod yX3_against, Cond.selects RX3 yX3_against yX3_against, Cond.code yX3_against cX3_against 2 (some .int)]
def wsX1_play_r6 : List Cond := [Cond.fieldLink RX3 19 "SharesDesk$Share" "right" "LSharesDesk$Natural;", Cond.methodLink RX1 146 yX1_swapShares, Cond.instanceMethod yX1_swapShares, Cond.selects RX1 yX1_swapShares yX1_swapShares, Cond.code yX1_swapShares cX1_swapShares 2 none, Cond.methodLink RX1 85 yX1_pay, Cond.instanceMethod yX1_pay, Cond.selects RX1 yX1_pay yX1_pay, Cond.code yX1_pay cX1_pay 6 none, Cond.fieldLink RX1 38 "SharesDesk$Phase" "bases" "[LSharesDesk$Natural;", Cond.fieldLink RX1 35 "SharesDesk$Phase" "rates" "[LSharesDesk$Natural;", Cond.fieldLink RX1 32 "SharesDesk$Phase" "picks" "[I", Cond.methodLink RX1 165 yX1_charge, Cond.instanceMethod yX1_charge, Cond.selects RX1 yX1_charge yX1_charge, Cond.code yX1_charge cX1_charge 3 none, Cond.fieldLink RX1 22 "SharesDesk$Phase" "lastPays" "[LSharesDesk$Natural;", Cond.methodLink RX1 171 yX0_against, Cond.methodLink RX1 168 yX0_isZero, Cond.instanceMethod yX0_isZero, Cond.selects RX0 yX0_isZero yX0_isZero, Cond.code yX0_isZero cX0_isZero 1 (some .boolean), Cond.methodLink RX1 89 yX1_sortPayers, Cond.instanceMethod yX1_sortPayers]
def wsX1_play_r7 : List Cond := [Cond.selects RX1 yX1_sortPayers yX1_sortPayers, Cond.code yX1_sortPayers cX1_sortPayers 4 none]
def wsX1_play : List Cond := .code yX1_play cX1_play 4 none :: ((wsX1_play_r1 ++ (wsX1_play_r2 ++ (wsX1_play_r3 ++ (wsX1_play_r4 ++ (wsX1_play_r5 ++ (wsX1_play_r6 ++ wsX1_play_r7)))))) ++ wsX10 ++ wsX50 ++ wsX00 ++ wsX30)
def wsX1_roundOf : List Cond := .code yX1_roundOf cX1_roundOf 3 (some .int) :: ([.fieldLink RX1 59 "SharesDesk$Phase" "picked" "I", .fieldLink RX1 32 "SharesDesk$Phase" "picks" "[I"] ++ wsX10)
def wsX1_payment : List Cond := .code yX1_payment cX1_payment 3 (some (.object "SharesDesk$Natural")) :: ([.fieldLink RX1 25 "SharesDesk$Phase" "emptiedIn" "[I", .fieldLink RX1 51 "SharesDesk$Phase" "town" "LSharesDesk$Town;", .fieldLink RX1 32 "SharesDesk$Phase" "picks" "[I", .fieldLink RX1 22 "SharesDesk$Phase" "lastPays" "[LSharesDesk$Natural;", .fieldLink RX1 35 "SharesDesk$Phase" "rates" "[LSharesDesk$Natural;", .methodLink RX1 95 yX5_approves, .instanceMethod yX5_approves, .selects RX5 yX5_approves yX5_approves, .initialized RX5, .code yX5_approves cX5_approves 3 (some .boolean), .fieldLink RX5 15 "SharesDesk$Town" "approvals" "[I"] ++ wsX10 ++ wsX50)
def wsJ6_bitCount_0f7a4 : List Cond := .code yJ6_bitCount_0f7a4 cJ6_bitCount_0f7a4 1 (some .int) :: ([.constant RJ6 265 (1431655765), .constant RJ6 266 (858993459), .constant RJ6 267 (252645135)])
def wsX1_countServed : List Cond := .code yX1_countServed cX1_countServed 2 (some .int) :: ([.fieldLink RX1 51 "SharesDesk$Phase" "town" "LSharesDesk$Town;", .fieldLink RX1 99 "SharesDesk$Town" "approvals" "[I", .fieldLink RX1 63 "SharesDesk$Phase" "pickedSet" "I", .methodLink RX1 102 yJ6_bitCount_0f7a4, .static yJ6_bitCount_0f7a4, .initialized RJ6, .code yJ6_bitCount_0f7a4 cJ6_bitCount_0f7a4 1 (some .int), .constant RJ6 265 (1431655765), .constant RJ6 266 (858993459), .constant RJ6 267 (252645135)] ++ wsX10 ++ wsX50)
def wsX1_measureLack_r1 : List Cond := [Cond.fieldLink RX1 12 "SharesDesk$Phase" "base" "LSharesDesk$Natural;", Cond.fieldLink RX1 51 "SharesDesk$Phase" "town" "LSharesDesk$Town;", Cond.fieldLink RX1 112 "SharesDesk$Town" "costs" "[I", Cond.fieldLink RX1 118 "SharesDesk$Phase" "payerCount" "I", Cond.fieldLink RX1 29 "SharesDesk$Phase" "payers" "[I", Cond.fieldLink RX1 18 "SharesDesk$Phase" "purses" "[LSharesDesk$Natural;", Cond.methodLink RX1 108 yX0_copy, Cond.instanceMethod yX0_copy, Cond.selects RX0 yX0_copy yX0_copy, Cond.initialized RX0, Cond.code yX0_copy cX0_copy 2 none, Cond.fieldLink RX0 9 "SharesDesk$Natural" "words" "[I", Cond.methodLink RX0 19 arraycopyName, Cond.native arraycopyName, Cond.static arraycopyName, Cond.initialized "java/lang/System", Cond.methodLink RX1 115 yX0_times, Cond.instanceMethod yX0_times, Cond.selects RX0 yX0_times yX0_times, Cond.code yX0_times cX0_times 7 none, Cond.constantLong RX0 25 (4294967295), Cond.methodLink RX1 95 yX5_approves, Cond.instanceMethod yX5_approves, Cond.selects RX5 yX5_approves yX5_approves]
def wsX1_measureLack_r2 : List Cond := [Cond.initialized RX5, Cond.code yX5_approves cX5_approves 3 (some .boolean), Cond.fieldLink RX5 15 "SharesDesk$Town" "approvals" "[I", Cond.methodLink RX1 121 yX0_minus, Cond.instanceMethod yX0_minus, Cond.selects RX0 yX0_minus yX0_minus, Cond.code yX0_minus cX0_minus 7 none]
def wsX1_measureLack : List Cond := .code yX1_measureLack cX1_measureLack 4 none :: ((wsX1_measureLack_r1 ++ wsX1_measureLack_r2) ++ wsX10 ++ wsX50 ++ wsX00)
def wsX2_init : List Cond := .code yX2_init cX2_init 1 none :: ([.methodLink RX2 1 objectInit, .instanceMethod objectInit, .code objectInit ⟨#[0xb1]⟩ 1 none, .classLink RX2 7 RX0, .instantiable RX0 1, .initialized RX0, .fieldLink RX2 10 "SharesDesk$Ratio" "top" "LSharesDesk$Natural;", .fieldLink RX2 16 "SharesDesk$Ratio" "bottom" "LSharesDesk$Natural;", .instanceMethod yX0_init, .code yX0_init cX0_init 1 none, .methodLink RX0 3 objectInit, .arrayClass .int, .fieldLink RX0 9 "SharesDesk$Natural" "words" "[I"] ++ wsX00 ++ wsX20)
def wsX2_takeZero : List Cond := .code yX2_takeZero cX2_takeZero 1 none :: ([.fieldLink RX2 10 "SharesDesk$Ratio" "top" "LSharesDesk$Natural;", .fieldLink RX2 16 "SharesDesk$Ratio" "bottom" "LSharesDesk$Natural;", .methodLink RX2 19 yX0_set, .instanceMethod yX0_set, .selects RX0 yX0_set yX0_set, .initialized RX0, .code yX0_set cX0_set 2 none, .fieldLink RX0 9 "SharesDesk$Natural" "words" "[I", .methodLink RX0 13 yJ7_fill_53178, .static yJ7_fill_53178, .initialized RJ7, .code yJ7_fill_53178 cJ7_fill_53178 4 none] ++ wsX20 ++ wsX00)
def wsX2_cancel : List Cond := .code yX2_cancel cX2_cancel 3 none :: ([.fieldLink RX2 16 "SharesDesk$Ratio" "bottom" "LSharesDesk$Natural;", .fieldLink RX2 10 "SharesDesk$Ratio" "top" "LSharesDesk$Natural;", .methodLink RX2 45 yX0_modulo, .instanceMethod yX0_modulo, .selects RX0 yX0_modulo yX0_modulo, .initialized RX0, .code yX0_modulo cX0_modulo 5 (some .int), .fieldLink RX0 9 "SharesDesk$Natural" "words" "[I", .constantLong RX0 25 (4294967295), .methodLink RX2 48 yX0_divide, .instanceMethod yX0_divide, .selects RX0 yX0_divide yX0_divide, .code yX0_divide cX0_divide 7 (some .int)] ++ wsX20 ++ wsX00)
def wsX2_take_r1 : List Cond := [Cond.fieldLink RX2 10 "SharesDesk$Ratio" "top" "LSharesDesk$Natural;", Cond.fieldLink RX2 16 "SharesDesk$Ratio" "bottom" "LSharesDesk$Natural;", Cond.fieldLink RX2 34 "SharesDesk$Ratio" "PRIMES" "[I", Cond.methodLink RX2 23 yX0_isZero, Cond.instanceMethod yX0_isZero, Cond.selects RX0 yX0_isZero yX0_isZero, Cond.initialized RX0, Cond.code yX0_isZero cX0_isZero 1 (some .boolean), Cond.fieldLink RX0 9 "SharesDesk$Natural" "words" "[I", Cond.methodLink RX2 27 yX2_takeZero, Cond.instanceMethod yX2_takeZero, Cond.selects RX2 yX2_takeZero yX2_takeZero, Cond.initialized RX2, Cond.code yX2_takeZero cX2_takeZero 1 none, Cond.methodLink RX2 19 yX0_set, Cond.instanceMethod yX0_set, Cond.selects RX0 yX0_set yX0_set, Cond.code yX0_set cX0_set 2 none, Cond.methodLink RX0 13 yJ7_fill_53178, Cond.static yJ7_fill_53178, Cond.initialized RJ7, Cond.code yJ7_fill_53178 cJ7_fill_53178 4 none, Cond.methodLink RX2 30 yX0_copy, Cond.instanceMethod yX0_copy]
def wsX2_take_r2 : List Cond := [Cond.selects RX0 yX0_copy yX0_copy, Cond.code yX0_copy cX0_copy 2 none, Cond.methodLink RX0 19 arraycopyName, Cond.native arraycopyName, Cond.static arraycopyName, Cond.initialized "java/lang/System", Cond.methodLink RX2 38 yX2_cancel, Cond.instanceMethod yX2_cancel, Cond.selects RX2 yX2_cancel yX2_cancel, Cond.code yX2_cancel cX2_cancel 3 none, Cond.methodLink RX2 45 yX0_modulo, Cond.instanceMethod yX0_modulo, Cond.selects RX0 yX0_modulo yX0_modulo, Cond.code yX0_modulo cX0_modulo 5 (some .int), Cond.constantLong RX0 25 (4294967295), Cond.methodLink RX2 48 yX0_divide, Cond.instanceMethod yX0_divide, Cond.selects RX0 yX0_divide yX0_divide, Cond.code yX0_divide cX0_divide 7 (some .int)]
def wsX2_take : List Cond := .code yX2_take cX2_take 7 none :: ((wsX2_take_r1 ++ wsX2_take_r2) ++ wsX20 ++ wsX00)
def wsX2_wordOf : List Cond := .code yX2_wordOf cX2_wordOf 3 (some .int) :: ([.fieldLink RX2 10 "SharesDesk$Ratio" "top" "LSharesDesk$Natural;", .fieldLink RX2 16 "SharesDesk$Ratio" "bottom" "LSharesDesk$Natural;", .methodLink RX2 41 yX0_wordAt, .instanceMethod yX0_wordAt, .selects RX0 yX0_wordAt yX0_wordAt, .initialized RX0, .code yX0_wordAt cX0_wordAt 2 (some .int), .fieldLink RX0 9 "SharesDesk$Natural" "words" "[I"] ++ wsX20 ++ wsX00)
def wsX4_init : List Cond := .code yX4_init cX4_init 1 none :: ([.methodLink RX4 5 objectInit, .instanceMethod objectInit, .code objectInit ⟨#[0xb1]⟩ 1 none, .fieldLink RX4 11 "SharesDesk$Slip" "owner" "I", .arrayClass .char, .fieldLink RX4 17 "SharesDesk$Slip" "text" "[C", .fieldLink RX4 21 "SharesDesk$Slip" "digits" "[C", .classLink RX4 1 RX0, .instantiable RX0 1, .initialized RX0, .fieldLink RX4 25 "SharesDesk$Slip" "rest" "LSharesDesk$Natural;", .instanceMethod yX0_init, .code yX0_init cX0_init 1 none, .methodLink RX0 3 objectInit, .arrayClass .int, .fieldLink RX0 9 "SharesDesk$Natural" "words" "[I"] ++ wsX40 ++ wsX00)
def wsX4_clear : List Cond := .code yX4_clear cX4_clear 2 none :: ([.fieldLink RX4 11 "SharesDesk$Slip" "owner" "I", .fieldLink RX4 29 "SharesDesk$Slip" "length" "I"] ++ wsX40)
def wsX4_charOr : List Cond := .code yX4_charOr cX4_charOr 3 (some .int) :: ([.fieldLink RX4 29 "SharesDesk$Slip" "length" "I", .fieldLink RX4 17 "SharesDesk$Slip" "text" "[C"] ++ wsX40)
def wsX4_put : List Cond := .code yX4_put cX4_put 2 none :: ([.fieldLink RX4 29 "SharesDesk$Slip" "length" "I", .fieldLink RX4 17 "SharesDesk$Slip" "text" "[C"] ++ wsX40)
def wsX4_putProject : List Cond := .code yX4_putProject cX4_putProject 2 none :: ([.methodLink RX4 32 yX4_put, .instanceMethod yX4_put, .selects RX4 yX4_put yX4_put, .initialized RX4, .code yX4_put cX4_put 2 none, .fieldLink RX4 29 "SharesDesk$Slip" "length" "I", .fieldLink RX4 17 "SharesDesk$Slip" "text" "[C"] ++ wsX40)
def wsX4_putNatural_r1 : List Cond := [Cond.fieldLink RX4 25 "SharesDesk$Slip" "rest" "LSharesDesk$Natural;", Cond.fieldLink RX4 21 "SharesDesk$Slip" "digits" "[C", Cond.methodLink RX4 52 yX0_copy, Cond.instanceMethod yX0_copy, Cond.selects RX0 yX0_copy yX0_copy, Cond.initialized RX0, Cond.code yX0_copy cX0_copy 2 none, Cond.fieldLink RX0 9 "SharesDesk$Natural" "words" "[I", Cond.methodLink RX0 19 arraycopyName, Cond.native arraycopyName, Cond.static arraycopyName, Cond.initialized "java/lang/System", Cond.methodLink RX4 55 yX0_divide, Cond.instanceMethod yX0_divide, Cond.selects RX0 yX0_divide yX0_divide, Cond.code yX0_divide cX0_divide 7 (some .int), Cond.constantLong RX0 25 (4294967295), Cond.methodLink RX4 59 yX0_isZero, Cond.instanceMethod yX0_isZero, Cond.selects RX0 yX0_isZero yX0_isZero, Cond.code yX0_isZero cX0_isZero 1 (some .boolean), Cond.methodLink RX4 32 yX4_put, Cond.instanceMethod yX4_put, Cond.selects RX4 yX4_put yX4_put]
def wsX4_putNatural_r2 : List Cond := [Cond.initialized RX4, Cond.code yX4_put cX4_put 2 none, Cond.fieldLink RX4 29 "SharesDesk$Slip" "length" "I", Cond.fieldLink RX4 17 "SharesDesk$Slip" "text" "[C"]
def wsX4_putNatural : List Cond := .code yX4_putNatural cX4_putNatural 4 none :: ((wsX4_putNatural_r1 ++ wsX4_putNatural_r2) ++ wsX40 ++ wsX00)
def wsX4_putRatio_r1 : List Cond := [Cond.fieldLink RX4 36 "SharesDesk$Ratio" "top" "LSharesDesk$Natural;", Cond.fieldLink RX4 45 "SharesDesk$Ratio" "bottom" "LSharesDesk$Natural;", Cond.methodLink RX4 41 yX4_putNatural, Cond.instanceMethod yX4_putNatural, Cond.selects RX4 yX4_putNatural yX4_putNatural, Cond.initialized RX4, Cond.code yX4_putNatural cX4_putNatural 4 none, Cond.fieldLink RX4 25 "SharesDesk$Slip" "rest" "LSharesDesk$Natural;", Cond.fieldLink RX4 21 "SharesDesk$Slip" "digits" "[C", Cond.methodLink RX4 52 yX0_copy, Cond.instanceMethod yX0_copy, Cond.selects RX0 yX0_copy yX0_copy, Cond.initialized RX0, Cond.code yX0_copy cX0_copy 2 none, Cond.fieldLink RX0 9 "SharesDesk$Natural" "words" "[I", Cond.methodLink RX0 19 arraycopyName, Cond.native arraycopyName, Cond.static arraycopyName, Cond.initialized "java/lang/System", Cond.methodLink RX4 55 yX0_divide, Cond.instanceMethod yX0_divide, Cond.selects RX0 yX0_divide yX0_divide, Cond.code yX0_divide cX0_divide 7 (some .int), Cond.constantLong RX0 25 (4294967295)]
def wsX4_putRatio_r2 : List Cond := [Cond.methodLink RX4 59 yX0_isZero, Cond.instanceMethod yX0_isZero, Cond.selects RX0 yX0_isZero yX0_isZero, Cond.code yX0_isZero cX0_isZero 1 (some .boolean), Cond.methodLink RX4 32 yX4_put, Cond.instanceMethod yX4_put, Cond.selects RX4 yX4_put yX4_put, Cond.code yX4_put cX4_put 2 none, Cond.fieldLink RX4 29 "SharesDesk$Slip" "length" "I", Cond.fieldLink RX4 17 "SharesDesk$Slip" "text" "[C", Cond.methodLink RX4 48 yX0_isOne, Cond.instanceMethod yX0_isOne, Cond.selects RX0 yX0_isOne yX0_isOne, Cond.code yX0_isOne cX0_isOne 1 (some .boolean)]
def wsX4_putRatio : List Cond := .code yX4_putRatio cX4_putRatio 2 none :: ((wsX4_putRatio_r1 ++ wsX4_putRatio_r2) ++ wsX20 ++ wsX40 ++ wsX00)
def wsX5_init : List Cond := .code yX5_init cX5_init 1 none :: ([.methodLink RX5 3 objectInit, .instanceMethod objectInit, .code objectInit ⟨#[0xb1]⟩ 1 none, .arrayClass .int, .fieldLink RX5 9 "SharesDesk$Town" "costs" "[I", .fieldLink RX5 15 "SharesDesk$Town" "approvals" "[I", .fieldLink RX5 18 "SharesDesk$Town" "budget" "I"] ++ wsX50)
def wsX6_isProjectNumber : List Cond := .code yX6_isProjectNumber cX6_isProjectNumber 1 (some .boolean) :: ([])
def wsX5_hasProject : List Cond := .code yX5_hasProject cX5_hasProject 2 (some .boolean) :: ([.fieldLink RX5 9 "SharesDesk$Town" "costs" "[I", .static yX6_isProjectNumber, .initialized RX6, .code yX6_isProjectNumber cX6_isProjectNumber 1 (some .boolean)] ++ wsX50)
def wsX5_costOf : List Cond := .code yX5_costOf cX5_costOf 4 (some .int) :: ([.fieldLink RX5 9 "SharesDesk$Town" "costs" "[I"] ++ wsX50)
def wsX5_copy : List Cond := .code yX5_copy cX5_copy 2 none :: ([.fieldLink RX5 9 "SharesDesk$Town" "costs" "[I", .methodLink RX5 39 arraycopyName, .native arraycopyName, .static arraycopyName, .initialized "java/lang/System", .fieldLink RX5 15 "SharesDesk$Town" "approvals" "[I", .fieldLink RX5 29 "SharesDesk$Town" "voters" "J", .fieldLink RX5 18 "SharesDesk$Town" "budget" "I"] ++ wsX50)
def wsX6_init_r1 : List Cond := [Cond.methodLink RX6 1 objectInit, Cond.instanceMethod objectInit, Cond.code objectInit ⟨#[0xb1]⟩ 1 none, Cond.classLink RX6 7 RX5, Cond.instantiable RX5 4, Cond.initialized RX5, Cond.fieldLink RX6 10 "SharesDesk" "town" "LSharesDesk$Town;", Cond.fieldLink RX6 16 "SharesDesk" "past" "LSharesDesk$Town;", Cond.classLink RX6 19 RX2, Cond.instantiable RX2 2, Cond.initialized RX2, Cond.fieldLink RX6 22 "SharesDesk" "ratio" "LSharesDesk$Ratio;", Cond.classLink RX6 26 RX0, Cond.instantiable RX0 1, Cond.initialized RX0, Cond.fieldLink RX6 29 "SharesDesk" "lack" "LSharesDesk$Natural;", Cond.classLink RX6 33 RX4, Cond.instantiable RX4 5, Cond.initialized RX4, Cond.fieldLink RX6 36 "SharesDesk" "slip" "LSharesDesk$Slip;", Cond.classLink RX6 40 RX1, Cond.instantiable RX1 16, Cond.initialized RX1, Cond.fieldLink RX6 45 "SharesDesk" "result" "LSharesDesk$Phase;"]
def wsX6_init_r2 : List Cond := [Cond.fieldLink RX6 49 "SharesDesk" "trial" "LSharesDesk$Phase;", Cond.instanceMethod yX5_init, Cond.code yX5_init cX5_init 1 none, Cond.methodLink RX5 3 objectInit, Cond.arrayClass .int, Cond.fieldLink RX5 9 "SharesDesk$Town" "costs" "[I", Cond.fieldLink RX5 15 "SharesDesk$Town" "approvals" "[I", Cond.fieldLink RX5 18 "SharesDesk$Town" "budget" "I", Cond.instanceMethod yX2_init, Cond.code yX2_init cX2_init 1 none, Cond.methodLink RX2 1 objectInit, Cond.classLink RX2 7 RX0, Cond.fieldLink RX2 10 "SharesDesk$Ratio" "top" "LSharesDesk$Natural;", Cond.fieldLink RX2 16 "SharesDesk$Ratio" "bottom" "LSharesDesk$Natural;", Cond.instanceMethod yX0_init, Cond.code yX0_init cX0_init 1 none, Cond.methodLink RX0 3 objectInit, Cond.fieldLink RX0 9 "SharesDesk$Natural" "words" "[I", Cond.instanceMethod yX4_init, Cond.code yX4_init cX4_init 1 none, Cond.methodLink RX4 5 objectInit, Cond.fieldLink RX4 11 "SharesDesk$Slip" "owner" "I", Cond.arrayClass .char, Cond.fieldLink RX4 17 "SharesDesk$Slip" "text" "[C"]
def wsX6_init_r3 : List Cond := [Cond.fieldLink RX4 21 "SharesDesk$Slip" "digits" "[C", Cond.classLink RX4 1 RX0, Cond.fieldLink RX4 25 "SharesDesk$Slip" "rest" "LSharesDesk$Natural;", Cond.methodLink RX6 42 yX1_init, Cond.instanceMethod yX1_init, Cond.code yX1_init cX1_init 3 none, Cond.methodLink RX1 3 objectInit, Cond.classLink RX1 9 RX0, Cond.fieldLink RX1 12 "SharesDesk$Phase" "base" "LSharesDesk$Natural;", Cond.fieldLink RX1 18 "SharesDesk$Phase" "purses" "[LSharesDesk$Natural;", Cond.fieldLink RX1 22 "SharesDesk$Phase" "lastPays" "[LSharesDesk$Natural;", Cond.fieldLink RX1 25 "SharesDesk$Phase" "emptiedIn" "[I", Cond.fieldLink RX1 29 "SharesDesk$Phase" "payers" "[I", Cond.fieldLink RX1 32 "SharesDesk$Phase" "picks" "[I", Cond.fieldLink RX1 35 "SharesDesk$Phase" "rates" "[LSharesDesk$Natural;", Cond.fieldLink RX1 38 "SharesDesk$Phase" "bases" "[LSharesDesk$Natural;", Cond.classLink RX1 41 RX3, Cond.instantiable RX3 4, Cond.initialized RX3, Cond.fieldLink RX1 44 "SharesDesk$Phase" "best" "LSharesDesk$Share;", Cond.fieldLink RX1 48 "SharesDesk$Phase" "tried" "LSharesDesk$Share;", Cond.fieldLink RX1 51 "SharesDesk$Phase" "town" "LSharesDesk$Town;", Cond.instanceMethod yX3_init, Cond.code yX3_init cX3_init 1 none]
def wsX6_init_r4 : List Cond := [Cond.methodLink RX3 1 objectInit, Cond.classLink RX3 7 RX0, Cond.fieldLink RX3 10 "SharesDesk$Share" "rest" "LSharesDesk$Natural;", Cond.fieldLink RX3 16 "SharesDesk$Share" "left" "LSharesDesk$Natural;", Cond.fieldLink RX3 19 "SharesDesk$Share" "right" "LSharesDesk$Natural;"]
def wsX6_init : List Cond := .code yX6_init cX6_init 1 none :: ((wsX6_init_r1 ++ (wsX6_init_r2 ++ (wsX6_init_r3 ++ wsX6_init_r4))) ++ wsX50 ++ wsX60 ++ wsX20 ++ wsX00 ++ wsX40 ++ wsX10 ++ wsX30)
def wsX6_project : List Cond := .code yX6_project cX6_project 3 (some .boolean) :: ([.constant RX6 56 (1000000), .fieldLink RX6 10 "SharesDesk" "town" "LSharesDesk$Town;", .fieldLink RX6 57 "SharesDesk$Town" "costs" "[I", .methodLink RX6 52 yX6_isProjectNumber, .static yX6_isProjectNumber, .initialized RX6, .code yX6_isProjectNumber cX6_isProjectNumber 1 (some .boolean)] ++ wsX60 ++ wsX50)
def wsX6_drop : List Cond := .code yX6_drop cX6_drop 2 (some .boolean) :: ([.fieldLink RX6 10 "SharesDesk" "town" "LSharesDesk$Town;", .fieldLink RX6 57 "SharesDesk$Town" "costs" "[I", .methodLink RX6 61 yX5_hasProject, .instanceMethod yX5_hasProject, .selects RX5 yX5_hasProject yX5_hasProject, .initialized RX5, .code yX5_hasProject cX5_hasProject 2 (some .boolean), .fieldLink RX5 9 "SharesDesk$Town" "costs" "[I", .static yX6_isProjectNumber, .initialized RX6, .code yX6_isProjectNumber cX6_isProjectNumber 1 (some .boolean)] ++ wsX60 ++ wsX50)
def wsX6_budget : List Cond := .code yX6_budget cX6_budget 2 (some .boolean) :: ([.constant RX6 64 (10000000), .fieldLink RX6 10 "SharesDesk" "town" "LSharesDesk$Town;", .fieldLink RX6 65 "SharesDesk$Town" "budget" "I"] ++ wsX60 ++ wsX50)
def wsX6_voter : List Cond := .code yX6_voter cX6_voter 2 (some .boolean) :: ([.fieldLink RX6 10 "SharesDesk" "town" "LSharesDesk$Town;", .fieldLink RX6 75 "SharesDesk$Town" "voters" "J", .fieldLink RX6 79 "SharesDesk$Town" "approvals" "[I", .methodLink RX6 69 yX6_isVoterNumber, .static yX6_isVoterNumber, .initialized RX6, .code yX6_isVoterNumber cX6_isVoterNumber 1 (some .boolean), .methodLink RX6 72 yX5_hasVoter, .instanceMethod yX5_hasVoter, .selects RX5 yX5_hasVoter yX5_hasVoter, .initialized RX5, .code yX5_hasVoter cX5_hasVoter 2 (some .boolean), .fieldLink RX5 29 "SharesDesk$Town" "voters" "J"] ++ wsX60 ++ wsX50)
def wsX6_strike : List Cond := .code yX6_strike cX6_strike 2 (some .boolean) :: ([.fieldLink RX6 10 "SharesDesk" "town" "LSharesDesk$Town;", .fieldLink RX6 75 "SharesDesk$Town" "voters" "J", .constantLong RX6 82 (-1), .methodLink RX6 72 yX5_hasVoter, .instanceMethod yX5_hasVoter, .selects RX5 yX5_hasVoter yX5_hasVoter, .initialized RX5, .code yX5_hasVoter cX5_hasVoter 2 (some .boolean), .fieldLink RX5 29 "SharesDesk$Town" "voters" "J", .static yX6_isVoterNumber, .initialized RX6, .code yX6_isVoterNumber cX6_isVoterNumber 1 (some .boolean)] ++ wsX60 ++ wsX50)
def wsX6_approve : List Cond := .code yX6_approve cX6_approve 5 (some .boolean) :: ([.fieldLink RX6 10 "SharesDesk" "town" "LSharesDesk$Town;", .fieldLink RX6 79 "SharesDesk$Town" "approvals" "[I", .methodLink RX6 72 yX5_hasVoter, .instanceMethod yX5_hasVoter, .selects RX5 yX5_hasVoter yX5_hasVoter, .initialized RX5, .code yX5_hasVoter cX5_hasVoter 2 (some .boolean), .fieldLink RX5 29 "SharesDesk$Town" "voters" "J", .static yX6_isVoterNumber, .initialized RX6, .code yX6_isVoterNumber cX6_isVoterNumber 1 (some .boolean), .methodLink RX6 52 yX6_isProjectNumber, .static yX6_isProjectNumber, .code yX6_isProjectNumber cX6_isProjectNumber 1 (some .boolean)] ++ wsX60 ++ wsX50)
def wsX6_keepTown : List Cond := .code yX6_keepTown cX6_keepTown 1 none :: ([.fieldLink RX6 16 "SharesDesk" "past" "LSharesDesk$Town;", .fieldLink RX6 10 "SharesDesk" "town" "LSharesDesk$Town;", .fieldLink RX6 36 "SharesDesk" "slip" "LSharesDesk$Slip;", .methodLink RX6 183 yX5_copy, .instanceMethod yX5_copy, .selects RX5 yX5_copy yX5_copy, .initialized RX5, .code yX5_copy cX5_copy 2 none, .fieldLink RX5 9 "SharesDesk$Town" "costs" "[I", .methodLink RX5 39 arraycopyName, .native arraycopyName, .static arraycopyName, .initialized "java/lang/System", .fieldLink RX5 15 "SharesDesk$Town" "approvals" "[I", .fieldLink RX5 29 "SharesDesk$Town" "voters" "J", .fieldLink RX5 18 "SharesDesk$Town" "budget" "I", .methodLink RX6 186 yX4_clear, .instanceMethod yX4_clear, .selects RX4 yX4_clear yX4_clear, .initialized RX4, .code yX4_clear cX4_clear 2 none, .fieldLink RX4 11 "SharesDesk$Slip" "owner" "I", .fieldLink RX4 29 "SharesDesk$Slip" "length" "I"] ++ wsX60 ++ wsX50 ++ wsX40)
def wsX6_run_r1 : List Cond := [Cond.fieldLink RX6 45 "SharesDesk" "result" "LSharesDesk$Phase;", Cond.fieldLink RX6 91 "SharesDesk$Phase" "picked" "I", Cond.methodLink RX6 84 yX6_keepTown, Cond.instanceMethod yX6_keepTown, Cond.selects RX6 yX6_keepTown yX6_keepTown, Cond.initialized RX6, Cond.code yX6_keepTown cX6_keepTown 1 none, Cond.fieldLink RX6 16 "SharesDesk" "past" "LSharesDesk$Town;", Cond.fieldLink RX6 10 "SharesDesk" "town" "LSharesDesk$Town;", Cond.fieldLink RX6 36 "SharesDesk" "slip" "LSharesDesk$Slip;", Cond.methodLink RX6 183 yX5_copy, Cond.instanceMethod yX5_copy, Cond.selects RX5 yX5_copy yX5_copy, Cond.initialized RX5, Cond.code yX5_copy cX5_copy 2 none, Cond.fieldLink RX5 9 "SharesDesk$Town" "costs" "[I", Cond.methodLink RX5 39 arraycopyName, Cond.native arraycopyName, Cond.static arraycopyName, Cond.initialized "java/lang/System", Cond.fieldLink RX5 15 "SharesDesk$Town" "approvals" "[I", Cond.fieldLink RX5 29 "SharesDesk$Town" "voters" "J", Cond.fieldLink RX5 18 "SharesDesk$Town" "budget" "I", Cond.methodLink RX6 186 yX4_clear]
def wsX6_run_r2 : List Cond := [Cond.instanceMethod yX4_clear, Cond.selects RX4 yX4_clear yX4_clear, Cond.initialized RX4, Cond.code yX4_clear cX4_clear 2 none, Cond.fieldLink RX4 11 "SharesDesk$Slip" "owner" "I", Cond.fieldLink RX4 29 "SharesDesk$Slip" "length" "I", Cond.methodLink RX6 87 yX1_play, Cond.instanceMethod yX1_play, Cond.selects RX1 yX1_play yX1_play, Cond.initialized RX1, Cond.code yX1_play cX1_play 4 none, Cond.fieldLink RX1 59 "SharesDesk$Phase" "picked" "I", Cond.fieldLink RX1 63 "SharesDesk$Phase" "pickedSet" "I", Cond.fieldLink RX1 66 "SharesDesk$Phase" "cost" "I", Cond.fieldLink RX1 51 "SharesDesk$Phase" "town" "LSharesDesk$Town;", Cond.fieldLink RX1 75 "SharesDesk$Phase" "open" "I", Cond.methodLink RX1 55 yX1_fillPurses, Cond.instanceMethod yX1_fillPurses, Cond.selects RX1 yX1_fillPurses yX1_fillPurses, Cond.code yX1_fillPurses cX1_fillPurses 4 none, Cond.fieldLink RX1 12 "SharesDesk$Phase" "base" "LSharesDesk$Natural;", Cond.methodLink RX1 127 Lib.Math.max.name, Cond.static Lib.Math.max.name, Cond.initialized "java/lang/Math"]
def wsX6_run_r3 : List Cond := [Cond.code Lib.Math.max.name Lib.Math.max.code 2 (some .int), Cond.fieldLink RX1 118 "SharesDesk$Phase" "payerCount" "I", Cond.fieldLink RX1 25 "SharesDesk$Phase" "emptiedIn" "[I", Cond.fieldLink RX1 18 "SharesDesk$Phase" "purses" "[LSharesDesk$Natural;", Cond.fieldLink RX1 92 "SharesDesk$Town" "budget" "I", Cond.fieldLink RX1 29 "SharesDesk$Phase" "payers" "[I", Cond.methodLink RX1 124 yX5_countVoters, Cond.instanceMethod yX5_countVoters, Cond.selects RX5 yX5_countVoters yX5_countVoters, Cond.code yX5_countVoters cX5_countVoters 1 (some .int), Cond.methodLink RX5 33 yJ13_bitCount_95d88, Cond.static yJ13_bitCount_95d88, Cond.initialized RJ13, Cond.code yJ13_bitCount_95d88 cJ13_bitCount_95d88 2 (some .int), Cond.constantLong RJ13 314 (6148914691236517205), Cond.constantLong RJ13 316 (3689348814741910323), Cond.constantLong RJ13 318 (1085102592571150095), Cond.methodLink RX1 133 yX0_set, Cond.instanceMethod yX0_set, Cond.selects RX0 yX0_set yX0_set, Cond.initialized RX0, Cond.code yX0_set cX0_set 2 none, Cond.fieldLink RX0 9 "SharesDesk$Natural" "words" "[I", Cond.methodLink RX0 13 yJ7_fill_53178]
def wsX6_run_r4 : List Cond := [Cond.static yJ7_fill_53178, Cond.initialized RJ7, Cond.code yJ7_fill_53178 cJ7_fill_53178 4 none, Cond.methodLink RX1 136 yX5_hasVoter, Cond.instanceMethod yX5_hasVoter, Cond.selects RX5 yX5_hasVoter yX5_hasVoter, Cond.code yX5_hasVoter cX5_hasVoter 2 (some .boolean), Cond.static yX6_isVoterNumber, Cond.code yX6_isVoterNumber cX6_isVoterNumber 1 (some .boolean), Cond.methodLink RX1 69 yX5_allProjects, Cond.instanceMethod yX5_allProjects, Cond.selects RX5 yX5_allProjects yX5_allProjects, Cond.code yX5_allProjects cX5_allProjects 3 (some .int), Cond.methodLink RX1 78 yX1_overspends, Cond.instanceMethod yX1_overspends, Cond.selects RX1 yX1_overspends yX1_overspends, Cond.code yX1_overspends cX1_overspends 1 (some .boolean), Cond.methodLink RX1 82 yX1_findCheapest, Cond.instanceMethod yX1_findCheapest, Cond.selects RX1 yX1_findCheapest yX1_findCheapest, Cond.code yX1_findCheapest cX1_findCheapest 3 (some .int), Cond.methodLink RX1 140 yX1_findShare, Cond.instanceMethod yX1_findShare, Cond.selects RX1 yX1_findShare yX1_findShare]
def wsX6_run_r5 : List Cond := [Cond.code yX1_findShare cX1_findShare 4 (some .boolean), Cond.fieldLink RX1 48 "SharesDesk$Phase" "tried" "LSharesDesk$Share;", Cond.fieldLink RX1 153 "SharesDesk$Share" "rest" "LSharesDesk$Natural;", Cond.fieldLink RX1 112 "SharesDesk$Town" "costs" "[I", Cond.fieldLink RX1 159 "SharesDesk$Share" "payers" "I", Cond.methodLink RX1 108 yX0_copy, Cond.instanceMethod yX0_copy, Cond.selects RX0 yX0_copy yX0_copy, Cond.code yX0_copy cX0_copy 2 none, Cond.methodLink RX0 19 arraycopyName, Cond.methodLink RX1 115 yX0_times, Cond.instanceMethod yX0_times, Cond.selects RX0 yX0_times yX0_times, Cond.code yX0_times cX0_times 7 none, Cond.constantLong RX0 25 (4294967295), Cond.methodLink RX1 156 yX1_countPayers, Cond.instanceMethod yX1_countPayers, Cond.selects RX1 yX1_countPayers yX1_countPayers, Cond.code yX1_countPayers cX1_countPayers 4 (some .int), Cond.methodLink RX1 95 yX5_approves, Cond.instanceMethod yX5_approves, Cond.selects RX5 yX5_approves yX5_approves, Cond.code yX5_approves cX5_approves 3 (some .boolean), Cond.methodLink RX1 161 yX3_isWithin]
def wsX6_run_r6 : List Cond := [Cond.instanceMethod yX3_isWithin, Cond.selects RX3 yX3_isWithin yX3_isWithin, Cond.initialized RX3, Cond.code yX3_isWithin cX3_isWithin 2 (some .boolean), Cond.fieldLink RX3 16 "SharesDesk$Share" "left" "LSharesDesk$Natural;", Cond.fieldLink RX3 26 "SharesDesk$Share" "payers" "I", Cond.fieldLink RX3 10 "SharesDesk$Share" "rest" "LSharesDesk$Natural;", Cond.methodLink RX3 22 yX0_copy, Cond.methodLink RX3 30 yX0_times, Cond.methodLink RX3 34 yX0_against, Cond.instanceMethod yX0_against, Cond.selects RX0 yX0_against yX0_against, Cond.code yX0_against cX0_against 3 (some .int), Cond.methodLink RX1 121 yX0_minus, Cond.instanceMethod yX0_minus, Cond.selects RX0 yX0_minus yX0_minus, Cond.code yX0_minus cX0_minus 7 none, Cond.methodLink RX1 143 yX1_isBetter, Cond.instanceMethod yX1_isBetter, Cond.selects RX1 yX1_isBetter yX1_isBetter, Cond.code yX1_isBetter cX1_isBetter 4 (some .boolean), Cond.fieldLink RX1 44 "SharesDesk$Phase" "best" "LSharesDesk$Share;", Cond.methodLink RX1 149 yX3_against, Cond.instanceMethod yX3_against]
def wsX6_run_r7 : List Cond := [Cond.selects RX3 yX3_against yX3_against, Cond.code yX3_against cX3_against 2 (some .int), Cond.fieldLink RX3 19 "SharesDesk$Share" "right" "LSharesDesk$Natural;", Cond.methodLink RX1 146 yX1_swapShares, Cond.instanceMethod yX1_swapShares, Cond.selects RX1 yX1_swapShares yX1_swapShares, Cond.code yX1_swapShares cX1_swapShares 2 none, Cond.methodLink RX1 85 yX1_pay, Cond.instanceMethod yX1_pay, Cond.selects RX1 yX1_pay yX1_pay, Cond.code yX1_pay cX1_pay 6 none, Cond.fieldLink RX1 38 "SharesDesk$Phase" "bases" "[LSharesDesk$Natural;", Cond.fieldLink RX1 35 "SharesDesk$Phase" "rates" "[LSharesDesk$Natural;", Cond.fieldLink RX1 32 "SharesDesk$Phase" "picks" "[I", Cond.methodLink RX1 165 yX1_charge, Cond.instanceMethod yX1_charge, Cond.selects RX1 yX1_charge yX1_charge, Cond.code yX1_charge cX1_charge 3 none, Cond.fieldLink RX1 22 "SharesDesk$Phase" "lastPays" "[LSharesDesk$Natural;", Cond.methodLink RX1 171 yX0_against, Cond.methodLink RX1 168 yX0_isZero, Cond.instanceMethod yX0_isZero, Cond.selects RX0 yX0_isZero yX0_isZero, Cond.code yX0_isZero cX0_isZero 1 (some .boolean)]
def wsX6_run_r8 : List Cond := [Cond.methodLink RX1 89 yX1_sortPayers, Cond.instanceMethod yX1_sortPayers, Cond.selects RX1 yX1_sortPayers yX1_sortPayers, Cond.code yX1_sortPayers cX1_sortPayers 4 none]
def wsX6_run : List Cond := .code yX6_run cX6_run 1 (some .int) :: ((wsX6_run_r1 ++ (wsX6_run_r2 ++ (wsX6_run_r3 ++ (wsX6_run_r4 ++ (wsX6_run_r5 ++ (wsX6_run_r6 ++ (wsX6_run_r7 ++ wsX6_run_r8))))))) ++ wsX60 ++ wsX10 ++ wsX50 ++ wsX40 ++ wsX00 ++ wsX30)
def wsX6_swapPhases : List Cond := .code yX6_swapPhases cX6_swapPhases 2 none :: ([.fieldLink RX6 45 "SharesDesk" "result" "LSharesDesk$Phase;", .fieldLink RX6 49 "SharesDesk" "trial" "LSharesDesk$Phase;"] ++ wsX60)
def wsX6_raise_r1 : List Cond := [Cond.classLink RX6 95 "java/lang/IllegalArgumentException", Cond.initialized "java/lang/IllegalArgumentException", Cond.constant RX6 94 (100000), Cond.fieldLink RX6 16 "SharesDesk" "past" "LSharesDesk$Town;", Cond.fieldLink RX6 65 "SharesDesk$Town" "budget" "I", Cond.fieldLink RX6 45 "SharesDesk" "result" "LSharesDesk$Phase;", Cond.fieldLink RX6 49 "SharesDesk" "trial" "LSharesDesk$Phase;", Cond.methodLink RX6 84 yX6_keepTown, Cond.instanceMethod yX6_keepTown, Cond.selects RX6 yX6_keepTown yX6_keepTown, Cond.initialized RX6, Cond.code yX6_keepTown cX6_keepTown 1 none, Cond.fieldLink RX6 10 "SharesDesk" "town" "LSharesDesk$Town;", Cond.fieldLink RX6 36 "SharesDesk" "slip" "LSharesDesk$Slip;", Cond.methodLink RX6 183 yX5_copy, Cond.instanceMethod yX5_copy, Cond.selects RX5 yX5_copy yX5_copy, Cond.initialized RX5, Cond.code yX5_copy cX5_copy 2 none, Cond.fieldLink RX5 9 "SharesDesk$Town" "costs" "[I", Cond.methodLink RX5 39 arraycopyName, Cond.native arraycopyName, Cond.static arraycopyName, Cond.initialized "java/lang/System"]
def wsX6_raise_r2 : List Cond := [Cond.fieldLink RX5 15 "SharesDesk$Town" "approvals" "[I", Cond.fieldLink RX5 29 "SharesDesk$Town" "voters" "J", Cond.fieldLink RX5 18 "SharesDesk$Town" "budget" "I", Cond.methodLink RX6 186 yX4_clear, Cond.instanceMethod yX4_clear, Cond.selects RX4 yX4_clear yX4_clear, Cond.initialized RX4, Cond.code yX4_clear cX4_clear 2 none, Cond.fieldLink RX4 11 "SharesDesk$Slip" "owner" "I", Cond.fieldLink RX4 29 "SharesDesk$Slip" "length" "I", Cond.methodLink RX6 102 yX5_allProjects, Cond.instanceMethod yX5_allProjects, Cond.selects RX5 yX5_allProjects yX5_allProjects, Cond.code yX5_allProjects cX5_allProjects 3 (some .int), Cond.methodLink RX6 106 yX5_costOf, Cond.instanceMethod yX5_costOf, Cond.selects RX5 yX5_costOf yX5_costOf, Cond.code yX5_costOf cX5_costOf 4 (some .int), Cond.methodLink RX6 87 yX1_play, Cond.instanceMethod yX1_play, Cond.selects RX1 yX1_play yX1_play, Cond.initialized RX1, Cond.code yX1_play cX1_play 4 none, Cond.fieldLink RX1 59 "SharesDesk$Phase" "picked" "I"]
def wsX6_raise_r3 : List Cond := [Cond.fieldLink RX1 63 "SharesDesk$Phase" "pickedSet" "I", Cond.fieldLink RX1 66 "SharesDesk$Phase" "cost" "I", Cond.fieldLink RX1 51 "SharesDesk$Phase" "town" "LSharesDesk$Town;", Cond.fieldLink RX1 75 "SharesDesk$Phase" "open" "I", Cond.methodLink RX1 55 yX1_fillPurses, Cond.instanceMethod yX1_fillPurses, Cond.selects RX1 yX1_fillPurses yX1_fillPurses, Cond.code yX1_fillPurses cX1_fillPurses 4 none, Cond.fieldLink RX1 12 "SharesDesk$Phase" "base" "LSharesDesk$Natural;", Cond.methodLink RX1 127 Lib.Math.max.name, Cond.static Lib.Math.max.name, Cond.initialized "java/lang/Math", Cond.code Lib.Math.max.name Lib.Math.max.code 2 (some .int), Cond.fieldLink RX1 118 "SharesDesk$Phase" "payerCount" "I", Cond.fieldLink RX1 25 "SharesDesk$Phase" "emptiedIn" "[I", Cond.fieldLink RX1 18 "SharesDesk$Phase" "purses" "[LSharesDesk$Natural;", Cond.fieldLink RX1 92 "SharesDesk$Town" "budget" "I", Cond.fieldLink RX1 29 "SharesDesk$Phase" "payers" "[I", Cond.methodLink RX1 124 yX5_countVoters, Cond.instanceMethod yX5_countVoters, Cond.selects RX5 yX5_countVoters yX5_countVoters, Cond.code yX5_countVoters cX5_countVoters 1 (some .int), Cond.methodLink RX5 33 yJ13_bitCount_95d88, Cond.static yJ13_bitCount_95d88]
def wsX6_raise_r4 : List Cond := [Cond.initialized RJ13, Cond.code yJ13_bitCount_95d88 cJ13_bitCount_95d88 2 (some .int), Cond.constantLong RJ13 314 (6148914691236517205), Cond.constantLong RJ13 316 (3689348814741910323), Cond.constantLong RJ13 318 (1085102592571150095), Cond.methodLink RX1 133 yX0_set, Cond.instanceMethod yX0_set, Cond.selects RX0 yX0_set yX0_set, Cond.initialized RX0, Cond.code yX0_set cX0_set 2 none, Cond.fieldLink RX0 9 "SharesDesk$Natural" "words" "[I", Cond.methodLink RX0 13 yJ7_fill_53178, Cond.static yJ7_fill_53178, Cond.initialized RJ7, Cond.code yJ7_fill_53178 cJ7_fill_53178 4 none, Cond.methodLink RX1 136 yX5_hasVoter, Cond.instanceMethod yX5_hasVoter, Cond.selects RX5 yX5_hasVoter yX5_hasVoter, Cond.code yX5_hasVoter cX5_hasVoter 2 (some .boolean), Cond.static yX6_isVoterNumber, Cond.code yX6_isVoterNumber cX6_isVoterNumber 1 (some .boolean), Cond.methodLink RX1 69 yX5_allProjects, Cond.methodLink RX1 78 yX1_overspends, Cond.instanceMethod yX1_overspends]
def wsX6_raise_r5 : List Cond := [Cond.selects RX1 yX1_overspends yX1_overspends, Cond.code yX1_overspends cX1_overspends 1 (some .boolean), Cond.methodLink RX1 82 yX1_findCheapest, Cond.instanceMethod yX1_findCheapest, Cond.selects RX1 yX1_findCheapest yX1_findCheapest, Cond.code yX1_findCheapest cX1_findCheapest 3 (some .int), Cond.methodLink RX1 140 yX1_findShare, Cond.instanceMethod yX1_findShare, Cond.selects RX1 yX1_findShare yX1_findShare, Cond.code yX1_findShare cX1_findShare 4 (some .boolean), Cond.fieldLink RX1 48 "SharesDesk$Phase" "tried" "LSharesDesk$Share;", Cond.fieldLink RX1 153 "SharesDesk$Share" "rest" "LSharesDesk$Natural;", Cond.fieldLink RX1 112 "SharesDesk$Town" "costs" "[I", Cond.fieldLink RX1 159 "SharesDesk$Share" "payers" "I", Cond.methodLink RX1 108 yX0_copy, Cond.instanceMethod yX0_copy, Cond.selects RX0 yX0_copy yX0_copy, Cond.code yX0_copy cX0_copy 2 none, Cond.methodLink RX0 19 arraycopyName, Cond.methodLink RX1 115 yX0_times, Cond.instanceMethod yX0_times, Cond.selects RX0 yX0_times yX0_times, Cond.code yX0_times cX0_times 7 none, Cond.constantLong RX0 25 (4294967295)]
def wsX6_raise_r6 : List Cond := [Cond.methodLink RX1 156 yX1_countPayers, Cond.instanceMethod yX1_countPayers, Cond.selects RX1 yX1_countPayers yX1_countPayers, Cond.code yX1_countPayers cX1_countPayers 4 (some .int), Cond.methodLink RX1 95 yX5_approves, Cond.instanceMethod yX5_approves, Cond.selects RX5 yX5_approves yX5_approves, Cond.code yX5_approves cX5_approves 3 (some .boolean), Cond.methodLink RX1 161 yX3_isWithin, Cond.instanceMethod yX3_isWithin, Cond.selects RX3 yX3_isWithin yX3_isWithin, Cond.initialized RX3, Cond.code yX3_isWithin cX3_isWithin 2 (some .boolean), Cond.fieldLink RX3 16 "SharesDesk$Share" "left" "LSharesDesk$Natural;", Cond.fieldLink RX3 26 "SharesDesk$Share" "payers" "I", Cond.fieldLink RX3 10 "SharesDesk$Share" "rest" "LSharesDesk$Natural;", Cond.methodLink RX3 22 yX0_copy, Cond.methodLink RX3 30 yX0_times, Cond.methodLink RX3 34 yX0_against, Cond.instanceMethod yX0_against, Cond.selects RX0 yX0_against yX0_against, Cond.code yX0_against cX0_against 3 (some .int), Cond.methodLink RX1 121 yX0_minus, Cond.instanceMethod yX0_minus]
def wsX6_raise_r7 : List Cond := [Cond.selects RX0 yX0_minus yX0_minus, Cond.code yX0_minus cX0_minus 7 none, Cond.methodLink RX1 143 yX1_isBetter, Cond.instanceMethod yX1_isBetter, Cond.selects RX1 yX1_isBetter yX1_isBetter, Cond.code yX1_isBetter cX1_isBetter 4 (some .boolean), Cond.fieldLink RX1 44 "SharesDesk$Phase" "best" "LSharesDesk$Share;", Cond.methodLink RX1 149 yX3_against, Cond.instanceMethod yX3_against, Cond.selects RX3 yX3_against yX3_against, Cond.code yX3_against cX3_against 2 (some .int), Cond.fieldLink RX3 19 "SharesDesk$Share" "right" "LSharesDesk$Natural;", Cond.methodLink RX1 146 yX1_swapShares, Cond.instanceMethod yX1_swapShares, Cond.selects RX1 yX1_swapShares yX1_swapShares, Cond.code yX1_swapShares cX1_swapShares 2 none, Cond.methodLink RX1 85 yX1_pay, Cond.instanceMethod yX1_pay, Cond.selects RX1 yX1_pay yX1_pay, Cond.code yX1_pay cX1_pay 6 none, Cond.fieldLink RX1 38 "SharesDesk$Phase" "bases" "[LSharesDesk$Natural;", Cond.fieldLink RX1 35 "SharesDesk$Phase" "rates" "[LSharesDesk$Natural;", Cond.fieldLink RX1 32 "SharesDesk$Phase" "picks" "[I", Cond.methodLink RX1 165 yX1_charge]
def wsX6_raise_r8 : List Cond := [Cond.instanceMethod yX1_charge, Cond.selects RX1 yX1_charge yX1_charge, Cond.code yX1_charge cX1_charge 3 none, Cond.fieldLink RX1 22 "SharesDesk$Phase" "lastPays" "[LSharesDesk$Natural;", Cond.methodLink RX1 171 yX0_against, Cond.methodLink RX1 168 yX0_isZero, Cond.instanceMethod yX0_isZero, Cond.selects RX0 yX0_isZero yX0_isZero, Cond.code yX0_isZero cX0_isZero 1 (some .boolean), Cond.methodLink RX1 89 yX1_sortPayers, Cond.instanceMethod yX1_sortPayers, Cond.selects RX1 yX1_sortPayers yX1_sortPayers, Cond.code yX1_sortPayers cX1_sortPayers 4 none, Cond.methodLink RX6 110 yX1_overspends, Cond.methodLink RX6 114 yX6_swapPhases, Cond.instanceMethod yX6_swapPhases, Cond.selects RX6 yX6_swapPhases yX6_swapPhases, Cond.code yX6_swapPhases cX6_swapPhases 2 none]
def wsX6_chosen : List Cond := .code yX6_chosen cX6_chosen 2 (some .int) :: ([.fieldLink RX6 45 "SharesDesk" "result" "LSharesDesk$Phase;", .fieldLink RX6 91 "SharesDesk$Phase" "picked" "I", .fieldLink RX6 117 "SharesDesk$Phase" "picks" "[I"] ++ wsX60 ++ wsX10)
def wsX6_spent : List Cond := .code yX6_spent cX6_spent 1 (some .int) :: ([.fieldLink RX6 45 "SharesDesk" "result" "LSharesDesk$Phase;", .fieldLink RX6 120 "SharesDesk$Phase" "cost" "I"] ++ wsX60 ++ wsX10)
def wsX6_purse_r1 : List Cond := [Cond.fieldLink RX6 16 "SharesDesk" "past" "LSharesDesk$Town;", Cond.fieldLink RX6 22 "SharesDesk" "ratio" "LSharesDesk$Ratio;", Cond.fieldLink RX6 45 "SharesDesk" "result" "LSharesDesk$Phase;", Cond.fieldLink RX6 123 "SharesDesk$Phase" "purses" "[LSharesDesk$Natural;", Cond.fieldLink RX6 127 "SharesDesk$Phase" "base" "LSharesDesk$Natural;", Cond.methodLink RX6 72 yX5_hasVoter, Cond.instanceMethod yX5_hasVoter, Cond.selects RX5 yX5_hasVoter yX5_hasVoter, Cond.initialized RX5, Cond.code yX5_hasVoter cX5_hasVoter 2 (some .boolean), Cond.fieldLink RX5 29 "SharesDesk$Town" "voters" "J", Cond.static yX6_isVoterNumber, Cond.initialized RX6, Cond.code yX6_isVoterNumber cX6_isVoterNumber 1 (some .boolean), Cond.methodLink RX6 130 yX2_take, Cond.instanceMethod yX2_take, Cond.selects RX2 yX2_take yX2_take, Cond.initialized RX2, Cond.code yX2_take cX2_take 7 none, Cond.fieldLink RX2 10 "SharesDesk$Ratio" "top" "LSharesDesk$Natural;", Cond.fieldLink RX2 16 "SharesDesk$Ratio" "bottom" "LSharesDesk$Natural;", Cond.fieldLink RX2 34 "SharesDesk$Ratio" "PRIMES" "[I", Cond.methodLink RX2 23 yX0_isZero, Cond.instanceMethod yX0_isZero]
def wsX6_purse_r2 : List Cond := [Cond.selects RX0 yX0_isZero yX0_isZero, Cond.initialized RX0, Cond.code yX0_isZero cX0_isZero 1 (some .boolean), Cond.fieldLink RX0 9 "SharesDesk$Natural" "words" "[I", Cond.methodLink RX2 27 yX2_takeZero, Cond.instanceMethod yX2_takeZero, Cond.selects RX2 yX2_takeZero yX2_takeZero, Cond.code yX2_takeZero cX2_takeZero 1 none, Cond.methodLink RX2 19 yX0_set, Cond.instanceMethod yX0_set, Cond.selects RX0 yX0_set yX0_set, Cond.code yX0_set cX0_set 2 none, Cond.methodLink RX0 13 yJ7_fill_53178, Cond.static yJ7_fill_53178, Cond.initialized RJ7, Cond.code yJ7_fill_53178 cJ7_fill_53178 4 none, Cond.methodLink RX2 30 yX0_copy, Cond.instanceMethod yX0_copy, Cond.selects RX0 yX0_copy yX0_copy, Cond.code yX0_copy cX0_copy 2 none, Cond.methodLink RX0 19 arraycopyName, Cond.native arraycopyName, Cond.static arraycopyName, Cond.initialized "java/lang/System"]
def wsX6_purse_r3 : List Cond := [Cond.methodLink RX2 38 yX2_cancel, Cond.instanceMethod yX2_cancel, Cond.selects RX2 yX2_cancel yX2_cancel, Cond.code yX2_cancel cX2_cancel 3 none, Cond.methodLink RX2 45 yX0_modulo, Cond.instanceMethod yX0_modulo, Cond.selects RX0 yX0_modulo yX0_modulo, Cond.code yX0_modulo cX0_modulo 5 (some .int), Cond.constantLong RX0 25 (4294967295), Cond.methodLink RX2 48 yX0_divide, Cond.instanceMethod yX0_divide, Cond.selects RX0 yX0_divide yX0_divide, Cond.code yX0_divide cX0_divide 7 (some .int), Cond.methodLink RX6 134 yX2_wordOf, Cond.instanceMethod yX2_wordOf, Cond.selects RX2 yX2_wordOf yX2_wordOf, Cond.code yX2_wordOf cX2_wordOf 3 (some .int), Cond.methodLink RX2 41 yX0_wordAt, Cond.instanceMethod yX0_wordAt, Cond.selects RX0 yX0_wordAt yX0_wordAt, Cond.code yX0_wordAt cX0_wordAt 2 (some .int)]
def wsX6_purse : List Cond := .code yX6_purse cX6_purse 4 (some .int) :: ((wsX6_purse_r1 ++ (wsX6_purse_r2 ++ wsX6_purse_r3)) ++ wsX60 ++ wsX10 ++ wsX50 ++ wsX20 ++ wsX00)
def wsX6_paid_r1 : List Cond := [Cond.fieldLink RX6 16 "SharesDesk" "past" "LSharesDesk$Town;", Cond.fieldLink RX6 45 "SharesDesk" "result" "LSharesDesk$Phase;", Cond.fieldLink RX6 22 "SharesDesk" "ratio" "LSharesDesk$Ratio;", Cond.fieldLink RX6 148 "SharesDesk$Phase" "bases" "[LSharesDesk$Natural;", Cond.methodLink RX6 72 yX5_hasVoter, Cond.instanceMethod yX5_hasVoter, Cond.selects RX5 yX5_hasVoter yX5_hasVoter, Cond.initialized RX5, Cond.code yX5_hasVoter cX5_hasVoter 2 (some .boolean), Cond.fieldLink RX5 29 "SharesDesk$Town" "voters" "J", Cond.static yX6_isVoterNumber, Cond.initialized RX6, Cond.code yX6_isVoterNumber cX6_isVoterNumber 1 (some .boolean), Cond.methodLink RX6 138 yX1_roundOf, Cond.instanceMethod yX1_roundOf, Cond.selects RX1 yX1_roundOf yX1_roundOf, Cond.initialized RX1, Cond.code yX1_roundOf cX1_roundOf 3 (some .int), Cond.fieldLink RX1 59 "SharesDesk$Phase" "picked" "I", Cond.fieldLink RX1 32 "SharesDesk$Phase" "picks" "[I", Cond.methodLink RX6 141 yX1_payment, Cond.instanceMethod yX1_payment, Cond.selects RX1 yX1_payment yX1_payment, Cond.code yX1_payment cX1_payment 3 (some (.object "SharesDesk$Natural"))]
def wsX6_paid_r2 : List Cond := [Cond.fieldLink RX1 25 "SharesDesk$Phase" "emptiedIn" "[I", Cond.fieldLink RX1 51 "SharesDesk$Phase" "town" "LSharesDesk$Town;", Cond.fieldLink RX1 22 "SharesDesk$Phase" "lastPays" "[LSharesDesk$Natural;", Cond.fieldLink RX1 35 "SharesDesk$Phase" "rates" "[LSharesDesk$Natural;", Cond.methodLink RX1 95 yX5_approves, Cond.instanceMethod yX5_approves, Cond.selects RX5 yX5_approves yX5_approves, Cond.code yX5_approves cX5_approves 3 (some .boolean), Cond.fieldLink RX5 15 "SharesDesk$Town" "approvals" "[I", Cond.methodLink RX6 145 yX2_takeZero, Cond.instanceMethod yX2_takeZero, Cond.selects RX2 yX2_takeZero yX2_takeZero, Cond.initialized RX2, Cond.code yX2_takeZero cX2_takeZero 1 none, Cond.fieldLink RX2 10 "SharesDesk$Ratio" "top" "LSharesDesk$Natural;", Cond.fieldLink RX2 16 "SharesDesk$Ratio" "bottom" "LSharesDesk$Natural;", Cond.methodLink RX2 19 yX0_set, Cond.instanceMethod yX0_set, Cond.selects RX0 yX0_set yX0_set, Cond.initialized RX0, Cond.code yX0_set cX0_set 2 none, Cond.fieldLink RX0 9 "SharesDesk$Natural" "words" "[I", Cond.methodLink RX0 13 yJ7_fill_53178, Cond.static yJ7_fill_53178]
def wsX6_paid_r3 : List Cond := [Cond.initialized RJ7, Cond.code yJ7_fill_53178 cJ7_fill_53178 4 none, Cond.methodLink RX6 130 yX2_take, Cond.instanceMethod yX2_take, Cond.selects RX2 yX2_take yX2_take, Cond.code yX2_take cX2_take 7 none, Cond.fieldLink RX2 34 "SharesDesk$Ratio" "PRIMES" "[I", Cond.methodLink RX2 23 yX0_isZero, Cond.instanceMethod yX0_isZero, Cond.selects RX0 yX0_isZero yX0_isZero, Cond.code yX0_isZero cX0_isZero 1 (some .boolean), Cond.methodLink RX2 27 yX2_takeZero, Cond.methodLink RX2 30 yX0_copy, Cond.instanceMethod yX0_copy, Cond.selects RX0 yX0_copy yX0_copy, Cond.code yX0_copy cX0_copy 2 none, Cond.methodLink RX0 19 arraycopyName, Cond.native arraycopyName, Cond.static arraycopyName, Cond.initialized "java/lang/System", Cond.methodLink RX2 38 yX2_cancel, Cond.instanceMethod yX2_cancel, Cond.selects RX2 yX2_cancel yX2_cancel, Cond.code yX2_cancel cX2_cancel 3 none]
def wsX6_paid_r4 : List Cond := [Cond.methodLink RX2 45 yX0_modulo, Cond.instanceMethod yX0_modulo, Cond.selects RX0 yX0_modulo yX0_modulo, Cond.code yX0_modulo cX0_modulo 5 (some .int), Cond.constantLong RX0 25 (4294967295), Cond.methodLink RX2 48 yX0_divide, Cond.instanceMethod yX0_divide, Cond.selects RX0 yX0_divide yX0_divide, Cond.code yX0_divide cX0_divide 7 (some .int), Cond.methodLink RX6 134 yX2_wordOf, Cond.instanceMethod yX2_wordOf, Cond.selects RX2 yX2_wordOf yX2_wordOf, Cond.code yX2_wordOf cX2_wordOf 3 (some .int), Cond.methodLink RX2 41 yX0_wordAt, Cond.instanceMethod yX0_wordAt, Cond.selects RX0 yX0_wordAt yX0_wordAt, Cond.code yX0_wordAt cX0_wordAt 2 (some .int)]
def wsX6_paid : List Cond := .code yX6_paid cX6_paid 7 (some .int) :: ((wsX6_paid_r1 ++ (wsX6_paid_r2 ++ (wsX6_paid_r3 ++ wsX6_paid_r4))) ++ wsX60 ++ wsX10 ++ wsX50 ++ wsX20 ++ wsX00)
def wsX6_rate_r1 : List Cond := [Cond.fieldLink RX6 45 "SharesDesk" "result" "LSharesDesk$Phase;", Cond.fieldLink RX6 22 "SharesDesk" "ratio" "LSharesDesk$Ratio;", Cond.fieldLink RX6 151 "SharesDesk$Phase" "rates" "[LSharesDesk$Natural;", Cond.fieldLink RX6 148 "SharesDesk$Phase" "bases" "[LSharesDesk$Natural;", Cond.methodLink RX6 138 yX1_roundOf, Cond.instanceMethod yX1_roundOf, Cond.selects RX1 yX1_roundOf yX1_roundOf, Cond.initialized RX1, Cond.code yX1_roundOf cX1_roundOf 3 (some .int), Cond.fieldLink RX1 59 "SharesDesk$Phase" "picked" "I", Cond.fieldLink RX1 32 "SharesDesk$Phase" "picks" "[I", Cond.methodLink RX6 130 yX2_take, Cond.instanceMethod yX2_take, Cond.selects RX2 yX2_take yX2_take, Cond.initialized RX2, Cond.code yX2_take cX2_take 7 none, Cond.fieldLink RX2 10 "SharesDesk$Ratio" "top" "LSharesDesk$Natural;", Cond.fieldLink RX2 16 "SharesDesk$Ratio" "bottom" "LSharesDesk$Natural;", Cond.fieldLink RX2 34 "SharesDesk$Ratio" "PRIMES" "[I", Cond.methodLink RX2 23 yX0_isZero, Cond.instanceMethod yX0_isZero, Cond.selects RX0 yX0_isZero yX0_isZero, Cond.initialized RX0, Cond.code yX0_isZero cX0_isZero 1 (some .boolean)]
def wsX6_rate_r2 : List Cond := [Cond.fieldLink RX0 9 "SharesDesk$Natural" "words" "[I", Cond.methodLink RX2 27 yX2_takeZero, Cond.instanceMethod yX2_takeZero, Cond.selects RX2 yX2_takeZero yX2_takeZero, Cond.code yX2_takeZero cX2_takeZero 1 none, Cond.methodLink RX2 19 yX0_set, Cond.instanceMethod yX0_set, Cond.selects RX0 yX0_set yX0_set, Cond.code yX0_set cX0_set 2 none, Cond.methodLink RX0 13 yJ7_fill_53178, Cond.static yJ7_fill_53178, Cond.initialized RJ7, Cond.code yJ7_fill_53178 cJ7_fill_53178 4 none, Cond.methodLink RX2 30 yX0_copy, Cond.instanceMethod yX0_copy, Cond.selects RX0 yX0_copy yX0_copy, Cond.code yX0_copy cX0_copy 2 none, Cond.methodLink RX0 19 arraycopyName, Cond.native arraycopyName, Cond.static arraycopyName, Cond.initialized "java/lang/System", Cond.methodLink RX2 38 yX2_cancel, Cond.instanceMethod yX2_cancel, Cond.selects RX2 yX2_cancel yX2_cancel]
def wsX6_rate_r3 : List Cond := [Cond.code yX2_cancel cX2_cancel 3 none, Cond.methodLink RX2 45 yX0_modulo, Cond.instanceMethod yX0_modulo, Cond.selects RX0 yX0_modulo yX0_modulo, Cond.code yX0_modulo cX0_modulo 5 (some .int), Cond.constantLong RX0 25 (4294967295), Cond.methodLink RX2 48 yX0_divide, Cond.instanceMethod yX0_divide, Cond.selects RX0 yX0_divide yX0_divide, Cond.code yX0_divide cX0_divide 7 (some .int), Cond.methodLink RX6 134 yX2_wordOf, Cond.instanceMethod yX2_wordOf, Cond.selects RX2 yX2_wordOf yX2_wordOf, Cond.code yX2_wordOf cX2_wordOf 3 (some .int), Cond.methodLink RX2 41 yX0_wordAt, Cond.instanceMethod yX0_wordAt, Cond.selects RX0 yX0_wordAt yX0_wordAt, Cond.code yX0_wordAt cX0_wordAt 2 (some .int)]
def wsX6_rate : List Cond := .code yX6_rate cX6_rate 5 (some .int) :: ((wsX6_rate_r1 ++ (wsX6_rate_r2 ++ wsX6_rate_r3)) ++ wsX60 ++ wsX10 ++ wsX20 ++ wsX00)
def wsX6_missing_r1 : List Cond := [Cond.fieldLink RX6 16 "SharesDesk" "past" "LSharesDesk$Town;", Cond.fieldLink RX6 45 "SharesDesk" "result" "LSharesDesk$Phase;", Cond.fieldLink RX6 29 "SharesDesk" "lack" "LSharesDesk$Natural;", Cond.fieldLink RX6 22 "SharesDesk" "ratio" "LSharesDesk$Ratio;", Cond.fieldLink RX6 127 "SharesDesk$Phase" "base" "LSharesDesk$Natural;", Cond.methodLink RX6 61 yX5_hasProject, Cond.instanceMethod yX5_hasProject, Cond.selects RX5 yX5_hasProject yX5_hasProject, Cond.initialized RX5, Cond.code yX5_hasProject cX5_hasProject 2 (some .boolean), Cond.fieldLink RX5 9 "SharesDesk$Town" "costs" "[I", Cond.static yX6_isProjectNumber, Cond.initialized RX6, Cond.code yX6_isProjectNumber cX6_isProjectNumber 1 (some .boolean), Cond.methodLink RX6 138 yX1_roundOf, Cond.instanceMethod yX1_roundOf, Cond.selects RX1 yX1_roundOf yX1_roundOf, Cond.initialized RX1, Cond.code yX1_roundOf cX1_roundOf 3 (some .int), Cond.fieldLink RX1 59 "SharesDesk$Phase" "picked" "I", Cond.fieldLink RX1 32 "SharesDesk$Phase" "picks" "[I", Cond.methodLink RX6 154 yX1_measureLack, Cond.instanceMethod yX1_measureLack, Cond.selects RX1 yX1_measureLack yX1_measureLack]
def wsX6_missing_r2 : List Cond := [Cond.code yX1_measureLack cX1_measureLack 4 none, Cond.fieldLink RX1 12 "SharesDesk$Phase" "base" "LSharesDesk$Natural;", Cond.fieldLink RX1 51 "SharesDesk$Phase" "town" "LSharesDesk$Town;", Cond.fieldLink RX1 112 "SharesDesk$Town" "costs" "[I", Cond.fieldLink RX1 118 "SharesDesk$Phase" "payerCount" "I", Cond.fieldLink RX1 29 "SharesDesk$Phase" "payers" "[I", Cond.fieldLink RX1 18 "SharesDesk$Phase" "purses" "[LSharesDesk$Natural;", Cond.methodLink RX1 108 yX0_copy, Cond.instanceMethod yX0_copy, Cond.selects RX0 yX0_copy yX0_copy, Cond.initialized RX0, Cond.code yX0_copy cX0_copy 2 none, Cond.fieldLink RX0 9 "SharesDesk$Natural" "words" "[I", Cond.methodLink RX0 19 arraycopyName, Cond.native arraycopyName, Cond.static arraycopyName, Cond.initialized "java/lang/System", Cond.methodLink RX1 115 yX0_times, Cond.instanceMethod yX0_times, Cond.selects RX0 yX0_times yX0_times, Cond.code yX0_times cX0_times 7 none, Cond.constantLong RX0 25 (4294967295), Cond.methodLink RX1 95 yX5_approves, Cond.instanceMethod yX5_approves]
def wsX6_missing_r3 : List Cond := [Cond.selects RX5 yX5_approves yX5_approves, Cond.code yX5_approves cX5_approves 3 (some .boolean), Cond.fieldLink RX5 15 "SharesDesk$Town" "approvals" "[I", Cond.methodLink RX1 121 yX0_minus, Cond.instanceMethod yX0_minus, Cond.selects RX0 yX0_minus yX0_minus, Cond.code yX0_minus cX0_minus 7 none, Cond.methodLink RX6 130 yX2_take, Cond.instanceMethod yX2_take, Cond.selects RX2 yX2_take yX2_take, Cond.initialized RX2, Cond.code yX2_take cX2_take 7 none, Cond.fieldLink RX2 10 "SharesDesk$Ratio" "top" "LSharesDesk$Natural;", Cond.fieldLink RX2 16 "SharesDesk$Ratio" "bottom" "LSharesDesk$Natural;", Cond.fieldLink RX2 34 "SharesDesk$Ratio" "PRIMES" "[I", Cond.methodLink RX2 23 yX0_isZero, Cond.instanceMethod yX0_isZero, Cond.selects RX0 yX0_isZero yX0_isZero, Cond.code yX0_isZero cX0_isZero 1 (some .boolean), Cond.methodLink RX2 27 yX2_takeZero, Cond.instanceMethod yX2_takeZero, Cond.selects RX2 yX2_takeZero yX2_takeZero, Cond.code yX2_takeZero cX2_takeZero 1 none, Cond.methodLink RX2 19 yX0_set]
def wsX6_missing_r4 : List Cond := [Cond.instanceMethod yX0_set, Cond.selects RX0 yX0_set yX0_set, Cond.code yX0_set cX0_set 2 none, Cond.methodLink RX0 13 yJ7_fill_53178, Cond.static yJ7_fill_53178, Cond.initialized RJ7, Cond.code yJ7_fill_53178 cJ7_fill_53178 4 none, Cond.methodLink RX2 30 yX0_copy, Cond.methodLink RX2 38 yX2_cancel, Cond.instanceMethod yX2_cancel, Cond.selects RX2 yX2_cancel yX2_cancel, Cond.code yX2_cancel cX2_cancel 3 none, Cond.methodLink RX2 45 yX0_modulo, Cond.instanceMethod yX0_modulo, Cond.selects RX0 yX0_modulo yX0_modulo, Cond.code yX0_modulo cX0_modulo 5 (some .int), Cond.methodLink RX2 48 yX0_divide, Cond.instanceMethod yX0_divide, Cond.selects RX0 yX0_divide yX0_divide, Cond.code yX0_divide cX0_divide 7 (some .int), Cond.methodLink RX6 134 yX2_wordOf, Cond.instanceMethod yX2_wordOf, Cond.selects RX2 yX2_wordOf yX2_wordOf, Cond.code yX2_wordOf cX2_wordOf 3 (some .int)]
def wsX6_missing_r5 : List Cond := [Cond.methodLink RX2 41 yX0_wordAt, Cond.instanceMethod yX0_wordAt, Cond.selects RX0 yX0_wordAt yX0_wordAt, Cond.code yX0_wordAt cX0_wordAt 2 (some .int)]
def wsX6_missing : List Cond := .code yX6_missing cX6_missing 4 (some .int) :: ((wsX6_missing_r1 ++ (wsX6_missing_r2 ++ (wsX6_missing_r3 ++ (wsX6_missing_r4 ++ wsX6_missing_r5)))) ++ wsX60 ++ wsX10 ++ wsX50 ++ wsX00 ++ wsX20)
def wsX6_served_r1 : List Cond := [Cond.fieldLink RX6 16 "SharesDesk" "past" "LSharesDesk$Town;", Cond.fieldLink RX6 45 "SharesDesk" "result" "LSharesDesk$Phase;", Cond.methodLink RX6 72 yX5_hasVoter, Cond.instanceMethod yX5_hasVoter, Cond.selects RX5 yX5_hasVoter yX5_hasVoter, Cond.initialized RX5, Cond.code yX5_hasVoter cX5_hasVoter 2 (some .boolean), Cond.fieldLink RX5 29 "SharesDesk$Town" "voters" "J", Cond.static yX6_isVoterNumber, Cond.initialized RX6, Cond.code yX6_isVoterNumber cX6_isVoterNumber 1 (some .boolean), Cond.methodLink RX6 158 yX1_countServed, Cond.instanceMethod yX1_countServed, Cond.selects RX1 yX1_countServed yX1_countServed, Cond.initialized RX1, Cond.code yX1_countServed cX1_countServed 2 (some .int), Cond.fieldLink RX1 51 "SharesDesk$Phase" "town" "LSharesDesk$Town;", Cond.fieldLink RX1 99 "SharesDesk$Town" "approvals" "[I", Cond.fieldLink RX1 63 "SharesDesk$Phase" "pickedSet" "I", Cond.methodLink RX1 102 yJ6_bitCount_0f7a4, Cond.static yJ6_bitCount_0f7a4, Cond.initialized RJ6, Cond.code yJ6_bitCount_0f7a4 cJ6_bitCount_0f7a4 1 (some .int), Cond.constant RJ6 265 (1431655765)]
def wsX6_served_r2 : List Cond := [Cond.constant RJ6 266 (858993459), Cond.constant RJ6 267 (252645135)]
def wsX6_served : List Cond := .code yX6_served cX6_served 2 (some .int) :: ((wsX6_served_r1 ++ wsX6_served_r2) ++ wsX60 ++ wsX50 ++ wsX10)
def wsX6_deservesMore_r1 : List Cond := [Cond.fieldLink RX6 16 "SharesDesk" "past" "LSharesDesk$Town;", Cond.fieldLink RX6 79 "SharesDesk$Town" "approvals" "[I", Cond.fieldLink RX6 45 "SharesDesk" "result" "LSharesDesk$Phase;", Cond.fieldLink RX6 65 "SharesDesk$Town" "budget" "I", Cond.methodLink RX6 72 yX5_hasVoter, Cond.instanceMethod yX5_hasVoter, Cond.selects RX5 yX5_hasVoter yX5_hasVoter, Cond.initialized RX5, Cond.code yX5_hasVoter cX5_hasVoter 2 (some .boolean), Cond.fieldLink RX5 29 "SharesDesk$Town" "voters" "J", Cond.static yX6_isVoterNumber, Cond.initialized RX6, Cond.code yX6_isVoterNumber cX6_isVoterNumber 1 (some .boolean), Cond.methodLink RX6 158 yX1_countServed, Cond.instanceMethod yX1_countServed, Cond.selects RX1 yX1_countServed yX1_countServed, Cond.initialized RX1, Cond.code yX1_countServed cX1_countServed 2 (some .int), Cond.fieldLink RX1 51 "SharesDesk$Phase" "town" "LSharesDesk$Town;", Cond.fieldLink RX1 99 "SharesDesk$Town" "approvals" "[I", Cond.fieldLink RX1 63 "SharesDesk$Phase" "pickedSet" "I", Cond.methodLink RX1 102 yJ6_bitCount_0f7a4, Cond.static yJ6_bitCount_0f7a4, Cond.initialized RJ6]
def wsX6_deservesMore_r2 : List Cond := [Cond.code yJ6_bitCount_0f7a4 cJ6_bitCount_0f7a4 1 (some .int), Cond.constant RJ6 265 (1431655765), Cond.constant RJ6 266 (858993459), Cond.constant RJ6 267 (252645135), Cond.methodLink RX6 106 yX5_costOf, Cond.instanceMethod yX5_costOf, Cond.selects RX5 yX5_costOf yX5_costOf, Cond.code yX5_costOf cX5_costOf 4 (some .int), Cond.fieldLink RX5 9 "SharesDesk$Town" "costs" "[I"]
def wsX6_deservesMore : List Cond := .code yX6_deservesMore cX6_deservesMore 6 (some .boolean) :: ((wsX6_deservesMore_r1 ++ wsX6_deservesMore_r2) ++ wsX60 ++ wsX50 ++ wsX10)
def wsJ6_numberOfTrailingZeros_0f7a4 : List Cond := .code yJ6_numberOfTrailingZeros_0f7a4 cJ6_numberOfTrailingZeros_0f7a4 2 (some .int) :: ([.constant RJ6 264 (65536)])
def wsX6_nextOfSameSize : List Cond := .code yX6_nextOfSameSize cX6_nextOfSameSize 3 (some .int) :: ([.methodLink RX6 189 yJ6_numberOfTrailingZeros_0f7a4, .static yJ6_numberOfTrailingZeros_0f7a4, .initialized RJ6, .code yJ6_numberOfTrailingZeros_0f7a4 cJ6_numberOfTrailingZeros_0f7a4 2 (some .int), .constant RJ6 264 (65536)])
def wsX6_passedOver_r1 : List Cond := [Cond.classLink RX6 95 "java/lang/IllegalArgumentException", Cond.initialized "java/lang/IllegalArgumentException", Cond.fieldLink RX6 16 "SharesDesk" "past" "LSharesDesk$Town;", Cond.constant RX6 166 (65536), Cond.methodLink RX6 163 yX5_countVoters, Cond.instanceMethod yX5_countVoters, Cond.selects RX5 yX5_countVoters yX5_countVoters, Cond.initialized RX5, Cond.code yX5_countVoters cX5_countVoters 1 (some .int), Cond.fieldLink RX5 29 "SharesDesk$Town" "voters" "J", Cond.methodLink RX5 33 yJ13_bitCount_95d88, Cond.static yJ13_bitCount_95d88, Cond.initialized RJ13, Cond.code yJ13_bitCount_95d88 cJ13_bitCount_95d88 2 (some .int), Cond.constantLong RJ13 314 (6148914691236517205), Cond.constantLong RJ13 316 (3689348814741910323), Cond.constantLong RJ13 318 (1085102592571150095), Cond.methodLink RX6 102 yX5_allProjects, Cond.instanceMethod yX5_allProjects, Cond.selects RX5 yX5_allProjects yX5_allProjects, Cond.code yX5_allProjects cX5_allProjects 3 (some .int), Cond.fieldLink RX5 9 "SharesDesk$Town" "costs" "[I", Cond.methodLink RX6 167 yX6_deservesMore, Cond.instanceMethod yX6_deservesMore]
def wsX6_passedOver_r2 : List Cond := [Cond.selects RX6 yX6_deservesMore yX6_deservesMore, Cond.initialized RX6, Cond.code yX6_deservesMore cX6_deservesMore 6 (some .boolean), Cond.fieldLink RX6 79 "SharesDesk$Town" "approvals" "[I", Cond.fieldLink RX6 45 "SharesDesk" "result" "LSharesDesk$Phase;", Cond.fieldLink RX6 65 "SharesDesk$Town" "budget" "I", Cond.methodLink RX6 72 yX5_hasVoter, Cond.instanceMethod yX5_hasVoter, Cond.selects RX5 yX5_hasVoter yX5_hasVoter, Cond.code yX5_hasVoter cX5_hasVoter 2 (some .boolean), Cond.static yX6_isVoterNumber, Cond.code yX6_isVoterNumber cX6_isVoterNumber 1 (some .boolean), Cond.methodLink RX6 158 yX1_countServed, Cond.instanceMethod yX1_countServed, Cond.selects RX1 yX1_countServed yX1_countServed, Cond.initialized RX1, Cond.code yX1_countServed cX1_countServed 2 (some .int), Cond.fieldLink RX1 51 "SharesDesk$Phase" "town" "LSharesDesk$Town;", Cond.fieldLink RX1 99 "SharesDesk$Town" "approvals" "[I", Cond.fieldLink RX1 63 "SharesDesk$Phase" "pickedSet" "I", Cond.methodLink RX1 102 yJ6_bitCount_0f7a4, Cond.static yJ6_bitCount_0f7a4, Cond.initialized RJ6, Cond.code yJ6_bitCount_0f7a4 cJ6_bitCount_0f7a4 1 (some .int)]
def wsX6_passedOver_r3 : List Cond := [Cond.constant RJ6 265 (1431655765), Cond.constant RJ6 266 (858993459), Cond.constant RJ6 267 (252645135), Cond.methodLink RX6 106 yX5_costOf, Cond.instanceMethod yX5_costOf, Cond.selects RX5 yX5_costOf yX5_costOf, Cond.code yX5_costOf cX5_costOf 4 (some .int), Cond.methodLink RX6 171 yX6_nextOfSameSize, Cond.static yX6_nextOfSameSize, Cond.code yX6_nextOfSameSize cX6_nextOfSameSize 3 (some .int), Cond.methodLink RX6 189 yJ6_numberOfTrailingZeros_0f7a4, Cond.static yJ6_numberOfTrailingZeros_0f7a4, Cond.code yJ6_numberOfTrailingZeros_0f7a4 cJ6_numberOfTrailingZeros_0f7a4 2 (some .int), Cond.constant RJ6 264 (65536)]
def wsX6_writeSlip_r1 : List Cond := [Cond.fieldLink RX6 36 "SharesDesk" "slip" "LSharesDesk$Slip;", Cond.fieldLink RX6 45 "SharesDesk" "result" "LSharesDesk$Phase;", Cond.fieldLink RX6 91 "SharesDesk$Phase" "picked" "I", Cond.fieldLink RX6 22 "SharesDesk" "ratio" "LSharesDesk$Ratio;", Cond.fieldLink RX6 148 "SharesDesk$Phase" "bases" "[LSharesDesk$Natural;", Cond.fieldLink RX6 117 "SharesDesk$Phase" "picks" "[I", Cond.fieldLink RX6 123 "SharesDesk$Phase" "purses" "[LSharesDesk$Natural;", Cond.fieldLink RX6 127 "SharesDesk$Phase" "base" "LSharesDesk$Natural;", Cond.methodLink RX6 186 yX4_clear, Cond.instanceMethod yX4_clear, Cond.selects RX4 yX4_clear yX4_clear, Cond.initialized RX4, Cond.code yX4_clear cX4_clear 2 none, Cond.fieldLink RX4 11 "SharesDesk$Slip" "owner" "I", Cond.fieldLink RX4 29 "SharesDesk$Slip" "length" "I", Cond.methodLink RX6 141 yX1_payment, Cond.instanceMethod yX1_payment, Cond.selects RX1 yX1_payment yX1_payment, Cond.initialized RX1, Cond.code yX1_payment cX1_payment 3 (some (.object "SharesDesk$Natural")), Cond.fieldLink RX1 25 "SharesDesk$Phase" "emptiedIn" "[I", Cond.fieldLink RX1 51 "SharesDesk$Phase" "town" "LSharesDesk$Town;", Cond.fieldLink RX1 32 "SharesDesk$Phase" "picks" "[I", Cond.fieldLink RX1 22 "SharesDesk$Phase" "lastPays" "[LSharesDesk$Natural;"]
def wsX6_writeSlip_r2 : List Cond := [Cond.fieldLink RX1 35 "SharesDesk$Phase" "rates" "[LSharesDesk$Natural;", Cond.methodLink RX1 95 yX5_approves, Cond.instanceMethod yX5_approves, Cond.selects RX5 yX5_approves yX5_approves, Cond.initialized RX5, Cond.code yX5_approves cX5_approves 3 (some .boolean), Cond.fieldLink RX5 15 "SharesDesk$Town" "approvals" "[I", Cond.methodLink RX6 130 yX2_take, Cond.instanceMethod yX2_take, Cond.selects RX2 yX2_take yX2_take, Cond.initialized RX2, Cond.code yX2_take cX2_take 7 none, Cond.fieldLink RX2 10 "SharesDesk$Ratio" "top" "LSharesDesk$Natural;", Cond.fieldLink RX2 16 "SharesDesk$Ratio" "bottom" "LSharesDesk$Natural;", Cond.fieldLink RX2 34 "SharesDesk$Ratio" "PRIMES" "[I", Cond.methodLink RX2 23 yX0_isZero, Cond.instanceMethod yX0_isZero, Cond.selects RX0 yX0_isZero yX0_isZero, Cond.initialized RX0, Cond.code yX0_isZero cX0_isZero 1 (some .boolean), Cond.fieldLink RX0 9 "SharesDesk$Natural" "words" "[I", Cond.methodLink RX2 27 yX2_takeZero, Cond.instanceMethod yX2_takeZero, Cond.selects RX2 yX2_takeZero yX2_takeZero]
def wsX6_writeSlip_r3 : List Cond := [Cond.code yX2_takeZero cX2_takeZero 1 none, Cond.methodLink RX2 19 yX0_set, Cond.instanceMethod yX0_set, Cond.selects RX0 yX0_set yX0_set, Cond.code yX0_set cX0_set 2 none, Cond.methodLink RX0 13 yJ7_fill_53178, Cond.static yJ7_fill_53178, Cond.initialized RJ7, Cond.code yJ7_fill_53178 cJ7_fill_53178 4 none, Cond.methodLink RX2 30 yX0_copy, Cond.instanceMethod yX0_copy, Cond.selects RX0 yX0_copy yX0_copy, Cond.code yX0_copy cX0_copy 2 none, Cond.methodLink RX0 19 arraycopyName, Cond.native arraycopyName, Cond.static arraycopyName, Cond.initialized "java/lang/System", Cond.methodLink RX2 38 yX2_cancel, Cond.instanceMethod yX2_cancel, Cond.selects RX2 yX2_cancel yX2_cancel, Cond.code yX2_cancel cX2_cancel 3 none, Cond.methodLink RX2 45 yX0_modulo, Cond.instanceMethod yX0_modulo, Cond.selects RX0 yX0_modulo yX0_modulo]
def wsX6_writeSlip_r4 : List Cond := [Cond.code yX0_modulo cX0_modulo 5 (some .int), Cond.constantLong RX0 25 (4294967295), Cond.methodLink RX2 48 yX0_divide, Cond.instanceMethod yX0_divide, Cond.selects RX0 yX0_divide yX0_divide, Cond.code yX0_divide cX0_divide 7 (some .int), Cond.methodLink RX6 194 yX4_putProject, Cond.instanceMethod yX4_putProject, Cond.selects RX4 yX4_putProject yX4_putProject, Cond.code yX4_putProject cX4_putProject 2 none, Cond.methodLink RX4 32 yX4_put, Cond.instanceMethod yX4_put, Cond.selects RX4 yX4_put yX4_put, Cond.code yX4_put cX4_put 2 none, Cond.fieldLink RX4 17 "SharesDesk$Slip" "text" "[C", Cond.methodLink RX6 197 yX4_putRatio, Cond.instanceMethod yX4_putRatio, Cond.selects RX4 yX4_putRatio yX4_putRatio, Cond.code yX4_putRatio cX4_putRatio 2 none, Cond.fieldLink RX4 36 "SharesDesk$Ratio" "top" "LSharesDesk$Natural;", Cond.fieldLink RX4 45 "SharesDesk$Ratio" "bottom" "LSharesDesk$Natural;", Cond.methodLink RX4 41 yX4_putNatural, Cond.instanceMethod yX4_putNatural, Cond.selects RX4 yX4_putNatural yX4_putNatural]
def wsX6_writeSlip_r5 : List Cond := [Cond.code yX4_putNatural cX4_putNatural 4 none, Cond.fieldLink RX4 25 "SharesDesk$Slip" "rest" "LSharesDesk$Natural;", Cond.fieldLink RX4 21 "SharesDesk$Slip" "digits" "[C", Cond.methodLink RX4 52 yX0_copy, Cond.methodLink RX4 55 yX0_divide, Cond.methodLink RX4 59 yX0_isZero, Cond.methodLink RX4 48 yX0_isOne, Cond.instanceMethod yX0_isOne, Cond.selects RX0 yX0_isOne yX0_isOne, Cond.code yX0_isOne cX0_isOne 1 (some .boolean), Cond.methodLink RX6 201 yX4_put]
def wsX6_writeSlip : List Cond := .code yX6_writeSlip cX6_writeSlip 4 none :: ((wsX6_writeSlip_r1 ++ (wsX6_writeSlip_r2 ++ (wsX6_writeSlip_r3 ++ (wsX6_writeSlip_r4 ++ wsX6_writeSlip_r5)))) ++ wsX60 ++ wsX10 ++ wsX40 ++ wsX50 ++ wsX20 ++ wsX00)
def wsX6_receipt_r1 : List Cond := [Cond.fieldLink RX6 16 "SharesDesk" "past" "LSharesDesk$Town;", Cond.fieldLink RX6 36 "SharesDesk" "slip" "LSharesDesk$Slip;", Cond.fieldLink RX6 174 "SharesDesk$Slip" "owner" "I", Cond.methodLink RX6 72 yX5_hasVoter, Cond.instanceMethod yX5_hasVoter, Cond.selects RX5 yX5_hasVoter yX5_hasVoter, Cond.initialized RX5, Cond.code yX5_hasVoter cX5_hasVoter 2 (some .boolean), Cond.fieldLink RX5 29 "SharesDesk$Town" "voters" "J", Cond.static yX6_isVoterNumber, Cond.initialized RX6, Cond.code yX6_isVoterNumber cX6_isVoterNumber 1 (some .boolean), Cond.methodLink RX6 177 yX6_writeSlip, Cond.instanceMethod yX6_writeSlip, Cond.selects RX6 yX6_writeSlip yX6_writeSlip, Cond.code yX6_writeSlip cX6_writeSlip 4 none, Cond.fieldLink RX6 45 "SharesDesk" "result" "LSharesDesk$Phase;", Cond.fieldLink RX6 91 "SharesDesk$Phase" "picked" "I", Cond.fieldLink RX6 22 "SharesDesk" "ratio" "LSharesDesk$Ratio;", Cond.fieldLink RX6 148 "SharesDesk$Phase" "bases" "[LSharesDesk$Natural;", Cond.fieldLink RX6 117 "SharesDesk$Phase" "picks" "[I", Cond.fieldLink RX6 123 "SharesDesk$Phase" "purses" "[LSharesDesk$Natural;", Cond.fieldLink RX6 127 "SharesDesk$Phase" "base" "LSharesDesk$Natural;", Cond.methodLink RX6 186 yX4_clear]
def wsX6_receipt_r2 : List Cond := [Cond.instanceMethod yX4_clear, Cond.selects RX4 yX4_clear yX4_clear, Cond.initialized RX4, Cond.code yX4_clear cX4_clear 2 none, Cond.fieldLink RX4 11 "SharesDesk$Slip" "owner" "I", Cond.fieldLink RX4 29 "SharesDesk$Slip" "length" "I", Cond.methodLink RX6 141 yX1_payment, Cond.instanceMethod yX1_payment, Cond.selects RX1 yX1_payment yX1_payment, Cond.initialized RX1, Cond.code yX1_payment cX1_payment 3 (some (.object "SharesDesk$Natural")), Cond.fieldLink RX1 25 "SharesDesk$Phase" "emptiedIn" "[I", Cond.fieldLink RX1 51 "SharesDesk$Phase" "town" "LSharesDesk$Town;", Cond.fieldLink RX1 32 "SharesDesk$Phase" "picks" "[I", Cond.fieldLink RX1 22 "SharesDesk$Phase" "lastPays" "[LSharesDesk$Natural;", Cond.fieldLink RX1 35 "SharesDesk$Phase" "rates" "[LSharesDesk$Natural;", Cond.methodLink RX1 95 yX5_approves, Cond.instanceMethod yX5_approves, Cond.selects RX5 yX5_approves yX5_approves, Cond.code yX5_approves cX5_approves 3 (some .boolean), Cond.fieldLink RX5 15 "SharesDesk$Town" "approvals" "[I", Cond.methodLink RX6 130 yX2_take, Cond.instanceMethod yX2_take, Cond.selects RX2 yX2_take yX2_take]
def wsX6_receipt_r3 : List Cond := [Cond.initialized RX2, Cond.code yX2_take cX2_take 7 none, Cond.fieldLink RX2 10 "SharesDesk$Ratio" "top" "LSharesDesk$Natural;", Cond.fieldLink RX2 16 "SharesDesk$Ratio" "bottom" "LSharesDesk$Natural;", Cond.fieldLink RX2 34 "SharesDesk$Ratio" "PRIMES" "[I", Cond.methodLink RX2 23 yX0_isZero, Cond.instanceMethod yX0_isZero, Cond.selects RX0 yX0_isZero yX0_isZero, Cond.initialized RX0, Cond.code yX0_isZero cX0_isZero 1 (some .boolean), Cond.fieldLink RX0 9 "SharesDesk$Natural" "words" "[I", Cond.methodLink RX2 27 yX2_takeZero, Cond.instanceMethod yX2_takeZero, Cond.selects RX2 yX2_takeZero yX2_takeZero, Cond.code yX2_takeZero cX2_takeZero 1 none, Cond.methodLink RX2 19 yX0_set, Cond.instanceMethod yX0_set, Cond.selects RX0 yX0_set yX0_set, Cond.code yX0_set cX0_set 2 none, Cond.methodLink RX0 13 yJ7_fill_53178, Cond.static yJ7_fill_53178, Cond.initialized RJ7, Cond.code yJ7_fill_53178 cJ7_fill_53178 4 none, Cond.methodLink RX2 30 yX0_copy]
def wsX6_receipt_r4 : List Cond := [Cond.instanceMethod yX0_copy, Cond.selects RX0 yX0_copy yX0_copy, Cond.code yX0_copy cX0_copy 2 none, Cond.methodLink RX0 19 arraycopyName, Cond.native arraycopyName, Cond.static arraycopyName, Cond.initialized "java/lang/System", Cond.methodLink RX2 38 yX2_cancel, Cond.instanceMethod yX2_cancel, Cond.selects RX2 yX2_cancel yX2_cancel, Cond.code yX2_cancel cX2_cancel 3 none, Cond.methodLink RX2 45 yX0_modulo, Cond.instanceMethod yX0_modulo, Cond.selects RX0 yX0_modulo yX0_modulo, Cond.code yX0_modulo cX0_modulo 5 (some .int), Cond.constantLong RX0 25 (4294967295), Cond.methodLink RX2 48 yX0_divide, Cond.instanceMethod yX0_divide, Cond.selects RX0 yX0_divide yX0_divide, Cond.code yX0_divide cX0_divide 7 (some .int), Cond.methodLink RX6 194 yX4_putProject, Cond.instanceMethod yX4_putProject, Cond.selects RX4 yX4_putProject yX4_putProject, Cond.code yX4_putProject cX4_putProject 2 none]
def wsX6_receipt_r5 : List Cond := [Cond.methodLink RX4 32 yX4_put, Cond.instanceMethod yX4_put, Cond.selects RX4 yX4_put yX4_put, Cond.code yX4_put cX4_put 2 none, Cond.fieldLink RX4 17 "SharesDesk$Slip" "text" "[C", Cond.methodLink RX6 197 yX4_putRatio, Cond.instanceMethod yX4_putRatio, Cond.selects RX4 yX4_putRatio yX4_putRatio, Cond.code yX4_putRatio cX4_putRatio 2 none, Cond.fieldLink RX4 36 "SharesDesk$Ratio" "top" "LSharesDesk$Natural;", Cond.fieldLink RX4 45 "SharesDesk$Ratio" "bottom" "LSharesDesk$Natural;", Cond.methodLink RX4 41 yX4_putNatural, Cond.instanceMethod yX4_putNatural, Cond.selects RX4 yX4_putNatural yX4_putNatural, Cond.code yX4_putNatural cX4_putNatural 4 none, Cond.fieldLink RX4 25 "SharesDesk$Slip" "rest" "LSharesDesk$Natural;", Cond.fieldLink RX4 21 "SharesDesk$Slip" "digits" "[C", Cond.methodLink RX4 52 yX0_copy, Cond.methodLink RX4 55 yX0_divide, Cond.methodLink RX4 59 yX0_isZero, Cond.methodLink RX4 48 yX0_isOne, Cond.instanceMethod yX0_isOne, Cond.selects RX0 yX0_isOne yX0_isOne, Cond.code yX0_isOne cX0_isOne 1 (some .boolean)]
def wsX6_receipt_r6 : List Cond := [Cond.methodLink RX6 201 yX4_put, Cond.methodLink RX6 180 yX4_charOr, Cond.instanceMethod yX4_charOr, Cond.selects RX4 yX4_charOr yX4_charOr, Cond.code yX4_charOr cX4_charOr 3 (some .int)]
def wsX6_receipt : List Cond := .code yX6_receipt cX6_receipt 3 (some .int) :: ((wsX6_receipt_r1 ++ (wsX6_receipt_r2 ++ (wsX6_receipt_r3 ++ (wsX6_receipt_r4 ++ (wsX6_receipt_r5 ++ wsX6_receipt_r6))))) ++ wsX60 ++ wsX40 ++ wsX50 ++ wsX10 ++ wsX20 ++ wsX00)
def wsX7_init : List Cond := .code yX7_init cX7_init 1 none :: ([.methodLink RX7 1 objectInit, .instanceMethod objectInit, .code objectInit ⟨#[0xb1]⟩ 1 none, .arrayClass .int, .fieldLink RX7 7 "SharesDeskModel" "m" "[I", .fieldLink RX7 13 "SharesDeskModel" "costs" "[I", .arrayClass .boolean, .fieldLink RX7 16 "SharesDeskModel" "voters" "[Z", .fieldLink RX7 20 "SharesDeskModel" "wishes" "[I", .fieldLink RX7 23 "SharesDeskModel" "budget" "I", .fieldLink RX7 27 "SharesDeskModel" "oldCosts" "[I", .fieldLink RX7 30 "SharesDeskModel" "oldVoters" "[Z", .fieldLink RX7 33 "SharesDeskModel" "oldWishes" "[I", .fieldLink RX7 36 "SharesDeskModel" "oldBudget" "I", .fieldLink RX7 39 "SharesDeskModel" "order" "[I", .fieldLink RX7 42 "SharesDeskModel" "isChosen" "[Z", .fieldLink RX7 45 "SharesDeskModel" "poor" "[Z", .fieldLink RX7 48 "SharesDeskModel" "text" "[I"] ++ wsX70)
def wsX7_thrown : List Cond := .code yX7_thrown cX7_thrown 1 (some .int) :: ([.fieldLink RX7 51 "SharesDeskModel" "thrown" "I"] ++ wsX70)
def wsX7_set : List Cond := .code yX7_set cX7_set 5 none :: ([.fieldLink RX7 7 "SharesDeskModel" "m" "[I", .constantLong RX7 54 (65535)] ++ wsX70)
def wsX7_copy : List Cond := .code yX7_copy cX7_copy 4 none :: ([.fieldLink RX7 7 "SharesDeskModel" "m" "[I"] ++ wsX70)
def wsX7_compare : List Cond := .code yX7_compare cX7_compare 4 (some .int) :: ([.fieldLink RX7 7 "SharesDeskModel" "m" "[I"] ++ wsX70)
def wsX7_isNone : List Cond := .code yX7_isNone cX7_isNone 3 (some .boolean) :: ([.fieldLink RX7 7 "SharesDeskModel" "m" "[I"] ++ wsX70)
def wsX7_add : List Cond := .code yX7_add cX7_add 7 none :: ([.fieldLink RX7 7 "SharesDeskModel" "m" "[I", .constant RX7 56 (65535)] ++ wsX70)
def wsX7_lessen : List Cond := .code yX7_lessen cX7_lessen 7 none :: ([.fieldLink RX7 7 "SharesDeskModel" "m" "[I", .constant RX7 56 (65535)] ++ wsX70)
def wsX7_times : List Cond := .code yX7_times cX7_times 9 none :: ([.fieldLink RX7 7 "SharesDeskModel" "m" "[I", .constantLong RX7 54 (65535)] ++ wsX70)
def wsX7_tenth : List Cond := .code yX7_tenth cX7_tenth 5 (some .int) :: ([.constant RX7 57 (65536), .fieldLink RX7 7 "SharesDeskModel" "m" "[I"] ++ wsX70)
def wsX7_twice : List Cond := .code yX7_twice cX7_twice 6 none :: ([.fieldLink RX7 7 "SharesDeskModel" "m" "[I", .constant RX7 56 (65535)] ++ wsX70)
def wsX7_bitOf : List Cond := .code yX7_bitOf cX7_bitOf 3 (some .int) :: ([.fieldLink RX7 7 "SharesDeskModel" "m" "[I"] ++ wsX70)
def wsX7_bits : List Cond := .code yX7_bits cX7_bits 3 (some .int) :: ([.methodLink RX7 58 yX7_bitOf, .instanceMethod yX7_bitOf, .selects RX7 yX7_bitOf yX7_bitOf, .initialized RX7, .code yX7_bitOf cX7_bitOf 3 (some .int), .fieldLink RX7 7 "SharesDeskModel" "m" "[I"] ++ wsX70)
def wsX7_quotient_r1 : List Cond := [Cond.fieldLink RX7 7 "SharesDeskModel" "m" "[I", Cond.constant RX7 56 (65535), Cond.methodLink RX7 62 yX7_bits, Cond.instanceMethod yX7_bits, Cond.selects RX7 yX7_bits yX7_bits, Cond.initialized RX7, Cond.code yX7_bits cX7_bits 3 (some .int), Cond.methodLink RX7 58 yX7_bitOf, Cond.instanceMethod yX7_bitOf, Cond.selects RX7 yX7_bitOf yX7_bitOf, Cond.code yX7_bitOf cX7_bitOf 3 (some .int), Cond.methodLink RX7 66 yX7_set, Cond.instanceMethod yX7_set, Cond.selects RX7 yX7_set yX7_set, Cond.code yX7_set cX7_set 5 none, Cond.constantLong RX7 54 (65535), Cond.methodLink RX7 70 yX7_twice, Cond.instanceMethod yX7_twice, Cond.selects RX7 yX7_twice yX7_twice, Cond.code yX7_twice cX7_twice 6 none, Cond.methodLink RX7 74 yX7_compare, Cond.instanceMethod yX7_compare, Cond.selects RX7 yX7_compare yX7_compare, Cond.code yX7_compare cX7_compare 4 (some .int)]
def wsX7_quotient_r2 : List Cond := [Cond.methodLink RX7 77 yX7_lessen, Cond.instanceMethod yX7_lessen, Cond.selects RX7 yX7_lessen yX7_lessen, Cond.code yX7_lessen cX7_lessen 7 none]
def wsX7_quotient : List Cond := .code yX7_quotient cX7_quotient 7 none :: ((wsX7_quotient_r1 ++ wsX7_quotient_r2) ++ wsX70)
def wsX7_reduce_r1 : List Cond := [Cond.methodLink RX7 81 yX7_copy, Cond.instanceMethod yX7_copy, Cond.selects RX7 yX7_copy yX7_copy, Cond.initialized RX7, Cond.code yX7_copy cX7_copy 4 none, Cond.fieldLink RX7 7 "SharesDeskModel" "m" "[I", Cond.methodLink RX7 84 yX7_isNone, Cond.instanceMethod yX7_isNone, Cond.selects RX7 yX7_isNone yX7_isNone, Cond.code yX7_isNone cX7_isNone 3 (some .boolean), Cond.methodLink RX7 88 yX7_quotient, Cond.instanceMethod yX7_quotient, Cond.selects RX7 yX7_quotient yX7_quotient, Cond.code yX7_quotient cX7_quotient 7 none, Cond.constant RX7 56 (65535), Cond.methodLink RX7 62 yX7_bits, Cond.instanceMethod yX7_bits, Cond.selects RX7 yX7_bits yX7_bits, Cond.code yX7_bits cX7_bits 3 (some .int), Cond.methodLink RX7 58 yX7_bitOf, Cond.instanceMethod yX7_bitOf, Cond.selects RX7 yX7_bitOf yX7_bitOf, Cond.code yX7_bitOf cX7_bitOf 3 (some .int), Cond.methodLink RX7 66 yX7_set]
def wsX7_reduce_r2 : List Cond := [Cond.instanceMethod yX7_set, Cond.selects RX7 yX7_set yX7_set, Cond.code yX7_set cX7_set 5 none, Cond.constantLong RX7 54 (65535), Cond.methodLink RX7 70 yX7_twice, Cond.instanceMethod yX7_twice, Cond.selects RX7 yX7_twice yX7_twice, Cond.code yX7_twice cX7_twice 6 none, Cond.methodLink RX7 74 yX7_compare, Cond.instanceMethod yX7_compare, Cond.selects RX7 yX7_compare yX7_compare, Cond.code yX7_compare cX7_compare 4 (some .int), Cond.methodLink RX7 77 yX7_lessen, Cond.instanceMethod yX7_lessen, Cond.selects RX7 yX7_lessen yX7_lessen, Cond.code yX7_lessen cX7_lessen 7 none]
def wsX7_reduce : List Cond := .code yX7_reduce cX7_reduce 3 none :: ((wsX7_reduce_r1 ++ wsX7_reduce_r2) ++ wsX70)
def wsX7_within : List Cond := .code yX7_within cX7_within 3 (some .boolean) :: ([])
def wsX7_project : List Cond := .code yX7_project cX7_project 3 (some .boolean) :: ([.fieldLink RX7 51 "SharesDeskModel" "thrown" "I", .constant RX7 95 (1000000), .fieldLink RX7 13 "SharesDeskModel" "costs" "[I", .methodLink RX7 91 yX7_within, .static yX7_within, .initialized RX7, .code yX7_within cX7_within 3 (some .boolean)] ++ wsX70)
def wsX7_drop : List Cond := .code yX7_drop cX7_drop 2 (some .boolean) :: ([.fieldLink RX7 51 "SharesDeskModel" "thrown" "I", .fieldLink RX7 13 "SharesDeskModel" "costs" "[I", .methodLink RX7 91 yX7_within, .static yX7_within, .initialized RX7, .code yX7_within cX7_within 3 (some .boolean)] ++ wsX70)
def wsX7_budget : List Cond := .code yX7_budget cX7_budget 2 (some .boolean) :: ([.fieldLink RX7 51 "SharesDeskModel" "thrown" "I", .constant RX7 96 (10000000), .fieldLink RX7 23 "SharesDeskModel" "budget" "I", .methodLink RX7 91 yX7_within, .static yX7_within, .initialized RX7, .code yX7_within cX7_within 3 (some .boolean)] ++ wsX70)
def wsX7_voter : List Cond := .code yX7_voter cX7_voter 2 (some .boolean) :: ([.fieldLink RX7 51 "SharesDeskModel" "thrown" "I", .fieldLink RX7 16 "SharesDeskModel" "voters" "[Z", .fieldLink RX7 20 "SharesDeskModel" "wishes" "[I", .methodLink RX7 91 yX7_within, .static yX7_within, .initialized RX7, .code yX7_within cX7_within 3 (some .boolean)] ++ wsX70)
def wsX7_strike : List Cond := .code yX7_strike cX7_strike 2 (some .boolean) :: ([.fieldLink RX7 51 "SharesDeskModel" "thrown" "I", .fieldLink RX7 16 "SharesDeskModel" "voters" "[Z", .methodLink RX7 91 yX7_within, .static yX7_within, .initialized RX7, .code yX7_within cX7_within 3 (some .boolean)] ++ wsX70)
def wsX7_approve : List Cond := .code yX7_approve cX7_approve 4 (some .boolean) :: ([.fieldLink RX7 51 "SharesDeskModel" "thrown" "I", .fieldLink RX7 16 "SharesDeskModel" "voters" "[Z", .fieldLink RX7 20 "SharesDeskModel" "wishes" "[I", .methodLink RX7 91 yX7_within, .static yX7_within, .initialized RX7, .code yX7_within cX7_within 3 (some .boolean)] ++ wsX70)
def wsX7_supports : List Cond := .code yX7_supports cX7_supports 3 (some .boolean) :: ([.fieldLink RX7 30 "SharesDeskModel" "oldVoters" "[Z", .fieldLink RX7 33 "SharesDeskModel" "oldWishes" "[I"] ++ wsX70)
def wsX7_gather : List Cond := .code yX7_gather cX7_gather 3 none :: ([.fieldLink RX7 27 "SharesDeskModel" "oldCosts" "[I", .methodLink RX7 66 yX7_set, .instanceMethod yX7_set, .selects RX7 yX7_set yX7_set, .initialized RX7, .code yX7_set cX7_set 5 none, .fieldLink RX7 7 "SharesDeskModel" "m" "[I", .constantLong RX7 54 (65535), .methodLink RX7 97 yX7_supports, .instanceMethod yX7_supports, .selects RX7 yX7_supports yX7_supports, .code yX7_supports cX7_supports 3 (some .boolean), .fieldLink RX7 30 "SharesDeskModel" "oldVoters" "[Z", .fieldLink RX7 33 "SharesDeskModel" "oldWishes" "[I", .methodLink RX7 101 yX7_add, .instanceMethod yX7_add, .selects RX7 yX7_add yX7_add, .code yX7_add cX7_add 7 none, .constant RX7 56 (65535), .methodLink RX7 104 yX7_times, .instanceMethod yX7_times, .selects RX7 yX7_times yX7_times, .code yX7_times cX7_times 9 none] ++ wsX70)
def wsX7_isAfforded_r1 : List Cond := [Cond.fieldLink RX7 27 "SharesDeskModel" "oldCosts" "[I", Cond.fieldLink RX7 42 "SharesDeskModel" "isChosen" "[Z", Cond.methodLink RX7 107 yX7_gather, Cond.instanceMethod yX7_gather, Cond.selects RX7 yX7_gather yX7_gather, Cond.initialized RX7, Cond.code yX7_gather cX7_gather 3 none, Cond.methodLink RX7 66 yX7_set, Cond.instanceMethod yX7_set, Cond.selects RX7 yX7_set yX7_set, Cond.code yX7_set cX7_set 5 none, Cond.fieldLink RX7 7 "SharesDeskModel" "m" "[I", Cond.constantLong RX7 54 (65535), Cond.methodLink RX7 97 yX7_supports, Cond.instanceMethod yX7_supports, Cond.selects RX7 yX7_supports yX7_supports, Cond.code yX7_supports cX7_supports 3 (some .boolean), Cond.fieldLink RX7 30 "SharesDeskModel" "oldVoters" "[Z", Cond.fieldLink RX7 33 "SharesDeskModel" "oldWishes" "[I", Cond.methodLink RX7 101 yX7_add, Cond.instanceMethod yX7_add, Cond.selects RX7 yX7_add yX7_add, Cond.code yX7_add cX7_add 7 none, Cond.constant RX7 56 (65535)]
def wsX7_isAfforded_r2 : List Cond := [Cond.methodLink RX7 104 yX7_times, Cond.instanceMethod yX7_times, Cond.selects RX7 yX7_times yX7_times, Cond.code yX7_times cX7_times 9 none, Cond.methodLink RX7 74 yX7_compare, Cond.instanceMethod yX7_compare, Cond.selects RX7 yX7_compare yX7_compare, Cond.code yX7_compare cX7_compare 4 (some .int)]
def wsX7_isAfforded : List Cond := .code yX7_isAfforded cX7_isAfforded 2 (some .boolean) :: ((wsX7_isAfforded_r1 ++ wsX7_isAfforded_r2) ++ wsX70)
def wsX7_share_r1 : List Cond := [Cond.fieldLink RX7 27 "SharesDeskModel" "oldCosts" "[I", Cond.fieldLink RX7 111 "SharesDeskModel" "payers" "I", Cond.fieldLink RX7 45 "SharesDeskModel" "poor" "[Z", Cond.methodLink RX7 104 yX7_times, Cond.instanceMethod yX7_times, Cond.selects RX7 yX7_times yX7_times, Cond.initialized RX7, Cond.code yX7_times cX7_times 9 none, Cond.fieldLink RX7 7 "SharesDeskModel" "m" "[I", Cond.constantLong RX7 54 (65535), Cond.methodLink RX7 97 yX7_supports, Cond.instanceMethod yX7_supports, Cond.selects RX7 yX7_supports yX7_supports, Cond.code yX7_supports cX7_supports 3 (some .boolean), Cond.fieldLink RX7 30 "SharesDeskModel" "oldVoters" "[Z", Cond.fieldLink RX7 33 "SharesDeskModel" "oldWishes" "[I", Cond.methodLink RX7 81 yX7_copy, Cond.instanceMethod yX7_copy, Cond.selects RX7 yX7_copy yX7_copy, Cond.code yX7_copy cX7_copy 4 none, Cond.methodLink RX7 74 yX7_compare, Cond.instanceMethod yX7_compare, Cond.selects RX7 yX7_compare yX7_compare, Cond.code yX7_compare cX7_compare 4 (some .int)]
def wsX7_share_r2 : List Cond := [Cond.methodLink RX7 77 yX7_lessen, Cond.instanceMethod yX7_lessen, Cond.selects RX7 yX7_lessen yX7_lessen, Cond.code yX7_lessen cX7_lessen 7 none, Cond.constant RX7 56 (65535)]
def wsX7_share : List Cond := .code yX7_share cX7_share 5 none :: ((wsX7_share_r1 ++ wsX7_share_r2) ++ wsX70)
def wsX7_next_r1 : List Cond := [Cond.fieldLink RX7 111 "SharesDeskModel" "payers" "I", Cond.fieldLink RX7 27 "SharesDeskModel" "oldCosts" "[I", Cond.methodLink RX7 114 yX7_isAfforded, Cond.instanceMethod yX7_isAfforded, Cond.selects RX7 yX7_isAfforded yX7_isAfforded, Cond.initialized RX7, Cond.code yX7_isAfforded cX7_isAfforded 2 (some .boolean), Cond.fieldLink RX7 42 "SharesDeskModel" "isChosen" "[Z", Cond.methodLink RX7 107 yX7_gather, Cond.instanceMethod yX7_gather, Cond.selects RX7 yX7_gather yX7_gather, Cond.code yX7_gather cX7_gather 3 none, Cond.methodLink RX7 66 yX7_set, Cond.instanceMethod yX7_set, Cond.selects RX7 yX7_set yX7_set, Cond.code yX7_set cX7_set 5 none, Cond.fieldLink RX7 7 "SharesDeskModel" "m" "[I", Cond.constantLong RX7 54 (65535), Cond.methodLink RX7 97 yX7_supports, Cond.instanceMethod yX7_supports, Cond.selects RX7 yX7_supports yX7_supports, Cond.code yX7_supports cX7_supports 3 (some .boolean), Cond.fieldLink RX7 30 "SharesDeskModel" "oldVoters" "[Z", Cond.fieldLink RX7 33 "SharesDeskModel" "oldWishes" "[I"]
def wsX7_next_r2 : List Cond := [Cond.methodLink RX7 101 yX7_add, Cond.instanceMethod yX7_add, Cond.selects RX7 yX7_add yX7_add, Cond.code yX7_add cX7_add 7 none, Cond.constant RX7 56 (65535), Cond.methodLink RX7 104 yX7_times, Cond.instanceMethod yX7_times, Cond.selects RX7 yX7_times yX7_times, Cond.code yX7_times cX7_times 9 none, Cond.methodLink RX7 74 yX7_compare, Cond.instanceMethod yX7_compare, Cond.selects RX7 yX7_compare yX7_compare, Cond.code yX7_compare cX7_compare 4 (some .int), Cond.methodLink RX7 117 yX7_share, Cond.instanceMethod yX7_share, Cond.selects RX7 yX7_share yX7_share, Cond.code yX7_share cX7_share 5 none, Cond.fieldLink RX7 45 "SharesDeskModel" "poor" "[Z", Cond.methodLink RX7 81 yX7_copy, Cond.instanceMethod yX7_copy, Cond.selects RX7 yX7_copy yX7_copy, Cond.code yX7_copy cX7_copy 4 none, Cond.methodLink RX7 77 yX7_lessen, Cond.instanceMethod yX7_lessen]
def wsX7_next_r3 : List Cond := [Cond.selects RX7 yX7_lessen yX7_lessen, Cond.code yX7_lessen cX7_lessen 7 none]
def wsX7_next : List Cond := .code yX7_next cX7_next 6 (some .int) :: ((wsX7_next_r1 ++ (wsX7_next_r2 ++ wsX7_next_r3)) ++ wsX70)
def wsX7_pay_r1 : List Cond := [Cond.fieldLink RX7 111 "SharesDeskModel" "payers" "I", Cond.fieldLink RX7 30 "SharesDeskModel" "oldVoters" "[Z", Cond.fieldLink RX7 120 "SharesDeskModel" "rounds" "I", Cond.fieldLink RX7 45 "SharesDeskModel" "poor" "[Z", Cond.fieldLink RX7 39 "SharesDeskModel" "order" "[I", Cond.fieldLink RX7 42 "SharesDeskModel" "isChosen" "[Z", Cond.methodLink RX7 117 yX7_share, Cond.instanceMethod yX7_share, Cond.selects RX7 yX7_share yX7_share, Cond.initialized RX7, Cond.code yX7_share cX7_share 5 none, Cond.fieldLink RX7 27 "SharesDeskModel" "oldCosts" "[I", Cond.methodLink RX7 104 yX7_times, Cond.instanceMethod yX7_times, Cond.selects RX7 yX7_times yX7_times, Cond.code yX7_times cX7_times 9 none, Cond.fieldLink RX7 7 "SharesDeskModel" "m" "[I", Cond.constantLong RX7 54 (65535), Cond.methodLink RX7 97 yX7_supports, Cond.instanceMethod yX7_supports, Cond.selects RX7 yX7_supports yX7_supports, Cond.code yX7_supports cX7_supports 3 (some .boolean), Cond.fieldLink RX7 33 "SharesDeskModel" "oldWishes" "[I", Cond.methodLink RX7 81 yX7_copy]
def wsX7_pay_r2 : List Cond := [Cond.instanceMethod yX7_copy, Cond.selects RX7 yX7_copy yX7_copy, Cond.code yX7_copy cX7_copy 4 none, Cond.methodLink RX7 74 yX7_compare, Cond.instanceMethod yX7_compare, Cond.selects RX7 yX7_compare yX7_compare, Cond.code yX7_compare cX7_compare 4 (some .int), Cond.methodLink RX7 77 yX7_lessen, Cond.instanceMethod yX7_lessen, Cond.selects RX7 yX7_lessen yX7_lessen, Cond.code yX7_lessen cX7_lessen 7 none, Cond.constant RX7 56 (65535), Cond.methodLink RX7 66 yX7_set, Cond.instanceMethod yX7_set, Cond.selects RX7 yX7_set yX7_set, Cond.code yX7_set cX7_set 5 none]
def wsX7_pay : List Cond := .code yX7_pay cX7_pay 4 none :: ((wsX7_pay_r1 ++ wsX7_pay_r2) ++ wsX70)
def wsX7_cost : List Cond := .code yX7_cost cX7_cost 3 (some .int) :: ([.fieldLink RX7 120 "SharesDeskModel" "rounds" "I", .fieldLink RX7 27 "SharesDeskModel" "oldCosts" "[I", .fieldLink RX7 39 "SharesDeskModel" "order" "[I"] ++ wsX70)
def wsX7_phase_r1 : List Cond := [Cond.fieldLink RX7 123 "SharesDeskModel" "count" "I", Cond.fieldLink RX7 120 "SharesDeskModel" "rounds" "I", Cond.fieldLink RX7 23 "SharesDeskModel" "budget" "I", Cond.fieldLink RX7 36 "SharesDeskModel" "oldBudget" "I", Cond.fieldLink RX7 27 "SharesDeskModel" "oldCosts" "[I", Cond.fieldLink RX7 13 "SharesDeskModel" "costs" "[I", Cond.fieldLink RX7 42 "SharesDeskModel" "isChosen" "[Z", Cond.fieldLink RX7 30 "SharesDeskModel" "oldVoters" "[Z", Cond.fieldLink RX7 16 "SharesDeskModel" "voters" "[Z", Cond.fieldLink RX7 33 "SharesDeskModel" "oldWishes" "[I", Cond.fieldLink RX7 20 "SharesDeskModel" "wishes" "[I", Cond.methodLink RX7 66 yX7_set, Cond.instanceMethod yX7_set, Cond.selects RX7 yX7_set yX7_set, Cond.initialized RX7, Cond.code yX7_set cX7_set 5 none, Cond.fieldLink RX7 7 "SharesDeskModel" "m" "[I", Cond.constantLong RX7 54 (65535), Cond.methodLink RX7 126 yX7_next, Cond.instanceMethod yX7_next, Cond.selects RX7 yX7_next yX7_next, Cond.code yX7_next cX7_next 6 (some .int), Cond.fieldLink RX7 111 "SharesDeskModel" "payers" "I", Cond.methodLink RX7 114 yX7_isAfforded]
def wsX7_phase_r2 : List Cond := [Cond.instanceMethod yX7_isAfforded, Cond.selects RX7 yX7_isAfforded yX7_isAfforded, Cond.code yX7_isAfforded cX7_isAfforded 2 (some .boolean), Cond.methodLink RX7 107 yX7_gather, Cond.instanceMethod yX7_gather, Cond.selects RX7 yX7_gather yX7_gather, Cond.code yX7_gather cX7_gather 3 none, Cond.methodLink RX7 97 yX7_supports, Cond.instanceMethod yX7_supports, Cond.selects RX7 yX7_supports yX7_supports, Cond.code yX7_supports cX7_supports 3 (some .boolean), Cond.methodLink RX7 101 yX7_add, Cond.instanceMethod yX7_add, Cond.selects RX7 yX7_add yX7_add, Cond.code yX7_add cX7_add 7 none, Cond.constant RX7 56 (65535), Cond.methodLink RX7 104 yX7_times, Cond.instanceMethod yX7_times, Cond.selects RX7 yX7_times yX7_times, Cond.code yX7_times cX7_times 9 none, Cond.methodLink RX7 74 yX7_compare, Cond.instanceMethod yX7_compare, Cond.selects RX7 yX7_compare yX7_compare, Cond.code yX7_compare cX7_compare 4 (some .int)]
def wsX7_phase_r3 : List Cond := [Cond.methodLink RX7 117 yX7_share, Cond.instanceMethod yX7_share, Cond.selects RX7 yX7_share yX7_share, Cond.code yX7_share cX7_share 5 none, Cond.fieldLink RX7 45 "SharesDeskModel" "poor" "[Z", Cond.methodLink RX7 81 yX7_copy, Cond.instanceMethod yX7_copy, Cond.selects RX7 yX7_copy yX7_copy, Cond.code yX7_copy cX7_copy 4 none, Cond.methodLink RX7 77 yX7_lessen, Cond.instanceMethod yX7_lessen, Cond.selects RX7 yX7_lessen yX7_lessen, Cond.code yX7_lessen cX7_lessen 7 none, Cond.methodLink RX7 130 yX7_pay, Cond.instanceMethod yX7_pay, Cond.selects RX7 yX7_pay yX7_pay, Cond.code yX7_pay cX7_pay 4 none, Cond.fieldLink RX7 39 "SharesDeskModel" "order" "[I", Cond.methodLink RX7 133 yX7_cost, Cond.instanceMethod yX7_cost, Cond.selects RX7 yX7_cost yX7_cost, Cond.code yX7_cost cX7_cost 3 (some .int)]
def wsX7_phase : List Cond := .code yX7_phase cX7_phase 3 (some .int) :: ((wsX7_phase_r1 ++ (wsX7_phase_r2 ++ wsX7_phase_r3)) ++ wsX70)
def wsX7_run_r1 : List Cond := [Cond.fieldLink RX7 51 "SharesDeskModel" "thrown" "I", Cond.fieldLink RX7 120 "SharesDeskModel" "rounds" "I", Cond.methodLink RX7 136 yX7_phase, Cond.instanceMethod yX7_phase, Cond.selects RX7 yX7_phase yX7_phase, Cond.initialized RX7, Cond.code yX7_phase cX7_phase 3 (some .int), Cond.fieldLink RX7 123 "SharesDeskModel" "count" "I", Cond.fieldLink RX7 23 "SharesDeskModel" "budget" "I", Cond.fieldLink RX7 36 "SharesDeskModel" "oldBudget" "I", Cond.fieldLink RX7 27 "SharesDeskModel" "oldCosts" "[I", Cond.fieldLink RX7 13 "SharesDeskModel" "costs" "[I", Cond.fieldLink RX7 42 "SharesDeskModel" "isChosen" "[Z", Cond.fieldLink RX7 30 "SharesDeskModel" "oldVoters" "[Z", Cond.fieldLink RX7 16 "SharesDeskModel" "voters" "[Z", Cond.fieldLink RX7 33 "SharesDeskModel" "oldWishes" "[I", Cond.fieldLink RX7 20 "SharesDeskModel" "wishes" "[I", Cond.methodLink RX7 66 yX7_set, Cond.instanceMethod yX7_set, Cond.selects RX7 yX7_set yX7_set, Cond.code yX7_set cX7_set 5 none, Cond.fieldLink RX7 7 "SharesDeskModel" "m" "[I", Cond.constantLong RX7 54 (65535), Cond.methodLink RX7 126 yX7_next]
def wsX7_run_r2 : List Cond := [Cond.instanceMethod yX7_next, Cond.selects RX7 yX7_next yX7_next, Cond.code yX7_next cX7_next 6 (some .int), Cond.fieldLink RX7 111 "SharesDeskModel" "payers" "I", Cond.methodLink RX7 114 yX7_isAfforded, Cond.instanceMethod yX7_isAfforded, Cond.selects RX7 yX7_isAfforded yX7_isAfforded, Cond.code yX7_isAfforded cX7_isAfforded 2 (some .boolean), Cond.methodLink RX7 107 yX7_gather, Cond.instanceMethod yX7_gather, Cond.selects RX7 yX7_gather yX7_gather, Cond.code yX7_gather cX7_gather 3 none, Cond.methodLink RX7 97 yX7_supports, Cond.instanceMethod yX7_supports, Cond.selects RX7 yX7_supports yX7_supports, Cond.code yX7_supports cX7_supports 3 (some .boolean), Cond.methodLink RX7 101 yX7_add, Cond.instanceMethod yX7_add, Cond.selects RX7 yX7_add yX7_add, Cond.code yX7_add cX7_add 7 none, Cond.constant RX7 56 (65535), Cond.methodLink RX7 104 yX7_times, Cond.instanceMethod yX7_times, Cond.selects RX7 yX7_times yX7_times]
def wsX7_run_r3 : List Cond := [Cond.code yX7_times cX7_times 9 none, Cond.methodLink RX7 74 yX7_compare, Cond.instanceMethod yX7_compare, Cond.selects RX7 yX7_compare yX7_compare, Cond.code yX7_compare cX7_compare 4 (some .int), Cond.methodLink RX7 117 yX7_share, Cond.instanceMethod yX7_share, Cond.selects RX7 yX7_share yX7_share, Cond.code yX7_share cX7_share 5 none, Cond.fieldLink RX7 45 "SharesDeskModel" "poor" "[Z", Cond.methodLink RX7 81 yX7_copy, Cond.instanceMethod yX7_copy, Cond.selects RX7 yX7_copy yX7_copy, Cond.code yX7_copy cX7_copy 4 none, Cond.methodLink RX7 77 yX7_lessen, Cond.instanceMethod yX7_lessen, Cond.selects RX7 yX7_lessen yX7_lessen, Cond.code yX7_lessen cX7_lessen 7 none, Cond.methodLink RX7 130 yX7_pay, Cond.instanceMethod yX7_pay, Cond.selects RX7 yX7_pay yX7_pay, Cond.code yX7_pay cX7_pay 4 none, Cond.fieldLink RX7 39 "SharesDeskModel" "order" "[I", Cond.methodLink RX7 133 yX7_cost]
def wsX7_run_r4 : List Cond := [Cond.instanceMethod yX7_cost, Cond.selects RX7 yX7_cost yX7_cost, Cond.code yX7_cost cX7_cost 3 (some .int)]
def wsX7_run : List Cond := .code yX7_run cX7_run 2 (some .int) :: ((wsX7_run_r1 ++ (wsX7_run_r2 ++ (wsX7_run_r3 ++ wsX7_run_r4))) ++ wsX70)
def wsX7_raise_r1 : List Cond := [Cond.constant RX7 139 (100000), Cond.fieldLink RX7 51 "SharesDeskModel" "thrown" "I", Cond.fieldLink RX7 23 "SharesDeskModel" "budget" "I", Cond.methodLink RX7 91 yX7_within, Cond.static yX7_within, Cond.initialized RX7, Cond.code yX7_within cX7_within 3 (some .boolean), Cond.methodLink RX7 136 yX7_phase, Cond.instanceMethod yX7_phase, Cond.selects RX7 yX7_phase yX7_phase, Cond.code yX7_phase cX7_phase 3 (some .int), Cond.fieldLink RX7 123 "SharesDeskModel" "count" "I", Cond.fieldLink RX7 120 "SharesDeskModel" "rounds" "I", Cond.fieldLink RX7 36 "SharesDeskModel" "oldBudget" "I", Cond.fieldLink RX7 27 "SharesDeskModel" "oldCosts" "[I", Cond.fieldLink RX7 13 "SharesDeskModel" "costs" "[I", Cond.fieldLink RX7 42 "SharesDeskModel" "isChosen" "[Z", Cond.fieldLink RX7 30 "SharesDeskModel" "oldVoters" "[Z", Cond.fieldLink RX7 16 "SharesDeskModel" "voters" "[Z", Cond.fieldLink RX7 33 "SharesDeskModel" "oldWishes" "[I", Cond.fieldLink RX7 20 "SharesDeskModel" "wishes" "[I", Cond.methodLink RX7 66 yX7_set, Cond.instanceMethod yX7_set, Cond.selects RX7 yX7_set yX7_set]
def wsX7_raise_r2 : List Cond := [Cond.code yX7_set cX7_set 5 none, Cond.fieldLink RX7 7 "SharesDeskModel" "m" "[I", Cond.constantLong RX7 54 (65535), Cond.methodLink RX7 126 yX7_next, Cond.instanceMethod yX7_next, Cond.selects RX7 yX7_next yX7_next, Cond.code yX7_next cX7_next 6 (some .int), Cond.fieldLink RX7 111 "SharesDeskModel" "payers" "I", Cond.methodLink RX7 114 yX7_isAfforded, Cond.instanceMethod yX7_isAfforded, Cond.selects RX7 yX7_isAfforded yX7_isAfforded, Cond.code yX7_isAfforded cX7_isAfforded 2 (some .boolean), Cond.methodLink RX7 107 yX7_gather, Cond.instanceMethod yX7_gather, Cond.selects RX7 yX7_gather yX7_gather, Cond.code yX7_gather cX7_gather 3 none, Cond.methodLink RX7 97 yX7_supports, Cond.instanceMethod yX7_supports, Cond.selects RX7 yX7_supports yX7_supports, Cond.code yX7_supports cX7_supports 3 (some .boolean), Cond.methodLink RX7 101 yX7_add, Cond.instanceMethod yX7_add, Cond.selects RX7 yX7_add yX7_add, Cond.code yX7_add cX7_add 7 none]
def wsX7_raise_r3 : List Cond := [Cond.constant RX7 56 (65535), Cond.methodLink RX7 104 yX7_times, Cond.instanceMethod yX7_times, Cond.selects RX7 yX7_times yX7_times, Cond.code yX7_times cX7_times 9 none, Cond.methodLink RX7 74 yX7_compare, Cond.instanceMethod yX7_compare, Cond.selects RX7 yX7_compare yX7_compare, Cond.code yX7_compare cX7_compare 4 (some .int), Cond.methodLink RX7 117 yX7_share, Cond.instanceMethod yX7_share, Cond.selects RX7 yX7_share yX7_share, Cond.code yX7_share cX7_share 5 none, Cond.fieldLink RX7 45 "SharesDeskModel" "poor" "[Z", Cond.methodLink RX7 81 yX7_copy, Cond.instanceMethod yX7_copy, Cond.selects RX7 yX7_copy yX7_copy, Cond.code yX7_copy cX7_copy 4 none, Cond.methodLink RX7 77 yX7_lessen, Cond.instanceMethod yX7_lessen, Cond.selects RX7 yX7_lessen yX7_lessen, Cond.code yX7_lessen cX7_lessen 7 none, Cond.methodLink RX7 130 yX7_pay, Cond.instanceMethod yX7_pay]
def wsX7_raise_r4 : List Cond := [Cond.selects RX7 yX7_pay yX7_pay, Cond.code yX7_pay cX7_pay 4 none, Cond.fieldLink RX7 39 "SharesDeskModel" "order" "[I", Cond.methodLink RX7 133 yX7_cost, Cond.instanceMethod yX7_cost, Cond.selects RX7 yX7_cost yX7_cost, Cond.code yX7_cost cX7_cost 3 (some .int)]
def wsX7_raise : List Cond := .code yX7_raise cX7_raise 5 (some .int) :: ((wsX7_raise_r1 ++ (wsX7_raise_r2 ++ (wsX7_raise_r3 ++ wsX7_raise_r4))) ++ wsX70)
def wsX7_chosen : List Cond := .code yX7_chosen cX7_chosen 2 (some .int) :: ([.fieldLink RX7 51 "SharesDeskModel" "thrown" "I", .fieldLink RX7 120 "SharesDeskModel" "rounds" "I", .fieldLink RX7 39 "SharesDeskModel" "order" "[I", .methodLink RX7 91 yX7_within, .static yX7_within, .initialized RX7, .code yX7_within cX7_within 3 (some .boolean)] ++ wsX70)
def wsX7_spent : List Cond := .code yX7_spent cX7_spent 1 (some .int) :: ([.fieldLink RX7 51 "SharesDeskModel" "thrown" "I", .methodLink RX7 133 yX7_cost, .instanceMethod yX7_cost, .selects RX7 yX7_cost yX7_cost, .initialized RX7, .code yX7_cost cX7_cost 3 (some .int), .fieldLink RX7 120 "SharesDeskModel" "rounds" "I", .fieldLink RX7 27 "SharesDeskModel" "oldCosts" "[I", .fieldLink RX7 39 "SharesDeskModel" "order" "[I"] ++ wsX70)
def wsX7_isVoter : List Cond := .code yX7_isVoter cX7_isVoter 2 (some .boolean) :: ([.fieldLink RX7 30 "SharesDeskModel" "oldVoters" "[Z", .methodLink RX7 91 yX7_within, .static yX7_within, .initialized RX7, .code yX7_within cX7_within 3 (some .boolean)] ++ wsX70)
def wsX7_word_r1 : List Cond := [Cond.fieldLink RX7 7 "SharesDeskModel" "m" "[I", Cond.methodLink RX7 140 yX7_reduce, Cond.instanceMethod yX7_reduce, Cond.selects RX7 yX7_reduce yX7_reduce, Cond.initialized RX7, Cond.code yX7_reduce cX7_reduce 3 none, Cond.methodLink RX7 81 yX7_copy, Cond.instanceMethod yX7_copy, Cond.selects RX7 yX7_copy yX7_copy, Cond.code yX7_copy cX7_copy 4 none, Cond.methodLink RX7 84 yX7_isNone, Cond.instanceMethod yX7_isNone, Cond.selects RX7 yX7_isNone yX7_isNone, Cond.code yX7_isNone cX7_isNone 3 (some .boolean), Cond.methodLink RX7 88 yX7_quotient, Cond.instanceMethod yX7_quotient, Cond.selects RX7 yX7_quotient yX7_quotient, Cond.code yX7_quotient cX7_quotient 7 none, Cond.constant RX7 56 (65535), Cond.methodLink RX7 62 yX7_bits, Cond.instanceMethod yX7_bits, Cond.selects RX7 yX7_bits yX7_bits, Cond.code yX7_bits cX7_bits 3 (some .int), Cond.methodLink RX7 58 yX7_bitOf]
def wsX7_word_r2 : List Cond := [Cond.instanceMethod yX7_bitOf, Cond.selects RX7 yX7_bitOf yX7_bitOf, Cond.code yX7_bitOf cX7_bitOf 3 (some .int), Cond.methodLink RX7 66 yX7_set, Cond.instanceMethod yX7_set, Cond.selects RX7 yX7_set yX7_set, Cond.code yX7_set cX7_set 5 none, Cond.constantLong RX7 54 (65535), Cond.methodLink RX7 70 yX7_twice, Cond.instanceMethod yX7_twice, Cond.selects RX7 yX7_twice yX7_twice, Cond.code yX7_twice cX7_twice 6 none, Cond.methodLink RX7 74 yX7_compare, Cond.instanceMethod yX7_compare, Cond.selects RX7 yX7_compare yX7_compare, Cond.code yX7_compare cX7_compare 4 (some .int), Cond.methodLink RX7 77 yX7_lessen, Cond.instanceMethod yX7_lessen, Cond.selects RX7 yX7_lessen yX7_lessen, Cond.code yX7_lessen cX7_lessen 7 none]
def wsX7_word : List Cond := .code yX7_word cX7_word 6 (some .int) :: ((wsX7_word_r1 ++ wsX7_word_r2) ++ wsX70)
def wsX7_isPart : List Cond := .code yX7_isPart cX7_isPart 2 (some .boolean) :: ([.methodLink RX7 91 yX7_within, .static yX7_within, .initialized RX7, .code yX7_within cX7_within 3 (some .boolean)])
def wsX7_purse_r1 : List Cond := [Cond.fieldLink RX7 51 "SharesDeskModel" "thrown" "I", Cond.methodLink RX7 143 yX7_isVoter, Cond.instanceMethod yX7_isVoter, Cond.selects RX7 yX7_isVoter yX7_isVoter, Cond.initialized RX7, Cond.code yX7_isVoter cX7_isVoter 2 (some .boolean), Cond.fieldLink RX7 30 "SharesDeskModel" "oldVoters" "[Z", Cond.methodLink RX7 91 yX7_within, Cond.static yX7_within, Cond.code yX7_within cX7_within 3 (some .boolean), Cond.methodLink RX7 146 yX7_isPart, Cond.static yX7_isPart, Cond.code yX7_isPart cX7_isPart 2 (some .boolean), Cond.methodLink RX7 149 yX7_word, Cond.instanceMethod yX7_word, Cond.selects RX7 yX7_word yX7_word, Cond.code yX7_word cX7_word 6 (some .int), Cond.fieldLink RX7 7 "SharesDeskModel" "m" "[I", Cond.methodLink RX7 140 yX7_reduce, Cond.instanceMethod yX7_reduce, Cond.selects RX7 yX7_reduce yX7_reduce, Cond.code yX7_reduce cX7_reduce 3 none, Cond.methodLink RX7 81 yX7_copy, Cond.instanceMethod yX7_copy]
def wsX7_purse_r2 : List Cond := [Cond.selects RX7 yX7_copy yX7_copy, Cond.code yX7_copy cX7_copy 4 none, Cond.methodLink RX7 84 yX7_isNone, Cond.instanceMethod yX7_isNone, Cond.selects RX7 yX7_isNone yX7_isNone, Cond.code yX7_isNone cX7_isNone 3 (some .boolean), Cond.methodLink RX7 88 yX7_quotient, Cond.instanceMethod yX7_quotient, Cond.selects RX7 yX7_quotient yX7_quotient, Cond.code yX7_quotient cX7_quotient 7 none, Cond.constant RX7 56 (65535), Cond.methodLink RX7 62 yX7_bits, Cond.instanceMethod yX7_bits, Cond.selects RX7 yX7_bits yX7_bits, Cond.code yX7_bits cX7_bits 3 (some .int), Cond.methodLink RX7 58 yX7_bitOf, Cond.instanceMethod yX7_bitOf, Cond.selects RX7 yX7_bitOf yX7_bitOf, Cond.code yX7_bitOf cX7_bitOf 3 (some .int), Cond.methodLink RX7 66 yX7_set, Cond.instanceMethod yX7_set, Cond.selects RX7 yX7_set yX7_set, Cond.code yX7_set cX7_set 5 none, Cond.constantLong RX7 54 (65535)]
def wsX7_purse_r3 : List Cond := [Cond.methodLink RX7 70 yX7_twice, Cond.instanceMethod yX7_twice, Cond.selects RX7 yX7_twice yX7_twice, Cond.code yX7_twice cX7_twice 6 none, Cond.methodLink RX7 74 yX7_compare, Cond.instanceMethod yX7_compare, Cond.selects RX7 yX7_compare yX7_compare, Cond.code yX7_compare cX7_compare 4 (some .int), Cond.methodLink RX7 77 yX7_lessen, Cond.instanceMethod yX7_lessen, Cond.selects RX7 yX7_lessen yX7_lessen, Cond.code yX7_lessen cX7_lessen 7 none]
def wsX7_purse : List Cond := .code yX7_purse cX7_purse 4 (some .int) :: ((wsX7_purse_r1 ++ (wsX7_purse_r2 ++ wsX7_purse_r3)) ++ wsX70)
def wsX7_roundOf : List Cond := .code yX7_roundOf cX7_roundOf 3 (some .int) :: ([.fieldLink RX7 120 "SharesDeskModel" "rounds" "I", .fieldLink RX7 39 "SharesDeskModel" "order" "[I"] ++ wsX70)
def wsX7_paid_r1 : List Cond := [Cond.fieldLink RX7 51 "SharesDeskModel" "thrown" "I", Cond.methodLink RX7 143 yX7_isVoter, Cond.instanceMethod yX7_isVoter, Cond.selects RX7 yX7_isVoter yX7_isVoter, Cond.initialized RX7, Cond.code yX7_isVoter cX7_isVoter 2 (some .boolean), Cond.fieldLink RX7 30 "SharesDeskModel" "oldVoters" "[Z", Cond.methodLink RX7 91 yX7_within, Cond.static yX7_within, Cond.code yX7_within cX7_within 3 (some .boolean), Cond.methodLink RX7 146 yX7_isPart, Cond.static yX7_isPart, Cond.code yX7_isPart cX7_isPart 2 (some .boolean), Cond.methodLink RX7 153 yX7_roundOf, Cond.instanceMethod yX7_roundOf, Cond.selects RX7 yX7_roundOf yX7_roundOf, Cond.code yX7_roundOf cX7_roundOf 3 (some .int), Cond.fieldLink RX7 120 "SharesDeskModel" "rounds" "I", Cond.fieldLink RX7 39 "SharesDeskModel" "order" "[I", Cond.methodLink RX7 149 yX7_word, Cond.instanceMethod yX7_word, Cond.selects RX7 yX7_word yX7_word, Cond.code yX7_word cX7_word 6 (some .int), Cond.fieldLink RX7 7 "SharesDeskModel" "m" "[I"]
def wsX7_paid_r2 : List Cond := [Cond.methodLink RX7 140 yX7_reduce, Cond.instanceMethod yX7_reduce, Cond.selects RX7 yX7_reduce yX7_reduce, Cond.code yX7_reduce cX7_reduce 3 none, Cond.methodLink RX7 81 yX7_copy, Cond.instanceMethod yX7_copy, Cond.selects RX7 yX7_copy yX7_copy, Cond.code yX7_copy cX7_copy 4 none, Cond.methodLink RX7 84 yX7_isNone, Cond.instanceMethod yX7_isNone, Cond.selects RX7 yX7_isNone yX7_isNone, Cond.code yX7_isNone cX7_isNone 3 (some .boolean), Cond.methodLink RX7 88 yX7_quotient, Cond.instanceMethod yX7_quotient, Cond.selects RX7 yX7_quotient yX7_quotient, Cond.code yX7_quotient cX7_quotient 7 none, Cond.constant RX7 56 (65535), Cond.methodLink RX7 62 yX7_bits, Cond.instanceMethod yX7_bits, Cond.selects RX7 yX7_bits yX7_bits, Cond.code yX7_bits cX7_bits 3 (some .int), Cond.methodLink RX7 58 yX7_bitOf, Cond.instanceMethod yX7_bitOf, Cond.selects RX7 yX7_bitOf yX7_bitOf]
def wsX7_paid_r3 : List Cond := [Cond.code yX7_bitOf cX7_bitOf 3 (some .int), Cond.methodLink RX7 66 yX7_set, Cond.instanceMethod yX7_set, Cond.selects RX7 yX7_set yX7_set, Cond.code yX7_set cX7_set 5 none, Cond.constantLong RX7 54 (65535), Cond.methodLink RX7 70 yX7_twice, Cond.instanceMethod yX7_twice, Cond.selects RX7 yX7_twice yX7_twice, Cond.code yX7_twice cX7_twice 6 none, Cond.methodLink RX7 74 yX7_compare, Cond.instanceMethod yX7_compare, Cond.selects RX7 yX7_compare yX7_compare, Cond.code yX7_compare cX7_compare 4 (some .int), Cond.methodLink RX7 77 yX7_lessen, Cond.instanceMethod yX7_lessen, Cond.selects RX7 yX7_lessen yX7_lessen, Cond.code yX7_lessen cX7_lessen 7 none]
def wsX7_paid : List Cond := .code yX7_paid cX7_paid 6 (some .int) :: ((wsX7_paid_r1 ++ (wsX7_paid_r2 ++ wsX7_paid_r3)) ++ wsX70)
def wsX7_rate_r1 : List Cond := [Cond.fieldLink RX7 51 "SharesDeskModel" "thrown" "I", Cond.methodLink RX7 153 yX7_roundOf, Cond.instanceMethod yX7_roundOf, Cond.selects RX7 yX7_roundOf yX7_roundOf, Cond.initialized RX7, Cond.code yX7_roundOf cX7_roundOf 3 (some .int), Cond.fieldLink RX7 120 "SharesDeskModel" "rounds" "I", Cond.fieldLink RX7 39 "SharesDeskModel" "order" "[I", Cond.methodLink RX7 146 yX7_isPart, Cond.static yX7_isPart, Cond.code yX7_isPart cX7_isPart 2 (some .boolean), Cond.methodLink RX7 91 yX7_within, Cond.static yX7_within, Cond.code yX7_within cX7_within 3 (some .boolean), Cond.methodLink RX7 149 yX7_word, Cond.instanceMethod yX7_word, Cond.selects RX7 yX7_word yX7_word, Cond.code yX7_word cX7_word 6 (some .int), Cond.fieldLink RX7 7 "SharesDeskModel" "m" "[I", Cond.methodLink RX7 140 yX7_reduce, Cond.instanceMethod yX7_reduce, Cond.selects RX7 yX7_reduce yX7_reduce, Cond.code yX7_reduce cX7_reduce 3 none, Cond.methodLink RX7 81 yX7_copy]
def wsX7_rate_r2 : List Cond := [Cond.instanceMethod yX7_copy, Cond.selects RX7 yX7_copy yX7_copy, Cond.code yX7_copy cX7_copy 4 none, Cond.methodLink RX7 84 yX7_isNone, Cond.instanceMethod yX7_isNone, Cond.selects RX7 yX7_isNone yX7_isNone, Cond.code yX7_isNone cX7_isNone 3 (some .boolean), Cond.methodLink RX7 88 yX7_quotient, Cond.instanceMethod yX7_quotient, Cond.selects RX7 yX7_quotient yX7_quotient, Cond.code yX7_quotient cX7_quotient 7 none, Cond.constant RX7 56 (65535), Cond.methodLink RX7 62 yX7_bits, Cond.instanceMethod yX7_bits, Cond.selects RX7 yX7_bits yX7_bits, Cond.code yX7_bits cX7_bits 3 (some .int), Cond.methodLink RX7 58 yX7_bitOf, Cond.instanceMethod yX7_bitOf, Cond.selects RX7 yX7_bitOf yX7_bitOf, Cond.code yX7_bitOf cX7_bitOf 3 (some .int), Cond.methodLink RX7 66 yX7_set, Cond.instanceMethod yX7_set, Cond.selects RX7 yX7_set yX7_set, Cond.code yX7_set cX7_set 5 none]
def wsX7_rate_r3 : List Cond := [Cond.constantLong RX7 54 (65535), Cond.methodLink RX7 70 yX7_twice, Cond.instanceMethod yX7_twice, Cond.selects RX7 yX7_twice yX7_twice, Cond.code yX7_twice cX7_twice 6 none, Cond.methodLink RX7 74 yX7_compare, Cond.instanceMethod yX7_compare, Cond.selects RX7 yX7_compare yX7_compare, Cond.code yX7_compare cX7_compare 4 (some .int), Cond.methodLink RX7 77 yX7_lessen, Cond.instanceMethod yX7_lessen, Cond.selects RX7 yX7_lessen yX7_lessen, Cond.code yX7_lessen cX7_lessen 7 none]
def wsX7_rate : List Cond := .code yX7_rate cX7_rate 5 (some .int) :: ((wsX7_rate_r1 ++ (wsX7_rate_r2 ++ wsX7_rate_r3)) ++ wsX70)
def wsX7_missing_r1 : List Cond := [Cond.fieldLink RX7 51 "SharesDeskModel" "thrown" "I", Cond.fieldLink RX7 27 "SharesDeskModel" "oldCosts" "[I", Cond.fieldLink RX7 42 "SharesDeskModel" "isChosen" "[Z", Cond.methodLink RX7 91 yX7_within, Cond.static yX7_within, Cond.initialized RX7, Cond.code yX7_within cX7_within 3 (some .boolean), Cond.methodLink RX7 146 yX7_isPart, Cond.static yX7_isPart, Cond.code yX7_isPart cX7_isPart 2 (some .boolean), Cond.methodLink RX7 107 yX7_gather, Cond.instanceMethod yX7_gather, Cond.selects RX7 yX7_gather yX7_gather, Cond.code yX7_gather cX7_gather 3 none, Cond.methodLink RX7 66 yX7_set, Cond.instanceMethod yX7_set, Cond.selects RX7 yX7_set yX7_set, Cond.code yX7_set cX7_set 5 none, Cond.fieldLink RX7 7 "SharesDeskModel" "m" "[I", Cond.constantLong RX7 54 (65535), Cond.methodLink RX7 97 yX7_supports, Cond.instanceMethod yX7_supports, Cond.selects RX7 yX7_supports yX7_supports, Cond.code yX7_supports cX7_supports 3 (some .boolean)]
def wsX7_missing_r2 : List Cond := [Cond.fieldLink RX7 30 "SharesDeskModel" "oldVoters" "[Z", Cond.fieldLink RX7 33 "SharesDeskModel" "oldWishes" "[I", Cond.methodLink RX7 101 yX7_add, Cond.instanceMethod yX7_add, Cond.selects RX7 yX7_add yX7_add, Cond.code yX7_add cX7_add 7 none, Cond.constant RX7 56 (65535), Cond.methodLink RX7 104 yX7_times, Cond.instanceMethod yX7_times, Cond.selects RX7 yX7_times yX7_times, Cond.code yX7_times cX7_times 9 none, Cond.methodLink RX7 77 yX7_lessen, Cond.instanceMethod yX7_lessen, Cond.selects RX7 yX7_lessen yX7_lessen, Cond.code yX7_lessen cX7_lessen 7 none, Cond.methodLink RX7 149 yX7_word, Cond.instanceMethod yX7_word, Cond.selects RX7 yX7_word yX7_word, Cond.code yX7_word cX7_word 6 (some .int), Cond.methodLink RX7 140 yX7_reduce, Cond.instanceMethod yX7_reduce, Cond.selects RX7 yX7_reduce yX7_reduce, Cond.code yX7_reduce cX7_reduce 3 none, Cond.methodLink RX7 81 yX7_copy]
def wsX7_missing_r3 : List Cond := [Cond.instanceMethod yX7_copy, Cond.selects RX7 yX7_copy yX7_copy, Cond.code yX7_copy cX7_copy 4 none, Cond.methodLink RX7 84 yX7_isNone, Cond.instanceMethod yX7_isNone, Cond.selects RX7 yX7_isNone yX7_isNone, Cond.code yX7_isNone cX7_isNone 3 (some .boolean), Cond.methodLink RX7 88 yX7_quotient, Cond.instanceMethod yX7_quotient, Cond.selects RX7 yX7_quotient yX7_quotient, Cond.code yX7_quotient cX7_quotient 7 none, Cond.methodLink RX7 62 yX7_bits, Cond.instanceMethod yX7_bits, Cond.selects RX7 yX7_bits yX7_bits, Cond.code yX7_bits cX7_bits 3 (some .int), Cond.methodLink RX7 58 yX7_bitOf, Cond.instanceMethod yX7_bitOf, Cond.selects RX7 yX7_bitOf yX7_bitOf, Cond.code yX7_bitOf cX7_bitOf 3 (some .int), Cond.methodLink RX7 70 yX7_twice, Cond.instanceMethod yX7_twice, Cond.selects RX7 yX7_twice yX7_twice, Cond.code yX7_twice cX7_twice 6 none, Cond.methodLink RX7 74 yX7_compare]
def wsX7_missing_r4 : List Cond := [Cond.instanceMethod yX7_compare, Cond.selects RX7 yX7_compare yX7_compare, Cond.code yX7_compare cX7_compare 4 (some .int)]
def wsX7_missing : List Cond := .code yX7_missing cX7_missing 4 (some .int) :: ((wsX7_missing_r1 ++ (wsX7_missing_r2 ++ (wsX7_missing_r3 ++ wsX7_missing_r4))) ++ wsX70)
def wsX7_servedOf : List Cond := .code yX7_servedOf cX7_servedOf 4 (some .int) :: ([.fieldLink RX7 42 "SharesDeskModel" "isChosen" "[Z", .fieldLink RX7 33 "SharesDeskModel" "oldWishes" "[I"] ++ wsX70)
def wsX7_served : List Cond := .code yX7_served cX7_served 2 (some .int) :: ([.fieldLink RX7 51 "SharesDeskModel" "thrown" "I", .methodLink RX7 143 yX7_isVoter, .instanceMethod yX7_isVoter, .selects RX7 yX7_isVoter yX7_isVoter, .initialized RX7, .code yX7_isVoter cX7_isVoter 2 (some .boolean), .fieldLink RX7 30 "SharesDeskModel" "oldVoters" "[Z", .methodLink RX7 91 yX7_within, .static yX7_within, .code yX7_within cX7_within 3 (some .boolean), .methodLink RX7 156 yX7_servedOf, .instanceMethod yX7_servedOf, .selects RX7 yX7_servedOf yX7_servedOf, .code yX7_servedOf cX7_servedOf 4 (some .int), .fieldLink RX7 42 "SharesDeskModel" "isChosen" "[Z", .fieldLink RX7 33 "SharesDeskModel" "oldWishes" "[I"] ++ wsX70)
def wsX7_size : List Cond := .code yX7_size cX7_size 3 (some .int) :: ([])
def wsX7_passedOver : List Cond := .code yX7_passedOver cX7_passedOver 9 (some .int) :: ([.fieldLink RX7 51 "SharesDeskModel" "thrown" "I", .fieldLink RX7 123 "SharesDeskModel" "count" "I", .constant RX7 57 (65536), .fieldLink RX7 27 "SharesDeskModel" "oldCosts" "[I", .fieldLink RX7 30 "SharesDeskModel" "oldVoters" "[Z", .fieldLink RX7 33 "SharesDeskModel" "oldWishes" "[I", .fieldLink RX7 36 "SharesDeskModel" "oldBudget" "I", .methodLink RX7 91 yX7_within, .static yX7_within, .initialized RX7, .code yX7_within cX7_within 3 (some .boolean), .methodLink RX7 159 yX7_size, .static yX7_size, .code yX7_size cX7_size 3 (some .int), .methodLink RX7 156 yX7_servedOf, .instanceMethod yX7_servedOf, .selects RX7 yX7_servedOf yX7_servedOf, .code yX7_servedOf cX7_servedOf 4 (some .int), .fieldLink RX7 42 "SharesDeskModel" "isChosen" "[Z"] ++ wsX70)
def wsX7_say : List Cond := .code yX7_say cX7_say 2 none :: ([.fieldLink RX7 48 "SharesDeskModel" "text" "[I", .fieldLink RX7 162 "SharesDeskModel" "length" "I"] ++ wsX70)
def wsX7_sayNumber : List Cond := .code yX7_sayNumber cX7_sayNumber 7 none :: ([.fieldLink RX7 162 "SharesDeskModel" "length" "I", .fieldLink RX7 48 "SharesDeskModel" "text" "[I", .methodLink RX7 165 yX7_tenth, .instanceMethod yX7_tenth, .selects RX7 yX7_tenth yX7_tenth, .initialized RX7, .code yX7_tenth cX7_tenth 5 (some .int), .constant RX7 57 (65536), .fieldLink RX7 7 "SharesDeskModel" "m" "[I", .methodLink RX7 168 yX7_say, .instanceMethod yX7_say, .selects RX7 yX7_say yX7_say, .code yX7_say cX7_say 2 none, .methodLink RX7 84 yX7_isNone, .instanceMethod yX7_isNone, .selects RX7 yX7_isNone yX7_isNone, .code yX7_isNone cX7_isNone 3 (some .boolean)] ++ wsX70)
def wsX7_sayFraction_r1 : List Cond := [Cond.methodLink RX7 140 yX7_reduce, Cond.instanceMethod yX7_reduce, Cond.selects RX7 yX7_reduce yX7_reduce, Cond.initialized RX7, Cond.code yX7_reduce cX7_reduce 3 none, Cond.methodLink RX7 81 yX7_copy, Cond.instanceMethod yX7_copy, Cond.selects RX7 yX7_copy yX7_copy, Cond.code yX7_copy cX7_copy 4 none, Cond.fieldLink RX7 7 "SharesDeskModel" "m" "[I", Cond.methodLink RX7 84 yX7_isNone, Cond.instanceMethod yX7_isNone, Cond.selects RX7 yX7_isNone yX7_isNone, Cond.code yX7_isNone cX7_isNone 3 (some .boolean), Cond.methodLink RX7 88 yX7_quotient, Cond.instanceMethod yX7_quotient, Cond.selects RX7 yX7_quotient yX7_quotient, Cond.code yX7_quotient cX7_quotient 7 none, Cond.constant RX7 56 (65535), Cond.methodLink RX7 62 yX7_bits, Cond.instanceMethod yX7_bits, Cond.selects RX7 yX7_bits yX7_bits, Cond.code yX7_bits cX7_bits 3 (some .int), Cond.methodLink RX7 58 yX7_bitOf]
def wsX7_sayFraction_r2 : List Cond := [Cond.instanceMethod yX7_bitOf, Cond.selects RX7 yX7_bitOf yX7_bitOf, Cond.code yX7_bitOf cX7_bitOf 3 (some .int), Cond.methodLink RX7 66 yX7_set, Cond.instanceMethod yX7_set, Cond.selects RX7 yX7_set yX7_set, Cond.code yX7_set cX7_set 5 none, Cond.constantLong RX7 54 (65535), Cond.methodLink RX7 70 yX7_twice, Cond.instanceMethod yX7_twice, Cond.selects RX7 yX7_twice yX7_twice, Cond.code yX7_twice cX7_twice 6 none, Cond.methodLink RX7 74 yX7_compare, Cond.instanceMethod yX7_compare, Cond.selects RX7 yX7_compare yX7_compare, Cond.code yX7_compare cX7_compare 4 (some .int), Cond.methodLink RX7 77 yX7_lessen, Cond.instanceMethod yX7_lessen, Cond.selects RX7 yX7_lessen yX7_lessen, Cond.code yX7_lessen cX7_lessen 7 none, Cond.methodLink RX7 171 yX7_sayNumber, Cond.instanceMethod yX7_sayNumber, Cond.selects RX7 yX7_sayNumber yX7_sayNumber, Cond.code yX7_sayNumber cX7_sayNumber 7 none]
def wsX7_sayFraction_r3 : List Cond := [Cond.fieldLink RX7 162 "SharesDeskModel" "length" "I", Cond.fieldLink RX7 48 "SharesDeskModel" "text" "[I", Cond.methodLink RX7 165 yX7_tenth, Cond.instanceMethod yX7_tenth, Cond.selects RX7 yX7_tenth yX7_tenth, Cond.code yX7_tenth cX7_tenth 5 (some .int), Cond.constant RX7 57 (65536), Cond.methodLink RX7 168 yX7_say, Cond.instanceMethod yX7_say, Cond.selects RX7 yX7_say yX7_say, Cond.code yX7_say cX7_say 2 none]
def wsX7_sayFraction : List Cond := .code yX7_sayFraction cX7_sayFraction 4 none :: ((wsX7_sayFraction_r1 ++ (wsX7_sayFraction_r2 ++ wsX7_sayFraction_r3)) ++ wsX70)
def wsX7_receipt_r1 : List Cond := [Cond.fieldLink RX7 51 "SharesDeskModel" "thrown" "I", Cond.fieldLink RX7 162 "SharesDeskModel" "length" "I", Cond.fieldLink RX7 120 "SharesDeskModel" "rounds" "I", Cond.fieldLink RX7 39 "SharesDeskModel" "order" "[I", Cond.fieldLink RX7 48 "SharesDeskModel" "text" "[I", Cond.methodLink RX7 143 yX7_isVoter, Cond.instanceMethod yX7_isVoter, Cond.selects RX7 yX7_isVoter yX7_isVoter, Cond.initialized RX7, Cond.code yX7_isVoter cX7_isVoter 2 (some .boolean), Cond.fieldLink RX7 30 "SharesDeskModel" "oldVoters" "[Z", Cond.methodLink RX7 91 yX7_within, Cond.static yX7_within, Cond.code yX7_within cX7_within 3 (some .boolean), Cond.methodLink RX7 84 yX7_isNone, Cond.instanceMethod yX7_isNone, Cond.selects RX7 yX7_isNone yX7_isNone, Cond.code yX7_isNone cX7_isNone 3 (some .boolean), Cond.fieldLink RX7 7 "SharesDeskModel" "m" "[I", Cond.methodLink RX7 168 yX7_say, Cond.instanceMethod yX7_say, Cond.selects RX7 yX7_say yX7_say, Cond.code yX7_say cX7_say 2 none, Cond.methodLink RX7 174 yX7_sayFraction]
def wsX7_receipt_r2 : List Cond := [Cond.instanceMethod yX7_sayFraction, Cond.selects RX7 yX7_sayFraction yX7_sayFraction, Cond.code yX7_sayFraction cX7_sayFraction 4 none, Cond.methodLink RX7 140 yX7_reduce, Cond.instanceMethod yX7_reduce, Cond.selects RX7 yX7_reduce yX7_reduce, Cond.code yX7_reduce cX7_reduce 3 none, Cond.methodLink RX7 81 yX7_copy, Cond.instanceMethod yX7_copy, Cond.selects RX7 yX7_copy yX7_copy, Cond.code yX7_copy cX7_copy 4 none, Cond.methodLink RX7 88 yX7_quotient, Cond.instanceMethod yX7_quotient, Cond.selects RX7 yX7_quotient yX7_quotient, Cond.code yX7_quotient cX7_quotient 7 none, Cond.constant RX7 56 (65535), Cond.methodLink RX7 62 yX7_bits, Cond.instanceMethod yX7_bits, Cond.selects RX7 yX7_bits yX7_bits, Cond.code yX7_bits cX7_bits 3 (some .int), Cond.methodLink RX7 58 yX7_bitOf, Cond.instanceMethod yX7_bitOf, Cond.selects RX7 yX7_bitOf yX7_bitOf, Cond.code yX7_bitOf cX7_bitOf 3 (some .int)]
def wsX7_receipt_r3 : List Cond := [Cond.methodLink RX7 66 yX7_set, Cond.instanceMethod yX7_set, Cond.selects RX7 yX7_set yX7_set, Cond.code yX7_set cX7_set 5 none, Cond.constantLong RX7 54 (65535), Cond.methodLink RX7 70 yX7_twice, Cond.instanceMethod yX7_twice, Cond.selects RX7 yX7_twice yX7_twice, Cond.code yX7_twice cX7_twice 6 none, Cond.methodLink RX7 74 yX7_compare, Cond.instanceMethod yX7_compare, Cond.selects RX7 yX7_compare yX7_compare, Cond.code yX7_compare cX7_compare 4 (some .int), Cond.methodLink RX7 77 yX7_lessen, Cond.instanceMethod yX7_lessen, Cond.selects RX7 yX7_lessen yX7_lessen, Cond.code yX7_lessen cX7_lessen 7 none, Cond.methodLink RX7 171 yX7_sayNumber, Cond.instanceMethod yX7_sayNumber, Cond.selects RX7 yX7_sayNumber yX7_sayNumber, Cond.code yX7_sayNumber cX7_sayNumber 7 none, Cond.methodLink RX7 165 yX7_tenth, Cond.instanceMethod yX7_tenth, Cond.selects RX7 yX7_tenth yX7_tenth]
def wsX7_receipt_r4 : List Cond := [Cond.code yX7_tenth cX7_tenth 5 (some .int), Cond.constant RX7 57 (65536)]
def wsX7_receipt : List Cond := .code yX7_receipt cX7_receipt 5 (some .int) :: ((wsX7_receipt_r1 ++ (wsX7_receipt_r2 ++ (wsX7_receipt_r3 ++ wsX7_receipt_r4))) ++ wsX70)
def wsJ9_max_7cf53 : List Cond := .code yJ9_max_7cf53 cJ9_max_7cf53 2 (some .int) :: ([])
abbrev vwCl : List vw_C := [(RX0, TX0, 1), (RX1, TX1, 16), (RX2, TX2, 2), (RX3, TX3, 4), (RX4, TX4, 5), (RX5, TX5, 4), (RX6, TX6, 7), (RX7, TX7, 18)]
end
section
/-! OWN FRAME: a contract over one heap. 'Ctr l K y ws rm av H0 emb Q A': called with the arguments av in the heap H0, where K holds of the tables, y returns emb r with Q r H1; of the cells that were there only those in A may change. -/
def xr_Post {α : Type} (emb : α → Option Value) (Q : α → Heap → Prop) (A : Nat → Prop) : Array Value → State → Outcome → State → Prop := fun _ st oc t => (∃ r : α, oc = .returned (emb r) ∧ Q r t.heap) ∧ va_F A st t
def xr_Pre (K : State → Prop) (av : List Value) (H0 : Heap) : Array Value → State → Prop := fun v U => v = av.toArray ∧ U.heap = H0 ∧ K U
def Ctr (l : Launch) (K : State → Prop) (y : MethodName) (ws : List Cond) (rm : Room) (av : List Value) (H0 : Heap) {α : Type} (emb : α → Option Value) (Q : α → Heap → Prop) (A : Nat → Prop) : Prop :=
  Met l y ws rm (xr_Pre K av H0) (xr_Post emb Q A) rm.cells rm.slots A
/-- what K must bear -/
def xr_ok (K : State → Prop) : Prop := (∀ u U : State, u.WarmedH U.vm → K u → K U) ∧ ∀ u U : State, u.vm = U.vm → K u → K U
def eI (r : Int32) : Option Value := some (.int r)
def eL (r : Int64) : Option Value := some (.long r)
def eV (_ : Unit) : Option Value := none
def eR (r : Value) : Option Value := some r
theorem xr_blind {K : State → Prop} (hk : xr_ok K) (av : List Value) (H0 : Heap) : FrameBlind (xr_Pre K av H0) := fun a U g mk q => ⟨q.1, q.2.1, hk.2 U _ rfl q.2.2⟩
theorem xr_one {D : va_G} {cl : List vw_C} {q : Nat × va_E} {H : Heap} (h : va_at D cl q H) : va_P D cl [q] H := fun k x hx => by
  have hz : k < 1 := (List.getElem?_eq_some_iff.mp hx).1
  rw [show k = 0 by omega] at hx
  cases hx
  exact h
theorem xr_oneD {A : Nat → Prop} {q : Nat × va_E} (h : A q.1) : va_D A [q] := by
  have hz : ∀ (k : Nat) (x : Nat × va_E), ([q] : va_W)[k]? = some x → k = 0 ∧ x = q := by
    intro k x hx
    have h1 : k < 1 := (List.getElem?_eq_some_iff.mp hx).1
    have h0 : k = 0 := by omega
    subst h0
    cases hx
    exact ⟨rfl, rfl⟩
  refine ⟨fun i j p q hp hq _ => by rw [(hz i p hp).1, (hz j q hq).1], fun k x hx => by rw [(hz k x hx).2]; exact h⟩
section XRE
variable {l : Launch} {K : State → Prop} {y : MethodName} {ws ws' : List Cond} {rm : Room} {av : List Value} {H0 : Heap} {α : Type} {emb : α → Option Value} {Q : α → Heap → Prop} {A : Nat → Prop} {cc : ByteArray} {maxL : Nat} {ret : Option FieldType}
/-- a method's walk begins -/
theorem xr_enter (hy : plainName y.cls = true) (hw : ws = Cond.code y cc maxL ret :: ws') (hlen : (lg_sl av).length ≤ maxL)
    (body : ∀ (p : Program) (e : Env) (s : State) (m : MethodId) (below : List Frame) (meth : Method) (c : Code), p.tables.exec = Jvm.exec → c.code = cc → meth.sig.returnType = ret → c.maxLocals = maxL → (∀ w ∈ ws, w.before av.toArray s = true) → s.vm.findClass y.cls = some m.cls → meth.locks = false → meth.name = y.name → s.heap = H0 → K s →
      ∀ ls : Array Slot, lv_has ls maxL (lv_args 0 av) → W p l e rm s m av.toArray below meth c s.heap [] 0 0 (MQ below (xr_Post emb Q A) av.toArray s rm.cells rm.slots A) (F0 m 0 ls [])) : Ctr l K y ws rm av H0 emb Q A := by
  refine Met.ofW (cc := cc) (maxL := maxL) (ret := ret) hy hw ?_
  intro p e s m args below meth c s₁ B hml hv
  obtain ⟨rfl, hH, hK⟩ := hv
  have hl := lv_entry av (n := maxL) hlen
  have h := body p e s m below meth c B.exec B.bytes B.returns hml (atoms_spec (ws := ws) B.pre) (findClass_of_methodNamed B.named) B.notSynchronized (name_of_methodNamed B.named B.method).1 hH hK _ hl
  rw [lg_entry_eq]
  exact h
end XRE
section XRW
variable {p : Program} {l : Launch} {e : Env} {R : Room} {s : State} {m : MethodId} {args : Array Value} {below : List Frame} {meth : Method} {c : Code} {H : Heap} {locs : List Loc} {cells slots : Nat} {Q : State → Prop}
variable {cc : ByteArray} {pc : Nat} {ls : Array Slot} {rest : List Value} {D : va_G} {cl : List vw_C} {A : Nat → Prop} {a : Nat} {tys : List (ClassId × FieldType)} {H0 : Heap}
/-- ends -/
theorem xr_iret {Qq : Int32 → Heap → Prop} {v : Int32} (hx : p.tables.exec = Jvm.exec) (hb : c.code = cc) (hr : meth.sig.returnType = some .int) (hlocks : meth.locks = false) (hS : va_S A s.heap H locs) (hq : Qq v H) (hdg : decode cc pc = .ok (.ireturn, 1)) :
    W p l e R s m args below meth c H locs cells slots (MQ below (xr_Post eI Qq A) args s cells slots A) (F0 m pc ls [.int v]) :=
  W.iret hx hb hr (fun t ht _ => ⟨⟨v, rfl, by rw [ht]; exact hq⟩, hS.F ht⟩) hS.2.2 hdg hlocks
theorem xr_zret {Qq : Int32 → Heap → Prop} {v : Int32} {ty : FieldType} (hx : p.tables.exec = Jvm.exec) (hb : c.code = cc) (hr : meth.sig.returnType = some ty) (hn : narrow ty (.int v) = .int v) (hlocks : meth.locks = false) (hS : va_S A s.heap H locs) (hq : Qq v H) (hdg : decode cc pc = .ok (.ireturn, 1)) :
    W p l e R s m args below meth c H locs cells slots (MQ below (xr_Post eI Qq A) args s cells slots A) (F0 m pc ls [.int v]) :=
  W.zret hx hb hr hn (fun t ht _ => ⟨⟨v, rfl, by rw [ht]; exact hq⟩, hS.F ht⟩) hS.2.2 hdg hlocks
theorem xr_lret {Qq : Int64 → Heap → Prop} {v : Int64} (hx : p.tables.exec = Jvm.exec) (hb : c.code = cc) (hr : meth.sig.returnType = some .long) (hlocks : meth.locks = false) (hS : va_S A s.heap H locs) (hq : Qq v H) (hdg : decode cc pc = .ok (.lreturn, 1)) :
    W p l e R s m args below meth c H locs cells slots (MQ below (xr_Post eL Qq A) args s cells slots A) (F0 m pc ls [.long v]) :=
  W.lret hx hb hr (fun t ht _ => ⟨⟨v, rfl, by rw [ht]; exact hq⟩, hS.F ht⟩) hS.2.2 hdg hlocks
theorem xr_vret {Qq : Unit → Heap → Prop} (hx : p.tables.exec = Jvm.exec) (hb : c.code = cc) (hr : meth.sig.returnType = none) (hlocks : meth.locks = false) (hS : va_S A s.heap H locs) (hq : Qq () H) (hdg : decode cc pc = .ok (.return_, 1)) :
    W p l e R s m args below meth c H locs cells slots (MQ below (xr_Post eV Qq A) args s cells slots A) (F0 m pc ls []) :=
  W.vret hx hb hr (fun t ht _ => ⟨⟨(), rfl, by rw [ht]; exact hq⟩, hS.F ht⟩) hS.2.2 hdg hlocks
theorem xr_aret {Qq : Value → Heap → Prop} {v : Value} {rt : FieldType} (hx : p.tables.exec = Jvm.exec) (hb : c.code = cc) (hr : meth.sig.returnType = some rt) (hrt : (∃ n, rt = .object n) ∨ ∃ t, rt = .array t) (hv : v = .null ∨ ∃ a, v = .ref a) (hlocks : meth.locks = false) (hS : va_S A s.heap H locs) (hq : Qq v H) (hdg : decode cc pc = .ok (.areturn, 1)) :
    W p l e R s m args below meth c H locs cells slots (MQ below (xr_Post eR Qq A) args s cells slots A) (F0 m pc ls [v]) :=
  W.aret hx hb hr hrt hv (fun t ht _ => ⟨⟨v, rfl, by rw [ht]; exact hq⟩, hS.F ht⟩) hS.2.2 hdg hlocks
/-- a field of a known object: where it lies, and how a new value of it looks -/
theorem xr_fld {own C : String} {T : u_T} {N ci : Nat} {Ts : List Cond} (hts : ∀ w ∈ Ts, w.before args s = true) (hin : ∀ w ∈ u_ws C T N, w ∈ Ts) (ty0 : Nat → FieldType) (hty : ∀ k, k < N → parseFieldDescriptor (T k).2.2.1 = some (ty0 k)) (hnm : ∀ a, a < N → ∀ b, b < N → a ≠ b → (T a).2.1 ≠ (T b).2.1) (hK : va_K D cl tys s) {fs : List Value} (hP : va_at D cl (a, .inr (ci, fs)) H) (hc : cl[ci]? = some (C, T, N)) (k : Nat) (hk : k < N) :
    ∃ (cf : ClassId) (kf : Class) (fi : Nat) (f : Field) (cell : Cell) (kC : Class), s.fieldFound? (T k).1 (T k).2.1 (T k).2.2.1 = some (cf, kf, fi, f) ∧ f.isStatic = false ∧ s.vm.findClass C = some (D.1 ci) ∧ s.vm.classes[D.1 ci]? = some kC ∧ kC.kind = .ordinary ∧ H[a]? = some cell ∧ cell.cls = D.1 ci ∧ cell.vm = .none ∧ f.slot < cell.slots.size ∧
      ∀ (H1 : Heap) (v : Value), H1[a]? = some (cell.setSlot f.slot v) → k < fs.length → va_at D cl (a, .inr (ci, fs.set k v)) H1 := by
  have apart := va_apart (own := own) hts hin ty0 hty hnm hK hc
  obtain ⟨r, hr, cell, g1, g2, g3, g4⟩ := hP
  cases hr.symm.trans hc
  obtain ⟨hsl, hfc, kC, hkC, hord⟩ := hK.1 ci _ hc
  obtain ⟨cf, kf, fi, f, hf, hs⟩ := hsl k hk
  have hst := (u_facts hfc hkC (u_lays hts hin hk) hf).1
  refine ⟨cf, kf, fi, f, cell, kC, hf, hst, hfc, hkC, hord, g1, g2, g3, by rw [hs]; exact k2_hasslot (g4 k hk), fun H1 v e1 hl => ⟨_, hc, ?_⟩⟩
  rw [hs] at e1
  exact t_OB.to (V := updV (vp_V fs) k v) ⟨_, e1, g2, g3, t_set g4 apart hk v⟩ (fun j _ => vp_updV_set hl v j)
/-- writes: the one cell, and what stays -/
theorem xr_put (hexec : p.tables.exec = Jvm.exec) (hb : c.code = cc) {own C : String} {T : u_T} {N ci index : Nat} {Ts : List Cond} (hts : ∀ w ∈ Ts, w.before args s = true) (hin : ∀ w ∈ u_ws C T N, w ∈ Ts) (ty0 : Nat → FieldType) (hty : ∀ k, k < N → parseFieldDescriptor (T k).2.2.1 = some (ty0 k)) (hnm : ∀ a, a < N → ∀ b, b < N → a ≠ b → (T a).2.1 ≠ (T b).2.1) (hown : s.vm.findClass own = some m.cls) (hK : va_K D cl tys s) {fs : List Value} (hP : va_at D cl (a, .inr (ci, fs)) H) (hS0 : va_S A H0 H locs) (hA : A a) (hc : cl[ci]? = some (C, T, N)) (k : Nat) (hk : k < N) (hlink : (Cond.fieldLink own index (T k).1 (T k).2.1 (T k).2.2.1).before args s = true) (hfin : (T k).2.2.2 = false) {ty : FieldType} {v : Value} (hd : parseFieldDescriptor (T k).2.2.1 = some ty) (hn : narrow ty v = v) (hfit : fits ty v = true) (hl : k < fs.length)
    (hdg : decode cc pc = .ok (.putfield index, 3)) (kk : ∀ (H1 : Heap) (locs1 : List Loc), H1.size = H.size → (∀ q : Nat, q ≠ a → H1[q]? = H[q]?) → va_at D cl (a, .inr (ci, fs.set k v)) H1 → va_S A H0 H1 locs1 → W p l e R s m args below meth c H1 locs1 cells slots Q (F0 m (pc + 3) ls rest)) : W p l e R s m args below meth c H locs cells slots Q (F0 m pc ls (v :: .ref a :: rest)) := by
  obtain ⟨cf, kf, fi, f, cell, kC, h1, h2, h3, h4, h5, h6, h7, h8, h9, h10⟩ := xr_fld (own := own) hts hin ty0 hty hnm hK hP hc k hk
  have hlay := hts _ (hin _ (u_in_lay hk))
  unfold u_lay at hlay
  rw [if_neg (by rw [hfin]; decide)] at hlay
  exact W.putK hexec hb (f := f) ⟨hown, hlink, ⟨_, _, _, h1⟩, h2⟩ (by rw [h7]; exact u_store h3 h4 h5 hlay h1 hd hn hfit) h6 h8 h9 rfl rfl hdg fun H' e1 e2 e3 => kk H' _ e2 e3 (h10 H' v e1 hl) (hS0.put e2 e3 hA)
theorem xr_putF (hexec : p.tables.exec = Jvm.exec) (hb : c.code = cc) {own C : String} {T : u_T} {N ci index : Nat} {Ts : List Cond} (hts : ∀ w ∈ Ts, w.before args s = true) (hin : ∀ w ∈ u_ws C T N, w ∈ Ts) (ty0 : Nat → FieldType) (hty : ∀ k, k < N → parseFieldDescriptor (T k).2.2.1 = some (ty0 k)) (hnm : ∀ a, a < N → ∀ b, b < N → a ≠ b → (T a).2.1 ≠ (T b).2.1) (hown : s.vm.findClass own = some m.cls) (hK : va_K D cl tys s) {fs : List Value} (hP : va_at D cl (a, .inr (ci, fs)) H) (hS0 : va_S A H0 H locs) (hA : A a) (hc : cl[ci]? = some (C, T, N)) (k : Nat) (hk : k < N) (hlink : (Cond.fieldLink own index (T k).1 (T k).2.1 (T k).2.2.1).before args s = true) (hfin : (T k).2.2.2 = true) (hin2 : meth.name = "<init>") (hdecl : (T k).1 = own) {ty : FieldType} {v : Value} (hd : parseFieldDescriptor (T k).2.2.1 = some ty) (hn : narrow ty v = v) (hfit : fits ty v = true) (hl : k < fs.length)
    (hdg : decode cc pc = .ok (.putfield index, 3)) (kk : ∀ (H1 : Heap) (locs1 : List Loc), H1.size = H.size → (∀ q : Nat, q ≠ a → H1[q]? = H[q]?) → va_at D cl (a, .inr (ci, fs.set k v)) H1 → va_S A H0 H1 locs1 → W p l e R s m args below meth c H1 locs1 cells slots Q (F0 m (pc + 3) ls rest)) : W p l e R s m args below meth c H locs cells slots Q (F0 m pc ls (v :: .ref a :: rest)) := by
  obtain ⟨cf, kf, fi, f, cell, kC, h1, h2, h3, h4, h5, h6, h7, h8, h9, h10⟩ := xr_fld (own := own) hts hin ty0 hty hnm hK hP hc k hk
  have hlay := hts _ (hin _ (u_in_lay hk))
  unfold u_lay at hlay
  rw [if_pos hfin] at hlay
  have hcf : m.cls = cf := by
    obtain ⟨_, _, c', _, _, _, -, -, hf', -, -, -, hown2, -⟩ := Cond.laysFinal_spec hlay
    have e1 : c' = cf := by have := h1.symm.trans hf'; simp at this; exact this.1.symm
    rw [hdecl] at hown2
    rw [← e1]
    exact Option.some.inj (hown.symm.trans hown2)
  exact W.putFinK hexec hb hown hlink h1 h2 hcf hin2 (by rw [h7]; exact u_fits h3 h4 h5 (Or.inr hlay) h1 hd hn hfit) h6 h8 h9 rfl rfl hdg fun H' e1 e2 e3 => kk H' _ e2 e3 (h10 H' v e1 hl) (hS0.put e2 e3 hA)
/-- arrays of ints and chars, and of references -/
def xr_ia (H : Heap) (a : Nat) (cA : ClassId) (n : Nat) (f : Nat → Int32) : Prop := H[a]? = some (vp_cell cA (n, .inl f))
def xr_qa (H : Heap) (a : Nat) (cA : ClassId) (n : Nat) (f : Nat → Option Nat) : Prop := H[a]? = some (vp_cell cA (n, .inr (.inr (.inr (.inr f)))))
theorem xr_ia.kept {H H1 : Heap} {a : Nat} {cA : ClassId} {n : Nat} {f : Nat → Int32} (h : xr_ia H a cA n f) (hq : H1[a]? = H[a]?) : xr_ia H1 a cA n f := hq.trans h
theorem xr_qa.kept {H H1 : Heap} {a : Nat} {cA : ClassId} {n : Nat} {f : Nat → Option Nat} (h : xr_qa H a cA n f) (hq : H1[a]? = H[a]?) : xr_qa H1 a cA n f := hq.trans h
theorem xr_ia.lt {H : Heap} {a : Nat} {cA : ClassId} {n : Nat} {f : Nat → Int32} (h : xr_ia H a cA n f) : a < H.size := (Array.getElem?_eq_some_iff.mp h).1
theorem xr_qa.lt {H : Heap} {a : Nat} {cA : ClassId} {n : Nat} {f : Nat → Option Nat} (h : xr_qa H a cA n f) : a < H.size := (Array.getElem?_eq_some_iff.mp h).1
theorem xr_arrV_to {cA : ClassId} {n : Nat} {f g : Nat → Value} (h : ∀ j, j < n → f j = g j) : arrV cA n f = arrV cA n g := by
  unfold arrV
  congr 1
  apply Array.ext
  · simp
  · intro j h1 h2
    simp only [Array.getElem_ofFn]
    exact h j (by simpa using h1)
theorem xr_ia.to {H : Heap} {a : Nat} {cA : ClassId} {n : Nat} {f g : Nat → Int32} (h : xr_ia H a cA n f) (hfg : ∀ j, j < n → f j = g j) : xr_ia H a cA n g := by
  unfold xr_ia at h ⊢
  rw [h, vp_cell_i, vp_cell_i]
  exact congrArg some (xr_arrV_to fun j hj => by rw [hfg j hj])
theorem xr_iald (hexec : p.tables.exec = Jvm.exec) (hb : c.code = cc) (hK : va_K D cl tys s) {cA : ClassId} {n : Nat} {f : Nat → Int32} (ha : xr_ia H a cA n f) (t0 : Nat) (ht : tys[t0]? = some (cA, .int)) {i : Int32} (hin : vp_in i n) (hdg : decode cc pc = .ok (.iaload, 1))
    (kk : W p l e R s m args below meth c H locs cells slots Q (F0 m (pc + 1) ls (.int (f i.toNatClampNeg) :: rest))) : W p l e R s m args below meth c H locs cells slots Q (F0 m pc ls (.int i :: .ref a :: rest)) :=
  va_iald (D := D) (cl := cl) (ws := [(a, .inl (cA, n, .inl f))]) hexec hb hK (xr_one ha) 0 t0 rfl ht hin hdg kk
theorem xr_cald (hexec : p.tables.exec = Jvm.exec) (hb : c.code = cc) (hK : va_K D cl tys s) {cA : ClassId} {n : Nat} {f : Nat → Int32} (ha : xr_ia H a cA n f) (t0 : Nat) (ht : tys[t0]? = some (cA, .char)) {i : Int32} (hin : vp_in i n) (hdg : decode cc pc = .ok (.caload, 1))
    (kk : W p l e R s m args below meth c H locs cells slots Q (F0 m (pc + 1) ls (.int (f i.toNatClampNeg) :: rest))) : W p l e R s m args below meth c H locs cells slots Q (F0 m pc ls (.int i :: .ref a :: rest)) :=
  va_cald (D := D) (cl := cl) (ws := [(a, .inl (cA, n, .inl f))]) hexec hb hK (xr_one ha) 0 t0 rfl ht hin hdg kk
theorem xr_aald (hexec : p.tables.exec = Jvm.exec) (hb : c.code = cc) (hK : va_K D cl tys s) {cA : ClassId} {C : String} {n : Nat} {f : Nat → Option Nat} (ha : xr_qa H a cA n f) (t0 : Nat) (ht : tys[t0]? = some (cA, .object C)) {i : Int32} {v : Nat} (hin : vp_in i n) (hv : f i.toNatClampNeg = some v) (hdg : decode cc pc = .ok (.aaload, 1))
    (kk : W p l e R s m args below meth c H locs cells slots Q (F0 m (pc + 1) ls (.ref v :: rest))) : W p l e R s m args below meth c H locs cells slots Q (F0 m pc ls (.int i :: .ref a :: rest)) := by
  refine va_aldq (D := D) (cl := cl) (ws := [(a, .inl (cA, n, .inr (.inr (.inr (.inr f)))))]) hexec hb hK (xr_one ha) 0 t0 rfl ht hin hdg ?_
  rw [hv]
  exact kk
theorem xr_alen (hexec : p.tables.exec = Jvm.exec) (hb : c.code = cc) (hK : va_K D cl tys s) {cA : ClassId} {n : Nat} {f : Nat → Int32} (ha : xr_ia H a cA n f) (t0 : Nat) {ty : FieldType} (ht : tys[t0]? = some (cA, ty)) (hdg : decode cc pc = .ok (.arraylength, 1))
    (kk : W p l e R s m args below meth c H locs cells slots Q (F0 m (pc + 1) ls (.int (nI n) :: rest))) : W p l e R s m args below meth c H locs cells slots Q (F0 m pc ls (.ref a :: rest)) :=
  va_alen (D := D) (cl := cl) (ws := [(a, .inl (cA, n, .inl f))]) hexec hb hK (xr_one ha) 0 t0 rfl ht (v := nI n) rfl hdg kk
theorem xr_qlen (hexec : p.tables.exec = Jvm.exec) (hb : c.code = cc) (hK : va_K D cl tys s) {cA : ClassId} {n : Nat} {f : Nat → Option Nat} (ha : xr_qa H a cA n f) (t0 : Nat) {ty : FieldType} (ht : tys[t0]? = some (cA, ty)) (hdg : decode cc pc = .ok (.arraylength, 1))
    (kk : W p l e R s m args below meth c H locs cells slots Q (F0 m (pc + 1) ls (.int (nI n) :: rest))) : W p l e R s m args below meth c H locs cells slots Q (F0 m pc ls (.ref a :: rest)) :=
  va_alen (D := D) (cl := cl) (ws := [(a, .inl (cA, n, .inr (.inr (.inr (.inr f)))))]) hexec hb hK (xr_one ha) 0 t0 rfl ht (v := nI n) rfl hdg kk
theorem xr_iast (hexec : p.tables.exec = Jvm.exec) (hb : c.code = cc) (hK : va_K D cl tys s) (hS : va_S A H0 H locs) (hA : A a) {cA : ClassId} {n : Nat} {f : Nat → Int32} (ha : xr_ia H a cA n f) (t0 : Nat) (ht : tys[t0]? = some (cA, .int)) {i : Int32} {x : Int32} (hin : vp_in i n) (hdg : decode cc pc = .ok (.iastore, 1))
    (kk : ∀ (H1 : Heap) (locs1 : List Loc), H1.size = H.size → (∀ q : Nat, q ≠ a → H1[q]? = H[q]?) → xr_ia H1 a cA n (upd f i.toNatClampNeg x) → va_S A H0 H1 locs1 → W p l e R s m args below meth c H1 locs1 cells slots Q (F0 m (pc + 1) ls rest)) : W p l e R s m args below meth c H locs cells slots Q (F0 m pc ls (.int x :: .int i :: .ref a :: rest)) := by
  refine W.iast hexec hb ha ((hK.2 t0 _ ht).1 n (fun j => .int (f j))) (fun q => by cases q) (by show ¬ (i < 0 ∨ (arrV _ _ _).slots.size ≤ _); rw [arrV_size]; exact hin) rfl rfl hdg fun H1 e z oq => ?_
  refine kk H1 _ z oq ?_ (hS.put z oq hA)
  show H1[a]? = some (vp_cell _ _)
  rw [e]
  rw [vp_cell_i, vp_cell_i, arrV_store]
  congr 2
  funext q
  by_cases hq : q = i.toNatClampNeg
  · subst hq
    simp [updV, upd]
  · simp [updV, upd, hq]
theorem xr_cast (hexec : p.tables.exec = Jvm.exec) (hb : c.code = cc) (hK : va_K D cl tys s) (hS : va_S A H0 H locs) (hA : A a) {cA : ClassId} {n : Nat} {f : Nat → Int32} (ha : xr_ia H a cA n f) (t0 : Nat) (ht : tys[t0]? = some (cA, .char)) {i : Int32} {x : Int32} (hin : vp_in i n) (hdg : decode cc pc = .ok (.castore, 1))
    (kk : ∀ (H1 : Heap) (locs1 : List Loc), H1.size = H.size → (∀ q : Nat, q ≠ a → H1[q]? = H[q]?) → xr_ia H1 a cA n (upd f i.toNatClampNeg (vp_nar .char x)) → va_S A H0 H1 locs1 → W p l e R s m args below meth c H1 locs1 cells slots Q (F0 m (pc + 1) ls rest)) : W p l e R s m args below meth c H locs cells slots Q (F0 m pc ls (.int x :: .int i :: .ref a :: rest)) := by
  refine W.cast hexec hb ha ((hK.2 t0 _ ht).1 n (fun j => .int (f j))) (fun q => by cases q) (by show ¬ (i < 0 ∨ (arrV _ _ _).slots.size ≤ _); rw [arrV_size]; exact hin) rfl rfl hdg fun H1 e z oq => ?_
  refine kk H1 _ z oq ?_ (hS.put z oq hA)
  show H1[a]? = some (vp_cell _ _)
  rw [e]
  rw [vp_cell_i, vp_cell_i, arrV_store]
  congr 2
  funext q
  by_cases hq : q = i.toNatClampNeg
  · subst hq
    simp [updV, upd, vp_nar]
    try rfl
  · simp [updV, upd, hq]
end XRW
section XRN
variable {p : Program} {l : Launch} {e : Env} {R : Room} {s : State} {m : MethodId} {args : Array Value} {below : List Frame} {meth : Method} {c : Code} {H : Heap} {locs : List Loc} {cells slots : Nat} {Q : State → Prop}
variable {cc : ByteArray} {pc : Nat} {ls : Array Slot} {rest : List Value} {D : va_G} {cl : List vw_C} {A : Nat → Prop} {a : Nat} {tys : List (ClassId × FieldType)} {H0 : Heap}
theorem xr_grow {H1 : Heap} (hS : va_S A H0 H locs) (z : H1.size = H.size + 1) (o : ∀ q : Nat, q < H.size → H1[q]? = H[q]?) : va_S A H0 H1 locs :=
  ⟨by rw [z]; exact Nat.le_succ_of_le hS.1, fun q h1 h2 => (o q (Nat.lt_of_lt_of_le h1 hS.1)).trans (hS.2.1 q h1 h2), hS.2.2⟩
theorem xr_new (hexec : p.tables.exec = Jvm.exec) (hb : c.code = cc) {own C : String} {T : u_T} {N ci index : Nat} {Ts : List Cond} (hts : ∀ w ∈ Ts, w.before args s = true) (hin : ∀ w ∈ u_ws C T N, w ∈ Ts) (ty : Nat → FieldType) (hty : ∀ k, k < N → parseFieldDescriptor (T k).2.2.1 = some (ty k)) (hown : s.vm.findClass own = some m.cls) (hcl : (Cond.classLink own index C).before args s = true) (hinst : (Cond.instantiable C N).before args s = true) (hini : (Cond.initialized C).before args s = true)
    (hK : va_K D cl tys s) (hS : va_S A H0 H locs) (hc : cl[ci]? = some (C, T, N)) {fs : List Value} (hfs : ∀ j, j < N → defaultValue (ty j) = vp_V fs j) (hcells : cells + 1 ≤ R.cells) (hslots : slots + N ≤ R.slots) (hdg : decode cc pc = .ok (.new index, 3))
    (kk : ∀ H1 : Heap, H1.size = H.size + 1 → (∀ q : Nat, q < H.size → H1[q]? = H[q]?) → va_at D cl (H.size, .inr (ci, fs)) H1 → va_S A H0 H1 locs → W p l e R s m args below meth c H1 locs (cells + 1) (slots + N) Q (F0 m (pc + 3) ls (.ref H.size :: rest))) : W p l e R s m args below meth c H locs cells slots Q (F0 m pc ls rest) := by
  have hKn := hK.1 ci _ hc
  refine W.newcK hexec hb hown hcl hinst hini rfl hdg hcells hslots hKn.2.1 rfl fun H1 kC hkC e1 z1 o1 => ?_
  exact kk H1 z1 o1 ⟨_, hc, (u_born ty hts hin hKn hkC e1 hty).to hfs⟩ (xr_grow hS z1 o1)
theorem xr_newa (hexec : p.tables.exec = Jvm.exec) (hb : c.code = cc) {atype : ArrayType} (harr : (Cond.arrayClass (newarray.typeOf atype)).before args s = true) {cA : ClassId} (hra : s.vm.findClass ("[" ++ (newarray.typeOf atype).toString) = some cA) (hdv : defaultValue (newarray.typeOf atype) = .int 0) (hS : va_S A H0 H locs)
    {n : Int32} {N : Nat} (hn : ¬ n < 0) (hN : n.toNatClampNeg = N) (hbytes : N * componentBytes (newarray.typeOf atype) ≤ 536870912) (hcells : cells + 1 ≤ R.cells) (hslots : slots + N ≤ R.slots) (hdg : decode cc pc = .ok (.newarray atype, 2))
    (kk : ∀ H1 : Heap, H1.size = H.size + 1 → (∀ q : Nat, q < H.size → H1[q]? = H[q]?) → xr_ia H1 H.size cA N (fun _ => 0) → va_S A H0 H1 locs → W p l e R s m args below meth c H1 locs (cells + 1) (slots + N) Q (F0 m (pc + 2) ls (.ref H.size :: rest))) : W p l e R s m args below meth c H locs cells slots Q (F0 m pc ls (.int n :: rest)) := by
  refine va_newaK hexec hb harr rfl hdg rfl hn hN hbytes hcells hslots rfl fun H1 cA' e1 z1 o1 _ hNm => ?_
  cases hNm.symm.trans hra
  refine kk H1 z1 o1 ?_ (xr_grow hS z1 o1)
  rw [hdv] at e1
  exact e1
theorem xr_newq (hexec : p.tables.exec = Jvm.exec) (hb : c.code = cc) {own C : String} {index : Nat} (hown : s.vm.findClass own = some m.cls) (hclink : (Cond.classLink own index C).before args s = true) (hover : va_AO C s) (hK : va_K D cl tys s) (t0 : Nat) {cA : ClassId} (ht : tys[t0]? = some (cA, .object C)) (hS : va_S A H0 H locs)
    {n : Int32} {N : Nat} (hn : ¬ n < 0) (hN : n.toNatClampNeg = N) (hbytes : N * 4 ≤ 536870912) (hcells : cells + 1 ≤ R.cells) (hslots : slots + N ≤ R.slots) (hdg : decode cc pc = .ok (.anewarray index, 3))
    (kk : ∀ H1 : Heap, H1.size = H.size + 1 → (∀ q : Nat, q < H.size → H1[q]? = H[q]?) → xr_qa H1 H.size cA N (fun _ => none) → va_S A H0 H1 locs → W p l e R s m args below meth c H1 locs (cells + 1) (slots + N) Q (F0 m (pc + 3) ls (.ref H.size :: rest))) : W p l e R s m args below meth c H locs cells slots Q (F0 m pc ls (.int n :: rest)) := by
  subst hN
  obtain ⟨-, -, -, -, -, hnm⟩ := (hK.2 t0 _ ht).2
  refine W.anew hexec hb hown hclink (va_AO.use hover) rfl hdg rfl hn hbytes hcells hslots fun cA' kA comp f1 f2 f3 f4 => ?_
  cases f1.symm.trans hnm
  have z1 : (H.push ({ cls := cA, slots := Array.replicate n.toNatClampNeg .null, vm := .none } : Cell)).size = H.size + 1 := Array.size_push ..
  have o1 : ∀ q : Nat, q < H.size → (H.push ({ cls := cA, slots := Array.replicate n.toNatClampNeg .null, vm := .none } : Cell))[q]? = H[q]? := fun q hq => by rw [Array.getElem?_push, if_neg (Nat.ne_of_lt hq)]
  refine kk _ z1 o1 ?_ (xr_grow hS z1 o1)
  unfold xr_qa
  rw [Array.getElem?_push_size, vp_cell_q, arrV_new]
  rfl
theorem xr_astq (hexec : p.tables.exec = Jvm.exec) (hb : c.code = cc) (hK : va_K D cl tys s) (hS : va_S A H0 H locs) (hA : A a) {cA : ClassId} {n : Nat} {f : Nat → Option Nat} (ha : xr_qa H a cA n f) (t0 : Nat) {r : vw_C} (ht : tys[t0]? = some (cA, .object r.1)) {v ci : Nat} {vs : List Value} (hv : va_at D cl (v, .inr (ci, vs)) H) (hc : cl[ci]? = some r) {i : Int32} (hin : vp_in i n) (hdg : decode cc pc = .ok (.aastore, 1))
    (kk : ∀ (H1 : Heap) (locs1 : List Loc), H1.size = H.size → (∀ q : Nat, q ≠ a → H1[q]? = H[q]?) → xr_qa H1 a cA n (va_up f i.toNatClampNeg (some v)) → va_S A H0 H1 locs1 → W p l e R s m args below meth c H1 locs1 cells slots Q (F0 m (pc + 1) ls rest)) : W p l e R s m args below meth c H locs cells slots Q (F0 m pc ls (.ref v :: .int i :: .ref a :: rest)) := by
  obtain ⟨_, _, cellV, g1, g2, g3, -⟩ := hv
  have hcls := (hK.1 ci r hc).2
  obtain ⟨kA, comp, k1, k2, k3, -⟩ := (hK.2 t0 _ ht).2
  cases k3.symm.trans hcls.1
  obtain ⟨kC, hkC, -⟩ := hcls.2
  refine W.aast hexec hb ha (fun q h => by cases h) (fun h => by cases h) k1 k2 rfl hkC ⟨fun q => hin (Or.inl q), by show _ < (arrV _ _ _).slots.size; rw [arrV_size]; exact Nat.not_le.mp fun q => hin (Or.inr q)⟩ g1 (fun q h => by rw [g3] at h; cases h) (by rw [g2]; exact hkC) (by rw [g2]; exact va_assign hcls) rfl rfl hdg fun H1 e z oq => ?_
  refine kk H1 _ z oq ?_ (hS.put z oq hA)
  unfold xr_qa
  rw [e, vp_cell_q, vp_cell_q, arrV_store]
  refine congrArg some (xr_arrV_to fun q _ => ?_)
  by_cases hq : q = i.toNatClampNeg
  · subst hq
    simp [updV, va_up, va_rf]
  · simp [updV, va_up, hq]
end XRN
section XRC
variable {p : Program} {l : Launch} {e : Env} {R : Room} {s : State} {m : MethodId} {args : Array Value} {below : List Frame} {meth : Method} {c : Code} {H : Heap} {locs : List Loc} {cells slots : Nat} {Q : State → Prop}
variable {cc : ByteArray} {pc : Nat} {ls : Array Slot} {rest st0 : List Value} {A0 A1 : Nat → Prop} {H0 : Heap} {free : Addr → Prop}
variable {α : Type} {emb : α → Option Value} {Q1 : α → Heap → Prop} {mc ms : Nat} {a : Array Value}
/-- behind a call -/
theorem xr_back (hr : va_Run p l e R s m args below meth c H locs cells slots mc ms (F0 m pc ls st0) rest (xr_Post emb Q1 A1 a) A1) (hS : va_S A0 H0 H locs) (hA : ∀ q, A1 q → A0 q)
    (kk : ∀ (r : α) (H1 : Heap) (locs1 : List Loc), Q1 r H1 → H.size ≤ H1.size → (∀ q : Nat, q < H.size → ¬ A1 q → H1[q]? = H[q]?) → va_S A0 H0 H1 locs1 → W p l e R s m args below meth c H1 locs1 (cells + mc) (slots + ms) Q (F0 m (pc + 3) ls ((emb r).toList ++ rest))) : W p l e R s m args below meth c H locs cells slots Q (F0 m pc ls st0) := by
  intro T hT X
  obtain ⟨v, st₀, t, T', L, h0, X', hL, e1, e2, ⟨⟨r, hv, hp⟩, hz, hk⟩, st⟩ := hr T hT X
  have hv' : v = emb r := Outcome.returned.inj hv
  subst hv'
  rw [h0] at hz hk
  obtain ⟨t2, a1, b1⟩ := kk r t.heap (locs ++ L) hp hz hk ⟨Nat.le_trans hS.1 hz, fun q h1 h2 => by rw [hk q (Nat.lt_of_lt_of_le h1 hS.1) (fun z => h2 (hA q z))]; exact hS.2.1 q h1 h2, fun q hq => by
      rcases List.mem_append.mp hq with h | h
      · exact hS.2.2 q h
      · exact hA _ (hL q h)⟩ T' e1 X'
  exact ⟨t2, st t2 a1, b1⟩
end XRC
section XRD
variable {p : Program} {l : Launch} {e : Env} {R : Room} {s : State} {m : MethodId} {args : Array Value} {below : List Frame} {meth : Method} {c : Code} {H : Heap} {locs : List Loc} {cells slots : Nat} {Q : State → Prop}
variable {cc bytes : ByteArray} {pc nL maxL n index : Nat} {ls : Array Slot} {rest st0 As : List Value} {A0 A1 : Nat → Prop} {H0 : Heap} {K : State → Prop} {y : MethodName} {ws Ts : List Cond} {rm : Room} {own C host : String} {b : Nat} {ret : Option FieldType}
variable {α : Type} {emb : α → Option Value} {Q1 : α → Heap → Prop}
theorem xr_V (S : CallFix p m c cc nL s args Ts own) (hko : xr_ok K) (hK : K s) (hM : Ctr l K y ws rm (.ref b :: As) H emb Q1 A1) (cw : CallW R s args own C index y bytes maxL ret ws rm rm.cells rm.slots n) (hrec : ∃ cell : Cell, H[b]? = some cell ∧ cell.vm.isStatics = false ∧ s.vm.findClass C = some cell.cls) (hn : As.length = n) (hsize : ls.size = nL) (hst : st0 = As.reverse ++ .ref b :: rest) (hW : (rest.map fun v => v.category).sum ≤ 8) (hdg : decode cc pc = .ok (.invokevirtual index, 3)) (hf : cells + rm.cells ≤ R.cells ∧ slots + rm.slots ≤ R.slots) (hS : va_S A0 H0 H locs) (hA : ∀ q, A1 q → A0 q)
    (kk : ∀ (r : α) (H1 : Heap) (locs1 : List Loc), Q1 r H1 → H.size ≤ H1.size → (∀ q : Nat, q < H.size → ¬ A1 q → H1[q]? = H[q]?) → va_S A0 H0 H1 locs1 → W p l e R s m args below meth c H1 locs1 (cells + rm.cells) (slots + rm.slots) Q (F0 m (pc + 3) ls ((emb r).toList ++ rest))) : W p l e R s m args below meth c H locs cells slots Q (F0 m pc ls st0) :=
  xr_back (va_runV (g := F0 m pc ls st0) S hM cw ⟨xr_blind hko _ _, hrec, fun U hU hW => ⟨rfl, hU, hko.1 s U hW hK⟩⟩ rfl hn hsize hst (lv_room hW) hdg hf) hS hA kk
theorem xr_S (S : CallFix p m c cc nL s args Ts own) (hko : xr_ok K) (hK : K s) (hM : Ctr l K y ws rm As H emb Q1 A1) (cw : CallB R s args own index y bytes maxL ret ws rm rm.cells rm.slots n ∧ (Cond.static y).before args s = true) (hn : As.length = n) (hsize : ls.size = nL) (hst : st0 = As.reverse ++ rest) (hW : (rest.map fun v => v.category).sum ≤ 8) (hdg : decode cc pc = .ok (.invokestatic index, 3)) (hf : cells + rm.cells ≤ R.cells ∧ slots + rm.slots ≤ R.slots) (hS : va_S A0 H0 H locs) (hA : ∀ q, A1 q → A0 q)
    (kk : ∀ (r : α) (H1 : Heap) (locs1 : List Loc), Q1 r H1 → H.size ≤ H1.size → (∀ q : Nat, q < H.size → ¬ A1 q → H1[q]? = H[q]?) → va_S A0 H0 H1 locs1 → W p l e R s m args below meth c H1 locs1 (cells + rm.cells) (slots + rm.slots) Q (F0 m (pc + 3) ls ((emb r).toList ++ rest))) : W p l e R s m args below meth c H locs cells slots Q (F0 m pc ls st0) :=
  xr_back (va_runS (g := F0 m pc ls st0) S hM cw ⟨xr_blind hko _ _, fun U hU hW => ⟨rfl, hU, hko.1 s U hW hK⟩⟩ rfl hn hsize hst (lv_room hW) hdg hf) hS hA kk
theorem xr_SN (S : CallFix p m c cc nL s args Ts own) (hko : xr_ok K) (hK : K s) (hM : Ctr l K y ws rm As H emb Q1 A1) (cw : va_CN R s args own index y host bytes maxL ret ws rm rm.cells rm.slots n ∧ (Cond.static y).before args s = true ∧ True) (hn : As.length = n) (hsize : ls.size = nL) (hst : st0 = As.reverse ++ rest) (hW : (rest.map fun v => v.category).sum ≤ 8) (hdg : decode cc pc = .ok (.invokestatic index, 3)) (hf : cells + rm.cells ≤ R.cells ∧ slots + rm.slots ≤ R.slots) (hS : va_S A0 H0 H locs) (hA : ∀ q, A1 q → A0 q)
    (kk : ∀ (r : α) (H1 : Heap) (locs1 : List Loc), Q1 r H1 → H.size ≤ H1.size → (∀ q : Nat, q < H.size → ¬ A1 q → H1[q]? = H[q]?) → va_S A0 H0 H1 locs1 → W p l e R s m args below meth c H1 locs1 (cells + rm.cells) (slots + rm.slots) Q (F0 m (pc + 3) ls ((emb r).toList ++ rest))) : W p l e R s m args below meth c H locs cells slots Q (F0 m pc ls st0) :=
  xr_back (va_runSN (g := F0 m pc ls st0) S hM cw ⟨xr_blind hko _ _, fun U hU hW => ⟨rfl, hU, hko.1 s U hW hK⟩⟩ rfl hn hsize hst (lv_room hW) hdg hf) hS hA kk
theorem xr_I (S : CallFix p m c cc nL s args Ts own) (hko : xr_ok K) (hK : K s) (hM : Ctr l K y ws rm (.ref b :: As) H emb Q1 A1) (cw : CallB R s args own index y bytes maxL none ws rm rm.cells rm.slots n ∧ y.name = "<init>" ∧ (Cond.instanceMethod y).before args s = true) (hn : As.length = n) (hsize : ls.size = nL) (hst : st0 = As.reverse ++ .ref b :: rest) (hW : (rest.map fun v => v.category).sum ≤ 8) (hdg : decode cc pc = .ok (.invokespecial index, 3)) (hf : cells + rm.cells ≤ R.cells ∧ slots + rm.slots ≤ R.slots) (hS : va_S A0 H0 H locs) (hA : ∀ q, A1 q → A0 q)
    (kk : ∀ (r : α) (H1 : Heap) (locs1 : List Loc), Q1 r H1 → H.size ≤ H1.size → (∀ q : Nat, q < H.size → ¬ A1 q → H1[q]? = H[q]?) → va_S A0 H0 H1 locs1 → W p l e R s m args below meth c H1 locs1 (cells + rm.cells) (slots + rm.slots) Q (F0 m (pc + 3) ls ((emb r).toList ++ rest))) : W p l e R s m args below meth c H locs cells slots Q (F0 m pc ls st0) :=
  xr_back (va_runI (g := F0 m pc ls st0) S hM cw ⟨xr_blind hko _ _, fun U hU hW => ⟨rfl, hU, hko.1 s U hW hK⟩⟩ rfl hn hsize hst (lv_room hW) hdg hf) hS hA kk
end XRD
end
section
theorem dX0_init_0 : decode cX0_init 0 = .ok (.aload_n 0, 1) := by decide +kernel
theorem dX0_init_1 : decode cX0_init 1 = .ok (.invokespecial 3, 3) := by decide +kernel
theorem dX0_init_4 : decode cX0_init 4 = .ok (.aload_n 0, 1) := by decide +kernel
theorem dX0_init_5 : decode cX0_init 5 = .ok (.iconst 4, 1) := by decide +kernel
theorem dX0_init_6 : decode cX0_init 6 = .ok (.newarray .int, 2) := by decide +kernel
theorem dX0_init_8 : decode cX0_init 8 = .ok (.putfield 9, 3) := by decide +kernel
theorem dX0_init_11 : decode cX0_init 11 = .ok (.return_, 1) := by decide +kernel
set_option maxRecDepth 20000 in
theorem ggX0_set_J7_fill_53178 : GoodIn wsX0_set wsJ7_fill_53178 := goodIn_r _ [5] (by decide +kernel) (by decide +kernel)
set_option maxRecDepth 20000 in
theorem gX0_set_J7_fill_53178 : GoodIn wsX0_set (va_wsS RX0 13 yJ7_fill_53178 wsJ7_fill_53178) := goodIn_app (goodIn_of _ (by decide +kernel)) ggX0_set_J7_fill_53178
theorem dX0_set_0 : decode cX0_set 0 = .ok (.aload_n 0, 1) := by decide +kernel
theorem dX0_set_1 : decode cX0_set 1 = .ok (.getfield 9, 3) := by decide +kernel
theorem dX0_set_4 : decode cX0_set 4 = .ok (.iconst 0, 1) := by decide +kernel
theorem dX0_set_5 : decode cX0_set 5 = .ok (.invokestatic 13, 3) := by decide +kernel
theorem dX0_set_8 : decode cX0_set 8 = .ok (.aload_n 0, 1) := by decide +kernel
theorem dX0_set_9 : decode cX0_set 9 = .ok (.getfield 9, 3) := by decide +kernel
theorem dX0_set_12 : decode cX0_set 12 = .ok (.iconst 0, 1) := by decide +kernel
theorem dX0_set_13 : decode cX0_set 13 = .ok (.iload_n 1, 1) := by decide +kernel
theorem dX0_set_14 : decode cX0_set 14 = .ok (.iastore, 1) := by decide +kernel
theorem dX0_set_15 : decode cX0_set 15 = .ok (.return_, 1) := by decide +kernel
theorem dX0_copy_0 : decode cX0_copy 0 = .ok (.aload_n 1, 1) := by decide +kernel
theorem dX0_copy_1 : decode cX0_copy 1 = .ok (.getfield 9, 3) := by decide +kernel
theorem dX0_copy_4 : decode cX0_copy 4 = .ok (.iconst 0, 1) := by decide +kernel
theorem dX0_copy_5 : decode cX0_copy 5 = .ok (.aload_n 0, 1) := by decide +kernel
theorem dX0_copy_6 : decode cX0_copy 6 = .ok (.getfield 9, 3) := by decide +kernel
theorem dX0_copy_9 : decode cX0_copy 9 = .ok (.iconst 0, 1) := by decide +kernel
theorem dX0_copy_10 : decode cX0_copy 10 = .ok (.iconst 4, 1) := by decide +kernel
theorem dX0_copy_11 : decode cX0_copy 11 = .ok (.invokestatic 19, 3) := by decide +kernel
theorem dX0_copy_14 : decode cX0_copy 14 = .ok (.return_, 1) := by decide +kernel
theorem dX0_wordAt_0 : decode cX0_wordAt 0 = .ok (.iload_n 1, 1) := by decide +kernel
theorem dX0_wordAt_1 : decode cX0_wordAt 1 = .ok (.ifCond .lt 17, 3) := by decide +kernel
theorem dX0_wordAt_4 : decode cX0_wordAt 4 = .ok (.iload_n 1, 1) := by decide +kernel
theorem dX0_wordAt_5 : decode cX0_wordAt 5 = .ok (.iconst 4, 1) := by decide +kernel
theorem dX0_wordAt_6 : decode cX0_wordAt 6 = .ok (.if_icmp .ge 12, 3) := by decide +kernel
theorem dX0_wordAt_9 : decode cX0_wordAt 9 = .ok (.aload_n 0, 1) := by decide +kernel
theorem dX0_wordAt_10 : decode cX0_wordAt 10 = .ok (.getfield 9, 3) := by decide +kernel
theorem dX0_wordAt_13 : decode cX0_wordAt 13 = .ok (.iload_n 1, 1) := by decide +kernel
theorem dX0_wordAt_14 : decode cX0_wordAt 14 = .ok (.iaload, 1) := by decide +kernel
theorem dX0_wordAt_15 : decode cX0_wordAt 15 = .ok (.goto 4, 3) := by decide +kernel
theorem dX0_wordAt_18 : decode cX0_wordAt 18 = .ok (.iconst 0, 1) := by decide +kernel
theorem dX0_wordAt_19 : decode cX0_wordAt 19 = .ok (.ireturn, 1) := by decide +kernel
theorem dX0_isZero_0 : decode cX0_isZero 0 = .ok (.aload_n 0, 1) := by decide +kernel
theorem dX0_isZero_1 : decode cX0_isZero 1 = .ok (.getfield 9, 3) := by decide +kernel
theorem dX0_isZero_4 : decode cX0_isZero 4 = .ok (.iconst 0, 1) := by decide +kernel
theorem dX0_isZero_5 : decode cX0_isZero 5 = .ok (.iaload, 1) := by decide +kernel
theorem dX0_isZero_6 : decode cX0_isZero 6 = .ok (.aload_n 0, 1) := by decide +kernel
theorem dX0_isZero_7 : decode cX0_isZero 7 = .ok (.getfield 9, 3) := by decide +kernel
theorem dX0_isZero_10 : decode cX0_isZero 10 = .ok (.iconst 1, 1) := by decide +kernel
theorem dX0_isZero_11 : decode cX0_isZero 11 = .ok (.iaload, 1) := by decide +kernel
theorem dX0_isZero_12 : decode cX0_isZero 12 = .ok (.ior, 1) := by decide +kernel
theorem dX0_isZero_13 : decode cX0_isZero 13 = .ok (.aload_n 0, 1) := by decide +kernel
theorem dX0_isZero_14 : decode cX0_isZero 14 = .ok (.getfield 9, 3) := by decide +kernel
theorem dX0_isZero_17 : decode cX0_isZero 17 = .ok (.iconst 2, 1) := by decide +kernel
theorem dX0_isZero_18 : decode cX0_isZero 18 = .ok (.iaload, 1) := by decide +kernel
theorem dX0_isZero_19 : decode cX0_isZero 19 = .ok (.ior, 1) := by decide +kernel
theorem dX0_isZero_20 : decode cX0_isZero 20 = .ok (.aload_n 0, 1) := by decide +kernel
theorem dX0_isZero_21 : decode cX0_isZero 21 = .ok (.getfield 9, 3) := by decide +kernel
theorem dX0_isZero_24 : decode cX0_isZero 24 = .ok (.iconst 3, 1) := by decide +kernel
theorem dX0_isZero_25 : decode cX0_isZero 25 = .ok (.iaload, 1) := by decide +kernel
theorem dX0_isZero_26 : decode cX0_isZero 26 = .ok (.ior, 1) := by decide +kernel
theorem dX0_isZero_27 : decode cX0_isZero 27 = .ok (.ifCond .ne 7, 3) := by decide +kernel
theorem dX0_isZero_30 : decode cX0_isZero 30 = .ok (.iconst 1, 1) := by decide +kernel
theorem dX0_isZero_31 : decode cX0_isZero 31 = .ok (.goto 4, 3) := by decide +kernel
theorem dX0_isZero_34 : decode cX0_isZero 34 = .ok (.iconst 0, 1) := by decide +kernel
theorem dX0_isZero_35 : decode cX0_isZero 35 = .ok (.ireturn, 1) := by decide +kernel
theorem dX0_isOne_0 : decode cX0_isOne 0 = .ok (.aload_n 0, 1) := by decide +kernel
theorem dX0_isOne_1 : decode cX0_isOne 1 = .ok (.getfield 9, 3) := by decide +kernel
theorem dX0_isOne_4 : decode cX0_isOne 4 = .ok (.iconst 0, 1) := by decide +kernel
theorem dX0_isOne_5 : decode cX0_isOne 5 = .ok (.iaload, 1) := by decide +kernel
theorem dX0_isOne_6 : decode cX0_isOne 6 = .ok (.iconst 1, 1) := by decide +kernel
theorem dX0_isOne_7 : decode cX0_isOne 7 = .ok (.if_icmp .ne 30, 3) := by decide +kernel
theorem dX0_isOne_10 : decode cX0_isOne 10 = .ok (.aload_n 0, 1) := by decide +kernel
theorem dX0_isOne_11 : decode cX0_isOne 11 = .ok (.getfield 9, 3) := by decide +kernel
theorem dX0_isOne_14 : decode cX0_isOne 14 = .ok (.iconst 1, 1) := by decide +kernel
theorem dX0_isOne_15 : decode cX0_isOne 15 = .ok (.iaload, 1) := by decide +kernel
theorem dX0_isOne_16 : decode cX0_isOne 16 = .ok (.aload_n 0, 1) := by decide +kernel
theorem dX0_isOne_17 : decode cX0_isOne 17 = .ok (.getfield 9, 3) := by decide +kernel
theorem dX0_isOne_20 : decode cX0_isOne 20 = .ok (.iconst 2, 1) := by decide +kernel
theorem dX0_isOne_21 : decode cX0_isOne 21 = .ok (.iaload, 1) := by decide +kernel
theorem dX0_isOne_22 : decode cX0_isOne 22 = .ok (.ior, 1) := by decide +kernel
theorem dX0_isOne_23 : decode cX0_isOne 23 = .ok (.aload_n 0, 1) := by decide +kernel
theorem dX0_isOne_24 : decode cX0_isOne 24 = .ok (.getfield 9, 3) := by decide +kernel
theorem dX0_isOne_27 : decode cX0_isOne 27 = .ok (.iconst 3, 1) := by decide +kernel
theorem dX0_isOne_28 : decode cX0_isOne 28 = .ok (.iaload, 1) := by decide +kernel
theorem dX0_isOne_29 : decode cX0_isOne 29 = .ok (.ior, 1) := by decide +kernel
theorem dX0_isOne_30 : decode cX0_isOne 30 = .ok (.ifCond .ne 7, 3) := by decide +kernel
theorem dX0_isOne_33 : decode cX0_isOne 33 = .ok (.iconst 1, 1) := by decide +kernel
theorem dX0_isOne_34 : decode cX0_isOne 34 = .ok (.goto 4, 3) := by decide +kernel
theorem dX0_isOne_37 : decode cX0_isOne 37 = .ok (.iconst 0, 1) := by decide +kernel
theorem dX0_isOne_38 : decode cX0_isOne 38 = .ok (.ireturn, 1) := by decide +kernel
theorem dX0_against_0 : decode cX0_against 0 = .ok (.iconst 3, 1) := by decide +kernel
theorem dX0_against_1 : decode cX0_against 1 = .ok (.istore_n 2, 1) := by decide +kernel
theorem dX0_against_2 : decode cX0_against 2 = .ok (.iload_n 2, 1) := by decide +kernel
theorem dX0_against_3 : decode cX0_against 3 = .ok (.ifCond .lt 56, 3) := by decide +kernel
theorem dX0_against_6 : decode cX0_against 6 = .ok (.aload_n 0, 1) := by decide +kernel
theorem dX0_against_7 : decode cX0_against 7 = .ok (.getfield 9, 3) := by decide +kernel
theorem dX0_against_10 : decode cX0_against 10 = .ok (.iload_n 2, 1) := by decide +kernel
theorem dX0_against_11 : decode cX0_against 11 = .ok (.iaload, 1) := by decide +kernel
theorem dX0_against_12 : decode cX0_against 12 = .ok (.aload_n 1, 1) := by decide +kernel
theorem dX0_against_13 : decode cX0_against 13 = .ok (.getfield 9, 3) := by decide +kernel
theorem dX0_against_16 : decode cX0_against 16 = .ok (.iload_n 2, 1) := by decide +kernel
theorem dX0_against_17 : decode cX0_against 17 = .ok (.iaload, 1) := by decide +kernel
theorem dX0_against_18 : decode cX0_against 18 = .ok (.if_icmp .eq 35, 3) := by decide +kernel
theorem dX0_against_21 : decode cX0_against 21 = .ok (.aload_n 0, 1) := by decide +kernel
theorem dX0_against_22 : decode cX0_against 22 = .ok (.getfield 9, 3) := by decide +kernel
theorem dX0_against_25 : decode cX0_against 25 = .ok (.iload_n 2, 1) := by decide +kernel
theorem dX0_against_26 : decode cX0_against 26 = .ok (.iaload, 1) := by decide +kernel
theorem dX0_against_27 : decode cX0_against 27 = .ok (.i2l, 1) := by decide +kernel
theorem dX0_against_28 : decode cX0_against 28 = .ok (.ldc2_w 25, 3) := by decide +kernel
theorem dX0_against_31 : decode cX0_against 31 = .ok (.land, 1) := by decide +kernel
theorem dX0_against_32 : decode cX0_against 32 = .ok (.aload_n 1, 1) := by decide +kernel
theorem dX0_against_33 : decode cX0_against 33 = .ok (.getfield 9, 3) := by decide +kernel
theorem dX0_against_36 : decode cX0_against 36 = .ok (.iload_n 2, 1) := by decide +kernel
theorem dX0_against_37 : decode cX0_against 37 = .ok (.iaload, 1) := by decide +kernel
theorem dX0_against_38 : decode cX0_against 38 = .ok (.i2l, 1) := by decide +kernel
theorem dX0_against_39 : decode cX0_against 39 = .ok (.ldc2_w 25, 3) := by decide +kernel
theorem dX0_against_42 : decode cX0_against 42 = .ok (.land, 1) := by decide +kernel
theorem dX0_against_43 : decode cX0_against 43 = .ok (.lcmp, 1) := by decide +kernel
theorem dX0_against_44 : decode cX0_against 44 = .ok (.ifCond .ge 7, 3) := by decide +kernel
theorem dX0_against_47 : decode cX0_against 47 = .ok (.iconst (-1), 1) := by decide +kernel
theorem dX0_against_48 : decode cX0_against 48 = .ok (.goto 4, 3) := by decide +kernel
theorem dX0_against_51 : decode cX0_against 51 = .ok (.iconst 1, 1) := by decide +kernel
theorem dX0_against_52 : decode cX0_against 52 = .ok (.ireturn, 1) := by decide +kernel
theorem dX0_against_53 : decode cX0_against 53 = .ok (.iinc 2 (-1), 3) := by decide +kernel
theorem dX0_against_56 : decode cX0_against 56 = .ok (.goto (-54), 3) := by decide +kernel
theorem dX0_against_59 : decode cX0_against 59 = .ok (.iconst 0, 1) := by decide +kernel
theorem dX0_against_60 : decode cX0_against 60 = .ok (.ireturn, 1) := by decide +kernel
theorem dX0_minus_0 : decode cX0_minus 0 = .ok (.lconst 0, 1) := by decide +kernel
theorem dX0_minus_1 : decode cX0_minus 1 = .ok (.lstore_n 2, 1) := by decide +kernel
theorem dX0_minus_2 : decode cX0_minus 2 = .ok (.iconst 0, 1) := by decide +kernel
theorem dX0_minus_3 : decode cX0_minus 3 = .ok (.istore 4, 2) := by decide +kernel
theorem dX0_minus_5 : decode cX0_minus 5 = .ok (.iload 4, 2) := by decide +kernel
theorem dX0_minus_7 : decode cX0_minus 7 = .ok (.iconst 4, 1) := by decide +kernel
theorem dX0_minus_8 : decode cX0_minus 8 = .ok (.if_icmp .ge 54, 3) := by decide +kernel
theorem dX0_minus_11 : decode cX0_minus 11 = .ok (.aload_n 0, 1) := by decide +kernel
theorem dX0_minus_12 : decode cX0_minus 12 = .ok (.getfield 9, 3) := by decide +kernel
theorem dX0_minus_15 : decode cX0_minus 15 = .ok (.iload 4, 2) := by decide +kernel
theorem dX0_minus_17 : decode cX0_minus 17 = .ok (.iaload, 1) := by decide +kernel
theorem dX0_minus_18 : decode cX0_minus 18 = .ok (.i2l, 1) := by decide +kernel
theorem dX0_minus_19 : decode cX0_minus 19 = .ok (.ldc2_w 25, 3) := by decide +kernel
theorem dX0_minus_22 : decode cX0_minus 22 = .ok (.land, 1) := by decide +kernel
theorem dX0_minus_23 : decode cX0_minus 23 = .ok (.aload_n 1, 1) := by decide +kernel
theorem dX0_minus_24 : decode cX0_minus 24 = .ok (.getfield 9, 3) := by decide +kernel
theorem dX0_minus_27 : decode cX0_minus 27 = .ok (.iload 4, 2) := by decide +kernel
theorem dX0_minus_29 : decode cX0_minus 29 = .ok (.iaload, 1) := by decide +kernel
theorem dX0_minus_30 : decode cX0_minus 30 = .ok (.i2l, 1) := by decide +kernel
theorem dX0_minus_31 : decode cX0_minus 31 = .ok (.ldc2_w 25, 3) := by decide +kernel
theorem dX0_minus_34 : decode cX0_minus 34 = .ok (.land, 1) := by decide +kernel
theorem dX0_minus_35 : decode cX0_minus 35 = .ok (.lsub, 1) := by decide +kernel
theorem dX0_minus_36 : decode cX0_minus 36 = .ok (.lload_n 2, 1) := by decide +kernel
theorem dX0_minus_37 : decode cX0_minus 37 = .ok (.ladd, 1) := by decide +kernel
theorem dX0_minus_38 : decode cX0_minus 38 = .ok (.lstore 5, 2) := by decide +kernel
theorem dX0_minus_40 : decode cX0_minus 40 = .ok (.aload_n 0, 1) := by decide +kernel
theorem dX0_minus_41 : decode cX0_minus 41 = .ok (.getfield 9, 3) := by decide +kernel
theorem dX0_minus_44 : decode cX0_minus 44 = .ok (.iload 4, 2) := by decide +kernel
theorem dX0_minus_46 : decode cX0_minus 46 = .ok (.lload 5, 2) := by decide +kernel
theorem dX0_minus_48 : decode cX0_minus 48 = .ok (.l2i, 1) := by decide +kernel
theorem dX0_minus_49 : decode cX0_minus 49 = .ok (.iastore, 1) := by decide +kernel
theorem dX0_minus_50 : decode cX0_minus 50 = .ok (.lload 5, 2) := by decide +kernel
theorem dX0_minus_52 : decode cX0_minus 52 = .ok (.bipush 32, 2) := by decide +kernel
theorem dX0_minus_54 : decode cX0_minus 54 = .ok (.lshr, 1) := by decide +kernel
theorem dX0_minus_55 : decode cX0_minus 55 = .ok (.lstore_n 2, 1) := by decide +kernel
theorem dX0_minus_56 : decode cX0_minus 56 = .ok (.iinc 4 1, 3) := by decide +kernel
theorem dX0_minus_59 : decode cX0_minus 59 = .ok (.goto (-54), 3) := by decide +kernel
theorem dX0_minus_62 : decode cX0_minus 62 = .ok (.return_, 1) := by decide +kernel
theorem dX0_times_0 : decode cX0_times 0 = .ok (.lconst 0, 1) := by decide +kernel
theorem dX0_times_1 : decode cX0_times 1 = .ok (.lstore_n 2, 1) := by decide +kernel
theorem dX0_times_2 : decode cX0_times 2 = .ok (.iconst 0, 1) := by decide +kernel
theorem dX0_times_3 : decode cX0_times 3 = .ok (.istore 4, 2) := by decide +kernel
theorem dX0_times_5 : decode cX0_times 5 = .ok (.iload 4, 2) := by decide +kernel
theorem dX0_times_7 : decode cX0_times 7 = .ok (.iconst 4, 1) := by decide +kernel
theorem dX0_times_8 : decode cX0_times 8 = .ok (.if_icmp .ge 44, 3) := by decide +kernel
theorem dX0_times_11 : decode cX0_times 11 = .ok (.aload_n 0, 1) := by decide +kernel
theorem dX0_times_12 : decode cX0_times 12 = .ok (.getfield 9, 3) := by decide +kernel
theorem dX0_times_15 : decode cX0_times 15 = .ok (.iload 4, 2) := by decide +kernel
theorem dX0_times_17 : decode cX0_times 17 = .ok (.iaload, 1) := by decide +kernel
theorem dX0_times_18 : decode cX0_times 18 = .ok (.i2l, 1) := by decide +kernel
theorem dX0_times_19 : decode cX0_times 19 = .ok (.ldc2_w 25, 3) := by decide +kernel
theorem dX0_times_22 : decode cX0_times 22 = .ok (.land, 1) := by decide +kernel
theorem dX0_times_23 : decode cX0_times 23 = .ok (.iload_n 1, 1) := by decide +kernel
theorem dX0_times_24 : decode cX0_times 24 = .ok (.i2l, 1) := by decide +kernel
theorem dX0_times_25 : decode cX0_times 25 = .ok (.lmul, 1) := by decide +kernel
theorem dX0_times_26 : decode cX0_times 26 = .ok (.lload_n 2, 1) := by decide +kernel
theorem dX0_times_27 : decode cX0_times 27 = .ok (.ladd, 1) := by decide +kernel
theorem dX0_times_28 : decode cX0_times 28 = .ok (.lstore 5, 2) := by decide +kernel
theorem dX0_times_30 : decode cX0_times 30 = .ok (.aload_n 0, 1) := by decide +kernel
theorem dX0_times_31 : decode cX0_times 31 = .ok (.getfield 9, 3) := by decide +kernel
theorem dX0_times_34 : decode cX0_times 34 = .ok (.iload 4, 2) := by decide +kernel
theorem dX0_times_36 : decode cX0_times 36 = .ok (.lload 5, 2) := by decide +kernel
theorem dX0_times_38 : decode cX0_times 38 = .ok (.l2i, 1) := by decide +kernel
theorem dX0_times_39 : decode cX0_times 39 = .ok (.iastore, 1) := by decide +kernel
theorem dX0_times_40 : decode cX0_times 40 = .ok (.lload 5, 2) := by decide +kernel
theorem dX0_times_42 : decode cX0_times 42 = .ok (.bipush 32, 2) := by decide +kernel
theorem dX0_times_44 : decode cX0_times 44 = .ok (.lushr, 1) := by decide +kernel
theorem dX0_times_45 : decode cX0_times 45 = .ok (.lstore_n 2, 1) := by decide +kernel
theorem dX0_times_46 : decode cX0_times 46 = .ok (.iinc 4 1, 3) := by decide +kernel
theorem dX0_times_49 : decode cX0_times 49 = .ok (.goto (-44), 3) := by decide +kernel
theorem dX0_times_52 : decode cX0_times 52 = .ok (.return_, 1) := by decide +kernel
theorem dX0_divide_0 : decode cX0_divide 0 = .ok (.iload_n 1, 1) := by decide +kernel
theorem dX0_divide_1 : decode cX0_divide 1 = .ok (.iconst 1, 1) := by decide +kernel
theorem dX0_divide_2 : decode cX0_divide 2 = .ok (.if_icmp .ge 5, 3) := by decide +kernel
theorem dX0_divide_5 : decode cX0_divide 5 = .ok (.iconst 0, 1) := by decide +kernel
theorem dX0_divide_6 : decode cX0_divide 6 = .ok (.ireturn, 1) := by decide +kernel
theorem dX0_divide_7 : decode cX0_divide 7 = .ok (.lconst 0, 1) := by decide +kernel
theorem dX0_divide_8 : decode cX0_divide 8 = .ok (.lstore_n 2, 1) := by decide +kernel
theorem dX0_divide_9 : decode cX0_divide 9 = .ok (.iconst 3, 1) := by decide +kernel
theorem dX0_divide_10 : decode cX0_divide 10 = .ok (.istore 4, 2) := by decide +kernel
theorem dX0_divide_12 : decode cX0_divide 12 = .ok (.iload 4, 2) := by decide +kernel
theorem dX0_divide_14 : decode cX0_divide 14 = .ok (.ifCond .lt 47, 3) := by decide +kernel
theorem dX0_divide_17 : decode cX0_divide 17 = .ok (.lload_n 2, 1) := by decide +kernel
theorem dX0_divide_18 : decode cX0_divide 18 = .ok (.bipush 32, 2) := by decide +kernel
theorem dX0_divide_20 : decode cX0_divide 20 = .ok (.lshl, 1) := by decide +kernel
theorem dX0_divide_21 : decode cX0_divide 21 = .ok (.aload_n 0, 1) := by decide +kernel
theorem dX0_divide_22 : decode cX0_divide 22 = .ok (.getfield 9, 3) := by decide +kernel
theorem dX0_divide_25 : decode cX0_divide 25 = .ok (.iload 4, 2) := by decide +kernel
theorem dX0_divide_27 : decode cX0_divide 27 = .ok (.iaload, 1) := by decide +kernel
theorem dX0_divide_28 : decode cX0_divide 28 = .ok (.i2l, 1) := by decide +kernel
theorem dX0_divide_29 : decode cX0_divide 29 = .ok (.ldc2_w 25, 3) := by decide +kernel
theorem dX0_divide_32 : decode cX0_divide 32 = .ok (.land, 1) := by decide +kernel
theorem dX0_divide_33 : decode cX0_divide 33 = .ok (.lor, 1) := by decide +kernel
theorem dX0_divide_34 : decode cX0_divide 34 = .ok (.lstore 5, 2) := by decide +kernel
theorem dX0_divide_36 : decode cX0_divide 36 = .ok (.aload_n 0, 1) := by decide +kernel
theorem dX0_divide_37 : decode cX0_divide 37 = .ok (.getfield 9, 3) := by decide +kernel
theorem dX0_divide_40 : decode cX0_divide 40 = .ok (.iload 4, 2) := by decide +kernel
theorem dX0_divide_42 : decode cX0_divide 42 = .ok (.lload 5, 2) := by decide +kernel
theorem dX0_divide_44 : decode cX0_divide 44 = .ok (.iload_n 1, 1) := by decide +kernel
theorem dX0_divide_45 : decode cX0_divide 45 = .ok (.i2l, 1) := by decide +kernel
theorem dX0_divide_46 : decode cX0_divide 46 = .ok (.ldiv, 1) := by decide +kernel
theorem dX0_divide_47 : decode cX0_divide 47 = .ok (.l2i, 1) := by decide +kernel
theorem dX0_divide_48 : decode cX0_divide 48 = .ok (.iastore, 1) := by decide +kernel
theorem dX0_divide_49 : decode cX0_divide 49 = .ok (.lload 5, 2) := by decide +kernel
theorem dX0_divide_51 : decode cX0_divide 51 = .ok (.iload_n 1, 1) := by decide +kernel
theorem dX0_divide_52 : decode cX0_divide 52 = .ok (.i2l, 1) := by decide +kernel
theorem dX0_divide_53 : decode cX0_divide 53 = .ok (.lrem, 1) := by decide +kernel
theorem dX0_divide_54 : decode cX0_divide 54 = .ok (.lstore_n 2, 1) := by decide +kernel
theorem dX0_divide_55 : decode cX0_divide 55 = .ok (.iinc 4 (-1), 3) := by decide +kernel
theorem dX0_divide_58 : decode cX0_divide 58 = .ok (.goto (-46), 3) := by decide +kernel
theorem dX0_divide_61 : decode cX0_divide 61 = .ok (.lload_n 2, 1) := by decide +kernel
theorem dX0_divide_62 : decode cX0_divide 62 = .ok (.l2i, 1) := by decide +kernel
theorem dX0_divide_63 : decode cX0_divide 63 = .ok (.ireturn, 1) := by decide +kernel
theorem dX0_modulo_0 : decode cX0_modulo 0 = .ok (.iload_n 1, 1) := by decide +kernel
theorem dX0_modulo_1 : decode cX0_modulo 1 = .ok (.iconst 1, 1) := by decide +kernel
theorem dX0_modulo_2 : decode cX0_modulo 2 = .ok (.if_icmp .ge 5, 3) := by decide +kernel
theorem dX0_modulo_5 : decode cX0_modulo 5 = .ok (.iconst 0, 1) := by decide +kernel
theorem dX0_modulo_6 : decode cX0_modulo 6 = .ok (.ireturn, 1) := by decide +kernel
theorem dX0_modulo_7 : decode cX0_modulo 7 = .ok (.lconst 0, 1) := by decide +kernel
theorem dX0_modulo_8 : decode cX0_modulo 8 = .ok (.lstore_n 2, 1) := by decide +kernel
theorem dX0_modulo_9 : decode cX0_modulo 9 = .ok (.iconst 3, 1) := by decide +kernel
theorem dX0_modulo_10 : decode cX0_modulo 10 = .ok (.istore 4, 2) := by decide +kernel
theorem dX0_modulo_12 : decode cX0_modulo 12 = .ok (.iload 4, 2) := by decide +kernel
theorem dX0_modulo_14 : decode cX0_modulo 14 = .ok (.ifCond .lt 30, 3) := by decide +kernel
theorem dX0_modulo_17 : decode cX0_modulo 17 = .ok (.lload_n 2, 1) := by decide +kernel
theorem dX0_modulo_18 : decode cX0_modulo 18 = .ok (.bipush 32, 2) := by decide +kernel
theorem dX0_modulo_20 : decode cX0_modulo 20 = .ok (.lshl, 1) := by decide +kernel
theorem dX0_modulo_21 : decode cX0_modulo 21 = .ok (.aload_n 0, 1) := by decide +kernel
theorem dX0_modulo_22 : decode cX0_modulo 22 = .ok (.getfield 9, 3) := by decide +kernel
theorem dX0_modulo_25 : decode cX0_modulo 25 = .ok (.iload 4, 2) := by decide +kernel
theorem dX0_modulo_27 : decode cX0_modulo 27 = .ok (.iaload, 1) := by decide +kernel
theorem dX0_modulo_28 : decode cX0_modulo 28 = .ok (.i2l, 1) := by decide +kernel
theorem dX0_modulo_29 : decode cX0_modulo 29 = .ok (.ldc2_w 25, 3) := by decide +kernel
theorem dX0_modulo_32 : decode cX0_modulo 32 = .ok (.land, 1) := by decide +kernel
theorem dX0_modulo_33 : decode cX0_modulo 33 = .ok (.lor, 1) := by decide +kernel
theorem dX0_modulo_34 : decode cX0_modulo 34 = .ok (.iload_n 1, 1) := by decide +kernel
theorem dX0_modulo_35 : decode cX0_modulo 35 = .ok (.i2l, 1) := by decide +kernel
theorem dX0_modulo_36 : decode cX0_modulo 36 = .ok (.lrem, 1) := by decide +kernel
theorem dX0_modulo_37 : decode cX0_modulo 37 = .ok (.lstore_n 2, 1) := by decide +kernel
theorem dX0_modulo_38 : decode cX0_modulo 38 = .ok (.iinc 4 (-1), 3) := by decide +kernel
theorem dX0_modulo_41 : decode cX0_modulo 41 = .ok (.goto (-29), 3) := by decide +kernel
theorem dX0_modulo_44 : decode cX0_modulo 44 = .ok (.lload_n 2, 1) := by decide +kernel
theorem dX0_modulo_45 : decode cX0_modulo 45 = .ok (.l2i, 1) := by decide +kernel
theorem dX0_modulo_46 : decode cX0_modulo 46 = .ok (.ireturn, 1) := by decide +kernel
end
section
theorem dJ6_numberOfTrailingZeros_0f7a4_0 : decode cJ6_numberOfTrailingZeros_0f7a4 0 = .ok (.iload_n 0, 1) := by decide +kernel
theorem dJ6_numberOfTrailingZeros_0f7a4_1 : decode cJ6_numberOfTrailingZeros_0f7a4 1 = .ok (.iconst (-1), 1) := by decide +kernel
theorem dJ6_numberOfTrailingZeros_0f7a4_2 : decode cJ6_numberOfTrailingZeros_0f7a4 2 = .ok (.ixor, 1) := by decide +kernel
theorem dJ6_numberOfTrailingZeros_0f7a4_3 : decode cJ6_numberOfTrailingZeros_0f7a4 3 = .ok (.iload_n 0, 1) := by decide +kernel
theorem dJ6_numberOfTrailingZeros_0f7a4_4 : decode cJ6_numberOfTrailingZeros_0f7a4 4 = .ok (.iconst 1, 1) := by decide +kernel
theorem dJ6_numberOfTrailingZeros_0f7a4_5 : decode cJ6_numberOfTrailingZeros_0f7a4 5 = .ok (.isub, 1) := by decide +kernel
theorem dJ6_numberOfTrailingZeros_0f7a4_6 : decode cJ6_numberOfTrailingZeros_0f7a4 6 = .ok (.iand, 1) := by decide +kernel
theorem dJ6_numberOfTrailingZeros_0f7a4_7 : decode cJ6_numberOfTrailingZeros_0f7a4 7 = .ok (.istore_n 0, 1) := by decide +kernel
theorem dJ6_numberOfTrailingZeros_0f7a4_8 : decode cJ6_numberOfTrailingZeros_0f7a4 8 = .ok (.iload_n 0, 1) := by decide +kernel
theorem dJ6_numberOfTrailingZeros_0f7a4_9 : decode cJ6_numberOfTrailingZeros_0f7a4 9 = .ok (.ifCond .gt 8, 3) := by decide +kernel
theorem dJ6_numberOfTrailingZeros_0f7a4_12 : decode cJ6_numberOfTrailingZeros_0f7a4 12 = .ok (.iload_n 0, 1) := by decide +kernel
theorem dJ6_numberOfTrailingZeros_0f7a4_13 : decode cJ6_numberOfTrailingZeros_0f7a4 13 = .ok (.bipush 32, 2) := by decide +kernel
theorem dJ6_numberOfTrailingZeros_0f7a4_15 : decode cJ6_numberOfTrailingZeros_0f7a4 15 = .ok (.iand, 1) := by decide +kernel
theorem dJ6_numberOfTrailingZeros_0f7a4_16 : decode cJ6_numberOfTrailingZeros_0f7a4 16 = .ok (.ireturn, 1) := by decide +kernel
theorem dJ6_numberOfTrailingZeros_0f7a4_17 : decode cJ6_numberOfTrailingZeros_0f7a4 17 = .ok (.iconst 1, 1) := by decide +kernel
theorem dJ6_numberOfTrailingZeros_0f7a4_18 : decode cJ6_numberOfTrailingZeros_0f7a4 18 = .ok (.istore_n 1, 1) := by decide +kernel
theorem dJ6_numberOfTrailingZeros_0f7a4_19 : decode cJ6_numberOfTrailingZeros_0f7a4 19 = .ok (.iload_n 0, 1) := by decide +kernel
theorem dJ6_numberOfTrailingZeros_0f7a4_20 : decode cJ6_numberOfTrailingZeros_0f7a4 20 = .ok (.ldc_w 264, 3) := by decide +kernel
theorem dJ6_numberOfTrailingZeros_0f7a4_23 : decode cJ6_numberOfTrailingZeros_0f7a4 23 = .ok (.if_icmp .le 11, 3) := by decide +kernel
theorem dJ6_numberOfTrailingZeros_0f7a4_26 : decode cJ6_numberOfTrailingZeros_0f7a4 26 = .ok (.iinc 1 16, 3) := by decide +kernel
theorem dJ6_numberOfTrailingZeros_0f7a4_29 : decode cJ6_numberOfTrailingZeros_0f7a4 29 = .ok (.iload_n 0, 1) := by decide +kernel
theorem dJ6_numberOfTrailingZeros_0f7a4_30 : decode cJ6_numberOfTrailingZeros_0f7a4 30 = .ok (.bipush 16, 2) := by decide +kernel
theorem dJ6_numberOfTrailingZeros_0f7a4_32 : decode cJ6_numberOfTrailingZeros_0f7a4 32 = .ok (.iushr, 1) := by decide +kernel
theorem dJ6_numberOfTrailingZeros_0f7a4_33 : decode cJ6_numberOfTrailingZeros_0f7a4 33 = .ok (.istore_n 0, 1) := by decide +kernel
theorem dJ6_numberOfTrailingZeros_0f7a4_34 : decode cJ6_numberOfTrailingZeros_0f7a4 34 = .ok (.iload_n 0, 1) := by decide +kernel
theorem dJ6_numberOfTrailingZeros_0f7a4_35 : decode cJ6_numberOfTrailingZeros_0f7a4 35 = .ok (.sipush 256, 3) := by decide +kernel
theorem dJ6_numberOfTrailingZeros_0f7a4_38 : decode cJ6_numberOfTrailingZeros_0f7a4 38 = .ok (.if_icmp .le 11, 3) := by decide +kernel
theorem dJ6_numberOfTrailingZeros_0f7a4_41 : decode cJ6_numberOfTrailingZeros_0f7a4 41 = .ok (.iinc 1 8, 3) := by decide +kernel
theorem dJ6_numberOfTrailingZeros_0f7a4_44 : decode cJ6_numberOfTrailingZeros_0f7a4 44 = .ok (.iload_n 0, 1) := by decide +kernel
theorem dJ6_numberOfTrailingZeros_0f7a4_45 : decode cJ6_numberOfTrailingZeros_0f7a4 45 = .ok (.bipush 8, 2) := by decide +kernel
theorem dJ6_numberOfTrailingZeros_0f7a4_47 : decode cJ6_numberOfTrailingZeros_0f7a4 47 = .ok (.iushr, 1) := by decide +kernel
theorem dJ6_numberOfTrailingZeros_0f7a4_48 : decode cJ6_numberOfTrailingZeros_0f7a4 48 = .ok (.istore_n 0, 1) := by decide +kernel
theorem dJ6_numberOfTrailingZeros_0f7a4_49 : decode cJ6_numberOfTrailingZeros_0f7a4 49 = .ok (.iload_n 0, 1) := by decide +kernel
theorem dJ6_numberOfTrailingZeros_0f7a4_50 : decode cJ6_numberOfTrailingZeros_0f7a4 50 = .ok (.bipush 16, 2) := by decide +kernel
theorem dJ6_numberOfTrailingZeros_0f7a4_52 : decode cJ6_numberOfTrailingZeros_0f7a4 52 = .ok (.if_icmp .le 10, 3) := by decide +kernel
theorem dJ6_numberOfTrailingZeros_0f7a4_55 : decode cJ6_numberOfTrailingZeros_0f7a4 55 = .ok (.iinc 1 4, 3) := by decide +kernel
theorem dJ6_numberOfTrailingZeros_0f7a4_58 : decode cJ6_numberOfTrailingZeros_0f7a4 58 = .ok (.iload_n 0, 1) := by decide +kernel
theorem dJ6_numberOfTrailingZeros_0f7a4_59 : decode cJ6_numberOfTrailingZeros_0f7a4 59 = .ok (.iconst 4, 1) := by decide +kernel
theorem dJ6_numberOfTrailingZeros_0f7a4_60 : decode cJ6_numberOfTrailingZeros_0f7a4 60 = .ok (.iushr, 1) := by decide +kernel
theorem dJ6_numberOfTrailingZeros_0f7a4_61 : decode cJ6_numberOfTrailingZeros_0f7a4 61 = .ok (.istore_n 0, 1) := by decide +kernel
theorem dJ6_numberOfTrailingZeros_0f7a4_62 : decode cJ6_numberOfTrailingZeros_0f7a4 62 = .ok (.iload_n 0, 1) := by decide +kernel
theorem dJ6_numberOfTrailingZeros_0f7a4_63 : decode cJ6_numberOfTrailingZeros_0f7a4 63 = .ok (.iconst 4, 1) := by decide +kernel
theorem dJ6_numberOfTrailingZeros_0f7a4_64 : decode cJ6_numberOfTrailingZeros_0f7a4 64 = .ok (.if_icmp .le 10, 3) := by decide +kernel
theorem dJ6_numberOfTrailingZeros_0f7a4_67 : decode cJ6_numberOfTrailingZeros_0f7a4 67 = .ok (.iinc 1 2, 3) := by decide +kernel
theorem dJ6_numberOfTrailingZeros_0f7a4_70 : decode cJ6_numberOfTrailingZeros_0f7a4 70 = .ok (.iload_n 0, 1) := by decide +kernel
theorem dJ6_numberOfTrailingZeros_0f7a4_71 : decode cJ6_numberOfTrailingZeros_0f7a4 71 = .ok (.iconst 2, 1) := by decide +kernel
theorem dJ6_numberOfTrailingZeros_0f7a4_72 : decode cJ6_numberOfTrailingZeros_0f7a4 72 = .ok (.iushr, 1) := by decide +kernel
theorem dJ6_numberOfTrailingZeros_0f7a4_73 : decode cJ6_numberOfTrailingZeros_0f7a4 73 = .ok (.istore_n 0, 1) := by decide +kernel
theorem dJ6_numberOfTrailingZeros_0f7a4_74 : decode cJ6_numberOfTrailingZeros_0f7a4 74 = .ok (.iload_n 1, 1) := by decide +kernel
theorem dJ6_numberOfTrailingZeros_0f7a4_75 : decode cJ6_numberOfTrailingZeros_0f7a4 75 = .ok (.iload_n 0, 1) := by decide +kernel
theorem dJ6_numberOfTrailingZeros_0f7a4_76 : decode cJ6_numberOfTrailingZeros_0f7a4 76 = .ok (.iconst 1, 1) := by decide +kernel
theorem dJ6_numberOfTrailingZeros_0f7a4_77 : decode cJ6_numberOfTrailingZeros_0f7a4 77 = .ok (.iushr, 1) := by decide +kernel
theorem dJ6_numberOfTrailingZeros_0f7a4_78 : decode cJ6_numberOfTrailingZeros_0f7a4 78 = .ok (.iadd, 1) := by decide +kernel
theorem dJ6_numberOfTrailingZeros_0f7a4_79 : decode cJ6_numberOfTrailingZeros_0f7a4 79 = .ok (.ireturn, 1) := by decide +kernel
theorem dJ6_bitCount_0f7a4_0 : decode cJ6_bitCount_0f7a4 0 = .ok (.iload_n 0, 1) := by decide +kernel
theorem dJ6_bitCount_0f7a4_1 : decode cJ6_bitCount_0f7a4 1 = .ok (.iload_n 0, 1) := by decide +kernel
theorem dJ6_bitCount_0f7a4_2 : decode cJ6_bitCount_0f7a4 2 = .ok (.iconst 1, 1) := by decide +kernel
theorem dJ6_bitCount_0f7a4_3 : decode cJ6_bitCount_0f7a4 3 = .ok (.iushr, 1) := by decide +kernel
theorem dJ6_bitCount_0f7a4_4 : decode cJ6_bitCount_0f7a4 4 = .ok (.ldc_w 265, 3) := by decide +kernel
theorem dJ6_bitCount_0f7a4_7 : decode cJ6_bitCount_0f7a4 7 = .ok (.iand, 1) := by decide +kernel
theorem dJ6_bitCount_0f7a4_8 : decode cJ6_bitCount_0f7a4 8 = .ok (.isub, 1) := by decide +kernel
theorem dJ6_bitCount_0f7a4_9 : decode cJ6_bitCount_0f7a4 9 = .ok (.istore_n 0, 1) := by decide +kernel
theorem dJ6_bitCount_0f7a4_10 : decode cJ6_bitCount_0f7a4 10 = .ok (.iload_n 0, 1) := by decide +kernel
theorem dJ6_bitCount_0f7a4_11 : decode cJ6_bitCount_0f7a4 11 = .ok (.ldc_w 266, 3) := by decide +kernel
theorem dJ6_bitCount_0f7a4_14 : decode cJ6_bitCount_0f7a4 14 = .ok (.iand, 1) := by decide +kernel
theorem dJ6_bitCount_0f7a4_15 : decode cJ6_bitCount_0f7a4 15 = .ok (.iload_n 0, 1) := by decide +kernel
theorem dJ6_bitCount_0f7a4_16 : decode cJ6_bitCount_0f7a4 16 = .ok (.iconst 2, 1) := by decide +kernel
theorem dJ6_bitCount_0f7a4_17 : decode cJ6_bitCount_0f7a4 17 = .ok (.iushr, 1) := by decide +kernel
theorem dJ6_bitCount_0f7a4_18 : decode cJ6_bitCount_0f7a4 18 = .ok (.ldc_w 266, 3) := by decide +kernel
theorem dJ6_bitCount_0f7a4_21 : decode cJ6_bitCount_0f7a4 21 = .ok (.iand, 1) := by decide +kernel
theorem dJ6_bitCount_0f7a4_22 : decode cJ6_bitCount_0f7a4 22 = .ok (.iadd, 1) := by decide +kernel
theorem dJ6_bitCount_0f7a4_23 : decode cJ6_bitCount_0f7a4 23 = .ok (.istore_n 0, 1) := by decide +kernel
theorem dJ6_bitCount_0f7a4_24 : decode cJ6_bitCount_0f7a4 24 = .ok (.iload_n 0, 1) := by decide +kernel
theorem dJ6_bitCount_0f7a4_25 : decode cJ6_bitCount_0f7a4 25 = .ok (.iload_n 0, 1) := by decide +kernel
theorem dJ6_bitCount_0f7a4_26 : decode cJ6_bitCount_0f7a4 26 = .ok (.iconst 4, 1) := by decide +kernel
theorem dJ6_bitCount_0f7a4_27 : decode cJ6_bitCount_0f7a4 27 = .ok (.iushr, 1) := by decide +kernel
theorem dJ6_bitCount_0f7a4_28 : decode cJ6_bitCount_0f7a4 28 = .ok (.iadd, 1) := by decide +kernel
theorem dJ6_bitCount_0f7a4_29 : decode cJ6_bitCount_0f7a4 29 = .ok (.ldc_w 267, 3) := by decide +kernel
theorem dJ6_bitCount_0f7a4_32 : decode cJ6_bitCount_0f7a4 32 = .ok (.iand, 1) := by decide +kernel
theorem dJ6_bitCount_0f7a4_33 : decode cJ6_bitCount_0f7a4 33 = .ok (.istore_n 0, 1) := by decide +kernel
theorem dJ6_bitCount_0f7a4_34 : decode cJ6_bitCount_0f7a4 34 = .ok (.iload_n 0, 1) := by decide +kernel
theorem dJ6_bitCount_0f7a4_35 : decode cJ6_bitCount_0f7a4 35 = .ok (.iload_n 0, 1) := by decide +kernel
theorem dJ6_bitCount_0f7a4_36 : decode cJ6_bitCount_0f7a4 36 = .ok (.bipush 8, 2) := by decide +kernel
theorem dJ6_bitCount_0f7a4_38 : decode cJ6_bitCount_0f7a4 38 = .ok (.iushr, 1) := by decide +kernel
theorem dJ6_bitCount_0f7a4_39 : decode cJ6_bitCount_0f7a4 39 = .ok (.iadd, 1) := by decide +kernel
theorem dJ6_bitCount_0f7a4_40 : decode cJ6_bitCount_0f7a4 40 = .ok (.istore_n 0, 1) := by decide +kernel
theorem dJ6_bitCount_0f7a4_41 : decode cJ6_bitCount_0f7a4 41 = .ok (.iload_n 0, 1) := by decide +kernel
theorem dJ6_bitCount_0f7a4_42 : decode cJ6_bitCount_0f7a4 42 = .ok (.iload_n 0, 1) := by decide +kernel
theorem dJ6_bitCount_0f7a4_43 : decode cJ6_bitCount_0f7a4 43 = .ok (.bipush 16, 2) := by decide +kernel
theorem dJ6_bitCount_0f7a4_45 : decode cJ6_bitCount_0f7a4 45 = .ok (.iushr, 1) := by decide +kernel
theorem dJ6_bitCount_0f7a4_46 : decode cJ6_bitCount_0f7a4 46 = .ok (.iadd, 1) := by decide +kernel
theorem dJ6_bitCount_0f7a4_47 : decode cJ6_bitCount_0f7a4 47 = .ok (.istore_n 0, 1) := by decide +kernel
theorem dJ6_bitCount_0f7a4_48 : decode cJ6_bitCount_0f7a4 48 = .ok (.iload_n 0, 1) := by decide +kernel
theorem dJ6_bitCount_0f7a4_49 : decode cJ6_bitCount_0f7a4 49 = .ok (.bipush 63, 2) := by decide +kernel
theorem dJ6_bitCount_0f7a4_51 : decode cJ6_bitCount_0f7a4 51 = .ok (.iand, 1) := by decide +kernel
theorem dJ6_bitCount_0f7a4_52 : decode cJ6_bitCount_0f7a4 52 = .ok (.ireturn, 1) := by decide +kernel
theorem dJ13_bitCount_95d88_0 : decode cJ13_bitCount_95d88 0 = .ok (.lload_n 0, 1) := by decide +kernel
theorem dJ13_bitCount_95d88_1 : decode cJ13_bitCount_95d88 1 = .ok (.lload_n 0, 1) := by decide +kernel
theorem dJ13_bitCount_95d88_2 : decode cJ13_bitCount_95d88 2 = .ok (.iconst 1, 1) := by decide +kernel
theorem dJ13_bitCount_95d88_3 : decode cJ13_bitCount_95d88 3 = .ok (.lushr, 1) := by decide +kernel
theorem dJ13_bitCount_95d88_4 : decode cJ13_bitCount_95d88 4 = .ok (.ldc2_w 314, 3) := by decide +kernel
theorem dJ13_bitCount_95d88_7 : decode cJ13_bitCount_95d88 7 = .ok (.land, 1) := by decide +kernel
theorem dJ13_bitCount_95d88_8 : decode cJ13_bitCount_95d88 8 = .ok (.lsub, 1) := by decide +kernel
theorem dJ13_bitCount_95d88_9 : decode cJ13_bitCount_95d88 9 = .ok (.lstore_n 0, 1) := by decide +kernel
theorem dJ13_bitCount_95d88_10 : decode cJ13_bitCount_95d88 10 = .ok (.lload_n 0, 1) := by decide +kernel
theorem dJ13_bitCount_95d88_11 : decode cJ13_bitCount_95d88 11 = .ok (.ldc2_w 316, 3) := by decide +kernel
theorem dJ13_bitCount_95d88_14 : decode cJ13_bitCount_95d88 14 = .ok (.land, 1) := by decide +kernel
theorem dJ13_bitCount_95d88_15 : decode cJ13_bitCount_95d88 15 = .ok (.lload_n 0, 1) := by decide +kernel
theorem dJ13_bitCount_95d88_16 : decode cJ13_bitCount_95d88 16 = .ok (.iconst 2, 1) := by decide +kernel
theorem dJ13_bitCount_95d88_17 : decode cJ13_bitCount_95d88 17 = .ok (.lushr, 1) := by decide +kernel
theorem dJ13_bitCount_95d88_18 : decode cJ13_bitCount_95d88 18 = .ok (.ldc2_w 316, 3) := by decide +kernel
theorem dJ13_bitCount_95d88_21 : decode cJ13_bitCount_95d88 21 = .ok (.land, 1) := by decide +kernel
theorem dJ13_bitCount_95d88_22 : decode cJ13_bitCount_95d88 22 = .ok (.ladd, 1) := by decide +kernel
theorem dJ13_bitCount_95d88_23 : decode cJ13_bitCount_95d88 23 = .ok (.lstore_n 0, 1) := by decide +kernel
theorem dJ13_bitCount_95d88_24 : decode cJ13_bitCount_95d88 24 = .ok (.lload_n 0, 1) := by decide +kernel
theorem dJ13_bitCount_95d88_25 : decode cJ13_bitCount_95d88 25 = .ok (.lload_n 0, 1) := by decide +kernel
theorem dJ13_bitCount_95d88_26 : decode cJ13_bitCount_95d88 26 = .ok (.iconst 4, 1) := by decide +kernel
theorem dJ13_bitCount_95d88_27 : decode cJ13_bitCount_95d88 27 = .ok (.lushr, 1) := by decide +kernel
theorem dJ13_bitCount_95d88_28 : decode cJ13_bitCount_95d88 28 = .ok (.ladd, 1) := by decide +kernel
theorem dJ13_bitCount_95d88_29 : decode cJ13_bitCount_95d88 29 = .ok (.ldc2_w 318, 3) := by decide +kernel
theorem dJ13_bitCount_95d88_32 : decode cJ13_bitCount_95d88 32 = .ok (.land, 1) := by decide +kernel
theorem dJ13_bitCount_95d88_33 : decode cJ13_bitCount_95d88 33 = .ok (.lstore_n 0, 1) := by decide +kernel
theorem dJ13_bitCount_95d88_34 : decode cJ13_bitCount_95d88 34 = .ok (.lload_n 0, 1) := by decide +kernel
theorem dJ13_bitCount_95d88_35 : decode cJ13_bitCount_95d88 35 = .ok (.lload_n 0, 1) := by decide +kernel
theorem dJ13_bitCount_95d88_36 : decode cJ13_bitCount_95d88 36 = .ok (.bipush 8, 2) := by decide +kernel
theorem dJ13_bitCount_95d88_38 : decode cJ13_bitCount_95d88 38 = .ok (.lushr, 1) := by decide +kernel
theorem dJ13_bitCount_95d88_39 : decode cJ13_bitCount_95d88 39 = .ok (.ladd, 1) := by decide +kernel
theorem dJ13_bitCount_95d88_40 : decode cJ13_bitCount_95d88 40 = .ok (.lstore_n 0, 1) := by decide +kernel
theorem dJ13_bitCount_95d88_41 : decode cJ13_bitCount_95d88 41 = .ok (.lload_n 0, 1) := by decide +kernel
theorem dJ13_bitCount_95d88_42 : decode cJ13_bitCount_95d88 42 = .ok (.lload_n 0, 1) := by decide +kernel
theorem dJ13_bitCount_95d88_43 : decode cJ13_bitCount_95d88 43 = .ok (.bipush 16, 2) := by decide +kernel
theorem dJ13_bitCount_95d88_45 : decode cJ13_bitCount_95d88 45 = .ok (.lushr, 1) := by decide +kernel
theorem dJ13_bitCount_95d88_46 : decode cJ13_bitCount_95d88 46 = .ok (.ladd, 1) := by decide +kernel
theorem dJ13_bitCount_95d88_47 : decode cJ13_bitCount_95d88 47 = .ok (.lstore_n 0, 1) := by decide +kernel
theorem dJ13_bitCount_95d88_48 : decode cJ13_bitCount_95d88 48 = .ok (.lload_n 0, 1) := by decide +kernel
theorem dJ13_bitCount_95d88_49 : decode cJ13_bitCount_95d88 49 = .ok (.lload_n 0, 1) := by decide +kernel
theorem dJ13_bitCount_95d88_50 : decode cJ13_bitCount_95d88 50 = .ok (.bipush 32, 2) := by decide +kernel
theorem dJ13_bitCount_95d88_52 : decode cJ13_bitCount_95d88 52 = .ok (.lushr, 1) := by decide +kernel
theorem dJ13_bitCount_95d88_53 : decode cJ13_bitCount_95d88 53 = .ok (.ladd, 1) := by decide +kernel
theorem dJ13_bitCount_95d88_54 : decode cJ13_bitCount_95d88 54 = .ok (.lstore_n 0, 1) := by decide +kernel
theorem dJ13_bitCount_95d88_55 : decode cJ13_bitCount_95d88 55 = .ok (.lload_n 0, 1) := by decide +kernel
theorem dJ13_bitCount_95d88_56 : decode cJ13_bitCount_95d88 56 = .ok (.l2i, 1) := by decide +kernel
theorem dJ13_bitCount_95d88_57 : decode cJ13_bitCount_95d88 57 = .ok (.bipush 127, 2) := by decide +kernel
theorem dJ13_bitCount_95d88_59 : decode cJ13_bitCount_95d88 59 = .ok (.iand, 1) := by decide +kernel
theorem dJ13_bitCount_95d88_60 : decode cJ13_bitCount_95d88 60 = .ok (.ireturn, 1) := by decide +kernel
theorem dJ9_max_7cf53_0 : decode cJ9_max_7cf53 0 = .ok (.iload_n 0, 1) := by decide +kernel
theorem dJ9_max_7cf53_1 : decode cJ9_max_7cf53 1 = .ok (.iload_n 1, 1) := by decide +kernel
theorem dJ9_max_7cf53_2 : decode cJ9_max_7cf53 2 = .ok (.if_icmp .lt 7, 3) := by decide +kernel
theorem dJ9_max_7cf53_5 : decode cJ9_max_7cf53 5 = .ok (.iload_n 0, 1) := by decide +kernel
theorem dJ9_max_7cf53_6 : decode cJ9_max_7cf53 6 = .ok (.goto 4, 3) := by decide +kernel
theorem dJ9_max_7cf53_9 : decode cJ9_max_7cf53 9 = .ok (.iload_n 1, 1) := by decide +kernel
theorem dJ9_max_7cf53_10 : decode cJ9_max_7cf53 10 = .ok (.ireturn, 1) := by decide +kernel
theorem dJ7_fill_53178_0 : decode cJ7_fill_53178 0 = .ok (.iconst 0, 1) := by decide +kernel
theorem dJ7_fill_53178_1 : decode cJ7_fill_53178 1 = .ok (.istore_n 2, 1) := by decide +kernel
theorem dJ7_fill_53178_2 : decode cJ7_fill_53178 2 = .ok (.aload_n 0, 1) := by decide +kernel
theorem dJ7_fill_53178_3 : decode cJ7_fill_53178 3 = .ok (.arraylength, 1) := by decide +kernel
theorem dJ7_fill_53178_4 : decode cJ7_fill_53178 4 = .ok (.istore_n 3, 1) := by decide +kernel
theorem dJ7_fill_53178_5 : decode cJ7_fill_53178 5 = .ok (.iload_n 2, 1) := by decide +kernel
theorem dJ7_fill_53178_6 : decode cJ7_fill_53178 6 = .ok (.iload_n 3, 1) := by decide +kernel
theorem dJ7_fill_53178_7 : decode cJ7_fill_53178 7 = .ok (.if_icmp .ge 13, 3) := by decide +kernel
theorem dJ7_fill_53178_10 : decode cJ7_fill_53178 10 = .ok (.aload_n 0, 1) := by decide +kernel
theorem dJ7_fill_53178_11 : decode cJ7_fill_53178 11 = .ok (.iload_n 2, 1) := by decide +kernel
theorem dJ7_fill_53178_12 : decode cJ7_fill_53178 12 = .ok (.iload_n 1, 1) := by decide +kernel
theorem dJ7_fill_53178_13 : decode cJ7_fill_53178 13 = .ok (.iastore, 1) := by decide +kernel
theorem dJ7_fill_53178_14 : decode cJ7_fill_53178 14 = .ok (.iinc 2 1, 3) := by decide +kernel
theorem dJ7_fill_53178_17 : decode cJ7_fill_53178 17 = .ok (.goto (-12), 3) := by decide +kernel
theorem dJ7_fill_53178_20 : decode cJ7_fill_53178 20 = .ok (.return_, 1) := by decide +kernel
end
section
/-! THE WORLD: the tables' side (KK), numbers of four words (NatAt) -/
abbrev WG : Type := va_G × (ClassId × ClassId × ClassId × ClassId × ClassId) × (Nat × Nat) × (Cell × Nat × Cell)
abbrev gI (g : WG) : ClassId := g.2.1.1
abbrev gC (g : WG) : ClassId := g.2.1.2.1
abbrev gN (g : WG) : ClassId := g.2.1.2.2.1
abbrev gZ (g : WG) : ClassId := g.2.1.2.2.2.1
abbrev gL (g : WG) : ClassId := g.2.1.2.2.2.2
abbrev gT (g : WG) : List (ClassId × FieldType) := [(gI g, .int), (gC g, .char), (gN g, .object RX0), (gZ g, .boolean), (gL g, .long)]
/-- where a static lies -/
def xr_Z (C n d : String) (a sl : Nat) (U : State) : Prop := ∃ (cf : ClassId) (kf : Class) (fi : Nat) (f : Field), U.fieldFound? C n d = some (cf, kf, fi, f) ∧ f.isStatic = true ∧ kf.init = .initialized ∧ kf.statics = some a ∧ f.slot = sl
theorem xr_Z.moved {C n d : String} {a sl : Nat} {u U : State} (hvm : u.vm.Alike U.vm) (h : xr_Z C n d a sl u) : xr_Z C n d a sl U := by
  obtain ⟨cf, kf, fi, f, h1, h2, h3, h4, h5⟩ := h
  obtain ⟨k', hi', he⟩ := State.fieldFound?_setVm hvm h1
  exact ⟨cf, k', fi, f, hi', h2, by rw [he]; exact h3, by rw [he]; exact h4, h5⟩
def kk_nest : List (String × Nat × MethodName) := [(RX6, 21, yX2_init), (RX6, 28, yX0_init), (RX6, 35, yX4_init), (RX6, 9, yX5_init), (RX1, 11, yX0_init), (RX1, 43, yX3_init), (RX2, 9, yX0_init), (RX3, 9, yX0_init), (RX4, 24, yX0_init), (RX5, 22, yX6_isProjectNumber), (RX5, 26, yX6_isVoterNumber)]
/-- the primes that a base may have -/
def pr15 (j : Nat) : Nat := [2, 3, 5, 7, 11, 13, 17, 19, 23, 29, 31, 37, 41, 43, 47].getD j 0
/-- the static array of primes: its field's cell, its own cell -/
def KP (g : WG) : Prop := g.2.2.2.1.vm.isStatics = true ∧ g.2.2.2.1.slots[g.2.2.1.2]? = some (.ref g.2.2.2.2.1) ∧ g.2.2.2.2.2.vm ≠ .unknown ∧ g.2.2.2.2.2.slots.size.toInt32 = nI 15 ∧ 15 ≤ g.2.2.2.2.2.slots.size ∧ ∀ j, j < 15 → g.2.2.2.2.2.slots[j]? = some (.int (nI (pr15 j)))
def KK (g : WG) (U : State) : Prop := va_K g.1 vwCl (gT g) U ∧ va_AO RX0 U ∧ (∀ q ∈ kk_nest, va_Nw (.methodLinkNest q.1 q.2.1 q.2.2 "SharesDesk") U) ∧ xr_Z RX2 "PRIMES" "[I" g.2.2.1.1 g.2.2.1.2 U ∧ U.isArrayOf g.2.2.2.2.2 .int ∧ KP g
theorem KK_ok (g : WG) : xr_ok (KK g) := by
  refine ⟨fun u U hW h => ⟨h.1.moved hW.alike, h.2.1.moved hW.alike, fun q hq => (h.2.2.1 q hq).warmM hW, h.2.2.2.1.moved hW.alike, State.isArrayOf_alike hW.alike h.2.2.2.2.1, h.2.2.2.2.2⟩, fun u U hv h => ?_⟩
  have ha : u.vm.Alike U.vm := by rw [hv]; exact Vm.Alike.refl _
  exact ⟨h.1.moved ha, h.2.1.moved ha, fun q hq => (h.2.2.1 q hq).same rfl hv, h.2.2.2.1.moved ha, State.isArrayOf_alike ha h.2.2.2.2.1, h.2.2.2.2.2⟩
/-- the two cells of the static array lie in the heap -/
def PrimesAt (g : WG) (H : Heap) : Prop := H[g.2.2.1.1]? = some g.2.2.2.1 ∧ H[g.2.2.2.2.1]? = some g.2.2.2.2.2
theorem PrimesAt.kept {g : WG} {H H1 : Heap} (h : PrimesAt g H) (h0 : H1[g.2.2.1.1]? = H[g.2.2.1.1]?) (h1 : H1[g.2.2.2.2.1]? = H[g.2.2.2.2.1]?) : PrimesAt g H1 := ⟨h0.trans h.1, h1.trans h.2⟩
section XT
variable {p : Program} {l : Launch} {e : Env} {R : Room} {s : State} {m : MethodId} {args : Array Value} {below : List Frame} {meth : Method} {c : Code} {H : Heap} {locs : List Loc} {cells slots : Nat} {Q : State → Prop}
variable {pc : Nat} {ls : Array Slot} {rest : List Value}
theorem xr_ti {x x' : Int32} (h : x = x') (k : W p l e R s m args below meth c H locs cells slots Q (F0 m pc ls (.int x' :: rest))) : W p l e R s m args below meth c H locs cells slots Q (F0 m pc ls (.int x :: rest)) := h ▸ k
theorem xr_tl {x x' : Int64} (h : x = x') (k : W p l e R s m args below meth c H locs cells slots Q (F0 m pc ls (.long x' :: rest))) : W p l e R s m args below meth c H locs cells slots Q (F0 m pc ls (.long x :: rest)) := h ▸ k
variable {cc : ByteArray} {g : WG} {A : Nat → Prop} {a : Nat} {H0 : Heap}
theorem xr_rd (hx : p.tables.exec = Jvm.exec) (hb : c.code = cc) (hK : KK g s) {n : Nat} {f : Nat → Int32} (ha : xr_ia H a (gI g) n f) {i : Nat} (hi : i < n) (hn : n < 2 ^ 31) (hdg : decode cc pc = .ok (.iaload, 1))
    (kk : W p l e R s m args below meth c H locs cells slots Q (F0 m (pc + 1) ls (.int (f i) :: rest))) : W p l e R s m args below meth c H locs cells slots Q (F0 m pc ls (.int (nI i) :: .ref a :: rest)) := by
  refine xr_iald hx hb hK.1 ha 0 rfl (vp_in_nI hi hn) hdg ?_
  rw [nI_clamp (Nat.lt_trans hi hn)]
  exact kk
theorem xr_wr (hx : p.tables.exec = Jvm.exec) (hb : c.code = cc) (hK : KK g s) (hS : va_S A H0 H locs) (hA : A a) {n : Nat} {f : Nat → Int32} (ha : xr_ia H a (gI g) n f) {i : Nat} {x : Int32} (hi : i < n) (hn : n < 2 ^ 31) (hdg : decode cc pc = .ok (.iastore, 1))
    (kk : ∀ (H1 : Heap) (locs1 : List Loc), H1.size = H.size → (∀ q : Nat, q ≠ a → H1[q]? = H[q]?) → xr_ia H1 a (gI g) n (upd f i x) → va_S A H0 H1 locs1 → W p l e R s m args below meth c H1 locs1 cells slots Q (F0 m (pc + 1) ls rest)) : W p l e R s m args below meth c H locs cells slots Q (F0 m pc ls (.int x :: .int (nI i) :: .ref a :: rest)) := by
  refine xr_iast hx hb hK.1 hS hA ha 0 rfl (vp_in_nI hi hn) hdg ?_
  rw [nI_clamp (Nat.lt_trans hi hn)]
  exact kk
theorem xr_gp (hx : p.tables.exec = Jvm.exec) (hb : c.code = cc) (hK : KK g s) (hP : PrimesAt g H) {own : String} {index : Nat} (hown : s.vm.findClass own = some m.cls) (hlink : (Cond.fieldLink own index RX2 "PRIMES" "[I").before args s = true) (hdg : decode cc pc = .ok (.getstatic index, 3))
    (kk : W p l e R s m args below meth c H locs cells slots Q (F0 m (pc + 3) ls (.ref g.2.2.2.2.1 :: rest))) : W p l e R s m args below meth c H locs cells slots Q (F0 m pc ls rest) := by
  obtain ⟨cf, kf, fi, f, h1, h2, h3, h4, h5⟩ := hK.2.2.2.1
  obtain ⟨k1, k2, -⟩ := hK.2.2.2.2.2
  exact W.gets hx hb hown hlink h1 h2 h3 h4 hP.1 (fun e => by rw [e] at k1; cases k1) (by rw [h5]; exact k2) rfl hdg kk
theorem xr_pr (hx : p.tables.exec = Jvm.exec) (hb : c.code = cc) (hK : KK g s) (hP : PrimesAt g H) {i : Nat} (hi : i < 15) (hdg : decode cc pc = .ok (.iaload, 1))
    (kk : W p l e R s m args below meth c H locs cells slots Q (F0 m (pc + 1) ls (.int (nI (pr15 i)) :: rest))) : W p l e R s m args below meth c H locs cells slots Q (F0 m pc ls (.int (nI i) :: .ref g.2.2.2.2.1 :: rest)) := by
  obtain ⟨-, -, k3, k4, k5, k6⟩ := hK.2.2.2.2.2
  exact W.iald hx hb hP.2 hK.2.2.2.2.1 k3 (fun q => by rw [nI_clamp (by omega)] at q; exact q.elim (nI_pos (by omega)) (by omega)) (by rw [nI_clamp (by omega)]; exact k6 i hi) rfl rfl hdg kk
theorem xr_pn (hx : p.tables.exec = Jvm.exec) (hb : c.code = cc) (hK : KK g s) (hP : PrimesAt g H) (hdg : decode cc pc = .ok (.arraylength, 1))
    (kk : W p l e R s m args below meth c H locs cells slots Q (F0 m (pc + 1) ls (.int (nI 15) :: rest))) : W p l e R s m args below meth c H locs cells slots Q (F0 m pc ls (.ref g.2.2.2.2.1 :: rest)) := by
  obtain ⟨-, -, k3, k4, -⟩ := hK.2.2.2.2.2
  exact W.alen hx hb hP.2 hK.2.2.2.2.1 k4 rfl rfl hdg kk
end XT
/-! an object of a class of ours; the words of a number -/
abbrev obj (g : WG) (H : Heap) (a ci : Nat) (fs : List Value) : Prop := va_at g.1 vwCl (a, .inr (ci, fs)) H
theorem xr_rec {g : WG} {s : State} {H : Heap} {a ci : Nat} {fs : List Value} {q : vw_C} (hK : KK g s) (hP : obj g H a ci fs) (hc : vwCl[ci]? = some q) : ∃ cell : Cell, H[a]? = some cell ∧ cell.vm.isStatics = false ∧ s.vm.findClass q.1 = some cell.cls :=
  va_recv hK.1 (xr_one hP) hc (q0 := 0) rfl
def wd (x j : Nat) : Int32 := nI (x / 2 ^ (32 * j) % 2 ^ 32)
def NatAt (g : WG) (H : Heap) (a x : Nat) : Prop := obj g H a 0 [.ref (a + 1)] ∧ xr_ia H (a + 1) (gI g) 4 (wd x) ∧ x < 2 ^ 128
theorem NatAt.kept {g : WG} {H H1 : Heap} {a x : Nat} (h : NatAt g H a x) (h0 : H1[a]? = H[a]?) (h1 : H1[a + 1]? = H[a + 1]?) : NatAt g H1 a x := ⟨h.1.kept h0, h.2.1.kept h1, h.2.2⟩
theorem NatAt.put {g : WG} {H H1 : Heap} {a x y : Nat} {f : Nat → Int32} (h : NatAt g H a x) (h0 : H1[a]? = H[a]?) (h1 : xr_ia H1 (a + 1) (gI g) 4 f) (hf : ∀ j, j < 4 → f j = wd y j) (hy : y < 2 ^ 128) : NatAt g H1 a y := ⟨h.1.kept h0, h1.to hf, hy⟩
/-! numbers -/
theorem nI_mod (n : Nat) : nI n = nI (n % 2 ^ 32) := by
  apply Int32.toBitVec_inj.mp
  apply BitVec.eq_of_toNat_eq
  simp [nI]
theorem lw_mask {w : Nat} (h : w < 2 ^ 32) : (nI w).toInt64 &&& 4294967295 = lN w := by
  apply Int64.toBitVec_inj.mp
  apply BitVec.eq_of_toNat_eq
  have hm : (4294967295 : Int64).toBitVec.toNat = 2 ^ 32 - 1 := by decide
  have h1 : (nI w).toInt64.toBitVec.toNat % 2 ^ 32 = w := by
    have h2 : (nI w).toInt64.toBitVec = (nI w).toBitVec.signExtend 64 := by first | rfl | simp
    rw [h2]
    rw [BitVec.toNat_signExtend]
    simp [nI, Nat.mod_eq_of_lt h]
    split <;> omega
  have h4 : ((nI w).toInt64 &&& 4294967295).toBitVec.toNat = (nI w).toInt64.toBitVec.toNat &&& (2 ^ 32 - 1) := by
    rw [Int64.toBitVec_and, BitVec.toNat_and, hm]
  rw [h4, Nat.and_two_pow_sub_one_eq_mod, h1]
  simp [lN]
  omega
theorem tm_step {x k P B : Nat} (hP : 0 < P) (hB : 0 < B) : x * k / P % B = (x / P % B * k + x % P * k / P) % B ∧ x % (P * B) * k / (P * B) = (x / P % B * k + x % P * k / P) / B := by
  have e0 : x * k / P = x / P * k + x % P * k / P := by
    have h : x * k = P * (x / P * k) + x % P * k := by
      conv => lhs; rw [← Nat.div_add_mod x P]
      rw [Nat.add_mul, Nat.mul_assoc]
    rw [h, Nat.mul_add_div hP]
  have e1 : x % (P * B) = P * (x / P % B) + x % P := by
    rw [Nat.mod_mul]
    omega
  refine ⟨?_, ?_⟩
  · rw [e0]
    simp [Nat.add_mod, Nat.mul_mod]
  · rw [e1, Nat.add_mul, Nat.mul_assoc, ← Nat.div_div_eq_div_mul, Nat.mul_add_div hP]
end
section
/-! numbers of four words: the steps of their loops -/
abbrev rmZ : Room := { frames := 0, cells := 0, slots := 0, locals := 0 }
theorem upd_at {f : Nat → Int32} {k : Nat} {x : Int32} : upd f k x k = x := by simp [upd]
theorem upd_ne {f : Nat → Int32} {k j : Nat} {x : Int32} (h : j ≠ k) : upd f k x j = f j := by simp [upd, h]
theorem p32s (i : Nat) : 2 ^ (32 * (i + 1)) = 2 ^ (32 * i) * 2 ^ 32 := by rw [Nat.mul_add, Nat.pow_add]
theorem wd_up {x y i v : Nat} {f : Nat → Int32} (hf : ∀ j, j < 4 → f j = if j < i then wd y j else wd x j) (hv : v % 2 ^ 32 = y / 2 ^ (32 * i) % 2 ^ 32) : ∀ j, j < 4 → upd f i (nI v) j = if j < i + 1 then wd y j else wd x j := by
  intro j hj
  by_cases e : j = i
  · subst e
    rw [upd_at, if_pos (Nat.lt_succ_self j), nI_mod, hv]
    rfl
  · rw [upd_ne e, hf j hj]
    by_cases h : j < i
    · rw [if_pos h, if_pos (Nat.lt_succ_of_lt h)]
    · rw [if_neg h, if_neg (by omega)]
theorem wd_dn {x y i v : Nat} {f : Nat → Int32} (hf : ∀ j, j < 4 → f j = if i + 1 ≤ j then wd y j else wd x j) (hv : v % 2 ^ 32 = y / 2 ^ (32 * i) % 2 ^ 32) : ∀ j, j < 4 → upd f i (nI v) j = if i ≤ j then wd y j else wd x j := by
  intro j hj
  by_cases e : j = i
  · subst e
    rw [upd_at, if_pos (Nat.le_refl j), nI_mod, hv]
    rfl
  · rw [upd_ne e, hf j hj]
    by_cases h : i ≤ j
    · rw [if_pos h, if_pos (by omega)]
    · rw [if_neg h, if_neg (by omega)]
theorem l_sh {n k p : Nat} {y : UInt64} (hy : y.toNat % 64 = k) (hp : 2 ^ k = p) (h : n < 2 ^ 64) : ((lN n).toUInt64 >>> y).toInt64 = lN (n / p) := by
  apply Int64.toBitVec_inj.mp
  apply BitVec.eq_of_toNat_eq
  simp [lN, hy, Nat.shiftRight_eq_div_pow, hp]
  first | (rw [Nat.mod_eq_of_lt h, Nat.mod_eq_of_lt (Nat.lt_of_le_of_lt (Nat.div_le_self _ _) h)]; done) | (rw [Nat.mod_eq_of_lt h]; done) | omega
theorem tm_lt {x k P : Nat} (hP : 0 < P) (hk : 0 < k) : x % P * k / P < k := by
  rw [Nat.div_lt_iff_lt_mul hP, Nat.mul_comm k P]
  exact Nat.mul_lt_mul_of_lt_of_le (Nat.mod_lt _ hP) (Nat.le_refl k) hk
theorem tm_le {x k P : Nat} (hP : 0 < P) : x % P * k / P ≤ k := by
  rcases Nat.eq_zero_or_pos k with h | h
  · subst h; simp
  · exact Nat.le_of_lt (tm_lt hP h)
theorem tm_bd {w k c : Nat} (hw : w < 2 ^ 32) (hk : k < 2 ^ 31) (hc : c ≤ k) : w * k + c < 2 ^ 63 := by
  have h1 : w * k ≤ (2 ^ 32 - 1) * k := Nat.mul_le_mul_right _ (by omega)
  omega
theorem dv_step {x d P B : Nat} (hP : 0 < P) (hB : 0 < B) (hd : 0 < d) : x / d / P % B = (x / (P * B) % d * B + x / P % B) / d ∧ x / P % d = (x / (P * B) % d * B + x / P % B) % d ∧ (x / (P * B) % d * B + x / P % B) / d < B := by
  have e : x / P = x / (P * B) * B + x / P % B := by
    rw [← Nat.div_div_eq_div_mul, Nat.mul_comm]
    exact (Nat.div_add_mod (x / P) B).symm
  have e2 : x / P = d * (x / (P * B) / d * B) + (x / (P * B) % d * B + x / P % B) := by
    conv => lhs; rw [e]; lhs; lhs; rw [← Nat.div_add_mod (x / (P * B)) d]
    rw [Nat.add_mul, Nat.mul_assoc, Nat.add_assoc]
  have hlt : (x / (P * B) % d * B + x / P % B) / d < B := by
    rw [Nat.div_lt_iff_lt_mul hd]
    have h1 : x / (P * B) % d * B + B ≤ d * B := by
      have := Nat.mul_le_mul_right B (Nat.succ_le_of_lt (Nat.mod_lt (x / (P * B)) hd))
      rw [Nat.succ_mul] at this
      exact this
    have h2 := Nat.mod_lt (x / P) hB
    rw [Nat.mul_comm B d]
    omega
  refine ⟨?_, ?_, hlt⟩
  · rw [Nat.div_div_eq_div_mul, Nat.mul_comm d P, ← Nat.div_div_eq_div_mul]
    conv => lhs; rw [e2]
    rw [Nat.mul_add_div hd, Nat.mul_comm, Nat.mul_add_mod, Nat.mod_eq_of_lt hlt]
  · conv => lhs; rw [e2]
    rw [Nat.mul_add_mod]
theorem mn_step {x y P B : Nat} (hP : 0 < P) (hB : 0 < B) (hxy : y ≤ x) :
    ∃ b b' : Nat, b = (if x % P < y % P then 1 else 0) ∧ b' = (if x % (P * B) < y % (P * B) then 1 else 0) ∧ (x - y) / P % B + y / P % B + b = x / P % B + b' * B := by
  refine ⟨_, _, rfl, rfl, ?_⟩
  have ex : x % (P * B) = P * (x / P % B) + x % P := by rw [Nat.mod_mul]; omega
  have ey : y % (P * B) = P * (y / P % B) + y % P := by rw [Nat.mod_mul]; omega
  have hx := Nat.mod_lt x hP
  have hy := Nat.mod_lt y hP
  have ed : (x - y) / P + y / P + (if x % P < y % P then 1 else 0) = x / P := by
    have h1 := Nat.div_add_mod x P
    have h2 := Nat.div_add_mod y P
    have h3 := Nat.div_add_mod (x - y) P
    have h4 := Nat.mod_lt (x - y) hP
    generalize x / P = X at *
    generalize y / P = Y at *
    generalize (x - y) / P = Z at *
    generalize x % P = r at *
    generalize y % P = t at *
    generalize (x - y) % P = u at *
    have h5 : P * Z + u + (P * Y + t) = P * X + r := by omega
    split
    · rename_i hlt
      have h6 : P * (Z + Y + 1) + (u + t - P) = P * X + r ∨ P * (Z + Y) + (u + t) = P * X + r := by
        right; rw [Nat.mul_add]; omega
      rcases Nat.lt_trichotomy (Z + Y + 1) X with h | h | h
      · have := Nat.mul_le_mul_left P (show Z + Y + 2 ≤ X by omega)
        rw [Nat.mul_add, Nat.mul_add] at this
        omega
      · exact h
      · have := Nat.mul_le_mul_left P (show X ≤ Z + Y by omega)
        rw [Nat.mul_add] at this
        omega
    · rename_i hlt
      rcases Nat.lt_trichotomy (Z + Y) X with h | h | h
      · have := Nat.mul_le_mul_left P (show Z + Y + 1 ≤ X by omega)
        rw [Nat.mul_add, Nat.mul_add] at this
        omega
      · exact h
      · have := Nat.mul_le_mul_left P (show X + 1 ≤ Z + Y by omega)
        rw [Nat.mul_add, Nat.mul_add] at this
        omega
  have hX := Nat.mod_lt (x / P) hB
  have hY := Nat.mod_lt (y / P) hB
  have hZ := Nat.mod_lt ((x - y) / P) hB
  have hb : (if x % (P * B) < y % (P * B) then 1 else 0) = if x / P % B < y / P % B + (if x % P < y % P then 1 else 0) then 1 else 0 := by
    rw [ex, ey]
    rcases Nat.lt_trichotomy (x / P % B) (y / P % B) with h | h | h
    · have := Nat.mul_le_mul_left P (show x / P % B + 1 ≤ y / P % B by omega)
      rw [Nat.mul_add] at this
      rw [if_pos (by omega), if_pos (by omega)]
    · rw [h]
      split <;> split <;> split <;> omega
    · have := Nat.mul_le_mul_left P (show y / P % B + 1 ≤ x / P % B by omega)
      rw [Nat.mul_add] at this
      rw [if_neg (by omega), if_neg (by split <;> omega)]
  rw [hb]
  have hb1 : (if x % P < y % P then 1 else 0) ≤ 1 := by split <;> omega
  have e1 := Nat.div_add_mod (x / P) B
  have e2 := Nat.div_add_mod (y / P) B
  have e3 := Nat.div_add_mod ((x - y) / P) B
  generalize x / P % B = X at *
  generalize y / P % B = Y at *
  generalize (x - y) / P % B = Z at *
  generalize x / P / B = X' at *
  generalize y / P / B = Y' at *
  generalize (x - y) / P / B = Z' at *
  generalize (if x % P < y % P then 1 else 0) = b at *
  have h7 : B * (Z' + Y') + (Z + Y + b) = B * X' + X := by rw [Nat.mul_add]; omega
  split
  · rcases Nat.lt_trichotomy (Z' + Y' + 1) X' with h | h | h
    · have := Nat.mul_le_mul_left B (show Z' + Y' + 2 ≤ X' by omega)
      rw [Nat.mul_add] at this
      omega
    · rw [← h] at h7
      have e9 := Nat.mul_add B (Z' + Y') 1
      omega
    · have := Nat.mul_le_mul_left B (show X' ≤ Z' + Y' by omega)
      omega
  · rcases Nat.lt_trichotomy (Z' + Y') X' with h | h | h
    · have := Nat.mul_le_mul_left B (show Z' + Y' + 1 ≤ X' by omega)
      rw [Nat.mul_add] at this
      omega
    · rw [h] at h7
      omega
    · have := Nat.mul_le_mul_left B (show X' + 1 ≤ Z' + Y' by omega)
      rw [Nat.mul_add] at this
      omega
end
section
theorem wb_tb (n : Nat) : (lN n).toBitVec = BitVec.ofNat 64 n := rfl
theorem wb_inj {a b : Int64} (h : a.toBitVec = b.toBitVec) : a = b := Int64.toBitVec_inj.mp h
theorem wb_tn {n : Nat} (h : n < 2 ^ 64) : (lN n).toBitVec.toNat = n := by rw [wb_tb, BitVec.toNat_ofNat, Nat.mod_eq_of_lt h]
theorem wb_of (x : Int64) : ∃ n, n < 2 ^ 64 ∧ x = lN n := ⟨x.toBitVec.toNat, x.toBitVec.isLt, wb_inj (by rw [wb_tb]; simp)⟩
theorem wb_of32 (x : Int32) : ∃ n, n < 2 ^ 32 ∧ x = nI n := ⟨x.toBitVec.toNat, x.toBitVec.isLt, Int32.toBitVec_inj.mp (by show _ = BitVec.ofNat 32 _; simp)⟩
theorem wb_c : ∀ k, k < 64 → ((nI k).toInt64 &&& 63) = lN k := by decide +kernel
theorem wb_cu : ∀ k, k < 64 → ((nI k).toInt64.toUInt64 &&& Int64.toUInt64 63) = UInt64.ofNat k := by decide +kernel
theorem wb_sm : ∀ k, k < 64 → (BitVec.ofNat 64 k).smod 64 = BitVec.ofNat 64 k := by decide +kernel
theorem wb_pw {a b : Nat} (h : a ≤ b) : 2 ^ b = 2 ^ a * 2 ^ (b - a) := by rw [← Nat.pow_add]; congr 1; omega
theorem wb_lt2 {a b : Nat} (h : a < b) : 2 ^ a < 2 ^ b := Nat.pow_lt_pow_right (by decide) h
theorem wb_mod (n : Nat) : lN n = lN (n % 2 ^ 64) := wb_inj (by rw [wb_tb, wb_tb]; apply BitVec.eq_of_toNat_eq; rw [BitVec.toNat_ofNat, BitVec.toNat_ofNat, Nat.mod_mod])
theorem wb_shr {n k : Nat} (hn : n < 2 ^ 64) (hk : k < 64) : ((lN n).toUInt64 >>> ((nI k).toInt64.toUInt64 &&& Int64.toUInt64 63)).toInt64 = lN (n / 2 ^ k) := by
  rw [wb_cu k hk]
  apply wb_inj
  apply BitVec.eq_of_toNat_eq
  show ((lN n).toUInt64 >>> UInt64.ofNat k).toNat = (BitVec.ofNat 64 _).toNat
  have h1 : (UInt64.ofNat k).toNat = k := by
    show (BitVec.ofNat 64 k).toNat = k
    rw [BitVec.toNat_ofNat, Nat.mod_eq_of_lt (by omega)]
  have h2 : (lN n).toUInt64.toNat = n := wb_tn hn
  rw [UInt64.toNat_shiftRight, h1, h2, Nat.mod_eq_of_lt hk, Nat.shiftRight_eq_div_pow, BitVec.toNat_ofNat, Nat.mod_eq_of_lt (Nat.lt_of_le_of_lt (Nat.div_le_self _ _) hn)]
theorem wb_shl (n : Nat) {k : Nat} (hk : k < 64) : lN n <<< ((nI k).toInt64 &&& 63) = lN (n * 2 ^ k) := by
  rw [wb_c k hk]
  apply wb_inj
  rw [Int64.toBitVec_shiftLeft, wb_tb, wb_tb, wb_tb, wb_sm k hk]
  apply BitVec.eq_of_toNat_eq
  rw [BitVec.shiftLeft_eq', BitVec.toNat_shiftLeft, BitVec.toNat_ofNat, BitVec.toNat_ofNat, BitVec.toNat_ofNat, Nat.mod_eq_of_lt (show k < 2 ^ 64 by omega), Nat.shiftLeft_eq, Nat.mul_mod, Nat.mod_mod, ← Nat.mul_mod]
theorem wb_and {a b : Nat} (ha : a < 2 ^ 64) (hb : b < 2 ^ 64) : lN a &&& lN b = lN (a &&& b) := by
  apply wb_inj
  rw [Int64.toBitVec_and, wb_tb, wb_tb, wb_tb]
  apply BitVec.eq_of_toNat_eq
  rw [BitVec.toNat_and, BitVec.toNat_ofNat, BitVec.toNat_ofNat, BitVec.toNat_ofNat, Nat.mod_eq_of_lt ha, Nat.mod_eq_of_lt hb, Nat.mod_eq_of_lt (Nat.and_lt_two_pow _ hb)]
theorem wb_or {a b : Nat} (ha : a < 2 ^ 64) (hb : b < 2 ^ 64) : lN a ||| lN b = lN (a ||| b) := by
  apply wb_inj
  rw [Int64.toBitVec_or, wb_tb, wb_tb, wb_tb]
  apply BitVec.eq_of_toNat_eq
  rw [BitVec.toNat_or, BitVec.toNat_ofNat, BitVec.toNat_ofNat, BitVec.toNat_ofNat, Nat.mod_eq_of_lt ha, Nat.mod_eq_of_lt hb, Nat.mod_eq_of_lt (Nat.or_lt_two_pow ha hb)]
theorem wb_mask {n k : Nat} (hn : n < 2 ^ 64) (hk : k < 64) : lN n &&& lN (2 ^ k - 1) = lN (n % 2 ^ k) := by
  rw [wb_and hn (by have := wb_lt2 hk; omega), Nat.and_two_pow_sub_one_eq_mod]
theorem wb_a1 {n : Nat} (hn : n < 2 ^ 64) : lN n &&& 1 = lN (n % 2) := wb_mask (k := 1) hn (by decide)
theorem wb_bit {n k : Nat} (hn : n < 2 ^ 64) (hk : k < 64) : ((lN n).toUInt64 >>> ((nI k).toInt64.toUInt64 &&& Int64.toUInt64 63)).toInt64 &&& 1 = lN (n / 2 ^ k % 2) := by
  rw [wb_shr hn hk, wb_a1 (Nat.lt_of_le_of_lt (Nat.div_le_self _ _) hn)]
theorem wb_xor {q k : Nat} (hk : k < 63) (h : 2 ^ k ≤ q) (h2 : q < 2 ^ (k + 1)) : lN q ^^^ lN (2 ^ k) = lN (q - 2 ^ k) := by
  obtain ⟨r, rfl⟩ : ∃ r, q = 2 ^ k + r := ⟨q - 2 ^ k, by omega⟩
  have hr : r < 2 ^ k := by rw [Nat.pow_succ] at h2; omega
  have hx : (2 ^ k + r) ^^^ 2 ^ k = r := by
    apply Nat.eq_of_testBit_eq
    intro i
    rw [Nat.testBit_xor, Nat.testBit_two_pow]
    rcases Nat.lt_trichotomy i k with h | h | h
    · rw [Nat.testBit_two_pow_add_gt h]
      simp [show ¬ k = i by omega]
    · subst h
      rw [Nat.testBit_two_pow_add_eq]
      simp
    · have a1 : 2 ^ (k + 1) ≤ 2 ^ i := Nat.pow_le_pow_right (by decide) h
      rw [Nat.testBit_lt_two_pow (show 2 ^ k + r < 2 ^ i by omega), Nat.testBit_lt_two_pow (show r < 2 ^ i by omega)]
      simp [show ¬ k = i by omega]
  have b1 := wb_lt2 (show k + 1 < 64 by omega)
  have b2 := wb_lt2 (show k < 64 by omega)
  apply wb_inj
  rw [Int64.toBitVec_xor, wb_tb, wb_tb, wb_tb]
  apply BitVec.eq_of_toNat_eq
  rw [BitVec.toNat_xor, BitVec.toNat_ofNat, BitVec.toNat_ofNat, BitVec.toNat_ofNat, Nat.mod_eq_of_lt (by omega : 2 ^ k + r < 2 ^ 64), Nat.mod_eq_of_lt b2, hx, Nat.add_sub_cancel_left, Nat.mod_eq_of_lt (by omega)]
/-! ===== lN: masks, 'or' of parts that don't overlap is a sum ===== -/
theorem u_tn {n : Nat} (h : n < 2 ^ 64) : (UInt64.ofNat n).toNat = n := Nat.mod_eq_of_lt h
theorem g_and {a b c : Nat} (ha : a < 2 ^ 64) (hb : b < 2 ^ 64) (hc : a &&& b = c) : lN a &&& lN b = lN c := by
  subst hc
  have h : UInt64.ofNat a &&& UInt64.ofNat b = UInt64.ofNat (a &&& b) := UInt64.toNat_inj.mp (by rw [UInt64.toNat_and, u_tn ha, u_tn hb, u_tn (Nat.and_lt_two_pow a hb)])
  have h2 := congrArg UInt64.toInt64 h
  exact h2
theorem g_and1 {a : Nat} (ha : a < 2 ^ 64) : lN a &&& 1 = lN (a % 2) := g_and (b := 1) ha (by decide) (Nat.and_two_pow_sub_one_eq_mod a 1)
theorem g_mask {a s p : Nat} (hp : 2 ^ s = p) (hs : s < 64) (ha : a < 2 ^ 64) : lN a &&& lN (p - 1) = lN (a % p) := by
  subst hp
  have := Nat.pow_lt_pow_right (show 1 < 2 by decide) hs
  exact g_and ha (by omega) (Nat.and_two_pow_sub_one_eq_mod a s)
theorem g_or {k p a b : Nat} (hp : 2 ^ k = p) (ha : a < p) (h : b * p + a < 2 ^ 64) : lN (b * p) ||| lN a = lN (b * p + a) := by
  subst hp
  have h1 : b * 2 ^ k ||| a = b * 2 ^ k + a := by rw [← Nat.shiftLeft_eq, Nat.shiftLeft_add_eq_or_of_lt ha]
  have h3 : UInt64.ofNat (b * 2 ^ k) ||| UInt64.ofNat a = UInt64.ofNat (b * 2 ^ k + a) := UInt64.toNat_inj.mp (by rw [UInt64.toNat_or, u_tn (by omega), u_tn (by omega), u_tn h, h1])
  have h2 := congrArg UInt64.toInt64 h3
  exact h2
theorem g_or' {k p a b : Nat} (hp : 2 ^ k = p) (ha : a < p) (h : a + b * p < 2 ^ 64) : lN a ||| lN (b * p) = lN (a + b * p) := by
  rw [Int64.or_comm, g_or hp ha (by omega), Nat.add_comm]
theorem g_ushr {a k p : Nat} {y : UInt64} (hy : y = UInt64.ofNat k) (hk : k < 64) (hp : 2 ^ k = p) (ha : a < 2 ^ 64) : ((lN a).toUInt64 >>> y).toInt64 = lN (a / p) := by
  subst hy hp
  have h : UInt64.ofNat a >>> UInt64.ofNat k = UInt64.ofNat (a / 2 ^ k) := UInt64.toNat_inj.mp (by rw [UInt64.toNat_shiftRight, u_tn ha, u_tn (by omega), u_tn (Nat.lt_of_le_of_lt (Nat.div_le_self _ _) ha), Nat.mod_eq_of_lt hk, Nat.shiftRight_eq_div_pow])
  have h2 := congrArg UInt64.toInt64 h
  exact h2
theorem g_shl {a k p : Nat} {y : Int64} (hy : y.toBitVec.smod 64 = BitVec.ofNat 64 k) (hk : k < 64) (hp : 2 ^ k = p) (ha : a < 2 ^ 64) : lN a <<< y = lN (a * p) := by
  subst hp
  apply Int64.toBitVec_inj.mp
  rw [Int64.toBitVec_shiftLeft, hy]
  apply BitVec.eq_of_toNat_eq
  have hb : (lN a).toBitVec.toNat = a := Nat.mod_eq_of_lt ha
  have hk' : (BitVec.ofNat 64 k).toNat = k := Nat.mod_eq_of_lt (by omega)
  have h : ((lN a).toBitVec <<< BitVec.ofNat 64 k).toNat = (a * 2 ^ k) % 2 ^ 64 := by simp only [BitVec.shiftLeft_eq', BitVec.toNat_shiftLeft, hb, hk', Nat.shiftLeft_eq]
  exact h
/-! ===== lN to 2^62 under >> and >>> ===== -/
theorem pf_lI {a : Nat} (h : a < 2 ^ 63) : (lN a).toInt = (a : Int) := lg_ofNat_toInt h
theorem pf_shr {a d : Nat} {D : Int64} (hD : (D.toBitVec.smod 64).toNat = d) (h : a < 2 ^ 62) : lN a >>> D = lN (a / 2 ^ d) := by
  have hd : a / 2 ^ d ≤ a := Nat.div_le_self _ _
  apply Int64.toInt_inj.mp
  have e : (lN a >>> D).toInt = (lN a).toInt >>> d := by
    rw [← hD]
    exact BitVec.toInt_sshiftRight ..
  rw [e, Int.shiftRight_eq_div_pow, pf_lI (by omega), pf_lI (by omega)]
  rfl
theorem pf_ushr {a d : Nat} {D : UInt64} (hD : D.toNat % 64 = d) (h : a < 2 ^ 62) : ((lN a).toUInt64 >>> D).toInt64 = lN (a / 2 ^ d) := by
  have hd : a / 2 ^ d ≤ a := Nat.div_le_self _ _
  have e : (lN a).toUInt64 >>> D = UInt64.ofNat (a / 2 ^ d) := UInt64.toNat_inj.mp (by
    rw [UInt64.toNat_shiftRight, hD, Nat.shiftRight_eq_div_pow, UInt64.toNat_ofNat']
    show (UInt64.ofNat a).toNat / 2 ^ d = _
    rw [UInt64.toNat_ofNat', Nat.mod_eq_of_lt (by omega), Nat.mod_eq_of_lt (by omega)])
  rw [e]
  rfl
theorem pf_andw (x : Int64) : ∃ m, m < 2 ^ 32 ∧ x &&& 4294967295 = lN m := ⟨x.toBitVec.toNat % 2 ^ 32, Nat.mod_lt _ (by decide), Int64.toBitVec_inj.mp (BitVec.eq_of_toNat_eq (by
  show (x.toBitVec &&& 4294967295#64).toNat = (BitVec.ofNat 64 (x.toBitVec.toNat % 2 ^ 32)).toNat
  rw [BitVec.toNat_and, show (4294967295#64).toNat = 2 ^ 32 - 1 from by decide, Nat.and_two_pow_sub_one_eq_mod, BitVec.toNat_ofNat]
  omega))⟩
end
section
/-! words and comparisons -/
theorem nI_inj {a b : Nat} (ha : a < 2 ^ 32) (hb : b < 2 ^ 32) : nI a = nI b ↔ a = b := by
  refine ⟨fun h => ?_, fun h => by rw [h]⟩
  have := congrArg (fun z : Int32 => z.toBitVec.toNat) h
  simp only [pk_tn ha, pk_tn hb] at this
  exact this
theorem i_or0 (a b : Int32) : a ||| b = 0 ↔ a = 0 ∧ b = 0 := by
  refine ⟨fun h => ?_, fun h => by rw [h.1, h.2]; decide⟩
  have h1 : a.toBitVec.toNat ||| b.toBitVec.toNat = 0 := by
    have := congrArg (fun z : Int32 => z.toBitVec.toNat) h
    simpa using this
  have h2 := Nat.or_eq_zero_iff.mp h1
  refine ⟨Int32.toBitVec_inj.mp (BitVec.eq_of_toNat_eq (by simpa using h2.1)), Int32.toBitVec_inj.mp (BitVec.eq_of_toNat_eq (by simpa using h2.2))⟩
theorem wd_0 {x j : Nat} : wd x j = 0 ↔ x / 2 ^ (32 * j) % 2 ^ 32 = 0 := nI_inj (Nat.mod_lt _ (by decide)) (by decide)
theorem wd_1 {x j : Nat} : wd x j = 1 ↔ x / 2 ^ (32 * j) % 2 ^ 32 = 1 := nI_inj (Nat.mod_lt _ (by decide)) (by decide)
theorem wd_z {x : Nat} (h : x < 2 ^ 128) : wd x 0 ||| wd x 1 ||| wd x 2 ||| wd x 3 = 0 ↔ x = 0 := by
  rw [i_or0, i_or0, i_or0, wd_0, wd_0, wd_0, wd_0]
  simp only [Nat.mul_zero, Nat.pow_zero, Nat.div_one, Nat.mul_one, show 32 * 2 = 64 from rfl, show 32 * 3 = 96 from rfl]
  omega
theorem wd_o {x : Nat} (h : x < 2 ^ 128) : (wd x 0 = 1 ∧ wd x 1 ||| wd x 2 ||| wd x 3 = 0) ↔ x = 1 := by
  rw [i_or0, i_or0, wd_0, wd_0, wd_0, wd_1]
  simp only [Nat.mul_zero, Nat.pow_zero, Nat.div_one, Nat.mul_one, show 32 * 2 = 64 from rfl, show 32 * 3 = 96 from rfl]
  omega
def cmpI (x y : Nat) : Int32 := if x < y then -1 else if x = y then 0 else 1
theorem cmpI_up {x y P B : Nat} (hB : 0 < B) (h : x / (P * B) = y / (P * B)) (hw : x / P % B = y / P % B) : x / P = y / P := by
  rw [← Nat.div_div_eq_div_mul, ← Nat.div_div_eq_div_mul] at h
  rw [← Nat.div_add_mod (x / P) B, ← Nat.div_add_mod (y / P) B, h, hw]
theorem cmpI_lt {x y P B : Nat} (hP : 0 < P) (hB : 0 < B) (h : x / (P * B) = y / (P * B)) (hw : x / P % B < y / P % B) : x < y := by
  rw [← Nat.div_div_eq_div_mul, ← Nat.div_div_eq_div_mul] at h
  have h1 : x / P < y / P := by
    rw [← Nat.div_add_mod (x / P) B, ← Nat.div_add_mod (y / P) B, h]
    omega
  exact Nat.lt_of_not_le fun q => absurd (Nat.div_le_div_right (c := P) q) (Nat.not_le.mpr h1)
theorem l_shl {n : Nat} : lN n <<< ((32 : Int32).toInt64 &&& 63) = lN (n * 2 ^ 32) := wb_shl n (k := 32) (by decide)
theorem l_or {r w : Nat} (hw : w < 2 ^ 32) (hr : r < 2 ^ 31) : lN (r * 2 ^ 32) ||| lN w = lN (r * 2 ^ 32 + w) := g_or (k := 32) rfl hw (by omega)
theorem l_bw {a b c z q : Nat} (h : z + b + c = a + q * 2 ^ 32) : lN a - lN b + (0 - lN c) = lN z - lN (q * 2 ^ 32) := by
  have e : lN z + lN b + lN c = lN a + lN (q * 2 ^ 32) := by rw [lN_add, lN_add, lN_add, h]
  generalize lN z = Z at *
  generalize lN b = B at *
  generalize lN c = C at *
  generalize lN a = A at *
  generalize lN (q * 2 ^ 32) = T at *
  grind
theorem l_bi {z q : Nat} : (lN z - lN (q * 2 ^ 32)).toInt32 = nI z := by
  have e : nI (q * 2 ^ 32) = 0 := by rw [nI_mod, Nat.mul_mod_left]; rfl
  rw [Int64.toInt32_sub, lN_i, lN_i, e]
  exact Int32.sub_zero _
theorem l_bs {z q : Nat} {y : Int64} (hy : (y.toBitVec.smod 64).toNat = 32) (hz : z < 2 ^ 32) (hq : q ≤ 1) : (lN z - lN (q * 2 ^ 32)) >>> y = 0 - lN q := by
  have h2 : q = 0 ∨ q = 1 := by omega
  have e : ∀ x : Int64, (x >>> y).toInt = x.toInt >>> 32 := fun x => by
    rw [← hy]
    exact BitVec.toInt_sshiftRight ..
  rcases h2 with rfl | rfl
  · have h3 : lN z - lN (0 * 2 ^ 32) = lN z := by
      rw [Nat.zero_mul]
      exact Int64.sub_zero _
    rw [h3, pf_shr hy (by omega), Nat.div_eq_of_lt hz]
    rfl
  · apply Int64.toInt_inj.mp
    rw [e, Int64.toInt_sub, pf_lI (by omega), pf_lI (by decide), Int.shiftRight_eq_div_pow]
    have h4 : Int.bmod ((z : Int) - ((1 * 2 ^ 32 : Nat) : Int)) (2 ^ 64) = (z : Int) - 4294967296 := by
      rw [Int.bmod_eq_of_le] <;> omega
    rw [h4]
    have h5 : ((0 : Int64) - lN 1).toInt = -1 := by decide
    rw [h5]
    omega
theorem wd_small {k : Nat} (h : k < 2 ^ 32) (j : Nat) : upd (fun _ => (0 : Int32)) 0 (nI k) j = wd k j := by
  by_cases e : j = 0
  · subst e
    rw [upd_at]
    unfold wd
    rw [Nat.mul_zero, Nat.pow_zero, Nat.div_one, Nat.mod_eq_of_lt h]
  · rw [upd_ne e]
    unfold wd
    rw [Nat.div_eq_of_lt (Nat.lt_of_lt_of_le h (Nat.pow_le_pow_right (by decide) (by omega)))]
    rfl
theorem wd_zero (j : Nat) : wd 0 j = 0 := by
  unfold wd
  rw [Nat.zero_div, Nat.zero_mod]
  rfl
def b2i (b : Bool) : Int32 := if b = true then 1 else 0
theorem b2i_0 {b : Bool} : b2i b = 0 ↔ b = false := by cases b <;> decide
theorem b2i_n0 {b : Bool} : ¬ b2i b = 0 ↔ b = true := by cases b <;> decide
end
section
/-! calls, by what they give back -/
section XRF
variable {p : Program} {l : Launch} {e : Env} {R : Room} {s : State} {m : MethodId} {args : Array Value} {below : List Frame} {meth : Method} {c : Code} {H : Heap} {locs : List Loc} {cells slots : Nat} {Q : State → Prop}
variable {cc bytes : ByteArray} {pc nL maxL n index : Nat} {ls : Array Slot} {rest st0 As : List Value} {A0 A1 : Nat → Prop} {H0 : Heap} {K : State → Prop} {y : MethodName} {ws Ts : List Cond} {rm : Room} {own C host : String} {b : Nat} {ret : Option FieldType}
theorem xr_IN {α : Type} {emb : α → Option Value} {Q1 : α → Heap → Prop} (S : CallFix p m c cc nL s args Ts own) (hko : xr_ok K) (hK : K s) (hM : Ctr l K y ws rm (.ref b :: As) H emb Q1 A1) (cw : va_CN R s args own index y host bytes maxL none ws rm rm.cells rm.slots n ∧ y.name = "<init>" ∧ (Cond.instanceMethod y).before args s = true) (hn : As.length = n) (hsize : ls.size = nL) (hst : st0 = As.reverse ++ .ref b :: rest) (hW : (rest.map fun v => v.category).sum ≤ 8) (hdg : decode cc pc = .ok (.invokespecial index, 3)) (hf : cells + rm.cells ≤ R.cells ∧ slots + rm.slots ≤ R.slots) (hS : va_S A0 H0 H locs) (hA : ∀ q, A1 q → A0 q)
    (kk : ∀ (r : α) (H1 : Heap) (locs1 : List Loc), Q1 r H1 → H.size ≤ H1.size → (∀ q : Nat, q < H.size → ¬ A1 q → H1[q]? = H[q]?) → va_S A0 H0 H1 locs1 → W p l e R s m args below meth c H1 locs1 (cells + rm.cells) (slots + rm.slots) Q (F0 m (pc + 3) ls ((emb r).toList ++ rest))) : W p l e R s m args below meth c H locs cells slots Q (F0 m pc ls st0) :=
  xr_back (va_runIN (g := F0 m pc ls st0) S hM cw ⟨xr_blind hko _ _, fun U hU hW => ⟨rfl, hU, hko.1 s U hW hK⟩⟩ rfl hn hsize hst (lv_room hW) hdg hf) hS hA kk
theorem xr_Vi {Q1 : Int32 → Heap → Prop} (S : CallFix p m c cc nL s args Ts own) (hko : xr_ok K) (hK : K s) (hM : Ctr l K y ws rm (.ref b :: As) H eI Q1 A1) (cw : CallW R s args own C index y bytes maxL ret ws rm rm.cells rm.slots n) (hrec : ∃ cell : Cell, H[b]? = some cell ∧ cell.vm.isStatics = false ∧ s.vm.findClass C = some cell.cls) (hn : As.length = n) (hsize : ls.size = nL) (hst : st0 = As.reverse ++ .ref b :: rest) (hW : (rest.map fun v => v.category).sum ≤ 8) (hdg : decode cc pc = .ok (.invokevirtual index, 3)) (hf : cells + rm.cells ≤ R.cells ∧ slots + rm.slots ≤ R.slots) (hS : va_S A0 H0 H locs) (hA : ∀ q, A1 q → A0 q)
    (kk : ∀ (r : Int32) (H1 : Heap) (locs1 : List Loc), Q1 r H1 → H.size ≤ H1.size → (∀ q : Nat, q < H.size → ¬ A1 q → H1[q]? = H[q]?) → va_S A0 H0 H1 locs1 → W p l e R s m args below meth c H1 locs1 (cells + rm.cells) (slots + rm.slots) Q (F0 m (pc + 3) ls (.int r :: rest))) : W p l e R s m args below meth c H locs cells slots Q (F0 m pc ls st0) :=
  xr_V S hko hK hM cw hrec hn hsize hst hW hdg hf hS hA kk
theorem xr_Vv {Q1 : Unit → Heap → Prop} (S : CallFix p m c cc nL s args Ts own) (hko : xr_ok K) (hK : K s) (hM : Ctr l K y ws rm (.ref b :: As) H eV Q1 A1) (cw : CallW R s args own C index y bytes maxL ret ws rm rm.cells rm.slots n) (hrec : ∃ cell : Cell, H[b]? = some cell ∧ cell.vm.isStatics = false ∧ s.vm.findClass C = some cell.cls) (hn : As.length = n) (hsize : ls.size = nL) (hst : st0 = As.reverse ++ .ref b :: rest) (hW : (rest.map fun v => v.category).sum ≤ 8) (hdg : decode cc pc = .ok (.invokevirtual index, 3)) (hf : cells + rm.cells ≤ R.cells ∧ slots + rm.slots ≤ R.slots) (hS : va_S A0 H0 H locs) (hA : ∀ q, A1 q → A0 q)
    (kk : ∀ (r : Unit) (H1 : Heap) (locs1 : List Loc), Q1 r H1 → H.size ≤ H1.size → (∀ q : Nat, q < H.size → ¬ A1 q → H1[q]? = H[q]?) → va_S A0 H0 H1 locs1 → W p l e R s m args below meth c H1 locs1 (cells + rm.cells) (slots + rm.slots) Q (F0 m (pc + 3) ls (rest))) : W p l e R s m args below meth c H locs cells slots Q (F0 m pc ls st0) :=
  xr_V S hko hK hM cw hrec hn hsize hst hW hdg hf hS hA kk
theorem xr_Vr {Q1 : Value → Heap → Prop} (S : CallFix p m c cc nL s args Ts own) (hko : xr_ok K) (hK : K s) (hM : Ctr l K y ws rm (.ref b :: As) H eR Q1 A1) (cw : CallW R s args own C index y bytes maxL ret ws rm rm.cells rm.slots n) (hrec : ∃ cell : Cell, H[b]? = some cell ∧ cell.vm.isStatics = false ∧ s.vm.findClass C = some cell.cls) (hn : As.length = n) (hsize : ls.size = nL) (hst : st0 = As.reverse ++ .ref b :: rest) (hW : (rest.map fun v => v.category).sum ≤ 8) (hdg : decode cc pc = .ok (.invokevirtual index, 3)) (hf : cells + rm.cells ≤ R.cells ∧ slots + rm.slots ≤ R.slots) (hS : va_S A0 H0 H locs) (hA : ∀ q, A1 q → A0 q)
    (kk : ∀ (r : Value) (H1 : Heap) (locs1 : List Loc), Q1 r H1 → H.size ≤ H1.size → (∀ q : Nat, q < H.size → ¬ A1 q → H1[q]? = H[q]?) → va_S A0 H0 H1 locs1 → W p l e R s m args below meth c H1 locs1 (cells + rm.cells) (slots + rm.slots) Q (F0 m (pc + 3) ls (r :: rest))) : W p l e R s m args below meth c H locs cells slots Q (F0 m pc ls st0) :=
  xr_V S hko hK hM cw hrec hn hsize hst hW hdg hf hS hA kk
theorem xr_Vl {Q1 : Int64 → Heap → Prop} (S : CallFix p m c cc nL s args Ts own) (hko : xr_ok K) (hK : K s) (hM : Ctr l K y ws rm (.ref b :: As) H eL Q1 A1) (cw : CallW R s args own C index y bytes maxL ret ws rm rm.cells rm.slots n) (hrec : ∃ cell : Cell, H[b]? = some cell ∧ cell.vm.isStatics = false ∧ s.vm.findClass C = some cell.cls) (hn : As.length = n) (hsize : ls.size = nL) (hst : st0 = As.reverse ++ .ref b :: rest) (hW : (rest.map fun v => v.category).sum ≤ 8) (hdg : decode cc pc = .ok (.invokevirtual index, 3)) (hf : cells + rm.cells ≤ R.cells ∧ slots + rm.slots ≤ R.slots) (hS : va_S A0 H0 H locs) (hA : ∀ q, A1 q → A0 q)
    (kk : ∀ (r : Int64) (H1 : Heap) (locs1 : List Loc), Q1 r H1 → H.size ≤ H1.size → (∀ q : Nat, q < H.size → ¬ A1 q → H1[q]? = H[q]?) → va_S A0 H0 H1 locs1 → W p l e R s m args below meth c H1 locs1 (cells + rm.cells) (slots + rm.slots) Q (F0 m (pc + 3) ls (.long r :: rest))) : W p l e R s m args below meth c H locs cells slots Q (F0 m pc ls st0) :=
  xr_V S hko hK hM cw hrec hn hsize hst hW hdg hf hS hA kk
theorem xr_Si {Q1 : Int32 → Heap → Prop} (S : CallFix p m c cc nL s args Ts own) (hko : xr_ok K) (hK : K s) (hM : Ctr l K y ws rm As H eI Q1 A1) (cw : CallB R s args own index y bytes maxL ret ws rm rm.cells rm.slots n ∧ (Cond.static y).before args s = true) (hn : As.length = n) (hsize : ls.size = nL) (hst : st0 = As.reverse ++ rest) (hW : (rest.map fun v => v.category).sum ≤ 8) (hdg : decode cc pc = .ok (.invokestatic index, 3)) (hf : cells + rm.cells ≤ R.cells ∧ slots + rm.slots ≤ R.slots) (hS : va_S A0 H0 H locs) (hA : ∀ q, A1 q → A0 q)
    (kk : ∀ (r : Int32) (H1 : Heap) (locs1 : List Loc), Q1 r H1 → H.size ≤ H1.size → (∀ q : Nat, q < H.size → ¬ A1 q → H1[q]? = H[q]?) → va_S A0 H0 H1 locs1 → W p l e R s m args below meth c H1 locs1 (cells + rm.cells) (slots + rm.slots) Q (F0 m (pc + 3) ls (.int r :: rest))) : W p l e R s m args below meth c H locs cells slots Q (F0 m pc ls st0) :=
  xr_S S hko hK hM cw hn hsize hst hW hdg hf hS hA kk
theorem xr_Sv {Q1 : Unit → Heap → Prop} (S : CallFix p m c cc nL s args Ts own) (hko : xr_ok K) (hK : K s) (hM : Ctr l K y ws rm As H eV Q1 A1) (cw : CallB R s args own index y bytes maxL ret ws rm rm.cells rm.slots n ∧ (Cond.static y).before args s = true) (hn : As.length = n) (hsize : ls.size = nL) (hst : st0 = As.reverse ++ rest) (hW : (rest.map fun v => v.category).sum ≤ 8) (hdg : decode cc pc = .ok (.invokestatic index, 3)) (hf : cells + rm.cells ≤ R.cells ∧ slots + rm.slots ≤ R.slots) (hS : va_S A0 H0 H locs) (hA : ∀ q, A1 q → A0 q)
    (kk : ∀ (r : Unit) (H1 : Heap) (locs1 : List Loc), Q1 r H1 → H.size ≤ H1.size → (∀ q : Nat, q < H.size → ¬ A1 q → H1[q]? = H[q]?) → va_S A0 H0 H1 locs1 → W p l e R s m args below meth c H1 locs1 (cells + rm.cells) (slots + rm.slots) Q (F0 m (pc + 3) ls (rest))) : W p l e R s m args below meth c H locs cells slots Q (F0 m pc ls st0) :=
  xr_S S hko hK hM cw hn hsize hst hW hdg hf hS hA kk
theorem xr_Sr {Q1 : Value → Heap → Prop} (S : CallFix p m c cc nL s args Ts own) (hko : xr_ok K) (hK : K s) (hM : Ctr l K y ws rm As H eR Q1 A1) (cw : CallB R s args own index y bytes maxL ret ws rm rm.cells rm.slots n ∧ (Cond.static y).before args s = true) (hn : As.length = n) (hsize : ls.size = nL) (hst : st0 = As.reverse ++ rest) (hW : (rest.map fun v => v.category).sum ≤ 8) (hdg : decode cc pc = .ok (.invokestatic index, 3)) (hf : cells + rm.cells ≤ R.cells ∧ slots + rm.slots ≤ R.slots) (hS : va_S A0 H0 H locs) (hA : ∀ q, A1 q → A0 q)
    (kk : ∀ (r : Value) (H1 : Heap) (locs1 : List Loc), Q1 r H1 → H.size ≤ H1.size → (∀ q : Nat, q < H.size → ¬ A1 q → H1[q]? = H[q]?) → va_S A0 H0 H1 locs1 → W p l e R s m args below meth c H1 locs1 (cells + rm.cells) (slots + rm.slots) Q (F0 m (pc + 3) ls (r :: rest))) : W p l e R s m args below meth c H locs cells slots Q (F0 m pc ls st0) :=
  xr_S S hko hK hM cw hn hsize hst hW hdg hf hS hA kk
theorem xr_Sl {Q1 : Int64 → Heap → Prop} (S : CallFix p m c cc nL s args Ts own) (hko : xr_ok K) (hK : K s) (hM : Ctr l K y ws rm As H eL Q1 A1) (cw : CallB R s args own index y bytes maxL ret ws rm rm.cells rm.slots n ∧ (Cond.static y).before args s = true) (hn : As.length = n) (hsize : ls.size = nL) (hst : st0 = As.reverse ++ rest) (hW : (rest.map fun v => v.category).sum ≤ 8) (hdg : decode cc pc = .ok (.invokestatic index, 3)) (hf : cells + rm.cells ≤ R.cells ∧ slots + rm.slots ≤ R.slots) (hS : va_S A0 H0 H locs) (hA : ∀ q, A1 q → A0 q)
    (kk : ∀ (r : Int64) (H1 : Heap) (locs1 : List Loc), Q1 r H1 → H.size ≤ H1.size → (∀ q : Nat, q < H.size → ¬ A1 q → H1[q]? = H[q]?) → va_S A0 H0 H1 locs1 → W p l e R s m args below meth c H1 locs1 (cells + rm.cells) (slots + rm.slots) Q (F0 m (pc + 3) ls (.long r :: rest))) : W p l e R s m args below meth c H locs cells slots Q (F0 m pc ls st0) :=
  xr_S S hko hK hM cw hn hsize hst hW hdg hf hS hA kk
theorem xr_SNi {Q1 : Int32 → Heap → Prop} (S : CallFix p m c cc nL s args Ts own) (hko : xr_ok K) (hK : K s) (hM : Ctr l K y ws rm As H eI Q1 A1) (cw : va_CN R s args own index y host bytes maxL ret ws rm rm.cells rm.slots n ∧ (Cond.static y).before args s = true ∧ True) (hn : As.length = n) (hsize : ls.size = nL) (hst : st0 = As.reverse ++ rest) (hW : (rest.map fun v => v.category).sum ≤ 8) (hdg : decode cc pc = .ok (.invokestatic index, 3)) (hf : cells + rm.cells ≤ R.cells ∧ slots + rm.slots ≤ R.slots) (hS : va_S A0 H0 H locs) (hA : ∀ q, A1 q → A0 q)
    (kk : ∀ (r : Int32) (H1 : Heap) (locs1 : List Loc), Q1 r H1 → H.size ≤ H1.size → (∀ q : Nat, q < H.size → ¬ A1 q → H1[q]? = H[q]?) → va_S A0 H0 H1 locs1 → W p l e R s m args below meth c H1 locs1 (cells + rm.cells) (slots + rm.slots) Q (F0 m (pc + 3) ls (.int r :: rest))) : W p l e R s m args below meth c H locs cells slots Q (F0 m pc ls st0) :=
  xr_SN S hko hK hM cw hn hsize hst hW hdg hf hS hA kk
theorem xr_SNv {Q1 : Unit → Heap → Prop} (S : CallFix p m c cc nL s args Ts own) (hko : xr_ok K) (hK : K s) (hM : Ctr l K y ws rm As H eV Q1 A1) (cw : va_CN R s args own index y host bytes maxL ret ws rm rm.cells rm.slots n ∧ (Cond.static y).before args s = true ∧ True) (hn : As.length = n) (hsize : ls.size = nL) (hst : st0 = As.reverse ++ rest) (hW : (rest.map fun v => v.category).sum ≤ 8) (hdg : decode cc pc = .ok (.invokestatic index, 3)) (hf : cells + rm.cells ≤ R.cells ∧ slots + rm.slots ≤ R.slots) (hS : va_S A0 H0 H locs) (hA : ∀ q, A1 q → A0 q)
    (kk : ∀ (r : Unit) (H1 : Heap) (locs1 : List Loc), Q1 r H1 → H.size ≤ H1.size → (∀ q : Nat, q < H.size → ¬ A1 q → H1[q]? = H[q]?) → va_S A0 H0 H1 locs1 → W p l e R s m args below meth c H1 locs1 (cells + rm.cells) (slots + rm.slots) Q (F0 m (pc + 3) ls (rest))) : W p l e R s m args below meth c H locs cells slots Q (F0 m pc ls st0) :=
  xr_SN S hko hK hM cw hn hsize hst hW hdg hf hS hA kk
theorem xr_SNr {Q1 : Value → Heap → Prop} (S : CallFix p m c cc nL s args Ts own) (hko : xr_ok K) (hK : K s) (hM : Ctr l K y ws rm As H eR Q1 A1) (cw : va_CN R s args own index y host bytes maxL ret ws rm rm.cells rm.slots n ∧ (Cond.static y).before args s = true ∧ True) (hn : As.length = n) (hsize : ls.size = nL) (hst : st0 = As.reverse ++ rest) (hW : (rest.map fun v => v.category).sum ≤ 8) (hdg : decode cc pc = .ok (.invokestatic index, 3)) (hf : cells + rm.cells ≤ R.cells ∧ slots + rm.slots ≤ R.slots) (hS : va_S A0 H0 H locs) (hA : ∀ q, A1 q → A0 q)
    (kk : ∀ (r : Value) (H1 : Heap) (locs1 : List Loc), Q1 r H1 → H.size ≤ H1.size → (∀ q : Nat, q < H.size → ¬ A1 q → H1[q]? = H[q]?) → va_S A0 H0 H1 locs1 → W p l e R s m args below meth c H1 locs1 (cells + rm.cells) (slots + rm.slots) Q (F0 m (pc + 3) ls (r :: rest))) : W p l e R s m args below meth c H locs cells slots Q (F0 m pc ls st0) :=
  xr_SN S hko hK hM cw hn hsize hst hW hdg hf hS hA kk
theorem xr_SNl {Q1 : Int64 → Heap → Prop} (S : CallFix p m c cc nL s args Ts own) (hko : xr_ok K) (hK : K s) (hM : Ctr l K y ws rm As H eL Q1 A1) (cw : va_CN R s args own index y host bytes maxL ret ws rm rm.cells rm.slots n ∧ (Cond.static y).before args s = true ∧ True) (hn : As.length = n) (hsize : ls.size = nL) (hst : st0 = As.reverse ++ rest) (hW : (rest.map fun v => v.category).sum ≤ 8) (hdg : decode cc pc = .ok (.invokestatic index, 3)) (hf : cells + rm.cells ≤ R.cells ∧ slots + rm.slots ≤ R.slots) (hS : va_S A0 H0 H locs) (hA : ∀ q, A1 q → A0 q)
    (kk : ∀ (r : Int64) (H1 : Heap) (locs1 : List Loc), Q1 r H1 → H.size ≤ H1.size → (∀ q : Nat, q < H.size → ¬ A1 q → H1[q]? = H[q]?) → va_S A0 H0 H1 locs1 → W p l e R s m args below meth c H1 locs1 (cells + rm.cells) (slots + rm.slots) Q (F0 m (pc + 3) ls (.long r :: rest))) : W p l e R s m args below meth c H locs cells slots Q (F0 m pc ls st0) :=
  xr_SN S hko hK hM cw hn hsize hst hW hdg hf hS hA kk
theorem xr_Iv {Q1 : Unit → Heap → Prop} (S : CallFix p m c cc nL s args Ts own) (hko : xr_ok K) (hK : K s) (hM : Ctr l K y ws rm (.ref b :: As) H eV Q1 A1) (cw : CallB R s args own index y bytes maxL none ws rm rm.cells rm.slots n ∧ y.name = "<init>" ∧ (Cond.instanceMethod y).before args s = true) (hn : As.length = n) (hsize : ls.size = nL) (hst : st0 = As.reverse ++ .ref b :: rest) (hW : (rest.map fun v => v.category).sum ≤ 8) (hdg : decode cc pc = .ok (.invokespecial index, 3)) (hf : cells + rm.cells ≤ R.cells ∧ slots + rm.slots ≤ R.slots) (hS : va_S A0 H0 H locs) (hA : ∀ q, A1 q → A0 q)
    (kk : ∀ (r : Unit) (H1 : Heap) (locs1 : List Loc), Q1 r H1 → H.size ≤ H1.size → (∀ q : Nat, q < H.size → ¬ A1 q → H1[q]? = H[q]?) → va_S A0 H0 H1 locs1 → W p l e R s m args below meth c H1 locs1 (cells + rm.cells) (slots + rm.slots) Q (F0 m (pc + 3) ls (rest))) : W p l e R s m args below meth c H locs cells slots Q (F0 m pc ls st0) :=
  xr_I S hko hK hM cw hn hsize hst hW hdg hf hS hA kk
theorem xr_INv {Q1 : Unit → Heap → Prop} (S : CallFix p m c cc nL s args Ts own) (hko : xr_ok K) (hK : K s) (hM : Ctr l K y ws rm (.ref b :: As) H eV Q1 A1) (cw : va_CN R s args own index y host bytes maxL none ws rm rm.cells rm.slots n ∧ y.name = "<init>" ∧ (Cond.instanceMethod y).before args s = true) (hn : As.length = n) (hsize : ls.size = nL) (hst : st0 = As.reverse ++ .ref b :: rest) (hW : (rest.map fun v => v.category).sum ≤ 8) (hdg : decode cc pc = .ok (.invokespecial index, 3)) (hf : cells + rm.cells ≤ R.cells ∧ slots + rm.slots ≤ R.slots) (hS : va_S A0 H0 H locs) (hA : ∀ q, A1 q → A0 q)
    (kk : ∀ (r : Unit) (H1 : Heap) (locs1 : List Loc), Q1 r H1 → H.size ≤ H1.size → (∀ q : Nat, q < H.size → ¬ A1 q → H1[q]? = H[q]?) → va_S A0 H0 H1 locs1 → W p l e R s m args below meth c H1 locs1 (cells + rm.cells) (slots + rm.slots) Q (F0 m (pc + 3) ls (rest))) : W p l e R s m args below meth c H locs cells slots Q (F0 m pc ls st0) :=
  xr_IN S hko hK hM cw hn hsize hst hW hdg hf hS hA kk
end XRF
section XRP
variable {p : Program} {l : Launch} {e : Env} {R : Room} {s : State} {m : MethodId} {args : Array Value} {below : List Frame} {meth : Method} {c : Code} {H : Heap} {locs : List Loc} {cells slots : Nat} {Q : State → Prop}
variable {cc : ByteArray} {pc : Nat} {ls : Array Slot} {rest : List Value} {g : WG} {A : Nat → Prop} {a b : Nat} {H0 : Heap}
/-- System.arraycopy of the first N ints of one int array to the start of another -/
theorem xr_cpy (hx : p.tables.exec = Jvm.exec) (hb : c.code = cc) (hml : c.maxLocals = ls.size) {own : String} {index : Nat} (hown : s.vm.findClass own = some m.cls) (hlink : (Cond.methodLink own index arraycopyName).before args s = true) (hnat : (Cond.native arraycopyName).before args s = true) (hstat : (Cond.static arraycopyName).before args s = true) (hini : (Cond.initialized "java/lang/System").before args s = true)
    (hK : KK g s) (hS : va_S A H0 H locs) (hA : A a) {N n0 n1 : Nat} {f f1 : Nat → Int32} (hb0 : xr_ia H b (gI g) n0 f) (ha0 : xr_ia H a (gI g) n1 f1) (h0 : N ≤ n0) (h1 : N ≤ n1) (hN : N < 2 ^ 31)
    (hframes : 1 ≤ R.frames) (hlocals : (rest.map fun v => v.category).sum + (nativeFrameWords "java/lang/System" "arraycopy" 5 + 11) ≤ R.locals) (hdg : decode cc pc = .ok (.invokestatic index, 3))
    (kk : ∀ (H1 : Heap) (locs1 : List Loc), H1.size = H.size → (∀ q : Nat, q ≠ a → H1[q]? = H[q]?) → xr_ia H1 a (gI g) n1 (fun j => if j < N then f j else f1 j) → va_S A H0 H1 locs1 → W p l e R s m args below meth c H1 locs1 cells slots Q (F0 m (pc + 3) ls rest)) : W p l e R s m args below meth c H locs cells slots Q (F0 m pc ls (.int (nI N) :: .int 0 :: .ref a :: .int 0 :: .ref b :: rest)) := by
  intro T hT X
  have zI : (0 : Int32).toInt = 0 := by decide
  have zN : (0 : Int32).toNatClampNeg = 0 := by decide
  have ty : ArrOfT s (gI g) .int := (hK.1.2 0 (gI g, .int) rfl).1
  obtain ⟨-, kb, hkb, cb, hkkb⟩ := ty n0 (fun j => .int (f j))
  obtain ⟨-, ka, hka, ca, hkka⟩ := ty n1 (fun j => .int (f1 j))
  have sb : (vp_cell (gI g) (n0, .inl f)).slots.size = n0 := arrV_size ..
  have sa : (vp_cell (gI g) (n1, .inl f1)).slots.size = n1 := arrV_size ..
  have vb : ∀ i, i < N → (vp_cell (gI g) (n0, .inl f)).slots.getD i .null = .int (f i) := fun i hi => by
    rw [Array.getD_eq_getD_getElem?, vp_cell_i, arrV_read _ _ (by omega)]
    rfl
  obtain ⟨vm', X', step⟩ := X.arraycopy hx hown hlink hnat hstat hini (src := b) (dst := a) (cs := vp_cell (gI g) (n0, .inl f)) (cd := vp_cell (gI g) (n1, .inl f1)) (srcPos := 0) (destPos := 0) (n := nI N) (by rw [hT]; exact hb0) (by rw [hT]; exact ha0) (fun _ h => by cases h) (fun _ h => by cases h) (fun h => by cases h) (fun h => by cases h) hkb hka hkkb hkka rfl (by decide) (by decide) (nI_pos hN)
    (by rw [sb, zI, nI_toInt hN]; omega) (by rw [sa, zI, nI_toInt hN]; omega)
    (fun _ _ i hi => by
      rw [nI_clamp hN] at hi
      rw [zN, Nat.zero_add, vb i hi]
      exact ⟨rfl, trivial⟩)
    (g := F0 m pc ls (.int (nI N) :: .int 0 :: .ref a :: .int 0 :: .ref b :: rest)) rfl (by rw [hml]) (rest := rest) rfl (by rw [hb]; exact hdg) hframes (by show 2 * 0 + _ + _ ≤ _; omega)
  have ec : copied (vp_cell (gI g) (n0, .inl f)) (vp_cell (gI g) (n1, .inl f1)) 0 0 (nI N) = vp_cell (gI g) (n1, .inl (fun j => if j < N then f j else f1 j)) := by
    refine (va_copied (fun z => .int z) (gI g) (gI g) f f1 (by rw [zN, nI_clamp hN]; omega)).trans ?_
    rw [vp_cell_i]
    refine xr_arrV_to fun j hj => ?_
    unfold va_cpy
    rw [zN, nI_clamp hN, Nat.zero_add]
    by_cases hjN : j < N
    · rw [if_pos ⟨Nat.zero_le j, hjN⟩, if_pos hjN, Nat.zero_add, Nat.sub_zero]
    · rw [if_neg (fun q => hjN q.2), if_neg hjN]
  rw [ec] at X' step
  have ha : a < H.size := ha0.lt
  have hk : ∀ q : Nat, q ≠ a → (H.setIfInBounds a (vp_cell (gI g) (n1, .inl (fun j => if j < N then f j else f1 j))))[q]? = H[q]? := fun q hq => by simp [Array.getElem?_setIfInBounds, Ne.symm hq]
  obtain ⟨t, a1, b1⟩ := kk (H.setIfInBounds a (vp_cell (gI g) (n1, .inl (fun j => if j < N then f j else f1 j)))) _ (by simp) hk (by unfold xr_ia; simp [Array.getElem?_setIfInBounds, ha])
    ⟨by simp; exact hS.1, fun q g1 g2 => by rw [hk q (fun e => g2 (by rw [e]; exact hA))]; exact hS.2.1 q g1 g2, fun q hq => by
      rcases List.mem_append.mp hq with h | h
      · exact hS.2.2 q h
      · obtain ⟨z, -, hz⟩ := List.mem_map.mp h
        rw [← hz]
        exact hA⟩ _ (by rw [← hT]; rfl) X'
  exact ⟨t, step t a1, b1⟩
end XRP
end
section
set_option maxHeartbeats 400000 in
set_option maxRecDepth 100000 in
/-- times: the product -/
theorem c_X0_times (l : Launch) (g : WG) (H0 : Heap) (a x k : Nat) (hN : NatAt g H0 a x) (hk : k < 2 ^ 31) (hxk : x * k < 2 ^ 128) : Ctr l (KK g) yX0_times wsX0_times rmZ [.ref a, .int (nI k)] H0 eV (fun _ H => NatAt g H a (x * k)) (fun q => q = a + 1) := by
  refine xr_enter (cc := cX0_times) (maxL := 7) (ret := none) (by decide) rfl (Nat.le_of_ble_eq_true rfl) ?_
  intro p e s m below meth c hx hb hr hml hts hown hlocks hnm hH hK ls hl
  subst hH
  have hl : lv_has ls 7 [(0, .ref a), (1, .int (nI k))] := hl
  have hS : va_S (fun q => q = a + 1) s.heap s.heap [] := va_S.rf
  obtain ⟨hO, hf, hx128⟩ := id hN
  have loop : ∀ (n i : Nat), i ≤ 4 → 4 < i + n → ∀ (H : Heap) (locs : List Loc) (f : Nat → Int32), obj g H a 0 [.ref (a + 1)] → xr_ia H (a + 1) (gI g) 4 f → (∀ j, j < 4 → f j = if j < i then wd (x * k) j else wd x j) → va_S (fun q => q = a + 1) s.heap H locs → ∀ ls : Array Slot, lv_has ls 7 [(4, .int (nI i)), (2, .long (lN (x % 2 ^ (32 * i) * k / 2 ^ (32 * i)))), (0, .ref a), (1, .int (nI k))] → W p l e rmZ s m ([.ref a, .int (nI k)] : List Value).toArray below meth c H locs 0 0 (MQ below (xr_Post eV (fun _ H => NatAt g H a (x * k)) (fun q => q = a + 1)) ([.ref a, .int (nI k)] : List Value).toArray s (rmZ : Room).cells (rmZ : Room).slots (fun q => q = a + 1)) (F0 m 5 ls []) := by
    intro n
    induction n with
    | zero => intro i h1 h2; exact absurd h2 (by omega)
    | succ n ih =>
      intro i h1 h2 H locs f hO hf hfe hS ls hl
      refine lv_iload hx hb dX0_times_5 (lv_at hl 0 rfl) ?_
      refine lv_iconst (v := 4) hx hb dX0_times_7 (by decide) ?_
      refine lv_icmp_ge (tgt := 52) hx hb dX0_times_8 (by decide) (fun hc => ?_) (fun hc => ?_)
      · have e4 : 4 ≤ i := (nI_leI (by decide) (by omega)).mp hc
        have e4 : i = 4 := by omega
        subst e4
        exact xr_vret hx hb hr hlocks hS (hN.put (hS.2.1 a hN.1.lt (by show ¬ a = a + 1; omega)) hf (fun j hj => by rw [hfe j hj, if_pos hj]) hxk) dX0_times_52
      · have h4 : i < 4 := Nat.lt_of_not_le fun h => hc (nI_le h (by omega))
        have hw : x / 2 ^ (32 * i) % 2 ^ 32 < 2 ^ 32 := Nat.mod_lt _ (by decide)
        have hst := tm_step (x := x) (k := k) (P := 2 ^ (32 * i)) (B := 2 ^ 32) (Nat.two_pow_pos _) (by decide)
        have hbd : x / 2 ^ (32 * i) % 2 ^ 32 * k + x % 2 ^ (32 * i) * k / 2 ^ (32 * i) < 2 ^ 63 := tm_bd hw hk (tm_le (Nat.two_pow_pos _))
        refine lv_aload_n hx hb dX0_times_11 rfl (lv_at hl 2 rfl) ?_
        refine va_get (D := g.1) (ci := 0) (v := .ref (a + 1)) (C := RX0) (T := TX0) (N := 1) hx hb hts (by decide +kernel) hown hK.1 (xr_one hO) 0 rfl rfl 0 (by decide) (hts (.fieldLink RX0 9 "SharesDesk$Natural" "words" "[I") (by decide +kernel)) (fun _ h9 => h9) rfl dX0_times_12 ?_
        refine lv_iload hx hb dX0_times_15 (lv_at hl 0 rfl) ?_
        refine xr_rd hx hb hK hf h4 (by decide) dX0_times_17 ?_
        refine xr_ti (x' := nI (x / 2 ^ (32 * i) % 2 ^ 32)) (by rw [hfe i h4, if_neg (Nat.lt_irrefl i)]; rfl) ?_
        refine lv_i2l (v := (nI (x / 2 ^ (32 * i) % 2 ^ 32)).toInt64) hx hb dX0_times_18 rfl ?_
        refine lv_ldc2 (v := (4294967295)) hx hb hown (hts (.constantLong RX0 25 (4294967295)) (by decide +kernel)) dX0_times_19 ?_
        refine lv_land hx hb dX0_times_22 ?_
        refine xr_tl (x' := lN (x / 2 ^ (32 * i) % 2 ^ 32)) (lw_mask hw) ?_
        refine lv_iload_n hx hb dX0_times_23 rfl (lv_at hl 3 rfl) ?_
        refine lv_i2l (v := lN k) hx hb dX0_times_24 (nI_l hk) ?_
        refine lv_lmul hx hb dX0_times_25 ?_
        refine xr_tl (x' := lN (x / 2 ^ (32 * i) % 2 ^ 32 * k)) (lN_mul _ _) ?_
        refine lv_lload_n hx hb dX0_times_26 rfl (lv_at hl 1 rfl) ?_
        refine lv_ladd hx hb dX0_times_27 ?_
        refine xr_tl (x' := lN (x / 2 ^ (32 * i) % 2 ^ 32 * k + x % 2 ^ (32 * i) * k / 2 ^ (32 * i))) (lN_add _ _) ?_
        refine lv_lstore (lv' := [(5, .long (lN (x / 2 ^ (32 * i) % 2 ^ 32 * k + x % 2 ^ (32 * i) * k / 2 ^ (32 * i)))), (4, .int (nI i)), (2, .long (lN (x % 2 ^ (32 * i) * k / 2 ^ (32 * i)))), (0, .ref a), (1, .int (nI k))]) hx hb dX0_times_28 hl (by decide) rfl (fun ls hl => ?_)
        refine lv_aload_n hx hb dX0_times_30 rfl (lv_at hl 3 rfl) ?_
        refine va_get (D := g.1) (ci := 0) (v := .ref (a + 1)) (C := RX0) (T := TX0) (N := 1) hx hb hts (by decide +kernel) hown hK.1 (xr_one hO) 0 rfl rfl 0 (by decide) (hts (.fieldLink RX0 9 "SharesDesk$Natural" "words" "[I") (by decide +kernel)) (fun _ h9 => h9) rfl dX0_times_31 ?_
        refine lv_iload hx hb dX0_times_34 (lv_at hl 1 rfl) ?_
        refine lv_lload hx hb dX0_times_36 (lv_at hl 0 rfl) ?_
        refine lv_l2i (v := nI (x / 2 ^ (32 * i) % 2 ^ 32 * k + x % 2 ^ (32 * i) * k / 2 ^ (32 * i))) hx hb dX0_times_38 (lN_i _) ?_
        refine xr_wr hx hb hK hS rfl hf h4 (by decide) dX0_times_39 (fun H locs hz hkp hf hS => ?_)
        have hO := hO.kept (hkp a (by omega))
        refine lv_lload hx hb dX0_times_40 (lv_at hl 0 rfl) ?_
        refine lv_bipush (v := 32) hx hb dX0_times_42 (by decide) ?_
        refine lv_lushr (v := lN ((x / 2 ^ (32 * i) % 2 ^ 32 * k + x % 2 ^ (32 * i) * k / 2 ^ (32 * i)) / 2 ^ 32)) hx hb dX0_times_44 (l_sh (k := 32) (by decide) rfl (by omega)) ?_
        refine xr_tl (x' := lN (x % 2 ^ (32 * (i + 1)) * k / 2 ^ (32 * (i + 1)))) (by rw [p32s, hst.2]) ?_
        refine lv_lstore_n (lv' := [(2, .long (lN (x % 2 ^ (32 * (i + 1)) * k / 2 ^ (32 * (i + 1))))), (5, .long (lN (x / 2 ^ (32 * i) % 2 ^ 32 * k + x % 2 ^ (32 * i) * k / 2 ^ (32 * i)))), (4, .int (nI i)), (0, .ref a), (1, .int (nI k))]) hx hb dX0_times_45 rfl hl (by decide) rfl (fun ls hl => ?_)
        refine lv_iinc (v := nI (i + 1)) (lv' := [(4, .int (nI (i + 1))), (2, .long (lN (x % 2 ^ (32 * (i + 1)) * k / 2 ^ (32 * (i + 1))))), (5, .long (lN (x / 2 ^ (32 * i) % 2 ^ 32 * k + x % 2 ^ (32 * i) * k / 2 ^ (32 * i)))), (0, .ref a), (1, .int (nI k))]) hx hb dX0_times_46 hl (k := 2) rfl (nI_1 i) (by decide) rfl (fun ls hl => ?_)
        refine lv_goto (tgt := 5) hx hb dX0_times_49 (by decide) ?_
        exact ih (i + 1) (by omega) (by omega) H locs _ hO hf (wd_up hfe hst.1.symm) hS ls (lv_sub hl [0, 1, 3, 4] rfl)
  refine lv_lconst (v := 0) hx hb dX0_times_0 (by decide) ?_
  refine xr_tl (x' := lN (x % 2 ^ (32 * 0) * k / 2 ^ (32 * 0))) (by simp [Nat.mod_one, lN]) ?_
  refine lv_lstore_n (lv' := [(2, .long (lN (x % 2 ^ (32 * 0) * k / 2 ^ (32 * 0)))), (0, .ref a), (1, .int (nI k))]) hx hb dX0_times_1 rfl hl (by decide) rfl (fun ls hl => ?_)
  refine lv_iconst (v := 0) hx hb dX0_times_2 (by decide) ?_
  refine xr_ti (x' := nI 0) rfl ?_
  refine lv_istore (lv' := [(4, .int (nI 0)), (2, .long (lN (x % 2 ^ (32 * 0) * k / 2 ^ (32 * 0)))), (0, .ref a), (1, .int (nI k))]) hx hb dX0_times_3 hl (by decide) rfl (fun ls hl => ?_)
  exact loop 5 0 (by omega) (by omega) s.heap [] (wd x) hO hf (fun j hj => by rw [if_neg (Nat.not_lt_zero j)]) hS ls (lv_sub hl [0, 1, 2, 3] rfl)
set_option maxHeartbeats 400000 in
set_option maxRecDepth 100000 in
theorem c_X0_isZero (l : Launch) (g : WG) (H0 : Heap) (a x : Nat) (hN : NatAt g H0 a x) : Ctr l (KK g) yX0_isZero wsX0_isZero rmZ [.ref a] H0 eI (fun r H => r = b2i (decide (x = 0)) ∧ H = H0) (fun _ => False) := by
  refine xr_enter (cc := cX0_isZero) (maxL := 1) (ret := (some .boolean)) (by decide) rfl (Nat.le_of_ble_eq_true rfl) ?_
  intro p e s m below meth c hx hb hr hml hts hown hlocks hnm hH hK ls hl
  subst hH
  have hl : lv_has ls 1 [(0, .ref a)] := hl
  have hS : va_S (fun _ => False) s.heap s.heap [] := va_S.rf
  obtain ⟨hO, hf, hx128⟩ := hN
  refine lv_aload_n hx hb dX0_isZero_0 rfl (lv_at hl 0 rfl) ?_
  refine va_get (D := g.1) (ci := 0) (v := .ref (a + 1)) (C := RX0) (T := TX0) (N := 1) hx hb hts (by decide +kernel) hown hK.1 (xr_one hO) 0 rfl rfl 0 (by decide) (hts (.fieldLink RX0 9 "SharesDesk$Natural" "words" "[I") (by decide +kernel)) (fun _ h9 => h9) rfl dX0_isZero_1 ?_
  refine lv_iconst (v := 0) hx hb dX0_isZero_4 (by decide) ?_
  refine xr_ti (x' := nI 0) rfl ?_
  refine xr_rd hx hb hK hf (by decide) (by decide) dX0_isZero_5 ?_
  refine lv_aload_n hx hb dX0_isZero_6 rfl (lv_at hl 0 rfl) ?_
  refine va_get (D := g.1) (ci := 0) (v := .ref (a + 1)) (C := RX0) (T := TX0) (N := 1) hx hb hts (by decide +kernel) hown hK.1 (xr_one hO) 0 rfl rfl 0 (by decide) (hts (.fieldLink RX0 9 "SharesDesk$Natural" "words" "[I") (by decide +kernel)) (fun _ h9 => h9) rfl dX0_isZero_7 ?_
  refine lv_iconst (v := 1) hx hb dX0_isZero_10 (by decide) ?_
  refine xr_ti (x' := nI 1) rfl ?_
  refine xr_rd hx hb hK hf (by decide) (by decide) dX0_isZero_11 ?_
  refine lv_ior hx hb dX0_isZero_12 ?_
  refine lv_aload_n hx hb dX0_isZero_13 rfl (lv_at hl 0 rfl) ?_
  refine va_get (D := g.1) (ci := 0) (v := .ref (a + 1)) (C := RX0) (T := TX0) (N := 1) hx hb hts (by decide +kernel) hown hK.1 (xr_one hO) 0 rfl rfl 0 (by decide) (hts (.fieldLink RX0 9 "SharesDesk$Natural" "words" "[I") (by decide +kernel)) (fun _ h9 => h9) rfl dX0_isZero_14 ?_
  refine lv_iconst (v := 2) hx hb dX0_isZero_17 (by decide) ?_
  refine xr_ti (x' := nI 2) rfl ?_
  refine xr_rd hx hb hK hf (by decide) (by decide) dX0_isZero_18 ?_
  refine lv_ior hx hb dX0_isZero_19 ?_
  refine lv_aload_n hx hb dX0_isZero_20 rfl (lv_at hl 0 rfl) ?_
  refine va_get (D := g.1) (ci := 0) (v := .ref (a + 1)) (C := RX0) (T := TX0) (N := 1) hx hb hts (by decide +kernel) hown hK.1 (xr_one hO) 0 rfl rfl 0 (by decide) (hts (.fieldLink RX0 9 "SharesDesk$Natural" "words" "[I") (by decide +kernel)) (fun _ h9 => h9) rfl dX0_isZero_21 ?_
  refine lv_iconst (v := 3) hx hb dX0_isZero_24 (by decide) ?_
  refine xr_ti (x' := nI 3) rfl ?_
  refine xr_rd hx hb hK hf (by decide) (by decide) dX0_isZero_25 ?_
  refine lv_ior hx hb dX0_isZero_26 ?_
  refine lv_if_ne (tgt := 34) hx hb dX0_isZero_27 (by decide) (fun hc => ?_) (fun hc => ?_)
  · rw [wd_z hx128] at hc
    refine lv_iconst (v := 0) hx hb dX0_isZero_34 (by decide) ?_
    exact xr_zret hx hb hr rfl hlocks hS ⟨by rw [decide_eq_false hc]; rfl, rfl⟩ dX0_isZero_35
  · have hc := (wd_z hx128).mp hc
    refine lv_iconst (v := 1) hx hb dX0_isZero_30 (by decide) ?_
    refine lv_goto (tgt := 35) hx hb dX0_isZero_31 (by decide) ?_
    exact xr_zret hx hb hr rfl hlocks hS ⟨by rw [decide_eq_true hc]; rfl, rfl⟩ dX0_isZero_35
set_option maxHeartbeats 400000 in
set_option maxRecDepth 100000 in
theorem c_X0_isOne (l : Launch) (g : WG) (H0 : Heap) (a x : Nat) (hN : NatAt g H0 a x) : Ctr l (KK g) yX0_isOne wsX0_isOne rmZ [.ref a] H0 eI (fun r H => r = b2i (decide (x = 1)) ∧ H = H0) (fun _ => False) := by
  refine xr_enter (cc := cX0_isOne) (maxL := 1) (ret := (some .boolean)) (by decide) rfl (Nat.le_of_ble_eq_true rfl) ?_
  intro p e s m below meth c hx hb hr hml hts hown hlocks hnm hH hK ls hl
  subst hH
  have hl : lv_has ls 1 [(0, .ref a)] := hl
  have hS : va_S (fun _ => False) s.heap s.heap [] := va_S.rf
  obtain ⟨hO, hf, hx128⟩ := hN
  refine lv_aload_n hx hb dX0_isOne_0 rfl (lv_at hl 0 rfl) ?_
  refine va_get (D := g.1) (ci := 0) (v := .ref (a + 1)) (C := RX0) (T := TX0) (N := 1) hx hb hts (by decide +kernel) hown hK.1 (xr_one hO) 0 rfl rfl 0 (by decide) (hts (.fieldLink RX0 9 "SharesDesk$Natural" "words" "[I") (by decide +kernel)) (fun _ h9 => h9) rfl dX0_isOne_1 ?_
  refine lv_iconst (v := 0) hx hb dX0_isOne_4 (by decide) ?_
  refine xr_ti (x' := nI 0) rfl ?_
  refine xr_rd hx hb hK hf (by decide) (by decide) dX0_isOne_5 ?_
  refine lv_iconst (v := 1) hx hb dX0_isOne_6 (by decide) ?_
  refine lv_icmp_ne (tgt := 37) hx hb dX0_isOne_7 (by decide) (fun h1 => ?_) (fun h1 => ?_)
  · have hc : ¬ x = 1 := fun q => h1 ((wd_o hx128).mpr q).1
    refine lv_iconst (v := 0) hx hb dX0_isOne_37 (by decide) ?_
    exact xr_zret hx hb hr rfl hlocks hS ⟨by rw [decide_eq_false hc]; rfl, rfl⟩ dX0_isOne_38
  · have h1 := h1
    refine lv_aload_n hx hb dX0_isOne_10 rfl (lv_at hl 0 rfl) ?_
    refine va_get (D := g.1) (ci := 0) (v := .ref (a + 1)) (C := RX0) (T := TX0) (N := 1) hx hb hts (by decide +kernel) hown hK.1 (xr_one hO) 0 rfl rfl 0 (by decide) (hts (.fieldLink RX0 9 "SharesDesk$Natural" "words" "[I") (by decide +kernel)) (fun _ h9 => h9) rfl dX0_isOne_11 ?_
    refine lv_iconst (v := 1) hx hb dX0_isOne_14 (by decide) ?_
    refine xr_ti (x' := nI 1) rfl ?_
    refine xr_rd hx hb hK hf (by decide) (by decide) dX0_isOne_15 ?_
    refine lv_aload_n hx hb dX0_isOne_16 rfl (lv_at hl 0 rfl) ?_
    refine va_get (D := g.1) (ci := 0) (v := .ref (a + 1)) (C := RX0) (T := TX0) (N := 1) hx hb hts (by decide +kernel) hown hK.1 (xr_one hO) 0 rfl rfl 0 (by decide) (hts (.fieldLink RX0 9 "SharesDesk$Natural" "words" "[I") (by decide +kernel)) (fun _ h9 => h9) rfl dX0_isOne_17 ?_
    refine lv_iconst (v := 2) hx hb dX0_isOne_20 (by decide) ?_
    refine xr_ti (x' := nI 2) rfl ?_
    refine xr_rd hx hb hK hf (by decide) (by decide) dX0_isOne_21 ?_
    refine lv_ior hx hb dX0_isOne_22 ?_
    refine lv_aload_n hx hb dX0_isOne_23 rfl (lv_at hl 0 rfl) ?_
    refine va_get (D := g.1) (ci := 0) (v := .ref (a + 1)) (C := RX0) (T := TX0) (N := 1) hx hb hts (by decide +kernel) hown hK.1 (xr_one hO) 0 rfl rfl 0 (by decide) (hts (.fieldLink RX0 9 "SharesDesk$Natural" "words" "[I") (by decide +kernel)) (fun _ h9 => h9) rfl dX0_isOne_24 ?_
    refine lv_iconst (v := 3) hx hb dX0_isOne_27 (by decide) ?_
    refine xr_ti (x' := nI 3) rfl ?_
    refine xr_rd hx hb hK hf (by decide) (by decide) dX0_isOne_28 ?_
    refine lv_ior hx hb dX0_isOne_29 ?_
    refine lv_if_ne (tgt := 37) hx hb dX0_isOne_30 (by decide) (fun hc => ?_) (fun hc => ?_)
    · have hc : ¬ x = 1 := fun q => hc ((wd_o hx128).mpr q).2
      refine lv_iconst (v := 0) hx hb dX0_isOne_37 (by decide) ?_
      exact xr_zret hx hb hr rfl hlocks hS ⟨by rw [decide_eq_false hc]; rfl, rfl⟩ dX0_isOne_38
    · have hc : x = 1 := (wd_o hx128).mp ⟨h1, hc⟩
      refine lv_iconst (v := 1) hx hb dX0_isOne_33 (by decide) ?_
      refine lv_goto (tgt := 38) hx hb dX0_isOne_34 (by decide) ?_
      exact xr_zret hx hb hr rfl hlocks hS ⟨by rw [decide_eq_true hc]; rfl, rfl⟩ dX0_isOne_38
set_option maxHeartbeats 400000 in
set_option maxRecDepth 100000 in
theorem c_X0_wordAt (l : Launch) (g : WG) (H0 : Heap) (a x : Nat) (i : Int32) (hN : NatAt g H0 a x) : Ctr l (KK g) yX0_wordAt wsX0_wordAt rmZ [.ref a, .int i] H0 eI (fun r H => r = (if 0 ≤ i.toInt ∧ i.toInt < 4 then wd x i.toInt.toNat else 0) ∧ H = H0) (fun _ => False) := by
  refine xr_enter (cc := cX0_wordAt) (maxL := 2) (ret := (some .int)) (by decide) rfl (Nat.le_of_ble_eq_true rfl) ?_
  intro p e s m below meth c hx hb hr hml hts hown hlocks hnm hH hK ls hl
  subst hH
  have hl : lv_has ls 2 [(0, .ref a), (1, .int i)] := hl
  have hS : va_S (fun _ => False) s.heap s.heap [] := va_S.rf
  obtain ⟨hO, hf, hx128⟩ := hN
  refine lv_iload_n hx hb dX0_wordAt_0 rfl (lv_at hl 1 rfl) ?_
  refine lv_if_lt (tgt := 18) hx hb dX0_wordAt_1 (by decide) (fun h0 => ?_) (fun h0 => ?_)
  · have h9 : i.toInt < 0 := Int32.lt_iff_toInt_lt.mp h0
    refine lv_iconst (v := 0) hx hb dX0_wordAt_18 (by decide) ?_
    exact xr_iret hx hb hr hlocks hS ⟨by rw [if_neg (by omega)], rfl⟩ dX0_wordAt_19
  · obtain ⟨j, hj, rfl⟩ := nI_of h0
    have ej : (nI j).toInt = (j : Int) := nI_toInt hj
    refine lv_iload_n hx hb dX0_wordAt_4 rfl (lv_at hl 1 rfl) ?_
    refine lv_iconst (v := 4) hx hb dX0_wordAt_5 (by decide) ?_
    refine lv_icmp_ge (tgt := 18) hx hb dX0_wordAt_6 (by decide) (fun h4 => ?_) (fun h4 => ?_)
    · have h9 : 4 ≤ j := (nI_leI (by decide) hj).mp h4
      refine lv_iconst (v := 0) hx hb dX0_wordAt_18 (by decide) ?_
      exact xr_iret hx hb hr hlocks hS ⟨by rw [if_neg (by omega)], rfl⟩ dX0_wordAt_19
    · have h9 : j < 4 := Nat.lt_of_not_le fun h => h4 (nI_le h hj)
      refine lv_aload_n hx hb dX0_wordAt_9 rfl (lv_at hl 0 rfl) ?_
      refine va_get (D := g.1) (ci := 0) (v := .ref (a + 1)) (C := RX0) (T := TX0) (N := 1) hx hb hts (by decide +kernel) hown hK.1 (xr_one hO) 0 rfl rfl 0 (by decide) (hts (.fieldLink RX0 9 "SharesDesk$Natural" "words" "[I") (by decide +kernel)) (fun _ h9 => h9) rfl dX0_wordAt_10 ?_
      refine lv_iload_n hx hb dX0_wordAt_13 rfl (lv_at hl 1 rfl) ?_
      refine xr_rd hx hb hK hf h9 (by decide) dX0_wordAt_14 ?_
      refine lv_goto (tgt := 19) hx hb dX0_wordAt_15 (by decide) ?_
      exact xr_iret hx hb hr hlocks hS ⟨by rw [if_pos (by omega), ej]; rfl, rfl⟩ dX0_wordAt_19
set_option maxHeartbeats 400000 in
set_option maxRecDepth 100000 in
theorem c_X0_against (l : Launch) (g : WG) (H0 : Heap) (a b x y : Nat) (hN : NatAt g H0 a x) (hM : NatAt g H0 b y) : Ctr l (KK g) yX0_against wsX0_against rmZ [.ref a, .ref b] H0 eI (fun r H => r = cmpI x y ∧ H = H0) (fun _ => False) := by
  refine xr_enter (cc := cX0_against) (maxL := 3) (ret := (some .int)) (by decide) rfl (Nat.le_of_ble_eq_true rfl) ?_
  intro p e s m below meth c hx hb hr hml hts hown hlocks hnm hH hK ls hl
  subst hH
  have hl : lv_has ls 3 [(0, .ref a), (1, .ref b)] := hl
  have hS : va_S (fun _ => False) s.heap s.heap [] := va_S.rf
  obtain ⟨hO, hf, hx128⟩ := hN
  obtain ⟨hO2, hf2, hy128⟩ := hM
  have loop : ∀ n : Nat, n ≤ 4 → x / 2 ^ (32 * n) = y / 2 ^ (32 * n) → ∀ ls : Array Slot, lv_has ls 3 [(2, .int (nI n - 1)), (0, .ref a), (1, .ref b)] → W p l e rmZ s m ([.ref a, .ref b] : List Value).toArray below meth c s.heap [] 0 0 (MQ below (xr_Post eI (fun r H => r = cmpI x y ∧ H = s.heap) (fun _ => False)) ([.ref a, .ref b] : List Value).toArray s (rmZ : Room).cells (rmZ : Room).slots (fun _ => False)) (F0 m 2 ls []) := by
    intro n
    induction n with
    | zero =>
      intro _ he ls hl
      refine lv_iload_n hx hb dX0_against_2 rfl (lv_at hl 0 rfl) ?_
      refine lv_if_lt (tgt := 59) hx hb dX0_against_3 (by decide) (fun hc => ?_) (fun hc => ?_)
      · have he : x = y := by simpa using he
        refine lv_iconst (v := 0) hx hb dX0_against_59 (by decide) ?_
        exact xr_iret hx hb hr hlocks hS ⟨by rw [he]; simp [cmpI], rfl⟩ dX0_against_60
      · exact absurd (by decide) hc
    | succ i ih =>
      intro h4 he ls hl
      rw [nI_pred] at hl
      rw [p32s] at he
      have hwx : x / 2 ^ (32 * i) % 2 ^ 32 < 2 ^ 32 := Nat.mod_lt _ (by decide)
      have hwy : y / 2 ^ (32 * i) % 2 ^ 32 < 2 ^ 32 := Nat.mod_lt _ (by decide)
      refine lv_iload_n hx hb dX0_against_2 rfl (lv_at hl 0 rfl) ?_
      refine lv_if_lt (tgt := 59) hx hb dX0_against_3 (by decide) (fun hc => ?_) (fun hc => ?_)
      · exact absurd hc (nI_pos (by omega))
      · clear hc
        refine lv_aload_n hx hb dX0_against_6 rfl (lv_at hl 1 rfl) ?_
        refine va_get (D := g.1) (ci := 0) (v := .ref (a + 1)) (C := RX0) (T := TX0) (N := 1) hx hb hts (by decide +kernel) hown hK.1 (xr_one hO) 0 rfl rfl 0 (by decide) (hts (.fieldLink RX0 9 "SharesDesk$Natural" "words" "[I") (by decide +kernel)) (fun _ h9 => h9) rfl dX0_against_7 ?_
        refine lv_iload_n hx hb dX0_against_10 rfl (lv_at hl 0 rfl) ?_
        refine xr_rd hx hb hK hf (by omega) (by decide) dX0_against_11 ?_
        refine lv_aload_n hx hb dX0_against_12 rfl (lv_at hl 2 rfl) ?_
        refine va_get (D := g.1) (ci := 0) (v := .ref (b + 1)) (C := RX0) (T := TX0) (N := 1) hx hb hts (by decide +kernel) hown hK.1 (xr_one hO2) 0 rfl rfl 0 (by decide) (hts (.fieldLink RX0 9 "SharesDesk$Natural" "words" "[I") (by decide +kernel)) (fun _ h9 => h9) rfl dX0_against_13 ?_
        refine lv_iload_n hx hb dX0_against_16 rfl (lv_at hl 0 rfl) ?_
        refine xr_rd hx hb hK hf2 (by omega) (by decide) dX0_against_17 ?_
        refine lv_icmp_eq (tgt := 53) hx hb dX0_against_18 (by decide) (fun hc => ?_) (fun hc => ?_)
        · have hc := (nI_inj hwx hwy).mp hc
          refine lv_iinc (v := nI i - 1) (lv' := [(2, .int (nI i - 1)), (0, .ref a), (1, .ref b)]) hx hb dX0_against_53 hl (k := 0) rfl (Int32.sub_eq_add_neg (a := nI i) (b := 1)).symm (by decide) rfl (fun ls hl => ?_)
          refine lv_goto (tgt := 2) hx hb dX0_against_56 (by decide) ?_
          exact ih (by omega) (cmpI_up (by decide) he hc) ls (lv_sub hl [0, 1, 2] rfl)
        · have hne : ¬ x / 2 ^ (32 * i) % 2 ^ 32 = y / 2 ^ (32 * i) % 2 ^ 32 := fun q => hc ((nI_inj hwx hwy).mpr q)
          refine lv_aload_n hx hb dX0_against_21 rfl (lv_at hl 1 rfl) ?_
          refine va_get (D := g.1) (ci := 0) (v := .ref (a + 1)) (C := RX0) (T := TX0) (N := 1) hx hb hts (by decide +kernel) hown hK.1 (xr_one hO) 0 rfl rfl 0 (by decide) (hts (.fieldLink RX0 9 "SharesDesk$Natural" "words" "[I") (by decide +kernel)) (fun _ h9 => h9) rfl dX0_against_22 ?_
          refine lv_iload_n hx hb dX0_against_25 rfl (lv_at hl 0 rfl) ?_
          refine xr_rd hx hb hK hf (by omega) (by decide) dX0_against_26 ?_
          refine lv_i2l (v := (wd x i).toInt64) hx hb dX0_against_27 rfl ?_
          refine lv_ldc2 (v := (4294967295)) hx hb hown (hts (.constantLong RX0 25 (4294967295)) (by decide +kernel)) dX0_against_28 ?_
          refine lv_land hx hb dX0_against_31 ?_
          refine xr_tl (x' := lN (x / 2 ^ (32 * i) % 2 ^ 32)) (lw_mask hwx) ?_
          refine lv_aload_n hx hb dX0_against_32 rfl (lv_at hl 2 rfl) ?_
          refine va_get (D := g.1) (ci := 0) (v := .ref (b + 1)) (C := RX0) (T := TX0) (N := 1) hx hb hts (by decide +kernel) hown hK.1 (xr_one hO2) 0 rfl rfl 0 (by decide) (hts (.fieldLink RX0 9 "SharesDesk$Natural" "words" "[I") (by decide +kernel)) (fun _ h9 => h9) rfl dX0_against_33 ?_
          refine lv_iload_n hx hb dX0_against_36 rfl (lv_at hl 0 rfl) ?_
          refine xr_rd hx hb hK hf2 (by omega) (by decide) dX0_against_37 ?_
          refine lv_i2l (v := (wd y i).toInt64) hx hb dX0_against_38 rfl ?_
          refine lv_ldc2 (v := (4294967295)) hx hb hown (hts (.constantLong RX0 25 (4294967295)) (by decide +kernel)) dX0_against_39 ?_
          refine lv_land hx hb dX0_against_42 ?_
          refine xr_tl (x' := lN (y / 2 ^ (32 * i) % 2 ^ 32)) (lw_mask hwy) ?_
          refine W.lcmp hx hb dX0_against_43 ?_
          refine lv_if_ge (tgt := 51) hx hb dX0_against_44 (by decide) (fun hc => ?_) (fun hc => ?_)
          · have hlt := cmpI_lt (Nat.two_pow_pos _) (by decide) he.symm (Nat.lt_of_le_of_ne ((pk_lLE (by omega) (by omega)).mp ((lg_cmp_ge _ _).mp hc)) (fun q => hne q.symm))
            refine lv_iconst (v := 1) hx hb dX0_against_51 (by decide) ?_
            exact xr_iret hx hb hr hlocks hS ⟨by unfold cmpI; rw [if_neg (by omega), if_neg (by omega)], rfl⟩ dX0_against_52
          · have hlt := cmpI_lt (Nat.two_pow_pos _) (by decide) he (Nat.lt_of_not_le (fun q => hc ((lg_cmp_ge _ _).mpr ((pk_lLE (by omega) (by omega)).mpr q))))
            refine lv_iconst (v := (-1)) hx hb dX0_against_47 (by decide) ?_
            refine lv_goto (tgt := 52) hx hb dX0_against_48 (by decide) ?_
            exact xr_iret hx hb hr hlocks hS ⟨by unfold cmpI; rw [if_pos hlt], rfl⟩ dX0_against_52
  refine lv_iconst (v := 3) hx hb dX0_against_0 (by decide) ?_
  refine xr_ti (x' := nI 4 - 1) (by decide) ?_
  refine lv_istore_n (lv' := [(2, .int (nI 4 - 1)), (0, .ref a), (1, .ref b)]) hx hb dX0_against_1 rfl hl (by decide) rfl (fun ls hl => ?_)
  exact loop 4 (by omega) (by rw [Nat.div_eq_of_lt hx128, Nat.div_eq_of_lt hy128]) ls hl
set_option maxHeartbeats 400000 in
set_option maxRecDepth 100000 in
theorem c_X0_minus (l : Launch) (g : WG) (H0 : Heap) (a b x y : Nat) (hN : NatAt g H0 a x) (hM : NatAt g H0 b y) (hab : a ≠ b) (hyx : y ≤ x) (hd : a + 1 ≠ b) : Ctr l (KK g) yX0_minus wsX0_minus rmZ [.ref a, .ref b] H0 eV (fun _ H => NatAt g H a (x - y)) (fun q => q = a + 1) := by
  refine xr_enter (cc := cX0_minus) (maxL := 7) (ret := none) (by decide) rfl (Nat.le_of_ble_eq_true rfl) ?_
  intro p e s m below meth c hx hb hr hml hts hown hlocks hnm hH hK ls hl
  subst hH
  have hl : lv_has ls 7 [(0, .ref a), (1, .ref b)] := hl
  have hS : va_S (fun q => q = a + 1) s.heap s.heap [] := va_S.rf
  obtain ⟨hO, hf, hx128⟩ := id hN
  obtain ⟨hO2, hf2, hy128⟩ := hM
  have loop : ∀ (n i : Nat), i ≤ 4 → 4 < i + n → ∀ (H : Heap) (locs : List Loc) (f : Nat → Int32) (bb : Nat), bb = (if x % 2 ^ (32 * i) < y % 2 ^ (32 * i) then 1 else 0) → obj g H a 0 [.ref (a + 1)] → obj g H b 0 [.ref (b + 1)] → xr_ia H (b + 1) (gI g) 4 (wd y) → xr_ia H (a + 1) (gI g) 4 f → (∀ j, j < 4 → f j = if j < i then wd (x - y) j else wd x j) → va_S (fun q => q = a + 1) s.heap H locs → ∀ ls : Array Slot, lv_has ls 7 [(4, .int (nI i)), (2, .long (0 - lN bb)), (0, .ref a), (1, .ref b)] → W p l e rmZ s m ([.ref a, .ref b] : List Value).toArray below meth c H locs 0 0 (MQ below (xr_Post eV (fun _ H => NatAt g H a (x - y)) (fun q => q = a + 1)) ([.ref a, .ref b] : List Value).toArray s (rmZ : Room).cells (rmZ : Room).slots (fun q => q = a + 1)) (F0 m 5 ls []) := by
    intro n
    induction n with
    | zero => intro i h1 h2; exact absurd h2 (by omega)
    | succ n ih =>
      intro i h1 h2 H locs f bb hbb hO hO2 hf2 hf hfe hS ls hl
      refine lv_iload hx hb dX0_minus_5 (lv_at hl 0 rfl) ?_
      refine lv_iconst (v := 4) hx hb dX0_minus_7 (by decide) ?_
      refine lv_icmp_ge (tgt := 62) hx hb dX0_minus_8 (by decide) (fun hc => ?_) (fun hc => ?_)
      · have e4 : i = 4 := by have := (nI_leI (a := 4) (b := i) (by decide) (by omega)).mp hc; omega
        subst e4
        exact xr_vret hx hb hr hlocks hS (hN.put (hS.2.1 a hN.1.lt (by show ¬ a = a + 1; omega)) hf (fun j hj => by rw [hfe j hj, if_pos hj]) (by omega)) dX0_minus_62
      · have h4 : i < 4 := Nat.lt_of_not_le fun h => hc (nI_le h (by omega))
        have hwx : x / 2 ^ (32 * i) % 2 ^ 32 < 2 ^ 32 := Nat.mod_lt _ (by decide)
        have hwy : y / 2 ^ (32 * i) % 2 ^ 32 < 2 ^ 32 := Nat.mod_lt _ (by decide)
        have hwz : (x - y) / 2 ^ (32 * i) % 2 ^ 32 < 2 ^ 32 := Nat.mod_lt _ (by decide)
        obtain ⟨b1, b2, hb1, hb2, hst⟩ := mn_step (x := x) (y := y) (P := 2 ^ (32 * i)) (B := 2 ^ 32) (Nat.two_pow_pos _) (by decide) hyx
        rw [hb1.trans hbb.symm] at hst
        have hb21 : b2 ≤ 1 := by rw [hb2]; split <;> omega
        refine lv_aload_n hx hb dX0_minus_11 rfl (lv_at hl 2 rfl) ?_
        refine va_get (D := g.1) (ci := 0) (v := .ref (a + 1)) (C := RX0) (T := TX0) (N := 1) hx hb hts (by decide +kernel) hown hK.1 (xr_one hO) 0 rfl rfl 0 (by decide) (hts (.fieldLink RX0 9 "SharesDesk$Natural" "words" "[I") (by decide +kernel)) (fun _ h9 => h9) rfl dX0_minus_12 ?_
        refine lv_iload hx hb dX0_minus_15 (lv_at hl 0 rfl) ?_
        refine xr_rd hx hb hK hf h4 (by decide) dX0_minus_17 ?_
        refine xr_ti (x' := nI (x / 2 ^ (32 * i) % 2 ^ 32)) (by rw [hfe i h4, if_neg (Nat.lt_irrefl i)]; rfl) ?_
        refine lv_i2l (v := (nI (x / 2 ^ (32 * i) % 2 ^ 32)).toInt64) hx hb dX0_minus_18 rfl ?_
        refine lv_ldc2 (v := (4294967295)) hx hb hown (hts (.constantLong RX0 25 (4294967295)) (by decide +kernel)) dX0_minus_19 ?_
        refine lv_land hx hb dX0_minus_22 ?_
        refine xr_tl (x' := lN (x / 2 ^ (32 * i) % 2 ^ 32)) (lw_mask hwx) ?_
        refine lv_aload_n hx hb dX0_minus_23 rfl (lv_at hl 3 rfl) ?_
        refine va_get (D := g.1) (ci := 0) (v := .ref (b + 1)) (C := RX0) (T := TX0) (N := 1) hx hb hts (by decide +kernel) hown hK.1 (xr_one hO2) 0 rfl rfl 0 (by decide) (hts (.fieldLink RX0 9 "SharesDesk$Natural" "words" "[I") (by decide +kernel)) (fun _ h9 => h9) rfl dX0_minus_24 ?_
        refine lv_iload hx hb dX0_minus_27 (lv_at hl 0 rfl) ?_
        refine xr_rd hx hb hK hf2 h4 (by decide) dX0_minus_29 ?_
        refine xr_ti (x' := nI (y / 2 ^ (32 * i) % 2 ^ 32)) rfl ?_
        refine lv_i2l (v := (nI (y / 2 ^ (32 * i) % 2 ^ 32)).toInt64) hx hb dX0_minus_30 rfl ?_
        refine lv_ldc2 (v := (4294967295)) hx hb hown (hts (.constantLong RX0 25 (4294967295)) (by decide +kernel)) dX0_minus_31 ?_
        refine lv_land hx hb dX0_minus_34 ?_
        refine xr_tl (x' := lN (y / 2 ^ (32 * i) % 2 ^ 32)) (lw_mask hwy) ?_
        refine lv_lsub hx hb dX0_minus_35 ?_
        refine lv_lload_n hx hb dX0_minus_36 rfl (lv_at hl 1 rfl) ?_
        refine lv_ladd hx hb dX0_minus_37 ?_
        refine xr_tl (x' := lN ((x - y) / 2 ^ (32 * i) % 2 ^ 32) - lN (b2 * 2 ^ 32)) (l_bw hst) ?_
        refine lv_lstore (lv' := [(5, .long (lN ((x - y) / 2 ^ (32 * i) % 2 ^ 32) - lN (b2 * 2 ^ 32))), (4, .int (nI i)), (2, .long (0 - lN bb)), (0, .ref a), (1, .ref b)]) hx hb dX0_minus_38 hl (by decide) rfl (fun ls hl => ?_)
        refine lv_aload_n hx hb dX0_minus_40 rfl (lv_at hl 3 rfl) ?_
        refine va_get (D := g.1) (ci := 0) (v := .ref (a + 1)) (C := RX0) (T := TX0) (N := 1) hx hb hts (by decide +kernel) hown hK.1 (xr_one hO) 0 rfl rfl 0 (by decide) (hts (.fieldLink RX0 9 "SharesDesk$Natural" "words" "[I") (by decide +kernel)) (fun _ h9 => h9) rfl dX0_minus_41 ?_
        refine lv_iload hx hb dX0_minus_44 (lv_at hl 1 rfl) ?_
        refine lv_lload hx hb dX0_minus_46 (lv_at hl 0 rfl) ?_
        refine lv_l2i (v := nI ((x - y) / 2 ^ (32 * i) % 2 ^ 32)) hx hb dX0_minus_48 l_bi ?_
        refine xr_wr hx hb hK hS rfl hf h4 (by decide) dX0_minus_49 (fun H locs hz hkp hf hS => ?_)
        have hO := hO.kept (hkp a (by omega))
        have hO2 := hO2.kept (hkp b (by omega))
        have hf2 := hf2.kept (hkp (b + 1) (by omega))
        refine lv_lload hx hb dX0_minus_50 (lv_at hl 0 rfl) ?_
        refine lv_bipush (v := 32) hx hb dX0_minus_52 (by decide) ?_
        refine lv_lshr (v := 0 - lN b2) hx hb dX0_minus_54 (l_bs (by decide) hwz hb21) ?_
        refine lv_lstore_n (lv' := [(2, .long (0 - lN b2)), (5, .long (lN ((x - y) / 2 ^ (32 * i) % 2 ^ 32) - lN (b2 * 2 ^ 32))), (4, .int (nI i)), (0, .ref a), (1, .ref b)]) hx hb dX0_minus_55 rfl hl (by decide) rfl (fun ls hl => ?_)
        refine lv_iinc (v := nI (i + 1)) (lv' := [(4, .int (nI (i + 1))), (2, .long (0 - lN b2)), (5, .long (lN ((x - y) / 2 ^ (32 * i) % 2 ^ 32) - lN (b2 * 2 ^ 32))), (0, .ref a), (1, .ref b)]) hx hb dX0_minus_56 hl (k := 2) rfl (nI_1 i) (by decide) rfl (fun ls hl => ?_)
        refine lv_goto (tgt := 5) hx hb dX0_minus_59 (by decide) ?_
        exact ih (i + 1) (by omega) (by omega) H locs _ b2 (by rw [hb2, p32s]) hO hO2 hf2 hf (wd_up hfe (Nat.mod_mod _ _)) hS ls (lv_sub hl [0, 1, 3, 4] rfl)
  refine lv_lconst (v := 0) hx hb dX0_minus_0 (by decide) ?_
  refine xr_tl (x' := 0 - lN 0) (by decide) ?_
  refine lv_lstore_n (lv' := [(2, .long (0 - lN 0)), (0, .ref a), (1, .ref b)]) hx hb dX0_minus_1 rfl hl (by decide) rfl (fun ls hl => ?_)
  refine lv_iconst (v := 0) hx hb dX0_minus_2 (by decide) ?_
  refine xr_ti (x' := nI 0) rfl ?_
  refine lv_istore (lv' := [(4, .int (nI 0)), (2, .long (0 - lN 0)), (0, .ref a), (1, .ref b)]) hx hb dX0_minus_3 hl (by decide) rfl (fun ls hl => ?_)
  exact loop 5 0 (by omega) (by omega) s.heap [] (wd x) 0 (by simp [Nat.mod_one]) hO hO2 hf2 hf (fun j hj => by rw [if_neg (Nat.not_lt_zero j)]) hS ls (lv_sub hl [0, 1, 2, 3] rfl)
set_option maxHeartbeats 400000 in
set_option maxRecDepth 100000 in
theorem c_X0_divide (l : Launch) (g : WG) (H0 : Heap) (a x d : Nat) (hN : NatAt g H0 a x) (hd0 : 0 < d) (hd : d < 2 ^ 31) : Ctr l (KK g) yX0_divide wsX0_divide rmZ [.ref a, .int (nI d)] H0 eI (fun r H => r = nI (x % d) ∧ NatAt g H a (x / d)) (fun q => q = a + 1) := by
  refine xr_enter (cc := cX0_divide) (maxL := 7) (ret := (some .int)) (by decide) rfl (Nat.le_of_ble_eq_true rfl) ?_
  intro p e s m below meth c hx hb hr hml hts hown hlocks hnm hH hK ls hl
  subst hH
  have hl : lv_has ls 7 [(0, .ref a), (1, .int (nI d))] := hl
  have hS : va_S (fun q => q = a + 1) s.heap s.heap [] := va_S.rf
  obtain ⟨hO, hf, hx128⟩ := id hN
  have hdn : ¬ lN d = 0 := fun q => by have := (pk_lEQ (a := d) (b := 0) (by omega) (by decide)).mp q; omega
  have loop : ∀ n : Nat, n ≤ 4 → ∀ (H : Heap) (locs : List Loc) (f : Nat → Int32), obj g H a 0 [.ref (a + 1)] → xr_ia H (a + 1) (gI g) 4 f → (∀ j, j < 4 → f j = if n ≤ j then wd (x / d) j else wd x j) → va_S (fun q => q = a + 1) s.heap H locs → ∀ ls : Array Slot, lv_has ls 7 [(4, .int (nI n - 1)), (2, .long (lN (x / 2 ^ (32 * n) % d))), (0, .ref a), (1, .int (nI d))] → W p l e rmZ s m ([.ref a, .int (nI d)] : List Value).toArray below meth c H locs 0 0 (MQ below (xr_Post eI (fun r H => r = nI (x % d) ∧ NatAt g H a (x / d)) (fun q => q = a + 1)) ([.ref a, .int (nI d)] : List Value).toArray s (rmZ : Room).cells (rmZ : Room).slots (fun q => q = a + 1)) (F0 m 12 ls []) := by
    intro n
    induction n with
    | zero =>
      intro _ H locs f hO hf hfe hS ls hl
      refine lv_iload hx hb dX0_divide_12 (lv_at hl 0 rfl) ?_
      refine lv_if_lt (tgt := 61) hx hb dX0_divide_14 (by decide) (fun hc => ?_) (fun hc => ?_)
      · clear hc
        refine lv_lload_n hx hb dX0_divide_61 rfl (lv_at hl 1 rfl) ?_
        refine lv_l2i (v := nI (x % d)) hx hb dX0_divide_62 (by rw [lN_i]; simp) ?_
        exact xr_iret hx hb hr hlocks hS ⟨rfl, hN.put (hS.2.1 a hN.1.lt (by show ¬ a = a + 1; omega)) hf (fun j hj => by rw [hfe j hj, if_pos (Nat.zero_le j)]) (Nat.lt_of_le_of_lt (Nat.div_le_self _ _) hx128)⟩ dX0_divide_63
      · exact absurd (by decide) hc
    | succ i ih =>
      intro h4 H locs f hO hf hfe hS ls hl
      rw [nI_pred] at hl
      have hw : x / 2 ^ (32 * i) % 2 ^ 32 < 2 ^ 32 := Nat.mod_lt _ (by decide)
      have hrd : x / 2 ^ (32 * (i + 1)) % d < d := Nat.mod_lt _ hd0
      have hst := dv_step (x := x) (d := d) (P := 2 ^ (32 * i)) (B := 2 ^ 32) (Nat.two_pow_pos _) (by decide) hd0
      rw [← p32s] at hst
      have hpt : x / 2 ^ (32 * (i + 1)) % d * 2 ^ 32 + x / 2 ^ (32 * i) % 2 ^ 32 < 2 ^ 63 := by omega
      refine lv_iload hx hb dX0_divide_12 (lv_at hl 0 rfl) ?_
      refine lv_if_lt (tgt := 61) hx hb dX0_divide_14 (by decide) (fun hc => ?_) (fun hc => ?_)
      · exact absurd hc (nI_pos (by omega))
      · clear hc
        refine lv_lload_n hx hb dX0_divide_17 rfl (lv_at hl 1 rfl) ?_
        refine lv_bipush (v := 32) hx hb dX0_divide_18 (by decide) ?_
        refine lv_lshl (v := lN (x / 2 ^ (32 * (i + 1)) % d * 2 ^ 32)) hx hb dX0_divide_20 l_shl ?_
        refine lv_aload_n hx hb dX0_divide_21 rfl (lv_at hl 2 rfl) ?_
        refine va_get (D := g.1) (ci := 0) (v := .ref (a + 1)) (C := RX0) (T := TX0) (N := 1) hx hb hts (by decide +kernel) hown hK.1 (xr_one hO) 0 rfl rfl 0 (by decide) (hts (.fieldLink RX0 9 "SharesDesk$Natural" "words" "[I") (by decide +kernel)) (fun _ h9 => h9) rfl dX0_divide_22 ?_
        refine lv_iload hx hb dX0_divide_25 (lv_at hl 0 rfl) ?_
        refine xr_rd hx hb hK hf (by omega) (by decide) dX0_divide_27 ?_
        refine xr_ti (x' := nI (x / 2 ^ (32 * i) % 2 ^ 32)) (by rw [hfe i (by omega), if_neg (by omega)]; rfl) ?_
        refine lv_i2l (v := (nI (x / 2 ^ (32 * i) % 2 ^ 32)).toInt64) hx hb dX0_divide_28 rfl ?_
        refine lv_ldc2 (v := (4294967295)) hx hb hown (hts (.constantLong RX0 25 (4294967295)) (by decide +kernel)) dX0_divide_29 ?_
        refine lv_land hx hb dX0_divide_32 ?_
        refine xr_tl (x' := lN (x / 2 ^ (32 * i) % 2 ^ 32)) (lw_mask hw) ?_
        refine lv_lor hx hb dX0_divide_33 ?_
        refine xr_tl (x' := lN (x / 2 ^ (32 * (i + 1)) % d * 2 ^ 32 + x / 2 ^ (32 * i) % 2 ^ 32)) (l_or hw (by omega)) ?_
        refine lv_lstore (lv' := [(5, .long (lN (x / 2 ^ (32 * (i + 1)) % d * 2 ^ 32 + x / 2 ^ (32 * i) % 2 ^ 32))), (4, .int (nI i)), (2, .long (lN (x / 2 ^ (32 * (i + 1)) % d))), (0, .ref a), (1, .int (nI d))]) hx hb dX0_divide_34 hl (by decide) rfl (fun ls hl => ?_)
        refine lv_aload_n hx hb dX0_divide_36 rfl (lv_at hl 3 rfl) ?_
        refine va_get (D := g.1) (ci := 0) (v := .ref (a + 1)) (C := RX0) (T := TX0) (N := 1) hx hb hts (by decide +kernel) hown hK.1 (xr_one hO) 0 rfl rfl 0 (by decide) (hts (.fieldLink RX0 9 "SharesDesk$Natural" "words" "[I") (by decide +kernel)) (fun _ h9 => h9) rfl dX0_divide_37 ?_
        refine lv_iload hx hb dX0_divide_40 (lv_at hl 1 rfl) ?_
        refine lv_lload hx hb dX0_divide_42 (lv_at hl 0 rfl) ?_
        refine lv_iload_n hx hb dX0_divide_44 rfl (lv_at hl 4 rfl) ?_
        refine lv_i2l (v := lN d) hx hb dX0_divide_45 (nI_l hd) ?_
        refine lv_ldiv hx hb dX0_divide_46 hdn ?_
        refine xr_tl (x' := lN ((x / 2 ^ (32 * (i + 1)) % d * 2 ^ 32 + x / 2 ^ (32 * i) % 2 ^ 32) / d)) (pk_lDiv hpt hd0 (by omega)) ?_
        refine lv_l2i (v := nI ((x / 2 ^ (32 * (i + 1)) % d * 2 ^ 32 + x / 2 ^ (32 * i) % 2 ^ 32) / d)) hx hb dX0_divide_47 (lN_i _) ?_
        refine xr_wr hx hb hK hS rfl hf (show i < 4 by omega) (by decide) dX0_divide_48 (fun H locs hz hkp hf hS => ?_)
        have hO := hO.kept (hkp a (by omega))
        refine lv_lload hx hb dX0_divide_49 (lv_at hl 0 rfl) ?_
        refine lv_iload_n hx hb dX0_divide_51 rfl (lv_at hl 4 rfl) ?_
        refine lv_i2l (v := lN d) hx hb dX0_divide_52 (nI_l hd) ?_
        refine lv_lrem hx hb dX0_divide_53 hdn ?_
        refine xr_tl (x' := lN ((x / 2 ^ (32 * (i + 1)) % d * 2 ^ 32 + x / 2 ^ (32 * i) % 2 ^ 32) % d)) (pk_lRem hpt hd0 (by omega)) ?_
        refine xr_tl (x' := lN (x / 2 ^ (32 * i) % d)) (by rw [hst.2.1]) ?_
        refine lv_lstore_n (lv' := [(2, .long (lN (x / 2 ^ (32 * i) % d))), (5, .long (lN (x / 2 ^ (32 * (i + 1)) % d * 2 ^ 32 + x / 2 ^ (32 * i) % 2 ^ 32))), (4, .int (nI i)), (0, .ref a), (1, .int (nI d))]) hx hb dX0_divide_54 rfl hl (by decide) rfl (fun ls hl => ?_)
        refine lv_iinc (v := nI i - 1) (lv' := [(4, .int (nI i - 1)), (2, .long (lN (x / 2 ^ (32 * i) % d))), (5, .long (lN (x / 2 ^ (32 * (i + 1)) % d * 2 ^ 32 + x / 2 ^ (32 * i) % 2 ^ 32))), (0, .ref a), (1, .int (nI d))]) hx hb dX0_divide_55 hl (k := 2) rfl (Int32.sub_eq_add_neg (a := nI i) (b := 1)).symm (by decide) rfl (fun ls hl => ?_)
        refine lv_goto (tgt := 12) hx hb dX0_divide_58 (by decide) ?_
        exact ih (by omega) H locs _ hO hf (wd_dn hfe (by rw [hst.1, Nat.mod_eq_of_lt hst.2.2])) hS ls (lv_sub hl [0, 1, 3, 4] rfl)
  refine lv_iload_n hx hb dX0_divide_0 rfl (lv_at hl 1 rfl) ?_
  refine lv_iconst (v := 1) hx hb dX0_divide_1 (by decide) ?_
  refine lv_icmp_ge (tgt := 7) hx hb dX0_divide_2 (by decide) (fun hc => ?_) (fun hc => ?_)
  · clear hc
    refine lv_lconst (v := 0) hx hb dX0_divide_7 (by decide) ?_
    refine xr_tl (x' := lN (x / 2 ^ (32 * 4) % d)) (by rw [Nat.div_eq_of_lt hx128, Nat.zero_mod]; rfl) ?_
    refine lv_lstore_n (lv' := [(2, .long (lN (x / 2 ^ (32 * 4) % d))), (0, .ref a), (1, .int (nI d))]) hx hb dX0_divide_8 rfl hl (by decide) rfl (fun ls hl => ?_)
    refine lv_iconst (v := 3) hx hb dX0_divide_9 (by decide) ?_
    refine xr_ti (x' := nI 4 - 1) (by decide) ?_
    refine lv_istore (lv' := [(4, .int (nI 4 - 1)), (2, .long (lN (x / 2 ^ (32 * 4) % d))), (0, .ref a), (1, .int (nI d))]) hx hb dX0_divide_10 hl (by decide) rfl (fun ls hl => ?_)
    exact loop 4 (by omega) s.heap [] (wd x) hO hf (fun j hj => by rw [if_neg (by omega)]) hS ls (lv_sub hl [0, 1, 2, 3] rfl)
  · exact absurd (nI_le (show 1 ≤ d by omega) hd) hc
set_option maxHeartbeats 400000 in
set_option maxRecDepth 100000 in
theorem c_X0_modulo (l : Launch) (g : WG) (H0 : Heap) (a x d : Nat) (hN : NatAt g H0 a x) (hd0 : 0 < d) (hd : d < 2 ^ 31) : Ctr l (KK g) yX0_modulo wsX0_modulo rmZ [.ref a, .int (nI d)] H0 eI (fun r H => r = nI (x % d) ∧ H = H0) (fun _ => False) := by
  refine xr_enter (cc := cX0_modulo) (maxL := 5) (ret := (some .int)) (by decide) rfl (Nat.le_of_ble_eq_true rfl) ?_
  intro p e s m below meth c hx hb hr hml hts hown hlocks hnm hH hK ls hl
  subst hH
  have hl : lv_has ls 5 [(0, .ref a), (1, .int (nI d))] := hl
  have hS : va_S (fun _ => False) s.heap s.heap [] := va_S.rf
  obtain ⟨hO, hf, hx128⟩ := id hN
  have hdn : ¬ lN d = 0 := fun q => by have := (pk_lEQ (a := d) (b := 0) (by omega) (by decide)).mp q; omega
  have loop : ∀ n : Nat, n ≤ 4 → ∀ (H : Heap) (locs : List Loc) (f : Nat → Int32), H = s.heap → obj g H a 0 [.ref (a + 1)] → xr_ia H (a + 1) (gI g) 4 f → (∀ j, j < 4 → f j = wd x j) → va_S (fun _ => False) s.heap H locs → ∀ ls : Array Slot, lv_has ls 5 [(4, .int (nI n - 1)), (2, .long (lN (x / 2 ^ (32 * n) % d))), (0, .ref a), (1, .int (nI d))] → W p l e rmZ s m ([.ref a, .int (nI d)] : List Value).toArray below meth c H locs 0 0 (MQ below (xr_Post eI (fun r H => r = nI (x % d) ∧ H = s.heap) (fun _ => False)) ([.ref a, .int (nI d)] : List Value).toArray s (rmZ : Room).cells (rmZ : Room).slots (fun _ => False)) (F0 m 12 ls []) := by
    intro n
    induction n with
    | zero =>
      intro _ H locs f hHe hO hf hfe hS ls hl
      refine lv_iload hx hb dX0_modulo_12 (lv_at hl 0 rfl) ?_
      refine lv_if_lt (tgt := 44) hx hb dX0_modulo_14 (by decide) (fun hc => ?_) (fun hc => ?_)
      · clear hc
        refine lv_lload_n hx hb dX0_modulo_44 rfl (lv_at hl 1 rfl) ?_
        refine lv_l2i (v := nI (x % d)) hx hb dX0_modulo_45 (by rw [lN_i]; simp) ?_
        exact xr_iret hx hb hr hlocks hS ⟨rfl, hHe⟩ dX0_modulo_46
      · exact absurd (by decide) hc
    | succ i ih =>
      intro h4 H locs f hHe hO hf hfe hS ls hl
      rw [nI_pred] at hl
      have hw : x / 2 ^ (32 * i) % 2 ^ 32 < 2 ^ 32 := Nat.mod_lt _ (by decide)
      have hrd : x / 2 ^ (32 * (i + 1)) % d < d := Nat.mod_lt _ hd0
      have hst := dv_step (x := x) (d := d) (P := 2 ^ (32 * i)) (B := 2 ^ 32) (Nat.two_pow_pos _) (by decide) hd0
      rw [← p32s] at hst
      have hpt : x / 2 ^ (32 * (i + 1)) % d * 2 ^ 32 + x / 2 ^ (32 * i) % 2 ^ 32 < 2 ^ 63 := by omega
      refine lv_iload hx hb dX0_modulo_12 (lv_at hl 0 rfl) ?_
      refine lv_if_lt (tgt := 44) hx hb dX0_modulo_14 (by decide) (fun hc => ?_) (fun hc => ?_)
      · exact absurd hc (nI_pos (by omega))
      · clear hc
        refine lv_lload_n hx hb dX0_modulo_17 rfl (lv_at hl 1 rfl) ?_
        refine lv_bipush (v := 32) hx hb dX0_modulo_18 (by decide) ?_
        refine lv_lshl (v := lN (x / 2 ^ (32 * (i + 1)) % d * 2 ^ 32)) hx hb dX0_modulo_20 l_shl ?_
        refine lv_aload_n hx hb dX0_modulo_21 rfl (lv_at hl 2 rfl) ?_
        refine va_get (D := g.1) (ci := 0) (v := .ref (a + 1)) (C := RX0) (T := TX0) (N := 1) hx hb hts (by decide +kernel) hown hK.1 (xr_one hO) 0 rfl rfl 0 (by decide) (hts (.fieldLink RX0 9 "SharesDesk$Natural" "words" "[I") (by decide +kernel)) (fun _ h9 => h9) rfl dX0_modulo_22 ?_
        refine lv_iload hx hb dX0_modulo_25 (lv_at hl 0 rfl) ?_
        refine xr_rd hx hb hK hf (by omega) (by decide) dX0_modulo_27 ?_
        refine xr_ti (x' := nI (x / 2 ^ (32 * i) % 2 ^ 32)) (by rw [hfe i (by omega)]; rfl) ?_
        refine lv_i2l (v := (nI (x / 2 ^ (32 * i) % 2 ^ 32)).toInt64) hx hb dX0_modulo_28 rfl ?_
        refine lv_ldc2 (v := (4294967295)) hx hb hown (hts (.constantLong RX0 25 (4294967295)) (by decide +kernel)) dX0_modulo_29 ?_
        refine lv_land hx hb dX0_modulo_32 ?_
        refine xr_tl (x' := lN (x / 2 ^ (32 * i) % 2 ^ 32)) (lw_mask hw) ?_
        refine lv_lor hx hb dX0_modulo_33 ?_
        refine xr_tl (x' := lN (x / 2 ^ (32 * (i + 1)) % d * 2 ^ 32 + x / 2 ^ (32 * i) % 2 ^ 32)) (l_or hw (by omega)) ?_
        refine lv_iload_n hx hb dX0_modulo_34 rfl (lv_at hl 3 rfl) ?_
        refine lv_i2l (v := lN d) hx hb dX0_modulo_35 (nI_l hd) ?_
        refine lv_lrem hx hb dX0_modulo_36 hdn ?_
        refine xr_tl (x' := lN ((x / 2 ^ (32 * (i + 1)) % d * 2 ^ 32 + x / 2 ^ (32 * i) % 2 ^ 32) % d)) (pk_lRem hpt hd0 (by omega)) ?_
        refine xr_tl (x' := lN (x / 2 ^ (32 * i) % d)) (by rw [hst.2.1]) ?_
        refine lv_lstore_n (lv' := [(2, .long (lN (x / 2 ^ (32 * i) % d))), (4, .int (nI i)), (0, .ref a), (1, .int (nI d))]) hx hb dX0_modulo_37 rfl hl (by decide) rfl (fun ls hl => ?_)
        refine lv_iinc (v := nI i - 1) (lv' := [(4, .int (nI i - 1)), (2, .long (lN (x / 2 ^ (32 * i) % d))), (0, .ref a), (1, .int (nI d))]) hx hb dX0_modulo_38 hl (k := 1) rfl (Int32.sub_eq_add_neg (a := nI i) (b := 1)).symm (by decide) rfl (fun ls hl => ?_)
        refine lv_goto (tgt := 12) hx hb dX0_modulo_41 (by decide) ?_
        exact ih (by omega) H locs _ hHe hO hf hfe hS ls (lv_sub hl [0, 1, 2, 3] rfl)
  refine lv_iload_n hx hb dX0_modulo_0 rfl (lv_at hl 1 rfl) ?_
  refine lv_iconst (v := 1) hx hb dX0_modulo_1 (by decide) ?_
  refine lv_icmp_ge (tgt := 7) hx hb dX0_modulo_2 (by decide) (fun hc => ?_) (fun hc => ?_)
  · clear hc
    refine lv_lconst (v := 0) hx hb dX0_modulo_7 (by decide) ?_
    refine xr_tl (x' := lN (x / 2 ^ (32 * 4) % d)) (by rw [Nat.div_eq_of_lt hx128, Nat.zero_mod]; rfl) ?_
    refine lv_lstore_n (lv' := [(2, .long (lN (x / 2 ^ (32 * 4) % d))), (0, .ref a), (1, .int (nI d))]) hx hb dX0_modulo_8 rfl hl (by decide) rfl (fun ls hl => ?_)
    refine lv_iconst (v := 3) hx hb dX0_modulo_9 (by decide) ?_
    refine xr_ti (x' := nI 4 - 1) (by decide) ?_
    refine lv_istore (lv' := [(4, .int (nI 4 - 1)), (2, .long (lN (x / 2 ^ (32 * 4) % d))), (0, .ref a), (1, .int (nI d))]) hx hb dX0_modulo_10 hl (by decide) rfl (fun ls hl => ?_)
    exact loop 4 (by omega) s.heap [] (wd x) rfl hO hf (fun j hj => rfl) hS ls (lv_sub hl [0, 1, 2, 3] rfl)
  · exact absurd (nI_le (show 1 ≤ d by omega) hd) hc
set_option maxHeartbeats 400000 in
set_option maxRecDepth 100000 in
theorem c_J7_fill_53178 (l : Launch) (g : WG) (H0 : Heap) (a n : Nat) (v : Int32) (f0 : Nat → Int32) (hf : xr_ia H0 a (gI g) n f0) (hn : n < 2 ^ 31) : Ctr l (KK g) yJ7_fill_53178 wsJ7_fill_53178 rmZ [.ref a, .int v] H0 eV (fun _ H => xr_ia H a (gI g) n (fun _ => v)) (fun q => q = a) := by
  refine xr_enter (cc := cJ7_fill_53178) (maxL := 4) (ret := none) (by decide) rfl (Nat.le_of_ble_eq_true rfl) ?_
  intro p e s m below meth c hx hb hr hml hts hown hlocks hnm hH hK ls hl
  subst hH
  have hl : lv_has ls 4 [(0, .ref a), (1, .int v)] := hl
  have hS : va_S (fun q => q = a) s.heap s.heap [] := va_S.rf
  have loop : ∀ (k i : Nat), i ≤ n → n < i + k → ∀ (H : Heap) (locs : List Loc) (f : Nat → Int32), xr_ia H a (gI g) n f → (∀ j, j < i → f j = v) → va_S (fun q => q = a) s.heap H locs → ∀ ls : Array Slot, lv_has ls 4 [(2, .int (nI i)), (3, .int (nI n)), (0, .ref a), (1, .int v)] → W p l e rmZ s m ([.ref a, .int v] : List Value).toArray below meth c H locs 0 0 (MQ below (xr_Post eV (fun _ H => xr_ia H a (gI g) n (fun _ => v)) (fun q => q = a)) ([.ref a, .int v] : List Value).toArray s (rmZ : Room).cells (rmZ : Room).slots (fun q => q = a)) (F0 m 5 ls []) := by
    intro k
    induction k with
    | zero => intro i h1 h2; exact absurd h2 (by omega)
    | succ k ih =>
      intro i h1 h2 H locs f hf hfe hS ls hl
      refine lv_iload_n hx hb dJ7_fill_53178_5 rfl (lv_at hl 0 rfl) ?_
      refine lv_iload_n hx hb dJ7_fill_53178_6 rfl (lv_at hl 1 rfl) ?_
      refine lv_icmp_ge (tgt := 20) hx hb dJ7_fill_53178_7 (by decide) (fun hc => ?_) (fun hc => ?_)
      · have e4 : i = n := by have := (nI_leI hn (by omega)).mp hc; omega
        subst e4
        exact xr_vret hx hb hr hlocks hS (hf.to hfe) dJ7_fill_53178_20
      · have h4 : i < n := Nat.lt_of_not_le fun h => hc (nI_le h (by omega))
        refine lv_aload_n hx hb dJ7_fill_53178_10 rfl (lv_at hl 2 rfl) ?_
        refine lv_iload_n hx hb dJ7_fill_53178_11 rfl (lv_at hl 0 rfl) ?_
        refine lv_iload_n hx hb dJ7_fill_53178_12 rfl (lv_at hl 3 rfl) ?_
        refine xr_wr hx hb hK hS rfl hf h4 hn dJ7_fill_53178_13 (fun H locs hz hkp hf hS => ?_)
        refine lv_iinc (v := nI (i + 1)) (lv' := [(2, .int (nI (i + 1))), (3, .int (nI n)), (0, .ref a), (1, .int v)]) hx hb dJ7_fill_53178_14 hl (k := 0) rfl (nI_1 i) (by decide) rfl (fun ls hl => ?_)
        refine lv_goto (tgt := 5) hx hb dJ7_fill_53178_17 (by decide) ?_
        exact ih (i + 1) (by omega) (by omega) H locs _ hf (fun j hj => if e : j = i then by rw [e, upd_at] else by rw [upd_ne e, hfe j (by omega)]) hS ls (lv_sub hl [0, 1, 2, 3] rfl)
  refine lv_iconst (v := 0) hx hb dJ7_fill_53178_0 (by decide) ?_
  refine xr_ti (x' := nI 0) rfl ?_
  refine lv_istore_n (lv' := [(2, .int (nI 0)), (0, .ref a), (1, .int v)]) hx hb dJ7_fill_53178_1 rfl hl (by decide) rfl (fun ls hl => ?_)
  refine lv_aload_n hx hb dJ7_fill_53178_2 rfl (lv_at hl 1 rfl) ?_
  refine xr_alen hx hb hK.1 hf 0 rfl dJ7_fill_53178_3 ?_
  refine lv_istore_n (lv' := [(3, .int (nI n)), (2, .int (nI 0)), (0, .ref a), (1, .int v)]) hx hb dJ7_fill_53178_4 rfl hl (by decide) rfl (fun ls hl => ?_)
  exact loop (n + 1) 0 (by omega) (by omega) s.heap [] f0 hf (fun j hj => absurd hj (Nat.not_lt_zero j)) hS ls (lv_sub hl [1, 0, 2, 3] rfl)
set_option maxHeartbeats 400000 in
set_option maxRecDepth 100000 in
theorem c_X0_set (l : Launch) (g : WG) (H0 : Heap) (a x k : Nat) (hN : NatAt g H0 a x) (hk : k < 2 ^ 31) : Ctr l (KK g) yX0_set wsX0_set { frames := 1, cells := 0, slots := 0, locals := 23 } [.ref a, .int (nI k)] H0 eV (fun _ H => NatAt g H a k) (fun q => q = a + 1) := by
  refine xr_enter (cc := cX0_set) (maxL := 2) (ret := none) (by decide) rfl (Nat.le_of_ble_eq_true rfl) ?_
  intro p e s m below meth c hx hb hr hml hts hown hlocks hnm hH hK ls hl
  subst hH
  have hl : lv_has ls 2 [(0, .ref a), (1, .int (nI k))] := hl
  have hS : va_S (fun q => q = a + 1) s.heap s.heap [] := va_S.rf
  obtain ⟨hO, hf, hx128⟩ := id hN
  refine lv_aload_n hx hb dX0_set_0 rfl (lv_at hl 0 rfl) ?_
  refine va_get (D := g.1) (ci := 0) (v := .ref (a + 1)) (C := RX0) (T := TX0) (N := 1) hx hb hts (by decide +kernel) hown hK.1 (xr_one hO) 0 rfl rfl 0 (by decide) (hts (.fieldLink RX0 9 "SharesDesk$Natural" "words" "[I") (by decide +kernel)) (fun _ h9 => h9) rfl dX0_set_1 ?_
  refine lv_iconst (v := 0) hx hb dX0_set_4 (by decide) ?_
  refine xr_Sv (rest := []) ⟨hx, hb, hml, hown, hts⟩ (KK_ok g) hK (c_J7_fill_53178 l g s.heap (a + 1) 4 0 (wd x) hf (by decide)) (va_cwS 2 hts gX0_set_J7_fill_53178 rfl rfl rfl (by decide +kernel) ⟨Nat.le_of_ble_eq_true rfl, Nat.le_of_ble_eq_true rfl⟩) rfl hl.1 rfl (Nat.le_of_ble_eq_true rfl) dX0_set_5 ⟨Nat.le_of_ble_eq_true rfl, Nat.le_of_ble_eq_true rfl⟩ hS (fun q h => h) (fun _ H locs hq hz hkp hS => ?_)
  have hO := hO.kept (hkp a hO.lt (by show ¬ a = a + 1; omega))
  have hf : xr_ia H (a + 1) (gI g) 4 (fun _ => 0) := hq
  refine lv_aload_n hx hb dX0_set_8 rfl (lv_at hl 0 rfl) ?_
  refine va_get (D := g.1) (ci := 0) (v := .ref (a + 1)) (C := RX0) (T := TX0) (N := 1) hx hb hts (by decide +kernel) hown hK.1 (xr_one hO) 0 rfl rfl 0 (by decide) (hts (.fieldLink RX0 9 "SharesDesk$Natural" "words" "[I") (by decide +kernel)) (fun _ h9 => h9) rfl dX0_set_9 ?_
  refine lv_iconst (v := 0) hx hb dX0_set_12 (by decide) ?_
  refine lv_iload_n hx hb dX0_set_13 rfl (lv_at hl 1 rfl) ?_
  refine xr_wr (i := 0) hx hb hK hS rfl hf (by decide) (by decide) dX0_set_14 (fun H locs hz hkp hf hS => ?_)
  exact xr_vret hx hb hr hlocks hS (hN.put (hS.2.1 a hN.1.lt (by show ¬ a = a + 1; omega)) hf (fun j hj => wd_small (by omega) j) (by omega)) dX0_set_15
set_option maxHeartbeats 400000 in
set_option maxRecDepth 100000 in
theorem c_X0_copy (l : Launch) (g : WG) (H0 : Heap) (a b x y : Nat) (hN : NatAt g H0 a x) (hM : NatAt g H0 b y) (hab : a ≠ b) : Ctr l (KK g) yX0_copy wsX0_copy { frames := 1, cells := 0, slots := 0, locals := 40 } [.ref a, .ref b] H0 eV (fun _ H => NatAt g H a y) (fun q => q = a + 1) := by
  refine xr_enter (cc := cX0_copy) (maxL := 2) (ret := none) (by decide) rfl (Nat.le_of_ble_eq_true rfl) ?_
  intro p e s m below meth c hx hb hr hml hts hown hlocks hnm hH hK ls hl
  subst hH
  have hl : lv_has ls 2 [(0, .ref a), (1, .ref b)] := hl
  have hS : va_S (fun q => q = a + 1) s.heap s.heap [] := va_S.rf
  obtain ⟨hO, hf, hx128⟩ := id hN
  obtain ⟨hO2, hf2, hy128⟩ := hM
  refine lv_aload_n hx hb dX0_copy_0 rfl (lv_at hl 1 rfl) ?_
  refine va_get (D := g.1) (ci := 0) (v := .ref (b + 1)) (C := RX0) (T := TX0) (N := 1) hx hb hts (by decide +kernel) hown hK.1 (xr_one hO2) 0 rfl rfl 0 (by decide) (hts (.fieldLink RX0 9 "SharesDesk$Natural" "words" "[I") (by decide +kernel)) (fun _ h9 => h9) rfl dX0_copy_1 ?_
  refine lv_iconst (v := 0) hx hb dX0_copy_4 (by decide) ?_
  refine lv_aload_n hx hb dX0_copy_5 rfl (lv_at hl 0 rfl) ?_
  refine va_get (D := g.1) (ci := 0) (v := .ref (a + 1)) (C := RX0) (T := TX0) (N := 1) hx hb hts (by decide +kernel) hown hK.1 (xr_one hO) 0 rfl rfl 0 (by decide) (hts (.fieldLink RX0 9 "SharesDesk$Natural" "words" "[I") (by decide +kernel)) (fun _ h9 => h9) rfl dX0_copy_6 ?_
  refine lv_iconst (v := 0) hx hb dX0_copy_9 (by decide) ?_
  refine lv_iconst (v := 4) hx hb dX0_copy_10 (by decide) ?_
  refine xr_ti (x' := nI 4) rfl ?_
  refine xr_cpy hx hb (hml.trans hl.1.symm) hown (hts (.methodLink RX0 19 arraycopyName) (by decide +kernel)) (hts (.native arraycopyName) (by decide +kernel)) (hts (.static arraycopyName) (by decide +kernel)) (hts (.initialized "java/lang/System") (by decide +kernel)) hK hS rfl hf2 hf (by decide) (by decide) (by decide) (Nat.le_of_ble_eq_true rfl) (by decide +kernel) dX0_copy_11 (fun H locs hz hkp hf hS => ?_)
  exact xr_vret hx hb hr hlocks hS (hN.put (hS.2.1 a hN.1.lt (by show ¬ a = a + 1; omega)) hf (fun j hj => if_pos hj) hy128) dX0_copy_14
end
section
set_option maxHeartbeats 400000 in
set_option maxRecDepth 100000 in
theorem c_X0_init (l : Launch) (g : WG) (H0 : Heap) (a : Nat) (hO : obj g H0 a 0 [.null]) (hsz : H0.size = a + 1) : Ctr l (KK g) yX0_init wsX0_init { frames := 1, cells := 1, slots := 4, locals := 12 } [.ref a] H0 eV (fun _ H => NatAt g H a 0 ∧ H.size = a + 2) (fun q => q = a ∨ a + 1 ≤ q) := by
  refine xr_enter (cc := cX0_init) (maxL := 1) (ret := none) (by decide) rfl (Nat.le_of_ble_eq_true rfl) ?_
  intro p e s m below meth c hx hb hr hml hts hown hlocks hnm hH hK ls hl
  subst hH
  have hl : lv_has ls 1 [(0, .ref a)] := hl
  have hS : va_S (fun q => q = a ∨ a + 1 ≤ q) s.heap s.heap [] := va_S.rf
  refine lv_aload_n hx hb dX0_init_0 rfl (lv_at hl 0 rfl) ?_
  refine W.objInit hx hb hown (hts (.methodLink RX0 3 objectInit) (by decide +kernel)) (hts (.instanceMethod objectInit) (by decide +kernel)) (hts _ (List.mem_cons_of_mem _ (List.mem_append_left _ (List.mem_of_getElem? (i := 2) rfl)))) rfl (by rw [hml]; exact hl.1) rfl dX0_init_1 (Nat.le_of_ble_eq_true rfl) (Nat.le_of_ble_eq_true rfl) ?_
  refine W.eq (g2 := F0 m 4 ls []) rfl ?_
  refine lv_aload_n hx hb dX0_init_4 rfl (lv_at hl 0 rfl) ?_
  refine lv_iconst (v := 4) hx hb dX0_init_5 (by decide) ?_
  refine xr_newa (atype := .int) (cA := gI g) (N := 4) hx hb (hts (.arrayClass .int) (by decide +kernel)) (hK.1.2 0 (gI g, .int) rfl).2 rfl hS (by decide) (by decide) (by decide) (Nat.le_of_ble_eq_true rfl) (Nat.le_of_ble_eq_true rfl) dX0_init_6 (fun H hz hkp hf hS => ?_)
  refine W.widen (k := 1) (n := 4) (Nat.le_of_ble_eq_true rfl) (Nat.le_of_ble_eq_true rfl) ?_
  rw [hsz] at hf hz hkp ⊢
  have hO := hO.kept (hkp a (by omega))
  refine xr_putF (ci := 0) (v := .ref (a + 1)) (ty := .array .int) (C := RX0) (T := TX0) (N := 1) hx hb hts (by decide +kernel) tyX0 tyX0_ok nmX0 hown hK.1 hO hS (Or.inl rfl) rfl 0 (by decide) (hts (.fieldLink RX0 9 "SharesDesk$Natural" "words" "[I") (by decide +kernel)) rfl hnm rfl (by decide +kernel) rfl rfl (Nat.le_of_ble_eq_true rfl) dX0_init_8 (fun H locs hz2 hkp hO hS => ?_)
  have hf := hf.kept (hkp (a + 1) (by omega))
  exact xr_vret hx hb hr hlocks hS ⟨⟨hO, hf.to (fun j _ => (wd_zero j).symm), Nat.two_pow_pos 128⟩, by omega⟩ dX0_init_11
end
section
theorem dX5_init_0 : decode cX5_init 0 = .ok (.aload_n 0, 1) := by decide +kernel
theorem dX5_init_1 : decode cX5_init 1 = .ok (.invokespecial 3, 3) := by decide +kernel
theorem dX5_init_4 : decode cX5_init 4 = .ok (.aload_n 0, 1) := by decide +kernel
theorem dX5_init_5 : decode cX5_init 5 = .ok (.bipush 16, 2) := by decide +kernel
theorem dX5_init_7 : decode cX5_init 7 = .ok (.newarray .int, 2) := by decide +kernel
theorem dX5_init_9 : decode cX5_init 9 = .ok (.putfield 9, 3) := by decide +kernel
theorem dX5_init_12 : decode cX5_init 12 = .ok (.aload_n 0, 1) := by decide +kernel
theorem dX5_init_13 : decode cX5_init 13 = .ok (.bipush 48, 2) := by decide +kernel
theorem dX5_init_15 : decode cX5_init 15 = .ok (.newarray .int, 2) := by decide +kernel
theorem dX5_init_17 : decode cX5_init 17 = .ok (.putfield 15, 3) := by decide +kernel
theorem dX5_init_20 : decode cX5_init 20 = .ok (.aload_n 0, 1) := by decide +kernel
theorem dX5_init_21 : decode cX5_init 21 = .ok (.iconst 1, 1) := by decide +kernel
theorem dX5_init_22 : decode cX5_init 22 = .ok (.putfield 18, 3) := by decide +kernel
theorem dX5_init_25 : decode cX5_init 25 = .ok (.return_, 1) := by decide +kernel
set_option maxRecDepth 20000 in
theorem ggX5_hasProject_X6_isProjectNumber : GoodIn wsX5_hasProject wsX6_isProjectNumber := goodIn_r _ [4] (by decide +kernel) (by decide +kernel)
set_option maxRecDepth 20000 in
theorem gX5_hasProject_X6_isProjectNumber_n22 : GoodIn wsX5_hasProject (wsX6_isProjectNumber) := ggX5_hasProject_X6_isProjectNumber
theorem dX5_hasProject_0 : decode cX5_hasProject 0 = .ok (.iload_n 1, 1) := by decide +kernel
theorem dX5_hasProject_1 : decode cX5_hasProject 1 = .ok (.invokestatic 22, 3) := by decide +kernel
theorem dX5_hasProject_4 : decode cX5_hasProject 4 = .ok (.ifCond .eq 16, 3) := by decide +kernel
theorem dX5_hasProject_7 : decode cX5_hasProject 7 = .ok (.aload_n 0, 1) := by decide +kernel
theorem dX5_hasProject_8 : decode cX5_hasProject 8 = .ok (.getfield 9, 3) := by decide +kernel
theorem dX5_hasProject_11 : decode cX5_hasProject 11 = .ok (.iload_n 1, 1) := by decide +kernel
theorem dX5_hasProject_12 : decode cX5_hasProject 12 = .ok (.iaload, 1) := by decide +kernel
theorem dX5_hasProject_13 : decode cX5_hasProject 13 = .ok (.ifCond .le 7, 3) := by decide +kernel
theorem dX5_hasProject_16 : decode cX5_hasProject 16 = .ok (.iconst 1, 1) := by decide +kernel
theorem dX5_hasProject_17 : decode cX5_hasProject 17 = .ok (.goto 4, 3) := by decide +kernel
theorem dX5_hasProject_20 : decode cX5_hasProject 20 = .ok (.iconst 0, 1) := by decide +kernel
theorem dX5_hasProject_21 : decode cX5_hasProject 21 = .ok (.ireturn, 1) := by decide +kernel
set_option maxRecDepth 20000 in
theorem ggX5_hasVoter_X6_isVoterNumber : GoodIn wsX5_hasVoter wsX6_isVoterNumber := goodIn_r _ [4] (by decide +kernel) (by decide +kernel)
set_option maxRecDepth 20000 in
theorem gX5_hasVoter_X6_isVoterNumber_n26 : GoodIn wsX5_hasVoter (wsX6_isVoterNumber) := ggX5_hasVoter_X6_isVoterNumber
theorem dX5_hasVoter_0 : decode cX5_hasVoter 0 = .ok (.iload_n 1, 1) := by decide +kernel
theorem dX5_hasVoter_1 : decode cX5_hasVoter 1 = .ok (.invokestatic 26, 3) := by decide +kernel
theorem dX5_hasVoter_4 : decode cX5_hasVoter 4 = .ok (.ifCond .eq 20, 3) := by decide +kernel
theorem dX5_hasVoter_7 : decode cX5_hasVoter 7 = .ok (.aload_n 0, 1) := by decide +kernel
theorem dX5_hasVoter_8 : decode cX5_hasVoter 8 = .ok (.getfield 29, 3) := by decide +kernel
theorem dX5_hasVoter_11 : decode cX5_hasVoter 11 = .ok (.iload_n 1, 1) := by decide +kernel
theorem dX5_hasVoter_12 : decode cX5_hasVoter 12 = .ok (.lshr, 1) := by decide +kernel
theorem dX5_hasVoter_13 : decode cX5_hasVoter 13 = .ok (.lconst 1, 1) := by decide +kernel
theorem dX5_hasVoter_14 : decode cX5_hasVoter 14 = .ok (.land, 1) := by decide +kernel
theorem dX5_hasVoter_15 : decode cX5_hasVoter 15 = .ok (.lconst 0, 1) := by decide +kernel
theorem dX5_hasVoter_16 : decode cX5_hasVoter 16 = .ok (.lcmp, 1) := by decide +kernel
theorem dX5_hasVoter_17 : decode cX5_hasVoter 17 = .ok (.ifCond .eq 7, 3) := by decide +kernel
theorem dX5_hasVoter_20 : decode cX5_hasVoter 20 = .ok (.iconst 1, 1) := by decide +kernel
theorem dX5_hasVoter_21 : decode cX5_hasVoter 21 = .ok (.goto 4, 3) := by decide +kernel
theorem dX5_hasVoter_24 : decode cX5_hasVoter 24 = .ok (.iconst 0, 1) := by decide +kernel
theorem dX5_hasVoter_25 : decode cX5_hasVoter 25 = .ok (.ireturn, 1) := by decide +kernel
theorem dX5_approves_0 : decode cX5_approves 0 = .ok (.aload_n 0, 1) := by decide +kernel
theorem dX5_approves_1 : decode cX5_approves 1 = .ok (.getfield 15, 3) := by decide +kernel
theorem dX5_approves_4 : decode cX5_approves 4 = .ok (.iload_n 1, 1) := by decide +kernel
theorem dX5_approves_5 : decode cX5_approves 5 = .ok (.iaload, 1) := by decide +kernel
theorem dX5_approves_6 : decode cX5_approves 6 = .ok (.iload_n 2, 1) := by decide +kernel
theorem dX5_approves_7 : decode cX5_approves 7 = .ok (.ishr, 1) := by decide +kernel
theorem dX5_approves_8 : decode cX5_approves 8 = .ok (.iconst 1, 1) := by decide +kernel
theorem dX5_approves_9 : decode cX5_approves 9 = .ok (.iand, 1) := by decide +kernel
theorem dX5_approves_10 : decode cX5_approves 10 = .ok (.ifCond .eq 7, 3) := by decide +kernel
theorem dX5_approves_13 : decode cX5_approves 13 = .ok (.iconst 1, 1) := by decide +kernel
theorem dX5_approves_14 : decode cX5_approves 14 = .ok (.goto 4, 3) := by decide +kernel
theorem dX5_approves_17 : decode cX5_approves 17 = .ok (.iconst 0, 1) := by decide +kernel
theorem dX5_approves_18 : decode cX5_approves 18 = .ok (.ireturn, 1) := by decide +kernel
set_option maxRecDepth 20000 in
theorem ggX5_countVoters_J13_bitCount_95d88 : GoodIn wsX5_countVoters wsJ13_bitCount_95d88 := goodIn_r _ [5, 6, 7, 8] (by decide +kernel) (by decide +kernel)
set_option maxRecDepth 20000 in
theorem gX5_countVoters_J13_bitCount_95d88 : GoodIn wsX5_countVoters (va_wsS RX5 33 yJ13_bitCount_95d88 wsJ13_bitCount_95d88) := goodIn_app (goodIn_of _ (by decide +kernel)) ggX5_countVoters_J13_bitCount_95d88
theorem dX5_countVoters_0 : decode cX5_countVoters 0 = .ok (.aload_n 0, 1) := by decide +kernel
theorem dX5_countVoters_1 : decode cX5_countVoters 1 = .ok (.getfield 29, 3) := by decide +kernel
theorem dX5_countVoters_4 : decode cX5_countVoters 4 = .ok (.invokestatic 33, 3) := by decide +kernel
theorem dX5_countVoters_7 : decode cX5_countVoters 7 = .ok (.ireturn, 1) := by decide +kernel
theorem dX5_allProjects_0 : decode cX5_allProjects 0 = .ok (.iconst 0, 1) := by decide +kernel
theorem dX5_allProjects_1 : decode cX5_allProjects 1 = .ok (.istore_n 1, 1) := by decide +kernel
theorem dX5_allProjects_2 : decode cX5_allProjects 2 = .ok (.iconst 0, 1) := by decide +kernel
theorem dX5_allProjects_3 : decode cX5_allProjects 3 = .ok (.istore_n 2, 1) := by decide +kernel
theorem dX5_allProjects_4 : decode cX5_allProjects 4 = .ok (.iload_n 2, 1) := by decide +kernel
theorem dX5_allProjects_5 : decode cX5_allProjects 5 = .ok (.bipush 16, 2) := by decide +kernel
theorem dX5_allProjects_7 : decode cX5_allProjects 7 = .ok (.if_icmp .ge 24, 3) := by decide +kernel
theorem dX5_allProjects_10 : decode cX5_allProjects 10 = .ok (.aload_n 0, 1) := by decide +kernel
theorem dX5_allProjects_11 : decode cX5_allProjects 11 = .ok (.getfield 9, 3) := by decide +kernel
theorem dX5_allProjects_14 : decode cX5_allProjects 14 = .ok (.iload_n 2, 1) := by decide +kernel
theorem dX5_allProjects_15 : decode cX5_allProjects 15 = .ok (.iaload, 1) := by decide +kernel
theorem dX5_allProjects_16 : decode cX5_allProjects 16 = .ok (.ifCond .le 9, 3) := by decide +kernel
theorem dX5_allProjects_19 : decode cX5_allProjects 19 = .ok (.iload_n 1, 1) := by decide +kernel
theorem dX5_allProjects_20 : decode cX5_allProjects 20 = .ok (.iconst 1, 1) := by decide +kernel
theorem dX5_allProjects_21 : decode cX5_allProjects 21 = .ok (.iload_n 2, 1) := by decide +kernel
theorem dX5_allProjects_22 : decode cX5_allProjects 22 = .ok (.ishl, 1) := by decide +kernel
theorem dX5_allProjects_23 : decode cX5_allProjects 23 = .ok (.ior, 1) := by decide +kernel
theorem dX5_allProjects_24 : decode cX5_allProjects 24 = .ok (.istore_n 1, 1) := by decide +kernel
theorem dX5_allProjects_25 : decode cX5_allProjects 25 = .ok (.iinc 2 1, 3) := by decide +kernel
theorem dX5_allProjects_28 : decode cX5_allProjects 28 = .ok (.goto (-24), 3) := by decide +kernel
theorem dX5_allProjects_31 : decode cX5_allProjects 31 = .ok (.iload_n 1, 1) := by decide +kernel
theorem dX5_allProjects_32 : decode cX5_allProjects 32 = .ok (.ireturn, 1) := by decide +kernel
theorem dX5_costOf_0 : decode cX5_costOf 0 = .ok (.iconst 0, 1) := by decide +kernel
theorem dX5_costOf_1 : decode cX5_costOf 1 = .ok (.istore_n 2, 1) := by decide +kernel
theorem dX5_costOf_2 : decode cX5_costOf 2 = .ok (.iconst 0, 1) := by decide +kernel
theorem dX5_costOf_3 : decode cX5_costOf 3 = .ok (.istore_n 3, 1) := by decide +kernel
theorem dX5_costOf_4 : decode cX5_costOf 4 = .ok (.iload_n 3, 1) := by decide +kernel
theorem dX5_costOf_5 : decode cX5_costOf 5 = .ok (.bipush 16, 2) := by decide +kernel
theorem dX5_costOf_7 : decode cX5_costOf 7 = .ok (.if_icmp .ge 26, 3) := by decide +kernel
theorem dX5_costOf_10 : decode cX5_costOf 10 = .ok (.iload_n 1, 1) := by decide +kernel
theorem dX5_costOf_11 : decode cX5_costOf 11 = .ok (.iload_n 3, 1) := by decide +kernel
theorem dX5_costOf_12 : decode cX5_costOf 12 = .ok (.ishr, 1) := by decide +kernel
theorem dX5_costOf_13 : decode cX5_costOf 13 = .ok (.iconst 1, 1) := by decide +kernel
theorem dX5_costOf_14 : decode cX5_costOf 14 = .ok (.iand, 1) := by decide +kernel
theorem dX5_costOf_15 : decode cX5_costOf 15 = .ok (.ifCond .eq 12, 3) := by decide +kernel
theorem dX5_costOf_18 : decode cX5_costOf 18 = .ok (.iload_n 2, 1) := by decide +kernel
theorem dX5_costOf_19 : decode cX5_costOf 19 = .ok (.aload_n 0, 1) := by decide +kernel
theorem dX5_costOf_20 : decode cX5_costOf 20 = .ok (.getfield 9, 3) := by decide +kernel
theorem dX5_costOf_23 : decode cX5_costOf 23 = .ok (.iload_n 3, 1) := by decide +kernel
theorem dX5_costOf_24 : decode cX5_costOf 24 = .ok (.iaload, 1) := by decide +kernel
theorem dX5_costOf_25 : decode cX5_costOf 25 = .ok (.iadd, 1) := by decide +kernel
theorem dX5_costOf_26 : decode cX5_costOf 26 = .ok (.istore_n 2, 1) := by decide +kernel
theorem dX5_costOf_27 : decode cX5_costOf 27 = .ok (.iinc 3 1, 3) := by decide +kernel
theorem dX5_costOf_30 : decode cX5_costOf 30 = .ok (.goto (-26), 3) := by decide +kernel
theorem dX5_costOf_33 : decode cX5_costOf 33 = .ok (.iload_n 2, 1) := by decide +kernel
theorem dX5_costOf_34 : decode cX5_costOf 34 = .ok (.ireturn, 1) := by decide +kernel
theorem dX5_copy_0 : decode cX5_copy 0 = .ok (.aload_n 1, 1) := by decide +kernel
theorem dX5_copy_1 : decode cX5_copy 1 = .ok (.getfield 9, 3) := by decide +kernel
theorem dX5_copy_4 : decode cX5_copy 4 = .ok (.iconst 0, 1) := by decide +kernel
theorem dX5_copy_5 : decode cX5_copy 5 = .ok (.aload_n 0, 1) := by decide +kernel
theorem dX5_copy_6 : decode cX5_copy 6 = .ok (.getfield 9, 3) := by decide +kernel
theorem dX5_copy_9 : decode cX5_copy 9 = .ok (.iconst 0, 1) := by decide +kernel
theorem dX5_copy_10 : decode cX5_copy 10 = .ok (.bipush 16, 2) := by decide +kernel
theorem dX5_copy_12 : decode cX5_copy 12 = .ok (.invokestatic 39, 3) := by decide +kernel
theorem dX5_copy_15 : decode cX5_copy 15 = .ok (.aload_n 1, 1) := by decide +kernel
theorem dX5_copy_16 : decode cX5_copy 16 = .ok (.getfield 15, 3) := by decide +kernel
theorem dX5_copy_19 : decode cX5_copy 19 = .ok (.iconst 0, 1) := by decide +kernel
theorem dX5_copy_20 : decode cX5_copy 20 = .ok (.aload_n 0, 1) := by decide +kernel
theorem dX5_copy_21 : decode cX5_copy 21 = .ok (.getfield 15, 3) := by decide +kernel
theorem dX5_copy_24 : decode cX5_copy 24 = .ok (.iconst 0, 1) := by decide +kernel
theorem dX5_copy_25 : decode cX5_copy 25 = .ok (.bipush 48, 2) := by decide +kernel
theorem dX5_copy_27 : decode cX5_copy 27 = .ok (.invokestatic 39, 3) := by decide +kernel
theorem dX5_copy_30 : decode cX5_copy 30 = .ok (.aload_n 0, 1) := by decide +kernel
theorem dX5_copy_31 : decode cX5_copy 31 = .ok (.aload_n 1, 1) := by decide +kernel
theorem dX5_copy_32 : decode cX5_copy 32 = .ok (.getfield 29, 3) := by decide +kernel
theorem dX5_copy_35 : decode cX5_copy 35 = .ok (.putfield 29, 3) := by decide +kernel
theorem dX5_copy_38 : decode cX5_copy 38 = .ok (.aload_n 0, 1) := by decide +kernel
theorem dX5_copy_39 : decode cX5_copy 39 = .ok (.aload_n 1, 1) := by decide +kernel
theorem dX5_copy_40 : decode cX5_copy 40 = .ok (.getfield 18, 3) := by decide +kernel
theorem dX5_copy_43 : decode cX5_copy 43 = .ok (.putfield 18, 3) := by decide +kernel
theorem dX5_copy_46 : decode cX5_copy 46 = .ok (.return_, 1) := by decide +kernel
theorem dX6_isProjectNumber_0 : decode cX6_isProjectNumber 0 = .ok (.iload_n 0, 1) := by decide +kernel
theorem dX6_isProjectNumber_1 : decode cX6_isProjectNumber 1 = .ok (.ifCond .lt 13, 3) := by decide +kernel
theorem dX6_isProjectNumber_4 : decode cX6_isProjectNumber 4 = .ok (.iload_n 0, 1) := by decide +kernel
theorem dX6_isProjectNumber_5 : decode cX6_isProjectNumber 5 = .ok (.bipush 16, 2) := by decide +kernel
theorem dX6_isProjectNumber_7 : decode cX6_isProjectNumber 7 = .ok (.if_icmp .ge 7, 3) := by decide +kernel
theorem dX6_isProjectNumber_10 : decode cX6_isProjectNumber 10 = .ok (.iconst 1, 1) := by decide +kernel
theorem dX6_isProjectNumber_11 : decode cX6_isProjectNumber 11 = .ok (.goto 4, 3) := by decide +kernel
theorem dX6_isProjectNumber_14 : decode cX6_isProjectNumber 14 = .ok (.iconst 0, 1) := by decide +kernel
theorem dX6_isProjectNumber_15 : decode cX6_isProjectNumber 15 = .ok (.ireturn, 1) := by decide +kernel
theorem dX6_isVoterNumber_0 : decode cX6_isVoterNumber 0 = .ok (.iload_n 0, 1) := by decide +kernel
theorem dX6_isVoterNumber_1 : decode cX6_isVoterNumber 1 = .ok (.ifCond .lt 13, 3) := by decide +kernel
theorem dX6_isVoterNumber_4 : decode cX6_isVoterNumber 4 = .ok (.iload_n 0, 1) := by decide +kernel
theorem dX6_isVoterNumber_5 : decode cX6_isVoterNumber 5 = .ok (.bipush 48, 2) := by decide +kernel
theorem dX6_isVoterNumber_7 : decode cX6_isVoterNumber 7 = .ok (.if_icmp .ge 7, 3) := by decide +kernel
theorem dX6_isVoterNumber_10 : decode cX6_isVoterNumber 10 = .ok (.iconst 1, 1) := by decide +kernel
theorem dX6_isVoterNumber_11 : decode cX6_isVoterNumber 11 = .ok (.goto 4, 3) := by decide +kernel
theorem dX6_isVoterNumber_14 : decode cX6_isVoterNumber 14 = .ok (.iconst 0, 1) := by decide +kernel
theorem dX6_isVoterNumber_15 : decode cX6_isVoterNumber 15 = .ok (.ireturn, 1) := by decide +kernel
end
section
/-! the town: numbers, sets as numbers -/
def inR (i : Int32) (n : Nat) : Bool := decide (0 ≤ i.toInt ∧ i.toInt < n)
def ix (i : Int32) : Nat := i.toInt.toNat
theorem inR_neg {i : Int32} {n : Nat} (h : i < 0) : inR i n = false := by
  have h9 : i.toInt < 0 := Int32.lt_iff_toInt_lt.mp h
  exact decide_eq_false (by omega)
theorem inR_no {j n : Nat} (hj : j < 2 ^ 31) (h : n ≤ j) : inR (nI j) n = false := decide_eq_false (by rw [nI_toInt hj]; omega)
theorem inR_yes {j n : Nat} (h : j < n) (hn : n < 2 ^ 31) : inR (nI j) n = true := decide_eq_true (by rw [nI_toInt (by omega)]; omega)
theorem inR_of {i : Int32} {n : Nat} (h : inR i n = true) (hn : n < 2 ^ 31) : ∃ j, j < n ∧ i = nI j := by
  have h1 := of_decide_eq_true h
  obtain ⟨j, hj, rfl⟩ := nI_of (x := i) (fun q => by have h9 : i.toInt < 0 := Int32.lt_iff_toInt_lt.mp q; omega)
  rw [nI_toInt hj] at h1
  exact ⟨j, by omega, rfl⟩
theorem ix_nI {j : Nat} (h : j < 2 ^ 31) : ix (nI j) = j := by
  unfold ix
  rw [nI_toInt h]
  rfl
theorem tb_f {n i : Nat} (h : n / 2 ^ i % 2 = 0) : n.testBit i = false := by
  rw [Nat.testBit_eq_decide_div_mod_eq]
  exact decide_eq_false (by omega)
theorem tb_t {n i : Nat} (h : ¬ n / 2 ^ i % 2 = 0) : n.testBit i = true := by
  rw [Nat.testBit_eq_decide_div_mod_eq]
  exact decide_eq_true (by omega)
theorem sh64 : ∀ k, k < 64 → (((nI k).toInt64 &&& 63).toBitVec.smod 64).toNat = k := by decide +kernel
theorem sh32 : ∀ k, k < 32 → ((nI k &&& 31).toBitVec.smod 32).toNat = k := by decide +kernel
theorem sh1 : ∀ k, k < 31 → (1 : Int32) <<< (nI k &&& 31) = nI (2 ^ k) := by decide +kernel
def setOf (c : Nat → Nat) : Nat → Nat
  | 0 => 0
  | n + 1 => setOf c n + if 0 < c n then 2 ^ n else 0
theorem setOf_lt (c : Nat → Nat) (n : Nat) : setOf c n < 2 ^ n := by
  induction n with
  | zero => exact Nat.one_pos
  | succ n ih =>
    rw [setOf, Nat.pow_succ]
    split <;> omega
theorem setOf_no {c : Nat → Nat} {n : Nat} (h : c n = 0) : setOf c (n + 1) = setOf c n := by
  rw [setOf, if_neg (by omega), Nat.add_zero]
theorem nI_or {a b : Nat} : nI a ||| nI b = nI (a ||| b) := by
  apply Int32.toBitVec_inj.mp
  apply BitVec.eq_of_toNat_eq
  rw [Int32.toBitVec_or, BitVec.toNat_or]
  show (BitVec.ofNat 32 a).toNat ||| (BitVec.ofNat 32 b).toNat = (BitVec.ofNat 32 (a ||| b)).toNat
  rw [BitVec.toNat_ofNat, BitVec.toNat_ofNat, BitVec.toNat_ofNat, Nat.or_mod_two_pow]
theorem setOf_or {c : Nat → Nat} {n : Nat} (hn : n < 16) (h : 0 < c n) : nI (setOf c n) ||| nI (2 ^ n) = nI (setOf c (n + 1)) := by
  rw [nI_or, setOf, if_pos h]
  congr 1
  have := Nat.two_pow_add_eq_or_of_lt (setOf_lt c n) 1
  rw [Nat.mul_one] at this
  rw [Nat.or_comm, ← this, Nat.add_comm]
def costOf (c : Nat → Nat) (st : Nat) : Nat → Nat
  | 0 => 0
  | n + 1 => costOf c st n + if st.testBit n = true then c n else 0
theorem costOf_no {c : Nat → Nat} {st n : Nat} (h : st.testBit n = false) : costOf c st (n + 1) = costOf c st n := by
  rw [costOf, if_neg (by rw [h]; decide), Nat.add_zero]
theorem costOf_yes {c : Nat → Nat} {st n : Nat} (h : st.testBit n = true) : costOf c st n + c n = costOf c st (n + 1) := by
  rw [costOf, if_pos h]
def TownAt (g : WG) (H : Heap) (a : Nat) (c : Nat → Nat) (vs : Nat) (ap : Nat → Nat) (bu : Nat) : Prop :=
  obj g H a 5 [.ref (a + 1), .long (lN vs), .ref (a + 2), .int (nI bu)] ∧ xr_ia H (a + 1) (gI g) 16 (fun p => nI (c p)) ∧ xr_ia H (a + 2) (gI g) 48 (fun v => nI (ap v)) ∧ (∀ p, p < 16 → c p ≤ 1000000) ∧ vs < 2 ^ 48 ∧ (∀ v, v < 48 → ap v < 2 ^ 16) ∧ 1 ≤ bu ∧ bu ≤ 10000000
theorem TownAt.kept {g : WG} {H H1 : Heap} {a : Nat} {c : Nat → Nat} {vs : Nat} {ap : Nat → Nat} {bu : Nat} (h : TownAt g H a c vs ap bu) (hk : ∀ q, q < H.size → a ≤ q → q < a + 3 → H1[q]? = H[q]?) : TownAt g H1 a c vs ap bu :=
  ⟨h.1.kept (hk _ h.1.lt (Nat.le_refl _) (by show a < _; omega)), h.2.1.kept (hk _ h.2.1.lt (by omega) (by omega)), h.2.2.1.kept (hk _ h.2.2.1.lt (by omega) (by omega)), h.2.2.2⟩
end
section
set_option maxHeartbeats 400000 in
set_option maxRecDepth 100000 in
theorem c_X6_isProjectNumber (l : Launch) (g : WG) (H0 : Heap) (i : Int32) : Ctr l (KK g) yX6_isProjectNumber wsX6_isProjectNumber { frames := 0, cells := 0, slots := 0, locals := 0 } [.int i] H0 eI (fun r H => r = b2i (inR i 16) ∧ H = H0) (fun _ => False) := by
  refine xr_enter (cc := cX6_isProjectNumber) (maxL := 1) (ret := (some .boolean)) (by decide) rfl (Nat.le_of_ble_eq_true rfl) ?_
  intro pgm env s mid below meth cde hx hb hr hml hts hown hlocks hnm hH hK ls hl
  subst hH
  have hl : lv_has ls 1 [(0, .int i)] := hl
  have hS : va_S (fun _ => False) s.heap s.heap [] := va_S.rf
  refine lv_iload_n hx hb dX6_isProjectNumber_0 rfl (lv_at hl 0 rfl) ?_
  refine lv_if_lt (tgt := 14) hx hb dX6_isProjectNumber_1 (by decide) (fun h0 => ?_) (fun h0 => ?_)
  · have h9 : inR i 16 = false := inR_neg h0
    refine lv_iconst (v := 0) hx hb dX6_isProjectNumber_14 (by decide) ?_
    exact xr_zret hx hb hr rfl hlocks hS ⟨by rw [h9]; rfl, rfl⟩ dX6_isProjectNumber_15
  · obtain ⟨j, hj, rfl⟩ := nI_of h0
    refine lv_iload_n hx hb dX6_isProjectNumber_4 rfl (lv_at hl 0 rfl) ?_
    refine lv_bipush (v := 16) hx hb dX6_isProjectNumber_5 (by decide) ?_
    refine lv_icmp_ge (tgt := 14) hx hb dX6_isProjectNumber_7 (by decide) (fun h4 => ?_) (fun h4 => ?_)
    · have h9 : inR (nI j) 16 = false := inR_no hj ((nI_leI (by decide) hj).mp h4)
      refine lv_iconst (v := 0) hx hb dX6_isProjectNumber_14 (by decide) ?_
      exact xr_zret hx hb hr rfl hlocks hS ⟨by rw [h9]; rfl, rfl⟩ dX6_isProjectNumber_15
    · have h9 : inR (nI j) 16 = true := inR_yes (Nat.lt_of_not_le fun h => h4 (nI_le h hj)) (by decide)
      refine lv_iconst (v := 1) hx hb dX6_isProjectNumber_10 (by decide) ?_
      refine lv_goto (tgt := 15) hx hb dX6_isProjectNumber_11 (by decide) ?_
      exact xr_zret hx hb hr rfl hlocks hS ⟨by rw [h9]; rfl, rfl⟩ dX6_isProjectNumber_15
set_option maxHeartbeats 400000 in
set_option maxRecDepth 100000 in
theorem c_X6_isVoterNumber (l : Launch) (g : WG) (H0 : Heap) (i : Int32) : Ctr l (KK g) yX6_isVoterNumber wsX6_isVoterNumber { frames := 0, cells := 0, slots := 0, locals := 0 } [.int i] H0 eI (fun r H => r = b2i (inR i 48) ∧ H = H0) (fun _ => False) := by
  refine xr_enter (cc := cX6_isVoterNumber) (maxL := 1) (ret := (some .boolean)) (by decide) rfl (Nat.le_of_ble_eq_true rfl) ?_
  intro pgm env s mid below meth cde hx hb hr hml hts hown hlocks hnm hH hK ls hl
  subst hH
  have hl : lv_has ls 1 [(0, .int i)] := hl
  have hS : va_S (fun _ => False) s.heap s.heap [] := va_S.rf
  refine lv_iload_n hx hb dX6_isVoterNumber_0 rfl (lv_at hl 0 rfl) ?_
  refine lv_if_lt (tgt := 14) hx hb dX6_isVoterNumber_1 (by decide) (fun h0 => ?_) (fun h0 => ?_)
  · have h9 : inR i 48 = false := inR_neg h0
    refine lv_iconst (v := 0) hx hb dX6_isVoterNumber_14 (by decide) ?_
    exact xr_zret hx hb hr rfl hlocks hS ⟨by rw [h9]; rfl, rfl⟩ dX6_isVoterNumber_15
  · obtain ⟨j, hj, rfl⟩ := nI_of h0
    refine lv_iload_n hx hb dX6_isVoterNumber_4 rfl (lv_at hl 0 rfl) ?_
    refine lv_bipush (v := 48) hx hb dX6_isVoterNumber_5 (by decide) ?_
    refine lv_icmp_ge (tgt := 14) hx hb dX6_isVoterNumber_7 (by decide) (fun h4 => ?_) (fun h4 => ?_)
    · have h9 : inR (nI j) 48 = false := inR_no hj ((nI_leI (by decide) hj).mp h4)
      refine lv_iconst (v := 0) hx hb dX6_isVoterNumber_14 (by decide) ?_
      exact xr_zret hx hb hr rfl hlocks hS ⟨by rw [h9]; rfl, rfl⟩ dX6_isVoterNumber_15
    · have h9 : inR (nI j) 48 = true := inR_yes (Nat.lt_of_not_le fun h => h4 (nI_le h hj)) (by decide)
      refine lv_iconst (v := 1) hx hb dX6_isVoterNumber_10 (by decide) ?_
      refine lv_goto (tgt := 15) hx hb dX6_isVoterNumber_11 (by decide) ?_
      exact xr_zret hx hb hr rfl hlocks hS ⟨by rw [h9]; rfl, rfl⟩ dX6_isVoterNumber_15
set_option maxHeartbeats 400000 in
set_option maxRecDepth 100000 in
theorem c_X5_hasProject (l : Launch) (g : WG) (H0 : Heap) (a : Nat) (c : Nat → Nat) (vs : Nat) (ap : Nat → Nat) (bu : Nat) (hT : TownAt g H0 a c vs ap bu) (i : Int32) : Ctr l (KK g) yX5_hasProject wsX5_hasProject { frames := 1, cells := 0, slots := 0, locals := 20 } [.ref a, .int i] H0 eI (fun r H => r = b2i (inR i 16 && decide (0 < c (ix i))) ∧ H = H0) (fun _ => False) := by
  refine xr_enter (cc := cX5_hasProject) (maxL := 2) (ret := (some .boolean)) (by decide) rfl (Nat.le_of_ble_eq_true rfl) ?_
  intro pgm env s mid below meth cde hx hb hr hml hts hown hlocks hnm hH hK ls hl
  subst hH
  have hl : lv_has ls 2 [(0, .ref a), (1, .int i)] := hl
  have hS : va_S (fun _ => False) s.heap s.heap [] := va_S.rf
  obtain ⟨hO, hcs, ha, hcb, hvb, hab, hbb⟩ := id hT
  refine lv_iload_n hx hb dX5_hasProject_0 rfl (lv_at hl 1 rfl) ?_
  refine xr_SNi (rest := []) ⟨hx, hb, hml, hown, hts⟩ (KK_ok g) hK (c_X6_isProjectNumber l g s.heap i) ⟨va_cnB 1 hts gX5_hasProject_X6_isProjectNumber_n22 rfl rfl rfl (hK.2.2.1 (RX5, 22, yX6_isProjectNumber) (by decide +kernel)) (hts (.initialized RX6) (by decide +kernel)) (by decide +kernel) ⟨Nat.le_of_ble_eq_true rfl, Nat.le_of_ble_eq_true rfl⟩, (hts (.static yX6_isProjectNumber) (by decide +kernel)), trivial⟩ rfl hl.1 rfl (Nat.le_of_ble_eq_true rfl) dX5_hasProject_1 ⟨Nat.le_of_ble_eq_true rfl, Nat.le_of_ble_eq_true rfl⟩ hS (fun q h => h) (fun r H locs hq hz hkp hS => ?_)
  obtain ⟨rfl, rfl⟩ := hq
  refine lv_if_eq (tgt := 20) hx hb dX5_hasProject_4 (by decide) (fun h0 => ?_) (fun h0 => ?_)
  · have h9 := b2i_0.mp h0
    refine lv_iconst (v := 0) hx hb dX5_hasProject_20 (by decide) ?_
    exact xr_zret hx hb hr rfl hlocks hS ⟨by rw [h9]; rfl, rfl⟩ dX5_hasProject_21
  · have h9 := b2i_n0.mp h0
    obtain ⟨j, hj, rfl⟩ := inR_of h9 (by decide)
    rw [ix_nI (by omega)]
    refine lv_aload_n hx hb dX5_hasProject_7 rfl (lv_at hl 0 rfl) ?_
    refine va_get (D := g.1) (ci := 5) (v := .ref (a + 1)) (C := RX5) (T := TX5) (N := 4) hx hb hts (by decide +kernel) hown hK.1 (xr_one hO) 0 rfl rfl 0 (by decide) (hts (.fieldLink RX5 9 "SharesDesk$Town" "costs" "[I") (by decide +kernel)) (fun _ h9 => h9) rfl dX5_hasProject_8 ?_
    refine lv_iload_n hx hb dX5_hasProject_11 rfl (lv_at hl 1 rfl) ?_
    refine xr_rd hx hb hK hcs hj (by decide) dX5_hasProject_12 ?_
    refine lv_if_le (tgt := 20) hx hb dX5_hasProject_13 (by decide) (fun h4 => ?_) (fun h4 => ?_)
    · have h8 : ¬ 0 < c j := fun q => nI_nle q (by have := hcb j hj; omega) h4
      refine lv_iconst (v := 0) hx hb dX5_hasProject_20 (by decide) ?_
      exact xr_zret hx hb hr rfl hlocks hS ⟨by rw [h9, decide_eq_false h8]; rfl, rfl⟩ dX5_hasProject_21
    · have h8 : 0 < c j := Nat.pos_of_ne_zero fun q => h4 (by rw [q]; decide)
      refine lv_iconst (v := 1) hx hb dX5_hasProject_16 (by decide) ?_
      refine lv_goto (tgt := 21) hx hb dX5_hasProject_17 (by decide) ?_
      exact xr_zret hx hb hr rfl hlocks hS ⟨by rw [h9, decide_eq_true h8]; rfl, rfl⟩ dX5_hasProject_21
set_option maxHeartbeats 400000 in
set_option maxRecDepth 100000 in
theorem c_X5_hasVoter (l : Launch) (g : WG) (H0 : Heap) (a : Nat) (c : Nat → Nat) (vs : Nat) (ap : Nat → Nat) (bu : Nat) (hT : TownAt g H0 a c vs ap bu) (i : Int32) : Ctr l (KK g) yX5_hasVoter wsX5_hasVoter { frames := 1, cells := 0, slots := 0, locals := 20 } [.ref a, .int i] H0 eI (fun r H => r = b2i (inR i 48 && vs.testBit (ix i)) ∧ H = H0) (fun _ => False) := by
  refine xr_enter (cc := cX5_hasVoter) (maxL := 2) (ret := (some .boolean)) (by decide) rfl (Nat.le_of_ble_eq_true rfl) ?_
  intro pgm env s mid below meth cde hx hb hr hml hts hown hlocks hnm hH hK ls hl
  subst hH
  have hl : lv_has ls 2 [(0, .ref a), (1, .int i)] := hl
  have hS : va_S (fun _ => False) s.heap s.heap [] := va_S.rf
  obtain ⟨hO, hcs, ha, hcb, hvb, hab, hbb⟩ := id hT
  refine lv_iload_n hx hb dX5_hasVoter_0 rfl (lv_at hl 1 rfl) ?_
  refine xr_SNi (rest := []) ⟨hx, hb, hml, hown, hts⟩ (KK_ok g) hK (c_X6_isVoterNumber l g s.heap i) ⟨va_cnB 1 hts gX5_hasVoter_X6_isVoterNumber_n26 rfl rfl rfl (hK.2.2.1 (RX5, 26, yX6_isVoterNumber) (by decide +kernel)) (hts (.initialized RX6) (by decide +kernel)) (by decide +kernel) ⟨Nat.le_of_ble_eq_true rfl, Nat.le_of_ble_eq_true rfl⟩, (hts (.static yX6_isVoterNumber) (by decide +kernel)), trivial⟩ rfl hl.1 rfl (Nat.le_of_ble_eq_true rfl) dX5_hasVoter_1 ⟨Nat.le_of_ble_eq_true rfl, Nat.le_of_ble_eq_true rfl⟩ hS (fun q h => h) (fun r H locs hq hz hkp hS => ?_)
  obtain ⟨rfl, rfl⟩ := hq
  refine lv_if_eq (tgt := 24) hx hb dX5_hasVoter_4 (by decide) (fun h0 => ?_) (fun h0 => ?_)
  · have h9 := b2i_0.mp h0
    refine lv_iconst (v := 0) hx hb dX5_hasVoter_24 (by decide) ?_
    exact xr_zret hx hb hr rfl hlocks hS ⟨by rw [h9]; rfl, rfl⟩ dX5_hasVoter_25
  · have h9 := b2i_n0.mp h0
    obtain ⟨j, hj, rfl⟩ := inR_of h9 (by decide)
    rw [ix_nI (by omega)]
    refine lv_aload_n hx hb dX5_hasVoter_7 rfl (lv_at hl 0 rfl) ?_
    refine va_get (D := g.1) (ci := 5) (v := .long (lN vs)) (C := RX5) (T := TX5) (N := 4) hx hb hts (by decide +kernel) hown hK.1 (xr_one hO) 0 rfl rfl 1 (by decide) (hts (.fieldLink RX5 29 "SharesDesk$Town" "voters" "J") (by decide +kernel)) (fun _ h9 => h9) rfl dX5_hasVoter_8 ?_
    refine lv_iload_n hx hb dX5_hasVoter_11 rfl (lv_at hl 1 rfl) ?_
    refine lv_lshr (v := lN (vs / 2 ^ j)) hx hb dX5_hasVoter_12 (pf_shr (sh64 j (by omega)) (by omega)) ?_
    refine lv_lconst (v := 1) hx hb dX5_hasVoter_13 (by decide) ?_
    refine lv_land hx hb dX5_hasVoter_14 ?_
    refine xr_tl (x' := lN (vs / 2 ^ j % 2)) (wb_a1 (Nat.lt_of_le_of_lt (Nat.div_le_self _ _) (by omega))) ?_
    refine lv_lconst (v := 0) hx hb dX5_hasVoter_15 (by decide) ?_
    refine xr_tl (x' := lN 0) rfl ?_
    refine W.lcmp hx hb dX5_hasVoter_16 ?_
    refine lv_if_eq (tgt := 24) hx hb dX5_hasVoter_17 (by decide) (fun h4 => ?_) (fun h4 => ?_)
    · have h8 : vs.testBit j = false := tb_f ((pk_lEQ (by omega) (by decide)).mp ((lg_cmp_eq _ _).mp h4))
      refine lv_iconst (v := 0) hx hb dX5_hasVoter_24 (by decide) ?_
      exact xr_zret hx hb hr rfl hlocks hS ⟨by rw [h9, h8]; rfl, rfl⟩ dX5_hasVoter_25
    · have h8 : vs.testBit j = true := tb_t fun q => h4 ((lg_cmp_eq _ _).mpr ((pk_lEQ (by omega) (by decide)).mpr q))
      refine lv_iconst (v := 1) hx hb dX5_hasVoter_20 (by decide) ?_
      refine lv_goto (tgt := 25) hx hb dX5_hasVoter_21 (by decide) ?_
      exact xr_zret hx hb hr rfl hlocks hS ⟨by rw [h9, h8]; rfl, rfl⟩ dX5_hasVoter_25
set_option maxHeartbeats 400000 in
set_option maxRecDepth 100000 in
theorem c_X5_approves (l : Launch) (g : WG) (H0 : Heap) (a : Nat) (c : Nat → Nat) (vs : Nat) (ap : Nat → Nat) (bu : Nat) (hT : TownAt g H0 a c vs ap bu) (v p0 : Nat) (hv : v < 48) (hp : p0 < 16) : Ctr l (KK g) yX5_approves wsX5_approves { frames := 0, cells := 0, slots := 0, locals := 0 } [.ref a, .int (nI v), .int (nI p0)] H0 eI (fun r H => r = b2i ((ap v).testBit p0) ∧ H = H0) (fun _ => False) := by
  refine xr_enter (cc := cX5_approves) (maxL := 3) (ret := (some .boolean)) (by decide) rfl (Nat.le_of_ble_eq_true rfl) ?_
  intro pgm env s mid below meth cde hx hb hr hml hts hown hlocks hnm hH hK ls hl
  subst hH
  have hl : lv_has ls 3 [(0, .ref a), (1, .int (nI v)), (2, .int (nI p0))] := hl
  have hS : va_S (fun _ => False) s.heap s.heap [] := va_S.rf
  obtain ⟨hO, hcs, ha, hcb, hvb, hab, hbb⟩ := id hT
  have hav := hab v hv
  refine lv_aload_n hx hb dX5_approves_0 rfl (lv_at hl 0 rfl) ?_
  refine va_get (D := g.1) (ci := 5) (v := .ref (a + 2)) (C := RX5) (T := TX5) (N := 4) hx hb hts (by decide +kernel) hown hK.1 (xr_one hO) 0 rfl rfl 2 (by decide) (hts (.fieldLink RX5 15 "SharesDesk$Town" "approvals" "[I") (by decide +kernel)) (fun _ h9 => h9) rfl dX5_approves_1 ?_
  refine lv_iload_n hx hb dX5_approves_4 rfl (lv_at hl 1 rfl) ?_
  refine xr_rd hx hb hK ha hv (by decide) dX5_approves_5 ?_
  refine lv_iload_n hx hb dX5_approves_6 rfl (lv_at hl 2 rfl) ?_
  refine lv_ishr hx hb dX5_approves_7 ?_
  refine xr_ti (x' := nI (ap v / 2 ^ p0)) (pk_shrN (by omega) _ p0 (sh32 p0 (by omega))) ?_
  refine lv_iconst (v := 1) hx hb dX5_approves_8 (by decide) ?_
  refine lv_iand hx hb dX5_approves_9 ?_
  refine xr_ti (x' := nI (ap v / 2 ^ p0 % 2)) (pk_andN (Nat.lt_of_le_of_lt (Nat.div_le_self _ _) (by omega)) 1 (by decide)) ?_
  refine lv_if_eq (tgt := 17) hx hb dX5_approves_10 (by decide) (fun h4 => ?_) (fun h4 => ?_)
  · have h8 : (ap v).testBit p0 = false := tb_f ((nI_inj (by omega) (by decide)).mp h4)
    refine lv_iconst (v := 0) hx hb dX5_approves_17 (by decide) ?_
    exact xr_zret hx hb hr rfl hlocks hS ⟨by rw [h8]; rfl, rfl⟩ dX5_approves_18
  · have h8 : (ap v).testBit p0 = true := tb_t fun q => h4 ((nI_inj (by omega) (by decide)).mpr q)
    refine lv_iconst (v := 1) hx hb dX5_approves_13 (by decide) ?_
    refine lv_goto (tgt := 18) hx hb dX5_approves_14 (by decide) ?_
    exact xr_zret hx hb hr rfl hlocks hS ⟨by rw [h8]; rfl, rfl⟩ dX5_approves_18
set_option maxHeartbeats 400000 in
set_option maxRecDepth 100000 in
theorem c_X5_allProjects (l : Launch) (g : WG) (H0 : Heap) (a : Nat) (c : Nat → Nat) (vs : Nat) (ap : Nat → Nat) (bu : Nat) (hT : TownAt g H0 a c vs ap bu) : Ctr l (KK g) yX5_allProjects wsX5_allProjects { frames := 0, cells := 0, slots := 0, locals := 0 } [.ref a] H0 eI (fun r H => r = nI (setOf c 16) ∧ H = H0) (fun _ => False) := by
  refine xr_enter (cc := cX5_allProjects) (maxL := 3) (ret := (some .int)) (by decide) rfl (Nat.le_of_ble_eq_true rfl) ?_
  intro pgm env s mid below meth cde hx hb hr hml hts hown hlocks hnm hH hK ls hl
  subst hH
  have hl : lv_has ls 3 [(0, .ref a)] := hl
  have hS : va_S (fun _ => False) s.heap s.heap [] := va_S.rf
  obtain ⟨hO, hcs, ha, hcb, hvb, hab, hbb⟩ := id hT
  have loop : ∀ (n i : Nat), i ≤ 16 → 16 < i + n → ∀ ls : Array Slot, lv_has ls 3 [(2, .int (nI i)), (1, .int (nI (setOf c i))), (0, .ref a)] → W pgm l env { frames := 0, cells := 0, slots := 0, locals := 0 } s mid ([.ref a] : List Value).toArray below meth cde s.heap [] 0 0 (MQ below (xr_Post eI (fun r H => r = nI (setOf c 16) ∧ H = s.heap) (fun _ => False)) ([.ref a] : List Value).toArray s ({ frames := 0, cells := 0, slots := 0, locals := 0 } : Room).cells ({ frames := 0, cells := 0, slots := 0, locals := 0 } : Room).slots (fun _ => False)) (F0 mid 4 ls []) := by
    intro n
    induction n with
    | zero => intro i h1 h2; exact absurd h2 (by omega)
    | succ n ih =>
      intro i h1 h2 ls hl
      refine lv_iload_n hx hb dX5_allProjects_4 rfl (lv_at hl 0 rfl) ?_
      refine lv_bipush (v := 16) hx hb dX5_allProjects_5 (by decide) ?_
      refine lv_icmp_ge (tgt := 31) hx hb dX5_allProjects_7 (by decide) (fun hc => ?_) (fun hc => ?_)
      · have e4 : i = 16 := by have := (nI_leI (a := 16) (b := i) (by decide) (by omega)).mp hc; omega
        subst e4
        refine lv_iload_n hx hb dX5_allProjects_31 rfl (lv_at hl 1 rfl) ?_
        exact xr_iret hx hb hr hlocks hS ⟨rfl, rfl⟩ dX5_allProjects_32
      · have h4 : i < 16 := Nat.lt_of_not_le fun h => hc (nI_le h (by omega))
        refine lv_aload_n hx hb dX5_allProjects_10 rfl (lv_at hl 2 rfl) ?_
        refine va_get (D := g.1) (ci := 5) (v := .ref (a + 1)) (C := RX5) (T := TX5) (N := 4) hx hb hts (by decide +kernel) hown hK.1 (xr_one hO) 0 rfl rfl 0 (by decide) (hts (.fieldLink RX5 9 "SharesDesk$Town" "costs" "[I") (by decide +kernel)) (fun _ h9 => h9) rfl dX5_allProjects_11 ?_
        refine lv_iload_n hx hb dX5_allProjects_14 rfl (lv_at hl 0 rfl) ?_
        refine xr_rd hx hb hK hcs h4 (by decide) dX5_allProjects_15 ?_
        refine lv_if_le (tgt := 25) hx hb dX5_allProjects_16 (by decide) (fun h5 => ?_) (fun h5 => ?_)
        · have h8 : c i = 0 := by have := hcb i h4; exact Nat.eq_zero_of_not_pos fun q => nI_nle q (by omega) h5
          refine lv_iinc (v := nI (i + 1)) (lv' := [(2, .int (nI (i + 1))), (1, .int (nI (setOf c i))), (0, .ref a)]) hx hb dX5_allProjects_25 hl (k := 0) rfl (nI_1 i) (by decide) rfl (fun ls hl => ?_)
          refine lv_goto (tgt := 4) hx hb dX5_allProjects_28 (by decide) ?_
          exact ih (i + 1) (by omega) (by omega) ls (by rw [setOf_no h8]; exact lv_sub hl [0, 1, 2] rfl)
        · have h8 : 0 < c i := Nat.pos_of_ne_zero fun q => h5 (by rw [q]; decide)
          refine lv_iload_n hx hb dX5_allProjects_19 rfl (lv_at hl 1 rfl) ?_
          refine lv_iconst (v := 1) hx hb dX5_allProjects_20 (by decide) ?_
          refine lv_iload_n hx hb dX5_allProjects_21 rfl (lv_at hl 0 rfl) ?_
          refine lv_ishl hx hb dX5_allProjects_22 ?_
          refine xr_ti (x' := nI (2 ^ i)) (sh1 i (by omega)) ?_
          refine lv_ior hx hb dX5_allProjects_23 ?_
          refine xr_ti (x' := nI (setOf c (i + 1))) (by rw [setOf_or h4 h8]) ?_
          refine lv_istore_n (lv' := [(1, .int (nI (setOf c (i + 1)))), (2, .int (nI i)), (0, .ref a)]) hx hb dX5_allProjects_24 rfl hl (by decide) rfl (fun ls hl => ?_)
          refine lv_iinc (v := nI (i + 1)) (lv' := [(2, .int (nI (i + 1))), (1, .int (nI (setOf c (i + 1)))), (0, .ref a)]) hx hb dX5_allProjects_25 hl (k := 1) rfl (nI_1 i) (by decide) rfl (fun ls hl => ?_)
          refine lv_goto (tgt := 4) hx hb dX5_allProjects_28 (by decide) ?_
          exact ih (i + 1) (by omega) (by omega) ls (lv_sub hl [0, 1, 2] rfl)
  refine lv_iconst (v := 0) hx hb dX5_allProjects_0 (by decide) ?_
  refine xr_ti (x' := nI (setOf c 0)) rfl ?_
  refine lv_istore_n (lv' := [(1, .int (nI (setOf c 0))), (0, .ref a)]) hx hb dX5_allProjects_1 rfl hl (by decide) rfl (fun ls hl => ?_)
  refine lv_iconst (v := 0) hx hb dX5_allProjects_2 (by decide) ?_
  refine xr_ti (x' := nI 0) rfl ?_
  refine lv_istore_n (lv' := [(2, .int (nI 0)), (1, .int (nI (setOf c 0))), (0, .ref a)]) hx hb dX5_allProjects_3 rfl hl (by decide) rfl (fun ls hl => ?_)
  exact loop 17 0 (by omega) (by omega) ls (lv_sub hl [0, 1, 2] rfl)
set_option maxHeartbeats 400000 in
set_option maxRecDepth 100000 in
theorem c_X5_costOf (l : Launch) (g : WG) (H0 : Heap) (a : Nat) (c : Nat → Nat) (vs : Nat) (ap : Nat → Nat) (bu : Nat) (hT : TownAt g H0 a c vs ap bu) (st : Nat) (hst : st < 2 ^ 16) : Ctr l (KK g) yX5_costOf wsX5_costOf { frames := 0, cells := 0, slots := 0, locals := 0 } [.ref a, .int (nI st)] H0 eI (fun r H => r = nI (costOf c st 16) ∧ H = H0) (fun _ => False) := by
  refine xr_enter (cc := cX5_costOf) (maxL := 4) (ret := (some .int)) (by decide) rfl (Nat.le_of_ble_eq_true rfl) ?_
  intro pgm env s mid below meth cde hx hb hr hml hts hown hlocks hnm hH hK ls hl
  subst hH
  have hl : lv_has ls 4 [(0, .ref a), (1, .int (nI st))] := hl
  have hS : va_S (fun _ => False) s.heap s.heap [] := va_S.rf
  obtain ⟨hO, hcs, ha, hcb, hvb, hab, hbb⟩ := id hT
  have loop : ∀ (n i : Nat), i ≤ 16 → 16 < i + n → ∀ ls : Array Slot, lv_has ls 4 [(3, .int (nI i)), (2, .int (nI (costOf c st i))), (0, .ref a), (1, .int (nI st))] → W pgm l env { frames := 0, cells := 0, slots := 0, locals := 0 } s mid ([.ref a, .int (nI st)] : List Value).toArray below meth cde s.heap [] 0 0 (MQ below (xr_Post eI (fun r H => r = nI (costOf c st 16) ∧ H = s.heap) (fun _ => False)) ([.ref a, .int (nI st)] : List Value).toArray s ({ frames := 0, cells := 0, slots := 0, locals := 0 } : Room).cells ({ frames := 0, cells := 0, slots := 0, locals := 0 } : Room).slots (fun _ => False)) (F0 mid 4 ls []) := by
    intro n
    induction n with
    | zero => intro i h1 h2; exact absurd h2 (by omega)
    | succ n ih =>
      intro i h1 h2 ls hl
      refine lv_iload_n hx hb dX5_costOf_4 rfl (lv_at hl 0 rfl) ?_
      refine lv_bipush (v := 16) hx hb dX5_costOf_5 (by decide) ?_
      refine lv_icmp_ge (tgt := 33) hx hb dX5_costOf_7 (by decide) (fun hc => ?_) (fun hc => ?_)
      · have e4 : i = 16 := by have := (nI_leI (a := 16) (b := i) (by decide) (by omega)).mp hc; omega
        subst e4
        refine lv_iload_n hx hb dX5_costOf_33 rfl (lv_at hl 1 rfl) ?_
        exact xr_iret hx hb hr hlocks hS ⟨rfl, rfl⟩ dX5_costOf_34
      · have h4 : i < 16 := Nat.lt_of_not_le fun h => hc (nI_le h (by omega))
        refine lv_iload_n hx hb dX5_costOf_10 rfl (lv_at hl 3 rfl) ?_
        refine lv_iload_n hx hb dX5_costOf_11 rfl (lv_at hl 0 rfl) ?_
        refine lv_ishr hx hb dX5_costOf_12 ?_
        refine xr_ti (x' := nI (st / 2 ^ i)) (pk_shrN (by omega) _ i (sh32 i (by omega))) ?_
        refine lv_iconst (v := 1) hx hb dX5_costOf_13 (by decide) ?_
        refine lv_iand hx hb dX5_costOf_14 ?_
        refine xr_ti (x' := nI (st / 2 ^ i % 2)) (pk_andN (Nat.lt_of_le_of_lt (Nat.div_le_self _ _) (by omega)) 1 (by decide)) ?_
        refine lv_if_eq (tgt := 27) hx hb dX5_costOf_15 (by decide) (fun h5 => ?_) (fun h5 => ?_)
        · have h8 : st.testBit i = false := tb_f ((nI_inj (by omega) (by decide)).mp h5)
          refine lv_iinc (v := nI (i + 1)) (lv' := [(3, .int (nI (i + 1))), (2, .int (nI (costOf c st i))), (0, .ref a), (1, .int (nI st))]) hx hb dX5_costOf_27 hl (k := 0) rfl (nI_1 i) (by decide) rfl (fun ls hl => ?_)
          refine lv_goto (tgt := 4) hx hb dX5_costOf_30 (by decide) ?_
          exact ih (i + 1) (by omega) (by omega) ls (by rw [costOf_no h8]; exact lv_sub hl [0, 1, 2, 3] rfl)
        · have h8 : st.testBit i = true := tb_t fun q => h5 ((nI_inj (by omega) (by decide)).mpr q)
          refine lv_iload_n hx hb dX5_costOf_18 rfl (lv_at hl 1 rfl) ?_
          refine lv_aload_n hx hb dX5_costOf_19 rfl (lv_at hl 2 rfl) ?_
          refine va_get (D := g.1) (ci := 5) (v := .ref (a + 1)) (C := RX5) (T := TX5) (N := 4) hx hb hts (by decide +kernel) hown hK.1 (xr_one hO) 0 rfl rfl 0 (by decide) (hts (.fieldLink RX5 9 "SharesDesk$Town" "costs" "[I") (by decide +kernel)) (fun _ h9 => h9) rfl dX5_costOf_20 ?_
          refine lv_iload_n hx hb dX5_costOf_23 rfl (lv_at hl 0 rfl) ?_
          refine xr_rd hx hb hK hcs h4 (by decide) dX5_costOf_24 ?_
          refine lv_iadd hx hb dX5_costOf_25 ?_
          refine xr_ti (x' := nI (costOf c st (i + 1))) (by rw [nI_add, costOf_yes h8]) ?_
          refine lv_istore_n (lv' := [(2, .int (nI (costOf c st (i + 1)))), (3, .int (nI i)), (0, .ref a), (1, .int (nI st))]) hx hb dX5_costOf_26 rfl hl (by decide) rfl (fun ls hl => ?_)
          refine lv_iinc (v := nI (i + 1)) (lv' := [(3, .int (nI (i + 1))), (2, .int (nI (costOf c st (i + 1)))), (0, .ref a), (1, .int (nI st))]) hx hb dX5_costOf_27 hl (k := 1) rfl (nI_1 i) (by decide) rfl (fun ls hl => ?_)
          refine lv_goto (tgt := 4) hx hb dX5_costOf_30 (by decide) ?_
          exact ih (i + 1) (by omega) (by omega) ls (lv_sub hl [0, 1, 2, 3] rfl)
  refine lv_iconst (v := 0) hx hb dX5_costOf_0 (by decide) ?_
  refine xr_ti (x' := nI (costOf c st 0)) rfl ?_
  refine lv_istore_n (lv' := [(2, .int (nI (costOf c st 0))), (0, .ref a), (1, .int (nI st))]) hx hb dX5_costOf_1 rfl hl (by decide) rfl (fun ls hl => ?_)
  refine lv_iconst (v := 0) hx hb dX5_costOf_2 (by decide) ?_
  refine xr_ti (x' := nI 0) rfl ?_
  refine lv_istore_n (lv' := [(3, .int (nI 0)), (2, .int (nI (costOf c st 0))), (0, .ref a), (1, .int (nI st))]) hx hb dX5_costOf_3 rfl hl (by decide) rfl (fun ls hl => ?_)
  exact loop 17 0 (by omega) (by omega) ls (lv_sub hl [0, 1, 2, 3] rfl)
end
section
set_option maxRecDepth 20000 in
theorem ggX3_init_X0_init : GoodIn wsX3_init wsX0_init := goodIn_r _ [11, 12, 2, 3, 13, 14, 15] (by decide +kernel) (by decide +kernel)
set_option maxRecDepth 20000 in
theorem gX3_init_X0_init_n9 : GoodIn wsX3_init (wsX0_init) := ggX3_init_X0_init
theorem dX3_init_0 : decode cX3_init 0 = .ok (.aload_n 0, 1) := by decide +kernel
theorem dX3_init_1 : decode cX3_init 1 = .ok (.invokespecial 1, 3) := by decide +kernel
theorem dX3_init_4 : decode cX3_init 4 = .ok (.aload_n 0, 1) := by decide +kernel
theorem dX3_init_5 : decode cX3_init 5 = .ok (.new 7, 3) := by decide +kernel
theorem dX3_init_8 : decode cX3_init 8 = .ok (.dup, 1) := by decide +kernel
theorem dX3_init_9 : decode cX3_init 9 = .ok (.invokespecial 9, 3) := by decide +kernel
theorem dX3_init_12 : decode cX3_init 12 = .ok (.putfield 10, 3) := by decide +kernel
theorem dX3_init_15 : decode cX3_init 15 = .ok (.aload_n 0, 1) := by decide +kernel
theorem dX3_init_16 : decode cX3_init 16 = .ok (.new 7, 3) := by decide +kernel
theorem dX3_init_19 : decode cX3_init 19 = .ok (.dup, 1) := by decide +kernel
theorem dX3_init_20 : decode cX3_init 20 = .ok (.invokespecial 9, 3) := by decide +kernel
theorem dX3_init_23 : decode cX3_init 23 = .ok (.putfield 16, 3) := by decide +kernel
theorem dX3_init_26 : decode cX3_init 26 = .ok (.aload_n 0, 1) := by decide +kernel
theorem dX3_init_27 : decode cX3_init 27 = .ok (.new 7, 3) := by decide +kernel
theorem dX3_init_30 : decode cX3_init 30 = .ok (.dup, 1) := by decide +kernel
theorem dX3_init_31 : decode cX3_init 31 = .ok (.invokespecial 9, 3) := by decide +kernel
theorem dX3_init_34 : decode cX3_init 34 = .ok (.putfield 19, 3) := by decide +kernel
theorem dX3_init_37 : decode cX3_init 37 = .ok (.return_, 1) := by decide +kernel
set_option maxRecDepth 20000 in
theorem ggX3_isWithin_X0_copy : GoodIn wsX3_isWithin wsX0_copy := goodIn_r _ [8, 9, 10, 11, 12, 13, 27] (by decide +kernel) (by decide +kernel)
set_option maxRecDepth 20000 in
theorem gX3_isWithin_X0_copy : GoodIn wsX3_isWithin (wsV RX3 22 RX0 yX0_copy wsX0_copy) := goodIn_app (goodIn_of _ (by decide +kernel)) ggX3_isWithin_X0_copy
set_option maxRecDepth 20000 in
theorem ggX3_isWithin_X0_times : GoodIn wsX3_isWithin wsX0_times := goodIn_r _ [17, 9, 18, 27] (by decide +kernel) (by decide +kernel)
set_option maxRecDepth 20000 in
theorem gX3_isWithin_X0_times : GoodIn wsX3_isWithin (wsV RX3 30 RX0 yX0_times wsX0_times) := goodIn_app (goodIn_of _ (by decide +kernel)) ggX3_isWithin_X0_times
set_option maxRecDepth 20000 in
theorem ggX3_isWithin_X0_against : GoodIn wsX3_isWithin wsX0_against := goodIn_r _ [22, 9, 18, 27] (by decide +kernel) (by decide +kernel)
set_option maxRecDepth 20000 in
theorem gX3_isWithin_X0_against : GoodIn wsX3_isWithin (wsV RX3 34 RX0 yX0_against wsX0_against) := goodIn_app (goodIn_of _ (by decide +kernel)) ggX3_isWithin_X0_against
theorem dX3_isWithin_0 : decode cX3_isWithin 0 = .ok (.aload_n 0, 1) := by decide +kernel
theorem dX3_isWithin_1 : decode cX3_isWithin 1 = .ok (.getfield 16, 3) := by decide +kernel
theorem dX3_isWithin_4 : decode cX3_isWithin 4 = .ok (.aload_n 1, 1) := by decide +kernel
theorem dX3_isWithin_5 : decode cX3_isWithin 5 = .ok (.invokevirtual 22, 3) := by decide +kernel
theorem dX3_isWithin_8 : decode cX3_isWithin 8 = .ok (.aload_n 0, 1) := by decide +kernel
theorem dX3_isWithin_9 : decode cX3_isWithin 9 = .ok (.getfield 16, 3) := by decide +kernel
theorem dX3_isWithin_12 : decode cX3_isWithin 12 = .ok (.aload_n 0, 1) := by decide +kernel
theorem dX3_isWithin_13 : decode cX3_isWithin 13 = .ok (.getfield 26, 3) := by decide +kernel
theorem dX3_isWithin_16 : decode cX3_isWithin 16 = .ok (.invokevirtual 30, 3) := by decide +kernel
theorem dX3_isWithin_19 : decode cX3_isWithin 19 = .ok (.aload_n 0, 1) := by decide +kernel
theorem dX3_isWithin_20 : decode cX3_isWithin 20 = .ok (.getfield 16, 3) := by decide +kernel
theorem dX3_isWithin_23 : decode cX3_isWithin 23 = .ok (.aload_n 0, 1) := by decide +kernel
theorem dX3_isWithin_24 : decode cX3_isWithin 24 = .ok (.getfield 10, 3) := by decide +kernel
theorem dX3_isWithin_27 : decode cX3_isWithin 27 = .ok (.invokevirtual 34, 3) := by decide +kernel
theorem dX3_isWithin_30 : decode cX3_isWithin 30 = .ok (.ifCond .lt 7, 3) := by decide +kernel
theorem dX3_isWithin_33 : decode cX3_isWithin 33 = .ok (.iconst 1, 1) := by decide +kernel
theorem dX3_isWithin_34 : decode cX3_isWithin 34 = .ok (.goto 4, 3) := by decide +kernel
theorem dX3_isWithin_37 : decode cX3_isWithin 37 = .ok (.iconst 0, 1) := by decide +kernel
theorem dX3_isWithin_38 : decode cX3_isWithin 38 = .ok (.ireturn, 1) := by decide +kernel
set_option maxRecDepth 20000 in
theorem ggX3_against_X0_copy : GoodIn wsX3_against wsX0_copy := goodIn_r _ [9, 10, 11, 12, 13, 14, 28] (by decide +kernel) (by decide +kernel)
set_option maxRecDepth 20000 in
theorem gX3_against_X0_copy : GoodIn wsX3_against (wsV RX3 22 RX0 yX0_copy wsX0_copy) := goodIn_app (goodIn_of _ (by decide +kernel)) ggX3_against_X0_copy
set_option maxRecDepth 20000 in
theorem ggX3_against_X0_times : GoodIn wsX3_against wsX0_times := goodIn_r _ [18, 10, 19, 28] (by decide +kernel) (by decide +kernel)
set_option maxRecDepth 20000 in
theorem gX3_against_X0_times : GoodIn wsX3_against (wsV RX3 30 RX0 yX0_times wsX0_times) := goodIn_app (goodIn_of _ (by decide +kernel)) ggX3_against_X0_times
set_option maxRecDepth 20000 in
theorem ggX3_against_X0_against : GoodIn wsX3_against wsX0_against := goodIn_r _ [23, 10, 19, 28] (by decide +kernel) (by decide +kernel)
set_option maxRecDepth 20000 in
theorem gX3_against_X0_against : GoodIn wsX3_against (wsV RX3 34 RX0 yX0_against wsX0_against) := goodIn_app (goodIn_of _ (by decide +kernel)) ggX3_against_X0_against
theorem dX3_against_0 : decode cX3_against 0 = .ok (.aload_n 0, 1) := by decide +kernel
theorem dX3_against_1 : decode cX3_against 1 = .ok (.getfield 16, 3) := by decide +kernel
theorem dX3_against_4 : decode cX3_against 4 = .ok (.aload_n 0, 1) := by decide +kernel
theorem dX3_against_5 : decode cX3_against 5 = .ok (.getfield 10, 3) := by decide +kernel
theorem dX3_against_8 : decode cX3_against 8 = .ok (.invokevirtual 22, 3) := by decide +kernel
theorem dX3_against_11 : decode cX3_against 11 = .ok (.aload_n 0, 1) := by decide +kernel
theorem dX3_against_12 : decode cX3_against 12 = .ok (.getfield 16, 3) := by decide +kernel
theorem dX3_against_15 : decode cX3_against 15 = .ok (.aload_n 1, 1) := by decide +kernel
theorem dX3_against_16 : decode cX3_against 16 = .ok (.getfield 26, 3) := by decide +kernel
theorem dX3_against_19 : decode cX3_against 19 = .ok (.invokevirtual 30, 3) := by decide +kernel
theorem dX3_against_22 : decode cX3_against 22 = .ok (.aload_n 0, 1) := by decide +kernel
theorem dX3_against_23 : decode cX3_against 23 = .ok (.getfield 19, 3) := by decide +kernel
theorem dX3_against_26 : decode cX3_against 26 = .ok (.aload_n 1, 1) := by decide +kernel
theorem dX3_against_27 : decode cX3_against 27 = .ok (.getfield 10, 3) := by decide +kernel
theorem dX3_against_30 : decode cX3_against 30 = .ok (.invokevirtual 22, 3) := by decide +kernel
theorem dX3_against_33 : decode cX3_against 33 = .ok (.aload_n 0, 1) := by decide +kernel
theorem dX3_against_34 : decode cX3_against 34 = .ok (.getfield 19, 3) := by decide +kernel
theorem dX3_against_37 : decode cX3_against 37 = .ok (.aload_n 0, 1) := by decide +kernel
theorem dX3_against_38 : decode cX3_against 38 = .ok (.getfield 26, 3) := by decide +kernel
theorem dX3_against_41 : decode cX3_against 41 = .ok (.invokevirtual 30, 3) := by decide +kernel
theorem dX3_against_44 : decode cX3_against 44 = .ok (.aload_n 0, 1) := by decide +kernel
theorem dX3_against_45 : decode cX3_against 45 = .ok (.getfield 16, 3) := by decide +kernel
theorem dX3_against_48 : decode cX3_against 48 = .ok (.aload_n 0, 1) := by decide +kernel
theorem dX3_against_49 : decode cX3_against 49 = .ok (.getfield 19, 3) := by decide +kernel
theorem dX3_against_52 : decode cX3_against 52 = .ok (.invokevirtual 34, 3) := by decide +kernel
theorem dX3_against_55 : decode cX3_against 55 = .ok (.ireturn, 1) := by decide +kernel
end
section
theorem cmpI_ge {x y : Nat} (h : y ≤ x) (hc : cmpI x y < 0) : False := by
  unfold cmpI at hc
  rw [if_neg (by omega)] at hc
  split at hc <;> exact absurd hc (by decide)
theorem cmpI_l {x y : Nat} (h : x < y) : cmpI x y < 0 := by
  unfold cmpI
  rw [if_pos h]
  decide
theorem cmpI_0 {x y : Nat} : cmpI x y = 0 ↔ x = y := by
  unfold cmpI
  by_cases h1 : x < y
  · rw [if_pos h1]
    exact ⟨fun h => absurd h (by decide), fun h => by omega⟩
  · rw [if_neg h1]
    by_cases h2 : x = y
    · rw [if_pos h2]
      exact ⟨fun _ => h2, fun _ => rfl⟩
    · rw [if_neg h2]
      exact ⟨fun h => absurd h (by decide), fun h => absurd h h2⟩
def ShareAt (g : WG) (H : Heap) (a r k : Nat) : Prop := obj g H a 3 [.ref (a + 1), .int (nI k), .ref (a + 3), .ref (a + 5)] ∧ NatAt g H (a + 1) r ∧ (∃ u, NatAt g H (a + 3) u) ∧ ∃ v, NatAt g H (a + 5) v
theorem NatAt.reg {g : WG} {H H1 : Heap} {a x : Nat} (h : NatAt g H a x) (hk : ∀ q, q < H.size → a ≤ q → q < a + 2 → H1[q]? = H[q]?) : NatAt g H1 a x := h.kept (hk _ h.1.lt (Nat.le_refl _) (by show a < _; omega)) (hk _ h.2.1.lt (by omega) (by omega))
theorem ShareAt.kept {g : WG} {H H1 : Heap} {a r k : Nat} (h : ShareAt g H a r k) (hk : ∀ q, q < H.size → a ≤ q → q < a + 7 → H1[q]? = H[q]?) : ShareAt g H1 a r k := by
  obtain ⟨h1, h2, ⟨u, h3⟩, ⟨v, h4⟩⟩ := h
  exact ⟨h1.kept (hk _ h1.lt (Nat.le_refl _) (by show a < _; omega)), h2.reg (fun q a1 a2 a3 => hk q a1 (by omega) (by omega)), ⟨u, h3.reg (fun q a1 a2 a3 => hk q a1 (by omega) (by omega))⟩, ⟨v, h4.reg (fun q a1 a2 a3 => hk q a1 (by omega) (by omega))⟩⟩
end
section
set_option maxHeartbeats 400000 in
set_option maxRecDepth 100000 in
theorem c_X3_init (l : Launch) (g : WG) (H0 : Heap) (a : Nat) (hO : obj g H0 a 3 [.null, .int 0, .null, .null]) (hsz : H0.size = a + 1) : Ctr l (KK g) yX3_init wsX3_init { frames := 2, cells := 6, slots := 15, locals := 32 } [.ref a] H0 eV (fun _ H => ShareAt g H a 0 0 ∧ H.size = a + 7) (fun q => q = a ∨ a + 1 ≤ q) := by
  refine xr_enter (cc := cX3_init) (maxL := 1) (ret := none) (by decide) rfl (Nat.le_of_ble_eq_true rfl) ?_
  intro pgm env s mid below meth cde hx hb hr hml hts hown hlocks hnm hH hK ls hl
  subst hH
  have hl : lv_has ls 1 [(0, .ref a)] := hl
  have hS : va_S (fun q => q = a ∨ a + 1 ≤ q) s.heap s.heap [] := va_S.rf
  refine lv_aload_n hx hb dX3_init_0 rfl (lv_at hl 0 rfl) ?_
  refine W.objInit hx hb hown (hts (.methodLink RX3 1 objectInit) (by decide +kernel)) (hts (.instanceMethod objectInit) (by decide +kernel)) (hts _ (List.mem_cons_of_mem _ (List.mem_append_left _ (List.mem_append_left _ (List.mem_of_getElem? (i := 2) rfl))))) rfl (by rw [hml]; exact hl.1) rfl dX3_init_1 (Nat.le_of_ble_eq_true rfl) (Nat.le_of_ble_eq_true rfl) ?_
  refine W.eq (g2 := F0 mid 4 ls []) rfl ?_
  refine lv_aload_n hx hb dX3_init_4 rfl (lv_at hl 0 rfl) ?_
  refine xr_new (ci := 0) (fs := [.null]) (C := RX0) (T := TX0) (N := 1) hx hb hts (by decide +kernel) tyX0 tyX0_ok hown (hts (.classLink RX3 7 RX0) (by decide +kernel)) (hts (.instantiable RX0 1) (by decide +kernel)) (hts (.initialized RX0) (by decide +kernel)) hK.1 hS rfl (fun j hj => by rcases (show j = 0 by omega) with rfl <;> rfl) (Nat.le_of_ble_eq_true rfl) (Nat.le_of_ble_eq_true rfl) dX3_init_5 (fun H hz hkp hQ hS => ?_)
  refine W.widen (k := 1) (n := 1) (Nat.le_of_ble_eq_true rfl) (Nat.le_of_ble_eq_true rfl) ?_
  rw [hsz] at hQ hz hkp ⊢
  replace hO := hO.kept (hkp _ (by omega))
  have hsz := hz
  refine lv_dup hx hb dX3_init_8 rfl ?_
  refine xr_INv (rest := [.ref (a + 1), .ref a]) ⟨hx, hb, hml, hown, hts⟩ (KK_ok g) hK (c_X0_init l g H (a + 1) hQ hsz) ⟨va_cnB 0 hts gX3_init_X0_init_n9 rfl rfl rfl (hK.2.2.1 (RX3, 9, yX0_init) (by decide +kernel)) (hts (.initialized RX0) (by decide +kernel)) (by decide +kernel) ⟨Nat.le_of_ble_eq_true rfl, Nat.le_of_ble_eq_true rfl⟩, rfl, (hts (.instanceMethod yX0_init) (by decide +kernel))⟩ rfl hl.1 rfl (Nat.le_of_ble_eq_true rfl) dX3_init_9 ⟨Nat.le_of_ble_eq_true rfl, Nat.le_of_ble_eq_true rfl⟩ hS (fun q h => by have h : q = a + 1 ∨ a + 1 + 1 ≤ q := h; show q = a ∨ a + 1 ≤ q; omega) (fun _ H locs hq hz hkp hS => ?_)
  refine W.widen (k := 2) (n := 5) (Nat.le_of_ble_eq_true rfl) (Nat.le_of_ble_eq_true rfl) ?_
  replace hkp := fun (q : Nat) h1 (h2 : ¬ (q = a + 1 ∨ a + 1 + 1 ≤ q)) => hkp q h1 h2
  replace hO := hO.kept (hkp _ hO.lt (by omega))
  obtain ⟨hN1, hsz⟩ := hq
  refine xr_putF (ci := 3) (v := .ref (a + 1)) (ty := .object "SharesDesk$Natural") (C := RX3) (T := TX3) (N := 4) hx hb hts (by decide +kernel) tyX3 tyX3_ok nmX3 hown hK.1 hO hS (Or.inl rfl) rfl 0 (by decide) (hts (.fieldLink RX3 10 "SharesDesk$Share" "rest" "LSharesDesk$Natural;") (by decide +kernel)) rfl hnm rfl (by decide +kernel) rfl rfl (Nat.le_of_ble_eq_true rfl) dX3_init_12 (fun H locs hz hkp hO hS => ?_)
  replace hN1 := hN1.kept (hkp _ (by omega)) (hkp _ (by omega))
  have hsz := hz.trans hsz
  refine lv_aload_n hx hb dX3_init_15 rfl (lv_at hl 0 rfl) ?_
  refine xr_new (ci := 0) (fs := [.null]) (C := RX0) (T := TX0) (N := 1) hx hb hts (by decide +kernel) tyX0 tyX0_ok hown (hts (.classLink RX3 7 RX0) (by decide +kernel)) (hts (.instantiable RX0 1) (by decide +kernel)) (hts (.initialized RX0) (by decide +kernel)) hK.1 hS rfl (fun j hj => by rcases (show j = 0 by omega) with rfl <;> rfl) (Nat.le_of_ble_eq_true rfl) (Nat.le_of_ble_eq_true rfl) dX3_init_16 (fun H hz hkp hQ hS => ?_)
  refine W.widen (k := 3) (n := 6) (Nat.le_of_ble_eq_true rfl) (Nat.le_of_ble_eq_true rfl) ?_
  rw [hsz] at hQ hz hkp ⊢
  replace hN1 := hN1.kept (hkp _ (by omega)) (hkp _ (by omega))
  replace hO := hO.kept (hkp _ (by omega))
  have hsz := hz
  refine lv_dup hx hb dX3_init_19 rfl ?_
  refine xr_INv (rest := [.ref (a + 3), .ref a]) ⟨hx, hb, hml, hown, hts⟩ (KK_ok g) hK (c_X0_init l g H (a + 3) hQ hsz) ⟨va_cnB 0 hts gX3_init_X0_init_n9 rfl rfl rfl (hK.2.2.1 (RX3, 9, yX0_init) (by decide +kernel)) (hts (.initialized RX0) (by decide +kernel)) (by decide +kernel) ⟨Nat.le_of_ble_eq_true rfl, Nat.le_of_ble_eq_true rfl⟩, rfl, (hts (.instanceMethod yX0_init) (by decide +kernel))⟩ rfl hl.1 rfl (Nat.le_of_ble_eq_true rfl) dX3_init_20 ⟨Nat.le_of_ble_eq_true rfl, Nat.le_of_ble_eq_true rfl⟩ hS (fun q h => by have h : q = a + 3 ∨ a + 3 + 1 ≤ q := h; show q = a ∨ a + 1 ≤ q; omega) (fun _ H locs hq hz hkp hS => ?_)
  refine W.widen (k := 4) (n := 10) (Nat.le_of_ble_eq_true rfl) (Nat.le_of_ble_eq_true rfl) ?_
  replace hkp := fun (q : Nat) h1 (h2 : ¬ (q = a + 3 ∨ a + 3 + 1 ≤ q)) => hkp q h1 h2
  replace hN1 := hN1.kept (hkp _ hN1.1.lt (by omega)) (hkp _ hN1.2.1.lt (by omega))
  replace hO := hO.kept (hkp _ hO.lt (by omega))
  obtain ⟨hN2, hsz⟩ := hq
  refine xr_putF (ci := 3) (v := .ref (a + 3)) (ty := .object "SharesDesk$Natural") (C := RX3) (T := TX3) (N := 4) hx hb hts (by decide +kernel) tyX3 tyX3_ok nmX3 hown hK.1 hO hS (Or.inl rfl) rfl 2 (by decide) (hts (.fieldLink RX3 16 "SharesDesk$Share" "left" "LSharesDesk$Natural;") (by decide +kernel)) rfl hnm rfl (by decide +kernel) rfl rfl (Nat.le_of_ble_eq_true rfl) dX3_init_23 (fun H locs hz hkp hO hS => ?_)
  replace hN1 := hN1.kept (hkp _ (by omega)) (hkp _ (by omega))
  replace hN2 := hN2.kept (hkp _ (by omega)) (hkp _ (by omega))
  have hsz := hz.trans hsz
  refine lv_aload_n hx hb dX3_init_26 rfl (lv_at hl 0 rfl) ?_
  refine xr_new (ci := 0) (fs := [.null]) (C := RX0) (T := TX0) (N := 1) hx hb hts (by decide +kernel) tyX0 tyX0_ok hown (hts (.classLink RX3 7 RX0) (by decide +kernel)) (hts (.instantiable RX0 1) (by decide +kernel)) (hts (.initialized RX0) (by decide +kernel)) hK.1 hS rfl (fun j hj => by rcases (show j = 0 by omega) with rfl <;> rfl) (Nat.le_of_ble_eq_true rfl) (Nat.le_of_ble_eq_true rfl) dX3_init_27 (fun H hz hkp hQ hS => ?_)
  refine W.widen (k := 5) (n := 11) (Nat.le_of_ble_eq_true rfl) (Nat.le_of_ble_eq_true rfl) ?_
  rw [hsz] at hQ hz hkp ⊢
  replace hN1 := hN1.kept (hkp _ (by omega)) (hkp _ (by omega))
  replace hN2 := hN2.kept (hkp _ (by omega)) (hkp _ (by omega))
  replace hO := hO.kept (hkp _ (by omega))
  have hsz := hz
  refine lv_dup hx hb dX3_init_30 rfl ?_
  refine xr_INv (rest := [.ref (a + 5), .ref a]) ⟨hx, hb, hml, hown, hts⟩ (KK_ok g) hK (c_X0_init l g H (a + 5) hQ hsz) ⟨va_cnB 0 hts gX3_init_X0_init_n9 rfl rfl rfl (hK.2.2.1 (RX3, 9, yX0_init) (by decide +kernel)) (hts (.initialized RX0) (by decide +kernel)) (by decide +kernel) ⟨Nat.le_of_ble_eq_true rfl, Nat.le_of_ble_eq_true rfl⟩, rfl, (hts (.instanceMethod yX0_init) (by decide +kernel))⟩ rfl hl.1 rfl (Nat.le_of_ble_eq_true rfl) dX3_init_31 ⟨Nat.le_of_ble_eq_true rfl, Nat.le_of_ble_eq_true rfl⟩ hS (fun q h => by have h : q = a + 5 ∨ a + 5 + 1 ≤ q := h; show q = a ∨ a + 1 ≤ q; omega) (fun _ H locs hq hz hkp hS => ?_)
  refine W.widen (k := 6) (n := 15) (Nat.le_of_ble_eq_true rfl) (Nat.le_of_ble_eq_true rfl) ?_
  replace hkp := fun (q : Nat) h1 (h2 : ¬ (q = a + 5 ∨ a + 5 + 1 ≤ q)) => hkp q h1 h2
  replace hN1 := hN1.kept (hkp _ hN1.1.lt (by omega)) (hkp _ hN1.2.1.lt (by omega))
  replace hN2 := hN2.kept (hkp _ hN2.1.lt (by omega)) (hkp _ hN2.2.1.lt (by omega))
  replace hO := hO.kept (hkp _ hO.lt (by omega))
  obtain ⟨hN3, hsz⟩ := hq
  refine xr_putF (ci := 3) (v := .ref (a + 5)) (ty := .object "SharesDesk$Natural") (C := RX3) (T := TX3) (N := 4) hx hb hts (by decide +kernel) tyX3 tyX3_ok nmX3 hown hK.1 hO hS (Or.inl rfl) rfl 3 (by decide) (hts (.fieldLink RX3 19 "SharesDesk$Share" "right" "LSharesDesk$Natural;") (by decide +kernel)) rfl hnm rfl (by decide +kernel) rfl rfl (Nat.le_of_ble_eq_true rfl) dX3_init_34 (fun H locs hz hkp hO hS => ?_)
  replace hN1 := hN1.kept (hkp _ (by omega)) (hkp _ (by omega))
  replace hN2 := hN2.kept (hkp _ (by omega)) (hkp _ (by omega))
  replace hN3 := hN3.kept (hkp _ (by omega)) (hkp _ (by omega))
  have hsz := hz.trans hsz
  exact xr_vret hx hb hr hlocks hS ⟨⟨hO, hN1, ⟨0, hN2⟩, ⟨0, hN3⟩⟩, hsz⟩ dX3_init_37
set_option maxHeartbeats 400000 in
set_option maxRecDepth 100000 in
theorem c_X3_isWithin (l : Launch) (g : WG) (H0 : Heap) (a b r k x : Nat) (hA : ShareAt g H0 a r k) (hB : NatAt g H0 b x) (hab : b + 1 < a ∨ a + 7 ≤ b) (hk : k < 2 ^ 31) (hxk : x * k < 2 ^ 128) : Ctr l (KK g) yX3_isWithin wsX3_isWithin { frames := 2, cells := 0, slots := 0, locals := 61 } [.ref a, .ref b] H0 eI (fun z H => z = b2i (decide (r ≤ x * k)) ∧ ShareAt g H a r k) (fun q => q = a + 4) := by
  refine xr_enter (cc := cX3_isWithin) (maxL := 2) (ret := (some .boolean)) (by decide) rfl (Nat.le_of_ble_eq_true rfl) ?_
  intro pgm env s mid below meth cde hx hb hr hml hts hown hlocks hnm hH hK ls hl
  subst hH
  have hl : lv_has ls 2 [(0, .ref a), (1, .ref b)] := hl
  have hS : va_S (fun q => q = a + 4) s.heap s.heap [] := va_S.rf
  obtain ⟨hO, hN1, ⟨u2, hN2⟩, ⟨u3, hN3⟩⟩ := id hA
  refine lv_aload_n hx hb dX3_isWithin_0 rfl (lv_at hl 0 rfl) ?_
  refine va_get (D := g.1) (ci := 3) (v := .ref (a + 3)) (C := RX3) (T := TX3) (N := 4) hx hb hts (by decide +kernel) hown hK.1 (xr_one hO) 0 rfl rfl 2 (by decide) (hts (.fieldLink RX3 16 "SharesDesk$Share" "left" "LSharesDesk$Natural;") (by decide +kernel)) (fun _ h9 => h9) rfl dX3_isWithin_1 ?_
  refine lv_aload_n hx hb dX3_isWithin_4 rfl (lv_at hl 1 rfl) ?_
  refine xr_Vv (rest := []) ⟨hx, hb, hml, hown, hts⟩ (KK_ok g) hK (c_X0_copy l g s.heap (a + 3) b u2 x hN2 hB (by omega)) (cwV 1 hts gX3_isWithin_X0_copy rfl rfl rfl (by decide +kernel) ⟨Nat.le_of_ble_eq_true rfl, Nat.le_of_ble_eq_true rfl⟩) (xr_rec hK hN2.1 rfl) rfl hl.1 rfl (Nat.le_of_ble_eq_true rfl) dX3_isWithin_5 ⟨Nat.le_of_ble_eq_true rfl, Nat.le_of_ble_eq_true rfl⟩ hS (fun q h => h) (fun _ H locs hq hz hkp hS => ?_)
  replace hkp := fun (q : Nat) h1 (h2 : ¬ (q = a + 3 + 1)) => hkp q h1 h2
  replace hO := hO.kept (hkp _ hO.lt (by omega))
  replace hN1 := hN1.kept (hkp _ hN1.1.lt (by omega)) (hkp _ hN1.2.1.lt (by omega))
  replace hN3 := hN3.kept (hkp _ hN3.1.lt (by omega)) (hkp _ hN3.2.1.lt (by omega))
  replace hB := hB.kept (hkp _ hB.1.lt (by omega)) (hkp _ hB.2.1.lt (by omega))
  have hN2 : NatAt g H (a + 3) x := hq
  refine lv_aload_n hx hb dX3_isWithin_8 rfl (lv_at hl 0 rfl) ?_
  refine va_get (D := g.1) (ci := 3) (v := .ref (a + 3)) (C := RX3) (T := TX3) (N := 4) hx hb hts (by decide +kernel) hown hK.1 (xr_one hO) 0 rfl rfl 2 (by decide) (hts (.fieldLink RX3 16 "SharesDesk$Share" "left" "LSharesDesk$Natural;") (by decide +kernel)) (fun _ h9 => h9) rfl dX3_isWithin_9 ?_
  refine lv_aload_n hx hb dX3_isWithin_12 rfl (lv_at hl 0 rfl) ?_
  refine va_get (D := g.1) (ci := 3) (v := .int (nI k)) (C := RX3) (T := TX3) (N := 4) hx hb hts (by decide +kernel) hown hK.1 (xr_one hO) 0 rfl rfl 1 (by decide) (hts (.fieldLink RX3 26 "SharesDesk$Share" "payers" "I") (by decide +kernel)) (fun _ h9 => h9) rfl dX3_isWithin_13 ?_
  refine xr_Vv (rest := []) ⟨hx, hb, hml, hown, hts⟩ (KK_ok g) hK (c_X0_times l g H (a + 3) x k hN2 hk hxk) (cwV 1 hts gX3_isWithin_X0_times rfl rfl rfl (by decide +kernel) ⟨Nat.le_of_ble_eq_true rfl, Nat.le_of_ble_eq_true rfl⟩) (xr_rec hK hN2.1 rfl) rfl hl.1 rfl (Nat.le_of_ble_eq_true rfl) dX3_isWithin_16 ⟨Nat.le_of_ble_eq_true rfl, Nat.le_of_ble_eq_true rfl⟩ hS (fun q h => h) (fun _ H locs hq hz hkp hS => ?_)
  replace hkp := fun (q : Nat) h1 (h2 : ¬ (q = a + 3 + 1)) => hkp q h1 h2
  replace hO := hO.kept (hkp _ hO.lt (by omega))
  replace hN1 := hN1.kept (hkp _ hN1.1.lt (by omega)) (hkp _ hN1.2.1.lt (by omega))
  replace hN3 := hN3.kept (hkp _ hN3.1.lt (by omega)) (hkp _ hN3.2.1.lt (by omega))
  replace hB := hB.kept (hkp _ hB.1.lt (by omega)) (hkp _ hB.2.1.lt (by omega))
  have hN2 : NatAt g H (a + 3) (x * k) := hq
  refine lv_aload_n hx hb dX3_isWithin_19 rfl (lv_at hl 0 rfl) ?_
  refine va_get (D := g.1) (ci := 3) (v := .ref (a + 3)) (C := RX3) (T := TX3) (N := 4) hx hb hts (by decide +kernel) hown hK.1 (xr_one hO) 0 rfl rfl 2 (by decide) (hts (.fieldLink RX3 16 "SharesDesk$Share" "left" "LSharesDesk$Natural;") (by decide +kernel)) (fun _ h9 => h9) rfl dX3_isWithin_20 ?_
  refine lv_aload_n hx hb dX3_isWithin_23 rfl (lv_at hl 0 rfl) ?_
  refine va_get (D := g.1) (ci := 3) (v := .ref (a + 1)) (C := RX3) (T := TX3) (N := 4) hx hb hts (by decide +kernel) hown hK.1 (xr_one hO) 0 rfl rfl 0 (by decide) (hts (.fieldLink RX3 10 "SharesDesk$Share" "rest" "LSharesDesk$Natural;") (by decide +kernel)) (fun _ h9 => h9) rfl dX3_isWithin_24 ?_
  refine xr_Vi (rest := []) ⟨hx, hb, hml, hown, hts⟩ (KK_ok g) hK (c_X0_against l g H (a + 3) (a + 1) (x * k) r hN2 hN1) (cwV 1 hts gX3_isWithin_X0_against rfl rfl rfl (by decide +kernel) ⟨Nat.le_of_ble_eq_true rfl, Nat.le_of_ble_eq_true rfl⟩) (xr_rec hK hN2.1 rfl) rfl hl.1 rfl (Nat.le_of_ble_eq_true rfl) dX3_isWithin_27 ⟨Nat.le_of_ble_eq_true rfl, Nat.le_of_ble_eq_true rfl⟩ hS (fun q h => h.elim) (fun r H locs hq hz hkp hS9 => ?_)
  obtain ⟨rfl, rfl⟩ := hq
  have hS := hS9
  refine lv_if_lt (tgt := 37) hx hb dX3_isWithin_30 (by decide) (fun hc => ?_) (fun hc => ?_)
  · have h9 : ¬ r ≤ x * k := fun q => cmpI_ge q hc
    refine lv_iconst (v := 0) hx hb dX3_isWithin_37 (by decide) ?_
    exact xr_zret hx hb hr rfl hlocks hS ⟨by rw [decide_eq_false h9]; rfl, hO, hN1, ⟨_, hN2⟩, ⟨_, hN3⟩⟩ dX3_isWithin_38
  · have h9 : r ≤ x * k := Nat.le_of_not_lt fun q => hc (cmpI_l q)
    refine lv_iconst (v := 1) hx hb dX3_isWithin_33 (by decide) ?_
    refine lv_goto (tgt := 38) hx hb dX3_isWithin_34 (by decide) ?_
    exact xr_zret hx hb hr rfl hlocks hS ⟨by rw [decide_eq_true h9]; rfl, hO, hN1, ⟨_, hN2⟩, ⟨_, hN3⟩⟩ dX3_isWithin_38
set_option maxHeartbeats 400000 in
set_option maxRecDepth 100000 in
theorem c_X3_against (l : Launch) (g : WG) (H0 : Heap) (a b r k r2 k2 : Nat) (hA : ShareAt g H0 a r k) (hB : ShareAt g H0 b r2 k2) (hab : b + 7 ≤ a ∨ a + 7 ≤ b) (hk : k < 2 ^ 31) (hk2 : k2 < 2 ^ 31) (h1 : r * k2 < 2 ^ 128) (h2 : r2 * k < 2 ^ 128) : Ctr l (KK g) yX3_against wsX3_against { frames := 2, cells := 0, slots := 0, locals := 61 } [.ref a, .ref b] H0 eI (fun z H => z = cmpI (r * k2) (r2 * k) ∧ ShareAt g H a r k) (fun q => q = a + 4 ∨ q = a + 6) := by
  refine xr_enter (cc := cX3_against) (maxL := 2) (ret := (some .int)) (by decide) rfl (Nat.le_of_ble_eq_true rfl) ?_
  intro pgm env s mid below meth cde hx hb hr hml hts hown hlocks hnm hH hK ls hl
  subst hH
  have hl : lv_has ls 2 [(0, .ref a), (1, .ref b)] := hl
  have hS : va_S (fun q => q = a + 4 ∨ q = a + 6) s.heap s.heap [] := va_S.rf
  obtain ⟨hO, hN1, ⟨u2, hN2⟩, ⟨u3, hN3⟩⟩ := id hA
  obtain ⟨hP, hM1, -, -⟩ := id hB
  refine lv_aload_n hx hb dX3_against_0 rfl (lv_at hl 0 rfl) ?_
  refine va_get (D := g.1) (ci := 3) (v := .ref (a + 3)) (C := RX3) (T := TX3) (N := 4) hx hb hts (by decide +kernel) hown hK.1 (xr_one hO) 0 rfl rfl 2 (by decide) (hts (.fieldLink RX3 16 "SharesDesk$Share" "left" "LSharesDesk$Natural;") (by decide +kernel)) (fun _ h9 => h9) rfl dX3_against_1 ?_
  refine lv_aload_n hx hb dX3_against_4 rfl (lv_at hl 0 rfl) ?_
  refine va_get (D := g.1) (ci := 3) (v := .ref (a + 1)) (C := RX3) (T := TX3) (N := 4) hx hb hts (by decide +kernel) hown hK.1 (xr_one hO) 0 rfl rfl 0 (by decide) (hts (.fieldLink RX3 10 "SharesDesk$Share" "rest" "LSharesDesk$Natural;") (by decide +kernel)) (fun _ h9 => h9) rfl dX3_against_5 ?_
  refine xr_Vv (rest := []) ⟨hx, hb, hml, hown, hts⟩ (KK_ok g) hK (c_X0_copy l g s.heap (a + 3) (a + 1) u2 r hN2 hN1 (by omega)) (cwV 1 hts gX3_against_X0_copy rfl rfl rfl (by decide +kernel) ⟨Nat.le_of_ble_eq_true rfl, Nat.le_of_ble_eq_true rfl⟩) (xr_rec hK hN2.1 rfl) rfl hl.1 rfl (Nat.le_of_ble_eq_true rfl) dX3_against_8 ⟨Nat.le_of_ble_eq_true rfl, Nat.le_of_ble_eq_true rfl⟩ hS (fun q h => by have h : q = a + 3 + 1 := h; show q = a + 4 ∨ q = a + 6; omega) (fun _ H locs hq hz hkp hS => ?_)
  replace hkp := fun (q : Nat) h1 (h2 : ¬ (q = a + 3 + 1)) => hkp q h1 h2
  replace hO := hO.kept (hkp _ hO.lt (by omega))
  replace hP := hP.kept (hkp _ hP.lt (by omega))
  replace hN1 := hN1.kept (hkp _ hN1.1.lt (by omega)) (hkp _ hN1.2.1.lt (by omega))
  replace hN3 := hN3.kept (hkp _ hN3.1.lt (by omega)) (hkp _ hN3.2.1.lt (by omega))
  replace hM1 := hM1.kept (hkp _ hM1.1.lt (by omega)) (hkp _ hM1.2.1.lt (by omega))
  have hN2 : NatAt g H (a + 3) r := hq
  refine lv_aload_n hx hb dX3_against_11 rfl (lv_at hl 0 rfl) ?_
  refine va_get (D := g.1) (ci := 3) (v := .ref (a + 3)) (C := RX3) (T := TX3) (N := 4) hx hb hts (by decide +kernel) hown hK.1 (xr_one hO) 0 rfl rfl 2 (by decide) (hts (.fieldLink RX3 16 "SharesDesk$Share" "left" "LSharesDesk$Natural;") (by decide +kernel)) (fun _ h9 => h9) rfl dX3_against_12 ?_
  refine lv_aload_n hx hb dX3_against_15 rfl (lv_at hl 1 rfl) ?_
  refine va_get (D := g.1) (ci := 3) (v := .int (nI k2)) (C := RX3) (T := TX3) (N := 4) hx hb hts (by decide +kernel) hown hK.1 (xr_one hP) 0 rfl rfl 1 (by decide) (hts (.fieldLink RX3 26 "SharesDesk$Share" "payers" "I") (by decide +kernel)) (fun _ h9 => h9) rfl dX3_against_16 ?_
  refine xr_Vv (rest := []) ⟨hx, hb, hml, hown, hts⟩ (KK_ok g) hK (c_X0_times l g H (a + 3) r k2 hN2 hk2 h1) (cwV 1 hts gX3_against_X0_times rfl rfl rfl (by decide +kernel) ⟨Nat.le_of_ble_eq_true rfl, Nat.le_of_ble_eq_true rfl⟩) (xr_rec hK hN2.1 rfl) rfl hl.1 rfl (Nat.le_of_ble_eq_true rfl) dX3_against_19 ⟨Nat.le_of_ble_eq_true rfl, Nat.le_of_ble_eq_true rfl⟩ hS (fun q h => by have h : q = a + 3 + 1 := h; show q = a + 4 ∨ q = a + 6; omega) (fun _ H locs hq hz hkp hS => ?_)
  replace hkp := fun (q : Nat) h1 (h2 : ¬ (q = a + 3 + 1)) => hkp q h1 h2
  replace hO := hO.kept (hkp _ hO.lt (by omega))
  replace hP := hP.kept (hkp _ hP.lt (by omega))
  replace hN1 := hN1.kept (hkp _ hN1.1.lt (by omega)) (hkp _ hN1.2.1.lt (by omega))
  replace hN3 := hN3.kept (hkp _ hN3.1.lt (by omega)) (hkp _ hN3.2.1.lt (by omega))
  replace hM1 := hM1.kept (hkp _ hM1.1.lt (by omega)) (hkp _ hM1.2.1.lt (by omega))
  have hN2 : NatAt g H (a + 3) (r * k2) := hq
  refine lv_aload_n hx hb dX3_against_22 rfl (lv_at hl 0 rfl) ?_
  refine va_get (D := g.1) (ci := 3) (v := .ref (a + 5)) (C := RX3) (T := TX3) (N := 4) hx hb hts (by decide +kernel) hown hK.1 (xr_one hO) 0 rfl rfl 3 (by decide) (hts (.fieldLink RX3 19 "SharesDesk$Share" "right" "LSharesDesk$Natural;") (by decide +kernel)) (fun _ h9 => h9) rfl dX3_against_23 ?_
  refine lv_aload_n hx hb dX3_against_26 rfl (lv_at hl 1 rfl) ?_
  refine va_get (D := g.1) (ci := 3) (v := .ref (b + 1)) (C := RX3) (T := TX3) (N := 4) hx hb hts (by decide +kernel) hown hK.1 (xr_one hP) 0 rfl rfl 0 (by decide) (hts (.fieldLink RX3 10 "SharesDesk$Share" "rest" "LSharesDesk$Natural;") (by decide +kernel)) (fun _ h9 => h9) rfl dX3_against_27 ?_
  refine xr_Vv (rest := []) ⟨hx, hb, hml, hown, hts⟩ (KK_ok g) hK (c_X0_copy l g H (a + 5) (b + 1) u3 r2 hN3 hM1 (by omega)) (cwV 1 hts gX3_against_X0_copy rfl rfl rfl (by decide +kernel) ⟨Nat.le_of_ble_eq_true rfl, Nat.le_of_ble_eq_true rfl⟩) (xr_rec hK hN3.1 rfl) rfl hl.1 rfl (Nat.le_of_ble_eq_true rfl) dX3_against_30 ⟨Nat.le_of_ble_eq_true rfl, Nat.le_of_ble_eq_true rfl⟩ hS (fun q h => by have h : q = a + 5 + 1 := h; show q = a + 4 ∨ q = a + 6; omega) (fun _ H locs hq hz hkp hS => ?_)
  replace hkp := fun (q : Nat) h1 (h2 : ¬ (q = a + 5 + 1)) => hkp q h1 h2
  replace hO := hO.kept (hkp _ hO.lt (by omega))
  replace hP := hP.kept (hkp _ hP.lt (by omega))
  replace hN1 := hN1.kept (hkp _ hN1.1.lt (by omega)) (hkp _ hN1.2.1.lt (by omega))
  replace hM1 := hM1.kept (hkp _ hM1.1.lt (by omega)) (hkp _ hM1.2.1.lt (by omega))
  replace hN2 := hN2.kept (hkp _ hN2.1.lt (by omega)) (hkp _ hN2.2.1.lt (by omega))
  have hN3 : NatAt g H (a + 5) r2 := hq
  refine lv_aload_n hx hb dX3_against_33 rfl (lv_at hl 0 rfl) ?_
  refine va_get (D := g.1) (ci := 3) (v := .ref (a + 5)) (C := RX3) (T := TX3) (N := 4) hx hb hts (by decide +kernel) hown hK.1 (xr_one hO) 0 rfl rfl 3 (by decide) (hts (.fieldLink RX3 19 "SharesDesk$Share" "right" "LSharesDesk$Natural;") (by decide +kernel)) (fun _ h9 => h9) rfl dX3_against_34 ?_
  refine lv_aload_n hx hb dX3_against_37 rfl (lv_at hl 0 rfl) ?_
  refine va_get (D := g.1) (ci := 3) (v := .int (nI k)) (C := RX3) (T := TX3) (N := 4) hx hb hts (by decide +kernel) hown hK.1 (xr_one hO) 0 rfl rfl 1 (by decide) (hts (.fieldLink RX3 26 "SharesDesk$Share" "payers" "I") (by decide +kernel)) (fun _ h9 => h9) rfl dX3_against_38 ?_
  refine xr_Vv (rest := []) ⟨hx, hb, hml, hown, hts⟩ (KK_ok g) hK (c_X0_times l g H (a + 5) r2 k hN3 hk h2) (cwV 1 hts gX3_against_X0_times rfl rfl rfl (by decide +kernel) ⟨Nat.le_of_ble_eq_true rfl, Nat.le_of_ble_eq_true rfl⟩) (xr_rec hK hN3.1 rfl) rfl hl.1 rfl (Nat.le_of_ble_eq_true rfl) dX3_against_41 ⟨Nat.le_of_ble_eq_true rfl, Nat.le_of_ble_eq_true rfl⟩ hS (fun q h => by have h : q = a + 5 + 1 := h; show q = a + 4 ∨ q = a + 6; omega) (fun _ H locs hq hz hkp hS => ?_)
  replace hkp := fun (q : Nat) h1 (h2 : ¬ (q = a + 5 + 1)) => hkp q h1 h2
  replace hO := hO.kept (hkp _ hO.lt (by omega))
  replace hP := hP.kept (hkp _ hP.lt (by omega))
  replace hN1 := hN1.kept (hkp _ hN1.1.lt (by omega)) (hkp _ hN1.2.1.lt (by omega))
  replace hM1 := hM1.kept (hkp _ hM1.1.lt (by omega)) (hkp _ hM1.2.1.lt (by omega))
  replace hN2 := hN2.kept (hkp _ hN2.1.lt (by omega)) (hkp _ hN2.2.1.lt (by omega))
  have hN3 : NatAt g H (a + 5) (r2 * k) := hq
  refine lv_aload_n hx hb dX3_against_44 rfl (lv_at hl 0 rfl) ?_
  refine va_get (D := g.1) (ci := 3) (v := .ref (a + 3)) (C := RX3) (T := TX3) (N := 4) hx hb hts (by decide +kernel) hown hK.1 (xr_one hO) 0 rfl rfl 2 (by decide) (hts (.fieldLink RX3 16 "SharesDesk$Share" "left" "LSharesDesk$Natural;") (by decide +kernel)) (fun _ h9 => h9) rfl dX3_against_45 ?_
  refine lv_aload_n hx hb dX3_against_48 rfl (lv_at hl 0 rfl) ?_
  refine va_get (D := g.1) (ci := 3) (v := .ref (a + 5)) (C := RX3) (T := TX3) (N := 4) hx hb hts (by decide +kernel) hown hK.1 (xr_one hO) 0 rfl rfl 3 (by decide) (hts (.fieldLink RX3 19 "SharesDesk$Share" "right" "LSharesDesk$Natural;") (by decide +kernel)) (fun _ h9 => h9) rfl dX3_against_49 ?_
  refine xr_Vi (rest := []) ⟨hx, hb, hml, hown, hts⟩ (KK_ok g) hK (c_X0_against l g H (a + 3) (a + 5) (r * k2) (r2 * k) hN2 hN3) (cwV 1 hts gX3_against_X0_against rfl rfl rfl (by decide +kernel) ⟨Nat.le_of_ble_eq_true rfl, Nat.le_of_ble_eq_true rfl⟩) (xr_rec hK hN2.1 rfl) rfl hl.1 rfl (Nat.le_of_ble_eq_true rfl) dX3_against_52 ⟨Nat.le_of_ble_eq_true rfl, Nat.le_of_ble_eq_true rfl⟩ hS (fun q h => h.elim) (fun r H locs hq hz hkp hS9 => ?_)
  obtain ⟨rfl, rfl⟩ := hq
  have hS := hS9
  exact xr_iret hx hb hr hlocks hS ⟨rfl, hO, hN1, ⟨_, hN2⟩, ⟨_, hN3⟩⟩ dX3_against_55
end
section
/-! bits, counted as the JDK does -/
def cnt (x : Nat) : Nat → Nat
  | 0 => 0
  | n + 1 => cnt x n + x / 2 ^ n % 2
theorem cnt_split (x : Nat) : ∀ n, cnt x (8 + n) = cnt (x % 256) 8 + cnt (x / 256) n
  | 0 => by
    simp only [cnt, Nat.add_zero]
    omega
  | n + 1 => by
    have ih := cnt_split x n
    have e : x / 256 / 2 ^ n = x / 2 ^ (8 + n) := by rw [Nat.div_div_eq_div_mul, Nat.pow_add]
    show cnt x (8 + n) + x / 2 ^ (8 + n) % 2 = _ + (cnt (x / 256) n + x / 256 / 2 ^ n % 2)
    rw [ih, e]
    omega
theorem and8 {a c : Nat} (ha : a < 256) (hc : c < 256) (A C : Nat) : (a + 256 * A) &&& (c + 256 * C) = (a &&& c) + 256 * (A &&& C) := by
  have hac : a &&& c < 2 ^ 8 := Nat.and_lt_two_pow a hc
  apply Nat.eq_of_testBit_eq
  intro j
  rw [Nat.testBit_and, Nat.add_comm a, Nat.add_comm c, Nat.add_comm (a &&& c)]
  have e1 := Nat.testBit_two_pow_mul_add (i := 8) A (b := a) ha j
  have e2 := Nat.testBit_two_pow_mul_add (i := 8) C (b := c) hc j
  have e3 := Nat.testBit_two_pow_mul_add (i := 8) (A &&& C) (b := a &&& c) hac j
  have e1 : (256 * A + a).testBit j = _ := e1
  have e2 : (256 * C + c).testBit j = _ := e2
  have e3 : (256 * (A &&& C) + (a &&& c)).testBit j = _ := e3
  rw [e1, e2, e3]
  split
  · rw [Nat.testBit_and]
  · rw [Nat.testBit_and]
def bf1 (b : Nat) : Nat := b - (b / 2 &&& 85)
def bf2 (b : Nat) : Nat := (b &&& 51) + (b / 4 &&& 51)
def bf3 (b : Nat) : Nat := (b + b / 16) &&& 15
theorem bt1 : ∀ b, b < 256 → ∀ e, e < 2 → (b / 2 + 128 * e) &&& 85 = (b / 2 &&& 85) := by decide +kernel
theorem bt1l : ∀ b, b < 256 → (b / 2 &&& 85) ≤ b := by decide +kernel
theorem bt1b : ∀ b, b < 256 → bf1 b < 256 := by decide +kernel
theorem bt2 : ∀ b, b < 256 → ∀ e, e < 4 → (b / 4 + 64 * e) &&& 51 = (b / 4 &&& 51) := by decide +kernel
theorem bt2b : ∀ b, b < 256 → (b &&& 51) ≤ 51 ∧ (b / 4 &&& 51) ≤ 51 := by decide +kernel
theorem bt3a : ∀ b, b < 256 → bf2 (bf1 b) ≤ 68 ∧ bf2 (bf1 b) % 16 ≤ 4 := by decide +kernel
theorem bt3 : ∀ b, b < 69 → ∀ e, e < 5 → (b + b / 16 + 16 * e) &&& 15 = bf3 b := by decide +kernel
theorem bt4 : ∀ b, b < 256 → bf3 (bf2 (bf1 b)) = cnt b 8 ∧ cnt b 8 ≤ 8 := by decide +kernel
theorem cnt_cat {b X n m : Nat} (hb : b < 256) (hm : m = 8 + n) : cnt (b + 256 * X) m = cnt b 8 + cnt X n := by
  rw [hm, cnt_split]
  have e1 : (b + 256 * X) % 256 = b := by omega
  have e2 : (b + 256 * X) / 256 = X := by omega
  rw [e1, e2]
theorem pl_1 {x b0 b1 b2 b3 b4 b5 b6 b7 : Nat} (h0 : b0 < 256) (h1 : b1 < 256) (h2 : b2 < 256) (h3 : b3 < 256) (h4 : b4 < 256) (h5 : b5 < 256) (h6 : b6 < 256) (h7 : b7 < 256) (hx : x = b0 + 256 * (b1 + 256 * (b2 + 256 * (b3 + 256 * (b4 + 256 * (b5 + 256 * (b6 + 256 * (b7)))))))) : x - (x / 2 &&& 6148914691236517205) = bf1 b0 + 256 * (bf1 b1 + 256 * (bf1 b2 + 256 * (bf1 b3 + 256 * (bf1 b4 + 256 * (bf1 b5 + 256 * (bf1 b6 + 256 * (bf1 b7))))))) ∧ (x / 2 &&& 6148914691236517205) ≤ x := by
  have e : x / 2 = b0 / 2 + 128 * (b1 % 2) + 256 * (b1 / 2 + 128 * (b2 % 2) + 256 * (b2 / 2 + 128 * (b3 % 2) + 256 * (b3 / 2 + 128 * (b4 % 2) + 256 * (b4 / 2 + 128 * (b5 % 2) + 256 * (b5 / 2 + 128 * (b6 % 2) + 256 * (b6 / 2 + 128 * (b7 % 2) + 256 * (b7 / 2))))))) := by omega
  have m : (6148914691236517205 : Nat) = 85 + 256 * (85 + 256 * (85 + 256 * (85 + 256 * (85 + 256 * (85 + 256 * (85 + 256 * (85))))))) := rfl
  have q0 := bt1 b0 h0 (b1 % 2) (by omega)
  have q1 := bt1 b1 h1 (b2 % 2) (by omega)
  have q2 := bt1 b2 h2 (b3 % 2) (by omega)
  have q3 := bt1 b3 h3 (b4 % 2) (by omega)
  have q4 := bt1 b4 h4 (b5 % 2) (by omega)
  have q5 := bt1 b5 h5 (b6 % 2) (by omega)
  have q6 := bt1 b6 h6 (b7 % 2) (by omega)
  have l0 := bt1l b0 h0
  have l1 := bt1l b1 h1
  have l2 := bt1l b2 h2
  have l3 := bt1l b3 h3
  have l4 := bt1l b4 h4
  have l5 := bt1l b5 h5
  have l6 := bt1l b6 h6
  have l7 := bt1l b7 h7
  rw [e, m, and8 (by omega) (by decide), and8 (by omega) (by decide), and8 (by omega) (by decide), and8 (by omega) (by decide), and8 (by omega) (by decide), and8 (by omega) (by decide), and8 (by omega) (by decide), q0, q1, q2, q3, q4, q5, q6]
  unfold bf1
  omega
theorem pl_2 {x b0 b1 b2 b3 b4 b5 b6 b7 : Nat} (h0 : b0 < 256) (h1 : b1 < 256) (h2 : b2 < 256) (h3 : b3 < 256) (h4 : b4 < 256) (h5 : b5 < 256) (h6 : b6 < 256) (h7 : b7 < 256) (hx : x = b0 + 256 * (b1 + 256 * (b2 + 256 * (b3 + 256 * (b4 + 256 * (b5 + 256 * (b6 + 256 * (b7)))))))) : (x &&& 3689348814741910323) + (x / 4 &&& 3689348814741910323) = bf2 b0 + 256 * (bf2 b1 + 256 * (bf2 b2 + 256 * (bf2 b3 + 256 * (bf2 b4 + 256 * (bf2 b5 + 256 * (bf2 b6 + 256 * (bf2 b7))))))) := by
  have e : x / 4 = b0 / 4 + 64 * (b1 % 4) + 256 * (b1 / 4 + 64 * (b2 % 4) + 256 * (b2 / 4 + 64 * (b3 % 4) + 256 * (b3 / 4 + 64 * (b4 % 4) + 256 * (b4 / 4 + 64 * (b5 % 4) + 256 * (b5 / 4 + 64 * (b6 % 4) + 256 * (b6 / 4 + 64 * (b7 % 4) + 256 * (b7 / 4))))))) := by omega
  have m : (3689348814741910323 : Nat) = 51 + 256 * (51 + 256 * (51 + 256 * (51 + 256 * (51 + 256 * (51 + 256 * (51 + 256 * (51))))))) := rfl
  have q0 := bt2 b0 h0 (b1 % 4) (by omega)
  have q1 := bt2 b1 h1 (b2 % 4) (by omega)
  have q2 := bt2 b2 h2 (b3 % 4) (by omega)
  have q3 := bt2 b3 h3 (b4 % 4) (by omega)
  have q4 := bt2 b4 h4 (b5 % 4) (by omega)
  have q5 := bt2 b5 h5 (b6 % 4) (by omega)
  have q6 := bt2 b6 h6 (b7 % 4) (by omega)
  have e0 : x &&& 3689348814741910323 = (b0 &&& 51) + 256 * ((b1 &&& 51) + 256 * ((b2 &&& 51) + 256 * ((b3 &&& 51) + 256 * ((b4 &&& 51) + 256 * ((b5 &&& 51) + 256 * ((b6 &&& 51) + 256 * ((b7 &&& 51)))))))) := by rw [hx, m, and8 (by omega) (by decide), and8 (by omega) (by decide), and8 (by omega) (by decide), and8 (by omega) (by decide), and8 (by omega) (by decide), and8 (by omega) (by decide), and8 (by omega) (by decide)]
  have e1 : x / 4 &&& 3689348814741910323 = (b0 / 4 &&& 51) + 256 * ((b1 / 4 &&& 51) + 256 * ((b2 / 4 &&& 51) + 256 * ((b3 / 4 &&& 51) + 256 * ((b4 / 4 &&& 51) + 256 * ((b5 / 4 &&& 51) + 256 * ((b6 / 4 &&& 51) + 256 * ((b7 / 4 &&& 51)))))))) := by rw [e, m, and8 (by omega) (by decide), and8 (by omega) (by decide), and8 (by omega) (by decide), and8 (by omega) (by decide), and8 (by omega) (by decide), and8 (by omega) (by decide), and8 (by omega) (by decide), q0, q1, q2, q3, q4, q5, q6]
  rw [e0, e1]
  unfold bf2
  omega
theorem pl_3 {x b0 b1 b2 b3 b4 b5 b6 b7 : Nat} (h0 : b0 ≤ 68) (g0 : b0 % 16 ≤ 4) (h1 : b1 ≤ 68) (g1 : b1 % 16 ≤ 4) (h2 : b2 ≤ 68) (g2 : b2 % 16 ≤ 4) (h3 : b3 ≤ 68) (g3 : b3 % 16 ≤ 4) (h4 : b4 ≤ 68) (g4 : b4 % 16 ≤ 4) (h5 : b5 ≤ 68) (g5 : b5 % 16 ≤ 4) (h6 : b6 ≤ 68) (g6 : b6 % 16 ≤ 4) (h7 : b7 ≤ 68) (g7 : b7 % 16 ≤ 4) (hx : x = b0 + 256 * (b1 + 256 * (b2 + 256 * (b3 + 256 * (b4 + 256 * (b5 + 256 * (b6 + 256 * (b7)))))))) : (x + x / 16) &&& 1085102592571150095 = bf3 b0 + 256 * (bf3 b1 + 256 * (bf3 b2 + 256 * (bf3 b3 + 256 * (bf3 b4 + 256 * (bf3 b5 + 256 * (bf3 b6 + 256 * (bf3 b7))))))) ∧ x + x / 16 < 2 ^ 64 := by
  have e : x + x / 16 = b0 + b0 / 16 + 16 * (b1 % 16) + 256 * (b1 + b1 / 16 + 16 * (b2 % 16) + 256 * (b2 + b2 / 16 + 16 * (b3 % 16) + 256 * (b3 + b3 / 16 + 16 * (b4 % 16) + 256 * (b4 + b4 / 16 + 16 * (b5 % 16) + 256 * (b5 + b5 / 16 + 16 * (b6 % 16) + 256 * (b6 + b6 / 16 + 16 * (b7 % 16) + 256 * (b7 + b7 / 16 + 16 * 0))))))) := by omega
  have m : (1085102592571150095 : Nat) = 15 + 256 * (15 + 256 * (15 + 256 * (15 + 256 * (15 + 256 * (15 + 256 * (15 + 256 * (15))))))) := rfl
  have q0 := bt3 b0 (by omega) (b1 % 16) (by omega)
  have q1 := bt3 b1 (by omega) (b2 % 16) (by omega)
  have q2 := bt3 b2 (by omega) (b3 % 16) (by omega)
  have q3 := bt3 b3 (by omega) (b4 % 16) (by omega)
  have q4 := bt3 b4 (by omega) (b5 % 16) (by omega)
  have q5 := bt3 b5 (by omega) (b6 % 16) (by omega)
  have q6 := bt3 b6 (by omega) (b7 % 16) (by omega)
  have q7 := bt3 b7 (by omega) 0 (by omega)
  refine ⟨?_, by omega⟩
  rw [e, m, and8 (by omega) (by decide), and8 (by omega) (by decide), and8 (by omega) (by decide), and8 (by omega) (by decide), and8 (by omega) (by decide), and8 (by omega) (by decide), and8 (by omega) (by decide), q0, q1, q2, q3, q4, q5, q6, q7]
def pl_s (x : Nat) : Nat := x - (x / 2 &&& 6148914691236517205)
def pl_t (x : Nat) : Nat := (x &&& 3689348814741910323) + (x / 4 &&& 3689348814741910323)
def pl_u (x : Nat) : Nat := (x + x / 16) &&& 1085102592571150095
theorem pl_all {x : Nat} (hx : x < 2 ^ 64) : (x / 2 &&& 6148914691236517205) ≤ x ∧ pl_s x < 2 ^ 64 ∧ pl_t (pl_s x) < 2 ^ 64 ∧ pl_t (pl_s x) + pl_t (pl_s x) / 16 < 2 ^ 64 ∧ ∃ h0 h1 h2 h3 h4 h5 h6 h7 : Nat, h0 ≤ 8 ∧ h1 ≤ 8 ∧ h2 ≤ 8 ∧ h3 ≤ 8 ∧ h4 ≤ 8 ∧ h5 ≤ 8 ∧ h6 ≤ 8 ∧ h7 ≤ 8 ∧ cnt x 64 = h0 + h1 + h2 + h3 + h4 + h5 + h6 + h7 ∧ pl_u (pl_t (pl_s x)) = h0 + 256 * (h1 + 256 * (h2 + 256 * (h3 + 256 * (h4 + 256 * (h5 + 256 * (h6 + 256 * (h7))))))) := by
  obtain ⟨b0, b1, b2, b3, b4, b5, b6, b7, h0, h1, h2, h3, h4, h5, h6, h7, hxe⟩ : ∃ b0 b1 b2 b3 b4 b5 b6 b7 : Nat, b0 < 256 ∧ b1 < 256 ∧ b2 < 256 ∧ b3 < 256 ∧ b4 < 256 ∧ b5 < 256 ∧ b6 < 256 ∧ b7 < 256 ∧ x = b0 + 256 * (b1 + 256 * (b2 + 256 * (b3 + 256 * (b4 + 256 * (b5 + 256 * (b6 + 256 * (b7))))))) := ⟨x % 256, x / 256 % 256, x / 65536 % 256, x / 16777216 % 256, x / 4294967296 % 256, x / 1099511627776 % 256, x / 281474976710656 % 256, x / 72057594037927936 % 256, Nat.mod_lt _ (by decide), Nat.mod_lt _ (by decide), Nat.mod_lt _ (by decide), Nat.mod_lt _ (by decide), Nat.mod_lt _ (by decide), Nat.mod_lt _ (by decide), Nat.mod_lt _ (by decide), Nat.mod_lt _ (by decide), by omega⟩
  have f0 := bt1b b0 h0
  have g0 := bt3a b0 h0
  have k0 := bt4 b0 h0
  have f1 := bt1b b1 h1
  have g1 := bt3a b1 h1
  have k1 := bt4 b1 h1
  have f2 := bt1b b2 h2
  have g2 := bt3a b2 h2
  have k2 := bt4 b2 h2
  have f3 := bt1b b3 h3
  have g3 := bt3a b3 h3
  have k3 := bt4 b3 h3
  have f4 := bt1b b4 h4
  have g4 := bt3a b4 h4
  have k4 := bt4 b4 h4
  have f5 := bt1b b5 h5
  have g5 := bt3a b5 h5
  have k5 := bt4 b5 h5
  have f6 := bt1b b6 h6
  have g6 := bt3a b6 h6
  have k6 := bt4 b6 h6
  have f7 := bt1b b7 h7
  have g7 := bt3a b7 h7
  have k7 := bt4 b7 h7
  obtain ⟨e1, e0⟩ := pl_1 h0 h1 h2 h3 h4 h5 h6 h7 hxe
  have e2 := pl_2 f0 f1 f2 f3 f4 f5 f6 f7 e1
  obtain ⟨e3, e4⟩ := pl_3 g0.1 g0.2 g1.1 g1.2 g2.1 g2.2 g3.1 g3.2 g4.1 g4.2 g5.1 g5.2 g6.1 g6.2 g7.1 g7.2 e2
  refine ⟨e0, ?_, ?_, e4, bf3 (bf2 (bf1 b0)), bf3 (bf2 (bf1 b1)), bf3 (bf2 (bf1 b2)), bf3 (bf2 (bf1 b3)), bf3 (bf2 (bf1 b4)), bf3 (bf2 (bf1 b5)), bf3 (bf2 (bf1 b6)), bf3 (bf2 (bf1 b7)), by rw [k0.1]; exact k0.2, by rw [k1.1]; exact k1.2, by rw [k2.1]; exact k2.2, by rw [k3.1]; exact k3.2, by rw [k4.1]; exact k4.2, by rw [k5.1]; exact k5.2, by rw [k6.1]; exact k6.2, by rw [k7.1]; exact k7.2, ?_, e3⟩
  · unfold pl_s
    rw [e1]
    omega
  · unfold pl_t pl_s
    rw [e2]
    omega
  · rw [hxe, cnt_cat h0 (show 64 = 8 + 56 from rfl), cnt_cat h1 (show 56 = 8 + 48 from rfl), cnt_cat h2 (show 48 = 8 + 40 from rfl), cnt_cat h3 (show 40 = 8 + 32 from rfl), cnt_cat h4 (show 32 = 8 + 24 from rfl), cnt_cat h5 (show 24 = 8 + 16 from rfl), cnt_cat h6 (show 16 = 8 + 8 from rfl), k0.1, k1.1, k2.1, k3.1, k4.1, k5.1, k6.1, k7.1]
    omega
theorem pi_1 {x b0 b1 b2 b3 : Nat} (h0 : b0 < 256) (h1 : b1 < 256) (h2 : b2 < 256) (h3 : b3 < 256) (hx : x = b0 + 256 * (b1 + 256 * (b2 + 256 * (b3)))) : x - (x / 2 &&& 1431655765) = bf1 b0 + 256 * (bf1 b1 + 256 * (bf1 b2 + 256 * (bf1 b3))) ∧ (x / 2 &&& 1431655765) ≤ x := by
  have e : x / 2 = b0 / 2 + 128 * (b1 % 2) + 256 * (b1 / 2 + 128 * (b2 % 2) + 256 * (b2 / 2 + 128 * (b3 % 2) + 256 * (b3 / 2))) := by omega
  have m : (1431655765 : Nat) = 85 + 256 * (85 + 256 * (85 + 256 * (85))) := rfl
  have q0 := bt1 b0 h0 (b1 % 2) (by omega)
  have q1 := bt1 b1 h1 (b2 % 2) (by omega)
  have q2 := bt1 b2 h2 (b3 % 2) (by omega)
  have l0 := bt1l b0 h0
  have l1 := bt1l b1 h1
  have l2 := bt1l b2 h2
  have l3 := bt1l b3 h3
  rw [e, m, and8 (by omega) (by decide), and8 (by omega) (by decide), and8 (by omega) (by decide), q0, q1, q2]
  unfold bf1
  omega
theorem pi_2 {x b0 b1 b2 b3 : Nat} (h0 : b0 < 256) (h1 : b1 < 256) (h2 : b2 < 256) (h3 : b3 < 256) (hx : x = b0 + 256 * (b1 + 256 * (b2 + 256 * (b3)))) : (x &&& 858993459) + (x / 4 &&& 858993459) = bf2 b0 + 256 * (bf2 b1 + 256 * (bf2 b2 + 256 * (bf2 b3))) := by
  have e : x / 4 = b0 / 4 + 64 * (b1 % 4) + 256 * (b1 / 4 + 64 * (b2 % 4) + 256 * (b2 / 4 + 64 * (b3 % 4) + 256 * (b3 / 4))) := by omega
  have m : (858993459 : Nat) = 51 + 256 * (51 + 256 * (51 + 256 * (51))) := rfl
  have q0 := bt2 b0 h0 (b1 % 4) (by omega)
  have q1 := bt2 b1 h1 (b2 % 4) (by omega)
  have q2 := bt2 b2 h2 (b3 % 4) (by omega)
  have e0 : x &&& 858993459 = (b0 &&& 51) + 256 * ((b1 &&& 51) + 256 * ((b2 &&& 51) + 256 * ((b3 &&& 51)))) := by rw [hx, m, and8 (by omega) (by decide), and8 (by omega) (by decide), and8 (by omega) (by decide)]
  have e1 : x / 4 &&& 858993459 = (b0 / 4 &&& 51) + 256 * ((b1 / 4 &&& 51) + 256 * ((b2 / 4 &&& 51) + 256 * ((b3 / 4 &&& 51)))) := by rw [e, m, and8 (by omega) (by decide), and8 (by omega) (by decide), and8 (by omega) (by decide), q0, q1, q2]
  rw [e0, e1]
  unfold bf2
  omega
theorem pi_3 {x b0 b1 b2 b3 : Nat} (h0 : b0 ≤ 68) (g0 : b0 % 16 ≤ 4) (h1 : b1 ≤ 68) (g1 : b1 % 16 ≤ 4) (h2 : b2 ≤ 68) (g2 : b2 % 16 ≤ 4) (h3 : b3 ≤ 68) (g3 : b3 % 16 ≤ 4) (hx : x = b0 + 256 * (b1 + 256 * (b2 + 256 * (b3)))) : (x + x / 16) &&& 252645135 = bf3 b0 + 256 * (bf3 b1 + 256 * (bf3 b2 + 256 * (bf3 b3))) ∧ x + x / 16 < 2 ^ 32 := by
  have e : x + x / 16 = b0 + b0 / 16 + 16 * (b1 % 16) + 256 * (b1 + b1 / 16 + 16 * (b2 % 16) + 256 * (b2 + b2 / 16 + 16 * (b3 % 16) + 256 * (b3 + b3 / 16 + 16 * 0))) := by omega
  have m : (252645135 : Nat) = 15 + 256 * (15 + 256 * (15 + 256 * (15))) := rfl
  have q0 := bt3 b0 (by omega) (b1 % 16) (by omega)
  have q1 := bt3 b1 (by omega) (b2 % 16) (by omega)
  have q2 := bt3 b2 (by omega) (b3 % 16) (by omega)
  have q3 := bt3 b3 (by omega) 0 (by omega)
  refine ⟨?_, by omega⟩
  rw [e, m, and8 (by omega) (by decide), and8 (by omega) (by decide), and8 (by omega) (by decide), q0, q1, q2, q3]
def pi_s (x : Nat) : Nat := x - (x / 2 &&& 1431655765)
def pi_t (x : Nat) : Nat := (x &&& 858993459) + (x / 4 &&& 858993459)
def pi_u (x : Nat) : Nat := (x + x / 16) &&& 252645135
theorem pi_all {x : Nat} (hx : x < 2 ^ 32) : (x / 2 &&& 1431655765) ≤ x ∧ pi_s x < 2 ^ 32 ∧ pi_t (pi_s x) < 2 ^ 32 ∧ pi_t (pi_s x) + pi_t (pi_s x) / 16 < 2 ^ 32 ∧ ∃ h0 h1 h2 h3 : Nat, h0 ≤ 8 ∧ h1 ≤ 8 ∧ h2 ≤ 8 ∧ h3 ≤ 8 ∧ cnt x 32 = h0 + h1 + h2 + h3 ∧ pi_u (pi_t (pi_s x)) = h0 + 256 * (h1 + 256 * (h2 + 256 * (h3))) := by
  obtain ⟨b0, b1, b2, b3, h0, h1, h2, h3, hxe⟩ : ∃ b0 b1 b2 b3 : Nat, b0 < 256 ∧ b1 < 256 ∧ b2 < 256 ∧ b3 < 256 ∧ x = b0 + 256 * (b1 + 256 * (b2 + 256 * (b3))) := ⟨x % 256, x / 256 % 256, x / 65536 % 256, x / 16777216 % 256, Nat.mod_lt _ (by decide), Nat.mod_lt _ (by decide), Nat.mod_lt _ (by decide), Nat.mod_lt _ (by decide), by omega⟩
  have f0 := bt1b b0 h0
  have g0 := bt3a b0 h0
  have k0 := bt4 b0 h0
  have f1 := bt1b b1 h1
  have g1 := bt3a b1 h1
  have k1 := bt4 b1 h1
  have f2 := bt1b b2 h2
  have g2 := bt3a b2 h2
  have k2 := bt4 b2 h2
  have f3 := bt1b b3 h3
  have g3 := bt3a b3 h3
  have k3 := bt4 b3 h3
  obtain ⟨e1, e0⟩ := pi_1 h0 h1 h2 h3 hxe
  have e2 := pi_2 f0 f1 f2 f3 e1
  obtain ⟨e3, e4⟩ := pi_3 g0.1 g0.2 g1.1 g1.2 g2.1 g2.2 g3.1 g3.2 e2
  refine ⟨e0, ?_, ?_, e4, bf3 (bf2 (bf1 b0)), bf3 (bf2 (bf1 b1)), bf3 (bf2 (bf1 b2)), bf3 (bf2 (bf1 b3)), by rw [k0.1]; exact k0.2, by rw [k1.1]; exact k1.2, by rw [k2.1]; exact k2.2, by rw [k3.1]; exact k3.2, ?_, e3⟩
  · unfold pi_s
    rw [e1]
    omega
  · unfold pi_t pi_s
    rw [e2]
    omega
  · rw [hxe, cnt_cat h0 (show 32 = 8 + 24 from rfl), cnt_cat h1 (show 24 = 8 + 16 from rfl), cnt_cat h2 (show 16 = 8 + 8 from rfl), k0.1, k1.1, k2.1, k3.1]
    omega
end
section
theorem nd1 {a X : Nat} (h : a < 256) : (a + 256 * X) / 256 = X := by omega
theorem nd2 {a b X : Nat} (h : a < 256) (h2 : b < 256) : (a + 256 * (b + 256 * X)) / 65536 = X := by omega
theorem nd4 {a b c d X : Nat} (h : a < 256) (h2 : b < 256) (h3 : c < 256) (h4 : d < 256) : (a + 256 * (b + 256 * (c + 256 * (d + 256 * X)))) / 4294967296 = X := by omega
theorem nad {a b X Y : Nat} : (a + 256 * X) + (b + 256 * Y) = (a + b) + 256 * (X + Y) := by omega
theorem nal {a b X : Nat} : (a + 256 * X) + b = (a + b) + 256 * X := by omega
theorem nfin {S T n : Nat} (h : S ≤ n) (hn : n < 128) : (S + 256 * T) % 2 ^ 32 % 2 ^ 7 = S := by omega
theorem nfi6 {S T : Nat} (h : S ≤ 32) : (S + 256 * T) % 2 ^ 32 % 2 ^ 6 = S := by omega
theorem pl_fin {h0 h1 h2 h3 h4 h5 h6 h7 y z u : Nat} (k0 : h0 ≤ 8) (k1 : h1 ≤ 8) (k2 : h2 ≤ 8) (k3 : h3 ≤ 8) (k4 : h4 ≤ 8) (k5 : h5 ≤ 8) (k6 : h6 ≤ 8) (k7 : h7 ≤ 8) (hy : y = h0 + 256 * (h1 + 256 * (h2 + 256 * (h3 + 256 * (h4 + 256 * (h5 + 256 * (h6 + 256 * (h7)))))))) (hz : z = y + y / 256) (hu : u = z + z / 65536) : (u + u / 4294967296) % 2 ^ 32 % 2 ^ 7 = h0 + h1 + h2 + h3 + h4 + h5 + h6 + h7 := by
  have a2 : z = (h0 + h1) + 256 * ((h1 + h2) + 256 * ((h2 + h3) + 256 * ((h3 + h4) + 256 * ((h4 + h5) + 256 * ((h5 + h6) + 256 * ((h6 + h7) + 256 * (h7))))))) := by rw [hz, hy, nd1 (by omega), nad, nad, nad, nad, nad, nad, nal]
  have a4 : u = ((h0 + h1) + (h2 + h3)) + 256 * (((h1 + h2) + (h3 + h4)) + 256 * (((h2 + h3) + (h4 + h5)) + 256 * (((h3 + h4) + (h5 + h6)) + 256 * (((h4 + h5) + (h6 + h7)) + 256 * (((h5 + h6) + h7) + 256 * ((h6 + h7) + 256 * (h7))))))) := by rw [hu, a2, nd2 (by omega) (by omega), nad, nad, nad, nad, nad, nal]
  rw [a4, nd4 (by omega) (by omega) (by omega) (by omega), nad, nad, nad, nal]
  rw [nfin (n := 64) (by omega) (by decide)]
  clear hy hz hu a2 a4
  omega
theorem pi_fin {h0 h1 h2 h3 y z : Nat} (k0 : h0 ≤ 8) (k1 : h1 ≤ 8) (k2 : h2 ≤ 8) (k3 : h3 ≤ 8) (hy : y = h0 + 256 * (h1 + 256 * (h2 + 256 * (h3)))) (hz : z = y + y / 256) : (z + z / 65536) % 2 ^ 32 % 2 ^ 6 = h0 + h1 + h2 + h3 := by
  have a2 : z = (h0 + h1) + 256 * ((h1 + h2) + 256 * ((h2 + h3) + 256 * (h3))) := by rw [hz, hy, nd1 (by omega), nad, nad, nal]
  rw [a2, nd2 (by omega) (by omega), nad, nal]
  rw [nfi6 (by omega)]
  clear hy hz a2
  omega
theorem nI_tn (n : Nat) : (nI n).toBitVec.toNat = n % 2 ^ 32 := by
  show (BitVec.ofNat 32 n).toNat = _
  rw [BitVec.toNat_ofNat]
theorem nx_and2 (a b : Nat) : nI a &&& nI b = nI (a &&& b) := by
  apply Int32.toBitVec_inj.mp
  apply BitVec.eq_of_toNat_eq
  rw [Int32.toBitVec_and, BitVec.toNat_and, nI_tn, nI_tn, nI_tn, Nat.and_mod_two_pow]
theorem cnt_hi {x n : Nat} (h : x < 2 ^ n) : ∀ k, cnt x (n + k) = cnt x n
  | 0 => rfl
  | k + 1 => by
    show cnt x (n + k) + x / 2 ^ (n + k) % 2 = _
    rw [cnt_hi h k, Nat.div_eq_of_lt (Nat.lt_of_lt_of_le h (Nat.pow_le_pow_right (by decide) (by omega))), Nat.zero_mod, Nat.add_zero]
set_option maxHeartbeats 400000 in
set_option maxRecDepth 100000 in
theorem c_J13_bitCount_95d88 (l : Launch) (g : WG) (H0 : Heap) (x : Nat) (hx64 : x < 2 ^ 64) : Ctr l (KK g) yJ13_bitCount_95d88 wsJ13_bitCount_95d88 { frames := 0, cells := 0, slots := 0, locals := 0 } [.long (lN x)] H0 eI (fun r H => r = nI (cnt x 64) ∧ H = H0) (fun _ => False) := by
  refine xr_enter (cc := cJ13_bitCount_95d88) (maxL := 2) (ret := (some .int)) (by decide) rfl (Nat.le_of_ble_eq_true rfl) ?_
  intro pgm env s mid below meth cde hx hb hr hml hts hown hlocks hnm hH hK ls hl
  subst hH
  have hl : lv_has ls 2 [(0, .long (lN x))] := hl
  have hS : va_S (fun _ => False) s.heap s.heap [] := va_S.rf
  obtain ⟨e0, e1, e2, e3, h0, h1, h2, h3, h4, h5, h6, h7, k0, k1, k2, k3, k4, k5, k6, k7, ec, eu⟩ := pl_all hx64
  refine lv_lload_n hx hb dJ13_bitCount_95d88_0 rfl (lv_at hl 0 rfl) ?_
  refine lv_lload_n hx hb dJ13_bitCount_95d88_1 rfl (lv_at hl 0 rfl) ?_
  refine lv_iconst (v := 1) hx hb dJ13_bitCount_95d88_2 (by decide) ?_
  refine lv_lushr (v := lN (x / 2)) hx hb dJ13_bitCount_95d88_3 (l_sh (k := 1) (by decide) rfl (by omega)) ?_
  refine lv_ldc2 (v := (6148914691236517205)) hx hb hown (hts (.constantLong RJ13 314 (6148914691236517205)) (by decide +kernel)) dJ13_bitCount_95d88_4 ?_
  refine lv_land hx hb dJ13_bitCount_95d88_7 ?_
  refine xr_tl (x' := lN (x / 2 &&& 6148914691236517205)) (wb_and (Nat.lt_of_le_of_lt (Nat.div_le_self _ _) hx64) (by decide)) ?_
  refine lv_lsub hx hb dJ13_bitCount_95d88_8 ?_
  refine xr_tl (x' := lN (pl_s x)) (lN_sub e0) ?_
  refine lv_lstore_n (lv' := [(0, .long (lN (pl_s x)))]) hx hb dJ13_bitCount_95d88_9 rfl hl (by decide) rfl (fun ls hl => ?_)
  refine lv_lload_n hx hb dJ13_bitCount_95d88_10 rfl (lv_at hl 0 rfl) ?_
  refine lv_ldc2 (v := (3689348814741910323)) hx hb hown (hts (.constantLong RJ13 316 (3689348814741910323)) (by decide +kernel)) dJ13_bitCount_95d88_11 ?_
  refine lv_land hx hb dJ13_bitCount_95d88_14 ?_
  refine xr_tl (x' := lN (pl_s x &&& 3689348814741910323)) (wb_and e1 (by decide)) ?_
  refine lv_lload_n hx hb dJ13_bitCount_95d88_15 rfl (lv_at hl 0 rfl) ?_
  refine lv_iconst (v := 2) hx hb dJ13_bitCount_95d88_16 (by decide) ?_
  refine lv_lushr (v := lN ((pl_s x) / 4)) hx hb dJ13_bitCount_95d88_17 (l_sh (k := 2) (by decide) rfl (by omega)) ?_
  refine lv_ldc2 (v := (3689348814741910323)) hx hb hown (hts (.constantLong RJ13 316 (3689348814741910323)) (by decide +kernel)) dJ13_bitCount_95d88_18 ?_
  refine lv_land hx hb dJ13_bitCount_95d88_21 ?_
  refine xr_tl (x' := lN (pl_s x / 4 &&& 3689348814741910323)) (wb_and (Nat.lt_of_le_of_lt (Nat.div_le_self _ _) e1) (by decide)) ?_
  refine lv_ladd hx hb dJ13_bitCount_95d88_22 ?_
  refine xr_tl (x' := lN (pl_t (pl_s x))) (lN_add _ _) ?_
  refine lv_lstore_n (lv' := [(0, .long (lN (pl_t (pl_s x))))]) hx hb dJ13_bitCount_95d88_23 rfl hl (by decide) rfl (fun ls hl => ?_)
  refine lv_lload_n hx hb dJ13_bitCount_95d88_24 rfl (lv_at hl 0 rfl) ?_
  refine lv_lload_n hx hb dJ13_bitCount_95d88_25 rfl (lv_at hl 0 rfl) ?_
  refine lv_iconst (v := 4) hx hb dJ13_bitCount_95d88_26 (by decide) ?_
  refine lv_lushr (v := lN ((pl_t (pl_s x)) / 16)) hx hb dJ13_bitCount_95d88_27 (l_sh (k := 4) (by decide) rfl (by omega)) ?_
  refine lv_ladd hx hb dJ13_bitCount_95d88_28 ?_
  refine xr_tl (x' := lN (pl_t (pl_s x) + pl_t (pl_s x) / 16)) (lN_add _ _) ?_
  refine lv_ldc2 (v := (1085102592571150095)) hx hb hown (hts (.constantLong RJ13 318 (1085102592571150095)) (by decide +kernel)) dJ13_bitCount_95d88_29 ?_
  refine lv_land hx hb dJ13_bitCount_95d88_32 ?_
  refine xr_tl (x' := lN (pl_u (pl_t (pl_s x)))) (wb_and e3 (by decide)) ?_
  rw [eu]
  obtain ⟨y, hy⟩ : ∃ y, y = h0 + 256 * (h1 + 256 * (h2 + 256 * (h3 + 256 * (h4 + 256 * (h5 + 256 * (h6 + 256 * h7)))))) := ⟨_, rfl⟩
  rw [← hy]
  refine lv_lstore_n (lv' := [(0, .long (lN y))]) hx hb dJ13_bitCount_95d88_33 rfl hl (by decide) rfl (fun ls hl => ?_)
  refine lv_lload_n hx hb dJ13_bitCount_95d88_34 rfl (lv_at hl 0 rfl) ?_
  refine lv_lload_n hx hb dJ13_bitCount_95d88_35 rfl (lv_at hl 0 rfl) ?_
  refine lv_bipush (v := 8) hx hb dJ13_bitCount_95d88_36 (by decide) ?_
  refine lv_lushr (v := lN (y / 256)) hx hb dJ13_bitCount_95d88_38 (l_sh (k := 8) (by decide) rfl (by omega)) ?_
  refine lv_ladd hx hb dJ13_bitCount_95d88_39 ?_
  refine xr_tl (x' := lN (y + y / 256)) (lN_add _ _) ?_
  obtain ⟨z, hz⟩ : ∃ z, z = y + y / 256 := ⟨_, rfl⟩
  rw [← hz]
  refine lv_lstore_n (lv' := [(0, .long (lN z))]) hx hb dJ13_bitCount_95d88_40 rfl hl (by decide) rfl (fun ls hl => ?_)
  refine lv_lload_n hx hb dJ13_bitCount_95d88_41 rfl (lv_at hl 0 rfl) ?_
  refine lv_lload_n hx hb dJ13_bitCount_95d88_42 rfl (lv_at hl 0 rfl) ?_
  refine lv_bipush (v := 16) hx hb dJ13_bitCount_95d88_43 (by decide) ?_
  refine lv_lushr (v := lN (z / 65536)) hx hb dJ13_bitCount_95d88_45 (l_sh (k := 16) (by decide) rfl (by omega)) ?_
  refine lv_ladd hx hb dJ13_bitCount_95d88_46 ?_
  refine xr_tl (x' := lN (z + z / 65536)) (lN_add _ _) ?_
  obtain ⟨u, hu⟩ : ∃ u, u = z + z / 65536 := ⟨_, rfl⟩
  rw [← hu]
  refine lv_lstore_n (lv' := [(0, .long (lN u))]) hx hb dJ13_bitCount_95d88_47 rfl hl (by decide) rfl (fun ls hl => ?_)
  refine lv_lload_n hx hb dJ13_bitCount_95d88_48 rfl (lv_at hl 0 rfl) ?_
  refine lv_lload_n hx hb dJ13_bitCount_95d88_49 rfl (lv_at hl 0 rfl) ?_
  refine lv_bipush (v := 32) hx hb dJ13_bitCount_95d88_50 (by decide) ?_
  refine lv_lushr (v := lN (u / 4294967296)) hx hb dJ13_bitCount_95d88_52 (l_sh (k := 32) (by decide) rfl (by omega)) ?_
  refine lv_ladd hx hb dJ13_bitCount_95d88_53 ?_
  refine xr_tl (x' := lN (u + u / 4294967296)) (lN_add _ _) ?_
  refine lv_lstore_n (lv' := [(0, .long (lN (u + u / 4294967296)))]) hx hb dJ13_bitCount_95d88_54 rfl hl (by decide) rfl (fun ls hl => ?_)
  refine lv_lload_n hx hb dJ13_bitCount_95d88_55 rfl (lv_at hl 0 rfl) ?_
  refine lv_l2i (v := nI (u + u / 4294967296)) hx hb dJ13_bitCount_95d88_56 (lN_i _) ?_
  refine lv_bipush (v := 127) hx hb dJ13_bitCount_95d88_57 (by decide) ?_
  refine lv_iand hx hb dJ13_bitCount_95d88_59 ?_
  refine xr_ti (x' := nI (cnt x 64)) (by rw [pk_and _ 7 (by decide), ec, nI_tn, pl_fin k0 k1 k2 k3 k4 k5 k6 k7 hy hz hu]) ?_
  exact xr_iret hx hb hr hlocks hS ⟨rfl, rfl⟩ dJ13_bitCount_95d88_60
set_option maxHeartbeats 400000 in
set_option maxRecDepth 100000 in
theorem c_J6_bitCount_0f7a4 (l : Launch) (g : WG) (H0 : Heap) (x : Nat) (hx32 : x < 2 ^ 31) : Ctr l (KK g) yJ6_bitCount_0f7a4 wsJ6_bitCount_0f7a4 { frames := 0, cells := 0, slots := 0, locals := 0 } [.int (nI x)] H0 eI (fun r H => r = nI (cnt x 32) ∧ H = H0) (fun _ => False) := by
  refine xr_enter (cc := cJ6_bitCount_0f7a4) (maxL := 1) (ret := (some .int)) (by decide) rfl (Nat.le_of_ble_eq_true rfl) ?_
  intro pgm env s mid below meth cde hx hb hr hml hts hown hlocks hnm hH hK ls hl
  subst hH
  have hl : lv_has ls 1 [(0, .int (nI x))] := hl
  have hS : va_S (fun _ => False) s.heap s.heap [] := va_S.rf
  obtain ⟨e0, e1, e2, e3, h0, h1, h2, h3, k0, k1, k2, k3, ec, eu⟩ := pi_all (show x < 2 ^ 32 by omega)
  refine lv_iload_n hx hb dJ6_bitCount_0f7a4_0 rfl (lv_at hl 0 rfl) ?_
  refine lv_iload_n hx hb dJ6_bitCount_0f7a4_1 rfl (lv_at hl 0 rfl) ?_
  refine lv_iconst (v := 1) hx hb dJ6_bitCount_0f7a4_2 (by decide) ?_
  refine lv_iushr (v := nI (x / 2)) hx hb dJ6_bitCount_0f7a4_3 (pk_ushrN (by omega) _ 1 (by decide)) ?_
  refine lv_ldcw (v := (1431655765)) hx hb hown (hts (.constant RJ6 265 (1431655765)) (by decide +kernel)) dJ6_bitCount_0f7a4_4 ?_
  refine lv_iand hx hb dJ6_bitCount_0f7a4_7 ?_
  refine xr_ti (x' := nI (x / 2 &&& 1431655765)) (nx_and2 _ _) ?_
  refine lv_isub hx hb dJ6_bitCount_0f7a4_8 ?_
  refine xr_ti (x' := nI (pi_s x)) (pk_sub e0) ?_
  refine lv_istore_n (lv' := [(0, .int (nI (pi_s x)))]) hx hb dJ6_bitCount_0f7a4_9 rfl hl (by decide) rfl (fun ls hl => ?_)
  refine lv_iload_n hx hb dJ6_bitCount_0f7a4_10 rfl (lv_at hl 0 rfl) ?_
  refine lv_ldcw (v := (858993459)) hx hb hown (hts (.constant RJ6 266 (858993459)) (by decide +kernel)) dJ6_bitCount_0f7a4_11 ?_
  refine lv_iand hx hb dJ6_bitCount_0f7a4_14 ?_
  refine xr_ti (x' := nI (pi_s x &&& 858993459)) (nx_and2 _ _) ?_
  refine lv_iload_n hx hb dJ6_bitCount_0f7a4_15 rfl (lv_at hl 0 rfl) ?_
  refine lv_iconst (v := 2) hx hb dJ6_bitCount_0f7a4_16 (by decide) ?_
  refine lv_iushr (v := nI ((pi_s x) / 4)) hx hb dJ6_bitCount_0f7a4_17 (pk_ushrN (by omega) _ 2 (by decide)) ?_
  refine lv_ldcw (v := (858993459)) hx hb hown (hts (.constant RJ6 266 (858993459)) (by decide +kernel)) dJ6_bitCount_0f7a4_18 ?_
  refine lv_iand hx hb dJ6_bitCount_0f7a4_21 ?_
  refine xr_ti (x' := nI (pi_s x / 4 &&& 858993459)) (nx_and2 _ _) ?_
  refine lv_iadd hx hb dJ6_bitCount_0f7a4_22 ?_
  refine xr_ti (x' := nI (pi_t (pi_s x))) (nI_add _ _) ?_
  refine lv_istore_n (lv' := [(0, .int (nI (pi_t (pi_s x))))]) hx hb dJ6_bitCount_0f7a4_23 rfl hl (by decide) rfl (fun ls hl => ?_)
  refine lv_iload_n hx hb dJ6_bitCount_0f7a4_24 rfl (lv_at hl 0 rfl) ?_
  refine lv_iload_n hx hb dJ6_bitCount_0f7a4_25 rfl (lv_at hl 0 rfl) ?_
  refine lv_iconst (v := 4) hx hb dJ6_bitCount_0f7a4_26 (by decide) ?_
  refine lv_iushr (v := nI ((pi_t (pi_s x)) / 16)) hx hb dJ6_bitCount_0f7a4_27 (pk_ushrN (by omega) _ 4 (by decide)) ?_
  refine lv_iadd hx hb dJ6_bitCount_0f7a4_28 ?_
  refine xr_ti (x' := nI (pi_t (pi_s x) + pi_t (pi_s x) / 16)) (nI_add _ _) ?_
  refine lv_ldcw (v := (252645135)) hx hb hown (hts (.constant RJ6 267 (252645135)) (by decide +kernel)) dJ6_bitCount_0f7a4_29 ?_
  refine lv_iand hx hb dJ6_bitCount_0f7a4_32 ?_
  refine xr_ti (x' := nI (pi_u (pi_t (pi_s x)))) (nx_and2 _ _) ?_
  rw [eu]
  obtain ⟨y, hy⟩ : ∃ y, y = h0 + 256 * (h1 + 256 * (h2 + 256 * h3)) := ⟨_, rfl⟩
  rw [← hy]
  refine lv_istore_n (lv' := [(0, .int (nI y))]) hx hb dJ6_bitCount_0f7a4_33 rfl hl (by decide) rfl (fun ls hl => ?_)
  refine lv_iload_n hx hb dJ6_bitCount_0f7a4_34 rfl (lv_at hl 0 rfl) ?_
  refine lv_iload_n hx hb dJ6_bitCount_0f7a4_35 rfl (lv_at hl 0 rfl) ?_
  refine lv_bipush (v := 8) hx hb dJ6_bitCount_0f7a4_36 (by decide) ?_
  refine lv_iushr (v := nI (y / 256)) hx hb dJ6_bitCount_0f7a4_38 (pk_ushrN (by omega) _ 8 (by decide)) ?_
  refine lv_iadd hx hb dJ6_bitCount_0f7a4_39 ?_
  refine xr_ti (x' := nI (y + y / 256)) (nI_add _ _) ?_
  obtain ⟨z, hz⟩ : ∃ z, z = y + y / 256 := ⟨_, rfl⟩
  rw [← hz]
  refine lv_istore_n (lv' := [(0, .int (nI z))]) hx hb dJ6_bitCount_0f7a4_40 rfl hl (by decide) rfl (fun ls hl => ?_)
  refine lv_iload_n hx hb dJ6_bitCount_0f7a4_41 rfl (lv_at hl 0 rfl) ?_
  refine lv_iload_n hx hb dJ6_bitCount_0f7a4_42 rfl (lv_at hl 0 rfl) ?_
  refine lv_bipush (v := 16) hx hb dJ6_bitCount_0f7a4_43 (by decide) ?_
  refine lv_iushr (v := nI (z / 65536)) hx hb dJ6_bitCount_0f7a4_45 (pk_ushrN (by omega) _ 16 (by decide)) ?_
  refine lv_iadd hx hb dJ6_bitCount_0f7a4_46 ?_
  refine xr_ti (x' := nI (z + z / 65536)) (nI_add _ _) ?_
  refine lv_istore_n (lv' := [(0, .int (nI (z + z / 65536)))]) hx hb dJ6_bitCount_0f7a4_47 rfl hl (by decide) rfl (fun ls hl => ?_)
  refine lv_iload_n hx hb dJ6_bitCount_0f7a4_48 rfl (lv_at hl 0 rfl) ?_
  refine lv_bipush (v := 63) hx hb dJ6_bitCount_0f7a4_49 (by decide) ?_
  refine lv_iand hx hb dJ6_bitCount_0f7a4_51 ?_
  refine xr_ti (x' := nI (cnt x 32)) (by rw [pk_and _ 6 (by decide), ec, nI_tn, pi_fin k0 k1 k2 k3 hy hz]) ?_
  exact xr_iret hx hb hr hlocks hS ⟨rfl, rfl⟩ dJ6_bitCount_0f7a4_52
set_option maxHeartbeats 400000 in
set_option maxRecDepth 100000 in
theorem c_X5_countVoters (l : Launch) (g : WG) (H0 : Heap) (a : Nat) (c : Nat → Nat) (vs : Nat) (ap : Nat → Nat) (bu : Nat) (hT : TownAt g H0 a c vs ap bu) : Ctr l (KK g) yX5_countVoters wsX5_countVoters { frames := 1, cells := 0, slots := 0, locals := 21 } [.ref a] H0 eI (fun r H => r = nI (cnt vs 48) ∧ H = H0) (fun _ => False) := by
  refine xr_enter (cc := cX5_countVoters) (maxL := 1) (ret := (some .int)) (by decide) rfl (Nat.le_of_ble_eq_true rfl) ?_
  intro pgm env s mid below meth cde hx hb hr hml hts hown hlocks hnm hH hK ls hl
  subst hH
  have hl : lv_has ls 1 [(0, .ref a)] := hl
  have hS : va_S (fun _ => False) s.heap s.heap [] := va_S.rf
  obtain ⟨hO, hcs, ha, hcb, hvb, hab, hbb⟩ := id hT
  refine lv_aload_n hx hb dX5_countVoters_0 rfl (lv_at hl 0 rfl) ?_
  refine va_get (D := g.1) (ci := 5) (v := .long (lN vs)) (C := RX5) (T := TX5) (N := 4) hx hb hts (by decide +kernel) hown hK.1 (xr_one hO) 0 rfl rfl 1 (by decide) (hts (.fieldLink RX5 29 "SharesDesk$Town" "voters" "J") (by decide +kernel)) (fun _ h9 => h9) rfl dX5_countVoters_1 ?_
  refine xr_Si (rest := []) ⟨hx, hb, hml, hown, hts⟩ (KK_ok g) hK (c_J13_bitCount_95d88 l g s.heap vs (by omega)) (va_cwS 1 hts gX5_countVoters_J13_bitCount_95d88 rfl rfl rfl (by decide +kernel) ⟨Nat.le_of_ble_eq_true rfl, Nat.le_of_ble_eq_true rfl⟩) rfl hl.1 rfl (Nat.le_of_ble_eq_true rfl) dX5_countVoters_4 ⟨Nat.le_of_ble_eq_true rfl, Nat.le_of_ble_eq_true rfl⟩ hS (fun q h => h.elim) (fun r H locs hq hz hkp hS9 => ?_)
  obtain ⟨rfl, rfl⟩ := hq
  have hS := hS9
  refine xr_ti (x' := nI (cnt vs 48)) (by rw [cnt_hi hvb 16]) ?_
  exact xr_iret hx hb hr hlocks hS ⟨rfl, rfl⟩ dX5_countVoters_7
end
section
set_option maxRecDepth 20000 in
theorem ggX1_init_X0_init : GoodIn wsX1_init wsX0_init := goodIn_r _ [23, 24, 2, 3, 10, 25, 33] (by decide +kernel) (by decide +kernel)
set_option maxRecDepth 20000 in
theorem gX1_init_X0_init_n11 : GoodIn wsX1_init (wsX0_init) := ggX1_init_X0_init
set_option maxRecDepth 20000 in
theorem ggX1_init_X3_init : GoodIn wsX1_init wsX3_init := goodIn_r _ [27, 28, 2, 3, 29, 5, 6, 30, 31, 32, 22, 23, 24, 10, 25, 33, 50, 51, 52, 53] (by decide +kernel) (by decide +kernel)
set_option maxRecDepth 20000 in
theorem gX1_init_X3_init_n43 : GoodIn wsX1_init (wsX3_init) := ggX1_init_X3_init
theorem dX1_init_0 : decode cX1_init 0 = .ok (.aload_n 0, 1) := by decide +kernel
theorem dX1_init_1 : decode cX1_init 1 = .ok (.invokespecial 3, 3) := by decide +kernel
theorem dX1_init_4 : decode cX1_init 4 = .ok (.aload_n 0, 1) := by decide +kernel
theorem dX1_init_5 : decode cX1_init 5 = .ok (.new 9, 3) := by decide +kernel
theorem dX1_init_8 : decode cX1_init 8 = .ok (.dup, 1) := by decide +kernel
theorem dX1_init_9 : decode cX1_init 9 = .ok (.invokespecial 11, 3) := by decide +kernel
theorem dX1_init_12 : decode cX1_init 12 = .ok (.putfield 12, 3) := by decide +kernel
theorem dX1_init_15 : decode cX1_init 15 = .ok (.aload_n 0, 1) := by decide +kernel
theorem dX1_init_16 : decode cX1_init 16 = .ok (.bipush 48, 2) := by decide +kernel
theorem dX1_init_18 : decode cX1_init 18 = .ok (.anewarray 9, 3) := by decide +kernel
theorem dX1_init_21 : decode cX1_init 21 = .ok (.putfield 18, 3) := by decide +kernel
theorem dX1_init_24 : decode cX1_init 24 = .ok (.aload_n 0, 1) := by decide +kernel
theorem dX1_init_25 : decode cX1_init 25 = .ok (.bipush 48, 2) := by decide +kernel
theorem dX1_init_27 : decode cX1_init 27 = .ok (.anewarray 9, 3) := by decide +kernel
theorem dX1_init_30 : decode cX1_init 30 = .ok (.putfield 22, 3) := by decide +kernel
theorem dX1_init_33 : decode cX1_init 33 = .ok (.aload_n 0, 1) := by decide +kernel
theorem dX1_init_34 : decode cX1_init 34 = .ok (.bipush 48, 2) := by decide +kernel
theorem dX1_init_36 : decode cX1_init 36 = .ok (.newarray .int, 2) := by decide +kernel
theorem dX1_init_38 : decode cX1_init 38 = .ok (.putfield 25, 3) := by decide +kernel
theorem dX1_init_41 : decode cX1_init 41 = .ok (.aload_n 0, 1) := by decide +kernel
theorem dX1_init_42 : decode cX1_init 42 = .ok (.bipush 48, 2) := by decide +kernel
theorem dX1_init_44 : decode cX1_init 44 = .ok (.newarray .int, 2) := by decide +kernel
theorem dX1_init_46 : decode cX1_init 46 = .ok (.putfield 29, 3) := by decide +kernel
theorem dX1_init_49 : decode cX1_init 49 = .ok (.aload_n 0, 1) := by decide +kernel
theorem dX1_init_50 : decode cX1_init 50 = .ok (.bipush 16, 2) := by decide +kernel
theorem dX1_init_52 : decode cX1_init 52 = .ok (.newarray .int, 2) := by decide +kernel
theorem dX1_init_54 : decode cX1_init 54 = .ok (.putfield 32, 3) := by decide +kernel
theorem dX1_init_57 : decode cX1_init 57 = .ok (.aload_n 0, 1) := by decide +kernel
theorem dX1_init_58 : decode cX1_init 58 = .ok (.bipush 16, 2) := by decide +kernel
theorem dX1_init_60 : decode cX1_init 60 = .ok (.anewarray 9, 3) := by decide +kernel
theorem dX1_init_63 : decode cX1_init 63 = .ok (.putfield 35, 3) := by decide +kernel
theorem dX1_init_66 : decode cX1_init 66 = .ok (.aload_n 0, 1) := by decide +kernel
theorem dX1_init_67 : decode cX1_init 67 = .ok (.bipush 16, 2) := by decide +kernel
theorem dX1_init_69 : decode cX1_init 69 = .ok (.anewarray 9, 3) := by decide +kernel
theorem dX1_init_72 : decode cX1_init 72 = .ok (.putfield 38, 3) := by decide +kernel
theorem dX1_init_75 : decode cX1_init 75 = .ok (.aload_n 0, 1) := by decide +kernel
theorem dX1_init_76 : decode cX1_init 76 = .ok (.new 41, 3) := by decide +kernel
theorem dX1_init_79 : decode cX1_init 79 = .ok (.dup, 1) := by decide +kernel
theorem dX1_init_80 : decode cX1_init 80 = .ok (.invokespecial 43, 3) := by decide +kernel
theorem dX1_init_83 : decode cX1_init 83 = .ok (.putfield 44, 3) := by decide +kernel
theorem dX1_init_86 : decode cX1_init 86 = .ok (.aload_n 0, 1) := by decide +kernel
theorem dX1_init_87 : decode cX1_init 87 = .ok (.new 41, 3) := by decide +kernel
theorem dX1_init_90 : decode cX1_init 90 = .ok (.dup, 1) := by decide +kernel
theorem dX1_init_91 : decode cX1_init 91 = .ok (.invokespecial 43, 3) := by decide +kernel
theorem dX1_init_94 : decode cX1_init 94 = .ok (.putfield 48, 3) := by decide +kernel
theorem dX1_init_97 : decode cX1_init 97 = .ok (.aload_n 0, 1) := by decide +kernel
theorem dX1_init_98 : decode cX1_init 98 = .ok (.aload_n 1, 1) := by decide +kernel
theorem dX1_init_99 : decode cX1_init 99 = .ok (.putfield 51, 3) := by decide +kernel
theorem dX1_init_102 : decode cX1_init 102 = .ok (.iconst 0, 1) := by decide +kernel
theorem dX1_init_103 : decode cX1_init 103 = .ok (.istore_n 2, 1) := by decide +kernel
theorem dX1_init_104 : decode cX1_init 104 = .ok (.iload_n 2, 1) := by decide +kernel
theorem dX1_init_105 : decode cX1_init 105 = .ok (.bipush 48, 2) := by decide +kernel
theorem dX1_init_107 : decode cX1_init 107 = .ok (.if_icmp .ge 35, 3) := by decide +kernel
theorem dX1_init_110 : decode cX1_init 110 = .ok (.aload_n 0, 1) := by decide +kernel
theorem dX1_init_111 : decode cX1_init 111 = .ok (.getfield 18, 3) := by decide +kernel
theorem dX1_init_114 : decode cX1_init 114 = .ok (.iload_n 2, 1) := by decide +kernel
theorem dX1_init_115 : decode cX1_init 115 = .ok (.new 9, 3) := by decide +kernel
theorem dX1_init_118 : decode cX1_init 118 = .ok (.dup, 1) := by decide +kernel
theorem dX1_init_119 : decode cX1_init 119 = .ok (.invokespecial 11, 3) := by decide +kernel
theorem dX1_init_122 : decode cX1_init 122 = .ok (.aastore, 1) := by decide +kernel
theorem dX1_init_123 : decode cX1_init 123 = .ok (.aload_n 0, 1) := by decide +kernel
theorem dX1_init_124 : decode cX1_init 124 = .ok (.getfield 22, 3) := by decide +kernel
theorem dX1_init_127 : decode cX1_init 127 = .ok (.iload_n 2, 1) := by decide +kernel
theorem dX1_init_128 : decode cX1_init 128 = .ok (.new 9, 3) := by decide +kernel
theorem dX1_init_131 : decode cX1_init 131 = .ok (.dup, 1) := by decide +kernel
theorem dX1_init_132 : decode cX1_init 132 = .ok (.invokespecial 11, 3) := by decide +kernel
theorem dX1_init_135 : decode cX1_init 135 = .ok (.aastore, 1) := by decide +kernel
theorem dX1_init_136 : decode cX1_init 136 = .ok (.iinc 2 1, 3) := by decide +kernel
theorem dX1_init_139 : decode cX1_init 139 = .ok (.goto (-35), 3) := by decide +kernel
theorem dX1_init_142 : decode cX1_init 142 = .ok (.iconst 0, 1) := by decide +kernel
theorem dX1_init_143 : decode cX1_init 143 = .ok (.istore_n 2, 1) := by decide +kernel
theorem dX1_init_144 : decode cX1_init 144 = .ok (.iload_n 2, 1) := by decide +kernel
theorem dX1_init_145 : decode cX1_init 145 = .ok (.bipush 16, 2) := by decide +kernel
theorem dX1_init_147 : decode cX1_init 147 = .ok (.if_icmp .ge 35, 3) := by decide +kernel
theorem dX1_init_150 : decode cX1_init 150 = .ok (.aload_n 0, 1) := by decide +kernel
theorem dX1_init_151 : decode cX1_init 151 = .ok (.getfield 35, 3) := by decide +kernel
theorem dX1_init_154 : decode cX1_init 154 = .ok (.iload_n 2, 1) := by decide +kernel
theorem dX1_init_155 : decode cX1_init 155 = .ok (.new 9, 3) := by decide +kernel
theorem dX1_init_158 : decode cX1_init 158 = .ok (.dup, 1) := by decide +kernel
theorem dX1_init_159 : decode cX1_init 159 = .ok (.invokespecial 11, 3) := by decide +kernel
theorem dX1_init_162 : decode cX1_init 162 = .ok (.aastore, 1) := by decide +kernel
theorem dX1_init_163 : decode cX1_init 163 = .ok (.aload_n 0, 1) := by decide +kernel
theorem dX1_init_164 : decode cX1_init 164 = .ok (.getfield 38, 3) := by decide +kernel
theorem dX1_init_167 : decode cX1_init 167 = .ok (.iload_n 2, 1) := by decide +kernel
theorem dX1_init_168 : decode cX1_init 168 = .ok (.new 9, 3) := by decide +kernel
theorem dX1_init_171 : decode cX1_init 171 = .ok (.dup, 1) := by decide +kernel
theorem dX1_init_172 : decode cX1_init 172 = .ok (.invokespecial 11, 3) := by decide +kernel
theorem dX1_init_175 : decode cX1_init 175 = .ok (.aastore, 1) := by decide +kernel
theorem dX1_init_176 : decode cX1_init 176 = .ok (.iinc 2 1, 3) := by decide +kernel
theorem dX1_init_179 : decode cX1_init 179 = .ok (.goto (-35), 3) := by decide +kernel
theorem dX1_init_182 : decode cX1_init 182 = .ok (.return_, 1) := by decide +kernel
set_option maxRecDepth 20000 in
theorem ggX1_play_X1_fillPurses : GoodIn wsX1_play wsX1_fillPurses := goodIn_r _ [10, 4, 11, 12, 13, 14, 15, 16, 17, 18, 19, 20, 21, 22, 23, 24, 25, 26, 27, 28, 29, 30, 31, 32, 33, 34, 35, 36, 37, 38, 39, 40, 41, 42, 43, 44, 45, 46, 47, 48, 49, 50, 147, 148, 149, 150, 151, 152, 153, 154, 155, 156, 157, 158, 159, 160, 161, 162, 163, 164, 165, 166, 167] (by decide +kernel) (by decide +kernel)
set_option maxRecDepth 20000 in
theorem gX1_play_X1_fillPurses : GoodIn wsX1_play (wsV RX1 55 RX1 yX1_fillPurses wsX1_fillPurses) := goodIn_app (goodIn_of _ (by decide +kernel)) ggX1_play_X1_fillPurses
set_option maxRecDepth 20000 in
theorem ggX1_play_X5_allProjects : GoodIn wsX1_play wsX5_allProjects := goodIn_r _ [54, 55, 163, 164, 165, 166] (by decide +kernel) (by decide +kernel)
set_option maxRecDepth 20000 in
theorem gX1_play_X5_allProjects : GoodIn wsX1_play (wsV RX1 69 RX5 yX5_allProjects wsX5_allProjects) := goodIn_app (goodIn_of _ (by decide +kernel)) ggX1_play_X5_allProjects
set_option maxRecDepth 20000 in
theorem ggX1_play_X1_overspends : GoodIn wsX1_play wsX1_overspends := goodIn_r _ [59, 3, 4, 19, 147, 148, 149, 150, 151, 152, 153, 154, 155, 156, 157, 158, 159, 160, 161, 162, 163, 164, 165, 166] (by decide +kernel) (by decide +kernel)
set_option maxRecDepth 20000 in
theorem gX1_play_X1_overspends : GoodIn wsX1_play (wsV RX1 78 RX1 yX1_overspends wsX1_overspends) := goodIn_app (goodIn_of _ (by decide +kernel)) ggX1_play_X1_overspends
set_option maxRecDepth 20000 in
theorem ggX1_play_X1_findCheapest : GoodIn wsX1_play wsX1_findCheapest := goodIn_r _ [63, 5, 64, 65, 66, 9, 67, 68, 69, 11, 4, 70, 71, 16, 20, 18, 72, 73, 74, 37, 75, 39, 76, 77, 78, 79, 80, 81, 82, 83, 84, 85, 86, 87, 88, 89, 90, 91, 24, 92, 93, 94, 95, 96, 97, 98, 99, 100, 101, 102, 103, 104, 105, 106, 107, 108, 109, 110, 111, 112, 113, 114, 115, 116, 117, 118, 119, 120, 121, 122, 123, 124, 125, 147, 148, 149, 150, 151, 152, 153, 154, 155, 156, 157, 158, 159, 160, 161, 162, 168, 169, 170, 171, 163, 164, 165, 166, 167] (by decide +kernel) (by decide +kernel)
set_option maxRecDepth 20000 in
theorem gX1_play_X1_findCheapest : GoodIn wsX1_play (wsV RX1 82 RX1 yX1_findCheapest wsX1_findCheapest) := goodIn_app (goodIn_of _ (by decide +kernel)) ggX1_play_X1_findCheapest
set_option maxRecDepth 20000 in
theorem ggX1_play_X1_pay : GoodIn wsX1_play wsX1_pay := goodIn_r _ [129, 11, 116, 71, 130, 131, 69, 16, 20, 18, 4, 132, 1, 2, 3, 70, 5, 80, 81, 82, 37, 83, 39, 84, 72, 73, 74, 75, 76, 77, 78, 79, 89, 90, 91, 24, 92, 93, 133, 134, 135, 9, 136, 137, 17, 138, 105, 106, 107, 108, 109, 110, 111, 34, 35, 36, 38, 40, 41, 42, 43, 139, 140, 141, 142, 147, 148, 149, 150, 151, 152, 153, 154, 155, 156, 157, 158, 159, 160, 161, 162, 168, 169, 170, 171, 163, 164, 165, 166, 167] (by decide +kernel) (by decide +kernel)
set_option maxRecDepth 20000 in
theorem gX1_play_X1_pay : GoodIn wsX1_play (wsV RX1 85 RX1 yX1_pay wsX1_pay) := goodIn_app (goodIn_of _ (by decide +kernel)) ggX1_play_X1_pay
set_option maxRecDepth 20000 in
theorem ggX1_play_X1_sortPayers : GoodIn wsX1_play wsX1_sortPayers := goodIn_r _ [146, 16, 20, 18, 138, 105, 106, 37, 107, 39, 84, 147, 148, 149, 150, 151, 152, 153, 154, 155, 156, 157, 158, 159, 160, 161, 162, 167] (by decide +kernel) (by decide +kernel)
set_option maxRecDepth 20000 in
theorem gX1_play_X1_sortPayers : GoodIn wsX1_play (wsV RX1 89 RX1 yX1_sortPayers wsX1_sortPayers) := goodIn_app (goodIn_of _ (by decide +kernel)) ggX1_play_X1_sortPayers
theorem dX1_play_0 : decode cX1_play 0 = .ok (.aload_n 0, 1) := by decide +kernel
theorem dX1_play_1 : decode cX1_play 1 = .ok (.iload_n 1, 1) := by decide +kernel
theorem dX1_play_2 : decode cX1_play 2 = .ok (.invokevirtual 55, 3) := by decide +kernel
theorem dX1_play_5 : decode cX1_play 5 = .ok (.aload_n 0, 1) := by decide +kernel
theorem dX1_play_6 : decode cX1_play 6 = .ok (.iconst 0, 1) := by decide +kernel
theorem dX1_play_7 : decode cX1_play 7 = .ok (.putfield 59, 3) := by decide +kernel
theorem dX1_play_10 : decode cX1_play 10 = .ok (.aload_n 0, 1) := by decide +kernel
theorem dX1_play_11 : decode cX1_play 11 = .ok (.iconst 0, 1) := by decide +kernel
theorem dX1_play_12 : decode cX1_play 12 = .ok (.putfield 63, 3) := by decide +kernel
theorem dX1_play_15 : decode cX1_play 15 = .ok (.aload_n 0, 1) := by decide +kernel
theorem dX1_play_16 : decode cX1_play 16 = .ok (.iconst 0, 1) := by decide +kernel
theorem dX1_play_17 : decode cX1_play 17 = .ok (.putfield 66, 3) := by decide +kernel
theorem dX1_play_20 : decode cX1_play 20 = .ok (.aload_n 0, 1) := by decide +kernel
theorem dX1_play_21 : decode cX1_play 21 = .ok (.aload_n 0, 1) := by decide +kernel
theorem dX1_play_22 : decode cX1_play 22 = .ok (.getfield 51, 3) := by decide +kernel
theorem dX1_play_25 : decode cX1_play 25 = .ok (.invokevirtual 69, 3) := by decide +kernel
theorem dX1_play_28 : decode cX1_play 28 = .ok (.putfield 75, 3) := by decide +kernel
theorem dX1_play_31 : decode cX1_play 31 = .ok (.iconst 0, 1) := by decide +kernel
theorem dX1_play_32 : decode cX1_play 32 = .ok (.istore_n 2, 1) := by decide +kernel
theorem dX1_play_33 : decode cX1_play 33 = .ok (.iload_n 2, 1) := by decide +kernel
theorem dX1_play_34 : decode cX1_play 34 = .ok (.bipush 16, 2) := by decide +kernel
theorem dX1_play_36 : decode cX1_play 36 = .ok (.if_icmp .ge 39, 3) := by decide +kernel
theorem dX1_play_39 : decode cX1_play 39 = .ok (.aload_n 0, 1) := by decide +kernel
theorem dX1_play_40 : decode cX1_play 40 = .ok (.invokevirtual 78, 3) := by decide +kernel
theorem dX1_play_43 : decode cX1_play 43 = .ok (.ifCond .ne 32, 3) := by decide +kernel
theorem dX1_play_46 : decode cX1_play 46 = .ok (.aload_n 0, 1) := by decide +kernel
theorem dX1_play_47 : decode cX1_play 47 = .ok (.invokevirtual 82, 3) := by decide +kernel
theorem dX1_play_50 : decode cX1_play 50 = .ok (.istore_n 3, 1) := by decide +kernel
theorem dX1_play_51 : decode cX1_play 51 = .ok (.iload_n 3, 1) := by decide +kernel
theorem dX1_play_52 : decode cX1_play 52 = .ok (.iconst (-1), 1) := by decide +kernel
theorem dX1_play_53 : decode cX1_play 53 = .ok (.if_icmp .ne 6, 3) := by decide +kernel
theorem dX1_play_56 : decode cX1_play 56 = .ok (.goto 19, 3) := by decide +kernel
theorem dX1_play_59 : decode cX1_play 59 = .ok (.aload_n 0, 1) := by decide +kernel
theorem dX1_play_60 : decode cX1_play 60 = .ok (.iload_n 3, 1) := by decide +kernel
theorem dX1_play_61 : decode cX1_play 61 = .ok (.iload_n 2, 1) := by decide +kernel
theorem dX1_play_62 : decode cX1_play 62 = .ok (.invokevirtual 85, 3) := by decide +kernel
theorem dX1_play_65 : decode cX1_play 65 = .ok (.aload_n 0, 1) := by decide +kernel
theorem dX1_play_66 : decode cX1_play 66 = .ok (.invokevirtual 89, 3) := by decide +kernel
theorem dX1_play_69 : decode cX1_play 69 = .ok (.iinc 2 1, 3) := by decide +kernel
theorem dX1_play_72 : decode cX1_play 72 = .ok (.goto (-39), 3) := by decide +kernel
theorem dX1_play_75 : decode cX1_play 75 = .ok (.return_, 1) := by decide +kernel
theorem dX1_overspends_0 : decode cX1_overspends 0 = .ok (.aload_n 0, 1) := by decide +kernel
theorem dX1_overspends_1 : decode cX1_overspends 1 = .ok (.getfield 66, 3) := by decide +kernel
theorem dX1_overspends_4 : decode cX1_overspends 4 = .ok (.aload_n 0, 1) := by decide +kernel
theorem dX1_overspends_5 : decode cX1_overspends 5 = .ok (.getfield 51, 3) := by decide +kernel
theorem dX1_overspends_8 : decode cX1_overspends 8 = .ok (.getfield 92, 3) := by decide +kernel
theorem dX1_overspends_11 : decode cX1_overspends 11 = .ok (.if_icmp .le 7, 3) := by decide +kernel
theorem dX1_overspends_14 : decode cX1_overspends 14 = .ok (.iconst 1, 1) := by decide +kernel
theorem dX1_overspends_15 : decode cX1_overspends 15 = .ok (.goto 4, 3) := by decide +kernel
theorem dX1_overspends_18 : decode cX1_overspends 18 = .ok (.iconst 0, 1) := by decide +kernel
theorem dX1_overspends_19 : decode cX1_overspends 19 = .ok (.ireturn, 1) := by decide +kernel
theorem dX1_roundOf_0 : decode cX1_roundOf 0 = .ok (.iconst 0, 1) := by decide +kernel
theorem dX1_roundOf_1 : decode cX1_roundOf 1 = .ok (.istore_n 2, 1) := by decide +kernel
theorem dX1_roundOf_2 : decode cX1_roundOf 2 = .ok (.iload_n 2, 1) := by decide +kernel
theorem dX1_roundOf_3 : decode cX1_roundOf 3 = .ok (.aload_n 0, 1) := by decide +kernel
theorem dX1_roundOf_4 : decode cX1_roundOf 4 = .ok (.getfield 59, 3) := by decide +kernel
theorem dX1_roundOf_7 : decode cX1_roundOf 7 = .ok (.if_icmp .ge 21, 3) := by decide +kernel
theorem dX1_roundOf_10 : decode cX1_roundOf 10 = .ok (.aload_n 0, 1) := by decide +kernel
theorem dX1_roundOf_11 : decode cX1_roundOf 11 = .ok (.getfield 32, 3) := by decide +kernel
theorem dX1_roundOf_14 : decode cX1_roundOf 14 = .ok (.iload_n 2, 1) := by decide +kernel
theorem dX1_roundOf_15 : decode cX1_roundOf 15 = .ok (.iaload, 1) := by decide +kernel
theorem dX1_roundOf_16 : decode cX1_roundOf 16 = .ok (.iload_n 1, 1) := by decide +kernel
theorem dX1_roundOf_17 : decode cX1_roundOf 17 = .ok (.if_icmp .ne 5, 3) := by decide +kernel
theorem dX1_roundOf_20 : decode cX1_roundOf 20 = .ok (.iload_n 2, 1) := by decide +kernel
theorem dX1_roundOf_21 : decode cX1_roundOf 21 = .ok (.ireturn, 1) := by decide +kernel
theorem dX1_roundOf_22 : decode cX1_roundOf 22 = .ok (.iinc 2 1, 3) := by decide +kernel
theorem dX1_roundOf_25 : decode cX1_roundOf 25 = .ok (.goto (-23), 3) := by decide +kernel
theorem dX1_roundOf_28 : decode cX1_roundOf 28 = .ok (.iconst (-1), 1) := by decide +kernel
theorem dX1_roundOf_29 : decode cX1_roundOf 29 = .ok (.ireturn, 1) := by decide +kernel
set_option maxRecDepth 20000 in
theorem ggX1_payment_X5_approves : GoodIn wsX1_payment wsX5_approves := goodIn_r _ [10, 11, 28, 29, 30, 31] (by decide +kernel) (by decide +kernel)
set_option maxRecDepth 20000 in
theorem gX1_payment_X5_approves : GoodIn wsX1_payment (wsV RX1 95 RX5 yX5_approves wsX5_approves) := goodIn_app (goodIn_of _ (by decide +kernel)) ggX1_payment_X5_approves
theorem dX1_payment_0 : decode cX1_payment 0 = .ok (.iload_n 2, 1) := by decide +kernel
theorem dX1_payment_1 : decode cX1_payment 1 = .ok (.iconst (-1), 1) := by decide +kernel
theorem dX1_payment_2 : decode cX1_payment 2 = .ok (.if_icmp .eq 30, 3) := by decide +kernel
theorem dX1_payment_5 : decode cX1_payment 5 = .ok (.iload_n 2, 1) := by decide +kernel
theorem dX1_payment_6 : decode cX1_payment 6 = .ok (.aload_n 0, 1) := by decide +kernel
theorem dX1_payment_7 : decode cX1_payment 7 = .ok (.getfield 25, 3) := by decide +kernel
theorem dX1_payment_10 : decode cX1_payment 10 = .ok (.iload_n 1, 1) := by decide +kernel
theorem dX1_payment_11 : decode cX1_payment 11 = .ok (.iaload, 1) := by decide +kernel
theorem dX1_payment_12 : decode cX1_payment 12 = .ok (.if_icmp .gt 20, 3) := by decide +kernel
theorem dX1_payment_15 : decode cX1_payment 15 = .ok (.aload_n 0, 1) := by decide +kernel
theorem dX1_payment_16 : decode cX1_payment 16 = .ok (.getfield 51, 3) := by decide +kernel
theorem dX1_payment_19 : decode cX1_payment 19 = .ok (.iload_n 1, 1) := by decide +kernel
theorem dX1_payment_20 : decode cX1_payment 20 = .ok (.aload_n 0, 1) := by decide +kernel
theorem dX1_payment_21 : decode cX1_payment 21 = .ok (.getfield 32, 3) := by decide +kernel
theorem dX1_payment_24 : decode cX1_payment 24 = .ok (.iload_n 2, 1) := by decide +kernel
theorem dX1_payment_25 : decode cX1_payment 25 = .ok (.iaload, 1) := by decide +kernel
theorem dX1_payment_26 : decode cX1_payment 26 = .ok (.invokevirtual 95, 3) := by decide +kernel
theorem dX1_payment_29 : decode cX1_payment 29 = .ok (.ifCond .ne 5, 3) := by decide +kernel
theorem dX1_payment_32 : decode cX1_payment 32 = .ok (.aconst_null, 1) := by decide +kernel
theorem dX1_payment_33 : decode cX1_payment 33 = .ok (.areturn, 1) := by decide +kernel
theorem dX1_payment_34 : decode cX1_payment 34 = .ok (.iload_n 2, 1) := by decide +kernel
theorem dX1_payment_35 : decode cX1_payment 35 = .ok (.aload_n 0, 1) := by decide +kernel
theorem dX1_payment_36 : decode cX1_payment 36 = .ok (.getfield 25, 3) := by decide +kernel
theorem dX1_payment_39 : decode cX1_payment 39 = .ok (.iload_n 1, 1) := by decide +kernel
theorem dX1_payment_40 : decode cX1_payment 40 = .ok (.iaload, 1) := by decide +kernel
theorem dX1_payment_41 : decode cX1_payment 41 = .ok (.if_icmp .ne 12, 3) := by decide +kernel
theorem dX1_payment_44 : decode cX1_payment 44 = .ok (.aload_n 0, 1) := by decide +kernel
theorem dX1_payment_45 : decode cX1_payment 45 = .ok (.getfield 22, 3) := by decide +kernel
theorem dX1_payment_48 : decode cX1_payment 48 = .ok (.iload_n 1, 1) := by decide +kernel
theorem dX1_payment_49 : decode cX1_payment 49 = .ok (.aaload, 1) := by decide +kernel
theorem dX1_payment_50 : decode cX1_payment 50 = .ok (.goto 9, 3) := by decide +kernel
theorem dX1_payment_53 : decode cX1_payment 53 = .ok (.aload_n 0, 1) := by decide +kernel
theorem dX1_payment_54 : decode cX1_payment 54 = .ok (.getfield 35, 3) := by decide +kernel
theorem dX1_payment_57 : decode cX1_payment 57 = .ok (.iload_n 2, 1) := by decide +kernel
theorem dX1_payment_58 : decode cX1_payment 58 = .ok (.aaload, 1) := by decide +kernel
theorem dX1_payment_59 : decode cX1_payment 59 = .ok (.areturn, 1) := by decide +kernel
set_option maxRecDepth 20000 in
theorem ggX1_countServed_J6_bitCount_0f7a4 : GoodIn wsX1_countServed wsJ6_bitCount_0f7a4 := goodIn_r _ [7, 8, 9, 10] (by decide +kernel) (by decide +kernel)
set_option maxRecDepth 20000 in
theorem gX1_countServed_J6_bitCount_0f7a4 : GoodIn wsX1_countServed (va_wsS RX1 102 yJ6_bitCount_0f7a4 wsJ6_bitCount_0f7a4) := goodIn_app (goodIn_of _ (by decide +kernel)) ggX1_countServed_J6_bitCount_0f7a4
theorem dX1_countServed_0 : decode cX1_countServed 0 = .ok (.aload_n 0, 1) := by decide +kernel
theorem dX1_countServed_1 : decode cX1_countServed 1 = .ok (.getfield 51, 3) := by decide +kernel
theorem dX1_countServed_4 : decode cX1_countServed 4 = .ok (.getfield 99, 3) := by decide +kernel
theorem dX1_countServed_7 : decode cX1_countServed 7 = .ok (.iload_n 1, 1) := by decide +kernel
theorem dX1_countServed_8 : decode cX1_countServed 8 = .ok (.iaload, 1) := by decide +kernel
theorem dX1_countServed_9 : decode cX1_countServed 9 = .ok (.aload_n 0, 1) := by decide +kernel
theorem dX1_countServed_10 : decode cX1_countServed 10 = .ok (.getfield 63, 3) := by decide +kernel
theorem dX1_countServed_13 : decode cX1_countServed 13 = .ok (.iand, 1) := by decide +kernel
theorem dX1_countServed_14 : decode cX1_countServed 14 = .ok (.invokestatic 102, 3) := by decide +kernel
theorem dX1_countServed_17 : decode cX1_countServed 17 = .ok (.ireturn, 1) := by decide +kernel
set_option maxRecDepth 20000 in
theorem ggX1_measureLack_X0_copy : GoodIn wsX1_measureLack wsX0_copy := goodIn_r _ [11, 12, 13, 14, 15, 16, 52] (by decide +kernel) (by decide +kernel)
set_option maxRecDepth 20000 in
theorem gX1_measureLack_X0_copy : GoodIn wsX1_measureLack (wsV RX1 108 RX0 yX0_copy wsX0_copy) := goodIn_app (goodIn_of _ (by decide +kernel)) ggX1_measureLack_X0_copy
set_option maxRecDepth 20000 in
theorem ggX1_measureLack_X0_times : GoodIn wsX1_measureLack wsX0_times := goodIn_r _ [20, 12, 21, 52] (by decide +kernel) (by decide +kernel)
set_option maxRecDepth 20000 in
theorem gX1_measureLack_X0_times : GoodIn wsX1_measureLack (wsV RX1 115 RX0 yX0_times wsX0_times) := goodIn_app (goodIn_of _ (by decide +kernel)) ggX1_measureLack_X0_times
set_option maxRecDepth 20000 in
theorem ggX1_measureLack_X5_approves : GoodIn wsX1_measureLack wsX5_approves := goodIn_r _ [26, 27, 48, 49, 50, 51] (by decide +kernel) (by decide +kernel)
set_option maxRecDepth 20000 in
theorem gX1_measureLack_X5_approves : GoodIn wsX1_measureLack (wsV RX1 95 RX5 yX5_approves wsX5_approves) := goodIn_app (goodIn_of _ (by decide +kernel)) ggX1_measureLack_X5_approves
set_option maxRecDepth 20000 in
theorem ggX1_measureLack_X0_minus : GoodIn wsX1_measureLack wsX0_minus := goodIn_r _ [31, 12, 21, 52] (by decide +kernel) (by decide +kernel)
set_option maxRecDepth 20000 in
theorem gX1_measureLack_X0_minus : GoodIn wsX1_measureLack (wsV RX1 121 RX0 yX0_minus wsX0_minus) := goodIn_app (goodIn_of _ (by decide +kernel)) ggX1_measureLack_X0_minus
theorem dX1_measureLack_0 : decode cX1_measureLack 0 = .ok (.aload_n 2, 1) := by decide +kernel
theorem dX1_measureLack_1 : decode cX1_measureLack 1 = .ok (.aload_n 0, 1) := by decide +kernel
theorem dX1_measureLack_2 : decode cX1_measureLack 2 = .ok (.getfield 12, 3) := by decide +kernel
theorem dX1_measureLack_5 : decode cX1_measureLack 5 = .ok (.invokevirtual 108, 3) := by decide +kernel
theorem dX1_measureLack_8 : decode cX1_measureLack 8 = .ok (.aload_n 2, 1) := by decide +kernel
theorem dX1_measureLack_9 : decode cX1_measureLack 9 = .ok (.aload_n 0, 1) := by decide +kernel
theorem dX1_measureLack_10 : decode cX1_measureLack 10 = .ok (.getfield 51, 3) := by decide +kernel
theorem dX1_measureLack_13 : decode cX1_measureLack 13 = .ok (.getfield 112, 3) := by decide +kernel
theorem dX1_measureLack_16 : decode cX1_measureLack 16 = .ok (.iload_n 1, 1) := by decide +kernel
theorem dX1_measureLack_17 : decode cX1_measureLack 17 = .ok (.iaload, 1) := by decide +kernel
theorem dX1_measureLack_18 : decode cX1_measureLack 18 = .ok (.invokevirtual 115, 3) := by decide +kernel
theorem dX1_measureLack_21 : decode cX1_measureLack 21 = .ok (.iconst 0, 1) := by decide +kernel
theorem dX1_measureLack_22 : decode cX1_measureLack 22 = .ok (.istore_n 3, 1) := by decide +kernel
theorem dX1_measureLack_23 : decode cX1_measureLack 23 = .ok (.iload_n 3, 1) := by decide +kernel
theorem dX1_measureLack_24 : decode cX1_measureLack 24 = .ok (.aload_n 0, 1) := by decide +kernel
theorem dX1_measureLack_25 : decode cX1_measureLack 25 = .ok (.getfield 118, 3) := by decide +kernel
theorem dX1_measureLack_28 : decode cX1_measureLack 28 = .ok (.if_icmp .ge 41, 3) := by decide +kernel
theorem dX1_measureLack_31 : decode cX1_measureLack 31 = .ok (.aload_n 0, 1) := by decide +kernel
theorem dX1_measureLack_32 : decode cX1_measureLack 32 = .ok (.getfield 51, 3) := by decide +kernel
theorem dX1_measureLack_35 : decode cX1_measureLack 35 = .ok (.aload_n 0, 1) := by decide +kernel
theorem dX1_measureLack_36 : decode cX1_measureLack 36 = .ok (.getfield 29, 3) := by decide +kernel
theorem dX1_measureLack_39 : decode cX1_measureLack 39 = .ok (.iload_n 3, 1) := by decide +kernel
theorem dX1_measureLack_40 : decode cX1_measureLack 40 = .ok (.iaload, 1) := by decide +kernel
theorem dX1_measureLack_41 : decode cX1_measureLack 41 = .ok (.iload_n 1, 1) := by decide +kernel
theorem dX1_measureLack_42 : decode cX1_measureLack 42 = .ok (.invokevirtual 95, 3) := by decide +kernel
theorem dX1_measureLack_45 : decode cX1_measureLack 45 = .ok (.ifCond .eq 18, 3) := by decide +kernel
theorem dX1_measureLack_48 : decode cX1_measureLack 48 = .ok (.aload_n 2, 1) := by decide +kernel
theorem dX1_measureLack_49 : decode cX1_measureLack 49 = .ok (.aload_n 0, 1) := by decide +kernel
theorem dX1_measureLack_50 : decode cX1_measureLack 50 = .ok (.getfield 18, 3) := by decide +kernel
theorem dX1_measureLack_53 : decode cX1_measureLack 53 = .ok (.aload_n 0, 1) := by decide +kernel
theorem dX1_measureLack_54 : decode cX1_measureLack 54 = .ok (.getfield 29, 3) := by decide +kernel
theorem dX1_measureLack_57 : decode cX1_measureLack 57 = .ok (.iload_n 3, 1) := by decide +kernel
theorem dX1_measureLack_58 : decode cX1_measureLack 58 = .ok (.iaload, 1) := by decide +kernel
theorem dX1_measureLack_59 : decode cX1_measureLack 59 = .ok (.aaload, 1) := by decide +kernel
theorem dX1_measureLack_60 : decode cX1_measureLack 60 = .ok (.invokevirtual 121, 3) := by decide +kernel
theorem dX1_measureLack_63 : decode cX1_measureLack 63 = .ok (.iinc 3 1, 3) := by decide +kernel
theorem dX1_measureLack_66 : decode cX1_measureLack 66 = .ok (.goto (-43), 3) := by decide +kernel
theorem dX1_measureLack_69 : decode cX1_measureLack 69 = .ok (.return_, 1) := by decide +kernel
set_option maxRecDepth 20000 in
theorem ggX1_fillPurses_X5_countVoters : GoodIn wsX1_fillPurses wsX5_countVoters := goodIn_r _ [16, 17, 18, 19, 20, 21, 22, 23, 24, 58, 59, 60, 61] (by decide +kernel) (by decide +kernel)
set_option maxRecDepth 20000 in
theorem gX1_fillPurses_X5_countVoters : GoodIn wsX1_fillPurses (wsV RX1 124 RX5 yX5_countVoters wsX5_countVoters) := goodIn_app (goodIn_of _ (by decide +kernel)) ggX1_fillPurses_X5_countVoters
set_option maxRecDepth 20000 in
theorem ggX1_fillPurses_X0_set : GoodIn wsX1_fillPurses wsX0_set := goodIn_r _ [29, 30, 31, 32, 33, 34, 62] (by decide +kernel) (by decide +kernel)
set_option maxRecDepth 20000 in
theorem gX1_fillPurses_X0_set : GoodIn wsX1_fillPurses (wsV RX1 133 RX0 yX0_set wsX0_set) := goodIn_app (goodIn_of _ (by decide +kernel)) ggX1_fillPurses_X0_set
set_option maxRecDepth 20000 in
theorem ggX1_fillPurses_X5_hasVoter : GoodIn wsX1_fillPurses wsX5_hasVoter := goodIn_r _ [38, 17, 39, 40, 41, 58, 59, 60, 61] (by decide +kernel) (by decide +kernel)
set_option maxRecDepth 20000 in
theorem gX1_fillPurses_X5_hasVoter : GoodIn wsX1_fillPurses (wsV RX1 136 RX5 yX5_hasVoter wsX5_hasVoter) := goodIn_app (goodIn_of _ (by decide +kernel)) ggX1_fillPurses_X5_hasVoter
theorem dX1_fillPurses_0 : decode cX1_fillPurses 0 = .ok (.aload_n 0, 1) := by decide +kernel
theorem dX1_fillPurses_1 : decode cX1_fillPurses 1 = .ok (.getfield 51, 3) := by decide +kernel
theorem dX1_fillPurses_4 : decode cX1_fillPurses 4 = .ok (.invokevirtual 124, 3) := by decide +kernel
theorem dX1_fillPurses_7 : decode cX1_fillPurses 7 = .ok (.istore_n 2, 1) := by decide +kernel
theorem dX1_fillPurses_8 : decode cX1_fillPurses 8 = .ok (.aload_n 0, 1) := by decide +kernel
theorem dX1_fillPurses_9 : decode cX1_fillPurses 9 = .ok (.getfield 12, 3) := by decide +kernel
theorem dX1_fillPurses_12 : decode cX1_fillPurses 12 = .ok (.iload_n 2, 1) := by decide +kernel
theorem dX1_fillPurses_13 : decode cX1_fillPurses 13 = .ok (.iconst 1, 1) := by decide +kernel
theorem dX1_fillPurses_14 : decode cX1_fillPurses 14 = .ok (.invokestatic 127, 3) := by decide +kernel
theorem dX1_fillPurses_17 : decode cX1_fillPurses 17 = .ok (.invokevirtual 133, 3) := by decide +kernel
theorem dX1_fillPurses_20 : decode cX1_fillPurses 20 = .ok (.aload_n 0, 1) := by decide +kernel
theorem dX1_fillPurses_21 : decode cX1_fillPurses 21 = .ok (.iconst 0, 1) := by decide +kernel
theorem dX1_fillPurses_22 : decode cX1_fillPurses 22 = .ok (.putfield 118, 3) := by decide +kernel
theorem dX1_fillPurses_25 : decode cX1_fillPurses 25 = .ok (.iconst 0, 1) := by decide +kernel
theorem dX1_fillPurses_26 : decode cX1_fillPurses 26 = .ok (.istore_n 3, 1) := by decide +kernel
theorem dX1_fillPurses_27 : decode cX1_fillPurses 27 = .ok (.iload_n 3, 1) := by decide +kernel
theorem dX1_fillPurses_28 : decode cX1_fillPurses 28 = .ok (.bipush 48, 2) := by decide +kernel
theorem dX1_fillPurses_30 : decode cX1_fillPurses 30 = .ok (.if_icmp .ge 65, 3) := by decide +kernel
theorem dX1_fillPurses_33 : decode cX1_fillPurses 33 = .ok (.aload_n 0, 1) := by decide +kernel
theorem dX1_fillPurses_34 : decode cX1_fillPurses 34 = .ok (.getfield 25, 3) := by decide +kernel
theorem dX1_fillPurses_37 : decode cX1_fillPurses 37 = .ok (.iload_n 3, 1) := by decide +kernel
theorem dX1_fillPurses_38 : decode cX1_fillPurses 38 = .ok (.bipush 16, 2) := by decide +kernel
theorem dX1_fillPurses_40 : decode cX1_fillPurses 40 = .ok (.iastore, 1) := by decide +kernel
theorem dX1_fillPurses_41 : decode cX1_fillPurses 41 = .ok (.aload_n 0, 1) := by decide +kernel
theorem dX1_fillPurses_42 : decode cX1_fillPurses 42 = .ok (.getfield 51, 3) := by decide +kernel
theorem dX1_fillPurses_45 : decode cX1_fillPurses 45 = .ok (.iload_n 3, 1) := by decide +kernel
theorem dX1_fillPurses_46 : decode cX1_fillPurses 46 = .ok (.invokevirtual 136, 3) := by decide +kernel
theorem dX1_fillPurses_49 : decode cX1_fillPurses 49 = .ok (.ifCond .eq 40, 3) := by decide +kernel
theorem dX1_fillPurses_52 : decode cX1_fillPurses 52 = .ok (.aload_n 0, 1) := by decide +kernel
theorem dX1_fillPurses_53 : decode cX1_fillPurses 53 = .ok (.getfield 18, 3) := by decide +kernel
theorem dX1_fillPurses_56 : decode cX1_fillPurses 56 = .ok (.iload_n 3, 1) := by decide +kernel
theorem dX1_fillPurses_57 : decode cX1_fillPurses 57 = .ok (.aaload, 1) := by decide +kernel
theorem dX1_fillPurses_58 : decode cX1_fillPurses 58 = .ok (.aload_n 0, 1) := by decide +kernel
theorem dX1_fillPurses_59 : decode cX1_fillPurses 59 = .ok (.getfield 51, 3) := by decide +kernel
theorem dX1_fillPurses_62 : decode cX1_fillPurses 62 = .ok (.getfield 92, 3) := by decide +kernel
theorem dX1_fillPurses_65 : decode cX1_fillPurses 65 = .ok (.iload_n 2, 1) := by decide +kernel
theorem dX1_fillPurses_66 : decode cX1_fillPurses 66 = .ok (.iload_n 1, 1) := by decide +kernel
theorem dX1_fillPurses_67 : decode cX1_fillPurses 67 = .ok (.imul, 1) := by decide +kernel
theorem dX1_fillPurses_68 : decode cX1_fillPurses 68 = .ok (.iadd, 1) := by decide +kernel
theorem dX1_fillPurses_69 : decode cX1_fillPurses 69 = .ok (.invokevirtual 133, 3) := by decide +kernel
theorem dX1_fillPurses_72 : decode cX1_fillPurses 72 = .ok (.aload_n 0, 1) := by decide +kernel
theorem dX1_fillPurses_73 : decode cX1_fillPurses 73 = .ok (.getfield 29, 3) := by decide +kernel
theorem dX1_fillPurses_76 : decode cX1_fillPurses 76 = .ok (.aload_n 0, 1) := by decide +kernel
theorem dX1_fillPurses_77 : decode cX1_fillPurses 77 = .ok (.dup, 1) := by decide +kernel
theorem dX1_fillPurses_78 : decode cX1_fillPurses 78 = .ok (.getfield 118, 3) := by decide +kernel
theorem dX1_fillPurses_81 : decode cX1_fillPurses 81 = .ok (.dup_x1, 1) := by decide +kernel
theorem dX1_fillPurses_82 : decode cX1_fillPurses 82 = .ok (.iconst 1, 1) := by decide +kernel
theorem dX1_fillPurses_83 : decode cX1_fillPurses 83 = .ok (.iadd, 1) := by decide +kernel
theorem dX1_fillPurses_84 : decode cX1_fillPurses 84 = .ok (.putfield 118, 3) := by decide +kernel
theorem dX1_fillPurses_87 : decode cX1_fillPurses 87 = .ok (.iload_n 3, 1) := by decide +kernel
theorem dX1_fillPurses_88 : decode cX1_fillPurses 88 = .ok (.iastore, 1) := by decide +kernel
theorem dX1_fillPurses_89 : decode cX1_fillPurses 89 = .ok (.iinc 3 1, 3) := by decide +kernel
theorem dX1_fillPurses_92 : decode cX1_fillPurses 92 = .ok (.goto (-65), 3) := by decide +kernel
theorem dX1_fillPurses_95 : decode cX1_fillPurses 95 = .ok (.return_, 1) := by decide +kernel
set_option maxRecDepth 20000 in
theorem ggX1_findCheapest_X1_findShare : GoodIn wsX1_findCheapest wsX1_findShare := goodIn_r _ [6, 7, 8, 9, 10, 11, 12, 13, 14, 15, 16, 17, 18, 19, 20, 21, 22, 23, 24, 25, 26, 27, 28, 29, 30, 31, 32, 33, 5, 34, 35, 36, 37, 38, 39, 40, 41, 42, 43, 44, 45, 46, 47, 48, 49, 50, 51, 52, 53, 54, 55, 56, 57, 58, 73, 74, 75, 76, 77, 78, 79, 80, 81, 82, 83, 84, 85, 86, 87, 88, 89, 90, 91, 92, 93, 94, 95, 96, 97] (by decide +kernel) (by decide +kernel)
set_option maxRecDepth 20000 in
theorem gX1_findCheapest_X1_findShare : GoodIn wsX1_findCheapest (wsV RX1 140 RX1 yX1_findShare wsX1_findShare) := goodIn_app (goodIn_of _ (by decide +kernel)) ggX1_findCheapest_X1_findShare
set_option maxRecDepth 20000 in
theorem ggX1_findCheapest_X1_isBetter : GoodIn wsX1_findCheapest wsX1_isBetter := goodIn_r _ [62, 7, 63, 10, 11, 64, 65, 66, 44, 67, 46, 48, 47, 68, 49, 17, 18, 19, 20, 21, 22, 23, 24, 25, 50, 27, 28, 29, 30, 51, 52, 53, 54, 73, 74, 75, 76, 77, 78, 79, 80, 81, 82, 83, 84, 85, 86, 87, 88, 93, 94, 95, 96, 89, 90, 91, 92, 97] (by decide +kernel) (by decide +kernel)
set_option maxRecDepth 20000 in
theorem gX1_findCheapest_X1_isBetter : GoodIn wsX1_findCheapest (wsV RX1 143 RX1 yX1_isBetter wsX1_isBetter) := goodIn_app (goodIn_of _ (by decide +kernel)) ggX1_findCheapest_X1_isBetter
set_option maxRecDepth 20000 in
theorem ggX1_findCheapest_X1_swapShares : GoodIn wsX1_findCheapest wsX1_swapShares := goodIn_r _ [72, 63, 7, 73, 74, 75, 76, 77, 78, 79, 80, 81, 82, 83, 84, 85, 86, 87, 88] (by decide +kernel) (by decide +kernel)
set_option maxRecDepth 20000 in
theorem gX1_findCheapest_X1_swapShares : GoodIn wsX1_findCheapest (wsV RX1 146 RX1 yX1_swapShares wsX1_swapShares) := goodIn_app (goodIn_of _ (by decide +kernel)) ggX1_findCheapest_X1_swapShares
theorem dX1_findCheapest_0 : decode cX1_findCheapest 0 = .ok (.iconst (-1), 1) := by decide +kernel
theorem dX1_findCheapest_1 : decode cX1_findCheapest 1 = .ok (.istore_n 1, 1) := by decide +kernel
theorem dX1_findCheapest_2 : decode cX1_findCheapest 2 = .ok (.iconst 0, 1) := by decide +kernel
theorem dX1_findCheapest_3 : decode cX1_findCheapest 3 = .ok (.istore_n 2, 1) := by decide +kernel
theorem dX1_findCheapest_4 : decode cX1_findCheapest 4 = .ok (.iload_n 2, 1) := by decide +kernel
theorem dX1_findCheapest_5 : decode cX1_findCheapest 5 = .ok (.bipush 16, 2) := by decide +kernel
theorem dX1_findCheapest_7 : decode cX1_findCheapest 7 = .ok (.if_icmp .ge 68, 3) := by decide +kernel
theorem dX1_findCheapest_10 : decode cX1_findCheapest 10 = .ok (.aload_n 0, 1) := by decide +kernel
theorem dX1_findCheapest_11 : decode cX1_findCheapest 11 = .ok (.getfield 75, 3) := by decide +kernel
theorem dX1_findCheapest_14 : decode cX1_findCheapest 14 = .ok (.iload_n 2, 1) := by decide +kernel
theorem dX1_findCheapest_15 : decode cX1_findCheapest 15 = .ok (.ishr, 1) := by decide +kernel
theorem dX1_findCheapest_16 : decode cX1_findCheapest 16 = .ok (.iconst 1, 1) := by decide +kernel
theorem dX1_findCheapest_17 : decode cX1_findCheapest 17 = .ok (.iand, 1) := by decide +kernel
theorem dX1_findCheapest_18 : decode cX1_findCheapest 18 = .ok (.ifCond .ne 6, 3) := by decide +kernel
theorem dX1_findCheapest_21 : decode cX1_findCheapest 21 = .ok (.goto 48, 3) := by decide +kernel
theorem dX1_findCheapest_24 : decode cX1_findCheapest 24 = .ok (.aload_n 0, 1) := by decide +kernel
theorem dX1_findCheapest_25 : decode cX1_findCheapest 25 = .ok (.iload_n 2, 1) := by decide +kernel
theorem dX1_findCheapest_26 : decode cX1_findCheapest 26 = .ok (.invokevirtual 140, 3) := by decide +kernel
theorem dX1_findCheapest_29 : decode cX1_findCheapest 29 = .ok (.ifCond .ne 20, 3) := by decide +kernel
theorem dX1_findCheapest_32 : decode cX1_findCheapest 32 = .ok (.aload_n 0, 1) := by decide +kernel
theorem dX1_findCheapest_33 : decode cX1_findCheapest 33 = .ok (.dup, 1) := by decide +kernel
theorem dX1_findCheapest_34 : decode cX1_findCheapest 34 = .ok (.getfield 75, 3) := by decide +kernel
theorem dX1_findCheapest_37 : decode cX1_findCheapest 37 = .ok (.iconst 1, 1) := by decide +kernel
theorem dX1_findCheapest_38 : decode cX1_findCheapest 38 = .ok (.iload_n 2, 1) := by decide +kernel
theorem dX1_findCheapest_39 : decode cX1_findCheapest 39 = .ok (.ishl, 1) := by decide +kernel
theorem dX1_findCheapest_40 : decode cX1_findCheapest 40 = .ok (.iconst (-1), 1) := by decide +kernel
theorem dX1_findCheapest_41 : decode cX1_findCheapest 41 = .ok (.ixor, 1) := by decide +kernel
theorem dX1_findCheapest_42 : decode cX1_findCheapest 42 = .ok (.iand, 1) := by decide +kernel
theorem dX1_findCheapest_43 : decode cX1_findCheapest 43 = .ok (.putfield 75, 3) := by decide +kernel
theorem dX1_findCheapest_46 : decode cX1_findCheapest 46 = .ok (.goto 23, 3) := by decide +kernel
theorem dX1_findCheapest_49 : decode cX1_findCheapest 49 = .ok (.iload_n 1, 1) := by decide +kernel
theorem dX1_findCheapest_50 : decode cX1_findCheapest 50 = .ok (.iconst (-1), 1) := by decide +kernel
theorem dX1_findCheapest_51 : decode cX1_findCheapest 51 = .ok (.if_icmp .eq 12, 3) := by decide +kernel
theorem dX1_findCheapest_54 : decode cX1_findCheapest 54 = .ok (.aload_n 0, 1) := by decide +kernel
theorem dX1_findCheapest_55 : decode cX1_findCheapest 55 = .ok (.iload_n 2, 1) := by decide +kernel
theorem dX1_findCheapest_56 : decode cX1_findCheapest 56 = .ok (.iload_n 1, 1) := by decide +kernel
theorem dX1_findCheapest_57 : decode cX1_findCheapest 57 = .ok (.invokevirtual 143, 3) := by decide +kernel
theorem dX1_findCheapest_60 : decode cX1_findCheapest 60 = .ok (.ifCond .eq 9, 3) := by decide +kernel
theorem dX1_findCheapest_63 : decode cX1_findCheapest 63 = .ok (.iload_n 2, 1) := by decide +kernel
theorem dX1_findCheapest_64 : decode cX1_findCheapest 64 = .ok (.istore_n 1, 1) := by decide +kernel
theorem dX1_findCheapest_65 : decode cX1_findCheapest 65 = .ok (.aload_n 0, 1) := by decide +kernel
theorem dX1_findCheapest_66 : decode cX1_findCheapest 66 = .ok (.invokevirtual 146, 3) := by decide +kernel
theorem dX1_findCheapest_69 : decode cX1_findCheapest 69 = .ok (.iinc 2 1, 3) := by decide +kernel
theorem dX1_findCheapest_72 : decode cX1_findCheapest 72 = .ok (.goto (-68), 3) := by decide +kernel
theorem dX1_findCheapest_75 : decode cX1_findCheapest 75 = .ok (.iload_n 1, 1) := by decide +kernel
theorem dX1_findCheapest_76 : decode cX1_findCheapest 76 = .ok (.ireturn, 1) := by decide +kernel
set_option maxRecDepth 20000 in
theorem ggX1_isBetter_X3_against : GoodIn wsX1_isBetter wsX3_against := goodIn_r _ [9, 10, 11, 12, 13, 14, 15, 16, 17, 18, 19, 20, 21, 22, 23, 24, 25, 26, 27, 28, 29, 30, 31, 32, 53, 54, 55, 56, 57] (by decide +kernel) (by decide +kernel)
set_option maxRecDepth 20000 in
theorem gX1_isBetter_X3_against : GoodIn wsX1_isBetter (wsV RX1 149 RX3 yX3_against wsX3_against) := goodIn_app (goodIn_of _ (by decide +kernel)) ggX1_isBetter_X3_against
theorem dX1_isBetter_0 : decode cX1_isBetter 0 = .ok (.aload_n 0, 1) := by decide +kernel
theorem dX1_isBetter_1 : decode cX1_isBetter 1 = .ok (.getfield 48, 3) := by decide +kernel
theorem dX1_isBetter_4 : decode cX1_isBetter 4 = .ok (.aload_n 0, 1) := by decide +kernel
theorem dX1_isBetter_5 : decode cX1_isBetter 5 = .ok (.getfield 44, 3) := by decide +kernel
theorem dX1_isBetter_8 : decode cX1_isBetter 8 = .ok (.invokevirtual 149, 3) := by decide +kernel
theorem dX1_isBetter_11 : decode cX1_isBetter 11 = .ok (.istore_n 3, 1) := by decide +kernel
theorem dX1_isBetter_12 : decode cX1_isBetter 12 = .ok (.iload_n 3, 1) := by decide +kernel
theorem dX1_isBetter_13 : decode cX1_isBetter 13 = .ok (.ifCond .lt 28, 3) := by decide +kernel
theorem dX1_isBetter_16 : decode cX1_isBetter 16 = .ok (.iload_n 3, 1) := by decide +kernel
theorem dX1_isBetter_17 : decode cX1_isBetter 17 = .ok (.ifCond .ne 28, 3) := by decide +kernel
theorem dX1_isBetter_20 : decode cX1_isBetter 20 = .ok (.aload_n 0, 1) := by decide +kernel
theorem dX1_isBetter_21 : decode cX1_isBetter 21 = .ok (.getfield 51, 3) := by decide +kernel
theorem dX1_isBetter_24 : decode cX1_isBetter 24 = .ok (.getfield 112, 3) := by decide +kernel
theorem dX1_isBetter_27 : decode cX1_isBetter 27 = .ok (.iload_n 1, 1) := by decide +kernel
theorem dX1_isBetter_28 : decode cX1_isBetter 28 = .ok (.iaload, 1) := by decide +kernel
theorem dX1_isBetter_29 : decode cX1_isBetter 29 = .ok (.aload_n 0, 1) := by decide +kernel
theorem dX1_isBetter_30 : decode cX1_isBetter 30 = .ok (.getfield 51, 3) := by decide +kernel
theorem dX1_isBetter_33 : decode cX1_isBetter 33 = .ok (.getfield 112, 3) := by decide +kernel
theorem dX1_isBetter_36 : decode cX1_isBetter 36 = .ok (.iload_n 2, 1) := by decide +kernel
theorem dX1_isBetter_37 : decode cX1_isBetter 37 = .ok (.iaload, 1) := by decide +kernel
theorem dX1_isBetter_38 : decode cX1_isBetter 38 = .ok (.if_icmp .ge 7, 3) := by decide +kernel
theorem dX1_isBetter_41 : decode cX1_isBetter 41 = .ok (.iconst 1, 1) := by decide +kernel
theorem dX1_isBetter_42 : decode cX1_isBetter 42 = .ok (.goto 4, 3) := by decide +kernel
theorem dX1_isBetter_45 : decode cX1_isBetter 45 = .ok (.iconst 0, 1) := by decide +kernel
theorem dX1_isBetter_46 : decode cX1_isBetter 46 = .ok (.ireturn, 1) := by decide +kernel
theorem dX1_swapShares_0 : decode cX1_swapShares 0 = .ok (.aload_n 0, 1) := by decide +kernel
theorem dX1_swapShares_1 : decode cX1_swapShares 1 = .ok (.getfield 44, 3) := by decide +kernel
theorem dX1_swapShares_4 : decode cX1_swapShares 4 = .ok (.astore_n 1, 1) := by decide +kernel
theorem dX1_swapShares_5 : decode cX1_swapShares 5 = .ok (.aload_n 0, 1) := by decide +kernel
theorem dX1_swapShares_6 : decode cX1_swapShares 6 = .ok (.aload_n 0, 1) := by decide +kernel
theorem dX1_swapShares_7 : decode cX1_swapShares 7 = .ok (.getfield 48, 3) := by decide +kernel
theorem dX1_swapShares_10 : decode cX1_swapShares 10 = .ok (.putfield 44, 3) := by decide +kernel
theorem dX1_swapShares_13 : decode cX1_swapShares 13 = .ok (.aload_n 0, 1) := by decide +kernel
theorem dX1_swapShares_14 : decode cX1_swapShares 14 = .ok (.aload_n 1, 1) := by decide +kernel
theorem dX1_swapShares_15 : decode cX1_swapShares 15 = .ok (.putfield 48, 3) := by decide +kernel
theorem dX1_swapShares_18 : decode cX1_swapShares 18 = .ok (.return_, 1) := by decide +kernel
set_option maxRecDepth 20000 in
theorem ggX1_findShare_X0_copy : GoodIn wsX1_findShare wsX0_copy := goodIn_r _ [14, 15, 16, 17, 18, 19, 78] (by decide +kernel) (by decide +kernel)
set_option maxRecDepth 20000 in
theorem gX1_findShare_X0_copy : GoodIn wsX1_findShare (wsV RX1 108 RX0 yX0_copy wsX0_copy) := goodIn_app (goodIn_of _ (by decide +kernel)) ggX1_findShare_X0_copy
set_option maxRecDepth 20000 in
theorem ggX1_findShare_X0_times : GoodIn wsX1_findShare wsX0_times := goodIn_r _ [23, 15, 24, 78] (by decide +kernel) (by decide +kernel)
set_option maxRecDepth 20000 in
theorem gX1_findShare_X0_times : GoodIn wsX1_findShare (wsV RX1 115 RX0 yX0_times wsX0_times) := goodIn_app (goodIn_of _ (by decide +kernel)) ggX1_findShare_X0_times
set_option maxRecDepth 20000 in
theorem ggX1_findShare_X1_countPayers : GoodIn wsX1_findShare wsX1_countPayers := goodIn_r _ [29, 7, 4, 8, 30, 31, 32, 33, 34, 35, 54, 55, 56, 57, 58, 59, 60, 61, 62, 63, 64, 65, 66, 67, 68, 69, 74, 75, 76, 77] (by decide +kernel) (by decide +kernel)
set_option maxRecDepth 20000 in
theorem gX1_findShare_X1_countPayers : GoodIn wsX1_findShare (wsV RX1 156 RX1 yX1_countPayers wsX1_countPayers) := goodIn_app (goodIn_of _ (by decide +kernel)) ggX1_findShare_X1_countPayers
set_option maxRecDepth 20000 in
theorem ggX1_findShare_X5_approves : GoodIn wsX1_findShare wsX5_approves := goodIn_r _ [34, 35, 74, 75, 76, 77] (by decide +kernel) (by decide +kernel)
set_option maxRecDepth 20000 in
theorem gX1_findShare_X5_approves : GoodIn wsX1_findShare (wsV RX1 95 RX5 yX5_approves wsX5_approves) := goodIn_app (goodIn_of _ (by decide +kernel)) ggX1_findShare_X5_approves
set_option maxRecDepth 20000 in
theorem ggX1_findShare_X3_isWithin : GoodIn wsX1_findShare wsX3_isWithin := goodIn_r _ [40, 41, 42, 43, 44, 11, 12, 13, 14, 15, 16, 17, 18, 19, 45, 21, 22, 23, 24, 46, 47, 48, 49, 70, 71, 72, 73, 78] (by decide +kernel) (by decide +kernel)
set_option maxRecDepth 20000 in
theorem gX1_findShare_X3_isWithin : GoodIn wsX1_findShare (wsV RX1 161 RX3 yX3_isWithin wsX3_isWithin) := goodIn_app (goodIn_of _ (by decide +kernel)) ggX1_findShare_X3_isWithin
set_option maxRecDepth 20000 in
theorem ggX1_findShare_X0_minus : GoodIn wsX1_findShare wsX0_minus := goodIn_r _ [53, 15, 24, 78] (by decide +kernel) (by decide +kernel)
set_option maxRecDepth 20000 in
theorem gX1_findShare_X0_minus : GoodIn wsX1_findShare (wsV RX1 121 RX0 yX0_minus wsX0_minus) := goodIn_app (goodIn_of _ (by decide +kernel)) ggX1_findShare_X0_minus
theorem dX1_findShare_0 : decode cX1_findShare 0 = .ok (.aload_n 0, 1) := by decide +kernel
theorem dX1_findShare_1 : decode cX1_findShare 1 = .ok (.getfield 48, 3) := by decide +kernel
theorem dX1_findShare_4 : decode cX1_findShare 4 = .ok (.getfield 153, 3) := by decide +kernel
theorem dX1_findShare_7 : decode cX1_findShare 7 = .ok (.aload_n 0, 1) := by decide +kernel
theorem dX1_findShare_8 : decode cX1_findShare 8 = .ok (.getfield 12, 3) := by decide +kernel
theorem dX1_findShare_11 : decode cX1_findShare 11 = .ok (.invokevirtual 108, 3) := by decide +kernel
theorem dX1_findShare_14 : decode cX1_findShare 14 = .ok (.aload_n 0, 1) := by decide +kernel
theorem dX1_findShare_15 : decode cX1_findShare 15 = .ok (.getfield 48, 3) := by decide +kernel
theorem dX1_findShare_18 : decode cX1_findShare 18 = .ok (.getfield 153, 3) := by decide +kernel
theorem dX1_findShare_21 : decode cX1_findShare 21 = .ok (.aload_n 0, 1) := by decide +kernel
theorem dX1_findShare_22 : decode cX1_findShare 22 = .ok (.getfield 51, 3) := by decide +kernel
theorem dX1_findShare_25 : decode cX1_findShare 25 = .ok (.getfield 112, 3) := by decide +kernel
theorem dX1_findShare_28 : decode cX1_findShare 28 = .ok (.iload_n 1, 1) := by decide +kernel
theorem dX1_findShare_29 : decode cX1_findShare 29 = .ok (.iaload, 1) := by decide +kernel
theorem dX1_findShare_30 : decode cX1_findShare 30 = .ok (.invokevirtual 115, 3) := by decide +kernel
theorem dX1_findShare_33 : decode cX1_findShare 33 = .ok (.aload_n 0, 1) := by decide +kernel
theorem dX1_findShare_34 : decode cX1_findShare 34 = .ok (.getfield 48, 3) := by decide +kernel
theorem dX1_findShare_37 : decode cX1_findShare 37 = .ok (.aload_n 0, 1) := by decide +kernel
theorem dX1_findShare_38 : decode cX1_findShare 38 = .ok (.iload_n 1, 1) := by decide +kernel
theorem dX1_findShare_39 : decode cX1_findShare 39 = .ok (.invokevirtual 156, 3) := by decide +kernel
theorem dX1_findShare_42 : decode cX1_findShare 42 = .ok (.putfield 159, 3) := by decide +kernel
theorem dX1_findShare_45 : decode cX1_findShare 45 = .ok (.iconst 0, 1) := by decide +kernel
theorem dX1_findShare_46 : decode cX1_findShare 46 = .ok (.istore_n 2, 1) := by decide +kernel
theorem dX1_findShare_47 : decode cX1_findShare 47 = .ok (.iload_n 2, 1) := by decide +kernel
theorem dX1_findShare_48 : decode cX1_findShare 48 = .ok (.aload_n 0, 1) := by decide +kernel
theorem dX1_findShare_49 : decode cX1_findShare 49 = .ok (.getfield 118, 3) := by decide +kernel
theorem dX1_findShare_52 : decode cX1_findShare 52 = .ok (.if_icmp .ge 78, 3) := by decide +kernel
theorem dX1_findShare_55 : decode cX1_findShare 55 = .ok (.aload_n 0, 1) := by decide +kernel
theorem dX1_findShare_56 : decode cX1_findShare 56 = .ok (.getfield 29, 3) := by decide +kernel
theorem dX1_findShare_59 : decode cX1_findShare 59 = .ok (.iload_n 2, 1) := by decide +kernel
theorem dX1_findShare_60 : decode cX1_findShare 60 = .ok (.iaload, 1) := by decide +kernel
theorem dX1_findShare_61 : decode cX1_findShare 61 = .ok (.istore_n 3, 1) := by decide +kernel
theorem dX1_findShare_62 : decode cX1_findShare 62 = .ok (.aload_n 0, 1) := by decide +kernel
theorem dX1_findShare_63 : decode cX1_findShare 63 = .ok (.getfield 51, 3) := by decide +kernel
theorem dX1_findShare_66 : decode cX1_findShare 66 = .ok (.iload_n 3, 1) := by decide +kernel
theorem dX1_findShare_67 : decode cX1_findShare 67 = .ok (.iload_n 1, 1) := by decide +kernel
theorem dX1_findShare_68 : decode cX1_findShare 68 = .ok (.invokevirtual 95, 3) := by decide +kernel
theorem dX1_findShare_71 : decode cX1_findShare 71 = .ok (.ifCond .ne 6, 3) := by decide +kernel
theorem dX1_findShare_74 : decode cX1_findShare 74 = .ok (.goto 50, 3) := by decide +kernel
theorem dX1_findShare_77 : decode cX1_findShare 77 = .ok (.aload_n 0, 1) := by decide +kernel
theorem dX1_findShare_78 : decode cX1_findShare 78 = .ok (.getfield 48, 3) := by decide +kernel
theorem dX1_findShare_81 : decode cX1_findShare 81 = .ok (.aload_n 0, 1) := by decide +kernel
theorem dX1_findShare_82 : decode cX1_findShare 82 = .ok (.getfield 18, 3) := by decide +kernel
theorem dX1_findShare_85 : decode cX1_findShare 85 = .ok (.iload_n 3, 1) := by decide +kernel
theorem dX1_findShare_86 : decode cX1_findShare 86 = .ok (.aaload, 1) := by decide +kernel
theorem dX1_findShare_87 : decode cX1_findShare 87 = .ok (.invokevirtual 161, 3) := by decide +kernel
theorem dX1_findShare_90 : decode cX1_findShare 90 = .ok (.ifCond .eq 5, 3) := by decide +kernel
theorem dX1_findShare_93 : decode cX1_findShare 93 = .ok (.iconst 1, 1) := by decide +kernel
theorem dX1_findShare_94 : decode cX1_findShare 94 = .ok (.ireturn, 1) := by decide +kernel
theorem dX1_findShare_95 : decode cX1_findShare 95 = .ok (.aload_n 0, 1) := by decide +kernel
theorem dX1_findShare_96 : decode cX1_findShare 96 = .ok (.getfield 48, 3) := by decide +kernel
theorem dX1_findShare_99 : decode cX1_findShare 99 = .ok (.getfield 153, 3) := by decide +kernel
theorem dX1_findShare_102 : decode cX1_findShare 102 = .ok (.aload_n 0, 1) := by decide +kernel
theorem dX1_findShare_103 : decode cX1_findShare 103 = .ok (.getfield 18, 3) := by decide +kernel
theorem dX1_findShare_106 : decode cX1_findShare 106 = .ok (.iload_n 3, 1) := by decide +kernel
theorem dX1_findShare_107 : decode cX1_findShare 107 = .ok (.aaload, 1) := by decide +kernel
theorem dX1_findShare_108 : decode cX1_findShare 108 = .ok (.invokevirtual 121, 3) := by decide +kernel
theorem dX1_findShare_111 : decode cX1_findShare 111 = .ok (.aload_n 0, 1) := by decide +kernel
theorem dX1_findShare_112 : decode cX1_findShare 112 = .ok (.getfield 48, 3) := by decide +kernel
theorem dX1_findShare_115 : decode cX1_findShare 115 = .ok (.dup, 1) := by decide +kernel
theorem dX1_findShare_116 : decode cX1_findShare 116 = .ok (.getfield 159, 3) := by decide +kernel
theorem dX1_findShare_119 : decode cX1_findShare 119 = .ok (.iconst 1, 1) := by decide +kernel
theorem dX1_findShare_120 : decode cX1_findShare 120 = .ok (.isub, 1) := by decide +kernel
theorem dX1_findShare_121 : decode cX1_findShare 121 = .ok (.putfield 159, 3) := by decide +kernel
theorem dX1_findShare_124 : decode cX1_findShare 124 = .ok (.iinc 2 1, 3) := by decide +kernel
theorem dX1_findShare_127 : decode cX1_findShare 127 = .ok (.goto (-80), 3) := by decide +kernel
theorem dX1_findShare_130 : decode cX1_findShare 130 = .ok (.iconst 0, 1) := by decide +kernel
theorem dX1_findShare_131 : decode cX1_findShare 131 = .ok (.ireturn, 1) := by decide +kernel
set_option maxRecDepth 20000 in
theorem ggX1_countPayers_X5_approves : GoodIn wsX1_countPayers wsX5_approves := goodIn_r _ [8, 9, 26, 27, 28, 29] (by decide +kernel) (by decide +kernel)
set_option maxRecDepth 20000 in
theorem gX1_countPayers_X5_approves : GoodIn wsX1_countPayers (wsV RX1 95 RX5 yX5_approves wsX5_approves) := goodIn_app (goodIn_of _ (by decide +kernel)) ggX1_countPayers_X5_approves
theorem dX1_countPayers_0 : decode cX1_countPayers 0 = .ok (.iconst 0, 1) := by decide +kernel
theorem dX1_countPayers_1 : decode cX1_countPayers 1 = .ok (.istore_n 2, 1) := by decide +kernel
theorem dX1_countPayers_2 : decode cX1_countPayers 2 = .ok (.iconst 0, 1) := by decide +kernel
theorem dX1_countPayers_3 : decode cX1_countPayers 3 = .ok (.istore_n 3, 1) := by decide +kernel
theorem dX1_countPayers_4 : decode cX1_countPayers 4 = .ok (.iload_n 3, 1) := by decide +kernel
theorem dX1_countPayers_5 : decode cX1_countPayers 5 = .ok (.aload_n 0, 1) := by decide +kernel
theorem dX1_countPayers_6 : decode cX1_countPayers 6 = .ok (.getfield 118, 3) := by decide +kernel
theorem dX1_countPayers_9 : decode cX1_countPayers 9 = .ok (.if_icmp .ge 29, 3) := by decide +kernel
theorem dX1_countPayers_12 : decode cX1_countPayers 12 = .ok (.aload_n 0, 1) := by decide +kernel
theorem dX1_countPayers_13 : decode cX1_countPayers 13 = .ok (.getfield 51, 3) := by decide +kernel
theorem dX1_countPayers_16 : decode cX1_countPayers 16 = .ok (.aload_n 0, 1) := by decide +kernel
theorem dX1_countPayers_17 : decode cX1_countPayers 17 = .ok (.getfield 29, 3) := by decide +kernel
theorem dX1_countPayers_20 : decode cX1_countPayers 20 = .ok (.iload_n 3, 1) := by decide +kernel
theorem dX1_countPayers_21 : decode cX1_countPayers 21 = .ok (.iaload, 1) := by decide +kernel
theorem dX1_countPayers_22 : decode cX1_countPayers 22 = .ok (.iload_n 1, 1) := by decide +kernel
theorem dX1_countPayers_23 : decode cX1_countPayers 23 = .ok (.invokevirtual 95, 3) := by decide +kernel
theorem dX1_countPayers_26 : decode cX1_countPayers 26 = .ok (.ifCond .eq 6, 3) := by decide +kernel
theorem dX1_countPayers_29 : decode cX1_countPayers 29 = .ok (.iinc 2 1, 3) := by decide +kernel
theorem dX1_countPayers_32 : decode cX1_countPayers 32 = .ok (.iinc 3 1, 3) := by decide +kernel
theorem dX1_countPayers_35 : decode cX1_countPayers 35 = .ok (.goto (-31), 3) := by decide +kernel
theorem dX1_countPayers_38 : decode cX1_countPayers 38 = .ok (.iload_n 2, 1) := by decide +kernel
theorem dX1_countPayers_39 : decode cX1_countPayers 39 = .ok (.ireturn, 1) := by decide +kernel
set_option maxRecDepth 20000 in
theorem ggX1_pay_X0_times : GoodIn wsX1_pay wsX0_times := goodIn_r _ [21, 22, 23, 89] (by decide +kernel) (by decide +kernel)
set_option maxRecDepth 20000 in
theorem gX1_pay_X0_times : GoodIn wsX1_pay (wsV RX1 115 RX0 yX0_times wsX0_times) := goodIn_app (goodIn_of _ (by decide +kernel)) ggX1_pay_X0_times
set_option maxRecDepth 20000 in
theorem ggX1_pay_X0_copy : GoodIn wsX1_pay wsX0_copy := goodIn_r _ [27, 22, 28, 29, 30, 31, 89] (by decide +kernel) (by decide +kernel)
set_option maxRecDepth 20000 in
theorem gX1_pay_X0_copy : GoodIn wsX1_pay (wsV RX1 108 RX0 yX0_copy wsX0_copy) := goodIn_app (goodIn_of _ (by decide +kernel)) ggX1_pay_X0_copy
set_option maxRecDepth 20000 in
theorem ggX1_pay_X5_approves : GoodIn wsX1_pay wsX5_approves := goodIn_r _ [36, 37, 85, 86, 87, 88] (by decide +kernel) (by decide +kernel)
set_option maxRecDepth 20000 in
theorem gX1_pay_X5_approves : GoodIn wsX1_pay (wsV RX1 95 RX5 yX5_approves wsX5_approves) := goodIn_app (goodIn_of _ (by decide +kernel)) ggX1_pay_X5_approves
set_option maxRecDepth 20000 in
theorem ggX1_pay_X1_charge : GoodIn wsX1_pay wsX1_charge := goodIn_r _ [42, 9, 5, 43, 44, 45, 46, 47, 20, 48, 22, 23, 49, 50, 51, 52, 24, 25, 26, 27, 28, 29, 30, 31, 53, 54, 55, 56, 57, 58, 59, 60, 65, 66, 67, 68, 69, 70, 71, 72, 73, 74, 75, 76, 77, 78, 79, 80, 89] (by decide +kernel) (by decide +kernel)
set_option maxRecDepth 20000 in
theorem gX1_pay_X1_charge : GoodIn wsX1_pay (wsV RX1 165 RX1 yX1_charge wsX1_charge) := goodIn_app (goodIn_of _ (by decide +kernel)) ggX1_pay_X1_charge
set_option maxRecDepth 20000 in
theorem ggX1_pay_X0_isZero : GoodIn wsX1_pay wsX0_isZero := goodIn_r _ [64, 22, 89] (by decide +kernel) (by decide +kernel)
set_option maxRecDepth 20000 in
theorem gX1_pay_X0_isZero : GoodIn wsX1_pay (wsV RX1 168 RX0 yX0_isZero wsX0_isZero) := goodIn_app (goodIn_of _ (by decide +kernel)) ggX1_pay_X0_isZero
theorem dX1_pay_0 : decode cX1_pay 0 = .ok (.aload_n 0, 1) := by decide +kernel
theorem dX1_pay_1 : decode cX1_pay 1 = .ok (.getfield 12, 3) := by decide +kernel
theorem dX1_pay_4 : decode cX1_pay 4 = .ok (.aload_n 0, 1) := by decide +kernel
theorem dX1_pay_5 : decode cX1_pay 5 = .ok (.getfield 44, 3) := by decide +kernel
theorem dX1_pay_8 : decode cX1_pay 8 = .ok (.getfield 159, 3) := by decide +kernel
theorem dX1_pay_11 : decode cX1_pay 11 = .ok (.invokevirtual 115, 3) := by decide +kernel
theorem dX1_pay_14 : decode cX1_pay 14 = .ok (.aload_n 0, 1) := by decide +kernel
theorem dX1_pay_15 : decode cX1_pay 15 = .ok (.getfield 38, 3) := by decide +kernel
theorem dX1_pay_18 : decode cX1_pay 18 = .ok (.iload_n 2, 1) := by decide +kernel
theorem dX1_pay_19 : decode cX1_pay 19 = .ok (.aaload, 1) := by decide +kernel
theorem dX1_pay_20 : decode cX1_pay 20 = .ok (.aload_n 0, 1) := by decide +kernel
theorem dX1_pay_21 : decode cX1_pay 21 = .ok (.getfield 12, 3) := by decide +kernel
theorem dX1_pay_24 : decode cX1_pay 24 = .ok (.invokevirtual 108, 3) := by decide +kernel
theorem dX1_pay_27 : decode cX1_pay 27 = .ok (.aload_n 0, 1) := by decide +kernel
theorem dX1_pay_28 : decode cX1_pay 28 = .ok (.getfield 35, 3) := by decide +kernel
theorem dX1_pay_31 : decode cX1_pay 31 = .ok (.iload_n 2, 1) := by decide +kernel
theorem dX1_pay_32 : decode cX1_pay 32 = .ok (.aaload, 1) := by decide +kernel
theorem dX1_pay_33 : decode cX1_pay 33 = .ok (.aload_n 0, 1) := by decide +kernel
theorem dX1_pay_34 : decode cX1_pay 34 = .ok (.getfield 44, 3) := by decide +kernel
theorem dX1_pay_37 : decode cX1_pay 37 = .ok (.getfield 153, 3) := by decide +kernel
theorem dX1_pay_40 : decode cX1_pay 40 = .ok (.invokevirtual 108, 3) := by decide +kernel
theorem dX1_pay_43 : decode cX1_pay 43 = .ok (.iconst 0, 1) := by decide +kernel
theorem dX1_pay_44 : decode cX1_pay 44 = .ok (.istore_n 3, 1) := by decide +kernel
theorem dX1_pay_45 : decode cX1_pay 45 = .ok (.iconst 0, 1) := by decide +kernel
theorem dX1_pay_46 : decode cX1_pay 46 = .ok (.istore 4, 2) := by decide +kernel
theorem dX1_pay_48 : decode cX1_pay 48 = .ok (.iload 4, 2) := by decide +kernel
theorem dX1_pay_50 : decode cX1_pay 50 = .ok (.aload_n 0, 1) := by decide +kernel
theorem dX1_pay_51 : decode cX1_pay 51 = .ok (.getfield 118, 3) := by decide +kernel
theorem dX1_pay_54 : decode cX1_pay 54 = .ok (.if_icmp .ge 79, 3) := by decide +kernel
theorem dX1_pay_57 : decode cX1_pay 57 = .ok (.aload_n 0, 1) := by decide +kernel
theorem dX1_pay_58 : decode cX1_pay 58 = .ok (.getfield 29, 3) := by decide +kernel
theorem dX1_pay_61 : decode cX1_pay 61 = .ok (.iload 4, 2) := by decide +kernel
theorem dX1_pay_63 : decode cX1_pay 63 = .ok (.iaload, 1) := by decide +kernel
theorem dX1_pay_64 : decode cX1_pay 64 = .ok (.istore 5, 2) := by decide +kernel
theorem dX1_pay_66 : decode cX1_pay 66 = .ok (.aload_n 0, 1) := by decide +kernel
theorem dX1_pay_67 : decode cX1_pay 67 = .ok (.getfield 18, 3) := by decide +kernel
theorem dX1_pay_70 : decode cX1_pay 70 = .ok (.iload 5, 2) := by decide +kernel
theorem dX1_pay_72 : decode cX1_pay 72 = .ok (.aaload, 1) := by decide +kernel
theorem dX1_pay_73 : decode cX1_pay 73 = .ok (.aload_n 0, 1) := by decide +kernel
theorem dX1_pay_74 : decode cX1_pay 74 = .ok (.getfield 44, 3) := by decide +kernel
theorem dX1_pay_77 : decode cX1_pay 77 = .ok (.getfield 159, 3) := by decide +kernel
theorem dX1_pay_80 : decode cX1_pay 80 = .ok (.invokevirtual 115, 3) := by decide +kernel
theorem dX1_pay_83 : decode cX1_pay 83 = .ok (.aload_n 0, 1) := by decide +kernel
theorem dX1_pay_84 : decode cX1_pay 84 = .ok (.getfield 51, 3) := by decide +kernel
theorem dX1_pay_87 : decode cX1_pay 87 = .ok (.iload 5, 2) := by decide +kernel
theorem dX1_pay_89 : decode cX1_pay 89 = .ok (.iload_n 1, 1) := by decide +kernel
theorem dX1_pay_90 : decode cX1_pay 90 = .ok (.invokevirtual 95, 3) := by decide +kernel
theorem dX1_pay_93 : decode cX1_pay 93 = .ok (.ifCond .eq 10, 3) := by decide +kernel
theorem dX1_pay_96 : decode cX1_pay 96 = .ok (.aload_n 0, 1) := by decide +kernel
theorem dX1_pay_97 : decode cX1_pay 97 = .ok (.iload 5, 2) := by decide +kernel
theorem dX1_pay_99 : decode cX1_pay 99 = .ok (.iload_n 2, 1) := by decide +kernel
theorem dX1_pay_100 : decode cX1_pay 100 = .ok (.invokevirtual 165, 3) := by decide +kernel
theorem dX1_pay_103 : decode cX1_pay 103 = .ok (.aload_n 0, 1) := by decide +kernel
theorem dX1_pay_104 : decode cX1_pay 104 = .ok (.getfield 18, 3) := by decide +kernel
theorem dX1_pay_107 : decode cX1_pay 107 = .ok (.iload 5, 2) := by decide +kernel
theorem dX1_pay_109 : decode cX1_pay 109 = .ok (.aaload, 1) := by decide +kernel
theorem dX1_pay_110 : decode cX1_pay 110 = .ok (.invokevirtual 168, 3) := by decide +kernel
theorem dX1_pay_113 : decode cX1_pay 113 = .ok (.ifCond .ne 14, 3) := by decide +kernel
theorem dX1_pay_116 : decode cX1_pay 116 = .ok (.aload_n 0, 1) := by decide +kernel
theorem dX1_pay_117 : decode cX1_pay 117 = .ok (.getfield 29, 3) := by decide +kernel
theorem dX1_pay_120 : decode cX1_pay 120 = .ok (.iload_n 3, 1) := by decide +kernel
theorem dX1_pay_121 : decode cX1_pay 121 = .ok (.iinc 3 1, 3) := by decide +kernel
theorem dX1_pay_124 : decode cX1_pay 124 = .ok (.iload 5, 2) := by decide +kernel
theorem dX1_pay_126 : decode cX1_pay 126 = .ok (.iastore, 1) := by decide +kernel
theorem dX1_pay_127 : decode cX1_pay 127 = .ok (.iinc 4 1, 3) := by decide +kernel
theorem dX1_pay_130 : decode cX1_pay 130 = .ok (.goto (-82), 3) := by decide +kernel
theorem dX1_pay_133 : decode cX1_pay 133 = .ok (.aload_n 0, 1) := by decide +kernel
theorem dX1_pay_134 : decode cX1_pay 134 = .ok (.iload_n 3, 1) := by decide +kernel
theorem dX1_pay_135 : decode cX1_pay 135 = .ok (.putfield 118, 3) := by decide +kernel
theorem dX1_pay_138 : decode cX1_pay 138 = .ok (.aload_n 0, 1) := by decide +kernel
theorem dX1_pay_139 : decode cX1_pay 139 = .ok (.getfield 32, 3) := by decide +kernel
theorem dX1_pay_142 : decode cX1_pay 142 = .ok (.iload_n 2, 1) := by decide +kernel
theorem dX1_pay_143 : decode cX1_pay 143 = .ok (.iload_n 1, 1) := by decide +kernel
theorem dX1_pay_144 : decode cX1_pay 144 = .ok (.iastore, 1) := by decide +kernel
theorem dX1_pay_145 : decode cX1_pay 145 = .ok (.aload_n 0, 1) := by decide +kernel
theorem dX1_pay_146 : decode cX1_pay 146 = .ok (.iload_n 2, 1) := by decide +kernel
theorem dX1_pay_147 : decode cX1_pay 147 = .ok (.iconst 1, 1) := by decide +kernel
theorem dX1_pay_148 : decode cX1_pay 148 = .ok (.iadd, 1) := by decide +kernel
theorem dX1_pay_149 : decode cX1_pay 149 = .ok (.putfield 59, 3) := by decide +kernel
theorem dX1_pay_152 : decode cX1_pay 152 = .ok (.aload_n 0, 1) := by decide +kernel
theorem dX1_pay_153 : decode cX1_pay 153 = .ok (.dup, 1) := by decide +kernel
theorem dX1_pay_154 : decode cX1_pay 154 = .ok (.getfield 63, 3) := by decide +kernel
theorem dX1_pay_157 : decode cX1_pay 157 = .ok (.iconst 1, 1) := by decide +kernel
theorem dX1_pay_158 : decode cX1_pay 158 = .ok (.iload_n 1, 1) := by decide +kernel
theorem dX1_pay_159 : decode cX1_pay 159 = .ok (.ishl, 1) := by decide +kernel
theorem dX1_pay_160 : decode cX1_pay 160 = .ok (.ior, 1) := by decide +kernel
theorem dX1_pay_161 : decode cX1_pay 161 = .ok (.putfield 63, 3) := by decide +kernel
theorem dX1_pay_164 : decode cX1_pay 164 = .ok (.aload_n 0, 1) := by decide +kernel
theorem dX1_pay_165 : decode cX1_pay 165 = .ok (.dup, 1) := by decide +kernel
theorem dX1_pay_166 : decode cX1_pay 166 = .ok (.getfield 66, 3) := by decide +kernel
theorem dX1_pay_169 : decode cX1_pay 169 = .ok (.aload_n 0, 1) := by decide +kernel
theorem dX1_pay_170 : decode cX1_pay 170 = .ok (.getfield 51, 3) := by decide +kernel
theorem dX1_pay_173 : decode cX1_pay 173 = .ok (.getfield 112, 3) := by decide +kernel
theorem dX1_pay_176 : decode cX1_pay 176 = .ok (.iload_n 1, 1) := by decide +kernel
theorem dX1_pay_177 : decode cX1_pay 177 = .ok (.iaload, 1) := by decide +kernel
theorem dX1_pay_178 : decode cX1_pay 178 = .ok (.iadd, 1) := by decide +kernel
theorem dX1_pay_179 : decode cX1_pay 179 = .ok (.putfield 66, 3) := by decide +kernel
theorem dX1_pay_182 : decode cX1_pay 182 = .ok (.aload_n 0, 1) := by decide +kernel
theorem dX1_pay_183 : decode cX1_pay 183 = .ok (.dup, 1) := by decide +kernel
theorem dX1_pay_184 : decode cX1_pay 184 = .ok (.getfield 75, 3) := by decide +kernel
theorem dX1_pay_187 : decode cX1_pay 187 = .ok (.iconst 1, 1) := by decide +kernel
theorem dX1_pay_188 : decode cX1_pay 188 = .ok (.iload_n 1, 1) := by decide +kernel
theorem dX1_pay_189 : decode cX1_pay 189 = .ok (.ishl, 1) := by decide +kernel
theorem dX1_pay_190 : decode cX1_pay 190 = .ok (.iconst (-1), 1) := by decide +kernel
theorem dX1_pay_191 : decode cX1_pay 191 = .ok (.ixor, 1) := by decide +kernel
theorem dX1_pay_192 : decode cX1_pay 192 = .ok (.iand, 1) := by decide +kernel
theorem dX1_pay_193 : decode cX1_pay 193 = .ok (.putfield 75, 3) := by decide +kernel
theorem dX1_pay_196 : decode cX1_pay 196 = .ok (.return_, 1) := by decide +kernel
set_option maxRecDepth 20000 in
theorem ggX1_charge_X0_against : GoodIn wsX1_charge wsX0_against := goodIn_r _ [9, 10, 11, 48] (by decide +kernel) (by decide +kernel)
set_option maxRecDepth 20000 in
theorem gX1_charge_X0_against : GoodIn wsX1_charge (wsV RX1 171 RX0 yX0_against wsX0_against) := goodIn_app (goodIn_of _ (by decide +kernel)) ggX1_charge_X0_against
set_option maxRecDepth 20000 in
theorem ggX1_charge_X0_minus : GoodIn wsX1_charge wsX0_minus := goodIn_r _ [15, 10, 11, 48] (by decide +kernel) (by decide +kernel)
set_option maxRecDepth 20000 in
theorem gX1_charge_X0_minus : GoodIn wsX1_charge (wsV RX1 121 RX0 yX0_minus wsX0_minus) := goodIn_app (goodIn_of _ (by decide +kernel)) ggX1_charge_X0_minus
set_option maxRecDepth 20000 in
theorem ggX1_charge_X0_copy : GoodIn wsX1_charge wsX0_copy := goodIn_r _ [19, 10, 20, 21, 22, 23, 48] (by decide +kernel) (by decide +kernel)
set_option maxRecDepth 20000 in
theorem gX1_charge_X0_copy : GoodIn wsX1_charge (wsV RX1 108 RX0 yX0_copy wsX0_copy) := goodIn_app (goodIn_of _ (by decide +kernel)) ggX1_charge_X0_copy
set_option maxRecDepth 20000 in
theorem ggX1_charge_X0_set : GoodIn wsX1_charge wsX0_set := goodIn_r _ [27, 10, 28, 29, 30, 31, 48] (by decide +kernel) (by decide +kernel)
set_option maxRecDepth 20000 in
theorem gX1_charge_X0_set : GoodIn wsX1_charge (wsV RX1 133 RX0 yX0_set wsX0_set) := goodIn_app (goodIn_of _ (by decide +kernel)) ggX1_charge_X0_set
theorem dX1_charge_0 : decode cX1_charge 0 = .ok (.aload_n 0, 1) := by decide +kernel
theorem dX1_charge_1 : decode cX1_charge 1 = .ok (.getfield 18, 3) := by decide +kernel
theorem dX1_charge_4 : decode cX1_charge 4 = .ok (.iload_n 1, 1) := by decide +kernel
theorem dX1_charge_5 : decode cX1_charge 5 = .ok (.aaload, 1) := by decide +kernel
theorem dX1_charge_6 : decode cX1_charge 6 = .ok (.aload_n 0, 1) := by decide +kernel
theorem dX1_charge_7 : decode cX1_charge 7 = .ok (.getfield 35, 3) := by decide +kernel
theorem dX1_charge_10 : decode cX1_charge 10 = .ok (.iload_n 2, 1) := by decide +kernel
theorem dX1_charge_11 : decode cX1_charge 11 = .ok (.aaload, 1) := by decide +kernel
theorem dX1_charge_12 : decode cX1_charge 12 = .ok (.invokevirtual 171, 3) := by decide +kernel
theorem dX1_charge_15 : decode cX1_charge 15 = .ok (.ifCond .le 19, 3) := by decide +kernel
theorem dX1_charge_18 : decode cX1_charge 18 = .ok (.aload_n 0, 1) := by decide +kernel
theorem dX1_charge_19 : decode cX1_charge 19 = .ok (.getfield 18, 3) := by decide +kernel
theorem dX1_charge_22 : decode cX1_charge 22 = .ok (.iload_n 1, 1) := by decide +kernel
theorem dX1_charge_23 : decode cX1_charge 23 = .ok (.aaload, 1) := by decide +kernel
theorem dX1_charge_24 : decode cX1_charge 24 = .ok (.aload_n 0, 1) := by decide +kernel
theorem dX1_charge_25 : decode cX1_charge 25 = .ok (.getfield 35, 3) := by decide +kernel
theorem dX1_charge_28 : decode cX1_charge 28 = .ok (.iload_n 2, 1) := by decide +kernel
theorem dX1_charge_29 : decode cX1_charge 29 = .ok (.aaload, 1) := by decide +kernel
theorem dX1_charge_30 : decode cX1_charge 30 = .ok (.invokevirtual 121, 3) := by decide +kernel
theorem dX1_charge_33 : decode cX1_charge 33 = .ok (.return_, 1) := by decide +kernel
theorem dX1_charge_34 : decode cX1_charge 34 = .ok (.aload_n 0, 1) := by decide +kernel
theorem dX1_charge_35 : decode cX1_charge 35 = .ok (.getfield 22, 3) := by decide +kernel
theorem dX1_charge_38 : decode cX1_charge 38 = .ok (.iload_n 1, 1) := by decide +kernel
theorem dX1_charge_39 : decode cX1_charge 39 = .ok (.aaload, 1) := by decide +kernel
theorem dX1_charge_40 : decode cX1_charge 40 = .ok (.aload_n 0, 1) := by decide +kernel
theorem dX1_charge_41 : decode cX1_charge 41 = .ok (.getfield 18, 3) := by decide +kernel
theorem dX1_charge_44 : decode cX1_charge 44 = .ok (.iload_n 1, 1) := by decide +kernel
theorem dX1_charge_45 : decode cX1_charge 45 = .ok (.aaload, 1) := by decide +kernel
theorem dX1_charge_46 : decode cX1_charge 46 = .ok (.invokevirtual 108, 3) := by decide +kernel
theorem dX1_charge_49 : decode cX1_charge 49 = .ok (.aload_n 0, 1) := by decide +kernel
theorem dX1_charge_50 : decode cX1_charge 50 = .ok (.getfield 25, 3) := by decide +kernel
theorem dX1_charge_53 : decode cX1_charge 53 = .ok (.iload_n 1, 1) := by decide +kernel
theorem dX1_charge_54 : decode cX1_charge 54 = .ok (.iload_n 2, 1) := by decide +kernel
theorem dX1_charge_55 : decode cX1_charge 55 = .ok (.iastore, 1) := by decide +kernel
theorem dX1_charge_56 : decode cX1_charge 56 = .ok (.aload_n 0, 1) := by decide +kernel
theorem dX1_charge_57 : decode cX1_charge 57 = .ok (.getfield 18, 3) := by decide +kernel
theorem dX1_charge_60 : decode cX1_charge 60 = .ok (.iload_n 1, 1) := by decide +kernel
theorem dX1_charge_61 : decode cX1_charge 61 = .ok (.aaload, 1) := by decide +kernel
theorem dX1_charge_62 : decode cX1_charge 62 = .ok (.iconst 0, 1) := by decide +kernel
theorem dX1_charge_63 : decode cX1_charge 63 = .ok (.invokevirtual 133, 3) := by decide +kernel
theorem dX1_charge_66 : decode cX1_charge 66 = .ok (.return_, 1) := by decide +kernel
set_option maxRecDepth 20000 in
theorem ggX1_sortPayers_X0_against : GoodIn wsX1_sortPayers wsX0_against := goodIn_r _ [8, 9, 10, 27] (by decide +kernel) (by decide +kernel)
set_option maxRecDepth 20000 in
theorem gX1_sortPayers_X0_against : GoodIn wsX1_sortPayers (wsV RX1 171 RX0 yX0_against wsX0_against) := goodIn_app (goodIn_of _ (by decide +kernel)) ggX1_sortPayers_X0_against
theorem dX1_sortPayers_0 : decode cX1_sortPayers 0 = .ok (.iconst 1, 1) := by decide +kernel
theorem dX1_sortPayers_1 : decode cX1_sortPayers 1 = .ok (.istore_n 1, 1) := by decide +kernel
theorem dX1_sortPayers_2 : decode cX1_sortPayers 2 = .ok (.iload_n 1, 1) := by decide +kernel
theorem dX1_sortPayers_3 : decode cX1_sortPayers 3 = .ok (.aload_n 0, 1) := by decide +kernel
theorem dX1_sortPayers_4 : decode cX1_sortPayers 4 = .ok (.getfield 118, 3) := by decide +kernel
theorem dX1_sortPayers_7 : decode cX1_sortPayers 7 = .ok (.if_icmp .ge 74, 3) := by decide +kernel
theorem dX1_sortPayers_10 : decode cX1_sortPayers 10 = .ok (.aload_n 0, 1) := by decide +kernel
theorem dX1_sortPayers_11 : decode cX1_sortPayers 11 = .ok (.getfield 29, 3) := by decide +kernel
theorem dX1_sortPayers_14 : decode cX1_sortPayers 14 = .ok (.iload_n 1, 1) := by decide +kernel
theorem dX1_sortPayers_15 : decode cX1_sortPayers 15 = .ok (.iaload, 1) := by decide +kernel
theorem dX1_sortPayers_16 : decode cX1_sortPayers 16 = .ok (.istore_n 2, 1) := by decide +kernel
theorem dX1_sortPayers_17 : decode cX1_sortPayers 17 = .ok (.iload_n 1, 1) := by decide +kernel
theorem dX1_sortPayers_18 : decode cX1_sortPayers 18 = .ok (.istore_n 3, 1) := by decide +kernel
theorem dX1_sortPayers_19 : decode cX1_sortPayers 19 = .ok (.iload_n 3, 1) := by decide +kernel
theorem dX1_sortPayers_20 : decode cX1_sortPayers 20 = .ok (.ifCond .le 48, 3) := by decide +kernel
theorem dX1_sortPayers_23 : decode cX1_sortPayers 23 = .ok (.aload_n 0, 1) := by decide +kernel
theorem dX1_sortPayers_24 : decode cX1_sortPayers 24 = .ok (.getfield 18, 3) := by decide +kernel
theorem dX1_sortPayers_27 : decode cX1_sortPayers 27 = .ok (.aload_n 0, 1) := by decide +kernel
theorem dX1_sortPayers_28 : decode cX1_sortPayers 28 = .ok (.getfield 29, 3) := by decide +kernel
theorem dX1_sortPayers_31 : decode cX1_sortPayers 31 = .ok (.iload_n 3, 1) := by decide +kernel
theorem dX1_sortPayers_32 : decode cX1_sortPayers 32 = .ok (.iconst 1, 1) := by decide +kernel
theorem dX1_sortPayers_33 : decode cX1_sortPayers 33 = .ok (.isub, 1) := by decide +kernel
theorem dX1_sortPayers_34 : decode cX1_sortPayers 34 = .ok (.iaload, 1) := by decide +kernel
theorem dX1_sortPayers_35 : decode cX1_sortPayers 35 = .ok (.aaload, 1) := by decide +kernel
theorem dX1_sortPayers_36 : decode cX1_sortPayers 36 = .ok (.aload_n 0, 1) := by decide +kernel
theorem dX1_sortPayers_37 : decode cX1_sortPayers 37 = .ok (.getfield 18, 3) := by decide +kernel
theorem dX1_sortPayers_40 : decode cX1_sortPayers 40 = .ok (.iload_n 2, 1) := by decide +kernel
theorem dX1_sortPayers_41 : decode cX1_sortPayers 41 = .ok (.aaload, 1) := by decide +kernel
theorem dX1_sortPayers_42 : decode cX1_sortPayers 42 = .ok (.invokevirtual 171, 3) := by decide +kernel
theorem dX1_sortPayers_45 : decode cX1_sortPayers 45 = .ok (.ifCond .le 23, 3) := by decide +kernel
theorem dX1_sortPayers_48 : decode cX1_sortPayers 48 = .ok (.aload_n 0, 1) := by decide +kernel
theorem dX1_sortPayers_49 : decode cX1_sortPayers 49 = .ok (.getfield 29, 3) := by decide +kernel
theorem dX1_sortPayers_52 : decode cX1_sortPayers 52 = .ok (.iload_n 3, 1) := by decide +kernel
theorem dX1_sortPayers_53 : decode cX1_sortPayers 53 = .ok (.aload_n 0, 1) := by decide +kernel
theorem dX1_sortPayers_54 : decode cX1_sortPayers 54 = .ok (.getfield 29, 3) := by decide +kernel
theorem dX1_sortPayers_57 : decode cX1_sortPayers 57 = .ok (.iload_n 3, 1) := by decide +kernel
theorem dX1_sortPayers_58 : decode cX1_sortPayers 58 = .ok (.iconst 1, 1) := by decide +kernel
theorem dX1_sortPayers_59 : decode cX1_sortPayers 59 = .ok (.isub, 1) := by decide +kernel
theorem dX1_sortPayers_60 : decode cX1_sortPayers 60 = .ok (.iaload, 1) := by decide +kernel
theorem dX1_sortPayers_61 : decode cX1_sortPayers 61 = .ok (.iastore, 1) := by decide +kernel
theorem dX1_sortPayers_62 : decode cX1_sortPayers 62 = .ok (.iinc 3 (-1), 3) := by decide +kernel
theorem dX1_sortPayers_65 : decode cX1_sortPayers 65 = .ok (.goto (-46), 3) := by decide +kernel
theorem dX1_sortPayers_68 : decode cX1_sortPayers 68 = .ok (.aload_n 0, 1) := by decide +kernel
theorem dX1_sortPayers_69 : decode cX1_sortPayers 69 = .ok (.getfield 29, 3) := by decide +kernel
theorem dX1_sortPayers_72 : decode cX1_sortPayers 72 = .ok (.iload_n 3, 1) := by decide +kernel
theorem dX1_sortPayers_73 : decode cX1_sortPayers 73 = .ok (.iload_n 2, 1) := by decide +kernel
theorem dX1_sortPayers_74 : decode cX1_sortPayers 74 = .ok (.iastore, 1) := by decide +kernel
theorem dX1_sortPayers_75 : decode cX1_sortPayers 75 = .ok (.iinc 1 1, 3) := by decide +kernel
theorem dX1_sortPayers_78 : decode cX1_sortPayers 78 = .ok (.goto (-76), 3) := by decide +kernel
theorem dX1_sortPayers_81 : decode cX1_sortPayers 81 = .ok (.return_, 1) := by decide +kernel
end
section
/-! a phase: its cells. It lies at f .. f + 279: its object, base (f + 1), seven arrays (f + 3 .. f + 9), two shares (f + 10, f + 17), purses (f + 24 + 4 v), last pays (f + 26 + 4 v), rates (f + 216 + 4 r), bases (f + 218 + 4 r) -/
abbrev phF (f t pc pk ps co op bs tr : Nat) : List Value := [.ref t, .ref (f + 1), .ref (f + 3), .ref (f + 4), .ref (f + 5), .ref (f + 6), .int (nI pc), .ref (f + 7), .int (nI pk), .int (nI ps), .int (nI co), .ref (f + 8), .ref (f + 9), .int (nI op), .ref bs, .ref tr]
/-- n numbers, the i-th at b + 4 i, in the array at q -/
def PoolAt (g : WG) (H : Heap) (q b n : Nat) (x : Nat → Nat) : Prop := xr_qa H q (gN g) n (fun v => some (b + 4 * v)) ∧ ∀ v, v < n → NatAt g H (b + 4 * v) (x v)
theorem PoolAt.kept {g : WG} {H H1 : Heap} {q b n : Nat} {x : Nat → Nat} (h : PoolAt g H q b n x) (h0 : H1[q]? = H[q]?) (h1 : ∀ v, v < n → H1[b + 4 * v]? = H[b + 4 * v]?) (h2 : ∀ v, v < n → H1[b + 4 * v + 1]? = H[b + 4 * v + 1]?) : PoolAt g H1 q b n x :=
  ⟨h.1.kept h0, fun v hv => (h.2 v hv).kept (h1 v hv) (h2 v hv)⟩
theorem PoolAt.put {g : WG} {H H1 : Heap} {q b n w y : Nat} {x : Nat → Nat} (h : PoolAt g H q b n x) (hy : NatAt g H1 (b + 4 * w) y) (h0 : H1[q]? = H[q]?) (h1 : ∀ v, v < n → v ≠ w → H1[b + 4 * v]? = H[b + 4 * v]?) (h2 : ∀ v, v < n → v ≠ w → H1[b + 4 * v + 1]? = H[b + 4 * v + 1]?) : PoolAt g H1 q b n (va_up x w y) := by
  refine ⟨h.1.kept h0, fun v hv => ?_⟩
  by_cases e : v = w
  · subst e
    rw [va_up_self]
    exact hy
  · rw [va_up_ne _ _ e]
    exact (h.2 v hv).kept (h1 v hv e) (h2 v hv e)
section XPL
variable {p : Program} {l : Launch} {e : Env} {R : Room} {s : State} {m : MethodId} {args : Array Value} {below : List Frame} {meth : Method} {c : Code} {H : Heap} {locs : List Loc} {cells slots : Nat} {Q : State → Prop}
variable {cc : ByteArray} {pc : Nat} {ls : Array Slot} {rest : List Value} {g : WG}
theorem xr_pl (hx : p.tables.exec = Jvm.exec) (hb : c.code = cc) (hK : KK g s) {q b n : Nat} {x : Nat → Nat} (h : PoolAt g H q b n x) {i : Nat} (hi : i < n) (hn : n < 2 ^ 31) (hdg : decode cc pc = .ok (.aaload, 1))
    (kk : W p l e R s m args below meth c H locs cells slots Q (F0 m (pc + 1) ls (.ref (b + 4 * i) :: rest))) : W p l e R s m args below meth c H locs cells slots Q (F0 m pc ls (.int (nI i) :: .ref q :: rest)) :=
  xr_aald hx hb hK.1 h.1 2 rfl (vp_in_nI hi hn) (by rw [nI_clamp (Nat.lt_trans hi hn)]) hdg kk
end XPL
/-! shares: the purses of those who support, poorest first -/
def supL (pur pay ap : Nat → Nat) (p : Nat) : Nat → Nat → List Nat
  | 0, _ => []
  | n + 1, i => if (ap (pay i)).testBit p = true then pur (pay i) :: supL pur pay ap p n (i + 1) else supL pur pay ap p n (i + 1)
theorem supL_y {pur pay ap : Nat → Nat} {p n i : Nat} (h : (ap (pay i)).testBit p = true) : supL pur pay ap p (n + 1) i = pur (pay i) :: supL pur pay ap p n (i + 1) := by rw [supL, if_pos h]
theorem supL_n {pur pay ap : Nat → Nat} {p n i : Nat} (h : (ap (pay i)).testBit p = false) : supL pur pay ap p (n + 1) i = supL pur pay ap p n (i + 1) := by rw [supL, if_neg (by rw [h]; decide)]
theorem supL_len {pur pay ap : Nat → Nat} {p : Nat} : ∀ n i, (supL pur pay ap p n i).length ≤ n
  | 0, _ => Nat.le_refl 0
  | n + 1, i => by
    have := supL_len (pur := pur) (pay := pay) (ap := ap) (p := p) n (i + 1)
    rw [supL]
    split
    · rw [List.length_cons]; omega
    · omega
def shr : List Nat → Nat → Bool × Nat × Nat
  | [], r => (false, r, 0)
  | x :: xs, r => if r ≤ x * (xs.length + 1) then (true, r, xs.length + 1) else shr xs (r - x)
end
section
/-- the round in which i0 was chosen, or -1 -/
def rndF (pik : Nat → Nat) (i0 : Int32) : Nat → Nat → Int32
  | 0, _ => -1
  | n + 1, i => if nI (pik i) = i0 then nI i else rndF pik i0 n (i + 1)
def rnd (pik : Nat → Nat) (pk : Nat) (i0 : Int32) : Int32 := rndF pik i0 pk 0
theorem rndF_no {pik : Nat → Nat} {i0 : Int32} : ∀ n i, (∀ j, i ≤ j → j < i + n → nI (pik j) ≠ i0) → rndF pik i0 n i = -1
  | 0, _, _ => rfl
  | n + 1, i, h => by
    rw [rndF, if_neg (h i (Nat.le_refl i) (by omega))]
    exact rndF_no n (i + 1) (fun j a b => h j (by omega) (by omega))
theorem rndF_yes {pik : Nat → Nat} {i0 : Int32} {r : Nat} : ∀ n i, i ≤ r → r < i + n → (∀ j, i ≤ j → j < r → nI (pik j) ≠ i0) → nI (pik r) = i0 → rndF pik i0 n i = nI r
  | 0, i, h1, h2, _, _ => absurd h2 (by omega)
  | n + 1, i, h1, h2, h3, h4 => by
    rw [rndF]
    by_cases e : i = r
    · rw [e, if_pos h4]
    · rw [if_neg (h3 i (Nat.le_refl i) (by omega))]
      exact rndF_yes n (i + 1) (by omega) (by omega) (fun j a b => h3 j (by omega) b) h4
theorem rnd_no {pik : Nat → Nat} {pk : Nat} {i0 : Int32} (h : ∀ j, j < pk → nI (pik j) ≠ i0) : rnd pik pk i0 = -1 := rndF_no pk 0 (fun j _ b => h j (by omega))
theorem rnd_yes {pik : Nat → Nat} {pk r : Nat} {i0 : Int32} (h : ∀ j, j < r → nI (pik j) ≠ i0) (hr : r < pk) (h4 : nI (pik r) = i0) : rnd pik pk i0 = nI r := rndF_yes pk 0 (by omega) (by omega) (fun j _ b => h j b) h4
set_option maxHeartbeats 400000 in
set_option maxRecDepth 100000 in
theorem c_X1_countPayers (l : Launch) (g : WG) (H0 : Heap) (t : Nat) (c : Nat → Nat) (vs : Nat) (ap : Nat → Nat) (bu : Nat) (hT : TownAt g H0 t c vs ap bu) (f pc pk ps co op bs tr : Nat) (hO : obj g H0 f 1 (phF f t pc pk ps co op bs tr)) (hft : t + 3 ≤ f ∨ f + 280 ≤ t) (pay : Nat → Nat) (hpc : pc ≤ 48) (hpay : ∀ i, i < pc → pay i < 48) (hPy : xr_ia H0 (f + 6) (gI g) 48 (fun i => nI (pay i))) (pur : Nat → Nat) (p0 : Nat) (hp : p0 < 16) : Ctr l (KK g) yX1_countPayers wsX1_countPayers { frames := 1, cells := 0, slots := 0, locals := 22 } [.ref f, .int (nI p0)] H0 eI (fun r H => r = nI (supL pur pay ap p0 pc 0).length ∧ H = H0) (fun _ => False) := by
  refine xr_enter (cc := cX1_countPayers) (maxL := 4) (ret := (some .int)) (by decide) rfl (Nat.le_of_ble_eq_true rfl) ?_
  intro pgm env s mid below meth cde hx hb hr hml hts hown hlocks hnm hH hK ls hl
  subst hH
  have hl : lv_has ls 4 [(0, .ref f), (1, .int (nI p0))] := hl
  have hS : va_S (fun _ => False) s.heap s.heap [] := va_S.rf
  have loop : ∀ (n i k : Nat), i + n = pc → k + (supL pur pay ap p0 n i).length = (supL pur pay ap p0 pc 0).length → ∀ (locs : List Loc), va_S (fun _ => False) s.heap s.heap locs → ∀ ls : Array Slot, lv_has ls 4 [(3, .int (nI i)), (2, .int (nI k)), (0, .ref f), (1, .int (nI p0))] → W pgm l env { frames := 1, cells := 0, slots := 0, locals := 22 } s mid ([.ref f, .int (nI p0)] : List Value).toArray below meth cde s.heap locs 0 0 (MQ below (xr_Post eI (fun r H => r = nI (supL pur pay ap p0 pc 0).length ∧ H = s.heap) (fun _ => False)) ([.ref f, .int (nI p0)] : List Value).toArray s ({ frames := 1, cells := 0, slots := 0, locals := 22 } : Room).cells ({ frames := 1, cells := 0, slots := 0, locals := 22 } : Room).slots (fun _ => False)) (F0 mid 4 ls []) := by
    intro n
    induction n with
    | zero =>
      intro i k h1 h2 locs hS ls hl
      refine lv_iload_n hx hb dX1_countPayers_4 rfl (lv_at hl 0 rfl) ?_
      refine lv_aload_n hx hb dX1_countPayers_5 rfl (lv_at hl 2 rfl) ?_
      refine va_get (D := g.1) (ci := 1) (v := .int (nI pc)) (C := RX1) (T := TX1) (N := 16) hx hb hts (by decide +kernel) hown hK.1 (xr_one hO) 0 rfl rfl 6 (by decide) (hts (.fieldLink RX1 118 "SharesDesk$Phase" "payerCount" "I") (by decide +kernel)) (fun _ h9 => h9) rfl dX1_countPayers_6 ?_
      refine lv_icmp_ge (tgt := 38) hx hb dX1_countPayers_9 (by decide) (fun hc => ?_) (fun hc => ?_)
      · clear hc
        refine lv_iload_n hx hb dX1_countPayers_38 rfl (lv_at hl 1 rfl) ?_
        exact xr_iret hx hb hr hlocks hS ⟨by rw [← h2]; rfl, rfl⟩ dX1_countPayers_39
      · exact absurd (nI_le (show pc ≤ i by omega) (by omega)) hc
    | succ n ih =>
      intro i k h1 h2 locs hS ls hl
      refine lv_iload_n hx hb dX1_countPayers_4 rfl (lv_at hl 0 rfl) ?_
      refine lv_aload_n hx hb dX1_countPayers_5 rfl (lv_at hl 2 rfl) ?_
      refine va_get (D := g.1) (ci := 1) (v := .int (nI pc)) (C := RX1) (T := TX1) (N := 16) hx hb hts (by decide +kernel) hown hK.1 (xr_one hO) 0 rfl rfl 6 (by decide) (hts (.fieldLink RX1 118 "SharesDesk$Phase" "payerCount" "I") (by decide +kernel)) (fun _ h9 => h9) rfl dX1_countPayers_6 ?_
      refine lv_icmp_ge (tgt := 38) hx hb dX1_countPayers_9 (by decide) (fun hc => ?_) (fun hc => ?_)
      · exact absurd ((nI_leI (by omega) (by omega)).mp hc) (by omega)
      · clear hc
        have hv := hpay i (by omega)
        refine lv_aload_n hx hb dX1_countPayers_12 rfl (lv_at hl 2 rfl) ?_
        refine va_get (D := g.1) (ci := 1) (v := .ref t) (C := RX1) (T := TX1) (N := 16) hx hb hts (by decide +kernel) hown hK.1 (xr_one hO) 0 rfl rfl 0 (by decide) (hts (.fieldLink RX1 51 "SharesDesk$Phase" "town" "LSharesDesk$Town;") (by decide +kernel)) (fun _ h9 => h9) rfl dX1_countPayers_13 ?_
        refine lv_aload_n hx hb dX1_countPayers_16 rfl (lv_at hl 2 rfl) ?_
        refine va_get (D := g.1) (ci := 1) (v := .ref (f + 6)) (C := RX1) (T := TX1) (N := 16) hx hb hts (by decide +kernel) hown hK.1 (xr_one hO) 0 rfl rfl 5 (by decide) (hts (.fieldLink RX1 29 "SharesDesk$Phase" "payers" "[I") (by decide +kernel)) (fun _ h9 => h9) rfl dX1_countPayers_17 ?_
        refine lv_iload_n hx hb dX1_countPayers_20 rfl (lv_at hl 0 rfl) ?_
        refine xr_rd hx hb hK hPy (show i < 48 by omega) (by decide) dX1_countPayers_21 ?_
        refine lv_iload_n hx hb dX1_countPayers_22 rfl (lv_at hl 3 rfl) ?_
        refine xr_Vi (rest := []) ⟨hx, hb, hml, hown, hts⟩ (KK_ok g) hK (c_X5_approves l g s.heap t c vs ap bu hT (pay i) p0 hv hp) (cwV 2 hts gX1_countPayers_X5_approves rfl rfl rfl (by decide +kernel) ⟨Nat.le_of_ble_eq_true rfl, Nat.le_of_ble_eq_true rfl⟩) (xr_rec hK hT.1 rfl) rfl hl.1 rfl (Nat.le_of_ble_eq_true rfl) dX1_countPayers_23 ⟨Nat.le_of_ble_eq_true rfl, Nat.le_of_ble_eq_true rfl⟩ hS (fun q h => h.elim) (fun r H locs hq hz hkp hS9 => ?_)
        obtain ⟨rfl, rfl⟩ := hq
        have hS := hS9
        refine lv_if_eq (tgt := 32) hx hb dX1_countPayers_26 (by decide) (fun hc => ?_) (fun hc => ?_)
        · have h8 := b2i_0.mp hc
          rw [supL_n h8] at h2
          refine lv_iinc (v := nI (i + 1)) (lv' := [(3, .int (nI (i + 1))), (2, .int (nI k)), (0, .ref f), (1, .int (nI p0))]) hx hb dX1_countPayers_32 hl (k := 0) rfl (nI_1 i) (by decide) rfl (fun ls hl => ?_)
          refine lv_goto (tgt := 4) hx hb dX1_countPayers_35 (by decide) ?_
          exact ih (i + 1) k (by omega) h2 locs hS ls (lv_sub hl [0, 1, 2, 3] rfl)
        · have h8 := b2i_n0.mp hc
          rw [supL_y h8, List.length_cons] at h2
          refine lv_iinc (v := nI (k + 1)) (lv' := [(2, .int (nI (k + 1))), (3, .int (nI i)), (0, .ref f), (1, .int (nI p0))]) hx hb dX1_countPayers_29 hl (k := 1) rfl (nI_1 k) (by decide) rfl (fun ls hl => ?_)
          refine lv_iinc (v := nI (i + 1)) (lv' := [(3, .int (nI (i + 1))), (2, .int (nI (k + 1))), (0, .ref f), (1, .int (nI p0))]) hx hb dX1_countPayers_32 hl (k := 1) rfl (nI_1 i) (by decide) rfl (fun ls hl => ?_)
          refine lv_goto (tgt := 4) hx hb dX1_countPayers_35 (by decide) ?_
          exact ih (i + 1) (k + 1) (by omega) (by omega) locs hS ls (lv_sub hl [0, 1, 2, 3] rfl)
  refine lv_iconst (v := 0) hx hb dX1_countPayers_0 (by decide) ?_
  refine xr_ti (x' := nI 0) rfl ?_
  refine lv_istore_n (lv' := [(2, .int (nI 0)), (0, .ref f), (1, .int (nI p0))]) hx hb dX1_countPayers_1 rfl hl (by decide) rfl (fun ls hl => ?_)
  refine lv_iconst (v := 0) hx hb dX1_countPayers_2 (by decide) ?_
  refine xr_ti (x' := nI 0) rfl ?_
  refine lv_istore_n (lv' := [(3, .int (nI 0)), (2, .int (nI 0)), (0, .ref f), (1, .int (nI p0))]) hx hb dX1_countPayers_3 rfl hl (by decide) rfl (fun ls hl => ?_)
  exact loop pc 0 0 (by omega) (by omega) [] hS ls (lv_sub hl [0, 1, 2, 3] rfl)
set_option maxHeartbeats 400000 in
set_option maxRecDepth 100000 in
theorem c_X1_overspends (l : Launch) (g : WG) (H0 : Heap) (t : Nat) (c : Nat → Nat) (vs : Nat) (ap : Nat → Nat) (bu : Nat) (hT : TownAt g H0 t c vs ap bu) (f pc pk ps co op bs tr : Nat) (hO : obj g H0 f 1 (phF f t pc pk ps co op bs tr)) (hft : t + 3 ≤ f ∨ f + 280 ≤ t) (hco : co < 2 ^ 31) : Ctr l (KK g) yX1_overspends wsX1_overspends { frames := 0, cells := 0, slots := 0, locals := 0 } [.ref f] H0 eI (fun r H => r = b2i (decide (bu < co)) ∧ H = H0) (fun _ => False) := by
  refine xr_enter (cc := cX1_overspends) (maxL := 1) (ret := (some .boolean)) (by decide) rfl (Nat.le_of_ble_eq_true rfl) ?_
  intro pgm env s mid below meth cde hx hb hr hml hts hown hlocks hnm hH hK ls hl
  subst hH
  have hl : lv_has ls 1 [(0, .ref f)] := hl
  have hS : va_S (fun _ => False) s.heap s.heap [] := va_S.rf
  have hbu := hT.2.2.2.2.2.2.2
  refine lv_aload_n hx hb dX1_overspends_0 rfl (lv_at hl 0 rfl) ?_
  refine va_get (D := g.1) (ci := 1) (v := .int (nI co)) (C := RX1) (T := TX1) (N := 16) hx hb hts (by decide +kernel) hown hK.1 (xr_one hO) 0 rfl rfl 10 (by decide) (hts (.fieldLink RX1 66 "SharesDesk$Phase" "cost" "I") (by decide +kernel)) (fun _ h9 => h9) rfl dX1_overspends_1 ?_
  refine lv_aload_n hx hb dX1_overspends_4 rfl (lv_at hl 0 rfl) ?_
  refine va_get (D := g.1) (ci := 1) (v := .ref t) (C := RX1) (T := TX1) (N := 16) hx hb hts (by decide +kernel) hown hK.1 (xr_one hO) 0 rfl rfl 0 (by decide) (hts (.fieldLink RX1 51 "SharesDesk$Phase" "town" "LSharesDesk$Town;") (by decide +kernel)) (fun _ h9 => h9) rfl dX1_overspends_5 ?_
  refine va_get (D := g.1) (ci := 5) (v := .int (nI bu)) (C := RX5) (T := TX5) (N := 4) hx hb hts (by decide +kernel) hown hK.1 (xr_one hT.1) 0 rfl rfl 3 (by decide) (hts (.fieldLink RX1 92 "SharesDesk$Town" "budget" "I") (by decide +kernel)) (fun _ h9 => h9) rfl dX1_overspends_8 ?_
  refine lv_icmp_le (tgt := 18) hx hb dX1_overspends_11 (by decide) (fun hc => ?_) (fun hc => ?_)
  · have h8 : ¬ bu < co := fun q => absurd ((nI_leI hco (by omega)).mp hc) (by omega)
    refine lv_iconst (v := 0) hx hb dX1_overspends_18 (by decide) ?_
    exact xr_zret hx hb hr rfl hlocks hS ⟨by rw [decide_eq_false h8]; rfl, rfl⟩ dX1_overspends_19
  · have h8 : bu < co := Nat.lt_of_not_le fun q => hc (nI_le q (by omega))
    refine lv_iconst (v := 1) hx hb dX1_overspends_14 (by decide) ?_
    refine lv_goto (tgt := 19) hx hb dX1_overspends_15 (by decide) ?_
    exact xr_zret hx hb hr rfl hlocks hS ⟨by rw [decide_eq_true h8]; rfl, rfl⟩ dX1_overspends_19
set_option maxHeartbeats 400000 in
set_option maxRecDepth 100000 in
theorem c_X1_swapShares (l : Launch) (g : WG) (H0 : Heap) (t : Nat) (f pc pk ps co op bs tr : Nat) (hO : obj g H0 f 1 (phF f t pc pk ps co op bs tr)) : Ctr l (KK g) yX1_swapShares wsX1_swapShares { frames := 0, cells := 0, slots := 0, locals := 0 } [.ref f] H0 eV (fun _ H => obj g H f 1 (phF f t pc pk ps co op tr bs)) (fun q => q = f) := by
  refine xr_enter (cc := cX1_swapShares) (maxL := 2) (ret := none) (by decide) rfl (Nat.le_of_ble_eq_true rfl) ?_
  intro pgm env s mid below meth cde hx hb hr hml hts hown hlocks hnm hH hK ls hl
  subst hH
  have hl : lv_has ls 2 [(0, .ref f)] := hl
  have hS : va_S (fun q => q = f) s.heap s.heap [] := va_S.rf
  refine lv_aload_n hx hb dX1_swapShares_0 rfl (lv_at hl 0 rfl) ?_
  refine va_get (D := g.1) (ci := 1) (v := .ref bs) (C := RX1) (T := TX1) (N := 16) hx hb hts (by decide +kernel) hown hK.1 (xr_one hO) 0 rfl rfl 14 (by decide) (hts (.fieldLink RX1 44 "SharesDesk$Phase" "best" "LSharesDesk$Share;") (by decide +kernel)) (fun _ h9 => h9) rfl dX1_swapShares_1 ?_
  refine lv_astore_n (lv' := [(1, .ref bs), (0, .ref f)]) hx hb dX1_swapShares_4 rfl hl (by decide) rfl (fun ls hl => ?_)
  refine lv_aload_n hx hb dX1_swapShares_5 rfl (lv_at hl 1 rfl) ?_
  refine lv_aload_n hx hb dX1_swapShares_6 rfl (lv_at hl 1 rfl) ?_
  refine va_get (D := g.1) (ci := 1) (v := .ref tr) (C := RX1) (T := TX1) (N := 16) hx hb hts (by decide +kernel) hown hK.1 (xr_one hO) 0 rfl rfl 15 (by decide) (hts (.fieldLink RX1 48 "SharesDesk$Phase" "tried" "LSharesDesk$Share;") (by decide +kernel)) (fun _ h9 => h9) rfl dX1_swapShares_7 ?_
  refine xr_put (ci := 1) (v := .ref tr) (ty := .object "SharesDesk$Share") (C := RX1) (T := TX1) (N := 16) hx hb hts (by decide +kernel) tyX1 tyX1_ok nmX1 hown hK.1 hO hS rfl rfl 14 (by decide) (hts (.fieldLink RX1 44 "SharesDesk$Phase" "best" "LSharesDesk$Share;") (by decide +kernel)) rfl (by decide +kernel) rfl rfl (Nat.le_of_ble_eq_true rfl) dX1_swapShares_10 (fun H locs hz hkp hO hS => ?_)
  refine lv_aload_n hx hb dX1_swapShares_13 rfl (lv_at hl 1 rfl) ?_
  refine lv_aload_n hx hb dX1_swapShares_14 rfl (lv_at hl 0 rfl) ?_
  refine xr_put (ci := 1) (v := .ref bs) (ty := .object "SharesDesk$Share") (C := RX1) (T := TX1) (N := 16) hx hb hts (by decide +kernel) tyX1 tyX1_ok nmX1 hown hK.1 hO hS rfl rfl 15 (by decide) (hts (.fieldLink RX1 48 "SharesDesk$Phase" "tried" "LSharesDesk$Share;") (by decide +kernel)) rfl (by decide +kernel) rfl rfl (Nat.le_of_ble_eq_true rfl) dX1_swapShares_15 (fun H locs hz hkp hO hS => ?_)
  exact xr_vret hx hb hr hlocks hS hO dX1_swapShares_18
set_option maxHeartbeats 400000 in
set_option maxRecDepth 100000 in
theorem c_X1_roundOf (l : Launch) (g : WG) (H0 : Heap) (t : Nat) (f pc pk ps co op bs tr : Nat) (hO : obj g H0 f 1 (phF f t pc pk ps co op bs tr)) (pik : Nat → Nat) (hpk : pk ≤ 16) (hpik : ∀ i, i < pk → pik i < 16) (hPi : xr_ia H0 (f + 7) (gI g) 16 (fun i => nI (pik i))) (i0 : Int32) : Ctr l (KK g) yX1_roundOf wsX1_roundOf { frames := 0, cells := 0, slots := 0, locals := 0 } [.ref f, .int i0] H0 eI (fun r H => r = rnd pik pk i0 ∧ H = H0) (fun _ => False) := by
  refine xr_enter (cc := cX1_roundOf) (maxL := 3) (ret := (some .int)) (by decide) rfl (Nat.le_of_ble_eq_true rfl) ?_
  intro pgm env s mid below meth cde hx hb hr hml hts hown hlocks hnm hH hK ls hl
  subst hH
  have hl : lv_has ls 3 [(0, .ref f), (1, .int i0)] := hl
  have hS : va_S (fun _ => False) s.heap s.heap [] := va_S.rf
  have loop : ∀ (n i : Nat), i + n = pk → (∀ j, j < i → nI (pik j) ≠ i0) → ∀ ls : Array Slot, lv_has ls 3 [(2, .int (nI i)), (0, .ref f), (1, .int i0)] → W pgm l env { frames := 0, cells := 0, slots := 0, locals := 0 } s mid ([.ref f, .int i0] : List Value).toArray below meth cde s.heap [] 0 0 (MQ below (xr_Post eI (fun r H => r = rnd pik pk i0 ∧ H = s.heap) (fun _ => False)) ([.ref f, .int i0] : List Value).toArray s ({ frames := 0, cells := 0, slots := 0, locals := 0 } : Room).cells ({ frames := 0, cells := 0, slots := 0, locals := 0 } : Room).slots (fun _ => False)) (F0 mid 2 ls []) := by
    intro n
    induction n with
    | zero =>
      intro i h1 h2 ls hl
      refine lv_iload_n hx hb dX1_roundOf_2 rfl (lv_at hl 0 rfl) ?_
      refine lv_aload_n hx hb dX1_roundOf_3 rfl (lv_at hl 1 rfl) ?_
      refine va_get (D := g.1) (ci := 1) (v := .int (nI pk)) (C := RX1) (T := TX1) (N := 16) hx hb hts (by decide +kernel) hown hK.1 (xr_one hO) 0 rfl rfl 8 (by decide) (hts (.fieldLink RX1 59 "SharesDesk$Phase" "picked" "I") (by decide +kernel)) (fun _ h9 => h9) rfl dX1_roundOf_4 ?_
      refine lv_icmp_ge (tgt := 28) hx hb dX1_roundOf_7 (by decide) (fun hc => ?_) (fun hc => ?_)
      · clear hc
        refine lv_iconst (v := (-1)) hx hb dX1_roundOf_28 (by decide) ?_
        exact xr_iret hx hb hr hlocks hS ⟨(rnd_no (fun j hj => h2 j (by omega))).symm, rfl⟩ dX1_roundOf_29
      · exact absurd (nI_le (show pk ≤ i by omega) (by omega)) hc
    | succ n ih =>
      intro i h1 h2 ls hl
      refine lv_iload_n hx hb dX1_roundOf_2 rfl (lv_at hl 0 rfl) ?_
      refine lv_aload_n hx hb dX1_roundOf_3 rfl (lv_at hl 1 rfl) ?_
      refine va_get (D := g.1) (ci := 1) (v := .int (nI pk)) (C := RX1) (T := TX1) (N := 16) hx hb hts (by decide +kernel) hown hK.1 (xr_one hO) 0 rfl rfl 8 (by decide) (hts (.fieldLink RX1 59 "SharesDesk$Phase" "picked" "I") (by decide +kernel)) (fun _ h9 => h9) rfl dX1_roundOf_4 ?_
      refine lv_icmp_ge (tgt := 28) hx hb dX1_roundOf_7 (by decide) (fun hc => ?_) (fun hc => ?_)
      · exact absurd ((nI_leI (by omega) (by omega)).mp hc) (by omega)
      · clear hc
        refine lv_aload_n hx hb dX1_roundOf_10 rfl (lv_at hl 1 rfl) ?_
        refine va_get (D := g.1) (ci := 1) (v := .ref (f + 7)) (C := RX1) (T := TX1) (N := 16) hx hb hts (by decide +kernel) hown hK.1 (xr_one hO) 0 rfl rfl 7 (by decide) (hts (.fieldLink RX1 32 "SharesDesk$Phase" "picks" "[I") (by decide +kernel)) (fun _ h9 => h9) rfl dX1_roundOf_11 ?_
        refine lv_iload_n hx hb dX1_roundOf_14 rfl (lv_at hl 0 rfl) ?_
        refine xr_rd hx hb hK hPi (show i < 16 by omega) (by decide) dX1_roundOf_15 ?_
        refine lv_iload_n hx hb dX1_roundOf_16 rfl (lv_at hl 2 rfl) ?_
        refine lv_icmp_ne (tgt := 22) hx hb dX1_roundOf_17 (by decide) (fun hc => ?_) (fun hc => ?_)
        · have h9 := hc
          refine lv_iinc (v := nI (i + 1)) (lv' := [(2, .int (nI (i + 1))), (0, .ref f), (1, .int i0)]) hx hb dX1_roundOf_22 hl (k := 0) rfl (nI_1 i) (by decide) rfl (fun ls hl => ?_)
          refine lv_goto (tgt := 2) hx hb dX1_roundOf_25 (by decide) ?_
          exact ih (i + 1) (by omega) (fun j hj => if e : j = i then by rw [e]; exact hc else h2 j (by omega)) ls (lv_sub hl [0, 1, 2] rfl)
        · have h9 := hc
          refine lv_iload_n hx hb dX1_roundOf_20 rfl (lv_at hl 0 rfl) ?_
          exact xr_iret hx hb hr hlocks hS ⟨(rnd_yes h2 (by omega) hc).symm, rfl⟩ dX1_roundOf_21
  refine lv_iconst (v := 0) hx hb dX1_roundOf_0 (by decide) ?_
  refine xr_ti (x' := nI 0) rfl ?_
  refine lv_istore_n (lv' := [(2, .int (nI 0)), (0, .ref f), (1, .int i0)]) hx hb dX1_roundOf_1 rfl hl (by decide) rfl (fun ls hl => ?_)
  exact loop pk 0 (by omega) (fun j hj => absurd hj (Nat.not_lt_zero j)) ls (lv_sub hl [0, 1, 2] rfl)
end
section
set_option maxHeartbeats 400000 in
set_option maxRecDepth 100000 in
theorem c_X1_findShare (l : Launch) (g : WG) (H0 : Heap) (t : Nat) (c : Nat → Nat) (vs : Nat) (ap : Nat → Nat) (bu : Nat) (hT : TownAt g H0 t c vs ap bu) (f pc pk ps co op bs tr : Nat) (hO : obj g H0 f 1 (phF f t pc pk ps co op bs tr)) (hft : t + 3 ≤ f ∨ f + 280 ≤ t) (pay : Nat → Nat) (hpc : pc ≤ 48) (hpay : ∀ i, i < pc → pay i < 48) (hPy : xr_ia H0 (f + 6) (gI g) 48 (fun i => nI (pay i))) (B : Nat) (hBa : NatAt g H0 (f + 1) B) (pur : Nat → Nat) (hPu : PoolAt g H0 (f + 3) (f + 24) 48 pur) (hB : B * 48000000 < 2 ^ 128) (hpb : ∀ i, i < pc → pur (pay i) * 48 < 2 ^ 128) (r0 k0 : Nat) (hTr : ShareAt g H0 tr r0 k0) (htr : tr = f + 10 ∨ tr = f + 17) (p0 : Nat) (hp : p0 < 16) : Ctr l (KK g) yX1_findShare wsX1_findShare { frames := 3, cells := 0, slots := 0, locals := 82 } [.ref f, .int (nI p0)] H0 eI (fun z H => z = b2i (shr (supL pur pay ap p0 pc 0) (B * c p0)).1 ∧ ShareAt g H tr (shr (supL pur pay ap p0 pc 0) (B * c p0)).2.1 (shr (supL pur pay ap p0 pc 0) (B * c p0)).2.2) (fun q => tr ≤ q ∧ q < tr + 7) := by
  refine xr_enter (cc := cX1_findShare) (maxL := 4) (ret := (some .boolean)) (by decide) rfl (Nat.le_of_ble_eq_true rfl) ?_
  intro pgm env s mid below meth cde hx hb hr hml hts hown hlocks hnm hH hK ls hl
  subst hH
  have hl : lv_has ls 4 [(0, .ref f), (1, .int (nI p0))] := hl
  have hS : va_S (fun q => tr ≤ q ∧ q < tr + 7) s.heap s.heap [] := va_S.rf
  obtain ⟨hSo, hN1, hN2, hN3⟩ := id hTr
  have hcp := hT.2.2.2.1 p0 hp
  have hBc : B * c p0 < 2 ^ 128 := Nat.lt_of_le_of_lt (Nat.mul_le_mul_left B (show c p0 ≤ 48000000 by omega)) hB
  have loop : ∀ (n i r k : Nat), i + n = pc → k = (supL pur pay ap p0 n i).length → shr (supL pur pay ap p0 n i) r = shr (supL pur pay ap p0 pc 0) (B * c p0) → ∀ (H : Heap) (locs : List Loc), obj g H f 1 (phF f t pc pk ps co op bs tr) → TownAt g H t c vs ap bu → xr_ia H (f + 6) (gI g) 48 (fun i => nI (pay i)) → PoolAt g H (f + 3) (f + 24) 48 pur → ShareAt g H tr r k → va_S (fun q => tr ≤ q ∧ q < tr + 7) s.heap H locs → ∀ ls : Array Slot, lv_has ls 4 [(2, .int (nI i)), (0, .ref f), (1, .int (nI p0))] → W pgm l env { frames := 3, cells := 0, slots := 0, locals := 82 } s mid ([.ref f, .int (nI p0)] : List Value).toArray below meth cde H locs 0 0 (MQ below (xr_Post eI (fun z H => z = b2i (shr (supL pur pay ap p0 pc 0) (B * c p0)).1 ∧ ShareAt g H tr (shr (supL pur pay ap p0 pc 0) (B * c p0)).2.1 (shr (supL pur pay ap p0 pc 0) (B * c p0)).2.2) (fun q => tr ≤ q ∧ q < tr + 7)) ([.ref f, .int (nI p0)] : List Value).toArray s ({ frames := 3, cells := 0, slots := 0, locals := 82 } : Room).cells ({ frames := 3, cells := 0, slots := 0, locals := 82 } : Room).slots (fun q => tr ≤ q ∧ q < tr + 7)) (F0 mid 47 ls []) := by
    intro n
    induction n with
    | zero =>
      intro i r k h1 hk hsr H locs hO hT hPy hPu hTr hS ls hl
      refine lv_iload_n hx hb dX1_findShare_47 rfl (lv_at hl 0 rfl) ?_
      refine lv_aload_n hx hb dX1_findShare_48 rfl (lv_at hl 1 rfl) ?_
      refine va_get (D := g.1) (ci := 1) (v := .int (nI pc)) (C := RX1) (T := TX1) (N := 16) hx hb hts (by decide +kernel) hown hK.1 (xr_one hO) 0 rfl rfl 6 (by decide) (hts (.fieldLink RX1 118 "SharesDesk$Phase" "payerCount" "I") (by decide +kernel)) (fun _ h9 => h9) rfl dX1_findShare_49 ?_
      refine lv_icmp_ge (tgt := 130) hx hb dX1_findShare_52 (by decide) (fun hc => ?_) (fun hc => ?_)
      · clear hc
        have hk : k = 0 := hk
        subst hk
        have hsr : (false, r, 0) = shr (supL pur pay ap p0 pc 0) (B * c p0) := hsr
        refine lv_iconst (v := 0) hx hb dX1_findShare_130 (by decide) ?_
        exact xr_zret hx hb hr rfl hlocks hS (by rw [← hsr]; exact ⟨rfl, hTr⟩) dX1_findShare_131
      · exact absurd (nI_le (show pc ≤ i by omega) (by omega)) hc
    | succ n ih =>
      intro i r k h1 hk hsr H locs hO hT hPy hPu hTr hS ls hl
      refine lv_iload_n hx hb dX1_findShare_47 rfl (lv_at hl 0 rfl) ?_
      refine lv_aload_n hx hb dX1_findShare_48 rfl (lv_at hl 1 rfl) ?_
      refine va_get (D := g.1) (ci := 1) (v := .int (nI pc)) (C := RX1) (T := TX1) (N := 16) hx hb hts (by decide +kernel) hown hK.1 (xr_one hO) 0 rfl rfl 6 (by decide) (hts (.fieldLink RX1 118 "SharesDesk$Phase" "payerCount" "I") (by decide +kernel)) (fun _ h9 => h9) rfl dX1_findShare_49 ?_
      refine lv_icmp_ge (tgt := 130) hx hb dX1_findShare_52 (by decide) (fun hc => ?_) (fun hc => ?_)
      · exact absurd ((nI_leI (by omega) (by omega)).mp hc) (by omega)
      · clear hc
        have hv := hpay i (by omega)
        refine lv_aload_n hx hb dX1_findShare_55 rfl (lv_at hl 1 rfl) ?_
        refine va_get (D := g.1) (ci := 1) (v := .ref (f + 6)) (C := RX1) (T := TX1) (N := 16) hx hb hts (by decide +kernel) hown hK.1 (xr_one hO) 0 rfl rfl 5 (by decide) (hts (.fieldLink RX1 29 "SharesDesk$Phase" "payers" "[I") (by decide +kernel)) (fun _ h9 => h9) rfl dX1_findShare_56 ?_
        refine lv_iload_n hx hb dX1_findShare_59 rfl (lv_at hl 0 rfl) ?_
        refine xr_rd hx hb hK hPy (show i < 48 by omega) (by decide) dX1_findShare_60 ?_
        refine lv_istore_n (lv' := [(3, .int (nI (pay i))), (2, .int (nI i)), (0, .ref f), (1, .int (nI p0))]) hx hb dX1_findShare_61 rfl hl (by decide) rfl (fun ls hl => ?_)
        refine lv_aload_n hx hb dX1_findShare_62 rfl (lv_at hl 2 rfl) ?_
        refine va_get (D := g.1) (ci := 1) (v := .ref t) (C := RX1) (T := TX1) (N := 16) hx hb hts (by decide +kernel) hown hK.1 (xr_one hO) 0 rfl rfl 0 (by decide) (hts (.fieldLink RX1 51 "SharesDesk$Phase" "town" "LSharesDesk$Town;") (by decide +kernel)) (fun _ h9 => h9) rfl dX1_findShare_63 ?_
        refine lv_iload_n hx hb dX1_findShare_66 rfl (lv_at hl 0 rfl) ?_
        refine lv_iload_n hx hb dX1_findShare_67 rfl (lv_at hl 3 rfl) ?_
        refine xr_Vi (rest := []) ⟨hx, hb, hml, hown, hts⟩ (KK_ok g) hK (c_X5_approves l g H t c vs ap bu hT (pay i) p0 hv hp) (cwV 2 hts gX1_findShare_X5_approves rfl rfl rfl (by decide +kernel) ⟨Nat.le_of_ble_eq_true rfl, Nat.le_of_ble_eq_true rfl⟩) (xr_rec hK hT.1 rfl) rfl hl.1 rfl (Nat.le_of_ble_eq_true rfl) dX1_findShare_68 ⟨Nat.le_of_ble_eq_true rfl, Nat.le_of_ble_eq_true rfl⟩ hS (fun q h => h.elim) (fun r H locs hq hz hkp hS9 => ?_)
        obtain ⟨rfl, rfl⟩ := hq
        have hS := hS9
        refine lv_if_ne (tgt := 77) hx hb dX1_findShare_71 (by decide) (fun hc => ?_) (fun hc => ?_)
        · have h8 := b2i_n0.mp hc
          rw [supL_y h8] at hk hsr
          rw [List.length_cons] at hk
          have hlen := supL_len (pur := pur) (pay := pay) (ap := ap) (p := p0) n (i + 1)
          have hxk : pur (pay i) * k < 2 ^ 128 := Nat.lt_of_le_of_lt (Nat.mul_le_mul_left _ (show k ≤ 48 by omega)) (hpb i (by omega))
          refine lv_aload_n hx hb dX1_findShare_77 rfl (lv_at hl 2 rfl) ?_
          refine va_get (D := g.1) (ci := 1) (v := .ref tr) (C := RX1) (T := TX1) (N := 16) hx hb hts (by decide +kernel) hown hK.1 (xr_one hO) 0 rfl rfl 15 (by decide) (hts (.fieldLink RX1 48 "SharesDesk$Phase" "tried" "LSharesDesk$Share;") (by decide +kernel)) (fun _ h9 => h9) rfl dX1_findShare_78 ?_
          refine lv_aload_n hx hb dX1_findShare_81 rfl (lv_at hl 2 rfl) ?_
          refine va_get (D := g.1) (ci := 1) (v := .ref (f + 3)) (C := RX1) (T := TX1) (N := 16) hx hb hts (by decide +kernel) hown hK.1 (xr_one hO) 0 rfl rfl 2 (by decide) (hts (.fieldLink RX1 18 "SharesDesk$Phase" "purses" "[LSharesDesk$Natural;") (by decide +kernel)) (fun _ h9 => h9) rfl dX1_findShare_82 ?_
          refine lv_iload_n hx hb dX1_findShare_85 rfl (lv_at hl 0 rfl) ?_
          refine xr_pl hx hb hK hPu hv (by decide) dX1_findShare_86 ?_
          refine xr_Vi (rest := []) ⟨hx, hb, hml, hown, hts⟩ (KK_ok g) hK (c_X3_isWithin l g H tr (f + 24 + 4 * pay i) r k (pur (pay i)) hTr (hPu.2 _ hv) (by omega) (by omega) hxk) (cwV 1 hts gX1_findShare_X3_isWithin rfl rfl rfl (by decide +kernel) ⟨Nat.le_of_ble_eq_true rfl, Nat.le_of_ble_eq_true rfl⟩) (xr_rec hK hTr.1 rfl) rfl hl.1 rfl (Nat.le_of_ble_eq_true rfl) dX1_findShare_87 ⟨Nat.le_of_ble_eq_true rfl, Nat.le_of_ble_eq_true rfl⟩ hS (fun q h => by have h : q = tr + 4 := h; show tr ≤ q ∧ q < tr + 7; omega) (fun z H locs hq hz hkp hS => ?_)
          replace hkp := fun (q : Nat) h1 (h2 : ¬ (q = tr + 4)) => hkp q h1 h2
          replace hO := hO.kept (hkp _ hO.lt (by omega))
          replace hT := hT.kept (fun q hq1 hq2 hq3 => hkp q hq1 (by omega))
          replace hPy := hPy.kept (hkp _ hPy.lt (by omega))
          replace hPu := hPu.kept (hkp _ hPu.1.lt (by omega)) (fun v hv => hkp _ (hPu.2 v hv).1.lt (by omega)) (fun v hv => hkp _ (hPu.2 v hv).2.1.lt (by omega))
          obtain ⟨rfl, hTr⟩ := hq
          refine lv_if_eq (tgt := 95) hx hb dX1_findShare_90 (by decide) (fun hc => ?_) (fun hc => ?_)
          · have h9 := of_decide_eq_false (b2i_0.mp hc)
            rw [shr, if_neg (by rw [← hk]; exact h9)] at hsr
            have hle : pur (pay i) ≤ r := Nat.le_of_lt (Nat.lt_of_le_of_lt (Nat.le_mul_of_pos_right _ (show 0 < k by omega)) (Nat.lt_of_not_le h9))
            refine lv_aload_n hx hb dX1_findShare_95 rfl (lv_at hl 2 rfl) ?_
            refine va_get (D := g.1) (ci := 1) (v := .ref tr) (C := RX1) (T := TX1) (N := 16) hx hb hts (by decide +kernel) hown hK.1 (xr_one hO) 0 rfl rfl 15 (by decide) (hts (.fieldLink RX1 48 "SharesDesk$Phase" "tried" "LSharesDesk$Share;") (by decide +kernel)) (fun _ h9 => h9) rfl dX1_findShare_96 ?_
            refine va_get (D := g.1) (ci := 3) (v := .ref (tr + 1)) (C := RX3) (T := TX3) (N := 4) hx hb hts (by decide +kernel) hown hK.1 (xr_one hTr.1) 0 rfl rfl 0 (by decide) (hts (.fieldLink RX1 153 "SharesDesk$Share" "rest" "LSharesDesk$Natural;") (by decide +kernel)) (fun _ h9 => h9) rfl dX1_findShare_99 ?_
            refine lv_aload_n hx hb dX1_findShare_102 rfl (lv_at hl 2 rfl) ?_
            refine va_get (D := g.1) (ci := 1) (v := .ref (f + 3)) (C := RX1) (T := TX1) (N := 16) hx hb hts (by decide +kernel) hown hK.1 (xr_one hO) 0 rfl rfl 2 (by decide) (hts (.fieldLink RX1 18 "SharesDesk$Phase" "purses" "[LSharesDesk$Natural;") (by decide +kernel)) (fun _ h9 => h9) rfl dX1_findShare_103 ?_
            refine lv_iload_n hx hb dX1_findShare_106 rfl (lv_at hl 0 rfl) ?_
            refine xr_pl hx hb hK hPu hv (by decide) dX1_findShare_107 ?_
            obtain ⟨hSo, hN1, ⟨u2, hN2⟩, ⟨u3, hN3⟩⟩ := hTr
            refine xr_Vv (rest := []) ⟨hx, hb, hml, hown, hts⟩ (KK_ok g) hK (c_X0_minus l g H (tr + 1) (f + 24 + 4 * pay i) r (pur (pay i)) hN1 (hPu.2 _ hv) (by omega) hle (by omega)) (cwV 1 hts gX1_findShare_X0_minus rfl rfl rfl (by decide +kernel) ⟨Nat.le_of_ble_eq_true rfl, Nat.le_of_ble_eq_true rfl⟩) (xr_rec hK hN1.1 rfl) rfl hl.1 rfl (Nat.le_of_ble_eq_true rfl) dX1_findShare_108 ⟨Nat.le_of_ble_eq_true rfl, Nat.le_of_ble_eq_true rfl⟩ hS (fun q h => by have h : q = tr + 1 + 1 := h; show tr ≤ q ∧ q < tr + 7; omega) (fun _ H locs hq hz hkp hS => ?_)
            replace hkp := fun (q : Nat) h1 (h2 : ¬ (q = tr + 1 + 1)) => hkp q h1 h2
            replace hO := hO.kept (hkp _ hO.lt (by omega))
            replace hT := hT.kept (fun q hq1 hq2 hq3 => hkp q hq1 (by omega))
            replace hPy := hPy.kept (hkp _ hPy.lt (by omega))
            replace hPu := hPu.kept (hkp _ hPu.1.lt (by omega)) (fun v hv => hkp _ (hPu.2 v hv).1.lt (by omega)) (fun v hv => hkp _ (hPu.2 v hv).2.1.lt (by omega))
            replace hSo := hSo.kept (hkp _ hSo.lt (by omega))
            replace hN2 := hN2.kept (hkp _ hN2.1.lt (by omega)) (hkp _ hN2.2.1.lt (by omega))
            replace hN3 := hN3.kept (hkp _ hN3.1.lt (by omega)) (hkp _ hN3.2.1.lt (by omega))
            have hN1 : NatAt g H (tr + 1) (r - pur (pay i)) := hq
            refine lv_aload_n hx hb dX1_findShare_111 rfl (lv_at hl 2 rfl) ?_
            refine va_get (D := g.1) (ci := 1) (v := .ref tr) (C := RX1) (T := TX1) (N := 16) hx hb hts (by decide +kernel) hown hK.1 (xr_one hO) 0 rfl rfl 15 (by decide) (hts (.fieldLink RX1 48 "SharesDesk$Phase" "tried" "LSharesDesk$Share;") (by decide +kernel)) (fun _ h9 => h9) rfl dX1_findShare_112 ?_
            refine lv_dup hx hb dX1_findShare_115 rfl ?_
            refine va_get (D := g.1) (ci := 3) (v := .int (nI k)) (C := RX3) (T := TX3) (N := 4) hx hb hts (by decide +kernel) hown hK.1 (xr_one hSo) 0 rfl rfl 1 (by decide) (hts (.fieldLink RX1 159 "SharesDesk$Share" "payers" "I") (by decide +kernel)) (fun _ h9 => h9) rfl dX1_findShare_116 ?_
            refine lv_iconst (v := 1) hx hb dX1_findShare_119 (by decide) ?_
            refine lv_isub hx hb dX1_findShare_120 ?_
            refine xr_ti (x' := nI (supL pur pay ap p0 n (i + 1)).length) (by rw [hk]; exact nI_pred _) ?_
            refine xr_put (ci := 3) (v := .int (nI (supL pur pay ap p0 n (i + 1)).length)) (ty := .int) (C := RX3) (T := TX3) (N := 4) hx hb hts (by decide +kernel) tyX3 tyX3_ok nmX3 hown hK.1 hSo hS (show tr ≤ tr ∧ tr < tr + 7 by omega) rfl 1 (by decide) (hts (.fieldLink RX1 159 "SharesDesk$Share" "payers" "I") (by decide +kernel)) rfl (by decide +kernel) rfl rfl (Nat.le_of_ble_eq_true rfl) dX1_findShare_121 (fun H locs hz hkp hSo hS => ?_)
            replace hO := hO.kept (hkp _ (by omega))
            replace hT := hT.kept (fun q hq1 hq2 hq3 => hkp q (by omega))
            replace hPy := hPy.kept (hkp _ (by omega))
            replace hPu := hPu.kept (hkp _ (by omega)) (fun v hv => hkp _ (by omega)) (fun v hv => hkp _ (by omega))
            replace hN2 := hN2.kept (hkp _ (by omega)) (hkp _ (by omega))
            replace hN3 := hN3.kept (hkp _ (by omega)) (hkp _ (by omega))
            replace hN1 := hN1.kept (hkp _ (by omega)) (hkp _ (by omega))
            refine lv_iinc (v := nI (i + 1)) (lv' := [(2, .int (nI (i + 1))), (3, .int (nI (pay i))), (0, .ref f), (1, .int (nI p0))]) hx hb dX1_findShare_124 hl (k := 1) rfl (nI_1 i) (by decide) rfl (fun ls hl => ?_)
            refine lv_goto (tgt := 47) hx hb dX1_findShare_127 (by decide) ?_
            exact ih (i + 1) _ _ (by omega) rfl hsr H locs hO hT hPy hPu ⟨hSo, hN1, ⟨u2, hN2⟩, ⟨u3, hN3⟩⟩ hS ls (lv_sub hl [0, 2, 3] rfl)
          · have h9 := of_decide_eq_true (b2i_n0.mp hc)
            rw [shr, if_pos (by rw [← hk]; exact h9), ← hk] at hsr
            refine lv_iconst (v := 1) hx hb dX1_findShare_93 (by decide) ?_
            exact xr_zret hx hb hr rfl hlocks hS (by rw [← hsr]; exact ⟨rfl, hTr⟩) dX1_findShare_94
        · have h8 : (ap (pay i)).testBit p0 = false := b2i_0.mp hc
          rw [supL_n h8] at hk hsr
          refine lv_goto (tgt := 124) hx hb dX1_findShare_74 (by decide) ?_
          refine lv_iinc (v := nI (i + 1)) (lv' := [(2, .int (nI (i + 1))), (3, .int (nI (pay i))), (0, .ref f), (1, .int (nI p0))]) hx hb dX1_findShare_124 hl (k := 1) rfl (nI_1 i) (by decide) rfl (fun ls hl => ?_)
          refine lv_goto (tgt := 47) hx hb dX1_findShare_127 (by decide) ?_
          exact ih (i + 1) r k (by omega) hk hsr H locs hO hT hPy hPu hTr hS ls (lv_sub hl [0, 2, 3] rfl)
  obtain ⟨u2, hN2⟩ := hN2
  obtain ⟨u3, hN3⟩ := hN3
  refine lv_aload_n hx hb dX1_findShare_0 rfl (lv_at hl 0 rfl) ?_
  refine va_get (D := g.1) (ci := 1) (v := .ref tr) (C := RX1) (T := TX1) (N := 16) hx hb hts (by decide +kernel) hown hK.1 (xr_one hO) 0 rfl rfl 15 (by decide) (hts (.fieldLink RX1 48 "SharesDesk$Phase" "tried" "LSharesDesk$Share;") (by decide +kernel)) (fun _ h9 => h9) rfl dX1_findShare_1 ?_
  refine va_get (D := g.1) (ci := 3) (v := .ref (tr + 1)) (C := RX3) (T := TX3) (N := 4) hx hb hts (by decide +kernel) hown hK.1 (xr_one hSo) 0 rfl rfl 0 (by decide) (hts (.fieldLink RX1 153 "SharesDesk$Share" "rest" "LSharesDesk$Natural;") (by decide +kernel)) (fun _ h9 => h9) rfl dX1_findShare_4 ?_
  refine lv_aload_n hx hb dX1_findShare_7 rfl (lv_at hl 0 rfl) ?_
  refine va_get (D := g.1) (ci := 1) (v := .ref (f + 1)) (C := RX1) (T := TX1) (N := 16) hx hb hts (by decide +kernel) hown hK.1 (xr_one hO) 0 rfl rfl 1 (by decide) (hts (.fieldLink RX1 12 "SharesDesk$Phase" "base" "LSharesDesk$Natural;") (by decide +kernel)) (fun _ h9 => h9) rfl dX1_findShare_8 ?_
  refine xr_Vv (rest := []) ⟨hx, hb, hml, hown, hts⟩ (KK_ok g) hK (c_X0_copy l g s.heap (tr + 1) (f + 1) r0 B hN1 hBa (by omega)) (cwV 1 hts gX1_findShare_X0_copy rfl rfl rfl (by decide +kernel) ⟨Nat.le_of_ble_eq_true rfl, Nat.le_of_ble_eq_true rfl⟩) (xr_rec hK hN1.1 rfl) rfl hl.1 rfl (Nat.le_of_ble_eq_true rfl) dX1_findShare_11 ⟨Nat.le_of_ble_eq_true rfl, Nat.le_of_ble_eq_true rfl⟩ hS (fun q h => by have h : q = tr + 1 + 1 := h; show tr ≤ q ∧ q < tr + 7; omega) (fun _ H locs hq hz hkp hS => ?_)
  replace hkp := fun (q : Nat) h1 (h2 : ¬ (q = tr + 1 + 1)) => hkp q h1 h2
  replace hO := hO.kept (hkp _ hO.lt (by omega))
  replace hT := hT.kept (fun q hq1 hq2 hq3 => hkp q hq1 (by omega))
  replace hPy := hPy.kept (hkp _ hPy.lt (by omega))
  replace hPu := hPu.kept (hkp _ hPu.1.lt (by omega)) (fun v hv => hkp _ (hPu.2 v hv).1.lt (by omega)) (fun v hv => hkp _ (hPu.2 v hv).2.1.lt (by omega))
  replace hSo := hSo.kept (hkp _ hSo.lt (by omega))
  replace hN2 := hN2.kept (hkp _ hN2.1.lt (by omega)) (hkp _ hN2.2.1.lt (by omega))
  replace hN3 := hN3.kept (hkp _ hN3.1.lt (by omega)) (hkp _ hN3.2.1.lt (by omega))
  have hN1 : NatAt g H (tr + 1) B := hq
  refine lv_aload_n hx hb dX1_findShare_14 rfl (lv_at hl 0 rfl) ?_
  refine va_get (D := g.1) (ci := 1) (v := .ref tr) (C := RX1) (T := TX1) (N := 16) hx hb hts (by decide +kernel) hown hK.1 (xr_one hO) 0 rfl rfl 15 (by decide) (hts (.fieldLink RX1 48 "SharesDesk$Phase" "tried" "LSharesDesk$Share;") (by decide +kernel)) (fun _ h9 => h9) rfl dX1_findShare_15 ?_
  refine va_get (D := g.1) (ci := 3) (v := .ref (tr + 1)) (C := RX3) (T := TX3) (N := 4) hx hb hts (by decide +kernel) hown hK.1 (xr_one hSo) 0 rfl rfl 0 (by decide) (hts (.fieldLink RX1 153 "SharesDesk$Share" "rest" "LSharesDesk$Natural;") (by decide +kernel)) (fun _ h9 => h9) rfl dX1_findShare_18 ?_
  refine lv_aload_n hx hb dX1_findShare_21 rfl (lv_at hl 0 rfl) ?_
  refine va_get (D := g.1) (ci := 1) (v := .ref t) (C := RX1) (T := TX1) (N := 16) hx hb hts (by decide +kernel) hown hK.1 (xr_one hO) 0 rfl rfl 0 (by decide) (hts (.fieldLink RX1 51 "SharesDesk$Phase" "town" "LSharesDesk$Town;") (by decide +kernel)) (fun _ h9 => h9) rfl dX1_findShare_22 ?_
  refine va_get (D := g.1) (ci := 5) (v := .ref (t + 1)) (C := RX5) (T := TX5) (N := 4) hx hb hts (by decide +kernel) hown hK.1 (xr_one hT.1) 0 rfl rfl 0 (by decide) (hts (.fieldLink RX1 112 "SharesDesk$Town" "costs" "[I") (by decide +kernel)) (fun _ h9 => h9) rfl dX1_findShare_25 ?_
  refine lv_iload_n hx hb dX1_findShare_28 rfl (lv_at hl 1 rfl) ?_
  refine xr_rd hx hb hK hT.2.1 hp (by decide) dX1_findShare_29 ?_
  refine xr_Vv (rest := []) ⟨hx, hb, hml, hown, hts⟩ (KK_ok g) hK (c_X0_times l g H (tr + 1) B (c p0) hN1 (by omega) hBc) (cwV 1 hts gX1_findShare_X0_times rfl rfl rfl (by decide +kernel) ⟨Nat.le_of_ble_eq_true rfl, Nat.le_of_ble_eq_true rfl⟩) (xr_rec hK hN1.1 rfl) rfl hl.1 rfl (Nat.le_of_ble_eq_true rfl) dX1_findShare_30 ⟨Nat.le_of_ble_eq_true rfl, Nat.le_of_ble_eq_true rfl⟩ hS (fun q h => by have h : q = tr + 1 + 1 := h; show tr ≤ q ∧ q < tr + 7; omega) (fun _ H locs hq hz hkp hS => ?_)
  replace hkp := fun (q : Nat) h1 (h2 : ¬ (q = tr + 1 + 1)) => hkp q h1 h2
  replace hO := hO.kept (hkp _ hO.lt (by omega))
  replace hT := hT.kept (fun q hq1 hq2 hq3 => hkp q hq1 (by omega))
  replace hPy := hPy.kept (hkp _ hPy.lt (by omega))
  replace hPu := hPu.kept (hkp _ hPu.1.lt (by omega)) (fun v hv => hkp _ (hPu.2 v hv).1.lt (by omega)) (fun v hv => hkp _ (hPu.2 v hv).2.1.lt (by omega))
  replace hSo := hSo.kept (hkp _ hSo.lt (by omega))
  replace hN2 := hN2.kept (hkp _ hN2.1.lt (by omega)) (hkp _ hN2.2.1.lt (by omega))
  replace hN3 := hN3.kept (hkp _ hN3.1.lt (by omega)) (hkp _ hN3.2.1.lt (by omega))
  have hN1 : NatAt g H (tr + 1) (B * c p0) := hq
  refine lv_aload_n hx hb dX1_findShare_33 rfl (lv_at hl 0 rfl) ?_
  refine va_get (D := g.1) (ci := 1) (v := .ref tr) (C := RX1) (T := TX1) (N := 16) hx hb hts (by decide +kernel) hown hK.1 (xr_one hO) 0 rfl rfl 15 (by decide) (hts (.fieldLink RX1 48 "SharesDesk$Phase" "tried" "LSharesDesk$Share;") (by decide +kernel)) (fun _ h9 => h9) rfl dX1_findShare_34 ?_
  refine lv_aload_n hx hb dX1_findShare_37 rfl (lv_at hl 0 rfl) ?_
  refine lv_iload_n hx hb dX1_findShare_38 rfl (lv_at hl 1 rfl) ?_
  refine xr_Vi (rest := [.ref tr]) ⟨hx, hb, hml, hown, hts⟩ (KK_ok g) hK (c_X1_countPayers l g H t c vs ap bu hT f pc pk ps co op bs tr hO hft pay hpc hpay hPy pur p0 hp) (cwV 1 hts gX1_findShare_X1_countPayers rfl rfl rfl (by decide +kernel) ⟨Nat.le_of_ble_eq_true rfl, Nat.le_of_ble_eq_true rfl⟩) (xr_rec hK hO rfl) rfl hl.1 rfl (Nat.le_of_ble_eq_true rfl) dX1_findShare_39 ⟨Nat.le_of_ble_eq_true rfl, Nat.le_of_ble_eq_true rfl⟩ hS (fun q h => h.elim) (fun r H locs hq hz hkp hS9 => ?_)
  obtain ⟨rfl, rfl⟩ := hq
  have hS := hS9
  refine xr_put (ci := 3) (v := .int (nI (supL pur pay ap p0 pc 0).length)) (ty := .int) (C := RX3) (T := TX3) (N := 4) hx hb hts (by decide +kernel) tyX3 tyX3_ok nmX3 hown hK.1 hSo hS (show tr ≤ tr ∧ tr < tr + 7 by omega) rfl 1 (by decide) (hts (.fieldLink RX1 159 "SharesDesk$Share" "payers" "I") (by decide +kernel)) rfl (by decide +kernel) rfl rfl (Nat.le_of_ble_eq_true rfl) dX1_findShare_42 (fun H locs hz hkp hSo hS => ?_)
  replace hO := hO.kept (hkp _ (by omega))
  replace hT := hT.kept (fun q hq1 hq2 hq3 => hkp q (by omega))
  replace hPy := hPy.kept (hkp _ (by omega))
  replace hPu := hPu.kept (hkp _ (by omega)) (fun v hv => hkp _ (by omega)) (fun v hv => hkp _ (by omega))
  replace hN2 := hN2.kept (hkp _ (by omega)) (hkp _ (by omega))
  replace hN3 := hN3.kept (hkp _ (by omega)) (hkp _ (by omega))
  replace hN1 := hN1.kept (hkp _ (by omega)) (hkp _ (by omega))
  refine lv_iconst (v := 0) hx hb dX1_findShare_45 (by decide) ?_
  refine xr_ti (x' := nI 0) rfl ?_
  refine lv_istore_n (lv' := [(2, .int (nI 0)), (0, .ref f), (1, .int (nI p0))]) hx hb dX1_findShare_46 rfl hl (by decide) rfl (fun ls hl => ?_)
  exact loop pc 0 (B * c p0) _ (by omega) rfl rfl H locs hO hT hPy hPu ⟨hSo, hN1, ⟨u2, hN2⟩, ⟨u3, hN3⟩⟩ hS ls (lv_sub hl [0, 1, 2] rfl)
end
section
theorem clr_bit {n p i : Nat} (h : n.testBit p = true) : (n - 2 ^ p).testBit i = (n.testBit i && !decide (i = p)) := by
  have h1 : n / 2 ^ p % 2 = 1 := by
    rw [Nat.testBit_eq_decide_div_mod_eq] at h
    exact of_decide_eq_true h
  have h2 := Nat.div_add_mod n (2 ^ p)
  have h3 := Nat.div_add_mod (n / 2 ^ p) 2
  have hb := Nat.mod_lt n (Nat.two_pow_pos p)
  rw [h1] at h3
  generalize n / 2 ^ p / 2 = a at *
  generalize n % 2 ^ p = b at *
  rw [← h3] at h2
  have h4 : n - 2 ^ p = 2 ^ p * (2 * a) + b := by
    rw [Nat.mul_add, Nat.mul_one] at h2
    omega
  rw [h4, Nat.testBit_two_pow_mul_add _ hb, ← h2, Nat.testBit_two_pow_mul_add _ hb]
  by_cases e1 : i < p
  · rw [if_pos e1, if_pos e1, decide_eq_false (by omega)]
    simp
  · rw [if_neg e1, if_neg e1]
    by_cases e2 : i = p
    · subst e2
      simp
    · rw [decide_eq_false e2]
      obtain ⟨k, hk⟩ : ∃ k, i - p = k + 1 := ⟨i - p - 1, by omega⟩
      rw [hk, Nat.testBit_add_one, Nat.testBit_add_one]
      have h5 : 2 * a / 2 = a := by omega
      have h6 : (2 * a + 1) / 2 = a := by omega
      rw [h5, h6]
      simp
/-! the cheapest of the open projects -/
def bet (c : Nat → Nat) (p q r k r2 k2 : Nat) : Bool := decide (r * k2 < r2 * k) || (decide (r * k2 = r2 * k) && decide (c p < c q))
theorem cmpI_nl {x y : Nat} (h : ¬ cmpI x y < 0) : ¬ x < y := fun q => h (cmpI_l q)
theorem cmpI_lt0 {x y : Nat} (h : cmpI x y < 0) : x < y := Nat.lt_of_not_le fun q => cmpI_ge q h
def fcStep (S : Nat → Bool × Nat × Nat) (c : Nat → Nat) (p : Nat) (z : Option (Nat × Nat × Nat) × Nat) : Option (Nat × Nat × Nat) × Nat :=
  if z.2.testBit p = false then z else if (S p).1 = false then (z.1, z.2 - 2 ^ p) else
    match z.1 with
    | none => (some (p, (S p).2), z.2)
    | some w => if bet c p w.1 (S p).2.1 (S p).2.2 w.2.1 w.2.2 = true then (some (p, (S p).2), z.2) else z
def fcGo (S : Nat → Bool × Nat × Nat) (c : Nat → Nat) (op : Nat) : Nat → Option (Nat × Nat × Nat) × Nat
  | 0 => (none, op)
  | n + 1 => fcStep S c n (fcGo S c op n)
theorem shr_le : ∀ (L : List Nat) (r : Nat), (shr L r).2.1 ≤ r ∧ (shr L r).2.2 ≤ L.length
  | [], r => ⟨Nat.le_refl r, Nat.le_refl 0⟩
  | x :: xs, r => by
    rw [shr]
    split
    · exact ⟨Nat.le_refl r, Nat.le_refl _⟩
    · have := shr_le xs (r - x)
      rw [List.length_cons]
      omega
theorem nI_clr {n p : Nat} (hn : n < 2 ^ 31) (hp : p < 31) (h : n.testBit p = true) : nI n &&& (nI (2 ^ p) ^^^ (-1)) = nI (n - 2 ^ p) := by
  have h1 : (nI (2 ^ p) ^^^ (-1)) = ~~~ (nI (2 ^ p)) := by
    apply Int32.toBitVec_inj.mp
    rw [Int32.toBitVec_xor, Int32.toBitVec_not]
    have e : (-1 : Int32).toBitVec = BitVec.allOnes 32 := by decide
    rw [e, BitVec.xor_allOnes]
  rw [h1]
  apply Int32.toBitVec_inj.mp
  rw [Int32.toBitVec_and, Int32.toBitVec_not]
  apply BitVec.eq_of_getLsbD_eq
  intro i hi
  have e1 : (nI n).toBitVec = BitVec.ofNat 32 n := rfl
  have e2 : (nI (2 ^ p)).toBitVec = BitVec.ofNat 32 (2 ^ p) := rfl
  have e3 : (nI (n - 2 ^ p)).toBitVec = BitVec.ofNat 32 (n - 2 ^ p) := rfl
  rw [BitVec.getLsbD_and, BitVec.getLsbD_not, e1, e2, e3, BitVec.getLsbD_ofNat, BitVec.getLsbD_ofNat, BitVec.getLsbD_ofNat]
  simp only [hi, decide_true, Bool.true_and]
  rw [clr_bit h]
  rw [Nat.testBit_two_pow]
  by_cases e : p = i
  · simp [e]
  · rw [decide_eq_false e, decide_eq_false (fun q => e q.symm)]
theorem fcStep_op {S : Nat → Bool × Nat × Nat} {c : Nat → Nat} {p : Nat} {z : Option (Nat × Nat × Nat) × Nat} : (fcStep S c p z).2 ≤ z.2 := by
  unfold fcStep
  split
  · exact Nat.le_refl _
  · split
    · exact Nat.sub_le _ _
    · split
      · exact Nat.le_refl _
      · split <;> exact Nat.le_refl _
theorem fcGo_op {S : Nat → Bool × Nat × Nat} {c : Nat → Nat} {op : Nat} : ∀ n, (fcGo S c op n).2 ≤ op
  | 0 => Nat.le_refl _
  | n + 1 => Nat.le_trans fcStep_op (fcGo_op n)
theorem fcGo_in {S : Nat → Bool × Nat × Nat} {c : Nat → Nat} {op : Nat} : ∀ n w, (fcGo S c op n).1 = some w → w.1 < n ∧ w.2 = (S w.1).2
  | 0, w, h => by cases h
  | n + 1, w, h => by
    have ih := fcGo_in (S := S) (c := c) (op := op) n
    have up : (fcGo S c op n).1 = some w → w.1 < n + 1 ∧ w.2 = (S w.1).2 := fun q => ⟨Nat.lt_succ_of_lt (ih w q).1, (ih w q).2⟩
    rw [fcGo, fcStep] at h
    split at h
    · exact up h
    · split at h
      · exact up h
      · split at h
        · cases h
          exact ⟨Nat.lt_succ_self n, rfl⟩
        · split at h
          · cases h
            exact ⟨Nat.lt_succ_self n, rfl⟩
          · exact up h

set_option maxHeartbeats 400000 in
set_option maxRecDepth 100000 in
theorem c_X1_isBetter (l : Launch) (g : WG) (H0 : Heap) (t : Nat) (c : Nat → Nat) (vs : Nat) (ap : Nat → Nat) (bu : Nat) (hT : TownAt g H0 t c vs ap bu) (f pc pk ps co op bs tr : Nat) (hO : obj g H0 f 1 (phF f t pc pk ps co op bs tr)) (hft : t + 3 ≤ f ∨ f + 280 ≤ t) (r k r2 k2 : Nat) (hTr : ShareAt g H0 tr r k) (hBs : ShareAt g H0 bs r2 k2) (htb : tr = f + 10 ∧ bs = f + 17 ∨ tr = f + 17 ∧ bs = f + 10) (hk : k < 2 ^ 31) (hk2 : k2 < 2 ^ 31) (h1 : r * k2 < 2 ^ 128) (h2 : r2 * k < 2 ^ 128) (p0 q0 : Nat) (hp : p0 < 16) (hq0 : q0 < 16) : Ctr l (KK g) yX1_isBetter wsX1_isBetter { frames := 3, cells := 0, slots := 0, locals := 82 } [.ref f, .int (nI p0), .int (nI q0)] H0 eI (fun z H => z = b2i (bet c p0 q0 r k r2 k2) ∧ ShareAt g H tr r k) (fun q => q = tr + 4 ∨ q = tr + 6) := by
  refine xr_enter (cc := cX1_isBetter) (maxL := 4) (ret := (some .boolean)) (by decide) rfl (Nat.le_of_ble_eq_true rfl) ?_
  intro pgm env s mid below meth cde hx hb hr hml hts hown hlocks hnm hH hK ls hl
  subst hH
  have hl : lv_has ls 4 [(0, .ref f), (1, .int (nI p0)), (2, .int (nI q0))] := hl
  have hS : va_S (fun q => q = tr + 4 ∨ q = tr + 6) s.heap s.heap [] := va_S.rf
  have hcp := hT.2.2.2.1 p0 hp
  have hcq := hT.2.2.2.1 q0 hq0
  refine lv_aload_n hx hb dX1_isBetter_0 rfl (lv_at hl 0 rfl) ?_
  refine va_get (D := g.1) (ci := 1) (v := .ref tr) (C := RX1) (T := TX1) (N := 16) hx hb hts (by decide +kernel) hown hK.1 (xr_one hO) 0 rfl rfl 15 (by decide) (hts (.fieldLink RX1 48 "SharesDesk$Phase" "tried" "LSharesDesk$Share;") (by decide +kernel)) (fun _ h9 => h9) rfl dX1_isBetter_1 ?_
  refine lv_aload_n hx hb dX1_isBetter_4 rfl (lv_at hl 0 rfl) ?_
  refine va_get (D := g.1) (ci := 1) (v := .ref bs) (C := RX1) (T := TX1) (N := 16) hx hb hts (by decide +kernel) hown hK.1 (xr_one hO) 0 rfl rfl 14 (by decide) (hts (.fieldLink RX1 44 "SharesDesk$Phase" "best" "LSharesDesk$Share;") (by decide +kernel)) (fun _ h9 => h9) rfl dX1_isBetter_5 ?_
  refine xr_Vi (rest := []) ⟨hx, hb, hml, hown, hts⟩ (KK_ok g) hK (c_X3_against l g s.heap tr bs r k r2 k2 hTr hBs (by omega) hk hk2 h1 h2) (cwV 1 hts gX1_isBetter_X3_against rfl rfl rfl (by decide +kernel) ⟨Nat.le_of_ble_eq_true rfl, Nat.le_of_ble_eq_true rfl⟩) (xr_rec hK hTr.1 rfl) rfl hl.1 rfl (Nat.le_of_ble_eq_true rfl) dX1_isBetter_8 ⟨Nat.le_of_ble_eq_true rfl, Nat.le_of_ble_eq_true rfl⟩ hS (fun q h => h) (fun z H locs hq hz hkp hS => ?_)
  replace hkp := fun (q : Nat) h1 (h2 : ¬ (q = tr + 4 ∨ q = tr + 6)) => hkp q h1 h2
  replace hO := hO.kept (hkp _ hO.lt (by omega))
  replace hT := hT.kept (fun q hq1 hq2 hq3 => hkp q hq1 (by omega))
  obtain ⟨rfl, hTr⟩ := hq
  refine lv_istore_n (lv' := [(3, .int (cmpI (r * k2) (r2 * k))), (0, .ref f), (1, .int (nI p0)), (2, .int (nI q0))]) hx hb dX1_isBetter_11 rfl hl (by decide) rfl (fun ls hl => ?_)
  refine lv_iload_n hx hb dX1_isBetter_12 rfl (lv_at hl 0 rfl) ?_
  refine lv_if_lt (tgt := 41) hx hb dX1_isBetter_13 (by decide) (fun h5 => ?_) (fun h5 => ?_)
  · have h6 := cmpI_lt0 h5
    refine lv_iconst (v := 1) hx hb dX1_isBetter_41 (by decide) ?_
    refine lv_goto (tgt := 46) hx hb dX1_isBetter_42 (by decide) ?_
    exact xr_zret hx hb hr rfl hlocks hS ⟨by unfold bet; rw [decide_eq_true h6]; rfl, hTr⟩ dX1_isBetter_46
  · have h6 := cmpI_nl h5
    refine lv_iload_n hx hb dX1_isBetter_16 rfl (lv_at hl 0 rfl) ?_
    refine lv_if_ne (tgt := 45) hx hb dX1_isBetter_17 (by decide) (fun h7 => ?_) (fun h7 => ?_)
    · have h8 : ¬ r * k2 = r2 * k := fun q => h7 (cmpI_0.mpr q)
      refine lv_iconst (v := 0) hx hb dX1_isBetter_45 (by decide) ?_
      exact xr_zret hx hb hr rfl hlocks hS ⟨by unfold bet; rw [decide_eq_false h6, decide_eq_false h8]; rfl, hTr⟩ dX1_isBetter_46
    · have h8 := cmpI_0.mp h7
      refine lv_aload_n hx hb dX1_isBetter_20 rfl (lv_at hl 1 rfl) ?_
      refine va_get (D := g.1) (ci := 1) (v := .ref t) (C := RX1) (T := TX1) (N := 16) hx hb hts (by decide +kernel) hown hK.1 (xr_one hO) 0 rfl rfl 0 (by decide) (hts (.fieldLink RX1 51 "SharesDesk$Phase" "town" "LSharesDesk$Town;") (by decide +kernel)) (fun _ h9 => h9) rfl dX1_isBetter_21 ?_
      refine va_get (D := g.1) (ci := 5) (v := .ref (t + 1)) (C := RX5) (T := TX5) (N := 4) hx hb hts (by decide +kernel) hown hK.1 (xr_one hT.1) 0 rfl rfl 0 (by decide) (hts (.fieldLink RX1 112 "SharesDesk$Town" "costs" "[I") (by decide +kernel)) (fun _ h9 => h9) rfl dX1_isBetter_24 ?_
      refine lv_iload_n hx hb dX1_isBetter_27 rfl (lv_at hl 2 rfl) ?_
      refine xr_rd hx hb hK hT.2.1 hp (by decide) dX1_isBetter_28 ?_
      refine lv_aload_n hx hb dX1_isBetter_29 rfl (lv_at hl 1 rfl) ?_
      refine va_get (D := g.1) (ci := 1) (v := .ref t) (C := RX1) (T := TX1) (N := 16) hx hb hts (by decide +kernel) hown hK.1 (xr_one hO) 0 rfl rfl 0 (by decide) (hts (.fieldLink RX1 51 "SharesDesk$Phase" "town" "LSharesDesk$Town;") (by decide +kernel)) (fun _ h9 => h9) rfl dX1_isBetter_30 ?_
      refine va_get (D := g.1) (ci := 5) (v := .ref (t + 1)) (C := RX5) (T := TX5) (N := 4) hx hb hts (by decide +kernel) hown hK.1 (xr_one hT.1) 0 rfl rfl 0 (by decide) (hts (.fieldLink RX1 112 "SharesDesk$Town" "costs" "[I") (by decide +kernel)) (fun _ h9 => h9) rfl dX1_isBetter_33 ?_
      refine lv_iload_n hx hb dX1_isBetter_36 rfl (lv_at hl 3 rfl) ?_
      refine xr_rd hx hb hK hT.2.1 hq0 (by decide) dX1_isBetter_37 ?_
      refine lv_icmp_ge (tgt := 45) hx hb dX1_isBetter_38 (by decide) (fun h9 => ?_) (fun h9 => ?_)
      · have h10 : ¬ c p0 < c q0 := fun q => absurd ((nI_leI (by omega) (by omega)).mp h9) (by omega)
        refine lv_iconst (v := 0) hx hb dX1_isBetter_45 (by decide) ?_
        exact xr_zret hx hb hr rfl hlocks hS ⟨by unfold bet; rw [decide_eq_false h6, decide_eq_false h10, Bool.and_false]; rfl, hTr⟩ dX1_isBetter_46
      · have h10 : c p0 < c q0 := Nat.lt_of_not_le fun q => h9 (nI_le q (by omega))
        refine lv_iconst (v := 1) hx hb dX1_isBetter_41 (by decide) ?_
        refine lv_goto (tgt := 46) hx hb dX1_isBetter_42 (by decide) ?_
        exact xr_zret hx hb hr rfl hlocks hS ⟨by unfold bet; rw [decide_eq_true h8, decide_eq_true h10, Bool.and_true, Bool.or_true]; rfl, hTr⟩ dX1_isBetter_46
theorem nI_m1 {n : Nat} (h : n < 2 ^ 31) : ¬ nI n = -1 := fun q => by
  have h1 := congrArg Int32.toInt q
  rw [nI_toInt h] at h1
  have h2 : (-1 : Int32).toInt = -1 := by decide
  omega
set_option maxHeartbeats 400000 in
set_option maxRecDepth 100000 in
theorem c_X1_findCheapest (l : Launch) (g : WG) (H0 : Heap) (t : Nat) (c : Nat → Nat) (vs : Nat) (ap : Nat → Nat) (bu : Nat) (hT : TownAt g H0 t c vs ap bu) (f pc pk ps co op bs tr : Nat) (hO : obj g H0 f 1 (phF f t pc pk ps co op bs tr)) (hft : t + 3 ≤ f ∨ f + 280 ≤ t) (pay : Nat → Nat) (hpc : pc ≤ 48) (hpay : ∀ i, i < pc → pay i < 48) (hPy : xr_ia H0 (f + 6) (gI g) 48 (fun i => nI (pay i))) (B : Nat) (hBa : NatAt g H0 (f + 1) B) (pur : Nat → Nat) (hPu : PoolAt g H0 (f + 3) (f + 24) 48 pur) (hB : B * 48000000 < 2 ^ 128) (hpb : ∀ i, i < pc → pur (pay i) * 48 < 2 ^ 128) (r0 k0 r1 k1 : Nat) (hTr : ShareAt g H0 tr r0 k0) (hBs : ShareAt g H0 bs r1 k1) (htb : (tr = f + 10 ∧ bs = f + 17 ∨ tr = f + 17 ∧ bs = f + 10)) (hop : op < 2 ^ 16) : Ctr l (KK g) yX1_findCheapest wsX1_findCheapest { frames := 4, cells := 0, slots := 0, locals := 105 } [.ref f] H0 eI (fun z H => ∃ bs2 tr2 rb kb rt kt : Nat, (tr2 = f + 10 ∧ bs2 = f + 17 ∨ tr2 = f + 17 ∧ bs2 = f + 10) ∧ obj g H f 1 (phF f t pc pk ps co (fcGo (fun q => shr (supL pur pay ap q pc 0) (B * c q)) c op 16).2 bs2 tr2) ∧ ShareAt g H bs2 rb kb ∧ ShareAt g H tr2 rt kt ∧ (∀ w, (fcGo (fun q => shr (supL pur pay ap q pc 0) (B * c q)) c op 16).1 = some w → z = nI w.1 ∧ rb = w.2.1 ∧ kb = w.2.2) ∧ ((fcGo (fun q => shr (supL pur pay ap q pc 0) (B * c q)) c op 16).1 = none → z = -1)) (fun q => q = f ∨ (f + 10 ≤ q ∧ q < f + 24)) := by
  refine xr_enter (cc := cX1_findCheapest) (maxL := 3) (ret := (some .int)) (by decide) rfl (Nat.le_of_ble_eq_true rfl) ?_
  intro pgm env s mid below meth cde hx hb hr hml hts hown hlocks hnm hH hK ls hl
  subst hH
  have hl : lv_has ls 3 [(0, .ref f)] := hl
  have hS : va_S (fun q => q = f ∨ (f + 10 ≤ q ∧ q < f + 24)) s.heap s.heap [] := va_S.rf
  have loop : ∀ (n i : Nat), i + n = 16 → ∀ (bs2 tr2 rb kb rt kt : Nat) (x : Int32), (tr2 = f + 10 ∧ bs2 = f + 17 ∨ tr2 = f + 17 ∧ bs2 = f + 10) → (∀ w, (fcGo (fun q => shr (supL pur pay ap q pc 0) (B * c q)) c op i).1 = some w → x = nI w.1 ∧ rb = w.2.1 ∧ kb = w.2.2) → ((fcGo (fun q => shr (supL pur pay ap q pc 0) (B * c q)) c op i).1 = none → x = -1) → ∀ (H : Heap) (locs : List Loc), va_S (fun q => q = f ∨ (f + 10 ≤ q ∧ q < f + 24)) s.heap H locs → NatAt g H (f + 1) B → TownAt g H t c vs ap bu → xr_ia H (f + 6) (gI g) 48 (fun i => nI (pay i)) → PoolAt g H (f + 3) (f + 24) 48 pur → obj g H f 1 (phF f t pc pk ps co (fcGo (fun q => shr (supL pur pay ap q pc 0) (B * c q)) c op i).2 bs2 tr2) → ShareAt g H bs2 rb kb → ShareAt g H tr2 rt kt → ∀ ls : Array Slot, lv_has ls 3 [(2, .int (nI i)), (1, .int x), (0, .ref f)] → W pgm l env { frames := 4, cells := 0, slots := 0, locals := 105 } s mid ([.ref f] : List Value).toArray below meth cde H locs 0 0 (MQ below (xr_Post eI (fun z H => ∃ bs2 tr2 rb kb rt kt : Nat, (tr2 = f + 10 ∧ bs2 = f + 17 ∨ tr2 = f + 17 ∧ bs2 = f + 10) ∧ obj g H f 1 (phF f t pc pk ps co (fcGo (fun q => shr (supL pur pay ap q pc 0) (B * c q)) c op 16).2 bs2 tr2) ∧ ShareAt g H bs2 rb kb ∧ ShareAt g H tr2 rt kt ∧ (∀ w, (fcGo (fun q => shr (supL pur pay ap q pc 0) (B * c q)) c op 16).1 = some w → z = nI w.1 ∧ rb = w.2.1 ∧ kb = w.2.2) ∧ ((fcGo (fun q => shr (supL pur pay ap q pc 0) (B * c q)) c op 16).1 = none → z = -1)) (fun q => q = f ∨ (f + 10 ≤ q ∧ q < f + 24))) ([.ref f] : List Value).toArray s ({ frames := 4, cells := 0, slots := 0, locals := 105 } : Room).cells ({ frames := 4, cells := 0, slots := 0, locals := 105 } : Room).slots (fun q => q = f ∨ (f + 10 ≤ q ∧ q < f + 24))) (F0 mid 4 ls []) := by
    intro n
    induction n with
    | zero =>
      intro i h1 bs2 tr2 rb kb rt kt x htb ha1 ha2 H locs hS hBa hT hPy hPu hO hBs hTr ls hl
      refine lv_iload_n hx hb dX1_findCheapest_4 rfl (lv_at hl 0 rfl) ?_
      refine lv_bipush (v := 16) hx hb dX1_findCheapest_5 (by decide) ?_
      refine lv_icmp_ge (tgt := 75) hx hb dX1_findCheapest_7 (by decide) (fun hc => ?_) (fun hc => ?_)
      · have e : i = 16 := by omega
        subst e
        refine lv_iload_n hx hb dX1_findCheapest_75 rfl (lv_at hl 1 rfl) ?_
        exact xr_iret hx hb hr hlocks hS ⟨bs2, tr2, rb, kb, rt, kt, htb, hO, hBs, hTr, ha1, ha2⟩ dX1_findCheapest_76
      · exact absurd (nI_le (show 16 ≤ i by omega) (by omega)) hc
    | succ n ih =>
      intro i h1 bs2 tr2 rb kb rt kt x htb ha1 ha2 H locs hS hBa hT hPy hPu hO hBs hTr ls hl
      refine lv_iload_n hx hb dX1_findCheapest_4 rfl (lv_at hl 0 rfl) ?_
      refine lv_bipush (v := 16) hx hb dX1_findCheapest_5 (by decide) ?_
      refine lv_icmp_ge (tgt := 75) hx hb dX1_findCheapest_7 (by decide) (fun hc => ?_) (fun hc => ?_)
      · exact absurd ((nI_leI (a := 16) (b := i) (by decide) (by omega)).mp hc) (by omega)
      · clear hc
        have hi : i < 16 := by omega
        have hop2 := fcGo_op (S := (fun q => shr (supL pur pay ap q pc 0) (B * c q))) (c := c) (op := op) i
        have hcpi := hT.2.2.2.1 i hi
        have eS : fcGo (fun q => shr (supL pur pay ap q pc 0) (B * c q)) c op (i + 1) = fcStep (fun q => shr (supL pur pay ap q pc 0) (B * c q)) c i (fcGo (fun q => shr (supL pur pay ap q pc 0) (B * c q)) c op i) := rfl
        generalize hzz : fcGo (fun q => shr (supL pur pay ap q pc 0) (B * c q)) c op i = z at *
        refine lv_aload_n hx hb dX1_findCheapest_10 rfl (lv_at hl 2 rfl) ?_
        refine va_get (D := g.1) (ci := 1) (v := .int (nI z.2)) (C := RX1) (T := TX1) (N := 16) hx hb hts (by decide +kernel) hown hK.1 (xr_one hO) 0 rfl rfl 13 (by decide) (hts (.fieldLink RX1 75 "SharesDesk$Phase" "open" "I") (by decide +kernel)) (fun _ h9 => h9) rfl dX1_findCheapest_11 ?_
        refine lv_iload_n hx hb dX1_findCheapest_14 rfl (lv_at hl 0 rfl) ?_
        refine lv_ishr hx hb dX1_findCheapest_15 ?_
        refine xr_ti (x' := nI (z.2 / 2 ^ i)) (pk_shrN (by omega) _ i (sh32 i (by omega))) ?_
        refine lv_iconst (v := 1) hx hb dX1_findCheapest_16 (by decide) ?_
        refine lv_iand hx hb dX1_findCheapest_17 ?_
        refine xr_ti (x' := nI (z.2 / 2 ^ i % 2)) (pk_andN (Nat.lt_of_le_of_lt (Nat.div_le_self _ _) (by omega)) 1 (by decide)) ?_
        refine lv_if_ne (tgt := 24) hx hb dX1_findCheapest_18 (by decide) (fun h5 => ?_) (fun h5 => ?_)
        · have h6 : z.2.testBit i = true := tb_t fun q => h5 ((nI_inj (by omega) (by decide)).mpr q)
          refine lv_aload_n hx hb dX1_findCheapest_24 rfl (lv_at hl 2 rfl) ?_
          refine lv_iload_n hx hb dX1_findCheapest_25 rfl (lv_at hl 0 rfl) ?_
          refine xr_Vi (rest := []) ⟨hx, hb, hml, hown, hts⟩ (KK_ok g) hK (c_X1_findShare l g H t c vs ap bu hT f pc pk ps co z.2 bs2 tr2 hO hft pay hpc hpay hPy B hBa pur hPu hB hpb rt kt hTr (by omega) i hi) (cwV 1 hts gX1_findCheapest_X1_findShare rfl rfl rfl (by decide +kernel) ⟨Nat.le_of_ble_eq_true rfl, Nat.le_of_ble_eq_true rfl⟩) (xr_rec hK hO rfl) rfl hl.1 rfl (Nat.le_of_ble_eq_true rfl) dX1_findCheapest_26 ⟨Nat.le_of_ble_eq_true rfl, Nat.le_of_ble_eq_true rfl⟩ hS (fun q h => by have h : tr2 ≤ q ∧ q < tr2 + 7 := h; show q = f ∨ (f + 10 ≤ q ∧ q < f + 24); omega) (fun y H locs hq hz hkp hS => ?_)
          replace hkp := fun (q : Nat) h1 (h2 : ¬ (tr2 ≤ q ∧ q < tr2 + 7)) => hkp q h1 h2
          replace hO := hO.kept (hkp _ hO.lt (by omega))
          replace hT := hT.kept (fun q hq1 hq2 hq3 => hkp q hq1 (by omega))
          replace hPy := hPy.kept (hkp _ hPy.lt (by omega))
          replace hPu := hPu.kept (hkp _ hPu.1.lt (by omega)) (fun v hv => hkp _ (hPu.2 v hv).1.lt (by omega)) (fun v hv => hkp _ (hPu.2 v hv).2.1.lt (by omega))
          replace hBa := hBa.kept (hkp _ hBa.1.lt (by omega)) (hkp _ hBa.2.1.lt (by omega))
          replace hBs := hBs.kept (fun q hq1 hq2 hq3 => hkp q hq1 (by omega))
          obtain ⟨rfl, hTr⟩ := hq
          have hl1 := shr_le (supL pur pay ap i pc 0) (B * c i)
          have hl2 := supL_len (pur := pur) (pay := pay) (ap := ap) (p := i) pc 0
          have hl3 : B * c i ≤ B * 1000000 := Nat.mul_le_mul_left B hcpi
          have eSi : (fun q => shr (supL pur pay ap q pc 0) (B * c q)) i = shr (supL pur pay ap i pc 0) (B * c i) := rfl
          generalize hy : shr (supL pur pay ap i pc 0) (B * c i) = y at *
          refine lv_if_ne (tgt := 49) hx hb dX1_findCheapest_29 (by decide) (fun h7 => ?_) (fun h7 => ?_)
          · have h8 : y.1 = true := b2i_n0.mp h7
            refine lv_iload_n hx hb dX1_findCheapest_49 rfl (lv_at hl 1 rfl) ?_
            refine lv_iconst (v := (-1)) hx hb dX1_findCheapest_50 (by decide) ?_
            refine lv_icmp_eq (tgt := 63) hx hb dX1_findCheapest_51 (by decide) (fun h9 => ?_) (fun h9 => ?_)
            · have h10 : z.1 = none := by cases hq : z.1 with | none => rfl | some w => exact absurd ((ha1 w hq).1.symm.trans h9) (nI_m1 (by have := (fcGo_in i w (by rw [hzz]; exact hq)).1; omega))
              refine lv_iload_n hx hb dX1_findCheapest_63 rfl (lv_at hl 0 rfl) ?_
              refine lv_istore_n (lv' := [(1, .int (nI i)), (2, .int (nI i)), (0, .ref f)]) hx hb dX1_findCheapest_64 rfl hl (by decide) rfl (fun ls hl => ?_)
              refine lv_aload_n hx hb dX1_findCheapest_65 rfl (lv_at hl 2 rfl) ?_
              refine xr_Vv (rest := []) ⟨hx, hb, hml, hown, hts⟩ (KK_ok g) hK (c_X1_swapShares l g H t f pc pk ps co z.2 bs2 tr2 hO) (cwV 0 hts gX1_findCheapest_X1_swapShares rfl rfl rfl (by decide +kernel) ⟨Nat.le_of_ble_eq_true rfl, Nat.le_of_ble_eq_true rfl⟩) (xr_rec hK hO rfl) rfl hl.1 rfl (Nat.le_of_ble_eq_true rfl) dX1_findCheapest_66 ⟨Nat.le_of_ble_eq_true rfl, Nat.le_of_ble_eq_true rfl⟩ hS (fun q h => Or.inl h) (fun _ H locs hq hz hkp hS => ?_)
              replace hkp := fun (q : Nat) h1 (h2 : ¬ (q = f)) => hkp q h1 h2
              replace hT := hT.kept (fun q hq1 hq2 hq3 => hkp q hq1 (by omega))
              replace hPy := hPy.kept (hkp _ hPy.lt (by omega))
              replace hPu := hPu.kept (hkp _ hPu.1.lt (by omega)) (fun v hv => hkp _ (hPu.2 v hv).1.lt (by omega)) (fun v hv => hkp _ (hPu.2 v hv).2.1.lt (by omega))
              replace hBa := hBa.kept (hkp _ hBa.1.lt (by omega)) (hkp _ hBa.2.1.lt (by omega))
              replace hTr := hTr.kept (fun q hq1 hq2 hq3 => hkp q hq1 (by omega))
              replace hBs := hBs.kept (fun q hq1 hq2 hq3 => hkp q hq1 (by omega))
              have hO := hq
              refine lv_iinc (v := nI (i + 1)) (lv' := [(2, .int (nI (i + 1))), (1, .int (nI i)), (0, .ref f)]) hx hb dX1_findCheapest_69 hl (k := 1) rfl (nI_1 i) (by decide) rfl (fun ls hl => ?_)
              refine lv_goto (tgt := 4) hx hb dX1_findCheapest_72 (by decide) ?_
              have eZ : fcStep (fun q => shr (supL pur pay ap q pc 0) (B * c q)) c i z = (some (i, y.2), z.2) := by unfold fcStep; rw [if_neg (by rw [h6]; decide), eSi, if_neg (by rw [h8]; decide), h10]
              exact ih (i + 1) (by omega) tr2 bs2 y.2.1 y.2.2 rb kb (nI i) (by omega) (by rw [eS, eZ]; exact (fun w h => by cases h; exact ⟨rfl, rfl, rfl⟩)) (by rw [eS, eZ]; exact (fun h => by cases h)) H locs hS hBa hT hPy hPu (by rw [eS, eZ]; exact hO) hTr hBs ls (lv_sub hl [0, 1, 2] rfl)
            · obtain ⟨w, h10⟩ : ∃ w, z.1 = some w := by cases hq : z.1 with | none => exact absurd (ha2 hq) h9 | some w => exact ⟨w, rfl⟩
              obtain ⟨rfl, rfl, rfl⟩ := ha1 w h10
              obtain ⟨hw1, hw2⟩ := fcGo_in i w (by rw [hzz]; exact h10)
              have hm1 := shr_le (supL pur pay ap w.1 pc 0) (B * c w.1)
              have hm2 := supL_len (pur := pur) (pay := pay) (ap := ap) (p := w.1) pc 0
              have hm3 : B * c w.1 ≤ B * 1000000 := Nat.mul_le_mul_left B (hT.2.2.2.1 w.1 (by omega))
              have hw3 : w.2 = (shr (supL pur pay ap w.1 pc 0) (B * c w.1)).2 := hw2
              rw [← hw3] at hm1
              have hk1 : y.2.1 * w.2.2 < 2 ^ 128 := Nat.lt_of_le_of_lt (Nat.mul_le_mul (show y.2.1 ≤ B * 1000000 by omega) (show w.2.2 ≤ 48 by omega)) (by rw [Nat.mul_assoc]; exact hB)
              have hk2 : w.2.1 * y.2.2 < 2 ^ 128 := Nat.lt_of_le_of_lt (Nat.mul_le_mul (show w.2.1 ≤ B * 1000000 by omega) (show y.2.2 ≤ 48 by omega)) (by rw [Nat.mul_assoc]; exact hB)
              refine lv_aload_n hx hb dX1_findCheapest_54 rfl (lv_at hl 2 rfl) ?_
              refine lv_iload_n hx hb dX1_findCheapest_55 rfl (lv_at hl 0 rfl) ?_
              refine lv_iload_n hx hb dX1_findCheapest_56 rfl (lv_at hl 1 rfl) ?_
              refine xr_Vi (rest := []) ⟨hx, hb, hml, hown, hts⟩ (KK_ok g) hK (c_X1_isBetter l g H t c vs ap bu hT f pc pk ps co z.2 bs2 tr2 hO hft y.2.1 y.2.2 w.2.1 w.2.2 hTr hBs htb (by omega) (by omega) hk1 hk2 i w.1 hi (by omega)) (cwV 2 hts gX1_findCheapest_X1_isBetter rfl rfl rfl (by decide +kernel) ⟨Nat.le_of_ble_eq_true rfl, Nat.le_of_ble_eq_true rfl⟩) (xr_rec hK hO rfl) rfl hl.1 rfl (Nat.le_of_ble_eq_true rfl) dX1_findCheapest_57 ⟨Nat.le_of_ble_eq_true rfl, Nat.le_of_ble_eq_true rfl⟩ hS (fun q h => by have h : q = tr2 + 4 ∨ q = tr2 + 6 := h; show q = f ∨ (f + 10 ≤ q ∧ q < f + 24); omega) (fun v H locs hq hz hkp hS => ?_)
              replace hkp := fun (q : Nat) h1 (h2 : ¬ (q = tr2 + 4 ∨ q = tr2 + 6)) => hkp q h1 h2
              replace hO := hO.kept (hkp _ hO.lt (by omega))
              replace hT := hT.kept (fun q hq1 hq2 hq3 => hkp q hq1 (by omega))
              replace hPy := hPy.kept (hkp _ hPy.lt (by omega))
              replace hPu := hPu.kept (hkp _ hPu.1.lt (by omega)) (fun v hv => hkp _ (hPu.2 v hv).1.lt (by omega)) (fun v hv => hkp _ (hPu.2 v hv).2.1.lt (by omega))
              replace hBa := hBa.kept (hkp _ hBa.1.lt (by omega)) (hkp _ hBa.2.1.lt (by omega))
              replace hBs := hBs.kept (fun q hq1 hq2 hq3 => hkp q hq1 (by omega))
              obtain ⟨rfl, hTr⟩ := hq
              refine lv_if_eq (tgt := 69) hx hb dX1_findCheapest_60 (by decide) (fun h11 => ?_) (fun h11 => ?_)
              · have h12 := b2i_0.mp h11
                have eZ : fcStep (fun q => shr (supL pur pay ap q pc 0) (B * c q)) c i z = z := by unfold fcStep; rw [if_neg (by rw [h6]; decide), eSi, if_neg (by rw [h8]; decide), h10]; dsimp only; rw [if_neg (by rw [h12]; decide)]
                refine lv_iinc (v := nI (i + 1)) (lv' := [(2, .int (nI (i + 1))), (1, .int (nI w.1)), (0, .ref f)]) hx hb dX1_findCheapest_69 hl (k := 0) rfl (nI_1 i) (by decide) rfl (fun ls hl => ?_)
                refine lv_goto (tgt := 4) hx hb dX1_findCheapest_72 (by decide) ?_
                exact ih (i + 1) (by omega) bs2 tr2 w.2.1 w.2.2 y.2.1 y.2.2 (nI w.1) htb (by rw [eS, eZ]; exact ha1) (by rw [eS, eZ]; exact ha2) H locs hS hBa hT hPy hPu (by rw [eS, eZ]; exact hO) hBs hTr ls (lv_sub hl [0, 1, 2] rfl)
              · have h12 := b2i_n0.mp h11
                have eZ : fcStep (fun q => shr (supL pur pay ap q pc 0) (B * c q)) c i z = (some (i, y.2), z.2) := by unfold fcStep; rw [if_neg (by rw [h6]; decide), eSi, if_neg (by rw [h8]; decide), h10]; dsimp only; rw [if_pos h12]
                refine lv_iload_n hx hb dX1_findCheapest_63 rfl (lv_at hl 0 rfl) ?_
                refine lv_istore_n (lv' := [(1, .int (nI i)), (2, .int (nI i)), (0, .ref f)]) hx hb dX1_findCheapest_64 rfl hl (by decide) rfl (fun ls hl => ?_)
                refine lv_aload_n hx hb dX1_findCheapest_65 rfl (lv_at hl 2 rfl) ?_
                refine xr_Vv (rest := []) ⟨hx, hb, hml, hown, hts⟩ (KK_ok g) hK (c_X1_swapShares l g H t f pc pk ps co z.2 bs2 tr2 hO) (cwV 0 hts gX1_findCheapest_X1_swapShares rfl rfl rfl (by decide +kernel) ⟨Nat.le_of_ble_eq_true rfl, Nat.le_of_ble_eq_true rfl⟩) (xr_rec hK hO rfl) rfl hl.1 rfl (Nat.le_of_ble_eq_true rfl) dX1_findCheapest_66 ⟨Nat.le_of_ble_eq_true rfl, Nat.le_of_ble_eq_true rfl⟩ hS (fun q h => Or.inl h) (fun _ H locs hq hz hkp hS => ?_)
                replace hkp := fun (q : Nat) h1 (h2 : ¬ (q = f)) => hkp q h1 h2
                replace hT := hT.kept (fun q hq1 hq2 hq3 => hkp q hq1 (by omega))
                replace hPy := hPy.kept (hkp _ hPy.lt (by omega))
                replace hPu := hPu.kept (hkp _ hPu.1.lt (by omega)) (fun v hv => hkp _ (hPu.2 v hv).1.lt (by omega)) (fun v hv => hkp _ (hPu.2 v hv).2.1.lt (by omega))
                replace hBa := hBa.kept (hkp _ hBa.1.lt (by omega)) (hkp _ hBa.2.1.lt (by omega))
                replace hTr := hTr.kept (fun q hq1 hq2 hq3 => hkp q hq1 (by omega))
                replace hBs := hBs.kept (fun q hq1 hq2 hq3 => hkp q hq1 (by omega))
                have hO := hq
                refine lv_iinc (v := nI (i + 1)) (lv' := [(2, .int (nI (i + 1))), (1, .int (nI i)), (0, .ref f)]) hx hb dX1_findCheapest_69 hl (k := 1) rfl (nI_1 i) (by decide) rfl (fun ls hl => ?_)
                refine lv_goto (tgt := 4) hx hb dX1_findCheapest_72 (by decide) ?_
                exact ih (i + 1) (by omega) tr2 bs2 y.2.1 y.2.2 w.2.1 w.2.2 (nI i) (by omega) (by rw [eS, eZ]; exact (fun w h => by cases h; exact ⟨rfl, rfl, rfl⟩)) (by rw [eS, eZ]; exact (fun h => by cases h)) H locs hS hBa hT hPy hPu (by rw [eS, eZ]; exact hO) hTr hBs ls (lv_sub hl [0, 1, 2] rfl)
          · have h8 : y.1 = false := b2i_0.mp h7
            refine lv_aload_n hx hb dX1_findCheapest_32 rfl (lv_at hl 2 rfl) ?_
            refine lv_dup hx hb dX1_findCheapest_33 rfl ?_
            refine va_get (D := g.1) (ci := 1) (v := .int (nI z.2)) (C := RX1) (T := TX1) (N := 16) hx hb hts (by decide +kernel) hown hK.1 (xr_one hO) 0 rfl rfl 13 (by decide) (hts (.fieldLink RX1 75 "SharesDesk$Phase" "open" "I") (by decide +kernel)) (fun _ h9 => h9) rfl dX1_findCheapest_34 ?_
            refine lv_iconst (v := 1) hx hb dX1_findCheapest_37 (by decide) ?_
            refine lv_iload_n hx hb dX1_findCheapest_38 rfl (lv_at hl 0 rfl) ?_
            refine lv_ishl hx hb dX1_findCheapest_39 ?_
            refine xr_ti (x' := nI (2 ^ i)) (sh1 i (by omega)) ?_
            refine lv_iconst (v := (-1)) hx hb dX1_findCheapest_40 (by decide) ?_
            refine lv_ixor hx hb dX1_findCheapest_41 ?_
            refine lv_iand hx hb dX1_findCheapest_42 ?_
            refine xr_ti (x' := nI (z.2 - 2 ^ i)) (nI_clr (by omega) (by omega) h6) ?_
            refine xr_put (ci := 1) (v := .int (nI (z.2 - 2 ^ i))) (ty := .int) (C := RX1) (T := TX1) (N := 16) hx hb hts (by decide +kernel) tyX1 tyX1_ok nmX1 hown hK.1 hO hS (Or.inl rfl) rfl 13 (by decide) (hts (.fieldLink RX1 75 "SharesDesk$Phase" "open" "I") (by decide +kernel)) rfl (by decide +kernel) rfl rfl (Nat.le_of_ble_eq_true rfl) dX1_findCheapest_43 (fun H locs hz hkp hO hS => ?_)
            replace hT := hT.kept (fun q hq1 hq2 hq3 => hkp q (by omega))
            replace hPy := hPy.kept (hkp _ (by omega))
            replace hPu := hPu.kept (hkp _ (by omega)) (fun v hv => hkp _ (by omega)) (fun v hv => hkp _ (by omega))
            replace hBa := hBa.kept (hkp _ (by omega)) (hkp _ (by omega))
            replace hBs := hBs.kept (fun q hq1 hq2 hq3 => hkp q (by omega))
            replace hTr := hTr.kept (fun q hq1 hq2 hq3 => hkp q (by omega))
            have eZ : fcStep (fun q => shr (supL pur pay ap q pc 0) (B * c q)) c i z = (z.1, z.2 - 2 ^ i) := by unfold fcStep; rw [if_neg (by rw [h6]; decide), eSi, if_pos h8]
            refine lv_goto (tgt := 69) hx hb dX1_findCheapest_46 (by decide) ?_
            refine lv_iinc (v := nI (i + 1)) (lv' := [(2, .int (nI (i + 1))), (1, .int x), (0, .ref f)]) hx hb dX1_findCheapest_69 hl (k := 0) rfl (nI_1 i) (by decide) rfl (fun ls hl => ?_)
            refine lv_goto (tgt := 4) hx hb dX1_findCheapest_72 (by decide) ?_
            exact ih (i + 1) (by omega) bs2 tr2 rb kb y.2.1 y.2.2 x htb (by rw [eS, eZ]; exact ha1) (by rw [eS, eZ]; exact ha2) H locs hS hBa hT hPy hPu (by rw [eS, eZ]; exact hO) hBs hTr ls (lv_sub hl [0, 1, 2] rfl)
        · have h6 : z.2.testBit i = false := tb_f ((nI_inj (by omega) (by decide)).mp h5)
          have eZ : fcStep (fun q => shr (supL pur pay ap q pc 0) (B * c q)) c i z = z := by unfold fcStep; rw [if_pos h6]
          refine lv_goto (tgt := 69) hx hb dX1_findCheapest_21 (by decide) ?_
          refine lv_iinc (v := nI (i + 1)) (lv' := [(2, .int (nI (i + 1))), (1, .int x), (0, .ref f)]) hx hb dX1_findCheapest_69 hl (k := 0) rfl (nI_1 i) (by decide) rfl (fun ls hl => ?_)
          refine lv_goto (tgt := 4) hx hb dX1_findCheapest_72 (by decide) ?_
          exact ih (i + 1) (by omega) bs2 tr2 rb kb rt kt x htb (by rw [eS, eZ]; exact ha1) (by rw [eS, eZ]; exact ha2) H locs hS hBa hT hPy hPu (by rw [eS, eZ]; exact hO) hBs hTr ls (lv_sub hl [0, 1, 2] rfl)
  refine lv_iconst (v := (-1)) hx hb dX1_findCheapest_0 (by decide) ?_
  refine lv_istore_n (lv' := [(1, .int (-1)), (0, .ref f)]) hx hb dX1_findCheapest_1 rfl hl (by decide) rfl (fun ls hl => ?_)
  refine lv_iconst (v := 0) hx hb dX1_findCheapest_2 (by decide) ?_
  refine xr_ti (x' := nI 0) rfl ?_
  refine lv_istore_n (lv' := [(2, .int (nI 0)), (1, .int (-1)), (0, .ref f)]) hx hb dX1_findCheapest_3 rfl hl (by decide) rfl (fun ls hl => ?_)
  exact loop 16 0 (by omega) bs tr r1 k1 r0 k0 (-1) htb (fun w h => by cases h) (fun _ => rfl) s.heap [] hS hBa hT hPy hPu hO hBs hTr ls (lv_sub hl [0, 1, 2] rfl)
end
section
/-! paying -/
theorem nI_or2 {a i : Nat} (hi : i < 31) : nI a ||| nI (2 ^ i) = nI (a ||| 2 ^ i) := nI_or
def nPur (ap : Nat → Nat) (p k r v x : Nat) : Nat := if (ap v).testBit p = true then x * k - r else x * k
def payP (pur pay ap : Nat → Nat) (p k r : Nat) : Nat → Nat → Nat
  | 0 => pur
  | i + 1 => va_up (payP pur pay ap p k r i) (pay i) (nPur ap p k r (pay i) (pur (pay i)))
def payL (pur las pay ap : Nat → Nat) (p k r : Nat) : Nat → Nat → Nat
  | 0 => las
  | i + 1 => if (ap (pay i)).testBit p = true ∧ pur (pay i) * k ≤ r then va_up (payL pur las pay ap p k r i) (pay i) (pur (pay i) * k) else payL pur las pay ap p k r i
def payE (pur emp pay ap : Nat → Nat) (p k r rd : Nat) : Nat → Nat → Nat
  | 0 => emp
  | i + 1 => if (ap (pay i)).testBit p = true ∧ pur (pay i) * k ≤ r then va_up (payE pur emp pay ap p k r rd i) (pay i) rd else payE pur emp pay ap p k r rd i
def payC (pur pay ap : Nat → Nat) (p k r : Nat) : Nat → (Nat → Nat) × Nat
  | 0 => (pay, 0)
  | i + 1 => if nPur ap p k r (pay i) (pur (pay i)) = 0 then payC pur pay ap p k r i else (va_up (payC pur pay ap p k r i).1 (payC pur pay ap p k r i).2 (pay i), (payC pur pay ap p k r i).2 + 1)
theorem payP_ne {pur pay ap : Nat → Nat} {p k r v : Nat} : ∀ n, (∀ i, i < n → pay i ≠ v) → payP pur pay ap p k r n v = pur v
  | 0, _ => rfl
  | n + 1, h => by
    rw [payP, va_up_ne _ _ (fun q => h n (Nat.lt_succ_self n) q.symm)]
    exact payP_ne n (fun i hi => h i (by omega))
theorem payC_le {pur pay ap : Nat → Nat} {p k r : Nat} : ∀ n, (payC pur pay ap p k r n).2 ≤ n
  | 0 => Nat.le_refl 0
  | n + 1 => by
    have := payC_le (pur := pur) (pay := pay) (ap := ap) (p := p) (k := k) (r := r) n
    rw [payC]
    split
    · omega
    · show _ + 1 ≤ n + 1
      omega
theorem payC_ge {pur pay ap : Nat → Nat} {p k r : Nat} : ∀ n j, n ≤ j → (payC pur pay ap p k r n).1 j = pay j
  | 0, _, _ => rfl
  | n + 1, j, h => by
    have h1 := payC_le (pur := pur) (pay := pay) (ap := ap) (p := p) (k := k) (r := r) n
    rw [payC]
    split
    · exact payC_ge n j (by omega)
    · show va_up _ _ _ j = _
      rw [va_up_ne _ _ (by omega)]
      exact payC_ge n j (by omega)
theorem ia_up {f : Nat → Nat} {k x : Nat} : upd (fun i => nI (f i)) k (nI x) = fun i => nI (va_up f k x i) := by
  funext j
  by_cases e : j = k
  · subst e
    rw [upd_at, va_up_self]
  · rw [upd_ne e, va_up_ne _ _ e]
theorem cmpI_le0 {x y : Nat} (h : cmpI x y ≤ 0) : x ≤ y := by
  unfold cmpI at h
  by_cases h1 : x < y
  · omega
  · rw [if_neg h1] at h
    by_cases h2 : x = y
    · omega
    · rw [if_neg h2] at h
      exact absurd h (by decide)
theorem cmpI_0le {x y : Nat} (h : x ≤ y) : cmpI x y ≤ 0 := by
  unfold cmpI
  by_cases h1 : x < y
  · rw [if_pos h1]
    decide
  · rw [if_neg h1, if_pos (by omega)]
    decide
set_option maxHeartbeats 400000 in
set_option maxRecDepth 100000 in
theorem c_X1_charge (l : Launch) (g : WG) (H0 : Heap) (t : Nat) (f pc pk ps co op bs tr : Nat) (hO : obj g H0 f 1 (phF f t pc pk ps co op bs tr)) (pur las rat emp : Nat → Nat) (hPu : PoolAt g H0 (f + 3) (f + 24) 48 pur) (hLa : PoolAt g H0 (f + 4) (f + 26) 48 las) (hRa : PoolAt g H0 (f + 8) (f + 216) 16 rat) (hEm : xr_ia H0 (f + 5) (gI g) 48 (fun i => nI (emp i))) (v rd : Nat) (hv : v < 48) (hrd : rd < 16) : Ctr l (KK g) yX1_charge wsX1_charge { frames := 2, cells := 0, slots := 0, locals := 61 } [.ref f, .int (nI v), .int (nI rd)] H0 eV (fun _ H => PoolAt g H (f + 3) (f + 24) 48 (va_up pur v (pur v - rat rd)) ∧ PoolAt g H (f + 4) (f + 26) 48 (if pur v ≤ rat rd then va_up las v (pur v) else las) ∧ xr_ia H (f + 5) (gI g) 48 (fun i => nI ((if pur v ≤ rat rd then va_up emp v rd else emp) i))) (fun q => q = f + 5 ∨ q = f + 24 + 4 * v + 1 ∨ q = f + 26 + 4 * v + 1) := by
  refine xr_enter (cc := cX1_charge) (maxL := 3) (ret := none) (by decide) rfl (Nat.le_of_ble_eq_true rfl) ?_
  intro pgm env s mid below meth cde hx hb hr hml hts hown hlocks hnm hH hK ls hl
  subst hH
  have hl : lv_has ls 3 [(0, .ref f), (1, .int (nI v)), (2, .int (nI rd))] := hl
  have hS : va_S (fun q => q = f + 5 ∨ q = f + 24 + 4 * v + 1 ∨ q = f + 26 + 4 * v + 1) s.heap s.heap [] := va_S.rf
  refine lv_aload_n hx hb dX1_charge_0 rfl (lv_at hl 0 rfl) ?_
  refine va_get (D := g.1) (ci := 1) (v := .ref (f + 3)) (C := RX1) (T := TX1) (N := 16) hx hb hts (by decide +kernel) hown hK.1 (xr_one hO) 0 rfl rfl 2 (by decide) (hts (.fieldLink RX1 18 "SharesDesk$Phase" "purses" "[LSharesDesk$Natural;") (by decide +kernel)) (fun _ h9 => h9) rfl dX1_charge_1 ?_
  refine lv_iload_n hx hb dX1_charge_4 rfl (lv_at hl 1 rfl) ?_
  refine xr_pl hx hb hK hPu hv (by decide) dX1_charge_5 ?_
  refine lv_aload_n hx hb dX1_charge_6 rfl (lv_at hl 0 rfl) ?_
  refine va_get (D := g.1) (ci := 1) (v := .ref (f + 8)) (C := RX1) (T := TX1) (N := 16) hx hb hts (by decide +kernel) hown hK.1 (xr_one hO) 0 rfl rfl 11 (by decide) (hts (.fieldLink RX1 35 "SharesDesk$Phase" "rates" "[LSharesDesk$Natural;") (by decide +kernel)) (fun _ h9 => h9) rfl dX1_charge_7 ?_
  refine lv_iload_n hx hb dX1_charge_10 rfl (lv_at hl 2 rfl) ?_
  refine xr_pl hx hb hK hRa hrd (by decide) dX1_charge_11 ?_
  refine xr_Vi (rest := []) ⟨hx, hb, hml, hown, hts⟩ (KK_ok g) hK (c_X0_against l g s.heap (f + 24 + 4 * v) (f + 216 + 4 * rd) (pur v) (rat rd) (hPu.2 v hv) (hRa.2 rd hrd)) (cwV 1 hts gX1_charge_X0_against rfl rfl rfl (by decide +kernel) ⟨Nat.le_of_ble_eq_true rfl, Nat.le_of_ble_eq_true rfl⟩) (xr_rec hK (hPu.2 v hv).1 rfl) rfl hl.1 rfl (Nat.le_of_ble_eq_true rfl) dX1_charge_12 ⟨Nat.le_of_ble_eq_true rfl, Nat.le_of_ble_eq_true rfl⟩ hS (fun q h => h.elim) (fun r H locs hq hz hkp hS9 => ?_)
  obtain ⟨rfl, rfl⟩ := hq
  have hS := hS9
  refine lv_if_le (tgt := 34) hx hb dX1_charge_15 (by decide) (fun hc => ?_) (fun hc => ?_)
  · have h9 : pur v ≤ rat rd := cmpI_le0 hc
    refine lv_aload_n hx hb dX1_charge_34 rfl (lv_at hl 0 rfl) ?_
    refine va_get (D := g.1) (ci := 1) (v := .ref (f + 4)) (C := RX1) (T := TX1) (N := 16) hx hb hts (by decide +kernel) hown hK.1 (xr_one hO) 0 rfl rfl 3 (by decide) (hts (.fieldLink RX1 22 "SharesDesk$Phase" "lastPays" "[LSharesDesk$Natural;") (by decide +kernel)) (fun _ h9 => h9) rfl dX1_charge_35 ?_
    refine lv_iload_n hx hb dX1_charge_38 rfl (lv_at hl 1 rfl) ?_
    refine xr_pl hx hb hK hLa hv (by decide) dX1_charge_39 ?_
    refine lv_aload_n hx hb dX1_charge_40 rfl (lv_at hl 0 rfl) ?_
    refine va_get (D := g.1) (ci := 1) (v := .ref (f + 3)) (C := RX1) (T := TX1) (N := 16) hx hb hts (by decide +kernel) hown hK.1 (xr_one hO) 0 rfl rfl 2 (by decide) (hts (.fieldLink RX1 18 "SharesDesk$Phase" "purses" "[LSharesDesk$Natural;") (by decide +kernel)) (fun _ h9 => h9) rfl dX1_charge_41 ?_
    refine lv_iload_n hx hb dX1_charge_44 rfl (lv_at hl 1 rfl) ?_
    refine xr_pl hx hb hK hPu hv (by decide) dX1_charge_45 ?_
    refine xr_Vv (rest := []) ⟨hx, hb, hml, hown, hts⟩ (KK_ok g) hK (c_X0_copy l g s.heap (f + 26 + 4 * v) (f + 24 + 4 * v) (las v) (pur v) (hLa.2 v hv) (hPu.2 v hv) (by omega)) (cwV 1 hts gX1_charge_X0_copy rfl rfl rfl (by decide +kernel) ⟨Nat.le_of_ble_eq_true rfl, Nat.le_of_ble_eq_true rfl⟩) (xr_rec hK (hLa.2 v hv).1 rfl) rfl hl.1 rfl (Nat.le_of_ble_eq_true rfl) dX1_charge_46 ⟨Nat.le_of_ble_eq_true rfl, Nat.le_of_ble_eq_true rfl⟩ hS (fun q h => Or.inr (Or.inr h)) (fun _ H locs hq hz hkp hS => ?_)
    replace hkp := fun (q : Nat) h1 (h2 : ¬ (q = f + 26 + 4 * v + 1)) => hkp q h1 h2
    replace hO := hO.kept (hkp _ hO.lt (by omega))
    replace hPu := hPu.kept (hkp _ hPu.1.lt (by omega)) (fun v hv => hkp _ (hPu.2 v hv).1.lt (by omega)) (fun v hv => hkp _ (hPu.2 v hv).2.1.lt (by omega))
    replace hRa := hRa.kept (hkp _ hRa.1.lt (by omega)) (fun v hv => hkp _ (hRa.2 v hv).1.lt (by omega)) (fun v hv => hkp _ (hRa.2 v hv).2.1.lt (by omega))
    replace hEm := hEm.kept (hkp _ hEm.lt (by omega))
    have hLa := hLa.put hq (hkp _ hLa.1.lt (by omega)) (fun u hu hne => hkp _ (hLa.2 u hu).1.lt (by omega)) (fun u hu hne => hkp _ (hLa.2 u hu).2.1.lt (by omega))
    refine lv_aload_n hx hb dX1_charge_49 rfl (lv_at hl 0 rfl) ?_
    refine va_get (D := g.1) (ci := 1) (v := .ref (f + 5)) (C := RX1) (T := TX1) (N := 16) hx hb hts (by decide +kernel) hown hK.1 (xr_one hO) 0 rfl rfl 4 (by decide) (hts (.fieldLink RX1 25 "SharesDesk$Phase" "emptiedIn" "[I") (by decide +kernel)) (fun _ h9 => h9) rfl dX1_charge_50 ?_
    refine lv_iload_n hx hb dX1_charge_53 rfl (lv_at hl 1 rfl) ?_
    refine lv_iload_n hx hb dX1_charge_54 rfl (lv_at hl 2 rfl) ?_
    refine xr_wr hx hb hK hS (Or.inl rfl) hEm hv (by decide) dX1_charge_55 (fun H locs hz hkp hEm hS => ?_)
    replace hO := hO.kept (hkp _ (by omega))
    replace hPu := hPu.kept (hkp _ (by omega)) (fun v hv => hkp _ (by omega)) (fun v hv => hkp _ (by omega))
    replace hRa := hRa.kept (hkp _ (by omega)) (fun v hv => hkp _ (by omega)) (fun v hv => hkp _ (by omega))
    replace hLa := hLa.kept (hkp _ (by omega)) (fun v hv => hkp _ (by omega)) (fun v hv => hkp _ (by omega))
    rw [ia_up] at hEm
    refine lv_aload_n hx hb dX1_charge_56 rfl (lv_at hl 0 rfl) ?_
    refine va_get (D := g.1) (ci := 1) (v := .ref (f + 3)) (C := RX1) (T := TX1) (N := 16) hx hb hts (by decide +kernel) hown hK.1 (xr_one hO) 0 rfl rfl 2 (by decide) (hts (.fieldLink RX1 18 "SharesDesk$Phase" "purses" "[LSharesDesk$Natural;") (by decide +kernel)) (fun _ h9 => h9) rfl dX1_charge_57 ?_
    refine lv_iload_n hx hb dX1_charge_60 rfl (lv_at hl 1 rfl) ?_
    refine xr_pl hx hb hK hPu hv (by decide) dX1_charge_61 ?_
    refine lv_iconst (v := 0) hx hb dX1_charge_62 (by decide) ?_
    refine xr_ti (x' := nI 0) rfl ?_
    refine xr_Vv (rest := []) ⟨hx, hb, hml, hown, hts⟩ (KK_ok g) hK (c_X0_set l g H (f + 24 + 4 * v) (pur v) 0 (hPu.2 v hv) (by decide)) (cwV 1 hts gX1_charge_X0_set rfl rfl rfl (by decide +kernel) ⟨Nat.le_of_ble_eq_true rfl, Nat.le_of_ble_eq_true rfl⟩) (xr_rec hK (hPu.2 v hv).1 rfl) rfl hl.1 rfl (Nat.le_of_ble_eq_true rfl) dX1_charge_63 ⟨Nat.le_of_ble_eq_true rfl, Nat.le_of_ble_eq_true rfl⟩ hS (fun q h => Or.inr (Or.inl h)) (fun _ H locs hq hz hkp hS => ?_)
    replace hkp := fun (q : Nat) h1 (h2 : ¬ (q = f + 24 + 4 * v + 1)) => hkp q h1 h2
    replace hO := hO.kept (hkp _ hO.lt (by omega))
    replace hRa := hRa.kept (hkp _ hRa.1.lt (by omega)) (fun v hv => hkp _ (hRa.2 v hv).1.lt (by omega)) (fun v hv => hkp _ (hRa.2 v hv).2.1.lt (by omega))
    replace hLa := hLa.kept (hkp _ hLa.1.lt (by omega)) (fun v hv => hkp _ (hLa.2 v hv).1.lt (by omega)) (fun v hv => hkp _ (hLa.2 v hv).2.1.lt (by omega))
    replace hEm := hEm.kept (hkp _ hEm.lt (by omega))
    have hPu := hPu.put hq (hkp _ hPu.1.lt (by omega)) (fun u hu hne => hkp _ (hPu.2 u hu).1.lt (by omega)) (fun u hu hne => hkp _ (hPu.2 u hu).2.1.lt (by omega))
    exact xr_vret hx hb hr hlocks hS ⟨by rw [Nat.sub_eq_zero_of_le h9]; exact hPu, by rw [if_pos h9]; exact hLa, by rw [if_pos h9]; exact hEm⟩ dX1_charge_66
  · have h9 : ¬ pur v ≤ rat rd := fun q => hc (cmpI_0le q)
    refine lv_aload_n hx hb dX1_charge_18 rfl (lv_at hl 0 rfl) ?_
    refine va_get (D := g.1) (ci := 1) (v := .ref (f + 3)) (C := RX1) (T := TX1) (N := 16) hx hb hts (by decide +kernel) hown hK.1 (xr_one hO) 0 rfl rfl 2 (by decide) (hts (.fieldLink RX1 18 "SharesDesk$Phase" "purses" "[LSharesDesk$Natural;") (by decide +kernel)) (fun _ h9 => h9) rfl dX1_charge_19 ?_
    refine lv_iload_n hx hb dX1_charge_22 rfl (lv_at hl 1 rfl) ?_
    refine xr_pl hx hb hK hPu hv (by decide) dX1_charge_23 ?_
    refine lv_aload_n hx hb dX1_charge_24 rfl (lv_at hl 0 rfl) ?_
    refine va_get (D := g.1) (ci := 1) (v := .ref (f + 8)) (C := RX1) (T := TX1) (N := 16) hx hb hts (by decide +kernel) hown hK.1 (xr_one hO) 0 rfl rfl 11 (by decide) (hts (.fieldLink RX1 35 "SharesDesk$Phase" "rates" "[LSharesDesk$Natural;") (by decide +kernel)) (fun _ h9 => h9) rfl dX1_charge_25 ?_
    refine lv_iload_n hx hb dX1_charge_28 rfl (lv_at hl 2 rfl) ?_
    refine xr_pl hx hb hK hRa hrd (by decide) dX1_charge_29 ?_
    refine xr_Vv (rest := []) ⟨hx, hb, hml, hown, hts⟩ (KK_ok g) hK (c_X0_minus l g s.heap (f + 24 + 4 * v) (f + 216 + 4 * rd) (pur v) (rat rd) (hPu.2 v hv) (hRa.2 rd hrd) (by omega) (by omega) (by omega)) (cwV 1 hts gX1_charge_X0_minus rfl rfl rfl (by decide +kernel) ⟨Nat.le_of_ble_eq_true rfl, Nat.le_of_ble_eq_true rfl⟩) (xr_rec hK (hPu.2 v hv).1 rfl) rfl hl.1 rfl (Nat.le_of_ble_eq_true rfl) dX1_charge_30 ⟨Nat.le_of_ble_eq_true rfl, Nat.le_of_ble_eq_true rfl⟩ hS (fun q h => Or.inr (Or.inl h)) (fun _ H locs hq hz hkp hS => ?_)
    replace hkp := fun (q : Nat) h1 (h2 : ¬ (q = f + 24 + 4 * v + 1)) => hkp q h1 h2
    replace hO := hO.kept (hkp _ hO.lt (by omega))
    replace hLa := hLa.kept (hkp _ hLa.1.lt (by omega)) (fun v hv => hkp _ (hLa.2 v hv).1.lt (by omega)) (fun v hv => hkp _ (hLa.2 v hv).2.1.lt (by omega))
    replace hRa := hRa.kept (hkp _ hRa.1.lt (by omega)) (fun v hv => hkp _ (hRa.2 v hv).1.lt (by omega)) (fun v hv => hkp _ (hRa.2 v hv).2.1.lt (by omega))
    replace hEm := hEm.kept (hkp _ hEm.lt (by omega))
    have hPu := hPu.put hq (hkp _ hPu.1.lt (by omega)) (fun u hu hne => hkp _ (hPu.2 u hu).1.lt (by omega)) (fun u hu hne => hkp _ (hPu.2 u hu).2.1.lt (by omega))
    exact xr_vret hx hb hr hlocks hS ⟨hPu, by rw [if_neg h9]; exact hLa, by rw [if_neg h9]; exact hEm⟩ dX1_charge_33
end
section
set_option maxHeartbeats 1000000 in
set_option maxRecDepth 100000 in
theorem c_X1_pay (l : Launch) (g : WG) (H0 : Heap) (t : Nat) (c : Nat → Nat) (vs : Nat) (ap : Nat → Nat) (bu : Nat) (f pc pk ps co op bs tr B : Nat) (pur las emp pay pik rat bas : Nat → Nat) (r k rt kt : Nat) (hO : obj g H0 f 1 (phF f t pc pk ps co op bs tr)) (hT : TownAt g H0 t c vs ap bu) (hBa : NatAt g H0 (f + 1) B) (hPu : PoolAt g H0 (f + 3) (f + 24) 48 pur) (hLa : PoolAt g H0 (f + 4) (f + 26) 48 las) (hEm : xr_ia H0 (f + 5) (gI g) 48 (fun z9 => nI (emp z9))) (hPy : xr_ia H0 (f + 6) (gI g) 48 (fun z9 => nI (pay z9))) (hPi : xr_ia H0 (f + 7) (gI g) 16 (fun z9 => nI (pik z9))) (hRa : PoolAt g H0 (f + 8) (f + 216) 16 rat) (hBb : PoolAt g H0 (f + 9) (f + 218) 16 bas) (hBs : ShareAt g H0 bs r k) (hTr : ShareAt g H0 tr rt kt) (hft : t + 3 ≤ f ∨ f + 280 ≤ t) (htb : (tr = f + 10 ∧ bs = f + 17 ∨ tr = f + 17 ∧ bs = f + 10)) (hpc : pc ≤ 48) (hpay : ∀ i, i < pc → pay i < 48) (hinj : ∀ i j, i < pc → j < pc → pay i = pay j → i = j) (hk : k ≤ 48) (hBk : B * k < 2 ^ 128) (hpb : ∀ i, i < pc → pur (pay i) * 48 < 2 ^ 128) (hop : op < 2 ^ 16) (p0 rd : Nat) (hp : p0 < 16) (hrd : rd < 16) (hob : op.testBit p0 = true) : Ctr l (KK g) yX1_pay wsX1_pay { frames := 3, cells := 0, slots := 0, locals := 83 } [.ref f, .int (nI p0), .int (nI rd)] H0 eV (fun _ H => obj g H f 1 (phF f t ((payC pur pay ap p0 k r pc).2) (rd + 1) (ps ||| 2 ^ p0) (co + c p0) (op - 2 ^ p0) bs tr) ∧ NatAt g H (f + 1) (B * k) ∧ PoolAt g H (f + 3) (f + 24) 48 (payP pur pay ap p0 k r pc) ∧ PoolAt g H (f + 4) (f + 26) 48 (payL pur las pay ap p0 k r pc) ∧ xr_ia H (f + 5) (gI g) 48 (fun z9 => nI ((payE pur emp pay ap p0 k r rd pc) z9)) ∧ xr_ia H (f + 6) (gI g) 48 (fun z9 => nI (((payC pur pay ap p0 k r pc).1) z9)) ∧ xr_ia H (f + 7) (gI g) 16 (fun z9 => nI ((va_up pik rd p0) z9)) ∧ PoolAt g H (f + 8) (f + 216) 16 (va_up rat rd r) ∧ PoolAt g H (f + 9) (f + 218) 16 (va_up bas rd (B * k)) ∧ ShareAt g H bs r k ∧ ShareAt g H tr rt kt) (fun q => f ≤ q ∧ q < f + 280) := by
  refine xr_enter (cc := cX1_pay) (maxL := 6) (ret := none) (by decide) rfl (Nat.le_of_ble_eq_true rfl) ?_
  intro pgm env s mid below meth cde hx hb hr hml hts hown hlocks hnm hH hK ls hl
  subst hH
  have hl : lv_has ls 6 [(0, .ref f), (1, .int (nI p0)), (2, .int (nI rd))] := hl
  have hS : va_S (fun q => f ≤ q ∧ q < f + 280) s.heap s.heap [] := va_S.rf
  have loop : ∀ (n i : Nat), i + n = pc → ∀ (H : Heap) (locs : List Loc), obj g H f 1 (phF f t pc pk ps co op bs tr) → TownAt g H t c vs ap bu → NatAt g H (f + 1) (B * k) → PoolAt g H (f + 3) (f + 24) 48 (payP pur pay ap p0 k r i) → PoolAt g H (f + 4) (f + 26) 48 (payL pur las pay ap p0 k r i) → xr_ia H (f + 5) (gI g) 48 (fun z9 => nI ((payE pur emp pay ap p0 k r rd i) z9)) → xr_ia H (f + 6) (gI g) 48 (fun z9 => nI (((payC pur pay ap p0 k r i).1) z9)) → xr_ia H (f + 7) (gI g) 16 (fun z9 => nI (pik z9)) → PoolAt g H (f + 8) (f + 216) 16 (va_up rat rd r) → PoolAt g H (f + 9) (f + 218) 16 (va_up bas rd (B * k)) → ShareAt g H bs r k → ShareAt g H tr rt kt → va_S (fun q => f ≤ q ∧ q < f + 280) s.heap H locs → ∀ ls : Array Slot, lv_has ls 6 [(4, .int (nI i)), (3, .int (nI (payC pur pay ap p0 k r i).2)), (0, .ref f), (1, .int (nI p0)), (2, .int (nI rd))] → W pgm l env { frames := 3, cells := 0, slots := 0, locals := 83 } s mid ([.ref f, .int (nI p0), .int (nI rd)] : List Value).toArray below meth cde H locs 0 0 (MQ below (xr_Post eV (fun _ H => obj g H f 1 (phF f t ((payC pur pay ap p0 k r pc).2) (rd + 1) (ps ||| 2 ^ p0) (co + c p0) (op - 2 ^ p0) bs tr) ∧ NatAt g H (f + 1) (B * k) ∧ PoolAt g H (f + 3) (f + 24) 48 (payP pur pay ap p0 k r pc) ∧ PoolAt g H (f + 4) (f + 26) 48 (payL pur las pay ap p0 k r pc) ∧ xr_ia H (f + 5) (gI g) 48 (fun z9 => nI ((payE pur emp pay ap p0 k r rd pc) z9)) ∧ xr_ia H (f + 6) (gI g) 48 (fun z9 => nI (((payC pur pay ap p0 k r pc).1) z9)) ∧ xr_ia H (f + 7) (gI g) 16 (fun z9 => nI ((va_up pik rd p0) z9)) ∧ PoolAt g H (f + 8) (f + 216) 16 (va_up rat rd r) ∧ PoolAt g H (f + 9) (f + 218) 16 (va_up bas rd (B * k)) ∧ ShareAt g H bs r k ∧ ShareAt g H tr rt kt) (fun q => f ≤ q ∧ q < f + 280)) ([.ref f, .int (nI p0), .int (nI rd)] : List Value).toArray s ({ frames := 3, cells := 0, slots := 0, locals := 83 } : Room).cells ({ frames := 3, cells := 0, slots := 0, locals := 83 } : Room).slots (fun q => f ≤ q ∧ q < f + 280)) (F0 mid 48 ls []) := by
    intro n
    induction n with
    | zero =>
      intro i h1 H locs hO hT hBa hPu hLa hEm hPy hPi hRa hBb hBs hTr hS ls hl
      refine lv_iload hx hb dX1_pay_48 (lv_at hl 0 rfl) ?_
      refine lv_aload_n hx hb dX1_pay_50 rfl (lv_at hl 2 rfl) ?_
      refine va_get (D := g.1) (ci := 1) (v := .int (nI pc)) (C := RX1) (T := TX1) (N := 16) hx hb hts (by decide +kernel) hown hK.1 (xr_one hO) 0 rfl rfl 6 (by decide) (hts (.fieldLink RX1 118 "SharesDesk$Phase" "payerCount" "I") (by decide +kernel)) (fun _ h9 => h9) rfl dX1_pay_51 ?_
      refine lv_icmp_ge (tgt := 133) hx hb dX1_pay_54 (by decide) (fun hc => ?_) (fun hc => ?_)
      · have e : i = pc := by omega
        subst e
        refine lv_aload_n hx hb dX1_pay_133 rfl (lv_at hl 2 rfl) ?_
        refine lv_iload_n hx hb dX1_pay_134 rfl (lv_at hl 1 rfl) ?_
        refine xr_put (ci := 1) (v := .int (nI (payC pur pay ap p0 k r i).2)) (ty := .int) (C := RX1) (T := TX1) (N := 16) hx hb hts (by decide +kernel) tyX1 tyX1_ok nmX1 hown hK.1 hO hS (show f ≤ f ∧ f < f + 280 by omega) rfl 6 (by decide) (hts (.fieldLink RX1 118 "SharesDesk$Phase" "payerCount" "I") (by decide +kernel)) rfl (by decide +kernel) rfl rfl (Nat.le_of_ble_eq_true rfl) dX1_pay_135 (fun H locs hz hkp hO hS => ?_)
        replace hT := hT.kept (fun q hq1 hq2 hq3 => hkp q (by omega))
        replace hBa := hBa.kept (hkp _ (by omega)) (hkp _ (by omega))
        replace hPu := hPu.kept (hkp _ (by omega)) (fun v hv => hkp _ (by omega)) (fun v hv => hkp _ (by omega))
        replace hLa := hLa.kept (hkp _ (by omega)) (fun v hv => hkp _ (by omega)) (fun v hv => hkp _ (by omega))
        replace hEm := hEm.kept (hkp _ (by omega))
        replace hPy := hPy.kept (hkp _ (by omega))
        replace hPi := hPi.kept (hkp _ (by omega))
        replace hRa := hRa.kept (hkp _ (by omega)) (fun v hv => hkp _ (by omega)) (fun v hv => hkp _ (by omega))
        replace hBb := hBb.kept (hkp _ (by omega)) (fun v hv => hkp _ (by omega)) (fun v hv => hkp _ (by omega))
        replace hBs := hBs.kept (fun q hq1 hq2 hq3 => hkp q (by omega))
        replace hTr := hTr.kept (fun q hq1 hq2 hq3 => hkp q (by omega))
        refine lv_aload_n hx hb dX1_pay_138 rfl (lv_at hl 2 rfl) ?_
        refine va_get (D := g.1) (ci := 1) (v := .ref (f + 7)) (C := RX1) (T := TX1) (N := 16) hx hb hts (by decide +kernel) hown hK.1 (xr_one hO) 0 rfl rfl 7 (by decide) (hts (.fieldLink RX1 32 "SharesDesk$Phase" "picks" "[I") (by decide +kernel)) (fun _ h9 => h9) rfl dX1_pay_139 ?_
        refine lv_iload_n hx hb dX1_pay_142 rfl (lv_at hl 4 rfl) ?_
        refine lv_iload_n hx hb dX1_pay_143 rfl (lv_at hl 3 rfl) ?_
        refine xr_wr hx hb hK hS (show f ≤ f + 7 ∧ f + 7 < f + 280 by omega) hPi hrd (by decide) dX1_pay_144 (fun H locs hz hkp hPi hS => ?_)
        replace hT := hT.kept (fun q hq1 hq2 hq3 => hkp q (by omega))
        replace hBa := hBa.kept (hkp _ (by omega)) (hkp _ (by omega))
        replace hPu := hPu.kept (hkp _ (by omega)) (fun v hv => hkp _ (by omega)) (fun v hv => hkp _ (by omega))
        replace hLa := hLa.kept (hkp _ (by omega)) (fun v hv => hkp _ (by omega)) (fun v hv => hkp _ (by omega))
        replace hEm := hEm.kept (hkp _ (by omega))
        replace hPy := hPy.kept (hkp _ (by omega))
        replace hRa := hRa.kept (hkp _ (by omega)) (fun v hv => hkp _ (by omega)) (fun v hv => hkp _ (by omega))
        replace hBb := hBb.kept (hkp _ (by omega)) (fun v hv => hkp _ (by omega)) (fun v hv => hkp _ (by omega))
        replace hBs := hBs.kept (fun q hq1 hq2 hq3 => hkp q (by omega))
        replace hTr := hTr.kept (fun q hq1 hq2 hq3 => hkp q (by omega))
        replace hO := hO.kept (hkp _ (by omega))
        rw [ia_up] at hPi
        refine lv_aload_n hx hb dX1_pay_145 rfl (lv_at hl 2 rfl) ?_
        refine lv_iload_n hx hb dX1_pay_146 rfl (lv_at hl 4 rfl) ?_
        refine lv_iconst (v := 1) hx hb dX1_pay_147 (by decide) ?_
        refine lv_iadd hx hb dX1_pay_148 ?_
        refine xr_ti (x' := nI (rd + 1)) (nI_1 rd) ?_
        refine xr_put (ci := 1) (v := .int (nI (rd + 1))) (ty := .int) (C := RX1) (T := TX1) (N := 16) hx hb hts (by decide +kernel) tyX1 tyX1_ok nmX1 hown hK.1 hO hS (show f ≤ f ∧ f < f + 280 by omega) rfl 8 (by decide) (hts (.fieldLink RX1 59 "SharesDesk$Phase" "picked" "I") (by decide +kernel)) rfl (by decide +kernel) rfl rfl (Nat.le_of_ble_eq_true rfl) dX1_pay_149 (fun H locs hz hkp hO hS => ?_)
        replace hT := hT.kept (fun q hq1 hq2 hq3 => hkp q (by omega))
        replace hBa := hBa.kept (hkp _ (by omega)) (hkp _ (by omega))
        replace hPu := hPu.kept (hkp _ (by omega)) (fun v hv => hkp _ (by omega)) (fun v hv => hkp _ (by omega))
        replace hLa := hLa.kept (hkp _ (by omega)) (fun v hv => hkp _ (by omega)) (fun v hv => hkp _ (by omega))
        replace hEm := hEm.kept (hkp _ (by omega))
        replace hPy := hPy.kept (hkp _ (by omega))
        replace hRa := hRa.kept (hkp _ (by omega)) (fun v hv => hkp _ (by omega)) (fun v hv => hkp _ (by omega))
        replace hBb := hBb.kept (hkp _ (by omega)) (fun v hv => hkp _ (by omega)) (fun v hv => hkp _ (by omega))
        replace hBs := hBs.kept (fun q hq1 hq2 hq3 => hkp q (by omega))
        replace hTr := hTr.kept (fun q hq1 hq2 hq3 => hkp q (by omega))
        replace hPi := hPi.kept (hkp _ (by omega))
        refine lv_aload_n hx hb dX1_pay_152 rfl (lv_at hl 2 rfl) ?_
        refine lv_dup hx hb dX1_pay_153 rfl ?_
        refine va_get (D := g.1) (ci := 1) (v := .int (nI ps)) (C := RX1) (T := TX1) (N := 16) hx hb hts (by decide +kernel) hown hK.1 (xr_one hO) 0 rfl rfl 9 (by decide) (hts (.fieldLink RX1 63 "SharesDesk$Phase" "pickedSet" "I") (by decide +kernel)) (fun _ h9 => h9) rfl dX1_pay_154 ?_
        refine lv_iconst (v := 1) hx hb dX1_pay_157 (by decide) ?_
        refine lv_iload_n hx hb dX1_pay_158 rfl (lv_at hl 3 rfl) ?_
        refine lv_ishl hx hb dX1_pay_159 ?_
        refine xr_ti (x' := nI (2 ^ p0)) (sh1 p0 (by omega)) ?_
        refine lv_ior hx hb dX1_pay_160 ?_
        refine xr_ti (x' := nI (ps ||| 2 ^ p0)) nI_or ?_
        refine xr_put (ci := 1) (v := .int (nI (ps ||| 2 ^ p0))) (ty := .int) (C := RX1) (T := TX1) (N := 16) hx hb hts (by decide +kernel) tyX1 tyX1_ok nmX1 hown hK.1 hO hS (show f ≤ f ∧ f < f + 280 by omega) rfl 9 (by decide) (hts (.fieldLink RX1 63 "SharesDesk$Phase" "pickedSet" "I") (by decide +kernel)) rfl (by decide +kernel) rfl rfl (Nat.le_of_ble_eq_true rfl) dX1_pay_161 (fun H locs hz hkp hO hS => ?_)
        replace hT := hT.kept (fun q hq1 hq2 hq3 => hkp q (by omega))
        replace hBa := hBa.kept (hkp _ (by omega)) (hkp _ (by omega))
        replace hPu := hPu.kept (hkp _ (by omega)) (fun v hv => hkp _ (by omega)) (fun v hv => hkp _ (by omega))
        replace hLa := hLa.kept (hkp _ (by omega)) (fun v hv => hkp _ (by omega)) (fun v hv => hkp _ (by omega))
        replace hEm := hEm.kept (hkp _ (by omega))
        replace hPy := hPy.kept (hkp _ (by omega))
        replace hRa := hRa.kept (hkp _ (by omega)) (fun v hv => hkp _ (by omega)) (fun v hv => hkp _ (by omega))
        replace hBb := hBb.kept (hkp _ (by omega)) (fun v hv => hkp _ (by omega)) (fun v hv => hkp _ (by omega))
        replace hBs := hBs.kept (fun q hq1 hq2 hq3 => hkp q (by omega))
        replace hTr := hTr.kept (fun q hq1 hq2 hq3 => hkp q (by omega))
        replace hPi := hPi.kept (hkp _ (by omega))
        refine lv_aload_n hx hb dX1_pay_164 rfl (lv_at hl 2 rfl) ?_
        refine lv_dup hx hb dX1_pay_165 rfl ?_
        refine va_get (D := g.1) (ci := 1) (v := .int (nI co)) (C := RX1) (T := TX1) (N := 16) hx hb hts (by decide +kernel) hown hK.1 (xr_one hO) 0 rfl rfl 10 (by decide) (hts (.fieldLink RX1 66 "SharesDesk$Phase" "cost" "I") (by decide +kernel)) (fun _ h9 => h9) rfl dX1_pay_166 ?_
        refine lv_aload_n hx hb dX1_pay_169 rfl (lv_at hl 2 rfl) ?_
        refine va_get (D := g.1) (ci := 1) (v := .ref t) (C := RX1) (T := TX1) (N := 16) hx hb hts (by decide +kernel) hown hK.1 (xr_one hO) 0 rfl rfl 0 (by decide) (hts (.fieldLink RX1 51 "SharesDesk$Phase" "town" "LSharesDesk$Town;") (by decide +kernel)) (fun _ h9 => h9) rfl dX1_pay_170 ?_
        refine va_get (D := g.1) (ci := 5) (v := .ref (t + 1)) (C := RX5) (T := TX5) (N := 4) hx hb hts (by decide +kernel) hown hK.1 (xr_one hT.1) 0 rfl rfl 0 (by decide) (hts (.fieldLink RX1 112 "SharesDesk$Town" "costs" "[I") (by decide +kernel)) (fun _ h9 => h9) rfl dX1_pay_173 ?_
        refine lv_iload_n hx hb dX1_pay_176 rfl (lv_at hl 3 rfl) ?_
        refine xr_rd hx hb hK hT.2.1 hp (by decide) dX1_pay_177 ?_
        refine lv_iadd hx hb dX1_pay_178 ?_
        refine xr_ti (x' := nI (co + c p0)) (nI_add _ _) ?_
        refine xr_put (ci := 1) (v := .int (nI (co + c p0))) (ty := .int) (C := RX1) (T := TX1) (N := 16) hx hb hts (by decide +kernel) tyX1 tyX1_ok nmX1 hown hK.1 hO hS (show f ≤ f ∧ f < f + 280 by omega) rfl 10 (by decide) (hts (.fieldLink RX1 66 "SharesDesk$Phase" "cost" "I") (by decide +kernel)) rfl (by decide +kernel) rfl rfl (Nat.le_of_ble_eq_true rfl) dX1_pay_179 (fun H locs hz hkp hO hS => ?_)
        replace hT := hT.kept (fun q hq1 hq2 hq3 => hkp q (by omega))
        replace hBa := hBa.kept (hkp _ (by omega)) (hkp _ (by omega))
        replace hPu := hPu.kept (hkp _ (by omega)) (fun v hv => hkp _ (by omega)) (fun v hv => hkp _ (by omega))
        replace hLa := hLa.kept (hkp _ (by omega)) (fun v hv => hkp _ (by omega)) (fun v hv => hkp _ (by omega))
        replace hEm := hEm.kept (hkp _ (by omega))
        replace hPy := hPy.kept (hkp _ (by omega))
        replace hRa := hRa.kept (hkp _ (by omega)) (fun v hv => hkp _ (by omega)) (fun v hv => hkp _ (by omega))
        replace hBb := hBb.kept (hkp _ (by omega)) (fun v hv => hkp _ (by omega)) (fun v hv => hkp _ (by omega))
        replace hBs := hBs.kept (fun q hq1 hq2 hq3 => hkp q (by omega))
        replace hTr := hTr.kept (fun q hq1 hq2 hq3 => hkp q (by omega))
        replace hPi := hPi.kept (hkp _ (by omega))
        refine lv_aload_n hx hb dX1_pay_182 rfl (lv_at hl 2 rfl) ?_
        refine lv_dup hx hb dX1_pay_183 rfl ?_
        refine va_get (D := g.1) (ci := 1) (v := .int (nI op)) (C := RX1) (T := TX1) (N := 16) hx hb hts (by decide +kernel) hown hK.1 (xr_one hO) 0 rfl rfl 13 (by decide) (hts (.fieldLink RX1 75 "SharesDesk$Phase" "open" "I") (by decide +kernel)) (fun _ h9 => h9) rfl dX1_pay_184 ?_
        refine lv_iconst (v := 1) hx hb dX1_pay_187 (by decide) ?_
        refine lv_iload_n hx hb dX1_pay_188 rfl (lv_at hl 3 rfl) ?_
        refine lv_ishl hx hb dX1_pay_189 ?_
        refine xr_ti (x' := nI (2 ^ p0)) (sh1 p0 (by omega)) ?_
        refine lv_iconst (v := (-1)) hx hb dX1_pay_190 (by decide) ?_
        refine lv_ixor hx hb dX1_pay_191 ?_
        refine lv_iand hx hb dX1_pay_192 ?_
        refine xr_ti (x' := nI (op - 2 ^ p0)) (nI_clr (by omega) (by omega) hob) ?_
        refine xr_put (ci := 1) (v := .int (nI (op - 2 ^ p0))) (ty := .int) (C := RX1) (T := TX1) (N := 16) hx hb hts (by decide +kernel) tyX1 tyX1_ok nmX1 hown hK.1 hO hS (show f ≤ f ∧ f < f + 280 by omega) rfl 13 (by decide) (hts (.fieldLink RX1 75 "SharesDesk$Phase" "open" "I") (by decide +kernel)) rfl (by decide +kernel) rfl rfl (Nat.le_of_ble_eq_true rfl) dX1_pay_193 (fun H locs hz hkp hO hS => ?_)
        replace hT := hT.kept (fun q hq1 hq2 hq3 => hkp q (by omega))
        replace hBa := hBa.kept (hkp _ (by omega)) (hkp _ (by omega))
        replace hPu := hPu.kept (hkp _ (by omega)) (fun v hv => hkp _ (by omega)) (fun v hv => hkp _ (by omega))
        replace hLa := hLa.kept (hkp _ (by omega)) (fun v hv => hkp _ (by omega)) (fun v hv => hkp _ (by omega))
        replace hEm := hEm.kept (hkp _ (by omega))
        replace hPy := hPy.kept (hkp _ (by omega))
        replace hRa := hRa.kept (hkp _ (by omega)) (fun v hv => hkp _ (by omega)) (fun v hv => hkp _ (by omega))
        replace hBb := hBb.kept (hkp _ (by omega)) (fun v hv => hkp _ (by omega)) (fun v hv => hkp _ (by omega))
        replace hBs := hBs.kept (fun q hq1 hq2 hq3 => hkp q (by omega))
        replace hTr := hTr.kept (fun q hq1 hq2 hq3 => hkp q (by omega))
        replace hPi := hPi.kept (hkp _ (by omega))
        exact xr_vret hx hb hr hlocks hS ⟨hO, hBa, hPu, hLa, hEm, hPy, hPi, hRa, hBb, hBs, hTr⟩ dX1_pay_196
      · exact absurd (nI_le (show pc ≤ i by omega) (by omega)) hc
    | succ n ih =>
      intro i h1 H locs hO hT hBa hPu hLa hEm hPy hPi hRa hBb hBs hTr hS ls hl
      have hv := hpay i (by omega)
      have hle := payC_le (pur := pur) (pay := pay) (ap := ap) (p := p0) (k := k) (r := r) i
      have hcur : payP pur pay ap p0 k r i (pay i) = pur (pay i) := payP_ne i (fun j hj q => absurd (hinj j i (by omega) (by omega) q) (by omega))
      have hxk : pur (pay i) * k < 2 ^ 128 := Nat.lt_of_le_of_lt (Nat.mul_le_mul_left _ hk) (hpb i (by omega))
      have tail : ∀ (H : Heap) (locs : List Loc), obj g H f 1 (phF f t pc pk ps co op bs tr) → TownAt g H t c vs ap bu → NatAt g H (f + 1) (B * k) → PoolAt g H (f + 3) (f + 24) 48 (payP pur pay ap p0 k r (i + 1)) → PoolAt g H (f + 4) (f + 26) 48 (payL pur las pay ap p0 k r (i + 1)) → xr_ia H (f + 5) (gI g) 48 (fun z9 => nI ((payE pur emp pay ap p0 k r rd (i + 1)) z9)) → xr_ia H (f + 6) (gI g) 48 (fun z9 => nI (((payC pur pay ap p0 k r i).1) z9)) → xr_ia H (f + 7) (gI g) 16 (fun z9 => nI (pik z9)) → PoolAt g H (f + 8) (f + 216) 16 (va_up rat rd r) → PoolAt g H (f + 9) (f + 218) 16 (va_up bas rd (B * k)) → ShareAt g H bs r k → ShareAt g H tr rt kt → va_S (fun q => f ≤ q ∧ q < f + 280) s.heap H locs → ∀ ls : Array Slot, lv_has ls 6 [(5, .int (nI (pay i))), (4, .int (nI i)), (3, .int (nI (payC pur pay ap p0 k r i).2)), (0, .ref f), (1, .int (nI p0)), (2, .int (nI rd))] → W pgm l env { frames := 3, cells := 0, slots := 0, locals := 83 } s mid ([.ref f, .int (nI p0), .int (nI rd)] : List Value).toArray below meth cde H locs 0 0 (MQ below (xr_Post eV (fun _ H => obj g H f 1 (phF f t ((payC pur pay ap p0 k r pc).2) (rd + 1) (ps ||| 2 ^ p0) (co + c p0) (op - 2 ^ p0) bs tr) ∧ NatAt g H (f + 1) (B * k) ∧ PoolAt g H (f + 3) (f + 24) 48 (payP pur pay ap p0 k r pc) ∧ PoolAt g H (f + 4) (f + 26) 48 (payL pur las pay ap p0 k r pc) ∧ xr_ia H (f + 5) (gI g) 48 (fun z9 => nI ((payE pur emp pay ap p0 k r rd pc) z9)) ∧ xr_ia H (f + 6) (gI g) 48 (fun z9 => nI (((payC pur pay ap p0 k r pc).1) z9)) ∧ xr_ia H (f + 7) (gI g) 16 (fun z9 => nI ((va_up pik rd p0) z9)) ∧ PoolAt g H (f + 8) (f + 216) 16 (va_up rat rd r) ∧ PoolAt g H (f + 9) (f + 218) 16 (va_up bas rd (B * k)) ∧ ShareAt g H bs r k ∧ ShareAt g H tr rt kt) (fun q => f ≤ q ∧ q < f + 280)) ([.ref f, .int (nI p0), .int (nI rd)] : List Value).toArray s ({ frames := 3, cells := 0, slots := 0, locals := 83 } : Room).cells ({ frames := 3, cells := 0, slots := 0, locals := 83 } : Room).slots (fun q => f ≤ q ∧ q < f + 280)) (F0 mid 103 ls []) := by
        intro H locs hO hT hBa hPu hLa hEm hPy hPi hRa hBb hBs hTr hS ls hl
        have hNv := hPu.2 (pay i) hv
        have eNv : payP pur pay ap p0 k r (i + 1) (pay i) = nPur ap p0 k r (pay i) (pur (pay i)) := by rw [payP, va_up_self]
        rw [eNv] at hNv
        refine lv_aload_n hx hb dX1_pay_103 rfl (lv_at hl 3 rfl) ?_
        refine va_get (D := g.1) (ci := 1) (v := .ref (f + 3)) (C := RX1) (T := TX1) (N := 16) hx hb hts (by decide +kernel) hown hK.1 (xr_one hO) 0 rfl rfl 2 (by decide) (hts (.fieldLink RX1 18 "SharesDesk$Phase" "purses" "[LSharesDesk$Natural;") (by decide +kernel)) (fun _ h9 => h9) rfl dX1_pay_104 ?_
        refine lv_iload hx hb dX1_pay_107 (lv_at hl 0 rfl) ?_
        refine xr_pl hx hb hK hPu hv (by decide) dX1_pay_109 ?_
        refine xr_Vi (rest := []) ⟨hx, hb, hml, hown, hts⟩ (KK_ok g) hK (c_X0_isZero l g H (f + 24 + 4 * pay i) (nPur ap p0 k r (pay i) (pur (pay i))) hNv) (cwV 0 hts gX1_pay_X0_isZero rfl rfl rfl (by decide +kernel) ⟨Nat.le_of_ble_eq_true rfl, Nat.le_of_ble_eq_true rfl⟩) (xr_rec hK hNv.1 rfl) rfl hl.1 rfl (Nat.le_of_ble_eq_true rfl) dX1_pay_110 ⟨Nat.le_of_ble_eq_true rfl, Nat.le_of_ble_eq_true rfl⟩ hS (fun q h => h.elim) (fun r H locs hq hz hkp hS9 => ?_)
        obtain ⟨rfl, rfl⟩ := hq
        have hS := hS9
        refine lv_if_ne (tgt := 127) hx hb dX1_pay_113 (by decide) (fun h7 => ?_) (fun h7 => ?_)
        · have h8 := of_decide_eq_true (b2i_n0.mp h7)
          have eC : (payC pur pay ap p0 k r (i + 1)) = (payC pur pay ap p0 k r i) := by rw [payC, if_pos h8]
          refine lv_iinc (v := nI (i + 1)) (lv' := [(4, .int (nI (i + 1))), (5, .int (nI (pay i))), (3, .int (nI (payC pur pay ap p0 k r i).2)), (0, .ref f), (1, .int (nI p0)), (2, .int (nI rd))]) hx hb dX1_pay_127 hl (k := 1) rfl (nI_1 i) (by decide) rfl (fun ls hl => ?_)
          refine lv_goto (tgt := 48) hx hb dX1_pay_130 (by decide) ?_
          exact ih (i + 1) (by omega) H locs hO hT hBa hPu hLa hEm (by rw [eC]; exact hPy) hPi hRa hBb hBs hTr hS ls (by rw [eC]; exact lv_sub hl [0, 2, 3, 4, 5] rfl)
        · have h8 := of_decide_eq_false (b2i_0.mp h7)
          have eC : (payC pur pay ap p0 k r (i + 1)) = (va_up (payC pur pay ap p0 k r i).1 (payC pur pay ap p0 k r i).2 (pay i), (payC pur pay ap p0 k r i).2 + 1) := by rw [payC, if_neg h8]
          refine lv_aload_n hx hb dX1_pay_116 rfl (lv_at hl 3 rfl) ?_
          refine va_get (D := g.1) (ci := 1) (v := .ref (f + 6)) (C := RX1) (T := TX1) (N := 16) hx hb hts (by decide +kernel) hown hK.1 (xr_one hO) 0 rfl rfl 5 (by decide) (hts (.fieldLink RX1 29 "SharesDesk$Phase" "payers" "[I") (by decide +kernel)) (fun _ h9 => h9) rfl dX1_pay_117 ?_
          refine lv_iload_n hx hb dX1_pay_120 rfl (lv_at hl 2 rfl) ?_
          refine lv_iinc (v := nI ((payC pur pay ap p0 k r i).2 + 1)) (lv' := [(3, .int (nI ((payC pur pay ap p0 k r i).2 + 1))), (5, .int (nI (pay i))), (4, .int (nI i)), (0, .ref f), (1, .int (nI p0)), (2, .int (nI rd))]) hx hb dX1_pay_121 hl (k := 2) rfl (nI_1 _) (by decide) rfl (fun ls hl => ?_)
          refine lv_iload hx hb dX1_pay_124 (lv_at hl 1 rfl) ?_
          refine xr_wr hx hb hK hS (show f ≤ f + 6 ∧ f + 6 < f + 280 by omega) hPy (show (payC pur pay ap p0 k r i).2 < 48 by omega) (by decide) dX1_pay_126 (fun H locs hz hkp hPy hS => ?_)
          replace hO := hO.kept (hkp _ (by omega))
          replace hT := hT.kept (fun q hq1 hq2 hq3 => hkp q (by omega))
          replace hBa := hBa.kept (hkp _ (by omega)) (hkp _ (by omega))
          replace hPu := hPu.kept (hkp _ (by omega)) (fun v hv => hkp _ (by omega)) (fun v hv => hkp _ (by omega))
          replace hLa := hLa.kept (hkp _ (by omega)) (fun v hv => hkp _ (by omega)) (fun v hv => hkp _ (by omega))
          replace hEm := hEm.kept (hkp _ (by omega))
          replace hPi := hPi.kept (hkp _ (by omega))
          replace hRa := hRa.kept (hkp _ (by omega)) (fun v hv => hkp _ (by omega)) (fun v hv => hkp _ (by omega))
          replace hBb := hBb.kept (hkp _ (by omega)) (fun v hv => hkp _ (by omega)) (fun v hv => hkp _ (by omega))
          replace hBs := hBs.kept (fun q hq1 hq2 hq3 => hkp q (by omega))
          replace hTr := hTr.kept (fun q hq1 hq2 hq3 => hkp q (by omega))
          rw [ia_up] at hPy
          refine lv_iinc (v := nI (i + 1)) (lv' := [(4, .int (nI (i + 1))), (3, .int (nI ((payC pur pay ap p0 k r i).2 + 1))), (5, .int (nI (pay i))), (0, .ref f), (1, .int (nI p0)), (2, .int (nI rd))]) hx hb dX1_pay_127 hl (k := 2) rfl (nI_1 i) (by decide) rfl (fun ls hl => ?_)
          refine lv_goto (tgt := 48) hx hb dX1_pay_130 (by decide) ?_
          exact ih (i + 1) (by omega) H locs hO hT hBa hPu hLa hEm (by rw [eC]; exact hPy) hPi hRa hBb hBs hTr hS ls (by rw [eC]; exact lv_sub hl [0, 1, 3, 4, 5] rfl)
      refine lv_iload hx hb dX1_pay_48 (lv_at hl 0 rfl) ?_
      refine lv_aload_n hx hb dX1_pay_50 rfl (lv_at hl 2 rfl) ?_
      refine va_get (D := g.1) (ci := 1) (v := .int (nI pc)) (C := RX1) (T := TX1) (N := 16) hx hb hts (by decide +kernel) hown hK.1 (xr_one hO) 0 rfl rfl 6 (by decide) (hts (.fieldLink RX1 118 "SharesDesk$Phase" "payerCount" "I") (by decide +kernel)) (fun _ h9 => h9) rfl dX1_pay_51 ?_
      refine lv_icmp_ge (tgt := 133) hx hb dX1_pay_54 (by decide) (fun hc => ?_) (fun hc => ?_)
      · exact absurd ((nI_leI (by omega) (by omega)).mp hc) (by omega)
      · clear hc
        refine lv_aload_n hx hb dX1_pay_57 rfl (lv_at hl 2 rfl) ?_
        refine va_get (D := g.1) (ci := 1) (v := .ref (f + 6)) (C := RX1) (T := TX1) (N := 16) hx hb hts (by decide +kernel) hown hK.1 (xr_one hO) 0 rfl rfl 5 (by decide) (hts (.fieldLink RX1 29 "SharesDesk$Phase" "payers" "[I") (by decide +kernel)) (fun _ h9 => h9) rfl dX1_pay_58 ?_
        refine lv_iload hx hb dX1_pay_61 (lv_at hl 0 rfl) ?_
        refine xr_rd hx hb hK hPy (show i < 48 by omega) (by decide) dX1_pay_63 ?_
        refine xr_ti (x' := nI (pay i)) (by rw [payC_ge i i (Nat.le_refl i)]) ?_
        refine lv_istore (lv' := [(5, .int (nI (pay i))), (4, .int (nI i)), (3, .int (nI (payC pur pay ap p0 k r i).2)), (0, .ref f), (1, .int (nI p0)), (2, .int (nI rd))]) hx hb dX1_pay_64 hl (by decide) rfl (fun ls hl => ?_)
        refine lv_aload_n hx hb dX1_pay_66 rfl (lv_at hl 3 rfl) ?_
        refine va_get (D := g.1) (ci := 1) (v := .ref (f + 3)) (C := RX1) (T := TX1) (N := 16) hx hb hts (by decide +kernel) hown hK.1 (xr_one hO) 0 rfl rfl 2 (by decide) (hts (.fieldLink RX1 18 "SharesDesk$Phase" "purses" "[LSharesDesk$Natural;") (by decide +kernel)) (fun _ h9 => h9) rfl dX1_pay_67 ?_
        refine lv_iload hx hb dX1_pay_70 (lv_at hl 0 rfl) ?_
        refine xr_pl hx hb hK hPu hv (by decide) dX1_pay_72 ?_
        refine lv_aload_n hx hb dX1_pay_73 rfl (lv_at hl 3 rfl) ?_
        refine va_get (D := g.1) (ci := 1) (v := .ref bs) (C := RX1) (T := TX1) (N := 16) hx hb hts (by decide +kernel) hown hK.1 (xr_one hO) 0 rfl rfl 14 (by decide) (hts (.fieldLink RX1 44 "SharesDesk$Phase" "best" "LSharesDesk$Share;") (by decide +kernel)) (fun _ h9 => h9) rfl dX1_pay_74 ?_
        refine va_get (D := g.1) (ci := 3) (v := .int (nI k)) (C := RX3) (T := TX3) (N := 4) hx hb hts (by decide +kernel) hown hK.1 (xr_one hBs.1) 0 rfl rfl 1 (by decide) (hts (.fieldLink RX1 159 "SharesDesk$Share" "payers" "I") (by decide +kernel)) (fun _ h9 => h9) rfl dX1_pay_77 ?_
        have hNv := hPu.2 (pay i) hv
        rw [hcur] at hNv
        refine xr_Vv (rest := []) ⟨hx, hb, hml, hown, hts⟩ (KK_ok g) hK (c_X0_times l g H (f + 24 + 4 * pay i) (pur (pay i)) k hNv (by omega) hxk) (cwV 1 hts gX1_pay_X0_times rfl rfl rfl (by decide +kernel) ⟨Nat.le_of_ble_eq_true rfl, Nat.le_of_ble_eq_true rfl⟩) (xr_rec hK hNv.1 rfl) rfl hl.1 rfl (Nat.le_of_ble_eq_true rfl) dX1_pay_80 ⟨Nat.le_of_ble_eq_true rfl, Nat.le_of_ble_eq_true rfl⟩ hS (fun q h => by have h : q = f + 24 + 4 * pay i + 1 := h; show f ≤ q ∧ q < f + 280; omega) (fun _ H locs hq hz hkp hS => ?_)
        replace hkp := fun (q : Nat) h1 (h2 : ¬ (q = f + 24 + 4 * pay i + 1)) => hkp q h1 h2
        replace hO := hO.kept (hkp _ hO.lt (by omega))
        replace hT := hT.kept (fun q hq1 hq2 hq3 => hkp q hq1 (by omega))
        replace hBa := hBa.kept (hkp _ hBa.1.lt (by omega)) (hkp _ hBa.2.1.lt (by omega))
        replace hLa := hLa.kept (hkp _ hLa.1.lt (by omega)) (fun v hv => hkp _ (hLa.2 v hv).1.lt (by omega)) (fun v hv => hkp _ (hLa.2 v hv).2.1.lt (by omega))
        replace hEm := hEm.kept (hkp _ hEm.lt (by omega))
        replace hPy := hPy.kept (hkp _ hPy.lt (by omega))
        replace hPi := hPi.kept (hkp _ hPi.lt (by omega))
        replace hRa := hRa.kept (hkp _ hRa.1.lt (by omega)) (fun v hv => hkp _ (hRa.2 v hv).1.lt (by omega)) (fun v hv => hkp _ (hRa.2 v hv).2.1.lt (by omega))
        replace hBb := hBb.kept (hkp _ hBb.1.lt (by omega)) (fun v hv => hkp _ (hBb.2 v hv).1.lt (by omega)) (fun v hv => hkp _ (hBb.2 v hv).2.1.lt (by omega))
        replace hBs := hBs.kept (fun q hq1 hq2 hq3 => hkp q hq1 (by omega))
        replace hTr := hTr.kept (fun q hq1 hq2 hq3 => hkp q hq1 (by omega))
        replace hPu := hPu.put hq (hkp _ hPu.1.lt (by omega)) (fun u hu hne => hkp _ (hPu.2 u hu).1.lt (by omega)) (fun u hu hne => hkp _ (hPu.2 u hu).2.1.lt (by omega))
        refine lv_aload_n hx hb dX1_pay_83 rfl (lv_at hl 3 rfl) ?_
        refine va_get (D := g.1) (ci := 1) (v := .ref t) (C := RX1) (T := TX1) (N := 16) hx hb hts (by decide +kernel) hown hK.1 (xr_one hO) 0 rfl rfl 0 (by decide) (hts (.fieldLink RX1 51 "SharesDesk$Phase" "town" "LSharesDesk$Town;") (by decide +kernel)) (fun _ h9 => h9) rfl dX1_pay_84 ?_
        refine lv_iload hx hb dX1_pay_87 (lv_at hl 0 rfl) ?_
        refine lv_iload_n hx hb dX1_pay_89 rfl (lv_at hl 4 rfl) ?_
        refine xr_Vi (rest := []) ⟨hx, hb, hml, hown, hts⟩ (KK_ok g) hK (c_X5_approves l g H t c vs ap bu hT (pay i) p0 hv hp) (cwV 2 hts gX1_pay_X5_approves rfl rfl rfl (by decide +kernel) ⟨Nat.le_of_ble_eq_true rfl, Nat.le_of_ble_eq_true rfl⟩) (xr_rec hK hT.1 rfl) rfl hl.1 rfl (Nat.le_of_ble_eq_true rfl) dX1_pay_90 ⟨Nat.le_of_ble_eq_true rfl, Nat.le_of_ble_eq_true rfl⟩ hS (fun q h => h.elim) (fun r H locs hq hz hkp hS9 => ?_)
        obtain ⟨rfl, rfl⟩ := hq
        have hS := hS9
        refine lv_if_eq (tgt := 103) hx hb dX1_pay_93 (by decide) (fun hc => ?_) (fun hc => ?_)
        · have h8 : (ap (pay i)).testBit p0 = false := b2i_0.mp hc
          have eN : nPur ap p0 k r (pay i) (pur (pay i)) = pur (pay i) * k := by unfold nPur; rw [if_neg (by rw [h8]; decide)]
          exact tail H locs hO hT hBa (by rw [payP, eN]; exact hPu) (by rw [payL, if_neg (fun q => by rw [h8] at q; exact absurd q.1 (by decide))]; exact hLa) (by rw [payE, if_neg (fun q => by rw [h8] at q; exact absurd q.1 (by decide))]; exact hEm) hPy hPi hRa hBb hBs hTr hS ls (lv_sub hl [0, 1, 2, 3, 4, 5] rfl)
        · have h8 : (ap (pay i)).testBit p0 = true := b2i_n0.mp hc
          have eN : nPur ap p0 k r (pay i) (pur (pay i)) = pur (pay i) * k - r := by unfold nPur; rw [if_pos h8]
          refine lv_aload_n hx hb dX1_pay_96 rfl (lv_at hl 3 rfl) ?_
          refine lv_iload hx hb dX1_pay_97 (lv_at hl 0 rfl) ?_
          refine lv_iload_n hx hb dX1_pay_99 rfl (lv_at hl 5 rfl) ?_
          refine xr_Vv (rest := []) ⟨hx, hb, hml, hown, hts⟩ (KK_ok g) hK (c_X1_charge l g H t f pc pk ps co op bs tr hO (va_up (payP pur pay ap p0 k r i) (pay i) (pur (pay i) * k)) (payL pur las pay ap p0 k r i) (va_up rat rd r) (payE pur emp pay ap p0 k r rd i) hPu hLa hRa hEm (pay i) rd hv hrd) (cwV 2 hts gX1_pay_X1_charge rfl rfl rfl (by decide +kernel) ⟨Nat.le_of_ble_eq_true rfl, Nat.le_of_ble_eq_true rfl⟩) (xr_rec hK hO rfl) rfl hl.1 rfl (Nat.le_of_ble_eq_true rfl) dX1_pay_100 ⟨Nat.le_of_ble_eq_true rfl, Nat.le_of_ble_eq_true rfl⟩ hS (fun q h => by have h : q = f + 5 ∨ q = f + 24 + 4 * pay i + 1 ∨ q = f + 26 + 4 * pay i + 1 := h; show f ≤ q ∧ q < f + 280; omega) (fun _ H locs hq hz hkp hS => ?_)
          replace hkp := fun (q : Nat) h1 (h2 : ¬ (q = f + 5 ∨ q = f + 24 + 4 * pay i + 1 ∨ q = f + 26 + 4 * pay i + 1)) => hkp q h1 h2
          replace hO := hO.kept (hkp _ hO.lt (by omega))
          replace hT := hT.kept (fun q hq1 hq2 hq3 => hkp q hq1 (by omega))
          replace hBa := hBa.kept (hkp _ hBa.1.lt (by omega)) (hkp _ hBa.2.1.lt (by omega))
          replace hPy := hPy.kept (hkp _ hPy.lt (by omega))
          replace hPi := hPi.kept (hkp _ hPi.lt (by omega))
          replace hRa := hRa.kept (hkp _ hRa.1.lt (by omega)) (fun v hv => hkp _ (hRa.2 v hv).1.lt (by omega)) (fun v hv => hkp _ (hRa.2 v hv).2.1.lt (by omega))
          replace hBb := hBb.kept (hkp _ hBb.1.lt (by omega)) (fun v hv => hkp _ (hBb.2 v hv).1.lt (by omega)) (fun v hv => hkp _ (hBb.2 v hv).2.1.lt (by omega))
          replace hBs := hBs.kept (fun q hq1 hq2 hq3 => hkp q hq1 (by omega))
          replace hTr := hTr.kept (fun q hq1 hq2 hq3 => hkp q hq1 (by omega))
          obtain ⟨hPu, hLa, hEm⟩ := hq
          rw [va_up_self, va_up_self, bx_uu] at hPu
          rw [va_up_self, va_up_self] at hLa hEm
          exact tail H locs hO hT hBa (by rw [payP, eN]; exact hPu) (by rw [payL]; simp only [h8, true_and]; exact hLa) (by rw [payE]; simp only [h8, true_and]; exact hEm) hPy hPi hRa hBb hBs hTr hS ls (lv_sub hl [0, 1, 2, 3, 4, 5] rfl)
  refine lv_aload_n hx hb dX1_pay_0 rfl (lv_at hl 0 rfl) ?_
  refine va_get (D := g.1) (ci := 1) (v := .ref (f + 1)) (C := RX1) (T := TX1) (N := 16) hx hb hts (by decide +kernel) hown hK.1 (xr_one hO) 0 rfl rfl 1 (by decide) (hts (.fieldLink RX1 12 "SharesDesk$Phase" "base" "LSharesDesk$Natural;") (by decide +kernel)) (fun _ h9 => h9) rfl dX1_pay_1 ?_
  refine lv_aload_n hx hb dX1_pay_4 rfl (lv_at hl 0 rfl) ?_
  refine va_get (D := g.1) (ci := 1) (v := .ref bs) (C := RX1) (T := TX1) (N := 16) hx hb hts (by decide +kernel) hown hK.1 (xr_one hO) 0 rfl rfl 14 (by decide) (hts (.fieldLink RX1 44 "SharesDesk$Phase" "best" "LSharesDesk$Share;") (by decide +kernel)) (fun _ h9 => h9) rfl dX1_pay_5 ?_
  refine va_get (D := g.1) (ci := 3) (v := .int (nI k)) (C := RX3) (T := TX3) (N := 4) hx hb hts (by decide +kernel) hown hK.1 (xr_one hBs.1) 0 rfl rfl 1 (by decide) (hts (.fieldLink RX1 159 "SharesDesk$Share" "payers" "I") (by decide +kernel)) (fun _ h9 => h9) rfl dX1_pay_8 ?_
  refine xr_Vv (rest := []) ⟨hx, hb, hml, hown, hts⟩ (KK_ok g) hK (c_X0_times l g s.heap (f + 1) B k hBa (by omega) hBk) (cwV 1 hts gX1_pay_X0_times rfl rfl rfl (by decide +kernel) ⟨Nat.le_of_ble_eq_true rfl, Nat.le_of_ble_eq_true rfl⟩) (xr_rec hK hBa.1 rfl) rfl hl.1 rfl (Nat.le_of_ble_eq_true rfl) dX1_pay_11 ⟨Nat.le_of_ble_eq_true rfl, Nat.le_of_ble_eq_true rfl⟩ hS (fun q h => by have h : q = f + 1 + 1 := h; show f ≤ q ∧ q < f + 280; omega) (fun _ H locs hq hz hkp hS => ?_)
  replace hkp := fun (q : Nat) h1 (h2 : ¬ (q = f + 1 + 1)) => hkp q h1 h2
  replace hO := hO.kept (hkp _ hO.lt (by omega))
  replace hT := hT.kept (fun q hq1 hq2 hq3 => hkp q hq1 (by omega))
  replace hPu := hPu.kept (hkp _ hPu.1.lt (by omega)) (fun v hv => hkp _ (hPu.2 v hv).1.lt (by omega)) (fun v hv => hkp _ (hPu.2 v hv).2.1.lt (by omega))
  replace hLa := hLa.kept (hkp _ hLa.1.lt (by omega)) (fun v hv => hkp _ (hLa.2 v hv).1.lt (by omega)) (fun v hv => hkp _ (hLa.2 v hv).2.1.lt (by omega))
  replace hEm := hEm.kept (hkp _ hEm.lt (by omega))
  replace hPy := hPy.kept (hkp _ hPy.lt (by omega))
  replace hPi := hPi.kept (hkp _ hPi.lt (by omega))
  replace hRa := hRa.kept (hkp _ hRa.1.lt (by omega)) (fun v hv => hkp _ (hRa.2 v hv).1.lt (by omega)) (fun v hv => hkp _ (hRa.2 v hv).2.1.lt (by omega))
  replace hBb := hBb.kept (hkp _ hBb.1.lt (by omega)) (fun v hv => hkp _ (hBb.2 v hv).1.lt (by omega)) (fun v hv => hkp _ (hBb.2 v hv).2.1.lt (by omega))
  replace hBs := hBs.kept (fun q hq1 hq2 hq3 => hkp q hq1 (by omega))
  replace hTr := hTr.kept (fun q hq1 hq2 hq3 => hkp q hq1 (by omega))
  have hBa : NatAt g H (f + 1) (B * k) := hq
  refine lv_aload_n hx hb dX1_pay_14 rfl (lv_at hl 0 rfl) ?_
  refine va_get (D := g.1) (ci := 1) (v := .ref (f + 9)) (C := RX1) (T := TX1) (N := 16) hx hb hts (by decide +kernel) hown hK.1 (xr_one hO) 0 rfl rfl 12 (by decide) (hts (.fieldLink RX1 38 "SharesDesk$Phase" "bases" "[LSharesDesk$Natural;") (by decide +kernel)) (fun _ h9 => h9) rfl dX1_pay_15 ?_
  refine lv_iload_n hx hb dX1_pay_18 rfl (lv_at hl 2 rfl) ?_
  refine xr_pl hx hb hK hBb hrd (by decide) dX1_pay_19 ?_
  refine lv_aload_n hx hb dX1_pay_20 rfl (lv_at hl 0 rfl) ?_
  refine va_get (D := g.1) (ci := 1) (v := .ref (f + 1)) (C := RX1) (T := TX1) (N := 16) hx hb hts (by decide +kernel) hown hK.1 (xr_one hO) 0 rfl rfl 1 (by decide) (hts (.fieldLink RX1 12 "SharesDesk$Phase" "base" "LSharesDesk$Natural;") (by decide +kernel)) (fun _ h9 => h9) rfl dX1_pay_21 ?_
  refine xr_Vv (rest := []) ⟨hx, hb, hml, hown, hts⟩ (KK_ok g) hK (c_X0_copy l g H (f + 218 + 4 * rd) (f + 1) (bas rd) (B * k) (hBb.2 rd hrd) hBa (by omega)) (cwV 1 hts gX1_pay_X0_copy rfl rfl rfl (by decide +kernel) ⟨Nat.le_of_ble_eq_true rfl, Nat.le_of_ble_eq_true rfl⟩) (xr_rec hK (hBb.2 rd hrd).1 rfl) rfl hl.1 rfl (Nat.le_of_ble_eq_true rfl) dX1_pay_24 ⟨Nat.le_of_ble_eq_true rfl, Nat.le_of_ble_eq_true rfl⟩ hS (fun q h => by have h : q = f + 218 + 4 * rd + 1 := h; show f ≤ q ∧ q < f + 280; omega) (fun _ H locs hq hz hkp hS => ?_)
  replace hkp := fun (q : Nat) h1 (h2 : ¬ (q = f + 218 + 4 * rd + 1)) => hkp q h1 h2
  replace hO := hO.kept (hkp _ hO.lt (by omega))
  replace hT := hT.kept (fun q hq1 hq2 hq3 => hkp q hq1 (by omega))
  replace hPu := hPu.kept (hkp _ hPu.1.lt (by omega)) (fun v hv => hkp _ (hPu.2 v hv).1.lt (by omega)) (fun v hv => hkp _ (hPu.2 v hv).2.1.lt (by omega))
  replace hLa := hLa.kept (hkp _ hLa.1.lt (by omega)) (fun v hv => hkp _ (hLa.2 v hv).1.lt (by omega)) (fun v hv => hkp _ (hLa.2 v hv).2.1.lt (by omega))
  replace hEm := hEm.kept (hkp _ hEm.lt (by omega))
  replace hPy := hPy.kept (hkp _ hPy.lt (by omega))
  replace hPi := hPi.kept (hkp _ hPi.lt (by omega))
  replace hRa := hRa.kept (hkp _ hRa.1.lt (by omega)) (fun v hv => hkp _ (hRa.2 v hv).1.lt (by omega)) (fun v hv => hkp _ (hRa.2 v hv).2.1.lt (by omega))
  replace hBs := hBs.kept (fun q hq1 hq2 hq3 => hkp q hq1 (by omega))
  replace hTr := hTr.kept (fun q hq1 hq2 hq3 => hkp q hq1 (by omega))
  replace hBa := hBa.kept (hkp _ hBa.1.lt (by omega)) (hkp _ hBa.2.1.lt (by omega))
  replace hBb := hBb.put hq (hkp _ hBb.1.lt (by omega)) (fun u hu hne => hkp _ (hBb.2 u hu).1.lt (by omega)) (fun u hu hne => hkp _ (hBb.2 u hu).2.1.lt (by omega))
  refine lv_aload_n hx hb dX1_pay_27 rfl (lv_at hl 0 rfl) ?_
  refine va_get (D := g.1) (ci := 1) (v := .ref (f + 8)) (C := RX1) (T := TX1) (N := 16) hx hb hts (by decide +kernel) hown hK.1 (xr_one hO) 0 rfl rfl 11 (by decide) (hts (.fieldLink RX1 35 "SharesDesk$Phase" "rates" "[LSharesDesk$Natural;") (by decide +kernel)) (fun _ h9 => h9) rfl dX1_pay_28 ?_
  refine lv_iload_n hx hb dX1_pay_31 rfl (lv_at hl 2 rfl) ?_
  refine xr_pl hx hb hK hRa hrd (by decide) dX1_pay_32 ?_
  refine lv_aload_n hx hb dX1_pay_33 rfl (lv_at hl 0 rfl) ?_
  refine va_get (D := g.1) (ci := 1) (v := .ref bs) (C := RX1) (T := TX1) (N := 16) hx hb hts (by decide +kernel) hown hK.1 (xr_one hO) 0 rfl rfl 14 (by decide) (hts (.fieldLink RX1 44 "SharesDesk$Phase" "best" "LSharesDesk$Share;") (by decide +kernel)) (fun _ h9 => h9) rfl dX1_pay_34 ?_
  refine va_get (D := g.1) (ci := 3) (v := .ref (bs + 1)) (C := RX3) (T := TX3) (N := 4) hx hb hts (by decide +kernel) hown hK.1 (xr_one hBs.1) 0 rfl rfl 0 (by decide) (hts (.fieldLink RX1 153 "SharesDesk$Share" "rest" "LSharesDesk$Natural;") (by decide +kernel)) (fun _ h9 => h9) rfl dX1_pay_37 ?_
  refine xr_Vv (rest := []) ⟨hx, hb, hml, hown, hts⟩ (KK_ok g) hK (c_X0_copy l g H (f + 216 + 4 * rd) (bs + 1) (rat rd) r (hRa.2 rd hrd) hBs.2.1 (by omega)) (cwV 1 hts gX1_pay_X0_copy rfl rfl rfl (by decide +kernel) ⟨Nat.le_of_ble_eq_true rfl, Nat.le_of_ble_eq_true rfl⟩) (xr_rec hK (hRa.2 rd hrd).1 rfl) rfl hl.1 rfl (Nat.le_of_ble_eq_true rfl) dX1_pay_40 ⟨Nat.le_of_ble_eq_true rfl, Nat.le_of_ble_eq_true rfl⟩ hS (fun q h => by have h : q = f + 216 + 4 * rd + 1 := h; show f ≤ q ∧ q < f + 280; omega) (fun _ H locs hq hz hkp hS => ?_)
  replace hkp := fun (q : Nat) h1 (h2 : ¬ (q = f + 216 + 4 * rd + 1)) => hkp q h1 h2
  replace hO := hO.kept (hkp _ hO.lt (by omega))
  replace hT := hT.kept (fun q hq1 hq2 hq3 => hkp q hq1 (by omega))
  replace hPu := hPu.kept (hkp _ hPu.1.lt (by omega)) (fun v hv => hkp _ (hPu.2 v hv).1.lt (by omega)) (fun v hv => hkp _ (hPu.2 v hv).2.1.lt (by omega))
  replace hLa := hLa.kept (hkp _ hLa.1.lt (by omega)) (fun v hv => hkp _ (hLa.2 v hv).1.lt (by omega)) (fun v hv => hkp _ (hLa.2 v hv).2.1.lt (by omega))
  replace hEm := hEm.kept (hkp _ hEm.lt (by omega))
  replace hPy := hPy.kept (hkp _ hPy.lt (by omega))
  replace hPi := hPi.kept (hkp _ hPi.lt (by omega))
  replace hBs := hBs.kept (fun q hq1 hq2 hq3 => hkp q hq1 (by omega))
  replace hTr := hTr.kept (fun q hq1 hq2 hq3 => hkp q hq1 (by omega))
  replace hBa := hBa.kept (hkp _ hBa.1.lt (by omega)) (hkp _ hBa.2.1.lt (by omega))
  replace hBb := hBb.kept (hkp _ hBb.1.lt (by omega)) (fun v hv => hkp _ (hBb.2 v hv).1.lt (by omega)) (fun v hv => hkp _ (hBb.2 v hv).2.1.lt (by omega))
  replace hRa := hRa.put hq (hkp _ hRa.1.lt (by omega)) (fun u hu hne => hkp _ (hRa.2 u hu).1.lt (by omega)) (fun u hu hne => hkp _ (hRa.2 u hu).2.1.lt (by omega))
  refine lv_iconst (v := 0) hx hb dX1_pay_43 (by decide) ?_
  refine xr_ti (x' := nI (payC pur pay ap p0 k r 0).2) rfl ?_
  refine lv_istore_n (lv' := [(3, .int (nI (payC pur pay ap p0 k r 0).2)), (0, .ref f), (1, .int (nI p0)), (2, .int (nI rd))]) hx hb dX1_pay_44 rfl hl (by decide) rfl (fun ls hl => ?_)
  refine lv_iconst (v := 0) hx hb dX1_pay_45 (by decide) ?_
  refine xr_ti (x' := nI 0) rfl ?_
  refine lv_istore (lv' := [(4, .int (nI 0)), (3, .int (nI (payC pur pay ap p0 k r 0).2)), (0, .ref f), (1, .int (nI p0)), (2, .int (nI rd))]) hx hb dX1_pay_46 hl (by decide) rfl (fun ls hl => ?_)
  exact loop pc 0 (by omega) H locs hO hT hBa hPu hLa hEm hPy hPi hRa hBb hBs hTr hS ls (lv_sub hl [0, 1, 2, 3, 4] rfl)
end
section
/-! sorting the payers -/
def PermI (a b : Nat → Nat) (n : Nat) : Prop := (∀ x, x < n → ∃ y, y < n ∧ a x = b y) ∧ (∀ y, y < n → ∃ x, x < n ∧ a x = b y) ∧ ∀ x y, x < n → y < n → a x = a y → x = y
def SortI (pur a : Nat → Nat) (i n : Nat) : Prop := ∀ x y, x < y → y < i → y < n → pur (a x) ≤ pur (a y)
def shf (a : Nat → Nat) (q i j : Nat) : Nat := if q < j ∧ j ≤ i then a (j - 1) else a j
def ins (a : Nat → Nat) (q i j : Nat) : Nat := if j = q then a i else if q < j ∧ j ≤ i then a (j - 1) else a j
theorem shf_self (a : Nat → Nat) (i : Nat) : shf a i i = a := by
  funext j
  unfold shf
  rw [if_neg (by omega)]
theorem shf_step {a : Nat → Nat} {q i : Nat} (h : q < i) : va_up (shf a (q + 1) i) (q + 1) (a q) = shf a q i := by
  funext j
  unfold shf
  by_cases e : j = q + 1
  · subst e
    rw [va_up_self, if_pos (by omega)]
    rfl
  · rw [va_up_ne _ _ e]
    by_cases h1 : q + 1 < j ∧ j ≤ i
    · rw [if_pos h1, if_pos (by omega)]
    · rw [if_neg h1, if_neg (by omega)]
theorem ins_step {a : Nat → Nat} {q i : Nat} : va_up (shf a q i) q (a i) = ins a q i := by
  funext j
  unfold ins
  by_cases e : j = q
  · subst e
    rw [va_up_self, if_pos rfl]
  · rw [va_up_ne _ _ e, if_neg e]
    rfl
def insS (q i j : Nat) : Nat := if j = q then i else if q < j ∧ j ≤ i then j - 1 else j
def insT (q i j : Nat) : Nat := if j = i then q else if q ≤ j ∧ j < i then j + 1 else j
theorem ins_S {a : Nat → Nat} {q i j : Nat} : ins a q i j = a (insS q i j) := by
  unfold ins insS
  split
  · rfl
  · split <;> rfl
theorem PermI.insd {a b : Nat → Nat} {n q i : Nat} (h : PermI a b n) (hq : q ≤ i) (hi : i < n) : PermI (ins a q i) b n := by
  have hS : ∀ j, j < n → insS q i j < n := fun j hj => by unfold insS; split <;> (try split) <;> omega
  have hT : ∀ j, j < n → insT q i j < n ∧ insS q i (insT q i j) = j := fun j hj => by
    unfold insT insS
    split <;> (try split) <;> (try split) <;> (try split) <;> omega
  refine ⟨fun x hx => ?_, fun y hy => ?_, fun x y hx hy e => ?_⟩
  · rw [ins_S]
    exact h.1 _ (hS x hx)
  · obtain ⟨x, hx, e⟩ := h.2.1 y hy
    exact ⟨insT q i x, (hT x hx).1, by rw [ins_S, (hT x hx).2]; exact e⟩
  · rw [ins_S, ins_S] at e
    have := h.2.2 _ _ (hS x hx) (hS y hy) e
    unfold insS at this
    split at this <;> split at this <;> (try split at this) <;> (try split at this) <;> omega
theorem SortI.insd {pur a : Nat → Nat} {n q i : Nat} (h : SortI pur a i n) (hq : q ≤ i) (hi : i < n) (h1 : ∀ j, q ≤ j → j < i → pur (a i) < pur (a j)) (h2 : ∀ j, j < q → pur (a j) ≤ pur (a i)) : SortI pur (ins a q i) (i + 1) n := by
  intro x y hxy hyi hyn
  unfold ins
  by_cases ex : x = q
  · rw [if_pos ex, if_neg (by omega), if_pos (by omega)]
    exact Nat.le_of_lt (h1 _ (by omega) (by omega))
  · rw [if_neg ex]
    by_cases ey : y = q
    · rw [if_pos ey, if_neg (by omega)]
      exact h2 x (by omega)
    · rw [if_neg ey]
      by_cases hx : q < x ∧ x ≤ i
      · rw [if_pos hx, if_pos (by omega)]
        exact h _ _ (by omega) (by omega) (by omega)
      · rw [if_neg hx]
        by_cases hy : q < y ∧ y ≤ i
        · rw [if_pos hy]
          by_cases hh : x = y - 1
          · rw [hh]
            exact Nat.le_refl _
          · exact h _ _ (by omega) (by omega) (by omega)
        · rw [if_neg hy]
          exact h _ _ hxy (by omega) (by omega)
theorem PermI.refl {b : Nat → Nat} {n : Nat} (h : ∀ x y, x < n → y < n → b x = b y → x = y) : PermI b b n := ⟨fun x hx => ⟨x, hx, rfl⟩, fun y hy => ⟨y, hy, rfl⟩, h⟩
set_option maxHeartbeats 1000000 in
set_option maxRecDepth 100000 in
theorem c_X1_sortPayers (l : Launch) (g : WG) (H0 : Heap) (t : Nat) (f pc pk ps co op bs tr : Nat) (hO : obj g H0 f 1 (phF f t pc pk ps co op bs tr)) (pay : Nat → Nat) (hpc : pc ≤ 48) (hpay : ∀ i, i < pc → pay i < 48) (hPy : xr_ia H0 (f + 6) (gI g) 48 (fun z9 => nI (pay z9))) (hinj : ∀ x y, x < pc → y < pc → pay x = pay y → x = y) (pur : Nat → Nat) (hPu : PoolAt g H0 (f + 3) (f + 24) 48 pur) : Ctr l (KK g) yX1_sortPayers wsX1_sortPayers { frames := 1, cells := 0, slots := 0, locals := 22 } [.ref f] H0 eV (fun _ H => ∃ pay2 : Nat → Nat, PermI pay2 pay pc ∧ SortI pur pay2 pc pc ∧ xr_ia H (f + 6) (gI g) 48 (fun z9 => nI (pay2 z9))) (fun q => q = f + 6) := by
  refine xr_enter (cc := cX1_sortPayers) (maxL := 4) (ret := none) (by decide) rfl (Nat.le_of_ble_eq_true rfl) ?_
  intro pgm env s mid below meth cde hx hb hr hml hts hown hlocks hnm hH hK ls hl
  subst hH
  have hl : lv_has ls 4 [(0, .ref f)] := hl
  have hS : va_S (fun q => q = f + 6) s.heap s.heap [] := va_S.rf
  have loop : ∀ (n i : Nat), pc ≤ i + n → 1 ≤ i → i ≤ 48 → ∀ (a : Nat → Nat), PermI a pay pc → SortI pur a i pc → ∀ (H : Heap) (locs : List Loc), xr_ia H (f + 6) (gI g) 48 (fun z9 => nI (a z9)) → obj g H f 1 (phF f t pc pk ps co op bs tr) → PoolAt g H (f + 3) (f + 24) 48 pur → va_S (fun q => q = f + 6) s.heap H locs → ∀ ls : Array Slot, lv_has ls 4 [(1, .int (nI i)), (0, .ref f)] → W pgm l env { frames := 1, cells := 0, slots := 0, locals := 22 } s mid ([.ref f] : List Value).toArray below meth cde H locs 0 0 (MQ below (xr_Post eV (fun _ H => ∃ pay2 : Nat → Nat, PermI pay2 pay pc ∧ SortI pur pay2 pc pc ∧ xr_ia H (f + 6) (gI g) 48 (fun z9 => nI (pay2 z9))) (fun q => q = f + 6)) ([.ref f] : List Value).toArray s ({ frames := 1, cells := 0, slots := 0, locals := 22 } : Room).cells ({ frames := 1, cells := 0, slots := 0, locals := 22 } : Room).slots (fun q => q = f + 6)) (F0 mid 2 ls []) := by
    intro n
    induction n with
    | zero =>
      intro i h1 hi1 hi48 a hp hs H locs hPy hO hPu hS ls hl
      refine lv_iload_n hx hb dX1_sortPayers_2 rfl (lv_at hl 0 rfl) ?_
      refine lv_aload_n hx hb dX1_sortPayers_3 rfl (lv_at hl 1 rfl) ?_
      refine va_get (D := g.1) (ci := 1) (v := .int (nI pc)) (C := RX1) (T := TX1) (N := 16) hx hb hts (by decide +kernel) hown hK.1 (xr_one hO) 0 rfl rfl 6 (by decide) (hts (.fieldLink RX1 118 "SharesDesk$Phase" "payerCount" "I") (by decide +kernel)) (fun _ h9 => h9) rfl dX1_sortPayers_4 ?_
      refine lv_icmp_ge (tgt := 81) hx hb dX1_sortPayers_7 (by decide) (fun hc => ?_) (fun hc => ?_)
      · clear hc
        exact xr_vret hx hb hr hlocks hS ⟨a, hp, fun x y h2 h3 h4 => hs x y h2 (by omega) h4, hPy⟩ dX1_sortPayers_81
      · exact absurd (nI_le (show pc ≤ i by omega) (by omega)) hc
    | succ n ih =>
      intro i h1 hi1 hi48 a hp hs H locs hPy hO hPu hS ls hl
      refine lv_iload_n hx hb dX1_sortPayers_2 rfl (lv_at hl 0 rfl) ?_
      refine lv_aload_n hx hb dX1_sortPayers_3 rfl (lv_at hl 1 rfl) ?_
      refine va_get (D := g.1) (ci := 1) (v := .int (nI pc)) (C := RX1) (T := TX1) (N := 16) hx hb hts (by decide +kernel) hown hK.1 (xr_one hO) 0 rfl rfl 6 (by decide) (hts (.fieldLink RX1 118 "SharesDesk$Phase" "payerCount" "I") (by decide +kernel)) (fun _ h9 => h9) rfl dX1_sortPayers_4 ?_
      refine lv_icmp_ge (tgt := 81) hx hb dX1_sortPayers_7 (by decide) (fun hc => ?_) (fun hc => ?_)
      · have hc := (nI_leI (by omega) (by omega)).mp hc
        exact xr_vret hx hb hr hlocks hS ⟨a, hp, fun x y h2 h3 h4 => hs x y h2 (by omega) h4, hPy⟩ dX1_sortPayers_81
      · have hip : i < pc := Nat.lt_of_not_le fun h => hc (nI_le h (by omega))
        have hab : ∀ x, x < pc → a x < 48 := fun x hx => by obtain ⟨y, hy, e⟩ := hp.1 x hx; rw [e]; exact hpay y hy
        have inner : ∀ q : Nat, q ≤ i → (∀ j, q ≤ j → j < i → pur (a i) < pur (a j)) → ∀ (H : Heap) (locs : List Loc), xr_ia H (f + 6) (gI g) 48 (fun z9 => nI (shf a q i z9)) → obj g H f 1 (phF f t pc pk ps co op bs tr) → PoolAt g H (f + 3) (f + 24) 48 pur → va_S (fun q => q = f + 6) s.heap H locs → ∀ ls : Array Slot, lv_has ls 4 [(3, .int (nI q)), (2, .int (nI (a i))), (1, .int (nI i)), (0, .ref f)] → W pgm l env { frames := 1, cells := 0, slots := 0, locals := 22 } s mid ([.ref f] : List Value).toArray below meth cde H locs 0 0 (MQ below (xr_Post eV (fun _ H => ∃ pay2 : Nat → Nat, PermI pay2 pay pc ∧ SortI pur pay2 pc pc ∧ xr_ia H (f + 6) (gI g) 48 (fun z9 => nI (pay2 z9))) (fun q => q = f + 6)) ([.ref f] : List Value).toArray s ({ frames := 1, cells := 0, slots := 0, locals := 22 } : Room).cells ({ frames := 1, cells := 0, slots := 0, locals := 22 } : Room).slots (fun q => q = f + 6)) (F0 mid 19 ls []) := by
          intro q
          induction q with
          | zero =>
            intro hqi hgt H locs hPy hO hPu hS ls hl
            refine lv_iload_n hx hb dX1_sortPayers_19 rfl (lv_at hl 0 rfl) ?_
            refine lv_if_le (tgt := 68) hx hb dX1_sortPayers_20 (by decide) (fun hc => ?_) (fun hc => ?_)
            · clear hc
              refine lv_aload_n hx hb dX1_sortPayers_68 rfl (lv_at hl 3 rfl) ?_
              refine va_get (D := g.1) (ci := 1) (v := .ref (f + 6)) (C := RX1) (T := TX1) (N := 16) hx hb hts (by decide +kernel) hown hK.1 (xr_one hO) 0 rfl rfl 5 (by decide) (hts (.fieldLink RX1 29 "SharesDesk$Phase" "payers" "[I") (by decide +kernel)) (fun _ h9 => h9) rfl dX1_sortPayers_69 ?_
              refine lv_iload_n hx hb dX1_sortPayers_72 rfl (lv_at hl 0 rfl) ?_
              refine lv_iload_n hx hb dX1_sortPayers_73 rfl (lv_at hl 1 rfl) ?_
              refine xr_wr hx hb hK hS rfl hPy (show 0 < 48 by omega) (by decide) dX1_sortPayers_74 (fun H locs hz hkp hPy hS => ?_)
              replace hO := hO.kept (hkp _ (by omega))
              replace hPu := hPu.kept (hkp _ (by omega)) (fun v hv => hkp _ (by omega)) (fun v hv => hkp _ (by omega))
              rw [ia_up, ins_step] at hPy
              refine lv_iinc (v := nI (i + 1)) (lv' := [(1, .int (nI (i + 1))), (3, .int (nI 0)), (2, .int (nI (a i))), (0, .ref f)]) hx hb dX1_sortPayers_75 hl (k := 2) rfl (nI_1 i) (by decide) rfl (fun ls hl => ?_)
              refine lv_goto (tgt := 2) hx hb dX1_sortPayers_78 (by decide) ?_
              exact ih (i + 1) (by omega) (by omega) (by omega) (ins a 0 i) (hp.insd hqi hip) (hs.insd hqi hip hgt (fun j hj => absurd hj (Nat.not_lt_zero j))) H locs hPy hO hPu hS ls (lv_sub hl [0, 3] rfl)
            · exact absurd (by decide) hc
          | succ q ihq =>
            intro hqi hgt H locs hPy hO hPu hS ls hl
            have hq48 := hab q (by omega)
            have hi48v := hab i hip
            refine lv_iload_n hx hb dX1_sortPayers_19 rfl (lv_at hl 0 rfl) ?_
            refine lv_if_le (tgt := 68) hx hb dX1_sortPayers_20 (by decide) (fun hc => ?_) (fun hc => ?_)
            · exact absurd hc (nI_nle (by omega) (by omega))
            · clear hc
              refine lv_aload_n hx hb dX1_sortPayers_23 rfl (lv_at hl 3 rfl) ?_
              refine va_get (D := g.1) (ci := 1) (v := .ref (f + 3)) (C := RX1) (T := TX1) (N := 16) hx hb hts (by decide +kernel) hown hK.1 (xr_one hO) 0 rfl rfl 2 (by decide) (hts (.fieldLink RX1 18 "SharesDesk$Phase" "purses" "[LSharesDesk$Natural;") (by decide +kernel)) (fun _ h9 => h9) rfl dX1_sortPayers_24 ?_
              refine lv_aload_n hx hb dX1_sortPayers_27 rfl (lv_at hl 3 rfl) ?_
              refine va_get (D := g.1) (ci := 1) (v := .ref (f + 6)) (C := RX1) (T := TX1) (N := 16) hx hb hts (by decide +kernel) hown hK.1 (xr_one hO) 0 rfl rfl 5 (by decide) (hts (.fieldLink RX1 29 "SharesDesk$Phase" "payers" "[I") (by decide +kernel)) (fun _ h9 => h9) rfl dX1_sortPayers_28 ?_
              refine lv_iload_n hx hb dX1_sortPayers_31 rfl (lv_at hl 0 rfl) ?_
              refine lv_iconst (v := 1) hx hb dX1_sortPayers_32 (by decide) ?_
              refine lv_isub hx hb dX1_sortPayers_33 ?_
              refine xr_ti (x' := nI q) (nI_pred q) ?_
              refine xr_rd hx hb hK hPy (show q < 48 by omega) (by decide) dX1_sortPayers_34 ?_
              refine xr_ti (x' := nI (a q)) (by unfold shf; rw [if_neg (by omega)]) ?_
              refine xr_pl hx hb hK hPu hq48 (by decide) dX1_sortPayers_35 ?_
              refine lv_aload_n hx hb dX1_sortPayers_36 rfl (lv_at hl 3 rfl) ?_
              refine va_get (D := g.1) (ci := 1) (v := .ref (f + 3)) (C := RX1) (T := TX1) (N := 16) hx hb hts (by decide +kernel) hown hK.1 (xr_one hO) 0 rfl rfl 2 (by decide) (hts (.fieldLink RX1 18 "SharesDesk$Phase" "purses" "[LSharesDesk$Natural;") (by decide +kernel)) (fun _ h9 => h9) rfl dX1_sortPayers_37 ?_
              refine lv_iload_n hx hb dX1_sortPayers_40 rfl (lv_at hl 1 rfl) ?_
              refine xr_pl hx hb hK hPu hi48v (by decide) dX1_sortPayers_41 ?_
              refine xr_Vi (rest := []) ⟨hx, hb, hml, hown, hts⟩ (KK_ok g) hK (c_X0_against l g H (f + 24 + 4 * a q) (f + 24 + 4 * a i) (pur (a q)) (pur (a i)) (hPu.2 _ hq48) (hPu.2 _ hi48v)) (cwV 1 hts gX1_sortPayers_X0_against rfl rfl rfl (by decide +kernel) ⟨Nat.le_of_ble_eq_true rfl, Nat.le_of_ble_eq_true rfl⟩) (xr_rec hK (hPu.2 _ hq48).1 rfl) rfl hl.1 rfl (Nat.le_of_ble_eq_true rfl) dX1_sortPayers_42 ⟨Nat.le_of_ble_eq_true rfl, Nat.le_of_ble_eq_true rfl⟩ hS (fun q h => h.elim) (fun r H locs hq hz hkp hS9 => ?_)
              obtain ⟨rfl, rfl⟩ := hq
              have hS := hS9
              refine lv_if_le (tgt := 68) hx hb dX1_sortPayers_45 (by decide) (fun h7 => ?_) (fun h7 => ?_)
              · have h8 := cmpI_le0 h7
                refine lv_aload_n hx hb dX1_sortPayers_68 rfl (lv_at hl 3 rfl) ?_
                refine va_get (D := g.1) (ci := 1) (v := .ref (f + 6)) (C := RX1) (T := TX1) (N := 16) hx hb hts (by decide +kernel) hown hK.1 (xr_one hO) 0 rfl rfl 5 (by decide) (hts (.fieldLink RX1 29 "SharesDesk$Phase" "payers" "[I") (by decide +kernel)) (fun _ h9 => h9) rfl dX1_sortPayers_69 ?_
                refine lv_iload_n hx hb dX1_sortPayers_72 rfl (lv_at hl 0 rfl) ?_
                refine lv_iload_n hx hb dX1_sortPayers_73 rfl (lv_at hl 1 rfl) ?_
                refine xr_wr hx hb hK hS rfl hPy (show q + 1 < 48 by omega) (by decide) dX1_sortPayers_74 (fun H locs hz hkp hPy hS => ?_)
                replace hO := hO.kept (hkp _ (by omega))
                replace hPu := hPu.kept (hkp _ (by omega)) (fun v hv => hkp _ (by omega)) (fun v hv => hkp _ (by omega))
                rw [ia_up, ins_step] at hPy
                refine lv_iinc (v := nI (i + 1)) (lv' := [(1, .int (nI (i + 1))), (3, .int (nI (q + 1))), (2, .int (nI (a i))), (0, .ref f)]) hx hb dX1_sortPayers_75 hl (k := 2) rfl (nI_1 i) (by decide) rfl (fun ls hl => ?_)
                refine lv_goto (tgt := 2) hx hb dX1_sortPayers_78 (by decide) ?_
                exact ih (i + 1) (by omega) (by omega) (by omega) (ins a (q + 1) i) (hp.insd hqi hip) (hs.insd hqi hip hgt (fun j hj => if e : j = q then by rw [e]; exact h8 else Nat.le_trans (hs j q (by omega) (by omega) (by omega)) h8)) H locs hPy hO hPu hS ls (lv_sub hl [0, 3] rfl)
              · have h8 : pur (a i) < pur (a q) := Nat.lt_of_not_le fun q2 => h7 (cmpI_0le q2)
                refine lv_aload_n hx hb dX1_sortPayers_48 rfl (lv_at hl 3 rfl) ?_
                refine va_get (D := g.1) (ci := 1) (v := .ref (f + 6)) (C := RX1) (T := TX1) (N := 16) hx hb hts (by decide +kernel) hown hK.1 (xr_one hO) 0 rfl rfl 5 (by decide) (hts (.fieldLink RX1 29 "SharesDesk$Phase" "payers" "[I") (by decide +kernel)) (fun _ h9 => h9) rfl dX1_sortPayers_49 ?_
                refine lv_iload_n hx hb dX1_sortPayers_52 rfl (lv_at hl 0 rfl) ?_
                refine lv_aload_n hx hb dX1_sortPayers_53 rfl (lv_at hl 3 rfl) ?_
                refine va_get (D := g.1) (ci := 1) (v := .ref (f + 6)) (C := RX1) (T := TX1) (N := 16) hx hb hts (by decide +kernel) hown hK.1 (xr_one hO) 0 rfl rfl 5 (by decide) (hts (.fieldLink RX1 29 "SharesDesk$Phase" "payers" "[I") (by decide +kernel)) (fun _ h9 => h9) rfl dX1_sortPayers_54 ?_
                refine lv_iload_n hx hb dX1_sortPayers_57 rfl (lv_at hl 0 rfl) ?_
                refine lv_iconst (v := 1) hx hb dX1_sortPayers_58 (by decide) ?_
                refine lv_isub hx hb dX1_sortPayers_59 ?_
                refine xr_ti (x' := nI q) (nI_pred q) ?_
                refine xr_rd hx hb hK hPy (show q < 48 by omega) (by decide) dX1_sortPayers_60 ?_
                refine xr_ti (x' := nI (a q)) (by unfold shf; rw [if_neg (by omega)]) ?_
                refine xr_wr hx hb hK hS rfl hPy (show q + 1 < 48 by omega) (by decide) dX1_sortPayers_61 (fun H locs hz hkp hPy hS => ?_)
                replace hO := hO.kept (hkp _ (by omega))
                replace hPu := hPu.kept (hkp _ (by omega)) (fun v hv => hkp _ (by omega)) (fun v hv => hkp _ (by omega))
                rw [ia_up, shf_step (by omega)] at hPy
                refine lv_iinc (v := nI q) (lv' := [(3, .int (nI q)), (2, .int (nI (a i))), (1, .int (nI i)), (0, .ref f)]) hx hb dX1_sortPayers_62 hl (k := 0) rfl (pk_m1 q) (by decide) rfl (fun ls hl => ?_)
                refine lv_goto (tgt := 19) hx hb dX1_sortPayers_65 (by decide) ?_
                exact ihq (by omega) (fun j hj1 hj2 => if e : j = q then by rw [e]; exact h8 else hgt j (by omega) hj2) H locs hPy hO hPu hS ls (lv_sub hl [0, 1, 2, 3] rfl)
        refine lv_aload_n hx hb dX1_sortPayers_10 rfl (lv_at hl 1 rfl) ?_
        refine va_get (D := g.1) (ci := 1) (v := .ref (f + 6)) (C := RX1) (T := TX1) (N := 16) hx hb hts (by decide +kernel) hown hK.1 (xr_one hO) 0 rfl rfl 5 (by decide) (hts (.fieldLink RX1 29 "SharesDesk$Phase" "payers" "[I") (by decide +kernel)) (fun _ h9 => h9) rfl dX1_sortPayers_11 ?_
        refine lv_iload_n hx hb dX1_sortPayers_14 rfl (lv_at hl 0 rfl) ?_
        refine xr_rd hx hb hK hPy (show i < 48 by omega) (by decide) dX1_sortPayers_15 ?_
        refine lv_istore_n (lv' := [(2, .int (nI (a i))), (1, .int (nI i)), (0, .ref f)]) hx hb dX1_sortPayers_16 rfl hl (by decide) rfl (fun ls hl => ?_)
        refine lv_iload_n hx hb dX1_sortPayers_17 rfl (lv_at hl 1 rfl) ?_
        refine lv_istore_n (lv' := [(3, .int (nI i)), (2, .int (nI (a i))), (1, .int (nI i)), (0, .ref f)]) hx hb dX1_sortPayers_18 rfl hl (by decide) rfl (fun ls hl => ?_)
        exact inner i (Nat.le_refl i) (fun j hj1 hj2 => absurd hj2 (by omega)) H locs (by rw [shf_self]; exact hPy) hO hPu hS ls (lv_sub hl [0, 1, 2, 3] rfl)
  refine lv_iconst (v := 1) hx hb dX1_sortPayers_0 (by decide) ?_
  refine xr_ti (x' := nI 1) rfl ?_
  refine lv_istore_n (lv' := [(1, .int (nI 1)), (0, .ref f)]) hx hb dX1_sortPayers_1 rfl hl (by decide) rfl (fun ls hl => ?_)
  exact loop pc 1 (by omega) (by omega) (by omega) pay (PermI.refl hinj) (fun x y h1 h2 h3 => absurd h1 (by omega)) s.heap [] hPy hO hPu hS ls (lv_sub hl [0, 1] rfl)
end
section
/-! what a voter paid; what is missing -/
def payV (f : Nat) (emp ap pik : Nat → Nat) (v r : Nat) : Value := if emp v < r ∨ (ap v).testBit (pik r) = false then .null else if r = emp v then .ref (f + 26 + 4 * v) else .ref (f + 216 + 4 * r)
set_option maxHeartbeats 400000 in
set_option maxRecDepth 100000 in
theorem c_X1_payment_n (l : Launch) (g : WG) (H0 : Heap) (f v : Nat) : Ctr l (KK g) yX1_payment wsX1_payment { frames := 1, cells := 0, slots := 0, locals := 22 } [.ref f, .int (nI v), .int (-1)] H0 eR (fun z H => z = .null ∧ H = H0) (fun _ => False) := by
  refine xr_enter (cc := cX1_payment) (maxL := 3) (ret := (some (.object "SharesDesk$Natural"))) (by decide) rfl (Nat.le_of_ble_eq_true rfl) ?_
  intro pgm env s mid below meth cde hx hb hr hml hts hown hlocks hnm hH hK ls hl
  subst hH
  have hl : lv_has ls 3 [(0, .ref f), (1, .int (nI v)), (2, .int (-1))] := hl
  have hS : va_S (fun _ => False) s.heap s.heap [] := va_S.rf
  refine lv_iload_n hx hb dX1_payment_0 rfl (lv_at hl 2 rfl) ?_
  refine lv_iconst (v := (-1)) hx hb dX1_payment_1 (by decide) ?_
  refine lv_icmp_eq (tgt := 32) hx hb dX1_payment_2 (by decide) (fun hc => ?_) (fun hc => ?_)
  · clear hc
    refine lv_null hx hb dX1_payment_32 ?_
    exact xr_aret hx hb hr (Or.inl ⟨_, rfl⟩) (Or.inl rfl) hlocks hS ⟨rfl, rfl⟩ dX1_payment_33
  · exact absurd rfl hc
set_option maxHeartbeats 400000 in
set_option maxRecDepth 100000 in
theorem c_X1_payment (l : Launch) (g : WG) (H0 : Heap) (t : Nat) (c : Nat → Nat) (vs : Nat) (ap : Nat → Nat) (bu : Nat) (hT : TownAt g H0 t c vs ap bu) (f pc pk ps co op bs tr : Nat) (hO : obj g H0 f 1 (phF f t pc pk ps co op bs tr)) (hft : t + 3 ≤ f ∨ f + 280 ≤ t) (emp las rat pik : Nat → Nat) (hEm : xr_ia H0 (f + 5) (gI g) 48 (fun z9 => nI (emp z9))) (hem : ∀ v, v < 48 → emp v ≤ 16) (hLa : PoolAt g H0 (f + 4) (f + 26) 48 las) (hRa : PoolAt g H0 (f + 8) (f + 216) 16 rat) (hPi : xr_ia H0 (f + 7) (gI g) 16 (fun z9 => nI (pik z9))) (v r : Nat) (hv : v < 48) (hr16 : r < 16) (hpik : pik r < 16) : Ctr l (KK g) yX1_payment wsX1_payment { frames := 1, cells := 0, slots := 0, locals := 22 } [.ref f, .int (nI v), .int (nI r)] H0 eR (fun z H => z = payV f emp ap pik v r ∧ H = H0) (fun _ => False) := by
  refine xr_enter (cc := cX1_payment) (maxL := 3) (ret := (some (.object "SharesDesk$Natural"))) (by decide) rfl (Nat.le_of_ble_eq_true rfl) ?_
  intro pgm env s mid below meth cde hx hb hr hml hts hown hlocks hnm hH hK ls hl
  subst hH
  have hl : lv_has ls 3 [(0, .ref f), (1, .int (nI v)), (2, .int (nI r))] := hl
  have hS : va_S (fun _ => False) s.heap s.heap [] := va_S.rf
  have hev := hem v hv
  refine lv_iload_n hx hb dX1_payment_0 rfl (lv_at hl 2 rfl) ?_
  refine lv_iconst (v := (-1)) hx hb dX1_payment_1 (by decide) ?_
  refine lv_icmp_eq (tgt := 32) hx hb dX1_payment_2 (by decide) (fun hc => ?_) (fun hc => ?_)
  · exact absurd hc (nI_m1 (by omega))
  · clear hc
    refine lv_iload_n hx hb dX1_payment_5 rfl (lv_at hl 2 rfl) ?_
    refine lv_aload_n hx hb dX1_payment_6 rfl (lv_at hl 0 rfl) ?_
    refine va_get (D := g.1) (ci := 1) (v := .ref (f + 5)) (C := RX1) (T := TX1) (N := 16) hx hb hts (by decide +kernel) hown hK.1 (xr_one hO) 0 rfl rfl 4 (by decide) (hts (.fieldLink RX1 25 "SharesDesk$Phase" "emptiedIn" "[I") (by decide +kernel)) (fun _ h9 => h9) rfl dX1_payment_7 ?_
    refine lv_iload_n hx hb dX1_payment_10 rfl (lv_at hl 1 rfl) ?_
    refine xr_rd hx hb hK hEm hv (by decide) dX1_payment_11 ?_
    refine lv_icmp_gt (tgt := 32) hx hb dX1_payment_12 (by decide) (fun hc => ?_) (fun hc => ?_)
    · have h8 : emp v < r := (nI_ltI (by omega) (by omega)).mp hc
      refine lv_null hx hb dX1_payment_32 ?_
      exact xr_aret hx hb hr (Or.inl ⟨_, rfl⟩) (Or.inl rfl) hlocks hS ⟨by unfold payV; rw [if_pos (Or.inl h8)], rfl⟩ dX1_payment_33
    · have h8 : ¬ emp v < r := fun q => hc (nI_lt q (by omega))
      refine lv_aload_n hx hb dX1_payment_15 rfl (lv_at hl 0 rfl) ?_
      refine va_get (D := g.1) (ci := 1) (v := .ref t) (C := RX1) (T := TX1) (N := 16) hx hb hts (by decide +kernel) hown hK.1 (xr_one hO) 0 rfl rfl 0 (by decide) (hts (.fieldLink RX1 51 "SharesDesk$Phase" "town" "LSharesDesk$Town;") (by decide +kernel)) (fun _ h9 => h9) rfl dX1_payment_16 ?_
      refine lv_iload_n hx hb dX1_payment_19 rfl (lv_at hl 1 rfl) ?_
      refine lv_aload_n hx hb dX1_payment_20 rfl (lv_at hl 0 rfl) ?_
      refine va_get (D := g.1) (ci := 1) (v := .ref (f + 7)) (C := RX1) (T := TX1) (N := 16) hx hb hts (by decide +kernel) hown hK.1 (xr_one hO) 0 rfl rfl 7 (by decide) (hts (.fieldLink RX1 32 "SharesDesk$Phase" "picks" "[I") (by decide +kernel)) (fun _ h9 => h9) rfl dX1_payment_21 ?_
      refine lv_iload_n hx hb dX1_payment_24 rfl (lv_at hl 2 rfl) ?_
      refine xr_rd hx hb hK hPi hr16 (by decide) dX1_payment_25 ?_
      refine xr_Vi (rest := []) ⟨hx, hb, hml, hown, hts⟩ (KK_ok g) hK (c_X5_approves l g s.heap t c vs ap bu hT v (pik r) hv hpik) (cwV 2 hts gX1_payment_X5_approves rfl rfl rfl (by decide +kernel) ⟨Nat.le_of_ble_eq_true rfl, Nat.le_of_ble_eq_true rfl⟩) (xr_rec hK hT.1 rfl) rfl hl.1 rfl (Nat.le_of_ble_eq_true rfl) dX1_payment_26 ⟨Nat.le_of_ble_eq_true rfl, Nat.le_of_ble_eq_true rfl⟩ hS (fun q h => h.elim) (fun r H locs hq hz hkp hS9 => ?_)
      obtain ⟨rfl, rfl⟩ := hq
      have hS := hS9
      refine lv_if_ne (tgt := 34) hx hb dX1_payment_29 (by decide) (fun h5 => ?_) (fun h5 => ?_)
      · have h6 := b2i_n0.mp h5
        have h7 : ¬ (emp v < r ∨ (ap v).testBit (pik r) = false) := fun q => q.elim h8 (fun q => by rw [h6] at q; cases q)
        refine lv_iload_n hx hb dX1_payment_34 rfl (lv_at hl 2 rfl) ?_
        refine lv_aload_n hx hb dX1_payment_35 rfl (lv_at hl 0 rfl) ?_
        refine va_get (D := g.1) (ci := 1) (v := .ref (f + 5)) (C := RX1) (T := TX1) (N := 16) hx hb hts (by decide +kernel) hown hK.1 (xr_one hO) 0 rfl rfl 4 (by decide) (hts (.fieldLink RX1 25 "SharesDesk$Phase" "emptiedIn" "[I") (by decide +kernel)) (fun _ h9 => h9) rfl dX1_payment_36 ?_
        refine lv_iload_n hx hb dX1_payment_39 rfl (lv_at hl 1 rfl) ?_
        refine xr_rd hx hb hK hEm hv (by decide) dX1_payment_40 ?_
        refine lv_icmp_ne (tgt := 53) hx hb dX1_payment_41 (by decide) (fun h9 => ?_) (fun h9 => ?_)
        · have h10 : ¬ r = emp v := fun q => h9 (by rw [q])
          refine lv_aload_n hx hb dX1_payment_53 rfl (lv_at hl 0 rfl) ?_
          refine va_get (D := g.1) (ci := 1) (v := .ref (f + 8)) (C := RX1) (T := TX1) (N := 16) hx hb hts (by decide +kernel) hown hK.1 (xr_one hO) 0 rfl rfl 11 (by decide) (hts (.fieldLink RX1 35 "SharesDesk$Phase" "rates" "[LSharesDesk$Natural;") (by decide +kernel)) (fun _ h9 => h9) rfl dX1_payment_54 ?_
          refine lv_iload_n hx hb dX1_payment_57 rfl (lv_at hl 2 rfl) ?_
          refine xr_pl hx hb hK hRa hr16 (by decide) dX1_payment_58 ?_
          exact xr_aret hx hb hr (Or.inl ⟨_, rfl⟩) (Or.inr ⟨_, rfl⟩) hlocks hS ⟨by unfold payV; rw [if_neg h7, if_neg h10], rfl⟩ dX1_payment_59
        · have h10 : r = emp v := (nI_inj (by omega) (by omega)).mp h9
          refine lv_aload_n hx hb dX1_payment_44 rfl (lv_at hl 0 rfl) ?_
          refine va_get (D := g.1) (ci := 1) (v := .ref (f + 4)) (C := RX1) (T := TX1) (N := 16) hx hb hts (by decide +kernel) hown hK.1 (xr_one hO) 0 rfl rfl 3 (by decide) (hts (.fieldLink RX1 22 "SharesDesk$Phase" "lastPays" "[LSharesDesk$Natural;") (by decide +kernel)) (fun _ h9 => h9) rfl dX1_payment_45 ?_
          refine lv_iload_n hx hb dX1_payment_48 rfl (lv_at hl 1 rfl) ?_
          refine xr_pl hx hb hK hLa hv (by decide) dX1_payment_49 ?_
          refine lv_goto (tgt := 59) hx hb dX1_payment_50 (by decide) ?_
          exact xr_aret hx hb hr (Or.inl ⟨_, rfl⟩) (Or.inr ⟨_, rfl⟩) hlocks hS ⟨by unfold payV; rw [if_neg h7, if_pos h10], rfl⟩ dX1_payment_59
      · have h6 := b2i_0.mp h5
        refine lv_null hx hb dX1_payment_32 ?_
        exact xr_aret hx hb hr (Or.inl ⟨_, rfl⟩) (Or.inl rfl) hlocks hS ⟨by unfold payV; rw [if_pos (Or.inr h6)], rfl⟩ dX1_payment_33
set_option maxHeartbeats 400000 in
set_option maxRecDepth 100000 in
theorem c_X1_measureLack (l : Launch) (g : WG) (H0 : Heap) (t : Nat) (c : Nat → Nat) (vs : Nat) (ap : Nat → Nat) (bu : Nat) (hT : TownAt g H0 t c vs ap bu) (f pc pk ps co op bs tr : Nat) (hO : obj g H0 f 1 (phF f t pc pk ps co op bs tr)) (hft : t + 3 ≤ f ∨ f + 280 ≤ t) (pay : Nat → Nat) (hpc : pc ≤ 48) (hpay : ∀ i, i < pc → pay i < 48) (hPy : xr_ia H0 (f + 6) (gI g) 48 (fun z9 => nI (pay z9))) (B : Nat) (hBa : NatAt g H0 (f + 1) B) (pur : Nat → Nat) (hPu : PoolAt g H0 (f + 3) (f + 24) 48 pur) (lk x0 : Nat) (hLk : NatAt g H0 lk x0) (hlf : lk + 2 ≤ f ∨ f + 280 ≤ lk) (hlt : lk + 2 ≤ t ∨ t + 3 ≤ lk) (hBb : B * 48000000 < 2 ^ 128) (p0 : Nat) (hp : p0 < 16) (hsum : (supL pur pay ap p0 pc 0).sum ≤ B * c p0) : Ctr l (KK g) yX1_measureLack wsX1_measureLack { frames := 2, cells := 0, slots := 0, locals := 61 } [.ref f, .int (nI p0), .ref lk] H0 eV (fun _ H => NatAt g H lk (B * c p0 - (supL pur pay ap p0 pc 0).sum)) (fun q => q = lk + 1) := by
  refine xr_enter (cc := cX1_measureLack) (maxL := 4) (ret := none) (by decide) rfl (Nat.le_of_ble_eq_true rfl) ?_
  intro pgm env s mid below meth cde hx hb hr hml hts hown hlocks hnm hH hK ls hl
  subst hH
  have hl : lv_has ls 4 [(0, .ref f), (1, .int (nI p0)), (2, .ref lk)] := hl
  have hS : va_S (fun q => q = lk + 1) s.heap s.heap [] := va_S.rf
  have hcp := hT.2.2.2.1 p0 hp
  have hBc : B * c p0 < 2 ^ 128 := Nat.lt_of_le_of_lt (Nat.mul_le_mul_left B (show c p0 ≤ 48000000 by omega)) hBb
  have loop : ∀ (n i x : Nat), i + n = pc → (supL pur pay ap p0 n i).sum ≤ x → x - (supL pur pay ap p0 n i).sum = B * c p0 - (supL pur pay ap p0 pc 0).sum → ∀ (H : Heap) (locs : List Loc), obj g H f 1 (phF f t pc pk ps co op bs tr) → TownAt g H t c vs ap bu → xr_ia H (f + 6) (gI g) 48 (fun z9 => nI (pay z9)) → PoolAt g H (f + 3) (f + 24) 48 pur → NatAt g H lk x → va_S (fun q => q = lk + 1) s.heap H locs → ∀ ls : Array Slot, lv_has ls 4 [(3, .int (nI i)), (0, .ref f), (1, .int (nI p0)), (2, .ref lk)] → W pgm l env { frames := 2, cells := 0, slots := 0, locals := 61 } s mid ([.ref f, .int (nI p0), .ref lk] : List Value).toArray below meth cde H locs 0 0 (MQ below (xr_Post eV (fun _ H => NatAt g H lk (B * c p0 - (supL pur pay ap p0 pc 0).sum)) (fun q => q = lk + 1)) ([.ref f, .int (nI p0), .ref lk] : List Value).toArray s ({ frames := 2, cells := 0, slots := 0, locals := 61 } : Room).cells ({ frames := 2, cells := 0, slots := 0, locals := 61 } : Room).slots (fun q => q = lk + 1)) (F0 mid 23 ls []) := by
    intro n
    induction n with
    | zero =>
      intro i x h1 h2 h3 H locs hO hT hPy hPu hLk hS ls hl
      refine lv_iload_n hx hb dX1_measureLack_23 rfl (lv_at hl 0 rfl) ?_
      refine lv_aload_n hx hb dX1_measureLack_24 rfl (lv_at hl 1 rfl) ?_
      refine va_get (D := g.1) (ci := 1) (v := .int (nI pc)) (C := RX1) (T := TX1) (N := 16) hx hb hts (by decide +kernel) hown hK.1 (xr_one hO) 0 rfl rfl 6 (by decide) (hts (.fieldLink RX1 118 "SharesDesk$Phase" "payerCount" "I") (by decide +kernel)) (fun _ h9 => h9) rfl dX1_measureLack_25 ?_
      refine lv_icmp_ge (tgt := 69) hx hb dX1_measureLack_28 (by decide) (fun hc => ?_) (fun hc => ?_)
      · clear hc
        have h3 : x - 0 = B * c p0 - (supL pur pay ap p0 pc 0).sum := h3
        rw [Nat.sub_zero] at h3
        exact xr_vret hx hb hr hlocks hS (by rw [← h3]; exact hLk) dX1_measureLack_69
      · exact absurd (nI_le (show pc ≤ i by omega) (by omega)) hc
    | succ n ih =>
      intro i x h1 h2 h3 H locs hO hT hPy hPu hLk hS ls hl
      refine lv_iload_n hx hb dX1_measureLack_23 rfl (lv_at hl 0 rfl) ?_
      refine lv_aload_n hx hb dX1_measureLack_24 rfl (lv_at hl 1 rfl) ?_
      refine va_get (D := g.1) (ci := 1) (v := .int (nI pc)) (C := RX1) (T := TX1) (N := 16) hx hb hts (by decide +kernel) hown hK.1 (xr_one hO) 0 rfl rfl 6 (by decide) (hts (.fieldLink RX1 118 "SharesDesk$Phase" "payerCount" "I") (by decide +kernel)) (fun _ h9 => h9) rfl dX1_measureLack_25 ?_
      refine lv_icmp_ge (tgt := 69) hx hb dX1_measureLack_28 (by decide) (fun hc => ?_) (fun hc => ?_)
      · exact absurd ((nI_leI (by omega) (by omega)).mp hc) (by omega)
      · clear hc
        have hv := hpay i (by omega)
        refine lv_aload_n hx hb dX1_measureLack_31 rfl (lv_at hl 1 rfl) ?_
        refine va_get (D := g.1) (ci := 1) (v := .ref t) (C := RX1) (T := TX1) (N := 16) hx hb hts (by decide +kernel) hown hK.1 (xr_one hO) 0 rfl rfl 0 (by decide) (hts (.fieldLink RX1 51 "SharesDesk$Phase" "town" "LSharesDesk$Town;") (by decide +kernel)) (fun _ h9 => h9) rfl dX1_measureLack_32 ?_
        refine lv_aload_n hx hb dX1_measureLack_35 rfl (lv_at hl 1 rfl) ?_
        refine va_get (D := g.1) (ci := 1) (v := .ref (f + 6)) (C := RX1) (T := TX1) (N := 16) hx hb hts (by decide +kernel) hown hK.1 (xr_one hO) 0 rfl rfl 5 (by decide) (hts (.fieldLink RX1 29 "SharesDesk$Phase" "payers" "[I") (by decide +kernel)) (fun _ h9 => h9) rfl dX1_measureLack_36 ?_
        refine lv_iload_n hx hb dX1_measureLack_39 rfl (lv_at hl 0 rfl) ?_
        refine xr_rd hx hb hK hPy (show i < 48 by omega) (by decide) dX1_measureLack_40 ?_
        refine lv_iload_n hx hb dX1_measureLack_41 rfl (lv_at hl 2 rfl) ?_
        refine xr_Vi (rest := []) ⟨hx, hb, hml, hown, hts⟩ (KK_ok g) hK (c_X5_approves l g H t c vs ap bu hT (pay i) p0 hv hp) (cwV 2 hts gX1_measureLack_X5_approves rfl rfl rfl (by decide +kernel) ⟨Nat.le_of_ble_eq_true rfl, Nat.le_of_ble_eq_true rfl⟩) (xr_rec hK hT.1 rfl) rfl hl.1 rfl (Nat.le_of_ble_eq_true rfl) dX1_measureLack_42 ⟨Nat.le_of_ble_eq_true rfl, Nat.le_of_ble_eq_true rfl⟩ hS (fun q h => h.elim) (fun r H locs hq hz hkp hS9 => ?_)
        obtain ⟨rfl, rfl⟩ := hq
        have hS := hS9
        refine lv_if_eq (tgt := 63) hx hb dX1_measureLack_45 (by decide) (fun hc => ?_) (fun hc => ?_)
        · have h8 := b2i_0.mp hc
          rw [supL_n h8] at h2 h3
          refine lv_iinc (v := nI (i + 1)) (lv' := [(3, .int (nI (i + 1))), (0, .ref f), (1, .int (nI p0)), (2, .ref lk)]) hx hb dX1_measureLack_63 hl (k := 0) rfl (nI_1 i) (by decide) rfl (fun ls hl => ?_)
          refine lv_goto (tgt := 23) hx hb dX1_measureLack_66 (by decide) ?_
          exact ih (i + 1) x (by omega) h2 h3 H locs hO hT hPy hPu hLk hS ls (lv_sub hl [0, 1, 2, 3] rfl)
        · have h8 := b2i_n0.mp hc
          rw [supL_y h8, List.sum_cons] at h2 h3
          refine lv_aload_n hx hb dX1_measureLack_48 rfl (lv_at hl 3 rfl) ?_
          refine lv_aload_n hx hb dX1_measureLack_49 rfl (lv_at hl 1 rfl) ?_
          refine va_get (D := g.1) (ci := 1) (v := .ref (f + 3)) (C := RX1) (T := TX1) (N := 16) hx hb hts (by decide +kernel) hown hK.1 (xr_one hO) 0 rfl rfl 2 (by decide) (hts (.fieldLink RX1 18 "SharesDesk$Phase" "purses" "[LSharesDesk$Natural;") (by decide +kernel)) (fun _ h9 => h9) rfl dX1_measureLack_50 ?_
          refine lv_aload_n hx hb dX1_measureLack_53 rfl (lv_at hl 1 rfl) ?_
          refine va_get (D := g.1) (ci := 1) (v := .ref (f + 6)) (C := RX1) (T := TX1) (N := 16) hx hb hts (by decide +kernel) hown hK.1 (xr_one hO) 0 rfl rfl 5 (by decide) (hts (.fieldLink RX1 29 "SharesDesk$Phase" "payers" "[I") (by decide +kernel)) (fun _ h9 => h9) rfl dX1_measureLack_54 ?_
          refine lv_iload_n hx hb dX1_measureLack_57 rfl (lv_at hl 0 rfl) ?_
          refine xr_rd hx hb hK hPy (show i < 48 by omega) (by decide) dX1_measureLack_58 ?_
          refine xr_pl hx hb hK hPu hv (by decide) dX1_measureLack_59 ?_
          refine xr_Vv (rest := []) ⟨hx, hb, hml, hown, hts⟩ (KK_ok g) hK (c_X0_minus l g H lk (f + 24 + 4 * pay i) x (pur (pay i)) hLk (hPu.2 _ hv) (by omega) (by omega) (by omega)) (cwV 1 hts gX1_measureLack_X0_minus rfl rfl rfl (by decide +kernel) ⟨Nat.le_of_ble_eq_true rfl, Nat.le_of_ble_eq_true rfl⟩) (xr_rec hK hLk.1 rfl) rfl hl.1 rfl (Nat.le_of_ble_eq_true rfl) dX1_measureLack_60 ⟨Nat.le_of_ble_eq_true rfl, Nat.le_of_ble_eq_true rfl⟩ hS (fun q h => h) (fun _ H locs hq hz hkp hS => ?_)
          replace hkp := fun (q : Nat) h1 (h2 : ¬ (q = lk + 1)) => hkp q h1 h2
          replace hO := hO.kept (hkp _ hO.lt (by omega))
          replace hT := hT.kept (fun q hq1 hq2 hq3 => hkp q hq1 (by omega))
          replace hPy := hPy.kept (hkp _ hPy.lt (by omega))
          replace hPu := hPu.kept (hkp _ hPu.1.lt (by omega)) (fun v hv => hkp _ (hPu.2 v hv).1.lt (by omega)) (fun v hv => hkp _ (hPu.2 v hv).2.1.lt (by omega))
          have hLk : NatAt g H lk (x - pur (pay i)) := hq
          refine lv_iinc (v := nI (i + 1)) (lv' := [(3, .int (nI (i + 1))), (0, .ref f), (1, .int (nI p0)), (2, .ref lk)]) hx hb dX1_measureLack_63 hl (k := 0) rfl (nI_1 i) (by decide) rfl (fun ls hl => ?_)
          refine lv_goto (tgt := 23) hx hb dX1_measureLack_66 (by decide) ?_
          exact ih (i + 1) _ (by omega) (by omega) (by omega) H locs hO hT hPy hPu hLk hS ls (lv_sub hl [0, 1, 2, 3] rfl)
  refine lv_aload_n hx hb dX1_measureLack_0 rfl (lv_at hl 2 rfl) ?_
  refine lv_aload_n hx hb dX1_measureLack_1 rfl (lv_at hl 0 rfl) ?_
  refine va_get (D := g.1) (ci := 1) (v := .ref (f + 1)) (C := RX1) (T := TX1) (N := 16) hx hb hts (by decide +kernel) hown hK.1 (xr_one hO) 0 rfl rfl 1 (by decide) (hts (.fieldLink RX1 12 "SharesDesk$Phase" "base" "LSharesDesk$Natural;") (by decide +kernel)) (fun _ h9 => h9) rfl dX1_measureLack_2 ?_
  refine xr_Vv (rest := []) ⟨hx, hb, hml, hown, hts⟩ (KK_ok g) hK (c_X0_copy l g s.heap lk (f + 1) x0 B hLk hBa (by omega)) (cwV 1 hts gX1_measureLack_X0_copy rfl rfl rfl (by decide +kernel) ⟨Nat.le_of_ble_eq_true rfl, Nat.le_of_ble_eq_true rfl⟩) (xr_rec hK hLk.1 rfl) rfl hl.1 rfl (Nat.le_of_ble_eq_true rfl) dX1_measureLack_5 ⟨Nat.le_of_ble_eq_true rfl, Nat.le_of_ble_eq_true rfl⟩ hS (fun q h => h) (fun _ H locs hq hz hkp hS => ?_)
  replace hkp := fun (q : Nat) h1 (h2 : ¬ (q = lk + 1)) => hkp q h1 h2
  replace hO := hO.kept (hkp _ hO.lt (by omega))
  replace hT := hT.kept (fun q hq1 hq2 hq3 => hkp q hq1 (by omega))
  replace hPy := hPy.kept (hkp _ hPy.lt (by omega))
  replace hPu := hPu.kept (hkp _ hPu.1.lt (by omega)) (fun v hv => hkp _ (hPu.2 v hv).1.lt (by omega)) (fun v hv => hkp _ (hPu.2 v hv).2.1.lt (by omega))
  have hLk : NatAt g H lk B := hq
  refine lv_aload_n hx hb dX1_measureLack_8 rfl (lv_at hl 2 rfl) ?_
  refine lv_aload_n hx hb dX1_measureLack_9 rfl (lv_at hl 0 rfl) ?_
  refine va_get (D := g.1) (ci := 1) (v := .ref t) (C := RX1) (T := TX1) (N := 16) hx hb hts (by decide +kernel) hown hK.1 (xr_one hO) 0 rfl rfl 0 (by decide) (hts (.fieldLink RX1 51 "SharesDesk$Phase" "town" "LSharesDesk$Town;") (by decide +kernel)) (fun _ h9 => h9) rfl dX1_measureLack_10 ?_
  refine va_get (D := g.1) (ci := 5) (v := .ref (t + 1)) (C := RX5) (T := TX5) (N := 4) hx hb hts (by decide +kernel) hown hK.1 (xr_one hT.1) 0 rfl rfl 0 (by decide) (hts (.fieldLink RX1 112 "SharesDesk$Town" "costs" "[I") (by decide +kernel)) (fun _ h9 => h9) rfl dX1_measureLack_13 ?_
  refine lv_iload_n hx hb dX1_measureLack_16 rfl (lv_at hl 1 rfl) ?_
  refine xr_rd hx hb hK hT.2.1 hp (by decide) dX1_measureLack_17 ?_
  refine xr_Vv (rest := []) ⟨hx, hb, hml, hown, hts⟩ (KK_ok g) hK (c_X0_times l g H lk B (c p0) hLk (by omega) hBc) (cwV 1 hts gX1_measureLack_X0_times rfl rfl rfl (by decide +kernel) ⟨Nat.le_of_ble_eq_true rfl, Nat.le_of_ble_eq_true rfl⟩) (xr_rec hK hLk.1 rfl) rfl hl.1 rfl (Nat.le_of_ble_eq_true rfl) dX1_measureLack_18 ⟨Nat.le_of_ble_eq_true rfl, Nat.le_of_ble_eq_true rfl⟩ hS (fun q h => h) (fun _ H locs hq hz hkp hS => ?_)
  replace hkp := fun (q : Nat) h1 (h2 : ¬ (q = lk + 1)) => hkp q h1 h2
  replace hO := hO.kept (hkp _ hO.lt (by omega))
  replace hT := hT.kept (fun q hq1 hq2 hq3 => hkp q hq1 (by omega))
  replace hPy := hPy.kept (hkp _ hPy.lt (by omega))
  replace hPu := hPu.kept (hkp _ hPu.1.lt (by omega)) (fun v hv => hkp _ (hPu.2 v hv).1.lt (by omega)) (fun v hv => hkp _ (hPu.2 v hv).2.1.lt (by omega))
  have hLk : NatAt g H lk (B * c p0) := hq
  refine lv_iconst (v := 0) hx hb dX1_measureLack_21 (by decide) ?_
  refine xr_ti (x' := nI 0) rfl ?_
  refine lv_istore_n (lv' := [(3, .int (nI 0)), (0, .ref f), (1, .int (nI p0)), (2, .ref lk)]) hx hb dX1_measureLack_22 rfl hl (by decide) rfl (fun ls hl => ?_)
  exact loop pc 0 _ (by omega) hsum rfl H locs hO hT hPy hPu hLk hS ls (lv_sub hl [0, 1, 2, 3] rfl)
end
section
/-! the purses, filled -/
def vlG (pay : Nat → Nat) (vs : Nat) : Nat → (Nat → Nat) × Nat
  | 0 => (pay, 0)
  | v + 1 => if vs.testBit v = true then (va_up (vlG pay vs v).1 (vlG pay vs v).2 v, (vlG pay vs v).2 + 1) else vlG pay vs v
def puG (pur : Nat → Nat) (vs x : Nat) : Nat → Nat → Nat
  | 0 => pur
  | v + 1 => if vs.testBit v = true then va_up (puG pur vs x v) v x else puG pur vs x v
def emG (emp : Nat → Nat) : Nat → Nat → Nat
  | 0 => emp
  | v + 1 => va_up (emG emp v) v 16
theorem vlG_le {pay : Nat → Nat} {vs : Nat} : ∀ n, (vlG pay vs n).2 ≤ n
  | 0 => Nat.le_refl 0
  | n + 1 => by
    have := vlG_le (pay := pay) (vs := vs) n
    rw [vlG]
    split
    · show _ + 1 ≤ n + 1
      omega
    · omega
theorem cnt_le (x : Nat) : ∀ n, cnt x n ≤ n
  | 0 => Nat.le_refl 0
  | n + 1 => by
    have := cnt_le x n
    have h2 : x / 2 ^ n % 2 < 2 := Nat.mod_lt _ (by decide)
    show cnt x n + x / 2 ^ n % 2 ≤ n + 1
    omega
theorem max1 {n : Nat} (h : n < 2 ^ 31) : (if nI n < 1 then (1 : Int32) else nI n) = nI (if n = 0 then 1 else n) := by
  by_cases e : n = 0
  · subst e
    decide
  · rw [if_neg e, if_neg]
    exact nI_nlt (show 1 ≤ n by omega) h
set_option maxHeartbeats 1000000 in
set_option maxRecDepth 100000 in
theorem c_X1_fillPurses (l : Launch) (g : WG) (H0 : Heap) (t : Nat) (c : Nat → Nat) (vs : Nat) (ap : Nat → Nat) (bu : Nat) (f pc pk ps co op bs tr B : Nat) (pur las emp pay pik rat bas : Nat → Nat) (rb kb rt kt : Nat) (hO : obj g H0 f 1 (phF f t pc pk ps co op bs tr)) (hT : TownAt g H0 t c vs ap bu) (hBa : NatAt g H0 (f + 1) B) (hPu : PoolAt g H0 (f + 3) (f + 24) 48 pur) (hLa : PoolAt g H0 (f + 4) (f + 26) 48 las) (hEm : xr_ia H0 (f + 5) (gI g) 48 (fun z9 => nI (emp z9))) (hPy : xr_ia H0 (f + 6) (gI g) 48 (fun z9 => nI (pay z9))) (hPi : xr_ia H0 (f + 7) (gI g) 16 (fun z9 => nI (pik z9))) (hRa : PoolAt g H0 (f + 8) (f + 216) 16 rat) (hBb : PoolAt g H0 (f + 9) (f + 218) 16 bas) (hBs : ShareAt g H0 bs rb kb) (hTr : ShareAt g H0 tr rt kt) (hft : t + 3 ≤ f ∨ f + 280 ≤ t) (htb : (tr = f + 10 ∧ bs = f + 17 ∨ tr = f + 17 ∧ bs = f + 10)) (rz : Nat) (hrz : rz ≤ 10000000) : Ctr l (KK g) yX1_fillPurses wsX1_fillPurses { frames := 2, cells := 0, slots := 0, locals := 44 } [.ref f, .int (nI rz)] H0 eV (fun _ H => obj g H f 1 (phF f t ((vlG pay vs 48).2) pk ps co op bs tr) ∧ NatAt g H (f + 1) ((if cnt vs 48 = 0 then 1 else cnt vs 48)) ∧ PoolAt g H (f + 3) (f + 24) 48 (puG pur vs (bu + cnt vs 48 * rz) 48) ∧ PoolAt g H (f + 4) (f + 26) 48 las ∧ xr_ia H (f + 5) (gI g) 48 (fun z9 => nI ((emG emp 48) z9)) ∧ xr_ia H (f + 6) (gI g) 48 (fun z9 => nI (((vlG pay vs 48).1) z9)) ∧ xr_ia H (f + 7) (gI g) 16 (fun z9 => nI (pik z9)) ∧ PoolAt g H (f + 8) (f + 216) 16 rat ∧ PoolAt g H (f + 9) (f + 218) 16 bas ∧ ShareAt g H bs rb kb ∧ ShareAt g H tr rt kt) (fun q => f ≤ q ∧ q < f + 280) := by
  refine xr_enter (cc := cX1_fillPurses) (maxL := 4) (ret := none) (by decide) rfl (Nat.le_of_ble_eq_true rfl) ?_
  intro pgm env s mid below meth cde hx hb hr hml hts hown hlocks hnm hH hK ls hl
  subst hH
  have hl : lv_has ls 4 [(0, .ref f), (1, .int (nI rz))] := hl
  have hS : va_S (fun q => f ≤ q ∧ q < f + 280) s.heap s.heap [] := va_S.rf
  have hn48 := cnt_le vs 48
  have hbu := hT.2.2.2.2.2.2
  have hnr : cnt vs 48 * rz ≤ 48 * 10000000 := Nat.mul_le_mul hn48 hrz
  have loop : ∀ (n v : Nat), v + n = 48 → ∀ (H : Heap) (locs : List Loc), obj g H f 1 (phF f t ((vlG pay vs v).2) pk ps co op bs tr) → TownAt g H t c vs ap bu → NatAt g H (f + 1) ((if cnt vs 48 = 0 then 1 else cnt vs 48)) → PoolAt g H (f + 3) (f + 24) 48 (puG pur vs (bu + cnt vs 48 * rz) v) → PoolAt g H (f + 4) (f + 26) 48 las → xr_ia H (f + 5) (gI g) 48 (fun z9 => nI ((emG emp v) z9)) → xr_ia H (f + 6) (gI g) 48 (fun z9 => nI (((vlG pay vs v).1) z9)) → xr_ia H (f + 7) (gI g) 16 (fun z9 => nI (pik z9)) → PoolAt g H (f + 8) (f + 216) 16 rat → PoolAt g H (f + 9) (f + 218) 16 bas → ShareAt g H bs rb kb → ShareAt g H tr rt kt → va_S (fun q => f ≤ q ∧ q < f + 280) s.heap H locs → ∀ ls : Array Slot, lv_has ls 4 [(3, .int (nI v)), (2, .int (nI (cnt vs 48))), (0, .ref f), (1, .int (nI rz))] → W pgm l env { frames := 2, cells := 0, slots := 0, locals := 44 } s mid ([.ref f, .int (nI rz)] : List Value).toArray below meth cde H locs 0 0 (MQ below (xr_Post eV (fun _ H => obj g H f 1 (phF f t ((vlG pay vs 48).2) pk ps co op bs tr) ∧ NatAt g H (f + 1) ((if cnt vs 48 = 0 then 1 else cnt vs 48)) ∧ PoolAt g H (f + 3) (f + 24) 48 (puG pur vs (bu + cnt vs 48 * rz) 48) ∧ PoolAt g H (f + 4) (f + 26) 48 las ∧ xr_ia H (f + 5) (gI g) 48 (fun z9 => nI ((emG emp 48) z9)) ∧ xr_ia H (f + 6) (gI g) 48 (fun z9 => nI (((vlG pay vs 48).1) z9)) ∧ xr_ia H (f + 7) (gI g) 16 (fun z9 => nI (pik z9)) ∧ PoolAt g H (f + 8) (f + 216) 16 rat ∧ PoolAt g H (f + 9) (f + 218) 16 bas ∧ ShareAt g H bs rb kb ∧ ShareAt g H tr rt kt) (fun q => f ≤ q ∧ q < f + 280)) ([.ref f, .int (nI rz)] : List Value).toArray s ({ frames := 2, cells := 0, slots := 0, locals := 44 } : Room).cells ({ frames := 2, cells := 0, slots := 0, locals := 44 } : Room).slots (fun q => f ≤ q ∧ q < f + 280)) (F0 mid 27 ls []) := by
    intro n
    induction n with
    | zero =>
      intro v h1 H locs hO hT hBa hPu hLa hEm hPy hPi hRa hBb hBs hTr hS ls hl
      refine lv_iload_n hx hb dX1_fillPurses_27 rfl (lv_at hl 0 rfl) ?_
      refine lv_bipush (v := 48) hx hb dX1_fillPurses_28 (by decide) ?_
      refine lv_icmp_ge (tgt := 95) hx hb dX1_fillPurses_30 (by decide) (fun hc => ?_) (fun hc => ?_)
      · have e : v = 48 := by omega
        subst e
        exact xr_vret hx hb hr hlocks hS ⟨hO, hBa, hPu, hLa, hEm, hPy, hPi, hRa, hBb, hBs, hTr⟩ dX1_fillPurses_95
      · exact absurd (nI_le (show 48 ≤ v by omega) (by omega)) hc
    | succ n ih =>
      intro v h1 H locs hO hT hBa hPu hLa hEm hPy hPi hRa hBb hBs hTr hS ls hl
      refine lv_iload_n hx hb dX1_fillPurses_27 rfl (lv_at hl 0 rfl) ?_
      refine lv_bipush (v := 48) hx hb dX1_fillPurses_28 (by decide) ?_
      refine lv_icmp_ge (tgt := 95) hx hb dX1_fillPurses_30 (by decide) (fun hc => ?_) (fun hc => ?_)
      · exact absurd ((nI_leI (a := 48) (b := v) (by decide) (by omega)).mp hc) (by omega)
      · clear hc
        have hv : v < 48 := by omega
        have hle := vlG_le (pay := pay) (vs := vs) v
        refine lv_aload_n hx hb dX1_fillPurses_33 rfl (lv_at hl 2 rfl) ?_
        refine va_get (D := g.1) (ci := 1) (v := .ref (f + 5)) (C := RX1) (T := TX1) (N := 16) hx hb hts (by decide +kernel) hown hK.1 (xr_one hO) 0 rfl rfl 4 (by decide) (hts (.fieldLink RX1 25 "SharesDesk$Phase" "emptiedIn" "[I") (by decide +kernel)) (fun _ h9 => h9) rfl dX1_fillPurses_34 ?_
        refine lv_iload_n hx hb dX1_fillPurses_37 rfl (lv_at hl 0 rfl) ?_
        refine lv_bipush (v := 16) hx hb dX1_fillPurses_38 (by decide) ?_
        refine xr_ti (x' := nI 16) rfl ?_
        refine xr_wr hx hb hK hS (show f ≤ f + 5 ∧ f + 5 < f + 280 by omega) hEm hv (by decide) dX1_fillPurses_40 (fun H locs hz hkp hEm hS => ?_)
        replace hO := hO.kept (hkp _ (by omega))
        replace hT := hT.kept (fun q hq1 hq2 hq3 => hkp q (by omega))
        replace hBa := hBa.kept (hkp _ (by omega)) (hkp _ (by omega))
        replace hPu := hPu.kept (hkp _ (by omega)) (fun v hv => hkp _ (by omega)) (fun v hv => hkp _ (by omega))
        replace hLa := hLa.kept (hkp _ (by omega)) (fun v hv => hkp _ (by omega)) (fun v hv => hkp _ (by omega))
        replace hPy := hPy.kept (hkp _ (by omega))
        replace hPi := hPi.kept (hkp _ (by omega))
        replace hRa := hRa.kept (hkp _ (by omega)) (fun v hv => hkp _ (by omega)) (fun v hv => hkp _ (by omega))
        replace hBb := hBb.kept (hkp _ (by omega)) (fun v hv => hkp _ (by omega)) (fun v hv => hkp _ (by omega))
        replace hBs := hBs.kept (fun q hq1 hq2 hq3 => hkp q (by omega))
        replace hTr := hTr.kept (fun q hq1 hq2 hq3 => hkp q (by omega))
        rw [ia_up] at hEm
        refine lv_aload_n hx hb dX1_fillPurses_41 rfl (lv_at hl 2 rfl) ?_
        refine va_get (D := g.1) (ci := 1) (v := .ref t) (C := RX1) (T := TX1) (N := 16) hx hb hts (by decide +kernel) hown hK.1 (xr_one hO) 0 rfl rfl 0 (by decide) (hts (.fieldLink RX1 51 "SharesDesk$Phase" "town" "LSharesDesk$Town;") (by decide +kernel)) (fun _ h9 => h9) rfl dX1_fillPurses_42 ?_
        refine lv_iload_n hx hb dX1_fillPurses_45 rfl (lv_at hl 0 rfl) ?_
        refine xr_Vi (rest := []) ⟨hx, hb, hml, hown, hts⟩ (KK_ok g) hK (c_X5_hasVoter l g H t c vs ap bu hT (nI v)) (cwV 1 hts gX1_fillPurses_X5_hasVoter rfl rfl rfl (by decide +kernel) ⟨Nat.le_of_ble_eq_true rfl, Nat.le_of_ble_eq_true rfl⟩) (xr_rec hK hT.1 rfl) rfl hl.1 rfl (Nat.le_of_ble_eq_true rfl) dX1_fillPurses_46 ⟨Nat.le_of_ble_eq_true rfl, Nat.le_of_ble_eq_true rfl⟩ hS (fun q h => h.elim) (fun r H locs hq hz hkp hS9 => ?_)
        obtain ⟨rfl, rfl⟩ := hq
        have hS := hS9
        refine xr_ti (x' := b2i (vs.testBit v)) (by rw [inR_yes hv (by decide), ix_nI (by omega), Bool.true_and]) ?_
        refine lv_if_eq (tgt := 89) hx hb dX1_fillPurses_49 (by decide) (fun hc => ?_) (fun hc => ?_)
        · have h8 := b2i_0.mp hc
          refine lv_iinc (v := nI (v + 1)) (lv' := [(3, .int (nI (v + 1))), (2, .int (nI (cnt vs 48))), (0, .ref f), (1, .int (nI rz))]) hx hb dX1_fillPurses_89 hl (k := 0) rfl (nI_1 v) (by decide) rfl (fun ls hl => ?_)
          refine lv_goto (tgt := 27) hx hb dX1_fillPurses_92 (by decide) ?_
          exact ih (v + 1) (by omega) H locs (by rw [vlG, if_neg (by rw [h8]; decide)]; exact hO) hT hBa (by rw [puG, if_neg (by rw [h8]; decide)]; exact hPu) hLa hEm (by rw [vlG, if_neg (by rw [h8]; decide)]; exact hPy) hPi hRa hBb hBs hTr hS ls (lv_sub hl [0, 1, 2, 3] rfl)
        · have h8 := b2i_n0.mp hc
          refine lv_aload_n hx hb dX1_fillPurses_52 rfl (lv_at hl 2 rfl) ?_
          refine va_get (D := g.1) (ci := 1) (v := .ref (f + 3)) (C := RX1) (T := TX1) (N := 16) hx hb hts (by decide +kernel) hown hK.1 (xr_one hO) 0 rfl rfl 2 (by decide) (hts (.fieldLink RX1 18 "SharesDesk$Phase" "purses" "[LSharesDesk$Natural;") (by decide +kernel)) (fun _ h9 => h9) rfl dX1_fillPurses_53 ?_
          refine lv_iload_n hx hb dX1_fillPurses_56 rfl (lv_at hl 0 rfl) ?_
          refine xr_pl hx hb hK hPu hv (by decide) dX1_fillPurses_57 ?_
          refine lv_aload_n hx hb dX1_fillPurses_58 rfl (lv_at hl 2 rfl) ?_
          refine va_get (D := g.1) (ci := 1) (v := .ref t) (C := RX1) (T := TX1) (N := 16) hx hb hts (by decide +kernel) hown hK.1 (xr_one hO) 0 rfl rfl 0 (by decide) (hts (.fieldLink RX1 51 "SharesDesk$Phase" "town" "LSharesDesk$Town;") (by decide +kernel)) (fun _ h9 => h9) rfl dX1_fillPurses_59 ?_
          refine va_get (D := g.1) (ci := 5) (v := .int (nI bu)) (C := RX5) (T := TX5) (N := 4) hx hb hts (by decide +kernel) hown hK.1 (xr_one hT.1) 0 rfl rfl 3 (by decide) (hts (.fieldLink RX1 92 "SharesDesk$Town" "budget" "I") (by decide +kernel)) (fun _ h9 => h9) rfl dX1_fillPurses_62 ?_
          refine lv_iload_n hx hb dX1_fillPurses_65 rfl (lv_at hl 1 rfl) ?_
          refine lv_iload_n hx hb dX1_fillPurses_66 rfl (lv_at hl 3 rfl) ?_
          refine lv_imul hx hb dX1_fillPurses_67 ?_
          refine xr_ti (x' := nI (cnt vs 48 * rz)) (pk_mul _ _) ?_
          refine lv_iadd hx hb dX1_fillPurses_68 ?_
          refine xr_ti (x' := nI (bu + cnt vs 48 * rz)) (nI_add _ _) ?_
          refine xr_Vv (rest := []) ⟨hx, hb, hml, hown, hts⟩ (KK_ok g) hK (c_X0_set l g H (f + 24 + 4 * v) (puG pur vs (bu + cnt vs 48 * rz) v v) (bu + cnt vs 48 * rz) (hPu.2 v hv) (by omega)) (cwV 1 hts gX1_fillPurses_X0_set rfl rfl rfl (by decide +kernel) ⟨Nat.le_of_ble_eq_true rfl, Nat.le_of_ble_eq_true rfl⟩) (xr_rec hK (hPu.2 v hv).1 rfl) rfl hl.1 rfl (Nat.le_of_ble_eq_true rfl) dX1_fillPurses_69 ⟨Nat.le_of_ble_eq_true rfl, Nat.le_of_ble_eq_true rfl⟩ hS (fun q h => by have h : q = f + 24 + 4 * v + 1 := h; show f ≤ q ∧ q < f + 280; omega) (fun _ H locs hq hz hkp hS => ?_)
          replace hkp := fun (q : Nat) h1 (h2 : ¬ (q = f + 24 + 4 * v + 1)) => hkp q h1 h2
          replace hO := hO.kept (hkp _ hO.lt (by omega))
          replace hT := hT.kept (fun q hq1 hq2 hq3 => hkp q hq1 (by omega))
          replace hBa := hBa.kept (hkp _ hBa.1.lt (by omega)) (hkp _ hBa.2.1.lt (by omega))
          replace hLa := hLa.kept (hkp _ hLa.1.lt (by omega)) (fun v hv => hkp _ (hLa.2 v hv).1.lt (by omega)) (fun v hv => hkp _ (hLa.2 v hv).2.1.lt (by omega))
          replace hPy := hPy.kept (hkp _ hPy.lt (by omega))
          replace hPi := hPi.kept (hkp _ hPi.lt (by omega))
          replace hRa := hRa.kept (hkp _ hRa.1.lt (by omega)) (fun v hv => hkp _ (hRa.2 v hv).1.lt (by omega)) (fun v hv => hkp _ (hRa.2 v hv).2.1.lt (by omega))
          replace hBb := hBb.kept (hkp _ hBb.1.lt (by omega)) (fun v hv => hkp _ (hBb.2 v hv).1.lt (by omega)) (fun v hv => hkp _ (hBb.2 v hv).2.1.lt (by omega))
          replace hBs := hBs.kept (fun q hq1 hq2 hq3 => hkp q hq1 (by omega))
          replace hTr := hTr.kept (fun q hq1 hq2 hq3 => hkp q hq1 (by omega))
          replace hEm := hEm.kept (hkp _ hEm.lt (by omega))
          replace hPu := hPu.put hq (hkp _ hPu.1.lt (by omega)) (fun u hu hne => hkp _ (hPu.2 u hu).1.lt (by omega)) (fun u hu hne => hkp _ (hPu.2 u hu).2.1.lt (by omega))
          refine lv_aload_n hx hb dX1_fillPurses_72 rfl (lv_at hl 2 rfl) ?_
          refine va_get (D := g.1) (ci := 1) (v := .ref (f + 6)) (C := RX1) (T := TX1) (N := 16) hx hb hts (by decide +kernel) hown hK.1 (xr_one hO) 0 rfl rfl 5 (by decide) (hts (.fieldLink RX1 29 "SharesDesk$Phase" "payers" "[I") (by decide +kernel)) (fun _ h9 => h9) rfl dX1_fillPurses_73 ?_
          refine lv_aload_n hx hb dX1_fillPurses_76 rfl (lv_at hl 2 rfl) ?_
          refine lv_dup hx hb dX1_fillPurses_77 rfl ?_
          refine va_get (D := g.1) (ci := 1) (v := .int (nI ((vlG pay vs v).2))) (C := RX1) (T := TX1) (N := 16) hx hb hts (by decide +kernel) hown hK.1 (xr_one hO) 0 rfl rfl 6 (by decide) (hts (.fieldLink RX1 118 "SharesDesk$Phase" "payerCount" "I") (by decide +kernel)) (fun _ h9 => h9) rfl dX1_fillPurses_78 ?_
          refine lv_dup_x1 hx hb dX1_fillPurses_81 rfl rfl ?_
          refine lv_iconst (v := 1) hx hb dX1_fillPurses_82 (by decide) ?_
          refine lv_iadd hx hb dX1_fillPurses_83 ?_
          refine xr_ti (x' := nI ((vlG pay vs v).2 + 1)) (nI_1 _) ?_
          refine xr_put (ci := 1) (v := .int (nI ((vlG pay vs v).2 + 1))) (ty := .int) (C := RX1) (T := TX1) (N := 16) hx hb hts (by decide +kernel) tyX1 tyX1_ok nmX1 hown hK.1 hO hS (show f ≤ f ∧ f < f + 280 by omega) rfl 6 (by decide) (hts (.fieldLink RX1 118 "SharesDesk$Phase" "payerCount" "I") (by decide +kernel)) rfl (by decide +kernel) rfl rfl (Nat.le_of_ble_eq_true rfl) dX1_fillPurses_84 (fun H locs hz hkp hO hS => ?_)
          replace hT := hT.kept (fun q hq1 hq2 hq3 => hkp q (by omega))
          replace hBa := hBa.kept (hkp _ (by omega)) (hkp _ (by omega))
          replace hLa := hLa.kept (hkp _ (by omega)) (fun v hv => hkp _ (by omega)) (fun v hv => hkp _ (by omega))
          replace hPy := hPy.kept (hkp _ (by omega))
          replace hPi := hPi.kept (hkp _ (by omega))
          replace hRa := hRa.kept (hkp _ (by omega)) (fun v hv => hkp _ (by omega)) (fun v hv => hkp _ (by omega))
          replace hBb := hBb.kept (hkp _ (by omega)) (fun v hv => hkp _ (by omega)) (fun v hv => hkp _ (by omega))
          replace hBs := hBs.kept (fun q hq1 hq2 hq3 => hkp q (by omega))
          replace hTr := hTr.kept (fun q hq1 hq2 hq3 => hkp q (by omega))
          replace hEm := hEm.kept (hkp _ (by omega))
          replace hPu := hPu.kept (hkp _ (by omega)) (fun v hv => hkp _ (by omega)) (fun v hv => hkp _ (by omega))
          refine lv_iload_n hx hb dX1_fillPurses_87 rfl (lv_at hl 0 rfl) ?_
          refine xr_wr hx hb hK hS (show f ≤ f + 6 ∧ f + 6 < f + 280 by omega) hPy (show (vlG pay vs v).2 < 48 by omega) (by decide) dX1_fillPurses_88 (fun H locs hz hkp hPy hS => ?_)
          replace hT := hT.kept (fun q hq1 hq2 hq3 => hkp q (by omega))
          replace hBa := hBa.kept (hkp _ (by omega)) (hkp _ (by omega))
          replace hLa := hLa.kept (hkp _ (by omega)) (fun v hv => hkp _ (by omega)) (fun v hv => hkp _ (by omega))
          replace hPi := hPi.kept (hkp _ (by omega))
          replace hRa := hRa.kept (hkp _ (by omega)) (fun v hv => hkp _ (by omega)) (fun v hv => hkp _ (by omega))
          replace hBb := hBb.kept (hkp _ (by omega)) (fun v hv => hkp _ (by omega)) (fun v hv => hkp _ (by omega))
          replace hBs := hBs.kept (fun q hq1 hq2 hq3 => hkp q (by omega))
          replace hTr := hTr.kept (fun q hq1 hq2 hq3 => hkp q (by omega))
          replace hEm := hEm.kept (hkp _ (by omega))
          replace hPu := hPu.kept (hkp _ (by omega)) (fun v hv => hkp _ (by omega)) (fun v hv => hkp _ (by omega))
          replace hO := hO.kept (hkp _ (by omega))
          rw [ia_up] at hPy
          refine lv_iinc (v := nI (v + 1)) (lv' := [(3, .int (nI (v + 1))), (2, .int (nI (cnt vs 48))), (0, .ref f), (1, .int (nI rz))]) hx hb dX1_fillPurses_89 hl (k := 0) rfl (nI_1 v) (by decide) rfl (fun ls hl => ?_)
          refine lv_goto (tgt := 27) hx hb dX1_fillPurses_92 (by decide) ?_
          exact ih (v + 1) (by omega) H locs (by rw [vlG, if_pos h8]; exact hO) hT hBa (by rw [puG, if_pos h8]; exact hPu) hLa hEm (by rw [vlG, if_pos h8]; exact hPy) hPi hRa hBb hBs hTr hS ls (lv_sub hl [0, 1, 2, 3] rfl)
  refine lv_aload_n hx hb dX1_fillPurses_0 rfl (lv_at hl 0 rfl) ?_
  refine va_get (D := g.1) (ci := 1) (v := .ref t) (C := RX1) (T := TX1) (N := 16) hx hb hts (by decide +kernel) hown hK.1 (xr_one hO) 0 rfl rfl 0 (by decide) (hts (.fieldLink RX1 51 "SharesDesk$Phase" "town" "LSharesDesk$Town;") (by decide +kernel)) (fun _ h9 => h9) rfl dX1_fillPurses_1 ?_
  refine xr_Vi (rest := []) ⟨hx, hb, hml, hown, hts⟩ (KK_ok g) hK (c_X5_countVoters l g s.heap t c vs ap bu hT) (cwV 0 hts gX1_fillPurses_X5_countVoters rfl rfl rfl (by decide +kernel) ⟨Nat.le_of_ble_eq_true rfl, Nat.le_of_ble_eq_true rfl⟩) (xr_rec hK hT.1 rfl) rfl hl.1 rfl (Nat.le_of_ble_eq_true rfl) dX1_fillPurses_4 ⟨Nat.le_of_ble_eq_true rfl, Nat.le_of_ble_eq_true rfl⟩ hS (fun q h => h.elim) (fun r H locs hq hz hkp hS9 => ?_)
  obtain ⟨rfl, rfl⟩ := hq
  have hS := hS9
  refine lv_istore_n (lv' := [(2, .int (nI (cnt vs 48))), (0, .ref f), (1, .int (nI rz))]) hx hb dX1_fillPurses_7 rfl hl (by decide) rfl (fun ls hl => ?_)
  refine lv_aload_n hx hb dX1_fillPurses_8 rfl (lv_at hl 1 rfl) ?_
  refine va_get (D := g.1) (ci := 1) (v := .ref (f + 1)) (C := RX1) (T := TX1) (N := 16) hx hb hts (by decide +kernel) hown hK.1 (xr_one hO) 0 rfl rfl 1 (by decide) (hts (.fieldLink RX1 12 "SharesDesk$Phase" "base" "LSharesDesk$Natural;") (by decide +kernel)) (fun _ h9 => h9) rfl dX1_fillPurses_9 ?_
  refine lv_iload_n hx hb dX1_fillPurses_12 rfl (lv_at hl 0 rfl) ?_
  refine lv_iconst (v := 1) hx hb dX1_fillPurses_13 (by decide) ?_
  refine va_mmax hx hb (hml.trans hl.1.symm) hown (hts (.methodLink RX1 127 Lib.Math.max.name) (by decide +kernel)) (hts (.static Lib.Math.max.name) (by decide +kernel)) (hts (.initialized "java/lang/Math") (by decide +kernel)) (hts _ (List.mem_cons_of_mem _ (List.mem_append_left _ (List.mem_append_left _ (List.mem_append_left _ (List.mem_append_left _ (List.mem_of_getElem? (i := 5) rfl))))))) (Nat.le_of_ble_eq_true rfl) (Nat.le_of_ble_eq_true rfl) (Nat.le_of_ble_eq_true rfl) (Nat.le_of_ble_eq_true rfl) dX1_fillPurses_14 ?_
  refine xr_ti (x' := nI (if cnt vs 48 = 0 then 1 else cnt vs 48)) (max1 (by omega)) ?_
  refine xr_Vv (rest := []) ⟨hx, hb, hml, hown, hts⟩ (KK_ok g) hK (c_X0_set l g s.heap (f + 1) B (if cnt vs 48 = 0 then 1 else cnt vs 48) hBa (by split <;> omega)) (cwV 1 hts gX1_fillPurses_X0_set rfl rfl rfl (by decide +kernel) ⟨Nat.le_of_ble_eq_true rfl, Nat.le_of_ble_eq_true rfl⟩) (xr_rec hK hBa.1 rfl) rfl hl.1 rfl (Nat.le_of_ble_eq_true rfl) dX1_fillPurses_17 ⟨Nat.le_of_ble_eq_true rfl, Nat.le_of_ble_eq_true rfl⟩ hS (fun q h => by have h : q = f + 1 + 1 := h; show f ≤ q ∧ q < f + 280; omega) (fun _ H locs hq hz hkp hS => ?_)
  replace hkp := fun (q : Nat) h1 (h2 : ¬ (q = f + 1 + 1)) => hkp q h1 h2
  replace hO := hO.kept (hkp _ hO.lt (by omega))
  replace hT := hT.kept (fun q hq1 hq2 hq3 => hkp q hq1 (by omega))
  replace hPu := hPu.kept (hkp _ hPu.1.lt (by omega)) (fun v hv => hkp _ (hPu.2 v hv).1.lt (by omega)) (fun v hv => hkp _ (hPu.2 v hv).2.1.lt (by omega))
  replace hLa := hLa.kept (hkp _ hLa.1.lt (by omega)) (fun v hv => hkp _ (hLa.2 v hv).1.lt (by omega)) (fun v hv => hkp _ (hLa.2 v hv).2.1.lt (by omega))
  replace hEm := hEm.kept (hkp _ hEm.lt (by omega))
  replace hPy := hPy.kept (hkp _ hPy.lt (by omega))
  replace hPi := hPi.kept (hkp _ hPi.lt (by omega))
  replace hRa := hRa.kept (hkp _ hRa.1.lt (by omega)) (fun v hv => hkp _ (hRa.2 v hv).1.lt (by omega)) (fun v hv => hkp _ (hRa.2 v hv).2.1.lt (by omega))
  replace hBb := hBb.kept (hkp _ hBb.1.lt (by omega)) (fun v hv => hkp _ (hBb.2 v hv).1.lt (by omega)) (fun v hv => hkp _ (hBb.2 v hv).2.1.lt (by omega))
  replace hBs := hBs.kept (fun q hq1 hq2 hq3 => hkp q hq1 (by omega))
  replace hTr := hTr.kept (fun q hq1 hq2 hq3 => hkp q hq1 (by omega))
  have hBa := hq
  refine lv_aload_n hx hb dX1_fillPurses_20 rfl (lv_at hl 1 rfl) ?_
  refine lv_iconst (v := 0) hx hb dX1_fillPurses_21 (by decide) ?_
  refine xr_ti (x' := nI 0) rfl ?_
  refine xr_put (ci := 1) (v := .int (nI 0)) (ty := .int) (C := RX1) (T := TX1) (N := 16) hx hb hts (by decide +kernel) tyX1 tyX1_ok nmX1 hown hK.1 hO hS (show f ≤ f ∧ f < f + 280 by omega) rfl 6 (by decide) (hts (.fieldLink RX1 118 "SharesDesk$Phase" "payerCount" "I") (by decide +kernel)) rfl (by decide +kernel) rfl rfl (Nat.le_of_ble_eq_true rfl) dX1_fillPurses_22 (fun H locs hz hkp hO hS => ?_)
  replace hT := hT.kept (fun q hq1 hq2 hq3 => hkp q (by omega))
  replace hPu := hPu.kept (hkp _ (by omega)) (fun v hv => hkp _ (by omega)) (fun v hv => hkp _ (by omega))
  replace hLa := hLa.kept (hkp _ (by omega)) (fun v hv => hkp _ (by omega)) (fun v hv => hkp _ (by omega))
  replace hEm := hEm.kept (hkp _ (by omega))
  replace hPy := hPy.kept (hkp _ (by omega))
  replace hPi := hPi.kept (hkp _ (by omega))
  replace hRa := hRa.kept (hkp _ (by omega)) (fun v hv => hkp _ (by omega)) (fun v hv => hkp _ (by omega))
  replace hBb := hBb.kept (hkp _ (by omega)) (fun v hv => hkp _ (by omega)) (fun v hv => hkp _ (by omega))
  replace hBs := hBs.kept (fun q hq1 hq2 hq3 => hkp q (by omega))
  replace hTr := hTr.kept (fun q hq1 hq2 hq3 => hkp q (by omega))
  replace hBa := hBa.kept (hkp _ (by omega)) (hkp _ (by omega))
  refine lv_iconst (v := 0) hx hb dX1_fillPurses_25 (by decide) ?_
  refine xr_ti (x' := nI 0) rfl ?_
  refine lv_istore_n (lv' := [(3, .int (nI 0)), (2, .int (nI (cnt vs 48))), (0, .ref f), (1, .int (nI rz))]) hx hb dX1_fillPurses_26 rfl hl (by decide) rfl (fun ls hl => ?_)
  exact loop 48 0 (by omega) H locs hO hT hBa hPu hLa hEm hPy hPi hRa hBb hBs hTr hS ls (lv_sub hl [0, 1, 2, 3] rfl)
set_option maxHeartbeats 400000 in
set_option maxRecDepth 100000 in
theorem c_X1_countServed (l : Launch) (g : WG) (H0 : Heap) (t : Nat) (c : Nat → Nat) (vs : Nat) (ap : Nat → Nat) (bu : Nat) (hT : TownAt g H0 t c vs ap bu) (f pc pk ps co op bs tr : Nat) (hO : obj g H0 f 1 (phF f t pc pk ps co op bs tr)) (hft : t + 3 ≤ f ∨ f + 280 ≤ t) (v : Nat) (hv : v < 48) (hps : ps < 2 ^ 31) : Ctr l (KK g) yX1_countServed wsX1_countServed { frames := 1, cells := 0, slots := 0, locals := 20 } [.ref f, .int (nI v)] H0 eI (fun r H => r = nI (cnt (ap v &&& ps) 32) ∧ H = H0) (fun _ => False) := by
  refine xr_enter (cc := cX1_countServed) (maxL := 2) (ret := (some .int)) (by decide) rfl (Nat.le_of_ble_eq_true rfl) ?_
  intro pgm env s mid below meth cde hx hb hr hml hts hown hlocks hnm hH hK ls hl
  subst hH
  have hl : lv_has ls 2 [(0, .ref f), (1, .int (nI v))] := hl
  have hS : va_S (fun _ => False) s.heap s.heap [] := va_S.rf
  have hav := hT.2.2.2.2.2.1 v hv
  refine lv_aload_n hx hb dX1_countServed_0 rfl (lv_at hl 0 rfl) ?_
  refine va_get (D := g.1) (ci := 1) (v := .ref t) (C := RX1) (T := TX1) (N := 16) hx hb hts (by decide +kernel) hown hK.1 (xr_one hO) 0 rfl rfl 0 (by decide) (hts (.fieldLink RX1 51 "SharesDesk$Phase" "town" "LSharesDesk$Town;") (by decide +kernel)) (fun _ h9 => h9) rfl dX1_countServed_1 ?_
  refine va_get (D := g.1) (ci := 5) (v := .ref (t + 2)) (C := RX5) (T := TX5) (N := 4) hx hb hts (by decide +kernel) hown hK.1 (xr_one hT.1) 0 rfl rfl 2 (by decide) (hts (.fieldLink RX1 99 "SharesDesk$Town" "approvals" "[I") (by decide +kernel)) (fun _ h9 => h9) rfl dX1_countServed_4 ?_
  refine lv_iload_n hx hb dX1_countServed_7 rfl (lv_at hl 1 rfl) ?_
  refine xr_rd hx hb hK hT.2.2.1 hv (by decide) dX1_countServed_8 ?_
  refine lv_aload_n hx hb dX1_countServed_9 rfl (lv_at hl 0 rfl) ?_
  refine va_get (D := g.1) (ci := 1) (v := .int (nI ps)) (C := RX1) (T := TX1) (N := 16) hx hb hts (by decide +kernel) hown hK.1 (xr_one hO) 0 rfl rfl 9 (by decide) (hts (.fieldLink RX1 63 "SharesDesk$Phase" "pickedSet" "I") (by decide +kernel)) (fun _ h9 => h9) rfl dX1_countServed_10 ?_
  refine lv_iand hx hb dX1_countServed_13 ?_
  refine xr_ti (x' := nI (ap v &&& ps)) (nx_and2 _ _) ?_
  refine xr_Si (rest := []) ⟨hx, hb, hml, hown, hts⟩ (KK_ok g) hK (c_J6_bitCount_0f7a4 l g s.heap (ap v &&& ps) (Nat.and_lt_two_pow _ hps)) (va_cwS 1 hts gX1_countServed_J6_bitCount_0f7a4 rfl rfl rfl (by decide +kernel) ⟨Nat.le_of_ble_eq_true rfl, Nat.le_of_ble_eq_true rfl⟩) rfl hl.1 rfl (Nat.le_of_ble_eq_true rfl) dX1_countServed_14 ⟨Nat.le_of_ble_eq_true rfl, Nat.le_of_ble_eq_true rfl⟩ hS (fun q h => h.elim) (fun r H locs hq hz hkp hS9 => ?_)
  obtain ⟨rfl, rfl⟩ := hq
  have hS := hS9
  exact xr_iret hx hb hr hlocks hS ⟨rfl, rfl⟩ dX1_countServed_17
end
section
/-! a phase as a row of rounds: pc, ps, co, op, B, pur, las, emp, pay, pik, rat, bas -/
abbrev PSt : Type := Nat × Nat × Nat × Nat × Nat × (Nat → Nat) × (Nat → Nat) × (Nat → Nat) × (Nat → Nat) × (Nat → Nat) × (Nat → Nat) × (Nat → Nat)
def rndR (c ap : Nat → Nat) (rd : Nat) : PSt → PSt → Prop := fun x y => match x with
  | (pc, ps, co, op, B, pur, las, emp, pay, pik, rat, bas) => ∃ (p r k : Nat) (pay2 : Nat → Nat), (fcGo (fun q => shr (supL pur pay ap q pc 0) (B * c q)) c op 16).1 = some (p, r, k) ∧ PermI pay2 (payC pur pay ap p k r pc).1 (payC pur pay ap p k r pc).2 ∧ SortI (payP pur pay ap p k r pc) pay2 (payC pur pay ap p k r pc).2 (payC pur pay ap p k r pc).2 ∧
    y = ((payC pur pay ap p k r pc).2, ps ||| 2 ^ p, co + c p, (fcGo (fun q => shr (supL pur pay ap q pc 0) (B * c q)) c op 16).2 - 2 ^ p, B * k, payP pur pay ap p k r pc, payL pur las pay ap p k r pc, payE pur emp pay ap p k r rd pc, pay2, va_up pik rd p, va_up rat rd r, va_up bas rd (B * k))
def Rch (c ap : Nat → Nat) : Nat → PSt → PSt → Prop
  | 0, x, y => y = x
  | n + 1, x, y => ∃ z, Rch c ap n x z ∧ rndR c ap n z y
def PInv (rd pc op B co : Nat) (pur pay : Nat → Nat) : Prop := pc ≤ 48 ∧ (∀ i, i < pc → pay i < 48) ∧ (∀ i j, i < pc → j < pc → pay i = pay j → i = j) ∧ 0 < B ∧ B ≤ 48 ^ (rd + 1) ∧ (∀ i, i < pc → pur (pay i) ≤ 490000000 * 48 ^ rd) ∧ op < 2 ^ 16 ∧ co ≤ 1000000 * rd
theorem shr_pos : ∀ (L : List Nat) (r : Nat), (shr L r).1 = true → 0 < (shr L r).2.2
  | [], _, h => by cases h
  | x :: xs, r, h => by
    rw [shr] at h ⊢
    split
    · exact Nat.succ_pos _
    · rename_i hn
      rw [if_neg hn] at h
      exact shr_pos xs (r - x) h
theorem fcGo_true {S : Nat → Bool × Nat × Nat} {c : Nat → Nat} {op : Nat} : ∀ n w, (fcGo S c op n).1 = some w → (S w.1).1 = true ∧ (fcGo S c op n).2.testBit w.1 = true
  | 0, w, h => by cases h
  | n + 1, w, h => by
    have ih := fcGo_true (S := S) (c := c) (op := op) n
    have hin := fcGo_in (S := S) (c := c) (op := op) n
    rw [fcGo] at h ⊢
    generalize fcGo S c op n = z at *
    unfold fcStep at h ⊢
    by_cases hb : z.2.testBit n = false
    · rw [if_pos hb] at h ⊢
      exact ih w h
    · rw [if_neg hb] at h ⊢
      have hb2 : z.2.testBit n = true := by cases hq : z.2.testBit n with | false => exact absurd hq hb | true => rfl
      by_cases hs : (S n).1 = false
      · rw [if_pos hs] at h ⊢
        have h1 := ih w h
        refine ⟨h1.1, ?_⟩
        show (z.2 - 2 ^ n).testBit w.1 = true
        have hne : ¬ w.1 = n := by have := (hin w h).1; omega
        rw [clr_bit hb2, h1.2, decide_eq_false hne]
        rfl
      · rw [if_neg hs] at h ⊢
        have hs2 : (S n).1 = true := by cases hq : (S n).1 with | false => exact absurd hq hs | true => rfl
        cases hz : z.1 with
        | none =>
          rw [hz] at h
          cases h
          exact ⟨hs2, hb2⟩
        | some q =>
          rw [hz] at h
          dsimp only at h ⊢
          by_cases ht : bet c n q.1 (S n).2.1 (S n).2.2 q.2.1 q.2.2 = true
          · rw [if_pos ht] at h ⊢
            cases h
            exact ⟨hs2, hb2⟩
          · rw [if_neg ht] at h ⊢
            exact ih w h
theorem payC_in {pur pay ap : Nat → Nat} {p k r : Nat} : ∀ n i, i < (payC pur pay ap p k r n).2 → ∃ j, j < n ∧ (payC pur pay ap p k r n).1 i = pay j
  | 0, i, h => absurd h (Nat.not_lt_zero i)
  | n + 1, i, h => by
    have ih := payC_in (pur := pur) (pay := pay) (ap := ap) (p := p) (k := k) (r := r) n
    rw [payC] at h ⊢
    by_cases e : nPur ap p k r (pay n) (pur (pay n)) = 0
    · rw [if_pos e] at h ⊢
      obtain ⟨j, hj, e2⟩ := ih i h
      exact ⟨j, by omega, e2⟩
    · rw [if_neg e] at h ⊢
      dsimp only at h ⊢
      by_cases e3 : i = (payC pur pay ap p k r n).2
      · exact ⟨n, by omega, by rw [e3, va_up_self]⟩
      · obtain ⟨j, hj, e2⟩ := ih i (by omega)
        exact ⟨j, by omega, by rw [va_up_ne _ _ e3]; exact e2⟩
theorem payC_inj {pur pay ap : Nat → Nat} {p k r N : Nat} (hinj : ∀ i j, i < N → j < N → pay i = pay j → i = j) : ∀ n, n ≤ N → ∀ x y, x < (payC pur pay ap p k r n).2 → y < (payC pur pay ap p k r n).2 → (payC pur pay ap p k r n).1 x = (payC pur pay ap p k r n).1 y → x = y
  | 0, _, x, y, h, _, _ => absurd h (Nat.not_lt_zero x)
  | n + 1, hn, x, y, hx, hy, he => by
    have ih := payC_inj (pur := pur) (pay := pay) (ap := ap) (p := p) (k := k) (r := r) hinj n (by omega)
    have hin := payC_in (pur := pur) (pay := pay) (ap := ap) (p := p) (k := k) (r := r) n
    rw [payC] at hx hy he
    by_cases e : nPur ap p k r (pay n) (pur (pay n)) = 0
    · rw [if_pos e] at hx hy he
      exact ih x y hx hy he
    · rw [if_neg e] at hx hy he
      dsimp only at hx hy he
      generalize payC pur pay ap p k r n = z at *
      by_cases ex : x = z.2
      · by_cases ey : y = z.2
        · omega
        · rw [ex, va_up_self, va_up_ne _ _ ey] at he
          obtain ⟨j, hj, e2⟩ := hin y (by omega)
          rw [e2] at he
          have := hinj n j (by omega) (by omega) he
          omega
      · by_cases ey : y = z.2
        · rw [ey, va_up_self, va_up_ne _ _ ex] at he
          obtain ⟨j, hj, e2⟩ := hin x (by omega)
          rw [e2] at he
          have := hinj j n (by omega) (by omega) he
          omega
        · rw [va_up_ne _ _ ex, va_up_ne _ _ ey] at he
          exact ih x y (by omega) (by omega) he
theorem payP_at {pur pay ap : Nat → Nat} {p k r N : Nat} (hinj : ∀ i j, i < N → j < N → pay i = pay j → i = j) : ∀ n, n ≤ N → ∀ j, j < n → payP pur pay ap p k r n (pay j) = nPur ap p k r (pay j) (pur (pay j))
  | 0, _, j, h => absurd h (Nat.not_lt_zero j)
  | n + 1, hn, j, h => by
    rw [payP]
    by_cases e : j = n
    · rw [e, va_up_self]
    · rw [va_up_ne _ _ (fun q => e (hinj j n (by omega) (by omega) q))]
      exact payP_at hinj n (by omega) j (by omega)
theorem nPur_le {ap : Nat → Nat} {p k r v x : Nat} : nPur ap p k r v x ≤ x * k := by
  unfold nPur
  split
  · exact Nat.sub_le _ _
  · exact Nat.le_refl _
theorem PInv.next {rd pc op B co p k r cp : Nat} {pur pay ap pay2 : Nat → Nat} {op2 : Nat} (h : PInv rd pc op B co pur pay) (hk0 : 0 < k) (hk : k ≤ 48) (hop : op2 ≤ op) (hcp : cp ≤ 1000000) (hp : PermI pay2 (payC pur pay ap p k r pc).1 (payC pur pay ap p k r pc).2) :
    PInv (rd + 1) (payC pur pay ap p k r pc).2 op2 (B * k) (co + cp) (payP pur pay ap p k r pc) pay2 := by
  obtain ⟨h1, h2, h3, h4, h5, h6, h7, h8⟩ := h
  have hle := payC_le (pur := pur) (pay := pay) (ap := ap) (p := p) (k := k) (r := r) pc
  have hin : ∀ i, i < (payC pur pay ap p k r pc).2 → ∃ j, j < pc ∧ pay2 i = pay j := fun i hi => by
    obtain ⟨y, hy, e⟩ := hp.1 i hi
    obtain ⟨j, hj, e2⟩ := payC_in pc y hy
    exact ⟨j, hj, e.trans e2⟩
  refine ⟨by omega, fun i hi => ?_, fun i j hi hj e => hp.2.2 i j hi hj e, Nat.mul_pos h4 hk0, ?_, fun i hi => ?_, by omega, by omega⟩
  · obtain ⟨j, hj, e⟩ := hin i hi
    rw [e]
    exact h2 j hj
  · rw [Nat.pow_succ]
    exact Nat.mul_le_mul h5 hk
  · obtain ⟨j, hj, e⟩ := hin i hi
    rw [e, payP_at h3 pc (Nat.le_refl pc) j hj, Nat.pow_succ, ← Nat.mul_assoc]
    exact Nat.le_trans nPur_le (Nat.mul_le_mul (h6 j hj) hk)
theorem vlG_in {pay : Nat → Nat} {vs : Nat} : ∀ n i, i < (vlG pay vs n).2 → (vlG pay vs n).1 i < n ∧ vs.testBit ((vlG pay vs n).1 i) = true
  | 0, i, h => absurd h (Nat.not_lt_zero i)
  | n + 1, i, h => by
    have ih := vlG_in (pay := pay) (vs := vs) n
    rw [vlG] at h ⊢
    by_cases e : vs.testBit n = true
    · rw [if_pos e] at h ⊢
      dsimp only at h ⊢
      by_cases e3 : i = (vlG pay vs n).2
      · rw [e3, va_up_self]
        exact ⟨Nat.lt_succ_self n, e⟩
      · rw [va_up_ne _ _ e3]
        have := ih i (by omega)
        exact ⟨by omega, this.2⟩
    · rw [if_neg e] at h ⊢
      have := ih i h
      exact ⟨by omega, this.2⟩
theorem vlG_inj {pay : Nat → Nat} {vs : Nat} : ∀ n x y, x < (vlG pay vs n).2 → y < (vlG pay vs n).2 → (vlG pay vs n).1 x = (vlG pay vs n).1 y → x = y
  | 0, x, y, h, _, _ => absurd h (Nat.not_lt_zero x)
  | n + 1, x, y, hx, hy, he => by
    have ih := vlG_inj (pay := pay) (vs := vs) n
    have hin := vlG_in (pay := pay) (vs := vs) n
    rw [vlG] at hx hy he
    by_cases e : vs.testBit n = true
    · rw [if_pos e] at hx hy he
      dsimp only at hx hy he
      generalize vlG pay vs n = z at *
      by_cases ex : x = z.2
      · by_cases ey : y = z.2
        · omega
        · rw [ex, va_up_self, va_up_ne _ _ ey] at he
          have := (hin y (by omega)).1
          omega
      · by_cases ey : y = z.2
        · rw [ey, va_up_self, va_up_ne _ _ ex] at he
          have := (hin x (by omega)).1
          omega
        · rw [va_up_ne _ _ ex, va_up_ne _ _ ey] at he
          exact ih x y (by omega) (by omega) he
    · rw [if_neg e] at hx hy he
      exact ih x y hx hy he
theorem puG_at {pur : Nat → Nat} {vs x : Nat} : ∀ n v, v < n → vs.testBit v = true → puG pur vs x n v = x
  | 0, v, h, _ => absurd h (Nat.not_lt_zero v)
  | n + 1, v, h, hb => by
    rw [puG]
    by_cases e : vs.testBit n = true
    · rw [if_pos e]
      by_cases e2 : v = n
      · rw [e2, va_up_self]
      · rw [va_up_ne _ _ e2]
        exact puG_at n v (by omega) hb
    · rw [if_neg e]
      exact puG_at n v (by have : ¬ v = n := fun q => e (q ▸ hb); omega) hb
theorem PInv.start {c pur pay : Nat → Nat} {vs X : Nat} (hX : X ≤ 490000000) (hcn : cnt vs 48 ≤ 48) : PInv 0 (vlG pay vs 48).2 (setOf c 16) (if cnt vs 48 = 0 then 1 else cnt vs 48) 0 (puG pur vs X 48) (vlG pay vs 48).1 := by
  refine ⟨vlG_le 48, fun i hi => (vlG_in 48 i hi).1, fun i j hi hj e => vlG_inj 48 i j hi hj e, by split <;> omega, by split <;> omega, fun i hi => ?_, setOf_lt c 16, Nat.zero_le _⟩
  rw [puG_at 48 _ (vlG_in 48 i hi).1 (vlG_in 48 i hi).2]
  omega
theorem PInv.bnd {rd pc op B co : Nat} {pur pay : Nat → Nat} (h : PInv rd pc op B co pur pay) (hrd : rd < 16) : B * 48000000 < 2 ^ 128 ∧ ∀ i, i < pc → pur (pay i) * 48 < 2 ^ 128 := by
  obtain ⟨h1, h2, h3, h4, h5, h6, h7, h8⟩ := h
  have e1 : 48 ^ (rd + 1) ≤ 48 ^ 16 := Nat.pow_le_pow_right (by decide) (by omega)
  have e2 : 48 ^ rd ≤ 48 ^ 15 := Nat.pow_le_pow_right (by decide) (by omega)
  have n1 : (48 : Nat) ^ 16 * 48000000 < 2 ^ 128 := by decide
  have n2 : 490000000 * (48 : Nat) ^ 15 * 48 < 2 ^ 128 := by decide
  refine ⟨Nat.lt_of_le_of_lt (Nat.mul_le_mul_right _ (Nat.le_trans h5 e1)) n1, fun i hi => Nat.lt_of_le_of_lt (Nat.mul_le_mul_right _ (Nat.le_trans (h6 i hi) (Nat.mul_le_mul_left _ e2))) n2⟩
end
section
set_option maxHeartbeats 1000000 in
set_option maxRecDepth 100000 in
theorem c_X1_play (l : Launch) (g : WG) (H0 : Heap) (t : Nat) (c : Nat → Nat) (vs : Nat) (ap : Nat → Nat) (bu : Nat) (f pc pk ps co op bs tr B : Nat) (pur las emp pay pik rat bas : Nat → Nat) (rb kb rt kt : Nat) (hO : obj g H0 f 1 (phF f t pc pk ps co op bs tr)) (hT : TownAt g H0 t c vs ap bu) (hBa : NatAt g H0 (f + 1) B) (hPu : PoolAt g H0 (f + 3) (f + 24) 48 pur) (hLa : PoolAt g H0 (f + 4) (f + 26) 48 las) (hEm : xr_ia H0 (f + 5) (gI g) 48 (fun z9 => nI (emp z9))) (hPy : xr_ia H0 (f + 6) (gI g) 48 (fun z9 => nI (pay z9))) (hPi : xr_ia H0 (f + 7) (gI g) 16 (fun z9 => nI (pik z9))) (hRa : PoolAt g H0 (f + 8) (f + 216) 16 rat) (hBb : PoolAt g H0 (f + 9) (f + 218) 16 bas) (hBs : ShareAt g H0 bs rb kb) (hTr : ShareAt g H0 tr rt kt) (hft : t + 3 ≤ f ∨ f + 280 ≤ t) (htb : (tr = f + 10 ∧ bs = f + 17 ∨ tr = f + 17 ∧ bs = f + 10)) (rz : Nat) (hrz : rz ≤ 10000000) : Ctr l (KK g) yX1_play wsX1_play { frames := 5, cells := 0, slots := 0, locals := 127 } [.ref f, .int (nI rz)] H0 eV (fun _ H => ∃ (n : Nat) (pc2 ps2 co2 op2 B2 : Nat) (pur2 las2 emp2 pay2 pik2 rat2 bas2 : Nat → Nat) (op3 bs2 tr2 rb2 kb2 rt2 kt2 : Nat), n ≤ 16 ∧ Rch c ap n ((vlG pay vs 48).2, 0, 0, setOf c 16, (if cnt vs 48 = 0 then 1 else cnt vs 48), puG pur vs (bu + cnt vs 48 * rz) 48, las, emG emp 48, (vlG pay vs 48).1, pik, rat, bas) (pc2, ps2, co2, op2, B2, pur2, las2, emp2, pay2, pik2, rat2, bas2) ∧ (n = 16 ∨ bu < co2 ∨ (fcGo (fun q => shr (supL pur2 pay2 ap q pc2 0) (B2 * c q)) c op2 16).1 = none) ∧ PInv n pc2 op2 B2 co2 pur2 pay2 ∧ (tr2 = f + 10 ∧ bs2 = f + 17 ∨ tr2 = f + 17 ∧ bs2 = f + 10) ∧ obj g H f 1 (phF f t pc2 n ps2 co2 op3 bs2 tr2) ∧ NatAt g H (f + 1) B2 ∧ PoolAt g H (f + 3) (f + 24) 48 pur2 ∧ PoolAt g H (f + 4) (f + 26) 48 las2 ∧ xr_ia H (f + 5) (gI g) 48 (fun z9 => nI (emp2 z9)) ∧ xr_ia H (f + 6) (gI g) 48 (fun z9 => nI (pay2 z9)) ∧ xr_ia H (f + 7) (gI g) 16 (fun z9 => nI (pik2 z9)) ∧ PoolAt g H (f + 8) (f + 216) 16 rat2 ∧ PoolAt g H (f + 9) (f + 218) 16 bas2 ∧ ShareAt g H bs2 rb2 kb2 ∧ ShareAt g H tr2 rt2 kt2) (fun q => f ≤ q ∧ q < f + 280) := by
  refine xr_enter (cc := cX1_play) (maxL := 4) (ret := none) (by decide) rfl (Nat.le_of_ble_eq_true rfl) ?_
  intro pgm env s mid below meth cde hx hb hr hml hts hown hlocks hnm hH hK ls hl
  subst hH
  have hl : lv_has ls 4 [(0, .ref f), (1, .int (nI rz))] := hl
  have hS : va_S (fun q => f ≤ q ∧ q < f + 280) s.heap s.heap [] := va_S.rf
  have hn48 := cnt_le vs 48
  have hbu := hT.2.2.2.2.2.2
  have hnr : cnt vs 48 * rz ≤ 48 * 10000000 := Nat.mul_le_mul hn48 hrz
  have loop : ∀ (n rd : Nat), rd + n = 16 → ∀ (pc2 ps2 co2 op2 B2 : Nat) (pur2 las2 emp2 pay2 pik2 rat2 bas2 : Nat → Nat) (bs2 tr2 rb2 kb2 rt2 kt2 : Nat), Rch c ap rd ((vlG pay vs 48).2, 0, 0, setOf c 16, (if cnt vs 48 = 0 then 1 else cnt vs 48), puG pur vs (bu + cnt vs 48 * rz) 48, las, emG emp 48, (vlG pay vs 48).1, pik, rat, bas) (pc2, ps2, co2, op2, B2, pur2, las2, emp2, pay2, pik2, rat2, bas2) → PInv rd pc2 op2 B2 co2 pur2 pay2 → (tr2 = f + 10 ∧ bs2 = f + 17 ∨ tr2 = f + 17 ∧ bs2 = f + 10) → ∀ (H : Heap) (locs : List Loc), obj g H f 1 (phF f t pc2 rd ps2 co2 op2 bs2 tr2) → TownAt g H t c vs ap bu → NatAt g H (f + 1) B2 → PoolAt g H (f + 3) (f + 24) 48 pur2 → PoolAt g H (f + 4) (f + 26) 48 las2 → xr_ia H (f + 5) (gI g) 48 (fun z9 => nI (emp2 z9)) → xr_ia H (f + 6) (gI g) 48 (fun z9 => nI (pay2 z9)) → xr_ia H (f + 7) (gI g) 16 (fun z9 => nI (pik2 z9)) → PoolAt g H (f + 8) (f + 216) 16 rat2 → PoolAt g H (f + 9) (f + 218) 16 bas2 → ShareAt g H bs2 rb2 kb2 → ShareAt g H tr2 rt2 kt2 → va_S (fun q => f ≤ q ∧ q < f + 280) s.heap H locs → ∀ ls : Array Slot, lv_has ls 4 [(2, .int (nI rd)), (0, .ref f)] → W pgm l env { frames := 5, cells := 0, slots := 0, locals := 127 } s mid ([.ref f, .int (nI rz)] : List Value).toArray below meth cde H locs 0 0 (MQ below (xr_Post eV (fun _ H => ∃ (n : Nat) (pc2 ps2 co2 op2 B2 : Nat) (pur2 las2 emp2 pay2 pik2 rat2 bas2 : Nat → Nat) (op3 bs2 tr2 rb2 kb2 rt2 kt2 : Nat), n ≤ 16 ∧ Rch c ap n ((vlG pay vs 48).2, 0, 0, setOf c 16, (if cnt vs 48 = 0 then 1 else cnt vs 48), puG pur vs (bu + cnt vs 48 * rz) 48, las, emG emp 48, (vlG pay vs 48).1, pik, rat, bas) (pc2, ps2, co2, op2, B2, pur2, las2, emp2, pay2, pik2, rat2, bas2) ∧ (n = 16 ∨ bu < co2 ∨ (fcGo (fun q => shr (supL pur2 pay2 ap q pc2 0) (B2 * c q)) c op2 16).1 = none) ∧ PInv n pc2 op2 B2 co2 pur2 pay2 ∧ (tr2 = f + 10 ∧ bs2 = f + 17 ∨ tr2 = f + 17 ∧ bs2 = f + 10) ∧ obj g H f 1 (phF f t pc2 n ps2 co2 op3 bs2 tr2) ∧ NatAt g H (f + 1) B2 ∧ PoolAt g H (f + 3) (f + 24) 48 pur2 ∧ PoolAt g H (f + 4) (f + 26) 48 las2 ∧ xr_ia H (f + 5) (gI g) 48 (fun z9 => nI (emp2 z9)) ∧ xr_ia H (f + 6) (gI g) 48 (fun z9 => nI (pay2 z9)) ∧ xr_ia H (f + 7) (gI g) 16 (fun z9 => nI (pik2 z9)) ∧ PoolAt g H (f + 8) (f + 216) 16 rat2 ∧ PoolAt g H (f + 9) (f + 218) 16 bas2 ∧ ShareAt g H bs2 rb2 kb2 ∧ ShareAt g H tr2 rt2 kt2) (fun q => f ≤ q ∧ q < f + 280)) ([.ref f, .int (nI rz)] : List Value).toArray s ({ frames := 5, cells := 0, slots := 0, locals := 127 } : Room).cells ({ frames := 5, cells := 0, slots := 0, locals := 127 } : Room).slots (fun q => f ≤ q ∧ q < f + 280)) (F0 mid 33 ls []) := by
    intro n
    induction n with
    | zero =>
      intro rd h1 pc2 ps2 co2 op2 B2 pur2 las2 emp2 pay2 pik2 rat2 bas2 bs2 tr2 rb2 kb2 rt2 kt2 hR hI htb H locs hO hT hBa hPu hLa hEm hPy hPi hRa hBb hBs hTr hS ls hl
      refine lv_iload_n hx hb dX1_play_33 rfl (lv_at hl 0 rfl) ?_
      refine lv_bipush (v := 16) hx hb dX1_play_34 (by decide) ?_
      refine lv_icmp_ge (tgt := 75) hx hb dX1_play_36 (by decide) (fun hc => ?_) (fun hc => ?_)
      · clear hc
        exact xr_vret hx hb hr hlocks hS ⟨rd, pc2, ps2, co2, op2, B2, pur2, las2, emp2, pay2, pik2, rat2, bas2, op2, bs2, tr2, rb2, kb2, rt2, kt2, by omega, hR, (Or.inl (by omega)), hI, htb, ⟨hO, hBa, hPu, hLa, hEm, hPy, hPi, hRa, hBb, hBs, hTr⟩⟩ dX1_play_75
      · exact absurd (nI_le (show 16 ≤ rd by omega) (by omega)) hc
    | succ n ih =>
      intro rd h1 pc2 ps2 co2 op2 B2 pur2 las2 emp2 pay2 pik2 rat2 bas2 bs2 tr2 rb2 kb2 rt2 kt2 hR hI htb H locs hO hT hBa hPu hLa hEm hPy hPi hRa hBb hBs hTr hS ls hl
      refine lv_iload_n hx hb dX1_play_33 rfl (lv_at hl 0 rfl) ?_
      refine lv_bipush (v := 16) hx hb dX1_play_34 (by decide) ?_
      refine lv_icmp_ge (tgt := 75) hx hb dX1_play_36 (by decide) (fun hc => ?_) (fun hc => ?_)
      · exact absurd ((nI_leI (a := 16) (b := rd) (by decide) (by omega)).mp hc) (by omega)
      · clear hc
        obtain ⟨hb1, hb2⟩ := hI.bnd (by omega)
        obtain ⟨i1, i2, i3, i4, i5, i6, i7, i8⟩ := id hI
        refine lv_aload_n hx hb dX1_play_39 rfl (lv_at hl 1 rfl) ?_
        refine xr_Vi (rest := []) ⟨hx, hb, hml, hown, hts⟩ (KK_ok g) hK (c_X1_overspends l g H t c vs ap bu hT f pc2 rd ps2 co2 op2 bs2 tr2 hO hft (by omega)) (cwV 0 hts gX1_play_X1_overspends rfl rfl rfl (by decide +kernel) ⟨Nat.le_of_ble_eq_true rfl, Nat.le_of_ble_eq_true rfl⟩) (xr_rec hK hO rfl) rfl hl.1 rfl (Nat.le_of_ble_eq_true rfl) dX1_play_40 ⟨Nat.le_of_ble_eq_true rfl, Nat.le_of_ble_eq_true rfl⟩ hS (fun q h => h.elim) (fun r H locs hq hz hkp hS9 => ?_)
        obtain ⟨rfl, rfl⟩ := hq
        have hS := hS9
        refine lv_if_ne (tgt := 75) hx hb dX1_play_43 (by decide) (fun hc => ?_) (fun hc => ?_)
        · have h8 := of_decide_eq_true (b2i_n0.mp hc)
          exact xr_vret hx hb hr hlocks hS ⟨rd, pc2, ps2, co2, op2, B2, pur2, las2, emp2, pay2, pik2, rat2, bas2, op2, bs2, tr2, rb2, kb2, rt2, kt2, by omega, hR, (Or.inr (Or.inl h8)), hI, htb, ⟨hO, hBa, hPu, hLa, hEm, hPy, hPi, hRa, hBb, hBs, hTr⟩⟩ dX1_play_75
        · clear hc
          refine lv_aload_n hx hb dX1_play_46 rfl (lv_at hl 1 rfl) ?_
          refine xr_Vi (rest := []) ⟨hx, hb, hml, hown, hts⟩ (KK_ok g) hK (c_X1_findCheapest l g H t c vs ap bu hT f pc2 rd ps2 co2 op2 bs2 tr2 hO hft pay2 i1 i2 hPy B2 hBa pur2 hPu hb1 hb2 rt2 kt2 rb2 kb2 hTr hBs htb i7) (cwV 0 hts gX1_play_X1_findCheapest rfl rfl rfl (by decide +kernel) ⟨Nat.le_of_ble_eq_true rfl, Nat.le_of_ble_eq_true rfl⟩) (xr_rec hK hO rfl) rfl hl.1 rfl (Nat.le_of_ble_eq_true rfl) dX1_play_47 ⟨Nat.le_of_ble_eq_true rfl, Nat.le_of_ble_eq_true rfl⟩ hS (fun q h => by have h : q = f ∨ (f + 10 ≤ q ∧ q < f + 24) := h; show f ≤ q ∧ q < f + 280; omega) (fun z H locs hq hz hkp hS => ?_)
          replace hkp := fun (q : Nat) h1 (h2 : ¬ (q = f ∨ (f + 10 ≤ q ∧ q < f + 24))) => hkp q h1 h2
          replace hT := hT.kept (fun q hq1 hq2 hq3 => hkp q hq1 (by omega))
          replace hBa := hBa.kept (hkp _ hBa.1.lt (by omega)) (hkp _ hBa.2.1.lt (by omega))
          replace hPu := hPu.kept (hkp _ hPu.1.lt (by omega)) (fun v hv => hkp _ (hPu.2 v hv).1.lt (by omega)) (fun v hv => hkp _ (hPu.2 v hv).2.1.lt (by omega))
          replace hLa := hLa.kept (hkp _ hLa.1.lt (by omega)) (fun v hv => hkp _ (hLa.2 v hv).1.lt (by omega)) (fun v hv => hkp _ (hLa.2 v hv).2.1.lt (by omega))
          replace hEm := hEm.kept (hkp _ hEm.lt (by omega))
          replace hPy := hPy.kept (hkp _ hPy.lt (by omega))
          replace hPi := hPi.kept (hkp _ hPi.lt (by omega))
          replace hRa := hRa.kept (hkp _ hRa.1.lt (by omega)) (fun v hv => hkp _ (hRa.2 v hv).1.lt (by omega)) (fun v hv => hkp _ (hRa.2 v hv).2.1.lt (by omega))
          replace hBb := hBb.kept (hkp _ hBb.1.lt (by omega)) (fun v hv => hkp _ (hBb.2 v hv).1.lt (by omega)) (fun v hv => hkp _ (hBb.2 v hv).2.1.lt (by omega))
          obtain ⟨bs3, tr3, rb3, kb3, rt3, kt3, htb3, hO, hBs, hTr, hw1, hw2⟩ := hq
          refine lv_istore_n (lv' := [(3, .int z), (2, .int (nI rd)), (0, .ref f)]) hx hb dX1_play_50 rfl hl (by decide) rfl (fun ls hl => ?_)
          refine lv_iload_n hx hb dX1_play_51 rfl (lv_at hl 0 rfl) ?_
          refine lv_iconst (v := (-1)) hx hb dX1_play_52 (by decide) ?_
          refine lv_icmp_ne (tgt := 59) hx hb dX1_play_53 (by decide) (fun h5 => ?_) (fun h5 => ?_)
          · obtain ⟨w9, hw⟩ : ∃ w, (fcGo (fun q => shr (supL pur2 pay2 ap q pc2 0) (B2 * c q)) c op2 16).1 = some w := by cases hq : (fcGo (fun q => shr (supL pur2 pay2 ap q pc2 0) (B2 * c q)) c op2 16).1 with | none => exact absurd (hw2 hq) h5 | some w => exact ⟨w, rfl⟩
            obtain ⟨p9, r9, k9⟩ := w9
            obtain ⟨hz1, hz2, hz3⟩ := hw1 _ hw
            dsimp only at hz1 hz2 hz3
            subst hz1
            replace hz2 := hz2.symm
            subst hz2
            replace hz3 := hz3.symm
            subst hz3
            obtain ⟨hp16, hsh⟩ := fcGo_in 16 _ hw
            obtain ⟨hst, hbit⟩ := fcGo_true 16 _ hw
            dsimp only at hp16 hsh hst hbit
            have hk0 : 0 < k9 := by have h := shr_pos _ _ hst; rw [show k9 = (shr (supL pur2 pay2 ap p9 pc2 0) (B2 * c p9)).2.2 from congrArg Prod.snd hsh]; exact h
            have hk48 : k9 ≤ 48 := by have h := (shr_le (supL pur2 pay2 ap p9 pc2 0) (B2 * c p9)).2; have h2 := supL_len (pur := pur2) (pay := pay2) (ap := ap) (p := p9) pc2 0; rw [show k9 = (shr (supL pur2 pay2 ap p9 pc2 0) (B2 * c p9)).2.2 from congrArg Prod.snd hsh]; omega
            have hop3 := fcGo_op (S := (fun q => shr (supL pur2 pay2 ap q pc2 0) (B2 * c q))) (c := c) (op := op2) 16
            have hBk : B2 * k9 < 2 ^ 128 := Nat.lt_of_le_of_lt (Nat.mul_le_mul_left _ (show k9 ≤ 48000000 by omega)) hb1
            have hcp := hT.2.2.2.1 p9 hp16
            refine lv_aload_n hx hb dX1_play_59 rfl (lv_at hl 2 rfl) ?_
            refine lv_iload_n hx hb dX1_play_60 rfl (lv_at hl 0 rfl) ?_
            refine lv_iload_n hx hb dX1_play_61 rfl (lv_at hl 1 rfl) ?_
            refine xr_Vv (rest := []) ⟨hx, hb, hml, hown, hts⟩ (KK_ok g) hK (c_X1_pay l g H t c vs ap bu f pc2 rd ps2 co2 (fcGo (fun q => shr (supL pur2 pay2 ap q pc2 0) (B2 * c q)) c op2 16).2 bs3 tr3 B2 pur2 las2 emp2 pay2 pik2 rat2 bas2 r9 k9 rt3 kt3 hO hT hBa hPu hLa hEm hPy hPi hRa hBb hBs hTr hft htb3 i1 i2 i3 hk48 hBk hb2 (by omega) p9 rd hp16 (by omega) hbit) (cwV 2 hts gX1_play_X1_pay rfl rfl rfl (by decide +kernel) ⟨Nat.le_of_ble_eq_true rfl, Nat.le_of_ble_eq_true rfl⟩) (xr_rec hK hO rfl) rfl hl.1 rfl (Nat.le_of_ble_eq_true rfl) dX1_play_62 ⟨Nat.le_of_ble_eq_true rfl, Nat.le_of_ble_eq_true rfl⟩ hS (fun q h => h) (fun _ H locs hq hz hkp hS => ?_)
            replace hkp := fun (q : Nat) h1 (h2 : ¬ (f ≤ q ∧ q < f + 280)) => hkp q h1 h2
            replace hT := hT.kept (fun q hq1 hq2 hq3 => hkp q hq1 (by omega))
            obtain ⟨hO, hBa, hPu, hLa, hEm, hPy, hPi, hRa, hBb, hBs, hTr⟩ := hq
            refine lv_aload_n hx hb dX1_play_65 rfl (lv_at hl 2 rfl) ?_
            refine xr_Vv (rest := []) ⟨hx, hb, hml, hown, hts⟩ (KK_ok g) hK (c_X1_sortPayers l g H t f (payC pur2 pay2 ap p9 k9 r9 pc2).2 (rd + 1) (ps2 ||| 2 ^ p9) (co2 + c p9) ((fcGo (fun q => shr (supL pur2 pay2 ap q pc2 0) (B2 * c q)) c op2 16).2 - 2 ^ p9) bs3 tr3 hO (payC pur2 pay2 ap p9 k9 r9 pc2).1 (by have := payC_le (pur := pur2) (pay := pay2) (ap := ap) (p := p9) (k := k9) (r := r9) pc2; omega) (fun i hi => by obtain ⟨j, hj, e⟩ := payC_in pc2 i hi; rw [e]; exact i2 j hj) hPy (fun x y hx hy e => payC_inj i3 pc2 (Nat.le_refl _) x y hx hy e) (payP pur2 pay2 ap p9 k9 r9 pc2) hPu) (cwV 0 hts gX1_play_X1_sortPayers rfl rfl rfl (by decide +kernel) ⟨Nat.le_of_ble_eq_true rfl, Nat.le_of_ble_eq_true rfl⟩) (xr_rec hK hO rfl) rfl hl.1 rfl (Nat.le_of_ble_eq_true rfl) dX1_play_66 ⟨Nat.le_of_ble_eq_true rfl, Nat.le_of_ble_eq_true rfl⟩ hS (fun q h => by have h : q = f + 6 := h; show f ≤ q ∧ q < f + 280; omega) (fun _ H locs hq hz hkp hS => ?_)
            replace hkp := fun (q : Nat) h1 (h2 : ¬ (q = f + 6)) => hkp q h1 h2
            replace hO := hO.kept (hkp _ hO.lt (by omega))
            replace hT := hT.kept (fun q hq1 hq2 hq3 => hkp q hq1 (by omega))
            replace hBa := hBa.kept (hkp _ hBa.1.lt (by omega)) (hkp _ hBa.2.1.lt (by omega))
            replace hPu := hPu.kept (hkp _ hPu.1.lt (by omega)) (fun v hv => hkp _ (hPu.2 v hv).1.lt (by omega)) (fun v hv => hkp _ (hPu.2 v hv).2.1.lt (by omega))
            replace hLa := hLa.kept (hkp _ hLa.1.lt (by omega)) (fun v hv => hkp _ (hLa.2 v hv).1.lt (by omega)) (fun v hv => hkp _ (hLa.2 v hv).2.1.lt (by omega))
            replace hEm := hEm.kept (hkp _ hEm.lt (by omega))
            replace hPi := hPi.kept (hkp _ hPi.lt (by omega))
            replace hRa := hRa.kept (hkp _ hRa.1.lt (by omega)) (fun v hv => hkp _ (hRa.2 v hv).1.lt (by omega)) (fun v hv => hkp _ (hRa.2 v hv).2.1.lt (by omega))
            replace hBb := hBb.kept (hkp _ hBb.1.lt (by omega)) (fun v hv => hkp _ (hBb.2 v hv).1.lt (by omega)) (fun v hv => hkp _ (hBb.2 v hv).2.1.lt (by omega))
            replace hBs := hBs.kept (fun q hq1 hq2 hq3 => hkp q hq1 (by omega))
            replace hTr := hTr.kept (fun q hq1 hq2 hq3 => hkp q hq1 (by omega))
            obtain ⟨pay3, hpm, hso, hPy⟩ := hq
            refine lv_iinc (v := nI (rd + 1)) (lv' := [(2, .int (nI (rd + 1))), (3, .int (nI p9)), (0, .ref f)]) hx hb dX1_play_69 hl (k := 1) rfl (nI_1 rd) (by decide) rfl (fun ls hl => ?_)
            refine lv_goto (tgt := 33) hx hb dX1_play_72 (by decide) ?_
            exact ih (rd + 1) (by omega) _ _ _ _ _ _ _ _ _ _ _ _ bs3 tr3 r9 k9 rt3 kt3 ⟨_, hR, p9, r9, k9, pay3, hw, hpm, hso, rfl⟩ (hI.next hk0 hk48 (Nat.le_trans (Nat.sub_le _ _) hop3) hcp hpm) htb3 H locs hO hT hBa hPu hLa hEm hPy hPi hRa hBb hBs hTr hS ls (lv_sub hl [0, 2] rfl)
          · have h6 : (fcGo (fun q => shr (supL pur2 pay2 ap q pc2 0) (B2 * c q)) c op2 16).1 = none := by cases hq : (fcGo (fun q => shr (supL pur2 pay2 ap q pc2 0) (B2 * c q)) c op2 16).1 with | none => rfl | some w => exact absurd ((hw1 w hq).1.symm.trans h5) (nI_m1 (by have := (fcGo_in 16 w hq).1; omega))
            refine lv_goto (tgt := 75) hx hb dX1_play_56 (by decide) ?_
            exact xr_vret hx hb hr hlocks hS ⟨rd, pc2, ps2, co2, op2, B2, pur2, las2, emp2, pay2, pik2, rat2, bas2, (fcGo (fun q => shr (supL pur2 pay2 ap q pc2 0) (B2 * c q)) c op2 16).2, bs3, tr3, rb3, kb3, rt3, kt3, by omega, hR, (Or.inr (Or.inr h6)), hI, htb3, ⟨hO, hBa, hPu, hLa, hEm, hPy, hPi, hRa, hBb, hBs, hTr⟩⟩ dX1_play_75
  refine lv_aload_n hx hb dX1_play_0 rfl (lv_at hl 0 rfl) ?_
  refine lv_iload_n hx hb dX1_play_1 rfl (lv_at hl 1 rfl) ?_
  refine xr_Vv (rest := []) ⟨hx, hb, hml, hown, hts⟩ (KK_ok g) hK (c_X1_fillPurses l g s.heap t c vs ap bu f pc pk ps co op bs tr B pur las emp pay pik rat bas rb kb rt kt hO hT hBa hPu hLa hEm hPy hPi hRa hBb hBs hTr hft htb rz hrz) (cwV 1 hts gX1_play_X1_fillPurses rfl rfl rfl (by decide +kernel) ⟨Nat.le_of_ble_eq_true rfl, Nat.le_of_ble_eq_true rfl⟩) (xr_rec hK hO rfl) rfl hl.1 rfl (Nat.le_of_ble_eq_true rfl) dX1_play_2 ⟨Nat.le_of_ble_eq_true rfl, Nat.le_of_ble_eq_true rfl⟩ hS (fun q h => h) (fun _ H locs hq hz hkp hS => ?_)
  replace hkp := fun (q : Nat) h1 (h2 : ¬ (f ≤ q ∧ q < f + 280)) => hkp q h1 h2
  replace hT := hT.kept (fun q hq1 hq2 hq3 => hkp q hq1 (by omega))
  obtain ⟨hO, hBa, hPu, hLa, hEm, hPy, hPi, hRa, hBb, hBs, hTr⟩ := hq
  refine lv_aload_n hx hb dX1_play_5 rfl (lv_at hl 0 rfl) ?_
  refine lv_iconst (v := 0) hx hb dX1_play_6 (by decide) ?_
  refine xr_ti (x' := nI 0) rfl ?_
  refine xr_put (ci := 1) (v := .int (nI 0)) (ty := .int) (C := RX1) (T := TX1) (N := 16) hx hb hts (by decide +kernel) tyX1 tyX1_ok nmX1 hown hK.1 hO hS (show f ≤ f ∧ f < f + 280 by omega) rfl 8 (by decide) (hts (.fieldLink RX1 59 "SharesDesk$Phase" "picked" "I") (by decide +kernel)) rfl (by decide +kernel) rfl rfl (Nat.le_of_ble_eq_true rfl) dX1_play_7 (fun H locs hz hkp hO hS => ?_)
  replace hT := hT.kept (fun q hq1 hq2 hq3 => hkp q (by omega))
  replace hBa := hBa.kept (hkp _ (by omega)) (hkp _ (by omega))
  replace hPu := hPu.kept (hkp _ (by omega)) (fun v hv => hkp _ (by omega)) (fun v hv => hkp _ (by omega))
  replace hLa := hLa.kept (hkp _ (by omega)) (fun v hv => hkp _ (by omega)) (fun v hv => hkp _ (by omega))
  replace hEm := hEm.kept (hkp _ (by omega))
  replace hPy := hPy.kept (hkp _ (by omega))
  replace hPi := hPi.kept (hkp _ (by omega))
  replace hRa := hRa.kept (hkp _ (by omega)) (fun v hv => hkp _ (by omega)) (fun v hv => hkp _ (by omega))
  replace hBb := hBb.kept (hkp _ (by omega)) (fun v hv => hkp _ (by omega)) (fun v hv => hkp _ (by omega))
  replace hBs := hBs.kept (fun q hq1 hq2 hq3 => hkp q (by omega))
  replace hTr := hTr.kept (fun q hq1 hq2 hq3 => hkp q (by omega))
  refine lv_aload_n hx hb dX1_play_10 rfl (lv_at hl 0 rfl) ?_
  refine lv_iconst (v := 0) hx hb dX1_play_11 (by decide) ?_
  refine xr_ti (x' := nI 0) rfl ?_
  refine xr_put (ci := 1) (v := .int (nI 0)) (ty := .int) (C := RX1) (T := TX1) (N := 16) hx hb hts (by decide +kernel) tyX1 tyX1_ok nmX1 hown hK.1 hO hS (show f ≤ f ∧ f < f + 280 by omega) rfl 9 (by decide) (hts (.fieldLink RX1 63 "SharesDesk$Phase" "pickedSet" "I") (by decide +kernel)) rfl (by decide +kernel) rfl rfl (Nat.le_of_ble_eq_true rfl) dX1_play_12 (fun H locs hz hkp hO hS => ?_)
  replace hT := hT.kept (fun q hq1 hq2 hq3 => hkp q (by omega))
  replace hBa := hBa.kept (hkp _ (by omega)) (hkp _ (by omega))
  replace hPu := hPu.kept (hkp _ (by omega)) (fun v hv => hkp _ (by omega)) (fun v hv => hkp _ (by omega))
  replace hLa := hLa.kept (hkp _ (by omega)) (fun v hv => hkp _ (by omega)) (fun v hv => hkp _ (by omega))
  replace hEm := hEm.kept (hkp _ (by omega))
  replace hPy := hPy.kept (hkp _ (by omega))
  replace hPi := hPi.kept (hkp _ (by omega))
  replace hRa := hRa.kept (hkp _ (by omega)) (fun v hv => hkp _ (by omega)) (fun v hv => hkp _ (by omega))
  replace hBb := hBb.kept (hkp _ (by omega)) (fun v hv => hkp _ (by omega)) (fun v hv => hkp _ (by omega))
  replace hBs := hBs.kept (fun q hq1 hq2 hq3 => hkp q (by omega))
  replace hTr := hTr.kept (fun q hq1 hq2 hq3 => hkp q (by omega))
  refine lv_aload_n hx hb dX1_play_15 rfl (lv_at hl 0 rfl) ?_
  refine lv_iconst (v := 0) hx hb dX1_play_16 (by decide) ?_
  refine xr_ti (x' := nI 0) rfl ?_
  refine xr_put (ci := 1) (v := .int (nI 0)) (ty := .int) (C := RX1) (T := TX1) (N := 16) hx hb hts (by decide +kernel) tyX1 tyX1_ok nmX1 hown hK.1 hO hS (show f ≤ f ∧ f < f + 280 by omega) rfl 10 (by decide) (hts (.fieldLink RX1 66 "SharesDesk$Phase" "cost" "I") (by decide +kernel)) rfl (by decide +kernel) rfl rfl (Nat.le_of_ble_eq_true rfl) dX1_play_17 (fun H locs hz hkp hO hS => ?_)
  replace hT := hT.kept (fun q hq1 hq2 hq3 => hkp q (by omega))
  replace hBa := hBa.kept (hkp _ (by omega)) (hkp _ (by omega))
  replace hPu := hPu.kept (hkp _ (by omega)) (fun v hv => hkp _ (by omega)) (fun v hv => hkp _ (by omega))
  replace hLa := hLa.kept (hkp _ (by omega)) (fun v hv => hkp _ (by omega)) (fun v hv => hkp _ (by omega))
  replace hEm := hEm.kept (hkp _ (by omega))
  replace hPy := hPy.kept (hkp _ (by omega))
  replace hPi := hPi.kept (hkp _ (by omega))
  replace hRa := hRa.kept (hkp _ (by omega)) (fun v hv => hkp _ (by omega)) (fun v hv => hkp _ (by omega))
  replace hBb := hBb.kept (hkp _ (by omega)) (fun v hv => hkp _ (by omega)) (fun v hv => hkp _ (by omega))
  replace hBs := hBs.kept (fun q hq1 hq2 hq3 => hkp q (by omega))
  replace hTr := hTr.kept (fun q hq1 hq2 hq3 => hkp q (by omega))
  refine lv_aload_n hx hb dX1_play_20 rfl (lv_at hl 0 rfl) ?_
  refine lv_aload_n hx hb dX1_play_21 rfl (lv_at hl 0 rfl) ?_
  refine va_get (D := g.1) (ci := 1) (v := .ref t) (C := RX1) (T := TX1) (N := 16) hx hb hts (by decide +kernel) hown hK.1 (xr_one hO) 0 rfl rfl 0 (by decide) (hts (.fieldLink RX1 51 "SharesDesk$Phase" "town" "LSharesDesk$Town;") (by decide +kernel)) (fun _ h9 => h9) rfl dX1_play_22 ?_
  refine xr_Vi (rest := [.ref f]) ⟨hx, hb, hml, hown, hts⟩ (KK_ok g) hK (c_X5_allProjects l g H t c vs ap bu hT) (cwV 0 hts gX1_play_X5_allProjects rfl rfl rfl (by decide +kernel) ⟨Nat.le_of_ble_eq_true rfl, Nat.le_of_ble_eq_true rfl⟩) (xr_rec hK hT.1 rfl) rfl hl.1 rfl (Nat.le_of_ble_eq_true rfl) dX1_play_25 ⟨Nat.le_of_ble_eq_true rfl, Nat.le_of_ble_eq_true rfl⟩ hS (fun q h => h.elim) (fun r H locs hq hz hkp hS9 => ?_)
  obtain ⟨rfl, rfl⟩ := hq
  have hS := hS9
  refine xr_put (ci := 1) (v := .int (nI (setOf c 16))) (ty := .int) (C := RX1) (T := TX1) (N := 16) hx hb hts (by decide +kernel) tyX1 tyX1_ok nmX1 hown hK.1 hO hS (show f ≤ f ∧ f < f + 280 by omega) rfl 13 (by decide) (hts (.fieldLink RX1 75 "SharesDesk$Phase" "open" "I") (by decide +kernel)) rfl (by decide +kernel) rfl rfl (Nat.le_of_ble_eq_true rfl) dX1_play_28 (fun H locs hz hkp hO hS => ?_)
  replace hT := hT.kept (fun q hq1 hq2 hq3 => hkp q (by omega))
  replace hBa := hBa.kept (hkp _ (by omega)) (hkp _ (by omega))
  replace hPu := hPu.kept (hkp _ (by omega)) (fun v hv => hkp _ (by omega)) (fun v hv => hkp _ (by omega))
  replace hLa := hLa.kept (hkp _ (by omega)) (fun v hv => hkp _ (by omega)) (fun v hv => hkp _ (by omega))
  replace hEm := hEm.kept (hkp _ (by omega))
  replace hPy := hPy.kept (hkp _ (by omega))
  replace hPi := hPi.kept (hkp _ (by omega))
  replace hRa := hRa.kept (hkp _ (by omega)) (fun v hv => hkp _ (by omega)) (fun v hv => hkp _ (by omega))
  replace hBb := hBb.kept (hkp _ (by omega)) (fun v hv => hkp _ (by omega)) (fun v hv => hkp _ (by omega))
  replace hBs := hBs.kept (fun q hq1 hq2 hq3 => hkp q (by omega))
  replace hTr := hTr.kept (fun q hq1 hq2 hq3 => hkp q (by omega))
  refine lv_iconst (v := 0) hx hb dX1_play_31 (by decide) ?_
  refine xr_ti (x' := nI 0) rfl ?_
  refine lv_istore_n (lv' := [(2, .int (nI 0)), (0, .ref f), (1, .int (nI rz))]) hx hb dX1_play_32 rfl hl (by decide) rfl (fun ls hl => ?_)
  exact loop 16 0 (by omega) _ _ _ _ _ _ _ _ _ _ _ _ bs tr rb kb rt kt rfl (PInv.start (by omega) hn48) htb H locs hO hT hBa hPu hLa hEm hPy hPi hRa hBb hBs hTr hS ls (lv_sub hl [0, 1] rfl)
end
section
set_option maxHeartbeats 400000 in
set_option maxRecDepth 100000 in
theorem c_X5_init (l : Launch) (g : WG) (H0 : Heap) (a : Nat) (hO : obj g H0 a 5 [.null, .long 0, .null, .int 0]) (hsz : H0.size = a + 1) : Ctr l (KK g) yX5_init wsX5_init { frames := 1, cells := 2, slots := 64, locals := 12 } [.ref a] H0 eV (fun _ H => TownAt g H a (fun _ => 0) 0 (fun _ => 0) 1 ∧ H.size = a + 3) (fun q => q = a ∨ a + 1 ≤ q) := by
  refine xr_enter (cc := cX5_init) (maxL := 1) (ret := none) (by decide) rfl (Nat.le_of_ble_eq_true rfl) ?_
  intro pgm env s mid below meth cde hx hb hr hml hts hown hlocks hnm hH hK ls hl
  subst hH
  have hl : lv_has ls 1 [(0, .ref a)] := hl
  have hS : va_S (fun q => q = a ∨ a + 1 ≤ q) s.heap s.heap [] := va_S.rf
  refine lv_aload_n hx hb dX5_init_0 rfl (lv_at hl 0 rfl) ?_
  refine W.objInit hx hb hown (hts (.methodLink RX5 3 objectInit) (by decide +kernel)) (hts (.instanceMethod objectInit) (by decide +kernel)) (hts _ (List.mem_cons_of_mem _ (List.mem_append_left _ (List.mem_of_getElem? (i := 2) rfl)))) rfl (by rw [hml]; exact hl.1) rfl dX5_init_1 (Nat.le_of_ble_eq_true rfl) (Nat.le_of_ble_eq_true rfl) ?_
  refine W.eq (g2 := F0 mid 4 ls []) rfl ?_
  refine lv_aload_n hx hb dX5_init_4 rfl (lv_at hl 0 rfl) ?_
  refine lv_bipush (v := 16) hx hb dX5_init_5 (by decide) ?_
  refine xr_newa (atype := .int) (cA := gI g) (N := 16) hx hb (hts (.arrayClass .int) (by decide +kernel)) (hK.1.2 0 (gI g, .int) rfl).2 rfl hS (by decide) (by decide) (by decide) (Nat.le_of_ble_eq_true rfl) (Nat.le_of_ble_eq_true rfl) dX5_init_7 (fun H hz hkp hC hS => ?_)
  refine W.widen (k := 1) (n := 16) (Nat.le_of_ble_eq_true rfl) (Nat.le_of_ble_eq_true rfl) ?_
  rw [hsz] at hC hz hkp ⊢
  replace hO := hO.kept (hkp _ (by omega))
  have hsz := hz
  refine xr_putF (ci := 5) (v := .ref (a + 1)) (ty := .array .int) (C := RX5) (T := TX5) (N := 4) hx hb hts (by decide +kernel) tyX5 tyX5_ok nmX5 hown hK.1 hO hS (Or.inl rfl) rfl 0 (by decide) (hts (.fieldLink RX5 9 "SharesDesk$Town" "costs" "[I") (by decide +kernel)) rfl hnm rfl (by decide +kernel) rfl rfl (Nat.le_of_ble_eq_true rfl) dX5_init_9 (fun H locs hz hkp hO hS => ?_)
  replace hC := hC.kept (hkp _ (by omega))
  replace hsz := hz.trans hsz
  refine lv_aload_n hx hb dX5_init_12 rfl (lv_at hl 0 rfl) ?_
  refine lv_bipush (v := 48) hx hb dX5_init_13 (by decide) ?_
  refine xr_newa (atype := .int) (cA := gI g) (N := 48) hx hb (hts (.arrayClass .int) (by decide +kernel)) (hK.1.2 0 (gI g, .int) rfl).2 rfl hS (by decide) (by decide) (by decide) (Nat.le_of_ble_eq_true rfl) (Nat.le_of_ble_eq_true rfl) dX5_init_15 (fun H hz hkp hP hS => ?_)
  refine W.widen (k := 2) (n := 64) (Nat.le_of_ble_eq_true rfl) (Nat.le_of_ble_eq_true rfl) ?_
  rw [hsz] at hP hz hkp ⊢
  replace hC := hC.kept (hkp _ (by omega))
  replace hO := hO.kept (hkp _ (by omega))
  have hsz := hz
  refine xr_putF (ci := 5) (v := .ref (a + 2)) (ty := .array .int) (C := RX5) (T := TX5) (N := 4) hx hb hts (by decide +kernel) tyX5 tyX5_ok nmX5 hown hK.1 hO hS (Or.inl rfl) rfl 2 (by decide) (hts (.fieldLink RX5 15 "SharesDesk$Town" "approvals" "[I") (by decide +kernel)) rfl hnm rfl (by decide +kernel) rfl rfl (Nat.le_of_ble_eq_true rfl) dX5_init_17 (fun H locs hz hkp hO hS => ?_)
  replace hC := hC.kept (hkp _ (by omega))
  replace hP := hP.kept (hkp _ (by omega))
  replace hsz := hz.trans hsz
  refine lv_aload_n hx hb dX5_init_20 rfl (lv_at hl 0 rfl) ?_
  refine lv_iconst (v := 1) hx hb dX5_init_21 (by decide) ?_
  refine xr_ti (x' := nI 1) rfl ?_
  refine xr_put (ci := 5) (v := .int (nI 1)) (ty := .int) (C := RX5) (T := TX5) (N := 4) hx hb hts (by decide +kernel) tyX5 tyX5_ok nmX5 hown hK.1 hO hS (Or.inl rfl) rfl 3 (by decide) (hts (.fieldLink RX5 18 "SharesDesk$Town" "budget" "I") (by decide +kernel)) rfl (by decide +kernel) rfl rfl (Nat.le_of_ble_eq_true rfl) dX5_init_22 (fun H locs hz hkp hO hS => ?_)
  replace hC := hC.kept (hkp _ (by omega))
  replace hP := hP.kept (hkp _ (by omega))
  replace hsz := hz.trans hsz
  exact xr_vret hx hb hr hlocks hS ⟨⟨hO, hC.to (fun j _ => nI_0.symm), hP.to (fun j _ => nI_0.symm), fun _ _ => Nat.zero_le _, Nat.two_pow_pos _, fun _ _ => Nat.two_pow_pos _, by decide, by decide⟩, hsz⟩ dX5_init_25
set_option maxHeartbeats 400000 in
set_option maxRecDepth 100000 in
theorem c_X5_copy (l : Launch) (g : WG) (H0 : Heap) (a b : Nat) (c : Nat → Nat) (vs : Nat) (ap : Nat → Nat) (bu : Nat) (hT : TownAt g H0 a c vs ap bu) (c2 : Nat → Nat) (vs2 : Nat) (ap2 : Nat → Nat) (bu2 : Nat) (hU : TownAt g H0 b c2 vs2 ap2 bu2) (hab : a + 3 ≤ b ∨ b + 3 ≤ a) : Ctr l (KK g) yX5_copy wsX5_copy { frames := 1, cells := 0, slots := 0, locals := 40 } [.ref a, .ref b] H0 eV (fun _ H => TownAt g H a c2 vs2 ap2 bu2) (fun q => a ≤ q ∧ q < a + 3) := by
  refine xr_enter (cc := cX5_copy) (maxL := 2) (ret := none) (by decide) rfl (Nat.le_of_ble_eq_true rfl) ?_
  intro pgm env s mid below meth cde hx hb hr hml hts hown hlocks hnm hH hK ls hl
  subst hH
  have hl : lv_has ls 2 [(0, .ref a), (1, .ref b)] := hl
  have hS : va_S (fun q => a ≤ q ∧ q < a + 3) s.heap s.heap [] := va_S.rf
  obtain ⟨hO, hcs, ha, hcb, hvb, hab1, hbb⟩ := id hT
  obtain ⟨hQ, hcs2, ha2, hcb2, hvb2, hab2, hbb2⟩ := id hU
  refine lv_aload_n hx hb dX5_copy_0 rfl (lv_at hl 1 rfl) ?_
  refine va_get (D := g.1) (ci := 5) (v := .ref (b + 1)) (C := RX5) (T := TX5) (N := 4) hx hb hts (by decide +kernel) hown hK.1 (xr_one hQ) 0 rfl rfl 0 (by decide) (hts (.fieldLink RX5 9 "SharesDesk$Town" "costs" "[I") (by decide +kernel)) (fun _ h9 => h9) rfl dX5_copy_1 ?_
  refine lv_iconst (v := 0) hx hb dX5_copy_4 (by decide) ?_
  refine lv_aload_n hx hb dX5_copy_5 rfl (lv_at hl 0 rfl) ?_
  refine va_get (D := g.1) (ci := 5) (v := .ref (a + 1)) (C := RX5) (T := TX5) (N := 4) hx hb hts (by decide +kernel) hown hK.1 (xr_one hO) 0 rfl rfl 0 (by decide) (hts (.fieldLink RX5 9 "SharesDesk$Town" "costs" "[I") (by decide +kernel)) (fun _ h9 => h9) rfl dX5_copy_6 ?_
  refine lv_iconst (v := 0) hx hb dX5_copy_9 (by decide) ?_
  refine lv_bipush (v := 16) hx hb dX5_copy_10 (by decide) ?_
  refine xr_ti (x' := nI 16) rfl ?_
  refine xr_cpy hx hb (hml.trans hl.1.symm) hown (hts (.methodLink RX5 39 arraycopyName) (by decide +kernel)) (hts (.native arraycopyName) (by decide +kernel)) (hts (.static arraycopyName) (by decide +kernel)) (hts (.initialized "java/lang/System") (by decide +kernel)) hK hS (show a ≤ a + 1 ∧ a + 1 < a + 3 by omega) hcs2 hcs (by decide) (by decide) (by decide) (Nat.le_of_ble_eq_true rfl) (by decide +kernel) dX5_copy_12 (fun H locs hz hkp hcs hS => ?_)
  replace hO := hO.kept (hkp _ (by omega))
  replace hQ := hQ.kept (hkp _ (by omega))
  replace ha := ha.kept (hkp _ (by omega))
  replace hcs2 := hcs2.kept (hkp _ (by omega))
  replace ha2 := ha2.kept (hkp _ (by omega))
  refine lv_aload_n hx hb dX5_copy_15 rfl (lv_at hl 1 rfl) ?_
  refine va_get (D := g.1) (ci := 5) (v := .ref (b + 2)) (C := RX5) (T := TX5) (N := 4) hx hb hts (by decide +kernel) hown hK.1 (xr_one hQ) 0 rfl rfl 2 (by decide) (hts (.fieldLink RX5 15 "SharesDesk$Town" "approvals" "[I") (by decide +kernel)) (fun _ h9 => h9) rfl dX5_copy_16 ?_
  refine lv_iconst (v := 0) hx hb dX5_copy_19 (by decide) ?_
  refine lv_aload_n hx hb dX5_copy_20 rfl (lv_at hl 0 rfl) ?_
  refine va_get (D := g.1) (ci := 5) (v := .ref (a + 2)) (C := RX5) (T := TX5) (N := 4) hx hb hts (by decide +kernel) hown hK.1 (xr_one hO) 0 rfl rfl 2 (by decide) (hts (.fieldLink RX5 15 "SharesDesk$Town" "approvals" "[I") (by decide +kernel)) (fun _ h9 => h9) rfl dX5_copy_21 ?_
  refine lv_iconst (v := 0) hx hb dX5_copy_24 (by decide) ?_
  refine lv_bipush (v := 48) hx hb dX5_copy_25 (by decide) ?_
  refine xr_ti (x' := nI 48) rfl ?_
  refine xr_cpy hx hb (hml.trans hl.1.symm) hown (hts (.methodLink RX5 39 arraycopyName) (by decide +kernel)) (hts (.native arraycopyName) (by decide +kernel)) (hts (.static arraycopyName) (by decide +kernel)) (hts (.initialized "java/lang/System") (by decide +kernel)) hK hS (show a ≤ a + 2 ∧ a + 2 < a + 3 by omega) ha2 ha (by decide) (by decide) (by decide) (Nat.le_of_ble_eq_true rfl) (by decide +kernel) dX5_copy_27 (fun H locs hz hkp ha hS => ?_)
  replace hO := hO.kept (hkp _ (by omega))
  replace hQ := hQ.kept (hkp _ (by omega))
  replace hcs2 := hcs2.kept (hkp _ (by omega))
  replace ha2 := ha2.kept (hkp _ (by omega))
  replace hcs := hcs.kept (hkp _ (by omega))
  refine lv_aload_n hx hb dX5_copy_30 rfl (lv_at hl 0 rfl) ?_
  refine lv_aload_n hx hb dX5_copy_31 rfl (lv_at hl 1 rfl) ?_
  refine va_get (D := g.1) (ci := 5) (v := .long (lN vs2)) (C := RX5) (T := TX5) (N := 4) hx hb hts (by decide +kernel) hown hK.1 (xr_one hQ) 0 rfl rfl 1 (by decide) (hts (.fieldLink RX5 29 "SharesDesk$Town" "voters" "J") (by decide +kernel)) (fun _ h9 => h9) rfl dX5_copy_32 ?_
  refine xr_put (ci := 5) (v := .long (lN vs2)) (ty := .long) (C := RX5) (T := TX5) (N := 4) hx hb hts (by decide +kernel) tyX5 tyX5_ok nmX5 hown hK.1 hO hS (show a ≤ a ∧ a < a + 3 by omega) rfl 1 (by decide) (hts (.fieldLink RX5 29 "SharesDesk$Town" "voters" "J") (by decide +kernel)) rfl (by decide +kernel) rfl rfl (Nat.le_of_ble_eq_true rfl) dX5_copy_35 (fun H locs hz hkp hO hS => ?_)
  replace hQ := hQ.kept (hkp _ (by omega))
  replace hcs2 := hcs2.kept (hkp _ (by omega))
  replace ha2 := ha2.kept (hkp _ (by omega))
  replace hcs := hcs.kept (hkp _ (by omega))
  replace ha := ha.kept (hkp _ (by omega))
  refine lv_aload_n hx hb dX5_copy_38 rfl (lv_at hl 0 rfl) ?_
  refine lv_aload_n hx hb dX5_copy_39 rfl (lv_at hl 1 rfl) ?_
  refine va_get (D := g.1) (ci := 5) (v := .int (nI bu2)) (C := RX5) (T := TX5) (N := 4) hx hb hts (by decide +kernel) hown hK.1 (xr_one hQ) 0 rfl rfl 3 (by decide) (hts (.fieldLink RX5 18 "SharesDesk$Town" "budget" "I") (by decide +kernel)) (fun _ h9 => h9) rfl dX5_copy_40 ?_
  refine xr_put (ci := 5) (v := .int (nI bu2)) (ty := .int) (C := RX5) (T := TX5) (N := 4) hx hb hts (by decide +kernel) tyX5 tyX5_ok nmX5 hown hK.1 hO hS (show a ≤ a ∧ a < a + 3 by omega) rfl 3 (by decide) (hts (.fieldLink RX5 18 "SharesDesk$Town" "budget" "I") (by decide +kernel)) rfl (by decide +kernel) rfl rfl (Nat.le_of_ble_eq_true rfl) dX5_copy_43 (fun H locs hz hkp hO hS => ?_)
  replace hQ := hQ.kept (hkp _ (by omega))
  replace hcs2 := hcs2.kept (hkp _ (by omega))
  replace ha2 := ha2.kept (hkp _ (by omega))
  replace hcs := hcs.kept (hkp _ (by omega))
  replace ha := ha.kept (hkp _ (by omega))
  exact xr_vret hx hb hr hlocks hS ⟨hO, hcs.to (fun j hj => if_pos hj), ha.to (fun j hj => if_pos hj), hcb2, hvb2, hab2, hbb2⟩ dX5_copy_46
end
section
set_option maxRecDepth 20000 in
theorem ggX2_init_X0_init : GoodIn wsX2_init wsX0_init := goodIn_r _ [10, 11, 2, 3, 12, 13, 14] (by decide +kernel) (by decide +kernel)
set_option maxRecDepth 20000 in
theorem gX2_init_X0_init_n9 : GoodIn wsX2_init (wsX0_init) := ggX2_init_X0_init
theorem dX2_init_0 : decode cX2_init 0 = .ok (.aload_n 0, 1) := by decide +kernel
theorem dX2_init_1 : decode cX2_init 1 = .ok (.invokespecial 1, 3) := by decide +kernel
theorem dX2_init_4 : decode cX2_init 4 = .ok (.aload_n 0, 1) := by decide +kernel
theorem dX2_init_5 : decode cX2_init 5 = .ok (.new 7, 3) := by decide +kernel
theorem dX2_init_8 : decode cX2_init 8 = .ok (.dup, 1) := by decide +kernel
theorem dX2_init_9 : decode cX2_init 9 = .ok (.invokespecial 9, 3) := by decide +kernel
theorem dX2_init_12 : decode cX2_init 12 = .ok (.putfield 10, 3) := by decide +kernel
theorem dX2_init_15 : decode cX2_init 15 = .ok (.aload_n 0, 1) := by decide +kernel
theorem dX2_init_16 : decode cX2_init 16 = .ok (.new 7, 3) := by decide +kernel
theorem dX2_init_19 : decode cX2_init 19 = .ok (.dup, 1) := by decide +kernel
theorem dX2_init_20 : decode cX2_init 20 = .ok (.invokespecial 9, 3) := by decide +kernel
theorem dX2_init_23 : decode cX2_init 23 = .ok (.putfield 16, 3) := by decide +kernel
theorem dX2_init_26 : decode cX2_init 26 = .ok (.return_, 1) := by decide +kernel
set_option maxRecDepth 20000 in
theorem ggX2_takeZero_X0_set : GoodIn wsX2_takeZero wsX0_set := goodIn_r _ [7, 8, 9, 10, 11, 12, 15] (by decide +kernel) (by decide +kernel)
set_option maxRecDepth 20000 in
theorem gX2_takeZero_X0_set : GoodIn wsX2_takeZero (wsV RX2 19 RX0 yX0_set wsX0_set) := goodIn_app (goodIn_of _ (by decide +kernel)) ggX2_takeZero_X0_set
theorem dX2_takeZero_0 : decode cX2_takeZero 0 = .ok (.aload_n 0, 1) := by decide +kernel
theorem dX2_takeZero_1 : decode cX2_takeZero 1 = .ok (.getfield 10, 3) := by decide +kernel
theorem dX2_takeZero_4 : decode cX2_takeZero 4 = .ok (.iconst 0, 1) := by decide +kernel
theorem dX2_takeZero_5 : decode cX2_takeZero 5 = .ok (.invokevirtual 19, 3) := by decide +kernel
theorem dX2_takeZero_8 : decode cX2_takeZero 8 = .ok (.aload_n 0, 1) := by decide +kernel
theorem dX2_takeZero_9 : decode cX2_takeZero 9 = .ok (.getfield 16, 3) := by decide +kernel
theorem dX2_takeZero_12 : decode cX2_takeZero 12 = .ok (.iconst 1, 1) := by decide +kernel
theorem dX2_takeZero_13 : decode cX2_takeZero 13 = .ok (.invokevirtual 19, 3) := by decide +kernel
theorem dX2_takeZero_16 : decode cX2_takeZero 16 = .ok (.return_, 1) := by decide +kernel
set_option maxRecDepth 20000 in
theorem ggX2_take_X0_isZero : GoodIn wsX2_take wsX0_isZero := goodIn_r _ [8, 9, 46] (by decide +kernel) (by decide +kernel)
set_option maxRecDepth 20000 in
theorem gX2_take_X0_isZero : GoodIn wsX2_take (wsV RX2 23 RX0 yX0_isZero wsX0_isZero) := goodIn_app (goodIn_of _ (by decide +kernel)) ggX2_take_X0_isZero
set_option maxRecDepth 20000 in
theorem ggX2_take_X2_takeZero : GoodIn wsX2_take wsX2_takeZero := goodIn_r _ [14, 1, 2, 15, 16, 17, 7, 18, 9, 19, 20, 21, 22, 44, 45, 46] (by decide +kernel) (by decide +kernel)
set_option maxRecDepth 20000 in
theorem gX2_take_X2_takeZero : GoodIn wsX2_take (wsV RX2 27 RX2 yX2_takeZero wsX2_takeZero) := goodIn_app (goodIn_of _ (by decide +kernel)) ggX2_take_X2_takeZero
set_option maxRecDepth 20000 in
theorem ggX2_take_X0_copy : GoodIn wsX2_take wsX0_copy := goodIn_r _ [26, 9, 27, 28, 29, 30, 46] (by decide +kernel) (by decide +kernel)
set_option maxRecDepth 20000 in
theorem gX2_take_X0_copy : GoodIn wsX2_take (wsV RX2 30 RX0 yX0_copy wsX0_copy) := goodIn_app (goodIn_of _ (by decide +kernel)) ggX2_take_X0_copy
set_option maxRecDepth 20000 in
theorem ggX2_take_X2_cancel : GoodIn wsX2_take wsX2_cancel := goodIn_r _ [34, 2, 1, 35, 36, 37, 7, 38, 9, 39, 40, 41, 42, 43, 44, 45, 46] (by decide +kernel) (by decide +kernel)
set_option maxRecDepth 20000 in
theorem gX2_take_X2_cancel : GoodIn wsX2_take (wsV RX2 38 RX2 yX2_cancel wsX2_cancel) := goodIn_app (goodIn_of _ (by decide +kernel)) ggX2_take_X2_cancel
theorem dX2_take_0 : decode cX2_take 0 = .ok (.aload_n 1, 1) := by decide +kernel
theorem dX2_take_1 : decode cX2_take 1 = .ok (.invokevirtual 23, 3) := by decide +kernel
theorem dX2_take_4 : decode cX2_take 4 = .ok (.ifCond .eq 8, 3) := by decide +kernel
theorem dX2_take_7 : decode cX2_take 7 = .ok (.aload_n 0, 1) := by decide +kernel
theorem dX2_take_8 : decode cX2_take 8 = .ok (.invokevirtual 27, 3) := by decide +kernel
theorem dX2_take_11 : decode cX2_take 11 = .ok (.return_, 1) := by decide +kernel
theorem dX2_take_12 : decode cX2_take 12 = .ok (.aload_n 0, 1) := by decide +kernel
theorem dX2_take_13 : decode cX2_take 13 = .ok (.getfield 10, 3) := by decide +kernel
theorem dX2_take_16 : decode cX2_take 16 = .ok (.aload_n 1, 1) := by decide +kernel
theorem dX2_take_17 : decode cX2_take 17 = .ok (.invokevirtual 30, 3) := by decide +kernel
theorem dX2_take_20 : decode cX2_take 20 = .ok (.aload_n 0, 1) := by decide +kernel
theorem dX2_take_21 : decode cX2_take 21 = .ok (.getfield 16, 3) := by decide +kernel
theorem dX2_take_24 : decode cX2_take 24 = .ok (.aload_n 2, 1) := by decide +kernel
theorem dX2_take_25 : decode cX2_take 25 = .ok (.invokevirtual 30, 3) := by decide +kernel
theorem dX2_take_28 : decode cX2_take 28 = .ok (.getstatic 34, 3) := by decide +kernel
theorem dX2_take_31 : decode cX2_take 31 = .ok (.astore_n 3, 1) := by decide +kernel
theorem dX2_take_32 : decode cX2_take 32 = .ok (.aload_n 3, 1) := by decide +kernel
theorem dX2_take_33 : decode cX2_take 33 = .ok (.arraylength, 1) := by decide +kernel
theorem dX2_take_34 : decode cX2_take 34 = .ok (.istore 4, 2) := by decide +kernel
theorem dX2_take_36 : decode cX2_take 36 = .ok (.iconst 0, 1) := by decide +kernel
theorem dX2_take_37 : decode cX2_take 37 = .ok (.istore 5, 2) := by decide +kernel
theorem dX2_take_39 : decode cX2_take 39 = .ok (.iload 5, 2) := by decide +kernel
theorem dX2_take_41 : decode cX2_take 41 = .ok (.iload 4, 2) := by decide +kernel
theorem dX2_take_43 : decode cX2_take 43 = .ok (.if_icmp .ge 21, 3) := by decide +kernel
theorem dX2_take_46 : decode cX2_take 46 = .ok (.aload_n 3, 1) := by decide +kernel
theorem dX2_take_47 : decode cX2_take 47 = .ok (.iload 5, 2) := by decide +kernel
theorem dX2_take_49 : decode cX2_take 49 = .ok (.iaload, 1) := by decide +kernel
theorem dX2_take_50 : decode cX2_take 50 = .ok (.istore 6, 2) := by decide +kernel
theorem dX2_take_52 : decode cX2_take 52 = .ok (.aload_n 0, 1) := by decide +kernel
theorem dX2_take_53 : decode cX2_take 53 = .ok (.iload 6, 2) := by decide +kernel
theorem dX2_take_55 : decode cX2_take 55 = .ok (.invokevirtual 38, 3) := by decide +kernel
theorem dX2_take_58 : decode cX2_take 58 = .ok (.iinc 5 1, 3) := by decide +kernel
theorem dX2_take_61 : decode cX2_take 61 = .ok (.goto (-22), 3) := by decide +kernel
theorem dX2_take_64 : decode cX2_take 64 = .ok (.return_, 1) := by decide +kernel
set_option maxRecDepth 20000 in
theorem ggX2_wordOf_X0_wordAt : GoodIn wsX2_wordOf wsX0_wordAt := goodIn_r _ [7, 8, 11] (by decide +kernel) (by decide +kernel)
set_option maxRecDepth 20000 in
theorem gX2_wordOf_X0_wordAt : GoodIn wsX2_wordOf (wsV RX2 41 RX0 yX0_wordAt wsX0_wordAt) := goodIn_app (goodIn_of _ (by decide +kernel)) ggX2_wordOf_X0_wordAt
theorem dX2_wordOf_0 : decode cX2_wordOf 0 = .ok (.iload_n 1, 1) := by decide +kernel
theorem dX2_wordOf_1 : decode cX2_wordOf 1 = .ok (.ifCond .ne 12, 3) := by decide +kernel
theorem dX2_wordOf_4 : decode cX2_wordOf 4 = .ok (.aload_n 0, 1) := by decide +kernel
theorem dX2_wordOf_5 : decode cX2_wordOf 5 = .ok (.getfield 10, 3) := by decide +kernel
theorem dX2_wordOf_8 : decode cX2_wordOf 8 = .ok (.iload_n 2, 1) := by decide +kernel
theorem dX2_wordOf_9 : decode cX2_wordOf 9 = .ok (.invokevirtual 41, 3) := by decide +kernel
theorem dX2_wordOf_12 : decode cX2_wordOf 12 = .ok (.ireturn, 1) := by decide +kernel
theorem dX2_wordOf_13 : decode cX2_wordOf 13 = .ok (.iload_n 1, 1) := by decide +kernel
theorem dX2_wordOf_14 : decode cX2_wordOf 14 = .ok (.iconst 1, 1) := by decide +kernel
theorem dX2_wordOf_15 : decode cX2_wordOf 15 = .ok (.if_icmp .ne 14, 3) := by decide +kernel
theorem dX2_wordOf_18 : decode cX2_wordOf 18 = .ok (.aload_n 0, 1) := by decide +kernel
theorem dX2_wordOf_19 : decode cX2_wordOf 19 = .ok (.getfield 16, 3) := by decide +kernel
theorem dX2_wordOf_22 : decode cX2_wordOf 22 = .ok (.iload_n 2, 1) := by decide +kernel
theorem dX2_wordOf_23 : decode cX2_wordOf 23 = .ok (.invokevirtual 41, 3) := by decide +kernel
theorem dX2_wordOf_26 : decode cX2_wordOf 26 = .ok (.goto 4, 3) := by decide +kernel
theorem dX2_wordOf_29 : decode cX2_wordOf 29 = .ok (.iconst 0, 1) := by decide +kernel
theorem dX2_wordOf_30 : decode cX2_wordOf 30 = .ok (.ireturn, 1) := by decide +kernel
set_option maxRecDepth 20000 in
theorem ggX2_cancel_X0_modulo : GoodIn wsX2_cancel wsX0_modulo := goodIn_r _ [7, 8, 9, 16] (by decide +kernel) (by decide +kernel)
set_option maxRecDepth 20000 in
theorem gX2_cancel_X0_modulo : GoodIn wsX2_cancel (wsV RX2 45 RX0 yX0_modulo wsX0_modulo) := goodIn_app (goodIn_of _ (by decide +kernel)) ggX2_cancel_X0_modulo
set_option maxRecDepth 20000 in
theorem ggX2_cancel_X0_divide : GoodIn wsX2_cancel wsX0_divide := goodIn_r _ [13, 8, 9, 16] (by decide +kernel) (by decide +kernel)
set_option maxRecDepth 20000 in
theorem gX2_cancel_X0_divide : GoodIn wsX2_cancel (wsV RX2 48 RX0 yX0_divide wsX0_divide) := goodIn_app (goodIn_of _ (by decide +kernel)) ggX2_cancel_X0_divide
theorem dX2_cancel_0 : decode cX2_cancel 0 = .ok (.iconst 0, 1) := by decide +kernel
theorem dX2_cancel_1 : decode cX2_cancel 1 = .ok (.istore_n 2, 1) := by decide +kernel
theorem dX2_cancel_2 : decode cX2_cancel 2 = .ok (.iload_n 2, 1) := by decide +kernel
theorem dX2_cancel_3 : decode cX2_cancel 3 = .ok (.sipush 128, 3) := by decide +kernel
theorem dX2_cancel_6 : decode cX2_cancel 6 = .ok (.if_icmp .ge 50, 3) := by decide +kernel
theorem dX2_cancel_9 : decode cX2_cancel 9 = .ok (.aload_n 0, 1) := by decide +kernel
theorem dX2_cancel_10 : decode cX2_cancel 10 = .ok (.getfield 16, 3) := by decide +kernel
theorem dX2_cancel_13 : decode cX2_cancel 13 = .ok (.iload_n 1, 1) := by decide +kernel
theorem dX2_cancel_14 : decode cX2_cancel 14 = .ok (.invokevirtual 45, 3) := by decide +kernel
theorem dX2_cancel_17 : decode cX2_cancel 17 = .ok (.ifCond .ne 14, 3) := by decide +kernel
theorem dX2_cancel_20 : decode cX2_cancel 20 = .ok (.aload_n 0, 1) := by decide +kernel
theorem dX2_cancel_21 : decode cX2_cancel 21 = .ok (.getfield 10, 3) := by decide +kernel
theorem dX2_cancel_24 : decode cX2_cancel 24 = .ok (.iload_n 1, 1) := by decide +kernel
theorem dX2_cancel_25 : decode cX2_cancel 25 = .ok (.invokevirtual 45, 3) := by decide +kernel
theorem dX2_cancel_28 : decode cX2_cancel 28 = .ok (.ifCond .eq 4, 3) := by decide +kernel
theorem dX2_cancel_31 : decode cX2_cancel 31 = .ok (.return_, 1) := by decide +kernel
theorem dX2_cancel_32 : decode cX2_cancel 32 = .ok (.aload_n 0, 1) := by decide +kernel
theorem dX2_cancel_33 : decode cX2_cancel 33 = .ok (.getfield 16, 3) := by decide +kernel
theorem dX2_cancel_36 : decode cX2_cancel 36 = .ok (.iload_n 1, 1) := by decide +kernel
theorem dX2_cancel_37 : decode cX2_cancel 37 = .ok (.invokevirtual 48, 3) := by decide +kernel
theorem dX2_cancel_40 : decode cX2_cancel 40 = .ok (.pop, 1) := by decide +kernel
theorem dX2_cancel_41 : decode cX2_cancel 41 = .ok (.aload_n 0, 1) := by decide +kernel
theorem dX2_cancel_42 : decode cX2_cancel 42 = .ok (.getfield 10, 3) := by decide +kernel
theorem dX2_cancel_45 : decode cX2_cancel 45 = .ok (.iload_n 1, 1) := by decide +kernel
theorem dX2_cancel_46 : decode cX2_cancel 46 = .ok (.invokevirtual 48, 3) := by decide +kernel
theorem dX2_cancel_49 : decode cX2_cancel 49 = .ok (.pop, 1) := by decide +kernel
theorem dX2_cancel_50 : decode cX2_cancel 50 = .ok (.iinc 2 1, 3) := by decide +kernel
theorem dX2_cancel_53 : decode cX2_cancel 53 = .ok (.goto (-51), 3) := by decide +kernel
theorem dX2_cancel_56 : decode cX2_cancel 56 = .ok (.return_, 1) := by decide +kernel
end
section
/-! a fraction in lowest terms -/
def RatioAt (g : WG) (H : Heap) (a t b : Nat) : Prop := obj g H a 2 [.ref (a + 1), .ref (a + 3)] ∧ NatAt g H (a + 1) t ∧ NatAt g H (a + 3) b
theorem RatioAt.kept {g : WG} {H H1 : Heap} {a t b : Nat} (h : RatioAt g H a t b) (hk : ∀ q, q < H.size → a ≤ q → q < a + 5 → H1[q]? = H[q]?) : RatioAt g H1 a t b :=
  ⟨h.1.kept (hk _ h.1.lt (by omega) (by omega)), h.2.1.kept (hk _ h.2.1.1.lt (by omega) (by omega)) (hk _ h.2.1.2.1.lt (by omega) (by omega)), h.2.2.kept (hk _ h.2.2.1.lt (by omega) (by omega)) (hk _ h.2.2.2.1.lt (by omega) (by omega))⟩
/-- a common factor taken out -/
def Red (n b t u : Nat) : Prop := ∃ c, 0 < c ∧ n = t * c ∧ b = u * c
theorem Red.rf {n b : Nat} : Red n b n b := ⟨1, by decide, (Nat.mul_one _).symm, (Nat.mul_one _).symm⟩
theorem Red.step {n b t u q : Nat} (h : Red n b t u) (hq : 0 < q) (h1 : t % q = 0) (h2 : u % q = 0) : Red n b (t / q) (u / q) := by
  obtain ⟨c, hc, e1, e2⟩ := h
  refine ⟨q * c, Nat.mul_pos hq hc, ?_, ?_⟩
  · rw [← Nat.mul_assoc, Nat.div_mul_cancel (Nat.dvd_of_mod_eq_zero h1)]; exact e1
  · rw [← Nat.mul_assoc, Nat.div_mul_cancel (Nat.dvd_of_mod_eq_zero h2)]; exact e2
theorem Red.trans {n b t u t' u' : Nat} (h : Red n b t u) (h2 : Red t u t' u') : Red n b t' u' := by
  obtain ⟨c, hc, e1, e2⟩ := h
  obtain ⟨d, hd, e3, e4⟩ := h2
  exact ⟨d * c, Nat.mul_pos hd hc, by rw [e1, e3, Nat.mul_assoc], by rw [e2, e4, Nat.mul_assoc]⟩
theorem Red.pos {n b t u : Nat} (h : Red n b t u) (hb : 0 < b) : 0 < u := by
  obtain ⟨c, hc, e1, e2⟩ := h
  exact Nat.pos_of_ne_zero fun q => by rw [q, Nat.zero_mul] at e2; omega
theorem Red.le {n b t u : Nat} (h : Red n b t u) : t ≤ n ∧ u ≤ b := by
  obtain ⟨c, hc, e1, e2⟩ := h
  rw [e1, e2]
  exact ⟨Nat.le_mul_of_pos_right _ hc, Nat.le_mul_of_pos_right _ hc⟩
theorem Red.no {n b t u q : Nat} (h : Red n b t u) (hn : ¬ (n % q = 0 ∧ b % q = 0)) : ¬ (t % q = 0 ∧ u % q = 0) := fun w => by
  obtain ⟨c, hc, e1, e2⟩ := h
  exact hn ⟨by rw [e1, Nat.mul_mod, w.1, Nat.zero_mul, Nat.zero_mod], by rw [e2, Nat.mul_mod, w.2, Nat.zero_mul, Nat.zero_mod]⟩
/-- no prime factor but those of the table -/
def Smooth (b : Nat) : Prop := ∀ d, 1 < d → d ∣ b → ∃ j, j < 15 ∧ d % pr15 j = 0
theorem sm_one : Smooth 1 := fun d h1 h2 => by have := Nat.le_of_dvd (by decide) h2; omega
theorem sm_dec : ∀ d, d < 49 → 1 < d → ∃ j, j < 15 ∧ d % pr15 j = 0 := by decide
theorem sm_mul {b k : Nat} (h : Smooth b) (h0 : 0 < k) (hk : k ≤ 48) : Smooth (b * k) := by
  intro d h1 h2
  by_cases e : 1 < Nat.gcd d b
  · obtain ⟨j, hj, hm⟩ := h _ e (Nat.gcd_dvd_right d b)
    refine ⟨j, hj, Nat.mod_eq_zero_of_dvd ?_⟩
    exact Nat.dvd_trans (Nat.dvd_of_mod_eq_zero hm) (Nat.gcd_dvd_left d b)
  · have hg : Nat.gcd d b = 1 := by
      have := Nat.gcd_pos_of_pos_left b (show 0 < d by omega)
      omega
    have hd : d ∣ k := Nat.Coprime.dvd_of_dvd_mul_left hg h2
    exact sm_dec d (by have := Nat.le_of_dvd h0 hd; omega) h1
theorem Red.fin {n b t u : Nat} (h : Red n b t u) (hb : 0 < b) (hs : Smooth b) (hno : ∀ j, j < 15 → ¬ (t % pr15 j = 0 ∧ u % pr15 j = 0)) : t = n / Nat.gcd n b ∧ u = b / Nat.gcd n b := by
  have hu := h.pos hb
  obtain ⟨c, hc, e1, e2⟩ := h
  have hg : Nat.gcd t u = 1 := by
    have hp := Nat.gcd_pos_of_pos_right t hu
    by_cases e : 1 < Nat.gcd t u
    · obtain ⟨j, hj, hm⟩ := hs _ e (Nat.dvd_trans (Nat.gcd_dvd_right t u) ⟨c, e2⟩)
      have hd := Nat.dvd_of_mod_eq_zero hm
      exact absurd ⟨Nat.mod_eq_zero_of_dvd (Nat.dvd_trans hd (Nat.gcd_dvd_left t u)), Nat.mod_eq_zero_of_dvd (Nat.dvd_trans hd (Nat.gcd_dvd_right t u))⟩ (hno j hj)
    · omega
  have hgc : Nat.gcd n b = c := by rw [e1, e2, Nat.gcd_mul_right, hg, Nat.one_mul]
  rw [hgc, e1, e2, Nat.mul_div_cancel _ hc, Nat.mul_div_cancel _ hc]
  exact ⟨rfl, rfl⟩
theorem pr15_b : ∀ j, j < 15 → 1 < pr15 j ∧ pr15 j < 48 := by decide
theorem can_half {u q i B : Nat} (hq : 1 < q) (h : u * 2 ^ i ≤ B) : u / q * 2 ^ (i + 1) ≤ B := by
  have h1 : u / q * 2 ≤ u := Nat.le_trans (Nat.mul_le_mul_left _ hq) (Nat.div_mul_le_self u q)
  rw [Nat.pow_succ, Nat.mul_comm (2 ^ i) 2, ← Nat.mul_assoc]
  exact Nat.le_trans (Nat.mul_le_mul_right _ h1) h
/-- word w of part r of a fraction -/
def rwd (t b : Nat) (part word : Int32) : Int32 := if part = 0 then (if 0 ≤ word.toInt ∧ word.toInt < 4 then wd t word.toInt.toNat else 0) else if part = 1 then (if 0 ≤ word.toInt ∧ word.toInt < 4 then wd b word.toInt.toNat else 0) else 0
theorem PrimesAt.l1 {g : WG} {H : Heap} (h : PrimesAt g H) : g.2.2.1.1 < H.size := (Array.getElem?_eq_some_iff.mp h.1).1
theorem PrimesAt.l2 {g : WG} {H : Heap} (h : PrimesAt g H) : g.2.2.2.2.1 < H.size := (Array.getElem?_eq_some_iff.mp h.2).1
end
section
set_option maxHeartbeats 400000 in
set_option maxRecDepth 100000 in
theorem c_X2_init (l : Launch) (g : WG) (H0 : Heap) (a : Nat) (hO : obj g H0 a 2 [.null, .null]) (hsz : H0.size = a + 1) : Ctr l (KK g) yX2_init wsX2_init { frames := 2, cells := 4, slots := 10, locals := 32 } [.ref a] H0 eV (fun _ H => RatioAt g H a 0 0 ∧ H.size = a + 5) (fun q => q = a ∨ a + 1 ≤ q) := by
  refine xr_enter (cc := cX2_init) (maxL := 1) (ret := none) (by decide) rfl (Nat.le_of_ble_eq_true rfl) ?_
  intro pgm env s mid below meth cde hx hb hr hml hts hown hlocks hnm hH hK ls hl
  subst hH
  have hl : lv_has ls 1 [(0, .ref a)] := hl
  have hS : va_S (fun q => q = a ∨ a + 1 ≤ q) s.heap s.heap [] := va_S.rf
  refine lv_aload_n hx hb dX2_init_0 rfl (lv_at hl 0 rfl) ?_
  refine W.objInit hx hb hown (hts (.methodLink RX2 1 objectInit) (by decide +kernel)) (hts (.instanceMethod objectInit) (by decide +kernel)) (hts _ (List.mem_cons_of_mem _ (List.mem_append_left _ (List.mem_append_left _ (List.mem_of_getElem? (i := 2) rfl))))) rfl (by rw [hml]; exact hl.1) rfl dX2_init_1 (Nat.le_of_ble_eq_true rfl) (Nat.le_of_ble_eq_true rfl) ?_
  refine W.eq (g2 := F0 mid 4 ls []) rfl ?_
  refine lv_aload_n hx hb dX2_init_4 rfl (lv_at hl 0 rfl) ?_
  refine xr_new (ci := 0) (fs := [.null]) (C := RX0) (T := TX0) (N := 1) hx hb hts (by decide +kernel) tyX0 tyX0_ok hown (hts (.classLink RX2 7 RX0) (by decide +kernel)) (hts (.instantiable RX0 1) (by decide +kernel)) (hts (.initialized RX0) (by decide +kernel)) hK.1 hS rfl (fun j hj => by rcases (show j = 0 by omega) with rfl <;> rfl) (Nat.le_of_ble_eq_true rfl) (Nat.le_of_ble_eq_true rfl) dX2_init_5 (fun H hz hkp hQ hS => ?_)
  refine W.widen (k := 1) (n := 1) (Nat.le_of_ble_eq_true rfl) (Nat.le_of_ble_eq_true rfl) ?_
  rw [hsz] at hQ hz hkp ⊢
  replace hO := hO.kept (hkp _ (by omega))
  have hsz := hz
  refine lv_dup hx hb dX2_init_8 rfl ?_
  refine xr_INv (rest := [.ref (a + 1), .ref a]) ⟨hx, hb, hml, hown, hts⟩ (KK_ok g) hK (c_X0_init l g H (a + 1) hQ hsz) ⟨va_cnB 0 hts gX2_init_X0_init_n9 rfl rfl rfl (hK.2.2.1 (RX2, 9, yX0_init) (by decide +kernel)) (hts (.initialized RX0) (by decide +kernel)) (by decide +kernel) ⟨Nat.le_of_ble_eq_true rfl, Nat.le_of_ble_eq_true rfl⟩, rfl, (hts (.instanceMethod yX0_init) (by decide +kernel))⟩ rfl hl.1 rfl (Nat.le_of_ble_eq_true rfl) dX2_init_9 ⟨Nat.le_of_ble_eq_true rfl, Nat.le_of_ble_eq_true rfl⟩ hS (fun q h => by have h : q = a + 1 ∨ a + 1 + 1 ≤ q := h; show q = a ∨ a + 1 ≤ q; omega) (fun _ H locs hq hz hkp hS => ?_)
  refine W.widen (k := 2) (n := 5) (Nat.le_of_ble_eq_true rfl) (Nat.le_of_ble_eq_true rfl) ?_
  replace hkp := fun (q : Nat) h1 (h2 : ¬ (q = a + 1 ∨ a + 1 + 1 ≤ q)) => hkp q h1 h2
  replace hO := hO.kept (hkp _ hO.lt (by omega))
  obtain ⟨hN1, hsz⟩ := hq
  refine xr_putF (ci := 2) (v := .ref (a + 1)) (ty := .object "SharesDesk$Natural") (C := RX2) (T := TX2) (N := 2) hx hb hts (by decide +kernel) tyX2 tyX2_ok nmX2 hown hK.1 hO hS (Or.inl rfl) rfl 0 (by decide) (hts (.fieldLink RX2 10 "SharesDesk$Ratio" "top" "LSharesDesk$Natural;") (by decide +kernel)) rfl hnm rfl (by decide +kernel) rfl rfl (Nat.le_of_ble_eq_true rfl) dX2_init_12 (fun H locs hz hkp hO hS => ?_)
  replace hN1 := hN1.kept (hkp _ (by omega)) (hkp _ (by omega))
  have hsz := hz.trans hsz
  refine lv_aload_n hx hb dX2_init_15 rfl (lv_at hl 0 rfl) ?_
  refine xr_new (ci := 0) (fs := [.null]) (C := RX0) (T := TX0) (N := 1) hx hb hts (by decide +kernel) tyX0 tyX0_ok hown (hts (.classLink RX2 7 RX0) (by decide +kernel)) (hts (.instantiable RX0 1) (by decide +kernel)) (hts (.initialized RX0) (by decide +kernel)) hK.1 hS rfl (fun j hj => by rcases (show j = 0 by omega) with rfl <;> rfl) (Nat.le_of_ble_eq_true rfl) (Nat.le_of_ble_eq_true rfl) dX2_init_16 (fun H hz hkp hQ hS => ?_)
  refine W.widen (k := 3) (n := 6) (Nat.le_of_ble_eq_true rfl) (Nat.le_of_ble_eq_true rfl) ?_
  rw [hsz] at hQ hz hkp ⊢
  replace hN1 := hN1.kept (hkp _ (by omega)) (hkp _ (by omega))
  replace hO := hO.kept (hkp _ (by omega))
  have hsz := hz
  refine lv_dup hx hb dX2_init_19 rfl ?_
  refine xr_INv (rest := [.ref (a + 3), .ref a]) ⟨hx, hb, hml, hown, hts⟩ (KK_ok g) hK (c_X0_init l g H (a + 3) hQ hsz) ⟨va_cnB 0 hts gX2_init_X0_init_n9 rfl rfl rfl (hK.2.2.1 (RX2, 9, yX0_init) (by decide +kernel)) (hts (.initialized RX0) (by decide +kernel)) (by decide +kernel) ⟨Nat.le_of_ble_eq_true rfl, Nat.le_of_ble_eq_true rfl⟩, rfl, (hts (.instanceMethod yX0_init) (by decide +kernel))⟩ rfl hl.1 rfl (Nat.le_of_ble_eq_true rfl) dX2_init_20 ⟨Nat.le_of_ble_eq_true rfl, Nat.le_of_ble_eq_true rfl⟩ hS (fun q h => by have h : q = a + 3 ∨ a + 3 + 1 ≤ q := h; show q = a ∨ a + 1 ≤ q; omega) (fun _ H locs hq hz hkp hS => ?_)
  refine W.widen (k := 4) (n := 10) (Nat.le_of_ble_eq_true rfl) (Nat.le_of_ble_eq_true rfl) ?_
  replace hkp := fun (q : Nat) h1 (h2 : ¬ (q = a + 3 ∨ a + 3 + 1 ≤ q)) => hkp q h1 h2
  replace hN1 := hN1.kept (hkp _ hN1.1.lt (by omega)) (hkp _ hN1.2.1.lt (by omega))
  replace hO := hO.kept (hkp _ hO.lt (by omega))
  obtain ⟨hN2, hsz⟩ := hq
  refine xr_putF (ci := 2) (v := .ref (a + 3)) (ty := .object "SharesDesk$Natural") (C := RX2) (T := TX2) (N := 2) hx hb hts (by decide +kernel) tyX2 tyX2_ok nmX2 hown hK.1 hO hS (Or.inl rfl) rfl 1 (by decide) (hts (.fieldLink RX2 16 "SharesDesk$Ratio" "bottom" "LSharesDesk$Natural;") (by decide +kernel)) rfl hnm rfl (by decide +kernel) rfl rfl (Nat.le_of_ble_eq_true rfl) dX2_init_23 (fun H locs hz hkp hO hS => ?_)
  replace hN1 := hN1.kept (hkp _ (by omega)) (hkp _ (by omega))
  replace hN2 := hN2.kept (hkp _ (by omega)) (hkp _ (by omega))
  have hsz := hz.trans hsz
  exact xr_vret hx hb hr hlocks hS ⟨⟨hO, hN1, hN2⟩, hsz⟩ dX2_init_26
set_option maxHeartbeats 400000 in
set_option maxRecDepth 100000 in
theorem c_X2_takeZero (l : Launch) (g : WG) (H0 : Heap) (a t b : Nat) (hR : RatioAt g H0 a t b) : Ctr l (KK g) yX2_takeZero wsX2_takeZero { frames := 2, cells := 0, slots := 0, locals := 44 } [.ref a] H0 eV (fun _ H => RatioAt g H a 0 1) (fun q => q = a + 2 ∨ q = a + 4) := by
  refine xr_enter (cc := cX2_takeZero) (maxL := 1) (ret := none) (by decide) rfl (Nat.le_of_ble_eq_true rfl) ?_
  intro pgm env s mid below meth cde hx hb hr hml hts hown hlocks hnm hH hK ls hl
  subst hH
  have hl : lv_has ls 1 [(0, .ref a)] := hl
  have hS : va_S (fun q => q = a + 2 ∨ q = a + 4) s.heap s.heap [] := va_S.rf
  obtain ⟨hO, hN1, hN2⟩ := id hR
  refine lv_aload_n hx hb dX2_takeZero_0 rfl (lv_at hl 0 rfl) ?_
  refine va_get (D := g.1) (ci := 2) (v := .ref (a + 1)) (C := RX2) (T := TX2) (N := 2) hx hb hts (by decide +kernel) hown hK.1 (xr_one hO) 0 rfl rfl 0 (by decide) (hts (.fieldLink RX2 10 "SharesDesk$Ratio" "top" "LSharesDesk$Natural;") (by decide +kernel)) (fun _ h9 => h9) rfl dX2_takeZero_1 ?_
  refine lv_iconst (v := 0) hx hb dX2_takeZero_4 (by decide) ?_
  refine xr_ti (x' := nI 0) rfl ?_
  refine xr_Vv (rest := []) ⟨hx, hb, hml, hown, hts⟩ (KK_ok g) hK (c_X0_set l g s.heap (a + 1) t 0 hN1 (by decide)) (cwV 1 hts gX2_takeZero_X0_set rfl rfl rfl (by decide +kernel) ⟨Nat.le_of_ble_eq_true rfl, Nat.le_of_ble_eq_true rfl⟩) (xr_rec hK hN1.1 rfl) rfl hl.1 rfl (Nat.le_of_ble_eq_true rfl) dX2_takeZero_5 ⟨Nat.le_of_ble_eq_true rfl, Nat.le_of_ble_eq_true rfl⟩ hS (fun q h => by have h : q = a + 1 + 1 := h; show q = a + 2 ∨ q = a + 4; omega) (fun _ H locs hq hz hkp hS => ?_)
  replace hkp := fun (q : Nat) h1 (h2 : ¬ (q = a + 1 + 1)) => hkp q h1 h2
  replace hO := hO.kept (hkp _ hO.lt (by omega))
  replace hN2 := hN2.kept (hkp _ hN2.1.lt (by omega)) (hkp _ hN2.2.1.lt (by omega))
  have hN1 : NatAt g H (a + 1) 0 := hq
  refine lv_aload_n hx hb dX2_takeZero_8 rfl (lv_at hl 0 rfl) ?_
  refine va_get (D := g.1) (ci := 2) (v := .ref (a + 3)) (C := RX2) (T := TX2) (N := 2) hx hb hts (by decide +kernel) hown hK.1 (xr_one hO) 0 rfl rfl 1 (by decide) (hts (.fieldLink RX2 16 "SharesDesk$Ratio" "bottom" "LSharesDesk$Natural;") (by decide +kernel)) (fun _ h9 => h9) rfl dX2_takeZero_9 ?_
  refine lv_iconst (v := 1) hx hb dX2_takeZero_12 (by decide) ?_
  refine xr_ti (x' := nI 1) rfl ?_
  refine xr_Vv (rest := []) ⟨hx, hb, hml, hown, hts⟩ (KK_ok g) hK (c_X0_set l g H (a + 3) b 1 hN2 (by decide)) (cwV 1 hts gX2_takeZero_X0_set rfl rfl rfl (by decide +kernel) ⟨Nat.le_of_ble_eq_true rfl, Nat.le_of_ble_eq_true rfl⟩) (xr_rec hK hN2.1 rfl) rfl hl.1 rfl (Nat.le_of_ble_eq_true rfl) dX2_takeZero_13 ⟨Nat.le_of_ble_eq_true rfl, Nat.le_of_ble_eq_true rfl⟩ hS (fun q h => by have h : q = a + 3 + 1 := h; show q = a + 2 ∨ q = a + 4; omega) (fun _ H locs hq hz hkp hS => ?_)
  replace hkp := fun (q : Nat) h1 (h2 : ¬ (q = a + 3 + 1)) => hkp q h1 h2
  replace hO := hO.kept (hkp _ hO.lt (by omega))
  replace hN1 := hN1.kept (hkp _ hN1.1.lt (by omega)) (hkp _ hN1.2.1.lt (by omega))
  have hN2 : NatAt g H (a + 3) 1 := hq
  exact xr_vret hx hb hr hlocks hS ⟨hO, hN1, hN2⟩ dX2_takeZero_16
set_option maxHeartbeats 400000 in
set_option maxRecDepth 100000 in
theorem c_X2_wordOf (l : Launch) (g : WG) (H0 : Heap) (a t b : Nat) (part word : Int32) (hR : RatioAt g H0 a t b) : Ctr l (KK g) yX2_wordOf wsX2_wordOf { frames := 1, cells := 0, slots := 0, locals := 21 } [.ref a, .int part, .int word] H0 eI (fun r H => r = rwd t b part word ∧ H = H0) (fun _ => False) := by
  refine xr_enter (cc := cX2_wordOf) (maxL := 3) (ret := (some .int)) (by decide) rfl (Nat.le_of_ble_eq_true rfl) ?_
  intro pgm env s mid below meth cde hx hb hr hml hts hown hlocks hnm hH hK ls hl
  subst hH
  have hl : lv_has ls 3 [(0, .ref a), (1, .int part), (2, .int word)] := hl
  have hS : va_S (fun _ => False) s.heap s.heap [] := va_S.rf
  obtain ⟨hO, hN1, hN2⟩ := id hR
  refine lv_iload_n hx hb dX2_wordOf_0 rfl (lv_at hl 1 rfl) ?_
  refine lv_if_ne (tgt := 13) hx hb dX2_wordOf_1 (by decide) (fun h0 => ?_) (fun h0 => ?_)
  · have h0 := h0
    refine lv_iload_n hx hb dX2_wordOf_13 rfl (lv_at hl 1 rfl) ?_
    refine lv_iconst (v := 1) hx hb dX2_wordOf_14 (by decide) ?_
    refine lv_icmp_ne (tgt := 29) hx hb dX2_wordOf_15 (by decide) (fun h1 => ?_) (fun h1 => ?_)
    · have h1 := h1
      refine lv_iconst (v := 0) hx hb dX2_wordOf_29 (by decide) ?_
      exact xr_iret hx hb hr hlocks hS ⟨by unfold rwd; rw [if_neg h0, if_neg h1], rfl⟩ dX2_wordOf_30
    · have h1 := h1
      refine lv_aload_n hx hb dX2_wordOf_18 rfl (lv_at hl 0 rfl) ?_
      refine va_get (D := g.1) (ci := 2) (v := .ref (a + 3)) (C := RX2) (T := TX2) (N := 2) hx hb hts (by decide +kernel) hown hK.1 (xr_one hO) 0 rfl rfl 1 (by decide) (hts (.fieldLink RX2 16 "SharesDesk$Ratio" "bottom" "LSharesDesk$Natural;") (by decide +kernel)) (fun _ h9 => h9) rfl dX2_wordOf_19 ?_
      refine lv_iload_n hx hb dX2_wordOf_22 rfl (lv_at hl 2 rfl) ?_
      refine xr_Vi (rest := []) ⟨hx, hb, hml, hown, hts⟩ (KK_ok g) hK (c_X0_wordAt l g s.heap (a + 3) b word hN2) (cwV 1 hts gX2_wordOf_X0_wordAt rfl rfl rfl (by decide +kernel) ⟨Nat.le_of_ble_eq_true rfl, Nat.le_of_ble_eq_true rfl⟩) (xr_rec hK hN2.1 rfl) rfl hl.1 rfl (Nat.le_of_ble_eq_true rfl) dX2_wordOf_23 ⟨Nat.le_of_ble_eq_true rfl, Nat.le_of_ble_eq_true rfl⟩ hS (fun q h => h.elim) (fun r H locs hq hz hkp hS91 => ?_)
      obtain ⟨rfl, rfl⟩ := hq
      have hS := hS91
      refine lv_goto (tgt := 30) hx hb dX2_wordOf_26 (by decide) ?_
      exact xr_iret hx hb hr hlocks hS ⟨by unfold rwd; rw [if_neg h0, if_pos h1], rfl⟩ dX2_wordOf_30
  · have h0 := h0
    refine lv_aload_n hx hb dX2_wordOf_4 rfl (lv_at hl 0 rfl) ?_
    refine va_get (D := g.1) (ci := 2) (v := .ref (a + 1)) (C := RX2) (T := TX2) (N := 2) hx hb hts (by decide +kernel) hown hK.1 (xr_one hO) 0 rfl rfl 0 (by decide) (hts (.fieldLink RX2 10 "SharesDesk$Ratio" "top" "LSharesDesk$Natural;") (by decide +kernel)) (fun _ h9 => h9) rfl dX2_wordOf_5 ?_
    refine lv_iload_n hx hb dX2_wordOf_8 rfl (lv_at hl 2 rfl) ?_
    refine xr_Vi (rest := []) ⟨hx, hb, hml, hown, hts⟩ (KK_ok g) hK (c_X0_wordAt l g s.heap (a + 1) t word hN1) (cwV 1 hts gX2_wordOf_X0_wordAt rfl rfl rfl (by decide +kernel) ⟨Nat.le_of_ble_eq_true rfl, Nat.le_of_ble_eq_true rfl⟩) (xr_rec hK hN1.1 rfl) rfl hl.1 rfl (Nat.le_of_ble_eq_true rfl) dX2_wordOf_9 ⟨Nat.le_of_ble_eq_true rfl, Nat.le_of_ble_eq_true rfl⟩ hS (fun q h => h.elim) (fun r H locs hq hz hkp hS92 => ?_)
    obtain ⟨rfl, rfl⟩ := hq
    have hS := hS92
    exact xr_iret hx hb hr hlocks hS ⟨by unfold rwd; rw [if_pos h0], rfl⟩ dX2_wordOf_12
set_option maxHeartbeats 800000 in
set_option maxRecDepth 100000 in
theorem c_X2_cancel (l : Launch) (g : WG) (H0 : Heap) (a t b d : Nat) (hR : RatioAt g H0 a t b) (hb0 : 0 < b) (hd1 : 1 < d) (hd : d < 48) : Ctr l (KK g) yX2_cancel wsX2_cancel { frames := 1, cells := 0, slots := 0, locals := 26 } [.ref a, .int (nI d)] H0 eV (fun _ H => ∃ t2 b2, RatioAt g H a t2 b2 ∧ Red t b t2 b2 ∧ ¬ (t2 % d = 0 ∧ b2 % d = 0)) (fun q => q = a + 2 ∨ q = a + 4) := by
  refine xr_enter (cc := cX2_cancel) (maxL := 3) (ret := none) (by decide) rfl (Nat.le_of_ble_eq_true rfl) ?_
  intro pgm env s mid below meth cde hx hb hr hml hts hown hlocks hnm hH hK ls hl
  subst hH
  have hl : lv_has ls 3 [(0, .ref a), (1, .int (nI d))] := hl
  have hS : va_S (fun q => q = a + 2 ∨ q = a + 4) s.heap s.heap [] := va_S.rf
  have loop : ∀ (n i : Nat), i + n = 128 → ∀ (H : Heap) (locs : List Loc) (t1 b1 : Nat), RatioAt g H a t1 b1 → Red t b t1 b1 → b1 * 2 ^ i ≤ b → va_S (fun q => q = a + 2 ∨ q = a + 4) s.heap H locs → ∀ ls : Array Slot, lv_has ls 3 [(2, .int (nI i)), (0, .ref a), (1, .int (nI d))] → W pgm l env { frames := 1, cells := 0, slots := 0, locals := 26 } s mid ([.ref a, .int (nI d)] : List Value).toArray below meth cde H locs 0 0 (MQ below (xr_Post eV (fun _ H => ∃ t2 b2, RatioAt g H a t2 b2 ∧ Red t b t2 b2 ∧ ¬ (t2 % d = 0 ∧ b2 % d = 0)) (fun q => q = a + 2 ∨ q = a + 4)) ([.ref a, .int (nI d)] : List Value).toArray s ({ frames := 1, cells := 0, slots := 0, locals := 26 } : Room).cells ({ frames := 1, cells := 0, slots := 0, locals := 26 } : Room).slots (fun q => q = a + 2 ∨ q = a + 4)) (F0 mid 2 ls []) := by
    intro n
    induction n with
    | zero =>
      intro i h1 H locs t1 b1 hR1 hRd hbi hS ls hl
      have e : i = 128 := by omega
      subst e
      exfalso
      have h5 := hRd.pos hb0
      have h6 := hR.2.2.2.2
      have h7 : 1 * 2 ^ 128 ≤ b1 * 2 ^ 128 := Nat.mul_le_mul_right _ h5
      omega
    | succ n ih =>
      intro i h1 H locs t1 b1 hR1 hRd hbi hS ls hl
      obtain ⟨hO, hN1, hN2⟩ := id hR1
      refine lv_iload_n hx hb dX2_cancel_2 rfl (lv_at hl 0 rfl) ?_
      refine lv_sipush (v := 128) hx hb dX2_cancel_3 (by decide) ?_
      refine lv_icmp_ge (tgt := 56) hx hb dX2_cancel_6 (by decide) (fun hc => ?_) (fun hc => ?_)
      · exact absurd ((nI_leI (a := 128) (b := i) (by decide) (by omega)).mp hc) (by omega)
      · clear hc
        refine lv_aload_n hx hb dX2_cancel_9 rfl (lv_at hl 1 rfl) ?_
        refine va_get (D := g.1) (ci := 2) (v := .ref (a + 3)) (C := RX2) (T := TX2) (N := 2) hx hb hts (by decide +kernel) hown hK.1 (xr_one hO) 0 rfl rfl 1 (by decide) (hts (.fieldLink RX2 16 "SharesDesk$Ratio" "bottom" "LSharesDesk$Natural;") (by decide +kernel)) (fun _ h9 => h9) rfl dX2_cancel_10 ?_
        refine lv_iload_n hx hb dX2_cancel_13 rfl (lv_at hl 2 rfl) ?_
        refine xr_Vi (rest := []) ⟨hx, hb, hml, hown, hts⟩ (KK_ok g) hK (c_X0_modulo l g H (a + 3) b1 d hN2 (by omega) (by omega)) (cwV 1 hts gX2_cancel_X0_modulo rfl rfl rfl (by decide +kernel) ⟨Nat.le_of_ble_eq_true rfl, Nat.le_of_ble_eq_true rfl⟩) (xr_rec hK hN2.1 rfl) rfl hl.1 rfl (Nat.le_of_ble_eq_true rfl) dX2_cancel_14 ⟨Nat.le_of_ble_eq_true rfl, Nat.le_of_ble_eq_true rfl⟩ hS (fun q h => h.elim) (fun r H locs hq hz hkp hS93 => ?_)
        obtain ⟨rfl, rfl⟩ := hq
        have hS := hS93
        have hm1 : b1 % d < d := Nat.mod_lt _ (by omega)
        have hm2 : t1 % d < d := Nat.mod_lt _ (by omega)
        refine lv_if_ne (tgt := 31) hx hb dX2_cancel_17 (by decide) (fun hc => ?_) (fun hc => ?_)
        · have h9 : ¬ b1 % d = 0 := fun q => hc (by rw [q]; rfl)
          exact xr_vret hx hb hr hlocks hS ⟨t1, b1, hR1, hRd, fun q9 => h9 q9.2⟩ dX2_cancel_31
        · have h8 : b1 % d = 0 := (nI_inj (by omega) (by decide)).mp hc
          refine lv_aload_n hx hb dX2_cancel_20 rfl (lv_at hl 1 rfl) ?_
          refine va_get (D := g.1) (ci := 2) (v := .ref (a + 1)) (C := RX2) (T := TX2) (N := 2) hx hb hts (by decide +kernel) hown hK.1 (xr_one hO) 0 rfl rfl 0 (by decide) (hts (.fieldLink RX2 10 "SharesDesk$Ratio" "top" "LSharesDesk$Natural;") (by decide +kernel)) (fun _ h9 => h9) rfl dX2_cancel_21 ?_
          refine lv_iload_n hx hb dX2_cancel_24 rfl (lv_at hl 2 rfl) ?_
          refine xr_Vi (rest := []) ⟨hx, hb, hml, hown, hts⟩ (KK_ok g) hK (c_X0_modulo l g H (a + 1) t1 d hN1 (by omega) (by omega)) (cwV 1 hts gX2_cancel_X0_modulo rfl rfl rfl (by decide +kernel) ⟨Nat.le_of_ble_eq_true rfl, Nat.le_of_ble_eq_true rfl⟩) (xr_rec hK hN1.1 rfl) rfl hl.1 rfl (Nat.le_of_ble_eq_true rfl) dX2_cancel_25 ⟨Nat.le_of_ble_eq_true rfl, Nat.le_of_ble_eq_true rfl⟩ hS (fun q h => h.elim) (fun r H locs hq hz hkp hS94 => ?_)
          obtain ⟨rfl, rfl⟩ := hq
          have hS := hS94
          refine lv_if_eq (tgt := 32) hx hb dX2_cancel_28 (by decide) (fun hc => ?_) (fun hc => ?_)
          · have h7 : t1 % d = 0 := (nI_inj (by omega) (by decide)).mp hc
            refine lv_aload_n hx hb dX2_cancel_32 rfl (lv_at hl 1 rfl) ?_
            refine va_get (D := g.1) (ci := 2) (v := .ref (a + 3)) (C := RX2) (T := TX2) (N := 2) hx hb hts (by decide +kernel) hown hK.1 (xr_one hO) 0 rfl rfl 1 (by decide) (hts (.fieldLink RX2 16 "SharesDesk$Ratio" "bottom" "LSharesDesk$Natural;") (by decide +kernel)) (fun _ h9 => h9) rfl dX2_cancel_33 ?_
            refine lv_iload_n hx hb dX2_cancel_36 rfl (lv_at hl 2 rfl) ?_
            refine xr_Vi (rest := []) ⟨hx, hb, hml, hown, hts⟩ (KK_ok g) hK (c_X0_divide l g H (a + 3) b1 d hN2 (by omega) (by omega)) (cwV 1 hts gX2_cancel_X0_divide rfl rfl rfl (by decide +kernel) ⟨Nat.le_of_ble_eq_true rfl, Nat.le_of_ble_eq_true rfl⟩) (xr_rec hK hN2.1 rfl) rfl hl.1 rfl (Nat.le_of_ble_eq_true rfl) dX2_cancel_37 ⟨Nat.le_of_ble_eq_true rfl, Nat.le_of_ble_eq_true rfl⟩ hS (fun q h => by have h : q = a + 3 + 1 := h; show q = a + 2 ∨ q = a + 4; omega) (fun r H locs hq hz hkp hS => ?_)
            replace hkp := fun (q : Nat) h1 (h2 : ¬ (q = a + 3 + 1)) => hkp q h1 h2
            replace hO := hO.kept (hkp _ hO.lt (by omega))
            replace hN1 := hN1.kept (hkp _ hN1.1.lt (by omega)) (hkp _ hN1.2.1.lt (by omega))
            have hN2 : NatAt g H (a + 3) (b1 / d) := hq.2
            refine lv_pop hx hb dX2_cancel_40 rfl ?_
            refine lv_aload_n hx hb dX2_cancel_41 rfl (lv_at hl 1 rfl) ?_
            refine va_get (D := g.1) (ci := 2) (v := .ref (a + 1)) (C := RX2) (T := TX2) (N := 2) hx hb hts (by decide +kernel) hown hK.1 (xr_one hO) 0 rfl rfl 0 (by decide) (hts (.fieldLink RX2 10 "SharesDesk$Ratio" "top" "LSharesDesk$Natural;") (by decide +kernel)) (fun _ h9 => h9) rfl dX2_cancel_42 ?_
            refine lv_iload_n hx hb dX2_cancel_45 rfl (lv_at hl 2 rfl) ?_
            refine xr_Vi (rest := []) ⟨hx, hb, hml, hown, hts⟩ (KK_ok g) hK (c_X0_divide l g H (a + 1) t1 d hN1 (by omega) (by omega)) (cwV 1 hts gX2_cancel_X0_divide rfl rfl rfl (by decide +kernel) ⟨Nat.le_of_ble_eq_true rfl, Nat.le_of_ble_eq_true rfl⟩) (xr_rec hK hN1.1 rfl) rfl hl.1 rfl (Nat.le_of_ble_eq_true rfl) dX2_cancel_46 ⟨Nat.le_of_ble_eq_true rfl, Nat.le_of_ble_eq_true rfl⟩ hS (fun q h => by have h : q = a + 1 + 1 := h; show q = a + 2 ∨ q = a + 4; omega) (fun r H locs hq hz hkp hS => ?_)
            replace hkp := fun (q : Nat) h1 (h2 : ¬ (q = a + 1 + 1)) => hkp q h1 h2
            replace hO := hO.kept (hkp _ hO.lt (by omega))
            replace hN2 := hN2.kept (hkp _ hN2.1.lt (by omega)) (hkp _ hN2.2.1.lt (by omega))
            have hN1 : NatAt g H (a + 1) (t1 / d) := hq.2
            refine lv_pop hx hb dX2_cancel_49 rfl ?_
            refine lv_iinc (v := nI (i + 1)) (lv' := [(2, .int (nI (i + 1))), (0, .ref a), (1, .int (nI d))]) hx hb dX2_cancel_50 hl (k := 0) rfl (nI_1 i) (by decide) rfl (fun ls hl => ?_)
            refine lv_goto (tgt := 2) hx hb dX2_cancel_53 (by decide) ?_
            exact ih (i + 1) (by omega) H locs (t1 / d) (b1 / d) ⟨hO, hN1, hN2⟩ (hRd.step (by omega) h7 h8) (can_half hd1 hbi) hS ls (lv_sub hl [0, 1, 2] rfl)
          · have h9 : ¬ t1 % d = 0 := fun q => hc (by rw [q]; rfl)
            exact xr_vret hx hb hr hlocks hS ⟨t1, b1, hR1, hRd, fun q9 => h9 q9.1⟩ dX2_cancel_31
  refine lv_iconst (v := 0) hx hb dX2_cancel_0 (by decide) ?_
  refine xr_ti (x' := nI 0) rfl ?_
  refine lv_istore_n (lv' := [(2, .int (nI 0)), (0, .ref a), (1, .int (nI d))]) hx hb dX2_cancel_1 rfl hl (by decide) rfl (fun ls hl => ?_)
  exact loop 128 0 (by omega) s.heap [] t b hR Red.rf (by simp) hS ls (lv_sub hl [0, 1, 2] rfl)
set_option maxHeartbeats 800000 in
set_option maxRecDepth 100000 in
theorem c_X2_take (l : Launch) (g : WG) (H0 : Heap) (a t u x y n b : Nat) (hR : RatioAt g H0 a t u) (hP : PrimesAt g H0) (hp1 : g.2.2.1.1 < a ∨ a + 5 ≤ g.2.2.1.1) (hp2 : g.2.2.2.2.1 < a ∨ a + 5 ≤ g.2.2.2.2.1) (hX : NatAt g H0 x n) (hY : NatAt g H0 y b) (hx1 : x + 1 < a ∨ a + 5 ≤ x) (hy1 : y + 1 < a ∨ a + 5 ≤ y) (hb0 : 0 < b) (hsm : Smooth b) : Ctr l (KK g) yX2_take wsX2_take { frames := 3, cells := 0, slots := 0, locals := 64 } [.ref a, .ref x, .ref y] H0 eV (fun _ H => RatioAt g H a (n / Nat.gcd n b) (b / Nat.gcd n b)) (fun q => q = a + 2 ∨ q = a + 4) := by
  refine xr_enter (cc := cX2_take) (maxL := 7) (ret := none) (by decide) rfl (Nat.le_of_ble_eq_true rfl) ?_
  intro pgm env s mid below meth cde hx hb hr hml hts hown hlocks hnm hH hK ls hl
  subst hH
  have hl : lv_has ls 7 [(0, .ref a), (1, .ref x), (2, .ref y)] := hl
  have hS : va_S (fun q => q = a + 2 ∨ q = a + 4) s.heap s.heap [] := va_S.rf
  obtain ⟨hO, hN1, hN2⟩ := id hR
  have loop : ∀ (k i : Nat), i + k = 15 → ∀ (H : Heap) (locs : List Loc) (t1 b1 : Nat), RatioAt g H a t1 b1 → PrimesAt g H → Red n b t1 b1 → (∀ j, j < i → ¬ (t1 % pr15 j = 0 ∧ b1 % pr15 j = 0)) → va_S (fun q => q = a + 2 ∨ q = a + 4) s.heap H locs → ∀ ls : Array Slot, lv_has ls 7 [(5, .int (nI i)), (4, .int (nI 15)), (3, .ref g.2.2.2.2.1), (0, .ref a)] → W pgm l env { frames := 3, cells := 0, slots := 0, locals := 64 } s mid ([.ref a, .ref x, .ref y] : List Value).toArray below meth cde H locs 0 0 (MQ below (xr_Post eV (fun _ H => RatioAt g H a (n / Nat.gcd n b) (b / Nat.gcd n b)) (fun q => q = a + 2 ∨ q = a + 4)) ([.ref a, .ref x, .ref y] : List Value).toArray s ({ frames := 3, cells := 0, slots := 0, locals := 64 } : Room).cells ({ frames := 3, cells := 0, slots := 0, locals := 64 } : Room).slots (fun q => q = a + 2 ∨ q = a + 4)) (F0 mid 39 ls []) := by
    intro k
    induction k with
    | zero =>
      intro i h1 H locs t1 b1 hR1 hP hRd hno hS ls hl
      have e : i = 15 := by omega
      subst e
      refine lv_iload hx hb dX2_take_39 (lv_at hl 0 rfl) ?_
      refine lv_iload hx hb dX2_take_41 (lv_at hl 1 rfl) ?_
      refine lv_icmp_ge (tgt := 64) hx hb dX2_take_43 (by decide) (fun hc => ?_) (fun hc => ?_)
      · obtain ⟨e1, e2⟩ := hRd.fin hb0 hsm hno
        subst e1 e2
        exact xr_vret hx hb hr hlocks hS hR1 dX2_take_64
      · exact absurd (by decide) hc
    | succ k ih =>
      intro i h1 H locs t1 b1 hR1 hP hRd hno hS ls hl
      have hpb := pr15_b i (by omega)
      refine lv_iload hx hb dX2_take_39 (lv_at hl 0 rfl) ?_
      refine lv_iload hx hb dX2_take_41 (lv_at hl 1 rfl) ?_
      refine lv_icmp_ge (tgt := 64) hx hb dX2_take_43 (by decide) (fun hc => ?_) (fun hc => ?_)
      · exact absurd ((nI_leI (a := 15) (b := i) (by decide) (by omega)).mp hc) (by omega)
      · clear hc
        refine lv_aload_n hx hb dX2_take_46 rfl (lv_at hl 2 rfl) ?_
        refine lv_iload hx hb dX2_take_47 (lv_at hl 0 rfl) ?_
        refine xr_pr hx hb hK hP (show i < 15 by omega) dX2_take_49 ?_
        refine lv_istore (lv' := [(6, .int (nI (pr15 i))), (5, .int (nI i)), (4, .int (nI 15)), (3, .ref g.2.2.2.2.1), (0, .ref a)]) hx hb dX2_take_50 hl (by decide) rfl (fun ls hl => ?_)
        refine lv_aload_n hx hb dX2_take_52 rfl (lv_at hl 4 rfl) ?_
        refine lv_iload hx hb dX2_take_53 (lv_at hl 0 rfl) ?_
        refine xr_Vv (rest := []) ⟨hx, hb, hml, hown, hts⟩ (KK_ok g) hK (c_X2_cancel l g H a t1 b1 (pr15 i) hR1 (hRd.pos hb0) hpb.1 hpb.2) (cwV 1 hts gX2_take_X2_cancel rfl rfl rfl (by decide +kernel) ⟨Nat.le_of_ble_eq_true rfl, Nat.le_of_ble_eq_true rfl⟩) (xr_rec hK hR1.1 rfl) rfl hl.1 rfl (Nat.le_of_ble_eq_true rfl) dX2_take_55 ⟨Nat.le_of_ble_eq_true rfl, Nat.le_of_ble_eq_true rfl⟩ hS (fun q h => h) (fun _ H locs hq hz hkp hS => ?_)
        replace hkp := fun (q : Nat) h1 (h2 : ¬ (q = a + 2 ∨ q = a + 4)) => hkp q h1 h2
        replace hP := hP.kept (hkp _ hP.l1 (by omega)) (hkp _ hP.l2 (by omega))
        obtain ⟨t2, b2, hR2, hRd2, hn2⟩ := hq
        refine lv_iinc (v := nI (i + 1)) (lv' := [(5, .int (nI (i + 1))), (6, .int (nI (pr15 i))), (4, .int (nI 15)), (3, .ref g.2.2.2.2.1), (0, .ref a)]) hx hb dX2_take_58 hl (k := 1) rfl (nI_1 i) (by decide) rfl (fun ls hl => ?_)
        refine lv_goto (tgt := 39) hx hb dX2_take_61 (by decide) ?_
        exact ih (i + 1) (by omega) H locs t2 b2 hR2 hP (hRd.trans hRd2) (fun j hj => if e : j = i then e ▸ hn2 else hRd2.no (hno j (by omega))) hS ls (lv_sub hl [0, 2, 3, 4] rfl)
  refine lv_aload_n hx hb dX2_take_0 rfl (lv_at hl 1 rfl) ?_
  refine xr_Vi (rest := []) ⟨hx, hb, hml, hown, hts⟩ (KK_ok g) hK (c_X0_isZero l g s.heap x n hX) (cwV 0 hts gX2_take_X0_isZero rfl rfl rfl (by decide +kernel) ⟨Nat.le_of_ble_eq_true rfl, Nat.le_of_ble_eq_true rfl⟩) (xr_rec hK hX.1 rfl) rfl hl.1 rfl (Nat.le_of_ble_eq_true rfl) dX2_take_1 ⟨Nat.le_of_ble_eq_true rfl, Nat.le_of_ble_eq_true rfl⟩ hS (fun q h => h.elim) (fun r H locs hq hz hkp hS95 => ?_)
  obtain ⟨rfl, rfl⟩ := hq
  have hS := hS95
  refine lv_if_eq (tgt := 12) hx hb dX2_take_4 (by decide) (fun hc => ?_) (fun hc => ?_)
  · have h0 : ¬ n = 0 := of_decide_eq_false (b2i_0.mp hc)
    refine lv_aload_n hx hb dX2_take_12 rfl (lv_at hl 0 rfl) ?_
    refine va_get (D := g.1) (ci := 2) (v := .ref (a + 1)) (C := RX2) (T := TX2) (N := 2) hx hb hts (by decide +kernel) hown hK.1 (xr_one hO) 0 rfl rfl 0 (by decide) (hts (.fieldLink RX2 10 "SharesDesk$Ratio" "top" "LSharesDesk$Natural;") (by decide +kernel)) (fun _ h9 => h9) rfl dX2_take_13 ?_
    refine lv_aload_n hx hb dX2_take_16 rfl (lv_at hl 1 rfl) ?_
    refine xr_Vv (rest := []) ⟨hx, hb, hml, hown, hts⟩ (KK_ok g) hK (c_X0_copy l g s.heap (a + 1) x t n hN1 hX (by omega)) (cwV 1 hts gX2_take_X0_copy rfl rfl rfl (by decide +kernel) ⟨Nat.le_of_ble_eq_true rfl, Nat.le_of_ble_eq_true rfl⟩) (xr_rec hK hN1.1 rfl) rfl hl.1 rfl (Nat.le_of_ble_eq_true rfl) dX2_take_17 ⟨Nat.le_of_ble_eq_true rfl, Nat.le_of_ble_eq_true rfl⟩ hS (fun q h => by have h : q = a + 1 + 1 := h; show q = a + 2 ∨ q = a + 4; omega) (fun _ H locs hq hz hkp hS => ?_)
    replace hkp := fun (q : Nat) h1 (h2 : ¬ (q = a + 1 + 1)) => hkp q h1 h2
    replace hO := hO.kept (hkp _ hO.lt (by omega))
    replace hN2 := hN2.kept (hkp _ hN2.1.lt (by omega)) (hkp _ hN2.2.1.lt (by omega))
    replace hY := hY.kept (hkp _ hY.1.lt (by omega)) (hkp _ hY.2.1.lt (by omega))
    replace hP := hP.kept (hkp _ hP.l1 (by omega)) (hkp _ hP.l2 (by omega))
    have hN1 : NatAt g H (a + 1) n := hq
    refine lv_aload_n hx hb dX2_take_20 rfl (lv_at hl 0 rfl) ?_
    refine va_get (D := g.1) (ci := 2) (v := .ref (a + 3)) (C := RX2) (T := TX2) (N := 2) hx hb hts (by decide +kernel) hown hK.1 (xr_one hO) 0 rfl rfl 1 (by decide) (hts (.fieldLink RX2 16 "SharesDesk$Ratio" "bottom" "LSharesDesk$Natural;") (by decide +kernel)) (fun _ h9 => h9) rfl dX2_take_21 ?_
    refine lv_aload_n hx hb dX2_take_24 rfl (lv_at hl 2 rfl) ?_
    refine xr_Vv (rest := []) ⟨hx, hb, hml, hown, hts⟩ (KK_ok g) hK (c_X0_copy l g H (a + 3) y u b hN2 hY (by omega)) (cwV 1 hts gX2_take_X0_copy rfl rfl rfl (by decide +kernel) ⟨Nat.le_of_ble_eq_true rfl, Nat.le_of_ble_eq_true rfl⟩) (xr_rec hK hN2.1 rfl) rfl hl.1 rfl (Nat.le_of_ble_eq_true rfl) dX2_take_25 ⟨Nat.le_of_ble_eq_true rfl, Nat.le_of_ble_eq_true rfl⟩ hS (fun q h => by have h : q = a + 3 + 1 := h; show q = a + 2 ∨ q = a + 4; omega) (fun _ H locs hq hz hkp hS => ?_)
    replace hkp := fun (q : Nat) h1 (h2 : ¬ (q = a + 3 + 1)) => hkp q h1 h2
    replace hO := hO.kept (hkp _ hO.lt (by omega))
    replace hP := hP.kept (hkp _ hP.l1 (by omega)) (hkp _ hP.l2 (by omega))
    replace hN1 := hN1.kept (hkp _ hN1.1.lt (by omega)) (hkp _ hN1.2.1.lt (by omega))
    have hN2 : NatAt g H (a + 3) b := hq
    refine xr_gp hx hb hK hP hown (hts (.fieldLink RX2 34 "SharesDesk$Ratio" "PRIMES" "[I") (by decide +kernel)) dX2_take_28 ?_
    refine lv_astore_n (lv' := [(3, .ref g.2.2.2.2.1), (0, .ref a), (1, .ref x), (2, .ref y)]) hx hb dX2_take_31 rfl hl (by decide) rfl (fun ls hl => ?_)
    refine lv_aload_n hx hb dX2_take_32 rfl (lv_at hl 0 rfl) ?_
    refine xr_pn hx hb hK hP dX2_take_33 ?_
    refine lv_istore (lv' := [(4, .int (nI 15)), (3, .ref g.2.2.2.2.1), (0, .ref a), (1, .ref x), (2, .ref y)]) hx hb dX2_take_34 hl (by decide) rfl (fun ls hl => ?_)
    refine lv_iconst (v := 0) hx hb dX2_take_36 (by decide) ?_
    refine xr_ti (x' := nI 0) rfl ?_
    refine lv_istore (lv' := [(5, .int (nI 0)), (4, .int (nI 15)), (3, .ref g.2.2.2.2.1), (0, .ref a), (1, .ref x), (2, .ref y)]) hx hb dX2_take_37 hl (by decide) rfl (fun ls hl => ?_)
    exact loop 15 0 (by omega) H locs n b ⟨hO, hN1, hN2⟩ hP Red.rf (fun j hj => absurd hj (Nat.not_lt_zero j)) hS ls (lv_sub hl [0, 1, 2, 3] rfl)
  · have h0 : n = 0 := of_decide_eq_true (b2i_n0.mp hc)
    subst h0
    refine lv_aload_n hx hb dX2_take_7 rfl (lv_at hl 0 rfl) ?_
    refine xr_Vv (rest := []) ⟨hx, hb, hml, hown, hts⟩ (KK_ok g) hK (c_X2_takeZero l g s.heap a t u hR) (cwV 0 hts gX2_take_X2_takeZero rfl rfl rfl (by decide +kernel) ⟨Nat.le_of_ble_eq_true rfl, Nat.le_of_ble_eq_true rfl⟩) (xr_rec hK hR.1 rfl) rfl hl.1 rfl (Nat.le_of_ble_eq_true rfl) dX2_take_8 ⟨Nat.le_of_ble_eq_true rfl, Nat.le_of_ble_eq_true rfl⟩ hS (fun q h => h) (fun _ H locs hq hz hkp hS => ?_)
    exact xr_vret hx hb hr hlocks hS (by rw [Nat.gcd_zero_left, Nat.zero_div, Nat.div_self hb0]; exact hq) dX2_take_11
end
section
/-! the text of a receipt -/
def SlipAt (g : WG) (H : Heap) (a : Nat) (ow : Int32) (tx : List Nat) : Prop :=
  obj g H a 4 [.int ow, .ref (a + 1), .int (nI tx.length), .ref (a + 2), .ref (a + 3)] ∧ (∃ f, xr_ia H (a + 1) (gC g) 1411 f ∧ ∀ j, j < tx.length → f j = nI (tx.getD j 0)) ∧ tx.length ≤ 1411 ∧ (∃ f, xr_ia H (a + 2) (gC g) 39 f) ∧ ∃ y, NatAt g H (a + 3) y
theorem SlipAt.kept {g : WG} {H H1 : Heap} {a : Nat} {ow : Int32} {tx : List Nat} (h : SlipAt g H a ow tx) (hk : ∀ q, q < H.size → a ≤ q → q < a + 5 → H1[q]? = H[q]?) : SlipAt g H1 a ow tx := by
  obtain ⟨h1, ⟨f, h2, h3⟩, h4, ⟨f2, h5⟩, ⟨y, h6⟩⟩ := h
  exact ⟨h1.kept (hk _ h1.lt (by omega) (by omega)), ⟨f, h2.kept (hk _ h2.lt (by omega) (by omega)), h3⟩, h4, ⟨f2, h5.kept (hk _ h5.lt (by omega) (by omega))⟩, y, h6.kept (hk _ h6.1.lt (by omega) (by omega)) (hk _ h6.2.1.lt (by omega) (by omega))⟩
theorem c_i2c {c : Nat} (h : c < 65536) : ((nI c).toUInt32 % 65536).toInt32 = nI c := by
  rw [pk_char, pk_tn (by omega), Nat.mod_eq_of_lt h]
theorem c_nar {c : Nat} (h : c < 65536) : vp_nar .char (nI c) = nI c := by
  unfold vp_nar
  rw [(pk_charN h).1]
/-- the last k decimal digits -/
def dg (n : Nat) : Nat → List Nat
  | 0 => []
  | k + 1 => (48 + n / 10 ^ k % 10) :: dg n k
theorem dg_len (n : Nat) : ∀ k, (dg n k).length = k
  | 0 => rfl
  | k + 1 => by show (dg n k).length + 1 = _; rw [dg_len n k]
/-- how many decimal digits -/
def nd : Nat → Nat → Nat
  | 0, _ => 1
  | f + 1, n => if n / 10 = 0 then 1 else nd f (n / 10) + 1
theorem nd_is : ∀ (f n k : Nat), 1 ≤ k → k ≤ f + 1 → n / 10 ^ k = 0 → (k = 1 ∨ n / 10 ^ (k - 1) ≠ 0) → nd f n = k
  | 0, n, k, h1, h2, h3, h4 => by show 1 = k; omega
  | f + 1, n, k, h1, h2, h3, h4 => by
    show (if n / 10 = 0 then 1 else nd f (n / 10) + 1) = k
    by_cases e : k = 1
    · subst e
      rw [if_pos (by simpa using h3)]
    · obtain ⟨j, rfl⟩ : ∃ j, k = j + 2 := ⟨k - 2, by omega⟩
      have h4 : n / 10 ^ (j + 1) ≠ 0 := h4.resolve_left e
      have e10 : ∀ i, n / 10 / 10 ^ i = n / 10 ^ (i + 1) := fun i => by rw [Nat.div_div_eq_div_mul, Nat.pow_succ, Nat.mul_comm]
      have hn : ¬ n / 10 = 0 := fun q => h4 (by rw [← e10, q, Nat.zero_div])
      rw [if_neg hn, nd_is f (n / 10) (j + 1) (by omega) (by omega) (by rw [e10]; exact h3) (Or.inr (by
        show n / 10 / 10 ^ j ≠ 0
        rw [e10]
        exact h4))]
/-- a number's decimal text -/
def dtx (n : Nat) : List Nat := dg n (nd 38 n)
theorem dtx_is {n k : Nat} (h1 : 1 ≤ k) (h2 : k ≤ 39) (h3 : n / 10 ^ k = 0) (h4 : k = 1 ∨ n / 10 ^ (k - 1) ≠ 0) : dtx n = dg n k := by unfold dtx; rw [nd_is 38 n k h1 h2 h3 h4]
theorem nd_le : ∀ f n, nd f n ≤ f + 1
  | 0, _ => Nat.le_refl 1
  | f + 1, n => by
    show (if n / 10 = 0 then 1 else nd f (n / 10) + 1) ≤ _
    have := nd_le f (n / 10)
    split <;> omega
theorem dtx_len (n : Nat) : (dtx n).length ≤ 39 := by unfold dtx; rw [dg_len]; exact nd_le 38 n
def rtx (t b : Nat) : List Nat := dtx t ++ (if b = 1 then [] else 47 :: dtx b)
theorem rtx_len (t b : Nat) : (rtx t b).length ≤ 79 := by
  have := dtx_len t
  have := dtx_len b
  unfold rtx
  split <;> simp <;> omega
theorem d10_39 {n : Nat} (h : n < 2 ^ 128) : n / 10 ^ 39 = 0 := Nat.div_eq_of_lt (Nat.lt_trans h (by decide))
theorem d10_s (n k : Nat) : n / 10 ^ k / 10 = n / 10 ^ (k + 1) := by rw [Nat.div_div_eq_div_mul, Nat.pow_succ]
theorem gd_app {tx : List Nat} {c j : Nat} {f : Nat → Int32} (h : ∀ j, j < tx.length → f j = nI (tx.getD j 0)) (hj : j < (tx ++ [c]).length) : upd f tx.length (nI c) j = nI ((tx ++ [c]).getD j 0) := by
  by_cases e : j = tx.length
  · subst e
    rw [upd_at]
    simp [List.getD]
  · have hl : j < tx.length := by simp at hj; omega
    rw [upd_ne e, h j hl]
    simp [List.getD, List.getElem?_append_left hl]
end
section
set_option maxRecDepth 20000 in
theorem ggX4_init_X0_init : GoodIn wsX4_init wsX0_init := goodIn_r _ [13, 14, 2, 3, 15, 16, 22] (by decide +kernel) (by decide +kernel)
set_option maxRecDepth 20000 in
theorem gX4_init_X0_init_n24 : GoodIn wsX4_init (wsX0_init) := ggX4_init_X0_init
theorem dX4_init_0 : decode cX4_init 0 = .ok (.aload_n 0, 1) := by decide +kernel
theorem dX4_init_1 : decode cX4_init 1 = .ok (.invokespecial 5, 3) := by decide +kernel
theorem dX4_init_4 : decode cX4_init 4 = .ok (.aload_n 0, 1) := by decide +kernel
theorem dX4_init_5 : decode cX4_init 5 = .ok (.iconst (-1), 1) := by decide +kernel
theorem dX4_init_6 : decode cX4_init 6 = .ok (.putfield 11, 3) := by decide +kernel
theorem dX4_init_9 : decode cX4_init 9 = .ok (.aload_n 0, 1) := by decide +kernel
theorem dX4_init_10 : decode cX4_init 10 = .ok (.sipush 1411, 3) := by decide +kernel
theorem dX4_init_13 : decode cX4_init 13 = .ok (.newarray .char, 2) := by decide +kernel
theorem dX4_init_15 : decode cX4_init 15 = .ok (.putfield 17, 3) := by decide +kernel
theorem dX4_init_18 : decode cX4_init 18 = .ok (.aload_n 0, 1) := by decide +kernel
theorem dX4_init_19 : decode cX4_init 19 = .ok (.bipush 39, 2) := by decide +kernel
theorem dX4_init_21 : decode cX4_init 21 = .ok (.newarray .char, 2) := by decide +kernel
theorem dX4_init_23 : decode cX4_init 23 = .ok (.putfield 21, 3) := by decide +kernel
theorem dX4_init_26 : decode cX4_init 26 = .ok (.aload_n 0, 1) := by decide +kernel
theorem dX4_init_27 : decode cX4_init 27 = .ok (.new 1, 3) := by decide +kernel
theorem dX4_init_30 : decode cX4_init 30 = .ok (.dup, 1) := by decide +kernel
theorem dX4_init_31 : decode cX4_init 31 = .ok (.invokespecial 24, 3) := by decide +kernel
theorem dX4_init_34 : decode cX4_init 34 = .ok (.putfield 25, 3) := by decide +kernel
theorem dX4_init_37 : decode cX4_init 37 = .ok (.return_, 1) := by decide +kernel
theorem dX4_clear_0 : decode cX4_clear 0 = .ok (.aload_n 0, 1) := by decide +kernel
theorem dX4_clear_1 : decode cX4_clear 1 = .ok (.iload_n 1, 1) := by decide +kernel
theorem dX4_clear_2 : decode cX4_clear 2 = .ok (.putfield 11, 3) := by decide +kernel
theorem dX4_clear_5 : decode cX4_clear 5 = .ok (.aload_n 0, 1) := by decide +kernel
theorem dX4_clear_6 : decode cX4_clear 6 = .ok (.iconst 0, 1) := by decide +kernel
theorem dX4_clear_7 : decode cX4_clear 7 = .ok (.putfield 29, 3) := by decide +kernel
theorem dX4_clear_10 : decode cX4_clear 10 = .ok (.return_, 1) := by decide +kernel
theorem dX4_charOr_0 : decode cX4_charOr 0 = .ok (.iload_n 1, 1) := by decide +kernel
theorem dX4_charOr_1 : decode cX4_charOr 1 = .ok (.ifCond .lt 20, 3) := by decide +kernel
theorem dX4_charOr_4 : decode cX4_charOr 4 = .ok (.iload_n 1, 1) := by decide +kernel
theorem dX4_charOr_5 : decode cX4_charOr 5 = .ok (.aload_n 0, 1) := by decide +kernel
theorem dX4_charOr_6 : decode cX4_charOr 6 = .ok (.getfield 29, 3) := by decide +kernel
theorem dX4_charOr_9 : decode cX4_charOr 9 = .ok (.if_icmp .ge 12, 3) := by decide +kernel
theorem dX4_charOr_12 : decode cX4_charOr 12 = .ok (.aload_n 0, 1) := by decide +kernel
theorem dX4_charOr_13 : decode cX4_charOr 13 = .ok (.getfield 17, 3) := by decide +kernel
theorem dX4_charOr_16 : decode cX4_charOr 16 = .ok (.iload_n 1, 1) := by decide +kernel
theorem dX4_charOr_17 : decode cX4_charOr 17 = .ok (.caload, 1) := by decide +kernel
theorem dX4_charOr_18 : decode cX4_charOr 18 = .ok (.goto 4, 3) := by decide +kernel
theorem dX4_charOr_21 : decode cX4_charOr 21 = .ok (.iload_n 2, 1) := by decide +kernel
theorem dX4_charOr_22 : decode cX4_charOr 22 = .ok (.ireturn, 1) := by decide +kernel
theorem dX4_put_0 : decode cX4_put 0 = .ok (.aload_n 0, 1) := by decide +kernel
theorem dX4_put_1 : decode cX4_put 1 = .ok (.getfield 29, 3) := by decide +kernel
theorem dX4_put_4 : decode cX4_put 4 = .ok (.aload_n 0, 1) := by decide +kernel
theorem dX4_put_5 : decode cX4_put 5 = .ok (.getfield 17, 3) := by decide +kernel
theorem dX4_put_8 : decode cX4_put 8 = .ok (.arraylength, 1) := by decide +kernel
theorem dX4_put_9 : decode cX4_put 9 = .ok (.if_icmp .ge 20, 3) := by decide +kernel
theorem dX4_put_12 : decode cX4_put 12 = .ok (.aload_n 0, 1) := by decide +kernel
theorem dX4_put_13 : decode cX4_put 13 = .ok (.getfield 17, 3) := by decide +kernel
theorem dX4_put_16 : decode cX4_put 16 = .ok (.aload_n 0, 1) := by decide +kernel
theorem dX4_put_17 : decode cX4_put 17 = .ok (.dup, 1) := by decide +kernel
theorem dX4_put_18 : decode cX4_put 18 = .ok (.getfield 29, 3) := by decide +kernel
theorem dX4_put_21 : decode cX4_put 21 = .ok (.dup_x1, 1) := by decide +kernel
theorem dX4_put_22 : decode cX4_put 22 = .ok (.iconst 1, 1) := by decide +kernel
theorem dX4_put_23 : decode cX4_put 23 = .ok (.iadd, 1) := by decide +kernel
theorem dX4_put_24 : decode cX4_put 24 = .ok (.putfield 29, 3) := by decide +kernel
theorem dX4_put_27 : decode cX4_put 27 = .ok (.iload_n 1, 1) := by decide +kernel
theorem dX4_put_28 : decode cX4_put 28 = .ok (.castore, 1) := by decide +kernel
theorem dX4_put_29 : decode cX4_put 29 = .ok (.return_, 1) := by decide +kernel
set_option maxRecDepth 20000 in
theorem ggX4_putProject_X4_put : GoodIn wsX4_putProject wsX4_put := goodIn_r _ [5, 6, 7, 8, 9, 10, 11, 12] (by decide +kernel) (by decide +kernel)
set_option maxRecDepth 20000 in
theorem gX4_putProject_X4_put : GoodIn wsX4_putProject (wsV RX4 32 RX4 yX4_put wsX4_put) := goodIn_app (goodIn_of _ (by decide +kernel)) ggX4_putProject_X4_put
theorem dX4_putProject_0 : decode cX4_putProject 0 = .ok (.aload_n 0, 1) := by decide +kernel
theorem dX4_putProject_1 : decode cX4_putProject 1 = .ok (.bipush 48, 2) := by decide +kernel
theorem dX4_putProject_3 : decode cX4_putProject 3 = .ok (.iload_n 1, 1) := by decide +kernel
theorem dX4_putProject_4 : decode cX4_putProject 4 = .ok (.bipush 10, 2) := by decide +kernel
theorem dX4_putProject_6 : decode cX4_putProject 6 = .ok (.idiv, 1) := by decide +kernel
theorem dX4_putProject_7 : decode cX4_putProject 7 = .ok (.iadd, 1) := by decide +kernel
theorem dX4_putProject_8 : decode cX4_putProject 8 = .ok (.i2c, 1) := by decide +kernel
theorem dX4_putProject_9 : decode cX4_putProject 9 = .ok (.invokevirtual 32, 3) := by decide +kernel
theorem dX4_putProject_12 : decode cX4_putProject 12 = .ok (.aload_n 0, 1) := by decide +kernel
theorem dX4_putProject_13 : decode cX4_putProject 13 = .ok (.bipush 48, 2) := by decide +kernel
theorem dX4_putProject_15 : decode cX4_putProject 15 = .ok (.iload_n 1, 1) := by decide +kernel
theorem dX4_putProject_16 : decode cX4_putProject 16 = .ok (.bipush 10, 2) := by decide +kernel
theorem dX4_putProject_18 : decode cX4_putProject 18 = .ok (.irem, 1) := by decide +kernel
theorem dX4_putProject_19 : decode cX4_putProject 19 = .ok (.iadd, 1) := by decide +kernel
theorem dX4_putProject_20 : decode cX4_putProject 20 = .ok (.i2c, 1) := by decide +kernel
theorem dX4_putProject_21 : decode cX4_putProject 21 = .ok (.invokevirtual 32, 3) := by decide +kernel
theorem dX4_putProject_24 : decode cX4_putProject 24 = .ok (.aload_n 0, 1) := by decide +kernel
theorem dX4_putProject_25 : decode cX4_putProject 25 = .ok (.bipush 32, 2) := by decide +kernel
theorem dX4_putProject_27 : decode cX4_putProject 27 = .ok (.invokevirtual 32, 3) := by decide +kernel
theorem dX4_putProject_30 : decode cX4_putProject 30 = .ok (.return_, 1) := by decide +kernel
set_option maxRecDepth 20000 in
theorem ggX4_putRatio_X4_putNatural : GoodIn wsX4_putRatio wsX4_putNatural := goodIn_r _ [7, 8, 9, 10, 11, 12, 13, 14, 15, 16, 17, 18, 19, 20, 21, 22, 23, 24, 25, 26, 27, 28, 29, 30, 31, 6, 32, 33, 34, 41, 42, 43, 44, 45, 46] (by decide +kernel) (by decide +kernel)
set_option maxRecDepth 20000 in
theorem gX4_putRatio_X4_putNatural : GoodIn wsX4_putRatio (wsV RX4 41 RX4 yX4_putNatural wsX4_putNatural) := goodIn_app (goodIn_of _ (by decide +kernel)) ggX4_putRatio_X4_putNatural
set_option maxRecDepth 20000 in
theorem ggX4_putRatio_X0_isOne : GoodIn wsX4_putRatio wsX0_isOne := goodIn_r _ [38, 15, 46] (by decide +kernel) (by decide +kernel)
set_option maxRecDepth 20000 in
theorem gX4_putRatio_X0_isOne : GoodIn wsX4_putRatio (wsV RX4 48 RX0 yX0_isOne wsX0_isOne) := goodIn_app (goodIn_of _ (by decide +kernel)) ggX4_putRatio_X0_isOne
set_option maxRecDepth 20000 in
theorem ggX4_putRatio_X4_put : GoodIn wsX4_putRatio wsX4_put := goodIn_r _ [32, 33, 34, 41, 42, 43, 44, 45] (by decide +kernel) (by decide +kernel)
set_option maxRecDepth 20000 in
theorem gX4_putRatio_X4_put : GoodIn wsX4_putRatio (wsV RX4 32 RX4 yX4_put wsX4_put) := goodIn_app (goodIn_of _ (by decide +kernel)) ggX4_putRatio_X4_put
theorem dX4_putRatio_0 : decode cX4_putRatio 0 = .ok (.aload_n 0, 1) := by decide +kernel
theorem dX4_putRatio_1 : decode cX4_putRatio 1 = .ok (.aload_n 1, 1) := by decide +kernel
theorem dX4_putRatio_2 : decode cX4_putRatio 2 = .ok (.getfield 36, 3) := by decide +kernel
theorem dX4_putRatio_5 : decode cX4_putRatio 5 = .ok (.invokevirtual 41, 3) := by decide +kernel
theorem dX4_putRatio_8 : decode cX4_putRatio 8 = .ok (.aload_n 1, 1) := by decide +kernel
theorem dX4_putRatio_9 : decode cX4_putRatio 9 = .ok (.getfield 45, 3) := by decide +kernel
theorem dX4_putRatio_12 : decode cX4_putRatio 12 = .ok (.invokevirtual 48, 3) := by decide +kernel
theorem dX4_putRatio_15 : decode cX4_putRatio 15 = .ok (.ifCond .ne 17, 3) := by decide +kernel
theorem dX4_putRatio_18 : decode cX4_putRatio 18 = .ok (.aload_n 0, 1) := by decide +kernel
theorem dX4_putRatio_19 : decode cX4_putRatio 19 = .ok (.bipush 47, 2) := by decide +kernel
theorem dX4_putRatio_21 : decode cX4_putRatio 21 = .ok (.invokevirtual 32, 3) := by decide +kernel
theorem dX4_putRatio_24 : decode cX4_putRatio 24 = .ok (.aload_n 0, 1) := by decide +kernel
theorem dX4_putRatio_25 : decode cX4_putRatio 25 = .ok (.aload_n 1, 1) := by decide +kernel
theorem dX4_putRatio_26 : decode cX4_putRatio 26 = .ok (.getfield 45, 3) := by decide +kernel
theorem dX4_putRatio_29 : decode cX4_putRatio 29 = .ok (.invokevirtual 41, 3) := by decide +kernel
theorem dX4_putRatio_32 : decode cX4_putRatio 32 = .ok (.return_, 1) := by decide +kernel
set_option maxRecDepth 20000 in
theorem ggX4_putNatural_X0_copy : GoodIn wsX4_putNatural wsX0_copy := goodIn_r _ [7, 8, 9, 10, 11, 12, 34] (by decide +kernel) (by decide +kernel)
set_option maxRecDepth 20000 in
theorem gX4_putNatural_X0_copy : GoodIn wsX4_putNatural (wsV RX4 52 RX0 yX0_copy wsX0_copy) := goodIn_app (goodIn_of _ (by decide +kernel)) ggX4_putNatural_X0_copy
set_option maxRecDepth 20000 in
theorem ggX4_putNatural_X0_divide : GoodIn wsX4_putNatural wsX0_divide := goodIn_r _ [16, 8, 17, 34] (by decide +kernel) (by decide +kernel)
set_option maxRecDepth 20000 in
theorem gX4_putNatural_X0_divide : GoodIn wsX4_putNatural (wsV RX4 55 RX0 yX0_divide wsX0_divide) := goodIn_app (goodIn_of _ (by decide +kernel)) ggX4_putNatural_X0_divide
set_option maxRecDepth 20000 in
theorem ggX4_putNatural_X0_isZero : GoodIn wsX4_putNatural wsX0_isZero := goodIn_r _ [21, 8, 34] (by decide +kernel) (by decide +kernel)
set_option maxRecDepth 20000 in
theorem gX4_putNatural_X0_isZero : GoodIn wsX4_putNatural (wsV RX4 59 RX0 yX0_isZero wsX0_isZero) := goodIn_app (goodIn_of _ (by decide +kernel)) ggX4_putNatural_X0_isZero
set_option maxRecDepth 20000 in
theorem ggX4_putNatural_X4_put : GoodIn wsX4_putNatural wsX4_put := goodIn_r _ [26, 27, 28, 29, 30, 31, 32, 33] (by decide +kernel) (by decide +kernel)
set_option maxRecDepth 20000 in
theorem gX4_putNatural_X4_put : GoodIn wsX4_putNatural (wsV RX4 32 RX4 yX4_put wsX4_put) := goodIn_app (goodIn_of _ (by decide +kernel)) ggX4_putNatural_X4_put
theorem dX4_putNatural_0 : decode cX4_putNatural 0 = .ok (.aload_n 0, 1) := by decide +kernel
theorem dX4_putNatural_1 : decode cX4_putNatural 1 = .ok (.getfield 25, 3) := by decide +kernel
theorem dX4_putNatural_4 : decode cX4_putNatural 4 = .ok (.aload_n 1, 1) := by decide +kernel
theorem dX4_putNatural_5 : decode cX4_putNatural 5 = .ok (.invokevirtual 52, 3) := by decide +kernel
theorem dX4_putNatural_8 : decode cX4_putNatural 8 = .ok (.bipush 39, 2) := by decide +kernel
theorem dX4_putNatural_10 : decode cX4_putNatural 10 = .ok (.istore_n 2, 1) := by decide +kernel
theorem dX4_putNatural_11 : decode cX4_putNatural 11 = .ok (.iinc 2 (-1), 3) := by decide +kernel
theorem dX4_putNatural_14 : decode cX4_putNatural 14 = .ok (.aload_n 0, 1) := by decide +kernel
theorem dX4_putNatural_15 : decode cX4_putNatural 15 = .ok (.getfield 21, 3) := by decide +kernel
theorem dX4_putNatural_18 : decode cX4_putNatural 18 = .ok (.iload_n 2, 1) := by decide +kernel
theorem dX4_putNatural_19 : decode cX4_putNatural 19 = .ok (.bipush 48, 2) := by decide +kernel
theorem dX4_putNatural_21 : decode cX4_putNatural 21 = .ok (.aload_n 0, 1) := by decide +kernel
theorem dX4_putNatural_22 : decode cX4_putNatural 22 = .ok (.getfield 25, 3) := by decide +kernel
theorem dX4_putNatural_25 : decode cX4_putNatural 25 = .ok (.bipush 10, 2) := by decide +kernel
theorem dX4_putNatural_27 : decode cX4_putNatural 27 = .ok (.invokevirtual 55, 3) := by decide +kernel
theorem dX4_putNatural_30 : decode cX4_putNatural 30 = .ok (.iadd, 1) := by decide +kernel
theorem dX4_putNatural_31 : decode cX4_putNatural 31 = .ok (.i2c, 1) := by decide +kernel
theorem dX4_putNatural_32 : decode cX4_putNatural 32 = .ok (.castore, 1) := by decide +kernel
theorem dX4_putNatural_33 : decode cX4_putNatural 33 = .ok (.iload_n 2, 1) := by decide +kernel
theorem dX4_putNatural_34 : decode cX4_putNatural 34 = .ok (.ifCond .le 13, 3) := by decide +kernel
theorem dX4_putNatural_37 : decode cX4_putNatural 37 = .ok (.aload_n 0, 1) := by decide +kernel
theorem dX4_putNatural_38 : decode cX4_putNatural 38 = .ok (.getfield 25, 3) := by decide +kernel
theorem dX4_putNatural_41 : decode cX4_putNatural 41 = .ok (.invokevirtual 59, 3) := by decide +kernel
theorem dX4_putNatural_44 : decode cX4_putNatural 44 = .ok (.ifCond .eq (-33), 3) := by decide +kernel
theorem dX4_putNatural_47 : decode cX4_putNatural 47 = .ok (.iload_n 2, 1) := by decide +kernel
theorem dX4_putNatural_48 : decode cX4_putNatural 48 = .ok (.istore_n 3, 1) := by decide +kernel
theorem dX4_putNatural_49 : decode cX4_putNatural 49 = .ok (.iload_n 3, 1) := by decide +kernel
theorem dX4_putNatural_50 : decode cX4_putNatural 50 = .ok (.bipush 39, 2) := by decide +kernel
theorem dX4_putNatural_52 : decode cX4_putNatural 52 = .ok (.if_icmp .ge 19, 3) := by decide +kernel
theorem dX4_putNatural_55 : decode cX4_putNatural 55 = .ok (.aload_n 0, 1) := by decide +kernel
theorem dX4_putNatural_56 : decode cX4_putNatural 56 = .ok (.aload_n 0, 1) := by decide +kernel
theorem dX4_putNatural_57 : decode cX4_putNatural 57 = .ok (.getfield 21, 3) := by decide +kernel
theorem dX4_putNatural_60 : decode cX4_putNatural 60 = .ok (.iload_n 3, 1) := by decide +kernel
theorem dX4_putNatural_61 : decode cX4_putNatural 61 = .ok (.caload, 1) := by decide +kernel
theorem dX4_putNatural_62 : decode cX4_putNatural 62 = .ok (.invokevirtual 32, 3) := by decide +kernel
theorem dX4_putNatural_65 : decode cX4_putNatural 65 = .ok (.iinc 3 1, 3) := by decide +kernel
theorem dX4_putNatural_68 : decode cX4_putNatural 68 = .ok (.goto (-19), 3) := by decide +kernel
theorem dX4_putNatural_71 : decode cX4_putNatural 71 = .ok (.return_, 1) := by decide +kernel
end
section
set_option maxHeartbeats 400000 in
set_option maxRecDepth 100000 in
theorem c_X4_init (l : Launch) (g : WG) (H0 : Heap) (a : Nat) (hO : obj g H0 a 4 [.int 0, .null, .int 0, .null, .null]) (hsz : H0.size = a + 1) : Ctr l (KK g) yX4_init wsX4_init { frames := 2, cells := 4, slots := 1455, locals := 32 } [.ref a] H0 eV (fun _ H => SlipAt g H a (-1) [] ∧ H.size = a + 5) (fun q => q = a ∨ a + 1 ≤ q) := by
  refine xr_enter (cc := cX4_init) (maxL := 1) (ret := none) (by decide) rfl (Nat.le_of_ble_eq_true rfl) ?_
  intro pgm env s mid below meth cde hx hb hr hml hts hown hlocks hnm hH hK ls hl
  subst hH
  have hl : lv_has ls 1 [(0, .ref a)] := hl
  have hS : va_S (fun q => q = a ∨ a + 1 ≤ q) s.heap s.heap [] := va_S.rf
  refine lv_aload_n hx hb dX4_init_0 rfl (lv_at hl 0 rfl) ?_
  refine W.objInit hx hb hown (hts (.methodLink RX4 5 objectInit) (by decide +kernel)) (hts (.instanceMethod objectInit) (by decide +kernel)) (hts _ (List.mem_cons_of_mem _ (List.mem_append_left _ (List.mem_append_left _ (List.mem_of_getElem? (i := 2) rfl))))) rfl (by rw [hml]; exact hl.1) rfl dX4_init_1 (Nat.le_of_ble_eq_true rfl) (Nat.le_of_ble_eq_true rfl) ?_
  refine W.eq (g2 := F0 mid 4 ls []) rfl ?_
  refine lv_aload_n hx hb dX4_init_4 rfl (lv_at hl 0 rfl) ?_
  refine lv_iconst (v := (-1)) hx hb dX4_init_5 (by decide) ?_
  refine xr_put (ci := 4) (v := .int (-1)) (ty := .int) (C := RX4) (T := TX4) (N := 5) hx hb hts (by decide +kernel) tyX4 tyX4_ok nmX4 hown hK.1 hO hS (Or.inl rfl) rfl 0 (by decide) (hts (.fieldLink RX4 11 "SharesDesk$Slip" "owner" "I") (by decide +kernel)) rfl (by decide +kernel) rfl rfl (Nat.le_of_ble_eq_true rfl) dX4_init_6 (fun H locs hz hkp hO hS => ?_)
  replace hsz := hz.trans hsz
  refine lv_aload_n hx hb dX4_init_9 rfl (lv_at hl 0 rfl) ?_
  refine lv_sipush (v := 1411) hx hb dX4_init_10 (by decide) ?_
  refine xr_newa (atype := .char) (cA := gC g) (N := 1411) hx hb (hts (.arrayClass .char) (by decide +kernel)) (hK.1.2 1 (gC g, .char) rfl).2 rfl hS (by decide) (by decide) (by decide) (Nat.le_of_ble_eq_true rfl) (Nat.le_of_ble_eq_true rfl) dX4_init_13 (fun H hz hkp hC hS => ?_)
  refine W.widen (k := 1) (n := 1411) (Nat.le_of_ble_eq_true rfl) (Nat.le_of_ble_eq_true rfl) ?_
  rw [hsz] at hC hz hkp ⊢
  replace hO := hO.kept (hkp _ (by omega))
  have hsz := hz
  refine xr_putF (ci := 4) (v := .ref (a + 1)) (ty := .array .char) (C := RX4) (T := TX4) (N := 5) hx hb hts (by decide +kernel) tyX4 tyX4_ok nmX4 hown hK.1 hO hS (Or.inl rfl) rfl 1 (by decide) (hts (.fieldLink RX4 17 "SharesDesk$Slip" "text" "[C") (by decide +kernel)) rfl hnm rfl (by decide +kernel) rfl rfl (Nat.le_of_ble_eq_true rfl) dX4_init_15 (fun H locs hz hkp hO hS => ?_)
  replace hC := hC.kept (hkp _ (by omega))
  replace hsz := hz.trans hsz
  refine lv_aload_n hx hb dX4_init_18 rfl (lv_at hl 0 rfl) ?_
  refine lv_bipush (v := 39) hx hb dX4_init_19 (by decide) ?_
  refine xr_newa (atype := .char) (cA := gC g) (N := 39) hx hb (hts (.arrayClass .char) (by decide +kernel)) (hK.1.2 1 (gC g, .char) rfl).2 rfl hS (by decide) (by decide) (by decide) (Nat.le_of_ble_eq_true rfl) (Nat.le_of_ble_eq_true rfl) dX4_init_21 (fun H hz hkp hD hS => ?_)
  refine W.widen (k := 2) (n := 1450) (Nat.le_of_ble_eq_true rfl) (Nat.le_of_ble_eq_true rfl) ?_
  rw [hsz] at hD hz hkp ⊢
  replace hC := hC.kept (hkp _ (by omega))
  replace hO := hO.kept (hkp _ (by omega))
  have hsz := hz
  refine xr_putF (ci := 4) (v := .ref (a + 2)) (ty := .array .char) (C := RX4) (T := TX4) (N := 5) hx hb hts (by decide +kernel) tyX4 tyX4_ok nmX4 hown hK.1 hO hS (Or.inl rfl) rfl 3 (by decide) (hts (.fieldLink RX4 21 "SharesDesk$Slip" "digits" "[C") (by decide +kernel)) rfl hnm rfl (by decide +kernel) rfl rfl (Nat.le_of_ble_eq_true rfl) dX4_init_23 (fun H locs hz hkp hO hS => ?_)
  replace hC := hC.kept (hkp _ (by omega))
  replace hD := hD.kept (hkp _ (by omega))
  replace hsz := hz.trans hsz
  refine lv_aload_n hx hb dX4_init_26 rfl (lv_at hl 0 rfl) ?_
  refine xr_new (ci := 0) (fs := [.null]) (C := RX0) (T := TX0) (N := 1) hx hb hts (by decide +kernel) tyX0 tyX0_ok hown (hts (.classLink RX4 1 RX0) (by decide +kernel)) (hts (.instantiable RX0 1) (by decide +kernel)) (hts (.initialized RX0) (by decide +kernel)) hK.1 hS rfl (fun j hj => by rcases (show j = 0 by omega) with rfl <;> rfl) (Nat.le_of_ble_eq_true rfl) (Nat.le_of_ble_eq_true rfl) dX4_init_27 (fun H hz hkp hQ hS => ?_)
  refine W.widen (k := 3) (n := 1451) (Nat.le_of_ble_eq_true rfl) (Nat.le_of_ble_eq_true rfl) ?_
  rw [hsz] at hQ hz hkp ⊢
  replace hC := hC.kept (hkp _ (by omega))
  replace hD := hD.kept (hkp _ (by omega))
  replace hO := hO.kept (hkp _ (by omega))
  have hsz := hz
  refine lv_dup hx hb dX4_init_30 rfl ?_
  refine xr_INv (rest := [.ref (a + 3), .ref a]) ⟨hx, hb, hml, hown, hts⟩ (KK_ok g) hK (c_X0_init l g H (a + 3) hQ hsz) ⟨va_cnB 0 hts gX4_init_X0_init_n24 rfl rfl rfl (hK.2.2.1 (RX4, 24, yX0_init) (by decide +kernel)) (hts (.initialized RX0) (by decide +kernel)) (by decide +kernel) ⟨Nat.le_of_ble_eq_true rfl, Nat.le_of_ble_eq_true rfl⟩, rfl, (hts (.instanceMethod yX0_init) (by decide +kernel))⟩ rfl hl.1 rfl (Nat.le_of_ble_eq_true rfl) dX4_init_31 ⟨Nat.le_of_ble_eq_true rfl, Nat.le_of_ble_eq_true rfl⟩ hS (fun q h => by have h : q = a + 3 ∨ a + 3 + 1 ≤ q := h; show q = a ∨ a + 1 ≤ q; omega) (fun _ H locs hq hz hkp hS => ?_)
  refine W.widen (k := 4) (n := 1455) (Nat.le_of_ble_eq_true rfl) (Nat.le_of_ble_eq_true rfl) ?_
  replace hkp := fun (q : Nat) h1 (h2 : ¬ (q = a + 3 ∨ a + 3 + 1 ≤ q)) => hkp q h1 h2
  replace hC := hC.kept (hkp _ hC.lt (by omega))
  replace hD := hD.kept (hkp _ hD.lt (by omega))
  replace hO := hO.kept (hkp _ hO.lt (by omega))
  obtain ⟨hN, hsz⟩ := hq
  refine xr_putF (ci := 4) (v := .ref (a + 3)) (ty := .object "SharesDesk$Natural") (C := RX4) (T := TX4) (N := 5) hx hb hts (by decide +kernel) tyX4 tyX4_ok nmX4 hown hK.1 hO hS (Or.inl rfl) rfl 4 (by decide) (hts (.fieldLink RX4 25 "SharesDesk$Slip" "rest" "LSharesDesk$Natural;") (by decide +kernel)) rfl hnm rfl (by decide +kernel) rfl rfl (Nat.le_of_ble_eq_true rfl) dX4_init_34 (fun H locs hz hkp hO hS => ?_)
  replace hC := hC.kept (hkp _ (by omega))
  replace hD := hD.kept (hkp _ (by omega))
  replace hN := hN.kept (hkp _ (by omega)) (hkp _ (by omega))
  have hsz := hz.trans hsz
  exact xr_vret hx hb hr hlocks hS ⟨⟨hO, ⟨_, hC, fun j hj => absurd hj (Nat.not_lt_zero j)⟩, by decide, ⟨_, hD⟩, 0, hN⟩, hsz⟩ dX4_init_37
set_option maxHeartbeats 400000 in
set_option maxRecDepth 100000 in
theorem c_X4_clear (l : Launch) (g : WG) (H0 : Heap) (a : Nat) (ow o2 : Int32) (tx : List Nat) (hL : SlipAt g H0 a ow tx) : Ctr l (KK g) yX4_clear wsX4_clear { frames := 0, cells := 0, slots := 0, locals := 0 } [.ref a, .int o2] H0 eV (fun _ H => SlipAt g H a o2 []) (fun q => q = a) := by
  refine xr_enter (cc := cX4_clear) (maxL := 2) (ret := none) (by decide) rfl (Nat.le_of_ble_eq_true rfl) ?_
  intro pgm env s mid below meth cde hx hb hr hml hts hown hlocks hnm hH hK ls hl
  subst hH
  have hl : lv_has ls 2 [(0, .ref a), (1, .int o2)] := hl
  have hS : va_S (fun q => q = a) s.heap s.heap [] := va_S.rf
  obtain ⟨hO, ⟨f, hC, hCf⟩, hle, ⟨fd, hD⟩, ⟨yy, hN⟩⟩ := id hL
  refine lv_aload_n hx hb dX4_clear_0 rfl (lv_at hl 0 rfl) ?_
  refine lv_iload_n hx hb dX4_clear_1 rfl (lv_at hl 1 rfl) ?_
  refine xr_put (ci := 4) (v := .int o2) (ty := .int) (C := RX4) (T := TX4) (N := 5) hx hb hts (by decide +kernel) tyX4 tyX4_ok nmX4 hown hK.1 hO hS rfl rfl 0 (by decide) (hts (.fieldLink RX4 11 "SharesDesk$Slip" "owner" "I") (by decide +kernel)) rfl (by decide +kernel) rfl rfl (Nat.le_of_ble_eq_true rfl) dX4_clear_2 (fun H locs hz hkp hO hS => ?_)
  replace hC := hC.kept (hkp _ (by omega))
  replace hD := hD.kept (hkp _ (by omega))
  replace hN := hN.kept (hkp _ (by omega)) (hkp _ (by omega))
  refine lv_aload_n hx hb dX4_clear_5 rfl (lv_at hl 0 rfl) ?_
  refine lv_iconst (v := 0) hx hb dX4_clear_6 (by decide) ?_
  refine xr_ti (x' := nI 0) rfl ?_
  refine xr_put (ci := 4) (v := .int (nI 0)) (ty := .int) (C := RX4) (T := TX4) (N := 5) hx hb hts (by decide +kernel) tyX4 tyX4_ok nmX4 hown hK.1 hO hS rfl rfl 2 (by decide) (hts (.fieldLink RX4 29 "SharesDesk$Slip" "length" "I") (by decide +kernel)) rfl (by decide +kernel) rfl rfl (Nat.le_of_ble_eq_true rfl) dX4_clear_7 (fun H locs hz hkp hO hS => ?_)
  replace hC := hC.kept (hkp _ (by omega))
  replace hD := hD.kept (hkp _ (by omega))
  replace hN := hN.kept (hkp _ (by omega)) (hkp _ (by omega))
  exact xr_vret hx hb hr hlocks hS ⟨hO, ⟨f, hC, fun j hj => absurd hj (Nat.not_lt_zero j)⟩, Nat.zero_le _, ⟨fd, hD⟩, yy, hN⟩ dX4_clear_10
set_option maxHeartbeats 400000 in
set_option maxRecDepth 100000 in
theorem c_X4_charOr (l : Launch) (g : WG) (H0 : Heap) (a : Nat) (ow k o2 : Int32) (tx : List Nat) (hL : SlipAt g H0 a ow tx) : Ctr l (KK g) yX4_charOr wsX4_charOr { frames := 0, cells := 0, slots := 0, locals := 0 } [.ref a, .int k, .int o2] H0 eI (fun r H => r = (if 0 ≤ k.toInt ∧ k.toInt < tx.length then nI (tx.getD k.toInt.toNat 0) else o2) ∧ H = H0) (fun _ => False) := by
  refine xr_enter (cc := cX4_charOr) (maxL := 3) (ret := (some .int)) (by decide) rfl (Nat.le_of_ble_eq_true rfl) ?_
  intro pgm env s mid below meth cde hx hb hr hml hts hown hlocks hnm hH hK ls hl
  subst hH
  have hl : lv_has ls 3 [(0, .ref a), (1, .int k), (2, .int o2)] := hl
  have hS : va_S (fun _ => False) s.heap s.heap [] := va_S.rf
  obtain ⟨hO, ⟨f, hC, hCf⟩, hle, ⟨fd, hD⟩, ⟨yy, hN⟩⟩ := id hL
  refine lv_iload_n hx hb dX4_charOr_0 rfl (lv_at hl 1 rfl) ?_
  refine lv_if_lt (tgt := 21) hx hb dX4_charOr_1 (by decide) (fun h0 => ?_) (fun h0 => ?_)
  · have h9 : k.toInt < 0 := Int32.lt_iff_toInt_lt.mp h0
    refine lv_iload_n hx hb dX4_charOr_21 rfl (lv_at hl 2 rfl) ?_
    exact xr_iret hx hb hr hlocks hS ⟨by rw [if_neg (by omega)], rfl⟩ dX4_charOr_22
  · obtain ⟨j, hj, rfl⟩ := nI_of h0
    have ej : (nI j).toInt = (j : Int) := nI_toInt hj
    refine lv_iload_n hx hb dX4_charOr_4 rfl (lv_at hl 1 rfl) ?_
    refine lv_aload_n hx hb dX4_charOr_5 rfl (lv_at hl 0 rfl) ?_
    refine va_get (D := g.1) (ci := 4) (v := .int (nI tx.length)) (C := RX4) (T := TX4) (N := 5) hx hb hts (by decide +kernel) hown hK.1 (xr_one hO) 0 rfl rfl 2 (by decide) (hts (.fieldLink RX4 29 "SharesDesk$Slip" "length" "I") (by decide +kernel)) (fun _ h9 => h9) rfl dX4_charOr_6 ?_
    refine lv_icmp_ge (tgt := 21) hx hb dX4_charOr_9 (by decide) (fun h4 => ?_) (fun h4 => ?_)
    · have h9 : tx.length ≤ j := (nI_leI (by omega) hj).mp h4
      refine lv_iload_n hx hb dX4_charOr_21 rfl (lv_at hl 2 rfl) ?_
      exact xr_iret hx hb hr hlocks hS ⟨by rw [if_neg (by omega)], rfl⟩ dX4_charOr_22
    · have h9 : j < tx.length := Nat.lt_of_not_le fun h => h4 (nI_le h hj)
      refine lv_aload_n hx hb dX4_charOr_12 rfl (lv_at hl 0 rfl) ?_
      refine va_get (D := g.1) (ci := 4) (v := .ref (a + 1)) (C := RX4) (T := TX4) (N := 5) hx hb hts (by decide +kernel) hown hK.1 (xr_one hO) 0 rfl rfl 1 (by decide) (hts (.fieldLink RX4 17 "SharesDesk$Slip" "text" "[C") (by decide +kernel)) (fun _ h9 => h9) rfl dX4_charOr_13 ?_
      refine lv_iload_n hx hb dX4_charOr_16 rfl (lv_at hl 1 rfl) ?_
      refine xr_cald hx hb hK.1 hC 1 rfl (vp_in_nI (show j < 1411 by omega) (by decide)) dX4_charOr_17 ?_
      rw [nI_clamp hj]
      refine xr_ti (x' := nI (tx.getD j 0)) (hCf j h9) ?_
      refine lv_goto (tgt := 22) hx hb dX4_charOr_18 (by decide) ?_
      exact xr_iret hx hb hr hlocks hS ⟨by rw [if_pos (by omega), ej]; rfl, rfl⟩ dX4_charOr_22
set_option maxHeartbeats 400000 in
set_option maxRecDepth 100000 in
theorem c_X4_put (l : Launch) (g : WG) (H0 : Heap) (a : Nat) (ow : Int32) (c : Nat) (tx : List Nat) (hL : SlipAt g H0 a ow tx) (hlt : tx.length < 1411) (hc16 : c < 65536) : Ctr l (KK g) yX4_put wsX4_put { frames := 0, cells := 0, slots := 0, locals := 0 } [.ref a, .int (nI c)] H0 eV (fun _ H => SlipAt g H a ow (tx ++ [c])) (fun q => q = a ∨ q = a + 1) := by
  refine xr_enter (cc := cX4_put) (maxL := 2) (ret := none) (by decide) rfl (Nat.le_of_ble_eq_true rfl) ?_
  intro pgm env s mid below meth cde hx hb hr hml hts hown hlocks hnm hH hK ls hl
  subst hH
  have hl : lv_has ls 2 [(0, .ref a), (1, .int (nI c))] := hl
  have hS : va_S (fun q => q = a ∨ q = a + 1) s.heap s.heap [] := va_S.rf
  obtain ⟨hO, ⟨f, hC, hCf⟩, hle, ⟨fd, hD⟩, ⟨yy, hN⟩⟩ := id hL
  refine lv_aload_n hx hb dX4_put_0 rfl (lv_at hl 0 rfl) ?_
  refine va_get (D := g.1) (ci := 4) (v := .int (nI tx.length)) (C := RX4) (T := TX4) (N := 5) hx hb hts (by decide +kernel) hown hK.1 (xr_one hO) 0 rfl rfl 2 (by decide) (hts (.fieldLink RX4 29 "SharesDesk$Slip" "length" "I") (by decide +kernel)) (fun _ h9 => h9) rfl dX4_put_1 ?_
  refine lv_aload_n hx hb dX4_put_4 rfl (lv_at hl 0 rfl) ?_
  refine va_get (D := g.1) (ci := 4) (v := .ref (a + 1)) (C := RX4) (T := TX4) (N := 5) hx hb hts (by decide +kernel) hown hK.1 (xr_one hO) 0 rfl rfl 1 (by decide) (hts (.fieldLink RX4 17 "SharesDesk$Slip" "text" "[C") (by decide +kernel)) (fun _ h9 => h9) rfl dX4_put_5 ?_
  refine xr_alen hx hb hK.1 hC 1 rfl dX4_put_8 ?_
  refine lv_icmp_ge (tgt := 29) hx hb dX4_put_9 (by decide) (fun hc => ?_) (fun hc => ?_)
  · exact absurd ((nI_leI (by decide) (by omega)).mp hc) (by omega)
  · clear hc
    refine lv_aload_n hx hb dX4_put_12 rfl (lv_at hl 0 rfl) ?_
    refine va_get (D := g.1) (ci := 4) (v := .ref (a + 1)) (C := RX4) (T := TX4) (N := 5) hx hb hts (by decide +kernel) hown hK.1 (xr_one hO) 0 rfl rfl 1 (by decide) (hts (.fieldLink RX4 17 "SharesDesk$Slip" "text" "[C") (by decide +kernel)) (fun _ h9 => h9) rfl dX4_put_13 ?_
    refine lv_aload_n hx hb dX4_put_16 rfl (lv_at hl 0 rfl) ?_
    refine lv_dup hx hb dX4_put_17 rfl ?_
    refine va_get (D := g.1) (ci := 4) (v := .int (nI tx.length)) (C := RX4) (T := TX4) (N := 5) hx hb hts (by decide +kernel) hown hK.1 (xr_one hO) 0 rfl rfl 2 (by decide) (hts (.fieldLink RX4 29 "SharesDesk$Slip" "length" "I") (by decide +kernel)) (fun _ h9 => h9) rfl dX4_put_18 ?_
    refine lv_dup_x1 hx hb dX4_put_21 rfl rfl ?_
    refine lv_iconst (v := 1) hx hb dX4_put_22 (by decide) ?_
    refine lv_iadd hx hb dX4_put_23 ?_
    refine xr_ti (x' := nI (tx.length + 1)) (nI_1 _) ?_
    refine xr_put (ci := 4) (v := .int (nI (tx.length + 1))) (ty := .int) (C := RX4) (T := TX4) (N := 5) hx hb hts (by decide +kernel) tyX4 tyX4_ok nmX4 hown hK.1 hO hS (Or.inl rfl) rfl 2 (by decide) (hts (.fieldLink RX4 29 "SharesDesk$Slip" "length" "I") (by decide +kernel)) rfl (by decide +kernel) rfl rfl (Nat.le_of_ble_eq_true rfl) dX4_put_24 (fun H locs hz hkp hO hS => ?_)
    replace hC := hC.kept (hkp _ (by omega))
    replace hD := hD.kept (hkp _ (by omega))
    replace hN := hN.kept (hkp _ (by omega)) (hkp _ (by omega))
    refine lv_iload_n hx hb dX4_put_27 rfl (lv_at hl 1 rfl) ?_
    refine xr_cast hx hb hK.1 hS (Or.inr rfl) hC 1 rfl (vp_in_nI hlt (by decide)) dX4_put_28 (fun H locs hz hkp hC hS => ?_)
    rw [nI_clamp (by omega), c_nar hc16] at hC
    replace hD := hD.kept (hkp _ (by omega))
    replace hN := hN.kept (hkp _ (by omega)) (hkp _ (by omega))
    replace hO := hO.kept (hkp _ (by omega))
    have el : (tx ++ [c]).length = tx.length + 1 := by simp
    rw [← el] at hO
    exact xr_vret hx hb hr hlocks hS ⟨hO, ⟨_, hC, fun j hj => gd_app hCf hj⟩, by omega, ⟨fd, hD⟩, yy, hN⟩ dX4_put_29
set_option maxHeartbeats 400000 in
set_option maxRecDepth 100000 in
theorem c_X4_putProject (l : Launch) (g : WG) (H0 : Heap) (a : Nat) (ow : Int32) (p : Nat) (tx : List Nat) (hL : SlipAt g H0 a ow tx) (hlt : tx.length + 3 ≤ 1411) (hp : p < 100) : Ctr l (KK g) yX4_putProject wsX4_putProject { frames := 1, cells := 0, slots := 0, locals := 21 } [.ref a, .int (nI p)] H0 eV (fun _ H => SlipAt g H a ow (tx ++ [48 + p / 10, 48 + p % 10, 32])) (fun q => q = a ∨ q = a + 1) := by
  refine xr_enter (cc := cX4_putProject) (maxL := 2) (ret := none) (by decide) rfl (Nat.le_of_ble_eq_true rfl) ?_
  intro pgm env s mid below meth cde hx hb hr hml hts hown hlocks hnm hH hK ls hl
  subst hH
  have hl : lv_has ls 2 [(0, .ref a), (1, .int (nI p))] := hl
  have hS : va_S (fun q => q = a ∨ q = a + 1) s.heap s.heap [] := va_S.rf
  refine lv_aload_n hx hb dX4_putProject_0 rfl (lv_at hl 0 rfl) ?_
  refine lv_bipush (v := 48) hx hb dX4_putProject_1 (by decide) ?_
  refine xr_ti (x' := nI 48) rfl ?_
  refine lv_iload_n hx hb dX4_putProject_3 rfl (lv_at hl 1 rfl) ?_
  refine lv_bipush (v := 10) hx hb dX4_putProject_4 (by decide) ?_
  refine xr_ti (x' := nI 10) rfl ?_
  refine lv_idiv hx hb dX4_putProject_6 (by decide) ?_
  refine xr_ti (x' := nI (p / 10)) (pk_div (by omega) (by decide) (by decide)) ?_
  refine lv_iadd hx hb dX4_putProject_7 ?_
  refine xr_ti (x' := nI (48 + p / 10)) (nI_add _ _) ?_
  refine lv_i2c (v := nI (48 + p / 10)) hx hb dX4_putProject_8 (c_i2c (by omega)) ?_
  refine xr_Vv (rest := []) ⟨hx, hb, hml, hown, hts⟩ (KK_ok g) hK (c_X4_put l g s.heap a ow (48 + p / 10) tx hL (by omega) (by omega)) (cwV 1 hts gX4_putProject_X4_put rfl rfl rfl (by decide +kernel) ⟨Nat.le_of_ble_eq_true rfl, Nat.le_of_ble_eq_true rfl⟩) (xr_rec hK hL.1 rfl) rfl hl.1 rfl (Nat.le_of_ble_eq_true rfl) dX4_putProject_9 ⟨Nat.le_of_ble_eq_true rfl, Nat.le_of_ble_eq_true rfl⟩ hS (fun q h => h) (fun _ H locs hq hz hkp hS => ?_)
  have hL : SlipAt g H a ow (tx ++ [48 + p / 10]) := hq
  refine lv_aload_n hx hb dX4_putProject_12 rfl (lv_at hl 0 rfl) ?_
  refine lv_bipush (v := 48) hx hb dX4_putProject_13 (by decide) ?_
  refine xr_ti (x' := nI 48) rfl ?_
  refine lv_iload_n hx hb dX4_putProject_15 rfl (lv_at hl 1 rfl) ?_
  refine lv_bipush (v := 10) hx hb dX4_putProject_16 (by decide) ?_
  refine xr_ti (x' := nI 10) rfl ?_
  refine lv_irem hx hb dX4_putProject_18 (by decide) ?_
  refine xr_ti (x' := nI (p % 10)) (pk_rem (by omega) (by decide) (by decide)) ?_
  refine lv_iadd hx hb dX4_putProject_19 ?_
  refine xr_ti (x' := nI (48 + p % 10)) (nI_add _ _) ?_
  refine lv_i2c (v := nI (48 + p % 10)) hx hb dX4_putProject_20 (c_i2c (by omega)) ?_
  refine xr_Vv (rest := []) ⟨hx, hb, hml, hown, hts⟩ (KK_ok g) hK (c_X4_put l g H a ow (48 + p % 10) _ hL (by simp; omega) (by omega)) (cwV 1 hts gX4_putProject_X4_put rfl rfl rfl (by decide +kernel) ⟨Nat.le_of_ble_eq_true rfl, Nat.le_of_ble_eq_true rfl⟩) (xr_rec hK hL.1 rfl) rfl hl.1 rfl (Nat.le_of_ble_eq_true rfl) dX4_putProject_21 ⟨Nat.le_of_ble_eq_true rfl, Nat.le_of_ble_eq_true rfl⟩ hS (fun q h => h) (fun _ H locs hq hz hkp hS => ?_)
  have hL : SlipAt g H a ow (tx ++ [48 + p / 10] ++ [48 + p % 10]) := hq
  refine lv_aload_n hx hb dX4_putProject_24 rfl (lv_at hl 0 rfl) ?_
  refine lv_bipush (v := 32) hx hb dX4_putProject_25 (by decide) ?_
  refine xr_ti (x' := nI 32) rfl ?_
  refine xr_Vv (rest := []) ⟨hx, hb, hml, hown, hts⟩ (KK_ok g) hK (c_X4_put l g H a ow 32 _ hL (by simp; omega) (by decide)) (cwV 1 hts gX4_putProject_X4_put rfl rfl rfl (by decide +kernel) ⟨Nat.le_of_ble_eq_true rfl, Nat.le_of_ble_eq_true rfl⟩) (xr_rec hK hL.1 rfl) rfl hl.1 rfl (Nat.le_of_ble_eq_true rfl) dX4_putProject_27 ⟨Nat.le_of_ble_eq_true rfl, Nat.le_of_ble_eq_true rfl⟩ hS (fun q h => h) (fun _ H locs hq hz hkp hS => ?_)
  exact xr_vret hx hb hr hlocks hS (by have h9 : SlipAt g H a ow (tx ++ [48 + p / 10] ++ [48 + p % 10] ++ [32]) := hq; simpa using h9) dX4_putProject_30
set_option maxHeartbeats 1000000 in
set_option maxRecDepth 100000 in
theorem c_X4_putNatural (l : Launch) (g : WG) (H0 : Heap) (a : Nat) (ow : Int32) (b n : Nat) (tx : List Nat) (hL : SlipAt g H0 a ow tx) (hB : NatAt g H0 b n) (hab : b + 1 < a ∨ a + 5 ≤ b) (hlt : tx.length + 39 ≤ 1411) : Ctr l (KK g) yX4_putNatural wsX4_putNatural { frames := 2, cells := 0, slots := 0, locals := 61 } [.ref a, .ref b] H0 eV (fun _ H => SlipAt g H a ow (tx ++ dtx n)) (fun q => a ≤ q ∧ q < a + 5) := by
  refine xr_enter (cc := cX4_putNatural) (maxL := 4) (ret := none) (by decide) rfl (Nat.le_of_ble_eq_true rfl) ?_
  intro pgm env s mid below meth cde hx hb hr hml hts hown hlocks hnm hH hK ls hl
  subst hH
  have hl : lv_has ls 4 [(0, .ref a), (1, .ref b)] := hl
  have hS : va_S (fun q => a ≤ q ∧ q < a + 5) s.heap s.heap [] := va_S.rf
  obtain ⟨hO, ⟨f, hC, hCf⟩, hle, ⟨fd, hD⟩, ⟨yy, hN⟩⟩ := id hL
  have hn128 := hB.2.2
  have out : ∀ (j k : Nat), j ≤ k → k ≤ 39 → dtx n = dg n k → ∀ (H : Heap) (locs : List Loc) (tx1 : List Nat), SlipAt g H a ow tx1 → tx1 ++ dg n j = tx ++ dg n k → ∀ fd : Nat → Int32, xr_ia H (a + 2) (gC g) 39 fd → (∀ i, i < k → fd (38 - i) = nI (48 + n / 10 ^ i % 10)) → va_S (fun q => a ≤ q ∧ q < a + 5) s.heap H locs → ∀ ls : Array Slot, lv_has ls 4 [(3, .int (nI (39 - j))), (0, .ref a)] → W pgm l env { frames := 2, cells := 0, slots := 0, locals := 61 } s mid ([.ref a, .ref b] : List Value).toArray below meth cde H locs 0 0 (MQ below (xr_Post eV (fun _ H => SlipAt g H a ow (tx ++ dtx n)) (fun q => a ≤ q ∧ q < a + 5)) ([.ref a, .ref b] : List Value).toArray s ({ frames := 2, cells := 0, slots := 0, locals := 61 } : Room).cells ({ frames := 2, cells := 0, slots := 0, locals := 61 } : Room).slots (fun q => a ≤ q ∧ q < a + 5)) (F0 mid 49 ls []) := by
    intro j
    induction j with
    | zero =>
      intro k h1 h2 hdt H locs tx1 hL1 htx fd hD hfd hS ls hl
      refine lv_iload_n hx hb dX4_putNatural_49 rfl (lv_at hl 0 rfl) ?_
      refine lv_bipush (v := 39) hx hb dX4_putNatural_50 (by decide) ?_
      refine lv_icmp_ge (tgt := 71) hx hb dX4_putNatural_52 (by decide) (fun hc => ?_) (fun hc => ?_)
      · clear hc
        exact xr_vret hx hb hr hlocks hS (by rw [hdt, ← htx]; simpa [dg] using hL1) dX4_putNatural_71
      · exact absurd (by decide) hc
    | succ j ih =>
      intro k h1 h2 hdt H locs tx1 hL1 htx fd hD hfd hS ls hl
      have hlen : tx1.length + (j + 1) = tx.length + k := by
        have h9 := congrArg List.length htx
        rw [List.length_append, List.length_append, dg_len, dg_len] at h9
        exact h9
      obtain ⟨hO, -⟩ := id hL1
      refine lv_iload_n hx hb dX4_putNatural_49 rfl (lv_at hl 0 rfl) ?_
      refine lv_bipush (v := 39) hx hb dX4_putNatural_50 (by decide) ?_
      refine lv_icmp_ge (tgt := 71) hx hb dX4_putNatural_52 (by decide) (fun hc => ?_) (fun hc => ?_)
      · exact absurd ((nI_leI (a := 39) (b := 39 - (j + 1)) (by decide) (by omega)).mp hc) (by omega)
      · clear hc
        refine lv_aload_n hx hb dX4_putNatural_55 rfl (lv_at hl 1 rfl) ?_
        refine lv_aload_n hx hb dX4_putNatural_56 rfl (lv_at hl 1 rfl) ?_
        refine va_get (D := g.1) (ci := 4) (v := .ref (a + 2)) (C := RX4) (T := TX4) (N := 5) hx hb hts (by decide +kernel) hown hK.1 (xr_one hO) 0 rfl rfl 3 (by decide) (hts (.fieldLink RX4 21 "SharesDesk$Slip" "digits" "[C") (by decide +kernel)) (fun _ h9 => h9) rfl dX4_putNatural_57 ?_
        refine lv_iload_n hx hb dX4_putNatural_60 rfl (lv_at hl 0 rfl) ?_
        refine xr_cald hx hb hK.1 hD 1 rfl (vp_in_nI (show 39 - (j + 1) < 39 by omega) (by decide)) dX4_putNatural_61 ?_
        rw [nI_clamp (by omega), show 39 - (j + 1) = 38 - j by omega]
        refine xr_ti (x' := nI (48 + n / 10 ^ j % 10)) (hfd j (by omega)) ?_
        refine xr_Vv (rest := []) ⟨hx, hb, hml, hown, hts⟩ (KK_ok g) hK (c_X4_put l g H a ow (48 + n / 10 ^ j % 10) tx1 hL1 (by omega) (by omega)) (cwV 1 hts gX4_putNatural_X4_put rfl rfl rfl (by decide +kernel) ⟨Nat.le_of_ble_eq_true rfl, Nat.le_of_ble_eq_true rfl⟩) (xr_rec hK hL1.1 rfl) rfl hl.1 rfl (Nat.le_of_ble_eq_true rfl) dX4_putNatural_62 ⟨Nat.le_of_ble_eq_true rfl, Nat.le_of_ble_eq_true rfl⟩ hS (fun q h => by have h : q = a ∨ q = a + 1 := h; show a ≤ q ∧ q < a + 5; omega) (fun _ H locs hq hz hkp hS => ?_)
        replace hkp := fun (q : Nat) h1 (h2 : ¬ (q = a ∨ q = a + 1)) => hkp q h1 h2
        replace hD := hD.kept (hkp _ hD.lt (by omega))
        have hL1 : SlipAt g H a ow (tx1 ++ [48 + n / 10 ^ j % 10]) := hq
        rw [show 39 - (j + 1) = 38 - j by omega] at hl
        refine lv_iinc (v := nI (39 - j)) (lv' := [(3, .int (nI (39 - j))), (0, .ref a)]) hx hb dX4_putNatural_65 hl (k := 0) rfl ((nI_1 (38 - j)).trans (by rw [show 38 - j + 1 = 39 - j by omega])) (by decide) rfl (fun ls hl => ?_)
        refine lv_goto (tgt := 49) hx hb dX4_putNatural_68 (by decide) ?_
        exact ih k (by omega) h2 hdt H locs _ hL1 (by rw [← htx]; simp [dg]) fd hD hfd hS ls (lv_sub hl [0, 1] rfl)
  have loop : ∀ (r k : Nat), k + r = 39 → (k = 0 ∨ n / 10 ^ k ≠ 0) → ∀ (H : Heap) (locs : List Loc) (fd : Nat → Int32), obj g H a 4 [.int ow, .ref (a + 1), .int (nI tx.length), .ref (a + 2), .ref (a + 3)] → xr_ia H (a + 1) (gC g) 1411 f → xr_ia H (a + 2) (gC g) 39 fd → NatAt g H (a + 3) (n / 10 ^ k) → (∀ i, i < k → fd (38 - i) = nI (48 + n / 10 ^ i % 10)) → va_S (fun q => a ≤ q ∧ q < a + 5) s.heap H locs → ∀ ls : Array Slot, lv_has ls 4 [(2, .int (nI (39 - k))), (0, .ref a)] → W pgm l env { frames := 2, cells := 0, slots := 0, locals := 61 } s mid ([.ref a, .ref b] : List Value).toArray below meth cde H locs 0 0 (MQ below (xr_Post eV (fun _ H => SlipAt g H a ow (tx ++ dtx n)) (fun q => a ≤ q ∧ q < a + 5)) ([.ref a, .ref b] : List Value).toArray s ({ frames := 2, cells := 0, slots := 0, locals := 61 } : Room).cells ({ frames := 2, cells := 0, slots := 0, locals := 61 } : Room).slots (fun q => a ≤ q ∧ q < a + 5)) (F0 mid 11 ls []) := by
    intro r
    induction r with
    | zero =>
      intro k h1 h2
      have e : k = 39 := by omega
      subst e
      exact absurd (d10_39 hn128) (h2.resolve_left (by decide))
    | succ r ih =>
      intro k h1 h2 H locs fd hO hC hD hN hfd hS ls hl
      refine lv_iinc (v := nI (38 - k)) (lv' := [(2, .int (nI (38 - k))), (0, .ref a)]) hx hb dX4_putNatural_11 hl (k := 0) rfl (by rw [show 39 - k = 38 - k + 1 by omega]; exact pk_m1 _) (by decide) rfl (fun ls hl => ?_)
      refine lv_aload_n hx hb dX4_putNatural_14 rfl (lv_at hl 1 rfl) ?_
      refine va_get (D := g.1) (ci := 4) (v := .ref (a + 2)) (C := RX4) (T := TX4) (N := 5) hx hb hts (by decide +kernel) hown hK.1 (xr_one hO) 0 rfl rfl 3 (by decide) (hts (.fieldLink RX4 21 "SharesDesk$Slip" "digits" "[C") (by decide +kernel)) (fun _ h9 => h9) rfl dX4_putNatural_15 ?_
      refine lv_iload_n hx hb dX4_putNatural_18 rfl (lv_at hl 0 rfl) ?_
      refine lv_bipush (v := 48) hx hb dX4_putNatural_19 (by decide) ?_
      refine xr_ti (x' := nI 48) rfl ?_
      refine lv_aload_n hx hb dX4_putNatural_21 rfl (lv_at hl 1 rfl) ?_
      refine va_get (D := g.1) (ci := 4) (v := .ref (a + 3)) (C := RX4) (T := TX4) (N := 5) hx hb hts (by decide +kernel) hown hK.1 (xr_one hO) 0 rfl rfl 4 (by decide) (hts (.fieldLink RX4 25 "SharesDesk$Slip" "rest" "LSharesDesk$Natural;") (by decide +kernel)) (fun _ h9 => h9) rfl dX4_putNatural_22 ?_
      refine lv_bipush (v := 10) hx hb dX4_putNatural_25 (by decide) ?_
      refine xr_ti (x' := nI 10) rfl ?_
      refine xr_Vi (rest := [.int (nI 48), .int (nI (38 - k)), .ref (a + 2)]) ⟨hx, hb, hml, hown, hts⟩ (KK_ok g) hK (c_X0_divide l g H (a + 3) (n / 10 ^ k) 10 hN (by decide) (by decide)) (cwV 1 hts gX4_putNatural_X0_divide rfl rfl rfl (by decide +kernel) ⟨Nat.le_of_ble_eq_true rfl, Nat.le_of_ble_eq_true rfl⟩) (xr_rec hK hN.1 rfl) rfl hl.1 rfl (Nat.le_of_ble_eq_true rfl) dX4_putNatural_27 ⟨Nat.le_of_ble_eq_true rfl, Nat.le_of_ble_eq_true rfl⟩ hS (fun q h => by have h : q = a + 3 + 1 := h; show a ≤ q ∧ q < a + 5; omega) (fun r H locs hq hz hkp hS => ?_)
      replace hkp := fun (q : Nat) h1 (h2 : ¬ (q = a + 3 + 1)) => hkp q h1 h2
      replace hO := hO.kept (hkp _ hO.lt (by omega))
      replace hC := hC.kept (hkp _ hC.lt (by omega))
      replace hD := hD.kept (hkp _ hD.lt (by omega))
      obtain ⟨rfl, hN⟩ := hq
      rw [d10_s] at hN
      refine lv_iadd hx hb dX4_putNatural_30 ?_
      refine xr_ti (x' := nI (48 + n / 10 ^ k % 10)) (nI_add _ _) ?_
      refine lv_i2c (v := nI (48 + n / 10 ^ k % 10)) hx hb dX4_putNatural_31 (c_i2c (by omega)) ?_
      refine xr_cast hx hb hK.1 hS (show a ≤ a + 2 ∧ a + 2 < a + 5 by omega) hD 1 rfl (vp_in_nI (show 38 - k < 39 by omega) (by decide)) dX4_putNatural_32 (fun H locs hz hkp hD hS => ?_)
      rw [nI_clamp (by omega), c_nar (by omega)] at hD
      replace hO := hO.kept (hkp _ (by omega))
      replace hC := hC.kept (hkp _ (by omega))
      replace hN := hN.kept (hkp _ (by omega)) (hkp _ (by omega))
      have hfd : ∀ i, i < k + 1 → upd fd (38 - k) (nI (48 + n / 10 ^ k % 10)) (38 - i) = nI (48 + n / 10 ^ i % 10) := fun i hi => if e : i = k then by rw [e, upd_at] else by rw [upd_ne (by omega), hfd i (by omega)]
      have hL1 : SlipAt g H a ow tx := ⟨hO, ⟨f, hC, hCf⟩, hle, ⟨_, hD⟩, _, hN⟩
      refine lv_iload_n hx hb dX4_putNatural_33 rfl (lv_at hl 0 rfl) ?_
      refine lv_if_le (tgt := 47) hx hb dX4_putNatural_34 (by decide) (fun hc => ?_) (fun hc => ?_)
      · have e : k = 38 := by have := (nI_leI (a := 38 - k) (b := 0) (by omega) (by decide)).mp hc; omega
        refine lv_iload_n hx hb dX4_putNatural_47 rfl (lv_at hl 0 rfl) ?_
        refine lv_istore_n (lv' := [(3, .int (nI (38 - k))), (2, .int (nI (38 - k))), (0, .ref a)]) hx hb dX4_putNatural_48 rfl hl (by decide) rfl (fun ls hl => ?_)
        exact out (k + 1) (k + 1) (Nat.le_refl _) (by omega) (dtx_is (by omega) (by omega) (by subst e; exact d10_39 hn128) (by rcases h2 with h2 | h2; exact Or.inl (by omega); exact Or.inr h2)) H locs tx hL1 rfl _ hD hfd hS ls (by have h9 := lv_sub hl [0, 2] rfl; rw [show 38 - k = 39 - (k + 1) by omega] at h9; exact h9)
      · have hk : k < 38 := Nat.lt_of_not_le fun h => hc (by rw [show 38 - k = 0 by omega]; decide)
        refine lv_aload_n hx hb dX4_putNatural_37 rfl (lv_at hl 1 rfl) ?_
        refine va_get (D := g.1) (ci := 4) (v := .ref (a + 3)) (C := RX4) (T := TX4) (N := 5) hx hb hts (by decide +kernel) hown hK.1 (xr_one hO) 0 rfl rfl 4 (by decide) (hts (.fieldLink RX4 25 "SharesDesk$Slip" "rest" "LSharesDesk$Natural;") (by decide +kernel)) (fun _ h9 => h9) rfl dX4_putNatural_38 ?_
        refine xr_Vi (rest := []) ⟨hx, hb, hml, hown, hts⟩ (KK_ok g) hK (c_X0_isZero l g H (a + 3) (n / 10 ^ (k + 1)) hN) (cwV 0 hts gX4_putNatural_X0_isZero rfl rfl rfl (by decide +kernel) ⟨Nat.le_of_ble_eq_true rfl, Nat.le_of_ble_eq_true rfl⟩) (xr_rec hK hN.1 rfl) rfl hl.1 rfl (Nat.le_of_ble_eq_true rfl) dX4_putNatural_41 ⟨Nat.le_of_ble_eq_true rfl, Nat.le_of_ble_eq_true rfl⟩ hS (fun q h => h.elim) (fun r H locs hq hz hkp hS96 => ?_)
        obtain ⟨rfl, rfl⟩ := hq
        have hS := hS96
        refine lv_if_eq (tgt := 11) hx hb dX4_putNatural_44 (by decide) (fun hd => ?_) (fun hd => ?_)
        · have h0 : ¬ n / 10 ^ (k + 1) = 0 := of_decide_eq_false (b2i_0.mp hd)
          exact ih (k + 1) (by omega) (Or.inr h0) H locs _ hO hC hD hN hfd hS ls (by have h9 := lv_sub hl [0, 1] rfl; rw [show 38 - k = 39 - (k + 1) by omega] at h9; exact h9)
        · have h0 : n / 10 ^ (k + 1) = 0 := of_decide_eq_true (b2i_n0.mp hd)
          refine lv_iload_n hx hb dX4_putNatural_47 rfl (lv_at hl 0 rfl) ?_
          refine lv_istore_n (lv' := [(3, .int (nI (38 - k))), (2, .int (nI (38 - k))), (0, .ref a)]) hx hb dX4_putNatural_48 rfl hl (by decide) rfl (fun ls hl => ?_)
          exact out (k + 1) (k + 1) (Nat.le_refl _) (by omega) (dtx_is (by omega) (by omega) (h0) (by rcases h2 with h2 | h2; exact Or.inl (by omega); exact Or.inr h2)) H locs tx hL1 rfl _ hD hfd hS ls (by have h9 := lv_sub hl [0, 2] rfl; rw [show 38 - k = 39 - (k + 1) by omega] at h9; exact h9)
  refine lv_aload_n hx hb dX4_putNatural_0 rfl (lv_at hl 0 rfl) ?_
  refine va_get (D := g.1) (ci := 4) (v := .ref (a + 3)) (C := RX4) (T := TX4) (N := 5) hx hb hts (by decide +kernel) hown hK.1 (xr_one hO) 0 rfl rfl 4 (by decide) (hts (.fieldLink RX4 25 "SharesDesk$Slip" "rest" "LSharesDesk$Natural;") (by decide +kernel)) (fun _ h9 => h9) rfl dX4_putNatural_1 ?_
  refine lv_aload_n hx hb dX4_putNatural_4 rfl (lv_at hl 1 rfl) ?_
  refine xr_Vv (rest := []) ⟨hx, hb, hml, hown, hts⟩ (KK_ok g) hK (c_X0_copy l g s.heap (a + 3) b yy n hN hB (by omega)) (cwV 1 hts gX4_putNatural_X0_copy rfl rfl rfl (by decide +kernel) ⟨Nat.le_of_ble_eq_true rfl, Nat.le_of_ble_eq_true rfl⟩) (xr_rec hK hN.1 rfl) rfl hl.1 rfl (Nat.le_of_ble_eq_true rfl) dX4_putNatural_5 ⟨Nat.le_of_ble_eq_true rfl, Nat.le_of_ble_eq_true rfl⟩ hS (fun q h => by have h : q = a + 3 + 1 := h; show a ≤ q ∧ q < a + 5; omega) (fun _ H locs hq hz hkp hS => ?_)
  replace hkp := fun (q : Nat) h1 (h2 : ¬ (q = a + 3 + 1)) => hkp q h1 h2
  replace hO := hO.kept (hkp _ hO.lt (by omega))
  replace hC := hC.kept (hkp _ hC.lt (by omega))
  replace hD := hD.kept (hkp _ hD.lt (by omega))
  have hN : NatAt g H (a + 3) n := hq
  refine lv_bipush (v := 39) hx hb dX4_putNatural_8 (by decide) ?_
  refine xr_ti (x' := nI (39 - 0)) rfl ?_
  refine lv_istore_n (lv' := [(2, .int (nI (39 - 0))), (0, .ref a), (1, .ref b)]) hx hb dX4_putNatural_10 rfl hl (by decide) rfl (fun ls hl => ?_)
  exact loop 39 0 (by omega) (Or.inl rfl) H locs fd hO hC hD (by rw [Nat.pow_zero, Nat.div_one]; exact hN) (fun i hi => absurd hi (Nat.not_lt_zero i)) hS ls (lv_sub hl [0, 1] rfl)
set_option maxHeartbeats 400000 in
set_option maxRecDepth 100000 in
theorem c_X4_putRatio (l : Launch) (g : WG) (H0 : Heap) (a : Nat) (ow : Int32) (b t u : Nat) (tx : List Nat) (hL : SlipAt g H0 a ow tx) (hB : RatioAt g H0 b t u) (hab : b + 5 ≤ a ∨ a + 5 ≤ b) (hlt : tx.length + 79 ≤ 1411) : Ctr l (KK g) yX4_putRatio wsX4_putRatio { frames := 3, cells := 0, slots := 0, locals := 84 } [.ref a, .ref b] H0 eV (fun _ H => SlipAt g H a ow (tx ++ rtx t u)) (fun q => a ≤ q ∧ q < a + 5) := by
  refine xr_enter (cc := cX4_putRatio) (maxL := 2) (ret := none) (by decide) rfl (Nat.le_of_ble_eq_true rfl) ?_
  intro pgm env s mid below meth cde hx hb hr hml hts hown hlocks hnm hH hK ls hl
  subst hH
  have hl : lv_has ls 2 [(0, .ref a), (1, .ref b)] := hl
  have hS : va_S (fun q => a ≤ q ∧ q < a + 5) s.heap s.heap [] := va_S.rf
  obtain ⟨hO, hN1, hN2⟩ := id hB
  have hdl := dtx_len t
  refine lv_aload_n hx hb dX4_putRatio_0 rfl (lv_at hl 0 rfl) ?_
  refine lv_aload_n hx hb dX4_putRatio_1 rfl (lv_at hl 1 rfl) ?_
  refine va_get (D := g.1) (ci := 2) (v := .ref (b + 1)) (C := RX2) (T := TX2) (N := 2) hx hb hts (by decide +kernel) hown hK.1 (xr_one hO) 0 rfl rfl 0 (by decide) (hts (.fieldLink RX4 36 "SharesDesk$Ratio" "top" "LSharesDesk$Natural;") (by decide +kernel)) (fun _ h9 => h9) rfl dX4_putRatio_2 ?_
  refine xr_Vv (rest := []) ⟨hx, hb, hml, hown, hts⟩ (KK_ok g) hK (c_X4_putNatural l g s.heap a ow (b + 1) t tx hL hN1 (by omega) (by omega)) (cwV 1 hts gX4_putRatio_X4_putNatural rfl rfl rfl (by decide +kernel) ⟨Nat.le_of_ble_eq_true rfl, Nat.le_of_ble_eq_true rfl⟩) (xr_rec hK hL.1 rfl) rfl hl.1 rfl (Nat.le_of_ble_eq_true rfl) dX4_putRatio_5 ⟨Nat.le_of_ble_eq_true rfl, Nat.le_of_ble_eq_true rfl⟩ hS (fun q h => h) (fun _ H locs hq hz hkp hS => ?_)
  replace hkp := fun (q : Nat) h1 (h2 : ¬ (a ≤ q ∧ q < a + 5)) => hkp q h1 h2
  replace hO := hO.kept (hkp _ hO.lt (by omega))
  replace hN2 := hN2.kept (hkp _ hN2.1.lt (by omega)) (hkp _ hN2.2.1.lt (by omega))
  have hL : SlipAt g H a ow (tx ++ dtx t) := hq
  refine lv_aload_n hx hb dX4_putRatio_8 rfl (lv_at hl 1 rfl) ?_
  refine va_get (D := g.1) (ci := 2) (v := .ref (b + 3)) (C := RX2) (T := TX2) (N := 2) hx hb hts (by decide +kernel) hown hK.1 (xr_one hO) 0 rfl rfl 1 (by decide) (hts (.fieldLink RX4 45 "SharesDesk$Ratio" "bottom" "LSharesDesk$Natural;") (by decide +kernel)) (fun _ h9 => h9) rfl dX4_putRatio_9 ?_
  refine xr_Vi (rest := []) ⟨hx, hb, hml, hown, hts⟩ (KK_ok g) hK (c_X0_isOne l g H (b + 3) u hN2) (cwV 0 hts gX4_putRatio_X0_isOne rfl rfl rfl (by decide +kernel) ⟨Nat.le_of_ble_eq_true rfl, Nat.le_of_ble_eq_true rfl⟩) (xr_rec hK hN2.1 rfl) rfl hl.1 rfl (Nat.le_of_ble_eq_true rfl) dX4_putRatio_12 ⟨Nat.le_of_ble_eq_true rfl, Nat.le_of_ble_eq_true rfl⟩ hS (fun q h => h.elim) (fun r H locs hq hz hkp hS97 => ?_)
  obtain ⟨rfl, rfl⟩ := hq
  have hS := hS97
  refine lv_if_ne (tgt := 32) hx hb dX4_putRatio_15 (by decide) (fun hc => ?_) (fun hc => ?_)
  · have h1 : u = 1 := of_decide_eq_true (b2i_n0.mp hc)
    exact xr_vret hx hb hr hlocks hS (by unfold rtx; rw [if_pos h1, List.append_nil]; exact hL) dX4_putRatio_32
  · have h1 : ¬ u = 1 := of_decide_eq_false (b2i_0.mp hc)
    refine lv_aload_n hx hb dX4_putRatio_18 rfl (lv_at hl 0 rfl) ?_
    refine lv_bipush (v := 47) hx hb dX4_putRatio_19 (by decide) ?_
    refine xr_ti (x' := nI 47) rfl ?_
    refine xr_Vv (rest := []) ⟨hx, hb, hml, hown, hts⟩ (KK_ok g) hK (c_X4_put l g H a ow 47 _ hL (by simp; omega) (by decide)) (cwV 1 hts gX4_putRatio_X4_put rfl rfl rfl (by decide +kernel) ⟨Nat.le_of_ble_eq_true rfl, Nat.le_of_ble_eq_true rfl⟩) (xr_rec hK hL.1 rfl) rfl hl.1 rfl (Nat.le_of_ble_eq_true rfl) dX4_putRatio_21 ⟨Nat.le_of_ble_eq_true rfl, Nat.le_of_ble_eq_true rfl⟩ hS (fun q h => by have h : q = a ∨ q = a + 1 := h; show a ≤ q ∧ q < a + 5; omega) (fun _ H locs hq hz hkp hS => ?_)
    replace hkp := fun (q : Nat) h1 (h2 : ¬ (q = a ∨ q = a + 1)) => hkp q h1 h2
    replace hO := hO.kept (hkp _ hO.lt (by omega))
    replace hN2 := hN2.kept (hkp _ hN2.1.lt (by omega)) (hkp _ hN2.2.1.lt (by omega))
    have hL : SlipAt g H a ow (tx ++ dtx t ++ [47]) := hq
    refine lv_aload_n hx hb dX4_putRatio_24 rfl (lv_at hl 0 rfl) ?_
    refine lv_aload_n hx hb dX4_putRatio_25 rfl (lv_at hl 1 rfl) ?_
    refine va_get (D := g.1) (ci := 2) (v := .ref (b + 3)) (C := RX2) (T := TX2) (N := 2) hx hb hts (by decide +kernel) hown hK.1 (xr_one hO) 0 rfl rfl 1 (by decide) (hts (.fieldLink RX4 45 "SharesDesk$Ratio" "bottom" "LSharesDesk$Natural;") (by decide +kernel)) (fun _ h9 => h9) rfl dX4_putRatio_26 ?_
    refine xr_Vv (rest := []) ⟨hx, hb, hml, hown, hts⟩ (KK_ok g) hK (c_X4_putNatural l g H a ow (b + 3) u _ hL hN2 (by omega) (by simp; omega)) (cwV 1 hts gX4_putRatio_X4_putNatural rfl rfl rfl (by decide +kernel) ⟨Nat.le_of_ble_eq_true rfl, Nat.le_of_ble_eq_true rfl⟩) (xr_rec hK hL.1 rfl) rfl hl.1 rfl (Nat.le_of_ble_eq_true rfl) dX4_putRatio_29 ⟨Nat.le_of_ble_eq_true rfl, Nat.le_of_ble_eq_true rfl⟩ hS (fun q h => h) (fun _ H locs hq hz hkp hS => ?_)
    exact xr_vret hx hb hr hlocks hS (by have h9 : SlipAt g H a ow (tx ++ dtx t ++ [47] ++ dtx u) := hq; unfold rtx; rw [if_neg h1]; simpa using h9) dX4_putRatio_32
end
section
/-! pools that are being filled -/
theorem xr_qa.to {H : Heap} {a : Nat} {cA : ClassId} {n : Nat} {f g : Nat → Option Nat} (h : xr_qa H a cA n f) (hfg : ∀ j, j < n → f j = g j) : xr_qa H a cA n g := by
  unfold xr_qa at h ⊢
  rw [h, vp_cell_q, vp_cell_q]
  exact congrArg some (xr_arrV_to fun j hj => by rw [hfg j hj])
def PoolP (g : WG) (H : Heap) (q b n k : Nat) : Prop := xr_qa H q (gN g) n (fun i => if i < k then some (b + 4 * i) else none) ∧ ∀ i, i < k → NatAt g H (b + 4 * i) 0
theorem PoolP.kept {g : WG} {H H1 : Heap} {q b n k : Nat} (h : PoolP g H q b n k) (h0 : H1[q]? = H[q]?) (h1 : ∀ v, v < k → H1[b + 4 * v]? = H[b + 4 * v]?) (h2 : ∀ v, v < k → H1[b + 4 * v + 1]? = H[b + 4 * v + 1]?) : PoolP g H1 q b n k :=
  ⟨h.1.kept h0, fun v hv => (h.2 v hv).kept (h1 v hv) (h2 v hv)⟩
theorem PoolP.no {g : WG} {H : Heap} {q b n : Nat} (h : xr_qa H q (gN g) n (fun _ => none)) : PoolP g H q b n 0 := ⟨h.to fun j _ => by rw [if_neg (Nat.not_lt_zero j)], fun i hi => absurd hi (Nat.not_lt_zero i)⟩
theorem PoolP.more {g : WG} {H : Heap} {q b n k : Nat} (h : xr_qa H q (gN g) n (va_up (fun i => if i < k then some (b + 4 * i) else none) k (some (b + 4 * k)))) (hN : NatAt g H (b + 4 * k) 0) (h2 : ∀ i, i < k → NatAt g H (b + 4 * i) 0) : PoolP g H q b n (k + 1) := by
  refine ⟨h.to fun j _ => ?_, fun i hi => ?_⟩
  · by_cases e : j = k
    · subst e
      rw [va_up_self, if_pos (Nat.lt_succ_self j)]
    · rw [va_up_ne _ _ e]
      by_cases h3 : j < k
      · rw [if_pos h3, if_pos (by omega)]
      · rw [if_neg h3, if_neg (by omega)]
  · by_cases e : i = k
    · subst e
      exact hN
    · exact h2 i (by omega)
theorem PoolP.fin {g : WG} {H : Heap} {q b n : Nat} (h : PoolP g H q b n n) : PoolAt g H q b n (fun _ => 0) := ⟨h.1.to fun j hj => by rw [if_pos hj], h.2⟩
end
section
set_option maxHeartbeats 4000000 in
set_option maxRecDepth 100000 in
theorem c_X1_init (l : Launch) (g : WG) (H0 : Heap) (f t : Nat) (hO : obj g H0 f 1 [.null, .null, .null, .null, .null, .null, .int 0, .null, .int 0, .int 0, .int 0, .null, .null, .int 0, .null, .null]) (hsz : H0.size = f + 1) : Ctr l (KK g) yX1_init wsX1_init { frames := 3, cells := 279, slots := 923, locals := 54 } [.ref f, .ref t] H0 eV (fun _ H => (obj g H f 1 (phF f t 0 0 0 0 0 (f + 10) (f + 17)) ∧ NatAt g H (f + 1) 0 ∧ PoolAt g H (f + 3) (f + 24) 48 (fun _ => 0) ∧ PoolAt g H (f + 4) (f + 26) 48 (fun _ => 0) ∧ xr_ia H (f + 5) (gI g) 48 (fun z9 => nI ((fun _ => 0) z9)) ∧ xr_ia H (f + 6) (gI g) 48 (fun z9 => nI ((fun _ => 0) z9)) ∧ xr_ia H (f + 7) (gI g) 16 (fun z9 => nI ((fun _ => 0) z9)) ∧ PoolAt g H (f + 8) (f + 216) 16 (fun _ => 0) ∧ PoolAt g H (f + 9) (f + 218) 16 (fun _ => 0) ∧ ShareAt g H (f + 10) 0 0 ∧ ShareAt g H (f + 17) 0 0) ∧ H.size = f + 280) (fun q => q = f ∨ f + 1 ≤ q) := by
  refine xr_enter (cc := cX1_init) (maxL := 3) (ret := none) (by decide) rfl (Nat.le_of_ble_eq_true rfl) ?_
  intro pgm env s mid below meth cde hx hb hr hml hts hown hlocks hnm hH hK ls hl
  subst hH
  have hl : lv_has ls 3 [(0, .ref f), (1, .ref t)] := hl
  have hS : va_S (fun q => q = f ∨ f + 1 ≤ q) s.heap s.heap [] := va_S.rf
  have loop2 : ∀ (n r : Nat), r + n = 16 → ∀ (H : Heap) (locs : List Loc), obj g H f 1 [.ref t, .ref (f + 1), .ref (f + 3), .ref (f + 4), .ref (f + 5), .ref (f + 6), .int 0, .ref (f + 7), .int 0, .int 0, .int 0, .ref (f + 8), .ref (f + 9), .int 0, .ref (f + 10), .ref (f + 17)] → NatAt g H (f + 1) 0 → PoolP g H (f + 3) (f + 24) 48 48 → PoolP g H (f + 4) (f + 26) 48 48 → xr_ia H (f + 5) (gI g) 48 (fun _ => 0) → xr_ia H (f + 6) (gI g) 48 (fun _ => 0) → xr_ia H (f + 7) (gI g) 16 (fun _ => 0) → PoolP g H (f + 8) (f + 216) 16 r → PoolP g H (f + 9) (f + 218) 16 r → ShareAt g H (f + 10) 0 0 → ShareAt g H (f + 17) 0 0 → H.size = f + 216 + 4 * r → va_S (fun q => q = f ∨ f + 1 ≤ q) s.heap H locs → ∀ ls : Array Slot, lv_has ls 3 [(2, .int (nI r)), (0, .ref f)] → W pgm l env { frames := 3, cells := 279, slots := 923, locals := 54 } s mid ([.ref f, .ref t] : List Value).toArray below meth cde H locs (215 + 4 * r) (763 + 10 * r) (MQ below (xr_Post eV (fun _ H => (obj g H f 1 (phF f t 0 0 0 0 0 (f + 10) (f + 17)) ∧ NatAt g H (f + 1) 0 ∧ PoolAt g H (f + 3) (f + 24) 48 (fun _ => 0) ∧ PoolAt g H (f + 4) (f + 26) 48 (fun _ => 0) ∧ xr_ia H (f + 5) (gI g) 48 (fun z9 => nI ((fun _ => 0) z9)) ∧ xr_ia H (f + 6) (gI g) 48 (fun z9 => nI ((fun _ => 0) z9)) ∧ xr_ia H (f + 7) (gI g) 16 (fun z9 => nI ((fun _ => 0) z9)) ∧ PoolAt g H (f + 8) (f + 216) 16 (fun _ => 0) ∧ PoolAt g H (f + 9) (f + 218) 16 (fun _ => 0) ∧ ShareAt g H (f + 10) 0 0 ∧ ShareAt g H (f + 17) 0 0) ∧ H.size = f + 280) (fun q => q = f ∨ f + 1 ≤ q)) ([.ref f, .ref t] : List Value).toArray s ({ frames := 3, cells := 279, slots := 923, locals := 54 } : Room).cells ({ frames := 3, cells := 279, slots := 923, locals := 54 } : Room).slots (fun q => q = f ∨ f + 1 ≤ q)) (F0 mid 144 ls []) := by
    intro n
    induction n with
    | zero =>
      intro r h1 H locs hO hBa hPu hLa hEm hPy hPi hRa hBb hBs hTr hsz hS ls hl
      have e : r = 16 := by omega
      subst e
      refine lv_iload_n hx hb dX1_init_144 rfl (lv_at hl 0 rfl) ?_
      refine lv_bipush (v := 16) hx hb dX1_init_145 (by decide) ?_
      refine lv_icmp_ge (tgt := 182) hx hb dX1_init_147 (by decide) (fun hc => ?_) (fun hc => ?_)
      · clear hc
        exact xr_vret hx hb hr hlocks hS ⟨⟨hO, hBa, hPu.fin, hLa.fin, hEm.to (fun _ _ => nI_0.symm), hPy.to (fun _ _ => nI_0.symm), hPi.to (fun _ _ => nI_0.symm), hRa.fin, hBb.fin, hBs, hTr⟩, by omega⟩ dX1_init_182
      · exact absurd (by decide) hc
    | succ n ih =>
      intro r h1 H locs hO hBa hPu hLa hEm hPy hPi hRa hBb hBs hTr hsz hS ls hl
      refine lv_iload_n hx hb dX1_init_144 rfl (lv_at hl 0 rfl) ?_
      refine lv_bipush (v := 16) hx hb dX1_init_145 (by decide) ?_
      refine lv_icmp_ge (tgt := 182) hx hb dX1_init_147 (by decide) (fun hc => ?_) (fun hc => ?_)
      · exact absurd ((nI_leI (a := 16) (b := r) (by decide) (by omega)).mp hc) (by omega)
      · clear hc
        refine lv_aload_n hx hb dX1_init_150 rfl (lv_at hl 1 rfl) ?_
        refine va_get (D := g.1) (ci := 1) (v := .ref (f + 8)) (C := RX1) (T := TX1) (N := 16) hx hb hts (by decide +kernel) hown hK.1 (xr_one hO) 0 rfl rfl 11 (by decide) (hts (.fieldLink RX1 35 "SharesDesk$Phase" "rates" "[LSharesDesk$Natural;") (by decide +kernel)) (fun _ h9 => h9) rfl dX1_init_151 ?_
        refine lv_iload_n hx hb dX1_init_154 rfl (lv_at hl 0 rfl) ?_
        refine xr_new (ci := 0) (fs := [.null]) (C := RX0) (T := TX0) (N := 1) hx hb hts (by decide +kernel) tyX0 tyX0_ok hown (hts (.classLink RX1 9 RX0) (by decide +kernel)) (hts (.instantiable RX0 1) (by decide +kernel)) (hts (.initialized RX0) (by decide +kernel)) hK.1 hS rfl (fun j hj => by rcases (show j = 0 by omega) with rfl <;> rfl) (by show (_ : Nat) ≤ 279; first | omega | (dsimp only; omega)) (by show (_ : Nat) ≤ 923; first | omega | (dsimp only; omega)) dX1_init_155 (fun H hz hkp hQ hS => ?_)
        refine W.widen (k := 215 + 4 * r + 1) (n := 763 + 10 * r + 1) (Nat.le_refl _) (Nat.le_refl _) ?_
        rw [hsz] at hQ hz hkp ⊢
        replace hO := hO.kept (hkp _ (by omega))
        replace hBa := hBa.kept (hkp _ (by omega)) (hkp _ (by omega))
        replace hPu := hPu.kept (hkp _ (by omega)) (fun v9 hv9 => hkp _ (by omega)) (fun v9 hv9 => hkp _ (by omega))
        replace hLa := hLa.kept (hkp _ (by omega)) (fun v9 hv9 => hkp _ (by omega)) (fun v9 hv9 => hkp _ (by omega))
        replace hEm := hEm.kept (hkp _ (by omega))
        replace hPy := hPy.kept (hkp _ (by omega))
        replace hPi := hPi.kept (hkp _ (by omega))
        replace hRa := hRa.kept (hkp _ (by omega)) (fun v9 hv9 => hkp _ (by omega)) (fun v9 hv9 => hkp _ (by omega))
        replace hBb := hBb.kept (hkp _ (by omega)) (fun v9 hv9 => hkp _ (by omega)) (fun v9 hv9 => hkp _ (by omega))
        replace hBs := hBs.kept (fun q hq1 hq2 hq3 => hkp q (by omega))
        replace hTr := hTr.kept (fun q hq1 hq2 hq3 => hkp q (by omega))
        have hsz := hz
        refine lv_dup hx hb dX1_init_158 rfl ?_
        refine xr_INv (rest := [.ref (f + 216 + 4 * r), .int (nI r), .ref (f + 8)]) ⟨hx, hb, hml, hown, hts⟩ (KK_ok g) hK (c_X0_init l g H (f + 216 + 4 * r) hQ hsz) ⟨va_cnB 0 hts gX1_init_X0_init_n11 rfl rfl rfl (hK.2.2.1 (RX1, 11, yX0_init) (by decide +kernel)) (hts (.initialized RX0) (by decide +kernel)) (by decide +kernel) ⟨Nat.le_of_ble_eq_true rfl, Nat.le_of_ble_eq_true rfl⟩, rfl, (hts (.instanceMethod yX0_init) (by decide +kernel))⟩ rfl hl.1 rfl (Nat.le_of_ble_eq_true rfl) dX1_init_159 ⟨(by show (_ : Nat) ≤ 279; first | omega | (dsimp only; omega)), (by show (_ : Nat) ≤ 923; first | omega | (dsimp only; omega))⟩ hS (fun q h => by have h : q = f + 216 + 4 * r ∨ f + 216 + 4 * r + 1 ≤ q := h; show q = f ∨ f + 1 ≤ q; omega) (fun _ H locs hq hz hkp hS => ?_)
        refine W.widen (k := 215 + 4 * r + 1 + 1) (n := 763 + 10 * r + 1 + 4) (Nat.le_refl _) (Nat.le_refl _) ?_
        replace hkp := fun (q : Nat) h1 (h2 : ¬ (q = f + 216 + 4 * r ∨ f + 216 + 4 * r + 1 ≤ q)) => hkp q h1 h2
        replace hO := hO.kept (hkp _ hO.lt (by omega))
        replace hBa := hBa.kept (hkp _ hBa.1.lt (by omega)) (hkp _ hBa.2.1.lt (by omega))
        replace hPu := hPu.kept (hkp _ hPu.1.lt (by omega)) (fun v9 hv9 => hkp _ (hPu.2 v9 hv9).1.lt (by omega)) (fun v9 hv9 => hkp _ (hPu.2 v9 hv9).2.1.lt (by omega))
        replace hLa := hLa.kept (hkp _ hLa.1.lt (by omega)) (fun v9 hv9 => hkp _ (hLa.2 v9 hv9).1.lt (by omega)) (fun v9 hv9 => hkp _ (hLa.2 v9 hv9).2.1.lt (by omega))
        replace hEm := hEm.kept (hkp _ hEm.lt (by omega))
        replace hPy := hPy.kept (hkp _ hPy.lt (by omega))
        replace hPi := hPi.kept (hkp _ hPi.lt (by omega))
        replace hRa := hRa.kept (hkp _ hRa.1.lt (by omega)) (fun v9 hv9 => hkp _ (hRa.2 v9 hv9).1.lt (by omega)) (fun v9 hv9 => hkp _ (hRa.2 v9 hv9).2.1.lt (by omega))
        replace hBb := hBb.kept (hkp _ hBb.1.lt (by omega)) (fun v9 hv9 => hkp _ (hBb.2 v9 hv9).1.lt (by omega)) (fun v9 hv9 => hkp _ (hBb.2 v9 hv9).2.1.lt (by omega))
        replace hBs := hBs.kept (fun q hq1 hq2 hq3 => hkp q hq1 (by omega))
        replace hTr := hTr.kept (fun q hq1 hq2 hq3 => hkp q hq1 (by omega))
        obtain ⟨hN, hsz⟩ := hq
        have hRa2 := hRa.2
        refine xr_astq hx hb hK.1 hS (Or.inr (by omega)) hRa.1 2 (r := (RX0, TX0, 1)) rfl hN.1 rfl (vp_in_nI (show r < 16 by omega) (by decide)) dX1_init_162 (fun H locs hz hkp hRa hS => ?_)
        rw [nI_clamp (show r < 2 ^ 31 by omega)] at hRa
        replace hO := hO.kept (hkp _ (by omega))
        replace hBa := hBa.kept (hkp _ (by omega)) (hkp _ (by omega))
        replace hPu := hPu.kept (hkp _ (by omega)) (fun v9 hv9 => hkp _ (by omega)) (fun v9 hv9 => hkp _ (by omega))
        replace hLa := hLa.kept (hkp _ (by omega)) (fun v9 hv9 => hkp _ (by omega)) (fun v9 hv9 => hkp _ (by omega))
        replace hEm := hEm.kept (hkp _ (by omega))
        replace hPy := hPy.kept (hkp _ (by omega))
        replace hPi := hPi.kept (hkp _ (by omega))
        replace hBb := hBb.kept (hkp _ (by omega)) (fun v9 hv9 => hkp _ (by omega)) (fun v9 hv9 => hkp _ (by omega))
        replace hBs := hBs.kept (fun q hq1 hq2 hq3 => hkp q (by omega))
        replace hTr := hTr.kept (fun q hq1 hq2 hq3 => hkp q (by omega))
        replace hN := hN.kept (hkp _ (by omega)) (hkp _ (by omega))
        replace hRa : PoolP g H (f + 8) (f + 216) 16 (r + 1) := PoolP.more hRa hN (fun i9 hi9 => (hRa2 i9 hi9).kept (hkp _ (by omega)) (hkp _ (by omega)))
        clear hRa2
        replace hsz := hz.trans hsz
        refine lv_aload_n hx hb dX1_init_163 rfl (lv_at hl 1 rfl) ?_
        refine va_get (D := g.1) (ci := 1) (v := .ref (f + 9)) (C := RX1) (T := TX1) (N := 16) hx hb hts (by decide +kernel) hown hK.1 (xr_one hO) 0 rfl rfl 12 (by decide) (hts (.fieldLink RX1 38 "SharesDesk$Phase" "bases" "[LSharesDesk$Natural;") (by decide +kernel)) (fun _ h9 => h9) rfl dX1_init_164 ?_
        refine lv_iload_n hx hb dX1_init_167 rfl (lv_at hl 0 rfl) ?_
        have hsz : H.size = f + 218 + 4 * r := by omega
        refine xr_new (ci := 0) (fs := [.null]) (C := RX0) (T := TX0) (N := 1) hx hb hts (by decide +kernel) tyX0 tyX0_ok hown (hts (.classLink RX1 9 RX0) (by decide +kernel)) (hts (.instantiable RX0 1) (by decide +kernel)) (hts (.initialized RX0) (by decide +kernel)) hK.1 hS rfl (fun j hj => by rcases (show j = 0 by omega) with rfl <;> rfl) (by show (_ : Nat) ≤ 279; first | omega | (dsimp only; omega)) (by show (_ : Nat) ≤ 923; first | omega | (dsimp only; omega)) dX1_init_168 (fun H hz hkp hQ hS => ?_)
        refine W.widen (k := 215 + 4 * r + 1 + 1 + 1) (n := 763 + 10 * r + 1 + 4 + 1) (Nat.le_refl _) (Nat.le_refl _) ?_
        rw [hsz] at hQ hz hkp ⊢
        replace hO := hO.kept (hkp _ (by omega))
        replace hBa := hBa.kept (hkp _ (by omega)) (hkp _ (by omega))
        replace hPu := hPu.kept (hkp _ (by omega)) (fun v9 hv9 => hkp _ (by omega)) (fun v9 hv9 => hkp _ (by omega))
        replace hLa := hLa.kept (hkp _ (by omega)) (fun v9 hv9 => hkp _ (by omega)) (fun v9 hv9 => hkp _ (by omega))
        replace hEm := hEm.kept (hkp _ (by omega))
        replace hPy := hPy.kept (hkp _ (by omega))
        replace hPi := hPi.kept (hkp _ (by omega))
        replace hBb := hBb.kept (hkp _ (by omega)) (fun v9 hv9 => hkp _ (by omega)) (fun v9 hv9 => hkp _ (by omega))
        replace hBs := hBs.kept (fun q hq1 hq2 hq3 => hkp q (by omega))
        replace hTr := hTr.kept (fun q hq1 hq2 hq3 => hkp q (by omega))
        replace hRa := hRa.kept (hkp _ (by omega)) (fun v9 hv9 => hkp _ (by omega)) (fun v9 hv9 => hkp _ (by omega))
        have hsz := hz
        refine lv_dup hx hb dX1_init_171 rfl ?_
        refine xr_INv (rest := [.ref (f + 218 + 4 * r), .int (nI r), .ref (f + 9)]) ⟨hx, hb, hml, hown, hts⟩ (KK_ok g) hK (c_X0_init l g H (f + 218 + 4 * r) hQ hsz) ⟨va_cnB 0 hts gX1_init_X0_init_n11 rfl rfl rfl (hK.2.2.1 (RX1, 11, yX0_init) (by decide +kernel)) (hts (.initialized RX0) (by decide +kernel)) (by decide +kernel) ⟨Nat.le_of_ble_eq_true rfl, Nat.le_of_ble_eq_true rfl⟩, rfl, (hts (.instanceMethod yX0_init) (by decide +kernel))⟩ rfl hl.1 rfl (Nat.le_of_ble_eq_true rfl) dX1_init_172 ⟨(by show (_ : Nat) ≤ 279; first | omega | (dsimp only; omega)), (by show (_ : Nat) ≤ 923; first | omega | (dsimp only; omega))⟩ hS (fun q h => by have h : q = f + 218 + 4 * r ∨ f + 218 + 4 * r + 1 ≤ q := h; show q = f ∨ f + 1 ≤ q; omega) (fun _ H locs hq hz hkp hS => ?_)
        refine W.widen (k := 215 + 4 * r + 1 + 1 + 1 + 1) (n := 763 + 10 * r + 1 + 4 + 1 + 4) (Nat.le_refl _) (Nat.le_refl _) ?_
        replace hkp := fun (q : Nat) h1 (h2 : ¬ (q = f + 218 + 4 * r ∨ f + 218 + 4 * r + 1 ≤ q)) => hkp q h1 h2
        replace hO := hO.kept (hkp _ hO.lt (by omega))
        replace hBa := hBa.kept (hkp _ hBa.1.lt (by omega)) (hkp _ hBa.2.1.lt (by omega))
        replace hPu := hPu.kept (hkp _ hPu.1.lt (by omega)) (fun v9 hv9 => hkp _ (hPu.2 v9 hv9).1.lt (by omega)) (fun v9 hv9 => hkp _ (hPu.2 v9 hv9).2.1.lt (by omega))
        replace hLa := hLa.kept (hkp _ hLa.1.lt (by omega)) (fun v9 hv9 => hkp _ (hLa.2 v9 hv9).1.lt (by omega)) (fun v9 hv9 => hkp _ (hLa.2 v9 hv9).2.1.lt (by omega))
        replace hEm := hEm.kept (hkp _ hEm.lt (by omega))
        replace hPy := hPy.kept (hkp _ hPy.lt (by omega))
        replace hPi := hPi.kept (hkp _ hPi.lt (by omega))
        replace hBb := hBb.kept (hkp _ hBb.1.lt (by omega)) (fun v9 hv9 => hkp _ (hBb.2 v9 hv9).1.lt (by omega)) (fun v9 hv9 => hkp _ (hBb.2 v9 hv9).2.1.lt (by omega))
        replace hBs := hBs.kept (fun q hq1 hq2 hq3 => hkp q hq1 (by omega))
        replace hTr := hTr.kept (fun q hq1 hq2 hq3 => hkp q hq1 (by omega))
        replace hRa := hRa.kept (hkp _ hRa.1.lt (by omega)) (fun v9 hv9 => hkp _ (hRa.2 v9 hv9).1.lt (by omega)) (fun v9 hv9 => hkp _ (hRa.2 v9 hv9).2.1.lt (by omega))
        obtain ⟨hN, hsz⟩ := hq
        have hBb2 := hBb.2
        refine xr_astq hx hb hK.1 hS (Or.inr (by omega)) hBb.1 2 (r := (RX0, TX0, 1)) rfl hN.1 rfl (vp_in_nI (show r < 16 by omega) (by decide)) dX1_init_175 (fun H locs hz hkp hBb hS => ?_)
        rw [nI_clamp (show r < 2 ^ 31 by omega)] at hBb
        replace hO := hO.kept (hkp _ (by omega))
        replace hBa := hBa.kept (hkp _ (by omega)) (hkp _ (by omega))
        replace hPu := hPu.kept (hkp _ (by omega)) (fun v9 hv9 => hkp _ (by omega)) (fun v9 hv9 => hkp _ (by omega))
        replace hLa := hLa.kept (hkp _ (by omega)) (fun v9 hv9 => hkp _ (by omega)) (fun v9 hv9 => hkp _ (by omega))
        replace hEm := hEm.kept (hkp _ (by omega))
        replace hPy := hPy.kept (hkp _ (by omega))
        replace hPi := hPi.kept (hkp _ (by omega))
        replace hBs := hBs.kept (fun q hq1 hq2 hq3 => hkp q (by omega))
        replace hTr := hTr.kept (fun q hq1 hq2 hq3 => hkp q (by omega))
        replace hRa := hRa.kept (hkp _ (by omega)) (fun v9 hv9 => hkp _ (by omega)) (fun v9 hv9 => hkp _ (by omega))
        replace hN := hN.kept (hkp _ (by omega)) (hkp _ (by omega))
        replace hBb : PoolP g H (f + 9) (f + 218) 16 (r + 1) := PoolP.more hBb hN (fun i9 hi9 => (hBb2 i9 hi9).kept (hkp _ (by omega)) (hkp _ (by omega)))
        clear hBb2
        replace hsz := hz.trans hsz
        refine lv_iinc (v := nI (r + 1)) (lv' := [(2, .int (nI (r + 1))), (0, .ref f)]) hx hb dX1_init_176 hl (k := 0) rfl (nI_1 r) (by decide) rfl (fun ls hl => ?_)
        refine lv_goto (tgt := 144) hx hb dX1_init_179 (by decide) ?_
        refine W.widen (k := 215 + 4 * (r + 1)) (n := 763 + 10 * (r + 1)) (by omega) (by omega) ?_
        exact ih (r + 1) (by omega) H locs hO hBa hPu hLa hEm hPy hPi hRa hBb hBs hTr (by omega) hS ls (lv_sub hl [0, 1] rfl)
  have loop1 : ∀ (n v : Nat), v + n = 48 → ∀ (H : Heap) (locs : List Loc), obj g H f 1 [.ref t, .ref (f + 1), .ref (f + 3), .ref (f + 4), .ref (f + 5), .ref (f + 6), .int 0, .ref (f + 7), .int 0, .int 0, .int 0, .ref (f + 8), .ref (f + 9), .int 0, .ref (f + 10), .ref (f + 17)] → NatAt g H (f + 1) 0 → PoolP g H (f + 3) (f + 24) 48 v → PoolP g H (f + 4) (f + 26) 48 v → xr_ia H (f + 5) (gI g) 48 (fun _ => 0) → xr_ia H (f + 6) (gI g) 48 (fun _ => 0) → xr_ia H (f + 7) (gI g) 16 (fun _ => 0) → PoolP g H (f + 8) (f + 216) 16 0 → PoolP g H (f + 9) (f + 218) 16 0 → ShareAt g H (f + 10) 0 0 → ShareAt g H (f + 17) 0 0 → H.size = f + 24 + 4 * v → va_S (fun q => q = f ∨ f + 1 ≤ q) s.heap H locs → ∀ ls : Array Slot, lv_has ls 3 [(2, .int (nI v)), (0, .ref f)] → W pgm l env { frames := 3, cells := 279, slots := 923, locals := 54 } s mid ([.ref f, .ref t] : List Value).toArray below meth cde H locs (23 + 4 * v) (283 + 10 * v) (MQ below (xr_Post eV (fun _ H => (obj g H f 1 (phF f t 0 0 0 0 0 (f + 10) (f + 17)) ∧ NatAt g H (f + 1) 0 ∧ PoolAt g H (f + 3) (f + 24) 48 (fun _ => 0) ∧ PoolAt g H (f + 4) (f + 26) 48 (fun _ => 0) ∧ xr_ia H (f + 5) (gI g) 48 (fun z9 => nI ((fun _ => 0) z9)) ∧ xr_ia H (f + 6) (gI g) 48 (fun z9 => nI ((fun _ => 0) z9)) ∧ xr_ia H (f + 7) (gI g) 16 (fun z9 => nI ((fun _ => 0) z9)) ∧ PoolAt g H (f + 8) (f + 216) 16 (fun _ => 0) ∧ PoolAt g H (f + 9) (f + 218) 16 (fun _ => 0) ∧ ShareAt g H (f + 10) 0 0 ∧ ShareAt g H (f + 17) 0 0) ∧ H.size = f + 280) (fun q => q = f ∨ f + 1 ≤ q)) ([.ref f, .ref t] : List Value).toArray s ({ frames := 3, cells := 279, slots := 923, locals := 54 } : Room).cells ({ frames := 3, cells := 279, slots := 923, locals := 54 } : Room).slots (fun q => q = f ∨ f + 1 ≤ q)) (F0 mid 104 ls []) := by
    intro n
    induction n with
    | zero =>
      intro v h1 H locs hO hBa hPu hLa hEm hPy hPi hRa hBb hBs hTr hsz hS ls hl
      have e : v = 48 := by omega
      subst e
      refine lv_iload_n hx hb dX1_init_104 rfl (lv_at hl 0 rfl) ?_
      refine lv_bipush (v := 48) hx hb dX1_init_105 (by decide) ?_
      refine lv_icmp_ge (tgt := 142) hx hb dX1_init_107 (by decide) (fun hc => ?_) (fun hc => ?_)
      · clear hc
        refine lv_iconst (v := 0) hx hb dX1_init_142 (by decide) ?_
        refine xr_ti (x' := nI 0) rfl ?_
        refine lv_istore_n (lv' := [(2, .int (nI 0)), (0, .ref f)]) hx hb dX1_init_143 rfl hl (by decide) rfl (fun ls hl => ?_)
        exact loop2 16 0 (by omega) H locs hO hBa hPu hLa hEm hPy hPi hRa hBb hBs hTr (by omega) hS ls (lv_sub hl [0, 1] rfl)
      · exact absurd (by decide) hc
    | succ n ih =>
      intro v h1 H locs hO hBa hPu hLa hEm hPy hPi hRa hBb hBs hTr hsz hS ls hl
      refine lv_iload_n hx hb dX1_init_104 rfl (lv_at hl 0 rfl) ?_
      refine lv_bipush (v := 48) hx hb dX1_init_105 (by decide) ?_
      refine lv_icmp_ge (tgt := 142) hx hb dX1_init_107 (by decide) (fun hc => ?_) (fun hc => ?_)
      · exact absurd ((nI_leI (a := 48) (b := v) (by decide) (by omega)).mp hc) (by omega)
      · clear hc
        refine lv_aload_n hx hb dX1_init_110 rfl (lv_at hl 1 rfl) ?_
        refine va_get (D := g.1) (ci := 1) (v := .ref (f + 3)) (C := RX1) (T := TX1) (N := 16) hx hb hts (by decide +kernel) hown hK.1 (xr_one hO) 0 rfl rfl 2 (by decide) (hts (.fieldLink RX1 18 "SharesDesk$Phase" "purses" "[LSharesDesk$Natural;") (by decide +kernel)) (fun _ h9 => h9) rfl dX1_init_111 ?_
        refine lv_iload_n hx hb dX1_init_114 rfl (lv_at hl 0 rfl) ?_
        refine xr_new (ci := 0) (fs := [.null]) (C := RX0) (T := TX0) (N := 1) hx hb hts (by decide +kernel) tyX0 tyX0_ok hown (hts (.classLink RX1 9 RX0) (by decide +kernel)) (hts (.instantiable RX0 1) (by decide +kernel)) (hts (.initialized RX0) (by decide +kernel)) hK.1 hS rfl (fun j hj => by rcases (show j = 0 by omega) with rfl <;> rfl) (by show (_ : Nat) ≤ 279; first | omega | (dsimp only; omega)) (by show (_ : Nat) ≤ 923; first | omega | (dsimp only; omega)) dX1_init_115 (fun H hz hkp hQ hS => ?_)
        refine W.widen (k := 23 + 4 * v + 1) (n := 283 + 10 * v + 1) (Nat.le_refl _) (Nat.le_refl _) ?_
        rw [hsz] at hQ hz hkp ⊢
        replace hO := hO.kept (hkp _ (by omega))
        replace hBa := hBa.kept (hkp _ (by omega)) (hkp _ (by omega))
        replace hPu := hPu.kept (hkp _ (by omega)) (fun v9 hv9 => hkp _ (by omega)) (fun v9 hv9 => hkp _ (by omega))
        replace hLa := hLa.kept (hkp _ (by omega)) (fun v9 hv9 => hkp _ (by omega)) (fun v9 hv9 => hkp _ (by omega))
        replace hEm := hEm.kept (hkp _ (by omega))
        replace hPy := hPy.kept (hkp _ (by omega))
        replace hPi := hPi.kept (hkp _ (by omega))
        replace hRa := hRa.kept (hkp _ (by omega)) (fun v9 hv9 => hkp _ (by omega)) (fun v9 hv9 => hkp _ (by omega))
        replace hBb := hBb.kept (hkp _ (by omega)) (fun v9 hv9 => hkp _ (by omega)) (fun v9 hv9 => hkp _ (by omega))
        replace hBs := hBs.kept (fun q hq1 hq2 hq3 => hkp q (by omega))
        replace hTr := hTr.kept (fun q hq1 hq2 hq3 => hkp q (by omega))
        have hsz := hz
        refine lv_dup hx hb dX1_init_118 rfl ?_
        refine xr_INv (rest := [.ref (f + 24 + 4 * v), .int (nI v), .ref (f + 3)]) ⟨hx, hb, hml, hown, hts⟩ (KK_ok g) hK (c_X0_init l g H (f + 24 + 4 * v) hQ hsz) ⟨va_cnB 0 hts gX1_init_X0_init_n11 rfl rfl rfl (hK.2.2.1 (RX1, 11, yX0_init) (by decide +kernel)) (hts (.initialized RX0) (by decide +kernel)) (by decide +kernel) ⟨Nat.le_of_ble_eq_true rfl, Nat.le_of_ble_eq_true rfl⟩, rfl, (hts (.instanceMethod yX0_init) (by decide +kernel))⟩ rfl hl.1 rfl (Nat.le_of_ble_eq_true rfl) dX1_init_119 ⟨(by show (_ : Nat) ≤ 279; first | omega | (dsimp only; omega)), (by show (_ : Nat) ≤ 923; first | omega | (dsimp only; omega))⟩ hS (fun q h => by have h : q = f + 24 + 4 * v ∨ f + 24 + 4 * v + 1 ≤ q := h; show q = f ∨ f + 1 ≤ q; omega) (fun _ H locs hq hz hkp hS => ?_)
        refine W.widen (k := 23 + 4 * v + 1 + 1) (n := 283 + 10 * v + 1 + 4) (Nat.le_refl _) (Nat.le_refl _) ?_
        replace hkp := fun (q : Nat) h1 (h2 : ¬ (q = f + 24 + 4 * v ∨ f + 24 + 4 * v + 1 ≤ q)) => hkp q h1 h2
        replace hO := hO.kept (hkp _ hO.lt (by omega))
        replace hBa := hBa.kept (hkp _ hBa.1.lt (by omega)) (hkp _ hBa.2.1.lt (by omega))
        replace hPu := hPu.kept (hkp _ hPu.1.lt (by omega)) (fun v9 hv9 => hkp _ (hPu.2 v9 hv9).1.lt (by omega)) (fun v9 hv9 => hkp _ (hPu.2 v9 hv9).2.1.lt (by omega))
        replace hLa := hLa.kept (hkp _ hLa.1.lt (by omega)) (fun v9 hv9 => hkp _ (hLa.2 v9 hv9).1.lt (by omega)) (fun v9 hv9 => hkp _ (hLa.2 v9 hv9).2.1.lt (by omega))
        replace hEm := hEm.kept (hkp _ hEm.lt (by omega))
        replace hPy := hPy.kept (hkp _ hPy.lt (by omega))
        replace hPi := hPi.kept (hkp _ hPi.lt (by omega))
        replace hRa := hRa.kept (hkp _ hRa.1.lt (by omega)) (fun v9 hv9 => hkp _ (hRa.2 v9 hv9).1.lt (by omega)) (fun v9 hv9 => hkp _ (hRa.2 v9 hv9).2.1.lt (by omega))
        replace hBb := hBb.kept (hkp _ hBb.1.lt (by omega)) (fun v9 hv9 => hkp _ (hBb.2 v9 hv9).1.lt (by omega)) (fun v9 hv9 => hkp _ (hBb.2 v9 hv9).2.1.lt (by omega))
        replace hBs := hBs.kept (fun q hq1 hq2 hq3 => hkp q hq1 (by omega))
        replace hTr := hTr.kept (fun q hq1 hq2 hq3 => hkp q hq1 (by omega))
        obtain ⟨hN, hsz⟩ := hq
        have hPu2 := hPu.2
        refine xr_astq hx hb hK.1 hS (Or.inr (by omega)) hPu.1 2 (r := (RX0, TX0, 1)) rfl hN.1 rfl (vp_in_nI (show v < 48 by omega) (by decide)) dX1_init_122 (fun H locs hz hkp hPu hS => ?_)
        rw [nI_clamp (show v < 2 ^ 31 by omega)] at hPu
        replace hO := hO.kept (hkp _ (by omega))
        replace hBa := hBa.kept (hkp _ (by omega)) (hkp _ (by omega))
        replace hLa := hLa.kept (hkp _ (by omega)) (fun v9 hv9 => hkp _ (by omega)) (fun v9 hv9 => hkp _ (by omega))
        replace hEm := hEm.kept (hkp _ (by omega))
        replace hPy := hPy.kept (hkp _ (by omega))
        replace hPi := hPi.kept (hkp _ (by omega))
        replace hRa := hRa.kept (hkp _ (by omega)) (fun v9 hv9 => hkp _ (by omega)) (fun v9 hv9 => hkp _ (by omega))
        replace hBb := hBb.kept (hkp _ (by omega)) (fun v9 hv9 => hkp _ (by omega)) (fun v9 hv9 => hkp _ (by omega))
        replace hBs := hBs.kept (fun q hq1 hq2 hq3 => hkp q (by omega))
        replace hTr := hTr.kept (fun q hq1 hq2 hq3 => hkp q (by omega))
        replace hN := hN.kept (hkp _ (by omega)) (hkp _ (by omega))
        replace hPu : PoolP g H (f + 3) (f + 24) 48 (v + 1) := PoolP.more hPu hN (fun i9 hi9 => (hPu2 i9 hi9).kept (hkp _ (by omega)) (hkp _ (by omega)))
        clear hPu2
        replace hsz := hz.trans hsz
        refine lv_aload_n hx hb dX1_init_123 rfl (lv_at hl 1 rfl) ?_
        refine va_get (D := g.1) (ci := 1) (v := .ref (f + 4)) (C := RX1) (T := TX1) (N := 16) hx hb hts (by decide +kernel) hown hK.1 (xr_one hO) 0 rfl rfl 3 (by decide) (hts (.fieldLink RX1 22 "SharesDesk$Phase" "lastPays" "[LSharesDesk$Natural;") (by decide +kernel)) (fun _ h9 => h9) rfl dX1_init_124 ?_
        refine lv_iload_n hx hb dX1_init_127 rfl (lv_at hl 0 rfl) ?_
        have hsz : H.size = f + 26 + 4 * v := by omega
        refine xr_new (ci := 0) (fs := [.null]) (C := RX0) (T := TX0) (N := 1) hx hb hts (by decide +kernel) tyX0 tyX0_ok hown (hts (.classLink RX1 9 RX0) (by decide +kernel)) (hts (.instantiable RX0 1) (by decide +kernel)) (hts (.initialized RX0) (by decide +kernel)) hK.1 hS rfl (fun j hj => by rcases (show j = 0 by omega) with rfl <;> rfl) (by show (_ : Nat) ≤ 279; first | omega | (dsimp only; omega)) (by show (_ : Nat) ≤ 923; first | omega | (dsimp only; omega)) dX1_init_128 (fun H hz hkp hQ hS => ?_)
        refine W.widen (k := 23 + 4 * v + 1 + 1 + 1) (n := 283 + 10 * v + 1 + 4 + 1) (Nat.le_refl _) (Nat.le_refl _) ?_
        rw [hsz] at hQ hz hkp ⊢
        replace hO := hO.kept (hkp _ (by omega))
        replace hBa := hBa.kept (hkp _ (by omega)) (hkp _ (by omega))
        replace hLa := hLa.kept (hkp _ (by omega)) (fun v9 hv9 => hkp _ (by omega)) (fun v9 hv9 => hkp _ (by omega))
        replace hEm := hEm.kept (hkp _ (by omega))
        replace hPy := hPy.kept (hkp _ (by omega))
        replace hPi := hPi.kept (hkp _ (by omega))
        replace hRa := hRa.kept (hkp _ (by omega)) (fun v9 hv9 => hkp _ (by omega)) (fun v9 hv9 => hkp _ (by omega))
        replace hBb := hBb.kept (hkp _ (by omega)) (fun v9 hv9 => hkp _ (by omega)) (fun v9 hv9 => hkp _ (by omega))
        replace hBs := hBs.kept (fun q hq1 hq2 hq3 => hkp q (by omega))
        replace hTr := hTr.kept (fun q hq1 hq2 hq3 => hkp q (by omega))
        replace hPu := hPu.kept (hkp _ (by omega)) (fun v9 hv9 => hkp _ (by omega)) (fun v9 hv9 => hkp _ (by omega))
        have hsz := hz
        refine lv_dup hx hb dX1_init_131 rfl ?_
        refine xr_INv (rest := [.ref (f + 26 + 4 * v), .int (nI v), .ref (f + 4)]) ⟨hx, hb, hml, hown, hts⟩ (KK_ok g) hK (c_X0_init l g H (f + 26 + 4 * v) hQ hsz) ⟨va_cnB 0 hts gX1_init_X0_init_n11 rfl rfl rfl (hK.2.2.1 (RX1, 11, yX0_init) (by decide +kernel)) (hts (.initialized RX0) (by decide +kernel)) (by decide +kernel) ⟨Nat.le_of_ble_eq_true rfl, Nat.le_of_ble_eq_true rfl⟩, rfl, (hts (.instanceMethod yX0_init) (by decide +kernel))⟩ rfl hl.1 rfl (Nat.le_of_ble_eq_true rfl) dX1_init_132 ⟨(by show (_ : Nat) ≤ 279; first | omega | (dsimp only; omega)), (by show (_ : Nat) ≤ 923; first | omega | (dsimp only; omega))⟩ hS (fun q h => by have h : q = f + 26 + 4 * v ∨ f + 26 + 4 * v + 1 ≤ q := h; show q = f ∨ f + 1 ≤ q; omega) (fun _ H locs hq hz hkp hS => ?_)
        refine W.widen (k := 23 + 4 * v + 1 + 1 + 1 + 1) (n := 283 + 10 * v + 1 + 4 + 1 + 4) (Nat.le_refl _) (Nat.le_refl _) ?_
        replace hkp := fun (q : Nat) h1 (h2 : ¬ (q = f + 26 + 4 * v ∨ f + 26 + 4 * v + 1 ≤ q)) => hkp q h1 h2
        replace hO := hO.kept (hkp _ hO.lt (by omega))
        replace hBa := hBa.kept (hkp _ hBa.1.lt (by omega)) (hkp _ hBa.2.1.lt (by omega))
        replace hLa := hLa.kept (hkp _ hLa.1.lt (by omega)) (fun v9 hv9 => hkp _ (hLa.2 v9 hv9).1.lt (by omega)) (fun v9 hv9 => hkp _ (hLa.2 v9 hv9).2.1.lt (by omega))
        replace hEm := hEm.kept (hkp _ hEm.lt (by omega))
        replace hPy := hPy.kept (hkp _ hPy.lt (by omega))
        replace hPi := hPi.kept (hkp _ hPi.lt (by omega))
        replace hRa := hRa.kept (hkp _ hRa.1.lt (by omega)) (fun v9 hv9 => hkp _ (hRa.2 v9 hv9).1.lt (by omega)) (fun v9 hv9 => hkp _ (hRa.2 v9 hv9).2.1.lt (by omega))
        replace hBb := hBb.kept (hkp _ hBb.1.lt (by omega)) (fun v9 hv9 => hkp _ (hBb.2 v9 hv9).1.lt (by omega)) (fun v9 hv9 => hkp _ (hBb.2 v9 hv9).2.1.lt (by omega))
        replace hBs := hBs.kept (fun q hq1 hq2 hq3 => hkp q hq1 (by omega))
        replace hTr := hTr.kept (fun q hq1 hq2 hq3 => hkp q hq1 (by omega))
        replace hPu := hPu.kept (hkp _ hPu.1.lt (by omega)) (fun v9 hv9 => hkp _ (hPu.2 v9 hv9).1.lt (by omega)) (fun v9 hv9 => hkp _ (hPu.2 v9 hv9).2.1.lt (by omega))
        obtain ⟨hN, hsz⟩ := hq
        have hLa2 := hLa.2
        refine xr_astq hx hb hK.1 hS (Or.inr (by omega)) hLa.1 2 (r := (RX0, TX0, 1)) rfl hN.1 rfl (vp_in_nI (show v < 48 by omega) (by decide)) dX1_init_135 (fun H locs hz hkp hLa hS => ?_)
        rw [nI_clamp (show v < 2 ^ 31 by omega)] at hLa
        replace hO := hO.kept (hkp _ (by omega))
        replace hBa := hBa.kept (hkp _ (by omega)) (hkp _ (by omega))
        replace hEm := hEm.kept (hkp _ (by omega))
        replace hPy := hPy.kept (hkp _ (by omega))
        replace hPi := hPi.kept (hkp _ (by omega))
        replace hRa := hRa.kept (hkp _ (by omega)) (fun v9 hv9 => hkp _ (by omega)) (fun v9 hv9 => hkp _ (by omega))
        replace hBb := hBb.kept (hkp _ (by omega)) (fun v9 hv9 => hkp _ (by omega)) (fun v9 hv9 => hkp _ (by omega))
        replace hBs := hBs.kept (fun q hq1 hq2 hq3 => hkp q (by omega))
        replace hTr := hTr.kept (fun q hq1 hq2 hq3 => hkp q (by omega))
        replace hPu := hPu.kept (hkp _ (by omega)) (fun v9 hv9 => hkp _ (by omega)) (fun v9 hv9 => hkp _ (by omega))
        replace hN := hN.kept (hkp _ (by omega)) (hkp _ (by omega))
        replace hLa : PoolP g H (f + 4) (f + 26) 48 (v + 1) := PoolP.more hLa hN (fun i9 hi9 => (hLa2 i9 hi9).kept (hkp _ (by omega)) (hkp _ (by omega)))
        clear hLa2
        replace hsz := hz.trans hsz
        refine lv_iinc (v := nI (v + 1)) (lv' := [(2, .int (nI (v + 1))), (0, .ref f)]) hx hb dX1_init_136 hl (k := 0) rfl (nI_1 v) (by decide) rfl (fun ls hl => ?_)
        refine lv_goto (tgt := 104) hx hb dX1_init_139 (by decide) ?_
        refine W.widen (k := 23 + 4 * (v + 1)) (n := 283 + 10 * (v + 1)) (by omega) (by omega) ?_
        exact ih (v + 1) (by omega) H locs hO hBa hPu hLa hEm hPy hPi hRa hBb hBs hTr (by omega) hS ls (lv_sub hl [0, 1] rfl)
  refine lv_aload_n hx hb dX1_init_0 rfl (lv_at hl 0 rfl) ?_
  refine W.objInit hx hb hown (hts (.methodLink RX1 3 objectInit) (by decide +kernel)) (hts (.instanceMethod objectInit) (by decide +kernel)) (hts _ (List.mem_cons_of_mem _ (List.mem_append_left _ (List.mem_append_left _ (List.mem_append_left _ (List.mem_append_left _ (List.mem_of_getElem? (i := 2) rfl))))))) rfl (by rw [hml]; exact hl.1) rfl dX1_init_1 (Nat.le_of_ble_eq_true rfl) (Nat.le_of_ble_eq_true rfl) ?_
  refine W.eq (g2 := F0 mid 4 ls []) rfl ?_
  refine lv_aload_n hx hb dX1_init_4 rfl (lv_at hl 0 rfl) ?_
  refine xr_new (ci := 0) (fs := [.null]) (C := RX0) (T := TX0) (N := 1) hx hb hts (by decide +kernel) tyX0 tyX0_ok hown (hts (.classLink RX1 9 RX0) (by decide +kernel)) (hts (.instantiable RX0 1) (by decide +kernel)) (hts (.initialized RX0) (by decide +kernel)) hK.1 hS rfl (fun j hj => by rcases (show j = 0 by omega) with rfl <;> rfl) (Nat.le_of_ble_eq_true rfl) (Nat.le_of_ble_eq_true rfl) dX1_init_5 (fun H hz hkp hQ hS => ?_)
  refine W.widen (k := 1) (n := 1) (Nat.le_of_ble_eq_true rfl) (Nat.le_of_ble_eq_true rfl) ?_
  rw [hsz] at hQ hz hkp ⊢
  replace hO := hO.kept (hkp _ (by omega))
  have hsz := hz
  refine lv_dup hx hb dX1_init_8 rfl ?_
  refine xr_INv (rest := [.ref (f + 1), .ref f]) ⟨hx, hb, hml, hown, hts⟩ (KK_ok g) hK (c_X0_init l g H (f + 1) hQ hsz) ⟨va_cnB 0 hts gX1_init_X0_init_n11 rfl rfl rfl (hK.2.2.1 (RX1, 11, yX0_init) (by decide +kernel)) (hts (.initialized RX0) (by decide +kernel)) (by decide +kernel) ⟨Nat.le_of_ble_eq_true rfl, Nat.le_of_ble_eq_true rfl⟩, rfl, (hts (.instanceMethod yX0_init) (by decide +kernel))⟩ rfl hl.1 rfl (Nat.le_of_ble_eq_true rfl) dX1_init_9 ⟨Nat.le_of_ble_eq_true rfl, Nat.le_of_ble_eq_true rfl⟩ hS (fun q h => by have h : q = f + 1 ∨ f + 1 + 1 ≤ q := h; show q = f ∨ f + 1 ≤ q; omega) (fun _ H locs hq hz hkp hS => ?_)
  refine W.widen (k := 2) (n := 5) (Nat.le_of_ble_eq_true rfl) (Nat.le_of_ble_eq_true rfl) ?_
  replace hkp := fun (q : Nat) h1 (h2 : ¬ (q = f + 1 ∨ f + 1 + 1 ≤ q)) => hkp q h1 h2
  replace hO := hO.kept (hkp _ hO.lt (by omega))
  obtain ⟨hBa, hsz⟩ := hq
  refine xr_putF (ci := 1) (v := .ref (f + 1)) (ty := .object "SharesDesk$Natural") (C := RX1) (T := TX1) (N := 16) hx hb hts (by decide +kernel) tyX1 tyX1_ok nmX1 hown hK.1 hO hS (Or.inl rfl) rfl 1 (by decide) (hts (.fieldLink RX1 12 "SharesDesk$Phase" "base" "LSharesDesk$Natural;") (by decide +kernel)) rfl hnm rfl (by decide +kernel) rfl rfl (Nat.le_of_ble_eq_true rfl) dX1_init_12 (fun H locs hz hkp hO hS => ?_)
  replace hBa := hBa.kept (hkp _ (by omega)) (hkp _ (by omega))
  replace hsz := hz.trans hsz
  refine lv_aload_n hx hb dX1_init_15 rfl (lv_at hl 0 rfl) ?_
  refine lv_bipush (v := 48) hx hb dX1_init_16 (by decide) ?_
  refine xr_newq (cA := gN g) (N := 48) hx hb hown (hts (.classLink RX1 9 RX0) (by decide +kernel)) hK.2.1 hK.1 2 rfl hS (by decide) (by decide) (by decide) (Nat.le_of_ble_eq_true rfl) (Nat.le_of_ble_eq_true rfl) dX1_init_18 (fun H hz hkp hP0 hS => ?_)
  refine W.widen (k := 3) (n := 53) (Nat.le_of_ble_eq_true rfl) (Nat.le_of_ble_eq_true rfl) ?_
  rw [hsz] at hP0 hz hkp ⊢
  replace hBa := hBa.kept (hkp _ (by omega)) (hkp _ (by omega))
  replace hO := hO.kept (hkp _ (by omega))
  have hsz := hz
  refine xr_putF (ci := 1) (v := .ref (f + 3)) (ty := .array (.object RX0)) (C := RX1) (T := TX1) (N := 16) hx hb hts (by decide +kernel) tyX1 tyX1_ok nmX1 hown hK.1 hO hS (Or.inl rfl) rfl 2 (by decide) (hts (.fieldLink RX1 18 "SharesDesk$Phase" "purses" "[LSharesDesk$Natural;") (by decide +kernel)) rfl hnm rfl (by decide +kernel) rfl rfl (Nat.le_of_ble_eq_true rfl) dX1_init_21 (fun H locs hz hkp hO hS => ?_)
  replace hBa := hBa.kept (hkp _ (by omega)) (hkp _ (by omega))
  replace hP0 := hP0.kept (hkp _ (by omega))
  replace hsz := hz.trans hsz
  refine lv_aload_n hx hb dX1_init_24 rfl (lv_at hl 0 rfl) ?_
  refine lv_bipush (v := 48) hx hb dX1_init_25 (by decide) ?_
  refine xr_newq (cA := gN g) (N := 48) hx hb hown (hts (.classLink RX1 9 RX0) (by decide +kernel)) hK.2.1 hK.1 2 rfl hS (by decide) (by decide) (by decide) (Nat.le_of_ble_eq_true rfl) (Nat.le_of_ble_eq_true rfl) dX1_init_27 (fun H hz hkp hL0 hS => ?_)
  refine W.widen (k := 4) (n := 101) (Nat.le_of_ble_eq_true rfl) (Nat.le_of_ble_eq_true rfl) ?_
  rw [hsz] at hL0 hz hkp ⊢
  replace hBa := hBa.kept (hkp _ (by omega)) (hkp _ (by omega))
  replace hP0 := hP0.kept (hkp _ (by omega))
  replace hO := hO.kept (hkp _ (by omega))
  have hsz := hz
  refine xr_putF (ci := 1) (v := .ref (f + 4)) (ty := .array (.object RX0)) (C := RX1) (T := TX1) (N := 16) hx hb hts (by decide +kernel) tyX1 tyX1_ok nmX1 hown hK.1 hO hS (Or.inl rfl) rfl 3 (by decide) (hts (.fieldLink RX1 22 "SharesDesk$Phase" "lastPays" "[LSharesDesk$Natural;") (by decide +kernel)) rfl hnm rfl (by decide +kernel) rfl rfl (Nat.le_of_ble_eq_true rfl) dX1_init_30 (fun H locs hz hkp hO hS => ?_)
  replace hBa := hBa.kept (hkp _ (by omega)) (hkp _ (by omega))
  replace hP0 := hP0.kept (hkp _ (by omega))
  replace hL0 := hL0.kept (hkp _ (by omega))
  replace hsz := hz.trans hsz
  refine lv_aload_n hx hb dX1_init_33 rfl (lv_at hl 0 rfl) ?_
  refine lv_bipush (v := 48) hx hb dX1_init_34 (by decide) ?_
  refine xr_newa (atype := .int) (cA := gI g) (N := 48) hx hb (hts (.arrayClass .int) (by decide +kernel)) (hK.1.2 0 (gI g, .int) rfl).2 rfl hS (by decide) (by decide) (by decide) (Nat.le_of_ble_eq_true rfl) (Nat.le_of_ble_eq_true rfl) dX1_init_36 (fun H hz hkp hEm hS => ?_)
  refine W.widen (k := 5) (n := 149) (Nat.le_of_ble_eq_true rfl) (Nat.le_of_ble_eq_true rfl) ?_
  rw [hsz] at hEm hz hkp ⊢
  replace hBa := hBa.kept (hkp _ (by omega)) (hkp _ (by omega))
  replace hP0 := hP0.kept (hkp _ (by omega))
  replace hL0 := hL0.kept (hkp _ (by omega))
  replace hO := hO.kept (hkp _ (by omega))
  have hsz := hz
  refine xr_putF (ci := 1) (v := .ref (f + 5)) (ty := .array .int) (C := RX1) (T := TX1) (N := 16) hx hb hts (by decide +kernel) tyX1 tyX1_ok nmX1 hown hK.1 hO hS (Or.inl rfl) rfl 4 (by decide) (hts (.fieldLink RX1 25 "SharesDesk$Phase" "emptiedIn" "[I") (by decide +kernel)) rfl hnm rfl (by decide +kernel) rfl rfl (Nat.le_of_ble_eq_true rfl) dX1_init_38 (fun H locs hz hkp hO hS => ?_)
  replace hBa := hBa.kept (hkp _ (by omega)) (hkp _ (by omega))
  replace hP0 := hP0.kept (hkp _ (by omega))
  replace hL0 := hL0.kept (hkp _ (by omega))
  replace hEm := hEm.kept (hkp _ (by omega))
  replace hsz := hz.trans hsz
  refine lv_aload_n hx hb dX1_init_41 rfl (lv_at hl 0 rfl) ?_
  refine lv_bipush (v := 48) hx hb dX1_init_42 (by decide) ?_
  refine xr_newa (atype := .int) (cA := gI g) (N := 48) hx hb (hts (.arrayClass .int) (by decide +kernel)) (hK.1.2 0 (gI g, .int) rfl).2 rfl hS (by decide) (by decide) (by decide) (Nat.le_of_ble_eq_true rfl) (Nat.le_of_ble_eq_true rfl) dX1_init_44 (fun H hz hkp hPy hS => ?_)
  refine W.widen (k := 6) (n := 197) (Nat.le_of_ble_eq_true rfl) (Nat.le_of_ble_eq_true rfl) ?_
  rw [hsz] at hPy hz hkp ⊢
  replace hBa := hBa.kept (hkp _ (by omega)) (hkp _ (by omega))
  replace hP0 := hP0.kept (hkp _ (by omega))
  replace hL0 := hL0.kept (hkp _ (by omega))
  replace hEm := hEm.kept (hkp _ (by omega))
  replace hO := hO.kept (hkp _ (by omega))
  have hsz := hz
  refine xr_putF (ci := 1) (v := .ref (f + 6)) (ty := .array .int) (C := RX1) (T := TX1) (N := 16) hx hb hts (by decide +kernel) tyX1 tyX1_ok nmX1 hown hK.1 hO hS (Or.inl rfl) rfl 5 (by decide) (hts (.fieldLink RX1 29 "SharesDesk$Phase" "payers" "[I") (by decide +kernel)) rfl hnm rfl (by decide +kernel) rfl rfl (Nat.le_of_ble_eq_true rfl) dX1_init_46 (fun H locs hz hkp hO hS => ?_)
  replace hBa := hBa.kept (hkp _ (by omega)) (hkp _ (by omega))
  replace hP0 := hP0.kept (hkp _ (by omega))
  replace hL0 := hL0.kept (hkp _ (by omega))
  replace hEm := hEm.kept (hkp _ (by omega))
  replace hPy := hPy.kept (hkp _ (by omega))
  replace hsz := hz.trans hsz
  refine lv_aload_n hx hb dX1_init_49 rfl (lv_at hl 0 rfl) ?_
  refine lv_bipush (v := 16) hx hb dX1_init_50 (by decide) ?_
  refine xr_newa (atype := .int) (cA := gI g) (N := 16) hx hb (hts (.arrayClass .int) (by decide +kernel)) (hK.1.2 0 (gI g, .int) rfl).2 rfl hS (by decide) (by decide) (by decide) (Nat.le_of_ble_eq_true rfl) (Nat.le_of_ble_eq_true rfl) dX1_init_52 (fun H hz hkp hPi hS => ?_)
  refine W.widen (k := 7) (n := 213) (Nat.le_of_ble_eq_true rfl) (Nat.le_of_ble_eq_true rfl) ?_
  rw [hsz] at hPi hz hkp ⊢
  replace hBa := hBa.kept (hkp _ (by omega)) (hkp _ (by omega))
  replace hP0 := hP0.kept (hkp _ (by omega))
  replace hL0 := hL0.kept (hkp _ (by omega))
  replace hEm := hEm.kept (hkp _ (by omega))
  replace hPy := hPy.kept (hkp _ (by omega))
  replace hO := hO.kept (hkp _ (by omega))
  have hsz := hz
  refine xr_putF (ci := 1) (v := .ref (f + 7)) (ty := .array .int) (C := RX1) (T := TX1) (N := 16) hx hb hts (by decide +kernel) tyX1 tyX1_ok nmX1 hown hK.1 hO hS (Or.inl rfl) rfl 7 (by decide) (hts (.fieldLink RX1 32 "SharesDesk$Phase" "picks" "[I") (by decide +kernel)) rfl hnm rfl (by decide +kernel) rfl rfl (Nat.le_of_ble_eq_true rfl) dX1_init_54 (fun H locs hz hkp hO hS => ?_)
  replace hBa := hBa.kept (hkp _ (by omega)) (hkp _ (by omega))
  replace hP0 := hP0.kept (hkp _ (by omega))
  replace hL0 := hL0.kept (hkp _ (by omega))
  replace hEm := hEm.kept (hkp _ (by omega))
  replace hPy := hPy.kept (hkp _ (by omega))
  replace hPi := hPi.kept (hkp _ (by omega))
  replace hsz := hz.trans hsz
  refine lv_aload_n hx hb dX1_init_57 rfl (lv_at hl 0 rfl) ?_
  refine lv_bipush (v := 16) hx hb dX1_init_58 (by decide) ?_
  refine xr_newq (cA := gN g) (N := 16) hx hb hown (hts (.classLink RX1 9 RX0) (by decide +kernel)) hK.2.1 hK.1 2 rfl hS (by decide) (by decide) (by decide) (Nat.le_of_ble_eq_true rfl) (Nat.le_of_ble_eq_true rfl) dX1_init_60 (fun H hz hkp hR0 hS => ?_)
  refine W.widen (k := 8) (n := 229) (Nat.le_of_ble_eq_true rfl) (Nat.le_of_ble_eq_true rfl) ?_
  rw [hsz] at hR0 hz hkp ⊢
  replace hBa := hBa.kept (hkp _ (by omega)) (hkp _ (by omega))
  replace hP0 := hP0.kept (hkp _ (by omega))
  replace hL0 := hL0.kept (hkp _ (by omega))
  replace hEm := hEm.kept (hkp _ (by omega))
  replace hPy := hPy.kept (hkp _ (by omega))
  replace hPi := hPi.kept (hkp _ (by omega))
  replace hO := hO.kept (hkp _ (by omega))
  have hsz := hz
  refine xr_putF (ci := 1) (v := .ref (f + 8)) (ty := .array (.object RX0)) (C := RX1) (T := TX1) (N := 16) hx hb hts (by decide +kernel) tyX1 tyX1_ok nmX1 hown hK.1 hO hS (Or.inl rfl) rfl 11 (by decide) (hts (.fieldLink RX1 35 "SharesDesk$Phase" "rates" "[LSharesDesk$Natural;") (by decide +kernel)) rfl hnm rfl (by decide +kernel) rfl rfl (Nat.le_of_ble_eq_true rfl) dX1_init_63 (fun H locs hz hkp hO hS => ?_)
  replace hBa := hBa.kept (hkp _ (by omega)) (hkp _ (by omega))
  replace hP0 := hP0.kept (hkp _ (by omega))
  replace hL0 := hL0.kept (hkp _ (by omega))
  replace hEm := hEm.kept (hkp _ (by omega))
  replace hPy := hPy.kept (hkp _ (by omega))
  replace hPi := hPi.kept (hkp _ (by omega))
  replace hR0 := hR0.kept (hkp _ (by omega))
  replace hsz := hz.trans hsz
  refine lv_aload_n hx hb dX1_init_66 rfl (lv_at hl 0 rfl) ?_
  refine lv_bipush (v := 16) hx hb dX1_init_67 (by decide) ?_
  refine xr_newq (cA := gN g) (N := 16) hx hb hown (hts (.classLink RX1 9 RX0) (by decide +kernel)) hK.2.1 hK.1 2 rfl hS (by decide) (by decide) (by decide) (Nat.le_of_ble_eq_true rfl) (Nat.le_of_ble_eq_true rfl) dX1_init_69 (fun H hz hkp hB0 hS => ?_)
  refine W.widen (k := 9) (n := 245) (Nat.le_of_ble_eq_true rfl) (Nat.le_of_ble_eq_true rfl) ?_
  rw [hsz] at hB0 hz hkp ⊢
  replace hBa := hBa.kept (hkp _ (by omega)) (hkp _ (by omega))
  replace hP0 := hP0.kept (hkp _ (by omega))
  replace hL0 := hL0.kept (hkp _ (by omega))
  replace hEm := hEm.kept (hkp _ (by omega))
  replace hPy := hPy.kept (hkp _ (by omega))
  replace hPi := hPi.kept (hkp _ (by omega))
  replace hR0 := hR0.kept (hkp _ (by omega))
  replace hO := hO.kept (hkp _ (by omega))
  have hsz := hz
  refine xr_putF (ci := 1) (v := .ref (f + 9)) (ty := .array (.object RX0)) (C := RX1) (T := TX1) (N := 16) hx hb hts (by decide +kernel) tyX1 tyX1_ok nmX1 hown hK.1 hO hS (Or.inl rfl) rfl 12 (by decide) (hts (.fieldLink RX1 38 "SharesDesk$Phase" "bases" "[LSharesDesk$Natural;") (by decide +kernel)) rfl hnm rfl (by decide +kernel) rfl rfl (Nat.le_of_ble_eq_true rfl) dX1_init_72 (fun H locs hz hkp hO hS => ?_)
  replace hBa := hBa.kept (hkp _ (by omega)) (hkp _ (by omega))
  replace hP0 := hP0.kept (hkp _ (by omega))
  replace hL0 := hL0.kept (hkp _ (by omega))
  replace hEm := hEm.kept (hkp _ (by omega))
  replace hPy := hPy.kept (hkp _ (by omega))
  replace hPi := hPi.kept (hkp _ (by omega))
  replace hR0 := hR0.kept (hkp _ (by omega))
  replace hB0 := hB0.kept (hkp _ (by omega))
  replace hsz := hz.trans hsz
  refine lv_aload_n hx hb dX1_init_75 rfl (lv_at hl 0 rfl) ?_
  refine xr_new (ci := 3) (fs := [.null, .int 0, .null, .null]) (C := RX3) (T := TX3) (N := 4) hx hb hts (by decide +kernel) tyX3 tyX3_ok hown (hts (.classLink RX1 41 RX3) (by decide +kernel)) (hts (.instantiable RX3 4) (by decide +kernel)) (hts (.initialized RX3) (by decide +kernel)) hK.1 hS rfl (fun j hj => by rcases (show j = 0 ∨ j = 1 ∨ j = 2 ∨ j = 3 by omega) with rfl | rfl | rfl | rfl <;> rfl) (Nat.le_of_ble_eq_true rfl) (Nat.le_of_ble_eq_true rfl) dX1_init_76 (fun H hz hkp hQ hS => ?_)
  refine W.widen (k := 10) (n := 249) (Nat.le_of_ble_eq_true rfl) (Nat.le_of_ble_eq_true rfl) ?_
  rw [hsz] at hQ hz hkp ⊢
  replace hBa := hBa.kept (hkp _ (by omega)) (hkp _ (by omega))
  replace hP0 := hP0.kept (hkp _ (by omega))
  replace hL0 := hL0.kept (hkp _ (by omega))
  replace hEm := hEm.kept (hkp _ (by omega))
  replace hPy := hPy.kept (hkp _ (by omega))
  replace hPi := hPi.kept (hkp _ (by omega))
  replace hR0 := hR0.kept (hkp _ (by omega))
  replace hB0 := hB0.kept (hkp _ (by omega))
  replace hO := hO.kept (hkp _ (by omega))
  have hsz := hz
  refine lv_dup hx hb dX1_init_79 rfl ?_
  refine xr_INv (rest := [.ref (f + 10), .ref f]) ⟨hx, hb, hml, hown, hts⟩ (KK_ok g) hK (c_X3_init l g H (f + 10) hQ hsz) ⟨va_cnB 0 hts gX1_init_X3_init_n43 rfl rfl rfl (hK.2.2.1 (RX1, 43, yX3_init) (by decide +kernel)) (hts (.initialized RX3) (by decide +kernel)) (by decide +kernel) ⟨Nat.le_of_ble_eq_true rfl, Nat.le_of_ble_eq_true rfl⟩, rfl, (hts (.instanceMethod yX3_init) (by decide +kernel))⟩ rfl hl.1 rfl (Nat.le_of_ble_eq_true rfl) dX1_init_80 ⟨Nat.le_of_ble_eq_true rfl, Nat.le_of_ble_eq_true rfl⟩ hS (fun q h => by have h : q = f + 10 ∨ f + 10 + 1 ≤ q := h; show q = f ∨ f + 1 ≤ q; omega) (fun _ H locs hq hz hkp hS => ?_)
  refine W.widen (k := 16) (n := 264) (Nat.le_of_ble_eq_true rfl) (Nat.le_of_ble_eq_true rfl) ?_
  replace hkp := fun (q : Nat) h1 (h2 : ¬ (q = f + 10 ∨ f + 10 + 1 ≤ q)) => hkp q h1 h2
  replace hBa := hBa.kept (hkp _ hBa.1.lt (by omega)) (hkp _ hBa.2.1.lt (by omega))
  replace hP0 := hP0.kept (hkp _ hP0.lt (by omega))
  replace hL0 := hL0.kept (hkp _ hL0.lt (by omega))
  replace hEm := hEm.kept (hkp _ hEm.lt (by omega))
  replace hPy := hPy.kept (hkp _ hPy.lt (by omega))
  replace hPi := hPi.kept (hkp _ hPi.lt (by omega))
  replace hR0 := hR0.kept (hkp _ hR0.lt (by omega))
  replace hB0 := hB0.kept (hkp _ hB0.lt (by omega))
  replace hO := hO.kept (hkp _ hO.lt (by omega))
  obtain ⟨hBs, hsz⟩ := hq
  refine xr_put (ci := 1) (v := .ref (f + 10)) (ty := .object "SharesDesk$Share") (C := RX1) (T := TX1) (N := 16) hx hb hts (by decide +kernel) tyX1 tyX1_ok nmX1 hown hK.1 hO hS (Or.inl rfl) rfl 14 (by decide) (hts (.fieldLink RX1 44 "SharesDesk$Phase" "best" "LSharesDesk$Share;") (by decide +kernel)) rfl (by decide +kernel) rfl rfl (Nat.le_of_ble_eq_true rfl) dX1_init_83 (fun H locs hz hkp hO hS => ?_)
  replace hBa := hBa.kept (hkp _ (by omega)) (hkp _ (by omega))
  replace hP0 := hP0.kept (hkp _ (by omega))
  replace hL0 := hL0.kept (hkp _ (by omega))
  replace hEm := hEm.kept (hkp _ (by omega))
  replace hPy := hPy.kept (hkp _ (by omega))
  replace hPi := hPi.kept (hkp _ (by omega))
  replace hR0 := hR0.kept (hkp _ (by omega))
  replace hB0 := hB0.kept (hkp _ (by omega))
  replace hBs := hBs.kept (fun q hq1 hq2 hq3 => hkp q (by omega))
  replace hsz := hz.trans hsz
  refine lv_aload_n hx hb dX1_init_86 rfl (lv_at hl 0 rfl) ?_
  refine xr_new (ci := 3) (fs := [.null, .int 0, .null, .null]) (C := RX3) (T := TX3) (N := 4) hx hb hts (by decide +kernel) tyX3 tyX3_ok hown (hts (.classLink RX1 41 RX3) (by decide +kernel)) (hts (.instantiable RX3 4) (by decide +kernel)) (hts (.initialized RX3) (by decide +kernel)) hK.1 hS rfl (fun j hj => by rcases (show j = 0 ∨ j = 1 ∨ j = 2 ∨ j = 3 by omega) with rfl | rfl | rfl | rfl <;> rfl) (Nat.le_of_ble_eq_true rfl) (Nat.le_of_ble_eq_true rfl) dX1_init_87 (fun H hz hkp hQ hS => ?_)
  refine W.widen (k := 17) (n := 268) (Nat.le_of_ble_eq_true rfl) (Nat.le_of_ble_eq_true rfl) ?_
  rw [hsz] at hQ hz hkp ⊢
  replace hBa := hBa.kept (hkp _ (by omega)) (hkp _ (by omega))
  replace hP0 := hP0.kept (hkp _ (by omega))
  replace hL0 := hL0.kept (hkp _ (by omega))
  replace hEm := hEm.kept (hkp _ (by omega))
  replace hPy := hPy.kept (hkp _ (by omega))
  replace hPi := hPi.kept (hkp _ (by omega))
  replace hR0 := hR0.kept (hkp _ (by omega))
  replace hB0 := hB0.kept (hkp _ (by omega))
  replace hBs := hBs.kept (fun q hq1 hq2 hq3 => hkp q (by omega))
  replace hO := hO.kept (hkp _ (by omega))
  have hsz := hz
  refine lv_dup hx hb dX1_init_90 rfl ?_
  refine xr_INv (rest := [.ref (f + 17), .ref f]) ⟨hx, hb, hml, hown, hts⟩ (KK_ok g) hK (c_X3_init l g H (f + 17) hQ hsz) ⟨va_cnB 0 hts gX1_init_X3_init_n43 rfl rfl rfl (hK.2.2.1 (RX1, 43, yX3_init) (by decide +kernel)) (hts (.initialized RX3) (by decide +kernel)) (by decide +kernel) ⟨Nat.le_of_ble_eq_true rfl, Nat.le_of_ble_eq_true rfl⟩, rfl, (hts (.instanceMethod yX3_init) (by decide +kernel))⟩ rfl hl.1 rfl (Nat.le_of_ble_eq_true rfl) dX1_init_91 ⟨Nat.le_of_ble_eq_true rfl, Nat.le_of_ble_eq_true rfl⟩ hS (fun q h => by have h : q = f + 17 ∨ f + 17 + 1 ≤ q := h; show q = f ∨ f + 1 ≤ q; omega) (fun _ H locs hq hz hkp hS => ?_)
  refine W.widen (k := 23) (n := 283) (Nat.le_of_ble_eq_true rfl) (Nat.le_of_ble_eq_true rfl) ?_
  replace hkp := fun (q : Nat) h1 (h2 : ¬ (q = f + 17 ∨ f + 17 + 1 ≤ q)) => hkp q h1 h2
  replace hBa := hBa.kept (hkp _ hBa.1.lt (by omega)) (hkp _ hBa.2.1.lt (by omega))
  replace hP0 := hP0.kept (hkp _ hP0.lt (by omega))
  replace hL0 := hL0.kept (hkp _ hL0.lt (by omega))
  replace hEm := hEm.kept (hkp _ hEm.lt (by omega))
  replace hPy := hPy.kept (hkp _ hPy.lt (by omega))
  replace hPi := hPi.kept (hkp _ hPi.lt (by omega))
  replace hR0 := hR0.kept (hkp _ hR0.lt (by omega))
  replace hB0 := hB0.kept (hkp _ hB0.lt (by omega))
  replace hBs := hBs.kept (fun q hq1 hq2 hq3 => hkp q hq1 (by omega))
  replace hO := hO.kept (hkp _ hO.lt (by omega))
  obtain ⟨hTr, hsz⟩ := hq
  refine xr_put (ci := 1) (v := .ref (f + 17)) (ty := .object "SharesDesk$Share") (C := RX1) (T := TX1) (N := 16) hx hb hts (by decide +kernel) tyX1 tyX1_ok nmX1 hown hK.1 hO hS (Or.inl rfl) rfl 15 (by decide) (hts (.fieldLink RX1 48 "SharesDesk$Phase" "tried" "LSharesDesk$Share;") (by decide +kernel)) rfl (by decide +kernel) rfl rfl (Nat.le_of_ble_eq_true rfl) dX1_init_94 (fun H locs hz hkp hO hS => ?_)
  replace hBa := hBa.kept (hkp _ (by omega)) (hkp _ (by omega))
  replace hP0 := hP0.kept (hkp _ (by omega))
  replace hL0 := hL0.kept (hkp _ (by omega))
  replace hEm := hEm.kept (hkp _ (by omega))
  replace hPy := hPy.kept (hkp _ (by omega))
  replace hPi := hPi.kept (hkp _ (by omega))
  replace hR0 := hR0.kept (hkp _ (by omega))
  replace hB0 := hB0.kept (hkp _ (by omega))
  replace hBs := hBs.kept (fun q hq1 hq2 hq3 => hkp q (by omega))
  replace hTr := hTr.kept (fun q hq1 hq2 hq3 => hkp q (by omega))
  replace hsz := hz.trans hsz
  refine lv_aload_n hx hb dX1_init_97 rfl (lv_at hl 0 rfl) ?_
  refine lv_aload_n hx hb dX1_init_98 rfl (lv_at hl 1 rfl) ?_
  refine xr_putF (ci := 1) (v := .ref t) (ty := .object "SharesDesk$Town") (C := RX1) (T := TX1) (N := 16) hx hb hts (by decide +kernel) tyX1 tyX1_ok nmX1 hown hK.1 hO hS (Or.inl rfl) rfl 0 (by decide) (hts (.fieldLink RX1 51 "SharesDesk$Phase" "town" "LSharesDesk$Town;") (by decide +kernel)) rfl hnm rfl (by decide +kernel) rfl rfl (Nat.le_of_ble_eq_true rfl) dX1_init_99 (fun H locs hz hkp hO hS => ?_)
  replace hBa := hBa.kept (hkp _ (by omega)) (hkp _ (by omega))
  replace hP0 := hP0.kept (hkp _ (by omega))
  replace hL0 := hL0.kept (hkp _ (by omega))
  replace hEm := hEm.kept (hkp _ (by omega))
  replace hPy := hPy.kept (hkp _ (by omega))
  replace hPi := hPi.kept (hkp _ (by omega))
  replace hR0 := hR0.kept (hkp _ (by omega))
  replace hB0 := hB0.kept (hkp _ (by omega))
  replace hBs := hBs.kept (fun q hq1 hq2 hq3 => hkp q (by omega))
  replace hTr := hTr.kept (fun q hq1 hq2 hq3 => hkp q (by omega))
  replace hsz := hz.trans hsz
  refine lv_iconst (v := 0) hx hb dX1_init_102 (by decide) ?_
  refine xr_ti (x' := nI 0) rfl ?_
  refine lv_istore_n (lv' := [(2, .int (nI 0)), (0, .ref f), (1, .ref t)]) hx hb dX1_init_103 rfl hl (by decide) rfl (fun ls hl => ?_)
  exact loop1 48 0 (by omega) H locs hO hBa (PoolP.no hP0) (PoolP.no hL0) hEm hPy hPi (PoolP.no hR0) (PoolP.no hB0) hBs hTr hsz hS ls (lv_sub hl [0, 1] rfl)
end
