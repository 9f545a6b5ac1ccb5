-- ===== PART A: goes FIRST, ahead of the names: the tables' words, and 'selects' of the private methods out of them =====
/-- a private method of a class that the tables say can be made, by its rows of tables_1 -/
def lw_okq (q : MethodName × Nat) : Prop := (q.1.cls ≠ "java/lang/invoke/MethodHandle" ∧ q.1.cls ≠ "java/lang/invoke/VarHandle") ∧ Cond.instantiable q.1.cls q.2 ∈ tables_1 ∧ Cond.privateMethod q.1 ∈ tables_1 ∧ Cond.instanceMethod q.1 ∈ tables_1
theorem lw_p0 : lw_okq (⟨"FleetStores", "placeOf", "(I)LFleetStores$Place;"⟩, 16) := ⟨⟨by decide +kernel, by decide +kernel⟩, List.mem_of_getElem? (i := 16) (by decide +kernel), List.mem_of_getElem? (i := 267) (by decide +kernel), List.mem_of_getElem? (i := 268) (by decide +kernel)⟩
theorem lw_p1 : lw_okq (⟨"FleetStores", "kindOf", "(I)LFleetStores$Kind;"⟩, 16) := ⟨⟨by decide +kernel, by decide +kernel⟩, List.mem_of_getElem? (i := 16) (by decide +kernel), List.mem_of_getElem? (i := 278) (by decide +kernel), List.mem_of_getElem? (i := 279) (by decide +kernel)⟩
theorem lw_p2 : lw_okq (⟨"FleetStores", "storeOf", "(II)LFleetStores$Store;"⟩, 16) := ⟨⟨by decide +kernel, by decide +kernel⟩, List.mem_of_getElem? (i := 16) (by decide +kernel), List.mem_of_getElem? (i := 298) (by decide +kernel), List.mem_of_getElem? (i := 299) (by decide +kernel)⟩
theorem lw_p3 : lw_okq (⟨"FleetStores$Lots", "putInChain", "(LFleetStores$Lot;)V"⟩, 3) := ⟨⟨by decide +kernel, by decide +kernel⟩, List.mem_of_getElem? (i := 126) (by decide +kernel), List.mem_of_getElem? (i := 376) (by decide +kernel), List.mem_of_getElem? (i := 377) (by decide +kernel)⟩
theorem lw_p4 : lw_okq (⟨"FleetStores", "bringIn", "()V"⟩, 16) := ⟨⟨by decide +kernel, by decide +kernel⟩, List.mem_of_getElem? (i := 16) (by decide +kernel), List.mem_of_getElem? (i := 397) (by decide +kernel), List.mem_of_getElem? (i := 398) (by decide +kernel)⟩
theorem lw_p5 : lw_okq (⟨"FleetStores", "condemnSpoilt", "()V"⟩, 16) := ⟨⟨by decide +kernel, by decide +kernel⟩, List.mem_of_getElem? (i := 16) (by decide +kernel), List.mem_of_getElem? (i := 405) (by decide +kernel), List.mem_of_getElem? (i := 406) (by decide +kernel)⟩
theorem lw_p6 : lw_okq (⟨"FleetStores", "eat", "()V"⟩, 16) := ⟨⟨by decide +kernel, by decide +kernel⟩, List.mem_of_getElem? (i := 16) (by decide +kernel), List.mem_of_getElem? (i := 419) (by decide +kernel), List.mem_of_getElem? (i := 420) (by decide +kernel)⟩
theorem lw_p7 : lw_okq (⟨"FleetStores", "writeStocks", "()V"⟩, 16) := ⟨⟨by decide +kernel, by decide +kernel⟩, List.mem_of_getElem? (i := 16) (by decide +kernel), List.mem_of_getElem? (i := 437) (by decide +kernel), List.mem_of_getElem? (i := 438) (by decide +kernel)⟩
theorem lw_p8 : lw_okq (⟨"FleetStores", "stockAsBegan", "(LFleetStores$Store;I)I"⟩, 16) := ⟨⟨by decide +kernel, by decide +kernel⟩, List.mem_of_getElem? (i := 16) (by decide +kernel), List.mem_of_getElem? (i := 470) (by decide +kernel), List.mem_of_getElem? (i := 471) (by decide +kernel)⟩
theorem lw_p9 : lw_okq (⟨"FleetStores", "beginTrial", "(I)V"⟩, 16) := ⟨⟨by decide +kernel, by decide +kernel⟩, List.mem_of_getElem? (i := 16) (by decide +kernel), List.mem_of_getElem? (i := 478) (by decide +kernel), List.mem_of_getElem? (i := 479) (by decide +kernel)⟩
theorem lw_p10 : lw_okq (⟨"FleetStores", "isShortInTrial", "(II)Z"⟩, 16) := ⟨⟨by decide +kernel, by decide +kernel⟩, List.mem_of_getElem? (i := 16) (by decide +kernel), List.mem_of_getElem? (i := 482) (by decide +kernel), List.mem_of_getElem? (i := 483) (by decide +kernel)⟩
theorem lw_p11 : lw_okq (⟨"FleetStores$Reader", "skipBlanks", "()V"⟩, 2) := ⟨⟨by decide +kernel, by decide +kernel⟩, List.mem_of_getElem? (i := 161) (by decide +kernel), List.mem_of_getElem? (i := 520) (by decide +kernel), List.mem_of_getElem? (i := 521) (by decide +kernel)⟩
theorem lw_p12 : lw_okq (⟨"FleetStores$Reader", "here", "()I"⟩, 2) := ⟨⟨by decide +kernel, by decide +kernel⟩, List.mem_of_getElem? (i := 161) (by decide +kernel), List.mem_of_getElem? (i := 524) (by decide +kernel), List.mem_of_getElem? (i := 525) (by decide +kernel)⟩
theorem lw_p13 : lw_okq (⟨"FleetStores$Reader", "readClause", "(LFleetStores$Contract;)Z"⟩, 2) := ⟨⟨by decide +kernel, by decide +kernel⟩, List.mem_of_getElem? (i := 161) (by decide +kernel), List.mem_of_getElem? (i := 533) (by decide +kernel), List.mem_of_getElem? (i := 534) (by decide +kernel)⟩
theorem lw_p14 : lw_okq (⟨"FleetStores$Reader", "pass", "(I)Z"⟩, 2) := ⟨⟨by decide +kernel, by decide +kernel⟩, List.mem_of_getElem? (i := 161) (by decide +kernel), List.mem_of_getElem? (i := 537) (by decide +kernel), List.mem_of_getElem? (i := 538) (by decide +kernel)⟩
theorem lw_p15 : lw_okq (⟨"FleetStores$Reader", "readDigits", "()I"⟩, 2) := ⟨⟨by decide +kernel, by decide +kernel⟩, List.mem_of_getElem? (i := 161) (by decide +kernel), List.mem_of_getElem? (i := 541) (by decide +kernel), List.mem_of_getElem? (i := 542) (by decide +kernel)⟩
def lw_privs_1 : List (MethodName × Nat) := [(⟨"FleetStores", "placeOf", "(I)LFleetStores$Place;"⟩, 16), (⟨"FleetStores", "kindOf", "(I)LFleetStores$Kind;"⟩, 16), (⟨"FleetStores", "storeOf", "(II)LFleetStores$Store;"⟩, 16), (⟨"FleetStores$Lots", "putInChain", "(LFleetStores$Lot;)V"⟩, 3), (⟨"FleetStores", "bringIn", "()V"⟩, 16), (⟨"FleetStores", "condemnSpoilt", "()V"⟩, 16), (⟨"FleetStores", "eat", "()V"⟩, 16), (⟨"FleetStores", "writeStocks", "()V"⟩, 16), (⟨"FleetStores", "stockAsBegan", "(LFleetStores$Store;I)I"⟩, 16), (⟨"FleetStores", "beginTrial", "(I)V"⟩, 16), (⟨"FleetStores", "isShortInTrial", "(II)Z"⟩, 16), (⟨"FleetStores$Reader", "skipBlanks", "()V"⟩, 2), (⟨"FleetStores$Reader", "here", "()I"⟩, 2), (⟨"FleetStores$Reader", "readClause", "(LFleetStores$Contract;)Z"⟩, 2), (⟨"FleetStores$Reader", "pass", "(I)Z"⟩, 2), (⟨"FleetStores$Reader", "readDigits", "()I"⟩, 2)]
theorem lw_r1 : ∀ q ∈ lw_privs_1, lw_okq q := List.forall_mem_cons.mpr ⟨lw_p0, List.forall_mem_cons.mpr ⟨lw_p1, List.forall_mem_cons.mpr ⟨lw_p2, List.forall_mem_cons.mpr ⟨lw_p3, List.forall_mem_cons.mpr ⟨lw_p4, List.forall_mem_cons.mpr ⟨lw_p5, List.forall_mem_cons.mpr ⟨lw_p6, List.forall_mem_cons.mpr ⟨lw_p7, List.forall_mem_cons.mpr ⟨lw_p8, List.forall_mem_cons.mpr ⟨lw_p9, List.forall_mem_cons.mpr ⟨lw_p10, List.forall_mem_cons.mpr ⟨lw_p11, List.forall_mem_cons.mpr ⟨lw_p12, List.forall_mem_cons.mpr ⟨lw_p13, List.forall_mem_cons.mpr ⟨lw_p14, List.forall_mem_cons.mpr ⟨lw_p15, fun _ h => absurd h List.not_mem_nil⟩⟩⟩⟩⟩⟩⟩⟩⟩⟩⟩⟩⟩⟩⟩⟩
theorem lw_p16 : lw_okq (⟨"FleetStores$Line", "numberIn", "(I)I"⟩, 3) := ⟨⟨by decide +kernel, by decide +kernel⟩, List.mem_of_getElem? (i := 198) (by decide +kernel), List.mem_of_getElem? (i := 565) (by decide +kernel), List.mem_of_getElem? (i := 566) (by decide +kernel)⟩
theorem lw_p17 : lw_okq (⟨"FleetStores$Line", "put", "(II)V"⟩, 3) := ⟨⟨by decide +kernel, by decide +kernel⟩, List.mem_of_getElem? (i := 198) (by decide +kernel), List.mem_of_getElem? (i := 569) (by decide +kernel), List.mem_of_getElem? (i := 570) (by decide +kernel)⟩
theorem lw_p18 : lw_okq (⟨"FleetStoresModel", "addLot", "(IIIIIIII)I"⟩, 43) := ⟨⟨by decide +kernel, by decide +kernel⟩, List.mem_of_getElem? (i := 644) (by decide +kernel), List.mem_of_getElem? (i := 814) (by decide +kernel), List.mem_of_getElem? (i := 815) (by decide +kernel)⟩
theorem lw_p19 : lw_okq (⟨"FleetStoresModel", "isLot", "(I)Z"⟩, 43) := ⟨⟨by decide +kernel, by decide +kernel⟩, List.mem_of_getElem? (i := 644) (by decide +kernel), List.mem_of_getElem? (i := 822) (by decide +kernel), List.mem_of_getElem? (i := 823) (by decide +kernel)⟩
theorem lw_p20 : lw_okq (⟨"FleetStoresModel", "part", "(IIIZ)I"⟩, 43) := ⟨⟨by decide +kernel, by decide +kernel⟩, List.mem_of_getElem? (i := 644) (by decide +kernel), List.mem_of_getElem? (i := 830) (by decide +kernel), List.mem_of_getElem? (i := 831) (by decide +kernel)⟩
theorem lw_p21 : lw_okq (⟨"FleetStoresModel", "eat", "(II)V"⟩, 43) := ⟨⟨by decide +kernel, by decide +kernel⟩, List.mem_of_getElem? (i := 644) (by decide +kernel), List.mem_of_getElem? (i := 835) (by decide +kernel), List.mem_of_getElem? (i := 836) (by decide +kernel)⟩
theorem lw_p22 : lw_okq (⟨"FleetStoresModel", "oldest", "(II[I[I)I"⟩, 43) := ⟨⟨by decide +kernel, by decide +kernel⟩, List.mem_of_getElem? (i := 644) (by decide +kernel), List.mem_of_getElem? (i := 839) (by decide +kernel), List.mem_of_getElem? (i := 840) (by decide +kernel)⟩
theorem lw_p23 : lw_okq (⟨"FleetStoresModel", "stockOf", "(II)I"⟩, 43) := ⟨⟨by decide +kernel, by decide +kernel⟩, List.mem_of_getElem? (i := 644) (by decide +kernel), List.mem_of_getElem? (i := 843) (by decide +kernel), List.mem_of_getElem? (i := 844) (by decide +kernel)⟩
theorem lw_p24 : lw_okq (⟨"FleetStoresModel", "lastsWeek", "(II)Z"⟩, 43) := ⟨⟨by decide +kernel, by decide +kernel⟩, List.mem_of_getElem? (i := 644) (by decide +kernel), List.mem_of_getElem? (i := 851) (by decide +kernel), List.mem_of_getElem? (i := 852) (by decide +kernel)⟩
theorem lw_p25 : lw_okq (⟨"FleetStoresModel", "look", "()I"⟩, 43) := ⟨⟨by decide +kernel, by decide +kernel⟩, List.mem_of_getElem? (i := 644) (by decide +kernel), List.mem_of_getElem? (i := 894) (by decide +kernel), List.mem_of_getElem? (i := 895) (by decide +kernel)⟩
theorem lw_p26 : lw_okq (⟨"FleetStoresModel", "clause", "()Z"⟩, 43) := ⟨⟨by decide +kernel, by decide +kernel⟩, List.mem_of_getElem? (i := 644) (by decide +kernel), List.mem_of_getElem? (i := 898) (by decide +kernel), List.mem_of_getElem? (i := 899) (by decide +kernel)⟩
theorem lw_p27 : lw_okq (⟨"FleetStoresModel", "number", "()I"⟩, 43) := ⟨⟨by decide +kernel, by decide +kernel⟩, List.mem_of_getElem? (i := 644) (by decide +kernel), List.mem_of_getElem? (i := 902) (by decide +kernel), List.mem_of_getElem? (i := 903) (by decide +kernel)⟩
def lw_privs_2 : List (MethodName × Nat) := [(⟨"FleetStores$Line", "numberIn", "(I)I"⟩, 3), (⟨"FleetStores$Line", "put", "(II)V"⟩, 3), (⟨"FleetStoresModel", "addLot", "(IIIIIIII)I"⟩, 43), (⟨"FleetStoresModel", "isLot", "(I)Z"⟩, 43), (⟨"FleetStoresModel", "part", "(IIIZ)I"⟩, 43), (⟨"FleetStoresModel", "eat", "(II)V"⟩, 43), (⟨"FleetStoresModel", "oldest", "(II[I[I)I"⟩, 43), (⟨"FleetStoresModel", "stockOf", "(II)I"⟩, 43), (⟨"FleetStoresModel", "lastsWeek", "(II)Z"⟩, 43), (⟨"FleetStoresModel", "look", "()I"⟩, 43), (⟨"FleetStoresModel", "clause", "()Z"⟩, 43), (⟨"FleetStoresModel", "number", "()I"⟩, 43)]
theorem lw_r2 : ∀ q ∈ lw_privs_2, lw_okq q := List.forall_mem_cons.mpr ⟨lw_p16, List.forall_mem_cons.mpr ⟨lw_p17, List.forall_mem_cons.mpr ⟨lw_p18, List.forall_mem_cons.mpr ⟨lw_p19, List.forall_mem_cons.mpr ⟨lw_p20, List.forall_mem_cons.mpr ⟨lw_p21, List.forall_mem_cons.mpr ⟨lw_p22, List.forall_mem_cons.mpr ⟨lw_p23, List.forall_mem_cons.mpr ⟨lw_p24, List.forall_mem_cons.mpr ⟨lw_p25, List.forall_mem_cons.mpr ⟨lw_p26, List.forall_mem_cons.mpr ⟨lw_p27, fun _ h => absurd h List.not_mem_nil⟩⟩⟩⟩⟩⟩⟩⟩⟩⟩⟩⟩
def lw_privs : List (MethodName × Nat) := lw_privs_1 ++ (lw_privs_2)
def lw_tbl : List Cond := k2_sels lw_privs ++ tables_1
theorem lw_privs_ok : ∀ q ∈ lw_privs, lw_okq q := by
  show ∀ q ∈ lw_privs_1 ++ (lw_privs_2), lw_okq q
  exact List.forall_mem_append.mpr ⟨lw_r1, lw_r2⟩

/-- the words that a callee may be given -/
def gtb : List Cond := lw_tbl.filter goodWord
theorem in_tb {w : Cond} (i : Nat) (h : tables_1[i]? = some w) (g : goodWord w = true) : w ∈ gtb := List.mem_filter.mpr ⟨List.mem_append_right _ (List.mem_of_getElem? h), g⟩
theorem in_sel {w : Cond} (i : Nat) (h : (k2_sels lw_privs)[i]? = some w) (g : goodWord w = true) : w ∈ gtb := List.mem_filter.mpr ⟨List.mem_append_left _ (List.mem_of_getElem? h), g⟩
def tX0 : u_T := fun k => match k with
  | 0 => ("FleetStores$Contract", "letters", "[I", true)
  | 1 => ("FleetStores$Contract", "signs", "[I", true)
  | 2 => ("FleetStores$Contract", "numbers", "[I", true)
  | 3 => ("FleetStores$Contract", "amounts", "[I", true)
  | _ => ("FleetStores$Contract", "many", "I", false)
def tX1 : u_T := fun k => match k with
  | 0 => ("FleetStores$Kind", "number", "I", true)
  | 1 => ("FleetStores$Kind", "parts", "[I", true)
  | _ => ("FleetStores$Kind", "rations", "I", false)
def tX2 : u_T := fun k => match k with
  | 0 => ("FleetStores$Line", "places", "[I", true)
  | 1 => ("FleetStores$Line", "numbers", "[I", true)
  | _ => ("FleetStores$Line", "changed", "I", false)
def tX3 : u_T := fun k => match k with
  | 0 => ("FleetStores$Lot", "store", "LFleetStores$Store;", true)
  | 1 => ("FleetStores$Lot", "maker", "I", true)
  | 2 => ("FleetStores$Lot", "made", "I", true)
  | 3 => ("FleetStores$Lot", "grade", "I", true)
  | 4 => ("FleetStores$Lot", "mark", "I", true)
  | 5 => ("FleetStores$Lot", "casksAtFirst", "I", true)
  | 6 => ("FleetStores$Lot", "casks", "I", false)
  | 7 => ("FleetStores$Lot", "coming", "I", false)
  | 8 => ("FleetStores$Lot", "price", "I", false)
  | 9 => ("FleetStores$Lot", "isDrawn", "Z", false)
  | 10 => ("FleetStores$Lot", "owing", "I", false)
  | 11 => ("FleetStores$Lot", "lost", "I", false)
  | 12 => ("FleetStores$Lot", "trialCasks", "I", false)
  | _ => ("FleetStores$Lot", "next", "LFleetStores$Lot;", false)
def tX4 : u_T := fun k => match k with
  | 0 => ("FleetStores$Lots", "byNumber", "[LFleetStores$Lot;", true)
  | 1 => ("FleetStores$Lots", "many", "I", false)
  | _ => ("FleetStores$Lots", "oldest", "LFleetStores$Lot;", false)
def tX5 : u_T := fun k => match k with
  | 0 => ("FleetStores$Place", "number", "I", true)
  | 1 => ("FleetStores$Place", "men", "I", false)
  | _ => ("FleetStores$Place", "lag", "I", false)
def tX6 : u_T := fun k => match k with
  | 0 => ("FleetStores$Reader", "tape", "LFleetStores$Tape;", true)
  | _ => ("FleetStores$Reader", "at", "I", false)
def tX7 : u_T := fun k => match k with
  | 0 => ("FleetStores$Store", "number", "I", true)
  | 1 => ("FleetStores$Store", "place", "LFleetStores$Place;", true)
  | 2 => ("FleetStores$Store", "kind", "LFleetStores$Kind;", true)
  | 3 => ("FleetStores$Store", "table", "LFleetStores$Table;", true)
  | 4 => ("FleetStores$Store", "trialTable", "LFleetStores$Table;", true)
  | 5 => ("FleetStores$Store", "opened", "I", false)
  | 6 => ("FleetStores$Store", "lacked", "I", false)
  | _ => ("FleetStores$Store", "surveys", "LFleetStores$Survey;", false)
def tX8 : u_T := fun k => match k with
  | 0 => ("FleetStores$Survey", "week", "I", true)
  | 1 => ("FleetStores$Survey", "next", "LFleetStores$Survey;", true)
  | _ => ("FleetStores$Survey", "difference", "I", false)
def tX9 : u_T := fun k => match k with
  | 0 => ("FleetStores$Table", "left", "I", false)
  | _ => ("FleetStores$Table", "wanting", "I", false)
def tX10 : u_T := fun k => match k with
  | 0 => ("FleetStores$Tape", "bytes", "[I", true)
  | _ => ("FleetStores$Tape", "length", "I", false)
def tX11 : u_T := fun k => match k with
  | 0 => ("FleetStores", "places", "[LFleetStores$Place;", true)
  | 1 => ("FleetStores", "kinds", "[LFleetStores$Kind;", true)
  | 2 => ("FleetStores", "stores", "[LFleetStores$Store;", true)
  | 3 => ("FleetStores", "stocksAsBegan", "[[I", true)
  | 4 => ("FleetStores", "ways", "[[I", true)
  | 5 => ("FleetStores", "lots", "LFleetStores$Lots;", true)
  | 6 => ("FleetStores", "tape", "LFleetStores$Tape;", true)
  | 7 => ("FleetStores", "reader", "LFleetStores$Reader;", true)
  | 8 => ("FleetStores", "contracts", "[LFleetStores$Contract;", true)
  | 9 => ("FleetStores", "spareContract", "LFleetStores$Contract;", false)
  | 10 => ("FleetStores", "line", "LFleetStores$Line;", true)
  | 11 => ("FleetStores", "now", "I", false)
  | 12 => ("FleetStores", "casksBought", "I", false)
  | 13 => ("FleetStores", "casksCondemned", "I", false)
  | 14 => ("FleetStores", "casksOpened", "I", false)
  | _ => ("FleetStores", "surveysTold", "I", false)
def tX12 : u_T := fun k => match k with
  | 0 => ("FleetStoresModel", "now", "I", false)
  | 1 => ("FleetStoresModel", "lots", "I", false)
  | 2 => ("FleetStoresModel", "bought", "I", false)
  | 3 => ("FleetStoresModel", "opened", "I", false)
  | 4 => ("FleetStoresModel", "surveys", "I", false)
  | 5 => ("FleetStoresModel", "men", "[I", true)
  | 6 => ("FleetStoresModel", "rations", "[I", true)
  | 7 => ("FleetStoresModel", "spoil", "[I", true)
  | 8 => ("FleetStoresModel", "ways", "[I", true)
  | 9 => ("FleetStoresModel", "lags", "[I", true)
  | 10 => ("FleetStoresModel", "maker", "[I", true)
  | 11 => ("FleetStoresModel", "kind", "[I", true)
  | 12 => ("FleetStoresModel", "made", "[I", true)
  | 13 => ("FleetStoresModel", "casks", "[I", true)
  | 14 => ("FleetStoresModel", "place", "[I", true)
  | 15 => ("FleetStoresModel", "comes", "[I", true)
  | 16 => ("FleetStoresModel", "grade", "[I", true)
  | 17 => ("FleetStoresModel", "mark", "[I", true)
  | 18 => ("FleetStoresModel", "first", "[I", true)
  | 19 => ("FleetStoresModel", "price", "[I", true)
  | 20 => ("FleetStoresModel", "bad", "[I", true)
  | 21 => ("FleetStoresModel", "due", "[I", true)
  | 22 => ("FleetStoresModel", "gone", "[I", true)
  | 23 => ("FleetStoresModel", "open", "[I", true)
  | 24 => ("FleetStoresModel", "lack", "[I", true)
  | 25 => ("FleetStoresModel", "openedAt", "[I", true)
  | 26 => ("FleetStoresModel", "book", "[I", true)
  | 27 => ("FleetStoresModel", "tryCasks", "[I", true)
  | 28 => ("FleetStoresModel", "tryComes", "[I", true)
  | 29 => ("FleetStoresModel", "tryOpen", "[I", true)
  | 30 => ("FleetStoresModel", "tape", "[I", true)
  | 31 => ("FleetStoresModel", "size", "I", false)
  | 32 => ("FleetStoresModel", "at", "I", false)
  | 33 => ("FleetStoresModel", "contractMany", "[I", true)
  | 34 => ("FleetStoresModel", "letters", "[I", true)
  | 35 => ("FleetStoresModel", "signs", "[I", true)
  | 36 => ("FleetStoresModel", "numbers", "[I", true)
  | 37 => ("FleetStoresModel", "amounts", "[I", true)
  | 38 => ("FleetStoresModel", "readMany", "I", false)
  | 39 => ("FleetStoresModel", "line", "[I", true)
  | 40 => ("FleetStoresModel", "surveyBook", "[I", true)
  | 41 => ("FleetStoresModel", "surveyWeek", "[I", true)
  | _ => ("FleetStoresModel", "surveyDiffers", "[I", true)
def yX0 : Nat → FieldType := fun k => match k with
  | 0 => .array (.int)
  | 1 => .array (.int)
  | 2 => .array (.int)
  | 3 => .array (.int)
  | _ => .int
def yX1 : Nat → FieldType := fun k => match k with
  | 0 => .int
  | 1 => .array (.int)
  | _ => .int
def yX2 : Nat → FieldType := fun k => match k with
  | 0 => .array (.int)
  | 1 => .array (.int)
  | _ => .int
def yX3 : Nat → FieldType := fun k => match k with
  | 0 => .object "FleetStores$Store"
  | 1 => .int
  | 2 => .int
  | 3 => .int
  | 4 => .int
  | 5 => .int
  | 6 => .int
  | 7 => .int
  | 8 => .int
  | 9 => .boolean
  | 10 => .int
  | 11 => .int
  | 12 => .int
  | _ => .object "FleetStores$Lot"
def yX4 : Nat → FieldType := fun k => match k with
  | 0 => .array (.object "FleetStores$Lot")
  | 1 => .int
  | _ => .object "FleetStores$Lot"
def yX5 : Nat → FieldType := fun k => match k with
  | 0 => .int
  | 1 => .int
  | _ => .int
def yX6 : Nat → FieldType := fun k => match k with
  | 0 => .object "FleetStores$Tape"
  | _ => .int
def yX7 : Nat → FieldType := fun k => match k with
  | 0 => .int
  | 1 => .object "FleetStores$Place"
  | 2 => .object "FleetStores$Kind"
  | 3 => .object "FleetStores$Table"
  | 4 => .object "FleetStores$Table"
  | 5 => .int
  | 6 => .int
  | _ => .object "FleetStores$Survey"
def yX8 : Nat → FieldType := fun k => match k with
  | 0 => .int
  | 1 => .object "FleetStores$Survey"
  | _ => .int
def yX9 : Nat → FieldType := fun k => match k with
  | 0 => .int
  | _ => .int
def yX10 : Nat → FieldType := fun k => match k with
  | 0 => .array (.int)
  | _ => .int
def yX11 : Nat → FieldType := fun k => match k with
  | 0 => .array (.object "FleetStores$Place")
  | 1 => .array (.object "FleetStores$Kind")
  | 2 => .array (.object "FleetStores$Store")
  | 3 => .array (.array (.int))
  | 4 => .array (.array (.int))
  | 5 => .object "FleetStores$Lots"
  | 6 => .object "FleetStores$Tape"
  | 7 => .object "FleetStores$Reader"
  | 8 => .array (.object "FleetStores$Contract")
  | 9 => .object "FleetStores$Contract"
  | 10 => .object "FleetStores$Line"
  | 11 => .int
  | 12 => .int
  | 13 => .int
  | 14 => .int
  | _ => .int
def yX12 : Nat → FieldType := fun k => match k with
  | 0 => .int
  | 1 => .int
  | 2 => .int
  | 3 => .int
  | 4 => .int
  | 5 => .array (.int)
  | 6 => .array (.int)
  | 7 => .array (.int)
  | 8 => .array (.int)
  | 9 => .array (.int)
  | 10 => .array (.int)
  | 11 => .array (.int)
  | 12 => .array (.int)
  | 13 => .array (.int)
  | 14 => .array (.int)
  | 15 => .array (.int)
  | 16 => .array (.int)
  | 17 => .array (.int)
  | 18 => .array (.int)
  | 19 => .array (.int)
  | 20 => .array (.int)
  | 21 => .array (.int)
  | 22 => .array (.int)
  | 23 => .array (.int)
  | 24 => .array (.int)
  | 25 => .array (.int)
  | 26 => .array (.int)
  | 27 => .array (.int)
  | 28 => .array (.int)
  | 29 => .array (.int)
  | 30 => .array (.int)
  | 31 => .int
  | 32 => .int
  | 33 => .array (.int)
  | 34 => .array (.int)
  | 35 => .array (.int)
  | 36 => .array (.int)
  | 37 => .array (.int)
  | 38 => .int
  | 39 => .array (.int)
  | 40 => .array (.int)
  | 41 => .array (.int)
  | _ => .array (.int)
def Cc : Nat → String := fun c => match c with
  | 0 => "FleetStores$Contract"
  | 1 => "FleetStores$Kind"
  | 2 => "FleetStores$Line"
  | 3 => "FleetStores$Lot"
  | 4 => "FleetStores$Lots"
  | 5 => "FleetStores$Place"
  | 6 => "FleetStores$Reader"
  | 7 => "FleetStores$Store"
  | 8 => "FleetStores$Survey"
  | 9 => "FleetStores$Table"
  | 10 => "FleetStores$Tape"
  | 11 => "FleetStores"
  | _ => "FleetStoresModel"
def Tc : Nat → u_T := fun c => match c with
  | 0 => tX0
  | 1 => tX1
  | 2 => tX2
  | 3 => tX3
  | 4 => tX4
  | 5 => tX5
  | 6 => tX6
  | 7 => tX7
  | 8 => tX8
  | 9 => tX9
  | 10 => tX10
  | 11 => tX11
  | _ => tX12
def yc : Nat → Nat → FieldType := fun c => match c with
  | 0 => yX0
  | 1 => yX1
  | 2 => yX2
  | 3 => yX3
  | 4 => yX4
  | 5 => yX5
  | 6 => yX6
  | 7 => yX7
  | 8 => yX8
  | 9 => yX9
  | 10 => yX10
  | 11 => yX11
  | _ => yX12
def Nc : Nat → Nat := fun c => match c with
  | 0 => 5
  | 1 => 3
  | 2 => 3
  | 3 => 14
  | 4 => 3
  | 5 => 3
  | 6 => 2
  | 7 => 8
  | 8 => 3
  | 9 => 2
  | 10 => 2
  | 11 => 16
  | _ => 43
def sh : Nat → List Bool := fun c => match c with
  | 0 => [true, true, true, true, false]
  | 1 => [false, true, false]
  | 2 => [true, true, false]
  | 3 => [true, false, false, false, false, false, false, false, false, false, false, false, false, true]
  | 4 => [true, false, true]
  | 5 => [false, false, false]
  | 6 => [true, false]
  | 7 => [false, true, true, true, true, false, false, true]
  | 8 => [false, true, false]
  | 9 => [false, false]
  | 10 => [true, false]
  | 11 => [true, true, true, true, true, true, true, true, true, true, true, false, false, false, false, false]
  | _ => [false, false, false, false, false, true, true, true, true, true, true, true, true, true, true, true, true, true, true, true, true, true, true, true, true, true, true, true, true, true, true, false, false, true, true, true, true, true, false, true, true, true, true]
def classes : List vw_C := [(Cc 0, Tc 0, Nc 0), (Cc 1, Tc 1, Nc 1), (Cc 2, Tc 2, Nc 2), (Cc 3, Tc 3, Nc 3), (Cc 4, Tc 4, Nc 4), (Cc 5, Tc 5, Nc 5), (Cc 6, Tc 6, Nc 6), (Cc 7, Tc 7, Nc 7), (Cc 8, Tc 8, Nc 8), (Cc 9, Tc 9, Nc 9), (Cc 10, Tc 10, Nc 10), (Cc 11, Tc 11, Nc 11), (Cc 12, Tc 12, Nc 12)]
theorem inaX0 : ∀ w ∈ u_ws (Cc 0) (Tc 0) (Nc 0), w ∈ lw_tbl := by decide +kernel
theorem inX0 : ∀ w ∈ u_ws (Cc 0) (Tc 0) (Nc 0), w ∈ gtb := fun w h => List.mem_filter.mpr ⟨inaX0 w h, (by decide +kernel : ∀ w ∈ u_ws (Cc 0) (Tc 0) (Nc 0), goodWord w = true) w h⟩
theorem nmX0 : ∀ a, a < Nc 0 → ∀ b, b < Nc 0 → a ≠ b → (Tc 0 a).2.1 ≠ (Tc 0 b).2.1 := by decide +kernel
theorem okX0 : ∀ k, k < Nc 0 → parseFieldDescriptor (Tc 0 k).2.2.1 = some (yc 0 k) := by decide +kernel
theorem shX0 : (sh 0).length = Nc 0 ∧ ∀ k, k < Nc 0 → ((sh 0)[k]? = some true ∧ defaultValue (yc 0 k) = .null ∨ (sh 0)[k]? = some false ∧ defaultValue (yc 0 k) = .int 0) := by decide +kernel
theorem inaX1 : ∀ w ∈ u_ws (Cc 1) (Tc 1) (Nc 1), w ∈ lw_tbl := by decide +kernel
theorem inX1 : ∀ w ∈ u_ws (Cc 1) (Tc 1) (Nc 1), w ∈ gtb := fun w h => List.mem_filter.mpr ⟨inaX1 w h, (by decide +kernel : ∀ w ∈ u_ws (Cc 1) (Tc 1) (Nc 1), goodWord w = true) w h⟩
theorem nmX1 : ∀ a, a < Nc 1 → ∀ b, b < Nc 1 → a ≠ b → (Tc 1 a).2.1 ≠ (Tc 1 b).2.1 := by decide +kernel
theorem okX1 : ∀ k, k < Nc 1 → parseFieldDescriptor (Tc 1 k).2.2.1 = some (yc 1 k) := by decide +kernel
theorem shX1 : (sh 1).length = Nc 1 ∧ ∀ k, k < Nc 1 → ((sh 1)[k]? = some true ∧ defaultValue (yc 1 k) = .null ∨ (sh 1)[k]? = some false ∧ defaultValue (yc 1 k) = .int 0) := by decide +kernel
theorem inaX2 : ∀ w ∈ u_ws (Cc 2) (Tc 2) (Nc 2), w ∈ lw_tbl := by decide +kernel
theorem inX2 : ∀ w ∈ u_ws (Cc 2) (Tc 2) (Nc 2), w ∈ gtb := fun w h => List.mem_filter.mpr ⟨inaX2 w h, (by decide +kernel : ∀ w ∈ u_ws (Cc 2) (Tc 2) (Nc 2), goodWord w = true) w h⟩
theorem nmX2 : ∀ a, a < Nc 2 → ∀ b, b < Nc 2 → a ≠ b → (Tc 2 a).2.1 ≠ (Tc 2 b).2.1 := by decide +kernel
theorem okX2 : ∀ k, k < Nc 2 → parseFieldDescriptor (Tc 2 k).2.2.1 = some (yc 2 k) := by decide +kernel
theorem shX2 : (sh 2).length = Nc 2 ∧ ∀ k, k < Nc 2 → ((sh 2)[k]? = some true ∧ defaultValue (yc 2 k) = .null ∨ (sh 2)[k]? = some false ∧ defaultValue (yc 2 k) = .int 0) := by decide +kernel
theorem inaX3 : ∀ w ∈ u_ws (Cc 3) (Tc 3) (Nc 3), w ∈ lw_tbl := by decide +kernel
theorem inX3 : ∀ w ∈ u_ws (Cc 3) (Tc 3) (Nc 3), w ∈ gtb := fun w h => List.mem_filter.mpr ⟨inaX3 w h, (by decide +kernel : ∀ w ∈ u_ws (Cc 3) (Tc 3) (Nc 3), goodWord w = true) w h⟩
theorem nmX3 : ∀ a, a < Nc 3 → ∀ b, b < Nc 3 → a ≠ b → (Tc 3 a).2.1 ≠ (Tc 3 b).2.1 := by decide +kernel
theorem okX3 : ∀ k, k < Nc 3 → parseFieldDescriptor (Tc 3 k).2.2.1 = some (yc 3 k) := by decide +kernel
theorem shX3 : (sh 3).length = Nc 3 ∧ ∀ k, k < Nc 3 → ((sh 3)[k]? = some true ∧ defaultValue (yc 3 k) = .null ∨ (sh 3)[k]? = some false ∧ defaultValue (yc 3 k) = .int 0) := by decide +kernel
theorem inaX4 : ∀ w ∈ u_ws (Cc 4) (Tc 4) (Nc 4), w ∈ lw_tbl := by decide +kernel
theorem inX4 : ∀ w ∈ u_ws (Cc 4) (Tc 4) (Nc 4), w ∈ gtb := fun w h => List.mem_filter.mpr ⟨inaX4 w h, (by decide +kernel : ∀ w ∈ u_ws (Cc 4) (Tc 4) (Nc 4), goodWord w = true) w h⟩
theorem nmX4 : ∀ a, a < Nc 4 → ∀ b, b < Nc 4 → a ≠ b → (Tc 4 a).2.1 ≠ (Tc 4 b).2.1 := by decide +kernel
theorem okX4 : ∀ k, k < Nc 4 → parseFieldDescriptor (Tc 4 k).2.2.1 = some (yc 4 k) := by decide +kernel
theorem shX4 : (sh 4).length = Nc 4 ∧ ∀ k, k < Nc 4 → ((sh 4)[k]? = some true ∧ defaultValue (yc 4 k) = .null ∨ (sh 4)[k]? = some false ∧ defaultValue (yc 4 k) = .int 0) := by decide +kernel
theorem inaX5 : ∀ w ∈ u_ws (Cc 5) (Tc 5) (Nc 5), w ∈ lw_tbl := by decide +kernel
theorem inX5 : ∀ w ∈ u_ws (Cc 5) (Tc 5) (Nc 5), w ∈ gtb := fun w h => List.mem_filter.mpr ⟨inaX5 w h, (by decide +kernel : ∀ w ∈ u_ws (Cc 5) (Tc 5) (Nc 5), goodWord w = true) w h⟩
theorem nmX5 : ∀ a, a < Nc 5 → ∀ b, b < Nc 5 → a ≠ b → (Tc 5 a).2.1 ≠ (Tc 5 b).2.1 := by decide +kernel
theorem okX5 : ∀ k, k < Nc 5 → parseFieldDescriptor (Tc 5 k).2.2.1 = some (yc 5 k) := by decide +kernel
theorem shX5 : (sh 5).length = Nc 5 ∧ ∀ k, k < Nc 5 → ((sh 5)[k]? = some true ∧ defaultValue (yc 5 k) = .null ∨ (sh 5)[k]? = some false ∧ defaultValue (yc 5 k) = .int 0) := by decide +kernel
theorem inaX6 : ∀ w ∈ u_ws (Cc 6) (Tc 6) (Nc 6), w ∈ lw_tbl := by decide +kernel
theorem inX6 : ∀ w ∈ u_ws (Cc 6) (Tc 6) (Nc 6), w ∈ gtb := fun w h => List.mem_filter.mpr ⟨inaX6 w h, (by decide +kernel : ∀ w ∈ u_ws (Cc 6) (Tc 6) (Nc 6), goodWord w = true) w h⟩
theorem nmX6 : ∀ a, a < Nc 6 → ∀ b, b < Nc 6 → a ≠ b → (Tc 6 a).2.1 ≠ (Tc 6 b).2.1 := by decide +kernel
theorem okX6 : ∀ k, k < Nc 6 → parseFieldDescriptor (Tc 6 k).2.2.1 = some (yc 6 k) := by decide +kernel
theorem shX6 : (sh 6).length = Nc 6 ∧ ∀ k, k < Nc 6 → ((sh 6)[k]? = some true ∧ defaultValue (yc 6 k) = .null ∨ (sh 6)[k]? = some false ∧ defaultValue (yc 6 k) = .int 0) := by decide +kernel
theorem inaX7 : ∀ w ∈ u_ws (Cc 7) (Tc 7) (Nc 7), w ∈ lw_tbl := by decide +kernel
theorem inX7 : ∀ w ∈ u_ws (Cc 7) (Tc 7) (Nc 7), w ∈ gtb := fun w h => List.mem_filter.mpr ⟨inaX7 w h, (by decide +kernel : ∀ w ∈ u_ws (Cc 7) (Tc 7) (Nc 7), goodWord w = true) w h⟩
theorem nmX7 : ∀ a, a < Nc 7 → ∀ b, b < Nc 7 → a ≠ b → (Tc 7 a).2.1 ≠ (Tc 7 b).2.1 := by decide +kernel
theorem okX7 : ∀ k, k < Nc 7 → parseFieldDescriptor (Tc 7 k).2.2.1 = some (yc 7 k) := by decide +kernel
theorem shX7 : (sh 7).length = Nc 7 ∧ ∀ k, k < Nc 7 → ((sh 7)[k]? = some true ∧ defaultValue (yc 7 k) = .null ∨ (sh 7)[k]? = some false ∧ defaultValue (yc 7 k) = .int 0) := by decide +kernel
theorem inaX8 : ∀ w ∈ u_ws (Cc 8) (Tc 8) (Nc 8), w ∈ lw_tbl := by decide +kernel
theorem inX8 : ∀ w ∈ u_ws (Cc 8) (Tc 8) (Nc 8), w ∈ gtb := fun w h => List.mem_filter.mpr ⟨inaX8 w h, (by decide +kernel : ∀ w ∈ u_ws (Cc 8) (Tc 8) (Nc 8), goodWord w = true) w h⟩
theorem nmX8 : ∀ a, a < Nc 8 → ∀ b, b < Nc 8 → a ≠ b → (Tc 8 a).2.1 ≠ (Tc 8 b).2.1 := by decide +kernel
theorem okX8 : ∀ k, k < Nc 8 → parseFieldDescriptor (Tc 8 k).2.2.1 = some (yc 8 k) := by decide +kernel
theorem shX8 : (sh 8).length = Nc 8 ∧ ∀ k, k < Nc 8 → ((sh 8)[k]? = some true ∧ defaultValue (yc 8 k) = .null ∨ (sh 8)[k]? = some false ∧ defaultValue (yc 8 k) = .int 0) := by decide +kernel
theorem inaX9 : ∀ w ∈ u_ws (Cc 9) (Tc 9) (Nc 9), w ∈ lw_tbl := by decide +kernel
theorem inX9 : ∀ w ∈ u_ws (Cc 9) (Tc 9) (Nc 9), w ∈ gtb := fun w h => List.mem_filter.mpr ⟨inaX9 w h, (by decide +kernel : ∀ w ∈ u_ws (Cc 9) (Tc 9) (Nc 9), goodWord w = true) w h⟩
theorem nmX9 : ∀ a, a < Nc 9 → ∀ b, b < Nc 9 → a ≠ b → (Tc 9 a).2.1 ≠ (Tc 9 b).2.1 := by decide +kernel
theorem okX9 : ∀ k, k < Nc 9 → parseFieldDescriptor (Tc 9 k).2.2.1 = some (yc 9 k) := by decide +kernel
theorem shX9 : (sh 9).length = Nc 9 ∧ ∀ k, k < Nc 9 → ((sh 9)[k]? = some true ∧ defaultValue (yc 9 k) = .null ∨ (sh 9)[k]? = some false ∧ defaultValue (yc 9 k) = .int 0) := by decide +kernel
theorem inaX10 : ∀ w ∈ u_ws (Cc 10) (Tc 10) (Nc 10), w ∈ lw_tbl := by decide +kernel
theorem inX10 : ∀ w ∈ u_ws (Cc 10) (Tc 10) (Nc 10), w ∈ gtb := fun w h => List.mem_filter.mpr ⟨inaX10 w h, (by decide +kernel : ∀ w ∈ u_ws (Cc 10) (Tc 10) (Nc 10), goodWord w = true) w h⟩
theorem nmX10 : ∀ a, a < Nc 10 → ∀ b, b < Nc 10 → a ≠ b → (Tc 10 a).2.1 ≠ (Tc 10 b).2.1 := by decide +kernel
theorem okX10 : ∀ k, k < Nc 10 → parseFieldDescriptor (Tc 10 k).2.2.1 = some (yc 10 k) := by decide +kernel
theorem shX10 : (sh 10).length = Nc 10 ∧ ∀ k, k < Nc 10 → ((sh 10)[k]? = some true ∧ defaultValue (yc 10 k) = .null ∨ (sh 10)[k]? = some false ∧ defaultValue (yc 10 k) = .int 0) := by decide +kernel
theorem inaX11 : ∀ w ∈ u_ws (Cc 11) (Tc 11) (Nc 11), w ∈ lw_tbl := by decide +kernel
theorem inX11 : ∀ w ∈ u_ws (Cc 11) (Tc 11) (Nc 11), w ∈ gtb := fun w h => List.mem_filter.mpr ⟨inaX11 w h, (by decide +kernel : ∀ w ∈ u_ws (Cc 11) (Tc 11) (Nc 11), goodWord w = true) w h⟩
theorem nmX11 : ∀ a, a < Nc 11 → ∀ b, b < Nc 11 → a ≠ b → (Tc 11 a).2.1 ≠ (Tc 11 b).2.1 := by decide +kernel
theorem okX11 : ∀ k, k < Nc 11 → parseFieldDescriptor (Tc 11 k).2.2.1 = some (yc 11 k) := by decide +kernel
theorem shX11 : (sh 11).length = Nc 11 ∧ ∀ k, k < Nc 11 → ((sh 11)[k]? = some true ∧ defaultValue (yc 11 k) = .null ∨ (sh 11)[k]? = some false ∧ defaultValue (yc 11 k) = .int 0) := by decide +kernel
theorem inaX12 : ∀ w ∈ u_ws (Cc 12) (Tc 12) (Nc 12), w ∈ lw_tbl := by decide +kernel
theorem inX12 : ∀ w ∈ u_ws (Cc 12) (Tc 12) (Nc 12), w ∈ gtb := fun w h => List.mem_filter.mpr ⟨inaX12 w h, (by decide +kernel : ∀ w ∈ u_ws (Cc 12) (Tc 12) (Nc 12), goodWord w = true) w h⟩
theorem nmX12 : ∀ a, a < Nc 12 → ∀ b, b < Nc 12 → a ≠ b → (Tc 12 a).2.1 ≠ (Tc 12 b).2.1 := by decide +kernel
theorem okX12 : ∀ k, k < Nc 12 → parseFieldDescriptor (Tc 12 k).2.2.1 = some (yc 12 k) := by decide +kernel
theorem shX12 : (sh 12).length = Nc 12 ∧ ∀ k, k < Nc 12 → ((sh 12)[k]? = some true ∧ defaultValue (yc 12 k) = .null ∨ (sh 12)[k]? = some false ∧ defaultValue (yc 12 k) = .int 0) := by decide +kernel
abbrev Meth : Type := MethodName × ByteArray × Nat × Option FieldType
def ClOk (c : Nat) : Prop := classes[c]? = some (Cc c, Tc c, Nc c) ∧ (∀ w ∈ u_ws (Cc c) (Tc c) (Nc c), w ∈ gtb) ∧ (∀ a, a < Nc c → ∀ b, b < Nc c → a ≠ b → (Tc c a).2.1 ≠ (Tc c b).2.1) ∧ (∀ k, k < Nc c → parseFieldDescriptor (Tc c k).2.2.1 = some (yc c k)) ∧ (sh c).length = Nc c ∧ ∀ k, k < Nc c → ((sh c)[k]? = some true ∧ defaultValue (yc c k) = .null ∨ (sh c)[k]? = some false ∧ defaultValue (yc c k) = .int 0)
theorem clX0 : ClOk 0 := ⟨rfl, inX0, nmX0, okX0, shX0⟩
theorem clX1 : ClOk 1 := ⟨rfl, inX1, nmX1, okX1, shX1⟩
theorem clX2 : ClOk 2 := ⟨rfl, inX2, nmX2, okX2, shX2⟩
theorem clX3 : ClOk 3 := ⟨rfl, inX3, nmX3, okX3, shX3⟩
theorem clX4 : ClOk 4 := ⟨rfl, inX4, nmX4, okX4, shX4⟩
theorem clX5 : ClOk 5 := ⟨rfl, inX5, nmX5, okX5, shX5⟩
theorem clX6 : ClOk 6 := ⟨rfl, inX6, nmX6, okX6, shX6⟩
theorem clX7 : ClOk 7 := ⟨rfl, inX7, nmX7, okX7, shX7⟩
theorem clX8 : ClOk 8 := ⟨rfl, inX8, nmX8, okX8, shX8⟩
theorem clX9 : ClOk 9 := ⟨rfl, inX9, nmX9, okX9, shX9⟩
theorem clX10 : ClOk 10 := ⟨rfl, inX10, nmX10, okX10, shX10⟩
theorem clX11 : ClOk 11 := ⟨rfl, inX11, nmX11, okX11, shX11⟩
theorem clX12 : ClOk 12 := ⟨rfl, inX12, nmX12, okX12, shX12⟩
theorem cl_ok : ∀ c, c < 13 → ClOk c
  | 0, _ => clX0
  | 1, _ => clX1
  | 2, _ => clX2
  | 3, _ => clX3
  | 4, _ => clX4
  | 5, _ => clX5
  | 6, _ => clX6
  | 7, _ => clX7
  | 8, _ => clX8
  | 9, _ => clX9
  | 10, _ => clX10
  | 11, _ => clX11
  | 12, _ => clX12
  | c + 13, h => absurd h (by omega)
theorem good_in {ws : List Cond} (h : ∀ w ∈ ws, w ∈ gtb) : GoodIn gtb ws := fun w hw => ⟨h w hw, good_of_word (List.mem_filter.mp (h w hw)).2⟩
-- the forms of decode facts, of field words, of method words
abbrev D1 (cc : ByteArray) (pc : Nat) (i : Instr) (pc' : Nat) : Prop := decode cc pc = .ok (i, 1) ∧ pc + 1 = pc'
abbrev D2 (cc : ByteArray) (pc : Nat) (i : Instr) (pc' : Nat) : Prop := decode cc pc = .ok (i, 2) ∧ pc + 2 = pc'
abbrev D3 (cc : ByteArray) (pc : Nat) (i : Instr) (pc' : Nat) : Prop := decode cc pc = .ok (i, 3) ∧ pc + 3 = pc'
abbrev Dj (cc : ByteArray) (pc : Nat) (i : Instr) (off : Int) (pc' tgt : Nat) : Prop := decode cc pc = .ok (i, 3) ∧ pc + 3 = pc' ∧ (pc : Int) + off = (tgt : Int)
def Dconst (cc : ByteArray) (pc : Nat) (v : Int32) (pc' : Nat) : Prop := (∃ q : Int, decode cc pc = .ok (.iconst q, 1) ∧ Int32.ofInt q = v ∧ pc + 1 = pc') ∨ (∃ q : Int, decode cc pc = .ok (.bipush q, 2) ∧ (Int8.ofInt q).toInt32 = v ∧ pc + 2 = pc') ∨ (∃ q : Int, decode cc pc = .ok (.sipush q, 3) ∧ (Int16.ofInt q).toInt32 = v ∧ pc + 3 = pc')
def Diload (cc : ByteArray) (pc i pc' : Nat) : Prop := (∃ q : Fin 4, decode cc pc = .ok (.iload_n q, 1) ∧ (q : Nat) = i ∧ pc + 1 = pc') ∨ (decode cc pc = .ok (.iload i, 2) ∧ pc + 2 = pc')
def Daload (cc : ByteArray) (pc i pc' : Nat) : Prop := (∃ q : Fin 4, decode cc pc = .ok (.aload_n q, 1) ∧ (q : Nat) = i ∧ pc + 1 = pc') ∨ (decode cc pc = .ok (.aload i, 2) ∧ pc + 2 = pc')
def Dlload (cc : ByteArray) (pc i pc' : Nat) : Prop := (∃ q : Fin 4, decode cc pc = .ok (.lload_n q, 1) ∧ (q : Nat) = i ∧ pc + 1 = pc') ∨ (decode cc pc = .ok (.lload i, 2) ∧ pc + 2 = pc')
def Distore (cc : ByteArray) (pc i pc' : Nat) : Prop := (∃ q : Fin 4, decode cc pc = .ok (.istore_n q, 1) ∧ (q : Nat) = i ∧ pc + 1 = pc') ∨ (decode cc pc = .ok (.istore i, 2) ∧ pc + 2 = pc')
def Dastore (cc : ByteArray) (pc i pc' : Nat) : Prop := (∃ q : Fin 4, decode cc pc = .ok (.astore_n q, 1) ∧ (q : Nat) = i ∧ pc + 1 = pc') ∨ (decode cc pc = .ok (.astore i, 2) ∧ pc + 2 = pc')
def Diinc (cc : ByteArray) (pc i : Nat) (v : Int32) (pc' : Nat) : Prop := ∃ q : Int, decode cc pc = .ok (.iinc i q, 3) ∧ Int32.ofInt q = v ∧ pc + 3 = pc'
def FkI (own : String) (idx c k f T : Nat) : Prop := c < 13 ∧ k < Nc c ∧ c + 1 = T ∧ 100 * c + k = f ∧ Cond.fieldLink own idx (Tc c k).1 (Tc c k).2.1 (Tc c k).2.2.1 ∈ gtb ∧ (sh c)[k]? = some false
def FkR (own : String) (idx c k f T : Nat) : Prop := c < 13 ∧ k < Nc c ∧ c + 1 = T ∧ 100 * c + k = f ∧ Cond.fieldLink own idx (Tc c k).1 (Tc c k).2.1 (Tc c k).2.2.1 ∈ gtb ∧ (sh c)[k]? = some true
/-- a method that is called on an object: its words, how many parameters -/
def MV (ν : Meth) (na : Nat) : Prop := Cond.instanceMethod ν.1 ∈ gtb ∧ Cond.selects ν.1.cls ν.1 ν.1 ∈ gtb ∧ Cond.initialized ν.1.cls ∈ gtb ∧ Cond.code ν.1 ν.2.1 ν.2.2.1 ν.2.2.2 ∈ gtb ∧ ν.1.cls ≠ "java/lang/invoke/MethodHandle" ∧ ν.1.cls ≠ "java/lang/invoke/VarHandle" ∧ (parseMethodDescriptor ν.1.desc).map (fun d => d.parameters.length) = some na
def MS (ν : Meth) (na : Nat) : Prop := Cond.static ν.1 ∈ gtb ∧ Cond.initialized ν.1.cls ∈ gtb ∧ Cond.code ν.1 ν.2.1 ν.2.2.1 ν.2.2.2 ∈ gtb ∧ ν.1.cls ≠ "java/lang/invoke/MethodHandle" ∧ ν.1.cls ≠ "java/lang/invoke/VarHandle" ∧ (parseMethodDescriptor ν.1.desc).map (fun d => d.parameters.length) = some na
def MC (ν : Meth) (na : Nat) : Prop := Cond.instanceMethod ν.1 ∈ gtb ∧ Cond.initialized ν.1.cls ∈ gtb ∧ Cond.code ν.1 ν.2.1 ν.2.2.1 ν.2.2.2 ∈ gtb ∧ (ν.1.name = "<init>" ∧ ν.2.2.2 = none) ∧ ν.1.cls ≠ "java/lang/invoke/MethodHandle" ∧ ν.1.cls ≠ "java/lang/invoke/VarHandle" ∧ (parseMethodDescriptor ν.1.desc).map (fun d => d.parameters.length) = some na

