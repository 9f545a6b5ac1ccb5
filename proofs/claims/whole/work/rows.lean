section
-- ===== PART A: goes FIRST, ahead of the names: the tables' words, and 'selects' of the private methods out of them =====
/-- a private method of a class that the tables say can be made, by its rows of tables_1 -/
def lw_okq (q : MethodName × Nat) : Prop := (q.1.cls ≠ "java/lang/invoke/MethodHandle" ∧ q.1.cls ≠ "java/lang/invoke/VarHandle") ∧ Cond.instantiable q.1.cls q.2 ∈ tables_1 ∧ Cond.privateMethod q.1 ∈ tables_1 ∧ Cond.instanceMethod q.1 ∈ tables_1
theorem lw_p0 : lw_okq (⟨"FleetStores", "placeOf", "(I)LFleetStores$Place;"⟩, 16) := ⟨⟨by decide +kernel, by decide +kernel⟩, List.mem_of_getElem? (i := 16) (by decide +kernel), List.mem_of_getElem? (i := 267) (by decide +kernel), List.mem_of_getElem? (i := 268) (by decide +kernel)⟩
theorem lw_p1 : lw_okq (⟨"FleetStores", "kindOf", "(I)LFleetStores$Kind;"⟩, 16) := ⟨⟨by decide +kernel, by decide +kernel⟩, List.mem_of_getElem? (i := 16) (by decide +kernel), List.mem_of_getElem? (i := 278) (by decide +kernel), List.mem_of_getElem? (i := 279) (by decide +kernel)⟩
theorem lw_p2 : lw_okq (⟨"FleetStores", "storeOf", "(II)LFleetStores$Store;"⟩, 16) := ⟨⟨by decide +kernel, by decide +kernel⟩, List.mem_of_getElem? (i := 16) (by decide +kernel), List.mem_of_getElem? (i := 298) (by decide +kernel), List.mem_of_getElem? (i := 299) (by decide +kernel)⟩
theorem lw_p3 : lw_okq (⟨"FleetStores$Lots", "putInChain", "(LFleetStores$Lot;)V"⟩, 3) := ⟨⟨by decide +kernel, by decide +kernel⟩, List.mem_of_getElem? (i := 126) (by decide +kernel), List.mem_of_getElem? (i := 376) (by decide +kernel), List.mem_of_getElem? (i := 377) (by decide +kernel)⟩
theorem lw_p4 : lw_okq (⟨"FleetStores", "bringIn", "()V"⟩, 16) := ⟨⟨by decide +kernel, by decide +kernel⟩, List.mem_of_getElem? (i := 16) (by decide +kernel), List.mem_of_getElem? (i := 397) (by decide +kernel), List.mem_of_getElem? (i := 398) (by decide +kernel)⟩
theorem lw_p5 : lw_okq (⟨"FleetStores", "condemnSpoilt", "()V"⟩, 16) := ⟨⟨by decide +kernel, by decide +kernel⟩, List.mem_of_getElem? (i := 16) (by decide +kernel), List.mem_of_getElem? (i := 405) (by decide +kernel), List.mem_of_getElem? (i := 406) (by decide +kernel)⟩
theorem lw_p6 : lw_okq (⟨"FleetStores", "eat", "()V"⟩, 16) := ⟨⟨by decide +kernel, by decide +kernel⟩, List.mem_of_getElem? (i := 16) (by decide +kernel), List.mem_of_getElem? (i := 419) (by decide +kernel), List.mem_of_getElem? (i := 420) (by decide +kernel)⟩
theorem lw_p7 : lw_okq (⟨"FleetStores", "writeStocks", "()V"⟩, 16) := ⟨⟨by decide +kernel, by decide +kernel⟩, List.mem_of_getElem? (i := 16) (by decide +kernel), List.mem_of_getElem? (i := 437) (by decide +kernel), List.mem_of_getElem? (i := 438) (by decide +kernel)⟩
theorem lw_p8 : lw_okq (⟨"FleetStores", "stockAsBegan", "(LFleetStores$Store;I)I"⟩, 16) := ⟨⟨by decide +kernel, by decide +kernel⟩, List.mem_of_getElem? (i := 16) (by decide +kernel), List.mem_of_getElem? (i := 470) (by decide +kernel), List.mem_of_getElem? (i := 471) (by decide +kernel)⟩
theorem lw_p9 : lw_okq (⟨"FleetStores", "beginTrial", "(I)V"⟩, 16) := ⟨⟨by decide +kernel, by decide +kernel⟩, List.mem_of_getElem? (i := 16) (by decide +kernel), List.mem_of_getElem? (i := 478) (by decide +kernel), List.mem_of_getElem? (i := 479) (by decide +kernel)⟩
theorem lw_p10 : lw_okq (⟨"FleetStores", "isShortInTrial", "(II)Z"⟩, 16) := ⟨⟨by decide +kernel, by decide +kernel⟩, List.mem_of_getElem? (i := 16) (by decide +kernel), List.mem_of_getElem? (i := 482) (by decide +kernel), List.mem_of_getElem? (i := 483) (by decide +kernel)⟩
theorem lw_p11 : lw_okq (⟨"FleetStores$Reader", "skipBlanks", "()V"⟩, 2) := ⟨⟨by decide +kernel, by decide +kernel⟩, List.mem_of_getElem? (i := 161) (by decide +kernel), List.mem_of_getElem? (i := 520) (by decide +kernel), List.mem_of_getElem? (i := 521) (by decide +kernel)⟩
theorem lw_p12 : lw_okq (⟨"FleetStores$Reader", "here", "()I"⟩, 2) := ⟨⟨by decide +kernel, by decide +kernel⟩, List.mem_of_getElem? (i := 161) (by decide +kernel), List.mem_of_getElem? (i := 524) (by decide +kernel), List.mem_of_getElem? (i := 525) (by decide +kernel)⟩
theorem lw_p13 : lw_okq (⟨"FleetStores$Reader", "readClause", "(LFleetStores$Contract;)Z"⟩, 2) := ⟨⟨by decide +kernel, by decide +kernel⟩, List.mem_of_getElem? (i := 161) (by decide +kernel), List.mem_of_getElem? (i := 533) (by decide +kernel), List.mem_of_getElem? (i := 534) (by decide +kernel)⟩
theorem lw_p14 : lw_okq (⟨"FleetStores$Reader", "pass", "(I)Z"⟩, 2) := ⟨⟨by decide +kernel, by decide +kernel⟩, List.mem_of_getElem? (i := 161) (by decide +kernel), List.mem_of_getElem? (i := 537) (by decide +kernel), List.mem_of_getElem? (i := 538) (by decide +kernel)⟩
theorem lw_p15 : lw_okq (⟨"FleetStores$Reader", "readDigits", "()I"⟩, 2) := ⟨⟨by decide +kernel, by decide +kernel⟩, List.mem_of_getElem? (i := 161) (by decide +kernel), List.mem_of_getElem? (i := 541) (by decide +kernel), List.mem_of_getElem? (i := 542) (by decide +kernel)⟩
def lw_privs_1 : List (MethodName × Nat) := [(⟨"FleetStores", "placeOf", "(I)LFleetStores$Place;"⟩, 16), (⟨"FleetStores", "kindOf", "(I)LFleetStores$Kind;"⟩, 16), (⟨"FleetStores", "storeOf", "(II)LFleetStores$Store;"⟩, 16), (⟨"FleetStores$Lots", "putInChain", "(LFleetStores$Lot;)V"⟩, 3), (⟨"FleetStores", "bringIn", "()V"⟩, 16), (⟨"FleetStores", "condemnSpoilt", "()V"⟩, 16), (⟨"FleetStores", "eat", "()V"⟩, 16), (⟨"FleetStores", "writeStocks", "()V"⟩, 16), (⟨"FleetStores", "stockAsBegan", "(LFleetStores$Store;I)I"⟩, 16), (⟨"FleetStores", "beginTrial", "(I)V"⟩, 16), (⟨"FleetStores", "isShortInTrial", "(II)Z"⟩, 16), (⟨"FleetStores$Reader", "skipBlanks", "()V"⟩, 2), (⟨"FleetStores$Reader", "here", "()I"⟩, 2), (⟨"FleetStores$Reader", "readClause", "(LFleetStores$Contract;)Z"⟩, 2), (⟨"FleetStores$Reader", "pass", "(I)Z"⟩, 2), (⟨"FleetStores$Reader", "readDigits", "()I"⟩, 2)]
theorem lw_r1 : ∀ q ∈ lw_privs_1, lw_okq q := List.forall_mem_cons.mpr ⟨lw_p0, List.forall_mem_cons.mpr ⟨lw_p1, List.forall_mem_cons.mpr ⟨lw_p2, List.forall_mem_cons.mpr ⟨lw_p3, List.forall_mem_cons.mpr ⟨lw_p4, List.forall_mem_cons.mpr ⟨lw_p5, List.forall_mem_cons.mpr ⟨lw_p6, List.forall_mem_cons.mpr ⟨lw_p7, List.forall_mem_cons.mpr ⟨lw_p8, List.forall_mem_cons.mpr ⟨lw_p9, List.forall_mem_cons.mpr ⟨lw_p10, List.forall_mem_cons.mpr ⟨lw_p11, List.forall_mem_cons.mpr ⟨lw_p12, List.forall_mem_cons.mpr ⟨lw_p13, List.forall_mem_cons.mpr ⟨lw_p14, List.forall_mem_cons.mpr ⟨lw_p15, fun _ h => absurd h List.not_mem_nil⟩⟩⟩⟩⟩⟩⟩⟩⟩⟩⟩⟩⟩⟩⟩⟩
theorem lw_p16 : lw_okq (⟨"FleetStores$Line", "numberIn", "(I)I"⟩, 3) := ⟨⟨by decide +kernel, by decide +kernel⟩, List.mem_of_getElem? (i := 198) (by decide +kernel), List.mem_of_getElem? (i := 565) (by decide +kernel), List.mem_of_getElem? (i := 566) (by decide +kernel)⟩
theorem lw_p17 : lw_okq (⟨"FleetStores$Line", "put", "(II)V"⟩, 3) := ⟨⟨by decide +kernel, by decide +kernel⟩, List.mem_of_getElem? (i := 198) (by decide +kernel), List.mem_of_getElem? (i := 569) (by decide +kernel), List.mem_of_getElem? (i := 570) (by decide +kernel)⟩
theorem lw_p18 : lw_okq (⟨"FleetStoresModel", "addLot", "(IIIIIIII)I"⟩, 43) := ⟨⟨by decide +kernel, by decide +kernel⟩, List.mem_of_getElem? (i := 644) (by decide +kernel), List.mem_of_getElem? (i := 814) (by decide +kernel), List.mem_of_getElem? (i := 815) (by decide +kernel)⟩
theorem lw_p19 : lw_okq (⟨"FleetStoresModel", "isLot", "(I)Z"⟩, 43) := ⟨⟨by decide +kernel, by decide +kernel⟩, List.mem_of_getElem? (i := 644) (by decide +kernel), List.mem_of_getElem? (i := 822) (by decide +kernel), List.mem_of_getElem? (i := 823) (by decide +kernel)⟩
theorem lw_p20 : lw_okq (⟨"FleetStoresModel", "part", "(IIIZ)I"⟩, 43) := ⟨⟨by decide +kernel, by decide +kernel⟩, List.mem_of_getElem? (i := 644) (by decide +kernel), List.mem_of_getElem? (i := 830) (by decide +kernel), List.mem_of_getElem? (i := 831) (by decide +kernel)⟩
theorem lw_p21 : lw_okq (⟨"FleetStoresModel", "eat", "(II)V"⟩, 43) := ⟨⟨by decide +kernel, by decide +kernel⟩, List.mem_of_getElem? (i := 644) (by decide +kernel), List.mem_of_getElem? (i := 835) (by decide +kernel), List.mem_of_getElem? (i := 836) (by decide +kernel)⟩
theorem lw_p22 : lw_okq (⟨"FleetStoresModel", "oldest", "(II[I[I)I"⟩, 43) := ⟨⟨by decide +kernel, by decide +kernel⟩, List.mem_of_getElem? (i := 644) (by decide +kernel), List.mem_of_getElem? (i := 839) (by decide +kernel), List.mem_of_getElem? (i := 840) (by decide +kernel)⟩
theorem lw_p23 : lw_okq (⟨"FleetStoresModel", "stockOf", "(II)I"⟩, 43) := ⟨⟨by decide +kernel, by decide +kernel⟩, List.mem_of_getElem? (i := 644) (by decide +kernel), List.mem_of_getElem? (i := 843) (by decide +kernel), List.mem_of_getElem? (i := 844) (by decide +kernel)⟩
theorem lw_p24 : lw_okq (⟨"FleetStoresModel", "lastsWeek", "(II)Z"⟩, 43) := ⟨⟨by decide +kernel, by decide +kernel⟩, List.mem_of_getElem? (i := 644) (by decide +kernel), List.mem_of_getElem? (i := 851) (by decide +kernel), List.mem_of_getElem? (i := 852) (by decide +kernel)⟩
theorem lw_p25 : lw_okq (⟨"FleetStoresModel", "look", "()I"⟩, 43) := ⟨⟨by decide +kernel, by decide +kernel⟩, List.mem_of_getElem? (i := 644) (by decide +kernel), List.mem_of_getElem? (i := 894) (by decide +kernel), List.mem_of_getElem? (i := 895) (by decide +kernel)⟩
theorem lw_p26 : lw_okq (⟨"FleetStoresModel", "clause", "()Z"⟩, 43) := ⟨⟨by decide +kernel, by decide +kernel⟩, List.mem_of_getElem? (i := 644) (by decide +kernel), List.mem_of_getElem? (i := 898) (by decide +kernel), List.mem_of_getElem? (i := 899) (by decide +kernel)⟩
theorem lw_p27 : lw_okq (⟨"FleetStoresModel", "number", "()I"⟩, 43) := ⟨⟨by decide +kernel, by decide +kernel⟩, List.mem_of_getElem? (i := 644) (by decide +kernel), List.mem_of_getElem? (i := 902) (by decide +kernel), List.mem_of_getElem? (i := 903) (by decide +kernel)⟩
def lw_privs_2 : List (MethodName × Nat) := [(⟨"FleetStores$Line", "numberIn", "(I)I"⟩, 3), (⟨"FleetStores$Line", "put", "(II)V"⟩, 3), (⟨"FleetStoresModel", "addLot", "(IIIIIIII)I"⟩, 43), (⟨"FleetStoresModel", "isLot", "(I)Z"⟩, 43), (⟨"FleetStoresModel", "part", "(IIIZ)I"⟩, 43), (⟨"FleetStoresModel", "eat", "(II)V"⟩, 43), (⟨"FleetStoresModel", "oldest", "(II[I[I)I"⟩, 43), (⟨"FleetStoresModel", "stockOf", "(II)I"⟩, 43), (⟨"FleetStoresModel", "lastsWeek", "(II)Z"⟩, 43), (⟨"FleetStoresModel", "look", "()I"⟩, 43), (⟨"FleetStoresModel", "clause", "()Z"⟩, 43), (⟨"FleetStoresModel", "number", "()I"⟩, 43)]
theorem lw_r2 : ∀ q ∈ lw_privs_2, lw_okq q := List.forall_mem_cons.mpr ⟨lw_p16, List.forall_mem_cons.mpr ⟨lw_p17, List.forall_mem_cons.mpr ⟨lw_p18, List.forall_mem_cons.mpr ⟨lw_p19, List.forall_mem_cons.mpr ⟨lw_p20, List.forall_mem_cons.mpr ⟨lw_p21, List.forall_mem_cons.mpr ⟨lw_p22, List.forall_mem_cons.mpr ⟨lw_p23, List.forall_mem_cons.mpr ⟨lw_p24, List.forall_mem_cons.mpr ⟨lw_p25, List.forall_mem_cons.mpr ⟨lw_p26, List.forall_mem_cons.mpr ⟨lw_p27, fun _ h => absurd h List.not_mem_nil⟩⟩⟩⟩⟩⟩⟩⟩⟩⟩⟩⟩
def lw_privs : List (MethodName × Nat) := lw_privs_1 ++ (lw_privs_2)
def lw_tbl : List Cond := k2_sels lw_privs ++ tables_1
theorem lw_privs_ok : ∀ q ∈ lw_privs, lw_okq q := by
  show ∀ q ∈ lw_privs_1 ++ (lw_privs_2), lw_okq q
  exact List.forall_mem_append.mpr ⟨lw_r1, lw_r2⟩

/-- the words that a callee may be given -/
def gtb : List Cond := lw_tbl.filter goodWord
theorem in_tb {w : Cond} (i : Nat) (h : tables_1[i]? = some w) (g : goodWord w = true) : w ∈ gtb := List.mem_filter.mpr ⟨List.mem_append_right _ (List.mem_of_getElem? h), g⟩
theorem in_sel {w : Cond} (i : Nat) (h : (k2_sels lw_privs)[i]? = some w) (g : goodWord w = true) : w ∈ gtb := List.mem_filter.mpr ⟨List.mem_append_left _ (List.mem_of_getElem? h), g⟩
def tX0 : u_T := fun k => match k with
  | 0 => ("FleetStores$Contract", "letters", "[I", true)
  | 1 => ("FleetStores$Contract", "signs", "[I", true)
  | 2 => ("FleetStores$Contract", "numbers", "[I", true)
  | 3 => ("FleetStores$Contract", "amounts", "[I", true)
  | _ => ("FleetStores$Contract", "many", "I", false)
def tX1 : u_T := fun k => match k with
  | 0 => ("FleetStores$Kind", "number", "I", true)
  | 1 => ("FleetStores$Kind", "parts", "[I", true)
  | _ => ("FleetStores$Kind", "rations", "I", false)
def tX2 : u_T := fun k => match k with
  | 0 => ("FleetStores$Line", "places", "[I", true)
  | 1 => ("FleetStores$Line", "numbers", "[I", true)
  | _ => ("FleetStores$Line", "changed", "I", false)
def tX3 : u_T := fun k => match k with
  | 0 => ("FleetStores$Lot", "store", "LFleetStores$Store;", true)
  | 1 => ("FleetStores$Lot", "maker", "I", true)
  | 2 => ("FleetStores$Lot", "made", "I", true)
  | 3 => ("FleetStores$Lot", "grade", "I", true)
  | 4 => ("FleetStores$Lot", "mark", "I", true)
  | 5 => ("FleetStores$Lot", "casksAtFirst", "I", true)
  | 6 => ("FleetStores$Lot", "casks", "I", false)
  | 7 => ("FleetStores$Lot", "coming", "I", false)
  | 8 => ("FleetStores$Lot", "price", "I", false)
  | 9 => ("FleetStores$Lot", "isDrawn", "Z", false)
  | 10 => ("FleetStores$Lot", "owing", "I", false)
  | 11 => ("FleetStores$Lot", "lost", "I", false)
  | 12 => ("FleetStores$Lot", "trialCasks", "I", false)
  | _ => ("FleetStores$Lot", "next", "LFleetStores$Lot;", false)
def tX4 : u_T := fun k => match k with
  | 0 => ("FleetStores$Lots", "byNumber", "[LFleetStores$Lot;", true)
  | 1 => ("FleetStores$Lots", "many", "I", false)
  | _ => ("FleetStores$Lots", "oldest", "LFleetStores$Lot;", false)
def tX5 : u_T := fun k => match k with
  | 0 => ("FleetStores$Place", "number", "I", true)
  | 1 => ("FleetStores$Place", "men", "I", false)
  | _ => ("FleetStores$Place", "lag", "I", false)
def tX6 : u_T := fun k => match k with
  | 0 => ("FleetStores$Reader", "tape", "LFleetStores$Tape;", true)
  | _ => ("FleetStores$Reader", "at", "I", false)
def tX7 : u_T := fun k => match k with
  | 0 => ("FleetStores$Store", "number", "I", true)
  | 1 => ("FleetStores$Store", "place", "LFleetStores$Place;", true)
  | 2 => ("FleetStores$Store", "kind", "LFleetStores$Kind;", true)
  | 3 => ("FleetStores$Store", "table", "LFleetStores$Table;", true)
  | 4 => ("FleetStores$Store", "trialTable", "LFleetStores$Table;", true)
  | 5 => ("FleetStores$Store", "opened", "I", false)
  | 6 => ("FleetStores$Store", "lacked", "I", false)
  | _ => ("FleetStores$Store", "surveys", "LFleetStores$Survey;", false)
def tX8 : u_T := fun k => match k with
  | 0 => ("FleetStores$Survey", "week", "I", true)
  | 1 => ("FleetStores$Survey", "next", "LFleetStores$Survey;", true)
  | _ => ("FleetStores$Survey", "difference", "I", false)
def tX9 : u_T := fun k => match k with
  | 0 => ("FleetStores$Table", "left", "I", false)
  | _ => ("FleetStores$Table", "wanting", "I", false)
def tX10 : u_T := fun k => match k with
  | 0 => ("FleetStores$Tape", "bytes", "[I", true)
  | _ => ("FleetStores$Tape", "length", "I", false)
def tX11 : u_T := fun k => match k with
  | 0 => ("FleetStores", "places", "[LFleetStores$Place;", true)
  | 1 => ("FleetStores", "kinds", "[LFleetStores$Kind;", true)
  | 2 => ("FleetStores", "stores", "[LFleetStores$Store;", true)
  | 3 => ("FleetStores", "stocksAsBegan", "[[I", true)
  | 4 => ("FleetStores", "ways", "[[I", true)
  | 5 => ("FleetStores", "lots", "LFleetStores$Lots;", true)
  | 6 => ("FleetStores", "tape", "LFleetStores$Tape;", true)
  | 7 => ("FleetStores", "reader", "LFleetStores$Reader;", true)
  | 8 => ("FleetStores", "contracts", "[LFleetStores$Contract;", true)
  | 9 => ("FleetStores", "spareContract", "LFleetStores$Contract;", false)
  | 10 => ("FleetStores", "line", "LFleetStores$Line;", true)
  | 11 => ("FleetStores", "now", "I", false)
  | 12 => ("FleetStores", "casksBought", "I", false)
  | 13 => ("FleetStores", "casksCondemned", "I", false)
  | 14 => ("FleetStores", "casksOpened", "I", false)
  | _ => ("FleetStores", "surveysTold", "I", false)
def tX12 : u_T := fun k => match k with
  | 0 => ("FleetStoresModel", "now", "I", false)
  | 1 => ("FleetStoresModel", "lots", "I", false)
  | 2 => ("FleetStoresModel", "bought", "I", false)
  | 3 => ("FleetStoresModel", "opened", "I", false)
  | 4 => ("FleetStoresModel", "surveys", "I", false)
  | 5 => ("FleetStoresModel", "men", "[I", true)
  | 6 => ("FleetStoresModel", "rations", "[I", true)
  | 7 => ("FleetStoresModel", "spoil", "[I", true)
  | 8 => ("FleetStoresModel", "ways", "[I", true)
  | 9 => ("FleetStoresModel", "lags", "[I", true)
  | 10 => ("FleetStoresModel", "maker", "[I", true)
  | 11 => ("FleetStoresModel", "kind", "[I", true)
  | 12 => ("FleetStoresModel", "made", "[I", true)
  | 13 => ("FleetStoresModel", "casks", "[I", true)
  | 14 => ("FleetStoresModel", "place", "[I", true)
  | 15 => ("FleetStoresModel", "comes", "[I", true)
  | 16 => ("FleetStoresModel", "grade", "[I", true)
  | 17 => ("FleetStoresModel", "mark", "[I", true)
  | 18 => ("FleetStoresModel", "first", "[I", true)
  | 19 => ("FleetStoresModel", "price", "[I", true)
  | 20 => ("FleetStoresModel", "bad", "[I", true)
  | 21 => ("FleetStoresModel", "due", "[I", true)
  | 22 => ("FleetStoresModel", "gone", "[I", true)
  | 23 => ("FleetStoresModel", "open", "[I", true)
  | 24 => ("FleetStoresModel", "lack", "[I", true)
  | 25 => ("FleetStoresModel", "openedAt", "[I", true)
  | 26 => ("FleetStoresModel", "book", "[I", true)
  | 27 => ("FleetStoresModel", "tryCasks", "[I", true)
  | 28 => ("FleetStoresModel", "tryComes", "[I", true)
  | 29 => ("FleetStoresModel", "tryOpen", "[I", true)
  | 30 => ("FleetStoresModel", "tape", "[I", true)
  | 31 => ("FleetStoresModel", "size", "I", false)
  | 32 => ("FleetStoresModel", "at", "I", false)
  | 33 => ("FleetStoresModel", "contractMany", "[I", true)
  | 34 => ("FleetStoresModel", "letters", "[I", true)
  | 35 => ("FleetStoresModel", "signs", "[I", true)
  | 36 => ("FleetStoresModel", "numbers", "[I", true)
  | 37 => ("FleetStoresModel", "amounts", "[I", true)
  | 38 => ("FleetStoresModel", "readMany", "I", false)
  | 39 => ("FleetStoresModel", "line", "[I", true)
  | 40 => ("FleetStoresModel", "surveyBook", "[I", true)
  | 41 => ("FleetStoresModel", "surveyWeek", "[I", true)
  | _ => ("FleetStoresModel", "surveyDiffers", "[I", true)
def yX0 : Nat → FieldType := fun k => match k with
  | 0 => .array (.int)
  | 1 => .array (.int)
  | 2 => .array (.int)
  | 3 => .array (.int)
  | _ => .int
def yX1 : Nat → FieldType := fun k => match k with
  | 0 => .int
  | 1 => .array (.int)
  | _ => .int
def yX2 : Nat → FieldType := fun k => match k with
  | 0 => .array (.int)
  | 1 => .array (.int)
  | _ => .int
def yX3 : Nat → FieldType := fun k => match k with
  | 0 => .object "FleetStores$Store"
  | 1 => .int
  | 2 => .int
  | 3 => .int
  | 4 => .int
  | 5 => .int
  | 6 => .int
  | 7 => .int
  | 8 => .int
  | 9 => .boolean
  | 10 => .int
  | 11 => .int
  | 12 => .int
  | _ => .object "FleetStores$Lot"
def yX4 : Nat → FieldType := fun k => match k with
  | 0 => .array (.object "FleetStores$Lot")
  | 1 => .int
  | _ => .object "FleetStores$Lot"
def yX5 : Nat → FieldType := fun k => match k with
  | 0 => .int
  | 1 => .int
  | _ => .int
def yX6 : Nat → FieldType := fun k => match k with
  | 0 => .object "FleetStores$Tape"
  | _ => .int
def yX7 : Nat → FieldType := fun k => match k with
  | 0 => .int
  | 1 => .object "FleetStores$Place"
  | 2 => .object "FleetStores$Kind"
  | 3 => .object "FleetStores$Table"
  | 4 => .object "FleetStores$Table"
  | 5 => .int
  | 6 => .int
  | _ => .object "FleetStores$Survey"
def yX8 : Nat → FieldType := fun k => match k with
  | 0 => .int
  | 1 => .object "FleetStores$Survey"
  | _ => .int
def yX9 : Nat → FieldType := fun k => match k with
  | 0 => .int
  | _ => .int
def yX10 : Nat → FieldType := fun k => match k with
  | 0 => .array (.int)
  | _ => .int
def yX11 : Nat → FieldType := fun k => match k with
  | 0 => .array (.object "FleetStores$Place")
  | 1 => .array (.object "FleetStores$Kind")
  | 2 => .array (.object "FleetStores$Store")
  | 3 => .array (.array (.int))
  | 4 => .array (.array (.int))
  | 5 => .object "FleetStores$Lots"
  | 6 => .object "FleetStores$Tape"
  | 7 => .object "FleetStores$Reader"
  | 8 => .array (.object "FleetStores$Contract")
  | 9 => .object "FleetStores$Contract"
  | 10 => .object "FleetStores$Line"
  | 11 => .int
  | 12 => .int
  | 13 => .int
  | 14 => .int
  | _ => .int
def yX12 : Nat → FieldType := fun k => match k with
  | 0 => .int
  | 1 => .int
  | 2 => .int
  | 3 => .int
  | 4 => .int
  | 5 => .array (.int)
  | 6 => .array (.int)
  | 7 => .array (.int)
  | 8 => .array (.int)
  | 9 => .array (.int)
  | 10 => .array (.int)
  | 11 => .array (.int)
  | 12 => .array (.int)
  | 13 => .array (.int)
  | 14 => .array (.int)
  | 15 => .array (.int)
  | 16 => .array (.int)
  | 17 => .array (.int)
  | 18 => .array (.int)
  | 19 => .array (.int)
  | 20 => .array (.int)
  | 21 => .array (.int)
  | 22 => .array (.int)
  | 23 => .array (.int)
  | 24 => .array (.int)
  | 25 => .array (.int)
  | 26 => .array (.int)
  | 27 => .array (.int)
  | 28 => .array (.int)
  | 29 => .array (.int)
  | 30 => .array (.int)
  | 31 => .int
  | 32 => .int
  | 33 => .array (.int)
  | 34 => .array (.int)
  | 35 => .array (.int)
  | 36 => .array (.int)
  | 37 => .array (.int)
  | 38 => .int
  | 39 => .array (.int)
  | 40 => .array (.int)
  | 41 => .array (.int)
  | _ => .array (.int)
def Cc : Nat → String := fun c => match c with
  | 0 => "FleetStores$Contract"
  | 1 => "FleetStores$Kind"
  | 2 => "FleetStores$Line"
  | 3 => "FleetStores$Lot"
  | 4 => "FleetStores$Lots"
  | 5 => "FleetStores$Place"
  | 6 => "FleetStores$Reader"
  | 7 => "FleetStores$Store"
  | 8 => "FleetStores$Survey"
  | 9 => "FleetStores$Table"
  | 10 => "FleetStores$Tape"
  | 11 => "FleetStores"
  | _ => "FleetStoresModel"
def Tc : Nat → u_T := fun c => match c with
  | 0 => tX0
  | 1 => tX1
  | 2 => tX2
  | 3 => tX3
  | 4 => tX4
  | 5 => tX5
  | 6 => tX6
  | 7 => tX7
  | 8 => tX8
  | 9 => tX9
  | 10 => tX10
  | 11 => tX11
  | _ => tX12
def yc : Nat → Nat → FieldType := fun c => match c with
  | 0 => yX0
  | 1 => yX1
  | 2 => yX2
  | 3 => yX3
  | 4 => yX4
  | 5 => yX5
  | 6 => yX6
  | 7 => yX7
  | 8 => yX8
  | 9 => yX9
  | 10 => yX10
  | 11 => yX11
  | _ => yX12
def Nc : Nat → Nat := fun c => match c with
  | 0 => 5
  | 1 => 3
  | 2 => 3
  | 3 => 14
  | 4 => 3
  | 5 => 3
  | 6 => 2
  | 7 => 8
  | 8 => 3
  | 9 => 2
  | 10 => 2
  | 11 => 16
  | _ => 43
def sh : Nat → List Bool := fun c => match c with
  | 0 => [true, true, true, true, false]
  | 1 => [false, true, false]
  | 2 => [true, true, false]
  | 3 => [true, false, false, false, false, false, false, false, false, false, false, false, false, true]
  | 4 => [true, false, true]
  | 5 => [false, false, false]
  | 6 => [true, false]
  | 7 => [false, true, true, true, true, false, false, true]
  | 8 => [false, true, false]
  | 9 => [false, false]
  | 10 => [true, false]
  | 11 => [true, true, true, true, true, true, true, true, true, true, true, false, false, false, false, false]
  | _ => [false, false, false, false, false, true, true, true, true, true, true, true, true, true, true, true, true, true, true, true, true, true, true, true, true, true, true, true, true, true, true, false, false, true, true, true, true, true, false, true, true, true, true]
def classes : List vw_C := [(Cc 0, Tc 0, Nc 0), (Cc 1, Tc 1, Nc 1), (Cc 2, Tc 2, Nc 2), (Cc 3, Tc 3, Nc 3), (Cc 4, Tc 4, Nc 4), (Cc 5, Tc 5, Nc 5), (Cc 6, Tc 6, Nc 6), (Cc 7, Tc 7, Nc 7), (Cc 8, Tc 8, Nc 8), (Cc 9, Tc 9, Nc 9), (Cc 10, Tc 10, Nc 10), (Cc 11, Tc 11, Nc 11), (Cc 12, Tc 12, Nc 12)]
theorem inaX0 : ∀ w ∈ u_ws (Cc 0) (Tc 0) (Nc 0), w ∈ lw_tbl := by decide +kernel
theorem inX0 : ∀ w ∈ u_ws (Cc 0) (Tc 0) (Nc 0), w ∈ gtb := fun w h => List.mem_filter.mpr ⟨inaX0 w h, (by decide +kernel : ∀ w ∈ u_ws (Cc 0) (Tc 0) (Nc 0), goodWord w = true) w h⟩
theorem nmX0 : ∀ a, a < Nc 0 → ∀ b, b < Nc 0 → a ≠ b → (Tc 0 a).2.1 ≠ (Tc 0 b).2.1 := by decide +kernel
theorem okX0 : ∀ k, k < Nc 0 → parseFieldDescriptor (Tc 0 k).2.2.1 = some (yc 0 k) := by decide +kernel
theorem shX0 : (sh 0).length = Nc 0 ∧ ∀ k, k < Nc 0 → ((sh 0)[k]? = some true ∧ defaultValue (yc 0 k) = .null ∨ (sh 0)[k]? = some false ∧ defaultValue (yc 0 k) = .int 0) := by decide +kernel
theorem inaX1 : ∀ w ∈ u_ws (Cc 1) (Tc 1) (Nc 1), w ∈ lw_tbl := by decide +kernel
theorem inX1 : ∀ w ∈ u_ws (Cc 1) (Tc 1) (Nc 1), w ∈ gtb := fun w h => List.mem_filter.mpr ⟨inaX1 w h, (by decide +kernel : ∀ w ∈ u_ws (Cc 1) (Tc 1) (Nc 1), goodWord w = true) w h⟩
theorem nmX1 : ∀ a, a < Nc 1 → ∀ b, b < Nc 1 → a ≠ b → (Tc 1 a).2.1 ≠ (Tc 1 b).2.1 := by decide +kernel
theorem okX1 : ∀ k, k < Nc 1 → parseFieldDescriptor (Tc 1 k).2.2.1 = some (yc 1 k) := by decide +kernel
theorem shX1 : (sh 1).length = Nc 1 ∧ ∀ k, k < Nc 1 → ((sh 1)[k]? = some true ∧ defaultValue (yc 1 k) = .null ∨ (sh 1)[k]? = some false ∧ defaultValue (yc 1 k) = .int 0) := by decide +kernel
theorem inaX2 : ∀ w ∈ u_ws (Cc 2) (Tc 2) (Nc 2), w ∈ lw_tbl := by decide +kernel
theorem inX2 : ∀ w ∈ u_ws (Cc 2) (Tc 2) (Nc 2), w ∈ gtb := fun w h => List.mem_filter.mpr ⟨inaX2 w h, (by decide +kernel : ∀ w ∈ u_ws (Cc 2) (Tc 2) (Nc 2), goodWord w = true) w h⟩
theorem nmX2 : ∀ a, a < Nc 2 → ∀ b, b < Nc 2 → a ≠ b → (Tc 2 a).2.1 ≠ (Tc 2 b).2.1 := by decide +kernel
theorem okX2 : ∀ k, k < Nc 2 → parseFieldDescriptor (Tc 2 k).2.2.1 = some (yc 2 k) := by decide +kernel
theorem shX2 : (sh 2).length = Nc 2 ∧ ∀ k, k < Nc 2 → ((sh 2)[k]? = some true ∧ defaultValue (yc 2 k) = .null ∨ (sh 2)[k]? = some false ∧ defaultValue (yc 2 k) = .int 0) := by decide +kernel
theorem inaX3 : ∀ w ∈ u_ws (Cc 3) (Tc 3) (Nc 3), w ∈ lw_tbl := by decide +kernel
theorem inX3 : ∀ w ∈ u_ws (Cc 3) (Tc 3) (Nc 3), w ∈ gtb := fun w h => List.mem_filter.mpr ⟨inaX3 w h, (by decide +kernel : ∀ w ∈ u_ws (Cc 3) (Tc 3) (Nc 3), goodWord w = true) w h⟩
theorem nmX3 : ∀ a, a < Nc 3 → ∀ b, b < Nc 3 → a ≠ b → (Tc 3 a).2.1 ≠ (Tc 3 b).2.1 := by decide +kernel
theorem okX3 : ∀ k, k < Nc 3 → parseFieldDescriptor (Tc 3 k).2.2.1 = some (yc 3 k) := by decide +kernel
theorem shX3 : (sh 3).length = Nc 3 ∧ ∀ k, k < Nc 3 → ((sh 3)[k]? = some true ∧ defaultValue (yc 3 k) = .null ∨ (sh 3)[k]? = some false ∧ defaultValue (yc 3 k) = .int 0) := by decide +kernel
theorem inaX4 : ∀ w ∈ u_ws (Cc 4) (Tc 4) (Nc 4), w ∈ lw_tbl := by decide +kernel
theorem inX4 : ∀ w ∈ u_ws (Cc 4) (Tc 4) (Nc 4), w ∈ gtb := fun w h => List.mem_filter.mpr ⟨inaX4 w h, (by decide +kernel : ∀ w ∈ u_ws (Cc 4) (Tc 4) (Nc 4), goodWord w = true) w h⟩
theorem nmX4 : ∀ a, a < Nc 4 → ∀ b, b < Nc 4 → a ≠ b → (Tc 4 a).2.1 ≠ (Tc 4 b).2.1 := by decide +kernel
theorem okX4 : ∀ k, k < Nc 4 → parseFieldDescriptor (Tc 4 k).2.2.1 = some (yc 4 k) := by decide +kernel
theorem shX4 : (sh 4).length = Nc 4 ∧ ∀ k, k < Nc 4 → ((sh 4)[k]? = some true ∧ defaultValue (yc 4 k) = .null ∨ (sh 4)[k]? = some false ∧ defaultValue (yc 4 k) = .int 0) := by decide +kernel
theorem inaX5 : ∀ w ∈ u_ws (Cc 5) (Tc 5) (Nc 5), w ∈ lw_tbl := by decide +kernel
theorem inX5 : ∀ w ∈ u_ws (Cc 5) (Tc 5) (Nc 5), w ∈ gtb := fun w h => List.mem_filter.mpr ⟨inaX5 w h, (by decide +kernel : ∀ w ∈ u_ws (Cc 5) (Tc 5) (Nc 5), goodWord w = true) w h⟩
theorem nmX5 : ∀ a, a < Nc 5 → ∀ b, b < Nc 5 → a ≠ b → (Tc 5 a).2.1 ≠ (Tc 5 b).2.1 := by decide +kernel
theorem okX5 : ∀ k, k < Nc 5 → parseFieldDescriptor (Tc 5 k).2.2.1 = some (yc 5 k) := by decide +kernel
theorem shX5 : (sh 5).length = Nc 5 ∧ ∀ k, k < Nc 5 → ((sh 5)[k]? = some true ∧ defaultValue (yc 5 k) = .null ∨ (sh 5)[k]? = some false ∧ defaultValue (yc 5 k) = .int 0) := by decide +kernel
theorem inaX6 : ∀ w ∈ u_ws (Cc 6) (Tc 6) (Nc 6), w ∈ lw_tbl := by decide +kernel
theorem inX6 : ∀ w ∈ u_ws (Cc 6) (Tc 6) (Nc 6), w ∈ gtb := fun w h => List.mem_filter.mpr ⟨inaX6 w h, (by decide +kernel : ∀ w ∈ u_ws (Cc 6) (Tc 6) (Nc 6), goodWord w = true) w h⟩
theorem nmX6 : ∀ a, a < Nc 6 → ∀ b, b < Nc 6 → a ≠ b → (Tc 6 a).2.1 ≠ (Tc 6 b).2.1 := by decide +kernel
theorem okX6 : ∀ k, k < Nc 6 → parseFieldDescriptor (Tc 6 k).2.2.1 = some (yc 6 k) := by decide +kernel
theorem shX6 : (sh 6).length = Nc 6 ∧ ∀ k, k < Nc 6 → ((sh 6)[k]? = some true ∧ defaultValue (yc 6 k) = .null ∨ (sh 6)[k]? = some false ∧ defaultValue (yc 6 k) = .int 0) := by decide +kernel
theorem inaX7 : ∀ w ∈ u_ws (Cc 7) (Tc 7) (Nc 7), w ∈ lw_tbl := by decide +kernel
theorem inX7 : ∀ w ∈ u_ws (Cc 7) (Tc 7) (Nc 7), w ∈ gtb := fun w h => List.mem_filter.mpr ⟨inaX7 w h, (by decide +kernel : ∀ w ∈ u_ws (Cc 7) (Tc 7) (Nc 7), goodWord w = true) w h⟩
theorem nmX7 : ∀ a, a < Nc 7 → ∀ b, b < Nc 7 → a ≠ b → (Tc 7 a).2.1 ≠ (Tc 7 b).2.1 := by decide +kernel
theorem okX7 : ∀ k, k < Nc 7 → parseFieldDescriptor (Tc 7 k).2.2.1 = some (yc 7 k) := by decide +kernel
theorem shX7 : (sh 7).length = Nc 7 ∧ ∀ k, k < Nc 7 → ((sh 7)[k]? = some true ∧ defaultValue (yc 7 k) = .null ∨ (sh 7)[k]? = some false ∧ defaultValue (yc 7 k) = .int 0) := by decide +kernel
theorem inaX8 : ∀ w ∈ u_ws (Cc 8) (Tc 8) (Nc 8), w ∈ lw_tbl := by decide +kernel
theorem inX8 : ∀ w ∈ u_ws (Cc 8) (Tc 8) (Nc 8), w ∈ gtb := fun w h => List.mem_filter.mpr ⟨inaX8 w h, (by decide +kernel : ∀ w ∈ u_ws (Cc 8) (Tc 8) (Nc 8), goodWord w = true) w h⟩
theorem nmX8 : ∀ a, a < Nc 8 → ∀ b, b < Nc 8 → a ≠ b → (Tc 8 a).2.1 ≠ (Tc 8 b).2.1 := by decide +kernel
theorem okX8 : ∀ k, k < Nc 8 → parseFieldDescriptor (Tc 8 k).2.2.1 = some (yc 8 k) := by decide +kernel
theorem shX8 : (sh 8).length = Nc 8 ∧ ∀ k, k < Nc 8 → ((sh 8)[k]? = some true ∧ defaultValue (yc 8 k) = .null ∨ (sh 8)[k]? = some false ∧ defaultValue (yc 8 k) = .int 0) := by decide +kernel
theorem inaX9 : ∀ w ∈ u_ws (Cc 9) (Tc 9) (Nc 9), w ∈ lw_tbl := by decide +kernel
theorem inX9 : ∀ w ∈ u_ws (Cc 9) (Tc 9) (Nc 9), w ∈ gtb := fun w h => List.mem_filter.mpr ⟨inaX9 w h, (by decide +kernel : ∀ w ∈ u_ws (Cc 9) (Tc 9) (Nc 9), goodWord w = true) w h⟩
theorem nmX9 : ∀ a, a < Nc 9 → ∀ b, b < Nc 9 → a ≠ b → (Tc 9 a).2.1 ≠ (Tc 9 b).2.1 := by decide +kernel
theorem okX9 : ∀ k, k < Nc 9 → parseFieldDescriptor (Tc 9 k).2.2.1 = some (yc 9 k) := by decide +kernel
theorem shX9 : (sh 9).length = Nc 9 ∧ ∀ k, k < Nc 9 → ((sh 9)[k]? = some true ∧ defaultValue (yc 9 k) = .null ∨ (sh 9)[k]? = some false ∧ defaultValue (yc 9 k) = .int 0) := by decide +kernel
theorem inaX10 : ∀ w ∈ u_ws (Cc 10) (Tc 10) (Nc 10), w ∈ lw_tbl := by decide +kernel
theorem inX10 : ∀ w ∈ u_ws (Cc 10) (Tc 10) (Nc 10), w ∈ gtb := fun w h => List.mem_filter.mpr ⟨inaX10 w h, (by decide +kernel : ∀ w ∈ u_ws (Cc 10) (Tc 10) (Nc 10), goodWord w = true) w h⟩
theorem nmX10 : ∀ a, a < Nc 10 → ∀ b, b < Nc 10 → a ≠ b → (Tc 10 a).2.1 ≠ (Tc 10 b).2.1 := by decide +kernel
theorem okX10 : ∀ k, k < Nc 10 → parseFieldDescriptor (Tc 10 k).2.2.1 = some (yc 10 k) := by decide +kernel
theorem shX10 : (sh 10).length = Nc 10 ∧ ∀ k, k < Nc 10 → ((sh 10)[k]? = some true ∧ defaultValue (yc 10 k) = .null ∨ (sh 10)[k]? = some false ∧ defaultValue (yc 10 k) = .int 0) := by decide +kernel
theorem inaX11 : ∀ w ∈ u_ws (Cc 11) (Tc 11) (Nc 11), w ∈ lw_tbl := by decide +kernel
theorem inX11 : ∀ w ∈ u_ws (Cc 11) (Tc 11) (Nc 11), w ∈ gtb := fun w h => List.mem_filter.mpr ⟨inaX11 w h, (by decide +kernel : ∀ w ∈ u_ws (Cc 11) (Tc 11) (Nc 11), goodWord w = true) w h⟩
theorem nmX11 : ∀ a, a < Nc 11 → ∀ b, b < Nc 11 → a ≠ b → (Tc 11 a).2.1 ≠ (Tc 11 b).2.1 := by decide +kernel
theorem okX11 : ∀ k, k < Nc 11 → parseFieldDescriptor (Tc 11 k).2.2.1 = some (yc 11 k) := by decide +kernel
theorem shX11 : (sh 11).length = Nc 11 ∧ ∀ k, k < Nc 11 → ((sh 11)[k]? = some true ∧ defaultValue (yc 11 k) = .null ∨ (sh 11)[k]? = some false ∧ defaultValue (yc 11 k) = .int 0) := by decide +kernel
theorem inaX12 : ∀ w ∈ u_ws (Cc 12) (Tc 12) (Nc 12), w ∈ lw_tbl := by decide +kernel
theorem inX12 : ∀ w ∈ u_ws (Cc 12) (Tc 12) (Nc 12), w ∈ gtb := fun w h => List.mem_filter.mpr ⟨inaX12 w h, (by decide +kernel : ∀ w ∈ u_ws (Cc 12) (Tc 12) (Nc 12), goodWord w = true) w h⟩
theorem nmX12 : ∀ a, a < Nc 12 → ∀ b, b < Nc 12 → a ≠ b → (Tc 12 a).2.1 ≠ (Tc 12 b).2.1 := by decide +kernel
theorem okX12 : ∀ k, k < Nc 12 → parseFieldDescriptor (Tc 12 k).2.2.1 = some (yc 12 k) := by decide +kernel
theorem shX12 : (sh 12).length = Nc 12 ∧ ∀ k, k < Nc 12 → ((sh 12)[k]? = some true ∧ defaultValue (yc 12 k) = .null ∨ (sh 12)[k]? = some false ∧ defaultValue (yc 12 k) = .int 0) := by decide +kernel
abbrev Meth : Type := MethodName × ByteArray × Nat × Option FieldType
def ClOk (c : Nat) : Prop := classes[c]? = some (Cc c, Tc c, Nc c) ∧ (∀ w ∈ u_ws (Cc c) (Tc c) (Nc c), w ∈ gtb) ∧ (∀ a, a < Nc c → ∀ b, b < Nc c → a ≠ b → (Tc c a).2.1 ≠ (Tc c b).2.1) ∧ (∀ k, k < Nc c → parseFieldDescriptor (Tc c k).2.2.1 = some (yc c k)) ∧ (sh c).length = Nc c ∧ ∀ k, k < Nc c → ((sh c)[k]? = some true ∧ defaultValue (yc c k) = .null ∨ (sh c)[k]? = some false ∧ defaultValue (yc c k) = .int 0)
theorem clX0 : ClOk 0 := ⟨rfl, inX0, nmX0, okX0, shX0⟩
theorem clX1 : ClOk 1 := ⟨rfl, inX1, nmX1, okX1, shX1⟩
theorem clX2 : ClOk 2 := ⟨rfl, inX2, nmX2, okX2, shX2⟩
theorem clX3 : ClOk 3 := ⟨rfl, inX3, nmX3, okX3, shX3⟩
theorem clX4 : ClOk 4 := ⟨rfl, inX4, nmX4, okX4, shX4⟩
theorem clX5 : ClOk 5 := ⟨rfl, inX5, nmX5, okX5, shX5⟩
theorem clX6 : ClOk 6 := ⟨rfl, inX6, nmX6, okX6, shX6⟩
theorem clX7 : ClOk 7 := ⟨rfl, inX7, nmX7, okX7, shX7⟩
theorem clX8 : ClOk 8 := ⟨rfl, inX8, nmX8, okX8, shX8⟩
theorem clX9 : ClOk 9 := ⟨rfl, inX9, nmX9, okX9, shX9⟩
theorem clX10 : ClOk 10 := ⟨rfl, inX10, nmX10, okX10, shX10⟩
theorem clX11 : ClOk 11 := ⟨rfl, inX11, nmX11, okX11, shX11⟩
theorem clX12 : ClOk 12 := ⟨rfl, inX12, nmX12, okX12, shX12⟩
theorem cl_ok : ∀ c, c < 13 → ClOk c
  | 0, _ => clX0
  | 1, _ => clX1
  | 2, _ => clX2
  | 3, _ => clX3
  | 4, _ => clX4
  | 5, _ => clX5
  | 6, _ => clX6
  | 7, _ => clX7
  | 8, _ => clX8
  | 9, _ => clX9
  | 10, _ => clX10
  | 11, _ => clX11
  | 12, _ => clX12
  | c + 13, h => absurd h (by omega)
theorem good_in {ws : List Cond} (h : ∀ w ∈ ws, w ∈ gtb) : GoodIn gtb ws := fun w hw => ⟨h w hw, good_of_word (List.mem_filter.mp (h w hw)).2⟩
end
section
-- THE FRAME: a memory of fields and arrays as functions (Rep), a judgement over it alone (V), contracts (Sem)
abbrev TT : Type := Nat → Nat × Nat
abbrev MI : Type := Nat → Nat → Int32
abbrev MR : Type := Nat → Nat → Option Nat
abbrev PP : Type := Option Value → Nat → TT → MI → MR → MI → MR → Prop
def rty : Nat → FieldType := fun j => match j with
  | 0 => .object "FleetStores$Place"
  | 1 => .object "FleetStores$Kind"
  | 2 => .object "FleetStores$Store"
  | 3 => .object "FleetStores$Lot"
  | 4 => .object "FleetStores$Contract"
  | _ => .array .int
/-- the fields of an object of class c, by its ints and its references -/
def fl (c : Nat) (iv : Nat → Int32) (rv : Nat → Option Nat) : List Value := (sh c).mapIdx fun k b => if b then va_rf (rv (100 * c + k)) else .int (iv (100 * c + k))
def CellOk (D : va_G) (U : State) (τ : Nat × Nat) (iv : Nat → Int32) (rv : Nat → Option Nat) (jv : Nat → Int32) (bv : Nat → Option Nat) (a : Nat) (H : Heap) : Prop :=
  (∀ c, τ.1 = c + 1 → c < 13 → va_at D classes (a, .inr (c, fl c iv rv)) H) ∧
  (τ.1 = 20 → ∃ cA : ClassId, (ArrOfT U cA .int ∧ va_RA U cA .int) ∧ H[a]? = some (vp_cell cA (τ.2, .inl jv))) ∧
  (∀ j, τ.1 = 21 + j → j < 6 → ∃ cA : ClassId, (ArrOfT U cA (rty j) ∧ va_RA U cA (rty j)) ∧ H[a]? = some (vp_cell cA (τ.2, .inr (.inr (.inr (.inr bv))))))
def Rep (D : va_G) (A : Nat → Prop) (U : State) (z : Nat) (t : TT) (I : MI) (R : MR) (J : MI) (B : MR) (H : Heap) : Prop :=
  va_K D classes [] U ∧ H.size = z ∧ ∀ a, (t a).1 ≠ 0 → (A a ∧ a < z) ∧ CellOk D U (t a) (fun f => I f a) (fun f => R f a) (J a) (B a) a H
theorem CellOk.moved {D : va_G} {u U : State} (hvm : u.vm.Alike U.vm) {τ : Nat × Nat} {iv : Nat → Int32} {rv : Nat → Option Nat} {jv : Nat → Int32} {bv : Nat → Option Nat} {a : Nat} {H : Heap} (h : CellOk D u τ iv rv jv bv a H) : CellOk D U τ iv rv jv bv a H := by
  refine ⟨h.1, fun q => ?_, fun j q hj => ?_⟩
  · obtain ⟨cA, ⟨h1, h2⟩, h3⟩ := h.2.1 q
    exact ⟨cA, ⟨arrOfT_moved hvm h1, h2.moved hvm⟩, h3⟩
  · obtain ⟨cA, ⟨h1, h2⟩, h3⟩ := h.2.2 j q hj
    exact ⟨cA, ⟨arrOfT_moved hvm h1, h2.moved hvm⟩, h3⟩
theorem CellOk.kept {D : va_G} {U : State} {τ : Nat × Nat} {iv : Nat → Int32} {rv : Nat → Option Nat} {jv : Nat → Int32} {bv : Nat → Option Nat} {a : Nat} {H H1 : Heap} (h : CellOk D U τ iv rv jv bv a H) (hq : H1[a]? = H[a]?) : CellOk D U τ iv rv jv bv a H1 := by
  refine ⟨fun c q hc => (h.1 c q hc).kept hq, fun q => ?_, fun j q hj => ?_⟩
  · obtain ⟨cA, h1, h3⟩ := h.2.1 q
    exact ⟨cA, h1, hq.trans h3⟩
  · obtain ⟨cA, h1, h3⟩ := h.2.2 j q hj
    exact ⟨cA, h1, hq.trans h3⟩
theorem Rep.moved {D : va_G} {A : Nat → Prop} {u U : State} (hvm : u.vm.Alike U.vm) {z : Nat} {t : TT} {I : MI} {R : MR} {J : MI} {B : MR} {H : Heap} (h : Rep D A u z t I R J B H) : Rep D A U z t I R J B H :=
  ⟨va_K.moved hvm h.1, h.2.1, fun a ha => ⟨(h.2.2 a ha).1, (h.2.2 a ha).2.moved hvm⟩⟩
/-- one cell has changed -/
theorem Rep.put {D : va_G} {A : Nat → Prop} {U : State} {z : Nat} {t : TT} {I I' : MI} {R R' : MR} {J J' : MI} {B B' : MR} {H H1 : Heap} {a : Nat} (h : Rep D A U z t I R J B H) (hz : H1.size = H.size) (ho : ∀ q, q ≠ a → H1[q]? = H[q]?)
    (hI : ∀ f b, b ≠ a → I' f b = I f b) (hR : ∀ f b, b ≠ a → R' f b = R f b) (hJ : ∀ b, b ≠ a → J' b = J b) (hB : ∀ b, b ≠ a → B' b = B b) (hc : CellOk D U (t a) (fun f => I' f a) (fun f => R' f a) (J' a) (B' a) a H1) : Rep D A U z t I' R' J' B' H1 := by
  refine ⟨h.1, hz.trans h.2.1, fun b hb => ⟨(h.2.2 b hb).1, ?_⟩⟩
  by_cases e : b = a
  · subst e; exact hc
  · have h1 := (h.2.2 b hb).2.kept (ho b e)
    rw [show (fun f => I' f b) = (fun f => I f b) from funext fun f => hI f b e, show (fun f => R' f b) = (fun f => R f b) from funext fun f => hR f b e, hJ b e, hB b e]
    exact h1
/-- a cell has come -/
theorem Rep.push {D : va_G} {A : Nat → Prop} {U : State} {z : Nat} {t t' : TT} {I I' : MI} {R R' : MR} {J J' : MI} {B B' : MR} {H H1 : Heap} (h : Rep D A U z t I R J B H) (hA : A z) (hz : H1.size = z + 1) (ho : ∀ q, q < z → H1[q]? = H[q]?)
    (ht : ∀ b, b ≠ z → t' b = t b) (hI : ∀ f b, b ≠ z → I' f b = I f b) (hR : ∀ f b, b ≠ z → R' f b = R f b) (hJ : ∀ b, b ≠ z → J' b = J b) (hB : ∀ b, b ≠ z → B' b = B b) (hc : CellOk D U (t' z) (fun f => I' f z) (fun f => R' f z) (J' z) (B' z) z H1) : Rep D A U (z + 1) t' I' R' J' B' H1 := by
  refine ⟨h.1, hz, fun b hb => ?_⟩
  by_cases e : b = z
  · subst e; exact ⟨⟨hA, Nat.lt_succ_self _⟩, hc⟩
  · rw [ht b e] at hb ⊢
    obtain ⟨⟨h0, h00⟩, h1⟩ := h.2.2 b hb
    have h1 := h1.kept (ho b h00)
    rw [show (fun f => I' f b) = (fun f => I f b) from funext fun f => hI f b e, show (fun f => R' f b) = (fun f => R f b) from funext fun f => hR f b e, hJ b e, hB b e]
    exact ⟨⟨h0, Nat.lt_succ_of_lt h00⟩, h1⟩
-- locals by their places; none: nothing known
def lp (ls : Array Slot) (nL : Nat) (lv : List (Option Value)) : Prop := ls.size = nL ∧ lv_wf ls ∧ ∀ (i : Nat) (v : Value), lv[i]? = some (some v) → ls[i]? = some (.val v)
def lassoc (lv : List (Option Value)) : List (Nat × Value) := lv.zipIdx.filterMap fun q => q.1.map fun v => (q.2, v)
theorem lassoc_mem {lv : List (Option Value)} {i : Nat} {v : Value} : (i, v) ∈ lassoc lv ↔ lv[i]? = some (some v) := by
  unfold lassoc
  rw [List.mem_filterMap]
  constructor
  · rintro ⟨⟨o, j⟩, hm, he⟩
    have h1 := List.mk_mem_zipIdx_iff_getElem?.mp hm
    cases o with
    | none => simp at he
    | some w =>
      simp only [Option.map_some, Option.some.injEq, Prod.mk.injEq] at he
      obtain ⟨rfl, rfl⟩ := he
      exact h1
  · intro h
    exact ⟨(some v, i), List.mk_mem_zipIdx_iff_getElem?.mpr h, rfl⟩
theorem lp.has {ls : Array Slot} {nL : Nat} {lv : List (Option Value)} (h : lp ls nL lv) : lv_has ls nL (lassoc lv) := ⟨h.1, h.2.1, fun q hq => h.2.2 q.1 q.2 (lassoc_mem.mp hq)⟩
/-- no value of two slots -/
def noL (o : Option Value) : Prop := ∀ v, o = some v → v.category = 1
theorem noL_n : noL none := fun _ h => by cases h
theorem noL_i (x : Int32) : noL (some (.int x)) := fun _ h => by cases h; rfl
theorem noL_r (r : Option Nat) : noL (some (va_rf r)) := fun _ h => by cases h; cases r <;> rfl
theorem cat_rf (r : Option Nat) : (va_rf r).category = 1 := by cases r <;> rfl
theorem lp.set {ls ls' : Array Slot} {nL i : Nat} {v : Value} {lv : List (Option Value)} (h : lv_has ls' nL ((i, v) :: (lassoc lv).filter (fun q => !(q.1 == i) && !(q.1 + 1 == i && q.2.category == 2)))) (hp : ∀ j, j + 1 = i → noL (lv.getD j none)) (hi : i < lv.length) : lp ls' nL (lv.set i (some v)) := by
  refine ⟨h.1, h.2.1, fun j w hw => ?_⟩
  by_cases e : j = i
  · subst e
    rw [List.getElem?_set_self hi] at hw
    cases hw
    exact h.2.2 (j, v) List.mem_cons_self
  · rw [List.getElem?_set_ne (Ne.symm e)] at hw
    refine h.2.2 (j, w) (List.mem_cons_of_mem _ (List.mem_filter.mpr ⟨lassoc_mem.mpr hw, ?_⟩))
    have : ¬ (j + 1 = i ∧ w.category = 2) := fun ⟨q1, q2⟩ => by
      have h3 := hp j q1 w (by simp [List.getD, hw])
      omega
    by_cases e2 : j + 1 = i
    · have e3 : ¬ w.category = 2 := fun q => this ⟨e2, q⟩
      simp [e, e3]
    · simp [e, e2]
/-- the extra facts that no word of gtb says -/
def nests : List Cond := [.methodLinkNest "FleetStores$Store" 25 ⟨"FleetStores$Table", "<init>", "()V"⟩ "FleetStores", .methodLinkNest "FleetStores$Lots" 21 ⟨"FleetStores", "within", "(III)Z"⟩ "FleetStores", .methodLinkNest "FleetStores$Tape" 15 ⟨"FleetStores", "byteOf", "(II)I"⟩ "FleetStores", .methodLinkNest "FleetStores$Tape" 23 ⟨"FleetStores", "within", "(III)Z"⟩ "FleetStores", .methodLinkNest "FleetStores$Reader" 46 ⟨"FleetStores", "within", "(III)Z"⟩ "FleetStores"]
def Xt (U : State) : Prop := (∀ w ∈ nests, va_Nw w U) ∧ va_AO "FleetStores$Place" U ∧ va_AO "FleetStores$Kind" U ∧ va_AO "FleetStores$Store" U ∧ va_AO "FleetStores$Lot" U ∧ va_AO "FleetStores$Contract" U ∧ va_Nw (.arrayOver (.array .int)) U
def rmm (d mc ms : Nat) : Room := { frames := d, cells := mc, slots := ms, locals := 34 * d }
def wsm (μ : Meth) : List Cond := .code μ.1 μ.2.1 μ.2.2.1 μ.2.2.2 :: gtb
def Qcm (D : va_G) (A : Nat → Prop) (Φ : PP) : Array Value → State → Outcome → State → Prop := fun _ st o u => (∃ (r : Option Value) (z : Nat) (t : TT) (I : MI) (R : MR) (J : MI) (B : MR), o = .returned r ∧ Φ r z t I R J B ∧ Rep D A u z t I R J B u.heap) ∧ va_F A st u
/-- a contract: from every state that holds the memory, the method returns, and Φ holds of its answer and of the memory behind it -/
def Sem (l : Launch) (D : va_G) (A : Nat → Prop) (d mc ms : Nat) (μ : Meth) (av : List Value) (z : Nat) (t : TT) (I : MI) (R : MR) (J : MI) (B : MR) (Φ : PP) : Prop :=
  Met l μ.1 (wsm μ) (rmm d mc ms) (va_Pc av (fun U => Xt U ∧ Rep D A U z t I R J B U.heap)) (Qcm D A Φ) mc ms A
abbrev Kx : Type := (List Frame → Array Value → State → State → Prop) × (State → Array Value → Prop)
def Cx (μ : Meth) (p : Program) (s : State) (m : MethodId) (args : Array Value) (meth : Method) (c : Code) : Prop :=
  p.tables.exec = Jvm.exec ∧ c.code = μ.2.1 ∧ c.maxLocals = μ.2.2.1 ∧ meth.sig.returnType = μ.2.2.2 ∧ s.vm.findClass μ.1.cls = some m.cls ∧ (∀ w ∈ gtb, w.before args s = true) ∧ meth.locks = false ∧ meth.name = μ.1.name ∧ Xt s
/-- the machine, at pc with these locals and this stack over this memory, comes to its end -/
def V (l : Launch) (D : va_G) (A : Nat → Prop) (Rm : Room) (μ : Meth) (K : Kx) (k n z : Nat) (t : TT) (I : MI) (R : MR) (J : MI) (B : MR) (pc : Nat) (lv : List (Option Value)) (st : List Value) : Prop :=
  ∀ (p : Program) (e : Env) (s : State) (m : MethodId) (args : Array Value) (below : List Frame) (meth : Method) (c : Code), Cx μ p s m args meth c → K.2 s args → ∀ (H : Heap) (locs : List Loc) (ls : Array Slot), Rep D A s z t I R J B H → va_S A s.heap H locs → lp ls μ.2.2.1 lv → W p l e Rm s m args below meth c H locs k n (K.1 below args s) (F0 m pc ls st)
def KS (D : va_G) (A : Nat → Prop) (mc ms : Nat) (Φ : PP) : Kx := (fun below args s => MQ below (Qcm D A Φ) args s mc ms A, fun _ _ => True)
def entl (av : List Value) (nL : Nat) (lv : List (Option Value)) : Prop := (lg_sl av).length ≤ nL ∧ ∀ (i : Nat) (v : Value), lv[i]? = some (some v) → (i, v) ∈ lv_args 0 av
theorem Sem.of_V {l : Launch} {D : va_G} {A : Nat → Prop} {d mc ms : Nat} {μ : Meth} {av : List Value} {z : Nat} {t : TT} {I : MI} {R : MR} {J : MI} {B : MR} {Φ : PP} (lv : List (Option Value)) (hy : plainName μ.1.cls = true) (he : entl av μ.2.2.1 lv)
    (kk : V l D A (rmm d mc ms) μ (KS D A mc ms Φ) 0 0 z t I R J B 0 lv []) : Sem l D A d mc ms μ av z t I R J B Φ := by
  refine Met.ofW (cc := μ.2.1) (maxL := μ.2.2.1) (ret := μ.2.2.2) hy rfl ?_
  intro p e s m args below meth c s₁ Bd hml hv
  obtain ⟨rfl, hX, hR⟩ := hv
  have hts := atoms_spec (ws := wsm μ) Bd.pre
  have hown : s.vm.findClass μ.1.cls = some m.cls := findClass_of_methodNamed Bd.named
  have hl := lv_entry av (n := μ.2.2.1) he.1
  rw [lg_entry_eq]
  exact kk p e s m _ below meth c ⟨Bd.exec, Bd.bytes, hml, Bd.returns, hown, fun w hw => hts w (List.mem_cons_of_mem _ hw), Bd.notSynchronized, (name_of_methodNamed Bd.named Bd.method).1, hX⟩ trivial s.heap [] _ hR va_S.rf ⟨hl.1, hl.2.1, fun i v h => hl.2.2 (i, v) (he.2 i v h)⟩
end
