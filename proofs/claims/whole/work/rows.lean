section
-- ===== PART A: goes FIRST, ahead of the names: the tables' words, and 'selects' of the private methods out of them =====
/-- a private method of a class that the tables say can be made, by its rows of tables_1 -/
def lw_okq (q : MethodName × Nat) : Prop := (q.1.cls ≠ "java/lang/invoke/MethodHandle" ∧ q.1.cls ≠ "java/lang/invoke/VarHandle") ∧ Cond.instantiable q.1.cls q.2 ∈ tables_1 ∧ Cond.privateMethod q.1 ∈ tables_1 ∧ Cond.instanceMethod q.1 ∈ tables_1
theorem lw_p0 : lw_okq (⟨"FleetStores", "placeOf", "(I)LFleetStores$Place;"⟩, 16) := ⟨⟨by decide +kernel, by decide +kernel⟩, List.mem_of_getElem? (i := 16) (by decide +kernel), List.mem_of_getElem? (i := 267) (by decide +kernel), List.mem_of_getElem? (i := 268) (by decide +kernel)⟩
theorem lw_p1 : lw_okq (⟨"FleetStores", "kindOf", "(I)LFleetStores$Kind;"⟩, 16) := ⟨⟨by decide +kernel, by decide +kernel⟩, List.mem_of_getElem? (i := 16) (by decide +kernel), List.mem_of_getElem? (i := 278) (by decide +kernel), List.mem_of_getElem? (i := 279) (by decide +kernel)⟩
theorem lw_p2 : lw_okq (⟨"FleetStores", "storeOf", "(II)LFleetStores$Store;"⟩, 16) := ⟨⟨by decide +kernel, by decide +kernel⟩, List.mem_of_getElem? (i := 16) (by decide +kernel), List.mem_of_getElem? (i := 298) (by decide +kernel), List.mem_of_getElem? (i := 299) (by decide +kernel)⟩
theorem lw_p3 : lw_okq (⟨"FleetStores$Lots", "putInChain", "(LFleetStores$Lot;)V"⟩, 3) := ⟨⟨by decide +kernel, by decide +kernel⟩, List.mem_of_getElem? (i := 126) (by decide +kernel), List.mem_of_getElem? (i := 376) (by decide +kernel), List.mem_of_getElem? (i := 377) (by decide +kernel)⟩
theorem lw_p4 : lw_okq (⟨"FleetStores", "bringIn", "()V"⟩, 16) := ⟨⟨by decide +kernel, by decide +kernel⟩, List.mem_of_getElem? (i := 16) (by decide +kernel), List.mem_of_getElem? (i := 397) (by decide +kernel), List.mem_of_getElem? (i := 398) (by decide +kernel)⟩
theorem lw_p5 : lw_okq (⟨"FleetStores", "condemnSpoilt", "()V"⟩, 16) := ⟨⟨by decide +kernel, by decide +kernel⟩, List.mem_of_getElem? (i := 16) (by decide +kernel), List.mem_of_getElem? (i := 405) (by decide +kernel), List.mem_of_getElem? (i := 406) (by decide +kernel)⟩
theorem lw_p6 : lw_okq (⟨"FleetStores", "eat", "()V"⟩, 16) := ⟨⟨by decide +kernel, by decide +kernel⟩, List.mem_of_getElem? (i := 16) (by decide +kernel), List.mem_of_getElem? (i := 419) (by decide +kernel), List.mem_of_getElem? (i := 420) (by decide +kernel)⟩
theorem lw_p7 : lw_okq (⟨"FleetStores", "writeStocks", "()V"⟩, 16) := ⟨⟨by decide +kernel, by decide +kernel⟩, List.mem_of_getElem? (i := 16) (by decide +kernel), List.mem_of_getElem? (i := 437) (by decide +kernel), List.mem_of_getElem? (i := 438) (by decide +kernel)⟩
theorem lw_p8 : lw_okq (⟨"FleetStores", "stockAsBegan", "(LFleetStores$Store;I)I"⟩, 16) := ⟨⟨by decide +kernel, by decide +kernel⟩, List.mem_of_getElem? (i := 16) (by decide +kernel), List.mem_of_getElem? (i := 470) (by decide +kernel), List.mem_of_getElem? (i := 471) (by decide +kernel)⟩
theorem lw_p9 : lw_okq (⟨"FleetStores", "beginTrial", "(I)V"⟩, 16) := ⟨⟨by decide +kernel, by decide +kernel⟩, List.mem_of_getElem? (i := 16) (by decide +kernel), List.mem_of_getElem? (i := 478) (by decide +kernel), List.mem_of_getElem? (i := 479) (by decide +kernel)⟩
theorem lw_p10 : lw_okq (⟨"FleetStores", "isShortInTrial", "(II)Z"⟩, 16) := ⟨⟨by decide +kernel, by decide +kernel⟩, List.mem_of_getElem? (i := 16) (by decide +kernel), List.mem_of_getElem? (i := 482) (by decide +kernel), List.mem_of_getElem? (i := 483) (by decide +kernel)⟩
theorem lw_p11 : lw_okq (⟨"FleetStores$Reader", "skipBlanks", "()V"⟩, 2) := ⟨⟨by decide +kernel, by decide +kernel⟩, List.mem_of_getElem? (i := 161) (by decide +kernel), List.mem_of_getElem? (i := 520) (by decide +kernel), List.mem_of_getElem? (i := 521) (by decide +kernel)⟩
theorem lw_p12 : lw_okq (⟨"FleetStores$Reader", "here", "()I"⟩, 2) := ⟨⟨by decide +kernel, by decide +kernel⟩, List.mem_of_getElem? (i := 161) (by decide +kernel), List.mem_of_getElem? (i := 524) (by decide +kernel), List.mem_of_getElem? (i := 525) (by decide +kernel)⟩
theorem lw_p13 : lw_okq (⟨"FleetStores$Reader", "readClause", "(LFleetStores$Contract;)Z"⟩, 2) := ⟨⟨by decide +kernel, by decide +kernel⟩, List.mem_of_getElem? (i := 161) (by decide +kernel), List.mem_of_getElem? (i := 533) (by decide +kernel), List.mem_of_getElem? (i := 534) (by decide +kernel)⟩
theorem lw_p14 : lw_okq (⟨"FleetStores$Reader", "pass", "(I)Z"⟩, 2) := ⟨⟨by decide +kernel, by decide +kernel⟩, List.mem_of_getElem? (i := 161) (by decide +kernel), List.mem_of_getElem? (i := 537) (by decide +kernel), List.mem_of_getElem? (i := 538) (by decide +kernel)⟩
theorem lw_p15 : lw_okq (⟨"FleetStores$Reader", "readDigits", "()I"⟩, 2) := ⟨⟨by decide +kernel, by decide +kernel⟩, List.mem_of_getElem? (i := 161) (by decide +kernel), List.mem_of_getElem? (i := 541) (by decide +kernel), List.mem_of_getElem? (i := 542) (by decide +kernel)⟩
def lw_privs_1 : List (MethodName × Nat) := [(⟨"FleetStores", "placeOf", "(I)LFleetStores$Place;"⟩, 16), (⟨"FleetStores", "kindOf", "(I)LFleetStores$Kind;"⟩, 16), (⟨"FleetStores", "storeOf", "(II)LFleetStores$Store;"⟩, 16), (⟨"FleetStores$Lots", "putInChain", "(LFleetStores$Lot;)V"⟩, 3), (⟨"FleetStores", "bringIn", "()V"⟩, 16), (⟨"FleetStores", "condemnSpoilt", "()V"⟩, 16), (⟨"FleetStores", "eat", "()V"⟩, 16), (⟨"FleetStores", "writeStocks", "()V"⟩, 16), (⟨"FleetStores", "stockAsBegan", "(LFleetStores$Store;I)I"⟩, 16), (⟨"FleetStores", "beginTrial", "(I)V"⟩, 16), (⟨"FleetStores", "isShortInTrial", "(II)Z"⟩, 16), (⟨"FleetStores$Reader", "skipBlanks", "()V"⟩, 2), (⟨"FleetStores$Reader", "here", "()I"⟩, 2), (⟨"FleetStores$Reader", "readClause", "(LFleetStores$Contract;)Z"⟩, 2), (⟨"FleetStores$Reader", "pass", "(I)Z"⟩, 2), (⟨"FleetStores$Reader", "readDigits", "()I"⟩, 2)]
theorem lw_r1 : ∀ q ∈ lw_privs_1, lw_okq q := List.forall_mem_cons.mpr ⟨lw_p0, List.forall_mem_cons.mpr ⟨lw_p1, List.forall_mem_cons.mpr ⟨lw_p2, List.forall_mem_cons.mpr ⟨lw_p3, List.forall_mem_cons.mpr ⟨lw_p4, List.forall_mem_cons.mpr ⟨lw_p5, List.forall_mem_cons.mpr ⟨lw_p6, List.forall_mem_cons.mpr ⟨lw_p7, List.forall_mem_cons.mpr ⟨lw_p8, List.forall_mem_cons.mpr ⟨lw_p9, List.forall_mem_cons.mpr ⟨lw_p10, List.forall_mem_cons.mpr ⟨lw_p11, List.forall_mem_cons.mpr ⟨lw_p12, List.forall_mem_cons.mpr ⟨lw_p13, List.forall_mem_cons.mpr ⟨lw_p14, List.forall_mem_cons.mpr ⟨lw_p15, fun _ h => absurd h List.not_mem_nil⟩⟩⟩⟩⟩⟩⟩⟩⟩⟩⟩⟩⟩⟩⟩⟩
theorem lw_p16 : lw_okq (⟨"FleetStores$Line", "numberIn", "(I)I"⟩, 3) := ⟨⟨by decide +kernel, by decide +kernel⟩, List.mem_of_getElem? (i := 198) (by decide +kernel), List.mem_of_getElem? (i := 565) (by decide +kernel), List.mem_of_getElem? (i := 566) (by decide +kernel)⟩
theorem lw_p17 : lw_okq (⟨"FleetStores$Line", "put", "(II)V"⟩, 3) := ⟨⟨by decide +kernel, by decide +kernel⟩, List.mem_of_getElem? (i := 198) (by decide +kernel), List.mem_of_getElem? (i := 569) (by decide +kernel), List.mem_of_getElem? (i := 570) (by decide +kernel)⟩
theorem lw_p18 : lw_okq (⟨"FleetStoresModel", "addLot", "(IIIIIIII)I"⟩, 43) := ⟨⟨by decide +kernel, by decide +kernel⟩, List.mem_of_getElem? (i := 644) (by decide +kernel), List.mem_of_getElem? (i := 814) (by decide +kernel), List.mem_of_getElem? (i := 815) (by decide +kernel)⟩
theorem lw_p19 : lw_okq (⟨"FleetStoresModel", "isLot", "(I)Z"⟩, 43) := ⟨⟨by decide +kernel, by decide +kernel⟩, List.mem_of_getElem? (i := 644) (by decide +kernel), List.mem_of_getElem? (i := 822) (by decide +kernel), List.mem_of_getElem? (i := 823) (by decide +kernel)⟩
theorem lw_p20 : lw_okq (⟨"FleetStoresModel", "part", "(IIIZ)I"⟩, 43) := ⟨⟨by decide +kernel, by decide +kernel⟩, List.mem_of_getElem? (i := 644) (by decide +kernel), List.mem_of_getElem? (i := 830) (by decide +kernel), List.mem_of_getElem? (i := 831) (by decide +kernel)⟩
theorem lw_p21 : lw_okq (⟨"FleetStoresModel", "eat", "(II)V"⟩, 43) := ⟨⟨by decide +kernel, by decide +kernel⟩, List.mem_of_getElem? (i := 644) (by decide +kernel), List.mem_of_getElem? (i := 835) (by decide +kernel), List.mem_of_getElem? (i := 836) (by decide +kernel)⟩
theorem lw_p22 : lw_okq (⟨"FleetStoresModel", "oldest", "(II[I[I)I"⟩, 43) := ⟨⟨by decide +kernel, by decide +kernel⟩, List.mem_of_getElem? (i := 644) (by decide +kernel), List.mem_of_getElem? (i := 839) (by decide +kernel), List.mem_of_getElem? (i := 840) (by decide +kernel)⟩
theorem lw_p23 : lw_okq (⟨"FleetStoresModel", "stockOf", "(II)I"⟩, 43) := ⟨⟨by decide +kernel, by decide +kernel⟩, List.mem_of_getElem? (i := 644) (by decide +kernel), List.mem_of_getElem? (i := 843) (by decide +kernel), List.mem_of_getElem? (i := 844) (by decide +kernel)⟩
theorem lw_p24 : lw_okq (⟨"FleetStoresModel", "lastsWeek", "(II)Z"⟩, 43) := ⟨⟨by decide +kernel, by decide +kernel⟩, List.mem_of_getElem? (i := 644) (by decide +kernel), List.mem_of_getElem? (i := 851) (by decide +kernel), List.mem_of_getElem? (i := 852) (by decide +kernel)⟩
theorem lw_p25 : lw_okq (⟨"FleetStoresModel", "look", "()I"⟩, 43) := ⟨⟨by decide +kernel, by decide +kernel⟩, List.mem_of_getElem? (i := 644) (by decide +kernel), List.mem_of_getElem? (i := 894) (by decide +kernel), List.mem_of_getElem? (i := 895) (by decide +kernel)⟩
theorem lw_p26 : lw_okq (⟨"FleetStoresModel", "clause", "()Z"⟩, 43) := ⟨⟨by decide +kernel, by decide +kernel⟩, List.mem_of_getElem? (i := 644) (by decide +kernel), List.mem_of_getElem? (i := 898) (by decide +kernel), List.mem_of_getElem? (i := 899) (by decide +kernel)⟩
theorem lw_p27 : lw_okq (⟨"FleetStoresModel", "number", "()I"⟩, 43) := ⟨⟨by decide +kernel, by decide +kernel⟩, List.mem_of_getElem? (i := 644) (by decide +kernel), List.mem_of_getElem? (i := 902) (by decide +kernel), List.mem_of_getElem? (i := 903) (by decide +kernel)⟩
def lw_privs_2 : List (MethodName × Nat) := [(⟨"FleetStores$Line", "numberIn", "(I)I"⟩, 3), (⟨"FleetStores$Line", "put", "(II)V"⟩, 3), (⟨"FleetStoresModel", "addLot", "(IIIIIIII)I"⟩, 43), (⟨"FleetStoresModel", "isLot", "(I)Z"⟩, 43), (⟨"FleetStoresModel", "part", "(IIIZ)I"⟩, 43), (⟨"FleetStoresModel", "eat", "(II)V"⟩, 43), (⟨"FleetStoresModel", "oldest", "(II[I[I)I"⟩, 43), (⟨"FleetStoresModel", "stockOf", "(II)I"⟩, 43), (⟨"FleetStoresModel", "lastsWeek", "(II)Z"⟩, 43), (⟨"FleetStoresModel", "look", "()I"⟩, 43), (⟨"FleetStoresModel", "clause", "()Z"⟩, 43), (⟨"FleetStoresModel", "number", "()I"⟩, 43)]
theorem lw_r2 : ∀ q ∈ lw_privs_2, lw_okq q := List.forall_mem_cons.mpr ⟨lw_p16, List.forall_mem_cons.mpr ⟨lw_p17, List.forall_mem_cons.mpr ⟨lw_p18, List.forall_mem_cons.mpr ⟨lw_p19, List.forall_mem_cons.mpr ⟨lw_p20, List.forall_mem_cons.mpr ⟨lw_p21, List.forall_mem_cons.mpr ⟨lw_p22, List.forall_mem_cons.mpr ⟨lw_p23, List.forall_mem_cons.mpr ⟨lw_p24, List.forall_mem_cons.mpr ⟨lw_p25, List.forall_mem_cons.mpr ⟨lw_p26, List.forall_mem_cons.mpr ⟨lw_p27, fun _ h => absurd h List.not_mem_nil⟩⟩⟩⟩⟩⟩⟩⟩⟩⟩⟩⟩
def lw_privs : List (MethodName × Nat) := lw_privs_1 ++ (lw_privs_2)
def lw_tbl : List Cond := k2_sels lw_privs ++ tables_1
theorem lw_privs_ok : ∀ q ∈ lw_privs, lw_okq q := by
  show ∀ q ∈ lw_privs_1 ++ (lw_privs_2), lw_okq q
  exact List.forall_mem_append.mpr ⟨lw_r1, lw_r2⟩

/-- the words that a callee may be given -/
def gtb : List Cond := lw_tbl.filter goodWord
theorem in_tb {w : Cond} (i : Nat) (h : tables_1[i]? = some w) (g : goodWord w = true) : w ∈ gtb := List.mem_filter.mpr ⟨List.mem_append_right _ (List.mem_of_getElem? h), g⟩
theorem in_sel {w : Cond} (i : Nat) (h : (k2_sels lw_privs)[i]? = some w) (g : goodWord w = true) : w ∈ gtb := List.mem_filter.mpr ⟨List.mem_append_left _ (List.mem_of_getElem? h), g⟩
def tX0 : u_T := fun k => match k with
  | 0 => ("FleetStores$Contract", "letters", "[I", true)
  | 1 => ("FleetStores$Contract", "signs", "[I", true)
  | 2 => ("FleetStores$Contract", "numbers", "[I", true)
  | 3 => ("FleetStores$Contract", "amounts", "[I", true)
  | _ => ("FleetStores$Contract", "many", "I", false)
def tX1 : u_T := fun k => match k with
  | 0 => ("FleetStores$Kind", "number", "I", true)
  | 1 => ("FleetStores$Kind", "parts", "[I", true)
  | _ => ("FleetStores$Kind", "rations", "I", false)
def tX2 : u_T := fun k => match k with
  | 0 => ("FleetStores$Line", "places", "[I", true)
  | 1 => ("FleetStores$Line", "numbers", "[I", true)
  | _ => ("FleetStores$Line", "changed", "I", false)
def tX3 : u_T := fun k => match k with
  | 0 => ("FleetStores$Lot", "store", "LFleetStores$Store;", true)
  | 1 => ("FleetStores$Lot", "maker", "I", true)
  | 2 => ("FleetStores$Lot", "made", "I", true)
  | 3 => ("FleetStores$Lot", "grade", "I", true)
  | 4 => ("FleetStores$Lot", "mark", "I", true)
  | 5 => ("FleetStores$Lot", "casksAtFirst", "I", true)
  | 6 => ("FleetStores$Lot", "casks", "I", false)
  | 7 => ("FleetStores$Lot", "coming", "I", false)
  | 8 => ("FleetStores$Lot", "price", "I", false)
  | 9 => ("FleetStores$Lot", "isDrawn", "Z", false)
  | 10 => ("FleetStores$Lot", "owing", "I", false)
  | 11 => ("FleetStores$Lot", "lost", "I", false)
  | 12 => ("FleetStores$Lot", "trialCasks", "I", false)
  | _ => ("FleetStores$Lot", "next", "LFleetStores$Lot;", false)
def tX4 : u_T := fun k => match k with
  | 0 => ("FleetStores$Lots", "byNumber", "[LFleetStores$Lot;", true)
  | 1 => ("FleetStores$Lots", "many", "I", false)
  | _ => ("FleetStores$Lots", "oldest", "LFleetStores$Lot;", false)
def tX5 : u_T := fun k => match k with
  | 0 => ("FleetStores$Place", "number", "I", true)
  | 1 => ("FleetStores$Place", "men", "I", false)
  | _ => ("FleetStores$Place", "lag", "I", false)
def tX6 : u_T := fun k => match k with
  | 0 => ("FleetStores$Reader", "tape", "LFleetStores$Tape;", true)
  | _ => ("FleetStores$Reader", "at", "I", false)
def tX7 : u_T := fun k => match k with
  | 0 => ("FleetStores$Store", "number", "I", true)
  | 1 => ("FleetStores$Store", "place", "LFleetStores$Place;", true)
  | 2 => ("FleetStores$Store", "kind", "LFleetStores$Kind;", true)
  | 3 => ("FleetStores$Store", "table", "LFleetStores$Table;", true)
  | 4 => ("FleetStores$Store", "trialTable", "LFleetStores$Table;", true)
  | 5 => ("FleetStores$Store", "opened", "I", false)
  | 6 => ("FleetStores$Store", "lacked", "I", false)
  | _ => ("FleetStores$Store", "surveys", "LFleetStores$Survey;", false)
def tX8 : u_T := fun k => match k with
  | 0 => ("FleetStores$Survey", "week", "I", true)
  | 1 => ("FleetStores$Survey", "next", "LFleetStores$Survey;", true)
  | _ => ("FleetStores$Survey", "difference", "I", false)
def tX9 : u_T := fun k => match k with
  | 0 => ("FleetStores$Table", "left", "I", false)
  | _ => ("FleetStores$Table", "wanting", "I", false)
def tX10 : u_T := fun k => match k with
  | 0 => ("FleetStores$Tape", "bytes", "[I", true)
  | _ => ("FleetStores$Tape", "length", "I", false)
def tX11 : u_T := fun k => match k with
  | 0 => ("FleetStores", "places", "[LFleetStores$Place;", true)
  | 1 => ("FleetStores", "kinds", "[LFleetStores$Kind;", true)
  | 2 => ("FleetStores", "stores", "[LFleetStores$Store;", true)
  | 3 => ("FleetStores", "stocksAsBegan", "[[I", true)
  | 4 => ("FleetStores", "ways", "[[I", true)
  | 5 => ("FleetStores", "lots", "LFleetStores$Lots;", true)
  | 6 => ("FleetStores", "tape", "LFleetStores$Tape;", true)
  | 7 => ("FleetStores", "reader", "LFleetStores$Reader;", true)
  | 8 => ("FleetStores", "contracts", "[LFleetStores$Contract;", true)
  | 9 => ("FleetStores", "spareContract", "LFleetStores$Contract;", false)
  | 10 => ("FleetStores", "line", "LFleetStores$Line;", true)
  | 11 => ("FleetStores", "now", "I", false)
  | 12 => ("FleetStores", "casksBought", "I", false)
  | 13 => ("FleetStores", "casksCondemned", "I", false)
  | 14 => ("FleetStores", "casksOpened", "I", false)
  | _ => ("FleetStores", "surveysTold", "I", false)
def tX12 : u_T := fun k => match k with
  | 0 => ("FleetStoresModel", "now", "I", false)
  | 1 => ("FleetStoresModel", "lots", "I", false)
  | 2 => ("FleetStoresModel", "bought", "I", false)
  | 3 => ("FleetStoresModel", "opened", "I", false)
  | 4 => ("FleetStoresModel", "surveys", "I", false)
  | 5 => ("FleetStoresModel", "men", "[I", true)
  | 6 => ("FleetStoresModel", "rations", "[I", true)
  | 7 => ("FleetStoresModel", "spoil", "[I", true)
  | 8 => ("FleetStoresModel", "ways", "[I", true)
  | 9 => ("FleetStoresModel", "lags", "[I", true)
  | 10 => ("FleetStoresModel", "maker", "[I", true)
  | 11 => ("FleetStoresModel", "kind", "[I", true)
  | 12 => ("FleetStoresModel", "made", "[I", true)
  | 13 => ("FleetStoresModel", "casks", "[I", true)
  | 14 => ("FleetStoresModel", "place", "[I", true)
  | 15 => ("FleetStoresModel", "comes", "[I", true)
  | 16 => ("FleetStoresModel", "grade", "[I", true)
  | 17 => ("FleetStoresModel", "mark", "[I", true)
  | 18 => ("FleetStoresModel", "first", "[I", true)
  | 19 => ("FleetStoresModel", "price", "[I", true)
  | 20 => ("FleetStoresModel", "bad", "[I", true)
  | 21 => ("FleetStoresModel", "due", "[I", true)
  | 22 => ("FleetStoresModel", "gone", "[I", true)
  | 23 => ("FleetStoresModel", "open", "[I", true)
  | 24 => ("FleetStoresModel", "lack", "[I", true)
  | 25 => ("FleetStoresModel", "openedAt", "[I", true)
  | 26 => ("FleetStoresModel", "book", "[I", true)
  | 27 => ("FleetStoresModel", "tryCasks", "[I", true)
  | 28 => ("FleetStoresModel", "tryComes", "[I", true)
  | 29 => ("FleetStoresModel", "tryOpen", "[I", true)
  | 30 => ("FleetStoresModel", "tape", "[I", true)
  | 31 => ("FleetStoresModel", "size", "I", false)
  | 32 => ("FleetStoresModel", "at", "I", false)
  | 33 => ("FleetStoresModel", "contractMany", "[I", true)
  | 34 => ("FleetStoresModel", "letters", "[I", true)
  | 35 => ("FleetStoresModel", "signs", "[I", true)
  | 36 => ("FleetStoresModel", "numbers", "[I", true)
  | 37 => ("FleetStoresModel", "amounts", "[I", true)
  | 38 => ("FleetStoresModel", "readMany", "I", false)
  | 39 => ("FleetStoresModel", "line", "[I", true)
  | 40 => ("FleetStoresModel", "surveyBook", "[I", true)
  | 41 => ("FleetStoresModel", "surveyWeek", "[I", true)
  | _ => ("FleetStoresModel", "surveyDiffers", "[I", true)
def yX0 : Nat → FieldType := fun k => match k with
  | 0 => .array (.int)
  | 1 => .array (.int)
  | 2 => .array (.int)
  | 3 => .array (.int)
  | _ => .int
def yX1 : Nat → FieldType := fun k => match k with
  | 0 => .int
  | 1 => .array (.int)
  | _ => .int
def yX2 : Nat → FieldType := fun k => match k with
  | 0 => .array (.int)
  | 1 => .array (.int)
  | _ => .int
def yX3 : Nat → FieldType := fun k => match k with
  | 0 => .object "FleetStores$Store"
  | 1 => .int
  | 2 => .int
  | 3 => .int
  | 4 => .int
  | 5 => .int
  | 6 => .int
  | 7 => .int
  | 8 => .int
  | 9 => .boolean
  | 10 => .int
  | 11 => .int
  | 12 => .int
  | _ => .object "FleetStores$Lot"
def yX4 : Nat → FieldType := fun k => match k with
  | 0 => .array (.object "FleetStores$Lot")
  | 1 => .int
  | _ => .object "FleetStores$Lot"
def yX5 : Nat → FieldType := fun k => match k with
  | 0 => .int
  | 1 => .int
  | _ => .int
def yX6 : Nat → FieldType := fun k => match k with
  | 0 => .object "FleetStores$Tape"
  | _ => .int
def yX7 : Nat → FieldType := fun k => match k with
  | 0 => .int
  | 1 => .object "FleetStores$Place"
  | 2 => .object "FleetStores$Kind"
  | 3 => .object "FleetStores$Table"
  | 4 => .object "FleetStores$Table"
  | 5 => .int
  | 6 => .int
  | _ => .object "FleetStores$Survey"
def yX8 : Nat → FieldType := fun k => match k with
  | 0 => .int
  | 1 => .object "FleetStores$Survey"
  | _ => .int
def yX9 : Nat → FieldType := fun k => match k with
  | 0 => .int
  | _ => .int
def yX10 : Nat → FieldType := fun k => match k with
  | 0 => .array (.int)
  | _ => .int
def yX11 : Nat → FieldType := fun k => match k with
  | 0 => .array (.object "FleetStores$Place")
  | 1 => .array (.object "FleetStores$Kind")
  | 2 => .array (.object "FleetStores$Store")
  | 3 => .array (.array (.int))
  | 4 => .array (.array (.int))
  | 5 => .object "FleetStores$Lots"
  | 6 => .object "FleetStores$Tape"
  | 7 => .object "FleetStores$Reader"
  | 8 => .array (.object "FleetStores$Contract")
  | 9 => .object "FleetStores$Contract"
  | 10 => .object "FleetStores$Line"
  | 11 => .int
  | 12 => .int
  | 13 => .int
  | 14 => .int
  | _ => .int
def yX12 : Nat → FieldType := fun k => match k with
  | 0 => .int
  | 1 => .int
  | 2 => .int
  | 3 => .int
  | 4 => .int
  | 5 => .array (.int)
  | 6 => .array (.int)
  | 7 => .array (.int)
  | 8 => .array (.int)
  | 9 => .array (.int)
  | 10 => .array (.int)
  | 11 => .array (.int)
  | 12 => .array (.int)
  | 13 => .array (.int)
  | 14 => .array (.int)
  | 15 => .array (.int)
  | 16 => .array (.int)
  | 17 => .array (.int)
  | 18 => .array (.int)
  | 19 => .array (.int)
  | 20 => .array (.int)
  | 21 => .array (.int)
  | 22 => .array (.int)
  | 23 => .array (.int)
  | 24 => .array (.int)
  | 25 => .array (.int)
  | 26 => .array (.int)
  | 27 => .array (.int)
  | 28 => .array (.int)
  | 29 => .array (.int)
  | 30 => .array (.int)
  | 31 => .int
  | 32 => .int
  | 33 => .array (.int)
  | 34 => .array (.int)
  | 35 => .array (.int)
  | 36 => .array (.int)
  | 37 => .array (.int)
  | 38 => .int
  | 39 => .array (.int)
  | 40 => .array (.int)
  | 41 => .array (.int)
  | _ => .array (.int)
def Cc : Nat → String := fun c => match c with
  | 0 => "FleetStores$Contract"
  | 1 => "FleetStores$Kind"
  | 2 => "FleetStores$Line"
  | 3 => "FleetStores$Lot"
  | 4 => "FleetStores$Lots"
  | 5 => "FleetStores$Place"
  | 6 => "FleetStores$Reader"
  | 7 => "FleetStores$Store"
  | 8 => "FleetStores$Survey"
  | 9 => "FleetStores$Table"
  | 10 => "FleetStores$Tape"
  | 11 => "FleetStores"
  | _ => "FleetStoresModel"
def Tc : Nat → u_T := fun c => match c with
  | 0 => tX0
  | 1 => tX1
  | 2 => tX2
  | 3 => tX3
  | 4 => tX4
  | 5 => tX5
  | 6 => tX6
  | 7 => tX7
  | 8 => tX8
  | 9 => tX9
  | 10 => tX10
  | 11 => tX11
  | _ => tX12
def yc : Nat → Nat → FieldType := fun c => match c with
  | 0 => yX0
  | 1 => yX1
  | 2 => yX2
  | 3 => yX3
  | 4 => yX4
  | 5 => yX5
  | 6 => yX6
  | 7 => yX7
  | 8 => yX8
  | 9 => yX9
  | 10 => yX10
  | 11 => yX11
  | _ => yX12
def Nc : Nat → Nat := fun c => match c with
  | 0 => 5
  | 1 => 3
  | 2 => 3
  | 3 => 14
  | 4 => 3
  | 5 => 3
  | 6 => 2
  | 7 => 8
  | 8 => 3
  | 9 => 2
  | 10 => 2
  | 11 => 16
  | _ => 43
def sh : Nat → List Bool := fun c => match c with
  | 0 => [true, true, true, true, false]
  | 1 => [false, true, false]
  | 2 => [true, true, false]
  | 3 => [true, false, false, false, false, false, false, false, false, false, false, false, false, true]
  | 4 => [true, false, true]
  | 5 => [false, false, false]
  | 6 => [true, false]
  | 7 => [false, true, true, true, true, false, false, true]
  | 8 => [false, true, false]
  | 9 => [false, false]
  | 10 => [true, false]
  | 11 => [true, true, true, true, true, true, true, true, true, true, true, false, false, false, false, false]
  | _ => [false, false, false, false, false, true, true, true, true, true, true, true, true, true, true, true, true, true, true, true, true, true, true, true, true, true, true, true, true, true, true, false, false, true, true, true, true, true, false, true, true, true, true]
def classes : List vw_C := [(Cc 0, Tc 0, Nc 0), (Cc 1, Tc 1, Nc 1), (Cc 2, Tc 2, Nc 2), (Cc 3, Tc 3, Nc 3), (Cc 4, Tc 4, Nc 4), (Cc 5, Tc 5, Nc 5), (Cc 6, Tc 6, Nc 6), (Cc 7, Tc 7, Nc 7), (Cc 8, Tc 8, Nc 8), (Cc 9, Tc 9, Nc 9), (Cc 10, Tc 10, Nc 10), (Cc 11, Tc 11, Nc 11), (Cc 12, Tc 12, Nc 12)]
theorem inaX0 : ∀ w ∈ u_ws (Cc 0) (Tc 0) (Nc 0), w ∈ lw_tbl := by decide +kernel
theorem inX0 : ∀ w ∈ u_ws (Cc 0) (Tc 0) (Nc 0), w ∈ gtb := fun w h => List.mem_filter.mpr ⟨inaX0 w h, (by decide +kernel : ∀ w ∈ u_ws (Cc 0) (Tc 0) (Nc 0), goodWord w = true) w h⟩
theorem nmX0 : ∀ a, a < Nc 0 → ∀ b, b < Nc 0 → a ≠ b → (Tc 0 a).2.1 ≠ (Tc 0 b).2.1 := by decide +kernel
theorem okX0 : ∀ k, k < Nc 0 → parseFieldDescriptor (Tc 0 k).2.2.1 = some (yc 0 k) := by decide +kernel
theorem shX0 : (sh 0).length = Nc 0 ∧ ∀ k, k < Nc 0 → ((sh 0)[k]? = some true ∧ defaultValue (yc 0 k) = .null ∨ (sh 0)[k]? = some false ∧ defaultValue (yc 0 k) = .int 0) := by decide +kernel
theorem inaX1 : ∀ w ∈ u_ws (Cc 1) (Tc 1) (Nc 1), w ∈ lw_tbl := by decide +kernel
theorem inX1 : ∀ w ∈ u_ws (Cc 1) (Tc 1) (Nc 1), w ∈ gtb := fun w h => List.mem_filter.mpr ⟨inaX1 w h, (by decide +kernel : ∀ w ∈ u_ws (Cc 1) (Tc 1) (Nc 1), goodWord w = true) w h⟩
theorem nmX1 : ∀ a, a < Nc 1 → ∀ b, b < Nc 1 → a ≠ b → (Tc 1 a).2.1 ≠ (Tc 1 b).2.1 := by decide +kernel
theorem okX1 : ∀ k, k < Nc 1 → parseFieldDescriptor (Tc 1 k).2.2.1 = some (yc 1 k) := by decide +kernel
theorem shX1 : (sh 1).length = Nc 1 ∧ ∀ k, k < Nc 1 → ((sh 1)[k]? = some true ∧ defaultValue (yc 1 k) = .null ∨ (sh 1)[k]? = some false ∧ defaultValue (yc 1 k) = .int 0) := by decide +kernel
theorem inaX2 : ∀ w ∈ u_ws (Cc 2) (Tc 2) (Nc 2), w ∈ lw_tbl := by decide +kernel
theorem inX2 : ∀ w ∈ u_ws (Cc 2) (Tc 2) (Nc 2), w ∈ gtb := fun w h => List.mem_filter.mpr ⟨inaX2 w h, (by decide +kernel : ∀ w ∈ u_ws (Cc 2) (Tc 2) (Nc 2), goodWord w = true) w h⟩
theorem nmX2 : ∀ a, a < Nc 2 → ∀ b, b < Nc 2 → a ≠ b → (Tc 2 a).2.1 ≠ (Tc 2 b).2.1 := by decide +kernel
theorem okX2 : ∀ k, k < Nc 2 → parseFieldDescriptor (Tc 2 k).2.2.1 = some (yc 2 k) := by decide +kernel
theorem shX2 : (sh 2).length = Nc 2 ∧ ∀ k, k < Nc 2 → ((sh 2)[k]? = some true ∧ defaultValue (yc 2 k) = .null ∨ (sh 2)[k]? = some false ∧ defaultValue (yc 2 k) = .int 0) := by decide +kernel
theorem inaX3 : ∀ w ∈ u_ws (Cc 3) (Tc 3) (Nc 3), w ∈ lw_tbl := by decide +kernel
theorem inX3 : ∀ w ∈ u_ws (Cc 3) (Tc 3) (Nc 3), w ∈ gtb := fun w h => List.mem_filter.mpr ⟨inaX3 w h, (by decide +kernel : ∀ w ∈ u_ws (Cc 3) (Tc 3) (Nc 3), goodWord w = true) w h⟩
theorem nmX3 : ∀ a, a < Nc 3 → ∀ b, b < Nc 3 → a ≠ b → (Tc 3 a).2.1 ≠ (Tc 3 b).2.1 := by decide +kernel
theorem okX3 : ∀ k, k < Nc 3 → parseFieldDescriptor (Tc 3 k).2.2.1 = some (yc 3 k) := by decide +kernel
theorem shX3 : (sh 3).length = Nc 3 ∧ ∀ k, k < Nc 3 → ((sh 3)[k]? = some true ∧ defaultValue (yc 3 k) = .null ∨ (sh 3)[k]? = some false ∧ defaultValue (yc 3 k) = .int 0) := by decide +kernel
theorem inaX4 : ∀ w ∈ u_ws (Cc 4) (Tc 4) (Nc 4), w ∈ lw_tbl := by decide +kernel
theorem inX4 : ∀ w ∈ u_ws (Cc 4) (Tc 4) (Nc 4), w ∈ gtb := fun w h => List.mem_filter.mpr ⟨inaX4 w h, (by decide +kernel : ∀ w ∈ u_ws (Cc 4) (Tc 4) (Nc 4), goodWord w = true) w h⟩
theorem nmX4 : ∀ a, a < Nc 4 → ∀ b, b < Nc 4 → a ≠ b → (Tc 4 a).2.1 ≠ (Tc 4 b).2.1 := by decide +kernel
theorem okX4 : ∀ k, k < Nc 4 → parseFieldDescriptor (Tc 4 k).2.2.1 = some (yc 4 k) := by decide +kernel
theorem shX4 : (sh 4).length = Nc 4 ∧ ∀ k, k < Nc 4 → ((sh 4)[k]? = some true ∧ defaultValue (yc 4 k) = .null ∨ (sh 4)[k]? = some false ∧ defaultValue (yc 4 k) = .int 0) := by decide +kernel
theorem inaX5 : ∀ w ∈ u_ws (Cc 5) (Tc 5) (Nc 5), w ∈ lw_tbl := by decide +kernel
theorem inX5 : ∀ w ∈ u_ws (Cc 5) (Tc 5) (Nc 5), w ∈ gtb := fun w h => List.mem_filter.mpr ⟨inaX5 w h, (by decide +kernel : ∀ w ∈ u_ws (Cc 5) (Tc 5) (Nc 5), goodWord w = true) w h⟩
theorem nmX5 : ∀ a, a < Nc 5 → ∀ b, b < Nc 5 → a ≠ b → (Tc 5 a).2.1 ≠ (Tc 5 b).2.1 := by decide +kernel
theorem okX5 : ∀ k, k < Nc 5 → parseFieldDescriptor (Tc 5 k).2.2.1 = some (yc 5 k) := by decide +kernel
theorem shX5 : (sh 5).length = Nc 5 ∧ ∀ k, k < Nc 5 → ((sh 5)[k]? = some true ∧ defaultValue (yc 5 k) = .null ∨ (sh 5)[k]? = some false ∧ defaultValue (yc 5 k) = .int 0) := by decide +kernel
theorem inaX6 : ∀ w ∈ u_ws (Cc 6) (Tc 6) (Nc 6), w ∈ lw_tbl := by decide +kernel
theorem inX6 : ∀ w ∈ u_ws (Cc 6) (Tc 6) (Nc 6), w ∈ gtb := fun w h => List.mem_filter.mpr ⟨inaX6 w h, (by decide +kernel : ∀ w ∈ u_ws (Cc 6) (Tc 6) (Nc 6), goodWord w = true) w h⟩
theorem nmX6 : ∀ a, a < Nc 6 → ∀ b, b < Nc 6 → a ≠ b → (Tc 6 a).2.1 ≠ (Tc 6 b).2.1 := by decide +kernel
theorem okX6 : ∀ k, k < Nc 6 → parseFieldDescriptor (Tc 6 k).2.2.1 = some (yc 6 k) := by decide +kernel
theorem shX6 : (sh 6).length = Nc 6 ∧ ∀ k, k < Nc 6 → ((sh 6)[k]? = some true ∧ defaultValue (yc 6 k) = .null ∨ (sh 6)[k]? = some false ∧ defaultValue (yc 6 k) = .int 0) := by decide +kernel
theorem inaX7 : ∀ w ∈ u_ws (Cc 7) (Tc 7) (Nc 7), w ∈ lw_tbl := by decide +kernel
theorem inX7 : ∀ w ∈ u_ws (Cc 7) (Tc 7) (Nc 7), w ∈ gtb := fun w h => List.mem_filter.mpr ⟨inaX7 w h, (by decide +kernel : ∀ w ∈ u_ws (Cc 7) (Tc 7) (Nc 7), goodWord w = true) w h⟩
theorem nmX7 : ∀ a, a < Nc 7 → ∀ b, b < Nc 7 → a ≠ b → (Tc 7 a).2.1 ≠ (Tc 7 b).2.1 := by decide +kernel
theorem okX7 : ∀ k, k < Nc 7 → parseFieldDescriptor (Tc 7 k).2.2.1 = some (yc 7 k) := by decide +kernel
theorem shX7 : (sh 7).length = Nc 7 ∧ ∀ k, k < Nc 7 → ((sh 7)[k]? = some true ∧ defaultValue (yc 7 k) = .null ∨ (sh 7)[k]? = some false ∧ defaultValue (yc 7 k) = .int 0) := by decide +kernel
theorem inaX8 : ∀ w ∈ u_ws (Cc 8) (Tc 8) (Nc 8), w ∈ lw_tbl := by decide +kernel
theorem inX8 : ∀ w ∈ u_ws (Cc 8) (Tc 8) (Nc 8), w ∈ gtb := fun w h => List.mem_filter.mpr ⟨inaX8 w h, (by decide +kernel : ∀ w ∈ u_ws (Cc 8) (Tc 8) (Nc 8), goodWord w = true) w h⟩
theorem nmX8 : ∀ a, a < Nc 8 → ∀ b, b < Nc 8 → a ≠ b → (Tc 8 a).2.1 ≠ (Tc 8 b).2.1 := by decide +kernel
theorem okX8 : ∀ k, k < Nc 8 → parseFieldDescriptor (Tc 8 k).2.2.1 = some (yc 8 k) := by decide +kernel
theorem shX8 : (sh 8).length = Nc 8 ∧ ∀ k, k < Nc 8 → ((sh 8)[k]? = some true ∧ defaultValue (yc 8 k) = .null ∨ (sh 8)[k]? = some false ∧ defaultValue (yc 8 k) = .int 0) := by decide +kernel
theorem inaX9 : ∀ w ∈ u_ws (Cc 9) (Tc 9) (Nc 9), w ∈ lw_tbl := by decide +kernel
theorem inX9 : ∀ w ∈ u_ws (Cc 9) (Tc 9) (Nc 9), w ∈ gtb := fun w h => List.mem_filter.mpr ⟨inaX9 w h, (by decide +kernel : ∀ w ∈ u_ws (Cc 9) (Tc 9) (Nc 9), goodWord w = true) w h⟩
theorem nmX9 : ∀ a, a < Nc 9 → ∀ b, b < Nc 9 → a ≠ b → (Tc 9 a).2.1 ≠ (Tc 9 b).2.1 := by decide +kernel
theorem okX9 : ∀ k, k < Nc 9 → parseFieldDescriptor (Tc 9 k).2.2.1 = some (yc 9 k) := by decide +kernel
theorem shX9 : (sh 9).length = Nc 9 ∧ ∀ k, k < Nc 9 → ((sh 9)[k]? = some true ∧ defaultValue (yc 9 k) = .null ∨ (sh 9)[k]? = some false ∧ defaultValue (yc 9 k) = .int 0) := by decide +kernel
theorem inaX10 : ∀ w ∈ u_ws (Cc 10) (Tc 10) (Nc 10), w ∈ lw_tbl := by decide +kernel
theorem inX10 : ∀ w ∈ u_ws (Cc 10) (Tc 10) (Nc 10), w ∈ gtb := fun w h => List.mem_filter.mpr ⟨inaX10 w h, (by decide +kernel : ∀ w ∈ u_ws (Cc 10) (Tc 10) (Nc 10), goodWord w = true) w h⟩
theorem nmX10 : ∀ a, a < Nc 10 → ∀ b, b < Nc 10 → a ≠ b → (Tc 10 a).2.1 ≠ (Tc 10 b).2.1 := by decide +kernel
theorem okX10 : ∀ k, k < Nc 10 → parseFieldDescriptor (Tc 10 k).2.2.1 = some (yc 10 k) := by decide +kernel
theorem shX10 : (sh 10).length = Nc 10 ∧ ∀ k, k < Nc 10 → ((sh 10)[k]? = some true ∧ defaultValue (yc 10 k) = .null ∨ (sh 10)[k]? = some false ∧ defaultValue (yc 10 k) = .int 0) := by decide +kernel
theorem inaX11 : ∀ w ∈ u_ws (Cc 11) (Tc 11) (Nc 11), w ∈ lw_tbl := by decide +kernel
theorem inX11 : ∀ w ∈ u_ws (Cc 11) (Tc 11) (Nc 11), w ∈ gtb := fun w h => List.mem_filter.mpr ⟨inaX11 w h, (by decide +kernel : ∀ w ∈ u_ws (Cc 11) (Tc 11) (Nc 11), goodWord w = true) w h⟩
theorem nmX11 : ∀ a, a < Nc 11 → ∀ b, b < Nc 11 → a ≠ b → (Tc 11 a).2.1 ≠ (Tc 11 b).2.1 := by decide +kernel
theorem okX11 : ∀ k, k < Nc 11 → parseFieldDescriptor (Tc 11 k).2.2.1 = some (yc 11 k) := by decide +kernel
theorem shX11 : (sh 11).length = Nc 11 ∧ ∀ k, k < Nc 11 → ((sh 11)[k]? = some true ∧ defaultValue (yc 11 k) = .null ∨ (sh 11)[k]? = some false ∧ defaultValue (yc 11 k) = .int 0) := by decide +kernel
theorem inaX12 : ∀ w ∈ u_ws (Cc 12) (Tc 12) (Nc 12), w ∈ lw_tbl := by decide +kernel
theorem inX12 : ∀ w ∈ u_ws (Cc 12) (Tc 12) (Nc 12), w ∈ gtb := fun w h => List.mem_filter.mpr ⟨inaX12 w h, (by decide +kernel : ∀ w ∈ u_ws (Cc 12) (Tc 12) (Nc 12), goodWord w = true) w h⟩
theorem nmX12 : ∀ a, a < Nc 12 → ∀ b, b < Nc 12 → a ≠ b → (Tc 12 a).2.1 ≠ (Tc 12 b).2.1 := by decide +kernel
theorem okX12 : ∀ k, k < Nc 12 → parseFieldDescriptor (Tc 12 k).2.2.1 = some (yc 12 k) := by decide +kernel
theorem shX12 : (sh 12).length = Nc 12 ∧ ∀ k, k < Nc 12 → ((sh 12)[k]? = some true ∧ defaultValue (yc 12 k) = .null ∨ (sh 12)[k]? = some false ∧ defaultValue (yc 12 k) = .int 0) := by decide +kernel
abbrev Meth : Type := MethodName × ByteArray × Nat × Option FieldType
def ClOk (c : Nat) : Prop := classes[c]? = some (Cc c, Tc c, Nc c) ∧ (∀ w ∈ u_ws (Cc c) (Tc c) (Nc c), w ∈ gtb) ∧ (∀ a, a < Nc c → ∀ b, b < Nc c → a ≠ b → (Tc c a).2.1 ≠ (Tc c b).2.1) ∧ (∀ k, k < Nc c → parseFieldDescriptor (Tc c k).2.2.1 = some (yc c k)) ∧ (sh c).length = Nc c ∧ ∀ k, k < Nc c → ((sh c)[k]? = some true ∧ defaultValue (yc c k) = .null ∨ (sh c)[k]? = some false ∧ defaultValue (yc c k) = .int 0)
theorem clX0 : ClOk 0 := ⟨rfl, inX0, nmX0, okX0, shX0⟩
theorem clX1 : ClOk 1 := ⟨rfl, inX1, nmX1, okX1, shX1⟩
theorem clX2 : ClOk 2 := ⟨rfl, inX2, nmX2, okX2, shX2⟩
theorem clX3 : ClOk 3 := ⟨rfl, inX3, nmX3, okX3, shX3⟩
theorem clX4 : ClOk 4 := ⟨rfl, inX4, nmX4, okX4, shX4⟩
theorem clX5 : ClOk 5 := ⟨rfl, inX5, nmX5, okX5, shX5⟩
theorem clX6 : ClOk 6 := ⟨rfl, inX6, nmX6, okX6, shX6⟩
theorem clX7 : ClOk 7 := ⟨rfl, inX7, nmX7, okX7, shX7⟩
theorem clX8 : ClOk 8 := ⟨rfl, inX8, nmX8, okX8, shX8⟩
theorem clX9 : ClOk 9 := ⟨rfl, inX9, nmX9, okX9, shX9⟩
theorem clX10 : ClOk 10 := ⟨rfl, inX10, nmX10, okX10, shX10⟩
theorem clX11 : ClOk 11 := ⟨rfl, inX11, nmX11, okX11, shX11⟩
theorem clX12 : ClOk 12 := ⟨rfl, inX12, nmX12, okX12, shX12⟩
theorem cl_ok : ∀ c, c < 13 → ClOk c
  | 0, _ => clX0
  | 1, _ => clX1
  | 2, _ => clX2
  | 3, _ => clX3
  | 4, _ => clX4
  | 5, _ => clX5
  | 6, _ => clX6
  | 7, _ => clX7
  | 8, _ => clX8
  | 9, _ => clX9
  | 10, _ => clX10
  | 11, _ => clX11
  | 12, _ => clX12
  | c + 13, h => absurd h (by omega)
theorem good_in {ws : List Cond} (h : ∀ w ∈ ws, w ∈ gtb) : GoodIn gtb ws := fun w hw => ⟨h w hw, good_of_word (List.mem_filter.mp (h w hw)).2⟩
end
section
-- THE FRAME: a memory of fields and arrays as functions (Rep), a judgement over it alone (V), contracts (Sem)
abbrev TT : Type := Nat → Nat × Nat
abbrev MI : Type := Nat → Nat → Int32
abbrev MR : Type := Nat → Nat → Option Nat
abbrev PP : Type := Option Value → Nat → TT → MI → MR → MI → MR → Prop
def rty : Nat → FieldType := fun j => match j with
  | 0 => .object "FleetStores$Place"
  | 1 => .object "FleetStores$Kind"
  | 2 => .object "FleetStores$Store"
  | 3 => .object "FleetStores$Lot"
  | 4 => .object "FleetStores$Contract"
  | _ => .array .int
/-- the fields of an object of class c, by its ints and its references -/
def fl (c : Nat) (iv : Nat → Int32) (rv : Nat → Option Nat) : List Value := (sh c).mapIdx fun k b => if b then va_rf (rv (100 * c + k)) else .int (iv (100 * c + k))
def CellOk (D : va_G) (U : State) (τ : Nat × Nat) (iv : Nat → Int32) (rv : Nat → Option Nat) (jv : Nat → Int32) (bv : Nat → Option Nat) (a : Nat) (H : Heap) : Prop :=
  (∀ c, τ.1 = c + 1 → c < 13 → va_at D classes (a, .inr (c, fl c iv rv)) H) ∧
  (τ.1 = 20 → ∃ cA : ClassId, (ArrOfT U cA .int ∧ va_RA U cA .int) ∧ H[a]? = some (vp_cell cA (τ.2, .inl jv))) ∧
  (∀ j, τ.1 = 21 + j → j < 6 → ∃ cA : ClassId, (ArrOfT U cA (rty j) ∧ va_RA U cA (rty j)) ∧ H[a]? = some (vp_cell cA (τ.2, .inr (.inr (.inr (.inr bv))))))
def Rep (D : va_G) (A : Nat → Prop) (U : State) (z : Nat) (t : TT) (I : MI) (R : MR) (J : MI) (B : MR) (H : Heap) : Prop :=
  va_K D classes [] U ∧ H.size = z ∧ ∀ a, (t a).1 ≠ 0 → (A a ∧ a < z) ∧ CellOk D U (t a) (fun f => I f a) (fun f => R f a) (J a) (B a) a H
theorem CellOk.moved {D : va_G} {u U : State} (hvm : u.vm.Alike U.vm) {τ : Nat × Nat} {iv : Nat → Int32} {rv : Nat → Option Nat} {jv : Nat → Int32} {bv : Nat → Option Nat} {a : Nat} {H : Heap} (h : CellOk D u τ iv rv jv bv a H) : CellOk D U τ iv rv jv bv a H := by
  refine ⟨h.1, fun q => ?_, fun j q hj => ?_⟩
  · obtain ⟨cA, ⟨h1, h2⟩, h3⟩ := h.2.1 q
    exact ⟨cA, ⟨arrOfT_moved hvm h1, h2.moved hvm⟩, h3⟩
  · obtain ⟨cA, ⟨h1, h2⟩, h3⟩ := h.2.2 j q hj
    exact ⟨cA, ⟨arrOfT_moved hvm h1, h2.moved hvm⟩, h3⟩
theorem CellOk.kept {D : va_G} {U : State} {τ : Nat × Nat} {iv : Nat → Int32} {rv : Nat → Option Nat} {jv : Nat → Int32} {bv : Nat → Option Nat} {a : Nat} {H H1 : Heap} (h : CellOk D U τ iv rv jv bv a H) (hq : H1[a]? = H[a]?) : CellOk D U τ iv rv jv bv a H1 := by
  refine ⟨fun c q hc => (h.1 c q hc).kept hq, fun q => ?_, fun j q hj => ?_⟩
  · obtain ⟨cA, h1, h3⟩ := h.2.1 q
    exact ⟨cA, h1, hq.trans h3⟩
  · obtain ⟨cA, h1, h3⟩ := h.2.2 j q hj
    exact ⟨cA, h1, hq.trans h3⟩
theorem Rep.moved {D : va_G} {A : Nat → Prop} {u U : State} (hvm : u.vm.Alike U.vm) {z : Nat} {t : TT} {I : MI} {R : MR} {J : MI} {B : MR} {H : Heap} (h : Rep D A u z t I R J B H) : Rep D A U z t I R J B H :=
  ⟨va_K.moved hvm h.1, h.2.1, fun a ha => ⟨(h.2.2 a ha).1, (h.2.2 a ha).2.moved hvm⟩⟩
/-- one cell has changed -/
theorem Rep.put {D : va_G} {A : Nat → Prop} {U : State} {z : Nat} {t : TT} {I I' : MI} {R R' : MR} {J J' : MI} {B B' : MR} {H H1 : Heap} {a : Nat} (h : Rep D A U z t I R J B H) (hz : H1.size = H.size) (ho : ∀ q, q ≠ a → H1[q]? = H[q]?)
    (hI : ∀ f b, b ≠ a → I' f b = I f b) (hR : ∀ f b, b ≠ a → R' f b = R f b) (hJ : ∀ b, b ≠ a → J' b = J b) (hB : ∀ b, b ≠ a → B' b = B b) (hc : CellOk D U (t a) (fun f => I' f a) (fun f => R' f a) (J' a) (B' a) a H1) : Rep D A U z t I' R' J' B' H1 := by
  refine ⟨h.1, hz.trans h.2.1, fun b hb => ⟨(h.2.2 b hb).1, ?_⟩⟩
  by_cases e : b = a
  · subst e; exact hc
  · have h1 := (h.2.2 b hb).2.kept (ho b e)
    rw [show (fun f => I' f b) = (fun f => I f b) from funext fun f => hI f b e, show (fun f => R' f b) = (fun f => R f b) from funext fun f => hR f b e, hJ b e, hB b e]
    exact h1
/-- a cell has come -/
theorem Rep.push {D : va_G} {A : Nat → Prop} {U : State} {z : Nat} {t t' : TT} {I I' : MI} {R R' : MR} {J J' : MI} {B B' : MR} {H H1 : Heap} (h : Rep D A U z t I R J B H) (hA : A z) (hz : H1.size = z + 1) (ho : ∀ q, q < z → H1[q]? = H[q]?)
    (ht : ∀ b, b ≠ z → t' b = t b) (hI : ∀ f b, b ≠ z → I' f b = I f b) (hR : ∀ f b, b ≠ z → R' f b = R f b) (hJ : ∀ b, b ≠ z → J' b = J b) (hB : ∀ b, b ≠ z → B' b = B b) (hc : CellOk D U (t' z) (fun f => I' f z) (fun f => R' f z) (J' z) (B' z) z H1) : Rep D A U (z + 1) t' I' R' J' B' H1 := by
  refine ⟨h.1, hz, fun b hb => ?_⟩
  by_cases e : b = z
  · subst e; exact ⟨⟨hA, Nat.lt_succ_self _⟩, hc⟩
  · rw [ht b e] at hb ⊢
    obtain ⟨⟨h0, h00⟩, h1⟩ := h.2.2 b hb
    have h1 := h1.kept (ho b h00)
    rw [show (fun f => I' f b) = (fun f => I f b) from funext fun f => hI f b e, show (fun f => R' f b) = (fun f => R f b) from funext fun f => hR f b e, hJ b e, hB b e]
    exact ⟨⟨h0, Nat.lt_succ_of_lt h00⟩, h1⟩
-- locals by their places; none: nothing known
def lp (ls : Array Slot) (nL : Nat) (lv : List (Option Value)) : Prop := ls.size = nL ∧ lv_wf ls ∧ ∀ (i : Nat) (v : Value), lv[i]? = some (some v) → ls[i]? = some (.val v)
def lassoc (lv : List (Option Value)) : List (Nat × Value) := lv.zipIdx.filterMap fun q => q.1.map fun v => (q.2, v)
theorem lassoc_mem {lv : List (Option Value)} {i : Nat} {v : Value} : (i, v) ∈ lassoc lv ↔ lv[i]? = some (some v) := by
  unfold lassoc
  rw [List.mem_filterMap]
  constructor
  · rintro ⟨⟨o, j⟩, hm, he⟩
    have h1 := List.mk_mem_zipIdx_iff_getElem?.mp hm
    cases o with
    | none => simp at he
    | some w =>
      simp only [Option.map_some, Option.some.injEq, Prod.mk.injEq] at he
      obtain ⟨rfl, rfl⟩ := he
      exact h1
  · intro h
    exact ⟨(some v, i), List.mk_mem_zipIdx_iff_getElem?.mpr h, rfl⟩
theorem lp.has {ls : Array Slot} {nL : Nat} {lv : List (Option Value)} (h : lp ls nL lv) : lv_has ls nL (lassoc lv) := ⟨h.1, h.2.1, fun q hq => h.2.2 q.1 q.2 (lassoc_mem.mp hq)⟩
/-- no value of two slots -/
def noL (o : Option Value) : Prop := ∀ v, o = some v → v.category = 1
theorem noL_n : noL none := fun _ h => by cases h
theorem noL_i (x : Int32) : noL (some (.int x)) := fun _ h => by cases h; rfl
theorem noL_r (r : Option Nat) : noL (some (va_rf r)) := fun _ h => by cases h; cases r <;> rfl
theorem cat_rf (r : Option Nat) : (va_rf r).category = 1 := by cases r <;> rfl
theorem lp.set {ls ls' : Array Slot} {nL i : Nat} {v : Value} {lv : List (Option Value)} (h : lv_has ls' nL ((i, v) :: (lassoc lv).filter (fun q => !(q.1 == i) && !(q.1 + 1 == i && q.2.category == 2)))) (hp : ∀ j, j + 1 = i → noL (lv.getD j none)) (hi : i < lv.length) : lp ls' nL (lv.set i (some v)) := by
  refine ⟨h.1, h.2.1, fun j w hw => ?_⟩
  by_cases e : j = i
  · subst e
    rw [List.getElem?_set_self hi] at hw
    cases hw
    exact h.2.2 (j, v) List.mem_cons_self
  · rw [List.getElem?_set_ne (Ne.symm e)] at hw
    refine h.2.2 (j, w) (List.mem_cons_of_mem _ (List.mem_filter.mpr ⟨lassoc_mem.mpr hw, ?_⟩))
    have : ¬ (j + 1 = i ∧ w.category = 2) := fun ⟨q1, q2⟩ => by
      have h3 := hp j q1 w (by simp [List.getD, hw])
      omega
    by_cases e2 : j + 1 = i
    · have e3 : ¬ w.category = 2 := fun q => this ⟨e2, q⟩
      simp [e, e3]
    · simp [e, e2]
/-- the extra facts that no word of gtb says -/
def nests : List Cond := [.methodLinkNest "FleetStores$Store" 25 ⟨"FleetStores$Table", "<init>", "()V"⟩ "FleetStores", .methodLinkNest "FleetStores$Lots" 21 ⟨"FleetStores", "within", "(III)Z"⟩ "FleetStores", .methodLinkNest "FleetStores$Tape" 15 ⟨"FleetStores", "byteOf", "(II)I"⟩ "FleetStores", .methodLinkNest "FleetStores$Tape" 23 ⟨"FleetStores", "within", "(III)Z"⟩ "FleetStores", .methodLinkNest "FleetStores$Reader" 46 ⟨"FleetStores", "within", "(III)Z"⟩ "FleetStores"]
def Xt (U : State) : Prop := (∀ w ∈ nests, va_Nw w U) ∧ va_AO "FleetStores$Place" U ∧ va_AO "FleetStores$Kind" U ∧ va_AO "FleetStores$Store" U ∧ va_AO "FleetStores$Lot" U ∧ va_AO "FleetStores$Contract" U ∧ va_Nw (.arrayOver (.array .int)) U
def rmm (d mc ms : Nat) : Room := { frames := d, cells := mc, slots := ms, locals := 34 * d }
def wsm (μ : Meth) : List Cond := .code μ.1 μ.2.1 μ.2.2.1 μ.2.2.2 :: gtb
def Qcm (D : va_G) (A : Nat → Prop) (Φ : PP) : Array Value → State → Outcome → State → Prop := fun _ st o u => (∃ (r : Option Value) (z : Nat) (t : TT) (I : MI) (R : MR) (J : MI) (B : MR), o = .returned r ∧ Φ r z t I R J B ∧ Rep D A u z t I R J B u.heap) ∧ va_F A st u
/-- a contract: from every state that holds the memory, the method returns, and Φ holds of its answer and of the memory behind it -/
def Sem (l : Launch) (D : va_G) (A : Nat → Prop) (d mc ms : Nat) (μ : Meth) (av : List Value) (z : Nat) (t : TT) (I : MI) (R : MR) (J : MI) (B : MR) (Φ : PP) : Prop :=
  Met l μ.1 (wsm μ) (rmm d mc ms) (va_Pc av (fun U => Xt U ∧ Rep D A U z t I R J B U.heap)) (Qcm D A Φ) mc ms A
abbrev Kx : Type := (List Frame → Array Value → State → State → Prop) × (State → Array Value → Prop)
def Cx (μ : Meth) (p : Program) (s : State) (m : MethodId) (args : Array Value) (meth : Method) (c : Code) : Prop :=
  p.tables.exec = Jvm.exec ∧ c.code = μ.2.1 ∧ c.maxLocals = μ.2.2.1 ∧ meth.sig.returnType = μ.2.2.2 ∧ s.vm.findClass μ.1.cls = some m.cls ∧ (∀ w ∈ gtb, w.before args s = true) ∧ meth.locks = false ∧ meth.name = μ.1.name ∧ Xt s
/-- the machine, at pc with these locals and this stack over this memory, comes to its end -/
def V (l : Launch) (D : va_G) (A : Nat → Prop) (Rm : Room) (μ : Meth) (K : Kx) (k n z : Nat) (t : TT) (I : MI) (R : MR) (J : MI) (B : MR) (pc : Nat) (lv : List (Option Value)) (st : List Value) : Prop :=
  ∀ (p : Program) (e : Env) (s : State) (m : MethodId) (args : Array Value) (below : List Frame) (meth : Method) (c : Code), Cx μ p s m args meth c → K.2 s args → ∀ (H : Heap) (locs : List Loc) (ls : Array Slot), Rep D A s z t I R J B H → va_S A s.heap H locs → lp ls μ.2.2.1 lv → W p l e Rm s m args below meth c H locs k n (K.1 below args s) (F0 m pc ls st)
def KS (D : va_G) (A : Nat → Prop) (mc ms : Nat) (Φ : PP) : Kx := (fun below args s => MQ below (Qcm D A Φ) args s mc ms A, fun _ _ => True)
def entl (av : List Value) (nL : Nat) (lv : List (Option Value)) : Prop := (lg_sl av).length ≤ nL ∧ ∀ (i : Nat) (v : Value), lv[i]? = some (some v) → (i, v) ∈ lv_args 0 av
theorem Sem.of_V {l : Launch} {D : va_G} {A : Nat → Prop} {d mc ms : Nat} {μ : Meth} {av : List Value} {z : Nat} {t : TT} {I : MI} {R : MR} {J : MI} {B : MR} {Φ : PP} (lv : List (Option Value)) (hy : plainName μ.1.cls = true) (he : entl av μ.2.2.1 lv)
    (kk : V l D A (rmm d mc ms) μ (KS D A mc ms Φ) 0 0 z t I R J B 0 lv []) : Sem l D A d mc ms μ av z t I R J B Φ := by
  refine Met.ofW (cc := μ.2.1) (maxL := μ.2.2.1) (ret := μ.2.2.2) hy rfl ?_
  intro p e s m args below meth c s₁ Bd hml hv
  obtain ⟨rfl, hX, hR⟩ := hv
  have hts := atoms_spec (ws := wsm μ) Bd.pre
  have hown : s.vm.findClass μ.1.cls = some m.cls := findClass_of_methodNamed Bd.named
  have hl := lv_entry av (n := μ.2.2.1) he.1
  rw [lg_entry_eq]
  exact kk p e s m _ below meth c ⟨Bd.exec, Bd.bytes, hml, Bd.returns, hown, fun w hw => hts w (List.mem_cons_of_mem _ hw), Bd.notSynchronized, (name_of_methodNamed Bd.named Bd.method).1, hX⟩ trivial s.heap [] _ hR va_S.rf ⟨hl.1, hl.2.1, fun i v h => hl.2.2 (i, v) (he.2 i v h)⟩
end
section
-- ONE ROW AN INSTRUCTION, over V
def up2 {α : Type} (M : Nat → Nat → α) (f a : Nat) (v : α) : Nat → Nat → α := va_up M f (va_up (M f) a v)
theorem up2_self {α : Type} (M : Nat → Nat → α) (f a : Nat) (v : α) : up2 M f a v f = va_up (M f) a v := va_up_self _ _ _
theorem up2_ne {α : Type} (M : Nat → Nat → α) {f g : Nat} (a : Nat) (v : α) (h : g ≠ f) : up2 M f a v g = M g := va_up_ne _ _ h
theorem up2_off {α : Type} (M : Nat → Nat → α) (f g : Nat) {a b : Nat} (v : α) (h : b ≠ a) : up2 M f a v g b = M g b := by
  by_cases e : g = f
  · subst e; rw [up2_self, va_up_ne _ _ h]
  · rw [up2_ne _ _ _ e]
theorem up2_col {α : Type} (M : Nat → Nat → α) (f a : Nat) (v : α) : (fun g => up2 M f a v g a) = va_up (fun g => M g a) f v := by
  funext g
  by_cases e : g = f
  · subst e; rw [up2_self, va_up_self, va_up_self]
  · rw [up2_ne _ _ _ e, va_up_ne _ _ e]
theorem fl_get {c k : Nat} {iv : Nat → Int32} {rv : Nat → Option Nat} {b : Bool} (h : (sh c)[k]? = some b) : (fl c iv rv)[k]? = some (if b then va_rf (rv (100 * c + k)) else .int (iv (100 * c + k))) := by
  unfold fl; rw [List.getElem?_mapIdx, h]; rfl
theorem fl_len (c : Nat) (iv : Nat → Int32) (rv : Nat → Option Nat) : (fl c iv rv).length = (sh c).length := by unfold fl; rw [List.length_mapIdx]
theorem fl_setI {c k : Nat} {iv : Nat → Int32} {rv : Nat → Option Nat} (h : (sh c)[k]? = some false) (v : Int32) : (fl c iv rv).set k (.int v) = fl c (va_up iv (100 * c + k) v) rv := by
  apply List.ext_getElem?
  intro j
  by_cases e : k = j
  · subst e
    have hl : k < (fl c iv rv).length := by rw [fl_len]; exact (List.getElem?_eq_some_iff.mp h).1
    rw [List.getElem?_set_self hl, fl_get h]
    simp [va_up_self]
  · rw [List.getElem?_set_ne e]
    unfold fl
    rw [List.getElem?_mapIdx, List.getElem?_mapIdx]
    rw [va_up_ne _ _ (show 100 * c + j ≠ 100 * c + k by omega)]
theorem fl_setR {c k : Nat} {iv : Nat → Int32} {rv : Nat → Option Nat} (h : (sh c)[k]? = some true) (v : Option Nat) : (fl c iv rv).set k (va_rf v) = fl c iv (va_up rv (100 * c + k) v) := by
  apply List.ext_getElem?
  intro j
  by_cases e : k = j
  · subst e
    have hl : k < (fl c iv rv).length := by rw [fl_len]; exact (List.getElem?_eq_some_iff.mp h).1
    rw [List.getElem?_set_self hl, fl_get h]
    simp [va_up_self]
  · rw [List.getElem?_set_ne e]
    unfold fl
    rw [List.getElem?_mapIdx, List.getElem?_mapIdx]
    rw [va_up_ne _ _ (show 100 * c + j ≠ 100 * c + k by omega)]
def psh (r : Option Value) (st : List Value) : List Value := match r with
  | some v => v :: st
  | none => st
theorem psh_eq (r : Option Value) (st : List Value) : r.toList ++ st = psh r st := by cases r <;> rfl
theorem cat_le (v : Value) : v.category ≤ 2 := by cases v <;> simp [Value.category]
theorem cat_sum (st : List Value) : (st.map fun v => v.category).sum ≤ 2 * st.length := by
  induction st with
  | nil => simp
  | cons v st ih =>
    have h1 := cat_le v
    simp only [List.map_cons, List.sum_cons, List.length_cons]
    omega
abbrev D1 (cc : ByteArray) (pc : Nat) (i : Instr) (pc' : Nat) : Prop := decode cc pc = .ok (i, 1) ∧ pc + 1 = pc'
abbrev D2 (cc : ByteArray) (pc : Nat) (i : Instr) (pc' : Nat) : Prop := decode cc pc = .ok (i, 2) ∧ pc + 2 = pc'
abbrev D3 (cc : ByteArray) (pc : Nat) (i : Instr) (pc' : Nat) : Prop := decode cc pc = .ok (i, 3) ∧ pc + 3 = pc'
abbrev Dj (cc : ByteArray) (pc : Nat) (i : Instr) (off : Int) (pc' tgt : Nat) : Prop := decode cc pc = .ok (i, 3) ∧ pc + 3 = pc' ∧ (pc : Int) + off = (tgt : Int)
def Dconst (cc : ByteArray) (pc : Nat) (v : Int32) (pc' : Nat) : Prop := (∃ q : Int, decode cc pc = .ok (.iconst q, 1) ∧ Int32.ofInt q = v ∧ pc + 1 = pc') ∨ (∃ q : Int, decode cc pc = .ok (.bipush q, 2) ∧ (Int8.ofInt q).toInt32 = v ∧ pc + 2 = pc') ∨ (∃ q : Int, decode cc pc = .ok (.sipush q, 3) ∧ (Int16.ofInt q).toInt32 = v ∧ pc + 3 = pc')
def Diload (cc : ByteArray) (pc i pc' : Nat) : Prop := (∃ q : Fin 4, decode cc pc = .ok (.iload_n q, 1) ∧ (q : Nat) = i ∧ pc + 1 = pc') ∨ (decode cc pc = .ok (.iload i, 2) ∧ pc + 2 = pc')
def Daload (cc : ByteArray) (pc i pc' : Nat) : Prop := (∃ q : Fin 4, decode cc pc = .ok (.aload_n q, 1) ∧ (q : Nat) = i ∧ pc + 1 = pc') ∨ (decode cc pc = .ok (.aload i, 2) ∧ pc + 2 = pc')
def Dlload (cc : ByteArray) (pc i pc' : Nat) : Prop := (∃ q : Fin 4, decode cc pc = .ok (.lload_n q, 1) ∧ (q : Nat) = i ∧ pc + 1 = pc') ∨ (decode cc pc = .ok (.lload i, 2) ∧ pc + 2 = pc')
def Distore (cc : ByteArray) (pc i pc' : Nat) : Prop := (∃ q : Fin 4, decode cc pc = .ok (.istore_n q, 1) ∧ (q : Nat) = i ∧ pc + 1 = pc') ∨ (decode cc pc = .ok (.istore i, 2) ∧ pc + 2 = pc')
def Dastore (cc : ByteArray) (pc i pc' : Nat) : Prop := (∃ q : Fin 4, decode cc pc = .ok (.astore_n q, 1) ∧ (q : Nat) = i ∧ pc + 1 = pc') ∨ (decode cc pc = .ok (.astore i, 2) ∧ pc + 2 = pc')
def Diinc (cc : ByteArray) (pc i : Nat) (v : Int32) (pc' : Nat) : Prop := ∃ q : Int, decode cc pc = .ok (.iinc i q, 3) ∧ Int32.ofInt q = v ∧ pc + 3 = pc'
section ROWS
variable {l : Launch} {D : va_G} {A : Nat → Prop} {Rm : Room} {μ : Meth} {K : Kx} {k n z : Nat} {t : TT} {I : MI} {R : MR} {J : MI} {B : MR} {pc pc' tgt : Nat} {lv : List (Option Value)} {st : List Value}
theorem V.widen {k' n' : Nat} (h1 : k ≤ k') (h2 : n ≤ n') (kk : V l D A Rm μ K k' n' z t I R J B pc lv st) : V l D A Rm μ K k n z t I R J B pc lv st := by
  intro p e s m args below meth c C X H locs ls hR hS hl
  exact W.widen h1 h2 (kk p e s m args below meth c C X H locs ls hR hS hl)

theorem V_iadd {x y : Int32} (d : D1 μ.2.1 pc .iadd pc')  (kk : V l D A Rm μ K k n z t I R J B pc' lv (.int (x + y) :: st)) : V l D A Rm μ K k n z t I R J B pc lv (.int y :: .int x :: st) := by
  intro p e s m args below meth c C X H locs ls hR hS hl
  obtain ⟨d1, rfl⟩ := d
  exact lv_iadd C.1 C.2.1 d1  (kk p e s m args below meth c C X H locs ls hR hS hl)
theorem V_isub {x y : Int32} (d : D1 μ.2.1 pc .isub pc')  (kk : V l D A Rm μ K k n z t I R J B pc' lv (.int (x - y) :: st)) : V l D A Rm μ K k n z t I R J B pc lv (.int y :: .int x :: st) := by
  intro p e s m args below meth c C X H locs ls hR hS hl
  obtain ⟨d1, rfl⟩ := d
  exact lv_isub C.1 C.2.1 d1  (kk p e s m args below meth c C X H locs ls hR hS hl)
theorem V_imul {x y : Int32} (d : D1 μ.2.1 pc .imul pc')  (kk : V l D A Rm μ K k n z t I R J B pc' lv (.int (x * y) :: st)) : V l D A Rm μ K k n z t I R J B pc lv (.int y :: .int x :: st) := by
  intro p e s m args below meth c C X H locs ls hR hS hl
  obtain ⟨d1, rfl⟩ := d
  exact lv_imul C.1 C.2.1 d1  (kk p e s m args below meth c C X H locs ls hR hS hl)
theorem V_iand {x y : Int32} (d : D1 μ.2.1 pc .iand pc')  (kk : V l D A Rm μ K k n z t I R J B pc' lv (.int (x &&& y) :: st)) : V l D A Rm μ K k n z t I R J B pc lv (.int y :: .int x :: st) := by
  intro p e s m args below meth c C X H locs ls hR hS hl
  obtain ⟨d1, rfl⟩ := d
  exact lv_iand C.1 C.2.1 d1  (kk p e s m args below meth c C X H locs ls hR hS hl)
theorem V_idiv {x y : Int32} (d : D1 μ.2.1 pc .idiv pc') (hne : ¬ y = 0) (kk : V l D A Rm μ K k n z t I R J B pc' lv (.int (x / y) :: st)) : V l D A Rm μ K k n z t I R J B pc lv (.int y :: .int x :: st) := by
  intro p e s m args below meth c C X H locs ls hR hS hl
  obtain ⟨d1, rfl⟩ := d
  exact lv_idiv C.1 C.2.1 d1 hne (kk p e s m args below meth c C X H locs ls hR hS hl)
theorem V_irem {x y : Int32} (d : D1 μ.2.1 pc .irem pc') (hne : ¬ y = 0) (kk : V l D A Rm μ K k n z t I R J B pc' lv (.int (x - x / y * y) :: st)) : V l D A Rm μ K k n z t I R J B pc lv (.int y :: .int x :: st) := by
  intro p e s m args below meth c C X H locs ls hR hS hl
  obtain ⟨d1, rfl⟩ := d
  exact lv_irem C.1 C.2.1 d1 hne (kk p e s m args below meth c C X H locs ls hR hS hl)
theorem V_ineg {x : Int32} (d : D1 μ.2.1 pc .ineg pc')  (kk : V l D A Rm μ K k n z t I R J B pc' lv (.int (-x) :: st)) : V l D A Rm μ K k n z t I R J B pc lv (.int x :: st) := by
  intro p e s m args below meth c C X H locs ls hR hS hl
  obtain ⟨d1, rfl⟩ := d
  exact lv_ineg C.1 C.2.1 d1  (kk p e s m args below meth c C X H locs ls hR hS hl)
theorem V_ishr {x y : Int32} (d : D1 μ.2.1 pc .ishr pc')  (kk : V l D A Rm μ K k n z t I R J B pc' lv (.int (x >>> (y &&& 31)) :: st)) : V l D A Rm μ K k n z t I R J B pc lv (.int y :: .int x :: st) := by
  intro p e s m args below meth c C X H locs ls hR hS hl
  obtain ⟨d1, rfl⟩ := d
  exact lv_ishr C.1 C.2.1 d1  (kk p e s m args below meth c C X H locs ls hR hS hl)
theorem V_iushr {x y : Int32} (d : D1 μ.2.1 pc .iushr pc')  (kk : V l D A Rm μ K k n z t I R J B pc' lv (.int ((x.toUInt32 >>> (y.toUInt32 &&& Int32.toUInt32 31)).toInt32) :: st)) : V l D A Rm μ K k n z t I R J B pc lv (.int y :: .int x :: st) := by
  intro p e s m args below meth c C X H locs ls hR hS hl
  obtain ⟨d1, rfl⟩ := d
  exact lv_iushr C.1 C.2.1 d1 rfl (kk p e s m args below meth c C X H locs ls hR hS hl)
theorem V_i2l {x : Int32} (d : D1 μ.2.1 pc .i2l pc')  (kk : V l D A Rm μ K k n z t I R J B pc' lv (.long x.toInt64 :: st)) : V l D A Rm μ K k n z t I R J B pc lv (.int x :: st) := by
  intro p e s m args below meth c C X H locs ls hR hS hl
  obtain ⟨d1, rfl⟩ := d
  exact lv_i2l C.1 C.2.1 d1 rfl (kk p e s m args below meth c C X H locs ls hR hS hl)
theorem V_l2i {x : Int64} (d : D1 μ.2.1 pc .l2i pc')  (kk : V l D A Rm μ K k n z t I R J B pc' lv (.int x.toInt32 :: st)) : V l D A Rm μ K k n z t I R J B pc lv (.long x :: st) := by
  intro p e s m args below meth c C X H locs ls hR hS hl
  obtain ⟨d1, rfl⟩ := d
  exact lv_l2i C.1 C.2.1 d1 rfl (kk p e s m args below meth c C X H locs ls hR hS hl)
theorem V_ladd {x y : Int64} (d : D1 μ.2.1 pc .ladd pc')  (kk : V l D A Rm μ K k n z t I R J B pc' lv (.long (x + y) :: st)) : V l D A Rm μ K k n z t I R J B pc lv (.long y :: .long x :: st) := by
  intro p e s m args below meth c C X H locs ls hR hS hl
  obtain ⟨d1, rfl⟩ := d
  exact lv_ladd C.1 C.2.1 d1  (kk p e s m args below meth c C X H locs ls hR hS hl)
theorem V_lmul {x y : Int64} (d : D1 μ.2.1 pc .lmul pc')  (kk : V l D A Rm μ K k n z t I R J B pc' lv (.long (x * y) :: st)) : V l D A Rm μ K k n z t I R J B pc lv (.long y :: .long x :: st) := by
  intro p e s m args below meth c C X H locs ls hR hS hl
  obtain ⟨d1, rfl⟩ := d
  exact lv_lmul C.1 C.2.1 d1  (kk p e s m args below meth c C X H locs ls hR hS hl)
theorem V_lrem {x y : Int64} (d : D1 μ.2.1 pc .lrem pc') (hne : ¬ y = 0) (kk : V l D A Rm μ K k n z t I R J B pc' lv (.long (x - x / y * y) :: st)) : V l D A Rm μ K k n z t I R J B pc lv (.long y :: .long x :: st) := by
  intro p e s m args below meth c C X H locs ls hR hS hl
  obtain ⟨d1, rfl⟩ := d
  exact lv_lrem C.1 C.2.1 d1 hne (kk p e s m args below meth c C X H locs ls hR hS hl)
theorem V_land {x y : Int64} (d : D1 μ.2.1 pc .land pc')  (kk : V l D A Rm μ K k n z t I R J B pc' lv (.long (x &&& y) :: st)) : V l D A Rm μ K k n z t I R J B pc lv (.long y :: .long x :: st) := by
  intro p e s m args below meth c C X H locs ls hR hS hl
  obtain ⟨d1, rfl⟩ := d
  exact lv_land C.1 C.2.1 d1  (kk p e s m args below meth c C X H locs ls hR hS hl)
theorem V_lor {x y : Int64} (d : D1 μ.2.1 pc .lor pc')  (kk : V l D A Rm μ K k n z t I R J B pc' lv (.long (x ||| y) :: st)) : V l D A Rm μ K k n z t I R J B pc lv (.long y :: .long x :: st) := by
  intro p e s m args below meth c C X H locs ls hR hS hl
  obtain ⟨d1, rfl⟩ := d
  exact lv_lor C.1 C.2.1 d1  (kk p e s m args below meth c C X H locs ls hR hS hl)
theorem V_lshl {x : Int64} {y : Int32} (d : D1 μ.2.1 pc .lshl pc')  (kk : V l D A Rm μ K k n z t I R J B pc' lv (.long (x <<< (y.toInt64 &&& 63)) :: st)) : V l D A Rm μ K k n z t I R J B pc lv (.int y :: .long x :: st) := by
  intro p e s m args below meth c C X H locs ls hR hS hl
  obtain ⟨d1, rfl⟩ := d
  exact lv_lshl C.1 C.2.1 d1 rfl (kk p e s m args below meth c C X H locs ls hR hS hl)
theorem V_lushr {x : Int64} {y : Int32} (d : D1 μ.2.1 pc .lushr pc')  (kk : V l D A Rm μ K k n z t I R J B pc' lv (.long ((x.toUInt64 >>> (y.toInt64.toUInt64 &&& Int64.toUInt64 63)).toInt64) :: st)) : V l D A Rm μ K k n z t I R J B pc lv (.int y :: .long x :: st) := by
  intro p e s m args below meth c C X H locs ls hR hS hl
  obtain ⟨d1, rfl⟩ := d
  exact lv_lushr C.1 C.2.1 d1 rfl (kk p e s m args below meth c C X H locs ls hR hS hl)
theorem V_dupi {x : Int32} (d : D1 μ.2.1 pc .dup pc')  (kk : V l D A Rm μ K k n z t I R J B pc' lv (.int x :: .int x :: st)) : V l D A Rm μ K k n z t I R J B pc lv (.int x :: st) := by
  intro p e s m args below meth c C X H locs ls hR hS hl
  obtain ⟨d1, rfl⟩ := d
  exact lv_dup C.1 C.2.1 d1 rfl (kk p e s m args below meth c C X H locs ls hR hS hl)
theorem V_dupr {x : Option Nat} (d : D1 μ.2.1 pc .dup pc')  (kk : V l D A Rm μ K k n z t I R J B pc' lv (va_rf x :: va_rf x :: st)) : V l D A Rm μ K k n z t I R J B pc lv (va_rf x :: st) := by
  intro p e s m args below meth c C X H locs ls hR hS hl
  obtain ⟨d1, rfl⟩ := d
  exact lv_dup C.1 C.2.1 d1 (cat_rf x) (kk p e s m args below meth c C X H locs ls hR hS hl)
theorem V_dup2ir {x : Int32} {r : Option Nat} (d : D1 μ.2.1 pc .dup2 pc')  (kk : V l D A Rm μ K k n z t I R J B pc' lv (.int x :: va_rf r :: .int x :: va_rf r :: st)) : V l D A Rm μ K k n z t I R J B pc lv (.int x :: va_rf r :: st) := by
  intro p e s m args below meth c C X H locs ls hR hS hl
  obtain ⟨d1, rfl⟩ := d
  exact lv_dup2_11 C.1 C.2.1 d1 rfl (cat_rf r) (kk p e s m args below meth c C X H locs ls hR hS hl)
theorem V_popi {x : Int32} (d : D1 μ.2.1 pc .pop pc')  (kk : V l D A Rm μ K k n z t I R J B pc' lv (st)) : V l D A Rm μ K k n z t I R J B pc lv (.int x :: st) := by
  intro p e s m args below meth c C X H locs ls hR hS hl
  obtain ⟨d1, rfl⟩ := d
  exact lv_pop C.1 C.2.1 d1 rfl (kk p e s m args below meth c C X H locs ls hR hS hl)
theorem V_popr {x : Option Nat} (d : D1 μ.2.1 pc .pop pc')  (kk : V l D A Rm μ K k n z t I R J B pc' lv (st)) : V l D A Rm μ K k n z t I R J B pc lv (va_rf x :: st) := by
  intro p e s m args below meth c C X H locs ls hR hS hl
  obtain ⟨d1, rfl⟩ := d
  exact lv_pop C.1 C.2.1 d1 (cat_rf x) (kk p e s m args below meth c C X H locs ls hR hS hl)
theorem V_null  (d : D1 μ.2.1 pc .aconst_null pc')  (kk : V l D A Rm μ K k n z t I R J B pc' lv (va_rf none :: st)) : V l D A Rm μ K k n z t I R J B pc lv (st) := by
  intro p e s m args below meth c C X H locs ls hR hS hl
  obtain ⟨d1, rfl⟩ := d
  exact lv_null C.1 C.2.1 d1  (kk p e s m args below meth c C X H locs ls hR hS hl)
theorem V_const {v : Int32} (d : Dconst μ.2.1 pc v pc') (kk : V l D A Rm μ K k n z t I R J B pc' lv (.int v :: st)) : V l D A Rm μ K k n z t I R J B pc lv st := by
  intro p e s m args below meth c C X H locs ls hR hS hl
  rcases d with ⟨q, d1, hv, rfl⟩ | ⟨q, d1, hv, rfl⟩ | ⟨q, d1, hv, rfl⟩
  · exact lv_iconst C.1 C.2.1 d1 hv (kk p e s m args below meth c C X H locs ls hR hS hl)
  · exact lv_bipush C.1 C.2.1 d1 hv (kk p e s m args below meth c C X H locs ls hR hS hl)
  · exact lv_sipush C.1 C.2.1 d1 hv (kk p e s m args below meth c C X H locs ls hR hS hl)
theorem V_iload {i : Nat} {x : Int32} (d : Diload μ.2.1 pc i pc') (h : lv[i]? = some (some (.int x))) (kk : V l D A Rm μ K k n z t I R J B pc' lv (.int x :: st)) : V l D A Rm μ K k n z t I R J B pc lv st := by
  intro p e s m args below meth c C X H locs ls hR hS hl
  rcases d with ⟨q, d1, hv, rfl⟩ | ⟨d1, rfl⟩
  · exact lv_iload_n C.1 C.2.1 d1 hv (hl.2.2 _ _ h) (kk p e s m args below meth c C X H locs ls hR hS hl)
  · exact lv_iload C.1 C.2.1 d1 (hl.2.2 _ _ h) (kk p e s m args below meth c C X H locs ls hR hS hl)
theorem V_lload {i : Nat} {x : Int64} (d : Dlload μ.2.1 pc i pc') (h : lv[i]? = some (some (.long x))) (kk : V l D A Rm μ K k n z t I R J B pc' lv (.long x :: st)) : V l D A Rm μ K k n z t I R J B pc lv st := by
  intro p e s m args below meth c C X H locs ls hR hS hl
  rcases d with ⟨q, d1, hv, rfl⟩ | ⟨d1, rfl⟩
  · exact lv_lload_n C.1 C.2.1 d1 hv (hl.2.2 _ _ h) (kk p e s m args below meth c C X H locs ls hR hS hl)
  · exact lv_lload C.1 C.2.1 d1 (hl.2.2 _ _ h) (kk p e s m args below meth c C X H locs ls hR hS hl)
theorem V_aload {i : Nat} {r : Option Nat} (d : Daload μ.2.1 pc i pc') (h : lv[i]? = some (some (va_rf r))) (kk : V l D A Rm μ K k n z t I R J B pc' lv (va_rf r :: st)) : V l D A Rm μ K k n z t I R J B pc lv st := by
  intro p e s m args below meth c C X H locs ls hR hS hl
  rcases d with ⟨q, d1, hv, rfl⟩ | ⟨d1, rfl⟩ <;> cases r
  · exact lv_aload_nN C.1 C.2.1 d1 hv (hl.2.2 _ _ h) (kk p e s m args below meth c C X H locs ls hR hS hl)
  · exact lv_aload_n C.1 C.2.1 d1 hv (hl.2.2 _ _ h) (kk p e s m args below meth c C X H locs ls hR hS hl)
  · exact lv_aloadN C.1 C.2.1 d1 (hl.2.2 _ _ h) (kk p e s m args below meth c C X H locs ls hR hS hl)
  · exact lv_aload C.1 C.2.1 d1 (hl.2.2 _ _ h) (kk p e s m args below meth c C X H locs ls hR hS hl)
theorem V_istore {i : Nat} {x : Int32} (d : Distore μ.2.1 pc i pc') (hi : i < lv.length) (hn : i < μ.2.2.1) (hp : ∀ j, j + 1 = i → noL (lv.getD j none)) (kk : V l D A Rm μ K k n z t I R J B pc' (lv.set i (some (.int x))) st) : V l D A Rm μ K k n z t I R J B pc lv (.int x :: st) := by
  intro p e s m args below meth c C X H locs ls hR hS hl
  rcases d with ⟨q, d1, hv, rfl⟩ | ⟨d1, rfl⟩
  · exact lv_istore_n C.1 C.2.1 d1 hv hl.has hn rfl (fun ls' h' => kk p e s m args below meth c C X H locs ls' hR hS (lp.set (ls := ls) h' hp hi))
  · exact lv_istore C.1 C.2.1 d1 hl.has hn rfl (fun ls' h' => kk p e s m args below meth c C X H locs ls' hR hS (lp.set (ls := ls) h' hp hi))
theorem V_astore {i : Nat} {r : Option Nat} (d : Dastore μ.2.1 pc i pc') (hi : i < lv.length) (hn : i < μ.2.2.1) (hp : ∀ j, j + 1 = i → noL (lv.getD j none)) (kk : V l D A Rm μ K k n z t I R J B pc' (lv.set i (some (va_rf r))) st) : V l D A Rm μ K k n z t I R J B pc lv (va_rf r :: st) := by
  intro p e s m args below meth c C X H locs ls hR hS hl
  rcases d with ⟨q, d1, hv, rfl⟩ | ⟨d1, rfl⟩ <;> cases r
  · exact lv_astore_nN C.1 C.2.1 d1 hv hl.has hn rfl (fun ls' h' => kk p e s m args below meth c C X H locs ls' hR hS (lp.set (ls := ls) h' hp hi))
  · exact lv_astore_n C.1 C.2.1 d1 hv hl.has hn rfl (fun ls' h' => kk p e s m args below meth c C X H locs ls' hR hS (lp.set (ls := ls) h' hp hi))
  · exact lv_astoreN C.1 C.2.1 d1 hl.has hn rfl (fun ls' h' => kk p e s m args below meth c C X H locs ls' hR hS (lp.set (ls := ls) h' hp hi))
  · exact lv_astore C.1 C.2.1 d1 hl.has hn rfl (fun ls' h' => kk p e s m args below meth c C X H locs ls' hR hS (lp.set (ls := ls) h' hp hi))
theorem V_iinc {i : Nat} {x v : Int32} (d : Diinc μ.2.1 pc i v pc') (h : lv[i]? = some (some (.int x))) (hn : i < μ.2.2.1) (hp : ∀ j, j + 1 = i → noL (lv.getD j none)) (kk : V l D A Rm μ K k n z t I R J B pc' (lv.set i (some (.int (x + v)))) st) : V l D A Rm μ K k n z t I R J B pc lv st := by
  intro p e s m args below meth c C X H locs ls hR hS hl
  obtain ⟨q, d1, rfl, rfl⟩ := d
  obtain ⟨j, hj⟩ := List.getElem?_of_mem (lassoc_mem.mpr h)
  exact lv_iinc C.1 C.2.1 d1 hl.has hj rfl hn rfl (fun ls' h' => kk p e s m args below meth c C X H locs ls' hR hS (lp.set (ls := ls) h' hp (List.getElem?_eq_some_iff.mp h).1))
theorem lp.pset {ls' : Array Slot} {nL i : Nat} {v : Value} {lv : List (Option Value)} (h : lv_has ls' nL ((i, v) :: (lassoc lv).filter (fun q => !(q.1 == i) && !(q.1 + 1 == i && q.2.category == 2)))) (hp : ∀ j, j + 1 = i → noL (lv.getD j none)) (hi : i < lv.length) : lp ls' nL (lv.set i (some v)) := lp.set (ls := ls') h hp hi
theorem V_is0 {x : Int32} {a0 : Option Value} {tl : List (Option Value)} (d : Distore μ.2.1 pc 0 pc') (hn : 0 < μ.2.2.1) (kk : V l D A Rm μ K k n z t I R J B pc' (some (.int x) :: tl) st) : V l D A Rm μ K k n z t I R J B pc (a0 :: tl) (.int x :: st) := V_istore d (by simp only [List.length_cons]; omega) hn (fun j hj => absurd hj (by omega)) kk
theorem V_as0 {r : Option Nat} {a0 : Option Value} {tl : List (Option Value)} (d : Dastore μ.2.1 pc 0 pc') (hn : 0 < μ.2.2.1) (kk : V l D A Rm μ K k n z t I R J B pc' (some (va_rf r) :: tl) st) : V l D A Rm μ K k n z t I R J B pc (a0 :: tl) (va_rf r :: st) := V_astore d (by simp only [List.length_cons]; omega) hn (fun j hj => absurd hj (by omega)) kk
theorem V_ii0 {x v : Int32} {tl : List (Option Value)} (d : Diinc μ.2.1 pc 0 v pc') (hn : 0 < μ.2.2.1) (kk : V l D A Rm μ K k n z t I R J B pc' (some (.int (x + v)) :: tl) st) : V l D A Rm μ K k n z t I R J B pc (some (.int x) :: tl) st := V_iinc d rfl hn (fun j hj => absurd hj (by omega)) kk
theorem V_is1 {x : Int32} {a0 a1 : Option Value} {tl : List (Option Value)} (d : Distore μ.2.1 pc 1 pc') (hn : 1 < μ.2.2.1) (hc : noL a0) (kk : V l D A Rm μ K k n z t I R J B pc' (a0 :: some (.int x) :: tl) st) : V l D A Rm μ K k n z t I R J B pc (a0 :: a1 :: tl) (.int x :: st) := V_istore d (by simp only [List.length_cons]; omega) hn (fun j hj => by cases (show j = 0 by omega); exact hc) kk
theorem V_as1 {r : Option Nat} {a0 a1 : Option Value} {tl : List (Option Value)} (d : Dastore μ.2.1 pc 1 pc') (hn : 1 < μ.2.2.1) (hc : noL a0) (kk : V l D A Rm μ K k n z t I R J B pc' (a0 :: some (va_rf r) :: tl) st) : V l D A Rm μ K k n z t I R J B pc (a0 :: a1 :: tl) (va_rf r :: st) := V_astore d (by simp only [List.length_cons]; omega) hn (fun j hj => by cases (show j = 0 by omega); exact hc) kk
theorem V_ii1 {x v : Int32} {a0 : Option Value} {tl : List (Option Value)} (d : Diinc μ.2.1 pc 1 v pc') (hn : 1 < μ.2.2.1) (hc : noL a0) (kk : V l D A Rm μ K k n z t I R J B pc' (a0 :: some (.int (x + v)) :: tl) st) : V l D A Rm μ K k n z t I R J B pc (a0 :: some (.int x) :: tl) st := V_iinc d rfl hn (fun j hj => by cases (show j = 0 by omega); exact hc) kk
theorem V_is2 {x : Int32} {a0 a1 a2 : Option Value} {tl : List (Option Value)} (d : Distore μ.2.1 pc 2 pc') (hn : 2 < μ.2.2.1) (hc : noL a1) (kk : V l D A Rm μ K k n z t I R J B pc' (a0 :: a1 :: some (.int x) :: tl) st) : V l D A Rm μ K k n z t I R J B pc (a0 :: a1 :: a2 :: tl) (.int x :: st) := V_istore d (by simp only [List.length_cons]; omega) hn (fun j hj => by cases (show j = 1 by omega); exact hc) kk
theorem V_as2 {r : Option Nat} {a0 a1 a2 : Option Value} {tl : List (Option Value)} (d : Dastore μ.2.1 pc 2 pc') (hn : 2 < μ.2.2.1) (hc : noL a1) (kk : V l D A Rm μ K k n z t I R J B pc' (a0 :: a1 :: some (va_rf r) :: tl) st) : V l D A Rm μ K k n z t I R J B pc (a0 :: a1 :: a2 :: tl) (va_rf r :: st) := V_astore d (by simp only [List.length_cons]; omega) hn (fun j hj => by cases (show j = 1 by omega); exact hc) kk
theorem V_ii2 {x v : Int32} {a0 a1 : Option Value} {tl : List (Option Value)} (d : Diinc μ.2.1 pc 2 v pc') (hn : 2 < μ.2.2.1) (hc : noL a1) (kk : V l D A Rm μ K k n z t I R J B pc' (a0 :: a1 :: some (.int (x + v)) :: tl) st) : V l D A Rm μ K k n z t I R J B pc (a0 :: a1 :: some (.int x) :: tl) st := V_iinc d rfl hn (fun j hj => by cases (show j = 1 by omega); exact hc) kk
theorem V_is3 {x : Int32} {a0 a1 a2 a3 : Option Value} {tl : List (Option Value)} (d : Distore μ.2.1 pc 3 pc') (hn : 3 < μ.2.2.1) (hc : noL a2) (kk : V l D A Rm μ K k n z t I R J B pc' (a0 :: a1 :: a2 :: some (.int x) :: tl) st) : V l D A Rm μ K k n z t I R J B pc (a0 :: a1 :: a2 :: a3 :: tl) (.int x :: st) := V_istore d (by simp only [List.length_cons]; omega) hn (fun j hj => by cases (show j = 2 by omega); exact hc) kk
theorem V_as3 {r : Option Nat} {a0 a1 a2 a3 : Option Value} {tl : List (Option Value)} (d : Dastore μ.2.1 pc 3 pc') (hn : 3 < μ.2.2.1) (hc : noL a2) (kk : V l D A Rm μ K k n z t I R J B pc' (a0 :: a1 :: a2 :: some (va_rf r) :: tl) st) : V l D A Rm μ K k n z t I R J B pc (a0 :: a1 :: a2 :: a3 :: tl) (va_rf r :: st) := V_astore d (by simp only [List.length_cons]; omega) hn (fun j hj => by cases (show j = 2 by omega); exact hc) kk
theorem V_ii3 {x v : Int32} {a0 a1 a2 : Option Value} {tl : List (Option Value)} (d : Diinc μ.2.1 pc 3 v pc') (hn : 3 < μ.2.2.1) (hc : noL a2) (kk : V l D A Rm μ K k n z t I R J B pc' (a0 :: a1 :: a2 :: some (.int (x + v)) :: tl) st) : V l D A Rm μ K k n z t I R J B pc (a0 :: a1 :: a2 :: some (.int x) :: tl) st := V_iinc d rfl hn (fun j hj => by cases (show j = 2 by omega); exact hc) kk
theorem V_is4 {x : Int32} {a0 a1 a2 a3 a4 : Option Value} {tl : List (Option Value)} (d : Distore μ.2.1 pc 4 pc') (hn : 4 < μ.2.2.1) (hc : noL a3) (kk : V l D A Rm μ K k n z t I R J B pc' (a0 :: a1 :: a2 :: a3 :: some (.int x) :: tl) st) : V l D A Rm μ K k n z t I R J B pc (a0 :: a1 :: a2 :: a3 :: a4 :: tl) (.int x :: st) := V_istore d (by simp only [List.length_cons]; omega) hn (fun j hj => by cases (show j = 3 by omega); exact hc) kk
theorem V_as4 {r : Option Nat} {a0 a1 a2 a3 a4 : Option Value} {tl : List (Option Value)} (d : Dastore μ.2.1 pc 4 pc') (hn : 4 < μ.2.2.1) (hc : noL a3) (kk : V l D A Rm μ K k n z t I R J B pc' (a0 :: a1 :: a2 :: a3 :: some (va_rf r) :: tl) st) : V l D A Rm μ K k n z t I R J B pc (a0 :: a1 :: a2 :: a3 :: a4 :: tl) (va_rf r :: st) := V_astore d (by simp only [List.length_cons]; omega) hn (fun j hj => by cases (show j = 3 by omega); exact hc) kk
theorem V_ii4 {x v : Int32} {a0 a1 a2 a3 : Option Value} {tl : List (Option Value)} (d : Diinc μ.2.1 pc 4 v pc') (hn : 4 < μ.2.2.1) (hc : noL a3) (kk : V l D A Rm μ K k n z t I R J B pc' (a0 :: a1 :: a2 :: a3 :: some (.int (x + v)) :: tl) st) : V l D A Rm μ K k n z t I R J B pc (a0 :: a1 :: a2 :: a3 :: some (.int x) :: tl) st := V_iinc d rfl hn (fun j hj => by cases (show j = 3 by omega); exact hc) kk
theorem V_is5 {x : Int32} {a0 a1 a2 a3 a4 a5 : Option Value} {tl : List (Option Value)} (d : Distore μ.2.1 pc 5 pc') (hn : 5 < μ.2.2.1) (hc : noL a4) (kk : V l D A Rm μ K k n z t I R J B pc' (a0 :: a1 :: a2 :: a3 :: a4 :: some (.int x) :: tl) st) : V l D A Rm μ K k n z t I R J B pc (a0 :: a1 :: a2 :: a3 :: a4 :: a5 :: tl) (.int x :: st) := V_istore d (by simp only [List.length_cons]; omega) hn (fun j hj => by cases (show j = 4 by omega); exact hc) kk
theorem V_as5 {r : Option Nat} {a0 a1 a2 a3 a4 a5 : Option Value} {tl : List (Option Value)} (d : Dastore μ.2.1 pc 5 pc') (hn : 5 < μ.2.2.1) (hc : noL a4) (kk : V l D A Rm μ K k n z t I R J B pc' (a0 :: a1 :: a2 :: a3 :: a4 :: some (va_rf r) :: tl) st) : V l D A Rm μ K k n z t I R J B pc (a0 :: a1 :: a2 :: a3 :: a4 :: a5 :: tl) (va_rf r :: st) := V_astore d (by simp only [List.length_cons]; omega) hn (fun j hj => by cases (show j = 4 by omega); exact hc) kk
theorem V_ii5 {x v : Int32} {a0 a1 a2 a3 a4 : Option Value} {tl : List (Option Value)} (d : Diinc μ.2.1 pc 5 v pc') (hn : 5 < μ.2.2.1) (hc : noL a4) (kk : V l D A Rm μ K k n z t I R J B pc' (a0 :: a1 :: a2 :: a3 :: a4 :: some (.int (x + v)) :: tl) st) : V l D A Rm μ K k n z t I R J B pc (a0 :: a1 :: a2 :: a3 :: a4 :: some (.int x) :: tl) st := V_iinc d rfl hn (fun j hj => by cases (show j = 4 by omega); exact hc) kk
theorem V_is6 {x : Int32} {a0 a1 a2 a3 a4 a5 a6 : Option Value} {tl : List (Option Value)} (d : Distore μ.2.1 pc 6 pc') (hn : 6 < μ.2.2.1) (hc : noL a5) (kk : V l D A Rm μ K k n z t I R J B pc' (a0 :: a1 :: a2 :: a3 :: a4 :: a5 :: some (.int x) :: tl) st) : V l D A Rm μ K k n z t I R J B pc (a0 :: a1 :: a2 :: a3 :: a4 :: a5 :: a6 :: tl) (.int x :: st) := V_istore d (by simp only [List.length_cons]; omega) hn (fun j hj => by cases (show j = 5 by omega); exact hc) kk
theorem V_as6 {r : Option Nat} {a0 a1 a2 a3 a4 a5 a6 : Option Value} {tl : List (Option Value)} (d : Dastore μ.2.1 pc 6 pc') (hn : 6 < μ.2.2.1) (hc : noL a5) (kk : V l D A Rm μ K k n z t I R J B pc' (a0 :: a1 :: a2 :: a3 :: a4 :: a5 :: some (va_rf r) :: tl) st) : V l D A Rm μ K k n z t I R J B pc (a0 :: a1 :: a2 :: a3 :: a4 :: a5 :: a6 :: tl) (va_rf r :: st) := V_astore d (by simp only [List.length_cons]; omega) hn (fun j hj => by cases (show j = 5 by omega); exact hc) kk
theorem V_ii6 {x v : Int32} {a0 a1 a2 a3 a4 a5 : Option Value} {tl : List (Option Value)} (d : Diinc μ.2.1 pc 6 v pc') (hn : 6 < μ.2.2.1) (hc : noL a5) (kk : V l D A Rm μ K k n z t I R J B pc' (a0 :: a1 :: a2 :: a3 :: a4 :: a5 :: some (.int (x + v)) :: tl) st) : V l D A Rm μ K k n z t I R J B pc (a0 :: a1 :: a2 :: a3 :: a4 :: a5 :: some (.int x) :: tl) st := V_iinc d rfl hn (fun j hj => by cases (show j = 5 by omega); exact hc) kk
theorem V_is7 {x : Int32} {a0 a1 a2 a3 a4 a5 a6 a7 : Option Value} {tl : List (Option Value)} (d : Distore μ.2.1 pc 7 pc') (hn : 7 < μ.2.2.1) (hc : noL a6) (kk : V l D A Rm μ K k n z t I R J B pc' (a0 :: a1 :: a2 :: a3 :: a4 :: a5 :: a6 :: some (.int x) :: tl) st) : V l D A Rm μ K k n z t I R J B pc (a0 :: a1 :: a2 :: a3 :: a4 :: a5 :: a6 :: a7 :: tl) (.int x :: st) := V_istore d (by simp only [List.length_cons]; omega) hn (fun j hj => by cases (show j = 6 by omega); exact hc) kk
theorem V_as7 {r : Option Nat} {a0 a1 a2 a3 a4 a5 a6 a7 : Option Value} {tl : List (Option Value)} (d : Dastore μ.2.1 pc 7 pc') (hn : 7 < μ.2.2.1) (hc : noL a6) (kk : V l D A Rm μ K k n z t I R J B pc' (a0 :: a1 :: a2 :: a3 :: a4 :: a5 :: a6 :: some (va_rf r) :: tl) st) : V l D A Rm μ K k n z t I R J B pc (a0 :: a1 :: a2 :: a3 :: a4 :: a5 :: a6 :: a7 :: tl) (va_rf r :: st) := V_astore d (by simp only [List.length_cons]; omega) hn (fun j hj => by cases (show j = 6 by omega); exact hc) kk
theorem V_ii7 {x v : Int32} {a0 a1 a2 a3 a4 a5 a6 : Option Value} {tl : List (Option Value)} (d : Diinc μ.2.1 pc 7 v pc') (hn : 7 < μ.2.2.1) (hc : noL a6) (kk : V l D A Rm μ K k n z t I R J B pc' (a0 :: a1 :: a2 :: a3 :: a4 :: a5 :: a6 :: some (.int (x + v)) :: tl) st) : V l D A Rm μ K k n z t I R J B pc (a0 :: a1 :: a2 :: a3 :: a4 :: a5 :: a6 :: some (.int x) :: tl) st := V_iinc d rfl hn (fun j hj => by cases (show j = 6 by omega); exact hc) kk
theorem V_is8 {x : Int32} {a0 a1 a2 a3 a4 a5 a6 a7 a8 : Option Value} {tl : List (Option Value)} (d : Distore μ.2.1 pc 8 pc') (hn : 8 < μ.2.2.1) (hc : noL a7) (kk : V l D A Rm μ K k n z t I R J B pc' (a0 :: a1 :: a2 :: a3 :: a4 :: a5 :: a6 :: a7 :: some (.int x) :: tl) st) : V l D A Rm μ K k n z t I R J B pc (a0 :: a1 :: a2 :: a3 :: a4 :: a5 :: a6 :: a7 :: a8 :: tl) (.int x :: st) := V_istore d (by simp only [List.length_cons]; omega) hn (fun j hj => by cases (show j = 7 by omega); exact hc) kk
theorem V_as8 {r : Option Nat} {a0 a1 a2 a3 a4 a5 a6 a7 a8 : Option Value} {tl : List (Option Value)} (d : Dastore μ.2.1 pc 8 pc') (hn : 8 < μ.2.2.1) (hc : noL a7) (kk : V l D A Rm μ K k n z t I R J B pc' (a0 :: a1 :: a2 :: a3 :: a4 :: a5 :: a6 :: a7 :: some (va_rf r) :: tl) st) : V l D A Rm μ K k n z t I R J B pc (a0 :: a1 :: a2 :: a3 :: a4 :: a5 :: a6 :: a7 :: a8 :: tl) (va_rf r :: st) := V_astore d (by simp only [List.length_cons]; omega) hn (fun j hj => by cases (show j = 7 by omega); exact hc) kk
theorem V_ii8 {x v : Int32} {a0 a1 a2 a3 a4 a5 a6 a7 : Option Value} {tl : List (Option Value)} (d : Diinc μ.2.1 pc 8 v pc') (hn : 8 < μ.2.2.1) (hc : noL a7) (kk : V l D A Rm μ K k n z t I R J B pc' (a0 :: a1 :: a2 :: a3 :: a4 :: a5 :: a6 :: a7 :: some (.int (x + v)) :: tl) st) : V l D A Rm μ K k n z t I R J B pc (a0 :: a1 :: a2 :: a3 :: a4 :: a5 :: a6 :: a7 :: some (.int x) :: tl) st := V_iinc d rfl hn (fun j hj => by cases (show j = 7 by omega); exact hc) kk
theorem V_is9 {x : Int32} {a0 a1 a2 a3 a4 a5 a6 a7 a8 a9 : Option Value} {tl : List (Option Value)} (d : Distore μ.2.1 pc 9 pc') (hn : 9 < μ.2.2.1) (hc : noL a8) (kk : V l D A Rm μ K k n z t I R J B pc' (a0 :: a1 :: a2 :: a3 :: a4 :: a5 :: a6 :: a7 :: a8 :: some (.int x) :: tl) st) : V l D A Rm μ K k n z t I R J B pc (a0 :: a1 :: a2 :: a3 :: a4 :: a5 :: a6 :: a7 :: a8 :: a9 :: tl) (.int x :: st) := V_istore d (by simp only [List.length_cons]; omega) hn (fun j hj => by cases (show j = 8 by omega); exact hc) kk
theorem V_as9 {r : Option Nat} {a0 a1 a2 a3 a4 a5 a6 a7 a8 a9 : Option Value} {tl : List (Option Value)} (d : Dastore μ.2.1 pc 9 pc') (hn : 9 < μ.2.2.1) (hc : noL a8) (kk : V l D A Rm μ K k n z t I R J B pc' (a0 :: a1 :: a2 :: a3 :: a4 :: a5 :: a6 :: a7 :: a8 :: some (va_rf r) :: tl) st) : V l D A Rm μ K k n z t I R J B pc (a0 :: a1 :: a2 :: a3 :: a4 :: a5 :: a6 :: a7 :: a8 :: a9 :: tl) (va_rf r :: st) := V_astore d (by simp only [List.length_cons]; omega) hn (fun j hj => by cases (show j = 8 by omega); exact hc) kk
theorem V_ii9 {x v : Int32} {a0 a1 a2 a3 a4 a5 a6 a7 a8 : Option Value} {tl : List (Option Value)} (d : Diinc μ.2.1 pc 9 v pc') (hn : 9 < μ.2.2.1) (hc : noL a8) (kk : V l D A Rm μ K k n z t I R J B pc' (a0 :: a1 :: a2 :: a3 :: a4 :: a5 :: a6 :: a7 :: a8 :: some (.int (x + v)) :: tl) st) : V l D A Rm μ K k n z t I R J B pc (a0 :: a1 :: a2 :: a3 :: a4 :: a5 :: a6 :: a7 :: a8 :: some (.int x) :: tl) st := V_iinc d rfl hn (fun j hj => by cases (show j = 8 by omega); exact hc) kk
theorem V_is10 {x : Int32} {a0 a1 a2 a3 a4 a5 a6 a7 a8 a9 a10 : Option Value} {tl : List (Option Value)} (d : Distore μ.2.1 pc 10 pc') (hn : 10 < μ.2.2.1) (hc : noL a9) (kk : V l D A Rm μ K k n z t I R J B pc' (a0 :: a1 :: a2 :: a3 :: a4 :: a5 :: a6 :: a7 :: a8 :: a9 :: some (.int x) :: tl) st) : V l D A Rm μ K k n z t I R J B pc (a0 :: a1 :: a2 :: a3 :: a4 :: a5 :: a6 :: a7 :: a8 :: a9 :: a10 :: tl) (.int x :: st) := V_istore d (by simp only [List.length_cons]; omega) hn (fun j hj => by cases (show j = 9 by omega); exact hc) kk
theorem V_as10 {r : Option Nat} {a0 a1 a2 a3 a4 a5 a6 a7 a8 a9 a10 : Option Value} {tl : List (Option Value)} (d : Dastore μ.2.1 pc 10 pc') (hn : 10 < μ.2.2.1) (hc : noL a9) (kk : V l D A Rm μ K k n z t I R J B pc' (a0 :: a1 :: a2 :: a3 :: a4 :: a5 :: a6 :: a7 :: a8 :: a9 :: some (va_rf r) :: tl) st) : V l D A Rm μ K k n z t I R J B pc (a0 :: a1 :: a2 :: a3 :: a4 :: a5 :: a6 :: a7 :: a8 :: a9 :: a10 :: tl) (va_rf r :: st) := V_astore d (by simp only [List.length_cons]; omega) hn (fun j hj => by cases (show j = 9 by omega); exact hc) kk
theorem V_ii10 {x v : Int32} {a0 a1 a2 a3 a4 a5 a6 a7 a8 a9 : Option Value} {tl : List (Option Value)} (d : Diinc μ.2.1 pc 10 v pc') (hn : 10 < μ.2.2.1) (hc : noL a9) (kk : V l D A Rm μ K k n z t I R J B pc' (a0 :: a1 :: a2 :: a3 :: a4 :: a5 :: a6 :: a7 :: a8 :: a9 :: some (.int (x + v)) :: tl) st) : V l D A Rm μ K k n z t I R J B pc (a0 :: a1 :: a2 :: a3 :: a4 :: a5 :: a6 :: a7 :: a8 :: a9 :: some (.int x) :: tl) st := V_iinc d rfl hn (fun j hj => by cases (show j = 9 by omega); exact hc) kk
theorem V_is11 {x : Int32} {a0 a1 a2 a3 a4 a5 a6 a7 a8 a9 a10 a11 : Option Value} {tl : List (Option Value)} (d : Distore μ.2.1 pc 11 pc') (hn : 11 < μ.2.2.1) (hc : noL a10) (kk : V l D A Rm μ K k n z t I R J B pc' (a0 :: a1 :: a2 :: a3 :: a4 :: a5 :: a6 :: a7 :: a8 :: a9 :: a10 :: some (.int x) :: tl) st) : V l D A Rm μ K k n z t I R J B pc (a0 :: a1 :: a2 :: a3 :: a4 :: a5 :: a6 :: a7 :: a8 :: a9 :: a10 :: a11 :: tl) (.int x :: st) := V_istore d (by simp only [List.length_cons]; omega) hn (fun j hj => by cases (show j = 10 by omega); exact hc) kk
theorem V_as11 {r : Option Nat} {a0 a1 a2 a3 a4 a5 a6 a7 a8 a9 a10 a11 : Option Value} {tl : List (Option Value)} (d : Dastore μ.2.1 pc 11 pc') (hn : 11 < μ.2.2.1) (hc : noL a10) (kk : V l D A Rm μ K k n z t I R J B pc' (a0 :: a1 :: a2 :: a3 :: a4 :: a5 :: a6 :: a7 :: a8 :: a9 :: a10 :: some (va_rf r) :: tl) st) : V l D A Rm μ K k n z t I R J B pc (a0 :: a1 :: a2 :: a3 :: a4 :: a5 :: a6 :: a7 :: a8 :: a9 :: a10 :: a11 :: tl) (va_rf r :: st) := V_astore d (by simp only [List.length_cons]; omega) hn (fun j hj => by cases (show j = 10 by omega); exact hc) kk
theorem V_ii11 {x v : Int32} {a0 a1 a2 a3 a4 a5 a6 a7 a8 a9 a10 : Option Value} {tl : List (Option Value)} (d : Diinc μ.2.1 pc 11 v pc') (hn : 11 < μ.2.2.1) (hc : noL a10) (kk : V l D A Rm μ K k n z t I R J B pc' (a0 :: a1 :: a2 :: a3 :: a4 :: a5 :: a6 :: a7 :: a8 :: a9 :: a10 :: some (.int (x + v)) :: tl) st) : V l D A Rm μ K k n z t I R J B pc (a0 :: a1 :: a2 :: a3 :: a4 :: a5 :: a6 :: a7 :: a8 :: a9 :: a10 :: some (.int x) :: tl) st := V_iinc d rfl hn (fun j hj => by cases (show j = 10 by omega); exact hc) kk
theorem V_is12 {x : Int32} {a0 a1 a2 a3 a4 a5 a6 a7 a8 a9 a10 a11 a12 : Option Value} {tl : List (Option Value)} (d : Distore μ.2.1 pc 12 pc') (hn : 12 < μ.2.2.1) (hc : noL a11) (kk : V l D A Rm μ K k n z t I R J B pc' (a0 :: a1 :: a2 :: a3 :: a4 :: a5 :: a6 :: a7 :: a8 :: a9 :: a10 :: a11 :: some (.int x) :: tl) st) : V l D A Rm μ K k n z t I R J B pc (a0 :: a1 :: a2 :: a3 :: a4 :: a5 :: a6 :: a7 :: a8 :: a9 :: a10 :: a11 :: a12 :: tl) (.int x :: st) := V_istore d (by simp only [List.length_cons]; omega) hn (fun j hj => by cases (show j = 11 by omega); exact hc) kk
theorem V_as12 {r : Option Nat} {a0 a1 a2 a3 a4 a5 a6 a7 a8 a9 a10 a11 a12 : Option Value} {tl : List (Option Value)} (d : Dastore μ.2.1 pc 12 pc') (hn : 12 < μ.2.2.1) (hc : noL a11) (kk : V l D A Rm μ K k n z t I R J B pc' (a0 :: a1 :: a2 :: a3 :: a4 :: a5 :: a6 :: a7 :: a8 :: a9 :: a10 :: a11 :: some (va_rf r) :: tl) st) : V l D A Rm μ K k n z t I R J B pc (a0 :: a1 :: a2 :: a3 :: a4 :: a5 :: a6 :: a7 :: a8 :: a9 :: a10 :: a11 :: a12 :: tl) (va_rf r :: st) := V_astore d (by simp only [List.length_cons]; omega) hn (fun j hj => by cases (show j = 11 by omega); exact hc) kk
theorem V_ii12 {x v : Int32} {a0 a1 a2 a3 a4 a5 a6 a7 a8 a9 a10 a11 : Option Value} {tl : List (Option Value)} (d : Diinc μ.2.1 pc 12 v pc') (hn : 12 < μ.2.2.1) (hc : noL a11) (kk : V l D A Rm μ K k n z t I R J B pc' (a0 :: a1 :: a2 :: a3 :: a4 :: a5 :: a6 :: a7 :: a8 :: a9 :: a10 :: a11 :: some (.int (x + v)) :: tl) st) : V l D A Rm μ K k n z t I R J B pc (a0 :: a1 :: a2 :: a3 :: a4 :: a5 :: a6 :: a7 :: a8 :: a9 :: a10 :: a11 :: some (.int x) :: tl) st := V_iinc d rfl hn (fun j hj => by cases (show j = 11 by omega); exact hc) kk
theorem V_is13 {x : Int32} {a0 a1 a2 a3 a4 a5 a6 a7 a8 a9 a10 a11 a12 a13 : Option Value} {tl : List (Option Value)} (d : Distore μ.2.1 pc 13 pc') (hn : 13 < μ.2.2.1) (hc : noL a12) (kk : V l D A Rm μ K k n z t I R J B pc' (a0 :: a1 :: a2 :: a3 :: a4 :: a5 :: a6 :: a7 :: a8 :: a9 :: a10 :: a11 :: a12 :: some (.int x) :: tl) st) : V l D A Rm μ K k n z t I R J B pc (a0 :: a1 :: a2 :: a3 :: a4 :: a5 :: a6 :: a7 :: a8 :: a9 :: a10 :: a11 :: a12 :: a13 :: tl) (.int x :: st) := V_istore d (by simp only [List.length_cons]; omega) hn (fun j hj => by cases (show j = 12 by omega); exact hc) kk
theorem V_as13 {r : Option Nat} {a0 a1 a2 a3 a4 a5 a6 a7 a8 a9 a10 a11 a12 a13 : Option Value} {tl : List (Option Value)} (d : Dastore μ.2.1 pc 13 pc') (hn : 13 < μ.2.2.1) (hc : noL a12) (kk : V l D A Rm μ K k n z t I R J B pc' (a0 :: a1 :: a2 :: a3 :: a4 :: a5 :: a6 :: a7 :: a8 :: a9 :: a10 :: a11 :: a12 :: some (va_rf r) :: tl) st) : V l D A Rm μ K k n z t I R J B pc (a0 :: a1 :: a2 :: a3 :: a4 :: a5 :: a6 :: a7 :: a8 :: a9 :: a10 :: a11 :: a12 :: a13 :: tl) (va_rf r :: st) := V_astore d (by simp only [List.length_cons]; omega) hn (fun j hj => by cases (show j = 12 by omega); exact hc) kk
theorem V_ii13 {x v : Int32} {a0 a1 a2 a3 a4 a5 a6 a7 a8 a9 a10 a11 a12 : Option Value} {tl : List (Option Value)} (d : Diinc μ.2.1 pc 13 v pc') (hn : 13 < μ.2.2.1) (hc : noL a12) (kk : V l D A Rm μ K k n z t I R J B pc' (a0 :: a1 :: a2 :: a3 :: a4 :: a5 :: a6 :: a7 :: a8 :: a9 :: a10 :: a11 :: a12 :: some (.int (x + v)) :: tl) st) : V l D A Rm μ K k n z t I R J B pc (a0 :: a1 :: a2 :: a3 :: a4 :: a5 :: a6 :: a7 :: a8 :: a9 :: a10 :: a11 :: a12 :: some (.int x) :: tl) st := V_iinc d rfl hn (fun j hj => by cases (show j = 12 by omega); exact hc) kk
theorem V_if_eq {x : Int32} {off : Int} (d : Dj μ.2.1 pc (.ifCond .eq off) off pc' tgt) (kt : x = 0 → V l D A Rm μ K k n z t I R J B tgt lv st) (kf : ¬ x = 0 → V l D A Rm μ K k n z t I R J B pc' lv st) : V l D A Rm μ K k n z t I R J B pc lv (.int x :: st) := by
  intro p e s m args below meth c C X H locs ls hR hS hl
  obtain ⟨d1, rfl, d3⟩ := d
  exact lv_if_eq C.1 C.2.1 d1 d3 (fun q => kt q p e s m args below meth c C X H locs ls hR hS hl) (fun q => kf q p e s m args below meth c C X H locs ls hR hS hl)
theorem V_icmp_eq {x y : Int32} {off : Int} (d : Dj μ.2.1 pc (.if_icmp .eq off) off pc' tgt) (kt : x = y → V l D A Rm μ K k n z t I R J B tgt lv st) (kf : ¬ x = y → V l D A Rm μ K k n z t I R J B pc' lv st) : V l D A Rm μ K k n z t I R J B pc lv (.int y :: .int x :: st) := by
  intro p e s m args below meth c C X H locs ls hR hS hl
  obtain ⟨d1, rfl, d3⟩ := d
  exact lv_icmp_eq C.1 C.2.1 d1 d3 (fun q => kt q p e s m args below meth c C X H locs ls hR hS hl) (fun q => kf q p e s m args below meth c C X H locs ls hR hS hl)
theorem V_if_ne {x : Int32} {off : Int} (d : Dj μ.2.1 pc (.ifCond .ne off) off pc' tgt) (kt : ¬ x = 0 → V l D A Rm μ K k n z t I R J B tgt lv st) (kf : x = 0 → V l D A Rm μ K k n z t I R J B pc' lv st) : V l D A Rm μ K k n z t I R J B pc lv (.int x :: st) := by
  intro p e s m args below meth c C X H locs ls hR hS hl
  obtain ⟨d1, rfl, d3⟩ := d
  exact lv_if_ne C.1 C.2.1 d1 d3 (fun q => kt q p e s m args below meth c C X H locs ls hR hS hl) (fun q => kf q p e s m args below meth c C X H locs ls hR hS hl)
theorem V_icmp_ne {x y : Int32} {off : Int} (d : Dj μ.2.1 pc (.if_icmp .ne off) off pc' tgt) (kt : ¬ x = y → V l D A Rm μ K k n z t I R J B tgt lv st) (kf : x = y → V l D A Rm μ K k n z t I R J B pc' lv st) : V l D A Rm μ K k n z t I R J B pc lv (.int y :: .int x :: st) := by
  intro p e s m args below meth c C X H locs ls hR hS hl
  obtain ⟨d1, rfl, d3⟩ := d
  exact lv_icmp_ne C.1 C.2.1 d1 d3 (fun q => kt q p e s m args below meth c C X H locs ls hR hS hl) (fun q => kf q p e s m args below meth c C X H locs ls hR hS hl)
theorem V_if_lt {x : Int32} {off : Int} (d : Dj μ.2.1 pc (.ifCond .lt off) off pc' tgt) (kt : x < 0 → V l D A Rm μ K k n z t I R J B tgt lv st) (kf : ¬ x < 0 → V l D A Rm μ K k n z t I R J B pc' lv st) : V l D A Rm μ K k n z t I R J B pc lv (.int x :: st) := by
  intro p e s m args below meth c C X H locs ls hR hS hl
  obtain ⟨d1, rfl, d3⟩ := d
  exact lv_if_lt C.1 C.2.1 d1 d3 (fun q => kt q p e s m args below meth c C X H locs ls hR hS hl) (fun q => kf q p e s m args below meth c C X H locs ls hR hS hl)
theorem V_icmp_lt {x y : Int32} {off : Int} (d : Dj μ.2.1 pc (.if_icmp .lt off) off pc' tgt) (kt : x < y → V l D A Rm μ K k n z t I R J B tgt lv st) (kf : ¬ x < y → V l D A Rm μ K k n z t I R J B pc' lv st) : V l D A Rm μ K k n z t I R J B pc lv (.int y :: .int x :: st) := by
  intro p e s m args below meth c C X H locs ls hR hS hl
  obtain ⟨d1, rfl, d3⟩ := d
  exact lv_icmp_lt C.1 C.2.1 d1 d3 (fun q => kt q p e s m args below meth c C X H locs ls hR hS hl) (fun q => kf q p e s m args below meth c C X H locs ls hR hS hl)
theorem V_if_ge {x : Int32} {off : Int} (d : Dj μ.2.1 pc (.ifCond .ge off) off pc' tgt) (kt : 0 ≤ x → V l D A Rm μ K k n z t I R J B tgt lv st) (kf : ¬ 0 ≤ x → V l D A Rm μ K k n z t I R J B pc' lv st) : V l D A Rm μ K k n z t I R J B pc lv (.int x :: st) := by
  intro p e s m args below meth c C X H locs ls hR hS hl
  obtain ⟨d1, rfl, d3⟩ := d
  exact lv_if_ge C.1 C.2.1 d1 d3 (fun q => kt q p e s m args below meth c C X H locs ls hR hS hl) (fun q => kf q p e s m args below meth c C X H locs ls hR hS hl)
theorem V_icmp_ge {x y : Int32} {off : Int} (d : Dj μ.2.1 pc (.if_icmp .ge off) off pc' tgt) (kt : y ≤ x → V l D A Rm μ K k n z t I R J B tgt lv st) (kf : ¬ y ≤ x → V l D A Rm μ K k n z t I R J B pc' lv st) : V l D A Rm μ K k n z t I R J B pc lv (.int y :: .int x :: st) := by
  intro p e s m args below meth c C X H locs ls hR hS hl
  obtain ⟨d1, rfl, d3⟩ := d
  exact lv_icmp_ge C.1 C.2.1 d1 d3 (fun q => kt q p e s m args below meth c C X H locs ls hR hS hl) (fun q => kf q p e s m args below meth c C X H locs ls hR hS hl)
theorem V_if_gt {x : Int32} {off : Int} (d : Dj μ.2.1 pc (.ifCond .gt off) off pc' tgt) (kt : 0 < x → V l D A Rm μ K k n z t I R J B tgt lv st) (kf : ¬ 0 < x → V l D A Rm μ K k n z t I R J B pc' lv st) : V l D A Rm μ K k n z t I R J B pc lv (.int x :: st) := by
  intro p e s m args below meth c C X H locs ls hR hS hl
  obtain ⟨d1, rfl, d3⟩ := d
  exact lv_if_gt C.1 C.2.1 d1 d3 (fun q => kt q p e s m args below meth c C X H locs ls hR hS hl) (fun q => kf q p e s m args below meth c C X H locs ls hR hS hl)
theorem V_icmp_gt {x y : Int32} {off : Int} (d : Dj μ.2.1 pc (.if_icmp .gt off) off pc' tgt) (kt : y < x → V l D A Rm μ K k n z t I R J B tgt lv st) (kf : ¬ y < x → V l D A Rm μ K k n z t I R J B pc' lv st) : V l D A Rm μ K k n z t I R J B pc lv (.int y :: .int x :: st) := by
  intro p e s m args below meth c C X H locs ls hR hS hl
  obtain ⟨d1, rfl, d3⟩ := d
  exact lv_icmp_gt C.1 C.2.1 d1 d3 (fun q => kt q p e s m args below meth c C X H locs ls hR hS hl) (fun q => kf q p e s m args below meth c C X H locs ls hR hS hl)
theorem V_if_le {x : Int32} {off : Int} (d : Dj μ.2.1 pc (.ifCond .le off) off pc' tgt) (kt : x ≤ 0 → V l D A Rm μ K k n z t I R J B tgt lv st) (kf : ¬ x ≤ 0 → V l D A Rm μ K k n z t I R J B pc' lv st) : V l D A Rm μ K k n z t I R J B pc lv (.int x :: st) := by
  intro p e s m args below meth c C X H locs ls hR hS hl
  obtain ⟨d1, rfl, d3⟩ := d
  exact lv_if_le C.1 C.2.1 d1 d3 (fun q => kt q p e s m args below meth c C X H locs ls hR hS hl) (fun q => kf q p e s m args below meth c C X H locs ls hR hS hl)
theorem V_icmp_le {x y : Int32} {off : Int} (d : Dj μ.2.1 pc (.if_icmp .le off) off pc' tgt) (kt : x ≤ y → V l D A Rm μ K k n z t I R J B tgt lv st) (kf : ¬ x ≤ y → V l D A Rm μ K k n z t I R J B pc' lv st) : V l D A Rm μ K k n z t I R J B pc lv (.int y :: .int x :: st) := by
  intro p e s m args below meth c C X H locs ls hR hS hl
  obtain ⟨d1, rfl, d3⟩ := d
  exact lv_icmp_le C.1 C.2.1 d1 d3 (fun q => kt q p e s m args below meth c C X H locs ls hR hS hl) (fun q => kf q p e s m args below meth c C X H locs ls hR hS hl)
theorem V_goto {off : Int} (d : Dj μ.2.1 pc (.goto off) off pc' tgt) (kk : V l D A Rm μ K k n z t I R J B tgt lv st) : V l D A Rm μ K k n z t I R J B pc lv st := by
  intro p e s m args below meth c C X H locs ls hR hS hl
  exact lv_goto C.1 C.2.1 d.1 d.2.2 (kk p e s m args below meth c C X H locs ls hR hS hl)
theorem V_ifnull {r : Option Nat} {off : Int} (d : Dj μ.2.1 pc (.ifnull off) off pc' tgt) (kt : r = none → V l D A Rm μ K k n z t I R J B tgt lv st) (kf : ∀ a, r = some a → V l D A Rm μ K k n z t I R J B pc' lv st) : V l D A Rm μ K k n z t I R J B pc lv (va_rf r :: st) := by
  intro p e s m args below meth c C X H locs ls hR hS hl
  obtain ⟨d1, rfl, d3⟩ := d
  cases r with
  | none => exact lv_ifnullN C.1 C.2.1 d1 d3 (kt rfl p e s m args below meth c C X H locs ls hR hS hl)
  | some a => exact lv_ifnull C.1 C.2.1 d1 (kf a rfl p e s m args below meth c C X H locs ls hR hS hl)
theorem V_ifnonnull {r : Option Nat} {off : Int} (d : Dj μ.2.1 pc (.ifnonnull off) off pc' tgt) (kt : ∀ a, r = some a → V l D A Rm μ K k n z t I R J B tgt lv st) (kf : r = none → V l D A Rm μ K k n z t I R J B pc' lv st) : V l D A Rm μ K k n z t I R J B pc lv (va_rf r :: st) := by
  intro p e s m args below meth c C X H locs ls hR hS hl
  obtain ⟨d1, rfl, d3⟩ := d
  cases r with
  | none => exact lv_ifnonnullN C.1 C.2.1 d1 (kf rfl p e s m args below meth c C X H locs ls hR hS hl)
  | some a => exact lv_ifnonnull C.1 C.2.1 d1 d3 (kt a rfl p e s m args below meth c C X H locs ls hR hS hl)
theorem V_acmp_ne {rx ry : Option Nat} {off : Int} (d : Dj μ.2.1 pc (.if_acmp .ne off) off pc' tgt) (kt : ¬ rx = ry → V l D A Rm μ K k n z t I R J B tgt lv st) (kf : rx = ry → V l D A Rm μ K k n z t I R J B pc' lv st) : V l D A Rm μ K k n z t I R J B pc lv (va_rf ry :: va_rf rx :: st) := by
  intro p e s m args below meth c C X H locs ls hR hS hl
  obtain ⟨d1, rfl, d3⟩ := d
  exact lv_acmp_ne C.1 C.2.1 d1 d3 (fun q => kt q p e s m args below meth c C X H locs ls hR hS hl) (fun q => kf q p e s m args below meth c C X H locs ls hR hS hl)
theorem V_ldc {i : Nat} {v : Int32} (w : Cond.constant μ.1.cls i v ∈ gtb) (d : D2 μ.2.1 pc (.ldc i) pc') (kk : V l D A Rm μ K k n z t I R J B pc' lv (.int v :: st)) : V l D A Rm μ K k n z t I R J B pc lv st := by
  intro p e s m args below meth c C X H locs ls hR hS hl
  obtain ⟨d1, rfl⟩ := d
  exact lv_ldc C.1 C.2.1 C.2.2.2.2.1 (C.2.2.2.2.2.1 _ w) d1 (kk p e s m args below meth c C X H locs ls hR hS hl)
theorem V_ldcw {i : Nat} {v : Int32} (w : Cond.constant μ.1.cls i v ∈ gtb) (d : D3 μ.2.1 pc (.ldc_w i) pc') (kk : V l D A Rm μ K k n z t I R J B pc' lv (.int v :: st)) : V l D A Rm μ K k n z t I R J B pc lv st := by
  intro p e s m args below meth c C X H locs ls hR hS hl
  obtain ⟨d1, rfl⟩ := d
  exact lv_ldcw C.1 C.2.1 C.2.2.2.2.1 (C.2.2.2.2.2.1 _ w) d1 (kk p e s m args below meth c C X H locs ls hR hS hl)
theorem V_ldc2 {i : Nat} {v : Int64} (w : Cond.constantLong μ.1.cls i v ∈ gtb) (d : D3 μ.2.1 pc (.ldc2_w i) pc') (kk : V l D A Rm μ K k n z t I R J B pc' lv (.long v :: st)) : V l D A Rm μ K k n z t I R J B pc lv st := by
  intro p e s m args below meth c C X H locs ls hR hS hl
  obtain ⟨d1, rfl⟩ := d
  exact lv_ldc2 C.1 C.2.1 C.2.2.2.2.1 (C.2.2.2.2.2.1 _ w) d1 (kk p e s m args below meth c C X H locs ls hR hS hl)
end ROWS
end
section
-- FIELDS, ARRAYS, MAKING, RETURNS, CALLS, over V
def FkI (own : String) (idx c k f T : Nat) : Prop := c < 13 ∧ k < Nc c ∧ c + 1 = T ∧ 100 * c + k = f ∧ Cond.fieldLink own idx (Tc c k).1 (Tc c k).2.1 (Tc c k).2.2.1 ∈ gtb ∧ (sh c)[k]? = some false
def FkR (own : String) (idx c k f T : Nat) : Prop := c < 13 ∧ k < Nc c ∧ c + 1 = T ∧ 100 * c + k = f ∧ Cond.fieldLink own idx (Tc c k).1 (Tc c k).2.1 (Tc c k).2.2.1 ∈ gtb ∧ (sh c)[k]? = some true
section HEAP
variable {l : Launch} {D : va_G} {A : Nat → Prop} {Rm : Room} {μ : Meth} {K : Kx} {k n z : Nat} {t : TT} {I : MI} {R : MR} {J : MI} {B : MR} {pc pc' tgt : Nat} {lv : List (Option Value)} {st : List Value}
theorem Rep.cell {U : State} {H : Heap} (h : Rep D A U z t I R J B H) {a T : Nat} (ht : (t a).1 = T) (h0 : 0 < T) : CellOk D U (t a) (fun f => I f a) (fun f => R f a) (J a) (B a) a H := (h.2.2 a (by omega)).2
theorem Rep.obj {U : State} {H : Heap} (h : Rep D A U z t I R J B H) {a c : Nat} (ht : (t a).1 = c + 1) (hc : c < 13) : va_P D classes [(a, .inr (c, fl c (fun f => I f a) (fun f => R f a)))] H := by
  intro k q hk
  have hz : k < 1 := (List.getElem?_eq_some_iff.mp hk).1
  rw [show k = 0 by omega] at hk
  cases hk
  exact (h.2.2 a (by omega)).2.1 c ht hc
theorem V_getI {idx c j f T a : Nat} (F : FkI μ.1.cls idx c j f T) (d : D3 μ.2.1 pc (.getfield idx) pc') (ht : (t a).1 = T) (kk : V l D A Rm μ K k n z t I R J B pc' lv (.int (I f a) :: st)) : V l D A Rm μ K k n z t I R J B pc lv (va_rf (some a) :: st) := by
  intro p e s m args below meth cd C X H locs ls hR hS hl
  obtain ⟨hc, hk, rfl, rfl, hw, hs⟩ := F
  obtain ⟨d1, rfl⟩ := d
  obtain ⟨hcl, hin, -, -, -, -⟩ := cl_ok c hc
  exact va_get C.1 C.2.1 C.2.2.2.2.2.1 hin C.2.2.2.2.1 hR.1 (hR.obj ht hc) 0 rfl hcl j hk (C.2.2.2.2.2.1 _ hw) (fun _ h => h) (fl_get hs) d1 (kk p e s m args below meth cd C X H locs ls hR hS hl)
theorem V_getR {idx c j f T a : Nat} (F : FkR μ.1.cls idx c j f T) (d : D3 μ.2.1 pc (.getfield idx) pc') (ht : (t a).1 = T) (kk : V l D A Rm μ K k n z t I R J B pc' lv (va_rf (R f a) :: st)) : V l D A Rm μ K k n z t I R J B pc lv (va_rf (some a) :: st) := by
  intro p e s m args below meth cd C X H locs ls hR hS hl
  obtain ⟨hc, hk, rfl, rfl, hw, hs⟩ := F
  obtain ⟨d1, rfl⟩ := d
  obtain ⟨hcl, hin, -, -, -, -⟩ := cl_ok c hc
  exact va_get C.1 C.2.1 C.2.2.2.2.2.1 hin C.2.2.2.2.1 hR.1 (hR.obj ht hc) 0 rfl hcl j hk (C.2.2.2.2.2.1 _ hw) (fun _ h => h) (fl_get hs) d1 (kk p e s m args below meth cd C X H locs ls hR hS hl)
/-- what a write of a field leaves -/
theorem obj_put {U : State} {H1 : Heap} {a c j : Nat} {cell : Cell} {v : Value} {iv iv' : Nat → Int32} {rv rv' : Nat → Option Nat} {jv : Nat → Int32} {bv : Nat → Option Nat} {τ : Nat × Nat} (hK : va_K D classes [] U) {Ts : List Cond} {ar : Array Value} (hts : ∀ w ∈ Ts, w.before ar U = true) (hin : ∀ w ∈ u_ws (Cc c) (Tc c) (Nc c), w ∈ Ts)
    (hc : c < 13) (ht : τ.1 = c + 1) (hk : j < Nc c) (q2 : cell.cls = D.1 c) (q3 : cell.vm = .none) (q4 : ∀ k, k < Nc c → cell.slots[D.2 c k]? = some (vp_V (fl c iv rv) k)) (e1 : H1[a]? = some (cell.setSlot (D.2 c j) v)) (hset : (fl c iv rv).set j v = fl c iv' rv') : CellOk D U τ iv' rv' jv bv a H1 := by
  obtain ⟨hcl, -, hnm, hty, hlen, -⟩ := cl_ok c hc
  have hap := va_apart (own := Cc c) hts hin (yc c) hty hnm hK hcl
  refine ⟨fun c' h1 h2 => ?_, fun h => by omega, fun j h => by omega⟩
  have e : c' = c := by omega
  subst e
  refine ⟨_, hcl, t_OB.to (V := updV (vp_V (fl c' iv rv)) j v) ⟨_, e1, q2, q3, t_set q4 hap hk v⟩ (fun i _ => ?_)⟩
  rw [vp_updV_set (by rw [fl_len, hlen]; exact hk) v i, hset]
theorem V_put {idx c j T a : Nat} {v : Value} {I' : MI} {R' : MR} (hc : c < 13) (hk : j < Nc c) (hT : c + 1 = T) (hw : Cond.fieldLink μ.1.cls idx (Tc c j).1 (Tc c j).2.1 (Tc c j).2.2.1 ∈ gtb) (hfin : (Tc c j).2.2.2 = false ∨ ((Tc c j).2.2.2 = true ∧ μ.1.name = "<init>" ∧ (Tc c j).1 = μ.1.cls)) (hn : narrow (yc c j) v = v) (hfit : fits (yc c j) v = true)
    (hI : ∀ f b, b ≠ a → I' f b = I f b) (hR' : ∀ f b, b ≠ a → R' f b = R f b) (hset : (fl c (fun f => I f a) (fun f => R f a)).set j v = fl c (fun f => I' f a) (fun f => R' f a))
    (d : D3 μ.2.1 pc (.putfield idx) pc') (ht : (t a).1 = T) (kk : V l D A Rm μ K k n z t I' R' J B pc' lv st) : V l D A Rm μ K k n z t I R J B pc lv (v :: va_rf (some a) :: st) := by
  intro p e s m args below meth cd C X H locs ls hR hS hl
  subst hT
  obtain ⟨d1, rfl⟩ := d
  obtain ⟨hx, hb, hml, hr, hown, hts, hlk, hnam, -⟩ := id C
  obtain ⟨hcl, hin, hnm, hty, hlen, -⟩ := cl_ok c hc
  obtain ⟨r, h1, cell, q1, q2, q3, q4⟩ := hR.obj ht hc 0 _ rfl
  have hr' : r = (Cc c, Tc c, Nc c) := Option.some.inj (h1.symm.trans hcl)
  subst hr'
  obtain ⟨hSl, hfc, kC, hkC, hkind⟩ := hR.1.1 c _ hcl
  obtain ⟨cf, kf, fi, f, hi, hsl⟩ := hSl j hk
  have hlay := hts _ (hin _ (u_in_lay hk))
  unfold u_lay at hlay
  have hst := (u_facts hfc hkC (u_lays hts hin hk) hi).1
  have hAa : A a := (hR.2.2 a (by omega)).1.1
  have fin : ∀ H' : Heap, H'[a]? = some (cell.setSlot f.slot v) → H'.size = H.size → (∀ q, q ≠ a → H'[q]? = H[q]?) → W p l e Rm s m args below meth cd H' (locs ++ [⟨a, f.slot⟩]) k n (K.1 below args s) (F0 m (pc + 3) ls st) := by
    intro H' e1 e2 e3
    rw [hsl] at e1
    refine kk p e s m args below meth cd C X H' _ ls (hR.put (a := a) e2 e3 hI hR' (fun _ _ => rfl) (fun _ _ => rfl) ?_) (hS.put e2 e3 hAa) hl
    exact obj_put hR.1 hts hin hc ht hk q2 q3 q4 e1 hset
  rcases hfin with hfin | ⟨hfin, hin2, hdecl⟩
  · rw [if_neg (by rw [hfin]; decide)] at hlay
    have h6 := u_store hfc hkC hkind hlay hi (hty j hk) hn hfit
    exact W.putK hx hb (f := f) ⟨hown, hts _ hw, ⟨_, _, _, hi⟩, hst⟩ (by rw [q2]; exact h6) q1 q3 (by rw [hsl]; exact k2_hasslot (q4 j hk)) rfl rfl d1 fin
  · rw [if_pos hfin] at hlay
    have hcf : m.cls = cf := by
      obtain ⟨_, _, c', _, _, _, -, -, hf', -, -, -, hown2, -⟩ := Cond.laysFinal_spec hlay
      have e1 : c' = cf := by have := hi.symm.trans hf'; simp at this; exact this.1.symm
      rw [hdecl] at hown2
      rw [← e1]; exact Option.some.inj (hown.symm.trans hown2)
    have h6 := u_fits hfc hkC hkind (Or.inr hlay) hi (hty j hk) hn hfit
    exact W.putFinK hx hb hown (hts _ hw) hi hst hcf (hnam.trans hin2) (by rw [q2]; exact h6) q1 q3 (by rw [hsl]; exact k2_hasslot (q4 j hk)) rfl rfl d1 fin
theorem V_putI {idx c j f T a : Nat} {v : Int32} (F : FkI μ.1.cls idx c j f T) (hfin : (Tc c j).2.2.2 = false ∨ ((Tc c j).2.2.2 = true ∧ μ.1.name = "<init>" ∧ (Tc c j).1 = μ.1.cls)) (hn : narrow (yc c j) (.int v) = .int v) (hfit : fits (yc c j) (.int v) = true)
    (d : D3 μ.2.1 pc (.putfield idx) pc') (ht : (t a).1 = T) (kk : V l D A Rm μ K k n z t (up2 I f a v) R J B pc' lv st) : V l D A Rm μ K k n z t I R J B pc lv (.int v :: va_rf (some a) :: st) := by
  obtain ⟨hc, hk, hT, rfl, hw, hs⟩ := F
  refine V_put hc hk hT hw hfin hn hfit (fun g b hb => up2_off _ _ _ _ hb) (fun _ _ _ => rfl) ?_ d ht kk
  rw [fl_setI hs, up2_col]
theorem V_putR {idx c j f T a : Nat} {v : Option Nat} (F : FkR μ.1.cls idx c j f T) (hfin : (Tc c j).2.2.2 = false ∨ ((Tc c j).2.2.2 = true ∧ μ.1.name = "<init>" ∧ (Tc c j).1 = μ.1.cls)) (hn : ∀ v, narrow (yc c j) (va_rf v) = va_rf v) (hfit : ∀ v, fits (yc c j) (va_rf v) = true)
    (d : D3 μ.2.1 pc (.putfield idx) pc') (ht : (t a).1 = T) (kk : V l D A Rm μ K k n z t I (up2 R f a v) J B pc' lv st) : V l D A Rm μ K k n z t I R J B pc lv (va_rf v :: va_rf (some a) :: st) := by
  obtain ⟨hc, hk, hT, rfl, hw, hs⟩ := F
  refine V_put hc hk hT hw hfin (hn v) (hfit v) (fun _ _ _ => rfl) (fun g b hb => up2_off _ _ _ _ hb) ?_ d ht kk
  rw [fl_setR hs, up2_col]
-- arrays
theorem Rep.arr {U : State} {H : Heap} (h : Rep D A U z t I R J B H) {a N : Nat} (ht : t a = (20, N)) : ∃ cA : ClassId, va_P D classes [(a, .inl (cA, N, .inl (J a)))] H ∧ va_K D classes [(cA, .int)] U := by
  obtain ⟨cA, h1, h2⟩ := (h.2.2 a (by rw [ht]; show 20 ≠ 0; decide)).2.2.1 (by rw [ht])
  rw [ht] at h2
  refine ⟨cA, fun k q hk => ?_, h.1.1, fun k q hk => ?_⟩
  · have hz : k < 1 := (List.getElem?_eq_some_iff.mp hk).1
    rw [show k = 0 by omega] at hk
    cases hk
    exact h2
  · have hz : k < 1 := (List.getElem?_eq_some_iff.mp hk).1
    rw [show k = 0 by omega] at hk
    cases hk
    exact h1
theorem Rep.arrq {U : State} {H : Heap} (h : Rep D A U z t I R J B H) {a N j : Nat} (ht : t a = (21 + j, N)) (hj : j < 6) : ∃ cA : ClassId, va_P D classes [(a, .inl (cA, N, .inr (.inr (.inr (.inr (B a))))))] H ∧ va_K D classes [(cA, rty j)] U := by
  obtain ⟨cA, h1, h2⟩ := (h.2.2 a (by rw [ht]; show 21 + j ≠ 0; omega)).2.2.2 j (by rw [ht]) hj
  rw [ht] at h2
  refine ⟨cA, fun k q hk => ?_, h.1.1, fun k q hk => ?_⟩
  · have hz : k < 1 := (List.getElem?_eq_some_iff.mp hk).1
    rw [show k = 0 by omega] at hk
    cases hk
    exact h2
  · have hz : k < 1 := (List.getElem?_eq_some_iff.mp hk).1
    rw [show k = 0 by omega] at hk
    cases hk
    exact h1
theorem V_iald {a N i : Nat} {ix : Int32} (d : D1 μ.2.1 pc .iaload pc') (ht : t a = (20, N)) (hx : ix = nI i) (hi : i < N) (hN : N < 2147483648) (kk : V l D A Rm μ K k n z t I R J B pc' lv (.int (J a i) :: st)) : V l D A Rm μ K k n z t I R J B pc lv (.int ix :: va_rf (some a) :: st) := by
  intro p e s m args below meth cd C X H locs ls hR hS hl
  obtain ⟨d1, rfl⟩ := d
  obtain ⟨cA, hP, hK⟩ := hR.arr ht
  have hc : ix.toNatClampNeg = i := by rw [hx]; exact nI_clamp (by omega)
  refine va_iald C.1 C.2.1 hK hP 0 0 rfl rfl (by rw [hx]; exact vp_in_nI hi (by omega)) d1 ?_
  rw [hc]
  exact kk p e s m args below meth cd C X H locs ls hR hS hl
theorem V_aald {a N i j T : Nat} {ix : Int32} (d : D1 μ.2.1 pc .aaload pc') (hT : 21 + j = T) (hj : j < 6) (ht : t a = (T, N)) (hx : ix = nI i) (hi : i < N) (hN : N < 2147483648) (kk : V l D A Rm μ K k n z t I R J B pc' lv (va_rf (B a i) :: st)) : V l D A Rm μ K k n z t I R J B pc lv (.int ix :: va_rf (some a) :: st) := by
  intro p e s m args below meth cd C X H locs ls hR hS hl
  obtain ⟨d1, rfl⟩ := d
  subst hT
  obtain ⟨cA, hP, hK⟩ := hR.arrq ht hj
  have hc : ix.toNatClampNeg = i := by rw [hx]; exact nI_clamp (by omega)
  have hlt : ix.toNatClampNeg < N := by rw [hc]; exact hi
  have hin : vp_in ix N := by rw [hx]; exact vp_in_nI hi (by omega)
  refine W.aald (v := va_rf (B a ix.toNatClampNeg)) (ty := rty j) C.1 C.2.1 (hP 0 _ rfl) ((hK.2 0 _ rfl).1 N (fun j => va_rf (B a j))) (by rcases (show j = 0 ∨ j = 1 ∨ j = 2 ∨ j = 3 ∨ j = 4 ∨ j = 5 by omega) with rfl | rfl | rfl | rfl | rfl | rfl <;> rfl) (fun q => by cases q) (by show ¬ (ix < 0 ∨ (arrV _ _ _).slots.size ≤ _); rw [arrV_size]; exact hin) (by show (arrV _ _ _).slots[_]? = _; rw [arrV_read _ _ hlt]) rfl rfl d1 ?_
  rw [hc]
  exact kk p e s m args below meth cd C X H locs ls hR hS hl
theorem V_alen {a N T : Nat} {v : Int32} (d : D1 μ.2.1 pc .arraylength pc') (hT : T = 20 ∨ ∃ j, T = 21 + j ∧ j < 6) (ht : t a = (T, N)) (hv : nI N = v) (kk : V l D A Rm μ K k n z t I R J B pc' lv (.int v :: st)) : V l D A Rm μ K k n z t I R J B pc lv (va_rf (some a) :: st) := by
  intro p e s m args below meth cd C X H locs ls hR hS hl
  obtain ⟨d1, rfl⟩ := d
  rcases hT with rfl | ⟨j, rfl, hj⟩
  · obtain ⟨cA, hP, hK⟩ := hR.arr ht
    exact va_alen C.1 C.2.1 hK hP 0 0 rfl rfl hv d1 (kk p e s m args below meth cd C X H locs ls hR hS hl)
  · obtain ⟨cA, hP, hK⟩ := hR.arrq ht hj
    exact va_alen C.1 C.2.1 hK hP 0 0 rfl rfl hv d1 (kk p e s m args below meth cd C X H locs ls hR hS hl)
theorem V_iast {a N i : Nat} {ix x : Int32} (d : D1 μ.2.1 pc .iastore pc') (ht : t a = (20, N)) (hx : ix = nI i) (hi : i < N) (hN : N < 2147483648) (kk : V l D A Rm μ K k n z t I R (va_up J a (va_up (J a) i x)) B pc' lv st) : V l D A Rm μ K k n z t I R J B pc lv (.int x :: .int ix :: va_rf (some a) :: st) := by
  intro p e s m args below meth cd C X H locs ls hR hS hl
  obtain ⟨d1, rfl⟩ := d
  obtain ⟨cA, hP, hK⟩ := hR.arr ht
  have hc : ix.toNatClampNeg = i := by rw [hx]; exact nI_clamp (by omega)
  have hAa : A a := (hR.2.2 a (by rw [ht]; show 20 ≠ 0; decide)).1.1
  refine W.iast C.1 C.2.1 (hP 0 _ rfl) ((hK.2 0 _ rfl).1 N (fun j => .int (J a j))) (fun q => by cases q) (by show ¬ (ix < 0 ∨ (arrV _ _ _).slots.size ≤ _); rw [arrV_size, hx]; exact vp_in_nI hi (by omega)) rfl rfl d1 fun H1 e z oq => ?_
  refine kk p _ s m args below meth cd C X H1 _ ls (hR.put (a := a) z oq (fun _ _ _ => rfl) (fun _ _ _ => rfl) (fun b hb => va_up_ne _ _ hb) (fun _ _ => rfl) ?_) (hS.put z oq hAa) hl
  refine ⟨fun c h => by rw [ht] at h; have h : 20 = c + 1 := h; omega, fun _ => ⟨cA, hK.2 0 _ rfl, ?_⟩, fun j h => by rw [ht] at h; have h : 20 = 21 + j := h; omega⟩
  rw [e, ht, va_up_self]
  rw [vp_cell_i, vp_cell_i, arrV_store, hc]
  congr 2
  funext q
  by_cases hq : q = i
  · subst hq
    simp [updV, va_up]
  · simp [updV, va_up, hq]
theorem V_aast {a N i j T b c : Nat} {ix : Int32} (d : D1 μ.2.1 pc .aastore pc') (hT : 21 + j = T) (ht : t a = (T, N)) (hb : (t b).1 = c + 1) (hc' : c < 13) (hj : rty j = .object (Cc c) ∧ j < 6) (hx : ix = nI i) (hi : i < N) (hN : N < 2147483648) (kk : V l D A Rm μ K k n z t I R J (va_up B a (va_up (B a) i (some b))) pc' lv st) : V l D A Rm μ K k n z t I R J B pc lv (va_rf (some b) :: .int ix :: va_rf (some a) :: st) := by
  intro p e s m args below meth cd C X H locs ls hR hS hl
  obtain ⟨d1, rfl⟩ := d
  subst hT
  obtain ⟨cA, hP, hK⟩ := hR.arrq ht hj.2
  have hc : ix.toNatClampNeg = i := by rw [hx]; exact nI_clamp (by omega)
  have hAa : A a := (hR.2.2 a (by rw [ht]; show 21 + j ≠ 0; omega)).1.1
  have h0 : ¬ ix < 0 := by rw [hx]; exact nI_pos (by omega)
  obtain ⟨hcl, -⟩ := cl_ok c hc'
  obtain ⟨r', hr', cellV, g1, g2, g3, -⟩ := hR.obj hb hc' 0 _ rfl
  have hcls := (hR.1.1 c _ hcl).2
  have hKr := (hK.2 0 _ rfl).2
  have hKr' : va_RA s cA (.object (Cc c)) := by have h9 : va_RA s cA (rty j) := hKr; rw [hj.1] at h9; exact h9
  obtain ⟨kA, comp, k1, k2, k3, -⟩ := hKr'
  have hcomp : comp = D.1 c := Option.some.inj (k3.symm.trans hcls.1)
  subst hcomp
  obtain ⟨kC, hkC, -⟩ := hcls.2
  refine W.aast C.1 C.2.1 (hP 0 _ rfl) (fun q h => by cases h) (fun h => by cases h) k1 k2 rfl hkC ⟨h0, by show _ < (arrV _ _ _).slots.size; rw [arrV_size, hc]; exact hi⟩ g1 (fun q h => by rw [g3] at h; cases h) (by rw [g2]; exact hkC) (by rw [g2]; exact va_assign hcls) rfl rfl d1 fun H1 e z oq => ?_
  refine kk p _ s m args below meth cd C X H1 _ ls (hR.put (a := a) z oq (fun _ _ _ => rfl) (fun _ _ _ => rfl) (fun _ _ => rfl) (fun b hb => va_up_ne _ _ hb) ?_) (hS.put z oq hAa) hl
  refine ⟨fun c h => by rw [ht] at h; have h : 21 + j = c + 1 := h; omega, fun h => by rw [ht] at h; have h : 21 + j = 20 := h; omega, fun j' h h2 => ?_⟩
  rw [ht] at h
  have h : 21 + j = 21 + j' := h
  have ej : j' = j := by omega
  subst ej
  refine ⟨cA, hK.2 0 _ rfl, ?_⟩
  rw [e, ht, va_up_self]
  rw [vp_cell_q, vp_cell_q, arrV_store, hc]
  congr 2
  funext q
  by_cases hq : q = i
  · subst hq
    simp [updV, va_up, va_rf]
  · simp [updV, va_up, hq]
end HEAP
end
section
-- MAKING, RETURNS, CALLS, over V
def zI (I : MI) (a : Nat) : MI := fun f b => if b = a then 0 else I f b
def zR (R : MR) (a : Nat) : MR := fun f b => if b = a then none else R f b
theorem zI_self (I : MI) (f a : Nat) : zI I a f a = 0 := if_pos rfl
theorem zI_ne (I : MI) (f : Nat) {a b : Nat} (h : b ≠ a) : zI I a f b = I f b := if_neg h
theorem zR_self (R : MR) (f a : Nat) : zR R a f a = none := if_pos rfl
theorem zR_ne (R : MR) (f : Nat) {a b : Nat} (h : b ≠ a) : zR R a f b = R f b := if_neg h
/-- a method that is called on an object: its words, how many parameters -/
def MV (ν : Meth) (na : Nat) : Prop := Cond.instanceMethod ν.1 ∈ gtb ∧ Cond.selects ν.1.cls ν.1 ν.1 ∈ gtb ∧ Cond.initialized ν.1.cls ∈ gtb ∧ Cond.code ν.1 ν.2.1 ν.2.2.1 ν.2.2.2 ∈ gtb ∧ ν.1.cls ≠ "java/lang/invoke/MethodHandle" ∧ ν.1.cls ≠ "java/lang/invoke/VarHandle" ∧ (parseMethodDescriptor ν.1.desc).map (fun d => d.parameters.length) = some na
def MS (ν : Meth) (na : Nat) : Prop := Cond.static ν.1 ∈ gtb ∧ Cond.initialized ν.1.cls ∈ gtb ∧ Cond.code ν.1 ν.2.1 ν.2.2.1 ν.2.2.2 ∈ gtb ∧ ν.1.cls ≠ "java/lang/invoke/MethodHandle" ∧ ν.1.cls ≠ "java/lang/invoke/VarHandle" ∧ (parseMethodDescriptor ν.1.desc).map (fun d => d.parameters.length) = some na
def MC (ν : Meth) (na : Nat) : Prop := Cond.instanceMethod ν.1 ∈ gtb ∧ Cond.initialized ν.1.cls ∈ gtb ∧ Cond.code ν.1 ν.2.1 ν.2.2.1 ν.2.2.2 ∈ gtb ∧ (ν.1.name = "<init>" ∧ ν.2.2.2 = none) ∧ ν.1.cls ≠ "java/lang/invoke/MethodHandle" ∧ ν.1.cls ≠ "java/lang/invoke/VarHandle" ∧ (parseMethodDescriptor ν.1.desc).map (fun d => d.parameters.length) = some na
theorem aoa_moved {u U : State} (hvm : u.vm.Alike U.vm) (h : va_Nw (.arrayOver (.array .int)) u) : va_Nw (.arrayOver (.array .int)) U := by
  obtain ⟨comp, c, k, h1, h2, h3, h4, h5⟩ := arrayOverA_spec h
  obtain ⟨k', hk', he⟩ := hvm.2.2 _ _ h3
  have hi : (U.vm.classes.findIdx? fun (x : Class) => match x.kind with | .array component _ => component == comp | _ => false) = some c := by
    rw [hvm.findIdx?_eq _ (fun _ => rfl)]; exact h2
  have hkind : k'.kind = .array comp (.array .int) := by rw [he]; exact h4
  have f1 : U.vm.findClass (FieldType.array .int).toString = some comp := by rw [hvm.findClass]; exact h1
  have f2 : U.vm.findClass ("[" ++ (FieldType.array .int).toString) = some c := by rw [hvm.findClass]; exact h5
  unfold va_Nw Cond.before Cond.holds
  simp only [Cond.value]
  rw [f1, Option.bind_some]
  refine (congrArg (fun o : Option Nat => (o.bind (fun c => (U.vm.classes[c]?).map fun (k : Class) => match k.kind with | .array _ ty => decide (ty = FieldType.array .int) && decide (U.vm.findClass ("[" ++ (FieldType.array .int).toString) = some c) | _ => false) == some true)) hi).trans ?_
  simp [hk', hkind, f2]
theorem Xt.moved {s U : State} (hW : s.WarmedH U.vm) (h : Xt s) : Xt U := by
  obtain ⟨h1, h2, h3, h4, h5, h6, h7⟩ := h
  refine ⟨fun w hw => ?_, h2.moved hW.alike, h3.moved hW.alike, h4.moved hW.alike, h5.moved hW.alike, h6.moved hW.alike, ?_⟩
  · have h9 := h1 w hw
    simp only [nests, List.mem_cons, List.not_mem_nil, or_false] at hw
    rcases hw with rfl | rfl | rfl | rfl | rfl <;> exact va_Nw.warmM hW h9
  · exact aoa_moved hW.alike h7
theorem Xt.same {u U : State} (e : u.vm = U.vm) (h : Xt u) : Xt U := by
  obtain ⟨h1, h2, h3, h4, h5, h6, h7⟩ := h
  have ha : u.vm.Alike U.vm := by rw [e]; exact Vm.Alike.refl _
  refine ⟨fun w hw => ?_, h2.moved ha, h3.moved ha, h4.moved ha, h5.moved ha, h6.moved ha, ?_⟩
  · have h9 := h1 w hw
    simp only [nests, List.mem_cons, List.not_mem_nil, or_false] at hw
    rcases hw with rfl | rfl | rfl | rfl | rfl <;> exact va_Nw.same rfl e h9
  · exact aoa_moved ha h7
theorem blind {D : va_G} {A : Nat → Prop} {av : List Value} {z : Nat} {t : TT} {I : MI} {R : MR} {J : MI} {B : MR} : FrameBlind (va_Pc av (fun U => Xt U ∧ Rep D A U z t I R J B U.heap)) := by
  intro a U g mk q
  obtain ⟨q0, q1, q2⟩ := q
  exact ⟨q0, Xt.same (u := U) (U := U.calling g mk a) rfl q1, Rep.moved (u := U) (U := U.calling g mk a) (Vm.Alike.refl U.vm) q2⟩
section MAKE
variable {l : Launch} {D : va_G} {A : Nat → Prop} {Rm : Room} {μ : Meth} {K : Kx} {k n z : Nat} {t : TT} {I : MI} {R : MR} {J : MI} {B : MR} {pc pc' tgt : Nat} {lv : List (Option Value)} {st : List Value}
theorem V_new {idx c N T : Nat} (hc : c < 13) (hN : Nc c = N) (hT : c + 1 = T) (w1 : Cond.classLink μ.1.cls idx (Cc c) ∈ gtb) (w2 : Cond.instantiable (Cc c) N ∈ gtb) (w3 : Cond.initialized (Cc c) ∈ gtb) (hA : A z) (h1 : k + 1 ≤ Rm.cells) (h2 : n + N ≤ Rm.slots) (d : D3 μ.2.1 pc (.new idx) pc')
    (kk : V l D A Rm μ K (k + 1) (n + N) (z + 1) (va_up t z (T, 0)) (zI I z) (zR R z) J B pc' lv (va_rf (some z) :: st)) : V l D A Rm μ K k n z t I R J B pc lv st := by
  intro p e s m args below meth cd C X H locs ls hR hS hl
  subst hN; subst hT
  obtain ⟨d1, rfl⟩ := d
  obtain ⟨hcl, hin, hnm, hty, hlen, hsh⟩ := cl_ok c hc
  have hts := C.2.2.2.2.2.1
  have hKn := hR.1.1 c _ hcl
  refine W.newcK C.1 C.2.1 C.2.2.2.2.1 (hts _ w1) (hts _ w2) (hts _ w3) rfl d1 h1 h2 hKn.2.1 rfl fun H1 kC hkC e1 z1 o1 => ?_
  have hz := hR.2.1
  rw [hz] at e1 z1 o1 ⊢
  refine kk p e s m args below meth cd C X H1 locs ls (hR.push hA (by omega) (fun q hq => o1 q hq) (fun b hb => va_up_ne _ _ hb) (fun f b hb => zI_ne _ _ hb) (fun f b hb => zR_ne _ _ hb) (fun _ _ => rfl) (fun _ _ => rfl) ?_) ⟨Nat.le_trans hS.1 (by omega), fun x h1 h2 => (o1 x (by have := hS.1; omega)).trans (hS.2.1 x h1 h2), hS.2.2⟩ hl
  rw [va_up_self]
  refine ⟨fun c' h1 h2 => ?_, fun h => by have h : c + 1 = 20 := h; omega, fun j h => by have h : c + 1 = 21 + j := h; omega⟩
  have h1 : c + 1 = c' + 1 := h1
  have e : c' = c := by omega
  subst e
  refine ⟨_, hcl, (u_born (yc c') hts hin hKn hkC e1 hty).to (fun j hj => ?_)⟩
  rcases hsh j hj with ⟨g1, g2⟩ | ⟨g1, g2⟩
  · rw [g2]; simp [vp_V, fl_get g1, zR_self, va_rf]
  · rw [g2]; simp [vp_V, fl_get g1, zI_self]
theorem V_newa {x : Int32} {N : Nat} (w : Cond.arrayClass .int ∈ gtb) (hx : x = nI N) (hN : N < 100000000) (hA : A z) (h1 : k + 1 ≤ Rm.cells) (h2 : n + N ≤ Rm.slots) (d : D2 μ.2.1 pc (.newarray .int) pc')
    (kk : V l D A Rm μ K (k + 1) (n + N) (z + 1) (va_up t z (20, N)) I R (va_up J z (fun _ => 0)) B pc' lv (va_rf (some z) :: st)) : V l D A Rm μ K k n z t I R J B pc lv (.int x :: st) := by
  intro p e s m args below meth cd C X H locs ls hR hS hl
  obtain ⟨d1, rfl⟩ := d
  have hts := C.2.2.2.2.2.1
  have hc : x.toNatClampNeg = N := by rw [hx]; exact nI_clamp (by omega)
  refine va_newaK (atype := .int) C.1 C.2.1 (hts _ w) rfl d1 rfl (by rw [hx]; exact nI_pos (by omega)) hc (by show N * 4 ≤ 536870912; omega) h1 h2 rfl fun H1 cA e1 z1 o1 hAr hNm => ?_
  have hz := hR.2.1
  rw [hz] at e1 z1 o1 ⊢
  refine kk p e s m args below meth cd C X H1 locs ls (hR.push hA (by omega) (fun q hq => o1 q hq) (fun b hb => va_up_ne _ _ hb) (fun f b hb => rfl) (fun f b hb => rfl) (fun b hb => va_up_ne _ _ hb) (fun _ _ => rfl) ?_) ⟨Nat.le_trans hS.1 (by omega), fun x h1 h2 => (o1 x (by have := hS.1; omega)).trans (hS.2.1 x h1 h2), hS.2.2⟩ hl
  rw [va_up_self, va_up_self]
  refine ⟨fun c' h1 h2 => by have h1 : 20 = c' + 1 := h1; omega, fun h => ⟨cA, ⟨hAr, hNm⟩, ?_⟩, fun j h => by have h : 20 = 21 + j := h; omega⟩
  rw [vp_cell_i]
  exact e1
theorem V_newq {x : Int32} {N j idx T : Nat} {Cn : String} (hj : j < 5) (hT : 21 + j = T) (hCn : rty j = .object Cn) (w : Cond.classLink μ.1.cls idx Cn ∈ gtb) (hx : x = nI N) (hN : N < 100000000) (hA : A z) (h1 : k + 1 ≤ Rm.cells) (h2 : n + N ≤ Rm.slots) (d : D3 μ.2.1 pc (.anewarray idx) pc')
    (kk : V l D A Rm μ K (k + 1) (n + N) (z + 1) (va_up t z (T, N)) I R J (va_up B z (fun _ => none)) pc' lv (va_rf (some z) :: st)) : V l D A Rm μ K k n z t I R J B pc lv (.int x :: st) := by
  intro p e s m args below meth cd C X H locs ls hR hS hl
  obtain ⟨d1, rfl⟩ := d
  subst hT
  have hts := C.2.2.2.2.2.1
  have hc : x.toNatClampNeg = N := by rw [hx]; exact nI_clamp (by omega)
  have hXt := C.2.2.2.2.2.2.2.2
  have hover : va_AO Cn s := by
    obtain ⟨-, g2, g3, g4, g5, g6, -⟩ := hXt
    rcases (show j = 0 ∨ j = 1 ∨ j = 2 ∨ j = 3 ∨ j = 4 by omega) with rfl | rfl | rfl | rfl | rfl <;> cases hCn <;> assumption
  subst hc
  refine W.anew C.1 C.2.1 C.2.2.2.2.1 (hts _ w) (va_AO.use hover) rfl d1 rfl (by rw [hx]; exact nI_pos (by omega)) (by omega) h1 h2 fun cA kA comp f1 f2 f3 f4 => ?_
  have hz := hR.2.1
  generalize hH1 : H.push ({ cls := cA, slots := Array.replicate x.toNatClampNeg .null, vm := .none } : Cell) = H1
  have z1 : H1.size = H.size + 1 := by rw [← hH1, Array.size_push]
  have e1 : H1[H.size]? = some (arrV cA x.toNatClampNeg (fun _ => .null)) := by rw [← hH1, Array.getElem?_push_size, ← arrV_new]
  have o1 : ∀ q : Nat, q < H.size → H1[q]? = H[q]? := fun q hq => by rw [← hH1, Array.getElem?_push, if_neg (Nat.ne_of_lt hq)]
  rw [hz] at e1 z1 o1 ⊢
  have hAr : ArrOfT s cA (rty j) := by rw [hCn]; exact fun N z => ⟨(fun k h => by cases h), kA, f2, comp, f3⟩
  have hRa : va_RA s cA (rty j) := by rw [hCn]; exact ⟨kA, comp, f2, f3, f4, f1⟩
  refine kk p e s m args below meth cd C X H1 locs ls (hR.push hA (by omega) (fun q hq => o1 q hq) (fun b hb => va_up_ne _ _ hb) (fun f b hb => rfl) (fun f b hb => rfl) (fun _ _ => rfl) (fun b hb => va_up_ne _ _ hb) ?_) ⟨Nat.le_trans hS.1 (by omega), fun x h1 h2 => (o1 x (by have := hS.1; omega)).trans (hS.2.1 x h1 h2), hS.2.2⟩ hl
  rw [va_up_self, va_up_self]
  refine ⟨fun c' h1 h2 => by have h1 : 21 + j = c' + 1 := h1; omega, fun h => by have h : 21 + j = 20 := h; omega, fun j' h h3 => ?_⟩
  have h : 21 + j = 21 + j' := h
  have ej : j' = j := by omega
  subst ej
  refine ⟨cA, ⟨hAr, hRa⟩, ?_⟩
  rw [vp_cell_q]
  exact e1
-- returns
theorem V_iret {mc ms : Nat} {Φ : PP} {v : Int32} (d : D1 μ.2.1 pc .ireturn pc') (hr : μ.2.2.2 = some .int) (h1 : k ≤ mc) (h2 : n ≤ ms) (q : Φ (some (.int v)) z t I R J B) : V l D A Rm μ (KS D A mc ms Φ) k n z t I R J B pc lv [.int v] := by
  intro p e s m args below meth cd C X H locs ls hR hS hl
  refine W.widen h1 h2 ?_
  exact W.iret C.1 C.2.1 (C.2.2.2.1.trans hr) (fun u hu hW => ⟨⟨_, _, _, _, _, _, _, rfl, q, by rw [hu]; exact hR.moved hW.alike⟩, hS.F hu⟩) hS.2.2 d.1 C.2.2.2.2.2.2.1
theorem V_zret {mc ms : Nat} {Φ : PP} {v : Int32} (d : D1 μ.2.1 pc .ireturn pc') (hr : μ.2.2.2 = some .boolean) (hv : v = 0 ∨ v = 1) (h1 : k ≤ mc) (h2 : n ≤ ms) (q : Φ (some (.int v)) z t I R J B) : V l D A Rm μ (KS D A mc ms Φ) k n z t I R J B pc lv [.int v] := by
  intro p e s m args below meth cd C X H locs ls hR hS hl
  refine W.widen h1 h2 ?_
  exact W.zret C.1 C.2.1 (C.2.2.2.1.trans hr) (by rcases hv with rfl | rfl <;> rfl) (fun u hu hW => ⟨⟨_, _, _, _, _, _, _, rfl, q, by rw [hu]; exact hR.moved hW.alike⟩, hS.F hu⟩) hS.2.2 d.1 C.2.2.2.2.2.2.1
theorem V_vret {mc ms : Nat} {Φ : PP} (d : D1 μ.2.1 pc .return_ pc') (hr : μ.2.2.2 = none) (h1 : k ≤ mc) (h2 : n ≤ ms) (q : Φ none z t I R J B) : V l D A Rm μ (KS D A mc ms Φ) k n z t I R J B pc lv [] := by
  intro p e s m args below meth cd C X H locs ls hR hS hl
  refine W.widen h1 h2 ?_
  exact W.vret C.1 C.2.1 (C.2.2.2.1.trans hr) (fun u hu hW => ⟨⟨_, _, _, _, _, _, _, rfl, q, by rw [hu]; exact hR.moved hW.alike⟩, hS.F hu⟩) hS.2.2 d.1 C.2.2.2.2.2.2.1
theorem V_aret {mc ms : Nat} {Φ : PP} {v : Option Nat} {Cn : String} (d : D1 μ.2.1 pc .areturn pc') (hr : μ.2.2.2 = some (.object Cn)) (h1 : k ≤ mc) (h2 : n ≤ ms) (q : Φ (some (va_rf v)) z t I R J B) : V l D A Rm μ (KS D A mc ms Φ) k n z t I R J B pc lv [va_rf v] := by
  intro p e s m args below meth cd C X H locs ls hR hS hl
  refine W.widen h1 h2 ?_
  exact W.aret C.1 C.2.1 (C.2.2.2.1.trans hr) (Or.inl ⟨_, rfl⟩) (va_rf_or v) (fun u hu hW => ⟨⟨_, _, _, _, _, _, _, rfl, q, by rw [hu]; exact hR.moved hW.alike⟩, hS.F hu⟩) hS.2.2 d.1 C.2.2.2.2.2.2.1
-- calls
theorem V_objInit {idx a : Nat} (d : D3 μ.2.1 pc (.invokespecial idx) pc') (w1 : Cond.methodLink μ.1.cls idx Lib.objectInit ∈ gtb) (w2 : Cond.instanceMethod Lib.objectInit ∈ gtb) (w3 : Cond.code Lib.objectInit ⟨#[0xb1]⟩ 1 none ∈ gtb) (hf : 1 ≤ Rm.frames) (hlo : 20 ≤ Rm.locals) (hs : st.length ≤ 4)
    (kk : V l D A Rm μ K k n z t I R J B pc' lv st) : V l D A Rm μ K k n z t I R J B pc lv (va_rf (some a) :: st) := by
  intro p e s m args below meth cd C X H locs ls hR hS hl
  obtain ⟨d1, rfl⟩ := d
  have hts := C.2.2.2.2.2.1
  refine W.objInit C.1 C.2.1 C.2.2.2.2.1 (hts _ w1) (hts _ w2) (hts _ w3) rfl (by rw [C.2.2.1]; exact hl.1) rfl d1 hf ?_ (kk p e s m args below meth cd C X H locs ls hR hS hl)
  have := cat_sum st
  show 2 * 0 + _ + 12 ≤ _
  omega
theorem V_mmin {x y : Int32} {idx : Nat} (d : D3 μ.2.1 pc (.invokestatic idx) pc') (w1 : Cond.methodLink μ.1.cls idx Lib.Math.min.name ∈ gtb) (w2 : Cond.static Lib.Math.min.name ∈ gtb) (w3 : Cond.initialized "java/lang/Math" ∈ gtb) (w4 : Cond.code Lib.Math.min.name Lib.Math.min.code 2 (some .int) ∈ gtb) (hf : 1 ≤ Rm.frames) (hlo : 21 ≤ Rm.locals) (hc : k ≤ Rm.cells) (hsl : n ≤ Rm.slots) (hs : st.length ≤ 4)
    (kk : V l D A Rm μ K k n z t I R J B pc' lv (.int (if y < x then y else x) :: st)) : V l D A Rm μ K k n z t I R J B pc lv (.int y :: .int x :: st) := by
  intro p e s m args below meth cd C X H locs ls hR hS hl
  obtain ⟨d1, rfl⟩ := d
  have hts := C.2.2.2.2.2.1
  have := cat_sum st
  exact va_mmin C.1 C.2.1 (by rw [C.2.2.1]; exact hl.1.symm) C.2.2.2.2.1 (hts _ w1) (hts _ w2) (hts _ w3) (hts _ w4) hf (by omega) hc hsl d1 (kk p e s m args below meth cd C X H locs ls hR hS hl)
theorem V_mmax {x y : Int32} {idx : Nat} (d : D3 μ.2.1 pc (.invokestatic idx) pc') (w1 : Cond.methodLink μ.1.cls idx Lib.Math.max.name ∈ gtb) (w2 : Cond.static Lib.Math.max.name ∈ gtb) (w3 : Cond.initialized "java/lang/Math" ∈ gtb) (w4 : Cond.code Lib.Math.max.name Lib.Math.max.code 2 (some .int) ∈ gtb) (hf : 1 ≤ Rm.frames) (hlo : 21 ≤ Rm.locals) (hc : k ≤ Rm.cells) (hsl : n ≤ Rm.slots) (hs : st.length ≤ 4)
    (kk : V l D A Rm μ K k n z t I R J B pc' lv (.int (if x < y then y else x) :: st)) : V l D A Rm μ K k n z t I R J B pc lv (.int y :: .int x :: st) := by
  intro p e s m args below meth cd C X H locs ls hR hS hl
  obtain ⟨d1, rfl⟩ := d
  have hts := C.2.2.2.2.2.1
  have := cat_sum st
  exact va_mmax C.1 C.2.1 (by rw [C.2.2.1]; exact hl.1.symm) C.2.2.2.2.1 (hts _ w1) (hts _ w2) (hts _ w3) (hts _ w4) hf (by omega) hc hsl d1 (kk p e s m args below meth cd C X H locs ls hR hS hl)
/-- behind a call -/
theorem call_back {p : Program} {e : Env} {s : State} {m : MethodId} {args : Array Value} {below : List Frame} {meth : Method} {cd : Code} {H : Heap} {locs : List Loc} {ls : Array Slot} {mc' ms' : Nat} {rest : List Value} {a : Array Value} (C : Cx μ p s m args meth cd) (X : K.2 s args) (hS : va_S A s.heap H locs) (hl : lp ls μ.2.2.1 lv)
    (hr : va_Run p l e Rm s m args below meth cd H locs k n mc' ms' (F0 m pc ls st) rest (Qcm D A (fun r z t I R J B => V l D A Rm μ K (k + mc') (n + ms') z t I R J B (pc + 3) lv (psh r rest)) a) A) : W p l e Rm s m args below meth cd H locs k n (K.1 below args s) (F0 m pc ls st) := by
  intro T hT Xs
  obtain ⟨v, st₀, u, T', L, h0, X', hL, e1, e2, ⟨⟨r, z', t', I', R', J', B', hv, hV, hR'⟩, hz, hk⟩, stp⟩ := hr T hT Xs
  cases hv
  rw [h0] at hz hk
  have hal : u.vm.Alike s.vm := by rw [← e2]; exact X'.warmed.alike.symm
  have hS' : va_S A s.heap T'.heap (locs ++ L) := ⟨Nat.le_trans hS.1 (by rw [e1]; exact hz), fun q h1 h2 => by rw [e1, hk q (Nat.lt_of_lt_of_le h1 hS.1) h2]; exact hS.2.1 q h1 h2, fun q hq => by
      rcases List.mem_append.mp hq with h | h
      · exact hS.2.2 q h
      · exact hL q h⟩
  have hR2 : Rep D A s z' t' I' R' J' B' T'.heap := by rw [e1]; exact hR'.moved hal
  obtain ⟨t2, a1, b1⟩ := hV p e s m args below meth cd C X T'.heap _ ls hR2 hS' hl T' rfl X'
  rw [psh_eq] at stp
  exact ⟨t2, stp t2 a1, b1⟩
/-- the callee's room fits the caller's -/
def Rfit (Rm : Room) (k n d' mc' ms' : Nat) (ν : Meth) : Prop := (d' + 1 ≤ Rm.frames ∧ 8 + (ν.2.2.1 + 11) + 34 * d' ≤ Rm.locals) ∧ k + mc' ≤ Rm.cells ∧ n + ms' ≤ Rm.slots
theorem V_invV {idx a na d' mc' ms' : Nat} {ν : Meth} {As rest : List Value} (M : MV ν na) (w : Cond.methodLink μ.1.cls idx ν.1 ∈ gtb) (d : D3 μ.2.1 pc (.invokevirtual idx) pc') {c T : Nat} (hc : c < 13) (hcc : Cc c = ν.1.cls) (hT : c + 1 = T) (ht : (t a).1 = T) (hn : As.length = na) (hst : st = As.reverse ++ va_rf (some a) :: rest) (hrs : rest.length ≤ 4) (hf : Rfit Rm k n d' mc' ms' ν)
    (sem : Sem l D A d' mc' ms' ν (va_rf (some a) :: As) z t I R J B (fun r z t I R J B => V l D A Rm μ K (k + mc') (n + ms') z t I R J B pc' lv (psh r rest))) : V l D A Rm μ K k n z t I R J B pc lv st := by
  intro p e s m args below meth cd C X H locs ls hR hS hl
  subst hT
  obtain ⟨d1, rfl⟩ := d
  obtain ⟨hx, hb, hml, hr, hown, hts, hlk, hnam, hXt⟩ := id C
  obtain ⟨m1, m2, m3, m4, m5⟩ := M
  have hcl := (cl_ok c hc).1
  have hG : GoodIn gtb (wsV μ.1.cls idx ν.1.cls ν.1 (wsm ν)) := good_in (fun w' hw' => by
    simp only [wsV, wsm, List.cons_append, List.nil_append, List.mem_cons] at hw'
    rcases hw' with rfl | rfl | rfl | rfl | rfl | h
    · exact w
    · exact m1
    · exact m2
    · exact m3
    · exact m4
    · exact h)
  refine call_back C X hS hl (a := (Value.ref a :: As).toArray) (va_runV (Ts := gtb) (nL := μ.2.2.1) (As := As) (rest := rest) ⟨hx, hb, hml, hown, hts⟩ sem (cwV na hts hG rfl rfl rfl ⟨rfl, m5⟩ hf.1) ⟨blind, ?_, fun U hU hW => ⟨rfl, Xt.moved hW hXt, by rw [hU]; exact hR.moved hW.alike⟩⟩ rfl hn hl.1 hst (lv_room (by have := cat_sum rest; omega)) d1 hf.2)
  obtain ⟨cell, g1, g2, g3⟩ := va_recv hR.1 (hR.obj ht hc) (ci := c) (q0 := 0) hcl rfl
  exact ⟨cell, g1, g2, by rw [← hcc]; exact g3⟩
theorem V_invS {idx na d' mc' ms' : Nat} {ν : Meth} {As rest : List Value} (M : MS ν na) (w : Cond.methodLink μ.1.cls idx ν.1 ∈ gtb) (d : D3 μ.2.1 pc (.invokestatic idx) pc') (hown' : ν.1.cls = μ.1.cls) (hn : As.length = na) (hst : st = As.reverse ++ rest) (hrs : rest.length ≤ 4) (hf : Rfit Rm k n d' mc' ms' ν)
    (sem : Sem l D A d' mc' ms' ν As z t I R J B (fun r z t I R J B => V l D A Rm μ K (k + mc') (n + ms') z t I R J B pc' lv (psh r rest))) : V l D A Rm μ K k n z t I R J B pc lv st := by
  intro p e s m args below meth cd C X H locs ls hR hS hl
  obtain ⟨d1, rfl⟩ := d
  obtain ⟨hx, hb, hml, hr, hown, hts, hlk, hnam, hXt⟩ := id C
  obtain ⟨m1, m3, m4, m5⟩ := M
  have hG : GoodIn gtb (wsS μ.1.cls idx ν.1 (wsm ν)) := good_in (fun w' hw' => by
    simp only [wsS, wsm, List.cons_append, List.nil_append, List.mem_cons] at hw'
    rcases hw' with rfl | rfl | rfl | rfl | h
    · exact w
    · exact m1
    · rw [← hown']; exact m3
    · exact m4
    · exact h)
  exact call_back C X hS hl (a := As.toArray) (va_runS (Ts := gtb) (nL := μ.2.2.1) (As := As) (rest := rest) ⟨hx, hb, hml, hown, hts⟩ sem (cwS na hts hG rfl rfl rfl ⟨hown', m5⟩ hf.1) ⟨blind, fun U hU hW => ⟨rfl, Xt.moved hW hXt, by rw [hU]; exact hR.moved hW.alike⟩⟩ rfl hn hl.1 hst (lv_room (by have := cat_sum rest; omega)) d1 hf.2)
theorem V_invI {idx a na d' mc' ms' : Nat} {ν : Meth} {As rest : List Value} (M : MC ν na) (w : Cond.methodLink μ.1.cls idx ν.1 ∈ gtb) (d : D3 μ.2.1 pc (.invokespecial idx) pc') (hn : As.length = na) (hst : st = As.reverse ++ va_rf (some a) :: rest) (hrs : rest.length ≤ 4) (hf : Rfit Rm k n d' mc' ms' ν)
    (sem : Sem l D A d' mc' ms' ν (va_rf (some a) :: As) z t I R J B (fun r z t I R J B => V l D A Rm μ K (k + mc') (n + ms') z t I R J B pc' lv (psh r rest))) : V l D A Rm μ K k n z t I R J B pc lv st := by
  intro p e s m args below meth cd C X H locs ls hR hS hl
  obtain ⟨d1, rfl⟩ := d
  obtain ⟨hx, hb, hml, hr, hown, hts, hlk, hnam, hXt⟩ := id C
  obtain ⟨m1, m3, m4, ⟨m6, m7⟩, m5⟩ := M
  obtain ⟨ny, nb, nl, nr⟩ := ν
  have m7 : nr = none := m7
  subst m7
  have hG : GoodIn gtb (wsm (ny, nb, nl, none)) := good_in (fun w' hw' => by
    simp only [wsm, List.mem_cons] at hw'
    rcases hw' with rfl | h
    · exact m4
    · exact h)
  exact call_back C X hS hl (a := (Value.ref a :: As).toArray) (va_runI (Ts := gtb) (nL := μ.2.2.1) (As := As) (rest := rest) ⟨hx, hb, hml, hown, hts⟩ sem (cwI na hts hG rfl rfl rfl (hts _ m3) (hts _ w) (hts _ m1) m6 m5 hf.1) ⟨blind, fun U hU hW => ⟨rfl, Xt.moved hW hXt, by rw [hU]; exact hR.moved hW.alike⟩⟩ rfl hn hl.1 hst (lv_room (by have := cat_sum rest; omega)) d1 hf.2)
theorem V_invSN {idx na d' mc' ms' : Nat} {ν : Meth} {As rest : List Value} {host : String} (M : MS ν na) (w : Cond.methodLinkNest μ.1.cls idx ν.1 host ∈ nests) (d : D3 μ.2.1 pc (.invokestatic idx) pc') (hn : As.length = na) (hst : st = As.reverse ++ rest) (hrs : rest.length ≤ 4) (hf : Rfit Rm k n d' mc' ms' ν)
    (sem : Sem l D A d' mc' ms' ν As z t I R J B (fun r z t I R J B => V l D A Rm μ K (k + mc') (n + ms') z t I R J B pc' lv (psh r rest))) : V l D A Rm μ K k n z t I R J B pc lv st := by
  intro p e s m args below meth cd C X H locs ls hR hS hl
  obtain ⟨d1, rfl⟩ := d
  obtain ⟨hx, hb, hml, hr, hown, hts, hlk, hnam, hXt⟩ := id C
  obtain ⟨m1, m3, m4, m5⟩ := M
  have hG : GoodIn gtb (wsm ν) := good_in (fun w' hw' => by
    simp only [wsm, List.mem_cons] at hw'
    rcases hw' with rfl | h
    · exact m4
    · exact h)
  exact call_back C X hS hl (a := As.toArray) (va_runSN (Ts := gtb) (nL := μ.2.2.1) (As := As) (rest := rest) ⟨hx, hb, hml, hown, hts⟩ sem ⟨va_cnB na hts hG rfl rfl rfl (hXt.1 _ w) (hts _ m3) m5 hf.1, hts _ m1, trivial⟩ ⟨blind, fun U hU hW => ⟨rfl, Xt.moved hW hXt, by rw [hU]; exact hR.moved hW.alike⟩⟩ rfl hn hl.1 hst (lv_room (by have := cat_sum rest; omega)) d1 hf.2)
theorem V_invIN {idx a na d' mc' ms' : Nat} {ν : Meth} {As rest : List Value} {host : String} (M : MC ν na) (w : Cond.methodLinkNest μ.1.cls idx ν.1 host ∈ nests) (d : D3 μ.2.1 pc (.invokespecial idx) pc') (hn : As.length = na) (hst : st = As.reverse ++ va_rf (some a) :: rest) (hrs : rest.length ≤ 4) (hf : Rfit Rm k n d' mc' ms' ν)
    (sem : Sem l D A d' mc' ms' ν (va_rf (some a) :: As) z t I R J B (fun r z t I R J B => V l D A Rm μ K (k + mc') (n + ms') z t I R J B pc' lv (psh r rest))) : V l D A Rm μ K k n z t I R J B pc lv st := by
  intro p e s m args below meth cd C X H locs ls hR hS hl
  obtain ⟨d1, rfl⟩ := d
  obtain ⟨hx, hb, hml, hr, hown, hts, hlk, hnam, hXt⟩ := id C
  obtain ⟨m1, m3, m4, ⟨m6, m7⟩, m5⟩ := M
  obtain ⟨ny, nb, nl, nr⟩ := ν
  have m7 : nr = none := m7
  subst m7
  have hG : GoodIn gtb (wsm (ny, nb, nl, none)) := good_in (fun w' hw' => by
    simp only [wsm, List.mem_cons] at hw'
    rcases hw' with rfl | h
    · exact m4
    · exact h)
  exact call_back C X hS hl (a := (Value.ref a :: As).toArray) (va_runIN (Ts := gtb) (nL := μ.2.2.1) (As := As) (rest := rest) ⟨hx, hb, hml, hown, hts⟩ sem ⟨va_cnB na hts hG rfl rfl rfl (hXt.1 _ w) (hts _ m3) m5 hf.1, m6, hts _ m1⟩ ⟨blind, fun U hU hW => ⟨rfl, Xt.moved hW hXt, by rw [hU]; exact hR.moved hW.alike⟩⟩ rfl hn hl.1 hst (lv_room (by have := cat_sum rest; omega)) d1 hf.2)
end MAKE
end
