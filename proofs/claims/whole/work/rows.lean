section
-- ===== PART A: goes FIRST, ahead of the names: the tables' words, and 'selects' of the private methods out of them =====
/-- a private method of a class that the tables say can be made, by its rows of tables_1 -/
def lw_okq (q : MethodName × Nat) : Prop := (q.1.cls ≠ "java/lang/invoke/MethodHandle" ∧ q.1.cls ≠ "java/lang/invoke/VarHandle") ∧ Cond.instantiable q.1.cls q.2 ∈ tables_1 ∧ Cond.privateMethod q.1 ∈ tables_1 ∧ Cond.instanceMethod q.1 ∈ tables_1
theorem lw_p0 : lw_okq (⟨"FleetStores", "placeOf", "(I)LFleetStores$Place;"⟩, 16) := ⟨⟨by decide +kernel, by decide +kernel⟩, List.mem_of_getElem? (i := 16) (by decide +kernel), List.mem_of_getElem? (i := 267) (by decide +kernel), List.mem_of_getElem? (i := 268) (by decide +kernel)⟩
theorem lw_p1 : lw_okq (⟨"FleetStores", "kindOf", "(I)LFleetStores$Kind;"⟩, 16) := ⟨⟨by decide +kernel, by decide +kernel⟩, List.mem_of_getElem? (i := 16) (by decide +kernel), List.mem_of_getElem? (i := 278) (by decide +kernel), List.mem_of_getElem? (i := 279) (by decide +kernel)⟩
theorem lw_p2 : lw_okq (⟨"FleetStores", "storeOf", "(II)LFleetStores$Store;"⟩, 16) := ⟨⟨by decide +kernel, by decide +kernel⟩, List.mem_of_getElem? (i := 16) (by decide +kernel), List.mem_of_getElem? (i := 298) (by decide +kernel), List.mem_of_getElem? (i := 299) (by decide +kernel)⟩
theorem lw_p3 : lw_okq (⟨"FleetStores$Lots", "putInChain", "(LFleetStores$Lot;)V"⟩, 3) := ⟨⟨by decide +kernel, by decide +kernel⟩, List.mem_of_getElem? (i := 126) (by decide +kernel), List.mem_of_getElem? (i := 376) (by decide +kernel), List.mem_of_getElem? (i := 377) (by decide +kernel)⟩
theorem lw_p4 : lw_okq (⟨"FleetStores", "bringIn", "()V"⟩, 16) := ⟨⟨by decide +kernel, by decide +kernel⟩, List.mem_of_getElem? (i := 16) (by decide +kernel), List.mem_of_getElem? (i := 397) (by decide +kernel), List.mem_of_getElem? (i := 398) (by decide +kernel)⟩
theorem lw_p5 : lw_okq (⟨"FleetStores", "condemnSpoilt", "()V"⟩, 16) := ⟨⟨by decide +kernel, by decide +kernel⟩, List.mem_of_getElem? (i := 16) (by decide +kernel), List.mem_of_getElem? (i := 405) (by decide +kernel), List.mem_of_getElem? (i := 406) (by decide +kernel)⟩
theorem lw_p6 : lw_okq (⟨"FleetStores", "eat", "()V"⟩, 16) := ⟨⟨by decide +kernel, by decide +kernel⟩, List.mem_of_getElem? (i := 16) (by decide +kernel), List.mem_of_getElem? (i := 419) (by decide +kernel), List.mem_of_getElem? (i := 420) (by decide +kernel)⟩
theorem lw_p7 : lw_okq (⟨"FleetStores", "writeStocks", "()V"⟩, 16) := ⟨⟨by decide +kernel, by decide +kernel⟩, List.mem_of_getElem? (i := 16) (by decide +kernel), List.mem_of_getElem? (i := 437) (by decide +kernel), List.mem_of_getElem? (i := 438) (by decide +kernel)⟩
theorem lw_p8 : lw_okq (⟨"FleetStores", "stockAsBegan", "(LFleetStores$Store;I)I"⟩, 16) := ⟨⟨by decide +kernel, by decide +kernel⟩, List.mem_of_getElem? (i := 16) (by decide +kernel), List.mem_of_getElem? (i := 470) (by decide +kernel), List.mem_of_getElem? (i := 471) (by decide +kernel)⟩
theorem lw_p9 : lw_okq (⟨"FleetStores", "beginTrial", "(I)V"⟩, 16) := ⟨⟨by decide +kernel, by decide +kernel⟩, List.mem_of_getElem? (i := 16) (by decide +kernel), List.mem_of_getElem? (i := 478) (by decide +kernel), List.mem_of_getElem? (i := 479) (by decide +kernel)⟩
theorem lw_p10 : lw_okq (⟨"FleetStores", "isShortInTrial", "(II)Z"⟩, 16) := ⟨⟨by decide +kernel, by decide +kernel⟩, List.mem_of_getElem? (i := 16) (by decide +kernel), List.mem_of_getElem? (i := 482) (by decide +kernel), List.mem_of_getElem? (i := 483) (by decide +kernel)⟩
theorem lw_p11 : lw_okq (⟨"FleetStores$Reader", "skipBlanks", "()V"⟩, 2) := ⟨⟨by decide +kernel, by decide +kernel⟩, List.mem_of_getElem? (i := 161) (by decide +kernel), List.mem_of_getElem? (i := 520) (by decide +kernel), List.mem_of_getElem? (i := 521) (by decide +kernel)⟩
theorem lw_p12 : lw_okq (⟨"FleetStores$Reader", "here", "()I"⟩, 2) := ⟨⟨by decide +kernel, by decide +kernel⟩, List.mem_of_getElem? (i := 161) (by decide +kernel), List.mem_of_getElem? (i := 524) (by decide +kernel), List.mem_of_getElem? (i := 525) (by decide +kernel)⟩
theorem lw_p13 : lw_okq (⟨"FleetStores$Reader", "readClause", "(LFleetStores$Contract;)Z"⟩, 2) := ⟨⟨by decide +kernel, by decide +kernel⟩, List.mem_of_getElem? (i := 161) (by decide +kernel), List.mem_of_getElem? (i := 533) (by decide +kernel), List.mem_of_getElem? (i := 534) (by decide +kernel)⟩
theorem lw_p14 : lw_okq (⟨"FleetStores$Reader", "pass", "(I)Z"⟩, 2) := ⟨⟨by decide +kernel, by decide +kernel⟩, List.mem_of_getElem? (i := 161) (by decide +kernel), List.mem_of_getElem? (i := 537) (by decide +kernel), List.mem_of_getElem? (i := 538) (by decide +kernel)⟩
theorem lw_p15 : lw_okq (⟨"FleetStores$Reader", "readDigits", "()I"⟩, 2) := ⟨⟨by decide +kernel, by decide +kernel⟩, List.mem_of_getElem? (i := 161) (by decide +kernel), List.mem_of_getElem? (i := 541) (by decide +kernel), List.mem_of_getElem? (i := 542) (by decide +kernel)⟩
def lw_privs_1 : List (MethodName × Nat) := [(⟨"FleetStores", "placeOf", "(I)LFleetStores$Place;"⟩, 16), (⟨"FleetStores", "kindOf", "(I)LFleetStores$Kind;"⟩, 16), (⟨"FleetStores", "storeOf", "(II)LFleetStores$Store;"⟩, 16), (⟨"FleetStores$Lots", "putInChain", "(LFleetStores$Lot;)V"⟩, 3), (⟨"FleetStores", "bringIn", "()V"⟩, 16), (⟨"FleetStores", "condemnSpoilt", "()V"⟩, 16), (⟨"FleetStores", "eat", "()V"⟩, 16), (⟨"FleetStores", "writeStocks", "()V"⟩, 16), (⟨"FleetStores", "stockAsBegan", "(LFleetStores$Store;I)I"⟩, 16), (⟨"FleetStores", "beginTrial", "(I)V"⟩, 16), (⟨"FleetStores", "isShortInTrial", "(II)Z"⟩, 16), (⟨"FleetStores$Reader", "skipBlanks", "()V"⟩, 2), (⟨"FleetStores$Reader", "here", "()I"⟩, 2), (⟨"FleetStores$Reader", "readClause", "(LFleetStores$Contract;)Z"⟩, 2), (⟨"FleetStores$Reader", "pass", "(I)Z"⟩, 2), (⟨"FleetStores$Reader", "readDigits", "()I"⟩, 2)]
theorem lw_r1 : ∀ q ∈ lw_privs_1, lw_okq q := List.forall_mem_cons.mpr ⟨lw_p0, List.forall_mem_cons.mpr ⟨lw_p1, List.forall_mem_cons.mpr ⟨lw_p2, List.forall_mem_cons.mpr ⟨lw_p3, List.forall_mem_cons.mpr ⟨lw_p4, List.forall_mem_cons.mpr ⟨lw_p5, List.forall_mem_cons.mpr ⟨lw_p6, List.forall_mem_cons.mpr ⟨lw_p7, List.forall_mem_cons.mpr ⟨lw_p8, List.forall_mem_cons.mpr ⟨lw_p9, List.forall_mem_cons.mpr ⟨lw_p10, List.forall_mem_cons.mpr ⟨lw_p11, List.forall_mem_cons.mpr ⟨lw_p12, List.forall_mem_cons.mpr ⟨lw_p13, List.forall_mem_cons.mpr ⟨lw_p14, List.forall_mem_cons.mpr ⟨lw_p15, fun _ h => absurd h List.not_mem_nil⟩⟩⟩⟩⟩⟩⟩⟩⟩⟩⟩⟩⟩⟩⟩⟩
theorem lw_p16 : lw_okq (⟨"FleetStores$Line", "numberIn", "(I)I"⟩, 3) := ⟨⟨by decide +kernel, by decide +kernel⟩, List.mem_of_getElem? (i := 198) (by decide +kernel), List.mem_of_getElem? (i := 565) (by decide +kernel), List.mem_of_getElem? (i := 566) (by decide +kernel)⟩
theorem lw_p17 : lw_okq (⟨"FleetStores$Line", "put", "(II)V"⟩, 3) := ⟨⟨by decide +kernel, by decide +kernel⟩, List.mem_of_getElem? (i := 198) (by decide +kernel), List.mem_of_getElem? (i := 569) (by decide +kernel), List.mem_of_getElem? (i := 570) (by decide +kernel)⟩
theorem lw_p18 : lw_okq (⟨"FleetStoresModel", "addLot", "(IIIIIIII)I"⟩, 43) := ⟨⟨by decide +kernel, by decide +kernel⟩, List.mem_of_getElem? (i := 644) (by decide +kernel), List.mem_of_getElem? (i := 814) (by decide +kernel), List.mem_of_getElem? (i := 815) (by decide +kernel)⟩
theorem lw_p19 : lw_okq (⟨"FleetStoresModel", "isLot", "(I)Z"⟩, 43) := ⟨⟨by decide +kernel, by decide +kernel⟩, List.mem_of_getElem? (i := 644) (by decide +kernel), List.mem_of_getElem? (i := 822) (by decide +kernel), List.mem_of_getElem? (i := 823) (by decide +kernel)⟩
theorem lw_p20 : lw_okq (⟨"FleetStoresModel", "part", "(IIIZ)I"⟩, 43) := ⟨⟨by decide +kernel, by decide +kernel⟩, List.mem_of_getElem? (i := 644) (by decide +kernel), List.mem_of_getElem? (i := 830) (by decide +kernel), List.mem_of_getElem? (i := 831) (by decide +kernel)⟩
theorem lw_p21 : lw_okq (⟨"FleetStoresModel", "eat", "(II)V"⟩, 43) := ⟨⟨by decide +kernel, by decide +kernel⟩, List.mem_of_getElem? (i := 644) (by decide +kernel), List.mem_of_getElem? (i := 835) (by decide +kernel), List.mem_of_getElem? (i := 836) (by decide +kernel)⟩
theorem lw_p22 : lw_okq (⟨"FleetStoresModel", "oldest", "(II[I[I)I"⟩, 43) := ⟨⟨by decide +kernel, by decide +kernel⟩, List.mem_of_getElem? (i := 644) (by decide +kernel), List.mem_of_getElem? (i := 839) (by decide +kernel), List.mem_of_getElem? (i := 840) (by decide +kernel)⟩
theorem lw_p23 : lw_okq (⟨"FleetStoresModel", "stockOf", "(II)I"⟩, 43) := ⟨⟨by decide +kernel, by decide +kernel⟩, List.mem_of_getElem? (i := 644) (by decide +kernel), List.mem_of_getElem? (i := 843) (by decide +kernel), List.mem_of_getElem? (i := 844) (by decide +kernel)⟩
theorem lw_p24 : lw_okq (⟨"FleetStoresModel", "lastsWeek", "(II)Z"⟩, 43) := ⟨⟨by decide +kernel, by decide +kernel⟩, List.mem_of_getElem? (i := 644) (by decide +kernel), List.mem_of_getElem? (i := 851) (by decide +kernel), List.mem_of_getElem? (i := 852) (by decide +kernel)⟩
theorem lw_p25 : lw_okq (⟨"FleetStoresModel", "look", "()I"⟩, 43) := ⟨⟨by decide +kernel, by decide +kernel⟩, List.mem_of_getElem? (i := 644) (by decide +kernel), List.mem_of_getElem? (i := 894) (by decide +kernel), List.mem_of_getElem? (i := 895) (by decide +kernel)⟩
theorem lw_p26 : lw_okq (⟨"FleetStoresModel", "clause", "()Z"⟩, 43) := ⟨⟨by decide +kernel, by decide +kernel⟩, List.mem_of_getElem? (i := 644) (by decide +kernel), List.mem_of_getElem? (i := 898) (by decide +kernel), List.mem_of_getElem? (i := 899) (by decide +kernel)⟩
theorem lw_p27 : lw_okq (⟨"FleetStoresModel", "number", "()I"⟩, 43) := ⟨⟨by decide +kernel, by decide +kernel⟩, List.mem_of_getElem? (i := 644) (by decide +kernel), List.mem_of_getElem? (i := 902) (by decide +kernel), List.mem_of_getElem? (i := 903) (by decide +kernel)⟩
def lw_privs_2 : List (MethodName × Nat) := [(⟨"FleetStores$Line", "numberIn", "(I)I"⟩, 3), (⟨"FleetStores$Line", "put", "(II)V"⟩, 3), (⟨"FleetStoresModel", "addLot", "(IIIIIIII)I"⟩, 43), (⟨"FleetStoresModel", "isLot", "(I)Z"⟩, 43), (⟨"FleetStoresModel", "part", "(IIIZ)I"⟩, 43), (⟨"FleetStoresModel", "eat", "(II)V"⟩, 43), (⟨"FleetStoresModel", "oldest", "(II[I[I)I"⟩, 43), (⟨"FleetStoresModel", "stockOf", "(II)I"⟩, 43), (⟨"FleetStoresModel", "lastsWeek", "(II)Z"⟩, 43), (⟨"FleetStoresModel", "look", "()I"⟩, 43), (⟨"FleetStoresModel", "clause", "()Z"⟩, 43), (⟨"FleetStoresModel", "number", "()I"⟩, 43)]
theorem lw_r2 : ∀ q ∈ lw_privs_2, lw_okq q := List.forall_mem_cons.mpr ⟨lw_p16, List.forall_mem_cons.mpr ⟨lw_p17, List.forall_mem_cons.mpr ⟨lw_p18, List.forall_mem_cons.mpr ⟨lw_p19, List.forall_mem_cons.mpr ⟨lw_p20, List.forall_mem_cons.mpr ⟨lw_p21, List.forall_mem_cons.mpr ⟨lw_p22, List.forall_mem_cons.mpr ⟨lw_p23, List.forall_mem_cons.mpr ⟨lw_p24, List.forall_mem_cons.mpr ⟨lw_p25, List.forall_mem_cons.mpr ⟨lw_p26, List.forall_mem_cons.mpr ⟨lw_p27, fun _ h => absurd h List.not_mem_nil⟩⟩⟩⟩⟩⟩⟩⟩⟩⟩⟩⟩
def lw_privs : List (MethodName × Nat) := lw_privs_1 ++ (lw_privs_2)
def lw_tbl : List Cond := k2_sels lw_privs ++ tables_1
theorem lw_privs_ok : ∀ q ∈ lw_privs, lw_okq q := by
  show ∀ q ∈ lw_privs_1 ++ (lw_privs_2), lw_okq q
  exact List.forall_mem_append.mpr ⟨lw_r1, lw_r2⟩

/-- the words that a callee may be given -/
def gtb : List Cond := lw_tbl.filter goodWord
theorem in_tb {w : Cond} (i : Nat) (h : tables_1[i]? = some w) (g : goodWord w = true) : w ∈ gtb := List.mem_filter.mpr ⟨List.mem_append_right _ (List.mem_of_getElem? h), g⟩
theorem in_sel {w : Cond} (i : Nat) (h : (k2_sels lw_privs)[i]? = some w) (g : goodWord w = true) : w ∈ gtb := List.mem_filter.mpr ⟨List.mem_append_left _ (List.mem_of_getElem? h), g⟩
def tX0 : u_T := fun k => match k with
  | 0 => ("FleetStores$Contract", "letters", "[I", true)
  | 1 => ("FleetStores$Contract", "signs", "[I", true)
  | 2 => ("FleetStores$Contract", "numbers", "[I", true)
  | 3 => ("FleetStores$Contract", "amounts", "[I", true)
  | _ => ("FleetStores$Contract", "many", "I", false)
def tX1 : u_T := fun k => match k with
  | 0 => ("FleetStores$Kind", "number", "I", true)
  | 1 => ("FleetStores$Kind", "parts", "[I", true)
  | _ => ("FleetStores$Kind", "rations", "I", false)
def tX2 : u_T := fun k => match k with
  | 0 => ("FleetStores$Line", "places", "[I", true)
  | 1 => ("FleetStores$Line", "numbers", "[I", true)
  | _ => ("FleetStores$Line", "changed", "I", false)
def tX3 : u_T := fun k => match k with
  | 0 => ("FleetStores$Lot", "store", "LFleetStores$Store;", true)
  | 1 => ("FleetStores$Lot", "maker", "I", true)
  | 2 => ("FleetStores$Lot", "made", "I", true)
  | 3 => ("FleetStores$Lot", "grade", "I", true)
  | 4 => ("FleetStores$Lot", "mark", "I", true)
  | 5 => ("FleetStores$Lot", "casksAtFirst", "I", true)
  | 6 => ("FleetStores$Lot", "casks", "I", false)
  | 7 => ("FleetStores$Lot", "coming", "I", false)
  | 8 => ("FleetStores$Lot", "price", "I", false)
  | 9 => ("FleetStores$Lot", "isDrawn", "Z", false)
  | 10 => ("FleetStores$Lot", "owing", "I", false)
  | 11 => ("FleetStores$Lot", "lost", "I", false)
  | 12 => ("FleetStores$Lot", "trialCasks", "I", false)
  | _ => ("FleetStores$Lot", "next", "LFleetStores$Lot;", false)
def tX4 : u_T := fun k => match k with
  | 0 => ("FleetStores$Lots", "byNumber", "[LFleetStores$Lot;", true)
  | 1 => ("FleetStores$Lots", "many", "I", false)
  | _ => ("FleetStores$Lots", "oldest", "LFleetStores$Lot;", false)
def tX5 : u_T := fun k => match k with
  | 0 => ("FleetStores$Place", "number", "I", true)
  | 1 => ("FleetStores$Place", "men", "I", false)
  | _ => ("FleetStores$Place", "lag", "I", false)
def tX6 : u_T := fun k => match k with
  | 0 => ("FleetStores$Reader", "tape", "LFleetStores$Tape;", true)
  | _ => ("FleetStores$Reader", "at", "I", false)
def tX7 : u_T := fun k => match k with
  | 0 => ("FleetStores$Store", "number", "I", true)
  | 1 => ("FleetStores$Store", "place", "LFleetStores$Place;", true)
  | 2 => ("FleetStores$Store", "kind", "LFleetStores$Kind;", true)
  | 3 => ("FleetStores$Store", "table", "LFleetStores$Table;", true)
  | 4 => ("FleetStores$Store", "trialTable", "LFleetStores$Table;", true)
  | 5 => ("FleetStores$Store", "opened", "I", false)
  | 6 => ("FleetStores$Store", "lacked", "I", false)
  | _ => ("FleetStores$Store", "surveys", "LFleetStores$Survey;", false)
def tX8 : u_T := fun k => match k with
  | 0 => ("FleetStores$Survey", "week", "I", true)
  | 1 => ("FleetStores$Survey", "next", "LFleetStores$Survey;", true)
  | _ => ("FleetStores$Survey", "difference", "I", false)
def tX9 : u_T := fun k => match k with
  | 0 => ("FleetStores$Table", "left", "I", false)
  | _ => ("FleetStores$Table", "wanting", "I", false)
def tX10 : u_T := fun k => match k with
  | 0 => ("FleetStores$Tape", "bytes", "[I", true)
  | _ => ("FleetStores$Tape", "length", "I", false)
def tX11 : u_T := fun k => match k with
  | 0 => ("FleetStores", "places", "[LFleetStores$Place;", true)
  | 1 => ("FleetStores", "kinds", "[LFleetStores$Kind;", true)
  | 2 => ("FleetStores", "stores", "[LFleetStores$Store;", true)
  | 3 => ("FleetStores", "stocksAsBegan", "[[I", true)
  | 4 => ("FleetStores", "ways", "[[I", true)
  | 5 => ("FleetStores", "lots", "LFleetStores$Lots;", true)
  | 6 => ("FleetStores", "tape", "LFleetStores$Tape;", true)
  | 7 => ("FleetStores", "reader", "LFleetStores$Reader;", true)
  | 8 => ("FleetStores", "contracts", "[LFleetStores$Contract;", true)
  | 9 => ("FleetStores", "spareContract", "LFleetStores$Contract;", false)
  | 10 => ("FleetStores", "line", "LFleetStores$Line;", true)
  | 11 => ("FleetStores", "now", "I", false)
  | 12 => ("FleetStores", "casksBought", "I", false)
  | 13 => ("FleetStores", "casksCondemned", "I", false)
  | 14 => ("FleetStores", "casksOpened", "I", false)
  | _ => ("FleetStores", "surveysTold", "I", false)
def tX12 : u_T := fun k => match k with
  | 0 => ("FleetStoresModel", "now", "I", false)
  | 1 => ("FleetStoresModel", "lots", "I", false)
  | 2 => ("FleetStoresModel", "bought", "I", false)
  | 3 => ("FleetStoresModel", "opened", "I", false)
  | 4 => ("FleetStoresModel", "surveys", "I", false)
  | 5 => ("FleetStoresModel", "men", "[I", true)
  | 6 => ("FleetStoresModel", "rations", "[I", true)
  | 7 => ("FleetStoresModel", "spoil", "[I", true)
  | 8 => ("FleetStoresModel", "ways", "[I", true)
  | 9 => ("FleetStoresModel", "lags", "[I", true)
  | 10 => ("FleetStoresModel", "maker", "[I", true)
  | 11 => ("FleetStoresModel", "kind", "[I", true)
  | 12 => ("FleetStoresModel", "made", "[I", true)
  | 13 => ("FleetStoresModel", "casks", "[I", true)
  | 14 => ("FleetStoresModel", "place", "[I", true)
  | 15 => ("FleetStoresModel", "comes", "[I", true)
  | 16 => ("FleetStoresModel", "grade", "[I", true)
  | 17 => ("FleetStoresModel", "mark", "[I", true)
  | 18 => ("FleetStoresModel", "first", "[I", true)
  | 19 => ("FleetStoresModel", "price", "[I", true)
  | 20 => ("FleetStoresModel", "bad", "[I", true)
  | 21 => ("FleetStoresModel", "due", "[I", true)
  | 22 => ("FleetStoresModel", "gone", "[I", true)
  | 23 => ("FleetStoresModel", "open", "[I", true)
  | 24 => ("FleetStoresModel", "lack", "[I", true)
  | 25 => ("FleetStoresModel", "openedAt", "[I", true)
  | 26 => ("FleetStoresModel", "book", "[I", true)
  | 27 => ("FleetStoresModel", "tryCasks", "[I", true)
  | 28 => ("FleetStoresModel", "tryComes", "[I", true)
  | 29 => ("FleetStoresModel", "tryOpen", "[I", true)
  | 30 => ("FleetStoresModel", "tape", "[I", true)
  | 31 => ("FleetStoresModel", "size", "I", false)
  | 32 => ("FleetStoresModel", "at", "I", false)
  | 33 => ("FleetStoresModel", "contractMany", "[I", true)
  | 34 => ("FleetStoresModel", "letters", "[I", true)
  | 35 => ("FleetStoresModel", "signs", "[I", true)
  | 36 => ("FleetStoresModel", "numbers", "[I", true)
  | 37 => ("FleetStoresModel", "amounts", "[I", true)
  | 38 => ("FleetStoresModel", "readMany", "I", false)
  | 39 => ("FleetStoresModel", "line", "[I", true)
  | 40 => ("FleetStoresModel", "surveyBook", "[I", true)
  | 41 => ("FleetStoresModel", "surveyWeek", "[I", true)
  | _ => ("FleetStoresModel", "surveyDiffers", "[I", true)
def yX0 : Nat → FieldType := fun k => match k with
  | 0 => .array (.int)
  | 1 => .array (.int)
  | 2 => .array (.int)
  | 3 => .array (.int)
  | _ => .int
def yX1 : Nat → FieldType := fun k => match k with
  | 0 => .int
  | 1 => .array (.int)
  | _ => .int
def yX2 : Nat → FieldType := fun k => match k with
  | 0 => .array (.int)
  | 1 => .array (.int)
  | _ => .int
def yX3 : Nat → FieldType := fun k => match k with
  | 0 => .object "FleetStores$Store"
  | 1 => .int
  | 2 => .int
  | 3 => .int
  | 4 => .int
  | 5 => .int
  | 6 => .int
  | 7 => .int
  | 8 => .int
  | 9 => .boolean
  | 10 => .int
  | 11 => .int
  | 12 => .int
  | _ => .object "FleetStores$Lot"
def yX4 : Nat → FieldType := fun k => match k with
  | 0 => .array (.object "FleetStores$Lot")
  | 1 => .int
  | _ => .object "FleetStores$Lot"
def yX5 : Nat → FieldType := fun k => match k with
  | 0 => .int
  | 1 => .int
  | _ => .int
def yX6 : Nat → FieldType := fun k => match k with
  | 0 => .object "FleetStores$Tape"
  | _ => .int
def yX7 : Nat → FieldType := fun k => match k with
  | 0 => .int
  | 1 => .object "FleetStores$Place"
  | 2 => .object "FleetStores$Kind"
  | 3 => .object "FleetStores$Table"
  | 4 => .object "FleetStores$Table"
  | 5 => .int
  | 6 => .int
  | _ => .object "FleetStores$Survey"
def yX8 : Nat → FieldType := fun k => match k with
  | 0 => .int
  | 1 => .object "FleetStores$Survey"
  | _ => .int
def yX9 : Nat → FieldType := fun k => match k with
  | 0 => .int
  | _ => .int
def yX10 : Nat → FieldType := fun k => match k with
  | 0 => .array (.int)
  | _ => .int
def yX11 : Nat → FieldType := fun k => match k with
  | 0 => .array (.object "FleetStores$Place")
  | 1 => .array (.object "FleetStores$Kind")
  | 2 => .array (.object "FleetStores$Store")
  | 3 => .array (.array (.int))
  | 4 => .array (.array (.int))
  | 5 => .object "FleetStores$Lots"
  | 6 => .object "FleetStores$Tape"
  | 7 => .object "FleetStores$Reader"
  | 8 => .array (.object "FleetStores$Contract")
  | 9 => .object "FleetStores$Contract"
  | 10 => .object "FleetStores$Line"
  | 11 => .int
  | 12 => .int
  | 13 => .int
  | 14 => .int
  | _ => .int
def yX12 : Nat → FieldType := fun k => match k with
  | 0 => .int
  | 1 => .int
  | 2 => .int
  | 3 => .int
  | 4 => .int
  | 5 => .array (.int)
  | 6 => .array (.int)
  | 7 => .array (.int)
  | 8 => .array (.int)
  | 9 => .array (.int)
  | 10 => .array (.int)
  | 11 => .array (.int)
  | 12 => .array (.int)
  | 13 => .array (.int)
  | 14 => .array (.int)
  | 15 => .array (.int)
  | 16 => .array (.int)
  | 17 => .array (.int)
  | 18 => .array (.int)
  | 19 => .array (.int)
  | 20 => .array (.int)
  | 21 => .array (.int)
  | 22 => .array (.int)
  | 23 => .array (.int)
  | 24 => .array (.int)
  | 25 => .array (.int)
  | 26 => .array (.int)
  | 27 => .array (.int)
  | 28 => .array (.int)
  | 29 => .array (.int)
  | 30 => .array (.int)
  | 31 => .int
  | 32 => .int
  | 33 => .array (.int)
  | 34 => .array (.int)
  | 35 => .array (.int)
  | 36 => .array (.int)
  | 37 => .array (.int)
  | 38 => .int
  | 39 => .array (.int)
  | 40 => .array (.int)
  | 41 => .array (.int)
  | _ => .array (.int)
def Cc : Nat → String := fun c => match c with
  | 0 => "FleetStores$Contract"
  | 1 => "FleetStores$Kind"
  | 2 => "FleetStores$Line"
  | 3 => "FleetStores$Lot"
  | 4 => "FleetStores$Lots"
  | 5 => "FleetStores$Place"
  | 6 => "FleetStores$Reader"
  | 7 => "FleetStores$Store"
  | 8 => "FleetStores$Survey"
  | 9 => "FleetStores$Table"
  | 10 => "FleetStores$Tape"
  | 11 => "FleetStores"
  | _ => "FleetStoresModel"
def Tc : Nat → u_T := fun c => match c with
  | 0 => tX0
  | 1 => tX1
  | 2 => tX2
  | 3 => tX3
  | 4 => tX4
  | 5 => tX5
  | 6 => tX6
  | 7 => tX7
  | 8 => tX8
  | 9 => tX9
  | 10 => tX10
  | 11 => tX11
  | _ => tX12
def yc : Nat → Nat → FieldType := fun c => match c with
  | 0 => yX0
  | 1 => yX1
  | 2 => yX2
  | 3 => yX3
  | 4 => yX4
  | 5 => yX5
  | 6 => yX6
  | 7 => yX7
  | 8 => yX8
  | 9 => yX9
  | 10 => yX10
  | 11 => yX11
  | _ => yX12
def Nc : Nat → Nat := fun c => match c with
  | 0 => 5
  | 1 => 3
  | 2 => 3
  | 3 => 14
  | 4 => 3
  | 5 => 3
  | 6 => 2
  | 7 => 8
  | 8 => 3
  | 9 => 2
  | 10 => 2
  | 11 => 16
  | _ => 43
def sh : Nat → List Bool := fun c => match c with
  | 0 => [true, true, true, true, false]
  | 1 => [false, true, false]
  | 2 => [true, true, false]
  | 3 => [true, false, false, false, false, false, false, false, false, false, false, false, false, true]
  | 4 => [true, false, true]
  | 5 => [false, false, false]
  | 6 => [true, false]
  | 7 => [false, true, true, true, true, false, false, true]
  | 8 => [false, true, false]
  | 9 => [false, false]
  | 10 => [true, false]
  | 11 => [true, true, true, true, true, true, true, true, true, true, true, false, false, false, false, false]
  | _ => [false, false, false, false, false, true, true, true, true, true, true, true, true, true, true, true, true, true, true, true, true, true, true, true, true, true, true, true, true, true, true, false, false, true, true, true, true, true, false, true, true, true, true]
def classes : List vw_C := [(Cc 0, Tc 0, Nc 0), (Cc 1, Tc 1, Nc 1), (Cc 2, Tc 2, Nc 2), (Cc 3, Tc 3, Nc 3), (Cc 4, Tc 4, Nc 4), (Cc 5, Tc 5, Nc 5), (Cc 6, Tc 6, Nc 6), (Cc 7, Tc 7, Nc 7), (Cc 8, Tc 8, Nc 8), (Cc 9, Tc 9, Nc 9), (Cc 10, Tc 10, Nc 10), (Cc 11, Tc 11, Nc 11), (Cc 12, Tc 12, Nc 12)]
theorem inaX0 : ∀ w ∈ u_ws (Cc 0) (Tc 0) (Nc 0), w ∈ lw_tbl := by decide +kernel
theorem inX0 : ∀ w ∈ u_ws (Cc 0) (Tc 0) (Nc 0), w ∈ gtb := fun w h => List.mem_filter.mpr ⟨inaX0 w h, (by decide +kernel : ∀ w ∈ u_ws (Cc 0) (Tc 0) (Nc 0), goodWord w = true) w h⟩
theorem nmX0 : ∀ a, a < Nc 0 → ∀ b, b < Nc 0 → a ≠ b → (Tc 0 a).2.1 ≠ (Tc 0 b).2.1 := by decide +kernel
theorem okX0 : ∀ k, k < Nc 0 → parseFieldDescriptor (Tc 0 k).2.2.1 = some (yc 0 k) := by decide +kernel
theorem shX0 : (sh 0).length = Nc 0 ∧ ∀ k, k < Nc 0 → ((sh 0)[k]? = some true ∧ defaultValue (yc 0 k) = .null ∨ (sh 0)[k]? = some false ∧ defaultValue (yc 0 k) = .int 0) := by decide +kernel
theorem inaX1 : ∀ w ∈ u_ws (Cc 1) (Tc 1) (Nc 1), w ∈ lw_tbl := by decide +kernel
theorem inX1 : ∀ w ∈ u_ws (Cc 1) (Tc 1) (Nc 1), w ∈ gtb := fun w h => List.mem_filter.mpr ⟨inaX1 w h, (by decide +kernel : ∀ w ∈ u_ws (Cc 1) (Tc 1) (Nc 1), goodWord w = true) w h⟩
theorem nmX1 : ∀ a, a < Nc 1 → ∀ b, b < Nc 1 → a ≠ b → (Tc 1 a).2.1 ≠ (Tc 1 b).2.1 := by decide +kernel
theorem okX1 : ∀ k, k < Nc 1 → parseFieldDescriptor (Tc 1 k).2.2.1 = some (yc 1 k) := by decide +kernel
theorem shX1 : (sh 1).length = Nc 1 ∧ ∀ k, k < Nc 1 → ((sh 1)[k]? = some true ∧ defaultValue (yc 1 k) = .null ∨ (sh 1)[k]? = some false ∧ defaultValue (yc 1 k) = .int 0) := by decide +kernel
theorem inaX2 : ∀ w ∈ u_ws (Cc 2) (Tc 2) (Nc 2), w ∈ lw_tbl := by decide +kernel
theorem inX2 : ∀ w ∈ u_ws (Cc 2) (Tc 2) (Nc 2), w ∈ gtb := fun w h => List.mem_filter.mpr ⟨inaX2 w h, (by decide +kernel : ∀ w ∈ u_ws (Cc 2) (Tc 2) (Nc 2), goodWord w = true) w h⟩
theorem nmX2 : ∀ a, a < Nc 2 → ∀ b, b < Nc 2 → a ≠ b → (Tc 2 a).2.1 ≠ (Tc 2 b).2.1 := by decide +kernel
theorem okX2 : ∀ k, k < Nc 2 → parseFieldDescriptor (Tc 2 k).2.2.1 = some (yc 2 k) := by decide +kernel
theorem shX2 : (sh 2).length = Nc 2 ∧ ∀ k, k < Nc 2 → ((sh 2)[k]? = some true ∧ defaultValue (yc 2 k) = .null ∨ (sh 2)[k]? = some false ∧ defaultValue (yc 2 k) = .int 0) := by decide +kernel
theorem inaX3 : ∀ w ∈ u_ws (Cc 3) (Tc 3) (Nc 3), w ∈ lw_tbl := by decide +kernel
theorem inX3 : ∀ w ∈ u_ws (Cc 3) (Tc 3) (Nc 3), w ∈ gtb := fun w h => List.mem_filter.mpr ⟨inaX3 w h, (by decide +kernel : ∀ w ∈ u_ws (Cc 3) (Tc 3) (Nc 3), goodWord w = true) w h⟩
theorem nmX3 : ∀ a, a < Nc 3 → ∀ b, b < Nc 3 → a ≠ b → (Tc 3 a).2.1 ≠ (Tc 3 b).2.1 := by decide +kernel
theorem okX3 : ∀ k, k < Nc 3 → parseFieldDescriptor (Tc 3 k).2.2.1 = some (yc 3 k) := by decide +kernel
theorem shX3 : (sh 3).length = Nc 3 ∧ ∀ k, k < Nc 3 → ((sh 3)[k]? = some true ∧ defaultValue (yc 3 k) = .null ∨ (sh 3)[k]? = some false ∧ defaultValue (yc 3 k) = .int 0) := by decide +kernel
theorem inaX4 : ∀ w ∈ u_ws (Cc 4) (Tc 4) (Nc 4), w ∈ lw_tbl := by decide +kernel
theorem inX4 : ∀ w ∈ u_ws (Cc 4) (Tc 4) (Nc 4), w ∈ gtb := fun w h => List.mem_filter.mpr ⟨inaX4 w h, (by decide +kernel : ∀ w ∈ u_ws (Cc 4) (Tc 4) (Nc 4), goodWord w = true) w h⟩
theorem nmX4 : ∀ a, a < Nc 4 → ∀ b, b < Nc 4 → a ≠ b → (Tc 4 a).2.1 ≠ (Tc 4 b).2.1 := by decide +kernel
theorem okX4 : ∀ k, k < Nc 4 → parseFieldDescriptor (Tc 4 k).2.2.1 = some (yc 4 k) := by decide +kernel
theorem shX4 : (sh 4).length = Nc 4 ∧ ∀ k, k < Nc 4 → ((sh 4)[k]? = some true ∧ defaultValue (yc 4 k) = .null ∨ (sh 4)[k]? = some false ∧ defaultValue (yc 4 k) = .int 0) := by decide +kernel
theorem inaX5 : ∀ w ∈ u_ws (Cc 5) (Tc 5) (Nc 5), w ∈ lw_tbl := by decide +kernel
theorem inX5 : ∀ w ∈ u_ws (Cc 5) (Tc 5) (Nc 5), w ∈ gtb := fun w h => List.mem_filter.mpr ⟨inaX5 w h, (by decide +kernel : ∀ w ∈ u_ws (Cc 5) (Tc 5) (Nc 5), goodWord w = true) w h⟩
theorem nmX5 : ∀ a, a < Nc 5 → ∀ b, b < Nc 5 → a ≠ b → (Tc 5 a).2.1 ≠ (Tc 5 b).2.1 := by decide +kernel
theorem okX5 : ∀ k, k < Nc 5 → parseFieldDescriptor (Tc 5 k).2.2.1 = some (yc 5 k) := by decide +kernel
theorem shX5 : (sh 5).length = Nc 5 ∧ ∀ k, k < Nc 5 → ((sh 5)[k]? = some true ∧ defaultValue (yc 5 k) = .null ∨ (sh 5)[k]? = some false ∧ defaultValue (yc 5 k) = .int 0) := by decide +kernel
theorem inaX6 : ∀ w ∈ u_ws (Cc 6) (Tc 6) (Nc 6), w ∈ lw_tbl := by decide +kernel
theorem inX6 : ∀ w ∈ u_ws (Cc 6) (Tc 6) (Nc 6), w ∈ gtb := fun w h => List.mem_filter.mpr ⟨inaX6 w h, (by decide +kernel : ∀ w ∈ u_ws (Cc 6) (Tc 6) (Nc 6), goodWord w = true) w h⟩
theorem nmX6 : ∀ a, a < Nc 6 → ∀ b, b < Nc 6 → a ≠ b → (Tc 6 a).2.1 ≠ (Tc 6 b).2.1 := by decide +kernel
theorem okX6 : ∀ k, k < Nc 6 → parseFieldDescriptor (Tc 6 k).2.2.1 = some (yc 6 k) := by decide +kernel
theorem shX6 : (sh 6).length = Nc 6 ∧ ∀ k, k < Nc 6 → ((sh 6)[k]? = some true ∧ defaultValue (yc 6 k) = .null ∨ (sh 6)[k]? = some false ∧ defaultValue (yc 6 k) = .int 0) := by decide +kernel
theorem inaX7 : ∀ w ∈ u_ws (Cc 7) (Tc 7) (Nc 7), w ∈ lw_tbl := by decide +kernel
theorem inX7 : ∀ w ∈ u_ws (Cc 7) (Tc 7) (Nc 7), w ∈ gtb := fun w h => List.mem_filter.mpr ⟨inaX7 w h, (by decide +kernel : ∀ w ∈ u_ws (Cc 7) (Tc 7) (Nc 7), goodWord w = true) w h⟩
theorem nmX7 : ∀ a, a < Nc 7 → ∀ b, b < Nc 7 → a ≠ b → (Tc 7 a).2.1 ≠ (Tc 7 b).2.1 := by decide +kernel
theorem okX7 : ∀ k, k < Nc 7 → parseFieldDescriptor (Tc 7 k).2.2.1 = some (yc 7 k) := by decide +kernel
theorem shX7 : (sh 7).length = Nc 7 ∧ ∀ k, k < Nc 7 → ((sh 7)[k]? = some true ∧ defaultValue (yc 7 k) = .null ∨ (sh 7)[k]? = some false ∧ defaultValue (yc 7 k) = .int 0) := by decide +kernel
theorem inaX8 : ∀ w ∈ u_ws (Cc 8) (Tc 8) (Nc 8), w ∈ lw_tbl := by decide +kernel
theorem inX8 : ∀ w ∈ u_ws (Cc 8) (Tc 8) (Nc 8), w ∈ gtb := fun w h => List.mem_filter.mpr ⟨inaX8 w h, (by decide +kernel : ∀ w ∈ u_ws (Cc 8) (Tc 8) (Nc 8), goodWord w = true) w h⟩
theorem nmX8 : ∀ a, a < Nc 8 → ∀ b, b < Nc 8 → a ≠ b → (Tc 8 a).2.1 ≠ (Tc 8 b).2.1 := by decide +kernel
theorem okX8 : ∀ k, k < Nc 8 → parseFieldDescriptor (Tc 8 k).2.2.1 = some (yc 8 k) := by decide +kernel
theorem shX8 : (sh 8).length = Nc 8 ∧ ∀ k, k < Nc 8 → ((sh 8)[k]? = some true ∧ defaultValue (yc 8 k) = .null ∨ (sh 8)[k]? = some false ∧ defaultValue (yc 8 k) = .int 0) := by decide +kernel
theorem inaX9 : ∀ w ∈ u_ws (Cc 9) (Tc 9) (Nc 9), w ∈ lw_tbl := by decide +kernel
theorem inX9 : ∀ w ∈ u_ws (Cc 9) (Tc 9) (Nc 9), w ∈ gtb := fun w h => List.mem_filter.mpr ⟨inaX9 w h, (by decide +kernel : ∀ w ∈ u_ws (Cc 9) (Tc 9) (Nc 9), goodWord w = true) w h⟩
theorem nmX9 : ∀ a, a < Nc 9 → ∀ b, b < Nc 9 → a ≠ b → (Tc 9 a).2.1 ≠ (Tc 9 b).2.1 := by decide +kernel
theorem okX9 : ∀ k, k < Nc 9 → parseFieldDescriptor (Tc 9 k).2.2.1 = some (yc 9 k) := by decide +kernel
theorem shX9 : (sh 9).length = Nc 9 ∧ ∀ k, k < Nc 9 → ((sh 9)[k]? = some true ∧ defaultValue (yc 9 k) = .null ∨ (sh 9)[k]? = some false ∧ defaultValue (yc 9 k) = .int 0) := by decide +kernel
theorem inaX10 : ∀ w ∈ u_ws (Cc 10) (Tc 10) (Nc 10), w ∈ lw_tbl := by decide +kernel
theorem inX10 : ∀ w ∈ u_ws (Cc 10) (Tc 10) (Nc 10), w ∈ gtb := fun w h => List.mem_filter.mpr ⟨inaX10 w h, (by decide +kernel : ∀ w ∈ u_ws (Cc 10) (Tc 10) (Nc 10), goodWord w = true) w h⟩
theorem nmX10 : ∀ a, a < Nc 10 → ∀ b, b < Nc 10 → a ≠ b → (Tc 10 a).2.1 ≠ (Tc 10 b).2.1 := by decide +kernel
theorem okX10 : ∀ k, k < Nc 10 → parseFieldDescriptor (Tc 10 k).2.2.1 = some (yc 10 k) := by decide +kernel
theorem shX10 : (sh 10).length = Nc 10 ∧ ∀ k, k < Nc 10 → ((sh 10)[k]? = some true ∧ defaultValue (yc 10 k) = .null ∨ (sh 10)[k]? = some false ∧ defaultValue (yc 10 k) = .int 0) := by decide +kernel
theorem inaX11 : ∀ w ∈ u_ws (Cc 11) (Tc 11) (Nc 11), w ∈ lw_tbl := by decide +kernel
theorem inX11 : ∀ w ∈ u_ws (Cc 11) (Tc 11) (Nc 11), w ∈ gtb := fun w h => List.mem_filter.mpr ⟨inaX11 w h, (by decide +kernel : ∀ w ∈ u_ws (Cc 11) (Tc 11) (Nc 11), goodWord w = true) w h⟩
theorem nmX11 : ∀ a, a < Nc 11 → ∀ b, b < Nc 11 → a ≠ b → (Tc 11 a).2.1 ≠ (Tc 11 b).2.1 := by decide +kernel
theorem okX11 : ∀ k, k < Nc 11 → parseFieldDescriptor (Tc 11 k).2.2.1 = some (yc 11 k) := by decide +kernel
theorem shX11 : (sh 11).length = Nc 11 ∧ ∀ k, k < Nc 11 → ((sh 11)[k]? = some true ∧ defaultValue (yc 11 k) = .null ∨ (sh 11)[k]? = some false ∧ defaultValue (yc 11 k) = .int 0) := by decide +kernel
theorem inaX12 : ∀ w ∈ u_ws (Cc 12) (Tc 12) (Nc 12), w ∈ lw_tbl := by decide +kernel
theorem inX12 : ∀ w ∈ u_ws (Cc 12) (Tc 12) (Nc 12), w ∈ gtb := fun w h => List.mem_filter.mpr ⟨inaX12 w h, (by decide +kernel : ∀ w ∈ u_ws (Cc 12) (Tc 12) (Nc 12), goodWord w = true) w h⟩
theorem nmX12 : ∀ a, a < Nc 12 → ∀ b, b < Nc 12 → a ≠ b → (Tc 12 a).2.1 ≠ (Tc 12 b).2.1 := by decide +kernel
theorem okX12 : ∀ k, k < Nc 12 → parseFieldDescriptor (Tc 12 k).2.2.1 = some (yc 12 k) := by decide +kernel
theorem shX12 : (sh 12).length = Nc 12 ∧ ∀ k, k < Nc 12 → ((sh 12)[k]? = some true ∧ defaultValue (yc 12 k) = .null ∨ (sh 12)[k]? = some false ∧ defaultValue (yc 12 k) = .int 0) := by decide +kernel
abbrev Meth : Type := MethodName × ByteArray × Nat × Option FieldType
def ClOk (c : Nat) : Prop := classes[c]? = some (Cc c, Tc c, Nc c) ∧ (∀ w ∈ u_ws (Cc c) (Tc c) (Nc c), w ∈ gtb) ∧ (∀ a, a < Nc c → ∀ b, b < Nc c → a ≠ b → (Tc c a).2.1 ≠ (Tc c b).2.1) ∧ (∀ k, k < Nc c → parseFieldDescriptor (Tc c k).2.2.1 = some (yc c k)) ∧ (sh c).length = Nc c ∧ ∀ k, k < Nc c → ((sh c)[k]? = some true ∧ defaultValue (yc c k) = .null ∨ (sh c)[k]? = some false ∧ defaultValue (yc c k) = .int 0)
theorem clX0 : ClOk 0 := ⟨rfl, inX0, nmX0, okX0, shX0⟩
theorem clX1 : ClOk 1 := ⟨rfl, inX1, nmX1, okX1, shX1⟩
theorem clX2 : ClOk 2 := ⟨rfl, inX2, nmX2, okX2, shX2⟩
theorem clX3 : ClOk 3 := ⟨rfl, inX3, nmX3, okX3, shX3⟩
theorem clX4 : ClOk 4 := ⟨rfl, inX4, nmX4, okX4, shX4⟩
theorem clX5 : ClOk 5 := ⟨rfl, inX5, nmX5, okX5, shX5⟩
theorem clX6 : ClOk 6 := ⟨rfl, inX6, nmX6, okX6, shX6⟩
theorem clX7 : ClOk 7 := ⟨rfl, inX7, nmX7, okX7, shX7⟩
theorem clX8 : ClOk 8 := ⟨rfl, inX8, nmX8, okX8, shX8⟩
theorem clX9 : ClOk 9 := ⟨rfl, inX9, nmX9, okX9, shX9⟩
theorem clX10 : ClOk 10 := ⟨rfl, inX10, nmX10, okX10, shX10⟩
theorem clX11 : ClOk 11 := ⟨rfl, inX11, nmX11, okX11, shX11⟩
theorem clX12 : ClOk 12 := ⟨rfl, inX12, nmX12, okX12, shX12⟩
theorem cl_ok : ∀ c, c < 13 → ClOk c
  | 0, _ => clX0
  | 1, _ => clX1
  | 2, _ => clX2
  | 3, _ => clX3
  | 4, _ => clX4
  | 5, _ => clX5
  | 6, _ => clX6
  | 7, _ => clX7
  | 8, _ => clX8
  | 9, _ => clX9
  | 10, _ => clX10
  | 11, _ => clX11
  | 12, _ => clX12
  | c + 13, h => absurd h (by omega)
theorem good_in {ws : List Cond} (h : ∀ w ∈ ws, w ∈ gtb) : GoodIn gtb ws := fun w hw => ⟨h w hw, good_of_word (List.mem_filter.mp (h w hw)).2⟩
-- the forms of decode facts, of field words, of method words
abbrev D1 (cc : ByteArray) (pc : Nat) (i : Instr) (pc' : Nat) : Prop := decode cc pc = .ok (i, 1) ∧ pc + 1 = pc'
abbrev D2 (cc : ByteArray) (pc : Nat) (i : Instr) (pc' : Nat) : Prop := decode cc pc = .ok (i, 2) ∧ pc + 2 = pc'
abbrev D3 (cc : ByteArray) (pc : Nat) (i : Instr) (pc' : Nat) : Prop := decode cc pc = .ok (i, 3) ∧ pc + 3 = pc'
abbrev Dj (cc : ByteArray) (pc : Nat) (i : Instr) (off : Int) (pc' tgt : Nat) : Prop := decode cc pc = .ok (i, 3) ∧ pc + 3 = pc' ∧ (pc : Int) + off = (tgt : Int)
def Dconst (cc : ByteArray) (pc : Nat) (v : Int32) (pc' : Nat) : Prop := (∃ q : Int, decode cc pc = .ok (.iconst q, 1) ∧ Int32.ofInt q = v ∧ pc + 1 = pc') ∨ (∃ q : Int, decode cc pc = .ok (.bipush q, 2) ∧ (Int8.ofInt q).toInt32 = v ∧ pc + 2 = pc') ∨ (∃ q : Int, decode cc pc = .ok (.sipush q, 3) ∧ (Int16.ofInt q).toInt32 = v ∧ pc + 3 = pc')
def Diload (cc : ByteArray) (pc i pc' : Nat) : Prop := (∃ q : Fin 4, decode cc pc = .ok (.iload_n q, 1) ∧ (q : Nat) = i ∧ pc + 1 = pc') ∨ (decode cc pc = .ok (.iload i, 2) ∧ pc + 2 = pc')
def Daload (cc : ByteArray) (pc i pc' : Nat) : Prop := (∃ q : Fin 4, decode cc pc = .ok (.aload_n q, 1) ∧ (q : Nat) = i ∧ pc + 1 = pc') ∨ (decode cc pc = .ok (.aload i, 2) ∧ pc + 2 = pc')
def Dlload (cc : ByteArray) (pc i pc' : Nat) : Prop := (∃ q : Fin 4, decode cc pc = .ok (.lload_n q, 1) ∧ (q : Nat) = i ∧ pc + 1 = pc') ∨ (decode cc pc = .ok (.lload i, 2) ∧ pc + 2 = pc')
def Distore (cc : ByteArray) (pc i pc' : Nat) : Prop := (∃ q : Fin 4, decode cc pc = .ok (.istore_n q, 1) ∧ (q : Nat) = i ∧ pc + 1 = pc') ∨ (decode cc pc = .ok (.istore i, 2) ∧ pc + 2 = pc')
def Dastore (cc : ByteArray) (pc i pc' : Nat) : Prop := (∃ q : Fin 4, decode cc pc = .ok (.astore_n q, 1) ∧ (q : Nat) = i ∧ pc + 1 = pc') ∨ (decode cc pc = .ok (.astore i, 2) ∧ pc + 2 = pc')
def Diinc (cc : ByteArray) (pc i : Nat) (v : Int32) (pc' : Nat) : Prop := ∃ q : Int, decode cc pc = .ok (.iinc i q, 3) ∧ Int32.ofInt q = v ∧ pc + 3 = pc'
def FkI (own : String) (idx c k f T : Nat) : Prop := c < 13 ∧ k < Nc c ∧ c + 1 = T ∧ 100 * c + k = f ∧ Cond.fieldLink own idx (Tc c k).1 (Tc c k).2.1 (Tc c k).2.2.1 ∈ gtb ∧ (sh c)[k]? = some false
def FkR (own : String) (idx c k f T : Nat) : Prop := c < 13 ∧ k < Nc c ∧ c + 1 = T ∧ 100 * c + k = f ∧ Cond.fieldLink own idx (Tc c k).1 (Tc c k).2.1 (Tc c k).2.2.1 ∈ gtb ∧ (sh c)[k]? = some true
/-- a method that is called on an object: its words, how many parameters -/
def MV (ν : Meth) (na : Nat) : Prop := Cond.instanceMethod ν.1 ∈ gtb ∧ Cond.selects ν.1.cls ν.1 ν.1 ∈ gtb ∧ Cond.initialized ν.1.cls ∈ gtb ∧ Cond.code ν.1 ν.2.1 ν.2.2.1 ν.2.2.2 ∈ gtb ∧ ν.1.cls ≠ "java/lang/invoke/MethodHandle" ∧ ν.1.cls ≠ "java/lang/invoke/VarHandle" ∧ (parseMethodDescriptor ν.1.desc).map (fun d => d.parameters.length) = some na
def MS (ν : Meth) (na : Nat) : Prop := Cond.static ν.1 ∈ gtb ∧ Cond.initialized ν.1.cls ∈ gtb ∧ Cond.code ν.1 ν.2.1 ν.2.2.1 ν.2.2.2 ∈ gtb ∧ ν.1.cls ≠ "java/lang/invoke/MethodHandle" ∧ ν.1.cls ≠ "java/lang/invoke/VarHandle" ∧ (parseMethodDescriptor ν.1.desc).map (fun d => d.parameters.length) = some na
def MC (ν : Meth) (na : Nat) : Prop := Cond.instanceMethod ν.1 ∈ gtb ∧ Cond.initialized ν.1.cls ∈ gtb ∧ Cond.code ν.1 ν.2.1 ν.2.2.1 ν.2.2.2 ∈ gtb ∧ (ν.1.name = "<init>" ∧ ν.2.2.2 = none) ∧ ν.1.cls ≠ "java/lang/invoke/MethodHandle" ∧ ν.1.cls ≠ "java/lang/invoke/VarHandle" ∧ (parseMethodDescriptor ν.1.desc).map (fun d => d.parameters.length) = some na
end
section
-- METHODS, WORDS, LINKS of the class and of the reference
theorem wi_X0 : Cond.initialized "FleetStores$Contract" ∈ gtb := in_tb 9 (by decide +kernel) (by decide +kernel)
theorem wn_X0 : Cond.instantiable "FleetStores$Contract" 5 ∈ gtb := in_tb 175 (by decide +kernel) (by decide +kernel)
theorem wi_X1 : Cond.initialized "FleetStores$Kind" ∈ gtb := in_tb 2 (by decide +kernel) (by decide +kernel)
theorem wn_X1 : Cond.instantiable "FleetStores$Kind" 3 ∈ gtb := in_tb 32 (by decide +kernel) (by decide +kernel)
theorem wi_X2 : Cond.initialized "FleetStores$Line" ∈ gtb := in_tb 10 (by decide +kernel) (by decide +kernel)
theorem wn_X2 : Cond.instantiable "FleetStores$Line" 3 ∈ gtb := in_tb 198 (by decide +kernel) (by decide +kernel)
theorem wi_X3 : Cond.initialized "FleetStores$Lot" ∈ gtb := in_tb 12 (by decide +kernel) (by decide +kernel)
theorem wn_X3 : Cond.instantiable "FleetStores$Lot" 14 ∈ gtb := in_tb 307 (by decide +kernel) (by decide +kernel)
theorem wi_X4 : Cond.initialized "FleetStores$Lots" ∈ gtb := in_tb 6 (by decide +kernel) (by decide +kernel)
theorem wn_X4 : Cond.instantiable "FleetStores$Lots" 3 ∈ gtb := in_tb 126 (by decide +kernel) (by decide +kernel)
theorem wi_X5 : Cond.initialized "FleetStores$Place" ∈ gtb := in_tb 3 (by decide +kernel) (by decide +kernel)
theorem wn_X5 : Cond.instantiable "FleetStores$Place" 3 ∈ gtb := in_tb 53 (by decide +kernel) (by decide +kernel)
theorem wi_X6 : Cond.initialized "FleetStores$Reader" ∈ gtb := in_tb 8 (by decide +kernel) (by decide +kernel)
theorem wn_X6 : Cond.instantiable "FleetStores$Reader" 2 ∈ gtb := in_tb 161 (by decide +kernel) (by decide +kernel)
theorem wi_X7 : Cond.initialized "FleetStores$Store" ∈ gtb := in_tb 4 (by decide +kernel) (by decide +kernel)
theorem wn_X7 : Cond.instantiable "FleetStores$Store" 8 ∈ gtb := in_tb 71 (by decide +kernel) (by decide +kernel)
theorem wi_X8 : Cond.initialized "FleetStores$Survey" ∈ gtb := in_tb 14 (by decide +kernel) (by decide +kernel)
theorem wn_X8 : Cond.instantiable "FleetStores$Survey" 3 ∈ gtb := in_tb 604 (by decide +kernel) (by decide +kernel)
theorem wi_X9 : Cond.initialized "FleetStores$Table" ∈ gtb := in_tb 5 (by decide +kernel) (by decide +kernel)
theorem wn_X9 : Cond.instantiable "FleetStores$Table" 2 ∈ gtb := in_tb 77 (by decide +kernel) (by decide +kernel)
theorem wi_X10 : Cond.initialized "FleetStores$Tape" ∈ gtb := in_tb 7 (by decide +kernel) (by decide +kernel)
theorem wn_X10 : Cond.instantiable "FleetStores$Tape" 2 ∈ gtb := in_tb 146 (by decide +kernel) (by decide +kernel)
theorem wi_X11 : Cond.initialized "FleetStores" ∈ gtb := in_tb 1 (by decide +kernel) (by decide +kernel)
theorem wn_X11 : Cond.instantiable "FleetStores" 16 ∈ gtb := in_tb 16 (by decide +kernel) (by decide +kernel)
theorem wi_X12 : Cond.initialized "FleetStoresModel" ∈ gtb := in_tb 11 (by decide +kernel) (by decide +kernel)
theorem wn_X12 : Cond.instantiable "FleetStoresModel" 43 ∈ gtb := in_tb 644 (by decide +kernel) (by decide +kernel)
theorem wi_Math : Cond.initialized "java/lang/Math" ∈ gtb := in_tb 13 (by decide +kernel) (by decide +kernel)
theorem w_arr : Cond.arrayClass .int ∈ gtb := in_tb 52 (by decide +kernel) (by decide +kernel)
theorem w_oi1 : Cond.instanceMethod Lib.objectInit ∈ gtb := in_tb 21 (by decide +kernel) (by decide +kernel)
theorem w_oi2 : Cond.code Lib.objectInit ⟨#[0xb1]⟩ 1 none ∈ gtb := in_tb 22 (by decide +kernel) (by decide +kernel)
theorem w_min1 : Cond.static Lib.Math.min.name ∈ gtb := in_tb 413 (by decide +kernel) (by decide +kernel)
theorem w_min2 : Cond.code Lib.Math.min.name Lib.Math.min.code 2 (some .int) ∈ gtb := in_tb 414 (by decide +kernel) (by decide +kernel)
theorem w_max1 : Cond.static Lib.Math.max.name ∈ gtb := in_tb 416 (by decide +kernel) (by decide +kernel)
theorem w_max2 : Cond.code Lib.Math.max.name Lib.Math.max.code 2 (some .int) ∈ gtb := in_tb 417 (by decide +kernel) (by decide +kernel)
abbrev mX11_init : Meth := (⟨"FleetStores", "<init>", "()V"⟩, prog_1_method_1_code, 4, none)
theorem mc_X11_init : MC mX11_init 0 := ⟨in_tb 18 (by decide +kernel) (by decide +kernel), wi_X11, in_tb 19 (by decide +kernel) (by decide +kernel), ⟨rfl, rfl⟩, by decide +kernel, by decide +kernel, by decide +kernel⟩
abbrev mX1_init : Meth := (⟨"FleetStores$Kind", "<init>", "(I)V"⟩, prog_3_method_1_code, 2, none)
theorem mc_X1_init : MC mX1_init 1 := ⟨in_tb 34 (by decide +kernel) (by decide +kernel), wi_X1, in_tb 35 (by decide +kernel) (by decide +kernel), ⟨rfl, rfl⟩, by decide +kernel, by decide +kernel, by decide +kernel⟩
abbrev mX5_init : Meth := (⟨"FleetStores$Place", "<init>", "(I)V"⟩, prog_7_method_1_code, 2, none)
theorem mc_X5_init : MC mX5_init 1 := ⟨in_tb 55 (by decide +kernel) (by decide +kernel), wi_X5, in_tb 56 (by decide +kernel) (by decide +kernel), ⟨rfl, rfl⟩, by decide +kernel, by decide +kernel, by decide +kernel⟩
abbrev mX7_init : Meth := (⟨"FleetStores$Store", "<init>", "(ILFleetStores$Place;LFleetStores$Kind;)V"⟩, prog_9_method_1_code, 4, none)
theorem mc_X7_init : MC mX7_init 3 := ⟨in_tb 73 (by decide +kernel) (by decide +kernel), wi_X7, in_tb 74 (by decide +kernel) (by decide +kernel), ⟨rfl, rfl⟩, by decide +kernel, by decide +kernel, by decide +kernel⟩
abbrev mX9_init : Meth := (⟨"FleetStores$Table", "<init>", "()V"⟩, prog_11_method_1_code, 1, none)
theorem mc_X9_init : MC mX9_init 0 := ⟨in_tb 79 (by decide +kernel) (by decide +kernel), wi_X9, in_tb 80 (by decide +kernel) (by decide +kernel), ⟨rfl, rfl⟩, by decide +kernel, by decide +kernel, by decide +kernel⟩
abbrev mX4_init : Meth := (⟨"FleetStores$Lots", "<init>", "()V"⟩, prog_6_method_1_code, 1, none)
theorem mc_X4_init : MC mX4_init 0 := ⟨in_tb 128 (by decide +kernel) (by decide +kernel), wi_X4, in_tb 129 (by decide +kernel) (by decide +kernel), ⟨rfl, rfl⟩, by decide +kernel, by decide +kernel, by decide +kernel⟩
abbrev mX10_init : Meth := (⟨"FleetStores$Tape", "<init>", "()V"⟩, prog_12_method_1_code, 1, none)
theorem mc_X10_init : MC mX10_init 0 := ⟨in_tb 148 (by decide +kernel) (by decide +kernel), wi_X10, in_tb 149 (by decide +kernel) (by decide +kernel), ⟨rfl, rfl⟩, by decide +kernel, by decide +kernel, by decide +kernel⟩
abbrev mX6_init : Meth := (⟨"FleetStores$Reader", "<init>", "(LFleetStores$Tape;)V"⟩, prog_8_method_1_code, 2, none)
theorem mc_X6_init : MC mX6_init 1 := ⟨in_tb 163 (by decide +kernel) (by decide +kernel), wi_X6, in_tb 164 (by decide +kernel) (by decide +kernel), ⟨rfl, rfl⟩, by decide +kernel, by decide +kernel, by decide +kernel⟩
abbrev mX0_init : Meth := (⟨"FleetStores$Contract", "<init>", "()V"⟩, prog_2_method_1_code, 1, none)
theorem mc_X0_init : MC mX0_init 0 := ⟨in_tb 177 (by decide +kernel) (by decide +kernel), wi_X0, in_tb 178 (by decide +kernel) (by decide +kernel), ⟨rfl, rfl⟩, by decide +kernel, by decide +kernel, by decide +kernel⟩
abbrev mX2_init : Meth := (⟨"FleetStores$Line", "<init>", "()V"⟩, prog_4_method_1_code, 1, none)
theorem mc_X2_init : MC mX2_init 0 := ⟨in_tb 200 (by decide +kernel) (by decide +kernel), wi_X2, in_tb 201 (by decide +kernel) (by decide +kernel), ⟨rfl, rfl⟩, by decide +kernel, by decide +kernel, by decide +kernel⟩
abbrev mX11_men : Meth := (⟨"FleetStores", "men", "(II)Z"⟩, prog_1_method_2_code, 4, (some FieldType.boolean))
theorem mv_X11_men : MV mX11_men 2 := ⟨in_tb 263 (by decide +kernel) (by decide +kernel), in_tb 264 (by decide +kernel) (by decide +kernel), wi_X11, in_tb 265 (by decide +kernel) (by decide +kernel), by decide +kernel, by decide +kernel, by decide +kernel⟩
abbrev mX11_placeOf : Meth := (⟨"FleetStores", "placeOf", "(I)LFleetStores$Place;"⟩, prog_1_method_31_code, 2, (some (FieldType.object "FleetStores$Place")))
theorem mv_X11_placeOf : MV mX11_placeOf 1 := ⟨in_tb 268 (by decide +kernel) (by decide +kernel), in_sel 0 (by decide +kernel) (by decide +kernel), wi_X11, in_tb 269 (by decide +kernel) (by decide +kernel), by decide +kernel, by decide +kernel, by decide +kernel⟩
abbrev mX11_within : Meth := (⟨"FleetStores", "within", "(III)Z"⟩, prog_1_method_28_code, 3, (some FieldType.boolean))
theorem ms_X11_within : MS mX11_within 3 := ⟨in_tb 271 (by decide +kernel) (by decide +kernel), wi_X11, in_tb 272 (by decide +kernel) (by decide +kernel), by decide +kernel, by decide +kernel, by decide +kernel⟩
abbrev mX11_rations : Meth := (⟨"FleetStores", "rations", "(II)Z"⟩, prog_1_method_3_code, 4, (some FieldType.boolean))
theorem mv_X11_rations : MV mX11_rations 2 := ⟨in_tb 274 (by decide +kernel) (by decide +kernel), in_tb 275 (by decide +kernel) (by decide +kernel), wi_X11, in_tb 276 (by decide +kernel) (by decide +kernel), by decide +kernel, by decide +kernel, by decide +kernel⟩
abbrev mX11_kindOf : Meth := (⟨"FleetStores", "kindOf", "(I)LFleetStores$Kind;"⟩, prog_1_method_32_code, 2, (some (FieldType.object "FleetStores$Kind")))
theorem mv_X11_kindOf : MV mX11_kindOf 1 := ⟨in_tb 279 (by decide +kernel) (by decide +kernel), in_sel 1 (by decide +kernel) (by decide +kernel), wi_X11, in_tb 280 (by decide +kernel) (by decide +kernel), by decide +kernel, by decide +kernel, by decide +kernel⟩
abbrev mX11_spoils : Meth := (⟨"FleetStores", "spoils", "(III)Z"⟩, prog_1_method_4_code, 5, (some FieldType.boolean))
theorem mv_X11_spoils : MV mX11_spoils 3 := ⟨in_tb 282 (by decide +kernel) (by decide +kernel), in_tb 283 (by decide +kernel) (by decide +kernel), wi_X11, in_tb 284 (by decide +kernel) (by decide +kernel), by decide +kernel, by decide +kernel, by decide +kernel⟩
abbrev mX11_way : Meth := (⟨"FleetStores", "way", "(III)Z"⟩, prog_1_method_5_code, 4, (some FieldType.boolean))
theorem mv_X11_way : MV mX11_way 3 := ⟨in_tb 286 (by decide +kernel) (by decide +kernel), in_tb 287 (by decide +kernel) (by decide +kernel), wi_X11, in_tb 288 (by decide +kernel) (by decide +kernel), by decide +kernel, by decide +kernel, by decide +kernel⟩
abbrev mX11_lag : Meth := (⟨"FleetStores", "lag", "(II)Z"⟩, prog_1_method_6_code, 4, (some FieldType.boolean))
theorem mv_X11_lag : MV mX11_lag 2 := ⟨in_tb 290 (by decide +kernel) (by decide +kernel), in_tb 291 (by decide +kernel) (by decide +kernel), wi_X11, in_tb 292 (by decide +kernel) (by decide +kernel), by decide +kernel, by decide +kernel, by decide +kernel⟩
abbrev mX11_buy : Meth := (⟨"FleetStores", "buy", "(IIIIII)I"⟩, prog_1_method_7_code, 9, (some FieldType.int))
theorem mv_X11_buy : MV mX11_buy 6 := ⟨in_tb 294 (by decide +kernel) (by decide +kernel), in_tb 295 (by decide +kernel) (by decide +kernel), wi_X11, in_tb 296 (by decide +kernel) (by decide +kernel), by decide +kernel, by decide +kernel, by decide +kernel⟩
abbrev mX11_storeOf : Meth := (⟨"FleetStores", "storeOf", "(II)LFleetStores$Store;"⟩, prog_1_method_33_code, 3, (some (FieldType.object "FleetStores$Store")))
theorem mv_X11_storeOf : MV mX11_storeOf 2 := ⟨in_tb 299 (by decide +kernel) (by decide +kernel), in_sel 2 (by decide +kernel) (by decide +kernel), wi_X11, in_tb 300 (by decide +kernel) (by decide +kernel), by decide +kernel, by decide +kernel, by decide +kernel⟩
abbrev mX4_isFull : Meth := (⟨"FleetStores$Lots", "isFull", "()Z"⟩, prog_6_method_2_code, 1, (some FieldType.boolean))
theorem mv_X4_isFull : MV mX4_isFull 0 := ⟨in_tb 303 (by decide +kernel) (by decide +kernel), in_tb 304 (by decide +kernel) (by decide +kernel), wi_X4, in_tb 305 (by decide +kernel) (by decide +kernel), by decide +kernel, by decide +kernel, by decide +kernel⟩
abbrev mX3_init : Meth := (⟨"FleetStores$Lot", "<init>", "(LFleetStores$Store;IIIIII)V"⟩, prog_5_method_1_code, 8, none)
theorem mc_X3_init : MC mX3_init 7 := ⟨in_tb 309 (by decide +kernel) (by decide +kernel), wi_X3, in_tb 310 (by decide +kernel) (by decide +kernel), ⟨rfl, rfl⟩, by decide +kernel, by decide +kernel, by decide +kernel⟩
abbrev mX4_enter : Meth := (⟨"FleetStores$Lots", "enter", "(LFleetStores$Lot;)I"⟩, prog_6_method_4_code, 3, (some FieldType.int))
theorem mv_X4_enter : MV mX4_enter 1 := ⟨in_tb 371 (by decide +kernel) (by decide +kernel), in_tb 372 (by decide +kernel) (by decide +kernel), wi_X4, in_tb 373 (by decide +kernel) (by decide +kernel), by decide +kernel, by decide +kernel, by decide +kernel⟩
abbrev mX4_putInChain : Meth := (⟨"FleetStores$Lots", "putInChain", "(LFleetStores$Lot;)V"⟩, prog_6_method_5_code, 3, none)
theorem mv_X4_putInChain : MV mX4_putInChain 1 := ⟨in_tb 377 (by decide +kernel) (by decide +kernel), in_sel 3 (by decide +kernel) (by decide +kernel), wi_X4, in_tb 378 (by decide +kernel) (by decide +kernel), by decide +kernel, by decide +kernel, by decide +kernel⟩
abbrev mX11_send : Meth := (⟨"FleetStores", "send", "(III)I"⟩, prog_1_method_8_code, 9, (some FieldType.int))
theorem mv_X11_send : MV mX11_send 3 := ⟨in_tb 380 (by decide +kernel) (by decide +kernel), in_tb 381 (by decide +kernel) (by decide +kernel), wi_X11, in_tb 382 (by decide +kernel) (by decide +kernel), by decide +kernel, by decide +kernel, by decide +kernel⟩
abbrev mX4_numbered : Meth := (⟨"FleetStores$Lots", "numbered", "(I)LFleetStores$Lot;"⟩, prog_6_method_3_code, 2, (some (FieldType.object "FleetStores$Lot")))
theorem mv_X4_numbered : MV mX4_numbered 1 := ⟨in_tb 384 (by decide +kernel) (by decide +kernel), in_tb 385 (by decide +kernel) (by decide +kernel), wi_X4, in_tb 386 (by decide +kernel) (by decide +kernel), by decide +kernel, by decide +kernel, by decide +kernel⟩
abbrev mX3_isThere : Meth := (⟨"FleetStores$Lot", "isThere", "()Z"⟩, prog_5_method_2_code, 1, (some FieldType.boolean))
theorem mv_X3_isThere : MV mX3_isThere 0 := ⟨in_tb 389 (by decide +kernel) (by decide +kernel), in_tb 390 (by decide +kernel) (by decide +kernel), wi_X3, in_tb 391 (by decide +kernel) (by decide +kernel), by decide +kernel, by decide +kernel, by decide +kernel⟩
abbrev mX11_week : Meth := (⟨"FleetStores", "week", "()I"⟩, prog_1_method_9_code, 1, (some FieldType.int))
theorem mv_X11_week : MV mX11_week 0 := ⟨in_tb 393 (by decide +kernel) (by decide +kernel), in_tb 394 (by decide +kernel) (by decide +kernel), wi_X11, in_tb 395 (by decide +kernel) (by decide +kernel), by decide +kernel, by decide +kernel, by decide +kernel⟩
abbrev mX11_bringIn : Meth := (⟨"FleetStores", "bringIn", "()V"⟩, prog_1_method_35_code, 2, none)
theorem mv_X11_bringIn : MV mX11_bringIn 0 := ⟨in_tb 398 (by decide +kernel) (by decide +kernel), in_sel 4 (by decide +kernel) (by decide +kernel), wi_X11, in_tb 399 (by decide +kernel) (by decide +kernel), by decide +kernel, by decide +kernel, by decide +kernel⟩
abbrev mX3_isThereBy : Meth := (⟨"FleetStores$Lot", "isThereBy", "(I)Z"⟩, prog_5_method_3_code, 2, (some FieldType.boolean))
theorem mv_X3_isThereBy : MV mX3_isThereBy 1 := ⟨in_tb 401 (by decide +kernel) (by decide +kernel), in_tb 402 (by decide +kernel) (by decide +kernel), wi_X3, in_tb 403 (by decide +kernel) (by decide +kernel), by decide +kernel, by decide +kernel, by decide +kernel⟩
abbrev mX11_condemnSpoilt : Meth := (⟨"FleetStores", "condemnSpoilt", "()V"⟩, prog_1_method_36_code, 4, none)
theorem mv_X11_condemnSpoilt : MV mX11_condemnSpoilt 0 := ⟨in_tb 406 (by decide +kernel) (by decide +kernel), in_sel 5 (by decide +kernel) (by decide +kernel), wi_X11, in_tb 407 (by decide +kernel) (by decide +kernel), by decide +kernel, by decide +kernel, by decide +kernel⟩
abbrev mX1_loss : Meth := (⟨"FleetStores$Kind", "loss", "(IIZ)I"⟩, prog_3_method_2_code, 6, (some FieldType.int))
theorem mv_X1_loss : MV mX1_loss 3 := ⟨in_tb 409 (by decide +kernel) (by decide +kernel), in_tb 410 (by decide +kernel) (by decide +kernel), wi_X1, in_tb 411 (by decide +kernel) (by decide +kernel), by decide +kernel, by decide +kernel, by decide +kernel⟩
abbrev mX11_eat : Meth := (⟨"FleetStores", "eat", "()V"⟩, prog_1_method_37_code, 5, none)
theorem mv_X11_eat : MV mX11_eat 0 := ⟨in_tb 420 (by decide +kernel) (by decide +kernel), in_sel 6 (by decide +kernel) (by decide +kernel), wi_X11, in_tb 421 (by decide +kernel) (by decide +kernel), by decide +kernel, by decide +kernel, by decide +kernel⟩
abbrev mX5_wants : Meth := (⟨"FleetStores$Place", "wants", "()I"⟩, prog_7_method_2_code, 1, (some FieldType.int))
theorem mv_X5_wants : MV mX5_wants 0 := ⟨in_tb 423 (by decide +kernel) (by decide +kernel), in_tb 424 (by decide +kernel) (by decide +kernel), wi_X5, in_tb 425 (by decide +kernel) (by decide +kernel), by decide +kernel, by decide +kernel, by decide +kernel⟩
abbrev mX9_sitDown : Meth := (⟨"FleetStores$Table", "sitDown", "(I)V"⟩, prog_11_method_2_code, 3, none)
theorem mv_X9_sitDown : MV mX9_sitDown 1 := ⟨in_tb 427 (by decide +kernel) (by decide +kernel), in_tb 428 (by decide +kernel) (by decide +kernel), wi_X9, in_tb 429 (by decide +kernel) (by decide +kernel), by decide +kernel, by decide +kernel, by decide +kernel⟩
abbrev mX9_openFrom : Meth := (⟨"FleetStores$Table", "openFrom", "(II)I"⟩, prog_11_method_3_code, 5, (some FieldType.int))
theorem mv_X9_openFrom : MV mX9_openFrom 2 := ⟨in_tb 432 (by decide +kernel) (by decide +kernel), in_tb 433 (by decide +kernel) (by decide +kernel), wi_X9, in_tb 434 (by decide +kernel) (by decide +kernel), by decide +kernel, by decide +kernel, by decide +kernel⟩
abbrev mX11_writeStocks : Meth := (⟨"FleetStores", "writeStocks", "()V"⟩, prog_1_method_38_code, 3, none)
theorem mv_X11_writeStocks : MV mX11_writeStocks 0 := ⟨in_tb 438 (by decide +kernel) (by decide +kernel), in_sel 7 (by decide +kernel) (by decide +kernel), wi_X11, in_tb 439 (by decide +kernel) (by decide +kernel), by decide +kernel, by decide +kernel, by decide +kernel⟩
abbrev mX11_lot : Meth := (⟨"FleetStores", "lot", "(II)I"⟩, prog_1_method_10_code, 4, (some FieldType.int))
theorem mv_X11_lot : MV mX11_lot 2 := ⟨in_tb 441 (by decide +kernel) (by decide +kernel), in_tb 442 (by decide +kernel) (by decide +kernel), wi_X11, in_tb 443 (by decide +kernel) (by decide +kernel), by decide +kernel, by decide +kernel, by decide +kernel⟩
abbrev mX3_told : Meth := (⟨"FleetStores$Lot", "told", "(I)I"⟩, prog_5_method_4_code, 2, (some FieldType.int))
theorem mv_X3_told : MV mX3_told 1 := ⟨in_tb 445 (by decide +kernel) (by decide +kernel), in_tb 446 (by decide +kernel) (by decide +kernel), wi_X3, in_tb 447 (by decide +kernel) (by decide +kernel), by decide +kernel, by decide +kernel, by decide +kernel⟩
abbrev mX11_stock : Meth := (⟨"FleetStores", "stock", "(II)I"⟩, prog_1_method_11_code, 4, (some FieldType.int))
theorem mv_X11_stock : MV mX11_stock 2 := ⟨in_tb 449 (by decide +kernel) (by decide +kernel), in_tb 450 (by decide +kernel) (by decide +kernel), wi_X11, in_tb 451 (by decide +kernel) (by decide +kernel), by decide +kernel, by decide +kernel, by decide +kernel⟩
abbrev mX4_casksAt : Meth := (⟨"FleetStores$Lots", "casksAt", "(LFleetStores$Store;)I"⟩, prog_6_method_6_code, 4, (some FieldType.int))
theorem mv_X4_casksAt : MV mX4_casksAt 1 := ⟨in_tb 453 (by decide +kernel) (by decide +kernel), in_tb 454 (by decide +kernel) (by decide +kernel), wi_X4, in_tb 455 (by decide +kernel) (by decide +kernel), by decide +kernel, by decide +kernel, by decide +kernel⟩
abbrev mX11_open : Meth := (⟨"FleetStores", "open", "(II)I"⟩, prog_1_method_12_code, 4, (some FieldType.int))
theorem mv_X11_open : MV mX11_open 2 := ⟨in_tb 458 (by decide +kernel) (by decide +kernel), in_tb 459 (by decide +kernel) (by decide +kernel), wi_X11, in_tb 460 (by decide +kernel) (by decide +kernel), by decide +kernel, by decide +kernel, by decide +kernel⟩
abbrev mX11_lacks : Meth := (⟨"FleetStores", "lacks", "(II)I"⟩, prog_1_method_13_code, 4, (some FieldType.int))
theorem mv_X11_lacks : MV mX11_lacks 2 := ⟨in_tb 462 (by decide +kernel) (by decide +kernel), in_tb 463 (by decide +kernel) (by decide +kernel), wi_X11, in_tb 464 (by decide +kernel) (by decide +kernel), by decide +kernel, by decide +kernel, by decide +kernel⟩
abbrev mX11_known : Meth := (⟨"FleetStores", "known", "(III)I"⟩, prog_1_method_14_code, 5, (some FieldType.int))
theorem mv_X11_known : MV mX11_known 3 := ⟨in_tb 466 (by decide +kernel) (by decide +kernel), in_tb 467 (by decide +kernel) (by decide +kernel), wi_X11, in_tb 468 (by decide +kernel) (by decide +kernel), by decide +kernel, by decide +kernel, by decide +kernel⟩
abbrev mX11_stockAsBegan : Meth := (⟨"FleetStores", "stockAsBegan", "(LFleetStores$Store;I)I"⟩, prog_1_method_34_code, 3, (some FieldType.int))
theorem mv_X11_stockAsBegan : MV mX11_stockAsBegan 2 := ⟨in_tb 471 (by decide +kernel) (by decide +kernel), in_sel 8 (by decide +kernel) (by decide +kernel), wi_X11, in_tb 472 (by decide +kernel) (by decide +kernel), by decide +kernel, by decide +kernel, by decide +kernel⟩
abbrev mX11_lasts : Meth := (⟨"FleetStores", "lasts", "(I)I"⟩, prog_1_method_15_code, 3, (some FieldType.int))
theorem mv_X11_lasts : MV mX11_lasts 1 := ⟨in_tb 474 (by decide +kernel) (by decide +kernel), in_tb 475 (by decide +kernel) (by decide +kernel), wi_X11, in_tb 476 (by decide +kernel) (by decide +kernel), by decide +kernel, by decide +kernel, by decide +kernel⟩
abbrev mX11_beginTrial : Meth := (⟨"FleetStores", "beginTrial", "(I)V"⟩, prog_1_method_39_code, 4, none)
theorem mv_X11_beginTrial : MV mX11_beginTrial 1 := ⟨in_tb 479 (by decide +kernel) (by decide +kernel), in_sel 9 (by decide +kernel) (by decide +kernel), wi_X11, in_tb 480 (by decide +kernel) (by decide +kernel), by decide +kernel, by decide +kernel, by decide +kernel⟩
abbrev mX11_isShortInTrial : Meth := (⟨"FleetStores", "isShortInTrial", "(II)Z"⟩, prog_1_method_40_code, 5, (some FieldType.boolean))
theorem mv_X11_isShortInTrial : MV mX11_isShortInTrial 2 := ⟨in_tb 483 (by decide +kernel) (by decide +kernel), in_sel 10 (by decide +kernel) (by decide +kernel), wi_X11, in_tb 484 (by decide +kernel) (by decide +kernel), by decide +kernel, by decide +kernel, by decide +kernel⟩
abbrev mX3_endWeekInTrial : Meth := (⟨"FleetStores$Lot", "endWeekInTrial", "(I)V"⟩, prog_5_method_5_code, 3, none)
theorem mv_X3_endWeekInTrial : MV mX3_endWeekInTrial 1 := ⟨in_tb 486 (by decide +kernel) (by decide +kernel), in_tb 487 (by decide +kernel) (by decide +kernel), wi_X3, in_tb 488 (by decide +kernel) (by decide +kernel), by decide +kernel, by decide +kernel, by decide +kernel⟩
abbrev mX11_feed : Meth := (⟨"FleetStores", "feed", "(IIIII)I"⟩, prog_1_method_16_code, 7, (some FieldType.int))
theorem mv_X11_feed : MV mX11_feed 5 := ⟨in_tb 493 (by decide +kernel) (by decide +kernel), in_tb 494 (by decide +kernel) (by decide +kernel), wi_X11, in_tb 495 (by decide +kernel) (by decide +kernel), by decide +kernel, by decide +kernel, by decide +kernel⟩
abbrev mX11_bytesIn : Meth := (⟨"FleetStores", "bytesIn", "(I)I"⟩, prog_1_method_29_code, 3, (some FieldType.int))
theorem ms_X11_bytesIn : MS mX11_bytesIn 1 := ⟨in_tb 497 (by decide +kernel) (by decide +kernel), wi_X11, in_tb 498 (by decide +kernel) (by decide +kernel), by decide +kernel, by decide +kernel, by decide +kernel⟩
abbrev mX11_byteOf : Meth := (⟨"FleetStores", "byteOf", "(II)I"⟩, prog_1_method_30_code, 2, (some FieldType.int))
theorem ms_X11_byteOf : MS mX11_byteOf 2 := ⟨in_tb 500 (by decide +kernel) (by decide +kernel), wi_X11, in_tb 501 (by decide +kernel) (by decide +kernel), by decide +kernel, by decide +kernel, by decide +kernel⟩
abbrev mX10_addBytesOf : Meth := (⟨"FleetStores$Tape", "addBytesOf", "(I)V"⟩, prog_12_method_2_code, 4, none)
theorem mv_X10_addBytesOf : MV mX10_addBytesOf 1 := ⟨in_tb 503 (by decide +kernel) (by decide +kernel), in_tb 504 (by decide +kernel) (by decide +kernel), wi_X10, in_tb 505 (by decide +kernel) (by decide +kernel), by decide +kernel, by decide +kernel, by decide +kernel⟩
abbrev mX11_end : Meth := (⟨"FleetStores", "end", "(I)Z"⟩, prog_1_method_17_code, 2, (some FieldType.boolean))
theorem mv_X11_end : MV mX11_end 1 := ⟨in_tb 508 (by decide +kernel) (by decide +kernel), in_tb 509 (by decide +kernel) (by decide +kernel), wi_X11, in_tb 510 (by decide +kernel) (by decide +kernel), by decide +kernel, by decide +kernel, by decide +kernel⟩
abbrev mX11_fault : Meth := (⟨"FleetStores", "fault", "()I"⟩, prog_1_method_18_code, 1, (some FieldType.int))
theorem mv_X11_fault : MV mX11_fault 0 := ⟨in_tb 512 (by decide +kernel) (by decide +kernel), in_tb 513 (by decide +kernel) (by decide +kernel), wi_X11, in_tb 514 (by decide +kernel) (by decide +kernel), by decide +kernel, by decide +kernel, by decide +kernel⟩
abbrev mX6_read : Meth := (⟨"FleetStores$Reader", "read", "(LFleetStores$Contract;)I"⟩, prog_8_method_2_code, 3, (some FieldType.int))
theorem mv_X6_read : MV mX6_read 1 := ⟨in_tb 516 (by decide +kernel) (by decide +kernel), in_tb 517 (by decide +kernel) (by decide +kernel), wi_X6, in_tb 518 (by decide +kernel) (by decide +kernel), by decide +kernel, by decide +kernel, by decide +kernel⟩
abbrev mX6_skipBlanks : Meth := (⟨"FleetStores$Reader", "skipBlanks", "()V"⟩, prog_8_method_5_code, 1, none)
theorem mv_X6_skipBlanks : MV mX6_skipBlanks 0 := ⟨in_tb 521 (by decide +kernel) (by decide +kernel), in_sel 11 (by decide +kernel) (by decide +kernel), wi_X6, in_tb 522 (by decide +kernel) (by decide +kernel), by decide +kernel, by decide +kernel, by decide +kernel⟩
abbrev mX6_here : Meth := (⟨"FleetStores$Reader", "here", "()I"⟩, prog_8_method_7_code, 1, (some FieldType.int))
theorem mv_X6_here : MV mX6_here 0 := ⟨in_tb 525 (by decide +kernel) (by decide +kernel), in_sel 12 (by decide +kernel) (by decide +kernel), wi_X6, in_tb 526 (by decide +kernel) (by decide +kernel), by decide +kernel, by decide +kernel, by decide +kernel⟩
abbrev mX10_byteAt : Meth := (⟨"FleetStores$Tape", "byteAt", "(I)I"⟩, prog_12_method_3_code, 2, (some FieldType.int))
theorem mv_X10_byteAt : MV mX10_byteAt 1 := ⟨in_tb 528 (by decide +kernel) (by decide +kernel), in_tb 529 (by decide +kernel) (by decide +kernel), wi_X10, in_tb 530 (by decide +kernel) (by decide +kernel), by decide +kernel, by decide +kernel, by decide +kernel⟩
abbrev mX6_readClause : Meth := (⟨"FleetStores$Reader", "readClause", "(LFleetStores$Contract;)Z"⟩, prog_8_method_3_code, 7, (some FieldType.boolean))
theorem mv_X6_readClause : MV mX6_readClause 1 := ⟨in_tb 534 (by decide +kernel) (by decide +kernel), in_sel 13 (by decide +kernel) (by decide +kernel), wi_X6, in_tb 535 (by decide +kernel) (by decide +kernel), by decide +kernel, by decide +kernel, by decide +kernel⟩
abbrev mX6_pass : Meth := (⟨"FleetStores$Reader", "pass", "(I)Z"⟩, prog_8_method_6_code, 2, (some FieldType.boolean))
theorem mv_X6_pass : MV mX6_pass 1 := ⟨in_tb 538 (by decide +kernel) (by decide +kernel), in_sel 14 (by decide +kernel) (by decide +kernel), wi_X6, in_tb 539 (by decide +kernel) (by decide +kernel), by decide +kernel, by decide +kernel, by decide +kernel⟩
abbrev mX6_readDigits : Meth := (⟨"FleetStores$Reader", "readDigits", "()I"⟩, prog_8_method_4_code, 3, (some FieldType.int))
theorem mv_X6_readDigits : MV mX6_readDigits 0 := ⟨in_tb 542 (by decide +kernel) (by decide +kernel), in_sel 15 (by decide +kernel) (by decide +kernel), wi_X6, in_tb 543 (by decide +kernel) (by decide +kernel), by decide +kernel, by decide +kernel, by decide +kernel⟩
abbrev mX0_add : Meth := (⟨"FleetStores$Contract", "add", "(IIII)V"⟩, prog_2_method_2_code, 5, none)
theorem mv_X0_add : MV mX0_add 4 := ⟨in_tb 546 (by decide +kernel) (by decide +kernel), in_tb 547 (by decide +kernel) (by decide +kernel), wi_X0, in_tb 548 (by decide +kernel) (by decide +kernel), by decide +kernel, by decide +kernel, by decide +kernel⟩
abbrev mX11_contract : Meth := (⟨"FleetStores", "contract", "(I)Z"⟩, prog_1_method_19_code, 3, (some FieldType.boolean))
theorem mv_X11_contract : MV mX11_contract 1 := ⟨in_tb 550 (by decide +kernel) (by decide +kernel), in_tb 551 (by decide +kernel) (by decide +kernel), wi_X11, in_tb 552 (by decide +kernel) (by decide +kernel), by decide +kernel, by decide +kernel, by decide +kernel⟩
abbrev mX11_draw : Meth := (⟨"FleetStores", "draw", "(IIJ)I"⟩, prog_1_method_20_code, 8, (some FieldType.int))
theorem mv_X11_draw : MV mX11_draw 3 := ⟨in_tb 554 (by decide +kernel) (by decide +kernel), in_tb 555 (by decide +kernel) (by decide +kernel), wi_X11, in_tb 556 (by decide +kernel) (by decide +kernel), by decide +kernel, by decide +kernel, by decide +kernel⟩
abbrev mX2_badDrawn : Meth := (⟨"FleetStores$Line", "badDrawn", "(LFleetStores$Lot;IJ)I"⟩, prog_4_method_2_code, 11, (some FieldType.int))
theorem mv_X2_badDrawn : MV mX2_badDrawn 3 := ⟨in_tb 559 (by decide +kernel) (by decide +kernel), in_tb 560 (by decide +kernel) (by decide +kernel), wi_X2, in_tb 561 (by decide +kernel) (by decide +kernel), by decide +kernel, by decide +kernel, by decide +kernel⟩
abbrev mX2_numberIn : Meth := (⟨"FleetStores$Line", "numberIn", "(I)I"⟩, prog_4_method_3_code, 3, (some FieldType.int))
theorem mv_X2_numberIn : MV mX2_numberIn 1 := ⟨in_tb 566 (by decide +kernel) (by decide +kernel), in_sel 16 (by decide +kernel) (by decide +kernel), wi_X2, in_tb 567 (by decide +kernel) (by decide +kernel), by decide +kernel, by decide +kernel, by decide +kernel⟩
abbrev mX2_put : Meth := (⟨"FleetStores$Line", "put", "(II)V"⟩, prog_4_method_4_code, 4, none)
theorem mv_X2_put : MV mX2_put 2 := ⟨in_tb 570 (by decide +kernel) (by decide +kernel), in_sel 17 (by decide +kernel) (by decide +kernel), wi_X2, in_tb 571 (by decide +kernel) (by decide +kernel), by decide +kernel, by decide +kernel, by decide +kernel⟩
abbrev mX0_sum : Meth := (⟨"FleetStores$Contract", "sum", "(IIII)I"⟩, prog_2_method_3_code, 8, (some FieldType.int))
theorem mv_X0_sum : MV mX0_sum 4 := ⟨in_tb 573 (by decide +kernel) (by decide +kernel), in_tb 574 (by decide +kernel) (by decide +kernel), wi_X0, in_tb 575 (by decide +kernel) (by decide +kernel), by decide +kernel, by decide +kernel, by decide +kernel⟩
abbrev mX0_factOf : Meth := (⟨"FleetStores$Contract", "factOf", "(IIIII)I"⟩, prog_2_method_4_code, 5, (some FieldType.int))
theorem ms_X0_factOf : MS mX0_factOf 5 := ⟨in_tb 577 (by decide +kernel) (by decide +kernel), wi_X0, in_tb 578 (by decide +kernel) (by decide +kernel), by decide +kernel, by decide +kernel, by decide +kernel⟩
abbrev mX0_holds : Meth := (⟨"FleetStores$Contract", "holds", "(III)Z"⟩, prog_2_method_5_code, 3, (some FieldType.boolean))
theorem ms_X0_holds : MS mX0_holds 3 := ⟨in_tb 580 (by decide +kernel) (by decide +kernel), wi_X0, in_tb 581 (by decide +kernel) (by decide +kernel), by decide +kernel, by decide +kernel, by decide +kernel⟩
abbrev mX11_due : Meth := (⟨"FleetStores", "due", "(I)I"⟩, prog_1_method_21_code, 3, (some FieldType.int))
theorem mv_X11_due : MV mX11_due 1 := ⟨in_tb 583 (by decide +kernel) (by decide +kernel), in_tb 584 (by decide +kernel) (by decide +kernel), wi_X11, in_tb 585 (by decide +kernel) (by decide +kernel), by decide +kernel, by decide +kernel, by decide +kernel⟩
abbrev mX11_owed : Meth := (⟨"FleetStores", "owed", "(I)I"⟩, prog_1_method_22_code, 4, (some FieldType.int))
theorem mv_X11_owed : MV mX11_owed 1 := ⟨in_tb 587 (by decide +kernel) (by decide +kernel), in_tb 588 (by decide +kernel) (by decide +kernel), wi_X11, in_tb 589 (by decide +kernel) (by decide +kernel), by decide +kernel, by decide +kernel, by decide +kernel⟩
abbrev mX11_condemned : Meth := (⟨"FleetStores", "condemned", "(I)I"⟩, prog_1_method_23_code, 3, (some FieldType.int))
theorem mv_X11_condemned : MV mX11_condemned 1 := ⟨in_tb 591 (by decide +kernel) (by decide +kernel), in_tb 592 (by decide +kernel) (by decide +kernel), wi_X11, in_tb 593 (by decide +kernel) (by decide +kernel), by decide +kernel, by decide +kernel, by decide +kernel⟩
abbrev mX11_survey : Meth := (⟨"FleetStores", "survey", "(IIII)I"⟩, prog_1_method_24_code, 7, (some FieldType.int))
theorem mv_X11_survey : MV mX11_survey 4 := ⟨in_tb 595 (by decide +kernel) (by decide +kernel), in_tb 596 (by decide +kernel) (by decide +kernel), wi_X11, in_tb 597 (by decide +kernel) (by decide +kernel), by decide +kernel, by decide +kernel, by decide +kernel⟩
abbrev mX7_noteSurvey : Meth := (⟨"FleetStores$Store", "noteSurvey", "(II)V"⟩, prog_9_method_2_code, 4, none)
theorem mv_X7_noteSurvey : MV mX7_noteSurvey 2 := ⟨in_tb 600 (by decide +kernel) (by decide +kernel), in_tb 601 (by decide +kernel) (by decide +kernel), wi_X7, in_tb 602 (by decide +kernel) (by decide +kernel), by decide +kernel, by decide +kernel, by decide +kernel⟩
abbrev mX8_init : Meth := (⟨"FleetStores$Survey", "<init>", "(IILFleetStores$Survey;)V"⟩, prog_10_method_1_code, 4, none)
theorem mc_X8_init : MC mX8_init 3 := ⟨in_tb 606 (by decide +kernel) (by decide +kernel), wi_X8, in_tb 607 (by decide +kernel) (by decide +kernel), ⟨rfl, rfl⟩, by decide +kernel, by decide +kernel, by decide +kernel⟩
abbrev mX11_balance : Meth := (⟨"FleetStores", "balance", "(II)I"⟩, prog_1_method_25_code, 4, (some FieldType.int))
theorem mv_X11_balance : MV mX11_balance 2 := ⟨in_tb 623 (by decide +kernel) (by decide +kernel), in_tb 624 (by decide +kernel) (by decide +kernel), wi_X11, in_tb 625 (by decide +kernel) (by decide +kernel), by decide +kernel, by decide +kernel, by decide +kernel⟩
abbrev mX7_forgivenBalance : Meth := (⟨"FleetStores$Store", "forgivenBalance", "()I"⟩, prog_9_method_3_code, 3, (some FieldType.int))
theorem mv_X7_forgivenBalance : MV mX7_forgivenBalance 0 := ⟨in_tb 627 (by decide +kernel) (by decide +kernel), in_tb 628 (by decide +kernel) (by decide +kernel), wi_X7, in_tb 629 (by decide +kernel) (by decide +kernel), by decide +kernel, by decide +kernel, by decide +kernel⟩
abbrev mX11_began : Meth := (⟨"FleetStores", "began", "(III)I"⟩, prog_1_method_26_code, 5, (some FieldType.int))
theorem mv_X11_began : MV mX11_began 3 := ⟨in_tb 632 (by decide +kernel) (by decide +kernel), in_tb 633 (by decide +kernel) (by decide +kernel), wi_X11, in_tb 634 (by decide +kernel) (by decide +kernel), by decide +kernel, by decide +kernel, by decide +kernel⟩
abbrev mX11_count : Meth := (⟨"FleetStores", "count", "(I)I"⟩, prog_1_method_27_code, 2, (some FieldType.int))
theorem mv_X11_count : MV mX11_count 1 := ⟨in_tb 636 (by decide +kernel) (by decide +kernel), in_tb 637 (by decide +kernel) (by decide +kernel), wi_X11, in_tb 638 (by decide +kernel) (by decide +kernel), by decide +kernel, by decide +kernel, by decide +kernel⟩
abbrev mX4_casksInAll : Meth := (⟨"FleetStores$Lots", "casksInAll", "()I"⟩, prog_6_method_7_code, 3, (some FieldType.int))
theorem mv_X4_casksInAll : MV mX4_casksInAll 0 := ⟨in_tb 640 (by decide +kernel) (by decide +kernel), in_tb 641 (by decide +kernel) (by decide +kernel), wi_X4, in_tb 642 (by decide +kernel) (by decide +kernel), by decide +kernel, by decide +kernel, by decide +kernel⟩
abbrev mX12_init : Meth := (⟨"FleetStoresModel", "<init>", "()V"⟩, prog_14_method_1_code, 2, none)
theorem mc_X12_init : MC mX12_init 0 := ⟨in_tb 646 (by decide +kernel) (by decide +kernel), wi_X12, in_tb 647 (by decide +kernel) (by decide +kernel), ⟨rfl, rfl⟩, by decide +kernel, by decide +kernel, by decide +kernel⟩
abbrev mX12_men : Meth := (⟨"FleetStoresModel", "men", "(II)Z"⟩, prog_14_method_5_code, 3, (some FieldType.boolean))
theorem mv_X12_men : MV mX12_men 2 := ⟨in_tb 780 (by decide +kernel) (by decide +kernel), in_tb 781 (by decide +kernel) (by decide +kernel), wi_X12, in_tb 782 (by decide +kernel) (by decide +kernel), by decide +kernel, by decide +kernel, by decide +kernel⟩
abbrev mX12_isPlace : Meth := (⟨"FleetStoresModel", "isPlace", "(I)Z"⟩, prog_14_method_3_code, 1, (some FieldType.boolean))
theorem ms_X12_isPlace : MS mX12_isPlace 1 := ⟨in_tb 784 (by decide +kernel) (by decide +kernel), wi_X12, in_tb 785 (by decide +kernel) (by decide +kernel), by decide +kernel, by decide +kernel, by decide +kernel⟩
abbrev mX12_in : Meth := (⟨"FleetStoresModel", "in", "(III)Z"⟩, prog_14_method_2_code, 3, (some FieldType.boolean))
theorem ms_X12_in : MS mX12_in 3 := ⟨in_tb 787 (by decide +kernel) (by decide +kernel), wi_X12, in_tb 788 (by decide +kernel) (by decide +kernel), by decide +kernel, by decide +kernel, by decide +kernel⟩
abbrev mX12_rations : Meth := (⟨"FleetStoresModel", "rations", "(II)Z"⟩, prog_14_method_6_code, 3, (some FieldType.boolean))
theorem mv_X12_rations : MV mX12_rations 2 := ⟨in_tb 790 (by decide +kernel) (by decide +kernel), in_tb 791 (by decide +kernel) (by decide +kernel), wi_X12, in_tb 792 (by decide +kernel) (by decide +kernel), by decide +kernel, by decide +kernel, by decide +kernel⟩
abbrev mX12_isKind : Meth := (⟨"FleetStoresModel", "isKind", "(I)Z"⟩, prog_14_method_4_code, 1, (some FieldType.boolean))
theorem ms_X12_isKind : MS mX12_isKind 1 := ⟨in_tb 794 (by decide +kernel) (by decide +kernel), wi_X12, in_tb 795 (by decide +kernel) (by decide +kernel), by decide +kernel, by decide +kernel, by decide +kernel⟩
abbrev mX12_spoils : Meth := (⟨"FleetStoresModel", "spoils", "(III)Z"⟩, prog_14_method_7_code, 4, (some FieldType.boolean))
theorem mv_X12_spoils : MV mX12_spoils 3 := ⟨in_tb 797 (by decide +kernel) (by decide +kernel), in_tb 798 (by decide +kernel) (by decide +kernel), wi_X12, in_tb 799 (by decide +kernel) (by decide +kernel), by decide +kernel, by decide +kernel, by decide +kernel⟩
abbrev mX12_way : Meth := (⟨"FleetStoresModel", "way", "(III)Z"⟩, prog_14_method_8_code, 4, (some FieldType.boolean))
theorem mv_X12_way : MV mX12_way 3 := ⟨in_tb 801 (by decide +kernel) (by decide +kernel), in_tb 802 (by decide +kernel) (by decide +kernel), wi_X12, in_tb 803 (by decide +kernel) (by decide +kernel), by decide +kernel, by decide +kernel, by decide +kernel⟩
abbrev mX12_lag : Meth := (⟨"FleetStoresModel", "lag", "(II)Z"⟩, prog_14_method_9_code, 3, (some FieldType.boolean))
theorem mv_X12_lag : MV mX12_lag 2 := ⟨in_tb 805 (by decide +kernel) (by decide +kernel), in_tb 806 (by decide +kernel) (by decide +kernel), wi_X12, in_tb 807 (by decide +kernel) (by decide +kernel), by decide +kernel, by decide +kernel, by decide +kernel⟩
abbrev mX12_buy : Meth := (⟨"FleetStoresModel", "buy", "(IIIIII)I"⟩, prog_14_method_11_code, 8, (some FieldType.int))
theorem mv_X12_buy : MV mX12_buy 6 := ⟨in_tb 809 (by decide +kernel) (by decide +kernel), in_tb 810 (by decide +kernel) (by decide +kernel), wi_X12, in_tb 811 (by decide +kernel) (by decide +kernel), by decide +kernel, by decide +kernel, by decide +kernel⟩
abbrev mX12_addLot : Meth := (⟨"FleetStoresModel", "addLot", "(IIIIIIII)I"⟩, prog_14_method_10_code, 10, (some FieldType.int))
theorem mv_X12_addLot : MV mX12_addLot 8 := ⟨in_tb 815 (by decide +kernel) (by decide +kernel), in_sel 18 (by decide +kernel) (by decide +kernel), wi_X12, in_tb 816 (by decide +kernel) (by decide +kernel), by decide +kernel, by decide +kernel, by decide +kernel⟩
abbrev mX12_send : Meth := (⟨"FleetStoresModel", "send", "(III)I"⟩, prog_14_method_13_code, 4, (some FieldType.int))
theorem mv_X12_send : MV mX12_send 3 := ⟨in_tb 818 (by decide +kernel) (by decide +kernel), in_tb 819 (by decide +kernel) (by decide +kernel), wi_X12, in_tb 820 (by decide +kernel) (by decide +kernel), by decide +kernel, by decide +kernel, by decide +kernel⟩
abbrev mX12_isLot : Meth := (⟨"FleetStoresModel", "isLot", "(I)Z"⟩, prog_14_method_12_code, 2, (some FieldType.boolean))
theorem mv_X12_isLot : MV mX12_isLot 1 := ⟨in_tb 823 (by decide +kernel) (by decide +kernel), in_sel 19 (by decide +kernel) (by decide +kernel), wi_X12, in_tb 824 (by decide +kernel) (by decide +kernel), by decide +kernel, by decide +kernel, by decide +kernel⟩
abbrev mX12_week : Meth := (⟨"FleetStoresModel", "week", "()I"⟩, prog_14_method_17_code, 3, (some FieldType.int))
theorem mv_X12_week : MV mX12_week 0 := ⟨in_tb 826 (by decide +kernel) (by decide +kernel), in_tb 827 (by decide +kernel) (by decide +kernel), wi_X12, in_tb 828 (by decide +kernel) (by decide +kernel), by decide +kernel, by decide +kernel, by decide +kernel⟩
abbrev mX12_part : Meth := (⟨"FleetStoresModel", "part", "(IIIZ)I"⟩, prog_14_method_15_code, 6, (some FieldType.int))
theorem mv_X12_part : MV mX12_part 4 := ⟨in_tb 831 (by decide +kernel) (by decide +kernel), in_sel 20 (by decide +kernel) (by decide +kernel), wi_X12, in_tb 832 (by decide +kernel) (by decide +kernel), by decide +kernel, by decide +kernel, by decide +kernel⟩
abbrev mX12_eat : Meth := (⟨"FleetStoresModel", "eat", "(II)V"⟩, prog_14_method_18_code, 8, none)
theorem mv_X12_eat : MV mX12_eat 2 := ⟨in_tb 836 (by decide +kernel) (by decide +kernel), in_sel 21 (by decide +kernel) (by decide +kernel), wi_X12, in_tb 837 (by decide +kernel) (by decide +kernel), by decide +kernel, by decide +kernel, by decide +kernel⟩
abbrev mX12_oldest : Meth := (⟨"FleetStoresModel", "oldest", "(II[I[I)I"⟩, prog_14_method_16_code, 7, (some FieldType.int))
theorem mv_X12_oldest : MV mX12_oldest 4 := ⟨in_tb 840 (by decide +kernel) (by decide +kernel), in_sel 22 (by decide +kernel) (by decide +kernel), wi_X12, in_tb 841 (by decide +kernel) (by decide +kernel), by decide +kernel, by decide +kernel, by decide +kernel⟩
abbrev mX12_stockOf : Meth := (⟨"FleetStoresModel", "stockOf", "(II)I"⟩, prog_14_method_14_code, 5, (some FieldType.int))
theorem mv_X12_stockOf : MV mX12_stockOf 2 := ⟨in_tb 844 (by decide +kernel) (by decide +kernel), in_sel 23 (by decide +kernel) (by decide +kernel), wi_X12, in_tb 845 (by decide +kernel) (by decide +kernel), by decide +kernel, by decide +kernel, by decide +kernel⟩
abbrev mX12_lasts : Meth := (⟨"FleetStoresModel", "lasts", "(I)I"⟩, prog_14_method_20_code, 3, (some FieldType.int))
theorem mv_X12_lasts : MV mX12_lasts 1 := ⟨in_tb 847 (by decide +kernel) (by decide +kernel), in_tb 848 (by decide +kernel) (by decide +kernel), wi_X12, in_tb 849 (by decide +kernel) (by decide +kernel), by decide +kernel, by decide +kernel, by decide +kernel⟩
abbrev mX12_lastsWeek : Meth := (⟨"FleetStoresModel", "lastsWeek", "(II)Z"⟩, prog_14_method_19_code, 8, (some FieldType.boolean))
theorem mv_X12_lastsWeek : MV mX12_lastsWeek 2 := ⟨in_tb 852 (by decide +kernel) (by decide +kernel), in_sel 24 (by decide +kernel) (by decide +kernel), wi_X12, in_tb 853 (by decide +kernel) (by decide +kernel), by decide +kernel, by decide +kernel, by decide +kernel⟩
abbrev mX12_lot : Meth := (⟨"FleetStoresModel", "lot", "(II)I"⟩, prog_14_method_21_code, 3, (some FieldType.int))
theorem mv_X12_lot : MV mX12_lot 2 := ⟨in_tb 855 (by decide +kernel) (by decide +kernel), in_tb 856 (by decide +kernel) (by decide +kernel), wi_X12, in_tb 857 (by decide +kernel) (by decide +kernel), by decide +kernel, by decide +kernel, by decide +kernel⟩
abbrev mX12_stock : Meth := (⟨"FleetStoresModel", "stock", "(II)I"⟩, prog_14_method_22_code, 3, (some FieldType.int))
theorem mv_X12_stock : MV mX12_stock 2 := ⟨in_tb 859 (by decide +kernel) (by decide +kernel), in_tb 860 (by decide +kernel) (by decide +kernel), wi_X12, in_tb 861 (by decide +kernel) (by decide +kernel), by decide +kernel, by decide +kernel, by decide +kernel⟩
abbrev mX12_open : Meth := (⟨"FleetStoresModel", "open", "(II)I"⟩, prog_14_method_23_code, 3, (some FieldType.int))
theorem mv_X12_open : MV mX12_open 2 := ⟨in_tb 863 (by decide +kernel) (by decide +kernel), in_tb 864 (by decide +kernel) (by decide +kernel), wi_X12, in_tb 865 (by decide +kernel) (by decide +kernel), by decide +kernel, by decide +kernel, by decide +kernel⟩
abbrev mX12_lacks : Meth := (⟨"FleetStoresModel", "lacks", "(II)I"⟩, prog_14_method_24_code, 3, (some FieldType.int))
theorem mv_X12_lacks : MV mX12_lacks 2 := ⟨in_tb 867 (by decide +kernel) (by decide +kernel), in_tb 868 (by decide +kernel) (by decide +kernel), wi_X12, in_tb 869 (by decide +kernel) (by decide +kernel), by decide +kernel, by decide +kernel, by decide +kernel⟩
abbrev mX12_began : Meth := (⟨"FleetStoresModel", "began", "(III)I"⟩, prog_14_method_25_code, 4, (some FieldType.int))
theorem mv_X12_began : MV mX12_began 3 := ⟨in_tb 871 (by decide +kernel) (by decide +kernel), in_tb 872 (by decide +kernel) (by decide +kernel), wi_X12, in_tb 873 (by decide +kernel) (by decide +kernel), by decide +kernel, by decide +kernel, by decide +kernel⟩
abbrev mX12_known : Meth := (⟨"FleetStoresModel", "known", "(III)I"⟩, prog_14_method_26_code, 4, (some FieldType.int))
theorem mv_X12_known : MV mX12_known 3 := ⟨in_tb 875 (by decide +kernel) (by decide +kernel), in_tb 876 (by decide +kernel) (by decide +kernel), wi_X12, in_tb 877 (by decide +kernel) (by decide +kernel), by decide +kernel, by decide +kernel, by decide +kernel⟩
abbrev mX12_feed : Meth := (⟨"FleetStoresModel", "feed", "(IIIII)I"⟩, prog_14_method_28_code, 9, (some FieldType.int))
theorem mv_X12_feed : MV mX12_feed 5 := ⟨in_tb 879 (by decide +kernel) (by decide +kernel), in_tb 880 (by decide +kernel) (by decide +kernel), wi_X12, in_tb 881 (by decide +kernel) (by decide +kernel), by decide +kernel, by decide +kernel, by decide +kernel⟩
abbrev mX12_byteOf : Meth := (⟨"FleetStoresModel", "byteOf", "(IIIIII)I"⟩, prog_14_method_27_code, 7, (some FieldType.int))
theorem ms_X12_byteOf : MS mX12_byteOf 6 := ⟨in_tb 883 (by decide +kernel) (by decide +kernel), wi_X12, in_tb 884 (by decide +kernel) (by decide +kernel), by decide +kernel, by decide +kernel, by decide +kernel⟩
abbrev mX12_end : Meth := (⟨"FleetStoresModel", "end", "(I)Z"⟩, prog_14_method_29_code, 2, (some FieldType.boolean))
theorem mv_X12_end : MV mX12_end 1 := ⟨in_tb 886 (by decide +kernel) (by decide +kernel), in_tb 887 (by decide +kernel) (by decide +kernel), wi_X12, in_tb 888 (by decide +kernel) (by decide +kernel), by decide +kernel, by decide +kernel, by decide +kernel⟩
abbrev mX12_fault : Meth := (⟨"FleetStoresModel", "fault", "()I"⟩, prog_14_method_34_code, 2, (some FieldType.int))
theorem mv_X12_fault : MV mX12_fault 0 := ⟨in_tb 890 (by decide +kernel) (by decide +kernel), in_tb 891 (by decide +kernel) (by decide +kernel), wi_X12, in_tb 892 (by decide +kernel) (by decide +kernel), by decide +kernel, by decide +kernel, by decide +kernel⟩
abbrev mX12_look : Meth := (⟨"FleetStoresModel", "look", "()I"⟩, prog_14_method_30_code, 1, (some FieldType.int))
theorem mv_X12_look : MV mX12_look 0 := ⟨in_tb 895 (by decide +kernel) (by decide +kernel), in_sel 25 (by decide +kernel) (by decide +kernel), wi_X12, in_tb 896 (by decide +kernel) (by decide +kernel), by decide +kernel, by decide +kernel, by decide +kernel⟩
abbrev mX12_clause : Meth := (⟨"FleetStoresModel", "clause", "()Z"⟩, prog_14_method_33_code, 7, (some FieldType.boolean))
theorem mv_X12_clause : MV mX12_clause 0 := ⟨in_tb 899 (by decide +kernel) (by decide +kernel), in_sel 26 (by decide +kernel) (by decide +kernel), wi_X12, in_tb 900 (by decide +kernel) (by decide +kernel), by decide +kernel, by decide +kernel, by decide +kernel⟩
abbrev mX12_number : Meth := (⟨"FleetStoresModel", "number", "()I"⟩, prog_14_method_32_code, 3, (some FieldType.int))
theorem mv_X12_number : MV mX12_number 0 := ⟨in_tb 903 (by decide +kernel) (by decide +kernel), in_sel 27 (by decide +kernel) (by decide +kernel), wi_X12, in_tb 904 (by decide +kernel) (by decide +kernel), by decide +kernel, by decide +kernel, by decide +kernel⟩
abbrev mX12_isDigit : Meth := (⟨"FleetStoresModel", "isDigit", "(I)Z"⟩, prog_14_method_31_code, 1, (some FieldType.boolean))
theorem ms_X12_isDigit : MS mX12_isDigit 1 := ⟨in_tb 906 (by decide +kernel) (by decide +kernel), wi_X12, in_tb 907 (by decide +kernel) (by decide +kernel), by decide +kernel, by decide +kernel, by decide +kernel⟩
abbrev mX12_contract : Meth := (⟨"FleetStoresModel", "contract", "(I)Z"⟩, prog_14_method_35_code, 3, (some FieldType.boolean))
theorem mv_X12_contract : MV mX12_contract 1 := ⟨in_tb 909 (by decide +kernel) (by decide +kernel), in_tb 910 (by decide +kernel) (by decide +kernel), wi_X12, in_tb 911 (by decide +kernel) (by decide +kernel), by decide +kernel, by decide +kernel, by decide +kernel⟩
abbrev mX12_draw : Meth := (⟨"FleetStoresModel", "draw", "(IIJ)I"⟩, prog_14_method_36_code, 13, (some FieldType.int))
theorem mv_X12_draw : MV mX12_draw 3 := ⟨in_tb 914 (by decide +kernel) (by decide +kernel), in_tb 915 (by decide +kernel) (by decide +kernel), wi_X12, in_tb 916 (by decide +kernel) (by decide +kernel), by decide +kernel, by decide +kernel, by decide +kernel⟩
abbrev mX12_due : Meth := (⟨"FleetStoresModel", "due", "(I)I"⟩, prog_14_method_37_code, 2, (some FieldType.int))
theorem mv_X12_due : MV mX12_due 1 := ⟨in_tb 920 (by decide +kernel) (by decide +kernel), in_tb 921 (by decide +kernel) (by decide +kernel), wi_X12, in_tb 922 (by decide +kernel) (by decide +kernel), by decide +kernel, by decide +kernel, by decide +kernel⟩
abbrev mX12_owed : Meth := (⟨"FleetStoresModel", "owed", "(I)I"⟩, prog_14_method_38_code, 4, (some FieldType.int))
theorem mv_X12_owed : MV mX12_owed 1 := ⟨in_tb 924 (by decide +kernel) (by decide +kernel), in_tb 925 (by decide +kernel) (by decide +kernel), wi_X12, in_tb 926 (by decide +kernel) (by decide +kernel), by decide +kernel, by decide +kernel, by decide +kernel⟩
abbrev mX12_condemned : Meth := (⟨"FleetStoresModel", "condemned", "(I)I"⟩, prog_14_method_39_code, 2, (some FieldType.int))
theorem mv_X12_condemned : MV mX12_condemned 1 := ⟨in_tb 928 (by decide +kernel) (by decide +kernel), in_tb 929 (by decide +kernel) (by decide +kernel), wi_X12, in_tb 930 (by decide +kernel) (by decide +kernel), by decide +kernel, by decide +kernel, by decide +kernel⟩
abbrev mX12_survey : Meth := (⟨"FleetStoresModel", "survey", "(IIII)I"⟩, prog_14_method_40_code, 5, (some FieldType.int))
theorem mv_X12_survey : MV mX12_survey 4 := ⟨in_tb 932 (by decide +kernel) (by decide +kernel), in_tb 933 (by decide +kernel) (by decide +kernel), wi_X12, in_tb 934 (by decide +kernel) (by decide +kernel), by decide +kernel, by decide +kernel, by decide +kernel⟩
abbrev mX12_balance : Meth := (⟨"FleetStoresModel", "balance", "(II)I"⟩, prog_14_method_41_code, 8, (some FieldType.int))
theorem mv_X12_balance : MV mX12_balance 2 := ⟨in_tb 937 (by decide +kernel) (by decide +kernel), in_tb 938 (by decide +kernel) (by decide +kernel), wi_X12, in_tb 939 (by decide +kernel) (by decide +kernel), by decide +kernel, by decide +kernel, by decide +kernel⟩
abbrev mX12_count : Meth := (⟨"FleetStoresModel", "count", "(I)I"⟩, prog_14_method_42_code, 5, (some FieldType.int))
theorem mv_X12_count : MV mX12_count 1 := ⟨in_tb 941 (by decide +kernel) (by decide +kernel), in_tb 942 (by decide +kernel) (by decide +kernel), wi_X12, in_tb 943 (by decide +kernel) (by decide +kernel), by decide +kernel, by decide +kernel, by decide +kernel⟩
theorem fk_X1_9 : FkI "FleetStores$Kind" 9 1 0 100 2 := ⟨by decide, by decide, rfl, rfl, in_tb 37 (by decide +kernel) (by decide +kernel), rfl⟩
theorem fk_X3_43 : FkI "FleetStores$Lot" 43 1 0 100 2 := ⟨by decide, by decide, rfl, rfl, in_tb 38 (by decide +kernel) (by decide +kernel), rfl⟩
theorem fk_X11_165 : FkI "FleetStores" 165 1 0 100 2 := ⟨by decide, by decide, rfl, rfl, in_tb 39 (by decide +kernel) (by decide +kernel), rfl⟩
theorem fk_X1_15 : FkR "FleetStores$Kind" 15 1 1 101 2 := ⟨by decide, by decide, rfl, rfl, in_tb 40 (by decide +kernel) (by decide +kernel), rfl⟩
theorem fk_X11_104 : FkR "FleetStores" 104 1 1 101 2 := ⟨by decide, by decide, rfl, rfl, in_tb 41 (by decide +kernel) (by decide +kernel), rfl⟩
theorem fk_X1_19 : FkI "FleetStores$Kind" 19 1 2 102 2 := ⟨by decide, by decide, rfl, rfl, in_tb 42 (by decide +kernel) (by decide +kernel), rfl⟩
theorem fk_X11_101 : FkI "FleetStores" 101 1 2 102 2 := ⟨by decide, by decide, rfl, rfl, in_tb 43 (by decide +kernel) (by decide +kernel), rfl⟩
theorem fk_X3_70 : FkI "FleetStores$Lot" 70 1 2 102 2 := ⟨by decide, by decide, rfl, rfl, in_tb 44 (by decide +kernel) (by decide +kernel), rfl⟩
theorem fk_X5_9 : FkI "FleetStores$Place" 9 5 0 500 6 := ⟨by decide, by decide, rfl, rfl, in_tb 58 (by decide +kernel) (by decide +kernel), rfl⟩
theorem fk_X3_52 : FkI "FleetStores$Lot" 52 5 0 500 6 := ⟨by decide, by decide, rfl, rfl, in_tb 59 (by decide +kernel) (by decide +kernel), rfl⟩
theorem fk_X11_158 : FkI "FleetStores" 158 5 0 500 6 := ⟨by decide, by decide, rfl, rfl, in_tb 60 (by decide +kernel) (by decide +kernel), rfl⟩
theorem fk_X5_15 : FkI "FleetStores$Place" 15 5 1 501 6 := ⟨by decide, by decide, rfl, rfl, in_tb 61 (by decide +kernel) (by decide +kernel), rfl⟩
theorem fk_X11_93 : FkI "FleetStores" 93 5 1 501 6 := ⟨by decide, by decide, rfl, rfl, in_tb 62 (by decide +kernel) (by decide +kernel), rfl⟩
theorem fk_X11_107 : FkI "FleetStores" 107 5 2 502 6 := ⟨by decide, by decide, rfl, rfl, in_tb 63 (by decide +kernel) (by decide +kernel), rfl⟩
theorem fk_X9_7 : FkI "FleetStores$Table" 7 9 0 900 10 := ⟨by decide, by decide, rfl, rfl, in_tb 82 (by decide +kernel) (by decide +kernel), rfl⟩
theorem fk_X11_202 : FkI "FleetStores" 202 9 0 900 10 := ⟨by decide, by decide, rfl, rfl, in_tb 83 (by decide +kernel) (by decide +kernel), rfl⟩
theorem fk_X9_19 : FkI "FleetStores$Table" 19 9 1 901 10 := ⟨by decide, by decide, rfl, rfl, in_tb 84 (by decide +kernel) (by decide +kernel), rfl⟩
theorem fk_X11_316 : FkI "FleetStores" 316 9 1 901 10 := ⟨by decide, by decide, rfl, rfl, in_tb 85 (by decide +kernel) (by decide +kernel), rfl⟩
theorem fk_X7_9 : FkI "FleetStores$Store" 9 7 0 700 8 := ⟨by decide, by decide, rfl, rfl, in_tb 91 (by decide +kernel) (by decide +kernel), rfl⟩
theorem fk_X11_292 : FkI "FleetStores" 292 7 0 700 8 := ⟨by decide, by decide, rfl, rfl, in_tb 92 (by decide +kernel) (by decide +kernel), rfl⟩
theorem fk_X7_15 : FkR "FleetStores$Store" 15 7 1 701 8 := ⟨by decide, by decide, rfl, rfl, in_tb 93 (by decide +kernel) (by decide +kernel), rfl⟩
theorem fk_X3_48 : FkR "FleetStores$Lot" 48 7 1 701 8 := ⟨by decide, by decide, rfl, rfl, in_tb 94 (by decide +kernel) (by decide +kernel), rfl⟩
theorem fk_X11_154 : FkR "FleetStores" 154 7 1 701 8 := ⟨by decide, by decide, rfl, rfl, in_tb 95 (by decide +kernel) (by decide +kernel), rfl⟩
theorem fk_X7_19 : FkR "FleetStores$Store" 19 7 2 702 8 := ⟨by decide, by decide, rfl, rfl, in_tb 96 (by decide +kernel) (by decide +kernel), rfl⟩
theorem fk_X3_37 : FkR "FleetStores$Lot" 37 7 2 702 8 := ⟨by decide, by decide, rfl, rfl, in_tb 97 (by decide +kernel) (by decide +kernel), rfl⟩
theorem fk_X11_161 : FkR "FleetStores" 161 7 2 702 8 := ⟨by decide, by decide, rfl, rfl, in_tb 98 (by decide +kernel) (by decide +kernel), rfl⟩
theorem fk_X7_26 : FkR "FleetStores$Store" 26 7 3 703 8 := ⟨by decide, by decide, rfl, rfl, in_tb 99 (by decide +kernel) (by decide +kernel), rfl⟩
theorem fk_X11_198 : FkR "FleetStores" 198 7 3 703 8 := ⟨by decide, by decide, rfl, rfl, in_tb 100 (by decide +kernel) (by decide +kernel), rfl⟩
theorem fk_X7_30 : FkR "FleetStores$Store" 30 7 4 704 8 := ⟨by decide, by decide, rfl, rfl, in_tb 101 (by decide +kernel) (by decide +kernel), rfl⟩
theorem fk_X3_66 : FkR "FleetStores$Lot" 66 7 4 704 8 := ⟨by decide, by decide, rfl, rfl, in_tb 102 (by decide +kernel) (by decide +kernel), rfl⟩
theorem fk_X11_319 : FkR "FleetStores" 319 7 4 704 8 := ⟨by decide, by decide, rfl, rfl, in_tb 103 (by decide +kernel) (by decide +kernel), rfl⟩
theorem fk_X7_51 : FkI "FleetStores$Store" 51 7 5 705 8 := ⟨by decide, by decide, rfl, rfl, in_tb 104 (by decide +kernel) (by decide +kernel), rfl⟩
theorem fk_X11_313 : FkI "FleetStores" 313 7 5 705 8 := ⟨by decide, by decide, rfl, rfl, in_tb 105 (by decide +kernel) (by decide +kernel), rfl⟩
theorem fk_X11_207 : FkI "FleetStores" 207 7 6 706 8 := ⟨by decide, by decide, rfl, rfl, in_tb 106 (by decide +kernel) (by decide +kernel), rfl⟩
theorem fk_X7_33 : FkR "FleetStores$Store" 33 7 7 707 8 := ⟨by decide, by decide, rfl, rfl, in_tb 107 (by decide +kernel) (by decide +kernel), rfl⟩
theorem fk_X4_11 : FkR "FleetStores$Lots" 11 4 0 400 5 := ⟨by decide, by decide, rfl, rfl, in_tb 133 (by decide +kernel) (by decide +kernel), rfl⟩
theorem fk_X4_17 : FkI "FleetStores$Lots" 17 4 1 401 5 := ⟨by decide, by decide, rfl, rfl, in_tb 134 (by decide +kernel) (by decide +kernel), rfl⟩
theorem fk_X11_124 : FkI "FleetStores" 124 4 1 401 5 := ⟨by decide, by decide, rfl, rfl, in_tb 135 (by decide +kernel) (by decide +kernel), rfl⟩
theorem fk_X4_33 : FkR "FleetStores$Lots" 33 4 2 402 5 := ⟨by decide, by decide, rfl, rfl, in_tb 136 (by decide +kernel) (by decide +kernel), rfl⟩
theorem fk_X11_258 : FkR "FleetStores" 258 4 2 402 5 := ⟨by decide, by decide, rfl, rfl, in_tb 137 (by decide +kernel) (by decide +kernel), rfl⟩
theorem fk_X10_9 : FkR "FleetStores$Tape" 9 10 0 1000 11 := ⟨by decide, by decide, rfl, rfl, in_tb 151 (by decide +kernel) (by decide +kernel), rfl⟩
theorem fk_X10_19 : FkI "FleetStores$Tape" 19 10 1 1001 11 := ⟨by decide, by decide, rfl, rfl, in_tb 152 (by decide +kernel) (by decide +kernel), rfl⟩
theorem fk_X6_50 : FkI "FleetStores$Reader" 50 10 1 1001 11 := ⟨by decide, by decide, rfl, rfl, in_tb 153 (by decide +kernel) (by decide +kernel), rfl⟩
theorem fk_X11_224 : FkI "FleetStores" 224 10 1 1001 11 := ⟨by decide, by decide, rfl, rfl, in_tb 154 (by decide +kernel) (by decide +kernel), rfl⟩
theorem fk_X6_9 : FkR "FleetStores$Reader" 9 6 0 600 7 := ⟨by decide, by decide, rfl, rfl, in_tb 166 (by decide +kernel) (by decide +kernel), rfl⟩
theorem fk_X6_15 : FkI "FleetStores$Reader" 15 6 1 601 7 := ⟨by decide, by decide, rfl, rfl, in_tb 167 (by decide +kernel) (by decide +kernel), rfl⟩
theorem fk_X0_9 : FkR "FleetStores$Contract" 9 0 0 0 1 := ⟨by decide, by decide, rfl, rfl, in_tb 180 (by decide +kernel) (by decide +kernel), rfl⟩
theorem fk_X0_15 : FkR "FleetStores$Contract" 15 0 1 1 1 := ⟨by decide, by decide, rfl, rfl, in_tb 181 (by decide +kernel) (by decide +kernel), rfl⟩
theorem fk_X0_18 : FkR "FleetStores$Contract" 18 0 2 2 1 := ⟨by decide, by decide, rfl, rfl, in_tb 182 (by decide +kernel) (by decide +kernel), rfl⟩
theorem fk_X0_21 : FkR "FleetStores$Contract" 21 0 3 3 1 := ⟨by decide, by decide, rfl, rfl, in_tb 183 (by decide +kernel) (by decide +kernel), rfl⟩
theorem fk_X0_24 : FkI "FleetStores$Contract" 24 0 4 4 1 := ⟨by decide, by decide, rfl, rfl, in_tb 184 (by decide +kernel) (by decide +kernel), rfl⟩
theorem fk_X6_19 : FkI "FleetStores$Reader" 19 0 4 4 1 := ⟨by decide, by decide, rfl, rfl, in_tb 185 (by decide +kernel) (by decide +kernel), rfl⟩
theorem fk_X2_9 : FkR "FleetStores$Line" 9 2 0 200 3 := ⟨by decide, by decide, rfl, rfl, in_tb 203 (by decide +kernel) (by decide +kernel), rfl⟩
theorem fk_X2_15 : FkR "FleetStores$Line" 15 2 1 201 3 := ⟨by decide, by decide, rfl, rfl, in_tb 204 (by decide +kernel) (by decide +kernel), rfl⟩
theorem fk_X2_18 : FkI "FleetStores$Line" 18 2 2 202 3 := ⟨by decide, by decide, rfl, rfl, in_tb 205 (by decide +kernel) (by decide +kernel), rfl⟩
theorem fk_X11_11 : FkR "FleetStores" 11 11 0 1100 12 := ⟨by decide, by decide, rfl, rfl, in_tb 213 (by decide +kernel) (by decide +kernel), rfl⟩
theorem fk_X11_17 : FkR "FleetStores" 17 11 1 1101 12 := ⟨by decide, by decide, rfl, rfl, in_tb 214 (by decide +kernel) (by decide +kernel), rfl⟩
theorem fk_X11_23 : FkR "FleetStores" 23 11 2 1102 12 := ⟨by decide, by decide, rfl, rfl, in_tb 215 (by decide +kernel) (by decide +kernel), rfl⟩
theorem fk_X11_29 : FkR "FleetStores" 29 11 3 1103 12 := ⟨by decide, by decide, rfl, rfl, in_tb 216 (by decide +kernel) (by decide +kernel), rfl⟩
theorem fk_X11_34 : FkR "FleetStores" 34 11 4 1104 12 := ⟨by decide, by decide, rfl, rfl, in_tb 217 (by decide +kernel) (by decide +kernel), rfl⟩
theorem fk_X11_47 : FkR "FleetStores" 47 11 5 1105 12 := ⟨by decide, by decide, rfl, rfl, in_tb 218 (by decide +kernel) (by decide +kernel), rfl⟩
theorem fk_X11_54 : FkR "FleetStores" 54 11 6 1106 12 := ⟨by decide, by decide, rfl, rfl, in_tb 219 (by decide +kernel) (by decide +kernel), rfl⟩
theorem fk_X11_63 : FkR "FleetStores" 63 11 7 1107 12 := ⟨by decide, by decide, rfl, rfl, in_tb 220 (by decide +kernel) (by decide +kernel), rfl⟩
theorem fk_X11_69 : FkR "FleetStores" 69 11 8 1108 12 := ⟨by decide, by decide, rfl, rfl, in_tb 221 (by decide +kernel) (by decide +kernel), rfl⟩
theorem fk_X11_74 : FkR "FleetStores" 74 11 9 1109 12 := ⟨by decide, by decide, rfl, rfl, in_tb 222 (by decide +kernel) (by decide +kernel), rfl⟩
theorem fk_X11_81 : FkR "FleetStores" 81 11 10 1110 12 := ⟨by decide, by decide, rfl, rfl, in_tb 223 (by decide +kernel) (by decide +kernel), rfl⟩
theorem fk_X11_121 : FkI "FleetStores" 121 11 11 1111 12 := ⟨by decide, by decide, rfl, rfl, in_tb 224 (by decide +kernel) (by decide +kernel), rfl⟩
theorem fk_X11_133 : FkI "FleetStores" 133 11 12 1112 12 := ⟨by decide, by decide, rfl, rfl, in_tb 225 (by decide +kernel) (by decide +kernel), rfl⟩
theorem fk_X11_283 : FkI "FleetStores" 283 11 13 1113 12 := ⟨by decide, by decide, rfl, rfl, in_tb 226 (by decide +kernel) (by decide +kernel), rfl⟩
theorem fk_X11_286 : FkI "FleetStores" 286 11 14 1114 12 := ⟨by decide, by decide, rfl, rfl, in_tb 227 (by decide +kernel) (by decide +kernel), rfl⟩
theorem fk_X11_269 : FkI "FleetStores" 269 11 15 1115 12 := ⟨by decide, by decide, rfl, rfl, in_tb 228 (by decide +kernel) (by decide +kernel), rfl⟩
theorem fk_X3_9 : FkR "FleetStores$Lot" 9 3 0 300 4 := ⟨by decide, by decide, rfl, rfl, in_tb 312 (by decide +kernel) (by decide +kernel), rfl⟩
theorem fk_X4_43 : FkR "FleetStores$Lots" 43 3 0 300 4 := ⟨by decide, by decide, rfl, rfl, in_tb 313 (by decide +kernel) (by decide +kernel), rfl⟩
theorem fk_X11_150 : FkR "FleetStores" 150 3 0 300 4 := ⟨by decide, by decide, rfl, rfl, in_tb 314 (by decide +kernel) (by decide +kernel), rfl⟩
theorem fk_X3_15 : FkI "FleetStores$Lot" 15 3 1 301 4 := ⟨by decide, by decide, rfl, rfl, in_tb 315 (by decide +kernel) (by decide +kernel), rfl⟩
theorem fk_X11_166 : FkI "FleetStores" 166 3 1 301 4 := ⟨by decide, by decide, rfl, rfl, in_tb 316 (by decide +kernel) (by decide +kernel), rfl⟩
theorem fk_X3_19 : FkI "FleetStores$Lot" 19 3 2 302 4 := ⟨by decide, by decide, rfl, rfl, in_tb 317 (by decide +kernel) (by decide +kernel), rfl⟩
theorem fk_X4_40 : FkI "FleetStores$Lots" 40 3 2 302 4 := ⟨by decide, by decide, rfl, rfl, in_tb 318 (by decide +kernel) (by decide +kernel), rfl⟩
theorem fk_X11_169 : FkI "FleetStores" 169 3 2 302 4 := ⟨by decide, by decide, rfl, rfl, in_tb 319 (by decide +kernel) (by decide +kernel), rfl⟩
theorem fk_X3_22 : FkI "FleetStores$Lot" 22 3 3 303 4 := ⟨by decide, by decide, rfl, rfl, in_tb 320 (by decide +kernel) (by decide +kernel), rfl⟩
theorem fk_X2_39 : FkI "FleetStores$Line" 39 3 3 303 4 := ⟨by decide, by decide, rfl, rfl, in_tb 321 (by decide +kernel) (by decide +kernel), rfl⟩
theorem fk_X11_172 : FkI "FleetStores" 172 3 3 303 4 := ⟨by decide, by decide, rfl, rfl, in_tb 322 (by decide +kernel) (by decide +kernel), rfl⟩
theorem fk_X3_25 : FkI "FleetStores$Lot" 25 3 4 304 4 := ⟨by decide, by decide, rfl, rfl, in_tb 323 (by decide +kernel) (by decide +kernel), rfl⟩
theorem fk_X11_175 : FkI "FleetStores" 175 3 4 304 4 := ⟨by decide, by decide, rfl, rfl, in_tb 324 (by decide +kernel) (by decide +kernel), rfl⟩
theorem fk_X3_28 : FkI "FleetStores$Lot" 28 3 5 305 4 := ⟨by decide, by decide, rfl, rfl, in_tb 325 (by decide +kernel) (by decide +kernel), rfl⟩
theorem fk_X2_22 : FkI "FleetStores$Line" 22 3 5 305 4 := ⟨by decide, by decide, rfl, rfl, in_tb 326 (by decide +kernel) (by decide +kernel), rfl⟩
theorem fk_X11_238 : FkI "FleetStores" 238 3 5 305 4 := ⟨by decide, by decide, rfl, rfl, in_tb 327 (by decide +kernel) (by decide +kernel), rfl⟩
theorem fk_X3_31 : FkI "FleetStores$Lot" 31 3 6 306 4 := ⟨by decide, by decide, rfl, rfl, in_tb 328 (by decide +kernel) (by decide +kernel), rfl⟩
theorem fk_X4_50 : FkI "FleetStores$Lots" 50 3 6 306 4 := ⟨by decide, by decide, rfl, rfl, in_tb 329 (by decide +kernel) (by decide +kernel), rfl⟩
theorem fk_X11_147 : FkI "FleetStores" 147 3 6 306 4 := ⟨by decide, by decide, rfl, rfl, in_tb 330 (by decide +kernel) (by decide +kernel), rfl⟩
theorem fk_X3_34 : FkI "FleetStores$Lot" 34 3 7 307 4 := ⟨by decide, by decide, rfl, rfl, in_tb 331 (by decide +kernel) (by decide +kernel), rfl⟩
theorem fk_X11_297 : FkI "FleetStores" 297 3 7 307 4 := ⟨by decide, by decide, rfl, rfl, in_tb 332 (by decide +kernel) (by decide +kernel), rfl⟩
theorem fk_X11_130 : FkI "FleetStores" 130 3 8 308 4 := ⟨by decide, by decide, rfl, rfl, in_tb 333 (by decide +kernel) (by decide +kernel), rfl⟩
theorem fk_X11_234 : FkI "FleetStores" 234 3 9 309 4 := ⟨by decide, by decide, rfl, rfl, in_tb 334 (by decide +kernel) (by decide +kernel), rfl⟩
theorem fk_X11_251 : FkI "FleetStores" 251 3 10 310 4 := ⟨by decide, by decide, rfl, rfl, in_tb 335 (by decide +kernel) (by decide +kernel), rfl⟩
theorem fk_X11_265 : FkI "FleetStores" 265 3 11 311 4 := ⟨by decide, by decide, rfl, rfl, in_tb 336 (by decide +kernel) (by decide +kernel), rfl⟩
theorem fk_X3_59 : FkI "FleetStores$Lot" 59 3 12 312 4 := ⟨by decide, by decide, rfl, rfl, in_tb 337 (by decide +kernel) (by decide +kernel), rfl⟩
theorem fk_X11_322 : FkI "FleetStores" 322 3 12 312 4 := ⟨by decide, by decide, rfl, rfl, in_tb 338 (by decide +kernel) (by decide +kernel), rfl⟩
theorem fk_X4_37 : FkR "FleetStores$Lots" 37 3 13 313 4 := ⟨by decide, by decide, rfl, rfl, in_tb 339 (by decide +kernel) (by decide +kernel), rfl⟩
theorem fk_X11_262 : FkR "FleetStores" 262 3 13 313 4 := ⟨by decide, by decide, rfl, rfl, in_tb 340 (by decide +kernel) (by decide +kernel), rfl⟩
theorem fk_X8_7 : FkI "FleetStores$Survey" 7 8 0 800 9 := ⟨by decide, by decide, rfl, rfl, in_tb 609 (by decide +kernel) (by decide +kernel), rfl⟩
theorem fk_X7_37 : FkI "FleetStores$Store" 37 8 0 800 9 := ⟨by decide, by decide, rfl, rfl, in_tb 610 (by decide +kernel) (by decide +kernel), rfl⟩
theorem fk_X8_16 : FkR "FleetStores$Survey" 16 8 1 801 9 := ⟨by decide, by decide, rfl, rfl, in_tb 611 (by decide +kernel) (by decide +kernel), rfl⟩
theorem fk_X7_45 : FkR "FleetStores$Store" 45 8 1 801 9 := ⟨by decide, by decide, rfl, rfl, in_tb 612 (by decide +kernel) (by decide +kernel), rfl⟩
theorem fk_X8_13 : FkI "FleetStores$Survey" 13 8 2 802 9 := ⟨by decide, by decide, rfl, rfl, in_tb 613 (by decide +kernel) (by decide +kernel), rfl⟩
theorem fk_X7_42 : FkI "FleetStores$Store" 42 8 2 802 9 := ⟨by decide, by decide, rfl, rfl, in_tb 614 (by decide +kernel) (by decide +kernel), rfl⟩
theorem fk_X12_131 : FkI "FleetStoresModel" 131 12 0 1200 13 := ⟨by decide, by decide, rfl, rfl, in_tb 649 (by decide +kernel) (by decide +kernel), rfl⟩
theorem fk_X12_126 : FkI "FleetStoresModel" 126 12 1 1201 13 := ⟨by decide, by decide, rfl, rfl, in_tb 650 (by decide +kernel) (by decide +kernel), rfl⟩
theorem fk_X12_138 : FkI "FleetStoresModel" 138 12 2 1202 13 := ⟨by decide, by decide, rfl, rfl, in_tb 651 (by decide +kernel) (by decide +kernel), rfl⟩
theorem fk_X12_165 : FkI "FleetStoresModel" 165 12 3 1203 13 := ⟨by decide, by decide, rfl, rfl, in_tb 652 (by decide +kernel) (by decide +kernel), rfl⟩
theorem fk_X12_206 : FkI "FleetStoresModel" 206 12 4 1204 13 := ⟨by decide, by decide, rfl, rfl, in_tb 653 (by decide +kernel) (by decide +kernel), rfl⟩
theorem fk_X12_9 : FkR "FleetStoresModel" 9 12 5 1205 13 := ⟨by decide, by decide, rfl, rfl, in_tb 654 (by decide +kernel) (by decide +kernel), rfl⟩
theorem fk_X12_13 : FkR "FleetStoresModel" 13 12 6 1206 13 := ⟨by decide, by decide, rfl, rfl, in_tb 655 (by decide +kernel) (by decide +kernel), rfl⟩
theorem fk_X12_16 : FkR "FleetStoresModel" 16 12 7 1207 13 := ⟨by decide, by decide, rfl, rfl, in_tb 656 (by decide +kernel) (by decide +kernel), rfl⟩
theorem fk_X12_19 : FkR "FleetStoresModel" 19 12 8 1208 13 := ⟨by decide, by decide, rfl, rfl, in_tb 657 (by decide +kernel) (by decide +kernel), rfl⟩
theorem fk_X12_22 : FkR "FleetStoresModel" 22 12 9 1209 13 := ⟨by decide, by decide, rfl, rfl, in_tb 658 (by decide +kernel) (by decide +kernel), rfl⟩
theorem fk_X12_25 : FkR "FleetStoresModel" 25 12 10 1210 13 := ⟨by decide, by decide, rfl, rfl, in_tb 659 (by decide +kernel) (by decide +kernel), rfl⟩
theorem fk_X12_28 : FkR "FleetStoresModel" 28 12 11 1211 13 := ⟨by decide, by decide, rfl, rfl, in_tb 660 (by decide +kernel) (by decide +kernel), rfl⟩
theorem fk_X12_31 : FkR "FleetStoresModel" 31 12 12 1212 13 := ⟨by decide, by decide, rfl, rfl, in_tb 661 (by decide +kernel) (by decide +kernel), rfl⟩
theorem fk_X12_34 : FkR "FleetStoresModel" 34 12 13 1213 13 := ⟨by decide, by decide, rfl, rfl, in_tb 662 (by decide +kernel) (by decide +kernel), rfl⟩
theorem fk_X12_37 : FkR "FleetStoresModel" 37 12 14 1214 13 := ⟨by decide, by decide, rfl, rfl, in_tb 663 (by decide +kernel) (by decide +kernel), rfl⟩
theorem fk_X12_40 : FkR "FleetStoresModel" 40 12 15 1215 13 := ⟨by decide, by decide, rfl, rfl, in_tb 664 (by decide +kernel) (by decide +kernel), rfl⟩
theorem fk_X12_43 : FkR "FleetStoresModel" 43 12 16 1216 13 := ⟨by decide, by decide, rfl, rfl, in_tb 665 (by decide +kernel) (by decide +kernel), rfl⟩
theorem fk_X12_46 : FkR "FleetStoresModel" 46 12 17 1217 13 := ⟨by decide, by decide, rfl, rfl, in_tb 666 (by decide +kernel) (by decide +kernel), rfl⟩
theorem fk_X12_49 : FkR "FleetStoresModel" 49 12 18 1218 13 := ⟨by decide, by decide, rfl, rfl, in_tb 667 (by decide +kernel) (by decide +kernel), rfl⟩
theorem fk_X12_52 : FkR "FleetStoresModel" 52 12 19 1219 13 := ⟨by decide, by decide, rfl, rfl, in_tb 668 (by decide +kernel) (by decide +kernel), rfl⟩
theorem fk_X12_55 : FkR "FleetStoresModel" 55 12 20 1220 13 := ⟨by decide, by decide, rfl, rfl, in_tb 669 (by decide +kernel) (by decide +kernel), rfl⟩
theorem fk_X12_58 : FkR "FleetStoresModel" 58 12 21 1221 13 := ⟨by decide, by decide, rfl, rfl, in_tb 670 (by decide +kernel) (by decide +kernel), rfl⟩
theorem fk_X12_61 : FkR "FleetStoresModel" 61 12 22 1222 13 := ⟨by decide, by decide, rfl, rfl, in_tb 671 (by decide +kernel) (by decide +kernel), rfl⟩
theorem fk_X12_64 : FkR "FleetStoresModel" 64 12 23 1223 13 := ⟨by decide, by decide, rfl, rfl, in_tb 672 (by decide +kernel) (by decide +kernel), rfl⟩
theorem fk_X12_67 : FkR "FleetStoresModel" 67 12 24 1224 13 := ⟨by decide, by decide, rfl, rfl, in_tb 673 (by decide +kernel) (by decide +kernel), rfl⟩
theorem fk_X12_70 : FkR "FleetStoresModel" 70 12 25 1225 13 := ⟨by decide, by decide, rfl, rfl, in_tb 674 (by decide +kernel) (by decide +kernel), rfl⟩
theorem fk_X12_73 : FkR "FleetStoresModel" 73 12 26 1226 13 := ⟨by decide, by decide, rfl, rfl, in_tb 675 (by decide +kernel) (by decide +kernel), rfl⟩
theorem fk_X12_76 : FkR "FleetStoresModel" 76 12 27 1227 13 := ⟨by decide, by decide, rfl, rfl, in_tb 676 (by decide +kernel) (by decide +kernel), rfl⟩
theorem fk_X12_79 : FkR "FleetStoresModel" 79 12 28 1228 13 := ⟨by decide, by decide, rfl, rfl, in_tb 677 (by decide +kernel) (by decide +kernel), rfl⟩
theorem fk_X12_82 : FkR "FleetStoresModel" 82 12 29 1229 13 := ⟨by decide, by decide, rfl, rfl, in_tb 678 (by decide +kernel) (by decide +kernel), rfl⟩
theorem fk_X12_85 : FkR "FleetStoresModel" 85 12 30 1230 13 := ⟨by decide, by decide, rfl, rfl, in_tb 679 (by decide +kernel) (by decide +kernel), rfl⟩
theorem fk_X12_176 : FkI "FleetStoresModel" 176 12 31 1231 13 := ⟨by decide, by decide, rfl, rfl, in_tb 680 (by decide +kernel) (by decide +kernel), rfl⟩
theorem fk_X12_179 : FkI "FleetStoresModel" 179 12 32 1232 13 := ⟨by decide, by decide, rfl, rfl, in_tb 681 (by decide +kernel) (by decide +kernel), rfl⟩
theorem fk_X12_88 : FkR "FleetStoresModel" 88 12 33 1233 13 := ⟨by decide, by decide, rfl, rfl, in_tb 682 (by decide +kernel) (by decide +kernel), rfl⟩
theorem fk_X12_91 : FkR "FleetStoresModel" 91 12 34 1234 13 := ⟨by decide, by decide, rfl, rfl, in_tb 683 (by decide +kernel) (by decide +kernel), rfl⟩
theorem fk_X12_94 : FkR "FleetStoresModel" 94 12 35 1235 13 := ⟨by decide, by decide, rfl, rfl, in_tb 684 (by decide +kernel) (by decide +kernel), rfl⟩
theorem fk_X12_97 : FkR "FleetStoresModel" 97 12 36 1236 13 := ⟨by decide, by decide, rfl, rfl, in_tb 685 (by decide +kernel) (by decide +kernel), rfl⟩
theorem fk_X12_100 : FkR "FleetStoresModel" 100 12 37 1237 13 := ⟨by decide, by decide, rfl, rfl, in_tb 686 (by decide +kernel) (by decide +kernel), rfl⟩
theorem fk_X12_192 : FkI "FleetStoresModel" 192 12 38 1238 13 := ⟨by decide, by decide, rfl, rfl, in_tb 687 (by decide +kernel) (by decide +kernel), rfl⟩
theorem fk_X12_103 : FkR "FleetStoresModel" 103 12 39 1239 13 := ⟨by decide, by decide, rfl, rfl, in_tb 688 (by decide +kernel) (by decide +kernel), rfl⟩
theorem fk_X12_106 : FkR "FleetStoresModel" 106 12 40 1240 13 := ⟨by decide, by decide, rfl, rfl, in_tb 689 (by decide +kernel) (by decide +kernel), rfl⟩
theorem fk_X12_109 : FkR "FleetStoresModel" 109 12 41 1241 13 := ⟨by decide, by decide, rfl, rfl, in_tb 690 (by decide +kernel) (by decide +kernel), rfl⟩
theorem fk_X12_112 : FkR "FleetStoresModel" 112 12 42 1242 13 := ⟨by decide, by decide, rfl, rfl, in_tb 691 (by decide +kernel) (by decide +kernel), rfl⟩
theorem lk_X11_3 : Cond.methodLink "FleetStores" 3 Lib.objectInit ∈ gtb := in_tb 20 (by decide +kernel) (by decide +kernel)
theorem lk_X11_37 : Cond.methodLink "FleetStores" 37 mX1_init.1 ∈ gtb := in_tb 33 (by decide +kernel) (by decide +kernel)
theorem lk_X1_3 : Cond.methodLink "FleetStores$Kind" 3 Lib.objectInit ∈ gtb := in_tb 36 (by decide +kernel) (by decide +kernel)
theorem lk_X11_40 : Cond.methodLink "FleetStores" 40 mX5_init.1 ∈ gtb := in_tb 54 (by decide +kernel) (by decide +kernel)
theorem lk_X5_3 : Cond.methodLink "FleetStores$Place" 3 Lib.objectInit ∈ gtb := in_tb 57 (by decide +kernel) (by decide +kernel)
theorem lk_X11_41 : Cond.methodLink "FleetStores" 41 mX7_init.1 ∈ gtb := in_tb 72 (by decide +kernel) (by decide +kernel)
theorem lk_X7_3 : Cond.methodLink "FleetStores$Store" 3 Lib.objectInit ∈ gtb := in_tb 75 (by decide +kernel) (by decide +kernel)
theorem lk_X9_1 : Cond.methodLink "FleetStores$Table" 1 Lib.objectInit ∈ gtb := in_tb 81 (by decide +kernel) (by decide +kernel)
theorem lk_X11_46 : Cond.methodLink "FleetStores" 46 mX4_init.1 ∈ gtb := in_tb 127 (by decide +kernel) (by decide +kernel)
theorem lk_X4_3 : Cond.methodLink "FleetStores$Lots" 3 Lib.objectInit ∈ gtb := in_tb 130 (by decide +kernel) (by decide +kernel)
theorem lk_X11_53 : Cond.methodLink "FleetStores" 53 mX10_init.1 ∈ gtb := in_tb 147 (by decide +kernel) (by decide +kernel)
theorem lk_X10_3 : Cond.methodLink "FleetStores$Tape" 3 Lib.objectInit ∈ gtb := in_tb 150 (by decide +kernel) (by decide +kernel)
theorem lk_X11_60 : Cond.methodLink "FleetStores" 60 mX6_init.1 ∈ gtb := in_tb 162 (by decide +kernel) (by decide +kernel)
theorem lk_X6_3 : Cond.methodLink "FleetStores$Reader" 3 Lib.objectInit ∈ gtb := in_tb 165 (by decide +kernel) (by decide +kernel)
theorem lk_X11_73 : Cond.methodLink "FleetStores" 73 mX0_init.1 ∈ gtb := in_tb 176 (by decide +kernel) (by decide +kernel)
theorem lk_X0_3 : Cond.methodLink "FleetStores$Contract" 3 Lib.objectInit ∈ gtb := in_tb 179 (by decide +kernel) (by decide +kernel)
theorem lk_X11_80 : Cond.methodLink "FleetStores" 80 mX2_init.1 ∈ gtb := in_tb 199 (by decide +kernel) (by decide +kernel)
theorem lk_X2_3 : Cond.methodLink "FleetStores$Line" 3 Lib.objectInit ∈ gtb := in_tb 202 (by decide +kernel) (by decide +kernel)
theorem lk_X11_85 : Cond.methodLink "FleetStores" 85 mX11_placeOf.1 ∈ gtb := in_tb 266 (by decide +kernel) (by decide +kernel)
theorem lk_X11_89 : Cond.methodLink "FleetStores" 89 mX11_within.1 ∈ gtb := in_tb 270 (by decide +kernel) (by decide +kernel)
theorem lk_X11_97 : Cond.methodLink "FleetStores" 97 mX11_kindOf.1 ∈ gtb := in_tb 277 (by decide +kernel) (by decide +kernel)
theorem lk_X11_110 : Cond.methodLink "FleetStores" 110 mX11_storeOf.1 ∈ gtb := in_tb 297 (by decide +kernel) (by decide +kernel)
theorem lk_X11_115 : Cond.methodLink "FleetStores" 115 mX4_isFull.1 ∈ gtb := in_tb 302 (by decide +kernel) (by decide +kernel)
theorem lk_X11_127 : Cond.methodLink "FleetStores" 127 mX3_init.1 ∈ gtb := in_tb 308 (by decide +kernel) (by decide +kernel)
theorem lk_X3_3 : Cond.methodLink "FleetStores$Lot" 3 Lib.objectInit ∈ gtb := in_tb 311 (by decide +kernel) (by decide +kernel)
theorem lk_X11_136 : Cond.methodLink "FleetStores" 136 mX4_enter.1 ∈ gtb := in_tb 370 (by decide +kernel) (by decide +kernel)
theorem lk_X4_25 : Cond.methodLink "FleetStores$Lots" 25 mX4_isFull.1 ∈ gtb := in_tb 374 (by decide +kernel) (by decide +kernel)
theorem lk_X4_29 : Cond.methodLink "FleetStores$Lots" 29 mX4_putInChain.1 ∈ gtb := in_tb 375 (by decide +kernel) (by decide +kernel)
theorem lk_X11_140 : Cond.methodLink "FleetStores" 140 mX4_numbered.1 ∈ gtb := in_tb 383 (by decide +kernel) (by decide +kernel)
theorem lk_X11_144 : Cond.methodLink "FleetStores" 144 mX3_isThere.1 ∈ gtb := in_tb 388 (by decide +kernel) (by decide +kernel)
theorem lk_X11_178 : Cond.methodLink "FleetStores" 178 mX11_bringIn.1 ∈ gtb := in_tb 396 (by decide +kernel) (by decide +kernel)
theorem lk_X11_293 : Cond.methodLink "FleetStores" 293 mX3_isThereBy.1 ∈ gtb := in_tb 400 (by decide +kernel) (by decide +kernel)
theorem lk_X11_181 : Cond.methodLink "FleetStores" 181 mX11_condemnSpoilt.1 ∈ gtb := in_tb 404 (by decide +kernel) (by decide +kernel)
theorem lk_X11_300 : Cond.methodLink "FleetStores" 300 mX1_loss.1 ∈ gtb := in_tb 408 (by decide +kernel) (by decide +kernel)
theorem lk_X1_22 : Cond.methodLink "FleetStores$Kind" 22 Lib.Math.min.name ∈ gtb := in_tb 412 (by decide +kernel) (by decide +kernel)
theorem lk_X1_28 : Cond.methodLink "FleetStores$Kind" 28 Lib.Math.max.name ∈ gtb := in_tb 415 (by decide +kernel) (by decide +kernel)
theorem lk_X11_184 : Cond.methodLink "FleetStores" 184 mX11_eat.1 ∈ gtb := in_tb 418 (by decide +kernel) (by decide +kernel)
theorem lk_X11_304 : Cond.methodLink "FleetStores" 304 mX5_wants.1 ∈ gtb := in_tb 422 (by decide +kernel) (by decide +kernel)
theorem lk_X11_307 : Cond.methodLink "FleetStores" 307 mX9_sitDown.1 ∈ gtb := in_tb 426 (by decide +kernel) (by decide +kernel)
theorem lk_X9_13 : Cond.methodLink "FleetStores$Table" 13 Lib.Math.min.name ∈ gtb := in_tb 430 (by decide +kernel) (by decide +kernel)
theorem lk_X11_310 : Cond.methodLink "FleetStores" 310 mX9_openFrom.1 ∈ gtb := in_tb 431 (by decide +kernel) (by decide +kernel)
theorem lk_X9_22 : Cond.methodLink "FleetStores$Table" 22 Lib.Math.max.name ∈ gtb := in_tb 435 (by decide +kernel) (by decide +kernel)
theorem lk_X11_187 : Cond.methodLink "FleetStores" 187 mX11_writeStocks.1 ∈ gtb := in_tb 436 (by decide +kernel) (by decide +kernel)
theorem lk_X11_190 : Cond.methodLink "FleetStores" 190 mX3_told.1 ∈ gtb := in_tb 444 (by decide +kernel) (by decide +kernel)
theorem lk_X11_194 : Cond.methodLink "FleetStores" 194 mX4_casksAt.1 ∈ gtb := in_tb 452 (by decide +kernel) (by decide +kernel)
theorem lk_X4_47 : Cond.methodLink "FleetStores$Lots" 47 mX3_isThere.1 ∈ gtb := in_tb 456 (by decide +kernel) (by decide +kernel)
theorem lk_X11_210 : Cond.methodLink "FleetStores" 210 mX11_stockAsBegan.1 ∈ gtb := in_tb 469 (by decide +kernel) (by decide +kernel)
theorem lk_X11_214 : Cond.methodLink "FleetStores" 214 mX11_beginTrial.1 ∈ gtb := in_tb 477 (by decide +kernel) (by decide +kernel)
theorem lk_X11_217 : Cond.methodLink "FleetStores" 217 mX11_isShortInTrial.1 ∈ gtb := in_tb 481 (by decide +kernel) (by decide +kernel)
theorem lk_X11_325 : Cond.methodLink "FleetStores" 325 mX3_endWeekInTrial.1 ∈ gtb := in_tb 485 (by decide +kernel) (by decide +kernel)
theorem lk_X3_55 : Cond.methodLink "FleetStores$Lot" 55 mX3_isThereBy.1 ∈ gtb := in_tb 489 (by decide +kernel) (by decide +kernel)
theorem lk_X3_62 : Cond.methodLink "FleetStores$Lot" 62 mX1_loss.1 ∈ gtb := in_tb 490 (by decide +kernel) (by decide +kernel)
theorem lk_X3_73 : Cond.methodLink "FleetStores$Lot" 73 mX9_openFrom.1 ∈ gtb := in_tb 491 (by decide +kernel) (by decide +kernel)
theorem lk_X11_221 : Cond.methodLink "FleetStores" 221 mX11_bytesIn.1 ∈ gtb := in_tb 496 (by decide +kernel) (by decide +kernel)
theorem lk_X11_289 : Cond.methodLink "FleetStores" 289 mX11_byteOf.1 ∈ gtb := in_tb 499 (by decide +kernel) (by decide +kernel)
theorem lk_X11_227 : Cond.methodLink "FleetStores" 227 mX10_addBytesOf.1 ∈ gtb := in_tb 502 (by decide +kernel) (by decide +kernel)
theorem lk_X11_230 : Cond.methodLink "FleetStores" 230 mX6_read.1 ∈ gtb := in_tb 515 (by decide +kernel) (by decide +kernel)
theorem lk_X6_24 : Cond.methodLink "FleetStores$Reader" 24 mX6_skipBlanks.1 ∈ gtb := in_tb 519 (by decide +kernel) (by decide +kernel)
theorem lk_X6_27 : Cond.methodLink "FleetStores$Reader" 27 mX6_here.1 ∈ gtb := in_tb 523 (by decide +kernel) (by decide +kernel)
theorem lk_X6_55 : Cond.methodLink "FleetStores$Reader" 55 mX10_byteAt.1 ∈ gtb := in_tb 527 (by decide +kernel) (by decide +kernel)
theorem lk_X6_31 : Cond.methodLink "FleetStores$Reader" 31 mX6_readClause.1 ∈ gtb := in_tb 532 (by decide +kernel) (by decide +kernel)
theorem lk_X6_35 : Cond.methodLink "FleetStores$Reader" 35 mX6_pass.1 ∈ gtb := in_tb 536 (by decide +kernel) (by decide +kernel)
theorem lk_X6_39 : Cond.methodLink "FleetStores$Reader" 39 mX6_readDigits.1 ∈ gtb := in_tb 540 (by decide +kernel) (by decide +kernel)
theorem lk_X6_42 : Cond.methodLink "FleetStores$Reader" 42 mX0_add.1 ∈ gtb := in_tb 545 (by decide +kernel) (by decide +kernel)
theorem lk_X11_241 : Cond.methodLink "FleetStores" 241 Lib.Math.min.name ∈ gtb := in_tb 557 (by decide +kernel) (by decide +kernel)
theorem lk_X11_247 : Cond.methodLink "FleetStores" 247 mX2_badDrawn.1 ∈ gtb := in_tb 558 (by decide +kernel) (by decide +kernel)
theorem lk_X2_31 : Cond.methodLink "FleetStores$Line" 31 mX2_numberIn.1 ∈ gtb := in_tb 564 (by decide +kernel) (by decide +kernel)
theorem lk_X2_35 : Cond.methodLink "FleetStores$Line" 35 mX2_put.1 ∈ gtb := in_tb 568 (by decide +kernel) (by decide +kernel)
theorem lk_X11_254 : Cond.methodLink "FleetStores" 254 mX0_sum.1 ∈ gtb := in_tb 572 (by decide +kernel) (by decide +kernel)
theorem lk_X0_28 : Cond.methodLink "FleetStores$Contract" 28 mX0_factOf.1 ∈ gtb := in_tb 576 (by decide +kernel) (by decide +kernel)
theorem lk_X0_32 : Cond.methodLink "FleetStores$Contract" 32 mX0_holds.1 ∈ gtb := in_tb 579 (by decide +kernel) (by decide +kernel)
theorem lk_X11_272 : Cond.methodLink "FleetStores" 272 mX7_noteSurvey.1 ∈ gtb := in_tb 599 (by decide +kernel) (by decide +kernel)
theorem lk_X7_48 : Cond.methodLink "FleetStores$Store" 48 mX8_init.1 ∈ gtb := in_tb 605 (by decide +kernel) (by decide +kernel)
theorem lk_X8_1 : Cond.methodLink "FleetStores$Survey" 1 Lib.objectInit ∈ gtb := in_tb 608 (by decide +kernel) (by decide +kernel)
theorem lk_X11_276 : Cond.methodLink "FleetStores" 276 mX7_forgivenBalance.1 ∈ gtb := in_tb 626 (by decide +kernel) (by decide +kernel)
theorem lk_X7_54 : Cond.methodLink "FleetStores$Store" 54 Lib.Math.min.name ∈ gtb := in_tb 630 (by decide +kernel) (by decide +kernel)
theorem lk_X11_280 : Cond.methodLink "FleetStores" 280 mX4_casksInAll.1 ∈ gtb := in_tb 639 (by decide +kernel) (by decide +kernel)
theorem lk_X12_3 : Cond.methodLink "FleetStoresModel" 3 Lib.objectInit ∈ gtb := in_tb 648 (by decide +kernel) (by decide +kernel)
theorem lk_X12_119 : Cond.methodLink "FleetStoresModel" 119 mX12_isPlace.1 ∈ gtb := in_tb 783 (by decide +kernel) (by decide +kernel)
theorem lk_X12_115 : Cond.methodLink "FleetStoresModel" 115 mX12_in.1 ∈ gtb := in_tb 786 (by decide +kernel) (by decide +kernel)
theorem lk_X12_123 : Cond.methodLink "FleetStoresModel" 123 mX12_isKind.1 ∈ gtb := in_tb 793 (by decide +kernel) (by decide +kernel)
theorem lk_X12_134 : Cond.methodLink "FleetStoresModel" 134 mX12_addLot.1 ∈ gtb := in_tb 813 (by decide +kernel) (by decide +kernel)
theorem lk_X12_141 : Cond.methodLink "FleetStoresModel" 141 mX12_isLot.1 ∈ gtb := in_tb 821 (by decide +kernel) (by decide +kernel)
theorem lk_X12_150 : Cond.methodLink "FleetStoresModel" 150 mX12_part.1 ∈ gtb := in_tb 829 (by decide +kernel) (by decide +kernel)
theorem lk_X12_144 : Cond.methodLink "FleetStoresModel" 144 Lib.Math.min.name ∈ gtb := in_tb 833 (by decide +kernel) (by decide +kernel)
theorem lk_X12_154 : Cond.methodLink "FleetStoresModel" 154 mX12_eat.1 ∈ gtb := in_tb 834 (by decide +kernel) (by decide +kernel)
theorem lk_X12_161 : Cond.methodLink "FleetStoresModel" 161 mX12_oldest.1 ∈ gtb := in_tb 838 (by decide +kernel) (by decide +kernel)
theorem lk_X12_158 : Cond.methodLink "FleetStoresModel" 158 mX12_stockOf.1 ∈ gtb := in_tb 842 (by decide +kernel) (by decide +kernel)
theorem lk_X12_168 : Cond.methodLink "FleetStoresModel" 168 mX12_lastsWeek.1 ∈ gtb := in_tb 850 (by decide +kernel) (by decide +kernel)
theorem lk_X12_172 : Cond.methodLink "FleetStoresModel" 172 mX12_byteOf.1 ∈ gtb := in_tb 882 (by decide +kernel) (by decide +kernel)
theorem lk_X12_185 : Cond.methodLink "FleetStoresModel" 185 mX12_look.1 ∈ gtb := in_tb 893 (by decide +kernel) (by decide +kernel)
theorem lk_X12_195 : Cond.methodLink "FleetStoresModel" 195 mX12_clause.1 ∈ gtb := in_tb 897 (by decide +kernel) (by decide +kernel)
theorem lk_X12_189 : Cond.methodLink "FleetStoresModel" 189 mX12_number.1 ∈ gtb := in_tb 901 (by decide +kernel) (by decide +kernel)
theorem lk_X12_182 : Cond.methodLink "FleetStoresModel" 182 mX12_isDigit.1 ∈ gtb := in_tb 905 (by decide +kernel) (by decide +kernel)
theorem lk_X12_199 : Cond.methodLink "FleetStoresModel" 199 mX12_fault.1 ∈ gtb := in_tb 912 (by decide +kernel) (by decide +kernel)
theorem ck_X11_9 : Cond.classLink "FleetStores" 9 "FleetStores$Place" ∈ gtb := in_tb 23 (by decide +kernel) (by decide +kernel)
theorem ck_X11_15 : Cond.classLink "FleetStores" 15 "FleetStores$Kind" ∈ gtb := in_tb 25 (by decide +kernel) (by decide +kernel)
theorem ck_X11_21 : Cond.classLink "FleetStores" 21 "FleetStores$Store" ∈ gtb := in_tb 27 (by decide +kernel) (by decide +kernel)
theorem ck_X11_27 : Cond.classLink "FleetStores" 27 "[I" ∈ gtb := in_tb 29 (by decide +kernel) (by decide +kernel)
theorem ck_X11_33 : Cond.classLink "FleetStores" 33 "[[I" ∈ gtb := in_tb 31 (by decide +kernel) (by decide +kernel)
theorem ck_X7_23 : Cond.classLink "FleetStores$Store" 23 "FleetStores$Table" ∈ gtb := in_tb 76 (by decide +kernel) (by decide +kernel)
theorem ck_X11_44 : Cond.classLink "FleetStores" 44 "FleetStores$Lots" ∈ gtb := in_tb 125 (by decide +kernel) (by decide +kernel)
theorem ck_X4_9 : Cond.classLink "FleetStores$Lots" 9 "FleetStores$Lot" ∈ gtb := in_tb 131 (by decide +kernel) (by decide +kernel)
theorem ck_X11_51 : Cond.classLink "FleetStores" 51 "FleetStores$Tape" ∈ gtb := in_tb 145 (by decide +kernel) (by decide +kernel)
theorem ck_X11_58 : Cond.classLink "FleetStores" 58 "FleetStores$Reader" ∈ gtb := in_tb 160 (by decide +kernel) (by decide +kernel)
theorem ck_X11_67 : Cond.classLink "FleetStores" 67 "FleetStores$Contract" ∈ gtb := in_tb 173 (by decide +kernel) (by decide +kernel)
theorem ck_X11_78 : Cond.classLink "FleetStores" 78 "FleetStores$Line" ∈ gtb := in_tb 197 (by decide +kernel) (by decide +kernel)
theorem ck_X11_119 : Cond.classLink "FleetStores" 119 "FleetStores$Lot" ∈ gtb := in_tb 306 (by decide +kernel) (by decide +kernel)
theorem ck_X7_38 : Cond.classLink "FleetStores$Store" 38 "FleetStores$Survey" ∈ gtb := in_tb 603 (by decide +kernel) (by decide +kernel)
theorem kk_X11_114 : Cond.constant "FleetStores" 114 100000 ∈ gtb := in_tb 301 (by decide +kernel) (by decide +kernel)
theorem kk_X2_27 : Cond.constantLong "FleetStores$Line" 27 6364136223846793005 ∈ gtb := in_tb 562 (by decide +kernel) (by decide +kernel)
theorem kk_X2_29 : Cond.constantLong "FleetStores$Line" 29 1442695040888963407 ∈ gtb := in_tb 563 (by decide +kernel) (by decide +kernel)
theorem kk_X11_268 : Cond.constant "FleetStores" 268 (-1000000) ∈ gtb := in_tb 598 (by decide +kernel) (by decide +kernel)
theorem kk_X12_130 : Cond.constant "FleetStoresModel" 130 100000 ∈ gtb := in_tb 812 (by decide +kernel) (by decide +kernel)
theorem kk_X12_202 : Cond.constantLong "FleetStoresModel" 202 6364136223846793005 ∈ gtb := in_tb 917 (by decide +kernel) (by decide +kernel)
theorem kk_X12_204 : Cond.constantLong "FleetStoresModel" 204 1442695040888963407 ∈ gtb := in_tb 918 (by decide +kernel) (by decide +kernel)
theorem kk_X12_209 : Cond.constant "FleetStoresModel" 209 (-1000000) ∈ gtb := in_tb 935 (by decide +kernel) (by decide +kernel)
end
section
-- DECODE FACTS of the class
theorem dX11_init_0 : Daload prog_1_method_1_code 0 0 1 := Or.inl ⟨0, by decide +kernel, rfl, rfl⟩
theorem dX11_init_1 : D3 prog_1_method_1_code 1 (.invokespecial 3) 4 := ⟨by decide +kernel, rfl⟩
theorem dX11_init_4 : Daload prog_1_method_1_code 4 0 5 := Or.inl ⟨0, by decide +kernel, rfl, rfl⟩
theorem dX11_init_5 : Dconst prog_1_method_1_code 5 8 7 := Or.inr (Or.inl ⟨8, by decide +kernel, rfl, rfl⟩)
theorem dX11_init_7 : D3 prog_1_method_1_code 7 (.anewarray 9) 10 := ⟨by decide +kernel, rfl⟩
theorem dX11_init_10 : D3 prog_1_method_1_code 10 (.putfield 11) 13 := ⟨by decide +kernel, rfl⟩
theorem dX11_init_13 : Daload prog_1_method_1_code 13 0 14 := Or.inl ⟨0, by decide +kernel, rfl, rfl⟩
theorem dX11_init_14 : Dconst prog_1_method_1_code 14 4 15 := Or.inl ⟨4, by decide +kernel, rfl, rfl⟩
theorem dX11_init_15 : D3 prog_1_method_1_code 15 (.anewarray 15) 18 := ⟨by decide +kernel, rfl⟩
theorem dX11_init_18 : D3 prog_1_method_1_code 18 (.putfield 17) 21 := ⟨by decide +kernel, rfl⟩
theorem dX11_init_21 : Daload prog_1_method_1_code 21 0 22 := Or.inl ⟨0, by decide +kernel, rfl, rfl⟩
theorem dX11_init_22 : Dconst prog_1_method_1_code 22 32 24 := Or.inr (Or.inl ⟨32, by decide +kernel, rfl, rfl⟩)
theorem dX11_init_24 : D3 prog_1_method_1_code 24 (.anewarray 21) 27 := ⟨by decide +kernel, rfl⟩
theorem dX11_init_27 : D3 prog_1_method_1_code 27 (.putfield 23) 30 := ⟨by decide +kernel, rfl⟩
theorem dX11_init_30 : Daload prog_1_method_1_code 30 0 31 := Or.inl ⟨0, by decide +kernel, rfl, rfl⟩
theorem dX11_init_31 : Dconst prog_1_method_1_code 31 201 34 := Or.inr (Or.inr ⟨201, by decide +kernel, rfl, rfl⟩)
theorem dX11_init_34 : D3 prog_1_method_1_code 34 (.anewarray 27) 37 := ⟨by decide +kernel, rfl⟩
theorem dX11_init_37 : D3 prog_1_method_1_code 37 (.putfield 29) 40 := ⟨by decide +kernel, rfl⟩
theorem dX11_init_40 : Daload prog_1_method_1_code 40 0 41 := Or.inl ⟨0, by decide +kernel, rfl, rfl⟩
theorem dX11_init_41 : D3 prog_1_method_1_code 41 (.getfield 29) 44 := ⟨by decide +kernel, rfl⟩
theorem dX11_init_44 : Dconst prog_1_method_1_code 44 0 45 := Or.inl ⟨0, by decide +kernel, rfl, rfl⟩
theorem dX11_init_45 : Dconst prog_1_method_1_code 45 32 47 := Or.inr (Or.inl ⟨32, by decide +kernel, rfl, rfl⟩)
theorem dX11_init_47 : D2 prog_1_method_1_code 47 (.newarray .int) 49 := ⟨by decide +kernel, rfl⟩
theorem dX11_init_49 : D1 prog_1_method_1_code 49 (.aastore) 50 := ⟨by decide +kernel, rfl⟩
theorem dX11_init_50 : Daload prog_1_method_1_code 50 0 51 := Or.inl ⟨0, by decide +kernel, rfl, rfl⟩
theorem dX11_init_51 : Dconst prog_1_method_1_code 51 8 53 := Or.inr (Or.inl ⟨8, by decide +kernel, rfl, rfl⟩)
theorem dX11_init_53 : Dconst prog_1_method_1_code 53 8 55 := Or.inr (Or.inl ⟨8, by decide +kernel, rfl, rfl⟩)
theorem dX11_init_55 : decode prog_1_method_1_code 55 = .ok (.multianewarray 33 2, 4) := by decide +kernel
theorem dX11_init_59 : D3 prog_1_method_1_code 59 (.putfield 34) 62 := ⟨by decide +kernel, rfl⟩
theorem dX11_init_62 : Dconst prog_1_method_1_code 62 0 63 := Or.inl ⟨0, by decide +kernel, rfl, rfl⟩
theorem dX11_init_63 : Distore prog_1_method_1_code 63 1 64 := Or.inl ⟨1, by decide +kernel, rfl, rfl⟩
theorem dX11_init_64 : Diload prog_1_method_1_code 64 1 65 := Or.inl ⟨1, by decide +kernel, rfl, rfl⟩
theorem dX11_init_65 : Dconst prog_1_method_1_code 65 4 66 := Or.inl ⟨4, by decide +kernel, rfl, rfl⟩
theorem dX11_init_66 : Dj prog_1_method_1_code 66 (.if_icmp .ge 23) 23 69 89 := ⟨by decide +kernel, rfl, by decide⟩
theorem dX11_init_69 : Daload prog_1_method_1_code 69 0 70 := Or.inl ⟨0, by decide +kernel, rfl, rfl⟩
theorem dX11_init_70 : D3 prog_1_method_1_code 70 (.getfield 17) 73 := ⟨by decide +kernel, rfl⟩
theorem dX11_init_73 : Diload prog_1_method_1_code 73 1 74 := Or.inl ⟨1, by decide +kernel, rfl, rfl⟩
theorem dX11_init_74 : D3 prog_1_method_1_code 74 (.new 15) 77 := ⟨by decide +kernel, rfl⟩
theorem dX11_init_77 : D1 prog_1_method_1_code 77 (.dup) 78 := ⟨by decide +kernel, rfl⟩
theorem dX11_init_78 : Diload prog_1_method_1_code 78 1 79 := Or.inl ⟨1, by decide +kernel, rfl, rfl⟩
theorem dX11_init_79 : D3 prog_1_method_1_code 79 (.invokespecial 37) 82 := ⟨by decide +kernel, rfl⟩
theorem dX11_init_82 : D1 prog_1_method_1_code 82 (.aastore) 83 := ⟨by decide +kernel, rfl⟩
theorem dX11_init_83 : Diinc prog_1_method_1_code 83 1 1 86 := ⟨1, by decide +kernel, rfl, rfl⟩
theorem dX11_init_86 : Dj prog_1_method_1_code 86 (.goto (-22)) (-22) 89 64 := ⟨by decide +kernel, rfl, by decide⟩
theorem dX11_init_89 : Dconst prog_1_method_1_code 89 0 90 := Or.inl ⟨0, by decide +kernel, rfl, rfl⟩
theorem dX11_init_90 : Distore prog_1_method_1_code 90 1 91 := Or.inl ⟨1, by decide +kernel, rfl, rfl⟩
theorem dX11_init_91 : Diload prog_1_method_1_code 91 1 92 := Or.inl ⟨1, by decide +kernel, rfl, rfl⟩
theorem dX11_init_92 : Dconst prog_1_method_1_code 92 8 94 := Or.inr (Or.inl ⟨8, by decide +kernel, rfl, rfl⟩)
theorem dX11_init_94 : Dj prog_1_method_1_code 94 (.if_icmp .ge 91) 91 97 185 := ⟨by decide +kernel, rfl, by decide⟩
theorem dX11_init_97 : Daload prog_1_method_1_code 97 0 98 := Or.inl ⟨0, by decide +kernel, rfl, rfl⟩
theorem dX11_init_98 : D3 prog_1_method_1_code 98 (.getfield 11) 101 := ⟨by decide +kernel, rfl⟩
theorem dX11_init_101 : Diload prog_1_method_1_code 101 1 102 := Or.inl ⟨1, by decide +kernel, rfl, rfl⟩
theorem dX11_init_102 : D3 prog_1_method_1_code 102 (.new 9) 105 := ⟨by decide +kernel, rfl⟩
theorem dX11_init_105 : D1 prog_1_method_1_code 105 (.dup) 106 := ⟨by decide +kernel, rfl⟩
theorem dX11_init_106 : Diload prog_1_method_1_code 106 1 107 := Or.inl ⟨1, by decide +kernel, rfl, rfl⟩
theorem dX11_init_107 : D3 prog_1_method_1_code 107 (.invokespecial 40) 110 := ⟨by decide +kernel, rfl⟩
theorem dX11_init_110 : D1 prog_1_method_1_code 110 (.aastore) 111 := ⟨by decide +kernel, rfl⟩
theorem dX11_init_111 : Dconst prog_1_method_1_code 111 0 112 := Or.inl ⟨0, by decide +kernel, rfl, rfl⟩
theorem dX11_init_112 : Distore prog_1_method_1_code 112 2 113 := Or.inl ⟨2, by decide +kernel, rfl, rfl⟩
theorem dX11_init_113 : Diload prog_1_method_1_code 113 2 114 := Or.inl ⟨2, by decide +kernel, rfl, rfl⟩
theorem dX11_init_114 : Dconst prog_1_method_1_code 114 4 115 := Or.inl ⟨4, by decide +kernel, rfl, rfl⟩
theorem dX11_init_115 : Dj prog_1_method_1_code 115 (.if_icmp .ge 41) 41 118 156 := ⟨by decide +kernel, rfl, by decide⟩
theorem dX11_init_118 : Diload prog_1_method_1_code 118 1 119 := Or.inl ⟨1, by decide +kernel, rfl, rfl⟩
theorem dX11_init_119 : Dconst prog_1_method_1_code 119 4 120 := Or.inl ⟨4, by decide +kernel, rfl, rfl⟩
theorem dX11_init_120 : D1 prog_1_method_1_code 120 (.imul) 121 := ⟨by decide +kernel, rfl⟩
theorem dX11_init_121 : Diload prog_1_method_1_code 121 2 122 := Or.inl ⟨2, by decide +kernel, rfl, rfl⟩
theorem dX11_init_122 : D1 prog_1_method_1_code 122 (.iadd) 123 := ⟨by decide +kernel, rfl⟩
theorem dX11_init_123 : Distore prog_1_method_1_code 123 3 124 := Or.inl ⟨3, by decide +kernel, rfl, rfl⟩
theorem dX11_init_124 : Daload prog_1_method_1_code 124 0 125 := Or.inl ⟨0, by decide +kernel, rfl, rfl⟩
theorem dX11_init_125 : D3 prog_1_method_1_code 125 (.getfield 23) 128 := ⟨by decide +kernel, rfl⟩
theorem dX11_init_128 : Diload prog_1_method_1_code 128 3 129 := Or.inl ⟨3, by decide +kernel, rfl, rfl⟩
theorem dX11_init_129 : D3 prog_1_method_1_code 129 (.new 21) 132 := ⟨by decide +kernel, rfl⟩
theorem dX11_init_132 : D1 prog_1_method_1_code 132 (.dup) 133 := ⟨by decide +kernel, rfl⟩
theorem dX11_init_133 : Diload prog_1_method_1_code 133 3 134 := Or.inl ⟨3, by decide +kernel, rfl, rfl⟩
theorem dX11_init_134 : Daload prog_1_method_1_code 134 0 135 := Or.inl ⟨0, by decide +kernel, rfl, rfl⟩
theorem dX11_init_135 : D3 prog_1_method_1_code 135 (.getfield 11) 138 := ⟨by decide +kernel, rfl⟩
theorem dX11_init_138 : Diload prog_1_method_1_code 138 1 139 := Or.inl ⟨1, by decide +kernel, rfl, rfl⟩
theorem dX11_init_139 : D1 prog_1_method_1_code 139 (.aaload) 140 := ⟨by decide +kernel, rfl⟩
theorem dX11_init_140 : Daload prog_1_method_1_code 140 0 141 := Or.inl ⟨0, by decide +kernel, rfl, rfl⟩
theorem dX11_init_141 : D3 prog_1_method_1_code 141 (.getfield 17) 144 := ⟨by decide +kernel, rfl⟩
theorem dX11_init_144 : Diload prog_1_method_1_code 144 2 145 := Or.inl ⟨2, by decide +kernel, rfl, rfl⟩
theorem dX11_init_145 : D1 prog_1_method_1_code 145 (.aaload) 146 := ⟨by decide +kernel, rfl⟩
theorem dX11_init_146 : D3 prog_1_method_1_code 146 (.invokespecial 41) 149 := ⟨by decide +kernel, rfl⟩
theorem dX11_init_149 : D1 prog_1_method_1_code 149 (.aastore) 150 := ⟨by decide +kernel, rfl⟩
theorem dX11_init_150 : Diinc prog_1_method_1_code 150 2 1 153 := ⟨1, by decide +kernel, rfl, rfl⟩
theorem dX11_init_153 : Dj prog_1_method_1_code 153 (.goto (-40)) (-40) 156 113 := ⟨by decide +kernel, rfl, by decide⟩
theorem dX11_init_156 : Dconst prog_1_method_1_code 156 0 157 := Or.inl ⟨0, by decide +kernel, rfl, rfl⟩
theorem dX11_init_157 : Distore prog_1_method_1_code 157 2 158 := Or.inl ⟨2, by decide +kernel, rfl, rfl⟩
theorem dX11_init_158 : Diload prog_1_method_1_code 158 2 159 := Or.inl ⟨2, by decide +kernel, rfl, rfl⟩
theorem dX11_init_159 : Dconst prog_1_method_1_code 159 8 161 := Or.inr (Or.inl ⟨8, by decide +kernel, rfl, rfl⟩)
theorem dX11_init_161 : Dj prog_1_method_1_code 161 (.if_icmp .ge 18) 18 164 179 := ⟨by decide +kernel, rfl, by decide⟩
theorem dX11_init_164 : Daload prog_1_method_1_code 164 0 165 := Or.inl ⟨0, by decide +kernel, rfl, rfl⟩
theorem dX11_init_165 : D3 prog_1_method_1_code 165 (.getfield 34) 168 := ⟨by decide +kernel, rfl⟩
theorem dX11_init_168 : Diload prog_1_method_1_code 168 1 169 := Or.inl ⟨1, by decide +kernel, rfl, rfl⟩
theorem dX11_init_169 : D1 prog_1_method_1_code 169 (.aaload) 170 := ⟨by decide +kernel, rfl⟩
theorem dX11_init_170 : Diload prog_1_method_1_code 170 2 171 := Or.inl ⟨2, by decide +kernel, rfl, rfl⟩
theorem dX11_init_171 : Dconst prog_1_method_1_code 171 2 172 := Or.inl ⟨2, by decide +kernel, rfl, rfl⟩
theorem dX11_init_172 : D1 prog_1_method_1_code 172 (.iastore) 173 := ⟨by decide +kernel, rfl⟩
theorem dX11_init_173 : Diinc prog_1_method_1_code 173 2 1 176 := ⟨1, by decide +kernel, rfl, rfl⟩
theorem dX11_init_176 : Dj prog_1_method_1_code 176 (.goto (-18)) (-18) 179 158 := ⟨by decide +kernel, rfl, by decide⟩
theorem dX11_init_179 : Diinc prog_1_method_1_code 179 1 1 182 := ⟨1, by decide +kernel, rfl, rfl⟩
theorem dX11_init_182 : Dj prog_1_method_1_code 182 (.goto (-91)) (-91) 185 91 := ⟨by decide +kernel, rfl, by decide⟩
theorem dX11_init_185 : Daload prog_1_method_1_code 185 0 186 := Or.inl ⟨0, by decide +kernel, rfl, rfl⟩
theorem dX11_init_186 : D3 prog_1_method_1_code 186 (.new 44) 189 := ⟨by decide +kernel, rfl⟩
theorem dX11_init_189 : D1 prog_1_method_1_code 189 (.dup) 190 := ⟨by decide +kernel, rfl⟩
theorem dX11_init_190 : D3 prog_1_method_1_code 190 (.invokespecial 46) 193 := ⟨by decide +kernel, rfl⟩
theorem dX11_init_193 : D3 prog_1_method_1_code 193 (.putfield 47) 196 := ⟨by decide +kernel, rfl⟩
theorem dX11_init_196 : Daload prog_1_method_1_code 196 0 197 := Or.inl ⟨0, by decide +kernel, rfl, rfl⟩
theorem dX11_init_197 : D3 prog_1_method_1_code 197 (.new 51) 200 := ⟨by decide +kernel, rfl⟩
theorem dX11_init_200 : D1 prog_1_method_1_code 200 (.dup) 201 := ⟨by decide +kernel, rfl⟩
theorem dX11_init_201 : D3 prog_1_method_1_code 201 (.invokespecial 53) 204 := ⟨by decide +kernel, rfl⟩
theorem dX11_init_204 : D3 prog_1_method_1_code 204 (.putfield 54) 207 := ⟨by decide +kernel, rfl⟩
theorem dX11_init_207 : Daload prog_1_method_1_code 207 0 208 := Or.inl ⟨0, by decide +kernel, rfl, rfl⟩
theorem dX11_init_208 : D3 prog_1_method_1_code 208 (.new 58) 211 := ⟨by decide +kernel, rfl⟩
theorem dX11_init_211 : D1 prog_1_method_1_code 211 (.dup) 212 := ⟨by decide +kernel, rfl⟩
theorem dX11_init_212 : Daload prog_1_method_1_code 212 0 213 := Or.inl ⟨0, by decide +kernel, rfl, rfl⟩
theorem dX11_init_213 : D3 prog_1_method_1_code 213 (.getfield 54) 216 := ⟨by decide +kernel, rfl⟩
theorem dX11_init_216 : D3 prog_1_method_1_code 216 (.invokespecial 60) 219 := ⟨by decide +kernel, rfl⟩
theorem dX11_init_219 : D3 prog_1_method_1_code 219 (.putfield 63) 222 := ⟨by decide +kernel, rfl⟩
theorem dX11_init_222 : Daload prog_1_method_1_code 222 0 223 := Or.inl ⟨0, by decide +kernel, rfl, rfl⟩
theorem dX11_init_223 : Dconst prog_1_method_1_code 223 10 225 := Or.inr (Or.inl ⟨10, by decide +kernel, rfl, rfl⟩)
theorem dX11_init_225 : D3 prog_1_method_1_code 225 (.anewarray 67) 228 := ⟨by decide +kernel, rfl⟩
theorem dX11_init_228 : D3 prog_1_method_1_code 228 (.putfield 69) 231 := ⟨by decide +kernel, rfl⟩
theorem dX11_init_231 : Daload prog_1_method_1_code 231 0 232 := Or.inl ⟨0, by decide +kernel, rfl, rfl⟩
theorem dX11_init_232 : D3 prog_1_method_1_code 232 (.new 67) 235 := ⟨by decide +kernel, rfl⟩
theorem dX11_init_235 : D1 prog_1_method_1_code 235 (.dup) 236 := ⟨by decide +kernel, rfl⟩
theorem dX11_init_236 : D3 prog_1_method_1_code 236 (.invokespecial 73) 239 := ⟨by decide +kernel, rfl⟩
theorem dX11_init_239 : D3 prog_1_method_1_code 239 (.putfield 74) 242 := ⟨by decide +kernel, rfl⟩
theorem dX11_init_242 : Daload prog_1_method_1_code 242 0 243 := Or.inl ⟨0, by decide +kernel, rfl, rfl⟩
theorem dX11_init_243 : D3 prog_1_method_1_code 243 (.new 78) 246 := ⟨by decide +kernel, rfl⟩
theorem dX11_init_246 : D1 prog_1_method_1_code 246 (.dup) 247 := ⟨by decide +kernel, rfl⟩
theorem dX11_init_247 : D3 prog_1_method_1_code 247 (.invokespecial 80) 250 := ⟨by decide +kernel, rfl⟩
theorem dX11_init_250 : D3 prog_1_method_1_code 250 (.putfield 81) 253 := ⟨by decide +kernel, rfl⟩
theorem dX11_init_253 : D1 prog_1_method_1_code 253 (.return_) 254 := ⟨by decide +kernel, rfl⟩
theorem dX1_init_0 : Daload prog_3_method_1_code 0 0 1 := Or.inl ⟨0, by decide +kernel, rfl, rfl⟩
theorem dX1_init_1 : D3 prog_3_method_1_code 1 (.invokespecial 3) 4 := ⟨by decide +kernel, rfl⟩
theorem dX1_init_4 : Daload prog_3_method_1_code 4 0 5 := Or.inl ⟨0, by decide +kernel, rfl, rfl⟩
theorem dX1_init_5 : Diload prog_3_method_1_code 5 1 6 := Or.inl ⟨1, by decide +kernel, rfl, rfl⟩
theorem dX1_init_6 : D3 prog_3_method_1_code 6 (.putfield 9) 9 := ⟨by decide +kernel, rfl⟩
theorem dX1_init_9 : Daload prog_3_method_1_code 9 0 10 := Or.inl ⟨0, by decide +kernel, rfl, rfl⟩
theorem dX1_init_10 : Dconst prog_3_method_1_code 10 10 12 := Or.inr (Or.inl ⟨10, by decide +kernel, rfl, rfl⟩)
theorem dX1_init_12 : D2 prog_3_method_1_code 12 (.newarray .int) 14 := ⟨by decide +kernel, rfl⟩
theorem dX1_init_14 : D3 prog_3_method_1_code 14 (.putfield 15) 17 := ⟨by decide +kernel, rfl⟩
theorem dX1_init_17 : Daload prog_3_method_1_code 17 0 18 := Or.inl ⟨0, by decide +kernel, rfl, rfl⟩
theorem dX1_init_18 : Dconst prog_3_method_1_code 18 50 20 := Or.inr (Or.inl ⟨50, by decide +kernel, rfl, rfl⟩)
theorem dX1_init_20 : D3 prog_3_method_1_code 20 (.putfield 19) 23 := ⟨by decide +kernel, rfl⟩
theorem dX1_init_23 : D1 prog_3_method_1_code 23 (.return_) 24 := ⟨by decide +kernel, rfl⟩
theorem dX5_init_0 : Daload prog_7_method_1_code 0 0 1 := Or.inl ⟨0, by decide +kernel, rfl, rfl⟩
theorem dX5_init_1 : D3 prog_7_method_1_code 1 (.invokespecial 3) 4 := ⟨by decide +kernel, rfl⟩
theorem dX5_init_4 : Daload prog_7_method_1_code 4 0 5 := Or.inl ⟨0, by decide +kernel, rfl, rfl⟩
theorem dX5_init_5 : Diload prog_7_method_1_code 5 1 6 := Or.inl ⟨1, by decide +kernel, rfl, rfl⟩
theorem dX5_init_6 : D3 prog_7_method_1_code 6 (.putfield 9) 9 := ⟨by decide +kernel, rfl⟩
theorem dX5_init_9 : D1 prog_7_method_1_code 9 (.return_) 10 := ⟨by decide +kernel, rfl⟩
theorem dX7_init_0 : Daload prog_9_method_1_code 0 0 1 := Or.inl ⟨0, by decide +kernel, rfl, rfl⟩
theorem dX7_init_1 : D3 prog_9_method_1_code 1 (.invokespecial 3) 4 := ⟨by decide +kernel, rfl⟩
theorem dX7_init_4 : Daload prog_9_method_1_code 4 0 5 := Or.inl ⟨0, by decide +kernel, rfl, rfl⟩
theorem dX7_init_5 : Diload prog_9_method_1_code 5 1 6 := Or.inl ⟨1, by decide +kernel, rfl, rfl⟩
theorem dX7_init_6 : D3 prog_9_method_1_code 6 (.putfield 9) 9 := ⟨by decide +kernel, rfl⟩
theorem dX7_init_9 : Daload prog_9_method_1_code 9 0 10 := Or.inl ⟨0, by decide +kernel, rfl, rfl⟩
theorem dX7_init_10 : Daload prog_9_method_1_code 10 2 11 := Or.inl ⟨2, by decide +kernel, rfl, rfl⟩
theorem dX7_init_11 : D3 prog_9_method_1_code 11 (.putfield 15) 14 := ⟨by decide +kernel, rfl⟩
theorem dX7_init_14 : Daload prog_9_method_1_code 14 0 15 := Or.inl ⟨0, by decide +kernel, rfl, rfl⟩
theorem dX7_init_15 : Daload prog_9_method_1_code 15 3 16 := Or.inl ⟨3, by decide +kernel, rfl, rfl⟩
theorem dX7_init_16 : D3 prog_9_method_1_code 16 (.putfield 19) 19 := ⟨by decide +kernel, rfl⟩
theorem dX7_init_19 : Daload prog_9_method_1_code 19 0 20 := Or.inl ⟨0, by decide +kernel, rfl, rfl⟩
theorem dX7_init_20 : D3 prog_9_method_1_code 20 (.new 23) 23 := ⟨by decide +kernel, rfl⟩
theorem dX7_init_23 : D1 prog_9_method_1_code 23 (.dup) 24 := ⟨by decide +kernel, rfl⟩
theorem dX7_init_24 : D3 prog_9_method_1_code 24 (.invokespecial 25) 27 := ⟨by decide +kernel, rfl⟩
theorem dX7_init_27 : D3 prog_9_method_1_code 27 (.putfield 26) 30 := ⟨by decide +kernel, rfl⟩
theorem dX7_init_30 : Daload prog_9_method_1_code 30 0 31 := Or.inl ⟨0, by decide +kernel, rfl, rfl⟩
theorem dX7_init_31 : D3 prog_9_method_1_code 31 (.new 23) 34 := ⟨by decide +kernel, rfl⟩
theorem dX7_init_34 : D1 prog_9_method_1_code 34 (.dup) 35 := ⟨by decide +kernel, rfl⟩
theorem dX7_init_35 : D3 prog_9_method_1_code 35 (.invokespecial 25) 38 := ⟨by decide +kernel, rfl⟩
theorem dX7_init_38 : D3 prog_9_method_1_code 38 (.putfield 30) 41 := ⟨by decide +kernel, rfl⟩
theorem dX7_init_41 : D1 prog_9_method_1_code 41 (.return_) 42 := ⟨by decide +kernel, rfl⟩
theorem dX9_init_0 : Daload prog_11_method_1_code 0 0 1 := Or.inl ⟨0, by decide +kernel, rfl, rfl⟩
theorem dX9_init_1 : D3 prog_11_method_1_code 1 (.invokespecial 1) 4 := ⟨by decide +kernel, rfl⟩
theorem dX9_init_4 : D1 prog_11_method_1_code 4 (.return_) 5 := ⟨by decide +kernel, rfl⟩
theorem dX4_init_0 : Daload prog_6_method_1_code 0 0 1 := Or.inl ⟨0, by decide +kernel, rfl, rfl⟩
theorem dX4_init_1 : D3 prog_6_method_1_code 1 (.invokespecial 3) 4 := ⟨by decide +kernel, rfl⟩
theorem dX4_init_4 : Daload prog_6_method_1_code 4 0 5 := Or.inl ⟨0, by decide +kernel, rfl, rfl⟩
theorem dX4_init_5 : Dconst prog_6_method_1_code 5 300 8 := Or.inr (Or.inr ⟨300, by decide +kernel, rfl, rfl⟩)
theorem dX4_init_8 : D3 prog_6_method_1_code 8 (.anewarray 9) 11 := ⟨by decide +kernel, rfl⟩
theorem dX4_init_11 : D3 prog_6_method_1_code 11 (.putfield 11) 14 := ⟨by decide +kernel, rfl⟩
theorem dX4_init_14 : D1 prog_6_method_1_code 14 (.return_) 15 := ⟨by decide +kernel, rfl⟩
theorem dX10_init_0 : Daload prog_12_method_1_code 0 0 1 := Or.inl ⟨0, by decide +kernel, rfl, rfl⟩
theorem dX10_init_1 : D3 prog_12_method_1_code 1 (.invokespecial 3) 4 := ⟨by decide +kernel, rfl⟩
theorem dX10_init_4 : Daload prog_12_method_1_code 4 0 5 := Or.inl ⟨0, by decide +kernel, rfl, rfl⟩
theorem dX10_init_5 : Dconst prog_12_method_1_code 5 200 8 := Or.inr (Or.inr ⟨200, by decide +kernel, rfl, rfl⟩)
theorem dX10_init_8 : D2 prog_12_method_1_code 8 (.newarray .int) 10 := ⟨by decide +kernel, rfl⟩
theorem dX10_init_10 : D3 prog_12_method_1_code 10 (.putfield 9) 13 := ⟨by decide +kernel, rfl⟩
theorem dX10_init_13 : D1 prog_12_method_1_code 13 (.return_) 14 := ⟨by decide +kernel, rfl⟩
theorem dX6_init_0 : Daload prog_8_method_1_code 0 0 1 := Or.inl ⟨0, by decide +kernel, rfl, rfl⟩
theorem dX6_init_1 : D3 prog_8_method_1_code 1 (.invokespecial 3) 4 := ⟨by decide +kernel, rfl⟩
theorem dX6_init_4 : Daload prog_8_method_1_code 4 0 5 := Or.inl ⟨0, by decide +kernel, rfl, rfl⟩
theorem dX6_init_5 : Daload prog_8_method_1_code 5 1 6 := Or.inl ⟨1, by decide +kernel, rfl, rfl⟩
theorem dX6_init_6 : D3 prog_8_method_1_code 6 (.putfield 9) 9 := ⟨by decide +kernel, rfl⟩
theorem dX6_init_9 : D1 prog_8_method_1_code 9 (.return_) 10 := ⟨by decide +kernel, rfl⟩
theorem dX0_init_0 : Daload prog_2_method_1_code 0 0 1 := Or.inl ⟨0, by decide +kernel, rfl, rfl⟩
theorem dX0_init_1 : D3 prog_2_method_1_code 1 (.invokespecial 3) 4 := ⟨by decide +kernel, rfl⟩
theorem dX0_init_4 : Daload prog_2_method_1_code 4 0 5 := Or.inl ⟨0, by decide +kernel, rfl, rfl⟩
theorem dX0_init_5 : Dconst prog_2_method_1_code 5 34 7 := Or.inr (Or.inl ⟨34, by decide +kernel, rfl, rfl⟩)
theorem dX0_init_7 : D2 prog_2_method_1_code 7 (.newarray .int) 9 := ⟨by decide +kernel, rfl⟩
theorem dX0_init_9 : D3 prog_2_method_1_code 9 (.putfield 9) 12 := ⟨by decide +kernel, rfl⟩
theorem dX0_init_12 : Daload prog_2_method_1_code 12 0 13 := Or.inl ⟨0, by decide +kernel, rfl, rfl⟩
theorem dX0_init_13 : Dconst prog_2_method_1_code 13 34 15 := Or.inr (Or.inl ⟨34, by decide +kernel, rfl, rfl⟩)
theorem dX0_init_15 : D2 prog_2_method_1_code 15 (.newarray .int) 17 := ⟨by decide +kernel, rfl⟩
theorem dX0_init_17 : D3 prog_2_method_1_code 17 (.putfield 15) 20 := ⟨by decide +kernel, rfl⟩
theorem dX0_init_20 : Daload prog_2_method_1_code 20 0 21 := Or.inl ⟨0, by decide +kernel, rfl, rfl⟩
theorem dX0_init_21 : Dconst prog_2_method_1_code 21 34 23 := Or.inr (Or.inl ⟨34, by decide +kernel, rfl, rfl⟩)
theorem dX0_init_23 : D2 prog_2_method_1_code 23 (.newarray .int) 25 := ⟨by decide +kernel, rfl⟩
theorem dX0_init_25 : D3 prog_2_method_1_code 25 (.putfield 18) 28 := ⟨by decide +kernel, rfl⟩
theorem dX0_init_28 : Daload prog_2_method_1_code 28 0 29 := Or.inl ⟨0, by decide +kernel, rfl, rfl⟩
theorem dX0_init_29 : Dconst prog_2_method_1_code 29 34 31 := Or.inr (Or.inl ⟨34, by decide +kernel, rfl, rfl⟩)
theorem dX0_init_31 : D2 prog_2_method_1_code 31 (.newarray .int) 33 := ⟨by decide +kernel, rfl⟩
theorem dX0_init_33 : D3 prog_2_method_1_code 33 (.putfield 21) 36 := ⟨by decide +kernel, rfl⟩
theorem dX0_init_36 : D1 prog_2_method_1_code 36 (.return_) 37 := ⟨by decide +kernel, rfl⟩
theorem dX2_init_0 : Daload prog_4_method_1_code 0 0 1 := Or.inl ⟨0, by decide +kernel, rfl, rfl⟩
theorem dX2_init_1 : D3 prog_4_method_1_code 1 (.invokespecial 3) 4 := ⟨by decide +kernel, rfl⟩
theorem dX2_init_4 : Daload prog_4_method_1_code 4 0 5 := Or.inl ⟨0, by decide +kernel, rfl, rfl⟩
theorem dX2_init_5 : Dconst prog_4_method_1_code 5 40 7 := Or.inr (Or.inl ⟨40, by decide +kernel, rfl, rfl⟩)
theorem dX2_init_7 : D2 prog_4_method_1_code 7 (.newarray .int) 9 := ⟨by decide +kernel, rfl⟩
theorem dX2_init_9 : D3 prog_4_method_1_code 9 (.putfield 9) 12 := ⟨by decide +kernel, rfl⟩
theorem dX2_init_12 : Daload prog_4_method_1_code 12 0 13 := Or.inl ⟨0, by decide +kernel, rfl, rfl⟩
theorem dX2_init_13 : Dconst prog_4_method_1_code 13 40 15 := Or.inr (Or.inl ⟨40, by decide +kernel, rfl, rfl⟩)
theorem dX2_init_15 : D2 prog_4_method_1_code 15 (.newarray .int) 17 := ⟨by decide +kernel, rfl⟩
theorem dX2_init_17 : D3 prog_4_method_1_code 17 (.putfield 15) 20 := ⟨by decide +kernel, rfl⟩
theorem dX2_init_20 : D1 prog_4_method_1_code 20 (.return_) 21 := ⟨by decide +kernel, rfl⟩
theorem dX11_men_0 : Daload prog_1_method_2_code 0 0 1 := Or.inl ⟨0, by decide +kernel, rfl, rfl⟩
theorem dX11_men_1 : Diload prog_1_method_2_code 1 1 2 := Or.inl ⟨1, by decide +kernel, rfl, rfl⟩
theorem dX11_men_2 : D3 prog_1_method_2_code 2 (.invokevirtual 85) 5 := ⟨by decide +kernel, rfl⟩
theorem dX11_men_5 : Dastore prog_1_method_2_code 5 3 6 := Or.inl ⟨3, by decide +kernel, rfl, rfl⟩
theorem dX11_men_6 : Daload prog_1_method_2_code 6 3 7 := Or.inl ⟨3, by decide +kernel, rfl, rfl⟩
theorem dX11_men_7 : Dj prog_1_method_2_code 7 (.ifnull 14) 14 10 21 := ⟨by decide +kernel, rfl, by decide⟩
theorem dX11_men_10 : Diload prog_1_method_2_code 10 2 11 := Or.inl ⟨2, by decide +kernel, rfl, rfl⟩
theorem dX11_men_11 : Dconst prog_1_method_2_code 11 0 12 := Or.inl ⟨0, by decide +kernel, rfl, rfl⟩
theorem dX11_men_12 : Dconst prog_1_method_2_code 12 1000 15 := Or.inr (Or.inr ⟨1000, by decide +kernel, rfl, rfl⟩)
theorem dX11_men_15 : D3 prog_1_method_2_code 15 (.invokestatic 89) 18 := ⟨by decide +kernel, rfl⟩
theorem dX11_men_18 : Dj prog_1_method_2_code 18 (.ifCond .ne 5) 5 21 23 := ⟨by decide +kernel, rfl, by decide⟩
theorem dX11_men_21 : Dconst prog_1_method_2_code 21 0 22 := Or.inl ⟨0, by decide +kernel, rfl, rfl⟩
theorem dX11_men_22 : D1 prog_1_method_2_code 22 (.ireturn) 23 := ⟨by decide +kernel, rfl⟩
theorem dX11_men_23 : Daload prog_1_method_2_code 23 3 24 := Or.inl ⟨3, by decide +kernel, rfl, rfl⟩
theorem dX11_men_24 : Diload prog_1_method_2_code 24 2 25 := Or.inl ⟨2, by decide +kernel, rfl, rfl⟩
theorem dX11_men_25 : D3 prog_1_method_2_code 25 (.putfield 93) 28 := ⟨by decide +kernel, rfl⟩
theorem dX11_men_28 : Dconst prog_1_method_2_code 28 1 29 := Or.inl ⟨1, by decide +kernel, rfl, rfl⟩
theorem dX11_men_29 : D1 prog_1_method_2_code 29 (.ireturn) 30 := ⟨by decide +kernel, rfl⟩
theorem dX11_placeOf_0 : Diload prog_1_method_31_code 0 1 1 := Or.inl ⟨1, by decide +kernel, rfl, rfl⟩
theorem dX11_placeOf_1 : Dconst prog_1_method_31_code 1 0 2 := Or.inl ⟨0, by decide +kernel, rfl, rfl⟩
theorem dX11_placeOf_2 : Dconst prog_1_method_31_code 2 7 4 := Or.inr (Or.inl ⟨7, by decide +kernel, rfl, rfl⟩)
theorem dX11_placeOf_4 : D3 prog_1_method_31_code 4 (.invokestatic 89) 7 := ⟨by decide +kernel, rfl⟩
theorem dX11_placeOf_7 : Dj prog_1_method_31_code 7 (.ifCond .eq 12) 12 10 19 := ⟨by decide +kernel, rfl, by decide⟩
theorem dX11_placeOf_10 : Daload prog_1_method_31_code 10 0 11 := Or.inl ⟨0, by decide +kernel, rfl, rfl⟩
theorem dX11_placeOf_11 : D3 prog_1_method_31_code 11 (.getfield 11) 14 := ⟨by decide +kernel, rfl⟩
theorem dX11_placeOf_14 : Diload prog_1_method_31_code 14 1 15 := Or.inl ⟨1, by decide +kernel, rfl, rfl⟩
theorem dX11_placeOf_15 : D1 prog_1_method_31_code 15 (.aaload) 16 := ⟨by decide +kernel, rfl⟩
theorem dX11_placeOf_16 : Dj prog_1_method_31_code 16 (.goto 4) 4 19 20 := ⟨by decide +kernel, rfl, by decide⟩
theorem dX11_placeOf_19 : D1 prog_1_method_31_code 19 (.aconst_null) 20 := ⟨by decide +kernel, rfl⟩
theorem dX11_placeOf_20 : D1 prog_1_method_31_code 20 (.areturn) 21 := ⟨by decide +kernel, rfl⟩
theorem dX11_within_0 : Diload prog_1_method_28_code 0 1 1 := Or.inl ⟨1, by decide +kernel, rfl, rfl⟩
theorem dX11_within_1 : Diload prog_1_method_28_code 1 0 2 := Or.inl ⟨0, by decide +kernel, rfl, rfl⟩
theorem dX11_within_2 : Dj prog_1_method_28_code 2 (.if_icmp .gt 12) 12 5 14 := ⟨by decide +kernel, rfl, by decide⟩
theorem dX11_within_5 : Diload prog_1_method_28_code 5 0 6 := Or.inl ⟨0, by decide +kernel, rfl, rfl⟩
theorem dX11_within_6 : Diload prog_1_method_28_code 6 2 7 := Or.inl ⟨2, by decide +kernel, rfl, rfl⟩
theorem dX11_within_7 : Dj prog_1_method_28_code 7 (.if_icmp .gt 7) 7 10 14 := ⟨by decide +kernel, rfl, by decide⟩
theorem dX11_within_10 : Dconst prog_1_method_28_code 10 1 11 := Or.inl ⟨1, by decide +kernel, rfl, rfl⟩
theorem dX11_within_11 : Dj prog_1_method_28_code 11 (.goto 4) 4 14 15 := ⟨by decide +kernel, rfl, by decide⟩
theorem dX11_within_14 : Dconst prog_1_method_28_code 14 0 15 := Or.inl ⟨0, by decide +kernel, rfl, rfl⟩
theorem dX11_within_15 : D1 prog_1_method_28_code 15 (.ireturn) 16 := ⟨by decide +kernel, rfl⟩
theorem dX11_rations_0 : Daload prog_1_method_3_code 0 0 1 := Or.inl ⟨0, by decide +kernel, rfl, rfl⟩
theorem dX11_rations_1 : Diload prog_1_method_3_code 1 1 2 := Or.inl ⟨1, by decide +kernel, rfl, rfl⟩
theorem dX11_rations_2 : D3 prog_1_method_3_code 2 (.invokevirtual 97) 5 := ⟨by decide +kernel, rfl⟩
theorem dX11_rations_5 : Dastore prog_1_method_3_code 5 3 6 := Or.inl ⟨3, by decide +kernel, rfl, rfl⟩
theorem dX11_rations_6 : Daload prog_1_method_3_code 6 3 7 := Or.inl ⟨3, by decide +kernel, rfl, rfl⟩
theorem dX11_rations_7 : Dj prog_1_method_3_code 7 (.ifnull 14) 14 10 21 := ⟨by decide +kernel, rfl, by decide⟩
theorem dX11_rations_10 : Diload prog_1_method_3_code 10 2 11 := Or.inl ⟨2, by decide +kernel, rfl, rfl⟩
theorem dX11_rations_11 : Dconst prog_1_method_3_code 11 1 12 := Or.inl ⟨1, by decide +kernel, rfl, rfl⟩
theorem dX11_rations_12 : Dconst prog_1_method_3_code 12 500 15 := Or.inr (Or.inr ⟨500, by decide +kernel, rfl, rfl⟩)
theorem dX11_rations_15 : D3 prog_1_method_3_code 15 (.invokestatic 89) 18 := ⟨by decide +kernel, rfl⟩
theorem dX11_rations_18 : Dj prog_1_method_3_code 18 (.ifCond .ne 5) 5 21 23 := ⟨by decide +kernel, rfl, by decide⟩
theorem dX11_rations_21 : Dconst prog_1_method_3_code 21 0 22 := Or.inl ⟨0, by decide +kernel, rfl, rfl⟩
theorem dX11_rations_22 : D1 prog_1_method_3_code 22 (.ireturn) 23 := ⟨by decide +kernel, rfl⟩
theorem dX11_rations_23 : Daload prog_1_method_3_code 23 3 24 := Or.inl ⟨3, by decide +kernel, rfl, rfl⟩
theorem dX11_rations_24 : Diload prog_1_method_3_code 24 2 25 := Or.inl ⟨2, by decide +kernel, rfl, rfl⟩
theorem dX11_rations_25 : D3 prog_1_method_3_code 25 (.putfield 101) 28 := ⟨by decide +kernel, rfl⟩
theorem dX11_rations_28 : Dconst prog_1_method_3_code 28 1 29 := Or.inl ⟨1, by decide +kernel, rfl, rfl⟩
theorem dX11_rations_29 : D1 prog_1_method_3_code 29 (.ireturn) 30 := ⟨by decide +kernel, rfl⟩
theorem dX11_kindOf_0 : Diload prog_1_method_32_code 0 1 1 := Or.inl ⟨1, by decide +kernel, rfl, rfl⟩
theorem dX11_kindOf_1 : Dconst prog_1_method_32_code 1 0 2 := Or.inl ⟨0, by decide +kernel, rfl, rfl⟩
theorem dX11_kindOf_2 : Dconst prog_1_method_32_code 2 3 3 := Or.inl ⟨3, by decide +kernel, rfl, rfl⟩
theorem dX11_kindOf_3 : D3 prog_1_method_32_code 3 (.invokestatic 89) 6 := ⟨by decide +kernel, rfl⟩
theorem dX11_kindOf_6 : Dj prog_1_method_32_code 6 (.ifCond .eq 12) 12 9 18 := ⟨by decide +kernel, rfl, by decide⟩
theorem dX11_kindOf_9 : Daload prog_1_method_32_code 9 0 10 := Or.inl ⟨0, by decide +kernel, rfl, rfl⟩
theorem dX11_kindOf_10 : D3 prog_1_method_32_code 10 (.getfield 17) 13 := ⟨by decide +kernel, rfl⟩
theorem dX11_kindOf_13 : Diload prog_1_method_32_code 13 1 14 := Or.inl ⟨1, by decide +kernel, rfl, rfl⟩
theorem dX11_kindOf_14 : D1 prog_1_method_32_code 14 (.aaload) 15 := ⟨by decide +kernel, rfl⟩
theorem dX11_kindOf_15 : Dj prog_1_method_32_code 15 (.goto 4) 4 18 19 := ⟨by decide +kernel, rfl, by decide⟩
theorem dX11_kindOf_18 : D1 prog_1_method_32_code 18 (.aconst_null) 19 := ⟨by decide +kernel, rfl⟩
theorem dX11_kindOf_19 : D1 prog_1_method_32_code 19 (.areturn) 20 := ⟨by decide +kernel, rfl⟩
theorem dX11_spoils_0 : Daload prog_1_method_4_code 0 0 1 := Or.inl ⟨0, by decide +kernel, rfl, rfl⟩
theorem dX11_spoils_1 : Diload prog_1_method_4_code 1 1 2 := Or.inl ⟨1, by decide +kernel, rfl, rfl⟩
theorem dX11_spoils_2 : D3 prog_1_method_4_code 2 (.invokevirtual 97) 5 := ⟨by decide +kernel, rfl⟩
theorem dX11_spoils_5 : Dastore prog_1_method_4_code 5 4 7 := Or.inr ⟨by decide +kernel, rfl⟩
theorem dX11_spoils_7 : Daload prog_1_method_4_code 7 4 9 := Or.inr ⟨by decide +kernel, rfl⟩
theorem dX11_spoils_9 : Dj prog_1_method_4_code 9 (.ifnull 24) 24 12 33 := ⟨by decide +kernel, rfl, by decide⟩
theorem dX11_spoils_12 : Diload prog_1_method_4_code 12 2 13 := Or.inl ⟨2, by decide +kernel, rfl, rfl⟩
theorem dX11_spoils_13 : Dconst prog_1_method_4_code 13 0 14 := Or.inl ⟨0, by decide +kernel, rfl, rfl⟩
theorem dX11_spoils_14 : Dconst prog_1_method_4_code 14 9 16 := Or.inr (Or.inl ⟨9, by decide +kernel, rfl, rfl⟩)
theorem dX11_spoils_16 : D3 prog_1_method_4_code 16 (.invokestatic 89) 19 := ⟨by decide +kernel, rfl⟩
theorem dX11_spoils_19 : Dj prog_1_method_4_code 19 (.ifCond .eq 14) 14 22 33 := ⟨by decide +kernel, rfl, by decide⟩
theorem dX11_spoils_22 : Diload prog_1_method_4_code 22 3 23 := Or.inl ⟨3, by decide +kernel, rfl, rfl⟩
theorem dX11_spoils_23 : Dconst prog_1_method_4_code 23 0 24 := Or.inl ⟨0, by decide +kernel, rfl, rfl⟩
theorem dX11_spoils_24 : Dconst prog_1_method_4_code 24 1000 27 := Or.inr (Or.inr ⟨1000, by decide +kernel, rfl, rfl⟩)
theorem dX11_spoils_27 : D3 prog_1_method_4_code 27 (.invokestatic 89) 30 := ⟨by decide +kernel, rfl⟩
theorem dX11_spoils_30 : Dj prog_1_method_4_code 30 (.ifCond .ne 5) 5 33 35 := ⟨by decide +kernel, rfl, by decide⟩
theorem dX11_spoils_33 : Dconst prog_1_method_4_code 33 0 34 := Or.inl ⟨0, by decide +kernel, rfl, rfl⟩
theorem dX11_spoils_34 : D1 prog_1_method_4_code 34 (.ireturn) 35 := ⟨by decide +kernel, rfl⟩
theorem dX11_spoils_35 : Daload prog_1_method_4_code 35 4 37 := Or.inr ⟨by decide +kernel, rfl⟩
theorem dX11_spoils_37 : D3 prog_1_method_4_code 37 (.getfield 104) 40 := ⟨by decide +kernel, rfl⟩
theorem dX11_spoils_40 : Diload prog_1_method_4_code 40 2 41 := Or.inl ⟨2, by decide +kernel, rfl, rfl⟩
theorem dX11_spoils_41 : Diload prog_1_method_4_code 41 3 42 := Or.inl ⟨3, by decide +kernel, rfl, rfl⟩
theorem dX11_spoils_42 : D1 prog_1_method_4_code 42 (.iastore) 43 := ⟨by decide +kernel, rfl⟩
theorem dX11_spoils_43 : Dconst prog_1_method_4_code 43 1 44 := Or.inl ⟨1, by decide +kernel, rfl, rfl⟩
theorem dX11_spoils_44 : D1 prog_1_method_4_code 44 (.ireturn) 45 := ⟨by decide +kernel, rfl⟩
theorem dX11_way_0 : Daload prog_1_method_5_code 0 0 1 := Or.inl ⟨0, by decide +kernel, rfl, rfl⟩
theorem dX11_way_1 : Diload prog_1_method_5_code 1 1 2 := Or.inl ⟨1, by decide +kernel, rfl, rfl⟩
theorem dX11_way_2 : D3 prog_1_method_5_code 2 (.invokevirtual 85) 5 := ⟨by decide +kernel, rfl⟩
theorem dX11_way_5 : Dj prog_1_method_5_code 5 (.ifnull 16) 16 8 21 := ⟨by decide +kernel, rfl, by decide⟩
theorem dX11_way_8 : Daload prog_1_method_5_code 8 0 9 := Or.inl ⟨0, by decide +kernel, rfl, rfl⟩
theorem dX11_way_9 : Diload prog_1_method_5_code 9 2 10 := Or.inl ⟨2, by decide +kernel, rfl, rfl⟩
theorem dX11_way_10 : D3 prog_1_method_5_code 10 (.invokevirtual 85) 13 := ⟨by decide +kernel, rfl⟩
theorem dX11_way_13 : Dj prog_1_method_5_code 13 (.ifnull 8) 8 16 21 := ⟨by decide +kernel, rfl, by decide⟩
theorem dX11_way_16 : Diload prog_1_method_5_code 16 1 17 := Or.inl ⟨1, by decide +kernel, rfl, rfl⟩
theorem dX11_way_17 : Diload prog_1_method_5_code 17 2 18 := Or.inl ⟨2, by decide +kernel, rfl, rfl⟩
theorem dX11_way_18 : Dj prog_1_method_5_code 18 (.if_icmp .ne 5) 5 21 23 := ⟨by decide +kernel, rfl, by decide⟩
theorem dX11_way_21 : Dconst prog_1_method_5_code 21 0 22 := Or.inl ⟨0, by decide +kernel, rfl, rfl⟩
theorem dX11_way_22 : D1 prog_1_method_5_code 22 (.ireturn) 23 := ⟨by decide +kernel, rfl⟩
theorem dX11_way_23 : Diload prog_1_method_5_code 23 3 24 := Or.inl ⟨3, by decide +kernel, rfl, rfl⟩
theorem dX11_way_24 : Dconst prog_1_method_5_code 24 0 25 := Or.inl ⟨0, by decide +kernel, rfl, rfl⟩
theorem dX11_way_25 : Dconst prog_1_method_5_code 25 30 27 := Or.inr (Or.inl ⟨30, by decide +kernel, rfl, rfl⟩)
theorem dX11_way_27 : D3 prog_1_method_5_code 27 (.invokestatic 89) 30 := ⟨by decide +kernel, rfl⟩
theorem dX11_way_30 : Dj prog_1_method_5_code 30 (.ifCond .ne 5) 5 33 35 := ⟨by decide +kernel, rfl, by decide⟩
theorem dX11_way_33 : Dconst prog_1_method_5_code 33 0 34 := Or.inl ⟨0, by decide +kernel, rfl, rfl⟩
theorem dX11_way_34 : D1 prog_1_method_5_code 34 (.ireturn) 35 := ⟨by decide +kernel, rfl⟩
theorem dX11_way_35 : Daload prog_1_method_5_code 35 0 36 := Or.inl ⟨0, by decide +kernel, rfl, rfl⟩
theorem dX11_way_36 : D3 prog_1_method_5_code 36 (.getfield 34) 39 := ⟨by decide +kernel, rfl⟩
theorem dX11_way_39 : Diload prog_1_method_5_code 39 1 40 := Or.inl ⟨1, by decide +kernel, rfl, rfl⟩
theorem dX11_way_40 : D1 prog_1_method_5_code 40 (.aaload) 41 := ⟨by decide +kernel, rfl⟩
theorem dX11_way_41 : Diload prog_1_method_5_code 41 2 42 := Or.inl ⟨2, by decide +kernel, rfl, rfl⟩
theorem dX11_way_42 : Diload prog_1_method_5_code 42 3 43 := Or.inl ⟨3, by decide +kernel, rfl, rfl⟩
theorem dX11_way_43 : D1 prog_1_method_5_code 43 (.iastore) 44 := ⟨by decide +kernel, rfl⟩
theorem dX11_way_44 : Daload prog_1_method_5_code 44 0 45 := Or.inl ⟨0, by decide +kernel, rfl, rfl⟩
theorem dX11_way_45 : D3 prog_1_method_5_code 45 (.getfield 34) 48 := ⟨by decide +kernel, rfl⟩
theorem dX11_way_48 : Diload prog_1_method_5_code 48 2 49 := Or.inl ⟨2, by decide +kernel, rfl, rfl⟩
theorem dX11_way_49 : D1 prog_1_method_5_code 49 (.aaload) 50 := ⟨by decide +kernel, rfl⟩
theorem dX11_way_50 : Diload prog_1_method_5_code 50 1 51 := Or.inl ⟨1, by decide +kernel, rfl, rfl⟩
theorem dX11_way_51 : Diload prog_1_method_5_code 51 3 52 := Or.inl ⟨3, by decide +kernel, rfl, rfl⟩
theorem dX11_way_52 : D1 prog_1_method_5_code 52 (.iastore) 53 := ⟨by decide +kernel, rfl⟩
theorem dX11_way_53 : Dconst prog_1_method_5_code 53 1 54 := Or.inl ⟨1, by decide +kernel, rfl, rfl⟩
theorem dX11_way_54 : D1 prog_1_method_5_code 54 (.ireturn) 55 := ⟨by decide +kernel, rfl⟩
theorem dX11_lag_0 : Daload prog_1_method_6_code 0 0 1 := Or.inl ⟨0, by decide +kernel, rfl, rfl⟩
theorem dX11_lag_1 : Diload prog_1_method_6_code 1 1 2 := Or.inl ⟨1, by decide +kernel, rfl, rfl⟩
theorem dX11_lag_2 : D3 prog_1_method_6_code 2 (.invokevirtual 85) 5 := ⟨by decide +kernel, rfl⟩
theorem dX11_lag_5 : Dastore prog_1_method_6_code 5 3 6 := Or.inl ⟨3, by decide +kernel, rfl, rfl⟩
theorem dX11_lag_6 : Daload prog_1_method_6_code 6 3 7 := Or.inl ⟨3, by decide +kernel, rfl, rfl⟩
theorem dX11_lag_7 : Dj prog_1_method_6_code 7 (.ifnull 13) 13 10 20 := ⟨by decide +kernel, rfl, by decide⟩
theorem dX11_lag_10 : Diload prog_1_method_6_code 10 2 11 := Or.inl ⟨2, by decide +kernel, rfl, rfl⟩
theorem dX11_lag_11 : Dconst prog_1_method_6_code 11 0 12 := Or.inl ⟨0, by decide +kernel, rfl, rfl⟩
theorem dX11_lag_12 : Dconst prog_1_method_6_code 12 30 14 := Or.inr (Or.inl ⟨30, by decide +kernel, rfl, rfl⟩)
theorem dX11_lag_14 : D3 prog_1_method_6_code 14 (.invokestatic 89) 17 := ⟨by decide +kernel, rfl⟩
theorem dX11_lag_17 : Dj prog_1_method_6_code 17 (.ifCond .ne 5) 5 20 22 := ⟨by decide +kernel, rfl, by decide⟩
theorem dX11_lag_20 : Dconst prog_1_method_6_code 20 0 21 := Or.inl ⟨0, by decide +kernel, rfl, rfl⟩
theorem dX11_lag_21 : D1 prog_1_method_6_code 21 (.ireturn) 22 := ⟨by decide +kernel, rfl⟩
theorem dX11_lag_22 : Daload prog_1_method_6_code 22 3 23 := Or.inl ⟨3, by decide +kernel, rfl, rfl⟩
theorem dX11_lag_23 : Diload prog_1_method_6_code 23 2 24 := Or.inl ⟨2, by decide +kernel, rfl, rfl⟩
theorem dX11_lag_24 : D3 prog_1_method_6_code 24 (.putfield 107) 27 := ⟨by decide +kernel, rfl⟩
theorem dX11_lag_27 : Dconst prog_1_method_6_code 27 1 28 := Or.inl ⟨1, by decide +kernel, rfl, rfl⟩
theorem dX11_lag_28 : D1 prog_1_method_6_code 28 (.ireturn) 29 := ⟨by decide +kernel, rfl⟩
theorem dX11_buy_0 : Daload prog_1_method_7_code 0 0 1 := Or.inl ⟨0, by decide +kernel, rfl, rfl⟩
theorem dX11_buy_1 : Diload prog_1_method_7_code 1 1 2 := Or.inl ⟨1, by decide +kernel, rfl, rfl⟩
theorem dX11_buy_2 : Diload prog_1_method_7_code 2 3 3 := Or.inl ⟨3, by decide +kernel, rfl, rfl⟩
theorem dX11_buy_3 : D3 prog_1_method_7_code 3 (.invokevirtual 110) 6 := ⟨by decide +kernel, rfl⟩
theorem dX11_buy_6 : Dastore prog_1_method_7_code 6 7 8 := Or.inr ⟨by decide +kernel, rfl⟩
theorem dX11_buy_8 : Daload prog_1_method_7_code 8 7 10 := Or.inr ⟨by decide +kernel, rfl⟩
theorem dX11_buy_10 : Dj prog_1_method_7_code 10 (.ifnull 25) 25 13 35 := ⟨by decide +kernel, rfl, by decide⟩
theorem dX11_buy_13 : Diload prog_1_method_7_code 13 2 14 := Or.inl ⟨2, by decide +kernel, rfl, rfl⟩
theorem dX11_buy_14 : Dconst prog_1_method_7_code 14 0 15 := Or.inl ⟨0, by decide +kernel, rfl, rfl⟩
theorem dX11_buy_15 : Dconst prog_1_method_7_code 15 9 17 := Or.inr (Or.inl ⟨9, by decide +kernel, rfl, rfl⟩)
theorem dX11_buy_17 : D3 prog_1_method_7_code 17 (.invokestatic 89) 20 := ⟨by decide +kernel, rfl⟩
theorem dX11_buy_20 : Dj prog_1_method_7_code 20 (.ifCond .eq 15) 15 23 35 := ⟨by decide +kernel, rfl, by decide⟩
theorem dX11_buy_23 : Diload prog_1_method_7_code 23 4 25 := Or.inr ⟨by decide +kernel, rfl⟩
theorem dX11_buy_25 : Dconst prog_1_method_7_code 25 1 26 := Or.inl ⟨1, by decide +kernel, rfl, rfl⟩
theorem dX11_buy_26 : Dconst prog_1_method_7_code 26 5000 29 := Or.inr (Or.inr ⟨5000, by decide +kernel, rfl, rfl⟩)
theorem dX11_buy_29 : D3 prog_1_method_7_code 29 (.invokestatic 89) 32 := ⟨by decide +kernel, rfl⟩
theorem dX11_buy_32 : Dj prog_1_method_7_code 32 (.ifCond .ne 5) 5 35 37 := ⟨by decide +kernel, rfl, by decide⟩
theorem dX11_buy_35 : Dconst prog_1_method_7_code 35 (-1) 36 := Or.inl ⟨(-1), by decide +kernel, rfl, rfl⟩
theorem dX11_buy_36 : D1 prog_1_method_7_code 36 (.ireturn) 37 := ⟨by decide +kernel, rfl⟩
theorem dX11_buy_37 : Diload prog_1_method_7_code 37 5 39 := Or.inr ⟨by decide +kernel, rfl⟩
theorem dX11_buy_39 : Dconst prog_1_method_7_code 39 0 40 := Or.inl ⟨0, by decide +kernel, rfl, rfl⟩
theorem dX11_buy_40 : Dconst prog_1_method_7_code 40 7 42 := Or.inr (Or.inl ⟨7, by decide +kernel, rfl, rfl⟩)
theorem dX11_buy_42 : D3 prog_1_method_7_code 42 (.invokestatic 89) 45 := ⟨by decide +kernel, rfl⟩
theorem dX11_buy_45 : Dj prog_1_method_7_code 45 (.ifCond .eq 24) 24 48 69 := ⟨by decide +kernel, rfl, by decide⟩
theorem dX11_buy_48 : Diload prog_1_method_7_code 48 6 50 := Or.inr ⟨by decide +kernel, rfl⟩
theorem dX11_buy_50 : Dconst prog_1_method_7_code 50 0 51 := Or.inl ⟨0, by decide +kernel, rfl, rfl⟩
theorem dX11_buy_51 : D2 prog_1_method_7_code 51 (.ldc 114) 53 := ⟨by decide +kernel, rfl⟩
theorem dX11_buy_53 : D3 prog_1_method_7_code 53 (.invokestatic 89) 56 := ⟨by decide +kernel, rfl⟩
theorem dX11_buy_56 : Dj prog_1_method_7_code 56 (.ifCond .eq 13) 13 59 69 := ⟨by decide +kernel, rfl, by decide⟩
theorem dX11_buy_59 : Daload prog_1_method_7_code 59 0 60 := Or.inl ⟨0, by decide +kernel, rfl, rfl⟩
theorem dX11_buy_60 : D3 prog_1_method_7_code 60 (.getfield 47) 63 := ⟨by decide +kernel, rfl⟩
theorem dX11_buy_63 : D3 prog_1_method_7_code 63 (.invokevirtual 115) 66 := ⟨by decide +kernel, rfl⟩
theorem dX11_buy_66 : Dj prog_1_method_7_code 66 (.ifCond .eq 5) 5 69 71 := ⟨by decide +kernel, rfl, by decide⟩
theorem dX11_buy_69 : Dconst prog_1_method_7_code 69 (-1) 70 := Or.inl ⟨(-1), by decide +kernel, rfl, rfl⟩
theorem dX11_buy_70 : D1 prog_1_method_7_code 70 (.ireturn) 71 := ⟨by decide +kernel, rfl⟩
theorem dX11_buy_71 : D3 prog_1_method_7_code 71 (.new 119) 74 := ⟨by decide +kernel, rfl⟩
theorem dX11_buy_74 : D1 prog_1_method_7_code 74 (.dup) 75 := ⟨by decide +kernel, rfl⟩
theorem dX11_buy_75 : Daload prog_1_method_7_code 75 7 77 := Or.inr ⟨by decide +kernel, rfl⟩
theorem dX11_buy_77 : Diload prog_1_method_7_code 77 2 78 := Or.inl ⟨2, by decide +kernel, rfl, rfl⟩
theorem dX11_buy_78 : Daload prog_1_method_7_code 78 0 79 := Or.inl ⟨0, by decide +kernel, rfl, rfl⟩
theorem dX11_buy_79 : D3 prog_1_method_7_code 79 (.getfield 121) 82 := ⟨by decide +kernel, rfl⟩
theorem dX11_buy_82 : Diload prog_1_method_7_code 82 5 84 := Or.inr ⟨by decide +kernel, rfl⟩
theorem dX11_buy_84 : Daload prog_1_method_7_code 84 0 85 := Or.inl ⟨0, by decide +kernel, rfl, rfl⟩
theorem dX11_buy_85 : D3 prog_1_method_7_code 85 (.getfield 47) 88 := ⟨by decide +kernel, rfl⟩
theorem dX11_buy_88 : D3 prog_1_method_7_code 88 (.getfield 124) 91 := ⟨by decide +kernel, rfl⟩
theorem dX11_buy_91 : Diload prog_1_method_7_code 91 4 93 := Or.inr ⟨by decide +kernel, rfl⟩
theorem dX11_buy_93 : Dconst prog_1_method_7_code 93 (-1) 94 := Or.inl ⟨(-1), by decide +kernel, rfl, rfl⟩
theorem dX11_buy_94 : D3 prog_1_method_7_code 94 (.invokespecial 127) 97 := ⟨by decide +kernel, rfl⟩
theorem dX11_buy_97 : Dastore prog_1_method_7_code 97 8 99 := Or.inr ⟨by decide +kernel, rfl⟩
theorem dX11_buy_99 : Daload prog_1_method_7_code 99 8 101 := Or.inr ⟨by decide +kernel, rfl⟩
theorem dX11_buy_101 : Diload prog_1_method_7_code 101 6 103 := Or.inr ⟨by decide +kernel, rfl⟩
theorem dX11_buy_103 : D3 prog_1_method_7_code 103 (.putfield 130) 106 := ⟨by decide +kernel, rfl⟩
theorem dX11_buy_106 : Daload prog_1_method_7_code 106 0 107 := Or.inl ⟨0, by decide +kernel, rfl, rfl⟩
theorem dX11_buy_107 : D1 prog_1_method_7_code 107 (.dup) 108 := ⟨by decide +kernel, rfl⟩
theorem dX11_buy_108 : D3 prog_1_method_7_code 108 (.getfield 133) 111 := ⟨by decide +kernel, rfl⟩
theorem dX11_buy_111 : Diload prog_1_method_7_code 111 4 113 := Or.inr ⟨by decide +kernel, rfl⟩
theorem dX11_buy_113 : D1 prog_1_method_7_code 113 (.iadd) 114 := ⟨by decide +kernel, rfl⟩
theorem dX11_buy_114 : D3 prog_1_method_7_code 114 (.putfield 133) 117 := ⟨by decide +kernel, rfl⟩
theorem dX11_buy_117 : Daload prog_1_method_7_code 117 0 118 := Or.inl ⟨0, by decide +kernel, rfl, rfl⟩
theorem dX11_buy_118 : D3 prog_1_method_7_code 118 (.getfield 47) 121 := ⟨by decide +kernel, rfl⟩
theorem dX11_buy_121 : Daload prog_1_method_7_code 121 8 123 := Or.inr ⟨by decide +kernel, rfl⟩
theorem dX11_buy_123 : D3 prog_1_method_7_code 123 (.invokevirtual 136) 126 := ⟨by decide +kernel, rfl⟩
theorem dX11_buy_126 : D1 prog_1_method_7_code 126 (.ireturn) 127 := ⟨by decide +kernel, rfl⟩
theorem dX11_storeOf_0 : Diload prog_1_method_33_code 0 1 1 := Or.inl ⟨1, by decide +kernel, rfl, rfl⟩
theorem dX11_storeOf_1 : Dconst prog_1_method_33_code 1 0 2 := Or.inl ⟨0, by decide +kernel, rfl, rfl⟩
theorem dX11_storeOf_2 : Dconst prog_1_method_33_code 2 7 4 := Or.inr (Or.inl ⟨7, by decide +kernel, rfl, rfl⟩)
theorem dX11_storeOf_4 : D3 prog_1_method_33_code 4 (.invokestatic 89) 7 := ⟨by decide +kernel, rfl⟩
theorem dX11_storeOf_7 : Dj prog_1_method_33_code 7 (.ifCond .eq 12) 12 10 19 := ⟨by decide +kernel, rfl, by decide⟩
theorem dX11_storeOf_10 : Diload prog_1_method_33_code 10 2 11 := Or.inl ⟨2, by decide +kernel, rfl, rfl⟩
theorem dX11_storeOf_11 : Dconst prog_1_method_33_code 11 0 12 := Or.inl ⟨0, by decide +kernel, rfl, rfl⟩
theorem dX11_storeOf_12 : Dconst prog_1_method_33_code 12 3 13 := Or.inl ⟨3, by decide +kernel, rfl, rfl⟩
theorem dX11_storeOf_13 : D3 prog_1_method_33_code 13 (.invokestatic 89) 16 := ⟨by decide +kernel, rfl⟩
theorem dX11_storeOf_16 : Dj prog_1_method_33_code 16 (.ifCond .ne 5) 5 19 21 := ⟨by decide +kernel, rfl, by decide⟩
theorem dX11_storeOf_19 : D1 prog_1_method_33_code 19 (.aconst_null) 20 := ⟨by decide +kernel, rfl⟩
theorem dX11_storeOf_20 : D1 prog_1_method_33_code 20 (.areturn) 21 := ⟨by decide +kernel, rfl⟩
theorem dX11_storeOf_21 : Daload prog_1_method_33_code 21 0 22 := Or.inl ⟨0, by decide +kernel, rfl, rfl⟩
theorem dX11_storeOf_22 : D3 prog_1_method_33_code 22 (.getfield 23) 25 := ⟨by decide +kernel, rfl⟩
theorem dX11_storeOf_25 : Diload prog_1_method_33_code 25 1 26 := Or.inl ⟨1, by decide +kernel, rfl, rfl⟩
theorem dX11_storeOf_26 : Dconst prog_1_method_33_code 26 4 27 := Or.inl ⟨4, by decide +kernel, rfl, rfl⟩
theorem dX11_storeOf_27 : D1 prog_1_method_33_code 27 (.imul) 28 := ⟨by decide +kernel, rfl⟩
theorem dX11_storeOf_28 : Diload prog_1_method_33_code 28 2 29 := Or.inl ⟨2, by decide +kernel, rfl, rfl⟩
theorem dX11_storeOf_29 : D1 prog_1_method_33_code 29 (.iadd) 30 := ⟨by decide +kernel, rfl⟩
theorem dX11_storeOf_30 : D1 prog_1_method_33_code 30 (.aaload) 31 := ⟨by decide +kernel, rfl⟩
theorem dX11_storeOf_31 : D1 prog_1_method_33_code 31 (.areturn) 32 := ⟨by decide +kernel, rfl⟩
theorem dX4_isFull_0 : Daload prog_6_method_2_code 0 0 1 := Or.inl ⟨0, by decide +kernel, rfl, rfl⟩
theorem dX4_isFull_1 : D3 prog_6_method_2_code 1 (.getfield 17) 4 := ⟨by decide +kernel, rfl⟩
theorem dX4_isFull_4 : Dconst prog_6_method_2_code 4 300 7 := Or.inr (Or.inr ⟨300, by decide +kernel, rfl, rfl⟩)
theorem dX4_isFull_7 : Dj prog_6_method_2_code 7 (.if_icmp .lt 7) 7 10 14 := ⟨by decide +kernel, rfl, by decide⟩
theorem dX4_isFull_10 : Dconst prog_6_method_2_code 10 1 11 := Or.inl ⟨1, by decide +kernel, rfl, rfl⟩
theorem dX4_isFull_11 : Dj prog_6_method_2_code 11 (.goto 4) 4 14 15 := ⟨by decide +kernel, rfl, by decide⟩
theorem dX4_isFull_14 : Dconst prog_6_method_2_code 14 0 15 := Or.inl ⟨0, by decide +kernel, rfl, rfl⟩
theorem dX4_isFull_15 : D1 prog_6_method_2_code 15 (.ireturn) 16 := ⟨by decide +kernel, rfl⟩
theorem dX3_init_0 : Daload prog_5_method_1_code 0 0 1 := Or.inl ⟨0, by decide +kernel, rfl, rfl⟩
theorem dX3_init_1 : D3 prog_5_method_1_code 1 (.invokespecial 3) 4 := ⟨by decide +kernel, rfl⟩
theorem dX3_init_4 : Daload prog_5_method_1_code 4 0 5 := Or.inl ⟨0, by decide +kernel, rfl, rfl⟩
theorem dX3_init_5 : Daload prog_5_method_1_code 5 1 6 := Or.inl ⟨1, by decide +kernel, rfl, rfl⟩
theorem dX3_init_6 : D3 prog_5_method_1_code 6 (.putfield 9) 9 := ⟨by decide +kernel, rfl⟩
theorem dX3_init_9 : Daload prog_5_method_1_code 9 0 10 := Or.inl ⟨0, by decide +kernel, rfl, rfl⟩
theorem dX3_init_10 : Diload prog_5_method_1_code 10 2 11 := Or.inl ⟨2, by decide +kernel, rfl, rfl⟩
theorem dX3_init_11 : D3 prog_5_method_1_code 11 (.putfield 15) 14 := ⟨by decide +kernel, rfl⟩
theorem dX3_init_14 : Daload prog_5_method_1_code 14 0 15 := Or.inl ⟨0, by decide +kernel, rfl, rfl⟩
theorem dX3_init_15 : Diload prog_5_method_1_code 15 3 16 := Or.inl ⟨3, by decide +kernel, rfl, rfl⟩
theorem dX3_init_16 : D3 prog_5_method_1_code 16 (.putfield 19) 19 := ⟨by decide +kernel, rfl⟩
theorem dX3_init_19 : Daload prog_5_method_1_code 19 0 20 := Or.inl ⟨0, by decide +kernel, rfl, rfl⟩
theorem dX3_init_20 : Diload prog_5_method_1_code 20 4 22 := Or.inr ⟨by decide +kernel, rfl⟩
theorem dX3_init_22 : D3 prog_5_method_1_code 22 (.putfield 22) 25 := ⟨by decide +kernel, rfl⟩
theorem dX3_init_25 : Daload prog_5_method_1_code 25 0 26 := Or.inl ⟨0, by decide +kernel, rfl, rfl⟩
theorem dX3_init_26 : Diload prog_5_method_1_code 26 5 28 := Or.inr ⟨by decide +kernel, rfl⟩
theorem dX3_init_28 : D3 prog_5_method_1_code 28 (.putfield 25) 31 := ⟨by decide +kernel, rfl⟩
theorem dX3_init_31 : Daload prog_5_method_1_code 31 0 32 := Or.inl ⟨0, by decide +kernel, rfl, rfl⟩
theorem dX3_init_32 : Diload prog_5_method_1_code 32 6 34 := Or.inr ⟨by decide +kernel, rfl⟩
theorem dX3_init_34 : D3 prog_5_method_1_code 34 (.putfield 28) 37 := ⟨by decide +kernel, rfl⟩
theorem dX3_init_37 : Daload prog_5_method_1_code 37 0 38 := Or.inl ⟨0, by decide +kernel, rfl, rfl⟩
theorem dX3_init_38 : Diload prog_5_method_1_code 38 6 40 := Or.inr ⟨by decide +kernel, rfl⟩
theorem dX3_init_40 : D3 prog_5_method_1_code 40 (.putfield 31) 43 := ⟨by decide +kernel, rfl⟩
theorem dX3_init_43 : Daload prog_5_method_1_code 43 0 44 := Or.inl ⟨0, by decide +kernel, rfl, rfl⟩
theorem dX3_init_44 : Diload prog_5_method_1_code 44 7 46 := Or.inr ⟨by decide +kernel, rfl⟩
theorem dX3_init_46 : D3 prog_5_method_1_code 46 (.putfield 34) 49 := ⟨by decide +kernel, rfl⟩
theorem dX3_init_49 : D1 prog_5_method_1_code 49 (.return_) 50 := ⟨by decide +kernel, rfl⟩
theorem dX4_enter_0 : Daload prog_6_method_4_code 0 0 1 := Or.inl ⟨0, by decide +kernel, rfl, rfl⟩
theorem dX4_enter_1 : D3 prog_6_method_4_code 1 (.invokevirtual 25) 4 := ⟨by decide +kernel, rfl⟩
theorem dX4_enter_4 : Dj prog_6_method_4_code 4 (.ifCond .eq 5) 5 7 9 := ⟨by decide +kernel, rfl, by decide⟩
theorem dX4_enter_7 : Dconst prog_6_method_4_code 7 (-1) 8 := Or.inl ⟨(-1), by decide +kernel, rfl, rfl⟩
theorem dX4_enter_8 : D1 prog_6_method_4_code 8 (.ireturn) 9 := ⟨by decide +kernel, rfl⟩
theorem dX4_enter_9 : Daload prog_6_method_4_code 9 0 10 := Or.inl ⟨0, by decide +kernel, rfl, rfl⟩
theorem dX4_enter_10 : D3 prog_6_method_4_code 10 (.getfield 17) 13 := ⟨by decide +kernel, rfl⟩
theorem dX4_enter_13 : Distore prog_6_method_4_code 13 2 14 := Or.inl ⟨2, by decide +kernel, rfl, rfl⟩
theorem dX4_enter_14 : Daload prog_6_method_4_code 14 0 15 := Or.inl ⟨0, by decide +kernel, rfl, rfl⟩
theorem dX4_enter_15 : D3 prog_6_method_4_code 15 (.getfield 11) 18 := ⟨by decide +kernel, rfl⟩
theorem dX4_enter_18 : Diload prog_6_method_4_code 18 2 19 := Or.inl ⟨2, by decide +kernel, rfl, rfl⟩
theorem dX4_enter_19 : Daload prog_6_method_4_code 19 1 20 := Or.inl ⟨1, by decide +kernel, rfl, rfl⟩
theorem dX4_enter_20 : D1 prog_6_method_4_code 20 (.aastore) 21 := ⟨by decide +kernel, rfl⟩
theorem dX4_enter_21 : Daload prog_6_method_4_code 21 0 22 := Or.inl ⟨0, by decide +kernel, rfl, rfl⟩
theorem dX4_enter_22 : D1 prog_6_method_4_code 22 (.dup) 23 := ⟨by decide +kernel, rfl⟩
theorem dX4_enter_23 : D3 prog_6_method_4_code 23 (.getfield 17) 26 := ⟨by decide +kernel, rfl⟩
theorem dX4_enter_26 : Dconst prog_6_method_4_code 26 1 27 := Or.inl ⟨1, by decide +kernel, rfl, rfl⟩
theorem dX4_enter_27 : D1 prog_6_method_4_code 27 (.iadd) 28 := ⟨by decide +kernel, rfl⟩
theorem dX4_enter_28 : D3 prog_6_method_4_code 28 (.putfield 17) 31 := ⟨by decide +kernel, rfl⟩
theorem dX4_enter_31 : Daload prog_6_method_4_code 31 0 32 := Or.inl ⟨0, by decide +kernel, rfl, rfl⟩
theorem dX4_enter_32 : Daload prog_6_method_4_code 32 1 33 := Or.inl ⟨1, by decide +kernel, rfl, rfl⟩
theorem dX4_enter_33 : D3 prog_6_method_4_code 33 (.invokevirtual 29) 36 := ⟨by decide +kernel, rfl⟩
theorem dX4_enter_36 : Diload prog_6_method_4_code 36 2 37 := Or.inl ⟨2, by decide +kernel, rfl, rfl⟩
theorem dX4_enter_37 : D1 prog_6_method_4_code 37 (.ireturn) 38 := ⟨by decide +kernel, rfl⟩
theorem dX4_putInChain_0 : Daload prog_6_method_5_code 0 0 1 := Or.inl ⟨0, by decide +kernel, rfl, rfl⟩
theorem dX4_putInChain_1 : D3 prog_6_method_5_code 1 (.getfield 33) 4 := ⟨by decide +kernel, rfl⟩
theorem dX4_putInChain_4 : Dj prog_6_method_5_code 4 (.ifnonnull 9) 9 7 13 := ⟨by decide +kernel, rfl, by decide⟩
theorem dX4_putInChain_7 : Daload prog_6_method_5_code 7 0 8 := Or.inl ⟨0, by decide +kernel, rfl, rfl⟩
theorem dX4_putInChain_8 : Daload prog_6_method_5_code 8 1 9 := Or.inl ⟨1, by decide +kernel, rfl, rfl⟩
theorem dX4_putInChain_9 : D3 prog_6_method_5_code 9 (.putfield 33) 12 := ⟨by decide +kernel, rfl⟩
theorem dX4_putInChain_12 : D1 prog_6_method_5_code 12 (.return_) 13 := ⟨by decide +kernel, rfl⟩
theorem dX4_putInChain_13 : Daload prog_6_method_5_code 13 0 14 := Or.inl ⟨0, by decide +kernel, rfl, rfl⟩
theorem dX4_putInChain_14 : D3 prog_6_method_5_code 14 (.getfield 33) 17 := ⟨by decide +kernel, rfl⟩
theorem dX4_putInChain_17 : Dastore prog_6_method_5_code 17 2 18 := Or.inl ⟨2, by decide +kernel, rfl, rfl⟩
theorem dX4_putInChain_18 : Daload prog_6_method_5_code 18 2 19 := Or.inl ⟨2, by decide +kernel, rfl, rfl⟩
theorem dX4_putInChain_19 : D3 prog_6_method_5_code 19 (.getfield 37) 22 := ⟨by decide +kernel, rfl⟩
theorem dX4_putInChain_22 : Dj prog_6_method_5_code 22 (.ifnull 25) 25 25 47 := ⟨by decide +kernel, rfl, by decide⟩
theorem dX4_putInChain_25 : Daload prog_6_method_5_code 25 2 26 := Or.inl ⟨2, by decide +kernel, rfl, rfl⟩
theorem dX4_putInChain_26 : D3 prog_6_method_5_code 26 (.getfield 37) 29 := ⟨by decide +kernel, rfl⟩
theorem dX4_putInChain_29 : D3 prog_6_method_5_code 29 (.getfield 40) 32 := ⟨by decide +kernel, rfl⟩
theorem dX4_putInChain_32 : Daload prog_6_method_5_code 32 1 33 := Or.inl ⟨1, by decide +kernel, rfl, rfl⟩
theorem dX4_putInChain_33 : D3 prog_6_method_5_code 33 (.getfield 40) 36 := ⟨by decide +kernel, rfl⟩
theorem dX4_putInChain_36 : Dj prog_6_method_5_code 36 (.if_icmp .gt 11) 11 39 47 := ⟨by decide +kernel, rfl, by decide⟩
theorem dX4_putInChain_39 : Daload prog_6_method_5_code 39 2 40 := Or.inl ⟨2, by decide +kernel, rfl, rfl⟩
theorem dX4_putInChain_40 : D3 prog_6_method_5_code 40 (.getfield 37) 43 := ⟨by decide +kernel, rfl⟩
theorem dX4_putInChain_43 : Dastore prog_6_method_5_code 43 2 44 := Or.inl ⟨2, by decide +kernel, rfl, rfl⟩
theorem dX4_putInChain_44 : Dj prog_6_method_5_code 44 (.goto (-26)) (-26) 47 18 := ⟨by decide +kernel, rfl, by decide⟩
theorem dX4_putInChain_47 : Daload prog_6_method_5_code 47 1 48 := Or.inl ⟨1, by decide +kernel, rfl, rfl⟩
theorem dX4_putInChain_48 : Daload prog_6_method_5_code 48 2 49 := Or.inl ⟨2, by decide +kernel, rfl, rfl⟩
theorem dX4_putInChain_49 : D3 prog_6_method_5_code 49 (.getfield 37) 52 := ⟨by decide +kernel, rfl⟩
theorem dX4_putInChain_52 : D3 prog_6_method_5_code 52 (.putfield 37) 55 := ⟨by decide +kernel, rfl⟩
theorem dX4_putInChain_55 : Daload prog_6_method_5_code 55 2 56 := Or.inl ⟨2, by decide +kernel, rfl, rfl⟩
theorem dX4_putInChain_56 : Daload prog_6_method_5_code 56 1 57 := Or.inl ⟨1, by decide +kernel, rfl, rfl⟩
theorem dX4_putInChain_57 : D3 prog_6_method_5_code 57 (.putfield 37) 60 := ⟨by decide +kernel, rfl⟩
theorem dX4_putInChain_60 : D1 prog_6_method_5_code 60 (.return_) 61 := ⟨by decide +kernel, rfl⟩
theorem dX11_send_0 : Daload prog_1_method_8_code 0 0 1 := Or.inl ⟨0, by decide +kernel, rfl, rfl⟩
theorem dX11_send_1 : D3 prog_1_method_8_code 1 (.getfield 47) 4 := ⟨by decide +kernel, rfl⟩
theorem dX11_send_4 : Diload prog_1_method_8_code 4 1 5 := Or.inl ⟨1, by decide +kernel, rfl, rfl⟩
theorem dX11_send_5 : D3 prog_1_method_8_code 5 (.invokevirtual 140) 8 := ⟨by decide +kernel, rfl⟩
theorem dX11_send_8 : Dastore prog_1_method_8_code 8 4 10 := Or.inr ⟨by decide +kernel, rfl⟩
theorem dX11_send_10 : Daload prog_1_method_8_code 10 4 12 := Or.inr ⟨by decide +kernel, rfl⟩
theorem dX11_send_12 : Dj prog_1_method_8_code 12 (.ifnull 34) 34 15 46 := ⟨by decide +kernel, rfl, by decide⟩
theorem dX11_send_15 : Daload prog_1_method_8_code 15 4 17 := Or.inr ⟨by decide +kernel, rfl⟩
theorem dX11_send_17 : D3 prog_1_method_8_code 17 (.invokevirtual 144) 20 := ⟨by decide +kernel, rfl⟩
theorem dX11_send_20 : Dj prog_1_method_8_code 20 (.ifCond .eq 26) 26 23 46 := ⟨by decide +kernel, rfl, by decide⟩
theorem dX11_send_23 : Diload prog_1_method_8_code 23 3 24 := Or.inl ⟨3, by decide +kernel, rfl, rfl⟩
theorem dX11_send_24 : Dconst prog_1_method_8_code 24 1 25 := Or.inl ⟨1, by decide +kernel, rfl, rfl⟩
theorem dX11_send_25 : Daload prog_1_method_8_code 25 4 27 := Or.inr ⟨by decide +kernel, rfl⟩
theorem dX11_send_27 : D3 prog_1_method_8_code 27 (.getfield 147) 30 := ⟨by decide +kernel, rfl⟩
theorem dX11_send_30 : D3 prog_1_method_8_code 30 (.invokestatic 89) 33 := ⟨by decide +kernel, rfl⟩
theorem dX11_send_33 : Dj prog_1_method_8_code 33 (.ifCond .eq 13) 13 36 46 := ⟨by decide +kernel, rfl, by decide⟩
theorem dX11_send_36 : Daload prog_1_method_8_code 36 0 37 := Or.inl ⟨0, by decide +kernel, rfl, rfl⟩
theorem dX11_send_37 : D3 prog_1_method_8_code 37 (.getfield 47) 40 := ⟨by decide +kernel, rfl⟩
theorem dX11_send_40 : D3 prog_1_method_8_code 40 (.invokevirtual 115) 43 := ⟨by decide +kernel, rfl⟩
theorem dX11_send_43 : Dj prog_1_method_8_code 43 (.ifCond .eq 5) 5 46 48 := ⟨by decide +kernel, rfl, by decide⟩
theorem dX11_send_46 : Dconst prog_1_method_8_code 46 (-1) 47 := Or.inl ⟨(-1), by decide +kernel, rfl, rfl⟩
theorem dX11_send_47 : D1 prog_1_method_8_code 47 (.ireturn) 48 := ⟨by decide +kernel, rfl⟩
theorem dX11_send_48 : Daload prog_1_method_8_code 48 4 50 := Or.inr ⟨by decide +kernel, rfl⟩
theorem dX11_send_50 : D3 prog_1_method_8_code 50 (.getfield 150) 53 := ⟨by decide +kernel, rfl⟩
theorem dX11_send_53 : D3 prog_1_method_8_code 53 (.getfield 154) 56 := ⟨by decide +kernel, rfl⟩
theorem dX11_send_56 : D3 prog_1_method_8_code 56 (.getfield 158) 59 := ⟨by decide +kernel, rfl⟩
theorem dX11_send_59 : Distore prog_1_method_8_code 59 5 61 := Or.inr ⟨by decide +kernel, rfl⟩
theorem dX11_send_61 : Daload prog_1_method_8_code 61 0 62 := Or.inl ⟨0, by decide +kernel, rfl, rfl⟩
theorem dX11_send_62 : Diload prog_1_method_8_code 62 2 63 := Or.inl ⟨2, by decide +kernel, rfl, rfl⟩
theorem dX11_send_63 : Daload prog_1_method_8_code 63 4 65 := Or.inr ⟨by decide +kernel, rfl⟩
theorem dX11_send_65 : D3 prog_1_method_8_code 65 (.getfield 150) 68 := ⟨by decide +kernel, rfl⟩
theorem dX11_send_68 : D3 prog_1_method_8_code 68 (.getfield 161) 71 := ⟨by decide +kernel, rfl⟩
theorem dX11_send_71 : D3 prog_1_method_8_code 71 (.getfield 165) 74 := ⟨by decide +kernel, rfl⟩
theorem dX11_send_74 : D3 prog_1_method_8_code 74 (.invokevirtual 110) 77 := ⟨by decide +kernel, rfl⟩
theorem dX11_send_77 : Dastore prog_1_method_8_code 77 6 79 := Or.inr ⟨by decide +kernel, rfl⟩
theorem dX11_send_79 : Daload prog_1_method_8_code 79 6 81 := Or.inr ⟨by decide +kernel, rfl⟩
theorem dX11_send_81 : Dj prog_1_method_8_code 81 (.ifnull 9) 9 84 90 := ⟨by decide +kernel, rfl, by decide⟩
theorem dX11_send_84 : Diload prog_1_method_8_code 84 2 85 := Or.inl ⟨2, by decide +kernel, rfl, rfl⟩
theorem dX11_send_85 : Diload prog_1_method_8_code 85 5 87 := Or.inr ⟨by decide +kernel, rfl⟩
theorem dX11_send_87 : Dj prog_1_method_8_code 87 (.if_icmp .ne 5) 5 90 92 := ⟨by decide +kernel, rfl, by decide⟩
theorem dX11_send_90 : Dconst prog_1_method_8_code 90 (-1) 91 := Or.inl ⟨(-1), by decide +kernel, rfl, rfl⟩
theorem dX11_send_91 : D1 prog_1_method_8_code 91 (.ireturn) 92 := ⟨by decide +kernel, rfl⟩
theorem dX11_send_92 : Daload prog_1_method_8_code 92 0 93 := Or.inl ⟨0, by decide +kernel, rfl, rfl⟩
theorem dX11_send_93 : D3 prog_1_method_8_code 93 (.getfield 121) 96 := ⟨by decide +kernel, rfl⟩
theorem dX11_send_96 : Daload prog_1_method_8_code 96 0 97 := Or.inl ⟨0, by decide +kernel, rfl, rfl⟩
theorem dX11_send_97 : D3 prog_1_method_8_code 97 (.getfield 34) 100 := ⟨by decide +kernel, rfl⟩
theorem dX11_send_100 : Diload prog_1_method_8_code 100 5 102 := Or.inr ⟨by decide +kernel, rfl⟩
theorem dX11_send_102 : D1 prog_1_method_8_code 102 (.aaload) 103 := ⟨by decide +kernel, rfl⟩
theorem dX11_send_103 : Diload prog_1_method_8_code 103 2 104 := Or.inl ⟨2, by decide +kernel, rfl, rfl⟩
theorem dX11_send_104 : D1 prog_1_method_8_code 104 (.iaload) 105 := ⟨by decide +kernel, rfl⟩
theorem dX11_send_105 : D1 prog_1_method_8_code 105 (.iadd) 106 := ⟨by decide +kernel, rfl⟩
theorem dX11_send_106 : Distore prog_1_method_8_code 106 7 108 := Or.inr ⟨by decide +kernel, rfl⟩
theorem dX11_send_108 : D3 prog_1_method_8_code 108 (.new 119) 111 := ⟨by decide +kernel, rfl⟩
theorem dX11_send_111 : D1 prog_1_method_8_code 111 (.dup) 112 := ⟨by decide +kernel, rfl⟩
theorem dX11_send_112 : Daload prog_1_method_8_code 112 6 114 := Or.inr ⟨by decide +kernel, rfl⟩
theorem dX11_send_114 : Daload prog_1_method_8_code 114 4 116 := Or.inr ⟨by decide +kernel, rfl⟩
theorem dX11_send_116 : D3 prog_1_method_8_code 116 (.getfield 166) 119 := ⟨by decide +kernel, rfl⟩
theorem dX11_send_119 : Daload prog_1_method_8_code 119 4 121 := Or.inr ⟨by decide +kernel, rfl⟩
theorem dX11_send_121 : D3 prog_1_method_8_code 121 (.getfield 169) 124 := ⟨by decide +kernel, rfl⟩
theorem dX11_send_124 : Daload prog_1_method_8_code 124 4 126 := Or.inr ⟨by decide +kernel, rfl⟩
theorem dX11_send_126 : D3 prog_1_method_8_code 126 (.getfield 172) 129 := ⟨by decide +kernel, rfl⟩
theorem dX11_send_129 : Daload prog_1_method_8_code 129 4 131 := Or.inr ⟨by decide +kernel, rfl⟩
theorem dX11_send_131 : D3 prog_1_method_8_code 131 (.getfield 175) 134 := ⟨by decide +kernel, rfl⟩
theorem dX11_send_134 : Diload prog_1_method_8_code 134 3 135 := Or.inl ⟨3, by decide +kernel, rfl, rfl⟩
theorem dX11_send_135 : Diload prog_1_method_8_code 135 7 137 := Or.inr ⟨by decide +kernel, rfl⟩
theorem dX11_send_137 : D3 prog_1_method_8_code 137 (.invokespecial 127) 140 := ⟨by decide +kernel, rfl⟩
theorem dX11_send_140 : Dastore prog_1_method_8_code 140 8 142 := Or.inr ⟨by decide +kernel, rfl⟩
theorem dX11_send_142 : Daload prog_1_method_8_code 142 4 144 := Or.inr ⟨by decide +kernel, rfl⟩
theorem dX11_send_144 : D1 prog_1_method_8_code 144 (.dup) 145 := ⟨by decide +kernel, rfl⟩
theorem dX11_send_145 : D3 prog_1_method_8_code 145 (.getfield 147) 148 := ⟨by decide +kernel, rfl⟩
theorem dX11_send_148 : Diload prog_1_method_8_code 148 3 149 := Or.inl ⟨3, by decide +kernel, rfl, rfl⟩
theorem dX11_send_149 : D1 prog_1_method_8_code 149 (.isub) 150 := ⟨by decide +kernel, rfl⟩
theorem dX11_send_150 : D3 prog_1_method_8_code 150 (.putfield 147) 153 := ⟨by decide +kernel, rfl⟩
theorem dX11_send_153 : Daload prog_1_method_8_code 153 0 154 := Or.inl ⟨0, by decide +kernel, rfl, rfl⟩
theorem dX11_send_154 : D3 prog_1_method_8_code 154 (.getfield 47) 157 := ⟨by decide +kernel, rfl⟩
theorem dX11_send_157 : Daload prog_1_method_8_code 157 8 159 := Or.inr ⟨by decide +kernel, rfl⟩
theorem dX11_send_159 : D3 prog_1_method_8_code 159 (.invokevirtual 136) 162 := ⟨by decide +kernel, rfl⟩
theorem dX11_send_162 : D1 prog_1_method_8_code 162 (.ireturn) 163 := ⟨by decide +kernel, rfl⟩
theorem dX4_numbered_0 : Diload prog_6_method_3_code 0 1 1 := Or.inl ⟨1, by decide +kernel, rfl, rfl⟩
theorem dX4_numbered_1 : Dconst prog_6_method_3_code 1 0 2 := Or.inl ⟨0, by decide +kernel, rfl, rfl⟩
theorem dX4_numbered_2 : Daload prog_6_method_3_code 2 0 3 := Or.inl ⟨0, by decide +kernel, rfl, rfl⟩
theorem dX4_numbered_3 : D3 prog_6_method_3_code 3 (.getfield 17) 6 := ⟨by decide +kernel, rfl⟩
theorem dX4_numbered_6 : Dconst prog_6_method_3_code 6 1 7 := Or.inl ⟨1, by decide +kernel, rfl, rfl⟩
theorem dX4_numbered_7 : D1 prog_6_method_3_code 7 (.isub) 8 := ⟨by decide +kernel, rfl⟩
theorem dX4_numbered_8 : D3 prog_6_method_3_code 8 (.invokestatic 21) 11 := ⟨by decide +kernel, rfl⟩
theorem dX4_numbered_11 : Dj prog_6_method_3_code 11 (.ifCond .eq 12) 12 14 23 := ⟨by decide +kernel, rfl, by decide⟩
theorem dX4_numbered_14 : Daload prog_6_method_3_code 14 0 15 := Or.inl ⟨0, by decide +kernel, rfl, rfl⟩
theorem dX4_numbered_15 : D3 prog_6_method_3_code 15 (.getfield 11) 18 := ⟨by decide +kernel, rfl⟩
theorem dX4_numbered_18 : Diload prog_6_method_3_code 18 1 19 := Or.inl ⟨1, by decide +kernel, rfl, rfl⟩
theorem dX4_numbered_19 : D1 prog_6_method_3_code 19 (.aaload) 20 := ⟨by decide +kernel, rfl⟩
theorem dX4_numbered_20 : Dj prog_6_method_3_code 20 (.goto 4) 4 23 24 := ⟨by decide +kernel, rfl, by decide⟩
theorem dX4_numbered_23 : D1 prog_6_method_3_code 23 (.aconst_null) 24 := ⟨by decide +kernel, rfl⟩
theorem dX4_numbered_24 : D1 prog_6_method_3_code 24 (.areturn) 25 := ⟨by decide +kernel, rfl⟩
theorem dX3_isThere_0 : Daload prog_5_method_2_code 0 0 1 := Or.inl ⟨0, by decide +kernel, rfl, rfl⟩
theorem dX3_isThere_1 : D3 prog_5_method_2_code 1 (.getfield 34) 4 := ⟨by decide +kernel, rfl⟩
theorem dX3_isThere_4 : Dconst prog_5_method_2_code 4 (-1) 5 := Or.inl ⟨(-1), by decide +kernel, rfl, rfl⟩
theorem dX3_isThere_5 : Dj prog_5_method_2_code 5 (.if_icmp .ne 7) 7 8 12 := ⟨by decide +kernel, rfl, by decide⟩
theorem dX3_isThere_8 : Dconst prog_5_method_2_code 8 1 9 := Or.inl ⟨1, by decide +kernel, rfl, rfl⟩
theorem dX3_isThere_9 : Dj prog_5_method_2_code 9 (.goto 4) 4 12 13 := ⟨by decide +kernel, rfl, by decide⟩
theorem dX3_isThere_12 : Dconst prog_5_method_2_code 12 0 13 := Or.inl ⟨0, by decide +kernel, rfl, rfl⟩
theorem dX3_isThere_13 : D1 prog_5_method_2_code 13 (.ireturn) 14 := ⟨by decide +kernel, rfl⟩
theorem dX11_week_0 : Daload prog_1_method_9_code 0 0 1 := Or.inl ⟨0, by decide +kernel, rfl, rfl⟩
theorem dX11_week_1 : D3 prog_1_method_9_code 1 (.getfield 121) 4 := ⟨by decide +kernel, rfl⟩
theorem dX11_week_4 : Dconst prog_1_method_9_code 4 200 7 := Or.inr (Or.inr ⟨200, by decide +kernel, rfl, rfl⟩)
theorem dX11_week_7 : Dj prog_1_method_9_code 7 (.if_icmp .lt 5) 5 10 12 := ⟨by decide +kernel, rfl, by decide⟩
theorem dX11_week_10 : Dconst prog_1_method_9_code 10 (-1) 11 := Or.inl ⟨(-1), by decide +kernel, rfl, rfl⟩
theorem dX11_week_11 : D1 prog_1_method_9_code 11 (.ireturn) 12 := ⟨by decide +kernel, rfl⟩
theorem dX11_week_12 : Daload prog_1_method_9_code 12 0 13 := Or.inl ⟨0, by decide +kernel, rfl, rfl⟩
theorem dX11_week_13 : D3 prog_1_method_9_code 13 (.invokevirtual 178) 16 := ⟨by decide +kernel, rfl⟩
theorem dX11_week_16 : Daload prog_1_method_9_code 16 0 17 := Or.inl ⟨0, by decide +kernel, rfl, rfl⟩
theorem dX11_week_17 : D3 prog_1_method_9_code 17 (.invokevirtual 181) 20 := ⟨by decide +kernel, rfl⟩
theorem dX11_week_20 : Daload prog_1_method_9_code 20 0 21 := Or.inl ⟨0, by decide +kernel, rfl, rfl⟩
theorem dX11_week_21 : D3 prog_1_method_9_code 21 (.invokevirtual 184) 24 := ⟨by decide +kernel, rfl⟩
theorem dX11_week_24 : Daload prog_1_method_9_code 24 0 25 := Or.inl ⟨0, by decide +kernel, rfl, rfl⟩
theorem dX11_week_25 : D1 prog_1_method_9_code 25 (.dup) 26 := ⟨by decide +kernel, rfl⟩
theorem dX11_week_26 : D3 prog_1_method_9_code 26 (.getfield 121) 29 := ⟨by decide +kernel, rfl⟩
theorem dX11_week_29 : Dconst prog_1_method_9_code 29 1 30 := Or.inl ⟨1, by decide +kernel, rfl, rfl⟩
theorem dX11_week_30 : D1 prog_1_method_9_code 30 (.iadd) 31 := ⟨by decide +kernel, rfl⟩
theorem dX11_week_31 : D3 prog_1_method_9_code 31 (.putfield 121) 34 := ⟨by decide +kernel, rfl⟩
theorem dX11_week_34 : Daload prog_1_method_9_code 34 0 35 := Or.inl ⟨0, by decide +kernel, rfl, rfl⟩
theorem dX11_week_35 : D3 prog_1_method_9_code 35 (.invokevirtual 187) 38 := ⟨by decide +kernel, rfl⟩
theorem dX11_week_38 : Daload prog_1_method_9_code 38 0 39 := Or.inl ⟨0, by decide +kernel, rfl, rfl⟩
theorem dX11_week_39 : D3 prog_1_method_9_code 39 (.getfield 121) 42 := ⟨by decide +kernel, rfl⟩
theorem dX11_week_42 : D1 prog_1_method_9_code 42 (.ireturn) 43 := ⟨by decide +kernel, rfl⟩
theorem dX11_bringIn_0 : Daload prog_1_method_35_code 0 0 1 := Or.inl ⟨0, by decide +kernel, rfl, rfl⟩
theorem dX11_bringIn_1 : D3 prog_1_method_35_code 1 (.getfield 47) 4 := ⟨by decide +kernel, rfl⟩
theorem dX11_bringIn_4 : D3 prog_1_method_35_code 4 (.getfield 258) 7 := ⟨by decide +kernel, rfl⟩
theorem dX11_bringIn_7 : Dastore prog_1_method_35_code 7 1 8 := Or.inl ⟨1, by decide +kernel, rfl, rfl⟩
theorem dX11_bringIn_8 : Daload prog_1_method_35_code 8 1 9 := Or.inl ⟨1, by decide +kernel, rfl, rfl⟩
theorem dX11_bringIn_9 : Dj prog_1_method_35_code 9 (.ifnull 27) 27 12 36 := ⟨by decide +kernel, rfl, by decide⟩
theorem dX11_bringIn_12 : Daload prog_1_method_35_code 12 1 13 := Or.inl ⟨1, by decide +kernel, rfl, rfl⟩
theorem dX11_bringIn_13 : Daload prog_1_method_35_code 13 0 14 := Or.inl ⟨0, by decide +kernel, rfl, rfl⟩
theorem dX11_bringIn_14 : D3 prog_1_method_35_code 14 (.getfield 121) 17 := ⟨by decide +kernel, rfl⟩
theorem dX11_bringIn_17 : D3 prog_1_method_35_code 17 (.invokevirtual 293) 20 := ⟨by decide +kernel, rfl⟩
theorem dX11_bringIn_20 : Dj prog_1_method_35_code 20 (.ifCond .eq 8) 8 23 28 := ⟨by decide +kernel, rfl, by decide⟩
theorem dX11_bringIn_23 : Daload prog_1_method_35_code 23 1 24 := Or.inl ⟨1, by decide +kernel, rfl, rfl⟩
theorem dX11_bringIn_24 : Dconst prog_1_method_35_code 24 (-1) 25 := Or.inl ⟨(-1), by decide +kernel, rfl, rfl⟩
theorem dX11_bringIn_25 : D3 prog_1_method_35_code 25 (.putfield 297) 28 := ⟨by decide +kernel, rfl⟩
theorem dX11_bringIn_28 : Daload prog_1_method_35_code 28 1 29 := Or.inl ⟨1, by decide +kernel, rfl, rfl⟩
theorem dX11_bringIn_29 : D3 prog_1_method_35_code 29 (.getfield 262) 32 := ⟨by decide +kernel, rfl⟩
theorem dX11_bringIn_32 : Dastore prog_1_method_35_code 32 1 33 := Or.inl ⟨1, by decide +kernel, rfl, rfl⟩
theorem dX11_bringIn_33 : Dj prog_1_method_35_code 33 (.goto (-25)) (-25) 36 8 := ⟨by decide +kernel, rfl, by decide⟩
theorem dX11_bringIn_36 : D1 prog_1_method_35_code 36 (.return_) 37 := ⟨by decide +kernel, rfl⟩
theorem dX3_isThereBy_0 : Daload prog_5_method_3_code 0 0 1 := Or.inl ⟨0, by decide +kernel, rfl, rfl⟩
theorem dX3_isThereBy_1 : D3 prog_5_method_3_code 1 (.getfield 34) 4 := ⟨by decide +kernel, rfl⟩
theorem dX3_isThereBy_4 : Dconst prog_5_method_3_code 4 (-1) 5 := Or.inl ⟨(-1), by decide +kernel, rfl, rfl⟩
theorem dX3_isThereBy_5 : Dj prog_5_method_3_code 5 (.if_icmp .eq 11) 11 8 16 := ⟨by decide +kernel, rfl, by decide⟩
theorem dX3_isThereBy_8 : Daload prog_5_method_3_code 8 0 9 := Or.inl ⟨0, by decide +kernel, rfl, rfl⟩
theorem dX3_isThereBy_9 : D3 prog_5_method_3_code 9 (.getfield 34) 12 := ⟨by decide +kernel, rfl⟩
theorem dX3_isThereBy_12 : Diload prog_5_method_3_code 12 1 13 := Or.inl ⟨1, by decide +kernel, rfl, rfl⟩
theorem dX3_isThereBy_13 : Dj prog_5_method_3_code 13 (.if_icmp .gt 7) 7 16 20 := ⟨by decide +kernel, rfl, by decide⟩
theorem dX3_isThereBy_16 : Dconst prog_5_method_3_code 16 1 17 := Or.inl ⟨1, by decide +kernel, rfl, rfl⟩
theorem dX3_isThereBy_17 : Dj prog_5_method_3_code 17 (.goto 4) 4 20 21 := ⟨by decide +kernel, rfl, by decide⟩
theorem dX3_isThereBy_20 : Dconst prog_5_method_3_code 20 0 21 := Or.inl ⟨0, by decide +kernel, rfl, rfl⟩
theorem dX3_isThereBy_21 : D1 prog_5_method_3_code 21 (.ireturn) 22 := ⟨by decide +kernel, rfl⟩
theorem dX11_condemnSpoilt_0 : Daload prog_1_method_36_code 0 0 1 := Or.inl ⟨0, by decide +kernel, rfl, rfl⟩
theorem dX11_condemnSpoilt_1 : D3 prog_1_method_36_code 1 (.getfield 47) 4 := ⟨by decide +kernel, rfl⟩
theorem dX11_condemnSpoilt_4 : D3 prog_1_method_36_code 4 (.getfield 258) 7 := ⟨by decide +kernel, rfl⟩
theorem dX11_condemnSpoilt_7 : Dastore prog_1_method_36_code 7 1 8 := Or.inl ⟨1, by decide +kernel, rfl, rfl⟩
theorem dX11_condemnSpoilt_8 : Daload prog_1_method_36_code 8 1 9 := Or.inl ⟨1, by decide +kernel, rfl, rfl⟩
theorem dX11_condemnSpoilt_9 : Dj prog_1_method_36_code 9 (.ifnull 93) 93 12 102 := ⟨by decide +kernel, rfl, by decide⟩
theorem dX11_condemnSpoilt_12 : Daload prog_1_method_36_code 12 1 13 := Or.inl ⟨1, by decide +kernel, rfl, rfl⟩
theorem dX11_condemnSpoilt_13 : D3 prog_1_method_36_code 13 (.getfield 150) 16 := ⟨by decide +kernel, rfl⟩
theorem dX11_condemnSpoilt_16 : D3 prog_1_method_36_code 16 (.getfield 161) 19 := ⟨by decide +kernel, rfl⟩
theorem dX11_condemnSpoilt_19 : Daload prog_1_method_36_code 19 1 20 := Or.inl ⟨1, by decide +kernel, rfl, rfl⟩
theorem dX11_condemnSpoilt_20 : D3 prog_1_method_36_code 20 (.getfield 147) 23 := ⟨by decide +kernel, rfl⟩
theorem dX11_condemnSpoilt_23 : Daload prog_1_method_36_code 23 0 24 := Or.inl ⟨0, by decide +kernel, rfl, rfl⟩
theorem dX11_condemnSpoilt_24 : D3 prog_1_method_36_code 24 (.getfield 121) 27 := ⟨by decide +kernel, rfl⟩
theorem dX11_condemnSpoilt_27 : Daload prog_1_method_36_code 27 1 28 := Or.inl ⟨1, by decide +kernel, rfl, rfl⟩
theorem dX11_condemnSpoilt_28 : D3 prog_1_method_36_code 28 (.getfield 169) 31 := ⟨by decide +kernel, rfl⟩
theorem dX11_condemnSpoilt_31 : D1 prog_1_method_36_code 31 (.isub) 32 := ⟨by decide +kernel, rfl⟩
theorem dX11_condemnSpoilt_32 : Daload prog_1_method_36_code 32 1 33 := Or.inl ⟨1, by decide +kernel, rfl, rfl⟩
theorem dX11_condemnSpoilt_33 : D3 prog_1_method_36_code 33 (.invokevirtual 144) 36 := ⟨by decide +kernel, rfl⟩
theorem dX11_condemnSpoilt_36 : Dj prog_1_method_36_code 36 (.ifCond .ne 7) 7 39 43 := ⟨by decide +kernel, rfl, by decide⟩
theorem dX11_condemnSpoilt_39 : Dconst prog_1_method_36_code 39 1 40 := Or.inl ⟨1, by decide +kernel, rfl, rfl⟩
theorem dX11_condemnSpoilt_40 : Dj prog_1_method_36_code 40 (.goto 4) 4 43 44 := ⟨by decide +kernel, rfl, by decide⟩
theorem dX11_condemnSpoilt_43 : Dconst prog_1_method_36_code 43 0 44 := Or.inl ⟨0, by decide +kernel, rfl, rfl⟩
theorem dX11_condemnSpoilt_44 : D3 prog_1_method_36_code 44 (.invokevirtual 300) 47 := ⟨by decide +kernel, rfl⟩
theorem dX11_condemnSpoilt_47 : Distore prog_1_method_36_code 47 2 48 := Or.inl ⟨2, by decide +kernel, rfl, rfl⟩
theorem dX11_condemnSpoilt_48 : Daload prog_1_method_36_code 48 1 49 := Or.inl ⟨1, by decide +kernel, rfl, rfl⟩
theorem dX11_condemnSpoilt_49 : D1 prog_1_method_36_code 49 (.dup) 50 := ⟨by decide +kernel, rfl⟩
theorem dX11_condemnSpoilt_50 : D3 prog_1_method_36_code 50 (.getfield 147) 53 := ⟨by decide +kernel, rfl⟩
theorem dX11_condemnSpoilt_53 : Diload prog_1_method_36_code 53 2 54 := Or.inl ⟨2, by decide +kernel, rfl, rfl⟩
theorem dX11_condemnSpoilt_54 : D1 prog_1_method_36_code 54 (.isub) 55 := ⟨by decide +kernel, rfl⟩
theorem dX11_condemnSpoilt_55 : D3 prog_1_method_36_code 55 (.putfield 147) 58 := ⟨by decide +kernel, rfl⟩
theorem dX11_condemnSpoilt_58 : Daload prog_1_method_36_code 58 0 59 := Or.inl ⟨0, by decide +kernel, rfl, rfl⟩
theorem dX11_condemnSpoilt_59 : D1 prog_1_method_36_code 59 (.dup) 60 := ⟨by decide +kernel, rfl⟩
theorem dX11_condemnSpoilt_60 : D3 prog_1_method_36_code 60 (.getfield 283) 63 := ⟨by decide +kernel, rfl⟩
theorem dX11_condemnSpoilt_63 : Diload prog_1_method_36_code 63 2 64 := Or.inl ⟨2, by decide +kernel, rfl, rfl⟩
theorem dX11_condemnSpoilt_64 : D1 prog_1_method_36_code 64 (.iadd) 65 := ⟨by decide +kernel, rfl⟩
theorem dX11_condemnSpoilt_65 : D3 prog_1_method_36_code 65 (.putfield 283) 68 := ⟨by decide +kernel, rfl⟩
theorem dX11_condemnSpoilt_68 : Daload prog_1_method_36_code 68 0 69 := Or.inl ⟨0, by decide +kernel, rfl, rfl⟩
theorem dX11_condemnSpoilt_69 : D3 prog_1_method_36_code 69 (.getfield 47) 72 := ⟨by decide +kernel, rfl⟩
theorem dX11_condemnSpoilt_72 : Daload prog_1_method_36_code 72 1 73 := Or.inl ⟨1, by decide +kernel, rfl, rfl⟩
theorem dX11_condemnSpoilt_73 : D3 prog_1_method_36_code 73 (.getfield 175) 76 := ⟨by decide +kernel, rfl⟩
theorem dX11_condemnSpoilt_76 : D3 prog_1_method_36_code 76 (.invokevirtual 140) 79 := ⟨by decide +kernel, rfl⟩
theorem dX11_condemnSpoilt_79 : Dastore prog_1_method_36_code 79 3 80 := Or.inl ⟨3, by decide +kernel, rfl, rfl⟩
theorem dX11_condemnSpoilt_80 : Daload prog_1_method_36_code 80 3 81 := Or.inl ⟨3, by decide +kernel, rfl, rfl⟩
theorem dX11_condemnSpoilt_81 : Dj prog_1_method_36_code 81 (.ifnull 13) 13 84 94 := ⟨by decide +kernel, rfl, by decide⟩
theorem dX11_condemnSpoilt_84 : Daload prog_1_method_36_code 84 3 85 := Or.inl ⟨3, by decide +kernel, rfl, rfl⟩
theorem dX11_condemnSpoilt_85 : D1 prog_1_method_36_code 85 (.dup) 86 := ⟨by decide +kernel, rfl⟩
theorem dX11_condemnSpoilt_86 : D3 prog_1_method_36_code 86 (.getfield 265) 89 := ⟨by decide +kernel, rfl⟩
theorem dX11_condemnSpoilt_89 : Diload prog_1_method_36_code 89 2 90 := Or.inl ⟨2, by decide +kernel, rfl, rfl⟩
theorem dX11_condemnSpoilt_90 : D1 prog_1_method_36_code 90 (.iadd) 91 := ⟨by decide +kernel, rfl⟩
theorem dX11_condemnSpoilt_91 : D3 prog_1_method_36_code 91 (.putfield 265) 94 := ⟨by decide +kernel, rfl⟩
theorem dX11_condemnSpoilt_94 : Daload prog_1_method_36_code 94 1 95 := Or.inl ⟨1, by decide +kernel, rfl, rfl⟩
theorem dX11_condemnSpoilt_95 : D3 prog_1_method_36_code 95 (.getfield 262) 98 := ⟨by decide +kernel, rfl⟩
theorem dX11_condemnSpoilt_98 : Dastore prog_1_method_36_code 98 1 99 := Or.inl ⟨1, by decide +kernel, rfl, rfl⟩
theorem dX11_condemnSpoilt_99 : Dj prog_1_method_36_code 99 (.goto (-91)) (-91) 102 8 := ⟨by decide +kernel, rfl, by decide⟩
theorem dX11_condemnSpoilt_102 : D1 prog_1_method_36_code 102 (.return_) 103 := ⟨by decide +kernel, rfl⟩
theorem dX1_loss_0 : Dconst prog_3_method_2_code 0 0 1 := Or.inl ⟨0, by decide +kernel, rfl, rfl⟩
theorem dX1_loss_1 : Dconst prog_3_method_2_code 1 9 3 := Or.inr (Or.inl ⟨9, by decide +kernel, rfl, rfl⟩)
theorem dX1_loss_3 : Diload prog_3_method_2_code 3 2 4 := Or.inl ⟨2, by decide +kernel, rfl, rfl⟩
theorem dX1_loss_4 : Dconst prog_3_method_2_code 4 4 5 := Or.inl ⟨4, by decide +kernel, rfl, rfl⟩
theorem dX1_loss_5 : D1 prog_3_method_2_code 5 (.idiv) 6 := ⟨by decide +kernel, rfl⟩
theorem dX1_loss_6 : D3 prog_3_method_2_code 6 (.invokestatic 22) 9 := ⟨by decide +kernel, rfl⟩
theorem dX1_loss_9 : D3 prog_3_method_2_code 9 (.invokestatic 28) 12 := ⟨by decide +kernel, rfl⟩
theorem dX1_loss_12 : Distore prog_3_method_2_code 12 4 14 := Or.inr ⟨by decide +kernel, rfl⟩
theorem dX1_loss_14 : Diload prog_3_method_2_code 14 3 15 := Or.inl ⟨3, by decide +kernel, rfl, rfl⟩
theorem dX1_loss_15 : Dj prog_3_method_2_code 15 (.ifCond .eq 21) 21 18 36 := ⟨by decide +kernel, rfl, by decide⟩
theorem dX1_loss_18 : Dconst prog_3_method_2_code 18 1000 21 := Or.inr (Or.inr ⟨1000, by decide +kernel, rfl, rfl⟩)
theorem dX1_loss_21 : Dconst prog_3_method_2_code 21 2 22 := Or.inl ⟨2, by decide +kernel, rfl, rfl⟩
theorem dX1_loss_22 : Daload prog_3_method_2_code 22 0 23 := Or.inl ⟨0, by decide +kernel, rfl, rfl⟩
theorem dX1_loss_23 : D3 prog_3_method_2_code 23 (.getfield 15) 26 := ⟨by decide +kernel, rfl⟩
theorem dX1_loss_26 : Diload prog_3_method_2_code 26 4 28 := Or.inr ⟨by decide +kernel, rfl⟩
theorem dX1_loss_28 : D1 prog_3_method_2_code 28 (.iaload) 29 := ⟨by decide +kernel, rfl⟩
theorem dX1_loss_29 : D1 prog_3_method_2_code 29 (.imul) 30 := ⟨by decide +kernel, rfl⟩
theorem dX1_loss_30 : D3 prog_3_method_2_code 30 (.invokestatic 22) 33 := ⟨by decide +kernel, rfl⟩
theorem dX1_loss_33 : Dj prog_3_method_2_code 33 (.goto 10) 10 36 43 := ⟨by decide +kernel, rfl, by decide⟩
theorem dX1_loss_36 : Daload prog_3_method_2_code 36 0 37 := Or.inl ⟨0, by decide +kernel, rfl, rfl⟩
theorem dX1_loss_37 : D3 prog_3_method_2_code 37 (.getfield 15) 40 := ⟨by decide +kernel, rfl⟩
theorem dX1_loss_40 : Diload prog_3_method_2_code 40 4 42 := Or.inr ⟨by decide +kernel, rfl⟩
theorem dX1_loss_42 : D1 prog_3_method_2_code 42 (.iaload) 43 := ⟨by decide +kernel, rfl⟩
theorem dX1_loss_43 : Distore prog_3_method_2_code 43 5 45 := Or.inr ⟨by decide +kernel, rfl⟩
theorem dX1_loss_45 : Diload prog_3_method_2_code 45 1 46 := Or.inl ⟨1, by decide +kernel, rfl, rfl⟩
theorem dX1_loss_46 : Diload prog_3_method_2_code 46 5 48 := Or.inr ⟨by decide +kernel, rfl⟩
theorem dX1_loss_48 : D1 prog_3_method_2_code 48 (.imul) 49 := ⟨by decide +kernel, rfl⟩
theorem dX1_loss_49 : Dconst prog_3_method_2_code 49 1000 52 := Or.inr (Or.inr ⟨1000, by decide +kernel, rfl, rfl⟩)
theorem dX1_loss_52 : D1 prog_3_method_2_code 52 (.idiv) 53 := ⟨by decide +kernel, rfl⟩
theorem dX1_loss_53 : D1 prog_3_method_2_code 53 (.ireturn) 54 := ⟨by decide +kernel, rfl⟩
theorem dX11_eat_0 : Daload prog_1_method_37_code 0 0 1 := Or.inl ⟨0, by decide +kernel, rfl, rfl⟩
theorem dX11_eat_1 : D3 prog_1_method_37_code 1 (.getfield 23) 4 := ⟨by decide +kernel, rfl⟩
theorem dX11_eat_4 : Dastore prog_1_method_37_code 4 1 5 := Or.inl ⟨1, by decide +kernel, rfl, rfl⟩
theorem dX11_eat_5 : Daload prog_1_method_37_code 5 1 6 := Or.inl ⟨1, by decide +kernel, rfl, rfl⟩
theorem dX11_eat_6 : D1 prog_1_method_37_code 6 (.arraylength) 7 := ⟨by decide +kernel, rfl⟩
theorem dX11_eat_7 : Distore prog_1_method_37_code 7 2 8 := Or.inl ⟨2, by decide +kernel, rfl, rfl⟩
theorem dX11_eat_8 : Dconst prog_1_method_37_code 8 0 9 := Or.inl ⟨0, by decide +kernel, rfl, rfl⟩
theorem dX11_eat_9 : Distore prog_1_method_37_code 9 3 10 := Or.inl ⟨3, by decide +kernel, rfl, rfl⟩
theorem dX11_eat_10 : Diload prog_1_method_37_code 10 3 11 := Or.inl ⟨3, by decide +kernel, rfl, rfl⟩
theorem dX11_eat_11 : Diload prog_1_method_37_code 11 2 12 := Or.inl ⟨2, by decide +kernel, rfl, rfl⟩
theorem dX11_eat_12 : Dj prog_1_method_37_code 12 (.if_icmp .ge 30) 30 15 42 := ⟨by decide +kernel, rfl, by decide⟩
theorem dX11_eat_15 : Daload prog_1_method_37_code 15 1 16 := Or.inl ⟨1, by decide +kernel, rfl, rfl⟩
theorem dX11_eat_16 : Diload prog_1_method_37_code 16 3 17 := Or.inl ⟨3, by decide +kernel, rfl, rfl⟩
theorem dX11_eat_17 : D1 prog_1_method_37_code 17 (.aaload) 18 := ⟨by decide +kernel, rfl⟩
theorem dX11_eat_18 : Dastore prog_1_method_37_code 18 4 20 := Or.inr ⟨by decide +kernel, rfl⟩
theorem dX11_eat_20 : Daload prog_1_method_37_code 20 4 22 := Or.inr ⟨by decide +kernel, rfl⟩
theorem dX11_eat_22 : D3 prog_1_method_37_code 22 (.getfield 198) 25 := ⟨by decide +kernel, rfl⟩
theorem dX11_eat_25 : Daload prog_1_method_37_code 25 4 27 := Or.inr ⟨by decide +kernel, rfl⟩
theorem dX11_eat_27 : D3 prog_1_method_37_code 27 (.getfield 154) 30 := ⟨by decide +kernel, rfl⟩
theorem dX11_eat_30 : D3 prog_1_method_37_code 30 (.invokevirtual 304) 33 := ⟨by decide +kernel, rfl⟩
theorem dX11_eat_33 : D3 prog_1_method_37_code 33 (.invokevirtual 307) 36 := ⟨by decide +kernel, rfl⟩
theorem dX11_eat_36 : Diinc prog_1_method_37_code 36 3 1 39 := ⟨1, by decide +kernel, rfl, rfl⟩
theorem dX11_eat_39 : Dj prog_1_method_37_code 39 (.goto (-29)) (-29) 42 10 := ⟨by decide +kernel, rfl, by decide⟩
theorem dX11_eat_42 : Daload prog_1_method_37_code 42 0 43 := Or.inl ⟨0, by decide +kernel, rfl, rfl⟩
theorem dX11_eat_43 : D3 prog_1_method_37_code 43 (.getfield 47) 46 := ⟨by decide +kernel, rfl⟩
theorem dX11_eat_46 : D3 prog_1_method_37_code 46 (.getfield 258) 49 := ⟨by decide +kernel, rfl⟩
theorem dX11_eat_49 : Dastore prog_1_method_37_code 49 1 50 := Or.inl ⟨1, by decide +kernel, rfl, rfl⟩
theorem dX11_eat_50 : Daload prog_1_method_37_code 50 1 51 := Or.inl ⟨1, by decide +kernel, rfl, rfl⟩
theorem dX11_eat_51 : Dj prog_1_method_37_code 51 (.ifnull 76) 76 54 127 := ⟨by decide +kernel, rfl, by decide⟩
theorem dX11_eat_54 : Daload prog_1_method_37_code 54 1 55 := Or.inl ⟨1, by decide +kernel, rfl, rfl⟩
theorem dX11_eat_55 : D3 prog_1_method_37_code 55 (.invokevirtual 144) 58 := ⟨by decide +kernel, rfl⟩
theorem dX11_eat_58 : Dj prog_1_method_37_code 58 (.ifCond .eq 61) 61 61 119 := ⟨by decide +kernel, rfl, by decide⟩
theorem dX11_eat_61 : Daload prog_1_method_37_code 61 1 62 := Or.inl ⟨1, by decide +kernel, rfl, rfl⟩
theorem dX11_eat_62 : D3 prog_1_method_37_code 62 (.getfield 150) 65 := ⟨by decide +kernel, rfl⟩
theorem dX11_eat_65 : D3 prog_1_method_37_code 65 (.getfield 198) 68 := ⟨by decide +kernel, rfl⟩
theorem dX11_eat_68 : Daload prog_1_method_37_code 68 1 69 := Or.inl ⟨1, by decide +kernel, rfl, rfl⟩
theorem dX11_eat_69 : D3 prog_1_method_37_code 69 (.getfield 147) 72 := ⟨by decide +kernel, rfl⟩
theorem dX11_eat_72 : Daload prog_1_method_37_code 72 1 73 := Or.inl ⟨1, by decide +kernel, rfl, rfl⟩
theorem dX11_eat_73 : D3 prog_1_method_37_code 73 (.getfield 150) 76 := ⟨by decide +kernel, rfl⟩
theorem dX11_eat_76 : D3 prog_1_method_37_code 76 (.getfield 161) 79 := ⟨by decide +kernel, rfl⟩
theorem dX11_eat_79 : D3 prog_1_method_37_code 79 (.getfield 101) 82 := ⟨by decide +kernel, rfl⟩
theorem dX11_eat_82 : D3 prog_1_method_37_code 82 (.invokevirtual 310) 85 := ⟨by decide +kernel, rfl⟩
theorem dX11_eat_85 : Distore prog_1_method_37_code 85 2 86 := Or.inl ⟨2, by decide +kernel, rfl, rfl⟩
theorem dX11_eat_86 : Daload prog_1_method_37_code 86 1 87 := Or.inl ⟨1, by decide +kernel, rfl, rfl⟩
theorem dX11_eat_87 : D1 prog_1_method_37_code 87 (.dup) 88 := ⟨by decide +kernel, rfl⟩
theorem dX11_eat_88 : D3 prog_1_method_37_code 88 (.getfield 147) 91 := ⟨by decide +kernel, rfl⟩
theorem dX11_eat_91 : Diload prog_1_method_37_code 91 2 92 := Or.inl ⟨2, by decide +kernel, rfl, rfl⟩
theorem dX11_eat_92 : D1 prog_1_method_37_code 92 (.isub) 93 := ⟨by decide +kernel, rfl⟩
theorem dX11_eat_93 : D3 prog_1_method_37_code 93 (.putfield 147) 96 := ⟨by decide +kernel, rfl⟩
theorem dX11_eat_96 : Daload prog_1_method_37_code 96 1 97 := Or.inl ⟨1, by decide +kernel, rfl, rfl⟩
theorem dX11_eat_97 : D3 prog_1_method_37_code 97 (.getfield 150) 100 := ⟨by decide +kernel, rfl⟩
theorem dX11_eat_100 : D1 prog_1_method_37_code 100 (.dup) 101 := ⟨by decide +kernel, rfl⟩
theorem dX11_eat_101 : D3 prog_1_method_37_code 101 (.getfield 313) 104 := ⟨by decide +kernel, rfl⟩
theorem dX11_eat_104 : Diload prog_1_method_37_code 104 2 105 := Or.inl ⟨2, by decide +kernel, rfl, rfl⟩
theorem dX11_eat_105 : D1 prog_1_method_37_code 105 (.iadd) 106 := ⟨by decide +kernel, rfl⟩
theorem dX11_eat_106 : D3 prog_1_method_37_code 106 (.putfield 313) 109 := ⟨by decide +kernel, rfl⟩
theorem dX11_eat_109 : Daload prog_1_method_37_code 109 0 110 := Or.inl ⟨0, by decide +kernel, rfl, rfl⟩
theorem dX11_eat_110 : D1 prog_1_method_37_code 110 (.dup) 111 := ⟨by decide +kernel, rfl⟩
theorem dX11_eat_111 : D3 prog_1_method_37_code 111 (.getfield 286) 114 := ⟨by decide +kernel, rfl⟩
theorem dX11_eat_114 : Diload prog_1_method_37_code 114 2 115 := Or.inl ⟨2, by decide +kernel, rfl, rfl⟩
theorem dX11_eat_115 : D1 prog_1_method_37_code 115 (.iadd) 116 := ⟨by decide +kernel, rfl⟩
theorem dX11_eat_116 : D3 prog_1_method_37_code 116 (.putfield 286) 119 := ⟨by decide +kernel, rfl⟩
theorem dX11_eat_119 : Daload prog_1_method_37_code 119 1 120 := Or.inl ⟨1, by decide +kernel, rfl, rfl⟩
theorem dX11_eat_120 : D3 prog_1_method_37_code 120 (.getfield 262) 123 := ⟨by decide +kernel, rfl⟩
theorem dX11_eat_123 : Dastore prog_1_method_37_code 123 1 124 := Or.inl ⟨1, by decide +kernel, rfl, rfl⟩
theorem dX11_eat_124 : Dj prog_1_method_37_code 124 (.goto (-74)) (-74) 127 50 := ⟨by decide +kernel, rfl, by decide⟩
theorem dX11_eat_127 : Daload prog_1_method_37_code 127 0 128 := Or.inl ⟨0, by decide +kernel, rfl, rfl⟩
theorem dX11_eat_128 : D3 prog_1_method_37_code 128 (.getfield 23) 131 := ⟨by decide +kernel, rfl⟩
theorem dX11_eat_131 : Dastore prog_1_method_37_code 131 1 132 := Or.inl ⟨1, by decide +kernel, rfl, rfl⟩
theorem dX11_eat_132 : Daload prog_1_method_37_code 132 1 133 := Or.inl ⟨1, by decide +kernel, rfl, rfl⟩
theorem dX11_eat_133 : D1 prog_1_method_37_code 133 (.arraylength) 134 := ⟨by decide +kernel, rfl⟩
theorem dX11_eat_134 : Distore prog_1_method_37_code 134 2 135 := Or.inl ⟨2, by decide +kernel, rfl, rfl⟩
theorem dX11_eat_135 : Dconst prog_1_method_37_code 135 0 136 := Or.inl ⟨0, by decide +kernel, rfl, rfl⟩
theorem dX11_eat_136 : Distore prog_1_method_37_code 136 3 137 := Or.inl ⟨3, by decide +kernel, rfl, rfl⟩
theorem dX11_eat_137 : Diload prog_1_method_37_code 137 3 138 := Or.inl ⟨3, by decide +kernel, rfl, rfl⟩
theorem dX11_eat_138 : Diload prog_1_method_37_code 138 2 139 := Or.inl ⟨2, by decide +kernel, rfl, rfl⟩
theorem dX11_eat_139 : Dj prog_1_method_37_code 139 (.if_icmp .ge 32) 32 142 171 := ⟨by decide +kernel, rfl, by decide⟩
theorem dX11_eat_142 : Daload prog_1_method_37_code 142 1 143 := Or.inl ⟨1, by decide +kernel, rfl, rfl⟩
theorem dX11_eat_143 : Diload prog_1_method_37_code 143 3 144 := Or.inl ⟨3, by decide +kernel, rfl, rfl⟩
theorem dX11_eat_144 : D1 prog_1_method_37_code 144 (.aaload) 145 := ⟨by decide +kernel, rfl⟩
theorem dX11_eat_145 : Dastore prog_1_method_37_code 145 4 147 := Or.inr ⟨by decide +kernel, rfl⟩
theorem dX11_eat_147 : Daload prog_1_method_37_code 147 4 149 := Or.inr ⟨by decide +kernel, rfl⟩
theorem dX11_eat_149 : D1 prog_1_method_37_code 149 (.dup) 150 := ⟨by decide +kernel, rfl⟩
theorem dX11_eat_150 : D3 prog_1_method_37_code 150 (.getfield 207) 153 := ⟨by decide +kernel, rfl⟩
theorem dX11_eat_153 : Daload prog_1_method_37_code 153 4 155 := Or.inr ⟨by decide +kernel, rfl⟩
theorem dX11_eat_155 : D3 prog_1_method_37_code 155 (.getfield 198) 158 := ⟨by decide +kernel, rfl⟩
theorem dX11_eat_158 : D3 prog_1_method_37_code 158 (.getfield 316) 161 := ⟨by decide +kernel, rfl⟩
theorem dX11_eat_161 : D1 prog_1_method_37_code 161 (.iadd) 162 := ⟨by decide +kernel, rfl⟩
theorem dX11_eat_162 : D3 prog_1_method_37_code 162 (.putfield 207) 165 := ⟨by decide +kernel, rfl⟩
theorem dX11_eat_165 : Diinc prog_1_method_37_code 165 3 1 168 := ⟨1, by decide +kernel, rfl, rfl⟩
theorem dX11_eat_168 : Dj prog_1_method_37_code 168 (.goto (-31)) (-31) 171 137 := ⟨by decide +kernel, rfl, by decide⟩
theorem dX11_eat_171 : D1 prog_1_method_37_code 171 (.return_) 172 := ⟨by decide +kernel, rfl⟩
theorem dX5_wants_0 : Dconst prog_7_method_2_code 0 7 2 := Or.inr (Or.inl ⟨7, by decide +kernel, rfl, rfl⟩)
theorem dX5_wants_2 : Daload prog_7_method_2_code 2 0 3 := Or.inl ⟨0, by decide +kernel, rfl, rfl⟩
theorem dX5_wants_3 : D3 prog_7_method_2_code 3 (.getfield 15) 6 := ⟨by decide +kernel, rfl⟩
theorem dX5_wants_6 : D1 prog_7_method_2_code 6 (.imul) 7 := ⟨by decide +kernel, rfl⟩
theorem dX5_wants_7 : D1 prog_7_method_2_code 7 (.ireturn) 8 := ⟨by decide +kernel, rfl⟩
theorem dX9_sitDown_0 : Daload prog_11_method_2_code 0 0 1 := Or.inl ⟨0, by decide +kernel, rfl, rfl⟩
theorem dX9_sitDown_1 : D3 prog_11_method_2_code 1 (.getfield 7) 4 := ⟨by decide +kernel, rfl⟩
theorem dX9_sitDown_4 : Diload prog_11_method_2_code 4 1 5 := Or.inl ⟨1, by decide +kernel, rfl, rfl⟩
theorem dX9_sitDown_5 : D3 prog_11_method_2_code 5 (.invokestatic 13) 8 := ⟨by decide +kernel, rfl⟩
theorem dX9_sitDown_8 : Distore prog_11_method_2_code 8 2 9 := Or.inl ⟨2, by decide +kernel, rfl, rfl⟩
theorem dX9_sitDown_9 : Daload prog_11_method_2_code 9 0 10 := Or.inl ⟨0, by decide +kernel, rfl, rfl⟩
theorem dX9_sitDown_10 : D1 prog_11_method_2_code 10 (.dup) 11 := ⟨by decide +kernel, rfl⟩
theorem dX9_sitDown_11 : D3 prog_11_method_2_code 11 (.getfield 7) 14 := ⟨by decide +kernel, rfl⟩
theorem dX9_sitDown_14 : Diload prog_11_method_2_code 14 2 15 := Or.inl ⟨2, by decide +kernel, rfl, rfl⟩
theorem dX9_sitDown_15 : D1 prog_11_method_2_code 15 (.isub) 16 := ⟨by decide +kernel, rfl⟩
theorem dX9_sitDown_16 : D3 prog_11_method_2_code 16 (.putfield 7) 19 := ⟨by decide +kernel, rfl⟩
theorem dX9_sitDown_19 : Daload prog_11_method_2_code 19 0 20 := Or.inl ⟨0, by decide +kernel, rfl, rfl⟩
theorem dX9_sitDown_20 : Diload prog_11_method_2_code 20 1 21 := Or.inl ⟨1, by decide +kernel, rfl, rfl⟩
theorem dX9_sitDown_21 : Diload prog_11_method_2_code 21 2 22 := Or.inl ⟨2, by decide +kernel, rfl, rfl⟩
theorem dX9_sitDown_22 : D1 prog_11_method_2_code 22 (.isub) 23 := ⟨by decide +kernel, rfl⟩
theorem dX9_sitDown_23 : D3 prog_11_method_2_code 23 (.putfield 19) 26 := ⟨by decide +kernel, rfl⟩
theorem dX9_sitDown_26 : D1 prog_11_method_2_code 26 (.return_) 27 := ⟨by decide +kernel, rfl⟩
theorem dX9_openFrom_0 : Daload prog_11_method_3_code 0 0 1 := Or.inl ⟨0, by decide +kernel, rfl, rfl⟩
theorem dX9_openFrom_1 : D3 prog_11_method_3_code 1 (.getfield 19) 4 := ⟨by decide +kernel, rfl⟩
theorem dX9_openFrom_4 : Dj prog_11_method_3_code 4 (.ifCond .le 11) 11 7 15 := ⟨by decide +kernel, rfl, by decide⟩
theorem dX9_openFrom_7 : Diload prog_11_method_3_code 7 1 8 := Or.inl ⟨1, by decide +kernel, rfl, rfl⟩
theorem dX9_openFrom_8 : Dj prog_11_method_3_code 8 (.ifCond .le 7) 7 11 15 := ⟨by decide +kernel, rfl, by decide⟩
theorem dX9_openFrom_11 : Diload prog_11_method_3_code 11 2 12 := Or.inl ⟨2, by decide +kernel, rfl, rfl⟩
theorem dX9_openFrom_12 : Dj prog_11_method_3_code 12 (.ifCond .gt 5) 5 15 17 := ⟨by decide +kernel, rfl, by decide⟩
theorem dX9_openFrom_15 : Dconst prog_11_method_3_code 15 0 16 := Or.inl ⟨0, by decide +kernel, rfl, rfl⟩
theorem dX9_openFrom_16 : D1 prog_11_method_3_code 16 (.ireturn) 17 := ⟨by decide +kernel, rfl⟩
theorem dX9_openFrom_17 : Diload prog_11_method_3_code 17 1 18 := Or.inl ⟨1, by decide +kernel, rfl, rfl⟩
theorem dX9_openFrom_18 : Daload prog_11_method_3_code 18 0 19 := Or.inl ⟨0, by decide +kernel, rfl, rfl⟩
theorem dX9_openFrom_19 : D3 prog_11_method_3_code 19 (.getfield 19) 22 := ⟨by decide +kernel, rfl⟩
theorem dX9_openFrom_22 : Diload prog_11_method_3_code 22 2 23 := Or.inl ⟨2, by decide +kernel, rfl, rfl⟩
theorem dX9_openFrom_23 : D1 prog_11_method_3_code 23 (.iadd) 24 := ⟨by decide +kernel, rfl⟩
theorem dX9_openFrom_24 : Dconst prog_11_method_3_code 24 1 25 := Or.inl ⟨1, by decide +kernel, rfl, rfl⟩
theorem dX9_openFrom_25 : D1 prog_11_method_3_code 25 (.isub) 26 := ⟨by decide +kernel, rfl⟩
theorem dX9_openFrom_26 : Diload prog_11_method_3_code 26 2 27 := Or.inl ⟨2, by decide +kernel, rfl, rfl⟩
theorem dX9_openFrom_27 : D1 prog_11_method_3_code 27 (.idiv) 28 := ⟨by decide +kernel, rfl⟩
theorem dX9_openFrom_28 : D3 prog_11_method_3_code 28 (.invokestatic 13) 31 := ⟨by decide +kernel, rfl⟩
theorem dX9_openFrom_31 : Distore prog_11_method_3_code 31 3 32 := Or.inl ⟨3, by decide +kernel, rfl, rfl⟩
theorem dX9_openFrom_32 : Diload prog_11_method_3_code 32 3 33 := Or.inl ⟨3, by decide +kernel, rfl, rfl⟩
theorem dX9_openFrom_33 : Diload prog_11_method_3_code 33 2 34 := Or.inl ⟨2, by decide +kernel, rfl, rfl⟩
theorem dX9_openFrom_34 : D1 prog_11_method_3_code 34 (.imul) 35 := ⟨by decide +kernel, rfl⟩
theorem dX9_openFrom_35 : Distore prog_11_method_3_code 35 4 37 := Or.inr ⟨by decide +kernel, rfl⟩
theorem dX9_openFrom_37 : Daload prog_11_method_3_code 37 0 38 := Or.inl ⟨0, by decide +kernel, rfl, rfl⟩
theorem dX9_openFrom_38 : Dconst prog_11_method_3_code 38 0 39 := Or.inl ⟨0, by decide +kernel, rfl, rfl⟩
theorem dX9_openFrom_39 : Diload prog_11_method_3_code 39 4 41 := Or.inr ⟨by decide +kernel, rfl⟩
theorem dX9_openFrom_41 : Daload prog_11_method_3_code 41 0 42 := Or.inl ⟨0, by decide +kernel, rfl, rfl⟩
theorem dX9_openFrom_42 : D3 prog_11_method_3_code 42 (.getfield 19) 45 := ⟨by decide +kernel, rfl⟩
theorem dX9_openFrom_45 : D1 prog_11_method_3_code 45 (.isub) 46 := ⟨by decide +kernel, rfl⟩
theorem dX9_openFrom_46 : D3 prog_11_method_3_code 46 (.invokestatic 22) 49 := ⟨by decide +kernel, rfl⟩
theorem dX9_openFrom_49 : D3 prog_11_method_3_code 49 (.putfield 7) 52 := ⟨by decide +kernel, rfl⟩
theorem dX9_openFrom_52 : Daload prog_11_method_3_code 52 0 53 := Or.inl ⟨0, by decide +kernel, rfl, rfl⟩
theorem dX9_openFrom_53 : Dconst prog_11_method_3_code 53 0 54 := Or.inl ⟨0, by decide +kernel, rfl, rfl⟩
theorem dX9_openFrom_54 : Daload prog_11_method_3_code 54 0 55 := Or.inl ⟨0, by decide +kernel, rfl, rfl⟩
theorem dX9_openFrom_55 : D3 prog_11_method_3_code 55 (.getfield 19) 58 := ⟨by decide +kernel, rfl⟩
theorem dX9_openFrom_58 : Diload prog_11_method_3_code 58 4 60 := Or.inr ⟨by decide +kernel, rfl⟩
theorem dX9_openFrom_60 : D1 prog_11_method_3_code 60 (.isub) 61 := ⟨by decide +kernel, rfl⟩
theorem dX9_openFrom_61 : D3 prog_11_method_3_code 61 (.invokestatic 22) 64 := ⟨by decide +kernel, rfl⟩
theorem dX9_openFrom_64 : D3 prog_11_method_3_code 64 (.putfield 19) 67 := ⟨by decide +kernel, rfl⟩
theorem dX9_openFrom_67 : Diload prog_11_method_3_code 67 3 68 := Or.inl ⟨3, by decide +kernel, rfl, rfl⟩
theorem dX9_openFrom_68 : D1 prog_11_method_3_code 68 (.ireturn) 69 := ⟨by decide +kernel, rfl⟩
theorem dX11_writeStocks_0 : Dconst prog_1_method_38_code 0 32 2 := Or.inr (Or.inl ⟨32, by decide +kernel, rfl, rfl⟩)
theorem dX11_writeStocks_2 : D2 prog_1_method_38_code 2 (.newarray .int) 4 := ⟨by decide +kernel, rfl⟩
theorem dX11_writeStocks_4 : Dastore prog_1_method_38_code 4 1 5 := Or.inl ⟨1, by decide +kernel, rfl, rfl⟩
theorem dX11_writeStocks_5 : Daload prog_1_method_38_code 5 0 6 := Or.inl ⟨0, by decide +kernel, rfl, rfl⟩
theorem dX11_writeStocks_6 : D3 prog_1_method_38_code 6 (.getfield 47) 9 := ⟨by decide +kernel, rfl⟩
theorem dX11_writeStocks_9 : D3 prog_1_method_38_code 9 (.getfield 258) 12 := ⟨by decide +kernel, rfl⟩
theorem dX11_writeStocks_12 : Dastore prog_1_method_38_code 12 2 13 := Or.inl ⟨2, by decide +kernel, rfl, rfl⟩
theorem dX11_writeStocks_13 : Daload prog_1_method_38_code 13 2 14 := Or.inl ⟨2, by decide +kernel, rfl, rfl⟩
theorem dX11_writeStocks_14 : Dj prog_1_method_38_code 14 (.ifnull 34) 34 17 48 := ⟨by decide +kernel, rfl, by decide⟩
theorem dX11_writeStocks_17 : Daload prog_1_method_38_code 17 2 18 := Or.inl ⟨2, by decide +kernel, rfl, rfl⟩
theorem dX11_writeStocks_18 : D3 prog_1_method_38_code 18 (.invokevirtual 144) 21 := ⟨by decide +kernel, rfl⟩
theorem dX11_writeStocks_21 : Dj prog_1_method_38_code 21 (.ifCond .eq 19) 19 24 40 := ⟨by decide +kernel, rfl, by decide⟩
theorem dX11_writeStocks_24 : Daload prog_1_method_38_code 24 1 25 := Or.inl ⟨1, by decide +kernel, rfl, rfl⟩
theorem dX11_writeStocks_25 : Daload prog_1_method_38_code 25 2 26 := Or.inl ⟨2, by decide +kernel, rfl, rfl⟩
theorem dX11_writeStocks_26 : D3 prog_1_method_38_code 26 (.getfield 150) 29 := ⟨by decide +kernel, rfl⟩
theorem dX11_writeStocks_29 : D3 prog_1_method_38_code 29 (.getfield 292) 32 := ⟨by decide +kernel, rfl⟩
theorem dX11_writeStocks_32 : D1 prog_1_method_38_code 32 (.dup2) 33 := ⟨by decide +kernel, rfl⟩
theorem dX11_writeStocks_33 : D1 prog_1_method_38_code 33 (.iaload) 34 := ⟨by decide +kernel, rfl⟩
theorem dX11_writeStocks_34 : Daload prog_1_method_38_code 34 2 35 := Or.inl ⟨2, by decide +kernel, rfl, rfl⟩
theorem dX11_writeStocks_35 : D3 prog_1_method_38_code 35 (.getfield 147) 38 := ⟨by decide +kernel, rfl⟩
theorem dX11_writeStocks_38 : D1 prog_1_method_38_code 38 (.iadd) 39 := ⟨by decide +kernel, rfl⟩
theorem dX11_writeStocks_39 : D1 prog_1_method_38_code 39 (.iastore) 40 := ⟨by decide +kernel, rfl⟩
theorem dX11_writeStocks_40 : Daload prog_1_method_38_code 40 2 41 := Or.inl ⟨2, by decide +kernel, rfl, rfl⟩
theorem dX11_writeStocks_41 : D3 prog_1_method_38_code 41 (.getfield 262) 44 := ⟨by decide +kernel, rfl⟩
theorem dX11_writeStocks_44 : Dastore prog_1_method_38_code 44 2 45 := Or.inl ⟨2, by decide +kernel, rfl, rfl⟩
theorem dX11_writeStocks_45 : Dj prog_1_method_38_code 45 (.goto (-32)) (-32) 48 13 := ⟨by decide +kernel, rfl, by decide⟩
theorem dX11_writeStocks_48 : Daload prog_1_method_38_code 48 0 49 := Or.inl ⟨0, by decide +kernel, rfl, rfl⟩
theorem dX11_writeStocks_49 : D3 prog_1_method_38_code 49 (.getfield 29) 52 := ⟨by decide +kernel, rfl⟩
theorem dX11_writeStocks_52 : Daload prog_1_method_38_code 52 0 53 := Or.inl ⟨0, by decide +kernel, rfl, rfl⟩
theorem dX11_writeStocks_53 : D3 prog_1_method_38_code 53 (.getfield 121) 56 := ⟨by decide +kernel, rfl⟩
theorem dX11_writeStocks_56 : Daload prog_1_method_38_code 56 1 57 := Or.inl ⟨1, by decide +kernel, rfl, rfl⟩
theorem dX11_writeStocks_57 : D1 prog_1_method_38_code 57 (.aastore) 58 := ⟨by decide +kernel, rfl⟩
theorem dX11_writeStocks_58 : D1 prog_1_method_38_code 58 (.return_) 59 := ⟨by decide +kernel, rfl⟩
theorem dX11_lot_0 : Daload prog_1_method_10_code 0 0 1 := Or.inl ⟨0, by decide +kernel, rfl, rfl⟩
theorem dX11_lot_1 : D3 prog_1_method_10_code 1 (.getfield 47) 4 := ⟨by decide +kernel, rfl⟩
theorem dX11_lot_4 : Diload prog_1_method_10_code 4 1 5 := Or.inl ⟨1, by decide +kernel, rfl, rfl⟩
theorem dX11_lot_5 : D3 prog_1_method_10_code 5 (.invokevirtual 140) 8 := ⟨by decide +kernel, rfl⟩
theorem dX11_lot_8 : Dastore prog_1_method_10_code 8 3 9 := Or.inl ⟨3, by decide +kernel, rfl, rfl⟩
theorem dX11_lot_9 : Daload prog_1_method_10_code 9 3 10 := Or.inl ⟨3, by decide +kernel, rfl, rfl⟩
theorem dX11_lot_10 : Dj prog_1_method_10_code 10 (.ifnonnull 7) 7 13 17 := ⟨by decide +kernel, rfl, by decide⟩
theorem dX11_lot_13 : Dconst prog_1_method_10_code 13 (-1) 14 := Or.inl ⟨(-1), by decide +kernel, rfl, rfl⟩
theorem dX11_lot_14 : Dj prog_1_method_10_code 14 (.goto 8) 8 17 22 := ⟨by decide +kernel, rfl, by decide⟩
theorem dX11_lot_17 : Daload prog_1_method_10_code 17 3 18 := Or.inl ⟨3, by decide +kernel, rfl, rfl⟩
theorem dX11_lot_18 : Diload prog_1_method_10_code 18 2 19 := Or.inl ⟨2, by decide +kernel, rfl, rfl⟩
theorem dX11_lot_19 : D3 prog_1_method_10_code 19 (.invokevirtual 190) 22 := ⟨by decide +kernel, rfl⟩
theorem dX11_lot_22 : D1 prog_1_method_10_code 22 (.ireturn) 23 := ⟨by decide +kernel, rfl⟩
theorem dX3_told_0 : Diload prog_5_method_4_code 0 1 1 := Or.inl ⟨1, by decide +kernel, rfl, rfl⟩
theorem dX3_told_1 : decode prog_5_method_4_code 1 = .ok (.tableswitch 99 0 7 #[47, 52, 63, 68, 73, 84, 89, 94], 47) := by decide +kernel
theorem dX3_told_48 : Daload prog_5_method_4_code 48 0 49 := Or.inl ⟨0, by decide +kernel, rfl, rfl⟩
theorem dX3_told_49 : D3 prog_5_method_4_code 49 (.getfield 15) 52 := ⟨by decide +kernel, rfl⟩
theorem dX3_told_52 : D1 prog_5_method_4_code 52 (.ireturn) 53 := ⟨by decide +kernel, rfl⟩
theorem dX3_told_53 : Daload prog_5_method_4_code 53 0 54 := Or.inl ⟨0, by decide +kernel, rfl, rfl⟩
theorem dX3_told_54 : D3 prog_5_method_4_code 54 (.getfield 9) 57 := ⟨by decide +kernel, rfl⟩
theorem dX3_told_57 : D3 prog_5_method_4_code 57 (.getfield 37) 60 := ⟨by decide +kernel, rfl⟩
theorem dX3_told_60 : D3 prog_5_method_4_code 60 (.getfield 43) 63 := ⟨by decide +kernel, rfl⟩
theorem dX3_told_63 : D1 prog_5_method_4_code 63 (.ireturn) 64 := ⟨by decide +kernel, rfl⟩
theorem dX3_told_64 : Daload prog_5_method_4_code 64 0 65 := Or.inl ⟨0, by decide +kernel, rfl, rfl⟩
theorem dX3_told_65 : D3 prog_5_method_4_code 65 (.getfield 19) 68 := ⟨by decide +kernel, rfl⟩
theorem dX3_told_68 : D1 prog_5_method_4_code 68 (.ireturn) 69 := ⟨by decide +kernel, rfl⟩
theorem dX3_told_69 : Daload prog_5_method_4_code 69 0 70 := Or.inl ⟨0, by decide +kernel, rfl, rfl⟩
theorem dX3_told_70 : D3 prog_5_method_4_code 70 (.getfield 31) 73 := ⟨by decide +kernel, rfl⟩
theorem dX3_told_73 : D1 prog_5_method_4_code 73 (.ireturn) 74 := ⟨by decide +kernel, rfl⟩
theorem dX3_told_74 : Daload prog_5_method_4_code 74 0 75 := Or.inl ⟨0, by decide +kernel, rfl, rfl⟩
theorem dX3_told_75 : D3 prog_5_method_4_code 75 (.getfield 9) 78 := ⟨by decide +kernel, rfl⟩
theorem dX3_told_78 : D3 prog_5_method_4_code 78 (.getfield 48) 81 := ⟨by decide +kernel, rfl⟩
theorem dX3_told_81 : D3 prog_5_method_4_code 81 (.getfield 52) 84 := ⟨by decide +kernel, rfl⟩
theorem dX3_told_84 : D1 prog_5_method_4_code 84 (.ireturn) 85 := ⟨by decide +kernel, rfl⟩
theorem dX3_told_85 : Daload prog_5_method_4_code 85 0 86 := Or.inl ⟨0, by decide +kernel, rfl, rfl⟩
theorem dX3_told_86 : D3 prog_5_method_4_code 86 (.getfield 34) 89 := ⟨by decide +kernel, rfl⟩
theorem dX3_told_89 : D1 prog_5_method_4_code 89 (.ireturn) 90 := ⟨by decide +kernel, rfl⟩
theorem dX3_told_90 : Daload prog_5_method_4_code 90 0 91 := Or.inl ⟨0, by decide +kernel, rfl, rfl⟩
theorem dX3_told_91 : D3 prog_5_method_4_code 91 (.getfield 22) 94 := ⟨by decide +kernel, rfl⟩
theorem dX3_told_94 : D1 prog_5_method_4_code 94 (.ireturn) 95 := ⟨by decide +kernel, rfl⟩
theorem dX3_told_95 : Daload prog_5_method_4_code 95 0 96 := Or.inl ⟨0, by decide +kernel, rfl, rfl⟩
theorem dX3_told_96 : D3 prog_5_method_4_code 96 (.getfield 25) 99 := ⟨by decide +kernel, rfl⟩
theorem dX3_told_99 : D1 prog_5_method_4_code 99 (.ireturn) 100 := ⟨by decide +kernel, rfl⟩
theorem dX3_told_100 : Dconst prog_5_method_4_code 100 (-1) 101 := Or.inl ⟨(-1), by decide +kernel, rfl, rfl⟩
theorem dX3_told_101 : D1 prog_5_method_4_code 101 (.ireturn) 102 := ⟨by decide +kernel, rfl⟩
theorem dX11_stock_0 : Daload prog_1_method_11_code 0 0 1 := Or.inl ⟨0, by decide +kernel, rfl, rfl⟩
theorem dX11_stock_1 : Diload prog_1_method_11_code 1 1 2 := Or.inl ⟨1, by decide +kernel, rfl, rfl⟩
theorem dX11_stock_2 : Diload prog_1_method_11_code 2 2 3 := Or.inl ⟨2, by decide +kernel, rfl, rfl⟩
theorem dX11_stock_3 : D3 prog_1_method_11_code 3 (.invokevirtual 110) 6 := ⟨by decide +kernel, rfl⟩
theorem dX11_stock_6 : Dastore prog_1_method_11_code 6 3 7 := Or.inl ⟨3, by decide +kernel, rfl, rfl⟩
theorem dX11_stock_7 : Daload prog_1_method_11_code 7 3 8 := Or.inl ⟨3, by decide +kernel, rfl, rfl⟩
theorem dX11_stock_8 : Dj prog_1_method_11_code 8 (.ifnonnull 7) 7 11 15 := ⟨by decide +kernel, rfl, by decide⟩
theorem dX11_stock_11 : Dconst prog_1_method_11_code 11 (-1) 12 := Or.inl ⟨(-1), by decide +kernel, rfl, rfl⟩
theorem dX11_stock_12 : Dj prog_1_method_11_code 12 (.goto 11) 11 15 23 := ⟨by decide +kernel, rfl, by decide⟩
theorem dX11_stock_15 : Daload prog_1_method_11_code 15 0 16 := Or.inl ⟨0, by decide +kernel, rfl, rfl⟩
theorem dX11_stock_16 : D3 prog_1_method_11_code 16 (.getfield 47) 19 := ⟨by decide +kernel, rfl⟩
theorem dX11_stock_19 : Daload prog_1_method_11_code 19 3 20 := Or.inl ⟨3, by decide +kernel, rfl, rfl⟩
theorem dX11_stock_20 : D3 prog_1_method_11_code 20 (.invokevirtual 194) 23 := ⟨by decide +kernel, rfl⟩
theorem dX11_stock_23 : D1 prog_1_method_11_code 23 (.ireturn) 24 := ⟨by decide +kernel, rfl⟩
theorem dX4_casksAt_0 : Dconst prog_6_method_6_code 0 0 1 := Or.inl ⟨0, by decide +kernel, rfl, rfl⟩
theorem dX4_casksAt_1 : Distore prog_6_method_6_code 1 2 2 := Or.inl ⟨2, by decide +kernel, rfl, rfl⟩
theorem dX4_casksAt_2 : Daload prog_6_method_6_code 2 0 3 := Or.inl ⟨0, by decide +kernel, rfl, rfl⟩
theorem dX4_casksAt_3 : D3 prog_6_method_6_code 3 (.getfield 33) 6 := ⟨by decide +kernel, rfl⟩
theorem dX4_casksAt_6 : Dastore prog_6_method_6_code 6 3 7 := Or.inl ⟨3, by decide +kernel, rfl, rfl⟩
theorem dX4_casksAt_7 : Daload prog_6_method_6_code 7 3 8 := Or.inl ⟨3, by decide +kernel, rfl, rfl⟩
theorem dX4_casksAt_8 : Dj prog_6_method_6_code 8 (.ifnull 33) 33 11 41 := ⟨by decide +kernel, rfl, by decide⟩
theorem dX4_casksAt_11 : Daload prog_6_method_6_code 11 3 12 := Or.inl ⟨3, by decide +kernel, rfl, rfl⟩
theorem dX4_casksAt_12 : D3 prog_6_method_6_code 12 (.getfield 43) 15 := ⟨by decide +kernel, rfl⟩
theorem dX4_casksAt_15 : Daload prog_6_method_6_code 15 1 16 := Or.inl ⟨1, by decide +kernel, rfl, rfl⟩
theorem dX4_casksAt_16 : Dj prog_6_method_6_code 16 (.if_acmp .ne 17) 17 19 33 := ⟨by decide +kernel, rfl, by decide⟩
theorem dX4_casksAt_19 : Daload prog_6_method_6_code 19 3 20 := Or.inl ⟨3, by decide +kernel, rfl, rfl⟩
theorem dX4_casksAt_20 : D3 prog_6_method_6_code 20 (.invokevirtual 47) 23 := ⟨by decide +kernel, rfl⟩
theorem dX4_casksAt_23 : Dj prog_6_method_6_code 23 (.ifCond .eq 10) 10 26 33 := ⟨by decide +kernel, rfl, by decide⟩
theorem dX4_casksAt_26 : Diload prog_6_method_6_code 26 2 27 := Or.inl ⟨2, by decide +kernel, rfl, rfl⟩
theorem dX4_casksAt_27 : Daload prog_6_method_6_code 27 3 28 := Or.inl ⟨3, by decide +kernel, rfl, rfl⟩
theorem dX4_casksAt_28 : D3 prog_6_method_6_code 28 (.getfield 50) 31 := ⟨by decide +kernel, rfl⟩
theorem dX4_casksAt_31 : D1 prog_6_method_6_code 31 (.iadd) 32 := ⟨by decide +kernel, rfl⟩
theorem dX4_casksAt_32 : Distore prog_6_method_6_code 32 2 33 := Or.inl ⟨2, by decide +kernel, rfl, rfl⟩
theorem dX4_casksAt_33 : Daload prog_6_method_6_code 33 3 34 := Or.inl ⟨3, by decide +kernel, rfl, rfl⟩
theorem dX4_casksAt_34 : D3 prog_6_method_6_code 34 (.getfield 37) 37 := ⟨by decide +kernel, rfl⟩
theorem dX4_casksAt_37 : Dastore prog_6_method_6_code 37 3 38 := Or.inl ⟨3, by decide +kernel, rfl, rfl⟩
theorem dX4_casksAt_38 : Dj prog_6_method_6_code 38 (.goto (-31)) (-31) 41 7 := ⟨by decide +kernel, rfl, by decide⟩
theorem dX4_casksAt_41 : Diload prog_6_method_6_code 41 2 42 := Or.inl ⟨2, by decide +kernel, rfl, rfl⟩
theorem dX4_casksAt_42 : D1 prog_6_method_6_code 42 (.ireturn) 43 := ⟨by decide +kernel, rfl⟩
theorem dX11_open_0 : Daload prog_1_method_12_code 0 0 1 := Or.inl ⟨0, by decide +kernel, rfl, rfl⟩
theorem dX11_open_1 : Diload prog_1_method_12_code 1 1 2 := Or.inl ⟨1, by decide +kernel, rfl, rfl⟩
theorem dX11_open_2 : Diload prog_1_method_12_code 2 2 3 := Or.inl ⟨2, by decide +kernel, rfl, rfl⟩
theorem dX11_open_3 : D3 prog_1_method_12_code 3 (.invokevirtual 110) 6 := ⟨by decide +kernel, rfl⟩
theorem dX11_open_6 : Dastore prog_1_method_12_code 6 3 7 := Or.inl ⟨3, by decide +kernel, rfl, rfl⟩
theorem dX11_open_7 : Daload prog_1_method_12_code 7 3 8 := Or.inl ⟨3, by decide +kernel, rfl, rfl⟩
theorem dX11_open_8 : Dj prog_1_method_12_code 8 (.ifnonnull 7) 7 11 15 := ⟨by decide +kernel, rfl, by decide⟩
theorem dX11_open_11 : Dconst prog_1_method_12_code 11 (-1) 12 := Or.inl ⟨(-1), by decide +kernel, rfl, rfl⟩
theorem dX11_open_12 : Dj prog_1_method_12_code 12 (.goto 10) 10 15 22 := ⟨by decide +kernel, rfl, by decide⟩
theorem dX11_open_15 : Daload prog_1_method_12_code 15 3 16 := Or.inl ⟨3, by decide +kernel, rfl, rfl⟩
theorem dX11_open_16 : D3 prog_1_method_12_code 16 (.getfield 198) 19 := ⟨by decide +kernel, rfl⟩
theorem dX11_open_19 : D3 prog_1_method_12_code 19 (.getfield 202) 22 := ⟨by decide +kernel, rfl⟩
theorem dX11_open_22 : D1 prog_1_method_12_code 22 (.ireturn) 23 := ⟨by decide +kernel, rfl⟩
theorem dX11_lacks_0 : Daload prog_1_method_13_code 0 0 1 := Or.inl ⟨0, by decide +kernel, rfl, rfl⟩
theorem dX11_lacks_1 : Diload prog_1_method_13_code 1 1 2 := Or.inl ⟨1, by decide +kernel, rfl, rfl⟩
theorem dX11_lacks_2 : Diload prog_1_method_13_code 2 2 3 := Or.inl ⟨2, by decide +kernel, rfl, rfl⟩
theorem dX11_lacks_3 : D3 prog_1_method_13_code 3 (.invokevirtual 110) 6 := ⟨by decide +kernel, rfl⟩
theorem dX11_lacks_6 : Dastore prog_1_method_13_code 6 3 7 := Or.inl ⟨3, by decide +kernel, rfl, rfl⟩
theorem dX11_lacks_7 : Daload prog_1_method_13_code 7 3 8 := Or.inl ⟨3, by decide +kernel, rfl, rfl⟩
theorem dX11_lacks_8 : Dj prog_1_method_13_code 8 (.ifnonnull 7) 7 11 15 := ⟨by decide +kernel, rfl, by decide⟩
theorem dX11_lacks_11 : Dconst prog_1_method_13_code 11 (-1) 12 := Or.inl ⟨(-1), by decide +kernel, rfl, rfl⟩
theorem dX11_lacks_12 : Dj prog_1_method_13_code 12 (.goto 7) 7 15 19 := ⟨by decide +kernel, rfl, by decide⟩
theorem dX11_lacks_15 : Daload prog_1_method_13_code 15 3 16 := Or.inl ⟨3, by decide +kernel, rfl, rfl⟩
theorem dX11_lacks_16 : D3 prog_1_method_13_code 16 (.getfield 207) 19 := ⟨by decide +kernel, rfl⟩
theorem dX11_lacks_19 : D1 prog_1_method_13_code 19 (.ireturn) 20 := ⟨by decide +kernel, rfl⟩
theorem dX11_known_0 : Daload prog_1_method_14_code 0 0 1 := Or.inl ⟨0, by decide +kernel, rfl, rfl⟩
theorem dX11_known_1 : Diload prog_1_method_14_code 1 1 2 := Or.inl ⟨1, by decide +kernel, rfl, rfl⟩
theorem dX11_known_2 : Diload prog_1_method_14_code 2 2 3 := Or.inl ⟨2, by decide +kernel, rfl, rfl⟩
theorem dX11_known_3 : D3 prog_1_method_14_code 3 (.invokevirtual 110) 6 := ⟨by decide +kernel, rfl⟩
theorem dX11_known_6 : Dastore prog_1_method_14_code 6 4 8 := Or.inr ⟨by decide +kernel, rfl⟩
theorem dX11_known_8 : Daload prog_1_method_14_code 8 4 10 := Or.inr ⟨by decide +kernel, rfl⟩
theorem dX11_known_10 : Dj prog_1_method_14_code 10 (.ifnull 15) 15 13 25 := ⟨by decide +kernel, rfl, by decide⟩
theorem dX11_known_13 : Diload prog_1_method_14_code 13 3 14 := Or.inl ⟨3, by decide +kernel, rfl, rfl⟩
theorem dX11_known_14 : Dconst prog_1_method_14_code 14 0 15 := Or.inl ⟨0, by decide +kernel, rfl, rfl⟩
theorem dX11_known_15 : Daload prog_1_method_14_code 15 0 16 := Or.inl ⟨0, by decide +kernel, rfl, rfl⟩
theorem dX11_known_16 : D3 prog_1_method_14_code 16 (.getfield 121) 19 := ⟨by decide +kernel, rfl⟩
theorem dX11_known_19 : D3 prog_1_method_14_code 19 (.invokestatic 89) 22 := ⟨by decide +kernel, rfl⟩
theorem dX11_known_22 : Dj prog_1_method_14_code 22 (.ifCond .ne 5) 5 25 27 := ⟨by decide +kernel, rfl, by decide⟩
theorem dX11_known_25 : Dconst prog_1_method_14_code 25 (-1) 26 := Or.inl ⟨(-1), by decide +kernel, rfl, rfl⟩
theorem dX11_known_26 : D1 prog_1_method_14_code 26 (.ireturn) 27 := ⟨by decide +kernel, rfl⟩
theorem dX11_known_27 : Daload prog_1_method_14_code 27 0 28 := Or.inl ⟨0, by decide +kernel, rfl, rfl⟩
theorem dX11_known_28 : Daload prog_1_method_14_code 28 4 30 := Or.inr ⟨by decide +kernel, rfl⟩
theorem dX11_known_30 : Diload prog_1_method_14_code 30 3 31 := Or.inl ⟨3, by decide +kernel, rfl, rfl⟩
theorem dX11_known_31 : Daload prog_1_method_14_code 31 4 33 := Or.inr ⟨by decide +kernel, rfl⟩
theorem dX11_known_33 : D3 prog_1_method_14_code 33 (.getfield 154) 36 := ⟨by decide +kernel, rfl⟩
theorem dX11_known_36 : D3 prog_1_method_14_code 36 (.getfield 107) 39 := ⟨by decide +kernel, rfl⟩
theorem dX11_known_39 : D1 prog_1_method_14_code 39 (.isub) 40 := ⟨by decide +kernel, rfl⟩
theorem dX11_known_40 : D3 prog_1_method_14_code 40 (.invokevirtual 210) 43 := ⟨by decide +kernel, rfl⟩
theorem dX11_known_43 : D1 prog_1_method_14_code 43 (.ireturn) 44 := ⟨by decide +kernel, rfl⟩
theorem dX11_stockAsBegan_0 : Diload prog_1_method_34_code 0 2 1 := Or.inl ⟨2, by decide +kernel, rfl, rfl⟩
theorem dX11_stockAsBegan_1 : Dconst prog_1_method_34_code 1 0 2 := Or.inl ⟨0, by decide +kernel, rfl, rfl⟩
theorem dX11_stockAsBegan_2 : Daload prog_1_method_34_code 2 0 3 := Or.inl ⟨0, by decide +kernel, rfl, rfl⟩
theorem dX11_stockAsBegan_3 : D3 prog_1_method_34_code 3 (.getfield 121) 6 := ⟨by decide +kernel, rfl⟩
theorem dX11_stockAsBegan_6 : D3 prog_1_method_34_code 6 (.invokestatic 89) 9 := ⟨by decide +kernel, rfl⟩
theorem dX11_stockAsBegan_9 : Dj prog_1_method_34_code 9 (.ifCond .eq 12) 12 12 21 := ⟨by decide +kernel, rfl, by decide⟩
theorem dX11_stockAsBegan_12 : Daload prog_1_method_34_code 12 0 13 := Or.inl ⟨0, by decide +kernel, rfl, rfl⟩
theorem dX11_stockAsBegan_13 : D3 prog_1_method_34_code 13 (.getfield 29) 16 := ⟨by decide +kernel, rfl⟩
theorem dX11_stockAsBegan_16 : Diload prog_1_method_34_code 16 2 17 := Or.inl ⟨2, by decide +kernel, rfl, rfl⟩
theorem dX11_stockAsBegan_17 : D1 prog_1_method_34_code 17 (.aaload) 18 := ⟨by decide +kernel, rfl⟩
theorem dX11_stockAsBegan_18 : Dj prog_1_method_34_code 18 (.ifnonnull 5) 5 21 23 := ⟨by decide +kernel, rfl, by decide⟩
theorem dX11_stockAsBegan_21 : Dconst prog_1_method_34_code 21 (-1) 22 := Or.inl ⟨(-1), by decide +kernel, rfl, rfl⟩
theorem dX11_stockAsBegan_22 : D1 prog_1_method_34_code 22 (.ireturn) 23 := ⟨by decide +kernel, rfl⟩
theorem dX11_stockAsBegan_23 : Daload prog_1_method_34_code 23 0 24 := Or.inl ⟨0, by decide +kernel, rfl, rfl⟩
theorem dX11_stockAsBegan_24 : D3 prog_1_method_34_code 24 (.getfield 29) 27 := ⟨by decide +kernel, rfl⟩
theorem dX11_stockAsBegan_27 : Diload prog_1_method_34_code 27 2 28 := Or.inl ⟨2, by decide +kernel, rfl, rfl⟩
theorem dX11_stockAsBegan_28 : D1 prog_1_method_34_code 28 (.aaload) 29 := ⟨by decide +kernel, rfl⟩
theorem dX11_stockAsBegan_29 : Daload prog_1_method_34_code 29 1 30 := Or.inl ⟨1, by decide +kernel, rfl, rfl⟩
theorem dX11_stockAsBegan_30 : D3 prog_1_method_34_code 30 (.getfield 292) 33 := ⟨by decide +kernel, rfl⟩
theorem dX11_stockAsBegan_33 : D1 prog_1_method_34_code 33 (.iaload) 34 := ⟨by decide +kernel, rfl⟩
theorem dX11_stockAsBegan_34 : D1 prog_1_method_34_code 34 (.ireturn) 35 := ⟨by decide +kernel, rfl⟩
theorem dX11_lasts_0 : Daload prog_1_method_15_code 0 0 1 := Or.inl ⟨0, by decide +kernel, rfl, rfl⟩
theorem dX11_lasts_1 : Diload prog_1_method_15_code 1 1 2 := Or.inl ⟨1, by decide +kernel, rfl, rfl⟩
theorem dX11_lasts_2 : D3 prog_1_method_15_code 2 (.invokevirtual 85) 5 := ⟨by decide +kernel, rfl⟩
theorem dX11_lasts_5 : Dj prog_1_method_15_code 5 (.ifnonnull 5) 5 8 10 := ⟨by decide +kernel, rfl, by decide⟩
theorem dX11_lasts_8 : Dconst prog_1_method_15_code 8 (-1) 9 := Or.inl ⟨(-1), by decide +kernel, rfl, rfl⟩
theorem dX11_lasts_9 : D1 prog_1_method_15_code 9 (.ireturn) 10 := ⟨by decide +kernel, rfl⟩
theorem dX11_lasts_10 : Daload prog_1_method_15_code 10 0 11 := Or.inl ⟨0, by decide +kernel, rfl, rfl⟩
theorem dX11_lasts_11 : Diload prog_1_method_15_code 11 1 12 := Or.inl ⟨1, by decide +kernel, rfl, rfl⟩
theorem dX11_lasts_12 : D3 prog_1_method_15_code 12 (.invokevirtual 214) 15 := ⟨by decide +kernel, rfl⟩
theorem dX11_lasts_15 : Dconst prog_1_method_15_code 15 0 16 := Or.inl ⟨0, by decide +kernel, rfl, rfl⟩
theorem dX11_lasts_16 : Distore prog_1_method_15_code 16 2 17 := Or.inl ⟨2, by decide +kernel, rfl, rfl⟩
theorem dX11_lasts_17 : Diload prog_1_method_15_code 17 2 18 := Or.inl ⟨2, by decide +kernel, rfl, rfl⟩
theorem dX11_lasts_18 : Dconst prog_1_method_15_code 18 60 20 := Or.inr (Or.inl ⟨60, by decide +kernel, rfl, rfl⟩)
theorem dX11_lasts_20 : Dj prog_1_method_15_code 20 (.if_icmp .ge 25) 25 23 45 := ⟨by decide +kernel, rfl, by decide⟩
theorem dX11_lasts_23 : Daload prog_1_method_15_code 23 0 24 := Or.inl ⟨0, by decide +kernel, rfl, rfl⟩
theorem dX11_lasts_24 : Diload prog_1_method_15_code 24 1 25 := Or.inl ⟨1, by decide +kernel, rfl, rfl⟩
theorem dX11_lasts_25 : Daload prog_1_method_15_code 25 0 26 := Or.inl ⟨0, by decide +kernel, rfl, rfl⟩
theorem dX11_lasts_26 : D3 prog_1_method_15_code 26 (.getfield 121) 29 := ⟨by decide +kernel, rfl⟩
theorem dX11_lasts_29 : Diload prog_1_method_15_code 29 2 30 := Or.inl ⟨2, by decide +kernel, rfl, rfl⟩
theorem dX11_lasts_30 : D1 prog_1_method_15_code 30 (.iadd) 31 := ⟨by decide +kernel, rfl⟩
theorem dX11_lasts_31 : D3 prog_1_method_15_code 31 (.invokevirtual 217) 34 := ⟨by decide +kernel, rfl⟩
theorem dX11_lasts_34 : Dj prog_1_method_15_code 34 (.ifCond .eq 5) 5 37 39 := ⟨by decide +kernel, rfl, by decide⟩
theorem dX11_lasts_37 : Diload prog_1_method_15_code 37 2 38 := Or.inl ⟨2, by decide +kernel, rfl, rfl⟩
theorem dX11_lasts_38 : D1 prog_1_method_15_code 38 (.ireturn) 39 := ⟨by decide +kernel, rfl⟩
theorem dX11_lasts_39 : Diinc prog_1_method_15_code 39 2 1 42 := ⟨1, by decide +kernel, rfl, rfl⟩
theorem dX11_lasts_42 : Dj prog_1_method_15_code 42 (.goto (-25)) (-25) 45 17 := ⟨by decide +kernel, rfl, by decide⟩
theorem dX11_lasts_45 : Dconst prog_1_method_15_code 45 60 47 := Or.inr (Or.inl ⟨60, by decide +kernel, rfl, rfl⟩)
theorem dX11_lasts_47 : D1 prog_1_method_15_code 47 (.ireturn) 48 := ⟨by decide +kernel, rfl⟩
theorem dX11_beginTrial_0 : Dconst prog_1_method_39_code 0 0 1 := Or.inl ⟨0, by decide +kernel, rfl, rfl⟩
theorem dX11_beginTrial_1 : Distore prog_1_method_39_code 1 2 2 := Or.inl ⟨2, by decide +kernel, rfl, rfl⟩
theorem dX11_beginTrial_2 : Diload prog_1_method_39_code 2 2 3 := Or.inl ⟨2, by decide +kernel, rfl, rfl⟩
theorem dX11_beginTrial_3 : Dconst prog_1_method_39_code 3 4 4 := Or.inl ⟨4, by decide +kernel, rfl, rfl⟩
theorem dX11_beginTrial_4 : Dj prog_1_method_39_code 4 (.if_icmp .ge 34) 34 7 38 := ⟨by decide +kernel, rfl, by decide⟩
theorem dX11_beginTrial_7 : Daload prog_1_method_39_code 7 0 8 := Or.inl ⟨0, by decide +kernel, rfl, rfl⟩
theorem dX11_beginTrial_8 : Diload prog_1_method_39_code 8 1 9 := Or.inl ⟨1, by decide +kernel, rfl, rfl⟩
theorem dX11_beginTrial_9 : Diload prog_1_method_39_code 9 2 10 := Or.inl ⟨2, by decide +kernel, rfl, rfl⟩
theorem dX11_beginTrial_10 : D3 prog_1_method_39_code 10 (.invokevirtual 110) 13 := ⟨by decide +kernel, rfl⟩
theorem dX11_beginTrial_13 : Dastore prog_1_method_39_code 13 3 14 := Or.inl ⟨3, by decide +kernel, rfl, rfl⟩
theorem dX11_beginTrial_14 : Daload prog_1_method_39_code 14 3 15 := Or.inl ⟨3, by decide +kernel, rfl, rfl⟩
theorem dX11_beginTrial_15 : Dj prog_1_method_39_code 15 (.ifnull 17) 17 18 32 := ⟨by decide +kernel, rfl, by decide⟩
theorem dX11_beginTrial_18 : Daload prog_1_method_39_code 18 3 19 := Or.inl ⟨3, by decide +kernel, rfl, rfl⟩
theorem dX11_beginTrial_19 : D3 prog_1_method_39_code 19 (.getfield 319) 22 := ⟨by decide +kernel, rfl⟩
theorem dX11_beginTrial_22 : Daload prog_1_method_39_code 22 3 23 := Or.inl ⟨3, by decide +kernel, rfl, rfl⟩
theorem dX11_beginTrial_23 : D3 prog_1_method_39_code 23 (.getfield 198) 26 := ⟨by decide +kernel, rfl⟩
theorem dX11_beginTrial_26 : D3 prog_1_method_39_code 26 (.getfield 202) 29 := ⟨by decide +kernel, rfl⟩
theorem dX11_beginTrial_29 : D3 prog_1_method_39_code 29 (.putfield 202) 32 := ⟨by decide +kernel, rfl⟩
theorem dX11_beginTrial_32 : Diinc prog_1_method_39_code 32 2 1 35 := ⟨1, by decide +kernel, rfl, rfl⟩
theorem dX11_beginTrial_35 : Dj prog_1_method_39_code 35 (.goto (-33)) (-33) 38 2 := ⟨by decide +kernel, rfl, by decide⟩
theorem dX11_beginTrial_38 : Daload prog_1_method_39_code 38 0 39 := Or.inl ⟨0, by decide +kernel, rfl, rfl⟩
theorem dX11_beginTrial_39 : D3 prog_1_method_39_code 39 (.getfield 47) 42 := ⟨by decide +kernel, rfl⟩
theorem dX11_beginTrial_42 : D3 prog_1_method_39_code 42 (.getfield 258) 45 := ⟨by decide +kernel, rfl⟩
theorem dX11_beginTrial_45 : Dastore prog_1_method_39_code 45 2 46 := Or.inl ⟨2, by decide +kernel, rfl, rfl⟩
theorem dX11_beginTrial_46 : Daload prog_1_method_39_code 46 2 47 := Or.inl ⟨2, by decide +kernel, rfl, rfl⟩
theorem dX11_beginTrial_47 : Dj prog_1_method_39_code 47 (.ifnull 37) 37 50 84 := ⟨by decide +kernel, rfl, by decide⟩
theorem dX11_beginTrial_50 : Daload prog_1_method_39_code 50 2 51 := Or.inl ⟨2, by decide +kernel, rfl, rfl⟩
theorem dX11_beginTrial_51 : Daload prog_1_method_39_code 51 2 52 := Or.inl ⟨2, by decide +kernel, rfl, rfl⟩
theorem dX11_beginTrial_52 : D3 prog_1_method_39_code 52 (.getfield 150) 55 := ⟨by decide +kernel, rfl⟩
theorem dX11_beginTrial_55 : D3 prog_1_method_39_code 55 (.getfield 154) 58 := ⟨by decide +kernel, rfl⟩
theorem dX11_beginTrial_58 : D3 prog_1_method_39_code 58 (.getfield 158) 61 := ⟨by decide +kernel, rfl⟩
theorem dX11_beginTrial_61 : Diload prog_1_method_39_code 61 1 62 := Or.inl ⟨1, by decide +kernel, rfl, rfl⟩
theorem dX11_beginTrial_62 : Dj prog_1_method_39_code 62 (.if_icmp .ne 10) 10 65 72 := ⟨by decide +kernel, rfl, by decide⟩
theorem dX11_beginTrial_65 : Daload prog_1_method_39_code 65 2 66 := Or.inl ⟨2, by decide +kernel, rfl, rfl⟩
theorem dX11_beginTrial_66 : D3 prog_1_method_39_code 66 (.getfield 147) 69 := ⟨by decide +kernel, rfl⟩
theorem dX11_beginTrial_69 : Dj prog_1_method_39_code 69 (.goto 4) 4 72 73 := ⟨by decide +kernel, rfl, by decide⟩
theorem dX11_beginTrial_72 : Dconst prog_1_method_39_code 72 0 73 := Or.inl ⟨0, by decide +kernel, rfl, rfl⟩
theorem dX11_beginTrial_73 : D3 prog_1_method_39_code 73 (.putfield 322) 76 := ⟨by decide +kernel, rfl⟩
theorem dX11_beginTrial_76 : Daload prog_1_method_39_code 76 2 77 := Or.inl ⟨2, by decide +kernel, rfl, rfl⟩
theorem dX11_beginTrial_77 : D3 prog_1_method_39_code 77 (.getfield 262) 80 := ⟨by decide +kernel, rfl⟩
theorem dX11_beginTrial_80 : Dastore prog_1_method_39_code 80 2 81 := Or.inl ⟨2, by decide +kernel, rfl, rfl⟩
theorem dX11_beginTrial_81 : Dj prog_1_method_39_code 81 (.goto (-35)) (-35) 84 46 := ⟨by decide +kernel, rfl, by decide⟩
theorem dX11_beginTrial_84 : D1 prog_1_method_39_code 84 (.return_) 85 := ⟨by decide +kernel, rfl⟩
theorem dX11_isShortInTrial_0 : Dconst prog_1_method_40_code 0 0 1 := Or.inl ⟨0, by decide +kernel, rfl, rfl⟩
theorem dX11_isShortInTrial_1 : Distore prog_1_method_40_code 1 3 2 := Or.inl ⟨3, by decide +kernel, rfl, rfl⟩
theorem dX11_isShortInTrial_2 : Diload prog_1_method_40_code 2 3 3 := Or.inl ⟨3, by decide +kernel, rfl, rfl⟩
theorem dX11_isShortInTrial_3 : Dconst prog_1_method_40_code 3 4 4 := Or.inl ⟨4, by decide +kernel, rfl, rfl⟩
theorem dX11_isShortInTrial_4 : Dj prog_1_method_40_code 4 (.if_icmp .ge 38) 38 7 42 := ⟨by decide +kernel, rfl, by decide⟩
theorem dX11_isShortInTrial_7 : Daload prog_1_method_40_code 7 0 8 := Or.inl ⟨0, by decide +kernel, rfl, rfl⟩
theorem dX11_isShortInTrial_8 : Diload prog_1_method_40_code 8 1 9 := Or.inl ⟨1, by decide +kernel, rfl, rfl⟩
theorem dX11_isShortInTrial_9 : Diload prog_1_method_40_code 9 3 10 := Or.inl ⟨3, by decide +kernel, rfl, rfl⟩
theorem dX11_isShortInTrial_10 : D3 prog_1_method_40_code 10 (.invokevirtual 110) 13 := ⟨by decide +kernel, rfl⟩
theorem dX11_isShortInTrial_13 : Dastore prog_1_method_40_code 13 4 15 := Or.inr ⟨by decide +kernel, rfl⟩
theorem dX11_isShortInTrial_15 : Daload prog_1_method_40_code 15 4 17 := Or.inr ⟨by decide +kernel, rfl⟩
theorem dX11_isShortInTrial_17 : Dj prog_1_method_40_code 17 (.ifnull 19) 19 20 36 := ⟨by decide +kernel, rfl, by decide⟩
theorem dX11_isShortInTrial_20 : Daload prog_1_method_40_code 20 4 22 := Or.inr ⟨by decide +kernel, rfl⟩
theorem dX11_isShortInTrial_22 : D3 prog_1_method_40_code 22 (.getfield 319) 25 := ⟨by decide +kernel, rfl⟩
theorem dX11_isShortInTrial_25 : Daload prog_1_method_40_code 25 4 27 := Or.inr ⟨by decide +kernel, rfl⟩
theorem dX11_isShortInTrial_27 : D3 prog_1_method_40_code 27 (.getfield 154) 30 := ⟨by decide +kernel, rfl⟩
theorem dX11_isShortInTrial_30 : D3 prog_1_method_40_code 30 (.invokevirtual 304) 33 := ⟨by decide +kernel, rfl⟩
theorem dX11_isShortInTrial_33 : D3 prog_1_method_40_code 33 (.invokevirtual 307) 36 := ⟨by decide +kernel, rfl⟩
theorem dX11_isShortInTrial_36 : Diinc prog_1_method_40_code 36 3 1 39 := ⟨1, by decide +kernel, rfl, rfl⟩
theorem dX11_isShortInTrial_39 : Dj prog_1_method_40_code 39 (.goto (-37)) (-37) 42 2 := ⟨by decide +kernel, rfl, by decide⟩
theorem dX11_isShortInTrial_42 : Daload prog_1_method_40_code 42 0 43 := Or.inl ⟨0, by decide +kernel, rfl, rfl⟩
theorem dX11_isShortInTrial_43 : D3 prog_1_method_40_code 43 (.getfield 47) 46 := ⟨by decide +kernel, rfl⟩
theorem dX11_isShortInTrial_46 : D3 prog_1_method_40_code 46 (.getfield 258) 49 := ⟨by decide +kernel, rfl⟩
theorem dX11_isShortInTrial_49 : Dastore prog_1_method_40_code 49 3 50 := Or.inl ⟨3, by decide +kernel, rfl, rfl⟩
theorem dX11_isShortInTrial_50 : Daload prog_1_method_40_code 50 3 51 := Or.inl ⟨3, by decide +kernel, rfl, rfl⟩
theorem dX11_isShortInTrial_51 : Dj prog_1_method_40_code 51 (.ifnull 23) 23 54 74 := ⟨by decide +kernel, rfl, by decide⟩
theorem dX11_isShortInTrial_54 : Daload prog_1_method_40_code 54 3 55 := Or.inl ⟨3, by decide +kernel, rfl, rfl⟩
theorem dX11_isShortInTrial_55 : D3 prog_1_method_40_code 55 (.getfield 322) 58 := ⟨by decide +kernel, rfl⟩
theorem dX11_isShortInTrial_58 : Dj prog_1_method_40_code 58 (.ifCond .le 8) 8 61 66 := ⟨by decide +kernel, rfl, by decide⟩
theorem dX11_isShortInTrial_61 : Daload prog_1_method_40_code 61 3 62 := Or.inl ⟨3, by decide +kernel, rfl, rfl⟩
theorem dX11_isShortInTrial_62 : Diload prog_1_method_40_code 62 2 63 := Or.inl ⟨2, by decide +kernel, rfl, rfl⟩
theorem dX11_isShortInTrial_63 : D3 prog_1_method_40_code 63 (.invokevirtual 325) 66 := ⟨by decide +kernel, rfl⟩
theorem dX11_isShortInTrial_66 : Daload prog_1_method_40_code 66 3 67 := Or.inl ⟨3, by decide +kernel, rfl, rfl⟩
theorem dX11_isShortInTrial_67 : D3 prog_1_method_40_code 67 (.getfield 262) 70 := ⟨by decide +kernel, rfl⟩
theorem dX11_isShortInTrial_70 : Dastore prog_1_method_40_code 70 3 71 := Or.inl ⟨3, by decide +kernel, rfl, rfl⟩
theorem dX11_isShortInTrial_71 : Dj prog_1_method_40_code 71 (.goto (-21)) (-21) 74 50 := ⟨by decide +kernel, rfl, by decide⟩
theorem dX11_isShortInTrial_74 : Dconst prog_1_method_40_code 74 0 75 := Or.inl ⟨0, by decide +kernel, rfl, rfl⟩
theorem dX11_isShortInTrial_75 : Distore prog_1_method_40_code 75 3 76 := Or.inl ⟨3, by decide +kernel, rfl, rfl⟩
theorem dX11_isShortInTrial_76 : Diload prog_1_method_40_code 76 3 77 := Or.inl ⟨3, by decide +kernel, rfl, rfl⟩
theorem dX11_isShortInTrial_77 : Dconst prog_1_method_40_code 77 4 78 := Or.inl ⟨4, by decide +kernel, rfl, rfl⟩
theorem dX11_isShortInTrial_78 : Dj prog_1_method_40_code 78 (.if_icmp .ge 35) 35 81 113 := ⟨by decide +kernel, rfl, by decide⟩
theorem dX11_isShortInTrial_81 : Daload prog_1_method_40_code 81 0 82 := Or.inl ⟨0, by decide +kernel, rfl, rfl⟩
theorem dX11_isShortInTrial_82 : Diload prog_1_method_40_code 82 1 83 := Or.inl ⟨1, by decide +kernel, rfl, rfl⟩
theorem dX11_isShortInTrial_83 : Diload prog_1_method_40_code 83 3 84 := Or.inl ⟨3, by decide +kernel, rfl, rfl⟩
theorem dX11_isShortInTrial_84 : D3 prog_1_method_40_code 84 (.invokevirtual 110) 87 := ⟨by decide +kernel, rfl⟩
theorem dX11_isShortInTrial_87 : Dastore prog_1_method_40_code 87 4 89 := Or.inr ⟨by decide +kernel, rfl⟩
theorem dX11_isShortInTrial_89 : Daload prog_1_method_40_code 89 4 91 := Or.inr ⟨by decide +kernel, rfl⟩
theorem dX11_isShortInTrial_91 : Dj prog_1_method_40_code 91 (.ifnull 16) 16 94 107 := ⟨by decide +kernel, rfl, by decide⟩
theorem dX11_isShortInTrial_94 : Daload prog_1_method_40_code 94 4 96 := Or.inr ⟨by decide +kernel, rfl⟩
theorem dX11_isShortInTrial_96 : D3 prog_1_method_40_code 96 (.getfield 319) 99 := ⟨by decide +kernel, rfl⟩
theorem dX11_isShortInTrial_99 : D3 prog_1_method_40_code 99 (.getfield 316) 102 := ⟨by decide +kernel, rfl⟩
theorem dX11_isShortInTrial_102 : Dj prog_1_method_40_code 102 (.ifCond .le 5) 5 105 107 := ⟨by decide +kernel, rfl, by decide⟩
theorem dX11_isShortInTrial_105 : Dconst prog_1_method_40_code 105 1 106 := Or.inl ⟨1, by decide +kernel, rfl, rfl⟩
theorem dX11_isShortInTrial_106 : D1 prog_1_method_40_code 106 (.ireturn) 107 := ⟨by decide +kernel, rfl⟩
theorem dX11_isShortInTrial_107 : Diinc prog_1_method_40_code 107 3 1 110 := ⟨1, by decide +kernel, rfl, rfl⟩
theorem dX11_isShortInTrial_110 : Dj prog_1_method_40_code 110 (.goto (-34)) (-34) 113 76 := ⟨by decide +kernel, rfl, by decide⟩
theorem dX11_isShortInTrial_113 : Dconst prog_1_method_40_code 113 0 114 := Or.inl ⟨0, by decide +kernel, rfl, rfl⟩
theorem dX11_isShortInTrial_114 : D1 prog_1_method_40_code 114 (.ireturn) 115 := ⟨by decide +kernel, rfl⟩
theorem dX3_endWeekInTrial_0 : Daload prog_5_method_5_code 0 0 1 := Or.inl ⟨0, by decide +kernel, rfl, rfl⟩
theorem dX3_endWeekInTrial_1 : Diload prog_5_method_5_code 1 1 2 := Or.inl ⟨1, by decide +kernel, rfl, rfl⟩
theorem dX3_endWeekInTrial_2 : D3 prog_5_method_5_code 2 (.invokevirtual 55) 5 := ⟨by decide +kernel, rfl⟩
theorem dX3_endWeekInTrial_5 : Distore prog_5_method_5_code 5 2 6 := Or.inl ⟨2, by decide +kernel, rfl, rfl⟩
theorem dX3_endWeekInTrial_6 : Daload prog_5_method_5_code 6 0 7 := Or.inl ⟨0, by decide +kernel, rfl, rfl⟩
theorem dX3_endWeekInTrial_7 : D1 prog_5_method_5_code 7 (.dup) 8 := ⟨by decide +kernel, rfl⟩
theorem dX3_endWeekInTrial_8 : D3 prog_5_method_5_code 8 (.getfield 59) 11 := ⟨by decide +kernel, rfl⟩
theorem dX3_endWeekInTrial_11 : Daload prog_5_method_5_code 11 0 12 := Or.inl ⟨0, by decide +kernel, rfl, rfl⟩
theorem dX3_endWeekInTrial_12 : D3 prog_5_method_5_code 12 (.getfield 9) 15 := ⟨by decide +kernel, rfl⟩
theorem dX3_endWeekInTrial_15 : D3 prog_5_method_5_code 15 (.getfield 37) 18 := ⟨by decide +kernel, rfl⟩
theorem dX3_endWeekInTrial_18 : Daload prog_5_method_5_code 18 0 19 := Or.inl ⟨0, by decide +kernel, rfl, rfl⟩
theorem dX3_endWeekInTrial_19 : D3 prog_5_method_5_code 19 (.getfield 59) 22 := ⟨by decide +kernel, rfl⟩
theorem dX3_endWeekInTrial_22 : Diload prog_5_method_5_code 22 1 23 := Or.inl ⟨1, by decide +kernel, rfl, rfl⟩
theorem dX3_endWeekInTrial_23 : Daload prog_5_method_5_code 23 0 24 := Or.inl ⟨0, by decide +kernel, rfl, rfl⟩
theorem dX3_endWeekInTrial_24 : D3 prog_5_method_5_code 24 (.getfield 19) 27 := ⟨by decide +kernel, rfl⟩
theorem dX3_endWeekInTrial_27 : D1 prog_5_method_5_code 27 (.isub) 28 := ⟨by decide +kernel, rfl⟩
theorem dX3_endWeekInTrial_28 : Diload prog_5_method_5_code 28 2 29 := Or.inl ⟨2, by decide +kernel, rfl, rfl⟩
theorem dX3_endWeekInTrial_29 : Dj prog_5_method_5_code 29 (.ifCond .ne 7) 7 32 36 := ⟨by decide +kernel, rfl, by decide⟩
theorem dX3_endWeekInTrial_32 : Dconst prog_5_method_5_code 32 1 33 := Or.inl ⟨1, by decide +kernel, rfl, rfl⟩
theorem dX3_endWeekInTrial_33 : Dj prog_5_method_5_code 33 (.goto 4) 4 36 37 := ⟨by decide +kernel, rfl, by decide⟩
theorem dX3_endWeekInTrial_36 : Dconst prog_5_method_5_code 36 0 37 := Or.inl ⟨0, by decide +kernel, rfl, rfl⟩
theorem dX3_endWeekInTrial_37 : D3 prog_5_method_5_code 37 (.invokevirtual 62) 40 := ⟨by decide +kernel, rfl⟩
theorem dX3_endWeekInTrial_40 : D1 prog_5_method_5_code 40 (.isub) 41 := ⟨by decide +kernel, rfl⟩
theorem dX3_endWeekInTrial_41 : D3 prog_5_method_5_code 41 (.putfield 59) 44 := ⟨by decide +kernel, rfl⟩
theorem dX3_endWeekInTrial_44 : Diload prog_5_method_5_code 44 2 45 := Or.inl ⟨2, by decide +kernel, rfl, rfl⟩
theorem dX3_endWeekInTrial_45 : Dj prog_5_method_5_code 45 (.ifCond .eq 36) 36 48 81 := ⟨by decide +kernel, rfl, by decide⟩
theorem dX3_endWeekInTrial_48 : Daload prog_5_method_5_code 48 0 49 := Or.inl ⟨0, by decide +kernel, rfl, rfl⟩
theorem dX3_endWeekInTrial_49 : D1 prog_5_method_5_code 49 (.dup) 50 := ⟨by decide +kernel, rfl⟩
theorem dX3_endWeekInTrial_50 : D3 prog_5_method_5_code 50 (.getfield 59) 53 := ⟨by decide +kernel, rfl⟩
theorem dX3_endWeekInTrial_53 : Daload prog_5_method_5_code 53 0 54 := Or.inl ⟨0, by decide +kernel, rfl, rfl⟩
theorem dX3_endWeekInTrial_54 : D3 prog_5_method_5_code 54 (.getfield 9) 57 := ⟨by decide +kernel, rfl⟩
theorem dX3_endWeekInTrial_57 : D3 prog_5_method_5_code 57 (.getfield 66) 60 := ⟨by decide +kernel, rfl⟩
theorem dX3_endWeekInTrial_60 : Daload prog_5_method_5_code 60 0 61 := Or.inl ⟨0, by decide +kernel, rfl, rfl⟩
theorem dX3_endWeekInTrial_61 : D3 prog_5_method_5_code 61 (.getfield 59) 64 := ⟨by decide +kernel, rfl⟩
theorem dX3_endWeekInTrial_64 : Daload prog_5_method_5_code 64 0 65 := Or.inl ⟨0, by decide +kernel, rfl, rfl⟩
theorem dX3_endWeekInTrial_65 : D3 prog_5_method_5_code 65 (.getfield 9) 68 := ⟨by decide +kernel, rfl⟩
theorem dX3_endWeekInTrial_68 : D3 prog_5_method_5_code 68 (.getfield 37) 71 := ⟨by decide +kernel, rfl⟩
theorem dX3_endWeekInTrial_71 : D3 prog_5_method_5_code 71 (.getfield 70) 74 := ⟨by decide +kernel, rfl⟩
theorem dX3_endWeekInTrial_74 : D3 prog_5_method_5_code 74 (.invokevirtual 73) 77 := ⟨by decide +kernel, rfl⟩
theorem dX3_endWeekInTrial_77 : D1 prog_5_method_5_code 77 (.isub) 78 := ⟨by decide +kernel, rfl⟩
theorem dX3_endWeekInTrial_78 : D3 prog_5_method_5_code 78 (.putfield 59) 81 := ⟨by decide +kernel, rfl⟩
theorem dX3_endWeekInTrial_81 : D1 prog_5_method_5_code 81 (.return_) 82 := ⟨by decide +kernel, rfl⟩
theorem dX11_feed_0 : Diload prog_1_method_16_code 0 1 1 := Or.inl ⟨1, by decide +kernel, rfl, rfl⟩
theorem dX11_feed_1 : D3 prog_1_method_16_code 1 (.invokestatic 221) 4 := ⟨by decide +kernel, rfl⟩
theorem dX11_feed_4 : Diload prog_1_method_16_code 4 2 5 := Or.inl ⟨2, by decide +kernel, rfl, rfl⟩
theorem dX11_feed_5 : D3 prog_1_method_16_code 5 (.invokestatic 221) 8 := ⟨by decide +kernel, rfl⟩
theorem dX11_feed_8 : D1 prog_1_method_16_code 8 (.iadd) 9 := ⟨by decide +kernel, rfl⟩
theorem dX11_feed_9 : Diload prog_1_method_16_code 9 3 10 := Or.inl ⟨3, by decide +kernel, rfl, rfl⟩
theorem dX11_feed_10 : D3 prog_1_method_16_code 10 (.invokestatic 221) 13 := ⟨by decide +kernel, rfl⟩
theorem dX11_feed_13 : D1 prog_1_method_16_code 13 (.iadd) 14 := ⟨by decide +kernel, rfl⟩
theorem dX11_feed_14 : Diload prog_1_method_16_code 14 4 16 := Or.inr ⟨by decide +kernel, rfl⟩
theorem dX11_feed_16 : D3 prog_1_method_16_code 16 (.invokestatic 221) 19 := ⟨by decide +kernel, rfl⟩
theorem dX11_feed_19 : D1 prog_1_method_16_code 19 (.iadd) 20 := ⟨by decide +kernel, rfl⟩
theorem dX11_feed_20 : Diload prog_1_method_16_code 20 5 22 := Or.inr ⟨by decide +kernel, rfl⟩
theorem dX11_feed_22 : D3 prog_1_method_16_code 22 (.invokestatic 221) 25 := ⟨by decide +kernel, rfl⟩
theorem dX11_feed_25 : D1 prog_1_method_16_code 25 (.iadd) 26 := ⟨by decide +kernel, rfl⟩
theorem dX11_feed_26 : Distore prog_1_method_16_code 26 6 28 := Or.inr ⟨by decide +kernel, rfl⟩
theorem dX11_feed_28 : Daload prog_1_method_16_code 28 0 29 := Or.inl ⟨0, by decide +kernel, rfl, rfl⟩
theorem dX11_feed_29 : D3 prog_1_method_16_code 29 (.getfield 54) 32 := ⟨by decide +kernel, rfl⟩
theorem dX11_feed_32 : D3 prog_1_method_16_code 32 (.getfield 224) 35 := ⟨by decide +kernel, rfl⟩
theorem dX11_feed_35 : Diload prog_1_method_16_code 35 6 37 := Or.inr ⟨by decide +kernel, rfl⟩
theorem dX11_feed_37 : D1 prog_1_method_16_code 37 (.iadd) 38 := ⟨by decide +kernel, rfl⟩
theorem dX11_feed_38 : Dconst prog_1_method_16_code 38 200 41 := Or.inr (Or.inr ⟨200, by decide +kernel, rfl, rfl⟩)
theorem dX11_feed_41 : Dj prog_1_method_16_code 41 (.if_icmp .le 5) 5 44 46 := ⟨by decide +kernel, rfl, by decide⟩
theorem dX11_feed_44 : Dconst prog_1_method_16_code 44 (-1) 45 := Or.inl ⟨(-1), by decide +kernel, rfl, rfl⟩
theorem dX11_feed_45 : D1 prog_1_method_16_code 45 (.ireturn) 46 := ⟨by decide +kernel, rfl⟩
theorem dX11_feed_46 : Daload prog_1_method_16_code 46 0 47 := Or.inl ⟨0, by decide +kernel, rfl, rfl⟩
theorem dX11_feed_47 : D3 prog_1_method_16_code 47 (.getfield 54) 50 := ⟨by decide +kernel, rfl⟩
theorem dX11_feed_50 : Diload prog_1_method_16_code 50 1 51 := Or.inl ⟨1, by decide +kernel, rfl, rfl⟩
theorem dX11_feed_51 : D3 prog_1_method_16_code 51 (.invokevirtual 227) 54 := ⟨by decide +kernel, rfl⟩
theorem dX11_feed_54 : Daload prog_1_method_16_code 54 0 55 := Or.inl ⟨0, by decide +kernel, rfl, rfl⟩
theorem dX11_feed_55 : D3 prog_1_method_16_code 55 (.getfield 54) 58 := ⟨by decide +kernel, rfl⟩
theorem dX11_feed_58 : Diload prog_1_method_16_code 58 2 59 := Or.inl ⟨2, by decide +kernel, rfl, rfl⟩
theorem dX11_feed_59 : D3 prog_1_method_16_code 59 (.invokevirtual 227) 62 := ⟨by decide +kernel, rfl⟩
theorem dX11_feed_62 : Daload prog_1_method_16_code 62 0 63 := Or.inl ⟨0, by decide +kernel, rfl, rfl⟩
theorem dX11_feed_63 : D3 prog_1_method_16_code 63 (.getfield 54) 66 := ⟨by decide +kernel, rfl⟩
theorem dX11_feed_66 : Diload prog_1_method_16_code 66 3 67 := Or.inl ⟨3, by decide +kernel, rfl, rfl⟩
theorem dX11_feed_67 : D3 prog_1_method_16_code 67 (.invokevirtual 227) 70 := ⟨by decide +kernel, rfl⟩
theorem dX11_feed_70 : Daload prog_1_method_16_code 70 0 71 := Or.inl ⟨0, by decide +kernel, rfl, rfl⟩
theorem dX11_feed_71 : D3 prog_1_method_16_code 71 (.getfield 54) 74 := ⟨by decide +kernel, rfl⟩
theorem dX11_feed_74 : Diload prog_1_method_16_code 74 4 76 := Or.inr ⟨by decide +kernel, rfl⟩
theorem dX11_feed_76 : D3 prog_1_method_16_code 76 (.invokevirtual 227) 79 := ⟨by decide +kernel, rfl⟩
theorem dX11_feed_79 : Daload prog_1_method_16_code 79 0 80 := Or.inl ⟨0, by decide +kernel, rfl, rfl⟩
theorem dX11_feed_80 : D3 prog_1_method_16_code 80 (.getfield 54) 83 := ⟨by decide +kernel, rfl⟩
theorem dX11_feed_83 : Diload prog_1_method_16_code 83 5 85 := Or.inr ⟨by decide +kernel, rfl⟩
theorem dX11_feed_85 : D3 prog_1_method_16_code 85 (.invokevirtual 227) 88 := ⟨by decide +kernel, rfl⟩
theorem dX11_feed_88 : Daload prog_1_method_16_code 88 0 89 := Or.inl ⟨0, by decide +kernel, rfl, rfl⟩
theorem dX11_feed_89 : D3 prog_1_method_16_code 89 (.getfield 54) 92 := ⟨by decide +kernel, rfl⟩
theorem dX11_feed_92 : D3 prog_1_method_16_code 92 (.getfield 224) 95 := ⟨by decide +kernel, rfl⟩
theorem dX11_feed_95 : D1 prog_1_method_16_code 95 (.ireturn) 96 := ⟨by decide +kernel, rfl⟩
theorem dX11_bytesIn_0 : Dconst prog_1_method_29_code 0 0 1 := Or.inl ⟨0, by decide +kernel, rfl, rfl⟩
theorem dX11_bytesIn_1 : Distore prog_1_method_29_code 1 1 2 := Or.inl ⟨1, by decide +kernel, rfl, rfl⟩
theorem dX11_bytesIn_2 : Dconst prog_1_method_29_code 2 0 3 := Or.inl ⟨0, by decide +kernel, rfl, rfl⟩
theorem dX11_bytesIn_3 : Distore prog_1_method_29_code 3 2 4 := Or.inl ⟨2, by decide +kernel, rfl, rfl⟩
theorem dX11_bytesIn_4 : Diload prog_1_method_29_code 4 2 5 := Or.inl ⟨2, by decide +kernel, rfl, rfl⟩
theorem dX11_bytesIn_5 : Dconst prog_1_method_29_code 5 4 6 := Or.inl ⟨4, by decide +kernel, rfl, rfl⟩
theorem dX11_bytesIn_6 : Dj prog_1_method_29_code 6 (.if_icmp .ge 20) 20 9 26 := ⟨by decide +kernel, rfl, by decide⟩
theorem dX11_bytesIn_9 : Diload prog_1_method_29_code 9 0 10 := Or.inl ⟨0, by decide +kernel, rfl, rfl⟩
theorem dX11_bytesIn_10 : Diload prog_1_method_29_code 10 2 11 := Or.inl ⟨2, by decide +kernel, rfl, rfl⟩
theorem dX11_bytesIn_11 : D3 prog_1_method_29_code 11 (.invokestatic 289) 14 := ⟨by decide +kernel, rfl⟩
theorem dX11_bytesIn_14 : Dj prog_1_method_29_code 14 (.ifCond .eq 6) 6 17 20 := ⟨by decide +kernel, rfl, by decide⟩
theorem dX11_bytesIn_17 : Diinc prog_1_method_29_code 17 1 1 20 := ⟨1, by decide +kernel, rfl, rfl⟩
theorem dX11_bytesIn_20 : Diinc prog_1_method_29_code 20 2 1 23 := ⟨1, by decide +kernel, rfl, rfl⟩
theorem dX11_bytesIn_23 : Dj prog_1_method_29_code 23 (.goto (-19)) (-19) 26 4 := ⟨by decide +kernel, rfl, by decide⟩
theorem dX11_bytesIn_26 : Diload prog_1_method_29_code 26 1 27 := Or.inl ⟨1, by decide +kernel, rfl, rfl⟩
theorem dX11_bytesIn_27 : D1 prog_1_method_29_code 27 (.ireturn) 28 := ⟨by decide +kernel, rfl⟩
theorem dX11_byteOf_0 : Diload prog_1_method_30_code 0 0 1 := Or.inl ⟨0, by decide +kernel, rfl, rfl⟩
theorem dX11_byteOf_1 : Dconst prog_1_method_30_code 1 8 3 := Or.inr (Or.inl ⟨8, by decide +kernel, rfl, rfl⟩)
theorem dX11_byteOf_3 : Dconst prog_1_method_30_code 3 3 4 := Or.inl ⟨3, by decide +kernel, rfl, rfl⟩
theorem dX11_byteOf_4 : Diload prog_1_method_30_code 4 1 5 := Or.inl ⟨1, by decide +kernel, rfl, rfl⟩
theorem dX11_byteOf_5 : D1 prog_1_method_30_code 5 (.isub) 6 := ⟨by decide +kernel, rfl⟩
theorem dX11_byteOf_6 : D1 prog_1_method_30_code 6 (.imul) 7 := ⟨by decide +kernel, rfl⟩
theorem dX11_byteOf_7 : D1 prog_1_method_30_code 7 (.iushr) 8 := ⟨by decide +kernel, rfl⟩
theorem dX11_byteOf_8 : Dconst prog_1_method_30_code 8 255 11 := Or.inr (Or.inr ⟨255, by decide +kernel, rfl, rfl⟩)
theorem dX11_byteOf_11 : D1 prog_1_method_30_code 11 (.iand) 12 := ⟨by decide +kernel, rfl⟩
theorem dX11_byteOf_12 : D1 prog_1_method_30_code 12 (.ireturn) 13 := ⟨by decide +kernel, rfl⟩
theorem dX10_addBytesOf_0 : Dconst prog_12_method_2_code 0 0 1 := Or.inl ⟨0, by decide +kernel, rfl, rfl⟩
theorem dX10_addBytesOf_1 : Distore prog_12_method_2_code 1 2 2 := Or.inl ⟨2, by decide +kernel, rfl, rfl⟩
theorem dX10_addBytesOf_2 : Diload prog_12_method_2_code 2 2 3 := Or.inl ⟨2, by decide +kernel, rfl, rfl⟩
theorem dX10_addBytesOf_3 : Dconst prog_12_method_2_code 3 4 4 := Or.inl ⟨4, by decide +kernel, rfl, rfl⟩
theorem dX10_addBytesOf_4 : Dj prog_12_method_2_code 4 (.if_icmp .ge 49) 49 7 53 := ⟨by decide +kernel, rfl, by decide⟩
theorem dX10_addBytesOf_7 : Diload prog_12_method_2_code 7 1 8 := Or.inl ⟨1, by decide +kernel, rfl, rfl⟩
theorem dX10_addBytesOf_8 : Diload prog_12_method_2_code 8 2 9 := Or.inl ⟨2, by decide +kernel, rfl, rfl⟩
theorem dX10_addBytesOf_9 : D3 prog_12_method_2_code 9 (.invokestatic 15) 12 := ⟨by decide +kernel, rfl⟩
theorem dX10_addBytesOf_12 : Distore prog_12_method_2_code 12 3 13 := Or.inl ⟨3, by decide +kernel, rfl, rfl⟩
theorem dX10_addBytesOf_13 : Diload prog_12_method_2_code 13 3 14 := Or.inl ⟨3, by decide +kernel, rfl, rfl⟩
theorem dX10_addBytesOf_14 : Dj prog_12_method_2_code 14 (.ifCond .eq 33) 33 17 47 := ⟨by decide +kernel, rfl, by decide⟩
theorem dX10_addBytesOf_17 : Daload prog_12_method_2_code 17 0 18 := Or.inl ⟨0, by decide +kernel, rfl, rfl⟩
theorem dX10_addBytesOf_18 : D3 prog_12_method_2_code 18 (.getfield 19) 21 := ⟨by decide +kernel, rfl⟩
theorem dX10_addBytesOf_21 : Dconst prog_12_method_2_code 21 200 24 := Or.inr (Or.inr ⟨200, by decide +kernel, rfl, rfl⟩)
theorem dX10_addBytesOf_24 : Dj prog_12_method_2_code 24 (.if_icmp .ge 23) 23 27 47 := ⟨by decide +kernel, rfl, by decide⟩
theorem dX10_addBytesOf_27 : Daload prog_12_method_2_code 27 0 28 := Or.inl ⟨0, by decide +kernel, rfl, rfl⟩
theorem dX10_addBytesOf_28 : D3 prog_12_method_2_code 28 (.getfield 9) 31 := ⟨by decide +kernel, rfl⟩
theorem dX10_addBytesOf_31 : Daload prog_12_method_2_code 31 0 32 := Or.inl ⟨0, by decide +kernel, rfl, rfl⟩
theorem dX10_addBytesOf_32 : D3 prog_12_method_2_code 32 (.getfield 19) 35 := ⟨by decide +kernel, rfl⟩
theorem dX10_addBytesOf_35 : Diload prog_12_method_2_code 35 3 36 := Or.inl ⟨3, by decide +kernel, rfl, rfl⟩
theorem dX10_addBytesOf_36 : D1 prog_12_method_2_code 36 (.iastore) 37 := ⟨by decide +kernel, rfl⟩
theorem dX10_addBytesOf_37 : Daload prog_12_method_2_code 37 0 38 := Or.inl ⟨0, by decide +kernel, rfl, rfl⟩
theorem dX10_addBytesOf_38 : D1 prog_12_method_2_code 38 (.dup) 39 := ⟨by decide +kernel, rfl⟩
theorem dX10_addBytesOf_39 : D3 prog_12_method_2_code 39 (.getfield 19) 42 := ⟨by decide +kernel, rfl⟩
theorem dX10_addBytesOf_42 : Dconst prog_12_method_2_code 42 1 43 := Or.inl ⟨1, by decide +kernel, rfl, rfl⟩
theorem dX10_addBytesOf_43 : D1 prog_12_method_2_code 43 (.iadd) 44 := ⟨by decide +kernel, rfl⟩
theorem dX10_addBytesOf_44 : D3 prog_12_method_2_code 44 (.putfield 19) 47 := ⟨by decide +kernel, rfl⟩
theorem dX10_addBytesOf_47 : Diinc prog_12_method_2_code 47 2 1 50 := ⟨1, by decide +kernel, rfl, rfl⟩
theorem dX10_addBytesOf_50 : Dj prog_12_method_2_code 50 (.goto (-48)) (-48) 53 2 := ⟨by decide +kernel, rfl, by decide⟩
theorem dX10_addBytesOf_53 : D1 prog_12_method_2_code 53 (.return_) 54 := ⟨by decide +kernel, rfl⟩
theorem dX11_end_0 : Diload prog_1_method_17_code 0 1 1 := Or.inl ⟨1, by decide +kernel, rfl, rfl⟩
theorem dX11_end_1 : Dconst prog_1_method_17_code 1 0 2 := Or.inl ⟨0, by decide +kernel, rfl, rfl⟩
theorem dX11_end_2 : Daload prog_1_method_17_code 2 0 3 := Or.inl ⟨0, by decide +kernel, rfl, rfl⟩
theorem dX11_end_3 : D3 prog_1_method_17_code 3 (.getfield 54) 6 := ⟨by decide +kernel, rfl⟩
theorem dX11_end_6 : D3 prog_1_method_17_code 6 (.getfield 224) 9 := ⟨by decide +kernel, rfl⟩
theorem dX11_end_9 : D3 prog_1_method_17_code 9 (.invokestatic 89) 12 := ⟨by decide +kernel, rfl⟩
theorem dX11_end_12 : Dj prog_1_method_17_code 12 (.ifCond .ne 5) 5 15 17 := ⟨by decide +kernel, rfl, by decide⟩
theorem dX11_end_15 : Dconst prog_1_method_17_code 15 0 16 := Or.inl ⟨0, by decide +kernel, rfl, rfl⟩
theorem dX11_end_16 : D1 prog_1_method_17_code 16 (.ireturn) 17 := ⟨by decide +kernel, rfl⟩
theorem dX11_end_17 : Daload prog_1_method_17_code 17 0 18 := Or.inl ⟨0, by decide +kernel, rfl, rfl⟩
theorem dX11_end_18 : D3 prog_1_method_17_code 18 (.getfield 54) 21 := ⟨by decide +kernel, rfl⟩
theorem dX11_end_21 : Diload prog_1_method_17_code 21 1 22 := Or.inl ⟨1, by decide +kernel, rfl, rfl⟩
theorem dX11_end_22 : D3 prog_1_method_17_code 22 (.putfield 224) 25 := ⟨by decide +kernel, rfl⟩
theorem dX11_end_25 : Dconst prog_1_method_17_code 25 1 26 := Or.inl ⟨1, by decide +kernel, rfl, rfl⟩
theorem dX11_end_26 : D1 prog_1_method_17_code 26 (.ireturn) 27 := ⟨by decide +kernel, rfl⟩
theorem dX11_fault_0 : Daload prog_1_method_18_code 0 0 1 := Or.inl ⟨0, by decide +kernel, rfl, rfl⟩
theorem dX11_fault_1 : D3 prog_1_method_18_code 1 (.getfield 63) 4 := ⟨by decide +kernel, rfl⟩
theorem dX11_fault_4 : Daload prog_1_method_18_code 4 0 5 := Or.inl ⟨0, by decide +kernel, rfl, rfl⟩
theorem dX11_fault_5 : D3 prog_1_method_18_code 5 (.getfield 74) 8 := ⟨by decide +kernel, rfl⟩
theorem dX11_fault_8 : D3 prog_1_method_18_code 8 (.invokevirtual 230) 11 := ⟨by decide +kernel, rfl⟩
theorem dX11_fault_11 : D1 prog_1_method_18_code 11 (.ireturn) 12 := ⟨by decide +kernel, rfl⟩
theorem dX6_read_0 : Daload prog_8_method_2_code 0 0 1 := Or.inl ⟨0, by decide +kernel, rfl, rfl⟩
theorem dX6_read_1 : Dconst prog_8_method_2_code 1 0 2 := Or.inl ⟨0, by decide +kernel, rfl, rfl⟩
theorem dX6_read_2 : D3 prog_8_method_2_code 2 (.putfield 15) 5 := ⟨by decide +kernel, rfl⟩
theorem dX6_read_5 : Daload prog_8_method_2_code 5 1 6 := Or.inl ⟨1, by decide +kernel, rfl, rfl⟩
theorem dX6_read_6 : Dconst prog_8_method_2_code 6 0 7 := Or.inl ⟨0, by decide +kernel, rfl, rfl⟩
theorem dX6_read_7 : D3 prog_8_method_2_code 7 (.putfield 19) 10 := ⟨by decide +kernel, rfl⟩
theorem dX6_read_10 : Daload prog_8_method_2_code 10 0 11 := Or.inl ⟨0, by decide +kernel, rfl, rfl⟩
theorem dX6_read_11 : D3 prog_8_method_2_code 11 (.invokevirtual 24) 14 := ⟨by decide +kernel, rfl⟩
theorem dX6_read_14 : Daload prog_8_method_2_code 14 0 15 := Or.inl ⟨0, by decide +kernel, rfl, rfl⟩
theorem dX6_read_15 : D3 prog_8_method_2_code 15 (.invokevirtual 27) 18 := ⟨by decide +kernel, rfl⟩
theorem dX6_read_18 : Dconst prog_8_method_2_code 18 (-1) 19 := Or.inl ⟨(-1), by decide +kernel, rfl, rfl⟩
theorem dX6_read_19 : Dj prog_8_method_2_code 19 (.if_icmp .ne 5) 5 22 24 := ⟨by decide +kernel, rfl, by decide⟩
theorem dX6_read_22 : Dconst prog_8_method_2_code 22 (-1) 23 := Or.inl ⟨(-1), by decide +kernel, rfl, rfl⟩
theorem dX6_read_23 : D1 prog_8_method_2_code 23 (.ireturn) 24 := ⟨by decide +kernel, rfl⟩
theorem dX6_read_24 : Dconst prog_8_method_2_code 24 0 25 := Or.inl ⟨0, by decide +kernel, rfl, rfl⟩
theorem dX6_read_25 : Distore prog_8_method_2_code 25 2 26 := Or.inl ⟨2, by decide +kernel, rfl, rfl⟩
theorem dX6_read_26 : Diload prog_8_method_2_code 26 2 27 := Or.inl ⟨2, by decide +kernel, rfl, rfl⟩
theorem dX6_read_27 : Dconst prog_8_method_2_code 27 34 29 := Or.inr (Or.inl ⟨34, by decide +kernel, rfl, rfl⟩)
theorem dX6_read_29 : Dj prog_8_method_2_code 29 (.if_icmp .ge 50) 50 32 79 := ⟨by decide +kernel, rfl, by decide⟩
theorem dX6_read_32 : Daload prog_8_method_2_code 32 0 33 := Or.inl ⟨0, by decide +kernel, rfl, rfl⟩
theorem dX6_read_33 : Daload prog_8_method_2_code 33 1 34 := Or.inl ⟨1, by decide +kernel, rfl, rfl⟩
theorem dX6_read_34 : D3 prog_8_method_2_code 34 (.invokevirtual 31) 37 := ⟨by decide +kernel, rfl⟩
theorem dX6_read_37 : Dj prog_8_method_2_code 37 (.ifCond .ne 8) 8 40 45 := ⟨by decide +kernel, rfl, by decide⟩
theorem dX6_read_40 : Daload prog_8_method_2_code 40 0 41 := Or.inl ⟨0, by decide +kernel, rfl, rfl⟩
theorem dX6_read_41 : D3 prog_8_method_2_code 41 (.getfield 15) 44 := ⟨by decide +kernel, rfl⟩
theorem dX6_read_44 : D1 prog_8_method_2_code 44 (.ireturn) 45 := ⟨by decide +kernel, rfl⟩
theorem dX6_read_45 : Daload prog_8_method_2_code 45 0 46 := Or.inl ⟨0, by decide +kernel, rfl, rfl⟩
theorem dX6_read_46 : D3 prog_8_method_2_code 46 (.invokevirtual 24) 49 := ⟨by decide +kernel, rfl⟩
theorem dX6_read_49 : Daload prog_8_method_2_code 49 0 50 := Or.inl ⟨0, by decide +kernel, rfl, rfl⟩
theorem dX6_read_50 : D3 prog_8_method_2_code 50 (.invokevirtual 27) 53 := ⟨by decide +kernel, rfl⟩
theorem dX6_read_53 : Dconst prog_8_method_2_code 53 (-1) 54 := Or.inl ⟨(-1), by decide +kernel, rfl, rfl⟩
theorem dX6_read_54 : Dj prog_8_method_2_code 54 (.if_icmp .ne 5) 5 57 59 := ⟨by decide +kernel, rfl, by decide⟩
theorem dX6_read_57 : Dconst prog_8_method_2_code 57 (-1) 58 := Or.inl ⟨(-1), by decide +kernel, rfl, rfl⟩
theorem dX6_read_58 : D1 prog_8_method_2_code 58 (.ireturn) 59 := ⟨by decide +kernel, rfl⟩
theorem dX6_read_59 : Daload prog_8_method_2_code 59 0 60 := Or.inl ⟨0, by decide +kernel, rfl, rfl⟩
theorem dX6_read_60 : Dconst prog_8_method_2_code 60 59 62 := Or.inr (Or.inl ⟨59, by decide +kernel, rfl, rfl⟩)
theorem dX6_read_62 : D3 prog_8_method_2_code 62 (.invokevirtual 35) 65 := ⟨by decide +kernel, rfl⟩
theorem dX6_read_65 : Dj prog_8_method_2_code 65 (.ifCond .ne 8) 8 68 73 := ⟨by decide +kernel, rfl, by decide⟩
theorem dX6_read_68 : Daload prog_8_method_2_code 68 0 69 := Or.inl ⟨0, by decide +kernel, rfl, rfl⟩
theorem dX6_read_69 : D3 prog_8_method_2_code 69 (.getfield 15) 72 := ⟨by decide +kernel, rfl⟩
theorem dX6_read_72 : D1 prog_8_method_2_code 72 (.ireturn) 73 := ⟨by decide +kernel, rfl⟩
theorem dX6_read_73 : Diinc prog_8_method_2_code 73 2 1 76 := ⟨1, by decide +kernel, rfl, rfl⟩
theorem dX6_read_76 : Dj prog_8_method_2_code 76 (.goto (-50)) (-50) 79 26 := ⟨by decide +kernel, rfl, by decide⟩
theorem dX6_read_79 : Daload prog_8_method_2_code 79 0 80 := Or.inl ⟨0, by decide +kernel, rfl, rfl⟩
theorem dX6_read_80 : D3 prog_8_method_2_code 80 (.getfield 15) 83 := ⟨by decide +kernel, rfl⟩
theorem dX6_read_83 : D1 prog_8_method_2_code 83 (.ireturn) 84 := ⟨by decide +kernel, rfl⟩
theorem dX6_skipBlanks_0 : Daload prog_8_method_5_code 0 0 1 := Or.inl ⟨0, by decide +kernel, rfl, rfl⟩
theorem dX6_skipBlanks_1 : D3 prog_8_method_5_code 1 (.getfield 15) 4 := ⟨by decide +kernel, rfl⟩
theorem dX6_skipBlanks_4 : Daload prog_8_method_5_code 4 0 5 := Or.inl ⟨0, by decide +kernel, rfl, rfl⟩
theorem dX6_skipBlanks_5 : D3 prog_8_method_5_code 5 (.getfield 9) 8 := ⟨by decide +kernel, rfl⟩
theorem dX6_skipBlanks_8 : D3 prog_8_method_5_code 8 (.getfield 50) 11 := ⟨by decide +kernel, rfl⟩
theorem dX6_skipBlanks_11 : Dj prog_8_method_5_code 11 (.if_icmp .ge 25) 25 14 36 := ⟨by decide +kernel, rfl, by decide⟩
theorem dX6_skipBlanks_14 : Daload prog_8_method_5_code 14 0 15 := Or.inl ⟨0, by decide +kernel, rfl, rfl⟩
theorem dX6_skipBlanks_15 : D3 prog_8_method_5_code 15 (.invokevirtual 27) 18 := ⟨by decide +kernel, rfl⟩
theorem dX6_skipBlanks_18 : Dconst prog_8_method_5_code 18 32 20 := Or.inr (Or.inl ⟨32, by decide +kernel, rfl, rfl⟩)
theorem dX6_skipBlanks_20 : Dj prog_8_method_5_code 20 (.if_icmp .ne 16) 16 23 36 := ⟨by decide +kernel, rfl, by decide⟩
theorem dX6_skipBlanks_23 : Daload prog_8_method_5_code 23 0 24 := Or.inl ⟨0, by decide +kernel, rfl, rfl⟩
theorem dX6_skipBlanks_24 : D1 prog_8_method_5_code 24 (.dup) 25 := ⟨by decide +kernel, rfl⟩
theorem dX6_skipBlanks_25 : D3 prog_8_method_5_code 25 (.getfield 15) 28 := ⟨by decide +kernel, rfl⟩
theorem dX6_skipBlanks_28 : Dconst prog_8_method_5_code 28 1 29 := Or.inl ⟨1, by decide +kernel, rfl, rfl⟩
theorem dX6_skipBlanks_29 : D1 prog_8_method_5_code 29 (.iadd) 30 := ⟨by decide +kernel, rfl⟩
theorem dX6_skipBlanks_30 : D3 prog_8_method_5_code 30 (.putfield 15) 33 := ⟨by decide +kernel, rfl⟩
theorem dX6_skipBlanks_33 : Dj prog_8_method_5_code 33 (.goto (-33)) (-33) 36 0 := ⟨by decide +kernel, rfl, by decide⟩
theorem dX6_skipBlanks_36 : D1 prog_8_method_5_code 36 (.return_) 37 := ⟨by decide +kernel, rfl⟩
theorem dX6_here_0 : Daload prog_8_method_7_code 0 0 1 := Or.inl ⟨0, by decide +kernel, rfl, rfl⟩
theorem dX6_here_1 : D3 prog_8_method_7_code 1 (.getfield 9) 4 := ⟨by decide +kernel, rfl⟩
theorem dX6_here_4 : Daload prog_8_method_7_code 4 0 5 := Or.inl ⟨0, by decide +kernel, rfl, rfl⟩
theorem dX6_here_5 : D3 prog_8_method_7_code 5 (.getfield 15) 8 := ⟨by decide +kernel, rfl⟩
theorem dX6_here_8 : D3 prog_8_method_7_code 8 (.invokevirtual 55) 11 := ⟨by decide +kernel, rfl⟩
theorem dX6_here_11 : D1 prog_8_method_7_code 11 (.ireturn) 12 := ⟨by decide +kernel, rfl⟩
theorem dX10_byteAt_0 : Diload prog_12_method_3_code 0 1 1 := Or.inl ⟨1, by decide +kernel, rfl, rfl⟩
theorem dX10_byteAt_1 : Dconst prog_12_method_3_code 1 0 2 := Or.inl ⟨0, by decide +kernel, rfl, rfl⟩
theorem dX10_byteAt_2 : Daload prog_12_method_3_code 2 0 3 := Or.inl ⟨0, by decide +kernel, rfl, rfl⟩
theorem dX10_byteAt_3 : D3 prog_12_method_3_code 3 (.getfield 19) 6 := ⟨by decide +kernel, rfl⟩
theorem dX10_byteAt_6 : Dconst prog_12_method_3_code 6 1 7 := Or.inl ⟨1, by decide +kernel, rfl, rfl⟩
theorem dX10_byteAt_7 : D1 prog_12_method_3_code 7 (.isub) 8 := ⟨by decide +kernel, rfl⟩
theorem dX10_byteAt_8 : D3 prog_12_method_3_code 8 (.invokestatic 23) 11 := ⟨by decide +kernel, rfl⟩
theorem dX10_byteAt_11 : Dj prog_12_method_3_code 11 (.ifCond .eq 12) 12 14 23 := ⟨by decide +kernel, rfl, by decide⟩
theorem dX10_byteAt_14 : Daload prog_12_method_3_code 14 0 15 := Or.inl ⟨0, by decide +kernel, rfl, rfl⟩
theorem dX10_byteAt_15 : D3 prog_12_method_3_code 15 (.getfield 9) 18 := ⟨by decide +kernel, rfl⟩
theorem dX10_byteAt_18 : Diload prog_12_method_3_code 18 1 19 := Or.inl ⟨1, by decide +kernel, rfl, rfl⟩
theorem dX10_byteAt_19 : D1 prog_12_method_3_code 19 (.iaload) 20 := ⟨by decide +kernel, rfl⟩
theorem dX10_byteAt_20 : Dj prog_12_method_3_code 20 (.goto 4) 4 23 24 := ⟨by decide +kernel, rfl, by decide⟩
theorem dX10_byteAt_23 : Dconst prog_12_method_3_code 23 (-1) 24 := Or.inl ⟨(-1), by decide +kernel, rfl, rfl⟩
theorem dX10_byteAt_24 : D1 prog_12_method_3_code 24 (.ireturn) 25 := ⟨by decide +kernel, rfl⟩
theorem dX6_readClause_0 : Daload prog_8_method_3_code 0 0 1 := Or.inl ⟨0, by decide +kernel, rfl, rfl⟩
theorem dX6_readClause_1 : D3 prog_8_method_3_code 1 (.invokevirtual 24) 4 := ⟨by decide +kernel, rfl⟩
theorem dX6_readClause_4 : Daload prog_8_method_3_code 4 0 5 := Or.inl ⟨0, by decide +kernel, rfl, rfl⟩
theorem dX6_readClause_5 : D3 prog_8_method_3_code 5 (.invokevirtual 27) 8 := ⟨by decide +kernel, rfl⟩
theorem dX6_readClause_8 : Distore prog_8_method_3_code 8 2 9 := Or.inl ⟨2, by decide +kernel, rfl, rfl⟩
theorem dX6_readClause_9 : Daload prog_8_method_3_code 9 0 10 := Or.inl ⟨0, by decide +kernel, rfl, rfl⟩
theorem dX6_readClause_10 : Dconst prog_8_method_3_code 10 98 12 := Or.inr (Or.inl ⟨98, by decide +kernel, rfl, rfl⟩)
theorem dX6_readClause_12 : D3 prog_8_method_3_code 12 (.invokevirtual 35) 15 := ⟨by decide +kernel, rfl⟩
theorem dX6_readClause_15 : Dj prog_8_method_3_code 15 (.ifCond .ne 32) 32 18 47 := ⟨by decide +kernel, rfl, by decide⟩
theorem dX6_readClause_18 : Daload prog_8_method_3_code 18 0 19 := Or.inl ⟨0, by decide +kernel, rfl, rfl⟩
theorem dX6_readClause_19 : Dconst prog_8_method_3_code 19 107 21 := Or.inr (Or.inl ⟨107, by decide +kernel, rfl, rfl⟩)
theorem dX6_readClause_21 : D3 prog_8_method_3_code 21 (.invokevirtual 35) 24 := ⟨by decide +kernel, rfl⟩
theorem dX6_readClause_24 : Dj prog_8_method_3_code 24 (.ifCond .ne 23) 23 27 47 := ⟨by decide +kernel, rfl, by decide⟩
theorem dX6_readClause_27 : Daload prog_8_method_3_code 27 0 28 := Or.inl ⟨0, by decide +kernel, rfl, rfl⟩
theorem dX6_readClause_28 : Dconst prog_8_method_3_code 28 110 30 := Or.inr (Or.inl ⟨110, by decide +kernel, rfl, rfl⟩)
theorem dX6_readClause_30 : D3 prog_8_method_3_code 30 (.invokevirtual 35) 33 := ⟨by decide +kernel, rfl⟩
theorem dX6_readClause_33 : Dj prog_8_method_3_code 33 (.ifCond .ne 14) 14 36 47 := ⟨by decide +kernel, rfl, by decide⟩
theorem dX6_readClause_36 : Daload prog_8_method_3_code 36 0 37 := Or.inl ⟨0, by decide +kernel, rfl, rfl⟩
theorem dX6_readClause_37 : Dconst prog_8_method_3_code 37 103 39 := Or.inr (Or.inl ⟨103, by decide +kernel, rfl, rfl⟩)
theorem dX6_readClause_39 : D3 prog_8_method_3_code 39 (.invokevirtual 35) 42 := ⟨by decide +kernel, rfl⟩
theorem dX6_readClause_42 : Dj prog_8_method_3_code 42 (.ifCond .ne 5) 5 45 47 := ⟨by decide +kernel, rfl, by decide⟩
theorem dX6_readClause_45 : Dconst prog_8_method_3_code 45 0 46 := Or.inl ⟨0, by decide +kernel, rfl, rfl⟩
theorem dX6_readClause_46 : D1 prog_8_method_3_code 46 (.ireturn) 47 := ⟨by decide +kernel, rfl⟩
theorem dX6_readClause_47 : Daload prog_8_method_3_code 47 0 48 := Or.inl ⟨0, by decide +kernel, rfl, rfl⟩
theorem dX6_readClause_48 : D3 prog_8_method_3_code 48 (.invokevirtual 24) 51 := ⟨by decide +kernel, rfl⟩
theorem dX6_readClause_51 : Daload prog_8_method_3_code 51 0 52 := Or.inl ⟨0, by decide +kernel, rfl, rfl⟩
theorem dX6_readClause_52 : D3 prog_8_method_3_code 52 (.invokevirtual 27) 55 := ⟨by decide +kernel, rfl⟩
theorem dX6_readClause_55 : Distore prog_8_method_3_code 55 3 56 := Or.inl ⟨3, by decide +kernel, rfl, rfl⟩
theorem dX6_readClause_56 : Daload prog_8_method_3_code 56 0 57 := Or.inl ⟨0, by decide +kernel, rfl, rfl⟩
theorem dX6_readClause_57 : Dconst prog_8_method_3_code 57 61 59 := Or.inr (Or.inl ⟨61, by decide +kernel, rfl, rfl⟩)
theorem dX6_readClause_59 : D3 prog_8_method_3_code 59 (.invokevirtual 35) 62 := ⟨by decide +kernel, rfl⟩
theorem dX6_readClause_62 : Dj prog_8_method_3_code 62 (.ifCond .ne 23) 23 65 85 := ⟨by decide +kernel, rfl, by decide⟩
theorem dX6_readClause_65 : Daload prog_8_method_3_code 65 0 66 := Or.inl ⟨0, by decide +kernel, rfl, rfl⟩
theorem dX6_readClause_66 : Dconst prog_8_method_3_code 66 60 68 := Or.inr (Or.inl ⟨60, by decide +kernel, rfl, rfl⟩)
theorem dX6_readClause_68 : D3 prog_8_method_3_code 68 (.invokevirtual 35) 71 := ⟨by decide +kernel, rfl⟩
theorem dX6_readClause_71 : Dj prog_8_method_3_code 71 (.ifCond .ne 14) 14 74 85 := ⟨by decide +kernel, rfl, by decide⟩
theorem dX6_readClause_74 : Daload prog_8_method_3_code 74 0 75 := Or.inl ⟨0, by decide +kernel, rfl, rfl⟩
theorem dX6_readClause_75 : Dconst prog_8_method_3_code 75 62 77 := Or.inr (Or.inl ⟨62, by decide +kernel, rfl, rfl⟩)
theorem dX6_readClause_77 : D3 prog_8_method_3_code 77 (.invokevirtual 35) 80 := ⟨by decide +kernel, rfl⟩
theorem dX6_readClause_80 : Dj prog_8_method_3_code 80 (.ifCond .ne 5) 5 83 85 := ⟨by decide +kernel, rfl, by decide⟩
theorem dX6_readClause_83 : Dconst prog_8_method_3_code 83 0 84 := Or.inl ⟨0, by decide +kernel, rfl, rfl⟩
theorem dX6_readClause_84 : D1 prog_8_method_3_code 84 (.ireturn) 85 := ⟨by decide +kernel, rfl⟩
theorem dX6_readClause_85 : Daload prog_8_method_3_code 85 0 86 := Or.inl ⟨0, by decide +kernel, rfl, rfl⟩
theorem dX6_readClause_86 : D3 prog_8_method_3_code 86 (.invokevirtual 24) 89 := ⟨by decide +kernel, rfl⟩
theorem dX6_readClause_89 : Daload prog_8_method_3_code 89 0 90 := Or.inl ⟨0, by decide +kernel, rfl, rfl⟩
theorem dX6_readClause_90 : D3 prog_8_method_3_code 90 (.invokevirtual 39) 93 := ⟨by decide +kernel, rfl⟩
theorem dX6_readClause_93 : Distore prog_8_method_3_code 93 4 95 := Or.inr ⟨by decide +kernel, rfl⟩
theorem dX6_readClause_95 : Diload prog_8_method_3_code 95 4 97 := Or.inr ⟨by decide +kernel, rfl⟩
theorem dX6_readClause_97 : Dconst prog_8_method_3_code 97 (-1) 98 := Or.inl ⟨(-1), by decide +kernel, rfl, rfl⟩
theorem dX6_readClause_98 : Dj prog_8_method_3_code 98 (.if_icmp .ne 5) 5 101 103 := ⟨by decide +kernel, rfl, by decide⟩
theorem dX6_readClause_101 : Dconst prog_8_method_3_code 101 0 102 := Or.inl ⟨0, by decide +kernel, rfl, rfl⟩
theorem dX6_readClause_102 : D1 prog_8_method_3_code 102 (.ireturn) 103 := ⟨by decide +kernel, rfl⟩
theorem dX6_readClause_103 : Daload prog_8_method_3_code 103 0 104 := Or.inl ⟨0, by decide +kernel, rfl, rfl⟩
theorem dX6_readClause_104 : D3 prog_8_method_3_code 104 (.invokevirtual 24) 107 := ⟨by decide +kernel, rfl⟩
theorem dX6_readClause_107 : Daload prog_8_method_3_code 107 0 108 := Or.inl ⟨0, by decide +kernel, rfl, rfl⟩
theorem dX6_readClause_108 : Dconst prog_8_method_3_code 108 58 110 := Or.inr (Or.inl ⟨58, by decide +kernel, rfl, rfl⟩)
theorem dX6_readClause_110 : D3 prog_8_method_3_code 110 (.invokevirtual 35) 113 := ⟨by decide +kernel, rfl⟩
theorem dX6_readClause_113 : Dj prog_8_method_3_code 113 (.ifCond .ne 5) 5 116 118 := ⟨by decide +kernel, rfl, by decide⟩
theorem dX6_readClause_116 : Dconst prog_8_method_3_code 116 0 117 := Or.inl ⟨0, by decide +kernel, rfl, rfl⟩
theorem dX6_readClause_117 : D1 prog_8_method_3_code 117 (.ireturn) 118 := ⟨by decide +kernel, rfl⟩
theorem dX6_readClause_118 : Daload prog_8_method_3_code 118 0 119 := Or.inl ⟨0, by decide +kernel, rfl, rfl⟩
theorem dX6_readClause_119 : D3 prog_8_method_3_code 119 (.invokevirtual 24) 122 := ⟨by decide +kernel, rfl⟩
theorem dX6_readClause_122 : Daload prog_8_method_3_code 122 0 123 := Or.inl ⟨0, by decide +kernel, rfl, rfl⟩
theorem dX6_readClause_123 : Dconst prog_8_method_3_code 123 45 125 := Or.inr (Or.inl ⟨45, by decide +kernel, rfl, rfl⟩)
theorem dX6_readClause_125 : D3 prog_8_method_3_code 125 (.invokevirtual 35) 128 := ⟨by decide +kernel, rfl⟩
theorem dX6_readClause_128 : Distore prog_8_method_3_code 128 5 130 := Or.inr ⟨by decide +kernel, rfl⟩
theorem dX6_readClause_130 : Daload prog_8_method_3_code 130 0 131 := Or.inl ⟨0, by decide +kernel, rfl, rfl⟩
theorem dX6_readClause_131 : D3 prog_8_method_3_code 131 (.invokevirtual 39) 134 := ⟨by decide +kernel, rfl⟩
theorem dX6_readClause_134 : Distore prog_8_method_3_code 134 6 136 := Or.inr ⟨by decide +kernel, rfl⟩
theorem dX6_readClause_136 : Diload prog_8_method_3_code 136 6 138 := Or.inr ⟨by decide +kernel, rfl⟩
theorem dX6_readClause_138 : Dconst prog_8_method_3_code 138 (-1) 139 := Or.inl ⟨(-1), by decide +kernel, rfl, rfl⟩
theorem dX6_readClause_139 : Dj prog_8_method_3_code 139 (.if_icmp .ne 5) 5 142 144 := ⟨by decide +kernel, rfl, by decide⟩
theorem dX6_readClause_142 : Dconst prog_8_method_3_code 142 0 143 := Or.inl ⟨0, by decide +kernel, rfl, rfl⟩
theorem dX6_readClause_143 : D1 prog_8_method_3_code 143 (.ireturn) 144 := ⟨by decide +kernel, rfl⟩
theorem dX6_readClause_144 : Daload prog_8_method_3_code 144 1 145 := Or.inl ⟨1, by decide +kernel, rfl, rfl⟩
theorem dX6_readClause_145 : Diload prog_8_method_3_code 145 2 146 := Or.inl ⟨2, by decide +kernel, rfl, rfl⟩
theorem dX6_readClause_146 : Diload prog_8_method_3_code 146 3 147 := Or.inl ⟨3, by decide +kernel, rfl, rfl⟩
theorem dX6_readClause_147 : Diload prog_8_method_3_code 147 4 149 := Or.inr ⟨by decide +kernel, rfl⟩
theorem dX6_readClause_149 : Diload prog_8_method_3_code 149 5 151 := Or.inr ⟨by decide +kernel, rfl⟩
theorem dX6_readClause_151 : Dj prog_8_method_3_code 151 (.ifCond .eq 9) 9 154 160 := ⟨by decide +kernel, rfl, by decide⟩
theorem dX6_readClause_154 : Diload prog_8_method_3_code 154 6 156 := Or.inr ⟨by decide +kernel, rfl⟩
theorem dX6_readClause_156 : D1 prog_8_method_3_code 156 (.ineg) 157 := ⟨by decide +kernel, rfl⟩
theorem dX6_readClause_157 : Dj prog_8_method_3_code 157 (.goto 5) 5 160 162 := ⟨by decide +kernel, rfl, by decide⟩
theorem dX6_readClause_160 : Diload prog_8_method_3_code 160 6 162 := Or.inr ⟨by decide +kernel, rfl⟩
theorem dX6_readClause_162 : D3 prog_8_method_3_code 162 (.invokevirtual 42) 165 := ⟨by decide +kernel, rfl⟩
theorem dX6_readClause_165 : Dconst prog_8_method_3_code 165 1 166 := Or.inl ⟨1, by decide +kernel, rfl, rfl⟩
theorem dX6_readClause_166 : D1 prog_8_method_3_code 166 (.ireturn) 167 := ⟨by decide +kernel, rfl⟩
theorem dX6_pass_0 : Daload prog_8_method_6_code 0 0 1 := Or.inl ⟨0, by decide +kernel, rfl, rfl⟩
theorem dX6_pass_1 : D3 prog_8_method_6_code 1 (.invokevirtual 27) 4 := ⟨by decide +kernel, rfl⟩
theorem dX6_pass_4 : Diload prog_8_method_6_code 4 1 5 := Or.inl ⟨1, by decide +kernel, rfl, rfl⟩
theorem dX6_pass_5 : Dj prog_8_method_6_code 5 (.if_icmp .eq 5) 5 8 10 := ⟨by decide +kernel, rfl, by decide⟩
theorem dX6_pass_8 : Dconst prog_8_method_6_code 8 0 9 := Or.inl ⟨0, by decide +kernel, rfl, rfl⟩
theorem dX6_pass_9 : D1 prog_8_method_6_code 9 (.ireturn) 10 := ⟨by decide +kernel, rfl⟩
theorem dX6_pass_10 : Daload prog_8_method_6_code 10 0 11 := Or.inl ⟨0, by decide +kernel, rfl, rfl⟩
theorem dX6_pass_11 : D1 prog_8_method_6_code 11 (.dup) 12 := ⟨by decide +kernel, rfl⟩
theorem dX6_pass_12 : D3 prog_8_method_6_code 12 (.getfield 15) 15 := ⟨by decide +kernel, rfl⟩
theorem dX6_pass_15 : Dconst prog_8_method_6_code 15 1 16 := Or.inl ⟨1, by decide +kernel, rfl, rfl⟩
theorem dX6_pass_16 : D1 prog_8_method_6_code 16 (.iadd) 17 := ⟨by decide +kernel, rfl⟩
theorem dX6_pass_17 : D3 prog_8_method_6_code 17 (.putfield 15) 20 := ⟨by decide +kernel, rfl⟩
theorem dX6_pass_20 : Dconst prog_8_method_6_code 20 1 21 := Or.inl ⟨1, by decide +kernel, rfl, rfl⟩
theorem dX6_pass_21 : D1 prog_8_method_6_code 21 (.ireturn) 22 := ⟨by decide +kernel, rfl⟩
theorem dX6_readDigits_0 : Daload prog_8_method_4_code 0 0 1 := Or.inl ⟨0, by decide +kernel, rfl, rfl⟩
theorem dX6_readDigits_1 : D3 prog_8_method_4_code 1 (.getfield 15) 4 := ⟨by decide +kernel, rfl⟩
theorem dX6_readDigits_4 : Distore prog_8_method_4_code 4 1 5 := Or.inl ⟨1, by decide +kernel, rfl, rfl⟩
theorem dX6_readDigits_5 : Dconst prog_8_method_4_code 5 0 6 := Or.inl ⟨0, by decide +kernel, rfl, rfl⟩
theorem dX6_readDigits_6 : Distore prog_8_method_4_code 6 2 7 := Or.inl ⟨2, by decide +kernel, rfl, rfl⟩
theorem dX6_readDigits_7 : Daload prog_8_method_4_code 7 0 8 := Or.inl ⟨0, by decide +kernel, rfl, rfl⟩
theorem dX6_readDigits_8 : D3 prog_8_method_4_code 8 (.getfield 15) 11 := ⟨by decide +kernel, rfl⟩
theorem dX6_readDigits_11 : Diload prog_8_method_4_code 11 1 12 := Or.inl ⟨1, by decide +kernel, rfl, rfl⟩
theorem dX6_readDigits_12 : Dconst prog_8_method_4_code 12 5 13 := Or.inl ⟨5, by decide +kernel, rfl, rfl⟩
theorem dX6_readDigits_13 : D1 prog_8_method_4_code 13 (.iadd) 14 := ⟨by decide +kernel, rfl⟩
theorem dX6_readDigits_14 : Dj prog_8_method_4_code 14 (.if_icmp .ge 43) 43 17 57 := ⟨by decide +kernel, rfl, by decide⟩
theorem dX6_readDigits_17 : Daload prog_8_method_4_code 17 0 18 := Or.inl ⟨0, by decide +kernel, rfl, rfl⟩
theorem dX6_readDigits_18 : D3 prog_8_method_4_code 18 (.invokevirtual 27) 21 := ⟨by decide +kernel, rfl⟩
theorem dX6_readDigits_21 : Dconst prog_8_method_4_code 21 48 23 := Or.inr (Or.inl ⟨48, by decide +kernel, rfl, rfl⟩)
theorem dX6_readDigits_23 : Dconst prog_8_method_4_code 23 57 25 := Or.inr (Or.inl ⟨57, by decide +kernel, rfl, rfl⟩)
theorem dX6_readDigits_25 : D3 prog_8_method_4_code 25 (.invokestatic 46) 28 := ⟨by decide +kernel, rfl⟩
theorem dX6_readDigits_28 : Dj prog_8_method_4_code 28 (.ifCond .eq 29) 29 31 57 := ⟨by decide +kernel, rfl, by decide⟩
theorem dX6_readDigits_31 : Diload prog_8_method_4_code 31 2 32 := Or.inl ⟨2, by decide +kernel, rfl, rfl⟩
theorem dX6_readDigits_32 : Dconst prog_8_method_4_code 32 10 34 := Or.inr (Or.inl ⟨10, by decide +kernel, rfl, rfl⟩)
theorem dX6_readDigits_34 : D1 prog_8_method_4_code 34 (.imul) 35 := ⟨by decide +kernel, rfl⟩
theorem dX6_readDigits_35 : Daload prog_8_method_4_code 35 0 36 := Or.inl ⟨0, by decide +kernel, rfl, rfl⟩
theorem dX6_readDigits_36 : D3 prog_8_method_4_code 36 (.invokevirtual 27) 39 := ⟨by decide +kernel, rfl⟩
theorem dX6_readDigits_39 : D1 prog_8_method_4_code 39 (.iadd) 40 := ⟨by decide +kernel, rfl⟩
theorem dX6_readDigits_40 : Dconst prog_8_method_4_code 40 48 42 := Or.inr (Or.inl ⟨48, by decide +kernel, rfl, rfl⟩)
theorem dX6_readDigits_42 : D1 prog_8_method_4_code 42 (.isub) 43 := ⟨by decide +kernel, rfl⟩
theorem dX6_readDigits_43 : Distore prog_8_method_4_code 43 2 44 := Or.inl ⟨2, by decide +kernel, rfl, rfl⟩
theorem dX6_readDigits_44 : Daload prog_8_method_4_code 44 0 45 := Or.inl ⟨0, by decide +kernel, rfl, rfl⟩
theorem dX6_readDigits_45 : D1 prog_8_method_4_code 45 (.dup) 46 := ⟨by decide +kernel, rfl⟩
theorem dX6_readDigits_46 : D3 prog_8_method_4_code 46 (.getfield 15) 49 := ⟨by decide +kernel, rfl⟩
theorem dX6_readDigits_49 : Dconst prog_8_method_4_code 49 1 50 := Or.inl ⟨1, by decide +kernel, rfl, rfl⟩
theorem dX6_readDigits_50 : D1 prog_8_method_4_code 50 (.iadd) 51 := ⟨by decide +kernel, rfl⟩
theorem dX6_readDigits_51 : D3 prog_8_method_4_code 51 (.putfield 15) 54 := ⟨by decide +kernel, rfl⟩
theorem dX6_readDigits_54 : Dj prog_8_method_4_code 54 (.goto (-47)) (-47) 57 7 := ⟨by decide +kernel, rfl, by decide⟩
theorem dX6_readDigits_57 : Daload prog_8_method_4_code 57 0 58 := Or.inl ⟨0, by decide +kernel, rfl, rfl⟩
theorem dX6_readDigits_58 : D3 prog_8_method_4_code 58 (.getfield 15) 61 := ⟨by decide +kernel, rfl⟩
theorem dX6_readDigits_61 : Diload prog_8_method_4_code 61 1 62 := Or.inl ⟨1, by decide +kernel, rfl, rfl⟩
theorem dX6_readDigits_62 : Dj prog_8_method_4_code 62 (.if_icmp .ne 7) 7 65 69 := ⟨by decide +kernel, rfl, by decide⟩
theorem dX6_readDigits_65 : Dconst prog_8_method_4_code 65 (-1) 66 := Or.inl ⟨(-1), by decide +kernel, rfl, rfl⟩
theorem dX6_readDigits_66 : Dj prog_8_method_4_code 66 (.goto 4) 4 69 70 := ⟨by decide +kernel, rfl, by decide⟩
theorem dX6_readDigits_69 : Diload prog_8_method_4_code 69 2 70 := Or.inl ⟨2, by decide +kernel, rfl, rfl⟩
theorem dX6_readDigits_70 : D1 prog_8_method_4_code 70 (.ireturn) 71 := ⟨by decide +kernel, rfl⟩
theorem dX0_add_0 : Daload prog_2_method_2_code 0 0 1 := Or.inl ⟨0, by decide +kernel, rfl, rfl⟩
theorem dX0_add_1 : D3 prog_2_method_2_code 1 (.getfield 24) 4 := ⟨by decide +kernel, rfl⟩
theorem dX0_add_4 : Dconst prog_2_method_2_code 4 34 6 := Or.inr (Or.inl ⟨34, by decide +kernel, rfl, rfl⟩)
theorem dX0_add_6 : Dj prog_2_method_2_code 6 (.if_icmp .lt 4) 4 9 10 := ⟨by decide +kernel, rfl, by decide⟩
theorem dX0_add_9 : D1 prog_2_method_2_code 9 (.return_) 10 := ⟨by decide +kernel, rfl⟩
theorem dX0_add_10 : Daload prog_2_method_2_code 10 0 11 := Or.inl ⟨0, by decide +kernel, rfl, rfl⟩
theorem dX0_add_11 : D3 prog_2_method_2_code 11 (.getfield 9) 14 := ⟨by decide +kernel, rfl⟩
theorem dX0_add_14 : Daload prog_2_method_2_code 14 0 15 := Or.inl ⟨0, by decide +kernel, rfl, rfl⟩
theorem dX0_add_15 : D3 prog_2_method_2_code 15 (.getfield 24) 18 := ⟨by decide +kernel, rfl⟩
theorem dX0_add_18 : Diload prog_2_method_2_code 18 1 19 := Or.inl ⟨1, by decide +kernel, rfl, rfl⟩
theorem dX0_add_19 : D1 prog_2_method_2_code 19 (.iastore) 20 := ⟨by decide +kernel, rfl⟩
theorem dX0_add_20 : Daload prog_2_method_2_code 20 0 21 := Or.inl ⟨0, by decide +kernel, rfl, rfl⟩
theorem dX0_add_21 : D3 prog_2_method_2_code 21 (.getfield 15) 24 := ⟨by decide +kernel, rfl⟩
theorem dX0_add_24 : Daload prog_2_method_2_code 24 0 25 := Or.inl ⟨0, by decide +kernel, rfl, rfl⟩
theorem dX0_add_25 : D3 prog_2_method_2_code 25 (.getfield 24) 28 := ⟨by decide +kernel, rfl⟩
theorem dX0_add_28 : Diload prog_2_method_2_code 28 2 29 := Or.inl ⟨2, by decide +kernel, rfl, rfl⟩
theorem dX0_add_29 : D1 prog_2_method_2_code 29 (.iastore) 30 := ⟨by decide +kernel, rfl⟩
theorem dX0_add_30 : Daload prog_2_method_2_code 30 0 31 := Or.inl ⟨0, by decide +kernel, rfl, rfl⟩
theorem dX0_add_31 : D3 prog_2_method_2_code 31 (.getfield 18) 34 := ⟨by decide +kernel, rfl⟩
theorem dX0_add_34 : Daload prog_2_method_2_code 34 0 35 := Or.inl ⟨0, by decide +kernel, rfl, rfl⟩
theorem dX0_add_35 : D3 prog_2_method_2_code 35 (.getfield 24) 38 := ⟨by decide +kernel, rfl⟩
theorem dX0_add_38 : Diload prog_2_method_2_code 38 3 39 := Or.inl ⟨3, by decide +kernel, rfl, rfl⟩
theorem dX0_add_39 : D1 prog_2_method_2_code 39 (.iastore) 40 := ⟨by decide +kernel, rfl⟩
theorem dX0_add_40 : Daload prog_2_method_2_code 40 0 41 := Or.inl ⟨0, by decide +kernel, rfl, rfl⟩
theorem dX0_add_41 : D3 prog_2_method_2_code 41 (.getfield 21) 44 := ⟨by decide +kernel, rfl⟩
theorem dX0_add_44 : Daload prog_2_method_2_code 44 0 45 := Or.inl ⟨0, by decide +kernel, rfl, rfl⟩
theorem dX0_add_45 : D3 prog_2_method_2_code 45 (.getfield 24) 48 := ⟨by decide +kernel, rfl⟩
theorem dX0_add_48 : Diload prog_2_method_2_code 48 4 50 := Or.inr ⟨by decide +kernel, rfl⟩
theorem dX0_add_50 : D1 prog_2_method_2_code 50 (.iastore) 51 := ⟨by decide +kernel, rfl⟩
theorem dX0_add_51 : Daload prog_2_method_2_code 51 0 52 := Or.inl ⟨0, by decide +kernel, rfl, rfl⟩
theorem dX0_add_52 : D1 prog_2_method_2_code 52 (.dup) 53 := ⟨by decide +kernel, rfl⟩
theorem dX0_add_53 : D3 prog_2_method_2_code 53 (.getfield 24) 56 := ⟨by decide +kernel, rfl⟩
theorem dX0_add_56 : Dconst prog_2_method_2_code 56 1 57 := Or.inl ⟨1, by decide +kernel, rfl, rfl⟩
theorem dX0_add_57 : D1 prog_2_method_2_code 57 (.iadd) 58 := ⟨by decide +kernel, rfl⟩
theorem dX0_add_58 : D3 prog_2_method_2_code 58 (.putfield 24) 61 := ⟨by decide +kernel, rfl⟩
theorem dX0_add_61 : D1 prog_2_method_2_code 61 (.return_) 62 := ⟨by decide +kernel, rfl⟩
theorem dX11_contract_0 : Diload prog_1_method_19_code 0 1 1 := Or.inl ⟨1, by decide +kernel, rfl, rfl⟩
theorem dX11_contract_1 : Dconst prog_1_method_19_code 1 0 2 := Or.inl ⟨0, by decide +kernel, rfl, rfl⟩
theorem dX11_contract_2 : Dconst prog_1_method_19_code 2 9 4 := Or.inr (Or.inl ⟨9, by decide +kernel, rfl, rfl⟩)
theorem dX11_contract_4 : D3 prog_1_method_19_code 4 (.invokestatic 89) 7 := ⟨by decide +kernel, rfl⟩
theorem dX11_contract_7 : Dj prog_1_method_19_code 7 (.ifCond .eq 18) 18 10 25 := ⟨by decide +kernel, rfl, by decide⟩
theorem dX11_contract_10 : Daload prog_1_method_19_code 10 0 11 := Or.inl ⟨0, by decide +kernel, rfl, rfl⟩
theorem dX11_contract_11 : D3 prog_1_method_19_code 11 (.getfield 63) 14 := ⟨by decide +kernel, rfl⟩
theorem dX11_contract_14 : Daload prog_1_method_19_code 14 0 15 := Or.inl ⟨0, by decide +kernel, rfl, rfl⟩
theorem dX11_contract_15 : D3 prog_1_method_19_code 15 (.getfield 74) 18 := ⟨by decide +kernel, rfl⟩
theorem dX11_contract_18 : D3 prog_1_method_19_code 18 (.invokevirtual 230) 21 := ⟨by decide +kernel, rfl⟩
theorem dX11_contract_21 : Dconst prog_1_method_19_code 21 (-1) 22 := Or.inl ⟨(-1), by decide +kernel, rfl, rfl⟩
theorem dX11_contract_22 : Dj prog_1_method_19_code 22 (.if_icmp .eq 5) 5 25 27 := ⟨by decide +kernel, rfl, by decide⟩
theorem dX11_contract_25 : Dconst prog_1_method_19_code 25 0 26 := Or.inl ⟨0, by decide +kernel, rfl, rfl⟩
theorem dX11_contract_26 : D1 prog_1_method_19_code 26 (.ireturn) 27 := ⟨by decide +kernel, rfl⟩
theorem dX11_contract_27 : Daload prog_1_method_19_code 27 0 28 := Or.inl ⟨0, by decide +kernel, rfl, rfl⟩
theorem dX11_contract_28 : D3 prog_1_method_19_code 28 (.getfield 69) 31 := ⟨by decide +kernel, rfl⟩
theorem dX11_contract_31 : Diload prog_1_method_19_code 31 1 32 := Or.inl ⟨1, by decide +kernel, rfl, rfl⟩
theorem dX11_contract_32 : D1 prog_1_method_19_code 32 (.aaload) 33 := ⟨by decide +kernel, rfl⟩
theorem dX11_contract_33 : Dastore prog_1_method_19_code 33 2 34 := Or.inl ⟨2, by decide +kernel, rfl, rfl⟩
theorem dX11_contract_34 : Daload prog_1_method_19_code 34 0 35 := Or.inl ⟨0, by decide +kernel, rfl, rfl⟩
theorem dX11_contract_35 : D3 prog_1_method_19_code 35 (.getfield 69) 38 := ⟨by decide +kernel, rfl⟩
theorem dX11_contract_38 : Diload prog_1_method_19_code 38 1 39 := Or.inl ⟨1, by decide +kernel, rfl, rfl⟩
theorem dX11_contract_39 : Daload prog_1_method_19_code 39 0 40 := Or.inl ⟨0, by decide +kernel, rfl, rfl⟩
theorem dX11_contract_40 : D3 prog_1_method_19_code 40 (.getfield 74) 43 := ⟨by decide +kernel, rfl⟩
theorem dX11_contract_43 : D1 prog_1_method_19_code 43 (.aastore) 44 := ⟨by decide +kernel, rfl⟩
theorem dX11_contract_44 : Daload prog_1_method_19_code 44 0 45 := Or.inl ⟨0, by decide +kernel, rfl, rfl⟩
theorem dX11_contract_45 : Daload prog_1_method_19_code 45 2 46 := Or.inl ⟨2, by decide +kernel, rfl, rfl⟩
theorem dX11_contract_46 : Dj prog_1_method_19_code 46 (.ifnonnull 13) 13 49 59 := ⟨by decide +kernel, rfl, by decide⟩
theorem dX11_contract_49 : D3 prog_1_method_19_code 49 (.new 67) 52 := ⟨by decide +kernel, rfl⟩
theorem dX11_contract_52 : D1 prog_1_method_19_code 52 (.dup) 53 := ⟨by decide +kernel, rfl⟩
theorem dX11_contract_53 : D3 prog_1_method_19_code 53 (.invokespecial 73) 56 := ⟨by decide +kernel, rfl⟩
theorem dX11_contract_56 : Dj prog_1_method_19_code 56 (.goto 4) 4 59 60 := ⟨by decide +kernel, rfl, by decide⟩
theorem dX11_contract_59 : Daload prog_1_method_19_code 59 2 60 := Or.inl ⟨2, by decide +kernel, rfl, rfl⟩
theorem dX11_contract_60 : D3 prog_1_method_19_code 60 (.putfield 74) 63 := ⟨by decide +kernel, rfl⟩
theorem dX11_contract_63 : Daload prog_1_method_19_code 63 0 64 := Or.inl ⟨0, by decide +kernel, rfl, rfl⟩
theorem dX11_contract_64 : D3 prog_1_method_19_code 64 (.getfield 54) 67 := ⟨by decide +kernel, rfl⟩
theorem dX11_contract_67 : Dconst prog_1_method_19_code 67 0 68 := Or.inl ⟨0, by decide +kernel, rfl, rfl⟩
theorem dX11_contract_68 : D3 prog_1_method_19_code 68 (.putfield 224) 71 := ⟨by decide +kernel, rfl⟩
theorem dX11_contract_71 : Dconst prog_1_method_19_code 71 1 72 := Or.inl ⟨1, by decide +kernel, rfl, rfl⟩
theorem dX11_contract_72 : D1 prog_1_method_19_code 72 (.ireturn) 73 := ⟨by decide +kernel, rfl⟩
theorem dX11_draw_0 : Daload prog_1_method_20_code 0 0 1 := Or.inl ⟨0, by decide +kernel, rfl, rfl⟩
theorem dX11_draw_1 : D3 prog_1_method_20_code 1 (.getfield 47) 4 := ⟨by decide +kernel, rfl⟩
theorem dX11_draw_4 : Diload prog_1_method_20_code 4 1 5 := Or.inl ⟨1, by decide +kernel, rfl, rfl⟩
theorem dX11_draw_5 : D3 prog_1_method_20_code 5 (.invokevirtual 140) 8 := ⟨by decide +kernel, rfl⟩
theorem dX11_draw_8 : Dastore prog_1_method_20_code 8 5 10 := Or.inr ⟨by decide +kernel, rfl⟩
theorem dX11_draw_10 : Daload prog_1_method_20_code 10 5 12 := Or.inr ⟨by decide +kernel, rfl⟩
theorem dX11_draw_12 : Dj prog_1_method_20_code 12 (.ifnull 20) 20 15 32 := ⟨by decide +kernel, rfl, by decide⟩
theorem dX11_draw_15 : Daload prog_1_method_20_code 15 5 17 := Or.inr ⟨by decide +kernel, rfl⟩
theorem dX11_draw_17 : D3 prog_1_method_20_code 17 (.getfield 175) 20 := ⟨by decide +kernel, rfl⟩
theorem dX11_draw_20 : Diload prog_1_method_20_code 20 1 21 := Or.inl ⟨1, by decide +kernel, rfl, rfl⟩
theorem dX11_draw_21 : Dj prog_1_method_20_code 21 (.if_icmp .ne 11) 11 24 32 := ⟨by decide +kernel, rfl, by decide⟩
theorem dX11_draw_24 : Daload prog_1_method_20_code 24 5 26 := Or.inr ⟨by decide +kernel, rfl⟩
theorem dX11_draw_26 : D3 prog_1_method_20_code 26 (.getfield 234) 29 := ⟨by decide +kernel, rfl⟩
theorem dX11_draw_29 : Dj prog_1_method_20_code 29 (.ifCond .eq 5) 5 32 34 := ⟨by decide +kernel, rfl, by decide⟩
theorem dX11_draw_32 : Dconst prog_1_method_20_code 32 (-1) 33 := Or.inl ⟨(-1), by decide +kernel, rfl, rfl⟩
theorem dX11_draw_33 : D1 prog_1_method_20_code 33 (.ireturn) 34 := ⟨by decide +kernel, rfl⟩
theorem dX11_draw_34 : Diload prog_1_method_20_code 34 2 35 := Or.inl ⟨2, by decide +kernel, rfl, rfl⟩
theorem dX11_draw_35 : Dconst prog_1_method_20_code 35 0 36 := Or.inl ⟨0, by decide +kernel, rfl, rfl⟩
theorem dX11_draw_36 : Dconst prog_1_method_20_code 36 40 38 := Or.inr (Or.inl ⟨40, by decide +kernel, rfl, rfl⟩)
theorem dX11_draw_38 : Daload prog_1_method_20_code 38 5 40 := Or.inr ⟨by decide +kernel, rfl⟩
theorem dX11_draw_40 : D3 prog_1_method_20_code 40 (.getfield 238) 43 := ⟨by decide +kernel, rfl⟩
theorem dX11_draw_43 : D3 prog_1_method_20_code 43 (.invokestatic 241) 46 := ⟨by decide +kernel, rfl⟩
theorem dX11_draw_46 : D3 prog_1_method_20_code 46 (.invokestatic 89) 49 := ⟨by decide +kernel, rfl⟩
theorem dX11_draw_49 : Dj prog_1_method_20_code 49 (.ifCond .ne 5) 5 52 54 := ⟨by decide +kernel, rfl, by decide⟩
theorem dX11_draw_52 : Dconst prog_1_method_20_code 52 (-1) 53 := Or.inl ⟨(-1), by decide +kernel, rfl, rfl⟩
theorem dX11_draw_53 : D1 prog_1_method_20_code 53 (.ireturn) 54 := ⟨by decide +kernel, rfl⟩
theorem dX11_draw_54 : Daload prog_1_method_20_code 54 0 55 := Or.inl ⟨0, by decide +kernel, rfl, rfl⟩
theorem dX11_draw_55 : D3 prog_1_method_20_code 55 (.getfield 81) 58 := ⟨by decide +kernel, rfl⟩
theorem dX11_draw_58 : Daload prog_1_method_20_code 58 5 60 := Or.inr ⟨by decide +kernel, rfl⟩
theorem dX11_draw_60 : Diload prog_1_method_20_code 60 2 61 := Or.inl ⟨2, by decide +kernel, rfl, rfl⟩
theorem dX11_draw_61 : Dlload prog_1_method_20_code 61 3 62 := Or.inl ⟨3, by decide +kernel, rfl, rfl⟩
theorem dX11_draw_62 : D3 prog_1_method_20_code 62 (.invokevirtual 247) 65 := ⟨by decide +kernel, rfl⟩
theorem dX11_draw_65 : Distore prog_1_method_20_code 65 6 67 := Or.inr ⟨by decide +kernel, rfl⟩
theorem dX11_draw_67 : Daload prog_1_method_20_code 67 5 69 := Or.inr ⟨by decide +kernel, rfl⟩
theorem dX11_draw_69 : Dconst prog_1_method_20_code 69 1 70 := Or.inl ⟨1, by decide +kernel, rfl, rfl⟩
theorem dX11_draw_70 : D3 prog_1_method_20_code 70 (.putfield 234) 73 := ⟨by decide +kernel, rfl⟩
theorem dX11_draw_73 : Daload prog_1_method_20_code 73 5 75 := Or.inr ⟨by decide +kernel, rfl⟩
theorem dX11_draw_75 : Daload prog_1_method_20_code 75 5 77 := Or.inr ⟨by decide +kernel, rfl⟩
theorem dX11_draw_77 : D3 prog_1_method_20_code 77 (.getfield 130) 80 := ⟨by decide +kernel, rfl⟩
theorem dX11_draw_80 : D3 prog_1_method_20_code 80 (.putfield 251) 83 := ⟨by decide +kernel, rfl⟩
theorem dX11_draw_83 : Daload prog_1_method_20_code 83 0 84 := Or.inl ⟨0, by decide +kernel, rfl, rfl⟩
theorem dX11_draw_84 : D3 prog_1_method_20_code 84 (.getfield 69) 87 := ⟨by decide +kernel, rfl⟩
theorem dX11_draw_87 : Daload prog_1_method_20_code 87 5 89 := Or.inr ⟨by decide +kernel, rfl⟩
theorem dX11_draw_89 : D3 prog_1_method_20_code 89 (.getfield 166) 92 := ⟨by decide +kernel, rfl⟩
theorem dX11_draw_92 : D1 prog_1_method_20_code 92 (.aaload) 93 := ⟨by decide +kernel, rfl⟩
theorem dX11_draw_93 : Dastore prog_1_method_20_code 93 7 95 := Or.inr ⟨by decide +kernel, rfl⟩
theorem dX11_draw_95 : Daload prog_1_method_20_code 95 7 97 := Or.inr ⟨by decide +kernel, rfl⟩
theorem dX11_draw_97 : Dj prog_1_method_20_code 97 (.ifnull 36) 36 100 133 := ⟨by decide +kernel, rfl, by decide⟩
theorem dX11_draw_100 : Daload prog_1_method_20_code 100 5 102 := Or.inr ⟨by decide +kernel, rfl⟩
theorem dX11_draw_102 : D1 prog_1_method_20_code 102 (.dup) 103 := ⟨by decide +kernel, rfl⟩
theorem dX11_draw_103 : D3 prog_1_method_20_code 103 (.getfield 251) 106 := ⟨by decide +kernel, rfl⟩
theorem dX11_draw_106 : Daload prog_1_method_20_code 106 7 108 := Or.inr ⟨by decide +kernel, rfl⟩
theorem dX11_draw_108 : Diload prog_1_method_20_code 108 6 110 := Or.inr ⟨by decide +kernel, rfl⟩
theorem dX11_draw_110 : Diload prog_1_method_20_code 110 2 111 := Or.inl ⟨2, by decide +kernel, rfl, rfl⟩
theorem dX11_draw_111 : Daload prog_1_method_20_code 111 5 113 := Or.inr ⟨by decide +kernel, rfl⟩
theorem dX11_draw_113 : D3 prog_1_method_20_code 113 (.getfield 238) 116 := ⟨by decide +kernel, rfl⟩
theorem dX11_draw_116 : Daload prog_1_method_20_code 116 0 117 := Or.inl ⟨0, by decide +kernel, rfl, rfl⟩
theorem dX11_draw_117 : D3 prog_1_method_20_code 117 (.getfield 121) 120 := ⟨by decide +kernel, rfl⟩
theorem dX11_draw_120 : Daload prog_1_method_20_code 120 5 122 := Or.inr ⟨by decide +kernel, rfl⟩
theorem dX11_draw_122 : D3 prog_1_method_20_code 122 (.getfield 169) 125 := ⟨by decide +kernel, rfl⟩
theorem dX11_draw_125 : D1 prog_1_method_20_code 125 (.isub) 126 := ⟨by decide +kernel, rfl⟩
theorem dX11_draw_126 : D3 prog_1_method_20_code 126 (.invokevirtual 254) 129 := ⟨by decide +kernel, rfl⟩
theorem dX11_draw_129 : D1 prog_1_method_20_code 129 (.iadd) 130 := ⟨by decide +kernel, rfl⟩
theorem dX11_draw_130 : D3 prog_1_method_20_code 130 (.putfield 251) 133 := ⟨by decide +kernel, rfl⟩
theorem dX11_draw_133 : Diload prog_1_method_20_code 133 6 135 := Or.inr ⟨by decide +kernel, rfl⟩
theorem dX11_draw_135 : D1 prog_1_method_20_code 135 (.ireturn) 136 := ⟨by decide +kernel, rfl⟩
theorem dX2_badDrawn_0 : Daload prog_4_method_2_code 0 0 1 := Or.inl ⟨0, by decide +kernel, rfl, rfl⟩
theorem dX2_badDrawn_1 : Dconst prog_4_method_2_code 1 0 2 := Or.inl ⟨0, by decide +kernel, rfl, rfl⟩
theorem dX2_badDrawn_2 : D3 prog_4_method_2_code 2 (.putfield 18) 5 := ⟨by decide +kernel, rfl⟩
theorem dX2_badDrawn_5 : Dconst prog_4_method_2_code 5 0 6 := Or.inl ⟨0, by decide +kernel, rfl, rfl⟩
theorem dX2_badDrawn_6 : Distore prog_4_method_2_code 6 5 8 := Or.inr ⟨by decide +kernel, rfl⟩
theorem dX2_badDrawn_8 : Dlload prog_4_method_2_code 8 3 9 := Or.inl ⟨3, by decide +kernel, rfl, rfl⟩
theorem dX2_badDrawn_9 : D2 prog_4_method_2_code 9 (.lstore 6) 11 := ⟨by decide +kernel, rfl⟩
theorem dX2_badDrawn_11 : Dconst prog_4_method_2_code 11 0 12 := Or.inl ⟨0, by decide +kernel, rfl, rfl⟩
theorem dX2_badDrawn_12 : Distore prog_4_method_2_code 12 8 14 := Or.inr ⟨by decide +kernel, rfl⟩
theorem dX2_badDrawn_14 : Diload prog_4_method_2_code 14 8 16 := Or.inr ⟨by decide +kernel, rfl⟩
theorem dX2_badDrawn_16 : Diload prog_4_method_2_code 16 2 17 := Or.inl ⟨2, by decide +kernel, rfl, rfl⟩
theorem dX2_badDrawn_17 : Dj prog_4_method_2_code 17 (.if_icmp .ge 85) 85 20 102 := ⟨by decide +kernel, rfl, by decide⟩
theorem dX2_badDrawn_20 : Diload prog_4_method_2_code 20 8 22 := Or.inr ⟨by decide +kernel, rfl⟩
theorem dX2_badDrawn_22 : Daload prog_4_method_2_code 22 1 23 := Or.inl ⟨1, by decide +kernel, rfl, rfl⟩
theorem dX2_badDrawn_23 : D3 prog_4_method_2_code 23 (.getfield 22) 26 := ⟨by decide +kernel, rfl⟩
theorem dX2_badDrawn_26 : Dj prog_4_method_2_code 26 (.if_icmp .ge 76) 76 29 102 := ⟨by decide +kernel, rfl, by decide⟩
theorem dX2_badDrawn_29 : Dlload prog_4_method_2_code 29 6 31 := Or.inr ⟨by decide +kernel, rfl⟩
theorem dX2_badDrawn_31 : D3 prog_4_method_2_code 31 (.ldc2_w 27) 34 := ⟨by decide +kernel, rfl⟩
theorem dX2_badDrawn_34 : D1 prog_4_method_2_code 34 (.lmul) 35 := ⟨by decide +kernel, rfl⟩
theorem dX2_badDrawn_35 : D3 prog_4_method_2_code 35 (.ldc2_w 29) 38 := ⟨by decide +kernel, rfl⟩
theorem dX2_badDrawn_38 : D1 prog_4_method_2_code 38 (.ladd) 39 := ⟨by decide +kernel, rfl⟩
theorem dX2_badDrawn_39 : D2 prog_4_method_2_code 39 (.lstore 6) 41 := ⟨by decide +kernel, rfl⟩
theorem dX2_badDrawn_41 : Diload prog_4_method_2_code 41 8 43 := Or.inr ⟨by decide +kernel, rfl⟩
theorem dX2_badDrawn_43 : Dlload prog_4_method_2_code 43 6 45 := Or.inr ⟨by decide +kernel, rfl⟩
theorem dX2_badDrawn_45 : Dconst prog_4_method_2_code 45 33 47 := Or.inr (Or.inl ⟨33, by decide +kernel, rfl, rfl⟩)
theorem dX2_badDrawn_47 : D1 prog_4_method_2_code 47 (.lushr) 48 := ⟨by decide +kernel, rfl⟩
theorem dX2_badDrawn_48 : Daload prog_4_method_2_code 48 1 49 := Or.inl ⟨1, by decide +kernel, rfl, rfl⟩
theorem dX2_badDrawn_49 : D3 prog_4_method_2_code 49 (.getfield 22) 52 := ⟨by decide +kernel, rfl⟩
theorem dX2_badDrawn_52 : Diload prog_4_method_2_code 52 8 54 := Or.inr ⟨by decide +kernel, rfl⟩
theorem dX2_badDrawn_54 : D1 prog_4_method_2_code 54 (.isub) 55 := ⟨by decide +kernel, rfl⟩
theorem dX2_badDrawn_55 : D1 prog_4_method_2_code 55 (.i2l) 56 := ⟨by decide +kernel, rfl⟩
theorem dX2_badDrawn_56 : D1 prog_4_method_2_code 56 (.lrem) 57 := ⟨by decide +kernel, rfl⟩
theorem dX2_badDrawn_57 : D1 prog_4_method_2_code 57 (.l2i) 58 := ⟨by decide +kernel, rfl⟩
theorem dX2_badDrawn_58 : D1 prog_4_method_2_code 58 (.iadd) 59 := ⟨by decide +kernel, rfl⟩
theorem dX2_badDrawn_59 : Distore prog_4_method_2_code 59 9 61 := Or.inr ⟨by decide +kernel, rfl⟩
theorem dX2_badDrawn_61 : Daload prog_4_method_2_code 61 0 62 := Or.inl ⟨0, by decide +kernel, rfl, rfl⟩
theorem dX2_badDrawn_62 : Diload prog_4_method_2_code 62 9 64 := Or.inr ⟨by decide +kernel, rfl⟩
theorem dX2_badDrawn_64 : D3 prog_4_method_2_code 64 (.invokevirtual 31) 67 := ⟨by decide +kernel, rfl⟩
theorem dX2_badDrawn_67 : Distore prog_4_method_2_code 67 10 69 := Or.inr ⟨by decide +kernel, rfl⟩
theorem dX2_badDrawn_69 : Daload prog_4_method_2_code 69 0 70 := Or.inl ⟨0, by decide +kernel, rfl, rfl⟩
theorem dX2_badDrawn_70 : Diload prog_4_method_2_code 70 9 72 := Or.inr ⟨by decide +kernel, rfl⟩
theorem dX2_badDrawn_72 : Daload prog_4_method_2_code 72 0 73 := Or.inl ⟨0, by decide +kernel, rfl, rfl⟩
theorem dX2_badDrawn_73 : Diload prog_4_method_2_code 73 8 75 := Or.inr ⟨by decide +kernel, rfl⟩
theorem dX2_badDrawn_75 : D3 prog_4_method_2_code 75 (.invokevirtual 31) 78 := ⟨by decide +kernel, rfl⟩
theorem dX2_badDrawn_78 : D3 prog_4_method_2_code 78 (.invokevirtual 35) 81 := ⟨by decide +kernel, rfl⟩
theorem dX2_badDrawn_81 : Diload prog_4_method_2_code 81 10 83 := Or.inr ⟨by decide +kernel, rfl⟩
theorem dX2_badDrawn_83 : Dconst prog_4_method_2_code 83 7 85 := Or.inr (Or.inl ⟨7, by decide +kernel, rfl, rfl⟩)
theorem dX2_badDrawn_85 : D1 prog_4_method_2_code 85 (.irem) 86 := ⟨by decide +kernel, rfl⟩
theorem dX2_badDrawn_86 : Daload prog_4_method_2_code 86 1 87 := Or.inl ⟨1, by decide +kernel, rfl, rfl⟩
theorem dX2_badDrawn_87 : D3 prog_4_method_2_code 87 (.getfield 39) 90 := ⟨by decide +kernel, rfl⟩
theorem dX2_badDrawn_90 : Dj prog_4_method_2_code 90 (.if_icmp .ge 6) 6 93 96 := ⟨by decide +kernel, rfl, by decide⟩
theorem dX2_badDrawn_93 : Diinc prog_4_method_2_code 93 5 1 96 := ⟨1, by decide +kernel, rfl, rfl⟩
theorem dX2_badDrawn_96 : Diinc prog_4_method_2_code 96 8 1 99 := ⟨1, by decide +kernel, rfl, rfl⟩
theorem dX2_badDrawn_99 : Dj prog_4_method_2_code 99 (.goto (-85)) (-85) 102 14 := ⟨by decide +kernel, rfl, by decide⟩
theorem dX2_badDrawn_102 : Diload prog_4_method_2_code 102 5 104 := Or.inr ⟨by decide +kernel, rfl⟩
theorem dX2_badDrawn_104 : D1 prog_4_method_2_code 104 (.ireturn) 105 := ⟨by decide +kernel, rfl⟩
theorem dX2_numberIn_0 : Dconst prog_4_method_3_code 0 0 1 := Or.inl ⟨0, by decide +kernel, rfl, rfl⟩
theorem dX2_numberIn_1 : Distore prog_4_method_3_code 1 2 2 := Or.inl ⟨2, by decide +kernel, rfl, rfl⟩
theorem dX2_numberIn_2 : Diload prog_4_method_3_code 2 2 3 := Or.inl ⟨2, by decide +kernel, rfl, rfl⟩
theorem dX2_numberIn_3 : Daload prog_4_method_3_code 3 0 4 := Or.inl ⟨0, by decide +kernel, rfl, rfl⟩
theorem dX2_numberIn_4 : D3 prog_4_method_3_code 4 (.getfield 18) 7 := ⟨by decide +kernel, rfl⟩
theorem dX2_numberIn_7 : Dj prog_4_method_3_code 7 (.if_icmp .ge 32) 32 10 39 := ⟨by decide +kernel, rfl, by decide⟩
theorem dX2_numberIn_10 : Diload prog_4_method_3_code 10 2 11 := Or.inl ⟨2, by decide +kernel, rfl, rfl⟩
theorem dX2_numberIn_11 : Dconst prog_4_method_3_code 11 40 13 := Or.inr (Or.inl ⟨40, by decide +kernel, rfl, rfl⟩)
theorem dX2_numberIn_13 : Dj prog_4_method_3_code 13 (.if_icmp .ge 26) 26 16 39 := ⟨by decide +kernel, rfl, by decide⟩
theorem dX2_numberIn_16 : Daload prog_4_method_3_code 16 0 17 := Or.inl ⟨0, by decide +kernel, rfl, rfl⟩
theorem dX2_numberIn_17 : D3 prog_4_method_3_code 17 (.getfield 9) 20 := ⟨by decide +kernel, rfl⟩
theorem dX2_numberIn_20 : Diload prog_4_method_3_code 20 2 21 := Or.inl ⟨2, by decide +kernel, rfl, rfl⟩
theorem dX2_numberIn_21 : D1 prog_4_method_3_code 21 (.iaload) 22 := ⟨by decide +kernel, rfl⟩
theorem dX2_numberIn_22 : Diload prog_4_method_3_code 22 1 23 := Or.inl ⟨1, by decide +kernel, rfl, rfl⟩
theorem dX2_numberIn_23 : Dj prog_4_method_3_code 23 (.if_icmp .ne 10) 10 26 33 := ⟨by decide +kernel, rfl, by decide⟩
theorem dX2_numberIn_26 : Daload prog_4_method_3_code 26 0 27 := Or.inl ⟨0, by decide +kernel, rfl, rfl⟩
theorem dX2_numberIn_27 : D3 prog_4_method_3_code 27 (.getfield 15) 30 := ⟨by decide +kernel, rfl⟩
theorem dX2_numberIn_30 : Diload prog_4_method_3_code 30 2 31 := Or.inl ⟨2, by decide +kernel, rfl, rfl⟩
theorem dX2_numberIn_31 : D1 prog_4_method_3_code 31 (.iaload) 32 := ⟨by decide +kernel, rfl⟩
theorem dX2_numberIn_32 : D1 prog_4_method_3_code 32 (.ireturn) 33 := ⟨by decide +kernel, rfl⟩
theorem dX2_numberIn_33 : Diinc prog_4_method_3_code 33 2 1 36 := ⟨1, by decide +kernel, rfl, rfl⟩
theorem dX2_numberIn_36 : Dj prog_4_method_3_code 36 (.goto (-34)) (-34) 39 2 := ⟨by decide +kernel, rfl, by decide⟩
theorem dX2_numberIn_39 : Diload prog_4_method_3_code 39 1 40 := Or.inl ⟨1, by decide +kernel, rfl, rfl⟩
theorem dX2_numberIn_40 : D1 prog_4_method_3_code 40 (.ireturn) 41 := ⟨by decide +kernel, rfl⟩
theorem dX2_put_0 : Dconst prog_4_method_4_code 0 0 1 := Or.inl ⟨0, by decide +kernel, rfl, rfl⟩
theorem dX2_put_1 : Distore prog_4_method_4_code 1 3 2 := Or.inl ⟨3, by decide +kernel, rfl, rfl⟩
theorem dX2_put_2 : Diload prog_4_method_4_code 2 3 3 := Or.inl ⟨3, by decide +kernel, rfl, rfl⟩
theorem dX2_put_3 : Daload prog_4_method_4_code 3 0 4 := Or.inl ⟨0, by decide +kernel, rfl, rfl⟩
theorem dX2_put_4 : D3 prog_4_method_4_code 4 (.getfield 18) 7 := ⟨by decide +kernel, rfl⟩
theorem dX2_put_7 : Dj prog_4_method_4_code 7 (.if_icmp .ge 33) 33 10 40 := ⟨by decide +kernel, rfl, by decide⟩
theorem dX2_put_10 : Diload prog_4_method_4_code 10 3 11 := Or.inl ⟨3, by decide +kernel, rfl, rfl⟩
theorem dX2_put_11 : Dconst prog_4_method_4_code 11 40 13 := Or.inr (Or.inl ⟨40, by decide +kernel, rfl, rfl⟩)
theorem dX2_put_13 : Dj prog_4_method_4_code 13 (.if_icmp .ge 27) 27 16 40 := ⟨by decide +kernel, rfl, by decide⟩
theorem dX2_put_16 : Daload prog_4_method_4_code 16 0 17 := Or.inl ⟨0, by decide +kernel, rfl, rfl⟩
theorem dX2_put_17 : D3 prog_4_method_4_code 17 (.getfield 9) 20 := ⟨by decide +kernel, rfl⟩
theorem dX2_put_20 : Diload prog_4_method_4_code 20 3 21 := Or.inl ⟨3, by decide +kernel, rfl, rfl⟩
theorem dX2_put_21 : D1 prog_4_method_4_code 21 (.iaload) 22 := ⟨by decide +kernel, rfl⟩
theorem dX2_put_22 : Diload prog_4_method_4_code 22 1 23 := Or.inl ⟨1, by decide +kernel, rfl, rfl⟩
theorem dX2_put_23 : Dj prog_4_method_4_code 23 (.if_icmp .ne 11) 11 26 34 := ⟨by decide +kernel, rfl, by decide⟩
theorem dX2_put_26 : Daload prog_4_method_4_code 26 0 27 := Or.inl ⟨0, by decide +kernel, rfl, rfl⟩
theorem dX2_put_27 : D3 prog_4_method_4_code 27 (.getfield 15) 30 := ⟨by decide +kernel, rfl⟩
theorem dX2_put_30 : Diload prog_4_method_4_code 30 3 31 := Or.inl ⟨3, by decide +kernel, rfl, rfl⟩
theorem dX2_put_31 : Diload prog_4_method_4_code 31 2 32 := Or.inl ⟨2, by decide +kernel, rfl, rfl⟩
theorem dX2_put_32 : D1 prog_4_method_4_code 32 (.iastore) 33 := ⟨by decide +kernel, rfl⟩
theorem dX2_put_33 : D1 prog_4_method_4_code 33 (.return_) 34 := ⟨by decide +kernel, rfl⟩
theorem dX2_put_34 : Diinc prog_4_method_4_code 34 3 1 37 := ⟨1, by decide +kernel, rfl, rfl⟩
theorem dX2_put_37 : Dj prog_4_method_4_code 37 (.goto (-35)) (-35) 40 2 := ⟨by decide +kernel, rfl, by decide⟩
theorem dX2_put_40 : Daload prog_4_method_4_code 40 0 41 := Or.inl ⟨0, by decide +kernel, rfl, rfl⟩
theorem dX2_put_41 : D3 prog_4_method_4_code 41 (.getfield 18) 44 := ⟨by decide +kernel, rfl⟩
theorem dX2_put_44 : Dconst prog_4_method_4_code 44 40 46 := Or.inr (Or.inl ⟨40, by decide +kernel, rfl, rfl⟩)
theorem dX2_put_46 : Dj prog_4_method_4_code 46 (.if_icmp .ge 33) 33 49 79 := ⟨by decide +kernel, rfl, by decide⟩
theorem dX2_put_49 : Daload prog_4_method_4_code 49 0 50 := Or.inl ⟨0, by decide +kernel, rfl, rfl⟩
theorem dX2_put_50 : D3 prog_4_method_4_code 50 (.getfield 9) 53 := ⟨by decide +kernel, rfl⟩
theorem dX2_put_53 : Daload prog_4_method_4_code 53 0 54 := Or.inl ⟨0, by decide +kernel, rfl, rfl⟩
theorem dX2_put_54 : D3 prog_4_method_4_code 54 (.getfield 18) 57 := ⟨by decide +kernel, rfl⟩
theorem dX2_put_57 : Diload prog_4_method_4_code 57 1 58 := Or.inl ⟨1, by decide +kernel, rfl, rfl⟩
theorem dX2_put_58 : D1 prog_4_method_4_code 58 (.iastore) 59 := ⟨by decide +kernel, rfl⟩
theorem dX2_put_59 : Daload prog_4_method_4_code 59 0 60 := Or.inl ⟨0, by decide +kernel, rfl, rfl⟩
theorem dX2_put_60 : D3 prog_4_method_4_code 60 (.getfield 15) 63 := ⟨by decide +kernel, rfl⟩
theorem dX2_put_63 : Daload prog_4_method_4_code 63 0 64 := Or.inl ⟨0, by decide +kernel, rfl, rfl⟩
theorem dX2_put_64 : D3 prog_4_method_4_code 64 (.getfield 18) 67 := ⟨by decide +kernel, rfl⟩
theorem dX2_put_67 : Diload prog_4_method_4_code 67 2 68 := Or.inl ⟨2, by decide +kernel, rfl, rfl⟩
theorem dX2_put_68 : D1 prog_4_method_4_code 68 (.iastore) 69 := ⟨by decide +kernel, rfl⟩
theorem dX2_put_69 : Daload prog_4_method_4_code 69 0 70 := Or.inl ⟨0, by decide +kernel, rfl, rfl⟩
theorem dX2_put_70 : D1 prog_4_method_4_code 70 (.dup) 71 := ⟨by decide +kernel, rfl⟩
theorem dX2_put_71 : D3 prog_4_method_4_code 71 (.getfield 18) 74 := ⟨by decide +kernel, rfl⟩
theorem dX2_put_74 : Dconst prog_4_method_4_code 74 1 75 := Or.inl ⟨1, by decide +kernel, rfl, rfl⟩
theorem dX2_put_75 : D1 prog_4_method_4_code 75 (.iadd) 76 := ⟨by decide +kernel, rfl⟩
theorem dX2_put_76 : D3 prog_4_method_4_code 76 (.putfield 18) 79 := ⟨by decide +kernel, rfl⟩
theorem dX2_put_79 : D1 prog_4_method_4_code 79 (.return_) 80 := ⟨by decide +kernel, rfl⟩
theorem dX0_sum_0 : Dconst prog_2_method_3_code 0 0 1 := Or.inl ⟨0, by decide +kernel, rfl, rfl⟩
theorem dX0_sum_1 : Distore prog_2_method_3_code 1 5 3 := Or.inr ⟨by decide +kernel, rfl⟩
theorem dX0_sum_3 : Dconst prog_2_method_3_code 3 0 4 := Or.inl ⟨0, by decide +kernel, rfl, rfl⟩
theorem dX0_sum_4 : Distore prog_2_method_3_code 4 6 6 := Or.inr ⟨by decide +kernel, rfl⟩
theorem dX0_sum_6 : Diload prog_2_method_3_code 6 6 8 := Or.inr ⟨by decide +kernel, rfl⟩
theorem dX0_sum_8 : Daload prog_2_method_3_code 8 0 9 := Or.inl ⟨0, by decide +kernel, rfl, rfl⟩
theorem dX0_sum_9 : D3 prog_2_method_3_code 9 (.getfield 24) 12 := ⟨by decide +kernel, rfl⟩
theorem dX0_sum_12 : Dj prog_2_method_3_code 12 (.if_icmp .ge 67) 67 15 79 := ⟨by decide +kernel, rfl, by decide⟩
theorem dX0_sum_15 : Diload prog_2_method_3_code 15 6 17 := Or.inr ⟨by decide +kernel, rfl⟩
theorem dX0_sum_17 : Dconst prog_2_method_3_code 17 34 19 := Or.inr (Or.inl ⟨34, by decide +kernel, rfl, rfl⟩)
theorem dX0_sum_19 : Dj prog_2_method_3_code 19 (.if_icmp .ge 60) 60 22 79 := ⟨by decide +kernel, rfl, by decide⟩
theorem dX0_sum_22 : Daload prog_2_method_3_code 22 0 23 := Or.inl ⟨0, by decide +kernel, rfl, rfl⟩
theorem dX0_sum_23 : D3 prog_2_method_3_code 23 (.getfield 9) 26 := ⟨by decide +kernel, rfl⟩
theorem dX0_sum_26 : Diload prog_2_method_3_code 26 6 28 := Or.inr ⟨by decide +kernel, rfl⟩
theorem dX0_sum_28 : D1 prog_2_method_3_code 28 (.iaload) 29 := ⟨by decide +kernel, rfl⟩
theorem dX0_sum_29 : Diload prog_2_method_3_code 29 1 30 := Or.inl ⟨1, by decide +kernel, rfl, rfl⟩
theorem dX0_sum_30 : Diload prog_2_method_3_code 30 2 31 := Or.inl ⟨2, by decide +kernel, rfl, rfl⟩
theorem dX0_sum_31 : Diload prog_2_method_3_code 31 3 32 := Or.inl ⟨3, by decide +kernel, rfl, rfl⟩
theorem dX0_sum_32 : Diload prog_2_method_3_code 32 4 34 := Or.inr ⟨by decide +kernel, rfl⟩
theorem dX0_sum_34 : D3 prog_2_method_3_code 34 (.invokestatic 28) 37 := ⟨by decide +kernel, rfl⟩
theorem dX0_sum_37 : Distore prog_2_method_3_code 37 7 39 := Or.inr ⟨by decide +kernel, rfl⟩
theorem dX0_sum_39 : Diload prog_2_method_3_code 39 7 41 := Or.inr ⟨by decide +kernel, rfl⟩
theorem dX0_sum_41 : Daload prog_2_method_3_code 41 0 42 := Or.inl ⟨0, by decide +kernel, rfl, rfl⟩
theorem dX0_sum_42 : D3 prog_2_method_3_code 42 (.getfield 15) 45 := ⟨by decide +kernel, rfl⟩
theorem dX0_sum_45 : Diload prog_2_method_3_code 45 6 47 := Or.inr ⟨by decide +kernel, rfl⟩
theorem dX0_sum_47 : D1 prog_2_method_3_code 47 (.iaload) 48 := ⟨by decide +kernel, rfl⟩
theorem dX0_sum_48 : Daload prog_2_method_3_code 48 0 49 := Or.inl ⟨0, by decide +kernel, rfl, rfl⟩
theorem dX0_sum_49 : D3 prog_2_method_3_code 49 (.getfield 18) 52 := ⟨by decide +kernel, rfl⟩
theorem dX0_sum_52 : Diload prog_2_method_3_code 52 6 54 := Or.inr ⟨by decide +kernel, rfl⟩
theorem dX0_sum_54 : D1 prog_2_method_3_code 54 (.iaload) 55 := ⟨by decide +kernel, rfl⟩
theorem dX0_sum_55 : D3 prog_2_method_3_code 55 (.invokestatic 32) 58 := ⟨by decide +kernel, rfl⟩
theorem dX0_sum_58 : Dj prog_2_method_3_code 58 (.ifCond .eq 15) 15 61 73 := ⟨by decide +kernel, rfl, by decide⟩
theorem dX0_sum_61 : Diload prog_2_method_3_code 61 5 63 := Or.inr ⟨by decide +kernel, rfl⟩
theorem dX0_sum_63 : Daload prog_2_method_3_code 63 0 64 := Or.inl ⟨0, by decide +kernel, rfl, rfl⟩
theorem dX0_sum_64 : D3 prog_2_method_3_code 64 (.getfield 21) 67 := ⟨by decide +kernel, rfl⟩
theorem dX0_sum_67 : Diload prog_2_method_3_code 67 6 69 := Or.inr ⟨by decide +kernel, rfl⟩
theorem dX0_sum_69 : D1 prog_2_method_3_code 69 (.iaload) 70 := ⟨by decide +kernel, rfl⟩
theorem dX0_sum_70 : D1 prog_2_method_3_code 70 (.iadd) 71 := ⟨by decide +kernel, rfl⟩
theorem dX0_sum_71 : Distore prog_2_method_3_code 71 5 73 := Or.inr ⟨by decide +kernel, rfl⟩
theorem dX0_sum_73 : Diinc prog_2_method_3_code 73 6 1 76 := ⟨1, by decide +kernel, rfl, rfl⟩
theorem dX0_sum_76 : Dj prog_2_method_3_code 76 (.goto (-70)) (-70) 79 6 := ⟨by decide +kernel, rfl, by decide⟩
theorem dX0_sum_79 : Diload prog_2_method_3_code 79 5 81 := Or.inr ⟨by decide +kernel, rfl⟩
theorem dX0_sum_81 : D1 prog_2_method_3_code 81 (.ireturn) 82 := ⟨by decide +kernel, rfl⟩
theorem dX0_factOf_0 : Diload prog_2_method_4_code 0 0 1 := Or.inl ⟨0, by decide +kernel, rfl, rfl⟩
theorem dX0_factOf_1 : decode prog_2_method_4_code 1 = .ok (.lookupswitch 41 #[(98, 35), (107, 37), (110, 39)], 35) := by decide +kernel
theorem dX0_factOf_36 : Diload prog_2_method_4_code 36 1 37 := Or.inl ⟨1, by decide +kernel, rfl, rfl⟩
theorem dX0_factOf_37 : D1 prog_2_method_4_code 37 (.ireturn) 38 := ⟨by decide +kernel, rfl⟩
theorem dX0_factOf_38 : Diload prog_2_method_4_code 38 2 39 := Or.inl ⟨2, by decide +kernel, rfl, rfl⟩
theorem dX0_factOf_39 : D1 prog_2_method_4_code 39 (.ireturn) 40 := ⟨by decide +kernel, rfl⟩
theorem dX0_factOf_40 : Diload prog_2_method_4_code 40 3 41 := Or.inl ⟨3, by decide +kernel, rfl, rfl⟩
theorem dX0_factOf_41 : D1 prog_2_method_4_code 41 (.ireturn) 42 := ⟨by decide +kernel, rfl⟩
theorem dX0_factOf_42 : Diload prog_2_method_4_code 42 4 44 := Or.inr ⟨by decide +kernel, rfl⟩
theorem dX0_factOf_44 : D1 prog_2_method_4_code 44 (.ireturn) 45 := ⟨by decide +kernel, rfl⟩
theorem dX0_holds_0 : Diload prog_2_method_5_code 0 1 1 := Or.inl ⟨1, by decide +kernel, rfl, rfl⟩
theorem dX0_holds_1 : decode prog_2_method_5_code 1 = .ok (.lookupswitch 49 #[(60, 27), (62, 38)], 27) := by decide +kernel
theorem dX0_holds_28 : Diload prog_2_method_5_code 28 0 29 := Or.inl ⟨0, by decide +kernel, rfl, rfl⟩
theorem dX0_holds_29 : Diload prog_2_method_5_code 29 2 30 := Or.inl ⟨2, by decide +kernel, rfl, rfl⟩
theorem dX0_holds_30 : Dj prog_2_method_5_code 30 (.if_icmp .ge 7) 7 33 37 := ⟨by decide +kernel, rfl, by decide⟩
theorem dX0_holds_33 : Dconst prog_2_method_5_code 33 1 34 := Or.inl ⟨1, by decide +kernel, rfl, rfl⟩
theorem dX0_holds_34 : Dj prog_2_method_5_code 34 (.goto 4) 4 37 38 := ⟨by decide +kernel, rfl, by decide⟩
theorem dX0_holds_37 : Dconst prog_2_method_5_code 37 0 38 := Or.inl ⟨0, by decide +kernel, rfl, rfl⟩
theorem dX0_holds_38 : D1 prog_2_method_5_code 38 (.ireturn) 39 := ⟨by decide +kernel, rfl⟩
theorem dX0_holds_39 : Diload prog_2_method_5_code 39 0 40 := Or.inl ⟨0, by decide +kernel, rfl, rfl⟩
theorem dX0_holds_40 : Diload prog_2_method_5_code 40 2 41 := Or.inl ⟨2, by decide +kernel, rfl, rfl⟩
theorem dX0_holds_41 : Dj prog_2_method_5_code 41 (.if_icmp .le 7) 7 44 48 := ⟨by decide +kernel, rfl, by decide⟩
theorem dX0_holds_44 : Dconst prog_2_method_5_code 44 1 45 := Or.inl ⟨1, by decide +kernel, rfl, rfl⟩
theorem dX0_holds_45 : Dj prog_2_method_5_code 45 (.goto 4) 4 48 49 := ⟨by decide +kernel, rfl, by decide⟩
theorem dX0_holds_48 : Dconst prog_2_method_5_code 48 0 49 := Or.inl ⟨0, by decide +kernel, rfl, rfl⟩
theorem dX0_holds_49 : D1 prog_2_method_5_code 49 (.ireturn) 50 := ⟨by decide +kernel, rfl⟩
theorem dX0_holds_50 : Diload prog_2_method_5_code 50 0 51 := Or.inl ⟨0, by decide +kernel, rfl, rfl⟩
theorem dX0_holds_51 : Diload prog_2_method_5_code 51 2 52 := Or.inl ⟨2, by decide +kernel, rfl, rfl⟩
theorem dX0_holds_52 : Dj prog_2_method_5_code 52 (.if_icmp .ne 7) 7 55 59 := ⟨by decide +kernel, rfl, by decide⟩
theorem dX0_holds_55 : Dconst prog_2_method_5_code 55 1 56 := Or.inl ⟨1, by decide +kernel, rfl, rfl⟩
theorem dX0_holds_56 : Dj prog_2_method_5_code 56 (.goto 4) 4 59 60 := ⟨by decide +kernel, rfl, by decide⟩
theorem dX0_holds_59 : Dconst prog_2_method_5_code 59 0 60 := Or.inl ⟨0, by decide +kernel, rfl, rfl⟩
theorem dX0_holds_60 : D1 prog_2_method_5_code 60 (.ireturn) 61 := ⟨by decide +kernel, rfl⟩
theorem dX11_due_0 : Daload prog_1_method_21_code 0 0 1 := Or.inl ⟨0, by decide +kernel, rfl, rfl⟩
theorem dX11_due_1 : D3 prog_1_method_21_code 1 (.getfield 47) 4 := ⟨by decide +kernel, rfl⟩
theorem dX11_due_4 : Diload prog_1_method_21_code 4 1 5 := Or.inl ⟨1, by decide +kernel, rfl, rfl⟩
theorem dX11_due_5 : D3 prog_1_method_21_code 5 (.invokevirtual 140) 8 := ⟨by decide +kernel, rfl⟩
theorem dX11_due_8 : Dastore prog_1_method_21_code 8 2 9 := Or.inl ⟨2, by decide +kernel, rfl, rfl⟩
theorem dX11_due_9 : Daload prog_1_method_21_code 9 2 10 := Or.inl ⟨2, by decide +kernel, rfl, rfl⟩
theorem dX11_due_10 : Dj prog_1_method_21_code 10 (.ifnonnull 7) 7 13 17 := ⟨by decide +kernel, rfl, by decide⟩
theorem dX11_due_13 : Dconst prog_1_method_21_code 13 0 14 := Or.inl ⟨0, by decide +kernel, rfl, rfl⟩
theorem dX11_due_14 : Dj prog_1_method_21_code 14 (.goto 7) 7 17 21 := ⟨by decide +kernel, rfl, by decide⟩
theorem dX11_due_17 : Daload prog_1_method_21_code 17 2 18 := Or.inl ⟨2, by decide +kernel, rfl, rfl⟩
theorem dX11_due_18 : D3 prog_1_method_21_code 18 (.getfield 251) 21 := ⟨by decide +kernel, rfl⟩
theorem dX11_due_21 : D1 prog_1_method_21_code 21 (.ireturn) 22 := ⟨by decide +kernel, rfl⟩
theorem dX11_owed_0 : Dconst prog_1_method_22_code 0 0 1 := Or.inl ⟨0, by decide +kernel, rfl, rfl⟩
theorem dX11_owed_1 : Distore prog_1_method_22_code 1 2 2 := Or.inl ⟨2, by decide +kernel, rfl, rfl⟩
theorem dX11_owed_2 : Daload prog_1_method_22_code 2 0 3 := Or.inl ⟨0, by decide +kernel, rfl, rfl⟩
theorem dX11_owed_3 : D3 prog_1_method_22_code 3 (.getfield 47) 6 := ⟨by decide +kernel, rfl⟩
theorem dX11_owed_6 : D3 prog_1_method_22_code 6 (.getfield 258) 9 := ⟨by decide +kernel, rfl⟩
theorem dX11_owed_9 : Dastore prog_1_method_22_code 9 3 10 := Or.inl ⟨3, by decide +kernel, rfl, rfl⟩
theorem dX11_owed_10 : Daload prog_1_method_22_code 10 3 11 := Or.inl ⟨3, by decide +kernel, rfl, rfl⟩
theorem dX11_owed_11 : Dj prog_1_method_22_code 11 (.ifnull 26) 26 14 37 := ⟨by decide +kernel, rfl, by decide⟩
theorem dX11_owed_14 : Daload prog_1_method_22_code 14 3 15 := Or.inl ⟨3, by decide +kernel, rfl, rfl⟩
theorem dX11_owed_15 : D3 prog_1_method_22_code 15 (.getfield 166) 18 := ⟨by decide +kernel, rfl⟩
theorem dX11_owed_18 : Diload prog_1_method_22_code 18 1 19 := Or.inl ⟨1, by decide +kernel, rfl, rfl⟩
theorem dX11_owed_19 : Dj prog_1_method_22_code 19 (.if_icmp .ne 10) 10 22 29 := ⟨by decide +kernel, rfl, by decide⟩
theorem dX11_owed_22 : Diload prog_1_method_22_code 22 2 23 := Or.inl ⟨2, by decide +kernel, rfl, rfl⟩
theorem dX11_owed_23 : Daload prog_1_method_22_code 23 3 24 := Or.inl ⟨3, by decide +kernel, rfl, rfl⟩
theorem dX11_owed_24 : D3 prog_1_method_22_code 24 (.getfield 251) 27 := ⟨by decide +kernel, rfl⟩
theorem dX11_owed_27 : D1 prog_1_method_22_code 27 (.iadd) 28 := ⟨by decide +kernel, rfl⟩
theorem dX11_owed_28 : Distore prog_1_method_22_code 28 2 29 := Or.inl ⟨2, by decide +kernel, rfl, rfl⟩
theorem dX11_owed_29 : Daload prog_1_method_22_code 29 3 30 := Or.inl ⟨3, by decide +kernel, rfl, rfl⟩
theorem dX11_owed_30 : D3 prog_1_method_22_code 30 (.getfield 262) 33 := ⟨by decide +kernel, rfl⟩
theorem dX11_owed_33 : Dastore prog_1_method_22_code 33 3 34 := Or.inl ⟨3, by decide +kernel, rfl, rfl⟩
theorem dX11_owed_34 : Dj prog_1_method_22_code 34 (.goto (-24)) (-24) 37 10 := ⟨by decide +kernel, rfl, by decide⟩
theorem dX11_owed_37 : Diload prog_1_method_22_code 37 2 38 := Or.inl ⟨2, by decide +kernel, rfl, rfl⟩
theorem dX11_owed_38 : D1 prog_1_method_22_code 38 (.ireturn) 39 := ⟨by decide +kernel, rfl⟩
theorem dX11_condemned_0 : Daload prog_1_method_23_code 0 0 1 := Or.inl ⟨0, by decide +kernel, rfl, rfl⟩
theorem dX11_condemned_1 : D3 prog_1_method_23_code 1 (.getfield 47) 4 := ⟨by decide +kernel, rfl⟩
theorem dX11_condemned_4 : Diload prog_1_method_23_code 4 1 5 := Or.inl ⟨1, by decide +kernel, rfl, rfl⟩
theorem dX11_condemned_5 : D3 prog_1_method_23_code 5 (.invokevirtual 140) 8 := ⟨by decide +kernel, rfl⟩
theorem dX11_condemned_8 : Dastore prog_1_method_23_code 8 2 9 := Or.inl ⟨2, by decide +kernel, rfl, rfl⟩
theorem dX11_condemned_9 : Daload prog_1_method_23_code 9 2 10 := Or.inl ⟨2, by decide +kernel, rfl, rfl⟩
theorem dX11_condemned_10 : Dj prog_1_method_23_code 10 (.ifnonnull 7) 7 13 17 := ⟨by decide +kernel, rfl, by decide⟩
theorem dX11_condemned_13 : Dconst prog_1_method_23_code 13 0 14 := Or.inl ⟨0, by decide +kernel, rfl, rfl⟩
theorem dX11_condemned_14 : Dj prog_1_method_23_code 14 (.goto 7) 7 17 21 := ⟨by decide +kernel, rfl, by decide⟩
theorem dX11_condemned_17 : Daload prog_1_method_23_code 17 2 18 := Or.inl ⟨2, by decide +kernel, rfl, rfl⟩
theorem dX11_condemned_18 : D3 prog_1_method_23_code 18 (.getfield 265) 21 := ⟨by decide +kernel, rfl⟩
theorem dX11_condemned_21 : D1 prog_1_method_23_code 21 (.ireturn) 22 := ⟨by decide +kernel, rfl⟩
theorem dX11_survey_0 : Daload prog_1_method_24_code 0 0 1 := Or.inl ⟨0, by decide +kernel, rfl, rfl⟩
theorem dX11_survey_1 : Diload prog_1_method_24_code 1 1 2 := Or.inl ⟨1, by decide +kernel, rfl, rfl⟩
theorem dX11_survey_2 : Diload prog_1_method_24_code 2 2 3 := Or.inl ⟨2, by decide +kernel, rfl, rfl⟩
theorem dX11_survey_3 : D3 prog_1_method_24_code 3 (.invokevirtual 110) 6 := ⟨by decide +kernel, rfl⟩
theorem dX11_survey_6 : Dastore prog_1_method_24_code 6 5 8 := Or.inr ⟨by decide +kernel, rfl⟩
theorem dX11_survey_8 : Daload prog_1_method_24_code 8 5 10 := Or.inr ⟨by decide +kernel, rfl⟩
theorem dX11_survey_10 : Dj prog_1_method_24_code 10 (.ifnull 26) 26 13 36 := ⟨by decide +kernel, rfl, by decide⟩
theorem dX11_survey_13 : Diload prog_1_method_24_code 13 3 14 := Or.inl ⟨3, by decide +kernel, rfl, rfl⟩
theorem dX11_survey_14 : Dconst prog_1_method_24_code 14 0 15 := Or.inl ⟨0, by decide +kernel, rfl, rfl⟩
theorem dX11_survey_15 : Daload prog_1_method_24_code 15 0 16 := Or.inl ⟨0, by decide +kernel, rfl, rfl⟩
theorem dX11_survey_16 : D3 prog_1_method_24_code 16 (.getfield 121) 19 := ⟨by decide +kernel, rfl⟩
theorem dX11_survey_19 : D3 prog_1_method_24_code 19 (.invokestatic 89) 22 := ⟨by decide +kernel, rfl⟩
theorem dX11_survey_22 : Dj prog_1_method_24_code 22 (.ifCond .eq 14) 14 25 36 := ⟨by decide +kernel, rfl, by decide⟩
theorem dX11_survey_25 : Diload prog_1_method_24_code 25 4 27 := Or.inr ⟨by decide +kernel, rfl⟩
theorem dX11_survey_27 : Dconst prog_1_method_24_code 27 0 28 := Or.inl ⟨0, by decide +kernel, rfl, rfl⟩
theorem dX11_survey_28 : D2 prog_1_method_24_code 28 (.ldc 114) 30 := ⟨by decide +kernel, rfl⟩
theorem dX11_survey_30 : D3 prog_1_method_24_code 30 (.invokestatic 89) 33 := ⟨by decide +kernel, rfl⟩
theorem dX11_survey_33 : Dj prog_1_method_24_code 33 (.ifCond .ne 7) 7 36 40 := ⟨by decide +kernel, rfl, by decide⟩
theorem dX11_survey_36 : D3 prog_1_method_24_code 36 (.ldc_w 268) 39 := ⟨by decide +kernel, rfl⟩
theorem dX11_survey_39 : D1 prog_1_method_24_code 39 (.ireturn) 40 := ⟨by decide +kernel, rfl⟩
theorem dX11_survey_40 : Daload prog_1_method_24_code 40 0 41 := Or.inl ⟨0, by decide +kernel, rfl, rfl⟩
theorem dX11_survey_41 : D3 prog_1_method_24_code 41 (.getfield 269) 44 := ⟨by decide +kernel, rfl⟩
theorem dX11_survey_44 : Dconst prog_1_method_24_code 44 200 47 := Or.inr (Or.inr ⟨200, by decide +kernel, rfl, rfl⟩)
theorem dX11_survey_47 : Dj prog_1_method_24_code 47 (.if_icmp .lt 7) 7 50 54 := ⟨by decide +kernel, rfl, by decide⟩
theorem dX11_survey_50 : D3 prog_1_method_24_code 50 (.ldc_w 268) 53 := ⟨by decide +kernel, rfl⟩
theorem dX11_survey_53 : D1 prog_1_method_24_code 53 (.ireturn) 54 := ⟨by decide +kernel, rfl⟩
theorem dX11_survey_54 : Daload prog_1_method_24_code 54 0 55 := Or.inl ⟨0, by decide +kernel, rfl, rfl⟩
theorem dX11_survey_55 : D1 prog_1_method_24_code 55 (.dup) 56 := ⟨by decide +kernel, rfl⟩
theorem dX11_survey_56 : D3 prog_1_method_24_code 56 (.getfield 269) 59 := ⟨by decide +kernel, rfl⟩
theorem dX11_survey_59 : Dconst prog_1_method_24_code 59 1 60 := Or.inl ⟨1, by decide +kernel, rfl, rfl⟩
theorem dX11_survey_60 : D1 prog_1_method_24_code 60 (.iadd) 61 := ⟨by decide +kernel, rfl⟩
theorem dX11_survey_61 : D3 prog_1_method_24_code 61 (.putfield 269) 64 := ⟨by decide +kernel, rfl⟩
theorem dX11_survey_64 : Diload prog_1_method_24_code 64 4 66 := Or.inr ⟨by decide +kernel, rfl⟩
theorem dX11_survey_66 : Daload prog_1_method_24_code 66 0 67 := Or.inl ⟨0, by decide +kernel, rfl, rfl⟩
theorem dX11_survey_67 : Daload prog_1_method_24_code 67 5 69 := Or.inr ⟨by decide +kernel, rfl⟩
theorem dX11_survey_69 : Diload prog_1_method_24_code 69 3 70 := Or.inl ⟨3, by decide +kernel, rfl, rfl⟩
theorem dX11_survey_70 : D3 prog_1_method_24_code 70 (.invokevirtual 210) 73 := ⟨by decide +kernel, rfl⟩
theorem dX11_survey_73 : D1 prog_1_method_24_code 73 (.isub) 74 := ⟨by decide +kernel, rfl⟩
theorem dX11_survey_74 : Distore prog_1_method_24_code 74 6 76 := Or.inr ⟨by decide +kernel, rfl⟩
theorem dX11_survey_76 : Daload prog_1_method_24_code 76 5 78 := Or.inr ⟨by decide +kernel, rfl⟩
theorem dX11_survey_78 : Diload prog_1_method_24_code 78 3 79 := Or.inl ⟨3, by decide +kernel, rfl, rfl⟩
theorem dX11_survey_79 : Diload prog_1_method_24_code 79 6 81 := Or.inr ⟨by decide +kernel, rfl⟩
theorem dX11_survey_81 : D3 prog_1_method_24_code 81 (.invokevirtual 272) 84 := ⟨by decide +kernel, rfl⟩
theorem dX11_survey_84 : Diload prog_1_method_24_code 84 6 86 := Or.inr ⟨by decide +kernel, rfl⟩
theorem dX11_survey_86 : D1 prog_1_method_24_code 86 (.ireturn) 87 := ⟨by decide +kernel, rfl⟩
theorem dX7_noteSurvey_0 : Daload prog_9_method_2_code 0 0 1 := Or.inl ⟨0, by decide +kernel, rfl, rfl⟩
theorem dX7_noteSurvey_1 : D3 prog_9_method_2_code 1 (.getfield 33) 4 := ⟨by decide +kernel, rfl⟩
theorem dX7_noteSurvey_4 : Dastore prog_9_method_2_code 4 3 5 := Or.inl ⟨3, by decide +kernel, rfl, rfl⟩
theorem dX7_noteSurvey_5 : Daload prog_9_method_2_code 5 3 6 := Or.inl ⟨3, by decide +kernel, rfl, rfl⟩
theorem dX7_noteSurvey_6 : Dj prog_9_method_2_code 6 (.ifnull 25) 25 9 31 := ⟨by decide +kernel, rfl, by decide⟩
theorem dX7_noteSurvey_9 : Daload prog_9_method_2_code 9 3 10 := Or.inl ⟨3, by decide +kernel, rfl, rfl⟩
theorem dX7_noteSurvey_10 : D3 prog_9_method_2_code 10 (.getfield 37) 13 := ⟨by decide +kernel, rfl⟩
theorem dX7_noteSurvey_13 : Diload prog_9_method_2_code 13 1 14 := Or.inl ⟨1, by decide +kernel, rfl, rfl⟩
theorem dX7_noteSurvey_14 : Dj prog_9_method_2_code 14 (.if_icmp .ne 9) 9 17 23 := ⟨by decide +kernel, rfl, by decide⟩
theorem dX7_noteSurvey_17 : Daload prog_9_method_2_code 17 3 18 := Or.inl ⟨3, by decide +kernel, rfl, rfl⟩
theorem dX7_noteSurvey_18 : Diload prog_9_method_2_code 18 2 19 := Or.inl ⟨2, by decide +kernel, rfl, rfl⟩
theorem dX7_noteSurvey_19 : D3 prog_9_method_2_code 19 (.putfield 42) 22 := ⟨by decide +kernel, rfl⟩
theorem dX7_noteSurvey_22 : D1 prog_9_method_2_code 22 (.return_) 23 := ⟨by decide +kernel, rfl⟩
theorem dX7_noteSurvey_23 : Daload prog_9_method_2_code 23 3 24 := Or.inl ⟨3, by decide +kernel, rfl, rfl⟩
theorem dX7_noteSurvey_24 : D3 prog_9_method_2_code 24 (.getfield 45) 27 := ⟨by decide +kernel, rfl⟩
theorem dX7_noteSurvey_27 : Dastore prog_9_method_2_code 27 3 28 := Or.inl ⟨3, by decide +kernel, rfl, rfl⟩
theorem dX7_noteSurvey_28 : Dj prog_9_method_2_code 28 (.goto (-23)) (-23) 31 5 := ⟨by decide +kernel, rfl, by decide⟩
theorem dX7_noteSurvey_31 : Daload prog_9_method_2_code 31 0 32 := Or.inl ⟨0, by decide +kernel, rfl, rfl⟩
theorem dX7_noteSurvey_32 : D3 prog_9_method_2_code 32 (.new 38) 35 := ⟨by decide +kernel, rfl⟩
theorem dX7_noteSurvey_35 : D1 prog_9_method_2_code 35 (.dup) 36 := ⟨by decide +kernel, rfl⟩
theorem dX7_noteSurvey_36 : Diload prog_9_method_2_code 36 1 37 := Or.inl ⟨1, by decide +kernel, rfl, rfl⟩
theorem dX7_noteSurvey_37 : Diload prog_9_method_2_code 37 2 38 := Or.inl ⟨2, by decide +kernel, rfl, rfl⟩
theorem dX7_noteSurvey_38 : Daload prog_9_method_2_code 38 0 39 := Or.inl ⟨0, by decide +kernel, rfl, rfl⟩
theorem dX7_noteSurvey_39 : D3 prog_9_method_2_code 39 (.getfield 33) 42 := ⟨by decide +kernel, rfl⟩
theorem dX7_noteSurvey_42 : D3 prog_9_method_2_code 42 (.invokespecial 48) 45 := ⟨by decide +kernel, rfl⟩
theorem dX7_noteSurvey_45 : D3 prog_9_method_2_code 45 (.putfield 33) 48 := ⟨by decide +kernel, rfl⟩
theorem dX7_noteSurvey_48 : D1 prog_9_method_2_code 48 (.return_) 49 := ⟨by decide +kernel, rfl⟩
theorem dX8_init_0 : Daload prog_10_method_1_code 0 0 1 := Or.inl ⟨0, by decide +kernel, rfl, rfl⟩
theorem dX8_init_1 : D3 prog_10_method_1_code 1 (.invokespecial 1) 4 := ⟨by decide +kernel, rfl⟩
theorem dX8_init_4 : Daload prog_10_method_1_code 4 0 5 := Or.inl ⟨0, by decide +kernel, rfl, rfl⟩
theorem dX8_init_5 : Diload prog_10_method_1_code 5 1 6 := Or.inl ⟨1, by decide +kernel, rfl, rfl⟩
theorem dX8_init_6 : D3 prog_10_method_1_code 6 (.putfield 7) 9 := ⟨by decide +kernel, rfl⟩
theorem dX8_init_9 : Daload prog_10_method_1_code 9 0 10 := Or.inl ⟨0, by decide +kernel, rfl, rfl⟩
theorem dX8_init_10 : Diload prog_10_method_1_code 10 2 11 := Or.inl ⟨2, by decide +kernel, rfl, rfl⟩
theorem dX8_init_11 : D3 prog_10_method_1_code 11 (.putfield 13) 14 := ⟨by decide +kernel, rfl⟩
theorem dX8_init_14 : Daload prog_10_method_1_code 14 0 15 := Or.inl ⟨0, by decide +kernel, rfl, rfl⟩
theorem dX8_init_15 : Daload prog_10_method_1_code 15 3 16 := Or.inl ⟨3, by decide +kernel, rfl, rfl⟩
theorem dX8_init_16 : D3 prog_10_method_1_code 16 (.putfield 16) 19 := ⟨by decide +kernel, rfl⟩
theorem dX8_init_19 : D1 prog_10_method_1_code 19 (.return_) 20 := ⟨by decide +kernel, rfl⟩
theorem dX11_balance_0 : Daload prog_1_method_25_code 0 0 1 := Or.inl ⟨0, by decide +kernel, rfl, rfl⟩
theorem dX11_balance_1 : Diload prog_1_method_25_code 1 1 2 := Or.inl ⟨1, by decide +kernel, rfl, rfl⟩
theorem dX11_balance_2 : Diload prog_1_method_25_code 2 2 3 := Or.inl ⟨2, by decide +kernel, rfl, rfl⟩
theorem dX11_balance_3 : D3 prog_1_method_25_code 3 (.invokevirtual 110) 6 := ⟨by decide +kernel, rfl⟩
theorem dX11_balance_6 : Dastore prog_1_method_25_code 6 3 7 := Or.inl ⟨3, by decide +kernel, rfl, rfl⟩
theorem dX11_balance_7 : Daload prog_1_method_25_code 7 3 8 := Or.inl ⟨3, by decide +kernel, rfl, rfl⟩
theorem dX11_balance_8 : Dj prog_1_method_25_code 8 (.ifnonnull 9) 9 11 17 := ⟨by decide +kernel, rfl, by decide⟩
theorem dX11_balance_11 : D3 prog_1_method_25_code 11 (.ldc_w 268) 14 := ⟨by decide +kernel, rfl⟩
theorem dX11_balance_14 : Dj prog_1_method_25_code 14 (.goto 7) 7 17 21 := ⟨by decide +kernel, rfl, by decide⟩
theorem dX11_balance_17 : Daload prog_1_method_25_code 17 3 18 := Or.inl ⟨3, by decide +kernel, rfl, rfl⟩
theorem dX11_balance_18 : D3 prog_1_method_25_code 18 (.invokevirtual 276) 21 := ⟨by decide +kernel, rfl⟩
theorem dX11_balance_21 : D1 prog_1_method_25_code 21 (.ireturn) 22 := ⟨by decide +kernel, rfl⟩
theorem dX7_forgivenBalance_0 : Dconst prog_9_method_3_code 0 0 1 := Or.inl ⟨0, by decide +kernel, rfl, rfl⟩
theorem dX7_forgivenBalance_1 : Distore prog_9_method_3_code 1 1 2 := Or.inl ⟨1, by decide +kernel, rfl, rfl⟩
theorem dX7_forgivenBalance_2 : Daload prog_9_method_3_code 2 0 3 := Or.inl ⟨0, by decide +kernel, rfl, rfl⟩
theorem dX7_forgivenBalance_3 : D3 prog_9_method_3_code 3 (.getfield 33) 6 := ⟨by decide +kernel, rfl⟩
theorem dX7_forgivenBalance_6 : Dastore prog_9_method_3_code 6 2 7 := Or.inl ⟨2, by decide +kernel, rfl, rfl⟩
theorem dX7_forgivenBalance_7 : Daload prog_9_method_3_code 7 2 8 := Or.inl ⟨2, by decide +kernel, rfl, rfl⟩
theorem dX7_forgivenBalance_8 : Dj prog_9_method_3_code 8 (.ifnull 18) 18 11 26 := ⟨by decide +kernel, rfl, by decide⟩
theorem dX7_forgivenBalance_11 : Diload prog_9_method_3_code 11 1 12 := Or.inl ⟨1, by decide +kernel, rfl, rfl⟩
theorem dX7_forgivenBalance_12 : Daload prog_9_method_3_code 12 2 13 := Or.inl ⟨2, by decide +kernel, rfl, rfl⟩
theorem dX7_forgivenBalance_13 : D3 prog_9_method_3_code 13 (.getfield 42) 16 := ⟨by decide +kernel, rfl⟩
theorem dX7_forgivenBalance_16 : D1 prog_9_method_3_code 16 (.iadd) 17 := ⟨by decide +kernel, rfl⟩
theorem dX7_forgivenBalance_17 : Distore prog_9_method_3_code 17 1 18 := Or.inl ⟨1, by decide +kernel, rfl, rfl⟩
theorem dX7_forgivenBalance_18 : Daload prog_9_method_3_code 18 2 19 := Or.inl ⟨2, by decide +kernel, rfl, rfl⟩
theorem dX7_forgivenBalance_19 : D3 prog_9_method_3_code 19 (.getfield 45) 22 := ⟨by decide +kernel, rfl⟩
theorem dX7_forgivenBalance_22 : Dastore prog_9_method_3_code 22 2 23 := Or.inl ⟨2, by decide +kernel, rfl, rfl⟩
theorem dX7_forgivenBalance_23 : Dj prog_9_method_3_code 23 (.goto (-16)) (-16) 26 7 := ⟨by decide +kernel, rfl, by decide⟩
theorem dX7_forgivenBalance_26 : Diload prog_9_method_3_code 26 1 27 := Or.inl ⟨1, by decide +kernel, rfl, rfl⟩
theorem dX7_forgivenBalance_27 : Dj prog_9_method_3_code 27 (.ifCond .ge 19) 19 30 46 := ⟨by decide +kernel, rfl, by decide⟩
theorem dX7_forgivenBalance_30 : Dconst prog_9_method_3_code 30 0 31 := Or.inl ⟨0, by decide +kernel, rfl, rfl⟩
theorem dX7_forgivenBalance_31 : Diload prog_9_method_3_code 31 1 32 := Or.inl ⟨1, by decide +kernel, rfl, rfl⟩
theorem dX7_forgivenBalance_32 : Daload prog_9_method_3_code 32 0 33 := Or.inl ⟨0, by decide +kernel, rfl, rfl⟩
theorem dX7_forgivenBalance_33 : D3 prog_9_method_3_code 33 (.getfield 51) 36 := ⟨by decide +kernel, rfl⟩
theorem dX7_forgivenBalance_36 : Dconst prog_9_method_3_code 36 8 38 := Or.inr (Or.inl ⟨8, by decide +kernel, rfl, rfl⟩)
theorem dX7_forgivenBalance_38 : D1 prog_9_method_3_code 38 (.idiv) 39 := ⟨by decide +kernel, rfl⟩
theorem dX7_forgivenBalance_39 : D1 prog_9_method_3_code 39 (.iadd) 40 := ⟨by decide +kernel, rfl⟩
theorem dX7_forgivenBalance_40 : D3 prog_9_method_3_code 40 (.invokestatic 54) 43 := ⟨by decide +kernel, rfl⟩
theorem dX7_forgivenBalance_43 : Dj prog_9_method_3_code 43 (.goto 4) 4 46 47 := ⟨by decide +kernel, rfl, by decide⟩
theorem dX7_forgivenBalance_46 : Diload prog_9_method_3_code 46 1 47 := Or.inl ⟨1, by decide +kernel, rfl, rfl⟩
theorem dX7_forgivenBalance_47 : D1 prog_9_method_3_code 47 (.ireturn) 48 := ⟨by decide +kernel, rfl⟩
theorem dX11_began_0 : Daload prog_1_method_26_code 0 0 1 := Or.inl ⟨0, by decide +kernel, rfl, rfl⟩
theorem dX11_began_1 : Diload prog_1_method_26_code 1 1 2 := Or.inl ⟨1, by decide +kernel, rfl, rfl⟩
theorem dX11_began_2 : Diload prog_1_method_26_code 2 2 3 := Or.inl ⟨2, by decide +kernel, rfl, rfl⟩
theorem dX11_began_3 : D3 prog_1_method_26_code 3 (.invokevirtual 110) 6 := ⟨by decide +kernel, rfl⟩
theorem dX11_began_6 : Dastore prog_1_method_26_code 6 4 8 := Or.inr ⟨by decide +kernel, rfl⟩
theorem dX11_began_8 : Daload prog_1_method_26_code 8 4 10 := Or.inr ⟨by decide +kernel, rfl⟩
theorem dX11_began_10 : Dj prog_1_method_26_code 10 (.ifnonnull 7) 7 13 17 := ⟨by decide +kernel, rfl, by decide⟩
theorem dX11_began_13 : Dconst prog_1_method_26_code 13 (-1) 14 := Or.inl ⟨(-1), by decide +kernel, rfl, rfl⟩
theorem dX11_began_14 : Dj prog_1_method_26_code 14 (.goto 10) 10 17 24 := ⟨by decide +kernel, rfl, by decide⟩
theorem dX11_began_17 : Daload prog_1_method_26_code 17 0 18 := Or.inl ⟨0, by decide +kernel, rfl, rfl⟩
theorem dX11_began_18 : Daload prog_1_method_26_code 18 4 20 := Or.inr ⟨by decide +kernel, rfl⟩
theorem dX11_began_20 : Diload prog_1_method_26_code 20 3 21 := Or.inl ⟨3, by decide +kernel, rfl, rfl⟩
theorem dX11_began_21 : D3 prog_1_method_26_code 21 (.invokevirtual 210) 24 := ⟨by decide +kernel, rfl⟩
theorem dX11_began_24 : D1 prog_1_method_26_code 24 (.ireturn) 25 := ⟨by decide +kernel, rfl⟩
theorem dX11_count_0 : Diload prog_1_method_27_code 0 1 1 := Or.inl ⟨1, by decide +kernel, rfl, rfl⟩
theorem dX11_count_1 : decode prog_1_method_27_code 1 = .ok (.tableswitch 96 0 7 #[47, 52, 60, 65, 73, 78, 83, 88], 47) := by decide +kernel
theorem dX11_count_48 : Daload prog_1_method_27_code 48 0 49 := Or.inl ⟨0, by decide +kernel, rfl, rfl⟩
theorem dX11_count_49 : D3 prog_1_method_27_code 49 (.getfield 121) 52 := ⟨by decide +kernel, rfl⟩
theorem dX11_count_52 : D1 prog_1_method_27_code 52 (.ireturn) 53 := ⟨by decide +kernel, rfl⟩
theorem dX11_count_53 : Daload prog_1_method_27_code 53 0 54 := Or.inl ⟨0, by decide +kernel, rfl, rfl⟩
theorem dX11_count_54 : D3 prog_1_method_27_code 54 (.getfield 47) 57 := ⟨by decide +kernel, rfl⟩
theorem dX11_count_57 : D3 prog_1_method_27_code 57 (.getfield 124) 60 := ⟨by decide +kernel, rfl⟩
theorem dX11_count_60 : D1 prog_1_method_27_code 60 (.ireturn) 61 := ⟨by decide +kernel, rfl⟩
theorem dX11_count_61 : Daload prog_1_method_27_code 61 0 62 := Or.inl ⟨0, by decide +kernel, rfl, rfl⟩
theorem dX11_count_62 : D3 prog_1_method_27_code 62 (.getfield 133) 65 := ⟨by decide +kernel, rfl⟩
theorem dX11_count_65 : D1 prog_1_method_27_code 65 (.ireturn) 66 := ⟨by decide +kernel, rfl⟩
theorem dX11_count_66 : Daload prog_1_method_27_code 66 0 67 := Or.inl ⟨0, by decide +kernel, rfl, rfl⟩
theorem dX11_count_67 : D3 prog_1_method_27_code 67 (.getfield 47) 70 := ⟨by decide +kernel, rfl⟩
theorem dX11_count_70 : D3 prog_1_method_27_code 70 (.invokevirtual 280) 73 := ⟨by decide +kernel, rfl⟩
theorem dX11_count_73 : D1 prog_1_method_27_code 73 (.ireturn) 74 := ⟨by decide +kernel, rfl⟩
theorem dX11_count_74 : Daload prog_1_method_27_code 74 0 75 := Or.inl ⟨0, by decide +kernel, rfl, rfl⟩
theorem dX11_count_75 : D3 prog_1_method_27_code 75 (.getfield 283) 78 := ⟨by decide +kernel, rfl⟩
theorem dX11_count_78 : D1 prog_1_method_27_code 78 (.ireturn) 79 := ⟨by decide +kernel, rfl⟩
theorem dX11_count_79 : Daload prog_1_method_27_code 79 0 80 := Or.inl ⟨0, by decide +kernel, rfl, rfl⟩
theorem dX11_count_80 : D3 prog_1_method_27_code 80 (.getfield 286) 83 := ⟨by decide +kernel, rfl⟩
theorem dX11_count_83 : D1 prog_1_method_27_code 83 (.ireturn) 84 := ⟨by decide +kernel, rfl⟩
theorem dX11_count_84 : Daload prog_1_method_27_code 84 0 85 := Or.inl ⟨0, by decide +kernel, rfl, rfl⟩
theorem dX11_count_85 : D3 prog_1_method_27_code 85 (.getfield 269) 88 := ⟨by decide +kernel, rfl⟩
theorem dX11_count_88 : D1 prog_1_method_27_code 88 (.ireturn) 89 := ⟨by decide +kernel, rfl⟩
theorem dX11_count_89 : Daload prog_1_method_27_code 89 0 90 := Or.inl ⟨0, by decide +kernel, rfl, rfl⟩
theorem dX11_count_90 : D3 prog_1_method_27_code 90 (.getfield 54) 93 := ⟨by decide +kernel, rfl⟩
theorem dX11_count_93 : D3 prog_1_method_27_code 93 (.getfield 224) 96 := ⟨by decide +kernel, rfl⟩
theorem dX11_count_96 : D1 prog_1_method_27_code 96 (.ireturn) 97 := ⟨by decide +kernel, rfl⟩
theorem dX11_count_97 : Dconst prog_1_method_27_code 97 (-1) 98 := Or.inl ⟨(-1), by decide +kernel, rfl, rfl⟩
theorem dX11_count_98 : D1 prog_1_method_27_code 98 (.ireturn) 99 := ⟨by decide +kernel, rfl⟩
theorem dX4_casksInAll_0 : Dconst prog_6_method_7_code 0 0 1 := Or.inl ⟨0, by decide +kernel, rfl, rfl⟩
theorem dX4_casksInAll_1 : Distore prog_6_method_7_code 1 1 2 := Or.inl ⟨1, by decide +kernel, rfl, rfl⟩
theorem dX4_casksInAll_2 : Daload prog_6_method_7_code 2 0 3 := Or.inl ⟨0, by decide +kernel, rfl, rfl⟩
theorem dX4_casksInAll_3 : D3 prog_6_method_7_code 3 (.getfield 33) 6 := ⟨by decide +kernel, rfl⟩
theorem dX4_casksInAll_6 : Dastore prog_6_method_7_code 6 2 7 := Or.inl ⟨2, by decide +kernel, rfl, rfl⟩
theorem dX4_casksInAll_7 : Daload prog_6_method_7_code 7 2 8 := Or.inl ⟨2, by decide +kernel, rfl, rfl⟩
theorem dX4_casksInAll_8 : Dj prog_6_method_7_code 8 (.ifnull 18) 18 11 26 := ⟨by decide +kernel, rfl, by decide⟩
theorem dX4_casksInAll_11 : Diload prog_6_method_7_code 11 1 12 := Or.inl ⟨1, by decide +kernel, rfl, rfl⟩
theorem dX4_casksInAll_12 : Daload prog_6_method_7_code 12 2 13 := Or.inl ⟨2, by decide +kernel, rfl, rfl⟩
theorem dX4_casksInAll_13 : D3 prog_6_method_7_code 13 (.getfield 50) 16 := ⟨by decide +kernel, rfl⟩
theorem dX4_casksInAll_16 : D1 prog_6_method_7_code 16 (.iadd) 17 := ⟨by decide +kernel, rfl⟩
theorem dX4_casksInAll_17 : Distore prog_6_method_7_code 17 1 18 := Or.inl ⟨1, by decide +kernel, rfl, rfl⟩
theorem dX4_casksInAll_18 : Daload prog_6_method_7_code 18 2 19 := Or.inl ⟨2, by decide +kernel, rfl, rfl⟩
theorem dX4_casksInAll_19 : D3 prog_6_method_7_code 19 (.getfield 37) 22 := ⟨by decide +kernel, rfl⟩
theorem dX4_casksInAll_22 : Dastore prog_6_method_7_code 22 2 23 := Or.inl ⟨2, by decide +kernel, rfl, rfl⟩
theorem dX4_casksInAll_23 : Dj prog_6_method_7_code 23 (.goto (-16)) (-16) 26 7 := ⟨by decide +kernel, rfl, by decide⟩
theorem dX4_casksInAll_26 : Diload prog_6_method_7_code 26 1 27 := Or.inl ⟨1, by decide +kernel, rfl, rfl⟩
theorem dX4_casksInAll_27 : D1 prog_6_method_7_code 27 (.ireturn) 28 := ⟨by decide +kernel, rfl⟩
end
section
-- DECODE FACTS of the reference
theorem dX12_init_0 : Daload prog_14_method_1_code 0 0 1 := Or.inl ⟨0, by decide +kernel, rfl, rfl⟩
theorem dX12_init_1 : D3 prog_14_method_1_code 1 (.invokespecial 3) 4 := ⟨by decide +kernel, rfl⟩
theorem dX12_init_4 : Daload prog_14_method_1_code 4 0 5 := Or.inl ⟨0, by decide +kernel, rfl, rfl⟩
theorem dX12_init_5 : Dconst prog_14_method_1_code 5 8 7 := Or.inr (Or.inl ⟨8, by decide +kernel, rfl, rfl⟩)
theorem dX12_init_7 : D2 prog_14_method_1_code 7 (.newarray .int) 9 := ⟨by decide +kernel, rfl⟩
theorem dX12_init_9 : D3 prog_14_method_1_code 9 (.putfield 9) 12 := ⟨by decide +kernel, rfl⟩
theorem dX12_init_12 : Daload prog_14_method_1_code 12 0 13 := Or.inl ⟨0, by decide +kernel, rfl, rfl⟩
theorem dX12_init_13 : Dconst prog_14_method_1_code 13 4 14 := Or.inl ⟨4, by decide +kernel, rfl, rfl⟩
theorem dX12_init_14 : D2 prog_14_method_1_code 14 (.newarray .int) 16 := ⟨by decide +kernel, rfl⟩
theorem dX12_init_16 : D3 prog_14_method_1_code 16 (.putfield 13) 19 := ⟨by decide +kernel, rfl⟩
theorem dX12_init_19 : Daload prog_14_method_1_code 19 0 20 := Or.inl ⟨0, by decide +kernel, rfl, rfl⟩
theorem dX12_init_20 : Dconst prog_14_method_1_code 20 40 22 := Or.inr (Or.inl ⟨40, by decide +kernel, rfl, rfl⟩)
theorem dX12_init_22 : D2 prog_14_method_1_code 22 (.newarray .int) 24 := ⟨by decide +kernel, rfl⟩
theorem dX12_init_24 : D3 prog_14_method_1_code 24 (.putfield 16) 27 := ⟨by decide +kernel, rfl⟩
theorem dX12_init_27 : Daload prog_14_method_1_code 27 0 28 := Or.inl ⟨0, by decide +kernel, rfl, rfl⟩
theorem dX12_init_28 : Dconst prog_14_method_1_code 28 64 30 := Or.inr (Or.inl ⟨64, by decide +kernel, rfl, rfl⟩)
theorem dX12_init_30 : D2 prog_14_method_1_code 30 (.newarray .int) 32 := ⟨by decide +kernel, rfl⟩
theorem dX12_init_32 : D3 prog_14_method_1_code 32 (.putfield 19) 35 := ⟨by decide +kernel, rfl⟩
theorem dX12_init_35 : Daload prog_14_method_1_code 35 0 36 := Or.inl ⟨0, by decide +kernel, rfl, rfl⟩
theorem dX12_init_36 : Dconst prog_14_method_1_code 36 8 38 := Or.inr (Or.inl ⟨8, by decide +kernel, rfl, rfl⟩)
theorem dX12_init_38 : D2 prog_14_method_1_code 38 (.newarray .int) 40 := ⟨by decide +kernel, rfl⟩
theorem dX12_init_40 : D3 prog_14_method_1_code 40 (.putfield 22) 43 := ⟨by decide +kernel, rfl⟩
theorem dX12_init_43 : Daload prog_14_method_1_code 43 0 44 := Or.inl ⟨0, by decide +kernel, rfl, rfl⟩
theorem dX12_init_44 : Dconst prog_14_method_1_code 44 300 47 := Or.inr (Or.inr ⟨300, by decide +kernel, rfl, rfl⟩)
theorem dX12_init_47 : D2 prog_14_method_1_code 47 (.newarray .int) 49 := ⟨by decide +kernel, rfl⟩
theorem dX12_init_49 : D3 prog_14_method_1_code 49 (.putfield 25) 52 := ⟨by decide +kernel, rfl⟩
theorem dX12_init_52 : Daload prog_14_method_1_code 52 0 53 := Or.inl ⟨0, by decide +kernel, rfl, rfl⟩
theorem dX12_init_53 : Dconst prog_14_method_1_code 53 300 56 := Or.inr (Or.inr ⟨300, by decide +kernel, rfl, rfl⟩)
theorem dX12_init_56 : D2 prog_14_method_1_code 56 (.newarray .int) 58 := ⟨by decide +kernel, rfl⟩
theorem dX12_init_58 : D3 prog_14_method_1_code 58 (.putfield 28) 61 := ⟨by decide +kernel, rfl⟩
theorem dX12_init_61 : Daload prog_14_method_1_code 61 0 62 := Or.inl ⟨0, by decide +kernel, rfl, rfl⟩
theorem dX12_init_62 : Dconst prog_14_method_1_code 62 300 65 := Or.inr (Or.inr ⟨300, by decide +kernel, rfl, rfl⟩)
theorem dX12_init_65 : D2 prog_14_method_1_code 65 (.newarray .int) 67 := ⟨by decide +kernel, rfl⟩
theorem dX12_init_67 : D3 prog_14_method_1_code 67 (.putfield 31) 70 := ⟨by decide +kernel, rfl⟩
theorem dX12_init_70 : Daload prog_14_method_1_code 70 0 71 := Or.inl ⟨0, by decide +kernel, rfl, rfl⟩
theorem dX12_init_71 : Dconst prog_14_method_1_code 71 300 74 := Or.inr (Or.inr ⟨300, by decide +kernel, rfl, rfl⟩)
theorem dX12_init_74 : D2 prog_14_method_1_code 74 (.newarray .int) 76 := ⟨by decide +kernel, rfl⟩
theorem dX12_init_76 : D3 prog_14_method_1_code 76 (.putfield 34) 79 := ⟨by decide +kernel, rfl⟩
theorem dX12_init_79 : Daload prog_14_method_1_code 79 0 80 := Or.inl ⟨0, by decide +kernel, rfl, rfl⟩
theorem dX12_init_80 : Dconst prog_14_method_1_code 80 300 83 := Or.inr (Or.inr ⟨300, by decide +kernel, rfl, rfl⟩)
theorem dX12_init_83 : D2 prog_14_method_1_code 83 (.newarray .int) 85 := ⟨by decide +kernel, rfl⟩
theorem dX12_init_85 : D3 prog_14_method_1_code 85 (.putfield 37) 88 := ⟨by decide +kernel, rfl⟩
theorem dX12_init_88 : Daload prog_14_method_1_code 88 0 89 := Or.inl ⟨0, by decide +kernel, rfl, rfl⟩
theorem dX12_init_89 : Dconst prog_14_method_1_code 89 300 92 := Or.inr (Or.inr ⟨300, by decide +kernel, rfl, rfl⟩)
theorem dX12_init_92 : D2 prog_14_method_1_code 92 (.newarray .int) 94 := ⟨by decide +kernel, rfl⟩
theorem dX12_init_94 : D3 prog_14_method_1_code 94 (.putfield 40) 97 := ⟨by decide +kernel, rfl⟩
theorem dX12_init_97 : Daload prog_14_method_1_code 97 0 98 := Or.inl ⟨0, by decide +kernel, rfl, rfl⟩
theorem dX12_init_98 : Dconst prog_14_method_1_code 98 300 101 := Or.inr (Or.inr ⟨300, by decide +kernel, rfl, rfl⟩)
theorem dX12_init_101 : D2 prog_14_method_1_code 101 (.newarray .int) 103 := ⟨by decide +kernel, rfl⟩
theorem dX12_init_103 : D3 prog_14_method_1_code 103 (.putfield 43) 106 := ⟨by decide +kernel, rfl⟩
theorem dX12_init_106 : Daload prog_14_method_1_code 106 0 107 := Or.inl ⟨0, by decide +kernel, rfl, rfl⟩
theorem dX12_init_107 : Dconst prog_14_method_1_code 107 300 110 := Or.inr (Or.inr ⟨300, by decide +kernel, rfl, rfl⟩)
theorem dX12_init_110 : D2 prog_14_method_1_code 110 (.newarray .int) 112 := ⟨by decide +kernel, rfl⟩
theorem dX12_init_112 : D3 prog_14_method_1_code 112 (.putfield 46) 115 := ⟨by decide +kernel, rfl⟩
theorem dX12_init_115 : Daload prog_14_method_1_code 115 0 116 := Or.inl ⟨0, by decide +kernel, rfl, rfl⟩
theorem dX12_init_116 : Dconst prog_14_method_1_code 116 300 119 := Or.inr (Or.inr ⟨300, by decide +kernel, rfl, rfl⟩)
theorem dX12_init_119 : D2 prog_14_method_1_code 119 (.newarray .int) 121 := ⟨by decide +kernel, rfl⟩
theorem dX12_init_121 : D3 prog_14_method_1_code 121 (.putfield 49) 124 := ⟨by decide +kernel, rfl⟩
theorem dX12_init_124 : Daload prog_14_method_1_code 124 0 125 := Or.inl ⟨0, by decide +kernel, rfl, rfl⟩
theorem dX12_init_125 : Dconst prog_14_method_1_code 125 300 128 := Or.inr (Or.inr ⟨300, by decide +kernel, rfl, rfl⟩)
theorem dX12_init_128 : D2 prog_14_method_1_code 128 (.newarray .int) 130 := ⟨by decide +kernel, rfl⟩
theorem dX12_init_130 : D3 prog_14_method_1_code 130 (.putfield 52) 133 := ⟨by decide +kernel, rfl⟩
theorem dX12_init_133 : Daload prog_14_method_1_code 133 0 134 := Or.inl ⟨0, by decide +kernel, rfl, rfl⟩
theorem dX12_init_134 : Dconst prog_14_method_1_code 134 300 137 := Or.inr (Or.inr ⟨300, by decide +kernel, rfl, rfl⟩)
theorem dX12_init_137 : D2 prog_14_method_1_code 137 (.newarray .int) 139 := ⟨by decide +kernel, rfl⟩
theorem dX12_init_139 : D3 prog_14_method_1_code 139 (.putfield 55) 142 := ⟨by decide +kernel, rfl⟩
theorem dX12_init_142 : Daload prog_14_method_1_code 142 0 143 := Or.inl ⟨0, by decide +kernel, rfl, rfl⟩
theorem dX12_init_143 : Dconst prog_14_method_1_code 143 300 146 := Or.inr (Or.inr ⟨300, by decide +kernel, rfl, rfl⟩)
theorem dX12_init_146 : D2 prog_14_method_1_code 146 (.newarray .int) 148 := ⟨by decide +kernel, rfl⟩
theorem dX12_init_148 : D3 prog_14_method_1_code 148 (.putfield 58) 151 := ⟨by decide +kernel, rfl⟩
theorem dX12_init_151 : Daload prog_14_method_1_code 151 0 152 := Or.inl ⟨0, by decide +kernel, rfl, rfl⟩
theorem dX12_init_152 : Dconst prog_14_method_1_code 152 300 155 := Or.inr (Or.inr ⟨300, by decide +kernel, rfl, rfl⟩)
theorem dX12_init_155 : D2 prog_14_method_1_code 155 (.newarray .int) 157 := ⟨by decide +kernel, rfl⟩
theorem dX12_init_157 : D3 prog_14_method_1_code 157 (.putfield 61) 160 := ⟨by decide +kernel, rfl⟩
theorem dX12_init_160 : Daload prog_14_method_1_code 160 0 161 := Or.inl ⟨0, by decide +kernel, rfl, rfl⟩
theorem dX12_init_161 : Dconst prog_14_method_1_code 161 32 163 := Or.inr (Or.inl ⟨32, by decide +kernel, rfl, rfl⟩)
theorem dX12_init_163 : D2 prog_14_method_1_code 163 (.newarray .int) 165 := ⟨by decide +kernel, rfl⟩
theorem dX12_init_165 : D3 prog_14_method_1_code 165 (.putfield 64) 168 := ⟨by decide +kernel, rfl⟩
theorem dX12_init_168 : Daload prog_14_method_1_code 168 0 169 := Or.inl ⟨0, by decide +kernel, rfl, rfl⟩
theorem dX12_init_169 : Dconst prog_14_method_1_code 169 32 171 := Or.inr (Or.inl ⟨32, by decide +kernel, rfl, rfl⟩)
theorem dX12_init_171 : D2 prog_14_method_1_code 171 (.newarray .int) 173 := ⟨by decide +kernel, rfl⟩
theorem dX12_init_173 : D3 prog_14_method_1_code 173 (.putfield 67) 176 := ⟨by decide +kernel, rfl⟩
theorem dX12_init_176 : Daload prog_14_method_1_code 176 0 177 := Or.inl ⟨0, by decide +kernel, rfl, rfl⟩
theorem dX12_init_177 : Dconst prog_14_method_1_code 177 32 179 := Or.inr (Or.inl ⟨32, by decide +kernel, rfl, rfl⟩)
theorem dX12_init_179 : D2 prog_14_method_1_code 179 (.newarray .int) 181 := ⟨by decide +kernel, rfl⟩
theorem dX12_init_181 : D3 prog_14_method_1_code 181 (.putfield 70) 184 := ⟨by decide +kernel, rfl⟩
theorem dX12_init_184 : Daload prog_14_method_1_code 184 0 185 := Or.inl ⟨0, by decide +kernel, rfl, rfl⟩
theorem dX12_init_185 : Dconst prog_14_method_1_code 185 6432 188 := Or.inr (Or.inr ⟨6432, by decide +kernel, rfl, rfl⟩)
theorem dX12_init_188 : D2 prog_14_method_1_code 188 (.newarray .int) 190 := ⟨by decide +kernel, rfl⟩
theorem dX12_init_190 : D3 prog_14_method_1_code 190 (.putfield 73) 193 := ⟨by decide +kernel, rfl⟩
theorem dX12_init_193 : Daload prog_14_method_1_code 193 0 194 := Or.inl ⟨0, by decide +kernel, rfl, rfl⟩
theorem dX12_init_194 : Dconst prog_14_method_1_code 194 300 197 := Or.inr (Or.inr ⟨300, by decide +kernel, rfl, rfl⟩)
theorem dX12_init_197 : D2 prog_14_method_1_code 197 (.newarray .int) 199 := ⟨by decide +kernel, rfl⟩
theorem dX12_init_199 : D3 prog_14_method_1_code 199 (.putfield 76) 202 := ⟨by decide +kernel, rfl⟩
theorem dX12_init_202 : Daload prog_14_method_1_code 202 0 203 := Or.inl ⟨0, by decide +kernel, rfl, rfl⟩
theorem dX12_init_203 : Dconst prog_14_method_1_code 203 300 206 := Or.inr (Or.inr ⟨300, by decide +kernel, rfl, rfl⟩)
theorem dX12_init_206 : D2 prog_14_method_1_code 206 (.newarray .int) 208 := ⟨by decide +kernel, rfl⟩
theorem dX12_init_208 : D3 prog_14_method_1_code 208 (.putfield 79) 211 := ⟨by decide +kernel, rfl⟩
theorem dX12_init_211 : Daload prog_14_method_1_code 211 0 212 := Or.inl ⟨0, by decide +kernel, rfl, rfl⟩
theorem dX12_init_212 : Dconst prog_14_method_1_code 212 4 213 := Or.inl ⟨4, by decide +kernel, rfl, rfl⟩
theorem dX12_init_213 : D2 prog_14_method_1_code 213 (.newarray .int) 215 := ⟨by decide +kernel, rfl⟩
theorem dX12_init_215 : D3 prog_14_method_1_code 215 (.putfield 82) 218 := ⟨by decide +kernel, rfl⟩
theorem dX12_init_218 : Daload prog_14_method_1_code 218 0 219 := Or.inl ⟨0, by decide +kernel, rfl, rfl⟩
theorem dX12_init_219 : Dconst prog_14_method_1_code 219 220 222 := Or.inr (Or.inr ⟨220, by decide +kernel, rfl, rfl⟩)
theorem dX12_init_222 : D2 prog_14_method_1_code 222 (.newarray .int) 224 := ⟨by decide +kernel, rfl⟩
theorem dX12_init_224 : D3 prog_14_method_1_code 224 (.putfield 85) 227 := ⟨by decide +kernel, rfl⟩
theorem dX12_init_227 : Daload prog_14_method_1_code 227 0 228 := Or.inl ⟨0, by decide +kernel, rfl, rfl⟩
theorem dX12_init_228 : Dconst prog_14_method_1_code 228 10 230 := Or.inr (Or.inl ⟨10, by decide +kernel, rfl, rfl⟩)
theorem dX12_init_230 : D2 prog_14_method_1_code 230 (.newarray .int) 232 := ⟨by decide +kernel, rfl⟩
theorem dX12_init_232 : D3 prog_14_method_1_code 232 (.putfield 88) 235 := ⟨by decide +kernel, rfl⟩
theorem dX12_init_235 : Daload prog_14_method_1_code 235 0 236 := Or.inl ⟨0, by decide +kernel, rfl, rfl⟩
theorem dX12_init_236 : Dconst prog_14_method_1_code 236 440 239 := Or.inr (Or.inr ⟨440, by decide +kernel, rfl, rfl⟩)
theorem dX12_init_239 : D2 prog_14_method_1_code 239 (.newarray .int) 241 := ⟨by decide +kernel, rfl⟩
theorem dX12_init_241 : D3 prog_14_method_1_code 241 (.putfield 91) 244 := ⟨by decide +kernel, rfl⟩
theorem dX12_init_244 : Daload prog_14_method_1_code 244 0 245 := Or.inl ⟨0, by decide +kernel, rfl, rfl⟩
theorem dX12_init_245 : Dconst prog_14_method_1_code 245 440 248 := Or.inr (Or.inr ⟨440, by decide +kernel, rfl, rfl⟩)
theorem dX12_init_248 : D2 prog_14_method_1_code 248 (.newarray .int) 250 := ⟨by decide +kernel, rfl⟩
theorem dX12_init_250 : D3 prog_14_method_1_code 250 (.putfield 94) 253 := ⟨by decide +kernel, rfl⟩
theorem dX12_init_253 : Daload prog_14_method_1_code 253 0 254 := Or.inl ⟨0, by decide +kernel, rfl, rfl⟩
theorem dX12_init_254 : Dconst prog_14_method_1_code 254 440 257 := Or.inr (Or.inr ⟨440, by decide +kernel, rfl, rfl⟩)
theorem dX12_init_257 : D2 prog_14_method_1_code 257 (.newarray .int) 259 := ⟨by decide +kernel, rfl⟩
theorem dX12_init_259 : D3 prog_14_method_1_code 259 (.putfield 97) 262 := ⟨by decide +kernel, rfl⟩
theorem dX12_init_262 : Daload prog_14_method_1_code 262 0 263 := Or.inl ⟨0, by decide +kernel, rfl, rfl⟩
theorem dX12_init_263 : Dconst prog_14_method_1_code 263 440 266 := Or.inr (Or.inr ⟨440, by decide +kernel, rfl, rfl⟩)
theorem dX12_init_266 : D2 prog_14_method_1_code 266 (.newarray .int) 268 := ⟨by decide +kernel, rfl⟩
theorem dX12_init_268 : D3 prog_14_method_1_code 268 (.putfield 100) 271 := ⟨by decide +kernel, rfl⟩
theorem dX12_init_271 : Daload prog_14_method_1_code 271 0 272 := Or.inl ⟨0, by decide +kernel, rfl, rfl⟩
theorem dX12_init_272 : Dconst prog_14_method_1_code 272 5000 275 := Or.inr (Or.inr ⟨5000, by decide +kernel, rfl, rfl⟩)
theorem dX12_init_275 : D2 prog_14_method_1_code 275 (.newarray .int) 277 := ⟨by decide +kernel, rfl⟩
theorem dX12_init_277 : D3 prog_14_method_1_code 277 (.putfield 103) 280 := ⟨by decide +kernel, rfl⟩
theorem dX12_init_280 : Daload prog_14_method_1_code 280 0 281 := Or.inl ⟨0, by decide +kernel, rfl, rfl⟩
theorem dX12_init_281 : Dconst prog_14_method_1_code 281 200 284 := Or.inr (Or.inr ⟨200, by decide +kernel, rfl, rfl⟩)
theorem dX12_init_284 : D2 prog_14_method_1_code 284 (.newarray .int) 286 := ⟨by decide +kernel, rfl⟩
theorem dX12_init_286 : D3 prog_14_method_1_code 286 (.putfield 106) 289 := ⟨by decide +kernel, rfl⟩
theorem dX12_init_289 : Daload prog_14_method_1_code 289 0 290 := Or.inl ⟨0, by decide +kernel, rfl, rfl⟩
theorem dX12_init_290 : Dconst prog_14_method_1_code 290 200 293 := Or.inr (Or.inr ⟨200, by decide +kernel, rfl, rfl⟩)
theorem dX12_init_293 : D2 prog_14_method_1_code 293 (.newarray .int) 295 := ⟨by decide +kernel, rfl⟩
theorem dX12_init_295 : D3 prog_14_method_1_code 295 (.putfield 109) 298 := ⟨by decide +kernel, rfl⟩
theorem dX12_init_298 : Daload prog_14_method_1_code 298 0 299 := Or.inl ⟨0, by decide +kernel, rfl, rfl⟩
theorem dX12_init_299 : Dconst prog_14_method_1_code 299 200 302 := Or.inr (Or.inr ⟨200, by decide +kernel, rfl, rfl⟩)
theorem dX12_init_302 : D2 prog_14_method_1_code 302 (.newarray .int) 304 := ⟨by decide +kernel, rfl⟩
theorem dX12_init_304 : D3 prog_14_method_1_code 304 (.putfield 112) 307 := ⟨by decide +kernel, rfl⟩
theorem dX12_init_307 : Dconst prog_14_method_1_code 307 0 308 := Or.inl ⟨0, by decide +kernel, rfl, rfl⟩
theorem dX12_init_308 : Distore prog_14_method_1_code 308 1 309 := Or.inl ⟨1, by decide +kernel, rfl, rfl⟩
theorem dX12_init_309 : Diload prog_14_method_1_code 309 1 310 := Or.inl ⟨1, by decide +kernel, rfl, rfl⟩
theorem dX12_init_310 : Dconst prog_14_method_1_code 310 4 311 := Or.inl ⟨4, by decide +kernel, rfl, rfl⟩
theorem dX12_init_311 : Dj prog_14_method_1_code 311 (.if_icmp .ge 17) 17 314 328 := ⟨by decide +kernel, rfl, by decide⟩
theorem dX12_init_314 : Daload prog_14_method_1_code 314 0 315 := Or.inl ⟨0, by decide +kernel, rfl, rfl⟩
theorem dX12_init_315 : D3 prog_14_method_1_code 315 (.getfield 13) 318 := ⟨by decide +kernel, rfl⟩
theorem dX12_init_318 : Diload prog_14_method_1_code 318 1 319 := Or.inl ⟨1, by decide +kernel, rfl, rfl⟩
theorem dX12_init_319 : Dconst prog_14_method_1_code 319 50 321 := Or.inr (Or.inl ⟨50, by decide +kernel, rfl, rfl⟩)
theorem dX12_init_321 : D1 prog_14_method_1_code 321 (.iastore) 322 := ⟨by decide +kernel, rfl⟩
theorem dX12_init_322 : Diinc prog_14_method_1_code 322 1 1 325 := ⟨1, by decide +kernel, rfl, rfl⟩
theorem dX12_init_325 : Dj prog_14_method_1_code 325 (.goto (-16)) (-16) 328 309 := ⟨by decide +kernel, rfl, by decide⟩
theorem dX12_init_328 : Dconst prog_14_method_1_code 328 0 329 := Or.inl ⟨0, by decide +kernel, rfl, rfl⟩
theorem dX12_init_329 : Distore prog_14_method_1_code 329 1 330 := Or.inl ⟨1, by decide +kernel, rfl, rfl⟩
theorem dX12_init_330 : Diload prog_14_method_1_code 330 1 331 := Or.inl ⟨1, by decide +kernel, rfl, rfl⟩
theorem dX12_init_331 : Dconst prog_14_method_1_code 331 64 333 := Or.inr (Or.inl ⟨64, by decide +kernel, rfl, rfl⟩)
theorem dX12_init_333 : Dj prog_14_method_1_code 333 (.if_icmp .ge 16) 16 336 349 := ⟨by decide +kernel, rfl, by decide⟩
theorem dX12_init_336 : Daload prog_14_method_1_code 336 0 337 := Or.inl ⟨0, by decide +kernel, rfl, rfl⟩
theorem dX12_init_337 : D3 prog_14_method_1_code 337 (.getfield 19) 340 := ⟨by decide +kernel, rfl⟩
theorem dX12_init_340 : Diload prog_14_method_1_code 340 1 341 := Or.inl ⟨1, by decide +kernel, rfl, rfl⟩
theorem dX12_init_341 : Dconst prog_14_method_1_code 341 2 342 := Or.inl ⟨2, by decide +kernel, rfl, rfl⟩
theorem dX12_init_342 : D1 prog_14_method_1_code 342 (.iastore) 343 := ⟨by decide +kernel, rfl⟩
theorem dX12_init_343 : Diinc prog_14_method_1_code 343 1 1 346 := ⟨1, by decide +kernel, rfl, rfl⟩
theorem dX12_init_346 : Dj prog_14_method_1_code 346 (.goto (-16)) (-16) 349 330 := ⟨by decide +kernel, rfl, by decide⟩
theorem dX12_init_349 : D1 prog_14_method_1_code 349 (.return_) 350 := ⟨by decide +kernel, rfl⟩
theorem dX12_men_0 : Diload prog_14_method_5_code 0 1 1 := Or.inl ⟨1, by decide +kernel, rfl, rfl⟩
theorem dX12_men_1 : D3 prog_14_method_5_code 1 (.invokestatic 119) 4 := ⟨by decide +kernel, rfl⟩
theorem dX12_men_4 : Dj prog_14_method_5_code 4 (.ifCond .eq 14) 14 7 18 := ⟨by decide +kernel, rfl, by decide⟩
theorem dX12_men_7 : Diload prog_14_method_5_code 7 2 8 := Or.inl ⟨2, by decide +kernel, rfl, rfl⟩
theorem dX12_men_8 : Dconst prog_14_method_5_code 8 0 9 := Or.inl ⟨0, by decide +kernel, rfl, rfl⟩
theorem dX12_men_9 : Dconst prog_14_method_5_code 9 1000 12 := Or.inr (Or.inr ⟨1000, by decide +kernel, rfl, rfl⟩)
theorem dX12_men_12 : D3 prog_14_method_5_code 12 (.invokestatic 115) 15 := ⟨by decide +kernel, rfl⟩
theorem dX12_men_15 : Dj prog_14_method_5_code 15 (.ifCond .ne 5) 5 18 20 := ⟨by decide +kernel, rfl, by decide⟩
theorem dX12_men_18 : Dconst prog_14_method_5_code 18 0 19 := Or.inl ⟨0, by decide +kernel, rfl, rfl⟩
theorem dX12_men_19 : D1 prog_14_method_5_code 19 (.ireturn) 20 := ⟨by decide +kernel, rfl⟩
theorem dX12_men_20 : Daload prog_14_method_5_code 20 0 21 := Or.inl ⟨0, by decide +kernel, rfl, rfl⟩
theorem dX12_men_21 : D3 prog_14_method_5_code 21 (.getfield 9) 24 := ⟨by decide +kernel, rfl⟩
theorem dX12_men_24 : Diload prog_14_method_5_code 24 1 25 := Or.inl ⟨1, by decide +kernel, rfl, rfl⟩
theorem dX12_men_25 : Diload prog_14_method_5_code 25 2 26 := Or.inl ⟨2, by decide +kernel, rfl, rfl⟩
theorem dX12_men_26 : D1 prog_14_method_5_code 26 (.iastore) 27 := ⟨by decide +kernel, rfl⟩
theorem dX12_men_27 : Dconst prog_14_method_5_code 27 1 28 := Or.inl ⟨1, by decide +kernel, rfl, rfl⟩
theorem dX12_men_28 : D1 prog_14_method_5_code 28 (.ireturn) 29 := ⟨by decide +kernel, rfl⟩
theorem dX12_isPlace_0 : Diload prog_14_method_3_code 0 0 1 := Or.inl ⟨0, by decide +kernel, rfl, rfl⟩
theorem dX12_isPlace_1 : Dconst prog_14_method_3_code 1 0 2 := Or.inl ⟨0, by decide +kernel, rfl, rfl⟩
theorem dX12_isPlace_2 : Dconst prog_14_method_3_code 2 7 4 := Or.inr (Or.inl ⟨7, by decide +kernel, rfl, rfl⟩)
theorem dX12_isPlace_4 : D3 prog_14_method_3_code 4 (.invokestatic 115) 7 := ⟨by decide +kernel, rfl⟩
theorem dX12_isPlace_7 : D1 prog_14_method_3_code 7 (.ireturn) 8 := ⟨by decide +kernel, rfl⟩
theorem dX12_in_0 : Diload prog_14_method_2_code 0 0 1 := Or.inl ⟨0, by decide +kernel, rfl, rfl⟩
theorem dX12_in_1 : Diload prog_14_method_2_code 1 1 2 := Or.inl ⟨1, by decide +kernel, rfl, rfl⟩
theorem dX12_in_2 : Dj prog_14_method_2_code 2 (.if_icmp .lt 12) 12 5 14 := ⟨by decide +kernel, rfl, by decide⟩
theorem dX12_in_5 : Diload prog_14_method_2_code 5 0 6 := Or.inl ⟨0, by decide +kernel, rfl, rfl⟩
theorem dX12_in_6 : Diload prog_14_method_2_code 6 2 7 := Or.inl ⟨2, by decide +kernel, rfl, rfl⟩
theorem dX12_in_7 : Dj prog_14_method_2_code 7 (.if_icmp .gt 7) 7 10 14 := ⟨by decide +kernel, rfl, by decide⟩
theorem dX12_in_10 : Dconst prog_14_method_2_code 10 1 11 := Or.inl ⟨1, by decide +kernel, rfl, rfl⟩
theorem dX12_in_11 : Dj prog_14_method_2_code 11 (.goto 4) 4 14 15 := ⟨by decide +kernel, rfl, by decide⟩
theorem dX12_in_14 : Dconst prog_14_method_2_code 14 0 15 := Or.inl ⟨0, by decide +kernel, rfl, rfl⟩
theorem dX12_in_15 : D1 prog_14_method_2_code 15 (.ireturn) 16 := ⟨by decide +kernel, rfl⟩
theorem dX12_rations_0 : Diload prog_14_method_6_code 0 1 1 := Or.inl ⟨1, by decide +kernel, rfl, rfl⟩
theorem dX12_rations_1 : D3 prog_14_method_6_code 1 (.invokestatic 123) 4 := ⟨by decide +kernel, rfl⟩
theorem dX12_rations_4 : Dj prog_14_method_6_code 4 (.ifCond .eq 14) 14 7 18 := ⟨by decide +kernel, rfl, by decide⟩
theorem dX12_rations_7 : Diload prog_14_method_6_code 7 2 8 := Or.inl ⟨2, by decide +kernel, rfl, rfl⟩
theorem dX12_rations_8 : Dconst prog_14_method_6_code 8 1 9 := Or.inl ⟨1, by decide +kernel, rfl, rfl⟩
theorem dX12_rations_9 : Dconst prog_14_method_6_code 9 500 12 := Or.inr (Or.inr ⟨500, by decide +kernel, rfl, rfl⟩)
theorem dX12_rations_12 : D3 prog_14_method_6_code 12 (.invokestatic 115) 15 := ⟨by decide +kernel, rfl⟩
theorem dX12_rations_15 : Dj prog_14_method_6_code 15 (.ifCond .ne 5) 5 18 20 := ⟨by decide +kernel, rfl, by decide⟩
theorem dX12_rations_18 : Dconst prog_14_method_6_code 18 0 19 := Or.inl ⟨0, by decide +kernel, rfl, rfl⟩
theorem dX12_rations_19 : D1 prog_14_method_6_code 19 (.ireturn) 20 := ⟨by decide +kernel, rfl⟩
theorem dX12_rations_20 : Daload prog_14_method_6_code 20 0 21 := Or.inl ⟨0, by decide +kernel, rfl, rfl⟩
theorem dX12_rations_21 : D3 prog_14_method_6_code 21 (.getfield 13) 24 := ⟨by decide +kernel, rfl⟩
theorem dX12_rations_24 : Diload prog_14_method_6_code 24 1 25 := Or.inl ⟨1, by decide +kernel, rfl, rfl⟩
theorem dX12_rations_25 : Diload prog_14_method_6_code 25 2 26 := Or.inl ⟨2, by decide +kernel, rfl, rfl⟩
theorem dX12_rations_26 : D1 prog_14_method_6_code 26 (.iastore) 27 := ⟨by decide +kernel, rfl⟩
theorem dX12_rations_27 : Dconst prog_14_method_6_code 27 1 28 := Or.inl ⟨1, by decide +kernel, rfl, rfl⟩
theorem dX12_rations_28 : D1 prog_14_method_6_code 28 (.ireturn) 29 := ⟨by decide +kernel, rfl⟩
theorem dX12_isKind_0 : Diload prog_14_method_4_code 0 0 1 := Or.inl ⟨0, by decide +kernel, rfl, rfl⟩
theorem dX12_isKind_1 : Dconst prog_14_method_4_code 1 0 2 := Or.inl ⟨0, by decide +kernel, rfl, rfl⟩
theorem dX12_isKind_2 : Dconst prog_14_method_4_code 2 3 3 := Or.inl ⟨3, by decide +kernel, rfl, rfl⟩
theorem dX12_isKind_3 : D3 prog_14_method_4_code 3 (.invokestatic 115) 6 := ⟨by decide +kernel, rfl⟩
theorem dX12_isKind_6 : D1 prog_14_method_4_code 6 (.ireturn) 7 := ⟨by decide +kernel, rfl⟩
theorem dX12_spoils_0 : Diload prog_14_method_7_code 0 1 1 := Or.inl ⟨1, by decide +kernel, rfl, rfl⟩
theorem dX12_spoils_1 : D3 prog_14_method_7_code 1 (.invokestatic 123) 4 := ⟨by decide +kernel, rfl⟩
theorem dX12_spoils_4 : Dj prog_14_method_7_code 4 (.ifCond .eq 24) 24 7 28 := ⟨by decide +kernel, rfl, by decide⟩
theorem dX12_spoils_7 : Diload prog_14_method_7_code 7 2 8 := Or.inl ⟨2, by decide +kernel, rfl, rfl⟩
theorem dX12_spoils_8 : Dconst prog_14_method_7_code 8 0 9 := Or.inl ⟨0, by decide +kernel, rfl, rfl⟩
theorem dX12_spoils_9 : Dconst prog_14_method_7_code 9 9 11 := Or.inr (Or.inl ⟨9, by decide +kernel, rfl, rfl⟩)
theorem dX12_spoils_11 : D3 prog_14_method_7_code 11 (.invokestatic 115) 14 := ⟨by decide +kernel, rfl⟩
theorem dX12_spoils_14 : Dj prog_14_method_7_code 14 (.ifCond .eq 14) 14 17 28 := ⟨by decide +kernel, rfl, by decide⟩
theorem dX12_spoils_17 : Diload prog_14_method_7_code 17 3 18 := Or.inl ⟨3, by decide +kernel, rfl, rfl⟩
theorem dX12_spoils_18 : Dconst prog_14_method_7_code 18 0 19 := Or.inl ⟨0, by decide +kernel, rfl, rfl⟩
theorem dX12_spoils_19 : Dconst prog_14_method_7_code 19 1000 22 := Or.inr (Or.inr ⟨1000, by decide +kernel, rfl, rfl⟩)
theorem dX12_spoils_22 : D3 prog_14_method_7_code 22 (.invokestatic 115) 25 := ⟨by decide +kernel, rfl⟩
theorem dX12_spoils_25 : Dj prog_14_method_7_code 25 (.ifCond .ne 5) 5 28 30 := ⟨by decide +kernel, rfl, by decide⟩
theorem dX12_spoils_28 : Dconst prog_14_method_7_code 28 0 29 := Or.inl ⟨0, by decide +kernel, rfl, rfl⟩
theorem dX12_spoils_29 : D1 prog_14_method_7_code 29 (.ireturn) 30 := ⟨by decide +kernel, rfl⟩
theorem dX12_spoils_30 : Daload prog_14_method_7_code 30 0 31 := Or.inl ⟨0, by decide +kernel, rfl, rfl⟩
theorem dX12_spoils_31 : D3 prog_14_method_7_code 31 (.getfield 16) 34 := ⟨by decide +kernel, rfl⟩
theorem dX12_spoils_34 : Dconst prog_14_method_7_code 34 10 36 := Or.inr (Or.inl ⟨10, by decide +kernel, rfl, rfl⟩)
theorem dX12_spoils_36 : Diload prog_14_method_7_code 36 1 37 := Or.inl ⟨1, by decide +kernel, rfl, rfl⟩
theorem dX12_spoils_37 : D1 prog_14_method_7_code 37 (.imul) 38 := ⟨by decide +kernel, rfl⟩
theorem dX12_spoils_38 : Diload prog_14_method_7_code 38 2 39 := Or.inl ⟨2, by decide +kernel, rfl, rfl⟩
theorem dX12_spoils_39 : D1 prog_14_method_7_code 39 (.iadd) 40 := ⟨by decide +kernel, rfl⟩
theorem dX12_spoils_40 : Diload prog_14_method_7_code 40 3 41 := Or.inl ⟨3, by decide +kernel, rfl, rfl⟩
theorem dX12_spoils_41 : D1 prog_14_method_7_code 41 (.iastore) 42 := ⟨by decide +kernel, rfl⟩
theorem dX12_spoils_42 : Dconst prog_14_method_7_code 42 1 43 := Or.inl ⟨1, by decide +kernel, rfl, rfl⟩
theorem dX12_spoils_43 : D1 prog_14_method_7_code 43 (.ireturn) 44 := ⟨by decide +kernel, rfl⟩
theorem dX12_way_0 : Diload prog_14_method_8_code 0 1 1 := Or.inl ⟨1, by decide +kernel, rfl, rfl⟩
theorem dX12_way_1 : D3 prog_14_method_8_code 1 (.invokestatic 119) 4 := ⟨by decide +kernel, rfl⟩
theorem dX12_way_4 : Dj prog_14_method_8_code 4 (.ifCond .eq 25) 25 7 29 := ⟨by decide +kernel, rfl, by decide⟩
theorem dX12_way_7 : Diload prog_14_method_8_code 7 2 8 := Or.inl ⟨2, by decide +kernel, rfl, rfl⟩
theorem dX12_way_8 : D3 prog_14_method_8_code 8 (.invokestatic 119) 11 := ⟨by decide +kernel, rfl⟩
theorem dX12_way_11 : Dj prog_14_method_8_code 11 (.ifCond .eq 18) 18 14 29 := ⟨by decide +kernel, rfl, by decide⟩
theorem dX12_way_14 : Diload prog_14_method_8_code 14 1 15 := Or.inl ⟨1, by decide +kernel, rfl, rfl⟩
theorem dX12_way_15 : Diload prog_14_method_8_code 15 2 16 := Or.inl ⟨2, by decide +kernel, rfl, rfl⟩
theorem dX12_way_16 : Dj prog_14_method_8_code 16 (.if_icmp .eq 13) 13 19 29 := ⟨by decide +kernel, rfl, by decide⟩
theorem dX12_way_19 : Diload prog_14_method_8_code 19 3 20 := Or.inl ⟨3, by decide +kernel, rfl, rfl⟩
theorem dX12_way_20 : Dconst prog_14_method_8_code 20 0 21 := Or.inl ⟨0, by decide +kernel, rfl, rfl⟩
theorem dX12_way_21 : Dconst prog_14_method_8_code 21 30 23 := Or.inr (Or.inl ⟨30, by decide +kernel, rfl, rfl⟩)
theorem dX12_way_23 : D3 prog_14_method_8_code 23 (.invokestatic 115) 26 := ⟨by decide +kernel, rfl⟩
theorem dX12_way_26 : Dj prog_14_method_8_code 26 (.ifCond .ne 5) 5 29 31 := ⟨by decide +kernel, rfl, by decide⟩
theorem dX12_way_29 : Dconst prog_14_method_8_code 29 0 30 := Or.inl ⟨0, by decide +kernel, rfl, rfl⟩
theorem dX12_way_30 : D1 prog_14_method_8_code 30 (.ireturn) 31 := ⟨by decide +kernel, rfl⟩
theorem dX12_way_31 : Daload prog_14_method_8_code 31 0 32 := Or.inl ⟨0, by decide +kernel, rfl, rfl⟩
theorem dX12_way_32 : D3 prog_14_method_8_code 32 (.getfield 19) 35 := ⟨by decide +kernel, rfl⟩
theorem dX12_way_35 : Dconst prog_14_method_8_code 35 8 37 := Or.inr (Or.inl ⟨8, by decide +kernel, rfl, rfl⟩)
theorem dX12_way_37 : Diload prog_14_method_8_code 37 1 38 := Or.inl ⟨1, by decide +kernel, rfl, rfl⟩
theorem dX12_way_38 : D1 prog_14_method_8_code 38 (.imul) 39 := ⟨by decide +kernel, rfl⟩
theorem dX12_way_39 : Diload prog_14_method_8_code 39 2 40 := Or.inl ⟨2, by decide +kernel, rfl, rfl⟩
theorem dX12_way_40 : D1 prog_14_method_8_code 40 (.iadd) 41 := ⟨by decide +kernel, rfl⟩
theorem dX12_way_41 : Diload prog_14_method_8_code 41 3 42 := Or.inl ⟨3, by decide +kernel, rfl, rfl⟩
theorem dX12_way_42 : D1 prog_14_method_8_code 42 (.iastore) 43 := ⟨by decide +kernel, rfl⟩
theorem dX12_way_43 : Daload prog_14_method_8_code 43 0 44 := Or.inl ⟨0, by decide +kernel, rfl, rfl⟩
theorem dX12_way_44 : D3 prog_14_method_8_code 44 (.getfield 19) 47 := ⟨by decide +kernel, rfl⟩
theorem dX12_way_47 : Dconst prog_14_method_8_code 47 8 49 := Or.inr (Or.inl ⟨8, by decide +kernel, rfl, rfl⟩)
theorem dX12_way_49 : Diload prog_14_method_8_code 49 2 50 := Or.inl ⟨2, by decide +kernel, rfl, rfl⟩
theorem dX12_way_50 : D1 prog_14_method_8_code 50 (.imul) 51 := ⟨by decide +kernel, rfl⟩
theorem dX12_way_51 : Diload prog_14_method_8_code 51 1 52 := Or.inl ⟨1, by decide +kernel, rfl, rfl⟩
theorem dX12_way_52 : D1 prog_14_method_8_code 52 (.iadd) 53 := ⟨by decide +kernel, rfl⟩
theorem dX12_way_53 : Diload prog_14_method_8_code 53 3 54 := Or.inl ⟨3, by decide +kernel, rfl, rfl⟩
theorem dX12_way_54 : D1 prog_14_method_8_code 54 (.iastore) 55 := ⟨by decide +kernel, rfl⟩
theorem dX12_way_55 : Dconst prog_14_method_8_code 55 1 56 := Or.inl ⟨1, by decide +kernel, rfl, rfl⟩
theorem dX12_way_56 : D1 prog_14_method_8_code 56 (.ireturn) 57 := ⟨by decide +kernel, rfl⟩
theorem dX12_lag_0 : Diload prog_14_method_9_code 0 1 1 := Or.inl ⟨1, by decide +kernel, rfl, rfl⟩
theorem dX12_lag_1 : D3 prog_14_method_9_code 1 (.invokestatic 119) 4 := ⟨by decide +kernel, rfl⟩
theorem dX12_lag_4 : Dj prog_14_method_9_code 4 (.ifCond .eq 13) 13 7 17 := ⟨by decide +kernel, rfl, by decide⟩
theorem dX12_lag_7 : Diload prog_14_method_9_code 7 2 8 := Or.inl ⟨2, by decide +kernel, rfl, rfl⟩
theorem dX12_lag_8 : Dconst prog_14_method_9_code 8 0 9 := Or.inl ⟨0, by decide +kernel, rfl, rfl⟩
theorem dX12_lag_9 : Dconst prog_14_method_9_code 9 30 11 := Or.inr (Or.inl ⟨30, by decide +kernel, rfl, rfl⟩)
theorem dX12_lag_11 : D3 prog_14_method_9_code 11 (.invokestatic 115) 14 := ⟨by decide +kernel, rfl⟩
theorem dX12_lag_14 : Dj prog_14_method_9_code 14 (.ifCond .ne 5) 5 17 19 := ⟨by decide +kernel, rfl, by decide⟩
theorem dX12_lag_17 : Dconst prog_14_method_9_code 17 0 18 := Or.inl ⟨0, by decide +kernel, rfl, rfl⟩
theorem dX12_lag_18 : D1 prog_14_method_9_code 18 (.ireturn) 19 := ⟨by decide +kernel, rfl⟩
theorem dX12_lag_19 : Daload prog_14_method_9_code 19 0 20 := Or.inl ⟨0, by decide +kernel, rfl, rfl⟩
theorem dX12_lag_20 : D3 prog_14_method_9_code 20 (.getfield 22) 23 := ⟨by decide +kernel, rfl⟩
theorem dX12_lag_23 : Diload prog_14_method_9_code 23 1 24 := Or.inl ⟨1, by decide +kernel, rfl, rfl⟩
theorem dX12_lag_24 : Diload prog_14_method_9_code 24 2 25 := Or.inl ⟨2, by decide +kernel, rfl, rfl⟩
theorem dX12_lag_25 : D1 prog_14_method_9_code 25 (.iastore) 26 := ⟨by decide +kernel, rfl⟩
theorem dX12_lag_26 : Dconst prog_14_method_9_code 26 1 27 := Or.inl ⟨1, by decide +kernel, rfl, rfl⟩
theorem dX12_lag_27 : D1 prog_14_method_9_code 27 (.ireturn) 28 := ⟨by decide +kernel, rfl⟩
theorem dX12_buy_0 : Diload prog_14_method_11_code 0 1 1 := Or.inl ⟨1, by decide +kernel, rfl, rfl⟩
theorem dX12_buy_1 : D3 prog_14_method_11_code 1 (.invokestatic 119) 4 := ⟨by decide +kernel, rfl⟩
theorem dX12_buy_4 : Dj prog_14_method_11_code 4 (.ifCond .eq 64) 64 7 68 := ⟨by decide +kernel, rfl, by decide⟩
theorem dX12_buy_7 : Diload prog_14_method_11_code 7 2 8 := Or.inl ⟨2, by decide +kernel, rfl, rfl⟩
theorem dX12_buy_8 : Dconst prog_14_method_11_code 8 0 9 := Or.inl ⟨0, by decide +kernel, rfl, rfl⟩
theorem dX12_buy_9 : Dconst prog_14_method_11_code 9 9 11 := Or.inr (Or.inl ⟨9, by decide +kernel, rfl, rfl⟩)
theorem dX12_buy_11 : D3 prog_14_method_11_code 11 (.invokestatic 115) 14 := ⟨by decide +kernel, rfl⟩
theorem dX12_buy_14 : Dj prog_14_method_11_code 14 (.ifCond .eq 54) 54 17 68 := ⟨by decide +kernel, rfl, by decide⟩
theorem dX12_buy_17 : Diload prog_14_method_11_code 17 3 18 := Or.inl ⟨3, by decide +kernel, rfl, rfl⟩
theorem dX12_buy_18 : D3 prog_14_method_11_code 18 (.invokestatic 123) 21 := ⟨by decide +kernel, rfl⟩
theorem dX12_buy_21 : Dj prog_14_method_11_code 21 (.ifCond .eq 47) 47 24 68 := ⟨by decide +kernel, rfl, by decide⟩
theorem dX12_buy_24 : Diload prog_14_method_11_code 24 4 26 := Or.inr ⟨by decide +kernel, rfl⟩
theorem dX12_buy_26 : Dconst prog_14_method_11_code 26 1 27 := Or.inl ⟨1, by decide +kernel, rfl, rfl⟩
theorem dX12_buy_27 : Dconst prog_14_method_11_code 27 5000 30 := Or.inr (Or.inr ⟨5000, by decide +kernel, rfl, rfl⟩)
theorem dX12_buy_30 : D3 prog_14_method_11_code 30 (.invokestatic 115) 33 := ⟨by decide +kernel, rfl⟩
theorem dX12_buy_33 : Dj prog_14_method_11_code 33 (.ifCond .eq 35) 35 36 68 := ⟨by decide +kernel, rfl, by decide⟩
theorem dX12_buy_36 : Diload prog_14_method_11_code 36 5 38 := Or.inr ⟨by decide +kernel, rfl⟩
theorem dX12_buy_38 : Dconst prog_14_method_11_code 38 0 39 := Or.inl ⟨0, by decide +kernel, rfl, rfl⟩
theorem dX12_buy_39 : Dconst prog_14_method_11_code 39 7 41 := Or.inr (Or.inl ⟨7, by decide +kernel, rfl, rfl⟩)
theorem dX12_buy_41 : D3 prog_14_method_11_code 41 (.invokestatic 115) 44 := ⟨by decide +kernel, rfl⟩
theorem dX12_buy_44 : Dj prog_14_method_11_code 44 (.ifCond .eq 24) 24 47 68 := ⟨by decide +kernel, rfl, by decide⟩
theorem dX12_buy_47 : Diload prog_14_method_11_code 47 6 49 := Or.inr ⟨by decide +kernel, rfl⟩
theorem dX12_buy_49 : Dconst prog_14_method_11_code 49 0 50 := Or.inl ⟨0, by decide +kernel, rfl, rfl⟩
theorem dX12_buy_50 : D2 prog_14_method_11_code 50 (.ldc 130) 52 := ⟨by decide +kernel, rfl⟩
theorem dX12_buy_52 : D3 prog_14_method_11_code 52 (.invokestatic 115) 55 := ⟨by decide +kernel, rfl⟩
theorem dX12_buy_55 : Dj prog_14_method_11_code 55 (.ifCond .eq 13) 13 58 68 := ⟨by decide +kernel, rfl, by decide⟩
theorem dX12_buy_58 : Daload prog_14_method_11_code 58 0 59 := Or.inl ⟨0, by decide +kernel, rfl, rfl⟩
theorem dX12_buy_59 : D3 prog_14_method_11_code 59 (.getfield 126) 62 := ⟨by decide +kernel, rfl⟩
theorem dX12_buy_62 : Dconst prog_14_method_11_code 62 300 65 := Or.inr (Or.inr ⟨300, by decide +kernel, rfl, rfl⟩)
theorem dX12_buy_65 : Dj prog_14_method_11_code 65 (.if_icmp .ne 5) 5 68 70 := ⟨by decide +kernel, rfl, by decide⟩
theorem dX12_buy_68 : Dconst prog_14_method_11_code 68 (-1) 69 := Or.inl ⟨(-1), by decide +kernel, rfl, rfl⟩
theorem dX12_buy_69 : D1 prog_14_method_11_code 69 (.ireturn) 70 := ⟨by decide +kernel, rfl⟩
theorem dX12_buy_70 : Daload prog_14_method_11_code 70 0 71 := Or.inl ⟨0, by decide +kernel, rfl, rfl⟩
theorem dX12_buy_71 : Diload prog_14_method_11_code 71 2 72 := Or.inl ⟨2, by decide +kernel, rfl, rfl⟩
theorem dX12_buy_72 : Diload prog_14_method_11_code 72 3 73 := Or.inl ⟨3, by decide +kernel, rfl, rfl⟩
theorem dX12_buy_73 : Daload prog_14_method_11_code 73 0 74 := Or.inl ⟨0, by decide +kernel, rfl, rfl⟩
theorem dX12_buy_74 : D3 prog_14_method_11_code 74 (.getfield 131) 77 := ⟨by decide +kernel, rfl⟩
theorem dX12_buy_77 : Diload prog_14_method_11_code 77 4 79 := Or.inr ⟨by decide +kernel, rfl⟩
theorem dX12_buy_79 : Diload prog_14_method_11_code 79 1 80 := Or.inl ⟨1, by decide +kernel, rfl, rfl⟩
theorem dX12_buy_80 : Dconst prog_14_method_11_code 80 (-1) 81 := Or.inl ⟨(-1), by decide +kernel, rfl, rfl⟩
theorem dX12_buy_81 : Diload prog_14_method_11_code 81 5 83 := Or.inr ⟨by decide +kernel, rfl⟩
theorem dX12_buy_83 : Dconst prog_14_method_11_code 83 (-1) 84 := Or.inl ⟨(-1), by decide +kernel, rfl, rfl⟩
theorem dX12_buy_84 : D3 prog_14_method_11_code 84 (.invokevirtual 134) 87 := ⟨by decide +kernel, rfl⟩
theorem dX12_buy_87 : Distore prog_14_method_11_code 87 7 89 := Or.inr ⟨by decide +kernel, rfl⟩
theorem dX12_buy_89 : Daload prog_14_method_11_code 89 0 90 := Or.inl ⟨0, by decide +kernel, rfl, rfl⟩
theorem dX12_buy_90 : D3 prog_14_method_11_code 90 (.getfield 52) 93 := ⟨by decide +kernel, rfl⟩
theorem dX12_buy_93 : Diload prog_14_method_11_code 93 7 95 := Or.inr ⟨by decide +kernel, rfl⟩
theorem dX12_buy_95 : Diload prog_14_method_11_code 95 6 97 := Or.inr ⟨by decide +kernel, rfl⟩
theorem dX12_buy_97 : D1 prog_14_method_11_code 97 (.iastore) 98 := ⟨by decide +kernel, rfl⟩
theorem dX12_buy_98 : Daload prog_14_method_11_code 98 0 99 := Or.inl ⟨0, by decide +kernel, rfl, rfl⟩
theorem dX12_buy_99 : D1 prog_14_method_11_code 99 (.dup) 100 := ⟨by decide +kernel, rfl⟩
theorem dX12_buy_100 : D3 prog_14_method_11_code 100 (.getfield 138) 103 := ⟨by decide +kernel, rfl⟩
theorem dX12_buy_103 : Diload prog_14_method_11_code 103 4 105 := Or.inr ⟨by decide +kernel, rfl⟩
theorem dX12_buy_105 : D1 prog_14_method_11_code 105 (.iadd) 106 := ⟨by decide +kernel, rfl⟩
theorem dX12_buy_106 : D3 prog_14_method_11_code 106 (.putfield 138) 109 := ⟨by decide +kernel, rfl⟩
theorem dX12_buy_109 : Diload prog_14_method_11_code 109 7 111 := Or.inr ⟨by decide +kernel, rfl⟩
theorem dX12_buy_111 : D1 prog_14_method_11_code 111 (.ireturn) 112 := ⟨by decide +kernel, rfl⟩
theorem dX12_addLot_0 : Daload prog_14_method_10_code 0 0 1 := Or.inl ⟨0, by decide +kernel, rfl, rfl⟩
theorem dX12_addLot_1 : D3 prog_14_method_10_code 1 (.getfield 126) 4 := ⟨by decide +kernel, rfl⟩
theorem dX12_addLot_4 : Distore prog_14_method_10_code 4 9 6 := Or.inr ⟨by decide +kernel, rfl⟩
theorem dX12_addLot_6 : Daload prog_14_method_10_code 6 0 7 := Or.inl ⟨0, by decide +kernel, rfl, rfl⟩
theorem dX12_addLot_7 : D1 prog_14_method_10_code 7 (.dup) 8 := ⟨by decide +kernel, rfl⟩
theorem dX12_addLot_8 : D3 prog_14_method_10_code 8 (.getfield 126) 11 := ⟨by decide +kernel, rfl⟩
theorem dX12_addLot_11 : Dconst prog_14_method_10_code 11 1 12 := Or.inl ⟨1, by decide +kernel, rfl, rfl⟩
theorem dX12_addLot_12 : D1 prog_14_method_10_code 12 (.iadd) 13 := ⟨by decide +kernel, rfl⟩
theorem dX12_addLot_13 : D3 prog_14_method_10_code 13 (.putfield 126) 16 := ⟨by decide +kernel, rfl⟩
theorem dX12_addLot_16 : Daload prog_14_method_10_code 16 0 17 := Or.inl ⟨0, by decide +kernel, rfl, rfl⟩
theorem dX12_addLot_17 : D3 prog_14_method_10_code 17 (.getfield 25) 20 := ⟨by decide +kernel, rfl⟩
theorem dX12_addLot_20 : Diload prog_14_method_10_code 20 9 22 := Or.inr ⟨by decide +kernel, rfl⟩
theorem dX12_addLot_22 : Diload prog_14_method_10_code 22 1 23 := Or.inl ⟨1, by decide +kernel, rfl, rfl⟩
theorem dX12_addLot_23 : D1 prog_14_method_10_code 23 (.iastore) 24 := ⟨by decide +kernel, rfl⟩
theorem dX12_addLot_24 : Daload prog_14_method_10_code 24 0 25 := Or.inl ⟨0, by decide +kernel, rfl, rfl⟩
theorem dX12_addLot_25 : D3 prog_14_method_10_code 25 (.getfield 28) 28 := ⟨by decide +kernel, rfl⟩
theorem dX12_addLot_28 : Diload prog_14_method_10_code 28 9 30 := Or.inr ⟨by decide +kernel, rfl⟩
theorem dX12_addLot_30 : Diload prog_14_method_10_code 30 2 31 := Or.inl ⟨2, by decide +kernel, rfl, rfl⟩
theorem dX12_addLot_31 : D1 prog_14_method_10_code 31 (.iastore) 32 := ⟨by decide +kernel, rfl⟩
theorem dX12_addLot_32 : Daload prog_14_method_10_code 32 0 33 := Or.inl ⟨0, by decide +kernel, rfl, rfl⟩
theorem dX12_addLot_33 : D3 prog_14_method_10_code 33 (.getfield 31) 36 := ⟨by decide +kernel, rfl⟩
theorem dX12_addLot_36 : Diload prog_14_method_10_code 36 9 38 := Or.inr ⟨by decide +kernel, rfl⟩
theorem dX12_addLot_38 : Diload prog_14_method_10_code 38 3 39 := Or.inl ⟨3, by decide +kernel, rfl, rfl⟩
theorem dX12_addLot_39 : D1 prog_14_method_10_code 39 (.iastore) 40 := ⟨by decide +kernel, rfl⟩
theorem dX12_addLot_40 : Daload prog_14_method_10_code 40 0 41 := Or.inl ⟨0, by decide +kernel, rfl, rfl⟩
theorem dX12_addLot_41 : D3 prog_14_method_10_code 41 (.getfield 34) 44 := ⟨by decide +kernel, rfl⟩
theorem dX12_addLot_44 : Diload prog_14_method_10_code 44 9 46 := Or.inr ⟨by decide +kernel, rfl⟩
theorem dX12_addLot_46 : Diload prog_14_method_10_code 46 4 48 := Or.inr ⟨by decide +kernel, rfl⟩
theorem dX12_addLot_48 : D1 prog_14_method_10_code 48 (.iastore) 49 := ⟨by decide +kernel, rfl⟩
theorem dX12_addLot_49 : Daload prog_14_method_10_code 49 0 50 := Or.inl ⟨0, by decide +kernel, rfl, rfl⟩
theorem dX12_addLot_50 : D3 prog_14_method_10_code 50 (.getfield 37) 53 := ⟨by decide +kernel, rfl⟩
theorem dX12_addLot_53 : Diload prog_14_method_10_code 53 9 55 := Or.inr ⟨by decide +kernel, rfl⟩
theorem dX12_addLot_55 : Diload prog_14_method_10_code 55 5 57 := Or.inr ⟨by decide +kernel, rfl⟩
theorem dX12_addLot_57 : D1 prog_14_method_10_code 57 (.iastore) 58 := ⟨by decide +kernel, rfl⟩
theorem dX12_addLot_58 : Daload prog_14_method_10_code 58 0 59 := Or.inl ⟨0, by decide +kernel, rfl, rfl⟩
theorem dX12_addLot_59 : D3 prog_14_method_10_code 59 (.getfield 40) 62 := ⟨by decide +kernel, rfl⟩
theorem dX12_addLot_62 : Diload prog_14_method_10_code 62 9 64 := Or.inr ⟨by decide +kernel, rfl⟩
theorem dX12_addLot_64 : Diload prog_14_method_10_code 64 6 66 := Or.inr ⟨by decide +kernel, rfl⟩
theorem dX12_addLot_66 : D1 prog_14_method_10_code 66 (.iastore) 67 := ⟨by decide +kernel, rfl⟩
theorem dX12_addLot_67 : Daload prog_14_method_10_code 67 0 68 := Or.inl ⟨0, by decide +kernel, rfl, rfl⟩
theorem dX12_addLot_68 : D3 prog_14_method_10_code 68 (.getfield 43) 71 := ⟨by decide +kernel, rfl⟩
theorem dX12_addLot_71 : Diload prog_14_method_10_code 71 9 73 := Or.inr ⟨by decide +kernel, rfl⟩
theorem dX12_addLot_73 : Diload prog_14_method_10_code 73 7 75 := Or.inr ⟨by decide +kernel, rfl⟩
theorem dX12_addLot_75 : D1 prog_14_method_10_code 75 (.iastore) 76 := ⟨by decide +kernel, rfl⟩
theorem dX12_addLot_76 : Daload prog_14_method_10_code 76 0 77 := Or.inl ⟨0, by decide +kernel, rfl, rfl⟩
theorem dX12_addLot_77 : D3 prog_14_method_10_code 77 (.getfield 46) 80 := ⟨by decide +kernel, rfl⟩
theorem dX12_addLot_80 : Diload prog_14_method_10_code 80 9 82 := Or.inr ⟨by decide +kernel, rfl⟩
theorem dX12_addLot_82 : Diload prog_14_method_10_code 82 8 84 := Or.inr ⟨by decide +kernel, rfl⟩
theorem dX12_addLot_84 : Dconst prog_14_method_10_code 84 (-1) 85 := Or.inl ⟨(-1), by decide +kernel, rfl, rfl⟩
theorem dX12_addLot_85 : Dj prog_14_method_10_code 85 (.if_icmp .ne 8) 8 88 93 := ⟨by decide +kernel, rfl, by decide⟩
theorem dX12_addLot_88 : Diload prog_14_method_10_code 88 9 90 := Or.inr ⟨by decide +kernel, rfl⟩
theorem dX12_addLot_90 : Dj prog_14_method_10_code 90 (.goto 5) 5 93 95 := ⟨by decide +kernel, rfl, by decide⟩
theorem dX12_addLot_93 : Diload prog_14_method_10_code 93 8 95 := Or.inr ⟨by decide +kernel, rfl⟩
theorem dX12_addLot_95 : D1 prog_14_method_10_code 95 (.iastore) 96 := ⟨by decide +kernel, rfl⟩
theorem dX12_addLot_96 : Daload prog_14_method_10_code 96 0 97 := Or.inl ⟨0, by decide +kernel, rfl, rfl⟩
theorem dX12_addLot_97 : D3 prog_14_method_10_code 97 (.getfield 49) 100 := ⟨by decide +kernel, rfl⟩
theorem dX12_addLot_100 : Diload prog_14_method_10_code 100 9 102 := Or.inr ⟨by decide +kernel, rfl⟩
theorem dX12_addLot_102 : Diload prog_14_method_10_code 102 4 104 := Or.inr ⟨by decide +kernel, rfl⟩
theorem dX12_addLot_104 : D1 prog_14_method_10_code 104 (.iastore) 105 := ⟨by decide +kernel, rfl⟩
theorem dX12_addLot_105 : Daload prog_14_method_10_code 105 0 106 := Or.inl ⟨0, by decide +kernel, rfl, rfl⟩
theorem dX12_addLot_106 : D3 prog_14_method_10_code 106 (.getfield 55) 109 := ⟨by decide +kernel, rfl⟩
theorem dX12_addLot_109 : Diload prog_14_method_10_code 109 9 111 := Or.inr ⟨by decide +kernel, rfl⟩
theorem dX12_addLot_111 : Dconst prog_14_method_10_code 111 (-1) 112 := Or.inl ⟨(-1), by decide +kernel, rfl, rfl⟩
theorem dX12_addLot_112 : D1 prog_14_method_10_code 112 (.iastore) 113 := ⟨by decide +kernel, rfl⟩
theorem dX12_addLot_113 : Diload prog_14_method_10_code 113 9 115 := Or.inr ⟨by decide +kernel, rfl⟩
theorem dX12_addLot_115 : D1 prog_14_method_10_code 115 (.ireturn) 116 := ⟨by decide +kernel, rfl⟩
theorem dX12_send_0 : Daload prog_14_method_13_code 0 0 1 := Or.inl ⟨0, by decide +kernel, rfl, rfl⟩
theorem dX12_send_1 : Diload prog_14_method_13_code 1 1 2 := Or.inl ⟨1, by decide +kernel, rfl, rfl⟩
theorem dX12_send_2 : D3 prog_14_method_13_code 2 (.invokevirtual 141) 5 := ⟨by decide +kernel, rfl⟩
theorem dX12_send_5 : Dj prog_14_method_13_code 5 (.ifCond .eq 55) 55 8 60 := ⟨by decide +kernel, rfl, by decide⟩
theorem dX12_send_8 : Daload prog_14_method_13_code 8 0 9 := Or.inl ⟨0, by decide +kernel, rfl, rfl⟩
theorem dX12_send_9 : D3 prog_14_method_13_code 9 (.getfield 40) 12 := ⟨by decide +kernel, rfl⟩
theorem dX12_send_12 : Diload prog_14_method_13_code 12 1 13 := Or.inl ⟨1, by decide +kernel, rfl, rfl⟩
theorem dX12_send_13 : D1 prog_14_method_13_code 13 (.iaload) 14 := ⟨by decide +kernel, rfl⟩
theorem dX12_send_14 : Dconst prog_14_method_13_code 14 (-1) 15 := Or.inl ⟨(-1), by decide +kernel, rfl, rfl⟩
theorem dX12_send_15 : Dj prog_14_method_13_code 15 (.if_icmp .ne 45) 45 18 60 := ⟨by decide +kernel, rfl, by decide⟩
theorem dX12_send_18 : Diload prog_14_method_13_code 18 3 19 := Or.inl ⟨3, by decide +kernel, rfl, rfl⟩
theorem dX12_send_19 : Dconst prog_14_method_13_code 19 1 20 := Or.inl ⟨1, by decide +kernel, rfl, rfl⟩
theorem dX12_send_20 : Dj prog_14_method_13_code 20 (.if_icmp .lt 40) 40 23 60 := ⟨by decide +kernel, rfl, by decide⟩
theorem dX12_send_23 : Diload prog_14_method_13_code 23 3 24 := Or.inl ⟨3, by decide +kernel, rfl, rfl⟩
theorem dX12_send_24 : Daload prog_14_method_13_code 24 0 25 := Or.inl ⟨0, by decide +kernel, rfl, rfl⟩
theorem dX12_send_25 : D3 prog_14_method_13_code 25 (.getfield 34) 28 := ⟨by decide +kernel, rfl⟩
theorem dX12_send_28 : Diload prog_14_method_13_code 28 1 29 := Or.inl ⟨1, by decide +kernel, rfl, rfl⟩
theorem dX12_send_29 : D1 prog_14_method_13_code 29 (.iaload) 30 := ⟨by decide +kernel, rfl⟩
theorem dX12_send_30 : Dj prog_14_method_13_code 30 (.if_icmp .gt 30) 30 33 60 := ⟨by decide +kernel, rfl, by decide⟩
theorem dX12_send_33 : Diload prog_14_method_13_code 33 2 34 := Or.inl ⟨2, by decide +kernel, rfl, rfl⟩
theorem dX12_send_34 : D3 prog_14_method_13_code 34 (.invokestatic 119) 37 := ⟨by decide +kernel, rfl⟩
theorem dX12_send_37 : Dj prog_14_method_13_code 37 (.ifCond .eq 23) 23 40 60 := ⟨by decide +kernel, rfl, by decide⟩
theorem dX12_send_40 : Diload prog_14_method_13_code 40 2 41 := Or.inl ⟨2, by decide +kernel, rfl, rfl⟩
theorem dX12_send_41 : Daload prog_14_method_13_code 41 0 42 := Or.inl ⟨0, by decide +kernel, rfl, rfl⟩
theorem dX12_send_42 : D3 prog_14_method_13_code 42 (.getfield 37) 45 := ⟨by decide +kernel, rfl⟩
theorem dX12_send_45 : Diload prog_14_method_13_code 45 1 46 := Or.inl ⟨1, by decide +kernel, rfl, rfl⟩
theorem dX12_send_46 : D1 prog_14_method_13_code 46 (.iaload) 47 := ⟨by decide +kernel, rfl⟩
theorem dX12_send_47 : Dj prog_14_method_13_code 47 (.if_icmp .eq 13) 13 50 60 := ⟨by decide +kernel, rfl, by decide⟩
theorem dX12_send_50 : Daload prog_14_method_13_code 50 0 51 := Or.inl ⟨0, by decide +kernel, rfl, rfl⟩
theorem dX12_send_51 : D3 prog_14_method_13_code 51 (.getfield 126) 54 := ⟨by decide +kernel, rfl⟩
theorem dX12_send_54 : Dconst prog_14_method_13_code 54 300 57 := Or.inr (Or.inr ⟨300, by decide +kernel, rfl, rfl⟩)
theorem dX12_send_57 : Dj prog_14_method_13_code 57 (.if_icmp .ne 5) 5 60 62 := ⟨by decide +kernel, rfl, by decide⟩
theorem dX12_send_60 : Dconst prog_14_method_13_code 60 (-1) 61 := Or.inl ⟨(-1), by decide +kernel, rfl, rfl⟩
theorem dX12_send_61 : D1 prog_14_method_13_code 61 (.ireturn) 62 := ⟨by decide +kernel, rfl⟩
theorem dX12_send_62 : Daload prog_14_method_13_code 62 0 63 := Or.inl ⟨0, by decide +kernel, rfl, rfl⟩
theorem dX12_send_63 : D3 prog_14_method_13_code 63 (.getfield 34) 66 := ⟨by decide +kernel, rfl⟩
theorem dX12_send_66 : Diload prog_14_method_13_code 66 1 67 := Or.inl ⟨1, by decide +kernel, rfl, rfl⟩
theorem dX12_send_67 : D1 prog_14_method_13_code 67 (.dup2) 68 := ⟨by decide +kernel, rfl⟩
theorem dX12_send_68 : D1 prog_14_method_13_code 68 (.iaload) 69 := ⟨by decide +kernel, rfl⟩
theorem dX12_send_69 : Diload prog_14_method_13_code 69 3 70 := Or.inl ⟨3, by decide +kernel, rfl, rfl⟩
theorem dX12_send_70 : D1 prog_14_method_13_code 70 (.isub) 71 := ⟨by decide +kernel, rfl⟩
theorem dX12_send_71 : D1 prog_14_method_13_code 71 (.iastore) 72 := ⟨by decide +kernel, rfl⟩
theorem dX12_send_72 : Daload prog_14_method_13_code 72 0 73 := Or.inl ⟨0, by decide +kernel, rfl, rfl⟩
theorem dX12_send_73 : Daload prog_14_method_13_code 73 0 74 := Or.inl ⟨0, by decide +kernel, rfl, rfl⟩
theorem dX12_send_74 : D3 prog_14_method_13_code 74 (.getfield 25) 77 := ⟨by decide +kernel, rfl⟩
theorem dX12_send_77 : Diload prog_14_method_13_code 77 1 78 := Or.inl ⟨1, by decide +kernel, rfl, rfl⟩
theorem dX12_send_78 : D1 prog_14_method_13_code 78 (.iaload) 79 := ⟨by decide +kernel, rfl⟩
theorem dX12_send_79 : Daload prog_14_method_13_code 79 0 80 := Or.inl ⟨0, by decide +kernel, rfl, rfl⟩
theorem dX12_send_80 : D3 prog_14_method_13_code 80 (.getfield 28) 83 := ⟨by decide +kernel, rfl⟩
theorem dX12_send_83 : Diload prog_14_method_13_code 83 1 84 := Or.inl ⟨1, by decide +kernel, rfl, rfl⟩
theorem dX12_send_84 : D1 prog_14_method_13_code 84 (.iaload) 85 := ⟨by decide +kernel, rfl⟩
theorem dX12_send_85 : Daload prog_14_method_13_code 85 0 86 := Or.inl ⟨0, by decide +kernel, rfl, rfl⟩
theorem dX12_send_86 : D3 prog_14_method_13_code 86 (.getfield 31) 89 := ⟨by decide +kernel, rfl⟩
theorem dX12_send_89 : Diload prog_14_method_13_code 89 1 90 := Or.inl ⟨1, by decide +kernel, rfl, rfl⟩
theorem dX12_send_90 : D1 prog_14_method_13_code 90 (.iaload) 91 := ⟨by decide +kernel, rfl⟩
theorem dX12_send_91 : Diload prog_14_method_13_code 91 3 92 := Or.inl ⟨3, by decide +kernel, rfl, rfl⟩
theorem dX12_send_92 : Diload prog_14_method_13_code 92 2 93 := Or.inl ⟨2, by decide +kernel, rfl, rfl⟩
theorem dX12_send_93 : Daload prog_14_method_13_code 93 0 94 := Or.inl ⟨0, by decide +kernel, rfl, rfl⟩
theorem dX12_send_94 : D3 prog_14_method_13_code 94 (.getfield 131) 97 := ⟨by decide +kernel, rfl⟩
theorem dX12_send_97 : Daload prog_14_method_13_code 97 0 98 := Or.inl ⟨0, by decide +kernel, rfl, rfl⟩
theorem dX12_send_98 : D3 prog_14_method_13_code 98 (.getfield 19) 101 := ⟨by decide +kernel, rfl⟩
theorem dX12_send_101 : Dconst prog_14_method_13_code 101 8 103 := Or.inr (Or.inl ⟨8, by decide +kernel, rfl, rfl⟩)
theorem dX12_send_103 : Daload prog_14_method_13_code 103 0 104 := Or.inl ⟨0, by decide +kernel, rfl, rfl⟩
theorem dX12_send_104 : D3 prog_14_method_13_code 104 (.getfield 37) 107 := ⟨by decide +kernel, rfl⟩
theorem dX12_send_107 : Diload prog_14_method_13_code 107 1 108 := Or.inl ⟨1, by decide +kernel, rfl, rfl⟩
theorem dX12_send_108 : D1 prog_14_method_13_code 108 (.iaload) 109 := ⟨by decide +kernel, rfl⟩
theorem dX12_send_109 : D1 prog_14_method_13_code 109 (.imul) 110 := ⟨by decide +kernel, rfl⟩
theorem dX12_send_110 : Diload prog_14_method_13_code 110 2 111 := Or.inl ⟨2, by decide +kernel, rfl, rfl⟩
theorem dX12_send_111 : D1 prog_14_method_13_code 111 (.iadd) 112 := ⟨by decide +kernel, rfl⟩
theorem dX12_send_112 : D1 prog_14_method_13_code 112 (.iaload) 113 := ⟨by decide +kernel, rfl⟩
theorem dX12_send_113 : D1 prog_14_method_13_code 113 (.iadd) 114 := ⟨by decide +kernel, rfl⟩
theorem dX12_send_114 : Daload prog_14_method_13_code 114 0 115 := Or.inl ⟨0, by decide +kernel, rfl, rfl⟩
theorem dX12_send_115 : D3 prog_14_method_13_code 115 (.getfield 43) 118 := ⟨by decide +kernel, rfl⟩
theorem dX12_send_118 : Diload prog_14_method_13_code 118 1 119 := Or.inl ⟨1, by decide +kernel, rfl, rfl⟩
theorem dX12_send_119 : D1 prog_14_method_13_code 119 (.iaload) 120 := ⟨by decide +kernel, rfl⟩
theorem dX12_send_120 : Daload prog_14_method_13_code 120 0 121 := Or.inl ⟨0, by decide +kernel, rfl, rfl⟩
theorem dX12_send_121 : D3 prog_14_method_13_code 121 (.getfield 46) 124 := ⟨by decide +kernel, rfl⟩
theorem dX12_send_124 : Diload prog_14_method_13_code 124 1 125 := Or.inl ⟨1, by decide +kernel, rfl, rfl⟩
theorem dX12_send_125 : D1 prog_14_method_13_code 125 (.iaload) 126 := ⟨by decide +kernel, rfl⟩
theorem dX12_send_126 : D3 prog_14_method_13_code 126 (.invokevirtual 134) 129 := ⟨by decide +kernel, rfl⟩
theorem dX12_send_129 : D1 prog_14_method_13_code 129 (.ireturn) 130 := ⟨by decide +kernel, rfl⟩
theorem dX12_isLot_0 : Diload prog_14_method_12_code 0 1 1 := Or.inl ⟨1, by decide +kernel, rfl, rfl⟩
theorem dX12_isLot_1 : Dconst prog_14_method_12_code 1 0 2 := Or.inl ⟨0, by decide +kernel, rfl, rfl⟩
theorem dX12_isLot_2 : Daload prog_14_method_12_code 2 0 3 := Or.inl ⟨0, by decide +kernel, rfl, rfl⟩
theorem dX12_isLot_3 : D3 prog_14_method_12_code 3 (.getfield 126) 6 := ⟨by decide +kernel, rfl⟩
theorem dX12_isLot_6 : Dconst prog_14_method_12_code 6 1 7 := Or.inl ⟨1, by decide +kernel, rfl, rfl⟩
theorem dX12_isLot_7 : D1 prog_14_method_12_code 7 (.isub) 8 := ⟨by decide +kernel, rfl⟩
theorem dX12_isLot_8 : D3 prog_14_method_12_code 8 (.invokestatic 115) 11 := ⟨by decide +kernel, rfl⟩
theorem dX12_isLot_11 : D1 prog_14_method_12_code 11 (.ireturn) 12 := ⟨by decide +kernel, rfl⟩
theorem dX12_week_0 : Daload prog_14_method_17_code 0 0 1 := Or.inl ⟨0, by decide +kernel, rfl, rfl⟩
theorem dX12_week_1 : D3 prog_14_method_17_code 1 (.getfield 131) 4 := ⟨by decide +kernel, rfl⟩
theorem dX12_week_4 : Dconst prog_14_method_17_code 4 200 7 := Or.inr (Or.inr ⟨200, by decide +kernel, rfl, rfl⟩)
theorem dX12_week_7 : Dj prog_14_method_17_code 7 (.if_icmp .ne 5) 5 10 12 := ⟨by decide +kernel, rfl, by decide⟩
theorem dX12_week_10 : Dconst prog_14_method_17_code 10 (-1) 11 := Or.inl ⟨(-1), by decide +kernel, rfl, rfl⟩
theorem dX12_week_11 : D1 prog_14_method_17_code 11 (.ireturn) 12 := ⟨by decide +kernel, rfl⟩
theorem dX12_week_12 : Dconst prog_14_method_17_code 12 0 13 := Or.inl ⟨0, by decide +kernel, rfl, rfl⟩
theorem dX12_week_13 : Distore prog_14_method_17_code 13 1 14 := Or.inl ⟨1, by decide +kernel, rfl, rfl⟩
theorem dX12_week_14 : Diload prog_14_method_17_code 14 1 15 := Or.inl ⟨1, by decide +kernel, rfl, rfl⟩
theorem dX12_week_15 : Daload prog_14_method_17_code 15 0 16 := Or.inl ⟨0, by decide +kernel, rfl, rfl⟩
theorem dX12_week_16 : D3 prog_14_method_17_code 16 (.getfield 126) 19 := ⟨by decide +kernel, rfl⟩
theorem dX12_week_19 : Dj prog_14_method_17_code 19 (.if_icmp .ge 111) 111 22 130 := ⟨by decide +kernel, rfl, by decide⟩
theorem dX12_week_22 : Daload prog_14_method_17_code 22 0 23 := Or.inl ⟨0, by decide +kernel, rfl, rfl⟩
theorem dX12_week_23 : D3 prog_14_method_17_code 23 (.getfield 40) 26 := ⟨by decide +kernel, rfl⟩
theorem dX12_week_26 : Diload prog_14_method_17_code 26 1 27 := Or.inl ⟨1, by decide +kernel, rfl, rfl⟩
theorem dX12_week_27 : D1 prog_14_method_17_code 27 (.iaload) 28 := ⟨by decide +kernel, rfl⟩
theorem dX12_week_28 : Dconst prog_14_method_17_code 28 (-1) 29 := Or.inl ⟨(-1), by decide +kernel, rfl, rfl⟩
theorem dX12_week_29 : Dj prog_14_method_17_code 29 (.if_icmp .eq 23) 23 32 52 := ⟨by decide +kernel, rfl, by decide⟩
theorem dX12_week_32 : Daload prog_14_method_17_code 32 0 33 := Or.inl ⟨0, by decide +kernel, rfl, rfl⟩
theorem dX12_week_33 : D3 prog_14_method_17_code 33 (.getfield 40) 36 := ⟨by decide +kernel, rfl⟩
theorem dX12_week_36 : Diload prog_14_method_17_code 36 1 37 := Or.inl ⟨1, by decide +kernel, rfl, rfl⟩
theorem dX12_week_37 : D1 prog_14_method_17_code 37 (.iaload) 38 := ⟨by decide +kernel, rfl⟩
theorem dX12_week_38 : Daload prog_14_method_17_code 38 0 39 := Or.inl ⟨0, by decide +kernel, rfl, rfl⟩
theorem dX12_week_39 : D3 prog_14_method_17_code 39 (.getfield 131) 42 := ⟨by decide +kernel, rfl⟩
theorem dX12_week_42 : Dj prog_14_method_17_code 42 (.if_icmp .gt 10) 10 45 52 := ⟨by decide +kernel, rfl, by decide⟩
theorem dX12_week_45 : Daload prog_14_method_17_code 45 0 46 := Or.inl ⟨0, by decide +kernel, rfl, rfl⟩
theorem dX12_week_46 : D3 prog_14_method_17_code 46 (.getfield 40) 49 := ⟨by decide +kernel, rfl⟩
theorem dX12_week_49 : Diload prog_14_method_17_code 49 1 50 := Or.inl ⟨1, by decide +kernel, rfl, rfl⟩
theorem dX12_week_50 : Dconst prog_14_method_17_code 50 (-1) 51 := Or.inl ⟨(-1), by decide +kernel, rfl, rfl⟩
theorem dX12_week_51 : D1 prog_14_method_17_code 51 (.iastore) 52 := ⟨by decide +kernel, rfl⟩
theorem dX12_week_52 : Daload prog_14_method_17_code 52 0 53 := Or.inl ⟨0, by decide +kernel, rfl, rfl⟩
theorem dX12_week_53 : D3 prog_14_method_17_code 53 (.getfield 34) 56 := ⟨by decide +kernel, rfl⟩
theorem dX12_week_56 : Diload prog_14_method_17_code 56 1 57 := Or.inl ⟨1, by decide +kernel, rfl, rfl⟩
theorem dX12_week_57 : D1 prog_14_method_17_code 57 (.iaload) 58 := ⟨by decide +kernel, rfl⟩
theorem dX12_week_58 : Daload prog_14_method_17_code 58 0 59 := Or.inl ⟨0, by decide +kernel, rfl, rfl⟩
theorem dX12_week_59 : Daload prog_14_method_17_code 59 0 60 := Or.inl ⟨0, by decide +kernel, rfl, rfl⟩
theorem dX12_week_60 : D3 prog_14_method_17_code 60 (.getfield 28) 63 := ⟨by decide +kernel, rfl⟩
theorem dX12_week_63 : Diload prog_14_method_17_code 63 1 64 := Or.inl ⟨1, by decide +kernel, rfl, rfl⟩
theorem dX12_week_64 : D1 prog_14_method_17_code 64 (.iaload) 65 := ⟨by decide +kernel, rfl⟩
theorem dX12_week_65 : Daload prog_14_method_17_code 65 0 66 := Or.inl ⟨0, by decide +kernel, rfl, rfl⟩
theorem dX12_week_66 : D3 prog_14_method_17_code 66 (.getfield 131) 69 := ⟨by decide +kernel, rfl⟩
theorem dX12_week_69 : Daload prog_14_method_17_code 69 0 70 := Or.inl ⟨0, by decide +kernel, rfl, rfl⟩
theorem dX12_week_70 : D3 prog_14_method_17_code 70 (.getfield 31) 73 := ⟨by decide +kernel, rfl⟩
theorem dX12_week_73 : Diload prog_14_method_17_code 73 1 74 := Or.inl ⟨1, by decide +kernel, rfl, rfl⟩
theorem dX12_week_74 : D1 prog_14_method_17_code 74 (.iaload) 75 := ⟨by decide +kernel, rfl⟩
theorem dX12_week_75 : Daload prog_14_method_17_code 75 0 76 := Or.inl ⟨0, by decide +kernel, rfl, rfl⟩
theorem dX12_week_76 : D3 prog_14_method_17_code 76 (.getfield 40) 79 := ⟨by decide +kernel, rfl⟩
theorem dX12_week_79 : Diload prog_14_method_17_code 79 1 80 := Or.inl ⟨1, by decide +kernel, rfl, rfl⟩
theorem dX12_week_80 : D1 prog_14_method_17_code 80 (.iaload) 81 := ⟨by decide +kernel, rfl⟩
theorem dX12_week_81 : Dconst prog_14_method_17_code 81 (-1) 82 := Or.inl ⟨(-1), by decide +kernel, rfl, rfl⟩
theorem dX12_week_82 : Dj prog_14_method_17_code 82 (.if_icmp .eq 7) 7 85 89 := ⟨by decide +kernel, rfl, by decide⟩
theorem dX12_week_85 : Dconst prog_14_method_17_code 85 1 86 := Or.inl ⟨1, by decide +kernel, rfl, rfl⟩
theorem dX12_week_86 : Dj prog_14_method_17_code 86 (.goto 4) 4 89 90 := ⟨by decide +kernel, rfl, by decide⟩
theorem dX12_week_89 : Dconst prog_14_method_17_code 89 0 90 := Or.inl ⟨0, by decide +kernel, rfl, rfl⟩
theorem dX12_week_90 : D3 prog_14_method_17_code 90 (.invokevirtual 150) 93 := ⟨by decide +kernel, rfl⟩
theorem dX12_week_93 : D1 prog_14_method_17_code 93 (.imul) 94 := ⟨by decide +kernel, rfl⟩
theorem dX12_week_94 : Dconst prog_14_method_17_code 94 1000 97 := Or.inr (Or.inr ⟨1000, by decide +kernel, rfl, rfl⟩)
theorem dX12_week_97 : D1 prog_14_method_17_code 97 (.idiv) 98 := ⟨by decide +kernel, rfl⟩
theorem dX12_week_98 : Distore prog_14_method_17_code 98 2 99 := Or.inl ⟨2, by decide +kernel, rfl, rfl⟩
theorem dX12_week_99 : Daload prog_14_method_17_code 99 0 100 := Or.inl ⟨0, by decide +kernel, rfl, rfl⟩
theorem dX12_week_100 : D3 prog_14_method_17_code 100 (.getfield 34) 103 := ⟨by decide +kernel, rfl⟩
theorem dX12_week_103 : Diload prog_14_method_17_code 103 1 104 := Or.inl ⟨1, by decide +kernel, rfl, rfl⟩
theorem dX12_week_104 : D1 prog_14_method_17_code 104 (.dup2) 105 := ⟨by decide +kernel, rfl⟩
theorem dX12_week_105 : D1 prog_14_method_17_code 105 (.iaload) 106 := ⟨by decide +kernel, rfl⟩
theorem dX12_week_106 : Diload prog_14_method_17_code 106 2 107 := Or.inl ⟨2, by decide +kernel, rfl, rfl⟩
theorem dX12_week_107 : D1 prog_14_method_17_code 107 (.isub) 108 := ⟨by decide +kernel, rfl⟩
theorem dX12_week_108 : D1 prog_14_method_17_code 108 (.iastore) 109 := ⟨by decide +kernel, rfl⟩
theorem dX12_week_109 : Daload prog_14_method_17_code 109 0 110 := Or.inl ⟨0, by decide +kernel, rfl, rfl⟩
theorem dX12_week_110 : D3 prog_14_method_17_code 110 (.getfield 61) 113 := ⟨by decide +kernel, rfl⟩
theorem dX12_week_113 : Daload prog_14_method_17_code 113 0 114 := Or.inl ⟨0, by decide +kernel, rfl, rfl⟩
theorem dX12_week_114 : D3 prog_14_method_17_code 114 (.getfield 46) 117 := ⟨by decide +kernel, rfl⟩
theorem dX12_week_117 : Diload prog_14_method_17_code 117 1 118 := Or.inl ⟨1, by decide +kernel, rfl, rfl⟩
theorem dX12_week_118 : D1 prog_14_method_17_code 118 (.iaload) 119 := ⟨by decide +kernel, rfl⟩
theorem dX12_week_119 : D1 prog_14_method_17_code 119 (.dup2) 120 := ⟨by decide +kernel, rfl⟩
theorem dX12_week_120 : D1 prog_14_method_17_code 120 (.iaload) 121 := ⟨by decide +kernel, rfl⟩
theorem dX12_week_121 : Diload prog_14_method_17_code 121 2 122 := Or.inl ⟨2, by decide +kernel, rfl, rfl⟩
theorem dX12_week_122 : D1 prog_14_method_17_code 122 (.iadd) 123 := ⟨by decide +kernel, rfl⟩
theorem dX12_week_123 : D1 prog_14_method_17_code 123 (.iastore) 124 := ⟨by decide +kernel, rfl⟩
theorem dX12_week_124 : Diinc prog_14_method_17_code 124 1 1 127 := ⟨1, by decide +kernel, rfl, rfl⟩
theorem dX12_week_127 : Dj prog_14_method_17_code 127 (.goto (-113)) (-113) 130 14 := ⟨by decide +kernel, rfl, by decide⟩
theorem dX12_week_130 : Dconst prog_14_method_17_code 130 0 131 := Or.inl ⟨0, by decide +kernel, rfl, rfl⟩
theorem dX12_week_131 : Distore prog_14_method_17_code 131 1 132 := Or.inl ⟨1, by decide +kernel, rfl, rfl⟩
theorem dX12_week_132 : Diload prog_14_method_17_code 132 1 133 := Or.inl ⟨1, by decide +kernel, rfl, rfl⟩
theorem dX12_week_133 : Dconst prog_14_method_17_code 133 8 135 := Or.inr (Or.inl ⟨8, by decide +kernel, rfl, rfl⟩)
theorem dX12_week_135 : Dj prog_14_method_17_code 135 (.if_icmp .ge 28) 28 138 163 := ⟨by decide +kernel, rfl, by decide⟩
theorem dX12_week_138 : Dconst prog_14_method_17_code 138 0 139 := Or.inl ⟨0, by decide +kernel, rfl, rfl⟩
theorem dX12_week_139 : Distore prog_14_method_17_code 139 2 140 := Or.inl ⟨2, by decide +kernel, rfl, rfl⟩
theorem dX12_week_140 : Diload prog_14_method_17_code 140 2 141 := Or.inl ⟨2, by decide +kernel, rfl, rfl⟩
theorem dX12_week_141 : Dconst prog_14_method_17_code 141 4 142 := Or.inl ⟨4, by decide +kernel, rfl, rfl⟩
theorem dX12_week_142 : Dj prog_14_method_17_code 142 (.if_icmp .ge 15) 15 145 157 := ⟨by decide +kernel, rfl, by decide⟩
theorem dX12_week_145 : Daload prog_14_method_17_code 145 0 146 := Or.inl ⟨0, by decide +kernel, rfl, rfl⟩
theorem dX12_week_146 : Diload prog_14_method_17_code 146 1 147 := Or.inl ⟨1, by decide +kernel, rfl, rfl⟩
theorem dX12_week_147 : Diload prog_14_method_17_code 147 2 148 := Or.inl ⟨2, by decide +kernel, rfl, rfl⟩
theorem dX12_week_148 : D3 prog_14_method_17_code 148 (.invokevirtual 154) 151 := ⟨by decide +kernel, rfl⟩
theorem dX12_week_151 : Diinc prog_14_method_17_code 151 2 1 154 := ⟨1, by decide +kernel, rfl, rfl⟩
theorem dX12_week_154 : Dj prog_14_method_17_code 154 (.goto (-14)) (-14) 157 140 := ⟨by decide +kernel, rfl, by decide⟩
theorem dX12_week_157 : Diinc prog_14_method_17_code 157 1 1 160 := ⟨1, by decide +kernel, rfl, rfl⟩
theorem dX12_week_160 : Dj prog_14_method_17_code 160 (.goto (-28)) (-28) 163 132 := ⟨by decide +kernel, rfl, by decide⟩
theorem dX12_week_163 : Daload prog_14_method_17_code 163 0 164 := Or.inl ⟨0, by decide +kernel, rfl, rfl⟩
theorem dX12_week_164 : D1 prog_14_method_17_code 164 (.dup) 165 := ⟨by decide +kernel, rfl⟩
theorem dX12_week_165 : D3 prog_14_method_17_code 165 (.getfield 131) 168 := ⟨by decide +kernel, rfl⟩
theorem dX12_week_168 : Dconst prog_14_method_17_code 168 1 169 := Or.inl ⟨1, by decide +kernel, rfl, rfl⟩
theorem dX12_week_169 : D1 prog_14_method_17_code 169 (.iadd) 170 := ⟨by decide +kernel, rfl⟩
theorem dX12_week_170 : D3 prog_14_method_17_code 170 (.putfield 131) 173 := ⟨by decide +kernel, rfl⟩
theorem dX12_week_173 : Dconst prog_14_method_17_code 173 0 174 := Or.inl ⟨0, by decide +kernel, rfl, rfl⟩
theorem dX12_week_174 : Distore prog_14_method_17_code 174 1 175 := Or.inl ⟨1, by decide +kernel, rfl, rfl⟩
theorem dX12_week_175 : Diload prog_14_method_17_code 175 1 176 := Or.inl ⟨1, by decide +kernel, rfl, rfl⟩
theorem dX12_week_176 : Dconst prog_14_method_17_code 176 8 178 := Or.inr (Or.inl ⟨8, by decide +kernel, rfl, rfl⟩)
theorem dX12_week_178 : Dj prog_14_method_17_code 178 (.if_icmp .ge 46) 46 181 224 := ⟨by decide +kernel, rfl, by decide⟩
theorem dX12_week_181 : Dconst prog_14_method_17_code 181 0 182 := Or.inl ⟨0, by decide +kernel, rfl, rfl⟩
theorem dX12_week_182 : Distore prog_14_method_17_code 182 2 183 := Or.inl ⟨2, by decide +kernel, rfl, rfl⟩
theorem dX12_week_183 : Diload prog_14_method_17_code 183 2 184 := Or.inl ⟨2, by decide +kernel, rfl, rfl⟩
theorem dX12_week_184 : Dconst prog_14_method_17_code 184 4 185 := Or.inl ⟨4, by decide +kernel, rfl, rfl⟩
theorem dX12_week_185 : Dj prog_14_method_17_code 185 (.if_icmp .ge 33) 33 188 218 := ⟨by decide +kernel, rfl, by decide⟩
theorem dX12_week_188 : Daload prog_14_method_17_code 188 0 189 := Or.inl ⟨0, by decide +kernel, rfl, rfl⟩
theorem dX12_week_189 : D3 prog_14_method_17_code 189 (.getfield 73) 192 := ⟨by decide +kernel, rfl⟩
theorem dX12_week_192 : Dconst prog_14_method_17_code 192 32 194 := Or.inr (Or.inl ⟨32, by decide +kernel, rfl, rfl⟩)
theorem dX12_week_194 : Daload prog_14_method_17_code 194 0 195 := Or.inl ⟨0, by decide +kernel, rfl, rfl⟩
theorem dX12_week_195 : D3 prog_14_method_17_code 195 (.getfield 131) 198 := ⟨by decide +kernel, rfl⟩
theorem dX12_week_198 : D1 prog_14_method_17_code 198 (.imul) 199 := ⟨by decide +kernel, rfl⟩
theorem dX12_week_199 : Dconst prog_14_method_17_code 199 4 200 := Or.inl ⟨4, by decide +kernel, rfl, rfl⟩
theorem dX12_week_200 : Diload prog_14_method_17_code 200 1 201 := Or.inl ⟨1, by decide +kernel, rfl, rfl⟩
theorem dX12_week_201 : D1 prog_14_method_17_code 201 (.imul) 202 := ⟨by decide +kernel, rfl⟩
theorem dX12_week_202 : D1 prog_14_method_17_code 202 (.iadd) 203 := ⟨by decide +kernel, rfl⟩
theorem dX12_week_203 : Diload prog_14_method_17_code 203 2 204 := Or.inl ⟨2, by decide +kernel, rfl, rfl⟩
theorem dX12_week_204 : D1 prog_14_method_17_code 204 (.iadd) 205 := ⟨by decide +kernel, rfl⟩
theorem dX12_week_205 : Daload prog_14_method_17_code 205 0 206 := Or.inl ⟨0, by decide +kernel, rfl, rfl⟩
theorem dX12_week_206 : Diload prog_14_method_17_code 206 1 207 := Or.inl ⟨1, by decide +kernel, rfl, rfl⟩
theorem dX12_week_207 : Diload prog_14_method_17_code 207 2 208 := Or.inl ⟨2, by decide +kernel, rfl, rfl⟩
theorem dX12_week_208 : D3 prog_14_method_17_code 208 (.invokevirtual 158) 211 := ⟨by decide +kernel, rfl⟩
theorem dX12_week_211 : D1 prog_14_method_17_code 211 (.iastore) 212 := ⟨by decide +kernel, rfl⟩
theorem dX12_week_212 : Diinc prog_14_method_17_code 212 2 1 215 := ⟨1, by decide +kernel, rfl, rfl⟩
theorem dX12_week_215 : Dj prog_14_method_17_code 215 (.goto (-32)) (-32) 218 183 := ⟨by decide +kernel, rfl, by decide⟩
theorem dX12_week_218 : Diinc prog_14_method_17_code 218 1 1 221 := ⟨1, by decide +kernel, rfl, rfl⟩
theorem dX12_week_221 : Dj prog_14_method_17_code 221 (.goto (-46)) (-46) 224 175 := ⟨by decide +kernel, rfl, by decide⟩
theorem dX12_week_224 : Daload prog_14_method_17_code 224 0 225 := Or.inl ⟨0, by decide +kernel, rfl, rfl⟩
theorem dX12_week_225 : D3 prog_14_method_17_code 225 (.getfield 131) 228 := ⟨by decide +kernel, rfl⟩
theorem dX12_week_228 : D1 prog_14_method_17_code 228 (.ireturn) 229 := ⟨by decide +kernel, rfl⟩
theorem dX12_part_0 : Daload prog_14_method_15_code 0 0 1 := Or.inl ⟨0, by decide +kernel, rfl, rfl⟩
theorem dX12_part_1 : D3 prog_14_method_15_code 1 (.getfield 16) 4 := ⟨by decide +kernel, rfl⟩
theorem dX12_part_4 : Dconst prog_14_method_15_code 4 10 6 := Or.inr (Or.inl ⟨10, by decide +kernel, rfl, rfl⟩)
theorem dX12_part_6 : Diload prog_14_method_15_code 6 1 7 := Or.inl ⟨1, by decide +kernel, rfl, rfl⟩
theorem dX12_part_7 : D1 prog_14_method_15_code 7 (.imul) 8 := ⟨by decide +kernel, rfl⟩
theorem dX12_part_8 : Dconst prog_14_method_15_code 8 9 10 := Or.inr (Or.inl ⟨9, by decide +kernel, rfl, rfl⟩)
theorem dX12_part_10 : Diload prog_14_method_15_code 10 2 11 := Or.inl ⟨2, by decide +kernel, rfl, rfl⟩
theorem dX12_part_11 : Diload prog_14_method_15_code 11 3 12 := Or.inl ⟨3, by decide +kernel, rfl, rfl⟩
theorem dX12_part_12 : D1 prog_14_method_15_code 12 (.isub) 13 := ⟨by decide +kernel, rfl⟩
theorem dX12_part_13 : Dconst prog_14_method_15_code 13 4 14 := Or.inl ⟨4, by decide +kernel, rfl, rfl⟩
theorem dX12_part_14 : D1 prog_14_method_15_code 14 (.idiv) 15 := ⟨by decide +kernel, rfl⟩
theorem dX12_part_15 : D3 prog_14_method_15_code 15 (.invokestatic 144) 18 := ⟨by decide +kernel, rfl⟩
theorem dX12_part_18 : D1 prog_14_method_15_code 18 (.iadd) 19 := ⟨by decide +kernel, rfl⟩
theorem dX12_part_19 : D1 prog_14_method_15_code 19 (.iaload) 20 := ⟨by decide +kernel, rfl⟩
theorem dX12_part_20 : Distore prog_14_method_15_code 20 5 22 := Or.inr ⟨by decide +kernel, rfl⟩
theorem dX12_part_22 : Diload prog_14_method_15_code 22 4 24 := Or.inr ⟨by decide +kernel, rfl⟩
theorem dX12_part_24 : Dj prog_14_method_15_code 24 (.ifCond .eq 16) 16 27 40 := ⟨by decide +kernel, rfl, by decide⟩
theorem dX12_part_27 : Dconst prog_14_method_15_code 27 1000 30 := Or.inr (Or.inr ⟨1000, by decide +kernel, rfl, rfl⟩)
theorem dX12_part_30 : Dconst prog_14_method_15_code 30 2 31 := Or.inl ⟨2, by decide +kernel, rfl, rfl⟩
theorem dX12_part_31 : Diload prog_14_method_15_code 31 5 33 := Or.inr ⟨by decide +kernel, rfl⟩
theorem dX12_part_33 : D1 prog_14_method_15_code 33 (.imul) 34 := ⟨by decide +kernel, rfl⟩
theorem dX12_part_34 : D3 prog_14_method_15_code 34 (.invokestatic 144) 37 := ⟨by decide +kernel, rfl⟩
theorem dX12_part_37 : Dj prog_14_method_15_code 37 (.goto 5) 5 40 42 := ⟨by decide +kernel, rfl, by decide⟩
theorem dX12_part_40 : Diload prog_14_method_15_code 40 5 42 := Or.inr ⟨by decide +kernel, rfl⟩
theorem dX12_part_42 : D1 prog_14_method_15_code 42 (.ireturn) 43 := ⟨by decide +kernel, rfl⟩
theorem dX12_eat_0 : Dconst prog_14_method_18_code 0 4 1 := Or.inl ⟨4, by decide +kernel, rfl, rfl⟩
theorem dX12_eat_1 : Diload prog_14_method_18_code 1 1 2 := Or.inl ⟨1, by decide +kernel, rfl, rfl⟩
theorem dX12_eat_2 : D1 prog_14_method_18_code 2 (.imul) 3 := ⟨by decide +kernel, rfl⟩
theorem dX12_eat_3 : Diload prog_14_method_18_code 3 2 4 := Or.inl ⟨2, by decide +kernel, rfl, rfl⟩
theorem dX12_eat_4 : D1 prog_14_method_18_code 4 (.iadd) 5 := ⟨by decide +kernel, rfl⟩
theorem dX12_eat_5 : Distore prog_14_method_18_code 5 3 6 := Or.inl ⟨3, by decide +kernel, rfl, rfl⟩
theorem dX12_eat_6 : Dconst prog_14_method_18_code 6 7 8 := Or.inr (Or.inl ⟨7, by decide +kernel, rfl, rfl⟩)
theorem dX12_eat_8 : Daload prog_14_method_18_code 8 0 9 := Or.inl ⟨0, by decide +kernel, rfl, rfl⟩
theorem dX12_eat_9 : D3 prog_14_method_18_code 9 (.getfield 9) 12 := ⟨by decide +kernel, rfl⟩
theorem dX12_eat_12 : Diload prog_14_method_18_code 12 1 13 := Or.inl ⟨1, by decide +kernel, rfl, rfl⟩
theorem dX12_eat_13 : D1 prog_14_method_18_code 13 (.iaload) 14 := ⟨by decide +kernel, rfl⟩
theorem dX12_eat_14 : D1 prog_14_method_18_code 14 (.imul) 15 := ⟨by decide +kernel, rfl⟩
theorem dX12_eat_15 : Distore prog_14_method_18_code 15 4 17 := Or.inr ⟨by decide +kernel, rfl⟩
theorem dX12_eat_17 : Diload prog_14_method_18_code 17 4 19 := Or.inr ⟨by decide +kernel, rfl⟩
theorem dX12_eat_19 : Daload prog_14_method_18_code 19 0 20 := Or.inl ⟨0, by decide +kernel, rfl, rfl⟩
theorem dX12_eat_20 : D3 prog_14_method_18_code 20 (.getfield 64) 23 := ⟨by decide +kernel, rfl⟩
theorem dX12_eat_23 : Diload prog_14_method_18_code 23 3 24 := Or.inl ⟨3, by decide +kernel, rfl, rfl⟩
theorem dX12_eat_24 : D1 prog_14_method_18_code 24 (.iaload) 25 := ⟨by decide +kernel, rfl⟩
theorem dX12_eat_25 : D3 prog_14_method_18_code 25 (.invokestatic 144) 28 := ⟨by decide +kernel, rfl⟩
theorem dX12_eat_28 : Distore prog_14_method_18_code 28 5 30 := Or.inr ⟨by decide +kernel, rfl⟩
theorem dX12_eat_30 : Daload prog_14_method_18_code 30 0 31 := Or.inl ⟨0, by decide +kernel, rfl, rfl⟩
theorem dX12_eat_31 : D3 prog_14_method_18_code 31 (.getfield 64) 34 := ⟨by decide +kernel, rfl⟩
theorem dX12_eat_34 : Diload prog_14_method_18_code 34 3 35 := Or.inl ⟨3, by decide +kernel, rfl, rfl⟩
theorem dX12_eat_35 : D1 prog_14_method_18_code 35 (.dup2) 36 := ⟨by decide +kernel, rfl⟩
theorem dX12_eat_36 : D1 prog_14_method_18_code 36 (.iaload) 37 := ⟨by decide +kernel, rfl⟩
theorem dX12_eat_37 : Diload prog_14_method_18_code 37 5 39 := Or.inr ⟨by decide +kernel, rfl⟩
theorem dX12_eat_39 : D1 prog_14_method_18_code 39 (.isub) 40 := ⟨by decide +kernel, rfl⟩
theorem dX12_eat_40 : D1 prog_14_method_18_code 40 (.iastore) 41 := ⟨by decide +kernel, rfl⟩
theorem dX12_eat_41 : Diload prog_14_method_18_code 41 4 43 := Or.inr ⟨by decide +kernel, rfl⟩
theorem dX12_eat_43 : Diload prog_14_method_18_code 43 5 45 := Or.inr ⟨by decide +kernel, rfl⟩
theorem dX12_eat_45 : D1 prog_14_method_18_code 45 (.isub) 46 := ⟨by decide +kernel, rfl⟩
theorem dX12_eat_46 : Distore prog_14_method_18_code 46 4 48 := Or.inr ⟨by decide +kernel, rfl⟩
theorem dX12_eat_48 : Diload prog_14_method_18_code 48 4 50 := Or.inr ⟨by decide +kernel, rfl⟩
theorem dX12_eat_50 : Dj prog_14_method_18_code 50 (.ifCond .le 106) 106 53 156 := ⟨by decide +kernel, rfl, by decide⟩
theorem dX12_eat_53 : Daload prog_14_method_18_code 53 0 54 := Or.inl ⟨0, by decide +kernel, rfl, rfl⟩
theorem dX12_eat_54 : Diload prog_14_method_18_code 54 1 55 := Or.inl ⟨1, by decide +kernel, rfl, rfl⟩
theorem dX12_eat_55 : Diload prog_14_method_18_code 55 2 56 := Or.inl ⟨2, by decide +kernel, rfl, rfl⟩
theorem dX12_eat_56 : Daload prog_14_method_18_code 56 0 57 := Or.inl ⟨0, by decide +kernel, rfl, rfl⟩
theorem dX12_eat_57 : D3 prog_14_method_18_code 57 (.getfield 34) 60 := ⟨by decide +kernel, rfl⟩
theorem dX12_eat_60 : Daload prog_14_method_18_code 60 0 61 := Or.inl ⟨0, by decide +kernel, rfl, rfl⟩
theorem dX12_eat_61 : D3 prog_14_method_18_code 61 (.getfield 40) 64 := ⟨by decide +kernel, rfl⟩
theorem dX12_eat_64 : D3 prog_14_method_18_code 64 (.invokevirtual 161) 67 := ⟨by decide +kernel, rfl⟩
theorem dX12_eat_67 : Distore prog_14_method_18_code 67 6 69 := Or.inr ⟨by decide +kernel, rfl⟩
theorem dX12_eat_69 : Diload prog_14_method_18_code 69 6 71 := Or.inr ⟨by decide +kernel, rfl⟩
theorem dX12_eat_71 : Dconst prog_14_method_18_code 71 (-1) 72 := Or.inl ⟨(-1), by decide +kernel, rfl, rfl⟩
theorem dX12_eat_72 : Dj prog_14_method_18_code 72 (.if_icmp .ne 15) 15 75 87 := ⟨by decide +kernel, rfl, by decide⟩
theorem dX12_eat_75 : Daload prog_14_method_18_code 75 0 76 := Or.inl ⟨0, by decide +kernel, rfl, rfl⟩
theorem dX12_eat_76 : D3 prog_14_method_18_code 76 (.getfield 67) 79 := ⟨by decide +kernel, rfl⟩
theorem dX12_eat_79 : Diload prog_14_method_18_code 79 3 80 := Or.inl ⟨3, by decide +kernel, rfl, rfl⟩
theorem dX12_eat_80 : D1 prog_14_method_18_code 80 (.dup2) 81 := ⟨by decide +kernel, rfl⟩
theorem dX12_eat_81 : D1 prog_14_method_18_code 81 (.iaload) 82 := ⟨by decide +kernel, rfl⟩
theorem dX12_eat_82 : Diload prog_14_method_18_code 82 4 84 := Or.inr ⟨by decide +kernel, rfl⟩
theorem dX12_eat_84 : D1 prog_14_method_18_code 84 (.iadd) 85 := ⟨by decide +kernel, rfl⟩
theorem dX12_eat_85 : D1 prog_14_method_18_code 85 (.iastore) 86 := ⟨by decide +kernel, rfl⟩
theorem dX12_eat_86 : D1 prog_14_method_18_code 86 (.return_) 87 := ⟨by decide +kernel, rfl⟩
theorem dX12_eat_87 : Daload prog_14_method_18_code 87 0 88 := Or.inl ⟨0, by decide +kernel, rfl, rfl⟩
theorem dX12_eat_88 : D3 prog_14_method_18_code 88 (.getfield 34) 91 := ⟨by decide +kernel, rfl⟩
theorem dX12_eat_91 : Diload prog_14_method_18_code 91 6 93 := Or.inr ⟨by decide +kernel, rfl⟩
theorem dX12_eat_93 : D1 prog_14_method_18_code 93 (.dup2) 94 := ⟨by decide +kernel, rfl⟩
theorem dX12_eat_94 : D1 prog_14_method_18_code 94 (.iaload) 95 := ⟨by decide +kernel, rfl⟩
theorem dX12_eat_95 : Dconst prog_14_method_18_code 95 1 96 := Or.inl ⟨1, by decide +kernel, rfl, rfl⟩
theorem dX12_eat_96 : D1 prog_14_method_18_code 96 (.isub) 97 := ⟨by decide +kernel, rfl⟩
theorem dX12_eat_97 : D1 prog_14_method_18_code 97 (.iastore) 98 := ⟨by decide +kernel, rfl⟩
theorem dX12_eat_98 : Daload prog_14_method_18_code 98 0 99 := Or.inl ⟨0, by decide +kernel, rfl, rfl⟩
theorem dX12_eat_99 : D1 prog_14_method_18_code 99 (.dup) 100 := ⟨by decide +kernel, rfl⟩
theorem dX12_eat_100 : D3 prog_14_method_18_code 100 (.getfield 165) 103 := ⟨by decide +kernel, rfl⟩
theorem dX12_eat_103 : Dconst prog_14_method_18_code 103 1 104 := Or.inl ⟨1, by decide +kernel, rfl, rfl⟩
theorem dX12_eat_104 : D1 prog_14_method_18_code 104 (.iadd) 105 := ⟨by decide +kernel, rfl⟩
theorem dX12_eat_105 : D3 prog_14_method_18_code 105 (.putfield 165) 108 := ⟨by decide +kernel, rfl⟩
theorem dX12_eat_108 : Daload prog_14_method_18_code 108 0 109 := Or.inl ⟨0, by decide +kernel, rfl, rfl⟩
theorem dX12_eat_109 : D3 prog_14_method_18_code 109 (.getfield 70) 112 := ⟨by decide +kernel, rfl⟩
theorem dX12_eat_112 : Diload prog_14_method_18_code 112 3 113 := Or.inl ⟨3, by decide +kernel, rfl, rfl⟩
theorem dX12_eat_113 : D1 prog_14_method_18_code 113 (.dup2) 114 := ⟨by decide +kernel, rfl⟩
theorem dX12_eat_114 : D1 prog_14_method_18_code 114 (.iaload) 115 := ⟨by decide +kernel, rfl⟩
theorem dX12_eat_115 : Dconst prog_14_method_18_code 115 1 116 := Or.inl ⟨1, by decide +kernel, rfl, rfl⟩
theorem dX12_eat_116 : D1 prog_14_method_18_code 116 (.iadd) 117 := ⟨by decide +kernel, rfl⟩
theorem dX12_eat_117 : D1 prog_14_method_18_code 117 (.iastore) 118 := ⟨by decide +kernel, rfl⟩
theorem dX12_eat_118 : Diload prog_14_method_18_code 118 4 120 := Or.inr ⟨by decide +kernel, rfl⟩
theorem dX12_eat_120 : Daload prog_14_method_18_code 120 0 121 := Or.inl ⟨0, by decide +kernel, rfl, rfl⟩
theorem dX12_eat_121 : D3 prog_14_method_18_code 121 (.getfield 13) 124 := ⟨by decide +kernel, rfl⟩
theorem dX12_eat_124 : Diload prog_14_method_18_code 124 2 125 := Or.inl ⟨2, by decide +kernel, rfl, rfl⟩
theorem dX12_eat_125 : D1 prog_14_method_18_code 125 (.iaload) 126 := ⟨by decide +kernel, rfl⟩
theorem dX12_eat_126 : D3 prog_14_method_18_code 126 (.invokestatic 144) 129 := ⟨by decide +kernel, rfl⟩
theorem dX12_eat_129 : Distore prog_14_method_18_code 129 7 131 := Or.inr ⟨by decide +kernel, rfl⟩
theorem dX12_eat_131 : Diload prog_14_method_18_code 131 4 133 := Or.inr ⟨by decide +kernel, rfl⟩
theorem dX12_eat_133 : Diload prog_14_method_18_code 133 7 135 := Or.inr ⟨by decide +kernel, rfl⟩
theorem dX12_eat_135 : D1 prog_14_method_18_code 135 (.isub) 136 := ⟨by decide +kernel, rfl⟩
theorem dX12_eat_136 : Distore prog_14_method_18_code 136 4 138 := Or.inr ⟨by decide +kernel, rfl⟩
theorem dX12_eat_138 : Daload prog_14_method_18_code 138 0 139 := Or.inl ⟨0, by decide +kernel, rfl, rfl⟩
theorem dX12_eat_139 : D3 prog_14_method_18_code 139 (.getfield 64) 142 := ⟨by decide +kernel, rfl⟩
theorem dX12_eat_142 : Diload prog_14_method_18_code 142 3 143 := Or.inl ⟨3, by decide +kernel, rfl, rfl⟩
theorem dX12_eat_143 : Daload prog_14_method_18_code 143 0 144 := Or.inl ⟨0, by decide +kernel, rfl, rfl⟩
theorem dX12_eat_144 : D3 prog_14_method_18_code 144 (.getfield 13) 147 := ⟨by decide +kernel, rfl⟩
theorem dX12_eat_147 : Diload prog_14_method_18_code 147 2 148 := Or.inl ⟨2, by decide +kernel, rfl, rfl⟩
theorem dX12_eat_148 : D1 prog_14_method_18_code 148 (.iaload) 149 := ⟨by decide +kernel, rfl⟩
theorem dX12_eat_149 : Diload prog_14_method_18_code 149 7 151 := Or.inr ⟨by decide +kernel, rfl⟩
theorem dX12_eat_151 : D1 prog_14_method_18_code 151 (.isub) 152 := ⟨by decide +kernel, rfl⟩
theorem dX12_eat_152 : D1 prog_14_method_18_code 152 (.iastore) 153 := ⟨by decide +kernel, rfl⟩
theorem dX12_eat_153 : Dj prog_14_method_18_code 153 (.goto (-105)) (-105) 156 48 := ⟨by decide +kernel, rfl, by decide⟩
theorem dX12_eat_156 : D1 prog_14_method_18_code 156 (.return_) 157 := ⟨by decide +kernel, rfl⟩
theorem dX12_oldest_0 : Dconst prog_14_method_16_code 0 (-1) 1 := Or.inl ⟨(-1), by decide +kernel, rfl, rfl⟩
theorem dX12_oldest_1 : Distore prog_14_method_16_code 1 5 3 := Or.inr ⟨by decide +kernel, rfl⟩
theorem dX12_oldest_3 : Dconst prog_14_method_16_code 3 0 4 := Or.inl ⟨0, by decide +kernel, rfl, rfl⟩
theorem dX12_oldest_4 : Distore prog_14_method_16_code 4 6 6 := Or.inr ⟨by decide +kernel, rfl⟩
theorem dX12_oldest_6 : Diload prog_14_method_16_code 6 6 8 := Or.inr ⟨by decide +kernel, rfl⟩
theorem dX12_oldest_8 : Daload prog_14_method_16_code 8 0 9 := Or.inl ⟨0, by decide +kernel, rfl, rfl⟩
theorem dX12_oldest_9 : D3 prog_14_method_16_code 9 (.getfield 126) 12 := ⟨by decide +kernel, rfl⟩
theorem dX12_oldest_12 : Dj prog_14_method_16_code 12 (.if_icmp .ge 74) 74 15 86 := ⟨by decide +kernel, rfl, by decide⟩
theorem dX12_oldest_15 : Daload prog_14_method_16_code 15 0 16 := Or.inl ⟨0, by decide +kernel, rfl, rfl⟩
theorem dX12_oldest_16 : D3 prog_14_method_16_code 16 (.getfield 37) 19 := ⟨by decide +kernel, rfl⟩
theorem dX12_oldest_19 : Diload prog_14_method_16_code 19 6 21 := Or.inr ⟨by decide +kernel, rfl⟩
theorem dX12_oldest_21 : D1 prog_14_method_16_code 21 (.iaload) 22 := ⟨by decide +kernel, rfl⟩
theorem dX12_oldest_22 : Diload prog_14_method_16_code 22 1 23 := Or.inl ⟨1, by decide +kernel, rfl, rfl⟩
theorem dX12_oldest_23 : Dj prog_14_method_16_code 23 (.if_icmp .ne 57) 57 26 80 := ⟨by decide +kernel, rfl, by decide⟩
theorem dX12_oldest_26 : Daload prog_14_method_16_code 26 0 27 := Or.inl ⟨0, by decide +kernel, rfl, rfl⟩
theorem dX12_oldest_27 : D3 prog_14_method_16_code 27 (.getfield 28) 30 := ⟨by decide +kernel, rfl⟩
theorem dX12_oldest_30 : Diload prog_14_method_16_code 30 6 32 := Or.inr ⟨by decide +kernel, rfl⟩
theorem dX12_oldest_32 : D1 prog_14_method_16_code 32 (.iaload) 33 := ⟨by decide +kernel, rfl⟩
theorem dX12_oldest_33 : Diload prog_14_method_16_code 33 2 34 := Or.inl ⟨2, by decide +kernel, rfl, rfl⟩
theorem dX12_oldest_34 : Dj prog_14_method_16_code 34 (.if_icmp .ne 46) 46 37 80 := ⟨by decide +kernel, rfl, by decide⟩
theorem dX12_oldest_37 : Daload prog_14_method_16_code 37 4 39 := Or.inr ⟨by decide +kernel, rfl⟩
theorem dX12_oldest_39 : Diload prog_14_method_16_code 39 6 41 := Or.inr ⟨by decide +kernel, rfl⟩
theorem dX12_oldest_41 : D1 prog_14_method_16_code 41 (.iaload) 42 := ⟨by decide +kernel, rfl⟩
theorem dX12_oldest_42 : Dconst prog_14_method_16_code 42 (-1) 43 := Or.inl ⟨(-1), by decide +kernel, rfl, rfl⟩
theorem dX12_oldest_43 : Dj prog_14_method_16_code 43 (.if_icmp .ne 37) 37 46 80 := ⟨by decide +kernel, rfl, by decide⟩
theorem dX12_oldest_46 : Daload prog_14_method_16_code 46 3 47 := Or.inl ⟨3, by decide +kernel, rfl, rfl⟩
theorem dX12_oldest_47 : Diload prog_14_method_16_code 47 6 49 := Or.inr ⟨by decide +kernel, rfl⟩
theorem dX12_oldest_49 : D1 prog_14_method_16_code 49 (.iaload) 50 := ⟨by decide +kernel, rfl⟩
theorem dX12_oldest_50 : Dj prog_14_method_16_code 50 (.ifCond .le 30) 30 53 80 := ⟨by decide +kernel, rfl, by decide⟩
theorem dX12_oldest_53 : Diload prog_14_method_16_code 53 5 55 := Or.inr ⟨by decide +kernel, rfl⟩
theorem dX12_oldest_55 : Dconst prog_14_method_16_code 55 (-1) 56 := Or.inl ⟨(-1), by decide +kernel, rfl, rfl⟩
theorem dX12_oldest_56 : Dj prog_14_method_16_code 56 (.if_icmp .eq 20) 20 59 76 := ⟨by decide +kernel, rfl, by decide⟩
theorem dX12_oldest_59 : Daload prog_14_method_16_code 59 0 60 := Or.inl ⟨0, by decide +kernel, rfl, rfl⟩
theorem dX12_oldest_60 : D3 prog_14_method_16_code 60 (.getfield 31) 63 := ⟨by decide +kernel, rfl⟩
theorem dX12_oldest_63 : Diload prog_14_method_16_code 63 6 65 := Or.inr ⟨by decide +kernel, rfl⟩
theorem dX12_oldest_65 : D1 prog_14_method_16_code 65 (.iaload) 66 := ⟨by decide +kernel, rfl⟩
theorem dX12_oldest_66 : Daload prog_14_method_16_code 66 0 67 := Or.inl ⟨0, by decide +kernel, rfl, rfl⟩
theorem dX12_oldest_67 : D3 prog_14_method_16_code 67 (.getfield 31) 70 := ⟨by decide +kernel, rfl⟩
theorem dX12_oldest_70 : Diload prog_14_method_16_code 70 5 72 := Or.inr ⟨by decide +kernel, rfl⟩
theorem dX12_oldest_72 : D1 prog_14_method_16_code 72 (.iaload) 73 := ⟨by decide +kernel, rfl⟩
theorem dX12_oldest_73 : Dj prog_14_method_16_code 73 (.if_icmp .ge 7) 7 76 80 := ⟨by decide +kernel, rfl, by decide⟩
theorem dX12_oldest_76 : Diload prog_14_method_16_code 76 6 78 := Or.inr ⟨by decide +kernel, rfl⟩
theorem dX12_oldest_78 : Distore prog_14_method_16_code 78 5 80 := Or.inr ⟨by decide +kernel, rfl⟩
theorem dX12_oldest_80 : Diinc prog_14_method_16_code 80 6 1 83 := ⟨1, by decide +kernel, rfl, rfl⟩
theorem dX12_oldest_83 : Dj prog_14_method_16_code 83 (.goto (-77)) (-77) 86 6 := ⟨by decide +kernel, rfl, by decide⟩
theorem dX12_oldest_86 : Diload prog_14_method_16_code 86 5 88 := Or.inr ⟨by decide +kernel, rfl⟩
theorem dX12_oldest_88 : D1 prog_14_method_16_code 88 (.ireturn) 89 := ⟨by decide +kernel, rfl⟩
theorem dX12_stockOf_0 : Dconst prog_14_method_14_code 0 0 1 := Or.inl ⟨0, by decide +kernel, rfl, rfl⟩
theorem dX12_stockOf_1 : Distore prog_14_method_14_code 1 3 2 := Or.inl ⟨3, by decide +kernel, rfl, rfl⟩
theorem dX12_stockOf_2 : Dconst prog_14_method_14_code 2 0 3 := Or.inl ⟨0, by decide +kernel, rfl, rfl⟩
theorem dX12_stockOf_3 : Distore prog_14_method_14_code 3 4 5 := Or.inr ⟨by decide +kernel, rfl⟩
theorem dX12_stockOf_5 : Diload prog_14_method_14_code 5 4 7 := Or.inr ⟨by decide +kernel, rfl⟩
theorem dX12_stockOf_7 : Daload prog_14_method_14_code 7 0 8 := Or.inl ⟨0, by decide +kernel, rfl, rfl⟩
theorem dX12_stockOf_8 : D3 prog_14_method_14_code 8 (.getfield 126) 11 := ⟨by decide +kernel, rfl⟩
theorem dX12_stockOf_11 : Dj prog_14_method_14_code 11 (.if_icmp .ge 56) 56 14 67 := ⟨by decide +kernel, rfl, by decide⟩
theorem dX12_stockOf_14 : Diload prog_14_method_14_code 14 3 15 := Or.inl ⟨3, by decide +kernel, rfl, rfl⟩
theorem dX12_stockOf_15 : Daload prog_14_method_14_code 15 0 16 := Or.inl ⟨0, by decide +kernel, rfl, rfl⟩
theorem dX12_stockOf_16 : D3 prog_14_method_14_code 16 (.getfield 37) 19 := ⟨by decide +kernel, rfl⟩
theorem dX12_stockOf_19 : Diload prog_14_method_14_code 19 4 21 := Or.inr ⟨by decide +kernel, rfl⟩
theorem dX12_stockOf_21 : D1 prog_14_method_14_code 21 (.iaload) 22 := ⟨by decide +kernel, rfl⟩
theorem dX12_stockOf_22 : Diload prog_14_method_14_code 22 1 23 := Or.inl ⟨1, by decide +kernel, rfl, rfl⟩
theorem dX12_stockOf_23 : Dj prog_14_method_14_code 23 (.if_icmp .ne 35) 35 26 58 := ⟨by decide +kernel, rfl, by decide⟩
theorem dX12_stockOf_26 : Daload prog_14_method_14_code 26 0 27 := Or.inl ⟨0, by decide +kernel, rfl, rfl⟩
theorem dX12_stockOf_27 : D3 prog_14_method_14_code 27 (.getfield 28) 30 := ⟨by decide +kernel, rfl⟩
theorem dX12_stockOf_30 : Diload prog_14_method_14_code 30 4 32 := Or.inr ⟨by decide +kernel, rfl⟩
theorem dX12_stockOf_32 : D1 prog_14_method_14_code 32 (.iaload) 33 := ⟨by decide +kernel, rfl⟩
theorem dX12_stockOf_33 : Diload prog_14_method_14_code 33 2 34 := Or.inl ⟨2, by decide +kernel, rfl, rfl⟩
theorem dX12_stockOf_34 : Dj prog_14_method_14_code 34 (.if_icmp .ne 24) 24 37 58 := ⟨by decide +kernel, rfl, by decide⟩
theorem dX12_stockOf_37 : Daload prog_14_method_14_code 37 0 38 := Or.inl ⟨0, by decide +kernel, rfl, rfl⟩
theorem dX12_stockOf_38 : D3 prog_14_method_14_code 38 (.getfield 40) 41 := ⟨by decide +kernel, rfl⟩
theorem dX12_stockOf_41 : Diload prog_14_method_14_code 41 4 43 := Or.inr ⟨by decide +kernel, rfl⟩
theorem dX12_stockOf_43 : D1 prog_14_method_14_code 43 (.iaload) 44 := ⟨by decide +kernel, rfl⟩
theorem dX12_stockOf_44 : Dconst prog_14_method_14_code 44 (-1) 45 := Or.inl ⟨(-1), by decide +kernel, rfl, rfl⟩
theorem dX12_stockOf_45 : Dj prog_14_method_14_code 45 (.if_icmp .ne 13) 13 48 58 := ⟨by decide +kernel, rfl, by decide⟩
theorem dX12_stockOf_48 : Daload prog_14_method_14_code 48 0 49 := Or.inl ⟨0, by decide +kernel, rfl, rfl⟩
theorem dX12_stockOf_49 : D3 prog_14_method_14_code 49 (.getfield 34) 52 := ⟨by decide +kernel, rfl⟩
theorem dX12_stockOf_52 : Diload prog_14_method_14_code 52 4 54 := Or.inr ⟨by decide +kernel, rfl⟩
theorem dX12_stockOf_54 : D1 prog_14_method_14_code 54 (.iaload) 55 := ⟨by decide +kernel, rfl⟩
theorem dX12_stockOf_55 : Dj prog_14_method_14_code 55 (.goto 4) 4 58 59 := ⟨by decide +kernel, rfl, by decide⟩
theorem dX12_stockOf_58 : Dconst prog_14_method_14_code 58 0 59 := Or.inl ⟨0, by decide +kernel, rfl, rfl⟩
theorem dX12_stockOf_59 : D1 prog_14_method_14_code 59 (.iadd) 60 := ⟨by decide +kernel, rfl⟩
theorem dX12_stockOf_60 : Distore prog_14_method_14_code 60 3 61 := Or.inl ⟨3, by decide +kernel, rfl, rfl⟩
theorem dX12_stockOf_61 : Diinc prog_14_method_14_code 61 4 1 64 := ⟨1, by decide +kernel, rfl, rfl⟩
theorem dX12_stockOf_64 : Dj prog_14_method_14_code 64 (.goto (-59)) (-59) 67 5 := ⟨by decide +kernel, rfl, by decide⟩
theorem dX12_stockOf_67 : Diload prog_14_method_14_code 67 3 68 := Or.inl ⟨3, by decide +kernel, rfl, rfl⟩
theorem dX12_stockOf_68 : D1 prog_14_method_14_code 68 (.ireturn) 69 := ⟨by decide +kernel, rfl⟩
theorem dX12_lasts_0 : Diload prog_14_method_20_code 0 1 1 := Or.inl ⟨1, by decide +kernel, rfl, rfl⟩
theorem dX12_lasts_1 : D3 prog_14_method_20_code 1 (.invokestatic 119) 4 := ⟨by decide +kernel, rfl⟩
theorem dX12_lasts_4 : Dj prog_14_method_20_code 4 (.ifCond .ne 5) 5 7 9 := ⟨by decide +kernel, rfl, by decide⟩
theorem dX12_lasts_7 : Dconst prog_14_method_20_code 7 (-1) 8 := Or.inl ⟨(-1), by decide +kernel, rfl, rfl⟩
theorem dX12_lasts_8 : D1 prog_14_method_20_code 8 (.ireturn) 9 := ⟨by decide +kernel, rfl⟩
theorem dX12_lasts_9 : Dconst prog_14_method_20_code 9 0 10 := Or.inl ⟨0, by decide +kernel, rfl, rfl⟩
theorem dX12_lasts_10 : Distore prog_14_method_20_code 10 2 11 := Or.inl ⟨2, by decide +kernel, rfl, rfl⟩
theorem dX12_lasts_11 : Diload prog_14_method_20_code 11 2 12 := Or.inl ⟨2, by decide +kernel, rfl, rfl⟩
theorem dX12_lasts_12 : Daload prog_14_method_20_code 12 0 13 := Or.inl ⟨0, by decide +kernel, rfl, rfl⟩
theorem dX12_lasts_13 : D3 prog_14_method_20_code 13 (.getfield 126) 16 := ⟨by decide +kernel, rfl⟩
theorem dX12_lasts_16 : Dj prog_14_method_20_code 16 (.if_icmp .ge 33) 33 19 49 := ⟨by decide +kernel, rfl, by decide⟩
theorem dX12_lasts_19 : Daload prog_14_method_20_code 19 0 20 := Or.inl ⟨0, by decide +kernel, rfl, rfl⟩
theorem dX12_lasts_20 : D3 prog_14_method_20_code 20 (.getfield 76) 23 := ⟨by decide +kernel, rfl⟩
theorem dX12_lasts_23 : Diload prog_14_method_20_code 23 2 24 := Or.inl ⟨2, by decide +kernel, rfl, rfl⟩
theorem dX12_lasts_24 : Daload prog_14_method_20_code 24 0 25 := Or.inl ⟨0, by decide +kernel, rfl, rfl⟩
theorem dX12_lasts_25 : D3 prog_14_method_20_code 25 (.getfield 34) 28 := ⟨by decide +kernel, rfl⟩
theorem dX12_lasts_28 : Diload prog_14_method_20_code 28 2 29 := Or.inl ⟨2, by decide +kernel, rfl, rfl⟩
theorem dX12_lasts_29 : D1 prog_14_method_20_code 29 (.iaload) 30 := ⟨by decide +kernel, rfl⟩
theorem dX12_lasts_30 : D1 prog_14_method_20_code 30 (.iastore) 31 := ⟨by decide +kernel, rfl⟩
theorem dX12_lasts_31 : Daload prog_14_method_20_code 31 0 32 := Or.inl ⟨0, by decide +kernel, rfl, rfl⟩
theorem dX12_lasts_32 : D3 prog_14_method_20_code 32 (.getfield 79) 35 := ⟨by decide +kernel, rfl⟩
theorem dX12_lasts_35 : Diload prog_14_method_20_code 35 2 36 := Or.inl ⟨2, by decide +kernel, rfl, rfl⟩
theorem dX12_lasts_36 : Daload prog_14_method_20_code 36 0 37 := Or.inl ⟨0, by decide +kernel, rfl, rfl⟩
theorem dX12_lasts_37 : D3 prog_14_method_20_code 37 (.getfield 40) 40 := ⟨by decide +kernel, rfl⟩
theorem dX12_lasts_40 : Diload prog_14_method_20_code 40 2 41 := Or.inl ⟨2, by decide +kernel, rfl, rfl⟩
theorem dX12_lasts_41 : D1 prog_14_method_20_code 41 (.iaload) 42 := ⟨by decide +kernel, rfl⟩
theorem dX12_lasts_42 : D1 prog_14_method_20_code 42 (.iastore) 43 := ⟨by decide +kernel, rfl⟩
theorem dX12_lasts_43 : Diinc prog_14_method_20_code 43 2 1 46 := ⟨1, by decide +kernel, rfl, rfl⟩
theorem dX12_lasts_46 : Dj prog_14_method_20_code 46 (.goto (-35)) (-35) 49 11 := ⟨by decide +kernel, rfl, by decide⟩
theorem dX12_lasts_49 : Dconst prog_14_method_20_code 49 0 50 := Or.inl ⟨0, by decide +kernel, rfl, rfl⟩
theorem dX12_lasts_50 : Distore prog_14_method_20_code 50 2 51 := Or.inl ⟨2, by decide +kernel, rfl, rfl⟩
theorem dX12_lasts_51 : Diload prog_14_method_20_code 51 2 52 := Or.inl ⟨2, by decide +kernel, rfl, rfl⟩
theorem dX12_lasts_52 : Dconst prog_14_method_20_code 52 4 53 := Or.inl ⟨4, by decide +kernel, rfl, rfl⟩
theorem dX12_lasts_53 : Dj prog_14_method_20_code 53 (.if_icmp .ge 25) 25 56 78 := ⟨by decide +kernel, rfl, by decide⟩
theorem dX12_lasts_56 : Daload prog_14_method_20_code 56 0 57 := Or.inl ⟨0, by decide +kernel, rfl, rfl⟩
theorem dX12_lasts_57 : D3 prog_14_method_20_code 57 (.getfield 82) 60 := ⟨by decide +kernel, rfl⟩
theorem dX12_lasts_60 : Diload prog_14_method_20_code 60 2 61 := Or.inl ⟨2, by decide +kernel, rfl, rfl⟩
theorem dX12_lasts_61 : Daload prog_14_method_20_code 61 0 62 := Or.inl ⟨0, by decide +kernel, rfl, rfl⟩
theorem dX12_lasts_62 : D3 prog_14_method_20_code 62 (.getfield 64) 65 := ⟨by decide +kernel, rfl⟩
theorem dX12_lasts_65 : Dconst prog_14_method_20_code 65 4 66 := Or.inl ⟨4, by decide +kernel, rfl, rfl⟩
theorem dX12_lasts_66 : Diload prog_14_method_20_code 66 1 67 := Or.inl ⟨1, by decide +kernel, rfl, rfl⟩
theorem dX12_lasts_67 : D1 prog_14_method_20_code 67 (.imul) 68 := ⟨by decide +kernel, rfl⟩
theorem dX12_lasts_68 : Diload prog_14_method_20_code 68 2 69 := Or.inl ⟨2, by decide +kernel, rfl, rfl⟩
theorem dX12_lasts_69 : D1 prog_14_method_20_code 69 (.iadd) 70 := ⟨by decide +kernel, rfl⟩
theorem dX12_lasts_70 : D1 prog_14_method_20_code 70 (.iaload) 71 := ⟨by decide +kernel, rfl⟩
theorem dX12_lasts_71 : D1 prog_14_method_20_code 71 (.iastore) 72 := ⟨by decide +kernel, rfl⟩
theorem dX12_lasts_72 : Diinc prog_14_method_20_code 72 2 1 75 := ⟨1, by decide +kernel, rfl, rfl⟩
theorem dX12_lasts_75 : Dj prog_14_method_20_code 75 (.goto (-24)) (-24) 78 51 := ⟨by decide +kernel, rfl, by decide⟩
theorem dX12_lasts_78 : Dconst prog_14_method_20_code 78 0 79 := Or.inl ⟨0, by decide +kernel, rfl, rfl⟩
theorem dX12_lasts_79 : Distore prog_14_method_20_code 79 2 80 := Or.inl ⟨2, by decide +kernel, rfl, rfl⟩
theorem dX12_lasts_80 : Diload prog_14_method_20_code 80 2 81 := Or.inl ⟨2, by decide +kernel, rfl, rfl⟩
theorem dX12_lasts_81 : Dconst prog_14_method_20_code 81 60 83 := Or.inr (Or.inl ⟨60, by decide +kernel, rfl, rfl⟩)
theorem dX12_lasts_83 : Dj prog_14_method_20_code 83 (.if_icmp .ge 23) 23 86 106 := ⟨by decide +kernel, rfl, by decide⟩
theorem dX12_lasts_86 : Daload prog_14_method_20_code 86 0 87 := Or.inl ⟨0, by decide +kernel, rfl, rfl⟩
theorem dX12_lasts_87 : Diload prog_14_method_20_code 87 1 88 := Or.inl ⟨1, by decide +kernel, rfl, rfl⟩
theorem dX12_lasts_88 : Daload prog_14_method_20_code 88 0 89 := Or.inl ⟨0, by decide +kernel, rfl, rfl⟩
theorem dX12_lasts_89 : D3 prog_14_method_20_code 89 (.getfield 131) 92 := ⟨by decide +kernel, rfl⟩
theorem dX12_lasts_92 : Diload prog_14_method_20_code 92 2 93 := Or.inl ⟨2, by decide +kernel, rfl, rfl⟩
theorem dX12_lasts_93 : D1 prog_14_method_20_code 93 (.iadd) 94 := ⟨by decide +kernel, rfl⟩
theorem dX12_lasts_94 : D3 prog_14_method_20_code 94 (.invokevirtual 168) 97 := ⟨by decide +kernel, rfl⟩
theorem dX12_lasts_97 : Dj prog_14_method_20_code 97 (.ifCond .eq 9) 9 100 106 := ⟨by decide +kernel, rfl, by decide⟩
theorem dX12_lasts_100 : Diinc prog_14_method_20_code 100 2 1 103 := ⟨1, by decide +kernel, rfl, rfl⟩
theorem dX12_lasts_103 : Dj prog_14_method_20_code 103 (.goto (-23)) (-23) 106 80 := ⟨by decide +kernel, rfl, by decide⟩
theorem dX12_lasts_106 : Diload prog_14_method_20_code 106 2 107 := Or.inl ⟨2, by decide +kernel, rfl, rfl⟩
theorem dX12_lasts_107 : D1 prog_14_method_20_code 107 (.ireturn) 108 := ⟨by decide +kernel, rfl⟩
theorem dX12_lastsWeek_0 : Dconst prog_14_method_19_code 0 0 1 := Or.inl ⟨0, by decide +kernel, rfl, rfl⟩
theorem dX12_lastsWeek_1 : Distore prog_14_method_19_code 1 3 2 := Or.inl ⟨3, by decide +kernel, rfl, rfl⟩
theorem dX12_lastsWeek_2 : Diload prog_14_method_19_code 2 3 3 := Or.inl ⟨3, by decide +kernel, rfl, rfl⟩
theorem dX12_lastsWeek_3 : Daload prog_14_method_19_code 3 0 4 := Or.inl ⟨0, by decide +kernel, rfl, rfl⟩
theorem dX12_lastsWeek_4 : D3 prog_14_method_19_code 4 (.getfield 126) 7 := ⟨by decide +kernel, rfl⟩
theorem dX12_lastsWeek_7 : Dj prog_14_method_19_code 7 (.if_icmp .ge 101) 101 10 108 := ⟨by decide +kernel, rfl, by decide⟩
theorem dX12_lastsWeek_10 : Daload prog_14_method_19_code 10 0 11 := Or.inl ⟨0, by decide +kernel, rfl, rfl⟩
theorem dX12_lastsWeek_11 : D3 prog_14_method_19_code 11 (.getfield 37) 14 := ⟨by decide +kernel, rfl⟩
theorem dX12_lastsWeek_14 : Diload prog_14_method_19_code 14 3 15 := Or.inl ⟨3, by decide +kernel, rfl, rfl⟩
theorem dX12_lastsWeek_15 : D1 prog_14_method_19_code 15 (.iaload) 16 := ⟨by decide +kernel, rfl⟩
theorem dX12_lastsWeek_16 : Diload prog_14_method_19_code 16 1 17 := Or.inl ⟨1, by decide +kernel, rfl, rfl⟩
theorem dX12_lastsWeek_17 : Dj prog_14_method_19_code 17 (.if_icmp .eq 6) 6 20 23 := ⟨by decide +kernel, rfl, by decide⟩
theorem dX12_lastsWeek_20 : Dj prog_14_method_19_code 20 (.goto 82) 82 23 102 := ⟨by decide +kernel, rfl, by decide⟩
theorem dX12_lastsWeek_23 : Daload prog_14_method_19_code 23 0 24 := Or.inl ⟨0, by decide +kernel, rfl, rfl⟩
theorem dX12_lastsWeek_24 : D3 prog_14_method_19_code 24 (.getfield 79) 27 := ⟨by decide +kernel, rfl⟩
theorem dX12_lastsWeek_27 : Diload prog_14_method_19_code 27 3 28 := Or.inl ⟨3, by decide +kernel, rfl, rfl⟩
theorem dX12_lastsWeek_28 : D1 prog_14_method_19_code 28 (.iaload) 29 := ⟨by decide +kernel, rfl⟩
theorem dX12_lastsWeek_29 : Dconst prog_14_method_19_code 29 (-1) 30 := Or.inl ⟨(-1), by decide +kernel, rfl, rfl⟩
theorem dX12_lastsWeek_30 : Dj prog_14_method_19_code 30 (.if_icmp .eq 20) 20 33 50 := ⟨by decide +kernel, rfl, by decide⟩
theorem dX12_lastsWeek_33 : Daload prog_14_method_19_code 33 0 34 := Or.inl ⟨0, by decide +kernel, rfl, rfl⟩
theorem dX12_lastsWeek_34 : D3 prog_14_method_19_code 34 (.getfield 79) 37 := ⟨by decide +kernel, rfl⟩
theorem dX12_lastsWeek_37 : Diload prog_14_method_19_code 37 3 38 := Or.inl ⟨3, by decide +kernel, rfl, rfl⟩
theorem dX12_lastsWeek_38 : D1 prog_14_method_19_code 38 (.iaload) 39 := ⟨by decide +kernel, rfl⟩
theorem dX12_lastsWeek_39 : Diload prog_14_method_19_code 39 2 40 := Or.inl ⟨2, by decide +kernel, rfl, rfl⟩
theorem dX12_lastsWeek_40 : Dj prog_14_method_19_code 40 (.if_icmp .gt 10) 10 43 50 := ⟨by decide +kernel, rfl, by decide⟩
theorem dX12_lastsWeek_43 : Daload prog_14_method_19_code 43 0 44 := Or.inl ⟨0, by decide +kernel, rfl, rfl⟩
theorem dX12_lastsWeek_44 : D3 prog_14_method_19_code 44 (.getfield 79) 47 := ⟨by decide +kernel, rfl⟩
theorem dX12_lastsWeek_47 : Diload prog_14_method_19_code 47 3 48 := Or.inl ⟨3, by decide +kernel, rfl, rfl⟩
theorem dX12_lastsWeek_48 : Dconst prog_14_method_19_code 48 (-1) 49 := Or.inl ⟨(-1), by decide +kernel, rfl, rfl⟩
theorem dX12_lastsWeek_49 : D1 prog_14_method_19_code 49 (.iastore) 50 := ⟨by decide +kernel, rfl⟩
theorem dX12_lastsWeek_50 : Daload prog_14_method_19_code 50 0 51 := Or.inl ⟨0, by decide +kernel, rfl, rfl⟩
theorem dX12_lastsWeek_51 : D3 prog_14_method_19_code 51 (.getfield 76) 54 := ⟨by decide +kernel, rfl⟩
theorem dX12_lastsWeek_54 : Diload prog_14_method_19_code 54 3 55 := Or.inl ⟨3, by decide +kernel, rfl, rfl⟩
theorem dX12_lastsWeek_55 : D1 prog_14_method_19_code 55 (.dup2) 56 := ⟨by decide +kernel, rfl⟩
theorem dX12_lastsWeek_56 : D1 prog_14_method_19_code 56 (.iaload) 57 := ⟨by decide +kernel, rfl⟩
theorem dX12_lastsWeek_57 : Daload prog_14_method_19_code 57 0 58 := Or.inl ⟨0, by decide +kernel, rfl, rfl⟩
theorem dX12_lastsWeek_58 : D3 prog_14_method_19_code 58 (.getfield 76) 61 := ⟨by decide +kernel, rfl⟩
theorem dX12_lastsWeek_61 : Diload prog_14_method_19_code 61 3 62 := Or.inl ⟨3, by decide +kernel, rfl, rfl⟩
theorem dX12_lastsWeek_62 : D1 prog_14_method_19_code 62 (.iaload) 63 := ⟨by decide +kernel, rfl⟩
theorem dX12_lastsWeek_63 : Daload prog_14_method_19_code 63 0 64 := Or.inl ⟨0, by decide +kernel, rfl, rfl⟩
theorem dX12_lastsWeek_64 : Daload prog_14_method_19_code 64 0 65 := Or.inl ⟨0, by decide +kernel, rfl, rfl⟩
theorem dX12_lastsWeek_65 : D3 prog_14_method_19_code 65 (.getfield 28) 68 := ⟨by decide +kernel, rfl⟩
theorem dX12_lastsWeek_68 : Diload prog_14_method_19_code 68 3 69 := Or.inl ⟨3, by decide +kernel, rfl, rfl⟩
theorem dX12_lastsWeek_69 : D1 prog_14_method_19_code 69 (.iaload) 70 := ⟨by decide +kernel, rfl⟩
theorem dX12_lastsWeek_70 : Diload prog_14_method_19_code 70 2 71 := Or.inl ⟨2, by decide +kernel, rfl, rfl⟩
theorem dX12_lastsWeek_71 : Daload prog_14_method_19_code 71 0 72 := Or.inl ⟨0, by decide +kernel, rfl, rfl⟩
theorem dX12_lastsWeek_72 : D3 prog_14_method_19_code 72 (.getfield 31) 75 := ⟨by decide +kernel, rfl⟩
theorem dX12_lastsWeek_75 : Diload prog_14_method_19_code 75 3 76 := Or.inl ⟨3, by decide +kernel, rfl, rfl⟩
theorem dX12_lastsWeek_76 : D1 prog_14_method_19_code 76 (.iaload) 77 := ⟨by decide +kernel, rfl⟩
theorem dX12_lastsWeek_77 : Daload prog_14_method_19_code 77 0 78 := Or.inl ⟨0, by decide +kernel, rfl, rfl⟩
theorem dX12_lastsWeek_78 : D3 prog_14_method_19_code 78 (.getfield 79) 81 := ⟨by decide +kernel, rfl⟩
theorem dX12_lastsWeek_81 : Diload prog_14_method_19_code 81 3 82 := Or.inl ⟨3, by decide +kernel, rfl, rfl⟩
theorem dX12_lastsWeek_82 : D1 prog_14_method_19_code 82 (.iaload) 83 := ⟨by decide +kernel, rfl⟩
theorem dX12_lastsWeek_83 : Dconst prog_14_method_19_code 83 (-1) 84 := Or.inl ⟨(-1), by decide +kernel, rfl, rfl⟩
theorem dX12_lastsWeek_84 : Dj prog_14_method_19_code 84 (.if_icmp .eq 7) 7 87 91 := ⟨by decide +kernel, rfl, by decide⟩
theorem dX12_lastsWeek_87 : Dconst prog_14_method_19_code 87 1 88 := Or.inl ⟨1, by decide +kernel, rfl, rfl⟩
theorem dX12_lastsWeek_88 : Dj prog_14_method_19_code 88 (.goto 4) 4 91 92 := ⟨by decide +kernel, rfl, by decide⟩
theorem dX12_lastsWeek_91 : Dconst prog_14_method_19_code 91 0 92 := Or.inl ⟨0, by decide +kernel, rfl, rfl⟩
theorem dX12_lastsWeek_92 : D3 prog_14_method_19_code 92 (.invokevirtual 150) 95 := ⟨by decide +kernel, rfl⟩
theorem dX12_lastsWeek_95 : D1 prog_14_method_19_code 95 (.imul) 96 := ⟨by decide +kernel, rfl⟩
theorem dX12_lastsWeek_96 : Dconst prog_14_method_19_code 96 1000 99 := Or.inr (Or.inr ⟨1000, by decide +kernel, rfl, rfl⟩)
theorem dX12_lastsWeek_99 : D1 prog_14_method_19_code 99 (.idiv) 100 := ⟨by decide +kernel, rfl⟩
theorem dX12_lastsWeek_100 : D1 prog_14_method_19_code 100 (.isub) 101 := ⟨by decide +kernel, rfl⟩
theorem dX12_lastsWeek_101 : D1 prog_14_method_19_code 101 (.iastore) 102 := ⟨by decide +kernel, rfl⟩
theorem dX12_lastsWeek_102 : Diinc prog_14_method_19_code 102 3 1 105 := ⟨1, by decide +kernel, rfl, rfl⟩
theorem dX12_lastsWeek_105 : Dj prog_14_method_19_code 105 (.goto (-103)) (-103) 108 2 := ⟨by decide +kernel, rfl, by decide⟩
theorem dX12_lastsWeek_108 : Dconst prog_14_method_19_code 108 0 109 := Or.inl ⟨0, by decide +kernel, rfl, rfl⟩
theorem dX12_lastsWeek_109 : Distore prog_14_method_19_code 109 3 110 := Or.inl ⟨3, by decide +kernel, rfl, rfl⟩
theorem dX12_lastsWeek_110 : Diload prog_14_method_19_code 110 3 111 := Or.inl ⟨3, by decide +kernel, rfl, rfl⟩
theorem dX12_lastsWeek_111 : Dconst prog_14_method_19_code 111 4 112 := Or.inl ⟨4, by decide +kernel, rfl, rfl⟩
theorem dX12_lastsWeek_112 : Dj prog_14_method_19_code 112 (.if_icmp .ge 129) 129 115 241 := ⟨by decide +kernel, rfl, by decide⟩
theorem dX12_lastsWeek_115 : Dconst prog_14_method_19_code 115 7 117 := Or.inr (Or.inl ⟨7, by decide +kernel, rfl, rfl⟩)
theorem dX12_lastsWeek_117 : Daload prog_14_method_19_code 117 0 118 := Or.inl ⟨0, by decide +kernel, rfl, rfl⟩
theorem dX12_lastsWeek_118 : D3 prog_14_method_19_code 118 (.getfield 9) 121 := ⟨by decide +kernel, rfl⟩
theorem dX12_lastsWeek_121 : Diload prog_14_method_19_code 121 1 122 := Or.inl ⟨1, by decide +kernel, rfl, rfl⟩
theorem dX12_lastsWeek_122 : D1 prog_14_method_19_code 122 (.iaload) 123 := ⟨by decide +kernel, rfl⟩
theorem dX12_lastsWeek_123 : D1 prog_14_method_19_code 123 (.imul) 124 := ⟨by decide +kernel, rfl⟩
theorem dX12_lastsWeek_124 : Distore prog_14_method_19_code 124 4 126 := Or.inr ⟨by decide +kernel, rfl⟩
theorem dX12_lastsWeek_126 : Diload prog_14_method_19_code 126 4 128 := Or.inr ⟨by decide +kernel, rfl⟩
theorem dX12_lastsWeek_128 : Daload prog_14_method_19_code 128 0 129 := Or.inl ⟨0, by decide +kernel, rfl, rfl⟩
theorem dX12_lastsWeek_129 : D3 prog_14_method_19_code 129 (.getfield 82) 132 := ⟨by decide +kernel, rfl⟩
theorem dX12_lastsWeek_132 : Diload prog_14_method_19_code 132 3 133 := Or.inl ⟨3, by decide +kernel, rfl, rfl⟩
theorem dX12_lastsWeek_133 : D1 prog_14_method_19_code 133 (.iaload) 134 := ⟨by decide +kernel, rfl⟩
theorem dX12_lastsWeek_134 : D3 prog_14_method_19_code 134 (.invokestatic 144) 137 := ⟨by decide +kernel, rfl⟩
theorem dX12_lastsWeek_137 : Distore prog_14_method_19_code 137 5 139 := Or.inr ⟨by decide +kernel, rfl⟩
theorem dX12_lastsWeek_139 : Daload prog_14_method_19_code 139 0 140 := Or.inl ⟨0, by decide +kernel, rfl, rfl⟩
theorem dX12_lastsWeek_140 : D3 prog_14_method_19_code 140 (.getfield 82) 143 := ⟨by decide +kernel, rfl⟩
theorem dX12_lastsWeek_143 : Diload prog_14_method_19_code 143 3 144 := Or.inl ⟨3, by decide +kernel, rfl, rfl⟩
theorem dX12_lastsWeek_144 : D1 prog_14_method_19_code 144 (.dup2) 145 := ⟨by decide +kernel, rfl⟩
theorem dX12_lastsWeek_145 : D1 prog_14_method_19_code 145 (.iaload) 146 := ⟨by decide +kernel, rfl⟩
theorem dX12_lastsWeek_146 : Diload prog_14_method_19_code 146 5 148 := Or.inr ⟨by decide +kernel, rfl⟩
theorem dX12_lastsWeek_148 : D1 prog_14_method_19_code 148 (.isub) 149 := ⟨by decide +kernel, rfl⟩
theorem dX12_lastsWeek_149 : D1 prog_14_method_19_code 149 (.iastore) 150 := ⟨by decide +kernel, rfl⟩
theorem dX12_lastsWeek_150 : Diload prog_14_method_19_code 150 4 152 := Or.inr ⟨by decide +kernel, rfl⟩
theorem dX12_lastsWeek_152 : Diload prog_14_method_19_code 152 5 154 := Or.inr ⟨by decide +kernel, rfl⟩
theorem dX12_lastsWeek_154 : D1 prog_14_method_19_code 154 (.isub) 155 := ⟨by decide +kernel, rfl⟩
theorem dX12_lastsWeek_155 : Distore prog_14_method_19_code 155 4 157 := Or.inr ⟨by decide +kernel, rfl⟩
theorem dX12_lastsWeek_157 : Diload prog_14_method_19_code 157 4 159 := Or.inr ⟨by decide +kernel, rfl⟩
theorem dX12_lastsWeek_159 : Dj prog_14_method_19_code 159 (.ifCond .le 76) 76 162 235 := ⟨by decide +kernel, rfl, by decide⟩
theorem dX12_lastsWeek_162 : Daload prog_14_method_19_code 162 0 163 := Or.inl ⟨0, by decide +kernel, rfl, rfl⟩
theorem dX12_lastsWeek_163 : Diload prog_14_method_19_code 163 1 164 := Or.inl ⟨1, by decide +kernel, rfl, rfl⟩
theorem dX12_lastsWeek_164 : Diload prog_14_method_19_code 164 3 165 := Or.inl ⟨3, by decide +kernel, rfl, rfl⟩
theorem dX12_lastsWeek_165 : Daload prog_14_method_19_code 165 0 166 := Or.inl ⟨0, by decide +kernel, rfl, rfl⟩
theorem dX12_lastsWeek_166 : D3 prog_14_method_19_code 166 (.getfield 76) 169 := ⟨by decide +kernel, rfl⟩
theorem dX12_lastsWeek_169 : Daload prog_14_method_19_code 169 0 170 := Or.inl ⟨0, by decide +kernel, rfl, rfl⟩
theorem dX12_lastsWeek_170 : D3 prog_14_method_19_code 170 (.getfield 79) 173 := ⟨by decide +kernel, rfl⟩
theorem dX12_lastsWeek_173 : D3 prog_14_method_19_code 173 (.invokevirtual 161) 176 := ⟨by decide +kernel, rfl⟩
theorem dX12_lastsWeek_176 : Distore prog_14_method_19_code 176 6 178 := Or.inr ⟨by decide +kernel, rfl⟩
theorem dX12_lastsWeek_178 : Diload prog_14_method_19_code 178 6 180 := Or.inr ⟨by decide +kernel, rfl⟩
theorem dX12_lastsWeek_180 : Dconst prog_14_method_19_code 180 (-1) 181 := Or.inl ⟨(-1), by decide +kernel, rfl, rfl⟩
theorem dX12_lastsWeek_181 : Dj prog_14_method_19_code 181 (.if_icmp .ne 5) 5 184 186 := ⟨by decide +kernel, rfl, by decide⟩
theorem dX12_lastsWeek_184 : Dconst prog_14_method_19_code 184 0 185 := Or.inl ⟨0, by decide +kernel, rfl, rfl⟩
theorem dX12_lastsWeek_185 : D1 prog_14_method_19_code 185 (.ireturn) 186 := ⟨by decide +kernel, rfl⟩
theorem dX12_lastsWeek_186 : Daload prog_14_method_19_code 186 0 187 := Or.inl ⟨0, by decide +kernel, rfl, rfl⟩
theorem dX12_lastsWeek_187 : D3 prog_14_method_19_code 187 (.getfield 76) 190 := ⟨by decide +kernel, rfl⟩
theorem dX12_lastsWeek_190 : Diload prog_14_method_19_code 190 6 192 := Or.inr ⟨by decide +kernel, rfl⟩
theorem dX12_lastsWeek_192 : D1 prog_14_method_19_code 192 (.dup2) 193 := ⟨by decide +kernel, rfl⟩
theorem dX12_lastsWeek_193 : D1 prog_14_method_19_code 193 (.iaload) 194 := ⟨by decide +kernel, rfl⟩
theorem dX12_lastsWeek_194 : Dconst prog_14_method_19_code 194 1 195 := Or.inl ⟨1, by decide +kernel, rfl, rfl⟩
theorem dX12_lastsWeek_195 : D1 prog_14_method_19_code 195 (.isub) 196 := ⟨by decide +kernel, rfl⟩
theorem dX12_lastsWeek_196 : D1 prog_14_method_19_code 196 (.iastore) 197 := ⟨by decide +kernel, rfl⟩
theorem dX12_lastsWeek_197 : Diload prog_14_method_19_code 197 4 199 := Or.inr ⟨by decide +kernel, rfl⟩
theorem dX12_lastsWeek_199 : Daload prog_14_method_19_code 199 0 200 := Or.inl ⟨0, by decide +kernel, rfl, rfl⟩
theorem dX12_lastsWeek_200 : D3 prog_14_method_19_code 200 (.getfield 13) 203 := ⟨by decide +kernel, rfl⟩
theorem dX12_lastsWeek_203 : Diload prog_14_method_19_code 203 3 204 := Or.inl ⟨3, by decide +kernel, rfl, rfl⟩
theorem dX12_lastsWeek_204 : D1 prog_14_method_19_code 204 (.iaload) 205 := ⟨by decide +kernel, rfl⟩
theorem dX12_lastsWeek_205 : D3 prog_14_method_19_code 205 (.invokestatic 144) 208 := ⟨by decide +kernel, rfl⟩
theorem dX12_lastsWeek_208 : Distore prog_14_method_19_code 208 7 210 := Or.inr ⟨by decide +kernel, rfl⟩
theorem dX12_lastsWeek_210 : Diload prog_14_method_19_code 210 4 212 := Or.inr ⟨by decide +kernel, rfl⟩
theorem dX12_lastsWeek_212 : Diload prog_14_method_19_code 212 7 214 := Or.inr ⟨by decide +kernel, rfl⟩
theorem dX12_lastsWeek_214 : D1 prog_14_method_19_code 214 (.isub) 215 := ⟨by decide +kernel, rfl⟩
theorem dX12_lastsWeek_215 : Distore prog_14_method_19_code 215 4 217 := Or.inr ⟨by decide +kernel, rfl⟩
theorem dX12_lastsWeek_217 : Daload prog_14_method_19_code 217 0 218 := Or.inl ⟨0, by decide +kernel, rfl, rfl⟩
theorem dX12_lastsWeek_218 : D3 prog_14_method_19_code 218 (.getfield 82) 221 := ⟨by decide +kernel, rfl⟩
theorem dX12_lastsWeek_221 : Diload prog_14_method_19_code 221 3 222 := Or.inl ⟨3, by decide +kernel, rfl, rfl⟩
theorem dX12_lastsWeek_222 : Daload prog_14_method_19_code 222 0 223 := Or.inl ⟨0, by decide +kernel, rfl, rfl⟩
theorem dX12_lastsWeek_223 : D3 prog_14_method_19_code 223 (.getfield 13) 226 := ⟨by decide +kernel, rfl⟩
theorem dX12_lastsWeek_226 : Diload prog_14_method_19_code 226 3 227 := Or.inl ⟨3, by decide +kernel, rfl, rfl⟩
theorem dX12_lastsWeek_227 : D1 prog_14_method_19_code 227 (.iaload) 228 := ⟨by decide +kernel, rfl⟩
theorem dX12_lastsWeek_228 : Diload prog_14_method_19_code 228 7 230 := Or.inr ⟨by decide +kernel, rfl⟩
theorem dX12_lastsWeek_230 : D1 prog_14_method_19_code 230 (.isub) 231 := ⟨by decide +kernel, rfl⟩
theorem dX12_lastsWeek_231 : D1 prog_14_method_19_code 231 (.iastore) 232 := ⟨by decide +kernel, rfl⟩
theorem dX12_lastsWeek_232 : Dj prog_14_method_19_code 232 (.goto (-75)) (-75) 235 157 := ⟨by decide +kernel, rfl, by decide⟩
theorem dX12_lastsWeek_235 : Diinc prog_14_method_19_code 235 3 1 238 := ⟨1, by decide +kernel, rfl, rfl⟩
theorem dX12_lastsWeek_238 : Dj prog_14_method_19_code 238 (.goto (-128)) (-128) 241 110 := ⟨by decide +kernel, rfl, by decide⟩
theorem dX12_lastsWeek_241 : Dconst prog_14_method_19_code 241 1 242 := Or.inl ⟨1, by decide +kernel, rfl, rfl⟩
theorem dX12_lastsWeek_242 : D1 prog_14_method_19_code 242 (.ireturn) 243 := ⟨by decide +kernel, rfl⟩
theorem dX12_lot_0 : Daload prog_14_method_21_code 0 0 1 := Or.inl ⟨0, by decide +kernel, rfl, rfl⟩
theorem dX12_lot_1 : Diload prog_14_method_21_code 1 1 2 := Or.inl ⟨1, by decide +kernel, rfl, rfl⟩
theorem dX12_lot_2 : D3 prog_14_method_21_code 2 (.invokevirtual 141) 5 := ⟨by decide +kernel, rfl⟩
theorem dX12_lot_5 : Dj prog_14_method_21_code 5 (.ifCond .ne 5) 5 8 10 := ⟨by decide +kernel, rfl, by decide⟩
theorem dX12_lot_8 : Dconst prog_14_method_21_code 8 (-1) 9 := Or.inl ⟨(-1), by decide +kernel, rfl, rfl⟩
theorem dX12_lot_9 : D1 prog_14_method_21_code 9 (.ireturn) 10 := ⟨by decide +kernel, rfl⟩
theorem dX12_lot_10 : Diload prog_14_method_21_code 10 2 11 := Or.inl ⟨2, by decide +kernel, rfl, rfl⟩
theorem dX12_lot_11 : decode prog_14_method_21_code 11 = .ok (.tableswitch 101 0 7 #[45, 52, 59, 66, 73, 80, 87, 94], 45) := by decide +kernel
theorem dX12_lot_56 : Daload prog_14_method_21_code 56 0 57 := Or.inl ⟨0, by decide +kernel, rfl, rfl⟩
theorem dX12_lot_57 : D3 prog_14_method_21_code 57 (.getfield 25) 60 := ⟨by decide +kernel, rfl⟩
theorem dX12_lot_60 : Diload prog_14_method_21_code 60 1 61 := Or.inl ⟨1, by decide +kernel, rfl, rfl⟩
theorem dX12_lot_61 : D1 prog_14_method_21_code 61 (.iaload) 62 := ⟨by decide +kernel, rfl⟩
theorem dX12_lot_62 : D1 prog_14_method_21_code 62 (.ireturn) 63 := ⟨by decide +kernel, rfl⟩
theorem dX12_lot_63 : Daload prog_14_method_21_code 63 0 64 := Or.inl ⟨0, by decide +kernel, rfl, rfl⟩
theorem dX12_lot_64 : D3 prog_14_method_21_code 64 (.getfield 28) 67 := ⟨by decide +kernel, rfl⟩
theorem dX12_lot_67 : Diload prog_14_method_21_code 67 1 68 := Or.inl ⟨1, by decide +kernel, rfl, rfl⟩
theorem dX12_lot_68 : D1 prog_14_method_21_code 68 (.iaload) 69 := ⟨by decide +kernel, rfl⟩
theorem dX12_lot_69 : D1 prog_14_method_21_code 69 (.ireturn) 70 := ⟨by decide +kernel, rfl⟩
theorem dX12_lot_70 : Daload prog_14_method_21_code 70 0 71 := Or.inl ⟨0, by decide +kernel, rfl, rfl⟩
theorem dX12_lot_71 : D3 prog_14_method_21_code 71 (.getfield 31) 74 := ⟨by decide +kernel, rfl⟩
theorem dX12_lot_74 : Diload prog_14_method_21_code 74 1 75 := Or.inl ⟨1, by decide +kernel, rfl, rfl⟩
theorem dX12_lot_75 : D1 prog_14_method_21_code 75 (.iaload) 76 := ⟨by decide +kernel, rfl⟩
theorem dX12_lot_76 : D1 prog_14_method_21_code 76 (.ireturn) 77 := ⟨by decide +kernel, rfl⟩
theorem dX12_lot_77 : Daload prog_14_method_21_code 77 0 78 := Or.inl ⟨0, by decide +kernel, rfl, rfl⟩
theorem dX12_lot_78 : D3 prog_14_method_21_code 78 (.getfield 34) 81 := ⟨by decide +kernel, rfl⟩
theorem dX12_lot_81 : Diload prog_14_method_21_code 81 1 82 := Or.inl ⟨1, by decide +kernel, rfl, rfl⟩
theorem dX12_lot_82 : D1 prog_14_method_21_code 82 (.iaload) 83 := ⟨by decide +kernel, rfl⟩
theorem dX12_lot_83 : D1 prog_14_method_21_code 83 (.ireturn) 84 := ⟨by decide +kernel, rfl⟩
theorem dX12_lot_84 : Daload prog_14_method_21_code 84 0 85 := Or.inl ⟨0, by decide +kernel, rfl, rfl⟩
theorem dX12_lot_85 : D3 prog_14_method_21_code 85 (.getfield 37) 88 := ⟨by decide +kernel, rfl⟩
theorem dX12_lot_88 : Diload prog_14_method_21_code 88 1 89 := Or.inl ⟨1, by decide +kernel, rfl, rfl⟩
theorem dX12_lot_89 : D1 prog_14_method_21_code 89 (.iaload) 90 := ⟨by decide +kernel, rfl⟩
theorem dX12_lot_90 : D1 prog_14_method_21_code 90 (.ireturn) 91 := ⟨by decide +kernel, rfl⟩
theorem dX12_lot_91 : Daload prog_14_method_21_code 91 0 92 := Or.inl ⟨0, by decide +kernel, rfl, rfl⟩
theorem dX12_lot_92 : D3 prog_14_method_21_code 92 (.getfield 40) 95 := ⟨by decide +kernel, rfl⟩
theorem dX12_lot_95 : Diload prog_14_method_21_code 95 1 96 := Or.inl ⟨1, by decide +kernel, rfl, rfl⟩
theorem dX12_lot_96 : D1 prog_14_method_21_code 96 (.iaload) 97 := ⟨by decide +kernel, rfl⟩
theorem dX12_lot_97 : D1 prog_14_method_21_code 97 (.ireturn) 98 := ⟨by decide +kernel, rfl⟩
theorem dX12_lot_98 : Daload prog_14_method_21_code 98 0 99 := Or.inl ⟨0, by decide +kernel, rfl, rfl⟩
theorem dX12_lot_99 : D3 prog_14_method_21_code 99 (.getfield 43) 102 := ⟨by decide +kernel, rfl⟩
theorem dX12_lot_102 : Diload prog_14_method_21_code 102 1 103 := Or.inl ⟨1, by decide +kernel, rfl, rfl⟩
theorem dX12_lot_103 : D1 prog_14_method_21_code 103 (.iaload) 104 := ⟨by decide +kernel, rfl⟩
theorem dX12_lot_104 : D1 prog_14_method_21_code 104 (.ireturn) 105 := ⟨by decide +kernel, rfl⟩
theorem dX12_lot_105 : Daload prog_14_method_21_code 105 0 106 := Or.inl ⟨0, by decide +kernel, rfl, rfl⟩
theorem dX12_lot_106 : D3 prog_14_method_21_code 106 (.getfield 46) 109 := ⟨by decide +kernel, rfl⟩
theorem dX12_lot_109 : Diload prog_14_method_21_code 109 1 110 := Or.inl ⟨1, by decide +kernel, rfl, rfl⟩
theorem dX12_lot_110 : D1 prog_14_method_21_code 110 (.iaload) 111 := ⟨by decide +kernel, rfl⟩
theorem dX12_lot_111 : D1 prog_14_method_21_code 111 (.ireturn) 112 := ⟨by decide +kernel, rfl⟩
theorem dX12_lot_112 : Dconst prog_14_method_21_code 112 (-1) 113 := Or.inl ⟨(-1), by decide +kernel, rfl, rfl⟩
theorem dX12_lot_113 : D1 prog_14_method_21_code 113 (.ireturn) 114 := ⟨by decide +kernel, rfl⟩
theorem dX12_stock_0 : Diload prog_14_method_22_code 0 1 1 := Or.inl ⟨1, by decide +kernel, rfl, rfl⟩
theorem dX12_stock_1 : D3 prog_14_method_22_code 1 (.invokestatic 119) 4 := ⟨by decide +kernel, rfl⟩
theorem dX12_stock_4 : Dj prog_14_method_22_code 4 (.ifCond .eq 19) 19 7 23 := ⟨by decide +kernel, rfl, by decide⟩
theorem dX12_stock_7 : Diload prog_14_method_22_code 7 2 8 := Or.inl ⟨2, by decide +kernel, rfl, rfl⟩
theorem dX12_stock_8 : D3 prog_14_method_22_code 8 (.invokestatic 123) 11 := ⟨by decide +kernel, rfl⟩
theorem dX12_stock_11 : Dj prog_14_method_22_code 11 (.ifCond .eq 12) 12 14 23 := ⟨by decide +kernel, rfl, by decide⟩
theorem dX12_stock_14 : Daload prog_14_method_22_code 14 0 15 := Or.inl ⟨0, by decide +kernel, rfl, rfl⟩
theorem dX12_stock_15 : Diload prog_14_method_22_code 15 1 16 := Or.inl ⟨1, by decide +kernel, rfl, rfl⟩
theorem dX12_stock_16 : Diload prog_14_method_22_code 16 2 17 := Or.inl ⟨2, by decide +kernel, rfl, rfl⟩
theorem dX12_stock_17 : D3 prog_14_method_22_code 17 (.invokevirtual 158) 20 := ⟨by decide +kernel, rfl⟩
theorem dX12_stock_20 : Dj prog_14_method_22_code 20 (.goto 4) 4 23 24 := ⟨by decide +kernel, rfl, by decide⟩
theorem dX12_stock_23 : Dconst prog_14_method_22_code 23 (-1) 24 := Or.inl ⟨(-1), by decide +kernel, rfl, rfl⟩
theorem dX12_stock_24 : D1 prog_14_method_22_code 24 (.ireturn) 25 := ⟨by decide +kernel, rfl⟩
theorem dX12_open_0 : Diload prog_14_method_23_code 0 1 1 := Or.inl ⟨1, by decide +kernel, rfl, rfl⟩
theorem dX12_open_1 : D3 prog_14_method_23_code 1 (.invokestatic 119) 4 := ⟨by decide +kernel, rfl⟩
theorem dX12_open_4 : Dj prog_14_method_23_code 4 (.ifCond .eq 23) 23 7 27 := ⟨by decide +kernel, rfl, by decide⟩
theorem dX12_open_7 : Diload prog_14_method_23_code 7 2 8 := Or.inl ⟨2, by decide +kernel, rfl, rfl⟩
theorem dX12_open_8 : D3 prog_14_method_23_code 8 (.invokestatic 123) 11 := ⟨by decide +kernel, rfl⟩
theorem dX12_open_11 : Dj prog_14_method_23_code 11 (.ifCond .eq 16) 16 14 27 := ⟨by decide +kernel, rfl, by decide⟩
theorem dX12_open_14 : Daload prog_14_method_23_code 14 0 15 := Or.inl ⟨0, by decide +kernel, rfl, rfl⟩
theorem dX12_open_15 : D3 prog_14_method_23_code 15 (.getfield 64) 18 := ⟨by decide +kernel, rfl⟩
theorem dX12_open_18 : Dconst prog_14_method_23_code 18 4 19 := Or.inl ⟨4, by decide +kernel, rfl, rfl⟩
theorem dX12_open_19 : Diload prog_14_method_23_code 19 1 20 := Or.inl ⟨1, by decide +kernel, rfl, rfl⟩
theorem dX12_open_20 : D1 prog_14_method_23_code 20 (.imul) 21 := ⟨by decide +kernel, rfl⟩
theorem dX12_open_21 : Diload prog_14_method_23_code 21 2 22 := Or.inl ⟨2, by decide +kernel, rfl, rfl⟩
theorem dX12_open_22 : D1 prog_14_method_23_code 22 (.iadd) 23 := ⟨by decide +kernel, rfl⟩
theorem dX12_open_23 : D1 prog_14_method_23_code 23 (.iaload) 24 := ⟨by decide +kernel, rfl⟩
theorem dX12_open_24 : Dj prog_14_method_23_code 24 (.goto 4) 4 27 28 := ⟨by decide +kernel, rfl, by decide⟩
theorem dX12_open_27 : Dconst prog_14_method_23_code 27 (-1) 28 := Or.inl ⟨(-1), by decide +kernel, rfl, rfl⟩
theorem dX12_open_28 : D1 prog_14_method_23_code 28 (.ireturn) 29 := ⟨by decide +kernel, rfl⟩
theorem dX12_lacks_0 : Diload prog_14_method_24_code 0 1 1 := Or.inl ⟨1, by decide +kernel, rfl, rfl⟩
theorem dX12_lacks_1 : D3 prog_14_method_24_code 1 (.invokestatic 119) 4 := ⟨by decide +kernel, rfl⟩
theorem dX12_lacks_4 : Dj prog_14_method_24_code 4 (.ifCond .eq 23) 23 7 27 := ⟨by decide +kernel, rfl, by decide⟩
theorem dX12_lacks_7 : Diload prog_14_method_24_code 7 2 8 := Or.inl ⟨2, by decide +kernel, rfl, rfl⟩
theorem dX12_lacks_8 : D3 prog_14_method_24_code 8 (.invokestatic 123) 11 := ⟨by decide +kernel, rfl⟩
theorem dX12_lacks_11 : Dj prog_14_method_24_code 11 (.ifCond .eq 16) 16 14 27 := ⟨by decide +kernel, rfl, by decide⟩
theorem dX12_lacks_14 : Daload prog_14_method_24_code 14 0 15 := Or.inl ⟨0, by decide +kernel, rfl, rfl⟩
theorem dX12_lacks_15 : D3 prog_14_method_24_code 15 (.getfield 67) 18 := ⟨by decide +kernel, rfl⟩
theorem dX12_lacks_18 : Dconst prog_14_method_24_code 18 4 19 := Or.inl ⟨4, by decide +kernel, rfl, rfl⟩
theorem dX12_lacks_19 : Diload prog_14_method_24_code 19 1 20 := Or.inl ⟨1, by decide +kernel, rfl, rfl⟩
theorem dX12_lacks_20 : D1 prog_14_method_24_code 20 (.imul) 21 := ⟨by decide +kernel, rfl⟩
theorem dX12_lacks_21 : Diload prog_14_method_24_code 21 2 22 := Or.inl ⟨2, by decide +kernel, rfl, rfl⟩
theorem dX12_lacks_22 : D1 prog_14_method_24_code 22 (.iadd) 23 := ⟨by decide +kernel, rfl⟩
theorem dX12_lacks_23 : D1 prog_14_method_24_code 23 (.iaload) 24 := ⟨by decide +kernel, rfl⟩
theorem dX12_lacks_24 : Dj prog_14_method_24_code 24 (.goto 4) 4 27 28 := ⟨by decide +kernel, rfl, by decide⟩
theorem dX12_lacks_27 : Dconst prog_14_method_24_code 27 (-1) 28 := Or.inl ⟨(-1), by decide +kernel, rfl, rfl⟩
theorem dX12_lacks_28 : D1 prog_14_method_24_code 28 (.ireturn) 29 := ⟨by decide +kernel, rfl⟩
theorem dX12_began_0 : Diload prog_14_method_25_code 0 1 1 := Or.inl ⟨1, by decide +kernel, rfl, rfl⟩
theorem dX12_began_1 : D3 prog_14_method_25_code 1 (.invokestatic 119) 4 := ⟨by decide +kernel, rfl⟩
theorem dX12_began_4 : Dj prog_14_method_25_code 4 (.ifCond .eq 40) 40 7 44 := ⟨by decide +kernel, rfl, by decide⟩
theorem dX12_began_7 : Diload prog_14_method_25_code 7 2 8 := Or.inl ⟨2, by decide +kernel, rfl, rfl⟩
theorem dX12_began_8 : D3 prog_14_method_25_code 8 (.invokestatic 123) 11 := ⟨by decide +kernel, rfl⟩
theorem dX12_began_11 : Dj prog_14_method_25_code 11 (.ifCond .eq 33) 33 14 44 := ⟨by decide +kernel, rfl, by decide⟩
theorem dX12_began_14 : Diload prog_14_method_25_code 14 3 15 := Or.inl ⟨3, by decide +kernel, rfl, rfl⟩
theorem dX12_began_15 : Dconst prog_14_method_25_code 15 0 16 := Or.inl ⟨0, by decide +kernel, rfl, rfl⟩
theorem dX12_began_16 : Daload prog_14_method_25_code 16 0 17 := Or.inl ⟨0, by decide +kernel, rfl, rfl⟩
theorem dX12_began_17 : D3 prog_14_method_25_code 17 (.getfield 131) 20 := ⟨by decide +kernel, rfl⟩
theorem dX12_began_20 : D3 prog_14_method_25_code 20 (.invokestatic 115) 23 := ⟨by decide +kernel, rfl⟩
theorem dX12_began_23 : Dj prog_14_method_25_code 23 (.ifCond .eq 21) 21 26 44 := ⟨by decide +kernel, rfl, by decide⟩
theorem dX12_began_26 : Daload prog_14_method_25_code 26 0 27 := Or.inl ⟨0, by decide +kernel, rfl, rfl⟩
theorem dX12_began_27 : D3 prog_14_method_25_code 27 (.getfield 73) 30 := ⟨by decide +kernel, rfl⟩
theorem dX12_began_30 : Dconst prog_14_method_25_code 30 32 32 := Or.inr (Or.inl ⟨32, by decide +kernel, rfl, rfl⟩)
theorem dX12_began_32 : Diload prog_14_method_25_code 32 3 33 := Or.inl ⟨3, by decide +kernel, rfl, rfl⟩
theorem dX12_began_33 : D1 prog_14_method_25_code 33 (.imul) 34 := ⟨by decide +kernel, rfl⟩
theorem dX12_began_34 : Dconst prog_14_method_25_code 34 4 35 := Or.inl ⟨4, by decide +kernel, rfl, rfl⟩
theorem dX12_began_35 : Diload prog_14_method_25_code 35 1 36 := Or.inl ⟨1, by decide +kernel, rfl, rfl⟩
theorem dX12_began_36 : D1 prog_14_method_25_code 36 (.imul) 37 := ⟨by decide +kernel, rfl⟩
theorem dX12_began_37 : D1 prog_14_method_25_code 37 (.iadd) 38 := ⟨by decide +kernel, rfl⟩
theorem dX12_began_38 : Diload prog_14_method_25_code 38 2 39 := Or.inl ⟨2, by decide +kernel, rfl, rfl⟩
theorem dX12_began_39 : D1 prog_14_method_25_code 39 (.iadd) 40 := ⟨by decide +kernel, rfl⟩
theorem dX12_began_40 : D1 prog_14_method_25_code 40 (.iaload) 41 := ⟨by decide +kernel, rfl⟩
theorem dX12_began_41 : Dj prog_14_method_25_code 41 (.goto 4) 4 44 45 := ⟨by decide +kernel, rfl, by decide⟩
theorem dX12_began_44 : Dconst prog_14_method_25_code 44 (-1) 45 := Or.inl ⟨(-1), by decide +kernel, rfl, rfl⟩
theorem dX12_began_45 : D1 prog_14_method_25_code 45 (.ireturn) 46 := ⟨by decide +kernel, rfl⟩
theorem dX12_known_0 : Diload prog_14_method_26_code 0 1 1 := Or.inl ⟨1, by decide +kernel, rfl, rfl⟩
theorem dX12_known_1 : D3 prog_14_method_26_code 1 (.invokestatic 119) 4 := ⟨by decide +kernel, rfl⟩
theorem dX12_known_4 : Dj prog_14_method_26_code 4 (.ifCond .eq 32) 32 7 36 := ⟨by decide +kernel, rfl, by decide⟩
theorem dX12_known_7 : Diload prog_14_method_26_code 7 2 8 := Or.inl ⟨2, by decide +kernel, rfl, rfl⟩
theorem dX12_known_8 : D3 prog_14_method_26_code 8 (.invokestatic 123) 11 := ⟨by decide +kernel, rfl⟩
theorem dX12_known_11 : Dj prog_14_method_26_code 11 (.ifCond .eq 25) 25 14 36 := ⟨by decide +kernel, rfl, by decide⟩
theorem dX12_known_14 : Diload prog_14_method_26_code 14 3 15 := Or.inl ⟨3, by decide +kernel, rfl, rfl⟩
theorem dX12_known_15 : Dconst prog_14_method_26_code 15 0 16 := Or.inl ⟨0, by decide +kernel, rfl, rfl⟩
theorem dX12_known_16 : Daload prog_14_method_26_code 16 0 17 := Or.inl ⟨0, by decide +kernel, rfl, rfl⟩
theorem dX12_known_17 : D3 prog_14_method_26_code 17 (.getfield 131) 20 := ⟨by decide +kernel, rfl⟩
theorem dX12_known_20 : D3 prog_14_method_26_code 20 (.invokestatic 115) 23 := ⟨by decide +kernel, rfl⟩
theorem dX12_known_23 : Dj prog_14_method_26_code 23 (.ifCond .eq 13) 13 26 36 := ⟨by decide +kernel, rfl, by decide⟩
theorem dX12_known_26 : Diload prog_14_method_26_code 26 3 27 := Or.inl ⟨3, by decide +kernel, rfl, rfl⟩
theorem dX12_known_27 : Daload prog_14_method_26_code 27 0 28 := Or.inl ⟨0, by decide +kernel, rfl, rfl⟩
theorem dX12_known_28 : D3 prog_14_method_26_code 28 (.getfield 22) 31 := ⟨by decide +kernel, rfl⟩
theorem dX12_known_31 : Diload prog_14_method_26_code 31 1 32 := Or.inl ⟨1, by decide +kernel, rfl, rfl⟩
theorem dX12_known_32 : D1 prog_14_method_26_code 32 (.iaload) 33 := ⟨by decide +kernel, rfl⟩
theorem dX12_known_33 : Dj prog_14_method_26_code 33 (.if_icmp .ge 5) 5 36 38 := ⟨by decide +kernel, rfl, by decide⟩
theorem dX12_known_36 : Dconst prog_14_method_26_code 36 (-1) 37 := Or.inl ⟨(-1), by decide +kernel, rfl, rfl⟩
theorem dX12_known_37 : D1 prog_14_method_26_code 37 (.ireturn) 38 := ⟨by decide +kernel, rfl⟩
theorem dX12_known_38 : Daload prog_14_method_26_code 38 0 39 := Or.inl ⟨0, by decide +kernel, rfl, rfl⟩
theorem dX12_known_39 : D3 prog_14_method_26_code 39 (.getfield 73) 42 := ⟨by decide +kernel, rfl⟩
theorem dX12_known_42 : Dconst prog_14_method_26_code 42 32 44 := Or.inr (Or.inl ⟨32, by decide +kernel, rfl, rfl⟩)
theorem dX12_known_44 : Diload prog_14_method_26_code 44 3 45 := Or.inl ⟨3, by decide +kernel, rfl, rfl⟩
theorem dX12_known_45 : Daload prog_14_method_26_code 45 0 46 := Or.inl ⟨0, by decide +kernel, rfl, rfl⟩
theorem dX12_known_46 : D3 prog_14_method_26_code 46 (.getfield 22) 49 := ⟨by decide +kernel, rfl⟩
theorem dX12_known_49 : Diload prog_14_method_26_code 49 1 50 := Or.inl ⟨1, by decide +kernel, rfl, rfl⟩
theorem dX12_known_50 : D1 prog_14_method_26_code 50 (.iaload) 51 := ⟨by decide +kernel, rfl⟩
theorem dX12_known_51 : D1 prog_14_method_26_code 51 (.isub) 52 := ⟨by decide +kernel, rfl⟩
theorem dX12_known_52 : D1 prog_14_method_26_code 52 (.imul) 53 := ⟨by decide +kernel, rfl⟩
theorem dX12_known_53 : Dconst prog_14_method_26_code 53 4 54 := Or.inl ⟨4, by decide +kernel, rfl, rfl⟩
theorem dX12_known_54 : Diload prog_14_method_26_code 54 1 55 := Or.inl ⟨1, by decide +kernel, rfl, rfl⟩
theorem dX12_known_55 : D1 prog_14_method_26_code 55 (.imul) 56 := ⟨by decide +kernel, rfl⟩
theorem dX12_known_56 : D1 prog_14_method_26_code 56 (.iadd) 57 := ⟨by decide +kernel, rfl⟩
theorem dX12_known_57 : Diload prog_14_method_26_code 57 2 58 := Or.inl ⟨2, by decide +kernel, rfl, rfl⟩
theorem dX12_known_58 : D1 prog_14_method_26_code 58 (.iadd) 59 := ⟨by decide +kernel, rfl⟩
theorem dX12_known_59 : D1 prog_14_method_26_code 59 (.iaload) 60 := ⟨by decide +kernel, rfl⟩
theorem dX12_known_60 : D1 prog_14_method_26_code 60 (.ireturn) 61 := ⟨by decide +kernel, rfl⟩
theorem dX12_feed_0 : Dconst prog_14_method_28_code 0 0 1 := Or.inl ⟨0, by decide +kernel, rfl, rfl⟩
theorem dX12_feed_1 : Distore prog_14_method_28_code 1 6 3 := Or.inr ⟨by decide +kernel, rfl⟩
theorem dX12_feed_3 : Dconst prog_14_method_28_code 3 0 4 := Or.inl ⟨0, by decide +kernel, rfl, rfl⟩
theorem dX12_feed_4 : Distore prog_14_method_28_code 4 7 6 := Or.inr ⟨by decide +kernel, rfl⟩
theorem dX12_feed_6 : Diload prog_14_method_28_code 6 7 8 := Or.inr ⟨by decide +kernel, rfl⟩
theorem dX12_feed_8 : Dconst prog_14_method_28_code 8 20 10 := Or.inr (Or.inl ⟨20, by decide +kernel, rfl, rfl⟩)
theorem dX12_feed_10 : Dj prog_14_method_28_code 10 (.if_icmp .ge 34) 34 13 44 := ⟨by decide +kernel, rfl, by decide⟩
theorem dX12_feed_13 : Diload prog_14_method_28_code 13 6 15 := Or.inr ⟨by decide +kernel, rfl⟩
theorem dX12_feed_15 : Diload prog_14_method_28_code 15 1 16 := Or.inl ⟨1, by decide +kernel, rfl, rfl⟩
theorem dX12_feed_16 : Diload prog_14_method_28_code 16 2 17 := Or.inl ⟨2, by decide +kernel, rfl, rfl⟩
theorem dX12_feed_17 : Diload prog_14_method_28_code 17 3 18 := Or.inl ⟨3, by decide +kernel, rfl, rfl⟩
theorem dX12_feed_18 : Diload prog_14_method_28_code 18 4 20 := Or.inr ⟨by decide +kernel, rfl⟩
theorem dX12_feed_20 : Diload prog_14_method_28_code 20 5 22 := Or.inr ⟨by decide +kernel, rfl⟩
theorem dX12_feed_22 : Diload prog_14_method_28_code 22 7 24 := Or.inr ⟨by decide +kernel, rfl⟩
theorem dX12_feed_24 : D3 prog_14_method_28_code 24 (.invokestatic 172) 27 := ⟨by decide +kernel, rfl⟩
theorem dX12_feed_27 : Dj prog_14_method_28_code 27 (.ifCond .eq 7) 7 30 34 := ⟨by decide +kernel, rfl, by decide⟩
theorem dX12_feed_30 : Dconst prog_14_method_28_code 30 1 31 := Or.inl ⟨1, by decide +kernel, rfl, rfl⟩
theorem dX12_feed_31 : Dj prog_14_method_28_code 31 (.goto 4) 4 34 35 := ⟨by decide +kernel, rfl, by decide⟩
theorem dX12_feed_34 : Dconst prog_14_method_28_code 34 0 35 := Or.inl ⟨0, by decide +kernel, rfl, rfl⟩
theorem dX12_feed_35 : D1 prog_14_method_28_code 35 (.iadd) 36 := ⟨by decide +kernel, rfl⟩
theorem dX12_feed_36 : Distore prog_14_method_28_code 36 6 38 := Or.inr ⟨by decide +kernel, rfl⟩
theorem dX12_feed_38 : Diinc prog_14_method_28_code 38 7 1 41 := ⟨1, by decide +kernel, rfl, rfl⟩
theorem dX12_feed_41 : Dj prog_14_method_28_code 41 (.goto (-35)) (-35) 44 6 := ⟨by decide +kernel, rfl, by decide⟩
theorem dX12_feed_44 : Daload prog_14_method_28_code 44 0 45 := Or.inl ⟨0, by decide +kernel, rfl, rfl⟩
theorem dX12_feed_45 : D3 prog_14_method_28_code 45 (.getfield 176) 48 := ⟨by decide +kernel, rfl⟩
theorem dX12_feed_48 : Diload prog_14_method_28_code 48 6 50 := Or.inr ⟨by decide +kernel, rfl⟩
theorem dX12_feed_50 : D1 prog_14_method_28_code 50 (.iadd) 51 := ⟨by decide +kernel, rfl⟩
theorem dX12_feed_51 : Dconst prog_14_method_28_code 51 200 54 := Or.inr (Or.inr ⟨200, by decide +kernel, rfl, rfl⟩)
theorem dX12_feed_54 : Dj prog_14_method_28_code 54 (.if_icmp .le 5) 5 57 59 := ⟨by decide +kernel, rfl, by decide⟩
theorem dX12_feed_57 : Dconst prog_14_method_28_code 57 (-1) 58 := Or.inl ⟨(-1), by decide +kernel, rfl, rfl⟩
theorem dX12_feed_58 : D1 prog_14_method_28_code 58 (.ireturn) 59 := ⟨by decide +kernel, rfl⟩
theorem dX12_feed_59 : Dconst prog_14_method_28_code 59 0 60 := Or.inl ⟨0, by decide +kernel, rfl, rfl⟩
theorem dX12_feed_60 : Distore prog_14_method_28_code 60 7 62 := Or.inr ⟨by decide +kernel, rfl⟩
theorem dX12_feed_62 : Diload prog_14_method_28_code 62 7 64 := Or.inr ⟨by decide +kernel, rfl⟩
theorem dX12_feed_64 : Dconst prog_14_method_28_code 64 20 66 := Or.inr (Or.inl ⟨20, by decide +kernel, rfl, rfl⟩)
theorem dX12_feed_66 : Dj prog_14_method_28_code 66 (.if_icmp .ge 49) 49 69 115 := ⟨by decide +kernel, rfl, by decide⟩
theorem dX12_feed_69 : Diload prog_14_method_28_code 69 1 70 := Or.inl ⟨1, by decide +kernel, rfl, rfl⟩
theorem dX12_feed_70 : Diload prog_14_method_28_code 70 2 71 := Or.inl ⟨2, by decide +kernel, rfl, rfl⟩
theorem dX12_feed_71 : Diload prog_14_method_28_code 71 3 72 := Or.inl ⟨3, by decide +kernel, rfl, rfl⟩
theorem dX12_feed_72 : Diload prog_14_method_28_code 72 4 74 := Or.inr ⟨by decide +kernel, rfl⟩
theorem dX12_feed_74 : Diload prog_14_method_28_code 74 5 76 := Or.inr ⟨by decide +kernel, rfl⟩
theorem dX12_feed_76 : Diload prog_14_method_28_code 76 7 78 := Or.inr ⟨by decide +kernel, rfl⟩
theorem dX12_feed_78 : D3 prog_14_method_28_code 78 (.invokestatic 172) 81 := ⟨by decide +kernel, rfl⟩
theorem dX12_feed_81 : Distore prog_14_method_28_code 81 8 83 := Or.inr ⟨by decide +kernel, rfl⟩
theorem dX12_feed_83 : Diload prog_14_method_28_code 83 8 85 := Or.inr ⟨by decide +kernel, rfl⟩
theorem dX12_feed_85 : Dj prog_14_method_28_code 85 (.ifCond .eq 24) 24 88 109 := ⟨by decide +kernel, rfl, by decide⟩
theorem dX12_feed_88 : Daload prog_14_method_28_code 88 0 89 := Or.inl ⟨0, by decide +kernel, rfl, rfl⟩
theorem dX12_feed_89 : D3 prog_14_method_28_code 89 (.getfield 85) 92 := ⟨by decide +kernel, rfl⟩
theorem dX12_feed_92 : Daload prog_14_method_28_code 92 0 93 := Or.inl ⟨0, by decide +kernel, rfl, rfl⟩
theorem dX12_feed_93 : D3 prog_14_method_28_code 93 (.getfield 176) 96 := ⟨by decide +kernel, rfl⟩
theorem dX12_feed_96 : Diload prog_14_method_28_code 96 8 98 := Or.inr ⟨by decide +kernel, rfl⟩
theorem dX12_feed_98 : D1 prog_14_method_28_code 98 (.iastore) 99 := ⟨by decide +kernel, rfl⟩
theorem dX12_feed_99 : Daload prog_14_method_28_code 99 0 100 := Or.inl ⟨0, by decide +kernel, rfl, rfl⟩
theorem dX12_feed_100 : D1 prog_14_method_28_code 100 (.dup) 101 := ⟨by decide +kernel, rfl⟩
theorem dX12_feed_101 : D3 prog_14_method_28_code 101 (.getfield 176) 104 := ⟨by decide +kernel, rfl⟩
theorem dX12_feed_104 : Dconst prog_14_method_28_code 104 1 105 := Or.inl ⟨1, by decide +kernel, rfl, rfl⟩
theorem dX12_feed_105 : D1 prog_14_method_28_code 105 (.iadd) 106 := ⟨by decide +kernel, rfl⟩
theorem dX12_feed_106 : D3 prog_14_method_28_code 106 (.putfield 176) 109 := ⟨by decide +kernel, rfl⟩
theorem dX12_feed_109 : Diinc prog_14_method_28_code 109 7 1 112 := ⟨1, by decide +kernel, rfl, rfl⟩
theorem dX12_feed_112 : Dj prog_14_method_28_code 112 (.goto (-50)) (-50) 115 62 := ⟨by decide +kernel, rfl, by decide⟩
theorem dX12_feed_115 : Daload prog_14_method_28_code 115 0 116 := Or.inl ⟨0, by decide +kernel, rfl, rfl⟩
theorem dX12_feed_116 : D3 prog_14_method_28_code 116 (.getfield 176) 119 := ⟨by decide +kernel, rfl⟩
theorem dX12_feed_119 : D1 prog_14_method_28_code 119 (.ireturn) 120 := ⟨by decide +kernel, rfl⟩
theorem dX12_byteOf_0 : Diload prog_14_method_27_code 0 5 2 := Or.inr ⟨by decide +kernel, rfl⟩
theorem dX12_byteOf_2 : Dconst prog_14_method_27_code 2 4 3 := Or.inl ⟨4, by decide +kernel, rfl, rfl⟩
theorem dX12_byteOf_3 : Dj prog_14_method_27_code 3 (.if_icmp .ge 7) 7 6 10 := ⟨by decide +kernel, rfl, by decide⟩
theorem dX12_byteOf_6 : Diload prog_14_method_27_code 6 0 7 := Or.inl ⟨0, by decide +kernel, rfl, rfl⟩
theorem dX12_byteOf_7 : Dj prog_14_method_27_code 7 (.goto 38) 38 10 45 := ⟨by decide +kernel, rfl, by decide⟩
theorem dX12_byteOf_10 : Diload prog_14_method_27_code 10 5 12 := Or.inr ⟨by decide +kernel, rfl⟩
theorem dX12_byteOf_12 : Dconst prog_14_method_27_code 12 8 14 := Or.inr (Or.inl ⟨8, by decide +kernel, rfl, rfl⟩)
theorem dX12_byteOf_14 : Dj prog_14_method_27_code 14 (.if_icmp .ge 7) 7 17 21 := ⟨by decide +kernel, rfl, by decide⟩
theorem dX12_byteOf_17 : Diload prog_14_method_27_code 17 1 18 := Or.inl ⟨1, by decide +kernel, rfl, rfl⟩
theorem dX12_byteOf_18 : Dj prog_14_method_27_code 18 (.goto 27) 27 21 45 := ⟨by decide +kernel, rfl, by decide⟩
theorem dX12_byteOf_21 : Diload prog_14_method_27_code 21 5 23 := Or.inr ⟨by decide +kernel, rfl⟩
theorem dX12_byteOf_23 : Dconst prog_14_method_27_code 23 12 25 := Or.inr (Or.inl ⟨12, by decide +kernel, rfl, rfl⟩)
theorem dX12_byteOf_25 : Dj prog_14_method_27_code 25 (.if_icmp .ge 7) 7 28 32 := ⟨by decide +kernel, rfl, by decide⟩
theorem dX12_byteOf_28 : Diload prog_14_method_27_code 28 2 29 := Or.inl ⟨2, by decide +kernel, rfl, rfl⟩
theorem dX12_byteOf_29 : Dj prog_14_method_27_code 29 (.goto 16) 16 32 45 := ⟨by decide +kernel, rfl, by decide⟩
theorem dX12_byteOf_32 : Diload prog_14_method_27_code 32 5 34 := Or.inr ⟨by decide +kernel, rfl⟩
theorem dX12_byteOf_34 : Dconst prog_14_method_27_code 34 16 36 := Or.inr (Or.inl ⟨16, by decide +kernel, rfl, rfl⟩)
theorem dX12_byteOf_36 : Dj prog_14_method_27_code 36 (.if_icmp .ge 7) 7 39 43 := ⟨by decide +kernel, rfl, by decide⟩
theorem dX12_byteOf_39 : Diload prog_14_method_27_code 39 3 40 := Or.inl ⟨3, by decide +kernel, rfl, rfl⟩
theorem dX12_byteOf_40 : Dj prog_14_method_27_code 40 (.goto 5) 5 43 45 := ⟨by decide +kernel, rfl, by decide⟩
theorem dX12_byteOf_43 : Diload prog_14_method_27_code 43 4 45 := Or.inr ⟨by decide +kernel, rfl⟩
theorem dX12_byteOf_45 : Distore prog_14_method_27_code 45 6 47 := Or.inr ⟨by decide +kernel, rfl⟩
theorem dX12_byteOf_47 : Diload prog_14_method_27_code 47 6 49 := Or.inr ⟨by decide +kernel, rfl⟩
theorem dX12_byteOf_49 : Dconst prog_14_method_27_code 49 24 51 := Or.inr (Or.inl ⟨24, by decide +kernel, rfl, rfl⟩)
theorem dX12_byteOf_51 : Dconst prog_14_method_27_code 51 8 53 := Or.inr (Or.inl ⟨8, by decide +kernel, rfl, rfl⟩)
theorem dX12_byteOf_53 : Diload prog_14_method_27_code 53 5 55 := Or.inr ⟨by decide +kernel, rfl⟩
theorem dX12_byteOf_55 : Dconst prog_14_method_27_code 55 4 56 := Or.inl ⟨4, by decide +kernel, rfl, rfl⟩
theorem dX12_byteOf_56 : D1 prog_14_method_27_code 56 (.irem) 57 := ⟨by decide +kernel, rfl⟩
theorem dX12_byteOf_57 : D1 prog_14_method_27_code 57 (.imul) 58 := ⟨by decide +kernel, rfl⟩
theorem dX12_byteOf_58 : D1 prog_14_method_27_code 58 (.isub) 59 := ⟨by decide +kernel, rfl⟩
theorem dX12_byteOf_59 : D1 prog_14_method_27_code 59 (.ishr) 60 := ⟨by decide +kernel, rfl⟩
theorem dX12_byteOf_60 : Dconst prog_14_method_27_code 60 255 63 := Or.inr (Or.inr ⟨255, by decide +kernel, rfl, rfl⟩)
theorem dX12_byteOf_63 : D1 prog_14_method_27_code 63 (.iand) 64 := ⟨by decide +kernel, rfl⟩
theorem dX12_byteOf_64 : D1 prog_14_method_27_code 64 (.ireturn) 65 := ⟨by decide +kernel, rfl⟩
theorem dX12_end_0 : Diload prog_14_method_29_code 0 1 1 := Or.inl ⟨1, by decide +kernel, rfl, rfl⟩
theorem dX12_end_1 : Dj prog_14_method_29_code 1 (.ifCond .lt 11) 11 4 12 := ⟨by decide +kernel, rfl, by decide⟩
theorem dX12_end_4 : Diload prog_14_method_29_code 4 1 5 := Or.inl ⟨1, by decide +kernel, rfl, rfl⟩
theorem dX12_end_5 : Daload prog_14_method_29_code 5 0 6 := Or.inl ⟨0, by decide +kernel, rfl, rfl⟩
theorem dX12_end_6 : D3 prog_14_method_29_code 6 (.getfield 176) 9 := ⟨by decide +kernel, rfl⟩
theorem dX12_end_9 : Dj prog_14_method_29_code 9 (.if_icmp .le 5) 5 12 14 := ⟨by decide +kernel, rfl, by decide⟩
theorem dX12_end_12 : Dconst prog_14_method_29_code 12 0 13 := Or.inl ⟨0, by decide +kernel, rfl, rfl⟩
theorem dX12_end_13 : D1 prog_14_method_29_code 13 (.ireturn) 14 := ⟨by decide +kernel, rfl⟩
theorem dX12_end_14 : Daload prog_14_method_29_code 14 0 15 := Or.inl ⟨0, by decide +kernel, rfl, rfl⟩
theorem dX12_end_15 : Diload prog_14_method_29_code 15 1 16 := Or.inl ⟨1, by decide +kernel, rfl, rfl⟩
theorem dX12_end_16 : D3 prog_14_method_29_code 16 (.putfield 176) 19 := ⟨by decide +kernel, rfl⟩
theorem dX12_end_19 : Dconst prog_14_method_29_code 19 1 20 := Or.inl ⟨1, by decide +kernel, rfl, rfl⟩
theorem dX12_end_20 : D1 prog_14_method_29_code 20 (.ireturn) 21 := ⟨by decide +kernel, rfl⟩
theorem dX12_fault_0 : Daload prog_14_method_34_code 0 0 1 := Or.inl ⟨0, by decide +kernel, rfl, rfl⟩
theorem dX12_fault_1 : Dconst prog_14_method_34_code 1 0 2 := Or.inl ⟨0, by decide +kernel, rfl, rfl⟩
theorem dX12_fault_2 : D3 prog_14_method_34_code 2 (.putfield 179) 5 := ⟨by decide +kernel, rfl⟩
theorem dX12_fault_5 : Daload prog_14_method_34_code 5 0 6 := Or.inl ⟨0, by decide +kernel, rfl, rfl⟩
theorem dX12_fault_6 : Dconst prog_14_method_34_code 6 0 7 := Or.inl ⟨0, by decide +kernel, rfl, rfl⟩
theorem dX12_fault_7 : D3 prog_14_method_34_code 7 (.putfield 192) 10 := ⟨by decide +kernel, rfl⟩
theorem dX12_fault_10 : Daload prog_14_method_34_code 10 0 11 := Or.inl ⟨0, by decide +kernel, rfl, rfl⟩
theorem dX12_fault_11 : D3 prog_14_method_34_code 11 (.invokevirtual 185) 14 := ⟨by decide +kernel, rfl⟩
theorem dX12_fault_14 : Dconst prog_14_method_34_code 14 (-1) 15 := Or.inl ⟨(-1), by decide +kernel, rfl, rfl⟩
theorem dX12_fault_15 : Dj prog_14_method_34_code 15 (.if_icmp .ne 5) 5 18 20 := ⟨by decide +kernel, rfl, by decide⟩
theorem dX12_fault_18 : Dconst prog_14_method_34_code 18 (-1) 19 := Or.inl ⟨(-1), by decide +kernel, rfl, rfl⟩
theorem dX12_fault_19 : D1 prog_14_method_34_code 19 (.ireturn) 20 := ⟨by decide +kernel, rfl⟩
theorem dX12_fault_20 : Daload prog_14_method_34_code 20 0 21 := Or.inl ⟨0, by decide +kernel, rfl, rfl⟩
theorem dX12_fault_21 : D3 prog_14_method_34_code 21 (.invokevirtual 195) 24 := ⟨by decide +kernel, rfl⟩
theorem dX12_fault_24 : Dj prog_14_method_34_code 24 (.ifCond .ne 8) 8 27 32 := ⟨by decide +kernel, rfl, by decide⟩
theorem dX12_fault_27 : Daload prog_14_method_34_code 27 0 28 := Or.inl ⟨0, by decide +kernel, rfl, rfl⟩
theorem dX12_fault_28 : D3 prog_14_method_34_code 28 (.getfield 179) 31 := ⟨by decide +kernel, rfl⟩
theorem dX12_fault_31 : D1 prog_14_method_34_code 31 (.ireturn) 32 := ⟨by decide +kernel, rfl⟩
theorem dX12_fault_32 : Daload prog_14_method_34_code 32 0 33 := Or.inl ⟨0, by decide +kernel, rfl, rfl⟩
theorem dX12_fault_33 : D3 prog_14_method_34_code 33 (.invokevirtual 185) 36 := ⟨by decide +kernel, rfl⟩
theorem dX12_fault_36 : Distore prog_14_method_34_code 36 1 37 := Or.inl ⟨1, by decide +kernel, rfl, rfl⟩
theorem dX12_fault_37 : Diload prog_14_method_34_code 37 1 38 := Or.inl ⟨1, by decide +kernel, rfl, rfl⟩
theorem dX12_fault_38 : Dconst prog_14_method_34_code 38 (-1) 39 := Or.inl ⟨(-1), by decide +kernel, rfl, rfl⟩
theorem dX12_fault_39 : Dj prog_14_method_34_code 39 (.if_icmp .ne 5) 5 42 44 := ⟨by decide +kernel, rfl, by decide⟩
theorem dX12_fault_42 : Dconst prog_14_method_34_code 42 (-1) 43 := Or.inl ⟨(-1), by decide +kernel, rfl, rfl⟩
theorem dX12_fault_43 : D1 prog_14_method_34_code 43 (.ireturn) 44 := ⟨by decide +kernel, rfl⟩
theorem dX12_fault_44 : Diload prog_14_method_34_code 44 1 45 := Or.inl ⟨1, by decide +kernel, rfl, rfl⟩
theorem dX12_fault_45 : Dconst prog_14_method_34_code 45 59 47 := Or.inr (Or.inl ⟨59, by decide +kernel, rfl, rfl⟩)
theorem dX12_fault_47 : Dj prog_14_method_34_code 47 (.if_icmp .eq 8) 8 50 55 := ⟨by decide +kernel, rfl, by decide⟩
theorem dX12_fault_50 : Daload prog_14_method_34_code 50 0 51 := Or.inl ⟨0, by decide +kernel, rfl, rfl⟩
theorem dX12_fault_51 : D3 prog_14_method_34_code 51 (.getfield 179) 54 := ⟨by decide +kernel, rfl⟩
theorem dX12_fault_54 : D1 prog_14_method_34_code 54 (.ireturn) 55 := ⟨by decide +kernel, rfl⟩
theorem dX12_fault_55 : Daload prog_14_method_34_code 55 0 56 := Or.inl ⟨0, by decide +kernel, rfl, rfl⟩
theorem dX12_fault_56 : D1 prog_14_method_34_code 56 (.dup) 57 := ⟨by decide +kernel, rfl⟩
theorem dX12_fault_57 : D3 prog_14_method_34_code 57 (.getfield 179) 60 := ⟨by decide +kernel, rfl⟩
theorem dX12_fault_60 : Dconst prog_14_method_34_code 60 1 61 := Or.inl ⟨1, by decide +kernel, rfl, rfl⟩
theorem dX12_fault_61 : D1 prog_14_method_34_code 61 (.iadd) 62 := ⟨by decide +kernel, rfl⟩
theorem dX12_fault_62 : D3 prog_14_method_34_code 62 (.putfield 179) 65 := ⟨by decide +kernel, rfl⟩
theorem dX12_fault_65 : Dj prog_14_method_34_code 65 (.goto (-45)) (-45) 68 20 := ⟨by decide +kernel, rfl, by decide⟩
theorem dX12_look_0 : Daload prog_14_method_30_code 0 0 1 := Or.inl ⟨0, by decide +kernel, rfl, rfl⟩
theorem dX12_look_1 : D3 prog_14_method_30_code 1 (.getfield 179) 4 := ⟨by decide +kernel, rfl⟩
theorem dX12_look_4 : Daload prog_14_method_30_code 4 0 5 := Or.inl ⟨0, by decide +kernel, rfl, rfl⟩
theorem dX12_look_5 : D3 prog_14_method_30_code 5 (.getfield 176) 8 := ⟨by decide +kernel, rfl⟩
theorem dX12_look_8 : Dj prog_14_method_30_code 8 (.if_icmp .ge 30) 30 11 38 := ⟨by decide +kernel, rfl, by decide⟩
theorem dX12_look_11 : Daload prog_14_method_30_code 11 0 12 := Or.inl ⟨0, by decide +kernel, rfl, rfl⟩
theorem dX12_look_12 : D3 prog_14_method_30_code 12 (.getfield 85) 15 := ⟨by decide +kernel, rfl⟩
theorem dX12_look_15 : Daload prog_14_method_30_code 15 0 16 := Or.inl ⟨0, by decide +kernel, rfl, rfl⟩
theorem dX12_look_16 : D3 prog_14_method_30_code 16 (.getfield 179) 19 := ⟨by decide +kernel, rfl⟩
theorem dX12_look_19 : D1 prog_14_method_30_code 19 (.iaload) 20 := ⟨by decide +kernel, rfl⟩
theorem dX12_look_20 : Dconst prog_14_method_30_code 20 32 22 := Or.inr (Or.inl ⟨32, by decide +kernel, rfl, rfl⟩)
theorem dX12_look_22 : Dj prog_14_method_30_code 22 (.if_icmp .ne 16) 16 25 38 := ⟨by decide +kernel, rfl, by decide⟩
theorem dX12_look_25 : Daload prog_14_method_30_code 25 0 26 := Or.inl ⟨0, by decide +kernel, rfl, rfl⟩
theorem dX12_look_26 : D1 prog_14_method_30_code 26 (.dup) 27 := ⟨by decide +kernel, rfl⟩
theorem dX12_look_27 : D3 prog_14_method_30_code 27 (.getfield 179) 30 := ⟨by decide +kernel, rfl⟩
theorem dX12_look_30 : Dconst prog_14_method_30_code 30 1 31 := Or.inl ⟨1, by decide +kernel, rfl, rfl⟩
theorem dX12_look_31 : D1 prog_14_method_30_code 31 (.iadd) 32 := ⟨by decide +kernel, rfl⟩
theorem dX12_look_32 : D3 prog_14_method_30_code 32 (.putfield 179) 35 := ⟨by decide +kernel, rfl⟩
theorem dX12_look_35 : Dj prog_14_method_30_code 35 (.goto (-35)) (-35) 38 0 := ⟨by decide +kernel, rfl, by decide⟩
theorem dX12_look_38 : Daload prog_14_method_30_code 38 0 39 := Or.inl ⟨0, by decide +kernel, rfl, rfl⟩
theorem dX12_look_39 : D3 prog_14_method_30_code 39 (.getfield 179) 42 := ⟨by decide +kernel, rfl⟩
theorem dX12_look_42 : Daload prog_14_method_30_code 42 0 43 := Or.inl ⟨0, by decide +kernel, rfl, rfl⟩
theorem dX12_look_43 : D3 prog_14_method_30_code 43 (.getfield 176) 46 := ⟨by decide +kernel, rfl⟩
theorem dX12_look_46 : Dj prog_14_method_30_code 46 (.if_icmp .ge 15) 15 49 61 := ⟨by decide +kernel, rfl, by decide⟩
theorem dX12_look_49 : Daload prog_14_method_30_code 49 0 50 := Or.inl ⟨0, by decide +kernel, rfl, rfl⟩
theorem dX12_look_50 : D3 prog_14_method_30_code 50 (.getfield 85) 53 := ⟨by decide +kernel, rfl⟩
theorem dX12_look_53 : Daload prog_14_method_30_code 53 0 54 := Or.inl ⟨0, by decide +kernel, rfl, rfl⟩
theorem dX12_look_54 : D3 prog_14_method_30_code 54 (.getfield 179) 57 := ⟨by decide +kernel, rfl⟩
theorem dX12_look_57 : D1 prog_14_method_30_code 57 (.iaload) 58 := ⟨by decide +kernel, rfl⟩
theorem dX12_look_58 : Dj prog_14_method_30_code 58 (.goto 4) 4 61 62 := ⟨by decide +kernel, rfl, by decide⟩
theorem dX12_look_61 : Dconst prog_14_method_30_code 61 (-1) 62 := Or.inl ⟨(-1), by decide +kernel, rfl, rfl⟩
theorem dX12_look_62 : D1 prog_14_method_30_code 62 (.ireturn) 63 := ⟨by decide +kernel, rfl⟩
theorem dX12_clause_0 : Daload prog_14_method_33_code 0 0 1 := Or.inl ⟨0, by decide +kernel, rfl, rfl⟩
theorem dX12_clause_1 : D3 prog_14_method_33_code 1 (.invokevirtual 185) 4 := ⟨by decide +kernel, rfl⟩
theorem dX12_clause_4 : Distore prog_14_method_33_code 4 1 5 := Or.inl ⟨1, by decide +kernel, rfl, rfl⟩
theorem dX12_clause_5 : Diload prog_14_method_33_code 5 1 6 := Or.inl ⟨1, by decide +kernel, rfl, rfl⟩
theorem dX12_clause_6 : Dconst prog_14_method_33_code 6 98 8 := Or.inr (Or.inl ⟨98, by decide +kernel, rfl, rfl⟩)
theorem dX12_clause_8 : Dj prog_14_method_33_code 8 (.if_icmp .eq 23) 23 11 31 := ⟨by decide +kernel, rfl, by decide⟩
theorem dX12_clause_11 : Diload prog_14_method_33_code 11 1 12 := Or.inl ⟨1, by decide +kernel, rfl, rfl⟩
theorem dX12_clause_12 : Dconst prog_14_method_33_code 12 107 14 := Or.inr (Or.inl ⟨107, by decide +kernel, rfl, rfl⟩)
theorem dX12_clause_14 : Dj prog_14_method_33_code 14 (.if_icmp .eq 17) 17 17 31 := ⟨by decide +kernel, rfl, by decide⟩
theorem dX12_clause_17 : Diload prog_14_method_33_code 17 1 18 := Or.inl ⟨1, by decide +kernel, rfl, rfl⟩
theorem dX12_clause_18 : Dconst prog_14_method_33_code 18 110 20 := Or.inr (Or.inl ⟨110, by decide +kernel, rfl, rfl⟩)
theorem dX12_clause_20 : Dj prog_14_method_33_code 20 (.if_icmp .eq 11) 11 23 31 := ⟨by decide +kernel, rfl, by decide⟩
theorem dX12_clause_23 : Diload prog_14_method_33_code 23 1 24 := Or.inl ⟨1, by decide +kernel, rfl, rfl⟩
theorem dX12_clause_24 : Dconst prog_14_method_33_code 24 103 26 := Or.inr (Or.inl ⟨103, by decide +kernel, rfl, rfl⟩)
theorem dX12_clause_26 : Dj prog_14_method_33_code 26 (.if_icmp .eq 5) 5 29 31 := ⟨by decide +kernel, rfl, by decide⟩
theorem dX12_clause_29 : Dconst prog_14_method_33_code 29 0 30 := Or.inl ⟨0, by decide +kernel, rfl, rfl⟩
theorem dX12_clause_30 : D1 prog_14_method_33_code 30 (.ireturn) 31 := ⟨by decide +kernel, rfl⟩
theorem dX12_clause_31 : Daload prog_14_method_33_code 31 0 32 := Or.inl ⟨0, by decide +kernel, rfl, rfl⟩
theorem dX12_clause_32 : D1 prog_14_method_33_code 32 (.dup) 33 := ⟨by decide +kernel, rfl⟩
theorem dX12_clause_33 : D3 prog_14_method_33_code 33 (.getfield 179) 36 := ⟨by decide +kernel, rfl⟩
theorem dX12_clause_36 : Dconst prog_14_method_33_code 36 1 37 := Or.inl ⟨1, by decide +kernel, rfl, rfl⟩
theorem dX12_clause_37 : D1 prog_14_method_33_code 37 (.iadd) 38 := ⟨by decide +kernel, rfl⟩
theorem dX12_clause_38 : D3 prog_14_method_33_code 38 (.putfield 179) 41 := ⟨by decide +kernel, rfl⟩
theorem dX12_clause_41 : Daload prog_14_method_33_code 41 0 42 := Or.inl ⟨0, by decide +kernel, rfl, rfl⟩
theorem dX12_clause_42 : D3 prog_14_method_33_code 42 (.invokevirtual 185) 45 := ⟨by decide +kernel, rfl⟩
theorem dX12_clause_45 : Distore prog_14_method_33_code 45 2 46 := Or.inl ⟨2, by decide +kernel, rfl, rfl⟩
theorem dX12_clause_46 : Diload prog_14_method_33_code 46 2 47 := Or.inl ⟨2, by decide +kernel, rfl, rfl⟩
theorem dX12_clause_47 : Dconst prog_14_method_33_code 47 61 49 := Or.inr (Or.inl ⟨61, by decide +kernel, rfl, rfl⟩)
theorem dX12_clause_49 : Dj prog_14_method_33_code 49 (.if_icmp .eq 17) 17 52 66 := ⟨by decide +kernel, rfl, by decide⟩
theorem dX12_clause_52 : Diload prog_14_method_33_code 52 2 53 := Or.inl ⟨2, by decide +kernel, rfl, rfl⟩
theorem dX12_clause_53 : Dconst prog_14_method_33_code 53 60 55 := Or.inr (Or.inl ⟨60, by decide +kernel, rfl, rfl⟩)
theorem dX12_clause_55 : Dj prog_14_method_33_code 55 (.if_icmp .eq 11) 11 58 66 := ⟨by decide +kernel, rfl, by decide⟩
theorem dX12_clause_58 : Diload prog_14_method_33_code 58 2 59 := Or.inl ⟨2, by decide +kernel, rfl, rfl⟩
theorem dX12_clause_59 : Dconst prog_14_method_33_code 59 62 61 := Or.inr (Or.inl ⟨62, by decide +kernel, rfl, rfl⟩)
theorem dX12_clause_61 : Dj prog_14_method_33_code 61 (.if_icmp .eq 5) 5 64 66 := ⟨by decide +kernel, rfl, by decide⟩
theorem dX12_clause_64 : Dconst prog_14_method_33_code 64 0 65 := Or.inl ⟨0, by decide +kernel, rfl, rfl⟩
theorem dX12_clause_65 : D1 prog_14_method_33_code 65 (.ireturn) 66 := ⟨by decide +kernel, rfl⟩
theorem dX12_clause_66 : Daload prog_14_method_33_code 66 0 67 := Or.inl ⟨0, by decide +kernel, rfl, rfl⟩
theorem dX12_clause_67 : D1 prog_14_method_33_code 67 (.dup) 68 := ⟨by decide +kernel, rfl⟩
theorem dX12_clause_68 : D3 prog_14_method_33_code 68 (.getfield 179) 71 := ⟨by decide +kernel, rfl⟩
theorem dX12_clause_71 : Dconst prog_14_method_33_code 71 1 72 := Or.inl ⟨1, by decide +kernel, rfl, rfl⟩
theorem dX12_clause_72 : D1 prog_14_method_33_code 72 (.iadd) 73 := ⟨by decide +kernel, rfl⟩
theorem dX12_clause_73 : D3 prog_14_method_33_code 73 (.putfield 179) 76 := ⟨by decide +kernel, rfl⟩
theorem dX12_clause_76 : Daload prog_14_method_33_code 76 0 77 := Or.inl ⟨0, by decide +kernel, rfl, rfl⟩
theorem dX12_clause_77 : D3 prog_14_method_33_code 77 (.invokevirtual 185) 80 := ⟨by decide +kernel, rfl⟩
theorem dX12_clause_80 : D1 prog_14_method_33_code 80 (.pop) 81 := ⟨by decide +kernel, rfl⟩
theorem dX12_clause_81 : Daload prog_14_method_33_code 81 0 82 := Or.inl ⟨0, by decide +kernel, rfl, rfl⟩
theorem dX12_clause_82 : D3 prog_14_method_33_code 82 (.invokevirtual 189) 85 := ⟨by decide +kernel, rfl⟩
theorem dX12_clause_85 : Distore prog_14_method_33_code 85 3 86 := Or.inl ⟨3, by decide +kernel, rfl, rfl⟩
theorem dX12_clause_86 : Diload prog_14_method_33_code 86 3 87 := Or.inl ⟨3, by decide +kernel, rfl, rfl⟩
theorem dX12_clause_87 : Dconst prog_14_method_33_code 87 (-1) 88 := Or.inl ⟨(-1), by decide +kernel, rfl, rfl⟩
theorem dX12_clause_88 : Dj prog_14_method_33_code 88 (.if_icmp .eq 12) 12 91 100 := ⟨by decide +kernel, rfl, by decide⟩
theorem dX12_clause_91 : Daload prog_14_method_33_code 91 0 92 := Or.inl ⟨0, by decide +kernel, rfl, rfl⟩
theorem dX12_clause_92 : D3 prog_14_method_33_code 92 (.invokevirtual 185) 95 := ⟨by decide +kernel, rfl⟩
theorem dX12_clause_95 : Dconst prog_14_method_33_code 95 58 97 := Or.inr (Or.inl ⟨58, by decide +kernel, rfl, rfl⟩)
theorem dX12_clause_97 : Dj prog_14_method_33_code 97 (.if_icmp .eq 5) 5 100 102 := ⟨by decide +kernel, rfl, by decide⟩
theorem dX12_clause_100 : Dconst prog_14_method_33_code 100 0 101 := Or.inl ⟨0, by decide +kernel, rfl, rfl⟩
theorem dX12_clause_101 : D1 prog_14_method_33_code 101 (.ireturn) 102 := ⟨by decide +kernel, rfl⟩
theorem dX12_clause_102 : Daload prog_14_method_33_code 102 0 103 := Or.inl ⟨0, by decide +kernel, rfl, rfl⟩
theorem dX12_clause_103 : D1 prog_14_method_33_code 103 (.dup) 104 := ⟨by decide +kernel, rfl⟩
theorem dX12_clause_104 : D3 prog_14_method_33_code 104 (.getfield 179) 107 := ⟨by decide +kernel, rfl⟩
theorem dX12_clause_107 : Dconst prog_14_method_33_code 107 1 108 := Or.inl ⟨1, by decide +kernel, rfl, rfl⟩
theorem dX12_clause_108 : D1 prog_14_method_33_code 108 (.iadd) 109 := ⟨by decide +kernel, rfl⟩
theorem dX12_clause_109 : D3 prog_14_method_33_code 109 (.putfield 179) 112 := ⟨by decide +kernel, rfl⟩
theorem dX12_clause_112 : Daload prog_14_method_33_code 112 0 113 := Or.inl ⟨0, by decide +kernel, rfl, rfl⟩
theorem dX12_clause_113 : D3 prog_14_method_33_code 113 (.invokevirtual 185) 116 := ⟨by decide +kernel, rfl⟩
theorem dX12_clause_116 : Dconst prog_14_method_33_code 116 45 118 := Or.inr (Or.inl ⟨45, by decide +kernel, rfl, rfl⟩)
theorem dX12_clause_118 : Dj prog_14_method_33_code 118 (.if_icmp .ne 7) 7 121 125 := ⟨by decide +kernel, rfl, by decide⟩
theorem dX12_clause_121 : Dconst prog_14_method_33_code 121 1 122 := Or.inl ⟨1, by decide +kernel, rfl, rfl⟩
theorem dX12_clause_122 : Dj prog_14_method_33_code 122 (.goto 4) 4 125 126 := ⟨by decide +kernel, rfl, by decide⟩
theorem dX12_clause_125 : Dconst prog_14_method_33_code 125 0 126 := Or.inl ⟨0, by decide +kernel, rfl, rfl⟩
theorem dX12_clause_126 : Distore prog_14_method_33_code 126 4 128 := Or.inr ⟨by decide +kernel, rfl⟩
theorem dX12_clause_128 : Daload prog_14_method_33_code 128 0 129 := Or.inl ⟨0, by decide +kernel, rfl, rfl⟩
theorem dX12_clause_129 : D1 prog_14_method_33_code 129 (.dup) 130 := ⟨by decide +kernel, rfl⟩
theorem dX12_clause_130 : D3 prog_14_method_33_code 130 (.getfield 179) 133 := ⟨by decide +kernel, rfl⟩
theorem dX12_clause_133 : Diload prog_14_method_33_code 133 4 135 := Or.inr ⟨by decide +kernel, rfl⟩
theorem dX12_clause_135 : Dj prog_14_method_33_code 135 (.ifCond .eq 7) 7 138 142 := ⟨by decide +kernel, rfl, by decide⟩
theorem dX12_clause_138 : Dconst prog_14_method_33_code 138 1 139 := Or.inl ⟨1, by decide +kernel, rfl, rfl⟩
theorem dX12_clause_139 : Dj prog_14_method_33_code 139 (.goto 4) 4 142 143 := ⟨by decide +kernel, rfl, by decide⟩
theorem dX12_clause_142 : Dconst prog_14_method_33_code 142 0 143 := Or.inl ⟨0, by decide +kernel, rfl, rfl⟩
theorem dX12_clause_143 : D1 prog_14_method_33_code 143 (.iadd) 144 := ⟨by decide +kernel, rfl⟩
theorem dX12_clause_144 : D3 prog_14_method_33_code 144 (.putfield 179) 147 := ⟨by decide +kernel, rfl⟩
theorem dX12_clause_147 : Daload prog_14_method_33_code 147 0 148 := Or.inl ⟨0, by decide +kernel, rfl, rfl⟩
theorem dX12_clause_148 : D3 prog_14_method_33_code 148 (.invokevirtual 189) 151 := ⟨by decide +kernel, rfl⟩
theorem dX12_clause_151 : Distore prog_14_method_33_code 151 5 153 := Or.inr ⟨by decide +kernel, rfl⟩
theorem dX12_clause_153 : Diload prog_14_method_33_code 153 5 155 := Or.inr ⟨by decide +kernel, rfl⟩
theorem dX12_clause_155 : Dconst prog_14_method_33_code 155 (-1) 156 := Or.inl ⟨(-1), by decide +kernel, rfl, rfl⟩
theorem dX12_clause_156 : Dj prog_14_method_33_code 156 (.if_icmp .ne 5) 5 159 161 := ⟨by decide +kernel, rfl, by decide⟩
theorem dX12_clause_159 : Dconst prog_14_method_33_code 159 0 160 := Or.inl ⟨0, by decide +kernel, rfl, rfl⟩
theorem dX12_clause_160 : D1 prog_14_method_33_code 160 (.ireturn) 161 := ⟨by decide +kernel, rfl⟩
theorem dX12_clause_161 : Dconst prog_14_method_33_code 161 400 164 := Or.inr (Or.inr ⟨400, by decide +kernel, rfl, rfl⟩)
theorem dX12_clause_164 : Daload prog_14_method_33_code 164 0 165 := Or.inl ⟨0, by decide +kernel, rfl, rfl⟩
theorem dX12_clause_165 : D3 prog_14_method_33_code 165 (.getfield 192) 168 := ⟨by decide +kernel, rfl⟩
theorem dX12_clause_168 : D1 prog_14_method_33_code 168 (.iadd) 169 := ⟨by decide +kernel, rfl⟩
theorem dX12_clause_169 : Distore prog_14_method_33_code 169 6 171 := Or.inr ⟨by decide +kernel, rfl⟩
theorem dX12_clause_171 : Daload prog_14_method_33_code 171 0 172 := Or.inl ⟨0, by decide +kernel, rfl, rfl⟩
theorem dX12_clause_172 : D3 prog_14_method_33_code 172 (.getfield 91) 175 := ⟨by decide +kernel, rfl⟩
theorem dX12_clause_175 : Diload prog_14_method_33_code 175 6 177 := Or.inr ⟨by decide +kernel, rfl⟩
theorem dX12_clause_177 : Diload prog_14_method_33_code 177 1 178 := Or.inl ⟨1, by decide +kernel, rfl, rfl⟩
theorem dX12_clause_178 : D1 prog_14_method_33_code 178 (.iastore) 179 := ⟨by decide +kernel, rfl⟩
theorem dX12_clause_179 : Daload prog_14_method_33_code 179 0 180 := Or.inl ⟨0, by decide +kernel, rfl, rfl⟩
theorem dX12_clause_180 : D3 prog_14_method_33_code 180 (.getfield 94) 183 := ⟨by decide +kernel, rfl⟩
theorem dX12_clause_183 : Diload prog_14_method_33_code 183 6 185 := Or.inr ⟨by decide +kernel, rfl⟩
theorem dX12_clause_185 : Diload prog_14_method_33_code 185 2 186 := Or.inl ⟨2, by decide +kernel, rfl, rfl⟩
theorem dX12_clause_186 : D1 prog_14_method_33_code 186 (.iastore) 187 := ⟨by decide +kernel, rfl⟩
theorem dX12_clause_187 : Daload prog_14_method_33_code 187 0 188 := Or.inl ⟨0, by decide +kernel, rfl, rfl⟩
theorem dX12_clause_188 : D3 prog_14_method_33_code 188 (.getfield 97) 191 := ⟨by decide +kernel, rfl⟩
theorem dX12_clause_191 : Diload prog_14_method_33_code 191 6 193 := Or.inr ⟨by decide +kernel, rfl⟩
theorem dX12_clause_193 : Diload prog_14_method_33_code 193 3 194 := Or.inl ⟨3, by decide +kernel, rfl, rfl⟩
theorem dX12_clause_194 : D1 prog_14_method_33_code 194 (.iastore) 195 := ⟨by decide +kernel, rfl⟩
theorem dX12_clause_195 : Daload prog_14_method_33_code 195 0 196 := Or.inl ⟨0, by decide +kernel, rfl, rfl⟩
theorem dX12_clause_196 : D3 prog_14_method_33_code 196 (.getfield 100) 199 := ⟨by decide +kernel, rfl⟩
theorem dX12_clause_199 : Diload prog_14_method_33_code 199 6 201 := Or.inr ⟨by decide +kernel, rfl⟩
theorem dX12_clause_201 : Diload prog_14_method_33_code 201 4 203 := Or.inr ⟨by decide +kernel, rfl⟩
theorem dX12_clause_203 : Dj prog_14_method_33_code 203 (.ifCond .eq 9) 9 206 212 := ⟨by decide +kernel, rfl, by decide⟩
theorem dX12_clause_206 : Diload prog_14_method_33_code 206 5 208 := Or.inr ⟨by decide +kernel, rfl⟩
theorem dX12_clause_208 : D1 prog_14_method_33_code 208 (.ineg) 209 := ⟨by decide +kernel, rfl⟩
theorem dX12_clause_209 : Dj prog_14_method_33_code 209 (.goto 5) 5 212 214 := ⟨by decide +kernel, rfl, by decide⟩
theorem dX12_clause_212 : Diload prog_14_method_33_code 212 5 214 := Or.inr ⟨by decide +kernel, rfl⟩
theorem dX12_clause_214 : D1 prog_14_method_33_code 214 (.iastore) 215 := ⟨by decide +kernel, rfl⟩
theorem dX12_clause_215 : Daload prog_14_method_33_code 215 0 216 := Or.inl ⟨0, by decide +kernel, rfl, rfl⟩
theorem dX12_clause_216 : D1 prog_14_method_33_code 216 (.dup) 217 := ⟨by decide +kernel, rfl⟩
theorem dX12_clause_217 : D3 prog_14_method_33_code 217 (.getfield 192) 220 := ⟨by decide +kernel, rfl⟩
theorem dX12_clause_220 : Dconst prog_14_method_33_code 220 1 221 := Or.inl ⟨1, by decide +kernel, rfl, rfl⟩
theorem dX12_clause_221 : D1 prog_14_method_33_code 221 (.iadd) 222 := ⟨by decide +kernel, rfl⟩
theorem dX12_clause_222 : D3 prog_14_method_33_code 222 (.putfield 192) 225 := ⟨by decide +kernel, rfl⟩
theorem dX12_clause_225 : Dconst prog_14_method_33_code 225 1 226 := Or.inl ⟨1, by decide +kernel, rfl, rfl⟩
theorem dX12_clause_226 : D1 prog_14_method_33_code 226 (.ireturn) 227 := ⟨by decide +kernel, rfl⟩
theorem dX12_number_0 : Daload prog_14_method_32_code 0 0 1 := Or.inl ⟨0, by decide +kernel, rfl, rfl⟩
theorem dX12_number_1 : D3 prog_14_method_32_code 1 (.getfield 179) 4 := ⟨by decide +kernel, rfl⟩
theorem dX12_number_4 : Daload prog_14_method_32_code 4 0 5 := Or.inl ⟨0, by decide +kernel, rfl, rfl⟩
theorem dX12_number_5 : D3 prog_14_method_32_code 5 (.getfield 176) 8 := ⟨by decide +kernel, rfl⟩
theorem dX12_number_8 : Dj prog_14_method_32_code 8 (.if_icmp .ge 18) 18 11 26 := ⟨by decide +kernel, rfl, by decide⟩
theorem dX12_number_11 : Daload prog_14_method_32_code 11 0 12 := Or.inl ⟨0, by decide +kernel, rfl, rfl⟩
theorem dX12_number_12 : D3 prog_14_method_32_code 12 (.getfield 85) 15 := ⟨by decide +kernel, rfl⟩
theorem dX12_number_15 : Daload prog_14_method_32_code 15 0 16 := Or.inl ⟨0, by decide +kernel, rfl, rfl⟩
theorem dX12_number_16 : D3 prog_14_method_32_code 16 (.getfield 179) 19 := ⟨by decide +kernel, rfl⟩
theorem dX12_number_19 : D1 prog_14_method_32_code 19 (.iaload) 20 := ⟨by decide +kernel, rfl⟩
theorem dX12_number_20 : D3 prog_14_method_32_code 20 (.invokestatic 182) 23 := ⟨by decide +kernel, rfl⟩
theorem dX12_number_23 : Dj prog_14_method_32_code 23 (.ifCond .ne 5) 5 26 28 := ⟨by decide +kernel, rfl, by decide⟩
theorem dX12_number_26 : Dconst prog_14_method_32_code 26 (-1) 27 := Or.inl ⟨(-1), by decide +kernel, rfl, rfl⟩
theorem dX12_number_27 : D1 prog_14_method_32_code 27 (.ireturn) 28 := ⟨by decide +kernel, rfl⟩
theorem dX12_number_28 : Dconst prog_14_method_32_code 28 0 29 := Or.inl ⟨0, by decide +kernel, rfl, rfl⟩
theorem dX12_number_29 : Distore prog_14_method_32_code 29 1 30 := Or.inl ⟨1, by decide +kernel, rfl, rfl⟩
theorem dX12_number_30 : Dconst prog_14_method_32_code 30 0 31 := Or.inl ⟨0, by decide +kernel, rfl, rfl⟩
theorem dX12_number_31 : Distore prog_14_method_32_code 31 2 32 := Or.inl ⟨2, by decide +kernel, rfl, rfl⟩
theorem dX12_number_32 : Daload prog_14_method_32_code 32 0 33 := Or.inl ⟨0, by decide +kernel, rfl, rfl⟩
theorem dX12_number_33 : D3 prog_14_method_32_code 33 (.getfield 179) 36 := ⟨by decide +kernel, rfl⟩
theorem dX12_number_36 : Daload prog_14_method_32_code 36 0 37 := Or.inl ⟨0, by decide +kernel, rfl, rfl⟩
theorem dX12_number_37 : D3 prog_14_method_32_code 37 (.getfield 176) 40 := ⟨by decide +kernel, rfl⟩
theorem dX12_number_40 : Dj prog_14_method_32_code 40 (.if_icmp .ge 59) 59 43 99 := ⟨by decide +kernel, rfl, by decide⟩
theorem dX12_number_43 : Daload prog_14_method_32_code 43 0 44 := Or.inl ⟨0, by decide +kernel, rfl, rfl⟩
theorem dX12_number_44 : D3 prog_14_method_32_code 44 (.getfield 85) 47 := ⟨by decide +kernel, rfl⟩
theorem dX12_number_47 : Daload prog_14_method_32_code 47 0 48 := Or.inl ⟨0, by decide +kernel, rfl, rfl⟩
theorem dX12_number_48 : D3 prog_14_method_32_code 48 (.getfield 179) 51 := ⟨by decide +kernel, rfl⟩
theorem dX12_number_51 : D1 prog_14_method_32_code 51 (.iaload) 52 := ⟨by decide +kernel, rfl⟩
theorem dX12_number_52 : D3 prog_14_method_32_code 52 (.invokestatic 182) 55 := ⟨by decide +kernel, rfl⟩
theorem dX12_number_55 : Dj prog_14_method_32_code 55 (.ifCond .eq 44) 44 58 99 := ⟨by decide +kernel, rfl, by decide⟩
theorem dX12_number_58 : Diload prog_14_method_32_code 58 2 59 := Or.inl ⟨2, by decide +kernel, rfl, rfl⟩
theorem dX12_number_59 : Dconst prog_14_method_32_code 59 5 60 := Or.inl ⟨5, by decide +kernel, rfl, rfl⟩
theorem dX12_number_60 : Dj prog_14_method_32_code 60 (.if_icmp .ne 5) 5 63 65 := ⟨by decide +kernel, rfl, by decide⟩
theorem dX12_number_63 : Dconst prog_14_method_32_code 63 (-1) 64 := Or.inl ⟨(-1), by decide +kernel, rfl, rfl⟩
theorem dX12_number_64 : D1 prog_14_method_32_code 64 (.ireturn) 65 := ⟨by decide +kernel, rfl⟩
theorem dX12_number_65 : Dconst prog_14_method_32_code 65 10 67 := Or.inr (Or.inl ⟨10, by decide +kernel, rfl, rfl⟩)
theorem dX12_number_67 : Diload prog_14_method_32_code 67 1 68 := Or.inl ⟨1, by decide +kernel, rfl, rfl⟩
theorem dX12_number_68 : D1 prog_14_method_32_code 68 (.imul) 69 := ⟨by decide +kernel, rfl⟩
theorem dX12_number_69 : Daload prog_14_method_32_code 69 0 70 := Or.inl ⟨0, by decide +kernel, rfl, rfl⟩
theorem dX12_number_70 : D3 prog_14_method_32_code 70 (.getfield 85) 73 := ⟨by decide +kernel, rfl⟩
theorem dX12_number_73 : Daload prog_14_method_32_code 73 0 74 := Or.inl ⟨0, by decide +kernel, rfl, rfl⟩
theorem dX12_number_74 : D3 prog_14_method_32_code 74 (.getfield 179) 77 := ⟨by decide +kernel, rfl⟩
theorem dX12_number_77 : D1 prog_14_method_32_code 77 (.iaload) 78 := ⟨by decide +kernel, rfl⟩
theorem dX12_number_78 : D1 prog_14_method_32_code 78 (.iadd) 79 := ⟨by decide +kernel, rfl⟩
theorem dX12_number_79 : Dconst prog_14_method_32_code 79 48 81 := Or.inr (Or.inl ⟨48, by decide +kernel, rfl, rfl⟩)
theorem dX12_number_81 : D1 prog_14_method_32_code 81 (.isub) 82 := ⟨by decide +kernel, rfl⟩
theorem dX12_number_82 : Distore prog_14_method_32_code 82 1 83 := Or.inl ⟨1, by decide +kernel, rfl, rfl⟩
theorem dX12_number_83 : Diinc prog_14_method_32_code 83 2 1 86 := ⟨1, by decide +kernel, rfl, rfl⟩
theorem dX12_number_86 : Daload prog_14_method_32_code 86 0 87 := Or.inl ⟨0, by decide +kernel, rfl, rfl⟩
theorem dX12_number_87 : D1 prog_14_method_32_code 87 (.dup) 88 := ⟨by decide +kernel, rfl⟩
theorem dX12_number_88 : D3 prog_14_method_32_code 88 (.getfield 179) 91 := ⟨by decide +kernel, rfl⟩
theorem dX12_number_91 : Dconst prog_14_method_32_code 91 1 92 := Or.inl ⟨1, by decide +kernel, rfl, rfl⟩
theorem dX12_number_92 : D1 prog_14_method_32_code 92 (.iadd) 93 := ⟨by decide +kernel, rfl⟩
theorem dX12_number_93 : D3 prog_14_method_32_code 93 (.putfield 179) 96 := ⟨by decide +kernel, rfl⟩
theorem dX12_number_96 : Dj prog_14_method_32_code 96 (.goto (-64)) (-64) 99 32 := ⟨by decide +kernel, rfl, by decide⟩
theorem dX12_number_99 : Diload prog_14_method_32_code 99 1 100 := Or.inl ⟨1, by decide +kernel, rfl, rfl⟩
theorem dX12_number_100 : D1 prog_14_method_32_code 100 (.ireturn) 101 := ⟨by decide +kernel, rfl⟩
theorem dX12_isDigit_0 : Diload prog_14_method_31_code 0 0 1 := Or.inl ⟨0, by decide +kernel, rfl, rfl⟩
theorem dX12_isDigit_1 : Dconst prog_14_method_31_code 1 48 3 := Or.inr (Or.inl ⟨48, by decide +kernel, rfl, rfl⟩)
theorem dX12_isDigit_3 : Dj prog_14_method_31_code 3 (.if_icmp .lt 13) 13 6 16 := ⟨by decide +kernel, rfl, by decide⟩
theorem dX12_isDigit_6 : Diload prog_14_method_31_code 6 0 7 := Or.inl ⟨0, by decide +kernel, rfl, rfl⟩
theorem dX12_isDigit_7 : Dconst prog_14_method_31_code 7 57 9 := Or.inr (Or.inl ⟨57, by decide +kernel, rfl, rfl⟩)
theorem dX12_isDigit_9 : Dj prog_14_method_31_code 9 (.if_icmp .gt 7) 7 12 16 := ⟨by decide +kernel, rfl, by decide⟩
theorem dX12_isDigit_12 : Dconst prog_14_method_31_code 12 1 13 := Or.inl ⟨1, by decide +kernel, rfl, rfl⟩
theorem dX12_isDigit_13 : Dj prog_14_method_31_code 13 (.goto 4) 4 16 17 := ⟨by decide +kernel, rfl, by decide⟩
theorem dX12_isDigit_16 : Dconst prog_14_method_31_code 16 0 17 := Or.inl ⟨0, by decide +kernel, rfl, rfl⟩
theorem dX12_isDigit_17 : D1 prog_14_method_31_code 17 (.ireturn) 18 := ⟨by decide +kernel, rfl⟩
theorem dX12_contract_0 : Diload prog_14_method_35_code 0 1 1 := Or.inl ⟨1, by decide +kernel, rfl, rfl⟩
theorem dX12_contract_1 : Dconst prog_14_method_35_code 1 0 2 := Or.inl ⟨0, by decide +kernel, rfl, rfl⟩
theorem dX12_contract_2 : Dconst prog_14_method_35_code 2 9 4 := Or.inr (Or.inl ⟨9, by decide +kernel, rfl, rfl⟩)
theorem dX12_contract_4 : D3 prog_14_method_35_code 4 (.invokestatic 115) 7 := ⟨by decide +kernel, rfl⟩
theorem dX12_contract_7 : Dj prog_14_method_35_code 7 (.ifCond .eq 11) 11 10 18 := ⟨by decide +kernel, rfl, by decide⟩
theorem dX12_contract_10 : Daload prog_14_method_35_code 10 0 11 := Or.inl ⟨0, by decide +kernel, rfl, rfl⟩
theorem dX12_contract_11 : D3 prog_14_method_35_code 11 (.invokevirtual 199) 14 := ⟨by decide +kernel, rfl⟩
theorem dX12_contract_14 : Dconst prog_14_method_35_code 14 (-1) 15 := Or.inl ⟨(-1), by decide +kernel, rfl, rfl⟩
theorem dX12_contract_15 : Dj prog_14_method_35_code 15 (.if_icmp .eq 5) 5 18 20 := ⟨by decide +kernel, rfl, by decide⟩
theorem dX12_contract_18 : Dconst prog_14_method_35_code 18 0 19 := Or.inl ⟨0, by decide +kernel, rfl, rfl⟩
theorem dX12_contract_19 : D1 prog_14_method_35_code 19 (.ireturn) 20 := ⟨by decide +kernel, rfl⟩
theorem dX12_contract_20 : Dconst prog_14_method_35_code 20 0 21 := Or.inl ⟨0, by decide +kernel, rfl, rfl⟩
theorem dX12_contract_21 : Distore prog_14_method_35_code 21 2 22 := Or.inl ⟨2, by decide +kernel, rfl, rfl⟩
theorem dX12_contract_22 : Diload prog_14_method_35_code 22 2 23 := Or.inl ⟨2, by decide +kernel, rfl, rfl⟩
theorem dX12_contract_23 : Daload prog_14_method_35_code 23 0 24 := Or.inl ⟨0, by decide +kernel, rfl, rfl⟩
theorem dX12_contract_24 : D3 prog_14_method_35_code 24 (.getfield 192) 27 := ⟨by decide +kernel, rfl⟩
theorem dX12_contract_27 : Dj prog_14_method_35_code 27 (.if_icmp .ge 93) 93 30 120 := ⟨by decide +kernel, rfl, by decide⟩
theorem dX12_contract_30 : Daload prog_14_method_35_code 30 0 31 := Or.inl ⟨0, by decide +kernel, rfl, rfl⟩
theorem dX12_contract_31 : D3 prog_14_method_35_code 31 (.getfield 91) 34 := ⟨by decide +kernel, rfl⟩
theorem dX12_contract_34 : Dconst prog_14_method_35_code 34 40 36 := Or.inr (Or.inl ⟨40, by decide +kernel, rfl, rfl⟩)
theorem dX12_contract_36 : Diload prog_14_method_35_code 36 1 37 := Or.inl ⟨1, by decide +kernel, rfl, rfl⟩
theorem dX12_contract_37 : D1 prog_14_method_35_code 37 (.imul) 38 := ⟨by decide +kernel, rfl⟩
theorem dX12_contract_38 : Diload prog_14_method_35_code 38 2 39 := Or.inl ⟨2, by decide +kernel, rfl, rfl⟩
theorem dX12_contract_39 : D1 prog_14_method_35_code 39 (.iadd) 40 := ⟨by decide +kernel, rfl⟩
theorem dX12_contract_40 : Daload prog_14_method_35_code 40 0 41 := Or.inl ⟨0, by decide +kernel, rfl, rfl⟩
theorem dX12_contract_41 : D3 prog_14_method_35_code 41 (.getfield 91) 44 := ⟨by decide +kernel, rfl⟩
theorem dX12_contract_44 : Dconst prog_14_method_35_code 44 400 47 := Or.inr (Or.inr ⟨400, by decide +kernel, rfl, rfl⟩)
theorem dX12_contract_47 : Diload prog_14_method_35_code 47 2 48 := Or.inl ⟨2, by decide +kernel, rfl, rfl⟩
theorem dX12_contract_48 : D1 prog_14_method_35_code 48 (.iadd) 49 := ⟨by decide +kernel, rfl⟩
theorem dX12_contract_49 : D1 prog_14_method_35_code 49 (.iaload) 50 := ⟨by decide +kernel, rfl⟩
theorem dX12_contract_50 : D1 prog_14_method_35_code 50 (.iastore) 51 := ⟨by decide +kernel, rfl⟩
theorem dX12_contract_51 : Daload prog_14_method_35_code 51 0 52 := Or.inl ⟨0, by decide +kernel, rfl, rfl⟩
theorem dX12_contract_52 : D3 prog_14_method_35_code 52 (.getfield 94) 55 := ⟨by decide +kernel, rfl⟩
theorem dX12_contract_55 : Dconst prog_14_method_35_code 55 40 57 := Or.inr (Or.inl ⟨40, by decide +kernel, rfl, rfl⟩)
theorem dX12_contract_57 : Diload prog_14_method_35_code 57 1 58 := Or.inl ⟨1, by decide +kernel, rfl, rfl⟩
theorem dX12_contract_58 : D1 prog_14_method_35_code 58 (.imul) 59 := ⟨by decide +kernel, rfl⟩
theorem dX12_contract_59 : Diload prog_14_method_35_code 59 2 60 := Or.inl ⟨2, by decide +kernel, rfl, rfl⟩
theorem dX12_contract_60 : D1 prog_14_method_35_code 60 (.iadd) 61 := ⟨by decide +kernel, rfl⟩
theorem dX12_contract_61 : Daload prog_14_method_35_code 61 0 62 := Or.inl ⟨0, by decide +kernel, rfl, rfl⟩
theorem dX12_contract_62 : D3 prog_14_method_35_code 62 (.getfield 94) 65 := ⟨by decide +kernel, rfl⟩
theorem dX12_contract_65 : Dconst prog_14_method_35_code 65 400 68 := Or.inr (Or.inr ⟨400, by decide +kernel, rfl, rfl⟩)
theorem dX12_contract_68 : Diload prog_14_method_35_code 68 2 69 := Or.inl ⟨2, by decide +kernel, rfl, rfl⟩
theorem dX12_contract_69 : D1 prog_14_method_35_code 69 (.iadd) 70 := ⟨by decide +kernel, rfl⟩
theorem dX12_contract_70 : D1 prog_14_method_35_code 70 (.iaload) 71 := ⟨by decide +kernel, rfl⟩
theorem dX12_contract_71 : D1 prog_14_method_35_code 71 (.iastore) 72 := ⟨by decide +kernel, rfl⟩
theorem dX12_contract_72 : Daload prog_14_method_35_code 72 0 73 := Or.inl ⟨0, by decide +kernel, rfl, rfl⟩
theorem dX12_contract_73 : D3 prog_14_method_35_code 73 (.getfield 97) 76 := ⟨by decide +kernel, rfl⟩
theorem dX12_contract_76 : Dconst prog_14_method_35_code 76 40 78 := Or.inr (Or.inl ⟨40, by decide +kernel, rfl, rfl⟩)
theorem dX12_contract_78 : Diload prog_14_method_35_code 78 1 79 := Or.inl ⟨1, by decide +kernel, rfl, rfl⟩
theorem dX12_contract_79 : D1 prog_14_method_35_code 79 (.imul) 80 := ⟨by decide +kernel, rfl⟩
theorem dX12_contract_80 : Diload prog_14_method_35_code 80 2 81 := Or.inl ⟨2, by decide +kernel, rfl, rfl⟩
theorem dX12_contract_81 : D1 prog_14_method_35_code 81 (.iadd) 82 := ⟨by decide +kernel, rfl⟩
theorem dX12_contract_82 : Daload prog_14_method_35_code 82 0 83 := Or.inl ⟨0, by decide +kernel, rfl, rfl⟩
theorem dX12_contract_83 : D3 prog_14_method_35_code 83 (.getfield 97) 86 := ⟨by decide +kernel, rfl⟩
theorem dX12_contract_86 : Dconst prog_14_method_35_code 86 400 89 := Or.inr (Or.inr ⟨400, by decide +kernel, rfl, rfl⟩)
theorem dX12_contract_89 : Diload prog_14_method_35_code 89 2 90 := Or.inl ⟨2, by decide +kernel, rfl, rfl⟩
theorem dX12_contract_90 : D1 prog_14_method_35_code 90 (.iadd) 91 := ⟨by decide +kernel, rfl⟩
theorem dX12_contract_91 : D1 prog_14_method_35_code 91 (.iaload) 92 := ⟨by decide +kernel, rfl⟩
theorem dX12_contract_92 : D1 prog_14_method_35_code 92 (.iastore) 93 := ⟨by decide +kernel, rfl⟩
theorem dX12_contract_93 : Daload prog_14_method_35_code 93 0 94 := Or.inl ⟨0, by decide +kernel, rfl, rfl⟩
theorem dX12_contract_94 : D3 prog_14_method_35_code 94 (.getfield 100) 97 := ⟨by decide +kernel, rfl⟩
theorem dX12_contract_97 : Dconst prog_14_method_35_code 97 40 99 := Or.inr (Or.inl ⟨40, by decide +kernel, rfl, rfl⟩)
theorem dX12_contract_99 : Diload prog_14_method_35_code 99 1 100 := Or.inl ⟨1, by decide +kernel, rfl, rfl⟩
theorem dX12_contract_100 : D1 prog_14_method_35_code 100 (.imul) 101 := ⟨by decide +kernel, rfl⟩
theorem dX12_contract_101 : Diload prog_14_method_35_code 101 2 102 := Or.inl ⟨2, by decide +kernel, rfl, rfl⟩
theorem dX12_contract_102 : D1 prog_14_method_35_code 102 (.iadd) 103 := ⟨by decide +kernel, rfl⟩
theorem dX12_contract_103 : Daload prog_14_method_35_code 103 0 104 := Or.inl ⟨0, by decide +kernel, rfl, rfl⟩
theorem dX12_contract_104 : D3 prog_14_method_35_code 104 (.getfield 100) 107 := ⟨by decide +kernel, rfl⟩
theorem dX12_contract_107 : Dconst prog_14_method_35_code 107 400 110 := Or.inr (Or.inr ⟨400, by decide +kernel, rfl, rfl⟩)
theorem dX12_contract_110 : Diload prog_14_method_35_code 110 2 111 := Or.inl ⟨2, by decide +kernel, rfl, rfl⟩
theorem dX12_contract_111 : D1 prog_14_method_35_code 111 (.iadd) 112 := ⟨by decide +kernel, rfl⟩
theorem dX12_contract_112 : D1 prog_14_method_35_code 112 (.iaload) 113 := ⟨by decide +kernel, rfl⟩
theorem dX12_contract_113 : D1 prog_14_method_35_code 113 (.iastore) 114 := ⟨by decide +kernel, rfl⟩
theorem dX12_contract_114 : Diinc prog_14_method_35_code 114 2 1 117 := ⟨1, by decide +kernel, rfl, rfl⟩
theorem dX12_contract_117 : Dj prog_14_method_35_code 117 (.goto (-95)) (-95) 120 22 := ⟨by decide +kernel, rfl, by decide⟩
theorem dX12_contract_120 : Daload prog_14_method_35_code 120 0 121 := Or.inl ⟨0, by decide +kernel, rfl, rfl⟩
theorem dX12_contract_121 : D3 prog_14_method_35_code 121 (.getfield 88) 124 := ⟨by decide +kernel, rfl⟩
theorem dX12_contract_124 : Diload prog_14_method_35_code 124 1 125 := Or.inl ⟨1, by decide +kernel, rfl, rfl⟩
theorem dX12_contract_125 : Daload prog_14_method_35_code 125 0 126 := Or.inl ⟨0, by decide +kernel, rfl, rfl⟩
theorem dX12_contract_126 : D3 prog_14_method_35_code 126 (.getfield 192) 129 := ⟨by decide +kernel, rfl⟩
theorem dX12_contract_129 : D1 prog_14_method_35_code 129 (.iastore) 130 := ⟨by decide +kernel, rfl⟩
theorem dX12_contract_130 : Daload prog_14_method_35_code 130 0 131 := Or.inl ⟨0, by decide +kernel, rfl, rfl⟩
theorem dX12_contract_131 : Dconst prog_14_method_35_code 131 0 132 := Or.inl ⟨0, by decide +kernel, rfl, rfl⟩
theorem dX12_contract_132 : D3 prog_14_method_35_code 132 (.putfield 176) 135 := ⟨by decide +kernel, rfl⟩
theorem dX12_contract_135 : Dconst prog_14_method_35_code 135 1 136 := Or.inl ⟨1, by decide +kernel, rfl, rfl⟩
theorem dX12_contract_136 : D1 prog_14_method_35_code 136 (.ireturn) 137 := ⟨by decide +kernel, rfl⟩
theorem dX12_draw_0 : Daload prog_14_method_36_code 0 0 1 := Or.inl ⟨0, by decide +kernel, rfl, rfl⟩
theorem dX12_draw_1 : Diload prog_14_method_36_code 1 1 2 := Or.inl ⟨1, by decide +kernel, rfl, rfl⟩
theorem dX12_draw_2 : D3 prog_14_method_36_code 2 (.invokevirtual 141) 5 := ⟨by decide +kernel, rfl⟩
theorem dX12_draw_5 : Dj prog_14_method_36_code 5 (.ifCond .eq 42) 42 8 47 := ⟨by decide +kernel, rfl, by decide⟩
theorem dX12_draw_8 : Daload prog_14_method_36_code 8 0 9 := Or.inl ⟨0, by decide +kernel, rfl, rfl⟩
theorem dX12_draw_9 : D3 prog_14_method_36_code 9 (.getfield 46) 12 := ⟨by decide +kernel, rfl⟩
theorem dX12_draw_12 : Diload prog_14_method_36_code 12 1 13 := Or.inl ⟨1, by decide +kernel, rfl, rfl⟩
theorem dX12_draw_13 : D1 prog_14_method_36_code 13 (.iaload) 14 := ⟨by decide +kernel, rfl⟩
theorem dX12_draw_14 : Diload prog_14_method_36_code 14 1 15 := Or.inl ⟨1, by decide +kernel, rfl, rfl⟩
theorem dX12_draw_15 : Dj prog_14_method_36_code 15 (.if_icmp .ne 32) 32 18 47 := ⟨by decide +kernel, rfl, by decide⟩
theorem dX12_draw_18 : Daload prog_14_method_36_code 18 0 19 := Or.inl ⟨0, by decide +kernel, rfl, rfl⟩
theorem dX12_draw_19 : D3 prog_14_method_36_code 19 (.getfield 55) 22 := ⟨by decide +kernel, rfl⟩
theorem dX12_draw_22 : Diload prog_14_method_36_code 22 1 23 := Or.inl ⟨1, by decide +kernel, rfl, rfl⟩
theorem dX12_draw_23 : D1 prog_14_method_36_code 23 (.iaload) 24 := ⟨by decide +kernel, rfl⟩
theorem dX12_draw_24 : Dconst prog_14_method_36_code 24 (-1) 25 := Or.inl ⟨(-1), by decide +kernel, rfl, rfl⟩
theorem dX12_draw_25 : Dj prog_14_method_36_code 25 (.if_icmp .ne 22) 22 28 47 := ⟨by decide +kernel, rfl, by decide⟩
theorem dX12_draw_28 : Diload prog_14_method_36_code 28 2 29 := Or.inl ⟨2, by decide +kernel, rfl, rfl⟩
theorem dX12_draw_29 : Dconst prog_14_method_36_code 29 0 30 := Or.inl ⟨0, by decide +kernel, rfl, rfl⟩
theorem dX12_draw_30 : Dconst prog_14_method_36_code 30 40 32 := Or.inr (Or.inl ⟨40, by decide +kernel, rfl, rfl⟩)
theorem dX12_draw_32 : Daload prog_14_method_36_code 32 0 33 := Or.inl ⟨0, by decide +kernel, rfl, rfl⟩
theorem dX12_draw_33 : D3 prog_14_method_36_code 33 (.getfield 49) 36 := ⟨by decide +kernel, rfl⟩
theorem dX12_draw_36 : Diload prog_14_method_36_code 36 1 37 := Or.inl ⟨1, by decide +kernel, rfl, rfl⟩
theorem dX12_draw_37 : D1 prog_14_method_36_code 37 (.iaload) 38 := ⟨by decide +kernel, rfl⟩
theorem dX12_draw_38 : D3 prog_14_method_36_code 38 (.invokestatic 144) 41 := ⟨by decide +kernel, rfl⟩
theorem dX12_draw_41 : D3 prog_14_method_36_code 41 (.invokestatic 115) 44 := ⟨by decide +kernel, rfl⟩
theorem dX12_draw_44 : Dj prog_14_method_36_code 44 (.ifCond .ne 5) 5 47 49 := ⟨by decide +kernel, rfl, by decide⟩
theorem dX12_draw_47 : Dconst prog_14_method_36_code 47 (-1) 48 := Or.inl ⟨(-1), by decide +kernel, rfl, rfl⟩
theorem dX12_draw_48 : D1 prog_14_method_36_code 48 (.ireturn) 49 := ⟨by decide +kernel, rfl⟩
theorem dX12_draw_49 : Daload prog_14_method_36_code 49 0 50 := Or.inl ⟨0, by decide +kernel, rfl, rfl⟩
theorem dX12_draw_50 : D3 prog_14_method_36_code 50 (.getfield 49) 53 := ⟨by decide +kernel, rfl⟩
theorem dX12_draw_53 : Diload prog_14_method_36_code 53 1 54 := Or.inl ⟨1, by decide +kernel, rfl, rfl⟩
theorem dX12_draw_54 : D1 prog_14_method_36_code 54 (.iaload) 55 := ⟨by decide +kernel, rfl⟩
theorem dX12_draw_55 : Distore prog_14_method_36_code 55 5 57 := Or.inr ⟨by decide +kernel, rfl⟩
theorem dX12_draw_57 : Dconst prog_14_method_36_code 57 0 58 := Or.inl ⟨0, by decide +kernel, rfl, rfl⟩
theorem dX12_draw_58 : Distore prog_14_method_36_code 58 6 60 := Or.inr ⟨by decide +kernel, rfl⟩
theorem dX12_draw_60 : Diload prog_14_method_36_code 60 6 62 := Or.inr ⟨by decide +kernel, rfl⟩
theorem dX12_draw_62 : Diload prog_14_method_36_code 62 5 64 := Or.inr ⟨by decide +kernel, rfl⟩
theorem dX12_draw_64 : Dj prog_14_method_36_code 64 (.if_icmp .ge 18) 18 67 82 := ⟨by decide +kernel, rfl, by decide⟩
theorem dX12_draw_67 : Daload prog_14_method_36_code 67 0 68 := Or.inl ⟨0, by decide +kernel, rfl, rfl⟩
theorem dX12_draw_68 : D3 prog_14_method_36_code 68 (.getfield 103) 71 := ⟨by decide +kernel, rfl⟩
theorem dX12_draw_71 : Diload prog_14_method_36_code 71 6 73 := Or.inr ⟨by decide +kernel, rfl⟩
theorem dX12_draw_73 : Diload prog_14_method_36_code 73 6 75 := Or.inr ⟨by decide +kernel, rfl⟩
theorem dX12_draw_75 : D1 prog_14_method_36_code 75 (.iastore) 76 := ⟨by decide +kernel, rfl⟩
theorem dX12_draw_76 : Diinc prog_14_method_36_code 76 6 1 79 := ⟨1, by decide +kernel, rfl, rfl⟩
theorem dX12_draw_79 : Dj prog_14_method_36_code 79 (.goto (-19)) (-19) 82 60 := ⟨by decide +kernel, rfl, by decide⟩
theorem dX12_draw_82 : Dlload prog_14_method_36_code 82 3 83 := Or.inl ⟨3, by decide +kernel, rfl, rfl⟩
theorem dX12_draw_83 : D2 prog_14_method_36_code 83 (.lstore 6) 85 := ⟨by decide +kernel, rfl⟩
theorem dX12_draw_85 : Dconst prog_14_method_36_code 85 0 86 := Or.inl ⟨0, by decide +kernel, rfl, rfl⟩
theorem dX12_draw_86 : Distore prog_14_method_36_code 86 8 88 := Or.inr ⟨by decide +kernel, rfl⟩
theorem dX12_draw_88 : Dconst prog_14_method_36_code 88 0 89 := Or.inl ⟨0, by decide +kernel, rfl, rfl⟩
theorem dX12_draw_89 : Distore prog_14_method_36_code 89 9 91 := Or.inr ⟨by decide +kernel, rfl⟩
theorem dX12_draw_91 : Diload prog_14_method_36_code 91 9 93 := Or.inr ⟨by decide +kernel, rfl⟩
theorem dX12_draw_93 : Diload prog_14_method_36_code 93 2 94 := Or.inl ⟨2, by decide +kernel, rfl, rfl⟩
theorem dX12_draw_94 : Dj prog_14_method_36_code 94 (.if_icmp .ge 100) 100 97 194 := ⟨by decide +kernel, rfl, by decide⟩
theorem dX12_draw_97 : Dlload prog_14_method_36_code 97 6 99 := Or.inr ⟨by decide +kernel, rfl⟩
theorem dX12_draw_99 : D3 prog_14_method_36_code 99 (.ldc2_w 202) 102 := ⟨by decide +kernel, rfl⟩
theorem dX12_draw_102 : D1 prog_14_method_36_code 102 (.lmul) 103 := ⟨by decide +kernel, rfl⟩
theorem dX12_draw_103 : D3 prog_14_method_36_code 103 (.ldc2_w 204) 106 := ⟨by decide +kernel, rfl⟩
theorem dX12_draw_106 : D1 prog_14_method_36_code 106 (.ladd) 107 := ⟨by decide +kernel, rfl⟩
theorem dX12_draw_107 : D2 prog_14_method_36_code 107 (.lstore 6) 109 := ⟨by decide +kernel, rfl⟩
theorem dX12_draw_109 : Diload prog_14_method_36_code 109 9 111 := Or.inr ⟨by decide +kernel, rfl⟩
theorem dX12_draw_111 : Dlload prog_14_method_36_code 111 6 113 := Or.inr ⟨by decide +kernel, rfl⟩
theorem dX12_draw_113 : Dconst prog_14_method_36_code 113 33 115 := Or.inr (Or.inl ⟨33, by decide +kernel, rfl, rfl⟩)
theorem dX12_draw_115 : D1 prog_14_method_36_code 115 (.lushr) 116 := ⟨by decide +kernel, rfl⟩
theorem dX12_draw_116 : Diload prog_14_method_36_code 116 5 118 := Or.inr ⟨by decide +kernel, rfl⟩
theorem dX12_draw_118 : Diload prog_14_method_36_code 118 9 120 := Or.inr ⟨by decide +kernel, rfl⟩
theorem dX12_draw_120 : D1 prog_14_method_36_code 120 (.isub) 121 := ⟨by decide +kernel, rfl⟩
theorem dX12_draw_121 : D1 prog_14_method_36_code 121 (.i2l) 122 := ⟨by decide +kernel, rfl⟩
theorem dX12_draw_122 : D1 prog_14_method_36_code 122 (.lrem) 123 := ⟨by decide +kernel, rfl⟩
theorem dX12_draw_123 : D1 prog_14_method_36_code 123 (.l2i) 124 := ⟨by decide +kernel, rfl⟩
theorem dX12_draw_124 : D1 prog_14_method_36_code 124 (.iadd) 125 := ⟨by decide +kernel, rfl⟩
theorem dX12_draw_125 : Distore prog_14_method_36_code 125 10 127 := Or.inr ⟨by decide +kernel, rfl⟩
theorem dX12_draw_127 : Daload prog_14_method_36_code 127 0 128 := Or.inl ⟨0, by decide +kernel, rfl, rfl⟩
theorem dX12_draw_128 : D3 prog_14_method_36_code 128 (.getfield 103) 131 := ⟨by decide +kernel, rfl⟩
theorem dX12_draw_131 : Diload prog_14_method_36_code 131 9 133 := Or.inr ⟨by decide +kernel, rfl⟩
theorem dX12_draw_133 : D1 prog_14_method_36_code 133 (.iaload) 134 := ⟨by decide +kernel, rfl⟩
theorem dX12_draw_134 : Distore prog_14_method_36_code 134 11 136 := Or.inr ⟨by decide +kernel, rfl⟩
theorem dX12_draw_136 : Daload prog_14_method_36_code 136 0 137 := Or.inl ⟨0, by decide +kernel, rfl, rfl⟩
theorem dX12_draw_137 : D3 prog_14_method_36_code 137 (.getfield 103) 140 := ⟨by decide +kernel, rfl⟩
theorem dX12_draw_140 : Diload prog_14_method_36_code 140 9 142 := Or.inr ⟨by decide +kernel, rfl⟩
theorem dX12_draw_142 : Daload prog_14_method_36_code 142 0 143 := Or.inl ⟨0, by decide +kernel, rfl, rfl⟩
theorem dX12_draw_143 : D3 prog_14_method_36_code 143 (.getfield 103) 146 := ⟨by decide +kernel, rfl⟩
theorem dX12_draw_146 : Diload prog_14_method_36_code 146 10 148 := Or.inr ⟨by decide +kernel, rfl⟩
theorem dX12_draw_148 : D1 prog_14_method_36_code 148 (.iaload) 149 := ⟨by decide +kernel, rfl⟩
theorem dX12_draw_149 : D1 prog_14_method_36_code 149 (.iastore) 150 := ⟨by decide +kernel, rfl⟩
theorem dX12_draw_150 : Daload prog_14_method_36_code 150 0 151 := Or.inl ⟨0, by decide +kernel, rfl, rfl⟩
theorem dX12_draw_151 : D3 prog_14_method_36_code 151 (.getfield 103) 154 := ⟨by decide +kernel, rfl⟩
theorem dX12_draw_154 : Diload prog_14_method_36_code 154 10 156 := Or.inr ⟨by decide +kernel, rfl⟩
theorem dX12_draw_156 : Diload prog_14_method_36_code 156 11 158 := Or.inr ⟨by decide +kernel, rfl⟩
theorem dX12_draw_158 : D1 prog_14_method_36_code 158 (.iastore) 159 := ⟨by decide +kernel, rfl⟩
theorem dX12_draw_159 : Diload prog_14_method_36_code 159 8 161 := Or.inr ⟨by decide +kernel, rfl⟩
theorem dX12_draw_161 : Daload prog_14_method_36_code 161 0 162 := Or.inl ⟨0, by decide +kernel, rfl, rfl⟩
theorem dX12_draw_162 : D3 prog_14_method_36_code 162 (.getfield 103) 165 := ⟨by decide +kernel, rfl⟩
theorem dX12_draw_165 : Diload prog_14_method_36_code 165 9 167 := Or.inr ⟨by decide +kernel, rfl⟩
theorem dX12_draw_167 : D1 prog_14_method_36_code 167 (.iaload) 168 := ⟨by decide +kernel, rfl⟩
theorem dX12_draw_168 : Dconst prog_14_method_36_code 168 7 170 := Or.inr (Or.inl ⟨7, by decide +kernel, rfl, rfl⟩)
theorem dX12_draw_170 : D1 prog_14_method_36_code 170 (.irem) 171 := ⟨by decide +kernel, rfl⟩
theorem dX12_draw_171 : Daload prog_14_method_36_code 171 0 172 := Or.inl ⟨0, by decide +kernel, rfl, rfl⟩
theorem dX12_draw_172 : D3 prog_14_method_36_code 172 (.getfield 43) 175 := ⟨by decide +kernel, rfl⟩
theorem dX12_draw_175 : Diload prog_14_method_36_code 175 1 176 := Or.inl ⟨1, by decide +kernel, rfl, rfl⟩
theorem dX12_draw_176 : D1 prog_14_method_36_code 176 (.iaload) 177 := ⟨by decide +kernel, rfl⟩
theorem dX12_draw_177 : Dj prog_14_method_36_code 177 (.if_icmp .ge 7) 7 180 184 := ⟨by decide +kernel, rfl, by decide⟩
theorem dX12_draw_180 : Dconst prog_14_method_36_code 180 1 181 := Or.inl ⟨1, by decide +kernel, rfl, rfl⟩
theorem dX12_draw_181 : Dj prog_14_method_36_code 181 (.goto 4) 4 184 185 := ⟨by decide +kernel, rfl, by decide⟩
theorem dX12_draw_184 : Dconst prog_14_method_36_code 184 0 185 := Or.inl ⟨0, by decide +kernel, rfl, rfl⟩
theorem dX12_draw_185 : D1 prog_14_method_36_code 185 (.iadd) 186 := ⟨by decide +kernel, rfl⟩
theorem dX12_draw_186 : Distore prog_14_method_36_code 186 8 188 := Or.inr ⟨by decide +kernel, rfl⟩
theorem dX12_draw_188 : Diinc prog_14_method_36_code 188 9 1 191 := ⟨1, by decide +kernel, rfl, rfl⟩
theorem dX12_draw_191 : Dj prog_14_method_36_code 191 (.goto (-100)) (-100) 194 91 := ⟨by decide +kernel, rfl, by decide⟩
theorem dX12_draw_194 : Daload prog_14_method_36_code 194 0 195 := Or.inl ⟨0, by decide +kernel, rfl, rfl⟩
theorem dX12_draw_195 : D3 prog_14_method_36_code 195 (.getfield 55) 198 := ⟨by decide +kernel, rfl⟩
theorem dX12_draw_198 : Diload prog_14_method_36_code 198 1 199 := Or.inl ⟨1, by decide +kernel, rfl, rfl⟩
theorem dX12_draw_199 : Diload prog_14_method_36_code 199 8 201 := Or.inr ⟨by decide +kernel, rfl⟩
theorem dX12_draw_201 : D1 prog_14_method_36_code 201 (.iastore) 202 := ⟨by decide +kernel, rfl⟩
theorem dX12_draw_202 : Daload prog_14_method_36_code 202 0 203 := Or.inl ⟨0, by decide +kernel, rfl, rfl⟩
theorem dX12_draw_203 : D3 prog_14_method_36_code 203 (.getfield 58) 206 := ⟨by decide +kernel, rfl⟩
theorem dX12_draw_206 : Diload prog_14_method_36_code 206 1 207 := Or.inl ⟨1, by decide +kernel, rfl, rfl⟩
theorem dX12_draw_207 : Daload prog_14_method_36_code 207 0 208 := Or.inl ⟨0, by decide +kernel, rfl, rfl⟩
theorem dX12_draw_208 : D3 prog_14_method_36_code 208 (.getfield 52) 211 := ⟨by decide +kernel, rfl⟩
theorem dX12_draw_211 : Diload prog_14_method_36_code 211 1 212 := Or.inl ⟨1, by decide +kernel, rfl, rfl⟩
theorem dX12_draw_212 : D1 prog_14_method_36_code 212 (.iaload) 213 := ⟨by decide +kernel, rfl⟩
theorem dX12_draw_213 : D1 prog_14_method_36_code 213 (.iastore) 214 := ⟨by decide +kernel, rfl⟩
theorem dX12_draw_214 : Dconst prog_14_method_36_code 214 40 216 := Or.inr (Or.inl ⟨40, by decide +kernel, rfl, rfl⟩)
theorem dX12_draw_216 : Daload prog_14_method_36_code 216 0 217 := Or.inl ⟨0, by decide +kernel, rfl, rfl⟩
theorem dX12_draw_217 : D3 prog_14_method_36_code 217 (.getfield 25) 220 := ⟨by decide +kernel, rfl⟩
theorem dX12_draw_220 : Diload prog_14_method_36_code 220 1 221 := Or.inl ⟨1, by decide +kernel, rfl, rfl⟩
theorem dX12_draw_221 : D1 prog_14_method_36_code 221 (.iaload) 222 := ⟨by decide +kernel, rfl⟩
theorem dX12_draw_222 : D1 prog_14_method_36_code 222 (.imul) 223 := ⟨by decide +kernel, rfl⟩
theorem dX12_draw_223 : Distore prog_14_method_36_code 223 9 225 := Or.inr ⟨by decide +kernel, rfl⟩
theorem dX12_draw_225 : Diload prog_14_method_36_code 225 9 227 := Or.inr ⟨by decide +kernel, rfl⟩
theorem dX12_draw_227 : Dconst prog_14_method_36_code 227 40 229 := Or.inr (Or.inl ⟨40, by decide +kernel, rfl, rfl⟩)
theorem dX12_draw_229 : Daload prog_14_method_36_code 229 0 230 := Or.inl ⟨0, by decide +kernel, rfl, rfl⟩
theorem dX12_draw_230 : D3 prog_14_method_36_code 230 (.getfield 25) 233 := ⟨by decide +kernel, rfl⟩
theorem dX12_draw_233 : Diload prog_14_method_36_code 233 1 234 := Or.inl ⟨1, by decide +kernel, rfl, rfl⟩
theorem dX12_draw_234 : D1 prog_14_method_36_code 234 (.iaload) 235 := ⟨by decide +kernel, rfl⟩
theorem dX12_draw_235 : D1 prog_14_method_36_code 235 (.imul) 236 := ⟨by decide +kernel, rfl⟩
theorem dX12_draw_236 : Daload prog_14_method_36_code 236 0 237 := Or.inl ⟨0, by decide +kernel, rfl, rfl⟩
theorem dX12_draw_237 : D3 prog_14_method_36_code 237 (.getfield 88) 240 := ⟨by decide +kernel, rfl⟩
theorem dX12_draw_240 : Daload prog_14_method_36_code 240 0 241 := Or.inl ⟨0, by decide +kernel, rfl, rfl⟩
theorem dX12_draw_241 : D3 prog_14_method_36_code 241 (.getfield 25) 244 := ⟨by decide +kernel, rfl⟩
theorem dX12_draw_244 : Diload prog_14_method_36_code 244 1 245 := Or.inl ⟨1, by decide +kernel, rfl, rfl⟩
theorem dX12_draw_245 : D1 prog_14_method_36_code 245 (.iaload) 246 := ⟨by decide +kernel, rfl⟩
theorem dX12_draw_246 : D1 prog_14_method_36_code 246 (.iaload) 247 := ⟨by decide +kernel, rfl⟩
theorem dX12_draw_247 : D1 prog_14_method_36_code 247 (.iadd) 248 := ⟨by decide +kernel, rfl⟩
theorem dX12_draw_248 : Dj prog_14_method_36_code 248 (.if_icmp .ge 174) 174 251 422 := ⟨by decide +kernel, rfl, by decide⟩
theorem dX12_draw_251 : Daload prog_14_method_36_code 251 0 252 := Or.inl ⟨0, by decide +kernel, rfl, rfl⟩
theorem dX12_draw_252 : D3 prog_14_method_36_code 252 (.getfield 91) 255 := ⟨by decide +kernel, rfl⟩
theorem dX12_draw_255 : Diload prog_14_method_36_code 255 9 257 := Or.inr ⟨by decide +kernel, rfl⟩
theorem dX12_draw_257 : D1 prog_14_method_36_code 257 (.iaload) 258 := ⟨by decide +kernel, rfl⟩
theorem dX12_draw_258 : Distore prog_14_method_36_code 258 10 260 := Or.inr ⟨by decide +kernel, rfl⟩
theorem dX12_draw_260 : Diload prog_14_method_36_code 260 10 262 := Or.inr ⟨by decide +kernel, rfl⟩
theorem dX12_draw_262 : Dconst prog_14_method_36_code 262 98 264 := Or.inr (Or.inl ⟨98, by decide +kernel, rfl, rfl⟩)
theorem dX12_draw_264 : Dj prog_14_method_36_code 264 (.if_icmp .ne 8) 8 267 272 := ⟨by decide +kernel, rfl, by decide⟩
theorem dX12_draw_267 : Diload prog_14_method_36_code 267 8 269 := Or.inr ⟨by decide +kernel, rfl⟩
theorem dX12_draw_269 : Dj prog_14_method_36_code 269 (.goto 37) 37 272 306 := ⟨by decide +kernel, rfl, by decide⟩
theorem dX12_draw_272 : Diload prog_14_method_36_code 272 10 274 := Or.inr ⟨by decide +kernel, rfl⟩
theorem dX12_draw_274 : Dconst prog_14_method_36_code 274 107 276 := Or.inr (Or.inl ⟨107, by decide +kernel, rfl, rfl⟩)
theorem dX12_draw_276 : Dj prog_14_method_36_code 276 (.if_icmp .ne 7) 7 279 283 := ⟨by decide +kernel, rfl, by decide⟩
theorem dX12_draw_279 : Diload prog_14_method_36_code 279 2 280 := Or.inl ⟨2, by decide +kernel, rfl, rfl⟩
theorem dX12_draw_280 : Dj prog_14_method_36_code 280 (.goto 26) 26 283 306 := ⟨by decide +kernel, rfl, by decide⟩
theorem dX12_draw_283 : Diload prog_14_method_36_code 283 10 285 := Or.inr ⟨by decide +kernel, rfl⟩
theorem dX12_draw_285 : Dconst prog_14_method_36_code 285 110 287 := Or.inr (Or.inl ⟨110, by decide +kernel, rfl, rfl⟩)
theorem dX12_draw_287 : Dj prog_14_method_36_code 287 (.if_icmp .ne 8) 8 290 295 := ⟨by decide +kernel, rfl, by decide⟩
theorem dX12_draw_290 : Diload prog_14_method_36_code 290 5 292 := Or.inr ⟨by decide +kernel, rfl⟩
theorem dX12_draw_292 : Dj prog_14_method_36_code 292 (.goto 14) 14 295 306 := ⟨by decide +kernel, rfl, by decide⟩
theorem dX12_draw_295 : Daload prog_14_method_36_code 295 0 296 := Or.inl ⟨0, by decide +kernel, rfl, rfl⟩
theorem dX12_draw_296 : D3 prog_14_method_36_code 296 (.getfield 131) 299 := ⟨by decide +kernel, rfl⟩
theorem dX12_draw_299 : Daload prog_14_method_36_code 299 0 300 := Or.inl ⟨0, by decide +kernel, rfl, rfl⟩
theorem dX12_draw_300 : D3 prog_14_method_36_code 300 (.getfield 31) 303 := ⟨by decide +kernel, rfl⟩
theorem dX12_draw_303 : Diload prog_14_method_36_code 303 1 304 := Or.inl ⟨1, by decide +kernel, rfl, rfl⟩
theorem dX12_draw_304 : D1 prog_14_method_36_code 304 (.iaload) 305 := ⟨by decide +kernel, rfl⟩
theorem dX12_draw_305 : D1 prog_14_method_36_code 305 (.isub) 306 := ⟨by decide +kernel, rfl⟩
theorem dX12_draw_306 : Distore prog_14_method_36_code 306 11 308 := Or.inr ⟨by decide +kernel, rfl⟩
theorem dX12_draw_308 : Daload prog_14_method_36_code 308 0 309 := Or.inl ⟨0, by decide +kernel, rfl, rfl⟩
theorem dX12_draw_309 : D3 prog_14_method_36_code 309 (.getfield 94) 312 := ⟨by decide +kernel, rfl⟩
theorem dX12_draw_312 : Diload prog_14_method_36_code 312 9 314 := Or.inr ⟨by decide +kernel, rfl⟩
theorem dX12_draw_314 : D1 prog_14_method_36_code 314 (.iaload) 315 := ⟨by decide +kernel, rfl⟩
theorem dX12_draw_315 : Dconst prog_14_method_36_code 315 61 317 := Or.inr (Or.inl ⟨61, by decide +kernel, rfl, rfl⟩)
theorem dX12_draw_317 : Dj prog_14_method_36_code 317 (.if_icmp .ne 23) 23 320 340 := ⟨by decide +kernel, rfl, by decide⟩
theorem dX12_draw_320 : Diload prog_14_method_36_code 320 11 322 := Or.inr ⟨by decide +kernel, rfl⟩
theorem dX12_draw_322 : Daload prog_14_method_36_code 322 0 323 := Or.inl ⟨0, by decide +kernel, rfl, rfl⟩
theorem dX12_draw_323 : D3 prog_14_method_36_code 323 (.getfield 97) 326 := ⟨by decide +kernel, rfl⟩
theorem dX12_draw_326 : Diload prog_14_method_36_code 326 9 328 := Or.inr ⟨by decide +kernel, rfl⟩
theorem dX12_draw_328 : D1 prog_14_method_36_code 328 (.iaload) 329 := ⟨by decide +kernel, rfl⟩
theorem dX12_draw_329 : Dj prog_14_method_36_code 329 (.if_icmp .ne 7) 7 332 336 := ⟨by decide +kernel, rfl, by decide⟩
theorem dX12_draw_332 : Dconst prog_14_method_36_code 332 1 333 := Or.inl ⟨1, by decide +kernel, rfl, rfl⟩
theorem dX12_draw_333 : Dj prog_14_method_36_code 333 (.goto 56) 56 336 389 := ⟨by decide +kernel, rfl, by decide⟩
theorem dX12_draw_336 : Dconst prog_14_method_36_code 336 0 337 := Or.inl ⟨0, by decide +kernel, rfl, rfl⟩
theorem dX12_draw_337 : Dj prog_14_method_36_code 337 (.goto 52) 52 340 389 := ⟨by decide +kernel, rfl, by decide⟩
theorem dX12_draw_340 : Daload prog_14_method_36_code 340 0 341 := Or.inl ⟨0, by decide +kernel, rfl, rfl⟩
theorem dX12_draw_341 : D3 prog_14_method_36_code 341 (.getfield 94) 344 := ⟨by decide +kernel, rfl⟩
theorem dX12_draw_344 : Diload prog_14_method_36_code 344 9 346 := Or.inr ⟨by decide +kernel, rfl⟩
theorem dX12_draw_346 : D1 prog_14_method_36_code 346 (.iaload) 347 := ⟨by decide +kernel, rfl⟩
theorem dX12_draw_347 : Dconst prog_14_method_36_code 347 60 349 := Or.inr (Or.inl ⟨60, by decide +kernel, rfl, rfl⟩)
theorem dX12_draw_349 : Dj prog_14_method_36_code 349 (.if_icmp .ne 23) 23 352 372 := ⟨by decide +kernel, rfl, by decide⟩
theorem dX12_draw_352 : Diload prog_14_method_36_code 352 11 354 := Or.inr ⟨by decide +kernel, rfl⟩
theorem dX12_draw_354 : Daload prog_14_method_36_code 354 0 355 := Or.inl ⟨0, by decide +kernel, rfl, rfl⟩
theorem dX12_draw_355 : D3 prog_14_method_36_code 355 (.getfield 97) 358 := ⟨by decide +kernel, rfl⟩
theorem dX12_draw_358 : Diload prog_14_method_36_code 358 9 360 := Or.inr ⟨by decide +kernel, rfl⟩
theorem dX12_draw_360 : D1 prog_14_method_36_code 360 (.iaload) 361 := ⟨by decide +kernel, rfl⟩
theorem dX12_draw_361 : Dj prog_14_method_36_code 361 (.if_icmp .ge 7) 7 364 368 := ⟨by decide +kernel, rfl, by decide⟩
theorem dX12_draw_364 : Dconst prog_14_method_36_code 364 1 365 := Or.inl ⟨1, by decide +kernel, rfl, rfl⟩
theorem dX12_draw_365 : Dj prog_14_method_36_code 365 (.goto 24) 24 368 389 := ⟨by decide +kernel, rfl, by decide⟩
theorem dX12_draw_368 : Dconst prog_14_method_36_code 368 0 369 := Or.inl ⟨0, by decide +kernel, rfl, rfl⟩
theorem dX12_draw_369 : Dj prog_14_method_36_code 369 (.goto 20) 20 372 389 := ⟨by decide +kernel, rfl, by decide⟩
theorem dX12_draw_372 : Diload prog_14_method_36_code 372 11 374 := Or.inr ⟨by decide +kernel, rfl⟩
theorem dX12_draw_374 : Daload prog_14_method_36_code 374 0 375 := Or.inl ⟨0, by decide +kernel, rfl, rfl⟩
theorem dX12_draw_375 : D3 prog_14_method_36_code 375 (.getfield 97) 378 := ⟨by decide +kernel, rfl⟩
theorem dX12_draw_378 : Diload prog_14_method_36_code 378 9 380 := Or.inr ⟨by decide +kernel, rfl⟩
theorem dX12_draw_380 : D1 prog_14_method_36_code 380 (.iaload) 381 := ⟨by decide +kernel, rfl⟩
theorem dX12_draw_381 : Dj prog_14_method_36_code 381 (.if_icmp .le 7) 7 384 388 := ⟨by decide +kernel, rfl, by decide⟩
theorem dX12_draw_384 : Dconst prog_14_method_36_code 384 1 385 := Or.inl ⟨1, by decide +kernel, rfl, rfl⟩
theorem dX12_draw_385 : Dj prog_14_method_36_code 385 (.goto 4) 4 388 389 := ⟨by decide +kernel, rfl, by decide⟩
theorem dX12_draw_388 : Dconst prog_14_method_36_code 388 0 389 := Or.inl ⟨0, by decide +kernel, rfl, rfl⟩
theorem dX12_draw_389 : Distore prog_14_method_36_code 389 12 391 := Or.inr ⟨by decide +kernel, rfl⟩
theorem dX12_draw_391 : Daload prog_14_method_36_code 391 0 392 := Or.inl ⟨0, by decide +kernel, rfl, rfl⟩
theorem dX12_draw_392 : D3 prog_14_method_36_code 392 (.getfield 58) 395 := ⟨by decide +kernel, rfl⟩
theorem dX12_draw_395 : Diload prog_14_method_36_code 395 1 396 := Or.inl ⟨1, by decide +kernel, rfl, rfl⟩
theorem dX12_draw_396 : D1 prog_14_method_36_code 396 (.dup2) 397 := ⟨by decide +kernel, rfl⟩
theorem dX12_draw_397 : D1 prog_14_method_36_code 397 (.iaload) 398 := ⟨by decide +kernel, rfl⟩
theorem dX12_draw_398 : Diload prog_14_method_36_code 398 12 400 := Or.inr ⟨by decide +kernel, rfl⟩
theorem dX12_draw_400 : Dj prog_14_method_36_code 400 (.ifCond .eq 13) 13 403 413 := ⟨by decide +kernel, rfl, by decide⟩
theorem dX12_draw_403 : Daload prog_14_method_36_code 403 0 404 := Or.inl ⟨0, by decide +kernel, rfl, rfl⟩
theorem dX12_draw_404 : D3 prog_14_method_36_code 404 (.getfield 100) 407 := ⟨by decide +kernel, rfl⟩
theorem dX12_draw_407 : Diload prog_14_method_36_code 407 9 409 := Or.inr ⟨by decide +kernel, rfl⟩
theorem dX12_draw_409 : D1 prog_14_method_36_code 409 (.iaload) 410 := ⟨by decide +kernel, rfl⟩
theorem dX12_draw_410 : Dj prog_14_method_36_code 410 (.goto 4) 4 413 414 := ⟨by decide +kernel, rfl, by decide⟩
theorem dX12_draw_413 : Dconst prog_14_method_36_code 413 0 414 := Or.inl ⟨0, by decide +kernel, rfl, rfl⟩
theorem dX12_draw_414 : D1 prog_14_method_36_code 414 (.iadd) 415 := ⟨by decide +kernel, rfl⟩
theorem dX12_draw_415 : D1 prog_14_method_36_code 415 (.iastore) 416 := ⟨by decide +kernel, rfl⟩
theorem dX12_draw_416 : Diinc prog_14_method_36_code 416 9 1 419 := ⟨1, by decide +kernel, rfl, rfl⟩
theorem dX12_draw_419 : Dj prog_14_method_36_code 419 (.goto (-194)) (-194) 422 225 := ⟨by decide +kernel, rfl, by decide⟩
theorem dX12_draw_422 : Diload prog_14_method_36_code 422 8 424 := Or.inr ⟨by decide +kernel, rfl⟩
theorem dX12_draw_424 : D1 prog_14_method_36_code 424 (.ireturn) 425 := ⟨by decide +kernel, rfl⟩
theorem dX12_due_0 : Daload prog_14_method_37_code 0 0 1 := Or.inl ⟨0, by decide +kernel, rfl, rfl⟩
theorem dX12_due_1 : Diload prog_14_method_37_code 1 1 2 := Or.inl ⟨1, by decide +kernel, rfl, rfl⟩
theorem dX12_due_2 : D3 prog_14_method_37_code 2 (.invokevirtual 141) 5 := ⟨by decide +kernel, rfl⟩
theorem dX12_due_5 : Dj prog_14_method_37_code 5 (.ifCond .eq 22) 22 8 27 := ⟨by decide +kernel, rfl, by decide⟩
theorem dX12_due_8 : Daload prog_14_method_37_code 8 0 9 := Or.inl ⟨0, by decide +kernel, rfl, rfl⟩
theorem dX12_due_9 : D3 prog_14_method_37_code 9 (.getfield 55) 12 := ⟨by decide +kernel, rfl⟩
theorem dX12_due_12 : Diload prog_14_method_37_code 12 1 13 := Or.inl ⟨1, by decide +kernel, rfl, rfl⟩
theorem dX12_due_13 : D1 prog_14_method_37_code 13 (.iaload) 14 := ⟨by decide +kernel, rfl⟩
theorem dX12_due_14 : Dconst prog_14_method_37_code 14 (-1) 15 := Or.inl ⟨(-1), by decide +kernel, rfl, rfl⟩
theorem dX12_due_15 : Dj prog_14_method_37_code 15 (.if_icmp .eq 12) 12 18 27 := ⟨by decide +kernel, rfl, by decide⟩
theorem dX12_due_18 : Daload prog_14_method_37_code 18 0 19 := Or.inl ⟨0, by decide +kernel, rfl, rfl⟩
theorem dX12_due_19 : D3 prog_14_method_37_code 19 (.getfield 58) 22 := ⟨by decide +kernel, rfl⟩
theorem dX12_due_22 : Diload prog_14_method_37_code 22 1 23 := Or.inl ⟨1, by decide +kernel, rfl, rfl⟩
theorem dX12_due_23 : D1 prog_14_method_37_code 23 (.iaload) 24 := ⟨by decide +kernel, rfl⟩
theorem dX12_due_24 : Dj prog_14_method_37_code 24 (.goto 4) 4 27 28 := ⟨by decide +kernel, rfl, by decide⟩
theorem dX12_due_27 : Dconst prog_14_method_37_code 27 0 28 := Or.inl ⟨0, by decide +kernel, rfl, rfl⟩
theorem dX12_due_28 : D1 prog_14_method_37_code 28 (.ireturn) 29 := ⟨by decide +kernel, rfl⟩
theorem dX12_owed_0 : Dconst prog_14_method_38_code 0 0 1 := Or.inl ⟨0, by decide +kernel, rfl, rfl⟩
theorem dX12_owed_1 : Distore prog_14_method_38_code 1 2 2 := Or.inl ⟨2, by decide +kernel, rfl, rfl⟩
theorem dX12_owed_2 : Dconst prog_14_method_38_code 2 0 3 := Or.inl ⟨0, by decide +kernel, rfl, rfl⟩
theorem dX12_owed_3 : Distore prog_14_method_38_code 3 3 4 := Or.inl ⟨3, by decide +kernel, rfl, rfl⟩
theorem dX12_owed_4 : Diload prog_14_method_38_code 4 3 5 := Or.inl ⟨3, by decide +kernel, rfl, rfl⟩
theorem dX12_owed_5 : Daload prog_14_method_38_code 5 0 6 := Or.inl ⟨0, by decide +kernel, rfl, rfl⟩
theorem dX12_owed_6 : D3 prog_14_method_38_code 6 (.getfield 126) 9 := ⟨by decide +kernel, rfl⟩
theorem dX12_owed_9 : Dj prog_14_method_38_code 9 (.if_icmp .ge 42) 42 12 51 := ⟨by decide +kernel, rfl, by decide⟩
theorem dX12_owed_12 : Diload prog_14_method_38_code 12 2 13 := Or.inl ⟨2, by decide +kernel, rfl, rfl⟩
theorem dX12_owed_13 : Daload prog_14_method_38_code 13 0 14 := Or.inl ⟨0, by decide +kernel, rfl, rfl⟩
theorem dX12_owed_14 : D3 prog_14_method_38_code 14 (.getfield 25) 17 := ⟨by decide +kernel, rfl⟩
theorem dX12_owed_17 : Diload prog_14_method_38_code 17 3 18 := Or.inl ⟨3, by decide +kernel, rfl, rfl⟩
theorem dX12_owed_18 : D1 prog_14_method_38_code 18 (.iaload) 19 := ⟨by decide +kernel, rfl⟩
theorem dX12_owed_19 : Diload prog_14_method_38_code 19 1 20 := Or.inl ⟨1, by decide +kernel, rfl, rfl⟩
theorem dX12_owed_20 : Dj prog_14_method_38_code 20 (.if_icmp .ne 22) 22 23 42 := ⟨by decide +kernel, rfl, by decide⟩
theorem dX12_owed_23 : Daload prog_14_method_38_code 23 0 24 := Or.inl ⟨0, by decide +kernel, rfl, rfl⟩
theorem dX12_owed_24 : D3 prog_14_method_38_code 24 (.getfield 55) 27 := ⟨by decide +kernel, rfl⟩
theorem dX12_owed_27 : Diload prog_14_method_38_code 27 3 28 := Or.inl ⟨3, by decide +kernel, rfl, rfl⟩
theorem dX12_owed_28 : D1 prog_14_method_38_code 28 (.iaload) 29 := ⟨by decide +kernel, rfl⟩
theorem dX12_owed_29 : Dconst prog_14_method_38_code 29 (-1) 30 := Or.inl ⟨(-1), by decide +kernel, rfl, rfl⟩
theorem dX12_owed_30 : Dj prog_14_method_38_code 30 (.if_icmp .eq 12) 12 33 42 := ⟨by decide +kernel, rfl, by decide⟩
theorem dX12_owed_33 : Daload prog_14_method_38_code 33 0 34 := Or.inl ⟨0, by decide +kernel, rfl, rfl⟩
theorem dX12_owed_34 : D3 prog_14_method_38_code 34 (.getfield 58) 37 := ⟨by decide +kernel, rfl⟩
theorem dX12_owed_37 : Diload prog_14_method_38_code 37 3 38 := Or.inl ⟨3, by decide +kernel, rfl, rfl⟩
theorem dX12_owed_38 : D1 prog_14_method_38_code 38 (.iaload) 39 := ⟨by decide +kernel, rfl⟩
theorem dX12_owed_39 : Dj prog_14_method_38_code 39 (.goto 4) 4 42 43 := ⟨by decide +kernel, rfl, by decide⟩
theorem dX12_owed_42 : Dconst prog_14_method_38_code 42 0 43 := Or.inl ⟨0, by decide +kernel, rfl, rfl⟩
theorem dX12_owed_43 : D1 prog_14_method_38_code 43 (.iadd) 44 := ⟨by decide +kernel, rfl⟩
theorem dX12_owed_44 : Distore prog_14_method_38_code 44 2 45 := Or.inl ⟨2, by decide +kernel, rfl, rfl⟩
theorem dX12_owed_45 : Diinc prog_14_method_38_code 45 3 1 48 := ⟨1, by decide +kernel, rfl, rfl⟩
theorem dX12_owed_48 : Dj prog_14_method_38_code 48 (.goto (-44)) (-44) 51 4 := ⟨by decide +kernel, rfl, by decide⟩
theorem dX12_owed_51 : Diload prog_14_method_38_code 51 2 52 := Or.inl ⟨2, by decide +kernel, rfl, rfl⟩
theorem dX12_owed_52 : D1 prog_14_method_38_code 52 (.ireturn) 53 := ⟨by decide +kernel, rfl⟩
theorem dX12_condemned_0 : Daload prog_14_method_39_code 0 0 1 := Or.inl ⟨0, by decide +kernel, rfl, rfl⟩
theorem dX12_condemned_1 : Diload prog_14_method_39_code 1 1 2 := Or.inl ⟨1, by decide +kernel, rfl, rfl⟩
theorem dX12_condemned_2 : D3 prog_14_method_39_code 2 (.invokevirtual 141) 5 := ⟨by decide +kernel, rfl⟩
theorem dX12_condemned_5 : Dj prog_14_method_39_code 5 (.ifCond .eq 12) 12 8 17 := ⟨by decide +kernel, rfl, by decide⟩
theorem dX12_condemned_8 : Daload prog_14_method_39_code 8 0 9 := Or.inl ⟨0, by decide +kernel, rfl, rfl⟩
theorem dX12_condemned_9 : D3 prog_14_method_39_code 9 (.getfield 61) 12 := ⟨by decide +kernel, rfl⟩
theorem dX12_condemned_12 : Diload prog_14_method_39_code 12 1 13 := Or.inl ⟨1, by decide +kernel, rfl, rfl⟩
theorem dX12_condemned_13 : D1 prog_14_method_39_code 13 (.iaload) 14 := ⟨by decide +kernel, rfl⟩
theorem dX12_condemned_14 : Dj prog_14_method_39_code 14 (.goto 4) 4 17 18 := ⟨by decide +kernel, rfl, by decide⟩
theorem dX12_condemned_17 : Dconst prog_14_method_39_code 17 0 18 := Or.inl ⟨0, by decide +kernel, rfl, rfl⟩
theorem dX12_condemned_18 : D1 prog_14_method_39_code 18 (.ireturn) 19 := ⟨by decide +kernel, rfl⟩
theorem dX12_survey_0 : Diload prog_14_method_40_code 0 1 1 := Or.inl ⟨1, by decide +kernel, rfl, rfl⟩
theorem dX12_survey_1 : D3 prog_14_method_40_code 1 (.invokestatic 119) 4 := ⟨by decide +kernel, rfl⟩
theorem dX12_survey_4 : Dj prog_14_method_40_code 4 (.ifCond .eq 43) 43 7 47 := ⟨by decide +kernel, rfl, by decide⟩
theorem dX12_survey_7 : Diload prog_14_method_40_code 7 2 8 := Or.inl ⟨2, by decide +kernel, rfl, rfl⟩
theorem dX12_survey_8 : D3 prog_14_method_40_code 8 (.invokestatic 123) 11 := ⟨by decide +kernel, rfl⟩
theorem dX12_survey_11 : Dj prog_14_method_40_code 11 (.ifCond .eq 36) 36 14 47 := ⟨by decide +kernel, rfl, by decide⟩
theorem dX12_survey_14 : Diload prog_14_method_40_code 14 3 15 := Or.inl ⟨3, by decide +kernel, rfl, rfl⟩
theorem dX12_survey_15 : Dconst prog_14_method_40_code 15 0 16 := Or.inl ⟨0, by decide +kernel, rfl, rfl⟩
theorem dX12_survey_16 : Daload prog_14_method_40_code 16 0 17 := Or.inl ⟨0, by decide +kernel, rfl, rfl⟩
theorem dX12_survey_17 : D3 prog_14_method_40_code 17 (.getfield 131) 20 := ⟨by decide +kernel, rfl⟩
theorem dX12_survey_20 : D3 prog_14_method_40_code 20 (.invokestatic 115) 23 := ⟨by decide +kernel, rfl⟩
theorem dX12_survey_23 : Dj prog_14_method_40_code 23 (.ifCond .eq 24) 24 26 47 := ⟨by decide +kernel, rfl, by decide⟩
theorem dX12_survey_26 : Diload prog_14_method_40_code 26 4 28 := Or.inr ⟨by decide +kernel, rfl⟩
theorem dX12_survey_28 : Dconst prog_14_method_40_code 28 0 29 := Or.inl ⟨0, by decide +kernel, rfl, rfl⟩
theorem dX12_survey_29 : D2 prog_14_method_40_code 29 (.ldc 130) 31 := ⟨by decide +kernel, rfl⟩
theorem dX12_survey_31 : D3 prog_14_method_40_code 31 (.invokestatic 115) 34 := ⟨by decide +kernel, rfl⟩
theorem dX12_survey_34 : Dj prog_14_method_40_code 34 (.ifCond .eq 13) 13 37 47 := ⟨by decide +kernel, rfl, by decide⟩
theorem dX12_survey_37 : Daload prog_14_method_40_code 37 0 38 := Or.inl ⟨0, by decide +kernel, rfl, rfl⟩
theorem dX12_survey_38 : D3 prog_14_method_40_code 38 (.getfield 206) 41 := ⟨by decide +kernel, rfl⟩
theorem dX12_survey_41 : Dconst prog_14_method_40_code 41 200 44 := Or.inr (Or.inr ⟨200, by decide +kernel, rfl, rfl⟩)
theorem dX12_survey_44 : Dj prog_14_method_40_code 44 (.if_icmp .ne 6) 6 47 50 := ⟨by decide +kernel, rfl, by decide⟩
theorem dX12_survey_47 : D2 prog_14_method_40_code 47 (.ldc 209) 49 := ⟨by decide +kernel, rfl⟩
theorem dX12_survey_49 : D1 prog_14_method_40_code 49 (.ireturn) 50 := ⟨by decide +kernel, rfl⟩
theorem dX12_survey_50 : Daload prog_14_method_40_code 50 0 51 := Or.inl ⟨0, by decide +kernel, rfl, rfl⟩
theorem dX12_survey_51 : D3 prog_14_method_40_code 51 (.getfield 106) 54 := ⟨by decide +kernel, rfl⟩
theorem dX12_survey_54 : Daload prog_14_method_40_code 54 0 55 := Or.inl ⟨0, by decide +kernel, rfl, rfl⟩
theorem dX12_survey_55 : D3 prog_14_method_40_code 55 (.getfield 206) 58 := ⟨by decide +kernel, rfl⟩
theorem dX12_survey_58 : Dconst prog_14_method_40_code 58 4 59 := Or.inl ⟨4, by decide +kernel, rfl, rfl⟩
theorem dX12_survey_59 : Diload prog_14_method_40_code 59 1 60 := Or.inl ⟨1, by decide +kernel, rfl, rfl⟩
theorem dX12_survey_60 : D1 prog_14_method_40_code 60 (.imul) 61 := ⟨by decide +kernel, rfl⟩
theorem dX12_survey_61 : Diload prog_14_method_40_code 61 2 62 := Or.inl ⟨2, by decide +kernel, rfl, rfl⟩
theorem dX12_survey_62 : D1 prog_14_method_40_code 62 (.iadd) 63 := ⟨by decide +kernel, rfl⟩
theorem dX12_survey_63 : D1 prog_14_method_40_code 63 (.iastore) 64 := ⟨by decide +kernel, rfl⟩
theorem dX12_survey_64 : Daload prog_14_method_40_code 64 0 65 := Or.inl ⟨0, by decide +kernel, rfl, rfl⟩
theorem dX12_survey_65 : D3 prog_14_method_40_code 65 (.getfield 109) 68 := ⟨by decide +kernel, rfl⟩
theorem dX12_survey_68 : Daload prog_14_method_40_code 68 0 69 := Or.inl ⟨0, by decide +kernel, rfl, rfl⟩
theorem dX12_survey_69 : D3 prog_14_method_40_code 69 (.getfield 206) 72 := ⟨by decide +kernel, rfl⟩
theorem dX12_survey_72 : Diload prog_14_method_40_code 72 3 73 := Or.inl ⟨3, by decide +kernel, rfl, rfl⟩
theorem dX12_survey_73 : D1 prog_14_method_40_code 73 (.iastore) 74 := ⟨by decide +kernel, rfl⟩
theorem dX12_survey_74 : Daload prog_14_method_40_code 74 0 75 := Or.inl ⟨0, by decide +kernel, rfl, rfl⟩
theorem dX12_survey_75 : D3 prog_14_method_40_code 75 (.getfield 112) 78 := ⟨by decide +kernel, rfl⟩
theorem dX12_survey_78 : Daload prog_14_method_40_code 78 0 79 := Or.inl ⟨0, by decide +kernel, rfl, rfl⟩
theorem dX12_survey_79 : D3 prog_14_method_40_code 79 (.getfield 206) 82 := ⟨by decide +kernel, rfl⟩
theorem dX12_survey_82 : Diload prog_14_method_40_code 82 4 84 := Or.inr ⟨by decide +kernel, rfl⟩
theorem dX12_survey_84 : Daload prog_14_method_40_code 84 0 85 := Or.inl ⟨0, by decide +kernel, rfl, rfl⟩
theorem dX12_survey_85 : D3 prog_14_method_40_code 85 (.getfield 73) 88 := ⟨by decide +kernel, rfl⟩
theorem dX12_survey_88 : Dconst prog_14_method_40_code 88 32 90 := Or.inr (Or.inl ⟨32, by decide +kernel, rfl, rfl⟩)
theorem dX12_survey_90 : Diload prog_14_method_40_code 90 3 91 := Or.inl ⟨3, by decide +kernel, rfl, rfl⟩
theorem dX12_survey_91 : D1 prog_14_method_40_code 91 (.imul) 92 := ⟨by decide +kernel, rfl⟩
theorem dX12_survey_92 : Dconst prog_14_method_40_code 92 4 93 := Or.inl ⟨4, by decide +kernel, rfl, rfl⟩
theorem dX12_survey_93 : Diload prog_14_method_40_code 93 1 94 := Or.inl ⟨1, by decide +kernel, rfl, rfl⟩
theorem dX12_survey_94 : D1 prog_14_method_40_code 94 (.imul) 95 := ⟨by decide +kernel, rfl⟩
theorem dX12_survey_95 : D1 prog_14_method_40_code 95 (.iadd) 96 := ⟨by decide +kernel, rfl⟩
theorem dX12_survey_96 : Diload prog_14_method_40_code 96 2 97 := Or.inl ⟨2, by decide +kernel, rfl, rfl⟩
theorem dX12_survey_97 : D1 prog_14_method_40_code 97 (.iadd) 98 := ⟨by decide +kernel, rfl⟩
theorem dX12_survey_98 : D1 prog_14_method_40_code 98 (.iaload) 99 := ⟨by decide +kernel, rfl⟩
theorem dX12_survey_99 : D1 prog_14_method_40_code 99 (.isub) 100 := ⟨by decide +kernel, rfl⟩
theorem dX12_survey_100 : D1 prog_14_method_40_code 100 (.iastore) 101 := ⟨by decide +kernel, rfl⟩
theorem dX12_survey_101 : Daload prog_14_method_40_code 101 0 102 := Or.inl ⟨0, by decide +kernel, rfl, rfl⟩
theorem dX12_survey_102 : D1 prog_14_method_40_code 102 (.dup) 103 := ⟨by decide +kernel, rfl⟩
theorem dX12_survey_103 : D3 prog_14_method_40_code 103 (.getfield 206) 106 := ⟨by decide +kernel, rfl⟩
theorem dX12_survey_106 : Dconst prog_14_method_40_code 106 1 107 := Or.inl ⟨1, by decide +kernel, rfl, rfl⟩
theorem dX12_survey_107 : D1 prog_14_method_40_code 107 (.iadd) 108 := ⟨by decide +kernel, rfl⟩
theorem dX12_survey_108 : D3 prog_14_method_40_code 108 (.putfield 206) 111 := ⟨by decide +kernel, rfl⟩
theorem dX12_survey_111 : Daload prog_14_method_40_code 111 0 112 := Or.inl ⟨0, by decide +kernel, rfl, rfl⟩
theorem dX12_survey_112 : D3 prog_14_method_40_code 112 (.getfield 112) 115 := ⟨by decide +kernel, rfl⟩
theorem dX12_survey_115 : Daload prog_14_method_40_code 115 0 116 := Or.inl ⟨0, by decide +kernel, rfl, rfl⟩
theorem dX12_survey_116 : D3 prog_14_method_40_code 116 (.getfield 206) 119 := ⟨by decide +kernel, rfl⟩
theorem dX12_survey_119 : Dconst prog_14_method_40_code 119 1 120 := Or.inl ⟨1, by decide +kernel, rfl, rfl⟩
theorem dX12_survey_120 : D1 prog_14_method_40_code 120 (.isub) 121 := ⟨by decide +kernel, rfl⟩
theorem dX12_survey_121 : D1 prog_14_method_40_code 121 (.iaload) 122 := ⟨by decide +kernel, rfl⟩
theorem dX12_survey_122 : D1 prog_14_method_40_code 122 (.ireturn) 123 := ⟨by decide +kernel, rfl⟩
theorem dX12_balance_0 : Diload prog_14_method_41_code 0 1 1 := Or.inl ⟨1, by decide +kernel, rfl, rfl⟩
theorem dX12_balance_1 : D3 prog_14_method_41_code 1 (.invokestatic 119) 4 := ⟨by decide +kernel, rfl⟩
theorem dX12_balance_4 : Dj prog_14_method_41_code 4 (.ifCond .eq 10) 10 7 14 := ⟨by decide +kernel, rfl, by decide⟩
theorem dX12_balance_7 : Diload prog_14_method_41_code 7 2 8 := Or.inl ⟨2, by decide +kernel, rfl, rfl⟩
theorem dX12_balance_8 : D3 prog_14_method_41_code 8 (.invokestatic 123) 11 := ⟨by decide +kernel, rfl⟩
theorem dX12_balance_11 : Dj prog_14_method_41_code 11 (.ifCond .ne 6) 6 14 17 := ⟨by decide +kernel, rfl, by decide⟩
theorem dX12_balance_14 : D2 prog_14_method_41_code 14 (.ldc 209) 16 := ⟨by decide +kernel, rfl⟩
theorem dX12_balance_16 : D1 prog_14_method_41_code 16 (.ireturn) 17 := ⟨by decide +kernel, rfl⟩
theorem dX12_balance_17 : Dconst prog_14_method_41_code 17 4 18 := Or.inl ⟨4, by decide +kernel, rfl, rfl⟩
theorem dX12_balance_18 : Diload prog_14_method_41_code 18 1 19 := Or.inl ⟨1, by decide +kernel, rfl, rfl⟩
theorem dX12_balance_19 : D1 prog_14_method_41_code 19 (.imul) 20 := ⟨by decide +kernel, rfl⟩
theorem dX12_balance_20 : Diload prog_14_method_41_code 20 2 21 := Or.inl ⟨2, by decide +kernel, rfl, rfl⟩
theorem dX12_balance_21 : D1 prog_14_method_41_code 21 (.iadd) 22 := ⟨by decide +kernel, rfl⟩
theorem dX12_balance_22 : Distore prog_14_method_41_code 22 3 23 := Or.inl ⟨3, by decide +kernel, rfl, rfl⟩
theorem dX12_balance_23 : Dconst prog_14_method_41_code 23 0 24 := Or.inl ⟨0, by decide +kernel, rfl, rfl⟩
theorem dX12_balance_24 : Distore prog_14_method_41_code 24 4 26 := Or.inr ⟨by decide +kernel, rfl⟩
theorem dX12_balance_26 : Dconst prog_14_method_41_code 26 0 27 := Or.inl ⟨0, by decide +kernel, rfl, rfl⟩
theorem dX12_balance_27 : Distore prog_14_method_41_code 27 5 29 := Or.inr ⟨by decide +kernel, rfl⟩
theorem dX12_balance_29 : Diload prog_14_method_41_code 29 5 31 := Or.inr ⟨by decide +kernel, rfl⟩
theorem dX12_balance_31 : Daload prog_14_method_41_code 31 0 32 := Or.inl ⟨0, by decide +kernel, rfl, rfl⟩
theorem dX12_balance_32 : D3 prog_14_method_41_code 32 (.getfield 206) 35 := ⟨by decide +kernel, rfl⟩
theorem dX12_balance_35 : Dj prog_14_method_41_code 35 (.if_icmp .ge 109) 109 38 144 := ⟨by decide +kernel, rfl, by decide⟩
theorem dX12_balance_38 : Daload prog_14_method_41_code 38 0 39 := Or.inl ⟨0, by decide +kernel, rfl, rfl⟩
theorem dX12_balance_39 : D3 prog_14_method_41_code 39 (.getfield 106) 42 := ⟨by decide +kernel, rfl⟩
theorem dX12_balance_42 : Diload prog_14_method_41_code 42 5 44 := Or.inr ⟨by decide +kernel, rfl⟩
theorem dX12_balance_44 : D1 prog_14_method_41_code 44 (.iaload) 45 := ⟨by decide +kernel, rfl⟩
theorem dX12_balance_45 : Diload prog_14_method_41_code 45 3 46 := Or.inl ⟨3, by decide +kernel, rfl, rfl⟩
theorem dX12_balance_46 : Dj prog_14_method_41_code 46 (.if_icmp .ne 7) 7 49 53 := ⟨by decide +kernel, rfl, by decide⟩
theorem dX12_balance_49 : Dconst prog_14_method_41_code 49 1 50 := Or.inl ⟨1, by decide +kernel, rfl, rfl⟩
theorem dX12_balance_50 : Dj prog_14_method_41_code 50 (.goto 4) 4 53 54 := ⟨by decide +kernel, rfl, by decide⟩
theorem dX12_balance_53 : Dconst prog_14_method_41_code 53 0 54 := Or.inl ⟨0, by decide +kernel, rfl, rfl⟩
theorem dX12_balance_54 : Distore prog_14_method_41_code 54 6 56 := Or.inr ⟨by decide +kernel, rfl⟩
theorem dX12_balance_56 : Diload prog_14_method_41_code 56 5 58 := Or.inr ⟨by decide +kernel, rfl⟩
theorem dX12_balance_58 : Dconst prog_14_method_41_code 58 1 59 := Or.inl ⟨1, by decide +kernel, rfl, rfl⟩
theorem dX12_balance_59 : D1 prog_14_method_41_code 59 (.iadd) 60 := ⟨by decide +kernel, rfl⟩
theorem dX12_balance_60 : Distore prog_14_method_41_code 60 7 62 := Or.inr ⟨by decide +kernel, rfl⟩
theorem dX12_balance_62 : Diload prog_14_method_41_code 62 7 64 := Or.inr ⟨by decide +kernel, rfl⟩
theorem dX12_balance_64 : Daload prog_14_method_41_code 64 0 65 := Or.inl ⟨0, by decide +kernel, rfl, rfl⟩
theorem dX12_balance_65 : D3 prog_14_method_41_code 65 (.getfield 206) 68 := ⟨by decide +kernel, rfl⟩
theorem dX12_balance_68 : Dj prog_14_method_41_code 68 (.if_icmp .ge 49) 49 71 117 := ⟨by decide +kernel, rfl, by decide⟩
theorem dX12_balance_71 : Diload prog_14_method_41_code 71 6 73 := Or.inr ⟨by decide +kernel, rfl⟩
theorem dX12_balance_73 : Dj prog_14_method_41_code 73 (.ifCond .eq 35) 35 76 108 := ⟨by decide +kernel, rfl, by decide⟩
theorem dX12_balance_76 : Daload prog_14_method_41_code 76 0 77 := Or.inl ⟨0, by decide +kernel, rfl, rfl⟩
theorem dX12_balance_77 : D3 prog_14_method_41_code 77 (.getfield 106) 80 := ⟨by decide +kernel, rfl⟩
theorem dX12_balance_80 : Diload prog_14_method_41_code 80 7 82 := Or.inr ⟨by decide +kernel, rfl⟩
theorem dX12_balance_82 : D1 prog_14_method_41_code 82 (.iaload) 83 := ⟨by decide +kernel, rfl⟩
theorem dX12_balance_83 : Diload prog_14_method_41_code 83 3 84 := Or.inl ⟨3, by decide +kernel, rfl, rfl⟩
theorem dX12_balance_84 : Dj prog_14_method_41_code 84 (.if_icmp .ne 20) 20 87 104 := ⟨by decide +kernel, rfl, by decide⟩
theorem dX12_balance_87 : Daload prog_14_method_41_code 87 0 88 := Or.inl ⟨0, by decide +kernel, rfl, rfl⟩
theorem dX12_balance_88 : D3 prog_14_method_41_code 88 (.getfield 109) 91 := ⟨by decide +kernel, rfl⟩
theorem dX12_balance_91 : Diload prog_14_method_41_code 91 7 93 := Or.inr ⟨by decide +kernel, rfl⟩
theorem dX12_balance_93 : D1 prog_14_method_41_code 93 (.iaload) 94 := ⟨by decide +kernel, rfl⟩
theorem dX12_balance_94 : Daload prog_14_method_41_code 94 0 95 := Or.inl ⟨0, by decide +kernel, rfl, rfl⟩
theorem dX12_balance_95 : D3 prog_14_method_41_code 95 (.getfield 109) 98 := ⟨by decide +kernel, rfl⟩
theorem dX12_balance_98 : Diload prog_14_method_41_code 98 5 100 := Or.inr ⟨by decide +kernel, rfl⟩
theorem dX12_balance_100 : D1 prog_14_method_41_code 100 (.iaload) 101 := ⟨by decide +kernel, rfl⟩
theorem dX12_balance_101 : Dj prog_14_method_41_code 101 (.if_icmp .eq 7) 7 104 108 := ⟨by decide +kernel, rfl, by decide⟩
theorem dX12_balance_104 : Dconst prog_14_method_41_code 104 1 105 := Or.inl ⟨1, by decide +kernel, rfl, rfl⟩
theorem dX12_balance_105 : Dj prog_14_method_41_code 105 (.goto 4) 4 108 109 := ⟨by decide +kernel, rfl, by decide⟩
theorem dX12_balance_108 : Dconst prog_14_method_41_code 108 0 109 := Or.inl ⟨0, by decide +kernel, rfl, rfl⟩
theorem dX12_balance_109 : Distore prog_14_method_41_code 109 6 111 := Or.inr ⟨by decide +kernel, rfl⟩
theorem dX12_balance_111 : Diinc prog_14_method_41_code 111 7 1 114 := ⟨1, by decide +kernel, rfl, rfl⟩
theorem dX12_balance_114 : Dj prog_14_method_41_code 114 (.goto (-52)) (-52) 117 62 := ⟨by decide +kernel, rfl, by decide⟩
theorem dX12_balance_117 : Diload prog_14_method_41_code 117 4 119 := Or.inr ⟨by decide +kernel, rfl⟩
theorem dX12_balance_119 : Diload prog_14_method_41_code 119 6 121 := Or.inr ⟨by decide +kernel, rfl⟩
theorem dX12_balance_121 : Dj prog_14_method_41_code 121 (.ifCond .eq 13) 13 124 134 := ⟨by decide +kernel, rfl, by decide⟩
theorem dX12_balance_124 : Daload prog_14_method_41_code 124 0 125 := Or.inl ⟨0, by decide +kernel, rfl, rfl⟩
theorem dX12_balance_125 : D3 prog_14_method_41_code 125 (.getfield 112) 128 := ⟨by decide +kernel, rfl⟩
theorem dX12_balance_128 : Diload prog_14_method_41_code 128 5 130 := Or.inr ⟨by decide +kernel, rfl⟩
theorem dX12_balance_130 : D1 prog_14_method_41_code 130 (.iaload) 131 := ⟨by decide +kernel, rfl⟩
theorem dX12_balance_131 : Dj prog_14_method_41_code 131 (.goto 4) 4 134 135 := ⟨by decide +kernel, rfl, by decide⟩
theorem dX12_balance_134 : Dconst prog_14_method_41_code 134 0 135 := Or.inl ⟨0, by decide +kernel, rfl, rfl⟩
theorem dX12_balance_135 : D1 prog_14_method_41_code 135 (.iadd) 136 := ⟨by decide +kernel, rfl⟩
theorem dX12_balance_136 : Distore prog_14_method_41_code 136 4 138 := Or.inr ⟨by decide +kernel, rfl⟩
theorem dX12_balance_138 : Diinc prog_14_method_41_code 138 5 1 141 := ⟨1, by decide +kernel, rfl, rfl⟩
theorem dX12_balance_141 : Dj prog_14_method_41_code 141 (.goto (-112)) (-112) 144 29 := ⟨by decide +kernel, rfl, by decide⟩
theorem dX12_balance_144 : Diload prog_14_method_41_code 144 4 146 := Or.inr ⟨by decide +kernel, rfl⟩
theorem dX12_balance_146 : Dj prog_14_method_41_code 146 (.ifCond .ge 22) 22 149 168 := ⟨by decide +kernel, rfl, by decide⟩
theorem dX12_balance_149 : Dconst prog_14_method_41_code 149 0 150 := Or.inl ⟨0, by decide +kernel, rfl, rfl⟩
theorem dX12_balance_150 : Diload prog_14_method_41_code 150 4 152 := Or.inr ⟨by decide +kernel, rfl⟩
theorem dX12_balance_152 : Daload prog_14_method_41_code 152 0 153 := Or.inl ⟨0, by decide +kernel, rfl, rfl⟩
theorem dX12_balance_153 : D3 prog_14_method_41_code 153 (.getfield 70) 156 := ⟨by decide +kernel, rfl⟩
theorem dX12_balance_156 : Diload prog_14_method_41_code 156 3 157 := Or.inl ⟨3, by decide +kernel, rfl, rfl⟩
theorem dX12_balance_157 : D1 prog_14_method_41_code 157 (.iaload) 158 := ⟨by decide +kernel, rfl⟩
theorem dX12_balance_158 : Dconst prog_14_method_41_code 158 8 160 := Or.inr (Or.inl ⟨8, by decide +kernel, rfl, rfl⟩)
theorem dX12_balance_160 : D1 prog_14_method_41_code 160 (.idiv) 161 := ⟨by decide +kernel, rfl⟩
theorem dX12_balance_161 : D1 prog_14_method_41_code 161 (.iadd) 162 := ⟨by decide +kernel, rfl⟩
theorem dX12_balance_162 : D3 prog_14_method_41_code 162 (.invokestatic 144) 165 := ⟨by decide +kernel, rfl⟩
theorem dX12_balance_165 : Dj prog_14_method_41_code 165 (.goto 5) 5 168 170 := ⟨by decide +kernel, rfl, by decide⟩
theorem dX12_balance_168 : Diload prog_14_method_41_code 168 4 170 := Or.inr ⟨by decide +kernel, rfl⟩
theorem dX12_balance_170 : D1 prog_14_method_41_code 170 (.ireturn) 171 := ⟨by decide +kernel, rfl⟩
theorem dX12_count_0 : Dconst prog_14_method_42_code 0 0 1 := Or.inl ⟨0, by decide +kernel, rfl, rfl⟩
theorem dX12_count_1 : Distore prog_14_method_42_code 1 2 2 := Or.inl ⟨2, by decide +kernel, rfl, rfl⟩
theorem dX12_count_2 : Dconst prog_14_method_42_code 2 0 3 := Or.inl ⟨0, by decide +kernel, rfl, rfl⟩
theorem dX12_count_3 : Distore prog_14_method_42_code 3 3 4 := Or.inl ⟨3, by decide +kernel, rfl, rfl⟩
theorem dX12_count_4 : Dconst prog_14_method_42_code 4 0 5 := Or.inl ⟨0, by decide +kernel, rfl, rfl⟩
theorem dX12_count_5 : Distore prog_14_method_42_code 5 4 7 := Or.inr ⟨by decide +kernel, rfl⟩
theorem dX12_count_7 : Diload prog_14_method_42_code 7 4 9 := Or.inr ⟨by decide +kernel, rfl⟩
theorem dX12_count_9 : Daload prog_14_method_42_code 9 0 10 := Or.inl ⟨0, by decide +kernel, rfl, rfl⟩
theorem dX12_count_10 : D3 prog_14_method_42_code 10 (.getfield 126) 13 := ⟨by decide +kernel, rfl⟩
theorem dX12_count_13 : Dj prog_14_method_42_code 13 (.if_icmp .ge 29) 29 16 42 := ⟨by decide +kernel, rfl, by decide⟩
theorem dX12_count_16 : Diload prog_14_method_42_code 16 2 17 := Or.inl ⟨2, by decide +kernel, rfl, rfl⟩
theorem dX12_count_17 : Daload prog_14_method_42_code 17 0 18 := Or.inl ⟨0, by decide +kernel, rfl, rfl⟩
theorem dX12_count_18 : D3 prog_14_method_42_code 18 (.getfield 34) 21 := ⟨by decide +kernel, rfl⟩
theorem dX12_count_21 : Diload prog_14_method_42_code 21 4 23 := Or.inr ⟨by decide +kernel, rfl⟩
theorem dX12_count_23 : D1 prog_14_method_42_code 23 (.iaload) 24 := ⟨by decide +kernel, rfl⟩
theorem dX12_count_24 : D1 prog_14_method_42_code 24 (.iadd) 25 := ⟨by decide +kernel, rfl⟩
theorem dX12_count_25 : Distore prog_14_method_42_code 25 2 26 := Or.inl ⟨2, by decide +kernel, rfl, rfl⟩
theorem dX12_count_26 : Diload prog_14_method_42_code 26 3 27 := Or.inl ⟨3, by decide +kernel, rfl, rfl⟩
theorem dX12_count_27 : Daload prog_14_method_42_code 27 0 28 := Or.inl ⟨0, by decide +kernel, rfl, rfl⟩
theorem dX12_count_28 : D3 prog_14_method_42_code 28 (.getfield 61) 31 := ⟨by decide +kernel, rfl⟩
theorem dX12_count_31 : Diload prog_14_method_42_code 31 4 33 := Or.inr ⟨by decide +kernel, rfl⟩
theorem dX12_count_33 : D1 prog_14_method_42_code 33 (.iaload) 34 := ⟨by decide +kernel, rfl⟩
theorem dX12_count_34 : D1 prog_14_method_42_code 34 (.iadd) 35 := ⟨by decide +kernel, rfl⟩
theorem dX12_count_35 : Distore prog_14_method_42_code 35 3 36 := Or.inl ⟨3, by decide +kernel, rfl, rfl⟩
theorem dX12_count_36 : Diinc prog_14_method_42_code 36 4 1 39 := ⟨1, by decide +kernel, rfl, rfl⟩
theorem dX12_count_39 : Dj prog_14_method_42_code 39 (.goto (-32)) (-32) 42 7 := ⟨by decide +kernel, rfl, by decide⟩
theorem dX12_count_42 : Diload prog_14_method_42_code 42 1 43 := Or.inl ⟨1, by decide +kernel, rfl, rfl⟩
theorem dX12_count_43 : decode prog_14_method_42_code 43 = .ok (.tableswitch 79 0 7 #[45, 50, 55, 60, 62, 64, 69, 74], 45) := by decide +kernel
theorem dX12_count_88 : Daload prog_14_method_42_code 88 0 89 := Or.inl ⟨0, by decide +kernel, rfl, rfl⟩
theorem dX12_count_89 : D3 prog_14_method_42_code 89 (.getfield 131) 92 := ⟨by decide +kernel, rfl⟩
theorem dX12_count_92 : D1 prog_14_method_42_code 92 (.ireturn) 93 := ⟨by decide +kernel, rfl⟩
theorem dX12_count_93 : Daload prog_14_method_42_code 93 0 94 := Or.inl ⟨0, by decide +kernel, rfl, rfl⟩
theorem dX12_count_94 : D3 prog_14_method_42_code 94 (.getfield 126) 97 := ⟨by decide +kernel, rfl⟩
theorem dX12_count_97 : D1 prog_14_method_42_code 97 (.ireturn) 98 := ⟨by decide +kernel, rfl⟩
theorem dX12_count_98 : Daload prog_14_method_42_code 98 0 99 := Or.inl ⟨0, by decide +kernel, rfl, rfl⟩
theorem dX12_count_99 : D3 prog_14_method_42_code 99 (.getfield 138) 102 := ⟨by decide +kernel, rfl⟩
theorem dX12_count_102 : D1 prog_14_method_42_code 102 (.ireturn) 103 := ⟨by decide +kernel, rfl⟩
theorem dX12_count_103 : Diload prog_14_method_42_code 103 2 104 := Or.inl ⟨2, by decide +kernel, rfl, rfl⟩
theorem dX12_count_104 : D1 prog_14_method_42_code 104 (.ireturn) 105 := ⟨by decide +kernel, rfl⟩
theorem dX12_count_105 : Diload prog_14_method_42_code 105 3 106 := Or.inl ⟨3, by decide +kernel, rfl, rfl⟩
theorem dX12_count_106 : D1 prog_14_method_42_code 106 (.ireturn) 107 := ⟨by decide +kernel, rfl⟩
theorem dX12_count_107 : Daload prog_14_method_42_code 107 0 108 := Or.inl ⟨0, by decide +kernel, rfl, rfl⟩
theorem dX12_count_108 : D3 prog_14_method_42_code 108 (.getfield 165) 111 := ⟨by decide +kernel, rfl⟩
theorem dX12_count_111 : D1 prog_14_method_42_code 111 (.ireturn) 112 := ⟨by decide +kernel, rfl⟩
theorem dX12_count_112 : Daload prog_14_method_42_code 112 0 113 := Or.inl ⟨0, by decide +kernel, rfl, rfl⟩
theorem dX12_count_113 : D3 prog_14_method_42_code 113 (.getfield 206) 116 := ⟨by decide +kernel, rfl⟩
theorem dX12_count_116 : D1 prog_14_method_42_code 116 (.ireturn) 117 := ⟨by decide +kernel, rfl⟩
theorem dX12_count_117 : Daload prog_14_method_42_code 117 0 118 := Or.inl ⟨0, by decide +kernel, rfl, rfl⟩
theorem dX12_count_118 : D3 prog_14_method_42_code 118 (.getfield 176) 121 := ⟨by decide +kernel, rfl⟩
theorem dX12_count_121 : D1 prog_14_method_42_code 121 (.ireturn) 122 := ⟨by decide +kernel, rfl⟩
theorem dX12_count_122 : Dconst prog_14_method_42_code 122 (-1) 123 := Or.inl ⟨(-1), by decide +kernel, rfl, rfl⟩
theorem dX12_count_123 : D1 prog_14_method_42_code 123 (.ireturn) 124 := ⟨by decide +kernel, rfl⟩
end
section
-- METHOD, LINKS, DECODE FACTS of the law
theorem wi_L : Cond.initialized "FleetStoresLaw" ∈ gtb := in_tb 0 (by decide +kernel) (by decide +kernel)
abbrev mL_law : Meth := (⟨"FleetStoresLaw", "law", "([I)Z"⟩, code, 4, (some FieldType.boolean))
theorem lk_L_9 : Cond.methodLink "FleetStoresLaw" 9 mX11_init.1 ∈ gtb := in_tb 17 (by decide +kernel) (by decide +kernel)
theorem lk_L_13 : Cond.methodLink "FleetStoresLaw" 13 mX11_men.1 ∈ gtb := in_tb 262 (by decide +kernel) (by decide +kernel)
theorem lk_L_18 : Cond.methodLink "FleetStoresLaw" 18 mX11_rations.1 ∈ gtb := in_tb 273 (by decide +kernel) (by decide +kernel)
theorem lk_L_22 : Cond.methodLink "FleetStoresLaw" 22 mX11_spoils.1 ∈ gtb := in_tb 281 (by decide +kernel) (by decide +kernel)
theorem lk_L_27 : Cond.methodLink "FleetStoresLaw" 27 mX11_way.1 ∈ gtb := in_tb 285 (by decide +kernel) (by decide +kernel)
theorem lk_L_31 : Cond.methodLink "FleetStoresLaw" 31 mX11_lag.1 ∈ gtb := in_tb 289 (by decide +kernel) (by decide +kernel)
theorem lk_L_35 : Cond.methodLink "FleetStoresLaw" 35 mX11_buy.1 ∈ gtb := in_tb 293 (by decide +kernel) (by decide +kernel)
theorem lk_L_40 : Cond.methodLink "FleetStoresLaw" 40 mX11_send.1 ∈ gtb := in_tb 379 (by decide +kernel) (by decide +kernel)
theorem lk_L_45 : Cond.methodLink "FleetStoresLaw" 45 mX11_week.1 ∈ gtb := in_tb 392 (by decide +kernel) (by decide +kernel)
theorem lk_L_50 : Cond.methodLink "FleetStoresLaw" 50 mX11_lot.1 ∈ gtb := in_tb 440 (by decide +kernel) (by decide +kernel)
theorem lk_L_55 : Cond.methodLink "FleetStoresLaw" 55 mX11_stock.1 ∈ gtb := in_tb 448 (by decide +kernel) (by decide +kernel)
theorem lk_L_59 : Cond.methodLink "FleetStoresLaw" 59 mX11_open.1 ∈ gtb := in_tb 457 (by decide +kernel) (by decide +kernel)
theorem lk_L_63 : Cond.methodLink "FleetStoresLaw" 63 mX11_lacks.1 ∈ gtb := in_tb 461 (by decide +kernel) (by decide +kernel)
theorem lk_L_67 : Cond.methodLink "FleetStoresLaw" 67 mX11_known.1 ∈ gtb := in_tb 465 (by decide +kernel) (by decide +kernel)
theorem lk_L_71 : Cond.methodLink "FleetStoresLaw" 71 mX11_lasts.1 ∈ gtb := in_tb 473 (by decide +kernel) (by decide +kernel)
theorem lk_L_76 : Cond.methodLink "FleetStoresLaw" 76 mX11_feed.1 ∈ gtb := in_tb 492 (by decide +kernel) (by decide +kernel)
theorem lk_L_81 : Cond.methodLink "FleetStoresLaw" 81 mX11_end.1 ∈ gtb := in_tb 507 (by decide +kernel) (by decide +kernel)
theorem lk_L_86 : Cond.methodLink "FleetStoresLaw" 86 mX11_fault.1 ∈ gtb := in_tb 511 (by decide +kernel) (by decide +kernel)
theorem lk_L_90 : Cond.methodLink "FleetStoresLaw" 90 mX11_contract.1 ∈ gtb := in_tb 549 (by decide +kernel) (by decide +kernel)
theorem lk_L_96 : Cond.methodLink "FleetStoresLaw" 96 mX11_draw.1 ∈ gtb := in_tb 553 (by decide +kernel) (by decide +kernel)
theorem lk_L_101 : Cond.methodLink "FleetStoresLaw" 101 mX11_due.1 ∈ gtb := in_tb 582 (by decide +kernel) (by decide +kernel)
theorem lk_L_105 : Cond.methodLink "FleetStoresLaw" 105 mX11_owed.1 ∈ gtb := in_tb 586 (by decide +kernel) (by decide +kernel)
theorem lk_L_109 : Cond.methodLink "FleetStoresLaw" 109 mX11_condemned.1 ∈ gtb := in_tb 590 (by decide +kernel) (by decide +kernel)
theorem lk_L_113 : Cond.methodLink "FleetStoresLaw" 113 mX11_survey.1 ∈ gtb := in_tb 594 (by decide +kernel) (by decide +kernel)
theorem lk_L_118 : Cond.methodLink "FleetStoresLaw" 118 mX11_balance.1 ∈ gtb := in_tb 622 (by decide +kernel) (by decide +kernel)
theorem lk_L_122 : Cond.methodLink "FleetStoresLaw" 122 mX11_began.1 ∈ gtb := in_tb 631 (by decide +kernel) (by decide +kernel)
theorem lk_L_126 : Cond.methodLink "FleetStoresLaw" 126 mX11_count.1 ∈ gtb := in_tb 635 (by decide +kernel) (by decide +kernel)
theorem lk_L_12 : Cond.methodLink "FleetStoresLaw" 12 mX12_init.1 ∈ gtb := in_tb 645 (by decide +kernel) (by decide +kernel)
theorem lk_L_17 : Cond.methodLink "FleetStoresLaw" 17 mX12_men.1 ∈ gtb := in_tb 779 (by decide +kernel) (by decide +kernel)
theorem lk_L_21 : Cond.methodLink "FleetStoresLaw" 21 mX12_rations.1 ∈ gtb := in_tb 789 (by decide +kernel) (by decide +kernel)
theorem lk_L_26 : Cond.methodLink "FleetStoresLaw" 26 mX12_spoils.1 ∈ gtb := in_tb 796 (by decide +kernel) (by decide +kernel)
theorem lk_L_30 : Cond.methodLink "FleetStoresLaw" 30 mX12_way.1 ∈ gtb := in_tb 800 (by decide +kernel) (by decide +kernel)
theorem lk_L_34 : Cond.methodLink "FleetStoresLaw" 34 mX12_lag.1 ∈ gtb := in_tb 804 (by decide +kernel) (by decide +kernel)
theorem lk_L_39 : Cond.methodLink "FleetStoresLaw" 39 mX12_buy.1 ∈ gtb := in_tb 808 (by decide +kernel) (by decide +kernel)
theorem lk_L_44 : Cond.methodLink "FleetStoresLaw" 44 mX12_send.1 ∈ gtb := in_tb 817 (by decide +kernel) (by decide +kernel)
theorem lk_L_49 : Cond.methodLink "FleetStoresLaw" 49 mX12_week.1 ∈ gtb := in_tb 825 (by decide +kernel) (by decide +kernel)
theorem lk_L_75 : Cond.methodLink "FleetStoresLaw" 75 mX12_lasts.1 ∈ gtb := in_tb 846 (by decide +kernel) (by decide +kernel)
theorem lk_L_54 : Cond.methodLink "FleetStoresLaw" 54 mX12_lot.1 ∈ gtb := in_tb 854 (by decide +kernel) (by decide +kernel)
theorem lk_L_58 : Cond.methodLink "FleetStoresLaw" 58 mX12_stock.1 ∈ gtb := in_tb 858 (by decide +kernel) (by decide +kernel)
theorem lk_L_62 : Cond.methodLink "FleetStoresLaw" 62 mX12_open.1 ∈ gtb := in_tb 862 (by decide +kernel) (by decide +kernel)
theorem lk_L_66 : Cond.methodLink "FleetStoresLaw" 66 mX12_lacks.1 ∈ gtb := in_tb 866 (by decide +kernel) (by decide +kernel)
theorem lk_L_125 : Cond.methodLink "FleetStoresLaw" 125 mX12_began.1 ∈ gtb := in_tb 870 (by decide +kernel) (by decide +kernel)
theorem lk_L_70 : Cond.methodLink "FleetStoresLaw" 70 mX12_known.1 ∈ gtb := in_tb 874 (by decide +kernel) (by decide +kernel)
theorem lk_L_80 : Cond.methodLink "FleetStoresLaw" 80 mX12_feed.1 ∈ gtb := in_tb 878 (by decide +kernel) (by decide +kernel)
theorem lk_L_85 : Cond.methodLink "FleetStoresLaw" 85 mX12_end.1 ∈ gtb := in_tb 885 (by decide +kernel) (by decide +kernel)
theorem lk_L_89 : Cond.methodLink "FleetStoresLaw" 89 mX12_fault.1 ∈ gtb := in_tb 889 (by decide +kernel) (by decide +kernel)
theorem lk_L_93 : Cond.methodLink "FleetStoresLaw" 93 mX12_contract.1 ∈ gtb := in_tb 908 (by decide +kernel) (by decide +kernel)
theorem lk_L_100 : Cond.methodLink "FleetStoresLaw" 100 mX12_draw.1 ∈ gtb := in_tb 913 (by decide +kernel) (by decide +kernel)
theorem lk_L_104 : Cond.methodLink "FleetStoresLaw" 104 mX12_due.1 ∈ gtb := in_tb 919 (by decide +kernel) (by decide +kernel)
theorem lk_L_108 : Cond.methodLink "FleetStoresLaw" 108 mX12_owed.1 ∈ gtb := in_tb 923 (by decide +kernel) (by decide +kernel)
theorem lk_L_112 : Cond.methodLink "FleetStoresLaw" 112 mX12_condemned.1 ∈ gtb := in_tb 927 (by decide +kernel) (by decide +kernel)
theorem lk_L_117 : Cond.methodLink "FleetStoresLaw" 117 mX12_survey.1 ∈ gtb := in_tb 931 (by decide +kernel) (by decide +kernel)
theorem lk_L_121 : Cond.methodLink "FleetStoresLaw" 121 mX12_balance.1 ∈ gtb := in_tb 936 (by decide +kernel) (by decide +kernel)
theorem lk_L_129 : Cond.methodLink "FleetStoresLaw" 129 mX12_count.1 ∈ gtb := in_tb 940 (by decide +kernel) (by decide +kernel)
theorem ck_L_7 : Cond.classLink "FleetStoresLaw" 7 "FleetStores" ∈ gtb := in_tb 15 (by decide +kernel) (by decide +kernel)
theorem ck_L_10 : Cond.classLink "FleetStoresLaw" 10 "FleetStoresModel" ∈ gtb := in_tb 643 (by decide +kernel) (by decide +kernel)
theorem kk_L_94 : Cond.constantLong "FleetStoresLaw" 94 4294967295 ∈ gtb := in_tb 944 (by decide +kernel) (by decide +kernel)
theorem dL_law_0 : D3 code 0 (.new 7) 3 := ⟨by decide +kernel, rfl⟩
theorem dL_law_3 : D1 code 3 (.dup) 4 := ⟨by decide +kernel, rfl⟩
theorem dL_law_4 : D3 code 4 (.invokespecial 9) 7 := ⟨by decide +kernel, rfl⟩
theorem dL_law_7 : Dastore code 7 1 8 := Or.inl ⟨1, by decide +kernel, rfl, rfl⟩
theorem dL_law_8 : D3 code 8 (.new 10) 11 := ⟨by decide +kernel, rfl⟩
theorem dL_law_11 : D1 code 11 (.dup) 12 := ⟨by decide +kernel, rfl⟩
theorem dL_law_12 : D3 code 12 (.invokespecial 12) 15 := ⟨by decide +kernel, rfl⟩
theorem dL_law_15 : Dastore code 15 2 16 := Or.inl ⟨2, by decide +kernel, rfl, rfl⟩
theorem dL_law_16 : Dconst code 16 0 17 := Or.inl ⟨0, by decide +kernel, rfl, rfl⟩
theorem dL_law_17 : Distore code 17 3 18 := Or.inl ⟨3, by decide +kernel, rfl, rfl⟩
theorem dL_law_18 : Diload code 18 3 19 := Or.inl ⟨3, by decide +kernel, rfl, rfl⟩
theorem dL_law_19 : Daload code 19 0 20 := Or.inl ⟨0, by decide +kernel, rfl, rfl⟩
theorem dL_law_20 : D1 code 20 (.arraylength) 21 := ⟨by decide +kernel, rfl⟩
theorem dL_law_21 : Dconst code 21 7 23 := Or.inr (Or.inl ⟨7, by decide +kernel, rfl, rfl⟩)
theorem dL_law_23 : D1 code 23 (.isub) 24 := ⟨by decide +kernel, rfl⟩
theorem dL_law_24 : Dj code 24 (.if_icmp .gt 1064) 1064 27 1088 := ⟨by decide +kernel, rfl, by decide⟩
theorem dL_law_27 : Daload code 27 0 28 := Or.inl ⟨0, by decide +kernel, rfl, rfl⟩
theorem dL_law_28 : Diload code 28 3 29 := Or.inl ⟨3, by decide +kernel, rfl, rfl⟩
theorem dL_law_29 : D1 code 29 (.iaload) 30 := ⟨by decide +kernel, rfl⟩
theorem dL_law_30 : Dconst code 30 31 32 := Or.inr (Or.inl ⟨31, by decide +kernel, rfl, rfl⟩)
theorem dL_law_32 : D1 code 32 (.iand) 33 := ⟨by decide +kernel, rfl⟩
theorem dL_law_33 : decode code 33 = .ok (.tableswitch 1049 0 25 #[119, 152, 185, 228, 271, 304, 379, 422, 435, 468, 501, 534, 567, 610, 633, 696, 719, 732, 755, 828, 851, 874, 897, 950, 983, 1026], 119) := by decide +kernel
theorem dL_law_152 : Daload code 152 1 153 := Or.inl ⟨1, by decide +kernel, rfl, rfl⟩
theorem dL_law_153 : Daload code 153 0 154 := Or.inl ⟨0, by decide +kernel, rfl, rfl⟩
theorem dL_law_154 : Diload code 154 3 155 := Or.inl ⟨3, by decide +kernel, rfl, rfl⟩
theorem dL_law_155 : Dconst code 155 1 156 := Or.inl ⟨1, by decide +kernel, rfl, rfl⟩
theorem dL_law_156 : D1 code 156 (.iadd) 157 := ⟨by decide +kernel, rfl⟩
theorem dL_law_157 : D1 code 157 (.iaload) 158 := ⟨by decide +kernel, rfl⟩
theorem dL_law_158 : Daload code 158 0 159 := Or.inl ⟨0, by decide +kernel, rfl, rfl⟩
theorem dL_law_159 : Diload code 159 3 160 := Or.inl ⟨3, by decide +kernel, rfl, rfl⟩
theorem dL_law_160 : Dconst code 160 2 161 := Or.inl ⟨2, by decide +kernel, rfl, rfl⟩
theorem dL_law_161 : D1 code 161 (.iadd) 162 := ⟨by decide +kernel, rfl⟩
theorem dL_law_162 : D1 code 162 (.iaload) 163 := ⟨by decide +kernel, rfl⟩
theorem dL_law_163 : D3 code 163 (.invokevirtual 13) 166 := ⟨by decide +kernel, rfl⟩
theorem dL_law_166 : Daload code 166 2 167 := Or.inl ⟨2, by decide +kernel, rfl, rfl⟩
theorem dL_law_167 : Daload code 167 0 168 := Or.inl ⟨0, by decide +kernel, rfl, rfl⟩
theorem dL_law_168 : Diload code 168 3 169 := Or.inl ⟨3, by decide +kernel, rfl, rfl⟩
theorem dL_law_169 : Dconst code 169 1 170 := Or.inl ⟨1, by decide +kernel, rfl, rfl⟩
theorem dL_law_170 : D1 code 170 (.iadd) 171 := ⟨by decide +kernel, rfl⟩
theorem dL_law_171 : D1 code 171 (.iaload) 172 := ⟨by decide +kernel, rfl⟩
theorem dL_law_172 : Daload code 172 0 173 := Or.inl ⟨0, by decide +kernel, rfl, rfl⟩
theorem dL_law_173 : Diload code 173 3 174 := Or.inl ⟨3, by decide +kernel, rfl, rfl⟩
theorem dL_law_174 : Dconst code 174 2 175 := Or.inl ⟨2, by decide +kernel, rfl, rfl⟩
theorem dL_law_175 : D1 code 175 (.iadd) 176 := ⟨by decide +kernel, rfl⟩
theorem dL_law_176 : D1 code 176 (.iaload) 177 := ⟨by decide +kernel, rfl⟩
theorem dL_law_177 : D3 code 177 (.invokevirtual 17) 180 := ⟨by decide +kernel, rfl⟩
theorem dL_law_180 : Dj code 180 (.if_icmp .eq 902) 902 183 1082 := ⟨by decide +kernel, rfl, by decide⟩
theorem dL_law_183 : Dconst code 183 0 184 := Or.inl ⟨0, by decide +kernel, rfl, rfl⟩
theorem dL_law_184 : D1 code 184 (.ireturn) 185 := ⟨by decide +kernel, rfl⟩
theorem dL_law_185 : Daload code 185 1 186 := Or.inl ⟨1, by decide +kernel, rfl, rfl⟩
theorem dL_law_186 : Daload code 186 0 187 := Or.inl ⟨0, by decide +kernel, rfl, rfl⟩
theorem dL_law_187 : Diload code 187 3 188 := Or.inl ⟨3, by decide +kernel, rfl, rfl⟩
theorem dL_law_188 : Dconst code 188 1 189 := Or.inl ⟨1, by decide +kernel, rfl, rfl⟩
theorem dL_law_189 : D1 code 189 (.iadd) 190 := ⟨by decide +kernel, rfl⟩
theorem dL_law_190 : D1 code 190 (.iaload) 191 := ⟨by decide +kernel, rfl⟩
theorem dL_law_191 : Daload code 191 0 192 := Or.inl ⟨0, by decide +kernel, rfl, rfl⟩
theorem dL_law_192 : Diload code 192 3 193 := Or.inl ⟨3, by decide +kernel, rfl, rfl⟩
theorem dL_law_193 : Dconst code 193 2 194 := Or.inl ⟨2, by decide +kernel, rfl, rfl⟩
theorem dL_law_194 : D1 code 194 (.iadd) 195 := ⟨by decide +kernel, rfl⟩
theorem dL_law_195 : D1 code 195 (.iaload) 196 := ⟨by decide +kernel, rfl⟩
theorem dL_law_196 : D3 code 196 (.invokevirtual 18) 199 := ⟨by decide +kernel, rfl⟩
theorem dL_law_199 : Daload code 199 2 200 := Or.inl ⟨2, by decide +kernel, rfl, rfl⟩
theorem dL_law_200 : Daload code 200 0 201 := Or.inl ⟨0, by decide +kernel, rfl, rfl⟩
theorem dL_law_201 : Diload code 201 3 202 := Or.inl ⟨3, by decide +kernel, rfl, rfl⟩
theorem dL_law_202 : Dconst code 202 1 203 := Or.inl ⟨1, by decide +kernel, rfl, rfl⟩
theorem dL_law_203 : D1 code 203 (.iadd) 204 := ⟨by decide +kernel, rfl⟩
theorem dL_law_204 : D1 code 204 (.iaload) 205 := ⟨by decide +kernel, rfl⟩
theorem dL_law_205 : Daload code 205 0 206 := Or.inl ⟨0, by decide +kernel, rfl, rfl⟩
theorem dL_law_206 : Diload code 206 3 207 := Or.inl ⟨3, by decide +kernel, rfl, rfl⟩
theorem dL_law_207 : Dconst code 207 2 208 := Or.inl ⟨2, by decide +kernel, rfl, rfl⟩
theorem dL_law_208 : D1 code 208 (.iadd) 209 := ⟨by decide +kernel, rfl⟩
theorem dL_law_209 : D1 code 209 (.iaload) 210 := ⟨by decide +kernel, rfl⟩
theorem dL_law_210 : D3 code 210 (.invokevirtual 21) 213 := ⟨by decide +kernel, rfl⟩
theorem dL_law_213 : Dj code 213 (.if_icmp .eq 869) 869 216 1082 := ⟨by decide +kernel, rfl, by decide⟩
theorem dL_law_216 : Dconst code 216 0 217 := Or.inl ⟨0, by decide +kernel, rfl, rfl⟩
theorem dL_law_217 : D1 code 217 (.ireturn) 218 := ⟨by decide +kernel, rfl⟩
theorem dL_law_218 : Daload code 218 1 219 := Or.inl ⟨1, by decide +kernel, rfl, rfl⟩
theorem dL_law_219 : Daload code 219 0 220 := Or.inl ⟨0, by decide +kernel, rfl, rfl⟩
theorem dL_law_220 : Diload code 220 3 221 := Or.inl ⟨3, by decide +kernel, rfl, rfl⟩
theorem dL_law_221 : Dconst code 221 1 222 := Or.inl ⟨1, by decide +kernel, rfl, rfl⟩
theorem dL_law_222 : D1 code 222 (.iadd) 223 := ⟨by decide +kernel, rfl⟩
theorem dL_law_223 : D1 code 223 (.iaload) 224 := ⟨by decide +kernel, rfl⟩
theorem dL_law_224 : Daload code 224 0 225 := Or.inl ⟨0, by decide +kernel, rfl, rfl⟩
theorem dL_law_225 : Diload code 225 3 226 := Or.inl ⟨3, by decide +kernel, rfl, rfl⟩
theorem dL_law_226 : Dconst code 226 2 227 := Or.inl ⟨2, by decide +kernel, rfl, rfl⟩
theorem dL_law_227 : D1 code 227 (.iadd) 228 := ⟨by decide +kernel, rfl⟩
theorem dL_law_228 : D1 code 228 (.iaload) 229 := ⟨by decide +kernel, rfl⟩
theorem dL_law_229 : Daload code 229 0 230 := Or.inl ⟨0, by decide +kernel, rfl, rfl⟩
theorem dL_law_230 : Diload code 230 3 231 := Or.inl ⟨3, by decide +kernel, rfl, rfl⟩
theorem dL_law_231 : Dconst code 231 3 232 := Or.inl ⟨3, by decide +kernel, rfl, rfl⟩
theorem dL_law_232 : D1 code 232 (.iadd) 233 := ⟨by decide +kernel, rfl⟩
theorem dL_law_233 : D1 code 233 (.iaload) 234 := ⟨by decide +kernel, rfl⟩
theorem dL_law_234 : D3 code 234 (.invokevirtual 22) 237 := ⟨by decide +kernel, rfl⟩
theorem dL_law_237 : Daload code 237 2 238 := Or.inl ⟨2, by decide +kernel, rfl, rfl⟩
theorem dL_law_238 : Daload code 238 0 239 := Or.inl ⟨0, by decide +kernel, rfl, rfl⟩
theorem dL_law_239 : Diload code 239 3 240 := Or.inl ⟨3, by decide +kernel, rfl, rfl⟩
theorem dL_law_240 : Dconst code 240 1 241 := Or.inl ⟨1, by decide +kernel, rfl, rfl⟩
theorem dL_law_241 : D1 code 241 (.iadd) 242 := ⟨by decide +kernel, rfl⟩
theorem dL_law_242 : D1 code 242 (.iaload) 243 := ⟨by decide +kernel, rfl⟩
theorem dL_law_243 : Daload code 243 0 244 := Or.inl ⟨0, by decide +kernel, rfl, rfl⟩
theorem dL_law_244 : Diload code 244 3 245 := Or.inl ⟨3, by decide +kernel, rfl, rfl⟩
theorem dL_law_245 : Dconst code 245 2 246 := Or.inl ⟨2, by decide +kernel, rfl, rfl⟩
theorem dL_law_246 : D1 code 246 (.iadd) 247 := ⟨by decide +kernel, rfl⟩
theorem dL_law_247 : D1 code 247 (.iaload) 248 := ⟨by decide +kernel, rfl⟩
theorem dL_law_248 : Daload code 248 0 249 := Or.inl ⟨0, by decide +kernel, rfl, rfl⟩
theorem dL_law_249 : Diload code 249 3 250 := Or.inl ⟨3, by decide +kernel, rfl, rfl⟩
theorem dL_law_250 : Dconst code 250 3 251 := Or.inl ⟨3, by decide +kernel, rfl, rfl⟩
theorem dL_law_251 : D1 code 251 (.iadd) 252 := ⟨by decide +kernel, rfl⟩
theorem dL_law_252 : D1 code 252 (.iaload) 253 := ⟨by decide +kernel, rfl⟩
theorem dL_law_253 : D3 code 253 (.invokevirtual 26) 256 := ⟨by decide +kernel, rfl⟩
theorem dL_law_256 : Dj code 256 (.if_icmp .eq 826) 826 259 1082 := ⟨by decide +kernel, rfl, by decide⟩
theorem dL_law_259 : Dconst code 259 0 260 := Or.inl ⟨0, by decide +kernel, rfl, rfl⟩
theorem dL_law_260 : D1 code 260 (.ireturn) 261 := ⟨by decide +kernel, rfl⟩
theorem dL_law_261 : Daload code 261 1 262 := Or.inl ⟨1, by decide +kernel, rfl, rfl⟩
theorem dL_law_262 : Daload code 262 0 263 := Or.inl ⟨0, by decide +kernel, rfl, rfl⟩
theorem dL_law_263 : Diload code 263 3 264 := Or.inl ⟨3, by decide +kernel, rfl, rfl⟩
theorem dL_law_264 : Dconst code 264 1 265 := Or.inl ⟨1, by decide +kernel, rfl, rfl⟩
theorem dL_law_265 : D1 code 265 (.iadd) 266 := ⟨by decide +kernel, rfl⟩
theorem dL_law_266 : D1 code 266 (.iaload) 267 := ⟨by decide +kernel, rfl⟩
theorem dL_law_267 : Daload code 267 0 268 := Or.inl ⟨0, by decide +kernel, rfl, rfl⟩
theorem dL_law_268 : Diload code 268 3 269 := Or.inl ⟨3, by decide +kernel, rfl, rfl⟩
theorem dL_law_269 : Dconst code 269 2 270 := Or.inl ⟨2, by decide +kernel, rfl, rfl⟩
theorem dL_law_270 : D1 code 270 (.iadd) 271 := ⟨by decide +kernel, rfl⟩
theorem dL_law_271 : D1 code 271 (.iaload) 272 := ⟨by decide +kernel, rfl⟩
theorem dL_law_272 : Daload code 272 0 273 := Or.inl ⟨0, by decide +kernel, rfl, rfl⟩
theorem dL_law_273 : Diload code 273 3 274 := Or.inl ⟨3, by decide +kernel, rfl, rfl⟩
theorem dL_law_274 : Dconst code 274 3 275 := Or.inl ⟨3, by decide +kernel, rfl, rfl⟩
theorem dL_law_275 : D1 code 275 (.iadd) 276 := ⟨by decide +kernel, rfl⟩
theorem dL_law_276 : D1 code 276 (.iaload) 277 := ⟨by decide +kernel, rfl⟩
theorem dL_law_277 : D3 code 277 (.invokevirtual 27) 280 := ⟨by decide +kernel, rfl⟩
theorem dL_law_280 : Daload code 280 2 281 := Or.inl ⟨2, by decide +kernel, rfl, rfl⟩
theorem dL_law_281 : Daload code 281 0 282 := Or.inl ⟨0, by decide +kernel, rfl, rfl⟩
theorem dL_law_282 : Diload code 282 3 283 := Or.inl ⟨3, by decide +kernel, rfl, rfl⟩
theorem dL_law_283 : Dconst code 283 1 284 := Or.inl ⟨1, by decide +kernel, rfl, rfl⟩
theorem dL_law_284 : D1 code 284 (.iadd) 285 := ⟨by decide +kernel, rfl⟩
theorem dL_law_285 : D1 code 285 (.iaload) 286 := ⟨by decide +kernel, rfl⟩
theorem dL_law_286 : Daload code 286 0 287 := Or.inl ⟨0, by decide +kernel, rfl, rfl⟩
theorem dL_law_287 : Diload code 287 3 288 := Or.inl ⟨3, by decide +kernel, rfl, rfl⟩
theorem dL_law_288 : Dconst code 288 2 289 := Or.inl ⟨2, by decide +kernel, rfl, rfl⟩
theorem dL_law_289 : D1 code 289 (.iadd) 290 := ⟨by decide +kernel, rfl⟩
theorem dL_law_290 : D1 code 290 (.iaload) 291 := ⟨by decide +kernel, rfl⟩
theorem dL_law_291 : Daload code 291 0 292 := Or.inl ⟨0, by decide +kernel, rfl, rfl⟩
theorem dL_law_292 : Diload code 292 3 293 := Or.inl ⟨3, by decide +kernel, rfl, rfl⟩
theorem dL_law_293 : Dconst code 293 3 294 := Or.inl ⟨3, by decide +kernel, rfl, rfl⟩
theorem dL_law_294 : D1 code 294 (.iadd) 295 := ⟨by decide +kernel, rfl⟩
theorem dL_law_295 : D1 code 295 (.iaload) 296 := ⟨by decide +kernel, rfl⟩
theorem dL_law_296 : D3 code 296 (.invokevirtual 30) 299 := ⟨by decide +kernel, rfl⟩
theorem dL_law_299 : Dj code 299 (.if_icmp .eq 783) 783 302 1082 := ⟨by decide +kernel, rfl, by decide⟩
theorem dL_law_302 : Dconst code 302 0 303 := Or.inl ⟨0, by decide +kernel, rfl, rfl⟩
theorem dL_law_303 : D1 code 303 (.ireturn) 304 := ⟨by decide +kernel, rfl⟩
theorem dL_law_304 : Daload code 304 1 305 := Or.inl ⟨1, by decide +kernel, rfl, rfl⟩
theorem dL_law_305 : Daload code 305 0 306 := Or.inl ⟨0, by decide +kernel, rfl, rfl⟩
theorem dL_law_306 : Diload code 306 3 307 := Or.inl ⟨3, by decide +kernel, rfl, rfl⟩
theorem dL_law_307 : Dconst code 307 1 308 := Or.inl ⟨1, by decide +kernel, rfl, rfl⟩
theorem dL_law_308 : D1 code 308 (.iadd) 309 := ⟨by decide +kernel, rfl⟩
theorem dL_law_309 : D1 code 309 (.iaload) 310 := ⟨by decide +kernel, rfl⟩
theorem dL_law_310 : Daload code 310 0 311 := Or.inl ⟨0, by decide +kernel, rfl, rfl⟩
theorem dL_law_311 : Diload code 311 3 312 := Or.inl ⟨3, by decide +kernel, rfl, rfl⟩
theorem dL_law_312 : Dconst code 312 2 313 := Or.inl ⟨2, by decide +kernel, rfl, rfl⟩
theorem dL_law_313 : D1 code 313 (.iadd) 314 := ⟨by decide +kernel, rfl⟩
theorem dL_law_314 : D1 code 314 (.iaload) 315 := ⟨by decide +kernel, rfl⟩
theorem dL_law_315 : D3 code 315 (.invokevirtual 31) 318 := ⟨by decide +kernel, rfl⟩
theorem dL_law_318 : Daload code 318 2 319 := Or.inl ⟨2, by decide +kernel, rfl, rfl⟩
theorem dL_law_319 : Daload code 319 0 320 := Or.inl ⟨0, by decide +kernel, rfl, rfl⟩
theorem dL_law_320 : Diload code 320 3 321 := Or.inl ⟨3, by decide +kernel, rfl, rfl⟩
theorem dL_law_321 : Dconst code 321 1 322 := Or.inl ⟨1, by decide +kernel, rfl, rfl⟩
theorem dL_law_322 : D1 code 322 (.iadd) 323 := ⟨by decide +kernel, rfl⟩
theorem dL_law_323 : D1 code 323 (.iaload) 324 := ⟨by decide +kernel, rfl⟩
theorem dL_law_324 : Daload code 324 0 325 := Or.inl ⟨0, by decide +kernel, rfl, rfl⟩
theorem dL_law_325 : Diload code 325 3 326 := Or.inl ⟨3, by decide +kernel, rfl, rfl⟩
theorem dL_law_326 : Dconst code 326 2 327 := Or.inl ⟨2, by decide +kernel, rfl, rfl⟩
theorem dL_law_327 : D1 code 327 (.iadd) 328 := ⟨by decide +kernel, rfl⟩
theorem dL_law_328 : D1 code 328 (.iaload) 329 := ⟨by decide +kernel, rfl⟩
theorem dL_law_329 : D3 code 329 (.invokevirtual 34) 332 := ⟨by decide +kernel, rfl⟩
theorem dL_law_332 : Dj code 332 (.if_icmp .eq 750) 750 335 1082 := ⟨by decide +kernel, rfl, by decide⟩
theorem dL_law_335 : Dconst code 335 0 336 := Or.inl ⟨0, by decide +kernel, rfl, rfl⟩
theorem dL_law_336 : D1 code 336 (.ireturn) 337 := ⟨by decide +kernel, rfl⟩
theorem dL_law_337 : Daload code 337 1 338 := Or.inl ⟨1, by decide +kernel, rfl, rfl⟩
theorem dL_law_338 : Daload code 338 0 339 := Or.inl ⟨0, by decide +kernel, rfl, rfl⟩
theorem dL_law_339 : Diload code 339 3 340 := Or.inl ⟨3, by decide +kernel, rfl, rfl⟩
theorem dL_law_340 : Dconst code 340 1 341 := Or.inl ⟨1, by decide +kernel, rfl, rfl⟩
theorem dL_law_341 : D1 code 341 (.iadd) 342 := ⟨by decide +kernel, rfl⟩
theorem dL_law_342 : D1 code 342 (.iaload) 343 := ⟨by decide +kernel, rfl⟩
theorem dL_law_343 : Daload code 343 0 344 := Or.inl ⟨0, by decide +kernel, rfl, rfl⟩
theorem dL_law_344 : Diload code 344 3 345 := Or.inl ⟨3, by decide +kernel, rfl, rfl⟩
theorem dL_law_345 : Dconst code 345 2 346 := Or.inl ⟨2, by decide +kernel, rfl, rfl⟩
theorem dL_law_346 : D1 code 346 (.iadd) 347 := ⟨by decide +kernel, rfl⟩
theorem dL_law_347 : D1 code 347 (.iaload) 348 := ⟨by decide +kernel, rfl⟩
theorem dL_law_348 : Daload code 348 0 349 := Or.inl ⟨0, by decide +kernel, rfl, rfl⟩
theorem dL_law_349 : Diload code 349 3 350 := Or.inl ⟨3, by decide +kernel, rfl, rfl⟩
theorem dL_law_350 : Dconst code 350 3 351 := Or.inl ⟨3, by decide +kernel, rfl, rfl⟩
theorem dL_law_351 : D1 code 351 (.iadd) 352 := ⟨by decide +kernel, rfl⟩
theorem dL_law_352 : D1 code 352 (.iaload) 353 := ⟨by decide +kernel, rfl⟩
theorem dL_law_353 : Daload code 353 0 354 := Or.inl ⟨0, by decide +kernel, rfl, rfl⟩
theorem dL_law_354 : Diload code 354 3 355 := Or.inl ⟨3, by decide +kernel, rfl, rfl⟩
theorem dL_law_355 : Dconst code 355 4 356 := Or.inl ⟨4, by decide +kernel, rfl, rfl⟩
theorem dL_law_356 : D1 code 356 (.iadd) 357 := ⟨by decide +kernel, rfl⟩
theorem dL_law_357 : D1 code 357 (.iaload) 358 := ⟨by decide +kernel, rfl⟩
theorem dL_law_358 : Daload code 358 0 359 := Or.inl ⟨0, by decide +kernel, rfl, rfl⟩
theorem dL_law_359 : Diload code 359 3 360 := Or.inl ⟨3, by decide +kernel, rfl, rfl⟩
theorem dL_law_360 : Dconst code 360 5 361 := Or.inl ⟨5, by decide +kernel, rfl, rfl⟩
theorem dL_law_361 : D1 code 361 (.iadd) 362 := ⟨by decide +kernel, rfl⟩
theorem dL_law_362 : D1 code 362 (.iaload) 363 := ⟨by decide +kernel, rfl⟩
theorem dL_law_363 : Daload code 363 0 364 := Or.inl ⟨0, by decide +kernel, rfl, rfl⟩
theorem dL_law_364 : Diload code 364 3 365 := Or.inl ⟨3, by decide +kernel, rfl, rfl⟩
theorem dL_law_365 : Dconst code 365 6 367 := Or.inr (Or.inl ⟨6, by decide +kernel, rfl, rfl⟩)
theorem dL_law_367 : D1 code 367 (.iadd) 368 := ⟨by decide +kernel, rfl⟩
theorem dL_law_368 : D1 code 368 (.iaload) 369 := ⟨by decide +kernel, rfl⟩
theorem dL_law_369 : D3 code 369 (.invokevirtual 35) 372 := ⟨by decide +kernel, rfl⟩
theorem dL_law_372 : Daload code 372 2 373 := Or.inl ⟨2, by decide +kernel, rfl, rfl⟩
theorem dL_law_373 : Daload code 373 0 374 := Or.inl ⟨0, by decide +kernel, rfl, rfl⟩
theorem dL_law_374 : Diload code 374 3 375 := Or.inl ⟨3, by decide +kernel, rfl, rfl⟩
theorem dL_law_375 : Dconst code 375 1 376 := Or.inl ⟨1, by decide +kernel, rfl, rfl⟩
theorem dL_law_376 : D1 code 376 (.iadd) 377 := ⟨by decide +kernel, rfl⟩
theorem dL_law_377 : D1 code 377 (.iaload) 378 := ⟨by decide +kernel, rfl⟩
theorem dL_law_378 : Daload code 378 0 379 := Or.inl ⟨0, by decide +kernel, rfl, rfl⟩
theorem dL_law_379 : Diload code 379 3 380 := Or.inl ⟨3, by decide +kernel, rfl, rfl⟩
theorem dL_law_380 : Dconst code 380 2 381 := Or.inl ⟨2, by decide +kernel, rfl, rfl⟩
theorem dL_law_381 : D1 code 381 (.iadd) 382 := ⟨by decide +kernel, rfl⟩
theorem dL_law_382 : D1 code 382 (.iaload) 383 := ⟨by decide +kernel, rfl⟩
theorem dL_law_383 : Daload code 383 0 384 := Or.inl ⟨0, by decide +kernel, rfl, rfl⟩
theorem dL_law_384 : Diload code 384 3 385 := Or.inl ⟨3, by decide +kernel, rfl, rfl⟩
theorem dL_law_385 : Dconst code 385 3 386 := Or.inl ⟨3, by decide +kernel, rfl, rfl⟩
theorem dL_law_386 : D1 code 386 (.iadd) 387 := ⟨by decide +kernel, rfl⟩
theorem dL_law_387 : D1 code 387 (.iaload) 388 := ⟨by decide +kernel, rfl⟩
theorem dL_law_388 : Daload code 388 0 389 := Or.inl ⟨0, by decide +kernel, rfl, rfl⟩
theorem dL_law_389 : Diload code 389 3 390 := Or.inl ⟨3, by decide +kernel, rfl, rfl⟩
theorem dL_law_390 : Dconst code 390 4 391 := Or.inl ⟨4, by decide +kernel, rfl, rfl⟩
theorem dL_law_391 : D1 code 391 (.iadd) 392 := ⟨by decide +kernel, rfl⟩
theorem dL_law_392 : D1 code 392 (.iaload) 393 := ⟨by decide +kernel, rfl⟩
theorem dL_law_393 : Daload code 393 0 394 := Or.inl ⟨0, by decide +kernel, rfl, rfl⟩
theorem dL_law_394 : Diload code 394 3 395 := Or.inl ⟨3, by decide +kernel, rfl, rfl⟩
theorem dL_law_395 : Dconst code 395 5 396 := Or.inl ⟨5, by decide +kernel, rfl, rfl⟩
theorem dL_law_396 : D1 code 396 (.iadd) 397 := ⟨by decide +kernel, rfl⟩
theorem dL_law_397 : D1 code 397 (.iaload) 398 := ⟨by decide +kernel, rfl⟩
theorem dL_law_398 : Daload code 398 0 399 := Or.inl ⟨0, by decide +kernel, rfl, rfl⟩
theorem dL_law_399 : Diload code 399 3 400 := Or.inl ⟨3, by decide +kernel, rfl, rfl⟩
theorem dL_law_400 : Dconst code 400 6 402 := Or.inr (Or.inl ⟨6, by decide +kernel, rfl, rfl⟩)
theorem dL_law_402 : D1 code 402 (.iadd) 403 := ⟨by decide +kernel, rfl⟩
theorem dL_law_403 : D1 code 403 (.iaload) 404 := ⟨by decide +kernel, rfl⟩
theorem dL_law_404 : D3 code 404 (.invokevirtual 39) 407 := ⟨by decide +kernel, rfl⟩
theorem dL_law_407 : Dj code 407 (.if_icmp .eq 675) 675 410 1082 := ⟨by decide +kernel, rfl, by decide⟩
theorem dL_law_410 : Dconst code 410 0 411 := Or.inl ⟨0, by decide +kernel, rfl, rfl⟩
theorem dL_law_411 : D1 code 411 (.ireturn) 412 := ⟨by decide +kernel, rfl⟩
theorem dL_law_412 : Daload code 412 1 413 := Or.inl ⟨1, by decide +kernel, rfl, rfl⟩
theorem dL_law_413 : Daload code 413 0 414 := Or.inl ⟨0, by decide +kernel, rfl, rfl⟩
theorem dL_law_414 : Diload code 414 3 415 := Or.inl ⟨3, by decide +kernel, rfl, rfl⟩
theorem dL_law_415 : Dconst code 415 1 416 := Or.inl ⟨1, by decide +kernel, rfl, rfl⟩
theorem dL_law_416 : D1 code 416 (.iadd) 417 := ⟨by decide +kernel, rfl⟩
theorem dL_law_417 : D1 code 417 (.iaload) 418 := ⟨by decide +kernel, rfl⟩
theorem dL_law_418 : Daload code 418 0 419 := Or.inl ⟨0, by decide +kernel, rfl, rfl⟩
theorem dL_law_419 : Diload code 419 3 420 := Or.inl ⟨3, by decide +kernel, rfl, rfl⟩
theorem dL_law_420 : Dconst code 420 2 421 := Or.inl ⟨2, by decide +kernel, rfl, rfl⟩
theorem dL_law_421 : D1 code 421 (.iadd) 422 := ⟨by decide +kernel, rfl⟩
theorem dL_law_422 : D1 code 422 (.iaload) 423 := ⟨by decide +kernel, rfl⟩
theorem dL_law_423 : Daload code 423 0 424 := Or.inl ⟨0, by decide +kernel, rfl, rfl⟩
theorem dL_law_424 : Diload code 424 3 425 := Or.inl ⟨3, by decide +kernel, rfl, rfl⟩
theorem dL_law_425 : Dconst code 425 3 426 := Or.inl ⟨3, by decide +kernel, rfl, rfl⟩
theorem dL_law_426 : D1 code 426 (.iadd) 427 := ⟨by decide +kernel, rfl⟩
theorem dL_law_427 : D1 code 427 (.iaload) 428 := ⟨by decide +kernel, rfl⟩
theorem dL_law_428 : D3 code 428 (.invokevirtual 40) 431 := ⟨by decide +kernel, rfl⟩
theorem dL_law_431 : Daload code 431 2 432 := Or.inl ⟨2, by decide +kernel, rfl, rfl⟩
theorem dL_law_432 : Daload code 432 0 433 := Or.inl ⟨0, by decide +kernel, rfl, rfl⟩
theorem dL_law_433 : Diload code 433 3 434 := Or.inl ⟨3, by decide +kernel, rfl, rfl⟩
theorem dL_law_434 : Dconst code 434 1 435 := Or.inl ⟨1, by decide +kernel, rfl, rfl⟩
theorem dL_law_435 : D1 code 435 (.iadd) 436 := ⟨by decide +kernel, rfl⟩
theorem dL_law_436 : D1 code 436 (.iaload) 437 := ⟨by decide +kernel, rfl⟩
theorem dL_law_437 : Daload code 437 0 438 := Or.inl ⟨0, by decide +kernel, rfl, rfl⟩
theorem dL_law_438 : Diload code 438 3 439 := Or.inl ⟨3, by decide +kernel, rfl, rfl⟩
theorem dL_law_439 : Dconst code 439 2 440 := Or.inl ⟨2, by decide +kernel, rfl, rfl⟩
theorem dL_law_440 : D1 code 440 (.iadd) 441 := ⟨by decide +kernel, rfl⟩
theorem dL_law_441 : D1 code 441 (.iaload) 442 := ⟨by decide +kernel, rfl⟩
theorem dL_law_442 : Daload code 442 0 443 := Or.inl ⟨0, by decide +kernel, rfl, rfl⟩
theorem dL_law_443 : Diload code 443 3 444 := Or.inl ⟨3, by decide +kernel, rfl, rfl⟩
theorem dL_law_444 : Dconst code 444 3 445 := Or.inl ⟨3, by decide +kernel, rfl, rfl⟩
theorem dL_law_445 : D1 code 445 (.iadd) 446 := ⟨by decide +kernel, rfl⟩
theorem dL_law_446 : D1 code 446 (.iaload) 447 := ⟨by decide +kernel, rfl⟩
theorem dL_law_447 : D3 code 447 (.invokevirtual 44) 450 := ⟨by decide +kernel, rfl⟩
theorem dL_law_450 : Dj code 450 (.if_icmp .eq 632) 632 453 1082 := ⟨by decide +kernel, rfl, by decide⟩
theorem dL_law_453 : Dconst code 453 0 454 := Or.inl ⟨0, by decide +kernel, rfl, rfl⟩
theorem dL_law_454 : D1 code 454 (.ireturn) 455 := ⟨by decide +kernel, rfl⟩
theorem dL_law_455 : Daload code 455 1 456 := Or.inl ⟨1, by decide +kernel, rfl, rfl⟩
theorem dL_law_456 : D3 code 456 (.invokevirtual 45) 459 := ⟨by decide +kernel, rfl⟩
theorem dL_law_459 : Daload code 459 2 460 := Or.inl ⟨2, by decide +kernel, rfl, rfl⟩
theorem dL_law_460 : D3 code 460 (.invokevirtual 49) 463 := ⟨by decide +kernel, rfl⟩
theorem dL_law_463 : Dj code 463 (.if_icmp .eq 619) 619 466 1082 := ⟨by decide +kernel, rfl, by decide⟩
theorem dL_law_466 : Dconst code 466 0 467 := Or.inl ⟨0, by decide +kernel, rfl, rfl⟩
theorem dL_law_467 : D1 code 467 (.ireturn) 468 := ⟨by decide +kernel, rfl⟩
theorem dL_law_468 : Daload code 468 1 469 := Or.inl ⟨1, by decide +kernel, rfl, rfl⟩
theorem dL_law_469 : Daload code 469 0 470 := Or.inl ⟨0, by decide +kernel, rfl, rfl⟩
theorem dL_law_470 : Diload code 470 3 471 := Or.inl ⟨3, by decide +kernel, rfl, rfl⟩
theorem dL_law_471 : Dconst code 471 1 472 := Or.inl ⟨1, by decide +kernel, rfl, rfl⟩
theorem dL_law_472 : D1 code 472 (.iadd) 473 := ⟨by decide +kernel, rfl⟩
theorem dL_law_473 : D1 code 473 (.iaload) 474 := ⟨by decide +kernel, rfl⟩
theorem dL_law_474 : Daload code 474 0 475 := Or.inl ⟨0, by decide +kernel, rfl, rfl⟩
theorem dL_law_475 : Diload code 475 3 476 := Or.inl ⟨3, by decide +kernel, rfl, rfl⟩
theorem dL_law_476 : Dconst code 476 2 477 := Or.inl ⟨2, by decide +kernel, rfl, rfl⟩
theorem dL_law_477 : D1 code 477 (.iadd) 478 := ⟨by decide +kernel, rfl⟩
theorem dL_law_478 : D1 code 478 (.iaload) 479 := ⟨by decide +kernel, rfl⟩
theorem dL_law_479 : D3 code 479 (.invokevirtual 50) 482 := ⟨by decide +kernel, rfl⟩
theorem dL_law_482 : Daload code 482 2 483 := Or.inl ⟨2, by decide +kernel, rfl, rfl⟩
theorem dL_law_483 : Daload code 483 0 484 := Or.inl ⟨0, by decide +kernel, rfl, rfl⟩
theorem dL_law_484 : Diload code 484 3 485 := Or.inl ⟨3, by decide +kernel, rfl, rfl⟩
theorem dL_law_485 : Dconst code 485 1 486 := Or.inl ⟨1, by decide +kernel, rfl, rfl⟩
theorem dL_law_486 : D1 code 486 (.iadd) 487 := ⟨by decide +kernel, rfl⟩
theorem dL_law_487 : D1 code 487 (.iaload) 488 := ⟨by decide +kernel, rfl⟩
theorem dL_law_488 : Daload code 488 0 489 := Or.inl ⟨0, by decide +kernel, rfl, rfl⟩
theorem dL_law_489 : Diload code 489 3 490 := Or.inl ⟨3, by decide +kernel, rfl, rfl⟩
theorem dL_law_490 : Dconst code 490 2 491 := Or.inl ⟨2, by decide +kernel, rfl, rfl⟩
theorem dL_law_491 : D1 code 491 (.iadd) 492 := ⟨by decide +kernel, rfl⟩
theorem dL_law_492 : D1 code 492 (.iaload) 493 := ⟨by decide +kernel, rfl⟩
theorem dL_law_493 : D3 code 493 (.invokevirtual 54) 496 := ⟨by decide +kernel, rfl⟩
theorem dL_law_496 : Dj code 496 (.if_icmp .eq 586) 586 499 1082 := ⟨by decide +kernel, rfl, by decide⟩
theorem dL_law_499 : Dconst code 499 0 500 := Or.inl ⟨0, by decide +kernel, rfl, rfl⟩
theorem dL_law_500 : D1 code 500 (.ireturn) 501 := ⟨by decide +kernel, rfl⟩
theorem dL_law_501 : Daload code 501 1 502 := Or.inl ⟨1, by decide +kernel, rfl, rfl⟩
theorem dL_law_502 : Daload code 502 0 503 := Or.inl ⟨0, by decide +kernel, rfl, rfl⟩
theorem dL_law_503 : Diload code 503 3 504 := Or.inl ⟨3, by decide +kernel, rfl, rfl⟩
theorem dL_law_504 : Dconst code 504 1 505 := Or.inl ⟨1, by decide +kernel, rfl, rfl⟩
theorem dL_law_505 : D1 code 505 (.iadd) 506 := ⟨by decide +kernel, rfl⟩
theorem dL_law_506 : D1 code 506 (.iaload) 507 := ⟨by decide +kernel, rfl⟩
theorem dL_law_507 : Daload code 507 0 508 := Or.inl ⟨0, by decide +kernel, rfl, rfl⟩
theorem dL_law_508 : Diload code 508 3 509 := Or.inl ⟨3, by decide +kernel, rfl, rfl⟩
theorem dL_law_509 : Dconst code 509 2 510 := Or.inl ⟨2, by decide +kernel, rfl, rfl⟩
theorem dL_law_510 : D1 code 510 (.iadd) 511 := ⟨by decide +kernel, rfl⟩
theorem dL_law_511 : D1 code 511 (.iaload) 512 := ⟨by decide +kernel, rfl⟩
theorem dL_law_512 : D3 code 512 (.invokevirtual 55) 515 := ⟨by decide +kernel, rfl⟩
theorem dL_law_515 : Daload code 515 2 516 := Or.inl ⟨2, by decide +kernel, rfl, rfl⟩
theorem dL_law_516 : Daload code 516 0 517 := Or.inl ⟨0, by decide +kernel, rfl, rfl⟩
theorem dL_law_517 : Diload code 517 3 518 := Or.inl ⟨3, by decide +kernel, rfl, rfl⟩
theorem dL_law_518 : Dconst code 518 1 519 := Or.inl ⟨1, by decide +kernel, rfl, rfl⟩
theorem dL_law_519 : D1 code 519 (.iadd) 520 := ⟨by decide +kernel, rfl⟩
theorem dL_law_520 : D1 code 520 (.iaload) 521 := ⟨by decide +kernel, rfl⟩
theorem dL_law_521 : Daload code 521 0 522 := Or.inl ⟨0, by decide +kernel, rfl, rfl⟩
theorem dL_law_522 : Diload code 522 3 523 := Or.inl ⟨3, by decide +kernel, rfl, rfl⟩
theorem dL_law_523 : Dconst code 523 2 524 := Or.inl ⟨2, by decide +kernel, rfl, rfl⟩
theorem dL_law_524 : D1 code 524 (.iadd) 525 := ⟨by decide +kernel, rfl⟩
theorem dL_law_525 : D1 code 525 (.iaload) 526 := ⟨by decide +kernel, rfl⟩
theorem dL_law_526 : D3 code 526 (.invokevirtual 58) 529 := ⟨by decide +kernel, rfl⟩
theorem dL_law_529 : Dj code 529 (.if_icmp .eq 553) 553 532 1082 := ⟨by decide +kernel, rfl, by decide⟩
theorem dL_law_532 : Dconst code 532 0 533 := Or.inl ⟨0, by decide +kernel, rfl, rfl⟩
theorem dL_law_533 : D1 code 533 (.ireturn) 534 := ⟨by decide +kernel, rfl⟩
theorem dL_law_534 : Daload code 534 1 535 := Or.inl ⟨1, by decide +kernel, rfl, rfl⟩
theorem dL_law_535 : Daload code 535 0 536 := Or.inl ⟨0, by decide +kernel, rfl, rfl⟩
theorem dL_law_536 : Diload code 536 3 537 := Or.inl ⟨3, by decide +kernel, rfl, rfl⟩
theorem dL_law_537 : Dconst code 537 1 538 := Or.inl ⟨1, by decide +kernel, rfl, rfl⟩
theorem dL_law_538 : D1 code 538 (.iadd) 539 := ⟨by decide +kernel, rfl⟩
theorem dL_law_539 : D1 code 539 (.iaload) 540 := ⟨by decide +kernel, rfl⟩
theorem dL_law_540 : Daload code 540 0 541 := Or.inl ⟨0, by decide +kernel, rfl, rfl⟩
theorem dL_law_541 : Diload code 541 3 542 := Or.inl ⟨3, by decide +kernel, rfl, rfl⟩
theorem dL_law_542 : Dconst code 542 2 543 := Or.inl ⟨2, by decide +kernel, rfl, rfl⟩
theorem dL_law_543 : D1 code 543 (.iadd) 544 := ⟨by decide +kernel, rfl⟩
theorem dL_law_544 : D1 code 544 (.iaload) 545 := ⟨by decide +kernel, rfl⟩
theorem dL_law_545 : D3 code 545 (.invokevirtual 59) 548 := ⟨by decide +kernel, rfl⟩
theorem dL_law_548 : Daload code 548 2 549 := Or.inl ⟨2, by decide +kernel, rfl, rfl⟩
theorem dL_law_549 : Daload code 549 0 550 := Or.inl ⟨0, by decide +kernel, rfl, rfl⟩
theorem dL_law_550 : Diload code 550 3 551 := Or.inl ⟨3, by decide +kernel, rfl, rfl⟩
theorem dL_law_551 : Dconst code 551 1 552 := Or.inl ⟨1, by decide +kernel, rfl, rfl⟩
theorem dL_law_552 : D1 code 552 (.iadd) 553 := ⟨by decide +kernel, rfl⟩
theorem dL_law_553 : D1 code 553 (.iaload) 554 := ⟨by decide +kernel, rfl⟩
theorem dL_law_554 : Daload code 554 0 555 := Or.inl ⟨0, by decide +kernel, rfl, rfl⟩
theorem dL_law_555 : Diload code 555 3 556 := Or.inl ⟨3, by decide +kernel, rfl, rfl⟩
theorem dL_law_556 : Dconst code 556 2 557 := Or.inl ⟨2, by decide +kernel, rfl, rfl⟩
theorem dL_law_557 : D1 code 557 (.iadd) 558 := ⟨by decide +kernel, rfl⟩
theorem dL_law_558 : D1 code 558 (.iaload) 559 := ⟨by decide +kernel, rfl⟩
theorem dL_law_559 : D3 code 559 (.invokevirtual 62) 562 := ⟨by decide +kernel, rfl⟩
theorem dL_law_562 : Dj code 562 (.if_icmp .eq 520) 520 565 1082 := ⟨by decide +kernel, rfl, by decide⟩
theorem dL_law_565 : Dconst code 565 0 566 := Or.inl ⟨0, by decide +kernel, rfl, rfl⟩
theorem dL_law_566 : D1 code 566 (.ireturn) 567 := ⟨by decide +kernel, rfl⟩
theorem dL_law_567 : Daload code 567 1 568 := Or.inl ⟨1, by decide +kernel, rfl, rfl⟩
theorem dL_law_568 : Daload code 568 0 569 := Or.inl ⟨0, by decide +kernel, rfl, rfl⟩
theorem dL_law_569 : Diload code 569 3 570 := Or.inl ⟨3, by decide +kernel, rfl, rfl⟩
theorem dL_law_570 : Dconst code 570 1 571 := Or.inl ⟨1, by decide +kernel, rfl, rfl⟩
theorem dL_law_571 : D1 code 571 (.iadd) 572 := ⟨by decide +kernel, rfl⟩
theorem dL_law_572 : D1 code 572 (.iaload) 573 := ⟨by decide +kernel, rfl⟩
theorem dL_law_573 : Daload code 573 0 574 := Or.inl ⟨0, by decide +kernel, rfl, rfl⟩
theorem dL_law_574 : Diload code 574 3 575 := Or.inl ⟨3, by decide +kernel, rfl, rfl⟩
theorem dL_law_575 : Dconst code 575 2 576 := Or.inl ⟨2, by decide +kernel, rfl, rfl⟩
theorem dL_law_576 : D1 code 576 (.iadd) 577 := ⟨by decide +kernel, rfl⟩
theorem dL_law_577 : D1 code 577 (.iaload) 578 := ⟨by decide +kernel, rfl⟩
theorem dL_law_578 : D3 code 578 (.invokevirtual 63) 581 := ⟨by decide +kernel, rfl⟩
theorem dL_law_581 : Daload code 581 2 582 := Or.inl ⟨2, by decide +kernel, rfl, rfl⟩
theorem dL_law_582 : Daload code 582 0 583 := Or.inl ⟨0, by decide +kernel, rfl, rfl⟩
theorem dL_law_583 : Diload code 583 3 584 := Or.inl ⟨3, by decide +kernel, rfl, rfl⟩
theorem dL_law_584 : Dconst code 584 1 585 := Or.inl ⟨1, by decide +kernel, rfl, rfl⟩
theorem dL_law_585 : D1 code 585 (.iadd) 586 := ⟨by decide +kernel, rfl⟩
theorem dL_law_586 : D1 code 586 (.iaload) 587 := ⟨by decide +kernel, rfl⟩
theorem dL_law_587 : Daload code 587 0 588 := Or.inl ⟨0, by decide +kernel, rfl, rfl⟩
theorem dL_law_588 : Diload code 588 3 589 := Or.inl ⟨3, by decide +kernel, rfl, rfl⟩
theorem dL_law_589 : Dconst code 589 2 590 := Or.inl ⟨2, by decide +kernel, rfl, rfl⟩
theorem dL_law_590 : D1 code 590 (.iadd) 591 := ⟨by decide +kernel, rfl⟩
theorem dL_law_591 : D1 code 591 (.iaload) 592 := ⟨by decide +kernel, rfl⟩
theorem dL_law_592 : D3 code 592 (.invokevirtual 66) 595 := ⟨by decide +kernel, rfl⟩
theorem dL_law_595 : Dj code 595 (.if_icmp .eq 487) 487 598 1082 := ⟨by decide +kernel, rfl, by decide⟩
theorem dL_law_598 : Dconst code 598 0 599 := Or.inl ⟨0, by decide +kernel, rfl, rfl⟩
theorem dL_law_599 : D1 code 599 (.ireturn) 600 := ⟨by decide +kernel, rfl⟩
theorem dL_law_600 : Daload code 600 1 601 := Or.inl ⟨1, by decide +kernel, rfl, rfl⟩
theorem dL_law_601 : Daload code 601 0 602 := Or.inl ⟨0, by decide +kernel, rfl, rfl⟩
theorem dL_law_602 : Diload code 602 3 603 := Or.inl ⟨3, by decide +kernel, rfl, rfl⟩
theorem dL_law_603 : Dconst code 603 1 604 := Or.inl ⟨1, by decide +kernel, rfl, rfl⟩
theorem dL_law_604 : D1 code 604 (.iadd) 605 := ⟨by decide +kernel, rfl⟩
theorem dL_law_605 : D1 code 605 (.iaload) 606 := ⟨by decide +kernel, rfl⟩
theorem dL_law_606 : Daload code 606 0 607 := Or.inl ⟨0, by decide +kernel, rfl, rfl⟩
theorem dL_law_607 : Diload code 607 3 608 := Or.inl ⟨3, by decide +kernel, rfl, rfl⟩
theorem dL_law_608 : Dconst code 608 2 609 := Or.inl ⟨2, by decide +kernel, rfl, rfl⟩
theorem dL_law_609 : D1 code 609 (.iadd) 610 := ⟨by decide +kernel, rfl⟩
theorem dL_law_610 : D1 code 610 (.iaload) 611 := ⟨by decide +kernel, rfl⟩
theorem dL_law_611 : Daload code 611 0 612 := Or.inl ⟨0, by decide +kernel, rfl, rfl⟩
theorem dL_law_612 : Diload code 612 3 613 := Or.inl ⟨3, by decide +kernel, rfl, rfl⟩
theorem dL_law_613 : Dconst code 613 3 614 := Or.inl ⟨3, by decide +kernel, rfl, rfl⟩
theorem dL_law_614 : D1 code 614 (.iadd) 615 := ⟨by decide +kernel, rfl⟩
theorem dL_law_615 : D1 code 615 (.iaload) 616 := ⟨by decide +kernel, rfl⟩
theorem dL_law_616 : D3 code 616 (.invokevirtual 67) 619 := ⟨by decide +kernel, rfl⟩
theorem dL_law_619 : Daload code 619 2 620 := Or.inl ⟨2, by decide +kernel, rfl, rfl⟩
theorem dL_law_620 : Daload code 620 0 621 := Or.inl ⟨0, by decide +kernel, rfl, rfl⟩
theorem dL_law_621 : Diload code 621 3 622 := Or.inl ⟨3, by decide +kernel, rfl, rfl⟩
theorem dL_law_622 : Dconst code 622 1 623 := Or.inl ⟨1, by decide +kernel, rfl, rfl⟩
theorem dL_law_623 : D1 code 623 (.iadd) 624 := ⟨by decide +kernel, rfl⟩
theorem dL_law_624 : D1 code 624 (.iaload) 625 := ⟨by decide +kernel, rfl⟩
theorem dL_law_625 : Daload code 625 0 626 := Or.inl ⟨0, by decide +kernel, rfl, rfl⟩
theorem dL_law_626 : Diload code 626 3 627 := Or.inl ⟨3, by decide +kernel, rfl, rfl⟩
theorem dL_law_627 : Dconst code 627 2 628 := Or.inl ⟨2, by decide +kernel, rfl, rfl⟩
theorem dL_law_628 : D1 code 628 (.iadd) 629 := ⟨by decide +kernel, rfl⟩
theorem dL_law_629 : D1 code 629 (.iaload) 630 := ⟨by decide +kernel, rfl⟩
theorem dL_law_630 : Daload code 630 0 631 := Or.inl ⟨0, by decide +kernel, rfl, rfl⟩
theorem dL_law_631 : Diload code 631 3 632 := Or.inl ⟨3, by decide +kernel, rfl, rfl⟩
theorem dL_law_632 : Dconst code 632 3 633 := Or.inl ⟨3, by decide +kernel, rfl, rfl⟩
theorem dL_law_633 : D1 code 633 (.iadd) 634 := ⟨by decide +kernel, rfl⟩
theorem dL_law_634 : D1 code 634 (.iaload) 635 := ⟨by decide +kernel, rfl⟩
theorem dL_law_635 : D3 code 635 (.invokevirtual 70) 638 := ⟨by decide +kernel, rfl⟩
theorem dL_law_638 : Dj code 638 (.if_icmp .eq 444) 444 641 1082 := ⟨by decide +kernel, rfl, by decide⟩
theorem dL_law_641 : Dconst code 641 0 642 := Or.inl ⟨0, by decide +kernel, rfl, rfl⟩
theorem dL_law_642 : D1 code 642 (.ireturn) 643 := ⟨by decide +kernel, rfl⟩
theorem dL_law_643 : Daload code 643 1 644 := Or.inl ⟨1, by decide +kernel, rfl, rfl⟩
theorem dL_law_644 : Daload code 644 0 645 := Or.inl ⟨0, by decide +kernel, rfl, rfl⟩
theorem dL_law_645 : Diload code 645 3 646 := Or.inl ⟨3, by decide +kernel, rfl, rfl⟩
theorem dL_law_646 : Dconst code 646 1 647 := Or.inl ⟨1, by decide +kernel, rfl, rfl⟩
theorem dL_law_647 : D1 code 647 (.iadd) 648 := ⟨by decide +kernel, rfl⟩
theorem dL_law_648 : D1 code 648 (.iaload) 649 := ⟨by decide +kernel, rfl⟩
theorem dL_law_649 : D3 code 649 (.invokevirtual 71) 652 := ⟨by decide +kernel, rfl⟩
theorem dL_law_652 : Daload code 652 2 653 := Or.inl ⟨2, by decide +kernel, rfl, rfl⟩
theorem dL_law_653 : Daload code 653 0 654 := Or.inl ⟨0, by decide +kernel, rfl, rfl⟩
theorem dL_law_654 : Diload code 654 3 655 := Or.inl ⟨3, by decide +kernel, rfl, rfl⟩
theorem dL_law_655 : Dconst code 655 1 656 := Or.inl ⟨1, by decide +kernel, rfl, rfl⟩
theorem dL_law_656 : D1 code 656 (.iadd) 657 := ⟨by decide +kernel, rfl⟩
theorem dL_law_657 : D1 code 657 (.iaload) 658 := ⟨by decide +kernel, rfl⟩
theorem dL_law_658 : D3 code 658 (.invokevirtual 75) 661 := ⟨by decide +kernel, rfl⟩
theorem dL_law_661 : Dj code 661 (.if_icmp .eq 421) 421 664 1082 := ⟨by decide +kernel, rfl, by decide⟩
theorem dL_law_664 : Dconst code 664 0 665 := Or.inl ⟨0, by decide +kernel, rfl, rfl⟩
theorem dL_law_665 : D1 code 665 (.ireturn) 666 := ⟨by decide +kernel, rfl⟩
theorem dL_law_666 : Daload code 666 1 667 := Or.inl ⟨1, by decide +kernel, rfl, rfl⟩
theorem dL_law_667 : Daload code 667 0 668 := Or.inl ⟨0, by decide +kernel, rfl, rfl⟩
theorem dL_law_668 : Diload code 668 3 669 := Or.inl ⟨3, by decide +kernel, rfl, rfl⟩
theorem dL_law_669 : Dconst code 669 1 670 := Or.inl ⟨1, by decide +kernel, rfl, rfl⟩
theorem dL_law_670 : D1 code 670 (.iadd) 671 := ⟨by decide +kernel, rfl⟩
theorem dL_law_671 : D1 code 671 (.iaload) 672 := ⟨by decide +kernel, rfl⟩
theorem dL_law_672 : Daload code 672 0 673 := Or.inl ⟨0, by decide +kernel, rfl, rfl⟩
theorem dL_law_673 : Diload code 673 3 674 := Or.inl ⟨3, by decide +kernel, rfl, rfl⟩
theorem dL_law_674 : Dconst code 674 2 675 := Or.inl ⟨2, by decide +kernel, rfl, rfl⟩
theorem dL_law_675 : D1 code 675 (.iadd) 676 := ⟨by decide +kernel, rfl⟩
theorem dL_law_676 : D1 code 676 (.iaload) 677 := ⟨by decide +kernel, rfl⟩
theorem dL_law_677 : Daload code 677 0 678 := Or.inl ⟨0, by decide +kernel, rfl, rfl⟩
theorem dL_law_678 : Diload code 678 3 679 := Or.inl ⟨3, by decide +kernel, rfl, rfl⟩
theorem dL_law_679 : Dconst code 679 3 680 := Or.inl ⟨3, by decide +kernel, rfl, rfl⟩
theorem dL_law_680 : D1 code 680 (.iadd) 681 := ⟨by decide +kernel, rfl⟩
theorem dL_law_681 : D1 code 681 (.iaload) 682 := ⟨by decide +kernel, rfl⟩
theorem dL_law_682 : Daload code 682 0 683 := Or.inl ⟨0, by decide +kernel, rfl, rfl⟩
theorem dL_law_683 : Diload code 683 3 684 := Or.inl ⟨3, by decide +kernel, rfl, rfl⟩
theorem dL_law_684 : Dconst code 684 4 685 := Or.inl ⟨4, by decide +kernel, rfl, rfl⟩
theorem dL_law_685 : D1 code 685 (.iadd) 686 := ⟨by decide +kernel, rfl⟩
theorem dL_law_686 : D1 code 686 (.iaload) 687 := ⟨by decide +kernel, rfl⟩
theorem dL_law_687 : Daload code 687 0 688 := Or.inl ⟨0, by decide +kernel, rfl, rfl⟩
theorem dL_law_688 : Diload code 688 3 689 := Or.inl ⟨3, by decide +kernel, rfl, rfl⟩
theorem dL_law_689 : Dconst code 689 5 690 := Or.inl ⟨5, by decide +kernel, rfl, rfl⟩
theorem dL_law_690 : D1 code 690 (.iadd) 691 := ⟨by decide +kernel, rfl⟩
theorem dL_law_691 : D1 code 691 (.iaload) 692 := ⟨by decide +kernel, rfl⟩
theorem dL_law_692 : D3 code 692 (.invokevirtual 76) 695 := ⟨by decide +kernel, rfl⟩
theorem dL_law_695 : Daload code 695 2 696 := Or.inl ⟨2, by decide +kernel, rfl, rfl⟩
theorem dL_law_696 : Daload code 696 0 697 := Or.inl ⟨0, by decide +kernel, rfl, rfl⟩
theorem dL_law_697 : Diload code 697 3 698 := Or.inl ⟨3, by decide +kernel, rfl, rfl⟩
theorem dL_law_698 : Dconst code 698 1 699 := Or.inl ⟨1, by decide +kernel, rfl, rfl⟩
theorem dL_law_699 : D1 code 699 (.iadd) 700 := ⟨by decide +kernel, rfl⟩
theorem dL_law_700 : D1 code 700 (.iaload) 701 := ⟨by decide +kernel, rfl⟩
theorem dL_law_701 : Daload code 701 0 702 := Or.inl ⟨0, by decide +kernel, rfl, rfl⟩
theorem dL_law_702 : Diload code 702 3 703 := Or.inl ⟨3, by decide +kernel, rfl, rfl⟩
theorem dL_law_703 : Dconst code 703 2 704 := Or.inl ⟨2, by decide +kernel, rfl, rfl⟩
theorem dL_law_704 : D1 code 704 (.iadd) 705 := ⟨by decide +kernel, rfl⟩
theorem dL_law_705 : D1 code 705 (.iaload) 706 := ⟨by decide +kernel, rfl⟩
theorem dL_law_706 : Daload code 706 0 707 := Or.inl ⟨0, by decide +kernel, rfl, rfl⟩
theorem dL_law_707 : Diload code 707 3 708 := Or.inl ⟨3, by decide +kernel, rfl, rfl⟩
theorem dL_law_708 : Dconst code 708 3 709 := Or.inl ⟨3, by decide +kernel, rfl, rfl⟩
theorem dL_law_709 : D1 code 709 (.iadd) 710 := ⟨by decide +kernel, rfl⟩
theorem dL_law_710 : D1 code 710 (.iaload) 711 := ⟨by decide +kernel, rfl⟩
theorem dL_law_711 : Daload code 711 0 712 := Or.inl ⟨0, by decide +kernel, rfl, rfl⟩
theorem dL_law_712 : Diload code 712 3 713 := Or.inl ⟨3, by decide +kernel, rfl, rfl⟩
theorem dL_law_713 : Dconst code 713 4 714 := Or.inl ⟨4, by decide +kernel, rfl, rfl⟩
theorem dL_law_714 : D1 code 714 (.iadd) 715 := ⟨by decide +kernel, rfl⟩
theorem dL_law_715 : D1 code 715 (.iaload) 716 := ⟨by decide +kernel, rfl⟩
theorem dL_law_716 : Daload code 716 0 717 := Or.inl ⟨0, by decide +kernel, rfl, rfl⟩
theorem dL_law_717 : Diload code 717 3 718 := Or.inl ⟨3, by decide +kernel, rfl, rfl⟩
theorem dL_law_718 : Dconst code 718 5 719 := Or.inl ⟨5, by decide +kernel, rfl, rfl⟩
theorem dL_law_719 : D1 code 719 (.iadd) 720 := ⟨by decide +kernel, rfl⟩
theorem dL_law_720 : D1 code 720 (.iaload) 721 := ⟨by decide +kernel, rfl⟩
theorem dL_law_721 : D3 code 721 (.invokevirtual 80) 724 := ⟨by decide +kernel, rfl⟩
theorem dL_law_724 : Dj code 724 (.if_icmp .eq 358) 358 727 1082 := ⟨by decide +kernel, rfl, by decide⟩
theorem dL_law_727 : Dconst code 727 0 728 := Or.inl ⟨0, by decide +kernel, rfl, rfl⟩
theorem dL_law_728 : D1 code 728 (.ireturn) 729 := ⟨by decide +kernel, rfl⟩
theorem dL_law_729 : Daload code 729 1 730 := Or.inl ⟨1, by decide +kernel, rfl, rfl⟩
theorem dL_law_730 : Daload code 730 0 731 := Or.inl ⟨0, by decide +kernel, rfl, rfl⟩
theorem dL_law_731 : Diload code 731 3 732 := Or.inl ⟨3, by decide +kernel, rfl, rfl⟩
theorem dL_law_732 : Dconst code 732 1 733 := Or.inl ⟨1, by decide +kernel, rfl, rfl⟩
theorem dL_law_733 : D1 code 733 (.iadd) 734 := ⟨by decide +kernel, rfl⟩
theorem dL_law_734 : D1 code 734 (.iaload) 735 := ⟨by decide +kernel, rfl⟩
theorem dL_law_735 : D3 code 735 (.invokevirtual 81) 738 := ⟨by decide +kernel, rfl⟩
theorem dL_law_738 : Daload code 738 2 739 := Or.inl ⟨2, by decide +kernel, rfl, rfl⟩
theorem dL_law_739 : Daload code 739 0 740 := Or.inl ⟨0, by decide +kernel, rfl, rfl⟩
theorem dL_law_740 : Diload code 740 3 741 := Or.inl ⟨3, by decide +kernel, rfl, rfl⟩
theorem dL_law_741 : Dconst code 741 1 742 := Or.inl ⟨1, by decide +kernel, rfl, rfl⟩
theorem dL_law_742 : D1 code 742 (.iadd) 743 := ⟨by decide +kernel, rfl⟩
theorem dL_law_743 : D1 code 743 (.iaload) 744 := ⟨by decide +kernel, rfl⟩
theorem dL_law_744 : D3 code 744 (.invokevirtual 85) 747 := ⟨by decide +kernel, rfl⟩
theorem dL_law_747 : Dj code 747 (.if_icmp .eq 335) 335 750 1082 := ⟨by decide +kernel, rfl, by decide⟩
theorem dL_law_750 : Dconst code 750 0 751 := Or.inl ⟨0, by decide +kernel, rfl, rfl⟩
theorem dL_law_751 : D1 code 751 (.ireturn) 752 := ⟨by decide +kernel, rfl⟩
theorem dL_law_752 : Daload code 752 1 753 := Or.inl ⟨1, by decide +kernel, rfl, rfl⟩
theorem dL_law_753 : D3 code 753 (.invokevirtual 86) 756 := ⟨by decide +kernel, rfl⟩
theorem dL_law_756 : Daload code 756 2 757 := Or.inl ⟨2, by decide +kernel, rfl, rfl⟩
theorem dL_law_757 : D3 code 757 (.invokevirtual 89) 760 := ⟨by decide +kernel, rfl⟩
theorem dL_law_760 : Dj code 760 (.if_icmp .eq 322) 322 763 1082 := ⟨by decide +kernel, rfl, by decide⟩
theorem dL_law_763 : Dconst code 763 0 764 := Or.inl ⟨0, by decide +kernel, rfl, rfl⟩
theorem dL_law_764 : D1 code 764 (.ireturn) 765 := ⟨by decide +kernel, rfl⟩
theorem dL_law_765 : Daload code 765 1 766 := Or.inl ⟨1, by decide +kernel, rfl, rfl⟩
theorem dL_law_766 : Daload code 766 0 767 := Or.inl ⟨0, by decide +kernel, rfl, rfl⟩
theorem dL_law_767 : Diload code 767 3 768 := Or.inl ⟨3, by decide +kernel, rfl, rfl⟩
theorem dL_law_768 : Dconst code 768 1 769 := Or.inl ⟨1, by decide +kernel, rfl, rfl⟩
theorem dL_law_769 : D1 code 769 (.iadd) 770 := ⟨by decide +kernel, rfl⟩
theorem dL_law_770 : D1 code 770 (.iaload) 771 := ⟨by decide +kernel, rfl⟩
theorem dL_law_771 : D3 code 771 (.invokevirtual 90) 774 := ⟨by decide +kernel, rfl⟩
theorem dL_law_774 : Daload code 774 2 775 := Or.inl ⟨2, by decide +kernel, rfl, rfl⟩
theorem dL_law_775 : Daload code 775 0 776 := Or.inl ⟨0, by decide +kernel, rfl, rfl⟩
theorem dL_law_776 : Diload code 776 3 777 := Or.inl ⟨3, by decide +kernel, rfl, rfl⟩
theorem dL_law_777 : Dconst code 777 1 778 := Or.inl ⟨1, by decide +kernel, rfl, rfl⟩
theorem dL_law_778 : D1 code 778 (.iadd) 779 := ⟨by decide +kernel, rfl⟩
theorem dL_law_779 : D1 code 779 (.iaload) 780 := ⟨by decide +kernel, rfl⟩
theorem dL_law_780 : D3 code 780 (.invokevirtual 93) 783 := ⟨by decide +kernel, rfl⟩
theorem dL_law_783 : Dj code 783 (.if_icmp .eq 299) 299 786 1082 := ⟨by decide +kernel, rfl, by decide⟩
theorem dL_law_786 : Dconst code 786 0 787 := Or.inl ⟨0, by decide +kernel, rfl, rfl⟩
theorem dL_law_787 : D1 code 787 (.ireturn) 788 := ⟨by decide +kernel, rfl⟩
theorem dL_law_788 : Daload code 788 1 789 := Or.inl ⟨1, by decide +kernel, rfl, rfl⟩
theorem dL_law_789 : Daload code 789 0 790 := Or.inl ⟨0, by decide +kernel, rfl, rfl⟩
theorem dL_law_790 : Diload code 790 3 791 := Or.inl ⟨3, by decide +kernel, rfl, rfl⟩
theorem dL_law_791 : Dconst code 791 1 792 := Or.inl ⟨1, by decide +kernel, rfl, rfl⟩
theorem dL_law_792 : D1 code 792 (.iadd) 793 := ⟨by decide +kernel, rfl⟩
theorem dL_law_793 : D1 code 793 (.iaload) 794 := ⟨by decide +kernel, rfl⟩
theorem dL_law_794 : Daload code 794 0 795 := Or.inl ⟨0, by decide +kernel, rfl, rfl⟩
theorem dL_law_795 : Diload code 795 3 796 := Or.inl ⟨3, by decide +kernel, rfl, rfl⟩
theorem dL_law_796 : Dconst code 796 2 797 := Or.inl ⟨2, by decide +kernel, rfl, rfl⟩
theorem dL_law_797 : D1 code 797 (.iadd) 798 := ⟨by decide +kernel, rfl⟩
theorem dL_law_798 : D1 code 798 (.iaload) 799 := ⟨by decide +kernel, rfl⟩
theorem dL_law_799 : Daload code 799 0 800 := Or.inl ⟨0, by decide +kernel, rfl, rfl⟩
theorem dL_law_800 : Diload code 800 3 801 := Or.inl ⟨3, by decide +kernel, rfl, rfl⟩
theorem dL_law_801 : Dconst code 801 3 802 := Or.inl ⟨3, by decide +kernel, rfl, rfl⟩
theorem dL_law_802 : D1 code 802 (.iadd) 803 := ⟨by decide +kernel, rfl⟩
theorem dL_law_803 : D1 code 803 (.iaload) 804 := ⟨by decide +kernel, rfl⟩
theorem dL_law_804 : D1 code 804 (.i2l) 805 := ⟨by decide +kernel, rfl⟩
theorem dL_law_805 : Dconst code 805 32 807 := Or.inr (Or.inl ⟨32, by decide +kernel, rfl, rfl⟩)
theorem dL_law_807 : D1 code 807 (.lshl) 808 := ⟨by decide +kernel, rfl⟩
theorem dL_law_808 : Daload code 808 0 809 := Or.inl ⟨0, by decide +kernel, rfl, rfl⟩
theorem dL_law_809 : Diload code 809 3 810 := Or.inl ⟨3, by decide +kernel, rfl, rfl⟩
theorem dL_law_810 : Dconst code 810 4 811 := Or.inl ⟨4, by decide +kernel, rfl, rfl⟩
theorem dL_law_811 : D1 code 811 (.iadd) 812 := ⟨by decide +kernel, rfl⟩
theorem dL_law_812 : D1 code 812 (.iaload) 813 := ⟨by decide +kernel, rfl⟩
theorem dL_law_813 : D1 code 813 (.i2l) 814 := ⟨by decide +kernel, rfl⟩
theorem dL_law_814 : D3 code 814 (.ldc2_w 94) 817 := ⟨by decide +kernel, rfl⟩
theorem dL_law_817 : D1 code 817 (.land) 818 := ⟨by decide +kernel, rfl⟩
theorem dL_law_818 : D1 code 818 (.lor) 819 := ⟨by decide +kernel, rfl⟩
theorem dL_law_819 : D3 code 819 (.invokevirtual 96) 822 := ⟨by decide +kernel, rfl⟩
theorem dL_law_822 : Daload code 822 2 823 := Or.inl ⟨2, by decide +kernel, rfl, rfl⟩
theorem dL_law_823 : Daload code 823 0 824 := Or.inl ⟨0, by decide +kernel, rfl, rfl⟩
theorem dL_law_824 : Diload code 824 3 825 := Or.inl ⟨3, by decide +kernel, rfl, rfl⟩
theorem dL_law_825 : Dconst code 825 1 826 := Or.inl ⟨1, by decide +kernel, rfl, rfl⟩
theorem dL_law_826 : D1 code 826 (.iadd) 827 := ⟨by decide +kernel, rfl⟩
theorem dL_law_827 : D1 code 827 (.iaload) 828 := ⟨by decide +kernel, rfl⟩
theorem dL_law_828 : Daload code 828 0 829 := Or.inl ⟨0, by decide +kernel, rfl, rfl⟩
theorem dL_law_829 : Diload code 829 3 830 := Or.inl ⟨3, by decide +kernel, rfl, rfl⟩
theorem dL_law_830 : Dconst code 830 2 831 := Or.inl ⟨2, by decide +kernel, rfl, rfl⟩
theorem dL_law_831 : D1 code 831 (.iadd) 832 := ⟨by decide +kernel, rfl⟩
theorem dL_law_832 : D1 code 832 (.iaload) 833 := ⟨by decide +kernel, rfl⟩
theorem dL_law_833 : Daload code 833 0 834 := Or.inl ⟨0, by decide +kernel, rfl, rfl⟩
theorem dL_law_834 : Diload code 834 3 835 := Or.inl ⟨3, by decide +kernel, rfl, rfl⟩
theorem dL_law_835 : Dconst code 835 3 836 := Or.inl ⟨3, by decide +kernel, rfl, rfl⟩
theorem dL_law_836 : D1 code 836 (.iadd) 837 := ⟨by decide +kernel, rfl⟩
theorem dL_law_837 : D1 code 837 (.iaload) 838 := ⟨by decide +kernel, rfl⟩
theorem dL_law_838 : D1 code 838 (.i2l) 839 := ⟨by decide +kernel, rfl⟩
theorem dL_law_839 : Dconst code 839 32 841 := Or.inr (Or.inl ⟨32, by decide +kernel, rfl, rfl⟩)
theorem dL_law_841 : D1 code 841 (.lshl) 842 := ⟨by decide +kernel, rfl⟩
theorem dL_law_842 : Daload code 842 0 843 := Or.inl ⟨0, by decide +kernel, rfl, rfl⟩
theorem dL_law_843 : Diload code 843 3 844 := Or.inl ⟨3, by decide +kernel, rfl, rfl⟩
theorem dL_law_844 : Dconst code 844 4 845 := Or.inl ⟨4, by decide +kernel, rfl, rfl⟩
theorem dL_law_845 : D1 code 845 (.iadd) 846 := ⟨by decide +kernel, rfl⟩
theorem dL_law_846 : D1 code 846 (.iaload) 847 := ⟨by decide +kernel, rfl⟩
theorem dL_law_847 : D1 code 847 (.i2l) 848 := ⟨by decide +kernel, rfl⟩
theorem dL_law_848 : D3 code 848 (.ldc2_w 94) 851 := ⟨by decide +kernel, rfl⟩
theorem dL_law_851 : D1 code 851 (.land) 852 := ⟨by decide +kernel, rfl⟩
theorem dL_law_852 : D1 code 852 (.lor) 853 := ⟨by decide +kernel, rfl⟩
theorem dL_law_853 : D3 code 853 (.invokevirtual 100) 856 := ⟨by decide +kernel, rfl⟩
theorem dL_law_856 : Dj code 856 (.if_icmp .eq 226) 226 859 1082 := ⟨by decide +kernel, rfl, by decide⟩
theorem dL_law_859 : Dconst code 859 0 860 := Or.inl ⟨0, by decide +kernel, rfl, rfl⟩
theorem dL_law_860 : D1 code 860 (.ireturn) 861 := ⟨by decide +kernel, rfl⟩
theorem dL_law_861 : Daload code 861 1 862 := Or.inl ⟨1, by decide +kernel, rfl, rfl⟩
theorem dL_law_862 : Daload code 862 0 863 := Or.inl ⟨0, by decide +kernel, rfl, rfl⟩
theorem dL_law_863 : Diload code 863 3 864 := Or.inl ⟨3, by decide +kernel, rfl, rfl⟩
theorem dL_law_864 : Dconst code 864 1 865 := Or.inl ⟨1, by decide +kernel, rfl, rfl⟩
theorem dL_law_865 : D1 code 865 (.iadd) 866 := ⟨by decide +kernel, rfl⟩
theorem dL_law_866 : D1 code 866 (.iaload) 867 := ⟨by decide +kernel, rfl⟩
theorem dL_law_867 : D3 code 867 (.invokevirtual 101) 870 := ⟨by decide +kernel, rfl⟩
theorem dL_law_870 : Daload code 870 2 871 := Or.inl ⟨2, by decide +kernel, rfl, rfl⟩
theorem dL_law_871 : Daload code 871 0 872 := Or.inl ⟨0, by decide +kernel, rfl, rfl⟩
theorem dL_law_872 : Diload code 872 3 873 := Or.inl ⟨3, by decide +kernel, rfl, rfl⟩
theorem dL_law_873 : Dconst code 873 1 874 := Or.inl ⟨1, by decide +kernel, rfl, rfl⟩
theorem dL_law_874 : D1 code 874 (.iadd) 875 := ⟨by decide +kernel, rfl⟩
theorem dL_law_875 : D1 code 875 (.iaload) 876 := ⟨by decide +kernel, rfl⟩
theorem dL_law_876 : D3 code 876 (.invokevirtual 104) 879 := ⟨by decide +kernel, rfl⟩
theorem dL_law_879 : Dj code 879 (.if_icmp .eq 203) 203 882 1082 := ⟨by decide +kernel, rfl, by decide⟩
theorem dL_law_882 : Dconst code 882 0 883 := Or.inl ⟨0, by decide +kernel, rfl, rfl⟩
theorem dL_law_883 : D1 code 883 (.ireturn) 884 := ⟨by decide +kernel, rfl⟩
theorem dL_law_884 : Daload code 884 1 885 := Or.inl ⟨1, by decide +kernel, rfl, rfl⟩
theorem dL_law_885 : Daload code 885 0 886 := Or.inl ⟨0, by decide +kernel, rfl, rfl⟩
theorem dL_law_886 : Diload code 886 3 887 := Or.inl ⟨3, by decide +kernel, rfl, rfl⟩
theorem dL_law_887 : Dconst code 887 1 888 := Or.inl ⟨1, by decide +kernel, rfl, rfl⟩
theorem dL_law_888 : D1 code 888 (.iadd) 889 := ⟨by decide +kernel, rfl⟩
theorem dL_law_889 : D1 code 889 (.iaload) 890 := ⟨by decide +kernel, rfl⟩
theorem dL_law_890 : D3 code 890 (.invokevirtual 105) 893 := ⟨by decide +kernel, rfl⟩
theorem dL_law_893 : Daload code 893 2 894 := Or.inl ⟨2, by decide +kernel, rfl, rfl⟩
theorem dL_law_894 : Daload code 894 0 895 := Or.inl ⟨0, by decide +kernel, rfl, rfl⟩
theorem dL_law_895 : Diload code 895 3 896 := Or.inl ⟨3, by decide +kernel, rfl, rfl⟩
theorem dL_law_896 : Dconst code 896 1 897 := Or.inl ⟨1, by decide +kernel, rfl, rfl⟩
theorem dL_law_897 : D1 code 897 (.iadd) 898 := ⟨by decide +kernel, rfl⟩
theorem dL_law_898 : D1 code 898 (.iaload) 899 := ⟨by decide +kernel, rfl⟩
theorem dL_law_899 : D3 code 899 (.invokevirtual 108) 902 := ⟨by decide +kernel, rfl⟩
theorem dL_law_902 : Dj code 902 (.if_icmp .eq 180) 180 905 1082 := ⟨by decide +kernel, rfl, by decide⟩
theorem dL_law_905 : Dconst code 905 0 906 := Or.inl ⟨0, by decide +kernel, rfl, rfl⟩
theorem dL_law_906 : D1 code 906 (.ireturn) 907 := ⟨by decide +kernel, rfl⟩
theorem dL_law_907 : Daload code 907 1 908 := Or.inl ⟨1, by decide +kernel, rfl, rfl⟩
theorem dL_law_908 : Daload code 908 0 909 := Or.inl ⟨0, by decide +kernel, rfl, rfl⟩
theorem dL_law_909 : Diload code 909 3 910 := Or.inl ⟨3, by decide +kernel, rfl, rfl⟩
theorem dL_law_910 : Dconst code 910 1 911 := Or.inl ⟨1, by decide +kernel, rfl, rfl⟩
theorem dL_law_911 : D1 code 911 (.iadd) 912 := ⟨by decide +kernel, rfl⟩
theorem dL_law_912 : D1 code 912 (.iaload) 913 := ⟨by decide +kernel, rfl⟩
theorem dL_law_913 : D3 code 913 (.invokevirtual 109) 916 := ⟨by decide +kernel, rfl⟩
theorem dL_law_916 : Daload code 916 2 917 := Or.inl ⟨2, by decide +kernel, rfl, rfl⟩
theorem dL_law_917 : Daload code 917 0 918 := Or.inl ⟨0, by decide +kernel, rfl, rfl⟩
theorem dL_law_918 : Diload code 918 3 919 := Or.inl ⟨3, by decide +kernel, rfl, rfl⟩
theorem dL_law_919 : Dconst code 919 1 920 := Or.inl ⟨1, by decide +kernel, rfl, rfl⟩
theorem dL_law_920 : D1 code 920 (.iadd) 921 := ⟨by decide +kernel, rfl⟩
theorem dL_law_921 : D1 code 921 (.iaload) 922 := ⟨by decide +kernel, rfl⟩
theorem dL_law_922 : D3 code 922 (.invokevirtual 112) 925 := ⟨by decide +kernel, rfl⟩
theorem dL_law_925 : Dj code 925 (.if_icmp .eq 157) 157 928 1082 := ⟨by decide +kernel, rfl, by decide⟩
theorem dL_law_928 : Dconst code 928 0 929 := Or.inl ⟨0, by decide +kernel, rfl, rfl⟩
theorem dL_law_929 : D1 code 929 (.ireturn) 930 := ⟨by decide +kernel, rfl⟩
theorem dL_law_930 : Daload code 930 1 931 := Or.inl ⟨1, by decide +kernel, rfl, rfl⟩
theorem dL_law_931 : Daload code 931 0 932 := Or.inl ⟨0, by decide +kernel, rfl, rfl⟩
theorem dL_law_932 : Diload code 932 3 933 := Or.inl ⟨3, by decide +kernel, rfl, rfl⟩
theorem dL_law_933 : Dconst code 933 1 934 := Or.inl ⟨1, by decide +kernel, rfl, rfl⟩
theorem dL_law_934 : D1 code 934 (.iadd) 935 := ⟨by decide +kernel, rfl⟩
theorem dL_law_935 : D1 code 935 (.iaload) 936 := ⟨by decide +kernel, rfl⟩
theorem dL_law_936 : Daload code 936 0 937 := Or.inl ⟨0, by decide +kernel, rfl, rfl⟩
theorem dL_law_937 : Diload code 937 3 938 := Or.inl ⟨3, by decide +kernel, rfl, rfl⟩
theorem dL_law_938 : Dconst code 938 2 939 := Or.inl ⟨2, by decide +kernel, rfl, rfl⟩
theorem dL_law_939 : D1 code 939 (.iadd) 940 := ⟨by decide +kernel, rfl⟩
theorem dL_law_940 : D1 code 940 (.iaload) 941 := ⟨by decide +kernel, rfl⟩
theorem dL_law_941 : Daload code 941 0 942 := Or.inl ⟨0, by decide +kernel, rfl, rfl⟩
theorem dL_law_942 : Diload code 942 3 943 := Or.inl ⟨3, by decide +kernel, rfl, rfl⟩
theorem dL_law_943 : Dconst code 943 3 944 := Or.inl ⟨3, by decide +kernel, rfl, rfl⟩
theorem dL_law_944 : D1 code 944 (.iadd) 945 := ⟨by decide +kernel, rfl⟩
theorem dL_law_945 : D1 code 945 (.iaload) 946 := ⟨by decide +kernel, rfl⟩
theorem dL_law_946 : Daload code 946 0 947 := Or.inl ⟨0, by decide +kernel, rfl, rfl⟩
theorem dL_law_947 : Diload code 947 3 948 := Or.inl ⟨3, by decide +kernel, rfl, rfl⟩
theorem dL_law_948 : Dconst code 948 4 949 := Or.inl ⟨4, by decide +kernel, rfl, rfl⟩
theorem dL_law_949 : D1 code 949 (.iadd) 950 := ⟨by decide +kernel, rfl⟩
theorem dL_law_950 : D1 code 950 (.iaload) 951 := ⟨by decide +kernel, rfl⟩
theorem dL_law_951 : D3 code 951 (.invokevirtual 113) 954 := ⟨by decide +kernel, rfl⟩
theorem dL_law_954 : Daload code 954 2 955 := Or.inl ⟨2, by decide +kernel, rfl, rfl⟩
theorem dL_law_955 : Daload code 955 0 956 := Or.inl ⟨0, by decide +kernel, rfl, rfl⟩
theorem dL_law_956 : Diload code 956 3 957 := Or.inl ⟨3, by decide +kernel, rfl, rfl⟩
theorem dL_law_957 : Dconst code 957 1 958 := Or.inl ⟨1, by decide +kernel, rfl, rfl⟩
theorem dL_law_958 : D1 code 958 (.iadd) 959 := ⟨by decide +kernel, rfl⟩
theorem dL_law_959 : D1 code 959 (.iaload) 960 := ⟨by decide +kernel, rfl⟩
theorem dL_law_960 : Daload code 960 0 961 := Or.inl ⟨0, by decide +kernel, rfl, rfl⟩
theorem dL_law_961 : Diload code 961 3 962 := Or.inl ⟨3, by decide +kernel, rfl, rfl⟩
theorem dL_law_962 : Dconst code 962 2 963 := Or.inl ⟨2, by decide +kernel, rfl, rfl⟩
theorem dL_law_963 : D1 code 963 (.iadd) 964 := ⟨by decide +kernel, rfl⟩
theorem dL_law_964 : D1 code 964 (.iaload) 965 := ⟨by decide +kernel, rfl⟩
theorem dL_law_965 : Daload code 965 0 966 := Or.inl ⟨0, by decide +kernel, rfl, rfl⟩
theorem dL_law_966 : Diload code 966 3 967 := Or.inl ⟨3, by decide +kernel, rfl, rfl⟩
theorem dL_law_967 : Dconst code 967 3 968 := Or.inl ⟨3, by decide +kernel, rfl, rfl⟩
theorem dL_law_968 : D1 code 968 (.iadd) 969 := ⟨by decide +kernel, rfl⟩
theorem dL_law_969 : D1 code 969 (.iaload) 970 := ⟨by decide +kernel, rfl⟩
theorem dL_law_970 : Daload code 970 0 971 := Or.inl ⟨0, by decide +kernel, rfl, rfl⟩
theorem dL_law_971 : Diload code 971 3 972 := Or.inl ⟨3, by decide +kernel, rfl, rfl⟩
theorem dL_law_972 : Dconst code 972 4 973 := Or.inl ⟨4, by decide +kernel, rfl, rfl⟩
theorem dL_law_973 : D1 code 973 (.iadd) 974 := ⟨by decide +kernel, rfl⟩
theorem dL_law_974 : D1 code 974 (.iaload) 975 := ⟨by decide +kernel, rfl⟩
theorem dL_law_975 : D3 code 975 (.invokevirtual 117) 978 := ⟨by decide +kernel, rfl⟩
theorem dL_law_978 : Dj code 978 (.if_icmp .eq 104) 104 981 1082 := ⟨by decide +kernel, rfl, by decide⟩
theorem dL_law_981 : Dconst code 981 0 982 := Or.inl ⟨0, by decide +kernel, rfl, rfl⟩
theorem dL_law_982 : D1 code 982 (.ireturn) 983 := ⟨by decide +kernel, rfl⟩
theorem dL_law_983 : Daload code 983 1 984 := Or.inl ⟨1, by decide +kernel, rfl, rfl⟩
theorem dL_law_984 : Daload code 984 0 985 := Or.inl ⟨0, by decide +kernel, rfl, rfl⟩
theorem dL_law_985 : Diload code 985 3 986 := Or.inl ⟨3, by decide +kernel, rfl, rfl⟩
theorem dL_law_986 : Dconst code 986 1 987 := Or.inl ⟨1, by decide +kernel, rfl, rfl⟩
theorem dL_law_987 : D1 code 987 (.iadd) 988 := ⟨by decide +kernel, rfl⟩
theorem dL_law_988 : D1 code 988 (.iaload) 989 := ⟨by decide +kernel, rfl⟩
theorem dL_law_989 : Daload code 989 0 990 := Or.inl ⟨0, by decide +kernel, rfl, rfl⟩
theorem dL_law_990 : Diload code 990 3 991 := Or.inl ⟨3, by decide +kernel, rfl, rfl⟩
theorem dL_law_991 : Dconst code 991 2 992 := Or.inl ⟨2, by decide +kernel, rfl, rfl⟩
theorem dL_law_992 : D1 code 992 (.iadd) 993 := ⟨by decide +kernel, rfl⟩
theorem dL_law_993 : D1 code 993 (.iaload) 994 := ⟨by decide +kernel, rfl⟩
theorem dL_law_994 : D3 code 994 (.invokevirtual 118) 997 := ⟨by decide +kernel, rfl⟩
theorem dL_law_997 : Daload code 997 2 998 := Or.inl ⟨2, by decide +kernel, rfl, rfl⟩
theorem dL_law_998 : Daload code 998 0 999 := Or.inl ⟨0, by decide +kernel, rfl, rfl⟩
theorem dL_law_999 : Diload code 999 3 1000 := Or.inl ⟨3, by decide +kernel, rfl, rfl⟩
theorem dL_law_1000 : Dconst code 1000 1 1001 := Or.inl ⟨1, by decide +kernel, rfl, rfl⟩
theorem dL_law_1001 : D1 code 1001 (.iadd) 1002 := ⟨by decide +kernel, rfl⟩
theorem dL_law_1002 : D1 code 1002 (.iaload) 1003 := ⟨by decide +kernel, rfl⟩
theorem dL_law_1003 : Daload code 1003 0 1004 := Or.inl ⟨0, by decide +kernel, rfl, rfl⟩
theorem dL_law_1004 : Diload code 1004 3 1005 := Or.inl ⟨3, by decide +kernel, rfl, rfl⟩
theorem dL_law_1005 : Dconst code 1005 2 1006 := Or.inl ⟨2, by decide +kernel, rfl, rfl⟩
theorem dL_law_1006 : D1 code 1006 (.iadd) 1007 := ⟨by decide +kernel, rfl⟩
theorem dL_law_1007 : D1 code 1007 (.iaload) 1008 := ⟨by decide +kernel, rfl⟩
theorem dL_law_1008 : D3 code 1008 (.invokevirtual 121) 1011 := ⟨by decide +kernel, rfl⟩
theorem dL_law_1011 : Dj code 1011 (.if_icmp .eq 71) 71 1014 1082 := ⟨by decide +kernel, rfl, by decide⟩
theorem dL_law_1014 : Dconst code 1014 0 1015 := Or.inl ⟨0, by decide +kernel, rfl, rfl⟩
theorem dL_law_1015 : D1 code 1015 (.ireturn) 1016 := ⟨by decide +kernel, rfl⟩
theorem dL_law_1016 : Daload code 1016 1 1017 := Or.inl ⟨1, by decide +kernel, rfl, rfl⟩
theorem dL_law_1017 : Daload code 1017 0 1018 := Or.inl ⟨0, by decide +kernel, rfl, rfl⟩
theorem dL_law_1018 : Diload code 1018 3 1019 := Or.inl ⟨3, by decide +kernel, rfl, rfl⟩
theorem dL_law_1019 : Dconst code 1019 1 1020 := Or.inl ⟨1, by decide +kernel, rfl, rfl⟩
theorem dL_law_1020 : D1 code 1020 (.iadd) 1021 := ⟨by decide +kernel, rfl⟩
theorem dL_law_1021 : D1 code 1021 (.iaload) 1022 := ⟨by decide +kernel, rfl⟩
theorem dL_law_1022 : Daload code 1022 0 1023 := Or.inl ⟨0, by decide +kernel, rfl, rfl⟩
theorem dL_law_1023 : Diload code 1023 3 1024 := Or.inl ⟨3, by decide +kernel, rfl, rfl⟩
theorem dL_law_1024 : Dconst code 1024 2 1025 := Or.inl ⟨2, by decide +kernel, rfl, rfl⟩
theorem dL_law_1025 : D1 code 1025 (.iadd) 1026 := ⟨by decide +kernel, rfl⟩
theorem dL_law_1026 : D1 code 1026 (.iaload) 1027 := ⟨by decide +kernel, rfl⟩
theorem dL_law_1027 : Daload code 1027 0 1028 := Or.inl ⟨0, by decide +kernel, rfl, rfl⟩
theorem dL_law_1028 : Diload code 1028 3 1029 := Or.inl ⟨3, by decide +kernel, rfl, rfl⟩
theorem dL_law_1029 : Dconst code 1029 3 1030 := Or.inl ⟨3, by decide +kernel, rfl, rfl⟩
theorem dL_law_1030 : D1 code 1030 (.iadd) 1031 := ⟨by decide +kernel, rfl⟩
theorem dL_law_1031 : D1 code 1031 (.iaload) 1032 := ⟨by decide +kernel, rfl⟩
theorem dL_law_1032 : D3 code 1032 (.invokevirtual 122) 1035 := ⟨by decide +kernel, rfl⟩
theorem dL_law_1035 : Daload code 1035 2 1036 := Or.inl ⟨2, by decide +kernel, rfl, rfl⟩
theorem dL_law_1036 : Daload code 1036 0 1037 := Or.inl ⟨0, by decide +kernel, rfl, rfl⟩
theorem dL_law_1037 : Diload code 1037 3 1038 := Or.inl ⟨3, by decide +kernel, rfl, rfl⟩
theorem dL_law_1038 : Dconst code 1038 1 1039 := Or.inl ⟨1, by decide +kernel, rfl, rfl⟩
theorem dL_law_1039 : D1 code 1039 (.iadd) 1040 := ⟨by decide +kernel, rfl⟩
theorem dL_law_1040 : D1 code 1040 (.iaload) 1041 := ⟨by decide +kernel, rfl⟩
theorem dL_law_1041 : Daload code 1041 0 1042 := Or.inl ⟨0, by decide +kernel, rfl, rfl⟩
theorem dL_law_1042 : Diload code 1042 3 1043 := Or.inl ⟨3, by decide +kernel, rfl, rfl⟩
theorem dL_law_1043 : Dconst code 1043 2 1044 := Or.inl ⟨2, by decide +kernel, rfl, rfl⟩
theorem dL_law_1044 : D1 code 1044 (.iadd) 1045 := ⟨by decide +kernel, rfl⟩
theorem dL_law_1045 : D1 code 1045 (.iaload) 1046 := ⟨by decide +kernel, rfl⟩
theorem dL_law_1046 : Daload code 1046 0 1047 := Or.inl ⟨0, by decide +kernel, rfl, rfl⟩
theorem dL_law_1047 : Diload code 1047 3 1048 := Or.inl ⟨3, by decide +kernel, rfl, rfl⟩
theorem dL_law_1048 : Dconst code 1048 3 1049 := Or.inl ⟨3, by decide +kernel, rfl, rfl⟩
theorem dL_law_1049 : D1 code 1049 (.iadd) 1050 := ⟨by decide +kernel, rfl⟩
theorem dL_law_1050 : D1 code 1050 (.iaload) 1051 := ⟨by decide +kernel, rfl⟩
theorem dL_law_1051 : D3 code 1051 (.invokevirtual 125) 1054 := ⟨by decide +kernel, rfl⟩
theorem dL_law_1054 : Dj code 1054 (.if_icmp .eq 28) 28 1057 1082 := ⟨by decide +kernel, rfl, by decide⟩
theorem dL_law_1057 : Dconst code 1057 0 1058 := Or.inl ⟨0, by decide +kernel, rfl, rfl⟩
theorem dL_law_1058 : D1 code 1058 (.ireturn) 1059 := ⟨by decide +kernel, rfl⟩
theorem dL_law_1059 : Daload code 1059 1 1060 := Or.inl ⟨1, by decide +kernel, rfl, rfl⟩
theorem dL_law_1060 : Daload code 1060 0 1061 := Or.inl ⟨0, by decide +kernel, rfl, rfl⟩
theorem dL_law_1061 : Diload code 1061 3 1062 := Or.inl ⟨3, by decide +kernel, rfl, rfl⟩
theorem dL_law_1062 : Dconst code 1062 1 1063 := Or.inl ⟨1, by decide +kernel, rfl, rfl⟩
theorem dL_law_1063 : D1 code 1063 (.iadd) 1064 := ⟨by decide +kernel, rfl⟩
theorem dL_law_1064 : D1 code 1064 (.iaload) 1065 := ⟨by decide +kernel, rfl⟩
theorem dL_law_1065 : D3 code 1065 (.invokevirtual 126) 1068 := ⟨by decide +kernel, rfl⟩
theorem dL_law_1068 : Daload code 1068 2 1069 := Or.inl ⟨2, by decide +kernel, rfl, rfl⟩
theorem dL_law_1069 : Daload code 1069 0 1070 := Or.inl ⟨0, by decide +kernel, rfl, rfl⟩
theorem dL_law_1070 : Diload code 1070 3 1071 := Or.inl ⟨3, by decide +kernel, rfl, rfl⟩
theorem dL_law_1071 : Dconst code 1071 1 1072 := Or.inl ⟨1, by decide +kernel, rfl, rfl⟩
theorem dL_law_1072 : D1 code 1072 (.iadd) 1073 := ⟨by decide +kernel, rfl⟩
theorem dL_law_1073 : D1 code 1073 (.iaload) 1074 := ⟨by decide +kernel, rfl⟩
theorem dL_law_1074 : D3 code 1074 (.invokevirtual 129) 1077 := ⟨by decide +kernel, rfl⟩
theorem dL_law_1077 : Dj code 1077 (.if_icmp .eq 5) 5 1080 1082 := ⟨by decide +kernel, rfl, by decide⟩
theorem dL_law_1080 : Dconst code 1080 0 1081 := Or.inl ⟨0, by decide +kernel, rfl, rfl⟩
theorem dL_law_1081 : D1 code 1081 (.ireturn) 1082 := ⟨by decide +kernel, rfl⟩
theorem dL_law_1082 : Diinc code 1082 3 7 1085 := ⟨7, by decide +kernel, rfl, rfl⟩
theorem dL_law_1085 : Dj code 1085 (.goto (-1067)) (-1067) 1088 18 := ⟨by decide +kernel, rfl, by decide⟩
theorem dL_law_1088 : Dconst code 1088 1 1089 := Or.inl ⟨1, by decide +kernel, rfl, rfl⟩
theorem dL_law_1089 : D1 code 1089 (.ireturn) 1090 := ⟨by decide +kernel, rfl⟩
end
section
-- THE FRAME: a memory of fields and arrays as functions (Rep), a judgement over it alone (V), contracts (Sem)
abbrev TT : Type := Nat → Nat × Nat
abbrev MI : Type := Nat → Nat → Int32
abbrev MR : Type := Nat → Nat → Option Nat
abbrev PP : Type := Option Value → Nat → TT → MI → MR → MI → MR → Prop
def rty : Nat → FieldType := fun j => match j with
  | 0 => .object "FleetStores$Place"
  | 1 => .object "FleetStores$Kind"
  | 2 => .object "FleetStores$Store"
  | 3 => .object "FleetStores$Lot"
  | 4 => .object "FleetStores$Contract"
  | _ => .array .int
/-- what the tables say of an array of references of kind j -/
def rRA (U : State) (cA : ClassId) (j : Nat) : Prop := va_RA U cA (rty j) ∧ (j = 5 → ∃ (kA : Class) (comp : ClassId), U.vm.classes[cA]? = some kA ∧ kA.kind = .array comp (.array .int) ∧ U.vm.findClass (FieldType.array .int).toString = some comp)
theorem rRA.moved {u U : State} (hvm : u.vm.Alike U.vm) {cA : ClassId} {j : Nat} (h : rRA u cA j) : rRA U cA j := by
  refine ⟨h.1.moved hvm, fun hj => ?_⟩
  obtain ⟨kA, comp, h1, h2, h3⟩ := h.2 hj
  obtain ⟨k', hk', he⟩ := hvm.2.2 _ _ h1
  exact ⟨k', comp, hk', by rw [he]; exact h2, by rw [hvm.findClass]; exact h3⟩
/-- the fields of an object of class c, by its ints and its references -/
def fl (c : Nat) (iv : Nat → Int32) (rv : Nat → Option Nat) : List Value := (sh c).mapIdx fun k b => if b then va_rf (rv (100 * c + k)) else .int (iv (100 * c + k))
def CellOk (D : va_G) (U : State) (τ : Nat × Nat) (iv : Nat → Int32) (rv : Nat → Option Nat) (jv : Nat → Int32) (bv : Nat → Option Nat) (a : Nat) (H : Heap) : Prop :=
  (∀ c, τ.1 = c + 1 → c < 13 → va_at D classes (a, .inr (c, fl c iv rv)) H) ∧
  (τ.1 = 20 → ∃ cA : ClassId, (ArrOfT U cA .int ∧ va_RA U cA .int) ∧ H[a]? = some (vp_cell cA (τ.2, .inl jv))) ∧
  (∀ j, τ.1 = 21 + j → j < 6 → ∃ cA : ClassId, (ArrOfT U cA (rty j) ∧ rRA U cA j) ∧ H[a]? = some (vp_cell cA (τ.2, .inr (.inr (.inr (.inr bv))))))
def Rep (D : va_G) (A : Nat → Prop) (U : State) (z : Nat) (t : TT) (I : MI) (R : MR) (J : MI) (B : MR) (H : Heap) : Prop :=
  va_K D classes [] U ∧ H.size = z ∧ ∀ a, (t a).1 ≠ 0 → (A a ∧ a < z) ∧ CellOk D U (t a) (fun f => I f a) (fun f => R f a) (J a) (B a) a H
theorem CellOk.moved {D : va_G} {u U : State} (hvm : u.vm.Alike U.vm) {τ : Nat × Nat} {iv : Nat → Int32} {rv : Nat → Option Nat} {jv : Nat → Int32} {bv : Nat → Option Nat} {a : Nat} {H : Heap} (h : CellOk D u τ iv rv jv bv a H) : CellOk D U τ iv rv jv bv a H := by
  refine ⟨h.1, fun q => ?_, fun j q hj => ?_⟩
  · obtain ⟨cA, ⟨h1, h2⟩, h3⟩ := h.2.1 q
    exact ⟨cA, ⟨arrOfT_moved hvm h1, h2.moved hvm⟩, h3⟩
  · obtain ⟨cA, ⟨h1, h2⟩, h3⟩ := h.2.2 j q hj
    exact ⟨cA, ⟨arrOfT_moved hvm h1, h2.moved hvm⟩, h3⟩
theorem CellOk.kept {D : va_G} {U : State} {τ : Nat × Nat} {iv : Nat → Int32} {rv : Nat → Option Nat} {jv : Nat → Int32} {bv : Nat → Option Nat} {a : Nat} {H H1 : Heap} (h : CellOk D U τ iv rv jv bv a H) (hq : H1[a]? = H[a]?) : CellOk D U τ iv rv jv bv a H1 := by
  refine ⟨fun c q hc => (h.1 c q hc).kept hq, fun q => ?_, fun j q hj => ?_⟩
  · obtain ⟨cA, h1, h3⟩ := h.2.1 q
    exact ⟨cA, h1, hq.trans h3⟩
  · obtain ⟨cA, h1, h3⟩ := h.2.2 j q hj
    exact ⟨cA, h1, hq.trans h3⟩
theorem Rep.moved {D : va_G} {A : Nat → Prop} {u U : State} (hvm : u.vm.Alike U.vm) {z : Nat} {t : TT} {I : MI} {R : MR} {J : MI} {B : MR} {H : Heap} (h : Rep D A u z t I R J B H) : Rep D A U z t I R J B H :=
  ⟨va_K.moved hvm h.1, h.2.1, fun a ha => ⟨(h.2.2 a ha).1, (h.2.2 a ha).2.moved hvm⟩⟩
/-- one cell has changed -/
theorem Rep.put {D : va_G} {A : Nat → Prop} {U : State} {z : Nat} {t : TT} {I I' : MI} {R R' : MR} {J J' : MI} {B B' : MR} {H H1 : Heap} {a : Nat} (h : Rep D A U z t I R J B H) (hz : H1.size = H.size) (ho : ∀ q, q ≠ a → H1[q]? = H[q]?)
    (hI : ∀ f b, b ≠ a → I' f b = I f b) (hR : ∀ f b, b ≠ a → R' f b = R f b) (hJ : ∀ b, b ≠ a → J' b = J b) (hB : ∀ b, b ≠ a → B' b = B b) (hc : CellOk D U (t a) (fun f => I' f a) (fun f => R' f a) (J' a) (B' a) a H1) : Rep D A U z t I' R' J' B' H1 := by
  refine ⟨h.1, hz.trans h.2.1, fun b hb => ⟨(h.2.2 b hb).1, ?_⟩⟩
  by_cases e : b = a
  · subst e; exact hc
  · have h1 := (h.2.2 b hb).2.kept (ho b e)
    rw [show (fun f => I' f b) = (fun f => I f b) from funext fun f => hI f b e, show (fun f => R' f b) = (fun f => R f b) from funext fun f => hR f b e, hJ b e, hB b e]
    exact h1
/-- a cell has come -/
theorem Rep.push {D : va_G} {A : Nat → Prop} {U : State} {z : Nat} {t t' : TT} {I I' : MI} {R R' : MR} {J J' : MI} {B B' : MR} {H H1 : Heap} (h : Rep D A U z t I R J B H) (hA : A z) (hz : H1.size = z + 1) (ho : ∀ q, q < z → H1[q]? = H[q]?)
    (ht : ∀ b, b ≠ z → t' b = t b) (hI : ∀ f b, b ≠ z → I' f b = I f b) (hR : ∀ f b, b ≠ z → R' f b = R f b) (hJ : ∀ b, b ≠ z → J' b = J b) (hB : ∀ b, b ≠ z → B' b = B b) (hc : CellOk D U (t' z) (fun f => I' f z) (fun f => R' f z) (J' z) (B' z) z H1) : Rep D A U (z + 1) t' I' R' J' B' H1 := by
  refine ⟨h.1, hz, fun b hb => ?_⟩
  by_cases e : b = z
  · subst e; exact ⟨⟨hA, Nat.lt_succ_self _⟩, hc⟩
  · rw [ht b e] at hb ⊢
    obtain ⟨⟨h0, h00⟩, h1⟩ := h.2.2 b hb
    have h1 := h1.kept (ho b h00)
    rw [show (fun f => I' f b) = (fun f => I f b) from funext fun f => hI f b e, show (fun f => R' f b) = (fun f => R f b) from funext fun f => hR f b e, hJ b e, hB b e]
    exact ⟨⟨h0, Nat.lt_succ_of_lt h00⟩, h1⟩
-- locals by their places; none: nothing known
def lp (ls : Array Slot) (nL : Nat) (lv : List (Option Value)) : Prop := ls.size = nL ∧ lv_wf ls ∧ ∀ (i : Nat) (v : Value), lv[i]? = some (some v) → ls[i]? = some (.val v)
def lassoc (lv : List (Option Value)) : List (Nat × Value) := lv.zipIdx.filterMap fun q => q.1.map fun v => (q.2, v)
theorem lassoc_mem {lv : List (Option Value)} {i : Nat} {v : Value} : (i, v) ∈ lassoc lv ↔ lv[i]? = some (some v) := by
  unfold lassoc
  rw [List.mem_filterMap]
  constructor
  · rintro ⟨⟨o, j⟩, hm, he⟩
    have h1 := List.mk_mem_zipIdx_iff_getElem?.mp hm
    cases o with
    | none => simp at he
    | some w =>
      simp only [Option.map_some, Option.some.injEq, Prod.mk.injEq] at he
      obtain ⟨rfl, rfl⟩ := he
      exact h1
  · intro h
    exact ⟨(some v, i), List.mk_mem_zipIdx_iff_getElem?.mpr h, rfl⟩
theorem lp.has {ls : Array Slot} {nL : Nat} {lv : List (Option Value)} (h : lp ls nL lv) : lv_has ls nL (lassoc lv) := ⟨h.1, h.2.1, fun q hq => h.2.2 q.1 q.2 (lassoc_mem.mp hq)⟩
/-- no value of two slots -/
def noL (o : Option Value) : Prop := ∀ v, o = some v → v.category = 1
theorem noL_n : noL none := fun _ h => by cases h
theorem noL_i (x : Int32) : noL (some (.int x)) := fun _ h => by cases h; rfl
theorem noL_r (r : Option Nat) : noL (some (va_rf r)) := fun _ h => by cases h; cases r <;> rfl
theorem cat_rf (r : Option Nat) : (va_rf r).category = 1 := by cases r <;> rfl
theorem lp.set {ls ls' : Array Slot} {nL i : Nat} {v : Value} {lv : List (Option Value)} (h : lv_has ls' nL ((i, v) :: (lassoc lv).filter (fun q => !(q.1 == i) && !(q.1 + 1 == i && q.2.category == 2)))) (hp : ∀ j, j + 1 = i → noL (lv.getD j none)) (hi : i < lv.length) : lp ls' nL (lv.set i (some v)) := by
  refine ⟨h.1, h.2.1, fun j w hw => ?_⟩
  by_cases e : j = i
  · subst e
    rw [List.getElem?_set_self hi] at hw
    cases hw
    exact h.2.2 (j, v) List.mem_cons_self
  · rw [List.getElem?_set_ne (Ne.symm e)] at hw
    refine h.2.2 (j, w) (List.mem_cons_of_mem _ (List.mem_filter.mpr ⟨lassoc_mem.mpr hw, ?_⟩))
    have : ¬ (j + 1 = i ∧ w.category = 2) := fun ⟨q1, q2⟩ => by
      have h3 := hp j q1 w (by simp [List.getD, hw])
      omega
    by_cases e2 : j + 1 = i
    · have e3 : ¬ w.category = 2 := fun q => this ⟨e2, q⟩
      simp [e, e3]
    · simp [e, e2]
/-- the extra facts that no word of gtb says -/
def nests : List Cond := [.methodLinkNest "FleetStores$Store" 25 ⟨"FleetStores$Table", "<init>", "()V"⟩ "FleetStores", .methodLinkNest "FleetStores$Lots" 21 ⟨"FleetStores", "within", "(III)Z"⟩ "FleetStores", .methodLinkNest "FleetStores$Tape" 15 ⟨"FleetStores", "byteOf", "(II)I"⟩ "FleetStores", .methodLinkNest "FleetStores$Tape" 23 ⟨"FleetStores", "within", "(III)Z"⟩ "FleetStores", .methodLinkNest "FleetStores$Reader" 46 ⟨"FleetStores", "within", "(III)Z"⟩ "FleetStores"]
def Xt (U : State) : Prop := (∀ w ∈ nests, va_Nw w U) ∧ va_AO "FleetStores$Place" U ∧ va_AO "FleetStores$Kind" U ∧ va_AO "FleetStores$Store" U ∧ va_AO "FleetStores$Lot" U ∧ va_AO "FleetStores$Contract" U ∧ va_Nw (.arrayOver (.array .int)) U
def rmm (d mc ms : Nat) : Room := { frames := d, cells := mc, slots := ms, locals := 34 * d }
def wsm (μ : Meth) : List Cond := .code μ.1 μ.2.1 μ.2.2.1 μ.2.2.2 :: gtb
def Qcm (D : va_G) (A : Nat → Prop) (Φ : PP) : Array Value → State → Outcome → State → Prop := fun _ st o u => (∃ (r : Option Value) (z : Nat) (t : TT) (I : MI) (R : MR) (J : MI) (B : MR), o = .returned r ∧ Φ r z t I R J B ∧ Rep D A u z t I R J B u.heap) ∧ va_F A st u
/-- a contract: from every state that holds the memory, the method returns, and Φ holds of its answer and of the memory behind it -/
def Sem (l : Launch) (D : va_G) (A : Nat → Prop) (d mc ms : Nat) (μ : Meth) (av : List Value) (z : Nat) (t : TT) (I : MI) (R : MR) (J : MI) (B : MR) (Φ : PP) : Prop :=
  Met l μ.1 (wsm μ) (rmm d mc ms) (va_Pc av (fun U => Xt U ∧ Rep D A U z t I R J B U.heap)) (Qcm D A Φ) mc ms A
abbrev Kx : Type := (List Frame → Array Value → State → State → Prop) × (State → Array Value → Prop)
def Cx (μ : Meth) (p : Program) (s : State) (m : MethodId) (args : Array Value) (meth : Method) (c : Code) : Prop :=
  p.tables.exec = Jvm.exec ∧ c.code = μ.2.1 ∧ c.maxLocals = μ.2.2.1 ∧ meth.sig.returnType = μ.2.2.2 ∧ s.vm.findClass μ.1.cls = some m.cls ∧ (∀ w ∈ gtb, w.before args s = true) ∧ meth.locks = false ∧ meth.name = μ.1.name ∧ Xt s
/-- the machine, at pc with these locals and this stack over this memory, comes to its end -/
def V (l : Launch) (D : va_G) (A : Nat → Prop) (Rm : Room) (μ : Meth) (K : Kx) (k n z : Nat) (t : TT) (I : MI) (R : MR) (J : MI) (B : MR) (pc : Nat) (lv : List (Option Value)) (st : List Value) : Prop :=
  ∀ (p : Program) (e : Env) (s : State) (m : MethodId) (args : Array Value) (below : List Frame) (meth : Method) (c : Code), Cx μ p s m args meth c → K.2 s args → ∀ (H : Heap) (locs : List Loc) (ls : Array Slot), Rep D A s z t I R J B H → va_S A s.heap H locs → lp ls μ.2.2.1 lv → W p l e Rm s m args below meth c H locs k n (K.1 below args s) (F0 m pc ls st)
def KS (D : va_G) (A : Nat → Prop) (mc ms : Nat) (Φ : PP) : Kx := (fun below args s => MQ below (Qcm D A Φ) args s mc ms A, fun _ _ => True)
def entl (av : List Value) (nL : Nat) (lv : List (Option Value)) : Prop := (lg_sl av).length ≤ nL ∧ ∀ (i : Nat) (v : Value), lv[i]? = some (some v) → (i, v) ∈ lv_args 0 av
theorem Sem.of_V {l : Launch} {D : va_G} {A : Nat → Prop} {d mc ms : Nat} {μ : Meth} {av : List Value} {z : Nat} {t : TT} {I : MI} {R : MR} {J : MI} {B : MR} {Φ : PP} (lv : List (Option Value)) (hy : plainName μ.1.cls = true) (he : entl av μ.2.2.1 lv)
    (kk : V l D A (rmm d mc ms) μ (KS D A mc ms Φ) 0 0 z t I R J B 0 lv []) : Sem l D A d mc ms μ av z t I R J B Φ := by
  refine Met.ofW (cc := μ.2.1) (maxL := μ.2.2.1) (ret := μ.2.2.2) hy rfl ?_
  intro p e s m args below meth c s₁ Bd hml hv
  obtain ⟨rfl, hX, hR⟩ := hv
  have hts := atoms_spec (ws := wsm μ) Bd.pre
  have hown : s.vm.findClass μ.1.cls = some m.cls := findClass_of_methodNamed Bd.named
  have hl := lv_entry av (n := μ.2.2.1) he.1
  rw [lg_entry_eq]
  exact kk p e s m _ below meth c ⟨Bd.exec, Bd.bytes, hml, Bd.returns, hown, fun w hw => hts w (List.mem_cons_of_mem _ hw), Bd.notSynchronized, (name_of_methodNamed Bd.named Bd.method).1, hX⟩ trivial s.heap [] _ hR va_S.rf ⟨hl.1, hl.2.1, fun i v h => hl.2.2 (i, v) (he.2 i v h)⟩
end
section
-- ONE ROW AN INSTRUCTION, over V
def up2 {α : Type} (M : Nat → Nat → α) (f a : Nat) (v : α) : Nat → Nat → α := va_up M f (va_up (M f) a v)
theorem up2_self {α : Type} (M : Nat → Nat → α) (f a : Nat) (v : α) : up2 M f a v f = va_up (M f) a v := va_up_self _ _ _
theorem up2_ne {α : Type} (M : Nat → Nat → α) {f g : Nat} (a : Nat) (v : α) (h : g ≠ f) : up2 M f a v g = M g := va_up_ne _ _ h
theorem up2_off {α : Type} (M : Nat → Nat → α) (f g : Nat) {a b : Nat} (v : α) (h : b ≠ a) : up2 M f a v g b = M g b := by
  by_cases e : g = f
  · subst e; rw [up2_self, va_up_ne _ _ h]
  · rw [up2_ne _ _ _ e]
theorem up2_col {α : Type} (M : Nat → Nat → α) (f a : Nat) (v : α) : (fun g => up2 M f a v g a) = va_up (fun g => M g a) f v := by
  funext g
  by_cases e : g = f
  · subst e; rw [up2_self, va_up_self, va_up_self]
  · rw [up2_ne _ _ _ e, va_up_ne _ _ e]
theorem fl_get {c k : Nat} {iv : Nat → Int32} {rv : Nat → Option Nat} {b : Bool} (h : (sh c)[k]? = some b) : (fl c iv rv)[k]? = some (if b then va_rf (rv (100 * c + k)) else .int (iv (100 * c + k))) := by
  unfold fl; rw [List.getElem?_mapIdx, h]; rfl
theorem fl_len (c : Nat) (iv : Nat → Int32) (rv : Nat → Option Nat) : (fl c iv rv).length = (sh c).length := by unfold fl; rw [List.length_mapIdx]
theorem fl_setI {c k : Nat} {iv : Nat → Int32} {rv : Nat → Option Nat} (h : (sh c)[k]? = some false) (v : Int32) : (fl c iv rv).set k (.int v) = fl c (va_up iv (100 * c + k) v) rv := by
  apply List.ext_getElem?
  intro j
  by_cases e : k = j
  · subst e
    have hl : k < (fl c iv rv).length := by rw [fl_len]; exact (List.getElem?_eq_some_iff.mp h).1
    rw [List.getElem?_set_self hl, fl_get h]
    simp [va_up_self]
  · rw [List.getElem?_set_ne e]
    unfold fl
    rw [List.getElem?_mapIdx, List.getElem?_mapIdx]
    rw [va_up_ne _ _ (show 100 * c + j ≠ 100 * c + k by omega)]
theorem fl_setR {c k : Nat} {iv : Nat → Int32} {rv : Nat → Option Nat} (h : (sh c)[k]? = some true) (v : Option Nat) : (fl c iv rv).set k (va_rf v) = fl c iv (va_up rv (100 * c + k) v) := by
  apply List.ext_getElem?
  intro j
  by_cases e : k = j
  · subst e
    have hl : k < (fl c iv rv).length := by rw [fl_len]; exact (List.getElem?_eq_some_iff.mp h).1
    rw [List.getElem?_set_self hl, fl_get h]
    simp [va_up_self]
  · rw [List.getElem?_set_ne e]
    unfold fl
    rw [List.getElem?_mapIdx, List.getElem?_mapIdx]
    rw [va_up_ne _ _ (show 100 * c + j ≠ 100 * c + k by omega)]
def psh (r : Option Value) (st : List Value) : List Value := match r with
  | some v => v :: st
  | none => st
theorem psh_eq (r : Option Value) (st : List Value) : r.toList ++ st = psh r st := by cases r <;> rfl
theorem cat_le (v : Value) : v.category ≤ 2 := by cases v <;> simp [Value.category]
theorem cat_sum (st : List Value) : (st.map fun v => v.category).sum ≤ 2 * st.length := by
  induction st with
  | nil => simp
  | cons v st ih =>
    have h1 := cat_le v
    simp only [List.map_cons, List.sum_cons, List.length_cons]
    omega
section ROWS
variable {l : Launch} {D : va_G} {A : Nat → Prop} {Rm : Room} {μ : Meth} {K : Kx} {k n z : Nat} {t : TT} {I : MI} {R : MR} {J : MI} {B : MR} {pc pc' tgt : Nat} {lv : List (Option Value)} {st : List Value}
theorem V.widen {k' n' : Nat} (h1 : k ≤ k') (h2 : n ≤ n') (kk : V l D A Rm μ K k' n' z t I R J B pc lv st) : V l D A Rm μ K k n z t I R J B pc lv st := by
  intro p e s m args below meth c C X H locs ls hR hS hl
  exact W.widen h1 h2 (kk p e s m args below meth c C X H locs ls hR hS hl)

theorem V_iadd {x y : Int32} (d : D1 μ.2.1 pc .iadd pc')  (kk : V l D A Rm μ K k n z t I R J B pc' lv (.int (x + y) :: st)) : V l D A Rm μ K k n z t I R J B pc lv (.int y :: .int x :: st) := by
  intro p e s m args below meth c C X H locs ls hR hS hl
  obtain ⟨d1, rfl⟩ := d
  exact lv_iadd C.1 C.2.1 d1  (kk p e s m args below meth c C X H locs ls hR hS hl)
theorem V_isub {x y : Int32} (d : D1 μ.2.1 pc .isub pc')  (kk : V l D A Rm μ K k n z t I R J B pc' lv (.int (x - y) :: st)) : V l D A Rm μ K k n z t I R J B pc lv (.int y :: .int x :: st) := by
  intro p e s m args below meth c C X H locs ls hR hS hl
  obtain ⟨d1, rfl⟩ := d
  exact lv_isub C.1 C.2.1 d1  (kk p e s m args below meth c C X H locs ls hR hS hl)
theorem V_imul {x y : Int32} (d : D1 μ.2.1 pc .imul pc')  (kk : V l D A Rm μ K k n z t I R J B pc' lv (.int (x * y) :: st)) : V l D A Rm μ K k n z t I R J B pc lv (.int y :: .int x :: st) := by
  intro p e s m args below meth c C X H locs ls hR hS hl
  obtain ⟨d1, rfl⟩ := d
  exact lv_imul C.1 C.2.1 d1  (kk p e s m args below meth c C X H locs ls hR hS hl)
theorem V_iand {x y : Int32} (d : D1 μ.2.1 pc .iand pc')  (kk : V l D A Rm μ K k n z t I R J B pc' lv (.int (x &&& y) :: st)) : V l D A Rm μ K k n z t I R J B pc lv (.int y :: .int x :: st) := by
  intro p e s m args below meth c C X H locs ls hR hS hl
  obtain ⟨d1, rfl⟩ := d
  exact lv_iand C.1 C.2.1 d1  (kk p e s m args below meth c C X H locs ls hR hS hl)
theorem V_idiv {x y : Int32} (d : D1 μ.2.1 pc .idiv pc') (hne : ¬ y = 0) (kk : V l D A Rm μ K k n z t I R J B pc' lv (.int (x / y) :: st)) : V l D A Rm μ K k n z t I R J B pc lv (.int y :: .int x :: st) := by
  intro p e s m args below meth c C X H locs ls hR hS hl
  obtain ⟨d1, rfl⟩ := d
  exact lv_idiv C.1 C.2.1 d1 hne (kk p e s m args below meth c C X H locs ls hR hS hl)
theorem V_irem {x y : Int32} (d : D1 μ.2.1 pc .irem pc') (hne : ¬ y = 0) (kk : V l D A Rm μ K k n z t I R J B pc' lv (.int (x - x / y * y) :: st)) : V l D A Rm μ K k n z t I R J B pc lv (.int y :: .int x :: st) := by
  intro p e s m args below meth c C X H locs ls hR hS hl
  obtain ⟨d1, rfl⟩ := d
  exact lv_irem C.1 C.2.1 d1 hne (kk p e s m args below meth c C X H locs ls hR hS hl)
theorem V_ineg {x : Int32} (d : D1 μ.2.1 pc .ineg pc')  (kk : V l D A Rm μ K k n z t I R J B pc' lv (.int (-x) :: st)) : V l D A Rm μ K k n z t I R J B pc lv (.int x :: st) := by
  intro p e s m args below meth c C X H locs ls hR hS hl
  obtain ⟨d1, rfl⟩ := d
  exact lv_ineg C.1 C.2.1 d1  (kk p e s m args below meth c C X H locs ls hR hS hl)
theorem V_ishr {x y : Int32} (d : D1 μ.2.1 pc .ishr pc')  (kk : V l D A Rm μ K k n z t I R J B pc' lv (.int (x >>> (y &&& 31)) :: st)) : V l D A Rm μ K k n z t I R J B pc lv (.int y :: .int x :: st) := by
  intro p e s m args below meth c C X H locs ls hR hS hl
  obtain ⟨d1, rfl⟩ := d
  exact lv_ishr C.1 C.2.1 d1  (kk p e s m args below meth c C X H locs ls hR hS hl)
theorem V_iushr {x y : Int32} (d : D1 μ.2.1 pc .iushr pc')  (kk : V l D A Rm μ K k n z t I R J B pc' lv (.int ((x.toUInt32 >>> (y.toUInt32 &&& Int32.toUInt32 31)).toInt32) :: st)) : V l D A Rm μ K k n z t I R J B pc lv (.int y :: .int x :: st) := by
  intro p e s m args below meth c C X H locs ls hR hS hl
  obtain ⟨d1, rfl⟩ := d
  exact lv_iushr C.1 C.2.1 d1 rfl (kk p e s m args below meth c C X H locs ls hR hS hl)
theorem V_i2l {x : Int32} (d : D1 μ.2.1 pc .i2l pc')  (kk : V l D A Rm μ K k n z t I R J B pc' lv (.long x.toInt64 :: st)) : V l D A Rm μ K k n z t I R J B pc lv (.int x :: st) := by
  intro p e s m args below meth c C X H locs ls hR hS hl
  obtain ⟨d1, rfl⟩ := d
  exact lv_i2l C.1 C.2.1 d1 rfl (kk p e s m args below meth c C X H locs ls hR hS hl)
theorem V_l2i {x : Int64} (d : D1 μ.2.1 pc .l2i pc')  (kk : V l D A Rm μ K k n z t I R J B pc' lv (.int x.toInt32 :: st)) : V l D A Rm μ K k n z t I R J B pc lv (.long x :: st) := by
  intro p e s m args below meth c C X H locs ls hR hS hl
  obtain ⟨d1, rfl⟩ := d
  exact lv_l2i C.1 C.2.1 d1 rfl (kk p e s m args below meth c C X H locs ls hR hS hl)
theorem V_ladd {x y : Int64} (d : D1 μ.2.1 pc .ladd pc')  (kk : V l D A Rm μ K k n z t I R J B pc' lv (.long (x + y) :: st)) : V l D A Rm μ K k n z t I R J B pc lv (.long y :: .long x :: st) := by
  intro p e s m args below meth c C X H locs ls hR hS hl
  obtain ⟨d1, rfl⟩ := d
  exact lv_ladd C.1 C.2.1 d1  (kk p e s m args below meth c C X H locs ls hR hS hl)
theorem V_lmul {x y : Int64} (d : D1 μ.2.1 pc .lmul pc')  (kk : V l D A Rm μ K k n z t I R J B pc' lv (.long (x * y) :: st)) : V l D A Rm μ K k n z t I R J B pc lv (.long y :: .long x :: st) := by
  intro p e s m args below meth c C X H locs ls hR hS hl
  obtain ⟨d1, rfl⟩ := d
  exact lv_lmul C.1 C.2.1 d1  (kk p e s m args below meth c C X H locs ls hR hS hl)
theorem V_lrem {x y : Int64} (d : D1 μ.2.1 pc .lrem pc') (hne : ¬ y = 0) (kk : V l D A Rm μ K k n z t I R J B pc' lv (.long (x - x / y * y) :: st)) : V l D A Rm μ K k n z t I R J B pc lv (.long y :: .long x :: st) := by
  intro p e s m args below meth c C X H locs ls hR hS hl
  obtain ⟨d1, rfl⟩ := d
  exact lv_lrem C.1 C.2.1 d1 hne (kk p e s m args below meth c C X H locs ls hR hS hl)
theorem V_land {x y : Int64} (d : D1 μ.2.1 pc .land pc')  (kk : V l D A Rm μ K k n z t I R J B pc' lv (.long (x &&& y) :: st)) : V l D A Rm μ K k n z t I R J B pc lv (.long y :: .long x :: st) := by
  intro p e s m args below meth c C X H locs ls hR hS hl
  obtain ⟨d1, rfl⟩ := d
  exact lv_land C.1 C.2.1 d1  (kk p e s m args below meth c C X H locs ls hR hS hl)
theorem V_lor {x y : Int64} (d : D1 μ.2.1 pc .lor pc')  (kk : V l D A Rm μ K k n z t I R J B pc' lv (.long (x ||| y) :: st)) : V l D A Rm μ K k n z t I R J B pc lv (.long y :: .long x :: st) := by
  intro p e s m args below meth c C X H locs ls hR hS hl
  obtain ⟨d1, rfl⟩ := d
  exact lv_lor C.1 C.2.1 d1  (kk p e s m args below meth c C X H locs ls hR hS hl)
theorem V_lshl {x : Int64} {y : Int32} (d : D1 μ.2.1 pc .lshl pc')  (kk : V l D A Rm μ K k n z t I R J B pc' lv (.long (x <<< (y.toInt64 &&& 63)) :: st)) : V l D A Rm μ K k n z t I R J B pc lv (.int y :: .long x :: st) := by
  intro p e s m args below meth c C X H locs ls hR hS hl
  obtain ⟨d1, rfl⟩ := d
  exact lv_lshl C.1 C.2.1 d1 rfl (kk p e s m args below meth c C X H locs ls hR hS hl)
theorem V_lushr {x : Int64} {y : Int32} (d : D1 μ.2.1 pc .lushr pc')  (kk : V l D A Rm μ K k n z t I R J B pc' lv (.long ((x.toUInt64 >>> (y.toInt64.toUInt64 &&& Int64.toUInt64 63)).toInt64) :: st)) : V l D A Rm μ K k n z t I R J B pc lv (.int y :: .long x :: st) := by
  intro p e s m args below meth c C X H locs ls hR hS hl
  obtain ⟨d1, rfl⟩ := d
  exact lv_lushr C.1 C.2.1 d1 rfl (kk p e s m args below meth c C X H locs ls hR hS hl)
theorem V_dupi {x : Int32} (d : D1 μ.2.1 pc .dup pc')  (kk : V l D A Rm μ K k n z t I R J B pc' lv (.int x :: .int x :: st)) : V l D A Rm μ K k n z t I R J B pc lv (.int x :: st) := by
  intro p e s m args below meth c C X H locs ls hR hS hl
  obtain ⟨d1, rfl⟩ := d
  exact lv_dup C.1 C.2.1 d1 rfl (kk p e s m args below meth c C X H locs ls hR hS hl)
theorem V_dupr {x : Option Nat} (d : D1 μ.2.1 pc .dup pc')  (kk : V l D A Rm μ K k n z t I R J B pc' lv (va_rf x :: va_rf x :: st)) : V l D A Rm μ K k n z t I R J B pc lv (va_rf x :: st) := by
  intro p e s m args below meth c C X H locs ls hR hS hl
  obtain ⟨d1, rfl⟩ := d
  exact lv_dup C.1 C.2.1 d1 (cat_rf x) (kk p e s m args below meth c C X H locs ls hR hS hl)
theorem V_dup2ir {x : Int32} {r : Option Nat} (d : D1 μ.2.1 pc .dup2 pc')  (kk : V l D A Rm μ K k n z t I R J B pc' lv (.int x :: va_rf r :: .int x :: va_rf r :: st)) : V l D A Rm μ K k n z t I R J B pc lv (.int x :: va_rf r :: st) := by
  intro p e s m args below meth c C X H locs ls hR hS hl
  obtain ⟨d1, rfl⟩ := d
  exact lv_dup2_11 C.1 C.2.1 d1 rfl (cat_rf r) (kk p e s m args below meth c C X H locs ls hR hS hl)
theorem V_popi {x : Int32} (d : D1 μ.2.1 pc .pop pc')  (kk : V l D A Rm μ K k n z t I R J B pc' lv (st)) : V l D A Rm μ K k n z t I R J B pc lv (.int x :: st) := by
  intro p e s m args below meth c C X H locs ls hR hS hl
  obtain ⟨d1, rfl⟩ := d
  exact lv_pop C.1 C.2.1 d1 rfl (kk p e s m args below meth c C X H locs ls hR hS hl)
theorem V_popr {x : Option Nat} (d : D1 μ.2.1 pc .pop pc')  (kk : V l D A Rm μ K k n z t I R J B pc' lv (st)) : V l D A Rm μ K k n z t I R J B pc lv (va_rf x :: st) := by
  intro p e s m args below meth c C X H locs ls hR hS hl
  obtain ⟨d1, rfl⟩ := d
  exact lv_pop C.1 C.2.1 d1 (cat_rf x) (kk p e s m args below meth c C X H locs ls hR hS hl)
theorem V_null  (d : D1 μ.2.1 pc .aconst_null pc')  (kk : V l D A Rm μ K k n z t I R J B pc' lv (va_rf none :: st)) : V l D A Rm μ K k n z t I R J B pc lv (st) := by
  intro p e s m args below meth c C X H locs ls hR hS hl
  obtain ⟨d1, rfl⟩ := d
  exact lv_null C.1 C.2.1 d1  (kk p e s m args below meth c C X H locs ls hR hS hl)
theorem V_const {v : Int32} (d : Dconst μ.2.1 pc v pc') (kk : V l D A Rm μ K k n z t I R J B pc' lv (.int v :: st)) : V l D A Rm μ K k n z t I R J B pc lv st := by
  intro p e s m args below meth c C X H locs ls hR hS hl
  rcases d with ⟨q, d1, hv, rfl⟩ | ⟨q, d1, hv, rfl⟩ | ⟨q, d1, hv, rfl⟩
  · exact lv_iconst C.1 C.2.1 d1 hv (kk p e s m args below meth c C X H locs ls hR hS hl)
  · exact lv_bipush C.1 C.2.1 d1 hv (kk p e s m args below meth c C X H locs ls hR hS hl)
  · exact lv_sipush C.1 C.2.1 d1 hv (kk p e s m args below meth c C X H locs ls hR hS hl)
theorem V_iload {i : Nat} {x : Int32} (d : Diload μ.2.1 pc i pc') (h : lv[i]? = some (some (.int x))) (kk : V l D A Rm μ K k n z t I R J B pc' lv (.int x :: st)) : V l D A Rm μ K k n z t I R J B pc lv st := by
  intro p e s m args below meth c C X H locs ls hR hS hl
  rcases d with ⟨q, d1, hv, rfl⟩ | ⟨d1, rfl⟩
  · exact lv_iload_n C.1 C.2.1 d1 hv (hl.2.2 _ _ h) (kk p e s m args below meth c C X H locs ls hR hS hl)
  · exact lv_iload C.1 C.2.1 d1 (hl.2.2 _ _ h) (kk p e s m args below meth c C X H locs ls hR hS hl)
theorem V_lload {i : Nat} {x : Int64} (d : Dlload μ.2.1 pc i pc') (h : lv[i]? = some (some (.long x))) (kk : V l D A Rm μ K k n z t I R J B pc' lv (.long x :: st)) : V l D A Rm μ K k n z t I R J B pc lv st := by
  intro p e s m args below meth c C X H locs ls hR hS hl
  rcases d with ⟨q, d1, hv, rfl⟩ | ⟨d1, rfl⟩
  · exact lv_lload_n C.1 C.2.1 d1 hv (hl.2.2 _ _ h) (kk p e s m args below meth c C X H locs ls hR hS hl)
  · exact lv_lload C.1 C.2.1 d1 (hl.2.2 _ _ h) (kk p e s m args below meth c C X H locs ls hR hS hl)
theorem V_aload {i : Nat} {r : Option Nat} (d : Daload μ.2.1 pc i pc') (h : lv[i]? = some (some (va_rf r))) (kk : V l D A Rm μ K k n z t I R J B pc' lv (va_rf r :: st)) : V l D A Rm μ K k n z t I R J B pc lv st := by
  intro p e s m args below meth c C X H locs ls hR hS hl
  rcases d with ⟨q, d1, hv, rfl⟩ | ⟨d1, rfl⟩ <;> cases r
  · exact lv_aload_nN C.1 C.2.1 d1 hv (hl.2.2 _ _ h) (kk p e s m args below meth c C X H locs ls hR hS hl)
  · exact lv_aload_n C.1 C.2.1 d1 hv (hl.2.2 _ _ h) (kk p e s m args below meth c C X H locs ls hR hS hl)
  · exact lv_aloadN C.1 C.2.1 d1 (hl.2.2 _ _ h) (kk p e s m args below meth c C X H locs ls hR hS hl)
  · exact lv_aload C.1 C.2.1 d1 (hl.2.2 _ _ h) (kk p e s m args below meth c C X H locs ls hR hS hl)
theorem V_istore {i : Nat} {x : Int32} (d : Distore μ.2.1 pc i pc') (hi : i < lv.length) (hn : i < μ.2.2.1) (hp : ∀ j, j + 1 = i → noL (lv.getD j none)) (kk : V l D A Rm μ K k n z t I R J B pc' (lv.set i (some (.int x))) st) : V l D A Rm μ K k n z t I R J B pc lv (.int x :: st) := by
  intro p e s m args below meth c C X H locs ls hR hS hl
  rcases d with ⟨q, d1, hv, rfl⟩ | ⟨d1, rfl⟩
  · exact lv_istore_n C.1 C.2.1 d1 hv hl.has hn rfl (fun ls' h' => kk p e s m args below meth c C X H locs ls' hR hS (lp.set (ls := ls) h' hp hi))
  · exact lv_istore C.1 C.2.1 d1 hl.has hn rfl (fun ls' h' => kk p e s m args below meth c C X H locs ls' hR hS (lp.set (ls := ls) h' hp hi))
theorem V_astore {i : Nat} {r : Option Nat} (d : Dastore μ.2.1 pc i pc') (hi : i < lv.length) (hn : i < μ.2.2.1) (hp : ∀ j, j + 1 = i → noL (lv.getD j none)) (kk : V l D A Rm μ K k n z t I R J B pc' (lv.set i (some (va_rf r))) st) : V l D A Rm μ K k n z t I R J B pc lv (va_rf r :: st) := by
  intro p e s m args below meth c C X H locs ls hR hS hl
  rcases d with ⟨q, d1, hv, rfl⟩ | ⟨d1, rfl⟩ <;> cases r
  · exact lv_astore_nN C.1 C.2.1 d1 hv hl.has hn rfl (fun ls' h' => kk p e s m args below meth c C X H locs ls' hR hS (lp.set (ls := ls) h' hp hi))
  · exact lv_astore_n C.1 C.2.1 d1 hv hl.has hn rfl (fun ls' h' => kk p e s m args below meth c C X H locs ls' hR hS (lp.set (ls := ls) h' hp hi))
  · exact lv_astoreN C.1 C.2.1 d1 hl.has hn rfl (fun ls' h' => kk p e s m args below meth c C X H locs ls' hR hS (lp.set (ls := ls) h' hp hi))
  · exact lv_astore C.1 C.2.1 d1 hl.has hn rfl (fun ls' h' => kk p e s m args below meth c C X H locs ls' hR hS (lp.set (ls := ls) h' hp hi))
theorem V_iinc {i : Nat} {x v : Int32} (d : Diinc μ.2.1 pc i v pc') (h : lv[i]? = some (some (.int x))) (hn : i < μ.2.2.1) (hp : ∀ j, j + 1 = i → noL (lv.getD j none)) (kk : V l D A Rm μ K k n z t I R J B pc' (lv.set i (some (.int (x + v)))) st) : V l D A Rm μ K k n z t I R J B pc lv st := by
  intro p e s m args below meth c C X H locs ls hR hS hl
  obtain ⟨q, d1, rfl, rfl⟩ := d
  obtain ⟨j, hj⟩ := List.getElem?_of_mem (lassoc_mem.mpr h)
  exact lv_iinc C.1 C.2.1 d1 hl.has hj rfl hn rfl (fun ls' h' => kk p e s m args below meth c C X H locs ls' hR hS (lp.set (ls := ls) h' hp (List.getElem?_eq_some_iff.mp h).1))
theorem lp.pset {ls' : Array Slot} {nL i : Nat} {v : Value} {lv : List (Option Value)} (h : lv_has ls' nL ((i, v) :: (lassoc lv).filter (fun q => !(q.1 == i) && !(q.1 + 1 == i && q.2.category == 2)))) (hp : ∀ j, j + 1 = i → noL (lv.getD j none)) (hi : i < lv.length) : lp ls' nL (lv.set i (some v)) := lp.set (ls := ls') h hp hi
theorem V_is0 {x : Int32} {a0 : Option Value} {tl : List (Option Value)} (d : Distore μ.2.1 pc 0 pc') (hn : 0 < μ.2.2.1) (kk : V l D A Rm μ K k n z t I R J B pc' (some (.int x) :: tl) st) : V l D A Rm μ K k n z t I R J B pc (a0 :: tl) (.int x :: st) := V_istore d (by simp only [List.length_cons]; omega) hn (fun j hj => absurd hj (by omega)) kk
theorem V_as0 {r : Option Nat} {a0 : Option Value} {tl : List (Option Value)} (d : Dastore μ.2.1 pc 0 pc') (hn : 0 < μ.2.2.1) (kk : V l D A Rm μ K k n z t I R J B pc' (some (va_rf r) :: tl) st) : V l D A Rm μ K k n z t I R J B pc (a0 :: tl) (va_rf r :: st) := V_astore d (by simp only [List.length_cons]; omega) hn (fun j hj => absurd hj (by omega)) kk
theorem V_ii0 {x v : Int32} {tl : List (Option Value)} (d : Diinc μ.2.1 pc 0 v pc') (hn : 0 < μ.2.2.1) (kk : V l D A Rm μ K k n z t I R J B pc' (some (.int (x + v)) :: tl) st) : V l D A Rm μ K k n z t I R J B pc (some (.int x) :: tl) st := V_iinc d rfl hn (fun j hj => absurd hj (by omega)) kk
theorem V_is1 {x : Int32} {a0 a1 : Option Value} {tl : List (Option Value)} (d : Distore μ.2.1 pc 1 pc') (hn : 1 < μ.2.2.1) (hc : noL a0) (kk : V l D A Rm μ K k n z t I R J B pc' (a0 :: some (.int x) :: tl) st) : V l D A Rm μ K k n z t I R J B pc (a0 :: a1 :: tl) (.int x :: st) := V_istore d (by simp only [List.length_cons]; omega) hn (fun j hj => by cases (show j = 0 by omega); exact hc) kk
theorem V_as1 {r : Option Nat} {a0 a1 : Option Value} {tl : List (Option Value)} (d : Dastore μ.2.1 pc 1 pc') (hn : 1 < μ.2.2.1) (hc : noL a0) (kk : V l D A Rm μ K k n z t I R J B pc' (a0 :: some (va_rf r) :: tl) st) : V l D A Rm μ K k n z t I R J B pc (a0 :: a1 :: tl) (va_rf r :: st) := V_astore d (by simp only [List.length_cons]; omega) hn (fun j hj => by cases (show j = 0 by omega); exact hc) kk
theorem V_ii1 {x v : Int32} {a0 : Option Value} {tl : List (Option Value)} (d : Diinc μ.2.1 pc 1 v pc') (hn : 1 < μ.2.2.1) (hc : noL a0) (kk : V l D A Rm μ K k n z t I R J B pc' (a0 :: some (.int (x + v)) :: tl) st) : V l D A Rm μ K k n z t I R J B pc (a0 :: some (.int x) :: tl) st := V_iinc d rfl hn (fun j hj => by cases (show j = 0 by omega); exact hc) kk
theorem V_is2 {x : Int32} {a0 a1 a2 : Option Value} {tl : List (Option Value)} (d : Distore μ.2.1 pc 2 pc') (hn : 2 < μ.2.2.1) (hc : noL a1) (kk : V l D A Rm μ K k n z t I R J B pc' (a0 :: a1 :: some (.int x) :: tl) st) : V l D A Rm μ K k n z t I R J B pc (a0 :: a1 :: a2 :: tl) (.int x :: st) := V_istore d (by simp only [List.length_cons]; omega) hn (fun j hj => by cases (show j = 1 by omega); exact hc) kk
theorem V_as2 {r : Option Nat} {a0 a1 a2 : Option Value} {tl : List (Option Value)} (d : Dastore μ.2.1 pc 2 pc') (hn : 2 < μ.2.2.1) (hc : noL a1) (kk : V l D A Rm μ K k n z t I R J B pc' (a0 :: a1 :: some (va_rf r) :: tl) st) : V l D A Rm μ K k n z t I R J B pc (a0 :: a1 :: a2 :: tl) (va_rf r :: st) := V_astore d (by simp only [List.length_cons]; omega) hn (fun j hj => by cases (show j = 1 by omega); exact hc) kk
theorem V_ii2 {x v : Int32} {a0 a1 : Option Value} {tl : List (Option Value)} (d : Diinc μ.2.1 pc 2 v pc') (hn : 2 < μ.2.2.1) (hc : noL a1) (kk : V l D A Rm μ K k n z t I R J B pc' (a0 :: a1 :: some (.int (x + v)) :: tl) st) : V l D A Rm μ K k n z t I R J B pc (a0 :: a1 :: some (.int x) :: tl) st := V_iinc d rfl hn (fun j hj => by cases (show j = 1 by omega); exact hc) kk
theorem V_is3 {x : Int32} {a0 a1 a2 a3 : Option Value} {tl : List (Option Value)} (d : Distore μ.2.1 pc 3 pc') (hn : 3 < μ.2.2.1) (hc : noL a2) (kk : V l D A Rm μ K k n z t I R J B pc' (a0 :: a1 :: a2 :: some (.int x) :: tl) st) : V l D A Rm μ K k n z t I R J B pc (a0 :: a1 :: a2 :: a3 :: tl) (.int x :: st) := V_istore d (by simp only [List.length_cons]; omega) hn (fun j hj => by cases (show j = 2 by omega); exact hc) kk
theorem V_as3 {r : Option Nat} {a0 a1 a2 a3 : Option Value} {tl : List (Option Value)} (d : Dastore μ.2.1 pc 3 pc') (hn : 3 < μ.2.2.1) (hc : noL a2) (kk : V l D A Rm μ K k n z t I R J B pc' (a0 :: a1 :: a2 :: some (va_rf r) :: tl) st) : V l D A Rm μ K k n z t I R J B pc (a0 :: a1 :: a2 :: a3 :: tl) (va_rf r :: st) := V_astore d (by simp only [List.length_cons]; omega) hn (fun j hj => by cases (show j = 2 by omega); exact hc) kk
theorem V_ii3 {x v : Int32} {a0 a1 a2 : Option Value} {tl : List (Option Value)} (d : Diinc μ.2.1 pc 3 v pc') (hn : 3 < μ.2.2.1) (hc : noL a2) (kk : V l D A Rm μ K k n z t I R J B pc' (a0 :: a1 :: a2 :: some (.int (x + v)) :: tl) st) : V l D A Rm μ K k n z t I R J B pc (a0 :: a1 :: a2 :: some (.int x) :: tl) st := V_iinc d rfl hn (fun j hj => by cases (show j = 2 by omega); exact hc) kk
theorem V_is4 {x : Int32} {a0 a1 a2 a3 a4 : Option Value} {tl : List (Option Value)} (d : Distore μ.2.1 pc 4 pc') (hn : 4 < μ.2.2.1) (hc : noL a3) (kk : V l D A Rm μ K k n z t I R J B pc' (a0 :: a1 :: a2 :: a3 :: some (.int x) :: tl) st) : V l D A Rm μ K k n z t I R J B pc (a0 :: a1 :: a2 :: a3 :: a4 :: tl) (.int x :: st) := V_istore d (by simp only [List.length_cons]; omega) hn (fun j hj => by cases (show j = 3 by omega); exact hc) kk
theorem V_as4 {r : Option Nat} {a0 a1 a2 a3 a4 : Option Value} {tl : List (Option Value)} (d : Dastore μ.2.1 pc 4 pc') (hn : 4 < μ.2.2.1) (hc : noL a3) (kk : V l D A Rm μ K k n z t I R J B pc' (a0 :: a1 :: a2 :: a3 :: some (va_rf r) :: tl) st) : V l D A Rm μ K k n z t I R J B pc (a0 :: a1 :: a2 :: a3 :: a4 :: tl) (va_rf r :: st) := V_astore d (by simp only [List.length_cons]; omega) hn (fun j hj => by cases (show j = 3 by omega); exact hc) kk
theorem V_ii4 {x v : Int32} {a0 a1 a2 a3 : Option Value} {tl : List (Option Value)} (d : Diinc μ.2.1 pc 4 v pc') (hn : 4 < μ.2.2.1) (hc : noL a3) (kk : V l D A Rm μ K k n z t I R J B pc' (a0 :: a1 :: a2 :: a3 :: some (.int (x + v)) :: tl) st) : V l D A Rm μ K k n z t I R J B pc (a0 :: a1 :: a2 :: a3 :: some (.int x) :: tl) st := V_iinc d rfl hn (fun j hj => by cases (show j = 3 by omega); exact hc) kk
theorem V_is5 {x : Int32} {a0 a1 a2 a3 a4 a5 : Option Value} {tl : List (Option Value)} (d : Distore μ.2.1 pc 5 pc') (hn : 5 < μ.2.2.1) (hc : noL a4) (kk : V l D A Rm μ K k n z t I R J B pc' (a0 :: a1 :: a2 :: a3 :: a4 :: some (.int x) :: tl) st) : V l D A Rm μ K k n z t I R J B pc (a0 :: a1 :: a2 :: a3 :: a4 :: a5 :: tl) (.int x :: st) := V_istore d (by simp only [List.length_cons]; omega) hn (fun j hj => by cases (show j = 4 by omega); exact hc) kk
theorem V_as5 {r : Option Nat} {a0 a1 a2 a3 a4 a5 : Option Value} {tl : List (Option Value)} (d : Dastore μ.2.1 pc 5 pc') (hn : 5 < μ.2.2.1) (hc : noL a4) (kk : V l D A Rm μ K k n z t I R J B pc' (a0 :: a1 :: a2 :: a3 :: a4 :: some (va_rf r) :: tl) st) : V l D A Rm μ K k n z t I R J B pc (a0 :: a1 :: a2 :: a3 :: a4 :: a5 :: tl) (va_rf r :: st) := V_astore d (by simp only [List.length_cons]; omega) hn (fun j hj => by cases (show j = 4 by omega); exact hc) kk
theorem V_ii5 {x v : Int32} {a0 a1 a2 a3 a4 : Option Value} {tl : List (Option Value)} (d : Diinc μ.2.1 pc 5 v pc') (hn : 5 < μ.2.2.1) (hc : noL a4) (kk : V l D A Rm μ K k n z t I R J B pc' (a0 :: a1 :: a2 :: a3 :: a4 :: some (.int (x + v)) :: tl) st) : V l D A Rm μ K k n z t I R J B pc (a0 :: a1 :: a2 :: a3 :: a4 :: some (.int x) :: tl) st := V_iinc d rfl hn (fun j hj => by cases (show j = 4 by omega); exact hc) kk
theorem V_is6 {x : Int32} {a0 a1 a2 a3 a4 a5 a6 : Option Value} {tl : List (Option Value)} (d : Distore μ.2.1 pc 6 pc') (hn : 6 < μ.2.2.1) (hc : noL a5) (kk : V l D A Rm μ K k n z t I R J B pc' (a0 :: a1 :: a2 :: a3 :: a4 :: a5 :: some (.int x) :: tl) st) : V l D A Rm μ K k n z t I R J B pc (a0 :: a1 :: a2 :: a3 :: a4 :: a5 :: a6 :: tl) (.int x :: st) := V_istore d (by simp only [List.length_cons]; omega) hn (fun j hj => by cases (show j = 5 by omega); exact hc) kk
theorem V_as6 {r : Option Nat} {a0 a1 a2 a3 a4 a5 a6 : Option Value} {tl : List (Option Value)} (d : Dastore μ.2.1 pc 6 pc') (hn : 6 < μ.2.2.1) (hc : noL a5) (kk : V l D A Rm μ K k n z t I R J B pc' (a0 :: a1 :: a2 :: a3 :: a4 :: a5 :: some (va_rf r) :: tl) st) : V l D A Rm μ K k n z t I R J B pc (a0 :: a1 :: a2 :: a3 :: a4 :: a5 :: a6 :: tl) (va_rf r :: st) := V_astore d (by simp only [List.length_cons]; omega) hn (fun j hj => by cases (show j = 5 by omega); exact hc) kk
theorem V_ii6 {x v : Int32} {a0 a1 a2 a3 a4 a5 : Option Value} {tl : List (Option Value)} (d : Diinc μ.2.1 pc 6 v pc') (hn : 6 < μ.2.2.1) (hc : noL a5) (kk : V l D A Rm μ K k n z t I R J B pc' (a0 :: a1 :: a2 :: a3 :: a4 :: a5 :: some (.int (x + v)) :: tl) st) : V l D A Rm μ K k n z t I R J B pc (a0 :: a1 :: a2 :: a3 :: a4 :: a5 :: some (.int x) :: tl) st := V_iinc d rfl hn (fun j hj => by cases (show j = 5 by omega); exact hc) kk
theorem V_is7 {x : Int32} {a0 a1 a2 a3 a4 a5 a6 a7 : Option Value} {tl : List (Option Value)} (d : Distore μ.2.1 pc 7 pc') (hn : 7 < μ.2.2.1) (hc : noL a6) (kk : V l D A Rm μ K k n z t I R J B pc' (a0 :: a1 :: a2 :: a3 :: a4 :: a5 :: a6 :: some (.int x) :: tl) st) : V l D A Rm μ K k n z t I R J B pc (a0 :: a1 :: a2 :: a3 :: a4 :: a5 :: a6 :: a7 :: tl) (.int x :: st) := V_istore d (by simp only [List.length_cons]; omega) hn (fun j hj => by cases (show j = 6 by omega); exact hc) kk
theorem V_as7 {r : Option Nat} {a0 a1 a2 a3 a4 a5 a6 a7 : Option Value} {tl : List (Option Value)} (d : Dastore μ.2.1 pc 7 pc') (hn : 7 < μ.2.2.1) (hc : noL a6) (kk : V l D A Rm μ K k n z t I R J B pc' (a0 :: a1 :: a2 :: a3 :: a4 :: a5 :: a6 :: some (va_rf r) :: tl) st) : V l D A Rm μ K k n z t I R J B pc (a0 :: a1 :: a2 :: a3 :: a4 :: a5 :: a6 :: a7 :: tl) (va_rf r :: st) := V_astore d (by simp only [List.length_cons]; omega) hn (fun j hj => by cases (show j = 6 by omega); exact hc) kk
theorem V_ii7 {x v : Int32} {a0 a1 a2 a3 a4 a5 a6 : Option Value} {tl : List (Option Value)} (d : Diinc μ.2.1 pc 7 v pc') (hn : 7 < μ.2.2.1) (hc : noL a6) (kk : V l D A Rm μ K k n z t I R J B pc' (a0 :: a1 :: a2 :: a3 :: a4 :: a5 :: a6 :: some (.int (x + v)) :: tl) st) : V l D A Rm μ K k n z t I R J B pc (a0 :: a1 :: a2 :: a3 :: a4 :: a5 :: a6 :: some (.int x) :: tl) st := V_iinc d rfl hn (fun j hj => by cases (show j = 6 by omega); exact hc) kk
theorem V_is8 {x : Int32} {a0 a1 a2 a3 a4 a5 a6 a7 a8 : Option Value} {tl : List (Option Value)} (d : Distore μ.2.1 pc 8 pc') (hn : 8 < μ.2.2.1) (hc : noL a7) (kk : V l D A Rm μ K k n z t I R J B pc' (a0 :: a1 :: a2 :: a3 :: a4 :: a5 :: a6 :: a7 :: some (.int x) :: tl) st) : V l D A Rm μ K k n z t I R J B pc (a0 :: a1 :: a2 :: a3 :: a4 :: a5 :: a6 :: a7 :: a8 :: tl) (.int x :: st) := V_istore d (by simp only [List.length_cons]; omega) hn (fun j hj => by cases (show j = 7 by omega); exact hc) kk
theorem V_as8 {r : Option Nat} {a0 a1 a2 a3 a4 a5 a6 a7 a8 : Option Value} {tl : List (Option Value)} (d : Dastore μ.2.1 pc 8 pc') (hn : 8 < μ.2.2.1) (hc : noL a7) (kk : V l D A Rm μ K k n z t I R J B pc' (a0 :: a1 :: a2 :: a3 :: a4 :: a5 :: a6 :: a7 :: some (va_rf r) :: tl) st) : V l D A Rm μ K k n z t I R J B pc (a0 :: a1 :: a2 :: a3 :: a4 :: a5 :: a6 :: a7 :: a8 :: tl) (va_rf r :: st) := V_astore d (by simp only [List.length_cons]; omega) hn (fun j hj => by cases (show j = 7 by omega); exact hc) kk
theorem V_ii8 {x v : Int32} {a0 a1 a2 a3 a4 a5 a6 a7 : Option Value} {tl : List (Option Value)} (d : Diinc μ.2.1 pc 8 v pc') (hn : 8 < μ.2.2.1) (hc : noL a7) (kk : V l D A Rm μ K k n z t I R J B pc' (a0 :: a1 :: a2 :: a3 :: a4 :: a5 :: a6 :: a7 :: some (.int (x + v)) :: tl) st) : V l D A Rm μ K k n z t I R J B pc (a0 :: a1 :: a2 :: a3 :: a4 :: a5 :: a6 :: a7 :: some (.int x) :: tl) st := V_iinc d rfl hn (fun j hj => by cases (show j = 7 by omega); exact hc) kk
theorem V_is9 {x : Int32} {a0 a1 a2 a3 a4 a5 a6 a7 a8 a9 : Option Value} {tl : List (Option Value)} (d : Distore μ.2.1 pc 9 pc') (hn : 9 < μ.2.2.1) (hc : noL a8) (kk : V l D A Rm μ K k n z t I R J B pc' (a0 :: a1 :: a2 :: a3 :: a4 :: a5 :: a6 :: a7 :: a8 :: some (.int x) :: tl) st) : V l D A Rm μ K k n z t I R J B pc (a0 :: a1 :: a2 :: a3 :: a4 :: a5 :: a6 :: a7 :: a8 :: a9 :: tl) (.int x :: st) := V_istore d (by simp only [List.length_cons]; omega) hn (fun j hj => by cases (show j = 8 by omega); exact hc) kk
theorem V_as9 {r : Option Nat} {a0 a1 a2 a3 a4 a5 a6 a7 a8 a9 : Option Value} {tl : List (Option Value)} (d : Dastore μ.2.1 pc 9 pc') (hn : 9 < μ.2.2.1) (hc : noL a8) (kk : V l D A Rm μ K k n z t I R J B pc' (a0 :: a1 :: a2 :: a3 :: a4 :: a5 :: a6 :: a7 :: a8 :: some (va_rf r) :: tl) st) : V l D A Rm μ K k n z t I R J B pc (a0 :: a1 :: a2 :: a3 :: a4 :: a5 :: a6 :: a7 :: a8 :: a9 :: tl) (va_rf r :: st) := V_astore d (by simp only [List.length_cons]; omega) hn (fun j hj => by cases (show j = 8 by omega); exact hc) kk
theorem V_ii9 {x v : Int32} {a0 a1 a2 a3 a4 a5 a6 a7 a8 : Option Value} {tl : List (Option Value)} (d : Diinc μ.2.1 pc 9 v pc') (hn : 9 < μ.2.2.1) (hc : noL a8) (kk : V l D A Rm μ K k n z t I R J B pc' (a0 :: a1 :: a2 :: a3 :: a4 :: a5 :: a6 :: a7 :: a8 :: some (.int (x + v)) :: tl) st) : V l D A Rm μ K k n z t I R J B pc (a0 :: a1 :: a2 :: a3 :: a4 :: a5 :: a6 :: a7 :: a8 :: some (.int x) :: tl) st := V_iinc d rfl hn (fun j hj => by cases (show j = 8 by omega); exact hc) kk
theorem V_is10 {x : Int32} {a0 a1 a2 a3 a4 a5 a6 a7 a8 a9 a10 : Option Value} {tl : List (Option Value)} (d : Distore μ.2.1 pc 10 pc') (hn : 10 < μ.2.2.1) (hc : noL a9) (kk : V l D A Rm μ K k n z t I R J B pc' (a0 :: a1 :: a2 :: a3 :: a4 :: a5 :: a6 :: a7 :: a8 :: a9 :: some (.int x) :: tl) st) : V l D A Rm μ K k n z t I R J B pc (a0 :: a1 :: a2 :: a3 :: a4 :: a5 :: a6 :: a7 :: a8 :: a9 :: a10 :: tl) (.int x :: st) := V_istore d (by simp only [List.length_cons]; omega) hn (fun j hj => by cases (show j = 9 by omega); exact hc) kk
theorem V_as10 {r : Option Nat} {a0 a1 a2 a3 a4 a5 a6 a7 a8 a9 a10 : Option Value} {tl : List (Option Value)} (d : Dastore μ.2.1 pc 10 pc') (hn : 10 < μ.2.2.1) (hc : noL a9) (kk : V l D A Rm μ K k n z t I R J B pc' (a0 :: a1 :: a2 :: a3 :: a4 :: a5 :: a6 :: a7 :: a8 :: a9 :: some (va_rf r) :: tl) st) : V l D A Rm μ K k n z t I R J B pc (a0 :: a1 :: a2 :: a3 :: a4 :: a5 :: a6 :: a7 :: a8 :: a9 :: a10 :: tl) (va_rf r :: st) := V_astore d (by simp only [List.length_cons]; omega) hn (fun j hj => by cases (show j = 9 by omega); exact hc) kk
theorem V_ii10 {x v : Int32} {a0 a1 a2 a3 a4 a5 a6 a7 a8 a9 : Option Value} {tl : List (Option Value)} (d : Diinc μ.2.1 pc 10 v pc') (hn : 10 < μ.2.2.1) (hc : noL a9) (kk : V l D A Rm μ K k n z t I R J B pc' (a0 :: a1 :: a2 :: a3 :: a4 :: a5 :: a6 :: a7 :: a8 :: a9 :: some (.int (x + v)) :: tl) st) : V l D A Rm μ K k n z t I R J B pc (a0 :: a1 :: a2 :: a3 :: a4 :: a5 :: a6 :: a7 :: a8 :: a9 :: some (.int x) :: tl) st := V_iinc d rfl hn (fun j hj => by cases (show j = 9 by omega); exact hc) kk
theorem V_is11 {x : Int32} {a0 a1 a2 a3 a4 a5 a6 a7 a8 a9 a10 a11 : Option Value} {tl : List (Option Value)} (d : Distore μ.2.1 pc 11 pc') (hn : 11 < μ.2.2.1) (hc : noL a10) (kk : V l D A Rm μ K k n z t I R J B pc' (a0 :: a1 :: a2 :: a3 :: a4 :: a5 :: a6 :: a7 :: a8 :: a9 :: a10 :: some (.int x) :: tl) st) : V l D A Rm μ K k n z t I R J B pc (a0 :: a1 :: a2 :: a3 :: a4 :: a5 :: a6 :: a7 :: a8 :: a9 :: a10 :: a11 :: tl) (.int x :: st) := V_istore d (by simp only [List.length_cons]; omega) hn (fun j hj => by cases (show j = 10 by omega); exact hc) kk
theorem V_as11 {r : Option Nat} {a0 a1 a2 a3 a4 a5 a6 a7 a8 a9 a10 a11 : Option Value} {tl : List (Option Value)} (d : Dastore μ.2.1 pc 11 pc') (hn : 11 < μ.2.2.1) (hc : noL a10) (kk : V l D A Rm μ K k n z t I R J B pc' (a0 :: a1 :: a2 :: a3 :: a4 :: a5 :: a6 :: a7 :: a8 :: a9 :: a10 :: some (va_rf r) :: tl) st) : V l D A Rm μ K k n z t I R J B pc (a0 :: a1 :: a2 :: a3 :: a4 :: a5 :: a6 :: a7 :: a8 :: a9 :: a10 :: a11 :: tl) (va_rf r :: st) := V_astore d (by simp only [List.length_cons]; omega) hn (fun j hj => by cases (show j = 10 by omega); exact hc) kk
theorem V_ii11 {x v : Int32} {a0 a1 a2 a3 a4 a5 a6 a7 a8 a9 a10 : Option Value} {tl : List (Option Value)} (d : Diinc μ.2.1 pc 11 v pc') (hn : 11 < μ.2.2.1) (hc : noL a10) (kk : V l D A Rm μ K k n z t I R J B pc' (a0 :: a1 :: a2 :: a3 :: a4 :: a5 :: a6 :: a7 :: a8 :: a9 :: a10 :: some (.int (x + v)) :: tl) st) : V l D A Rm μ K k n z t I R J B pc (a0 :: a1 :: a2 :: a3 :: a4 :: a5 :: a6 :: a7 :: a8 :: a9 :: a10 :: some (.int x) :: tl) st := V_iinc d rfl hn (fun j hj => by cases (show j = 10 by omega); exact hc) kk
theorem V_is12 {x : Int32} {a0 a1 a2 a3 a4 a5 a6 a7 a8 a9 a10 a11 a12 : Option Value} {tl : List (Option Value)} (d : Distore μ.2.1 pc 12 pc') (hn : 12 < μ.2.2.1) (hc : noL a11) (kk : V l D A Rm μ K k n z t I R J B pc' (a0 :: a1 :: a2 :: a3 :: a4 :: a5 :: a6 :: a7 :: a8 :: a9 :: a10 :: a11 :: some (.int x) :: tl) st) : V l D A Rm μ K k n z t I R J B pc (a0 :: a1 :: a2 :: a3 :: a4 :: a5 :: a6 :: a7 :: a8 :: a9 :: a10 :: a11 :: a12 :: tl) (.int x :: st) := V_istore d (by simp only [List.length_cons]; omega) hn (fun j hj => by cases (show j = 11 by omega); exact hc) kk
theorem V_as12 {r : Option Nat} {a0 a1 a2 a3 a4 a5 a6 a7 a8 a9 a10 a11 a12 : Option Value} {tl : List (Option Value)} (d : Dastore μ.2.1 pc 12 pc') (hn : 12 < μ.2.2.1) (hc : noL a11) (kk : V l D A Rm μ K k n z t I R J B pc' (a0 :: a1 :: a2 :: a3 :: a4 :: a5 :: a6 :: a7 :: a8 :: a9 :: a10 :: a11 :: some (va_rf r) :: tl) st) : V l D A Rm μ K k n z t I R J B pc (a0 :: a1 :: a2 :: a3 :: a4 :: a5 :: a6 :: a7 :: a8 :: a9 :: a10 :: a11 :: a12 :: tl) (va_rf r :: st) := V_astore d (by simp only [List.length_cons]; omega) hn (fun j hj => by cases (show j = 11 by omega); exact hc) kk
theorem V_ii12 {x v : Int32} {a0 a1 a2 a3 a4 a5 a6 a7 a8 a9 a10 a11 : Option Value} {tl : List (Option Value)} (d : Diinc μ.2.1 pc 12 v pc') (hn : 12 < μ.2.2.1) (hc : noL a11) (kk : V l D A Rm μ K k n z t I R J B pc' (a0 :: a1 :: a2 :: a3 :: a4 :: a5 :: a6 :: a7 :: a8 :: a9 :: a10 :: a11 :: some (.int (x + v)) :: tl) st) : V l D A Rm μ K k n z t I R J B pc (a0 :: a1 :: a2 :: a3 :: a4 :: a5 :: a6 :: a7 :: a8 :: a9 :: a10 :: a11 :: some (.int x) :: tl) st := V_iinc d rfl hn (fun j hj => by cases (show j = 11 by omega); exact hc) kk
theorem V_is13 {x : Int32} {a0 a1 a2 a3 a4 a5 a6 a7 a8 a9 a10 a11 a12 a13 : Option Value} {tl : List (Option Value)} (d : Distore μ.2.1 pc 13 pc') (hn : 13 < μ.2.2.1) (hc : noL a12) (kk : V l D A Rm μ K k n z t I R J B pc' (a0 :: a1 :: a2 :: a3 :: a4 :: a5 :: a6 :: a7 :: a8 :: a9 :: a10 :: a11 :: a12 :: some (.int x) :: tl) st) : V l D A Rm μ K k n z t I R J B pc (a0 :: a1 :: a2 :: a3 :: a4 :: a5 :: a6 :: a7 :: a8 :: a9 :: a10 :: a11 :: a12 :: a13 :: tl) (.int x :: st) := V_istore d (by simp only [List.length_cons]; omega) hn (fun j hj => by cases (show j = 12 by omega); exact hc) kk
theorem V_as13 {r : Option Nat} {a0 a1 a2 a3 a4 a5 a6 a7 a8 a9 a10 a11 a12 a13 : Option Value} {tl : List (Option Value)} (d : Dastore μ.2.1 pc 13 pc') (hn : 13 < μ.2.2.1) (hc : noL a12) (kk : V l D A Rm μ K k n z t I R J B pc' (a0 :: a1 :: a2 :: a3 :: a4 :: a5 :: a6 :: a7 :: a8 :: a9 :: a10 :: a11 :: a12 :: some (va_rf r) :: tl) st) : V l D A Rm μ K k n z t I R J B pc (a0 :: a1 :: a2 :: a3 :: a4 :: a5 :: a6 :: a7 :: a8 :: a9 :: a10 :: a11 :: a12 :: a13 :: tl) (va_rf r :: st) := V_astore d (by simp only [List.length_cons]; omega) hn (fun j hj => by cases (show j = 12 by omega); exact hc) kk
theorem V_ii13 {x v : Int32} {a0 a1 a2 a3 a4 a5 a6 a7 a8 a9 a10 a11 a12 : Option Value} {tl : List (Option Value)} (d : Diinc μ.2.1 pc 13 v pc') (hn : 13 < μ.2.2.1) (hc : noL a12) (kk : V l D A Rm μ K k n z t I R J B pc' (a0 :: a1 :: a2 :: a3 :: a4 :: a5 :: a6 :: a7 :: a8 :: a9 :: a10 :: a11 :: a12 :: some (.int (x + v)) :: tl) st) : V l D A Rm μ K k n z t I R J B pc (a0 :: a1 :: a2 :: a3 :: a4 :: a5 :: a6 :: a7 :: a8 :: a9 :: a10 :: a11 :: a12 :: some (.int x) :: tl) st := V_iinc d rfl hn (fun j hj => by cases (show j = 12 by omega); exact hc) kk
theorem V_if_eq {x : Int32} {off : Int} (d : Dj μ.2.1 pc (.ifCond .eq off) off pc' tgt) (kt : x = 0 → V l D A Rm μ K k n z t I R J B tgt lv st) (kf : ¬ x = 0 → V l D A Rm μ K k n z t I R J B pc' lv st) : V l D A Rm μ K k n z t I R J B pc lv (.int x :: st) := by
  intro p e s m args below meth c C X H locs ls hR hS hl
  obtain ⟨d1, rfl, d3⟩ := d
  exact lv_if_eq C.1 C.2.1 d1 d3 (fun q => kt q p e s m args below meth c C X H locs ls hR hS hl) (fun q => kf q p e s m args below meth c C X H locs ls hR hS hl)
theorem V_icmp_eq {x y : Int32} {off : Int} (d : Dj μ.2.1 pc (.if_icmp .eq off) off pc' tgt) (kt : x = y → V l D A Rm μ K k n z t I R J B tgt lv st) (kf : ¬ x = y → V l D A Rm μ K k n z t I R J B pc' lv st) : V l D A Rm μ K k n z t I R J B pc lv (.int y :: .int x :: st) := by
  intro p e s m args below meth c C X H locs ls hR hS hl
  obtain ⟨d1, rfl, d3⟩ := d
  exact lv_icmp_eq C.1 C.2.1 d1 d3 (fun q => kt q p e s m args below meth c C X H locs ls hR hS hl) (fun q => kf q p e s m args below meth c C X H locs ls hR hS hl)
theorem V_if_ne {x : Int32} {off : Int} (d : Dj μ.2.1 pc (.ifCond .ne off) off pc' tgt) (kt : ¬ x = 0 → V l D A Rm μ K k n z t I R J B tgt lv st) (kf : x = 0 → V l D A Rm μ K k n z t I R J B pc' lv st) : V l D A Rm μ K k n z t I R J B pc lv (.int x :: st) := by
  intro p e s m args below meth c C X H locs ls hR hS hl
  obtain ⟨d1, rfl, d3⟩ := d
  exact lv_if_ne C.1 C.2.1 d1 d3 (fun q => kt q p e s m args below meth c C X H locs ls hR hS hl) (fun q => kf q p e s m args below meth c C X H locs ls hR hS hl)
theorem V_icmp_ne {x y : Int32} {off : Int} (d : Dj μ.2.1 pc (.if_icmp .ne off) off pc' tgt) (kt : ¬ x = y → V l D A Rm μ K k n z t I R J B tgt lv st) (kf : x = y → V l D A Rm μ K k n z t I R J B pc' lv st) : V l D A Rm μ K k n z t I R J B pc lv (.int y :: .int x :: st) := by
  intro p e s m args below meth c C X H locs ls hR hS hl
  obtain ⟨d1, rfl, d3⟩ := d
  exact lv_icmp_ne C.1 C.2.1 d1 d3 (fun q => kt q p e s m args below meth c C X H locs ls hR hS hl) (fun q => kf q p e s m args below meth c C X H locs ls hR hS hl)
theorem V_if_lt {x : Int32} {off : Int} (d : Dj μ.2.1 pc (.ifCond .lt off) off pc' tgt) (kt : x < 0 → V l D A Rm μ K k n z t I R J B tgt lv st) (kf : ¬ x < 0 → V l D A Rm μ K k n z t I R J B pc' lv st) : V l D A Rm μ K k n z t I R J B pc lv (.int x :: st) := by
  intro p e s m args below meth c C X H locs ls hR hS hl
  obtain ⟨d1, rfl, d3⟩ := d
  exact lv_if_lt C.1 C.2.1 d1 d3 (fun q => kt q p e s m args below meth c C X H locs ls hR hS hl) (fun q => kf q p e s m args below meth c C X H locs ls hR hS hl)
theorem V_icmp_lt {x y : Int32} {off : Int} (d : Dj μ.2.1 pc (.if_icmp .lt off) off pc' tgt) (kt : x < y → V l D A Rm μ K k n z t I R J B tgt lv st) (kf : ¬ x < y → V l D A Rm μ K k n z t I R J B pc' lv st) : V l D A Rm μ K k n z t I R J B pc lv (.int y :: .int x :: st) := by
  intro p e s m args below meth c C X H locs ls hR hS hl
  obtain ⟨d1, rfl, d3⟩ := d
  exact lv_icmp_lt C.1 C.2.1 d1 d3 (fun q => kt q p e s m args below meth c C X H locs ls hR hS hl) (fun q => kf q p e s m args below meth c C X H locs ls hR hS hl)
theorem V_if_ge {x : Int32} {off : Int} (d : Dj μ.2.1 pc (.ifCond .ge off) off pc' tgt) (kt : 0 ≤ x → V l D A Rm μ K k n z t I R J B tgt lv st) (kf : ¬ 0 ≤ x → V l D A Rm μ K k n z t I R J B pc' lv st) : V l D A Rm μ K k n z t I R J B pc lv (.int x :: st) := by
  intro p e s m args below meth c C X H locs ls hR hS hl
  obtain ⟨d1, rfl, d3⟩ := d
  exact lv_if_ge C.1 C.2.1 d1 d3 (fun q => kt q p e s m args below meth c C X H locs ls hR hS hl) (fun q => kf q p e s m args below meth c C X H locs ls hR hS hl)
theorem V_icmp_ge {x y : Int32} {off : Int} (d : Dj μ.2.1 pc (.if_icmp .ge off) off pc' tgt) (kt : y ≤ x → V l D A Rm μ K k n z t I R J B tgt lv st) (kf : ¬ y ≤ x → V l D A Rm μ K k n z t I R J B pc' lv st) : V l D A Rm μ K k n z t I R J B pc lv (.int y :: .int x :: st) := by
  intro p e s m args below meth c C X H locs ls hR hS hl
  obtain ⟨d1, rfl, d3⟩ := d
  exact lv_icmp_ge C.1 C.2.1 d1 d3 (fun q => kt q p e s m args below meth c C X H locs ls hR hS hl) (fun q => kf q p e s m args below meth c C X H locs ls hR hS hl)
theorem V_if_gt {x : Int32} {off : Int} (d : Dj μ.2.1 pc (.ifCond .gt off) off pc' tgt) (kt : 0 < x → V l D A Rm μ K k n z t I R J B tgt lv st) (kf : ¬ 0 < x → V l D A Rm μ K k n z t I R J B pc' lv st) : V l D A Rm μ K k n z t I R J B pc lv (.int x :: st) := by
  intro p e s m args below meth c C X H locs ls hR hS hl
  obtain ⟨d1, rfl, d3⟩ := d
  exact lv_if_gt C.1 C.2.1 d1 d3 (fun q => kt q p e s m args below meth c C X H locs ls hR hS hl) (fun q => kf q p e s m args below meth c C X H locs ls hR hS hl)
theorem V_icmp_gt {x y : Int32} {off : Int} (d : Dj μ.2.1 pc (.if_icmp .gt off) off pc' tgt) (kt : y < x → V l D A Rm μ K k n z t I R J B tgt lv st) (kf : ¬ y < x → V l D A Rm μ K k n z t I R J B pc' lv st) : V l D A Rm μ K k n z t I R J B pc lv (.int y :: .int x :: st) := by
  intro p e s m args below meth c C X H locs ls hR hS hl
  obtain ⟨d1, rfl, d3⟩ := d
  exact lv_icmp_gt C.1 C.2.1 d1 d3 (fun q => kt q p e s m args below meth c C X H locs ls hR hS hl) (fun q => kf q p e s m args below meth c C X H locs ls hR hS hl)
theorem V_if_le {x : Int32} {off : Int} (d : Dj μ.2.1 pc (.ifCond .le off) off pc' tgt) (kt : x ≤ 0 → V l D A Rm μ K k n z t I R J B tgt lv st) (kf : ¬ x ≤ 0 → V l D A Rm μ K k n z t I R J B pc' lv st) : V l D A Rm μ K k n z t I R J B pc lv (.int x :: st) := by
  intro p e s m args below meth c C X H locs ls hR hS hl
  obtain ⟨d1, rfl, d3⟩ := d
  exact lv_if_le C.1 C.2.1 d1 d3 (fun q => kt q p e s m args below meth c C X H locs ls hR hS hl) (fun q => kf q p e s m args below meth c C X H locs ls hR hS hl)
theorem V_icmp_le {x y : Int32} {off : Int} (d : Dj μ.2.1 pc (.if_icmp .le off) off pc' tgt) (kt : x ≤ y → V l D A Rm μ K k n z t I R J B tgt lv st) (kf : ¬ x ≤ y → V l D A Rm μ K k n z t I R J B pc' lv st) : V l D A Rm μ K k n z t I R J B pc lv (.int y :: .int x :: st) := by
  intro p e s m args below meth c C X H locs ls hR hS hl
  obtain ⟨d1, rfl, d3⟩ := d
  exact lv_icmp_le C.1 C.2.1 d1 d3 (fun q => kt q p e s m args below meth c C X H locs ls hR hS hl) (fun q => kf q p e s m args below meth c C X H locs ls hR hS hl)
theorem V_goto {off : Int} (d : Dj μ.2.1 pc (.goto off) off pc' tgt) (kk : V l D A Rm μ K k n z t I R J B tgt lv st) : V l D A Rm μ K k n z t I R J B pc lv st := by
  intro p e s m args below meth c C X H locs ls hR hS hl
  exact lv_goto C.1 C.2.1 d.1 d.2.2 (kk p e s m args below meth c C X H locs ls hR hS hl)
theorem V_ifnull {r : Option Nat} {off : Int} (d : Dj μ.2.1 pc (.ifnull off) off pc' tgt) (kt : r = none → V l D A Rm μ K k n z t I R J B tgt lv st) (kf : ∀ a, r = some a → V l D A Rm μ K k n z t I R J B pc' lv st) : V l D A Rm μ K k n z t I R J B pc lv (va_rf r :: st) := by
  intro p e s m args below meth c C X H locs ls hR hS hl
  obtain ⟨d1, rfl, d3⟩ := d
  cases r with
  | none => exact lv_ifnullN C.1 C.2.1 d1 d3 (kt rfl p e s m args below meth c C X H locs ls hR hS hl)
  | some a => exact lv_ifnull C.1 C.2.1 d1 (kf a rfl p e s m args below meth c C X H locs ls hR hS hl)
theorem V_ifnonnull {r : Option Nat} {off : Int} (d : Dj μ.2.1 pc (.ifnonnull off) off pc' tgt) (kt : ∀ a, r = some a → V l D A Rm μ K k n z t I R J B tgt lv st) (kf : r = none → V l D A Rm μ K k n z t I R J B pc' lv st) : V l D A Rm μ K k n z t I R J B pc lv (va_rf r :: st) := by
  intro p e s m args below meth c C X H locs ls hR hS hl
  obtain ⟨d1, rfl, d3⟩ := d
  cases r with
  | none => exact lv_ifnonnullN C.1 C.2.1 d1 (kf rfl p e s m args below meth c C X H locs ls hR hS hl)
  | some a => exact lv_ifnonnull C.1 C.2.1 d1 d3 (kt a rfl p e s m args below meth c C X H locs ls hR hS hl)
theorem V_acmp_ne {rx ry : Option Nat} {off : Int} (d : Dj μ.2.1 pc (.if_acmp .ne off) off pc' tgt) (kt : ¬ rx = ry → V l D A Rm μ K k n z t I R J B tgt lv st) (kf : rx = ry → V l D A Rm μ K k n z t I R J B pc' lv st) : V l D A Rm μ K k n z t I R J B pc lv (va_rf ry :: va_rf rx :: st) := by
  intro p e s m args below meth c C X H locs ls hR hS hl
  obtain ⟨d1, rfl, d3⟩ := d
  exact lv_acmp_ne C.1 C.2.1 d1 d3 (fun q => kt q p e s m args below meth c C X H locs ls hR hS hl) (fun q => kf q p e s m args below meth c C X H locs ls hR hS hl)
theorem V_ldc {i : Nat} {v : Int32} (w : Cond.constant μ.1.cls i v ∈ gtb) (d : D2 μ.2.1 pc (.ldc i) pc') (kk : V l D A Rm μ K k n z t I R J B pc' lv (.int v :: st)) : V l D A Rm μ K k n z t I R J B pc lv st := by
  intro p e s m args below meth c C X H locs ls hR hS hl
  obtain ⟨d1, rfl⟩ := d
  exact lv_ldc C.1 C.2.1 C.2.2.2.2.1 (C.2.2.2.2.2.1 _ w) d1 (kk p e s m args below meth c C X H locs ls hR hS hl)
theorem V_ldcw {i : Nat} {v : Int32} (w : Cond.constant μ.1.cls i v ∈ gtb) (d : D3 μ.2.1 pc (.ldc_w i) pc') (kk : V l D A Rm μ K k n z t I R J B pc' lv (.int v :: st)) : V l D A Rm μ K k n z t I R J B pc lv st := by
  intro p e s m args below meth c C X H locs ls hR hS hl
  obtain ⟨d1, rfl⟩ := d
  exact lv_ldcw C.1 C.2.1 C.2.2.2.2.1 (C.2.2.2.2.2.1 _ w) d1 (kk p e s m args below meth c C X H locs ls hR hS hl)
theorem V_ldc2 {i : Nat} {v : Int64} (w : Cond.constantLong μ.1.cls i v ∈ gtb) (d : D3 μ.2.1 pc (.ldc2_w i) pc') (kk : V l D A Rm μ K k n z t I R J B pc' lv (.long v :: st)) : V l D A Rm μ K k n z t I R J B pc lv st := by
  intro p e s m args below meth c C X H locs ls hR hS hl
  obtain ⟨d1, rfl⟩ := d
  exact lv_ldc2 C.1 C.2.1 C.2.2.2.2.1 (C.2.2.2.2.2.1 _ w) d1 (kk p e s m args below meth c C X H locs ls hR hS hl)
end ROWS
end
section
-- FIELDS, ARRAYS, MAKING, RETURNS, CALLS, over V
section HEAP
variable {l : Launch} {D : va_G} {A : Nat → Prop} {Rm : Room} {μ : Meth} {K : Kx} {k n z : Nat} {t : TT} {I : MI} {R : MR} {J : MI} {B : MR} {pc pc' tgt : Nat} {lv : List (Option Value)} {st : List Value}
theorem Rep.cell {U : State} {H : Heap} (h : Rep D A U z t I R J B H) {a T : Nat} (ht : (t a).1 = T) (h0 : 0 < T) : CellOk D U (t a) (fun f => I f a) (fun f => R f a) (J a) (B a) a H := (h.2.2 a (by omega)).2
theorem Rep.obj {U : State} {H : Heap} (h : Rep D A U z t I R J B H) {a c : Nat} (ht : (t a).1 = c + 1) (hc : c < 13) : va_P D classes [(a, .inr (c, fl c (fun f => I f a) (fun f => R f a)))] H := by
  intro k q hk
  have hz : k < 1 := (List.getElem?_eq_some_iff.mp hk).1
  rw [show k = 0 by omega] at hk
  cases hk
  exact (h.2.2 a (by omega)).2.1 c ht hc
theorem V_getI {idx c j f T a : Nat} (F : FkI μ.1.cls idx c j f T) (d : D3 μ.2.1 pc (.getfield idx) pc') (ht : (t a).1 = T) (kk : V l D A Rm μ K k n z t I R J B pc' lv (.int (I f a) :: st)) : V l D A Rm μ K k n z t I R J B pc lv (va_rf (some a) :: st) := by
  intro p e s m args below meth cd C X H locs ls hR hS hl
  obtain ⟨hc, hk, rfl, rfl, hw, hs⟩ := F
  obtain ⟨d1, rfl⟩ := d
  obtain ⟨hcl, hin, -, -, -, -⟩ := cl_ok c hc
  exact va_get C.1 C.2.1 C.2.2.2.2.2.1 hin C.2.2.2.2.1 hR.1 (hR.obj ht hc) 0 rfl hcl j hk (C.2.2.2.2.2.1 _ hw) (fun _ h => h) (fl_get hs) d1 (kk p e s m args below meth cd C X H locs ls hR hS hl)
theorem V_getR {idx c j f T a : Nat} (F : FkR μ.1.cls idx c j f T) (d : D3 μ.2.1 pc (.getfield idx) pc') (ht : (t a).1 = T) (kk : V l D A Rm μ K k n z t I R J B pc' lv (va_rf (R f a) :: st)) : V l D A Rm μ K k n z t I R J B pc lv (va_rf (some a) :: st) := by
  intro p e s m args below meth cd C X H locs ls hR hS hl
  obtain ⟨hc, hk, rfl, rfl, hw, hs⟩ := F
  obtain ⟨d1, rfl⟩ := d
  obtain ⟨hcl, hin, -, -, -, -⟩ := cl_ok c hc
  exact va_get C.1 C.2.1 C.2.2.2.2.2.1 hin C.2.2.2.2.1 hR.1 (hR.obj ht hc) 0 rfl hcl j hk (C.2.2.2.2.2.1 _ hw) (fun _ h => h) (fl_get hs) d1 (kk p e s m args below meth cd C X H locs ls hR hS hl)
/-- what a write of a field leaves -/
theorem obj_put {U : State} {H1 : Heap} {a c j : Nat} {cell : Cell} {v : Value} {iv iv' : Nat → Int32} {rv rv' : Nat → Option Nat} {jv : Nat → Int32} {bv : Nat → Option Nat} {τ : Nat × Nat} (hK : va_K D classes [] U) {Ts : List Cond} {ar : Array Value} (hts : ∀ w ∈ Ts, w.before ar U = true) (hin : ∀ w ∈ u_ws (Cc c) (Tc c) (Nc c), w ∈ Ts)
    (hc : c < 13) (ht : τ.1 = c + 1) (hk : j < Nc c) (q2 : cell.cls = D.1 c) (q3 : cell.vm = .none) (q4 : ∀ k, k < Nc c → cell.slots[D.2 c k]? = some (vp_V (fl c iv rv) k)) (e1 : H1[a]? = some (cell.setSlot (D.2 c j) v)) (hset : (fl c iv rv).set j v = fl c iv' rv') : CellOk D U τ iv' rv' jv bv a H1 := by
  obtain ⟨hcl, -, hnm, hty, hlen, -⟩ := cl_ok c hc
  have hap := va_apart (own := Cc c) hts hin (yc c) hty hnm hK hcl
  refine ⟨fun c' h1 h2 => ?_, fun h => by omega, fun j h => by omega⟩
  have e : c' = c := by omega
  subst e
  refine ⟨_, hcl, t_OB.to (V := updV (vp_V (fl c' iv rv)) j v) ⟨_, e1, q2, q3, t_set q4 hap hk v⟩ (fun i _ => ?_)⟩
  rw [vp_updV_set (by rw [fl_len, hlen]; exact hk) v i, hset]
theorem V_put {idx c j T a : Nat} {v : Value} {I' : MI} {R' : MR} (hc : c < 13) (hk : j < Nc c) (hT : c + 1 = T) (hw : Cond.fieldLink μ.1.cls idx (Tc c j).1 (Tc c j).2.1 (Tc c j).2.2.1 ∈ gtb) (hfin : (Tc c j).2.2.2 = false ∨ ((Tc c j).2.2.2 = true ∧ μ.1.name = "<init>" ∧ (Tc c j).1 = μ.1.cls)) (hn : narrow (yc c j) v = v) (hfit : fits (yc c j) v = true)
    (hI : ∀ f b, b ≠ a → I' f b = I f b) (hR' : ∀ f b, b ≠ a → R' f b = R f b) (hset : (fl c (fun f => I f a) (fun f => R f a)).set j v = fl c (fun f => I' f a) (fun f => R' f a))
    (d : D3 μ.2.1 pc (.putfield idx) pc') (ht : (t a).1 = T) (kk : V l D A Rm μ K k n z t I' R' J B pc' lv st) : V l D A Rm μ K k n z t I R J B pc lv (v :: va_rf (some a) :: st) := by
  intro p e s m args below meth cd C X H locs ls hR hS hl
  subst hT
  obtain ⟨d1, rfl⟩ := d
  obtain ⟨hx, hb, hml, hr, hown, hts, hlk, hnam, -⟩ := id C
  obtain ⟨hcl, hin, hnm, hty, hlen, -⟩ := cl_ok c hc
  obtain ⟨r, h1, cell, q1, q2, q3, q4⟩ := hR.obj ht hc 0 _ rfl
  have hr' : r = (Cc c, Tc c, Nc c) := Option.some.inj (h1.symm.trans hcl)
  subst hr'
  obtain ⟨hSl, hfc, kC, hkC, hkind⟩ := hR.1.1 c _ hcl
  obtain ⟨cf, kf, fi, f, hi, hsl⟩ := hSl j hk
  have hlay := hts _ (hin _ (u_in_lay hk))
  unfold u_lay at hlay
  have hst := (u_facts hfc hkC (u_lays hts hin hk) hi).1
  have hAa : A a := (hR.2.2 a (by omega)).1.1
  have fin : ∀ H' : Heap, H'[a]? = some (cell.setSlot f.slot v) → H'.size = H.size → (∀ q, q ≠ a → H'[q]? = H[q]?) → W p l e Rm s m args below meth cd H' (locs ++ [⟨a, f.slot⟩]) k n (K.1 below args s) (F0 m (pc + 3) ls st) := by
    intro H' e1 e2 e3
    rw [hsl] at e1
    refine kk p e s m args below meth cd C X H' _ ls (hR.put (a := a) e2 e3 hI hR' (fun _ _ => rfl) (fun _ _ => rfl) ?_) (hS.put e2 e3 hAa) hl
    exact obj_put hR.1 hts hin hc ht hk q2 q3 q4 e1 hset
  rcases hfin with hfin | ⟨hfin, hin2, hdecl⟩
  · rw [if_neg (by rw [hfin]; decide)] at hlay
    have h6 := u_store hfc hkC hkind hlay hi (hty j hk) hn hfit
    exact W.putK hx hb (f := f) ⟨hown, hts _ hw, ⟨_, _, _, hi⟩, hst⟩ (by rw [q2]; exact h6) q1 q3 (by rw [hsl]; exact k2_hasslot (q4 j hk)) rfl rfl d1 fin
  · rw [if_pos hfin] at hlay
    have hcf : m.cls = cf := by
      obtain ⟨_, _, c', _, _, _, -, -, hf', -, -, -, hown2, -⟩ := Cond.laysFinal_spec hlay
      have e1 : c' = cf := by have := hi.symm.trans hf'; simp at this; exact this.1.symm
      rw [hdecl] at hown2
      rw [← e1]; exact Option.some.inj (hown.symm.trans hown2)
    have h6 := u_fits hfc hkC hkind (Or.inr hlay) hi (hty j hk) hn hfit
    exact W.putFinK hx hb hown (hts _ hw) hi hst hcf (hnam.trans hin2) (by rw [q2]; exact h6) q1 q3 (by rw [hsl]; exact k2_hasslot (q4 j hk)) rfl rfl d1 fin
theorem V_putI {idx c j f T a : Nat} {v : Int32} (F : FkI μ.1.cls idx c j f T) (hfin : (Tc c j).2.2.2 = false ∨ ((Tc c j).2.2.2 = true ∧ μ.1.name = "<init>" ∧ (Tc c j).1 = μ.1.cls)) (hn : narrow (yc c j) (.int v) = .int v) (hfit : fits (yc c j) (.int v) = true)
    (d : D3 μ.2.1 pc (.putfield idx) pc') (ht : (t a).1 = T) (kk : V l D A Rm μ K k n z t (up2 I f a v) R J B pc' lv st) : V l D A Rm μ K k n z t I R J B pc lv (.int v :: va_rf (some a) :: st) := by
  obtain ⟨hc, hk, hT, rfl, hw, hs⟩ := F
  refine V_put hc hk hT hw hfin hn hfit (fun g b hb => up2_off _ _ _ _ hb) (fun _ _ _ => rfl) ?_ d ht kk
  rw [fl_setI hs, up2_col]
theorem V_putR {idx c j f T a : Nat} {v : Option Nat} (F : FkR μ.1.cls idx c j f T) (hfin : (Tc c j).2.2.2 = false ∨ ((Tc c j).2.2.2 = true ∧ μ.1.name = "<init>" ∧ (Tc c j).1 = μ.1.cls)) (hn : ∀ v, narrow (yc c j) (va_rf v) = va_rf v) (hfit : ∀ v, fits (yc c j) (va_rf v) = true)
    (d : D3 μ.2.1 pc (.putfield idx) pc') (ht : (t a).1 = T) (kk : V l D A Rm μ K k n z t I (up2 R f a v) J B pc' lv st) : V l D A Rm μ K k n z t I R J B pc lv (va_rf v :: va_rf (some a) :: st) := by
  obtain ⟨hc, hk, hT, rfl, hw, hs⟩ := F
  refine V_put hc hk hT hw hfin (hn v) (hfit v) (fun _ _ _ => rfl) (fun g b hb => up2_off _ _ _ _ hb) ?_ d ht kk
  rw [fl_setR hs, up2_col]
-- arrays
theorem Rep.arr {U : State} {H : Heap} (h : Rep D A U z t I R J B H) {a N : Nat} (ht : t a = (20, N)) : ∃ cA : ClassId, va_P D classes [(a, .inl (cA, N, .inl (J a)))] H ∧ va_K D classes [(cA, .int)] U := by
  obtain ⟨cA, h1, h2⟩ := (h.2.2 a (by rw [ht]; show 20 ≠ 0; decide)).2.2.1 (by rw [ht])
  rw [ht] at h2
  refine ⟨cA, fun k q hk => ?_, h.1.1, fun k q hk => ?_⟩
  · have hz : k < 1 := (List.getElem?_eq_some_iff.mp hk).1
    rw [show k = 0 by omega] at hk
    cases hk
    exact h2
  · have hz : k < 1 := (List.getElem?_eq_some_iff.mp hk).1
    rw [show k = 0 by omega] at hk
    cases hk
    exact h1
theorem Rep.arrq {U : State} {H : Heap} (h : Rep D A U z t I R J B H) {a N j : Nat} (ht : t a = (21 + j, N)) (hj : j < 6) : ∃ cA : ClassId, va_P D classes [(a, .inl (cA, N, .inr (.inr (.inr (.inr (B a))))))] H ∧ va_K D classes [(cA, rty j)] U ∧ rRA U cA j := by
  obtain ⟨cA, h1, h2⟩ := (h.2.2 a (by rw [ht]; show 21 + j ≠ 0; omega)).2.2.2 j (by rw [ht]) hj
  rw [ht] at h2
  refine ⟨cA, fun k q hk => ?_, ⟨h.1.1, fun k q hk => ?_⟩, h1.2⟩
  · have hz : k < 1 := (List.getElem?_eq_some_iff.mp hk).1
    rw [show k = 0 by omega] at hk
    cases hk
    exact h2
  · have hz : k < 1 := (List.getElem?_eq_some_iff.mp hk).1
    rw [show k = 0 by omega] at hk
    cases hk
    exact ⟨h1.1, h1.2.1⟩
theorem V_iald {a N i : Nat} {ix : Int32} (d : D1 μ.2.1 pc .iaload pc') (ht : t a = (20, N)) (hx : ix = nI i) (hi : i < N) (hN : N < 2147483648) (kk : V l D A Rm μ K k n z t I R J B pc' lv (.int (J a i) :: st)) : V l D A Rm μ K k n z t I R J B pc lv (.int ix :: va_rf (some a) :: st) := by
  intro p e s m args below meth cd C X H locs ls hR hS hl
  obtain ⟨d1, rfl⟩ := d
  obtain ⟨cA, hP, hK⟩ := hR.arr ht
  have hc : ix.toNatClampNeg = i := by rw [hx]; exact nI_clamp (by omega)
  refine va_iald C.1 C.2.1 hK hP 0 0 rfl rfl (by rw [hx]; exact vp_in_nI hi (by omega)) d1 ?_
  rw [hc]
  exact kk p e s m args below meth cd C X H locs ls hR hS hl
theorem V_aald {a N i j T : Nat} {ix : Int32} (d : D1 μ.2.1 pc .aaload pc') (hT : 21 + j = T) (hj : j < 6) (ht : t a = (T, N)) (hx : ix = nI i) (hi : i < N) (hN : N < 2147483648) (kk : V l D A Rm μ K k n z t I R J B pc' lv (va_rf (B a i) :: st)) : V l D A Rm μ K k n z t I R J B pc lv (.int ix :: va_rf (some a) :: st) := by
  intro p e s m args below meth cd C X H locs ls hR hS hl
  obtain ⟨d1, rfl⟩ := d
  subst hT
  obtain ⟨cA, hP, hK, hRA⟩ := hR.arrq ht hj
  have hc : ix.toNatClampNeg = i := by rw [hx]; exact nI_clamp (by omega)
  have hlt : ix.toNatClampNeg < N := by rw [hc]; exact hi
  have hin : vp_in ix N := by rw [hx]; exact vp_in_nI hi (by omega)
  refine W.aald (v := va_rf (B a ix.toNatClampNeg)) (ty := rty j) C.1 C.2.1 (hP 0 _ rfl) ((hK.2 0 _ rfl).1 N (fun j => va_rf (B a j))) (by rcases (show j = 0 ∨ j = 1 ∨ j = 2 ∨ j = 3 ∨ j = 4 ∨ j = 5 by omega) with rfl | rfl | rfl | rfl | rfl | rfl <;> rfl) (fun q => by cases q) (by show ¬ (ix < 0 ∨ (arrV _ _ _).slots.size ≤ _); rw [arrV_size]; exact hin) (by show (arrV _ _ _).slots[_]? = _; rw [arrV_read _ _ hlt]) rfl rfl d1 ?_
  rw [hc]
  exact kk p e s m args below meth cd C X H locs ls hR hS hl
theorem V_alen {a N T : Nat} {v : Int32} (d : D1 μ.2.1 pc .arraylength pc') (hT : T = 20 ∨ ∃ j, T = 21 + j ∧ j < 6) (ht : t a = (T, N)) (hv : nI N = v) (kk : V l D A Rm μ K k n z t I R J B pc' lv (.int v :: st)) : V l D A Rm μ K k n z t I R J B pc lv (va_rf (some a) :: st) := by
  intro p e s m args below meth cd C X H locs ls hR hS hl
  obtain ⟨d1, rfl⟩ := d
  rcases hT with rfl | ⟨j, rfl, hj⟩
  · obtain ⟨cA, hP, hK⟩ := hR.arr ht
    exact va_alen C.1 C.2.1 hK hP 0 0 rfl rfl hv d1 (kk p e s m args below meth cd C X H locs ls hR hS hl)
  · obtain ⟨cA, hP, hK, hRA⟩ := hR.arrq ht hj
    exact va_alen C.1 C.2.1 hK hP 0 0 rfl rfl hv d1 (kk p e s m args below meth cd C X H locs ls hR hS hl)
theorem V_iast {a N i : Nat} {ix x : Int32} (d : D1 μ.2.1 pc .iastore pc') (ht : t a = (20, N)) (hx : ix = nI i) (hi : i < N) (hN : N < 2147483648) (kk : V l D A Rm μ K k n z t I R (up2 J a i x) B pc' lv st) : V l D A Rm μ K k n z t I R J B pc lv (.int x :: .int ix :: va_rf (some a) :: st) := by
  intro p e s m args below meth cd C X H locs ls hR hS hl
  obtain ⟨d1, rfl⟩ := d
  obtain ⟨cA, hP, hK⟩ := hR.arr ht
  have hc : ix.toNatClampNeg = i := by rw [hx]; exact nI_clamp (by omega)
  have hAa : A a := (hR.2.2 a (by rw [ht]; show 20 ≠ 0; decide)).1.1
  refine W.iast C.1 C.2.1 (hP 0 _ rfl) ((hK.2 0 _ rfl).1 N (fun j => .int (J a j))) (fun q => by cases q) (by show ¬ (ix < 0 ∨ (arrV _ _ _).slots.size ≤ _); rw [arrV_size, hx]; exact vp_in_nI hi (by omega)) rfl rfl d1 fun H1 e z oq => ?_
  refine kk p _ s m args below meth cd C X H1 _ ls (hR.put (a := a) z oq (fun _ _ _ => rfl) (fun _ _ _ => rfl) (fun b hb => up2_ne _ _ _ hb) (fun _ _ => rfl) ?_) (hS.put z oq hAa) hl
  refine ⟨fun c h => by rw [ht] at h; have h : 20 = c + 1 := h; omega, fun _ => ⟨cA, hK.2 0 _ rfl, ?_⟩, fun j h => by rw [ht] at h; have h : 20 = 21 + j := h; omega⟩
  rw [e, ht, up2_self]
  rw [vp_cell_i, vp_cell_i, arrV_store, hc]
  congr 2
  funext q
  by_cases hq : q = i
  · subst hq
    simp [updV, va_up]
  · simp [updV, va_up, hq]
theorem V_aast {a N i j T b c : Nat} {ix : Int32} (d : D1 μ.2.1 pc .aastore pc') (hT : 21 + j = T) (ht : t a = (T, N)) (hb : (t b).1 = c + 1) (hc' : c < 13) (hj : rty j = .object (Cc c) ∧ j < 6) (hx : ix = nI i) (hi : i < N) (hN : N < 2147483648) (kk : V l D A Rm μ K k n z t I R J (va_up B a (va_up (B a) i (some b))) pc' lv st) : V l D A Rm μ K k n z t I R J B pc lv (va_rf (some b) :: .int ix :: va_rf (some a) :: st) := by
  intro p e s m args below meth cd C X H locs ls hR hS hl
  obtain ⟨d1, rfl⟩ := d
  subst hT
  obtain ⟨cA, hP, hK, hRA⟩ := hR.arrq ht hj.2
  have hc : ix.toNatClampNeg = i := by rw [hx]; exact nI_clamp (by omega)
  have hAa : A a := (hR.2.2 a (by rw [ht]; show 21 + j ≠ 0; omega)).1.1
  have h0 : ¬ ix < 0 := by rw [hx]; exact nI_pos (by omega)
  obtain ⟨hcl, -⟩ := cl_ok c hc'
  obtain ⟨r', hr', cellV, g1, g2, g3, -⟩ := hR.obj hb hc' 0 _ rfl
  have hcls := (hR.1.1 c _ hcl).2
  have hKr := (hK.2 0 _ rfl).2
  have hKr' : va_RA s cA (.object (Cc c)) := by have h9 : va_RA s cA (rty j) := hKr; rw [hj.1] at h9; exact h9
  obtain ⟨kA, comp, k1, k2, k3, -⟩ := hKr'
  have hcomp : comp = D.1 c := Option.some.inj (k3.symm.trans hcls.1)
  subst hcomp
  obtain ⟨kC, hkC, -⟩ := hcls.2
  refine W.aast C.1 C.2.1 (hP 0 _ rfl) (fun q h => by cases h) (fun h => by cases h) k1 k2 rfl hkC ⟨h0, by show _ < (arrV _ _ _).slots.size; rw [arrV_size, hc]; exact hi⟩ g1 (fun q h => by rw [g3] at h; cases h) (by rw [g2]; exact hkC) (by rw [g2]; exact va_assign hcls) rfl rfl d1 fun H1 e z oq => ?_
  refine kk p _ s m args below meth cd C X H1 _ ls (hR.put (a := a) z oq (fun _ _ _ => rfl) (fun _ _ _ => rfl) (fun _ _ => rfl) (fun b hb => va_up_ne _ _ hb) ?_) (hS.put z oq hAa) hl
  refine ⟨fun c h => by rw [ht] at h; have h : 21 + j = c + 1 := h; omega, fun h => by rw [ht] at h; have h : 21 + j = 20 := h; omega, fun j' h h2 => ?_⟩
  rw [ht] at h
  have h : 21 + j = 21 + j' := h
  have ej : j' = j := by omega
  subst ej
  refine ⟨cA, ⟨(hK.2 0 _ rfl).1, hRA⟩, ?_⟩
  rw [e, ht, va_up_self]
  rw [vp_cell_q, vp_cell_q, arrV_store, hc]
  congr 2
  funext q
  by_cases hq : q = i
  · subst hq
    simp [updV, va_up, va_rf]
  · simp [updV, va_up, hq]
theorem V_aasta {a N i b N' : Nat} {ix : Int32} (d : D1 μ.2.1 pc .aastore pc') (ht : t a = (26, N)) (hb : t b = (20, N')) (hx : ix = nI i) (hi : i < N) (hN : N < 2147483648) (kk : V l D A Rm μ K k n z t I R J (va_up B a (va_up (B a) i (some b))) pc' lv st) : V l D A Rm μ K k n z t I R J B pc lv (va_rf (some b) :: .int ix :: va_rf (some a) :: st) := by
  intro p e s m args below meth cd C X H locs ls hR hS hl
  obtain ⟨d1, rfl⟩ := d
  obtain ⟨cA, hP, hK, hRA⟩ := hR.arrq (j := 5) ht (by decide)
  obtain ⟨cI, hPI, hKI⟩ := hR.arr hb
  have hc : ix.toNatClampNeg = i := by rw [hx]; exact nI_clamp (by omega)
  have hAa : A a := (hR.2.2 a (by rw [ht]; show 26 ≠ 0; decide)).1.1
  have h0 : ¬ ix < 0 := by rw [hx]; exact nI_pos (by omega)
  obtain ⟨kA, comp, k1, k2, k3⟩ := hRA.2 rfl
  have hnm : s.vm.findClass (FieldType.array .int).toString = some cI := va_nm_int (hKI.2 0 _ rfl).2
  have hcomp : comp = cI := Option.some.inj (k3.symm.trans hnm)
  subst hcomp
  obtain ⟨kC, hkC, -⟩ := Vm.findClass_spec hnm
  refine W.aast C.1 C.2.1 (hP 0 _ rfl) (fun q h => by cases h) (fun h => by cases h) k1 k2 rfl hkC ⟨h0, by show _ < (arrV _ _ _).slots.size; rw [arrV_size, hc]; exact hi⟩ (hPI 0 _ rfl) (fun q h => by cases h) hkC (va_asg _ _) rfl rfl d1 fun H1 e z oq => ?_
  refine kk p _ s m args below meth cd C X H1 _ ls (hR.put (a := a) z oq (fun _ _ _ => rfl) (fun _ _ _ => rfl) (fun _ _ => rfl) (fun b hb => va_up_ne _ _ hb) ?_) (hS.put z oq hAa) hl
  refine ⟨fun c h => by rw [ht] at h; have h : 26 = c + 1 := h; omega, fun h => by rw [ht] at h; have h : 26 = 20 := h; omega, fun j' h h2 => ?_⟩
  rw [ht] at h
  have h : 26 = 21 + j' := h
  have ej : j' = 5 := by omega
  subst ej
  refine ⟨cA, ⟨(hK.2 0 _ rfl).1, hRA⟩, ?_⟩
  rw [e, ht, va_up_self]
  rw [vp_cell_q, vp_cell_q, arrV_store, hc]
  congr 2
  funext q
  by_cases hq : q = i
  · subst hq
    simp [updV, va_up, va_rf]
  · simp [updV, va_up, hq]
end HEAP
end
section
-- MAKING, RETURNS, CALLS, over V
def zI (I : MI) (a : Nat) : MI := fun f b => if b = a then 0 else I f b
def zR (R : MR) (a : Nat) : MR := fun f b => if b = a then none else R f b
theorem zI_self (I : MI) (f a : Nat) : zI I a f a = 0 := if_pos rfl
theorem zI_ne (I : MI) (f : Nat) {a b : Nat} (h : b ≠ a) : zI I a f b = I f b := if_neg h
theorem zR_self (R : MR) (f a : Nat) : zR R a f a = none := if_pos rfl
theorem zR_ne (R : MR) (f : Nat) {a b : Nat} (h : b ≠ a) : zR R a f b = R f b := if_neg h
theorem aoa_moved {u U : State} (hvm : u.vm.Alike U.vm) (h : va_Nw (.arrayOver (.array .int)) u) : va_Nw (.arrayOver (.array .int)) U := by
  obtain ⟨comp, c, k, h1, h2, h3, h4, h5⟩ := arrayOverA_spec h
  obtain ⟨k', hk', he⟩ := hvm.2.2 _ _ h3
  have hi : (U.vm.classes.findIdx? fun (x : Class) => match x.kind with | .array component _ => component == comp | _ => false) = some c := by
    rw [hvm.findIdx?_eq _ (fun _ => rfl)]; exact h2
  have hkind : k'.kind = .array comp (.array .int) := by rw [he]; exact h4
  have f1 : U.vm.findClass (FieldType.array .int).toString = some comp := by rw [hvm.findClass]; exact h1
  have f2 : U.vm.findClass ("[" ++ (FieldType.array .int).toString) = some c := by rw [hvm.findClass]; exact h5
  unfold va_Nw Cond.before Cond.holds
  simp only [Cond.value]
  rw [f1, Option.bind_some]
  refine (congrArg (fun o : Option Nat => (o.bind (fun c => (U.vm.classes[c]?).map fun (k : Class) => match k.kind with | .array _ ty => decide (ty = FieldType.array .int) && decide (U.vm.findClass ("[" ++ (FieldType.array .int).toString) = some c) | _ => false) == some true)) hi).trans ?_
  simp [hk', hkind, f2]
theorem Xt.moved {s U : State} (hW : s.WarmedH U.vm) (h : Xt s) : Xt U := by
  obtain ⟨h1, h2, h3, h4, h5, h6, h7⟩ := h
  refine ⟨fun w hw => ?_, h2.moved hW.alike, h3.moved hW.alike, h4.moved hW.alike, h5.moved hW.alike, h6.moved hW.alike, ?_⟩
  · have h9 := h1 w hw
    simp only [nests, List.mem_cons, List.not_mem_nil, or_false] at hw
    rcases hw with rfl | rfl | rfl | rfl | rfl <;> exact va_Nw.warmM hW h9
  · exact aoa_moved hW.alike h7
theorem Xt.same {u U : State} (e : u.vm = U.vm) (h : Xt u) : Xt U := by
  obtain ⟨h1, h2, h3, h4, h5, h6, h7⟩ := h
  have ha : u.vm.Alike U.vm := by rw [e]; exact Vm.Alike.refl _
  refine ⟨fun w hw => ?_, h2.moved ha, h3.moved ha, h4.moved ha, h5.moved ha, h6.moved ha, ?_⟩
  · have h9 := h1 w hw
    simp only [nests, List.mem_cons, List.not_mem_nil, or_false] at hw
    rcases hw with rfl | rfl | rfl | rfl | rfl <;> exact va_Nw.same rfl e h9
  · exact aoa_moved ha h7
theorem blind {D : va_G} {A : Nat → Prop} {av : List Value} {z : Nat} {t : TT} {I : MI} {R : MR} {J : MI} {B : MR} : FrameBlind (va_Pc av (fun U => Xt U ∧ Rep D A U z t I R J B U.heap)) := by
  intro a U g mk q
  obtain ⟨q0, q1, q2⟩ := q
  exact ⟨q0, Xt.same (u := U) (U := U.calling g mk a) rfl q1, Rep.moved (u := U) (U := U.calling g mk a) (Vm.Alike.refl U.vm) q2⟩
section MAKE
variable {l : Launch} {D : va_G} {A : Nat → Prop} {Rm : Room} {μ : Meth} {K : Kx} {k n z : Nat} {t : TT} {I : MI} {R : MR} {J : MI} {B : MR} {pc pc' tgt : Nat} {lv : List (Option Value)} {st : List Value}
theorem V_new {idx c N T : Nat} (hc : c < 13) (hN : Nc c = N) (hT : c + 1 = T) (w1 : Cond.classLink μ.1.cls idx (Cc c) ∈ gtb) (w2 : Cond.instantiable (Cc c) N ∈ gtb) (w3 : Cond.initialized (Cc c) ∈ gtb) (hA : A z) (h1 : k + 1 ≤ Rm.cells) (h2 : n + N ≤ Rm.slots) (d : D3 μ.2.1 pc (.new idx) pc')
    (kk : V l D A Rm μ K (k + 1) (n + N) (z + 1) (va_up t z (T, 0)) (zI I z) (zR R z) J B pc' lv (va_rf (some z) :: st)) : V l D A Rm μ K k n z t I R J B pc lv st := by
  intro p e s m args below meth cd C X H locs ls hR hS hl
  subst hN; subst hT
  obtain ⟨d1, rfl⟩ := d
  obtain ⟨hcl, hin, hnm, hty, hlen, hsh⟩ := cl_ok c hc
  have hts := C.2.2.2.2.2.1
  have hKn := hR.1.1 c _ hcl
  refine W.newcK C.1 C.2.1 C.2.2.2.2.1 (hts _ w1) (hts _ w2) (hts _ w3) rfl d1 h1 h2 hKn.2.1 rfl fun H1 kC hkC e1 z1 o1 => ?_
  have hz := hR.2.1
  rw [hz] at e1 z1 o1 ⊢
  refine kk p e s m args below meth cd C X H1 locs ls (hR.push hA (by omega) (fun q hq => o1 q hq) (fun b hb => va_up_ne _ _ hb) (fun f b hb => zI_ne _ _ hb) (fun f b hb => zR_ne _ _ hb) (fun _ _ => rfl) (fun _ _ => rfl) ?_) ⟨Nat.le_trans hS.1 (by omega), fun x h1 h2 => (o1 x (by have := hS.1; omega)).trans (hS.2.1 x h1 h2), hS.2.2⟩ hl
  rw [va_up_self]
  refine ⟨fun c' h1 h2 => ?_, fun h => by have h : c + 1 = 20 := h; omega, fun j h => by have h : c + 1 = 21 + j := h; omega⟩
  have h1 : c + 1 = c' + 1 := h1
  have e : c' = c := by omega
  subst e
  refine ⟨_, hcl, (u_born (yc c') hts hin hKn hkC e1 hty).to (fun j hj => ?_)⟩
  rcases hsh j hj with ⟨g1, g2⟩ | ⟨g1, g2⟩
  · rw [g2]; simp [vp_V, fl_get g1, zR_self, va_rf]
  · rw [g2]; simp [vp_V, fl_get g1, zI_self]
theorem V_newa {x : Int32} {N : Nat} (w : Cond.arrayClass .int ∈ gtb) (hx : x = nI N) (hN : N < 100000000) (hA : A z) (h1 : k + 1 ≤ Rm.cells) (h2 : n + N ≤ Rm.slots) (d : D2 μ.2.1 pc (.newarray .int) pc')
    (kk : V l D A Rm μ K (k + 1) (n + N) (z + 1) (va_up t z (20, N)) I R (va_up J z (fun _ => 0)) B pc' lv (va_rf (some z) :: st)) : V l D A Rm μ K k n z t I R J B pc lv (.int x :: st) := by
  intro p e s m args below meth cd C X H locs ls hR hS hl
  obtain ⟨d1, rfl⟩ := d
  have hts := C.2.2.2.2.2.1
  have hc : x.toNatClampNeg = N := by rw [hx]; exact nI_clamp (by omega)
  refine va_newaK (atype := .int) C.1 C.2.1 (hts _ w) rfl d1 rfl (by rw [hx]; exact nI_pos (by omega)) hc (by show N * 4 ≤ 536870912; omega) h1 h2 rfl fun H1 cA e1 z1 o1 hAr hNm => ?_
  have hz := hR.2.1
  rw [hz] at e1 z1 o1 ⊢
  refine kk p e s m args below meth cd C X H1 locs ls (hR.push hA (by omega) (fun q hq => o1 q hq) (fun b hb => va_up_ne _ _ hb) (fun f b hb => rfl) (fun f b hb => rfl) (fun b hb => va_up_ne _ _ hb) (fun _ _ => rfl) ?_) ⟨Nat.le_trans hS.1 (by omega), fun x h1 h2 => (o1 x (by have := hS.1; omega)).trans (hS.2.1 x h1 h2), hS.2.2⟩ hl
  rw [va_up_self, va_up_self]
  refine ⟨fun c' h1 h2 => by have h1 : 20 = c' + 1 := h1; omega, fun h => ⟨cA, ⟨hAr, hNm⟩, ?_⟩, fun j h => by have h : 20 = 21 + j := h; omega⟩
  rw [vp_cell_i]
  exact e1
theorem V_newq {x : Int32} {N j idx T : Nat} {Cn : String} (hj : j < 5) (hT : 21 + j = T) (hCn : rty j = .object Cn) (w : Cond.classLink μ.1.cls idx Cn ∈ gtb) (hx : x = nI N) (hN : N < 100000000) (hA : A z) (h1 : k + 1 ≤ Rm.cells) (h2 : n + N ≤ Rm.slots) (d : D3 μ.2.1 pc (.anewarray idx) pc')
    (kk : V l D A Rm μ K (k + 1) (n + N) (z + 1) (va_up t z (T, N)) I R J (va_up B z (fun _ => none)) pc' lv (va_rf (some z) :: st)) : V l D A Rm μ K k n z t I R J B pc lv (.int x :: st) := by
  intro p e s m args below meth cd C X H locs ls hR hS hl
  obtain ⟨d1, rfl⟩ := d
  subst hT
  have hts := C.2.2.2.2.2.1
  have hc : x.toNatClampNeg = N := by rw [hx]; exact nI_clamp (by omega)
  have hXt := C.2.2.2.2.2.2.2.2
  have hover : va_AO Cn s := by
    obtain ⟨-, g2, g3, g4, g5, g6, -⟩ := hXt
    rcases (show j = 0 ∨ j = 1 ∨ j = 2 ∨ j = 3 ∨ j = 4 by omega) with rfl | rfl | rfl | rfl | rfl <;> cases hCn <;> assumption
  subst hc
  refine W.anew C.1 C.2.1 C.2.2.2.2.1 (hts _ w) (va_AO.use hover) rfl d1 rfl (by rw [hx]; exact nI_pos (by omega)) (by omega) h1 h2 fun cA kA comp f1 f2 f3 f4 => ?_
  have hz := hR.2.1
  generalize hH1 : H.push ({ cls := cA, slots := Array.replicate x.toNatClampNeg .null, vm := .none } : Cell) = H1
  have z1 : H1.size = H.size + 1 := by rw [← hH1, Array.size_push]
  have e1 : H1[H.size]? = some (arrV cA x.toNatClampNeg (fun _ => .null)) := by rw [← hH1, Array.getElem?_push_size, ← arrV_new]
  have o1 : ∀ q : Nat, q < H.size → H1[q]? = H[q]? := fun q hq => by rw [← hH1, Array.getElem?_push, if_neg (Nat.ne_of_lt hq)]
  rw [hz] at e1 z1 o1 ⊢
  have hAr : ArrOfT s cA (rty j) := by rw [hCn]; exact fun N z => ⟨(fun k h => by cases h), kA, f2, comp, f3⟩
  have hRa : rRA s cA j := ⟨by rw [hCn]; exact ⟨kA, comp, f2, f3, f4, f1⟩, fun h => by omega⟩
  refine kk p e s m args below meth cd C X H1 locs ls (hR.push hA (by omega) (fun q hq => o1 q hq) (fun b hb => va_up_ne _ _ hb) (fun f b hb => rfl) (fun f b hb => rfl) (fun _ _ => rfl) (fun b hb => va_up_ne _ _ hb) ?_) ⟨Nat.le_trans hS.1 (by omega), fun x h1 h2 => (o1 x (by have := hS.1; omega)).trans (hS.2.1 x h1 h2), hS.2.2⟩ hl
  rw [va_up_self, va_up_self]
  refine ⟨fun c' h1 h2 => by have h1 : 21 + j = c' + 1 := h1; omega, fun h => by have h : 21 + j = 20 := h; omega, fun j' h h3 => ?_⟩
  have h : 21 + j = 21 + j' := h
  have ej : j' = j := by omega
  subst ej
  refine ⟨cA, ⟨hAr, hRa⟩, ?_⟩
  rw [vp_cell_q]
  exact e1
theorem V_newqA {x : Int32} {N idx : Nat} (w : Cond.classLink μ.1.cls idx "[I" ∈ gtb) (hx : x = nI N) (hN : N < 100000000) (hA : A z) (h1 : k + 1 ≤ Rm.cells) (h2 : n + N ≤ Rm.slots) (d : D3 μ.2.1 pc (.anewarray idx) pc')
    (kk : V l D A Rm μ K (k + 1) (n + N) (z + 1) (va_up t z (26, N)) I R J (va_up B z (fun _ => none)) pc' lv (va_rf (some z) :: st)) : V l D A Rm μ K k n z t I R J B pc lv (.int x :: st) := by
  intro p e s m args below meth cd C X H locs ls hR hS hl
  obtain ⟨d1, rfl⟩ := d
  have hts := C.2.2.2.2.2.1
  have hc : x.toNatClampNeg = N := by rw [hx]; exact nI_clamp (by omega)
  have hXt := C.2.2.2.2.2.2.2.2
  have hover : (Cond.arrayOver (.array .int)).before args s = true := hXt.2.2.2.2.2.2
  subst hc
  refine W.anewA (t := .int) C.1 C.2.1 C.2.2.2.2.1 (hts _ w) hover rfl d1 rfl (by rw [hx]; exact nI_pos (by omega)) (by omega) h1 h2 fun cA kA comp f1 f2 f3 f4 => ?_
  have hz := hR.2.1
  generalize hH1 : H.push ({ cls := cA, slots := Array.replicate x.toNatClampNeg .null, vm := .none } : Cell) = H1
  have z1 : H1.size = H.size + 1 := by rw [← hH1, Array.size_push]
  have e1 : H1[H.size]? = some (arrV cA x.toNatClampNeg (fun _ => .null)) := by rw [← hH1, Array.getElem?_push_size, ← arrV_new]
  have o1 : ∀ q : Nat, q < H.size → H1[q]? = H[q]? := fun q hq => by rw [← hH1, Array.getElem?_push, if_neg (Nat.ne_of_lt hq)]
  rw [hz] at e1 z1 o1 ⊢
  have hAr : ArrOfT s cA (rty 5) := fun N z => ⟨(fun k h => by cases h), kA, f2, comp, f3⟩
  have hRa : rRA s cA 5 := ⟨f1, fun _ => ⟨kA, comp, f2, f3, f4⟩⟩
  refine kk p e s m args below meth cd C X H1 locs ls (hR.push hA (by omega) (fun q hq => o1 q hq) (fun b hb => va_up_ne _ _ hb) (fun f b hb => rfl) (fun f b hb => rfl) (fun _ _ => rfl) (fun b hb => va_up_ne _ _ hb) ?_) ⟨Nat.le_trans hS.1 (by omega), fun x h1 h2 => (o1 x (by have := hS.1; omega)).trans (hS.2.1 x h1 h2), hS.2.2⟩ hl
  rw [va_up_self, va_up_self]
  refine ⟨fun c' h1 h2 => by have h1 : 26 = c' + 1 := h1; omega, fun h => by have h : 26 = 20 := h; omega, fun j' h h3 => ?_⟩
  have h : 26 = 21 + j' := h
  have ej : j' = 5 := by omega
  subst ej
  refine ⟨cA, ⟨hAr, hRa⟩, ?_⟩
  rw [vp_cell_q]
  exact e1
-- returns
theorem V_iret {mc ms : Nat} {Φ : PP} {v : Int32} (d : D1 μ.2.1 pc .ireturn pc') (hr : μ.2.2.2 = some .int) (h1 : k ≤ mc) (h2 : n ≤ ms) (q : Φ (some (.int v)) z t I R J B) : V l D A Rm μ (KS D A mc ms Φ) k n z t I R J B pc lv [.int v] := by
  intro p e s m args below meth cd C X H locs ls hR hS hl
  refine W.widen h1 h2 ?_
  exact W.iret C.1 C.2.1 (C.2.2.2.1.trans hr) (fun u hu hW => ⟨⟨_, _, _, _, _, _, _, rfl, q, by rw [hu]; exact hR.moved hW.alike⟩, hS.F hu⟩) hS.2.2 d.1 C.2.2.2.2.2.2.1
theorem V_zret {mc ms : Nat} {Φ : PP} {v : Int32} (d : D1 μ.2.1 pc .ireturn pc') (hr : μ.2.2.2 = some .boolean) (hv : v = 0 ∨ v = 1) (h1 : k ≤ mc) (h2 : n ≤ ms) (q : Φ (some (.int v)) z t I R J B) : V l D A Rm μ (KS D A mc ms Φ) k n z t I R J B pc lv [.int v] := by
  intro p e s m args below meth cd C X H locs ls hR hS hl
  refine W.widen h1 h2 ?_
  exact W.zret C.1 C.2.1 (C.2.2.2.1.trans hr) (by rcases hv with rfl | rfl <;> rfl) (fun u hu hW => ⟨⟨_, _, _, _, _, _, _, rfl, q, by rw [hu]; exact hR.moved hW.alike⟩, hS.F hu⟩) hS.2.2 d.1 C.2.2.2.2.2.2.1
theorem V_vret {mc ms : Nat} {Φ : PP} (d : D1 μ.2.1 pc .return_ pc') (hr : μ.2.2.2 = none) (h1 : k ≤ mc) (h2 : n ≤ ms) (q : Φ none z t I R J B) : V l D A Rm μ (KS D A mc ms Φ) k n z t I R J B pc lv [] := by
  intro p e s m args below meth cd C X H locs ls hR hS hl
  refine W.widen h1 h2 ?_
  exact W.vret C.1 C.2.1 (C.2.2.2.1.trans hr) (fun u hu hW => ⟨⟨_, _, _, _, _, _, _, rfl, q, by rw [hu]; exact hR.moved hW.alike⟩, hS.F hu⟩) hS.2.2 d.1 C.2.2.2.2.2.2.1
theorem V_aret {mc ms : Nat} {Φ : PP} {v : Option Nat} {Cn : String} (d : D1 μ.2.1 pc .areturn pc') (hr : μ.2.2.2 = some (.object Cn)) (h1 : k ≤ mc) (h2 : n ≤ ms) (q : Φ (some (va_rf v)) z t I R J B) : V l D A Rm μ (KS D A mc ms Φ) k n z t I R J B pc lv [va_rf v] := by
  intro p e s m args below meth cd C X H locs ls hR hS hl
  refine W.widen h1 h2 ?_
  exact W.aret C.1 C.2.1 (C.2.2.2.1.trans hr) (Or.inl ⟨_, rfl⟩) (va_rf_or v) (fun u hu hW => ⟨⟨_, _, _, _, _, _, _, rfl, q, by rw [hu]; exact hR.moved hW.alike⟩, hS.F hu⟩) hS.2.2 d.1 C.2.2.2.2.2.2.1
-- calls
theorem V_objInit {idx a : Nat} (d : D3 μ.2.1 pc (.invokespecial idx) pc') (w1 : Cond.methodLink μ.1.cls idx Lib.objectInit ∈ gtb) (w2 : Cond.instanceMethod Lib.objectInit ∈ gtb) (w3 : Cond.code Lib.objectInit ⟨#[0xb1]⟩ 1 none ∈ gtb) (hf : 1 ≤ Rm.frames) (hlo : 20 ≤ Rm.locals) (hs : st.length ≤ 4)
    (kk : V l D A Rm μ K k n z t I R J B pc' lv st) : V l D A Rm μ K k n z t I R J B pc lv (va_rf (some a) :: st) := by
  intro p e s m args below meth cd C X H locs ls hR hS hl
  obtain ⟨d1, rfl⟩ := d
  have hts := C.2.2.2.2.2.1
  refine W.objInit C.1 C.2.1 C.2.2.2.2.1 (hts _ w1) (hts _ w2) (hts _ w3) rfl (by rw [C.2.2.1]; exact hl.1) rfl d1 hf ?_ (kk p e s m args below meth cd C X H locs ls hR hS hl)
  have := cat_sum st
  show 2 * 0 + _ + 12 ≤ _
  omega
theorem V_mmin {x y : Int32} {idx : Nat} (d : D3 μ.2.1 pc (.invokestatic idx) pc') (w1 : Cond.methodLink μ.1.cls idx Lib.Math.min.name ∈ gtb) (w2 : Cond.static Lib.Math.min.name ∈ gtb) (w3 : Cond.initialized "java/lang/Math" ∈ gtb) (w4 : Cond.code Lib.Math.min.name Lib.Math.min.code 2 (some .int) ∈ gtb) (hf : 1 ≤ Rm.frames) (hlo : 21 ≤ Rm.locals) (hc : k ≤ Rm.cells) (hsl : n ≤ Rm.slots) (hs : st.length ≤ 4)
    (kk : V l D A Rm μ K k n z t I R J B pc' lv (.int (if y < x then y else x) :: st)) : V l D A Rm μ K k n z t I R J B pc lv (.int y :: .int x :: st) := by
  intro p e s m args below meth cd C X H locs ls hR hS hl
  obtain ⟨d1, rfl⟩ := d
  have hts := C.2.2.2.2.2.1
  have := cat_sum st
  exact va_mmin C.1 C.2.1 (by rw [C.2.2.1]; exact hl.1.symm) C.2.2.2.2.1 (hts _ w1) (hts _ w2) (hts _ w3) (hts _ w4) hf (by omega) hc hsl d1 (kk p e s m args below meth cd C X H locs ls hR hS hl)
theorem V_mmax {x y : Int32} {idx : Nat} (d : D3 μ.2.1 pc (.invokestatic idx) pc') (w1 : Cond.methodLink μ.1.cls idx Lib.Math.max.name ∈ gtb) (w2 : Cond.static Lib.Math.max.name ∈ gtb) (w3 : Cond.initialized "java/lang/Math" ∈ gtb) (w4 : Cond.code Lib.Math.max.name Lib.Math.max.code 2 (some .int) ∈ gtb) (hf : 1 ≤ Rm.frames) (hlo : 21 ≤ Rm.locals) (hc : k ≤ Rm.cells) (hsl : n ≤ Rm.slots) (hs : st.length ≤ 4)
    (kk : V l D A Rm μ K k n z t I R J B pc' lv (.int (if x < y then y else x) :: st)) : V l D A Rm μ K k n z t I R J B pc lv (.int y :: .int x :: st) := by
  intro p e s m args below meth cd C X H locs ls hR hS hl
  obtain ⟨d1, rfl⟩ := d
  have hts := C.2.2.2.2.2.1
  have := cat_sum st
  exact va_mmax C.1 C.2.1 (by rw [C.2.2.1]; exact hl.1.symm) C.2.2.2.2.1 (hts _ w1) (hts _ w2) (hts _ w3) (hts _ w4) hf (by omega) hc hsl d1 (kk p e s m args below meth cd C X H locs ls hR hS hl)
/-- behind a call -/
theorem call_back {p : Program} {e : Env} {s : State} {m : MethodId} {args : Array Value} {below : List Frame} {meth : Method} {cd : Code} {H : Heap} {locs : List Loc} {ls : Array Slot} {mc' ms' : Nat} {rest : List Value} {a : Array Value} (C : Cx μ p s m args meth cd) (X : K.2 s args) (hS : va_S A s.heap H locs) (hl : lp ls μ.2.2.1 lv)
    (hr : va_Run p l e Rm s m args below meth cd H locs k n mc' ms' (F0 m pc ls st) rest (Qcm D A (fun r z t I R J B => V l D A Rm μ K (k + mc') (n + ms') z t I R J B (pc + 3) lv (psh r rest)) a) A) : W p l e Rm s m args below meth cd H locs k n (K.1 below args s) (F0 m pc ls st) := by
  intro T hT Xs
  obtain ⟨v, st₀, u, T', L, h0, X', hL, e1, e2, ⟨⟨r, z', t', I', R', J', B', hv, hV, hR'⟩, hz, hk⟩, stp⟩ := hr T hT Xs
  cases hv
  rw [h0] at hz hk
  have hal : u.vm.Alike s.vm := by rw [← e2]; exact X'.warmed.alike.symm
  have hS' : va_S A s.heap T'.heap (locs ++ L) := ⟨Nat.le_trans hS.1 (by rw [e1]; exact hz), fun q h1 h2 => by rw [e1, hk q (Nat.lt_of_lt_of_le h1 hS.1) h2]; exact hS.2.1 q h1 h2, fun q hq => by
      rcases List.mem_append.mp hq with h | h
      · exact hS.2.2 q h
      · exact hL q h⟩
  have hR2 : Rep D A s z' t' I' R' J' B' T'.heap := by rw [e1]; exact hR'.moved hal
  obtain ⟨t2, a1, b1⟩ := hV p e s m args below meth cd C X T'.heap _ ls hR2 hS' hl T' rfl X'
  rw [psh_eq] at stp
  exact ⟨t2, stp t2 a1, b1⟩
/-- the callee's room fits the caller's -/
abbrev Rfit (Rm : Room) (k n d' mc' ms' : Nat) (ν : Meth) : Prop := (d' + 1 ≤ Rm.frames ∧ 8 + (ν.2.2.1 + 11) + 34 * d' ≤ Rm.locals) ∧ k + mc' ≤ Rm.cells ∧ n + ms' ≤ Rm.slots
theorem V_invV {idx a na d' mc' ms' : Nat} {ν : Meth} {As rest : List Value} (M : MV ν na) (w : Cond.methodLink μ.1.cls idx ν.1 ∈ gtb) (d : D3 μ.2.1 pc (.invokevirtual idx) pc') {c T : Nat} (hc : c < 13) (hcc : Cc c = ν.1.cls) (hT : c + 1 = T) (ht : (t a).1 = T) (hn : As.length = na) (hst : st = As.reverse ++ va_rf (some a) :: rest) (hrs : rest.length ≤ 4) (hf : Rfit Rm k n d' mc' ms' ν)
    (sem : Sem l D A d' mc' ms' ν (va_rf (some a) :: As) z t I R J B (fun r z t I R J B => V l D A Rm μ K (k + mc') (n + ms') z t I R J B pc' lv (psh r rest))) : V l D A Rm μ K k n z t I R J B pc lv st := by
  intro p e s m args below meth cd C X H locs ls hR hS hl
  subst hT
  obtain ⟨d1, rfl⟩ := d
  obtain ⟨hx, hb, hml, hr, hown, hts, hlk, hnam, hXt⟩ := id C
  obtain ⟨m1, m2, m3, m4, m5⟩ := M
  have hcl := (cl_ok c hc).1
  have hG : GoodIn gtb (wsV μ.1.cls idx ν.1.cls ν.1 (wsm ν)) := good_in (fun w' hw' => by
    simp only [wsV, wsm, List.cons_append, List.nil_append, List.mem_cons] at hw'
    rcases hw' with rfl | rfl | rfl | rfl | rfl | h
    · exact w
    · exact m1
    · exact m2
    · exact m3
    · exact m4
    · exact h)
  refine call_back C X hS hl (a := (Value.ref a :: As).toArray) (va_runV (Ts := gtb) (nL := μ.2.2.1) (As := As) (rest := rest) ⟨hx, hb, hml, hown, hts⟩ sem (cwV na hts hG rfl rfl rfl ⟨rfl, m5⟩ hf.1) ⟨blind, ?_, fun U hU hW => ⟨rfl, Xt.moved hW hXt, by rw [hU]; exact hR.moved hW.alike⟩⟩ rfl hn hl.1 hst (lv_room (by have := cat_sum rest; omega)) d1 hf.2)
  obtain ⟨cell, g1, g2, g3⟩ := va_recv hR.1 (hR.obj ht hc) (ci := c) (q0 := 0) hcl rfl
  exact ⟨cell, g1, g2, by rw [← hcc]; exact g3⟩
theorem V_invS {idx na d' mc' ms' : Nat} {ν : Meth} {As rest : List Value} (M : MS ν na) (w : Cond.methodLink μ.1.cls idx ν.1 ∈ gtb) (d : D3 μ.2.1 pc (.invokestatic idx) pc') (hown' : ν.1.cls = μ.1.cls) (hn : As.length = na) (hst : st = As.reverse ++ rest) (hrs : rest.length ≤ 4) (hf : Rfit Rm k n d' mc' ms' ν)
    (sem : Sem l D A d' mc' ms' ν As z t I R J B (fun r z t I R J B => V l D A Rm μ K (k + mc') (n + ms') z t I R J B pc' lv (psh r rest))) : V l D A Rm μ K k n z t I R J B pc lv st := by
  intro p e s m args below meth cd C X H locs ls hR hS hl
  obtain ⟨d1, rfl⟩ := d
  obtain ⟨hx, hb, hml, hr, hown, hts, hlk, hnam, hXt⟩ := id C
  obtain ⟨m1, m3, m4, m5⟩ := M
  have hG : GoodIn gtb (wsS μ.1.cls idx ν.1 (wsm ν)) := good_in (fun w' hw' => by
    simp only [wsS, wsm, List.cons_append, List.nil_append, List.mem_cons] at hw'
    rcases hw' with rfl | rfl | rfl | rfl | h
    · exact w
    · exact m1
    · rw [← hown']; exact m3
    · exact m4
    · exact h)
  exact call_back C X hS hl (a := As.toArray) (va_runS (Ts := gtb) (nL := μ.2.2.1) (As := As) (rest := rest) ⟨hx, hb, hml, hown, hts⟩ sem (cwS na hts hG rfl rfl rfl ⟨hown', m5⟩ hf.1) ⟨blind, fun U hU hW => ⟨rfl, Xt.moved hW hXt, by rw [hU]; exact hR.moved hW.alike⟩⟩ rfl hn hl.1 hst (lv_room (by have := cat_sum rest; omega)) d1 hf.2)
theorem V_invI {idx a na d' mc' ms' : Nat} {ν : Meth} {As rest : List Value} (M : MC ν na) (w : Cond.methodLink μ.1.cls idx ν.1 ∈ gtb) (d : D3 μ.2.1 pc (.invokespecial idx) pc') (hn : As.length = na) (hst : st = As.reverse ++ va_rf (some a) :: rest) (hrs : rest.length ≤ 4) (hf : Rfit Rm k n d' mc' ms' ν)
    (sem : Sem l D A d' mc' ms' ν (va_rf (some a) :: As) z t I R J B (fun r z t I R J B => V l D A Rm μ K (k + mc') (n + ms') z t I R J B pc' lv (psh r rest))) : V l D A Rm μ K k n z t I R J B pc lv st := by
  intro p e s m args below meth cd C X H locs ls hR hS hl
  obtain ⟨d1, rfl⟩ := d
  obtain ⟨hx, hb, hml, hr, hown, hts, hlk, hnam, hXt⟩ := id C
  obtain ⟨m1, m3, m4, ⟨m6, m7⟩, m5⟩ := M
  obtain ⟨ny, nb, nl, nr⟩ := ν
  have m7 : nr = none := m7
  subst m7
  have hG : GoodIn gtb (wsm (ny, nb, nl, none)) := good_in (fun w' hw' => by
    simp only [wsm, List.mem_cons] at hw'
    rcases hw' with rfl | h
    · exact m4
    · exact h)
  exact call_back C X hS hl (a := (Value.ref a :: As).toArray) (va_runI (Ts := gtb) (nL := μ.2.2.1) (As := As) (rest := rest) ⟨hx, hb, hml, hown, hts⟩ sem (cwI na hts hG rfl rfl rfl (hts _ m3) (hts _ w) (hts _ m1) m6 m5 hf.1) ⟨blind, fun U hU hW => ⟨rfl, Xt.moved hW hXt, by rw [hU]; exact hR.moved hW.alike⟩⟩ rfl hn hl.1 hst (lv_room (by have := cat_sum rest; omega)) d1 hf.2)
theorem V_invSN {idx na d' mc' ms' : Nat} {ν : Meth} {As rest : List Value} {host : String} (M : MS ν na) (w : Cond.methodLinkNest μ.1.cls idx ν.1 host ∈ nests) (d : D3 μ.2.1 pc (.invokestatic idx) pc') (hn : As.length = na) (hst : st = As.reverse ++ rest) (hrs : rest.length ≤ 4) (hf : Rfit Rm k n d' mc' ms' ν)
    (sem : Sem l D A d' mc' ms' ν As z t I R J B (fun r z t I R J B => V l D A Rm μ K (k + mc') (n + ms') z t I R J B pc' lv (psh r rest))) : V l D A Rm μ K k n z t I R J B pc lv st := by
  intro p e s m args below meth cd C X H locs ls hR hS hl
  obtain ⟨d1, rfl⟩ := d
  obtain ⟨hx, hb, hml, hr, hown, hts, hlk, hnam, hXt⟩ := id C
  obtain ⟨m1, m3, m4, m5⟩ := M
  have hG : GoodIn gtb (wsm ν) := good_in (fun w' hw' => by
    simp only [wsm, List.mem_cons] at hw'
    rcases hw' with rfl | h
    · exact m4
    · exact h)
  exact call_back C X hS hl (a := As.toArray) (va_runSN (Ts := gtb) (nL := μ.2.2.1) (As := As) (rest := rest) ⟨hx, hb, hml, hown, hts⟩ sem ⟨va_cnB na hts hG rfl rfl rfl (hXt.1 _ w) (hts _ m3) m5 hf.1, hts _ m1, trivial⟩ ⟨blind, fun U hU hW => ⟨rfl, Xt.moved hW hXt, by rw [hU]; exact hR.moved hW.alike⟩⟩ rfl hn hl.1 hst (lv_room (by have := cat_sum rest; omega)) d1 hf.2)
theorem V_invIN {idx a na d' mc' ms' : Nat} {ν : Meth} {As rest : List Value} {host : String} (M : MC ν na) (w : Cond.methodLinkNest μ.1.cls idx ν.1 host ∈ nests) (d : D3 μ.2.1 pc (.invokespecial idx) pc') (hn : As.length = na) (hst : st = As.reverse ++ va_rf (some a) :: rest) (hrs : rest.length ≤ 4) (hf : Rfit Rm k n d' mc' ms' ν)
    (sem : Sem l D A d' mc' ms' ν (va_rf (some a) :: As) z t I R J B (fun r z t I R J B => V l D A Rm μ K (k + mc') (n + ms') z t I R J B pc' lv (psh r rest))) : V l D A Rm μ K k n z t I R J B pc lv st := by
  intro p e s m args below meth cd C X H locs ls hR hS hl
  obtain ⟨d1, rfl⟩ := d
  obtain ⟨hx, hb, hml, hr, hown, hts, hlk, hnam, hXt⟩ := id C
  obtain ⟨m1, m3, m4, ⟨m6, m7⟩, m5⟩ := M
  obtain ⟨ny, nb, nl, nr⟩ := ν
  have m7 : nr = none := m7
  subst m7
  have hG : GoodIn gtb (wsm (ny, nb, nl, none)) := good_in (fun w' hw' => by
    simp only [wsm, List.mem_cons] at hw'
    rcases hw' with rfl | h
    · exact m4
    · exact h)
  exact call_back C X hS hl (a := (Value.ref a :: As).toArray) (va_runIN (Ts := gtb) (nL := μ.2.2.1) (As := As) (rest := rest) ⟨hx, hb, hml, hown, hts⟩ sem ⟨va_cnB na hts hG rfl rfl rfl (hXt.1 _ w) (hts _ m3) m5 hf.1, m6, hts _ m1⟩ ⟨blind, fun U hU hW => ⟨rfl, Xt.moved hW hXt, by rw [hU]; exact hR.moved hW.alike⟩⟩ rfl hn hl.1 hst (lv_room (by have := cat_sum rest; omega)) d1 hf.2)
end MAKE
end
section
-- ENTRY OF A METHOD, SWITCHES
def EntOk : List Value → List (Option Value) → Prop
  | [], lv => ∀ o ∈ lv, o = none
  | _ :: _, [] => False
  | v :: vs, o :: lv => o = some v ∧ ((v.category = 1 ∧ EntOk vs lv) ∨ (v.category = 2 ∧ ∃ lv', lv = none :: lv' ∧ EntOk vs lv'))
theorem EntOk.len : ∀ (av : List Value) (lv : List (Option Value)), EntOk av lv → (lg_sl av).length ≤ lv.length
  | [], lv, _ => Nat.zero_le _
  | _ :: _, [], h => absurd h (fun q => q)
  | v :: vs, o :: lv, h => by
    obtain ⟨-, ⟨hc, h⟩ | ⟨hc, lv', rfl, h⟩⟩ := h
    · have h1 := EntOk.len vs lv h
      simp only [lg_sl, List.flatMap_cons, List.length_append, List.length_cons] at h1 ⊢
      rw [if_neg (by omega)]
      simp only [List.length_cons, List.length_nil]
      omega
    · have h1 := EntOk.len vs lv' h
      simp only [lg_sl, List.flatMap_cons, List.length_append, List.length_cons] at h1 ⊢
      rw [if_pos hc]
      simp only [List.length_cons, List.length_nil]
      omega
theorem EntOk.args : ∀ (av : List Value) (lv : List (Option Value)) (i : Nat), EntOk av lv → ∀ (j : Nat) (v : Value), lv[j]? = some (some v) → (i + j, v) ∈ lv_args i av
  | [], lv, i, h, j, v, hj => by
    have := h _ (List.mem_of_getElem? hj)
    cases this
  | _ :: _, [], _, h, _, _, _ => absurd h (fun q => q)
  | w :: vs, o :: lv, i, h, j, v, hj => by
    obtain ⟨ho, ⟨hc, h⟩ | ⟨hc, lv', rfl, h⟩⟩ := h
    · simp only [lv_args]
      rw [if_neg (by omega)]
      cases j with
      | zero =>
        simp only [List.getElem?_cons_zero, Option.some.injEq] at hj
        rw [ho] at hj
        cases hj
        exact List.mem_cons_self
      | succ j =>
        rw [List.getElem?_cons_succ] at hj
        have := EntOk.args vs lv (i + 1) h j v hj
        rw [show i + (j + 1) = i + 1 + j by omega]
        exact List.mem_cons_of_mem _ this
    · simp only [lv_args]
      rw [if_pos hc]
      match j, hj with
      | 0, hj =>
        simp only [List.getElem?_cons_zero, Option.some.injEq] at hj
        rw [ho] at hj
        cases hj
        exact List.mem_cons_self
      | 1, hj => simp at hj
      | j + 2, hj =>
        rw [List.getElem?_cons_succ, List.getElem?_cons_succ] at hj
        have := EntOk.args vs lv' (i + 2) h j v hj
        rw [show i + (j + 2) = i + 2 + j by omega]
        exact List.mem_cons_of_mem _ this
theorem Sem.run {l : Launch} {D : va_G} {A : Nat → Prop} {d mc ms : Nat} {μ : Meth} {av : List Value} {z : Nat} {t : TT} {I : MI} {R : MR} {J : MI} {B : MR} {Φ : PP} (lv : List (Option Value)) (hy : plainName μ.1.cls = true) (hn : lv.length = μ.2.2.1) (he : EntOk av lv)
    (kk : V l D A (rmm d mc ms) μ (KS D A mc ms Φ) 0 0 z t I R J B 0 lv []) : Sem l D A d mc ms μ av z t I R J B Φ :=
  Sem.of_V lv hy ⟨by rw [← hn]; exact EntOk.len av lv he, fun i v h => by have := EntOk.args av lv 0 he i v h; rwa [Nat.zero_add] at this⟩ kk
theorem ent_nil : EntOk [] [] := fun _ h => absurd h List.not_mem_nil
theorem ent_none {lv : List (Option Value)} (h : EntOk [] lv) : EntOk [] (none :: lv) := fun o ho => by
  rcases List.mem_cons.mp ho with rfl | ho
  · rfl
  · exact h o ho
theorem ent_i {x : Int32} {vs : List Value} {lv : List (Option Value)} (h : EntOk vs lv) : EntOk (.int x :: vs) (some (.int x) :: lv) := ⟨rfl, Or.inl ⟨rfl, h⟩⟩
theorem ent_r {r : Option Nat} {vs : List Value} {lv : List (Option Value)} (h : EntOk vs lv) : EntOk (va_rf r :: vs) (some (va_rf r) :: lv) := ⟨rfl, Or.inl ⟨cat_rf r, h⟩⟩
theorem ent_l {x : Int64} {vs : List Value} {lv : List (Option Value)} (h : EntOk vs lv) : EntOk (.long x :: vs) (some (.long x) :: none :: lv) := ⟨rfl, Or.inr ⟨rfl, lv, rfl, h⟩⟩
section SW
variable {l : Launch} {D : va_G} {A : Nat → Prop} {Rm : Room} {μ : Meth} {K : Kx} {k n z : Nat} {t : TT} {I : MI} {R : MR} {J : MI} {B : MR} {pc pc' tgt : Nat} {lv : List (Option Value)} {st : List Value}
theorem V_tsw {x : Int32} {dflt hi : Int} {offs : Array Int} {len N dt : Nat} (tg : Nat → Nat) (d : decode μ.2.1 pc = .ok (.tableswitch dflt 0 hi offs, len)) (hN : hi + 1 = (N : Int)) (hN2 : N < 1000) (hd : (pc : Int) + dflt = (dt : Int)) (ho : ∀ i, i < N → offs[i]? = some ((tg i : Int) - (pc : Int)))
    (ki : ∀ i, i < N → x = nI i → V l D A Rm μ K k n z t I R J B (tg i) lv st) (ko : (∀ i, i < N → x ≠ nI i) → V l D A Rm μ K k n z t I R J B dt lv st) : V l D A Rm μ K k n z t I R J B pc lv (.int x :: st) := by
  intro p e s m args below meth c C X H locs ls hR hS hl
  by_cases h : ∃ i, i < N ∧ x = nI i
  · obtain ⟨i, hi, hx⟩ := h
    have hxi : x.toInt = (i : Int) := by rw [hx]; exact nI_toInt (by omega)
    refine lv_tableIn C.1 C.2.1 d (by omega) (by omega) (off := (tg i : Int) - (pc : Int)) ?_ (tgt := tg i) (by omega) (ki i hi hx p e s m args below meth c C X H locs ls hR hS hl)
    rw [show (x.toInt - 0).toNat = i by omega]
    exact ho i hi
  · refine lv_tableOut C.1 C.2.1 d ?_ hd (ko (fun i hi hx => h ⟨i, hi, hx⟩) p e s m args below meth c C X H locs ls hR hS hl)
    rcases Int.lt_or_le x.toInt 0 with h0 | h0
    · exact Or.inl h0
    · refine Or.inr ?_
      rcases Int.lt_or_le hi x.toInt with h1 | h1
      · exact h1
      · exfalso
        refine h ⟨x.toInt.toNat, by omega, ?_⟩
        apply Int32.toInt_inj.mp
        rw [nI_toInt (by omega)]
        omega
theorem V_lsw {x : Int32} {dflt : Int} {ps : Array (Int × Int)} {len dt : Nat} (d : decode μ.2.1 pc = .ok (.lookupswitch dflt ps, len)) (hp : (ps.toList.zip (ps.toList.drop 1)).all (fun (a, next) => a.1 < next.1) = true) (off : Int) (ho : Op.lookupswitch.offset ps.toList dflt x.toInt = off) (ht : (pc : Int) + off = (dt : Int)) (kk : V l D A Rm μ K k n z t I R J B dt lv st) : V l D A Rm μ K k n z t I R J B pc lv (.int x :: st) := by
  intro p e s m args below meth c C X H locs ls hR hS hl
  exact lv_lookup C.1 C.2.1 d hp ho ht (kk p e s m args below meth c C X H locs ls hR hS hl)
end SW
-- true and false as ints
def bI (b : Prop) [Decidable b] : Int32 := if b then 1 else 0
theorem bI_t {b : Prop} [Decidable b] (h : b) : bI b = 1 := if_pos h
theorem bI_f {b : Prop} [Decidable b] (h : ¬ b) : bI b = 0 := if_neg h
theorem bI_01 (b : Prop) [Decidable b] : bI b = 0 ∨ bI b = 1 := by
  by_cases h : b
  · exact Or.inr (bI_t h)
  · exact Or.inl (bI_f h)
theorem bI_0 {b : Prop} [Decidable b] : bI b = 0 ↔ ¬ b := by
  by_cases h : b
  · rw [bI_t h]; exact ⟨fun q => absurd q (by decide), fun q => absurd h q⟩
  · rw [bI_f h]; exact ⟨fun _ => h, fun _ => rfl⟩
theorem bI_n0 {b : Prop} [Decidable b] : ¬ bI b = 0 ↔ b := by
  rw [bI_0, Decidable.not_not]
/-- fewer locals known -/
def lsub : List (Option Value) → List (Option Value) → Prop
  | [], _ => True
  | none :: a, [] => lsub a []
  | some _ :: _, [] => False
  | none :: a, _ :: b => lsub a b
  | some v :: a, o :: b => o = some v ∧ lsub a b
theorem lsub.get : ∀ (a b : List (Option Value)), lsub a b → ∀ (i : Nat) (v : Value), a[i]? = some (some v) → b[i]? = some (some v)
  | [], _, _, i, v, h => by simp at h
  | none :: a, [], hs, i, v, h => by
    cases i with
    | zero => simp at h
    | succ i => rw [List.getElem?_cons_succ] at h; have := lsub.get a [] hs i v h; simp at this
  | some _ :: _, [], hs, _, _, _ => absurd hs (fun q => q)
  | none :: a, o :: b, hs, i, v, h => by
    cases i with
    | zero => simp at h
    | succ i => rw [List.getElem?_cons_succ] at h ⊢; exact lsub.get a b hs i v h
  | some w :: a, o :: b, hs, i, v, h => by
    cases i with
    | zero => rw [List.getElem?_cons_zero] at h ⊢; rw [hs.1]; exact h
    | succ i => rw [List.getElem?_cons_succ] at h ⊢; exact lsub.get a b hs.2 i v h
theorem ls0 {b : List (Option Value)} : lsub [] b := trivial
theorem lsS {v : Value} {a b : List (Option Value)} (h : lsub a b) : lsub (some v :: a) (some v :: b) := ⟨rfl, h⟩
theorem lsN {o : Option Value} {a b : List (Option Value)} (h : lsub a b) : lsub (none :: a) (o :: b) := h
theorem lsE {v : Value} {o : Option Value} {a b : List (Option Value)} (e : o = some v) (h : lsub a b) : lsub (some v :: a) (o :: b) := ⟨e, h⟩
section MORE
variable {l : Launch} {D : va_G} {A : Nat → Prop} {Rm : Room} {μ : Meth} {K : Kx} {k n z : Nat} {t : TT} {I : MI} {R : MR} {J : MI} {B : MR} {pc pc' tgt : Nat} {lv lv' : List (Option Value)} {st : List Value}
theorem V.sub (h : lsub lv' lv) (kk : V l D A Rm μ K k n z t I R J B pc lv' st) : V l D A Rm μ K k n z t I R J B pc lv st := by
  intro p e s m args below meth c C X H locs ls hR hS hl
  exact kk p e s m args below meth c C X H locs ls hR hS ⟨hl.1, hl.2.1, fun i v q => hl.2.2 i v (lsub.get lv' lv h i v q)⟩
/-- a contract's end may be widened -/
theorem Sem.mono {d mc ms : Nat} {av : List Value} {Φ Ψ : PP} (h : Sem l D A d mc ms μ av z t I R J B Φ) (hq : ∀ r z t I R J B, Φ r z t I R J B → Ψ r z t I R J B) : Sem l D A d mc ms μ av z t I R J B Ψ := by
  unfold Sem Met MetFree at h ⊢
  intro p e ha hc hk s m args below hf happ hP hT
  obtain ⟨kk, o, h1, h2, h3, ⟨⟨r, z', t', I', R', J', B', g1, g2, g3⟩, hF⟩, hL⟩ := h p e ha hc hk s m args below hf happ hP hT
  exact ⟨kk, o, h1, h2, h3, ⟨⟨r, z', t', I', R', J', B', g1, hq _ _ _ _ _ _ _ g2, g3⟩, hF⟩, hL⟩
end MORE
end
section
-- LEAVES of the class
theorem i_le {x y : Int32} : x ≤ y ↔ x.toInt ≤ y.toInt := Int32.le_iff_toInt_le
theorem i_lt {x y : Int32} : x < y ↔ x.toInt < y.toInt := Int32.lt_iff_toInt_lt
theorem i_ext {x : Int32} {i : Nat} (h : x.toInt = (i : Int)) (hi : i < 2147483648) : x = nI i := Int32.toInt_inj.mp (by rw [h, nI_toInt (by omega)])
/-- a number between 0 and a bound is the image of one -/
theorem i_nat {x : Int32} (h : 0 ≤ x) : ∃ j : Nat, x = nI j ∧ x.toInt = (j : Int) ∧ j < 2147483648 := by
  have h1 := i_le.mp h
  have h2 := x.toInt_lt
  have h0 : (0 : Int32).toInt = 0 := rfl
  refine ⟨x.toInt.toNat, i_ext (by omega) (by omega), by omega, by omega⟩
def jmin (x y : Int32) : Int32 := if y < x then y else x
def jmax (x y : Int32) : Int32 := if x < y then y else x
theorem V_jmin {l : Launch} {D : va_G} {A : Nat → Prop} {Rm : Room} {μ : Meth} {K : Kx} {k n z : Nat} {t : TT} {I : MI} {R : MR} {J : MI} {B : MR} {pc pc' : Nat} {lv : List (Option Value)} {st : List Value} {x y : Int32} {idx : Nat} (d : D3 μ.2.1 pc (.invokestatic idx) pc') (w1 : Cond.methodLink μ.1.cls idx Lib.Math.min.name ∈ gtb) (hf : 1 ≤ Rm.frames) (hlo : 21 ≤ Rm.locals) (hc : k ≤ Rm.cells) (hsl : n ≤ Rm.slots) (hs : st.length ≤ 4)
    (kk : V l D A Rm μ K k n z t I R J B pc' lv (.int (jmin x y) :: st)) : V l D A Rm μ K k n z t I R J B pc lv (.int y :: .int x :: st) := by
  unfold jmin at kk
  exact V_mmin d w1 w_min1 wi_Math w_min2 hf hlo hc hsl hs kk
theorem V_jmax {l : Launch} {D : va_G} {A : Nat → Prop} {Rm : Room} {μ : Meth} {K : Kx} {k n z : Nat} {t : TT} {I : MI} {R : MR} {J : MI} {B : MR} {pc pc' : Nat} {lv : List (Option Value)} {st : List Value} {x y : Int32} {idx : Nat} (d : D3 μ.2.1 pc (.invokestatic idx) pc') (w1 : Cond.methodLink μ.1.cls idx Lib.Math.max.name ∈ gtb) (hf : 1 ≤ Rm.frames) (hlo : 21 ≤ Rm.locals) (hc : k ≤ Rm.cells) (hsl : n ≤ Rm.slots) (hs : st.length ≤ 4)
    (kk : V l D A Rm μ K k n z t I R J B pc' lv (.int (jmax x y) :: st)) : V l D A Rm μ K k n z t I R J B pc lv (.int y :: .int x :: st) := by
  unfold jmax at kk
  exact V_mmax d w1 w_max1 wi_Math w_max2 hf hlo hc hsl hs kk
theorem sem_X11_within {l : Launch} {D : va_G} {A : Nat → Prop} {z : Nat} {t : TT} {I : MI} {R : MR} {J : MI} {B : MR} {x lo hi : Int32} {Φ : PP}  (q : Φ (some (.int (bI (lo ≤ x ∧ x ≤ hi)))) z t I R J B) : Sem l D A 0 0 0 mX11_within [.int x, .int lo, .int hi] z t I R J B Φ := by
  refine Sem.run [some (.int x), some (.int lo), some (.int hi)] (by decide) rfl (ent_i (ent_i (ent_i ent_nil))) ?_
  refine V_iload dX11_within_0 rfl ?_
  refine V_iload dX11_within_1 rfl ?_
  refine V_icmp_gt dX11_within_2 (fun hc2 => ?_) (fun hc2 => ?_)
  · refine V_const dX11_within_14 ?_
    exact V_zret dX11_within_15 rfl (by first | exact Or.inl rfl | exact Or.inr rfl) (by decide) (by decide) (by rw [bI_f (by rw [i_le]; rw [i_lt] at hc2; omega)] at q; exact q)
  · refine V_iload dX11_within_5 rfl ?_
    refine V_iload dX11_within_6 rfl ?_
    refine V_icmp_gt dX11_within_7 (fun hc7 => ?_) (fun hc7 => ?_)
    · refine V_const dX11_within_14 ?_
      exact V_zret dX11_within_15 rfl (by first | exact Or.inl rfl | exact Or.inr rfl) (by decide) (by decide) (by rw [bI_f (by rw [i_le, i_le]; rw [i_lt] at hc7; omega)] at q; exact q)
    · refine V_const dX11_within_10 ?_
      refine V_goto dX11_within_11 ?_
      exact V_zret dX11_within_15 rfl (by first | exact Or.inl rfl | exact Or.inr rfl) (by decide) (by decide) (by rw [bI_t (by rw [i_le, i_le]; rw [i_lt] at hc7 hc2; omega)] at q; exact q)
theorem sem_X3_isThere {l : Launch} {D : va_G} {A : Nat → Prop} {z : Nat} {t : TT} {I : MI} {R : MR} {J : MI} {B : MR} {o : Nat} {Φ : PP} (ho : (t o).1 = 4) (q : Φ (some (.int (bI (I 307 o = -1)))) z t I R J B) : Sem l D A 0 0 0 mX3_isThere [va_rf (some o)] z t I R J B Φ := by
  refine Sem.run [some (va_rf (some o))] (by decide) rfl (ent_r ent_nil) ?_
  refine V_aload dX3_isThere_0 rfl ?_
  refine V_getI fk_X3_34 dX3_isThere_1 (by assumption) ?_
  refine V_const dX3_isThere_4 ?_
  refine V_icmp_ne dX3_isThere_5 (fun hc5 => ?_) (fun hc5 => ?_)
  · refine V_const dX3_isThere_12 ?_
    exact V_zret dX3_isThere_13 rfl (by first | exact Or.inl rfl | exact Or.inr rfl) (by decide) (by decide) (by rw [bI_f hc5] at q; exact q)
  · refine V_const dX3_isThere_8 ?_
    refine V_goto dX3_isThere_9 ?_
    exact V_zret dX3_isThere_13 rfl (by first | exact Or.inl rfl | exact Or.inr rfl) (by decide) (by decide) (by rw [bI_t hc5] at q; exact q)
theorem sem_X3_isThereBy {l : Launch} {D : va_G} {A : Nat → Prop} {z : Nat} {t : TT} {I : MI} {R : MR} {J : MI} {B : MR} {o : Nat} {w : Int32} {Φ : PP} (ho : (t o).1 = 4) (q : Φ (some (.int (bI (I 307 o = -1 ∨ I 307 o ≤ w)))) z t I R J B) : Sem l D A 0 0 0 mX3_isThereBy [va_rf (some o), .int w] z t I R J B Φ := by
  refine Sem.run [some (va_rf (some o)), some (.int w)] (by decide) rfl (ent_r (ent_i ent_nil)) ?_
  refine V_aload dX3_isThereBy_0 rfl ?_
  refine V_getI fk_X3_34 dX3_isThereBy_1 (by assumption) ?_
  refine V_const dX3_isThereBy_4 ?_
  refine V_icmp_eq dX3_isThereBy_5 (fun hc5 => ?_) (fun hc5 => ?_)
  · refine V_const dX3_isThereBy_16 ?_
    refine V_goto dX3_isThereBy_17 ?_
    exact V_zret dX3_isThereBy_21 rfl (by first | exact Or.inl rfl | exact Or.inr rfl) (by decide) (by decide) (by rw [bI_t (Or.inl hc5)] at q; exact q)
  · refine V_aload dX3_isThereBy_8 rfl ?_
    refine V_getI fk_X3_34 dX3_isThereBy_9 (by assumption) ?_
    refine V_iload dX3_isThereBy_12 rfl ?_
    refine V_icmp_gt dX3_isThereBy_13 (fun hc13 => ?_) (fun hc13 => ?_)
    · refine V_const dX3_isThereBy_20 ?_
      exact V_zret dX3_isThereBy_21 rfl (by first | exact Or.inl rfl | exact Or.inr rfl) (by decide) (by decide) (by rw [bI_f (fun h => h.elim hc5 (fun h => by rw [i_lt] at hc13; rw [i_le] at h; omega))] at q; exact q)
    · refine V_const dX3_isThereBy_16 ?_
      refine V_goto dX3_isThereBy_17 ?_
      exact V_zret dX3_isThereBy_21 rfl (by first | exact Or.inl rfl | exact Or.inr rfl) (by decide) (by decide) (by rw [bI_t (Or.inr (by rw [i_lt] at hc13; rw [i_le]; omega))] at q; exact q)
theorem sem_X5_wants {l : Launch} {D : va_G} {A : Nat → Prop} {z : Nat} {t : TT} {I : MI} {R : MR} {J : MI} {B : MR} {o : Nat} {Φ : PP} (ho : (t o).1 = 6) (q : Φ (some (.int (7 * I 501 o))) z t I R J B) : Sem l D A 0 0 0 mX5_wants [va_rf (some o)] z t I R J B Φ := by
  refine Sem.run [some (va_rf (some o))] (by decide) rfl (ent_r ent_nil) ?_
  refine V_const dX5_wants_0 ?_
  refine V_aload dX5_wants_2 rfl ?_
  refine V_getI fk_X5_15 dX5_wants_3 (by assumption) ?_
  refine V_imul dX5_wants_6 ?_
  exact V_iret dX5_wants_7 rfl (by decide) (by decide) q
theorem sem_X4_isFull {l : Launch} {D : va_G} {A : Nat → Prop} {z : Nat} {t : TT} {I : MI} {R : MR} {J : MI} {B : MR} {o : Nat} {Φ : PP} (ho : (t o).1 = 5) (q : Φ (some (.int (bI (300 ≤ I 401 o)))) z t I R J B) : Sem l D A 0 0 0 mX4_isFull [va_rf (some o)] z t I R J B Φ := by
  refine Sem.run [some (va_rf (some o))] (by decide) rfl (ent_r ent_nil) ?_
  refine V_aload dX4_isFull_0 rfl ?_
  refine V_getI fk_X4_17 dX4_isFull_1 (by assumption) ?_
  refine V_const dX4_isFull_4 ?_
  refine V_icmp_lt dX4_isFull_7 (fun hc7 => ?_) (fun hc7 => ?_)
  · refine V_const dX4_isFull_14 ?_
    exact V_zret dX4_isFull_15 rfl (by first | exact Or.inl rfl | exact Or.inr rfl) (by decide) (by decide) (by rw [bI_f (by rw [i_le]; rw [i_lt] at hc7; omega)] at q; exact q)
  · refine V_const dX4_isFull_10 ?_
    refine V_goto dX4_isFull_11 ?_
    exact V_zret dX4_isFull_15 rfl (by first | exact Or.inl rfl | exact Or.inr rfl) (by decide) (by decide) (by rw [bI_t (by rw [i_le]; rw [i_lt] at hc7; omega)] at q; exact q)
/-- byte i of a number, the highest first -/
def jb (x i : Int32) : Int32 := (x.toUInt32 >>> ((8 * (3 - i)).toUInt32 &&& Int32.toUInt32 31)).toInt32 &&& 255
theorem sem_X11_byteOf {l : Launch} {D : va_G} {A : Nat → Prop} {z : Nat} {t : TT} {I : MI} {R : MR} {J : MI} {B : MR} {x i : Int32} {Φ : PP}  (q : Φ (some (.int (jb x i))) z t I R J B) : Sem l D A 0 0 0 mX11_byteOf [.int x, .int i] z t I R J B Φ := by
  refine Sem.run [some (.int x), some (.int i)] (by decide) rfl (ent_i (ent_i ent_nil)) ?_
  refine V_iload dX11_byteOf_0 rfl ?_
  refine V_const dX11_byteOf_1 ?_
  refine V_const dX11_byteOf_3 ?_
  refine V_iload dX11_byteOf_4 rfl ?_
  refine V_isub dX11_byteOf_5 ?_
  refine V_imul dX11_byteOf_6 ?_
  refine V_iushr dX11_byteOf_7 ?_
  refine V_const dX11_byteOf_8 ?_
  refine V_iand dX11_byteOf_11 ?_
  exact V_iret dX11_byteOf_12 rfl (by decide) (by decide) q
def factS (c b k n g : Int32) : Int32 := if c = 98 then b else if c = 107 then k else if c = 110 then n else g
def holdS (s f v : Int32) : Prop := if s = 60 then f < v else if s = 62 then v < f else f = v
theorem i_ne {x k : Int32} {a : Int} (h : ¬ x = k) (hk : k.toInt = a) : ¬ x.toInt = a := lv_neT h hk
theorem sem_X0_factOf {l : Launch} {D : va_G} {A : Nat → Prop} {z : Nat} {t : TT} {I : MI} {R : MR} {J : MI} {B : MR} {c b k n g : Int32} {Φ : PP} (q : Φ (some (.int (factS c b k n g))) z t I R J B) : Sem l D A 0 0 0 mX0_factOf [.int c, .int b, .int k, .int n, .int g] z t I R J B Φ := by
  refine Sem.run [some (.int c), some (.int b), some (.int k), some (.int n), some (.int g)] (by decide) rfl (ent_i (ent_i (ent_i (ent_i (ent_i ent_nil))))) ?_
  refine V_iload dX0_factOf_0 rfl ?_
  unfold factS at q
  by_cases h1 : c = 98
  · rw [if_pos h1] at q
    refine V_lsw (dt := 36) dX0_factOf_1 (by decide +kernel) 35 (by rw [h1]; decide +kernel) (by decide) ?_
    refine V_iload dX0_factOf_36 rfl ?_
    exact V_iret dX0_factOf_37 rfl (by decide) (by decide) q
  rw [if_neg h1] at q
  by_cases h2 : c = 107
  · rw [if_pos h2] at q
    refine V_lsw (dt := 38) dX0_factOf_1 (by decide +kernel) 37 (by rw [h2]; decide +kernel) (by decide) ?_
    refine V_iload dX0_factOf_38 rfl ?_
    exact V_iret dX0_factOf_39 rfl (by decide) (by decide) q
  rw [if_neg h2] at q
  by_cases h3 : c = 110
  · rw [if_pos h3] at q
    refine V_lsw (dt := 40) dX0_factOf_1 (by decide +kernel) 39 (by rw [h3]; decide +kernel) (by decide) ?_
    refine V_iload dX0_factOf_40 rfl ?_
    exact V_iret dX0_factOf_41 rfl (by decide) (by decide) q
  rw [if_neg h3] at q
  refine V_lsw (dt := 42) dX0_factOf_1 (by decide +kernel) 41 (by rw [show (#[(98, 35), (107, 37), (110, 39)] : Array (Int × Int)).toList = [(98, 35), (107, 37), (110, 39)] from rfl, lv_osw (a := 98) h1 rfl, lv_osw (a := 107) h2 rfl, lv_osw (a := 110) h3 rfl]; rfl) (by decide) ?_
  refine V_iload dX0_factOf_42 rfl ?_
  exact V_iret dX0_factOf_44 rfl (by decide) (by decide) q
theorem sem_X0_holds {l : Launch} {D : va_G} {A : Nat → Prop} {z : Nat} {t : TT} {I : MI} {R : MR} {J : MI} {B : MR} {f s v : Int32} {Φ : PP} (q : Φ (some (.int (if s = 60 then bI (f < v) else if s = 62 then bI (v < f) else bI (f = v)))) z t I R J B) : Sem l D A 0 0 0 mX0_holds [.int f, .int s, .int v] z t I R J B Φ := by
  refine Sem.run [some (.int f), some (.int s), some (.int v)] (by decide) rfl (ent_i (ent_i (ent_i ent_nil))) ?_
  refine V_iload dX0_holds_0 rfl ?_
  by_cases h1 : s = 60
  · rw [if_pos h1] at q
    refine V_lsw (dt := 28) dX0_holds_1 (by decide +kernel) 27 (by rw [h1]; decide +kernel) (by decide) ?_
    refine V_iload dX0_holds_28 rfl ?_
    refine V_iload dX0_holds_29 rfl ?_
    refine V_icmp_ge dX0_holds_30 (fun hc30 => ?_) (fun hc30 => ?_)
    · refine V_const dX0_holds_37 ?_
      exact V_zret dX0_holds_38 rfl (by first | exact Or.inl rfl | exact Or.inr rfl) (by decide) (by decide) (by rw [bI_f (by rw [i_le] at hc30; rw [i_lt]; omega)] at q; exact q)
    · refine V_const dX0_holds_33 ?_
      refine V_goto dX0_holds_34 ?_
      exact V_zret dX0_holds_38 rfl (by first | exact Or.inl rfl | exact Or.inr rfl) (by decide) (by decide) (by rw [bI_t (by rw [i_le] at hc30; rw [i_lt]; omega)] at q; exact q)
  rw [if_neg h1] at q
  by_cases h2 : s = 62
  · rw [if_pos h2] at q
    refine V_lsw (dt := 39) dX0_holds_1 (by decide +kernel) 38 (by rw [h2]; decide +kernel) (by decide) ?_
    refine V_iload dX0_holds_39 rfl ?_
    refine V_iload dX0_holds_40 rfl ?_
    refine V_icmp_le dX0_holds_41 (fun hc41 => ?_) (fun hc41 => ?_)
    · refine V_const dX0_holds_48 ?_
      exact V_zret dX0_holds_49 rfl (by first | exact Or.inl rfl | exact Or.inr rfl) (by decide) (by decide) (by rw [bI_f (by rw [i_le] at hc41; rw [i_lt]; omega)] at q; exact q)
    · refine V_const dX0_holds_44 ?_
      refine V_goto dX0_holds_45 ?_
      exact V_zret dX0_holds_49 rfl (by first | exact Or.inl rfl | exact Or.inr rfl) (by decide) (by decide) (by rw [bI_t (by rw [i_le] at hc41; rw [i_lt]; omega)] at q; exact q)
  rw [if_neg h2] at q
  refine V_lsw (dt := 50) dX0_holds_1 (by decide +kernel) 49 (by rw [show (#[(60, 27), (62, 38)] : Array (Int × Int)).toList = [(60, 27), (62, 38)] from rfl, lv_osw (a := 60) h1 rfl, lv_osw (a := 62) h2 rfl]; rfl) (by decide) ?_
  refine V_iload dX0_holds_50 rfl ?_
  refine V_iload dX0_holds_51 rfl ?_
  refine V_icmp_ne dX0_holds_52 (fun hc52 => ?_) (fun hc52 => ?_)
  · refine V_const dX0_holds_59 ?_
    exact V_zret dX0_holds_60 rfl (by first | exact Or.inl rfl | exact Or.inr rfl) (by decide) (by decide) (by rw [bI_f hc52] at q; exact q)
  · refine V_const dX0_holds_55 ?_
    refine V_goto dX0_holds_56 ?_
    exact V_zret dX0_holds_60 rfl (by first | exact Or.inl rfl | exact Or.inr rfl) (by decide) (by decide) (by rw [bI_t hc52] at q; exact q)
theorem sem_X9_sitDown {l : Launch} {D : va_G} {A : Nat → Prop} {z : Nat} {t : TT} {I : MI} {R : MR} {J : MI} {B : MR} {o : Nat} {r : Int32} {Φ : PP} (ho : (t o).1 = 10) (q : Φ none z t (up2 (up2 I 900 o (I 900 o - jmin (I 900 o) r)) 901 o (r - jmin (I 900 o) r)) R J B) : Sem l D A 1 0 0 mX9_sitDown [va_rf (some o), .int r] z t I R J B Φ := by
  refine Sem.run [some (va_rf (some o)), some (.int r), none] (by decide) rfl (ent_r (ent_i (ent_none ent_nil))) ?_
  refine V_aload dX9_sitDown_0 rfl ?_
  refine V_getI fk_X9_7 dX9_sitDown_1 (by assumption) ?_
  refine V_iload dX9_sitDown_4 rfl ?_
  refine V_jmin dX9_sitDown_5 lk_X9_13 (by decide) (by decide) (by decide) (by decide) (Nat.le_of_ble_eq_true rfl) ?_
  refine V_is2 dX9_sitDown_8 (by decide) (noL_i _) ?_
  refine V_aload dX9_sitDown_9 rfl ?_
  refine V_dupr dX9_sitDown_10 ?_
  refine V_getI fk_X9_7 dX9_sitDown_11 (by assumption) ?_
  refine V_iload dX9_sitDown_14 rfl ?_
  refine V_isub dX9_sitDown_15 ?_
  refine V_putI fk_X9_7 (Or.inl rfl) rfl rfl dX9_sitDown_16 (by assumption) ?_
  refine V_aload dX9_sitDown_19 rfl ?_
  refine V_iload dX9_sitDown_20 rfl ?_
  refine V_iload dX9_sitDown_21 rfl ?_
  refine V_isub dX9_sitDown_22 ?_
  refine V_putI fk_X9_19 (Or.inl rfl) rfl rfl dX9_sitDown_23 (by assumption) ?_
  exact V_vret dX9_sitDown_26 rfl (by decide) (by decide) q
/-- how many casks are opened; what is left OPEN, what is still wanted behind it -/
def opN (w c r : Int32) : Int32 := if w ≤ 0 ∨ c ≤ 0 ∨ r ≤ 0 then 0 else jmin c ((w + r - 1) / r)
def opL (le w c r : Int32) : Int32 := if w ≤ 0 ∨ c ≤ 0 ∨ r ≤ 0 then le else jmax 0 (opN w c r * r - w)
def opW (w c r : Int32) : Int32 := if w ≤ 0 ∨ c ≤ 0 ∨ r ≤ 0 then w else jmax 0 (w - opN w c r * r)
theorem up2_same {α : Type} (M : Nat → Nat → α) (f a : Nat) : up2 M f a (M f a) = M := by
  funext g b
  by_cases e : g = f
  · subst e
    rw [up2_self]
    by_cases e2 : b = a
    · subst e2; rw [va_up_self]
    · rw [va_up_ne _ _ e2]
  · rw [up2_ne _ _ _ e]
theorem sem_X9_openFrom {l : Launch} {D : va_G} {A : Nat → Prop} {z : Nat} {t : TT} {I : MI} {R : MR} {J : MI} {B : MR} {o : Nat} {c r : Int32} {Φ : PP} (ho : (t o).1 = 10) (q : Φ (some (.int (opN (I 901 o) c r))) z t (up2 (up2 I 900 o (opL (I 900 o) (I 901 o) c r)) 901 o (opW (I 901 o) c r)) R J B) : Sem l D A 1 0 0 mX9_openFrom [va_rf (some o), .int c, .int r] z t I R J B Φ := by
  refine Sem.run [some (va_rf (some o)), some (.int c), some (.int r), none, none] (by decide) rfl (ent_r (ent_i (ent_i (ent_none (ent_none ent_nil))))) ?_
  refine V_aload dX9_openFrom_0 rfl ?_
  refine V_getI fk_X9_19 dX9_openFrom_1 (by assumption) ?_
  refine V_if_le dX9_openFrom_4 (fun hc4 => ?_) (fun hc4 => ?_)
  · refine V_const dX9_openFrom_15 ?_
    exact V_iret dX9_openFrom_16 rfl (by decide) (by decide) (by have hz : I 901 o ≤ 0 ∨ c ≤ 0 ∨ r ≤ 0 := Or.inl hc4; unfold opN opL opW at q; rw [if_pos hz, if_pos hz, if_pos hz, up2_same, up2_same] at q; exact q)
  · refine V_iload dX9_openFrom_7 rfl ?_
    refine V_if_le dX9_openFrom_8 (fun hc8 => ?_) (fun hc8 => ?_)
    · refine V_const dX9_openFrom_15 ?_
      exact V_iret dX9_openFrom_16 rfl (by decide) (by decide) (by have hz : I 901 o ≤ 0 ∨ c ≤ 0 ∨ r ≤ 0 := Or.inr (Or.inl hc8); unfold opN opL opW at q; rw [if_pos hz, if_pos hz, if_pos hz, up2_same, up2_same] at q; exact q)
    · refine V_iload dX9_openFrom_11 rfl ?_
      refine V_if_gt dX9_openFrom_12 (fun hc12 => ?_) (fun hc12 => ?_)
      · refine V_iload dX9_openFrom_17 rfl ?_
        refine V_aload dX9_openFrom_18 rfl ?_
        refine V_getI fk_X9_19 dX9_openFrom_19 (by assumption) ?_
        refine V_iload dX9_openFrom_22 rfl ?_
        refine V_iadd dX9_openFrom_23 ?_
        refine V_const dX9_openFrom_24 ?_
        refine V_isub dX9_openFrom_25 ?_
        refine V_iload dX9_openFrom_26 rfl ?_
        refine V_idiv dX9_openFrom_27 (by intro h; rw [h] at hc12; exact absurd hc12 (by decide)) ?_
        refine V_jmin dX9_openFrom_28 lk_X9_13 (by decide) (by decide) (by decide) (by decide) (Nat.le_of_ble_eq_true rfl) ?_
        refine V_is3 dX9_openFrom_31 (by decide) (noL_i _) ?_
        refine V_iload dX9_openFrom_32 rfl ?_
        refine V_iload dX9_openFrom_33 rfl ?_
        refine V_imul dX9_openFrom_34 ?_
        refine V_is4 dX9_openFrom_35 (by decide) (noL_i _) ?_
        refine V_aload dX9_openFrom_37 rfl ?_
        refine V_const dX9_openFrom_38 ?_
        refine V_iload dX9_openFrom_39 rfl ?_
        refine V_aload dX9_openFrom_41 rfl ?_
        refine V_getI fk_X9_19 dX9_openFrom_42 (by assumption) ?_
        refine V_isub dX9_openFrom_45 ?_
        refine V_jmax dX9_openFrom_46 lk_X9_22 (by decide) (by decide) (by decide) (by decide) (Nat.le_of_ble_eq_true rfl) ?_
        refine V_putI fk_X9_7 (Or.inl rfl) rfl rfl dX9_openFrom_49 (by assumption) ?_
        refine V_aload dX9_openFrom_52 rfl ?_
        refine V_const dX9_openFrom_53 ?_
        refine V_aload dX9_openFrom_54 rfl ?_
        refine V_getI fk_X9_19 dX9_openFrom_55 (by assumption) ?_
        refine V_iload dX9_openFrom_58 rfl ?_
        refine V_isub dX9_openFrom_60 ?_
        refine V_jmax dX9_openFrom_61 lk_X9_22 (by decide) (by decide) (by decide) (by decide) (Nat.le_of_ble_eq_true rfl) ?_
        refine V_putI fk_X9_19 (Or.inl rfl) rfl rfl dX9_openFrom_64 (by assumption) ?_
        refine V_iload dX9_openFrom_67 rfl ?_
        exact V_iret dX9_openFrom_68 rfl (by decide) (by decide) (by have hz : ¬ (I 901 o ≤ 0 ∨ c ≤ 0 ∨ r ≤ 0) := fun h => h.elim hc4 (fun h => h.elim hc8 (fun h => by rw [i_lt] at hc12; rw [i_le] at h; omega)); unfold opL opW opN at q; rw [if_neg hz, if_neg hz, if_neg hz] at q; exact q)
      · refine V_const dX9_openFrom_15 ?_
        exact V_iret dX9_openFrom_16 rfl (by decide) (by decide) (by have hz : I 901 o ≤ 0 ∨ c ≤ 0 ∨ r ≤ 0 := Or.inr (Or.inr (by rw [i_lt] at hc12; rw [i_le]; omega)); unfold opN opL opW at q; rw [if_pos hz, if_pos hz, if_pos hz, up2_same, up2_same] at q; exact q)
end
section
-- LEAVES of the class that look things up
theorem i_rng {v M : Int32} {N : Nat} (hM : M.toInt = (N : Int) - 1) (h : 0 ≤ v ∧ v ≤ M) : ∃ i, i < N ∧ v = nI i := by
  obtain ⟨j, h1, h2, h3⟩ := i_nat h.1
  have h4 := i_le.mp h.2
  exact ⟨j, by omega, h1⟩
theorem i_out {v M : Int32} {N : Nat} (hM : M.toInt = (N : Int) - 1) (hN : N < 2147483648) (h : ¬ (0 ≤ v ∧ v ≤ M)) : ∀ i, i < N → v ≠ nI i := by
  intro i hi e
  apply h
  have h1 : v.toInt = (i : Int) := by rw [e]; exact nI_toInt (by omega)
  have h0 : (0 : Int32).toInt = 0 := rfl
  exact ⟨by rw [i_le]; omega, by rw [i_le]; omega⟩
theorem i_pred {n : Nat} (hn : n < 2147483648) : (nI n - 1 : Int32).toInt = (n : Int) - 1 := by
  cases n with
  | zero => rfl
  | succ n => rw [nI_pred, nI_toInt (by omega)]; omega
theorem V_getRs {l : Launch} {D : va_G} {A : Nat → Prop} {Rm : Room} {μ : Meth} {K : Kx} {k n z : Nat} {t : TT} {I : MI} {R : MR} {J : MI} {B : MR} {pc pc' : Nat} {lv : List (Option Value)} {st : List Value} {idx c j f T a : Nat} {r : Option Nat} (F : FkR μ.1.cls idx c j f T) (d : D3 μ.2.1 pc (.getfield idx) pc') (ht : (t a).1 = T) (hr : R f a = r) (kk : V l D A Rm μ K k n z t I R J B pc' lv (va_rf r :: st)) : V l D A Rm μ K k n z t I R J B pc lv (va_rf (some a) :: st) := by
  subst hr
  exact V_getR F d ht kk
theorem V_getIs {l : Launch} {D : va_G} {A : Nat → Prop} {Rm : Room} {μ : Meth} {K : Kx} {k n z : Nat} {t : TT} {I : MI} {R : MR} {J : MI} {B : MR} {pc pc' : Nat} {lv : List (Option Value)} {st : List Value} {idx c j f T a : Nat} {r : Int32} (F : FkI μ.1.cls idx c j f T) (d : D3 μ.2.1 pc (.getfield idx) pc') (ht : (t a).1 = T) (hr : I f a = r) (kk : V l D A Rm μ K k n z t I R J B pc' lv (.int r :: st)) : V l D A Rm μ K k n z t I R J B pc lv (va_rf (some a) :: st) := by
  subst hr
  exact V_getI F d ht kk
theorem V_ialds {l : Launch} {D : va_G} {A : Nat → Prop} {Rm : Room} {μ : Meth} {K : Kx} {k n z : Nat} {t : TT} {I : MI} {R : MR} {J : MI} {B : MR} {pc pc' : Nat} {lv : List (Option Value)} {st : List Value} {a N i : Nat} {ix r : Int32} (d : D1 μ.2.1 pc .iaload pc') (ht : t a = (20, N)) (hx : ix = nI i) (hi : i < N) (hN : N < 2147483648) (hr : J a i = r) (kk : V l D A Rm μ K k n z t I R J B pc' lv (.int r :: st)) : V l D A Rm μ K k n z t I R J B pc lv (.int ix :: va_rf (some a) :: st) := by
  subst hr
  exact V_iald d ht hx hi hN kk
theorem V_aalds {l : Launch} {D : va_G} {A : Nat → Prop} {Rm : Room} {μ : Meth} {K : Kx} {k n z : Nat} {t : TT} {I : MI} {R : MR} {J : MI} {B : MR} {pc pc' : Nat} {lv : List (Option Value)} {st : List Value} {a N i j T : Nat} {ix : Int32} {r : Option Nat} (d : D1 μ.2.1 pc .aaload pc') (hT : 21 + j = T) (hj : j < 6) (ht : t a = (T, N)) (hx : ix = nI i) (hi : i < N) (hN : N < 2147483648) (hr : B a i = r) (kk : V l D A Rm μ K k n z t I R J B pc' lv (va_rf r :: st)) : V l D A Rm μ K k n z t I R J B pc lv (.int ix :: va_rf (some a) :: st) := by
  subst hr
  exact V_aald d hT hj ht hx hi hN kk
theorem sem_X4_numbered {l : Launch} {D : va_G} {A : Nat → Prop} {z : Nat} {t : TT} {I : MI} {R : MR} {J : MI} {B : MR} {o ab n : Nat} {v : Int32} {Φ : PP} (ho : (t o).1 = 5) (h1 : R 400 o = some ab) (h2 : t ab = (24, 300)) (hn : I 401 o = nI n) (hn2 : n ≤ 300) (q0 : (∀ i, i < n → v ≠ nI i) → Φ (some (va_rf none)) z t I R J B) (q : ∀ i, i < n → v = nI i → Φ (some (va_rf (B ab i))) z t I R J B) : Sem l D A 1 0 0 mX4_numbered [va_rf (some o), .int v] z t I R J B Φ := by
  refine Sem.run [some (va_rf (some o)), some (.int v)] (by decide) rfl (ent_r (ent_i ent_nil)) ?_
  refine V_iload dX4_numbered_0 rfl ?_
  refine V_const dX4_numbered_1 ?_
  refine V_aload dX4_numbered_2 rfl ?_
  refine V_getIs fk_X4_17 dX4_numbered_3 (by assumption) hn ?_
  refine V_const dX4_numbered_6 ?_
  refine V_isub dX4_numbered_7 ?_
  refine V_invSN (As := [_, _, _]) (host := "FleetStores") ms_X11_within (by decide +kernel) dX4_numbered_8 rfl rfl (Nat.le_of_ble_eq_true rfl) ⟨⟨by decide, by decide⟩, by decide, by decide⟩ (sem_X11_within ?_)
  refine V_if_eq dX4_numbered_11 (fun hc11 => ?_) (fun hc11 => ?_)
  · rw [bI_0] at hc11
    refine V_null dX4_numbered_23 ?_
    exact V_aret dX4_numbered_24 rfl (by decide) (by decide) (q0 (i_out (i_pred (by omega)) (by omega) hc11))
  · rw [bI_n0] at hc11
    obtain ⟨i, hi, hv⟩ := i_rng (i_pred (by omega)) hc11
    refine V_aload dX4_numbered_14 rfl ?_
    refine V_getRs fk_X4_11 dX4_numbered_15 (by assumption) h1 ?_
    refine V_iload dX4_numbered_18 rfl ?_
    refine V_aald (j := 3) dX4_numbered_19 rfl (by decide) h2 hv (by omega) (by decide) ?_
    refine V_goto dX4_numbered_20 ?_
    exact V_aret dX4_numbered_24 rfl (by decide) (by decide) (q i hi hv)
theorem sem_X11_placeOf {l : Launch} {D : va_G} {A : Nat → Prop} {z : Nat} {t : TT} {I : MI} {R : MR} {J : MI} {B : MR} {o ab : Nat} {v : Int32} {Φ : PP} (ho : (t o).1 = 12) (h1 : R 1100 o = some ab) (h2 : t ab = (21, 8)) (q0 : (∀ i, i < 8 → v ≠ nI i) → Φ (some (va_rf none)) z t I R J B) (q : ∀ i, i < 8 → v = nI i → Φ (some (va_rf (B ab i))) z t I R J B) : Sem l D A 1 0 0 mX11_placeOf [va_rf (some o), .int v] z t I R J B Φ := by
  refine Sem.run [some (va_rf (some o)), some (.int v)] (by decide) rfl (ent_r (ent_i ent_nil)) ?_
  refine V_iload dX11_placeOf_0 rfl ?_
  refine V_const dX11_placeOf_1 ?_
  refine V_const dX11_placeOf_2 ?_
  refine V_invS (As := [_, _, _]) ms_X11_within lk_X11_89 dX11_placeOf_4 rfl rfl rfl (Nat.le_of_ble_eq_true rfl) ⟨⟨by decide, by decide⟩, by decide, by decide⟩ (sem_X11_within ?_)
  refine V_if_eq dX11_placeOf_7 (fun hc7 => ?_) (fun hc7 => ?_)
  · rw [bI_0] at hc7
    refine V_null dX11_placeOf_19 ?_
    exact V_aret dX11_placeOf_20 rfl (by decide) (by decide) (q0 (i_out (N := 8) rfl (by decide) hc7))
  · rw [bI_n0] at hc7
    obtain ⟨i, hi, hv⟩ := i_rng (N := 8) rfl hc7
    refine V_aload dX11_placeOf_10 rfl ?_
    refine V_getRs fk_X11_11 dX11_placeOf_11 (by assumption) h1 ?_
    refine V_iload dX11_placeOf_14 rfl ?_
    refine V_aald (j := 0) dX11_placeOf_15 rfl (by decide) h2 hv (by omega) (by decide) ?_
    refine V_goto dX11_placeOf_16 ?_
    exact V_aret dX11_placeOf_20 rfl (by decide) (by decide) (q i hi hv)
theorem sem_X11_kindOf {l : Launch} {D : va_G} {A : Nat → Prop} {z : Nat} {t : TT} {I : MI} {R : MR} {J : MI} {B : MR} {o ab : Nat} {v : Int32} {Φ : PP} (ho : (t o).1 = 12) (h1 : R 1101 o = some ab) (h2 : t ab = (22, 4)) (q0 : (∀ i, i < 4 → v ≠ nI i) → Φ (some (va_rf none)) z t I R J B) (q : ∀ i, i < 4 → v = nI i → Φ (some (va_rf (B ab i))) z t I R J B) : Sem l D A 1 0 0 mX11_kindOf [va_rf (some o), .int v] z t I R J B Φ := by
  refine Sem.run [some (va_rf (some o)), some (.int v)] (by decide) rfl (ent_r (ent_i ent_nil)) ?_
  refine V_iload dX11_kindOf_0 rfl ?_
  refine V_const dX11_kindOf_1 ?_
  refine V_const dX11_kindOf_2 ?_
  refine V_invS (As := [_, _, _]) ms_X11_within lk_X11_89 dX11_kindOf_3 rfl rfl rfl (Nat.le_of_ble_eq_true rfl) ⟨⟨by decide, by decide⟩, by decide, by decide⟩ (sem_X11_within ?_)
  refine V_if_eq dX11_kindOf_6 (fun hc6 => ?_) (fun hc6 => ?_)
  · rw [bI_0] at hc6
    refine V_null dX11_kindOf_18 ?_
    exact V_aret dX11_kindOf_19 rfl (by decide) (by decide) (q0 (i_out (N := 4) rfl (by decide) hc6))
  · rw [bI_n0] at hc6
    obtain ⟨i, hi, hv⟩ := i_rng (N := 4) rfl hc6
    refine V_aload dX11_kindOf_9 rfl ?_
    refine V_getRs fk_X11_17 dX11_kindOf_10 (by assumption) h1 ?_
    refine V_iload dX11_kindOf_13 rfl ?_
    refine V_aald (j := 1) dX11_kindOf_14 rfl (by decide) h2 hv (by omega) (by decide) ?_
    refine V_goto dX11_kindOf_15 ?_
    exact V_aret dX11_kindOf_19 rfl (by decide) (by decide) (q i hi hv)
theorem sem_X11_storeOf {l : Launch} {D : va_G} {A : Nat → Prop} {z : Nat} {t : TT} {I : MI} {R : MR} {J : MI} {B : MR} {o ab : Nat} {v w : Int32} {Φ : PP} (ho : (t o).1 = 12) (h1 : R 1102 o = some ab) (h2 : t ab = (23, 32)) (q0 : ¬ (0 ≤ v ∧ v ≤ 7 ∧ 0 ≤ w ∧ w ≤ 3) → Φ (some (va_rf none)) z t I R J B) (q : ∀ i j, i < 8 → j < 4 → v = nI i → w = nI j → Φ (some (va_rf (B ab (4 * i + j)))) z t I R J B) : Sem l D A 1 0 0 mX11_storeOf [va_rf (some o), .int v, .int w] z t I R J B Φ := by
  refine Sem.run [some (va_rf (some o)), some (.int v), some (.int w)] (by decide) rfl (ent_r (ent_i (ent_i ent_nil))) ?_
  refine V_iload dX11_storeOf_0 rfl ?_
  refine V_const dX11_storeOf_1 ?_
  refine V_const dX11_storeOf_2 ?_
  refine V_invS (As := [_, _, _]) ms_X11_within lk_X11_89 dX11_storeOf_4 rfl rfl rfl (Nat.le_of_ble_eq_true rfl) ⟨⟨by decide, by decide⟩, by decide, by decide⟩ (sem_X11_within ?_)
  refine V_if_eq dX11_storeOf_7 (fun hc7 => ?_) (fun hc7 => ?_)
  · rw [bI_0] at hc7
    refine V_null dX11_storeOf_19 ?_
    exact V_aret dX11_storeOf_20 rfl (by decide) (by decide) (q0 (fun h => hc7 ⟨h.1, h.2.1⟩))
  · rw [bI_n0] at hc7
    refine V_iload dX11_storeOf_10 rfl ?_
    refine V_const dX11_storeOf_11 ?_
    refine V_const dX11_storeOf_12 ?_
    refine V_invS (As := [_, _, _]) ms_X11_within lk_X11_89 dX11_storeOf_13 rfl rfl rfl (Nat.le_of_ble_eq_true rfl) ⟨⟨by decide, by decide⟩, by decide, by decide⟩ (sem_X11_within ?_)
    refine V_if_ne dX11_storeOf_16 (fun hc16 => ?_) (fun hc16 => ?_)
    · rw [bI_n0] at hc16
      obtain ⟨i, hi, hv⟩ := i_rng (N := 8) rfl hc7
      obtain ⟨j, hj, hw⟩ := i_rng (N := 4) rfl hc16
      refine V_aload dX11_storeOf_21 rfl ?_
      refine V_getRs fk_X11_23 dX11_storeOf_22 (by assumption) h1 ?_
      refine V_iload dX11_storeOf_25 rfl ?_
      refine V_const dX11_storeOf_26 ?_
      refine V_imul dX11_storeOf_27 ?_
      refine V_iload dX11_storeOf_28 rfl ?_
      refine V_iadd dX11_storeOf_29 ?_
      refine V_aald (j := 2) dX11_storeOf_30 rfl (by decide) (i := 4 * i + j) h2 (by rw [hv, hw, show (4 : Int32) = nI 4 from rfl, pk_mul, nI_add, Nat.mul_comm]) (by omega) (by decide) ?_
      exact V_aret dX11_storeOf_31 rfl (by decide) (by decide) (q i j hi hj hv hw)
    · rw [bI_0] at hc16
      refine V_null dX11_storeOf_19 ?_
      exact V_aret dX11_storeOf_20 rfl (by decide) (by decide) (q0 (fun h => hc16 ⟨h.2.2.1, h.2.2.2⟩))
theorem sem_X11_stockAsBegan {l : Launch} {D : va_G} {A : Nat → Prop} {z : Nat} {t : TT} {I : MI} {R : MR} {J : MI} {B : MR} {o ab s k n : Nat} {v : Int32} {Φ : PP} (ho : (t o).1 = 12) (h1 : R 1103 o = some ab) (h2 : t ab = (26, 201)) (hs : (t s).1 = 8) (hk : I 700 s = nI k) (hk2 : k < 32) (hn : I 1111 o = nI n) (hn2 : n ≤ 200) (hrow : ∀ i, i ≤ n → ∃ r, B ab i = some r ∧ t r = (20, 32)) (q0 : (∀ i, i ≤ n → v ≠ nI i) → Φ (some (.int (-1))) z t I R J B) (q : ∀ i r, i ≤ n → v = nI i → B ab i = some r → Φ (some (.int (J r k))) z t I R J B) : Sem l D A 1 0 0 mX11_stockAsBegan [va_rf (some o), va_rf (some s), .int v] z t I R J B Φ := by
  refine Sem.run [some (va_rf (some o)), some (va_rf (some s)), some (.int v)] (by decide) rfl (ent_r (ent_r (ent_i ent_nil))) ?_
  refine V_iload dX11_stockAsBegan_0 rfl ?_
  refine V_const dX11_stockAsBegan_1 ?_
  refine V_aload dX11_stockAsBegan_2 rfl ?_
  refine V_getIs fk_X11_121 dX11_stockAsBegan_3 (by assumption) hn ?_
  refine V_invS (As := [_, _, _]) ms_X11_within lk_X11_89 dX11_stockAsBegan_6 rfl rfl rfl (Nat.le_of_ble_eq_true rfl) ⟨⟨by decide, by decide⟩, by decide, by decide⟩ (sem_X11_within ?_)
  refine V_if_eq dX11_stockAsBegan_9 (fun hc9 => ?_) (fun hc9 => ?_)
  · rw [bI_0] at hc9
    refine V_const dX11_stockAsBegan_21 ?_
    exact V_iret dX11_stockAsBegan_22 rfl (by decide) (by decide) (q0 (fun i hi => i_out (N := n + 1) (by rw [nI_toInt (by omega)]; omega) (by omega) hc9 i (by omega)))
  · rw [bI_n0] at hc9
    obtain ⟨i, hi, hv⟩ := i_rng (N := n + 1) (by rw [nI_toInt (by omega)]; omega) hc9
    obtain ⟨r, hr, htr⟩ := hrow i (by omega)
    refine V_aload dX11_stockAsBegan_12 rfl ?_
    refine V_getRs fk_X11_29 dX11_stockAsBegan_13 (by assumption) h1 ?_
    refine V_iload dX11_stockAsBegan_16 rfl ?_
    refine V_aalds (j := 5) dX11_stockAsBegan_17 rfl (by decide) h2 hv (by omega) (by decide) hr ?_
    refine V_ifnonnull dX11_stockAsBegan_18 (fun a18 hs18 => ?_) (fun hn18 => ?_)
    · refine V_aload dX11_stockAsBegan_23 rfl ?_
      refine V_getRs fk_X11_29 dX11_stockAsBegan_24 (by assumption) h1 ?_
      refine V_iload dX11_stockAsBegan_27 rfl ?_
      refine V_aalds (j := 5) dX11_stockAsBegan_28 rfl (by decide) h2 hv (by omega) (by decide) hr ?_
      refine V_aload dX11_stockAsBegan_29 rfl ?_
      refine V_getIs fk_X11_292 dX11_stockAsBegan_30 (by assumption) hk ?_
      refine V_iald dX11_stockAsBegan_33 htr rfl hk2 (by decide) ?_
      exact V_iret dX11_stockAsBegan_34 rfl (by decide) (by decide) (q i r (by omega) hv hr)
    · exact absurd hn18 (by simp)
end
section
-- LOOPS of the class over the chain of lots
/-- the lots from r on, by their links -/
def Chain (t : TT) (R : MR) : Option Nat → List Nat → Prop
  | r, [] => r = none
  | r, a :: as => r = some a ∧ (t a).1 = 4 ∧ Chain t R (R 313 a) as
/-- f for i, i + 1, .., n times -/
def itr {α : Type} (f : Nat → α → α) : Nat → Nat → α → α
  | _, 0, s => s
  | i, n + 1, s => itr f (i + 1) n (f i s)
def stAt (I : MI) (R : MR) (st : Nat) (s : Int32) (a : Nat) : Int32 := if R 300 a = some st ∧ I 307 a = -1 then s + I 306 a else s
theorem lp_X4_casksAt {l : Launch} {D : va_G} {A : Nat → Prop} {z : Nat} {t : TT} {I : MI} {R : MR} {J : MI} {B : MR} {o st : Nat} {Φ : PP}  : ∀ (rest : List Nat) (r : Option Nat) (s : Int32), Chain t R r rest → Φ (some (.int (rest.foldl (stAt I R st) s))) z t I R J B → V l D A (rmm 1 0 0) mX4_casksAt (KS D A 0 0 Φ) 0 0 z t I R J B 7 [some (va_rf (some o)), some (va_rf (some st)), some (.int s), some (va_rf r)] [] := by
  intro rest
  induction rest with
  | nil =>
    intro r s hch q
    have hr : r = none := hch
    subst hr
    refine V_aload dX4_casksAt_7 rfl ?_
    refine V_ifnull dX4_casksAt_8 (fun hn8 => ?_) (fun a8 hs8 => ?_)
    · refine V_iload dX4_casksAt_41 rfl ?_
      exact V_iret dX4_casksAt_42 rfl (by decide) (by decide) q
    · exact absurd hs8 (by simp)
  | cons a as ih =>
    intro r s hch q
    obtain ⟨rfl, ha, hch⟩ := hch
    refine V_aload dX4_casksAt_7 rfl ?_
    refine V_ifnull dX4_casksAt_8 (fun hn8 => ?_) (fun a8 hs8 => ?_)
    · exact absurd hn8 (by simp)
    · cases hs8
      refine V_aload dX4_casksAt_11 rfl ?_
      refine V_getR fk_X4_43 dX4_casksAt_12 (by assumption) ?_
      refine V_aload dX4_casksAt_15 rfl ?_
      refine V_acmp_ne dX4_casksAt_16 (fun hc16 => ?_) (fun hc16 => ?_)
      · refine V_aload dX4_casksAt_33 rfl ?_
        refine V_getR fk_X4_37 dX4_casksAt_34 (by assumption) ?_
        refine V_as3 dX4_casksAt_37 (by decide) (noL_i _) ?_
        refine V_goto dX4_casksAt_38 ?_
        exact V.sub (lsS (lsS (lsS (lsS ls0)))) (ih _ _ hch (by rw [List.foldl_cons, show stAt I R st s a = s from if_neg (fun h => hc16 h.1)] at q; exact q))
      · refine V_aload dX4_casksAt_19 rfl ?_
        refine V_invV (As := []) mv_X3_isThere lk_X4_47 dX4_casksAt_20 (c := 3) (by decide) rfl rfl (by assumption) rfl rfl (Nat.le_of_ble_eq_true rfl) ⟨⟨by decide, by decide⟩, by decide, by decide⟩ (sem_X3_isThere ha ?_)
        refine V_if_eq dX4_casksAt_23 (fun hc23 => ?_) (fun hc23 => ?_)
        · rw [bI_0] at hc23
          refine V_aload dX4_casksAt_33 rfl ?_
          refine V_getR fk_X4_37 dX4_casksAt_34 (by assumption) ?_
          refine V_as3 dX4_casksAt_37 (by decide) (noL_i _) ?_
          refine V_goto dX4_casksAt_38 ?_
          exact V.sub (lsS (lsS (lsS (lsS ls0)))) (ih _ _ hch (by rw [List.foldl_cons, show stAt I R st s a = s from if_neg (fun h => hc23 h.2)] at q; exact q))
        · rw [bI_n0] at hc23
          refine V_iload dX4_casksAt_26 rfl ?_
          refine V_aload dX4_casksAt_27 rfl ?_
          refine V_getI fk_X4_50 dX4_casksAt_28 (by assumption) ?_
          refine V_iadd dX4_casksAt_31 ?_
          refine V_is2 dX4_casksAt_32 (by decide) (noL_r _) ?_
          refine V_aload dX4_casksAt_33 rfl ?_
          refine V_getR fk_X4_37 dX4_casksAt_34 (by assumption) ?_
          refine V_as3 dX4_casksAt_37 (by decide) (noL_i _) ?_
          refine V_goto dX4_casksAt_38 ?_
          exact V.sub (lsS (lsS (lsS (lsS ls0)))) (ih _ _ hch (by rw [List.foldl_cons, show stAt I R st s a = s + I 306 a from if_pos ⟨hc16, hc23⟩] at q; exact q))
theorem sem_X4_casksAt {l : Launch} {D : va_G} {A : Nat → Prop} {z : Nat} {t : TT} {I : MI} {R : MR} {J : MI} {B : MR} {o st : Nat} {ch : List Nat} {Φ : PP} (ho : (t o).1 = 5) (hch : Chain t R (R 402 o) ch) (q : Φ (some (.int (ch.foldl (stAt I R st) 0))) z t I R J B) : Sem l D A 1 0 0 mX4_casksAt [va_rf (some o), va_rf (some st)] z t I R J B Φ := by
  refine Sem.run [some (va_rf (some o)), some (va_rf (some st)), none, none] (by decide) rfl (ent_r (ent_r (ent_none (ent_none ent_nil)))) ?_
  refine V_const dX4_casksAt_0 ?_
  refine V_is2 dX4_casksAt_1 (by decide) (noL_r _) ?_
  refine V_aload dX4_casksAt_2 rfl ?_
  refine V_getR fk_X4_33 dX4_casksAt_3 (by assumption) ?_
  refine V_as3 dX4_casksAt_6 (by decide) (noL_i _) ?_
  exact lp_X4_casksAt _ _ _ hch q
def stAll (I : MI) (s : Int32) (a : Nat) : Int32 := s + I 306 a
theorem lp_X4_casksInAll {l : Launch} {D : va_G} {A : Nat → Prop} {z : Nat} {t : TT} {I : MI} {R : MR} {J : MI} {B : MR} {o : Nat} {Φ : PP}  : ∀ (rest : List Nat) (r : Option Nat) (s : Int32), Chain t R r rest → Φ (some (.int (rest.foldl (stAll I) s))) z t I R J B → V l D A (rmm 0 0 0) mX4_casksInAll (KS D A 0 0 Φ) 0 0 z t I R J B 7 [some (va_rf (some o)), some (.int s), some (va_rf r)] [] := by
  intro rest
  induction rest with
  | nil =>
    intro r s hch q
    have hr : r = none := hch
    subst hr
    refine V_aload dX4_casksInAll_7 rfl ?_
    refine V_ifnull dX4_casksInAll_8 (fun hn8 => ?_) (fun a8 hs8 => ?_)
    · refine V_iload dX4_casksInAll_26 rfl ?_
      exact V_iret dX4_casksInAll_27 rfl (by decide) (by decide) q
    · exact absurd hs8 (by simp)
  | cons a as ih =>
    intro r s hch q
    obtain ⟨rfl, ha, hch⟩ := hch
    refine V_aload dX4_casksInAll_7 rfl ?_
    refine V_ifnull dX4_casksInAll_8 (fun hn8 => ?_) (fun a8 hs8 => ?_)
    · exact absurd hn8 (by simp)
    · cases hs8
      refine V_iload dX4_casksInAll_11 rfl ?_
      refine V_aload dX4_casksInAll_12 rfl ?_
      refine V_getI fk_X4_50 dX4_casksInAll_13 (by assumption) ?_
      refine V_iadd dX4_casksInAll_16 ?_
      refine V_is1 dX4_casksInAll_17 (by decide) (noL_r _) ?_
      refine V_aload dX4_casksInAll_18 rfl ?_
      refine V_getR fk_X4_37 dX4_casksInAll_19 (by assumption) ?_
      refine V_as2 dX4_casksInAll_22 (by decide) (noL_i _) ?_
      refine V_goto dX4_casksInAll_23 ?_
      exact V.sub (lsS (lsS (lsS ls0))) (ih _ _ hch q)
theorem sem_X4_casksInAll {l : Launch} {D : va_G} {A : Nat → Prop} {z : Nat} {t : TT} {I : MI} {R : MR} {J : MI} {B : MR} {o : Nat} {ch : List Nat} {Φ : PP} (ho : (t o).1 = 5) (hch : Chain t R (R 402 o) ch) (q : Φ (some (.int (ch.foldl (stAll I) 0))) z t I R J B) : Sem l D A 0 0 0 mX4_casksInAll [va_rf (some o)] z t I R J B Φ := by
  refine Sem.run [some (va_rf (some o)), none, none] (by decide) rfl (ent_r (ent_none (ent_none ent_nil))) ?_
  refine V_const dX4_casksInAll_0 ?_
  refine V_is1 dX4_casksInAll_1 (by decide) (noL_r _) ?_
  refine V_aload dX4_casksInAll_2 rfl ?_
  refine V_getR fk_X4_33 dX4_casksInAll_3 (by assumption) ?_
  refine V_as2 dX4_casksInAll_6 (by decide) (noL_i _) ?_
  exact lp_X4_casksInAll _ _ _ hch q
def stOw (I : MI) (mk : Int32) (s : Int32) (a : Nat) : Int32 := if I 301 a = mk then s + I 310 a else s
theorem lp_X11_owed {l : Launch} {D : va_G} {A : Nat → Prop} {z : Nat} {t : TT} {I : MI} {R : MR} {J : MI} {B : MR} {o : Nat} {mk : Int32} {Φ : PP}  : ∀ (rest : List Nat) (r : Option Nat) (s : Int32), Chain t R r rest → Φ (some (.int (rest.foldl (stOw I mk) s))) z t I R J B → V l D A (rmm 0 0 0) mX11_owed (KS D A 0 0 Φ) 0 0 z t I R J B 10 [some (va_rf (some o)), some (.int mk), some (.int s), some (va_rf r)] [] := by
  intro rest
  induction rest with
  | nil =>
    intro r s hch q
    have hr : r = none := hch
    subst hr
    refine V_aload dX11_owed_10 rfl ?_
    refine V_ifnull dX11_owed_11 (fun hn11 => ?_) (fun a11 hs11 => ?_)
    · refine V_iload dX11_owed_37 rfl ?_
      exact V_iret dX11_owed_38 rfl (by decide) (by decide) q
    · exact absurd hs11 (by simp)
  | cons a as ih =>
    intro r s hch q
    obtain ⟨rfl, ha, hch⟩ := hch
    refine V_aload dX11_owed_10 rfl ?_
    refine V_ifnull dX11_owed_11 (fun hn11 => ?_) (fun a11 hs11 => ?_)
    · exact absurd hn11 (by simp)
    · cases hs11
      refine V_aload dX11_owed_14 rfl ?_
      refine V_getI fk_X11_166 dX11_owed_15 (by assumption) ?_
      refine V_iload dX11_owed_18 rfl ?_
      refine V_icmp_ne dX11_owed_19 (fun hc19 => ?_) (fun hc19 => ?_)
      · refine V_aload dX11_owed_29 rfl ?_
        refine V_getR fk_X11_262 dX11_owed_30 (by assumption) ?_
        refine V_as3 dX11_owed_33 (by decide) (noL_i _) ?_
        refine V_goto dX11_owed_34 ?_
        exact V.sub (lsS (lsS (lsS (lsS ls0)))) (ih _ _ hch (by rw [List.foldl_cons, show stOw I mk s a = s from if_neg hc19] at q; exact q))
      · refine V_iload dX11_owed_22 rfl ?_
        refine V_aload dX11_owed_23 rfl ?_
        refine V_getI fk_X11_251 dX11_owed_24 (by assumption) ?_
        refine V_iadd dX11_owed_27 ?_
        refine V_is2 dX11_owed_28 (by decide) (noL_i _) ?_
        refine V_aload dX11_owed_29 rfl ?_
        refine V_getR fk_X11_262 dX11_owed_30 (by assumption) ?_
        refine V_as3 dX11_owed_33 (by decide) (noL_i _) ?_
        refine V_goto dX11_owed_34 ?_
        exact V.sub (lsS (lsS (lsS (lsS ls0)))) (ih _ _ hch (by rw [List.foldl_cons, show stOw I mk s a = s + I 310 a from if_pos hc19] at q; exact q))
theorem sem_X11_owed {l : Launch} {D : va_G} {A : Nat → Prop} {z : Nat} {t : TT} {I : MI} {R : MR} {J : MI} {B : MR} {o ol : Nat} {mk : Int32} {ch : List Nat} {Φ : PP} (ho : (t o).1 = 12) (h1 : R 1105 o = some ol) (hol : (t ol).1 = 5) (hch : Chain t R (R 402 ol) ch) (q : Φ (some (.int (ch.foldl (stOw I mk) 0))) z t I R J B) : Sem l D A 0 0 0 mX11_owed [va_rf (some o), .int mk] z t I R J B Φ := by
  refine Sem.run [some (va_rf (some o)), some (.int mk), none, none] (by decide) rfl (ent_r (ent_i (ent_none (ent_none ent_nil)))) ?_
  refine V_const dX11_owed_0 ?_
  refine V_is2 dX11_owed_1 (by decide) (noL_i _) ?_
  refine V_aload dX11_owed_2 rfl ?_
  refine V_getRs fk_X11_47 dX11_owed_3 (by assumption) h1 ?_
  refine V_getR fk_X11_258 dX11_owed_6 (by assumption) ?_
  refine V_as3 dX11_owed_9 (by decide) (noL_i _) ?_
  exact lp_X11_owed _ _ _ hch q
def stBr (w : Int32) (I : MI) (a : Nat) : MI := if I 307 a = -1 ∨ I 307 a ≤ w then up2 I 307 a (-1) else I
theorem lp_X11_bringIn {l : Launch} {D : va_G} {A : Nat → Prop} {z : Nat} {t : TT} {R : MR} {J : MI} {B : MR} {o : Nat} {w : Int32} {Φ : PP} (ho : (t o).1 = 12) : ∀ (rest : List Nat) (r : Option Nat) (I : MI) (hw : I 1111 o = w), Chain t R r rest → Φ none z t (rest.foldl (stBr w) I) R J B → V l D A (rmm 1 0 0) mX11_bringIn (KS D A 0 0 Φ) 0 0 z t I R J B 8 [some (va_rf (some o)), some (va_rf r)] [] := by
  intro rest
  induction rest with
  | nil =>
    intro r I hw hch q
    have hr : r = none := hch
    subst hr
    refine V_aload dX11_bringIn_8 rfl ?_
    refine V_ifnull dX11_bringIn_9 (fun hn9 => ?_) (fun a9 hs9 => ?_)
    · exact V_vret dX11_bringIn_36 rfl (by decide) (by decide) q
    · exact absurd hs9 (by simp)
  | cons a as ih =>
    intro r I hw hch q
    obtain ⟨rfl, ha, hch⟩ := hch
    refine V_aload dX11_bringIn_8 rfl ?_
    refine V_ifnull dX11_bringIn_9 (fun hn9 => ?_) (fun a9 hs9 => ?_)
    · exact absurd hn9 (by simp)
    · cases hs9
      refine V_aload dX11_bringIn_12 rfl ?_
      refine V_aload dX11_bringIn_13 rfl ?_
      refine V_getIs fk_X11_121 dX11_bringIn_14 (by assumption) hw ?_
      refine V_invV (As := [_]) mv_X3_isThereBy lk_X11_293 dX11_bringIn_17 (c := 3) (by decide) rfl rfl (by assumption) rfl rfl (Nat.le_of_ble_eq_true rfl) ⟨⟨by decide, by decide⟩, by decide, by decide⟩ (sem_X3_isThereBy ha ?_)
      refine V_if_eq dX11_bringIn_20 (fun hc20 => ?_) (fun hc20 => ?_)
      · rw [bI_0] at hc20
        refine V_aload dX11_bringIn_28 rfl ?_
        refine V_getR fk_X11_262 dX11_bringIn_29 (by assumption) ?_
        refine V_as1 dX11_bringIn_32 (by decide) (noL_r _) ?_
        refine V_goto dX11_bringIn_33 ?_
        exact V.sub (lsS (lsS ls0)) (ih _ _ hw hch (by rw [List.foldl_cons, show stBr w I a = I from if_neg hc20] at q; exact q))
      · rw [bI_n0] at hc20
        refine V_aload dX11_bringIn_23 rfl ?_
        refine V_const dX11_bringIn_24 ?_
        refine V_putI fk_X11_297 (Or.inl rfl) rfl rfl dX11_bringIn_25 (by assumption) ?_
        refine V_aload dX11_bringIn_28 rfl ?_
        refine V_getR fk_X11_262 dX11_bringIn_29 (by assumption) ?_
        refine V_as1 dX11_bringIn_32 (by decide) (noL_r _) ?_
        refine V_goto dX11_bringIn_33 ?_
        exact V.sub (lsS (lsS ls0)) (ih _ _ (by rw [up2_ne _ _ _ (by decide)]; exact hw) hch (by rw [List.foldl_cons, show stBr w I a = up2 I 307 a (-1) from if_pos hc20] at q; exact q))
theorem sem_X11_bringIn {l : Launch} {D : va_G} {A : Nat → Prop} {z : Nat} {t : TT} {I : MI} {R : MR} {J : MI} {B : MR} {o ol : Nat} {ch : List Nat} {Φ : PP} (ho : (t o).1 = 12) (h1 : R 1105 o = some ol) (hol : (t ol).1 = 5) (hch : Chain t R (R 402 ol) ch) (q : Φ none z t (ch.foldl (stBr (I 1111 o)) I) R J B) : Sem l D A 1 0 0 mX11_bringIn [va_rf (some o)] z t I R J B Φ := by
  refine Sem.run [some (va_rf (some o)), none] (by decide) rfl (ent_r (ent_none ent_nil)) ?_
  refine V_aload dX11_bringIn_0 rfl ?_
  refine V_getRs fk_X11_47 dX11_bringIn_1 (by assumption) h1 ?_
  refine V_getR fk_X11_258 dX11_bringIn_4 (by assumption) ?_
  refine V_as1 dX11_bringIn_7 (by decide) (noL_r _) ?_
  exact lp_X11_bringIn ho _ _ _ rfl hch q
end
section
-- THE CLASS'S OBJECT: what never changes of its cells; the setters
def xPl (x p : Nat) : Nat := x + 23 + 13 * p
def xSo (x i : Nat) : Nat := x + 24 + 13 * (i / 4) + 3 * (i % 4)
def xKd (x k : Nat) : Nat := x + 15 + 2 * k
/-- the class's object at x: its cells as the constructor lays them -/
def XSt (x : Nat) (t : TT) (I : MI) (R : MR) (B : MR) : Prop :=
  (t x).1 = 12 ∧
  (R 1100 x = some (x + 1) ∧ t (x + 1) = (21, 8) ∧ ∀ p, p < 8 → B (x + 1) p = some (xPl x p) ∧ (t (xPl x p)).1 = 6 ∧ I 500 (xPl x p) = nI p) ∧
  (R 1101 x = some (x + 2) ∧ t (x + 2) = (22, 4) ∧ ∀ k, k < 4 → B (x + 2) k = some (xKd x k) ∧ (t (xKd x k)).1 = 2 ∧ I 100 (xKd x k) = nI k ∧ R 101 (xKd x k) = some (xKd x k + 1) ∧ t (xKd x k + 1) = (20, 10)) ∧
  (R 1102 x = some (x + 3) ∧ t (x + 3) = (23, 32) ∧ ∀ i, i < 32 → B (x + 3) i = some (xSo x i) ∧ (t (xSo x i)).1 = 8 ∧ I 700 (xSo x i) = nI i ∧ R 701 (xSo x i) = some (xPl x (i / 4)) ∧ R 702 (xSo x i) = some (xKd x (i % 4)) ∧ R 703 (xSo x i) = some (xSo x i + 1) ∧ R 704 (xSo x i) = some (xSo x i + 2) ∧ (t (xSo x i + 1)).1 = 10 ∧ (t (xSo x i + 2)).1 = 10) ∧
  (R 1103 x = some (x + 4) ∧ t (x + 4) = (26, 201)) ∧
  (R 1104 x = some (x + 6) ∧ t (x + 6) = (26, 8) ∧ ∀ p, p < 8 → B (x + 6) p = some (x + 7 + p) ∧ t (x + 7 + p) = (20, 8)) ∧
  (R 1105 x = some (x + 127) ∧ (t (x + 127)).1 = 5 ∧ R 400 (x + 127) = some (x + 128) ∧ t (x + 128) = (24, 300)) ∧
  (R 1106 x = some (x + 129) ∧ (t (x + 129)).1 = 11 ∧ R 1000 (x + 129) = some (x + 130) ∧ t (x + 130) = (20, 200)) ∧
  (R 1107 x = some (x + 131) ∧ (t (x + 131)).1 = 7 ∧ R 600 (x + 131) = some (x + 129)) ∧
  (R 1108 x = some (x + 132) ∧ t (x + 132) = (25, 10)) ∧
  (R 1110 x = some (x + 138) ∧ (t (x + 138)).1 = 3 ∧ R 200 (x + 138) = some (x + 139) ∧ R 201 (x + 138) = some (x + 140) ∧ t (x + 139) = (20, 40) ∧ t (x + 140) = (20, 40))
section XST
variable {x : Nat} {t : TT} {I : MI} {R : MR} {B : MR}
theorem XSt.hx (h : XSt x t I R B) : (t x).1 = 12 := h.1
theorem XSt.pl (h : XSt x t I R B) : R 1100 x = some (x + 1) ∧ t (x + 1) = (21, 8) ∧ ∀ p, p < 8 → B (x + 1) p = some (xPl x p) ∧ (t (xPl x p)).1 = 6 ∧ I 500 (xPl x p) = nI p := h.2.1
theorem XSt.kd (h : XSt x t I R B) : R 1101 x = some (x + 2) ∧ t (x + 2) = (22, 4) ∧ ∀ k, k < 4 → B (x + 2) k = some (xKd x k) ∧ (t (xKd x k)).1 = 2 ∧ I 100 (xKd x k) = nI k ∧ R 101 (xKd x k) = some (xKd x k + 1) ∧ t (xKd x k + 1) = (20, 10) := h.2.2.1
theorem XSt.so (h : XSt x t I R B) : R 1102 x = some (x + 3) ∧ t (x + 3) = (23, 32) ∧ ∀ i, i < 32 → B (x + 3) i = some (xSo x i) ∧ (t (xSo x i)).1 = 8 ∧ I 700 (xSo x i) = nI i ∧ R 701 (xSo x i) = some (xPl x (i / 4)) ∧ R 702 (xSo x i) = some (xKd x (i % 4)) ∧ R 703 (xSo x i) = some (xSo x i + 1) ∧ R 704 (xSo x i) = some (xSo x i + 2) ∧ (t (xSo x i + 1)).1 = 10 ∧ (t (xSo x i + 2)).1 = 10 := h.2.2.2.1
theorem XSt.bg (h : XSt x t I R B) : R 1103 x = some (x + 4) ∧ t (x + 4) = (26, 201) := h.2.2.2.2.1
theorem XSt.wy (h : XSt x t I R B) : R 1104 x = some (x + 6) ∧ t (x + 6) = (26, 8) ∧ ∀ p, p < 8 → B (x + 6) p = some (x + 7 + p) ∧ t (x + 7 + p) = (20, 8) := h.2.2.2.2.2.1
theorem XSt.lo (h : XSt x t I R B) : R 1105 x = some (x + 127) ∧ (t (x + 127)).1 = 5 ∧ R 400 (x + 127) = some (x + 128) ∧ t (x + 128) = (24, 300) := h.2.2.2.2.2.2.1
theorem XSt.tp (h : XSt x t I R B) : R 1106 x = some (x + 129) ∧ (t (x + 129)).1 = 11 ∧ R 1000 (x + 129) = some (x + 130) ∧ t (x + 130) = (20, 200) := h.2.2.2.2.2.2.2.1
theorem XSt.rd (h : XSt x t I R B) : R 1107 x = some (x + 131) ∧ (t (x + 131)).1 = 7 ∧ R 600 (x + 131) = some (x + 129) := h.2.2.2.2.2.2.2.2.1
theorem XSt.co (h : XSt x t I R B) : R 1108 x = some (x + 132) ∧ t (x + 132) = (25, 10) := h.2.2.2.2.2.2.2.2.2.1
theorem XSt.li (h : XSt x t I R B) : R 1110 x = some (x + 138) ∧ (t (x + 138)).1 = 3 ∧ R 200 (x + 138) = some (x + 139) ∧ R 201 (x + 138) = some (x + 140) ∧ t (x + 139) = (20, 40) ∧ t (x + 140) = (20, 40) := h.2.2.2.2.2.2.2.2.2.2
end XST
theorem sem_X11_men {l : Launch} {D : va_G} {A : Nat → Prop} {z : Nat} {t : TT} {I : MI} {R : MR} {J : MI} {B : MR} {x : Nat} {p n : Int32} {Φ : PP} (hX : XSt x t I R B) (q0 : ¬ ((0 ≤ p ∧ p ≤ 7) ∧ 0 ≤ n ∧ n ≤ 1000) → Φ (some (.int 0)) z t I R J B) (q : ∀ j, j < 8 → p = nI j → 0 ≤ n ∧ n ≤ 1000 → Φ (some (.int 1)) z t (up2 I 501 (xPl x j) n) R J B) : Sem l D A 2 0 0 mX11_men [va_rf (some x), .int p, .int n] z t I R J B Φ := by
  refine Sem.run [some (va_rf (some x)), some (.int p), some (.int n), none] (by decide) rfl (ent_r (ent_i (ent_i (ent_none ent_nil)))) ?_
  refine V_aload dX11_men_0 rfl ?_
  refine V_iload dX11_men_1 rfl ?_
  refine V_invV (As := [_]) mv_X11_placeOf lk_X11_85 dX11_men_2 (c := 11) (by decide) rfl rfl hX.hx rfl rfl (Nat.le_of_ble_eq_true rfl) ⟨⟨by decide, by decide⟩, by decide, by decide⟩ (sem_X11_placeOf hX.hx hX.pl.1 hX.pl.2.1 (fun ho2 => ?_) (fun j hj hvj => ?_))
  · refine V_as3 dX11_men_5 (by decide) (noL_i _) ?_
    refine V_aload dX11_men_6 rfl ?_
    refine V_ifnull dX11_men_7 (fun hn7 => ?_) (fun a7 hs7 => ?_)
    · refine V_const dX11_men_21 ?_
      exact V_zret dX11_men_22 rfl (by first | exact Or.inl rfl | exact Or.inr rfl) (by decide) (by decide) (q0 (fun h => by obtain ⟨i, hi, hv⟩ := i_rng (N := 8) rfl h.1; exact ho2 i hi hv))
    · exact absurd hs7 (by simp)
  · rw [(hX.pl.2.2 j hj).1]
    refine V_as3 dX11_men_5 (by decide) (noL_i _) ?_
    refine V_aload dX11_men_6 rfl ?_
    refine V_ifnull dX11_men_7 (fun hn7 => ?_) (fun a7 hs7 => ?_)
    · exact absurd hn7 (by simp)
    · cases hs7
      refine V_iload dX11_men_10 rfl ?_
      refine V_const dX11_men_11 ?_
      refine V_const dX11_men_12 ?_
      refine V_invS (As := [_, _, _]) ms_X11_within lk_X11_89 dX11_men_15 rfl rfl rfl (Nat.le_of_ble_eq_true rfl) ⟨⟨by decide, by decide⟩, by decide, by decide⟩ (sem_X11_within ?_)
      refine V_if_ne dX11_men_18 (fun hc18 => ?_) (fun hc18 => ?_)
      · rw [bI_n0] at hc18
        refine V_aload dX11_men_23 rfl ?_
        refine V_iload dX11_men_24 rfl ?_
        refine V_putI fk_X11_93 (Or.inl rfl) rfl rfl dX11_men_25 (hX.pl.2.2 j hj).2.1 ?_
        refine V_const dX11_men_28 ?_
        exact V_zret dX11_men_29 rfl (by first | exact Or.inl rfl | exact Or.inr rfl) (by decide) (by decide) (q j hj hvj hc18)
      · rw [bI_0] at hc18
        refine V_const dX11_men_21 ?_
        exact V_zret dX11_men_22 rfl (by first | exact Or.inl rfl | exact Or.inr rfl) (by decide) (by decide) (q0 (fun h => hc18 h.2))
theorem sem_X11_rations {l : Launch} {D : va_G} {A : Nat → Prop} {z : Nat} {t : TT} {I : MI} {R : MR} {J : MI} {B : MR} {x : Nat} {p n : Int32} {Φ : PP} (hX : XSt x t I R B) (q0 : ¬ ((0 ≤ p ∧ p ≤ 3) ∧ 1 ≤ n ∧ n ≤ 500) → Φ (some (.int 0)) z t I R J B) (q : ∀ j, j < 4 → p = nI j → 1 ≤ n ∧ n ≤ 500 → Φ (some (.int 1)) z t (up2 I 102 (xKd x j) n) R J B) : Sem l D A 2 0 0 mX11_rations [va_rf (some x), .int p, .int n] z t I R J B Φ := by
  refine Sem.run [some (va_rf (some x)), some (.int p), some (.int n), none] (by decide) rfl (ent_r (ent_i (ent_i (ent_none ent_nil)))) ?_
  refine V_aload dX11_rations_0 rfl ?_
  refine V_iload dX11_rations_1 rfl ?_
  refine V_invV (As := [_]) mv_X11_kindOf lk_X11_97 dX11_rations_2 (c := 11) (by decide) rfl rfl hX.hx rfl rfl (Nat.le_of_ble_eq_true rfl) ⟨⟨by decide, by decide⟩, by decide, by decide⟩ (sem_X11_kindOf hX.hx hX.kd.1 hX.kd.2.1 (fun ho2 => ?_) (fun j hj hvj => ?_))
  · refine V_as3 dX11_rations_5 (by decide) (noL_i _) ?_
    refine V_aload dX11_rations_6 rfl ?_
    refine V_ifnull dX11_rations_7 (fun hn7 => ?_) (fun a7 hs7 => ?_)
    · refine V_const dX11_rations_21 ?_
      exact V_zret dX11_rations_22 rfl (by first | exact Or.inl rfl | exact Or.inr rfl) (by decide) (by decide) (q0 (fun h => by obtain ⟨i, hi, hv⟩ := i_rng (N := 4) rfl h.1; exact ho2 i hi hv))
    · exact absurd hs7 (by simp)
  · rw [(hX.kd.2.2 j hj).1]
    refine V_as3 dX11_rations_5 (by decide) (noL_i _) ?_
    refine V_aload dX11_rations_6 rfl ?_
    refine V_ifnull dX11_rations_7 (fun hn7 => ?_) (fun a7 hs7 => ?_)
    · exact absurd hn7 (by simp)
    · cases hs7
      refine V_iload dX11_rations_10 rfl ?_
      refine V_const dX11_rations_11 ?_
      refine V_const dX11_rations_12 ?_
      refine V_invS (As := [_, _, _]) ms_X11_within lk_X11_89 dX11_rations_15 rfl rfl rfl (Nat.le_of_ble_eq_true rfl) ⟨⟨by decide, by decide⟩, by decide, by decide⟩ (sem_X11_within ?_)
      refine V_if_ne dX11_rations_18 (fun hc18 => ?_) (fun hc18 => ?_)
      · rw [bI_n0] at hc18
        refine V_aload dX11_rations_23 rfl ?_
        refine V_iload dX11_rations_24 rfl ?_
        refine V_putI fk_X11_101 (Or.inl rfl) rfl rfl dX11_rations_25 (hX.kd.2.2 j hj).2.1 ?_
        refine V_const dX11_rations_28 ?_
        exact V_zret dX11_rations_29 rfl (by first | exact Or.inl rfl | exact Or.inr rfl) (by decide) (by decide) (q j hj hvj hc18)
      · rw [bI_0] at hc18
        refine V_const dX11_rations_21 ?_
        exact V_zret dX11_rations_22 rfl (by first | exact Or.inl rfl | exact Or.inr rfl) (by decide) (by decide) (q0 (fun h => hc18 h.2))
theorem sem_X11_lag {l : Launch} {D : va_G} {A : Nat → Prop} {z : Nat} {t : TT} {I : MI} {R : MR} {J : MI} {B : MR} {x : Nat} {p n : Int32} {Φ : PP} (hX : XSt x t I R B) (q0 : ¬ ((0 ≤ p ∧ p ≤ 7) ∧ 0 ≤ n ∧ n ≤ 30) → Φ (some (.int 0)) z t I R J B) (q : ∀ j, j < 8 → p = nI j → 0 ≤ n ∧ n ≤ 30 → Φ (some (.int 1)) z t (up2 I 502 (xPl x j) n) R J B) : Sem l D A 2 0 0 mX11_lag [va_rf (some x), .int p, .int n] z t I R J B Φ := by
  refine Sem.run [some (va_rf (some x)), some (.int p), some (.int n), none] (by decide) rfl (ent_r (ent_i (ent_i (ent_none ent_nil)))) ?_
  refine V_aload dX11_lag_0 rfl ?_
  refine V_iload dX11_lag_1 rfl ?_
  refine V_invV (As := [_]) mv_X11_placeOf lk_X11_85 dX11_lag_2 (c := 11) (by decide) rfl rfl hX.hx rfl rfl (Nat.le_of_ble_eq_true rfl) ⟨⟨by decide, by decide⟩, by decide, by decide⟩ (sem_X11_placeOf hX.hx hX.pl.1 hX.pl.2.1 (fun ho2 => ?_) (fun j hj hvj => ?_))
  · refine V_as3 dX11_lag_5 (by decide) (noL_i _) ?_
    refine V_aload dX11_lag_6 rfl ?_
    refine V_ifnull dX11_lag_7 (fun hn7 => ?_) (fun a7 hs7 => ?_)
    · refine V_const dX11_lag_20 ?_
      exact V_zret dX11_lag_21 rfl (by first | exact Or.inl rfl | exact Or.inr rfl) (by decide) (by decide) (q0 (fun h => by obtain ⟨i, hi, hv⟩ := i_rng (N := 8) rfl h.1; exact ho2 i hi hv))
    · exact absurd hs7 (by simp)
  · rw [(hX.pl.2.2 j hj).1]
    refine V_as3 dX11_lag_5 (by decide) (noL_i _) ?_
    refine V_aload dX11_lag_6 rfl ?_
    refine V_ifnull dX11_lag_7 (fun hn7 => ?_) (fun a7 hs7 => ?_)
    · exact absurd hn7 (by simp)
    · cases hs7
      refine V_iload dX11_lag_10 rfl ?_
      refine V_const dX11_lag_11 ?_
      refine V_const dX11_lag_12 ?_
      refine V_invS (As := [_, _, _]) ms_X11_within lk_X11_89 dX11_lag_14 rfl rfl rfl (Nat.le_of_ble_eq_true rfl) ⟨⟨by decide, by decide⟩, by decide, by decide⟩ (sem_X11_within ?_)
      refine V_if_ne dX11_lag_17 (fun hc17 => ?_) (fun hc17 => ?_)
      · rw [bI_n0] at hc17
        refine V_aload dX11_lag_22 rfl ?_
        refine V_iload dX11_lag_23 rfl ?_
        refine V_putI fk_X11_107 (Or.inl rfl) rfl rfl dX11_lag_24 (hX.pl.2.2 j hj).2.1 ?_
        refine V_const dX11_lag_27 ?_
        exact V_zret dX11_lag_28 rfl (by first | exact Or.inl rfl | exact Or.inr rfl) (by decide) (by decide) (q j hj hvj hc17)
      · rw [bI_0] at hc17
        refine V_const dX11_lag_20 ?_
        exact V_zret dX11_lag_21 rfl (by first | exact Or.inl rfl | exact Or.inr rfl) (by decide) (by decide) (q0 (fun h => hc17 h.2))
theorem sem_X11_spoils {l : Launch} {D : va_G} {A : Nat → Prop} {z : Nat} {t : TT} {I : MI} {R : MR} {J : MI} {B : MR} {x : Nat} {p a n : Int32} {Φ : PP} (hX : XSt x t I R B) (q0 : ¬ ((0 ≤ p ∧ p ≤ 3) ∧ (0 ≤ a ∧ a ≤ 9) ∧ 0 ≤ n ∧ n ≤ 1000) → Φ (some (.int 0)) z t I R J B) (q : ∀ j i, j < 4 → i < 10 → p = nI j → a = nI i → 0 ≤ n ∧ n ≤ 1000 → Φ (some (.int 1)) z t I R (up2 J (xKd x j + 1) i n) B) : Sem l D A 2 0 0 mX11_spoils [va_rf (some x), .int p, .int a, .int n] z t I R J B Φ := by
  refine Sem.run [some (va_rf (some x)), some (.int p), some (.int a), some (.int n), none] (by decide) rfl (ent_r (ent_i (ent_i (ent_i (ent_none ent_nil))))) ?_
  refine V_aload dX11_spoils_0 rfl ?_
  refine V_iload dX11_spoils_1 rfl ?_
  refine V_invV (As := [_]) mv_X11_kindOf lk_X11_97 dX11_spoils_2 (c := 11) (by decide) rfl rfl hX.hx rfl rfl (Nat.le_of_ble_eq_true rfl) ⟨⟨by decide, by decide⟩, by decide, by decide⟩ (sem_X11_kindOf hX.hx hX.kd.1 hX.kd.2.1 (fun ho2 => ?_) (fun j hj hvj => ?_))
  · refine V_as4 dX11_spoils_5 (by decide) (noL_i _) ?_
    refine V_aload dX11_spoils_7 rfl ?_
    refine V_ifnull dX11_spoils_9 (fun hn9 => ?_) (fun a9 hs9 => ?_)
    · refine V_const dX11_spoils_33 ?_
      exact V_zret dX11_spoils_34 rfl (by first | exact Or.inl rfl | exact Or.inr rfl) (by decide) (by decide) (q0 (fun h => by obtain ⟨i, hi, hv⟩ := i_rng (N := 4) rfl h.1; exact ho2 i hi hv))
    · exact absurd hs9 (by simp)
  · rw [(hX.kd.2.2 j hj).1]
    refine V_as4 dX11_spoils_5 (by decide) (noL_i _) ?_
    refine V_aload dX11_spoils_7 rfl ?_
    refine V_ifnull dX11_spoils_9 (fun hn9 => ?_) (fun a9 hs9 => ?_)
    · exact absurd hn9 (by simp)
    · cases hs9
      refine V_iload dX11_spoils_12 rfl ?_
      refine V_const dX11_spoils_13 ?_
      refine V_const dX11_spoils_14 ?_
      refine V_invS (As := [_, _, _]) ms_X11_within lk_X11_89 dX11_spoils_16 rfl rfl rfl (Nat.le_of_ble_eq_true rfl) ⟨⟨by decide, by decide⟩, by decide, by decide⟩ (sem_X11_within ?_)
      refine V_if_eq dX11_spoils_19 (fun hc19 => ?_) (fun hc19 => ?_)
      · rw [bI_0] at hc19
        refine V_const dX11_spoils_33 ?_
        exact V_zret dX11_spoils_34 rfl (by first | exact Or.inl rfl | exact Or.inr rfl) (by decide) (by decide) (q0 (fun h => hc19 h.2.1))
      · rw [bI_n0] at hc19
        obtain ⟨i, hi, hvi⟩ := i_rng (N := 10) rfl hc19
        refine V_iload dX11_spoils_22 rfl ?_
        refine V_const dX11_spoils_23 ?_
        refine V_const dX11_spoils_24 ?_
        refine V_invS (As := [_, _, _]) ms_X11_within lk_X11_89 dX11_spoils_27 rfl rfl rfl (Nat.le_of_ble_eq_true rfl) ⟨⟨by decide, by decide⟩, by decide, by decide⟩ (sem_X11_within ?_)
        refine V_if_ne dX11_spoils_30 (fun hc30 => ?_) (fun hc30 => ?_)
        · rw [bI_n0] at hc30
          refine V_aload dX11_spoils_35 rfl ?_
          refine V_getRs fk_X11_104 dX11_spoils_37 (hX.kd.2.2 j hj).2.1 (hX.kd.2.2 j hj).2.2.2.1 ?_
          refine V_iload dX11_spoils_40 rfl ?_
          refine V_iload dX11_spoils_41 rfl ?_
          refine V_iast dX11_spoils_42 (hX.kd.2.2 j hj).2.2.2.2 hvi hi (by decide) ?_
          refine V_const dX11_spoils_43 ?_
          exact V_zret dX11_spoils_44 rfl (by first | exact Or.inl rfl | exact Or.inr rfl) (by decide) (by decide) (q j i hj hi hvj hvi hc30)
        · rw [bI_0] at hc30
          refine V_const dX11_spoils_33 ?_
          exact V_zret dX11_spoils_34 rfl (by first | exact Or.inl rfl | exact Or.inr rfl) (by decide) (by decide) (q0 (fun h => hc30 h.2.2))
theorem sem_X11_way {l : Launch} {D : va_G} {A : Nat → Prop} {z : Nat} {t : TT} {I : MI} {R : MR} {J : MI} {B : MR} {x : Nat} {a b w : Int32} {Φ : PP} (hX : XSt x t I R B) (q0 : ¬ ((0 ≤ a ∧ a ≤ 7) ∧ (0 ≤ b ∧ b ≤ 7) ∧ a ≠ b ∧ 0 ≤ w ∧ w ≤ 30) → Φ (some (.int 0)) z t I R J B) (q : ∀ i j, i < 8 → j < 8 → i ≠ j → a = nI i → b = nI j → 0 ≤ w ∧ w ≤ 30 → Φ (some (.int 1)) z t I R (up2 (up2 J (x + 7 + i) j w) (x + 7 + j) i w) B) : Sem l D A 2 0 0 mX11_way [va_rf (some x), .int a, .int b, .int w] z t I R J B Φ := by
  refine Sem.run [some (va_rf (some x)), some (.int a), some (.int b), some (.int w)] (by decide) rfl (ent_r (ent_i (ent_i (ent_i ent_nil)))) ?_
  refine V_aload dX11_way_0 rfl ?_
  refine V_iload dX11_way_1 rfl ?_
  refine V_invV (As := [_]) mv_X11_placeOf lk_X11_85 dX11_way_2 (c := 11) (by decide) rfl rfl hX.hx rfl rfl (Nat.le_of_ble_eq_true rfl) ⟨⟨by decide, by decide⟩, by decide, by decide⟩ (sem_X11_placeOf hX.hx hX.pl.1 hX.pl.2.1 (fun ho2 => ?_) (fun i hi hvi => ?_))
  · refine V_ifnull dX11_way_5 (fun hn5 => ?_) (fun a5 hs5 => ?_)
    · refine V_const dX11_way_21 ?_
      exact V_zret dX11_way_22 rfl (by first | exact Or.inl rfl | exact Or.inr rfl) (by decide) (by decide) (q0 (fun h => by obtain ⟨i, hi, hv⟩ := i_rng (N := 8) rfl h.1; exact ho2 i hi hv))
    · exact absurd hs5 (by simp)
  · rw [(hX.pl.2.2 i hi).1]
    refine V_ifnull dX11_way_5 (fun hn5 => ?_) (fun a5 hs5 => ?_)
    · exact absurd hn5 (by simp)
    · cases hs5
      refine V_aload dX11_way_8 rfl ?_
      refine V_iload dX11_way_9 rfl ?_
      refine V_invV (As := [_]) mv_X11_placeOf lk_X11_85 dX11_way_10 (c := 11) (by decide) rfl rfl hX.hx rfl rfl (Nat.le_of_ble_eq_true rfl) ⟨⟨by decide, by decide⟩, by decide, by decide⟩ (sem_X11_placeOf hX.hx hX.pl.1 hX.pl.2.1 (fun ho10 => ?_) (fun j hj hvj => ?_))
      · refine V_ifnull dX11_way_13 (fun hn13 => ?_) (fun a13 hs13 => ?_)
        · refine V_const dX11_way_21 ?_
          exact V_zret dX11_way_22 rfl (by first | exact Or.inl rfl | exact Or.inr rfl) (by decide) (by decide) (q0 (fun h => by obtain ⟨i, hi, hv⟩ := i_rng (N := 8) rfl h.2.1; exact ho10 i hi hv))
        · exact absurd hs13 (by simp)
      · rw [(hX.pl.2.2 j hj).1]
        refine V_ifnull dX11_way_13 (fun hn13 => ?_) (fun a13 hs13 => ?_)
        · exact absurd hn13 (by simp)
        · cases hs13
          refine V_iload dX11_way_16 rfl ?_
          refine V_iload dX11_way_17 rfl ?_
          refine V_icmp_ne dX11_way_18 (fun hc18 => ?_) (fun hc18 => ?_)
          · refine V_iload dX11_way_23 rfl ?_
            refine V_const dX11_way_24 ?_
            refine V_const dX11_way_25 ?_
            refine V_invS (As := [_, _, _]) ms_X11_within lk_X11_89 dX11_way_27 rfl rfl rfl (Nat.le_of_ble_eq_true rfl) ⟨⟨by decide, by decide⟩, by decide, by decide⟩ (sem_X11_within ?_)
            refine V_if_ne dX11_way_30 (fun hc30 => ?_) (fun hc30 => ?_)
            · rw [bI_n0] at hc30
              refine V_aload dX11_way_35 rfl ?_
              refine V_getRs fk_X11_34 dX11_way_36 hX.hx hX.wy.1 ?_
              refine V_iload dX11_way_39 rfl ?_
              refine V_aalds (j := 5) dX11_way_40 rfl (by decide) hX.wy.2.1 hvi hi (by decide) (hX.wy.2.2 i hi).1 ?_
              refine V_iload dX11_way_41 rfl ?_
              refine V_iload dX11_way_42 rfl ?_
              refine V_iast dX11_way_43 (hX.wy.2.2 i hi).2 hvj hj (by decide) ?_
              refine V_aload dX11_way_44 rfl ?_
              refine V_getRs fk_X11_34 dX11_way_45 hX.hx hX.wy.1 ?_
              refine V_iload dX11_way_48 rfl ?_
              refine V_aalds (j := 5) dX11_way_49 rfl (by decide) hX.wy.2.1 hvj hj (by decide) (hX.wy.2.2 j hj).1 ?_
              refine V_iload dX11_way_50 rfl ?_
              refine V_iload dX11_way_51 rfl ?_
              refine V_iast dX11_way_52 (hX.wy.2.2 j hj).2 hvi hi (by decide) ?_
              refine V_const dX11_way_53 ?_
              exact V_zret dX11_way_54 rfl (by first | exact Or.inl rfl | exact Or.inr rfl) (by decide) (by decide) (q i j hi hj (fun e => hc18 (by rw [hvi, hvj, e])) hvi hvj hc30)
            · rw [bI_0] at hc30
              refine V_const dX11_way_33 ?_
              exact V_zret dX11_way_34 rfl (by first | exact Or.inl rfl | exact Or.inr rfl) (by decide) (by decide) (q0 (fun h => hc30 h.2.2.2))
          · refine V_const dX11_way_21 ?_
            exact V_zret dX11_way_22 rfl (by first | exact Or.inl rfl | exact Or.inr rfl) (by decide) (by decide) (q0 (fun h => h.2.2.1 hc18))
end
section
-- THE CLASS'S WEEK: spoiling, eating, the stocks
theorem up2n {α : Type} {M : Nat → Nat → α} {f g a b : Nat} {v : α} (h : g ≠ f) : up2 M f a v g b = M g b := by rw [up2_ne _ _ _ h]
theorem up2s {α : Type} {M : Nat → Nat → α} {f a : Nat} {v : α} : up2 M f a v f a = v := by rw [up2_self, va_up_self]
theorem up2o {α : Type} {M : Nat → Nat → α} {f g a b : Nat} {v : α} (h : b ≠ a) : up2 M f a v g b = M g b := up2_off _ _ _ _ h
/-- the row of an age -/
def ageN (v : Int32) : Nat := (jmax 0 (jmin 9 v)).toNatClampNeg
theorem age_ok (v : Int32) : jmax 0 (jmin 9 v) = nI (ageN v) ∧ ageN v < 10 := by
  have h1 : (0 : Int32) ≤ jmax 0 (jmin 9 v) := by
    unfold jmax
    split
    · rename_i h; rw [i_lt] at h; rw [i_le]; omega
    · exact Int32.le_refl _
  have h2 : jmax 0 (jmin 9 v) ≤ 9 := by
    unfold jmax jmin
    by_cases h : v < 9
    · rw [if_pos h]
      split
      · rw [i_lt] at h; rw [i_le]; omega
      · decide
    · rw [if_neg h]; decide
  obtain ⟨i, hi, e⟩ := i_rng (N := 10) rfl ⟨h1, h2⟩
  unfold ageN
  rw [e, nI_clamp (by omega)]
  exact ⟨rfl, hi⟩
/-- what is lost of c casks after w weeks, at sea or not, by the rows f -/
def lossS (f : Nat → Int32) (c w s : Int32) : Int32 := c * (if s = 0 then f (ageN (w / 4)) else jmin 1000 (2 * f (ageN (w / 4)))) / 1000
theorem sem_X1_loss {l : Launch} {D : va_G} {A : Nat → Prop} {z : Nat} {t : TT} {I : MI} {R : MR} {J : MI} {B : MR} {o kp : Nat} {c w s : Int32} {Φ : PP} (ho : (t o).1 = 2) (h1 : R 101 o = some kp) (h2 : t kp = (20, 10)) (q : Φ (some (.int (lossS (J kp) c w s))) z t I R J B) : Sem l D A 1 0 0 mX1_loss [va_rf (some o), .int c, .int w, .int s] z t I R J B Φ := by
  refine Sem.run [some (va_rf (some o)), some (.int c), some (.int w), some (.int s), none, none] (by decide) rfl (ent_r (ent_i (ent_i (ent_i (ent_none (ent_none ent_nil)))))) ?_
  refine V_const dX1_loss_0 ?_
  refine V_const dX1_loss_1 ?_
  refine V_iload dX1_loss_3 rfl ?_
  refine V_const dX1_loss_4 ?_
  refine V_idiv dX1_loss_5 (by decide) ?_
  refine V_jmin dX1_loss_6 lk_X1_22 (by decide) (by decide) (by decide) (by decide) (Nat.le_of_ble_eq_true rfl) ?_
  refine V_jmax dX1_loss_9 lk_X1_28 (by decide) (by decide) (by decide) (by decide) (Nat.le_of_ble_eq_true rfl) ?_
  refine V_is4 dX1_loss_12 (by decide) (noL_i _) ?_
  refine V_iload dX1_loss_14 rfl ?_
  refine V_if_eq dX1_loss_15 (fun hc15 => ?_) (fun hc15 => ?_)
  · refine V_aload dX1_loss_36 rfl ?_
    refine V_getRs fk_X1_15 dX1_loss_37 (by assumption) h1 ?_
    refine V_iload dX1_loss_40 rfl ?_
    refine V_iald dX1_loss_42 h2 (age_ok _).1 (age_ok _).2 (by decide) ?_
    refine V_is5 dX1_loss_43 (by decide) (noL_i _) ?_
    refine V_iload dX1_loss_45 rfl ?_
    refine V_iload dX1_loss_46 rfl ?_
    refine V_imul dX1_loss_48 ?_
    refine V_const dX1_loss_49 ?_
    refine V_idiv dX1_loss_52 (by decide) ?_
    exact V_iret dX1_loss_53 rfl (by decide) (by decide) (by unfold lossS at q; rw [if_pos hc15] at q; exact q)
  · refine V_const dX1_loss_18 ?_
    refine V_const dX1_loss_21 ?_
    refine V_aload dX1_loss_22 rfl ?_
    refine V_getRs fk_X1_15 dX1_loss_23 (by assumption) h1 ?_
    refine V_iload dX1_loss_26 rfl ?_
    refine V_iald dX1_loss_28 h2 (age_ok _).1 (age_ok _).2 (by decide) ?_
    refine V_imul dX1_loss_29 ?_
    refine V_jmin dX1_loss_30 lk_X1_22 (by decide) (by decide) (by decide) (by decide) (Nat.le_of_ble_eq_true rfl) ?_
    refine V_goto dX1_loss_33 ?_
    refine V_is5 dX1_loss_43 (by decide) (noL_i _) ?_
    refine V_iload dX1_loss_45 rfl ?_
    refine V_iload dX1_loss_46 rfl ?_
    refine V_imul dX1_loss_48 ?_
    refine V_const dX1_loss_49 ?_
    refine V_idiv dX1_loss_52 (by decide) ?_
    exact V_iret dX1_loss_53 rfl (by decide) (by decide) (by unfold lossS at q; rw [if_neg hc15] at q; exact q)
/-- what is known of the lots of a chain: their stores, the lots that were bought -/
def LotsOk (x n : Nat) (t : TT) (I : MI) (R : MR) (B : MR) (si mi bm : Nat → Nat) (ch : List Nat) : Prop := ∀ a ∈ ch, (R 300 a = some (xSo x (si a)) ∧ si a < 32) ∧ (I 304 a = nI (mi a) ∧ mi a < n) ∧ B (x + 128) (mi a) = some (bm a) ∧ (t (bm a)).1 = 4
def loCo (x : Nat) (si : Nat → Nat) (w : Int32) (J : MI) (I : MI) (a : Nat) : Int32 := lossS (J (xKd x (si a % 4) + 1)) (I 306 a) (w - I 302 a) (bI (¬ I 307 a = -1))
def stCo (x : Nat) (si bm : Nat → Nat) (w : Int32) (J : MI) (I : MI) (a : Nat) : MI := up2 (up2 (up2 I 306 a (I 306 a - loCo x si w J I a)) 1113 x (I 1113 x + loCo x si w J I a)) 311 (bm a) (I 311 (bm a) + loCo x si w J I a)
theorem lp_X11_condemn {l : Launch} {D : va_G} {A : Nat → Prop} {z : Nat} {t : TT} {R : MR} {J : MI} {B : MR} {x n : Nat} {w : Int32} {si mi bm : Nat → Nat} {Φ : PP} (I0 : MI) (hX : XSt x t I0 R B) (hn2 : n ≤ 300) : ∀ (rest : List Nat) (r : Option Nat) (I : MI) (hw : I 1111 x = w) (hn : I 401 (x + 127) = nI n) (hok : LotsOk x n t I R B si mi bm rest), Chain t R r rest → Φ none z t (rest.foldl (stCo x si bm w J) I) R J B → V l D A (rmm 2 0 0) mX11_condemnSpoilt (KS D A 0 0 Φ) 0 0 z t I R J B 8 [some (va_rf (some x)), some (va_rf r), none, none] [] := by
  intro rest
  induction rest with
  | nil =>
    intro r I hw hn hok hch q
    have hr : r = none := hch
    subst hr
    refine V_aload dX11_condemnSpoilt_8 rfl ?_
    refine V_ifnull dX11_condemnSpoilt_9 (fun hn9 => ?_) (fun a9 hs9 => ?_)
    · exact V_vret dX11_condemnSpoilt_102 rfl (by decide) (by decide) q
    · exact absurd hs9 (by simp)
  | cons a as ih =>
    intro r I hw hn hok hch q
    obtain ⟨rfl, ha, hch⟩ := hch
    obtain ⟨⟨hsi, hsl⟩, ⟨hmi, hml⟩, hbm, hbt⟩ := hok a List.mem_cons_self
    have hk4 : si a % 4 < 4 := Nat.mod_lt _ (by decide)
    refine V_aload dX11_condemnSpoilt_8 rfl ?_
    refine V_ifnull dX11_condemnSpoilt_9 (fun hn9 => ?_) (fun a9 hs9 => ?_)
    · exact absurd hn9 (by simp)
    · cases hs9
      refine V_aload dX11_condemnSpoilt_12 rfl ?_
      refine V_getRs fk_X11_150 dX11_condemnSpoilt_13 (by assumption) hsi ?_
      refine V_getRs fk_X11_161 dX11_condemnSpoilt_16 (hX.so.2.2 _ hsl).2.1 (hX.so.2.2 _ hsl).2.2.2.2.1 ?_
      refine V_aload dX11_condemnSpoilt_19 rfl ?_
      refine V_getI fk_X11_147 dX11_condemnSpoilt_20 (by assumption) ?_
      refine V_aload dX11_condemnSpoilt_23 rfl ?_
      refine V_getIs fk_X11_121 dX11_condemnSpoilt_24 hX.hx hw ?_
      refine V_aload dX11_condemnSpoilt_27 rfl ?_
      refine V_getI fk_X11_169 dX11_condemnSpoilt_28 (by assumption) ?_
      refine V_isub dX11_condemnSpoilt_31 ?_
      refine V_aload dX11_condemnSpoilt_32 rfl ?_
      refine V_invV (As := []) mv_X3_isThere lk_X11_144 dX11_condemnSpoilt_33 (c := 3) (by decide) rfl rfl (by assumption) rfl rfl (Nat.le_of_ble_eq_true rfl) ⟨⟨by decide, by decide⟩, by decide, by decide⟩ (sem_X3_isThere ha ?_)
      refine V_if_ne dX11_condemnSpoilt_36 (fun hc36 => ?_) (fun hc36 => ?_)
      · rw [bI_n0] at hc36
        refine V_const dX11_condemnSpoilt_43 ?_
        refine V_invV (As := [_, _, _]) mv_X1_loss lk_X11_300 dX11_condemnSpoilt_44 (c := 1) (by decide) rfl rfl (hX.kd.2.2 _ hk4).2.1 rfl rfl (Nat.le_of_ble_eq_true rfl) ⟨⟨by decide, by decide⟩, by decide, by decide⟩ (sem_X1_loss (hX.kd.2.2 _ hk4).2.1 (hX.kd.2.2 _ hk4).2.2.2.1 (hX.kd.2.2 _ hk4).2.2.2.2 ?_)
        refine V_is2 dX11_condemnSpoilt_47 (by decide) (noL_r _) ?_
        refine V_aload dX11_condemnSpoilt_48 rfl ?_
        refine V_dupr dX11_condemnSpoilt_49 ?_
        refine V_getI fk_X11_147 dX11_condemnSpoilt_50 (by assumption) ?_
        refine V_iload dX11_condemnSpoilt_53 rfl ?_
        refine V_isub dX11_condemnSpoilt_54 ?_
        refine V_putI fk_X11_147 (Or.inl rfl) rfl rfl dX11_condemnSpoilt_55 (by assumption) ?_
        refine V_aload dX11_condemnSpoilt_58 rfl ?_
        refine V_dupr dX11_condemnSpoilt_59 ?_
        refine V_getIs fk_X11_283 dX11_condemnSpoilt_60 hX.hx (up2n (by decide)) ?_
        refine V_iload dX11_condemnSpoilt_63 rfl ?_
        refine V_iadd dX11_condemnSpoilt_64 ?_
        refine V_putI fk_X11_283 (Or.inl rfl) rfl rfl dX11_condemnSpoilt_65 hX.hx ?_
        refine V_aload dX11_condemnSpoilt_68 rfl ?_
        refine V_getRs fk_X11_47 dX11_condemnSpoilt_69 hX.hx hX.lo.1 ?_
        refine V_aload dX11_condemnSpoilt_72 rfl ?_
        refine V_getIs fk_X11_175 dX11_condemnSpoilt_73 (by assumption) (up2n (by decide) |>.trans (up2n (by decide) |>.trans hmi)) ?_
        refine V_invV (As := [_]) mv_X4_numbered lk_X11_140 dX11_condemnSpoilt_76 (c := 4) (by decide) rfl rfl hX.lo.2.1 rfl rfl (Nat.le_of_ble_eq_true rfl) ⟨⟨by decide, by decide⟩, by decide, by decide⟩ (sem_X4_numbered hX.lo.2.1 hX.lo.2.2.1 hX.lo.2.2.2 (up2n (by decide) |>.trans (up2n (by decide) |>.trans hn)) hn2 (fun ho => ?_) (fun i hi hv => ?_))
        · exact absurd rfl (ho _ hml) -- done
        · have hv2 : i = mi a := ((nI_eq (by omega) (by omega)).mp hv).symm
          subst hv2
          rw [hbm]
          refine V_as3 dX11_condemnSpoilt_79 (by decide) (noL_i _) ?_
          refine V_aload dX11_condemnSpoilt_80 rfl ?_
          refine V_ifnull dX11_condemnSpoilt_81 (fun hn81 => ?_) (fun a81 hs81 => ?_)
          · exact absurd hn81 (by simp)
          · cases hs81
            refine V_aload dX11_condemnSpoilt_84 rfl ?_
            refine V_dupr dX11_condemnSpoilt_85 ?_
            refine V_getIs fk_X11_265 dX11_condemnSpoilt_86 hbt (up2n (by decide) |>.trans (up2n (by decide))) ?_
            refine V_iload dX11_condemnSpoilt_89 rfl ?_
            refine V_iadd dX11_condemnSpoilt_90 ?_
            refine V_putI fk_X11_265 (Or.inl rfl) rfl rfl dX11_condemnSpoilt_91 hbt ?_
            refine V_aload dX11_condemnSpoilt_94 rfl ?_
            refine V_getR fk_X11_262 dX11_condemnSpoilt_95 (by assumption) ?_
            refine V_as1 dX11_condemnSpoilt_98 (by decide) (noL_r _) ?_
            refine V_goto dX11_condemnSpoilt_99 ?_
            exact V.sub (lsS (lsS (lsN (lsN ls0)))) (ih _ _ (up2n (by decide) |>.trans (up2n (by decide) |>.trans (up2n (by decide) |>.trans hw))) (up2n (by decide) |>.trans (up2n (by decide) |>.trans (up2n (by decide) |>.trans hn))) (fun b hb => by obtain ⟨g1, g2, g3⟩ := hok b (List.mem_cons_of_mem _ hb); exact ⟨g1, ⟨(up2n (by decide) |>.trans (up2n (by decide) |>.trans (up2n (by decide) |>.trans g2.1))), g2.2⟩, g3⟩) hch (by rw [List.foldl_cons] at q; unfold stCo loCo at q; rw [bI_f (fun h => h hc36)] at q; exact q))
      · rw [bI_0] at hc36
        refine V_const dX11_condemnSpoilt_39 ?_
        refine V_goto dX11_condemnSpoilt_40 ?_
        refine V_invV (As := [_, _, _]) mv_X1_loss lk_X11_300 dX11_condemnSpoilt_44 (c := 1) (by decide) rfl rfl (hX.kd.2.2 _ hk4).2.1 rfl rfl (Nat.le_of_ble_eq_true rfl) ⟨⟨by decide, by decide⟩, by decide, by decide⟩ (sem_X1_loss (hX.kd.2.2 _ hk4).2.1 (hX.kd.2.2 _ hk4).2.2.2.1 (hX.kd.2.2 _ hk4).2.2.2.2 ?_)
        refine V_is2 dX11_condemnSpoilt_47 (by decide) (noL_r _) ?_
        refine V_aload dX11_condemnSpoilt_48 rfl ?_
        refine V_dupr dX11_condemnSpoilt_49 ?_
        refine V_getI fk_X11_147 dX11_condemnSpoilt_50 (by assumption) ?_
        refine V_iload dX11_condemnSpoilt_53 rfl ?_
        refine V_isub dX11_condemnSpoilt_54 ?_
        refine V_putI fk_X11_147 (Or.inl rfl) rfl rfl dX11_condemnSpoilt_55 (by assumption) ?_
        refine V_aload dX11_condemnSpoilt_58 rfl ?_
        refine V_dupr dX11_condemnSpoilt_59 ?_
        refine V_getIs fk_X11_283 dX11_condemnSpoilt_60 hX.hx (up2n (by decide)) ?_
        refine V_iload dX11_condemnSpoilt_63 rfl ?_
        refine V_iadd dX11_condemnSpoilt_64 ?_
        refine V_putI fk_X11_283 (Or.inl rfl) rfl rfl dX11_condemnSpoilt_65 hX.hx ?_
        refine V_aload dX11_condemnSpoilt_68 rfl ?_
        refine V_getRs fk_X11_47 dX11_condemnSpoilt_69 hX.hx hX.lo.1 ?_
        refine V_aload dX11_condemnSpoilt_72 rfl ?_
        refine V_getIs fk_X11_175 dX11_condemnSpoilt_73 (by assumption) (up2n (by decide) |>.trans (up2n (by decide) |>.trans hmi)) ?_
        refine V_invV (As := [_]) mv_X4_numbered lk_X11_140 dX11_condemnSpoilt_76 (c := 4) (by decide) rfl rfl hX.lo.2.1 rfl rfl (Nat.le_of_ble_eq_true rfl) ⟨⟨by decide, by decide⟩, by decide, by decide⟩ (sem_X4_numbered hX.lo.2.1 hX.lo.2.2.1 hX.lo.2.2.2 (up2n (by decide) |>.trans (up2n (by decide) |>.trans hn)) hn2 (fun ho => ?_) (fun i hi hv => ?_))
        · exact absurd rfl (ho _ hml) -- done
        · have hv2 : i = mi a := ((nI_eq (by omega) (by omega)).mp hv).symm
          subst hv2
          rw [hbm]
          refine V_as3 dX11_condemnSpoilt_79 (by decide) (noL_i _) ?_
          refine V_aload dX11_condemnSpoilt_80 rfl ?_
          refine V_ifnull dX11_condemnSpoilt_81 (fun hn81 => ?_) (fun a81 hs81 => ?_)
          · exact absurd hn81 (by simp)
          · cases hs81
            refine V_aload dX11_condemnSpoilt_84 rfl ?_
            refine V_dupr dX11_condemnSpoilt_85 ?_
            refine V_getIs fk_X11_265 dX11_condemnSpoilt_86 hbt (up2n (by decide) |>.trans (up2n (by decide))) ?_
            refine V_iload dX11_condemnSpoilt_89 rfl ?_
            refine V_iadd dX11_condemnSpoilt_90 ?_
            refine V_putI fk_X11_265 (Or.inl rfl) rfl rfl dX11_condemnSpoilt_91 hbt ?_
            refine V_aload dX11_condemnSpoilt_94 rfl ?_
            refine V_getR fk_X11_262 dX11_condemnSpoilt_95 (by assumption) ?_
            refine V_as1 dX11_condemnSpoilt_98 (by decide) (noL_r _) ?_
            refine V_goto dX11_condemnSpoilt_99 ?_
            exact V.sub (lsS (lsS (lsN (lsN ls0)))) (ih _ _ (up2n (by decide) |>.trans (up2n (by decide) |>.trans (up2n (by decide) |>.trans hw))) (up2n (by decide) |>.trans (up2n (by decide) |>.trans (up2n (by decide) |>.trans hn))) (fun b hb => by obtain ⟨g1, g2, g3⟩ := hok b (List.mem_cons_of_mem _ hb); exact ⟨g1, ⟨(up2n (by decide) |>.trans (up2n (by decide) |>.trans (up2n (by decide) |>.trans g2.1))), g2.2⟩, g3⟩) hch (by rw [List.foldl_cons] at q; unfold stCo loCo at q; rw [bI_t hc36] at q; exact q))
theorem sem_X11_condemnSpoilt {l : Launch} {D : va_G} {A : Nat → Prop} {z : Nat} {t : TT} {I : MI} {R : MR} {J : MI} {B : MR} {x n : Nat} {si mi bm : Nat → Nat} {ch : List Nat} {Φ : PP} (hX : XSt x t I R B) (hn : I 401 (x + 127) = nI n) (hn2 : n ≤ 300) (hok : LotsOk x n t I R B si mi bm ch) (hch : Chain t R (R 402 (x + 127)) ch) (q : Φ none z t (ch.foldl (stCo x si bm (I 1111 x) J) I) R J B) : Sem l D A 2 0 0 mX11_condemnSpoilt [va_rf (some x)] z t I R J B Φ := by
  refine Sem.run [some (va_rf (some x)), none, none, none] (by decide) rfl (ent_r (ent_none (ent_none (ent_none ent_nil)))) ?_
  refine V_aload dX11_condemnSpoilt_0 rfl ?_
  refine V_getRs fk_X11_47 dX11_condemnSpoilt_1 hX.hx hX.lo.1 ?_
  refine V_getR fk_X11_258 dX11_condemnSpoilt_4 hX.lo.2.1 ?_
  refine V_as1 dX11_condemnSpoilt_7 (by decide) (noL_r _) ?_
  exact lp_X11_condemn I hX hn2 _ _ _ rfl hn hok hch q
end
section
-- THE CLASS'S WEEK: eating, the stocks, the week
section TL
variable {l : Launch} {D : va_G} {A : Nat → Prop} {Rm : Room} {μ : Meth} {K : Kx} {k n z : Nat} {t : TT} {I : MI} {R : MR} {J : MI} {B : MR} {pc : Nat} {lv : List (Option Value)} {st : List Value}
/-- all cells that are known lie below the heap's end -/
theorem V.lt (kk : (∀ a, (t a).1 ≠ 0 → a < z) → V l D A Rm μ K k n z t I R J B pc lv st) : V l D A Rm μ K k n z t I R J B pc lv st := by
  intro p e s m args below meth c C X H locs ls hR hS hl
  exact kk (fun a ha => (hR.2.2 a ha).1.2) p e s m args below meth c C X H locs ls hR hS hl
end TL
theorem Chain.up {t : TT} {R : MR} {z : Nat} {τ : Nat × Nat} (hz : ∀ a, (t a).1 ≠ 0 → a < z) : ∀ (ch : List Nat) (r : Option Nat), Chain t R r ch → Chain (va_up t z τ) R r ch
  | [], _, h => h
  | a :: as, r, h => by
    obtain ⟨h1, h2, h3⟩ := h
    have := hz a (by omega)
    exact ⟨h1, by rw [va_up_ne _ _ (by omega)]; exact h2, Chain.up hz as _ h3⟩
def stE1 (x : Nat) (i : Nat) (I : MI) : MI := up2 (up2 I 900 (xSo x i + 1) (I 900 (xSo x i + 1) - jmin (I 900 (xSo x i + 1)) (7 * I 501 (xPl x (i / 4))))) 901 (xSo x i + 1) (7 * I 501 (xPl x (i / 4)) - jmin (I 900 (xSo x i + 1)) (7 * I 501 (xPl x (i / 4))))
def nE2 (x : Nat) (si : Nat → Nat) (I : MI) (a : Nat) : Int32 := opN (I 901 (xSo x (si a) + 1)) (I 306 a) (I 102 (xKd x (si a % 4)))
def stE2 (x : Nat) (si : Nat → Nat) (I : MI) (a : Nat) : MI := if I 307 a = -1 then
  up2 (up2 (up2 (up2 (up2 I 900 (xSo x (si a) + 1) (opL (I 900 (xSo x (si a) + 1)) (I 901 (xSo x (si a) + 1)) (I 306 a) (I 102 (xKd x (si a % 4))))) 901 (xSo x (si a) + 1) (opW (I 901 (xSo x (si a) + 1)) (I 306 a) (I 102 (xKd x (si a % 4))))) 306 a (I 306 a - nE2 x si I a)) 705 (xSo x (si a)) (I 705 (xSo x (si a)) + nE2 x si I a)) 1114 x (I 1114 x + nE2 x si I a) else I
def stE3 (x : Nat) (i : Nat) (I : MI) : MI := up2 I 706 (xSo x i) (I 706 (xSo x i) + I 901 (xSo x i + 1))
def eatX (x : Nat) (si : Nat → Nat) (ch : List Nat) (I : MI) : MI := itr (stE3 x) 0 32 (ch.foldl (stE2 x si) (itr (stE1 x) 0 32 I))
theorem lp_X11_eat1 {l : Launch} {D : va_G} {A : Nat → Prop} {z : Nat} {t : TT} {R : MR} {J : MI} {B : MR} {x : Nat} {I0 : MI} {Φ : PP} (hX : XSt x t I0 R B) : ∀ (n i : Nat) (I : MI), i + n = 32 → V l D A (rmm 2 0 0) mX11_eat (KS D A 0 0 Φ) 0 0 z t (itr (stE1 x) i n I) R J B 42 [some (va_rf (some x)), none, none, none, none] [] → V l D A (rmm 2 0 0) mX11_eat (KS D A 0 0 Φ) 0 0 z t I R J B 10 [some (va_rf (some x)), some (va_rf (some (x + 3))), some (.int (nI 32)), some (.int (nI i)), none] [] := by
  intro n
  induction n with
  | zero =>
    intro i I hin kk
    have hi : i = 32 := by omega
    subst hi
    refine V_iload dX11_eat_10 rfl ?_
    refine V_iload dX11_eat_11 rfl ?_
    refine V_icmp_ge dX11_eat_12 (fun hc12 => ?_) (fun hc12 => ?_)
    · exact V.sub (lsS (lsN (lsN (lsN (lsN ls0))))) kk
    · exact absurd (Int32.le_refl _) hc12
  | succ n ih =>
    intro i I hin kk
    refine V_iload dX11_eat_10 rfl ?_
    refine V_iload dX11_eat_11 rfl ?_
    refine V_icmp_ge dX11_eat_12 (fun hc12 => ?_) (fun hc12 => ?_)
    · exact absurd hc12 (nI_ge (by omega) (by decide))
    · refine V_aload dX11_eat_15 rfl ?_
      refine V_iload dX11_eat_16 rfl ?_
      refine V_aalds (j := 2) dX11_eat_17 rfl (by decide) hX.so.2.1 rfl (by omega) (by decide) (hX.so.2.2 i (by omega)).1 ?_
      refine V_as4 dX11_eat_18 (by decide) (noL_i _) ?_
      refine V_aload dX11_eat_20 rfl ?_
      refine V_getRs fk_X11_198 dX11_eat_22 (hX.so.2.2 i (by omega)).2.1 (hX.so.2.2 i (by omega)).2.2.2.2.2.1 ?_
      refine V_aload dX11_eat_25 rfl ?_
      refine V_getRs fk_X11_154 dX11_eat_27 (hX.so.2.2 i (by omega)).2.1 (hX.so.2.2 i (by omega)).2.2.2.1 ?_
      refine V_invV (As := []) mv_X5_wants lk_X11_304 dX11_eat_30 (c := 5) (by decide) rfl rfl (hX.pl.2.2 (i / 4) (by omega)).2.1 rfl rfl (Nat.le_of_ble_eq_true rfl) ⟨⟨by decide, by decide⟩, by decide, by decide⟩ (sem_X5_wants (hX.pl.2.2 (i / 4) (by omega)).2.1 ?_)
      refine V_invV (As := [_]) mv_X9_sitDown lk_X11_307 dX11_eat_33 (c := 9) (by decide) rfl rfl (hX.so.2.2 i (by omega)).2.2.2.2.2.2.2.1 rfl rfl (Nat.le_of_ble_eq_true rfl) ⟨⟨by decide, by decide⟩, by decide, by decide⟩ (sem_X9_sitDown (hX.so.2.2 i (by omega)).2.2.2.2.2.2.2.1 ?_)
      refine V_ii3 dX11_eat_36 (by decide) (noL_i _) ?_
      refine V_goto dX11_eat_39 ?_
      exact V.sub (lsS (lsS (lsS (lsE (by rw [nI_1]) (lsN ls0))))) (ih (i + 1) _ (by omega) kk)
theorem lp_X11_eat3 {l : Launch} {D : va_G} {A : Nat → Prop} {z : Nat} {t : TT} {R : MR} {J : MI} {B : MR} {x : Nat} {I0 : MI} {Φ : PP} (hX : XSt x t I0 R B) : ∀ (n i : Nat) (I : MI), i + n = 32 → V l D A (rmm 2 0 0) mX11_eat (KS D A 0 0 Φ) 0 0 z t (itr (stE3 x) i n I) R J B 171 [some (va_rf (some x)), none, none, none, none] [] → V l D A (rmm 2 0 0) mX11_eat (KS D A 0 0 Φ) 0 0 z t I R J B 137 [some (va_rf (some x)), some (va_rf (some (x + 3))), some (.int (nI 32)), some (.int (nI i)), none] [] := by
  intro n
  induction n with
  | zero =>
    intro i I hin kk
    have hi : i = 32 := by omega
    subst hi
    refine V_iload dX11_eat_137 rfl ?_
    refine V_iload dX11_eat_138 rfl ?_
    refine V_icmp_ge dX11_eat_139 (fun hc139 => ?_) (fun hc139 => ?_)
    · exact V.sub (lsS (lsN (lsN (lsN (lsN ls0))))) kk
    · exact absurd (Int32.le_refl _) hc139
  | succ n ih =>
    intro i I hin kk
    refine V_iload dX11_eat_137 rfl ?_
    refine V_iload dX11_eat_138 rfl ?_
    refine V_icmp_ge dX11_eat_139 (fun hc139 => ?_) (fun hc139 => ?_)
    · exact absurd hc139 (nI_ge (by omega) (by decide))
    · refine V_aload dX11_eat_142 rfl ?_
      refine V_iload dX11_eat_143 rfl ?_
      refine V_aalds (j := 2) dX11_eat_144 rfl (by decide) hX.so.2.1 rfl (by omega) (by decide) (hX.so.2.2 i (by omega)).1 ?_
      refine V_as4 dX11_eat_145 (by decide) (noL_i _) ?_
      refine V_aload dX11_eat_147 rfl ?_
      refine V_dupr dX11_eat_149 ?_
      refine V_getI fk_X11_207 dX11_eat_150 (hX.so.2.2 i (by omega)).2.1 ?_
      refine V_aload dX11_eat_153 rfl ?_
      refine V_getRs fk_X11_198 dX11_eat_155 (hX.so.2.2 i (by omega)).2.1 (hX.so.2.2 i (by omega)).2.2.2.2.2.1 ?_
      refine V_getI fk_X11_316 dX11_eat_158 (hX.so.2.2 i (by omega)).2.2.2.2.2.2.2.1 ?_
      refine V_iadd dX11_eat_161 ?_
      refine V_putI fk_X11_207 (Or.inl rfl) rfl rfl dX11_eat_162 (hX.so.2.2 i (by omega)).2.1 ?_
      refine V_ii3 dX11_eat_165 (by decide) (noL_i _) ?_
      refine V_goto dX11_eat_168 ?_
      exact V.sub (lsS (lsS (lsS (lsE (by rw [nI_1]) (lsN ls0))))) (ih (i + 1) _ (by omega) kk)
def SiOk (x : Nat) (R : MR) (si : Nat → Nat) (ch : List Nat) : Prop := ∀ a ∈ ch, R 300 a = some (xSo x (si a)) ∧ si a < 32
theorem lp_X11_eat2 {l : Launch} {D : va_G} {A : Nat → Prop} {z : Nat} {t : TT} {R : MR} {J : MI} {B : MR} {x : Nat} {I0 : MI} {si : Nat → Nat} {Φ : PP} (hX : XSt x t I0 R B) : ∀ (rest : List Nat) (r : Option Nat) (I : MI) (hok : SiOk x R si rest), Chain t R r rest → V l D A (rmm 2 0 0) mX11_eat (KS D A 0 0 Φ) 0 0 z t (rest.foldl (stE2 x si) I) R J B 127 [some (va_rf (some x)), none, none, none, none] [] → V l D A (rmm 2 0 0) mX11_eat (KS D A 0 0 Φ) 0 0 z t I R J B 50 [some (va_rf (some x)), some (va_rf r), none, none, none] [] := by
  intro rest
  induction rest with
  | nil =>
    intro r I hok hch q
    have hr : r = none := hch
    subst hr
    refine V_aload dX11_eat_50 rfl ?_
    refine V_ifnull dX11_eat_51 (fun hn51 => ?_) (fun a51 hs51 => ?_)
    · exact V.sub (lsS (lsN (lsN (lsN (lsN ls0))))) q
    · exact absurd hs51 (by simp)
  | cons a as ih =>
    intro r I hok hch q
    obtain ⟨rfl, ha, hch⟩ := hch
    obtain ⟨hsi, hsl⟩ := hok a List.mem_cons_self
    have hk4 : si a % 4 < 4 := Nat.mod_lt _ (by decide)
    have hok : SiOk x R si as := fun b hb => hok b (List.mem_cons_of_mem _ hb)
    refine V_aload dX11_eat_50 rfl ?_
    refine V_ifnull dX11_eat_51 (fun hn51 => ?_) (fun a51 hs51 => ?_)
    · exact absurd hn51 (by simp)
    · cases hs51
      refine V_aload dX11_eat_54 rfl ?_
      refine V_invV (As := []) mv_X3_isThere lk_X11_144 dX11_eat_55 (c := 3) (by decide) rfl rfl (by assumption) rfl rfl (Nat.le_of_ble_eq_true rfl) ⟨⟨by decide, by decide⟩, by decide, by decide⟩ (sem_X3_isThere ha ?_)
      refine V_if_eq dX11_eat_58 (fun hc58 => ?_) (fun hc58 => ?_)
      · rw [bI_0] at hc58
        refine V_aload dX11_eat_119 rfl ?_
        refine V_getR fk_X11_262 dX11_eat_120 (by assumption) ?_
        refine V_as1 dX11_eat_123 (by decide) (noL_r _) ?_
        refine V_goto dX11_eat_124 ?_
        exact V.sub (lsS (lsS (lsN (lsN (lsN ls0))))) (ih _ _ hok hch (by rw [List.foldl_cons, show stE2 x si I a = I from if_neg hc58] at q; exact q))
      · rw [bI_n0] at hc58
        refine V_aload dX11_eat_61 rfl ?_
        refine V_getRs fk_X11_150 dX11_eat_62 (by assumption) hsi ?_
        refine V_getRs fk_X11_198 dX11_eat_65 (hX.so.2.2 _ hsl).2.1 (hX.so.2.2 _ hsl).2.2.2.2.2.1 ?_
        refine V_aload dX11_eat_68 rfl ?_
        refine V_getI fk_X11_147 dX11_eat_69 (by assumption) ?_
        refine V_aload dX11_eat_72 rfl ?_
        refine V_getRs fk_X11_150 dX11_eat_73 (by assumption) hsi ?_
        refine V_getRs fk_X11_161 dX11_eat_76 (hX.so.2.2 _ hsl).2.1 (hX.so.2.2 _ hsl).2.2.2.2.1 ?_
        refine V_getI fk_X11_101 dX11_eat_79 (hX.kd.2.2 _ hk4).2.1 ?_
        refine V_invV (As := [_, _]) mv_X9_openFrom lk_X11_310 dX11_eat_82 (c := 9) (by decide) rfl rfl (hX.so.2.2 _ hsl).2.2.2.2.2.2.2.1 rfl rfl (Nat.le_of_ble_eq_true rfl) ⟨⟨by decide, by decide⟩, by decide, by decide⟩ (sem_X9_openFrom (hX.so.2.2 _ hsl).2.2.2.2.2.2.2.1 ?_)
        refine V_is2 dX11_eat_85 (by decide) (noL_r _) ?_
        refine V_aload dX11_eat_86 rfl ?_
        refine V_dupr dX11_eat_87 ?_
        refine V_getIs fk_X11_147 dX11_eat_88 (by assumption) ((up2n (by decide)).trans (up2n (by decide))) ?_
        refine V_iload dX11_eat_91 rfl ?_
        refine V_isub dX11_eat_92 ?_
        refine V_putI fk_X11_147 (Or.inl rfl) rfl rfl dX11_eat_93 (by assumption) ?_
        refine V_aload dX11_eat_96 rfl ?_
        refine V_getRs fk_X11_150 dX11_eat_97 (by assumption) hsi ?_
        refine V_dupr dX11_eat_100 ?_
        refine V_getIs fk_X11_313 dX11_eat_101 (hX.so.2.2 _ hsl).2.1 ((up2n (by decide)).trans ((up2n (by decide)).trans (up2n (by decide)))) ?_
        refine V_iload dX11_eat_104 rfl ?_
        refine V_iadd dX11_eat_105 ?_
        refine V_putI fk_X11_313 (Or.inl rfl) rfl rfl dX11_eat_106 (hX.so.2.2 _ hsl).2.1 ?_
        refine V_aload dX11_eat_109 rfl ?_
        refine V_dupr dX11_eat_110 ?_
        refine V_getIs fk_X11_286 dX11_eat_111 hX.hx ((up2n (by decide)).trans ((up2n (by decide)).trans ((up2n (by decide)).trans (up2n (by decide))))) ?_
        refine V_iload dX11_eat_114 rfl ?_
        refine V_iadd dX11_eat_115 ?_
        refine V_putI fk_X11_286 (Or.inl rfl) rfl rfl dX11_eat_116 hX.hx ?_
        refine V_aload dX11_eat_119 rfl ?_
        refine V_getR fk_X11_262 dX11_eat_120 (by assumption) ?_
        refine V_as1 dX11_eat_123 (by decide) (noL_r _) ?_
        refine V_goto dX11_eat_124 ?_
        exact V.sub (lsS (lsS (lsN (lsN (lsN ls0))))) (ih _ _ hok hch (by rw [List.foldl_cons] at q; unfold stE2 nE2 at q; rw [if_pos hc58] at q; exact q))
theorem sem_X11_eat {l : Launch} {D : va_G} {A : Nat → Prop} {z : Nat} {t : TT} {I : MI} {R : MR} {J : MI} {B : MR} {x : Nat} {si : Nat → Nat} {ch : List Nat} {Φ : PP} (hX : XSt x t I R B) (hok : SiOk x R si ch) (hch : Chain t R (R 402 (x + 127)) ch) (q : Φ none z t (eatX x si ch I) R J B) : Sem l D A 2 0 0 mX11_eat [va_rf (some x)] z t I R J B Φ := by
  refine Sem.run [some (va_rf (some x)), none, none, none, none] (by decide) rfl (ent_r (ent_none (ent_none (ent_none (ent_none ent_nil))))) ?_
  refine V_aload dX11_eat_0 rfl ?_
  refine V_getRs fk_X11_23 dX11_eat_1 hX.hx hX.so.1 ?_
  refine V_as1 dX11_eat_4 (by decide) (noL_r _) ?_
  refine V_aload dX11_eat_5 rfl ?_
  refine V_alen dX11_eat_6 (Or.inr ⟨2, rfl, by decide⟩) hX.so.2.1 rfl ?_
  refine V_is2 dX11_eat_7 (by decide) (noL_r _) ?_
  refine V_const dX11_eat_8 ?_
  refine V_is3 dX11_eat_9 (by decide) (noL_i _) ?_
  refine V.sub (lsS (lsS (lsS (lsS (lsN ls0))))) (lp_X11_eat1 hX 32 0 I rfl ?_)
  refine V_aload dX11_eat_42 rfl ?_
  refine V_getRs fk_X11_47 dX11_eat_43 hX.hx hX.lo.1 ?_
  refine V_getR fk_X11_258 dX11_eat_46 hX.lo.2.1 ?_
  refine V_as1 dX11_eat_49 (by decide) (noL_r _) ?_
  refine V.sub (lsS (lsS (lsN (lsN (lsN ls0))))) (lp_X11_eat2 hX ch _ _ hok hch ?_)
  refine V_aload dX11_eat_127 rfl ?_
  refine V_getRs fk_X11_23 dX11_eat_128 hX.hx hX.so.1 ?_
  refine V_as1 dX11_eat_131 (by decide) (noL_r _) ?_
  refine V_aload dX11_eat_132 rfl ?_
  refine V_alen dX11_eat_133 (Or.inr ⟨2, rfl, by decide⟩) hX.so.2.1 rfl ?_
  refine V_is2 dX11_eat_134 (by decide) (noL_r _) ?_
  refine V_const dX11_eat_135 ?_
  refine V_is3 dX11_eat_136 (by decide) (noL_i _) ?_
  refine V.sub (lsS (lsS (lsS (lsS (lsN ls0))))) (lp_X11_eat3 hX 32 0 _ rfl ?_)
  exact V_vret dX11_eat_171 rfl (by decide) (by decide) q
def rowS (si : Nat → Nat) (I : MI) (f : Nat → Int32) (a : Nat) : Nat → Int32 := if I 307 a = -1 then va_up f (si a) (f (si a) + I 306 a) else f
theorem lp_X11_writeStocks {l : Launch} {D : va_G} {A : Nat → Prop} {z : Nat} {t : TT} {I : MI} {R : MR} {B : MR} {x y : Nat} {si : Nat → Nat} {Φ : PP} (hX : XSt x t I R B) (hy : t y = (20, 32)) (J : MI) : ∀ (rest : List Nat) (r : Option Nat) (f : Nat → Int32) (hok : SiOk x R si rest), Chain t R r rest → V l D A (rmm 1 1 32) mX11_writeStocks (KS D A 1 32 Φ) (0 + 1) (0 + 32) z t I R (va_up J y (rest.foldl (rowS si I) f)) B 48 [some (va_rf (some x)), some (va_rf (some y)), none] [] → V l D A (rmm 1 1 32) mX11_writeStocks (KS D A 1 32 Φ) (0 + 1) (0 + 32) z t I R (va_up J y f) B 13 [some (va_rf (some x)), some (va_rf (some y)), some (va_rf r)] [] := by
  intro rest
  induction rest with
  | nil =>
    intro r f hok hch q
    have hr : r = none := hch
    subst hr
    refine V_aload dX11_writeStocks_13 rfl ?_
    refine V_ifnull dX11_writeStocks_14 (fun hn14 => ?_) (fun a14 hs14 => ?_)
    · exact V.sub (lsS (lsS (lsN ls0))) q
    · exact absurd hs14 (by simp)
  | cons a as ih =>
    intro r f hok hch q
    obtain ⟨rfl, ha, hch⟩ := hch
    obtain ⟨hsi, hsl⟩ := hok a List.mem_cons_self
    have hok : SiOk x R si as := fun b hb => hok b (List.mem_cons_of_mem _ hb)
    refine V_aload dX11_writeStocks_13 rfl ?_
    refine V_ifnull dX11_writeStocks_14 (fun hn14 => ?_) (fun a14 hs14 => ?_)
    · exact absurd hn14 (by simp)
    · cases hs14
      refine V_aload dX11_writeStocks_17 rfl ?_
      refine V_invV (As := []) mv_X3_isThere lk_X11_144 dX11_writeStocks_18 (c := 3) (by decide) rfl rfl (by assumption) rfl rfl (Nat.le_of_ble_eq_true rfl) ⟨⟨by decide, by decide⟩, by decide, by decide⟩ (sem_X3_isThere ha ?_)
      refine V_if_eq dX11_writeStocks_21 (fun hc21 => ?_) (fun hc21 => ?_)
      · rw [bI_0] at hc21
        refine V_aload dX11_writeStocks_40 rfl ?_
        refine V_getR fk_X11_262 dX11_writeStocks_41 (by assumption) ?_
        refine V_as2 dX11_writeStocks_44 (by decide) (noL_r _) ?_
        refine V_goto dX11_writeStocks_45 ?_
        exact V.sub (lsS (lsS (lsS ls0))) (ih _ _ hok hch (by rw [List.foldl_cons, show rowS si I f a = f from if_neg hc21] at q; exact q))
      · rw [bI_n0] at hc21
        refine V_aload dX11_writeStocks_24 rfl ?_
        refine V_aload dX11_writeStocks_25 rfl ?_
        refine V_getRs fk_X11_150 dX11_writeStocks_26 (by assumption) hsi ?_
        refine V_getIs fk_X11_292 dX11_writeStocks_29 (hX.so.2.2 _ hsl).2.1 (hX.so.2.2 _ hsl).2.2.1 ?_
        refine V_dup2ir dX11_writeStocks_32 ?_
        refine V_iald dX11_writeStocks_33 hy rfl hsl (by decide) ?_
        refine V_aload dX11_writeStocks_34 rfl ?_
        refine V_getI fk_X11_147 dX11_writeStocks_35 (by assumption) ?_
        refine V_iadd dX11_writeStocks_38 ?_
        refine V_iast dX11_writeStocks_39 hy rfl hsl (by decide) ?_
        refine V_aload dX11_writeStocks_40 rfl ?_
        refine V_getR fk_X11_262 dX11_writeStocks_41 (by assumption) ?_
        refine V_as2 dX11_writeStocks_44 (by decide) (noL_r _) ?_
        refine V_goto dX11_writeStocks_45 ?_
        unfold up2
        rw [bx_uu, va_up_self]
        exact V.sub (lsS (lsS (lsS ls0))) (ih _ _ hok hch (by rw [List.foldl_cons, show rowS si I f a = va_up f (si a) (f (si a) + I 306 a) from if_pos hc21] at q; exact q))
theorem XSt.up {x z : Nat} {t : TT} {I : MI} {R : MR} {B : MR} {τ : Nat × Nat} (h : XSt x t I R B) (hz : x + 141 ≤ z) : XSt x (va_up t z τ) I R B := by
  have e : ∀ a, a < x + 141 → va_up t z τ a = t a := fun a ha => va_up_ne _ _ (by omega)
  unfold XSt at h ⊢
  simp only [xPl, xSo, xKd] at h ⊢
  obtain ⟨h1, ⟨h2, h3, h4⟩, ⟨h5, h6, h7⟩, ⟨h8, h9, h10⟩, ⟨h11, h12⟩, ⟨h13, h14, h15⟩, ⟨h16, h17, h18, h19⟩, ⟨h20, h21, h22, h23⟩, ⟨h24, h25, h26⟩, ⟨h27, h28⟩, h29, h30, h31, h32, h33, h34⟩ := h
  refine ⟨by rw [e _ (by omega)]; exact h1, ⟨h2, by rw [e _ (by omega)]; exact h3, fun p hp => ?_⟩, ⟨h5, by rw [e _ (by omega)]; exact h6, fun k hk => ?_⟩, ⟨h8, by rw [e _ (by omega)]; exact h9, fun i hi => ?_⟩, ⟨h11, by rw [e _ (by omega)]; exact h12⟩, ⟨h13, by rw [e _ (by omega)]; exact h14, fun p hp => ?_⟩, ⟨h16, by rw [e _ (by omega)]; exact h17, h18, by rw [e _ (by omega)]; exact h19⟩, ⟨h20, by rw [e _ (by omega)]; exact h21, h22, by rw [e _ (by omega)]; exact h23⟩, ⟨h24, by rw [e _ (by omega)]; exact h25, h26⟩, ⟨h27, by rw [e _ (by omega)]; exact h28⟩, h29, by rw [e _ (by omega)]; exact h30, h31, h32, by rw [e _ (by omega)]; exact h33, by rw [e _ (by omega)]; exact h34⟩
  · rw [e _ (by omega)]; exact h4 p hp
  · rw [e _ (by omega), e _ (by omega)]; exact h7 k hk
  · rw [e _ (by omega), e _ (by omega), e _ (by omega)]; exact h10 i hi
  · rw [e _ (by omega)]; exact h15 p hp
theorem sem_X11_writeStocks {l : Launch} {D : va_G} {A : Nat → Prop} {z : Nat} {t : TT} {I : MI} {R : MR} {J : MI} {B : MR} {x w : Nat} {si : Nat → Nat} {ch : List Nat} {Φ : PP} (hX : XSt x t I R B) (hz : x + 141 ≤ z) (hA : ∀ q, z ≤ q → A q) (hw : I 1111 x = nI w) (hw2 : w ≤ 200) (hok : SiOk x R si ch) (hch : Chain t R (R 402 (x + 127)) ch) (q : Φ none (z + 1) (va_up t z (20, 32)) I R (va_up J z (ch.foldl (rowS si I) (fun _ => 0))) (va_up B (x + 4) (va_up (B (x + 4)) w (some z)))) : Sem l D A 1 1 32 mX11_writeStocks [va_rf (some x)] z t I R J B Φ := by
  refine Sem.run [some (va_rf (some x)), none, none] (by decide) rfl (ent_r (ent_none (ent_none ent_nil))) ?_
  refine V.lt (fun hlt => ?_)
  refine V_const dX11_writeStocks_0 ?_
  refine V_newa w_arr (N := 32) rfl (by decide) (hA _ (Nat.le_refl _)) (by decide) (by decide) dX11_writeStocks_2 ?_
  have hX2 : XSt x (va_up t z (20, 32)) I R B := hX.up hz
  refine V_as1 dX11_writeStocks_4 (by decide) (noL_r _) ?_
  refine V_aload dX11_writeStocks_5 rfl ?_
  refine V_getRs fk_X11_47 dX11_writeStocks_6 hX2.hx hX.lo.1 ?_
  refine V_getR fk_X11_258 dX11_writeStocks_9 hX2.lo.2.1 ?_
  refine V_as2 dX11_writeStocks_12 (by decide) (noL_r _) ?_
  refine V.sub (lsS (lsS (lsS ls0))) (lp_X11_writeStocks hX2 (va_up_self _ _ _) J ch _ _ hok (Chain.up hlt ch _ hch) ?_)
  refine V_aload dX11_writeStocks_48 rfl ?_
  refine V_getRs fk_X11_29 dX11_writeStocks_49 hX2.hx hX.bg.1 ?_
  refine V_aload dX11_writeStocks_52 rfl ?_
  refine V_getIs fk_X11_121 dX11_writeStocks_53 hX2.hx hw ?_
  refine V_aload dX11_writeStocks_56 rfl ?_
  refine V_aasta dX11_writeStocks_57 hX2.bg.2 (va_up_self _ _ _) rfl (by omega) (by decide) ?_
  exact V_vret dX11_writeStocks_58 rfl (by decide) (by decide) q
end
section
-- THE CLASS'S WEEK; entering lots; buying and sending
theorem fold_keep {st : MI → Nat → MI} {f : Nat} (h : ∀ I a, st I a f = I f) : ∀ (ch : List Nat) (I : MI), (ch.foldl st I) f = I f
  | [], _ => rfl
  | a :: as, I => by rw [List.foldl_cons, fold_keep h as, h]
theorem itr_keep {st : Nat → MI → MI} {f : Nat} (h : ∀ i I, st i I f = I f) : ∀ (n i : Nat) (I : MI), (itr st i n I) f = I f
  | 0, _, _ => rfl
  | n + 1, i, I => by rw [itr, itr_keep h n, h]
theorem stBr_keep {w : Int32} {f : Nat} (hf : f ≠ 307) (I : MI) (a : Nat) : stBr w I a f = I f := by
  unfold stBr
  split
  · rw [up2_ne _ _ _ hf]
  · rfl
theorem stCo_keep {x : Nat} {si bm : Nat → Nat} {w : Int32} {J : MI} {f : Nat} (h1 : f ≠ 306) (h2 : f ≠ 1113) (h3 : f ≠ 311) (I : MI) (a : Nat) : stCo x si bm w J I a f = I f := by
  unfold stCo
  rw [up2_ne _ _ _ h3, up2_ne _ _ _ h2, up2_ne _ _ _ h1]
theorem stE1_keep {x f : Nat} (h1 : f ≠ 900) (h2 : f ≠ 901) (i : Nat) (I : MI) : stE1 x i I f = I f := by
  unfold stE1
  rw [up2_ne _ _ _ h2, up2_ne _ _ _ h1]
theorem stE2_keep {x f : Nat} {si : Nat → Nat} (h1 : f ≠ 900) (h2 : f ≠ 901) (h3 : f ≠ 306) (h4 : f ≠ 705) (h5 : f ≠ 1114) (I : MI) (a : Nat) : stE2 x si I a f = I f := by
  unfold stE2
  split
  · rw [up2_ne _ _ _ h5, up2_ne _ _ _ h4, up2_ne _ _ _ h3, up2_ne _ _ _ h2, up2_ne _ _ _ h1]
  · rfl
theorem stE3_keep {x f : Nat} (h1 : f ≠ 706) (i : Nat) (I : MI) : stE3 x i I f = I f := by
  unfold stE3
  rw [up2_ne _ _ _ h1]
theorem eatX_keep {x f : Nat} {si : Nat → Nat} {ch : List Nat} {I : MI} (h1 : f ≠ 900) (h2 : f ≠ 901) (h3 : f ≠ 306) (h4 : f ≠ 705) (h5 : f ≠ 1114) (h6 : f ≠ 706) : eatX x si ch I f = I f := by
  unfold eatX
  rw [itr_keep (fun i I => stE3_keep h6 i I), fold_keep (fun I a => stE2_keep h1 h2 h3 h4 h5 I a), itr_keep (fun i I => stE1_keep h1 h2 i I)]
theorem XSt.cI {x : Nat} {t : TT} {I I' : MI} {R : MR} {B : MR} (h : XSt x t I R B) (e5 : I' 500 = I 500) (e1 : I' 100 = I 100) (e7 : I' 700 = I 700) : XSt x t I' R B := by
  unfold XSt at h ⊢
  rw [e5, e1, e7]
  exact h
def wkX (x : Nat) (si bm : Nat → Nat) (ch : List Nat) (w : Int32) (J : MI) (I : MI) : MI := up2 (eatX x si ch (ch.foldl (stCo x si bm w J) (ch.foldl (stBr w) I))) 1111 x (w + 1)
theorem wk12_keep {x f : Nat} {si bm : Nat → Nat} {ch : List Nat} {w : Int32} {J I : MI} (h0 : f ≠ 307) (h3 : f ≠ 306) (h4 : f ≠ 1113) (h5 : f ≠ 311) : (ch.foldl (stCo x si bm w J) (ch.foldl (stBr w) I)) f = I f := by
  rw [fold_keep (fun I a => stCo_keep h3 h4 h5 I a), fold_keep (fun I a => stBr_keep h0 I a)]
theorem wk3_keep {x f : Nat} {si bm : Nat → Nat} {ch : List Nat} {w : Int32} {J I : MI} (h0 : f ≠ 307) (h3 : f ≠ 306) (h4 : f ≠ 1113) (h5 : f ≠ 311) (h1 : f ≠ 900) (h2 : f ≠ 901) (h6 : f ≠ 705) (h7 : f ≠ 1114) (h8 : f ≠ 706) : eatX x si ch (ch.foldl (stCo x si bm w J) (ch.foldl (stBr w) I)) f = I f := by
  rw [eatX_keep h1 h2 h3 h6 h7 h8, wk12_keep h0 h3 h4 h5]
theorem sem_X11_week {l : Launch} {D : va_G} {A : Nat → Prop} {z : Nat} {t : TT} {I : MI} {R : MR} {J : MI} {B : MR} {x n w : Nat} {si mi bm : Nat → Nat} {ch : List Nat} {Φ : PP} (hX : XSt x t I R B) (hz : x + 141 ≤ z) (hA : ∀ q, z ≤ q → A q) (hn : I 401 (x + 127) = nI n) (hn2 : n ≤ 300) (hw : I 1111 x = nI w) (hw2 : w ≤ 200) (hok : LotsOk x n t I R B si mi bm ch) (hch : Chain t R (R 402 (x + 127)) ch) (q0 : w = 200 → Φ (some (.int (-1))) z t I R J B) (q : w < 200 → Φ (some (.int (nI (w + 1)))) (z + 1) (va_up t z (20, 32)) (wkX x si bm ch (nI w) J I) R (va_up J z (ch.foldl (rowS si (wkX x si bm ch (nI w) J I)) (fun _ => 0))) (va_up B (x + 4) (va_up (B (x + 4)) (w + 1) (some z)))) : Sem l D A 3 1 32 mX11_week [va_rf (some x)] z t I R J B Φ := by
  refine Sem.run [some (va_rf (some x))] (by decide) rfl (ent_r ent_nil) ?_
  refine V_aload dX11_week_0 rfl ?_
  refine V_getIs fk_X11_121 dX11_week_1 hX.hx hw ?_
  refine V_const dX11_week_4 ?_
  refine V_icmp_lt dX11_week_7 (fun hc7 => ?_) (fun hc7 => ?_)
  · have hlt : w < 200 := (nI_ltI (by omega) (by decide)).mp hc7
    have hw3 : eatX x si ch (ch.foldl (stCo x si bm (nI w) J) (ch.foldl (stBr (nI w)) I)) 1111 x = nI w := by rw [wk3_keep (by decide) (by decide) (by decide) (by decide) (by decide) (by decide) (by decide) (by decide) (by decide)]; exact hw
    have hw4 : (ch.foldl (stBr (nI w)) I) 1111 x = nI w := by rw [fold_keep (fun I a => stBr_keep (by decide) I a)]; exact hw
    have hsi : SiOk x R si ch := fun a ha => (hok a ha).1
    refine V_aload dX11_week_12 rfl ?_
    refine V_invV (As := []) mv_X11_bringIn lk_X11_178 dX11_week_13 (c := 11) (by decide) rfl rfl hX.hx rfl rfl (Nat.le_of_ble_eq_true rfl) ⟨⟨by decide, by decide⟩, by decide, by decide⟩ (sem_X11_bringIn hX.hx hX.lo.1 hX.lo.2.1 hch ?_)
    rw [hw]
    refine V_aload dX11_week_16 rfl ?_
    refine V_invV (As := []) mv_X11_condemnSpoilt lk_X11_181 dX11_week_17 (c := 11) (by decide) rfl rfl hX.hx rfl rfl (Nat.le_of_ble_eq_true rfl) ⟨⟨by decide, by decide⟩, by decide, by decide⟩ (sem_X11_condemnSpoilt (hX.cI (fold_keep (fun I a => stBr_keep (by decide) I a) _ _) (fold_keep (fun I a => stBr_keep (by decide) I a) _ _) (fold_keep (fun I a => stBr_keep (by decide) I a) _ _)) (by rw [fold_keep (fun I a => stBr_keep (by decide) I a)]; exact hn) hn2 (fun a ha => by obtain ⟨g1, g2, g3⟩ := hok a ha; exact ⟨g1, ⟨by rw [fold_keep (fun I a => stBr_keep (by decide) I a)]; exact g2.1, g2.2⟩, g3⟩) hch ?_)
    rw [hw4]
    refine V_aload dX11_week_20 rfl ?_
    refine V_invV (As := []) mv_X11_eat lk_X11_184 dX11_week_21 (c := 11) (by decide) rfl rfl hX.hx rfl rfl (Nat.le_of_ble_eq_true rfl) ⟨⟨by decide, by decide⟩, by decide, by decide⟩ (sem_X11_eat (hX.cI (wk12_keep (by decide) (by decide) (by decide) (by decide)) (wk12_keep (by decide) (by decide) (by decide) (by decide)) (wk12_keep (by decide) (by decide) (by decide) (by decide))) hsi hch ?_)
    refine V_aload dX11_week_24 rfl ?_
    refine V_dupr dX11_week_25 ?_
    refine V_getIs fk_X11_121 dX11_week_26 hX.hx hw3 ?_
    refine V_const dX11_week_29 ?_
    refine V_iadd dX11_week_30 ?_
    refine V_putI fk_X11_121 (Or.inl rfl) rfl rfl dX11_week_31 hX.hx ?_
    refine V_aload dX11_week_34 rfl ?_
    refine V_invV (As := []) mv_X11_writeStocks lk_X11_187 dX11_week_35 (c := 11) (by decide) rfl rfl hX.hx rfl rfl (Nat.le_of_ble_eq_true rfl) ⟨⟨by decide, by decide⟩, by decide, by decide⟩ (sem_X11_writeStocks (w := w + 1) (hX.cI ((up2_ne _ _ _ (by decide)).trans (wk3_keep (by decide) (by decide) (by decide) (by decide) (by decide) (by decide) (by decide) (by decide) (by decide))) ((up2_ne _ _ _ (by decide)).trans (wk3_keep (by decide) (by decide) (by decide) (by decide) (by decide) (by decide) (by decide) (by decide) (by decide))) ((up2_ne _ _ _ (by decide)).trans (wk3_keep (by decide) (by decide) (by decide) (by decide) (by decide) (by decide) (by decide) (by decide) (by decide)))) hz hA (by rw [up2s, nI_1]) (by omega) hsi hch ?_)
    refine V_aload dX11_week_38 rfl ?_
    refine V_getIs fk_X11_121 dX11_week_39 (by rw [va_up_ne _ _ (by omega)]; exact hX.hx) up2s ?_
    exact V_iret dX11_week_42 rfl (by decide) (by decide) (by have h9 := q hlt; unfold wkX at h9; rw [nI_1] at h9 ⊢; exact h9)
  · have hge : w = 200 := by
      rcases Nat.lt_or_ge w 200 with h | h
      · exact absurd (nI_lt h (by decide)) hc7
      · omega
    refine V_const dX11_week_10 ?_
    exact V_iret dX11_week_11 rfl (by decide) (by decide) (q0 hge)
end
section
-- ENTERING LOTS; BUYING AND SENDING, in the class
def xfin (f : Nat) : Bool := !(f == 313 || f == 402 || f == 707 || f == 1109 || f == 300 || f == 801)
theorem XSt.mono {x : Nat} {t t' : TT} {I I' : MI} {R R' : MR} {B B' : MR} (h : XSt x t I R B) (ht : ∀ a, a < x + 141 → t' a = t a) (hI : ∀ f a, a < x + 141 → f = 500 ∨ f = 100 ∨ f = 700 → I' f a = I f a) (hR : ∀ f a, a < x + 141 → xfin f = true → R' f a = R f a) (hB : ∀ a i, a < x + 141 → a ≠ x + 4 → a ≠ x + 128 → a ≠ x + 132 → B' a i = B a i) : XSt x t' I' R' B' := by
  unfold XSt at h ⊢
  simp only [xPl, xSo, xKd] at h ⊢
  obtain ⟨h1, ⟨h2, h3, h4⟩, ⟨h5, h6, h7⟩, ⟨h8, h9, h10⟩, ⟨h11, h12⟩, ⟨h13, h14, h15⟩, ⟨h16, h17, h18, h19⟩, ⟨h20, h21, h22, h23⟩, ⟨h24, h25, h26⟩, ⟨h27, h28⟩, h29, h30, h31, h32, h33, h34⟩ := h
  have T : ∀ {a : Nat} {τ : Nat × Nat}, t a = τ → a < x + 141 → t' a = τ := fun h1 h2 => (ht _ h2).trans h1
  have T1 : ∀ {a c : Nat}, (t a).1 = c → a < x + 141 → (t' a).1 = c := fun h1 h2 => by rw [ht _ h2]; exact h1
  have Q : ∀ {f a : Nat} {r : Option Nat}, R f a = r → a < x + 141 → xfin f = true → R' f a = r := fun h1 h2 h3 => (hR _ _ h2 h3).trans h1
  refine ⟨T1 h1 (by omega), ⟨Q h2 (by omega) rfl, T h3 (by omega), fun p hp => ?_⟩, ⟨Q h5 (by omega) rfl, T h6 (by omega), fun k hk => ?_⟩, ⟨Q h8 (by omega) rfl, T h9 (by omega), fun i hi => ?_⟩, ⟨Q h11 (by omega) rfl, T h12 (by omega)⟩, ⟨Q h13 (by omega) rfl, T h14 (by omega), fun p hp => ?_⟩, ⟨Q h16 (by omega) rfl, T1 h17 (by omega), Q h18 (by omega) rfl, T h19 (by omega)⟩, ⟨Q h20 (by omega) rfl, T1 h21 (by omega), Q h22 (by omega) rfl, T h23 (by omega)⟩, ⟨Q h24 (by omega) rfl, T1 h25 (by omega), Q h26 (by omega) rfl⟩, ⟨Q h27 (by omega) rfl, T h28 (by omega)⟩, Q h29 (by omega) rfl, T1 h30 (by omega), Q h31 (by omega) rfl, Q h32 (by omega) rfl, T h33 (by omega), T h34 (by omega)⟩
  · obtain ⟨g1, g2, g3⟩ := h4 p hp
    exact ⟨(hB _ _ (by omega) (by omega) (by omega) (by omega)).trans g1, T1 g2 (by omega), (hI _ _ (by omega) (by omega)).trans g3⟩
  · obtain ⟨g1, g2, g3, g4, g5⟩ := h7 k hk
    exact ⟨(hB _ _ (by omega) (by omega) (by omega) (by omega)).trans g1, T1 g2 (by omega), (hI _ _ (by omega) (by omega)).trans g3, Q g4 (by omega) rfl, T g5 (by omega)⟩
  · obtain ⟨g1, g2, g3, g4, g5, g6, g7, g8, g9⟩ := h10 i hi
    exact ⟨(hB _ _ (by omega) (by omega) (by omega) (by omega)).trans g1, T1 g2 (by omega), (hI _ _ (by omega) (by omega)).trans g3, Q g4 (by omega) rfl, Q g5 (by omega) rfl, Q g6 (by omega) rfl, Q g7 (by omega) rfl, T1 g8 (by omega), T1 g9 (by omega)⟩
  · obtain ⟨g1, g2⟩ := h15 p hp
    exact ⟨(hB _ _ (by omega) (by omega) (by omega) (by omega)).trans g1, T g2 (by omega)⟩
/-- an object has come at z -/
theorem XSt.made {x z : Nat} {t : TT} {I : MI} {R : MR} {B : MR} {τ : Nat × Nat} (h : XSt x t I R B) (hz : x + 141 ≤ z) : XSt x (va_up t z τ) (zI I z) (zR R z) B :=
  h.mono (fun a ha => va_up_ne _ _ (by omega)) (fun f a ha _ => zI_ne _ _ (by omega)) (fun f a ha _ => zR_ne _ _ (by omega)) (fun _ _ _ _ _ _ => rfl)
def lotI (I : MI) (o : Nat) (mk md g mr c cm : Int32) : MI := up2 (up2 (up2 (up2 (up2 (up2 (up2 I 301 o mk) 302 o md) 303 o g) 304 o mr) 305 o c) 306 o c) 307 o cm
theorem sem_X3_init {l : Launch} {D : va_G} {A : Nat → Prop} {z : Nat} {t : TT} {I : MI} {R : MR} {J : MI} {B : MR} {o : Nat} {r : Option Nat} {mk md g mr c cm : Int32} {Φ : PP} (ho : (t o).1 = 4) (q : Φ none z t (lotI I o mk md g mr c cm) (up2 R 300 o r) J B) : Sem l D A 1 0 0 mX3_init [va_rf (some o), va_rf r, .int mk, .int md, .int g, .int mr, .int c, .int cm] z t I R J B Φ := by
  refine Sem.run [some (va_rf (some o)), some (va_rf r), some (.int mk), some (.int md), some (.int g), some (.int mr), some (.int c), some (.int cm)] (by decide) rfl (ent_r (ent_r (ent_i (ent_i (ent_i (ent_i (ent_i (ent_i ent_nil)))))))) ?_
  refine V_aload dX3_init_0 rfl ?_
  refine V_objInit dX3_init_1 lk_X3_3 w_oi1 w_oi2 (by decide) (by decide) (Nat.le_of_ble_eq_true rfl) ?_
  refine V_aload dX3_init_4 rfl ?_
  refine V_aload dX3_init_5 rfl ?_
  refine V_putR fk_X3_9 (Or.inr ⟨rfl, rfl, rfl⟩) (fun v => by cases v <;> rfl) (fun v => by cases v <;> rfl) dX3_init_6 (by assumption) ?_
  refine V_aload dX3_init_9 rfl ?_
  refine V_iload dX3_init_10 rfl ?_
  refine V_putI fk_X3_15 (Or.inr ⟨rfl, rfl, rfl⟩) rfl rfl dX3_init_11 (by assumption) ?_
  refine V_aload dX3_init_14 rfl ?_
  refine V_iload dX3_init_15 rfl ?_
  refine V_putI fk_X3_19 (Or.inr ⟨rfl, rfl, rfl⟩) rfl rfl dX3_init_16 (by assumption) ?_
  refine V_aload dX3_init_19 rfl ?_
  refine V_iload dX3_init_20 rfl ?_
  refine V_putI fk_X3_22 (Or.inr ⟨rfl, rfl, rfl⟩) rfl rfl dX3_init_22 (by assumption) ?_
  refine V_aload dX3_init_25 rfl ?_
  refine V_iload dX3_init_26 rfl ?_
  refine V_putI fk_X3_25 (Or.inr ⟨rfl, rfl, rfl⟩) rfl rfl dX3_init_28 (by assumption) ?_
  refine V_aload dX3_init_31 rfl ?_
  refine V_iload dX3_init_32 rfl ?_
  refine V_putI fk_X3_28 (Or.inr ⟨rfl, rfl, rfl⟩) rfl rfl dX3_init_34 (by assumption) ?_
  refine V_aload dX3_init_37 rfl ?_
  refine V_iload dX3_init_38 rfl ?_
  refine V_putI fk_X3_31 (Or.inl rfl) rfl rfl dX3_init_40 (by assumption) ?_
  refine V_aload dX3_init_43 rfl ?_
  refine V_iload dX3_init_44 rfl ?_
  refine V_putI fk_X3_34 (Or.inl rfl) rfl rfl dX3_init_46 (by assumption) ?_
  exact V_vret dX3_init_49 rfl (by decide) (by decide) q
/-- the chain with a put behind all that were made in the same week or ahead of it -/
def insA (md : Nat → Int32) (a : Nat) : List Nat → List Nat
  | [] => [a]
  | c :: cs => if md c ≤ md a then c :: insA md a cs else a :: c :: cs
def insC (md : Nat → Int32) (a : Nat) : List Nat → List Nat
  | [] => [a]
  | b :: bs => b :: insA md a bs
theorem Chain.set {t : TT} {R : MR} {c : Nat} {v : Option Nat} : ∀ (ch : List Nat) (r : Option Nat), Chain t R r ch → c ∉ ch → Chain t (up2 R 313 c v) r ch
  | [], _, h, _ => h
  | a :: as, r, h, hc => by
    obtain ⟨h1, h2, h3⟩ := h
    refine ⟨h1, h2, ?_⟩
    rw [up2o (fun e => hc (by rw [e]; exact List.mem_cons_self))]
    exact Chain.set as _ h3 (fun h => hc (List.mem_cons_of_mem _ h))
theorem lp_X4_putInChain {l : Launch} {D : va_G} {A : Nat → Prop} {z : Nat} {t : TT} {I : MI} {R : MR} {J : MI} {B : MR} {o a : Nat} {Φ : PP} (ho : (t o).1 = 5) (ha : (t a).1 = 4) : ∀ (rest : List Nat) (b : Nat), (t b).1 = 4 → Chain t R (R 313 b) rest → a ∉ b :: rest → (b :: rest).Nodup →
    (∀ R' : MR, Chain t R' (some b) (b :: insA (I 302) a rest) → (∀ g, g ≠ 313 → R' g = R g) → (∀ c, c ∉ a :: b :: rest → R' 313 c = R 313 c) → Φ none z t I R' J B) →
    V l D A (rmm 0 0 0) mX4_putInChain (KS D A 0 0 Φ) 0 0 z t I R J B 18 [some (va_rf (some o)), some (va_rf (some a)), some (va_rf (some b))] [] := by
  intro rest
  induction rest with
  | nil =>
    intro b hb hch hnm hnd q
    have hr : R 313 b = none := hch
    have hab : a ≠ b := fun e => hnm (by rw [e]; exact List.mem_cons_self)
    refine V_aload dX4_putInChain_18 rfl ?_
    refine V_getRs fk_X4_37 dX4_putInChain_19 hb hr ?_
    refine V_ifnull dX4_putInChain_22 (fun hn22 => ?_) (fun a22 hs22 => ?_)
    · refine V_aload dX4_putInChain_47 rfl ?_
      refine V_aload dX4_putInChain_48 rfl ?_
      refine V_getRs fk_X4_37 dX4_putInChain_49 hb hr ?_
      refine V_putR fk_X4_37 (Or.inl rfl) (fun v => by cases v <;> rfl) (fun v => by cases v <;> rfl) dX4_putInChain_52 ha ?_
      refine V_aload dX4_putInChain_55 rfl ?_
      refine V_aload dX4_putInChain_56 rfl ?_
      refine V_putR fk_X4_37 (Or.inl rfl) (fun v => by cases v <;> rfl) (fun v => by cases v <;> rfl) dX4_putInChain_57 hb ?_
      exact V_vret dX4_putInChain_60 rfl (by decide) (by decide) (q _ ⟨rfl, hb, by rw [up2s]; exact ⟨rfl, ha, by rw [up2o hab, up2s]; rfl⟩⟩ (fun g hg => by rw [up2_ne _ _ _ hg, up2_ne _ _ _ hg]) (fun c hc => by rw [up2o (fun e => hc (by rw [e]; simp)), up2o (fun e => hc (by rw [e]; simp))]))
    · exact absurd hs22 (by simp)
  | cons c cs ih =>
    intro b hb hch hnm hnd q
    obtain ⟨hr, hc, hch⟩ := hch
    have hab : a ≠ b := fun e => hnm (by rw [e]; exact List.mem_cons_self)
    have hbc : b ∉ c :: cs := (List.nodup_cons.mp hnd).1
    have hac : a ∉ c :: cs := fun h => hnm (List.mem_cons_of_mem _ h)
    refine V_aload dX4_putInChain_18 rfl ?_
    refine V_getRs fk_X4_37 dX4_putInChain_19 hb hr ?_
    refine V_ifnull dX4_putInChain_22 (fun hn22 => ?_) (fun a22 hs22 => ?_)
    · exact absurd hn22 (by simp)
    · cases hs22
      refine V_aload dX4_putInChain_25 rfl ?_
      refine V_getRs fk_X4_37 dX4_putInChain_26 hb hr ?_
      refine V_getI fk_X4_40 dX4_putInChain_29 hc ?_
      refine V_aload dX4_putInChain_32 rfl ?_
      refine V_getI fk_X4_40 dX4_putInChain_33 ha ?_
      refine V_icmp_gt dX4_putInChain_36 (fun hc36 => ?_) (fun hc36 => ?_)
      · refine V_aload dX4_putInChain_47 rfl ?_
        refine V_aload dX4_putInChain_48 rfl ?_
        refine V_getRs fk_X4_37 dX4_putInChain_49 hb hr ?_
        refine V_putR fk_X4_37 (Or.inl rfl) (fun v => by cases v <;> rfl) (fun v => by cases v <;> rfl) dX4_putInChain_52 ha ?_
        refine V_aload dX4_putInChain_55 rfl ?_
        refine V_aload dX4_putInChain_56 rfl ?_
        refine V_putR fk_X4_37 (Or.inl rfl) (fun v => by cases v <;> rfl) (fun v => by cases v <;> rfl) dX4_putInChain_57 hb ?_
        exact V_vret dX4_putInChain_60 rfl (by decide) (by decide) (q _ (by
              have e : insA (I 302) a (c :: cs) = a :: c :: cs := if_neg (fun h => by rw [i_lt] at hc36; rw [i_le] at h; omega)
              rw [e]
              refine ⟨rfl, hb, ?_⟩
              rw [up2s]
              refine ⟨rfl, ha, ?_⟩
              rw [up2o hab, up2s]
              refine Chain.set _ _ (Chain.set _ _ ?_ hac) hbc
              exact ⟨rfl, hc, hch⟩) (fun g hg => by rw [up2_ne _ _ _ hg, up2_ne _ _ _ hg]) (fun d hd => by rw [up2o (fun e => hd (by rw [e]; simp)), up2o (fun e => hd (by rw [e]; simp))]))
      · refine V_aload dX4_putInChain_39 rfl ?_
        refine V_getRs fk_X4_37 dX4_putInChain_40 hb hr ?_
        refine V_as2 dX4_putInChain_43 (by decide) (noL_r _) ?_
        refine V_goto dX4_putInChain_44 ?_
        refine V.sub (lsS (lsS (lsS ls0))) (ih c hc hch hac (List.nodup_cons.mp hnd).2 (fun R' g1 g2 g3 => ?_))
        have hle : I 302 c ≤ I 302 a := by rw [i_lt] at hc36; rw [i_le]; omega
        refine q R' ?_ g2 (fun d hd => g3 d (fun h => hd (by simp only [List.mem_cons] at h ⊢; rcases h with h | h | h <;> simp [h])))
        have e : insA (I 302) a (c :: cs) = c :: insA (I 302) a cs := if_pos hle
        rw [e]
        refine ⟨rfl, hb, ?_⟩
        rw [g3 b (fun h => by simp only [List.mem_cons] at h hbc; rcases h with h | h | h
                              · exact hab h.symm
                              · exact hbc (Or.inl h)
                              · exact hbc (Or.inr h)), hr]
        exact g1
/-- what entering a lot does to the links -/
def Linked (t : TT) (o a : Nat) (md : Nat → Int32) (ch : List Nat) (R R' : MR) : Prop := Chain t R' (R' 402 o) (insC md a ch) ∧ (∀ g, g ≠ 313 → g ≠ 402 → R' g = R g) ∧ (∀ b, b ∉ a :: ch → R' 313 b = R 313 b) ∧ ∀ b, b ≠ o → R' 402 b = R 402 b
theorem sem_X4_putInChain {l : Launch} {D : va_G} {A : Nat → Prop} {z : Nat} {t : TT} {I : MI} {R : MR} {J : MI} {B : MR} {o a : Nat} {ch : List Nat} {Φ : PP} (ho : (t o).1 = 5) (ha : (t a).1 = 4) (hch : Chain t R (R 402 o) ch) (hnm : a ∉ ch) (hnd : ch.Nodup) (hfr : R 313 a = none) (q : ∀ R', Linked t o a (I 302) ch R R' → Φ none z t I R' J B) : Sem l D A 0 0 0 mX4_putInChain [va_rf (some o), va_rf (some a)] z t I R J B Φ := by
  refine Sem.run [some (va_rf (some o)), some (va_rf (some a)), none] (by decide) rfl (ent_r (ent_r (ent_none ent_nil))) ?_
  refine V_aload dX4_putInChain_0 rfl ?_
  refine V_getR fk_X4_33 dX4_putInChain_1 (by assumption) ?_
  refine V_ifnonnull dX4_putInChain_4 (fun a4 hs4 => ?_) (fun hn4 => ?_)
  · cases ch with
    | nil => exact absurd (hs4.symm.trans hch) (by simp)
    | cons b bs =>
    obtain ⟨hr, hb, hch⟩ := hch
    refine V_aload dX4_putInChain_13 rfl ?_
    refine V_getRs fk_X4_33 dX4_putInChain_14 (by assumption) hr ?_
    refine V_as2 dX4_putInChain_17 (by decide) (noL_r _) ?_
    exact lp_X4_putInChain ho ha bs b hb hch hnm hnd (fun R' g1 g2 g3 => q R' ⟨by rw [g2 402 (by decide), hr]; exact g1, fun g h1 _ => g2 g h1, g3, fun c _ => by rw [g2 402 (by decide)]⟩)
  · cases ch with
    | cons b bs => exact absurd (hn4.symm.trans hch.1) (by simp)
    | nil =>
    refine V_aload dX4_putInChain_7 rfl ?_
    refine V_aload dX4_putInChain_8 rfl ?_
    refine V_putR fk_X4_33 (Or.inl rfl) (fun v => by cases v <;> rfl) (fun v => by cases v <;> rfl) dX4_putInChain_9 (by assumption) ?_
    exact V_vret dX4_putInChain_12 rfl (by decide) (by decide) (q _ ⟨by rw [up2s]; exact ⟨rfl, ha, by rw [up2n (by decide)]; exact hfr⟩, fun g _ hg => up2_ne _ _ _ hg, fun b _ => up2n (by decide), fun b hb => up2o hb⟩)
theorem sem_X4_enter {l : Launch} {D : va_G} {A : Nat → Prop} {z : Nat} {t : TT} {I : MI} {R : MR} {J : MI} {B : MR} {o ab a n : Nat} {ch : List Nat} {Φ : PP} (ho : (t o).1 = 5) (h1 : R 400 o = some ab) (h2 : t ab = (24, 300)) (hn : I 401 o = nI n) (hn2 : n < 300) (ha : (t a).1 = 4) (hch : Chain t R (R 402 o) ch) (hnm : a ∉ ch) (hnd : ch.Nodup) (hfr : R 313 a = none) (q : ∀ R', Linked t o a (I 302) ch R R' → Φ (some (.int (nI n))) z t (up2 I 401 o (nI (n + 1))) R' J (va_up B ab (va_up (B ab) n (some a)))) : Sem l D A 1 0 0 mX4_enter [va_rf (some o), va_rf (some a)] z t I R J B Φ := by
  refine Sem.run [some (va_rf (some o)), some (va_rf (some a)), none] (by decide) rfl (ent_r (ent_r (ent_none ent_nil))) ?_
  refine V_aload dX4_enter_0 rfl ?_
  refine V_invV (As := []) mv_X4_isFull lk_X4_25 dX4_enter_1 (c := 4) (by decide) rfl rfl (by assumption) rfl rfl (Nat.le_of_ble_eq_true rfl) ⟨⟨by decide, by decide⟩, by decide, by decide⟩ (sem_X4_isFull ho ?_)
  refine V_if_eq dX4_enter_4 (fun hc4 => ?_) (fun hc4 => ?_)
  · refine V_aload dX4_enter_9 rfl ?_
    refine V_getIs fk_X4_17 dX4_enter_10 (by assumption) hn ?_
    refine V_is2 dX4_enter_13 (by decide) (noL_r _) ?_
    refine V_aload dX4_enter_14 rfl ?_
    refine V_getRs fk_X4_11 dX4_enter_15 (by assumption) h1 ?_
    refine V_iload dX4_enter_18 rfl ?_
    refine V_aload dX4_enter_19 rfl ?_
    refine V_aast (j := 3) dX4_enter_20 rfl h2 ha (by decide) ⟨rfl, by decide⟩ rfl hn2 (by decide) ?_
    refine V_aload dX4_enter_21 rfl ?_
    refine V_dupr dX4_enter_22 ?_
    refine V_getIs fk_X4_17 dX4_enter_23 (by assumption) hn ?_
    refine V_const dX4_enter_26 ?_
    refine V_iadd dX4_enter_27 ?_
    refine V_putI fk_X4_17 (Or.inl rfl) rfl rfl dX4_enter_28 (by assumption) ?_
    refine V_aload dX4_enter_31 rfl ?_
    refine V_aload dX4_enter_32 rfl ?_
    refine V_invV (As := [_]) mv_X4_putInChain lk_X4_29 dX4_enter_33 (c := 4) (by decide) rfl rfl (by assumption) rfl rfl (Nat.le_of_ble_eq_true rfl) ⟨⟨by decide, by decide⟩, by decide, by decide⟩ (sem_X4_putInChain ho ha hch hnm hnd hfr (fun R' hL => ?_))
    refine V_iload dX4_enter_36 rfl ?_
    exact V_iret dX4_enter_37 rfl (by decide) (by decide) (by rw [nI_1]; exact q R' hL)
  · rw [bI_n0, hn] at hc4; exact absurd hc4 (nI_ge hn2 (by decide))
end
section
-- BUYING AND SENDING, in the class
theorem lotI_off {I : MI} {o f a : Nat} {mk md g mr c cm : Int32} (h : a ≠ o) : lotI I o mk md g mr c cm f a = I f a := by
  unfold lotI
  rw [up2o h, up2o h, up2o h, up2o h, up2o h, up2o h, up2o h]
theorem Chain.tag {t : TT} {R : MR} : ∀ (ch : List Nat) (r : Option Nat), Chain t R r ch → ∀ a ∈ ch, (t a).1 = 4
  | [], _, _, a, ha => absurd ha List.not_mem_nil
  | b :: bs, r, h, a, ha => by
    rcases List.mem_cons.mp ha with rfl | ha
    · exact h.2.1
    · exact Chain.tag bs _ h.2.2 a ha
theorem Chain.made {t : TT} {R : MR} {z : Nat} {τ : Nat × Nat} {v : Option Nat} : ∀ (ch : List Nat) (r : Option Nat), Chain t R r ch → (∀ a ∈ ch, a < z) → Chain (va_up t z τ) (up2 (zR R z) 300 z v) r ch
  | [], _, h, _ => h
  | a :: as, r, h, hz => by
    obtain ⟨h1, h2, h3⟩ := h
    have := hz a List.mem_cons_self
    refine ⟨h1, by rw [va_up_ne _ _ (by omega)]; exact h2, ?_⟩
    rw [up2n (by decide), zR_ne _ _ (by omega)]
    exact Chain.made as _ h3 (fun b hb => hz b (List.mem_cons_of_mem _ hb))
def buyOk (p mk k c g pr : Int32) (n : Nat) : Prop := (0 ≤ p ∧ p ≤ 7) ∧ (0 ≤ mk ∧ mk ≤ 9) ∧ (0 ≤ k ∧ k ≤ 3) ∧ (1 ≤ c ∧ c ≤ 5000) ∧ (0 ≤ g ∧ g ≤ 7) ∧ (0 ≤ pr ∧ pr ≤ 100000) ∧ n < 300
set_option maxHeartbeats 4000000 in
theorem sem_X11_buy {l : Launch} {D : va_G} {A : Nat → Prop} {z : Nat} {t : TT} {I : MI} {R : MR} {J : MI} {B : MR} {x n w : Nat} {p mk k c g pr : Int32} {ch : List Nat} {Φ : PP} (hX : XSt x t I R B) (hz : x + 141 ≤ z) (hA : ∀ q, z ≤ q → A q) (hn : I 401 (x + 127) = nI n) (hn2 : n ≤ 300) (hw : I 1111 x = nI w) (hch : Chain t R (R 402 (x + 127)) ch) (hnd : ch.Nodup) (q0 : ¬ buyOk p mk k c g pr n → Φ (some (.int (-1))) z t I R J B) (q : ∀ (i j : Nat) (R' : MR), i < 8 → j < 4 → p = nI i → k = nI j → buyOk p mk k c g pr n → Linked (va_up t z (4, 0)) (x + 127) z ((lotI (zI I z) z mk (nI w) g (nI n) c (-1)) 302) ch (up2 (zR R z) 300 z (some (xSo x (4 * i + j)))) R' → Φ (some (.int (nI n))) (z + 1) (va_up t z (4, 0)) (up2 (up2 (up2 (lotI (zI I z) z mk (nI w) g (nI n) c (-1)) 308 z pr) 1112 x (I 1112 x + c)) 401 (x + 127) (nI (n + 1))) R' J (va_up B (x + 128) (va_up (B (x + 128)) n (some z)))) : Sem l D A 2 1 14 mX11_buy [va_rf (some x), .int p, .int mk, .int k, .int c, .int g, .int pr] z t I R J B Φ := by
  refine Sem.run [some (va_rf (some x)), some (.int p), some (.int mk), some (.int k), some (.int c), some (.int g), some (.int pr), none, none] (by decide) rfl (ent_r (ent_i (ent_i (ent_i (ent_i (ent_i (ent_i (ent_none (ent_none ent_nil))))))))) ?_
  refine V.lt (fun hlt => ?_)
  have hcz : ∀ a ∈ ch, a < z := fun a ha => hlt a (by rw [Chain.tag ch _ hch a ha]; decide)
  refine V_aload dX11_buy_0 rfl ?_
  refine V_iload dX11_buy_1 rfl ?_
  refine V_iload dX11_buy_2 rfl ?_
  refine V_invV (As := [_, _]) mv_X11_storeOf lk_X11_110 dX11_buy_3 (c := 11) (by decide) rfl rfl hX.hx rfl rfl (Nat.le_of_ble_eq_true rfl) ⟨⟨by decide, by decide⟩, by decide, by decide⟩ (sem_X11_storeOf hX.hx hX.so.1 hX.so.2.1 (fun ho3 => ?_) (fun i j hi hj hvi hvj => ?_))
  · refine V_as7 dX11_buy_6 (by decide) (noL_i _) ?_
    refine V_aload dX11_buy_8 rfl ?_
    refine V_ifnull dX11_buy_10 (fun hn10 => ?_) (fun a10 hs10 => ?_)
    · refine V_const dX11_buy_35 ?_
      exact V_iret dX11_buy_36 rfl (by decide) (by decide) (q0 (fun h => ho3 ⟨h.1.1, h.1.2, h.2.2.1.1, h.2.2.1.2⟩))
    · exact absurd hs10 (by simp)
  · rw [(hX.so.2.2 (4 * i + j) (by omega)).1]
    refine V_as7 dX11_buy_6 (by decide) (noL_i _) ?_
    refine V_aload dX11_buy_8 rfl ?_
    refine V_ifnull dX11_buy_10 (fun hn10 => ?_) (fun a10 hs10 => ?_)
    · exact absurd hn10 (by simp)
    · cases hs10
      refine V_iload dX11_buy_13 rfl ?_
      refine V_const dX11_buy_14 ?_
      refine V_const dX11_buy_15 ?_
      refine V_invS (As := [_, _, _]) ms_X11_within lk_X11_89 dX11_buy_17 rfl rfl rfl (Nat.le_of_ble_eq_true rfl) ⟨⟨by decide, by decide⟩, by decide, by decide⟩ (sem_X11_within ?_)
      refine V_if_eq dX11_buy_20 (fun hc20 => ?_) (fun hc20 => ?_)
      · rw [bI_0] at hc20
        refine V_const dX11_buy_35 ?_
        exact V_iret dX11_buy_36 rfl (by decide) (by decide) (q0 (fun h => hc20 h.2.1))
      · rw [bI_n0] at hc20
        refine V_iload dX11_buy_23 rfl ?_
        refine V_const dX11_buy_25 ?_
        refine V_const dX11_buy_26 ?_
        refine V_invS (As := [_, _, _]) ms_X11_within lk_X11_89 dX11_buy_29 rfl rfl rfl (Nat.le_of_ble_eq_true rfl) ⟨⟨by decide, by decide⟩, by decide, by decide⟩ (sem_X11_within ?_)
        refine V_if_ne dX11_buy_32 (fun hc32 => ?_) (fun hc32 => ?_)
        · rw [bI_n0] at hc32
          refine V_iload dX11_buy_37 rfl ?_
          refine V_const dX11_buy_39 ?_
          refine V_const dX11_buy_40 ?_
          refine V_invS (As := [_, _, _]) ms_X11_within lk_X11_89 dX11_buy_42 rfl rfl rfl (Nat.le_of_ble_eq_true rfl) ⟨⟨by decide, by decide⟩, by decide, by decide⟩ (sem_X11_within ?_)
          refine V_if_eq dX11_buy_45 (fun hc45 => ?_) (fun hc45 => ?_)
          · rw [bI_0] at hc45
            refine V_const dX11_buy_69 ?_
            exact V_iret dX11_buy_70 rfl (by decide) (by decide) (q0 (fun h => hc45 h.2.2.2.2.1))
          · rw [bI_n0] at hc45
            refine V_iload dX11_buy_48 rfl ?_
            refine V_const dX11_buy_50 ?_
            refine V_ldc kk_X11_114 dX11_buy_51 ?_
            refine V_invS (As := [_, _, _]) ms_X11_within lk_X11_89 dX11_buy_53 rfl rfl rfl (Nat.le_of_ble_eq_true rfl) ⟨⟨by decide, by decide⟩, by decide, by decide⟩ (sem_X11_within ?_)
            refine V_if_eq dX11_buy_56 (fun hc56 => ?_) (fun hc56 => ?_)
            · rw [bI_0] at hc56
              refine V_const dX11_buy_69 ?_
              exact V_iret dX11_buy_70 rfl (by decide) (by decide) (q0 (fun h => hc56 h.2.2.2.2.2.1))
            · rw [bI_n0] at hc56
              refine V_aload dX11_buy_59 rfl ?_
              refine V_getRs fk_X11_47 dX11_buy_60 hX.hx hX.lo.1 ?_
              refine V_invV (As := []) mv_X4_isFull lk_X11_115 dX11_buy_63 (c := 4) (by decide) rfl rfl hX.lo.2.1 rfl rfl (Nat.le_of_ble_eq_true rfl) ⟨⟨by decide, by decide⟩, by decide, by decide⟩ (sem_X4_isFull hX.lo.2.1 ?_)
              refine V_if_eq dX11_buy_66 (fun hc66 => ?_) (fun hc66 => ?_)
              · rw [bI_0, hn] at hc66
                have hn3 : n < 300 := by
                  rcases Nat.lt_or_ge n 300 with h | h
                  · exact h
                  · exact absurd (nI_le h (by omega)) hc66
                have hp7 : 0 ≤ p ∧ p ≤ 7 := by
                  have h1 : p.toInt = (i : Int) := by rw [hvi]; exact nI_toInt (by omega)
                  rw [i_le, i_le, h1]; constructor
                  · show (0 : Int) ≤ _; omega
                  · show _ ≤ (7 : Int); omega
                have hk3 : 0 ≤ k ∧ k ≤ 3 := by
                  have h1 : k.toInt = (j : Int) := by rw [hvj]; exact nI_toInt (by omega)
                  rw [i_le, i_le, h1]; constructor
                  · show (0 : Int) ≤ _; omega
                  · show _ ≤ (3 : Int); omega
                refine V_new (c := 3) (by decide) rfl rfl ck_X11_119 wn_X3 wi_X3 (hA _ (Nat.le_refl _)) (by decide) (by decide) dX11_buy_71 ?_
                have hX2 : XSt x (va_up t z (4, 0)) (zI I z) (zR R z) B := hX.made hz
                have hX3 : XSt x (va_up t z (4, 0)) (zI I z) (up2 (zR R z) 300 z (some (xSo x (4 * i + j)))) B := (hX.made hz).mono (fun _ _ => rfl) (fun _ _ _ _ => rfl) (fun f a ha _ => up2o (by omega)) (fun _ _ _ _ _ _ => rfl)
                refine V_dupr dX11_buy_74 ?_
                refine V_aload dX11_buy_75 rfl ?_
                refine V_iload dX11_buy_77 rfl ?_
                refine V_aload dX11_buy_78 rfl ?_
                refine V_getIs fk_X11_121 dX11_buy_79 hX2.hx ((zI_ne _ _ (by omega)).trans hw) ?_
                refine V_iload dX11_buy_82 rfl ?_
                refine V_aload dX11_buy_84 rfl ?_
                refine V_getRs fk_X11_47 dX11_buy_85 hX2.hx hX2.lo.1 ?_
                refine V_getIs fk_X11_124 dX11_buy_88 hX2.lo.2.1 ((zI_ne _ _ (by omega)).trans hn) ?_
                refine V_iload dX11_buy_91 rfl ?_
                refine V_const dX11_buy_93 ?_
                refine V_invI (As := [_, _, _, _, _, _, _]) mc_X3_init lk_X11_127 dX11_buy_94 rfl rfl (Nat.le_of_ble_eq_true rfl) ⟨⟨by decide, by decide⟩, by decide, by decide⟩ (sem_X3_init (by rw [va_up_self]) ?_)
                refine V_as8 dX11_buy_97 (by decide) (noL_r _) ?_
                refine V_aload dX11_buy_99 rfl ?_
                refine V_iload dX11_buy_101 rfl ?_
                refine V_putI fk_X11_130 (Or.inl rfl) rfl rfl dX11_buy_103 (by rw [va_up_self]) ?_
                refine V_aload dX11_buy_106 rfl ?_
                refine V_dupr dX11_buy_107 ?_
                refine V_getIs fk_X11_133 dX11_buy_108 hX2.hx ((up2n (by decide)).trans ((lotI_off (by omega)).trans (zI_ne _ _ (by omega)))) ?_
                refine V_iload dX11_buy_111 rfl ?_
                refine V_iadd dX11_buy_113 ?_
                refine V_putI fk_X11_133 (Or.inl rfl) rfl rfl dX11_buy_114 hX2.hx ?_
                refine V_aload dX11_buy_117 rfl ?_
                refine V_getRs fk_X11_47 dX11_buy_118 hX2.hx hX3.lo.1 ?_
                refine V_aload dX11_buy_121 rfl ?_
                refine V_invV (As := [_]) mv_X4_enter lk_X11_136 dX11_buy_123 (c := 4) (by decide) rfl rfl hX2.lo.2.1 rfl rfl (Nat.le_of_ble_eq_true rfl) ⟨⟨by decide, by decide⟩, by decide, by decide⟩ (sem_X4_enter hX3.lo.2.1 hX3.lo.2.2.1 hX3.lo.2.2.2 ((up2n (by decide)).trans ((up2n (by decide)).trans ((lotI_off (by omega)).trans ((zI_ne _ _ (by omega)).trans hn)))) hn3 (by rw [va_up_self]) (by rw [up2n (by decide), zR_ne _ _ (by omega)]; exact Chain.made ch _ hch hcz) (fun h => Nat.lt_irrefl _ (hcz _ h)) hnd (by rw [up2n (by decide), zR_self]) (fun R' hL => ?_))
                exact V_iret dX11_buy_126 rfl (by decide) (by decide) (q i j R' hi hj hvi hvj ⟨hp7, hc20, hk3, hc32, hc45, hc56, hn3⟩ (by rw [up2_ne _ _ _ (by decide), up2_ne _ _ _ (by decide)] at hL; exact hL))
              · rw [bI_n0, hn] at hc66
                refine V_const dX11_buy_69 ?_
                exact V_iret dX11_buy_70 rfl (by decide) (by decide) (q0 (fun h => absurd hc66 (nI_ge h.2.2.2.2.2.2 (by decide))))
        · rw [bI_0] at hc32
          refine V_const dX11_buy_35 ?_
          exact V_iret dX11_buy_36 rfl (by decide) (by decide) (q0 (fun h => hc32 h.2.2.2.1))
def sendOk (I : MI) (a n s : Nat) (to c : Int32) : Prop := I 307 a = -1 ∧ (1 ≤ c ∧ c ≤ I 306 a) ∧ n < 300 ∧ (0 ≤ to ∧ to ≤ 7) ∧ to ≠ nI (s / 4)
set_option maxHeartbeats 4000000 in
theorem sem_X11_send {l : Launch} {D : va_G} {A : Nat → Prop} {z : Nat} {t : TT} {I : MI} {R : MR} {J : MI} {B : MR} {x n w : Nat} {lt to c : Int32} {la si : Nat → Nat} {ch : List Nat} {Φ : PP} (hX : XSt x t I R B) (hz : x + 141 ≤ z) (hA : ∀ q, z ≤ q → A q) (hn : I 401 (x + 127) = nI n) (hn2 : n ≤ 300) (hw : I 1111 x = nI w) (hla : ∀ i, i < n → B (x + 128) i = some (la i) ∧ (t (la i)).1 = 4 ∧ R 300 (la i) = some (xSo x (si (la i))) ∧ si (la i) < 32) (hch : Chain t R (R 402 (x + 127)) ch) (hnd : ch.Nodup) (q0 : (∀ i, i < n → lt = nI i → ¬ sendOk I (la i) n (si (la i)) to c) → Φ (some (.int (-1))) z t I R J B) (q : ∀ (v i : Nat) (R' : MR), v < n → i < 8 → lt = nI v → to = nI i → sendOk I (la v) n (si (la v)) to c → Linked (va_up t z (4, 0)) (x + 127) z ((lotI (zI I z) z (I 301 (la v)) (I 302 (la v)) (I 303 (la v)) (I 304 (la v)) c (nI w + J (x + 7 + si (la v) / 4) i)) 302) ch (up2 (zR R z) 300 z (some (xSo x (4 * i + si (la v) % 4)))) R' → Φ (some (.int (nI n))) (z + 1) (va_up t z (4, 0)) (up2 (up2 (lotI (zI I z) z (I 301 (la v)) (I 302 (la v)) (I 303 (la v)) (I 304 (la v)) c (nI w + J (x + 7 + si (la v) / 4) i)) 306 (la v) (I 306 (la v) - c)) 401 (x + 127) (nI (n + 1))) R' J (va_up B (x + 128) (va_up (B (x + 128)) n (some z)))) : Sem l D A 2 1 14 mX11_send [va_rf (some x), .int lt, .int to, .int c] z t I R J B Φ := by
  refine Sem.run [some (va_rf (some x)), some (.int lt), some (.int to), some (.int c), none, none, none, none, none] (by decide) rfl (ent_r (ent_i (ent_i (ent_i (ent_none (ent_none (ent_none (ent_none (ent_none ent_nil))))))))) ?_
  refine V.lt (fun hlt => ?_)
  have hcz : ∀ a ∈ ch, a < z := fun a ha => hlt a (by rw [Chain.tag ch _ hch a ha]; decide)
  refine V_aload dX11_send_0 rfl ?_
  refine V_getRs fk_X11_47 dX11_send_1 hX.hx hX.lo.1 ?_
  refine V_iload dX11_send_4 rfl ?_
  refine V_invV (As := [_]) mv_X4_numbered lk_X11_140 dX11_send_5 (c := 4) (by decide) rfl rfl hX.lo.2.1 rfl rfl (Nat.le_of_ble_eq_true rfl) ⟨⟨by decide, by decide⟩, by decide, by decide⟩ (sem_X4_numbered hX.lo.2.1 hX.lo.2.2.1 hX.lo.2.2.2 hn hn2 (fun ho5 => ?_) (fun v hv hvv => ?_))
  · refine V_as4 dX11_send_8 (by decide) (noL_i _) ?_
    refine V_aload dX11_send_10 rfl ?_
    refine V_ifnull dX11_send_12 (fun hn12 => ?_) (fun a12 hs12 => ?_)
    · refine V_const dX11_send_46 ?_
      exact V_iret dX11_send_47 rfl (by decide) (by decide) (q0 (fun i hi e => absurd e (ho5 i hi)))
    · exact absurd hs12 (by simp)
  · obtain ⟨hb, hta, hsi, hsl⟩ := hla v hv
    have hk4 : si (la v) % 4 < 4 := Nat.mod_lt _ (by decide)
    have hp8 : si (la v) / 4 < 8 := by omega
    rw [hb]
    refine V_as4 dX11_send_8 (by decide) (noL_i _) ?_
    refine V_aload dX11_send_10 rfl ?_
    refine V_ifnull dX11_send_12 (fun hn12 => ?_) (fun a12 hs12 => ?_)
    · exact absurd hn12 (by simp)
    · cases hs12
      refine V_aload dX11_send_15 rfl ?_
      refine V_invV (As := []) mv_X3_isThere lk_X11_144 dX11_send_17 (c := 3) (by decide) rfl rfl hta rfl rfl (Nat.le_of_ble_eq_true rfl) ⟨⟨by decide, by decide⟩, by decide, by decide⟩ (sem_X3_isThere hta ?_)
      refine V_if_eq dX11_send_20 (fun hc20 => ?_) (fun hc20 => ?_)
      · rw [bI_0] at hc20
        refine V_const dX11_send_46 ?_
        exact V_iret dX11_send_47 rfl (by decide) (by decide) (q0 (fun i hi e h => hc20 (by have e2 : i = v := (nI_eq (by omega) (by omega)).mp (e.symm.trans hvv); subst e2; exact h.1)))
      · rw [bI_n0] at hc20
        refine V_iload dX11_send_23 rfl ?_
        refine V_const dX11_send_24 ?_
        refine V_aload dX11_send_25 rfl ?_
        refine V_getI fk_X11_147 dX11_send_27 hta ?_
        refine V_invS (As := [_, _, _]) ms_X11_within lk_X11_89 dX11_send_30 rfl rfl rfl (Nat.le_of_ble_eq_true rfl) ⟨⟨by decide, by decide⟩, by decide, by decide⟩ (sem_X11_within ?_)
        refine V_if_eq dX11_send_33 (fun hc33 => ?_) (fun hc33 => ?_)
        · rw [bI_0] at hc33
          refine V_const dX11_send_46 ?_
          exact V_iret dX11_send_47 rfl (by decide) (by decide) (q0 (fun i hi e h => hc33 (by have e2 : i = v := (nI_eq (by omega) (by omega)).mp (e.symm.trans hvv); subst e2; exact h.2.1)))
        · rw [bI_n0] at hc33
          refine V_aload dX11_send_36 rfl ?_
          refine V_getRs fk_X11_47 dX11_send_37 hX.hx hX.lo.1 ?_
          refine V_invV (As := []) mv_X4_isFull lk_X11_115 dX11_send_40 (c := 4) (by decide) rfl rfl hX.lo.2.1 rfl rfl (Nat.le_of_ble_eq_true rfl) ⟨⟨by decide, by decide⟩, by decide, by decide⟩ (sem_X4_isFull hX.lo.2.1 ?_)
          refine V_if_eq dX11_send_43 (fun hc43 => ?_) (fun hc43 => ?_)
          · rw [bI_0, hn] at hc43
            have hn3 : n < 300 := by
              rcases Nat.lt_or_ge n 300 with h | h
              · exact h
              · exact absurd (nI_le h (by omega)) hc43
            refine V_aload dX11_send_48 rfl ?_
            refine V_getRs fk_X11_150 dX11_send_50 hta hsi ?_
            refine V_getRs fk_X11_154 dX11_send_53 (hX.so.2.2 _ hsl).2.1 (hX.so.2.2 _ hsl).2.2.2.1 ?_
            refine V_getIs fk_X11_158 dX11_send_56 (hX.pl.2.2 _ hp8).2.1 (hX.pl.2.2 _ hp8).2.2 ?_
            refine V_is5 dX11_send_59 (by decide) (noL_r _) ?_
            refine V_aload dX11_send_61 rfl ?_
            refine V_iload dX11_send_62 rfl ?_
            refine V_aload dX11_send_63 rfl ?_
            refine V_getRs fk_X11_150 dX11_send_65 hta hsi ?_
            refine V_getRs fk_X11_161 dX11_send_68 (hX.so.2.2 _ hsl).2.1 (hX.so.2.2 _ hsl).2.2.2.2.1 ?_
            refine V_getIs fk_X11_165 dX11_send_71 (hX.kd.2.2 _ hk4).2.1 (hX.kd.2.2 _ hk4).2.2.1 ?_
            refine V_invV (As := [_, _]) mv_X11_storeOf lk_X11_110 dX11_send_74 (c := 11) (by decide) rfl rfl hX.hx rfl rfl (Nat.le_of_ble_eq_true rfl) ⟨⟨by decide, by decide⟩, by decide, by decide⟩ (sem_X11_storeOf hX.hx hX.so.1 hX.so.2.1 (fun ho74 => ?_) (fun i j hi hj hvi hvj => ?_))
            · refine V_as6 dX11_send_77 (by decide) (noL_i _) ?_
              refine V_aload dX11_send_79 rfl ?_
              refine V_ifnull dX11_send_81 (fun hn81 => ?_) (fun a81 hs81 => ?_)
              · refine V_const dX11_send_90 ?_
                exact V_iret dX11_send_91 rfl (by decide) (by decide) (q0 (fun i hi e h => ho74 ⟨h.2.2.2.1.1, h.2.2.2.1.2, nI_pos' (by omega), show nI _ ≤ nI 3 from nI_le (by omega) (by decide)⟩))
              · exact absurd hs81 (by simp)
            · have hjj : j = si (la v) % 4 := ((nI_eq (by omega) (by omega)).mp hvj).symm
              subst hjj
              rw [(hX.so.2.2 (4 * i + si (la v) % 4) (by omega)).1]
              refine V_as6 dX11_send_77 (by decide) (noL_i _) ?_
              refine V_aload dX11_send_79 rfl ?_
              refine V_ifnull dX11_send_81 (fun hn81 => ?_) (fun a81 hs81 => ?_)
              · exact absurd hn81 (by simp)
              · cases hs81
                refine V_iload dX11_send_84 rfl ?_
                refine V_iload dX11_send_85 rfl ?_
                refine V_icmp_ne dX11_send_87 (fun hc87 => ?_) (fun hc87 => ?_)
                · refine V_aload dX11_send_92 rfl ?_
                  refine V_getIs fk_X11_121 dX11_send_93 hX.hx hw ?_
                  refine V_aload dX11_send_96 rfl ?_
                  refine V_getRs fk_X11_34 dX11_send_97 hX.hx hX.wy.1 ?_
                  refine V_iload dX11_send_100 rfl ?_
                  refine V_aalds (j := 5) dX11_send_102 rfl (by decide) hX.wy.2.1 rfl hp8 (by decide) (hX.wy.2.2 _ hp8).1 ?_
                  refine V_iload dX11_send_103 rfl ?_
                  refine V_iald dX11_send_104 (hX.wy.2.2 _ hp8).2 hvi hi (by decide) ?_
                  refine V_iadd dX11_send_105 ?_
                  refine V_is7 dX11_send_106 (by decide) (noL_r _) ?_
                  refine V_new (c := 3) (by decide) rfl rfl ck_X11_119 wn_X3 wi_X3 (hA _ (Nat.le_refl _)) (by decide) (by decide) dX11_send_108 ?_
                  have hX2 : XSt x (va_up t z (4, 0)) (zI I z) (zR R z) B := hX.made hz
                  have hX3 : XSt x (va_up t z (4, 0)) (zI I z) (up2 (zR R z) 300 z (some (xSo x (4 * i + si (la v) % 4)))) B := (hX.made hz).mono (fun _ _ => rfl) (fun _ _ _ _ => rfl) (fun f a ha _ => up2o (by omega)) (fun _ _ _ _ _ _ => rfl)
                  have hlz : la v < z := hlt _ (by rw [hta]; decide)
                  have hta2 : (va_up t z (4, 0) (la v)).1 = 4 := by rw [va_up_ne _ _ (by omega)]; exact hta
                  refine V_dupr dX11_send_111 ?_
                  refine V_aload dX11_send_112 rfl ?_
                  refine V_aload dX11_send_114 rfl ?_
                  refine V_getIs fk_X11_166 dX11_send_116 hta2 (zI_ne _ _ (by omega)) ?_
                  refine V_aload dX11_send_119 rfl ?_
                  refine V_getIs fk_X11_169 dX11_send_121 hta2 (zI_ne _ _ (by omega)) ?_
                  refine V_aload dX11_send_124 rfl ?_
                  refine V_getIs fk_X11_172 dX11_send_126 hta2 (zI_ne _ _ (by omega)) ?_
                  refine V_aload dX11_send_129 rfl ?_
                  refine V_getIs fk_X11_175 dX11_send_131 hta2 (zI_ne _ _ (by omega)) ?_
                  refine V_iload dX11_send_134 rfl ?_
                  refine V_iload dX11_send_135 rfl ?_
                  refine V_invI (As := [_, _, _, _, _, _, _]) mc_X3_init lk_X11_127 dX11_send_137 rfl rfl (Nat.le_of_ble_eq_true rfl) ⟨⟨by decide, by decide⟩, by decide, by decide⟩ (sem_X3_init (by rw [va_up_self]) ?_)
                  refine V_as8 dX11_send_140 (by decide) (noL_i _) ?_
                  refine V_aload dX11_send_142 rfl ?_
                  refine V_dupr dX11_send_144 ?_
                  refine V_getIs fk_X11_147 dX11_send_145 hta2 ((lotI_off (by omega)).trans (zI_ne _ _ (by omega))) ?_
                  refine V_iload dX11_send_148 rfl ?_
                  refine V_isub dX11_send_149 ?_
                  refine V_putI fk_X11_147 (Or.inl rfl) rfl rfl dX11_send_150 hta2 ?_
                  refine V_aload dX11_send_153 rfl ?_
                  refine V_getRs fk_X11_47 dX11_send_154 hX2.hx hX3.lo.1 ?_
                  refine V_aload dX11_send_157 rfl ?_
                  refine V_invV (As := [_]) mv_X4_enter lk_X11_136 dX11_send_159 (c := 4) (by decide) rfl rfl hX2.lo.2.1 rfl rfl (Nat.le_of_ble_eq_true rfl) ⟨⟨by decide, by decide⟩, by decide, by decide⟩ (sem_X4_enter hX3.lo.2.1 hX3.lo.2.2.1 hX3.lo.2.2.2 ((up2n (by decide)).trans ((lotI_off (by omega)).trans ((zI_ne _ _ (by omega)).trans hn))) hn3 (by rw [va_up_self]) (by rw [up2n (by decide), zR_ne _ _ (by omega)]; exact Chain.made ch _ hch hcz) (fun h => Nat.lt_irrefl _ (hcz _ h)) hnd (by rw [up2n (by decide), zR_self]) (fun R' hL => ?_))
                  exact V_iret dX11_send_162 rfl (by decide) (by decide) (q v i R' hv hi hvv hvi ⟨hc20, hc33, hn3, ⟨by rw [hvi]; exact nI_pos' (by omega), by rw [hvi]; exact (show nI i ≤ nI 7 from nI_le (by omega) (by decide))⟩, hc87⟩ (by rw [up2_ne _ _ _ (by decide)] at hL; exact hL))
                · refine V_const dX11_send_90 ?_
                  exact V_iret dX11_send_91 rfl (by decide) (by decide) (q0 (fun i hi e h => h.2.2.2.2 (by have e2 : i = v := (nI_eq (by omega) (by omega)).mp (e.symm.trans hvv); subst e2; exact hc87)))
          · rw [bI_n0, hn] at hc43
            refine V_const dX11_send_46 ?_
            exact V_iret dX11_send_47 rfl (by decide) (by decide) (q0 (fun i hi e h => absurd hc43 (nI_ge h.2.2.1 (by decide))))
end
section
-- THE REFERENCE: its cells; its first methods
/-- the reference at m: its arrays lie behind it, in the order in which they are made -/
def MSt (m : Nat) (t : TT) (R : MR) : Prop := (t m).1 = 13 ∧ (R 1205 m = some (m + 1) ∧ t (m + 1) = (20, 8)) ∧ (R 1206 m = some (m + 2) ∧ t (m + 2) = (20, 4)) ∧ (R 1207 m = some (m + 3) ∧ t (m + 3) = (20, 40)) ∧ (R 1208 m = some (m + 4) ∧ t (m + 4) = (20, 64)) ∧ (R 1209 m = some (m + 5) ∧ t (m + 5) = (20, 8)) ∧ (R 1210 m = some (m + 6) ∧ t (m + 6) = (20, 300)) ∧ (R 1211 m = some (m + 7) ∧ t (m + 7) = (20, 300)) ∧ (R 1212 m = some (m + 8) ∧ t (m + 8) = (20, 300)) ∧ (R 1213 m = some (m + 9) ∧ t (m + 9) = (20, 300)) ∧ (R 1214 m = some (m + 10) ∧ t (m + 10) = (20, 300)) ∧ (R 1215 m = some (m + 11) ∧ t (m + 11) = (20, 300)) ∧ (R 1216 m = some (m + 12) ∧ t (m + 12) = (20, 300)) ∧ (R 1217 m = some (m + 13) ∧ t (m + 13) = (20, 300)) ∧ (R 1218 m = some (m + 14) ∧ t (m + 14) = (20, 300)) ∧ (R 1219 m = some (m + 15) ∧ t (m + 15) = (20, 300)) ∧ (R 1220 m = some (m + 16) ∧ t (m + 16) = (20, 300)) ∧ (R 1221 m = some (m + 17) ∧ t (m + 17) = (20, 300)) ∧ (R 1222 m = some (m + 18) ∧ t (m + 18) = (20, 300)) ∧ (R 1223 m = some (m + 19) ∧ t (m + 19) = (20, 32)) ∧ (R 1224 m = some (m + 20) ∧ t (m + 20) = (20, 32)) ∧ (R 1225 m = some (m + 21) ∧ t (m + 21) = (20, 32)) ∧ (R 1226 m = some (m + 22) ∧ t (m + 22) = (20, 6432)) ∧ (R 1227 m = some (m + 23) ∧ t (m + 23) = (20, 300)) ∧ (R 1228 m = some (m + 24) ∧ t (m + 24) = (20, 300)) ∧ (R 1229 m = some (m + 25) ∧ t (m + 25) = (20, 4)) ∧ (R 1230 m = some (m + 26) ∧ t (m + 26) = (20, 220)) ∧ (R 1233 m = some (m + 27) ∧ t (m + 27) = (20, 10)) ∧ (R 1234 m = some (m + 28) ∧ t (m + 28) = (20, 440)) ∧ (R 1235 m = some (m + 29) ∧ t (m + 29) = (20, 440)) ∧ (R 1236 m = some (m + 30) ∧ t (m + 30) = (20, 440)) ∧ (R 1237 m = some (m + 31) ∧ t (m + 31) = (20, 440)) ∧ (R 1239 m = some (m + 32) ∧ t (m + 32) = (20, 5000)) ∧ (R 1240 m = some (m + 33) ∧ t (m + 33) = (20, 200)) ∧ (R 1241 m = some (m + 34) ∧ t (m + 34) = (20, 200)) ∧ (R 1242 m = some (m + 35) ∧ t (m + 35) = (20, 200))
theorem MSt.a1205 {m : Nat} {t : TT} {R : MR} (h : MSt m t R) : R 1205 m = some (m + 1) ∧ t (m + 1) = (20, 8) := h.2.1
theorem MSt.a1206 {m : Nat} {t : TT} {R : MR} (h : MSt m t R) : R 1206 m = some (m + 2) ∧ t (m + 2) = (20, 4) := h.2.2.1
theorem MSt.a1207 {m : Nat} {t : TT} {R : MR} (h : MSt m t R) : R 1207 m = some (m + 3) ∧ t (m + 3) = (20, 40) := h.2.2.2.1
theorem MSt.a1208 {m : Nat} {t : TT} {R : MR} (h : MSt m t R) : R 1208 m = some (m + 4) ∧ t (m + 4) = (20, 64) := h.2.2.2.2.1
theorem MSt.a1209 {m : Nat} {t : TT} {R : MR} (h : MSt m t R) : R 1209 m = some (m + 5) ∧ t (m + 5) = (20, 8) := h.2.2.2.2.2.1
theorem MSt.a1210 {m : Nat} {t : TT} {R : MR} (h : MSt m t R) : R 1210 m = some (m + 6) ∧ t (m + 6) = (20, 300) := h.2.2.2.2.2.2.1
theorem MSt.a1211 {m : Nat} {t : TT} {R : MR} (h : MSt m t R) : R 1211 m = some (m + 7) ∧ t (m + 7) = (20, 300) := h.2.2.2.2.2.2.2.1
theorem MSt.a1212 {m : Nat} {t : TT} {R : MR} (h : MSt m t R) : R 1212 m = some (m + 8) ∧ t (m + 8) = (20, 300) := h.2.2.2.2.2.2.2.2.1
theorem MSt.a1213 {m : Nat} {t : TT} {R : MR} (h : MSt m t R) : R 1213 m = some (m + 9) ∧ t (m + 9) = (20, 300) := h.2.2.2.2.2.2.2.2.2.1
theorem MSt.a1214 {m : Nat} {t : TT} {R : MR} (h : MSt m t R) : R 1214 m = some (m + 10) ∧ t (m + 10) = (20, 300) := h.2.2.2.2.2.2.2.2.2.2.1
theorem MSt.a1215 {m : Nat} {t : TT} {R : MR} (h : MSt m t R) : R 1215 m = some (m + 11) ∧ t (m + 11) = (20, 300) := h.2.2.2.2.2.2.2.2.2.2.2.1
theorem MSt.a1216 {m : Nat} {t : TT} {R : MR} (h : MSt m t R) : R 1216 m = some (m + 12) ∧ t (m + 12) = (20, 300) := h.2.2.2.2.2.2.2.2.2.2.2.2.1
theorem MSt.a1217 {m : Nat} {t : TT} {R : MR} (h : MSt m t R) : R 1217 m = some (m + 13) ∧ t (m + 13) = (20, 300) := h.2.2.2.2.2.2.2.2.2.2.2.2.2.1
theorem MSt.a1218 {m : Nat} {t : TT} {R : MR} (h : MSt m t R) : R 1218 m = some (m + 14) ∧ t (m + 14) = (20, 300) := h.2.2.2.2.2.2.2.2.2.2.2.2.2.2.1
theorem MSt.a1219 {m : Nat} {t : TT} {R : MR} (h : MSt m t R) : R 1219 m = some (m + 15) ∧ t (m + 15) = (20, 300) := h.2.2.2.2.2.2.2.2.2.2.2.2.2.2.2.1
theorem MSt.a1220 {m : Nat} {t : TT} {R : MR} (h : MSt m t R) : R 1220 m = some (m + 16) ∧ t (m + 16) = (20, 300) := h.2.2.2.2.2.2.2.2.2.2.2.2.2.2.2.2.1
theorem MSt.a1221 {m : Nat} {t : TT} {R : MR} (h : MSt m t R) : R 1221 m = some (m + 17) ∧ t (m + 17) = (20, 300) := h.2.2.2.2.2.2.2.2.2.2.2.2.2.2.2.2.2.1
theorem MSt.a1222 {m : Nat} {t : TT} {R : MR} (h : MSt m t R) : R 1222 m = some (m + 18) ∧ t (m + 18) = (20, 300) := h.2.2.2.2.2.2.2.2.2.2.2.2.2.2.2.2.2.2.1
theorem MSt.a1223 {m : Nat} {t : TT} {R : MR} (h : MSt m t R) : R 1223 m = some (m + 19) ∧ t (m + 19) = (20, 32) := h.2.2.2.2.2.2.2.2.2.2.2.2.2.2.2.2.2.2.2.1
theorem MSt.a1224 {m : Nat} {t : TT} {R : MR} (h : MSt m t R) : R 1224 m = some (m + 20) ∧ t (m + 20) = (20, 32) := h.2.2.2.2.2.2.2.2.2.2.2.2.2.2.2.2.2.2.2.2.1
theorem MSt.a1225 {m : Nat} {t : TT} {R : MR} (h : MSt m t R) : R 1225 m = some (m + 21) ∧ t (m + 21) = (20, 32) := h.2.2.2.2.2.2.2.2.2.2.2.2.2.2.2.2.2.2.2.2.2.1
theorem MSt.a1226 {m : Nat} {t : TT} {R : MR} (h : MSt m t R) : R 1226 m = some (m + 22) ∧ t (m + 22) = (20, 6432) := h.2.2.2.2.2.2.2.2.2.2.2.2.2.2.2.2.2.2.2.2.2.2.1
theorem MSt.a1227 {m : Nat} {t : TT} {R : MR} (h : MSt m t R) : R 1227 m = some (m + 23) ∧ t (m + 23) = (20, 300) := h.2.2.2.2.2.2.2.2.2.2.2.2.2.2.2.2.2.2.2.2.2.2.2.1
theorem MSt.a1228 {m : Nat} {t : TT} {R : MR} (h : MSt m t R) : R 1228 m = some (m + 24) ∧ t (m + 24) = (20, 300) := h.2.2.2.2.2.2.2.2.2.2.2.2.2.2.2.2.2.2.2.2.2.2.2.2.1
theorem MSt.a1229 {m : Nat} {t : TT} {R : MR} (h : MSt m t R) : R 1229 m = some (m + 25) ∧ t (m + 25) = (20, 4) := h.2.2.2.2.2.2.2.2.2.2.2.2.2.2.2.2.2.2.2.2.2.2.2.2.2.1
theorem MSt.a1230 {m : Nat} {t : TT} {R : MR} (h : MSt m t R) : R 1230 m = some (m + 26) ∧ t (m + 26) = (20, 220) := h.2.2.2.2.2.2.2.2.2.2.2.2.2.2.2.2.2.2.2.2.2.2.2.2.2.2.1
theorem MSt.a1233 {m : Nat} {t : TT} {R : MR} (h : MSt m t R) : R 1233 m = some (m + 27) ∧ t (m + 27) = (20, 10) := h.2.2.2.2.2.2.2.2.2.2.2.2.2.2.2.2.2.2.2.2.2.2.2.2.2.2.2.1
theorem MSt.a1234 {m : Nat} {t : TT} {R : MR} (h : MSt m t R) : R 1234 m = some (m + 28) ∧ t (m + 28) = (20, 440) := h.2.2.2.2.2.2.2.2.2.2.2.2.2.2.2.2.2.2.2.2.2.2.2.2.2.2.2.2.1
theorem MSt.a1235 {m : Nat} {t : TT} {R : MR} (h : MSt m t R) : R 1235 m = some (m + 29) ∧ t (m + 29) = (20, 440) := h.2.2.2.2.2.2.2.2.2.2.2.2.2.2.2.2.2.2.2.2.2.2.2.2.2.2.2.2.2.1
theorem MSt.a1236 {m : Nat} {t : TT} {R : MR} (h : MSt m t R) : R 1236 m = some (m + 30) ∧ t (m + 30) = (20, 440) := h.2.2.2.2.2.2.2.2.2.2.2.2.2.2.2.2.2.2.2.2.2.2.2.2.2.2.2.2.2.2.1
theorem MSt.a1237 {m : Nat} {t : TT} {R : MR} (h : MSt m t R) : R 1237 m = some (m + 31) ∧ t (m + 31) = (20, 440) := h.2.2.2.2.2.2.2.2.2.2.2.2.2.2.2.2.2.2.2.2.2.2.2.2.2.2.2.2.2.2.2.1
theorem MSt.a1239 {m : Nat} {t : TT} {R : MR} (h : MSt m t R) : R 1239 m = some (m + 32) ∧ t (m + 32) = (20, 5000) := h.2.2.2.2.2.2.2.2.2.2.2.2.2.2.2.2.2.2.2.2.2.2.2.2.2.2.2.2.2.2.2.2.1
theorem MSt.a1240 {m : Nat} {t : TT} {R : MR} (h : MSt m t R) : R 1240 m = some (m + 33) ∧ t (m + 33) = (20, 200) := h.2.2.2.2.2.2.2.2.2.2.2.2.2.2.2.2.2.2.2.2.2.2.2.2.2.2.2.2.2.2.2.2.2.1
theorem MSt.a1241 {m : Nat} {t : TT} {R : MR} (h : MSt m t R) : R 1241 m = some (m + 34) ∧ t (m + 34) = (20, 200) := h.2.2.2.2.2.2.2.2.2.2.2.2.2.2.2.2.2.2.2.2.2.2.2.2.2.2.2.2.2.2.2.2.2.2.1
theorem MSt.a1242 {m : Nat} {t : TT} {R : MR} (h : MSt m t R) : R 1242 m = some (m + 35) ∧ t (m + 35) = (20, 200) := h.2.2.2.2.2.2.2.2.2.2.2.2.2.2.2.2.2.2.2.2.2.2.2.2.2.2.2.2.2.2.2.2.2.2.2
theorem sem_X12_in {l : Launch} {D : va_G} {A : Nat → Prop} {z : Nat} {t : TT} {I : MI} {R : MR} {J : MI} {B : MR} {x lo hi : Int32} {Φ : PP}  (q : Φ (some (.int (bI (lo ≤ x ∧ x ≤ hi)))) z t I R J B) : Sem l D A 0 0 0 mX12_in [.int x, .int lo, .int hi] z t I R J B Φ := by
  refine Sem.run [some (.int x), some (.int lo), some (.int hi)] (by decide) rfl (ent_i (ent_i (ent_i ent_nil))) ?_
  refine V_iload dX12_in_0 rfl ?_
  refine V_iload dX12_in_1 rfl ?_
  refine V_icmp_lt dX12_in_2 (fun hc2 => ?_) (fun hc2 => ?_)
  · refine V_const dX12_in_14 ?_
    exact V_zret dX12_in_15 rfl (by first | exact Or.inl rfl | exact Or.inr rfl) (by decide) (by decide) (by rw [bI_f (by rw [i_le]; rw [i_lt] at hc2; omega)] at q; exact q)
  · refine V_iload dX12_in_5 rfl ?_
    refine V_iload dX12_in_6 rfl ?_
    refine V_icmp_gt dX12_in_7 (fun hc7 => ?_) (fun hc7 => ?_)
    · refine V_const dX12_in_14 ?_
      exact V_zret dX12_in_15 rfl (by first | exact Or.inl rfl | exact Or.inr rfl) (by decide) (by decide) (by rw [bI_f (by rw [i_le, i_le]; rw [i_lt] at hc7; omega)] at q; exact q)
    · refine V_const dX12_in_10 ?_
      refine V_goto dX12_in_11 ?_
      exact V_zret dX12_in_15 rfl (by first | exact Or.inl rfl | exact Or.inr rfl) (by decide) (by decide) (by rw [bI_t (by rw [i_le, i_le]; rw [i_lt] at hc7 hc2; omega)] at q; exact q)
theorem sem_X12_isPlace {l : Launch} {D : va_G} {A : Nat → Prop} {z : Nat} {t : TT} {I : MI} {R : MR} {J : MI} {B : MR} {x : Int32} {Φ : PP}  (q : Φ (some (.int (bI (0 ≤ x ∧ x ≤ 7)))) z t I R J B) : Sem l D A 1 0 0 mX12_isPlace [.int x] z t I R J B Φ := by
  refine Sem.run [some (.int x)] (by decide) rfl (ent_i ent_nil) ?_
  refine V_iload dX12_isPlace_0 rfl ?_
  refine V_const dX12_isPlace_1 ?_
  refine V_const dX12_isPlace_2 ?_
  refine V_invS (As := [_, _, _]) ms_X12_in lk_X12_115 dX12_isPlace_4 rfl rfl rfl (Nat.le_of_ble_eq_true rfl) ⟨⟨by decide, by decide⟩, by decide, by decide⟩ (sem_X12_in ?_)
  exact V_zret dX12_isPlace_7 rfl (bI_01 _) (by decide) (by decide) q
theorem sem_X12_isKind {l : Launch} {D : va_G} {A : Nat → Prop} {z : Nat} {t : TT} {I : MI} {R : MR} {J : MI} {B : MR} {x : Int32} {Φ : PP}  (q : Φ (some (.int (bI (0 ≤ x ∧ x ≤ 3)))) z t I R J B) : Sem l D A 1 0 0 mX12_isKind [.int x] z t I R J B Φ := by
  refine Sem.run [some (.int x)] (by decide) rfl (ent_i ent_nil) ?_
  refine V_iload dX12_isKind_0 rfl ?_
  refine V_const dX12_isKind_1 ?_
  refine V_const dX12_isKind_2 ?_
  refine V_invS (As := [_, _, _]) ms_X12_in lk_X12_115 dX12_isKind_3 rfl rfl rfl (Nat.le_of_ble_eq_true rfl) ⟨⟨by decide, by decide⟩, by decide, by decide⟩ (sem_X12_in ?_)
  exact V_zret dX12_isKind_6 rfl (bI_01 _) (by decide) (by decide) q
theorem sem_X12_isLot {l : Launch} {D : va_G} {A : Nat → Prop} {z : Nat} {t : TT} {I : MI} {R : MR} {J : MI} {B : MR} {m : Nat} {x : Int32} {Φ : PP} (hM : MSt m t R) (q : Φ (some (.int (bI (0 ≤ x ∧ x ≤ I 1201 m - 1)))) z t I R J B) : Sem l D A 1 0 0 mX12_isLot [va_rf (some m), .int x] z t I R J B Φ := by
  refine Sem.run [some (va_rf (some m)), some (.int x)] (by decide) rfl (ent_r (ent_i ent_nil)) ?_
  refine V_iload dX12_isLot_0 rfl ?_
  refine V_const dX12_isLot_1 ?_
  refine V_aload dX12_isLot_2 rfl ?_
  refine V_getI fk_X12_126 dX12_isLot_3 hM.1 ?_
  refine V_const dX12_isLot_6 ?_
  refine V_isub dX12_isLot_7 ?_
  refine V_invS (As := [_, _, _]) ms_X12_in lk_X12_115 dX12_isLot_8 rfl rfl rfl (Nat.le_of_ble_eq_true rfl) ⟨⟨by decide, by decide⟩, by decide, by decide⟩ (sem_X12_in ?_)
  exact V_zret dX12_isLot_11 rfl (bI_01 _) (by decide) (by decide) q
theorem sem_X12_men {l : Launch} {D : va_G} {A : Nat → Prop} {z : Nat} {t : TT} {I : MI} {R : MR} {J : MI} {B : MR} {m : Nat} {p n : Int32} {Φ : PP} (hM : MSt m t R) (q0 : ¬ ((0 ≤ p ∧ p ≤ 7) ∧ 0 ≤ n ∧ n ≤ 1000) → Φ (some (.int 0)) z t I R J B) (q : ∀ j, j < 8 → p = nI j → 0 ≤ n ∧ n ≤ 1000 → Φ (some (.int 1)) z t I R (up2 J (m + 1) j n) B) : Sem l D A 2 0 0 mX12_men [va_rf (some m), .int p, .int n] z t I R J B Φ := by
  refine Sem.run [some (va_rf (some m)), some (.int p), some (.int n)] (by decide) rfl (ent_r (ent_i (ent_i ent_nil))) ?_
  refine V_iload dX12_men_0 rfl ?_
  refine V_invS (As := [_]) ms_X12_isPlace lk_X12_119 dX12_men_1 rfl rfl rfl (Nat.le_of_ble_eq_true rfl) ⟨⟨by decide, by decide⟩, by decide, by decide⟩ (sem_X12_isPlace ?_)
  refine V_if_eq dX12_men_4 (fun hc4 => ?_) (fun hc4 => ?_)
  · rw [bI_0] at hc4
    refine V_const dX12_men_18 ?_
    exact V_zret dX12_men_19 rfl (by first | exact Or.inl rfl | exact Or.inr rfl) (by decide) (by decide) (q0 (fun h => hc4 h.1))
  · rw [bI_n0] at hc4
    obtain ⟨j, hj, hp⟩ := i_rng (N := 8) rfl hc4
    refine V_iload dX12_men_7 rfl ?_
    refine V_const dX12_men_8 ?_
    refine V_const dX12_men_9 ?_
    refine V_invS (As := [_, _, _]) ms_X12_in lk_X12_115 dX12_men_12 rfl rfl rfl (Nat.le_of_ble_eq_true rfl) ⟨⟨by decide, by decide⟩, by decide, by decide⟩ (sem_X12_in ?_)
    refine V_if_ne dX12_men_15 (fun hc15 => ?_) (fun hc15 => ?_)
    · rw [bI_n0] at hc15
      refine V_aload dX12_men_20 rfl ?_
      refine V_getRs fk_X12_9 dX12_men_21 hM.1 hM.a1205.1 ?_
      refine V_iload dX12_men_24 rfl ?_
      refine V_iload dX12_men_25 rfl ?_
      refine V_iast dX12_men_26 hM.a1205.2 hp hj (by decide) ?_
      refine V_const dX12_men_27 ?_
      exact V_zret dX12_men_28 rfl (by first | exact Or.inl rfl | exact Or.inr rfl) (by decide) (by decide) (q j hj hp hc15)
    · rw [bI_0] at hc15
      refine V_const dX12_men_18 ?_
      exact V_zret dX12_men_19 rfl (by first | exact Or.inl rfl | exact Or.inr rfl) (by decide) (by decide) (q0 (fun h => hc15 h.2))
theorem sem_X12_rations {l : Launch} {D : va_G} {A : Nat → Prop} {z : Nat} {t : TT} {I : MI} {R : MR} {J : MI} {B : MR} {m : Nat} {p n : Int32} {Φ : PP} (hM : MSt m t R) (q0 : ¬ ((0 ≤ p ∧ p ≤ 3) ∧ 1 ≤ n ∧ n ≤ 500) → Φ (some (.int 0)) z t I R J B) (q : ∀ j, j < 4 → p = nI j → 1 ≤ n ∧ n ≤ 500 → Φ (some (.int 1)) z t I R (up2 J (m + 2) j n) B) : Sem l D A 2 0 0 mX12_rations [va_rf (some m), .int p, .int n] z t I R J B Φ := by
  refine Sem.run [some (va_rf (some m)), some (.int p), some (.int n)] (by decide) rfl (ent_r (ent_i (ent_i ent_nil))) ?_
  refine V_iload dX12_rations_0 rfl ?_
  refine V_invS (As := [_]) ms_X12_isKind lk_X12_123 dX12_rations_1 rfl rfl rfl (Nat.le_of_ble_eq_true rfl) ⟨⟨by decide, by decide⟩, by decide, by decide⟩ (sem_X12_isKind ?_)
  refine V_if_eq dX12_rations_4 (fun hc4 => ?_) (fun hc4 => ?_)
  · rw [bI_0] at hc4
    refine V_const dX12_rations_18 ?_
    exact V_zret dX12_rations_19 rfl (by first | exact Or.inl rfl | exact Or.inr rfl) (by decide) (by decide) (q0 (fun h => hc4 h.1))
  · rw [bI_n0] at hc4
    obtain ⟨j, hj, hp⟩ := i_rng (N := 4) rfl hc4
    refine V_iload dX12_rations_7 rfl ?_
    refine V_const dX12_rations_8 ?_
    refine V_const dX12_rations_9 ?_
    refine V_invS (As := [_, _, _]) ms_X12_in lk_X12_115 dX12_rations_12 rfl rfl rfl (Nat.le_of_ble_eq_true rfl) ⟨⟨by decide, by decide⟩, by decide, by decide⟩ (sem_X12_in ?_)
    refine V_if_ne dX12_rations_15 (fun hc15 => ?_) (fun hc15 => ?_)
    · rw [bI_n0] at hc15
      refine V_aload dX12_rations_20 rfl ?_
      refine V_getRs fk_X12_13 dX12_rations_21 hM.1 hM.a1206.1 ?_
      refine V_iload dX12_rations_24 rfl ?_
      refine V_iload dX12_rations_25 rfl ?_
      refine V_iast dX12_rations_26 hM.a1206.2 hp hj (by decide) ?_
      refine V_const dX12_rations_27 ?_
      exact V_zret dX12_rations_28 rfl (by first | exact Or.inl rfl | exact Or.inr rfl) (by decide) (by decide) (q j hj hp hc15)
    · rw [bI_0] at hc15
      refine V_const dX12_rations_18 ?_
      exact V_zret dX12_rations_19 rfl (by first | exact Or.inl rfl | exact Or.inr rfl) (by decide) (by decide) (q0 (fun h => hc15 h.2))
theorem sem_X12_lag {l : Launch} {D : va_G} {A : Nat → Prop} {z : Nat} {t : TT} {I : MI} {R : MR} {J : MI} {B : MR} {m : Nat} {p n : Int32} {Φ : PP} (hM : MSt m t R) (q0 : ¬ ((0 ≤ p ∧ p ≤ 7) ∧ 0 ≤ n ∧ n ≤ 30) → Φ (some (.int 0)) z t I R J B) (q : ∀ j, j < 8 → p = nI j → 0 ≤ n ∧ n ≤ 30 → Φ (some (.int 1)) z t I R (up2 J (m + 5) j n) B) : Sem l D A 2 0 0 mX12_lag [va_rf (some m), .int p, .int n] z t I R J B Φ := by
  refine Sem.run [some (va_rf (some m)), some (.int p), some (.int n)] (by decide) rfl (ent_r (ent_i (ent_i ent_nil))) ?_
  refine V_iload dX12_lag_0 rfl ?_
  refine V_invS (As := [_]) ms_X12_isPlace lk_X12_119 dX12_lag_1 rfl rfl rfl (Nat.le_of_ble_eq_true rfl) ⟨⟨by decide, by decide⟩, by decide, by decide⟩ (sem_X12_isPlace ?_)
  refine V_if_eq dX12_lag_4 (fun hc4 => ?_) (fun hc4 => ?_)
  · rw [bI_0] at hc4
    refine V_const dX12_lag_17 ?_
    exact V_zret dX12_lag_18 rfl (by first | exact Or.inl rfl | exact Or.inr rfl) (by decide) (by decide) (q0 (fun h => hc4 h.1))
  · rw [bI_n0] at hc4
    obtain ⟨j, hj, hp⟩ := i_rng (N := 8) rfl hc4
    refine V_iload dX12_lag_7 rfl ?_
    refine V_const dX12_lag_8 ?_
    refine V_const dX12_lag_9 ?_
    refine V_invS (As := [_, _, _]) ms_X12_in lk_X12_115 dX12_lag_11 rfl rfl rfl (Nat.le_of_ble_eq_true rfl) ⟨⟨by decide, by decide⟩, by decide, by decide⟩ (sem_X12_in ?_)
    refine V_if_ne dX12_lag_14 (fun hc14 => ?_) (fun hc14 => ?_)
    · rw [bI_n0] at hc14
      refine V_aload dX12_lag_19 rfl ?_
      refine V_getRs fk_X12_22 dX12_lag_20 hM.1 hM.a1209.1 ?_
      refine V_iload dX12_lag_23 rfl ?_
      refine V_iload dX12_lag_24 rfl ?_
      refine V_iast dX12_lag_25 hM.a1209.2 hp hj (by decide) ?_
      refine V_const dX12_lag_26 ?_
      exact V_zret dX12_lag_27 rfl (by first | exact Or.inl rfl | exact Or.inr rfl) (by decide) (by decide) (q j hj hp hc14)
    · rw [bI_0] at hc14
      refine V_const dX12_lag_17 ?_
      exact V_zret dX12_lag_18 rfl (by first | exact Or.inl rfl | exact Or.inr rfl) (by decide) (by decide) (q0 (fun h => hc14 h.2))
theorem sem_X12_spoils {l : Launch} {D : va_G} {A : Nat → Prop} {z : Nat} {t : TT} {I : MI} {R : MR} {J : MI} {B : MR} {m : Nat} {p a n : Int32} {Φ : PP} (hM : MSt m t R) (q0 : ¬ ((0 ≤ p ∧ p ≤ 3) ∧ (0 ≤ a ∧ a ≤ 9) ∧ 0 ≤ n ∧ n ≤ 1000) → Φ (some (.int 0)) z t I R J B) (q : ∀ j i, j < 4 → i < 10 → p = nI j → a = nI i → 0 ≤ n ∧ n ≤ 1000 → Φ (some (.int 1)) z t I R (up2 J (m + 3) (10 * j + i) n) B) : Sem l D A 2 0 0 mX12_spoils [va_rf (some m), .int p, .int a, .int n] z t I R J B Φ := by
  refine Sem.run [some (va_rf (some m)), some (.int p), some (.int a), some (.int n)] (by decide) rfl (ent_r (ent_i (ent_i (ent_i ent_nil)))) ?_
  refine V_iload dX12_spoils_0 rfl ?_
  refine V_invS (As := [_]) ms_X12_isKind lk_X12_123 dX12_spoils_1 rfl rfl rfl (Nat.le_of_ble_eq_true rfl) ⟨⟨by decide, by decide⟩, by decide, by decide⟩ (sem_X12_isKind ?_)
  refine V_if_eq dX12_spoils_4 (fun hc4 => ?_) (fun hc4 => ?_)
  · rw [bI_0] at hc4
    refine V_const dX12_spoils_28 ?_
    exact V_zret dX12_spoils_29 rfl (by first | exact Or.inl rfl | exact Or.inr rfl) (by decide) (by decide) (q0 (fun h => hc4 h.1))
  · rw [bI_n0] at hc4
    obtain ⟨j, hj, hp⟩ := i_rng (N := 4) rfl hc4
    refine V_iload dX12_spoils_7 rfl ?_
    refine V_const dX12_spoils_8 ?_
    refine V_const dX12_spoils_9 ?_
    refine V_invS (As := [_, _, _]) ms_X12_in lk_X12_115 dX12_spoils_11 rfl rfl rfl (Nat.le_of_ble_eq_true rfl) ⟨⟨by decide, by decide⟩, by decide, by decide⟩ (sem_X12_in ?_)
    refine V_if_eq dX12_spoils_14 (fun hc14 => ?_) (fun hc14 => ?_)
    · rw [bI_0] at hc14
      refine V_const dX12_spoils_28 ?_
      exact V_zret dX12_spoils_29 rfl (by first | exact Or.inl rfl | exact Or.inr rfl) (by decide) (by decide) (q0 (fun h => hc14 h.2.1))
    · rw [bI_n0] at hc14
      obtain ⟨i, hi, ha⟩ := i_rng (N := 10) rfl hc14
      refine V_iload dX12_spoils_17 rfl ?_
      refine V_const dX12_spoils_18 ?_
      refine V_const dX12_spoils_19 ?_
      refine V_invS (As := [_, _, _]) ms_X12_in lk_X12_115 dX12_spoils_22 rfl rfl rfl (Nat.le_of_ble_eq_true rfl) ⟨⟨by decide, by decide⟩, by decide, by decide⟩ (sem_X12_in ?_)
      refine V_if_ne dX12_spoils_25 (fun hc25 => ?_) (fun hc25 => ?_)
      · rw [bI_n0] at hc25
        refine V_aload dX12_spoils_30 rfl ?_
        refine V_getRs fk_X12_16 dX12_spoils_31 hM.1 hM.a1207.1 ?_
        refine V_const dX12_spoils_34 ?_
        refine V_iload dX12_spoils_36 rfl ?_
        refine V_imul dX12_spoils_37 ?_
        refine V_iload dX12_spoils_38 rfl ?_
        refine V_iadd dX12_spoils_39 ?_
        refine V_iload dX12_spoils_40 rfl ?_
        refine V_iast dX12_spoils_41 hM.a1207.2 (i := 10 * j + i) (by rw [hp, ha, show (10 : Int32) = nI 10 from rfl, pk_mul, nI_add]) (by omega) (by decide) ?_
        refine V_const dX12_spoils_42 ?_
        exact V_zret dX12_spoils_43 rfl (by first | exact Or.inl rfl | exact Or.inr rfl) (by decide) (by decide) (q j i hj hi hp ha hc25)
      · rw [bI_0] at hc25
        refine V_const dX12_spoils_28 ?_
        exact V_zret dX12_spoils_29 rfl (by first | exact Or.inl rfl | exact Or.inr rfl) (by decide) (by decide) (q0 (fun h => hc25 h.2.2))
theorem sem_X12_way {l : Launch} {D : va_G} {A : Nat → Prop} {z : Nat} {t : TT} {I : MI} {R : MR} {J : MI} {B : MR} {m : Nat} {a b w : Int32} {Φ : PP} (hM : MSt m t R) (q0 : ¬ ((0 ≤ a ∧ a ≤ 7) ∧ (0 ≤ b ∧ b ≤ 7) ∧ a ≠ b ∧ 0 ≤ w ∧ w ≤ 30) → Φ (some (.int 0)) z t I R J B) (q : ∀ i j, i < 8 → j < 8 → i ≠ j → a = nI i → b = nI j → 0 ≤ w ∧ w ≤ 30 → Φ (some (.int 1)) z t I R (up2 (up2 J (m + 4) (8 * i + j) w) (m + 4) (8 * j + i) w) B) : Sem l D A 2 0 0 mX12_way [va_rf (some m), .int a, .int b, .int w] z t I R J B Φ := by
  refine Sem.run [some (va_rf (some m)), some (.int a), some (.int b), some (.int w)] (by decide) rfl (ent_r (ent_i (ent_i (ent_i ent_nil)))) ?_
  refine V_iload dX12_way_0 rfl ?_
  refine V_invS (As := [_]) ms_X12_isPlace lk_X12_119 dX12_way_1 rfl rfl rfl (Nat.le_of_ble_eq_true rfl) ⟨⟨by decide, by decide⟩, by decide, by decide⟩ (sem_X12_isPlace ?_)
  refine V_if_eq dX12_way_4 (fun hc4 => ?_) (fun hc4 => ?_)
  · rw [bI_0] at hc4
    refine V_const dX12_way_29 ?_
    exact V_zret dX12_way_30 rfl (by first | exact Or.inl rfl | exact Or.inr rfl) (by decide) (by decide) (q0 (fun h => hc4 h.1))
  · rw [bI_n0] at hc4
    obtain ⟨i, hi, ha⟩ := i_rng (N := 8) rfl hc4
    refine V_iload dX12_way_7 rfl ?_
    refine V_invS (As := [_]) ms_X12_isPlace lk_X12_119 dX12_way_8 rfl rfl rfl (Nat.le_of_ble_eq_true rfl) ⟨⟨by decide, by decide⟩, by decide, by decide⟩ (sem_X12_isPlace ?_)
    refine V_if_eq dX12_way_11 (fun hc11 => ?_) (fun hc11 => ?_)
    · rw [bI_0] at hc11
      refine V_const dX12_way_29 ?_
      exact V_zret dX12_way_30 rfl (by first | exact Or.inl rfl | exact Or.inr rfl) (by decide) (by decide) (q0 (fun h => hc11 h.2.1))
    · rw [bI_n0] at hc11
      obtain ⟨j, hj, hb⟩ := i_rng (N := 8) rfl hc11
      refine V_iload dX12_way_14 rfl ?_
      refine V_iload dX12_way_15 rfl ?_
      refine V_icmp_eq dX12_way_16 (fun hc16 => ?_) (fun hc16 => ?_)
      · refine V_const dX12_way_29 ?_
        exact V_zret dX12_way_30 rfl (by first | exact Or.inl rfl | exact Or.inr rfl) (by decide) (by decide) (q0 (fun h => h.2.2.1 hc16))
      · refine V_iload dX12_way_19 rfl ?_
        refine V_const dX12_way_20 ?_
        refine V_const dX12_way_21 ?_
        refine V_invS (As := [_, _, _]) ms_X12_in lk_X12_115 dX12_way_23 rfl rfl rfl (Nat.le_of_ble_eq_true rfl) ⟨⟨by decide, by decide⟩, by decide, by decide⟩ (sem_X12_in ?_)
        refine V_if_ne dX12_way_26 (fun hc26 => ?_) (fun hc26 => ?_)
        · rw [bI_n0] at hc26
          refine V_aload dX12_way_31 rfl ?_
          refine V_getRs fk_X12_19 dX12_way_32 hM.1 hM.a1208.1 ?_
          refine V_const dX12_way_35 ?_
          refine V_iload dX12_way_37 rfl ?_
          refine V_imul dX12_way_38 ?_
          refine V_iload dX12_way_39 rfl ?_
          refine V_iadd dX12_way_40 ?_
          refine V_iload dX12_way_41 rfl ?_
          refine V_iast dX12_way_42 hM.a1208.2 (i := 8 * i + j) (by rw [ha, hb, show (8 : Int32) = nI 8 from rfl, pk_mul, nI_add]) (by omega) (by decide) ?_
          refine V_aload dX12_way_43 rfl ?_
          refine V_getRs fk_X12_19 dX12_way_44 hM.1 hM.a1208.1 ?_
          refine V_const dX12_way_47 ?_
          refine V_iload dX12_way_49 rfl ?_
          refine V_imul dX12_way_50 ?_
          refine V_iload dX12_way_51 rfl ?_
          refine V_iadd dX12_way_52 ?_
          refine V_iload dX12_way_53 rfl ?_
          refine V_iast dX12_way_54 hM.a1208.2 (i := 8 * j + i) (by rw [ha, hb, show (8 : Int32) = nI 8 from rfl, pk_mul, nI_add]) (by omega) (by decide) ?_
          refine V_const dX12_way_55 ?_
          exact V_zret dX12_way_56 rfl (by first | exact Or.inl rfl | exact Or.inr rfl) (by decide) (by decide) (q i j hi hj (fun e => hc16 (by rw [ha, hb, e])) ha hb hc26)
        · rw [bI_0] at hc26
          refine V_const dX12_way_29 ?_
          exact V_zret dX12_way_30 rfl (by first | exact Or.inl rfl | exact Or.inr rfl) (by decide) (by decide) (q0 (fun h => hc26 h.2.2.2))
end
section
-- THE REFERENCE: lots
def addJ (J : MI) (m l : Nat) (mk k wk n p cm g mr : Int32) : MI := up2 (up2 (up2 (up2 (up2 (up2 (up2 (up2 (up2 (up2 J (m + 6) l mk) (m + 7) l k) (m + 8) l wk) (m + 9) l n) (m + 10) l p) (m + 11) l cm) (m + 12) l g) (m + 13) l mr) (m + 14) l n) (m + 16) l (-1)
theorem sem_X12_addLot {l : Launch} {D : va_G} {A : Nat → Prop} {z : Nat} {t : TT} {I : MI} {R : MR} {J : MI} {B : MR} {m l9 : Nat} {mk k wk n p cm g of : Int32} {Φ : PP} (hM : MSt m t R) (hl : I 1201 m = nI l9) (hl2 : l9 < 300) (q : Φ (some (.int (nI l9))) z t (up2 I 1201 m (nI (l9 + 1))) R (addJ J m l9 mk k wk n p cm g (if of = -1 then nI l9 else of)) B) : Sem l D A 0 0 0 mX12_addLot [va_rf (some m), .int mk, .int k, .int wk, .int n, .int p, .int cm, .int g, .int of] z t I R J B Φ := by
  refine Sem.run [some (va_rf (some m)), some (.int mk), some (.int k), some (.int wk), some (.int n), some (.int p), some (.int cm), some (.int g), some (.int of), none] (by decide) rfl (ent_r (ent_i (ent_i (ent_i (ent_i (ent_i (ent_i (ent_i (ent_i (ent_none ent_nil)))))))))) ?_
  refine V_aload dX12_addLot_0 rfl ?_
  refine V_getIs fk_X12_126 dX12_addLot_1 hM.1 hl ?_
  refine V_is9 dX12_addLot_4 (by decide) (noL_i _) ?_
  refine V_aload dX12_addLot_6 rfl ?_
  refine V_dupr dX12_addLot_7 ?_
  refine V_getIs fk_X12_126 dX12_addLot_8 hM.1 hl ?_
  refine V_const dX12_addLot_11 ?_
  refine V_iadd dX12_addLot_12 ?_
  refine V_putI fk_X12_126 (Or.inl rfl) rfl rfl dX12_addLot_13 hM.1 ?_
  refine V_aload dX12_addLot_16 rfl ?_
  refine V_getRs fk_X12_25 dX12_addLot_17 hM.1 hM.a1210.1 ?_
  refine V_iload dX12_addLot_20 rfl ?_
  refine V_iload dX12_addLot_22 rfl ?_
  refine V_iast dX12_addLot_23 hM.a1210.2 rfl (by omega) (by decide) ?_
  refine V_aload dX12_addLot_24 rfl ?_
  refine V_getRs fk_X12_28 dX12_addLot_25 hM.1 hM.a1211.1 ?_
  refine V_iload dX12_addLot_28 rfl ?_
  refine V_iload dX12_addLot_30 rfl ?_
  refine V_iast dX12_addLot_31 hM.a1211.2 rfl (by omega) (by decide) ?_
  refine V_aload dX12_addLot_32 rfl ?_
  refine V_getRs fk_X12_31 dX12_addLot_33 hM.1 hM.a1212.1 ?_
  refine V_iload dX12_addLot_36 rfl ?_
  refine V_iload dX12_addLot_38 rfl ?_
  refine V_iast dX12_addLot_39 hM.a1212.2 rfl (by omega) (by decide) ?_
  refine V_aload dX12_addLot_40 rfl ?_
  refine V_getRs fk_X12_34 dX12_addLot_41 hM.1 hM.a1213.1 ?_
  refine V_iload dX12_addLot_44 rfl ?_
  refine V_iload dX12_addLot_46 rfl ?_
  refine V_iast dX12_addLot_48 hM.a1213.2 rfl (by omega) (by decide) ?_
  refine V_aload dX12_addLot_49 rfl ?_
  refine V_getRs fk_X12_37 dX12_addLot_50 hM.1 hM.a1214.1 ?_
  refine V_iload dX12_addLot_53 rfl ?_
  refine V_iload dX12_addLot_55 rfl ?_
  refine V_iast dX12_addLot_57 hM.a1214.2 rfl (by omega) (by decide) ?_
  refine V_aload dX12_addLot_58 rfl ?_
  refine V_getRs fk_X12_40 dX12_addLot_59 hM.1 hM.a1215.1 ?_
  refine V_iload dX12_addLot_62 rfl ?_
  refine V_iload dX12_addLot_64 rfl ?_
  refine V_iast dX12_addLot_66 hM.a1215.2 rfl (by omega) (by decide) ?_
  refine V_aload dX12_addLot_67 rfl ?_
  refine V_getRs fk_X12_43 dX12_addLot_68 hM.1 hM.a1216.1 ?_
  refine V_iload dX12_addLot_71 rfl ?_
  refine V_iload dX12_addLot_73 rfl ?_
  refine V_iast dX12_addLot_75 hM.a1216.2 rfl (by omega) (by decide) ?_
  refine V_aload dX12_addLot_76 rfl ?_
  refine V_getRs fk_X12_46 dX12_addLot_77 hM.1 hM.a1217.1 ?_
  refine V_iload dX12_addLot_80 rfl ?_
  refine V_iload dX12_addLot_82 rfl ?_
  refine V_const dX12_addLot_84 ?_
  refine V_icmp_ne dX12_addLot_85 (fun hc85 => ?_) (fun hc85 => ?_)
  · refine V_iload dX12_addLot_93 rfl ?_
    refine V_iast dX12_addLot_95 hM.a1217.2 rfl (by omega) (by decide) ?_
    refine V_aload dX12_addLot_96 rfl ?_
    refine V_getRs fk_X12_49 dX12_addLot_97 hM.1 hM.a1218.1 ?_
    refine V_iload dX12_addLot_100 rfl ?_
    refine V_iload dX12_addLot_102 rfl ?_
    refine V_iast dX12_addLot_104 hM.a1218.2 rfl (by omega) (by decide) ?_
    refine V_aload dX12_addLot_105 rfl ?_
    refine V_getRs fk_X12_55 dX12_addLot_106 hM.1 hM.a1220.1 ?_
    refine V_iload dX12_addLot_109 rfl ?_
    refine V_const dX12_addLot_111 ?_
    refine V_iast dX12_addLot_112 hM.a1220.2 rfl (by omega) (by decide) ?_
    refine V_iload dX12_addLot_113 rfl ?_
    exact V_iret dX12_addLot_115 rfl (by decide) (by decide) (by rw [if_neg hc85, ← nI_1] at q; exact q)
  · refine V_iload dX12_addLot_88 rfl ?_
    refine V_goto dX12_addLot_90 ?_
    refine V_iast dX12_addLot_95 hM.a1217.2 rfl (by omega) (by decide) ?_
    refine V_aload dX12_addLot_96 rfl ?_
    refine V_getRs fk_X12_49 dX12_addLot_97 hM.1 hM.a1218.1 ?_
    refine V_iload dX12_addLot_100 rfl ?_
    refine V_iload dX12_addLot_102 rfl ?_
    refine V_iast dX12_addLot_104 hM.a1218.2 rfl (by omega) (by decide) ?_
    refine V_aload dX12_addLot_105 rfl ?_
    refine V_getRs fk_X12_55 dX12_addLot_106 hM.1 hM.a1220.1 ?_
    refine V_iload dX12_addLot_109 rfl ?_
    refine V_const dX12_addLot_111 ?_
    refine V_iast dX12_addLot_112 hM.a1220.2 rfl (by omega) (by decide) ?_
    refine V_iload dX12_addLot_113 rfl ?_
    exact V_iret dX12_addLot_115 rfl (by decide) (by decide) (by rw [if_pos hc85, ← nI_1] at q; exact q)
theorem sem_X12_buy {l : Launch} {D : va_G} {A : Nat → Prop} {z : Nat} {t : TT} {I : MI} {R : MR} {J : MI} {B : MR} {m n : Nat} {p mk k c g pr : Int32} {Φ : PP} (hM : MSt m t R) (hn : I 1201 m = nI n) (hn2 : n ≤ 300) (q0 : ¬ buyOk p mk k c g pr n → Φ (some (.int (-1))) z t I R J B) (q : buyOk p mk k c g pr n → Φ (some (.int (nI n))) z t (up2 (up2 I 1201 m (nI (n + 1))) 1202 m (I 1202 m + c)) R (up2 (addJ J m n mk k (I 1200 m) c p (-1) g (nI n)) (m + 15) n pr) B) : Sem l D A 2 0 0 mX12_buy [va_rf (some m), .int p, .int mk, .int k, .int c, .int g, .int pr] z t I R J B Φ := by
  refine Sem.run [some (va_rf (some m)), some (.int p), some (.int mk), some (.int k), some (.int c), some (.int g), some (.int pr), none] (by decide) rfl (ent_r (ent_i (ent_i (ent_i (ent_i (ent_i (ent_i (ent_none ent_nil)))))))) ?_
  refine V_iload dX12_buy_0 rfl ?_
  refine V_invS (As := [_]) ms_X12_isPlace lk_X12_119 dX12_buy_1 rfl rfl rfl (Nat.le_of_ble_eq_true rfl) ⟨⟨by decide, by decide⟩, by decide, by decide⟩ (sem_X12_isPlace ?_)
  refine V_if_eq dX12_buy_4 (fun hc4 => ?_) (fun hc4 => ?_)
  · rw [bI_0] at hc4
    refine V_const dX12_buy_68 ?_
    exact V_iret dX12_buy_69 rfl (by decide) (by decide) (q0 (fun h => hc4 h.1))
  · rw [bI_n0] at hc4
    refine V_iload dX12_buy_7 rfl ?_
    refine V_const dX12_buy_8 ?_
    refine V_const dX12_buy_9 ?_
    refine V_invS (As := [_, _, _]) ms_X12_in lk_X12_115 dX12_buy_11 rfl rfl rfl (Nat.le_of_ble_eq_true rfl) ⟨⟨by decide, by decide⟩, by decide, by decide⟩ (sem_X12_in ?_)
    refine V_if_eq dX12_buy_14 (fun hc14 => ?_) (fun hc14 => ?_)
    · rw [bI_0] at hc14
      refine V_const dX12_buy_68 ?_
      exact V_iret dX12_buy_69 rfl (by decide) (by decide) (q0 (fun h => hc14 h.2.1))
    · rw [bI_n0] at hc14
      refine V_iload dX12_buy_17 rfl ?_
      refine V_invS (As := [_]) ms_X12_isKind lk_X12_123 dX12_buy_18 rfl rfl rfl (Nat.le_of_ble_eq_true rfl) ⟨⟨by decide, by decide⟩, by decide, by decide⟩ (sem_X12_isKind ?_)
      refine V_if_eq dX12_buy_21 (fun hc21 => ?_) (fun hc21 => ?_)
      · rw [bI_0] at hc21
        refine V_const dX12_buy_68 ?_
        exact V_iret dX12_buy_69 rfl (by decide) (by decide) (q0 (fun h => hc21 h.2.2.1))
      · rw [bI_n0] at hc21
        refine V_iload dX12_buy_24 rfl ?_
        refine V_const dX12_buy_26 ?_
        refine V_const dX12_buy_27 ?_
        refine V_invS (As := [_, _, _]) ms_X12_in lk_X12_115 dX12_buy_30 rfl rfl rfl (Nat.le_of_ble_eq_true rfl) ⟨⟨by decide, by decide⟩, by decide, by decide⟩ (sem_X12_in ?_)
        refine V_if_eq dX12_buy_33 (fun hc33 => ?_) (fun hc33 => ?_)
        · rw [bI_0] at hc33
          refine V_const dX12_buy_68 ?_
          exact V_iret dX12_buy_69 rfl (by decide) (by decide) (q0 (fun h => hc33 h.2.2.2.1))
        · rw [bI_n0] at hc33
          refine V_iload dX12_buy_36 rfl ?_
          refine V_const dX12_buy_38 ?_
          refine V_const dX12_buy_39 ?_
          refine V_invS (As := [_, _, _]) ms_X12_in lk_X12_115 dX12_buy_41 rfl rfl rfl (Nat.le_of_ble_eq_true rfl) ⟨⟨by decide, by decide⟩, by decide, by decide⟩ (sem_X12_in ?_)
          refine V_if_eq dX12_buy_44 (fun hc44 => ?_) (fun hc44 => ?_)
          · rw [bI_0] at hc44
            refine V_const dX12_buy_68 ?_
            exact V_iret dX12_buy_69 rfl (by decide) (by decide) (q0 (fun h => hc44 h.2.2.2.2.1))
          · rw [bI_n0] at hc44
            refine V_iload dX12_buy_47 rfl ?_
            refine V_const dX12_buy_49 ?_
            refine V_ldc kk_X12_130 dX12_buy_50 ?_
            refine V_invS (As := [_, _, _]) ms_X12_in lk_X12_115 dX12_buy_52 rfl rfl rfl (Nat.le_of_ble_eq_true rfl) ⟨⟨by decide, by decide⟩, by decide, by decide⟩ (sem_X12_in ?_)
            refine V_if_eq dX12_buy_55 (fun hc55 => ?_) (fun hc55 => ?_)
            · rw [bI_0] at hc55
              refine V_const dX12_buy_68 ?_
              exact V_iret dX12_buy_69 rfl (by decide) (by decide) (q0 (fun h => hc55 h.2.2.2.2.2.1))
            · rw [bI_n0] at hc55
              refine V_aload dX12_buy_58 rfl ?_
              refine V_getIs fk_X12_126 dX12_buy_59 hM.1 hn ?_
              refine V_const dX12_buy_62 ?_
              refine V_icmp_ne dX12_buy_65 (fun hc65 => ?_) (fun hc65 => ?_)
              · have hn3 : n < 300 := by
                  rcases Nat.lt_or_ge n 300 with h | h
                  · exact h
                  · exact absurd (show nI n = nI 300 by rw [show n = 300 by omega]) hc65
                refine V_aload dX12_buy_70 rfl ?_
                refine V_iload dX12_buy_71 rfl ?_
                refine V_iload dX12_buy_72 rfl ?_
                refine V_aload dX12_buy_73 rfl ?_
                refine V_getI fk_X12_131 dX12_buy_74 hM.1 ?_
                refine V_iload dX12_buy_77 rfl ?_
                refine V_iload dX12_buy_79 rfl ?_
                refine V_const dX12_buy_80 ?_
                refine V_iload dX12_buy_81 rfl ?_
                refine V_const dX12_buy_83 ?_
                refine V_invV (As := [_, _, _, _, _, _, _, _]) mv_X12_addLot lk_X12_134 dX12_buy_84 (c := 12) (by decide) rfl rfl hM.1 rfl rfl (Nat.le_of_ble_eq_true rfl) ⟨⟨by decide, by decide⟩, by decide, by decide⟩ (sem_X12_addLot hM hn hn3 ?_)
                rw [if_pos rfl]
                refine V_is7 dX12_buy_87 (by decide) (noL_i _) ?_
                refine V_aload dX12_buy_89 rfl ?_
                refine V_getRs fk_X12_52 dX12_buy_90 hM.1 hM.a1219.1 ?_
                refine V_iload dX12_buy_93 rfl ?_
                refine V_iload dX12_buy_95 rfl ?_
                refine V_iast dX12_buy_97 hM.a1219.2 rfl (by omega) (by decide) ?_
                refine V_aload dX12_buy_98 rfl ?_
                refine V_dupr dX12_buy_99 ?_
                refine V_getIs fk_X12_138 dX12_buy_100 hM.1 (up2n (by decide)) ?_
                refine V_iload dX12_buy_103 rfl ?_
                refine V_iadd dX12_buy_105 ?_
                refine V_putI fk_X12_138 (Or.inl rfl) rfl rfl dX12_buy_106 hM.1 ?_
                refine V_iload dX12_buy_109 rfl ?_
                exact V_iret dX12_buy_111 rfl (by decide) (by decide) (q ⟨hc4, hc14, hc21, hc33, hc44, hc55, hn3⟩)
              · refine V_const dX12_buy_68 ?_
                exact V_iret dX12_buy_69 rfl (by decide) (by decide) (q0 (fun h => by have e : n = 300 := (nI_eq (by omega) (by omega)).mp (show nI n = nI 300 from hc65); have := h.2.2.2.2.2.2; omega))
def sendM (J : MI) (m l n : Nat) (to c : Int32) : Prop := J (m + 11) l = -1 ∧ (1 ≤ c ∧ c ≤ J (m + 9) l) ∧ n < 300 ∧ (0 ≤ to ∧ to ≤ 7) ∧ to ≠ J (m + 10) l
set_option maxHeartbeats 4000000 in
theorem sem_X12_send {l : Launch} {D : va_G} {A : Nat → Prop} {z : Nat} {t : TT} {I : MI} {R : MR} {J : MI} {B : MR} {m n : Nat} {lt to c : Int32} {Φ : PP} (hM : MSt m t R) (hn : I 1201 m = nI n) (hn2 : n ≤ 300) (hpl : ∀ l, l < n → ∃ p, p < 8 ∧ J (m + 10) l = nI p) (hmr : ∀ l, l < n → J (m + 13) l ≠ -1) (q0 : (∀ l, l < n → lt = nI l → ¬ sendM J m l n to c) → Φ (some (.int (-1))) z t I R J B) (q : ∀ l i p, l < n → i < 8 → p < 8 → lt = nI l → to = nI i → J (m + 10) l = nI p → sendM J m l n to c → Φ (some (.int (nI n))) z t (up2 I 1201 m (nI (n + 1))) R (addJ (up2 J (m + 9) l (J (m + 9) l - c)) m n (J (m + 6) l) (J (m + 7) l) (J (m + 8) l) c to (I 1200 m + J (m + 4) (8 * p + i)) (J (m + 12) l) (J (m + 13) l)) B) : Sem l D A 2 0 0 mX12_send [va_rf (some m), .int lt, .int to, .int c] z t I R J B Φ := by
  refine Sem.run [some (va_rf (some m)), some (.int lt), some (.int to), some (.int c)] (by decide) rfl (ent_r (ent_i (ent_i (ent_i ent_nil)))) ?_
  refine V_aload dX12_send_0 rfl ?_
  refine V_iload dX12_send_1 rfl ?_
  refine V_invV (As := [_]) mv_X12_isLot lk_X12_141 dX12_send_2 (c := 12) (by decide) rfl rfl hM.1 rfl rfl (Nat.le_of_ble_eq_true rfl) ⟨⟨by decide, by decide⟩, by decide, by decide⟩ (sem_X12_isLot hM ?_)
  refine V_if_eq dX12_send_5 (fun hc5 => ?_) (fun hc5 => ?_)
  · rw [bI_0, hn] at hc5
    refine V_const dX12_send_60 ?_
    exact V_iret dX12_send_61 rfl (by decide) (by decide) (q0 (fun l hl e => absurd e (i_out (i_pred (by omega)) (by omega) hc5 l hl)))
  · rw [bI_n0, hn] at hc5
    obtain ⟨l, hl, hvl⟩ := i_rng (i_pred (by omega)) hc5
    obtain ⟨p, hp, hvp⟩ := hpl l hl
    refine V_aload dX12_send_8 rfl ?_
    refine V_getRs fk_X12_40 dX12_send_9 hM.1 hM.a1215.1 ?_
    refine V_iload dX12_send_12 rfl ?_
    refine V_iald dX12_send_13 hM.a1215.2 hvl (by omega) (by decide) ?_
    refine V_const dX12_send_14 ?_
    refine V_icmp_ne dX12_send_15 (fun hc15 => ?_) (fun hc15 => ?_)
    · refine V_const dX12_send_60 ?_
      exact V_iret dX12_send_61 rfl (by decide) (by decide) (q0 (fun i2 hi2 e h => hc15 (by have e2 : i2 = l := (nI_eq (by omega) (by omega)).mp (e.symm.trans hvl); subst e2; exact h.1)))
    · refine V_iload dX12_send_18 rfl ?_
      refine V_const dX12_send_19 ?_
      refine V_icmp_lt dX12_send_20 (fun hc20 => ?_) (fun hc20 => ?_)
      · refine V_const dX12_send_60 ?_
        exact V_iret dX12_send_61 rfl (by decide) (by decide) (q0 (fun i2 hi2 e h => by have h1 := h.2.1.1; rw [i_le] at h1; rw [i_lt] at hc20; omega))
      · refine V_iload dX12_send_23 rfl ?_
        refine V_aload dX12_send_24 rfl ?_
        refine V_getRs fk_X12_34 dX12_send_25 hM.1 hM.a1213.1 ?_
        refine V_iload dX12_send_28 rfl ?_
        refine V_iald dX12_send_29 hM.a1213.2 hvl (by omega) (by decide) ?_
        refine V_icmp_gt dX12_send_30 (fun hc30 => ?_) (fun hc30 => ?_)
        · refine V_const dX12_send_60 ?_
          exact V_iret dX12_send_61 rfl (by decide) (by decide) (q0 (fun i2 hi2 e h => by have e2 : i2 = l := (nI_eq (by omega) (by omega)).mp (e.symm.trans hvl); subst e2; have h1 := h.2.1.2; rw [i_le] at h1; rw [i_lt] at hc30; omega))
        · refine V_iload dX12_send_33 rfl ?_
          refine V_invS (As := [_]) ms_X12_isPlace lk_X12_119 dX12_send_34 rfl rfl rfl (Nat.le_of_ble_eq_true rfl) ⟨⟨by decide, by decide⟩, by decide, by decide⟩ (sem_X12_isPlace ?_)
          refine V_if_eq dX12_send_37 (fun hc37 => ?_) (fun hc37 => ?_)
          · rw [bI_0] at hc37
            refine V_const dX12_send_60 ?_
            exact V_iret dX12_send_61 rfl (by decide) (by decide) (q0 (fun i2 hi2 e h => hc37 h.2.2.2.1))
          · rw [bI_n0] at hc37
            obtain ⟨i, hi, hvi⟩ := i_rng (N := 8) rfl hc37
            refine V_iload dX12_send_40 rfl ?_
            refine V_aload dX12_send_41 rfl ?_
            refine V_getRs fk_X12_37 dX12_send_42 hM.1 hM.a1214.1 ?_
            refine V_iload dX12_send_45 rfl ?_
            refine V_iald dX12_send_46 hM.a1214.2 hvl (by omega) (by decide) ?_
            refine V_icmp_eq dX12_send_47 (fun hc47 => ?_) (fun hc47 => ?_)
            · refine V_const dX12_send_60 ?_
              exact V_iret dX12_send_61 rfl (by decide) (by decide) (q0 (fun i2 hi2 e h => h.2.2.2.2 (by have e2 : i2 = l := (nI_eq (by omega) (by omega)).mp (e.symm.trans hvl); subst e2; exact (by exact hc47))))
            · refine V_aload dX12_send_50 rfl ?_
              refine V_getIs fk_X12_126 dX12_send_51 hM.1 hn ?_
              refine V_const dX12_send_54 ?_
              refine V_icmp_ne dX12_send_57 (fun hc57 => ?_) (fun hc57 => ?_)
              · have hn3 : n < 300 := by
                  rcases Nat.lt_or_ge n 300 with h | h
                  · exact h
                  · exact absurd (show nI n = nI 300 by rw [show n = 300 by omega]) hc57
                refine V_aload dX12_send_62 rfl ?_
                refine V_getRs fk_X12_34 dX12_send_63 hM.1 hM.a1213.1 ?_
                refine V_iload dX12_send_66 rfl ?_
                refine V_dup2ir dX12_send_67 ?_
                refine V_iald dX12_send_68 hM.a1213.2 hvl (by omega) (by decide) ?_
                refine V_iload dX12_send_69 rfl ?_
                refine V_isub dX12_send_70 ?_
                refine V_iast dX12_send_71 hM.a1213.2 hvl (by omega) (by decide) ?_
                refine V_aload dX12_send_72 rfl ?_
                refine V_aload dX12_send_73 rfl ?_
                refine V_getRs fk_X12_25 dX12_send_74 hM.1 hM.a1210.1 ?_
                refine V_iload dX12_send_77 rfl ?_
                refine V_iald dX12_send_78 hM.a1210.2 hvl (by omega) (by decide) ?_
                refine V_aload dX12_send_79 rfl ?_
                refine V_getRs fk_X12_28 dX12_send_80 hM.1 hM.a1211.1 ?_
                refine V_iload dX12_send_83 rfl ?_
                refine V_iald dX12_send_84 hM.a1211.2 hvl (by omega) (by decide) ?_
                refine V_aload dX12_send_85 rfl ?_
                refine V_getRs fk_X12_31 dX12_send_86 hM.1 hM.a1212.1 ?_
                refine V_iload dX12_send_89 rfl ?_
                refine V_iald dX12_send_90 hM.a1212.2 hvl (by omega) (by decide) ?_
                refine V_iload dX12_send_91 rfl ?_
                refine V_iload dX12_send_92 rfl ?_
                refine V_aload dX12_send_93 rfl ?_
                refine V_getI fk_X12_131 dX12_send_94 hM.1 ?_
                refine V_aload dX12_send_97 rfl ?_
                refine V_getRs fk_X12_19 dX12_send_98 hM.1 hM.a1208.1 ?_
                refine V_const dX12_send_101 ?_
                refine V_aload dX12_send_103 rfl ?_
                refine V_getRs fk_X12_37 dX12_send_104 hM.1 hM.a1214.1 ?_
                refine V_iload dX12_send_107 rfl ?_
                refine V_iald dX12_send_108 hM.a1214.2 hvl (by omega) (by decide) ?_
                refine V_imul dX12_send_109 ?_
                refine V_iload dX12_send_110 rfl ?_
                refine V_iadd dX12_send_111 ?_
                refine V_iald dX12_send_112 hM.a1208.2 (i := 8 * p + i) (by rw [up2_ne _ _ _ (by omega), hvp, hvi, show (8 : Int32) = nI 8 from rfl, pk_mul, nI_add]) (by omega) (by decide) ?_
                refine V_iadd dX12_send_113 ?_
                refine V_aload dX12_send_114 rfl ?_
                refine V_getRs fk_X12_43 dX12_send_115 hM.1 hM.a1216.1 ?_
                refine V_iload dX12_send_118 rfl ?_
                refine V_iald dX12_send_119 hM.a1216.2 hvl (by omega) (by decide) ?_
                refine V_aload dX12_send_120 rfl ?_
                refine V_getRs fk_X12_46 dX12_send_121 hM.1 hM.a1217.1 ?_
                refine V_iload dX12_send_124 rfl ?_
                refine V_iald dX12_send_125 hM.a1217.2 hvl (by omega) (by decide) ?_
                refine V_invV (As := [_, _, _, _, _, _, _, _]) mv_X12_addLot lk_X12_134 dX12_send_126 (c := 12) (by decide) rfl rfl hM.1 rfl rfl (Nat.le_of_ble_eq_true rfl) ⟨⟨by decide, by decide⟩, by decide, by decide⟩ (sem_X12_addLot hM hn hn3 ?_)
                rw [up2_ne _ _ _ (show m + 6 ≠ m + 9 by omega), up2_ne _ _ _ (show m + 7 ≠ m + 9 by omega), up2_ne _ _ _ (show m + 8 ≠ m + 9 by omega), up2_ne _ _ _ (show m + 4 ≠ m + 9 by omega), up2_ne _ _ _ (show m + 12 ≠ m + 9 by omega), up2_ne _ _ _ (show m + 13 ≠ m + 9 by omega), if_neg (hmr l hl)]
                exact V_iret dX12_send_129 rfl (by decide) (by decide) (q l i p hl hi hp hvl hvi hvp ⟨hc15, ⟨by rw [i_lt] at hc20; rw [i_le]; omega, by rw [i_lt] at hc30; rw [i_le]; omega⟩, hn3, hc37, hc47⟩)
              · refine V_const dX12_send_60 ?_
                exact V_iret dX12_send_61 rfl (by decide) (by decide) (q0 (fun i2 hi2 e h => by have e : n = 300 := (nI_eq (by omega) (by omega)).mp (show nI n = nI 300 from hc57); have := h.2.2.1; omega))
end
section
-- THE REFERENCE: stocks, spoiling, the oldest lot
theorem age_pos {v : Int32} (h : 0 ≤ v) : jmin 9 v = nI (ageN v) := by
  rw [← (age_ok v).1]
  have h1 : (0 : Int32) ≤ jmin 9 v := by
    unfold jmin
    split
    · exact h
    · decide
  unfold jmax
  split
  · rfl
  · rename_i h2
    rw [i_le] at h1
    rw [i_lt] at h2
    exact Int32.toInt_inj.mp (by omega)
def partM (f : Nat → Int32) (i : Nat) (s : Int32) : Int32 := if s = 0 then f i else jmin 1000 (2 * f i)
theorem sem_X12_part {l : Launch} {D : va_G} {A : Nat → Prop} {z : Nat} {t : TT} {I : MI} {R : MR} {J : MI} {B : MR} {m k : Nat} {wk fr s : Int32} {Φ : PP} (hM : MSt m t R) (hk : k < 4) (hd : 0 ≤ (wk - fr) / 4) (q : Φ (some (.int (partM (J (m + 3)) (10 * k + ageN ((wk - fr) / 4)) s))) z t I R J B) : Sem l D A 1 0 0 mX12_part [va_rf (some m), .int (nI k), .int wk, .int fr, .int s] z t I R J B Φ := by
  refine Sem.run [some (va_rf (some m)), some (.int (nI k)), some (.int wk), some (.int fr), some (.int s), none] (by decide) rfl (ent_r (ent_i (ent_i (ent_i (ent_i (ent_none ent_nil)))))) ?_
  refine V_aload dX12_part_0 rfl ?_
  refine V_getRs fk_X12_16 dX12_part_1 hM.1 hM.a1207.1 ?_
  refine V_const dX12_part_4 ?_
  refine V_iload dX12_part_6 rfl ?_
  refine V_imul dX12_part_7 ?_
  refine V_const dX12_part_8 ?_
  refine V_iload dX12_part_10 rfl ?_
  refine V_iload dX12_part_11 rfl ?_
  refine V_isub dX12_part_12 ?_
  refine V_const dX12_part_13 ?_
  refine V_idiv dX12_part_14 (by decide) ?_
  refine V_jmin dX12_part_15 lk_X12_144 (by decide) (by decide) (by decide) (by decide) (Nat.le_of_ble_eq_true rfl) ?_
  refine V_iadd dX12_part_18 ?_
  refine V_iald dX12_part_19 hM.a1207.2 (i := 10 * k + ageN ((wk - fr) / 4)) (by rw [age_pos hd, show (10 : Int32) = nI 10 from rfl, pk_mul, nI_add]) (by have := (age_ok ((wk - fr) / 4)).2; omega) (by decide) ?_
  refine V_is5 dX12_part_20 (by decide) (noL_i _) ?_
  refine V_iload dX12_part_22 rfl ?_
  refine V_if_eq dX12_part_24 (fun hc24 => ?_) (fun hc24 => ?_)
  · refine V_iload dX12_part_40 rfl ?_
    exact V_iret dX12_part_42 rfl (by decide) (by decide) (by unfold partM at q; rw [if_pos hc24] at q; exact q)
  · refine V_const dX12_part_27 ?_
    refine V_const dX12_part_30 ?_
    refine V_iload dX12_part_31 rfl ?_
    refine V_imul dX12_part_33 ?_
    refine V_jmin dX12_part_34 lk_X12_144 (by decide) (by decide) (by decide) (by decide) (Nat.le_of_ble_eq_true rfl) ?_
    refine V_goto dX12_part_37 ?_
    exact V_iret dX12_part_42 rfl (by decide) (by decide) (by unfold partM at q; rw [if_neg hc24] at q; exact q)
def stkM (J : MI) (m : Nat) (p k : Int32) (l : Nat) (s : Int32) : Int32 := s + (if J (m + 10) l = p ∧ J (m + 7) l = k ∧ J (m + 11) l = -1 then J (m + 9) l else 0)
theorem lp_X12_stockOf {l : Launch} {D : va_G} {A : Nat → Prop} {z : Nat} {t : TT} {I : MI} {R : MR} {J : MI} {B : MR} {m N : Nat} {p k : Int32} {Φ : PP} (hM : MSt m t R) (hN : I 1201 m = nI N) (hN2 : N ≤ 300) : ∀ (n i : Nat) (s : Int32), i + n = N → Φ (some (.int (itr (stkM J m p k) i n s))) z t I R J B → V l D A (rmm 0 0 0) mX12_stockOf (KS D A 0 0 Φ) 0 0 z t I R J B 5 [some (va_rf (some m)), some (.int p), some (.int k), some (.int s), some (.int (nI i))] [] := by
  intro n
  induction n with
  | zero =>
    intro i s hin q
    have hi : i = N := by omega
    subst hi
    refine V_iload dX12_stockOf_5 rfl ?_
    refine V_aload dX12_stockOf_7 rfl ?_
    refine V_getIs fk_X12_126 dX12_stockOf_8 hM.1 hN ?_
    refine V_icmp_ge dX12_stockOf_11 (fun hc11 => ?_) (fun hc11 => ?_)
    · refine V_iload dX12_stockOf_67 rfl ?_
      exact V_iret dX12_stockOf_68 rfl (by decide) (by decide) q
    · exact absurd (Int32.le_refl _) hc11
  | succ n ih =>
    intro i s hin q
    refine V_iload dX12_stockOf_5 rfl ?_
    refine V_aload dX12_stockOf_7 rfl ?_
    refine V_getIs fk_X12_126 dX12_stockOf_8 hM.1 hN ?_
    refine V_icmp_ge dX12_stockOf_11 (fun hc11 => ?_) (fun hc11 => ?_)
    · exact absurd hc11 (nI_ge (by omega) (by omega))
    · refine V_iload dX12_stockOf_14 rfl ?_
      refine V_aload dX12_stockOf_15 rfl ?_
      refine V_getRs fk_X12_37 dX12_stockOf_16 hM.1 hM.a1214.1 ?_
      refine V_iload dX12_stockOf_19 rfl ?_
      refine V_iald dX12_stockOf_21 hM.a1214.2 rfl (by omega) (by decide) ?_
      refine V_iload dX12_stockOf_22 rfl ?_
      refine V_icmp_ne dX12_stockOf_23 (fun hc23 => ?_) (fun hc23 => ?_)
      · refine V_const dX12_stockOf_58 ?_
        refine V_iadd dX12_stockOf_59 ?_
        refine V_is3 dX12_stockOf_60 (by decide) (noL_i _) ?_
        refine V_ii4 dX12_stockOf_61 (by decide) (noL_i _) ?_
        refine V_goto dX12_stockOf_64 ?_
        exact V.sub (lsS (lsS (lsS (lsS (lsE (by rw [nI_1]) ls0))))) (ih (i + 1) _ (by omega) (by rw [itr] at q; unfold stkM at q; rw [if_neg (fun h => hc23 h.1)] at q; exact q))
      · refine V_aload dX12_stockOf_26 rfl ?_
        refine V_getRs fk_X12_28 dX12_stockOf_27 hM.1 hM.a1211.1 ?_
        refine V_iload dX12_stockOf_30 rfl ?_
        refine V_iald dX12_stockOf_32 hM.a1211.2 rfl (by omega) (by decide) ?_
        refine V_iload dX12_stockOf_33 rfl ?_
        refine V_icmp_ne dX12_stockOf_34 (fun hc34 => ?_) (fun hc34 => ?_)
        · refine V_const dX12_stockOf_58 ?_
          refine V_iadd dX12_stockOf_59 ?_
          refine V_is3 dX12_stockOf_60 (by decide) (noL_i _) ?_
          refine V_ii4 dX12_stockOf_61 (by decide) (noL_i _) ?_
          refine V_goto dX12_stockOf_64 ?_
          exact V.sub (lsS (lsS (lsS (lsS (lsE (by rw [nI_1]) ls0))))) (ih (i + 1) _ (by omega) (by rw [itr] at q; unfold stkM at q; rw [if_neg (fun h => hc34 h.2.1)] at q; exact q))
        · refine V_aload dX12_stockOf_37 rfl ?_
          refine V_getRs fk_X12_40 dX12_stockOf_38 hM.1 hM.a1215.1 ?_
          refine V_iload dX12_stockOf_41 rfl ?_
          refine V_iald dX12_stockOf_43 hM.a1215.2 rfl (by omega) (by decide) ?_
          refine V_const dX12_stockOf_44 ?_
          refine V_icmp_ne dX12_stockOf_45 (fun hc45 => ?_) (fun hc45 => ?_)
          · refine V_const dX12_stockOf_58 ?_
            refine V_iadd dX12_stockOf_59 ?_
            refine V_is3 dX12_stockOf_60 (by decide) (noL_i _) ?_
            refine V_ii4 dX12_stockOf_61 (by decide) (noL_i _) ?_
            refine V_goto dX12_stockOf_64 ?_
            exact V.sub (lsS (lsS (lsS (lsS (lsE (by rw [nI_1]) ls0))))) (ih (i + 1) _ (by omega) (by rw [itr] at q; unfold stkM at q; rw [if_neg (fun h => hc45 h.2.2)] at q; exact q))
          · refine V_aload dX12_stockOf_48 rfl ?_
            refine V_getRs fk_X12_34 dX12_stockOf_49 hM.1 hM.a1213.1 ?_
            refine V_iload dX12_stockOf_52 rfl ?_
            refine V_iald dX12_stockOf_54 hM.a1213.2 rfl (by omega) (by decide) ?_
            refine V_goto dX12_stockOf_55 ?_
            refine V_iadd dX12_stockOf_59 ?_
            refine V_is3 dX12_stockOf_60 (by decide) (noL_i _) ?_
            refine V_ii4 dX12_stockOf_61 (by decide) (noL_i _) ?_
            refine V_goto dX12_stockOf_64 ?_
            exact V.sub (lsS (lsS (lsS (lsS (lsE (by rw [nI_1]) ls0))))) (ih (i + 1) _ (by omega) (by rw [itr] at q; unfold stkM at q; rw [if_pos ⟨hc23, hc34, hc45⟩] at q; exact q))
theorem sem_X12_stockOf {l : Launch} {D : va_G} {A : Nat → Prop} {z : Nat} {t : TT} {I : MI} {R : MR} {J : MI} {B : MR} {m N : Nat} {p k : Int32} {Φ : PP} (hM : MSt m t R) (hN : I 1201 m = nI N) (hN2 : N ≤ 300) (q : Φ (some (.int (itr (stkM J m p k) 0 N 0))) z t I R J B) : Sem l D A 0 0 0 mX12_stockOf [va_rf (some m), .int p, .int k] z t I R J B Φ := by
  refine Sem.run [some (va_rf (some m)), some (.int p), some (.int k), none, none] (by decide) rfl (ent_r (ent_i (ent_i (ent_none (ent_none ent_nil))))) ?_
  refine V_const dX12_stockOf_0 ?_
  refine V_is3 dX12_stockOf_1 (by decide) (noL_i _) ?_
  refine V_const dX12_stockOf_2 ?_
  refine V_is4 dX12_stockOf_3 (by decide) (noL_i _) ?_
  exact lp_X12_stockOf hM hN hN2 N 0 0 (by omega) q
def oI (o : Option Nat) : Int32 := match o with
  | none => -1
  | some b => nI b
/-- is lot l a better one to be eaten than o -/
def oldC (J : MI) (m : Nat) (p k : Int32) (of cm : Nat → Int32) (l : Nat) (o : Option Nat) : Prop := J (m + 10) l = p ∧ J (m + 7) l = k ∧ cm l = -1 ∧ 0 < of l ∧ ∀ b, o = some b → J (m + 8) l < J (m + 8) b
noncomputable def oldF (J : MI) (m : Nat) (p k : Int32) (of cm : Nat → Int32) (l : Nat) (o : Option Nat) : Option Nat := @ite _ (oldC J m p k of cm l o) (Classical.propDecidable _) (some l) o
theorem oldF_t {J : MI} {m : Nat} {p k : Int32} {of cm : Nat → Int32} {l : Nat} {o : Option Nat} (h : oldC J m p k of cm l o) : oldF J m p k of cm l o = some l := if_pos h
theorem oldF_f {J : MI} {m : Nat} {p k : Int32} {of cm : Nat → Int32} {l : Nat} {o : Option Nat} (h : ¬ oldC J m p k of cm l o) : oldF J m p k of cm l o = o := if_neg h
theorem oI_none {o : Option Nat} (ho : ∀ b, o = some b → b < 300) : oI o = -1 ↔ o = none := by
  cases o with
  | none => exact ⟨fun _ => rfl, fun _ => rfl⟩
  | some b =>
    have hb := ho b rfl
    refine ⟨fun h => ?_, fun h => by cases h⟩
    have h1 : (nI b).toInt = (-1 : Int32).toInt := by rw [show nI b = -1 from h]
    rw [nI_toInt (by omega)] at h1
    have h2 : (-1 : Int32).toInt = -1 := rfl
    omega
theorem lp_X12_oldest {l : Launch} {D : va_G} {A : Nat → Prop} {z : Nat} {t : TT} {I : MI} {R : MR} {J : MI} {B : MR} {m N ao ac : Nat} {p k : Int32} {Φ : PP} (hM : MSt m t R) (hN : I 1201 m = nI N) (hN2 : N ≤ 300) (hof : t ao = (20, 300)) (hcm : t ac = (20, 300)) : ∀ (n i : Nat) (o : Option Nat), i + n = N → (∀ b, o = some b → b < i) → Φ (some (.int (oI (itr (oldF J m p k (J ao) (J ac)) i n o)))) z t I R J B → V l D A (rmm 0 0 0) mX12_oldest (KS D A 0 0 Φ) 0 0 z t I R J B 6 [some (va_rf (some m)), some (.int p), some (.int k), some (va_rf (some ao)), some (va_rf (some ac)), some (.int (oI o)), some (.int (nI i))] [] := by
  intro n
  induction n with
  | zero =>
    intro i o hin ho q
    have hi : i = N := by omega
    subst hi
    refine V_iload dX12_oldest_6 rfl ?_
    refine V_aload dX12_oldest_8 rfl ?_
    refine V_getIs fk_X12_126 dX12_oldest_9 hM.1 hN ?_
    refine V_icmp_ge dX12_oldest_12 (fun hc12 => ?_) (fun hc12 => ?_)
    · refine V_iload dX12_oldest_86 rfl ?_
      exact V_iret dX12_oldest_88 rfl (by decide) (by decide) q
    · exact absurd (Int32.le_refl _) hc12
  | succ n ih =>
    intro i o hin ho q
    refine V_iload dX12_oldest_6 rfl ?_
    refine V_aload dX12_oldest_8 rfl ?_
    refine V_getIs fk_X12_126 dX12_oldest_9 hM.1 hN ?_
    refine V_icmp_ge dX12_oldest_12 (fun hc12 => ?_) (fun hc12 => ?_)
    · exact absurd hc12 (nI_ge (by omega) (by omega))
    · refine V_aload dX12_oldest_15 rfl ?_
      refine V_getRs fk_X12_37 dX12_oldest_16 hM.1 hM.a1214.1 ?_
      refine V_iload dX12_oldest_19 rfl ?_
      refine V_iald dX12_oldest_21 hM.a1214.2 rfl (by omega) (by decide) ?_
      refine V_iload dX12_oldest_22 rfl ?_
      refine V_icmp_ne dX12_oldest_23 (fun hc23 => ?_) (fun hc23 => ?_)
      · refine V_ii6 dX12_oldest_80 (by decide) (noL_i _) ?_
        refine V_goto dX12_oldest_83 ?_
        exact V.sub (lsS (lsS (lsS (lsS (lsS (lsS (lsE (by rw [nI_1]) ls0))))))) (ih (i + 1) _ (by omega) (fun b hb => by have := ho b hb; omega) (by rw [itr, oldF_f (fun h => hc23 h.1)] at q; exact q))
      · refine V_aload dX12_oldest_26 rfl ?_
        refine V_getRs fk_X12_28 dX12_oldest_27 hM.1 hM.a1211.1 ?_
        refine V_iload dX12_oldest_30 rfl ?_
        refine V_iald dX12_oldest_32 hM.a1211.2 rfl (by omega) (by decide) ?_
        refine V_iload dX12_oldest_33 rfl ?_
        refine V_icmp_ne dX12_oldest_34 (fun hc34 => ?_) (fun hc34 => ?_)
        · refine V_ii6 dX12_oldest_80 (by decide) (noL_i _) ?_
          refine V_goto dX12_oldest_83 ?_
          exact V.sub (lsS (lsS (lsS (lsS (lsS (lsS (lsE (by rw [nI_1]) ls0))))))) (ih (i + 1) _ (by omega) (fun b hb => by have := ho b hb; omega) (by rw [itr, oldF_f (fun h => hc34 h.2.1)] at q; exact q))
        · refine V_aload dX12_oldest_37 rfl ?_
          refine V_iload dX12_oldest_39 rfl ?_
          refine V_iald dX12_oldest_41 hcm rfl (by omega) (by decide) ?_
          refine V_const dX12_oldest_42 ?_
          refine V_icmp_ne dX12_oldest_43 (fun hc43 => ?_) (fun hc43 => ?_)
          · refine V_ii6 dX12_oldest_80 (by decide) (noL_i _) ?_
            refine V_goto dX12_oldest_83 ?_
            exact V.sub (lsS (lsS (lsS (lsS (lsS (lsS (lsE (by rw [nI_1]) ls0))))))) (ih (i + 1) _ (by omega) (fun b hb => by have := ho b hb; omega) (by rw [itr, oldF_f (fun h => hc43 h.2.2.1)] at q; exact q))
          · refine V_aload dX12_oldest_46 rfl ?_
            refine V_iload dX12_oldest_47 rfl ?_
            refine V_iald dX12_oldest_49 hof rfl (by omega) (by decide) ?_
            refine V_if_le dX12_oldest_50 (fun hc50 => ?_) (fun hc50 => ?_)
            · refine V_ii6 dX12_oldest_80 (by decide) (noL_i _) ?_
              refine V_goto dX12_oldest_83 ?_
              exact V.sub (lsS (lsS (lsS (lsS (lsS (lsS (lsE (by rw [nI_1]) ls0))))))) (ih (i + 1) _ (by omega) (fun b hb => by have := ho b hb; omega) (by rw [itr, oldF_f (fun h => by have h1 := h.2.2.2.1; rw [i_lt] at h1; rw [i_le] at hc50; omega)] at q; exact q))
            · refine V_iload dX12_oldest_53 rfl ?_
              refine V_const dX12_oldest_55 ?_
              refine V_icmp_eq dX12_oldest_56 (fun hc56 => ?_) (fun hc56 => ?_)
              · rw [oI_none (fun b hb => by have := ho b hb; omega)] at hc56
                refine V_iload dX12_oldest_76 rfl ?_
                refine V_is5 dX12_oldest_78 (by decide) (noL_r _) ?_
                refine V_ii6 dX12_oldest_80 (by decide) (noL_i _) ?_
                refine V_goto dX12_oldest_83 ?_
                exact V.sub (lsS (lsS (lsS (lsS (lsS (lsE rfl (lsE (by rw [nI_1]) ls0))))))) (ih (i + 1) (some i) (by omega) (fun b hb => by cases hb; omega) (by rw [itr, oldF_t ⟨hc23, hc34, hc43, by rw [i_le] at hc50; rw [i_lt]; omega, fun b hb => by rw [hc56] at hb; cases hb⟩] at q; exact q))
              · rw [oI_none (fun b hb => by have := ho b hb; omega)] at hc56
                cases o with
                | none => exact absurd rfl hc56
                | some b =>
                have hb := ho b rfl
                refine V_aload dX12_oldest_59 rfl ?_
                refine V_getRs fk_X12_31 dX12_oldest_60 hM.1 hM.a1212.1 ?_
                refine V_iload dX12_oldest_63 rfl ?_
                refine V_iald dX12_oldest_65 hM.a1212.2 rfl (by omega) (by decide) ?_
                refine V_aload dX12_oldest_66 rfl ?_
                refine V_getRs fk_X12_31 dX12_oldest_67 hM.1 hM.a1212.1 ?_
                refine V_iload dX12_oldest_70 rfl ?_
                refine V_iald dX12_oldest_72 hM.a1212.2 (i := b) rfl (by omega) (by decide) ?_
                refine V_icmp_ge dX12_oldest_73 (fun hc73 => ?_) (fun hc73 => ?_)
                · refine V_ii6 dX12_oldest_80 (by decide) (noL_i _) ?_
                  refine V_goto dX12_oldest_83 ?_
                  exact V.sub (lsS (lsS (lsS (lsS (lsS (lsS (lsE (by rw [nI_1]) ls0))))))) (ih (i + 1) _ (by omega) (fun b hb => by have := ho b hb; omega) (by rw [itr, oldF_f (fun h => by have h1 := h.2.2.2.2 b rfl; rw [i_lt] at h1; rw [i_le] at hc73; omega)] at q; exact q))
                · refine V_iload dX12_oldest_76 rfl ?_
                  refine V_is5 dX12_oldest_78 (by decide) (noL_r _) ?_
                  refine V_ii6 dX12_oldest_80 (by decide) (noL_i _) ?_
                  refine V_goto dX12_oldest_83 ?_
                  exact V.sub (lsS (lsS (lsS (lsS (lsS (lsE rfl (lsE (by rw [nI_1]) ls0))))))) (ih (i + 1) (some i) (by omega) (fun b hb => by cases hb; omega) (by rw [itr, oldF_t ⟨hc23, hc34, hc43, by rw [i_le] at hc50; rw [i_lt]; omega, fun b2 hb2 => by cases hb2; rw [i_le] at hc73; rw [i_lt]; omega⟩] at q; exact q))
theorem sem_X12_oldest {l : Launch} {D : va_G} {A : Nat → Prop} {z : Nat} {t : TT} {I : MI} {R : MR} {J : MI} {B : MR} {m N ao ac : Nat} {p k : Int32} {Φ : PP} (hM : MSt m t R) (hN : I 1201 m = nI N) (hN2 : N ≤ 300) (hof : t ao = (20, 300)) (hcm : t ac = (20, 300)) (q : Φ (some (.int (oI (itr (oldF J m p k (J ao) (J ac)) 0 N none)))) z t I R J B) : Sem l D A 0 0 0 mX12_oldest [va_rf (some m), .int p, .int k, va_rf (some ao), va_rf (some ac)] z t I R J B Φ := by
  refine Sem.run [some (va_rf (some m)), some (.int p), some (.int k), some (va_rf (some ao)), some (va_rf (some ac)), none, none] (by decide) rfl (ent_r (ent_i (ent_i (ent_r (ent_r (ent_none (ent_none ent_nil))))))) ?_
  refine V_const dX12_oldest_0 ?_
  refine V_is5 dX12_oldest_1 (by decide) (noL_r _) ?_
  refine V_const dX12_oldest_3 ?_
  refine V_is6 dX12_oldest_4 (by decide) (noL_i _) ?_
  exact lp_X12_oldest hM hN hN2 hof hcm N 0 none (by omega) (fun b hb => by cases hb) q
end
section
-- THE REFERENCE: eating, the week
noncomputable abbrev oldR (J : MI) (m : Nat) (p k : Int32) (of cm : Nat → Int32) (N : Nat) : Option Nat := itr (oldF J m p k of cm) 0 N none
theorem old_go {J : MI} {m : Nat} {p k : Int32} {of cm : Nat → Int32} : ∀ (n i : Nat) (o : Option Nat), (∀ b, o = some b → b < i) → ∀ b, itr (oldF J m p k of cm) i n o = some b → b < i + n
  | 0, i, o, h, b, hb => by have := h b hb; omega
  | n + 1, i, o, h, b, hb => by
    rw [itr] at hb
    have := old_go n (i + 1) _ (fun c hc => by
      by_cases q : oldC J m p k of cm i o
      · rw [oldF_t q] at hc; cases hc; omega
      · rw [oldF_f q] at hc; have := h c hc; omega) b hb
    omega
theorem old_lt {J : MI} {m : Nat} {p k : Int32} {of cm : Nat → Int32} {N b : Nat} (h : oldR J m p k of cm N = some b) : b < N := by
  have := old_go N 0 none (fun b hb => by cases hb) b h
  omega
theorem old_some {J : MI} {m : Nat} {p k : Int32} {of cm : Nat → Int32} {N : Nat} (hN : N ≤ 300) (h : ¬ oI (oldR J m p k of cm N) = -1) : ∃ l, l < N ∧ oldR J m p k of cm N = some l := by
  rw [oI_none (fun b hb => by have := old_lt hb; omega)] at h
  cases e : oldR J m p k of cm N with
  | none => exact absurd e h
  | some l => exact ⟨l, old_lt e, rfl⟩
theorem old_none {J : MI} {m : Nat} {p k : Int32} {of cm : Nat → Int32} {N : Nat} (hN : N ≤ 300) (h : oI (oldR J m p k of cm N) = -1) : oldR J m p k of cm N = none := (oI_none (fun b hb => by have := old_lt hb; omega)).mp h
/-- eating: nd rations are still wanted -/
noncomputable def eatS (m p k N : Nat) : Nat → Int32 → MI → MI → MI × MI
  | 0, _, I, J => (I, J)
  | f + 1, nd, I, J => if nd ≤ 0 then (I, J) else match oldR J m (nI p) (nI k) (J (m + 9)) (J (m + 11)) N with
    | none => (I, up2 J (m + 20) (4 * p + k) (J (m + 20) (4 * p + k) + nd))
    | some l => eatS m p k N f (nd - jmin nd (J (m + 2) k)) (up2 I 1203 m (I 1203 m + 1)) (up2 (up2 (up2 J (m + 9) l (J (m + 9) l - 1)) (m + 21) (4 * p + k) (J (m + 21) (4 * p + k) + 1)) (m + 19) (4 * p + k) (J (m + 2) k - jmin nd (J (m + 2) k)))
theorem jmin_pos {x y : Int32} (hx : ¬ x ≤ 0) (hy : 1 ≤ y) : 1 ≤ (jmin x y).toInt ∧ (jmin x y).toInt ≤ x.toInt := by
  rw [i_le] at hx hy
  have h0 : (0 : Int32).toInt = 0 := rfl
  have h1 : (1 : Int32).toInt = 1 := rfl
  unfold jmin
  split
  · rename_i h; rw [i_lt] at h; omega
  · omega
theorem sub_i {x y : Int32} (h1 : 0 ≤ y.toInt) (h2 : y.toInt ≤ x.toInt) : (x - y).toInt = x.toInt - y.toInt := by
  rw [Int32.toInt_sub]
  have := x.toInt_lt
  apply Int.bmod_eq_of_le <;> omega
theorem lp_X12_eat {l : Launch} {D : va_G} {A : Nat → Prop} {z : Nat} {t : TT} {R : MR} {B : MR} {m p k N : Nat} {Φ : PP} (hM : MSt m t R) (hp : p < 8) (hk : k < 4) (hN2 : N ≤ 300) : ∀ (f : Nat) (nd : Int32) (I J : MI), nd.toInt ≤ (f : Int) → 1 ≤ J (m + 2) k → I 1201 m = nI N → Φ none z t (eatS m p k N f nd I J).1 R (eatS m p k N f nd I J).2 B → V l D A (rmm 1 0 0) mX12_eat (KS D A 0 0 Φ) 0 0 z t I R J B 48 [some (va_rf (some m)), some (.int (nI p)), some (.int (nI k)), some (.int (nI (4 * p + k))), some (.int nd), none, none, none] [] := by
  intro f
  induction f with
  | zero =>
    intro nd I J hf hr hN q
    have hz : nd ≤ 0 := by rw [i_le]; show nd.toInt ≤ 0; omega
    refine V_iload dX12_eat_48 rfl ?_
    refine V_if_le dX12_eat_50 (fun hc50 => ?_) (fun hc50 => ?_)
    · exact V_vret dX12_eat_156 rfl (by decide) (by decide) q
    · exact absurd hz hc50
  | succ f ih =>
    intro nd I J hf hr hN q
    refine V_iload dX12_eat_48 rfl ?_
    refine V_if_le dX12_eat_50 (fun hc50 => ?_) (fun hc50 => ?_)
    · exact V_vret dX12_eat_156 rfl (by decide) (by decide) (by rw [eatS, if_pos hc50] at q; exact q)
    · refine V_aload dX12_eat_53 rfl ?_
      refine V_iload dX12_eat_54 rfl ?_
      refine V_iload dX12_eat_55 rfl ?_
      refine V_aload dX12_eat_56 rfl ?_
      refine V_getRs fk_X12_34 dX12_eat_57 hM.1 hM.a1213.1 ?_
      refine V_aload dX12_eat_60 rfl ?_
      refine V_getRs fk_X12_40 dX12_eat_61 hM.1 hM.a1215.1 ?_
      refine V_invV (As := [_, _, _, _]) mv_X12_oldest lk_X12_161 dX12_eat_64 (c := 12) (by decide) rfl rfl hM.1 rfl rfl (Nat.le_of_ble_eq_true rfl) ⟨⟨by decide, by decide⟩, by decide, by decide⟩ (sem_X12_oldest hM hN hN2 hM.a1213.2 hM.a1215.2 ?_)
      refine V_is6 dX12_eat_67 (by decide) noL_n ?_
      refine V_iload dX12_eat_69 rfl ?_
      refine V_const dX12_eat_71 ?_
      refine V_icmp_ne dX12_eat_72 (fun hc72 => ?_) (fun hc72 => ?_)
      · obtain ⟨l0, hl, hol⟩ := old_some hN2 hc72
        rw [show itr (oldF J m (nI p) (nI k) (J (m + 9)) (J (m + 11))) 0 N none = some l0 from hol]
        refine V_aload dX12_eat_87 rfl ?_
        refine V_getRs fk_X12_34 dX12_eat_88 hM.1 hM.a1213.1 ?_
        refine V_iload dX12_eat_91 rfl ?_
        refine V_dup2ir dX12_eat_93 ?_
        refine V_iald dX12_eat_94 hM.a1213.2 (i := l0) rfl (by omega) (by decide) ?_
        refine V_const dX12_eat_95 ?_
        refine V_isub dX12_eat_96 ?_
        refine V_iast dX12_eat_97 hM.a1213.2 (i := l0) rfl (by omega) (by decide) ?_
        refine V_aload dX12_eat_98 rfl ?_
        refine V_dupr dX12_eat_99 ?_
        refine V_getI fk_X12_165 dX12_eat_100 hM.1 ?_
        refine V_const dX12_eat_103 ?_
        refine V_iadd dX12_eat_104 ?_
        refine V_putI fk_X12_165 (Or.inl rfl) rfl rfl dX12_eat_105 hM.1 ?_
        refine V_aload dX12_eat_108 rfl ?_
        refine V_getRs fk_X12_70 dX12_eat_109 hM.1 hM.a1225.1 ?_
        refine V_iload dX12_eat_112 rfl ?_
        refine V_dup2ir dX12_eat_113 ?_
        refine V_ialds dX12_eat_114 hM.a1225.2 rfl (by omega) (by decide) (up2n (by omega)) ?_
        refine V_const dX12_eat_115 ?_
        refine V_iadd dX12_eat_116 ?_
        refine V_iast dX12_eat_117 hM.a1225.2 rfl (by omega) (by decide) ?_
        refine V_iload dX12_eat_118 rfl ?_
        refine V_aload dX12_eat_120 rfl ?_
        refine V_getRs fk_X12_13 dX12_eat_121 hM.1 hM.a1206.1 ?_
        refine V_iload dX12_eat_124 rfl ?_
        refine V_ialds dX12_eat_125 hM.a1206.2 rfl (by omega) (by decide) ((up2n (by omega)).trans (up2n (by omega))) ?_
        refine V_jmin dX12_eat_126 lk_X12_144 (by decide) (by decide) (by decide) (by decide) (Nat.le_of_ble_eq_true rfl) ?_
        refine V_is7 dX12_eat_129 (by decide) (noL_i _) ?_
        refine V_iload dX12_eat_131 rfl ?_
        refine V_iload dX12_eat_133 rfl ?_
        refine V_isub dX12_eat_135 ?_
        refine V_is4 dX12_eat_136 (by decide) (noL_i _) ?_
        refine V_aload dX12_eat_138 rfl ?_
        refine V_getRs fk_X12_64 dX12_eat_139 hM.1 hM.a1223.1 ?_
        refine V_iload dX12_eat_142 rfl ?_
        refine V_aload dX12_eat_143 rfl ?_
        refine V_getRs fk_X12_13 dX12_eat_144 hM.1 hM.a1206.1 ?_
        refine V_iload dX12_eat_147 rfl ?_
        refine V_ialds dX12_eat_148 hM.a1206.2 rfl (by omega) (by decide) ((up2n (by omega)).trans (up2n (by omega))) ?_
        refine V_iload dX12_eat_149 rfl ?_
        refine V_isub dX12_eat_151 ?_
        refine V_iast dX12_eat_152 hM.a1223.2 rfl (by omega) (by decide) ?_
        refine V_goto dX12_eat_153 ?_
        have hj := jmin_pos hc50 hr
        exact V.sub (lsS (lsS (lsS (lsS (lsS (lsN (lsN (lsN ls0)))))))) (ih _ _ _ (by rw [sub_i (by omega) (by omega)]; omega) (by rw [up2n (by omega), up2n (by omega), up2n (by omega)]; exact hr) ((up2n (by decide)).trans hN) (by rw [eatS, if_neg hc50, hol] at q; exact q))
      · have hol := old_none hN2 hc72
        refine V_aload dX12_eat_75 rfl ?_
        refine V_getRs fk_X12_67 dX12_eat_76 hM.1 hM.a1224.1 ?_
        refine V_iload dX12_eat_79 rfl ?_
        refine V_dup2ir dX12_eat_80 ?_
        refine V_iald dX12_eat_81 hM.a1224.2 rfl (by omega) (by decide) ?_
        refine V_iload dX12_eat_82 rfl ?_
        refine V_iadd dX12_eat_84 ?_
        refine V_iast dX12_eat_85 hM.a1224.2 rfl (by omega) (by decide) ?_
        exact V_vret dX12_eat_86 rfl (by decide) (by decide) (by rw [eatS, if_neg hc50, hol] at q; exact q)
noncomputable def eatM (m N p k : Nat) (I J : MI) : MI × MI := eatS m p k N 7000 (7 * J (m + 1) p - jmin (7 * J (m + 1) p) (J (m + 19) (4 * p + k))) I (up2 J (m + 19) (4 * p + k) (J (m + 19) (4 * p + k) - jmin (7 * J (m + 1) p) (J (m + 19) (4 * p + k))))
theorem sem_X12_eat {l : Launch} {D : va_G} {A : Nat → Prop} {z : Nat} {t : TT} {I : MI} {R : MR} {J : MI} {B : MR} {m p k N : Nat} {Φ : PP} (hM : MSt m t R) (hp : p < 8) (hk : k < 4) (hN2 : N ≤ 300) (hN : I 1201 m = nI N) (hr : 1 ≤ J (m + 2) k) (hnd : (7 * J (m + 1) p - jmin (7 * J (m + 1) p) (J (m + 19) (4 * p + k))).toInt ≤ 7000) (q : Φ none z t (eatM m N p k I J).1 R (eatM m N p k I J).2 B) : Sem l D A 1 0 0 mX12_eat [va_rf (some m), .int (nI p), .int (nI k)] z t I R J B Φ := by
  refine Sem.run [some (va_rf (some m)), some (.int (nI p)), some (.int (nI k)), none, none, none, none, none] (by decide) rfl (ent_r (ent_i (ent_i (ent_none (ent_none (ent_none (ent_none (ent_none ent_nil)))))))) ?_
  refine V_const dX12_eat_0 ?_
  refine V_iload dX12_eat_1 rfl ?_
  refine V_imul dX12_eat_2 ?_
  refine V_iload dX12_eat_3 rfl ?_
  refine V_iadd dX12_eat_4 ?_
  rw [show (4 : Int32) * nI p + nI k = nI (4 * p + k) by rw [show (4 : Int32) = nI 4 from rfl, pk_mul, nI_add]]
  refine V_is3 dX12_eat_5 (by decide) (noL_i _) ?_
  refine V_const dX12_eat_6 ?_
  refine V_aload dX12_eat_8 rfl ?_
  refine V_getRs fk_X12_9 dX12_eat_9 hM.1 hM.a1205.1 ?_
  refine V_iload dX12_eat_12 rfl ?_
  refine V_iald dX12_eat_13 hM.a1205.2 rfl (by omega) (by decide) ?_
  refine V_imul dX12_eat_14 ?_
  refine V_is4 dX12_eat_15 (by decide) (noL_i _) ?_
  refine V_iload dX12_eat_17 rfl ?_
  refine V_aload dX12_eat_19 rfl ?_
  refine V_getRs fk_X12_64 dX12_eat_20 hM.1 hM.a1223.1 ?_
  refine V_iload dX12_eat_23 rfl ?_
  refine V_iald dX12_eat_24 hM.a1223.2 rfl (by omega) (by decide) ?_
  refine V_jmin dX12_eat_25 lk_X12_144 (by decide) (by decide) (by decide) (by decide) (Nat.le_of_ble_eq_true rfl) ?_
  refine V_is5 dX12_eat_28 (by decide) (noL_i _) ?_
  refine V_aload dX12_eat_30 rfl ?_
  refine V_getRs fk_X12_64 dX12_eat_31 hM.1 hM.a1223.1 ?_
  refine V_iload dX12_eat_34 rfl ?_
  refine V_dup2ir dX12_eat_35 ?_
  refine V_iald dX12_eat_36 hM.a1223.2 rfl (by omega) (by decide) ?_
  refine V_iload dX12_eat_37 rfl ?_
  refine V_isub dX12_eat_39 ?_
  refine V_iast dX12_eat_40 hM.a1223.2 rfl (by omega) (by decide) ?_
  refine V_iload dX12_eat_41 rfl ?_
  refine V_iload dX12_eat_43 rfl ?_
  refine V_isub dX12_eat_45 ?_
  refine V_is4 dX12_eat_46 (by decide) (noL_i _) ?_
  exact V.sub (lsS (lsS (lsS (lsS (lsS (lsN (lsN (lsN ls0)))))))) (lp_X12_eat hM hp hk hN2 7000 _ _ _ hnd (by rw [up2n (by omega)]; exact hr) hN q)
/-- the first part of the reference's week: lots come, lots spoil -/
def cmM (m l : Nat) (w : Int32) (J : MI) : MI := if J (m + 11) l ≠ -1 ∧ J (m + 11) l ≤ w then up2 J (m + 11) l (-1) else J
def loM (m l k : Nat) (w : Int32) (J : MI) : Int32 := J (m + 9) l * partM (J (m + 3)) (10 * k + ageN ((w - J (m + 8) l) / 4)) (bI (¬ J (m + 11) l = -1)) / 1000
def spM (m l k g : Nat) (w : Int32) (J : MI) : MI := up2 (up2 J (m + 9) l (J (m + 9) l - loM m l k w J)) (m + 18) g (J (m + 18) g + loM m l k w J)
def wk1 (m : Nat) (kk gg : Nat → Nat) (w : Int32) (l : Nat) (J : MI) : MI := spM m l (kk l) (gg l) w (cmM m l w J)
theorem tl_X12_week {l : Launch} {D : va_G} {A : Nat → Prop} {z : Nat} {t : TT} {I : MI} {R : MR} {J : MI} {B : MR} {m i N k g : Nat} {w : Int32} {Φ : PP} (hM : MSt m t R) (hi : i < N) (hN : I 1201 m = nI N) (hN2 : N ≤ 300) (hw : I 1200 m = w) (hk : J (m + 7) i = nI k ∧ k < 4) (hg : J (m + 13) i = nI g ∧ g < 300) (hd : 0 ≤ (w - J (m + 8) i) / 4) (kk : V l D A (rmm 2 0 0) mX12_week (KS D A 0 0 Φ) 0 0 z t I R (spM m i k g w J) B 14 [some (va_rf (some m)), some (.int (nI (i + 1))), none] []) : V l D A (rmm 2 0 0) mX12_week (KS D A 0 0 Φ) 0 0 z t I R J B 52 [some (va_rf (some m)), some (.int (nI i)), none] [] := by
  refine V_aload dX12_week_52 rfl ?_
  refine V_getRs fk_X12_34 dX12_week_53 hM.1 hM.a1213.1 ?_
  refine V_iload dX12_week_56 rfl ?_
  refine V_iald dX12_week_57 hM.a1213.2 rfl (by omega) (by decide) ?_
  refine V_aload dX12_week_58 rfl ?_
  refine V_aload dX12_week_59 rfl ?_
  refine V_getRs fk_X12_28 dX12_week_60 hM.1 hM.a1211.1 ?_
  refine V_iload dX12_week_63 rfl ?_
  refine V_ialds dX12_week_64 hM.a1211.2 rfl (by omega) (by decide) hk.1 ?_
  refine V_aload dX12_week_65 rfl ?_
  refine V_getIs fk_X12_131 dX12_week_66 hM.1 hw ?_
  refine V_aload dX12_week_69 rfl ?_
  refine V_getRs fk_X12_31 dX12_week_70 hM.1 hM.a1212.1 ?_
  refine V_iload dX12_week_73 rfl ?_
  refine V_iald dX12_week_74 hM.a1212.2 rfl (by omega) (by decide) ?_
  refine V_aload dX12_week_75 rfl ?_
  refine V_getRs fk_X12_40 dX12_week_76 hM.1 hM.a1215.1 ?_
  refine V_iload dX12_week_79 rfl ?_
  refine V_iald dX12_week_80 hM.a1215.2 rfl (by omega) (by decide) ?_
  refine V_const dX12_week_81 ?_
  refine V_icmp_eq dX12_week_82 (fun hc82 => ?_) (fun hc82 => ?_)
  · refine V_const dX12_week_89 ?_
    refine V_invV (As := [_, _, _, _]) mv_X12_part lk_X12_150 dX12_week_90 (c := 12) (by decide) rfl rfl hM.1 rfl rfl (Nat.le_of_ble_eq_true rfl) ⟨⟨by decide, by decide⟩, by decide, by decide⟩ (sem_X12_part hM hk.2 hd ?_)
    refine V_imul dX12_week_93 ?_
    refine V_const dX12_week_94 ?_
    refine V_idiv dX12_week_97 (by decide) ?_
    refine V_is2 dX12_week_98 (by decide) (noL_i _) ?_
    refine V_aload dX12_week_99 rfl ?_
    refine V_getRs fk_X12_34 dX12_week_100 hM.1 hM.a1213.1 ?_
    refine V_iload dX12_week_103 rfl ?_
    refine V_dup2ir dX12_week_104 ?_
    refine V_iald dX12_week_105 hM.a1213.2 rfl (by omega) (by decide) ?_
    refine V_iload dX12_week_106 rfl ?_
    refine V_isub dX12_week_107 ?_
    refine V_iast dX12_week_108 hM.a1213.2 rfl (by omega) (by decide) ?_
    refine V_aload dX12_week_109 rfl ?_
    refine V_getRs fk_X12_61 dX12_week_110 hM.1 hM.a1222.1 ?_
    refine V_aload dX12_week_113 rfl ?_
    refine V_getRs fk_X12_46 dX12_week_114 hM.1 hM.a1217.1 ?_
    refine V_iload dX12_week_117 rfl ?_
    refine V_ialds dX12_week_118 hM.a1217.2 rfl (by omega) (by decide) ((up2n (by omega)).trans hg.1) ?_
    refine V_dup2ir dX12_week_119 ?_
    refine V_ialds dX12_week_120 hM.a1222.2 rfl hg.2 (by decide) (up2n (by omega)) ?_
    refine V_iload dX12_week_121 rfl ?_
    refine V_iadd dX12_week_122 ?_
    refine V_iast dX12_week_123 hM.a1222.2 rfl hg.2 (by decide) ?_
    refine V_ii1 dX12_week_124 (by decide) (noL_r _) ?_
    refine V_goto dX12_week_127 ?_
    exact V.sub (lsS (lsE (by rw [nI_1]) (lsN ls0))) (by unfold spM loM at kk; rw [bI_f (fun h => h hc82)] at kk; exact kk)
  · refine V_const dX12_week_85 ?_
    refine V_goto dX12_week_86 ?_
    refine V_invV (As := [_, _, _, _]) mv_X12_part lk_X12_150 dX12_week_90 (c := 12) (by decide) rfl rfl hM.1 rfl rfl (Nat.le_of_ble_eq_true rfl) ⟨⟨by decide, by decide⟩, by decide, by decide⟩ (sem_X12_part hM hk.2 hd ?_)
    refine V_imul dX12_week_93 ?_
    refine V_const dX12_week_94 ?_
    refine V_idiv dX12_week_97 (by decide) ?_
    refine V_is2 dX12_week_98 (by decide) (noL_i _) ?_
    refine V_aload dX12_week_99 rfl ?_
    refine V_getRs fk_X12_34 dX12_week_100 hM.1 hM.a1213.1 ?_
    refine V_iload dX12_week_103 rfl ?_
    refine V_dup2ir dX12_week_104 ?_
    refine V_iald dX12_week_105 hM.a1213.2 rfl (by omega) (by decide) ?_
    refine V_iload dX12_week_106 rfl ?_
    refine V_isub dX12_week_107 ?_
    refine V_iast dX12_week_108 hM.a1213.2 rfl (by omega) (by decide) ?_
    refine V_aload dX12_week_109 rfl ?_
    refine V_getRs fk_X12_61 dX12_week_110 hM.1 hM.a1222.1 ?_
    refine V_aload dX12_week_113 rfl ?_
    refine V_getRs fk_X12_46 dX12_week_114 hM.1 hM.a1217.1 ?_
    refine V_iload dX12_week_117 rfl ?_
    refine V_ialds dX12_week_118 hM.a1217.2 rfl (by omega) (by decide) ((up2n (by omega)).trans hg.1) ?_
    refine V_dup2ir dX12_week_119 ?_
    refine V_ialds dX12_week_120 hM.a1222.2 rfl hg.2 (by decide) (up2n (by omega)) ?_
    refine V_iload dX12_week_121 rfl ?_
    refine V_iadd dX12_week_122 ?_
    refine V_iast dX12_week_123 hM.a1222.2 rfl hg.2 (by decide) ?_
    refine V_ii1 dX12_week_124 (by decide) (noL_r _) ?_
    refine V_goto dX12_week_127 ?_
    exact V.sub (lsS (lsE (by rw [nI_1]) (lsN ls0))) (by unfold spM loM at kk; rw [bI_t hc82] at kk; exact kk)
theorem lp_X12_week1 {l : Launch} {D : va_G} {A : Nat → Prop} {z : Nat} {t : TT} {I : MI} {R : MR} {B : MR} {m N : Nat} {w : Int32} {kf gf : Nat → Nat} {K7 K8 K13 : Nat → Int32} {Φ : PP} (hM : MSt m t R) (hN : I 1201 m = nI N) (hN2 : N ≤ 300) (hw : I 1200 m = w) (hk : ∀ l, l < N → K7 l = nI (kf l) ∧ kf l < 4) (hg : ∀ l, l < N → K13 l = nI (gf l) ∧ gf l < 300) (hd : ∀ l, l < N → 0 ≤ (w - K8 l) / 4) : ∀ (n i : Nat) (J : MI), J (m + 7) = K7 → J (m + 8) = K8 → J (m + 13) = K13 → i + n = N → V l D A (rmm 2 0 0) mX12_week (KS D A 0 0 Φ) 0 0 z t I R (itr (wk1 m kf gf w) i n J) B 130 [some (va_rf (some m)), none, none] [] → V l D A (rmm 2 0 0) mX12_week (KS D A 0 0 Φ) 0 0 z t I R J B 14 [some (va_rf (some m)), some (.int (nI i)), none] [] := by
  intro n
  induction n with
  | zero =>
    intro i J h7 h8 h13 hin kk
    have hi : i = N := by omega
    subst hi
    refine V_iload dX12_week_14 rfl ?_
    refine V_aload dX12_week_15 rfl ?_
    refine V_getIs fk_X12_126 dX12_week_16 hM.1 hN ?_
    refine V_icmp_ge dX12_week_19 (fun hc19 => ?_) (fun hc19 => ?_)
    · exact V.sub (lsS (lsN (lsN ls0))) kk
    · exact absurd (Int32.le_refl _) hc19
  | succ n ih =>
    intro i J h7 h8 h13 hin kk
    have hi : i < N := by omega
    have c7 : cmM m i w J (m + 7) = K7 := by rw [← h7]; unfold cmM; split <;> first | rfl | exact up2_ne _ _ _ (by omega)
    have c8 : cmM m i w J (m + 8) = K8 := by rw [← h8]; unfold cmM; split <;> first | rfl | exact up2_ne _ _ _ (by omega)
    have c13 : cmM m i w J (m + 13) = K13 := by rw [← h13]; unfold cmM; split <;> first | rfl | exact up2_ne _ _ _ (by omega)
    have go : V l D A (rmm 2 0 0) mX12_week (KS D A 0 0 Φ) 0 0 z t I R (cmM m i w J) B 52 [some (va_rf (some m)), some (.int (nI i)), none] [] := by
      refine tl_X12_week (k := kf i) (g := gf i) hM hi hN hN2 hw (by rw [c7]; exact hk i hi) (by rw [c13]; exact hg i hi) (by rw [c8]; exact hd i hi) ?_
      refine ih (i + 1) _ ?_ ?_ ?_ (by omega) kk
      · unfold spM; rw [up2_ne _ _ _ (by omega), up2_ne _ _ _ (by omega)]; exact c7
      · unfold spM; rw [up2_ne _ _ _ (by omega), up2_ne _ _ _ (by omega)]; exact c8
      · unfold spM; rw [up2_ne _ _ _ (by omega), up2_ne _ _ _ (by omega)]; exact c13
    refine V_iload dX12_week_14 rfl ?_
    refine V_aload dX12_week_15 rfl ?_
    refine V_getIs fk_X12_126 dX12_week_16 hM.1 hN ?_
    refine V_icmp_ge dX12_week_19 (fun hc19 => ?_) (fun hc19 => ?_)
    · exact absurd hc19 (nI_ge (by omega) (by omega))
    · refine V_aload dX12_week_22 rfl ?_
      refine V_getRs fk_X12_40 dX12_week_23 hM.1 hM.a1215.1 ?_
      refine V_iload dX12_week_26 rfl ?_
      refine V_iald dX12_week_27 hM.a1215.2 rfl (by omega) (by decide) ?_
      refine V_const dX12_week_28 ?_
      refine V_icmp_eq dX12_week_29 (fun hc29 => ?_) (fun hc29 => ?_)
      · rw [show cmM m i w J = J from if_neg (fun h => h.1 hc29)] at go; exact go
      · refine V_aload dX12_week_32 rfl ?_
        refine V_getRs fk_X12_40 dX12_week_33 hM.1 hM.a1215.1 ?_
        refine V_iload dX12_week_36 rfl ?_
        refine V_iald dX12_week_37 hM.a1215.2 rfl (by omega) (by decide) ?_
        refine V_aload dX12_week_38 rfl ?_
        refine V_getIs fk_X12_131 dX12_week_39 hM.1 hw ?_
        refine V_icmp_gt dX12_week_42 (fun hc42 => ?_) (fun hc42 => ?_)
        · rw [show cmM m i w J = J from if_neg (fun h => by have h1 := h.2; rw [i_le] at h1; rw [i_lt] at hc42; omega)] at go; exact go
        · refine V_aload dX12_week_45 rfl ?_
          refine V_getRs fk_X12_40 dX12_week_46 hM.1 hM.a1215.1 ?_
          refine V_iload dX12_week_49 rfl ?_
          refine V_const dX12_week_50 ?_
          refine V_iast dX12_week_51 hM.a1215.2 rfl (by omega) (by decide) ?_
          rw [show cmM m i w J = up2 J (m + 11) i (-1) from if_pos ⟨hc29, by rw [i_lt] at hc42; rw [i_le]; omega⟩] at go; exact go
end
