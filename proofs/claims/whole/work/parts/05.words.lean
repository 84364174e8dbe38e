/-! THE WORDS that every method of the small machine may use; all of them are the tables' -/
def xwl (q : String × Nat × Nat × Nat) : List Cond := match xMT[q.2.2.1]? with
  | some y => if q.2.2.2 = 0 then [.methodLink q.1 q.2.1 y.1, .instanceMethod y.1, .selects y.1.cls y.1 y.1, .initialized y.1.cls]
      else if q.2.2.2 = 1 then [.methodLink q.1 q.2.1 y.1, .static y.1, .initialized y.1.cls]
      else if q.2.2.2 = 2 then [.methodLink q.1 q.2.1 y.1, .instanceMethod y.1, .initialized y.1.cls]
      else [.instanceMethod y.1, .initialized y.1.cls]
  | none => []
def xwf (q : String × Nat × Nat × Nat) : List Cond := match vwCl[q.2.2.1]? with
  | some r => [.fieldLink q.1 q.2.1 r.1 (r.2.1 q.2.2.2).2.1 (r.2.1 q.2.2.2).2.2.1]
  | none => []
def xwc (q : String × Nat × Int × Bool) : Cond := if q.2.2.2 then .constantLong q.1 q.2.1 (Int64.ofInt q.2.2.1) else .constant q.1 q.2.1 (Int32.ofInt q.2.2.1)
def xWcode : List Cond := (xMT.take 202).map (fun q => .code q.1 q.2.1 q.2.2.1 q.2.2.2.1)
def xWlink : List Cond := xLT.flatMap xwl
def xWfield : List Cond := xFT.flatMap xwf
def xWlay : List Cond := vwCl.flatMap (fun q => u_ws q.1 q.2.1 q.2.2)
def xWinst : List Cond := vwCl.flatMap (fun q => [.instantiable q.1 q.2.2, .initialized q.1])
def xWconst : List Cond := xCT.map xwc
def xWclass : List Cond := xKT.map (fun q => .classLink q.1 q.2.1 q.2.2)
def xWarr : List Cond := [.arrayClass .int, .arrayClass .long, .arrayClass .byte]
def xWobj : List Cond := xOI.map (fun q => .methodLink q.1 q.2 objectInit) ++ [.instanceMethod objectInit, .code objectInit ⟨#[0xb1]⟩ 1 none]
def xWcopy : List Cond := xCO.map (fun q => .methodLink q.1 q.2 arraycopyName) ++ [.native arraycopyName, .static arraycopyName, .initialized "java/lang/System", .fieldLink RX8 310 RX8 "KIND_ABOVE" "[I"]
def xTs : List Cond := xWcode ++ (xWlink ++ (xWfield ++ (xWlay ++ (xWinst ++ (xWconst ++ (xWclass ++ (xWarr ++ (xWobj ++ xWcopy))))))))
theorem xap_0 {w : Cond} (h : w ∈ tables_1) : w ∈ lw_tbl := List.mem_append_right _ h
theorem xap_1 {w : Cond} (h : w ∈ tables_1_1) : w ∈ lw_tbl := xap_0 (List.mem_append_left _ h)
theorem xap_2 {w : Cond} (h : w ∈ tables_1_2) : w ∈ lw_tbl := xap_0 (List.mem_append_right _ (List.mem_append_left _ h))
theorem xap_3 {w : Cond} (h : w ∈ tables_1_3) : w ∈ lw_tbl := xap_0 (List.mem_append_right _ (List.mem_append_right _ (List.mem_append_left _ h)))
theorem xap_4 {w : Cond} (h : w ∈ tables_1_4) : w ∈ lw_tbl := xap_0 (List.mem_append_right _ (List.mem_append_right _ (List.mem_append_right _ (List.mem_append_left _ h))))
theorem xap_5 {w : Cond} (h : w ∈ tables_1_5) : w ∈ lw_tbl := xap_0 (List.mem_append_right _ (List.mem_append_right _ (List.mem_append_right _ (List.mem_append_right _ (List.mem_append_left _ h)))))
theorem xap_6 {w : Cond} (h : w ∈ tables_1_6) : w ∈ lw_tbl := xap_0 (List.mem_append_right _ (List.mem_append_right _ (List.mem_append_right _ (List.mem_append_right _ (List.mem_append_right _ (h))))))
theorem xcw_0 : Cond.code yX0_init cX0_init 1 none ∈ lw_tbl := xap_1 (List.mem_of_getElem? (i := 146) rfl)
theorem xcw_1 : Cond.code yX0_begin cX0_begin 2 none ∈ lw_tbl := xap_2 (List.mem_of_getElem? (i := 204) rfl)
theorem xcw_2 : Cond.code yX0_add cX0_add 4 (some .int) ∈ lw_tbl := xap_2 (List.mem_of_getElem? (i := 220) rfl)
theorem xcw_3 : Cond.code yX0_rowFor cX0_rowFor 3 (some .int) ∈ lw_tbl := xap_2 (List.mem_of_getElem? (i := 127) rfl)
theorem xcw_4 : Cond.code yX0_locks cX0_locks 2 (some .boolean) ∈ lw_tbl := xap_2 (List.mem_of_getElem? (i := 140) rfl)
theorem xcw_5 : Cond.code yX0_isAskedFor cX0_isAskedFor 4 (some .boolean) ∈ lw_tbl := xap_3 (List.mem_of_getElem? (i := 8) rfl)
theorem xcw_6 : Cond.code yX0_namesInRows cX0_namesInRows 4 (some .int) ∈ lw_tbl := xap_2 (List.mem_of_getElem? (i := 236) rfl)
theorem xcw_7 : Cond.code yX0_become cX0_become 2 none ∈ lw_tbl := xap_3 (List.mem_of_getElem? (i := 151) rfl)
theorem xcw_8 : Cond.code yX1_init cX1_init 1 none ∈ lw_tbl := xap_1 (List.mem_of_getElem? (i := 90) rfl)
theorem xcw_9 : Cond.code yX1_add cX1_add 4 none ∈ lw_tbl := xap_3 (List.mem_of_getElem? (i := 74) rfl)
theorem xcw_10 : Cond.code yX1_cut cX1_cut 3 (some .int) ∈ lw_tbl := xap_2 (List.mem_of_getElem? (i := 192) rfl)
theorem xcw_11 : Cond.code yX1_dropOldest cX1_dropOldest 4 none ∈ lw_tbl := xap_2 (List.mem_of_getElem? (i := 196) rfl)
theorem xcw_12 : Cond.code yX1_wasAt cX1_wasAt 4 (some .int) ∈ lw_tbl := xap_2 (List.mem_of_getElem? (i := 184) rfl)
theorem xcw_13 : Cond.code yX1_become cX1_become 2 none ∈ lw_tbl := xap_3 (List.mem_of_getElem? (i := 146) rfl)
theorem xcw_14 : Cond.code yX2_init cX2_init 1 none ∈ lw_tbl := xap_1 (List.mem_of_getElem? (i := 84) rfl)
theorem xcw_15 : Cond.code yX2_begin cX2_begin 2 none ∈ lw_tbl := xap_2 (List.mem_of_getElem? (i := 93) rfl)
theorem xcw_16 : Cond.code yX2_stored cX2_stored 1 (some .int) ∈ lw_tbl := xap_2 (List.mem_of_getElem? (i := 131) rfl)
theorem xcw_17 : Cond.code yX2_isFolderOf cX2_isFolderOf 3 (some .boolean) ∈ lw_tbl := xap_2 (List.mem_of_getElem? (i := 106) rfl)
theorem xcw_18 : Cond.code yX2_apply cX2_apply 3 none ∈ lw_tbl := xap_3 (List.mem_of_getElem? (i := 70) rfl)
theorem xcw_19 : Cond.code yX2_endRepack cX2_endRepack 1 none ∈ lw_tbl := xap_3 (List.mem_of_getElem? (i := 61) rfl)
theorem xin_code_0 : ∀ w ∈ (xWcode.drop 0).take 20, w ∈ lw_tbl := by
  have h : (xWcode.drop 0).take 20 = [Cond.code yX0_init cX0_init 1 none, Cond.code yX0_begin cX0_begin 2 none, Cond.code yX0_add cX0_add 4 (some .int), Cond.code yX0_rowFor cX0_rowFor 3 (some .int), Cond.code yX0_locks cX0_locks 2 (some .boolean), Cond.code yX0_isAskedFor cX0_isAskedFor 4 (some .boolean), Cond.code yX0_namesInRows cX0_namesInRows 4 (some .int), Cond.code yX0_become cX0_become 2 none, Cond.code yX1_init cX1_init 1 none, Cond.code yX1_add cX1_add 4 none, Cond.code yX1_cut cX1_cut 3 (some .int), Cond.code yX1_dropOldest cX1_dropOldest 4 none, Cond.code yX1_wasAt cX1_wasAt 4 (some .int), Cond.code yX1_become cX1_become 2 none, Cond.code yX2_init cX2_init 1 none, Cond.code yX2_begin cX2_begin 2 none, Cond.code yX2_stored cX2_stored 1 (some .int), Cond.code yX2_isFolderOf cX2_isFolderOf 3 (some .boolean), Cond.code yX2_apply cX2_apply 3 none, Cond.code yX2_endRepack cX2_endRepack 1 none] := rfl
  rw [h]
  exact List.forall_mem_cons.mpr ⟨xcw_0, List.forall_mem_cons.mpr ⟨xcw_1, List.forall_mem_cons.mpr ⟨xcw_2, List.forall_mem_cons.mpr ⟨xcw_3, List.forall_mem_cons.mpr ⟨xcw_4, List.forall_mem_cons.mpr ⟨xcw_5, List.forall_mem_cons.mpr ⟨xcw_6, List.forall_mem_cons.mpr ⟨xcw_7, List.forall_mem_cons.mpr ⟨xcw_8, List.forall_mem_cons.mpr ⟨xcw_9, List.forall_mem_cons.mpr ⟨xcw_10, List.forall_mem_cons.mpr ⟨xcw_11, List.forall_mem_cons.mpr ⟨xcw_12, List.forall_mem_cons.mpr ⟨xcw_13, List.forall_mem_cons.mpr ⟨xcw_14, List.forall_mem_cons.mpr ⟨xcw_15, List.forall_mem_cons.mpr ⟨xcw_16, List.forall_mem_cons.mpr ⟨xcw_17, List.forall_mem_cons.mpr ⟨xcw_18, List.forall_mem_cons.mpr ⟨xcw_19, fun _ h => absurd h List.not_mem_nil⟩⟩⟩⟩⟩⟩⟩⟩⟩⟩⟩⟩⟩⟩⟩⟩⟩⟩⟩⟩
theorem xcw_20 : Cond.code yX2_become cX2_become 2 none ∈ lw_tbl := xap_3 (List.mem_of_getElem? (i := 142) rfl)
theorem xcw_21 : Cond.code yX3_init cX3_init 1 none ∈ lw_tbl := xap_1 (List.mem_of_getElem? (i := 230) rfl)
theorem xcw_22 : Cond.code yX3_run cX3_run 6 none ∈ lw_tbl := xap_3 (List.mem_of_getElem? (i := 113) rfl)
theorem xcw_23 : Cond.code yX3_letGo cX3_letGo 10 none ∈ lw_tbl := xap_3 (List.mem_of_getElem? (i := 117) rfl)
theorem xcw_24 : Cond.code yX3_noteGone cX3_noteGone 3 none ∈ lw_tbl := xap_3 (List.mem_of_getElem? (i := 121) rfl)
theorem xcw_25 : Cond.code yX3_noteOrder cX3_noteOrder 6 none ∈ lw_tbl := xap_3 (List.mem_of_getElem? (i := 126) rfl)
theorem xcw_26 : Cond.code yX4_init cX4_init 2 none ∈ lw_tbl := xap_1 (List.mem_of_getElem? (i := 53) rfl)
theorem xcw_27 : Cond.code yX4_add cX4_add 3 (some .int) ∈ lw_tbl := xap_3 (List.mem_of_getElem? (i := 182) rfl)
theorem xcw_28 : Cond.code yX4_become cX4_become 2 none ∈ lw_tbl := xap_3 (List.mem_of_getElem? (i := 156) rfl)
theorem xcw_29 : Cond.code yX5_init cX5_init 2 none ∈ lw_tbl := xap_1 (List.mem_of_getElem? (i := 43) rfl)
theorem xcw_30 : Cond.code yX5_become cX5_become 3 none ∈ lw_tbl := xap_3 (List.mem_of_getElem? (i := 138) rfl)
theorem xcw_31 : Cond.code yX5_isName cX5_isName 2 (some .boolean) ∈ lw_tbl := xap_2 (List.mem_of_getElem? (i := 115) rfl)
theorem xcw_32 : Cond.code yX5_allNames cX5_allNames 1 (some .int) ∈ lw_tbl := xap_2 (List.mem_of_getElem? (i := 145) rfl)
theorem xcw_33 : Cond.code yX5_nameFor cX5_nameFor 5 (some .int) ∈ lw_tbl := xap_2 (List.mem_of_getElem? (i := 85) rfl)
theorem xcw_34 : Cond.code yX5_joinKin cX5_joinKin 3 none ∈ lw_tbl := xap_2 (List.mem_of_getElem? (i := 102) rfl)
theorem xcw_35 : Cond.code yX5_namesUnder cX5_namesUnder 4 (some .int) ∈ lw_tbl := xap_2 (List.mem_of_getElem? (i := 167) rfl)
theorem xcw_36 : Cond.code yX5_namesStored cX5_namesStored 3 (some .int) ∈ lw_tbl := xap_3 (List.mem_of_getElem? (i := 33) rfl)
theorem xcw_37 : Cond.code yX5_namesWithValue cX5_namesWithValue 3 (some .int) ∈ lw_tbl := xap_2 (List.mem_of_getElem? (i := 162) rfl)
theorem xcw_38 : Cond.code yX5_placeAmong cX5_placeAmong 5 (some .int) ∈ lw_tbl := xap_2 (List.mem_of_getElem? (i := 149) rfl)
theorem xcw_39 : Cond.code yX5_numberAmong cX5_numberAmong 4 (some .int) ∈ lw_tbl := xap_2 (List.mem_of_getElem? (i := 171) rfl)
theorem xin_code_1 : ∀ w ∈ (xWcode.drop 20).take 20, w ∈ lw_tbl := by
  have h : (xWcode.drop 20).take 20 = [Cond.code yX2_become cX2_become 2 none, Cond.code yX3_init cX3_init 1 none, Cond.code yX3_run cX3_run 6 none, Cond.code yX3_letGo cX3_letGo 10 none, Cond.code yX3_noteGone cX3_noteGone 3 none, Cond.code yX3_noteOrder cX3_noteOrder 6 none, Cond.code yX4_init cX4_init 2 none, Cond.code yX4_add cX4_add 3 (some .int), Cond.code yX4_become cX4_become 2 none, Cond.code yX5_init cX5_init 2 none, Cond.code yX5_become cX5_become 3 none, Cond.code yX5_isName cX5_isName 2 (some .boolean), Cond.code yX5_allNames cX5_allNames 1 (some .int), Cond.code yX5_nameFor cX5_nameFor 5 (some .int), Cond.code yX5_joinKin cX5_joinKin 3 none, Cond.code yX5_namesUnder cX5_namesUnder 4 (some .int), Cond.code yX5_namesStored cX5_namesStored 3 (some .int), Cond.code yX5_namesWithValue cX5_namesWithValue 3 (some .int), Cond.code yX5_placeAmong cX5_placeAmong 5 (some .int), Cond.code yX5_numberAmong cX5_numberAmong 4 (some .int)] := rfl
  rw [h]
  exact List.forall_mem_cons.mpr ⟨xcw_20, List.forall_mem_cons.mpr ⟨xcw_21, List.forall_mem_cons.mpr ⟨xcw_22, List.forall_mem_cons.mpr ⟨xcw_23, List.forall_mem_cons.mpr ⟨xcw_24, List.forall_mem_cons.mpr ⟨xcw_25, List.forall_mem_cons.mpr ⟨xcw_26, List.forall_mem_cons.mpr ⟨xcw_27, List.forall_mem_cons.mpr ⟨xcw_28, List.forall_mem_cons.mpr ⟨xcw_29, List.forall_mem_cons.mpr ⟨xcw_30, List.forall_mem_cons.mpr ⟨xcw_31, List.forall_mem_cons.mpr ⟨xcw_32, List.forall_mem_cons.mpr ⟨xcw_33, List.forall_mem_cons.mpr ⟨xcw_34, List.forall_mem_cons.mpr ⟨xcw_35, List.forall_mem_cons.mpr ⟨xcw_36, List.forall_mem_cons.mpr ⟨xcw_37, List.forall_mem_cons.mpr ⟨xcw_38, List.forall_mem_cons.mpr ⟨xcw_39, fun _ h => absurd h List.not_mem_nil⟩⟩⟩⟩⟩⟩⟩⟩⟩⟩⟩⟩⟩⟩⟩⟩⟩⟩⟩⟩
theorem xcw_40 : Cond.code yX5_valueOf cX5_valueOf 4 (some .int) ∈ lw_tbl := xap_2 (List.mem_of_getElem? (i := 119) rfl)
theorem xcw_41 : Cond.code yX5_isDeal cX5_isDeal 2 (some .boolean) ∈ lw_tbl := xap_2 (List.mem_of_getElem? (i := 212) rfl)
theorem xcw_42 : Cond.code yX5_isSet cX5_isSet 2 (some .boolean) ∈ lw_tbl := xap_3 (List.mem_of_getElem? (i := 165) rfl)
theorem xcw_43 : Cond.code yX5_allDeals cX5_allDeals 3 (some .int) ∈ lw_tbl := xap_3 (List.mem_of_getElem? (i := 86) rfl)
theorem xcw_44 : Cond.code yX5_dealsThatCanGo cX5_dealsThatCanGo 2 (some .int) ∈ lw_tbl := xap_3 (List.mem_of_getElem? (i := 109) rfl)
theorem xcw_45 : Cond.code yX5_committing cX5_committing 2 (some .int) ∈ lw_tbl := xap_2 (List.mem_of_getElem? (i := 123) rfl)
theorem xcw_46 : Cond.code yX5_lockerOf cX5_lockerOf 3 (some .int) ∈ lw_tbl := xap_2 (List.mem_of_getElem? (i := 136) rfl)
theorem xcw_47 : Cond.code yX5_namesOfOthers cX5_namesOfOthers 6 (some .int) ∈ lw_tbl := xap_2 (List.mem_of_getElem? (i := 232) rfl)
theorem xcw_48 : Cond.code yX5_wrongOf cX5_wrongOf 3 (some .int) ∈ lw_tbl := xap_2 (List.mem_of_getElem? (i := 228) rfl)
theorem xcw_49 : Cond.code yX5_wrongBy cX5_wrongBy 8 (some .int) ∈ lw_tbl := xap_3 (List.mem_of_getElem? (i := 0) rfl)
theorem xcw_50 : Cond.code yX5_namesThere cX5_namesThere 6 (some .int) ∈ lw_tbl := xap_3 (List.mem_of_getElem? (i := 4) rfl)
theorem xcw_51 : Cond.code yX5_takeSteps cX5_takeSteps 4 (some .int) ∈ lw_tbl := xap_3 (List.mem_of_getElem? (i := 47) rfl)
theorem xcw_52 : Cond.code yX5_stepsLeft cX5_stepsLeft 2 (some .int) ∈ lw_tbl := xap_3 (List.mem_of_getElem? (i := 17) rfl)
theorem xcw_53 : Cond.code yX5_stepOfDeal cX5_stepOfDeal 3 (some .boolean) ∈ lw_tbl := xap_3 (List.mem_of_getElem? (i := 66) rfl)
theorem xcw_54 : Cond.code yX5_beginRepack cX5_beginRepack 2 none ∈ lw_tbl := xap_3 (List.mem_of_getElem? (i := 29) rfl)
theorem xcw_55 : Cond.code yX5_stepOfRepack cX5_stepOfRepack 3 (some .boolean) ∈ lw_tbl := xap_3 (List.mem_of_getElem? (i := 51) rfl)
theorem xcw_56 : Cond.code yX5_namesBehind cX5_namesBehind 5 (some .int) ∈ lw_tbl := xap_3 (List.mem_of_getElem? (i := 56) rfl)
theorem xcw_57 : Cond.code yX5_namesWritten cX5_namesWritten 3 (some .int) ∈ lw_tbl := xap_3 (List.mem_of_getElem? (i := 100) rfl)
theorem xcw_58 : Cond.code yX5_breakDown cX5_breakDown 3 (some .int) ∈ lw_tbl := xap_3 (List.mem_of_getElem? (i := 82) rfl)
theorem xcw_59 : Cond.code yX5_carryOutPlan cX5_carryOutPlan 3 none ∈ lw_tbl := xap_3 (List.mem_of_getElem? (i := 213) rfl)
theorem xin_code_2 : ∀ w ∈ (xWcode.drop 40).take 20, w ∈ lw_tbl := by
  have h : (xWcode.drop 40).take 20 = [Cond.code yX5_valueOf cX5_valueOf 4 (some .int), Cond.code yX5_isDeal cX5_isDeal 2 (some .boolean), Cond.code yX5_isSet cX5_isSet 2 (some .boolean), Cond.code yX5_allDeals cX5_allDeals 3 (some .int), Cond.code yX5_dealsThatCanGo cX5_dealsThatCanGo 2 (some .int), Cond.code yX5_committing cX5_committing 2 (some .int), Cond.code yX5_lockerOf cX5_lockerOf 3 (some .int), Cond.code yX5_namesOfOthers cX5_namesOfOthers 6 (some .int), Cond.code yX5_wrongOf cX5_wrongOf 3 (some .int), Cond.code yX5_wrongBy cX5_wrongBy 8 (some .int), Cond.code yX5_namesThere cX5_namesThere 6 (some .int), Cond.code yX5_takeSteps cX5_takeSteps 4 (some .int), Cond.code yX5_stepsLeft cX5_stepsLeft 2 (some .int), Cond.code yX5_stepOfDeal cX5_stepOfDeal 3 (some .boolean), Cond.code yX5_beginRepack cX5_beginRepack 2 none, Cond.code yX5_stepOfRepack cX5_stepOfRepack 3 (some .boolean), Cond.code yX5_namesBehind cX5_namesBehind 5 (some .int), Cond.code yX5_namesWritten cX5_namesWritten 3 (some .int), Cond.code yX5_breakDown cX5_breakDown 3 (some .int), Cond.code yX5_carryOutPlan cX5_carryOutPlan 3 none] := rfl
  rw [h]
  exact List.forall_mem_cons.mpr ⟨xcw_40, List.forall_mem_cons.mpr ⟨xcw_41, List.forall_mem_cons.mpr ⟨xcw_42, List.forall_mem_cons.mpr ⟨xcw_43, List.forall_mem_cons.mpr ⟨xcw_44, List.forall_mem_cons.mpr ⟨xcw_45, List.forall_mem_cons.mpr ⟨xcw_46, List.forall_mem_cons.mpr ⟨xcw_47, List.forall_mem_cons.mpr ⟨xcw_48, List.forall_mem_cons.mpr ⟨xcw_49, List.forall_mem_cons.mpr ⟨xcw_50, List.forall_mem_cons.mpr ⟨xcw_51, List.forall_mem_cons.mpr ⟨xcw_52, List.forall_mem_cons.mpr ⟨xcw_53, List.forall_mem_cons.mpr ⟨xcw_54, List.forall_mem_cons.mpr ⟨xcw_55, List.forall_mem_cons.mpr ⟨xcw_56, List.forall_mem_cons.mpr ⟨xcw_57, List.forall_mem_cons.mpr ⟨xcw_58, List.forall_mem_cons.mpr ⟨xcw_59, fun _ h => absurd h List.not_mem_nil⟩⟩⟩⟩⟩⟩⟩⟩⟩⟩⟩⟩⟩⟩⟩⟩⟩⟩⟩⟩
theorem xcw_60 : Cond.code yX6_init cX6_init 1 none ∈ lw_tbl := xap_2 (List.mem_of_getElem? (i := 32) rfl)
theorem xcw_61 : Cond.code yX6_begin cX6_begin 4 none ∈ lw_tbl := xap_4 (List.mem_of_getElem? (i := 19) rfl)
theorem xcw_62 : Cond.code yX6_holds cX6_holds 3 (some .boolean) ∈ lw_tbl := xap_4 (List.mem_of_getElem? (i := 39) rfl)
theorem xcw_63 : Cond.code yX6_narrowed cX6_narrowed 3 (some .long) ∈ lw_tbl := xap_4 (List.mem_of_getElem? (i := 27) rfl)
theorem xcw_64 : Cond.code yX7_init cX7_init 1 none ∈ lw_tbl := xap_1 (List.mem_of_getElem? (i := 26) rfl)
theorem xcw_65 : Cond.code yX7_fault cX7_fault 5 (some .int) ∈ lw_tbl := xap_2 (List.mem_of_getElem? (i := 81) rfl)
theorem xcw_66 : Cond.code yX7_key cX7_key 4 (some .long) ∈ lw_tbl := xap_2 (List.mem_of_getElem? (i := 89) rfl)
theorem xcw_67 : Cond.code yX7_parts cX7_parts 3 (some .int) ∈ lw_tbl := xap_2 (List.mem_of_getElem? (i := 98) rfl)
theorem xcw_68 : Cond.code yX8_init cX8_init 2 none ∈ lw_tbl := xap_1 (List.mem_of_getElem? (i := 18) rfl)
theorem xcw_69 : Cond.code yX8_feed cX8_feed 2 (some .int) ∈ lw_tbl := xap_2 (List.mem_of_getElem? (i := 73) rfl)
theorem xcw_70 : Cond.code yX8_name cX8_name 3 (some .int) ∈ lw_tbl := xap_2 (List.mem_of_getElem? (i := 77) rfl)
theorem xcw_71 : Cond.code yX8_of cX8_of 4 (some .int) ∈ lw_tbl := xap_2 (List.mem_of_getElem? (i := 111) rfl)
theorem xcw_72 : Cond.code yX8_folder cX8_folder 3 (some .int) ∈ lw_tbl := xap_2 (List.mem_of_getElem? (i := 153) rfl)
theorem xcw_73 : Cond.code yX8_list cX8_list 4 (some .int) ∈ lw_tbl := xap_2 (List.mem_of_getElem? (i := 158) rfl)
theorem xcw_74 : Cond.code yX8_journal cX8_journal 5 (some .int) ∈ lw_tbl := xap_2 (List.mem_of_getElem? (i := 176) rfl)
theorem xcw_75 : Cond.code yX8_at cX8_at 4 (some .int) ∈ lw_tbl := xap_2 (List.mem_of_getElem? (i := 180) rfl)
theorem xcw_76 : Cond.code yX8_expire cX8_expire 4 (some .int) ∈ lw_tbl := xap_2 (List.mem_of_getElem? (i := 188) rfl)
theorem xcw_77 : Cond.code yX8_deal cX8_deal 3 (some .int) ∈ lw_tbl := xap_2 (List.mem_of_getElem? (i := 200) rfl)
theorem xcw_78 : Cond.code yX8_put cX8_put 6 (some .int) ∈ lw_tbl := xap_2 (List.mem_of_getElem? (i := 208) rfl)
theorem xcw_79 : Cond.code yX8_prepare cX8_prepare 3 (some .int) ∈ lw_tbl := xap_2 (List.mem_of_getElem? (i := 224) rfl)
theorem xin_code_3 : ∀ w ∈ (xWcode.drop 60).take 20, w ∈ lw_tbl := by
  have h : (xWcode.drop 60).take 20 = [Cond.code yX6_init cX6_init 1 none, Cond.code yX6_begin cX6_begin 4 none, Cond.code yX6_holds cX6_holds 3 (some .boolean), Cond.code yX6_narrowed cX6_narrowed 3 (some .long), Cond.code yX7_init cX7_init 1 none, Cond.code yX7_fault cX7_fault 5 (some .int), Cond.code yX7_key cX7_key 4 (some .long), Cond.code yX7_parts cX7_parts 3 (some .int), Cond.code yX8_init cX8_init 2 none, Cond.code yX8_feed cX8_feed 2 (some .int), Cond.code yX8_name cX8_name 3 (some .int), Cond.code yX8_of cX8_of 4 (some .int), Cond.code yX8_folder cX8_folder 3 (some .int), Cond.code yX8_list cX8_list 4 (some .int), Cond.code yX8_journal cX8_journal 5 (some .int), Cond.code yX8_at cX8_at 4 (some .int), Cond.code yX8_expire cX8_expire 4 (some .int), Cond.code yX8_deal cX8_deal 3 (some .int), Cond.code yX8_put cX8_put 6 (some .int), Cond.code yX8_prepare cX8_prepare 3 (some .int)] := rfl
  rw [h]
  exact List.forall_mem_cons.mpr ⟨xcw_60, List.forall_mem_cons.mpr ⟨xcw_61, List.forall_mem_cons.mpr ⟨xcw_62, List.forall_mem_cons.mpr ⟨xcw_63, List.forall_mem_cons.mpr ⟨xcw_64, List.forall_mem_cons.mpr ⟨xcw_65, List.forall_mem_cons.mpr ⟨xcw_66, List.forall_mem_cons.mpr ⟨xcw_67, List.forall_mem_cons.mpr ⟨xcw_68, List.forall_mem_cons.mpr ⟨xcw_69, List.forall_mem_cons.mpr ⟨xcw_70, List.forall_mem_cons.mpr ⟨xcw_71, List.forall_mem_cons.mpr ⟨xcw_72, List.forall_mem_cons.mpr ⟨xcw_73, List.forall_mem_cons.mpr ⟨xcw_74, List.forall_mem_cons.mpr ⟨xcw_75, List.forall_mem_cons.mpr ⟨xcw_76, List.forall_mem_cons.mpr ⟨xcw_77, List.forall_mem_cons.mpr ⟨xcw_78, List.forall_mem_cons.mpr ⟨xcw_79, fun _ h => absurd h List.not_mem_nil⟩⟩⟩⟩⟩⟩⟩⟩⟩⟩⟩⟩⟩⟩⟩⟩⟩⟩⟩⟩
theorem xcw_80 : Cond.code yX8_commit cX8_commit 2 (some .int) ∈ lw_tbl := xap_3 (List.mem_of_getElem? (i := 12) rfl)
theorem xcw_81 : Cond.code yX8_abandon cX8_abandon 2 (some .int) ∈ lw_tbl := xap_3 (List.mem_of_getElem? (i := 21) rfl)
theorem xcw_82 : Cond.code yX8_repack cX8_repack 1 (some .int) ∈ lw_tbl := xap_3 (List.mem_of_getElem? (i := 25) rfl)
theorem xcw_83 : Cond.code yX8_step cX8_step 3 (some .int) ∈ lw_tbl := xap_3 (List.mem_of_getElem? (i := 43) rfl)
theorem xcw_84 : Cond.code yX8_crash cX8_crash 1 (some .int) ∈ lw_tbl := xap_3 (List.mem_of_getElem? (i := 78) rfl)
theorem xcw_85 : Cond.code yX8_told cX8_told 4 (some .int) ∈ lw_tbl := xap_3 (List.mem_of_getElem? (i := 92) rfl)
theorem xcw_86 : Cond.code yX8_state cX8_state 2 (some .int) ∈ lw_tbl := xap_3 (List.mem_of_getElem? (i := 96) rfl)
theorem xcw_87 : Cond.code yX8_after cX8_after 4 (some .int) ∈ lw_tbl := xap_3 (List.mem_of_getElem? (i := 134) rfl)
theorem xcw_88 : Cond.code yX8_orders cX8_orders 2 (some .int) ∈ lw_tbl := xap_3 (List.mem_of_getElem? (i := 161) rfl)
theorem xcw_89 : Cond.code yX8_could cX8_could 4 (some .int) ∈ lw_tbl := xap_3 (List.mem_of_getElem? (i := 170) rfl)
theorem xcw_90 : Cond.code yX8_see cX8_see 3 (some .int) ∈ lw_tbl := xap_3 (List.mem_of_getElem? (i := 174) rfl)
theorem xcw_91 : Cond.code yX8_fits cX8_fits 3 (some .int) ∈ lw_tbl := xap_3 (List.mem_of_getElem? (i := 186) rfl)
theorem xcw_92 : Cond.code yX8_odds cX8_odds 5 (some .long) ∈ lw_tbl := xap_3 (List.mem_of_getElem? (i := 190) rfl)
theorem xcw_93 : Cond.code yX8_mean cX8_mean 4 (some .long) ∈ lw_tbl := xap_3 (List.mem_of_getElem? (i := 201) rfl)
theorem xcw_94 : Cond.code yX8_plan cX8_plan 3 (some .int) ∈ lw_tbl := xap_3 (List.mem_of_getElem? (i := 205) rfl)
theorem xcw_95 : Cond.code yX8_ends cX8_ends 2 (some .int) ∈ lw_tbl := xap_3 (List.mem_of_getElem? (i := 209) rfl)
theorem xcw_96 : Cond.code yX8_book cX8_book 3 (some .int) ∈ lw_tbl := xap_3 (List.mem_of_getElem? (i := 219) rfl)
theorem xcw_97 : Cond.code yX8_looked cX8_looked 2 (some .int) ∈ lw_tbl := xap_3 (List.mem_of_getElem? (i := 223) rfl)
theorem xcw_98 : Cond.code yX8_judge cX8_judge 5 (some .int) ∈ lw_tbl := xap_3 (List.mem_of_getElem? (i := 227) rfl)
theorem xcw_99 : Cond.code yX8_image cX8_image 1 (some .int) ∈ lw_tbl := xap_3 (List.mem_of_getElem? (i := 234) rfl)
theorem xin_code_4 : ∀ w ∈ (xWcode.drop 80).take 20, w ∈ lw_tbl := by
  have h : (xWcode.drop 80).take 20 = [Cond.code yX8_commit cX8_commit 2 (some .int), Cond.code yX8_abandon cX8_abandon 2 (some .int), Cond.code yX8_repack cX8_repack 1 (some .int), Cond.code yX8_step cX8_step 3 (some .int), Cond.code yX8_crash cX8_crash 1 (some .int), Cond.code yX8_told cX8_told 4 (some .int), Cond.code yX8_state cX8_state 2 (some .int), Cond.code yX8_after cX8_after 4 (some .int), Cond.code yX8_orders cX8_orders 2 (some .int), Cond.code yX8_could cX8_could 4 (some .int), Cond.code yX8_see cX8_see 3 (some .int), Cond.code yX8_fits cX8_fits 3 (some .int), Cond.code yX8_odds cX8_odds 5 (some .long), Cond.code yX8_mean cX8_mean 4 (some .long), Cond.code yX8_plan cX8_plan 3 (some .int), Cond.code yX8_ends cX8_ends 2 (some .int), Cond.code yX8_book cX8_book 3 (some .int), Cond.code yX8_looked cX8_looked 2 (some .int), Cond.code yX8_judge cX8_judge 5 (some .int), Cond.code yX8_image cX8_image 1 (some .int)] := rfl
  rw [h]
  exact List.forall_mem_cons.mpr ⟨xcw_80, List.forall_mem_cons.mpr ⟨xcw_81, List.forall_mem_cons.mpr ⟨xcw_82, List.forall_mem_cons.mpr ⟨xcw_83, List.forall_mem_cons.mpr ⟨xcw_84, List.forall_mem_cons.mpr ⟨xcw_85, List.forall_mem_cons.mpr ⟨xcw_86, List.forall_mem_cons.mpr ⟨xcw_87, List.forall_mem_cons.mpr ⟨xcw_88, List.forall_mem_cons.mpr ⟨xcw_89, List.forall_mem_cons.mpr ⟨xcw_90, List.forall_mem_cons.mpr ⟨xcw_91, List.forall_mem_cons.mpr ⟨xcw_92, List.forall_mem_cons.mpr ⟨xcw_93, List.forall_mem_cons.mpr ⟨xcw_94, List.forall_mem_cons.mpr ⟨xcw_95, List.forall_mem_cons.mpr ⟨xcw_96, List.forall_mem_cons.mpr ⟨xcw_97, List.forall_mem_cons.mpr ⟨xcw_98, List.forall_mem_cons.mpr ⟨xcw_99, fun _ h => absurd h List.not_mem_nil⟩⟩⟩⟩⟩⟩⟩⟩⟩⟩⟩⟩⟩⟩⟩⟩⟩⟩⟩⟩
theorem xcw_100 : Cond.code yX8_undo cX8_undo 1 (some .int) ∈ lw_tbl := xap_3 (List.mem_of_getElem? (i := 238) rfl)
theorem xcw_101 : Cond.code yX8_taken cX8_taken 4 (some .int) ∈ lw_tbl := xap_4 (List.mem_of_getElem? (i := 2) rfl)
theorem xcw_102 : Cond.code yX8_count cX8_count 2 (some .int) ∈ lw_tbl := xap_4 (List.mem_of_getElem? (i := 11) rfl)
theorem xcw_103 : Cond.code yX8_tape cX8_tape 4 (some .int) ∈ lw_tbl := xap_4 (List.mem_of_getElem? (i := 15) rfl)
theorem xcw_104 : Cond.code yX8_item cX8_item 6 (some .int) ∈ lw_tbl := xap_4 (List.mem_of_getElem? (i := 23) rfl)
theorem xcw_105 : Cond.code yX8_read cX8_read 4 (some .long) ∈ lw_tbl := xap_4 (List.mem_of_getElem? (i := 31) rfl)
theorem xcw_106 : Cond.code yX8_shift cX8_shift 8 (some .int) ∈ lw_tbl := xap_4 (List.mem_of_getElem? (i := 35) rfl)
theorem xcw_107 : Cond.code yX8_tellByHand cX8_tellByHand 4 (some .int) ∈ lw_tbl := xap_3 (List.mem_of_getElem? (i := 178) rfl)
theorem xcw_108 : Cond.code yX8_mostThatCanGo cX8_mostThatCanGo 1 (some .int) ∈ lw_tbl := xap_3 (List.mem_of_getElem? (i := 105) rfl)
theorem xcw_109 : Cond.code yX8_isRevision cX8_isRevision 1 (some .boolean) ∈ lw_tbl := xap_2 (List.mem_of_getElem? (i := 215) rfl)
theorem xcw_110 : Cond.code yX8_isTape cX8_isTape 1 (some .boolean) ∈ lw_tbl := xap_3 (List.mem_of_getElem? (i := 230) rfl)
theorem xcw_111 : Cond.code yX8_isKindUnder cX8_isKindUnder 4 (some .boolean) ∈ lw_tbl := xap_4 (List.mem_of_getElem? (i := 5) rfl)
theorem xcw_112 : Cond.code yX8_partOfFraction cX8_partOfFraction 4 (some .long) ∈ lw_tbl := xap_3 (List.mem_of_getElem? (i := 194) rfl)
theorem xcw_113 : Cond.code yX8_commonDivisor cX8_commonDivisor 3 (some .int) ∈ lw_tbl := xap_3 (List.mem_of_getElem? (i := 197) rfl)
theorem xcw_114 : Cond.code yX9_init cX9_init 2 none ∈ lw_tbl := xap_4 (List.mem_of_getElem? (i := 45) rfl)
theorem xcw_115 : Cond.code yX9_within cX9_within 3 (some .boolean) ∈ lw_tbl := xap_4 (List.mem_of_getElem? (i := 180) rfl)
theorem xcw_116 : Cond.code yX9_isName cX9_isName 2 (some .boolean) ∈ lw_tbl := xap_4 (List.mem_of_getElem? (i := 204) rfl)
theorem xcw_117 : Cond.code yX9_isDeal cX9_isDeal 2 (some .boolean) ∈ lw_tbl := xap_5 (List.mem_of_getElem? (i := 40) rfl)
theorem xcw_118 : Cond.code yX9_isValue cX9_isValue 1 (some .boolean) ∈ lw_tbl := xap_5 (List.mem_of_getElem? (i := 43) rfl)
theorem xcw_119 : Cond.code yX9_feed cX9_feed 2 (some .int) ∈ lw_tbl := xap_4 (List.mem_of_getElem? (i := 177) rfl)
theorem xin_code_5 : ∀ w ∈ (xWcode.drop 100).take 20, w ∈ lw_tbl := by
  have h : (xWcode.drop 100).take 20 = [Cond.code yX8_undo cX8_undo 1 (some .int), Cond.code yX8_taken cX8_taken 4 (some .int), Cond.code yX8_count cX8_count 2 (some .int), Cond.code yX8_tape cX8_tape 4 (some .int), Cond.code yX8_item cX8_item 6 (some .int), Cond.code yX8_read cX8_read 4 (some .long), Cond.code yX8_shift cX8_shift 8 (some .int), Cond.code yX8_tellByHand cX8_tellByHand 4 (some .int), Cond.code yX8_mostThatCanGo cX8_mostThatCanGo 1 (some .int), Cond.code yX8_isRevision cX8_isRevision 1 (some .boolean), Cond.code yX8_isTape cX8_isTape 1 (some .boolean), Cond.code yX8_isKindUnder cX8_isKindUnder 4 (some .boolean), Cond.code yX8_partOfFraction cX8_partOfFraction 4 (some .long), Cond.code yX8_commonDivisor cX8_commonDivisor 3 (some .int), Cond.code yX9_init cX9_init 2 none, Cond.code yX9_within cX9_within 3 (some .boolean), Cond.code yX9_isName cX9_isName 2 (some .boolean), Cond.code yX9_isDeal cX9_isDeal 2 (some .boolean), Cond.code yX9_isValue cX9_isValue 1 (some .boolean), Cond.code yX9_feed cX9_feed 2 (some .int)] := rfl
  rw [h]
  exact List.forall_mem_cons.mpr ⟨xcw_100, List.forall_mem_cons.mpr ⟨xcw_101, List.forall_mem_cons.mpr ⟨xcw_102, List.forall_mem_cons.mpr ⟨xcw_103, List.forall_mem_cons.mpr ⟨xcw_104, List.forall_mem_cons.mpr ⟨xcw_105, List.forall_mem_cons.mpr ⟨xcw_106, List.forall_mem_cons.mpr ⟨xcw_107, List.forall_mem_cons.mpr ⟨xcw_108, List.forall_mem_cons.mpr ⟨xcw_109, List.forall_mem_cons.mpr ⟨xcw_110, List.forall_mem_cons.mpr ⟨xcw_111, List.forall_mem_cons.mpr ⟨xcw_112, List.forall_mem_cons.mpr ⟨xcw_113, List.forall_mem_cons.mpr ⟨xcw_114, List.forall_mem_cons.mpr ⟨xcw_115, List.forall_mem_cons.mpr ⟨xcw_116, List.forall_mem_cons.mpr ⟨xcw_117, List.forall_mem_cons.mpr ⟨xcw_118, List.forall_mem_cons.mpr ⟨xcw_119, fun _ h => absurd h List.not_mem_nil⟩⟩⟩⟩⟩⟩⟩⟩⟩⟩⟩⟩⟩⟩⟩⟩⟩⟩⟩⟩
theorem xcw_120 : Cond.code yX9_fault cX9_fault 5 (some .int) ∈ lw_tbl := xap_4 (List.mem_of_getElem? (i := 188) rfl)
theorem xcw_121 : Cond.code yX9_isText cX9_isText 3 (some .boolean) ∈ lw_tbl := xap_4 (List.mem_of_getElem? (i := 192) rfl)
theorem xcw_122 : Cond.code yX9_newName cX9_newName 4 (some .int) ∈ lw_tbl := xap_4 (List.mem_of_getElem? (i := 196) rfl)
theorem xcw_123 : Cond.code yX9_name cX9_name 4 (some .int) ∈ lw_tbl := xap_4 (List.mem_of_getElem? (i := 184) rfl)
theorem xcw_124 : Cond.code yX9_stored cX9_stored 2 (some .int) ∈ lw_tbl := xap_4 (List.mem_of_getElem? (i := 224) rfl)
theorem xcw_125 : Cond.code yX9_committing cX9_committing 2 (some .int) ∈ lw_tbl := xap_4 (List.mem_of_getElem? (i := 212) rfl)
theorem xcw_126 : Cond.code yX9_nameOf cX9_nameOf 3 (some .int) ∈ lw_tbl := xap_4 (List.mem_of_getElem? (i := 220) rfl)
theorem xcw_127 : Cond.code yX9_old cX9_old 3 (some .int) ∈ lw_tbl := xap_5 (List.mem_of_getElem? (i := 63) rfl)
theorem xcw_128 : Cond.code yX9_fresh cX9_fresh 3 (some .int) ∈ lw_tbl := xap_4 (List.mem_of_getElem? (i := 228) rfl)
theorem xcw_129 : Cond.code yX9_rowFor cX9_rowFor 4 (some .int) ∈ lw_tbl := xap_4 (List.mem_of_getElem? (i := 216) rfl)
theorem xcw_130 : Cond.code yX9_value cX9_value 4 (some .int) ∈ lw_tbl := xap_4 (List.mem_of_getElem? (i := 208) rfl)
theorem xcw_131 : Cond.code yX9_isFolder cX9_isFolder 4 (some .boolean) ∈ lw_tbl := xap_5 (List.mem_of_getElem? (i := 8) rfl)
theorem xcw_132 : Cond.code yX9_isBefore cX9_isBefore 4 (some .boolean) ∈ lw_tbl := xap_5 (List.mem_of_getElem? (i := 0) rfl)
theorem xcw_133 : Cond.code yX9_place cX9_place 4 (some .int) ∈ lw_tbl := xap_4 (List.mem_of_getElem? (i := 236) rfl)
theorem xcw_134 : Cond.code yX9_lockedBy cX9_lockedBy 4 (some .int) ∈ lw_tbl := xap_4 (List.mem_of_getElem? (i := 232) rfl)
theorem xcw_135 : Cond.code yX9_of cX9_of 3 (some .int) ∈ lw_tbl := xap_4 (List.mem_of_getElem? (i := 200) rfl)
theorem xcw_136 : Cond.code yX9_folder cX9_folder 3 (some .int) ∈ lw_tbl := xap_5 (List.mem_of_getElem? (i := 4) rfl)
theorem xcw_137 : Cond.code yX9_list cX9_list 6 (some .int) ∈ lw_tbl := xap_5 (List.mem_of_getElem? (i := 12) rfl)
theorem xcw_138 : Cond.code yX9_journal cX9_journal 4 (some .int) ∈ lw_tbl := xap_5 (List.mem_of_getElem? (i := 16) rfl)
theorem xcw_139 : Cond.code yX9_at cX9_at 5 (some .int) ∈ lw_tbl := xap_5 (List.mem_of_getElem? (i := 20) rfl)
theorem xin_code_6 : ∀ w ∈ (xWcode.drop 120).take 20, w ∈ lw_tbl := by
  have h : (xWcode.drop 120).take 20 = [Cond.code yX9_fault cX9_fault 5 (some .int), Cond.code yX9_isText cX9_isText 3 (some .boolean), Cond.code yX9_newName cX9_newName 4 (some .int), Cond.code yX9_name cX9_name 4 (some .int), Cond.code yX9_stored cX9_stored 2 (some .int), Cond.code yX9_committing cX9_committing 2 (some .int), Cond.code yX9_nameOf cX9_nameOf 3 (some .int), Cond.code yX9_old cX9_old 3 (some .int), Cond.code yX9_fresh cX9_fresh 3 (some .int), Cond.code yX9_rowFor cX9_rowFor 4 (some .int), Cond.code yX9_value cX9_value 4 (some .int), Cond.code yX9_isFolder cX9_isFolder 4 (some .boolean), Cond.code yX9_isBefore cX9_isBefore 4 (some .boolean), Cond.code yX9_place cX9_place 4 (some .int), Cond.code yX9_lockedBy cX9_lockedBy 4 (some .int), Cond.code yX9_of cX9_of 3 (some .int), Cond.code yX9_folder cX9_folder 3 (some .int), Cond.code yX9_list cX9_list 6 (some .int), Cond.code yX9_journal cX9_journal 4 (some .int), Cond.code yX9_at cX9_at 5 (some .int)] := rfl
  rw [h]
  exact List.forall_mem_cons.mpr ⟨xcw_120, List.forall_mem_cons.mpr ⟨xcw_121, List.forall_mem_cons.mpr ⟨xcw_122, List.forall_mem_cons.mpr ⟨xcw_123, List.forall_mem_cons.mpr ⟨xcw_124, List.forall_mem_cons.mpr ⟨xcw_125, List.forall_mem_cons.mpr ⟨xcw_126, List.forall_mem_cons.mpr ⟨xcw_127, List.forall_mem_cons.mpr ⟨xcw_128, List.forall_mem_cons.mpr ⟨xcw_129, List.forall_mem_cons.mpr ⟨xcw_130, List.forall_mem_cons.mpr ⟨xcw_131, List.forall_mem_cons.mpr ⟨xcw_132, List.forall_mem_cons.mpr ⟨xcw_133, List.forall_mem_cons.mpr ⟨xcw_134, List.forall_mem_cons.mpr ⟨xcw_135, List.forall_mem_cons.mpr ⟨xcw_136, List.forall_mem_cons.mpr ⟨xcw_137, List.forall_mem_cons.mpr ⟨xcw_138, List.forall_mem_cons.mpr ⟨xcw_139, fun _ h => absurd h List.not_mem_nil⟩⟩⟩⟩⟩⟩⟩⟩⟩⟩⟩⟩⟩⟩⟩⟩⟩⟩⟩⟩
theorem xcw_140 : Cond.code yX9_drops cX9_drops 3 none ∈ lw_tbl := xap_5 (List.mem_of_getElem? (i := 28) rfl)
theorem xcw_141 : Cond.code yX9_expire cX9_expire 4 (some .int) ∈ lw_tbl := xap_5 (List.mem_of_getElem? (i := 24) rfl)
theorem xcw_142 : Cond.code yX9_deal cX9_deal 3 (some .int) ∈ lw_tbl := xap_5 (List.mem_of_getElem? (i := 32) rfl)
theorem xcw_143 : Cond.code yX9_put cX9_put 6 (some .int) ∈ lw_tbl := xap_5 (List.mem_of_getElem? (i := 36) rfl)
theorem xcw_144 : Cond.code yX9_isAsked cX9_isAsked 5 (some .boolean) ∈ lw_tbl := xap_5 (List.mem_of_getElem? (i := 59) rfl)
theorem xcw_145 : Cond.code yX9_isComing cX9_isComing 5 (some .boolean) ∈ lw_tbl := xap_5 (List.mem_of_getElem? (i := 71) rfl)
theorem xcw_146 : Cond.code yX9_clashes cX9_clashes 3 (some .boolean) ∈ lw_tbl := xap_5 (List.mem_of_getElem? (i := 67) rfl)
theorem xcw_147 : Cond.code yX9_wrongOf cX9_wrongOf 6 (some .int) ∈ lw_tbl := xap_5 (List.mem_of_getElem? (i := 55) rfl)
theorem xcw_148 : Cond.code yX9_wrong cX9_wrong 3 (some .int) ∈ lw_tbl := xap_5 (List.mem_of_getElem? (i := 51) rfl)
theorem xcw_149 : Cond.code yX9_prepare cX9_prepare 3 (some .int) ∈ lw_tbl := xap_5 (List.mem_of_getElem? (i := 47) rfl)
theorem xcw_150 : Cond.code yX9_commit cX9_commit 2 (some .int) ∈ lw_tbl := xap_5 (List.mem_of_getElem? (i := 75) rfl)
theorem xcw_151 : Cond.code yX9_abandon cX9_abandon 2 (some .int) ∈ lw_tbl := xap_5 (List.mem_of_getElem? (i := 79) rfl)
theorem xcw_152 : Cond.code yX9_notes cX9_notes 5 none ∈ lw_tbl := xap_5 (List.mem_of_getElem? (i := 107) rfl)
theorem xcw_153 : Cond.code yX9_applies cX9_applies 5 none ∈ lw_tbl := xap_5 (List.mem_of_getElem? (i := 103) rfl)
theorem xcw_154 : Cond.code yX9_commits cX9_commits 2 (some .boolean) ∈ lw_tbl := xap_5 (List.mem_of_getElem? (i := 99) rfl)
theorem xcw_155 : Cond.code yX9_nextToReach cX9_nextToReach 3 (some .int) ∈ lw_tbl := xap_5 (List.mem_of_getElem? (i := 115) rfl)
theorem xcw_156 : Cond.code yX9_repacks cX9_repacks 3 (some .boolean) ∈ lw_tbl := xap_5 (List.mem_of_getElem? (i := 111) rfl)
theorem xcw_157 : Cond.code yX9_repack cX9_repack 3 (some .int) ∈ lw_tbl := xap_5 (List.mem_of_getElem? (i := 83) rfl)
theorem xcw_158 : Cond.code yX9_goes cX9_goes 2 (some .boolean) ∈ lw_tbl := xap_5 (List.mem_of_getElem? (i := 95) rfl)
theorem xcw_159 : Cond.code yX9_steps cX9_steps 4 (some .int) ∈ lw_tbl := xap_5 (List.mem_of_getElem? (i := 91) rfl)
theorem xin_code_7 : ∀ w ∈ (xWcode.drop 140).take 20, w ∈ lw_tbl := by
  have h : (xWcode.drop 140).take 20 = [Cond.code yX9_drops cX9_drops 3 none, Cond.code yX9_expire cX9_expire 4 (some .int), Cond.code yX9_deal cX9_deal 3 (some .int), Cond.code yX9_put cX9_put 6 (some .int), Cond.code yX9_isAsked cX9_isAsked 5 (some .boolean), Cond.code yX9_isComing cX9_isComing 5 (some .boolean), Cond.code yX9_clashes cX9_clashes 3 (some .boolean), Cond.code yX9_wrongOf cX9_wrongOf 6 (some .int), Cond.code yX9_wrong cX9_wrong 3 (some .int), Cond.code yX9_prepare cX9_prepare 3 (some .int), Cond.code yX9_commit cX9_commit 2 (some .int), Cond.code yX9_abandon cX9_abandon 2 (some .int), Cond.code yX9_notes cX9_notes 5 none, Cond.code yX9_applies cX9_applies 5 none, Cond.code yX9_commits cX9_commits 2 (some .boolean), Cond.code yX9_nextToReach cX9_nextToReach 3 (some .int), Cond.code yX9_repacks cX9_repacks 3 (some .boolean), Cond.code yX9_repack cX9_repack 3 (some .int), Cond.code yX9_goes cX9_goes 2 (some .boolean), Cond.code yX9_steps cX9_steps 4 (some .int)] := rfl
  rw [h]
  exact List.forall_mem_cons.mpr ⟨xcw_140, List.forall_mem_cons.mpr ⟨xcw_141, List.forall_mem_cons.mpr ⟨xcw_142, List.forall_mem_cons.mpr ⟨xcw_143, List.forall_mem_cons.mpr ⟨xcw_144, List.forall_mem_cons.mpr ⟨xcw_145, List.forall_mem_cons.mpr ⟨xcw_146, List.forall_mem_cons.mpr ⟨xcw_147, List.forall_mem_cons.mpr ⟨xcw_148, List.forall_mem_cons.mpr ⟨xcw_149, List.forall_mem_cons.mpr ⟨xcw_150, List.forall_mem_cons.mpr ⟨xcw_151, List.forall_mem_cons.mpr ⟨xcw_152, List.forall_mem_cons.mpr ⟨xcw_153, List.forall_mem_cons.mpr ⟨xcw_154, List.forall_mem_cons.mpr ⟨xcw_155, List.forall_mem_cons.mpr ⟨xcw_156, List.forall_mem_cons.mpr ⟨xcw_157, List.forall_mem_cons.mpr ⟨xcw_158, List.forall_mem_cons.mpr ⟨xcw_159, fun _ h => absurd h List.not_mem_nil⟩⟩⟩⟩⟩⟩⟩⟩⟩⟩⟩⟩⟩⟩⟩⟩⟩⟩⟩⟩
theorem xcw_160 : Cond.code yX9_step cX9_step 3 (some .int) ∈ lw_tbl := xap_5 (List.mem_of_getElem? (i := 87) rfl)
theorem xcw_161 : Cond.code yX9_deals cX9_deals 3 (some .int) ∈ lw_tbl := xap_5 (List.mem_of_getElem? (i := 127) rfl)
theorem xcw_162 : Cond.code yX9_crashes cX9_crashes 4 (some .int) ∈ lw_tbl := xap_5 (List.mem_of_getElem? (i := 123) rfl)
theorem xcw_163 : Cond.code yX9_crash cX9_crash 1 (some .int) ∈ lw_tbl := xap_5 (List.mem_of_getElem? (i := 119) rfl)
theorem xcw_164 : Cond.code yX9_told cX9_told 3 (some .int) ∈ lw_tbl := xap_5 (List.mem_of_getElem? (i := 131) rfl)
theorem xcw_165 : Cond.code yX9_allDeals cX9_allDeals 3 (some .int) ∈ lw_tbl := xap_5 (List.mem_of_getElem? (i := 143) rfl)
theorem xcw_166 : Cond.code yX9_wroteOnes cX9_wroteOnes 3 (some .int) ∈ lw_tbl := xap_5 (List.mem_of_getElem? (i := 139) rfl)
theorem xcw_167 : Cond.code yX9_state cX9_state 3 (some .int) ∈ lw_tbl := xap_5 (List.mem_of_getElem? (i := 135) rfl)
theorem xcw_168 : Cond.code yX9_after cX9_after 5 (some .int) ∈ lw_tbl := xap_5 (List.mem_of_getElem? (i := 172) rfl)
theorem xcw_169 : Cond.code yX9_isSet cX9_isSet 3 (some .boolean) ∈ lw_tbl := xap_5 (List.mem_of_getElem? (i := 151) rfl)
theorem xcw_170 : Cond.code yX9_canGo cX9_canGo 7 (some .boolean) ∈ lw_tbl := xap_5 (List.mem_of_getElem? (i := 168) rfl)
theorem xcw_171 : Cond.code yX9_isSeen cX9_isSeen 3 (some .boolean) ∈ lw_tbl := xap_5 (List.mem_of_getElem? (i := 164) rfl)
theorem xcw_172 : Cond.code yX9_tries cX9_tries 7 none ∈ lw_tbl := xap_5 (List.mem_of_getElem? (i := 160) rfl)
theorem xcw_173 : Cond.code yX9_all cX9_all 5 none ∈ lw_tbl := xap_5 (List.mem_of_getElem? (i := 156) rfl)
theorem xcw_174 : Cond.code yX9_most cX9_most 3 (some .int) ∈ lw_tbl := xap_5 (List.mem_of_getElem? (i := 147) rfl)
theorem xcw_175 : Cond.code yX9_orders cX9_orders 2 (some .int) ∈ lw_tbl := xap_5 (List.mem_of_getElem? (i := 184) rfl)
theorem xcw_176 : Cond.code yX9_could cX9_could 4 (some .int) ∈ lw_tbl := xap_5 (List.mem_of_getElem? (i := 188) rfl)
theorem xcw_177 : Cond.code yX9_see cX9_see 3 (some .int) ∈ lw_tbl := xap_5 (List.mem_of_getElem? (i := 192) rfl)
theorem xcw_178 : Cond.code yX9_fits cX9_fits 3 (some .int) ∈ lw_tbl := xap_5 (List.mem_of_getElem? (i := 196) rfl)
theorem xcw_179 : Cond.code yX9_part cX9_part 11 (some .long) ∈ lw_tbl := xap_5 (List.mem_of_getElem? (i := 204) rfl)
theorem xin_code_8 : ∀ w ∈ (xWcode.drop 160).take 20, w ∈ lw_tbl := by
  have h : (xWcode.drop 160).take 20 = [Cond.code yX9_step cX9_step 3 (some .int), Cond.code yX9_deals cX9_deals 3 (some .int), Cond.code yX9_crashes cX9_crashes 4 (some .int), Cond.code yX9_crash cX9_crash 1 (some .int), Cond.code yX9_told cX9_told 3 (some .int), Cond.code yX9_allDeals cX9_allDeals 3 (some .int), Cond.code yX9_wroteOnes cX9_wroteOnes 3 (some .int), Cond.code yX9_state cX9_state 3 (some .int), Cond.code yX9_after cX9_after 5 (some .int), Cond.code yX9_isSet cX9_isSet 3 (some .boolean), Cond.code yX9_canGo cX9_canGo 7 (some .boolean), Cond.code yX9_isSeen cX9_isSeen 3 (some .boolean), Cond.code yX9_tries cX9_tries 7 none, Cond.code yX9_all cX9_all 5 none, Cond.code yX9_most cX9_most 3 (some .int), Cond.code yX9_orders cX9_orders 2 (some .int), Cond.code yX9_could cX9_could 4 (some .int), Cond.code yX9_see cX9_see 3 (some .int), Cond.code yX9_fits cX9_fits 3 (some .int), Cond.code yX9_part cX9_part 11 (some .long)] := rfl
  rw [h]
  exact List.forall_mem_cons.mpr ⟨xcw_160, List.forall_mem_cons.mpr ⟨xcw_161, List.forall_mem_cons.mpr ⟨xcw_162, List.forall_mem_cons.mpr ⟨xcw_163, List.forall_mem_cons.mpr ⟨xcw_164, List.forall_mem_cons.mpr ⟨xcw_165, List.forall_mem_cons.mpr ⟨xcw_166, List.forall_mem_cons.mpr ⟨xcw_167, List.forall_mem_cons.mpr ⟨xcw_168, List.forall_mem_cons.mpr ⟨xcw_169, List.forall_mem_cons.mpr ⟨xcw_170, List.forall_mem_cons.mpr ⟨xcw_171, List.forall_mem_cons.mpr ⟨xcw_172, List.forall_mem_cons.mpr ⟨xcw_173, List.forall_mem_cons.mpr ⟨xcw_174, List.forall_mem_cons.mpr ⟨xcw_175, List.forall_mem_cons.mpr ⟨xcw_176, List.forall_mem_cons.mpr ⟨xcw_177, List.forall_mem_cons.mpr ⟨xcw_178, List.forall_mem_cons.mpr ⟨xcw_179, fun _ h => absurd h List.not_mem_nil⟩⟩⟩⟩⟩⟩⟩⟩⟩⟩⟩⟩⟩⟩⟩⟩⟩⟩⟩⟩
theorem xcw_180 : Cond.code yX9_odds cX9_odds 5 (some .long) ∈ lw_tbl := xap_5 (List.mem_of_getElem? (i := 200) rfl)
theorem xcw_181 : Cond.code yX9_mean cX9_mean 4 (some .long) ∈ lw_tbl := xap_5 (List.mem_of_getElem? (i := 211) rfl)
theorem xcw_182 : Cond.code yX9_plan cX9_plan 3 (some .int) ∈ lw_tbl := xap_5 (List.mem_of_getElem? (i := 215) rfl)
theorem xcw_183 : Cond.code yX9_ends cX9_ends 3 (some .int) ∈ lw_tbl := xap_5 (List.mem_of_getElem? (i := 219) rfl)
theorem xcw_184 : Cond.code yX9_book cX9_book 3 (some .int) ∈ lw_tbl := xap_5 (List.mem_of_getElem? (i := 223) rfl)
theorem xcw_185 : Cond.code yX9_looked cX9_looked 2 (some .int) ∈ lw_tbl := xap_5 (List.mem_of_getElem? (i := 227) rfl)
theorem xcw_186 : Cond.code yX9_judge cX9_judge 4 (some .int) ∈ lw_tbl := xap_5 (List.mem_of_getElem? (i := 231) rfl)
theorem xcw_187 : Cond.code yX9_keep cX9_keep 3 none ∈ lw_tbl := xap_5 (List.mem_of_getElem? (i := 176) rfl)
theorem xcw_188 : Cond.code yX9_again cX9_again 3 none ∈ lw_tbl := xap_5 (List.mem_of_getElem? (i := 180) rfl)
theorem xcw_189 : Cond.code yX9_image cX9_image 2 (some .int) ∈ lw_tbl := xap_5 (List.mem_of_getElem? (i := 235) rfl)
theorem xcw_190 : Cond.code yX9_undo cX9_undo 2 (some .int) ∈ lw_tbl := xap_5 (List.mem_of_getElem? (i := 239) rfl)
theorem xcw_191 : Cond.code yX9_taken cX9_taken 4 (some .int) ∈ lw_tbl := xap_6 (List.mem_of_getElem? (i := 3) rfl)
theorem xcw_192 : Cond.code yX9_count cX9_count 2 (some .int) ∈ lw_tbl := xap_6 (List.mem_of_getElem? (i := 7) rfl)
theorem xcw_193 : Cond.code yX9_isTape cX9_isTape 1 (some .boolean) ∈ lw_tbl := xap_6 (List.mem_of_getElem? (i := 14) rfl)
theorem xcw_194 : Cond.code yX9_tape cX9_tape 5 (some .int) ∈ lw_tbl := xap_6 (List.mem_of_getElem? (i := 11) rfl)
theorem xcw_195 : Cond.code yX9_kept cX9_kept 3 (some .long) ∈ lw_tbl := xap_6 (List.mem_of_getElem? (i := 21) rfl)
theorem xcw_196 : Cond.code yX9_item cX9_item 5 (some .int) ∈ lw_tbl := xap_6 (List.mem_of_getElem? (i := 18) rfl)
theorem xcw_197 : Cond.code yX9_read cX9_read 3 (some .long) ∈ lw_tbl := xap_6 (List.mem_of_getElem? (i := 25) rfl)
theorem xcw_198 : Cond.code yX9_shift cX9_shift 7 (some .int) ∈ lw_tbl := xap_6 (List.mem_of_getElem? (i := 29) rfl)
theorem xcw_199 : Cond.code yJ6_bitCount_0f7a4 cJ6_bitCount_0f7a4 1 (some .int) ∈ lw_tbl := xap_3 (List.mem_of_getElem? (i := 36) rfl)
theorem xin_code_9 : ∀ w ∈ (xWcode.drop 180).take 20, w ∈ lw_tbl := by
  have h : (xWcode.drop 180).take 20 = [Cond.code yX9_odds cX9_odds 5 (some .long), Cond.code yX9_mean cX9_mean 4 (some .long), Cond.code yX9_plan cX9_plan 3 (some .int), Cond.code yX9_ends cX9_ends 3 (some .int), Cond.code yX9_book cX9_book 3 (some .int), Cond.code yX9_looked cX9_looked 2 (some .int), Cond.code yX9_judge cX9_judge 4 (some .int), Cond.code yX9_keep cX9_keep 3 none, Cond.code yX9_again cX9_again 3 none, Cond.code yX9_image cX9_image 2 (some .int), Cond.code yX9_undo cX9_undo 2 (some .int), Cond.code yX9_taken cX9_taken 4 (some .int), Cond.code yX9_count cX9_count 2 (some .int), Cond.code yX9_isTape cX9_isTape 1 (some .boolean), Cond.code yX9_tape cX9_tape 5 (some .int), Cond.code yX9_kept cX9_kept 3 (some .long), Cond.code yX9_item cX9_item 5 (some .int), Cond.code yX9_read cX9_read 3 (some .long), Cond.code yX9_shift cX9_shift 7 (some .int), Cond.code yJ6_bitCount_0f7a4 cJ6_bitCount_0f7a4 1 (some .int)] := rfl
  rw [h]
  exact List.forall_mem_cons.mpr ⟨xcw_180, List.forall_mem_cons.mpr ⟨xcw_181, List.forall_mem_cons.mpr ⟨xcw_182, List.forall_mem_cons.mpr ⟨xcw_183, List.forall_mem_cons.mpr ⟨xcw_184, List.forall_mem_cons.mpr ⟨xcw_185, List.forall_mem_cons.mpr ⟨xcw_186, List.forall_mem_cons.mpr ⟨xcw_187, List.forall_mem_cons.mpr ⟨xcw_188, List.forall_mem_cons.mpr ⟨xcw_189, List.forall_mem_cons.mpr ⟨xcw_190, List.forall_mem_cons.mpr ⟨xcw_191, List.forall_mem_cons.mpr ⟨xcw_192, List.forall_mem_cons.mpr ⟨xcw_193, List.forall_mem_cons.mpr ⟨xcw_194, List.forall_mem_cons.mpr ⟨xcw_195, List.forall_mem_cons.mpr ⟨xcw_196, List.forall_mem_cons.mpr ⟨xcw_197, List.forall_mem_cons.mpr ⟨xcw_198, List.forall_mem_cons.mpr ⟨xcw_199, fun _ h => absurd h List.not_mem_nil⟩⟩⟩⟩⟩⟩⟩⟩⟩⟩⟩⟩⟩⟩⟩⟩⟩⟩⟩⟩
theorem xcw_200 : Cond.code yJ9_abs_067f4 cJ9_abs_067f4 2 (some .long) ∈ lw_tbl := xap_5 (List.mem_of_getElem? (i := 207) rfl)
theorem xcw_201 : Cond.code yJ9_min_7cf53 cJ9_min_7cf53 2 (some .int) ∈ lw_tbl := xap_1 (List.mem_of_getElem? (i := 57) rfl)
theorem xin_code_10 : ∀ w ∈ (xWcode.drop 200).take 20, w ∈ lw_tbl := by
  have h : (xWcode.drop 200).take 20 = [Cond.code yJ9_abs_067f4 cJ9_abs_067f4 2 (some .long), Cond.code yJ9_min_7cf53 cJ9_min_7cf53 2 (some .int)] := rfl
  rw [h]
  exact List.forall_mem_cons.mpr ⟨xcw_200, List.forall_mem_cons.mpr ⟨xcw_201, fun _ h => absurd h List.not_mem_nil⟩⟩
theorem xlen_code : xWcode.length ≤ 220 := by decide +kernel
theorem xin_code : ∀ w ∈ xWcode, w ∈ lw_tbl := by
  intro w hw
  obtain ⟨i, hi⟩ := List.getElem?_of_mem hw
  have hl : i < xWcode.length := (List.getElem?_eq_some_iff.mp hi).1
  have hb := xlen_code
  rcases Nat.lt_or_ge i 20 with q0 | q0
  · exact xin_code_0 w (List.mem_of_getElem? (i := i - 0) (by rw [List.getElem?_take_of_lt (by omega), List.getElem?_drop, show 0 + (i - 0) = i by omega]; exact hi))
  rcases Nat.lt_or_ge i 40 with q1 | q1
  · exact xin_code_1 w (List.mem_of_getElem? (i := i - 20) (by rw [List.getElem?_take_of_lt (by omega), List.getElem?_drop, show 20 + (i - 20) = i by omega]; exact hi))
  rcases Nat.lt_or_ge i 60 with q2 | q2
  · exact xin_code_2 w (List.mem_of_getElem? (i := i - 40) (by rw [List.getElem?_take_of_lt (by omega), List.getElem?_drop, show 40 + (i - 40) = i by omega]; exact hi))
  rcases Nat.lt_or_ge i 80 with q3 | q3
  · exact xin_code_3 w (List.mem_of_getElem? (i := i - 60) (by rw [List.getElem?_take_of_lt (by omega), List.getElem?_drop, show 60 + (i - 60) = i by omega]; exact hi))
  rcases Nat.lt_or_ge i 100 with q4 | q4
  · exact xin_code_4 w (List.mem_of_getElem? (i := i - 80) (by rw [List.getElem?_take_of_lt (by omega), List.getElem?_drop, show 80 + (i - 80) = i by omega]; exact hi))
  rcases Nat.lt_or_ge i 120 with q5 | q5
  · exact xin_code_5 w (List.mem_of_getElem? (i := i - 100) (by rw [List.getElem?_take_of_lt (by omega), List.getElem?_drop, show 100 + (i - 100) = i by omega]; exact hi))
  rcases Nat.lt_or_ge i 140 with q6 | q6
  · exact xin_code_6 w (List.mem_of_getElem? (i := i - 120) (by rw [List.getElem?_take_of_lt (by omega), List.getElem?_drop, show 120 + (i - 120) = i by omega]; exact hi))
  rcases Nat.lt_or_ge i 160 with q7 | q7
  · exact xin_code_7 w (List.mem_of_getElem? (i := i - 140) (by rw [List.getElem?_take_of_lt (by omega), List.getElem?_drop, show 140 + (i - 140) = i by omega]; exact hi))
  rcases Nat.lt_or_ge i 180 with q8 | q8
  · exact xin_code_8 w (List.mem_of_getElem? (i := i - 160) (by rw [List.getElem?_take_of_lt (by omega), List.getElem?_drop, show 160 + (i - 160) = i by omega]; exact hi))
  rcases Nat.lt_or_ge i 200 with q9 | q9
  · exact xin_code_9 w (List.mem_of_getElem? (i := i - 180) (by rw [List.getElem?_take_of_lt (by omega), List.getElem?_drop, show 180 + (i - 180) = i by omega]; exact hi))
  exact xin_code_10 w (List.mem_of_getElem? (i := i - 200) (by rw [List.getElem?_take_of_lt (by omega), List.getElem?_drop, show 200 + (i - 200) = i by omega]; exact hi))
theorem xin_link_0 : ∀ w ∈ (xWlink.drop 0).take 100, w ∈ lw_tbl := by
  have h : (xWlink.drop 0).take 100 = ([59, 60, 44, 68, 45, 84, 85, 46, 94, 95, 47, 98, 99, 48, 126, 49, 132, 50, 188, 51, 272, 52, 314, 53, 353, 354, 355, 44, 357, 358, 359, 44, 361, 362, 363, 45, 365, 366, 367, 46, 369, 370, 371, 45, 373, 374, 375, 49, 377, 370, 371, 45, 378, 379, 380, 45, 382, 383, 384, 46, 386, 387, 388, 49, 391, 392, 393, 44, 395, 396, 397, 46, 399, 400, 401, 46, 403, 404, 405, 46, 407, 408, 409, 51, 411, 412, 413, 49, 415, 412, 413, 49, 416, 417, 418, 46, 420, 421, 422, 51] : List Nat).filterMap (fun i => lw_tbl[i]?) := by decide +kernel
  intro w hw
  rw [h] at hw
  obtain ⟨i, -, hi⟩ := List.mem_filterMap.mp hw
  exact List.mem_of_getElem? hi
theorem xin_link_1 : ∀ w ∈ (xWlink.drop 100).take 100, w ∈ lw_tbl := by
  have h : (xWlink.drop 100).take 100 = ([424, 408, 409, 51, 425, 426, 427, 46, 429, 430, 431, 46, 433, 434, 435, 44, 437, 387, 388, 49, 438, 439, 440, 44, 442, 443, 444, 46, 446, 400, 401, 46, 447, 448, 449, 46, 451, 452, 453, 46, 455, 430, 431, 46, 456, 457, 458, 44, 460, 461, 462, 44, 464, 465, 466, 50, 468, 469, 470, 44, 472, 473, 474, 50, 476, 477, 478, 50, 480, 481, 482, 44, 484, 485, 486, 51, 488, 489, 490, 44, 492, 493, 494, 46, 496, 497, 44, 499, 408, 409, 51, 500, 501, 502, 51, 504, 505, 506, 44, 508] : List Nat).filterMap (fun i => lw_tbl[i]?) := by decide +kernel
  intro w hw
  rw [h] at hw
  obtain ⟨i, -, hi⟩ := List.mem_filterMap.mp hw
  exact List.mem_of_getElem? hi
theorem xin_link_2 : ∀ w ∈ (xWlink.drop 200).take 100, w ∈ lw_tbl := by
  have h : (xWlink.drop 200).take 100 = ([509, 510, 46, 512, 513, 514, 46, 516, 517, 518, 51, 520, 521, 522, 46, 524, 525, 526, 46, 528, 529, 530, 51, 532, 533, 534, 44, 536, 404, 405, 46, 537, 538, 539, 46, 541, 542, 543, 44, 545, 546, 547, 44, 549, 550, 551, 46, 553, 554, 555, 46, 557, 558, 55, 563, 564, 565, 44, 567, 568, 569, 46, 571, 572, 573, 46, 575, 554, 555, 46, 576, 577, 578, 46, 580, 452, 453, 46, 581, 582, 583, 49, 585, 412, 413, 49, 586, 587, 588, 46, 590, 591, 592, 49, 594, 595, 596, 50, 598, 599] : List Nat).filterMap (fun i => lw_tbl[i]?) := by decide +kernel
  intro w hw
  rw [h] at hw
  obtain ⟨i, -, hi⟩ := List.mem_filterMap.mp hw
  exact List.mem_of_getElem? hi
theorem xin_link_3 : ∀ w ∈ (xWlink.drop 300).take 100, w ∈ lw_tbl := by
  have h : (xWlink.drop 300).take 100 = ([600, 44, 602, 603, 604, 46, 606, 607, 608, 46, 610, 558, 55, 611, 538, 539, 46, 612, 613, 614, 44, 616, 617, 618, 44, 620, 621, 622, 46, 624, 607, 608, 46, 625, 627, 0, 44, 629, 630, 631, 46, 633, 634, 635, 52, 637, 400, 401, 46, 638, 639, 52, 641, 642, 643, 52, 645, 558, 55, 646, 647, 648, 52, 650, 521, 522, 46, 654, 655, 656, 44, 658, 659, 660, 46, 662, 663, 664, 49, 666, 667, 668, 50, 671, 672, 673, 51, 676, 677, 678, 47, 681, 682, 683, 44, 685, 686, 687, 46, 689] : List Nat).filterMap (fun i => lw_tbl[i]?) := by decide +kernel
  intro w hw
  rw [h] at hw
  obtain ⟨i, -, hi⟩ := List.mem_filterMap.mp hw
  exact List.mem_of_getElem? hi
theorem xin_link_4 : ∀ w ∈ (xWlink.drop 400).take 100, w ∈ lw_tbl := by
  have h : (xWlink.drop 400).take 100 = ([630, 631, 46, 690, 691, 692, 44, 694, 695, 696, 44, 698, 700, 1, 44, 702, 703, 704, 47, 706, 707, 708, 44, 710, 711, 712, 44, 715, 716, 44, 718, 719, 44, 721, 722, 723, 44, 725, 726, 727, 44, 729, 730, 731, 44, 733, 734, 735, 46, 737, 603, 604, 46, 738, 568, 569, 46, 739, 740, 741, 44, 743, 744, 745, 44, 747, 748, 749, 44, 751, 752, 44, 754, 755, 756, 44, 758, 759, 760, 44, 762, 763, 764, 44, 766, 767, 44, 771, 772, 773, 44, 775, 776, 777, 44, 779, 780, 781, 53, 783] : List Nat).filterMap (fun i => lw_tbl[i]?) := by decide +kernel
  intro w hw
  rw [h] at hw
  obtain ⟨i, -, hi⟩ := List.mem_filterMap.mp hw
  exact List.mem_of_getElem? hi
theorem xin_link_5 : ∀ w ∈ (xWlink.drop 500).take 100, w ∈ lw_tbl := by
  have h : (xWlink.drop 500).take 100 = ([784, 785, 44, 787, 788, 789, 53, 791, 792, 793, 44, 795, 796, 797, 44, 799, 800, 801, 53, 806, 807, 54, 937, 938, 939, 54, 941, 942, 54, 944, 945, 946, 54, 948, 950, 2, 54, 952, 954, 3, 54, 956, 958, 4, 54, 960, 961, 962, 54, 964, 966, 5, 54, 968, 970, 6, 54, 972, 974, 7, 54, 976, 978, 8, 54, 980, 982, 9, 54, 984, 986, 10, 54, 988, 990, 11, 54, 992, 994, 12, 54, 996, 998, 13, 54, 1000, 1002, 14, 54, 1004, 1005, 1006, 54, 1008, 1010, 15, 54, 1012, 1013, 1014] : List Nat).filterMap (fun i => lw_tbl[i]?) := by decide +kernel
  intro w hw
  rw [h] at hw
  obtain ⟨i, -, hi⟩ := List.mem_filterMap.mp hw
  exact List.mem_of_getElem? hi
theorem xin_link_6 : ∀ w ∈ (xWlink.drop 600).take 100, w ∈ lw_tbl := by
  have h : (xWlink.drop 600).take 100 = ([54, 1016, 1017, 1018, 54, 1020, 1021, 1022, 54, 1024, 1025, 1026, 54, 1028, 1030, 16, 54, 1032, 1033, 1034, 54, 1036, 1037, 1038, 54, 1040, 1042, 17, 54, 1044, 1045, 54, 1047, 1048, 1049, 54, 1051, 1053, 18, 54, 1055, 1057, 19, 54, 1059, 1061, 20, 54, 1063, 1065, 21, 54, 1067, 1069, 22, 54, 1071, 1073, 23, 54, 1075, 1076, 1077, 54, 1079, 1080, 1081, 54, 1083, 1084, 1085, 54, 1087, 1088, 1089, 54, 1091, 1093, 24, 54, 1095, 1097, 25, 54, 1099, 1101, 26, 54, 1103, 1105, 27, 54, 1107, 1109, 28, 54, 1111, 1113, 29, 54] : List Nat).filterMap (fun i => lw_tbl[i]?) := by decide +kernel
  intro w hw
  rw [h] at hw
  obtain ⟨i, -, hi⟩ := List.mem_filterMap.mp hw
  exact List.mem_of_getElem? hi
theorem xin_link_7 : ∀ w ∈ (xWlink.drop 700).take 100, w ∈ lw_tbl := by
  have h : (xWlink.drop 700).take 100 = ([1115, 1117, 30, 54, 1119, 1120, 1121, 54, 1123, 1125, 31, 54, 1127, 1129, 32, 54, 1131, 1132, 1133, 54, 1135, 1136, 1137, 54, 1139, 1141, 33, 54, 1143, 1145, 34, 54, 1147, 1149, 35, 54, 1151, 1153, 36, 54, 1155, 558, 55, 1156, 1158, 37, 54, 1160, 1162, 38, 54, 1164, 1166, 39, 54, 1168, 1170, 40, 54, 1172, 1173, 1174, 54, 1176, 1178, 41, 54, 1180, 1182, 42, 54, 1184, 1185, 1186, 54, 1188, 1189, 1190, 54, 1192, 1193, 1194, 54, 1196, 1197, 1198, 54, 1200, 1201, 1202, 54, 1205, 1206, 54, 1208, 1209, 48, 1211, 1212, 1213] : List Nat).filterMap (fun i => lw_tbl[i]?) := by decide +kernel
  intro w hw
  rw [h] at hw
  obtain ⟨i, -, hi⟩ := List.mem_filterMap.mp hw
  exact List.mem_of_getElem? hi
theorem xin_link_8 : ∀ w ∈ (xWlink.drop 800).take 100, w ∈ lw_tbl := by
  have h : (xWlink.drop 800).take 100 = ([54, 1215, 1216, 1217, 54, 1219, 1220, 1221, 54, 1223, 1224, 1225, 54, 1227, 1228, 1229, 54, 1231, 1232, 1233, 54, 1235, 1236, 1237, 54, 1239, 1240, 1241, 54, 1243, 1244, 1245, 54, 1247, 1248, 1249, 54, 1251, 1252, 1253, 54, 1255, 1256, 54, 1258, 1259, 1260, 54, 1262, 1263, 54, 1265, 1266, 1267, 54, 1269, 1270, 1271, 54] : List Nat).filterMap (fun i => lw_tbl[i]?) := by decide +kernel
  intro w hw
  rw [h] at hw
  obtain ⟨i, -, hi⟩ := List.mem_filterMap.mp hw
  exact List.mem_of_getElem? hi
theorem xlen_link : xWlink.length ≤ 900 := by decide +kernel
theorem xin_link : ∀ w ∈ xWlink, w ∈ lw_tbl := by
  intro w hw
  obtain ⟨i, hi⟩ := List.getElem?_of_mem hw
  have hl : i < xWlink.length := (List.getElem?_eq_some_iff.mp hi).1
  have hb := xlen_link
  rcases Nat.lt_or_ge i 100 with q0 | q0
  · exact xin_link_0 w (List.mem_of_getElem? (i := i - 0) (by rw [List.getElem?_take_of_lt (by omega), List.getElem?_drop, show 0 + (i - 0) = i by omega]; exact hi))
  rcases Nat.lt_or_ge i 200 with q1 | q1
  · exact xin_link_1 w (List.mem_of_getElem? (i := i - 100) (by rw [List.getElem?_take_of_lt (by omega), List.getElem?_drop, show 100 + (i - 100) = i by omega]; exact hi))
  rcases Nat.lt_or_ge i 300 with q2 | q2
  · exact xin_link_2 w (List.mem_of_getElem? (i := i - 200) (by rw [List.getElem?_take_of_lt (by omega), List.getElem?_drop, show 200 + (i - 200) = i by omega]; exact hi))
  rcases Nat.lt_or_ge i 400 with q3 | q3
  · exact xin_link_3 w (List.mem_of_getElem? (i := i - 300) (by rw [List.getElem?_take_of_lt (by omega), List.getElem?_drop, show 300 + (i - 300) = i by omega]; exact hi))
  rcases Nat.lt_or_ge i 500 with q4 | q4
  · exact xin_link_4 w (List.mem_of_getElem? (i := i - 400) (by rw [List.getElem?_take_of_lt (by omega), List.getElem?_drop, show 400 + (i - 400) = i by omega]; exact hi))
  rcases Nat.lt_or_ge i 600 with q5 | q5
  · exact xin_link_5 w (List.mem_of_getElem? (i := i - 500) (by rw [List.getElem?_take_of_lt (by omega), List.getElem?_drop, show 500 + (i - 500) = i by omega]; exact hi))
  rcases Nat.lt_or_ge i 700 with q6 | q6
  · exact xin_link_6 w (List.mem_of_getElem? (i := i - 600) (by rw [List.getElem?_take_of_lt (by omega), List.getElem?_drop, show 600 + (i - 600) = i by omega]; exact hi))
  rcases Nat.lt_or_ge i 800 with q7 | q7
  · exact xin_link_7 w (List.mem_of_getElem? (i := i - 700) (by rw [List.getElem?_take_of_lt (by omega), List.getElem?_drop, show 700 + (i - 700) = i by omega]; exact hi))
  exact xin_link_8 w (List.mem_of_getElem? (i := i - 800) (by rw [List.getElem?_take_of_lt (by omega), List.getElem?_drop, show 800 + (i - 800) = i by omega]; exact hi))
theorem xin_field_0 : ∀ w ∈ (xWfield.drop 0).take 100, w ∈ lw_tbl := by
  have h : (xWfield.drop 0).take 100 = ([71, 72, 73, 74, 75, 101, 102, 103, 104, 105, 106, 107, 108, 109, 110, 111, 112, 113, 135, 136, 137, 138, 139, 140, 141, 142, 143, 153, 154, 155, 156, 157, 158, 159, 160, 161, 162, 163, 164, 165, 166, 167, 168, 191, 192, 193, 194, 195, 196, 197, 198, 199, 200, 201, 202, 203, 204, 205, 206, 220, 221, 222, 223, 224, 225, 226, 227, 228, 229, 230, 231, 232, 233, 234, 235, 236, 237, 238, 239, 240, 241, 242, 243, 277, 278, 279, 280, 281, 282, 283, 284, 285, 286, 287, 288, 289, 290, 317, 318, 319] : List Nat).filterMap (fun i => lw_tbl[i]?) := by decide +kernel
  intro w hw
  rw [h] at hw
  obtain ⟨i, -, hi⟩ := List.mem_filterMap.mp hw
  exact List.mem_of_getElem? hi
theorem xin_field_1 : ∀ w ∈ (xWfield.drop 100).take 100, w ∈ lw_tbl := by
  have h : (xWfield.drop 100).take 100 = ([320, 321, 322, 331, 332, 333, 334, 335, 336, 337, 810, 811, 812, 813, 814, 815, 816, 817, 818, 819, 820, 821, 822, 823, 824, 825, 826, 827, 828, 829, 830, 831, 832, 833, 834, 835, 836, 837, 838, 839, 840, 841, 842, 843, 844, 845, 846, 847, 848, 849, 850, 851] : List Nat).filterMap (fun i => lw_tbl[i]?) := by decide +kernel
  intro w hw
  rw [h] at hw
  obtain ⟨i, -, hi⟩ := List.mem_filterMap.mp hw
  exact List.mem_of_getElem? hi
theorem xlen_field : xWfield.length ≤ 200 := by decide +kernel
theorem xin_field : ∀ w ∈ xWfield, w ∈ lw_tbl := by
  intro w hw
  obtain ⟨i, hi⟩ := List.getElem?_of_mem hw
  have hl : i < xWfield.length := (List.getElem?_eq_some_iff.mp hi).1
  have hb := xlen_field
  rcases Nat.lt_or_ge i 100 with q0 | q0
  · exact xin_field_0 w (List.mem_of_getElem? (i := i - 0) (by rw [List.getElem?_take_of_lt (by omega), List.getElem?_drop, show 0 + (i - 0) = i by omega]; exact hi))
  exact xin_field_1 w (List.mem_of_getElem? (i := i - 100) (by rw [List.getElem?_take_of_lt (by omega), List.getElem?_drop, show 100 + (i - 100) = i by omega]; exact hi))
theorem xin_lay_0 : ∀ w ∈ (xWlay.drop 0).take 100, w ∈ lw_tbl := by
  have h : (xWlay.drop 0).take 100 = ([207, 209, 211, 213, 215, 217, 144, 146, 148, 150, 169, 171, 173, 175, 177, 179, 181, 183, 291, 293, 295, 297, 299, 301, 303, 305, 307, 114, 116, 118, 120, 244, 246, 248, 250, 252, 254, 256, 258, 260, 262, 264, 266, 323, 325, 327, 76, 78, 338, 340, 342, 344, 346, 348, 350, 852, 854, 856, 858, 860, 862, 864, 866, 868, 870, 872, 874, 876, 878, 880, 882, 884, 886, 888, 890, 892, 894, 896, 898, 900, 902, 904, 906, 908, 910, 912, 914, 916, 918, 920, 922, 924, 926, 928, 930, 932, 934] : List Nat).filterMap (fun i => lw_tbl[i]?) := by decide +kernel
  intro w hw
  rw [h] at hw
  obtain ⟨i, -, hi⟩ := List.mem_filterMap.mp hw
  exact List.mem_of_getElem? hi
theorem xlen_lay : xWlay.length ≤ 100 := by decide +kernel
theorem xin_lay : ∀ w ∈ xWlay, w ∈ lw_tbl := by
  intro w hw
  obtain ⟨i, hi⟩ := List.getElem?_of_mem hw
  have hl : i < xWlay.length := (List.getElem?_eq_some_iff.mp hi).1
  have hb := xlen_lay
  exact xin_lay_0 w (List.mem_of_getElem? (i := i - 0) (by rw [List.getElem?_take_of_lt (by omega), List.getElem?_drop, show 0 + (i - 0) = i by omega]; exact hi))
theorem xin_inst_0 : ∀ w ∈ (xWinst.drop 0).take 100, w ∈ lw_tbl := by
  have h : (xWinst.drop 0).take 100 = ([186, 51, 130, 50, 124, 49, 270, 52, 93, 47, 83, 46, 312, 53, 66, 45, 58, 44, 805, 54] : List Nat).filterMap (fun i => lw_tbl[i]?) := by decide +kernel
  intro w hw
  rw [h] at hw
  obtain ⟨i, -, hi⟩ := List.mem_filterMap.mp hw
  exact List.mem_of_getElem? hi
theorem xlen_inst : xWinst.length ≤ 100 := by decide +kernel
theorem xin_inst : ∀ w ∈ xWinst, w ∈ lw_tbl := by
  intro w hw
  obtain ⟨i, hi⟩ := List.getElem?_of_mem hw
  have hl : i < xWinst.length := (List.getElem?_eq_some_iff.mp hi).1
  have hb := xlen_inst
  exact xin_inst_0 w (List.mem_of_getElem? (i := i - 0) (by rw [List.getElem?_take_of_lt (by omega), List.getElem?_drop, show 0 + (i - 0) = i by omega]; exact hi))
theorem xin_const_0 : ∀ w ∈ (xWconst.drop 0).take 100, w ∈ lw_tbl := by
  have h : (xWconst.drop 0).take 100 = ([390, 560, 561, 562, 714, 1204, 1273] : List Nat).filterMap (fun i => lw_tbl[i]?) := by decide +kernel
  intro w hw
  rw [h] at hw
  obtain ⟨i, -, hi⟩ := List.mem_filterMap.mp hw
  exact List.mem_of_getElem? hi
theorem xlen_const : xWconst.length ≤ 100 := by decide +kernel
theorem xin_const : ∀ w ∈ xWconst, w ∈ lw_tbl := by
  intro w hw
  obtain ⟨i, hi⟩ := List.getElem?_of_mem hw
  have hl : i < xWconst.length := (List.getElem?_eq_some_iff.mp hi).1
  have hb := xlen_const
  exact xin_const_0 w (List.mem_of_getElem? (i := i - 0) (by rw [List.getElem?_take_of_lt (by omega), List.getElem?_drop, show 0 + (i - 0) = i by omega]; exact hi))
theorem xin_class_0 : ∀ w ∈ (xWclass.drop 0).take 100, w ∈ lw_tbl := by
  have h : (xWclass.drop 0).take 100 = ([57, 65, 82, 88, 90, 92, 129, 269, 275, 310, 804] : List Nat).filterMap (fun i => lw_tbl[i]?) := by decide +kernel
  intro w hw
  rw [h] at hw
  obtain ⟨i, -, hi⟩ := List.mem_filterMap.mp hw
  exact List.mem_of_getElem? hi
theorem xlen_class : xWclass.length ≤ 100 := by decide +kernel
theorem xin_class : ∀ w ∈ xWclass, w ∈ lw_tbl := by
  intro w hw
  obtain ⟨i, hi⟩ := List.getElem?_of_mem hw
  have hl : i < xWclass.length := (List.getElem?_eq_some_iff.mp hi).1
  have hb := xlen_class
  exact xin_class_0 w (List.mem_of_getElem? (i := i - 0) (by rw [List.getElem?_take_of_lt (by omega), List.getElem?_drop, show 0 + (i - 0) = i by omega]; exact hi))
theorem xin_arr_0 : ∀ w ∈ (xWarr.drop 0).take 100, w ∈ lw_tbl := by
  have h : (xWarr.drop 0).take 100 = ([123, 330, 81] : List Nat).filterMap (fun i => lw_tbl[i]?) := by decide +kernel
  intro w hw
  rw [h] at hw
  obtain ⟨i, -, hi⟩ := List.mem_filterMap.mp hw
  exact List.mem_of_getElem? hi
theorem xlen_arr : xWarr.length ≤ 100 := by decide +kernel
theorem xin_arr : ∀ w ∈ xWarr, w ∈ lw_tbl := by
  intro w hw
  obtain ⟨i, hi⟩ := List.getElem?_of_mem hw
  have hl : i < xWarr.length := (List.getElem?_eq_some_iff.mp hi).1
  have hb := xlen_arr
  exact xin_arr_0 w (List.mem_of_getElem? (i := i - 0) (by rw [List.getElem?_take_of_lt (by omega), List.getElem?_drop, show 0 + (i - 0) = i by omega]; exact hi))
theorem xin_obj_0 : ∀ w ∈ (xWobj.drop 0).take 100, w ∈ lw_tbl := by
  have h : (xWobj.drop 0).take 100 = ([62, 70, 87, 97, 128, 134, 190, 274, 316, 809, 63, 64] : List Nat).filterMap (fun i => lw_tbl[i]?) := by decide +kernel
  intro w hw
  rw [h] at hw
  obtain ⟨i, -, hi⟩ := List.mem_filterMap.mp hw
  exact List.mem_of_getElem? hi
theorem xlen_obj : xWobj.length ≤ 100 := by decide +kernel
theorem xin_obj : ∀ w ∈ xWobj, w ∈ lw_tbl := by
  intro w hw
  obtain ⟨i, hi⟩ := List.getElem?_of_mem hw
  have hl : i < xWobj.length := (List.getElem?_eq_some_iff.mp hi).1
  have hb := xlen_obj
  exact xin_obj_0 w (List.mem_of_getElem? (i := i - 0) (by rw [List.getElem?_take_of_lt (by omega), List.getElem?_drop, show 0 + (i - 0) = i by omega]; exact hi))
theorem xin_copy_0 : ∀ w ∈ (xWcopy.drop 0).take 100, w ∈ lw_tbl := by
  have h : (xWcopy.drop 0).take 100 = ([675, 670, 651, 680, 803, 653, 652, 56, 769] : List Nat).filterMap (fun i => lw_tbl[i]?) := by decide +kernel
  intro w hw
  rw [h] at hw
  obtain ⟨i, -, hi⟩ := List.mem_filterMap.mp hw
  exact List.mem_of_getElem? hi
theorem xlen_copy : xWcopy.length ≤ 100 := by decide +kernel
theorem xin_copy : ∀ w ∈ xWcopy, w ∈ lw_tbl := by
  intro w hw
  obtain ⟨i, hi⟩ := List.getElem?_of_mem hw
  have hl : i < xWcopy.length := (List.getElem?_eq_some_iff.mp hi).1
  have hb := xlen_copy
  exact xin_copy_0 w (List.mem_of_getElem? (i := i - 0) (by rw [List.getElem?_take_of_lt (by omega), List.getElem?_drop, show 0 + (i - 0) = i by omega]; exact hi))
theorem xTs_in : ∀ w ∈ xTs, w ∈ lw_tbl := by
  intro w hw
  unfold xTs at hw
  simp only [List.mem_append] at hw
  rcases hw with h | h | h | h | h | h | h | h | h | h
  · exact xin_code w h
  · exact xin_link w h
  · exact xin_field w h
  · exact xin_lay w h
  · exact xin_inst w h
  · exact xin_const w h
  · exact xin_class w h
  · exact xin_arr w h
  · exact xin_obj w h
  · exact xin_copy w h
theorem xTs_good : xTs.all goodWord = true := by decide +kernel
theorem xGood {big ws : List Cond} (hw : ∀ w ∈ ws, w ∈ xTs) (hb : ∀ w ∈ xTs, w ∈ big) : GoodIn big ws := fun w h => ⟨hb w (hw w h), good_of_word (List.all_eq_true.mp xTs_good w (hw w h))⟩
theorem xT_code {w : Cond} (h : w ∈ xWcode) : w ∈ xTs := by unfold xTs; simp only [List.mem_append]; exact .inl h
theorem xT_link {w : Cond} (h : w ∈ xWlink) : w ∈ xTs := by unfold xTs; simp only [List.mem_append]; exact .inr (.inl h)
theorem xT_field {w : Cond} (h : w ∈ xWfield) : w ∈ xTs := by unfold xTs; simp only [List.mem_append]; exact .inr (.inr (.inl h))
theorem xT_lay {w : Cond} (h : w ∈ xWlay) : w ∈ xTs := by unfold xTs; simp only [List.mem_append]; exact .inr (.inr (.inr (.inl h)))
theorem xT_inst {w : Cond} (h : w ∈ xWinst) : w ∈ xTs := by unfold xTs; simp only [List.mem_append]; exact .inr (.inr (.inr (.inr (.inl h))))
theorem xT_const {w : Cond} (h : w ∈ xWconst) : w ∈ xTs := by unfold xTs; simp only [List.mem_append]; exact .inr (.inr (.inr (.inr (.inr (.inl h)))))
theorem xT_class {w : Cond} (h : w ∈ xWclass) : w ∈ xTs := by unfold xTs; simp only [List.mem_append]; exact .inr (.inr (.inr (.inr (.inr (.inr (.inl h))))))
theorem xT_arr {w : Cond} (h : w ∈ xWarr) : w ∈ xTs := by unfold xTs; simp only [List.mem_append]; exact .inr (.inr (.inr (.inr (.inr (.inr (.inr (.inl h)))))))
theorem xT_obj {w : Cond} (h : w ∈ xWobj) : w ∈ xTs := by unfold xTs; simp only [List.mem_append]; exact .inr (.inr (.inr (.inr (.inr (.inr (.inr (.inr (.inl h))))))))
theorem xT_copy {w : Cond} (h : w ∈ xWcopy) : w ∈ xTs := by unfold xTs; simp only [List.mem_append]; exact .inr (.inr (.inr (.inr (.inr (.inr (.inr (.inr (.inr h))))))))
