/-! ===== places of the tables: nothing of ours is wanted here but names ===== -/
theorem hx_X0 : ∀ w ∈ u_ws RX0 TX0 18, w ∈ lw_tbl := by decide +kernel
theorem hx_X1 : ∀ w ∈ u_ws RX1 TX1 14, w ∈ lw_tbl := by decide +kernel
theorem hx_X2 : ∀ w ∈ u_ws RX2 TX2 3, w ∈ lw_tbl := by decide +kernel
theorem hx_X3 : ∀ w ∈ u_ws RX3 TX3 3, w ∈ lw_tbl := by decide +kernel
theorem hx_X4 : ∀ w ∈ u_ws RX4 TX4 2, w ∈ lw_tbl := by decide +kernel
theorem hx_X5 : ∀ w ∈ u_ws RX5 TX5 13, w ∈ lw_tbl := by decide +kernel
theorem hx_X6 : ∀ w ∈ u_ws RX6 TX6 12, w ∈ lw_tbl := by decide +kernel
theorem hx_X7 : ∀ w ∈ u_ws RX7 TX7 8, w ∈ lw_tbl := by decide +kernel
theorem hx_X8 : ∀ w ∈ u_ws RX8 TX8 11, w ∈ lw_tbl := by decide +kernel
theorem hx_X9 : ∀ w ∈ u_ws RX9 TX9 34, w ∈ lw_tbl := by decide +kernel
theorem ts_0 : (k2_sels lw_privs)[0]? = some (Cond.selects RX8 yX8_appendWord yX8_appendWord) := by decide +kernel
theorem ts_1 : (k2_sels lw_privs)[1]? = some (Cond.selects RX5 yX5_truckBikes yX5_truckBikes) := by decide +kernel
theorem ts_2 : (k2_sels lw_privs)[2]? = some (Cond.selects RX5 yX5_isBusier yX5_isBusier) := by decide +kernel
theorem ts_4 : (k2_sels lw_privs)[4]? = some (Cond.selects RX1 yX1_nextToken yX1_nextToken) := by decide +kernel
theorem ts_5 : (k2_sels lw_privs)[5]? = some (Cond.selects RX1 yX1_readStatement yX1_readStatement) := by decide +kernel
theorem ts_6 : (k2_sels lw_privs)[6]? = some (Cond.selects RX1 yX1_isWord yX1_isWord) := by decide +kernel
theorem ts_7 : (k2_sels lw_privs)[7]? = some (Cond.selects RX1 yX1_readStation yX1_readStation) := by decide +kernel
theorem ts_8 : (k2_sels lw_privs)[8]? = some (Cond.selects RX1 yX1_takeCountedWord yX1_takeCountedWord) := by decide +kernel
theorem ts_9 : (k2_sels lw_privs)[9]? = some (Cond.selects RX1 yX1_fail yX1_fail) := by decide +kernel
theorem ts_10 : (k2_sels lw_privs)[10]? = some (Cond.selects RX1 yX1_takeNumber yX1_takeNumber) := by decide +kernel
theorem ts_11 : (k2_sels lw_privs)[11]? = some (Cond.selects RX1 yX1_readTruck yX1_readTruck) := by decide +kernel
theorem ts_12 : (k2_sels lw_privs)[12]? = some (Cond.selects RX1 yX1_readTrip yX1_readTrip) := by decide +kernel
theorem ts_13 : (k2_sels lw_privs)[13]? = some (Cond.selects RX1 yX1_readPace yX1_readPace) := by decide +kernel
theorem ts_14 : (k2_sels lw_privs)[14]? = some (Cond.selects RX1 yX1_takeSingleWord yX1_takeSingleWord) := by decide +kernel
theorem ts_15 : (k2_sels lw_privs)[15]? = some (Cond.selects RX1 yX1_readBalance yX1_readBalance) := by decide +kernel
theorem ts_16 : (k2_sels lw_privs)[16]? = some (Cond.selects RX1 yX1_readBonus yX1_readBonus) := by decide +kernel
theorem ts_17 : (k2_sels lw_privs)[17]? = some (Cond.selects RX1 yX1_readFare yX1_readFare) := by decide +kernel
theorem ts_18 : (k2_sels lw_privs)[18]? = some (Cond.selects RX1 yX1_isSign yX1_isSign) := by decide +kernel
theorem ts_19 : (k2_sels lw_privs)[19]? = some (Cond.selects RX1 yX1_holdOperator yX1_holdOperator) := by decide +kernel
theorem ts_20 : (k2_sels lw_privs)[20]? = some (Cond.selects RX1 yX1_takeFactor yX1_takeFactor) := by decide +kernel
theorem ts_21 : (k2_sels lw_privs)[21]? = some (Cond.selects RX1 yX1_operatorOfToken yX1_operatorOfToken) := by decide +kernel
theorem ts_22 : (k2_sels lw_privs)[22]? = some (Cond.selects RX1 yX1_takeOperator yX1_takeOperator) := by decide +kernel
theorem ts_23 : (k2_sels lw_privs)[23]? = some (Cond.selects RX1 yX1_releaseOperators yX1_releaseOperators) := by decide +kernel
theorem ts_24 : (k2_sels lw_privs)[24]? = some (Cond.selects RX1 yX1_closeParenthesis yX1_closeParenthesis) := by decide +kernel
theorem ts_25 : (k2_sels lw_privs)[25]? = some (Cond.selects RX1 yX1_expectSign yX1_expectSign) := by decide +kernel
theorem ts_26 : (k2_sels lw_privs)[26]? = some (Cond.selects RX8 yX8_checkStation yX8_checkStation) := by decide +kernel
theorem ts_27 : (k2_sels lw_privs)[27]? = some (Cond.selects RX8 yX8_checkTruck yX8_checkTruck) := by decide +kernel
theorem ts_28 : (k2_sels lw_privs)[28]? = some (Cond.selects RX8 yX8_checkParked yX8_checkParked) := by decide +kernel
theorem ts_29 : (k2_sels lw_privs)[29]? = some (Cond.selects RX6 yX6_prepare yX6_prepare) := by decide +kernel
theorem ts_30 : (k2_sels lw_privs)[30]? = some (Cond.selects RX6 yX6_leastMinutesTo yX6_leastMinutesTo) := by decide +kernel
theorem ts_31 : (k2_sels lw_privs)[31]? = some (Cond.selects RX6 yX6_visit yX6_visit) := by decide +kernel
theorem ts_32 : (k2_sels lw_privs)[32]? = some (Cond.selects RX6 yX6_keepPath yX6_keepPath) := by decide +kernel
theorem ts_33 : (k2_sels lw_privs)[33]? = some (Cond.selects RX6 yX6_minutesTo yX6_minutesTo) := by decide +kernel
theorem ts_34 : (k2_sels lw_privs)[34]? = some (Cond.selects RX6 yX6_mayBeBest yX6_mayBeBest) := by decide +kernel
theorem ts_35 : (k2_sels lw_privs)[35]? = some (Cond.selects RX5 yX5_nextEvent yX5_nextEvent) := by decide +kernel
theorem ts_36 : (k2_sels lw_privs)[36]? = some (Cond.selects RX5 yX5_happen yX5_happen) := by decide +kernel
theorem ts_37 : (k2_sels lw_privs)[37]? = some (Cond.selects RX5 yX5_arrive yX5_arrive) := by decide +kernel
theorem ts_38 : (k2_sels lw_privs)[38]? = some (Cond.selects RX5 yX5_carryOut yX5_carryOut) := by decide +kernel
theorem ts_39 : (k2_sels lw_privs)[39]? = some (Cond.selects RX5 yX5_landRiders yX5_landRiders) := by decide +kernel
theorem ts_40 : (k2_sels lw_privs)[40]? = some (Cond.selects RX5 yX5_turnAway yX5_turnAway) := by decide +kernel
theorem ts_41 : (k2_sels lw_privs)[41]? = some (Cond.selects RX4 yX4_settle yX4_settle) := by decide +kernel
theorem ts_42 : (k2_sels lw_privs)[42]? = some (Cond.selects RX9 yX9_setDefaults yX9_setDefaults) := by decide +kernel
theorem ts_43 : (k2_sels lw_privs)[43]? = some (Cond.selects RX9 yX9_takeDraft yX9_takeDraft) := by decide +kernel
theorem ts_44 : (k2_sels lw_privs)[44]? = some (Cond.selects RX9 yX9_put yX9_put) := by decide +kernel
theorem ts_45 : (k2_sels lw_privs)[45]? = some (Cond.selects RX9 yX9_appendInt yX9_appendInt) := by decide +kernel
theorem ts_46 : (k2_sels lw_privs)[46]? = some (Cond.selects RX9 yX9_fail yX9_fail) := by decide +kernel
theorem ts_47 : (k2_sels lw_privs)[47]? = some (Cond.selects RX9 yX9_nextToken yX9_nextToken) := by decide +kernel
theorem ts_48 : (k2_sels lw_privs)[48]? = some (Cond.selects RX9 yX9_byteAt yX9_byteAt) := by decide +kernel
theorem ts_49 : (k2_sels lw_privs)[49]? = some (Cond.selects RX9 yX9_statement yX9_statement) := by decide +kernel
theorem ts_50 : (k2_sels lw_privs)[50]? = some (Cond.selects RX9 yX9_wordHere yX9_wordHere) := by decide +kernel
theorem ts_51 : (k2_sels lw_privs)[51]? = some (Cond.selects RX9 yX9_station yX9_station) := by decide +kernel
theorem ts_52 : (k2_sels lw_privs)[52]? = some (Cond.selects RX9 yX9_begins yX9_begins) := by decide +kernel
theorem ts_53 : (k2_sels lw_privs)[53]? = some (Cond.selects RX9 yX9_must yX9_must) := by decide +kernel
theorem ts_54 : (k2_sels lw_privs)[54]? = some (Cond.selects RX9 yX9_read yX9_read) := by decide +kernel
theorem ts_55 : (k2_sels lw_privs)[55]? = some (Cond.selects RX9 yX9_truckLine yX9_truckLine) := by decide +kernel
theorem ts_56 : (k2_sels lw_privs)[56]? = some (Cond.selects RX9 yX9_tripLine yX9_tripLine) := by decide +kernel
theorem ts_57 : (k2_sels lw_privs)[57]? = some (Cond.selects RX9 yX9_once yX9_once) := by decide +kernel
theorem ts_58 : (k2_sels lw_privs)[58]? = some (Cond.selects RX9 yX9_fare yX9_fare) := by decide +kernel
theorem ts_59 : (k2_sels lw_privs)[59]? = some (Cond.selects RX9 yX9_factor yX9_factor) := by decide +kernel
theorem ts_60 : (k2_sels lw_privs)[60]? = some (Cond.selects RX9 yX9_emit yX9_emit) := by decide +kernel
theorem ts_61 : (k2_sels lw_privs)[61]? = some (Cond.selects RX9 yX9_fact yX9_fact) := by decide +kernel
theorem ts_62 : (k2_sels lw_privs)[62]? = some (Cond.selects RX9 yX9_settle yX9_settle) := by decide +kernel
theorem ts_63 : (k2_sels lw_privs)[63]? = some (Cond.selects RX9 yX9_told yX9_told) := by decide +kernel
theorem ts_64 : (k2_sels lw_privs)[64]? = some (Cond.selects RX9 yX9_all yX9_all) := by decide +kernel
theorem ts_65 : (k2_sels lw_privs)[65]? = some (Cond.selects RX9 yX9_loads yX9_loads) := by decide +kernel
theorem ts_66 : (k2_sels lw_privs)[66]? = some (Cond.selects RX9 yX9_of yX9_of) := by decide +kernel
theorem ts_67 : (k2_sels lw_privs)[67]? = some (Cond.selects RX9 yX9_isStation yX9_isStation) := by decide +kernel
theorem ts_68 : (k2_sels lw_privs)[68]? = some (Cond.selects RX9 yX9_free yX9_free) := by decide +kernel
theorem ts_69 : (k2_sels lw_privs)[69]? = some (Cond.selects RX9 yX9_working yX9_working) := by decide +kernel
theorem ts_70 : (k2_sels lw_privs)[70]? = some (Cond.selects RX9 yX9_isEven yX9_isEven) := by decide +kernel
theorem ts_71 : (k2_sels lw_privs)[71]? = some (Cond.selects RX9 yX9_mark yX9_mark) := by decide +kernel
theorem ts_72 : (k2_sels lw_privs)[72]? = some (Cond.selects RX9 yX9_nearestTo yX9_nearestTo) := by decide +kernel
theorem ts_73 : (k2_sels lw_privs)[73]? = some (Cond.selects RX9 yX9_distance yX9_distance) := by decide +kernel
theorem ts_74 : (k2_sels lw_privs)[74]? = some (Cond.selects RX9 yX9_areStations yX9_areStations) := by decide +kernel
theorem ts_75 : (k2_sels lw_privs)[75]? = some (Cond.selects RX9 yX9_ride yX9_ride) := by decide +kernel
theorem ts_76 : (k2_sels lw_privs)[76]? = some (Cond.selects RX9 yX9_fareOf yX9_fareOf) := by decide +kernel
theorem ts_77 : (k2_sels lw_privs)[77]? = some (Cond.selects RX9 yX9_bonus yX9_bonus) := by decide +kernel
theorem ts_78 : (k2_sels lw_privs)[78]? = some (Cond.selects RX9 yX9_isAhead yX9_isAhead) := by decide +kernel
theorem ts_79 : (k2_sels lw_privs)[79]? = some (Cond.selects RX9 yX9_riderAt yX9_riderAt) := by decide +kernel
theorem ts_80 : (k2_sels lw_privs)[80]? = some (Cond.selects RX9 yX9_isTruck yX9_isTruck) := by decide +kernel
theorem ts_81 : (k2_sels lw_privs)[81]? = some (Cond.selects RX9 yX9_failsTour yX9_failsTour) := by decide +kernel
theorem ts_82 : (k2_sels lw_privs)[82]? = some (Cond.selects RX9 yX9_findTour yX9_findTour) := by decide +kernel
theorem ts_83 : (k2_sels lw_privs)[83]? = some (Cond.selects RX9 yX9_comeTo yX9_comeTo) := by decide +kernel
theorem ts_84 : (k2_sels lw_privs)[84]? = some (Cond.selects RX9 yX9_isAllEven yX9_isAllEven) := by decide +kernel
theorem ts_85 : (k2_sels lw_privs)[85]? = some (Cond.selects RX9 yX9_drive yX9_drive) := by decide +kernel
theorem ts_86 : (k2_sels lw_privs)[86]? = some (Cond.selects RX9 yX9_loadsBehind yX9_loadsBehind) := by decide +kernel
theorem ts_87 : (k2_sels lw_privs)[87]? = some (Cond.selects RX9 yX9_totalOf yX9_totalOf) := by decide +kernel
theorem ts_88 : (k2_sels lw_privs)[88]? = some (Cond.selects RX9 yX9_setAside yX9_setAside) := by decide +kernel
theorem ts_89 : (k2_sels lw_privs)[89]? = some (Cond.selects RX9 yX9_passMinute yX9_passMinute) := by decide +kernel
theorem ts_90 : (k2_sels lw_privs)[90]? = some (Cond.selects RX9 yX9_arrive yX9_arrive) := by decide +kernel
theorem ts_91 : (k2_sels lw_privs)[91]? = some (Cond.selects RX9 yX9_carryOut yX9_carryOut) := by decide +kernel
theorem ts_92 : (k2_sels lw_privs)[92]? = some (Cond.selects RX9 yX9_goOn yX9_goOn) := by decide +kernel
theorem ts_93 : (k2_sels lw_privs)[93]? = some (Cond.selects RX9 yX9_comes yX9_comes) := by decide +kernel
theorem ts_94 : (k2_sels lw_privs)[94]? = some (Cond.selects RX9 yX9_begin yX9_begin) := by decide +kernel
theorem ts_95 : (k2_sels lw_privs)[95]? = some (Cond.selects RX9 yX9_bringBack yX9_bringBack) := by decide +kernel
theorem ts_96 : (k2_sels lw_privs)[96]? = some (Cond.selects RX9 yX9_keep yX9_keep) := by decide +kernel
theorem hw_IAE : ∀ w ∈ (vx_atS RX8 76 "java/lang/IllegalArgumentException" ["java/lang/RuntimeException", "java/lang/Exception"]).filter goodWord, w ∈ lw_tbl := by decide +kernel
theorem hw_IOB : ∀ w ∈ (vx_atS RX8 151 "java/lang/IndexOutOfBoundsException" ["java/lang/RuntimeException", "java/lang/Exception"]).filter goodWord, w ∈ lw_tbl := by decide +kernel
theorem hw_ISE : ∀ w ∈ (vx_atS RX8 237 "java/lang/IllegalStateException" ["java/lang/RuntimeException", "java/lang/Exception"]).filter goodWord, w ∈ lw_tbl := by decide +kernel
theorem tf_0 : tables_1[0]? = some (Jvm.Cond.initialized "BikeShareLaw") := by decide +kernel
theorem tf_1 : tables_1[1]? = some (Jvm.Cond.initialized "BikeShare") := by decide +kernel
theorem tf_2 : tables_1[2]? = some (Jvm.Cond.initialized "BikeShare$CityReader") := by decide +kernel
theorem tf_3 : tables_1[3]? = some (Jvm.Cond.initialized "BikeShare$History") := by decide +kernel
theorem tf_4 : tables_1[4]? = some (Jvm.Cond.initialized "BikeShare$Tour") := by decide +kernel
theorem tf_5 : tables_1[5]? = some (Jvm.Cond.initialized "BikeShare$City") := by decide +kernel
theorem tf_6 : tables_1[6]? = some (Jvm.Cond.initialized "BikeShare$Fare") := by decide +kernel
theorem tf_7 : tables_1[7]? = some (Jvm.Cond.initialized "BikeShare$State") := by decide +kernel
theorem tf_8 : tables_1[8]? = some (Jvm.Cond.initialized "BikeShare$Riders") := by decide +kernel
theorem tf_9 : tables_1[9]? = some (Jvm.Cond.initialized "BikeShare$Truck") := by decide +kernel
theorem tf_10 : tables_1[10]? = some (Jvm.Cond.initialized "java/lang/System") := by decide +kernel
theorem tf_11 : tables_1[11]? = some (Jvm.Cond.initialized "java/util/Arrays") := by decide +kernel
theorem tf_12 : tables_1[12]? = some (Jvm.Cond.initialized "BikeShareModel") := by decide +kernel
theorem tf_16 : tables_1[16]? = some (Jvm.Cond.initialized "java/lang/IllegalArgumentException") := by decide +kernel
theorem tf_17 : tables_1[17]? = some (Jvm.Cond.initialized "java/lang/Math") := by decide +kernel
theorem tf_18 : tables_1[18]? = some (Jvm.Cond.initialized "java/lang/String") := by decide +kernel
theorem tf_19 : tables_1[19]? = some (Jvm.Cond.initialized "java/lang/StringLatin1") := by decide +kernel
theorem tf_20 : tables_1[20]? = some (Jvm.Cond.initialized "jdk/internal/util/Preconditions") := by decide +kernel
theorem tf_21 : tables_1[21]? = some (Jvm.Cond.initialized "java/lang/StringUTF16") := by decide +kernel
theorem tf_22 : tables_1[22]? = some (Jvm.Cond.initialized "java/lang/IndexOutOfBoundsException") := by decide +kernel
theorem tf_23 : tables_1[23]? = some (Jvm.Cond.initialized "java/lang/IllegalStateException") := by decide +kernel
theorem tf_24 : tables_1[24]? = some (Jvm.Cond.initialized "java/lang/Integer") := by decide +kernel
theorem tf_25 : tables_1[25]? = some (Jvm.Cond.classLink "BikeShareLaw" (8 : Nat) "BikeShare") := by decide +kernel
theorem tf_26 : tables_1[26]? = some (Jvm.Cond.instantiable "BikeShare" (11 : Nat)) := by decide +kernel
theorem tf_27 : tables_1[27]? = some (Jvm.Cond.methodLink "BikeShareLaw" (101 : Nat) ({ cls := "BikeShare", name := "<init>", desc := "()V" } : Jvm.MethodName)) := by decide +kernel
theorem tf_28 : tables_1[28]? = some (Jvm.Cond.instanceMethod ({ cls := "BikeShare", name := "<init>", desc := "()V" } : Jvm.MethodName)) := by decide +kernel
theorem tf_29 : tables_1[29]? = some (Jvm.Cond.code ({ cls := "BikeShare", name := "<init>", desc := "()V" } : Jvm.MethodName) prog_1_method_1_code (2 : Nat) (Option.none : Option Jvm.ClassFile.FieldType)) := by decide +kernel
theorem tf_30 : tables_1[30]? = some (Jvm.Cond.methodLink "BikeShare" (1 : Nat) ({ cls := "java/lang/Object", name := "<init>", desc := "()V" } : Jvm.MethodName)) := by decide +kernel
theorem tf_33 : tables_1[33]? = some (Jvm.Cond.classLink "BikeShare" (13 : Nat) "BikeShare$CityReader") := by decide +kernel
theorem tf_34 : tables_1[34]? = some (Jvm.Cond.instantiable "BikeShare$CityReader" (14 : Nat)) := by decide +kernel
theorem tf_36 : tables_1[36]? = some (Jvm.Cond.instanceMethod ({ cls := "BikeShare$CityReader", name := "<init>", desc := "()V" } : Jvm.MethodName)) := by decide +kernel
theorem tf_37 : tables_1[37]? = some (Jvm.Cond.code ({ cls := "BikeShare$CityReader", name := "<init>", desc := "()V" } : Jvm.MethodName) prog_3_method_1_code (1 : Nat) (Option.none : Option Jvm.ClassFile.FieldType)) := by decide +kernel
theorem tf_38 : tables_1[38]? = some (Jvm.Cond.methodLink "BikeShare$CityReader" (3 : Nat) ({ cls := "java/lang/Object", name := "<init>", desc := "()V" } : Jvm.MethodName)) := by decide +kernel
theorem tf_39 : tables_1[39]? = some (Jvm.Cond.fieldLink "BikeShare$CityReader" (9 : Nat) "BikeShare$CityReader" "operators" "[I") := by decide +kernel
theorem tf_40 : tables_1[40]? = some (Jvm.Cond.fieldLink "BikeShare$CityReader" (165 : Nat) "BikeShare$CityReader" "waiting" "I") := by decide +kernel
theorem tf_41 : tables_1[41]? = some (Jvm.Cond.fieldLink "BikeShare$CityReader" (15 : Nat) "BikeShare$CityReader" "text" "[B") := by decide +kernel
theorem tf_42 : tables_1[42]? = some (Jvm.Cond.fieldLink "BikeShare$CityReader" (29 : Nat) "BikeShare$CityReader" "city" "LBikeShare$City;") := by decide +kernel
theorem tf_43 : tables_1[43]? = some (Jvm.Cond.fieldLink "BikeShare$CityReader" (25 : Nat) "BikeShare$CityReader" "length" "I") := by decide +kernel
theorem tf_44 : tables_1[44]? = some (Jvm.Cond.fieldLink "BikeShare$CityReader" (209 : Nat) "BikeShare$CityReader" "start" "I") := by decide +kernel
theorem tf_45 : tables_1[45]? = some (Jvm.Cond.fieldLink "BikeShare$CityReader" (38 : Nat) "BikeShare$CityReader" "end" "I") := by decide +kernel
theorem tf_46 : tables_1[46]? = some (Jvm.Cond.fieldLink "BikeShare$CityReader" (60 : Nat) "BikeShare$CityReader" "kind" "I") := by decide +kernel
theorem tf_47 : tables_1[47]? = some (Jvm.Cond.fieldLink "BikeShare$CityReader" (191 : Nat) "BikeShare$CityReader" "value" "I") := by decide +kernel
theorem tf_48 : tables_1[48]? = some (Jvm.Cond.fieldLink "BikeShare$CityReader" (41 : Nat) "BikeShare$CityReader" "fault" "I") := by decide +kernel
theorem tf_49 : tables_1[49]? = some (Jvm.Cond.fieldLink "BikeShare$CityReader" (44 : Nat) "BikeShare$CityReader" "paceRead" "Z") := by decide +kernel
theorem tf_50 : tables_1[50]? = some (Jvm.Cond.fieldLink "BikeShare$CityReader" (48 : Nat) "BikeShare$CityReader" "balanceRead" "Z") := by decide +kernel
theorem tf_51 : tables_1[51]? = some (Jvm.Cond.fieldLink "BikeShare$CityReader" (51 : Nat) "BikeShare$CityReader" "bonusRead" "Z") := by decide +kernel
theorem tf_52 : tables_1[52]? = some (Jvm.Cond.fieldLink "BikeShare$CityReader" (54 : Nat) "BikeShare$CityReader" "fareRead" "Z") := by decide +kernel
theorem tf_82 : tables_1[82]? = some (Jvm.Cond.arrayClass Jvm.ClassFile.FieldType.byte) := by decide +kernel
theorem tf_83 : tables_1[83]? = some (Jvm.Cond.arrayClass Jvm.ClassFile.FieldType.int) := by decide +kernel
theorem tf_84 : tables_1[84]? = some (Jvm.Cond.classLink "BikeShare" (20 : Nat) "BikeShare$History") := by decide +kernel
theorem tf_85 : tables_1[85]? = some (Jvm.Cond.instantiable "BikeShare$History" (3 : Nat)) := by decide +kernel
theorem tf_87 : tables_1[87]? = some (Jvm.Cond.instanceMethod ({ cls := "BikeShare$History", name := "<init>", desc := "()V" } : Jvm.MethodName)) := by decide +kernel
theorem tf_88 : tables_1[88]? = some (Jvm.Cond.code ({ cls := "BikeShare$History", name := "<init>", desc := "()V" } : Jvm.MethodName) prog_5_method_1_code (1 : Nat) (Option.none : Option Jvm.ClassFile.FieldType)) := by decide +kernel
theorem tf_89 : tables_1[89]? = some (Jvm.Cond.methodLink "BikeShare$History" (3 : Nat) ({ cls := "java/lang/Object", name := "<init>", desc := "()V" } : Jvm.MethodName)) := by decide +kernel
theorem tf_90 : tables_1[90]? = some (Jvm.Cond.classLink "BikeShare$History" (9 : Nat) "BikeShare$State") := by decide +kernel
theorem tf_92 : tables_1[92]? = some (Jvm.Cond.fieldLink "BikeShare$History" (11 : Nat) "BikeShare$History" "past" "[LBikeShare$State;") := by decide +kernel
theorem tf_93 : tables_1[93]? = some (Jvm.Cond.fieldLink "BikeShare$History" (21 : Nat) "BikeShare$History" "first" "I") := by decide +kernel
theorem tf_94 : tables_1[94]? = some (Jvm.Cond.fieldLink "BikeShare$History" (17 : Nat) "BikeShare$History" "count" "I") := by decide +kernel
theorem tf_95 : tables_1[95]? = some (Jvm.Cond.fieldLink "BikeShare" (272 : Nat) "BikeShare$History" "count" "I") := by decide +kernel
theorem tf_103 : tables_1[103]? = some (Jvm.Cond.classLink "BikeShare" (27 : Nat) "BikeShare$Tour") := by decide +kernel
theorem tf_104 : tables_1[104]? = some (Jvm.Cond.instantiable "BikeShare$Tour" (12 : Nat)) := by decide +kernel
theorem tf_106 : tables_1[106]? = some (Jvm.Cond.instanceMethod ({ cls := "BikeShare$Tour", name := "<init>", desc := "()V" } : Jvm.MethodName)) := by decide +kernel
theorem tf_107 : tables_1[107]? = some (Jvm.Cond.code ({ cls := "BikeShare$Tour", name := "<init>", desc := "()V" } : Jvm.MethodName) prog_8_method_1_code (1 : Nat) (Option.none : Option Jvm.ClassFile.FieldType)) := by decide +kernel
theorem tf_108 : tables_1[108]? = some (Jvm.Cond.methodLink "BikeShare$Tour" (3 : Nat) ({ cls := "java/lang/Object", name := "<init>", desc := "()V" } : Jvm.MethodName)) := by decide +kernel
theorem tf_109 : tables_1[109]? = some (Jvm.Cond.fieldLink "BikeShare$Tour" (9 : Nat) "BikeShare$Tour" "best" "[I") := by decide +kernel
theorem tf_110 : tables_1[110]? = some (Jvm.Cond.fieldLink "BikeShare" (210 : Nat) "BikeShare$Tour" "best" "[I") := by decide +kernel
theorem tf_111 : tables_1[111]? = some (Jvm.Cond.fieldLink "BikeShare$Tour" (15 : Nat) "BikeShare$Tour" "path" "[I") := by decide +kernel
theorem tf_112 : tables_1[112]? = some (Jvm.Cond.fieldLink "BikeShare$Tour" (18 : Nat) "BikeShare$Tour" "leastGain" "[I") := by decide +kernel
theorem tf_113 : tables_1[113]? = some (Jvm.Cond.fieldLink "BikeShare$Tour" (21 : Nat) "BikeShare$Tour" "mostGain" "[I") := by decide +kernel
theorem tf_114 : tables_1[114]? = some (Jvm.Cond.fieldLink "BikeShare$Tour" (24 : Nat) "BikeShare$Tour" "leastWay" "[I") := by decide +kernel
theorem tf_115 : tables_1[115]? = some (Jvm.Cond.fieldLink "BikeShare$Tour" (27 : Nat) "BikeShare$Tour" "hopeless" "[I") := by decide +kernel
theorem tf_116 : tables_1[116]? = some (Jvm.Cond.fieldLink "BikeShare$Tour" (36 : Nat) "BikeShare$Tour" "city" "LBikeShare$City;") := by decide +kernel
theorem tf_117 : tables_1[117]? = some (Jvm.Cond.fieldLink "BikeShare$Tour" (43 : Nat) "BikeShare$Tour" "home" "I") := by decide +kernel
theorem tf_118 : tables_1[118]? = some (Jvm.Cond.fieldLink "BikeShare$Tour" (49 : Nat) "BikeShare$Tour" "capacity" "I") := by decide +kernel
theorem tf_119 : tables_1[119]? = some (Jvm.Cond.fieldLink "BikeShare$Tour" (50 : Nat) "BikeShare$Tour" "unbalanced" "I") := by decide +kernel
theorem tf_120 : tables_1[120]? = some (Jvm.Cond.fieldLink "BikeShare$Tour" (53 : Nat) "BikeShare$Tour" "bestMinutes" "I") := by decide +kernel
theorem tf_121 : tables_1[121]? = some (Jvm.Cond.fieldLink "BikeShare" (204 : Nat) "BikeShare$Tour" "bestMinutes" "I") := by decide +kernel
theorem tf_122 : tables_1[122]? = some (Jvm.Cond.fieldLink "BikeShare$Tour" (56 : Nat) "BikeShare$Tour" "bestStops" "I") := by decide +kernel
theorem tf_123 : tables_1[123]? = some (Jvm.Cond.fieldLink "BikeShare" (207 : Nat) "BikeShare$Tour" "bestStops" "I") := by decide +kernel
theorem tf_149 : tables_1[149]? = some (Jvm.Cond.classLink "BikeShare" (34 : Nat) "BikeShare$State") := by decide +kernel
theorem tf_150 : tables_1[150]? = some (Jvm.Cond.classLink "BikeShare" (44 : Nat) "BikeShare$City") := by decide +kernel
theorem tf_151 : tables_1[151]? = some (Jvm.Cond.instantiable "BikeShare$City" (18 : Nat)) := by decide +kernel
theorem tf_152 : tables_1[152]? = some (Jvm.Cond.methodLink "BikeShare" (46 : Nat) ({ cls := "BikeShare$City", name := "<init>", desc := "()V" } : Jvm.MethodName)) := by decide +kernel
theorem tf_153 : tables_1[153]? = some (Jvm.Cond.instanceMethod ({ cls := "BikeShare$City", name := "<init>", desc := "()V" } : Jvm.MethodName)) := by decide +kernel
theorem tf_154 : tables_1[154]? = some (Jvm.Cond.code ({ cls := "BikeShare$City", name := "<init>", desc := "()V" } : Jvm.MethodName) prog_2_method_1_code (1 : Nat) (Option.none : Option Jvm.ClassFile.FieldType)) := by decide +kernel
theorem tf_155 : tables_1[155]? = some (Jvm.Cond.methodLink "BikeShare$City" (3 : Nat) ({ cls := "java/lang/Object", name := "<init>", desc := "()V" } : Jvm.MethodName)) := by decide +kernel
theorem tf_156 : tables_1[156]? = some (Jvm.Cond.classLink "BikeShare$City" (39 : Nat) "BikeShare$Fare") := by decide +kernel
theorem tf_157 : tables_1[157]? = some (Jvm.Cond.instantiable "BikeShare$Fare" (3 : Nat)) := by decide +kernel
theorem tf_159 : tables_1[159]? = some (Jvm.Cond.instanceMethod ({ cls := "BikeShare$Fare", name := "<init>", desc := "()V" } : Jvm.MethodName)) := by decide +kernel
theorem tf_160 : tables_1[160]? = some (Jvm.Cond.code ({ cls := "BikeShare$Fare", name := "<init>", desc := "()V" } : Jvm.MethodName) prog_4_method_1_code (1 : Nat) (Option.none : Option Jvm.ClassFile.FieldType)) := by decide +kernel
theorem tf_161 : tables_1[161]? = some (Jvm.Cond.methodLink "BikeShare$Fare" (3 : Nat) ({ cls := "java/lang/Object", name := "<init>", desc := "()V" } : Jvm.MethodName)) := by decide +kernel
theorem tf_162 : tables_1[162]? = some (Jvm.Cond.fieldLink "BikeShare$Fare" (9 : Nat) "BikeShare$Fare" "items" "[I") := by decide +kernel
theorem tf_163 : tables_1[163]? = some (Jvm.Cond.fieldLink "BikeShare$Fare" (15 : Nat) "BikeShare$Fare" "stack" "[I") := by decide +kernel
theorem tf_164 : tables_1[164]? = some (Jvm.Cond.fieldLink "BikeShare$Fare" (18 : Nat) "BikeShare$Fare" "length" "I") := by decide +kernel
theorem tf_172 : tables_1[172]? = some (Jvm.Cond.arrayClass Jvm.ClassFile.FieldType.boolean) := by decide +kernel
theorem tf_173 : tables_1[173]? = some (Jvm.Cond.methodLink "BikeShare$City" (46 : Nat) ({ cls := "BikeShare$City", name := "clear", desc := "()V" } : Jvm.MethodName)) := by decide +kernel
theorem tf_174 : tables_1[174]? = some (Jvm.Cond.instanceMethod ({ cls := "BikeShare$City", name := "clear", desc := "()V" } : Jvm.MethodName)) := by decide +kernel
theorem tf_175 : tables_1[175]? = some (Jvm.Cond.selects "BikeShare$City" ({ cls := "BikeShare$City", name := "clear", desc := "()V" } : Jvm.MethodName) ({ cls := "BikeShare$City", name := "clear", desc := "()V" } : Jvm.MethodName)) := by decide +kernel
theorem tf_176 : tables_1[176]? = some (Jvm.Cond.code ({ cls := "BikeShare$City", name := "clear", desc := "()V" } : Jvm.MethodName) prog_2_method_2_code (1 : Nat) (Option.none : Option Jvm.ClassFile.FieldType)) := by decide +kernel
theorem tf_177 : tables_1[177]? = some (Jvm.Cond.methodLink "BikeShare$City" (74 : Nat) ({ cls := "BikeShare$Fare", name := "clear", desc := "()V" } : Jvm.MethodName)) := by decide +kernel
theorem tf_178 : tables_1[178]? = some (Jvm.Cond.instanceMethod ({ cls := "BikeShare$Fare", name := "clear", desc := "()V" } : Jvm.MethodName)) := by decide +kernel
theorem tf_179 : tables_1[179]? = some (Jvm.Cond.selects "BikeShare$Fare" ({ cls := "BikeShare$Fare", name := "clear", desc := "()V" } : Jvm.MethodName) ({ cls := "BikeShare$Fare", name := "clear", desc := "()V" } : Jvm.MethodName)) := by decide +kernel
theorem tf_180 : tables_1[180]? = some (Jvm.Cond.code ({ cls := "BikeShare$Fare", name := "clear", desc := "()V" } : Jvm.MethodName) prog_4_method_2_code (1 : Nat) (Option.none : Option Jvm.ClassFile.FieldType)) := by decide +kernel
theorem tf_181 : tables_1[181]? = some (Jvm.Cond.methodLink "BikeShare$City" (75 : Nat) ({ cls := "BikeShare$Fare", name := "add", desc := "(I)V" } : Jvm.MethodName)) := by decide +kernel
theorem tf_182 : tables_1[182]? = some (Jvm.Cond.instanceMethod ({ cls := "BikeShare$Fare", name := "add", desc := "(I)V" } : Jvm.MethodName)) := by decide +kernel
theorem tf_183 : tables_1[183]? = some (Jvm.Cond.selects "BikeShare$Fare" ({ cls := "BikeShare$Fare", name := "add", desc := "(I)V" } : Jvm.MethodName) ({ cls := "BikeShare$Fare", name := "add", desc := "(I)V" } : Jvm.MethodName)) := by decide +kernel
theorem tf_184 : tables_1[184]? = some (Jvm.Cond.code ({ cls := "BikeShare$Fare", name := "add", desc := "(I)V" } : Jvm.MethodName) prog_4_method_3_code (2 : Nat) (Option.none : Option Jvm.ClassFile.FieldType)) := by decide +kernel
theorem tf_185 : tables_1[185]? = some (Jvm.Cond.fieldLink "BikeShare$City" (9 : Nat) "BikeShare$City" "x" "[I") := by decide +kernel
theorem tf_186 : tables_1[186]? = some (Jvm.Cond.fieldLink "BikeShare$City" (15 : Nat) "BikeShare$City" "y" "[I") := by decide +kernel
theorem tf_187 : tables_1[187]? = some (Jvm.Cond.fieldLink "BikeShare$City" (18 : Nat) "BikeShare$City" "docks" "[I") := by decide +kernel
theorem tf_188 : tables_1[188]? = some (Jvm.Cond.fieldLink "BikeShare$State" (99 : Nat) "BikeShare$City" "docks" "[I") := by decide +kernel
theorem tf_189 : tables_1[189]? = some (Jvm.Cond.fieldLink "BikeShare$City" (21 : Nat) "BikeShare$City" "bikes" "[I") := by decide +kernel
theorem tf_190 : tables_1[190]? = some (Jvm.Cond.fieldLink "BikeShare$State" (68 : Nat) "BikeShare$City" "bikes" "[I") := by decide +kernel
theorem tf_191 : tables_1[191]? = some (Jvm.Cond.fieldLink "BikeShare$City" (24 : Nat) "BikeShare$City" "truckHome" "[I") := by decide +kernel
theorem tf_192 : tables_1[192]? = some (Jvm.Cond.fieldLink "BikeShare$State" (83 : Nat) "BikeShare$City" "truckHome" "[I") := by decide +kernel
theorem tf_193 : tables_1[193]? = some (Jvm.Cond.fieldLink "BikeShare$City" (27 : Nat) "BikeShare$City" "truckCapacity" "[I") := by decide +kernel
theorem tf_194 : tables_1[194]? = some (Jvm.Cond.fieldLink "BikeShare$State" (86 : Nat) "BikeShare$City" "truckCapacity" "[I") := by decide +kernel
theorem tf_195 : tables_1[195]? = some (Jvm.Cond.fieldLink "BikeShare$City" (30 : Nat) "BikeShare$City" "tripFrom" "[I") := by decide +kernel
theorem tf_196 : tables_1[196]? = some (Jvm.Cond.fieldLink "BikeShare$State" (262 : Nat) "BikeShare$City" "tripFrom" "[I") := by decide +kernel
theorem tf_197 : tables_1[197]? = some (Jvm.Cond.fieldLink "BikeShare$City" (33 : Nat) "BikeShare$City" "tripTo" "[I") := by decide +kernel
theorem tf_198 : tables_1[198]? = some (Jvm.Cond.fieldLink "BikeShare$State" (269 : Nat) "BikeShare$City" "tripTo" "[I") := by decide +kernel
theorem tf_199 : tables_1[199]? = some (Jvm.Cond.fieldLink "BikeShare$City" (36 : Nat) "BikeShare$City" "tripMinute" "[I") := by decide +kernel
theorem tf_200 : tables_1[200]? = some (Jvm.Cond.fieldLink "BikeShare$State" (253 : Nat) "BikeShare$City" "tripMinute" "[I") := by decide +kernel
theorem tf_201 : tables_1[201]? = some (Jvm.Cond.fieldLink "BikeShare$City" (42 : Nat) "BikeShare$City" "fare" "LBikeShare$Fare;") := by decide +kernel
theorem tf_202 : tables_1[202]? = some (Jvm.Cond.fieldLink "BikeShare$CityReader" (159 : Nat) "BikeShare$City" "fare" "LBikeShare$Fare;") := by decide +kernel
theorem tf_203 : tables_1[203]? = some (Jvm.Cond.fieldLink "BikeShare$State" (149 : Nat) "BikeShare$City" "fare" "LBikeShare$Fare;") := by decide +kernel
theorem tf_204 : tables_1[204]? = some (Jvm.Cond.fieldLink "BikeShare$City" (49 : Nat) "BikeShare$City" "stations" "I") := by decide +kernel
theorem tf_205 : tables_1[205]? = some (Jvm.Cond.fieldLink "BikeShare$Tour" (65 : Nat) "BikeShare$City" "stations" "I") := by decide +kernel
theorem tf_206 : tables_1[206]? = some (Jvm.Cond.fieldLink "BikeShare" (89 : Nat) "BikeShare$City" "stations" "I") := by decide +kernel
theorem tf_207 : tables_1[207]? = some (Jvm.Cond.fieldLink "BikeShare$CityReader" (113 : Nat) "BikeShare$City" "stations" "I") := by decide +kernel
theorem tf_208 : tables_1[208]? = some (Jvm.Cond.fieldLink "BikeShare$State" (121 : Nat) "BikeShare$City" "stations" "I") := by decide +kernel
theorem tf_209 : tables_1[209]? = some (Jvm.Cond.fieldLink "BikeShare$City" (53 : Nat) "BikeShare$City" "trucks" "I") := by decide +kernel
theorem tf_210 : tables_1[210]? = some (Jvm.Cond.fieldLink "BikeShare" (92 : Nat) "BikeShare$City" "trucks" "I") := by decide +kernel
theorem tf_211 : tables_1[211]? = some (Jvm.Cond.fieldLink "BikeShare$CityReader" (127 : Nat) "BikeShare$City" "trucks" "I") := by decide +kernel
theorem tf_212 : tables_1[212]? = some (Jvm.Cond.fieldLink "BikeShare$State" (137 : Nat) "BikeShare$City" "trucks" "I") := by decide +kernel
theorem tf_213 : tables_1[213]? = some (Jvm.Cond.fieldLink "BikeShare$City" (56 : Nat) "BikeShare$City" "trips" "I") := by decide +kernel
theorem tf_214 : tables_1[214]? = some (Jvm.Cond.fieldLink "BikeShare" (95 : Nat) "BikeShare$City" "trips" "I") := by decide +kernel
theorem tf_215 : tables_1[215]? = some (Jvm.Cond.fieldLink "BikeShare$CityReader" (133 : Nat) "BikeShare$City" "trips" "I") := by decide +kernel
theorem tf_216 : tables_1[216]? = some (Jvm.Cond.fieldLink "BikeShare$State" (250 : Nat) "BikeShare$City" "trips" "I") := by decide +kernel
theorem tf_217 : tables_1[217]? = some (Jvm.Cond.fieldLink "BikeShare$City" (59 : Nat) "BikeShare$City" "riderPace" "I") := by decide +kernel
theorem tf_218 : tables_1[218]? = some (Jvm.Cond.fieldLink "BikeShare$CityReader" (144 : Nat) "BikeShare$City" "riderPace" "I") := by decide +kernel
theorem tf_219 : tables_1[219]? = some (Jvm.Cond.fieldLink "BikeShare$City" (62 : Nat) "BikeShare$City" "truckPace" "I") := by decide +kernel
theorem tf_220 : tables_1[220]? = some (Jvm.Cond.fieldLink "BikeShare$CityReader" (147 : Nat) "BikeShare$City" "truckPace" "I") := by decide +kernel
theorem tf_221 : tables_1[221]? = some (Jvm.Cond.fieldLink "BikeShare$City" (65 : Nat) "BikeShare$City" "balancePercent" "I") := by decide +kernel
theorem tf_222 : tables_1[222]? = some (Jvm.Cond.fieldLink "BikeShare$State" (106 : Nat) "BikeShare$City" "balancePercent" "I") := by decide +kernel
theorem tf_223 : tables_1[223]? = some (Jvm.Cond.fieldLink "BikeShare$CityReader" (150 : Nat) "BikeShare$City" "balancePercent" "I") := by decide +kernel
theorem tf_224 : tables_1[224]? = some (Jvm.Cond.fieldLink "BikeShare$City" (68 : Nat) "BikeShare$City" "bonusPercent" "I") := by decide +kernel
theorem tf_225 : tables_1[225]? = some (Jvm.Cond.fieldLink "BikeShare$CityReader" (153 : Nat) "BikeShare$City" "bonusPercent" "I") := by decide +kernel
theorem tf_226 : tables_1[226]? = some (Jvm.Cond.fieldLink "BikeShare$State" (127 : Nat) "BikeShare$City" "bonusPercent" "I") := by decide +kernel
theorem tf_227 : tables_1[227]? = some (Jvm.Cond.fieldLink "BikeShare$City" (71 : Nat) "BikeShare$City" "bonusCents" "I") := by decide +kernel
theorem tf_228 : tables_1[228]? = some (Jvm.Cond.fieldLink "BikeShare$CityReader" (156 : Nat) "BikeShare$City" "bonusCents" "I") := by decide +kernel
theorem tf_229 : tables_1[229]? = some (Jvm.Cond.fieldLink "BikeShare$State" (130 : Nat) "BikeShare$City" "bonusCents" "I") := by decide +kernel
theorem tf_267 : tables_1[267]? = some (Jvm.Cond.instantiable "BikeShare$State" (13 : Nat)) := by decide +kernel
theorem tf_268 : tables_1[268]? = some (Jvm.Cond.methodLink "BikeShare" (54 : Nat) ({ cls := "BikeShare$State", name := "<init>", desc := "(LBikeShare$City;)V" } : Jvm.MethodName)) := by decide +kernel
theorem tf_269 : tables_1[269]? = some (Jvm.Cond.instanceMethod ({ cls := "BikeShare$State", name := "<init>", desc := "(LBikeShare$City;)V" } : Jvm.MethodName)) := by decide +kernel
theorem tf_270 : tables_1[270]? = some (Jvm.Cond.code ({ cls := "BikeShare$State", name := "<init>", desc := "(LBikeShare$City;)V" } : Jvm.MethodName) prog_7_method_1_code (3 : Nat) (Option.none : Option Jvm.ClassFile.FieldType)) := by decide +kernel
theorem tf_271 : tables_1[271]? = some (Jvm.Cond.methodLink "BikeShare$State" (3 : Nat) ({ cls := "java/lang/Object", name := "<init>", desc := "()V" } : Jvm.MethodName)) := by decide +kernel
theorem tf_272 : tables_1[272]? = some (Jvm.Cond.classLink "BikeShare$State" (24 : Nat) "BikeShare$Truck") := by decide +kernel
theorem tf_274 : tables_1[274]? = some (Jvm.Cond.classLink "BikeShare$State" (30 : Nat) "BikeShare$Riders") := by decide +kernel
theorem tf_275 : tables_1[275]? = some (Jvm.Cond.instantiable "BikeShare$Riders" (2 : Nat)) := by decide +kernel
theorem tf_277 : tables_1[277]? = some (Jvm.Cond.instanceMethod ({ cls := "BikeShare$Riders", name := "<init>", desc := "()V" } : Jvm.MethodName)) := by decide +kernel
theorem tf_278 : tables_1[278]? = some (Jvm.Cond.code ({ cls := "BikeShare$Riders", name := "<init>", desc := "()V" } : Jvm.MethodName) prog_6_method_1_code (1 : Nat) (Option.none : Option Jvm.ClassFile.FieldType)) := by decide +kernel
theorem tf_279 : tables_1[279]? = some (Jvm.Cond.methodLink "BikeShare$Riders" (3 : Nat) ({ cls := "java/lang/Object", name := "<init>", desc := "()V" } : Jvm.MethodName)) := by decide +kernel
theorem tf_280 : tables_1[280]? = some (Jvm.Cond.fieldLink "BikeShare$Riders" (9 : Nat) "BikeShare$Riders" "codes" "[I") := by decide +kernel
theorem tf_281 : tables_1[281]? = some (Jvm.Cond.fieldLink "BikeShare" (152 : Nat) "BikeShare$Riders" "codes" "[I") := by decide +kernel
theorem tf_282 : tables_1[282]? = some (Jvm.Cond.fieldLink "BikeShare$State" (175 : Nat) "BikeShare$Riders" "codes" "[I") := by decide +kernel
theorem tf_283 : tables_1[283]? = some (Jvm.Cond.fieldLink "BikeShare$State" (65 : Nat) "BikeShare$Riders" "count" "I") := by decide +kernel
theorem tf_284 : tables_1[284]? = some (Jvm.Cond.fieldLink "BikeShare$Riders" (16 : Nat) "BikeShare$Riders" "count" "I") := by decide +kernel
theorem tf_285 : tables_1[285]? = some (Jvm.Cond.fieldLink "BikeShare" (142 : Nat) "BikeShare$Riders" "count" "I") := by decide +kernel
theorem tf_291 : tables_1[291]? = some (Jvm.Cond.instantiable "BikeShare$Truck" (8 : Nat)) := by decide +kernel
theorem tf_293 : tables_1[293]? = some (Jvm.Cond.instanceMethod ({ cls := "BikeShare$Truck", name := "<init>", desc := "()V" } : Jvm.MethodName)) := by decide +kernel
theorem tf_294 : tables_1[294]? = some (Jvm.Cond.code ({ cls := "BikeShare$Truck", name := "<init>", desc := "()V" } : Jvm.MethodName) prog_9_method_1_code (1 : Nat) (Option.none : Option Jvm.ClassFile.FieldType)) := by decide +kernel
theorem tf_295 : tables_1[295]? = some (Jvm.Cond.methodLink "BikeShare$Truck" (3 : Nat) ({ cls := "java/lang/Object", name := "<init>", desc := "()V" } : Jvm.MethodName)) := by decide +kernel
theorem tf_296 : tables_1[296]? = some (Jvm.Cond.fieldLink "BikeShare$Truck" (9 : Nat) "BikeShare$Truck" "orderStation" "[I") := by decide +kernel
theorem tf_297 : tables_1[297]? = some (Jvm.Cond.fieldLink "BikeShare$State" (205 : Nat) "BikeShare$Truck" "orderStation" "[I") := by decide +kernel
theorem tf_298 : tables_1[298]? = some (Jvm.Cond.fieldLink "BikeShare$Truck" (15 : Nat) "BikeShare$Truck" "orderTarget" "[I") := by decide +kernel
theorem tf_299 : tables_1[299]? = some (Jvm.Cond.fieldLink "BikeShare$State" (208 : Nat) "BikeShare$Truck" "orderTarget" "[I") := by decide +kernel
theorem tf_300 : tables_1[300]? = some (Jvm.Cond.fieldLink "BikeShare$Truck" (18 : Nat) "BikeShare$Truck" "orders" "I") := by decide +kernel
theorem tf_301 : tables_1[301]? = some (Jvm.Cond.fieldLink "BikeShare$State" (198 : Nat) "BikeShare$Truck" "orders" "I") := by decide +kernel
theorem tf_302 : tables_1[302]? = some (Jvm.Cond.fieldLink "BikeShare" (194 : Nat) "BikeShare$Truck" "orders" "I") := by decide +kernel
theorem tf_303 : tables_1[303]? = some (Jvm.Cond.fieldLink "BikeShare$Truck" (22 : Nat) "BikeShare$Truck" "capacity" "I") := by decide +kernel
theorem tf_304 : tables_1[304]? = some (Jvm.Cond.fieldLink "BikeShare$Tour" (46 : Nat) "BikeShare$Truck" "capacity" "I") := by decide +kernel
theorem tf_305 : tables_1[305]? = some (Jvm.Cond.fieldLink "BikeShare" (191 : Nat) "BikeShare$Truck" "capacity" "I") := by decide +kernel
theorem tf_306 : tables_1[306]? = some (Jvm.Cond.fieldLink "BikeShare$State" (230 : Nat) "BikeShare$Truck" "capacity" "I") := by decide +kernel
theorem tf_307 : tables_1[307]? = some (Jvm.Cond.fieldLink "BikeShare$Truck" (25 : Nat) "BikeShare$Truck" "load" "I") := by decide +kernel
theorem tf_308 : tables_1[308]? = some (Jvm.Cond.fieldLink "BikeShare$Tour" (74 : Nat) "BikeShare$Truck" "load" "I") := by decide +kernel
theorem tf_309 : tables_1[309]? = some (Jvm.Cond.fieldLink "BikeShare$State" (139 : Nat) "BikeShare$Truck" "load" "I") := by decide +kernel
theorem tf_310 : tables_1[310]? = some (Jvm.Cond.fieldLink "BikeShare" (188 : Nat) "BikeShare$Truck" "load" "I") := by decide +kernel
theorem tf_311 : tables_1[311]? = some (Jvm.Cond.fieldLink "BikeShare$Tour" (37 : Nat) "BikeShare$Truck" "place" "I") := by decide +kernel
theorem tf_312 : tables_1[312]? = some (Jvm.Cond.fieldLink "BikeShare$Truck" (28 : Nat) "BikeShare$Truck" "place" "I") := by decide +kernel
theorem tf_313 : tables_1[313]? = some (Jvm.Cond.fieldLink "BikeShare$State" (214 : Nat) "BikeShare$Truck" "place" "I") := by decide +kernel
theorem tf_314 : tables_1[314]? = some (Jvm.Cond.fieldLink "BikeShare" (182 : Nat) "BikeShare$Truck" "place" "I") := by decide +kernel
theorem tf_315 : tables_1[315]? = some (Jvm.Cond.fieldLink "BikeShare$Truck" (31 : Nat) "BikeShare$Truck" "due" "I") := by decide +kernel
theorem tf_316 : tables_1[316]? = some (Jvm.Cond.fieldLink "BikeShare$State" (224 : Nat) "BikeShare$Truck" "due" "I") := by decide +kernel
theorem tf_317 : tables_1[317]? = some (Jvm.Cond.fieldLink "BikeShare" (185 : Nat) "BikeShare$Truck" "due" "I") := by decide +kernel
theorem tf_318 : tables_1[318]? = some (Jvm.Cond.fieldLink "BikeShare$Truck" (34 : Nat) "BikeShare$Truck" "goal" "I") := by decide +kernel
theorem tf_319 : tables_1[319]? = some (Jvm.Cond.fieldLink "BikeShare$State" (227 : Nat) "BikeShare$Truck" "goal" "I") := by decide +kernel
theorem tf_337 : tables_1[337]? = some (Jvm.Cond.methodLink "BikeShare$State" (38 : Nat) ({ cls := "BikeShare$State", name := "begin", desc := "(LBikeShare$City;)V" } : Jvm.MethodName)) := by decide +kernel
theorem tf_338 : tables_1[338]? = some (Jvm.Cond.instanceMethod ({ cls := "BikeShare$State", name := "begin", desc := "(LBikeShare$City;)V" } : Jvm.MethodName)) := by decide +kernel
theorem tf_339 : tables_1[339]? = some (Jvm.Cond.selects "BikeShare$State" ({ cls := "BikeShare$State", name := "begin", desc := "(LBikeShare$City;)V" } : Jvm.MethodName) ({ cls := "BikeShare$State", name := "begin", desc := "(LBikeShare$City;)V" } : Jvm.MethodName)) := by decide +kernel
theorem tf_340 : tables_1[340]? = some (Jvm.Cond.code ({ cls := "BikeShare$State", name := "begin", desc := "(LBikeShare$City;)V" } : Jvm.MethodName) prog_7_method_2_code (3 : Nat) (Option.none : Option Jvm.ClassFile.FieldType)) := by decide +kernel
theorem tf_341 : tables_1[341]? = some (Jvm.Cond.methodLink "BikeShare$State" (71 : Nat) ({ cls := "java/lang/System", name := "arraycopy", desc := "(Ljava/lang/Object;ILjava/lang/Object;II)V" } : Jvm.MethodName)) := by decide +kernel
theorem tf_344 : tables_1[344]? = some (Jvm.Cond.methodLink "BikeShare$State" (77 : Nat) ({ cls := "java/util/Arrays", name := "fill", desc := "([II)V" } : Jvm.MethodName)) := by decide +kernel
theorem tf_345 : tables_1[345]? = some (Jvm.Cond.static ({ cls := "java/util/Arrays", name := "fill", desc := "([II)V" } : Jvm.MethodName)) := by decide +kernel
theorem tf_346 : tables_1[346]? = some (Jvm.Cond.code ({ cls := "java/util/Arrays", name := "fill", desc := "([II)V" } : Jvm.MethodName) prog_24_method_103_code (4 : Nat) (Option.none : Option Jvm.ClassFile.FieldType)) := by decide +kernel
theorem tf_347 : tables_1[347]? = some (Jvm.Cond.methodLink "BikeShare$State" (89 : Nat) ({ cls := "BikeShare$Truck", name := "begin", desc := "(II)V" } : Jvm.MethodName)) := by decide +kernel
theorem tf_348 : tables_1[348]? = some (Jvm.Cond.instanceMethod ({ cls := "BikeShare$Truck", name := "begin", desc := "(II)V" } : Jvm.MethodName)) := by decide +kernel
theorem tf_349 : tables_1[349]? = some (Jvm.Cond.selects "BikeShare$Truck" ({ cls := "BikeShare$Truck", name := "begin", desc := "(II)V" } : Jvm.MethodName) ({ cls := "BikeShare$Truck", name := "begin", desc := "(II)V" } : Jvm.MethodName)) := by decide +kernel
theorem tf_350 : tables_1[350]? = some (Jvm.Cond.code ({ cls := "BikeShare$Truck", name := "begin", desc := "(II)V" } : Jvm.MethodName) prog_9_method_2_code (3 : Nat) (Option.none : Option Jvm.ClassFile.FieldType)) := by decide +kernel
theorem tf_351 : tables_1[351]? = some (Jvm.Cond.fieldLink "BikeShare$State" (9 : Nat) "BikeShare$State" "bikes" "[I") := by decide +kernel
theorem tf_352 : tables_1[352]? = some (Jvm.Cond.fieldLink "BikeShare$Tour" (88 : Nat) "BikeShare$State" "bikes" "[I") := by decide +kernel
theorem tf_353 : tables_1[353]? = some (Jvm.Cond.fieldLink "BikeShare" (110 : Nat) "BikeShare$State" "bikes" "[I") := by decide +kernel
theorem tf_354 : tables_1[354]? = some (Jvm.Cond.fieldLink "BikeShare$State" (15 : Nat) "BikeShare$State" "broken" "[I") := by decide +kernel
theorem tf_355 : tables_1[355]? = some (Jvm.Cond.fieldLink "BikeShare" (118 : Nat) "BikeShare$State" "broken" "[I") := by decide +kernel
theorem tf_356 : tables_1[356]? = some (Jvm.Cond.fieldLink "BikeShare$State" (18 : Nat) "BikeShare$State" "pairRides" "[I") := by decide +kernel
theorem tf_357 : tables_1[357]? = some (Jvm.Cond.fieldLink "BikeShare" (164 : Nat) "BikeShare$State" "pairRides" "[I") := by decide +kernel
theorem tf_358 : tables_1[358]? = some (Jvm.Cond.fieldLink "BikeShare$State" (21 : Nat) "BikeShare$State" "pairFirst" "[I") := by decide +kernel
theorem tf_359 : tables_1[359]? = some (Jvm.Cond.fieldLink "BikeShare$State" (26 : Nat) "BikeShare$State" "trucks" "[LBikeShare$Truck;") := by decide +kernel
theorem tf_360 : tables_1[360]? = some (Jvm.Cond.fieldLink "BikeShare" (173 : Nat) "BikeShare$State" "trucks" "[LBikeShare$Truck;") := by decide +kernel
theorem tf_361 : tables_1[361]? = some (Jvm.Cond.fieldLink "BikeShare$State" (33 : Nat) "BikeShare$State" "riders" "LBikeShare$Riders;") := by decide +kernel
theorem tf_362 : tables_1[362]? = some (Jvm.Cond.fieldLink "BikeShare" (138 : Nat) "BikeShare$State" "riders" "LBikeShare$Riders;") := by decide +kernel
theorem tf_363 : tables_1[363]? = some (Jvm.Cond.fieldLink "BikeShare$State" (42 : Nat) "BikeShare$State" "city" "LBikeShare$City;") := by decide +kernel
theorem tf_364 : tables_1[364]? = some (Jvm.Cond.fieldLink "BikeShare$Tour" (30 : Nat) "BikeShare$State" "city" "LBikeShare$City;") := by decide +kernel
theorem tf_365 : tables_1[365]? = some (Jvm.Cond.fieldLink "BikeShare$History" (24 : Nat) "BikeShare$State" "city" "LBikeShare$City;") := by decide +kernel
theorem tf_366 : tables_1[366]? = some (Jvm.Cond.fieldLink "BikeShare$State" (46 : Nat) "BikeShare$State" "time" "I") := by decide +kernel
theorem tf_367 : tables_1[367]? = some (Jvm.Cond.fieldLink "BikeShare" (100 : Nat) "BikeShare$State" "time" "I") := by decide +kernel
theorem tf_368 : tables_1[368]? = some (Jvm.Cond.fieldLink "BikeShare$State" (50 : Nat) "BikeShare$State" "fares" "I") := by decide +kernel
theorem tf_369 : tables_1[369]? = some (Jvm.Cond.fieldLink "BikeShare$State" (53 : Nat) "BikeShare$State" "bonuses" "I") := by decide +kernel
theorem tf_370 : tables_1[370]? = some (Jvm.Cond.fieldLink "BikeShare$State" (56 : Nat) "BikeShare$State" "rides" "I") := by decide +kernel
theorem tf_371 : tables_1[371]? = some (Jvm.Cond.fieldLink "BikeShare$State" (59 : Nat) "BikeShare$State" "lost" "I") := by decide +kernel
theorem tf_372 : tables_1[372]? = some (Jvm.Cond.fieldLink "BikeShare$State" (62 : Nat) "BikeShare$State" "turnedAway" "I") := by decide +kernel
theorem tf_400 : tables_1[400]? = some (Jvm.Cond.fieldLink "BikeShare" (9 : Nat) "BikeShare" "buffer" "[B") := by decide +kernel
theorem tf_401 : tables_1[401]? = some (Jvm.Cond.fieldLink "BikeShare" (16 : Nat) "BikeShare" "reader" "LBikeShare$CityReader;") := by decide +kernel
theorem tf_402 : tables_1[402]? = some (Jvm.Cond.fieldLink "BikeShare" (23 : Nat) "BikeShare" "history" "LBikeShare$History;") := by decide +kernel
theorem tf_403 : tables_1[403]? = some (Jvm.Cond.fieldLink "BikeShare" (30 : Nat) "BikeShare" "tour" "LBikeShare$Tour;") := by decide +kernel
theorem tf_404 : tables_1[404]? = some (Jvm.Cond.fieldLink "BikeShare" (36 : Nat) "BikeShare" "slots" "[LBikeShare$State;") := by decide +kernel
theorem tf_405 : tables_1[405]? = some (Jvm.Cond.fieldLink "BikeShare" (40 : Nat) "BikeShare" "slotHolds" "[Z") := by decide +kernel
theorem tf_406 : tables_1[406]? = some (Jvm.Cond.fieldLink "BikeShare" (57 : Nat) "BikeShare" "now" "LBikeShare$State;") := by decide +kernel
theorem tf_407 : tables_1[407]? = some (Jvm.Cond.fieldLink "BikeShare" (61 : Nat) "BikeShare" "ahead" "LBikeShare$State;") := by decide +kernel
theorem tf_408 : tables_1[408]? = some (Jvm.Cond.fieldLink "BikeShare" (64 : Nat) "BikeShare" "filled" "I") := by decide +kernel
theorem tf_409 : tables_1[409]? = some (Jvm.Cond.fieldLink "BikeShare" (47 : Nat) "BikeShare" "city" "LBikeShare$City;") := by decide +kernel
theorem tf_410 : tables_1[410]? = some (Jvm.Cond.fieldLink "BikeShare" (51 : Nat) "BikeShare" "spare" "LBikeShare$City;") := by decide +kernel
theorem tf_434 : tables_1[434]? = some (Jvm.Cond.methodLink "BikeShareLaw" (105 : Nat) ({ cls := "BikeShare", name := "append", desc := "(IIIII)I" } : Jvm.MethodName)) := by decide +kernel
theorem tf_435 : tables_1[435]? = some (Jvm.Cond.instanceMethod ({ cls := "BikeShare", name := "append", desc := "(IIIII)I" } : Jvm.MethodName)) := by decide +kernel
theorem tf_436 : tables_1[436]? = some (Jvm.Cond.selects "BikeShare" ({ cls := "BikeShare", name := "append", desc := "(IIIII)I" } : Jvm.MethodName) ({ cls := "BikeShare", name := "append", desc := "(IIIII)I" } : Jvm.MethodName)) := by decide +kernel
theorem tf_437 : tables_1[437]? = some (Jvm.Cond.code ({ cls := "BikeShare", name := "append", desc := "(IIIII)I" } : Jvm.MethodName) prog_1_method_2_code (6 : Nat) (Option.some Jvm.ClassFile.FieldType.int)) := by decide +kernel
theorem tf_438 : tables_1[438]? = some (Jvm.Cond.methodLink "BikeShare" (68 : Nat) ({ cls := "BikeShare", name := "appendWord", desc := "(I)V" } : Jvm.MethodName)) := by decide +kernel
theorem tf_440 : tables_1[440]? = some (Jvm.Cond.instanceMethod ({ cls := "BikeShare", name := "appendWord", desc := "(I)V" } : Jvm.MethodName)) := by decide +kernel
theorem tf_441 : tables_1[441]? = some (Jvm.Cond.code ({ cls := "BikeShare", name := "appendWord", desc := "(I)V" } : Jvm.MethodName) prog_1_method_38_code (3 : Nat) (Option.none : Option Jvm.ClassFile.FieldType)) := by decide +kernel
theorem tf_442 : tables_1[442]? = some (Jvm.Cond.methodLink "BikeShareLaw" (123 : Nat) ({ cls := "BikeShare", name := "time", desc := "()I" } : Jvm.MethodName)) := by decide +kernel
theorem tf_443 : tables_1[443]? = some (Jvm.Cond.instanceMethod ({ cls := "BikeShare", name := "time", desc := "()I" } : Jvm.MethodName)) := by decide +kernel
theorem tf_444 : tables_1[444]? = some (Jvm.Cond.selects "BikeShare" ({ cls := "BikeShare", name := "time", desc := "()I" } : Jvm.MethodName) ({ cls := "BikeShare", name := "time", desc := "()I" } : Jvm.MethodName)) := by decide +kernel
theorem tf_445 : tables_1[445]? = some (Jvm.Cond.code ({ cls := "BikeShare", name := "time", desc := "()I" } : Jvm.MethodName) prog_1_method_5_code (1 : Nat) (Option.some Jvm.ClassFile.FieldType.int)) := by decide +kernel
theorem tf_446 : tables_1[446]? = some (Jvm.Cond.methodLink "BikeShareLaw" (127 : Nat) ({ cls := "BikeShare", name := "fleet", desc := "()I" } : Jvm.MethodName)) := by decide +kernel
theorem tf_447 : tables_1[447]? = some (Jvm.Cond.instanceMethod ({ cls := "BikeShare", name := "fleet", desc := "()I" } : Jvm.MethodName)) := by decide +kernel
theorem tf_448 : tables_1[448]? = some (Jvm.Cond.selects "BikeShare" ({ cls := "BikeShare", name := "fleet", desc := "()I" } : Jvm.MethodName) ({ cls := "BikeShare", name := "fleet", desc := "()I" } : Jvm.MethodName)) := by decide +kernel
theorem tf_449 : tables_1[449]? = some (Jvm.Cond.code ({ cls := "BikeShare", name := "fleet", desc := "()I" } : Jvm.MethodName) prog_1_method_6_code (1 : Nat) (Option.some Jvm.ClassFile.FieldType.int)) := by decide +kernel
theorem tf_450 : tables_1[450]? = some (Jvm.Cond.methodLink "BikeShare" (103 : Nat) ({ cls := "BikeShare$State", name := "allBikes", desc := "()I" } : Jvm.MethodName)) := by decide +kernel
theorem tf_451 : tables_1[451]? = some (Jvm.Cond.instanceMethod ({ cls := "BikeShare$State", name := "allBikes", desc := "()I" } : Jvm.MethodName)) := by decide +kernel
theorem tf_452 : tables_1[452]? = some (Jvm.Cond.selects "BikeShare$State" ({ cls := "BikeShare$State", name := "allBikes", desc := "()I" } : Jvm.MethodName) ({ cls := "BikeShare$State", name := "allBikes", desc := "()I" } : Jvm.MethodName)) := by decide +kernel
theorem tf_453 : tables_1[453]? = some (Jvm.Cond.code ({ cls := "BikeShare$State", name := "allBikes", desc := "()I" } : Jvm.MethodName) prog_7_method_13_code (3 : Nat) (Option.some Jvm.ClassFile.FieldType.int)) := by decide +kernel
theorem tf_454 : tables_1[454]? = some (Jvm.Cond.methodLink "BikeShare$State" (133 : Nat) ({ cls := "BikeShare$State", name := "truckBikes", desc := "()I" } : Jvm.MethodName)) := by decide +kernel
theorem tf_456 : tables_1[456]? = some (Jvm.Cond.instanceMethod ({ cls := "BikeShare$State", name := "truckBikes", desc := "()I" } : Jvm.MethodName)) := by decide +kernel
theorem tf_457 : tables_1[457]? = some (Jvm.Cond.code ({ cls := "BikeShare$State", name := "truckBikes", desc := "()I" } : Jvm.MethodName) prog_7_method_12_code (3 : Nat) (Option.some Jvm.ClassFile.FieldType.int)) := by decide +kernel
theorem tf_458 : tables_1[458]? = some (Jvm.Cond.methodLink "BikeShareLaw" (143 : Nat) ({ cls := "BikeShare", name := "imbalance", desc := "()I" } : Jvm.MethodName)) := by decide +kernel
theorem tf_459 : tables_1[459]? = some (Jvm.Cond.instanceMethod ({ cls := "BikeShare", name := "imbalance", desc := "()I" } : Jvm.MethodName)) := by decide +kernel
theorem tf_460 : tables_1[460]? = some (Jvm.Cond.selects "BikeShare" ({ cls := "BikeShare", name := "imbalance", desc := "()I" } : Jvm.MethodName) ({ cls := "BikeShare", name := "imbalance", desc := "()I" } : Jvm.MethodName)) := by decide +kernel
theorem tf_461 : tables_1[461]? = some (Jvm.Cond.code ({ cls := "BikeShare", name := "imbalance", desc := "()I" } : Jvm.MethodName) prog_1_method_11_code (3 : Nat) (Option.some Jvm.ClassFile.FieldType.int)) := by decide +kernel
theorem tf_462 : tables_1[462]? = some (Jvm.Cond.methodLink "BikeShare" (121 : Nat) ({ cls := "BikeShare$State", name := "missing", desc := "(I)I" } : Jvm.MethodName)) := by decide +kernel
theorem tf_463 : tables_1[463]? = some (Jvm.Cond.instanceMethod ({ cls := "BikeShare$State", name := "missing", desc := "(I)I" } : Jvm.MethodName)) := by decide +kernel
theorem tf_464 : tables_1[464]? = some (Jvm.Cond.selects "BikeShare$State" ({ cls := "BikeShare$State", name := "missing", desc := "(I)I" } : Jvm.MethodName) ({ cls := "BikeShare$State", name := "missing", desc := "(I)I" } : Jvm.MethodName)) := by decide +kernel
theorem tf_465 : tables_1[465]? = some (Jvm.Cond.code ({ cls := "BikeShare$State", name := "missing", desc := "(I)I" } : Jvm.MethodName) prog_7_method_7_code (3 : Nat) (Option.some Jvm.ClassFile.FieldType.int)) := by decide +kernel
theorem tf_466 : tables_1[466]? = some (Jvm.Cond.methodLink "BikeShare$State" (109 : Nat) ({ cls := "BikeShare$State", name := "mark", desc := "(I)I" } : Jvm.MethodName)) := by decide +kernel
theorem tf_467 : tables_1[467]? = some (Jvm.Cond.instanceMethod ({ cls := "BikeShare$State", name := "mark", desc := "(I)I" } : Jvm.MethodName)) := by decide +kernel
theorem tf_468 : tables_1[468]? = some (Jvm.Cond.selects "BikeShare$State" ({ cls := "BikeShare$State", name := "mark", desc := "(I)I" } : Jvm.MethodName) ({ cls := "BikeShare$State", name := "mark", desc := "(I)I" } : Jvm.MethodName)) := by decide +kernel
theorem tf_469 : tables_1[469]? = some (Jvm.Cond.code ({ cls := "BikeShare$State", name := "mark", desc := "(I)I" } : Jvm.MethodName) prog_7_method_6_code (2 : Nat) (Option.some Jvm.ClassFile.FieldType.int)) := by decide +kernel
theorem tf_470 : tables_1[470]? = some (Jvm.Cond.methodLink "BikeShare$State" (102 : Nat) ({ cls := "BikeShare$State", name := "working", desc := "(I)I" } : Jvm.MethodName)) := by decide +kernel
theorem tf_471 : tables_1[471]? = some (Jvm.Cond.instanceMethod ({ cls := "BikeShare$State", name := "working", desc := "(I)I" } : Jvm.MethodName)) := by decide +kernel
theorem tf_472 : tables_1[472]? = some (Jvm.Cond.selects "BikeShare$State" ({ cls := "BikeShare$State", name := "working", desc := "(I)I" } : Jvm.MethodName) ({ cls := "BikeShare$State", name := "working", desc := "(I)I" } : Jvm.MethodName)) := by decide +kernel
theorem tf_473 : tables_1[473]? = some (Jvm.Cond.code ({ cls := "BikeShare$State", name := "working", desc := "(I)I" } : Jvm.MethodName) prog_7_method_4_code (2 : Nat) (Option.some Jvm.ClassFile.FieldType.int)) := by decide +kernel
theorem tf_474 : tables_1[474]? = some (Jvm.Cond.methodLink "BikeShare$State" (112 : Nat) ({ cls := "java/lang/Math", name := "max", desc := "(II)I" } : Jvm.MethodName)) := by decide +kernel
theorem tf_475 : tables_1[475]? = some (Jvm.Cond.static ({ cls := "java/lang/Math", name := "max", desc := "(II)I" } : Jvm.MethodName)) := by decide +kernel
theorem tf_476 : tables_1[476]? = some (Jvm.Cond.code ({ cls := "java/lang/Math", name := "max", desc := "(II)I" } : Jvm.MethodName) prog_17_method_65_code (2 : Nat) (Option.some Jvm.ClassFile.FieldType.int)) := by decide +kernel
theorem tf_477 : tables_1[477]? = some (Jvm.Cond.methodLink "BikeShare$State" (118 : Nat) ({ cls := "BikeShare$State", name := "free", desc := "(I)I" } : Jvm.MethodName)) := by decide +kernel
theorem tf_478 : tables_1[478]? = some (Jvm.Cond.instanceMethod ({ cls := "BikeShare$State", name := "free", desc := "(I)I" } : Jvm.MethodName)) := by decide +kernel
theorem tf_479 : tables_1[479]? = some (Jvm.Cond.selects "BikeShare$State" ({ cls := "BikeShare$State", name := "free", desc := "(I)I" } : Jvm.MethodName) ({ cls := "BikeShare$State", name := "free", desc := "(I)I" } : Jvm.MethodName)) := by decide +kernel
theorem tf_480 : tables_1[480]? = some (Jvm.Cond.code ({ cls := "BikeShare$State", name := "free", desc := "(I)I" } : Jvm.MethodName) prog_7_method_5_code (2 : Nat) (Option.some Jvm.ClassFile.FieldType.int)) := by decide +kernel
theorem tf_481 : tables_1[481]? = some (Jvm.Cond.methodLink "BikeShareLaw" (164 : Nat) ({ cls := "BikeShare", name := "riders", desc := "()I" } : Jvm.MethodName)) := by decide +kernel
theorem tf_482 : tables_1[482]? = some (Jvm.Cond.instanceMethod ({ cls := "BikeShare", name := "riders", desc := "()I" } : Jvm.MethodName)) := by decide +kernel
theorem tf_483 : tables_1[483]? = some (Jvm.Cond.selects "BikeShare" ({ cls := "BikeShare", name := "riders", desc := "()I" } : Jvm.MethodName) ({ cls := "BikeShare", name := "riders", desc := "()I" } : Jvm.MethodName)) := by decide +kernel
theorem tf_484 : tables_1[484]? = some (Jvm.Cond.code ({ cls := "BikeShare", name := "riders", desc := "()I" } : Jvm.MethodName) prog_1_method_17_code (1 : Nat) (Option.some Jvm.ClassFile.FieldType.int)) := by decide +kernel
theorem tf_485 : tables_1[485]? = some (Jvm.Cond.methodLink "BikeShareLaw" (174 : Nat) ({ cls := "BikeShare", name := "busiestPair", desc := "()I" } : Jvm.MethodName)) := by decide +kernel
theorem tf_486 : tables_1[486]? = some (Jvm.Cond.instanceMethod ({ cls := "BikeShare", name := "busiestPair", desc := "()I" } : Jvm.MethodName)) := by decide +kernel
theorem tf_487 : tables_1[487]? = some (Jvm.Cond.selects "BikeShare" ({ cls := "BikeShare", name := "busiestPair", desc := "()I" } : Jvm.MethodName) ({ cls := "BikeShare", name := "busiestPair", desc := "()I" } : Jvm.MethodName)) := by decide +kernel
theorem tf_488 : tables_1[488]? = some (Jvm.Cond.code ({ cls := "BikeShare", name := "busiestPair", desc := "()I" } : Jvm.MethodName) prog_1_method_20_code (1 : Nat) (Option.some Jvm.ClassFile.FieldType.int)) := by decide +kernel
theorem tf_489 : tables_1[489]? = some (Jvm.Cond.methodLink "BikeShare" (167 : Nat) ({ cls := "BikeShare$State", name := "busiest", desc := "()I" } : Jvm.MethodName)) := by decide +kernel
theorem tf_490 : tables_1[490]? = some (Jvm.Cond.instanceMethod ({ cls := "BikeShare$State", name := "busiest", desc := "()I" } : Jvm.MethodName)) := by decide +kernel
theorem tf_491 : tables_1[491]? = some (Jvm.Cond.selects "BikeShare$State" ({ cls := "BikeShare$State", name := "busiest", desc := "()I" } : Jvm.MethodName) ({ cls := "BikeShare$State", name := "busiest", desc := "()I" } : Jvm.MethodName)) := by decide +kernel
theorem tf_492 : tables_1[492]? = some (Jvm.Cond.code ({ cls := "BikeShare$State", name := "busiest", desc := "()I" } : Jvm.MethodName) prog_7_method_14_code (3 : Nat) (Option.some Jvm.ClassFile.FieldType.int)) := by decide +kernel
theorem tf_493 : tables_1[493]? = some (Jvm.Cond.methodLink "BikeShare$State" (142 : Nat) ({ cls := "BikeShare$State", name := "isBusier", desc := "(II)Z" } : Jvm.MethodName)) := by decide +kernel
theorem tf_495 : tables_1[495]? = some (Jvm.Cond.instanceMethod ({ cls := "BikeShare$State", name := "isBusier", desc := "(II)Z" } : Jvm.MethodName)) := by decide +kernel
theorem tf_496 : tables_1[496]? = some (Jvm.Cond.code ({ cls := "BikeShare$State", name := "isBusier", desc := "(II)Z" } : Jvm.MethodName) prog_7_method_15_code (3 : Nat) (Option.some Jvm.ClassFile.FieldType.boolean)) := by decide +kernel
theorem tf_497 : tables_1[497]? = some (Jvm.Cond.methodLink "BikeShareLaw" (221 : Nat) ({ cls := "BikeShare", name := "undo", desc := "()I" } : Jvm.MethodName)) := by decide +kernel
theorem tf_498 : tables_1[498]? = some (Jvm.Cond.instanceMethod ({ cls := "BikeShare", name := "undo", desc := "()I" } : Jvm.MethodName)) := by decide +kernel
theorem tf_499 : tables_1[499]? = some (Jvm.Cond.selects "BikeShare" ({ cls := "BikeShare", name := "undo", desc := "()I" } : Jvm.MethodName) ({ cls := "BikeShare", name := "undo", desc := "()I" } : Jvm.MethodName)) := by decide +kernel
theorem tf_500 : tables_1[500]? = some (Jvm.Cond.code ({ cls := "BikeShare", name := "undo", desc := "()I" } : Jvm.MethodName) prog_1_method_35_code (1 : Nat) (Option.some Jvm.ClassFile.FieldType.int)) := by decide +kernel
theorem tf_501 : tables_1[501]? = some (Jvm.Cond.methodLink "BikeShare" (268 : Nat) ({ cls := "BikeShare$History", name := "takeBack", desc := "(LBikeShare$State;)Z" } : Jvm.MethodName)) := by decide +kernel
theorem tf_502 : tables_1[502]? = some (Jvm.Cond.instanceMethod ({ cls := "BikeShare$History", name := "takeBack", desc := "(LBikeShare$State;)Z" } : Jvm.MethodName)) := by decide +kernel
theorem tf_503 : tables_1[503]? = some (Jvm.Cond.selects "BikeShare$History" ({ cls := "BikeShare$History", name := "takeBack", desc := "(LBikeShare$State;)Z" } : Jvm.MethodName) ({ cls := "BikeShare$History", name := "takeBack", desc := "(LBikeShare$State;)Z" } : Jvm.MethodName)) := by decide +kernel
theorem tf_504 : tables_1[504]? = some (Jvm.Cond.code ({ cls := "BikeShare$History", name := "takeBack", desc := "(LBikeShare$State;)Z" } : Jvm.MethodName) prog_5_method_4_code (3 : Nat) (Option.some Jvm.ClassFile.FieldType.boolean)) := by decide +kernel
theorem tf_505 : tables_1[505]? = some (Jvm.Cond.methodLink "BikeShare$History" (31 : Nat) ({ cls := "BikeShare$State", name := "copy", desc := "(LBikeShare$State;)V" } : Jvm.MethodName)) := by decide +kernel
theorem tf_506 : tables_1[506]? = some (Jvm.Cond.instanceMethod ({ cls := "BikeShare$State", name := "copy", desc := "(LBikeShare$State;)V" } : Jvm.MethodName)) := by decide +kernel
theorem tf_507 : tables_1[507]? = some (Jvm.Cond.selects "BikeShare$State" ({ cls := "BikeShare$State", name := "copy", desc := "(LBikeShare$State;)V" } : Jvm.MethodName) ({ cls := "BikeShare$State", name := "copy", desc := "(LBikeShare$State;)V" } : Jvm.MethodName)) := by decide +kernel
theorem tf_508 : tables_1[508]? = some (Jvm.Cond.code ({ cls := "BikeShare$State", name := "copy", desc := "(LBikeShare$State;)V" } : Jvm.MethodName) prog_7_method_3_code (3 : Nat) (Option.none : Option Jvm.ClassFile.FieldType)) := by decide +kernel
theorem tf_509 : tables_1[509]? = some (Jvm.Cond.methodLink "BikeShare$State" (92 : Nat) ({ cls := "BikeShare$Riders", name := "copy", desc := "(LBikeShare$Riders;)V" } : Jvm.MethodName)) := by decide +kernel
theorem tf_510 : tables_1[510]? = some (Jvm.Cond.instanceMethod ({ cls := "BikeShare$Riders", name := "copy", desc := "(LBikeShare$Riders;)V" } : Jvm.MethodName)) := by decide +kernel
theorem tf_511 : tables_1[511]? = some (Jvm.Cond.selects "BikeShare$Riders" ({ cls := "BikeShare$Riders", name := "copy", desc := "(LBikeShare$Riders;)V" } : Jvm.MethodName) ({ cls := "BikeShare$Riders", name := "copy", desc := "(LBikeShare$Riders;)V" } : Jvm.MethodName)) := by decide +kernel
theorem tf_512 : tables_1[512]? = some (Jvm.Cond.code ({ cls := "BikeShare$Riders", name := "copy", desc := "(LBikeShare$Riders;)V" } : Jvm.MethodName) prog_6_method_7_code (2 : Nat) (Option.none : Option Jvm.ClassFile.FieldType)) := by decide +kernel
theorem tf_513 : tables_1[513]? = some (Jvm.Cond.methodLink "BikeShare$Riders" (20 : Nat) ({ cls := "java/lang/System", name := "arraycopy", desc := "(Ljava/lang/Object;ILjava/lang/Object;II)V" } : Jvm.MethodName)) := by decide +kernel
theorem tf_514 : tables_1[514]? = some (Jvm.Cond.methodLink "BikeShare$State" (96 : Nat) ({ cls := "BikeShare$Truck", name := "copy", desc := "(LBikeShare$Truck;)V" } : Jvm.MethodName)) := by decide +kernel
theorem tf_515 : tables_1[515]? = some (Jvm.Cond.instanceMethod ({ cls := "BikeShare$Truck", name := "copy", desc := "(LBikeShare$Truck;)V" } : Jvm.MethodName)) := by decide +kernel
theorem tf_516 : tables_1[516]? = some (Jvm.Cond.selects "BikeShare$Truck" ({ cls := "BikeShare$Truck", name := "copy", desc := "(LBikeShare$Truck;)V" } : Jvm.MethodName) ({ cls := "BikeShare$Truck", name := "copy", desc := "(LBikeShare$Truck;)V" } : Jvm.MethodName)) := by decide +kernel
theorem tf_517 : tables_1[517]? = some (Jvm.Cond.code ({ cls := "BikeShare$Truck", name := "copy", desc := "(LBikeShare$Truck;)V" } : Jvm.MethodName) prog_9_method_3_code (2 : Nat) (Option.none : Option Jvm.ClassFile.FieldType)) := by decide +kernel
theorem tf_518 : tables_1[518]? = some (Jvm.Cond.methodLink "BikeShare$Truck" (37 : Nat) ({ cls := "java/lang/System", name := "arraycopy", desc := "(Ljava/lang/Object;ILjava/lang/Object;II)V" } : Jvm.MethodName)) := by decide +kernel
theorem tf_519 : tables_1[519]? = some (Jvm.Cond.methodLink "BikeShareLaw" (225 : Nat) ({ cls := "BikeShare", name := "saveSnapshot", desc := "(I)Z" } : Jvm.MethodName)) := by decide +kernel
theorem tf_520 : tables_1[520]? = some (Jvm.Cond.instanceMethod ({ cls := "BikeShare", name := "saveSnapshot", desc := "(I)Z" } : Jvm.MethodName)) := by decide +kernel
theorem tf_521 : tables_1[521]? = some (Jvm.Cond.selects "BikeShare" ({ cls := "BikeShare", name := "saveSnapshot", desc := "(I)Z" } : Jvm.MethodName) ({ cls := "BikeShare", name := "saveSnapshot", desc := "(I)Z" } : Jvm.MethodName)) := by decide +kernel
theorem tf_522 : tables_1[522]? = some (Jvm.Cond.code ({ cls := "BikeShare", name := "saveSnapshot", desc := "(I)Z" } : Jvm.MethodName) prog_1_method_36_code (2 : Nat) (Option.some Jvm.ClassFile.FieldType.boolean)) := by decide +kernel
theorem tf_523 : tables_1[523]? = some (Jvm.Cond.methodLink "BikeShare" (223 : Nat) ({ cls := "BikeShare$State", name := "copy", desc := "(LBikeShare$State;)V" } : Jvm.MethodName)) := by decide +kernel
theorem tf_524 : tables_1[524]? = some (Jvm.Cond.methodLink "BikeShareLaw" (229 : Nat) ({ cls := "BikeShare", name := "restoreSnapshot", desc := "(I)Z" } : Jvm.MethodName)) := by decide +kernel
theorem tf_525 : tables_1[525]? = some (Jvm.Cond.instanceMethod ({ cls := "BikeShare", name := "restoreSnapshot", desc := "(I)Z" } : Jvm.MethodName)) := by decide +kernel
theorem tf_526 : tables_1[526]? = some (Jvm.Cond.selects "BikeShare" ({ cls := "BikeShare", name := "restoreSnapshot", desc := "(I)Z" } : Jvm.MethodName) ({ cls := "BikeShare", name := "restoreSnapshot", desc := "(I)Z" } : Jvm.MethodName)) := by decide +kernel
theorem tf_527 : tables_1[527]? = some (Jvm.Cond.code ({ cls := "BikeShare", name := "restoreSnapshot", desc := "(I)Z" } : Jvm.MethodName) prog_1_method_37_code (2 : Nat) (Option.some Jvm.ClassFile.FieldType.boolean)) := by decide +kernel
theorem tf_528 : tables_1[528]? = some (Jvm.Cond.methodLink "BikeShare" (86 : Nat) ({ cls := "BikeShare$History", name := "clear", desc := "()V" } : Jvm.MethodName)) := by decide +kernel
theorem tf_529 : tables_1[529]? = some (Jvm.Cond.instanceMethod ({ cls := "BikeShare$History", name := "clear", desc := "()V" } : Jvm.MethodName)) := by decide +kernel
theorem tf_530 : tables_1[530]? = some (Jvm.Cond.selects "BikeShare$History" ({ cls := "BikeShare$History", name := "clear", desc := "()V" } : Jvm.MethodName) ({ cls := "BikeShare$History", name := "clear", desc := "()V" } : Jvm.MethodName)) := by decide +kernel
theorem tf_531 : tables_1[531]? = some (Jvm.Cond.code ({ cls := "BikeShare$History", name := "clear", desc := "()V" } : Jvm.MethodName) prog_5_method_2_code (1 : Nat) (Option.none : Option Jvm.ClassFile.FieldType)) := by decide +kernel
theorem tf_532 : tables_1[532]? = some (Jvm.Cond.methodLink "BikeShareLaw" (110 : Nat) ({ cls := "BikeShareLaw", name := "parse", desc := "(LBikeShare;I[J)I" } : Jvm.MethodName)) := by decide +kernel
theorem tf_533 : tables_1[533]? = some (Jvm.Cond.static ({ cls := "BikeShareLaw", name := "parse", desc := "(LBikeShare;I[J)I" } : Jvm.MethodName)) := by decide +kernel
theorem tf_535 : tables_1[535]? = some (Jvm.Cond.classLink "BikeShareLaw" (13 : Nat) "java/lang/IllegalArgumentException") := by decide +kernel
theorem tf_536 : tables_1[536]? = some (Jvm.Cond.methodLink "BikeShareLaw" (7 : Nat) ({ cls := "BikeShare", name := "parse", desc := "(I)I" } : Jvm.MethodName)) := by decide +kernel
theorem tf_537 : tables_1[537]? = some (Jvm.Cond.instanceMethod ({ cls := "BikeShare", name := "parse", desc := "(I)I" } : Jvm.MethodName)) := by decide +kernel
theorem tf_538 : tables_1[538]? = some (Jvm.Cond.selects "BikeShare" ({ cls := "BikeShare", name := "parse", desc := "(I)I" } : Jvm.MethodName) ({ cls := "BikeShare", name := "parse", desc := "(I)I" } : Jvm.MethodName)) := by decide +kernel
theorem tf_539 : tables_1[539]? = some (Jvm.Cond.code ({ cls := "BikeShare", name := "parse", desc := "(I)I" } : Jvm.MethodName) prog_1_method_3_code (5 : Nat) (Option.some Jvm.ClassFile.FieldType.int)) := by decide +kernel
theorem tf_540 : tables_1[540]? = some (Jvm.Cond.classLink "BikeShare" (72 : Nat) "java/lang/IllegalArgumentException") := by decide +kernel
theorem tf_607 : tables_1[607]? = some (Jvm.Cond.methodLink "BikeShare" (79 : Nat) ({ cls := "BikeShare$CityReader", name := "readCity", desc := "([BILBikeShare$City;)I" } : Jvm.MethodName)) := by decide +kernel
theorem tf_608 : tables_1[608]? = some (Jvm.Cond.instanceMethod ({ cls := "BikeShare$CityReader", name := "readCity", desc := "([BILBikeShare$City;)I" } : Jvm.MethodName)) := by decide +kernel
theorem tf_609 : tables_1[609]? = some (Jvm.Cond.selects "BikeShare$CityReader" ({ cls := "BikeShare$CityReader", name := "readCity", desc := "([BILBikeShare$City;)I" } : Jvm.MethodName) ({ cls := "BikeShare$CityReader", name := "readCity", desc := "([BILBikeShare$City;)I" } : Jvm.MethodName)) := by decide +kernel
theorem tf_610 : tables_1[610]? = some (Jvm.Cond.code ({ cls := "BikeShare$CityReader", name := "readCity", desc := "([BILBikeShare$City;)I" } : Jvm.MethodName) prog_3_method_2_code (5 : Nat) (Option.some Jvm.ClassFile.FieldType.int)) := by decide +kernel
theorem tf_611 : tables_1[611]? = some (Jvm.Cond.methodLink "BikeShare$CityReader" (19 : Nat) ({ cls := "java/lang/Math", name := "min", desc := "(II)I" } : Jvm.MethodName)) := by decide +kernel
theorem tf_612 : tables_1[612]? = some (Jvm.Cond.static ({ cls := "java/lang/Math", name := "min", desc := "(II)I" } : Jvm.MethodName)) := by decide +kernel
theorem tf_613 : tables_1[613]? = some (Jvm.Cond.code ({ cls := "java/lang/Math", name := "min", desc := "(II)I" } : Jvm.MethodName) prog_17_method_69_code (2 : Nat) (Option.some Jvm.ClassFile.FieldType.int)) := by decide +kernel
theorem tf_614 : tables_1[614]? = some (Jvm.Cond.methodLink "BikeShare$CityReader" (33 : Nat) ({ cls := "BikeShare$City", name := "clear", desc := "()V" } : Jvm.MethodName)) := by decide +kernel
theorem tf_615 : tables_1[615]? = some (Jvm.Cond.methodLink "BikeShare$CityReader" (57 : Nat) ({ cls := "BikeShare$CityReader", name := "nextToken", desc := "()V" } : Jvm.MethodName)) := by decide +kernel
theorem tf_617 : tables_1[617]? = some (Jvm.Cond.instanceMethod ({ cls := "BikeShare$CityReader", name := "nextToken", desc := "()V" } : Jvm.MethodName)) := by decide +kernel
theorem tf_618 : tables_1[618]? = some (Jvm.Cond.code ({ cls := "BikeShare$CityReader", name := "nextToken", desc := "()V" } : Jvm.MethodName) prog_3_method_25_code (1 : Nat) (Option.none : Option Jvm.ClassFile.FieldType)) := by decide +kernel
theorem tf_619 : tables_1[619]? = some (Jvm.Cond.methodLink "BikeShare$CityReader" (220 : Nat) ({ cls := "BikeShare$CityReader", name := "isLetter", desc := "(I)Z" } : Jvm.MethodName)) := by decide +kernel
theorem tf_620 : tables_1[620]? = some (Jvm.Cond.static ({ cls := "BikeShare$CityReader", name := "isLetter", desc := "(I)Z" } : Jvm.MethodName)) := by decide +kernel
theorem tf_621 : tables_1[621]? = some (Jvm.Cond.code ({ cls := "BikeShare$CityReader", name := "isLetter", desc := "(I)Z" } : Jvm.MethodName) prog_3_method_26_code (1 : Nat) (Option.some Jvm.ClassFile.FieldType.boolean)) := by decide +kernel
theorem tf_622 : tables_1[622]? = some (Jvm.Cond.methodLink "BikeShare$CityReader" (224 : Nat) ({ cls := "BikeShare$CityReader", name := "isDigit", desc := "(I)Z" } : Jvm.MethodName)) := by decide +kernel
theorem tf_623 : tables_1[623]? = some (Jvm.Cond.static ({ cls := "BikeShare$CityReader", name := "isDigit", desc := "(I)Z" } : Jvm.MethodName)) := by decide +kernel
theorem tf_624 : tables_1[624]? = some (Jvm.Cond.code ({ cls := "BikeShare$CityReader", name := "isDigit", desc := "(I)Z" } : Jvm.MethodName) prog_3_method_27_code (1 : Nat) (Option.some Jvm.ClassFile.FieldType.boolean)) := by decide +kernel
theorem tf_625 : tables_1[625]? = some (Jvm.Cond.methodLink "BikeShare$CityReader" (227 : Nat) ({ cls := "BikeShare$CityReader", name := "isSignByte", desc := "(I)Z" } : Jvm.MethodName)) := by decide +kernel
theorem tf_626 : tables_1[626]? = some (Jvm.Cond.static ({ cls := "BikeShare$CityReader", name := "isSignByte", desc := "(I)Z" } : Jvm.MethodName)) := by decide +kernel
theorem tf_627 : tables_1[627]? = some (Jvm.Cond.code ({ cls := "BikeShare$CityReader", name := "isSignByte", desc := "(I)Z" } : Jvm.MethodName) prog_3_method_28_code (1 : Nat) (Option.some Jvm.ClassFile.FieldType.boolean)) := by decide +kernel
theorem tf_628 : tables_1[628]? = some (Jvm.Cond.methodLink "BikeShare$CityReader" (63 : Nat) ({ cls := "BikeShare$CityReader", name := "readStatement", desc := "()V" } : Jvm.MethodName)) := by decide +kernel
theorem tf_630 : tables_1[630]? = some (Jvm.Cond.instanceMethod ({ cls := "BikeShare$CityReader", name := "readStatement", desc := "()V" } : Jvm.MethodName)) := by decide +kernel
theorem tf_631 : tables_1[631]? = some (Jvm.Cond.code ({ cls := "BikeShare$CityReader", name := "readStatement", desc := "()V" } : Jvm.MethodName) prog_3_method_3_code (1 : Nat) (Option.none : Option Jvm.ClassFile.FieldType)) := by decide +kernel
theorem tf_633 : tables_1[633]? = some (Jvm.Cond.methodLink "BikeShare$CityReader" (72 : Nat) ({ cls := "BikeShare$CityReader", name := "isWord", desc := "(Ljava/lang/String;)Z" } : Jvm.MethodName)) := by decide +kernel
theorem tf_635 : tables_1[635]? = some (Jvm.Cond.instanceMethod ({ cls := "BikeShare$CityReader", name := "isWord", desc := "(Ljava/lang/String;)Z" } : Jvm.MethodName)) := by decide +kernel
theorem tf_636 : tables_1[636]? = some (Jvm.Cond.code ({ cls := "BikeShare$CityReader", name := "isWord", desc := "(Ljava/lang/String;)Z" } : Jvm.MethodName) prog_3_method_24_code (3 : Nat) (Option.some Jvm.ClassFile.FieldType.boolean)) := by decide +kernel
theorem tf_637 : tables_1[637]? = some (Jvm.Cond.methodLink "BikeShare$CityReader" (212 : Nat) ({ cls := "java/lang/String", name := "length", desc := "()I" } : Jvm.MethodName)) := by decide +kernel
theorem tf_638 : tables_1[638]? = some (Jvm.Cond.instanceMethod ({ cls := "java/lang/String", name := "length", desc := "()I" } : Jvm.MethodName)) := by decide +kernel
theorem tf_639 : tables_1[639]? = some (Jvm.Cond.selects "java/lang/String" ({ cls := "java/lang/String", name := "length", desc := "()I" } : Jvm.MethodName) ({ cls := "java/lang/String", name := "length", desc := "()I" } : Jvm.MethodName)) := by decide +kernel
theorem tf_640 : tables_1[640]? = some (Jvm.Cond.code ({ cls := "java/lang/String", name := "length", desc := "()I" } : Jvm.MethodName) prog_19_method_54_code (1 : Nat) (Option.some Jvm.ClassFile.FieldType.int)) := by decide +kernel
theorem tf_641 : tables_1[641]? = some (Jvm.Cond.methodLink "java/lang/String" (335 : Nat) ({ cls := "java/lang/String", name := "coder", desc := "()B" } : Jvm.MethodName)) := by decide +kernel
theorem tf_642 : tables_1[642]? = some (Jvm.Cond.instanceMethod ({ cls := "java/lang/String", name := "coder", desc := "()B" } : Jvm.MethodName)) := by decide +kernel
theorem tf_643 : tables_1[643]? = some (Jvm.Cond.selects "java/lang/String" ({ cls := "java/lang/String", name := "coder", desc := "()B" } : Jvm.MethodName) ({ cls := "java/lang/String", name := "coder", desc := "()B" } : Jvm.MethodName)) := by decide +kernel
theorem tf_644 : tables_1[644]? = some (Jvm.Cond.code ({ cls := "java/lang/String", name := "coder", desc := "()B" } : Jvm.MethodName) prog_19_method_152_code (1 : Nat) (Option.some Jvm.ClassFile.FieldType.byte)) := by decide +kernel
theorem tf_647 : tables_1[647]? = some (Jvm.Cond.methodLink "BikeShare$CityReader" (216 : Nat) ({ cls := "java/lang/String", name := "charAt", desc := "(I)C" } : Jvm.MethodName)) := by decide +kernel
theorem tf_648 : tables_1[648]? = some (Jvm.Cond.instanceMethod ({ cls := "java/lang/String", name := "charAt", desc := "(I)C" } : Jvm.MethodName)) := by decide +kernel
theorem tf_649 : tables_1[649]? = some (Jvm.Cond.selects "java/lang/String" ({ cls := "java/lang/String", name := "charAt", desc := "(I)C" } : Jvm.MethodName) ({ cls := "java/lang/String", name := "charAt", desc := "(I)C" } : Jvm.MethodName)) := by decide +kernel
theorem tf_650 : tables_1[650]? = some (Jvm.Cond.code ({ cls := "java/lang/String", name := "charAt", desc := "(I)C" } : Jvm.MethodName) prog_19_method_56_code (2 : Nat) (Option.some Jvm.ClassFile.FieldType.char)) := by decide +kernel
theorem tf_651 : tables_1[651]? = some (Jvm.Cond.methodLink "java/lang/String" (492 : Nat) ({ cls := "java/lang/String", name := "isLatin1", desc := "()Z" } : Jvm.MethodName)) := by decide +kernel
theorem tf_652 : tables_1[652]? = some (Jvm.Cond.instanceMethod ({ cls := "java/lang/String", name := "isLatin1", desc := "()Z" } : Jvm.MethodName)) := by decide +kernel
theorem tf_653 : tables_1[653]? = some (Jvm.Cond.selects "java/lang/String" ({ cls := "java/lang/String", name := "isLatin1", desc := "()Z" } : Jvm.MethodName) ({ cls := "java/lang/String", name := "isLatin1", desc := "()Z" } : Jvm.MethodName)) := by decide +kernel
theorem tf_654 : tables_1[654]? = some (Jvm.Cond.code ({ cls := "java/lang/String", name := "isLatin1", desc := "()Z" } : Jvm.MethodName) prog_19_method_154_code (1 : Nat) (Option.some Jvm.ClassFile.FieldType.boolean)) := by decide +kernel
theorem tf_655 : tables_1[655]? = some (Jvm.Cond.methodLink "java/lang/String" (495 : Nat) ({ cls := "java/lang/StringLatin1", name := "charAt", desc := "([BI)C" } : Jvm.MethodName)) := by decide +kernel
theorem tf_656 : tables_1[656]? = some (Jvm.Cond.static ({ cls := "java/lang/StringLatin1", name := "charAt", desc := "([BI)C" } : Jvm.MethodName)) := by decide +kernel
theorem tf_657 : tables_1[657]? = some (Jvm.Cond.code ({ cls := "java/lang/StringLatin1", name := "charAt", desc := "([BI)C" } : Jvm.MethodName) prog_20_method_2_code (2 : Nat) (Option.some Jvm.ClassFile.FieldType.char)) := by decide +kernel
theorem tf_658 : tables_1[658]? = some (Jvm.Cond.methodLink "java/lang/StringLatin1" (9 : Nat) ({ cls := "java/lang/String", name := "checkIndex", desc := "(II)V" } : Jvm.MethodName)) := by decide +kernel
theorem tf_659 : tables_1[659]? = some (Jvm.Cond.static ({ cls := "java/lang/String", name := "checkIndex", desc := "(II)V" } : Jvm.MethodName)) := by decide +kernel
theorem tf_660 : tables_1[660]? = some (Jvm.Cond.code ({ cls := "java/lang/String", name := "checkIndex", desc := "(II)V" } : Jvm.MethodName) prog_19_method_155_code (2 : Nat) (Option.none : Option Jvm.ClassFile.FieldType)) := by decide +kernel
theorem tf_663 : tables_1[663]? = some (Jvm.Cond.methodLink "java/lang/String" (1059 : Nat) ({ cls := "jdk/internal/util/Preconditions", name := "checkIndex", desc := "(IILjava/util/function/BiFunction;)I" } : Jvm.MethodName)) := by decide +kernel
theorem tf_664 : tables_1[664]? = some (Jvm.Cond.static ({ cls := "jdk/internal/util/Preconditions", name := "checkIndex", desc := "(IILjava/util/function/BiFunction;)I" } : Jvm.MethodName)) := by decide +kernel
theorem tf_665 : tables_1[665]? = some (Jvm.Cond.code ({ cls := "jdk/internal/util/Preconditions", name := "checkIndex", desc := "(IILjava/util/function/BiFunction;)I" } : Jvm.MethodName) prog_25_method_11_code (3 : Nat) (Option.some Jvm.ClassFile.FieldType.int)) := by decide +kernel
theorem tf_666 : tables_1[666]? = some (Jvm.Cond.methodLink "java/lang/String" (498 : Nat) ({ cls := "java/lang/StringUTF16", name := "charAt", desc := "([BI)C" } : Jvm.MethodName)) := by decide +kernel
theorem tf_667 : tables_1[667]? = some (Jvm.Cond.static ({ cls := "java/lang/StringUTF16", name := "charAt", desc := "([BI)C" } : Jvm.MethodName)) := by decide +kernel
theorem tf_668 : tables_1[668]? = some (Jvm.Cond.code ({ cls := "java/lang/StringUTF16", name := "charAt", desc := "([BI)C" } : Jvm.MethodName) prog_21_method_83_code (2 : Nat) (Option.some Jvm.ClassFile.FieldType.char)) := by decide +kernel
theorem tf_669 : tables_1[669]? = some (Jvm.Cond.methodLink "java/lang/StringUTF16" (67 : Nat) ({ cls := "java/lang/StringUTF16", name := "checkIndex", desc := "(I[B)V" } : Jvm.MethodName)) := by decide +kernel
theorem tf_670 : tables_1[670]? = some (Jvm.Cond.static ({ cls := "java/lang/StringUTF16", name := "checkIndex", desc := "(I[B)V" } : Jvm.MethodName)) := by decide +kernel
theorem tf_671 : tables_1[671]? = some (Jvm.Cond.code ({ cls := "java/lang/StringUTF16", name := "checkIndex", desc := "(I[B)V" } : Jvm.MethodName) prog_21_method_91_code (2 : Nat) (Option.none : Option Jvm.ClassFile.FieldType)) := by decide +kernel
theorem tf_672 : tables_1[672]? = some (Jvm.Cond.methodLink "java/lang/StringUTF16" (48 : Nat) ({ cls := "java/lang/StringUTF16", name := "length", desc := "([B)I" } : Jvm.MethodName)) := by decide +kernel
theorem tf_673 : tables_1[673]? = some (Jvm.Cond.static ({ cls := "java/lang/StringUTF16", name := "length", desc := "([B)I" } : Jvm.MethodName)) := by decide +kernel
theorem tf_674 : tables_1[674]? = some (Jvm.Cond.code ({ cls := "java/lang/StringUTF16", name := "length", desc := "([B)I" } : Jvm.MethodName) prog_21_method_6_code (1 : Nat) (Option.some Jvm.ClassFile.FieldType.int)) := by decide +kernel
theorem tf_675 : tables_1[675]? = some (Jvm.Cond.methodLink "java/lang/StringUTF16" (414 : Nat) ({ cls := "java/lang/String", name := "checkIndex", desc := "(II)V" } : Jvm.MethodName)) := by decide +kernel
theorem tf_676 : tables_1[676]? = some (Jvm.Cond.methodLink "java/lang/StringUTF16" (71 : Nat) ({ cls := "java/lang/StringUTF16", name := "getChar", desc := "([BI)C" } : Jvm.MethodName)) := by decide +kernel
theorem tf_677 : tables_1[677]? = some (Jvm.Cond.static ({ cls := "java/lang/StringUTF16", name := "getChar", desc := "([BI)C" } : Jvm.MethodName)) := by decide +kernel
theorem tf_678 : tables_1[678]? = some (Jvm.Cond.code ({ cls := "java/lang/StringUTF16", name := "getChar", desc := "([BI)C" } : Jvm.MethodName) prog_21_method_5_code (2 : Nat) (Option.some Jvm.ClassFile.FieldType.char)) := by decide +kernel
theorem tf_685 : tables_1[685]? = some (Jvm.Cond.methodLink "BikeShare$CityReader" (76 : Nat) ({ cls := "BikeShare$CityReader", name := "readStation", desc := "()V" } : Jvm.MethodName)) := by decide +kernel
theorem tf_687 : tables_1[687]? = some (Jvm.Cond.instanceMethod ({ cls := "BikeShare$CityReader", name := "readStation", desc := "()V" } : Jvm.MethodName)) := by decide +kernel
theorem tf_688 : tables_1[688]? = some (Jvm.Cond.code ({ cls := "BikeShare$CityReader", name := "readStation", desc := "()V" } : Jvm.MethodName) prog_3_method_4_code (5 : Nat) (Option.none : Option Jvm.ClassFile.FieldType)) := by decide +kernel
theorem tf_689 : tables_1[689]? = some (Jvm.Cond.methodLink "BikeShare$CityReader" (116 : Nat) ({ cls := "BikeShare$CityReader", name := "takeCountedWord", desc := "(II)V" } : Jvm.MethodName)) := by decide +kernel
theorem tf_691 : tables_1[691]? = some (Jvm.Cond.instanceMethod ({ cls := "BikeShare$CityReader", name := "takeCountedWord", desc := "(II)V" } : Jvm.MethodName)) := by decide +kernel
theorem tf_692 : tables_1[692]? = some (Jvm.Cond.code ({ cls := "BikeShare$CityReader", name := "takeCountedWord", desc := "(II)V" } : Jvm.MethodName) prog_3_method_18_code (3 : Nat) (Option.none : Option Jvm.ClassFile.FieldType)) := by decide +kernel
theorem tf_693 : tables_1[693]? = some (Jvm.Cond.methodLink "BikeShare$CityReader" (109 : Nat) ({ cls := "BikeShare$CityReader", name := "fail", desc := "(I)V" } : Jvm.MethodName)) := by decide +kernel
theorem tf_695 : tables_1[695]? = some (Jvm.Cond.instanceMethod ({ cls := "BikeShare$CityReader", name := "fail", desc := "(I)V" } : Jvm.MethodName)) := by decide +kernel
theorem tf_696 : tables_1[696]? = some (Jvm.Cond.code ({ cls := "BikeShare$CityReader", name := "fail", desc := "(I)V" } : Jvm.MethodName) prog_3_method_22_code (2 : Nat) (Option.none : Option Jvm.ClassFile.FieldType)) := by decide +kernel
theorem tf_697 : tables_1[697]? = some (Jvm.Cond.methodLink "BikeShare$CityReader" (120 : Nat) ({ cls := "BikeShare$CityReader", name := "takeNumber", desc := "(II)I" } : Jvm.MethodName)) := by decide +kernel
theorem tf_699 : tables_1[699]? = some (Jvm.Cond.instanceMethod ({ cls := "BikeShare$CityReader", name := "takeNumber", desc := "(II)I" } : Jvm.MethodName)) := by decide +kernel
theorem tf_700 : tables_1[700]? = some (Jvm.Cond.code ({ cls := "BikeShare$CityReader", name := "takeNumber", desc := "(II)I" } : Jvm.MethodName) prog_3_method_20_code (4 : Nat) (Option.some Jvm.ClassFile.FieldType.int)) := by decide +kernel
theorem tf_701 : tables_1[701]? = some (Jvm.Cond.methodLink "BikeShare$CityReader" (123 : Nat) ({ cls := "BikeShare$City", name := "addStation", desc := "(IIII)V" } : Jvm.MethodName)) := by decide +kernel
theorem tf_702 : tables_1[702]? = some (Jvm.Cond.instanceMethod ({ cls := "BikeShare$City", name := "addStation", desc := "(IIII)V" } : Jvm.MethodName)) := by decide +kernel
theorem tf_703 : tables_1[703]? = some (Jvm.Cond.selects "BikeShare$City" ({ cls := "BikeShare$City", name := "addStation", desc := "(IIII)V" } : Jvm.MethodName) ({ cls := "BikeShare$City", name := "addStation", desc := "(IIII)V" } : Jvm.MethodName)) := by decide +kernel
theorem tf_704 : tables_1[704]? = some (Jvm.Cond.code ({ cls := "BikeShare$City", name := "addStation", desc := "(IIII)V" } : Jvm.MethodName) prog_2_method_3_code (5 : Nat) (Option.none : Option Jvm.ClassFile.FieldType)) := by decide +kernel
theorem tf_706 : tables_1[706]? = some (Jvm.Cond.methodLink "BikeShare$CityReader" (81 : Nat) ({ cls := "BikeShare$CityReader", name := "readTruck", desc := "()V" } : Jvm.MethodName)) := by decide +kernel
theorem tf_708 : tables_1[708]? = some (Jvm.Cond.instanceMethod ({ cls := "BikeShare$CityReader", name := "readTruck", desc := "()V" } : Jvm.MethodName)) := by decide +kernel
theorem tf_709 : tables_1[709]? = some (Jvm.Cond.code ({ cls := "BikeShare$CityReader", name := "readTruck", desc := "()V" } : Jvm.MethodName) prog_3_method_5_code (3 : Nat) (Option.none : Option Jvm.ClassFile.FieldType)) := by decide +kernel
theorem tf_710 : tables_1[710]? = some (Jvm.Cond.methodLink "BikeShare$CityReader" (130 : Nat) ({ cls := "BikeShare$City", name := "addTruck", desc := "(II)V" } : Jvm.MethodName)) := by decide +kernel
theorem tf_711 : tables_1[711]? = some (Jvm.Cond.instanceMethod ({ cls := "BikeShare$City", name := "addTruck", desc := "(II)V" } : Jvm.MethodName)) := by decide +kernel
theorem tf_712 : tables_1[712]? = some (Jvm.Cond.selects "BikeShare$City" ({ cls := "BikeShare$City", name := "addTruck", desc := "(II)V" } : Jvm.MethodName) ({ cls := "BikeShare$City", name := "addTruck", desc := "(II)V" } : Jvm.MethodName)) := by decide +kernel
theorem tf_713 : tables_1[713]? = some (Jvm.Cond.code ({ cls := "BikeShare$City", name := "addTruck", desc := "(II)V" } : Jvm.MethodName) prog_2_method_4_code (3 : Nat) (Option.none : Option Jvm.ClassFile.FieldType)) := by decide +kernel
theorem tf_715 : tables_1[715]? = some (Jvm.Cond.methodLink "BikeShare$CityReader" (86 : Nat) ({ cls := "BikeShare$CityReader", name := "readTrip", desc := "()V" } : Jvm.MethodName)) := by decide +kernel
theorem tf_717 : tables_1[717]? = some (Jvm.Cond.instanceMethod ({ cls := "BikeShare$CityReader", name := "readTrip", desc := "()V" } : Jvm.MethodName)) := by decide +kernel
theorem tf_718 : tables_1[718]? = some (Jvm.Cond.code ({ cls := "BikeShare$CityReader", name := "readTrip", desc := "()V" } : Jvm.MethodName) prog_3_method_6_code (4 : Nat) (Option.none : Option Jvm.ClassFile.FieldType)) := by decide +kernel
theorem tf_719 : tables_1[719]? = some (Jvm.Cond.methodLink "BikeShare$CityReader" (136 : Nat) ({ cls := "BikeShare$City", name := "addTrip", desc := "(III)V" } : Jvm.MethodName)) := by decide +kernel
theorem tf_720 : tables_1[720]? = some (Jvm.Cond.instanceMethod ({ cls := "BikeShare$City", name := "addTrip", desc := "(III)V" } : Jvm.MethodName)) := by decide +kernel
theorem tf_721 : tables_1[721]? = some (Jvm.Cond.selects "BikeShare$City" ({ cls := "BikeShare$City", name := "addTrip", desc := "(III)V" } : Jvm.MethodName) ({ cls := "BikeShare$City", name := "addTrip", desc := "(III)V" } : Jvm.MethodName)) := by decide +kernel
theorem tf_722 : tables_1[722]? = some (Jvm.Cond.code ({ cls := "BikeShare$City", name := "addTrip", desc := "(III)V" } : Jvm.MethodName) prog_2_method_5_code (4 : Nat) (Option.none : Option Jvm.ClassFile.FieldType)) := by decide +kernel
theorem tf_724 : tables_1[724]? = some (Jvm.Cond.methodLink "BikeShare$CityReader" (91 : Nat) ({ cls := "BikeShare$CityReader", name := "readPace", desc := "()V" } : Jvm.MethodName)) := by decide +kernel
theorem tf_726 : tables_1[726]? = some (Jvm.Cond.instanceMethod ({ cls := "BikeShare$CityReader", name := "readPace", desc := "()V" } : Jvm.MethodName)) := by decide +kernel
theorem tf_727 : tables_1[727]? = some (Jvm.Cond.code ({ cls := "BikeShare$CityReader", name := "readPace", desc := "()V" } : Jvm.MethodName) prog_3_method_7_code (1 : Nat) (Option.none : Option Jvm.ClassFile.FieldType)) := by decide +kernel
theorem tf_728 : tables_1[728]? = some (Jvm.Cond.methodLink "BikeShare$CityReader" (140 : Nat) ({ cls := "BikeShare$CityReader", name := "takeSingleWord", desc := "(Z)V" } : Jvm.MethodName)) := by decide +kernel
theorem tf_730 : tables_1[730]? = some (Jvm.Cond.instanceMethod ({ cls := "BikeShare$CityReader", name := "takeSingleWord", desc := "(Z)V" } : Jvm.MethodName)) := by decide +kernel
theorem tf_731 : tables_1[731]? = some (Jvm.Cond.code ({ cls := "BikeShare$CityReader", name := "takeSingleWord", desc := "(Z)V" } : Jvm.MethodName) prog_3_method_19_code (2 : Nat) (Option.none : Option Jvm.ClassFile.FieldType)) := by decide +kernel
theorem tf_733 : tables_1[733]? = some (Jvm.Cond.methodLink "BikeShare$CityReader" (96 : Nat) ({ cls := "BikeShare$CityReader", name := "readBalance", desc := "()V" } : Jvm.MethodName)) := by decide +kernel
theorem tf_735 : tables_1[735]? = some (Jvm.Cond.instanceMethod ({ cls := "BikeShare$CityReader", name := "readBalance", desc := "()V" } : Jvm.MethodName)) := by decide +kernel
theorem tf_736 : tables_1[736]? = some (Jvm.Cond.code ({ cls := "BikeShare$CityReader", name := "readBalance", desc := "()V" } : Jvm.MethodName) prog_3_method_8_code (1 : Nat) (Option.none : Option Jvm.ClassFile.FieldType)) := by decide +kernel
theorem tf_738 : tables_1[738]? = some (Jvm.Cond.methodLink "BikeShare$CityReader" (101 : Nat) ({ cls := "BikeShare$CityReader", name := "readBonus", desc := "()V" } : Jvm.MethodName)) := by decide +kernel
theorem tf_740 : tables_1[740]? = some (Jvm.Cond.instanceMethod ({ cls := "BikeShare$CityReader", name := "readBonus", desc := "()V" } : Jvm.MethodName)) := by decide +kernel
theorem tf_741 : tables_1[741]? = some (Jvm.Cond.code ({ cls := "BikeShare$CityReader", name := "readBonus", desc := "()V" } : Jvm.MethodName) prog_3_method_9_code (1 : Nat) (Option.none : Option Jvm.ClassFile.FieldType)) := by decide +kernel
theorem tf_743 : tables_1[743]? = some (Jvm.Cond.methodLink "BikeShare$CityReader" (106 : Nat) ({ cls := "BikeShare$CityReader", name := "readFare", desc := "()V" } : Jvm.MethodName)) := by decide +kernel
theorem tf_745 : tables_1[745]? = some (Jvm.Cond.instanceMethod ({ cls := "BikeShare$CityReader", name := "readFare", desc := "()V" } : Jvm.MethodName)) := by decide +kernel
theorem tf_746 : tables_1[746]? = some (Jvm.Cond.code ({ cls := "BikeShare$CityReader", name := "readFare", desc := "()V" } : Jvm.MethodName) prog_3_method_10_code (4 : Nat) (Option.none : Option Jvm.ClassFile.FieldType)) := by decide +kernel
theorem tf_747 : tables_1[747]? = some (Jvm.Cond.methodLink "BikeShare$CityReader" (162 : Nat) ({ cls := "BikeShare$Fare", name := "clear", desc := "()V" } : Jvm.MethodName)) := by decide +kernel
theorem tf_748 : tables_1[748]? = some (Jvm.Cond.methodLink "BikeShare$CityReader" (168 : Nat) ({ cls := "BikeShare$CityReader", name := "isSign", desc := "(C)Z" } : Jvm.MethodName)) := by decide +kernel
theorem tf_750 : tables_1[750]? = some (Jvm.Cond.instanceMethod ({ cls := "BikeShare$CityReader", name := "isSign", desc := "(C)Z" } : Jvm.MethodName)) := by decide +kernel
theorem tf_751 : tables_1[751]? = some (Jvm.Cond.code ({ cls := "BikeShare$CityReader", name := "isSign", desc := "(C)Z" } : Jvm.MethodName) prog_3_method_23_code (2 : Nat) (Option.some Jvm.ClassFile.FieldType.boolean)) := by decide +kernel
theorem tf_752 : tables_1[752]? = some (Jvm.Cond.methodLink "BikeShare$CityReader" (172 : Nat) ({ cls := "BikeShare$CityReader", name := "holdOperator", desc := "(I)V" } : Jvm.MethodName)) := by decide +kernel
theorem tf_754 : tables_1[754]? = some (Jvm.Cond.instanceMethod ({ cls := "BikeShare$CityReader", name := "holdOperator", desc := "(I)V" } : Jvm.MethodName)) := by decide +kernel
theorem tf_755 : tables_1[755]? = some (Jvm.Cond.code ({ cls := "BikeShare$CityReader", name := "holdOperator", desc := "(I)V" } : Jvm.MethodName) prog_3_method_15_code (2 : Nat) (Option.none : Option Jvm.ClassFile.FieldType)) := by decide +kernel
theorem tf_756 : tables_1[756]? = some (Jvm.Cond.methodLink "BikeShare$CityReader" (175 : Nat) ({ cls := "BikeShare$CityReader", name := "takeFactor", desc := "()V" } : Jvm.MethodName)) := by decide +kernel
theorem tf_758 : tables_1[758]? = some (Jvm.Cond.instanceMethod ({ cls := "BikeShare$CityReader", name := "takeFactor", desc := "()V" } : Jvm.MethodName)) := by decide +kernel
theorem tf_759 : tables_1[759]? = some (Jvm.Cond.code ({ cls := "BikeShare$CityReader", name := "takeFactor", desc := "()V" } : Jvm.MethodName) prog_3_method_11_code (1 : Nat) (Option.none : Option Jvm.ClassFile.FieldType)) := by decide +kernel
theorem tf_760 : tables_1[760]? = some (Jvm.Cond.methodLink "BikeShare$CityReader" (194 : Nat) ({ cls := "BikeShare$Fare", name := "add", desc := "(I)V" } : Jvm.MethodName)) := by decide +kernel
theorem tf_765 : tables_1[765]? = some (Jvm.Cond.methodLink "BikeShare$CityReader" (178 : Nat) ({ cls := "BikeShare$CityReader", name := "operatorOfToken", desc := "()I" } : Jvm.MethodName)) := by decide +kernel
theorem tf_767 : tables_1[767]? = some (Jvm.Cond.instanceMethod ({ cls := "BikeShare$CityReader", name := "operatorOfToken", desc := "()I" } : Jvm.MethodName)) := by decide +kernel
theorem tf_768 : tables_1[768]? = some (Jvm.Cond.code ({ cls := "BikeShare$CityReader", name := "operatorOfToken", desc := "()I" } : Jvm.MethodName) prog_3_method_12_code (1 : Nat) (Option.some Jvm.ClassFile.FieldType.int)) := by decide +kernel
theorem tf_769 : tables_1[769]? = some (Jvm.Cond.methodLink "BikeShare$CityReader" (182 : Nat) ({ cls := "BikeShare$CityReader", name := "takeOperator", desc := "(I)V" } : Jvm.MethodName)) := by decide +kernel
theorem tf_771 : tables_1[771]? = some (Jvm.Cond.instanceMethod ({ cls := "BikeShare$CityReader", name := "takeOperator", desc := "(I)V" } : Jvm.MethodName)) := by decide +kernel
theorem tf_772 : tables_1[772]? = some (Jvm.Cond.code ({ cls := "BikeShare$CityReader", name := "takeOperator", desc := "(I)V" } : Jvm.MethodName) prog_3_method_14_code (2 : Nat) (Option.none : Option Jvm.ClassFile.FieldType)) := by decide +kernel
theorem tf_773 : tables_1[773]? = some (Jvm.Cond.methodLink "BikeShare$CityReader" (205 : Nat) ({ cls := "BikeShare$CityReader", name := "rank", desc := "(I)I" } : Jvm.MethodName)) := by decide +kernel
theorem tf_774 : tables_1[774]? = some (Jvm.Cond.static ({ cls := "BikeShare$CityReader", name := "rank", desc := "(I)I" } : Jvm.MethodName)) := by decide +kernel
theorem tf_775 : tables_1[775]? = some (Jvm.Cond.code ({ cls := "BikeShare$CityReader", name := "rank", desc := "(I)I" } : Jvm.MethodName) prog_3_method_13_code (1 : Nat) (Option.some Jvm.ClassFile.FieldType.int)) := by decide +kernel
theorem tf_776 : tables_1[776]? = some (Jvm.Cond.methodLink "BikeShare$CityReader" (188 : Nat) ({ cls := "BikeShare$CityReader", name := "releaseOperators", desc := "(I)V" } : Jvm.MethodName)) := by decide +kernel
theorem tf_778 : tables_1[778]? = some (Jvm.Cond.instanceMethod ({ cls := "BikeShare$CityReader", name := "releaseOperators", desc := "(I)V" } : Jvm.MethodName)) := by decide +kernel
theorem tf_779 : tables_1[779]? = some (Jvm.Cond.code ({ cls := "BikeShare$CityReader", name := "releaseOperators", desc := "(I)V" } : Jvm.MethodName) prog_3_method_16_code (2 : Nat) (Option.none : Option Jvm.ClassFile.FieldType)) := by decide +kernel
theorem tf_780 : tables_1[780]? = some (Jvm.Cond.methodLink "BikeShare$CityReader" (185 : Nat) ({ cls := "BikeShare$CityReader", name := "closeParenthesis", desc := "()V" } : Jvm.MethodName)) := by decide +kernel
theorem tf_782 : tables_1[782]? = some (Jvm.Cond.instanceMethod ({ cls := "BikeShare$CityReader", name := "closeParenthesis", desc := "()V" } : Jvm.MethodName)) := by decide +kernel
theorem tf_783 : tables_1[783]? = some (Jvm.Cond.code ({ cls := "BikeShare$CityReader", name := "closeParenthesis", desc := "()V" } : Jvm.MethodName) prog_3_method_17_code (1 : Nat) (Option.none : Option Jvm.ClassFile.FieldType)) := by decide +kernel
theorem tf_784 : tables_1[784]? = some (Jvm.Cond.methodLink "BikeShare$CityReader" (66 : Nat) ({ cls := "BikeShare$CityReader", name := "expectSign", desc := "(C)V" } : Jvm.MethodName)) := by decide +kernel
theorem tf_786 : tables_1[786]? = some (Jvm.Cond.instanceMethod ({ cls := "BikeShare$CityReader", name := "expectSign", desc := "(C)V" } : Jvm.MethodName)) := by decide +kernel
theorem tf_787 : tables_1[787]? = some (Jvm.Cond.code ({ cls := "BikeShare$CityReader", name := "expectSign", desc := "(C)V" } : Jvm.MethodName) prog_3_method_21_code (2 : Nat) (Option.none : Option Jvm.ClassFile.FieldType)) := by decide +kernel
theorem tf_788 : tables_1[788]? = some (Jvm.Cond.methodLink "BikeShare" (83 : Nat) ({ cls := "BikeShare$State", name := "begin", desc := "(LBikeShare$City;)V" } : Jvm.MethodName)) := by decide +kernel
theorem tf_789 : tables_1[789]? = some (Jvm.Cond.methodLink "BikeShareLaw" (120 : Nat) ({ cls := "BikeShareLaw", name := "size", desc := "(LBikeShare;I[J)I" } : Jvm.MethodName)) := by decide +kernel
theorem tf_790 : tables_1[790]? = some (Jvm.Cond.static ({ cls := "BikeShareLaw", name := "size", desc := "(LBikeShare;I[J)I" } : Jvm.MethodName)) := by decide +kernel
theorem tf_792 : tables_1[792]? = some (Jvm.Cond.methodLink "BikeShareLaw" (15 : Nat) ({ cls := "BikeShare", name := "size", desc := "(I)I" } : Jvm.MethodName)) := by decide +kernel
theorem tf_793 : tables_1[793]? = some (Jvm.Cond.instanceMethod ({ cls := "BikeShare", name := "size", desc := "(I)I" } : Jvm.MethodName)) := by decide +kernel
theorem tf_794 : tables_1[794]? = some (Jvm.Cond.selects "BikeShare" ({ cls := "BikeShare", name := "size", desc := "(I)I" } : Jvm.MethodName) ({ cls := "BikeShare", name := "size", desc := "(I)I" } : Jvm.MethodName)) := by decide +kernel
theorem tf_795 : tables_1[795]? = some (Jvm.Cond.code ({ cls := "BikeShare", name := "size", desc := "(I)I" } : Jvm.MethodName) prog_1_method_4_code (2 : Nat) (Option.some Jvm.ClassFile.FieldType.int)) := by decide +kernel
theorem tf_797 : tables_1[797]? = some (Jvm.Cond.methodLink "BikeShareLaw" (131 : Nat) ({ cls := "BikeShareLaw", name := "bikes", desc := "(LBikeShare;I[J)I" } : Jvm.MethodName)) := by decide +kernel
theorem tf_798 : tables_1[798]? = some (Jvm.Cond.static ({ cls := "BikeShareLaw", name := "bikes", desc := "(LBikeShare;I[J)I" } : Jvm.MethodName)) := by decide +kernel
theorem tf_800 : tables_1[800]? = some (Jvm.Cond.classLink "BikeShareLaw" (21 : Nat) "java/lang/IndexOutOfBoundsException") := by decide +kernel
theorem tf_801 : tables_1[801]? = some (Jvm.Cond.methodLink "BikeShareLaw" (18 : Nat) ({ cls := "BikeShare", name := "bikes", desc := "(I)I" } : Jvm.MethodName)) := by decide +kernel
theorem tf_802 : tables_1[802]? = some (Jvm.Cond.instanceMethod ({ cls := "BikeShare", name := "bikes", desc := "(I)I" } : Jvm.MethodName)) := by decide +kernel
theorem tf_803 : tables_1[803]? = some (Jvm.Cond.selects "BikeShare" ({ cls := "BikeShare", name := "bikes", desc := "(I)I" } : Jvm.MethodName) ({ cls := "BikeShare", name := "bikes", desc := "(I)I" } : Jvm.MethodName)) := by decide +kernel
theorem tf_804 : tables_1[804]? = some (Jvm.Cond.code ({ cls := "BikeShare", name := "bikes", desc := "(I)I" } : Jvm.MethodName) prog_1_method_7_code (2 : Nat) (Option.some Jvm.ClassFile.FieldType.int)) := by decide +kernel
theorem tf_805 : tables_1[805]? = some (Jvm.Cond.methodLink "BikeShare" (107 : Nat) ({ cls := "BikeShare", name := "checkStation", desc := "(I)V" } : Jvm.MethodName)) := by decide +kernel
theorem tf_807 : tables_1[807]? = some (Jvm.Cond.instanceMethod ({ cls := "BikeShare", name := "checkStation", desc := "(I)V" } : Jvm.MethodName)) := by decide +kernel
theorem tf_808 : tables_1[808]? = some (Jvm.Cond.code ({ cls := "BikeShare", name := "checkStation", desc := "(I)V" } : Jvm.MethodName) prog_1_method_39_code (2 : Nat) (Option.none : Option Jvm.ClassFile.FieldType)) := by decide +kernel
theorem tf_809 : tables_1[809]? = some (Jvm.Cond.classLink "BikeShare" (147 : Nat) "java/lang/IndexOutOfBoundsException") := by decide +kernel
theorem tf_825 : tables_1[825]? = some (Jvm.Cond.methodLink "BikeShareLaw" (134 : Nat) ({ cls := "BikeShareLaw", name := "freeDocks", desc := "(LBikeShare;I[J)I" } : Jvm.MethodName)) := by decide +kernel
theorem tf_826 : tables_1[826]? = some (Jvm.Cond.static ({ cls := "BikeShareLaw", name := "freeDocks", desc := "(LBikeShare;I[J)I" } : Jvm.MethodName)) := by decide +kernel
theorem tf_828 : tables_1[828]? = some (Jvm.Cond.methodLink "BikeShareLaw" (23 : Nat) ({ cls := "BikeShare", name := "freeDocks", desc := "(I)I" } : Jvm.MethodName)) := by decide +kernel
theorem tf_829 : tables_1[829]? = some (Jvm.Cond.instanceMethod ({ cls := "BikeShare", name := "freeDocks", desc := "(I)I" } : Jvm.MethodName)) := by decide +kernel
theorem tf_830 : tables_1[830]? = some (Jvm.Cond.selects "BikeShare" ({ cls := "BikeShare", name := "freeDocks", desc := "(I)I" } : Jvm.MethodName) ({ cls := "BikeShare", name := "freeDocks", desc := "(I)I" } : Jvm.MethodName)) := by decide +kernel
theorem tf_831 : tables_1[831]? = some (Jvm.Cond.code ({ cls := "BikeShare", name := "freeDocks", desc := "(I)I" } : Jvm.MethodName) prog_1_method_8_code (2 : Nat) (Option.some Jvm.ClassFile.FieldType.int)) := by decide +kernel
theorem tf_832 : tables_1[832]? = some (Jvm.Cond.methodLink "BikeShare" (114 : Nat) ({ cls := "BikeShare$State", name := "free", desc := "(I)I" } : Jvm.MethodName)) := by decide +kernel
theorem tf_833 : tables_1[833]? = some (Jvm.Cond.methodLink "BikeShareLaw" (137 : Nat) ({ cls := "BikeShareLaw", name := "brokenDocks", desc := "(LBikeShare;I[J)I" } : Jvm.MethodName)) := by decide +kernel
theorem tf_834 : tables_1[834]? = some (Jvm.Cond.static ({ cls := "BikeShareLaw", name := "brokenDocks", desc := "(LBikeShare;I[J)I" } : Jvm.MethodName)) := by decide +kernel
theorem tf_836 : tables_1[836]? = some (Jvm.Cond.methodLink "BikeShareLaw" (26 : Nat) ({ cls := "BikeShare", name := "brokenDocks", desc := "(I)I" } : Jvm.MethodName)) := by decide +kernel
theorem tf_837 : tables_1[837]? = some (Jvm.Cond.instanceMethod ({ cls := "BikeShare", name := "brokenDocks", desc := "(I)I" } : Jvm.MethodName)) := by decide +kernel
theorem tf_838 : tables_1[838]? = some (Jvm.Cond.selects "BikeShare" ({ cls := "BikeShare", name := "brokenDocks", desc := "(I)I" } : Jvm.MethodName) ({ cls := "BikeShare", name := "brokenDocks", desc := "(I)I" } : Jvm.MethodName)) := by decide +kernel
theorem tf_839 : tables_1[839]? = some (Jvm.Cond.code ({ cls := "BikeShare", name := "brokenDocks", desc := "(I)I" } : Jvm.MethodName) prog_1_method_9_code (2 : Nat) (Option.some Jvm.ClassFile.FieldType.int)) := by decide +kernel
theorem tf_840 : tables_1[840]? = some (Jvm.Cond.methodLink "BikeShareLaw" (140 : Nat) ({ cls := "BikeShareLaw", name := "isBalanced", desc := "(LBikeShare;I[J)I" } : Jvm.MethodName)) := by decide +kernel
theorem tf_841 : tables_1[841]? = some (Jvm.Cond.static ({ cls := "BikeShareLaw", name := "isBalanced", desc := "(LBikeShare;I[J)I" } : Jvm.MethodName)) := by decide +kernel
theorem tf_843 : tables_1[843]? = some (Jvm.Cond.methodLink "BikeShareLaw" (29 : Nat) ({ cls := "BikeShare", name := "isBalanced", desc := "(I)Z" } : Jvm.MethodName)) := by decide +kernel
theorem tf_844 : tables_1[844]? = some (Jvm.Cond.instanceMethod ({ cls := "BikeShare", name := "isBalanced", desc := "(I)Z" } : Jvm.MethodName)) := by decide +kernel
theorem tf_845 : tables_1[845]? = some (Jvm.Cond.selects "BikeShare" ({ cls := "BikeShare", name := "isBalanced", desc := "(I)Z" } : Jvm.MethodName) ({ cls := "BikeShare", name := "isBalanced", desc := "(I)Z" } : Jvm.MethodName)) := by decide +kernel
theorem tf_846 : tables_1[846]? = some (Jvm.Cond.code ({ cls := "BikeShare", name := "isBalanced", desc := "(I)Z" } : Jvm.MethodName) prog_1_method_10_code (2 : Nat) (Option.some Jvm.ClassFile.FieldType.boolean)) := by decide +kernel
theorem tf_847 : tables_1[847]? = some (Jvm.Cond.methodLink "BikeShareLaw" (147 : Nat) ({ cls := "BikeShareLaw", name := "nearest", desc := "(LBikeShare;IZ[J)I" } : Jvm.MethodName)) := by decide +kernel
theorem tf_848 : tables_1[848]? = some (Jvm.Cond.static ({ cls := "BikeShareLaw", name := "nearest", desc := "(LBikeShare;IZ[J)I" } : Jvm.MethodName)) := by decide +kernel
theorem tf_850 : tables_1[850]? = some (Jvm.Cond.methodLink "BikeShareLaw" (33 : Nat) ({ cls := "BikeShare", name := "nearest", desc := "(IZ)I" } : Jvm.MethodName)) := by decide +kernel
theorem tf_851 : tables_1[851]? = some (Jvm.Cond.instanceMethod ({ cls := "BikeShare", name := "nearest", desc := "(IZ)I" } : Jvm.MethodName)) := by decide +kernel
theorem tf_852 : tables_1[852]? = some (Jvm.Cond.selects "BikeShare" ({ cls := "BikeShare", name := "nearest", desc := "(IZ)I" } : Jvm.MethodName) ({ cls := "BikeShare", name := "nearest", desc := "(IZ)I" } : Jvm.MethodName)) := by decide +kernel
theorem tf_853 : tables_1[853]? = some (Jvm.Cond.code ({ cls := "BikeShare", name := "nearest", desc := "(IZ)I" } : Jvm.MethodName) prog_1_method_12_code (3 : Nat) (Option.some Jvm.ClassFile.FieldType.int)) := by decide +kernel
theorem tf_854 : tables_1[854]? = some (Jvm.Cond.methodLink "BikeShare" (124 : Nat) ({ cls := "BikeShare$State", name := "nearestOther", desc := "(IZ)I" } : Jvm.MethodName)) := by decide +kernel
theorem tf_855 : tables_1[855]? = some (Jvm.Cond.instanceMethod ({ cls := "BikeShare$State", name := "nearestOther", desc := "(IZ)I" } : Jvm.MethodName)) := by decide +kernel
theorem tf_856 : tables_1[856]? = some (Jvm.Cond.selects "BikeShare$State" ({ cls := "BikeShare$State", name := "nearestOther", desc := "(IZ)I" } : Jvm.MethodName) ({ cls := "BikeShare$State", name := "nearestOther", desc := "(IZ)I" } : Jvm.MethodName)) := by decide +kernel
theorem tf_857 : tables_1[857]? = some (Jvm.Cond.code ({ cls := "BikeShare$State", name := "nearestOther", desc := "(IZ)I" } : Jvm.MethodName) prog_7_method_9_code (7 : Nat) (Option.some Jvm.ClassFile.FieldType.int)) := by decide +kernel
theorem tf_858 : tables_1[858]? = some (Jvm.Cond.methodLink "BikeShare$State" (124 : Nat) ({ cls := "BikeShare$City", name := "distance", desc := "(II)I" } : Jvm.MethodName)) := by decide +kernel
theorem tf_859 : tables_1[859]? = some (Jvm.Cond.instanceMethod ({ cls := "BikeShare$City", name := "distance", desc := "(II)I" } : Jvm.MethodName)) := by decide +kernel
theorem tf_860 : tables_1[860]? = some (Jvm.Cond.selects "BikeShare$City" ({ cls := "BikeShare$City", name := "distance", desc := "(II)I" } : Jvm.MethodName) ({ cls := "BikeShare$City", name := "distance", desc := "(II)I" } : Jvm.MethodName)) := by decide +kernel
theorem tf_861 : tables_1[861]? = some (Jvm.Cond.code ({ cls := "BikeShare$City", name := "distance", desc := "(II)I" } : Jvm.MethodName) prog_2_method_6_code (5 : Nat) (Option.some Jvm.ClassFile.FieldType.int)) := by decide +kernel
theorem tf_862 : tables_1[862]? = some (Jvm.Cond.methodLink "BikeShareLaw" (151 : Nat) ({ cls := "BikeShareLaw", name := "rideMinutes", desc := "(LBikeShare;II[J)I" } : Jvm.MethodName)) := by decide +kernel
theorem tf_863 : tables_1[863]? = some (Jvm.Cond.static ({ cls := "BikeShareLaw", name := "rideMinutes", desc := "(LBikeShare;II[J)I" } : Jvm.MethodName)) := by decide +kernel
theorem tf_865 : tables_1[865]? = some (Jvm.Cond.methodLink "BikeShareLaw" (37 : Nat) ({ cls := "BikeShare", name := "rideMinutes", desc := "(II)I" } : Jvm.MethodName)) := by decide +kernel
theorem tf_866 : tables_1[866]? = some (Jvm.Cond.instanceMethod ({ cls := "BikeShare", name := "rideMinutes", desc := "(II)I" } : Jvm.MethodName)) := by decide +kernel
theorem tf_867 : tables_1[867]? = some (Jvm.Cond.selects "BikeShare" ({ cls := "BikeShare", name := "rideMinutes", desc := "(II)I" } : Jvm.MethodName) ({ cls := "BikeShare", name := "rideMinutes", desc := "(II)I" } : Jvm.MethodName)) := by decide +kernel
theorem tf_868 : tables_1[868]? = some (Jvm.Cond.code ({ cls := "BikeShare", name := "rideMinutes", desc := "(II)I" } : Jvm.MethodName) prog_1_method_13_code (3 : Nat) (Option.some Jvm.ClassFile.FieldType.int)) := by decide +kernel
theorem tf_869 : tables_1[869]? = some (Jvm.Cond.methodLink "BikeShare" (128 : Nat) ({ cls := "BikeShare$City", name := "riderMinutes", desc := "(II)I" } : Jvm.MethodName)) := by decide +kernel
theorem tf_870 : tables_1[870]? = some (Jvm.Cond.instanceMethod ({ cls := "BikeShare$City", name := "riderMinutes", desc := "(II)I" } : Jvm.MethodName)) := by decide +kernel
theorem tf_871 : tables_1[871]? = some (Jvm.Cond.selects "BikeShare$City" ({ cls := "BikeShare$City", name := "riderMinutes", desc := "(II)I" } : Jvm.MethodName) ({ cls := "BikeShare$City", name := "riderMinutes", desc := "(II)I" } : Jvm.MethodName)) := by decide +kernel
theorem tf_872 : tables_1[872]? = some (Jvm.Cond.code ({ cls := "BikeShare$City", name := "riderMinutes", desc := "(II)I" } : Jvm.MethodName) prog_2_method_7_code (3 : Nat) (Option.some Jvm.ClassFile.FieldType.int)) := by decide +kernel
theorem tf_873 : tables_1[873]? = some (Jvm.Cond.methodLink "BikeShare$City" (79 : Nat) ({ cls := "BikeShare$City", name := "distance", desc := "(II)I" } : Jvm.MethodName)) := by decide +kernel
theorem tf_874 : tables_1[874]? = some (Jvm.Cond.methodLink "BikeShareLaw" (155 : Nat) ({ cls := "BikeShareLaw", name := "quote", desc := "(LBikeShare;II[J)I" } : Jvm.MethodName)) := by decide +kernel
theorem tf_875 : tables_1[875]? = some (Jvm.Cond.static ({ cls := "BikeShareLaw", name := "quote", desc := "(LBikeShare;II[J)I" } : Jvm.MethodName)) := by decide +kernel
theorem tf_877 : tables_1[877]? = some (Jvm.Cond.methodLink "BikeShareLaw" (41 : Nat) ({ cls := "BikeShare", name := "quote", desc := "(II)I" } : Jvm.MethodName)) := by decide +kernel
theorem tf_878 : tables_1[878]? = some (Jvm.Cond.instanceMethod ({ cls := "BikeShare", name := "quote", desc := "(II)I" } : Jvm.MethodName)) := by decide +kernel
theorem tf_879 : tables_1[879]? = some (Jvm.Cond.selects "BikeShare" ({ cls := "BikeShare", name := "quote", desc := "(II)I" } : Jvm.MethodName) ({ cls := "BikeShare", name := "quote", desc := "(II)I" } : Jvm.MethodName)) := by decide +kernel
theorem tf_880 : tables_1[880]? = some (Jvm.Cond.code ({ cls := "BikeShare", name := "quote", desc := "(II)I" } : Jvm.MethodName) prog_1_method_14_code (3 : Nat) (Option.some Jvm.ClassFile.FieldType.int)) := by decide +kernel
theorem tf_881 : tables_1[881]? = some (Jvm.Cond.methodLink "BikeShare" (132 : Nat) ({ cls := "BikeShare$State", name := "fareNow", desc := "(II)I" } : Jvm.MethodName)) := by decide +kernel
theorem tf_882 : tables_1[882]? = some (Jvm.Cond.instanceMethod ({ cls := "BikeShare$State", name := "fareNow", desc := "(II)I" } : Jvm.MethodName)) := by decide +kernel
theorem tf_883 : tables_1[883]? = some (Jvm.Cond.selects "BikeShare$State" ({ cls := "BikeShare$State", name := "fareNow", desc := "(II)I" } : Jvm.MethodName) ({ cls := "BikeShare$State", name := "fareNow", desc := "(II)I" } : Jvm.MethodName)) := by decide +kernel
theorem tf_884 : tables_1[884]? = some (Jvm.Cond.code ({ cls := "BikeShare$State", name := "fareNow", desc := "(II)I" } : Jvm.MethodName) prog_7_method_16_code (5 : Nat) (Option.some Jvm.ClassFile.FieldType.int)) := by decide +kernel
theorem tf_885 : tables_1[885]? = some (Jvm.Cond.methodLink "BikeShare$State" (146 : Nat) ({ cls := "BikeShare$City", name := "riderMinutes", desc := "(II)I" } : Jvm.MethodName)) := by decide +kernel
theorem tf_886 : tables_1[886]? = some (Jvm.Cond.methodLink "BikeShare$State" (153 : Nat) ({ cls := "BikeShare$Fare", name := "worth", desc := "(IIII)I" } : Jvm.MethodName)) := by decide +kernel
theorem tf_887 : tables_1[887]? = some (Jvm.Cond.instanceMethod ({ cls := "BikeShare$Fare", name := "worth", desc := "(IIII)I" } : Jvm.MethodName)) := by decide +kernel
theorem tf_888 : tables_1[888]? = some (Jvm.Cond.selects "BikeShare$Fare" ({ cls := "BikeShare$Fare", name := "worth", desc := "(IIII)I" } : Jvm.MethodName) ({ cls := "BikeShare$Fare", name := "worth", desc := "(IIII)I" } : Jvm.MethodName)) := by decide +kernel
theorem tf_889 : tables_1[889]? = some (Jvm.Cond.code ({ cls := "BikeShare$Fare", name := "worth", desc := "(IIII)I" } : Jvm.MethodName) prog_4_method_4_code (8 : Nat) (Option.some Jvm.ClassFile.FieldType.int)) := by decide +kernel
theorem tf_890 : tables_1[890]? = some (Jvm.Cond.methodLink "BikeShare$Fare" (22 : Nat) ({ cls := "BikeShare$Fare", name := "apply", desc := "(III)I" } : Jvm.MethodName)) := by decide +kernel
theorem tf_891 : tables_1[891]? = some (Jvm.Cond.static ({ cls := "BikeShare$Fare", name := "apply", desc := "(III)I" } : Jvm.MethodName)) := by decide +kernel
theorem tf_892 : tables_1[892]? = some (Jvm.Cond.code ({ cls := "BikeShare$Fare", name := "apply", desc := "(III)I" } : Jvm.MethodName) prog_4_method_6_code (3 : Nat) (Option.some Jvm.ClassFile.FieldType.int)) := by decide +kernel
theorem tf_893 : tables_1[893]? = some (Jvm.Cond.methodLink "BikeShare$Fare" (26 : Nat) ({ cls := "BikeShare$Fare", name := "operand", desc := "(IIIII)I" } : Jvm.MethodName)) := by decide +kernel
theorem tf_894 : tables_1[894]? = some (Jvm.Cond.static ({ cls := "BikeShare$Fare", name := "operand", desc := "(IIIII)I" } : Jvm.MethodName)) := by decide +kernel
theorem tf_895 : tables_1[895]? = some (Jvm.Cond.code ({ cls := "BikeShare$Fare", name := "operand", desc := "(IIIII)I" } : Jvm.MethodName) prog_4_method_5_code (5 : Nat) (Option.some Jvm.ClassFile.FieldType.int)) := by decide +kernel
theorem tf_896 : tables_1[896]? = some (Jvm.Cond.methodLink "BikeShare$State" (159 : Nat) ({ cls := "java/lang/Math", name := "min", desc := "(II)I" } : Jvm.MethodName)) := by decide +kernel
theorem tf_897 : tables_1[897]? = some (Jvm.Cond.methodLink "BikeShareLaw" (158 : Nat) ({ cls := "BikeShareLaw", name := "bonusAt", desc := "(LBikeShare;I[J)I" } : Jvm.MethodName)) := by decide +kernel
theorem tf_898 : tables_1[898]? = some (Jvm.Cond.static ({ cls := "BikeShareLaw", name := "bonusAt", desc := "(LBikeShare;I[J)I" } : Jvm.MethodName)) := by decide +kernel
theorem tf_900 : tables_1[900]? = some (Jvm.Cond.methodLink "BikeShareLaw" (44 : Nat) ({ cls := "BikeShare", name := "bonusAt", desc := "(I)I" } : Jvm.MethodName)) := by decide +kernel
theorem tf_901 : tables_1[901]? = some (Jvm.Cond.instanceMethod ({ cls := "BikeShare", name := "bonusAt", desc := "(I)I" } : Jvm.MethodName)) := by decide +kernel
theorem tf_902 : tables_1[902]? = some (Jvm.Cond.selects "BikeShare" ({ cls := "BikeShare", name := "bonusAt", desc := "(I)I" } : Jvm.MethodName) ({ cls := "BikeShare", name := "bonusAt", desc := "(I)I" } : Jvm.MethodName)) := by decide +kernel
theorem tf_903 : tables_1[903]? = some (Jvm.Cond.code ({ cls := "BikeShare", name := "bonusAt", desc := "(I)I" } : Jvm.MethodName) prog_1_method_15_code (2 : Nat) (Option.some Jvm.ClassFile.FieldType.int)) := by decide +kernel
theorem tf_904 : tables_1[904]? = some (Jvm.Cond.methodLink "BikeShare" (135 : Nat) ({ cls := "BikeShare$State", name := "bonusNow", desc := "(I)I" } : Jvm.MethodName)) := by decide +kernel
theorem tf_905 : tables_1[905]? = some (Jvm.Cond.instanceMethod ({ cls := "BikeShare$State", name := "bonusNow", desc := "(I)I" } : Jvm.MethodName)) := by decide +kernel
theorem tf_906 : tables_1[906]? = some (Jvm.Cond.selects "BikeShare$State" ({ cls := "BikeShare$State", name := "bonusNow", desc := "(I)I" } : Jvm.MethodName) ({ cls := "BikeShare$State", name := "bonusNow", desc := "(I)I" } : Jvm.MethodName)) := by decide +kernel
theorem tf_907 : tables_1[907]? = some (Jvm.Cond.code ({ cls := "BikeShare$State", name := "bonusNow", desc := "(I)I" } : Jvm.MethodName) prog_7_method_10_code (2 : Nat) (Option.some Jvm.ClassFile.FieldType.int)) := by decide +kernel
theorem tf_908 : tables_1[908]? = some (Jvm.Cond.methodLink "BikeShareLaw" (161 : Nat) ({ cls := "BikeShareLaw", name := "bestDeal", desc := "(LBikeShare;I[J)I" } : Jvm.MethodName)) := by decide +kernel
theorem tf_909 : tables_1[909]? = some (Jvm.Cond.static ({ cls := "BikeShareLaw", name := "bestDeal", desc := "(LBikeShare;I[J)I" } : Jvm.MethodName)) := by decide +kernel
theorem tf_911 : tables_1[911]? = some (Jvm.Cond.methodLink "BikeShareLaw" (47 : Nat) ({ cls := "BikeShare", name := "bestDeal", desc := "(I)I" } : Jvm.MethodName)) := by decide +kernel
theorem tf_912 : tables_1[912]? = some (Jvm.Cond.instanceMethod ({ cls := "BikeShare", name := "bestDeal", desc := "(I)I" } : Jvm.MethodName)) := by decide +kernel
theorem tf_913 : tables_1[913]? = some (Jvm.Cond.selects "BikeShare" ({ cls := "BikeShare", name := "bestDeal", desc := "(I)I" } : Jvm.MethodName) ({ cls := "BikeShare", name := "bestDeal", desc := "(I)I" } : Jvm.MethodName)) := by decide +kernel
theorem tf_914 : tables_1[914]? = some (Jvm.Cond.code ({ cls := "BikeShare", name := "bestDeal", desc := "(I)I" } : Jvm.MethodName) prog_1_method_16_code (6 : Nat) (Option.some Jvm.ClassFile.FieldType.int)) := by decide +kernel
theorem tf_915 : tables_1[915]? = some (Jvm.Cond.methodLink "BikeShareLaw" (168 : Nat) ({ cls := "BikeShareLaw", name := "rider", desc := "(LBikeShare;II[J)I" } : Jvm.MethodName)) := by decide +kernel
theorem tf_916 : tables_1[916]? = some (Jvm.Cond.static ({ cls := "BikeShareLaw", name := "rider", desc := "(LBikeShare;II[J)I" } : Jvm.MethodName)) := by decide +kernel
theorem tf_918 : tables_1[918]? = some (Jvm.Cond.methodLink "BikeShareLaw" (50 : Nat) ({ cls := "BikeShare", name := "rider", desc := "(II)I" } : Jvm.MethodName)) := by decide +kernel
theorem tf_919 : tables_1[919]? = some (Jvm.Cond.instanceMethod ({ cls := "BikeShare", name := "rider", desc := "(II)I" } : Jvm.MethodName)) := by decide +kernel
theorem tf_920 : tables_1[920]? = some (Jvm.Cond.selects "BikeShare" ({ cls := "BikeShare", name := "rider", desc := "(II)I" } : Jvm.MethodName) ({ cls := "BikeShare", name := "rider", desc := "(II)I" } : Jvm.MethodName)) := by decide +kernel
theorem tf_921 : tables_1[921]? = some (Jvm.Cond.code ({ cls := "BikeShare", name := "rider", desc := "(II)I" } : Jvm.MethodName) prog_1_method_18_code (4 : Nat) (Option.some Jvm.ClassFile.FieldType.int)) := by decide +kernel
theorem tf_923 : tables_1[923]? = some (Jvm.Cond.methodLink "BikeShare" (155 : Nat) ({ cls := "BikeShare$Riders", name := "arrival", desc := "(I)I" } : Jvm.MethodName)) := by decide +kernel
theorem tf_924 : tables_1[924]? = some (Jvm.Cond.static ({ cls := "BikeShare$Riders", name := "arrival", desc := "(I)I" } : Jvm.MethodName)) := by decide +kernel
theorem tf_925 : tables_1[925]? = some (Jvm.Cond.code ({ cls := "BikeShare$Riders", name := "arrival", desc := "(I)I" } : Jvm.MethodName) prog_6_method_4_code (1 : Nat) (Option.some Jvm.ClassFile.FieldType.int)) := by decide +kernel
theorem tf_926 : tables_1[926]? = some (Jvm.Cond.methodLink "BikeShare" (158 : Nat) ({ cls := "BikeShare$Riders", name := "target", desc := "(I)I" } : Jvm.MethodName)) := by decide +kernel
theorem tf_927 : tables_1[927]? = some (Jvm.Cond.static ({ cls := "BikeShare$Riders", name := "target", desc := "(I)I" } : Jvm.MethodName)) := by decide +kernel
theorem tf_928 : tables_1[928]? = some (Jvm.Cond.code ({ cls := "BikeShare$Riders", name := "target", desc := "(I)I" } : Jvm.MethodName) prog_6_method_6_code (1 : Nat) (Option.some Jvm.ClassFile.FieldType.int)) := by decide +kernel
theorem tf_929 : tables_1[929]? = some (Jvm.Cond.methodLink "BikeShare" (161 : Nat) ({ cls := "BikeShare$Riders", name := "origin", desc := "(I)I" } : Jvm.MethodName)) := by decide +kernel
theorem tf_930 : tables_1[930]? = some (Jvm.Cond.static ({ cls := "BikeShare$Riders", name := "origin", desc := "(I)I" } : Jvm.MethodName)) := by decide +kernel
theorem tf_931 : tables_1[931]? = some (Jvm.Cond.code ({ cls := "BikeShare$Riders", name := "origin", desc := "(I)I" } : Jvm.MethodName) prog_6_method_5_code (1 : Nat) (Option.some Jvm.ClassFile.FieldType.int)) := by decide +kernel
theorem tf_932 : tables_1[932]? = some (Jvm.Cond.methodLink "BikeShareLaw" (171 : Nat) ({ cls := "BikeShareLaw", name := "ridesBetween", desc := "(LBikeShare;II[J)I" } : Jvm.MethodName)) := by decide +kernel
theorem tf_933 : tables_1[933]? = some (Jvm.Cond.static ({ cls := "BikeShareLaw", name := "ridesBetween", desc := "(LBikeShare;II[J)I" } : Jvm.MethodName)) := by decide +kernel
theorem tf_935 : tables_1[935]? = some (Jvm.Cond.methodLink "BikeShareLaw" (53 : Nat) ({ cls := "BikeShare", name := "ridesBetween", desc := "(II)I" } : Jvm.MethodName)) := by decide +kernel
theorem tf_936 : tables_1[936]? = some (Jvm.Cond.instanceMethod ({ cls := "BikeShare", name := "ridesBetween", desc := "(II)I" } : Jvm.MethodName)) := by decide +kernel
theorem tf_937 : tables_1[937]? = some (Jvm.Cond.selects "BikeShare" ({ cls := "BikeShare", name := "ridesBetween", desc := "(II)I" } : Jvm.MethodName) ({ cls := "BikeShare", name := "ridesBetween", desc := "(II)I" } : Jvm.MethodName)) := by decide +kernel
theorem tf_938 : tables_1[938]? = some (Jvm.Cond.code ({ cls := "BikeShare", name := "ridesBetween", desc := "(II)I" } : Jvm.MethodName) prog_1_method_19_code (3 : Nat) (Option.some Jvm.ClassFile.FieldType.int)) := by decide +kernel
theorem tf_939 : tables_1[939]? = some (Jvm.Cond.methodLink "BikeShareLaw" (178 : Nat) ({ cls := "BikeShareLaw", name := "truck", desc := "(LBikeShare;II[J)I" } : Jvm.MethodName)) := by decide +kernel
theorem tf_940 : tables_1[940]? = some (Jvm.Cond.static ({ cls := "BikeShareLaw", name := "truck", desc := "(LBikeShare;II[J)I" } : Jvm.MethodName)) := by decide +kernel
theorem tf_942 : tables_1[942]? = some (Jvm.Cond.methodLink "BikeShareLaw" (56 : Nat) ({ cls := "BikeShare", name := "truck", desc := "(II)I" } : Jvm.MethodName)) := by decide +kernel
theorem tf_943 : tables_1[943]? = some (Jvm.Cond.instanceMethod ({ cls := "BikeShare", name := "truck", desc := "(II)I" } : Jvm.MethodName)) := by decide +kernel
theorem tf_944 : tables_1[944]? = some (Jvm.Cond.selects "BikeShare" ({ cls := "BikeShare", name := "truck", desc := "(II)I" } : Jvm.MethodName) ({ cls := "BikeShare", name := "truck", desc := "(II)I" } : Jvm.MethodName)) := by decide +kernel
theorem tf_945 : tables_1[945]? = some (Jvm.Cond.code ({ cls := "BikeShare", name := "truck", desc := "(II)I" } : Jvm.MethodName) prog_1_method_21_code (4 : Nat) (Option.some Jvm.ClassFile.FieldType.int)) := by decide +kernel
theorem tf_946 : tables_1[946]? = some (Jvm.Cond.methodLink "BikeShare" (170 : Nat) ({ cls := "BikeShare", name := "checkTruck", desc := "(I)V" } : Jvm.MethodName)) := by decide +kernel
theorem tf_948 : tables_1[948]? = some (Jvm.Cond.instanceMethod ({ cls := "BikeShare", name := "checkTruck", desc := "(I)V" } : Jvm.MethodName)) := by decide +kernel
theorem tf_949 : tables_1[949]? = some (Jvm.Cond.code ({ cls := "BikeShare", name := "checkTruck", desc := "(I)V" } : Jvm.MethodName) prog_1_method_40_code (2 : Nat) (Option.none : Option Jvm.ClassFile.FieldType)) := by decide +kernel
theorem tf_951 : tables_1[951]? = some (Jvm.Cond.methodLink "BikeShare" (176 : Nat) ({ cls := "BikeShare$Truck", name := "drives", desc := "()Z" } : Jvm.MethodName)) := by decide +kernel
theorem tf_952 : tables_1[952]? = some (Jvm.Cond.instanceMethod ({ cls := "BikeShare$Truck", name := "drives", desc := "()Z" } : Jvm.MethodName)) := by decide +kernel
theorem tf_953 : tables_1[953]? = some (Jvm.Cond.selects "BikeShare$Truck" ({ cls := "BikeShare$Truck", name := "drives", desc := "()Z" } : Jvm.MethodName) ({ cls := "BikeShare$Truck", name := "drives", desc := "()Z" } : Jvm.MethodName)) := by decide +kernel
theorem tf_954 : tables_1[954]? = some (Jvm.Cond.code ({ cls := "BikeShare$Truck", name := "drives", desc := "()Z" } : Jvm.MethodName) prog_9_method_4_code (1 : Nat) (Option.some Jvm.ClassFile.FieldType.boolean)) := by decide +kernel
theorem tf_955 : tables_1[955]? = some (Jvm.Cond.methodLink "BikeShareLaw" (181 : Nat) ({ cls := "BikeShareLaw", name := "tourMinutes", desc := "(LBikeShare;I[J)I" } : Jvm.MethodName)) := by decide +kernel
theorem tf_956 : tables_1[956]? = some (Jvm.Cond.static ({ cls := "BikeShareLaw", name := "tourMinutes", desc := "(LBikeShare;I[J)I" } : Jvm.MethodName)) := by decide +kernel
theorem tf_958 : tables_1[958]? = some (Jvm.Cond.classLink "BikeShareLaw" (62 : Nat) "java/lang/IllegalStateException") := by decide +kernel
theorem tf_959 : tables_1[959]? = some (Jvm.Cond.methodLink "BikeShareLaw" (59 : Nat) ({ cls := "BikeShare", name := "tourMinutes", desc := "(I)I" } : Jvm.MethodName)) := by decide +kernel
theorem tf_960 : tables_1[960]? = some (Jvm.Cond.instanceMethod ({ cls := "BikeShare", name := "tourMinutes", desc := "(I)I" } : Jvm.MethodName)) := by decide +kernel
theorem tf_961 : tables_1[961]? = some (Jvm.Cond.selects "BikeShare" ({ cls := "BikeShare", name := "tourMinutes", desc := "(I)I" } : Jvm.MethodName) ({ cls := "BikeShare", name := "tourMinutes", desc := "(I)I" } : Jvm.MethodName)) := by decide +kernel
theorem tf_962 : tables_1[962]? = some (Jvm.Cond.code ({ cls := "BikeShare", name := "tourMinutes", desc := "(I)I" } : Jvm.MethodName) prog_1_method_22_code (2 : Nat) (Option.some Jvm.ClassFile.FieldType.int)) := by decide +kernel
theorem tf_963 : tables_1[963]? = some (Jvm.Cond.methodLink "BikeShare" (197 : Nat) ({ cls := "BikeShare", name := "checkParked", desc := "(I)V" } : Jvm.MethodName)) := by decide +kernel
theorem tf_965 : tables_1[965]? = some (Jvm.Cond.instanceMethod ({ cls := "BikeShare", name := "checkParked", desc := "(I)V" } : Jvm.MethodName)) := by decide +kernel
theorem tf_966 : tables_1[966]? = some (Jvm.Cond.code ({ cls := "BikeShare", name := "checkParked", desc := "(I)V" } : Jvm.MethodName) prog_1_method_41_code (2 : Nat) (Option.none : Option Jvm.ClassFile.FieldType)) := by decide +kernel
theorem tf_967 : tables_1[967]? = some (Jvm.Cond.classLink "BikeShare" (233 : Nat) "java/lang/IllegalStateException") := by decide +kernel
theorem tf_983 : tables_1[983]? = some (Jvm.Cond.methodLink "BikeShare" (200 : Nat) ({ cls := "BikeShare$Tour", name := "search", desc := "(LBikeShare$State;LBikeShare$Truck;)V" } : Jvm.MethodName)) := by decide +kernel
theorem tf_984 : tables_1[984]? = some (Jvm.Cond.instanceMethod ({ cls := "BikeShare$Tour", name := "search", desc := "(LBikeShare$State;LBikeShare$Truck;)V" } : Jvm.MethodName)) := by decide +kernel
theorem tf_985 : tables_1[985]? = some (Jvm.Cond.selects "BikeShare$Tour" ({ cls := "BikeShare$Tour", name := "search", desc := "(LBikeShare$State;LBikeShare$Truck;)V" } : Jvm.MethodName) ({ cls := "BikeShare$Tour", name := "search", desc := "(LBikeShare$State;LBikeShare$Truck;)V" } : Jvm.MethodName)) := by decide +kernel
theorem tf_986 : tables_1[986]? = some (Jvm.Cond.code ({ cls := "BikeShare$Tour", name := "search", desc := "(LBikeShare$State;LBikeShare$Truck;)V" } : Jvm.MethodName) prog_8_method_2_code (5 : Nat) (Option.none : Option Jvm.ClassFile.FieldType)) := by decide +kernel
theorem tf_987 : tables_1[987]? = some (Jvm.Cond.methodLink "BikeShare$Tour" (59 : Nat) ({ cls := "java/util/Arrays", name := "fill", desc := "([II)V" } : Jvm.MethodName)) := by decide +kernel
theorem tf_988 : tables_1[988]? = some (Jvm.Cond.methodLink "BikeShare$Tour" (70 : Nat) ({ cls := "BikeShare$Tour", name := "prepare", desc := "(LBikeShare$State;I)V" } : Jvm.MethodName)) := by decide +kernel
theorem tf_990 : tables_1[990]? = some (Jvm.Cond.instanceMethod ({ cls := "BikeShare$Tour", name := "prepare", desc := "(LBikeShare$State;I)V" } : Jvm.MethodName)) := by decide +kernel
theorem tf_991 : tables_1[991]? = some (Jvm.Cond.code ({ cls := "BikeShare$Tour", name := "prepare", desc := "(LBikeShare$State;I)V" } : Jvm.MethodName) prog_8_method_3_code (4 : Nat) (Option.none : Option Jvm.ClassFile.FieldType)) := by decide +kernel
theorem tf_992 : tables_1[992]? = some (Jvm.Cond.methodLink "BikeShare$Tour" (81 : Nat) ({ cls := "BikeShare$State", name := "mark", desc := "(I)I" } : Jvm.MethodName)) := by decide +kernel
theorem tf_993 : tables_1[993]? = some (Jvm.Cond.methodLink "BikeShare$Tour" (85 : Nat) ({ cls := "BikeShare$State", name := "free", desc := "(I)I" } : Jvm.MethodName)) := by decide +kernel
theorem tf_994 : tables_1[994]? = some (Jvm.Cond.methodLink "BikeShare$Tour" (91 : Nat) ({ cls := "BikeShare$State", name := "missing", desc := "(I)I" } : Jvm.MethodName)) := by decide +kernel
theorem tf_995 : tables_1[995]? = some (Jvm.Cond.methodLink "BikeShare$Tour" (94 : Nat) ({ cls := "BikeShare$Tour", name := "leastMinutesTo", desc := "(I)I" } : Jvm.MethodName)) := by decide +kernel
theorem tf_997 : tables_1[997]? = some (Jvm.Cond.instanceMethod ({ cls := "BikeShare$Tour", name := "leastMinutesTo", desc := "(I)I" } : Jvm.MethodName)) := by decide +kernel
theorem tf_998 : tables_1[998]? = some (Jvm.Cond.code ({ cls := "BikeShare$Tour", name := "leastMinutesTo", desc := "(I)I" } : Jvm.MethodName) prog_8_method_4_code (4 : Nat) (Option.some Jvm.ClassFile.FieldType.int)) := by decide +kernel
theorem tf_999 : tables_1[999]? = some (Jvm.Cond.methodLink "BikeShare$Tour" (97 : Nat) ({ cls := "BikeShare$City", name := "truckMinutes", desc := "(II)I" } : Jvm.MethodName)) := by decide +kernel
theorem tf_1000 : tables_1[1000]? = some (Jvm.Cond.instanceMethod ({ cls := "BikeShare$City", name := "truckMinutes", desc := "(II)I" } : Jvm.MethodName)) := by decide +kernel
theorem tf_1001 : tables_1[1001]? = some (Jvm.Cond.selects "BikeShare$City" ({ cls := "BikeShare$City", name := "truckMinutes", desc := "(II)I" } : Jvm.MethodName) ({ cls := "BikeShare$City", name := "truckMinutes", desc := "(II)I" } : Jvm.MethodName)) := by decide +kernel
theorem tf_1002 : tables_1[1002]? = some (Jvm.Cond.code ({ cls := "BikeShare$City", name := "truckMinutes", desc := "(II)I" } : Jvm.MethodName) prog_2_method_8_code (3 : Nat) (Option.some Jvm.ClassFile.FieldType.int)) := by decide +kernel
theorem tf_1003 : tables_1[1003]? = some (Jvm.Cond.methodLink "BikeShare$Tour" (77 : Nat) ({ cls := "BikeShare$Tour", name := "visit", desc := "(IIIIII)V" } : Jvm.MethodName)) := by decide +kernel
theorem tf_1005 : tables_1[1005]? = some (Jvm.Cond.instanceMethod ({ cls := "BikeShare$Tour", name := "visit", desc := "(IIIIII)V" } : Jvm.MethodName)) := by decide +kernel
theorem tf_1006 : tables_1[1006]? = some (Jvm.Cond.code ({ cls := "BikeShare$Tour", name := "visit", desc := "(IIIIII)V" } : Jvm.MethodName) prog_8_method_5_code (12 : Nat) (Option.none : Option Jvm.ClassFile.FieldType)) := by decide +kernel
theorem tf_1007 : tables_1[1007]? = some (Jvm.Cond.methodLink "BikeShare$Tour" (101 : Nat) ({ cls := "BikeShare$Tour", name := "keepPath", desc := "(II)V" } : Jvm.MethodName)) := by decide +kernel
theorem tf_1009 : tables_1[1009]? = some (Jvm.Cond.instanceMethod ({ cls := "BikeShare$Tour", name := "keepPath", desc := "(II)V" } : Jvm.MethodName)) := by decide +kernel
theorem tf_1010 : tables_1[1010]? = some (Jvm.Cond.code ({ cls := "BikeShare$Tour", name := "keepPath", desc := "(II)V" } : Jvm.MethodName) prog_8_method_9_code (3 : Nat) (Option.none : Option Jvm.ClassFile.FieldType)) := by decide +kernel
theorem tf_1011 : tables_1[1011]? = some (Jvm.Cond.methodLink "BikeShare$Tour" (129 : Nat) ({ cls := "java/lang/System", name := "arraycopy", desc := "(Ljava/lang/Object;ILjava/lang/Object;II)V" } : Jvm.MethodName)) := by decide +kernel
theorem tf_1012 : tables_1[1012]? = some (Jvm.Cond.methodLink "BikeShare$Tour" (105 : Nat) ({ cls := "java/lang/Math", name := "max", desc := "(II)I" } : Jvm.MethodName)) := by decide +kernel
theorem tf_1013 : tables_1[1013]? = some (Jvm.Cond.methodLink "BikeShare$Tour" (110 : Nat) ({ cls := "java/lang/Math", name := "min", desc := "(II)I" } : Jvm.MethodName)) := by decide +kernel
theorem tf_1014 : tables_1[1014]? = some (Jvm.Cond.methodLink "BikeShare$Tour" (113 : Nat) ({ cls := "BikeShare$Tour", name := "loads", desc := "(II)I" } : Jvm.MethodName)) := by decide +kernel
theorem tf_1015 : tables_1[1015]? = some (Jvm.Cond.static ({ cls := "BikeShare$Tour", name := "loads", desc := "(II)I" } : Jvm.MethodName)) := by decide +kernel
theorem tf_1016 : tables_1[1016]? = some (Jvm.Cond.code ({ cls := "BikeShare$Tour", name := "loads", desc := "(II)I" } : Jvm.MethodName) prog_8_method_7_code (2 : Nat) (Option.some Jvm.ClassFile.FieldType.int)) := by decide +kernel
theorem tf_1017 : tables_1[1017]? = some (Jvm.Cond.methodLink "BikeShare$Tour" (116 : Nat) ({ cls := "BikeShare$Tour", name := "minutesTo", desc := "(III)I" } : Jvm.MethodName)) := by decide +kernel
theorem tf_1019 : tables_1[1019]? = some (Jvm.Cond.instanceMethod ({ cls := "BikeShare$Tour", name := "minutesTo", desc := "(III)I" } : Jvm.MethodName)) := by decide +kernel
theorem tf_1020 : tables_1[1020]? = some (Jvm.Cond.code ({ cls := "BikeShare$Tour", name := "minutesTo", desc := "(III)I" } : Jvm.MethodName) prog_8_method_6_code (4 : Nat) (Option.some Jvm.ClassFile.FieldType.int)) := by decide +kernel
theorem tf_1021 : tables_1[1021]? = some (Jvm.Cond.methodLink "BikeShare$Tour" (120 : Nat) ({ cls := "BikeShare$Tour", name := "mayBeBest", desc := "(III)Z" } : Jvm.MethodName)) := by decide +kernel
theorem tf_1023 : tables_1[1023]? = some (Jvm.Cond.instanceMethod ({ cls := "BikeShare$Tour", name := "mayBeBest", desc := "(III)Z" } : Jvm.MethodName)) := by decide +kernel
theorem tf_1024 : tables_1[1024]? = some (Jvm.Cond.code ({ cls := "BikeShare$Tour", name := "mayBeBest", desc := "(III)Z" } : Jvm.MethodName) prog_8_method_8_code (5 : Nat) (Option.some Jvm.ClassFile.FieldType.boolean)) := by decide +kernel
theorem tf_1025 : tables_1[1025]? = some (Jvm.Cond.methodLink "BikeShare$Tour" (124 : Nat) ({ cls := "java/lang/Integer", name := "bitCount", desc := "(I)I" } : Jvm.MethodName)) := by decide +kernel
theorem tf_1026 : tables_1[1026]? = some (Jvm.Cond.static ({ cls := "java/lang/Integer", name := "bitCount", desc := "(I)I" } : Jvm.MethodName)) := by decide +kernel
theorem tf_1027 : tables_1[1027]? = some (Jvm.Cond.code ({ cls := "java/lang/Integer", name := "bitCount", desc := "(I)I" } : Jvm.MethodName) prog_16_method_49_code (1 : Nat) (Option.some Jvm.ClassFile.FieldType.int)) := by decide +kernel
theorem tf_1028 : tables_1[1028]? = some (Jvm.Cond.constant "java/lang/Integer" (265 : Nat) (1431655765 : Int32)) := by decide +kernel
theorem tf_1029 : tables_1[1029]? = some (Jvm.Cond.constant "java/lang/Integer" (266 : Nat) (858993459 : Int32)) := by decide +kernel
theorem tf_1030 : tables_1[1030]? = some (Jvm.Cond.constant "java/lang/Integer" (267 : Nat) (252645135 : Int32)) := by decide +kernel
theorem tf_1031 : tables_1[1031]? = some (Jvm.Cond.methodLink "BikeShareLaw" (184 : Nat) ({ cls := "BikeShareLaw", name := "tourStop", desc := "(LBikeShare;II[J)I" } : Jvm.MethodName)) := by decide +kernel
theorem tf_1032 : tables_1[1032]? = some (Jvm.Cond.static ({ cls := "BikeShareLaw", name := "tourStop", desc := "(LBikeShare;II[J)I" } : Jvm.MethodName)) := by decide +kernel
theorem tf_1034 : tables_1[1034]? = some (Jvm.Cond.methodLink "BikeShareLaw" (64 : Nat) ({ cls := "BikeShare", name := "tourStop", desc := "(II)I" } : Jvm.MethodName)) := by decide +kernel
theorem tf_1035 : tables_1[1035]? = some (Jvm.Cond.instanceMethod ({ cls := "BikeShare", name := "tourStop", desc := "(II)I" } : Jvm.MethodName)) := by decide +kernel
theorem tf_1036 : tables_1[1036]? = some (Jvm.Cond.selects "BikeShare" ({ cls := "BikeShare", name := "tourStop", desc := "(II)I" } : Jvm.MethodName) ({ cls := "BikeShare", name := "tourStop", desc := "(II)I" } : Jvm.MethodName)) := by decide +kernel
theorem tf_1037 : tables_1[1037]? = some (Jvm.Cond.code ({ cls := "BikeShare", name := "tourStop", desc := "(II)I" } : Jvm.MethodName) prog_1_method_23_code (3 : Nat) (Option.some Jvm.ClassFile.FieldType.int)) := by decide +kernel
theorem tf_1038 : tables_1[1038]? = some (Jvm.Cond.methodLink "BikeShareLaw" (187 : Nat) ({ cls := "BikeShareLaw", name := "total", desc := "(LBikeShare;I[J)I" } : Jvm.MethodName)) := by decide +kernel
theorem tf_1039 : tables_1[1039]? = some (Jvm.Cond.static ({ cls := "BikeShareLaw", name := "total", desc := "(LBikeShare;I[J)I" } : Jvm.MethodName)) := by decide +kernel
theorem tf_1041 : tables_1[1041]? = some (Jvm.Cond.methodLink "BikeShareLaw" (67 : Nat) ({ cls := "BikeShare", name := "total", desc := "(I)I" } : Jvm.MethodName)) := by decide +kernel
theorem tf_1042 : tables_1[1042]? = some (Jvm.Cond.instanceMethod ({ cls := "BikeShare", name := "total", desc := "(I)I" } : Jvm.MethodName)) := by decide +kernel
theorem tf_1043 : tables_1[1043]? = some (Jvm.Cond.selects "BikeShare" ({ cls := "BikeShare", name := "total", desc := "(I)I" } : Jvm.MethodName) ({ cls := "BikeShare", name := "total", desc := "(I)I" } : Jvm.MethodName)) := by decide +kernel
theorem tf_1044 : tables_1[1044]? = some (Jvm.Cond.code ({ cls := "BikeShare", name := "total", desc := "(I)I" } : Jvm.MethodName) prog_1_method_24_code (2 : Nat) (Option.some Jvm.ClassFile.FieldType.int)) := by decide +kernel
theorem tf_1045 : tables_1[1045]? = some (Jvm.Cond.methodLink "BikeShare" (213 : Nat) ({ cls := "BikeShare", name := "checkTotal", desc := "(I)V" } : Jvm.MethodName)) := by decide +kernel
theorem tf_1046 : tables_1[1046]? = some (Jvm.Cond.static ({ cls := "BikeShare", name := "checkTotal", desc := "(I)V" } : Jvm.MethodName)) := by decide +kernel
theorem tf_1047 : tables_1[1047]? = some (Jvm.Cond.code ({ cls := "BikeShare", name := "checkTotal", desc := "(I)V" } : Jvm.MethodName) prog_1_method_42_code (1 : Nat) (Option.none : Option Jvm.ClassFile.FieldType)) := by decide +kernel
theorem tf_1048 : tables_1[1048]? = some (Jvm.Cond.methodLink "BikeShare" (219 : Nat) ({ cls := "BikeShare", name := "checkRange", desc := "(III)V" } : Jvm.MethodName)) := by decide +kernel
theorem tf_1049 : tables_1[1049]? = some (Jvm.Cond.static ({ cls := "BikeShare", name := "checkRange", desc := "(III)V" } : Jvm.MethodName)) := by decide +kernel
theorem tf_1050 : tables_1[1050]? = some (Jvm.Cond.code ({ cls := "BikeShare", name := "checkRange", desc := "(III)V" } : Jvm.MethodName) prog_1_method_43_code (3 : Nat) (Option.none : Option Jvm.ClassFile.FieldType)) := by decide +kernel
theorem tf_1052 : tables_1[1052]? = some (Jvm.Cond.methodLink "BikeShare" (216 : Nat) ({ cls := "BikeShare$State", name := "sum", desc := "(I)I" } : Jvm.MethodName)) := by decide +kernel
theorem tf_1053 : tables_1[1053]? = some (Jvm.Cond.instanceMethod ({ cls := "BikeShare$State", name := "sum", desc := "(I)I" } : Jvm.MethodName)) := by decide +kernel
theorem tf_1054 : tables_1[1054]? = some (Jvm.Cond.selects "BikeShare$State" ({ cls := "BikeShare$State", name := "sum", desc := "(I)I" } : Jvm.MethodName) ({ cls := "BikeShare$State", name := "sum", desc := "(I)I" } : Jvm.MethodName)) := by decide +kernel
theorem tf_1055 : tables_1[1055]? = some (Jvm.Cond.code ({ cls := "BikeShare$State", name := "sum", desc := "(I)I" } : Jvm.MethodName) prog_7_method_11_code (2 : Nat) (Option.some Jvm.ClassFile.FieldType.int)) := by decide +kernel
theorem tf_1056 : tables_1[1056]? = some (Jvm.Cond.methodLink "BikeShareLaw" (190 : Nat) ({ cls := "BikeShareLaw", name := "forecast", desc := "(LBikeShare;II[J)I" } : Jvm.MethodName)) := by decide +kernel
theorem tf_1057 : tables_1[1057]? = some (Jvm.Cond.static ({ cls := "BikeShareLaw", name := "forecast", desc := "(LBikeShare;II[J)I" } : Jvm.MethodName)) := by decide +kernel
theorem tf_1059 : tables_1[1059]? = some (Jvm.Cond.methodLink "BikeShareLaw" (70 : Nat) ({ cls := "BikeShare", name := "forecast", desc := "(II)I" } : Jvm.MethodName)) := by decide +kernel
theorem tf_1060 : tables_1[1060]? = some (Jvm.Cond.instanceMethod ({ cls := "BikeShare", name := "forecast", desc := "(II)I" } : Jvm.MethodName)) := by decide +kernel
theorem tf_1061 : tables_1[1061]? = some (Jvm.Cond.selects "BikeShare" ({ cls := "BikeShare", name := "forecast", desc := "(II)I" } : Jvm.MethodName) ({ cls := "BikeShare", name := "forecast", desc := "(II)I" } : Jvm.MethodName)) := by decide +kernel
theorem tf_1062 : tables_1[1062]? = some (Jvm.Cond.code ({ cls := "BikeShare", name := "forecast", desc := "(II)I" } : Jvm.MethodName) prog_1_method_25_code (3 : Nat) (Option.some Jvm.ClassFile.FieldType.int)) := by decide +kernel
theorem tf_1063 : tables_1[1063]? = some (Jvm.Cond.methodLink "BikeShare" (227 : Nat) ({ cls := "BikeShare$State", name := "advance", desc := "(I)I" } : Jvm.MethodName)) := by decide +kernel
theorem tf_1064 : tables_1[1064]? = some (Jvm.Cond.instanceMethod ({ cls := "BikeShare$State", name := "advance", desc := "(I)I" } : Jvm.MethodName)) := by decide +kernel
theorem tf_1065 : tables_1[1065]? = some (Jvm.Cond.selects "BikeShare$State" ({ cls := "BikeShare$State", name := "advance", desc := "(I)I" } : Jvm.MethodName) ({ cls := "BikeShare$State", name := "advance", desc := "(I)I" } : Jvm.MethodName)) := by decide +kernel
theorem tf_1066 : tables_1[1066]? = some (Jvm.Cond.code ({ cls := "BikeShare$State", name := "advance", desc := "(I)I" } : Jvm.MethodName) prog_7_method_24_code (5 : Nat) (Option.some Jvm.ClassFile.FieldType.int)) := by decide +kernel
theorem tf_1067 : tables_1[1067]? = some (Jvm.Cond.methodLink "BikeShare$State" (236 : Nat) ({ cls := "BikeShare$State", name := "nextEvent", desc := "()I" } : Jvm.MethodName)) := by decide +kernel
theorem tf_1069 : tables_1[1069]? = some (Jvm.Cond.instanceMethod ({ cls := "BikeShare$State", name := "nextEvent", desc := "()I" } : Jvm.MethodName)) := by decide +kernel
theorem tf_1070 : tables_1[1070]? = some (Jvm.Cond.code ({ cls := "BikeShare$State", name := "nextEvent", desc := "()I" } : Jvm.MethodName) prog_7_method_26_code (6 : Nat) (Option.some Jvm.ClassFile.FieldType.int)) := by decide +kernel
theorem tf_1071 : tables_1[1071]? = some (Jvm.Cond.methodLink "BikeShare$State" (246 : Nat) ({ cls := "BikeShare$Riders", name := "arrival", desc := "(I)I" } : Jvm.MethodName)) := by decide +kernel
theorem tf_1072 : tables_1[1072]? = some (Jvm.Cond.constant "BikeShare$State" (249 : Nat) (1048576 : Int32)) := by decide +kernel
theorem tf_1073 : tables_1[1073]? = some (Jvm.Cond.methodLink "BikeShare$State" (201 : Nat) ({ cls := "BikeShare$Truck", name := "drives", desc := "()Z" } : Jvm.MethodName)) := by decide +kernel
theorem tf_1074 : tables_1[1074]? = some (Jvm.Cond.methodLink "BikeShare$State" (239 : Nat) ({ cls := "BikeShare$State", name := "happen", desc := "()I" } : Jvm.MethodName)) := by decide +kernel
theorem tf_1076 : tables_1[1076]? = some (Jvm.Cond.instanceMethod ({ cls := "BikeShare$State", name := "happen", desc := "()I" } : Jvm.MethodName)) := by decide +kernel
theorem tf_1077 : tables_1[1077]? = some (Jvm.Cond.code ({ cls := "BikeShare$State", name := "happen", desc := "()I" } : Jvm.MethodName) prog_7_method_27_code (4 : Nat) (Option.some Jvm.ClassFile.FieldType.int)) := by decide +kernel
theorem tf_1078 : tables_1[1078]? = some (Jvm.Cond.methodLink "BikeShare$State" (256 : Nat) ({ cls := "BikeShare$State", name := "arrive", desc := "(LBikeShare$Truck;)V" } : Jvm.MethodName)) := by decide +kernel
theorem tf_1080 : tables_1[1080]? = some (Jvm.Cond.instanceMethod ({ cls := "BikeShare$State", name := "arrive", desc := "(LBikeShare$Truck;)V" } : Jvm.MethodName)) := by decide +kernel
theorem tf_1081 : tables_1[1081]? = some (Jvm.Cond.code ({ cls := "BikeShare$State", name := "arrive", desc := "(LBikeShare$Truck;)V" } : Jvm.MethodName) prog_7_method_23_code (2 : Nat) (Option.none : Option Jvm.ClassFile.FieldType)) := by decide +kernel
theorem tf_1082 : tables_1[1082]? = some (Jvm.Cond.methodLink "BikeShare$State" (217 : Nat) ({ cls := "BikeShare$State", name := "carryOut", desc := "(LBikeShare$Truck;I)V" } : Jvm.MethodName)) := by decide +kernel
theorem tf_1084 : tables_1[1084]? = some (Jvm.Cond.instanceMethod ({ cls := "BikeShare$State", name := "carryOut", desc := "(LBikeShare$Truck;I)V" } : Jvm.MethodName)) := by decide +kernel
theorem tf_1085 : tables_1[1085]? = some (Jvm.Cond.code ({ cls := "BikeShare$State", name := "carryOut", desc := "(LBikeShare$Truck;I)V" } : Jvm.MethodName) prog_7_method_22_code (6 : Nat) (Option.none : Option Jvm.ClassFile.FieldType)) := by decide +kernel
theorem tf_1086 : tables_1[1086]? = some (Jvm.Cond.methodLink "BikeShare$State" (233 : Nat) ({ cls := "BikeShare$State", name := "goOn", desc := "(LBikeShare$Truck;)V" } : Jvm.MethodName)) := by decide +kernel
theorem tf_1087 : tables_1[1087]? = some (Jvm.Cond.instanceMethod ({ cls := "BikeShare$State", name := "goOn", desc := "(LBikeShare$Truck;)V" } : Jvm.MethodName)) := by decide +kernel
theorem tf_1088 : tables_1[1088]? = some (Jvm.Cond.selects "BikeShare$State" ({ cls := "BikeShare$State", name := "goOn", desc := "(LBikeShare$Truck;)V" } : Jvm.MethodName) ({ cls := "BikeShare$State", name := "goOn", desc := "(LBikeShare$Truck;)V" } : Jvm.MethodName)) := by decide +kernel
theorem tf_1089 : tables_1[1089]? = some (Jvm.Cond.code ({ cls := "BikeShare$State", name := "goOn", desc := "(LBikeShare$Truck;)V" } : Jvm.MethodName) prog_7_method_21_code (5 : Nat) (Option.none : Option Jvm.ClassFile.FieldType)) := by decide +kernel
theorem tf_1090 : tables_1[1090]? = some (Jvm.Cond.methodLink "BikeShare$State" (211 : Nat) ({ cls := "BikeShare$Truck", name := "dropFirstOrder", desc := "()V" } : Jvm.MethodName)) := by decide +kernel
theorem tf_1091 : tables_1[1091]? = some (Jvm.Cond.instanceMethod ({ cls := "BikeShare$Truck", name := "dropFirstOrder", desc := "()V" } : Jvm.MethodName)) := by decide +kernel
theorem tf_1092 : tables_1[1092]? = some (Jvm.Cond.selects "BikeShare$Truck" ({ cls := "BikeShare$Truck", name := "dropFirstOrder", desc := "()V" } : Jvm.MethodName) ({ cls := "BikeShare$Truck", name := "dropFirstOrder", desc := "()V" } : Jvm.MethodName)) := by decide +kernel
theorem tf_1093 : tables_1[1093]? = some (Jvm.Cond.code ({ cls := "BikeShare$Truck", name := "dropFirstOrder", desc := "()V" } : Jvm.MethodName) prog_9_method_6_code (1 : Nat) (Option.none : Option Jvm.ClassFile.FieldType)) := by decide +kernel
theorem tf_1094 : tables_1[1094]? = some (Jvm.Cond.methodLink "BikeShare$State" (221 : Nat) ({ cls := "BikeShare$City", name := "truckMinutes", desc := "(II)I" } : Jvm.MethodName)) := by decide +kernel
theorem tf_1095 : tables_1[1095]? = some (Jvm.Cond.methodLink "BikeShare$State" (259 : Nat) ({ cls := "BikeShare$State", name := "landRiders", desc := "()I" } : Jvm.MethodName)) := by decide +kernel
theorem tf_1097 : tables_1[1097]? = some (Jvm.Cond.instanceMethod ({ cls := "BikeShare$State", name := "landRiders", desc := "()I" } : Jvm.MethodName)) := by decide +kernel
theorem tf_1098 : tables_1[1098]? = some (Jvm.Cond.code ({ cls := "BikeShare$State", name := "landRiders", desc := "()I" } : Jvm.MethodName) prog_7_method_19_code (6 : Nat) (Option.some Jvm.ClassFile.FieldType.int)) := by decide +kernel
theorem tf_1099 : tables_1[1099]? = some (Jvm.Cond.methodLink "BikeShare$State" (172 : Nat) ({ cls := "BikeShare$Riders", name := "arrivedBy", desc := "(I)I" } : Jvm.MethodName)) := by decide +kernel
theorem tf_1100 : tables_1[1100]? = some (Jvm.Cond.instanceMethod ({ cls := "BikeShare$Riders", name := "arrivedBy", desc := "(I)I" } : Jvm.MethodName)) := by decide +kernel
theorem tf_1101 : tables_1[1101]? = some (Jvm.Cond.selects "BikeShare$Riders" ({ cls := "BikeShare$Riders", name := "arrivedBy", desc := "(I)I" } : Jvm.MethodName) ({ cls := "BikeShare$Riders", name := "arrivedBy", desc := "(I)I" } : Jvm.MethodName)) := by decide +kernel
theorem tf_1102 : tables_1[1102]? = some (Jvm.Cond.code ({ cls := "BikeShare$Riders", name := "arrivedBy", desc := "(I)I" } : Jvm.MethodName) prog_6_method_9_code (3 : Nat) (Option.some Jvm.ClassFile.FieldType.int)) := by decide +kernel
theorem tf_1103 : tables_1[1103]? = some (Jvm.Cond.methodLink "BikeShare$Riders" (30 : Nat) ({ cls := "BikeShare$Riders", name := "arrival", desc := "(I)I" } : Jvm.MethodName)) := by decide +kernel
theorem tf_1104 : tables_1[1104]? = some (Jvm.Cond.methodLink "BikeShare$State" (178 : Nat) ({ cls := "BikeShare$Riders", name := "target", desc := "(I)I" } : Jvm.MethodName)) := by decide +kernel
theorem tf_1105 : tables_1[1105]? = some (Jvm.Cond.methodLink "BikeShare$State" (181 : Nat) ({ cls := "BikeShare$State", name := "bonusNow", desc := "(I)I" } : Jvm.MethodName)) := by decide +kernel
theorem tf_1106 : tables_1[1106]? = some (Jvm.Cond.methodLink "BikeShare$State" (184 : Nat) ({ cls := "BikeShare$State", name := "turnAway", desc := "(II)I" } : Jvm.MethodName)) := by decide +kernel
theorem tf_1108 : tables_1[1108]? = some (Jvm.Cond.instanceMethod ({ cls := "BikeShare$State", name := "turnAway", desc := "(II)I" } : Jvm.MethodName)) := by decide +kernel
theorem tf_1109 : tables_1[1109]? = some (Jvm.Cond.code ({ cls := "BikeShare$State", name := "turnAway", desc := "(II)I" } : Jvm.MethodName) prog_7_method_20_code (4 : Nat) (Option.some Jvm.ClassFile.FieldType.int)) := by decide +kernel
theorem tf_1110 : tables_1[1110]? = some (Jvm.Cond.methodLink "BikeShare$State" (190 : Nat) ({ cls := "BikeShare$State", name := "nearestOther", desc := "(IZ)I" } : Jvm.MethodName)) := by decide +kernel
theorem tf_1111 : tables_1[1111]? = some (Jvm.Cond.methodLink "BikeShare$State" (194 : Nat) ({ cls := "BikeShare$Riders", name := "redirected", desc := "(III)I" } : Jvm.MethodName)) := by decide +kernel
theorem tf_1112 : tables_1[1112]? = some (Jvm.Cond.static ({ cls := "BikeShare$Riders", name := "redirected", desc := "(III)I" } : Jvm.MethodName)) := by decide +kernel
theorem tf_1113 : tables_1[1113]? = some (Jvm.Cond.code ({ cls := "BikeShare$Riders", name := "redirected", desc := "(III)I" } : Jvm.MethodName) prog_6_method_3_code (3 : Nat) (Option.some Jvm.ClassFile.FieldType.int)) := by decide +kernel
theorem tf_1114 : tables_1[1114]? = some (Jvm.Cond.constant "BikeShare$Riders" (15 : Nat) (65528 : Int32)) := by decide +kernel
theorem tf_1115 : tables_1[1115]? = some (Jvm.Cond.methodLink "BikeShare$State" (187 : Nat) ({ cls := "BikeShare$Riders", name := "keepOfFront", desc := "(II)V" } : Jvm.MethodName)) := by decide +kernel
theorem tf_1116 : tables_1[1116]? = some (Jvm.Cond.instanceMethod ({ cls := "BikeShare$Riders", name := "keepOfFront", desc := "(II)V" } : Jvm.MethodName)) := by decide +kernel
theorem tf_1117 : tables_1[1117]? = some (Jvm.Cond.selects "BikeShare$Riders" ({ cls := "BikeShare$Riders", name := "keepOfFront", desc := "(II)V" } : Jvm.MethodName) ({ cls := "BikeShare$Riders", name := "keepOfFront", desc := "(II)V" } : Jvm.MethodName)) := by decide +kernel
theorem tf_1118 : tables_1[1118]? = some (Jvm.Cond.code ({ cls := "BikeShare$Riders", name := "keepOfFront", desc := "(II)V" } : Jvm.MethodName) prog_6_method_10_code (4 : Nat) (Option.none : Option Jvm.ClassFile.FieldType)) := by decide +kernel
theorem tf_1119 : tables_1[1119]? = some (Jvm.Cond.methodLink "BikeShare$Riders" (26 : Nat) ({ cls := "BikeShare$Riders", name := "settle", desc := "(I)V" } : Jvm.MethodName)) := by decide +kernel
theorem tf_1121 : tables_1[1121]? = some (Jvm.Cond.instanceMethod ({ cls := "BikeShare$Riders", name := "settle", desc := "(I)V" } : Jvm.MethodName)) := by decide +kernel
theorem tf_1122 : tables_1[1122]? = some (Jvm.Cond.code ({ cls := "BikeShare$Riders", name := "settle", desc := "(I)V" } : Jvm.MethodName) prog_6_method_11_code (4 : Nat) (Option.none : Option Jvm.ClassFile.FieldType)) := by decide +kernel
theorem tf_1123 : tables_1[1123]? = some (Jvm.Cond.methodLink "BikeShare$State" (265 : Nat) ({ cls := "BikeShare$State", name := "canRide", desc := "(I)Z" } : Jvm.MethodName)) := by decide +kernel
theorem tf_1124 : tables_1[1124]? = some (Jvm.Cond.instanceMethod ({ cls := "BikeShare$State", name := "canRide", desc := "(I)Z" } : Jvm.MethodName)) := by decide +kernel
theorem tf_1125 : tables_1[1125]? = some (Jvm.Cond.selects "BikeShare$State" ({ cls := "BikeShare$State", name := "canRide", desc := "(I)Z" } : Jvm.MethodName) ({ cls := "BikeShare$State", name := "canRide", desc := "(I)Z" } : Jvm.MethodName)) := by decide +kernel
theorem tf_1126 : tables_1[1126]? = some (Jvm.Cond.code ({ cls := "BikeShare$State", name := "canRide", desc := "(I)Z" } : Jvm.MethodName) prog_7_method_17_code (2 : Nat) (Option.some Jvm.ClassFile.FieldType.boolean)) := by decide +kernel
theorem tf_1127 : tables_1[1127]? = some (Jvm.Cond.methodLink "BikeShare$State" (272 : Nat) ({ cls := "BikeShare$State", name := "startRide", desc := "(II)V" } : Jvm.MethodName)) := by decide +kernel
theorem tf_1128 : tables_1[1128]? = some (Jvm.Cond.instanceMethod ({ cls := "BikeShare$State", name := "startRide", desc := "(II)V" } : Jvm.MethodName)) := by decide +kernel
theorem tf_1129 : tables_1[1129]? = some (Jvm.Cond.selects "BikeShare$State" ({ cls := "BikeShare$State", name := "startRide", desc := "(II)V" } : Jvm.MethodName) ({ cls := "BikeShare$State", name := "startRide", desc := "(II)V" } : Jvm.MethodName)) := by decide +kernel
theorem tf_1130 : tables_1[1130]? = some (Jvm.Cond.code ({ cls := "BikeShare$State", name := "startRide", desc := "(II)V" } : Jvm.MethodName) prog_7_method_18_code (4 : Nat) (Option.none : Option Jvm.ClassFile.FieldType)) := by decide +kernel
theorem tf_1131 : tables_1[1131]? = some (Jvm.Cond.methodLink "BikeShare$State" (162 : Nat) ({ cls := "BikeShare$State", name := "fareNow", desc := "(II)I" } : Jvm.MethodName)) := by decide +kernel
theorem tf_1132 : tables_1[1132]? = some (Jvm.Cond.methodLink "BikeShare$State" (165 : Nat) ({ cls := "BikeShare$Riders", name := "code", desc := "(IIII)I" } : Jvm.MethodName)) := by decide +kernel
theorem tf_1133 : tables_1[1133]? = some (Jvm.Cond.static ({ cls := "BikeShare$Riders", name := "code", desc := "(IIII)I" } : Jvm.MethodName)) := by decide +kernel
theorem tf_1134 : tables_1[1134]? = some (Jvm.Cond.code ({ cls := "BikeShare$Riders", name := "code", desc := "(IIII)I" } : Jvm.MethodName) prog_6_method_2_code (4 : Nat) (Option.some Jvm.ClassFile.FieldType.int)) := by decide +kernel
theorem tf_1135 : tables_1[1135]? = some (Jvm.Cond.methodLink "BikeShare$State" (168 : Nat) ({ cls := "BikeShare$Riders", name := "add", desc := "(I)V" } : Jvm.MethodName)) := by decide +kernel
theorem tf_1136 : tables_1[1136]? = some (Jvm.Cond.instanceMethod ({ cls := "BikeShare$Riders", name := "add", desc := "(I)V" } : Jvm.MethodName)) := by decide +kernel
theorem tf_1137 : tables_1[1137]? = some (Jvm.Cond.selects "BikeShare$Riders" ({ cls := "BikeShare$Riders", name := "add", desc := "(I)V" } : Jvm.MethodName) ({ cls := "BikeShare$Riders", name := "add", desc := "(I)V" } : Jvm.MethodName)) := by decide +kernel
theorem tf_1138 : tables_1[1138]? = some (Jvm.Cond.code ({ cls := "BikeShare$Riders", name := "add", desc := "(I)V" } : Jvm.MethodName) prog_6_method_8_code (2 : Nat) (Option.none : Option Jvm.ClassFile.FieldType)) := by decide +kernel
theorem tf_1139 : tables_1[1139]? = some (Jvm.Cond.methodLink "BikeShareLaw" (193 : Nat) ({ cls := "BikeShareLaw", name := "runsOut", desc := "(LBikeShare;IZ[J)I" } : Jvm.MethodName)) := by decide +kernel
theorem tf_1140 : tables_1[1140]? = some (Jvm.Cond.static ({ cls := "BikeShareLaw", name := "runsOut", desc := "(LBikeShare;IZ[J)I" } : Jvm.MethodName)) := by decide +kernel
theorem tf_1142 : tables_1[1142]? = some (Jvm.Cond.methodLink "BikeShareLaw" (73 : Nat) ({ cls := "BikeShare", name := "runsOut", desc := "(IZ)I" } : Jvm.MethodName)) := by decide +kernel
theorem tf_1143 : tables_1[1143]? = some (Jvm.Cond.instanceMethod ({ cls := "BikeShare", name := "runsOut", desc := "(IZ)I" } : Jvm.MethodName)) := by decide +kernel
theorem tf_1144 : tables_1[1144]? = some (Jvm.Cond.selects "BikeShare" ({ cls := "BikeShare", name := "runsOut", desc := "(IZ)I" } : Jvm.MethodName) ({ cls := "BikeShare", name := "runsOut", desc := "(IZ)I" } : Jvm.MethodName)) := by decide +kernel
theorem tf_1145 : tables_1[1145]? = some (Jvm.Cond.code ({ cls := "BikeShare", name := "runsOut", desc := "(IZ)I" } : Jvm.MethodName) prog_1_method_26_code (3 : Nat) (Option.some Jvm.ClassFile.FieldType.int)) := by decide +kernel
theorem tf_1146 : tables_1[1146]? = some (Jvm.Cond.methodLink "BikeShare" (230 : Nat) ({ cls := "BikeShare$State", name := "minutesUntilOut", desc := "(IZ)I" } : Jvm.MethodName)) := by decide +kernel
theorem tf_1147 : tables_1[1147]? = some (Jvm.Cond.instanceMethod ({ cls := "BikeShare$State", name := "minutesUntilOut", desc := "(IZ)I" } : Jvm.MethodName)) := by decide +kernel
theorem tf_1148 : tables_1[1148]? = some (Jvm.Cond.selects "BikeShare$State" ({ cls := "BikeShare$State", name := "minutesUntilOut", desc := "(IZ)I" } : Jvm.MethodName) ({ cls := "BikeShare$State", name := "minutesUntilOut", desc := "(IZ)I" } : Jvm.MethodName)) := by decide +kernel
theorem tf_1149 : tables_1[1149]? = some (Jvm.Cond.code ({ cls := "BikeShare$State", name := "minutesUntilOut", desc := "(IZ)I" } : Jvm.MethodName) prog_7_method_25_code (5 : Nat) (Option.some Jvm.ClassFile.FieldType.int)) := by decide +kernel
theorem tf_1150 : tables_1[1150]? = some (Jvm.Cond.methodLink "BikeShare$State" (242 : Nat) ({ cls := "BikeShare$State", name := "isOut", desc := "(IZ)Z" } : Jvm.MethodName)) := by decide +kernel
theorem tf_1151 : tables_1[1151]? = some (Jvm.Cond.instanceMethod ({ cls := "BikeShare$State", name := "isOut", desc := "(IZ)Z" } : Jvm.MethodName)) := by decide +kernel
theorem tf_1152 : tables_1[1152]? = some (Jvm.Cond.selects "BikeShare$State" ({ cls := "BikeShare$State", name := "isOut", desc := "(IZ)Z" } : Jvm.MethodName) ({ cls := "BikeShare$State", name := "isOut", desc := "(IZ)Z" } : Jvm.MethodName)) := by decide +kernel
theorem tf_1153 : tables_1[1153]? = some (Jvm.Cond.code ({ cls := "BikeShare$State", name := "isOut", desc := "(IZ)Z" } : Jvm.MethodName) prog_7_method_8_code (3 : Nat) (Option.some Jvm.ClassFile.FieldType.boolean)) := by decide +kernel
theorem tf_1154 : tables_1[1154]? = some (Jvm.Cond.methodLink "BikeShareLaw" (196 : Nat) ({ cls := "BikeShareLaw", name := "pass", desc := "(LBikeShare;I[J)I" } : Jvm.MethodName)) := by decide +kernel
theorem tf_1155 : tables_1[1155]? = some (Jvm.Cond.static ({ cls := "BikeShareLaw", name := "pass", desc := "(LBikeShare;I[J)I" } : Jvm.MethodName)) := by decide +kernel
theorem tf_1157 : tables_1[1157]? = some (Jvm.Cond.methodLink "BikeShareLaw" (76 : Nat) ({ cls := "BikeShare", name := "pass", desc := "(I)I" } : Jvm.MethodName)) := by decide +kernel
theorem tf_1158 : tables_1[1158]? = some (Jvm.Cond.instanceMethod ({ cls := "BikeShare", name := "pass", desc := "(I)I" } : Jvm.MethodName)) := by decide +kernel
theorem tf_1159 : tables_1[1159]? = some (Jvm.Cond.selects "BikeShare" ({ cls := "BikeShare", name := "pass", desc := "(I)I" } : Jvm.MethodName) ({ cls := "BikeShare", name := "pass", desc := "(I)I" } : Jvm.MethodName)) := by decide +kernel
theorem tf_1160 : tables_1[1160]? = some (Jvm.Cond.code ({ cls := "BikeShare", name := "pass", desc := "(I)I" } : Jvm.MethodName) prog_1_method_27_code (2 : Nat) (Option.some Jvm.ClassFile.FieldType.int)) := by decide +kernel
theorem tf_1162 : tables_1[1162]? = some (Jvm.Cond.methodLink "BikeShare" (238 : Nat) ({ cls := "BikeShare$History", name := "remember", desc := "(LBikeShare$State;)V" } : Jvm.MethodName)) := by decide +kernel
theorem tf_1163 : tables_1[1163]? = some (Jvm.Cond.instanceMethod ({ cls := "BikeShare$History", name := "remember", desc := "(LBikeShare$State;)V" } : Jvm.MethodName)) := by decide +kernel
theorem tf_1164 : tables_1[1164]? = some (Jvm.Cond.selects "BikeShare$History" ({ cls := "BikeShare$History", name := "remember", desc := "(LBikeShare$State;)V" } : Jvm.MethodName) ({ cls := "BikeShare$History", name := "remember", desc := "(LBikeShare$State;)V" } : Jvm.MethodName)) := by decide +kernel
theorem tf_1165 : tables_1[1165]? = some (Jvm.Cond.code ({ cls := "BikeShare$History", name := "remember", desc := "(LBikeShare$State;)V" } : Jvm.MethodName) prog_5_method_3_code (3 : Nat) (Option.none : Option Jvm.ClassFile.FieldType)) := by decide +kernel
theorem tf_1166 : tables_1[1166]? = some (Jvm.Cond.methodLink "BikeShare$History" (28 : Nat) ({ cls := "BikeShare$State", name := "<init>", desc := "(LBikeShare$City;)V" } : Jvm.MethodName)) := by decide +kernel
theorem tf_1167 : tables_1[1167]? = some (Jvm.Cond.methodLink "BikeShareLaw" (199 : Nat) ({ cls := "BikeShareLaw", name := "rent", desc := "(LBikeShare;II[J)I" } : Jvm.MethodName)) := by decide +kernel
theorem tf_1168 : tables_1[1168]? = some (Jvm.Cond.static ({ cls := "BikeShareLaw", name := "rent", desc := "(LBikeShare;II[J)I" } : Jvm.MethodName)) := by decide +kernel
theorem tf_1170 : tables_1[1170]? = some (Jvm.Cond.methodLink "BikeShareLaw" (79 : Nat) ({ cls := "BikeShare", name := "rent", desc := "(II)I" } : Jvm.MethodName)) := by decide +kernel
theorem tf_1171 : tables_1[1171]? = some (Jvm.Cond.instanceMethod ({ cls := "BikeShare", name := "rent", desc := "(II)I" } : Jvm.MethodName)) := by decide +kernel
theorem tf_1172 : tables_1[1172]? = some (Jvm.Cond.selects "BikeShare" ({ cls := "BikeShare", name := "rent", desc := "(II)I" } : Jvm.MethodName) ({ cls := "BikeShare", name := "rent", desc := "(II)I" } : Jvm.MethodName)) := by decide +kernel
theorem tf_1173 : tables_1[1173]? = some (Jvm.Cond.code ({ cls := "BikeShare", name := "rent", desc := "(II)I" } : Jvm.MethodName) prog_1_method_28_code (3 : Nat) (Option.some Jvm.ClassFile.FieldType.int)) := by decide +kernel
theorem tf_1174 : tables_1[1174]? = some (Jvm.Cond.methodLink "BikeShare" (241 : Nat) ({ cls := "BikeShare$State", name := "canRide", desc := "(I)Z" } : Jvm.MethodName)) := by decide +kernel
theorem tf_1176 : tables_1[1176]? = some (Jvm.Cond.methodLink "BikeShare" (247 : Nat) ({ cls := "BikeShare$State", name := "startRide", desc := "(II)V" } : Jvm.MethodName)) := by decide +kernel
theorem tf_1177 : tables_1[1177]? = some (Jvm.Cond.methodLink "BikeShareLaw" (202 : Nat) ({ cls := "BikeShareLaw", name := "dispatch", desc := "(LBikeShare;III[J)I" } : Jvm.MethodName)) := by decide +kernel
theorem tf_1178 : tables_1[1178]? = some (Jvm.Cond.static ({ cls := "BikeShareLaw", name := "dispatch", desc := "(LBikeShare;III[J)I" } : Jvm.MethodName)) := by decide +kernel
theorem tf_1180 : tables_1[1180]? = some (Jvm.Cond.methodLink "BikeShareLaw" (82 : Nat) ({ cls := "BikeShare", name := "dispatch", desc := "(III)I" } : Jvm.MethodName)) := by decide +kernel
theorem tf_1181 : tables_1[1181]? = some (Jvm.Cond.instanceMethod ({ cls := "BikeShare", name := "dispatch", desc := "(III)I" } : Jvm.MethodName)) := by decide +kernel
theorem tf_1182 : tables_1[1182]? = some (Jvm.Cond.selects "BikeShare" ({ cls := "BikeShare", name := "dispatch", desc := "(III)I" } : Jvm.MethodName) ({ cls := "BikeShare", name := "dispatch", desc := "(III)I" } : Jvm.MethodName)) := by decide +kernel
theorem tf_1183 : tables_1[1183]? = some (Jvm.Cond.code ({ cls := "BikeShare", name := "dispatch", desc := "(III)I" } : Jvm.MethodName) prog_1_method_29_code (5 : Nat) (Option.some Jvm.ClassFile.FieldType.int)) := by decide +kernel
theorem tf_1185 : tables_1[1185]? = some (Jvm.Cond.methodLink "BikeShare" (253 : Nat) ({ cls := "BikeShare$Truck", name := "addOrder", desc := "(II)V" } : Jvm.MethodName)) := by decide +kernel
theorem tf_1186 : tables_1[1186]? = some (Jvm.Cond.instanceMethod ({ cls := "BikeShare$Truck", name := "addOrder", desc := "(II)V" } : Jvm.MethodName)) := by decide +kernel
theorem tf_1187 : tables_1[1187]? = some (Jvm.Cond.selects "BikeShare$Truck" ({ cls := "BikeShare$Truck", name := "addOrder", desc := "(II)V" } : Jvm.MethodName) ({ cls := "BikeShare$Truck", name := "addOrder", desc := "(II)V" } : Jvm.MethodName)) := by decide +kernel
theorem tf_1188 : tables_1[1188]? = some (Jvm.Cond.code ({ cls := "BikeShare$Truck", name := "addOrder", desc := "(II)V" } : Jvm.MethodName) prog_9_method_5_code (3 : Nat) (Option.none : Option Jvm.ClassFile.FieldType)) := by decide +kernel
theorem tf_1189 : tables_1[1189]? = some (Jvm.Cond.methodLink "BikeShare" (256 : Nat) ({ cls := "BikeShare$State", name := "goOn", desc := "(LBikeShare$Truck;)V" } : Jvm.MethodName)) := by decide +kernel
theorem tf_1190 : tables_1[1190]? = some (Jvm.Cond.methodLink "BikeShareLaw" (206 : Nat) ({ cls := "BikeShareLaw", name := "cancel", desc := "(LBikeShare;I[J)I" } : Jvm.MethodName)) := by decide +kernel
theorem tf_1191 : tables_1[1191]? = some (Jvm.Cond.static ({ cls := "BikeShareLaw", name := "cancel", desc := "(LBikeShare;I[J)I" } : Jvm.MethodName)) := by decide +kernel
theorem tf_1193 : tables_1[1193]? = some (Jvm.Cond.methodLink "BikeShareLaw" (86 : Nat) ({ cls := "BikeShare", name := "cancel", desc := "(I)I" } : Jvm.MethodName)) := by decide +kernel
theorem tf_1194 : tables_1[1194]? = some (Jvm.Cond.instanceMethod ({ cls := "BikeShare", name := "cancel", desc := "(I)I" } : Jvm.MethodName)) := by decide +kernel
theorem tf_1195 : tables_1[1195]? = some (Jvm.Cond.selects "BikeShare" ({ cls := "BikeShare", name := "cancel", desc := "(I)I" } : Jvm.MethodName) ({ cls := "BikeShare", name := "cancel", desc := "(I)I" } : Jvm.MethodName)) := by decide +kernel
theorem tf_1196 : tables_1[1196]? = some (Jvm.Cond.code ({ cls := "BikeShare", name := "cancel", desc := "(I)I" } : Jvm.MethodName) prog_1_method_30_code (3 : Nat) (Option.some Jvm.ClassFile.FieldType.int)) := by decide +kernel
theorem tf_1197 : tables_1[1197]? = some (Jvm.Cond.methodLink "BikeShareLaw" (209 : Nat) ({ cls := "BikeShareLaw", name := "breakDock", desc := "(LBikeShare;I[J)I" } : Jvm.MethodName)) := by decide +kernel
theorem tf_1198 : tables_1[1198]? = some (Jvm.Cond.static ({ cls := "BikeShareLaw", name := "breakDock", desc := "(LBikeShare;I[J)I" } : Jvm.MethodName)) := by decide +kernel
theorem tf_1200 : tables_1[1200]? = some (Jvm.Cond.methodLink "BikeShareLaw" (89 : Nat) ({ cls := "BikeShare", name := "breakDock", desc := "(I)I" } : Jvm.MethodName)) := by decide +kernel
theorem tf_1201 : tables_1[1201]? = some (Jvm.Cond.instanceMethod ({ cls := "BikeShare", name := "breakDock", desc := "(I)I" } : Jvm.MethodName)) := by decide +kernel
theorem tf_1202 : tables_1[1202]? = some (Jvm.Cond.selects "BikeShare" ({ cls := "BikeShare", name := "breakDock", desc := "(I)I" } : Jvm.MethodName) ({ cls := "BikeShare", name := "breakDock", desc := "(I)I" } : Jvm.MethodName)) := by decide +kernel
theorem tf_1203 : tables_1[1203]? = some (Jvm.Cond.code ({ cls := "BikeShare", name := "breakDock", desc := "(I)I" } : Jvm.MethodName) prog_1_method_31_code (2 : Nat) (Option.some Jvm.ClassFile.FieldType.int)) := by decide +kernel
theorem tf_1205 : tables_1[1205]? = some (Jvm.Cond.methodLink "BikeShareLaw" (212 : Nat) ({ cls := "BikeShareLaw", name := "repairDock", desc := "(LBikeShare;I[J)I" } : Jvm.MethodName)) := by decide +kernel
theorem tf_1206 : tables_1[1206]? = some (Jvm.Cond.static ({ cls := "BikeShareLaw", name := "repairDock", desc := "(LBikeShare;I[J)I" } : Jvm.MethodName)) := by decide +kernel
theorem tf_1208 : tables_1[1208]? = some (Jvm.Cond.methodLink "BikeShareLaw" (92 : Nat) ({ cls := "BikeShare", name := "repairDock", desc := "(I)I" } : Jvm.MethodName)) := by decide +kernel
theorem tf_1209 : tables_1[1209]? = some (Jvm.Cond.instanceMethod ({ cls := "BikeShare", name := "repairDock", desc := "(I)I" } : Jvm.MethodName)) := by decide +kernel
theorem tf_1210 : tables_1[1210]? = some (Jvm.Cond.selects "BikeShare" ({ cls := "BikeShare", name := "repairDock", desc := "(I)I" } : Jvm.MethodName) ({ cls := "BikeShare", name := "repairDock", desc := "(I)I" } : Jvm.MethodName)) := by decide +kernel
theorem tf_1211 : tables_1[1211]? = some (Jvm.Cond.code ({ cls := "BikeShare", name := "repairDock", desc := "(I)I" } : Jvm.MethodName) prog_1_method_32_code (2 : Nat) (Option.some Jvm.ClassFile.FieldType.int)) := by decide +kernel
theorem tf_1213 : tables_1[1213]? = some (Jvm.Cond.methodLink "BikeShareLaw" (215 : Nat) ({ cls := "BikeShareLaw", name := "addBikes", desc := "(LBikeShare;II[J)I" } : Jvm.MethodName)) := by decide +kernel
theorem tf_1214 : tables_1[1214]? = some (Jvm.Cond.static ({ cls := "BikeShareLaw", name := "addBikes", desc := "(LBikeShare;II[J)I" } : Jvm.MethodName)) := by decide +kernel
theorem tf_1216 : tables_1[1216]? = some (Jvm.Cond.methodLink "BikeShareLaw" (95 : Nat) ({ cls := "BikeShare", name := "addBikes", desc := "(II)I" } : Jvm.MethodName)) := by decide +kernel
theorem tf_1217 : tables_1[1217]? = some (Jvm.Cond.instanceMethod ({ cls := "BikeShare", name := "addBikes", desc := "(II)I" } : Jvm.MethodName)) := by decide +kernel
theorem tf_1218 : tables_1[1218]? = some (Jvm.Cond.selects "BikeShare" ({ cls := "BikeShare", name := "addBikes", desc := "(II)I" } : Jvm.MethodName) ({ cls := "BikeShare", name := "addBikes", desc := "(II)I" } : Jvm.MethodName)) := by decide +kernel
theorem tf_1219 : tables_1[1219]? = some (Jvm.Cond.code ({ cls := "BikeShare", name := "addBikes", desc := "(II)I" } : Jvm.MethodName) prog_1_method_33_code (3 : Nat) (Option.some Jvm.ClassFile.FieldType.int)) := by decide +kernel
theorem tf_1221 : tables_1[1221]? = some (Jvm.Cond.methodLink "BikeShareLaw" (218 : Nat) ({ cls := "BikeShareLaw", name := "removeBikes", desc := "(LBikeShare;II[J)I" } : Jvm.MethodName)) := by decide +kernel
theorem tf_1222 : tables_1[1222]? = some (Jvm.Cond.static ({ cls := "BikeShareLaw", name := "removeBikes", desc := "(LBikeShare;II[J)I" } : Jvm.MethodName)) := by decide +kernel
theorem tf_1224 : tables_1[1224]? = some (Jvm.Cond.methodLink "BikeShareLaw" (98 : Nat) ({ cls := "BikeShare", name := "removeBikes", desc := "(II)I" } : Jvm.MethodName)) := by decide +kernel
theorem tf_1225 : tables_1[1225]? = some (Jvm.Cond.instanceMethod ({ cls := "BikeShare", name := "removeBikes", desc := "(II)I" } : Jvm.MethodName)) := by decide +kernel
theorem tf_1226 : tables_1[1226]? = some (Jvm.Cond.selects "BikeShare" ({ cls := "BikeShare", name := "removeBikes", desc := "(II)I" } : Jvm.MethodName) ({ cls := "BikeShare", name := "removeBikes", desc := "(II)I" } : Jvm.MethodName)) := by decide +kernel
theorem tf_1227 : tables_1[1227]? = some (Jvm.Cond.code ({ cls := "BikeShare", name := "removeBikes", desc := "(II)I" } : Jvm.MethodName) prog_1_method_34_code (3 : Nat) (Option.some Jvm.ClassFile.FieldType.int)) := by decide +kernel
theorem tf_1229 : tables_1[1229]? = some (Jvm.Cond.classLink "BikeShareLaw" (102 : Nat) "BikeShareModel") := by decide +kernel
theorem tf_1230 : tables_1[1230]? = some (Jvm.Cond.instantiable "BikeShareModel" (34 : Nat)) := by decide +kernel
theorem tf_1231 : tables_1[1231]? = some (Jvm.Cond.methodLink "BikeShareLaw" (104 : Nat) ({ cls := "BikeShareModel", name := "<init>", desc := "()V" } : Jvm.MethodName)) := by decide +kernel
theorem tf_1232 : tables_1[1232]? = some (Jvm.Cond.instanceMethod ({ cls := "BikeShareModel", name := "<init>", desc := "()V" } : Jvm.MethodName)) := by decide +kernel
theorem tf_1233 : tables_1[1233]? = some (Jvm.Cond.code ({ cls := "BikeShareModel", name := "<init>", desc := "()V" } : Jvm.MethodName) prog_11_method_1_code (1 : Nat) (Option.none : Option Jvm.ClassFile.FieldType)) := by decide +kernel
theorem tf_1234 : tables_1[1234]? = some (Jvm.Cond.methodLink "BikeShareModel" (1 : Nat) ({ cls := "java/lang/Object", name := "<init>", desc := "()V" } : Jvm.MethodName)) := by decide +kernel
theorem tf_1235 : tables_1[1235]? = some (Jvm.Cond.constant "BikeShareModel" (35 : Nat) (32770 : Int32)) := by decide +kernel
theorem tf_1236 : tables_1[1236]? = some (Jvm.Cond.methodLink "BikeShareModel" (70 : Nat) ({ cls := "BikeShareModel", name := "setDefaults", desc := "()V" } : Jvm.MethodName)) := by decide +kernel
theorem tf_1238 : tables_1[1238]? = some (Jvm.Cond.instanceMethod ({ cls := "BikeShareModel", name := "setDefaults", desc := "()V" } : Jvm.MethodName)) := by decide +kernel
theorem tf_1239 : tables_1[1239]? = some (Jvm.Cond.code ({ cls := "BikeShareModel", name := "setDefaults", desc := "()V" } : Jvm.MethodName) prog_11_method_14_code (2 : Nat) (Option.none : Option Jvm.ClassFile.FieldType)) := by decide +kernel
theorem tf_1240 : tables_1[1240]? = some (Jvm.Cond.methodLink "BikeShareModel" (73 : Nat) ({ cls := "BikeShareModel", name := "takeDraft", desc := "()V" } : Jvm.MethodName)) := by decide +kernel
theorem tf_1242 : tables_1[1242]? = some (Jvm.Cond.instanceMethod ({ cls := "BikeShareModel", name := "takeDraft", desc := "()V" } : Jvm.MethodName)) := by decide +kernel
theorem tf_1243 : tables_1[1243]? = some (Jvm.Cond.code ({ cls := "BikeShareModel", name := "takeDraft", desc := "()V" } : Jvm.MethodName) prog_11_method_15_code (2 : Nat) (Option.none : Option Jvm.ClassFile.FieldType)) := by decide +kernel
theorem tf_1244 : tables_1[1244]? = some (Jvm.Cond.methodLink "BikeShareModel" (132 : Nat) ({ cls := "BikeShareModel", name := "put", desc := "(III)V" } : Jvm.MethodName)) := by decide +kernel
theorem tf_1246 : tables_1[1246]? = some (Jvm.Cond.instanceMethod ({ cls := "BikeShareModel", name := "put", desc := "(III)V" } : Jvm.MethodName)) := by decide +kernel
theorem tf_1247 : tables_1[1247]? = some (Jvm.Cond.code ({ cls := "BikeShareModel", name := "put", desc := "(III)V" } : Jvm.MethodName) prog_11_method_37_code (4 : Nat) (Option.none : Option Jvm.ClassFile.FieldType)) := by decide +kernel
theorem tf_1248 : tables_1[1248]? = some (Jvm.Cond.fieldLink "BikeShareModel" (76 : Nat) "BikeShareModel" "thrown" "I") := by decide +kernel
theorem tf_1249 : tables_1[1249]? = some (Jvm.Cond.fieldLink "BikeShareModel" (7 : Nat) "BikeShareModel" "buffer" "[B") := by decide +kernel
theorem tf_1250 : tables_1[1250]? = some (Jvm.Cond.fieldLink "BikeShareModel" (80 : Nat) "BikeShareModel" "length" "I") := by decide +kernel
theorem tf_1251 : tables_1[1251]? = some (Jvm.Cond.fieldLink "BikeShareModel" (87 : Nat) "BikeShareModel" "textLength" "I") := by decide +kernel
theorem tf_1252 : tables_1[1252]? = some (Jvm.Cond.fieldLink "BikeShareModel" (93 : Nat) "BikeShareModel" "tokenStart" "I") := by decide +kernel
theorem tf_1253 : tables_1[1253]? = some (Jvm.Cond.fieldLink "BikeShareModel" (90 : Nat) "BikeShareModel" "tokenEnd" "I") := by decide +kernel
theorem tf_1254 : tables_1[1254]? = some (Jvm.Cond.fieldLink "BikeShareModel" (100 : Nat) "BikeShareModel" "token" "I") := by decide +kernel
theorem tf_1255 : tables_1[1255]? = some (Jvm.Cond.fieldLink "BikeShareModel" (107 : Nat) "BikeShareModel" "number" "I") := by decide +kernel
theorem tf_1256 : tables_1[1256]? = some (Jvm.Cond.fieldLink "BikeShareModel" (110 : Nat) "BikeShareModel" "error" "I") := by decide +kernel
theorem tf_1257 : tables_1[1257]? = some (Jvm.Cond.fieldLink "BikeShareModel" (113 : Nat) "BikeShareModel" "errorOffset" "I") := by decide +kernel
theorem tf_1258 : tables_1[1258]? = some (Jvm.Cond.fieldLink "BikeShareModel" (13 : Nat) "BikeShareModel" "draft" "[I") := by decide +kernel
theorem tf_1259 : tables_1[1259]? = some (Jvm.Cond.fieldLink "BikeShareModel" (17 : Nat) "BikeShareModel" "city" "[I") := by decide +kernel
theorem tf_1260 : tables_1[1260]? = some (Jvm.Cond.fieldLink "BikeShareModel" (20 : Nat) "BikeShareModel" "draftCode" "[I") := by decide +kernel
theorem tf_1261 : tables_1[1261]? = some (Jvm.Cond.fieldLink "BikeShareModel" (23 : Nat) "BikeShareModel" "code" "[I") := by decide +kernel
theorem tf_1262 : tables_1[1262]? = some (Jvm.Cond.fieldLink "BikeShareModel" (129 : Nat) "BikeShareModel" "came" "I") := by decide +kernel
theorem tf_1263 : tables_1[1263]? = some (Jvm.Cond.fieldLink "BikeShareModel" (26 : Nat) "BikeShareModel" "signs" "[I") := by decide +kernel
theorem tf_1264 : tables_1[1264]? = some (Jvm.Cond.fieldLink "BikeShareModel" (181 : Nat) "BikeShareModel" "signCount" "I") := by decide +kernel
theorem tf_1265 : tables_1[1265]? = some (Jvm.Cond.fieldLink "BikeShareModel" (198 : Nat) "BikeShareModel" "open" "I") := by decide +kernel
theorem tf_1266 : tables_1[1266]? = some (Jvm.Cond.fieldLink "BikeShareModel" (29 : Nat) "BikeShareModel" "stack" "[I") := by decide +kernel
theorem tf_1267 : tables_1[1267]? = some (Jvm.Cond.fieldLink "BikeShareModel" (32 : Nat) "BikeShareModel" "state" "[I") := by decide +kernel
theorem tf_1268 : tables_1[1268]? = some (Jvm.Cond.fieldLink "BikeShareModel" (36 : Nat) "BikeShareModel" "history" "[I") := by decide +kernel
theorem tf_1269 : tables_1[1269]? = some (Jvm.Cond.fieldLink "BikeShareModel" (136 : Nat) "BikeShareModel" "depth" "I") := by decide +kernel
theorem tf_1270 : tables_1[1270]? = some (Jvm.Cond.fieldLink "BikeShareModel" (39 : Nat) "BikeShareModel" "slots" "[I") := by decide +kernel
theorem tf_1271 : tables_1[1271]? = some (Jvm.Cond.fieldLink "BikeShareModel" (42 : Nat) "BikeShareModel" "isSaved" "[Z") := by decide +kernel
theorem tf_1272 : tables_1[1272]? = some (Jvm.Cond.fieldLink "BikeShareModel" (46 : Nat) "BikeShareModel" "aside" "[I") := by decide +kernel
theorem tf_1273 : tables_1[1273]? = some (Jvm.Cond.fieldLink "BikeShareModel" (49 : Nat) "BikeShareModel" "tried" "[I") := by decide +kernel
theorem tf_1274 : tables_1[1274]? = some (Jvm.Cond.fieldLink "BikeShareModel" (52 : Nat) "BikeShareModel" "best" "[I") := by decide +kernel
theorem tf_1275 : tables_1[1275]? = some (Jvm.Cond.fieldLink "BikeShareModel" (295 : Nat) "BikeShareModel" "bestMinutes" "I") := by decide +kernel
theorem tf_1276 : tables_1[1276]? = some (Jvm.Cond.fieldLink "BikeShareModel" (298 : Nat) "BikeShareModel" "bestStops" "I") := by decide +kernel
theorem tf_1277 : tables_1[1277]? = some (Jvm.Cond.fieldLink "BikeShareModel" (55 : Nat) "BikeShareModel" "place" "[I") := by decide +kernel
theorem tf_1278 : tables_1[1278]? = some (Jvm.Cond.fieldLink "BikeShareModel" (58 : Nat) "BikeShareModel" "visited" "[I") := by decide +kernel
theorem tf_1279 : tables_1[1279]? = some (Jvm.Cond.fieldLink "BikeShareModel" (61 : Nat) "BikeShareModel" "minutesSo" "[I") := by decide +kernel
theorem tf_1280 : tables_1[1280]? = some (Jvm.Cond.fieldLink "BikeShareModel" (64 : Nat) "BikeShareModel" "loadsSo" "[I") := by decide +kernel
theorem tf_1281 : tables_1[1281]? = some (Jvm.Cond.fieldLink "BikeShareModel" (67 : Nat) "BikeShareModel" "nextTry" "[I") := by decide +kernel
theorem tf_1351 : tables_1[1351]? = some (Jvm.Cond.methodLink "BikeShareLaw" (116 : Nat) ({ cls := "BikeShareModel", name := "thrown", desc := "()I" } : Jvm.MethodName)) := by decide +kernel
theorem tf_1352 : tables_1[1352]? = some (Jvm.Cond.instanceMethod ({ cls := "BikeShareModel", name := "thrown", desc := "()I" } : Jvm.MethodName)) := by decide +kernel
theorem tf_1353 : tables_1[1353]? = some (Jvm.Cond.selects "BikeShareModel" ({ cls := "BikeShareModel", name := "thrown", desc := "()I" } : Jvm.MethodName) ({ cls := "BikeShareModel", name := "thrown", desc := "()I" } : Jvm.MethodName)) := by decide +kernel
theorem tf_1354 : tables_1[1354]? = some (Jvm.Cond.code ({ cls := "BikeShareModel", name := "thrown", desc := "()I" } : Jvm.MethodName) prog_11_method_2_code (1 : Nat) (Option.some Jvm.ClassFile.FieldType.int)) := by decide +kernel
theorem tf_1355 : tables_1[1355]? = some (Jvm.Cond.methodLink "BikeShareLaw" (109 : Nat) ({ cls := "BikeShareModel", name := "append", desc := "(IIIII)I" } : Jvm.MethodName)) := by decide +kernel
theorem tf_1356 : tables_1[1356]? = some (Jvm.Cond.instanceMethod ({ cls := "BikeShareModel", name := "append", desc := "(IIIII)I" } : Jvm.MethodName)) := by decide +kernel
theorem tf_1357 : tables_1[1357]? = some (Jvm.Cond.selects "BikeShareModel" ({ cls := "BikeShareModel", name := "append", desc := "(IIIII)I" } : Jvm.MethodName) ({ cls := "BikeShareModel", name := "append", desc := "(IIIII)I" } : Jvm.MethodName)) := by decide +kernel
theorem tf_1358 : tables_1[1358]? = some (Jvm.Cond.code ({ cls := "BikeShareModel", name := "append", desc := "(IIIII)I" } : Jvm.MethodName) prog_11_method_8_code (6 : Nat) (Option.some Jvm.ClassFile.FieldType.int)) := by decide +kernel
theorem tf_1359 : tables_1[1359]? = some (Jvm.Cond.methodLink "BikeShareModel" (83 : Nat) ({ cls := "BikeShareModel", name := "appendInt", desc := "(I)V" } : Jvm.MethodName)) := by decide +kernel
theorem tf_1361 : tables_1[1361]? = some (Jvm.Cond.instanceMethod ({ cls := "BikeShareModel", name := "appendInt", desc := "(I)V" } : Jvm.MethodName)) := by decide +kernel
theorem tf_1362 : tables_1[1362]? = some (Jvm.Cond.code ({ cls := "BikeShareModel", name := "appendInt", desc := "(I)V" } : Jvm.MethodName) prog_11_method_7_code (3 : Nat) (Option.none : Option Jvm.ClassFile.FieldType)) := by decide +kernel
theorem tf_1363 : tables_1[1363]? = some (Jvm.Cond.methodLink "BikeShareLaw" (115 : Nat) ({ cls := "BikeShareModel", name := "parse", desc := "(I)I" } : Jvm.MethodName)) := by decide +kernel
theorem tf_1364 : tables_1[1364]? = some (Jvm.Cond.instanceMethod ({ cls := "BikeShareModel", name := "parse", desc := "(I)I" } : Jvm.MethodName)) := by decide +kernel
theorem tf_1365 : tables_1[1365]? = some (Jvm.Cond.selects "BikeShareModel" ({ cls := "BikeShareModel", name := "parse", desc := "(I)I" } : Jvm.MethodName) ({ cls := "BikeShareModel", name := "parse", desc := "(I)I" } : Jvm.MethodName)) := by decide +kernel
theorem tf_1366 : tables_1[1366]? = some (Jvm.Cond.code ({ cls := "BikeShareModel", name := "parse", desc := "(I)I" } : Jvm.MethodName) prog_11_method_30_code (2 : Nat) (Option.some Jvm.ClassFile.FieldType.int)) := by decide +kernel
theorem tf_1367 : tables_1[1367]? = some (Jvm.Cond.methodLink "BikeShareModel" (103 : Nat) ({ cls := "BikeShareModel", name := "within", desc := "(III)Z" } : Jvm.MethodName)) := by decide +kernel
theorem tf_1368 : tables_1[1368]? = some (Jvm.Cond.static ({ cls := "BikeShareModel", name := "within", desc := "(III)Z" } : Jvm.MethodName)) := by decide +kernel
theorem tf_1369 : tables_1[1369]? = some (Jvm.Cond.code ({ cls := "BikeShareModel", name := "within", desc := "(III)Z" } : Jvm.MethodName) prog_11_method_3_code (3 : Nat) (Option.some Jvm.ClassFile.FieldType.boolean)) := by decide +kernel
theorem tf_1370 : tables_1[1370]? = some (Jvm.Cond.methodLink "BikeShareModel" (222 : Nat) ({ cls := "BikeShareModel", name := "fail", desc := "(I)I" } : Jvm.MethodName)) := by decide +kernel
theorem tf_1372 : tables_1[1372]? = some (Jvm.Cond.instanceMethod ({ cls := "BikeShareModel", name := "fail", desc := "(I)I" } : Jvm.MethodName)) := by decide +kernel
theorem tf_1373 : tables_1[1373]? = some (Jvm.Cond.code ({ cls := "BikeShareModel", name := "fail", desc := "(I)I" } : Jvm.MethodName) prog_11_method_5_code (2 : Nat) (Option.some Jvm.ClassFile.FieldType.int)) := by decide +kernel
theorem tf_1374 : tables_1[1374]? = some (Jvm.Cond.methodLink "BikeShareModel" (126 : Nat) ({ cls := "BikeShareModel", name := "nextToken", desc := "()V" } : Jvm.MethodName)) := by decide +kernel
theorem tf_1376 : tables_1[1376]? = some (Jvm.Cond.instanceMethod ({ cls := "BikeShareModel", name := "nextToken", desc := "()V" } : Jvm.MethodName)) := by decide +kernel
theorem tf_1377 : tables_1[1377]? = some (Jvm.Cond.code ({ cls := "BikeShareModel", name := "nextToken", desc := "()V" } : Jvm.MethodName) prog_11_method_10_code (2 : Nat) (Option.none : Option Jvm.ClassFile.FieldType)) := by decide +kernel
theorem tf_1378 : tables_1[1378]? = some (Jvm.Cond.methodLink "BikeShareModel" (96 : Nat) ({ cls := "BikeShareModel", name := "byteAt", desc := "(I)I" } : Jvm.MethodName)) := by decide +kernel
theorem tf_1380 : tables_1[1380]? = some (Jvm.Cond.instanceMethod ({ cls := "BikeShareModel", name := "byteAt", desc := "(I)I" } : Jvm.MethodName)) := by decide +kernel
theorem tf_1381 : tables_1[1381]? = some (Jvm.Cond.code ({ cls := "BikeShareModel", name := "byteAt", desc := "(I)I" } : Jvm.MethodName) prog_11_method_9_code (2 : Nat) (Option.some Jvm.ClassFile.FieldType.int)) := by decide +kernel
theorem tf_1382 : tables_1[1382]? = some (Jvm.Cond.methodLink "BikeShareModel" (225 : Nat) ({ cls := "BikeShareModel", name := "statement", desc := "()V" } : Jvm.MethodName)) := by decide +kernel
theorem tf_1384 : tables_1[1384]? = some (Jvm.Cond.instanceMethod ({ cls := "BikeShareModel", name := "statement", desc := "()V" } : Jvm.MethodName)) := by decide +kernel
theorem tf_1385 : tables_1[1385]? = some (Jvm.Cond.code ({ cls := "BikeShareModel", name := "statement", desc := "()V" } : Jvm.MethodName) prog_11_method_21_code (3 : Nat) (Option.none : Option Jvm.ClassFile.FieldType)) := by decide +kernel
theorem tf_1386 : tables_1[1386]? = some (Jvm.Cond.methodLink "BikeShareModel" (147 : Nat) ({ cls := "BikeShareModel", name := "wordHere", desc := "()J" } : Jvm.MethodName)) := by decide +kernel
theorem tf_1388 : tables_1[1388]? = some (Jvm.Cond.instanceMethod ({ cls := "BikeShareModel", name := "wordHere", desc := "()J" } : Jvm.MethodName)) := by decide +kernel
theorem tf_1389 : tables_1[1389]? = some (Jvm.Cond.code ({ cls := "BikeShareModel", name := "wordHere", desc := "()J" } : Jvm.MethodName) prog_11_method_12_code (4 : Nat) (Option.some Jvm.ClassFile.FieldType.long)) := by decide +kernel
theorem tf_1390 : tables_1[1390]? = some (Jvm.Cond.constantLong "BikeShareModel" (116 : Nat) (32 : Int64)) := by decide +kernel
theorem tf_1391 : tables_1[1391]? = some (Jvm.Cond.constantLong "BikeShareModel" (118 : Nat) (96 : Int64)) := by decide +kernel
theorem tf_1392 : tables_1[1392]? = some (Jvm.Cond.constantLong "BikeShareModel" (120 : Nat) (-1 : Int64)) := by decide +kernel
theorem tf_1393 : tables_1[1393]? = some (Jvm.Cond.constantLong "BikeShareModel" (151 : Nat) (21073896942 : Int64)) := by decide +kernel
theorem tf_1394 : tables_1[1394]? = some (Jvm.Cond.methodLink "BikeShareModel" (153 : Nat) ({ cls := "BikeShareModel", name := "station", desc := "()V" } : Jvm.MethodName)) := by decide +kernel
theorem tf_1396 : tables_1[1396]? = some (Jvm.Cond.instanceMethod ({ cls := "BikeShareModel", name := "station", desc := "()V" } : Jvm.MethodName)) := by decide +kernel
theorem tf_1397 : tables_1[1397]? = some (Jvm.Cond.code ({ cls := "BikeShareModel", name := "station", desc := "()V" } : Jvm.MethodName) prog_11_method_18_code (2 : Nat) (Option.none : Option Jvm.ClassFile.FieldType)) := by decide +kernel
theorem tf_1398 : tables_1[1398]? = some (Jvm.Cond.methodLink "BikeShareModel" (139 : Nat) ({ cls := "BikeShareModel", name := "begins", desc := "(II)Z" } : Jvm.MethodName)) := by decide +kernel
theorem tf_1400 : tables_1[1400]? = some (Jvm.Cond.instanceMethod ({ cls := "BikeShareModel", name := "begins", desc := "(II)Z" } : Jvm.MethodName)) := by decide +kernel
theorem tf_1401 : tables_1[1401]? = some (Jvm.Cond.code ({ cls := "BikeShareModel", name := "begins", desc := "(II)Z" } : Jvm.MethodName) prog_11_method_16_code (3 : Nat) (Option.some Jvm.ClassFile.FieldType.boolean)) := by decide +kernel
theorem tf_1402 : tables_1[1402]? = some (Jvm.Cond.methodLink "BikeShareModel" (122 : Nat) ({ cls := "BikeShareModel", name := "must", desc := "(ZI)Z" } : Jvm.MethodName)) := by decide +kernel
theorem tf_1404 : tables_1[1404]? = some (Jvm.Cond.instanceMethod ({ cls := "BikeShareModel", name := "must", desc := "(ZI)Z" } : Jvm.MethodName)) := by decide +kernel
theorem tf_1405 : tables_1[1405]? = some (Jvm.Cond.code ({ cls := "BikeShareModel", name := "must", desc := "(ZI)Z" } : Jvm.MethodName) prog_11_method_11_code (3 : Nat) (Option.some Jvm.ClassFile.FieldType.boolean)) := by decide +kernel
theorem tf_1406 : tables_1[1406]? = some (Jvm.Cond.methodLink "BikeShareModel" (143 : Nat) ({ cls := "BikeShareModel", name := "read", desc := "(II)I" } : Jvm.MethodName)) := by decide +kernel
theorem tf_1408 : tables_1[1408]? = some (Jvm.Cond.instanceMethod ({ cls := "BikeShareModel", name := "read", desc := "(II)I" } : Jvm.MethodName)) := by decide +kernel
theorem tf_1409 : tables_1[1409]? = some (Jvm.Cond.code ({ cls := "BikeShareModel", name := "read", desc := "(II)I" } : Jvm.MethodName) prog_11_method_13_code (4 : Nat) (Option.some Jvm.ClassFile.FieldType.int)) := by decide +kernel
theorem tf_1410 : tables_1[1410]? = some (Jvm.Cond.constantLong "BikeShareModel" (156 : Nat) (21582955 : Int64)) := by decide +kernel
theorem tf_1411 : tables_1[1411]? = some (Jvm.Cond.methodLink "BikeShareModel" (158 : Nat) ({ cls := "BikeShareModel", name := "truckLine", desc := "()V" } : Jvm.MethodName)) := by decide +kernel
theorem tf_1413 : tables_1[1413]? = some (Jvm.Cond.instanceMethod ({ cls := "BikeShareModel", name := "truckLine", desc := "()V" } : Jvm.MethodName)) := by decide +kernel
theorem tf_1414 : tables_1[1414]? = some (Jvm.Cond.code ({ cls := "BikeShareModel", name := "truckLine", desc := "()V" } : Jvm.MethodName) prog_11_method_19_code (2 : Nat) (Option.none : Option Jvm.ClassFile.FieldType)) := by decide +kernel
theorem tf_1415 : tables_1[1415]? = some (Jvm.Cond.constantLong "BikeShareModel" (161 : Nat) (674096 : Int64)) := by decide +kernel
theorem tf_1416 : tables_1[1416]? = some (Jvm.Cond.methodLink "BikeShareModel" (163 : Nat) ({ cls := "BikeShareModel", name := "tripLine", desc := "()V" } : Jvm.MethodName)) := by decide +kernel
theorem tf_1418 : tables_1[1418]? = some (Jvm.Cond.instanceMethod ({ cls := "BikeShareModel", name := "tripLine", desc := "()V" } : Jvm.MethodName)) := by decide +kernel
theorem tf_1419 : tables_1[1419]? = some (Jvm.Cond.code ({ cls := "BikeShareModel", name := "tripLine", desc := "()V" } : Jvm.MethodName) prog_11_method_20_code (2 : Nat) (Option.none : Option Jvm.ClassFile.FieldType)) := by decide +kernel
theorem tf_1420 : tables_1[1420]? = some (Jvm.Cond.constantLong "BikeShareModel" (166 : Nat) (525413 : Int64)) := by decide +kernel
theorem tf_1421 : tables_1[1421]? = some (Jvm.Cond.methodLink "BikeShareModel" (168 : Nat) ({ cls := "BikeShareModel", name := "once", desc := "(I)Z" } : Jvm.MethodName)) := by decide +kernel
theorem tf_1423 : tables_1[1423]? = some (Jvm.Cond.instanceMethod ({ cls := "BikeShareModel", name := "once", desc := "(I)Z" } : Jvm.MethodName)) := by decide +kernel
theorem tf_1424 : tables_1[1424]? = some (Jvm.Cond.code ({ cls := "BikeShareModel", name := "once", desc := "(I)Z" } : Jvm.MethodName) prog_11_method_17_code (2 : Nat) (Option.some Jvm.ClassFile.FieldType.boolean)) := by decide +kernel
theorem tf_1425 : tables_1[1425]? = some (Jvm.Cond.constantLong "BikeShareModel" (172 : Nat) (2193668197 : Int64)) := by decide +kernel
theorem tf_1426 : tables_1[1426]? = some (Jvm.Cond.constantLong "BikeShareModel" (174 : Nat) (2603699 : Int64)) := by decide +kernel
theorem tf_1427 : tables_1[1427]? = some (Jvm.Cond.constantLong "BikeShareModel" (176 : Nat) (198213 : Int64)) := by decide +kernel
theorem tf_1428 : tables_1[1428]? = some (Jvm.Cond.methodLink "BikeShareModel" (178 : Nat) ({ cls := "BikeShareModel", name := "fare", desc := "()V" } : Jvm.MethodName)) := by decide +kernel
theorem tf_1430 : tables_1[1430]? = some (Jvm.Cond.instanceMethod ({ cls := "BikeShareModel", name := "fare", desc := "()V" } : Jvm.MethodName)) := by decide +kernel
theorem tf_1431 : tables_1[1431]? = some (Jvm.Cond.code ({ cls := "BikeShareModel", name := "fare", desc := "()V" } : Jvm.MethodName) prog_11_method_27_code (3 : Nat) (Option.none : Option Jvm.ClassFile.FieldType)) := by decide +kernel
theorem tf_1432 : tables_1[1432]? = some (Jvm.Cond.methodLink "BikeShareModel" (205 : Nat) ({ cls := "BikeShareModel", name := "factor", desc := "()Z" } : Jvm.MethodName)) := by decide +kernel
theorem tf_1434 : tables_1[1434]? = some (Jvm.Cond.instanceMethod ({ cls := "BikeShareModel", name := "factor", desc := "()Z" } : Jvm.MethodName)) := by decide +kernel
theorem tf_1435 : tables_1[1435]? = some (Jvm.Cond.code ({ cls := "BikeShareModel", name := "factor", desc := "()Z" } : Jvm.MethodName) prog_11_method_26_code (1 : Nat) (Option.some Jvm.ClassFile.FieldType.boolean)) := by decide +kernel
theorem tf_1436 : tables_1[1436]? = some (Jvm.Cond.methodLink "BikeShareModel" (187 : Nat) ({ cls := "BikeShareModel", name := "emit", desc := "(I)V" } : Jvm.MethodName)) := by decide +kernel
theorem tf_1438 : tables_1[1438]? = some (Jvm.Cond.instanceMethod ({ cls := "BikeShareModel", name := "emit", desc := "(I)V" } : Jvm.MethodName)) := by decide +kernel
theorem tf_1439 : tables_1[1439]? = some (Jvm.Cond.code ({ cls := "BikeShareModel", name := "emit", desc := "(I)V" } : Jvm.MethodName) prog_11_method_22_code (2 : Nat) (Option.none : Option Jvm.ClassFile.FieldType)) := by decide +kernel
theorem tf_1440 : tables_1[1440]? = some (Jvm.Cond.methodLink "BikeShareModel" (201 : Nat) ({ cls := "BikeShareModel", name := "fact", desc := "()I" } : Jvm.MethodName)) := by decide +kernel
theorem tf_1442 : tables_1[1442]? = some (Jvm.Cond.instanceMethod ({ cls := "BikeShareModel", name := "fact", desc := "()I" } : Jvm.MethodName)) := by decide +kernel
theorem tf_1443 : tables_1[1443]? = some (Jvm.Cond.code ({ cls := "BikeShareModel", name := "fact", desc := "()I" } : Jvm.MethodName) prog_11_method_25_code (3 : Nat) (Option.some Jvm.ClassFile.FieldType.int)) := by decide +kernel
theorem tf_1444 : tables_1[1444]? = some (Jvm.Cond.constantLong "BikeShareModel" (190 : Nat) (14276022451 : Int64)) := by decide +kernel
theorem tf_1445 : tables_1[1445]? = some (Jvm.Cond.constantLong "BikeShareModel" (192 : Nat) (2403507 : Int64)) := by decide +kernel
theorem tf_1446 : tables_1[1446]? = some (Jvm.Cond.constantLong "BikeShareModel" (194 : Nat) (4689267 : Int64)) := by decide +kernel
theorem tf_1447 : tables_1[1447]? = some (Jvm.Cond.constantLong "BikeShareModel" (196 : Nat) (278194 : Int64)) := by decide +kernel
theorem tf_1448 : tables_1[1448]? = some (Jvm.Cond.methodLink "BikeShareModel" (184 : Nat) ({ cls := "BikeShareModel", name := "rank", desc := "(I)I" } : Jvm.MethodName)) := by decide +kernel
theorem tf_1449 : tables_1[1449]? = some (Jvm.Cond.static ({ cls := "BikeShareModel", name := "rank", desc := "(I)I" } : Jvm.MethodName)) := by decide +kernel
theorem tf_1450 : tables_1[1450]? = some (Jvm.Cond.code ({ cls := "BikeShareModel", name := "rank", desc := "(I)I" } : Jvm.MethodName) prog_11_method_23_code (1 : Nat) (Option.some Jvm.ClassFile.FieldType.int)) := by decide +kernel
theorem tf_1451 : tables_1[1451]? = some (Jvm.Cond.methodLink "BikeShareModel" (209 : Nat) ({ cls := "BikeShareModel", name := "settle", desc := "(I)V" } : Jvm.MethodName)) := by decide +kernel
theorem tf_1453 : tables_1[1453]? = some (Jvm.Cond.instanceMethod ({ cls := "BikeShareModel", name := "settle", desc := "(I)V" } : Jvm.MethodName)) := by decide +kernel
theorem tf_1454 : tables_1[1454]? = some (Jvm.Cond.code ({ cls := "BikeShareModel", name := "settle", desc := "(I)V" } : Jvm.MethodName) prog_11_method_24_code (2 : Nat) (Option.none : Option Jvm.ClassFile.FieldType)) := by decide +kernel
theorem tf_1455 : tables_1[1455]? = some (Jvm.Cond.methodLink "BikeShareLaw" (122 : Nat) ({ cls := "BikeShareModel", name := "size", desc := "(I)I" } : Jvm.MethodName)) := by decide +kernel
theorem tf_1456 : tables_1[1456]? = some (Jvm.Cond.instanceMethod ({ cls := "BikeShareModel", name := "size", desc := "(I)I" } : Jvm.MethodName)) := by decide +kernel
theorem tf_1457 : tables_1[1457]? = some (Jvm.Cond.selects "BikeShareModel" ({ cls := "BikeShareModel", name := "size", desc := "(I)I" } : Jvm.MethodName) ({ cls := "BikeShareModel", name := "size", desc := "(I)I" } : Jvm.MethodName)) := by decide +kernel
theorem tf_1458 : tables_1[1458]? = some (Jvm.Cond.code ({ cls := "BikeShareModel", name := "size", desc := "(I)I" } : Jvm.MethodName) prog_11_method_45_code (2 : Nat) (Option.some Jvm.ClassFile.FieldType.int)) := by decide +kernel
theorem tf_1459 : tables_1[1459]? = some (Jvm.Cond.methodLink "BikeShareLaw" (126 : Nat) ({ cls := "BikeShareModel", name := "time", desc := "()I" } : Jvm.MethodName)) := by decide +kernel
theorem tf_1460 : tables_1[1460]? = some (Jvm.Cond.instanceMethod ({ cls := "BikeShareModel", name := "time", desc := "()I" } : Jvm.MethodName)) := by decide +kernel
theorem tf_1461 : tables_1[1461]? = some (Jvm.Cond.selects "BikeShareModel" ({ cls := "BikeShareModel", name := "time", desc := "()I" } : Jvm.MethodName) ({ cls := "BikeShareModel", name := "time", desc := "()I" } : Jvm.MethodName)) := by decide +kernel
theorem tf_1462 : tables_1[1462]? = some (Jvm.Cond.code ({ cls := "BikeShareModel", name := "time", desc := "()I" } : Jvm.MethodName) prog_11_method_46_code (1 : Nat) (Option.some Jvm.ClassFile.FieldType.int)) := by decide +kernel
theorem tf_1463 : tables_1[1463]? = some (Jvm.Cond.methodLink "BikeShareModel" (240 : Nat) ({ cls := "BikeShareModel", name := "told", desc := "(I)I" } : Jvm.MethodName)) := by decide +kernel
theorem tf_1465 : tables_1[1465]? = some (Jvm.Cond.instanceMethod ({ cls := "BikeShareModel", name := "told", desc := "(I)I" } : Jvm.MethodName)) := by decide +kernel
theorem tf_1466 : tables_1[1466]? = some (Jvm.Cond.code ({ cls := "BikeShareModel", name := "told", desc := "(I)I" } : Jvm.MethodName) prog_11_method_6_code (2 : Nat) (Option.some Jvm.ClassFile.FieldType.int)) := by decide +kernel
theorem tf_1467 : tables_1[1467]? = some (Jvm.Cond.methodLink "BikeShareLaw" (130 : Nat) ({ cls := "BikeShareModel", name := "fleet", desc := "()I" } : Jvm.MethodName)) := by decide +kernel
theorem tf_1468 : tables_1[1468]? = some (Jvm.Cond.instanceMethod ({ cls := "BikeShareModel", name := "fleet", desc := "()I" } : Jvm.MethodName)) := by decide +kernel
theorem tf_1469 : tables_1[1469]? = some (Jvm.Cond.selects "BikeShareModel" ({ cls := "BikeShareModel", name := "fleet", desc := "()I" } : Jvm.MethodName) ({ cls := "BikeShareModel", name := "fleet", desc := "()I" } : Jvm.MethodName)) := by decide +kernel
theorem tf_1470 : tables_1[1470]? = some (Jvm.Cond.code ({ cls := "BikeShareModel", name := "fleet", desc := "()I" } : Jvm.MethodName) prog_11_method_49_code (1 : Nat) (Option.some Jvm.ClassFile.FieldType.int)) := by decide +kernel
theorem tf_1471 : tables_1[1471]? = some (Jvm.Cond.methodLink "BikeShareModel" (249 : Nat) ({ cls := "BikeShareModel", name := "all", desc := "()I" } : Jvm.MethodName)) := by decide +kernel
theorem tf_1473 : tables_1[1473]? = some (Jvm.Cond.instanceMethod ({ cls := "BikeShareModel", name := "all", desc := "()I" } : Jvm.MethodName)) := by decide +kernel
theorem tf_1474 : tables_1[1474]? = some (Jvm.Cond.code ({ cls := "BikeShareModel", name := "all", desc := "()I" } : Jvm.MethodName) prog_11_method_48_code (3 : Nat) (Option.some Jvm.ClassFile.FieldType.int)) := by decide +kernel
theorem tf_1475 : tables_1[1475]? = some (Jvm.Cond.methodLink "BikeShareModel" (246 : Nat) ({ cls := "BikeShareModel", name := "loads", desc := "()I" } : Jvm.MethodName)) := by decide +kernel
theorem tf_1477 : tables_1[1477]? = some (Jvm.Cond.instanceMethod ({ cls := "BikeShareModel", name := "loads", desc := "()I" } : Jvm.MethodName)) := by decide +kernel
theorem tf_1478 : tables_1[1478]? = some (Jvm.Cond.code ({ cls := "BikeShareModel", name := "loads", desc := "()I" } : Jvm.MethodName) prog_11_method_47_code (3 : Nat) (Option.some Jvm.ClassFile.FieldType.int)) := by decide +kernel
theorem tf_1479 : tables_1[1479]? = some (Jvm.Cond.methodLink "BikeShareModel" (243 : Nat) ({ cls := "BikeShareModel", name := "of", desc := "(II)I" } : Jvm.MethodName)) := by decide +kernel
theorem tf_1481 : tables_1[1481]? = some (Jvm.Cond.instanceMethod ({ cls := "BikeShareModel", name := "of", desc := "(II)I" } : Jvm.MethodName)) := by decide +kernel
theorem tf_1482 : tables_1[1482]? = some (Jvm.Cond.code ({ cls := "BikeShareModel", name := "of", desc := "(II)I" } : Jvm.MethodName) prog_11_method_36_code (3 : Nat) (Option.some Jvm.ClassFile.FieldType.int)) := by decide +kernel
theorem tf_1483 : tables_1[1483]? = some (Jvm.Cond.methodLink "BikeShareLaw" (133 : Nat) ({ cls := "BikeShareModel", name := "bikes", desc := "(I)I" } : Jvm.MethodName)) := by decide +kernel
theorem tf_1484 : tables_1[1484]? = some (Jvm.Cond.instanceMethod ({ cls := "BikeShareModel", name := "bikes", desc := "(I)I" } : Jvm.MethodName)) := by decide +kernel
theorem tf_1485 : tables_1[1485]? = some (Jvm.Cond.selects "BikeShareModel" ({ cls := "BikeShareModel", name := "bikes", desc := "(I)I" } : Jvm.MethodName) ({ cls := "BikeShareModel", name := "bikes", desc := "(I)I" } : Jvm.MethodName)) := by decide +kernel
theorem tf_1486 : tables_1[1486]? = some (Jvm.Cond.code ({ cls := "BikeShareModel", name := "bikes", desc := "(I)I" } : Jvm.MethodName) prog_11_method_50_code (2 : Nat) (Option.some Jvm.ClassFile.FieldType.int)) := by decide +kernel
theorem tf_1487 : tables_1[1487]? = some (Jvm.Cond.methodLink "BikeShareModel" (252 : Nat) ({ cls := "BikeShareModel", name := "isStation", desc := "(I)Z" } : Jvm.MethodName)) := by decide +kernel
theorem tf_1489 : tables_1[1489]? = some (Jvm.Cond.instanceMethod ({ cls := "BikeShareModel", name := "isStation", desc := "(I)Z" } : Jvm.MethodName)) := by decide +kernel
theorem tf_1490 : tables_1[1490]? = some (Jvm.Cond.code ({ cls := "BikeShareModel", name := "isStation", desc := "(I)Z" } : Jvm.MethodName) prog_11_method_34_code (2 : Nat) (Option.some Jvm.ClassFile.FieldType.boolean)) := by decide +kernel
theorem tf_1491 : tables_1[1491]? = some (Jvm.Cond.methodLink "BikeShareLaw" (136 : Nat) ({ cls := "BikeShareModel", name := "freeDocks", desc := "(I)I" } : Jvm.MethodName)) := by decide +kernel
theorem tf_1492 : tables_1[1492]? = some (Jvm.Cond.instanceMethod ({ cls := "BikeShareModel", name := "freeDocks", desc := "(I)I" } : Jvm.MethodName)) := by decide +kernel
theorem tf_1493 : tables_1[1493]? = some (Jvm.Cond.selects "BikeShareModel" ({ cls := "BikeShareModel", name := "freeDocks", desc := "(I)I" } : Jvm.MethodName) ({ cls := "BikeShareModel", name := "freeDocks", desc := "(I)I" } : Jvm.MethodName)) := by decide +kernel
theorem tf_1494 : tables_1[1494]? = some (Jvm.Cond.code ({ cls := "BikeShareModel", name := "freeDocks", desc := "(I)I" } : Jvm.MethodName) prog_11_method_51_code (2 : Nat) (Option.some Jvm.ClassFile.FieldType.int)) := by decide +kernel
theorem tf_1495 : tables_1[1495]? = some (Jvm.Cond.methodLink "BikeShareModel" (215 : Nat) ({ cls := "BikeShareModel", name := "free", desc := "(I)I" } : Jvm.MethodName)) := by decide +kernel
theorem tf_1497 : tables_1[1497]? = some (Jvm.Cond.instanceMethod ({ cls := "BikeShareModel", name := "free", desc := "(I)I" } : Jvm.MethodName)) := by decide +kernel
theorem tf_1498 : tables_1[1498]? = some (Jvm.Cond.code ({ cls := "BikeShareModel", name := "free", desc := "(I)I" } : Jvm.MethodName) prog_11_method_39_code (2 : Nat) (Option.some Jvm.ClassFile.FieldType.int)) := by decide +kernel
theorem tf_1499 : tables_1[1499]? = some (Jvm.Cond.methodLink "BikeShareModel" (228 : Nat) ({ cls := "BikeShareModel", name := "working", desc := "(I)I" } : Jvm.MethodName)) := by decide +kernel
theorem tf_1501 : tables_1[1501]? = some (Jvm.Cond.instanceMethod ({ cls := "BikeShareModel", name := "working", desc := "(I)I" } : Jvm.MethodName)) := by decide +kernel
theorem tf_1502 : tables_1[1502]? = some (Jvm.Cond.code ({ cls := "BikeShareModel", name := "working", desc := "(I)I" } : Jvm.MethodName) prog_11_method_38_code (2 : Nat) (Option.some Jvm.ClassFile.FieldType.int)) := by decide +kernel
theorem tf_1503 : tables_1[1503]? = some (Jvm.Cond.methodLink "BikeShareLaw" (139 : Nat) ({ cls := "BikeShareModel", name := "brokenDocks", desc := "(I)I" } : Jvm.MethodName)) := by decide +kernel
theorem tf_1504 : tables_1[1504]? = some (Jvm.Cond.instanceMethod ({ cls := "BikeShareModel", name := "brokenDocks", desc := "(I)I" } : Jvm.MethodName)) := by decide +kernel
theorem tf_1505 : tables_1[1505]? = some (Jvm.Cond.selects "BikeShareModel" ({ cls := "BikeShareModel", name := "brokenDocks", desc := "(I)I" } : Jvm.MethodName) ({ cls := "BikeShareModel", name := "brokenDocks", desc := "(I)I" } : Jvm.MethodName)) := by decide +kernel
theorem tf_1506 : tables_1[1506]? = some (Jvm.Cond.code ({ cls := "BikeShareModel", name := "brokenDocks", desc := "(I)I" } : Jvm.MethodName) prog_11_method_52_code (2 : Nat) (Option.some Jvm.ClassFile.FieldType.int)) := by decide +kernel
theorem tf_1507 : tables_1[1507]? = some (Jvm.Cond.methodLink "BikeShareLaw" (142 : Nat) ({ cls := "BikeShareModel", name := "isBalanced", desc := "(I)Z" } : Jvm.MethodName)) := by decide +kernel
theorem tf_1508 : tables_1[1508]? = some (Jvm.Cond.instanceMethod ({ cls := "BikeShareModel", name := "isBalanced", desc := "(I)Z" } : Jvm.MethodName)) := by decide +kernel
theorem tf_1509 : tables_1[1509]? = some (Jvm.Cond.selects "BikeShareModel" ({ cls := "BikeShareModel", name := "isBalanced", desc := "(I)Z" } : Jvm.MethodName) ({ cls := "BikeShareModel", name := "isBalanced", desc := "(I)Z" } : Jvm.MethodName)) := by decide +kernel
theorem tf_1510 : tables_1[1510]? = some (Jvm.Cond.code ({ cls := "BikeShareModel", name := "isBalanced", desc := "(I)Z" } : Jvm.MethodName) prog_11_method_53_code (2 : Nat) (Option.some Jvm.ClassFile.FieldType.boolean)) := by decide +kernel
theorem tf_1511 : tables_1[1511]? = some (Jvm.Cond.methodLink "BikeShareModel" (255 : Nat) ({ cls := "BikeShareModel", name := "isEven", desc := "(I)Z" } : Jvm.MethodName)) := by decide +kernel
theorem tf_1513 : tables_1[1513]? = some (Jvm.Cond.instanceMethod ({ cls := "BikeShareModel", name := "isEven", desc := "(I)Z" } : Jvm.MethodName)) := by decide +kernel
theorem tf_1514 : tables_1[1514]? = some (Jvm.Cond.code ({ cls := "BikeShareModel", name := "isEven", desc := "(I)Z" } : Jvm.MethodName) prog_11_method_44_code (2 : Nat) (Option.some Jvm.ClassFile.FieldType.boolean)) := by decide +kernel
theorem tf_1515 : tables_1[1515]? = some (Jvm.Cond.methodLink "BikeShareModel" (237 : Nat) ({ cls := "BikeShareModel", name := "mark", desc := "(I)I" } : Jvm.MethodName)) := by decide +kernel
theorem tf_1517 : tables_1[1517]? = some (Jvm.Cond.instanceMethod ({ cls := "BikeShareModel", name := "mark", desc := "(I)I" } : Jvm.MethodName)) := by decide +kernel
theorem tf_1518 : tables_1[1518]? = some (Jvm.Cond.code ({ cls := "BikeShareModel", name := "mark", desc := "(I)I" } : Jvm.MethodName) prog_11_method_40_code (2 : Nat) (Option.some Jvm.ClassFile.FieldType.int)) := by decide +kernel
theorem tf_1519 : tables_1[1519]? = some (Jvm.Cond.methodLink "BikeShareLaw" (146 : Nat) ({ cls := "BikeShareModel", name := "imbalance", desc := "()I" } : Jvm.MethodName)) := by decide +kernel
theorem tf_1520 : tables_1[1520]? = some (Jvm.Cond.instanceMethod ({ cls := "BikeShareModel", name := "imbalance", desc := "()I" } : Jvm.MethodName)) := by decide +kernel
theorem tf_1521 : tables_1[1521]? = some (Jvm.Cond.selects "BikeShareModel" ({ cls := "BikeShareModel", name := "imbalance", desc := "()I" } : Jvm.MethodName) ({ cls := "BikeShareModel", name := "imbalance", desc := "()I" } : Jvm.MethodName)) := by decide +kernel
theorem tf_1522 : tables_1[1522]? = some (Jvm.Cond.code ({ cls := "BikeShareModel", name := "imbalance", desc := "()I" } : Jvm.MethodName) prog_11_method_55_code (3 : Nat) (Option.some Jvm.ClassFile.FieldType.int)) := by decide +kernel
theorem tf_1523 : tables_1[1523]? = some (Jvm.Cond.methodLink "BikeShareModel" (258 : Nat) ({ cls := "BikeShareModel", name := "atLeast0", desc := "(I)I" } : Jvm.MethodName)) := by decide +kernel
theorem tf_1524 : tables_1[1524]? = some (Jvm.Cond.static ({ cls := "BikeShareModel", name := "atLeast0", desc := "(I)I" } : Jvm.MethodName)) := by decide +kernel
theorem tf_1525 : tables_1[1525]? = some (Jvm.Cond.code ({ cls := "BikeShareModel", name := "atLeast0", desc := "(I)I" } : Jvm.MethodName) prog_11_method_54_code (1 : Nat) (Option.some Jvm.ClassFile.FieldType.int)) := by decide +kernel
theorem tf_1526 : tables_1[1526]? = some (Jvm.Cond.methodLink "BikeShareLaw" (150 : Nat) ({ cls := "BikeShareModel", name := "nearest", desc := "(IZ)I" } : Jvm.MethodName)) := by decide +kernel
theorem tf_1527 : tables_1[1527]? = some (Jvm.Cond.instanceMethod ({ cls := "BikeShareModel", name := "nearest", desc := "(IZ)I" } : Jvm.MethodName)) := by decide +kernel
theorem tf_1528 : tables_1[1528]? = some (Jvm.Cond.selects "BikeShareModel" ({ cls := "BikeShareModel", name := "nearest", desc := "(IZ)I" } : Jvm.MethodName) ({ cls := "BikeShareModel", name := "nearest", desc := "(IZ)I" } : Jvm.MethodName)) := by decide +kernel
theorem tf_1529 : tables_1[1529]? = some (Jvm.Cond.code ({ cls := "BikeShareModel", name := "nearest", desc := "(IZ)I" } : Jvm.MethodName) prog_11_method_57_code (3 : Nat) (Option.some Jvm.ClassFile.FieldType.int)) := by decide +kernel
theorem tf_1530 : tables_1[1530]? = some (Jvm.Cond.methodLink "BikeShareModel" (261 : Nat) ({ cls := "BikeShareModel", name := "nearestTo", desc := "(IZ)I" } : Jvm.MethodName)) := by decide +kernel
theorem tf_1532 : tables_1[1532]? = some (Jvm.Cond.instanceMethod ({ cls := "BikeShareModel", name := "nearestTo", desc := "(IZ)I" } : Jvm.MethodName)) := by decide +kernel
theorem tf_1533 : tables_1[1533]? = some (Jvm.Cond.code ({ cls := "BikeShareModel", name := "nearestTo", desc := "(IZ)I" } : Jvm.MethodName) prog_11_method_56_code (5 : Nat) (Option.some Jvm.ClassFile.FieldType.int)) := by decide +kernel
theorem tf_1534 : tables_1[1534]? = some (Jvm.Cond.methodLink "BikeShareModel" (234 : Nat) ({ cls := "BikeShareModel", name := "distance", desc := "(II)I" } : Jvm.MethodName)) := by decide +kernel
theorem tf_1536 : tables_1[1536]? = some (Jvm.Cond.instanceMethod ({ cls := "BikeShareModel", name := "distance", desc := "(II)I" } : Jvm.MethodName)) := by decide +kernel
theorem tf_1537 : tables_1[1537]? = some (Jvm.Cond.code ({ cls := "BikeShareModel", name := "distance", desc := "(II)I" } : Jvm.MethodName) prog_11_method_41_code (3 : Nat) (Option.some Jvm.ClassFile.FieldType.int)) := by decide +kernel
theorem tf_1538 : tables_1[1538]? = some (Jvm.Cond.methodLink "BikeShareModel" (231 : Nat) ({ cls := "BikeShareModel", name := "absolute", desc := "(I)I" } : Jvm.MethodName)) := by decide +kernel
theorem tf_1539 : tables_1[1539]? = some (Jvm.Cond.static ({ cls := "BikeShareModel", name := "absolute", desc := "(I)I" } : Jvm.MethodName)) := by decide +kernel
theorem tf_1540 : tables_1[1540]? = some (Jvm.Cond.code ({ cls := "BikeShareModel", name := "absolute", desc := "(I)I" } : Jvm.MethodName) prog_11_method_4_code (1 : Nat) (Option.some Jvm.ClassFile.FieldType.int)) := by decide +kernel
theorem tf_1541 : tables_1[1541]? = some (Jvm.Cond.methodLink "BikeShareLaw" (154 : Nat) ({ cls := "BikeShareModel", name := "rideMinutes", desc := "(II)I" } : Jvm.MethodName)) := by decide +kernel
theorem tf_1542 : tables_1[1542]? = some (Jvm.Cond.instanceMethod ({ cls := "BikeShareModel", name := "rideMinutes", desc := "(II)I" } : Jvm.MethodName)) := by decide +kernel
theorem tf_1543 : tables_1[1543]? = some (Jvm.Cond.selects "BikeShareModel" ({ cls := "BikeShareModel", name := "rideMinutes", desc := "(II)I" } : Jvm.MethodName) ({ cls := "BikeShareModel", name := "rideMinutes", desc := "(II)I" } : Jvm.MethodName)) := by decide +kernel
theorem tf_1544 : tables_1[1544]? = some (Jvm.Cond.code ({ cls := "BikeShareModel", name := "rideMinutes", desc := "(II)I" } : Jvm.MethodName) prog_11_method_59_code (3 : Nat) (Option.some Jvm.ClassFile.FieldType.int)) := by decide +kernel
theorem tf_1545 : tables_1[1545]? = some (Jvm.Cond.methodLink "BikeShareModel" (265 : Nat) ({ cls := "BikeShareModel", name := "areStations", desc := "(II)Z" } : Jvm.MethodName)) := by decide +kernel
theorem tf_1547 : tables_1[1547]? = some (Jvm.Cond.instanceMethod ({ cls := "BikeShareModel", name := "areStations", desc := "(II)Z" } : Jvm.MethodName)) := by decide +kernel
theorem tf_1548 : tables_1[1548]? = some (Jvm.Cond.code ({ cls := "BikeShareModel", name := "areStations", desc := "(II)Z" } : Jvm.MethodName) prog_11_method_58_code (3 : Nat) (Option.some Jvm.ClassFile.FieldType.boolean)) := by decide +kernel
theorem tf_1549 : tables_1[1549]? = some (Jvm.Cond.methodLink "BikeShareModel" (212 : Nat) ({ cls := "BikeShareModel", name := "ride", desc := "(II)I" } : Jvm.MethodName)) := by decide +kernel
theorem tf_1551 : tables_1[1551]? = some (Jvm.Cond.instanceMethod ({ cls := "BikeShareModel", name := "ride", desc := "(II)I" } : Jvm.MethodName)) := by decide +kernel
theorem tf_1552 : tables_1[1552]? = some (Jvm.Cond.code ({ cls := "BikeShareModel", name := "ride", desc := "(II)I" } : Jvm.MethodName) prog_11_method_42_code (3 : Nat) (Option.some Jvm.ClassFile.FieldType.int)) := by decide +kernel
theorem tf_1553 : tables_1[1553]? = some (Jvm.Cond.methodLink "BikeShareLaw" (157 : Nat) ({ cls := "BikeShareModel", name := "quote", desc := "(II)I" } : Jvm.MethodName)) := by decide +kernel
theorem tf_1554 : tables_1[1554]? = some (Jvm.Cond.instanceMethod ({ cls := "BikeShareModel", name := "quote", desc := "(II)I" } : Jvm.MethodName)) := by decide +kernel
theorem tf_1555 : tables_1[1555]? = some (Jvm.Cond.selects "BikeShareModel" ({ cls := "BikeShareModel", name := "quote", desc := "(II)I" } : Jvm.MethodName) ({ cls := "BikeShareModel", name := "quote", desc := "(II)I" } : Jvm.MethodName)) := by decide +kernel
theorem tf_1556 : tables_1[1556]? = some (Jvm.Cond.code ({ cls := "BikeShareModel", name := "quote", desc := "(II)I" } : Jvm.MethodName) prog_11_method_60_code (3 : Nat) (Option.some Jvm.ClassFile.FieldType.int)) := by decide +kernel
theorem tf_1557 : tables_1[1557]? = some (Jvm.Cond.methodLink "BikeShareModel" (268 : Nat) ({ cls := "BikeShareModel", name := "fareOf", desc := "(II)I" } : Jvm.MethodName)) := by decide +kernel
theorem tf_1559 : tables_1[1559]? = some (Jvm.Cond.instanceMethod ({ cls := "BikeShareModel", name := "fareOf", desc := "(II)I" } : Jvm.MethodName)) := by decide +kernel
theorem tf_1560 : tables_1[1560]? = some (Jvm.Cond.code ({ cls := "BikeShareModel", name := "fareOf", desc := "(II)I" } : Jvm.MethodName) prog_11_method_29_code (6 : Nat) (Option.some Jvm.ClassFile.FieldType.int)) := by decide +kernel
theorem tf_1561 : tables_1[1561]? = some (Jvm.Cond.methodLink "BikeShareModel" (218 : Nat) ({ cls := "BikeShareModel", name := "apply", desc := "(III)I" } : Jvm.MethodName)) := by decide +kernel
theorem tf_1562 : tables_1[1562]? = some (Jvm.Cond.static ({ cls := "BikeShareModel", name := "apply", desc := "(III)I" } : Jvm.MethodName)) := by decide +kernel
theorem tf_1563 : tables_1[1563]? = some (Jvm.Cond.code ({ cls := "BikeShareModel", name := "apply", desc := "(III)I" } : Jvm.MethodName) prog_11_method_28_code (3 : Nat) (Option.some Jvm.ClassFile.FieldType.int)) := by decide +kernel
theorem tf_1564 : tables_1[1564]? = some (Jvm.Cond.methodLink "BikeShareLaw" (160 : Nat) ({ cls := "BikeShareModel", name := "bonusAt", desc := "(I)I" } : Jvm.MethodName)) := by decide +kernel
theorem tf_1565 : tables_1[1565]? = some (Jvm.Cond.instanceMethod ({ cls := "BikeShareModel", name := "bonusAt", desc := "(I)I" } : Jvm.MethodName)) := by decide +kernel
theorem tf_1566 : tables_1[1566]? = some (Jvm.Cond.selects "BikeShareModel" ({ cls := "BikeShareModel", name := "bonusAt", desc := "(I)I" } : Jvm.MethodName) ({ cls := "BikeShareModel", name := "bonusAt", desc := "(I)I" } : Jvm.MethodName)) := by decide +kernel
theorem tf_1567 : tables_1[1567]? = some (Jvm.Cond.code ({ cls := "BikeShareModel", name := "bonusAt", desc := "(I)I" } : Jvm.MethodName) prog_11_method_62_code (2 : Nat) (Option.some Jvm.ClassFile.FieldType.int)) := by decide +kernel
theorem tf_1568 : tables_1[1568]? = some (Jvm.Cond.methodLink "BikeShareModel" (271 : Nat) ({ cls := "BikeShareModel", name := "bonus", desc := "(I)I" } : Jvm.MethodName)) := by decide +kernel
theorem tf_1570 : tables_1[1570]? = some (Jvm.Cond.instanceMethod ({ cls := "BikeShareModel", name := "bonus", desc := "(I)I" } : Jvm.MethodName)) := by decide +kernel
theorem tf_1571 : tables_1[1571]? = some (Jvm.Cond.code ({ cls := "BikeShareModel", name := "bonus", desc := "(I)I" } : Jvm.MethodName) prog_11_method_61_code (2 : Nat) (Option.some Jvm.ClassFile.FieldType.int)) := by decide +kernel
theorem tf_1572 : tables_1[1572]? = some (Jvm.Cond.methodLink "BikeShareLaw" (163 : Nat) ({ cls := "BikeShareModel", name := "bestDeal", desc := "(I)I" } : Jvm.MethodName)) := by decide +kernel
theorem tf_1573 : tables_1[1573]? = some (Jvm.Cond.instanceMethod ({ cls := "BikeShareModel", name := "bestDeal", desc := "(I)I" } : Jvm.MethodName)) := by decide +kernel
theorem tf_1574 : tables_1[1574]? = some (Jvm.Cond.selects "BikeShareModel" ({ cls := "BikeShareModel", name := "bestDeal", desc := "(I)I" } : Jvm.MethodName) ({ cls := "BikeShareModel", name := "bestDeal", desc := "(I)I" } : Jvm.MethodName)) := by decide +kernel
theorem tf_1575 : tables_1[1575]? = some (Jvm.Cond.code ({ cls := "BikeShareModel", name := "bestDeal", desc := "(I)I" } : Jvm.MethodName) prog_11_method_63_code (6 : Nat) (Option.some Jvm.ClassFile.FieldType.int)) := by decide +kernel
theorem tf_1576 : tables_1[1576]? = some (Jvm.Cond.methodLink "BikeShareLaw" (167 : Nat) ({ cls := "BikeShareModel", name := "riders", desc := "()I" } : Jvm.MethodName)) := by decide +kernel
theorem tf_1577 : tables_1[1577]? = some (Jvm.Cond.instanceMethod ({ cls := "BikeShareModel", name := "riders", desc := "()I" } : Jvm.MethodName)) := by decide +kernel
theorem tf_1578 : tables_1[1578]? = some (Jvm.Cond.selects "BikeShareModel" ({ cls := "BikeShareModel", name := "riders", desc := "()I" } : Jvm.MethodName) ({ cls := "BikeShareModel", name := "riders", desc := "()I" } : Jvm.MethodName)) := by decide +kernel
theorem tf_1579 : tables_1[1579]? = some (Jvm.Cond.code ({ cls := "BikeShareModel", name := "riders", desc := "()I" } : Jvm.MethodName) prog_11_method_64_code (1 : Nat) (Option.some Jvm.ClassFile.FieldType.int)) := by decide +kernel
theorem tf_1580 : tables_1[1580]? = some (Jvm.Cond.methodLink "BikeShareLaw" (170 : Nat) ({ cls := "BikeShareModel", name := "rider", desc := "(II)I" } : Jvm.MethodName)) := by decide +kernel
theorem tf_1581 : tables_1[1581]? = some (Jvm.Cond.instanceMethod ({ cls := "BikeShareModel", name := "rider", desc := "(II)I" } : Jvm.MethodName)) := by decide +kernel
theorem tf_1582 : tables_1[1582]? = some (Jvm.Cond.selects "BikeShareModel" ({ cls := "BikeShareModel", name := "rider", desc := "(II)I" } : Jvm.MethodName) ({ cls := "BikeShareModel", name := "rider", desc := "(II)I" } : Jvm.MethodName)) := by decide +kernel
theorem tf_1583 : tables_1[1583]? = some (Jvm.Cond.code ({ cls := "BikeShareModel", name := "rider", desc := "(II)I" } : Jvm.MethodName) prog_11_method_67_code (7 : Nat) (Option.some Jvm.ClassFile.FieldType.int)) := by decide +kernel
theorem tf_1584 : tables_1[1584]? = some (Jvm.Cond.methodLink "BikeShareModel" (277 : Nat) ({ cls := "BikeShareModel", name := "isAhead", desc := "(II)Z" } : Jvm.MethodName)) := by decide +kernel
theorem tf_1586 : tables_1[1586]? = some (Jvm.Cond.instanceMethod ({ cls := "BikeShareModel", name := "isAhead", desc := "(II)Z" } : Jvm.MethodName)) := by decide +kernel
theorem tf_1587 : tables_1[1587]? = some (Jvm.Cond.code ({ cls := "BikeShareModel", name := "isAhead", desc := "(II)Z" } : Jvm.MethodName) prog_11_method_66_code (3 : Nat) (Option.some Jvm.ClassFile.FieldType.boolean)) := by decide +kernel
theorem tf_1588 : tables_1[1588]? = some (Jvm.Cond.methodLink "BikeShareModel" (274 : Nat) ({ cls := "BikeShareModel", name := "riderAt", desc := "(II)I" } : Jvm.MethodName)) := by decide +kernel
theorem tf_1590 : tables_1[1590]? = some (Jvm.Cond.instanceMethod ({ cls := "BikeShareModel", name := "riderAt", desc := "(II)I" } : Jvm.MethodName)) := by decide +kernel
theorem tf_1591 : tables_1[1591]? = some (Jvm.Cond.code ({ cls := "BikeShareModel", name := "riderAt", desc := "(II)I" } : Jvm.MethodName) prog_11_method_65_code (3 : Nat) (Option.some Jvm.ClassFile.FieldType.int)) := by decide +kernel
theorem tf_1592 : tables_1[1592]? = some (Jvm.Cond.methodLink "BikeShareLaw" (173 : Nat) ({ cls := "BikeShareModel", name := "ridesBetween", desc := "(II)I" } : Jvm.MethodName)) := by decide +kernel
theorem tf_1593 : tables_1[1593]? = some (Jvm.Cond.instanceMethod ({ cls := "BikeShareModel", name := "ridesBetween", desc := "(II)I" } : Jvm.MethodName)) := by decide +kernel
theorem tf_1594 : tables_1[1594]? = some (Jvm.Cond.selects "BikeShareModel" ({ cls := "BikeShareModel", name := "ridesBetween", desc := "(II)I" } : Jvm.MethodName) ({ cls := "BikeShareModel", name := "ridesBetween", desc := "(II)I" } : Jvm.MethodName)) := by decide +kernel
theorem tf_1595 : tables_1[1595]? = some (Jvm.Cond.code ({ cls := "BikeShareModel", name := "ridesBetween", desc := "(II)I" } : Jvm.MethodName) prog_11_method_69_code (3 : Nat) (Option.some Jvm.ClassFile.FieldType.int)) := by decide +kernel
theorem tf_1596 : tables_1[1596]? = some (Jvm.Cond.methodLink "BikeShareLaw" (177 : Nat) ({ cls := "BikeShareModel", name := "busiestPair", desc := "()I" } : Jvm.MethodName)) := by decide +kernel
theorem tf_1597 : tables_1[1597]? = some (Jvm.Cond.instanceMethod ({ cls := "BikeShareModel", name := "busiestPair", desc := "()I" } : Jvm.MethodName)) := by decide +kernel
theorem tf_1598 : tables_1[1598]? = some (Jvm.Cond.selects "BikeShareModel" ({ cls := "BikeShareModel", name := "busiestPair", desc := "()I" } : Jvm.MethodName) ({ cls := "BikeShareModel", name := "busiestPair", desc := "()I" } : Jvm.MethodName)) := by decide +kernel
theorem tf_1599 : tables_1[1599]? = some (Jvm.Cond.code ({ cls := "BikeShareModel", name := "busiestPair", desc := "()I" } : Jvm.MethodName) prog_11_method_70_code (4 : Nat) (Option.some Jvm.ClassFile.FieldType.int)) := by decide +kernel
theorem tf_1600 : tables_1[1600]? = some (Jvm.Cond.methodLink "BikeShareLaw" (180 : Nat) ({ cls := "BikeShareModel", name := "truck", desc := "(II)I" } : Jvm.MethodName)) := by decide +kernel
theorem tf_1601 : tables_1[1601]? = some (Jvm.Cond.instanceMethod ({ cls := "BikeShareModel", name := "truck", desc := "(II)I" } : Jvm.MethodName)) := by decide +kernel
theorem tf_1602 : tables_1[1602]? = some (Jvm.Cond.selects "BikeShareModel" ({ cls := "BikeShareModel", name := "truck", desc := "(II)I" } : Jvm.MethodName) ({ cls := "BikeShareModel", name := "truck", desc := "(II)I" } : Jvm.MethodName)) := by decide +kernel
theorem tf_1603 : tables_1[1603]? = some (Jvm.Cond.code ({ cls := "BikeShareModel", name := "truck", desc := "(II)I" } : Jvm.MethodName) prog_11_method_71_code (3 : Nat) (Option.some Jvm.ClassFile.FieldType.int)) := by decide +kernel
theorem tf_1604 : tables_1[1604]? = some (Jvm.Cond.methodLink "BikeShareModel" (280 : Nat) ({ cls := "BikeShareModel", name := "isTruck", desc := "(I)Z" } : Jvm.MethodName)) := by decide +kernel
theorem tf_1606 : tables_1[1606]? = some (Jvm.Cond.instanceMethod ({ cls := "BikeShareModel", name := "isTruck", desc := "(I)Z" } : Jvm.MethodName)) := by decide +kernel
theorem tf_1607 : tables_1[1607]? = some (Jvm.Cond.code ({ cls := "BikeShareModel", name := "isTruck", desc := "(I)Z" } : Jvm.MethodName) prog_11_method_35_code (2 : Nat) (Option.some Jvm.ClassFile.FieldType.boolean)) := by decide +kernel
theorem tf_1608 : tables_1[1608]? = some (Jvm.Cond.methodLink "BikeShareLaw" (183 : Nat) ({ cls := "BikeShareModel", name := "tourMinutes", desc := "(I)I" } : Jvm.MethodName)) := by decide +kernel
theorem tf_1609 : tables_1[1609]? = some (Jvm.Cond.instanceMethod ({ cls := "BikeShareModel", name := "tourMinutes", desc := "(I)I" } : Jvm.MethodName)) := by decide +kernel
theorem tf_1610 : tables_1[1610]? = some (Jvm.Cond.selects "BikeShareModel" ({ cls := "BikeShareModel", name := "tourMinutes", desc := "(I)I" } : Jvm.MethodName) ({ cls := "BikeShareModel", name := "tourMinutes", desc := "(I)I" } : Jvm.MethodName)) := by decide +kernel
theorem tf_1611 : tables_1[1611]? = some (Jvm.Cond.code ({ cls := "BikeShareModel", name := "tourMinutes", desc := "(I)I" } : Jvm.MethodName) prog_11_method_81_code (2 : Nat) (Option.some Jvm.ClassFile.FieldType.int)) := by decide +kernel
theorem tf_1612 : tables_1[1612]? = some (Jvm.Cond.methodLink "BikeShareModel" (311 : Nat) ({ cls := "BikeShareModel", name := "failsTour", desc := "(I)Z" } : Jvm.MethodName)) := by decide +kernel
theorem tf_1614 : tables_1[1614]? = some (Jvm.Cond.instanceMethod ({ cls := "BikeShareModel", name := "failsTour", desc := "(I)Z" } : Jvm.MethodName)) := by decide +kernel
theorem tf_1615 : tables_1[1615]? = some (Jvm.Cond.code ({ cls := "BikeShareModel", name := "failsTour", desc := "(I)Z" } : Jvm.MethodName) prog_11_method_80_code (2 : Nat) (Option.some Jvm.ClassFile.FieldType.boolean)) := by decide +kernel
theorem tf_1616 : tables_1[1616]? = some (Jvm.Cond.methodLink "BikeShareModel" (314 : Nat) ({ cls := "BikeShareModel", name := "findTour", desc := "(I)V" } : Jvm.MethodName)) := by decide +kernel
theorem tf_1618 : tables_1[1618]? = some (Jvm.Cond.instanceMethod ({ cls := "BikeShareModel", name := "findTour", desc := "(I)V" } : Jvm.MethodName)) := by decide +kernel
theorem tf_1619 : tables_1[1619]? = some (Jvm.Cond.code ({ cls := "BikeShareModel", name := "findTour", desc := "(I)V" } : Jvm.MethodName) prog_11_method_79_code (5 : Nat) (Option.none : Option Jvm.ClassFile.FieldType)) := by decide +kernel
theorem tf_1620 : tables_1[1620]? = some (Jvm.Cond.methodLink "BikeShareModel" (304 : Nat) ({ cls := "BikeShareModel", name := "comeTo", desc := "(IIIII)V" } : Jvm.MethodName)) := by decide +kernel
theorem tf_1622 : tables_1[1622]? = some (Jvm.Cond.instanceMethod ({ cls := "BikeShareModel", name := "comeTo", desc := "(IIIII)V" } : Jvm.MethodName)) := by decide +kernel
theorem tf_1623 : tables_1[1623]? = some (Jvm.Cond.code ({ cls := "BikeShareModel", name := "comeTo", desc := "(IIIII)V" } : Jvm.MethodName) prog_11_method_78_code (7 : Nat) (Option.none : Option Jvm.ClassFile.FieldType)) := by decide +kernel
theorem tf_1624 : tables_1[1624]? = some (Jvm.Cond.methodLink "BikeShareModel" (301 : Nat) ({ cls := "BikeShareModel", name := "isAllEven", desc := "(I)Z" } : Jvm.MethodName)) := by decide +kernel
theorem tf_1626 : tables_1[1626]? = some (Jvm.Cond.instanceMethod ({ cls := "BikeShareModel", name := "isAllEven", desc := "(I)Z" } : Jvm.MethodName)) := by decide +kernel
theorem tf_1627 : tables_1[1627]? = some (Jvm.Cond.code ({ cls := "BikeShareModel", name := "isAllEven", desc := "(I)Z" } : Jvm.MethodName) prog_11_method_77_code (3 : Nat) (Option.some Jvm.ClassFile.FieldType.boolean)) := by decide +kernel
theorem tf_1628 : tables_1[1628]? = some (Jvm.Cond.methodLink "BikeShareModel" (289 : Nat) ({ cls := "BikeShareModel", name := "drive", desc := "(II)I" } : Jvm.MethodName)) := by decide +kernel
theorem tf_1630 : tables_1[1630]? = some (Jvm.Cond.instanceMethod ({ cls := "BikeShareModel", name := "drive", desc := "(II)I" } : Jvm.MethodName)) := by decide +kernel
theorem tf_1631 : tables_1[1631]? = some (Jvm.Cond.code ({ cls := "BikeShareModel", name := "drive", desc := "(II)I" } : Jvm.MethodName) prog_11_method_43_code (3 : Nat) (Option.some Jvm.ClassFile.FieldType.int)) := by decide +kernel
theorem tf_1632 : tables_1[1632]? = some (Jvm.Cond.methodLink "BikeShareModel" (308 : Nat) ({ cls := "BikeShareModel", name := "loadsBehind", desc := "(III)I" } : Jvm.MethodName)) := by decide +kernel
theorem tf_1634 : tables_1[1634]? = some (Jvm.Cond.instanceMethod ({ cls := "BikeShareModel", name := "loadsBehind", desc := "(III)I" } : Jvm.MethodName)) := by decide +kernel
theorem tf_1635 : tables_1[1635]? = some (Jvm.Cond.code ({ cls := "BikeShareModel", name := "loadsBehind", desc := "(III)I" } : Jvm.MethodName) prog_11_method_76_code (7 : Nat) (Option.some Jvm.ClassFile.FieldType.int)) := by decide +kernel
theorem tf_1636 : tables_1[1636]? = some (Jvm.Cond.methodLink "BikeShareLaw" (186 : Nat) ({ cls := "BikeShareModel", name := "tourStop", desc := "(II)I" } : Jvm.MethodName)) := by decide +kernel
theorem tf_1637 : tables_1[1637]? = some (Jvm.Cond.instanceMethod ({ cls := "BikeShareModel", name := "tourStop", desc := "(II)I" } : Jvm.MethodName)) := by decide +kernel
theorem tf_1638 : tables_1[1638]? = some (Jvm.Cond.selects "BikeShareModel" ({ cls := "BikeShareModel", name := "tourStop", desc := "(II)I" } : Jvm.MethodName) ({ cls := "BikeShareModel", name := "tourStop", desc := "(II)I" } : Jvm.MethodName)) := by decide +kernel
theorem tf_1639 : tables_1[1639]? = some (Jvm.Cond.code ({ cls := "BikeShareModel", name := "tourStop", desc := "(II)I" } : Jvm.MethodName) prog_11_method_82_code (3 : Nat) (Option.some Jvm.ClassFile.FieldType.int)) := by decide +kernel
theorem tf_1640 : tables_1[1640]? = some (Jvm.Cond.methodLink "BikeShareLaw" (189 : Nat) ({ cls := "BikeShareModel", name := "total", desc := "(I)I" } : Jvm.MethodName)) := by decide +kernel
theorem tf_1641 : tables_1[1641]? = some (Jvm.Cond.instanceMethod ({ cls := "BikeShareModel", name := "total", desc := "(I)I" } : Jvm.MethodName)) := by decide +kernel
theorem tf_1642 : tables_1[1642]? = some (Jvm.Cond.selects "BikeShareModel" ({ cls := "BikeShareModel", name := "total", desc := "(I)I" } : Jvm.MethodName) ({ cls := "BikeShareModel", name := "total", desc := "(I)I" } : Jvm.MethodName)) := by decide +kernel
theorem tf_1643 : tables_1[1643]? = some (Jvm.Cond.code ({ cls := "BikeShareModel", name := "total", desc := "(I)I" } : Jvm.MethodName) prog_11_method_86_code (2 : Nat) (Option.some Jvm.ClassFile.FieldType.int)) := by decide +kernel
theorem tf_1644 : tables_1[1644]? = some (Jvm.Cond.methodLink "BikeShareModel" (326 : Nat) ({ cls := "BikeShareModel", name := "totalOf", desc := "(I)I" } : Jvm.MethodName)) := by decide +kernel
theorem tf_1646 : tables_1[1646]? = some (Jvm.Cond.instanceMethod ({ cls := "BikeShareModel", name := "totalOf", desc := "(I)I" } : Jvm.MethodName)) := by decide +kernel
theorem tf_1647 : tables_1[1647]? = some (Jvm.Cond.code ({ cls := "BikeShareModel", name := "totalOf", desc := "(I)I" } : Jvm.MethodName) prog_11_method_85_code (2 : Nat) (Option.some Jvm.ClassFile.FieldType.int)) := by decide +kernel
theorem tf_1648 : tables_1[1648]? = some (Jvm.Cond.methodLink "BikeShareLaw" (192 : Nat) ({ cls := "BikeShareModel", name := "forecast", desc := "(II)I" } : Jvm.MethodName)) := by decide +kernel
theorem tf_1649 : tables_1[1649]? = some (Jvm.Cond.instanceMethod ({ cls := "BikeShareModel", name := "forecast", desc := "(II)I" } : Jvm.MethodName)) := by decide +kernel
theorem tf_1650 : tables_1[1650]? = some (Jvm.Cond.selects "BikeShareModel" ({ cls := "BikeShareModel", name := "forecast", desc := "(II)I" } : Jvm.MethodName) ({ cls := "BikeShareModel", name := "forecast", desc := "(II)I" } : Jvm.MethodName)) := by decide +kernel
theorem tf_1651 : tables_1[1651]? = some (Jvm.Cond.code ({ cls := "BikeShareModel", name := "forecast", desc := "(II)I" } : Jvm.MethodName) prog_11_method_87_code (4 : Nat) (Option.some Jvm.ClassFile.FieldType.int)) := by decide +kernel
theorem tf_1652 : tables_1[1652]? = some (Jvm.Cond.methodLink "BikeShareModel" (329 : Nat) ({ cls := "BikeShareModel", name := "setAside", desc := "()V" } : Jvm.MethodName)) := by decide +kernel
theorem tf_1654 : tables_1[1654]? = some (Jvm.Cond.instanceMethod ({ cls := "BikeShareModel", name := "setAside", desc := "()V" } : Jvm.MethodName)) := by decide +kernel
theorem tf_1655 : tables_1[1655]? = some (Jvm.Cond.code ({ cls := "BikeShareModel", name := "setAside", desc := "()V" } : Jvm.MethodName) prog_11_method_32_code (2 : Nat) (Option.none : Option Jvm.ClassFile.FieldType)) := by decide +kernel
theorem tf_1656 : tables_1[1656]? = some (Jvm.Cond.methodLink "BikeShareModel" (332 : Nat) ({ cls := "BikeShareModel", name := "passMinute", desc := "()I" } : Jvm.MethodName)) := by decide +kernel
theorem tf_1658 : tables_1[1658]? = some (Jvm.Cond.instanceMethod ({ cls := "BikeShareModel", name := "passMinute", desc := "()I" } : Jvm.MethodName)) := by decide +kernel
theorem tf_1659 : tables_1[1659]? = some (Jvm.Cond.code ({ cls := "BikeShareModel", name := "passMinute", desc := "()I" } : Jvm.MethodName) prog_11_method_84_code (5 : Nat) (Option.some Jvm.ClassFile.FieldType.int)) := by decide +kernel
theorem tf_1660 : tables_1[1660]? = some (Jvm.Cond.methodLink "BikeShareModel" (317 : Nat) ({ cls := "BikeShareModel", name := "arrive", desc := "(I)V" } : Jvm.MethodName)) := by decide +kernel
theorem tf_1662 : tables_1[1662]? = some (Jvm.Cond.instanceMethod ({ cls := "BikeShareModel", name := "arrive", desc := "(I)V" } : Jvm.MethodName)) := by decide +kernel
theorem tf_1663 : tables_1[1663]? = some (Jvm.Cond.code ({ cls := "BikeShareModel", name := "arrive", desc := "(I)V" } : Jvm.MethodName) prog_11_method_75_code (3 : Nat) (Option.none : Option Jvm.ClassFile.FieldType)) := by decide +kernel
theorem tf_1664 : tables_1[1664]? = some (Jvm.Cond.methodLink "BikeShareModel" (286 : Nat) ({ cls := "BikeShareModel", name := "carryOut", desc := "(III)V" } : Jvm.MethodName)) := by decide +kernel
theorem tf_1666 : tables_1[1666]? = some (Jvm.Cond.instanceMethod ({ cls := "BikeShareModel", name := "carryOut", desc := "(III)V" } : Jvm.MethodName)) := by decide +kernel
theorem tf_1667 : tables_1[1667]? = some (Jvm.Cond.code ({ cls := "BikeShareModel", name := "carryOut", desc := "(III)V" } : Jvm.MethodName) prog_11_method_73_code (6 : Nat) (Option.none : Option Jvm.ClassFile.FieldType)) := by decide +kernel
theorem tf_1668 : tables_1[1668]? = some (Jvm.Cond.methodLink "BikeShareModel" (283 : Nat) ({ cls := "BikeShareModel", name := "least", desc := "(III)I" } : Jvm.MethodName)) := by decide +kernel
theorem tf_1669 : tables_1[1669]? = some (Jvm.Cond.static ({ cls := "BikeShareModel", name := "least", desc := "(III)I" } : Jvm.MethodName)) := by decide +kernel
theorem tf_1670 : tables_1[1670]? = some (Jvm.Cond.code ({ cls := "BikeShareModel", name := "least", desc := "(III)I" } : Jvm.MethodName) prog_11_method_72_code (3 : Nat) (Option.some Jvm.ClassFile.FieldType.int)) := by decide +kernel
theorem tf_1671 : tables_1[1671]? = some (Jvm.Cond.methodLink "BikeShareModel" (292 : Nat) ({ cls := "BikeShareModel", name := "goOn", desc := "(I)V" } : Jvm.MethodName)) := by decide +kernel
theorem tf_1673 : tables_1[1673]? = some (Jvm.Cond.instanceMethod ({ cls := "BikeShareModel", name := "goOn", desc := "(I)V" } : Jvm.MethodName)) := by decide +kernel
theorem tf_1674 : tables_1[1674]? = some (Jvm.Cond.code ({ cls := "BikeShareModel", name := "goOn", desc := "(I)V" } : Jvm.MethodName) prog_11_method_74_code (5 : Nat) (Option.none : Option Jvm.ClassFile.FieldType)) := by decide +kernel
theorem tf_1675 : tables_1[1675]? = some (Jvm.Cond.methodLink "BikeShareModel" (320 : Nat) ({ cls := "BikeShareModel", name := "comes", desc := "(I)Z" } : Jvm.MethodName)) := by decide +kernel
theorem tf_1677 : tables_1[1677]? = some (Jvm.Cond.instanceMethod ({ cls := "BikeShareModel", name := "comes", desc := "(I)Z" } : Jvm.MethodName)) := by decide +kernel
theorem tf_1678 : tables_1[1678]? = some (Jvm.Cond.code ({ cls := "BikeShareModel", name := "comes", desc := "(I)Z" } : Jvm.MethodName) prog_11_method_83_code (4 : Nat) (Option.some Jvm.ClassFile.FieldType.boolean)) := by decide +kernel
theorem tf_1679 : tables_1[1679]? = some (Jvm.Cond.methodLink "BikeShareModel" (323 : Nat) ({ cls := "BikeShareModel", name := "begin", desc := "(II)I" } : Jvm.MethodName)) := by decide +kernel
theorem tf_1681 : tables_1[1681]? = some (Jvm.Cond.instanceMethod ({ cls := "BikeShareModel", name := "begin", desc := "(II)I" } : Jvm.MethodName)) := by decide +kernel
theorem tf_1682 : tables_1[1682]? = some (Jvm.Cond.code ({ cls := "BikeShareModel", name := "begin", desc := "(II)I" } : Jvm.MethodName) prog_11_method_68_code (5 : Nat) (Option.some Jvm.ClassFile.FieldType.int)) := by decide +kernel
theorem tf_1683 : tables_1[1683]? = some (Jvm.Cond.methodLink "BikeShareModel" (335 : Nat) ({ cls := "BikeShareModel", name := "bringBack", desc := "()V" } : Jvm.MethodName)) := by decide +kernel
theorem tf_1685 : tables_1[1685]? = some (Jvm.Cond.instanceMethod ({ cls := "BikeShareModel", name := "bringBack", desc := "()V" } : Jvm.MethodName)) := by decide +kernel
theorem tf_1686 : tables_1[1686]? = some (Jvm.Cond.code ({ cls := "BikeShareModel", name := "bringBack", desc := "()V" } : Jvm.MethodName) prog_11_method_33_code (2 : Nat) (Option.none : Option Jvm.ClassFile.FieldType)) := by decide +kernel
theorem tf_1687 : tables_1[1687]? = some (Jvm.Cond.methodLink "BikeShareLaw" (195 : Nat) ({ cls := "BikeShareModel", name := "runsOut", desc := "(IZ)I" } : Jvm.MethodName)) := by decide +kernel
theorem tf_1688 : tables_1[1688]? = some (Jvm.Cond.instanceMethod ({ cls := "BikeShareModel", name := "runsOut", desc := "(IZ)I" } : Jvm.MethodName)) := by decide +kernel
theorem tf_1689 : tables_1[1689]? = some (Jvm.Cond.selects "BikeShareModel" ({ cls := "BikeShareModel", name := "runsOut", desc := "(IZ)I" } : Jvm.MethodName) ({ cls := "BikeShareModel", name := "runsOut", desc := "(IZ)I" } : Jvm.MethodName)) := by decide +kernel
theorem tf_1690 : tables_1[1690]? = some (Jvm.Cond.code ({ cls := "BikeShareModel", name := "runsOut", desc := "(IZ)I" } : Jvm.MethodName) prog_11_method_88_code (4 : Nat) (Option.some Jvm.ClassFile.FieldType.int)) := by decide +kernel
theorem tf_1691 : tables_1[1691]? = some (Jvm.Cond.methodLink "BikeShareLaw" (198 : Nat) ({ cls := "BikeShareModel", name := "pass", desc := "(I)I" } : Jvm.MethodName)) := by decide +kernel
theorem tf_1692 : tables_1[1692]? = some (Jvm.Cond.instanceMethod ({ cls := "BikeShareModel", name := "pass", desc := "(I)I" } : Jvm.MethodName)) := by decide +kernel
theorem tf_1693 : tables_1[1693]? = some (Jvm.Cond.selects "BikeShareModel" ({ cls := "BikeShareModel", name := "pass", desc := "(I)I" } : Jvm.MethodName) ({ cls := "BikeShareModel", name := "pass", desc := "(I)I" } : Jvm.MethodName)) := by decide +kernel
theorem tf_1694 : tables_1[1694]? = some (Jvm.Cond.code ({ cls := "BikeShareModel", name := "pass", desc := "(I)I" } : Jvm.MethodName) prog_11_method_89_code (4 : Nat) (Option.some Jvm.ClassFile.FieldType.int)) := by decide +kernel
theorem tf_1695 : tables_1[1695]? = some (Jvm.Cond.methodLink "BikeShareModel" (338 : Nat) ({ cls := "BikeShareModel", name := "keep", desc := "()V" } : Jvm.MethodName)) := by decide +kernel
theorem tf_1697 : tables_1[1697]? = some (Jvm.Cond.instanceMethod ({ cls := "BikeShareModel", name := "keep", desc := "()V" } : Jvm.MethodName)) := by decide +kernel
theorem tf_1698 : tables_1[1698]? = some (Jvm.Cond.code ({ cls := "BikeShareModel", name := "keep", desc := "()V" } : Jvm.MethodName) prog_11_method_31_code (2 : Nat) (Option.none : Option Jvm.ClassFile.FieldType)) := by decide +kernel
theorem tf_1699 : tables_1[1699]? = some (Jvm.Cond.methodLink "BikeShareLaw" (201 : Nat) ({ cls := "BikeShareModel", name := "rent", desc := "(II)I" } : Jvm.MethodName)) := by decide +kernel
theorem tf_1700 : tables_1[1700]? = some (Jvm.Cond.instanceMethod ({ cls := "BikeShareModel", name := "rent", desc := "(II)I" } : Jvm.MethodName)) := by decide +kernel
theorem tf_1701 : tables_1[1701]? = some (Jvm.Cond.selects "BikeShareModel" ({ cls := "BikeShareModel", name := "rent", desc := "(II)I" } : Jvm.MethodName) ({ cls := "BikeShareModel", name := "rent", desc := "(II)I" } : Jvm.MethodName)) := by decide +kernel
theorem tf_1702 : tables_1[1702]? = some (Jvm.Cond.code ({ cls := "BikeShareModel", name := "rent", desc := "(II)I" } : Jvm.MethodName) prog_11_method_90_code (3 : Nat) (Option.some Jvm.ClassFile.FieldType.int)) := by decide +kernel
theorem tf_1703 : tables_1[1703]? = some (Jvm.Cond.methodLink "BikeShareLaw" (205 : Nat) ({ cls := "BikeShareModel", name := "dispatch", desc := "(III)I" } : Jvm.MethodName)) := by decide +kernel
theorem tf_1704 : tables_1[1704]? = some (Jvm.Cond.instanceMethod ({ cls := "BikeShareModel", name := "dispatch", desc := "(III)I" } : Jvm.MethodName)) := by decide +kernel
theorem tf_1705 : tables_1[1705]? = some (Jvm.Cond.selects "BikeShareModel" ({ cls := "BikeShareModel", name := "dispatch", desc := "(III)I" } : Jvm.MethodName) ({ cls := "BikeShareModel", name := "dispatch", desc := "(III)I" } : Jvm.MethodName)) := by decide +kernel
theorem tf_1706 : tables_1[1706]? = some (Jvm.Cond.code ({ cls := "BikeShareModel", name := "dispatch", desc := "(III)I" } : Jvm.MethodName) prog_11_method_91_code (4 : Nat) (Option.some Jvm.ClassFile.FieldType.int)) := by decide +kernel
theorem tf_1707 : tables_1[1707]? = some (Jvm.Cond.methodLink "BikeShareLaw" (208 : Nat) ({ cls := "BikeShareModel", name := "cancel", desc := "(I)I" } : Jvm.MethodName)) := by decide +kernel
theorem tf_1708 : tables_1[1708]? = some (Jvm.Cond.instanceMethod ({ cls := "BikeShareModel", name := "cancel", desc := "(I)I" } : Jvm.MethodName)) := by decide +kernel
theorem tf_1709 : tables_1[1709]? = some (Jvm.Cond.selects "BikeShareModel" ({ cls := "BikeShareModel", name := "cancel", desc := "(I)I" } : Jvm.MethodName) ({ cls := "BikeShareModel", name := "cancel", desc := "(I)I" } : Jvm.MethodName)) := by decide +kernel
theorem tf_1710 : tables_1[1710]? = some (Jvm.Cond.code ({ cls := "BikeShareModel", name := "cancel", desc := "(I)I" } : Jvm.MethodName) prog_11_method_92_code (3 : Nat) (Option.some Jvm.ClassFile.FieldType.int)) := by decide +kernel
theorem tf_1711 : tables_1[1711]? = some (Jvm.Cond.methodLink "BikeShareLaw" (211 : Nat) ({ cls := "BikeShareModel", name := "breakDock", desc := "(I)I" } : Jvm.MethodName)) := by decide +kernel
theorem tf_1712 : tables_1[1712]? = some (Jvm.Cond.instanceMethod ({ cls := "BikeShareModel", name := "breakDock", desc := "(I)I" } : Jvm.MethodName)) := by decide +kernel
theorem tf_1713 : tables_1[1713]? = some (Jvm.Cond.selects "BikeShareModel" ({ cls := "BikeShareModel", name := "breakDock", desc := "(I)I" } : Jvm.MethodName) ({ cls := "BikeShareModel", name := "breakDock", desc := "(I)I" } : Jvm.MethodName)) := by decide +kernel
theorem tf_1714 : tables_1[1714]? = some (Jvm.Cond.code ({ cls := "BikeShareModel", name := "breakDock", desc := "(I)I" } : Jvm.MethodName) prog_11_method_93_code (2 : Nat) (Option.some Jvm.ClassFile.FieldType.int)) := by decide +kernel
theorem tf_1715 : tables_1[1715]? = some (Jvm.Cond.methodLink "BikeShareLaw" (214 : Nat) ({ cls := "BikeShareModel", name := "repairDock", desc := "(I)I" } : Jvm.MethodName)) := by decide +kernel
theorem tf_1716 : tables_1[1716]? = some (Jvm.Cond.instanceMethod ({ cls := "BikeShareModel", name := "repairDock", desc := "(I)I" } : Jvm.MethodName)) := by decide +kernel
theorem tf_1717 : tables_1[1717]? = some (Jvm.Cond.selects "BikeShareModel" ({ cls := "BikeShareModel", name := "repairDock", desc := "(I)I" } : Jvm.MethodName) ({ cls := "BikeShareModel", name := "repairDock", desc := "(I)I" } : Jvm.MethodName)) := by decide +kernel
theorem tf_1718 : tables_1[1718]? = some (Jvm.Cond.code ({ cls := "BikeShareModel", name := "repairDock", desc := "(I)I" } : Jvm.MethodName) prog_11_method_94_code (2 : Nat) (Option.some Jvm.ClassFile.FieldType.int)) := by decide +kernel
theorem tf_1719 : tables_1[1719]? = some (Jvm.Cond.methodLink "BikeShareLaw" (217 : Nat) ({ cls := "BikeShareModel", name := "addBikes", desc := "(II)I" } : Jvm.MethodName)) := by decide +kernel
theorem tf_1720 : tables_1[1720]? = some (Jvm.Cond.instanceMethod ({ cls := "BikeShareModel", name := "addBikes", desc := "(II)I" } : Jvm.MethodName)) := by decide +kernel
theorem tf_1721 : tables_1[1721]? = some (Jvm.Cond.selects "BikeShareModel" ({ cls := "BikeShareModel", name := "addBikes", desc := "(II)I" } : Jvm.MethodName) ({ cls := "BikeShareModel", name := "addBikes", desc := "(II)I" } : Jvm.MethodName)) := by decide +kernel
theorem tf_1722 : tables_1[1722]? = some (Jvm.Cond.code ({ cls := "BikeShareModel", name := "addBikes", desc := "(II)I" } : Jvm.MethodName) prog_11_method_95_code (3 : Nat) (Option.some Jvm.ClassFile.FieldType.int)) := by decide +kernel
theorem tf_1723 : tables_1[1723]? = some (Jvm.Cond.methodLink "BikeShareLaw" (220 : Nat) ({ cls := "BikeShareModel", name := "removeBikes", desc := "(II)I" } : Jvm.MethodName)) := by decide +kernel
theorem tf_1724 : tables_1[1724]? = some (Jvm.Cond.instanceMethod ({ cls := "BikeShareModel", name := "removeBikes", desc := "(II)I" } : Jvm.MethodName)) := by decide +kernel
theorem tf_1725 : tables_1[1725]? = some (Jvm.Cond.selects "BikeShareModel" ({ cls := "BikeShareModel", name := "removeBikes", desc := "(II)I" } : Jvm.MethodName) ({ cls := "BikeShareModel", name := "removeBikes", desc := "(II)I" } : Jvm.MethodName)) := by decide +kernel
theorem tf_1726 : tables_1[1726]? = some (Jvm.Cond.code ({ cls := "BikeShareModel", name := "removeBikes", desc := "(II)I" } : Jvm.MethodName) prog_11_method_96_code (3 : Nat) (Option.some Jvm.ClassFile.FieldType.int)) := by decide +kernel
theorem tf_1727 : tables_1[1727]? = some (Jvm.Cond.methodLink "BikeShareLaw" (224 : Nat) ({ cls := "BikeShareModel", name := "undo", desc := "()I" } : Jvm.MethodName)) := by decide +kernel
theorem tf_1728 : tables_1[1728]? = some (Jvm.Cond.instanceMethod ({ cls := "BikeShareModel", name := "undo", desc := "()I" } : Jvm.MethodName)) := by decide +kernel
theorem tf_1729 : tables_1[1729]? = some (Jvm.Cond.selects "BikeShareModel" ({ cls := "BikeShareModel", name := "undo", desc := "()I" } : Jvm.MethodName) ({ cls := "BikeShareModel", name := "undo", desc := "()I" } : Jvm.MethodName)) := by decide +kernel
theorem tf_1730 : tables_1[1730]? = some (Jvm.Cond.code ({ cls := "BikeShareModel", name := "undo", desc := "()I" } : Jvm.MethodName) prog_11_method_97_code (2 : Nat) (Option.some Jvm.ClassFile.FieldType.int)) := by decide +kernel
theorem tf_1731 : tables_1[1731]? = some (Jvm.Cond.methodLink "BikeShareLaw" (228 : Nat) ({ cls := "BikeShareModel", name := "saveSnapshot", desc := "(I)Z" } : Jvm.MethodName)) := by decide +kernel
theorem tf_1732 : tables_1[1732]? = some (Jvm.Cond.instanceMethod ({ cls := "BikeShareModel", name := "saveSnapshot", desc := "(I)Z" } : Jvm.MethodName)) := by decide +kernel
theorem tf_1733 : tables_1[1733]? = some (Jvm.Cond.selects "BikeShareModel" ({ cls := "BikeShareModel", name := "saveSnapshot", desc := "(I)Z" } : Jvm.MethodName) ({ cls := "BikeShareModel", name := "saveSnapshot", desc := "(I)Z" } : Jvm.MethodName)) := by decide +kernel
theorem tf_1734 : tables_1[1734]? = some (Jvm.Cond.code ({ cls := "BikeShareModel", name := "saveSnapshot", desc := "(I)Z" } : Jvm.MethodName) prog_11_method_98_code (3 : Nat) (Option.some Jvm.ClassFile.FieldType.boolean)) := by decide +kernel
theorem tf_1735 : tables_1[1735]? = some (Jvm.Cond.methodLink "BikeShareLaw" (232 : Nat) ({ cls := "BikeShareModel", name := "restoreSnapshot", desc := "(I)Z" } : Jvm.MethodName)) := by decide +kernel
theorem tf_1736 : tables_1[1736]? = some (Jvm.Cond.instanceMethod ({ cls := "BikeShareModel", name := "restoreSnapshot", desc := "(I)Z" } : Jvm.MethodName)) := by decide +kernel
theorem tf_1737 : tables_1[1737]? = some (Jvm.Cond.selects "BikeShareModel" ({ cls := "BikeShareModel", name := "restoreSnapshot", desc := "(I)Z" } : Jvm.MethodName) ({ cls := "BikeShareModel", name := "restoreSnapshot", desc := "(I)Z" } : Jvm.MethodName)) := by decide +kernel
theorem tf_1738 : tables_1[1738]? = some (Jvm.Cond.code ({ cls := "BikeShareModel", name := "restoreSnapshot", desc := "(I)Z" } : Jvm.MethodName) prog_11_method_99_code (3 : Nat) (Option.some Jvm.ClassFile.FieldType.boolean)) := by decide +kernel
theorem tf_1739 : tables_1[1739]? = some (Jvm.Cond.arrayClass Jvm.ClassFile.FieldType.long) := by decide +kernel
