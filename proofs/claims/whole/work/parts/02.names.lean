/-! names of classes, methods, fields; every word of the tables by its place (printed by wip/gen/names.py) -/
abbrev R_AP : String := "AnswerPost"
abbrev R_RW : String := "AnswerPost$Row"
abbrev R_LE : String := "AnswerPost$Letters"
abbrev R_SE : String := "AnswerPost$Settling"
abbrev R_TU : String := "AnswerPost$Turns"
abbrev R_PA : String := "AnswerPost$Parts"
abbrev R_TR : String := "AnswerPost$Trail"
abbrev R_WR : String := "AnswerPost$Writer"
abbrev R_MI : String := "AnswerPost$Miser"
abbrev R_LA : String := "AnswerPost$Lawyer"
abbrev R_TX : String := "AnswerPost$Text"
abbrev R_MO : String := "AnswerPostModel"
abbrev R_law0 : String := "AnswerPostLaw"
abbrev R_OB : String := "java/lang/Object"
abbrev R_MA : String := "java/lang/Math"
abbrev R_SY : String := "java/lang/System"
abbrev b_AP_init : ByteArray := prog_1_method_1_code
abbrev y_AP_init : MethodName := ⟨"AnswerPost", "<init>", "()V"⟩
abbrev b_OB_init : ByteArray := object_method_1_code
abbrev y_OB_init : MethodName := ⟨"java/lang/Object", "<init>", "()V"⟩
abbrev b_RW_init : ByteArray := prog_6_method_1_code
abbrev y_RW_init : MethodName := ⟨"AnswerPost$Row", "<init>", "()V"⟩
abbrev b_LE_init : ByteArray := prog_3_method_1_code
abbrev y_LE_init : MethodName := ⟨"AnswerPost$Letters", "<init>", "()V"⟩
abbrev b_SE_init : ByteArray := prog_7_method_1_code
abbrev y_SE_init : MethodName := ⟨"AnswerPost$Settling", "<init>", "()V"⟩
abbrev b_TU_init : ByteArray := prog_10_method_1_code
abbrev y_TU_init : MethodName := ⟨"AnswerPost$Turns", "<init>", "()V"⟩
abbrev b_PA_init : ByteArray := prog_5_method_1_code
abbrev y_PA_init : MethodName := ⟨"AnswerPost$Parts", "<init>", "()V"⟩
abbrev b_TR_init : ByteArray := prog_9_method_1_code
abbrev y_TR_init : MethodName := ⟨"AnswerPost$Trail", "<init>", "()V"⟩
abbrev b_AP_post : ByteArray := prog_1_method_2_code
abbrev y_AP_post : MethodName := ⟨"AnswerPost", "post", "(IIII)I"⟩
abbrev b_AP_sheetAt : ByteArray := prog_1_method_35_code
abbrev y_AP_sheetAt : MethodName := ⟨"AnswerPost", "sheetAt", "(I)LAnswerPost$Row;"⟩
abbrev b_AP_isWithin : ByteArray := prog_1_method_31_code
abbrev y_AP_isWithin : MethodName := ⟨"AnswerPost", "isWithin", "(III)Z"⟩
abbrev b_RW_faultOfCells : ByteArray := prog_6_method_7_code
abbrev y_RW_faultOfCells : MethodName := ⟨"AnswerPost$Row", "faultOfCells", "(III)I"⟩
abbrev b_RW_isNothing : ByteArray := prog_6_method_2_code
abbrev y_RW_isNothing : MethodName := ⟨"AnswerPost$Row", "isNothing", "()Z"⟩
abbrev b_RW_hasCells : ByteArray := prog_6_method_5_code
abbrev y_RW_hasCells : MethodName := ⟨"AnswerPost$Row", "hasCells", "(II)Z"⟩
abbrev b_AP_faulted : ByteArray := prog_1_method_36_code
abbrev y_AP_faulted : MethodName := ⟨"AnswerPost", "faulted", "(I)I"⟩
abbrev b_TX_firstFault : ByteArray := prog_8_method_2_code
abbrev y_TX_firstFault : MethodName := ⟨"AnswerPost$Text", "firstFault", "([III)I"⟩
abbrev b_TX_goesOn : ByteArray := prog_8_method_6_code
abbrev y_TX_goesOn : MethodName := ⟨"AnswerPost$Text", "goesOn", "([III)Z"⟩
abbrev b_TX_personsOf : ByteArray := prog_8_method_3_code
abbrev y_TX_personsOf : MethodName := ⟨"AnswerPost$Text", "personsOf", "(I)I"⟩
abbrev b_TX_isSecondDigit : ByteArray := prog_8_method_7_code
abbrev y_TX_isSecondDigit : MethodName := ⟨"AnswerPost$Text", "isSecondDigit", "(II)Z"⟩
abbrev b_TX_letterOf : ByteArray := prog_8_method_4_code
abbrev y_TX_letterOf : MethodName := ⟨"AnswerPost$Text", "letterOf", "(I)I"⟩
abbrev b_AP_settle : ByteArray := prog_1_method_37_code
abbrev y_AP_settle : MethodName := ⟨"AnswerPost", "settle", "([III)V"⟩
abbrev b_TX_liftAt : ByteArray := prog_8_method_5_code
abbrev y_TX_liftAt : MethodName := ⟨"AnswerPost$Text", "liftAt", "([II)I"⟩
abbrev b_AP_newPerson : ByteArray := prog_1_method_38_code
abbrev y_AP_newPerson : MethodName := ⟨"AnswerPost", "newPerson", "(III)LAnswerPost$Writer;"⟩
abbrev b_MI_init : ByteArray := prog_4_method_1_code
abbrev y_MI_init : MethodName := ⟨"AnswerPost$Miser", "<init>", "(II)V"⟩
abbrev b_WR_init : ByteArray := prog_11_method_1_code
abbrev y_WR_init : MethodName := ⟨"AnswerPost$Writer", "<init>", "(II)V"⟩
abbrev b_LA_init : ByteArray := prog_2_method_1_code
abbrev y_LA_init : MethodName := ⟨"AnswerPost$Lawyer", "<init>", "(II)V"⟩
abbrev b_LE_burnLast : ByteArray := prog_3_method_7_code
abbrev y_LE_burnLast : MethodName := ⟨"AnswerPost$Letters", "burnLast", "(I)V"⟩
abbrev b_LE_has : ByteArray := prog_3_method_2_code
abbrev y_LE_has : MethodName := ⟨"AnswerPost$Letters", "has", "(I)Z"⟩
abbrev b_AP_ofPerson : ByteArray := prog_1_method_3_code
abbrev y_AP_ofPerson : MethodName := ⟨"AnswerPost", "ofPerson", "(II)I"⟩
abbrev b_AP_personAt : ByteArray := prog_1_method_34_code
abbrev y_AP_personAt : MethodName := ⟨"AnswerPost", "personAt", "(I)LAnswerPost$Writer;"⟩
abbrev b_LA_kind : ByteArray := prog_2_method_2_code
abbrev y_LA_kind : MethodName := ⟨"AnswerPost$Lawyer", "kind", "()I"⟩
abbrev b_MI_kind : ByteArray := prog_4_method_2_code
abbrev y_MI_kind : MethodName := ⟨"AnswerPost$Miser", "kind", "()I"⟩
abbrev b_WR_kind : ByteArray := prog_11_method_2_code
abbrev y_WR_kind : MethodName := ⟨"AnswerPost$Writer", "kind", "()I"⟩
abbrev b_AP_scale : ByteArray := prog_1_method_4_code
abbrev y_AP_scale : MethodName := ⟨"AnswerPost", "scale", "(II)I"⟩
abbrev b_LA_shows : ByteArray := prog_2_method_3_code
abbrev y_LA_shows : MethodName := ⟨"AnswerPost$Lawyer", "shows", "(I)I"⟩
abbrev b_MI_shows : ByteArray := prog_4_method_3_code
abbrev y_MI_shows : MethodName := ⟨"AnswerPost$Miser", "shows", "(I)I"⟩
abbrev b_WR_shows : ByteArray := prog_11_method_3_code
abbrev y_WR_shows : MethodName := ⟨"AnswerPost$Writer", "shows", "(I)I"⟩
abbrev b_AP_law : ByteArray := prog_1_method_5_code
abbrev y_AP_law : MethodName := ⟨"AnswerPost", "law", "(I)I"⟩
abbrev b_AP_send : ByteArray := prog_1_method_6_code
abbrev y_AP_send : MethodName := ⟨"AnswerPost", "send", "(IIII)I"⟩
abbrev b_AP_isDay : ByteArray := prog_1_method_32_code
abbrev y_AP_isDay : MethodName := ⟨"AnswerPost", "isDay", "(I)Z"⟩
abbrev b_LE_isFull : ByteArray := prog_3_method_3_code
abbrev y_LE_isFull : MethodName := ⟨"AnswerPost$Letters", "isFull", "()Z"⟩
abbrev b_LE_write : ByteArray := prog_3_method_5_code
abbrev y_LE_write : MethodName := ⟨"AnswerPost$Letters", "write", "(LAnswerPost$Writer;III)I"⟩
abbrev b_AP_answer : ByteArray := prog_1_method_7_code
abbrev y_AP_answer : MethodName := ⟨"AnswerPost", "answer", "(III)I"⟩
abbrev b_LE_isAnswered : ByteArray := prog_3_method_4_code
abbrev y_LE_isAnswered : MethodName := ⟨"AnswerPost$Letters", "isAnswered", "(I)Z"⟩
abbrev b_LE_pair : ByteArray := prog_3_method_6_code
abbrev y_LE_pair : MethodName := ⟨"AnswerPost$Letters", "pair", "(II)V"⟩
abbrev b_AP_ofLetter : ByteArray := prog_1_method_8_code
abbrev y_AP_ofLetter : MethodName := ⟨"AnswerPost", "ofLetter", "(II)I"⟩
abbrev b_AP_burn : ByteArray := prog_1_method_9_code
abbrev y_AP_burn : MethodName := ⟨"AnswerPost", "burn", "(I)I"⟩
abbrev b_AP_paid : ByteArray := prog_1_method_10_code
abbrev y_AP_paid : MethodName := ⟨"AnswerPost", "paid", "(II)I"⟩
abbrev b_LE_paidBy : ByteArray := prog_3_method_8_code
abbrev y_LE_paidBy : MethodName := ⟨"AnswerPost$Letters", "paidBy", "(III)I"⟩
abbrev b_LE_paidIf : ByteArray := prog_3_method_9_code
abbrev y_LE_paidIf : MethodName := ⟨"AnswerPost$Letters", "paidIf", "(IIIII)I"⟩
abbrev b_AP_pays : ByteArray := prog_1_method_39_code
abbrev y_AP_pays : MethodName := ⟨"AnswerPost", "pays", "(III)I"⟩
abbrev b_AP_owes : ByteArray := prog_1_method_11_code
abbrev y_AP_owes : MethodName := ⟨"AnswerPost", "owes", "(III)I"⟩
abbrev b_LE_owed : ByteArray := prog_3_method_10_code
abbrev y_LE_owed : MethodName := ⟨"AnswerPost$Letters", "owed", "(III)I"⟩
abbrev b_LE_owedFor : ByteArray := prog_3_method_12_code
abbrev y_LE_owedFor : MethodName := ⟨"AnswerPost$Letters", "owedFor", "(II)I"⟩
abbrev b_AP_net : ByteArray := prog_1_method_12_code
abbrev y_AP_net : MethodName := ⟨"AnswerPost", "net", "(II)I"⟩
abbrev b_LE_netOf : ByteArray := prog_3_method_11_code
abbrev y_LE_netOf : MethodName := ⟨"AnswerPost$Letters", "netOf", "(II)I"⟩
abbrev b_AP_settled : ByteArray := prog_1_method_13_code
abbrev y_AP_settled : MethodName := ⟨"AnswerPost", "settled", "(I)I"⟩
abbrev b_SE_clear : ByteArray := prog_7_method_2_code
abbrev y_SE_clear : MethodName := ⟨"AnswerPost$Settling", "clear", "()V"⟩
abbrev b_SE_take : ByteArray := prog_7_method_3_code
abbrev y_SE_take : MethodName := ⟨"AnswerPost$Settling", "take", "(I)V"⟩
abbrev b_SE_fewestPayments : ByteArray := prog_7_method_4_code
abbrev y_SE_fewestPayments : MethodName := ⟨"AnswerPost$Settling", "fewestPayments", "()I"⟩
abbrev b_SE_fill : ByteArray := prog_7_method_5_code
abbrev y_SE_fill : MethodName := ⟨"AnswerPost$Settling", "fill", "(I)V"⟩
abbrev b_MA_max : ByteArray := prog_14_method_65_code
abbrev y_MA_max : MethodName := ⟨"java/lang/Math", "max", "(II)I"⟩
abbrev b_AP_best : ByteArray := prog_1_method_14_code
abbrev y_AP_best : MethodName := ⟨"AnswerPost", "best", "(III)I"⟩
abbrev b_AP_course : ByteArray := prog_1_method_15_code
abbrev y_AP_course : MethodName := ⟨"AnswerPost", "course", "(IIIII)I"⟩
abbrev b_TU_play : ByteArray := prog_10_method_2_code
abbrev y_TU_play : MethodName := ⟨"AnswerPost$Turns", "play", "(LAnswerPost$Writer;LAnswerPost$Writer;III)V"⟩
abbrev b_TU_weighAll : ByteArray := prog_10_method_3_code
abbrev y_TU_weighAll : MethodName := ⟨"AnswerPost$Turns", "weighAll", "(LAnswerPost$Writer;I)V"⟩
abbrev b_MA_min : ByteArray := prog_14_method_69_code
abbrev y_MA_min : MethodName := ⟨"java/lang/Math", "min", "(II)I"⟩
abbrev b_TU_choose : ByteArray := prog_10_method_4_code
abbrev y_TU_choose : MethodName := ⟨"AnswerPost$Turns", "choose", "(II)V"⟩
abbrev b_TU_write : ByteArray := prog_10_method_5_code
abbrev y_TU_write : MethodName := ⟨"AnswerPost$Turns", "write", "(I)V"⟩
abbrev b_AP_cost : ByteArray := prog_1_method_16_code
abbrev y_AP_cost : MethodName := ⟨"AnswerPost", "cost", "(IIIII)I"⟩
abbrev b_AP_split : ByteArray := prog_1_method_17_code
abbrev y_AP_split : MethodName := ⟨"AnswerPost", "split", "(IIIIIII)I"⟩
abbrev b_RW_allWithin : ByteArray := prog_6_method_6_code
abbrev y_RW_allWithin : MethodName := ⟨"AnswerPost$Row", "allWithin", "(IIII)Z"⟩
abbrev b_PA_part : ByteArray := prog_5_method_2_code
abbrev y_PA_part : MethodName := ⟨"AnswerPost$Parts", "part", "(LAnswerPost$Writer;I[IIII)V"⟩
abbrev b_PA_choose : ByteArray := prog_5_method_3_code
abbrev y_PA_choose : MethodName := ⟨"AnswerPost$Parts", "choose", "(III)V"⟩
abbrev b_PA_costOf : ByteArray := prog_5_method_4_code
abbrev y_PA_costOf : MethodName := ⟨"AnswerPost$Parts", "costOf", "(IIII)I"⟩
abbrev b_AP_least : ByteArray := prog_1_method_18_code
abbrev y_AP_least : MethodName := ⟨"AnswerPost", "least", "(III)I"⟩
abbrev b_AP_weights : ByteArray := prog_1_method_19_code
abbrev y_AP_weights : MethodName := ⟨"AnswerPost", "weights", "(IIIII)I"⟩
abbrev b_AP_sheet : ByteArray := prog_1_method_20_code
abbrev y_AP_sheet : MethodName := ⟨"AnswerPost", "sheet", "(III)I"⟩
abbrev b_RW_begin : ByteArray := prog_6_method_3_code
abbrev y_RW_begin : MethodName := ⟨"AnswerPost$Row", "begin", "(II)V"⟩
abbrev b_AP_lose : ByteArray := prog_1_method_21_code
abbrev y_AP_lose : MethodName := ⟨"AnswerPost", "lose", "(I)I"⟩
abbrev b_AP_put : ByteArray := prog_1_method_22_code
abbrev y_AP_put : MethodName := ⟨"AnswerPost", "put", "(III)I"⟩
abbrev b_RW_cut : ByteArray := prog_6_method_4_code
abbrev y_RW_cut : MethodName := ⟨"AnswerPost$Row", "cut", "(I)I"⟩
abbrev b_AP_cell : ByteArray := prog_1_method_23_code
abbrev y_AP_cell : MethodName := ⟨"AnswerPost", "cell", "(III)J"⟩
abbrev b_AP_copy : ByteArray := prog_1_method_24_code
abbrev y_AP_copy : MethodName := ⟨"AnswerPost", "copy", "(IIIII)I"⟩
abbrev b_AP_tell : ByteArray := prog_1_method_25_code
abbrev y_AP_tell : MethodName := ⟨"AnswerPost", "tell", "(I)I"⟩
abbrev b_LA_telling : ByteArray := prog_2_method_4_code
abbrev y_LA_telling : MethodName := ⟨"AnswerPost$Lawyer", "telling", "(LAnswerPost$Trail;)I"⟩
abbrev b_TR_leave : ByteArray := prog_9_method_2_code
abbrev y_TR_leave : MethodName := ⟨"AnswerPost$Trail", "leave", "(I)V"⟩
abbrev b_MI_telling : ByteArray := prog_4_method_4_code
abbrev y_MI_telling : MethodName := ⟨"AnswerPost$Miser", "telling", "(LAnswerPost$Trail;)I"⟩
abbrev b_WR_writersTelling : ByteArray := prog_11_method_5_code
abbrev y_WR_writersTelling : MethodName := ⟨"AnswerPost$Writer", "writersTelling", "(LAnswerPost$Trail;)I"⟩
abbrev b_WR_telling : ByteArray := prog_11_method_4_code
abbrev y_WR_telling : MethodName := ⟨"AnswerPost$Writer", "telling", "(LAnswerPost$Trail;)I"⟩
abbrev b_AP_greet : ByteArray := prog_1_method_26_code
abbrev y_AP_greet : MethodName := ⟨"AnswerPost", "greet", "(I)I"⟩
abbrev b_LA_greeting : ByteArray := prog_2_method_5_code
abbrev y_LA_greeting : MethodName := ⟨"AnswerPost$Lawyer", "greeting", "(LAnswerPost$Trail;)I"⟩
abbrev b_WR_greeting : ByteArray := prog_11_method_6_code
abbrev y_WR_greeting : MethodName := ⟨"AnswerPost$Writer", "greeting", "(LAnswerPost$Trail;)I"⟩
abbrev b_AP_as : ByteArray := prog_1_method_27_code
abbrev y_AP_as : MethodName := ⟨"AnswerPost", "as", "(II)I"⟩
abbrev b_AP_isOfKind : ByteArray := prog_1_method_33_code
abbrev y_AP_isOfKind : MethodName := ⟨"AnswerPost", "isOfKind", "(LAnswerPost$Writer;I)Z"⟩
abbrev b_AP_trace : ByteArray := prog_1_method_28_code
abbrev y_AP_trace : MethodName := ⟨"AnswerPost", "trace", "()I"⟩
abbrev b_AP_fault : ByteArray := prog_1_method_29_code
abbrev y_AP_fault : MethodName := ⟨"AnswerPost", "fault", "()I"⟩
abbrev b_AP_many : ByteArray := prog_1_method_30_code
abbrev y_AP_many : MethodName := ⟨"AnswerPost", "many", "(I)I"⟩
abbrev b_MO_init : ByteArray := prog_13_method_1_code
abbrev y_MO_init : MethodName := ⟨"AnswerPostModel", "<init>", "()V"⟩
abbrev b_MO_post : ByteArray := prog_13_method_11_code
abbrev y_MO_post : MethodName := ⟨"AnswerPostModel", "post", "(IIII)I"⟩
abbrev b_MO_isSheet : ByteArray := prog_13_method_6_code
abbrev y_MO_isSheet : MethodName := ⟨"AnswerPostModel", "isSheet", "(I)Z"⟩
abbrev b_MO_within : ByteArray := prog_13_method_5_code
abbrev y_MO_within : MethodName := ⟨"AnswerPostModel", "within", "(III)Z"⟩
abbrev b_MO_isSort : ByteArray := prog_13_method_7_code
abbrev y_MO_isSort : MethodName := ⟨"AnswerPostModel", "isSort", "(I)Z"⟩
abbrev b_MO_against : ByteArray := prog_13_method_8_code
abbrev y_MO_against : MethodName := ⟨"AnswerPostModel", "against", "(IIII)I"⟩
abbrev b_MO_fails : ByteArray := prog_13_method_3_code
abbrev y_MO_fails : MethodName := ⟨"AnswerPostModel", "fails", "(I)I"⟩
abbrev b_MO_readPost : ByteArray := prog_13_method_12_code
abbrev y_MO_readPost : MethodName := ⟨"AnswerPostModel", "readPost", "(I)Z"⟩
abbrev b_MO_readPerson : ByteArray := prog_13_method_13_code
abbrev y_MO_readPerson : MethodName := ⟨"AnswerPostModel", "readPerson", "(I)Z"⟩
abbrev b_MO_ofPerson : ByteArray := prog_13_method_14_code
abbrev y_MO_ofPerson : MethodName := ⟨"AnswerPostModel", "ofPerson", "(II)I"⟩
abbrev b_MO_isPerson : ByteArray := prog_13_method_9_code
abbrev y_MO_isPerson : MethodName := ⟨"AnswerPostModel", "isPerson", "(I)Z"⟩
abbrev b_MO_scale : ByteArray := prog_13_method_16_code
abbrev y_MO_scale : MethodName := ⟨"AnswerPostModel", "scale", "(II)I"⟩
abbrev b_MO_shows : ByteArray := prog_13_method_15_code
abbrev y_MO_shows : MethodName := ⟨"AnswerPostModel", "shows", "(II)I"⟩
abbrev b_MO_law : ByteArray := prog_13_method_17_code
abbrev y_MO_law : MethodName := ⟨"AnswerPostModel", "law", "(I)I"⟩
abbrev b_MO_send : ByteArray := prog_13_method_21_code
abbrev y_MO_send : MethodName := ⟨"AnswerPostModel", "send", "(IIII)I"⟩
abbrev b_MO_isDay : ByteArray := prog_13_method_10_code
abbrev y_MO_isDay : MethodName := ⟨"AnswerPostModel", "isDay", "(I)Z"⟩
abbrev b_MO_write : ByteArray := prog_13_method_20_code
abbrev y_MO_write : MethodName := ⟨"AnswerPostModel", "write", "(IIIII)I"⟩
abbrev b_MO_answer : ByteArray := prog_13_method_22_code
abbrev y_MO_answer : MethodName := ⟨"AnswerPostModel", "answer", "(III)I"⟩
abbrev b_MO_isLetter : ByteArray := prog_13_method_19_code
abbrev y_MO_isLetter : MethodName := ⟨"AnswerPostModel", "isLetter", "(I)Z"⟩
abbrev b_MO_ofLetter : ByteArray := prog_13_method_24_code
abbrev y_MO_ofLetter : MethodName := ⟨"AnswerPostModel", "ofLetter", "(II)I"⟩
abbrev b_MO_scaleOf : ByteArray := prog_13_method_23_code
abbrev y_MO_scaleOf : MethodName := ⟨"AnswerPostModel", "scaleOf", "(I)I"⟩
abbrev b_MO_burn : ByteArray := prog_13_method_25_code
abbrev y_MO_burn : MethodName := ⟨"AnswerPostModel", "burn", "(I)I"⟩
abbrev b_MO_paid : ByteArray := prog_13_method_27_code
abbrev y_MO_paid : MethodName := ⟨"AnswerPostModel", "paid", "(II)I"⟩
abbrev b_MO_paidBy : ByteArray := prog_13_method_26_code
abbrev y_MO_paidBy : MethodName := ⟨"AnswerPostModel", "paidBy", "(II)I"⟩
abbrev b_MO_pays : ByteArray := prog_13_method_18_code
abbrev y_MO_pays : MethodName := ⟨"AnswerPostModel", "pays", "(II)I"⟩
abbrev b_MO_owes : ByteArray := prog_13_method_29_code
abbrev y_MO_owes : MethodName := ⟨"AnswerPostModel", "owes", "(III)I"⟩
abbrev b_MO_owed : ByteArray := prog_13_method_28_code
abbrev y_MO_owed : MethodName := ⟨"AnswerPostModel", "owed", "(III)I"⟩
abbrev b_MO_net : ByteArray := prog_13_method_31_code
abbrev y_MO_net : MethodName := ⟨"AnswerPostModel", "net", "(II)I"⟩
abbrev b_MO_netOf : ByteArray := prog_13_method_30_code
abbrev y_MO_netOf : MethodName := ⟨"AnswerPostModel", "netOf", "(II)I"⟩
abbrev b_MO_settled : ByteArray := prog_13_method_32_code
abbrev y_MO_settled : MethodName := ⟨"AnswerPostModel", "settled", "(I)I"⟩
abbrev b_MO_best : ByteArray := prog_13_method_34_code
abbrev y_MO_best : MethodName := ⟨"AnswerPostModel", "best", "(III)I"⟩
abbrev b_MO_findBest : ByteArray := prog_13_method_33_code
abbrev y_MO_findBest : MethodName := ⟨"AnswerPostModel", "findBest", "(II)V"⟩
abbrev b_MO_course : ByteArray := prog_13_method_39_code
abbrev y_MO_course : MethodName := ⟨"AnswerPostModel", "course", "(IIIII)I"⟩
abbrev b_MO_areTwo : ByteArray := prog_13_method_38_code
abbrev y_MO_areTwo : MethodName := ⟨"AnswerPostModel", "areTwo", "(II)Z"⟩
abbrev b_MO_layCourse : ByteArray := prog_13_method_37_code
abbrev y_MO_layCourse : MethodName := ⟨"AnswerPostModel", "layCourse", "(IIII)V"⟩
abbrev b_MO_spot : ByteArray := prog_13_method_35_code
abbrev y_MO_spot : MethodName := ⟨"AnswerPostModel", "spot", "(II)I"⟩
abbrev b_MO_layTurn : ByteArray := prog_13_method_36_code
abbrev y_MO_layTurn : MethodName := ⟨"AnswerPostModel", "layTurn", "(IIIII)V"⟩
abbrev b_MO_cost : ByteArray := prog_13_method_40_code
abbrev y_MO_cost : MethodName := ⟨"AnswerPostModel", "cost", "(IIIII)I"⟩
abbrev b_MO_split : ByteArray := prog_13_method_43_code
abbrev y_MO_split : MethodName := ⟨"AnswerPostModel", "split", "(IIIIIII)I"⟩
abbrev b_MO_layParts : ByteArray := prog_13_method_42_code
abbrev y_MO_layParts : MethodName := ⟨"AnswerPostModel", "layParts", "(III)V"⟩
abbrev b_MO_partPays : ByteArray := prog_13_method_41_code
abbrev y_MO_partPays : MethodName := ⟨"AnswerPostModel", "partPays", "(III)I"⟩
abbrev b_MO_partOf : ByteArray := prog_13_method_44_code
abbrev y_MO_partOf : MethodName := ⟨"AnswerPostModel", "partOf", "(III)I"⟩
abbrev b_MO_least : ByteArray := prog_13_method_45_code
abbrev y_MO_least : MethodName := ⟨"AnswerPostModel", "least", "(III)I"⟩
abbrev b_MO_weights : ByteArray := prog_13_method_46_code
abbrev y_MO_weights : MethodName := ⟨"AnswerPostModel", "weights", "(IIIII)I"⟩
abbrev b_MO_sheet : ByteArray := prog_13_method_47_code
abbrev y_MO_sheet : MethodName := ⟨"AnswerPostModel", "sheet", "(III)I"⟩
abbrev b_MO_lose : ByteArray := prog_13_method_48_code
abbrev y_MO_lose : MethodName := ⟨"AnswerPostModel", "lose", "(I)I"⟩
abbrev b_MO_put : ByteArray := prog_13_method_49_code
abbrev y_MO_put : MethodName := ⟨"AnswerPostModel", "put", "(III)I"⟩
abbrev b_MO_cell : ByteArray := prog_13_method_50_code
abbrev y_MO_cell : MethodName := ⟨"AnswerPostModel", "cell", "(III)J"⟩
abbrev b_MO_lost : ByteArray := prog_13_method_4_code
abbrev y_MO_lost : MethodName := ⟨"AnswerPostModel", "lost", "(I)J"⟩
abbrev b_MO_copy : ByteArray := prog_13_method_51_code
abbrev y_MO_copy : MethodName := ⟨"AnswerPostModel", "copy", "(IIIII)I"⟩
abbrev b_MO_tell : ByteArray := prog_13_method_53_code
abbrev y_MO_tell : MethodName := ⟨"AnswerPostModel", "tell", "(I)I"⟩
abbrev b_MO_begins : ByteArray := prog_13_method_52_code
abbrev y_MO_begins : MethodName := ⟨"AnswerPostModel", "begins", "(I)V"⟩
abbrev b_MO_greet : ByteArray := prog_13_method_54_code
abbrev y_MO_greet : MethodName := ⟨"AnswerPostModel", "greet", "(I)I"⟩
abbrev b_MO_as : ByteArray := prog_13_method_55_code
abbrev y_MO_as : MethodName := ⟨"AnswerPostModel", "as", "(II)I"⟩
abbrev b_MO_trace : ByteArray := prog_13_method_56_code
abbrev y_MO_trace : MethodName := ⟨"AnswerPostModel", "trace", "()I"⟩
abbrev b_MO_fault : ByteArray := prog_13_method_57_code
abbrev y_MO_fault : MethodName := ⟨"AnswerPostModel", "fault", "()I"⟩
abbrev b_MO_many : ByteArray := prog_13_method_58_code
abbrev y_MO_many : MethodName := ⟨"AnswerPostModel", "many", "(I)I"⟩
theorem ms_0 : Jvm.Cond.selects "AnswerPost" ⟨"AnswerPost", "sheetAt", "(I)LAnswerPost$Row;"⟩ ⟨"AnswerPost", "sheetAt", "(I)LAnswerPost$Row;"⟩ ∈ lw_tbl := List.mem_of_getElem? (i := 0) rfl
theorem ms_1 : Jvm.Cond.selects "AnswerPost" ⟨"AnswerPost", "faulted", "(I)I"⟩ ⟨"AnswerPost", "faulted", "(I)I"⟩ ∈ lw_tbl := List.mem_of_getElem? (i := 1) rfl
theorem ms_2 : Jvm.Cond.selects "AnswerPost" ⟨"AnswerPost", "settle", "([III)V"⟩ ⟨"AnswerPost", "settle", "([III)V"⟩ ∈ lw_tbl := List.mem_of_getElem? (i := 2) rfl
theorem ms_3 : Jvm.Cond.selects "AnswerPost" ⟨"AnswerPost", "personAt", "(I)LAnswerPost$Writer;"⟩ ⟨"AnswerPost", "personAt", "(I)LAnswerPost$Writer;"⟩ ∈ lw_tbl := List.mem_of_getElem? (i := 3) rfl
theorem ms_4 : Jvm.Cond.selects "AnswerPost$Letters" ⟨"AnswerPost$Letters", "owedFor", "(II)I"⟩ ⟨"AnswerPost$Letters", "owedFor", "(II)I"⟩ ∈ lw_tbl := List.mem_of_getElem? (i := 4) rfl
theorem ms_5 : Jvm.Cond.selects "AnswerPost$Settling" ⟨"AnswerPost$Settling", "fill", "(I)V"⟩ ⟨"AnswerPost$Settling", "fill", "(I)V"⟩ ∈ lw_tbl := List.mem_of_getElem? (i := 5) rfl
theorem ms_6 : Jvm.Cond.selects "AnswerPost$Turns" ⟨"AnswerPost$Turns", "weighAll", "(LAnswerPost$Writer;I)V"⟩ ⟨"AnswerPost$Turns", "weighAll", "(LAnswerPost$Writer;I)V"⟩ ∈ lw_tbl := List.mem_of_getElem? (i := 6) rfl
theorem ms_7 : Jvm.Cond.selects "AnswerPost$Turns" ⟨"AnswerPost$Turns", "choose", "(II)V"⟩ ⟨"AnswerPost$Turns", "choose", "(II)V"⟩ ∈ lw_tbl := List.mem_of_getElem? (i := 7) rfl
theorem ms_8 : Jvm.Cond.selects "AnswerPost$Turns" ⟨"AnswerPost$Turns", "write", "(I)V"⟩ ⟨"AnswerPost$Turns", "write", "(I)V"⟩ ∈ lw_tbl := List.mem_of_getElem? (i := 8) rfl
theorem ms_9 : Jvm.Cond.selects "AnswerPost$Parts" ⟨"AnswerPost$Parts", "choose", "(III)V"⟩ ⟨"AnswerPost$Parts", "choose", "(III)V"⟩ ∈ lw_tbl := List.mem_of_getElem? (i := 9) rfl
theorem ms_10 : Jvm.Cond.selects "AnswerPost$Parts" ⟨"AnswerPost$Parts", "costOf", "(IIII)I"⟩ ⟨"AnswerPost$Parts", "costOf", "(IIII)I"⟩ ∈ lw_tbl := List.mem_of_getElem? (i := 10) rfl
theorem ms_11 : Jvm.Cond.selects "AnswerPostModel" ⟨"AnswerPostModel", "against", "(IIII)I"⟩ ⟨"AnswerPostModel", "against", "(IIII)I"⟩ ∈ lw_tbl := List.mem_of_getElem? (i := 11) rfl
theorem ms_12 : Jvm.Cond.selects "AnswerPostModel" ⟨"AnswerPostModel", "fails", "(I)I"⟩ ⟨"AnswerPostModel", "fails", "(I)I"⟩ ∈ lw_tbl := List.mem_of_getElem? (i := 12) rfl
theorem ms_13 : Jvm.Cond.selects "AnswerPostModel" ⟨"AnswerPostModel", "readPost", "(I)Z"⟩ ⟨"AnswerPostModel", "readPost", "(I)Z"⟩ ∈ lw_tbl := List.mem_of_getElem? (i := 13) rfl
theorem ms_14 : Jvm.Cond.selects "AnswerPostModel" ⟨"AnswerPostModel", "readPerson", "(I)Z"⟩ ⟨"AnswerPostModel", "readPerson", "(I)Z"⟩ ∈ lw_tbl := List.mem_of_getElem? (i := 14) rfl
theorem ms_15 : Jvm.Cond.selects "AnswerPostModel" ⟨"AnswerPostModel", "isPerson", "(I)Z"⟩ ⟨"AnswerPostModel", "isPerson", "(I)Z"⟩ ∈ lw_tbl := List.mem_of_getElem? (i := 15) rfl
theorem ms_16 : Jvm.Cond.selects "AnswerPostModel" ⟨"AnswerPostModel", "shows", "(II)I"⟩ ⟨"AnswerPostModel", "shows", "(II)I"⟩ ∈ lw_tbl := List.mem_of_getElem? (i := 16) rfl
theorem ms_17 : Jvm.Cond.selects "AnswerPostModel" ⟨"AnswerPostModel", "write", "(IIIII)I"⟩ ⟨"AnswerPostModel", "write", "(IIIII)I"⟩ ∈ lw_tbl := List.mem_of_getElem? (i := 17) rfl
theorem ms_18 : Jvm.Cond.selects "AnswerPostModel" ⟨"AnswerPostModel", "isLetter", "(I)Z"⟩ ⟨"AnswerPostModel", "isLetter", "(I)Z"⟩ ∈ lw_tbl := List.mem_of_getElem? (i := 18) rfl
theorem ms_19 : Jvm.Cond.selects "AnswerPostModel" ⟨"AnswerPostModel", "scaleOf", "(I)I"⟩ ⟨"AnswerPostModel", "scaleOf", "(I)I"⟩ ∈ lw_tbl := List.mem_of_getElem? (i := 19) rfl
theorem ms_20 : Jvm.Cond.selects "AnswerPostModel" ⟨"AnswerPostModel", "paidBy", "(II)I"⟩ ⟨"AnswerPostModel", "paidBy", "(II)I"⟩ ∈ lw_tbl := List.mem_of_getElem? (i := 20) rfl
theorem ms_21 : Jvm.Cond.selects "AnswerPostModel" ⟨"AnswerPostModel", "pays", "(II)I"⟩ ⟨"AnswerPostModel", "pays", "(II)I"⟩ ∈ lw_tbl := List.mem_of_getElem? (i := 21) rfl
theorem ms_22 : Jvm.Cond.selects "AnswerPostModel" ⟨"AnswerPostModel", "owed", "(III)I"⟩ ⟨"AnswerPostModel", "owed", "(III)I"⟩ ∈ lw_tbl := List.mem_of_getElem? (i := 22) rfl
theorem ms_23 : Jvm.Cond.selects "AnswerPostModel" ⟨"AnswerPostModel", "netOf", "(II)I"⟩ ⟨"AnswerPostModel", "netOf", "(II)I"⟩ ∈ lw_tbl := List.mem_of_getElem? (i := 23) rfl
theorem ms_24 : Jvm.Cond.selects "AnswerPostModel" ⟨"AnswerPostModel", "findBest", "(II)V"⟩ ⟨"AnswerPostModel", "findBest", "(II)V"⟩ ∈ lw_tbl := List.mem_of_getElem? (i := 24) rfl
theorem ms_25 : Jvm.Cond.selects "AnswerPostModel" ⟨"AnswerPostModel", "areTwo", "(II)Z"⟩ ⟨"AnswerPostModel", "areTwo", "(II)Z"⟩ ∈ lw_tbl := List.mem_of_getElem? (i := 25) rfl
theorem ms_26 : Jvm.Cond.selects "AnswerPostModel" ⟨"AnswerPostModel", "layCourse", "(IIII)V"⟩ ⟨"AnswerPostModel", "layCourse", "(IIII)V"⟩ ∈ lw_tbl := List.mem_of_getElem? (i := 26) rfl
theorem ms_27 : Jvm.Cond.selects "AnswerPostModel" ⟨"AnswerPostModel", "layTurn", "(IIIII)V"⟩ ⟨"AnswerPostModel", "layTurn", "(IIIII)V"⟩ ∈ lw_tbl := List.mem_of_getElem? (i := 27) rfl
theorem ms_28 : Jvm.Cond.selects "AnswerPostModel" ⟨"AnswerPostModel", "layParts", "(III)V"⟩ ⟨"AnswerPostModel", "layParts", "(III)V"⟩ ∈ lw_tbl := List.mem_of_getElem? (i := 28) rfl
theorem ms_29 : Jvm.Cond.selects "AnswerPostModel" ⟨"AnswerPostModel", "partPays", "(III)I"⟩ ⟨"AnswerPostModel", "partPays", "(III)I"⟩ ∈ lw_tbl := List.mem_of_getElem? (i := 29) rfl
theorem ms_30 : Jvm.Cond.selects "AnswerPostModel" ⟨"AnswerPostModel", "partOf", "(III)I"⟩ ⟨"AnswerPostModel", "partOf", "(III)I"⟩ ∈ lw_tbl := List.mem_of_getElem? (i := 30) rfl
theorem ms_31 : Jvm.Cond.selects "AnswerPostModel" ⟨"AnswerPostModel", "lost", "(I)J"⟩ ⟨"AnswerPostModel", "lost", "(I)J"⟩ ∈ lw_tbl := List.mem_of_getElem? (i := 31) rfl
theorem ms_32 : Jvm.Cond.selects "AnswerPostModel" ⟨"AnswerPostModel", "begins", "(I)V"⟩ ⟨"AnswerPostModel", "begins", "(I)V"⟩ ∈ lw_tbl := List.mem_of_getElem? (i := 32) rfl
theorem in_1 {w : Jvm.Cond} (h : w ∈ tables_1_1) : w ∈ lw_tbl := List.mem_append_right _ (List.mem_append_left _ h)
theorem in_2 {w : Jvm.Cond} (h : w ∈ tables_1_2) : w ∈ lw_tbl := List.mem_append_right _ (List.mem_append_right _ (List.mem_append_left _ h))
theorem in_3 {w : Jvm.Cond} (h : w ∈ tables_1_3) : w ∈ lw_tbl := List.mem_append_right _ (List.mem_append_right _ (List.mem_append_right _ (List.mem_append_left _ h)))
theorem in_4 {w : Jvm.Cond} (h : w ∈ tables_1_4) : w ∈ lw_tbl := List.mem_append_right _ (List.mem_append_right _ (List.mem_append_right _ (List.mem_append_right _ h)))
theorem m_0 : (Jvm.Cond.initialized "AnswerPostLaw") ∈ lw_tbl := in_1 (List.mem_of_getElem? (i := 0) rfl)
theorem m_1 : (Jvm.Cond.initialized "AnswerPost") ∈ lw_tbl := in_1 (List.mem_of_getElem? (i := 1) rfl)
theorem m_2 : (Jvm.Cond.initialized "AnswerPost$Row") ∈ lw_tbl := in_1 (List.mem_of_getElem? (i := 2) rfl)
theorem m_3 : (Jvm.Cond.initialized "AnswerPost$Letters") ∈ lw_tbl := in_1 (List.mem_of_getElem? (i := 3) rfl)
theorem m_4 : (Jvm.Cond.initialized "AnswerPost$Settling") ∈ lw_tbl := in_1 (List.mem_of_getElem? (i := 4) rfl)
theorem m_5 : (Jvm.Cond.initialized "AnswerPost$Turns") ∈ lw_tbl := in_1 (List.mem_of_getElem? (i := 5) rfl)
theorem m_6 : (Jvm.Cond.initialized "AnswerPost$Parts") ∈ lw_tbl := in_1 (List.mem_of_getElem? (i := 6) rfl)
theorem m_7 : (Jvm.Cond.initialized "AnswerPost$Trail") ∈ lw_tbl := in_1 (List.mem_of_getElem? (i := 7) rfl)
theorem m_8 : (Jvm.Cond.initialized "AnswerPostModel") ∈ lw_tbl := in_1 (List.mem_of_getElem? (i := 8) rfl)
theorem m_9 : (Jvm.Cond.initialized "AnswerPost$Text") ∈ lw_tbl := in_1 (List.mem_of_getElem? (i := 9) rfl)
theorem m_10 : (Jvm.Cond.initialized "AnswerPost$Writer") ∈ lw_tbl := in_1 (List.mem_of_getElem? (i := 10) rfl)
theorem m_11 : (Jvm.Cond.initialized "AnswerPost$Miser") ∈ lw_tbl := in_1 (List.mem_of_getElem? (i := 11) rfl)
theorem m_12 : (Jvm.Cond.initialized "AnswerPost$Lawyer") ∈ lw_tbl := in_1 (List.mem_of_getElem? (i := 12) rfl)
theorem m_13 : (Jvm.Cond.initialized "java/lang/Math") ∈ lw_tbl := in_1 (List.mem_of_getElem? (i := 13) rfl)
theorem m_14 : (Jvm.Cond.initialized "java/lang/System") ∈ lw_tbl := in_1 (List.mem_of_getElem? (i := 14) rfl)
theorem m_15 : (Jvm.Cond.classLink "AnswerPostLaw" (7 : Nat) "AnswerPost") ∈ lw_tbl := in_1 (List.mem_of_getElem? (i := 15) rfl)
theorem m_16 : (Jvm.Cond.instantiable "AnswerPost" (10 : Nat)) ∈ lw_tbl := in_1 (List.mem_of_getElem? (i := 16) rfl)
theorem m_17 : (Jvm.Cond.methodLink "AnswerPostLaw" (9 : Nat) ({ cls := "AnswerPost", name := "<init>", desc := "()V" } : Jvm.MethodName)) ∈ lw_tbl := in_1 (List.mem_of_getElem? (i := 17) rfl)
theorem m_18 : (Jvm.Cond.instanceMethod ({ cls := "AnswerPost", name := "<init>", desc := "()V" } : Jvm.MethodName)) ∈ lw_tbl := in_1 (List.mem_of_getElem? (i := 18) rfl)
theorem m_19 : (Jvm.Cond.code ({ cls := "AnswerPost", name := "<init>", desc := "()V" } : Jvm.MethodName) prog_1_method_1_code (2 : Nat) (Option.none : Option Jvm.ClassFile.FieldType)) ∈ lw_tbl := in_1 (List.mem_of_getElem? (i := 19) rfl)
theorem m_20 : (Jvm.Cond.methodLink "AnswerPost" (3 : Nat) ({ cls := "java/lang/Object", name := "<init>", desc := "()V" } : Jvm.MethodName)) ∈ lw_tbl := in_1 (List.mem_of_getElem? (i := 20) rfl)
theorem m_21 : (Jvm.Cond.instanceMethod ({ cls := "java/lang/Object", name := "<init>", desc := "()V" } : Jvm.MethodName)) ∈ lw_tbl := in_1 (List.mem_of_getElem? (i := 21) rfl)
theorem m_22 : (Jvm.Cond.code ({ cls := "java/lang/Object", name := "<init>", desc := "()V" } : Jvm.MethodName) object_method_1_code (1 : Nat) (Option.none : Option Jvm.ClassFile.FieldType)) ∈ lw_tbl := in_1 (List.mem_of_getElem? (i := 22) rfl)
theorem m_23 : (Jvm.Cond.classLink "AnswerPost" (11 : Nat) "AnswerPost$Row") ∈ lw_tbl := in_1 (List.mem_of_getElem? (i := 23) rfl)
theorem m_24 : (Jvm.Cond.arrayOver (Jvm.ClassFile.FieldType.object "AnswerPost$Row")) ∈ lw_tbl := in_1 (List.mem_of_getElem? (i := 24) rfl)
theorem m_25 : (Jvm.Cond.instantiable "AnswerPost$Row" (3 : Nat)) ∈ lw_tbl := in_1 (List.mem_of_getElem? (i := 25) rfl)
theorem m_26 : (Jvm.Cond.methodLinkNest "AnswerPost" (17 : Nat) ({ cls := "AnswerPost$Row", name := "<init>", desc := "()V" } : Jvm.MethodName) "AnswerPost") ∈ lw_tbl := in_1 (List.mem_of_getElem? (i := 26) rfl)
theorem m_27 : (Jvm.Cond.instanceMethod ({ cls := "AnswerPost$Row", name := "<init>", desc := "()V" } : Jvm.MethodName)) ∈ lw_tbl := in_1 (List.mem_of_getElem? (i := 27) rfl)
theorem m_28 : (Jvm.Cond.code ({ cls := "AnswerPost$Row", name := "<init>", desc := "()V" } : Jvm.MethodName) prog_6_method_1_code (1 : Nat) (Option.none : Option Jvm.ClassFile.FieldType)) ∈ lw_tbl := in_1 (List.mem_of_getElem? (i := 28) rfl)
theorem m_29 : (Jvm.Cond.methodLink "AnswerPost$Row" (3 : Nat) ({ cls := "java/lang/Object", name := "<init>", desc := "()V" } : Jvm.MethodName)) ∈ lw_tbl := in_1 (List.mem_of_getElem? (i := 29) rfl)
theorem m_30 : (Jvm.Cond.fieldLink "AnswerPost$Row" (9 : Nat) "AnswerPost$Row" "cells" "[I") ∈ lw_tbl := in_1 (List.mem_of_getElem? (i := 30) rfl)
theorem m_31 : (Jvm.Cond.fieldLink "AnswerPost" (79 : Nat) "AnswerPost$Row" "cells" "[I") ∈ lw_tbl := in_1 (List.mem_of_getElem? (i := 31) rfl)
theorem m_32 : (Jvm.Cond.fieldLink "AnswerPost$Row" (15 : Nat) "AnswerPost$Row" "lane" "I") ∈ lw_tbl := in_1 (List.mem_of_getElem? (i := 32) rfl)
theorem m_33 : (Jvm.Cond.fieldLink "AnswerPost" (224 : Nat) "AnswerPost$Row" "lane" "I") ∈ lw_tbl := in_1 (List.mem_of_getElem? (i := 33) rfl)
theorem m_34 : (Jvm.Cond.fieldLink "AnswerPost$Row" (19 : Nat) "AnswerPost$Row" "size" "I") ∈ lw_tbl := in_1 (List.mem_of_getElem? (i := 34) rfl)
theorem m_35 : (Jvm.Cond.laysFinal "AnswerPost$Row" "AnswerPost$Row" "cells" "[I") ∈ lw_tbl := in_1 (List.mem_of_getElem? (i := 35) rfl)
theorem m_36 : (Jvm.Cond.soleField "AnswerPost$Row" "cells") ∈ lw_tbl := in_1 (List.mem_of_getElem? (i := 36) rfl)
theorem m_37 : (Jvm.Cond.lays "AnswerPost$Row" "AnswerPost$Row" "lane" "I") ∈ lw_tbl := in_1 (List.mem_of_getElem? (i := 37) rfl)
theorem m_38 : (Jvm.Cond.soleField "AnswerPost$Row" "lane") ∈ lw_tbl := in_1 (List.mem_of_getElem? (i := 38) rfl)
theorem m_39 : (Jvm.Cond.lays "AnswerPost$Row" "AnswerPost$Row" "size" "I") ∈ lw_tbl := in_1 (List.mem_of_getElem? (i := 39) rfl)
theorem m_40 : (Jvm.Cond.soleField "AnswerPost$Row" "size") ∈ lw_tbl := in_1 (List.mem_of_getElem? (i := 40) rfl)
theorem m_41 : (Jvm.Cond.superclass "AnswerPost$Row" "java/lang/Object") ∈ lw_tbl := in_1 (List.mem_of_getElem? (i := 41) rfl)
theorem m_42 : (Jvm.Cond.arrayClass Jvm.ClassFile.FieldType.int) ∈ lw_tbl := in_1 (List.mem_of_getElem? (i := 42) rfl)
theorem m_43 : (Jvm.Cond.classLink "AnswerPost" (18 : Nat) "AnswerPost$Writer") ∈ lw_tbl := in_1 (List.mem_of_getElem? (i := 43) rfl)
theorem m_44 : (Jvm.Cond.arrayOver (Jvm.ClassFile.FieldType.object "AnswerPost$Writer")) ∈ lw_tbl := in_1 (List.mem_of_getElem? (i := 44) rfl)
theorem m_45 : (Jvm.Cond.classLink "AnswerPost" (24 : Nat) "AnswerPost$Letters") ∈ lw_tbl := in_1 (List.mem_of_getElem? (i := 45) rfl)
theorem m_46 : (Jvm.Cond.instantiable "AnswerPost$Letters" (8 : Nat)) ∈ lw_tbl := in_1 (List.mem_of_getElem? (i := 46) rfl)
theorem m_47 : (Jvm.Cond.methodLinkNest "AnswerPost" (26 : Nat) ({ cls := "AnswerPost$Letters", name := "<init>", desc := "()V" } : Jvm.MethodName) "AnswerPost") ∈ lw_tbl := in_1 (List.mem_of_getElem? (i := 47) rfl)
theorem m_48 : (Jvm.Cond.instanceMethod ({ cls := "AnswerPost$Letters", name := "<init>", desc := "()V" } : Jvm.MethodName)) ∈ lw_tbl := in_1 (List.mem_of_getElem? (i := 48) rfl)
theorem m_49 : (Jvm.Cond.code ({ cls := "AnswerPost$Letters", name := "<init>", desc := "()V" } : Jvm.MethodName) prog_3_method_1_code (1 : Nat) (Option.none : Option Jvm.ClassFile.FieldType)) ∈ lw_tbl := in_1 (List.mem_of_getElem? (i := 49) rfl)
theorem m_50 : (Jvm.Cond.methodLink "AnswerPost$Letters" (3 : Nat) ({ cls := "java/lang/Object", name := "<init>", desc := "()V" } : Jvm.MethodName)) ∈ lw_tbl := in_1 (List.mem_of_getElem? (i := 50) rfl)
theorem m_51 : (Jvm.Cond.fieldLink "AnswerPost$Letters" (9 : Nat) "AnswerPost$Letters" "from" "[I") ∈ lw_tbl := in_1 (List.mem_of_getElem? (i := 51) rfl)
theorem m_52 : (Jvm.Cond.fieldLink "AnswerPost" (137 : Nat) "AnswerPost$Letters" "from" "[I") ∈ lw_tbl := in_1 (List.mem_of_getElem? (i := 52) rfl)
theorem m_53 : (Jvm.Cond.fieldLink "AnswerPost$Letters" (15 : Nat) "AnswerPost$Letters" "to" "[I") ∈ lw_tbl := in_1 (List.mem_of_getElem? (i := 53) rfl)
theorem m_54 : (Jvm.Cond.fieldLink "AnswerPost" (134 : Nat) "AnswerPost$Letters" "to" "[I") ∈ lw_tbl := in_1 (List.mem_of_getElem? (i := 54) rfl)
theorem m_55 : (Jvm.Cond.fieldLink "AnswerPost$Letters" (18 : Nat) "AnswerPost$Letters" "weight" "[I") ∈ lw_tbl := in_1 (List.mem_of_getElem? (i := 55) rfl)
theorem m_56 : (Jvm.Cond.fieldLink "AnswerPost" (144 : Nat) "AnswerPost$Letters" "weight" "[I") ∈ lw_tbl := in_1 (List.mem_of_getElem? (i := 56) rfl)
theorem m_57 : (Jvm.Cond.fieldLink "AnswerPost$Letters" (21 : Nat) "AnswerPost$Letters" "day" "[I") ∈ lw_tbl := in_1 (List.mem_of_getElem? (i := 57) rfl)
theorem m_58 : (Jvm.Cond.fieldLink "AnswerPost" (128 : Nat) "AnswerPost$Letters" "day" "[I") ∈ lw_tbl := in_1 (List.mem_of_getElem? (i := 58) rfl)
theorem m_59 : (Jvm.Cond.fieldLink "AnswerPost$Letters" (24 : Nat) "AnswerPost$Letters" "shown" "[I") ∈ lw_tbl := in_1 (List.mem_of_getElem? (i := 59) rfl)
theorem m_60 : (Jvm.Cond.fieldLink "AnswerPost" (153 : Nat) "AnswerPost$Letters" "shown" "[I") ∈ lw_tbl := in_1 (List.mem_of_getElem? (i := 60) rfl)
theorem m_61 : (Jvm.Cond.fieldLink "AnswerPost$Letters" (27 : Nat) "AnswerPost$Letters" "answer" "[I") ∈ lw_tbl := in_1 (List.mem_of_getElem? (i := 61) rfl)
theorem m_62 : (Jvm.Cond.fieldLink "AnswerPost" (147 : Nat) "AnswerPost$Letters" "answer" "[I") ∈ lw_tbl := in_1 (List.mem_of_getElem? (i := 62) rfl)
theorem m_63 : (Jvm.Cond.fieldLink "AnswerPost$Letters" (30 : Nat) "AnswerPost$Letters" "answered" "[I") ∈ lw_tbl := in_1 (List.mem_of_getElem? (i := 63) rfl)
theorem m_64 : (Jvm.Cond.fieldLink "AnswerPost" (150 : Nat) "AnswerPost$Letters" "answered" "[I") ∈ lw_tbl := in_1 (List.mem_of_getElem? (i := 64) rfl)
theorem m_65 : (Jvm.Cond.fieldLink "AnswerPost$Letters" (33 : Nat) "AnswerPost$Letters" "count" "I") ∈ lw_tbl := in_1 (List.mem_of_getElem? (i := 65) rfl)
theorem m_66 : (Jvm.Cond.fieldLink "AnswerPost" (156 : Nat) "AnswerPost$Letters" "count" "I") ∈ lw_tbl := in_1 (List.mem_of_getElem? (i := 66) rfl)
theorem m_67 : (Jvm.Cond.laysFinal "AnswerPost$Letters" "AnswerPost$Letters" "from" "[I") ∈ lw_tbl := in_1 (List.mem_of_getElem? (i := 67) rfl)
theorem m_68 : (Jvm.Cond.soleField "AnswerPost$Letters" "from") ∈ lw_tbl := in_1 (List.mem_of_getElem? (i := 68) rfl)
theorem m_69 : (Jvm.Cond.laysFinal "AnswerPost$Letters" "AnswerPost$Letters" "to" "[I") ∈ lw_tbl := in_1 (List.mem_of_getElem? (i := 69) rfl)
theorem m_70 : (Jvm.Cond.soleField "AnswerPost$Letters" "to") ∈ lw_tbl := in_1 (List.mem_of_getElem? (i := 70) rfl)
theorem m_71 : (Jvm.Cond.laysFinal "AnswerPost$Letters" "AnswerPost$Letters" "weight" "[I") ∈ lw_tbl := in_1 (List.mem_of_getElem? (i := 71) rfl)
theorem m_72 : (Jvm.Cond.soleField "AnswerPost$Letters" "weight") ∈ lw_tbl := in_1 (List.mem_of_getElem? (i := 72) rfl)
theorem m_73 : (Jvm.Cond.laysFinal "AnswerPost$Letters" "AnswerPost$Letters" "day" "[I") ∈ lw_tbl := in_1 (List.mem_of_getElem? (i := 73) rfl)
theorem m_74 : (Jvm.Cond.soleField "AnswerPost$Letters" "day") ∈ lw_tbl := in_1 (List.mem_of_getElem? (i := 74) rfl)
theorem m_75 : (Jvm.Cond.laysFinal "AnswerPost$Letters" "AnswerPost$Letters" "shown" "[I") ∈ lw_tbl := in_1 (List.mem_of_getElem? (i := 75) rfl)
theorem m_76 : (Jvm.Cond.soleField "AnswerPost$Letters" "shown") ∈ lw_tbl := in_1 (List.mem_of_getElem? (i := 76) rfl)
theorem m_77 : (Jvm.Cond.laysFinal "AnswerPost$Letters" "AnswerPost$Letters" "answer" "[I") ∈ lw_tbl := in_1 (List.mem_of_getElem? (i := 77) rfl)
theorem m_78 : (Jvm.Cond.soleField "AnswerPost$Letters" "answer") ∈ lw_tbl := in_1 (List.mem_of_getElem? (i := 78) rfl)
theorem m_79 : (Jvm.Cond.laysFinal "AnswerPost$Letters" "AnswerPost$Letters" "answered" "[I") ∈ lw_tbl := in_1 (List.mem_of_getElem? (i := 79) rfl)
theorem m_80 : (Jvm.Cond.soleField "AnswerPost$Letters" "answered") ∈ lw_tbl := in_1 (List.mem_of_getElem? (i := 80) rfl)
theorem m_81 : (Jvm.Cond.lays "AnswerPost$Letters" "AnswerPost$Letters" "count" "I") ∈ lw_tbl := in_1 (List.mem_of_getElem? (i := 81) rfl)
theorem m_82 : (Jvm.Cond.soleField "AnswerPost$Letters" "count") ∈ lw_tbl := in_1 (List.mem_of_getElem? (i := 82) rfl)
theorem m_83 : (Jvm.Cond.superclass "AnswerPost$Letters" "java/lang/Object") ∈ lw_tbl := in_1 (List.mem_of_getElem? (i := 83) rfl)
theorem m_84 : (Jvm.Cond.classLink "AnswerPost" (31 : Nat) "AnswerPost$Settling") ∈ lw_tbl := in_1 (List.mem_of_getElem? (i := 84) rfl)
theorem m_85 : (Jvm.Cond.instantiable "AnswerPost$Settling" (4 : Nat)) ∈ lw_tbl := in_1 (List.mem_of_getElem? (i := 85) rfl)
theorem m_86 : (Jvm.Cond.methodLinkNest "AnswerPost" (33 : Nat) ({ cls := "AnswerPost$Settling", name := "<init>", desc := "()V" } : Jvm.MethodName) "AnswerPost") ∈ lw_tbl := in_1 (List.mem_of_getElem? (i := 86) rfl)
theorem m_87 : (Jvm.Cond.instanceMethod ({ cls := "AnswerPost$Settling", name := "<init>", desc := "()V" } : Jvm.MethodName)) ∈ lw_tbl := in_1 (List.mem_of_getElem? (i := 87) rfl)
theorem m_88 : (Jvm.Cond.code ({ cls := "AnswerPost$Settling", name := "<init>", desc := "()V" } : Jvm.MethodName) prog_7_method_1_code (1 : Nat) (Option.none : Option Jvm.ClassFile.FieldType)) ∈ lw_tbl := in_1 (List.mem_of_getElem? (i := 88) rfl)
theorem m_89 : (Jvm.Cond.methodLink "AnswerPost$Settling" (3 : Nat) ({ cls := "java/lang/Object", name := "<init>", desc := "()V" } : Jvm.MethodName)) ∈ lw_tbl := in_1 (List.mem_of_getElem? (i := 89) rfl)
theorem m_90 : (Jvm.Cond.fieldLink "AnswerPost$Settling" (9 : Nat) "AnswerPost$Settling" "nets" "[I") ∈ lw_tbl := in_1 (List.mem_of_getElem? (i := 90) rfl)
theorem m_91 : (Jvm.Cond.fieldLink "AnswerPost$Settling" (15 : Nat) "AnswerPost$Settling" "sums" "[I") ∈ lw_tbl := in_1 (List.mem_of_getElem? (i := 91) rfl)
theorem m_92 : (Jvm.Cond.fieldLink "AnswerPost$Settling" (18 : Nat) "AnswerPost$Settling" "groups" "[I") ∈ lw_tbl := in_1 (List.mem_of_getElem? (i := 92) rfl)
theorem m_93 : (Jvm.Cond.fieldLink "AnswerPost$Settling" (21 : Nat) "AnswerPost$Settling" "count" "I") ∈ lw_tbl := in_1 (List.mem_of_getElem? (i := 93) rfl)
theorem m_94 : (Jvm.Cond.laysFinal "AnswerPost$Settling" "AnswerPost$Settling" "nets" "[I") ∈ lw_tbl := in_1 (List.mem_of_getElem? (i := 94) rfl)
theorem m_95 : (Jvm.Cond.soleField "AnswerPost$Settling" "nets") ∈ lw_tbl := in_1 (List.mem_of_getElem? (i := 95) rfl)
theorem m_96 : (Jvm.Cond.laysFinal "AnswerPost$Settling" "AnswerPost$Settling" "sums" "[I") ∈ lw_tbl := in_1 (List.mem_of_getElem? (i := 96) rfl)
theorem m_97 : (Jvm.Cond.soleField "AnswerPost$Settling" "sums") ∈ lw_tbl := in_1 (List.mem_of_getElem? (i := 97) rfl)
theorem m_98 : (Jvm.Cond.laysFinal "AnswerPost$Settling" "AnswerPost$Settling" "groups" "[I") ∈ lw_tbl := in_1 (List.mem_of_getElem? (i := 98) rfl)
theorem m_99 : (Jvm.Cond.soleField "AnswerPost$Settling" "groups") ∈ lw_tbl := in_1 (List.mem_of_getElem? (i := 99) rfl)
theorem m_100 : (Jvm.Cond.lays "AnswerPost$Settling" "AnswerPost$Settling" "count" "I") ∈ lw_tbl := in_1 (List.mem_of_getElem? (i := 100) rfl)
theorem m_101 : (Jvm.Cond.soleField "AnswerPost$Settling" "count") ∈ lw_tbl := in_1 (List.mem_of_getElem? (i := 101) rfl)
theorem m_102 : (Jvm.Cond.superclass "AnswerPost$Settling" "java/lang/Object") ∈ lw_tbl := in_1 (List.mem_of_getElem? (i := 102) rfl)
theorem m_103 : (Jvm.Cond.classLink "AnswerPost" (38 : Nat) "AnswerPost$Turns") ∈ lw_tbl := in_1 (List.mem_of_getElem? (i := 103) rfl)
theorem m_104 : (Jvm.Cond.instantiable "AnswerPost$Turns" (11 : Nat)) ∈ lw_tbl := in_1 (List.mem_of_getElem? (i := 104) rfl)
theorem m_105 : (Jvm.Cond.methodLinkNest "AnswerPost" (40 : Nat) ({ cls := "AnswerPost$Turns", name := "<init>", desc := "()V" } : Jvm.MethodName) "AnswerPost") ∈ lw_tbl := in_1 (List.mem_of_getElem? (i := 105) rfl)
theorem m_106 : (Jvm.Cond.instanceMethod ({ cls := "AnswerPost$Turns", name := "<init>", desc := "()V" } : Jvm.MethodName)) ∈ lw_tbl := in_1 (List.mem_of_getElem? (i := 106) rfl)
theorem m_107 : (Jvm.Cond.code ({ cls := "AnswerPost$Turns", name := "<init>", desc := "()V" } : Jvm.MethodName) prog_10_method_1_code (1 : Nat) (Option.none : Option Jvm.ClassFile.FieldType)) ∈ lw_tbl := in_1 (List.mem_of_getElem? (i := 107) rfl)
theorem m_108 : (Jvm.Cond.methodLink "AnswerPost$Turns" (3 : Nat) ({ cls := "java/lang/Object", name := "<init>", desc := "()V" } : Jvm.MethodName)) ∈ lw_tbl := in_1 (List.mem_of_getElem? (i := 108) rfl)
theorem m_109 : (Jvm.Cond.classLink "AnswerPost$Turns" (9 : Nat) "[[I") ∈ lw_tbl := in_1 (List.mem_of_getElem? (i := 109) rfl)
theorem m_110 : (Jvm.Cond.arrayOver (Jvm.ClassFile.FieldType.array Jvm.ClassFile.FieldType.int)) ∈ lw_tbl := in_1 (List.mem_of_getElem? (i := 110) rfl)
theorem m_111 : (Jvm.Cond.fieldLink "AnswerPost$Turns" (11 : Nat) "AnswerPost$Turns" "chosen" "[[I") ∈ lw_tbl := in_1 (List.mem_of_getElem? (i := 111) rfl)
theorem m_112 : (Jvm.Cond.fieldLink "AnswerPost$Turns" (16 : Nat) "AnswerPost$Turns" "inTurn" "[[I") ∈ lw_tbl := in_1 (List.mem_of_getElem? (i := 112) rfl)
theorem m_113 : (Jvm.Cond.fieldLink "AnswerPost$Turns" (19 : Nat) "AnswerPost$Turns" "waiting" "[[I") ∈ lw_tbl := in_1 (List.mem_of_getElem? (i := 113) rfl)
theorem m_114 : (Jvm.Cond.fieldLink "AnswerPost$Turns" (22 : Nat) "AnswerPost$Turns" "shown" "[[I") ∈ lw_tbl := in_1 (List.mem_of_getElem? (i := 114) rfl)
theorem m_115 : (Jvm.Cond.fieldLink "AnswerPost$Turns" (25 : Nat) "AnswerPost$Turns" "lift" "[I") ∈ lw_tbl := in_1 (List.mem_of_getElem? (i := 115) rfl)
theorem m_116 : (Jvm.Cond.fieldLink "AnswerPost$Turns" (29 : Nat) "AnswerPost$Turns" "weights" "[I") ∈ lw_tbl := in_1 (List.mem_of_getElem? (i := 116) rfl)
theorem m_117 : (Jvm.Cond.fieldLink "AnswerPost" (193 : Nat) "AnswerPost$Turns" "weights" "[I") ∈ lw_tbl := in_1 (List.mem_of_getElem? (i := 117) rfl)
theorem m_118 : (Jvm.Cond.fieldLink "AnswerPost$Turns" (32 : Nat) "AnswerPost$Turns" "fine" "I") ∈ lw_tbl := in_1 (List.mem_of_getElem? (i := 118) rfl)
theorem m_119 : (Jvm.Cond.fieldLink "AnswerPost$Turns" (36 : Nat) "AnswerPost$Turns" "law" "I") ∈ lw_tbl := in_1 (List.mem_of_getElem? (i := 119) rfl)
theorem m_120 : (Jvm.Cond.fieldLink "AnswerPost$Turns" (75 : Nat) "AnswerPost$Turns" "written" "I") ∈ lw_tbl := in_1 (List.mem_of_getElem? (i := 120) rfl)
theorem m_121 : (Jvm.Cond.fieldLink "AnswerPost" (190 : Nat) "AnswerPost$Turns" "written" "I") ∈ lw_tbl := in_1 (List.mem_of_getElem? (i := 121) rfl)
theorem m_122 : (Jvm.Cond.fieldLink "AnswerPost$Turns" (69 : Nat) "AnswerPost$Turns" "costOfFirst" "I") ∈ lw_tbl := in_1 (List.mem_of_getElem? (i := 122) rfl)
theorem m_123 : (Jvm.Cond.fieldLink "AnswerPost" (196 : Nat) "AnswerPost$Turns" "costOfFirst" "I") ∈ lw_tbl := in_1 (List.mem_of_getElem? (i := 123) rfl)
theorem m_124 : (Jvm.Cond.fieldLink "AnswerPost$Turns" (72 : Nat) "AnswerPost$Turns" "costOfOther" "I") ∈ lw_tbl := in_1 (List.mem_of_getElem? (i := 124) rfl)
theorem m_125 : (Jvm.Cond.fieldLink "AnswerPost" (199 : Nat) "AnswerPost$Turns" "costOfOther" "I") ∈ lw_tbl := in_1 (List.mem_of_getElem? (i := 125) rfl)
theorem m_126 : (Jvm.Cond.laysFinal "AnswerPost$Turns" "AnswerPost$Turns" "chosen" "[[I") ∈ lw_tbl := in_1 (List.mem_of_getElem? (i := 126) rfl)
theorem m_127 : (Jvm.Cond.soleField "AnswerPost$Turns" "chosen") ∈ lw_tbl := in_1 (List.mem_of_getElem? (i := 127) rfl)
theorem m_128 : (Jvm.Cond.laysFinal "AnswerPost$Turns" "AnswerPost$Turns" "inTurn" "[[I") ∈ lw_tbl := in_1 (List.mem_of_getElem? (i := 128) rfl)
theorem m_129 : (Jvm.Cond.soleField "AnswerPost$Turns" "inTurn") ∈ lw_tbl := in_1 (List.mem_of_getElem? (i := 129) rfl)
theorem m_130 : (Jvm.Cond.laysFinal "AnswerPost$Turns" "AnswerPost$Turns" "waiting" "[[I") ∈ lw_tbl := in_1 (List.mem_of_getElem? (i := 130) rfl)
theorem m_131 : (Jvm.Cond.soleField "AnswerPost$Turns" "waiting") ∈ lw_tbl := in_1 (List.mem_of_getElem? (i := 131) rfl)
theorem m_132 : (Jvm.Cond.laysFinal "AnswerPost$Turns" "AnswerPost$Turns" "shown" "[[I") ∈ lw_tbl := in_1 (List.mem_of_getElem? (i := 132) rfl)
theorem m_133 : (Jvm.Cond.soleField "AnswerPost$Turns" "shown") ∈ lw_tbl := in_1 (List.mem_of_getElem? (i := 133) rfl)
theorem m_134 : (Jvm.Cond.laysFinal "AnswerPost$Turns" "AnswerPost$Turns" "lift" "[I") ∈ lw_tbl := in_1 (List.mem_of_getElem? (i := 134) rfl)
theorem m_135 : (Jvm.Cond.soleField "AnswerPost$Turns" "lift") ∈ lw_tbl := in_1 (List.mem_of_getElem? (i := 135) rfl)
theorem m_136 : (Jvm.Cond.laysFinal "AnswerPost$Turns" "AnswerPost$Turns" "weights" "[I") ∈ lw_tbl := in_1 (List.mem_of_getElem? (i := 136) rfl)
theorem m_137 : (Jvm.Cond.soleField "AnswerPost$Turns" "weights") ∈ lw_tbl := in_1 (List.mem_of_getElem? (i := 137) rfl)
theorem m_138 : (Jvm.Cond.lays "AnswerPost$Turns" "AnswerPost$Turns" "fine" "I") ∈ lw_tbl := in_1 (List.mem_of_getElem? (i := 138) rfl)
theorem m_139 : (Jvm.Cond.soleField "AnswerPost$Turns" "fine") ∈ lw_tbl := in_1 (List.mem_of_getElem? (i := 139) rfl)
theorem m_140 : (Jvm.Cond.lays "AnswerPost$Turns" "AnswerPost$Turns" "law" "I") ∈ lw_tbl := in_1 (List.mem_of_getElem? (i := 140) rfl)
theorem m_141 : (Jvm.Cond.soleField "AnswerPost$Turns" "law") ∈ lw_tbl := in_1 (List.mem_of_getElem? (i := 141) rfl)
theorem m_142 : (Jvm.Cond.lays "AnswerPost$Turns" "AnswerPost$Turns" "written" "I") ∈ lw_tbl := in_1 (List.mem_of_getElem? (i := 142) rfl)
theorem m_143 : (Jvm.Cond.soleField "AnswerPost$Turns" "written") ∈ lw_tbl := in_1 (List.mem_of_getElem? (i := 143) rfl)
theorem m_144 : (Jvm.Cond.lays "AnswerPost$Turns" "AnswerPost$Turns" "costOfFirst" "I") ∈ lw_tbl := in_1 (List.mem_of_getElem? (i := 144) rfl)
theorem m_145 : (Jvm.Cond.soleField "AnswerPost$Turns" "costOfFirst") ∈ lw_tbl := in_1 (List.mem_of_getElem? (i := 145) rfl)
theorem m_146 : (Jvm.Cond.lays "AnswerPost$Turns" "AnswerPost$Turns" "costOfOther" "I") ∈ lw_tbl := in_1 (List.mem_of_getElem? (i := 146) rfl)
theorem m_147 : (Jvm.Cond.soleField "AnswerPost$Turns" "costOfOther") ∈ lw_tbl := in_1 (List.mem_of_getElem? (i := 147) rfl)
theorem m_148 : (Jvm.Cond.superclass "AnswerPost$Turns" "java/lang/Object") ∈ lw_tbl := in_1 (List.mem_of_getElem? (i := 148) rfl)
theorem m_149 : (Jvm.Cond.classLink "AnswerPost" (45 : Nat) "AnswerPost$Parts") ∈ lw_tbl := in_1 (List.mem_of_getElem? (i := 149) rfl)
theorem m_150 : (Jvm.Cond.instantiable "AnswerPost$Parts" (5 : Nat)) ∈ lw_tbl := in_1 (List.mem_of_getElem? (i := 150) rfl)
theorem m_151 : (Jvm.Cond.methodLinkNest "AnswerPost" (47 : Nat) ({ cls := "AnswerPost$Parts", name := "<init>", desc := "()V" } : Jvm.MethodName) "AnswerPost") ∈ lw_tbl := in_1 (List.mem_of_getElem? (i := 151) rfl)
theorem m_152 : (Jvm.Cond.instanceMethod ({ cls := "AnswerPost$Parts", name := "<init>", desc := "()V" } : Jvm.MethodName)) ∈ lw_tbl := in_1 (List.mem_of_getElem? (i := 152) rfl)
theorem m_153 : (Jvm.Cond.code ({ cls := "AnswerPost$Parts", name := "<init>", desc := "()V" } : Jvm.MethodName) prog_5_method_1_code (1 : Nat) (Option.none : Option Jvm.ClassFile.FieldType)) ∈ lw_tbl := in_1 (List.mem_of_getElem? (i := 153) rfl)
theorem m_154 : (Jvm.Cond.methodLink "AnswerPost$Parts" (3 : Nat) ({ cls := "java/lang/Object", name := "<init>", desc := "()V" } : Jvm.MethodName)) ∈ lw_tbl := in_1 (List.mem_of_getElem? (i := 154) rfl)
theorem m_155 : (Jvm.Cond.classLink "AnswerPost$Parts" (9 : Nat) "[[I") ∈ lw_tbl := in_1 (List.mem_of_getElem? (i := 155) rfl)
theorem m_156 : (Jvm.Cond.fieldLink "AnswerPost$Parts" (11 : Nat) "AnswerPost$Parts" "chosen" "[[I") ∈ lw_tbl := in_1 (List.mem_of_getElem? (i := 156) rfl)
theorem m_157 : (Jvm.Cond.fieldLink "AnswerPost$Parts" (16 : Nat) "AnswerPost$Parts" "least" "[[I") ∈ lw_tbl := in_1 (List.mem_of_getElem? (i := 157) rfl)
theorem m_158 : (Jvm.Cond.fieldLink "AnswerPost$Parts" (19 : Nat) "AnswerPost$Parts" "price" "[I") ∈ lw_tbl := in_1 (List.mem_of_getElem? (i := 158) rfl)
theorem m_159 : (Jvm.Cond.fieldLink "AnswerPost$Parts" (23 : Nat) "AnswerPost$Parts" "weights" "[I") ∈ lw_tbl := in_1 (List.mem_of_getElem? (i := 159) rfl)
theorem m_160 : (Jvm.Cond.fieldLink "AnswerPost" (213 : Nat) "AnswerPost$Parts" "weights" "[I") ∈ lw_tbl := in_1 (List.mem_of_getElem? (i := 160) rfl)
theorem m_161 : (Jvm.Cond.fieldLink "AnswerPost$Parts" (40 : Nat) "AnswerPost$Parts" "sum" "I") ∈ lw_tbl := in_1 (List.mem_of_getElem? (i := 161) rfl)
theorem m_162 : (Jvm.Cond.fieldLink "AnswerPost" (210 : Nat) "AnswerPost$Parts" "sum" "I") ∈ lw_tbl := in_1 (List.mem_of_getElem? (i := 162) rfl)
theorem m_163 : (Jvm.Cond.laysFinal "AnswerPost$Parts" "AnswerPost$Parts" "chosen" "[[I") ∈ lw_tbl := in_1 (List.mem_of_getElem? (i := 163) rfl)
theorem m_164 : (Jvm.Cond.soleField "AnswerPost$Parts" "chosen") ∈ lw_tbl := in_1 (List.mem_of_getElem? (i := 164) rfl)
theorem m_165 : (Jvm.Cond.laysFinal "AnswerPost$Parts" "AnswerPost$Parts" "least" "[[I") ∈ lw_tbl := in_1 (List.mem_of_getElem? (i := 165) rfl)
theorem m_166 : (Jvm.Cond.soleField "AnswerPost$Parts" "least") ∈ lw_tbl := in_1 (List.mem_of_getElem? (i := 166) rfl)
theorem m_167 : (Jvm.Cond.laysFinal "AnswerPost$Parts" "AnswerPost$Parts" "price" "[I") ∈ lw_tbl := in_1 (List.mem_of_getElem? (i := 167) rfl)
theorem m_168 : (Jvm.Cond.soleField "AnswerPost$Parts" "price") ∈ lw_tbl := in_1 (List.mem_of_getElem? (i := 168) rfl)
theorem m_169 : (Jvm.Cond.laysFinal "AnswerPost$Parts" "AnswerPost$Parts" "weights" "[I") ∈ lw_tbl := in_1 (List.mem_of_getElem? (i := 169) rfl)
theorem m_170 : (Jvm.Cond.soleField "AnswerPost$Parts" "weights") ∈ lw_tbl := in_1 (List.mem_of_getElem? (i := 170) rfl)
theorem m_171 : (Jvm.Cond.lays "AnswerPost$Parts" "AnswerPost$Parts" "sum" "I") ∈ lw_tbl := in_1 (List.mem_of_getElem? (i := 171) rfl)
theorem m_172 : (Jvm.Cond.soleField "AnswerPost$Parts" "sum") ∈ lw_tbl := in_1 (List.mem_of_getElem? (i := 172) rfl)
theorem m_173 : (Jvm.Cond.superclass "AnswerPost$Parts" "java/lang/Object") ∈ lw_tbl := in_1 (List.mem_of_getElem? (i := 173) rfl)
theorem m_174 : (Jvm.Cond.classLink "AnswerPost" (52 : Nat) "AnswerPost$Trail") ∈ lw_tbl := in_1 (List.mem_of_getElem? (i := 174) rfl)
theorem m_175 : (Jvm.Cond.instantiable "AnswerPost$Trail" (1 : Nat)) ∈ lw_tbl := in_1 (List.mem_of_getElem? (i := 175) rfl)
theorem m_176 : (Jvm.Cond.methodLinkNest "AnswerPost" (54 : Nat) ({ cls := "AnswerPost$Trail", name := "<init>", desc := "()V" } : Jvm.MethodName) "AnswerPost") ∈ lw_tbl := in_1 (List.mem_of_getElem? (i := 176) rfl)
theorem m_177 : (Jvm.Cond.instanceMethod ({ cls := "AnswerPost$Trail", name := "<init>", desc := "()V" } : Jvm.MethodName)) ∈ lw_tbl := in_1 (List.mem_of_getElem? (i := 177) rfl)
theorem m_178 : (Jvm.Cond.code ({ cls := "AnswerPost$Trail", name := "<init>", desc := "()V" } : Jvm.MethodName) prog_9_method_1_code (1 : Nat) (Option.none : Option Jvm.ClassFile.FieldType)) ∈ lw_tbl := in_1 (List.mem_of_getElem? (i := 178) rfl)
theorem m_179 : (Jvm.Cond.methodLink "AnswerPost$Trail" (1 : Nat) ({ cls := "java/lang/Object", name := "<init>", desc := "()V" } : Jvm.MethodName)) ∈ lw_tbl := in_1 (List.mem_of_getElem? (i := 179) rfl)
theorem m_180 : (Jvm.Cond.fieldLink "AnswerPost$Trail" (7 : Nat) "AnswerPost$Trail" "left" "I") ∈ lw_tbl := in_1 (List.mem_of_getElem? (i := 180) rfl)
theorem m_181 : (Jvm.Cond.fieldLink "AnswerPost" (253 : Nat) "AnswerPost$Trail" "left" "I") ∈ lw_tbl := in_1 (List.mem_of_getElem? (i := 181) rfl)
theorem m_182 : (Jvm.Cond.lays "AnswerPost$Trail" "AnswerPost$Trail" "left" "I") ∈ lw_tbl := in_1 (List.mem_of_getElem? (i := 182) rfl)
theorem m_183 : (Jvm.Cond.soleField "AnswerPost$Trail" "left") ∈ lw_tbl := in_1 (List.mem_of_getElem? (i := 183) rfl)
theorem m_184 : (Jvm.Cond.superclass "AnswerPost$Trail" "java/lang/Object") ∈ lw_tbl := in_1 (List.mem_of_getElem? (i := 184) rfl)
theorem m_185 : (Jvm.Cond.fieldLink "AnswerPost" (13 : Nat) "AnswerPost" "sheets" "[LAnswerPost$Row;") ∈ lw_tbl := in_1 (List.mem_of_getElem? (i := 185) rfl)
theorem m_186 : (Jvm.Cond.fieldLink "AnswerPost" (20 : Nat) "AnswerPost" "persons" "[LAnswerPost$Writer;") ∈ lw_tbl := in_1 (List.mem_of_getElem? (i := 186) rfl)
theorem m_187 : (Jvm.Cond.fieldLink "AnswerPost" (27 : Nat) "AnswerPost" "letters" "LAnswerPost$Letters;") ∈ lw_tbl := in_1 (List.mem_of_getElem? (i := 187) rfl)
theorem m_188 : (Jvm.Cond.fieldLink "AnswerPost" (34 : Nat) "AnswerPost" "settling" "LAnswerPost$Settling;") ∈ lw_tbl := in_1 (List.mem_of_getElem? (i := 188) rfl)
theorem m_189 : (Jvm.Cond.fieldLink "AnswerPost" (41 : Nat) "AnswerPost" "turns" "LAnswerPost$Turns;") ∈ lw_tbl := in_1 (List.mem_of_getElem? (i := 189) rfl)
theorem m_190 : (Jvm.Cond.fieldLink "AnswerPost" (48 : Nat) "AnswerPost" "parts" "LAnswerPost$Parts;") ∈ lw_tbl := in_1 (List.mem_of_getElem? (i := 190) rfl)
theorem m_191 : (Jvm.Cond.fieldLink "AnswerPost" (55 : Nat) "AnswerPost" "trail" "LAnswerPost$Trail;") ∈ lw_tbl := in_1 (List.mem_of_getElem? (i := 191) rfl)
theorem m_192 : (Jvm.Cond.fieldLink "AnswerPost" (93 : Nat) "AnswerPost" "personCount" "I") ∈ lw_tbl := in_1 (List.mem_of_getElem? (i := 192) rfl)
theorem m_193 : (Jvm.Cond.fieldLink "AnswerPost" (110 : Nat) "AnswerPost" "lawNow" "I") ∈ lw_tbl := in_1 (List.mem_of_getElem? (i := 193) rfl)
theorem m_194 : (Jvm.Cond.fieldLink "AnswerPost" (59 : Nat) "AnswerPost" "lastFault" "I") ∈ lw_tbl := in_1 (List.mem_of_getElem? (i := 194) rfl)
theorem m_195 : (Jvm.Cond.laysFinal "AnswerPost" "AnswerPost" "sheets" "[LAnswerPost$Row;") ∈ lw_tbl := in_1 (List.mem_of_getElem? (i := 195) rfl)
theorem m_196 : (Jvm.Cond.soleField "AnswerPost" "sheets") ∈ lw_tbl := in_1 (List.mem_of_getElem? (i := 196) rfl)
theorem m_197 : (Jvm.Cond.laysFinal "AnswerPost" "AnswerPost" "persons" "[LAnswerPost$Writer;") ∈ lw_tbl := in_1 (List.mem_of_getElem? (i := 197) rfl)
theorem m_198 : (Jvm.Cond.soleField "AnswerPost" "persons") ∈ lw_tbl := in_1 (List.mem_of_getElem? (i := 198) rfl)
theorem m_199 : (Jvm.Cond.laysFinal "AnswerPost" "AnswerPost" "letters" "LAnswerPost$Letters;") ∈ lw_tbl := in_1 (List.mem_of_getElem? (i := 199) rfl)
theorem m_200 : (Jvm.Cond.soleField "AnswerPost" "letters") ∈ lw_tbl := in_1 (List.mem_of_getElem? (i := 200) rfl)
theorem m_201 : (Jvm.Cond.laysFinal "AnswerPost" "AnswerPost" "settling" "LAnswerPost$Settling;") ∈ lw_tbl := in_1 (List.mem_of_getElem? (i := 201) rfl)
theorem m_202 : (Jvm.Cond.soleField "AnswerPost" "settling") ∈ lw_tbl := in_1 (List.mem_of_getElem? (i := 202) rfl)
theorem m_203 : (Jvm.Cond.laysFinal "AnswerPost" "AnswerPost" "turns" "LAnswerPost$Turns;") ∈ lw_tbl := in_1 (List.mem_of_getElem? (i := 203) rfl)
theorem m_204 : (Jvm.Cond.soleField "AnswerPost" "turns") ∈ lw_tbl := in_1 (List.mem_of_getElem? (i := 204) rfl)
theorem m_205 : (Jvm.Cond.laysFinal "AnswerPost" "AnswerPost" "parts" "LAnswerPost$Parts;") ∈ lw_tbl := in_1 (List.mem_of_getElem? (i := 205) rfl)
theorem m_206 : (Jvm.Cond.soleField "AnswerPost" "parts") ∈ lw_tbl := in_1 (List.mem_of_getElem? (i := 206) rfl)
theorem m_207 : (Jvm.Cond.laysFinal "AnswerPost" "AnswerPost" "trail" "LAnswerPost$Trail;") ∈ lw_tbl := in_1 (List.mem_of_getElem? (i := 207) rfl)
theorem m_208 : (Jvm.Cond.soleField "AnswerPost" "trail") ∈ lw_tbl := in_1 (List.mem_of_getElem? (i := 208) rfl)
theorem m_209 : (Jvm.Cond.lays "AnswerPost" "AnswerPost" "personCount" "I") ∈ lw_tbl := in_1 (List.mem_of_getElem? (i := 209) rfl)
theorem m_210 : (Jvm.Cond.soleField "AnswerPost" "personCount") ∈ lw_tbl := in_1 (List.mem_of_getElem? (i := 210) rfl)
theorem m_211 : (Jvm.Cond.lays "AnswerPost" "AnswerPost" "lawNow" "I") ∈ lw_tbl := in_1 (List.mem_of_getElem? (i := 211) rfl)
theorem m_212 : (Jvm.Cond.soleField "AnswerPost" "lawNow") ∈ lw_tbl := in_1 (List.mem_of_getElem? (i := 212) rfl)
theorem m_213 : (Jvm.Cond.lays "AnswerPost" "AnswerPost" "lastFault" "I") ∈ lw_tbl := in_1 (List.mem_of_getElem? (i := 213) rfl)
theorem m_214 : (Jvm.Cond.soleField "AnswerPost" "lastFault") ∈ lw_tbl := in_1 (List.mem_of_getElem? (i := 214) rfl)
theorem m_215 : (Jvm.Cond.superclass "AnswerPost" "java/lang/Object") ∈ lw_tbl := in_1 (List.mem_of_getElem? (i := 215) rfl)
theorem m_216 : (Jvm.Cond.methodLink "AnswerPostLaw" (13 : Nat) ({ cls := "AnswerPost", name := "post", desc := "(IIII)I" } : Jvm.MethodName)) ∈ lw_tbl := in_1 (List.mem_of_getElem? (i := 216) rfl)
theorem m_217 : (Jvm.Cond.instanceMethod ({ cls := "AnswerPost", name := "post", desc := "(IIII)I" } : Jvm.MethodName)) ∈ lw_tbl := in_1 (List.mem_of_getElem? (i := 217) rfl)
theorem m_218 : (Jvm.Cond.selects "AnswerPost" ({ cls := "AnswerPost", name := "post", desc := "(IIII)I" } : Jvm.MethodName) ({ cls := "AnswerPost", name := "post", desc := "(IIII)I" } : Jvm.MethodName)) ∈ lw_tbl := in_1 (List.mem_of_getElem? (i := 218) rfl)
theorem m_219 : (Jvm.Cond.code ({ cls := "AnswerPost", name := "post", desc := "(IIII)I" } : Jvm.MethodName) prog_1_method_2_code (8 : Nat) (Option.some Jvm.ClassFile.FieldType.int)) ∈ lw_tbl := in_1 (List.mem_of_getElem? (i := 219) rfl)
theorem m_220 : (Jvm.Cond.methodLink "AnswerPost" (63 : Nat) ({ cls := "AnswerPost", name := "sheetAt", desc := "(I)LAnswerPost$Row;" } : Jvm.MethodName)) ∈ lw_tbl := in_1 (List.mem_of_getElem? (i := 220) rfl)
theorem m_221 : (Jvm.Cond.privateMethod ({ cls := "AnswerPost", name := "sheetAt", desc := "(I)LAnswerPost$Row;" } : Jvm.MethodName)) ∈ lw_tbl := in_1 (List.mem_of_getElem? (i := 221) rfl)
theorem m_222 : (Jvm.Cond.instanceMethod ({ cls := "AnswerPost", name := "sheetAt", desc := "(I)LAnswerPost$Row;" } : Jvm.MethodName)) ∈ lw_tbl := in_1 (List.mem_of_getElem? (i := 222) rfl)
theorem m_223 : (Jvm.Cond.code ({ cls := "AnswerPost", name := "sheetAt", desc := "(I)LAnswerPost$Row;" } : Jvm.MethodName) prog_1_method_35_code (2 : Nat) (Option.some (Jvm.ClassFile.FieldType.object "AnswerPost$Row"))) ∈ lw_tbl := in_1 (List.mem_of_getElem? (i := 223) rfl)
theorem m_224 : (Jvm.Cond.methodLink "AnswerPost" (67 : Nat) ({ cls := "AnswerPost", name := "isWithin", desc := "(III)Z" } : Jvm.MethodName)) ∈ lw_tbl := in_1 (List.mem_of_getElem? (i := 224) rfl)
theorem m_225 : (Jvm.Cond.static ({ cls := "AnswerPost", name := "isWithin", desc := "(III)Z" } : Jvm.MethodName)) ∈ lw_tbl := in_1 (List.mem_of_getElem? (i := 225) rfl)
theorem m_226 : (Jvm.Cond.code ({ cls := "AnswerPost", name := "isWithin", desc := "(III)Z" } : Jvm.MethodName) prog_1_method_31_code (3 : Nat) (Option.some Jvm.ClassFile.FieldType.boolean)) ∈ lw_tbl := in_1 (List.mem_of_getElem? (i := 226) rfl)
theorem m_227 : (Jvm.Cond.methodLink "AnswerPost" (71 : Nat) ({ cls := "AnswerPost$Row", name := "faultOfCells", desc := "(III)I" } : Jvm.MethodName)) ∈ lw_tbl := in_1 (List.mem_of_getElem? (i := 227) rfl)
theorem m_228 : (Jvm.Cond.instanceMethod ({ cls := "AnswerPost$Row", name := "faultOfCells", desc := "(III)I" } : Jvm.MethodName)) ∈ lw_tbl := in_1 (List.mem_of_getElem? (i := 228) rfl)
theorem m_229 : (Jvm.Cond.selects "AnswerPost$Row" ({ cls := "AnswerPost$Row", name := "faultOfCells", desc := "(III)I" } : Jvm.MethodName) ({ cls := "AnswerPost$Row", name := "faultOfCells", desc := "(III)I" } : Jvm.MethodName)) ∈ lw_tbl := in_1 (List.mem_of_getElem? (i := 229) rfl)
theorem m_230 : (Jvm.Cond.code ({ cls := "AnswerPost$Row", name := "faultOfCells", desc := "(III)I" } : Jvm.MethodName) prog_6_method_7_code (4 : Nat) (Option.some Jvm.ClassFile.FieldType.int)) ∈ lw_tbl := in_1 (List.mem_of_getElem? (i := 230) rfl)
theorem m_231 : (Jvm.Cond.methodLink "AnswerPost$Row" (26 : Nat) ({ cls := "AnswerPost$Row", name := "isNothing", desc := "()Z" } : Jvm.MethodName)) ∈ lw_tbl := in_1 (List.mem_of_getElem? (i := 231) rfl)
theorem m_232 : (Jvm.Cond.instanceMethod ({ cls := "AnswerPost$Row", name := "isNothing", desc := "()Z" } : Jvm.MethodName)) ∈ lw_tbl := in_1 (List.mem_of_getElem? (i := 232) rfl)
theorem m_233 : (Jvm.Cond.selects "AnswerPost$Row" ({ cls := "AnswerPost$Row", name := "isNothing", desc := "()Z" } : Jvm.MethodName) ({ cls := "AnswerPost$Row", name := "isNothing", desc := "()Z" } : Jvm.MethodName)) ∈ lw_tbl := in_1 (List.mem_of_getElem? (i := 233) rfl)
theorem m_234 : (Jvm.Cond.code ({ cls := "AnswerPost$Row", name := "isNothing", desc := "()Z" } : Jvm.MethodName) prog_6_method_2_code (1 : Nat) (Option.some Jvm.ClassFile.FieldType.boolean)) ∈ lw_tbl := in_1 (List.mem_of_getElem? (i := 234) rfl)
theorem m_235 : (Jvm.Cond.methodLink "AnswerPost$Row" (30 : Nat) ({ cls := "AnswerPost$Row", name := "hasCells", desc := "(II)Z" } : Jvm.MethodName)) ∈ lw_tbl := in_1 (List.mem_of_getElem? (i := 235) rfl)
theorem m_236 : (Jvm.Cond.instanceMethod ({ cls := "AnswerPost$Row", name := "hasCells", desc := "(II)Z" } : Jvm.MethodName)) ∈ lw_tbl := in_1 (List.mem_of_getElem? (i := 236) rfl)
theorem m_237 : (Jvm.Cond.selects "AnswerPost$Row" ({ cls := "AnswerPost$Row", name := "hasCells", desc := "(II)Z" } : Jvm.MethodName) ({ cls := "AnswerPost$Row", name := "hasCells", desc := "(II)Z" } : Jvm.MethodName)) ∈ lw_tbl := in_1 (List.mem_of_getElem? (i := 237) rfl)
theorem m_238 : (Jvm.Cond.code ({ cls := "AnswerPost$Row", name := "hasCells", desc := "(II)Z" } : Jvm.MethodName) prog_6_method_5_code (3 : Nat) (Option.some Jvm.ClassFile.FieldType.boolean)) ∈ lw_tbl := in_1 (List.mem_of_getElem? (i := 238) rfl)
theorem m_239 : (Jvm.Cond.methodLink "AnswerPost" (75 : Nat) ({ cls := "AnswerPost", name := "faulted", desc := "(I)I" } : Jvm.MethodName)) ∈ lw_tbl := in_1 (List.mem_of_getElem? (i := 239) rfl)
theorem m_240 : (Jvm.Cond.privateMethod ({ cls := "AnswerPost", name := "faulted", desc := "(I)I" } : Jvm.MethodName)) ∈ lw_tbl := in_2 (List.mem_of_getElem? (i := 0) rfl)
theorem m_241 : (Jvm.Cond.instanceMethod ({ cls := "AnswerPost", name := "faulted", desc := "(I)I" } : Jvm.MethodName)) ∈ lw_tbl := in_2 (List.mem_of_getElem? (i := 1) rfl)
theorem m_242 : (Jvm.Cond.code ({ cls := "AnswerPost", name := "faulted", desc := "(I)I" } : Jvm.MethodName) prog_1_method_36_code (2 : Nat) (Option.some Jvm.ClassFile.FieldType.int)) ∈ lw_tbl := in_2 (List.mem_of_getElem? (i := 2) rfl)
theorem m_243 : (Jvm.Cond.methodLink "AnswerPost" (83 : Nat) ({ cls := "AnswerPost$Text", name := "firstFault", desc := "([III)I" } : Jvm.MethodName)) ∈ lw_tbl := in_2 (List.mem_of_getElem? (i := 3) rfl)
theorem m_244 : (Jvm.Cond.static ({ cls := "AnswerPost$Text", name := "firstFault", desc := "([III)I" } : Jvm.MethodName)) ∈ lw_tbl := in_2 (List.mem_of_getElem? (i := 4) rfl)
theorem m_245 : (Jvm.Cond.code ({ cls := "AnswerPost$Text", name := "firstFault", desc := "([III)I" } : Jvm.MethodName) prog_8_method_2_code (4 : Nat) (Option.some Jvm.ClassFile.FieldType.int)) ∈ lw_tbl := in_2 (List.mem_of_getElem? (i := 5) rfl)
theorem m_246 : (Jvm.Cond.methodLink "AnswerPost$Text" (9 : Nat) ({ cls := "AnswerPost$Text", name := "goesOn", desc := "([III)Z" } : Jvm.MethodName)) ∈ lw_tbl := in_2 (List.mem_of_getElem? (i := 6) rfl)
theorem m_247 : (Jvm.Cond.static ({ cls := "AnswerPost$Text", name := "goesOn", desc := "([III)Z" } : Jvm.MethodName)) ∈ lw_tbl := in_2 (List.mem_of_getElem? (i := 7) rfl)
theorem m_248 : (Jvm.Cond.code ({ cls := "AnswerPost$Text", name := "goesOn", desc := "([III)Z" } : Jvm.MethodName) prog_8_method_6_code (4 : Nat) (Option.some Jvm.ClassFile.FieldType.boolean)) ∈ lw_tbl := in_2 (List.mem_of_getElem? (i := 8) rfl)
theorem m_249 : (Jvm.Cond.methodLink "AnswerPost$Text" (15 : Nat) ({ cls := "AnswerPost$Text", name := "personsOf", desc := "(I)I" } : Jvm.MethodName)) ∈ lw_tbl := in_2 (List.mem_of_getElem? (i := 9) rfl)
theorem m_250 : (Jvm.Cond.static ({ cls := "AnswerPost$Text", name := "personsOf", desc := "(I)I" } : Jvm.MethodName)) ∈ lw_tbl := in_2 (List.mem_of_getElem? (i := 10) rfl)
theorem m_251 : (Jvm.Cond.code ({ cls := "AnswerPost$Text", name := "personsOf", desc := "(I)I" } : Jvm.MethodName) prog_8_method_3_code (1 : Nat) (Option.some Jvm.ClassFile.FieldType.int)) ∈ lw_tbl := in_2 (List.mem_of_getElem? (i := 11) rfl)
theorem m_252 : (Jvm.Cond.methodLink "AnswerPost$Text" (22 : Nat) ({ cls := "AnswerPost$Text", name := "isSecondDigit", desc := "(II)Z" } : Jvm.MethodName)) ∈ lw_tbl := in_2 (List.mem_of_getElem? (i := 12) rfl)
theorem m_253 : (Jvm.Cond.static ({ cls := "AnswerPost$Text", name := "isSecondDigit", desc := "(II)Z" } : Jvm.MethodName)) ∈ lw_tbl := in_2 (List.mem_of_getElem? (i := 13) rfl)
theorem m_254 : (Jvm.Cond.code ({ cls := "AnswerPost$Text", name := "isSecondDigit", desc := "(II)Z" } : Jvm.MethodName) prog_8_method_7_code (2 : Nat) (Option.some Jvm.ClassFile.FieldType.boolean)) ∈ lw_tbl := in_2 (List.mem_of_getElem? (i := 14) rfl)
theorem m_255 : (Jvm.Cond.methodLink "AnswerPost$Text" (19 : Nat) ({ cls := "AnswerPost$Text", name := "letterOf", desc := "(I)I" } : Jvm.MethodName)) ∈ lw_tbl := in_2 (List.mem_of_getElem? (i := 15) rfl)
theorem m_256 : (Jvm.Cond.static ({ cls := "AnswerPost$Text", name := "letterOf", desc := "(I)I" } : Jvm.MethodName)) ∈ lw_tbl := in_2 (List.mem_of_getElem? (i := 16) rfl)
theorem m_257 : (Jvm.Cond.code ({ cls := "AnswerPost$Text", name := "letterOf", desc := "(I)I" } : Jvm.MethodName) prog_8_method_4_code (1 : Nat) (Option.some Jvm.ClassFile.FieldType.int)) ∈ lw_tbl := in_2 (List.mem_of_getElem? (i := 17) rfl)
theorem m_258 : (Jvm.Cond.methodLink "AnswerPost" (89 : Nat) ({ cls := "AnswerPost", name := "settle", desc := "([III)V" } : Jvm.MethodName)) ∈ lw_tbl := in_2 (List.mem_of_getElem? (i := 18) rfl)
theorem m_259 : (Jvm.Cond.privateMethod ({ cls := "AnswerPost", name := "settle", desc := "([III)V" } : Jvm.MethodName)) ∈ lw_tbl := in_2 (List.mem_of_getElem? (i := 19) rfl)
theorem m_260 : (Jvm.Cond.instanceMethod ({ cls := "AnswerPost", name := "settle", desc := "([III)V" } : Jvm.MethodName)) ∈ lw_tbl := in_2 (List.mem_of_getElem? (i := 20) rfl)
theorem m_261 : (Jvm.Cond.code ({ cls := "AnswerPost", name := "settle", desc := "([III)V" } : Jvm.MethodName) prog_1_method_37_code (6 : Nat) (Option.none : Option Jvm.ClassFile.FieldType)) ∈ lw_tbl := in_2 (List.mem_of_getElem? (i := 21) rfl)
theorem m_262 : (Jvm.Cond.methodLink "AnswerPost" (260 : Nat) ({ cls := "AnswerPost$Text", name := "personsOf", desc := "(I)I" } : Jvm.MethodName)) ∈ lw_tbl := in_2 (List.mem_of_getElem? (i := 22) rfl)
theorem m_263 : (Jvm.Cond.methodLink "AnswerPost" (263 : Nat) ({ cls := "AnswerPost$Text", name := "letterOf", desc := "(I)I" } : Jvm.MethodName)) ∈ lw_tbl := in_2 (List.mem_of_getElem? (i := 23) rfl)
theorem m_264 : (Jvm.Cond.methodLink "AnswerPost" (266 : Nat) ({ cls := "AnswerPost$Text", name := "liftAt", desc := "([II)I" } : Jvm.MethodName)) ∈ lw_tbl := in_2 (List.mem_of_getElem? (i := 24) rfl)
theorem m_265 : (Jvm.Cond.static ({ cls := "AnswerPost$Text", name := "liftAt", desc := "([II)I" } : Jvm.MethodName)) ∈ lw_tbl := in_2 (List.mem_of_getElem? (i := 25) rfl)
theorem m_266 : (Jvm.Cond.code ({ cls := "AnswerPost$Text", name := "liftAt", desc := "([II)I" } : Jvm.MethodName) prog_8_method_5_code (2 : Nat) (Option.some Jvm.ClassFile.FieldType.int)) ∈ lw_tbl := in_2 (List.mem_of_getElem? (i := 26) rfl)
theorem m_267 : (Jvm.Cond.methodLink "AnswerPost" (270 : Nat) ({ cls := "AnswerPost", name := "newPerson", desc := "(III)LAnswerPost$Writer;" } : Jvm.MethodName)) ∈ lw_tbl := in_2 (List.mem_of_getElem? (i := 27) rfl)
theorem m_268 : (Jvm.Cond.static ({ cls := "AnswerPost", name := "newPerson", desc := "(III)LAnswerPost$Writer;" } : Jvm.MethodName)) ∈ lw_tbl := in_2 (List.mem_of_getElem? (i := 28) rfl)
theorem m_269 : (Jvm.Cond.code ({ cls := "AnswerPost", name := "newPerson", desc := "(III)LAnswerPost$Writer;" } : Jvm.MethodName) prog_1_method_38_code (3 : Nat) (Option.some (Jvm.ClassFile.FieldType.object "AnswerPost$Writer"))) ∈ lw_tbl := in_2 (List.mem_of_getElem? (i := 29) rfl)
theorem m_270 : (Jvm.Cond.classLink "AnswerPost" (256 : Nat) "AnswerPost$Miser") ∈ lw_tbl := in_2 (List.mem_of_getElem? (i := 30) rfl)
theorem m_271 : (Jvm.Cond.instantiable "AnswerPost$Miser" (2 : Nat)) ∈ lw_tbl := in_2 (List.mem_of_getElem? (i := 31) rfl)
theorem m_272 : (Jvm.Cond.methodLink "AnswerPost" (274 : Nat) ({ cls := "AnswerPost$Miser", name := "<init>", desc := "(II)V" } : Jvm.MethodName)) ∈ lw_tbl := in_2 (List.mem_of_getElem? (i := 32) rfl)
theorem m_273 : (Jvm.Cond.instanceMethod ({ cls := "AnswerPost$Miser", name := "<init>", desc := "(II)V" } : Jvm.MethodName)) ∈ lw_tbl := in_2 (List.mem_of_getElem? (i := 33) rfl)
theorem m_274 : (Jvm.Cond.code ({ cls := "AnswerPost$Miser", name := "<init>", desc := "(II)V" } : Jvm.MethodName) prog_4_method_1_code (3 : Nat) (Option.none : Option Jvm.ClassFile.FieldType)) ∈ lw_tbl := in_2 (List.mem_of_getElem? (i := 34) rfl)
theorem m_275 : (Jvm.Cond.methodLink "AnswerPost$Miser" (3 : Nat) ({ cls := "AnswerPost$Writer", name := "<init>", desc := "(II)V" } : Jvm.MethodName)) ∈ lw_tbl := in_2 (List.mem_of_getElem? (i := 35) rfl)
theorem m_276 : (Jvm.Cond.instanceMethod ({ cls := "AnswerPost$Writer", name := "<init>", desc := "(II)V" } : Jvm.MethodName)) ∈ lw_tbl := in_2 (List.mem_of_getElem? (i := 36) rfl)
theorem m_277 : (Jvm.Cond.code ({ cls := "AnswerPost$Writer", name := "<init>", desc := "(II)V" } : Jvm.MethodName) prog_11_method_1_code (3 : Nat) (Option.none : Option Jvm.ClassFile.FieldType)) ∈ lw_tbl := in_2 (List.mem_of_getElem? (i := 37) rfl)
theorem m_278 : (Jvm.Cond.methodLink "AnswerPost$Writer" (3 : Nat) ({ cls := "java/lang/Object", name := "<init>", desc := "()V" } : Jvm.MethodName)) ∈ lw_tbl := in_2 (List.mem_of_getElem? (i := 38) rfl)
theorem m_279 : (Jvm.Cond.fieldLink "AnswerPost$Writer" (9 : Nat) "AnswerPost$Writer" "number" "I") ∈ lw_tbl := in_2 (List.mem_of_getElem? (i := 39) rfl)
theorem m_280 : (Jvm.Cond.fieldLink "AnswerPost$Letters" (41 : Nat) "AnswerPost$Writer" "number" "I") ∈ lw_tbl := in_2 (List.mem_of_getElem? (i := 40) rfl)
theorem m_281 : (Jvm.Cond.fieldLink "AnswerPost$Writer" (15 : Nat) "AnswerPost$Writer" "lift" "I") ∈ lw_tbl := in_2 (List.mem_of_getElem? (i := 41) rfl)
theorem m_282 : (Jvm.Cond.fieldLink "AnswerPost$Turns" (51 : Nat) "AnswerPost$Writer" "lift" "I") ∈ lw_tbl := in_2 (List.mem_of_getElem? (i := 42) rfl)
theorem m_283 : (Jvm.Cond.fieldLink "AnswerPost" (104 : Nat) "AnswerPost$Writer" "lift" "I") ∈ lw_tbl := in_2 (List.mem_of_getElem? (i := 43) rfl)
theorem m_284 : (Jvm.Cond.laysFinal "AnswerPost$Miser" "AnswerPost$Writer" "number" "I") ∈ lw_tbl := in_2 (List.mem_of_getElem? (i := 44) rfl)
theorem m_285 : (Jvm.Cond.soleField "AnswerPost$Writer" "number") ∈ lw_tbl := in_2 (List.mem_of_getElem? (i := 45) rfl)
theorem m_286 : (Jvm.Cond.laysFinal "AnswerPost$Miser" "AnswerPost$Writer" "lift" "I") ∈ lw_tbl := in_2 (List.mem_of_getElem? (i := 46) rfl)
theorem m_287 : (Jvm.Cond.soleField "AnswerPost$Writer" "lift") ∈ lw_tbl := in_2 (List.mem_of_getElem? (i := 47) rfl)
theorem m_288 : (Jvm.Cond.superclass "AnswerPost$Miser" "AnswerPost$Writer") ∈ lw_tbl := in_2 (List.mem_of_getElem? (i := 48) rfl)
theorem m_289 : (Jvm.Cond.classLink "AnswerPost" (258 : Nat) "AnswerPost$Lawyer") ∈ lw_tbl := in_2 (List.mem_of_getElem? (i := 49) rfl)
theorem m_290 : (Jvm.Cond.instantiable "AnswerPost$Lawyer" (2 : Nat)) ∈ lw_tbl := in_2 (List.mem_of_getElem? (i := 50) rfl)
theorem m_291 : (Jvm.Cond.methodLink "AnswerPost" (276 : Nat) ({ cls := "AnswerPost$Lawyer", name := "<init>", desc := "(II)V" } : Jvm.MethodName)) ∈ lw_tbl := in_2 (List.mem_of_getElem? (i := 51) rfl)
theorem m_292 : (Jvm.Cond.instanceMethod ({ cls := "AnswerPost$Lawyer", name := "<init>", desc := "(II)V" } : Jvm.MethodName)) ∈ lw_tbl := in_2 (List.mem_of_getElem? (i := 52) rfl)
theorem m_293 : (Jvm.Cond.code ({ cls := "AnswerPost$Lawyer", name := "<init>", desc := "(II)V" } : Jvm.MethodName) prog_2_method_1_code (3 : Nat) (Option.none : Option Jvm.ClassFile.FieldType)) ∈ lw_tbl := in_2 (List.mem_of_getElem? (i := 53) rfl)
theorem m_294 : (Jvm.Cond.methodLink "AnswerPost$Lawyer" (3 : Nat) ({ cls := "AnswerPost$Miser", name := "<init>", desc := "(II)V" } : Jvm.MethodName)) ∈ lw_tbl := in_2 (List.mem_of_getElem? (i := 54) rfl)
theorem m_295 : (Jvm.Cond.laysFinal "AnswerPost$Lawyer" "AnswerPost$Writer" "number" "I") ∈ lw_tbl := in_2 (List.mem_of_getElem? (i := 55) rfl)
theorem m_296 : (Jvm.Cond.laysFinal "AnswerPost$Lawyer" "AnswerPost$Writer" "lift" "I") ∈ lw_tbl := in_2 (List.mem_of_getElem? (i := 56) rfl)
theorem m_297 : (Jvm.Cond.superclass "AnswerPost$Lawyer" "AnswerPost$Miser") ∈ lw_tbl := in_2 (List.mem_of_getElem? (i := 57) rfl)
theorem m_298 : (Jvm.Cond.instantiable "AnswerPost$Writer" (2 : Nat)) ∈ lw_tbl := in_2 (List.mem_of_getElem? (i := 58) rfl)
theorem m_299 : (Jvm.Cond.methodLink "AnswerPost" (277 : Nat) ({ cls := "AnswerPost$Writer", name := "<init>", desc := "(II)V" } : Jvm.MethodName)) ∈ lw_tbl := in_2 (List.mem_of_getElem? (i := 59) rfl)
theorem m_300 : (Jvm.Cond.laysFinal "AnswerPost$Writer" "AnswerPost$Writer" "number" "I") ∈ lw_tbl := in_2 (List.mem_of_getElem? (i := 60) rfl)
theorem m_301 : (Jvm.Cond.laysFinal "AnswerPost$Writer" "AnswerPost$Writer" "lift" "I") ∈ lw_tbl := in_2 (List.mem_of_getElem? (i := 61) rfl)
theorem m_302 : (Jvm.Cond.superclass "AnswerPost$Writer" "java/lang/Object") ∈ lw_tbl := in_2 (List.mem_of_getElem? (i := 62) rfl)
theorem m_303 : (Jvm.Cond.methodLink "AnswerPost" (159 : Nat) ({ cls := "AnswerPost$Letters", name := "burnLast", desc := "(I)V" } : Jvm.MethodName)) ∈ lw_tbl := in_2 (List.mem_of_getElem? (i := 63) rfl)
theorem m_304 : (Jvm.Cond.instanceMethod ({ cls := "AnswerPost$Letters", name := "burnLast", desc := "(I)V" } : Jvm.MethodName)) ∈ lw_tbl := in_2 (List.mem_of_getElem? (i := 64) rfl)
theorem m_305 : (Jvm.Cond.selects "AnswerPost$Letters" ({ cls := "AnswerPost$Letters", name := "burnLast", desc := "(I)V" } : Jvm.MethodName) ({ cls := "AnswerPost$Letters", name := "burnLast", desc := "(I)V" } : Jvm.MethodName)) ∈ lw_tbl := in_2 (List.mem_of_getElem? (i := 65) rfl)
theorem m_306 : (Jvm.Cond.code ({ cls := "AnswerPost$Letters", name := "burnLast", desc := "(I)V" } : Jvm.MethodName) prog_3_method_7_code (3 : Nat) (Option.none : Option Jvm.ClassFile.FieldType)) ∈ lw_tbl := in_2 (List.mem_of_getElem? (i := 66) rfl)
theorem m_307 : (Jvm.Cond.methodLink "AnswerPost$Letters" (37 : Nat) ({ cls := "AnswerPost$Letters", name := "has", desc := "(I)Z" } : Jvm.MethodName)) ∈ lw_tbl := in_2 (List.mem_of_getElem? (i := 67) rfl)
theorem m_308 : (Jvm.Cond.instanceMethod ({ cls := "AnswerPost$Letters", name := "has", desc := "(I)Z" } : Jvm.MethodName)) ∈ lw_tbl := in_2 (List.mem_of_getElem? (i := 68) rfl)
theorem m_309 : (Jvm.Cond.selects "AnswerPost$Letters" ({ cls := "AnswerPost$Letters", name := "has", desc := "(I)Z" } : Jvm.MethodName) ({ cls := "AnswerPost$Letters", name := "has", desc := "(I)Z" } : Jvm.MethodName)) ∈ lw_tbl := in_2 (List.mem_of_getElem? (i := 69) rfl)
theorem m_310 : (Jvm.Cond.code ({ cls := "AnswerPost$Letters", name := "has", desc := "(I)Z" } : Jvm.MethodName) prog_3_method_2_code (2 : Nat) (Option.some Jvm.ClassFile.FieldType.boolean)) ∈ lw_tbl := in_2 (List.mem_of_getElem? (i := 70) rfl)
theorem m_311 : (Jvm.Cond.methodLink "AnswerPostLaw" (18 : Nat) ({ cls := "AnswerPost", name := "ofPerson", desc := "(II)I" } : Jvm.MethodName)) ∈ lw_tbl := in_2 (List.mem_of_getElem? (i := 71) rfl)
theorem m_312 : (Jvm.Cond.instanceMethod ({ cls := "AnswerPost", name := "ofPerson", desc := "(II)I" } : Jvm.MethodName)) ∈ lw_tbl := in_2 (List.mem_of_getElem? (i := 72) rfl)
theorem m_313 : (Jvm.Cond.selects "AnswerPost" ({ cls := "AnswerPost", name := "ofPerson", desc := "(II)I" } : Jvm.MethodName) ({ cls := "AnswerPost", name := "ofPerson", desc := "(II)I" } : Jvm.MethodName)) ∈ lw_tbl := in_2 (List.mem_of_getElem? (i := 73) rfl)
theorem m_314 : (Jvm.Cond.code ({ cls := "AnswerPost", name := "ofPerson", desc := "(II)I" } : Jvm.MethodName) prog_1_method_3_code (4 : Nat) (Option.some Jvm.ClassFile.FieldType.int)) ∈ lw_tbl := in_2 (List.mem_of_getElem? (i := 74) rfl)
theorem m_315 : (Jvm.Cond.methodLink "AnswerPost" (96 : Nat) ({ cls := "AnswerPost", name := "personAt", desc := "(I)LAnswerPost$Writer;" } : Jvm.MethodName)) ∈ lw_tbl := in_2 (List.mem_of_getElem? (i := 75) rfl)
theorem m_316 : (Jvm.Cond.privateMethod ({ cls := "AnswerPost", name := "personAt", desc := "(I)LAnswerPost$Writer;" } : Jvm.MethodName)) ∈ lw_tbl := in_2 (List.mem_of_getElem? (i := 76) rfl)
theorem m_317 : (Jvm.Cond.instanceMethod ({ cls := "AnswerPost", name := "personAt", desc := "(I)LAnswerPost$Writer;" } : Jvm.MethodName)) ∈ lw_tbl := in_2 (List.mem_of_getElem? (i := 77) rfl)
theorem m_318 : (Jvm.Cond.code ({ cls := "AnswerPost", name := "personAt", desc := "(I)LAnswerPost$Writer;" } : Jvm.MethodName) prog_1_method_34_code (2 : Nat) (Option.some (Jvm.ClassFile.FieldType.object "AnswerPost$Writer"))) ∈ lw_tbl := in_2 (List.mem_of_getElem? (i := 78) rfl)
theorem m_319 : (Jvm.Cond.methodLink "AnswerPost" (100 : Nat) ({ cls := "AnswerPost$Writer", name := "kind", desc := "()I" } : Jvm.MethodName)) ∈ lw_tbl := in_2 (List.mem_of_getElem? (i := 79) rfl)
theorem m_320 : (Jvm.Cond.instanceMethod ({ cls := "AnswerPost$Writer", name := "kind", desc := "()I" } : Jvm.MethodName)) ∈ lw_tbl := in_2 (List.mem_of_getElem? (i := 80) rfl)
theorem m_321 : (Jvm.Cond.selects "AnswerPost$Writer" ({ cls := "AnswerPost$Writer", name := "kind", desc := "()I" } : Jvm.MethodName) ({ cls := "AnswerPost$Writer", name := "kind", desc := "()I" } : Jvm.MethodName)) ∈ lw_tbl := in_2 (List.mem_of_getElem? (i := 81) rfl)
theorem m_322 : (Jvm.Cond.sameMethod "AnswerPost$Writer" "AnswerPost$Writer" "kind" "()I") ∈ lw_tbl := in_2 (List.mem_of_getElem? (i := 82) rfl)
theorem m_323 : (Jvm.Cond.selects "AnswerPost$Lawyer" ({ cls := "AnswerPost$Writer", name := "kind", desc := "()I" } : Jvm.MethodName) ({ cls := "AnswerPost$Lawyer", name := "kind", desc := "()I" } : Jvm.MethodName)) ∈ lw_tbl := in_2 (List.mem_of_getElem? (i := 83) rfl)
theorem m_324 : (Jvm.Cond.instanceMethod ({ cls := "AnswerPost$Lawyer", name := "kind", desc := "()I" } : Jvm.MethodName)) ∈ lw_tbl := in_2 (List.mem_of_getElem? (i := 84) rfl)
theorem m_325 : (Jvm.Cond.code ({ cls := "AnswerPost$Lawyer", name := "kind", desc := "()I" } : Jvm.MethodName) prog_2_method_2_code (1 : Nat) (Option.some Jvm.ClassFile.FieldType.int)) ∈ lw_tbl := in_2 (List.mem_of_getElem? (i := 85) rfl)
theorem m_326 : (Jvm.Cond.selects "AnswerPost$Miser" ({ cls := "AnswerPost$Writer", name := "kind", desc := "()I" } : Jvm.MethodName) ({ cls := "AnswerPost$Miser", name := "kind", desc := "()I" } : Jvm.MethodName)) ∈ lw_tbl := in_2 (List.mem_of_getElem? (i := 86) rfl)
theorem m_327 : (Jvm.Cond.instanceMethod ({ cls := "AnswerPost$Miser", name := "kind", desc := "()I" } : Jvm.MethodName)) ∈ lw_tbl := in_2 (List.mem_of_getElem? (i := 87) rfl)
theorem m_328 : (Jvm.Cond.code ({ cls := "AnswerPost$Miser", name := "kind", desc := "()I" } : Jvm.MethodName) prog_4_method_2_code (1 : Nat) (Option.some Jvm.ClassFile.FieldType.int)) ∈ lw_tbl := in_2 (List.mem_of_getElem? (i := 88) rfl)
theorem m_329 : (Jvm.Cond.code ({ cls := "AnswerPost$Writer", name := "kind", desc := "()I" } : Jvm.MethodName) prog_11_method_2_code (1 : Nat) (Option.some Jvm.ClassFile.FieldType.int)) ∈ lw_tbl := in_2 (List.mem_of_getElem? (i := 89) rfl)
theorem m_330 : (Jvm.Cond.methodLink "AnswerPostLaw" (23 : Nat) ({ cls := "AnswerPost", name := "scale", desc := "(II)I" } : Jvm.MethodName)) ∈ lw_tbl := in_2 (List.mem_of_getElem? (i := 90) rfl)
theorem m_331 : (Jvm.Cond.instanceMethod ({ cls := "AnswerPost", name := "scale", desc := "(II)I" } : Jvm.MethodName)) ∈ lw_tbl := in_2 (List.mem_of_getElem? (i := 91) rfl)
theorem m_332 : (Jvm.Cond.selects "AnswerPost" ({ cls := "AnswerPost", name := "scale", desc := "(II)I" } : Jvm.MethodName) ({ cls := "AnswerPost", name := "scale", desc := "(II)I" } : Jvm.MethodName)) ∈ lw_tbl := in_2 (List.mem_of_getElem? (i := 92) rfl)
theorem m_333 : (Jvm.Cond.code ({ cls := "AnswerPost", name := "scale", desc := "(II)I" } : Jvm.MethodName) prog_1_method_4_code (4 : Nat) (Option.some Jvm.ClassFile.FieldType.int)) ∈ lw_tbl := in_2 (List.mem_of_getElem? (i := 93) rfl)
theorem m_334 : (Jvm.Cond.methodLink "AnswerPost" (107 : Nat) ({ cls := "AnswerPost$Writer", name := "shows", desc := "(I)I" } : Jvm.MethodName)) ∈ lw_tbl := in_2 (List.mem_of_getElem? (i := 94) rfl)
theorem m_335 : (Jvm.Cond.instanceMethod ({ cls := "AnswerPost$Writer", name := "shows", desc := "(I)I" } : Jvm.MethodName)) ∈ lw_tbl := in_2 (List.mem_of_getElem? (i := 95) rfl)
theorem m_336 : (Jvm.Cond.selects "AnswerPost$Writer" ({ cls := "AnswerPost$Writer", name := "shows", desc := "(I)I" } : Jvm.MethodName) ({ cls := "AnswerPost$Writer", name := "shows", desc := "(I)I" } : Jvm.MethodName)) ∈ lw_tbl := in_2 (List.mem_of_getElem? (i := 96) rfl)
theorem m_337 : (Jvm.Cond.sameMethod "AnswerPost$Writer" "AnswerPost$Writer" "shows" "(I)I") ∈ lw_tbl := in_2 (List.mem_of_getElem? (i := 97) rfl)
theorem m_338 : (Jvm.Cond.selects "AnswerPost$Lawyer" ({ cls := "AnswerPost$Writer", name := "shows", desc := "(I)I" } : Jvm.MethodName) ({ cls := "AnswerPost$Lawyer", name := "shows", desc := "(I)I" } : Jvm.MethodName)) ∈ lw_tbl := in_2 (List.mem_of_getElem? (i := 98) rfl)
theorem m_339 : (Jvm.Cond.instanceMethod ({ cls := "AnswerPost$Lawyer", name := "shows", desc := "(I)I" } : Jvm.MethodName)) ∈ lw_tbl := in_2 (List.mem_of_getElem? (i := 99) rfl)
theorem m_340 : (Jvm.Cond.code ({ cls := "AnswerPost$Lawyer", name := "shows", desc := "(I)I" } : Jvm.MethodName) prog_2_method_3_code (2 : Nat) (Option.some Jvm.ClassFile.FieldType.int)) ∈ lw_tbl := in_2 (List.mem_of_getElem? (i := 100) rfl)
theorem m_341 : (Jvm.Cond.methodLink "AnswerPost$Lawyer" (9 : Nat) ({ cls := "AnswerPost$Miser", name := "shows", desc := "(I)I" } : Jvm.MethodName)) ∈ lw_tbl := in_2 (List.mem_of_getElem? (i := 101) rfl)
theorem m_342 : (Jvm.Cond.instanceMethod ({ cls := "AnswerPost$Miser", name := "shows", desc := "(I)I" } : Jvm.MethodName)) ∈ lw_tbl := in_2 (List.mem_of_getElem? (i := 102) rfl)
theorem m_343 : (Jvm.Cond.code ({ cls := "AnswerPost$Miser", name := "shows", desc := "(I)I" } : Jvm.MethodName) prog_4_method_3_code (2 : Nat) (Option.some Jvm.ClassFile.FieldType.int)) ∈ lw_tbl := in_2 (List.mem_of_getElem? (i := 103) rfl)
theorem m_344 : (Jvm.Cond.selects "AnswerPost$Miser" ({ cls := "AnswerPost$Writer", name := "shows", desc := "(I)I" } : Jvm.MethodName) ({ cls := "AnswerPost$Miser", name := "shows", desc := "(I)I" } : Jvm.MethodName)) ∈ lw_tbl := in_2 (List.mem_of_getElem? (i := 104) rfl)
theorem m_345 : (Jvm.Cond.code ({ cls := "AnswerPost$Writer", name := "shows", desc := "(I)I" } : Jvm.MethodName) prog_11_method_3_code (2 : Nat) (Option.some Jvm.ClassFile.FieldType.int)) ∈ lw_tbl := in_2 (List.mem_of_getElem? (i := 105) rfl)
theorem m_346 : (Jvm.Cond.methodLink "AnswerPostLaw" (27 : Nat) ({ cls := "AnswerPost", name := "law", desc := "(I)I" } : Jvm.MethodName)) ∈ lw_tbl := in_2 (List.mem_of_getElem? (i := 106) rfl)
theorem m_347 : (Jvm.Cond.instanceMethod ({ cls := "AnswerPost", name := "law", desc := "(I)I" } : Jvm.MethodName)) ∈ lw_tbl := in_2 (List.mem_of_getElem? (i := 107) rfl)
theorem m_348 : (Jvm.Cond.selects "AnswerPost" ({ cls := "AnswerPost", name := "law", desc := "(I)I" } : Jvm.MethodName) ({ cls := "AnswerPost", name := "law", desc := "(I)I" } : Jvm.MethodName)) ∈ lw_tbl := in_2 (List.mem_of_getElem? (i := 108) rfl)
theorem m_349 : (Jvm.Cond.code ({ cls := "AnswerPost", name := "law", desc := "(I)I" } : Jvm.MethodName) prog_1_method_5_code (3 : Nat) (Option.some Jvm.ClassFile.FieldType.int)) ∈ lw_tbl := in_2 (List.mem_of_getElem? (i := 109) rfl)
theorem m_350 : (Jvm.Cond.methodLink "AnswerPostLaw" (32 : Nat) ({ cls := "AnswerPost", name := "send", desc := "(IIII)I" } : Jvm.MethodName)) ∈ lw_tbl := in_2 (List.mem_of_getElem? (i := 110) rfl)
theorem m_351 : (Jvm.Cond.instanceMethod ({ cls := "AnswerPost", name := "send", desc := "(IIII)I" } : Jvm.MethodName)) ∈ lw_tbl := in_2 (List.mem_of_getElem? (i := 111) rfl)
theorem m_352 : (Jvm.Cond.selects "AnswerPost" ({ cls := "AnswerPost", name := "send", desc := "(IIII)I" } : Jvm.MethodName) ({ cls := "AnswerPost", name := "send", desc := "(IIII)I" } : Jvm.MethodName)) ∈ lw_tbl := in_2 (List.mem_of_getElem? (i := 112) rfl)
theorem m_353 : (Jvm.Cond.code ({ cls := "AnswerPost", name := "send", desc := "(IIII)I" } : Jvm.MethodName) prog_1_method_6_code (6 : Nat) (Option.some Jvm.ClassFile.FieldType.int)) ∈ lw_tbl := in_2 (List.mem_of_getElem? (i := 113) rfl)
theorem m_354 : (Jvm.Cond.methodLink "AnswerPost" (113 : Nat) ({ cls := "AnswerPost", name := "isDay", desc := "(I)Z" } : Jvm.MethodName)) ∈ lw_tbl := in_2 (List.mem_of_getElem? (i := 114) rfl)
theorem m_355 : (Jvm.Cond.static ({ cls := "AnswerPost", name := "isDay", desc := "(I)Z" } : Jvm.MethodName)) ∈ lw_tbl := in_2 (List.mem_of_getElem? (i := 115) rfl)
theorem m_356 : (Jvm.Cond.code ({ cls := "AnswerPost", name := "isDay", desc := "(I)Z" } : Jvm.MethodName) prog_1_method_32_code (1 : Nat) (Option.some Jvm.ClassFile.FieldType.boolean)) ∈ lw_tbl := in_2 (List.mem_of_getElem? (i := 116) rfl)
theorem m_357 : (Jvm.Cond.methodLink "AnswerPost" (117 : Nat) ({ cls := "AnswerPost$Letters", name := "isFull", desc := "()Z" } : Jvm.MethodName)) ∈ lw_tbl := in_2 (List.mem_of_getElem? (i := 117) rfl)
theorem m_358 : (Jvm.Cond.instanceMethod ({ cls := "AnswerPost$Letters", name := "isFull", desc := "()Z" } : Jvm.MethodName)) ∈ lw_tbl := in_2 (List.mem_of_getElem? (i := 118) rfl)
theorem m_359 : (Jvm.Cond.selects "AnswerPost$Letters" ({ cls := "AnswerPost$Letters", name := "isFull", desc := "()Z" } : Jvm.MethodName) ({ cls := "AnswerPost$Letters", name := "isFull", desc := "()Z" } : Jvm.MethodName)) ∈ lw_tbl := in_2 (List.mem_of_getElem? (i := 119) rfl)
theorem m_360 : (Jvm.Cond.code ({ cls := "AnswerPost$Letters", name := "isFull", desc := "()Z" } : Jvm.MethodName) prog_3_method_3_code (1 : Nat) (Option.some Jvm.ClassFile.FieldType.boolean)) ∈ lw_tbl := in_2 (List.mem_of_getElem? (i := 120) rfl)
theorem m_361 : (Jvm.Cond.methodLink "AnswerPost" (121 : Nat) ({ cls := "AnswerPost$Letters", name := "write", desc := "(LAnswerPost$Writer;III)I" } : Jvm.MethodName)) ∈ lw_tbl := in_2 (List.mem_of_getElem? (i := 121) rfl)
theorem m_362 : (Jvm.Cond.instanceMethod ({ cls := "AnswerPost$Letters", name := "write", desc := "(LAnswerPost$Writer;III)I" } : Jvm.MethodName)) ∈ lw_tbl := in_2 (List.mem_of_getElem? (i := 122) rfl)
theorem m_363 : (Jvm.Cond.selects "AnswerPost$Letters" ({ cls := "AnswerPost$Letters", name := "write", desc := "(LAnswerPost$Writer;III)I" } : Jvm.MethodName) ({ cls := "AnswerPost$Letters", name := "write", desc := "(LAnswerPost$Writer;III)I" } : Jvm.MethodName)) ∈ lw_tbl := in_2 (List.mem_of_getElem? (i := 123) rfl)
theorem m_364 : (Jvm.Cond.code ({ cls := "AnswerPost$Letters", name := "write", desc := "(LAnswerPost$Writer;III)I" } : Jvm.MethodName) prog_3_method_5_code (6 : Nat) (Option.some Jvm.ClassFile.FieldType.int)) ∈ lw_tbl := in_2 (List.mem_of_getElem? (i := 124) rfl)
theorem m_365 : (Jvm.Cond.methodLink "AnswerPost$Letters" (46 : Nat) ({ cls := "AnswerPost$Writer", name := "shows", desc := "(I)I" } : Jvm.MethodName)) ∈ lw_tbl := in_2 (List.mem_of_getElem? (i := 125) rfl)
theorem m_366 : (Jvm.Cond.methodLink "AnswerPostLaw" (36 : Nat) ({ cls := "AnswerPost", name := "answer", desc := "(III)I" } : Jvm.MethodName)) ∈ lw_tbl := in_2 (List.mem_of_getElem? (i := 126) rfl)
theorem m_367 : (Jvm.Cond.instanceMethod ({ cls := "AnswerPost", name := "answer", desc := "(III)I" } : Jvm.MethodName)) ∈ lw_tbl := in_2 (List.mem_of_getElem? (i := 127) rfl)
theorem m_368 : (Jvm.Cond.selects "AnswerPost" ({ cls := "AnswerPost", name := "answer", desc := "(III)I" } : Jvm.MethodName) ({ cls := "AnswerPost", name := "answer", desc := "(III)I" } : Jvm.MethodName)) ∈ lw_tbl := in_2 (List.mem_of_getElem? (i := 128) rfl)
theorem m_369 : (Jvm.Cond.code ({ cls := "AnswerPost", name := "answer", desc := "(III)I" } : Jvm.MethodName) prog_1_method_7_code (6 : Nat) (Option.some Jvm.ClassFile.FieldType.int)) ∈ lw_tbl := in_2 (List.mem_of_getElem? (i := 129) rfl)
theorem m_370 : (Jvm.Cond.methodLink "AnswerPost" (125 : Nat) ({ cls := "AnswerPost$Letters", name := "has", desc := "(I)Z" } : Jvm.MethodName)) ∈ lw_tbl := in_2 (List.mem_of_getElem? (i := 130) rfl)
theorem m_371 : (Jvm.Cond.methodLink "AnswerPost" (131 : Nat) ({ cls := "AnswerPost$Letters", name := "isAnswered", desc := "(I)Z" } : Jvm.MethodName)) ∈ lw_tbl := in_2 (List.mem_of_getElem? (i := 131) rfl)
theorem m_372 : (Jvm.Cond.instanceMethod ({ cls := "AnswerPost$Letters", name := "isAnswered", desc := "(I)Z" } : Jvm.MethodName)) ∈ lw_tbl := in_2 (List.mem_of_getElem? (i := 132) rfl)
theorem m_373 : (Jvm.Cond.selects "AnswerPost$Letters" ({ cls := "AnswerPost$Letters", name := "isAnswered", desc := "(I)Z" } : Jvm.MethodName) ({ cls := "AnswerPost$Letters", name := "isAnswered", desc := "(I)Z" } : Jvm.MethodName)) ∈ lw_tbl := in_2 (List.mem_of_getElem? (i := 133) rfl)
theorem m_374 : (Jvm.Cond.code ({ cls := "AnswerPost$Letters", name := "isAnswered", desc := "(I)Z" } : Jvm.MethodName) prog_3_method_4_code (2 : Nat) (Option.some Jvm.ClassFile.FieldType.boolean)) ∈ lw_tbl := in_2 (List.mem_of_getElem? (i := 134) rfl)
theorem m_375 : (Jvm.Cond.methodLink "AnswerPost" (140 : Nat) ({ cls := "AnswerPost$Letters", name := "pair", desc := "(II)V" } : Jvm.MethodName)) ∈ lw_tbl := in_2 (List.mem_of_getElem? (i := 135) rfl)
theorem m_376 : (Jvm.Cond.instanceMethod ({ cls := "AnswerPost$Letters", name := "pair", desc := "(II)V" } : Jvm.MethodName)) ∈ lw_tbl := in_2 (List.mem_of_getElem? (i := 136) rfl)
theorem m_377 : (Jvm.Cond.selects "AnswerPost$Letters" ({ cls := "AnswerPost$Letters", name := "pair", desc := "(II)V" } : Jvm.MethodName) ({ cls := "AnswerPost$Letters", name := "pair", desc := "(II)V" } : Jvm.MethodName)) ∈ lw_tbl := in_2 (List.mem_of_getElem? (i := 137) rfl)
theorem m_378 : (Jvm.Cond.code ({ cls := "AnswerPost$Letters", name := "pair", desc := "(II)V" } : Jvm.MethodName) prog_3_method_6_code (3 : Nat) (Option.none : Option Jvm.ClassFile.FieldType)) ∈ lw_tbl := in_2 (List.mem_of_getElem? (i := 138) rfl)
theorem m_379 : (Jvm.Cond.methodLink "AnswerPostLaw" (41 : Nat) ({ cls := "AnswerPost", name := "ofLetter", desc := "(II)I" } : Jvm.MethodName)) ∈ lw_tbl := in_2 (List.mem_of_getElem? (i := 139) rfl)
theorem m_380 : (Jvm.Cond.instanceMethod ({ cls := "AnswerPost", name := "ofLetter", desc := "(II)I" } : Jvm.MethodName)) ∈ lw_tbl := in_2 (List.mem_of_getElem? (i := 140) rfl)
theorem m_381 : (Jvm.Cond.selects "AnswerPost" ({ cls := "AnswerPost", name := "ofLetter", desc := "(II)I" } : Jvm.MethodName) ({ cls := "AnswerPost", name := "ofLetter", desc := "(II)I" } : Jvm.MethodName)) ∈ lw_tbl := in_2 (List.mem_of_getElem? (i := 141) rfl)
theorem m_382 : (Jvm.Cond.code ({ cls := "AnswerPost", name := "ofLetter", desc := "(II)I" } : Jvm.MethodName) prog_1_method_8_code (3 : Nat) (Option.some Jvm.ClassFile.FieldType.int)) ∈ lw_tbl := in_2 (List.mem_of_getElem? (i := 142) rfl)
theorem m_383 : (Jvm.Cond.methodLink "AnswerPostLaw" (45 : Nat) ({ cls := "AnswerPost", name := "burn", desc := "(I)I" } : Jvm.MethodName)) ∈ lw_tbl := in_2 (List.mem_of_getElem? (i := 143) rfl)
theorem m_384 : (Jvm.Cond.instanceMethod ({ cls := "AnswerPost", name := "burn", desc := "(I)I" } : Jvm.MethodName)) ∈ lw_tbl := in_2 (List.mem_of_getElem? (i := 144) rfl)
theorem m_385 : (Jvm.Cond.selects "AnswerPost" ({ cls := "AnswerPost", name := "burn", desc := "(I)I" } : Jvm.MethodName) ({ cls := "AnswerPost", name := "burn", desc := "(I)I" } : Jvm.MethodName)) ∈ lw_tbl := in_2 (List.mem_of_getElem? (i := 145) rfl)
theorem m_386 : (Jvm.Cond.code ({ cls := "AnswerPost", name := "burn", desc := "(I)I" } : Jvm.MethodName) prog_1_method_9_code (2 : Nat) (Option.some Jvm.ClassFile.FieldType.int)) ∈ lw_tbl := in_2 (List.mem_of_getElem? (i := 146) rfl)
theorem m_387 : (Jvm.Cond.methodLink "AnswerPostLaw" (49 : Nat) ({ cls := "AnswerPost", name := "paid", desc := "(II)I" } : Jvm.MethodName)) ∈ lw_tbl := in_2 (List.mem_of_getElem? (i := 147) rfl)
theorem m_388 : (Jvm.Cond.instanceMethod ({ cls := "AnswerPost", name := "paid", desc := "(II)I" } : Jvm.MethodName)) ∈ lw_tbl := in_2 (List.mem_of_getElem? (i := 148) rfl)
theorem m_389 : (Jvm.Cond.selects "AnswerPost" ({ cls := "AnswerPost", name := "paid", desc := "(II)I" } : Jvm.MethodName) ({ cls := "AnswerPost", name := "paid", desc := "(II)I" } : Jvm.MethodName)) ∈ lw_tbl := in_2 (List.mem_of_getElem? (i := 149) rfl)
theorem m_390 : (Jvm.Cond.code ({ cls := "AnswerPost", name := "paid", desc := "(II)I" } : Jvm.MethodName) prog_1_method_10_code (3 : Nat) (Option.some Jvm.ClassFile.FieldType.int)) ∈ lw_tbl := in_2 (List.mem_of_getElem? (i := 150) rfl)
theorem m_391 : (Jvm.Cond.methodLink "AnswerPost" (163 : Nat) ({ cls := "AnswerPost$Letters", name := "paidBy", desc := "(III)I" } : Jvm.MethodName)) ∈ lw_tbl := in_2 (List.mem_of_getElem? (i := 151) rfl)
theorem m_392 : (Jvm.Cond.instanceMethod ({ cls := "AnswerPost$Letters", name := "paidBy", desc := "(III)I" } : Jvm.MethodName)) ∈ lw_tbl := in_2 (List.mem_of_getElem? (i := 152) rfl)
theorem m_393 : (Jvm.Cond.selects "AnswerPost$Letters" ({ cls := "AnswerPost$Letters", name := "paidBy", desc := "(III)I" } : Jvm.MethodName) ({ cls := "AnswerPost$Letters", name := "paidBy", desc := "(III)I" } : Jvm.MethodName)) ∈ lw_tbl := in_2 (List.mem_of_getElem? (i := 153) rfl)
theorem m_394 : (Jvm.Cond.code ({ cls := "AnswerPost$Letters", name := "paidBy", desc := "(III)I" } : Jvm.MethodName) prog_3_method_8_code (4 : Nat) (Option.some Jvm.ClassFile.FieldType.int)) ∈ lw_tbl := in_2 (List.mem_of_getElem? (i := 154) rfl)
theorem m_395 : (Jvm.Cond.methodLink "AnswerPost$Letters" (50 : Nat) ({ cls := "AnswerPost$Letters", name := "paidIf", desc := "(IIIII)I" } : Jvm.MethodName)) ∈ lw_tbl := in_2 (List.mem_of_getElem? (i := 155) rfl)
theorem m_396 : (Jvm.Cond.instanceMethod ({ cls := "AnswerPost$Letters", name := "paidIf", desc := "(IIIII)I" } : Jvm.MethodName)) ∈ lw_tbl := in_2 (List.mem_of_getElem? (i := 156) rfl)
theorem m_397 : (Jvm.Cond.selects "AnswerPost$Letters" ({ cls := "AnswerPost$Letters", name := "paidIf", desc := "(IIIII)I" } : Jvm.MethodName) ({ cls := "AnswerPost$Letters", name := "paidIf", desc := "(IIIII)I" } : Jvm.MethodName)) ∈ lw_tbl := in_2 (List.mem_of_getElem? (i := 157) rfl)
theorem m_398 : (Jvm.Cond.code ({ cls := "AnswerPost$Letters", name := "paidIf", desc := "(IIIII)I" } : Jvm.MethodName) prog_3_method_9_code (11 : Nat) (Option.some Jvm.ClassFile.FieldType.int)) ∈ lw_tbl := in_2 (List.mem_of_getElem? (i := 158) rfl)
theorem m_399 : (Jvm.Cond.methodLinkNest "AnswerPost$Letters" (54 : Nat) ({ cls := "AnswerPost", name := "pays", desc := "(III)I" } : Jvm.MethodName) "AnswerPost") ∈ lw_tbl := in_2 (List.mem_of_getElem? (i := 159) rfl)
theorem m_400 : (Jvm.Cond.static ({ cls := "AnswerPost", name := "pays", desc := "(III)I" } : Jvm.MethodName)) ∈ lw_tbl := in_2 (List.mem_of_getElem? (i := 160) rfl)
theorem m_401 : (Jvm.Cond.code ({ cls := "AnswerPost", name := "pays", desc := "(III)I" } : Jvm.MethodName) prog_1_method_39_code (4 : Nat) (Option.some Jvm.ClassFile.FieldType.int)) ∈ lw_tbl := in_2 (List.mem_of_getElem? (i := 161) rfl)
theorem m_402 : (Jvm.Cond.methodLink "AnswerPostLaw" (53 : Nat) ({ cls := "AnswerPost", name := "owes", desc := "(III)I" } : Jvm.MethodName)) ∈ lw_tbl := in_2 (List.mem_of_getElem? (i := 162) rfl)
theorem m_403 : (Jvm.Cond.instanceMethod ({ cls := "AnswerPost", name := "owes", desc := "(III)I" } : Jvm.MethodName)) ∈ lw_tbl := in_2 (List.mem_of_getElem? (i := 163) rfl)
theorem m_404 : (Jvm.Cond.selects "AnswerPost" ({ cls := "AnswerPost", name := "owes", desc := "(III)I" } : Jvm.MethodName) ({ cls := "AnswerPost", name := "owes", desc := "(III)I" } : Jvm.MethodName)) ∈ lw_tbl := in_2 (List.mem_of_getElem? (i := 164) rfl)
theorem m_405 : (Jvm.Cond.code ({ cls := "AnswerPost", name := "owes", desc := "(III)I" } : Jvm.MethodName) prog_1_method_11_code (4 : Nat) (Option.some Jvm.ClassFile.FieldType.int)) ∈ lw_tbl := in_2 (List.mem_of_getElem? (i := 165) rfl)
theorem m_406 : (Jvm.Cond.methodLink "AnswerPost" (166 : Nat) ({ cls := "AnswerPost$Letters", name := "owed", desc := "(III)I" } : Jvm.MethodName)) ∈ lw_tbl := in_2 (List.mem_of_getElem? (i := 166) rfl)
theorem m_407 : (Jvm.Cond.instanceMethod ({ cls := "AnswerPost$Letters", name := "owed", desc := "(III)I" } : Jvm.MethodName)) ∈ lw_tbl := in_2 (List.mem_of_getElem? (i := 167) rfl)
theorem m_408 : (Jvm.Cond.selects "AnswerPost$Letters" ({ cls := "AnswerPost$Letters", name := "owed", desc := "(III)I" } : Jvm.MethodName) ({ cls := "AnswerPost$Letters", name := "owed", desc := "(III)I" } : Jvm.MethodName)) ∈ lw_tbl := in_2 (List.mem_of_getElem? (i := 168) rfl)
theorem m_409 : (Jvm.Cond.code ({ cls := "AnswerPost$Letters", name := "owed", desc := "(III)I" } : Jvm.MethodName) prog_3_method_10_code (6 : Nat) (Option.some Jvm.ClassFile.FieldType.int)) ∈ lw_tbl := in_2 (List.mem_of_getElem? (i := 169) rfl)
theorem m_410 : (Jvm.Cond.methodLink "AnswerPost$Letters" (58 : Nat) ({ cls := "AnswerPost$Letters", name := "owedFor", desc := "(II)I" } : Jvm.MethodName)) ∈ lw_tbl := in_2 (List.mem_of_getElem? (i := 170) rfl)
theorem m_411 : (Jvm.Cond.privateMethod ({ cls := "AnswerPost$Letters", name := "owedFor", desc := "(II)I" } : Jvm.MethodName)) ∈ lw_tbl := in_2 (List.mem_of_getElem? (i := 171) rfl)
theorem m_412 : (Jvm.Cond.instanceMethod ({ cls := "AnswerPost$Letters", name := "owedFor", desc := "(II)I" } : Jvm.MethodName)) ∈ lw_tbl := in_2 (List.mem_of_getElem? (i := 172) rfl)
theorem m_413 : (Jvm.Cond.code ({ cls := "AnswerPost$Letters", name := "owedFor", desc := "(II)I" } : Jvm.MethodName) prog_3_method_12_code (5 : Nat) (Option.some Jvm.ClassFile.FieldType.int)) ∈ lw_tbl := in_2 (List.mem_of_getElem? (i := 173) rfl)
theorem m_414 : (Jvm.Cond.methodLink "AnswerPostLaw" (57 : Nat) ({ cls := "AnswerPost", name := "net", desc := "(II)I" } : Jvm.MethodName)) ∈ lw_tbl := in_2 (List.mem_of_getElem? (i := 174) rfl)
theorem m_415 : (Jvm.Cond.instanceMethod ({ cls := "AnswerPost", name := "net", desc := "(II)I" } : Jvm.MethodName)) ∈ lw_tbl := in_2 (List.mem_of_getElem? (i := 175) rfl)
theorem m_416 : (Jvm.Cond.selects "AnswerPost" ({ cls := "AnswerPost", name := "net", desc := "(II)I" } : Jvm.MethodName) ({ cls := "AnswerPost", name := "net", desc := "(II)I" } : Jvm.MethodName)) ∈ lw_tbl := in_2 (List.mem_of_getElem? (i := 176) rfl)
theorem m_417 : (Jvm.Cond.code ({ cls := "AnswerPost", name := "net", desc := "(II)I" } : Jvm.MethodName) prog_1_method_12_code (3 : Nat) (Option.some Jvm.ClassFile.FieldType.int)) ∈ lw_tbl := in_2 (List.mem_of_getElem? (i := 177) rfl)
theorem m_418 : (Jvm.Cond.methodLink "AnswerPost" (169 : Nat) ({ cls := "AnswerPost$Letters", name := "netOf", desc := "(II)I" } : Jvm.MethodName)) ∈ lw_tbl := in_2 (List.mem_of_getElem? (i := 178) rfl)
theorem m_419 : (Jvm.Cond.instanceMethod ({ cls := "AnswerPost$Letters", name := "netOf", desc := "(II)I" } : Jvm.MethodName)) ∈ lw_tbl := in_2 (List.mem_of_getElem? (i := 179) rfl)
theorem m_420 : (Jvm.Cond.selects "AnswerPost$Letters" ({ cls := "AnswerPost$Letters", name := "netOf", desc := "(II)I" } : Jvm.MethodName) ({ cls := "AnswerPost$Letters", name := "netOf", desc := "(II)I" } : Jvm.MethodName)) ∈ lw_tbl := in_2 (List.mem_of_getElem? (i := 180) rfl)
theorem m_421 : (Jvm.Cond.code ({ cls := "AnswerPost$Letters", name := "netOf", desc := "(II)I" } : Jvm.MethodName) prog_3_method_11_code (5 : Nat) (Option.some Jvm.ClassFile.FieldType.int)) ∈ lw_tbl := in_2 (List.mem_of_getElem? (i := 181) rfl)
theorem m_422 : (Jvm.Cond.constant "AnswerPost" (173 : Nat) (1000000 : Int32)) ∈ lw_tbl := in_2 (List.mem_of_getElem? (i := 182) rfl)
theorem m_423 : (Jvm.Cond.methodLink "AnswerPostLaw" (61 : Nat) ({ cls := "AnswerPost", name := "settled", desc := "(I)I" } : Jvm.MethodName)) ∈ lw_tbl := in_2 (List.mem_of_getElem? (i := 183) rfl)
theorem m_424 : (Jvm.Cond.instanceMethod ({ cls := "AnswerPost", name := "settled", desc := "(I)I" } : Jvm.MethodName)) ∈ lw_tbl := in_2 (List.mem_of_getElem? (i := 184) rfl)
theorem m_425 : (Jvm.Cond.selects "AnswerPost" ({ cls := "AnswerPost", name := "settled", desc := "(I)I" } : Jvm.MethodName) ({ cls := "AnswerPost", name := "settled", desc := "(I)I" } : Jvm.MethodName)) ∈ lw_tbl := in_2 (List.mem_of_getElem? (i := 185) rfl)
theorem m_426 : (Jvm.Cond.code ({ cls := "AnswerPost", name := "settled", desc := "(I)I" } : Jvm.MethodName) prog_1_method_13_code (3 : Nat) (Option.some Jvm.ClassFile.FieldType.int)) ∈ lw_tbl := in_2 (List.mem_of_getElem? (i := 186) rfl)
theorem m_427 : (Jvm.Cond.methodLink "AnswerPost" (174 : Nat) ({ cls := "AnswerPost$Settling", name := "clear", desc := "()V" } : Jvm.MethodName)) ∈ lw_tbl := in_2 (List.mem_of_getElem? (i := 187) rfl)
theorem m_428 : (Jvm.Cond.instanceMethod ({ cls := "AnswerPost$Settling", name := "clear", desc := "()V" } : Jvm.MethodName)) ∈ lw_tbl := in_2 (List.mem_of_getElem? (i := 188) rfl)
theorem m_429 : (Jvm.Cond.selects "AnswerPost$Settling" ({ cls := "AnswerPost$Settling", name := "clear", desc := "()V" } : Jvm.MethodName) ({ cls := "AnswerPost$Settling", name := "clear", desc := "()V" } : Jvm.MethodName)) ∈ lw_tbl := in_2 (List.mem_of_getElem? (i := 189) rfl)
theorem m_430 : (Jvm.Cond.code ({ cls := "AnswerPost$Settling", name := "clear", desc := "()V" } : Jvm.MethodName) prog_7_method_2_code (1 : Nat) (Option.none : Option Jvm.ClassFile.FieldType)) ∈ lw_tbl := in_2 (List.mem_of_getElem? (i := 190) rfl)
theorem m_431 : (Jvm.Cond.methodLink "AnswerPost" (177 : Nat) ({ cls := "AnswerPost$Settling", name := "take", desc := "(I)V" } : Jvm.MethodName)) ∈ lw_tbl := in_2 (List.mem_of_getElem? (i := 191) rfl)
theorem m_432 : (Jvm.Cond.instanceMethod ({ cls := "AnswerPost$Settling", name := "take", desc := "(I)V" } : Jvm.MethodName)) ∈ lw_tbl := in_2 (List.mem_of_getElem? (i := 192) rfl)
theorem m_433 : (Jvm.Cond.selects "AnswerPost$Settling" ({ cls := "AnswerPost$Settling", name := "take", desc := "(I)V" } : Jvm.MethodName) ({ cls := "AnswerPost$Settling", name := "take", desc := "(I)V" } : Jvm.MethodName)) ∈ lw_tbl := in_2 (List.mem_of_getElem? (i := 193) rfl)
theorem m_434 : (Jvm.Cond.code ({ cls := "AnswerPost$Settling", name := "take", desc := "(I)V" } : Jvm.MethodName) prog_7_method_3_code (2 : Nat) (Option.none : Option Jvm.ClassFile.FieldType)) ∈ lw_tbl := in_2 (List.mem_of_getElem? (i := 194) rfl)
theorem m_435 : (Jvm.Cond.methodLink "AnswerPost" (180 : Nat) ({ cls := "AnswerPost$Settling", name := "fewestPayments", desc := "()I" } : Jvm.MethodName)) ∈ lw_tbl := in_2 (List.mem_of_getElem? (i := 195) rfl)
theorem m_436 : (Jvm.Cond.instanceMethod ({ cls := "AnswerPost$Settling", name := "fewestPayments", desc := "()I" } : Jvm.MethodName)) ∈ lw_tbl := in_2 (List.mem_of_getElem? (i := 196) rfl)
theorem m_437 : (Jvm.Cond.selects "AnswerPost$Settling" ({ cls := "AnswerPost$Settling", name := "fewestPayments", desc := "()I" } : Jvm.MethodName) ({ cls := "AnswerPost$Settling", name := "fewestPayments", desc := "()I" } : Jvm.MethodName)) ∈ lw_tbl := in_2 (List.mem_of_getElem? (i := 197) rfl)
theorem m_438 : (Jvm.Cond.code ({ cls := "AnswerPost$Settling", name := "fewestPayments", desc := "()I" } : Jvm.MethodName) prog_7_method_4_code (3 : Nat) (Option.some Jvm.ClassFile.FieldType.int)) ∈ lw_tbl := in_2 (List.mem_of_getElem? (i := 198) rfl)
theorem m_439 : (Jvm.Cond.methodLink "AnswerPost$Settling" (25 : Nat) ({ cls := "AnswerPost$Settling", name := "fill", desc := "(I)V" } : Jvm.MethodName)) ∈ lw_tbl := in_2 (List.mem_of_getElem? (i := 199) rfl)
theorem m_440 : (Jvm.Cond.privateMethod ({ cls := "AnswerPost$Settling", name := "fill", desc := "(I)V" } : Jvm.MethodName)) ∈ lw_tbl := in_2 (List.mem_of_getElem? (i := 200) rfl)
theorem m_441 : (Jvm.Cond.instanceMethod ({ cls := "AnswerPost$Settling", name := "fill", desc := "(I)V" } : Jvm.MethodName)) ∈ lw_tbl := in_2 (List.mem_of_getElem? (i := 201) rfl)
theorem m_442 : (Jvm.Cond.code ({ cls := "AnswerPost$Settling", name := "fill", desc := "(I)V" } : Jvm.MethodName) prog_7_method_5_code (6 : Nat) (Option.none : Option Jvm.ClassFile.FieldType)) ∈ lw_tbl := in_2 (List.mem_of_getElem? (i := 202) rfl)
theorem m_443 : (Jvm.Cond.methodLink "AnswerPost$Settling" (29 : Nat) ({ cls := "java/lang/Math", name := "max", desc := "(II)I" } : Jvm.MethodName)) ∈ lw_tbl := in_2 (List.mem_of_getElem? (i := 203) rfl)
theorem m_444 : (Jvm.Cond.static ({ cls := "java/lang/Math", name := "max", desc := "(II)I" } : Jvm.MethodName)) ∈ lw_tbl := in_2 (List.mem_of_getElem? (i := 204) rfl)
theorem m_445 : (Jvm.Cond.code ({ cls := "java/lang/Math", name := "max", desc := "(II)I" } : Jvm.MethodName) prog_14_method_65_code (2 : Nat) (Option.some Jvm.ClassFile.FieldType.int)) ∈ lw_tbl := in_2 (List.mem_of_getElem? (i := 205) rfl)
theorem m_446 : (Jvm.Cond.methodLink "AnswerPostLaw" (65 : Nat) ({ cls := "AnswerPost", name := "best", desc := "(III)I" } : Jvm.MethodName)) ∈ lw_tbl := in_2 (List.mem_of_getElem? (i := 206) rfl)
theorem m_447 : (Jvm.Cond.instanceMethod ({ cls := "AnswerPost", name := "best", desc := "(III)I" } : Jvm.MethodName)) ∈ lw_tbl := in_2 (List.mem_of_getElem? (i := 207) rfl)
theorem m_448 : (Jvm.Cond.selects "AnswerPost" ({ cls := "AnswerPost", name := "best", desc := "(III)I" } : Jvm.MethodName) ({ cls := "AnswerPost", name := "best", desc := "(III)I" } : Jvm.MethodName)) ∈ lw_tbl := in_2 (List.mem_of_getElem? (i := 208) rfl)
theorem m_449 : (Jvm.Cond.code ({ cls := "AnswerPost", name := "best", desc := "(III)I" } : Jvm.MethodName) prog_1_method_14_code (9 : Nat) (Option.some Jvm.ClassFile.FieldType.int)) ∈ lw_tbl := in_2 (List.mem_of_getElem? (i := 209) rfl)
theorem m_450 : (Jvm.Cond.methodLink "AnswerPost" (183 : Nat) ({ cls := "AnswerPost", name := "pays", desc := "(III)I" } : Jvm.MethodName)) ∈ lw_tbl := in_2 (List.mem_of_getElem? (i := 210) rfl)
theorem m_451 : (Jvm.Cond.methodLink "AnswerPostLaw" (69 : Nat) ({ cls := "AnswerPost", name := "course", desc := "(IIIII)I" } : Jvm.MethodName)) ∈ lw_tbl := in_2 (List.mem_of_getElem? (i := 211) rfl)
theorem m_452 : (Jvm.Cond.instanceMethod ({ cls := "AnswerPost", name := "course", desc := "(IIIII)I" } : Jvm.MethodName)) ∈ lw_tbl := in_2 (List.mem_of_getElem? (i := 212) rfl)
theorem m_453 : (Jvm.Cond.selects "AnswerPost" ({ cls := "AnswerPost", name := "course", desc := "(IIIII)I" } : Jvm.MethodName) ({ cls := "AnswerPost", name := "course", desc := "(IIIII)I" } : Jvm.MethodName)) ∈ lw_tbl := in_2 (List.mem_of_getElem? (i := 213) rfl)
theorem m_454 : (Jvm.Cond.code ({ cls := "AnswerPost", name := "course", desc := "(IIIII)I" } : Jvm.MethodName) prog_1_method_15_code (8 : Nat) (Option.some Jvm.ClassFile.FieldType.int)) ∈ lw_tbl := in_2 (List.mem_of_getElem? (i := 214) rfl)
theorem m_455 : (Jvm.Cond.methodLink "AnswerPost" (186 : Nat) ({ cls := "AnswerPost$Turns", name := "play", desc := "(LAnswerPost$Writer;LAnswerPost$Writer;III)V" } : Jvm.MethodName)) ∈ lw_tbl := in_2 (List.mem_of_getElem? (i := 215) rfl)
theorem m_456 : (Jvm.Cond.instanceMethod ({ cls := "AnswerPost$Turns", name := "play", desc := "(LAnswerPost$Writer;LAnswerPost$Writer;III)V" } : Jvm.MethodName)) ∈ lw_tbl := in_2 (List.mem_of_getElem? (i := 216) rfl)
theorem m_457 : (Jvm.Cond.selects "AnswerPost$Turns" ({ cls := "AnswerPost$Turns", name := "play", desc := "(LAnswerPost$Writer;LAnswerPost$Writer;III)V" } : Jvm.MethodName) ({ cls := "AnswerPost$Turns", name := "play", desc := "(LAnswerPost$Writer;LAnswerPost$Writer;III)V" } : Jvm.MethodName)) ∈ lw_tbl := in_2 (List.mem_of_getElem? (i := 217) rfl)
theorem m_458 : (Jvm.Cond.code ({ cls := "AnswerPost$Turns", name := "play", desc := "(LAnswerPost$Writer;LAnswerPost$Writer;III)V" } : Jvm.MethodName) prog_10_method_2_code (8 : Nat) (Option.none : Option Jvm.ClassFile.FieldType)) ∈ lw_tbl := in_2 (List.mem_of_getElem? (i := 218) rfl)
theorem m_459 : (Jvm.Cond.methodLink "AnswerPost$Turns" (39 : Nat) ({ cls := "AnswerPost$Turns", name := "weighAll", desc := "(LAnswerPost$Writer;I)V" } : Jvm.MethodName)) ∈ lw_tbl := in_2 (List.mem_of_getElem? (i := 219) rfl)
theorem m_460 : (Jvm.Cond.privateMethod ({ cls := "AnswerPost$Turns", name := "weighAll", desc := "(LAnswerPost$Writer;I)V" } : Jvm.MethodName)) ∈ lw_tbl := in_2 (List.mem_of_getElem? (i := 220) rfl)
theorem m_461 : (Jvm.Cond.instanceMethod ({ cls := "AnswerPost$Turns", name := "weighAll", desc := "(LAnswerPost$Writer;I)V" } : Jvm.MethodName)) ∈ lw_tbl := in_2 (List.mem_of_getElem? (i := 221) rfl)
theorem m_462 : (Jvm.Cond.code ({ cls := "AnswerPost$Turns", name := "weighAll", desc := "(LAnswerPost$Writer;I)V" } : Jvm.MethodName) prog_10_method_3_code (4 : Nat) (Option.none : Option Jvm.ClassFile.FieldType)) ∈ lw_tbl := in_2 (List.mem_of_getElem? (i := 222) rfl)
theorem m_463 : (Jvm.Cond.methodLink "AnswerPost$Turns" (55 : Nat) ({ cls := "java/lang/Math", name := "min", desc := "(II)I" } : Jvm.MethodName)) ∈ lw_tbl := in_2 (List.mem_of_getElem? (i := 223) rfl)
theorem m_464 : (Jvm.Cond.static ({ cls := "java/lang/Math", name := "min", desc := "(II)I" } : Jvm.MethodName)) ∈ lw_tbl := in_2 (List.mem_of_getElem? (i := 224) rfl)
theorem m_465 : (Jvm.Cond.code ({ cls := "java/lang/Math", name := "min", desc := "(II)I" } : Jvm.MethodName) prog_14_method_69_code (2 : Nat) (Option.some Jvm.ClassFile.FieldType.int)) ∈ lw_tbl := in_2 (List.mem_of_getElem? (i := 225) rfl)
theorem m_466 : (Jvm.Cond.methodLink "AnswerPost$Turns" (61 : Nat) ({ cls := "AnswerPost$Writer", name := "shows", desc := "(I)I" } : Jvm.MethodName)) ∈ lw_tbl := in_2 (List.mem_of_getElem? (i := 226) rfl)
theorem m_467 : (Jvm.Cond.methodLink "AnswerPost$Turns" (43 : Nat) ({ cls := "AnswerPost$Turns", name := "choose", desc := "(II)V" } : Jvm.MethodName)) ∈ lw_tbl := in_2 (List.mem_of_getElem? (i := 227) rfl)
theorem m_468 : (Jvm.Cond.privateMethod ({ cls := "AnswerPost$Turns", name := "choose", desc := "(II)V" } : Jvm.MethodName)) ∈ lw_tbl := in_2 (List.mem_of_getElem? (i := 228) rfl)
theorem m_469 : (Jvm.Cond.instanceMethod ({ cls := "AnswerPost$Turns", name := "choose", desc := "(II)V" } : Jvm.MethodName)) ∈ lw_tbl := in_2 (List.mem_of_getElem? (i := 229) rfl)
theorem m_470 : (Jvm.Cond.code ({ cls := "AnswerPost$Turns", name := "choose", desc := "(II)V" } : Jvm.MethodName) prog_10_method_4_code (10 : Nat) (Option.none : Option Jvm.ClassFile.FieldType)) ∈ lw_tbl := in_2 (List.mem_of_getElem? (i := 230) rfl)
theorem m_471 : (Jvm.Cond.methodLinkNest "AnswerPost$Turns" (65 : Nat) ({ cls := "AnswerPost", name := "pays", desc := "(III)I" } : Jvm.MethodName) "AnswerPost") ∈ lw_tbl := in_2 (List.mem_of_getElem? (i := 231) rfl)
theorem m_472 : (Jvm.Cond.methodLink "AnswerPost$Turns" (47 : Nat) ({ cls := "AnswerPost$Turns", name := "write", desc := "(I)V" } : Jvm.MethodName)) ∈ lw_tbl := in_2 (List.mem_of_getElem? (i := 232) rfl)
theorem m_473 : (Jvm.Cond.privateMethod ({ cls := "AnswerPost$Turns", name := "write", desc := "(I)V" } : Jvm.MethodName)) ∈ lw_tbl := in_2 (List.mem_of_getElem? (i := 233) rfl)
theorem m_474 : (Jvm.Cond.instanceMethod ({ cls := "AnswerPost$Turns", name := "write", desc := "(I)V" } : Jvm.MethodName)) ∈ lw_tbl := in_2 (List.mem_of_getElem? (i := 234) rfl)
theorem m_475 : (Jvm.Cond.code ({ cls := "AnswerPost$Turns", name := "write", desc := "(I)V" } : Jvm.MethodName) prog_10_method_5_code (4 : Nat) (Option.none : Option Jvm.ClassFile.FieldType)) ∈ lw_tbl := in_2 (List.mem_of_getElem? (i := 235) rfl)
theorem m_476 : (Jvm.Cond.methodLink "AnswerPostLaw" (74 : Nat) ({ cls := "AnswerPost", name := "cost", desc := "(IIIII)I" } : Jvm.MethodName)) ∈ lw_tbl := in_2 (List.mem_of_getElem? (i := 236) rfl)
theorem m_477 : (Jvm.Cond.instanceMethod ({ cls := "AnswerPost", name := "cost", desc := "(IIIII)I" } : Jvm.MethodName)) ∈ lw_tbl := in_2 (List.mem_of_getElem? (i := 237) rfl)
theorem m_478 : (Jvm.Cond.selects "AnswerPost" ({ cls := "AnswerPost", name := "cost", desc := "(IIIII)I" } : Jvm.MethodName) ({ cls := "AnswerPost", name := "cost", desc := "(IIIII)I" } : Jvm.MethodName)) ∈ lw_tbl := in_2 (List.mem_of_getElem? (i := 238) rfl)
theorem m_479 : (Jvm.Cond.code ({ cls := "AnswerPost", name := "cost", desc := "(IIIII)I" } : Jvm.MethodName) prog_1_method_16_code (8 : Nat) (Option.some Jvm.ClassFile.FieldType.int)) ∈ lw_tbl := in_2 (List.mem_of_getElem? (i := 239) rfl)
theorem m_480 : (Jvm.Cond.methodLink "AnswerPostLaw" (78 : Nat) ({ cls := "AnswerPost", name := "split", desc := "(IIIIIII)I" } : Jvm.MethodName)) ∈ lw_tbl := in_3 (List.mem_of_getElem? (i := 0) rfl)
theorem m_481 : (Jvm.Cond.instanceMethod ({ cls := "AnswerPost", name := "split", desc := "(IIIIIII)I" } : Jvm.MethodName)) ∈ lw_tbl := in_3 (List.mem_of_getElem? (i := 1) rfl)
theorem m_482 : (Jvm.Cond.selects "AnswerPost" ({ cls := "AnswerPost", name := "split", desc := "(IIIIIII)I" } : Jvm.MethodName) ({ cls := "AnswerPost", name := "split", desc := "(IIIIIII)I" } : Jvm.MethodName)) ∈ lw_tbl := in_3 (List.mem_of_getElem? (i := 2) rfl)
theorem m_483 : (Jvm.Cond.code ({ cls := "AnswerPost", name := "split", desc := "(IIIIIII)I" } : Jvm.MethodName) prog_1_method_17_code (11 : Nat) (Option.some Jvm.ClassFile.FieldType.int)) ∈ lw_tbl := in_3 (List.mem_of_getElem? (i := 3) rfl)
theorem m_484 : (Jvm.Cond.methodLink "AnswerPost" (202 : Nat) ({ cls := "AnswerPost$Row", name := "allWithin", desc := "(IIII)Z" } : Jvm.MethodName)) ∈ lw_tbl := in_3 (List.mem_of_getElem? (i := 4) rfl)
theorem m_485 : (Jvm.Cond.instanceMethod ({ cls := "AnswerPost$Row", name := "allWithin", desc := "(IIII)Z" } : Jvm.MethodName)) ∈ lw_tbl := in_3 (List.mem_of_getElem? (i := 5) rfl)
theorem m_486 : (Jvm.Cond.selects "AnswerPost$Row" ({ cls := "AnswerPost$Row", name := "allWithin", desc := "(IIII)Z" } : Jvm.MethodName) ({ cls := "AnswerPost$Row", name := "allWithin", desc := "(IIII)Z" } : Jvm.MethodName)) ∈ lw_tbl := in_3 (List.mem_of_getElem? (i := 6) rfl)
theorem m_487 : (Jvm.Cond.code ({ cls := "AnswerPost$Row", name := "allWithin", desc := "(IIII)Z" } : Jvm.MethodName) prog_6_method_6_code (6 : Nat) (Option.some Jvm.ClassFile.FieldType.boolean)) ∈ lw_tbl := in_3 (List.mem_of_getElem? (i := 7) rfl)
theorem m_488 : (Jvm.Cond.methodLinkNest "AnswerPost$Row" (22 : Nat) ({ cls := "AnswerPost", name := "isWithin", desc := "(III)Z" } : Jvm.MethodName) "AnswerPost") ∈ lw_tbl := in_3 (List.mem_of_getElem? (i := 8) rfl)
theorem m_489 : (Jvm.Cond.methodLink "AnswerPost" (206 : Nat) ({ cls := "AnswerPost$Parts", name := "part", desc := "(LAnswerPost$Writer;I[IIII)V" } : Jvm.MethodName)) ∈ lw_tbl := in_3 (List.mem_of_getElem? (i := 9) rfl)
theorem m_490 : (Jvm.Cond.instanceMethod ({ cls := "AnswerPost$Parts", name := "part", desc := "(LAnswerPost$Writer;I[IIII)V" } : Jvm.MethodName)) ∈ lw_tbl := in_3 (List.mem_of_getElem? (i := 10) rfl)
theorem m_491 : (Jvm.Cond.selects "AnswerPost$Parts" ({ cls := "AnswerPost$Parts", name := "part", desc := "(LAnswerPost$Writer;I[IIII)V" } : Jvm.MethodName) ({ cls := "AnswerPost$Parts", name := "part", desc := "(LAnswerPost$Writer;I[IIII)V" } : Jvm.MethodName)) ∈ lw_tbl := in_3 (List.mem_of_getElem? (i := 11) rfl)
theorem m_492 : (Jvm.Cond.code ({ cls := "AnswerPost$Parts", name := "part", desc := "(LAnswerPost$Writer;I[IIII)V" } : Jvm.MethodName) prog_5_method_2_code (11 : Nat) (Option.none : Option Jvm.ClassFile.FieldType)) ∈ lw_tbl := in_3 (List.mem_of_getElem? (i := 12) rfl)
theorem m_493 : (Jvm.Cond.methodLink "AnswerPost$Parts" (26 : Nat) ({ cls := "AnswerPost$Writer", name := "shows", desc := "(I)I" } : Jvm.MethodName)) ∈ lw_tbl := in_3 (List.mem_of_getElem? (i := 13) rfl)
theorem m_494 : (Jvm.Cond.methodLinkNest "AnswerPost$Parts" (32 : Nat) ({ cls := "AnswerPost", name := "pays", desc := "(III)I" } : Jvm.MethodName) "AnswerPost") ∈ lw_tbl := in_3 (List.mem_of_getElem? (i := 14) rfl)
theorem m_495 : (Jvm.Cond.methodLink "AnswerPost$Parts" (36 : Nat) ({ cls := "AnswerPost$Parts", name := "choose", desc := "(III)V" } : Jvm.MethodName)) ∈ lw_tbl := in_3 (List.mem_of_getElem? (i := 15) rfl)
theorem m_496 : (Jvm.Cond.privateMethod ({ cls := "AnswerPost$Parts", name := "choose", desc := "(III)V" } : Jvm.MethodName)) ∈ lw_tbl := in_3 (List.mem_of_getElem? (i := 16) rfl)
theorem m_497 : (Jvm.Cond.instanceMethod ({ cls := "AnswerPost$Parts", name := "choose", desc := "(III)V" } : Jvm.MethodName)) ∈ lw_tbl := in_3 (List.mem_of_getElem? (i := 17) rfl)
theorem m_498 : (Jvm.Cond.code ({ cls := "AnswerPost$Parts", name := "choose", desc := "(III)V" } : Jvm.MethodName) prog_5_method_3_code (8 : Nat) (Option.none : Option Jvm.ClassFile.FieldType)) ∈ lw_tbl := in_3 (List.mem_of_getElem? (i := 18) rfl)
theorem m_499 : (Jvm.Cond.methodLink "AnswerPost$Parts" (44 : Nat) ({ cls := "AnswerPost$Parts", name := "costOf", desc := "(IIII)I" } : Jvm.MethodName)) ∈ lw_tbl := in_3 (List.mem_of_getElem? (i := 19) rfl)
theorem m_500 : (Jvm.Cond.privateMethod ({ cls := "AnswerPost$Parts", name := "costOf", desc := "(IIII)I" } : Jvm.MethodName)) ∈ lw_tbl := in_3 (List.mem_of_getElem? (i := 20) rfl)
theorem m_501 : (Jvm.Cond.instanceMethod ({ cls := "AnswerPost$Parts", name := "costOf", desc := "(IIII)I" } : Jvm.MethodName)) ∈ lw_tbl := in_3 (List.mem_of_getElem? (i := 21) rfl)
theorem m_502 : (Jvm.Cond.code ({ cls := "AnswerPost$Parts", name := "costOf", desc := "(IIII)I" } : Jvm.MethodName) prog_5_method_4_code (5 : Nat) (Option.some Jvm.ClassFile.FieldType.int)) ∈ lw_tbl := in_3 (List.mem_of_getElem? (i := 22) rfl)
theorem m_503 : (Jvm.Cond.methodLink "AnswerPostLaw" (83 : Nat) ({ cls := "AnswerPost", name := "least", desc := "(III)I" } : Jvm.MethodName)) ∈ lw_tbl := in_3 (List.mem_of_getElem? (i := 23) rfl)
theorem m_504 : (Jvm.Cond.instanceMethod ({ cls := "AnswerPost", name := "least", desc := "(III)I" } : Jvm.MethodName)) ∈ lw_tbl := in_3 (List.mem_of_getElem? (i := 24) rfl)
theorem m_505 : (Jvm.Cond.selects "AnswerPost" ({ cls := "AnswerPost", name := "least", desc := "(III)I" } : Jvm.MethodName) ({ cls := "AnswerPost", name := "least", desc := "(III)I" } : Jvm.MethodName)) ∈ lw_tbl := in_3 (List.mem_of_getElem? (i := 25) rfl)
theorem m_506 : (Jvm.Cond.code ({ cls := "AnswerPost", name := "least", desc := "(III)I" } : Jvm.MethodName) prog_1_method_18_code (8 : Nat) (Option.some Jvm.ClassFile.FieldType.int)) ∈ lw_tbl := in_3 (List.mem_of_getElem? (i := 26) rfl)
theorem m_507 : (Jvm.Cond.methodLink "AnswerPostLaw" (87 : Nat) ({ cls := "AnswerPost", name := "weights", desc := "(IIIII)I" } : Jvm.MethodName)) ∈ lw_tbl := in_3 (List.mem_of_getElem? (i := 27) rfl)
theorem m_508 : (Jvm.Cond.instanceMethod ({ cls := "AnswerPost", name := "weights", desc := "(IIIII)I" } : Jvm.MethodName)) ∈ lw_tbl := in_3 (List.mem_of_getElem? (i := 28) rfl)
theorem m_509 : (Jvm.Cond.selects "AnswerPost" ({ cls := "AnswerPost", name := "weights", desc := "(IIIII)I" } : Jvm.MethodName) ({ cls := "AnswerPost", name := "weights", desc := "(IIIII)I" } : Jvm.MethodName)) ∈ lw_tbl := in_3 (List.mem_of_getElem? (i := 29) rfl)
theorem m_510 : (Jvm.Cond.code ({ cls := "AnswerPost", name := "weights", desc := "(IIIII)I" } : Jvm.MethodName) prog_1_method_19_code (9 : Nat) (Option.some Jvm.ClassFile.FieldType.int)) ∈ lw_tbl := in_3 (List.mem_of_getElem? (i := 30) rfl)
theorem m_511 : (Jvm.Cond.methodLink "AnswerPost" (214 : Nat) ({ cls := "AnswerPost$Letters", name := "paidIf", desc := "(IIIII)I" } : Jvm.MethodName)) ∈ lw_tbl := in_3 (List.mem_of_getElem? (i := 31) rfl)
theorem m_512 : (Jvm.Cond.methodLink "AnswerPostLaw" (91 : Nat) ({ cls := "AnswerPost", name := "sheet", desc := "(III)I" } : Jvm.MethodName)) ∈ lw_tbl := in_3 (List.mem_of_getElem? (i := 32) rfl)
theorem m_513 : (Jvm.Cond.instanceMethod ({ cls := "AnswerPost", name := "sheet", desc := "(III)I" } : Jvm.MethodName)) ∈ lw_tbl := in_3 (List.mem_of_getElem? (i := 33) rfl)
theorem m_514 : (Jvm.Cond.selects "AnswerPost" ({ cls := "AnswerPost", name := "sheet", desc := "(III)I" } : Jvm.MethodName) ({ cls := "AnswerPost", name := "sheet", desc := "(III)I" } : Jvm.MethodName)) ∈ lw_tbl := in_3 (List.mem_of_getElem? (i := 34) rfl)
theorem m_515 : (Jvm.Cond.code ({ cls := "AnswerPost", name := "sheet", desc := "(III)I" } : Jvm.MethodName) prog_1_method_20_code (5 : Nat) (Option.some Jvm.ClassFile.FieldType.int)) ∈ lw_tbl := in_3 (List.mem_of_getElem? (i := 35) rfl)
theorem m_516 : (Jvm.Cond.methodLink "AnswerPost" (218 : Nat) ({ cls := "AnswerPost$Row", name := "begin", desc := "(II)V" } : Jvm.MethodName)) ∈ lw_tbl := in_3 (List.mem_of_getElem? (i := 36) rfl)
theorem m_517 : (Jvm.Cond.instanceMethod ({ cls := "AnswerPost$Row", name := "begin", desc := "(II)V" } : Jvm.MethodName)) ∈ lw_tbl := in_3 (List.mem_of_getElem? (i := 37) rfl)
theorem m_518 : (Jvm.Cond.selects "AnswerPost$Row" ({ cls := "AnswerPost$Row", name := "begin", desc := "(II)V" } : Jvm.MethodName) ({ cls := "AnswerPost$Row", name := "begin", desc := "(II)V" } : Jvm.MethodName)) ∈ lw_tbl := in_3 (List.mem_of_getElem? (i := 38) rfl)
theorem m_519 : (Jvm.Cond.code ({ cls := "AnswerPost$Row", name := "begin", desc := "(II)V" } : Jvm.MethodName) prog_6_method_3_code (4 : Nat) (Option.none : Option Jvm.ClassFile.FieldType)) ∈ lw_tbl := in_3 (List.mem_of_getElem? (i := 39) rfl)
theorem m_520 : (Jvm.Cond.methodLink "AnswerPostLaw" (95 : Nat) ({ cls := "AnswerPost", name := "lose", desc := "(I)I" } : Jvm.MethodName)) ∈ lw_tbl := in_3 (List.mem_of_getElem? (i := 40) rfl)
theorem m_521 : (Jvm.Cond.instanceMethod ({ cls := "AnswerPost", name := "lose", desc := "(I)I" } : Jvm.MethodName)) ∈ lw_tbl := in_3 (List.mem_of_getElem? (i := 41) rfl)
theorem m_522 : (Jvm.Cond.selects "AnswerPost" ({ cls := "AnswerPost", name := "lose", desc := "(I)I" } : Jvm.MethodName) ({ cls := "AnswerPost", name := "lose", desc := "(I)I" } : Jvm.MethodName)) ∈ lw_tbl := in_3 (List.mem_of_getElem? (i := 42) rfl)
theorem m_523 : (Jvm.Cond.code ({ cls := "AnswerPost", name := "lose", desc := "(I)I" } : Jvm.MethodName) prog_1_method_21_code (4 : Nat) (Option.some Jvm.ClassFile.FieldType.int)) ∈ lw_tbl := in_3 (List.mem_of_getElem? (i := 43) rfl)
theorem m_524 : (Jvm.Cond.methodLink "AnswerPost" (221 : Nat) ({ cls := "AnswerPost$Row", name := "isNothing", desc := "()Z" } : Jvm.MethodName)) ∈ lw_tbl := in_3 (List.mem_of_getElem? (i := 44) rfl)
theorem m_525 : (Jvm.Cond.methodLink "AnswerPostLaw" (99 : Nat) ({ cls := "AnswerPost", name := "put", desc := "(III)I" } : Jvm.MethodName)) ∈ lw_tbl := in_3 (List.mem_of_getElem? (i := 45) rfl)
theorem m_526 : (Jvm.Cond.instanceMethod ({ cls := "AnswerPost", name := "put", desc := "(III)I" } : Jvm.MethodName)) ∈ lw_tbl := in_3 (List.mem_of_getElem? (i := 46) rfl)
theorem m_527 : (Jvm.Cond.selects "AnswerPost" ({ cls := "AnswerPost", name := "put", desc := "(III)I" } : Jvm.MethodName) ({ cls := "AnswerPost", name := "put", desc := "(III)I" } : Jvm.MethodName)) ∈ lw_tbl := in_3 (List.mem_of_getElem? (i := 47) rfl)
theorem m_528 : (Jvm.Cond.code ({ cls := "AnswerPost", name := "put", desc := "(III)I" } : Jvm.MethodName) prog_1_method_22_code (5 : Nat) (Option.some Jvm.ClassFile.FieldType.int)) ∈ lw_tbl := in_3 (List.mem_of_getElem? (i := 48) rfl)
theorem m_529 : (Jvm.Cond.methodLink "AnswerPost" (227 : Nat) ({ cls := "AnswerPost$Row", name := "hasCells", desc := "(II)Z" } : Jvm.MethodName)) ∈ lw_tbl := in_3 (List.mem_of_getElem? (i := 49) rfl)
theorem m_530 : (Jvm.Cond.methodLink "AnswerPost" (231 : Nat) ({ cls := "AnswerPost$Row", name := "cut", desc := "(I)I" } : Jvm.MethodName)) ∈ lw_tbl := in_3 (List.mem_of_getElem? (i := 50) rfl)
theorem m_531 : (Jvm.Cond.instanceMethod ({ cls := "AnswerPost$Row", name := "cut", desc := "(I)I" } : Jvm.MethodName)) ∈ lw_tbl := in_3 (List.mem_of_getElem? (i := 51) rfl)
theorem m_532 : (Jvm.Cond.selects "AnswerPost$Row" ({ cls := "AnswerPost$Row", name := "cut", desc := "(I)I" } : Jvm.MethodName) ({ cls := "AnswerPost$Row", name := "cut", desc := "(I)I" } : Jvm.MethodName)) ∈ lw_tbl := in_3 (List.mem_of_getElem? (i := 52) rfl)
theorem m_533 : (Jvm.Cond.code ({ cls := "AnswerPost$Row", name := "cut", desc := "(I)I" } : Jvm.MethodName) prog_6_method_4_code (2 : Nat) (Option.some Jvm.ClassFile.FieldType.int)) ∈ lw_tbl := in_3 (List.mem_of_getElem? (i := 53) rfl)
theorem m_534 : (Jvm.Cond.methodLink "AnswerPostLaw" (103 : Nat) ({ cls := "AnswerPost", name := "cell", desc := "(III)J" } : Jvm.MethodName)) ∈ lw_tbl := in_3 (List.mem_of_getElem? (i := 54) rfl)
theorem m_535 : (Jvm.Cond.instanceMethod ({ cls := "AnswerPost", name := "cell", desc := "(III)J" } : Jvm.MethodName)) ∈ lw_tbl := in_3 (List.mem_of_getElem? (i := 55) rfl)
theorem m_536 : (Jvm.Cond.selects "AnswerPost" ({ cls := "AnswerPost", name := "cell", desc := "(III)J" } : Jvm.MethodName) ({ cls := "AnswerPost", name := "cell", desc := "(III)J" } : Jvm.MethodName)) ∈ lw_tbl := in_3 (List.mem_of_getElem? (i := 56) rfl)
theorem m_537 : (Jvm.Cond.code ({ cls := "AnswerPost", name := "cell", desc := "(III)J" } : Jvm.MethodName) prog_1_method_23_code (5 : Nat) (Option.some Jvm.ClassFile.FieldType.long)) ∈ lw_tbl := in_3 (List.mem_of_getElem? (i := 57) rfl)
theorem m_538 : (Jvm.Cond.constantLong "AnswerPost" (234 : Nat) (-9223372036854775808 : Int64)) ∈ lw_tbl := in_3 (List.mem_of_getElem? (i := 58) rfl)
theorem m_539 : (Jvm.Cond.methodLink "AnswerPostLaw" (108 : Nat) ({ cls := "AnswerPost", name := "copy", desc := "(IIIII)I" } : Jvm.MethodName)) ∈ lw_tbl := in_3 (List.mem_of_getElem? (i := 59) rfl)
theorem m_540 : (Jvm.Cond.instanceMethod ({ cls := "AnswerPost", name := "copy", desc := "(IIIII)I" } : Jvm.MethodName)) ∈ lw_tbl := in_3 (List.mem_of_getElem? (i := 60) rfl)
theorem m_541 : (Jvm.Cond.selects "AnswerPost" ({ cls := "AnswerPost", name := "copy", desc := "(IIIII)I" } : Jvm.MethodName) ({ cls := "AnswerPost", name := "copy", desc := "(IIIII)I" } : Jvm.MethodName)) ∈ lw_tbl := in_3 (List.mem_of_getElem? (i := 61) rfl)
theorem m_542 : (Jvm.Cond.code ({ cls := "AnswerPost", name := "copy", desc := "(IIIII)I" } : Jvm.MethodName) prog_1_method_24_code (8 : Nat) (Option.some Jvm.ClassFile.FieldType.int)) ∈ lw_tbl := in_3 (List.mem_of_getElem? (i := 62) rfl)
theorem m_543 : (Jvm.Cond.methodLink "AnswerPost" (236 : Nat) ({ cls := "java/lang/System", name := "arraycopy", desc := "(Ljava/lang/Object;ILjava/lang/Object;II)V" } : Jvm.MethodName)) ∈ lw_tbl := in_3 (List.mem_of_getElem? (i := 63) rfl)
theorem m_544 : (Jvm.Cond.static ({ cls := "java/lang/System", name := "arraycopy", desc := "(Ljava/lang/Object;ILjava/lang/Object;II)V" } : Jvm.MethodName)) ∈ lw_tbl := in_3 (List.mem_of_getElem? (i := 64) rfl)
theorem m_545 : (Jvm.Cond.native ({ cls := "java/lang/System", name := "arraycopy", desc := "(Ljava/lang/Object;ILjava/lang/Object;II)V" } : Jvm.MethodName)) ∈ lw_tbl := in_3 (List.mem_of_getElem? (i := 65) rfl)
theorem m_546 : (Jvm.Cond.methodLink "AnswerPostLaw" (112 : Nat) ({ cls := "AnswerPost", name := "tell", desc := "(I)I" } : Jvm.MethodName)) ∈ lw_tbl := in_3 (List.mem_of_getElem? (i := 66) rfl)
theorem m_547 : (Jvm.Cond.instanceMethod ({ cls := "AnswerPost", name := "tell", desc := "(I)I" } : Jvm.MethodName)) ∈ lw_tbl := in_3 (List.mem_of_getElem? (i := 67) rfl)
theorem m_548 : (Jvm.Cond.selects "AnswerPost" ({ cls := "AnswerPost", name := "tell", desc := "(I)I" } : Jvm.MethodName) ({ cls := "AnswerPost", name := "tell", desc := "(I)I" } : Jvm.MethodName)) ∈ lw_tbl := in_3 (List.mem_of_getElem? (i := 68) rfl)
theorem m_549 : (Jvm.Cond.code ({ cls := "AnswerPost", name := "tell", desc := "(I)I" } : Jvm.MethodName) prog_1_method_25_code (3 : Nat) (Option.some Jvm.ClassFile.FieldType.int)) ∈ lw_tbl := in_3 (List.mem_of_getElem? (i := 69) rfl)
theorem m_550 : (Jvm.Cond.methodLink "AnswerPost" (242 : Nat) ({ cls := "AnswerPost$Writer", name := "telling", desc := "(LAnswerPost$Trail;)I" } : Jvm.MethodName)) ∈ lw_tbl := in_3 (List.mem_of_getElem? (i := 70) rfl)
theorem m_551 : (Jvm.Cond.instanceMethod ({ cls := "AnswerPost$Writer", name := "telling", desc := "(LAnswerPost$Trail;)I" } : Jvm.MethodName)) ∈ lw_tbl := in_3 (List.mem_of_getElem? (i := 71) rfl)
theorem m_552 : (Jvm.Cond.selects "AnswerPost$Writer" ({ cls := "AnswerPost$Writer", name := "telling", desc := "(LAnswerPost$Trail;)I" } : Jvm.MethodName) ({ cls := "AnswerPost$Writer", name := "telling", desc := "(LAnswerPost$Trail;)I" } : Jvm.MethodName)) ∈ lw_tbl := in_3 (List.mem_of_getElem? (i := 72) rfl)
theorem m_553 : (Jvm.Cond.sameMethod "AnswerPost$Writer" "AnswerPost$Writer" "telling" "(LAnswerPost$Trail;)I") ∈ lw_tbl := in_3 (List.mem_of_getElem? (i := 73) rfl)
theorem m_554 : (Jvm.Cond.selects "AnswerPost$Lawyer" ({ cls := "AnswerPost$Writer", name := "telling", desc := "(LAnswerPost$Trail;)I" } : Jvm.MethodName) ({ cls := "AnswerPost$Lawyer", name := "telling", desc := "(LAnswerPost$Trail;)I" } : Jvm.MethodName)) ∈ lw_tbl := in_3 (List.mem_of_getElem? (i := 74) rfl)
theorem m_555 : (Jvm.Cond.instanceMethod ({ cls := "AnswerPost$Lawyer", name := "telling", desc := "(LAnswerPost$Trail;)I" } : Jvm.MethodName)) ∈ lw_tbl := in_3 (List.mem_of_getElem? (i := 75) rfl)
theorem m_556 : (Jvm.Cond.code ({ cls := "AnswerPost$Lawyer", name := "telling", desc := "(LAnswerPost$Trail;)I" } : Jvm.MethodName) prog_2_method_4_code (3 : Nat) (Option.some Jvm.ClassFile.FieldType.int)) ∈ lw_tbl := in_3 (List.mem_of_getElem? (i := 76) rfl)
theorem m_557 : (Jvm.Cond.methodLink "AnswerPost$Lawyer" (13 : Nat) ({ cls := "AnswerPost$Trail", name := "leave", desc := "(I)V" } : Jvm.MethodName)) ∈ lw_tbl := in_3 (List.mem_of_getElem? (i := 77) rfl)
theorem m_558 : (Jvm.Cond.instanceMethod ({ cls := "AnswerPost$Trail", name := "leave", desc := "(I)V" } : Jvm.MethodName)) ∈ lw_tbl := in_3 (List.mem_of_getElem? (i := 78) rfl)
theorem m_559 : (Jvm.Cond.selects "AnswerPost$Trail" ({ cls := "AnswerPost$Trail", name := "leave", desc := "(I)V" } : Jvm.MethodName) ({ cls := "AnswerPost$Trail", name := "leave", desc := "(I)V" } : Jvm.MethodName)) ∈ lw_tbl := in_3 (List.mem_of_getElem? (i := 79) rfl)
theorem m_560 : (Jvm.Cond.code ({ cls := "AnswerPost$Trail", name := "leave", desc := "(I)V" } : Jvm.MethodName) prog_9_method_2_code (2 : Nat) (Option.none : Option Jvm.ClassFile.FieldType)) ∈ lw_tbl := in_3 (List.mem_of_getElem? (i := 80) rfl)
theorem m_561 : (Jvm.Cond.methodLink "AnswerPost$Lawyer" (19 : Nat) ({ cls := "AnswerPost$Miser", name := "telling", desc := "(LAnswerPost$Trail;)I" } : Jvm.MethodName)) ∈ lw_tbl := in_3 (List.mem_of_getElem? (i := 81) rfl)
theorem m_562 : (Jvm.Cond.instanceMethod ({ cls := "AnswerPost$Miser", name := "telling", desc := "(LAnswerPost$Trail;)I" } : Jvm.MethodName)) ∈ lw_tbl := in_3 (List.mem_of_getElem? (i := 82) rfl)
theorem m_563 : (Jvm.Cond.code ({ cls := "AnswerPost$Miser", name := "telling", desc := "(LAnswerPost$Trail;)I" } : Jvm.MethodName) prog_4_method_4_code (2 : Nat) (Option.some Jvm.ClassFile.FieldType.int)) ∈ lw_tbl := in_3 (List.mem_of_getElem? (i := 83) rfl)
theorem m_564 : (Jvm.Cond.methodLink "AnswerPost$Miser" (9 : Nat) ({ cls := "AnswerPost$Trail", name := "leave", desc := "(I)V" } : Jvm.MethodName)) ∈ lw_tbl := in_3 (List.mem_of_getElem? (i := 84) rfl)
theorem m_565 : (Jvm.Cond.methodLink "AnswerPost$Miser" (15 : Nat) ({ cls := "AnswerPost$Writer", name := "telling", desc := "(LAnswerPost$Trail;)I" } : Jvm.MethodName)) ∈ lw_tbl := in_3 (List.mem_of_getElem? (i := 85) rfl)
theorem m_566 : (Jvm.Cond.methodLink "AnswerPost$Lawyer" (23 : Nat) ({ cls := "AnswerPost$Lawyer", name := "writersTelling", desc := "(LAnswerPost$Trail;)I" } : Jvm.MethodName)) ∈ lw_tbl := in_3 (List.mem_of_getElem? (i := 86) rfl)
theorem m_567 : (Jvm.Cond.sameMethod "AnswerPost$Lawyer" "AnswerPost$Writer" "writersTelling" "(LAnswerPost$Trail;)I") ∈ lw_tbl := in_3 (List.mem_of_getElem? (i := 87) rfl)
theorem m_568 : (Jvm.Cond.declares ({ cls := "AnswerPost$Writer", name := "writersTelling", desc := "(LAnswerPost$Trail;)I" } : Jvm.MethodName)) ∈ lw_tbl := in_3 (List.mem_of_getElem? (i := 88) rfl)
theorem m_569 : (Jvm.Cond.selects "AnswerPost$Lawyer" ({ cls := "AnswerPost$Lawyer", name := "writersTelling", desc := "(LAnswerPost$Trail;)I" } : Jvm.MethodName) ({ cls := "AnswerPost$Writer", name := "writersTelling", desc := "(LAnswerPost$Trail;)I" } : Jvm.MethodName)) ∈ lw_tbl := in_3 (List.mem_of_getElem? (i := 89) rfl)
theorem m_570 : (Jvm.Cond.instanceMethod ({ cls := "AnswerPost$Writer", name := "writersTelling", desc := "(LAnswerPost$Trail;)I" } : Jvm.MethodName)) ∈ lw_tbl := in_3 (List.mem_of_getElem? (i := 90) rfl)
theorem m_571 : (Jvm.Cond.code ({ cls := "AnswerPost$Writer", name := "writersTelling", desc := "(LAnswerPost$Trail;)I" } : Jvm.MethodName) prog_11_method_5_code (2 : Nat) (Option.some Jvm.ClassFile.FieldType.int)) ∈ lw_tbl := in_3 (List.mem_of_getElem? (i := 91) rfl)
theorem m_572 : (Jvm.Cond.methodLink "AnswerPost$Writer" (22 : Nat) ({ cls := "AnswerPost$Trail", name := "leave", desc := "(I)V" } : Jvm.MethodName)) ∈ lw_tbl := in_3 (List.mem_of_getElem? (i := 92) rfl)
theorem m_573 : (Jvm.Cond.selects "AnswerPost$Miser" ({ cls := "AnswerPost$Writer", name := "telling", desc := "(LAnswerPost$Trail;)I" } : Jvm.MethodName) ({ cls := "AnswerPost$Miser", name := "telling", desc := "(LAnswerPost$Trail;)I" } : Jvm.MethodName)) ∈ lw_tbl := in_3 (List.mem_of_getElem? (i := 93) rfl)
theorem m_574 : (Jvm.Cond.code ({ cls := "AnswerPost$Writer", name := "telling", desc := "(LAnswerPost$Trail;)I" } : Jvm.MethodName) prog_11_method_4_code (2 : Nat) (Option.some Jvm.ClassFile.FieldType.int)) ∈ lw_tbl := in_3 (List.mem_of_getElem? (i := 94) rfl)
theorem m_575 : (Jvm.Cond.methodLink "AnswerPost$Writer" (18 : Nat) ({ cls := "AnswerPost$Writer", name := "writersTelling", desc := "(LAnswerPost$Trail;)I" } : Jvm.MethodName)) ∈ lw_tbl := in_3 (List.mem_of_getElem? (i := 95) rfl)
theorem m_576 : (Jvm.Cond.methodLink "AnswerPostLaw" (116 : Nat) ({ cls := "AnswerPost", name := "greet", desc := "(I)I" } : Jvm.MethodName)) ∈ lw_tbl := in_3 (List.mem_of_getElem? (i := 96) rfl)
theorem m_577 : (Jvm.Cond.instanceMethod ({ cls := "AnswerPost", name := "greet", desc := "(I)I" } : Jvm.MethodName)) ∈ lw_tbl := in_3 (List.mem_of_getElem? (i := 97) rfl)
theorem m_578 : (Jvm.Cond.selects "AnswerPost" ({ cls := "AnswerPost", name := "greet", desc := "(I)I" } : Jvm.MethodName) ({ cls := "AnswerPost", name := "greet", desc := "(I)I" } : Jvm.MethodName)) ∈ lw_tbl := in_3 (List.mem_of_getElem? (i := 98) rfl)
theorem m_579 : (Jvm.Cond.code ({ cls := "AnswerPost", name := "greet", desc := "(I)I" } : Jvm.MethodName) prog_1_method_26_code (3 : Nat) (Option.some Jvm.ClassFile.FieldType.int)) ∈ lw_tbl := in_3 (List.mem_of_getElem? (i := 99) rfl)
theorem m_580 : (Jvm.Cond.methodLink "AnswerPost" (246 : Nat) ({ cls := "AnswerPost$Writer", name := "greeting", desc := "(LAnswerPost$Trail;)I" } : Jvm.MethodName)) ∈ lw_tbl := in_3 (List.mem_of_getElem? (i := 100) rfl)
theorem m_581 : (Jvm.Cond.instanceMethod ({ cls := "AnswerPost$Writer", name := "greeting", desc := "(LAnswerPost$Trail;)I" } : Jvm.MethodName)) ∈ lw_tbl := in_3 (List.mem_of_getElem? (i := 101) rfl)
theorem m_582 : (Jvm.Cond.selects "AnswerPost$Writer" ({ cls := "AnswerPost$Writer", name := "greeting", desc := "(LAnswerPost$Trail;)I" } : Jvm.MethodName) ({ cls := "AnswerPost$Writer", name := "greeting", desc := "(LAnswerPost$Trail;)I" } : Jvm.MethodName)) ∈ lw_tbl := in_3 (List.mem_of_getElem? (i := 102) rfl)
theorem m_583 : (Jvm.Cond.sameMethod "AnswerPost$Writer" "AnswerPost$Writer" "greeting" "(LAnswerPost$Trail;)I") ∈ lw_tbl := in_3 (List.mem_of_getElem? (i := 103) rfl)
theorem m_584 : (Jvm.Cond.selects "AnswerPost$Lawyer" ({ cls := "AnswerPost$Writer", name := "greeting", desc := "(LAnswerPost$Trail;)I" } : Jvm.MethodName) ({ cls := "AnswerPost$Lawyer", name := "greeting", desc := "(LAnswerPost$Trail;)I" } : Jvm.MethodName)) ∈ lw_tbl := in_3 (List.mem_of_getElem? (i := 104) rfl)
theorem m_585 : (Jvm.Cond.instanceMethod ({ cls := "AnswerPost$Lawyer", name := "greeting", desc := "(LAnswerPost$Trail;)I" } : Jvm.MethodName)) ∈ lw_tbl := in_3 (List.mem_of_getElem? (i := 105) rfl)
theorem m_586 : (Jvm.Cond.code ({ cls := "AnswerPost$Lawyer", name := "greeting", desc := "(LAnswerPost$Trail;)I" } : Jvm.MethodName) prog_2_method_5_code (2 : Nat) (Option.some Jvm.ClassFile.FieldType.int)) ∈ lw_tbl := in_3 (List.mem_of_getElem? (i := 106) rfl)
theorem m_587 : (Jvm.Cond.selects "AnswerPost$Miser" ({ cls := "AnswerPost$Writer", name := "greeting", desc := "(LAnswerPost$Trail;)I" } : Jvm.MethodName) ({ cls := "AnswerPost$Writer", name := "greeting", desc := "(LAnswerPost$Trail;)I" } : Jvm.MethodName)) ∈ lw_tbl := in_3 (List.mem_of_getElem? (i := 107) rfl)
theorem m_588 : (Jvm.Cond.code ({ cls := "AnswerPost$Writer", name := "greeting", desc := "(LAnswerPost$Trail;)I" } : Jvm.MethodName) prog_11_method_6_code (2 : Nat) (Option.some Jvm.ClassFile.FieldType.int)) ∈ lw_tbl := in_3 (List.mem_of_getElem? (i := 108) rfl)
theorem m_589 : (Jvm.Cond.methodLink "AnswerPostLaw" (120 : Nat) ({ cls := "AnswerPost", name := "as", desc := "(II)I" } : Jvm.MethodName)) ∈ lw_tbl := in_3 (List.mem_of_getElem? (i := 109) rfl)
theorem m_590 : (Jvm.Cond.instanceMethod ({ cls := "AnswerPost", name := "as", desc := "(II)I" } : Jvm.MethodName)) ∈ lw_tbl := in_3 (List.mem_of_getElem? (i := 110) rfl)
theorem m_591 : (Jvm.Cond.selects "AnswerPost" ({ cls := "AnswerPost", name := "as", desc := "(II)I" } : Jvm.MethodName) ({ cls := "AnswerPost", name := "as", desc := "(II)I" } : Jvm.MethodName)) ∈ lw_tbl := in_3 (List.mem_of_getElem? (i := 111) rfl)
theorem m_592 : (Jvm.Cond.code ({ cls := "AnswerPost", name := "as", desc := "(II)I" } : Jvm.MethodName) prog_1_method_27_code (4 : Nat) (Option.some Jvm.ClassFile.FieldType.int)) ∈ lw_tbl := in_3 (List.mem_of_getElem? (i := 112) rfl)
theorem m_593 : (Jvm.Cond.methodLink "AnswerPost" (249 : Nat) ({ cls := "AnswerPost", name := "isOfKind", desc := "(LAnswerPost$Writer;I)Z" } : Jvm.MethodName)) ∈ lw_tbl := in_3 (List.mem_of_getElem? (i := 113) rfl)
theorem m_594 : (Jvm.Cond.static ({ cls := "AnswerPost", name := "isOfKind", desc := "(LAnswerPost$Writer;I)Z" } : Jvm.MethodName)) ∈ lw_tbl := in_3 (List.mem_of_getElem? (i := 114) rfl)
theorem m_595 : (Jvm.Cond.code ({ cls := "AnswerPost", name := "isOfKind", desc := "(LAnswerPost$Writer;I)Z" } : Jvm.MethodName) prog_1_method_33_code (2 : Nat) (Option.some Jvm.ClassFile.FieldType.boolean)) ∈ lw_tbl := in_3 (List.mem_of_getElem? (i := 115) rfl)
theorem m_596 : (Jvm.Cond.methodLink "AnswerPostLaw" (124 : Nat) ({ cls := "AnswerPost", name := "trace", desc := "()I" } : Jvm.MethodName)) ∈ lw_tbl := in_3 (List.mem_of_getElem? (i := 116) rfl)
theorem m_597 : (Jvm.Cond.instanceMethod ({ cls := "AnswerPost", name := "trace", desc := "()I" } : Jvm.MethodName)) ∈ lw_tbl := in_3 (List.mem_of_getElem? (i := 117) rfl)
theorem m_598 : (Jvm.Cond.selects "AnswerPost" ({ cls := "AnswerPost", name := "trace", desc := "()I" } : Jvm.MethodName) ({ cls := "AnswerPost", name := "trace", desc := "()I" } : Jvm.MethodName)) ∈ lw_tbl := in_3 (List.mem_of_getElem? (i := 118) rfl)
theorem m_599 : (Jvm.Cond.code ({ cls := "AnswerPost", name := "trace", desc := "()I" } : Jvm.MethodName) prog_1_method_28_code (1 : Nat) (Option.some Jvm.ClassFile.FieldType.int)) ∈ lw_tbl := in_3 (List.mem_of_getElem? (i := 119) rfl)
theorem m_600 : (Jvm.Cond.methodLink "AnswerPostLaw" (129 : Nat) ({ cls := "AnswerPost", name := "fault", desc := "()I" } : Jvm.MethodName)) ∈ lw_tbl := in_3 (List.mem_of_getElem? (i := 120) rfl)
theorem m_601 : (Jvm.Cond.instanceMethod ({ cls := "AnswerPost", name := "fault", desc := "()I" } : Jvm.MethodName)) ∈ lw_tbl := in_3 (List.mem_of_getElem? (i := 121) rfl)
theorem m_602 : (Jvm.Cond.selects "AnswerPost" ({ cls := "AnswerPost", name := "fault", desc := "()I" } : Jvm.MethodName) ({ cls := "AnswerPost", name := "fault", desc := "()I" } : Jvm.MethodName)) ∈ lw_tbl := in_3 (List.mem_of_getElem? (i := 122) rfl)
theorem m_603 : (Jvm.Cond.code ({ cls := "AnswerPost", name := "fault", desc := "()I" } : Jvm.MethodName) prog_1_method_29_code (1 : Nat) (Option.some Jvm.ClassFile.FieldType.int)) ∈ lw_tbl := in_3 (List.mem_of_getElem? (i := 123) rfl)
theorem m_604 : (Jvm.Cond.methodLink "AnswerPostLaw" (133 : Nat) ({ cls := "AnswerPost", name := "many", desc := "(I)I" } : Jvm.MethodName)) ∈ lw_tbl := in_3 (List.mem_of_getElem? (i := 124) rfl)
theorem m_605 : (Jvm.Cond.instanceMethod ({ cls := "AnswerPost", name := "many", desc := "(I)I" } : Jvm.MethodName)) ∈ lw_tbl := in_3 (List.mem_of_getElem? (i := 125) rfl)
theorem m_606 : (Jvm.Cond.selects "AnswerPost" ({ cls := "AnswerPost", name := "many", desc := "(I)I" } : Jvm.MethodName) ({ cls := "AnswerPost", name := "many", desc := "(I)I" } : Jvm.MethodName)) ∈ lw_tbl := in_3 (List.mem_of_getElem? (i := 126) rfl)
theorem m_607 : (Jvm.Cond.code ({ cls := "AnswerPost", name := "many", desc := "(I)I" } : Jvm.MethodName) prog_1_method_30_code (2 : Nat) (Option.some Jvm.ClassFile.FieldType.int)) ∈ lw_tbl := in_3 (List.mem_of_getElem? (i := 127) rfl)
theorem m_608 : (Jvm.Cond.classLink "AnswerPostLaw" (10 : Nat) "AnswerPostModel") ∈ lw_tbl := in_3 (List.mem_of_getElem? (i := 128) rfl)
theorem m_609 : (Jvm.Cond.instantiable "AnswerPostModel" (29 : Nat)) ∈ lw_tbl := in_3 (List.mem_of_getElem? (i := 129) rfl)
theorem m_610 : (Jvm.Cond.methodLink "AnswerPostLaw" (12 : Nat) ({ cls := "AnswerPostModel", name := "<init>", desc := "()V" } : Jvm.MethodName)) ∈ lw_tbl := in_3 (List.mem_of_getElem? (i := 130) rfl)
theorem m_611 : (Jvm.Cond.instanceMethod ({ cls := "AnswerPostModel", name := "<init>", desc := "()V" } : Jvm.MethodName)) ∈ lw_tbl := in_3 (List.mem_of_getElem? (i := 131) rfl)
theorem m_612 : (Jvm.Cond.code ({ cls := "AnswerPostModel", name := "<init>", desc := "()V" } : Jvm.MethodName) prog_13_method_1_code (1 : Nat) (Option.none : Option Jvm.ClassFile.FieldType)) ∈ lw_tbl := in_3 (List.mem_of_getElem? (i := 132) rfl)
theorem m_613 : (Jvm.Cond.methodLink "AnswerPostModel" (1 : Nat) ({ cls := "java/lang/Object", name := "<init>", desc := "()V" } : Jvm.MethodName)) ∈ lw_tbl := in_3 (List.mem_of_getElem? (i := 133) rfl)
theorem m_614 : (Jvm.Cond.fieldLink "AnswerPostModel" (70 : Nat) "AnswerPostModel" "fault" "I") ∈ lw_tbl := in_3 (List.mem_of_getElem? (i := 134) rfl)
theorem m_615 : (Jvm.Cond.fieldLink "AnswerPostModel" (190 : Nat) "AnswerPostModel" "trace" "I") ∈ lw_tbl := in_3 (List.mem_of_getElem? (i := 135) rfl)
theorem m_616 : (Jvm.Cond.fieldLink "AnswerPostModel" (9 : Nat) "AnswerPostModel" "sorts" "[I") ∈ lw_tbl := in_3 (List.mem_of_getElem? (i := 136) rfl)
theorem m_617 : (Jvm.Cond.fieldLink "AnswerPostModel" (13 : Nat) "AnswerPostModel" "sheetLong" "[I") ∈ lw_tbl := in_3 (List.mem_of_getElem? (i := 137) rfl)
theorem m_618 : (Jvm.Cond.fieldLink "AnswerPostModel" (16 : Nat) "AnswerPostModel" "cells" "[I") ∈ lw_tbl := in_3 (List.mem_of_getElem? (i := 138) rfl)
theorem m_619 : (Jvm.Cond.fieldLink "AnswerPostModel" (80 : Nat) "AnswerPostModel" "persons" "I") ∈ lw_tbl := in_3 (List.mem_of_getElem? (i := 139) rfl)
theorem m_620 : (Jvm.Cond.fieldLink "AnswerPostModel" (107 : Nat) "AnswerPostModel" "lawNow" "I") ∈ lw_tbl := in_3 (List.mem_of_getElem? (i := 140) rfl)
theorem m_621 : (Jvm.Cond.fieldLink "AnswerPostModel" (19 : Nat) "AnswerPostModel" "kind" "[I") ∈ lw_tbl := in_3 (List.mem_of_getElem? (i := 141) rfl)
theorem m_622 : (Jvm.Cond.fieldLink "AnswerPostModel" (22 : Nat) "AnswerPostModel" "lift" "[I") ∈ lw_tbl := in_3 (List.mem_of_getElem? (i := 142) rfl)
theorem m_623 : (Jvm.Cond.fieldLink "AnswerPostModel" (98 : Nat) "AnswerPostModel" "at" "I") ∈ lw_tbl := in_3 (List.mem_of_getElem? (i := 143) rfl)
theorem m_624 : (Jvm.Cond.fieldLink "AnswerPostModel" (104 : Nat) "AnswerPostModel" "readMany" "I") ∈ lw_tbl := in_3 (List.mem_of_getElem? (i := 144) rfl)
theorem m_625 : (Jvm.Cond.fieldLink "AnswerPostModel" (25 : Nat) "AnswerPostModel" "readKind" "[I") ∈ lw_tbl := in_3 (List.mem_of_getElem? (i := 145) rfl)
theorem m_626 : (Jvm.Cond.fieldLink "AnswerPostModel" (28 : Nat) "AnswerPostModel" "readLift" "[I") ∈ lw_tbl := in_3 (List.mem_of_getElem? (i := 146) rfl)
theorem m_627 : (Jvm.Cond.fieldLink "AnswerPostModel" (110 : Nat) "AnswerPostModel" "letters" "I") ∈ lw_tbl := in_3 (List.mem_of_getElem? (i := 147) rfl)
theorem m_628 : (Jvm.Cond.fieldLink "AnswerPostModel" (31 : Nat) "AnswerPostModel" "from" "[I") ∈ lw_tbl := in_3 (List.mem_of_getElem? (i := 148) rfl)
theorem m_629 : (Jvm.Cond.fieldLink "AnswerPostModel" (34 : Nat) "AnswerPostModel" "to" "[I") ∈ lw_tbl := in_3 (List.mem_of_getElem? (i := 149) rfl)
theorem m_630 : (Jvm.Cond.fieldLink "AnswerPostModel" (37 : Nat) "AnswerPostModel" "heavy" "[I") ∈ lw_tbl := in_3 (List.mem_of_getElem? (i := 150) rfl)
theorem m_631 : (Jvm.Cond.fieldLink "AnswerPostModel" (40 : Nat) "AnswerPostModel" "dayOf" "[I") ∈ lw_tbl := in_3 (List.mem_of_getElem? (i := 151) rfl)
theorem m_632 : (Jvm.Cond.fieldLink "AnswerPostModel" (43 : Nat) "AnswerPostModel" "answeredBy" "[I") ∈ lw_tbl := in_3 (List.mem_of_getElem? (i := 152) rfl)
theorem m_633 : (Jvm.Cond.fieldLink "AnswerPostModel" (46 : Nat) "AnswerPostModel" "answers" "[I") ∈ lw_tbl := in_3 (List.mem_of_getElem? (i := 153) rfl)
theorem m_634 : (Jvm.Cond.fieldLink "AnswerPostModel" (49 : Nat) "AnswerPostModel" "makes" "[I") ∈ lw_tbl := in_3 (List.mem_of_getElem? (i := 154) rfl)
theorem m_635 : (Jvm.Cond.fieldLink "AnswerPostModel" (52 : Nat) "AnswerPostModel" "groups" "[I") ∈ lw_tbl := in_3 (List.mem_of_getElem? (i := 155) rfl)
theorem m_636 : (Jvm.Cond.fieldLink "AnswerPostModel" (150 : Nat) "AnswerPostModel" "bestWeight" "I") ∈ lw_tbl := in_3 (List.mem_of_getElem? (i := 156) rfl)
theorem m_637 : (Jvm.Cond.fieldLink "AnswerPostModel" (153 : Nat) "AnswerPostModel" "bestPays" "I") ∈ lw_tbl := in_3 (List.mem_of_getElem? (i := 157) rfl)
theorem m_638 : (Jvm.Cond.fieldLink "AnswerPostModel" (55 : Nat) "AnswerPostModel" "own" "[I") ∈ lw_tbl := in_3 (List.mem_of_getElem? (i := 158) rfl)
theorem m_639 : (Jvm.Cond.fieldLink "AnswerPostModel" (58 : Nat) "AnswerPostModel" "others" "[I") ∈ lw_tbl := in_3 (List.mem_of_getElem? (i := 159) rfl)
theorem m_640 : (Jvm.Cond.fieldLink "AnswerPostModel" (61 : Nat) "AnswerPostModel" "writes" "[I") ∈ lw_tbl := in_3 (List.mem_of_getElem? (i := 160) rfl)
theorem m_641 : (Jvm.Cond.fieldLink "AnswerPostModel" (64 : Nat) "AnswerPostModel" "leastOf" "[I") ∈ lw_tbl := in_3 (List.mem_of_getElem? (i := 161) rfl)
theorem m_642 : (Jvm.Cond.fieldLink "AnswerPostModel" (67 : Nat) "AnswerPostModel" "shown" "[I") ∈ lw_tbl := in_3 (List.mem_of_getElem? (i := 162) rfl)
theorem m_643 : (Jvm.Cond.lays "AnswerPostModel" "AnswerPostModel" "fault" "I") ∈ lw_tbl := in_3 (List.mem_of_getElem? (i := 163) rfl)
theorem m_644 : (Jvm.Cond.soleField "AnswerPostModel" "fault") ∈ lw_tbl := in_3 (List.mem_of_getElem? (i := 164) rfl)
theorem m_645 : (Jvm.Cond.lays "AnswerPostModel" "AnswerPostModel" "trace" "I") ∈ lw_tbl := in_3 (List.mem_of_getElem? (i := 165) rfl)
theorem m_646 : (Jvm.Cond.soleField "AnswerPostModel" "trace") ∈ lw_tbl := in_3 (List.mem_of_getElem? (i := 166) rfl)
theorem m_647 : (Jvm.Cond.laysFinal "AnswerPostModel" "AnswerPostModel" "sorts" "[I") ∈ lw_tbl := in_3 (List.mem_of_getElem? (i := 167) rfl)
theorem m_648 : (Jvm.Cond.soleField "AnswerPostModel" "sorts") ∈ lw_tbl := in_3 (List.mem_of_getElem? (i := 168) rfl)
theorem m_649 : (Jvm.Cond.laysFinal "AnswerPostModel" "AnswerPostModel" "sheetLong" "[I") ∈ lw_tbl := in_3 (List.mem_of_getElem? (i := 169) rfl)
theorem m_650 : (Jvm.Cond.soleField "AnswerPostModel" "sheetLong") ∈ lw_tbl := in_3 (List.mem_of_getElem? (i := 170) rfl)
theorem m_651 : (Jvm.Cond.laysFinal "AnswerPostModel" "AnswerPostModel" "cells" "[I") ∈ lw_tbl := in_3 (List.mem_of_getElem? (i := 171) rfl)
theorem m_652 : (Jvm.Cond.soleField "AnswerPostModel" "cells") ∈ lw_tbl := in_3 (List.mem_of_getElem? (i := 172) rfl)
theorem m_653 : (Jvm.Cond.lays "AnswerPostModel" "AnswerPostModel" "persons" "I") ∈ lw_tbl := in_3 (List.mem_of_getElem? (i := 173) rfl)
theorem m_654 : (Jvm.Cond.soleField "AnswerPostModel" "persons") ∈ lw_tbl := in_3 (List.mem_of_getElem? (i := 174) rfl)
theorem m_655 : (Jvm.Cond.lays "AnswerPostModel" "AnswerPostModel" "lawNow" "I") ∈ lw_tbl := in_3 (List.mem_of_getElem? (i := 175) rfl)
theorem m_656 : (Jvm.Cond.soleField "AnswerPostModel" "lawNow") ∈ lw_tbl := in_3 (List.mem_of_getElem? (i := 176) rfl)
theorem m_657 : (Jvm.Cond.laysFinal "AnswerPostModel" "AnswerPostModel" "kind" "[I") ∈ lw_tbl := in_3 (List.mem_of_getElem? (i := 177) rfl)
theorem m_658 : (Jvm.Cond.soleField "AnswerPostModel" "kind") ∈ lw_tbl := in_3 (List.mem_of_getElem? (i := 178) rfl)
theorem m_659 : (Jvm.Cond.laysFinal "AnswerPostModel" "AnswerPostModel" "lift" "[I") ∈ lw_tbl := in_3 (List.mem_of_getElem? (i := 179) rfl)
theorem m_660 : (Jvm.Cond.soleField "AnswerPostModel" "lift") ∈ lw_tbl := in_3 (List.mem_of_getElem? (i := 180) rfl)
theorem m_661 : (Jvm.Cond.lays "AnswerPostModel" "AnswerPostModel" "at" "I") ∈ lw_tbl := in_3 (List.mem_of_getElem? (i := 181) rfl)
theorem m_662 : (Jvm.Cond.soleField "AnswerPostModel" "at") ∈ lw_tbl := in_3 (List.mem_of_getElem? (i := 182) rfl)
theorem m_663 : (Jvm.Cond.lays "AnswerPostModel" "AnswerPostModel" "readMany" "I") ∈ lw_tbl := in_3 (List.mem_of_getElem? (i := 183) rfl)
theorem m_664 : (Jvm.Cond.soleField "AnswerPostModel" "readMany") ∈ lw_tbl := in_3 (List.mem_of_getElem? (i := 184) rfl)
theorem m_665 : (Jvm.Cond.laysFinal "AnswerPostModel" "AnswerPostModel" "readKind" "[I") ∈ lw_tbl := in_3 (List.mem_of_getElem? (i := 185) rfl)
theorem m_666 : (Jvm.Cond.soleField "AnswerPostModel" "readKind") ∈ lw_tbl := in_3 (List.mem_of_getElem? (i := 186) rfl)
theorem m_667 : (Jvm.Cond.laysFinal "AnswerPostModel" "AnswerPostModel" "readLift" "[I") ∈ lw_tbl := in_3 (List.mem_of_getElem? (i := 187) rfl)
theorem m_668 : (Jvm.Cond.soleField "AnswerPostModel" "readLift") ∈ lw_tbl := in_3 (List.mem_of_getElem? (i := 188) rfl)
theorem m_669 : (Jvm.Cond.lays "AnswerPostModel" "AnswerPostModel" "letters" "I") ∈ lw_tbl := in_3 (List.mem_of_getElem? (i := 189) rfl)
theorem m_670 : (Jvm.Cond.soleField "AnswerPostModel" "letters") ∈ lw_tbl := in_3 (List.mem_of_getElem? (i := 190) rfl)
theorem m_671 : (Jvm.Cond.laysFinal "AnswerPostModel" "AnswerPostModel" "from" "[I") ∈ lw_tbl := in_3 (List.mem_of_getElem? (i := 191) rfl)
theorem m_672 : (Jvm.Cond.soleField "AnswerPostModel" "from") ∈ lw_tbl := in_3 (List.mem_of_getElem? (i := 192) rfl)
theorem m_673 : (Jvm.Cond.laysFinal "AnswerPostModel" "AnswerPostModel" "to" "[I") ∈ lw_tbl := in_3 (List.mem_of_getElem? (i := 193) rfl)
theorem m_674 : (Jvm.Cond.soleField "AnswerPostModel" "to") ∈ lw_tbl := in_3 (List.mem_of_getElem? (i := 194) rfl)
theorem m_675 : (Jvm.Cond.laysFinal "AnswerPostModel" "AnswerPostModel" "heavy" "[I") ∈ lw_tbl := in_3 (List.mem_of_getElem? (i := 195) rfl)
theorem m_676 : (Jvm.Cond.soleField "AnswerPostModel" "heavy") ∈ lw_tbl := in_3 (List.mem_of_getElem? (i := 196) rfl)
theorem m_677 : (Jvm.Cond.laysFinal "AnswerPostModel" "AnswerPostModel" "dayOf" "[I") ∈ lw_tbl := in_3 (List.mem_of_getElem? (i := 197) rfl)
theorem m_678 : (Jvm.Cond.soleField "AnswerPostModel" "dayOf") ∈ lw_tbl := in_3 (List.mem_of_getElem? (i := 198) rfl)
theorem m_679 : (Jvm.Cond.laysFinal "AnswerPostModel" "AnswerPostModel" "answeredBy" "[I") ∈ lw_tbl := in_3 (List.mem_of_getElem? (i := 199) rfl)
theorem m_680 : (Jvm.Cond.soleField "AnswerPostModel" "answeredBy") ∈ lw_tbl := in_3 (List.mem_of_getElem? (i := 200) rfl)
theorem m_681 : (Jvm.Cond.laysFinal "AnswerPostModel" "AnswerPostModel" "answers" "[I") ∈ lw_tbl := in_3 (List.mem_of_getElem? (i := 201) rfl)
theorem m_682 : (Jvm.Cond.soleField "AnswerPostModel" "answers") ∈ lw_tbl := in_3 (List.mem_of_getElem? (i := 202) rfl)
theorem m_683 : (Jvm.Cond.laysFinal "AnswerPostModel" "AnswerPostModel" "makes" "[I") ∈ lw_tbl := in_3 (List.mem_of_getElem? (i := 203) rfl)
theorem m_684 : (Jvm.Cond.soleField "AnswerPostModel" "makes") ∈ lw_tbl := in_3 (List.mem_of_getElem? (i := 204) rfl)
theorem m_685 : (Jvm.Cond.laysFinal "AnswerPostModel" "AnswerPostModel" "groups" "[I") ∈ lw_tbl := in_3 (List.mem_of_getElem? (i := 205) rfl)
theorem m_686 : (Jvm.Cond.soleField "AnswerPostModel" "groups") ∈ lw_tbl := in_3 (List.mem_of_getElem? (i := 206) rfl)
theorem m_687 : (Jvm.Cond.lays "AnswerPostModel" "AnswerPostModel" "bestWeight" "I") ∈ lw_tbl := in_3 (List.mem_of_getElem? (i := 207) rfl)
theorem m_688 : (Jvm.Cond.soleField "AnswerPostModel" "bestWeight") ∈ lw_tbl := in_3 (List.mem_of_getElem? (i := 208) rfl)
theorem m_689 : (Jvm.Cond.lays "AnswerPostModel" "AnswerPostModel" "bestPays" "I") ∈ lw_tbl := in_3 (List.mem_of_getElem? (i := 209) rfl)
theorem m_690 : (Jvm.Cond.soleField "AnswerPostModel" "bestPays") ∈ lw_tbl := in_3 (List.mem_of_getElem? (i := 210) rfl)
theorem m_691 : (Jvm.Cond.laysFinal "AnswerPostModel" "AnswerPostModel" "own" "[I") ∈ lw_tbl := in_3 (List.mem_of_getElem? (i := 211) rfl)
theorem m_692 : (Jvm.Cond.soleField "AnswerPostModel" "own") ∈ lw_tbl := in_3 (List.mem_of_getElem? (i := 212) rfl)
theorem m_693 : (Jvm.Cond.laysFinal "AnswerPostModel" "AnswerPostModel" "others" "[I") ∈ lw_tbl := in_3 (List.mem_of_getElem? (i := 213) rfl)
theorem m_694 : (Jvm.Cond.soleField "AnswerPostModel" "others") ∈ lw_tbl := in_3 (List.mem_of_getElem? (i := 214) rfl)
theorem m_695 : (Jvm.Cond.laysFinal "AnswerPostModel" "AnswerPostModel" "writes" "[I") ∈ lw_tbl := in_3 (List.mem_of_getElem? (i := 215) rfl)
theorem m_696 : (Jvm.Cond.soleField "AnswerPostModel" "writes") ∈ lw_tbl := in_3 (List.mem_of_getElem? (i := 216) rfl)
theorem m_697 : (Jvm.Cond.laysFinal "AnswerPostModel" "AnswerPostModel" "leastOf" "[I") ∈ lw_tbl := in_3 (List.mem_of_getElem? (i := 217) rfl)
theorem m_698 : (Jvm.Cond.soleField "AnswerPostModel" "leastOf") ∈ lw_tbl := in_3 (List.mem_of_getElem? (i := 218) rfl)
theorem m_699 : (Jvm.Cond.laysFinal "AnswerPostModel" "AnswerPostModel" "shown" "[I") ∈ lw_tbl := in_3 (List.mem_of_getElem? (i := 219) rfl)
theorem m_700 : (Jvm.Cond.soleField "AnswerPostModel" "shown") ∈ lw_tbl := in_3 (List.mem_of_getElem? (i := 220) rfl)
theorem m_701 : (Jvm.Cond.superclass "AnswerPostModel" "java/lang/Object") ∈ lw_tbl := in_3 (List.mem_of_getElem? (i := 221) rfl)
theorem m_702 : (Jvm.Cond.methodLink "AnswerPostLaw" (17 : Nat) ({ cls := "AnswerPostModel", name := "post", desc := "(IIII)I" } : Jvm.MethodName)) ∈ lw_tbl := in_3 (List.mem_of_getElem? (i := 222) rfl)
theorem m_703 : (Jvm.Cond.instanceMethod ({ cls := "AnswerPostModel", name := "post", desc := "(IIII)I" } : Jvm.MethodName)) ∈ lw_tbl := in_3 (List.mem_of_getElem? (i := 223) rfl)
theorem m_704 : (Jvm.Cond.selects "AnswerPostModel" ({ cls := "AnswerPostModel", name := "post", desc := "(IIII)I" } : Jvm.MethodName) ({ cls := "AnswerPostModel", name := "post", desc := "(IIII)I" } : Jvm.MethodName)) ∈ lw_tbl := in_3 (List.mem_of_getElem? (i := 224) rfl)
theorem m_705 : (Jvm.Cond.code ({ cls := "AnswerPostModel", name := "post", desc := "(IIII)I" } : Jvm.MethodName) prog_13_method_11_code (8 : Nat) (Option.some Jvm.ClassFile.FieldType.int)) ∈ lw_tbl := in_3 (List.mem_of_getElem? (i := 225) rfl)
theorem m_706 : (Jvm.Cond.methodLink "AnswerPostModel" (83 : Nat) ({ cls := "AnswerPostModel", name := "isSheet", desc := "(I)Z" } : Jvm.MethodName)) ∈ lw_tbl := in_3 (List.mem_of_getElem? (i := 226) rfl)
theorem m_707 : (Jvm.Cond.static ({ cls := "AnswerPostModel", name := "isSheet", desc := "(I)Z" } : Jvm.MethodName)) ∈ lw_tbl := in_3 (List.mem_of_getElem? (i := 227) rfl)
theorem m_708 : (Jvm.Cond.code ({ cls := "AnswerPostModel", name := "isSheet", desc := "(I)Z" } : Jvm.MethodName) prog_13_method_6_code (1 : Nat) (Option.some Jvm.ClassFile.FieldType.boolean)) ∈ lw_tbl := in_3 (List.mem_of_getElem? (i := 228) rfl)
theorem m_709 : (Jvm.Cond.methodLink "AnswerPostModel" (76 : Nat) ({ cls := "AnswerPostModel", name := "within", desc := "(III)Z" } : Jvm.MethodName)) ∈ lw_tbl := in_3 (List.mem_of_getElem? (i := 229) rfl)
theorem m_710 : (Jvm.Cond.static ({ cls := "AnswerPostModel", name := "within", desc := "(III)Z" } : Jvm.MethodName)) ∈ lw_tbl := in_3 (List.mem_of_getElem? (i := 230) rfl)
theorem m_711 : (Jvm.Cond.code ({ cls := "AnswerPostModel", name := "within", desc := "(III)Z" } : Jvm.MethodName) prog_13_method_5_code (3 : Nat) (Option.some Jvm.ClassFile.FieldType.boolean)) ∈ lw_tbl := in_3 (List.mem_of_getElem? (i := 231) rfl)
theorem m_712 : (Jvm.Cond.methodLink "AnswerPostModel" (87 : Nat) ({ cls := "AnswerPostModel", name := "isSort", desc := "(I)Z" } : Jvm.MethodName)) ∈ lw_tbl := in_3 (List.mem_of_getElem? (i := 232) rfl)
theorem m_713 : (Jvm.Cond.static ({ cls := "AnswerPostModel", name := "isSort", desc := "(I)Z" } : Jvm.MethodName)) ∈ lw_tbl := in_3 (List.mem_of_getElem? (i := 233) rfl)
theorem m_714 : (Jvm.Cond.code ({ cls := "AnswerPostModel", name := "isSort", desc := "(I)Z" } : Jvm.MethodName) prog_13_method_7_code (1 : Nat) (Option.some Jvm.ClassFile.FieldType.boolean)) ∈ lw_tbl := in_3 (List.mem_of_getElem? (i := 234) rfl)
theorem m_715 : (Jvm.Cond.methodLink "AnswerPostModel" (90 : Nat) ({ cls := "AnswerPostModel", name := "against", desc := "(IIII)I" } : Jvm.MethodName)) ∈ lw_tbl := in_3 (List.mem_of_getElem? (i := 235) rfl)
theorem m_716 : (Jvm.Cond.privateMethod ({ cls := "AnswerPostModel", name := "against", desc := "(IIII)I" } : Jvm.MethodName)) ∈ lw_tbl := in_3 (List.mem_of_getElem? (i := 236) rfl)
theorem m_717 : (Jvm.Cond.instanceMethod ({ cls := "AnswerPostModel", name := "against", desc := "(IIII)I" } : Jvm.MethodName)) ∈ lw_tbl := in_3 (List.mem_of_getElem? (i := 237) rfl)
theorem m_718 : (Jvm.Cond.code ({ cls := "AnswerPostModel", name := "against", desc := "(IIII)I" } : Jvm.MethodName) prog_13_method_8_code (5 : Nat) (Option.some Jvm.ClassFile.FieldType.int)) ∈ lw_tbl := in_3 (List.mem_of_getElem? (i := 238) rfl)
theorem m_719 : (Jvm.Cond.methodLink "AnswerPostModel" (94 : Nat) ({ cls := "AnswerPostModel", name := "fails", desc := "(I)I" } : Jvm.MethodName)) ∈ lw_tbl := in_3 (List.mem_of_getElem? (i := 239) rfl)
theorem m_720 : (Jvm.Cond.privateMethod ({ cls := "AnswerPostModel", name := "fails", desc := "(I)I" } : Jvm.MethodName)) ∈ lw_tbl := in_4 (List.mem_of_getElem? (i := 0) rfl)
theorem m_721 : (Jvm.Cond.instanceMethod ({ cls := "AnswerPostModel", name := "fails", desc := "(I)I" } : Jvm.MethodName)) ∈ lw_tbl := in_4 (List.mem_of_getElem? (i := 1) rfl)
theorem m_722 : (Jvm.Cond.code ({ cls := "AnswerPostModel", name := "fails", desc := "(I)I" } : Jvm.MethodName) prog_13_method_3_code (2 : Nat) (Option.some Jvm.ClassFile.FieldType.int)) ∈ lw_tbl := in_4 (List.mem_of_getElem? (i := 2) rfl)
theorem m_723 : (Jvm.Cond.methodLink "AnswerPostModel" (101 : Nat) ({ cls := "AnswerPostModel", name := "readPost", desc := "(I)Z" } : Jvm.MethodName)) ∈ lw_tbl := in_4 (List.mem_of_getElem? (i := 3) rfl)
theorem m_724 : (Jvm.Cond.privateMethod ({ cls := "AnswerPostModel", name := "readPost", desc := "(I)Z" } : Jvm.MethodName)) ∈ lw_tbl := in_4 (List.mem_of_getElem? (i := 4) rfl)
theorem m_725 : (Jvm.Cond.instanceMethod ({ cls := "AnswerPostModel", name := "readPost", desc := "(I)Z" } : Jvm.MethodName)) ∈ lw_tbl := in_4 (List.mem_of_getElem? (i := 5) rfl)
theorem m_726 : (Jvm.Cond.code ({ cls := "AnswerPostModel", name := "readPost", desc := "(I)Z" } : Jvm.MethodName) prog_13_method_12_code (2 : Nat) (Option.some Jvm.ClassFile.FieldType.boolean)) ∈ lw_tbl := in_4 (List.mem_of_getElem? (i := 6) rfl)
theorem m_727 : (Jvm.Cond.methodLink "AnswerPostModel" (113 : Nat) ({ cls := "AnswerPostModel", name := "readPerson", desc := "(I)Z" } : Jvm.MethodName)) ∈ lw_tbl := in_4 (List.mem_of_getElem? (i := 7) rfl)
theorem m_728 : (Jvm.Cond.privateMethod ({ cls := "AnswerPostModel", name := "readPerson", desc := "(I)Z" } : Jvm.MethodName)) ∈ lw_tbl := in_4 (List.mem_of_getElem? (i := 8) rfl)
theorem m_729 : (Jvm.Cond.instanceMethod ({ cls := "AnswerPostModel", name := "readPerson", desc := "(I)Z" } : Jvm.MethodName)) ∈ lw_tbl := in_4 (List.mem_of_getElem? (i := 9) rfl)
theorem m_730 : (Jvm.Cond.code ({ cls := "AnswerPostModel", name := "readPerson", desc := "(I)Z" } : Jvm.MethodName) prog_13_method_13_code (4 : Nat) (Option.some Jvm.ClassFile.FieldType.boolean)) ∈ lw_tbl := in_4 (List.mem_of_getElem? (i := 10) rfl)
theorem m_731 : (Jvm.Cond.methodLink "AnswerPostLaw" (22 : Nat) ({ cls := "AnswerPostModel", name := "ofPerson", desc := "(II)I" } : Jvm.MethodName)) ∈ lw_tbl := in_4 (List.mem_of_getElem? (i := 11) rfl)
theorem m_732 : (Jvm.Cond.instanceMethod ({ cls := "AnswerPostModel", name := "ofPerson", desc := "(II)I" } : Jvm.MethodName)) ∈ lw_tbl := in_4 (List.mem_of_getElem? (i := 12) rfl)
theorem m_733 : (Jvm.Cond.selects "AnswerPostModel" ({ cls := "AnswerPostModel", name := "ofPerson", desc := "(II)I" } : Jvm.MethodName) ({ cls := "AnswerPostModel", name := "ofPerson", desc := "(II)I" } : Jvm.MethodName)) ∈ lw_tbl := in_4 (List.mem_of_getElem? (i := 13) rfl)
theorem m_734 : (Jvm.Cond.code ({ cls := "AnswerPostModel", name := "ofPerson", desc := "(II)I" } : Jvm.MethodName) prog_13_method_14_code (3 : Nat) (Option.some Jvm.ClassFile.FieldType.int)) ∈ lw_tbl := in_4 (List.mem_of_getElem? (i := 14) rfl)
theorem m_735 : (Jvm.Cond.methodLink "AnswerPostModel" (116 : Nat) ({ cls := "AnswerPostModel", name := "isPerson", desc := "(I)Z" } : Jvm.MethodName)) ∈ lw_tbl := in_4 (List.mem_of_getElem? (i := 15) rfl)
theorem m_736 : (Jvm.Cond.privateMethod ({ cls := "AnswerPostModel", name := "isPerson", desc := "(I)Z" } : Jvm.MethodName)) ∈ lw_tbl := in_4 (List.mem_of_getElem? (i := 16) rfl)
theorem m_737 : (Jvm.Cond.instanceMethod ({ cls := "AnswerPostModel", name := "isPerson", desc := "(I)Z" } : Jvm.MethodName)) ∈ lw_tbl := in_4 (List.mem_of_getElem? (i := 17) rfl)
theorem m_738 : (Jvm.Cond.code ({ cls := "AnswerPostModel", name := "isPerson", desc := "(I)Z" } : Jvm.MethodName) prog_13_method_9_code (2 : Nat) (Option.some Jvm.ClassFile.FieldType.boolean)) ∈ lw_tbl := in_4 (List.mem_of_getElem? (i := 18) rfl)
theorem m_739 : (Jvm.Cond.methodLink "AnswerPostLaw" (26 : Nat) ({ cls := "AnswerPostModel", name := "scale", desc := "(II)I" } : Jvm.MethodName)) ∈ lw_tbl := in_4 (List.mem_of_getElem? (i := 19) rfl)
theorem m_740 : (Jvm.Cond.instanceMethod ({ cls := "AnswerPostModel", name := "scale", desc := "(II)I" } : Jvm.MethodName)) ∈ lw_tbl := in_4 (List.mem_of_getElem? (i := 20) rfl)
theorem m_741 : (Jvm.Cond.selects "AnswerPostModel" ({ cls := "AnswerPostModel", name := "scale", desc := "(II)I" } : Jvm.MethodName) ({ cls := "AnswerPostModel", name := "scale", desc := "(II)I" } : Jvm.MethodName)) ∈ lw_tbl := in_4 (List.mem_of_getElem? (i := 21) rfl)
theorem m_742 : (Jvm.Cond.code ({ cls := "AnswerPostModel", name := "scale", desc := "(II)I" } : Jvm.MethodName) prog_13_method_16_code (3 : Nat) (Option.some Jvm.ClassFile.FieldType.int)) ∈ lw_tbl := in_4 (List.mem_of_getElem? (i := 22) rfl)
theorem m_743 : (Jvm.Cond.methodLink "AnswerPostModel" (119 : Nat) ({ cls := "AnswerPostModel", name := "shows", desc := "(II)I" } : Jvm.MethodName)) ∈ lw_tbl := in_4 (List.mem_of_getElem? (i := 23) rfl)
theorem m_744 : (Jvm.Cond.privateMethod ({ cls := "AnswerPostModel", name := "shows", desc := "(II)I" } : Jvm.MethodName)) ∈ lw_tbl := in_4 (List.mem_of_getElem? (i := 24) rfl)
theorem m_745 : (Jvm.Cond.instanceMethod ({ cls := "AnswerPostModel", name := "shows", desc := "(II)I" } : Jvm.MethodName)) ∈ lw_tbl := in_4 (List.mem_of_getElem? (i := 25) rfl)
theorem m_746 : (Jvm.Cond.code ({ cls := "AnswerPostModel", name := "shows", desc := "(II)I" } : Jvm.MethodName) prog_13_method_15_code (4 : Nat) (Option.some Jvm.ClassFile.FieldType.int)) ∈ lw_tbl := in_4 (List.mem_of_getElem? (i := 26) rfl)
theorem m_747 : (Jvm.Cond.methodLink "AnswerPostLaw" (31 : Nat) ({ cls := "AnswerPostModel", name := "law", desc := "(I)I" } : Jvm.MethodName)) ∈ lw_tbl := in_4 (List.mem_of_getElem? (i := 27) rfl)
theorem m_748 : (Jvm.Cond.instanceMethod ({ cls := "AnswerPostModel", name := "law", desc := "(I)I" } : Jvm.MethodName)) ∈ lw_tbl := in_4 (List.mem_of_getElem? (i := 28) rfl)
theorem m_749 : (Jvm.Cond.selects "AnswerPostModel" ({ cls := "AnswerPostModel", name := "law", desc := "(I)I" } : Jvm.MethodName) ({ cls := "AnswerPostModel", name := "law", desc := "(I)I" } : Jvm.MethodName)) ∈ lw_tbl := in_4 (List.mem_of_getElem? (i := 29) rfl)
theorem m_750 : (Jvm.Cond.code ({ cls := "AnswerPostModel", name := "law", desc := "(I)I" } : Jvm.MethodName) prog_13_method_17_code (3 : Nat) (Option.some Jvm.ClassFile.FieldType.int)) ∈ lw_tbl := in_4 (List.mem_of_getElem? (i := 30) rfl)
theorem m_751 : (Jvm.Cond.methodLink "AnswerPostLaw" (35 : Nat) ({ cls := "AnswerPostModel", name := "send", desc := "(IIII)I" } : Jvm.MethodName)) ∈ lw_tbl := in_4 (List.mem_of_getElem? (i := 31) rfl)
theorem m_752 : (Jvm.Cond.instanceMethod ({ cls := "AnswerPostModel", name := "send", desc := "(IIII)I" } : Jvm.MethodName)) ∈ lw_tbl := in_4 (List.mem_of_getElem? (i := 32) rfl)
theorem m_753 : (Jvm.Cond.selects "AnswerPostModel" ({ cls := "AnswerPostModel", name := "send", desc := "(IIII)I" } : Jvm.MethodName) ({ cls := "AnswerPostModel", name := "send", desc := "(IIII)I" } : Jvm.MethodName)) ∈ lw_tbl := in_4 (List.mem_of_getElem? (i := 33) rfl)
theorem m_754 : (Jvm.Cond.code ({ cls := "AnswerPostModel", name := "send", desc := "(IIII)I" } : Jvm.MethodName) prog_13_method_21_code (5 : Nat) (Option.some Jvm.ClassFile.FieldType.int)) ∈ lw_tbl := in_4 (List.mem_of_getElem? (i := 34) rfl)
theorem m_755 : (Jvm.Cond.methodLink "AnswerPostModel" (123 : Nat) ({ cls := "AnswerPostModel", name := "isDay", desc := "(I)Z" } : Jvm.MethodName)) ∈ lw_tbl := in_4 (List.mem_of_getElem? (i := 35) rfl)
theorem m_756 : (Jvm.Cond.static ({ cls := "AnswerPostModel", name := "isDay", desc := "(I)Z" } : Jvm.MethodName)) ∈ lw_tbl := in_4 (List.mem_of_getElem? (i := 36) rfl)
theorem m_757 : (Jvm.Cond.code ({ cls := "AnswerPostModel", name := "isDay", desc := "(I)Z" } : Jvm.MethodName) prog_13_method_10_code (1 : Nat) (Option.some Jvm.ClassFile.FieldType.boolean)) ∈ lw_tbl := in_4 (List.mem_of_getElem? (i := 37) rfl)
theorem m_758 : (Jvm.Cond.methodLink "AnswerPostModel" (126 : Nat) ({ cls := "AnswerPostModel", name := "write", desc := "(IIIII)I" } : Jvm.MethodName)) ∈ lw_tbl := in_4 (List.mem_of_getElem? (i := 38) rfl)
theorem m_759 : (Jvm.Cond.privateMethod ({ cls := "AnswerPostModel", name := "write", desc := "(IIIII)I" } : Jvm.MethodName)) ∈ lw_tbl := in_4 (List.mem_of_getElem? (i := 39) rfl)
theorem m_760 : (Jvm.Cond.instanceMethod ({ cls := "AnswerPostModel", name := "write", desc := "(IIIII)I" } : Jvm.MethodName)) ∈ lw_tbl := in_4 (List.mem_of_getElem? (i := 40) rfl)
theorem m_761 : (Jvm.Cond.code ({ cls := "AnswerPostModel", name := "write", desc := "(IIIII)I" } : Jvm.MethodName) prog_13_method_20_code (6 : Nat) (Option.some Jvm.ClassFile.FieldType.int)) ∈ lw_tbl := in_4 (List.mem_of_getElem? (i := 41) rfl)
theorem m_762 : (Jvm.Cond.methodLink "AnswerPostLaw" (40 : Nat) ({ cls := "AnswerPostModel", name := "answer", desc := "(III)I" } : Jvm.MethodName)) ∈ lw_tbl := in_4 (List.mem_of_getElem? (i := 42) rfl)
theorem m_763 : (Jvm.Cond.instanceMethod ({ cls := "AnswerPostModel", name := "answer", desc := "(III)I" } : Jvm.MethodName)) ∈ lw_tbl := in_4 (List.mem_of_getElem? (i := 43) rfl)
theorem m_764 : (Jvm.Cond.selects "AnswerPostModel" ({ cls := "AnswerPostModel", name := "answer", desc := "(III)I" } : Jvm.MethodName) ({ cls := "AnswerPostModel", name := "answer", desc := "(III)I" } : Jvm.MethodName)) ∈ lw_tbl := in_4 (List.mem_of_getElem? (i := 44) rfl)
theorem m_765 : (Jvm.Cond.code ({ cls := "AnswerPostModel", name := "answer", desc := "(III)I" } : Jvm.MethodName) prog_13_method_22_code (4 : Nat) (Option.some Jvm.ClassFile.FieldType.int)) ∈ lw_tbl := in_4 (List.mem_of_getElem? (i := 45) rfl)
theorem m_766 : (Jvm.Cond.methodLink "AnswerPostModel" (130 : Nat) ({ cls := "AnswerPostModel", name := "isLetter", desc := "(I)Z" } : Jvm.MethodName)) ∈ lw_tbl := in_4 (List.mem_of_getElem? (i := 46) rfl)
theorem m_767 : (Jvm.Cond.privateMethod ({ cls := "AnswerPostModel", name := "isLetter", desc := "(I)Z" } : Jvm.MethodName)) ∈ lw_tbl := in_4 (List.mem_of_getElem? (i := 47) rfl)
theorem m_768 : (Jvm.Cond.instanceMethod ({ cls := "AnswerPostModel", name := "isLetter", desc := "(I)Z" } : Jvm.MethodName)) ∈ lw_tbl := in_4 (List.mem_of_getElem? (i := 48) rfl)
theorem m_769 : (Jvm.Cond.code ({ cls := "AnswerPostModel", name := "isLetter", desc := "(I)Z" } : Jvm.MethodName) prog_13_method_19_code (2 : Nat) (Option.some Jvm.ClassFile.FieldType.boolean)) ∈ lw_tbl := in_4 (List.mem_of_getElem? (i := 49) rfl)
theorem m_770 : (Jvm.Cond.methodLink "AnswerPostLaw" (44 : Nat) ({ cls := "AnswerPostModel", name := "ofLetter", desc := "(II)I" } : Jvm.MethodName)) ∈ lw_tbl := in_4 (List.mem_of_getElem? (i := 50) rfl)
theorem m_771 : (Jvm.Cond.instanceMethod ({ cls := "AnswerPostModel", name := "ofLetter", desc := "(II)I" } : Jvm.MethodName)) ∈ lw_tbl := in_4 (List.mem_of_getElem? (i := 51) rfl)
theorem m_772 : (Jvm.Cond.selects "AnswerPostModel" ({ cls := "AnswerPostModel", name := "ofLetter", desc := "(II)I" } : Jvm.MethodName) ({ cls := "AnswerPostModel", name := "ofLetter", desc := "(II)I" } : Jvm.MethodName)) ∈ lw_tbl := in_4 (List.mem_of_getElem? (i := 52) rfl)
theorem m_773 : (Jvm.Cond.code ({ cls := "AnswerPostModel", name := "ofLetter", desc := "(II)I" } : Jvm.MethodName) prog_13_method_24_code (3 : Nat) (Option.some Jvm.ClassFile.FieldType.int)) ∈ lw_tbl := in_4 (List.mem_of_getElem? (i := 53) rfl)
theorem m_774 : (Jvm.Cond.methodLink "AnswerPostModel" (133 : Nat) ({ cls := "AnswerPostModel", name := "scaleOf", desc := "(I)I" } : Jvm.MethodName)) ∈ lw_tbl := in_4 (List.mem_of_getElem? (i := 54) rfl)
theorem m_775 : (Jvm.Cond.privateMethod ({ cls := "AnswerPostModel", name := "scaleOf", desc := "(I)I" } : Jvm.MethodName)) ∈ lw_tbl := in_4 (List.mem_of_getElem? (i := 55) rfl)
theorem m_776 : (Jvm.Cond.instanceMethod ({ cls := "AnswerPostModel", name := "scaleOf", desc := "(I)I" } : Jvm.MethodName)) ∈ lw_tbl := in_4 (List.mem_of_getElem? (i := 56) rfl)
theorem m_777 : (Jvm.Cond.code ({ cls := "AnswerPostModel", name := "scaleOf", desc := "(I)I" } : Jvm.MethodName) prog_13_method_23_code (2 : Nat) (Option.some Jvm.ClassFile.FieldType.int)) ∈ lw_tbl := in_4 (List.mem_of_getElem? (i := 57) rfl)
theorem m_778 : (Jvm.Cond.methodLink "AnswerPostLaw" (48 : Nat) ({ cls := "AnswerPostModel", name := "burn", desc := "(I)I" } : Jvm.MethodName)) ∈ lw_tbl := in_4 (List.mem_of_getElem? (i := 58) rfl)
theorem m_779 : (Jvm.Cond.instanceMethod ({ cls := "AnswerPostModel", name := "burn", desc := "(I)I" } : Jvm.MethodName)) ∈ lw_tbl := in_4 (List.mem_of_getElem? (i := 59) rfl)
theorem m_780 : (Jvm.Cond.selects "AnswerPostModel" ({ cls := "AnswerPostModel", name := "burn", desc := "(I)I" } : Jvm.MethodName) ({ cls := "AnswerPostModel", name := "burn", desc := "(I)I" } : Jvm.MethodName)) ∈ lw_tbl := in_4 (List.mem_of_getElem? (i := 60) rfl)
theorem m_781 : (Jvm.Cond.code ({ cls := "AnswerPostModel", name := "burn", desc := "(I)I" } : Jvm.MethodName) prog_13_method_25_code (3 : Nat) (Option.some Jvm.ClassFile.FieldType.int)) ∈ lw_tbl := in_4 (List.mem_of_getElem? (i := 61) rfl)
theorem m_782 : (Jvm.Cond.methodLink "AnswerPostLaw" (52 : Nat) ({ cls := "AnswerPostModel", name := "paid", desc := "(II)I" } : Jvm.MethodName)) ∈ lw_tbl := in_4 (List.mem_of_getElem? (i := 62) rfl)
theorem m_783 : (Jvm.Cond.instanceMethod ({ cls := "AnswerPostModel", name := "paid", desc := "(II)I" } : Jvm.MethodName)) ∈ lw_tbl := in_4 (List.mem_of_getElem? (i := 63) rfl)
theorem m_784 : (Jvm.Cond.selects "AnswerPostModel" ({ cls := "AnswerPostModel", name := "paid", desc := "(II)I" } : Jvm.MethodName) ({ cls := "AnswerPostModel", name := "paid", desc := "(II)I" } : Jvm.MethodName)) ∈ lw_tbl := in_4 (List.mem_of_getElem? (i := 64) rfl)
theorem m_785 : (Jvm.Cond.code ({ cls := "AnswerPostModel", name := "paid", desc := "(II)I" } : Jvm.MethodName) prog_13_method_27_code (3 : Nat) (Option.some Jvm.ClassFile.FieldType.int)) ∈ lw_tbl := in_4 (List.mem_of_getElem? (i := 65) rfl)
theorem m_786 : (Jvm.Cond.methodLink "AnswerPostModel" (139 : Nat) ({ cls := "AnswerPostModel", name := "paidBy", desc := "(II)I" } : Jvm.MethodName)) ∈ lw_tbl := in_4 (List.mem_of_getElem? (i := 66) rfl)
theorem m_787 : (Jvm.Cond.privateMethod ({ cls := "AnswerPostModel", name := "paidBy", desc := "(II)I" } : Jvm.MethodName)) ∈ lw_tbl := in_4 (List.mem_of_getElem? (i := 67) rfl)
theorem m_788 : (Jvm.Cond.instanceMethod ({ cls := "AnswerPostModel", name := "paidBy", desc := "(II)I" } : Jvm.MethodName)) ∈ lw_tbl := in_4 (List.mem_of_getElem? (i := 68) rfl)
theorem m_789 : (Jvm.Cond.code ({ cls := "AnswerPostModel", name := "paidBy", desc := "(II)I" } : Jvm.MethodName) prog_13_method_26_code (6 : Nat) (Option.some Jvm.ClassFile.FieldType.int)) ∈ lw_tbl := in_4 (List.mem_of_getElem? (i := 69) rfl)
theorem m_790 : (Jvm.Cond.methodLink "AnswerPostModel" (136 : Nat) ({ cls := "AnswerPostModel", name := "pays", desc := "(II)I" } : Jvm.MethodName)) ∈ lw_tbl := in_4 (List.mem_of_getElem? (i := 70) rfl)
theorem m_791 : (Jvm.Cond.privateMethod ({ cls := "AnswerPostModel", name := "pays", desc := "(II)I" } : Jvm.MethodName)) ∈ lw_tbl := in_4 (List.mem_of_getElem? (i := 71) rfl)
theorem m_792 : (Jvm.Cond.instanceMethod ({ cls := "AnswerPostModel", name := "pays", desc := "(II)I" } : Jvm.MethodName)) ∈ lw_tbl := in_4 (List.mem_of_getElem? (i := 72) rfl)
theorem m_793 : (Jvm.Cond.code ({ cls := "AnswerPostModel", name := "pays", desc := "(II)I" } : Jvm.MethodName) prog_13_method_18_code (4 : Nat) (Option.some Jvm.ClassFile.FieldType.int)) ∈ lw_tbl := in_4 (List.mem_of_getElem? (i := 73) rfl)
theorem m_794 : (Jvm.Cond.methodLink "AnswerPostLaw" (56 : Nat) ({ cls := "AnswerPostModel", name := "owes", desc := "(III)I" } : Jvm.MethodName)) ∈ lw_tbl := in_4 (List.mem_of_getElem? (i := 74) rfl)
theorem m_795 : (Jvm.Cond.instanceMethod ({ cls := "AnswerPostModel", name := "owes", desc := "(III)I" } : Jvm.MethodName)) ∈ lw_tbl := in_4 (List.mem_of_getElem? (i := 75) rfl)
theorem m_796 : (Jvm.Cond.selects "AnswerPostModel" ({ cls := "AnswerPostModel", name := "owes", desc := "(III)I" } : Jvm.MethodName) ({ cls := "AnswerPostModel", name := "owes", desc := "(III)I" } : Jvm.MethodName)) ∈ lw_tbl := in_4 (List.mem_of_getElem? (i := 76) rfl)
theorem m_797 : (Jvm.Cond.code ({ cls := "AnswerPostModel", name := "owes", desc := "(III)I" } : Jvm.MethodName) prog_13_method_29_code (4 : Nat) (Option.some Jvm.ClassFile.FieldType.int)) ∈ lw_tbl := in_4 (List.mem_of_getElem? (i := 77) rfl)
theorem m_798 : (Jvm.Cond.methodLink "AnswerPostModel" (142 : Nat) ({ cls := "AnswerPostModel", name := "owed", desc := "(III)I" } : Jvm.MethodName)) ∈ lw_tbl := in_4 (List.mem_of_getElem? (i := 78) rfl)
theorem m_799 : (Jvm.Cond.privateMethod ({ cls := "AnswerPostModel", name := "owed", desc := "(III)I" } : Jvm.MethodName)) ∈ lw_tbl := in_4 (List.mem_of_getElem? (i := 79) rfl)
theorem m_800 : (Jvm.Cond.instanceMethod ({ cls := "AnswerPostModel", name := "owed", desc := "(III)I" } : Jvm.MethodName)) ∈ lw_tbl := in_4 (List.mem_of_getElem? (i := 80) rfl)
theorem m_801 : (Jvm.Cond.code ({ cls := "AnswerPostModel", name := "owed", desc := "(III)I" } : Jvm.MethodName) prog_13_method_28_code (7 : Nat) (Option.some Jvm.ClassFile.FieldType.int)) ∈ lw_tbl := in_4 (List.mem_of_getElem? (i := 81) rfl)
theorem m_802 : (Jvm.Cond.methodLink "AnswerPostLaw" (60 : Nat) ({ cls := "AnswerPostModel", name := "net", desc := "(II)I" } : Jvm.MethodName)) ∈ lw_tbl := in_4 (List.mem_of_getElem? (i := 82) rfl)
theorem m_803 : (Jvm.Cond.instanceMethod ({ cls := "AnswerPostModel", name := "net", desc := "(II)I" } : Jvm.MethodName)) ∈ lw_tbl := in_4 (List.mem_of_getElem? (i := 83) rfl)
theorem m_804 : (Jvm.Cond.selects "AnswerPostModel" ({ cls := "AnswerPostModel", name := "net", desc := "(II)I" } : Jvm.MethodName) ({ cls := "AnswerPostModel", name := "net", desc := "(II)I" } : Jvm.MethodName)) ∈ lw_tbl := in_4 (List.mem_of_getElem? (i := 84) rfl)
theorem m_805 : (Jvm.Cond.code ({ cls := "AnswerPostModel", name := "net", desc := "(II)I" } : Jvm.MethodName) prog_13_method_31_code (3 : Nat) (Option.some Jvm.ClassFile.FieldType.int)) ∈ lw_tbl := in_4 (List.mem_of_getElem? (i := 85) rfl)
theorem m_806 : (Jvm.Cond.methodLink "AnswerPostModel" (146 : Nat) ({ cls := "AnswerPostModel", name := "netOf", desc := "(II)I" } : Jvm.MethodName)) ∈ lw_tbl := in_4 (List.mem_of_getElem? (i := 86) rfl)
theorem m_807 : (Jvm.Cond.privateMethod ({ cls := "AnswerPostModel", name := "netOf", desc := "(II)I" } : Jvm.MethodName)) ∈ lw_tbl := in_4 (List.mem_of_getElem? (i := 87) rfl)
theorem m_808 : (Jvm.Cond.instanceMethod ({ cls := "AnswerPostModel", name := "netOf", desc := "(II)I" } : Jvm.MethodName)) ∈ lw_tbl := in_4 (List.mem_of_getElem? (i := 88) rfl)
theorem m_809 : (Jvm.Cond.code ({ cls := "AnswerPostModel", name := "netOf", desc := "(II)I" } : Jvm.MethodName) prog_13_method_30_code (5 : Nat) (Option.some Jvm.ClassFile.FieldType.int)) ∈ lw_tbl := in_4 (List.mem_of_getElem? (i := 89) rfl)
theorem m_810 : (Jvm.Cond.constant "AnswerPostModel" (149 : Nat) (1000000 : Int32)) ∈ lw_tbl := in_4 (List.mem_of_getElem? (i := 90) rfl)
theorem m_811 : (Jvm.Cond.methodLink "AnswerPostLaw" (64 : Nat) ({ cls := "AnswerPostModel", name := "settled", desc := "(I)I" } : Jvm.MethodName)) ∈ lw_tbl := in_4 (List.mem_of_getElem? (i := 91) rfl)
theorem m_812 : (Jvm.Cond.instanceMethod ({ cls := "AnswerPostModel", name := "settled", desc := "(I)I" } : Jvm.MethodName)) ∈ lw_tbl := in_4 (List.mem_of_getElem? (i := 92) rfl)
theorem m_813 : (Jvm.Cond.selects "AnswerPostModel" ({ cls := "AnswerPostModel", name := "settled", desc := "(I)I" } : Jvm.MethodName) ({ cls := "AnswerPostModel", name := "settled", desc := "(I)I" } : Jvm.MethodName)) ∈ lw_tbl := in_4 (List.mem_of_getElem? (i := 93) rfl)
theorem m_814 : (Jvm.Cond.code ({ cls := "AnswerPostModel", name := "settled", desc := "(I)I" } : Jvm.MethodName) prog_13_method_32_code (8 : Nat) (Option.some Jvm.ClassFile.FieldType.int)) ∈ lw_tbl := in_4 (List.mem_of_getElem? (i := 94) rfl)
theorem m_815 : (Jvm.Cond.methodLink "AnswerPostLaw" (68 : Nat) ({ cls := "AnswerPostModel", name := "best", desc := "(III)I" } : Jvm.MethodName)) ∈ lw_tbl := in_4 (List.mem_of_getElem? (i := 95) rfl)
theorem m_816 : (Jvm.Cond.instanceMethod ({ cls := "AnswerPostModel", name := "best", desc := "(III)I" } : Jvm.MethodName)) ∈ lw_tbl := in_4 (List.mem_of_getElem? (i := 96) rfl)
theorem m_817 : (Jvm.Cond.selects "AnswerPostModel" ({ cls := "AnswerPostModel", name := "best", desc := "(III)I" } : Jvm.MethodName) ({ cls := "AnswerPostModel", name := "best", desc := "(III)I" } : Jvm.MethodName)) ∈ lw_tbl := in_4 (List.mem_of_getElem? (i := 97) rfl)
theorem m_818 : (Jvm.Cond.code ({ cls := "AnswerPostModel", name := "best", desc := "(III)I" } : Jvm.MethodName) prog_13_method_34_code (4 : Nat) (Option.some Jvm.ClassFile.FieldType.int)) ∈ lw_tbl := in_4 (List.mem_of_getElem? (i := 98) rfl)
theorem m_819 : (Jvm.Cond.methodLink "AnswerPostModel" (156 : Nat) ({ cls := "AnswerPostModel", name := "findBest", desc := "(II)V" } : Jvm.MethodName)) ∈ lw_tbl := in_4 (List.mem_of_getElem? (i := 99) rfl)
theorem m_820 : (Jvm.Cond.privateMethod ({ cls := "AnswerPostModel", name := "findBest", desc := "(II)V" } : Jvm.MethodName)) ∈ lw_tbl := in_4 (List.mem_of_getElem? (i := 100) rfl)
theorem m_821 : (Jvm.Cond.instanceMethod ({ cls := "AnswerPostModel", name := "findBest", desc := "(II)V" } : Jvm.MethodName)) ∈ lw_tbl := in_4 (List.mem_of_getElem? (i := 101) rfl)
theorem m_822 : (Jvm.Cond.code ({ cls := "AnswerPostModel", name := "findBest", desc := "(II)V" } : Jvm.MethodName) prog_13_method_33_code (5 : Nat) (Option.none : Option Jvm.ClassFile.FieldType)) ∈ lw_tbl := in_4 (List.mem_of_getElem? (i := 102) rfl)
theorem m_823 : (Jvm.Cond.methodLink "AnswerPostLaw" (73 : Nat) ({ cls := "AnswerPostModel", name := "course", desc := "(IIIII)I" } : Jvm.MethodName)) ∈ lw_tbl := in_4 (List.mem_of_getElem? (i := 103) rfl)
theorem m_824 : (Jvm.Cond.instanceMethod ({ cls := "AnswerPostModel", name := "course", desc := "(IIIII)I" } : Jvm.MethodName)) ∈ lw_tbl := in_4 (List.mem_of_getElem? (i := 104) rfl)
theorem m_825 : (Jvm.Cond.selects "AnswerPostModel" ({ cls := "AnswerPostModel", name := "course", desc := "(IIIII)I" } : Jvm.MethodName) ({ cls := "AnswerPostModel", name := "course", desc := "(IIIII)I" } : Jvm.MethodName)) ∈ lw_tbl := in_4 (List.mem_of_getElem? (i := 105) rfl)
theorem m_826 : (Jvm.Cond.code ({ cls := "AnswerPostModel", name := "course", desc := "(IIIII)I" } : Jvm.MethodName) prog_13_method_39_code (8 : Nat) (Option.some Jvm.ClassFile.FieldType.int)) ∈ lw_tbl := in_4 (List.mem_of_getElem? (i := 106) rfl)
theorem m_827 : (Jvm.Cond.methodLink "AnswerPostModel" (168 : Nat) ({ cls := "AnswerPostModel", name := "areTwo", desc := "(II)Z" } : Jvm.MethodName)) ∈ lw_tbl := in_4 (List.mem_of_getElem? (i := 107) rfl)
theorem m_828 : (Jvm.Cond.privateMethod ({ cls := "AnswerPostModel", name := "areTwo", desc := "(II)Z" } : Jvm.MethodName)) ∈ lw_tbl := in_4 (List.mem_of_getElem? (i := 108) rfl)
theorem m_829 : (Jvm.Cond.instanceMethod ({ cls := "AnswerPostModel", name := "areTwo", desc := "(II)Z" } : Jvm.MethodName)) ∈ lw_tbl := in_4 (List.mem_of_getElem? (i := 109) rfl)
theorem m_830 : (Jvm.Cond.code ({ cls := "AnswerPostModel", name := "areTwo", desc := "(II)Z" } : Jvm.MethodName) prog_13_method_38_code (3 : Nat) (Option.some Jvm.ClassFile.FieldType.boolean)) ∈ lw_tbl := in_4 (List.mem_of_getElem? (i := 110) rfl)
theorem m_831 : (Jvm.Cond.methodLink "AnswerPostModel" (172 : Nat) ({ cls := "AnswerPostModel", name := "layCourse", desc := "(IIII)V" } : Jvm.MethodName)) ∈ lw_tbl := in_4 (List.mem_of_getElem? (i := 111) rfl)
theorem m_832 : (Jvm.Cond.privateMethod ({ cls := "AnswerPostModel", name := "layCourse", desc := "(IIII)V" } : Jvm.MethodName)) ∈ lw_tbl := in_4 (List.mem_of_getElem? (i := 112) rfl)
theorem m_833 : (Jvm.Cond.instanceMethod ({ cls := "AnswerPostModel", name := "layCourse", desc := "(IIII)V" } : Jvm.MethodName)) ∈ lw_tbl := in_4 (List.mem_of_getElem? (i := 113) rfl)
theorem m_834 : (Jvm.Cond.code ({ cls := "AnswerPostModel", name := "layCourse", desc := "(IIII)V" } : Jvm.MethodName) prog_13_method_37_code (9 : Nat) (Option.none : Option Jvm.ClassFile.FieldType)) ∈ lw_tbl := in_4 (List.mem_of_getElem? (i := 114) rfl)
theorem m_835 : (Jvm.Cond.methodLink "AnswerPostModel" (160 : Nat) ({ cls := "AnswerPostModel", name := "spot", desc := "(II)I" } : Jvm.MethodName)) ∈ lw_tbl := in_4 (List.mem_of_getElem? (i := 115) rfl)
theorem m_836 : (Jvm.Cond.static ({ cls := "AnswerPostModel", name := "spot", desc := "(II)I" } : Jvm.MethodName)) ∈ lw_tbl := in_4 (List.mem_of_getElem? (i := 116) rfl)
theorem m_837 : (Jvm.Cond.code ({ cls := "AnswerPostModel", name := "spot", desc := "(II)I" } : Jvm.MethodName) prog_13_method_35_code (2 : Nat) (Option.some Jvm.ClassFile.FieldType.int)) ∈ lw_tbl := in_4 (List.mem_of_getElem? (i := 117) rfl)
theorem m_838 : (Jvm.Cond.methodLink "AnswerPostModel" (164 : Nat) ({ cls := "AnswerPostModel", name := "layTurn", desc := "(IIIII)V" } : Jvm.MethodName)) ∈ lw_tbl := in_4 (List.mem_of_getElem? (i := 118) rfl)
theorem m_839 : (Jvm.Cond.privateMethod ({ cls := "AnswerPostModel", name := "layTurn", desc := "(IIIII)V" } : Jvm.MethodName)) ∈ lw_tbl := in_4 (List.mem_of_getElem? (i := 119) rfl)
theorem m_840 : (Jvm.Cond.instanceMethod ({ cls := "AnswerPostModel", name := "layTurn", desc := "(IIIII)V" } : Jvm.MethodName)) ∈ lw_tbl := in_4 (List.mem_of_getElem? (i := 120) rfl)
theorem m_841 : (Jvm.Cond.code ({ cls := "AnswerPostModel", name := "layTurn", desc := "(IIIII)V" } : Jvm.MethodName) prog_13_method_36_code (11 : Nat) (Option.none : Option Jvm.ClassFile.FieldType)) ∈ lw_tbl := in_4 (List.mem_of_getElem? (i := 121) rfl)
theorem m_842 : (Jvm.Cond.constant "AnswerPostModel" (163 : Nat) (1000000000 : Int32)) ∈ lw_tbl := in_4 (List.mem_of_getElem? (i := 122) rfl)
theorem m_843 : (Jvm.Cond.methodLink "AnswerPostLaw" (77 : Nat) ({ cls := "AnswerPostModel", name := "cost", desc := "(IIIII)I" } : Jvm.MethodName)) ∈ lw_tbl := in_4 (List.mem_of_getElem? (i := 123) rfl)
theorem m_844 : (Jvm.Cond.instanceMethod ({ cls := "AnswerPostModel", name := "cost", desc := "(IIIII)I" } : Jvm.MethodName)) ∈ lw_tbl := in_4 (List.mem_of_getElem? (i := 124) rfl)
theorem m_845 : (Jvm.Cond.selects "AnswerPostModel" ({ cls := "AnswerPostModel", name := "cost", desc := "(IIIII)I" } : Jvm.MethodName) ({ cls := "AnswerPostModel", name := "cost", desc := "(IIIII)I" } : Jvm.MethodName)) ∈ lw_tbl := in_4 (List.mem_of_getElem? (i := 125) rfl)
theorem m_846 : (Jvm.Cond.code ({ cls := "AnswerPostModel", name := "cost", desc := "(IIIII)I" } : Jvm.MethodName) prog_13_method_40_code (6 : Nat) (Option.some Jvm.ClassFile.FieldType.int)) ∈ lw_tbl := in_4 (List.mem_of_getElem? (i := 126) rfl)
theorem m_847 : (Jvm.Cond.methodLink "AnswerPostLaw" (82 : Nat) ({ cls := "AnswerPostModel", name := "split", desc := "(IIIIIII)I" } : Jvm.MethodName)) ∈ lw_tbl := in_4 (List.mem_of_getElem? (i := 127) rfl)
theorem m_848 : (Jvm.Cond.instanceMethod ({ cls := "AnswerPostModel", name := "split", desc := "(IIIIIII)I" } : Jvm.MethodName)) ∈ lw_tbl := in_4 (List.mem_of_getElem? (i := 128) rfl)
theorem m_849 : (Jvm.Cond.selects "AnswerPostModel" ({ cls := "AnswerPostModel", name := "split", desc := "(IIIIIII)I" } : Jvm.MethodName) ({ cls := "AnswerPostModel", name := "split", desc := "(IIIIIII)I" } : Jvm.MethodName)) ∈ lw_tbl := in_4 (List.mem_of_getElem? (i := 129) rfl)
theorem m_850 : (Jvm.Cond.code ({ cls := "AnswerPostModel", name := "split", desc := "(IIIIIII)I" } : Jvm.MethodName) prog_13_method_43_code (10 : Nat) (Option.some Jvm.ClassFile.FieldType.int)) ∈ lw_tbl := in_4 (List.mem_of_getElem? (i := 130) rfl)
theorem m_851 : (Jvm.Cond.methodLink "AnswerPostModel" (179 : Nat) ({ cls := "AnswerPostModel", name := "layParts", desc := "(III)V" } : Jvm.MethodName)) ∈ lw_tbl := in_4 (List.mem_of_getElem? (i := 131) rfl)
theorem m_852 : (Jvm.Cond.privateMethod ({ cls := "AnswerPostModel", name := "layParts", desc := "(III)V" } : Jvm.MethodName)) ∈ lw_tbl := in_4 (List.mem_of_getElem? (i := 132) rfl)
theorem m_853 : (Jvm.Cond.instanceMethod ({ cls := "AnswerPostModel", name := "layParts", desc := "(III)V" } : Jvm.MethodName)) ∈ lw_tbl := in_4 (List.mem_of_getElem? (i := 133) rfl)
theorem m_854 : (Jvm.Cond.code ({ cls := "AnswerPostModel", name := "layParts", desc := "(III)V" } : Jvm.MethodName) prog_13_method_42_code (9 : Nat) (Option.none : Option Jvm.ClassFile.FieldType)) ∈ lw_tbl := in_4 (List.mem_of_getElem? (i := 134) rfl)
theorem m_855 : (Jvm.Cond.methodLink "AnswerPostModel" (176 : Nat) ({ cls := "AnswerPostModel", name := "partPays", desc := "(III)I" } : Jvm.MethodName)) ∈ lw_tbl := in_4 (List.mem_of_getElem? (i := 135) rfl)
theorem m_856 : (Jvm.Cond.privateMethod ({ cls := "AnswerPostModel", name := "partPays", desc := "(III)I" } : Jvm.MethodName)) ∈ lw_tbl := in_4 (List.mem_of_getElem? (i := 136) rfl)
theorem m_857 : (Jvm.Cond.instanceMethod ({ cls := "AnswerPostModel", name := "partPays", desc := "(III)I" } : Jvm.MethodName)) ∈ lw_tbl := in_4 (List.mem_of_getElem? (i := 137) rfl)
theorem m_858 : (Jvm.Cond.code ({ cls := "AnswerPostModel", name := "partPays", desc := "(III)I" } : Jvm.MethodName) prog_13_method_41_code (4 : Nat) (Option.some Jvm.ClassFile.FieldType.int)) ∈ lw_tbl := in_4 (List.mem_of_getElem? (i := 138) rfl)
theorem m_859 : (Jvm.Cond.methodLink "AnswerPostModel" (183 : Nat) ({ cls := "AnswerPostModel", name := "partOf", desc := "(III)I" } : Jvm.MethodName)) ∈ lw_tbl := in_4 (List.mem_of_getElem? (i := 139) rfl)
theorem m_860 : (Jvm.Cond.privateMethod ({ cls := "AnswerPostModel", name := "partOf", desc := "(III)I" } : Jvm.MethodName)) ∈ lw_tbl := in_4 (List.mem_of_getElem? (i := 140) rfl)
theorem m_861 : (Jvm.Cond.instanceMethod ({ cls := "AnswerPostModel", name := "partOf", desc := "(III)I" } : Jvm.MethodName)) ∈ lw_tbl := in_4 (List.mem_of_getElem? (i := 141) rfl)
theorem m_862 : (Jvm.Cond.code ({ cls := "AnswerPostModel", name := "partOf", desc := "(III)I" } : Jvm.MethodName) prog_13_method_44_code (7 : Nat) (Option.some Jvm.ClassFile.FieldType.int)) ∈ lw_tbl := in_4 (List.mem_of_getElem? (i := 142) rfl)
theorem m_863 : (Jvm.Cond.methodLink "AnswerPostLaw" (86 : Nat) ({ cls := "AnswerPostModel", name := "least", desc := "(III)I" } : Jvm.MethodName)) ∈ lw_tbl := in_4 (List.mem_of_getElem? (i := 143) rfl)
theorem m_864 : (Jvm.Cond.instanceMethod ({ cls := "AnswerPostModel", name := "least", desc := "(III)I" } : Jvm.MethodName)) ∈ lw_tbl := in_4 (List.mem_of_getElem? (i := 144) rfl)
theorem m_865 : (Jvm.Cond.selects "AnswerPostModel" ({ cls := "AnswerPostModel", name := "least", desc := "(III)I" } : Jvm.MethodName) ({ cls := "AnswerPostModel", name := "least", desc := "(III)I" } : Jvm.MethodName)) ∈ lw_tbl := in_4 (List.mem_of_getElem? (i := 145) rfl)
theorem m_866 : (Jvm.Cond.code ({ cls := "AnswerPostModel", name := "least", desc := "(III)I" } : Jvm.MethodName) prog_13_method_45_code (8 : Nat) (Option.some Jvm.ClassFile.FieldType.int)) ∈ lw_tbl := in_4 (List.mem_of_getElem? (i := 146) rfl)
theorem m_867 : (Jvm.Cond.methodLink "AnswerPostLaw" (90 : Nat) ({ cls := "AnswerPostModel", name := "weights", desc := "(IIIII)I" } : Jvm.MethodName)) ∈ lw_tbl := in_4 (List.mem_of_getElem? (i := 147) rfl)
theorem m_868 : (Jvm.Cond.instanceMethod ({ cls := "AnswerPostModel", name := "weights", desc := "(IIIII)I" } : Jvm.MethodName)) ∈ lw_tbl := in_4 (List.mem_of_getElem? (i := 148) rfl)
theorem m_869 : (Jvm.Cond.selects "AnswerPostModel" ({ cls := "AnswerPostModel", name := "weights", desc := "(IIIII)I" } : Jvm.MethodName) ({ cls := "AnswerPostModel", name := "weights", desc := "(IIIII)I" } : Jvm.MethodName)) ∈ lw_tbl := in_4 (List.mem_of_getElem? (i := 149) rfl)
theorem m_870 : (Jvm.Cond.code ({ cls := "AnswerPostModel", name := "weights", desc := "(IIIII)I" } : Jvm.MethodName) prog_13_method_46_code (11 : Nat) (Option.some Jvm.ClassFile.FieldType.int)) ∈ lw_tbl := in_4 (List.mem_of_getElem? (i := 150) rfl)
theorem m_871 : (Jvm.Cond.methodLink "AnswerPostLaw" (94 : Nat) ({ cls := "AnswerPostModel", name := "sheet", desc := "(III)I" } : Jvm.MethodName)) ∈ lw_tbl := in_4 (List.mem_of_getElem? (i := 151) rfl)
theorem m_872 : (Jvm.Cond.instanceMethod ({ cls := "AnswerPostModel", name := "sheet", desc := "(III)I" } : Jvm.MethodName)) ∈ lw_tbl := in_4 (List.mem_of_getElem? (i := 152) rfl)
theorem m_873 : (Jvm.Cond.selects "AnswerPostModel" ({ cls := "AnswerPostModel", name := "sheet", desc := "(III)I" } : Jvm.MethodName) ({ cls := "AnswerPostModel", name := "sheet", desc := "(III)I" } : Jvm.MethodName)) ∈ lw_tbl := in_4 (List.mem_of_getElem? (i := 153) rfl)
theorem m_874 : (Jvm.Cond.code ({ cls := "AnswerPostModel", name := "sheet", desc := "(III)I" } : Jvm.MethodName) prog_13_method_47_code (5 : Nat) (Option.some Jvm.ClassFile.FieldType.int)) ∈ lw_tbl := in_4 (List.mem_of_getElem? (i := 154) rfl)
theorem m_875 : (Jvm.Cond.methodLink "AnswerPostLaw" (98 : Nat) ({ cls := "AnswerPostModel", name := "lose", desc := "(I)I" } : Jvm.MethodName)) ∈ lw_tbl := in_4 (List.mem_of_getElem? (i := 155) rfl)
theorem m_876 : (Jvm.Cond.instanceMethod ({ cls := "AnswerPostModel", name := "lose", desc := "(I)I" } : Jvm.MethodName)) ∈ lw_tbl := in_4 (List.mem_of_getElem? (i := 156) rfl)
theorem m_877 : (Jvm.Cond.selects "AnswerPostModel" ({ cls := "AnswerPostModel", name := "lose", desc := "(I)I" } : Jvm.MethodName) ({ cls := "AnswerPostModel", name := "lose", desc := "(I)I" } : Jvm.MethodName)) ∈ lw_tbl := in_4 (List.mem_of_getElem? (i := 157) rfl)
theorem m_878 : (Jvm.Cond.code ({ cls := "AnswerPostModel", name := "lose", desc := "(I)I" } : Jvm.MethodName) prog_13_method_48_code (3 : Nat) (Option.some Jvm.ClassFile.FieldType.int)) ∈ lw_tbl := in_4 (List.mem_of_getElem? (i := 158) rfl)
theorem m_879 : (Jvm.Cond.methodLink "AnswerPostLaw" (102 : Nat) ({ cls := "AnswerPostModel", name := "put", desc := "(III)I" } : Jvm.MethodName)) ∈ lw_tbl := in_4 (List.mem_of_getElem? (i := 159) rfl)
theorem m_880 : (Jvm.Cond.instanceMethod ({ cls := "AnswerPostModel", name := "put", desc := "(III)I" } : Jvm.MethodName)) ∈ lw_tbl := in_4 (List.mem_of_getElem? (i := 160) rfl)
theorem m_881 : (Jvm.Cond.selects "AnswerPostModel" ({ cls := "AnswerPostModel", name := "put", desc := "(III)I" } : Jvm.MethodName) ({ cls := "AnswerPostModel", name := "put", desc := "(III)I" } : Jvm.MethodName)) ∈ lw_tbl := in_4 (List.mem_of_getElem? (i := 161) rfl)
theorem m_882 : (Jvm.Cond.code ({ cls := "AnswerPostModel", name := "put", desc := "(III)I" } : Jvm.MethodName) prog_13_method_49_code (4 : Nat) (Option.some Jvm.ClassFile.FieldType.int)) ∈ lw_tbl := in_4 (List.mem_of_getElem? (i := 162) rfl)
theorem m_883 : (Jvm.Cond.methodLink "AnswerPostLaw" (107 : Nat) ({ cls := "AnswerPostModel", name := "cell", desc := "(III)J" } : Jvm.MethodName)) ∈ lw_tbl := in_4 (List.mem_of_getElem? (i := 163) rfl)
theorem m_884 : (Jvm.Cond.instanceMethod ({ cls := "AnswerPostModel", name := "cell", desc := "(III)J" } : Jvm.MethodName)) ∈ lw_tbl := in_4 (List.mem_of_getElem? (i := 164) rfl)
theorem m_885 : (Jvm.Cond.selects "AnswerPostModel" ({ cls := "AnswerPostModel", name := "cell", desc := "(III)J" } : Jvm.MethodName) ({ cls := "AnswerPostModel", name := "cell", desc := "(III)J" } : Jvm.MethodName)) ∈ lw_tbl := in_4 (List.mem_of_getElem? (i := 165) rfl)
theorem m_886 : (Jvm.Cond.code ({ cls := "AnswerPostModel", name := "cell", desc := "(III)J" } : Jvm.MethodName) prog_13_method_50_code (4 : Nat) (Option.some Jvm.ClassFile.FieldType.long)) ∈ lw_tbl := in_4 (List.mem_of_getElem? (i := 166) rfl)
theorem m_887 : (Jvm.Cond.constantLong "AnswerPostModel" (74 : Nat) (-9223372036854775808 : Int64)) ∈ lw_tbl := in_4 (List.mem_of_getElem? (i := 167) rfl)
theorem m_888 : (Jvm.Cond.methodLink "AnswerPostModel" (186 : Nat) ({ cls := "AnswerPostModel", name := "lost", desc := "(I)J" } : Jvm.MethodName)) ∈ lw_tbl := in_4 (List.mem_of_getElem? (i := 168) rfl)
theorem m_889 : (Jvm.Cond.privateMethod ({ cls := "AnswerPostModel", name := "lost", desc := "(I)J" } : Jvm.MethodName)) ∈ lw_tbl := in_4 (List.mem_of_getElem? (i := 169) rfl)
theorem m_890 : (Jvm.Cond.instanceMethod ({ cls := "AnswerPostModel", name := "lost", desc := "(I)J" } : Jvm.MethodName)) ∈ lw_tbl := in_4 (List.mem_of_getElem? (i := 170) rfl)
theorem m_891 : (Jvm.Cond.code ({ cls := "AnswerPostModel", name := "lost", desc := "(I)J" } : Jvm.MethodName) prog_13_method_4_code (2 : Nat) (Option.some Jvm.ClassFile.FieldType.long)) ∈ lw_tbl := in_4 (List.mem_of_getElem? (i := 171) rfl)
theorem m_892 : (Jvm.Cond.methodLink "AnswerPostLaw" (111 : Nat) ({ cls := "AnswerPostModel", name := "copy", desc := "(IIIII)I" } : Jvm.MethodName)) ∈ lw_tbl := in_4 (List.mem_of_getElem? (i := 172) rfl)
theorem m_893 : (Jvm.Cond.instanceMethod ({ cls := "AnswerPostModel", name := "copy", desc := "(IIIII)I" } : Jvm.MethodName)) ∈ lw_tbl := in_4 (List.mem_of_getElem? (i := 173) rfl)
theorem m_894 : (Jvm.Cond.selects "AnswerPostModel" ({ cls := "AnswerPostModel", name := "copy", desc := "(IIIII)I" } : Jvm.MethodName) ({ cls := "AnswerPostModel", name := "copy", desc := "(IIIII)I" } : Jvm.MethodName)) ∈ lw_tbl := in_4 (List.mem_of_getElem? (i := 174) rfl)
theorem m_895 : (Jvm.Cond.code ({ cls := "AnswerPostModel", name := "copy", desc := "(IIIII)I" } : Jvm.MethodName) prog_13_method_51_code (10 : Nat) (Option.some Jvm.ClassFile.FieldType.int)) ∈ lw_tbl := in_4 (List.mem_of_getElem? (i := 175) rfl)
theorem m_896 : (Jvm.Cond.methodLink "AnswerPostLaw" (115 : Nat) ({ cls := "AnswerPostModel", name := "tell", desc := "(I)I" } : Jvm.MethodName)) ∈ lw_tbl := in_4 (List.mem_of_getElem? (i := 176) rfl)
theorem m_897 : (Jvm.Cond.instanceMethod ({ cls := "AnswerPostModel", name := "tell", desc := "(I)I" } : Jvm.MethodName)) ∈ lw_tbl := in_4 (List.mem_of_getElem? (i := 177) rfl)
theorem m_898 : (Jvm.Cond.selects "AnswerPostModel" ({ cls := "AnswerPostModel", name := "tell", desc := "(I)I" } : Jvm.MethodName) ({ cls := "AnswerPostModel", name := "tell", desc := "(I)I" } : Jvm.MethodName)) ∈ lw_tbl := in_4 (List.mem_of_getElem? (i := 178) rfl)
theorem m_899 : (Jvm.Cond.code ({ cls := "AnswerPostModel", name := "tell", desc := "(I)I" } : Jvm.MethodName) prog_13_method_53_code (3 : Nat) (Option.some Jvm.ClassFile.FieldType.int)) ∈ lw_tbl := in_4 (List.mem_of_getElem? (i := 179) rfl)
theorem m_900 : (Jvm.Cond.methodLink "AnswerPostModel" (193 : Nat) ({ cls := "AnswerPostModel", name := "begins", desc := "(I)V" } : Jvm.MethodName)) ∈ lw_tbl := in_4 (List.mem_of_getElem? (i := 180) rfl)
theorem m_901 : (Jvm.Cond.privateMethod ({ cls := "AnswerPostModel", name := "begins", desc := "(I)V" } : Jvm.MethodName)) ∈ lw_tbl := in_4 (List.mem_of_getElem? (i := 181) rfl)
theorem m_902 : (Jvm.Cond.instanceMethod ({ cls := "AnswerPostModel", name := "begins", desc := "(I)V" } : Jvm.MethodName)) ∈ lw_tbl := in_4 (List.mem_of_getElem? (i := 182) rfl)
theorem m_903 : (Jvm.Cond.code ({ cls := "AnswerPostModel", name := "begins", desc := "(I)V" } : Jvm.MethodName) prog_13_method_52_code (2 : Nat) (Option.none : Option Jvm.ClassFile.FieldType)) ∈ lw_tbl := in_4 (List.mem_of_getElem? (i := 183) rfl)
theorem m_904 : (Jvm.Cond.methodLink "AnswerPostLaw" (119 : Nat) ({ cls := "AnswerPostModel", name := "greet", desc := "(I)I" } : Jvm.MethodName)) ∈ lw_tbl := in_4 (List.mem_of_getElem? (i := 184) rfl)
theorem m_905 : (Jvm.Cond.instanceMethod ({ cls := "AnswerPostModel", name := "greet", desc := "(I)I" } : Jvm.MethodName)) ∈ lw_tbl := in_4 (List.mem_of_getElem? (i := 185) rfl)
theorem m_906 : (Jvm.Cond.selects "AnswerPostModel" ({ cls := "AnswerPostModel", name := "greet", desc := "(I)I" } : Jvm.MethodName) ({ cls := "AnswerPostModel", name := "greet", desc := "(I)I" } : Jvm.MethodName)) ∈ lw_tbl := in_4 (List.mem_of_getElem? (i := 186) rfl)
theorem m_907 : (Jvm.Cond.code ({ cls := "AnswerPostModel", name := "greet", desc := "(I)I" } : Jvm.MethodName) prog_13_method_54_code (2 : Nat) (Option.some Jvm.ClassFile.FieldType.int)) ∈ lw_tbl := in_4 (List.mem_of_getElem? (i := 187) rfl)
theorem m_908 : (Jvm.Cond.methodLink "AnswerPostLaw" (123 : Nat) ({ cls := "AnswerPostModel", name := "as", desc := "(II)I" } : Jvm.MethodName)) ∈ lw_tbl := in_4 (List.mem_of_getElem? (i := 188) rfl)
theorem m_909 : (Jvm.Cond.instanceMethod ({ cls := "AnswerPostModel", name := "as", desc := "(II)I" } : Jvm.MethodName)) ∈ lw_tbl := in_4 (List.mem_of_getElem? (i := 189) rfl)
theorem m_910 : (Jvm.Cond.selects "AnswerPostModel" ({ cls := "AnswerPostModel", name := "as", desc := "(II)I" } : Jvm.MethodName) ({ cls := "AnswerPostModel", name := "as", desc := "(II)I" } : Jvm.MethodName)) ∈ lw_tbl := in_4 (List.mem_of_getElem? (i := 190) rfl)
theorem m_911 : (Jvm.Cond.code ({ cls := "AnswerPostModel", name := "as", desc := "(II)I" } : Jvm.MethodName) prog_13_method_55_code (3 : Nat) (Option.some Jvm.ClassFile.FieldType.int)) ∈ lw_tbl := in_4 (List.mem_of_getElem? (i := 191) rfl)
theorem m_912 : (Jvm.Cond.methodLink "AnswerPostLaw" (128 : Nat) ({ cls := "AnswerPostModel", name := "trace", desc := "()I" } : Jvm.MethodName)) ∈ lw_tbl := in_4 (List.mem_of_getElem? (i := 192) rfl)
theorem m_913 : (Jvm.Cond.instanceMethod ({ cls := "AnswerPostModel", name := "trace", desc := "()I" } : Jvm.MethodName)) ∈ lw_tbl := in_4 (List.mem_of_getElem? (i := 193) rfl)
theorem m_914 : (Jvm.Cond.selects "AnswerPostModel" ({ cls := "AnswerPostModel", name := "trace", desc := "()I" } : Jvm.MethodName) ({ cls := "AnswerPostModel", name := "trace", desc := "()I" } : Jvm.MethodName)) ∈ lw_tbl := in_4 (List.mem_of_getElem? (i := 194) rfl)
theorem m_915 : (Jvm.Cond.code ({ cls := "AnswerPostModel", name := "trace", desc := "()I" } : Jvm.MethodName) prog_13_method_56_code (1 : Nat) (Option.some Jvm.ClassFile.FieldType.int)) ∈ lw_tbl := in_4 (List.mem_of_getElem? (i := 195) rfl)
theorem m_916 : (Jvm.Cond.methodLink "AnswerPostLaw" (132 : Nat) ({ cls := "AnswerPostModel", name := "fault", desc := "()I" } : Jvm.MethodName)) ∈ lw_tbl := in_4 (List.mem_of_getElem? (i := 196) rfl)
theorem m_917 : (Jvm.Cond.instanceMethod ({ cls := "AnswerPostModel", name := "fault", desc := "()I" } : Jvm.MethodName)) ∈ lw_tbl := in_4 (List.mem_of_getElem? (i := 197) rfl)
theorem m_918 : (Jvm.Cond.selects "AnswerPostModel" ({ cls := "AnswerPostModel", name := "fault", desc := "()I" } : Jvm.MethodName) ({ cls := "AnswerPostModel", name := "fault", desc := "()I" } : Jvm.MethodName)) ∈ lw_tbl := in_4 (List.mem_of_getElem? (i := 198) rfl)
theorem m_919 : (Jvm.Cond.code ({ cls := "AnswerPostModel", name := "fault", desc := "()I" } : Jvm.MethodName) prog_13_method_57_code (1 : Nat) (Option.some Jvm.ClassFile.FieldType.int)) ∈ lw_tbl := in_4 (List.mem_of_getElem? (i := 199) rfl)
theorem m_920 : (Jvm.Cond.methodLink "AnswerPostLaw" (136 : Nat) ({ cls := "AnswerPostModel", name := "many", desc := "(I)I" } : Jvm.MethodName)) ∈ lw_tbl := in_4 (List.mem_of_getElem? (i := 200) rfl)
theorem m_921 : (Jvm.Cond.instanceMethod ({ cls := "AnswerPostModel", name := "many", desc := "(I)I" } : Jvm.MethodName)) ∈ lw_tbl := in_4 (List.mem_of_getElem? (i := 201) rfl)
theorem m_922 : (Jvm.Cond.selects "AnswerPostModel" ({ cls := "AnswerPostModel", name := "many", desc := "(I)I" } : Jvm.MethodName) ({ cls := "AnswerPostModel", name := "many", desc := "(I)I" } : Jvm.MethodName)) ∈ lw_tbl := in_4 (List.mem_of_getElem? (i := 202) rfl)
theorem m_923 : (Jvm.Cond.code ({ cls := "AnswerPostModel", name := "many", desc := "(I)I" } : Jvm.MethodName) prog_13_method_58_code (2 : Nat) (Option.some Jvm.ClassFile.FieldType.int)) ∈ lw_tbl := in_4 (List.mem_of_getElem? (i := 203) rfl)
theorem m_924 : (Jvm.Cond.sameMethod "AnswerPost$Miser" "AnswerPost$Miser" "shows" "(I)I") ∈ lw_tbl := in_4 (List.mem_of_getElem? (i := 204) rfl)
theorem m_925 : (Jvm.Cond.sameMethod "AnswerPost$Miser" "AnswerPost$Miser" "telling" "(LAnswerPost$Trail;)I") ∈ lw_tbl := in_4 (List.mem_of_getElem? (i := 205) rfl)
theorem m_926 : (Jvm.Cond.sameMethod "AnswerPost$Writer" "AnswerPost$Writer" "writersTelling" "(LAnswerPost$Trail;)I") ∈ lw_tbl := in_4 (List.mem_of_getElem? (i := 206) rfl)
theorem m_927 : (Jvm.Cond.selects "AnswerPost$Lawyer" ({ cls := "AnswerPost$Writer", name := "writersTelling", desc := "(LAnswerPost$Trail;)I" } : Jvm.MethodName) ({ cls := "AnswerPost$Writer", name := "writersTelling", desc := "(LAnswerPost$Trail;)I" } : Jvm.MethodName)) ∈ lw_tbl := in_4 (List.mem_of_getElem? (i := 207) rfl)
theorem m_928 : (Jvm.Cond.selects "AnswerPost$Miser" ({ cls := "AnswerPost$Writer", name := "writersTelling", desc := "(LAnswerPost$Trail;)I" } : Jvm.MethodName) ({ cls := "AnswerPost$Writer", name := "writersTelling", desc := "(LAnswerPost$Trail;)I" } : Jvm.MethodName)) ∈ lw_tbl := in_4 (List.mem_of_getElem? (i := 208) rfl)
theorem m_929 : (Jvm.Cond.selects "AnswerPost$Writer" ({ cls := "AnswerPost$Writer", name := "writersTelling", desc := "(LAnswerPost$Trail;)I" } : Jvm.MethodName) ({ cls := "AnswerPost$Writer", name := "writersTelling", desc := "(LAnswerPost$Trail;)I" } : Jvm.MethodName)) ∈ lw_tbl := in_4 (List.mem_of_getElem? (i := 209) rfl)
theorem m_930 : (Jvm.Cond.castable "AnswerPost$Lawyer" "AnswerPost$Miser") ∈ lw_tbl := in_4 (List.mem_of_getElem? (i := 210) rfl)
theorem m_931 : (Jvm.Cond.castable "AnswerPost$Miser" "AnswerPost$Writer") ∈ lw_tbl := in_4 (List.mem_of_getElem? (i := 211) rfl)
theorem m_932 : (Jvm.Cond.castable "AnswerPost$Lawyer" "AnswerPost$Writer") ∈ lw_tbl := in_4 (List.mem_of_getElem? (i := 212) rfl)
/-- the words that stay through calls -/
def gws : List Jvm.Cond := lw_tbl.filter goodWord
theorem gin {w : Jvm.Cond} (h : w ∈ lw_tbl) (hg : goodWord w = true) : w ∈ gws := List.mem_filter.mpr ⟨h, hg⟩
theorem gtbl {w : Jvm.Cond} (h : w ∈ gws) : w ∈ lw_tbl := (List.mem_filter.mp h).1
theorem gs_0 : Jvm.Cond.selects "AnswerPost" ⟨"AnswerPost", "sheetAt", "(I)LAnswerPost$Row;"⟩ ⟨"AnswerPost", "sheetAt", "(I)LAnswerPost$Row;"⟩ ∈ gws := gin ms_0 rfl
theorem gs_1 : Jvm.Cond.selects "AnswerPost" ⟨"AnswerPost", "faulted", "(I)I"⟩ ⟨"AnswerPost", "faulted", "(I)I"⟩ ∈ gws := gin ms_1 rfl
theorem gs_2 : Jvm.Cond.selects "AnswerPost" ⟨"AnswerPost", "settle", "([III)V"⟩ ⟨"AnswerPost", "settle", "([III)V"⟩ ∈ gws := gin ms_2 rfl
theorem gs_3 : Jvm.Cond.selects "AnswerPost" ⟨"AnswerPost", "personAt", "(I)LAnswerPost$Writer;"⟩ ⟨"AnswerPost", "personAt", "(I)LAnswerPost$Writer;"⟩ ∈ gws := gin ms_3 rfl
theorem gs_4 : Jvm.Cond.selects "AnswerPost$Letters" ⟨"AnswerPost$Letters", "owedFor", "(II)I"⟩ ⟨"AnswerPost$Letters", "owedFor", "(II)I"⟩ ∈ gws := gin ms_4 rfl
theorem gs_5 : Jvm.Cond.selects "AnswerPost$Settling" ⟨"AnswerPost$Settling", "fill", "(I)V"⟩ ⟨"AnswerPost$Settling", "fill", "(I)V"⟩ ∈ gws := gin ms_5 rfl
theorem gs_6 : Jvm.Cond.selects "AnswerPost$Turns" ⟨"AnswerPost$Turns", "weighAll", "(LAnswerPost$Writer;I)V"⟩ ⟨"AnswerPost$Turns", "weighAll", "(LAnswerPost$Writer;I)V"⟩ ∈ gws := gin ms_6 rfl
theorem gs_7 : Jvm.Cond.selects "AnswerPost$Turns" ⟨"AnswerPost$Turns", "choose", "(II)V"⟩ ⟨"AnswerPost$Turns", "choose", "(II)V"⟩ ∈ gws := gin ms_7 rfl
theorem gs_8 : Jvm.Cond.selects "AnswerPost$Turns" ⟨"AnswerPost$Turns", "write", "(I)V"⟩ ⟨"AnswerPost$Turns", "write", "(I)V"⟩ ∈ gws := gin ms_8 rfl
theorem gs_9 : Jvm.Cond.selects "AnswerPost$Parts" ⟨"AnswerPost$Parts", "choose", "(III)V"⟩ ⟨"AnswerPost$Parts", "choose", "(III)V"⟩ ∈ gws := gin ms_9 rfl
theorem gs_10 : Jvm.Cond.selects "AnswerPost$Parts" ⟨"AnswerPost$Parts", "costOf", "(IIII)I"⟩ ⟨"AnswerPost$Parts", "costOf", "(IIII)I"⟩ ∈ gws := gin ms_10 rfl
theorem gs_11 : Jvm.Cond.selects "AnswerPostModel" ⟨"AnswerPostModel", "against", "(IIII)I"⟩ ⟨"AnswerPostModel", "against", "(IIII)I"⟩ ∈ gws := gin ms_11 rfl
theorem gs_12 : Jvm.Cond.selects "AnswerPostModel" ⟨"AnswerPostModel", "fails", "(I)I"⟩ ⟨"AnswerPostModel", "fails", "(I)I"⟩ ∈ gws := gin ms_12 rfl
theorem gs_13 : Jvm.Cond.selects "AnswerPostModel" ⟨"AnswerPostModel", "readPost", "(I)Z"⟩ ⟨"AnswerPostModel", "readPost", "(I)Z"⟩ ∈ gws := gin ms_13 rfl
theorem gs_14 : Jvm.Cond.selects "AnswerPostModel" ⟨"AnswerPostModel", "readPerson", "(I)Z"⟩ ⟨"AnswerPostModel", "readPerson", "(I)Z"⟩ ∈ gws := gin ms_14 rfl
theorem gs_15 : Jvm.Cond.selects "AnswerPostModel" ⟨"AnswerPostModel", "isPerson", "(I)Z"⟩ ⟨"AnswerPostModel", "isPerson", "(I)Z"⟩ ∈ gws := gin ms_15 rfl
theorem gs_16 : Jvm.Cond.selects "AnswerPostModel" ⟨"AnswerPostModel", "shows", "(II)I"⟩ ⟨"AnswerPostModel", "shows", "(II)I"⟩ ∈ gws := gin ms_16 rfl
theorem gs_17 : Jvm.Cond.selects "AnswerPostModel" ⟨"AnswerPostModel", "write", "(IIIII)I"⟩ ⟨"AnswerPostModel", "write", "(IIIII)I"⟩ ∈ gws := gin ms_17 rfl
theorem gs_18 : Jvm.Cond.selects "AnswerPostModel" ⟨"AnswerPostModel", "isLetter", "(I)Z"⟩ ⟨"AnswerPostModel", "isLetter", "(I)Z"⟩ ∈ gws := gin ms_18 rfl
theorem gs_19 : Jvm.Cond.selects "AnswerPostModel" ⟨"AnswerPostModel", "scaleOf", "(I)I"⟩ ⟨"AnswerPostModel", "scaleOf", "(I)I"⟩ ∈ gws := gin ms_19 rfl
theorem gs_20 : Jvm.Cond.selects "AnswerPostModel" ⟨"AnswerPostModel", "paidBy", "(II)I"⟩ ⟨"AnswerPostModel", "paidBy", "(II)I"⟩ ∈ gws := gin ms_20 rfl
theorem gs_21 : Jvm.Cond.selects "AnswerPostModel" ⟨"AnswerPostModel", "pays", "(II)I"⟩ ⟨"AnswerPostModel", "pays", "(II)I"⟩ ∈ gws := gin ms_21 rfl
theorem gs_22 : Jvm.Cond.selects "AnswerPostModel" ⟨"AnswerPostModel", "owed", "(III)I"⟩ ⟨"AnswerPostModel", "owed", "(III)I"⟩ ∈ gws := gin ms_22 rfl
theorem gs_23 : Jvm.Cond.selects "AnswerPostModel" ⟨"AnswerPostModel", "netOf", "(II)I"⟩ ⟨"AnswerPostModel", "netOf", "(II)I"⟩ ∈ gws := gin ms_23 rfl
theorem gs_24 : Jvm.Cond.selects "AnswerPostModel" ⟨"AnswerPostModel", "findBest", "(II)V"⟩ ⟨"AnswerPostModel", "findBest", "(II)V"⟩ ∈ gws := gin ms_24 rfl
theorem gs_25 : Jvm.Cond.selects "AnswerPostModel" ⟨"AnswerPostModel", "areTwo", "(II)Z"⟩ ⟨"AnswerPostModel", "areTwo", "(II)Z"⟩ ∈ gws := gin ms_25 rfl
theorem gs_26 : Jvm.Cond.selects "AnswerPostModel" ⟨"AnswerPostModel", "layCourse", "(IIII)V"⟩ ⟨"AnswerPostModel", "layCourse", "(IIII)V"⟩ ∈ gws := gin ms_26 rfl
theorem gs_27 : Jvm.Cond.selects "AnswerPostModel" ⟨"AnswerPostModel", "layTurn", "(IIIII)V"⟩ ⟨"AnswerPostModel", "layTurn", "(IIIII)V"⟩ ∈ gws := gin ms_27 rfl
theorem gs_28 : Jvm.Cond.selects "AnswerPostModel" ⟨"AnswerPostModel", "layParts", "(III)V"⟩ ⟨"AnswerPostModel", "layParts", "(III)V"⟩ ∈ gws := gin ms_28 rfl
theorem gs_29 : Jvm.Cond.selects "AnswerPostModel" ⟨"AnswerPostModel", "partPays", "(III)I"⟩ ⟨"AnswerPostModel", "partPays", "(III)I"⟩ ∈ gws := gin ms_29 rfl
theorem gs_30 : Jvm.Cond.selects "AnswerPostModel" ⟨"AnswerPostModel", "partOf", "(III)I"⟩ ⟨"AnswerPostModel", "partOf", "(III)I"⟩ ∈ gws := gin ms_30 rfl
theorem gs_31 : Jvm.Cond.selects "AnswerPostModel" ⟨"AnswerPostModel", "lost", "(I)J"⟩ ⟨"AnswerPostModel", "lost", "(I)J"⟩ ∈ gws := gin ms_31 rfl
theorem gs_32 : Jvm.Cond.selects "AnswerPostModel" ⟨"AnswerPostModel", "begins", "(I)V"⟩ ⟨"AnswerPostModel", "begins", "(I)V"⟩ ∈ gws := gin ms_32 rfl
theorem g_0 : (Jvm.Cond.initialized "AnswerPostLaw") ∈ gws := gin m_0 rfl
theorem g_1 : (Jvm.Cond.initialized "AnswerPost") ∈ gws := gin m_1 rfl
theorem g_2 : (Jvm.Cond.initialized "AnswerPost$Row") ∈ gws := gin m_2 rfl
theorem g_3 : (Jvm.Cond.initialized "AnswerPost$Letters") ∈ gws := gin m_3 rfl
theorem g_4 : (Jvm.Cond.initialized "AnswerPost$Settling") ∈ gws := gin m_4 rfl
theorem g_5 : (Jvm.Cond.initialized "AnswerPost$Turns") ∈ gws := gin m_5 rfl
theorem g_6 : (Jvm.Cond.initialized "AnswerPost$Parts") ∈ gws := gin m_6 rfl
theorem g_7 : (Jvm.Cond.initialized "AnswerPost$Trail") ∈ gws := gin m_7 rfl
theorem g_8 : (Jvm.Cond.initialized "AnswerPostModel") ∈ gws := gin m_8 rfl
theorem g_9 : (Jvm.Cond.initialized "AnswerPost$Text") ∈ gws := gin m_9 rfl
theorem g_10 : (Jvm.Cond.initialized "AnswerPost$Writer") ∈ gws := gin m_10 rfl
theorem g_11 : (Jvm.Cond.initialized "AnswerPost$Miser") ∈ gws := gin m_11 rfl
theorem g_12 : (Jvm.Cond.initialized "AnswerPost$Lawyer") ∈ gws := gin m_12 rfl
theorem g_13 : (Jvm.Cond.initialized "java/lang/Math") ∈ gws := gin m_13 rfl
theorem g_14 : (Jvm.Cond.initialized "java/lang/System") ∈ gws := gin m_14 rfl
theorem g_15 : (Jvm.Cond.classLink "AnswerPostLaw" (7 : Nat) "AnswerPost") ∈ gws := gin m_15 rfl
theorem g_16 : (Jvm.Cond.instantiable "AnswerPost" (10 : Nat)) ∈ gws := gin m_16 rfl
theorem g_17 : (Jvm.Cond.methodLink "AnswerPostLaw" (9 : Nat) ({ cls := "AnswerPost", name := "<init>", desc := "()V" } : Jvm.MethodName)) ∈ gws := gin m_17 rfl
theorem g_18 : (Jvm.Cond.instanceMethod ({ cls := "AnswerPost", name := "<init>", desc := "()V" } : Jvm.MethodName)) ∈ gws := gin m_18 rfl
theorem g_19 : (Jvm.Cond.code ({ cls := "AnswerPost", name := "<init>", desc := "()V" } : Jvm.MethodName) prog_1_method_1_code (2 : Nat) (Option.none : Option Jvm.ClassFile.FieldType)) ∈ gws := gin m_19 rfl
theorem g_20 : (Jvm.Cond.methodLink "AnswerPost" (3 : Nat) ({ cls := "java/lang/Object", name := "<init>", desc := "()V" } : Jvm.MethodName)) ∈ gws := gin m_20 rfl
theorem g_21 : (Jvm.Cond.instanceMethod ({ cls := "java/lang/Object", name := "<init>", desc := "()V" } : Jvm.MethodName)) ∈ gws := gin m_21 rfl
theorem g_22 : (Jvm.Cond.code ({ cls := "java/lang/Object", name := "<init>", desc := "()V" } : Jvm.MethodName) object_method_1_code (1 : Nat) (Option.none : Option Jvm.ClassFile.FieldType)) ∈ gws := gin m_22 rfl
theorem g_23 : (Jvm.Cond.classLink "AnswerPost" (11 : Nat) "AnswerPost$Row") ∈ gws := gin m_23 rfl
theorem g_25 : (Jvm.Cond.instantiable "AnswerPost$Row" (3 : Nat)) ∈ gws := gin m_25 rfl
theorem g_27 : (Jvm.Cond.instanceMethod ({ cls := "AnswerPost$Row", name := "<init>", desc := "()V" } : Jvm.MethodName)) ∈ gws := gin m_27 rfl
theorem g_28 : (Jvm.Cond.code ({ cls := "AnswerPost$Row", name := "<init>", desc := "()V" } : Jvm.MethodName) prog_6_method_1_code (1 : Nat) (Option.none : Option Jvm.ClassFile.FieldType)) ∈ gws := gin m_28 rfl
theorem g_29 : (Jvm.Cond.methodLink "AnswerPost$Row" (3 : Nat) ({ cls := "java/lang/Object", name := "<init>", desc := "()V" } : Jvm.MethodName)) ∈ gws := gin m_29 rfl
theorem g_30 : (Jvm.Cond.fieldLink "AnswerPost$Row" (9 : Nat) "AnswerPost$Row" "cells" "[I") ∈ gws := gin m_30 rfl
theorem g_31 : (Jvm.Cond.fieldLink "AnswerPost" (79 : Nat) "AnswerPost$Row" "cells" "[I") ∈ gws := gin m_31 rfl
theorem g_32 : (Jvm.Cond.fieldLink "AnswerPost$Row" (15 : Nat) "AnswerPost$Row" "lane" "I") ∈ gws := gin m_32 rfl
theorem g_33 : (Jvm.Cond.fieldLink "AnswerPost" (224 : Nat) "AnswerPost$Row" "lane" "I") ∈ gws := gin m_33 rfl
theorem g_34 : (Jvm.Cond.fieldLink "AnswerPost$Row" (19 : Nat) "AnswerPost$Row" "size" "I") ∈ gws := gin m_34 rfl
theorem g_35 : (Jvm.Cond.laysFinal "AnswerPost$Row" "AnswerPost$Row" "cells" "[I") ∈ gws := gin m_35 rfl
theorem g_36 : (Jvm.Cond.soleField "AnswerPost$Row" "cells") ∈ gws := gin m_36 rfl
theorem g_37 : (Jvm.Cond.lays "AnswerPost$Row" "AnswerPost$Row" "lane" "I") ∈ gws := gin m_37 rfl
theorem g_38 : (Jvm.Cond.soleField "AnswerPost$Row" "lane") ∈ gws := gin m_38 rfl
theorem g_39 : (Jvm.Cond.lays "AnswerPost$Row" "AnswerPost$Row" "size" "I") ∈ gws := gin m_39 rfl
theorem g_40 : (Jvm.Cond.soleField "AnswerPost$Row" "size") ∈ gws := gin m_40 rfl
theorem g_41 : (Jvm.Cond.superclass "AnswerPost$Row" "java/lang/Object") ∈ gws := gin m_41 rfl
theorem g_42 : (Jvm.Cond.arrayClass Jvm.ClassFile.FieldType.int) ∈ gws := gin m_42 rfl
theorem g_43 : (Jvm.Cond.classLink "AnswerPost" (18 : Nat) "AnswerPost$Writer") ∈ gws := gin m_43 rfl
theorem g_45 : (Jvm.Cond.classLink "AnswerPost" (24 : Nat) "AnswerPost$Letters") ∈ gws := gin m_45 rfl
theorem g_46 : (Jvm.Cond.instantiable "AnswerPost$Letters" (8 : Nat)) ∈ gws := gin m_46 rfl
theorem g_48 : (Jvm.Cond.instanceMethod ({ cls := "AnswerPost$Letters", name := "<init>", desc := "()V" } : Jvm.MethodName)) ∈ gws := gin m_48 rfl
theorem g_49 : (Jvm.Cond.code ({ cls := "AnswerPost$Letters", name := "<init>", desc := "()V" } : Jvm.MethodName) prog_3_method_1_code (1 : Nat) (Option.none : Option Jvm.ClassFile.FieldType)) ∈ gws := gin m_49 rfl
theorem g_50 : (Jvm.Cond.methodLink "AnswerPost$Letters" (3 : Nat) ({ cls := "java/lang/Object", name := "<init>", desc := "()V" } : Jvm.MethodName)) ∈ gws := gin m_50 rfl
theorem g_51 : (Jvm.Cond.fieldLink "AnswerPost$Letters" (9 : Nat) "AnswerPost$Letters" "from" "[I") ∈ gws := gin m_51 rfl
theorem g_52 : (Jvm.Cond.fieldLink "AnswerPost" (137 : Nat) "AnswerPost$Letters" "from" "[I") ∈ gws := gin m_52 rfl
theorem g_53 : (Jvm.Cond.fieldLink "AnswerPost$Letters" (15 : Nat) "AnswerPost$Letters" "to" "[I") ∈ gws := gin m_53 rfl
theorem g_54 : (Jvm.Cond.fieldLink "AnswerPost" (134 : Nat) "AnswerPost$Letters" "to" "[I") ∈ gws := gin m_54 rfl
theorem g_55 : (Jvm.Cond.fieldLink "AnswerPost$Letters" (18 : Nat) "AnswerPost$Letters" "weight" "[I") ∈ gws := gin m_55 rfl
theorem g_56 : (Jvm.Cond.fieldLink "AnswerPost" (144 : Nat) "AnswerPost$Letters" "weight" "[I") ∈ gws := gin m_56 rfl
theorem g_57 : (Jvm.Cond.fieldLink "AnswerPost$Letters" (21 : Nat) "AnswerPost$Letters" "day" "[I") ∈ gws := gin m_57 rfl
theorem g_58 : (Jvm.Cond.fieldLink "AnswerPost" (128 : Nat) "AnswerPost$Letters" "day" "[I") ∈ gws := gin m_58 rfl
theorem g_59 : (Jvm.Cond.fieldLink "AnswerPost$Letters" (24 : Nat) "AnswerPost$Letters" "shown" "[I") ∈ gws := gin m_59 rfl
theorem g_60 : (Jvm.Cond.fieldLink "AnswerPost" (153 : Nat) "AnswerPost$Letters" "shown" "[I") ∈ gws := gin m_60 rfl
theorem g_61 : (Jvm.Cond.fieldLink "AnswerPost$Letters" (27 : Nat) "AnswerPost$Letters" "answer" "[I") ∈ gws := gin m_61 rfl
theorem g_62 : (Jvm.Cond.fieldLink "AnswerPost" (147 : Nat) "AnswerPost$Letters" "answer" "[I") ∈ gws := gin m_62 rfl
theorem g_63 : (Jvm.Cond.fieldLink "AnswerPost$Letters" (30 : Nat) "AnswerPost$Letters" "answered" "[I") ∈ gws := gin m_63 rfl
theorem g_64 : (Jvm.Cond.fieldLink "AnswerPost" (150 : Nat) "AnswerPost$Letters" "answered" "[I") ∈ gws := gin m_64 rfl
theorem g_65 : (Jvm.Cond.fieldLink "AnswerPost$Letters" (33 : Nat) "AnswerPost$Letters" "count" "I") ∈ gws := gin m_65 rfl
theorem g_66 : (Jvm.Cond.fieldLink "AnswerPost" (156 : Nat) "AnswerPost$Letters" "count" "I") ∈ gws := gin m_66 rfl
theorem g_67 : (Jvm.Cond.laysFinal "AnswerPost$Letters" "AnswerPost$Letters" "from" "[I") ∈ gws := gin m_67 rfl
theorem g_68 : (Jvm.Cond.soleField "AnswerPost$Letters" "from") ∈ gws := gin m_68 rfl
theorem g_69 : (Jvm.Cond.laysFinal "AnswerPost$Letters" "AnswerPost$Letters" "to" "[I") ∈ gws := gin m_69 rfl
theorem g_70 : (Jvm.Cond.soleField "AnswerPost$Letters" "to") ∈ gws := gin m_70 rfl
theorem g_71 : (Jvm.Cond.laysFinal "AnswerPost$Letters" "AnswerPost$Letters" "weight" "[I") ∈ gws := gin m_71 rfl
theorem g_72 : (Jvm.Cond.soleField "AnswerPost$Letters" "weight") ∈ gws := gin m_72 rfl
theorem g_73 : (Jvm.Cond.laysFinal "AnswerPost$Letters" "AnswerPost$Letters" "day" "[I") ∈ gws := gin m_73 rfl
theorem g_74 : (Jvm.Cond.soleField "AnswerPost$Letters" "day") ∈ gws := gin m_74 rfl
theorem g_75 : (Jvm.Cond.laysFinal "AnswerPost$Letters" "AnswerPost$Letters" "shown" "[I") ∈ gws := gin m_75 rfl
theorem g_76 : (Jvm.Cond.soleField "AnswerPost$Letters" "shown") ∈ gws := gin m_76 rfl
theorem g_77 : (Jvm.Cond.laysFinal "AnswerPost$Letters" "AnswerPost$Letters" "answer" "[I") ∈ gws := gin m_77 rfl
theorem g_78 : (Jvm.Cond.soleField "AnswerPost$Letters" "answer") ∈ gws := gin m_78 rfl
theorem g_79 : (Jvm.Cond.laysFinal "AnswerPost$Letters" "AnswerPost$Letters" "answered" "[I") ∈ gws := gin m_79 rfl
theorem g_80 : (Jvm.Cond.soleField "AnswerPost$Letters" "answered") ∈ gws := gin m_80 rfl
theorem g_81 : (Jvm.Cond.lays "AnswerPost$Letters" "AnswerPost$Letters" "count" "I") ∈ gws := gin m_81 rfl
theorem g_82 : (Jvm.Cond.soleField "AnswerPost$Letters" "count") ∈ gws := gin m_82 rfl
theorem g_83 : (Jvm.Cond.superclass "AnswerPost$Letters" "java/lang/Object") ∈ gws := gin m_83 rfl
theorem g_84 : (Jvm.Cond.classLink "AnswerPost" (31 : Nat) "AnswerPost$Settling") ∈ gws := gin m_84 rfl
theorem g_85 : (Jvm.Cond.instantiable "AnswerPost$Settling" (4 : Nat)) ∈ gws := gin m_85 rfl
theorem g_87 : (Jvm.Cond.instanceMethod ({ cls := "AnswerPost$Settling", name := "<init>", desc := "()V" } : Jvm.MethodName)) ∈ gws := gin m_87 rfl
theorem g_88 : (Jvm.Cond.code ({ cls := "AnswerPost$Settling", name := "<init>", desc := "()V" } : Jvm.MethodName) prog_7_method_1_code (1 : Nat) (Option.none : Option Jvm.ClassFile.FieldType)) ∈ gws := gin m_88 rfl
theorem g_89 : (Jvm.Cond.methodLink "AnswerPost$Settling" (3 : Nat) ({ cls := "java/lang/Object", name := "<init>", desc := "()V" } : Jvm.MethodName)) ∈ gws := gin m_89 rfl
theorem g_90 : (Jvm.Cond.fieldLink "AnswerPost$Settling" (9 : Nat) "AnswerPost$Settling" "nets" "[I") ∈ gws := gin m_90 rfl
theorem g_91 : (Jvm.Cond.fieldLink "AnswerPost$Settling" (15 : Nat) "AnswerPost$Settling" "sums" "[I") ∈ gws := gin m_91 rfl
theorem g_92 : (Jvm.Cond.fieldLink "AnswerPost$Settling" (18 : Nat) "AnswerPost$Settling" "groups" "[I") ∈ gws := gin m_92 rfl
theorem g_93 : (Jvm.Cond.fieldLink "AnswerPost$Settling" (21 : Nat) "AnswerPost$Settling" "count" "I") ∈ gws := gin m_93 rfl
theorem g_94 : (Jvm.Cond.laysFinal "AnswerPost$Settling" "AnswerPost$Settling" "nets" "[I") ∈ gws := gin m_94 rfl
theorem g_95 : (Jvm.Cond.soleField "AnswerPost$Settling" "nets") ∈ gws := gin m_95 rfl
theorem g_96 : (Jvm.Cond.laysFinal "AnswerPost$Settling" "AnswerPost$Settling" "sums" "[I") ∈ gws := gin m_96 rfl
theorem g_97 : (Jvm.Cond.soleField "AnswerPost$Settling" "sums") ∈ gws := gin m_97 rfl
theorem g_98 : (Jvm.Cond.laysFinal "AnswerPost$Settling" "AnswerPost$Settling" "groups" "[I") ∈ gws := gin m_98 rfl
theorem g_99 : (Jvm.Cond.soleField "AnswerPost$Settling" "groups") ∈ gws := gin m_99 rfl
theorem g_100 : (Jvm.Cond.lays "AnswerPost$Settling" "AnswerPost$Settling" "count" "I") ∈ gws := gin m_100 rfl
theorem g_101 : (Jvm.Cond.soleField "AnswerPost$Settling" "count") ∈ gws := gin m_101 rfl
theorem g_102 : (Jvm.Cond.superclass "AnswerPost$Settling" "java/lang/Object") ∈ gws := gin m_102 rfl
theorem g_103 : (Jvm.Cond.classLink "AnswerPost" (38 : Nat) "AnswerPost$Turns") ∈ gws := gin m_103 rfl
theorem g_104 : (Jvm.Cond.instantiable "AnswerPost$Turns" (11 : Nat)) ∈ gws := gin m_104 rfl
theorem g_106 : (Jvm.Cond.instanceMethod ({ cls := "AnswerPost$Turns", name := "<init>", desc := "()V" } : Jvm.MethodName)) ∈ gws := gin m_106 rfl
theorem g_107 : (Jvm.Cond.code ({ cls := "AnswerPost$Turns", name := "<init>", desc := "()V" } : Jvm.MethodName) prog_10_method_1_code (1 : Nat) (Option.none : Option Jvm.ClassFile.FieldType)) ∈ gws := gin m_107 rfl
theorem g_108 : (Jvm.Cond.methodLink "AnswerPost$Turns" (3 : Nat) ({ cls := "java/lang/Object", name := "<init>", desc := "()V" } : Jvm.MethodName)) ∈ gws := gin m_108 rfl
theorem g_109 : (Jvm.Cond.classLink "AnswerPost$Turns" (9 : Nat) "[[I") ∈ gws := gin m_109 rfl
theorem g_111 : (Jvm.Cond.fieldLink "AnswerPost$Turns" (11 : Nat) "AnswerPost$Turns" "chosen" "[[I") ∈ gws := gin m_111 rfl
theorem g_112 : (Jvm.Cond.fieldLink "AnswerPost$Turns" (16 : Nat) "AnswerPost$Turns" "inTurn" "[[I") ∈ gws := gin m_112 rfl
theorem g_113 : (Jvm.Cond.fieldLink "AnswerPost$Turns" (19 : Nat) "AnswerPost$Turns" "waiting" "[[I") ∈ gws := gin m_113 rfl
theorem g_114 : (Jvm.Cond.fieldLink "AnswerPost$Turns" (22 : Nat) "AnswerPost$Turns" "shown" "[[I") ∈ gws := gin m_114 rfl
theorem g_115 : (Jvm.Cond.fieldLink "AnswerPost$Turns" (25 : Nat) "AnswerPost$Turns" "lift" "[I") ∈ gws := gin m_115 rfl
theorem g_116 : (Jvm.Cond.fieldLink "AnswerPost$Turns" (29 : Nat) "AnswerPost$Turns" "weights" "[I") ∈ gws := gin m_116 rfl
theorem g_117 : (Jvm.Cond.fieldLink "AnswerPost" (193 : Nat) "AnswerPost$Turns" "weights" "[I") ∈ gws := gin m_117 rfl
theorem g_118 : (Jvm.Cond.fieldLink "AnswerPost$Turns" (32 : Nat) "AnswerPost$Turns" "fine" "I") ∈ gws := gin m_118 rfl
theorem g_119 : (Jvm.Cond.fieldLink "AnswerPost$Turns" (36 : Nat) "AnswerPost$Turns" "law" "I") ∈ gws := gin m_119 rfl
theorem g_120 : (Jvm.Cond.fieldLink "AnswerPost$Turns" (75 : Nat) "AnswerPost$Turns" "written" "I") ∈ gws := gin m_120 rfl
theorem g_121 : (Jvm.Cond.fieldLink "AnswerPost" (190 : Nat) "AnswerPost$Turns" "written" "I") ∈ gws := gin m_121 rfl
theorem g_122 : (Jvm.Cond.fieldLink "AnswerPost$Turns" (69 : Nat) "AnswerPost$Turns" "costOfFirst" "I") ∈ gws := gin m_122 rfl
theorem g_123 : (Jvm.Cond.fieldLink "AnswerPost" (196 : Nat) "AnswerPost$Turns" "costOfFirst" "I") ∈ gws := gin m_123 rfl
theorem g_124 : (Jvm.Cond.fieldLink "AnswerPost$Turns" (72 : Nat) "AnswerPost$Turns" "costOfOther" "I") ∈ gws := gin m_124 rfl
theorem g_125 : (Jvm.Cond.fieldLink "AnswerPost" (199 : Nat) "AnswerPost$Turns" "costOfOther" "I") ∈ gws := gin m_125 rfl
theorem g_126 : (Jvm.Cond.laysFinal "AnswerPost$Turns" "AnswerPost$Turns" "chosen" "[[I") ∈ gws := gin m_126 rfl
theorem g_127 : (Jvm.Cond.soleField "AnswerPost$Turns" "chosen") ∈ gws := gin m_127 rfl
theorem g_128 : (Jvm.Cond.laysFinal "AnswerPost$Turns" "AnswerPost$Turns" "inTurn" "[[I") ∈ gws := gin m_128 rfl
theorem g_129 : (Jvm.Cond.soleField "AnswerPost$Turns" "inTurn") ∈ gws := gin m_129 rfl
theorem g_130 : (Jvm.Cond.laysFinal "AnswerPost$Turns" "AnswerPost$Turns" "waiting" "[[I") ∈ gws := gin m_130 rfl
theorem g_131 : (Jvm.Cond.soleField "AnswerPost$Turns" "waiting") ∈ gws := gin m_131 rfl
theorem g_132 : (Jvm.Cond.laysFinal "AnswerPost$Turns" "AnswerPost$Turns" "shown" "[[I") ∈ gws := gin m_132 rfl
theorem g_133 : (Jvm.Cond.soleField "AnswerPost$Turns" "shown") ∈ gws := gin m_133 rfl
theorem g_134 : (Jvm.Cond.laysFinal "AnswerPost$Turns" "AnswerPost$Turns" "lift" "[I") ∈ gws := gin m_134 rfl
theorem g_135 : (Jvm.Cond.soleField "AnswerPost$Turns" "lift") ∈ gws := gin m_135 rfl
theorem g_136 : (Jvm.Cond.laysFinal "AnswerPost$Turns" "AnswerPost$Turns" "weights" "[I") ∈ gws := gin m_136 rfl
theorem g_137 : (Jvm.Cond.soleField "AnswerPost$Turns" "weights") ∈ gws := gin m_137 rfl
theorem g_138 : (Jvm.Cond.lays "AnswerPost$Turns" "AnswerPost$Turns" "fine" "I") ∈ gws := gin m_138 rfl
theorem g_139 : (Jvm.Cond.soleField "AnswerPost$Turns" "fine") ∈ gws := gin m_139 rfl
theorem g_140 : (Jvm.Cond.lays "AnswerPost$Turns" "AnswerPost$Turns" "law" "I") ∈ gws := gin m_140 rfl
theorem g_141 : (Jvm.Cond.soleField "AnswerPost$Turns" "law") ∈ gws := gin m_141 rfl
theorem g_142 : (Jvm.Cond.lays "AnswerPost$Turns" "AnswerPost$Turns" "written" "I") ∈ gws := gin m_142 rfl
theorem g_143 : (Jvm.Cond.soleField "AnswerPost$Turns" "written") ∈ gws := gin m_143 rfl
theorem g_144 : (Jvm.Cond.lays "AnswerPost$Turns" "AnswerPost$Turns" "costOfFirst" "I") ∈ gws := gin m_144 rfl
theorem g_145 : (Jvm.Cond.soleField "AnswerPost$Turns" "costOfFirst") ∈ gws := gin m_145 rfl
theorem g_146 : (Jvm.Cond.lays "AnswerPost$Turns" "AnswerPost$Turns" "costOfOther" "I") ∈ gws := gin m_146 rfl
theorem g_147 : (Jvm.Cond.soleField "AnswerPost$Turns" "costOfOther") ∈ gws := gin m_147 rfl
theorem g_148 : (Jvm.Cond.superclass "AnswerPost$Turns" "java/lang/Object") ∈ gws := gin m_148 rfl
theorem g_149 : (Jvm.Cond.classLink "AnswerPost" (45 : Nat) "AnswerPost$Parts") ∈ gws := gin m_149 rfl
theorem g_150 : (Jvm.Cond.instantiable "AnswerPost$Parts" (5 : Nat)) ∈ gws := gin m_150 rfl
theorem g_152 : (Jvm.Cond.instanceMethod ({ cls := "AnswerPost$Parts", name := "<init>", desc := "()V" } : Jvm.MethodName)) ∈ gws := gin m_152 rfl
theorem g_153 : (Jvm.Cond.code ({ cls := "AnswerPost$Parts", name := "<init>", desc := "()V" } : Jvm.MethodName) prog_5_method_1_code (1 : Nat) (Option.none : Option Jvm.ClassFile.FieldType)) ∈ gws := gin m_153 rfl
theorem g_154 : (Jvm.Cond.methodLink "AnswerPost$Parts" (3 : Nat) ({ cls := "java/lang/Object", name := "<init>", desc := "()V" } : Jvm.MethodName)) ∈ gws := gin m_154 rfl
theorem g_155 : (Jvm.Cond.classLink "AnswerPost$Parts" (9 : Nat) "[[I") ∈ gws := gin m_155 rfl
theorem g_156 : (Jvm.Cond.fieldLink "AnswerPost$Parts" (11 : Nat) "AnswerPost$Parts" "chosen" "[[I") ∈ gws := gin m_156 rfl
theorem g_157 : (Jvm.Cond.fieldLink "AnswerPost$Parts" (16 : Nat) "AnswerPost$Parts" "least" "[[I") ∈ gws := gin m_157 rfl
theorem g_158 : (Jvm.Cond.fieldLink "AnswerPost$Parts" (19 : Nat) "AnswerPost$Parts" "price" "[I") ∈ gws := gin m_158 rfl
theorem g_159 : (Jvm.Cond.fieldLink "AnswerPost$Parts" (23 : Nat) "AnswerPost$Parts" "weights" "[I") ∈ gws := gin m_159 rfl
theorem g_160 : (Jvm.Cond.fieldLink "AnswerPost" (213 : Nat) "AnswerPost$Parts" "weights" "[I") ∈ gws := gin m_160 rfl
theorem g_161 : (Jvm.Cond.fieldLink "AnswerPost$Parts" (40 : Nat) "AnswerPost$Parts" "sum" "I") ∈ gws := gin m_161 rfl
theorem g_162 : (Jvm.Cond.fieldLink "AnswerPost" (210 : Nat) "AnswerPost$Parts" "sum" "I") ∈ gws := gin m_162 rfl
theorem g_163 : (Jvm.Cond.laysFinal "AnswerPost$Parts" "AnswerPost$Parts" "chosen" "[[I") ∈ gws := gin m_163 rfl
theorem g_164 : (Jvm.Cond.soleField "AnswerPost$Parts" "chosen") ∈ gws := gin m_164 rfl
theorem g_165 : (Jvm.Cond.laysFinal "AnswerPost$Parts" "AnswerPost$Parts" "least" "[[I") ∈ gws := gin m_165 rfl
theorem g_166 : (Jvm.Cond.soleField "AnswerPost$Parts" "least") ∈ gws := gin m_166 rfl
theorem g_167 : (Jvm.Cond.laysFinal "AnswerPost$Parts" "AnswerPost$Parts" "price" "[I") ∈ gws := gin m_167 rfl
theorem g_168 : (Jvm.Cond.soleField "AnswerPost$Parts" "price") ∈ gws := gin m_168 rfl
theorem g_169 : (Jvm.Cond.laysFinal "AnswerPost$Parts" "AnswerPost$Parts" "weights" "[I") ∈ gws := gin m_169 rfl
theorem g_170 : (Jvm.Cond.soleField "AnswerPost$Parts" "weights") ∈ gws := gin m_170 rfl
theorem g_171 : (Jvm.Cond.lays "AnswerPost$Parts" "AnswerPost$Parts" "sum" "I") ∈ gws := gin m_171 rfl
theorem g_172 : (Jvm.Cond.soleField "AnswerPost$Parts" "sum") ∈ gws := gin m_172 rfl
theorem g_173 : (Jvm.Cond.superclass "AnswerPost$Parts" "java/lang/Object") ∈ gws := gin m_173 rfl
theorem g_174 : (Jvm.Cond.classLink "AnswerPost" (52 : Nat) "AnswerPost$Trail") ∈ gws := gin m_174 rfl
theorem g_175 : (Jvm.Cond.instantiable "AnswerPost$Trail" (1 : Nat)) ∈ gws := gin m_175 rfl
theorem g_177 : (Jvm.Cond.instanceMethod ({ cls := "AnswerPost$Trail", name := "<init>", desc := "()V" } : Jvm.MethodName)) ∈ gws := gin m_177 rfl
theorem g_178 : (Jvm.Cond.code ({ cls := "AnswerPost$Trail", name := "<init>", desc := "()V" } : Jvm.MethodName) prog_9_method_1_code (1 : Nat) (Option.none : Option Jvm.ClassFile.FieldType)) ∈ gws := gin m_178 rfl
theorem g_179 : (Jvm.Cond.methodLink "AnswerPost$Trail" (1 : Nat) ({ cls := "java/lang/Object", name := "<init>", desc := "()V" } : Jvm.MethodName)) ∈ gws := gin m_179 rfl
theorem g_180 : (Jvm.Cond.fieldLink "AnswerPost$Trail" (7 : Nat) "AnswerPost$Trail" "left" "I") ∈ gws := gin m_180 rfl
theorem g_181 : (Jvm.Cond.fieldLink "AnswerPost" (253 : Nat) "AnswerPost$Trail" "left" "I") ∈ gws := gin m_181 rfl
theorem g_182 : (Jvm.Cond.lays "AnswerPost$Trail" "AnswerPost$Trail" "left" "I") ∈ gws := gin m_182 rfl
theorem g_183 : (Jvm.Cond.soleField "AnswerPost$Trail" "left") ∈ gws := gin m_183 rfl
theorem g_184 : (Jvm.Cond.superclass "AnswerPost$Trail" "java/lang/Object") ∈ gws := gin m_184 rfl
theorem g_185 : (Jvm.Cond.fieldLink "AnswerPost" (13 : Nat) "AnswerPost" "sheets" "[LAnswerPost$Row;") ∈ gws := gin m_185 rfl
theorem g_186 : (Jvm.Cond.fieldLink "AnswerPost" (20 : Nat) "AnswerPost" "persons" "[LAnswerPost$Writer;") ∈ gws := gin m_186 rfl
theorem g_187 : (Jvm.Cond.fieldLink "AnswerPost" (27 : Nat) "AnswerPost" "letters" "LAnswerPost$Letters;") ∈ gws := gin m_187 rfl
theorem g_188 : (Jvm.Cond.fieldLink "AnswerPost" (34 : Nat) "AnswerPost" "settling" "LAnswerPost$Settling;") ∈ gws := gin m_188 rfl
theorem g_189 : (Jvm.Cond.fieldLink "AnswerPost" (41 : Nat) "AnswerPost" "turns" "LAnswerPost$Turns;") ∈ gws := gin m_189 rfl
theorem g_190 : (Jvm.Cond.fieldLink "AnswerPost" (48 : Nat) "AnswerPost" "parts" "LAnswerPost$Parts;") ∈ gws := gin m_190 rfl
theorem g_191 : (Jvm.Cond.fieldLink "AnswerPost" (55 : Nat) "AnswerPost" "trail" "LAnswerPost$Trail;") ∈ gws := gin m_191 rfl
theorem g_192 : (Jvm.Cond.fieldLink "AnswerPost" (93 : Nat) "AnswerPost" "personCount" "I") ∈ gws := gin m_192 rfl
theorem g_193 : (Jvm.Cond.fieldLink "AnswerPost" (110 : Nat) "AnswerPost" "lawNow" "I") ∈ gws := gin m_193 rfl
theorem g_194 : (Jvm.Cond.fieldLink "AnswerPost" (59 : Nat) "AnswerPost" "lastFault" "I") ∈ gws := gin m_194 rfl
theorem g_195 : (Jvm.Cond.laysFinal "AnswerPost" "AnswerPost" "sheets" "[LAnswerPost$Row;") ∈ gws := gin m_195 rfl
theorem g_196 : (Jvm.Cond.soleField "AnswerPost" "sheets") ∈ gws := gin m_196 rfl
theorem g_197 : (Jvm.Cond.laysFinal "AnswerPost" "AnswerPost" "persons" "[LAnswerPost$Writer;") ∈ gws := gin m_197 rfl
theorem g_198 : (Jvm.Cond.soleField "AnswerPost" "persons") ∈ gws := gin m_198 rfl
theorem g_199 : (Jvm.Cond.laysFinal "AnswerPost" "AnswerPost" "letters" "LAnswerPost$Letters;") ∈ gws := gin m_199 rfl
theorem g_200 : (Jvm.Cond.soleField "AnswerPost" "letters") ∈ gws := gin m_200 rfl
theorem g_201 : (Jvm.Cond.laysFinal "AnswerPost" "AnswerPost" "settling" "LAnswerPost$Settling;") ∈ gws := gin m_201 rfl
theorem g_202 : (Jvm.Cond.soleField "AnswerPost" "settling") ∈ gws := gin m_202 rfl
theorem g_203 : (Jvm.Cond.laysFinal "AnswerPost" "AnswerPost" "turns" "LAnswerPost$Turns;") ∈ gws := gin m_203 rfl
theorem g_204 : (Jvm.Cond.soleField "AnswerPost" "turns") ∈ gws := gin m_204 rfl
theorem g_205 : (Jvm.Cond.laysFinal "AnswerPost" "AnswerPost" "parts" "LAnswerPost$Parts;") ∈ gws := gin m_205 rfl
theorem g_206 : (Jvm.Cond.soleField "AnswerPost" "parts") ∈ gws := gin m_206 rfl
theorem g_207 : (Jvm.Cond.laysFinal "AnswerPost" "AnswerPost" "trail" "LAnswerPost$Trail;") ∈ gws := gin m_207 rfl
theorem g_208 : (Jvm.Cond.soleField "AnswerPost" "trail") ∈ gws := gin m_208 rfl
theorem g_209 : (Jvm.Cond.lays "AnswerPost" "AnswerPost" "personCount" "I") ∈ gws := gin m_209 rfl
theorem g_210 : (Jvm.Cond.soleField "AnswerPost" "personCount") ∈ gws := gin m_210 rfl
theorem g_211 : (Jvm.Cond.lays "AnswerPost" "AnswerPost" "lawNow" "I") ∈ gws := gin m_211 rfl
theorem g_212 : (Jvm.Cond.soleField "AnswerPost" "lawNow") ∈ gws := gin m_212 rfl
theorem g_213 : (Jvm.Cond.lays "AnswerPost" "AnswerPost" "lastFault" "I") ∈ gws := gin m_213 rfl
theorem g_214 : (Jvm.Cond.soleField "AnswerPost" "lastFault") ∈ gws := gin m_214 rfl
theorem g_215 : (Jvm.Cond.superclass "AnswerPost" "java/lang/Object") ∈ gws := gin m_215 rfl
theorem g_216 : (Jvm.Cond.methodLink "AnswerPostLaw" (13 : Nat) ({ cls := "AnswerPost", name := "post", desc := "(IIII)I" } : Jvm.MethodName)) ∈ gws := gin m_216 rfl
theorem g_217 : (Jvm.Cond.instanceMethod ({ cls := "AnswerPost", name := "post", desc := "(IIII)I" } : Jvm.MethodName)) ∈ gws := gin m_217 rfl
theorem g_218 : (Jvm.Cond.selects "AnswerPost" ({ cls := "AnswerPost", name := "post", desc := "(IIII)I" } : Jvm.MethodName) ({ cls := "AnswerPost", name := "post", desc := "(IIII)I" } : Jvm.MethodName)) ∈ gws := gin m_218 rfl
theorem g_219 : (Jvm.Cond.code ({ cls := "AnswerPost", name := "post", desc := "(IIII)I" } : Jvm.MethodName) prog_1_method_2_code (8 : Nat) (Option.some Jvm.ClassFile.FieldType.int)) ∈ gws := gin m_219 rfl
theorem g_220 : (Jvm.Cond.methodLink "AnswerPost" (63 : Nat) ({ cls := "AnswerPost", name := "sheetAt", desc := "(I)LAnswerPost$Row;" } : Jvm.MethodName)) ∈ gws := gin m_220 rfl
theorem g_222 : (Jvm.Cond.instanceMethod ({ cls := "AnswerPost", name := "sheetAt", desc := "(I)LAnswerPost$Row;" } : Jvm.MethodName)) ∈ gws := gin m_222 rfl
theorem g_223 : (Jvm.Cond.code ({ cls := "AnswerPost", name := "sheetAt", desc := "(I)LAnswerPost$Row;" } : Jvm.MethodName) prog_1_method_35_code (2 : Nat) (Option.some (Jvm.ClassFile.FieldType.object "AnswerPost$Row"))) ∈ gws := gin m_223 rfl
theorem g_224 : (Jvm.Cond.methodLink "AnswerPost" (67 : Nat) ({ cls := "AnswerPost", name := "isWithin", desc := "(III)Z" } : Jvm.MethodName)) ∈ gws := gin m_224 rfl
theorem g_225 : (Jvm.Cond.static ({ cls := "AnswerPost", name := "isWithin", desc := "(III)Z" } : Jvm.MethodName)) ∈ gws := gin m_225 rfl
theorem g_226 : (Jvm.Cond.code ({ cls := "AnswerPost", name := "isWithin", desc := "(III)Z" } : Jvm.MethodName) prog_1_method_31_code (3 : Nat) (Option.some Jvm.ClassFile.FieldType.boolean)) ∈ gws := gin m_226 rfl
theorem g_227 : (Jvm.Cond.methodLink "AnswerPost" (71 : Nat) ({ cls := "AnswerPost$Row", name := "faultOfCells", desc := "(III)I" } : Jvm.MethodName)) ∈ gws := gin m_227 rfl
theorem g_228 : (Jvm.Cond.instanceMethod ({ cls := "AnswerPost$Row", name := "faultOfCells", desc := "(III)I" } : Jvm.MethodName)) ∈ gws := gin m_228 rfl
theorem g_229 : (Jvm.Cond.selects "AnswerPost$Row" ({ cls := "AnswerPost$Row", name := "faultOfCells", desc := "(III)I" } : Jvm.MethodName) ({ cls := "AnswerPost$Row", name := "faultOfCells", desc := "(III)I" } : Jvm.MethodName)) ∈ gws := gin m_229 rfl
theorem g_230 : (Jvm.Cond.code ({ cls := "AnswerPost$Row", name := "faultOfCells", desc := "(III)I" } : Jvm.MethodName) prog_6_method_7_code (4 : Nat) (Option.some Jvm.ClassFile.FieldType.int)) ∈ gws := gin m_230 rfl
theorem g_231 : (Jvm.Cond.methodLink "AnswerPost$Row" (26 : Nat) ({ cls := "AnswerPost$Row", name := "isNothing", desc := "()Z" } : Jvm.MethodName)) ∈ gws := gin m_231 rfl
theorem g_232 : (Jvm.Cond.instanceMethod ({ cls := "AnswerPost$Row", name := "isNothing", desc := "()Z" } : Jvm.MethodName)) ∈ gws := gin m_232 rfl
theorem g_233 : (Jvm.Cond.selects "AnswerPost$Row" ({ cls := "AnswerPost$Row", name := "isNothing", desc := "()Z" } : Jvm.MethodName) ({ cls := "AnswerPost$Row", name := "isNothing", desc := "()Z" } : Jvm.MethodName)) ∈ gws := gin m_233 rfl
theorem g_234 : (Jvm.Cond.code ({ cls := "AnswerPost$Row", name := "isNothing", desc := "()Z" } : Jvm.MethodName) prog_6_method_2_code (1 : Nat) (Option.some Jvm.ClassFile.FieldType.boolean)) ∈ gws := gin m_234 rfl
theorem g_235 : (Jvm.Cond.methodLink "AnswerPost$Row" (30 : Nat) ({ cls := "AnswerPost$Row", name := "hasCells", desc := "(II)Z" } : Jvm.MethodName)) ∈ gws := gin m_235 rfl
theorem g_236 : (Jvm.Cond.instanceMethod ({ cls := "AnswerPost$Row", name := "hasCells", desc := "(II)Z" } : Jvm.MethodName)) ∈ gws := gin m_236 rfl
theorem g_237 : (Jvm.Cond.selects "AnswerPost$Row" ({ cls := "AnswerPost$Row", name := "hasCells", desc := "(II)Z" } : Jvm.MethodName) ({ cls := "AnswerPost$Row", name := "hasCells", desc := "(II)Z" } : Jvm.MethodName)) ∈ gws := gin m_237 rfl
theorem g_238 : (Jvm.Cond.code ({ cls := "AnswerPost$Row", name := "hasCells", desc := "(II)Z" } : Jvm.MethodName) prog_6_method_5_code (3 : Nat) (Option.some Jvm.ClassFile.FieldType.boolean)) ∈ gws := gin m_238 rfl
theorem g_239 : (Jvm.Cond.methodLink "AnswerPost" (75 : Nat) ({ cls := "AnswerPost", name := "faulted", desc := "(I)I" } : Jvm.MethodName)) ∈ gws := gin m_239 rfl
theorem g_241 : (Jvm.Cond.instanceMethod ({ cls := "AnswerPost", name := "faulted", desc := "(I)I" } : Jvm.MethodName)) ∈ gws := gin m_241 rfl
theorem g_242 : (Jvm.Cond.code ({ cls := "AnswerPost", name := "faulted", desc := "(I)I" } : Jvm.MethodName) prog_1_method_36_code (2 : Nat) (Option.some Jvm.ClassFile.FieldType.int)) ∈ gws := gin m_242 rfl
theorem g_243 : (Jvm.Cond.methodLink "AnswerPost" (83 : Nat) ({ cls := "AnswerPost$Text", name := "firstFault", desc := "([III)I" } : Jvm.MethodName)) ∈ gws := gin m_243 rfl
theorem g_244 : (Jvm.Cond.static ({ cls := "AnswerPost$Text", name := "firstFault", desc := "([III)I" } : Jvm.MethodName)) ∈ gws := gin m_244 rfl
theorem g_245 : (Jvm.Cond.code ({ cls := "AnswerPost$Text", name := "firstFault", desc := "([III)I" } : Jvm.MethodName) prog_8_method_2_code (4 : Nat) (Option.some Jvm.ClassFile.FieldType.int)) ∈ gws := gin m_245 rfl
theorem g_246 : (Jvm.Cond.methodLink "AnswerPost$Text" (9 : Nat) ({ cls := "AnswerPost$Text", name := "goesOn", desc := "([III)Z" } : Jvm.MethodName)) ∈ gws := gin m_246 rfl
theorem g_247 : (Jvm.Cond.static ({ cls := "AnswerPost$Text", name := "goesOn", desc := "([III)Z" } : Jvm.MethodName)) ∈ gws := gin m_247 rfl
theorem g_248 : (Jvm.Cond.code ({ cls := "AnswerPost$Text", name := "goesOn", desc := "([III)Z" } : Jvm.MethodName) prog_8_method_6_code (4 : Nat) (Option.some Jvm.ClassFile.FieldType.boolean)) ∈ gws := gin m_248 rfl
theorem g_249 : (Jvm.Cond.methodLink "AnswerPost$Text" (15 : Nat) ({ cls := "AnswerPost$Text", name := "personsOf", desc := "(I)I" } : Jvm.MethodName)) ∈ gws := gin m_249 rfl
theorem g_250 : (Jvm.Cond.static ({ cls := "AnswerPost$Text", name := "personsOf", desc := "(I)I" } : Jvm.MethodName)) ∈ gws := gin m_250 rfl
theorem g_251 : (Jvm.Cond.code ({ cls := "AnswerPost$Text", name := "personsOf", desc := "(I)I" } : Jvm.MethodName) prog_8_method_3_code (1 : Nat) (Option.some Jvm.ClassFile.FieldType.int)) ∈ gws := gin m_251 rfl
theorem g_252 : (Jvm.Cond.methodLink "AnswerPost$Text" (22 : Nat) ({ cls := "AnswerPost$Text", name := "isSecondDigit", desc := "(II)Z" } : Jvm.MethodName)) ∈ gws := gin m_252 rfl
theorem g_253 : (Jvm.Cond.static ({ cls := "AnswerPost$Text", name := "isSecondDigit", desc := "(II)Z" } : Jvm.MethodName)) ∈ gws := gin m_253 rfl
theorem g_254 : (Jvm.Cond.code ({ cls := "AnswerPost$Text", name := "isSecondDigit", desc := "(II)Z" } : Jvm.MethodName) prog_8_method_7_code (2 : Nat) (Option.some Jvm.ClassFile.FieldType.boolean)) ∈ gws := gin m_254 rfl
theorem g_255 : (Jvm.Cond.methodLink "AnswerPost$Text" (19 : Nat) ({ cls := "AnswerPost$Text", name := "letterOf", desc := "(I)I" } : Jvm.MethodName)) ∈ gws := gin m_255 rfl
theorem g_256 : (Jvm.Cond.static ({ cls := "AnswerPost$Text", name := "letterOf", desc := "(I)I" } : Jvm.MethodName)) ∈ gws := gin m_256 rfl
theorem g_257 : (Jvm.Cond.code ({ cls := "AnswerPost$Text", name := "letterOf", desc := "(I)I" } : Jvm.MethodName) prog_8_method_4_code (1 : Nat) (Option.some Jvm.ClassFile.FieldType.int)) ∈ gws := gin m_257 rfl
theorem g_258 : (Jvm.Cond.methodLink "AnswerPost" (89 : Nat) ({ cls := "AnswerPost", name := "settle", desc := "([III)V" } : Jvm.MethodName)) ∈ gws := gin m_258 rfl
theorem g_260 : (Jvm.Cond.instanceMethod ({ cls := "AnswerPost", name := "settle", desc := "([III)V" } : Jvm.MethodName)) ∈ gws := gin m_260 rfl
theorem g_261 : (Jvm.Cond.code ({ cls := "AnswerPost", name := "settle", desc := "([III)V" } : Jvm.MethodName) prog_1_method_37_code (6 : Nat) (Option.none : Option Jvm.ClassFile.FieldType)) ∈ gws := gin m_261 rfl
theorem g_262 : (Jvm.Cond.methodLink "AnswerPost" (260 : Nat) ({ cls := "AnswerPost$Text", name := "personsOf", desc := "(I)I" } : Jvm.MethodName)) ∈ gws := gin m_262 rfl
theorem g_263 : (Jvm.Cond.methodLink "AnswerPost" (263 : Nat) ({ cls := "AnswerPost$Text", name := "letterOf", desc := "(I)I" } : Jvm.MethodName)) ∈ gws := gin m_263 rfl
theorem g_264 : (Jvm.Cond.methodLink "AnswerPost" (266 : Nat) ({ cls := "AnswerPost$Text", name := "liftAt", desc := "([II)I" } : Jvm.MethodName)) ∈ gws := gin m_264 rfl
theorem g_265 : (Jvm.Cond.static ({ cls := "AnswerPost$Text", name := "liftAt", desc := "([II)I" } : Jvm.MethodName)) ∈ gws := gin m_265 rfl
theorem g_266 : (Jvm.Cond.code ({ cls := "AnswerPost$Text", name := "liftAt", desc := "([II)I" } : Jvm.MethodName) prog_8_method_5_code (2 : Nat) (Option.some Jvm.ClassFile.FieldType.int)) ∈ gws := gin m_266 rfl
theorem g_267 : (Jvm.Cond.methodLink "AnswerPost" (270 : Nat) ({ cls := "AnswerPost", name := "newPerson", desc := "(III)LAnswerPost$Writer;" } : Jvm.MethodName)) ∈ gws := gin m_267 rfl
theorem g_268 : (Jvm.Cond.static ({ cls := "AnswerPost", name := "newPerson", desc := "(III)LAnswerPost$Writer;" } : Jvm.MethodName)) ∈ gws := gin m_268 rfl
theorem g_269 : (Jvm.Cond.code ({ cls := "AnswerPost", name := "newPerson", desc := "(III)LAnswerPost$Writer;" } : Jvm.MethodName) prog_1_method_38_code (3 : Nat) (Option.some (Jvm.ClassFile.FieldType.object "AnswerPost$Writer"))) ∈ gws := gin m_269 rfl
theorem g_270 : (Jvm.Cond.classLink "AnswerPost" (256 : Nat) "AnswerPost$Miser") ∈ gws := gin m_270 rfl
theorem g_271 : (Jvm.Cond.instantiable "AnswerPost$Miser" (2 : Nat)) ∈ gws := gin m_271 rfl
theorem g_272 : (Jvm.Cond.methodLink "AnswerPost" (274 : Nat) ({ cls := "AnswerPost$Miser", name := "<init>", desc := "(II)V" } : Jvm.MethodName)) ∈ gws := gin m_272 rfl
theorem g_273 : (Jvm.Cond.instanceMethod ({ cls := "AnswerPost$Miser", name := "<init>", desc := "(II)V" } : Jvm.MethodName)) ∈ gws := gin m_273 rfl
theorem g_274 : (Jvm.Cond.code ({ cls := "AnswerPost$Miser", name := "<init>", desc := "(II)V" } : Jvm.MethodName) prog_4_method_1_code (3 : Nat) (Option.none : Option Jvm.ClassFile.FieldType)) ∈ gws := gin m_274 rfl
theorem g_275 : (Jvm.Cond.methodLink "AnswerPost$Miser" (3 : Nat) ({ cls := "AnswerPost$Writer", name := "<init>", desc := "(II)V" } : Jvm.MethodName)) ∈ gws := gin m_275 rfl
theorem g_276 : (Jvm.Cond.instanceMethod ({ cls := "AnswerPost$Writer", name := "<init>", desc := "(II)V" } : Jvm.MethodName)) ∈ gws := gin m_276 rfl
theorem g_277 : (Jvm.Cond.code ({ cls := "AnswerPost$Writer", name := "<init>", desc := "(II)V" } : Jvm.MethodName) prog_11_method_1_code (3 : Nat) (Option.none : Option Jvm.ClassFile.FieldType)) ∈ gws := gin m_277 rfl
theorem g_278 : (Jvm.Cond.methodLink "AnswerPost$Writer" (3 : Nat) ({ cls := "java/lang/Object", name := "<init>", desc := "()V" } : Jvm.MethodName)) ∈ gws := gin m_278 rfl
theorem g_279 : (Jvm.Cond.fieldLink "AnswerPost$Writer" (9 : Nat) "AnswerPost$Writer" "number" "I") ∈ gws := gin m_279 rfl
theorem g_280 : (Jvm.Cond.fieldLink "AnswerPost$Letters" (41 : Nat) "AnswerPost$Writer" "number" "I") ∈ gws := gin m_280 rfl
theorem g_281 : (Jvm.Cond.fieldLink "AnswerPost$Writer" (15 : Nat) "AnswerPost$Writer" "lift" "I") ∈ gws := gin m_281 rfl
theorem g_282 : (Jvm.Cond.fieldLink "AnswerPost$Turns" (51 : Nat) "AnswerPost$Writer" "lift" "I") ∈ gws := gin m_282 rfl
theorem g_283 : (Jvm.Cond.fieldLink "AnswerPost" (104 : Nat) "AnswerPost$Writer" "lift" "I") ∈ gws := gin m_283 rfl
theorem g_284 : (Jvm.Cond.laysFinal "AnswerPost$Miser" "AnswerPost$Writer" "number" "I") ∈ gws := gin m_284 rfl
theorem g_285 : (Jvm.Cond.soleField "AnswerPost$Writer" "number") ∈ gws := gin m_285 rfl
theorem g_286 : (Jvm.Cond.laysFinal "AnswerPost$Miser" "AnswerPost$Writer" "lift" "I") ∈ gws := gin m_286 rfl
theorem g_287 : (Jvm.Cond.soleField "AnswerPost$Writer" "lift") ∈ gws := gin m_287 rfl
theorem g_288 : (Jvm.Cond.superclass "AnswerPost$Miser" "AnswerPost$Writer") ∈ gws := gin m_288 rfl
theorem g_289 : (Jvm.Cond.classLink "AnswerPost" (258 : Nat) "AnswerPost$Lawyer") ∈ gws := gin m_289 rfl
theorem g_290 : (Jvm.Cond.instantiable "AnswerPost$Lawyer" (2 : Nat)) ∈ gws := gin m_290 rfl
theorem g_291 : (Jvm.Cond.methodLink "AnswerPost" (276 : Nat) ({ cls := "AnswerPost$Lawyer", name := "<init>", desc := "(II)V" } : Jvm.MethodName)) ∈ gws := gin m_291 rfl
theorem g_292 : (Jvm.Cond.instanceMethod ({ cls := "AnswerPost$Lawyer", name := "<init>", desc := "(II)V" } : Jvm.MethodName)) ∈ gws := gin m_292 rfl
theorem g_293 : (Jvm.Cond.code ({ cls := "AnswerPost$Lawyer", name := "<init>", desc := "(II)V" } : Jvm.MethodName) prog_2_method_1_code (3 : Nat) (Option.none : Option Jvm.ClassFile.FieldType)) ∈ gws := gin m_293 rfl
theorem g_294 : (Jvm.Cond.methodLink "AnswerPost$Lawyer" (3 : Nat) ({ cls := "AnswerPost$Miser", name := "<init>", desc := "(II)V" } : Jvm.MethodName)) ∈ gws := gin m_294 rfl
theorem g_295 : (Jvm.Cond.laysFinal "AnswerPost$Lawyer" "AnswerPost$Writer" "number" "I") ∈ gws := gin m_295 rfl
theorem g_296 : (Jvm.Cond.laysFinal "AnswerPost$Lawyer" "AnswerPost$Writer" "lift" "I") ∈ gws := gin m_296 rfl
theorem g_297 : (Jvm.Cond.superclass "AnswerPost$Lawyer" "AnswerPost$Miser") ∈ gws := gin m_297 rfl
theorem g_298 : (Jvm.Cond.instantiable "AnswerPost$Writer" (2 : Nat)) ∈ gws := gin m_298 rfl
theorem g_299 : (Jvm.Cond.methodLink "AnswerPost" (277 : Nat) ({ cls := "AnswerPost$Writer", name := "<init>", desc := "(II)V" } : Jvm.MethodName)) ∈ gws := gin m_299 rfl
theorem g_300 : (Jvm.Cond.laysFinal "AnswerPost$Writer" "AnswerPost$Writer" "number" "I") ∈ gws := gin m_300 rfl
theorem g_301 : (Jvm.Cond.laysFinal "AnswerPost$Writer" "AnswerPost$Writer" "lift" "I") ∈ gws := gin m_301 rfl
theorem g_302 : (Jvm.Cond.superclass "AnswerPost$Writer" "java/lang/Object") ∈ gws := gin m_302 rfl
theorem g_303 : (Jvm.Cond.methodLink "AnswerPost" (159 : Nat) ({ cls := "AnswerPost$Letters", name := "burnLast", desc := "(I)V" } : Jvm.MethodName)) ∈ gws := gin m_303 rfl
theorem g_304 : (Jvm.Cond.instanceMethod ({ cls := "AnswerPost$Letters", name := "burnLast", desc := "(I)V" } : Jvm.MethodName)) ∈ gws := gin m_304 rfl
theorem g_305 : (Jvm.Cond.selects "AnswerPost$Letters" ({ cls := "AnswerPost$Letters", name := "burnLast", desc := "(I)V" } : Jvm.MethodName) ({ cls := "AnswerPost$Letters", name := "burnLast", desc := "(I)V" } : Jvm.MethodName)) ∈ gws := gin m_305 rfl
theorem g_306 : (Jvm.Cond.code ({ cls := "AnswerPost$Letters", name := "burnLast", desc := "(I)V" } : Jvm.MethodName) prog_3_method_7_code (3 : Nat) (Option.none : Option Jvm.ClassFile.FieldType)) ∈ gws := gin m_306 rfl
theorem g_307 : (Jvm.Cond.methodLink "AnswerPost$Letters" (37 : Nat) ({ cls := "AnswerPost$Letters", name := "has", desc := "(I)Z" } : Jvm.MethodName)) ∈ gws := gin m_307 rfl
theorem g_308 : (Jvm.Cond.instanceMethod ({ cls := "AnswerPost$Letters", name := "has", desc := "(I)Z" } : Jvm.MethodName)) ∈ gws := gin m_308 rfl
theorem g_309 : (Jvm.Cond.selects "AnswerPost$Letters" ({ cls := "AnswerPost$Letters", name := "has", desc := "(I)Z" } : Jvm.MethodName) ({ cls := "AnswerPost$Letters", name := "has", desc := "(I)Z" } : Jvm.MethodName)) ∈ gws := gin m_309 rfl
theorem g_310 : (Jvm.Cond.code ({ cls := "AnswerPost$Letters", name := "has", desc := "(I)Z" } : Jvm.MethodName) prog_3_method_2_code (2 : Nat) (Option.some Jvm.ClassFile.FieldType.boolean)) ∈ gws := gin m_310 rfl
theorem g_311 : (Jvm.Cond.methodLink "AnswerPostLaw" (18 : Nat) ({ cls := "AnswerPost", name := "ofPerson", desc := "(II)I" } : Jvm.MethodName)) ∈ gws := gin m_311 rfl
theorem g_312 : (Jvm.Cond.instanceMethod ({ cls := "AnswerPost", name := "ofPerson", desc := "(II)I" } : Jvm.MethodName)) ∈ gws := gin m_312 rfl
theorem g_313 : (Jvm.Cond.selects "AnswerPost" ({ cls := "AnswerPost", name := "ofPerson", desc := "(II)I" } : Jvm.MethodName) ({ cls := "AnswerPost", name := "ofPerson", desc := "(II)I" } : Jvm.MethodName)) ∈ gws := gin m_313 rfl
theorem g_314 : (Jvm.Cond.code ({ cls := "AnswerPost", name := "ofPerson", desc := "(II)I" } : Jvm.MethodName) prog_1_method_3_code (4 : Nat) (Option.some Jvm.ClassFile.FieldType.int)) ∈ gws := gin m_314 rfl
theorem g_315 : (Jvm.Cond.methodLink "AnswerPost" (96 : Nat) ({ cls := "AnswerPost", name := "personAt", desc := "(I)LAnswerPost$Writer;" } : Jvm.MethodName)) ∈ gws := gin m_315 rfl
theorem g_317 : (Jvm.Cond.instanceMethod ({ cls := "AnswerPost", name := "personAt", desc := "(I)LAnswerPost$Writer;" } : Jvm.MethodName)) ∈ gws := gin m_317 rfl
theorem g_318 : (Jvm.Cond.code ({ cls := "AnswerPost", name := "personAt", desc := "(I)LAnswerPost$Writer;" } : Jvm.MethodName) prog_1_method_34_code (2 : Nat) (Option.some (Jvm.ClassFile.FieldType.object "AnswerPost$Writer"))) ∈ gws := gin m_318 rfl
theorem g_319 : (Jvm.Cond.methodLink "AnswerPost" (100 : Nat) ({ cls := "AnswerPost$Writer", name := "kind", desc := "()I" } : Jvm.MethodName)) ∈ gws := gin m_319 rfl
theorem g_320 : (Jvm.Cond.instanceMethod ({ cls := "AnswerPost$Writer", name := "kind", desc := "()I" } : Jvm.MethodName)) ∈ gws := gin m_320 rfl
theorem g_321 : (Jvm.Cond.selects "AnswerPost$Writer" ({ cls := "AnswerPost$Writer", name := "kind", desc := "()I" } : Jvm.MethodName) ({ cls := "AnswerPost$Writer", name := "kind", desc := "()I" } : Jvm.MethodName)) ∈ gws := gin m_321 rfl
theorem g_322 : (Jvm.Cond.sameMethod "AnswerPost$Writer" "AnswerPost$Writer" "kind" "()I") ∈ gws := gin m_322 rfl
theorem g_323 : (Jvm.Cond.selects "AnswerPost$Lawyer" ({ cls := "AnswerPost$Writer", name := "kind", desc := "()I" } : Jvm.MethodName) ({ cls := "AnswerPost$Lawyer", name := "kind", desc := "()I" } : Jvm.MethodName)) ∈ gws := gin m_323 rfl
theorem g_324 : (Jvm.Cond.instanceMethod ({ cls := "AnswerPost$Lawyer", name := "kind", desc := "()I" } : Jvm.MethodName)) ∈ gws := gin m_324 rfl
theorem g_325 : (Jvm.Cond.code ({ cls := "AnswerPost$Lawyer", name := "kind", desc := "()I" } : Jvm.MethodName) prog_2_method_2_code (1 : Nat) (Option.some Jvm.ClassFile.FieldType.int)) ∈ gws := gin m_325 rfl
theorem g_326 : (Jvm.Cond.selects "AnswerPost$Miser" ({ cls := "AnswerPost$Writer", name := "kind", desc := "()I" } : Jvm.MethodName) ({ cls := "AnswerPost$Miser", name := "kind", desc := "()I" } : Jvm.MethodName)) ∈ gws := gin m_326 rfl
theorem g_327 : (Jvm.Cond.instanceMethod ({ cls := "AnswerPost$Miser", name := "kind", desc := "()I" } : Jvm.MethodName)) ∈ gws := gin m_327 rfl
theorem g_328 : (Jvm.Cond.code ({ cls := "AnswerPost$Miser", name := "kind", desc := "()I" } : Jvm.MethodName) prog_4_method_2_code (1 : Nat) (Option.some Jvm.ClassFile.FieldType.int)) ∈ gws := gin m_328 rfl
theorem g_329 : (Jvm.Cond.code ({ cls := "AnswerPost$Writer", name := "kind", desc := "()I" } : Jvm.MethodName) prog_11_method_2_code (1 : Nat) (Option.some Jvm.ClassFile.FieldType.int)) ∈ gws := gin m_329 rfl
theorem g_330 : (Jvm.Cond.methodLink "AnswerPostLaw" (23 : Nat) ({ cls := "AnswerPost", name := "scale", desc := "(II)I" } : Jvm.MethodName)) ∈ gws := gin m_330 rfl
theorem g_331 : (Jvm.Cond.instanceMethod ({ cls := "AnswerPost", name := "scale", desc := "(II)I" } : Jvm.MethodName)) ∈ gws := gin m_331 rfl
theorem g_332 : (Jvm.Cond.selects "AnswerPost" ({ cls := "AnswerPost", name := "scale", desc := "(II)I" } : Jvm.MethodName) ({ cls := "AnswerPost", name := "scale", desc := "(II)I" } : Jvm.MethodName)) ∈ gws := gin m_332 rfl
theorem g_333 : (Jvm.Cond.code ({ cls := "AnswerPost", name := "scale", desc := "(II)I" } : Jvm.MethodName) prog_1_method_4_code (4 : Nat) (Option.some Jvm.ClassFile.FieldType.int)) ∈ gws := gin m_333 rfl
theorem g_334 : (Jvm.Cond.methodLink "AnswerPost" (107 : Nat) ({ cls := "AnswerPost$Writer", name := "shows", desc := "(I)I" } : Jvm.MethodName)) ∈ gws := gin m_334 rfl
theorem g_335 : (Jvm.Cond.instanceMethod ({ cls := "AnswerPost$Writer", name := "shows", desc := "(I)I" } : Jvm.MethodName)) ∈ gws := gin m_335 rfl
theorem g_336 : (Jvm.Cond.selects "AnswerPost$Writer" ({ cls := "AnswerPost$Writer", name := "shows", desc := "(I)I" } : Jvm.MethodName) ({ cls := "AnswerPost$Writer", name := "shows", desc := "(I)I" } : Jvm.MethodName)) ∈ gws := gin m_336 rfl
theorem g_337 : (Jvm.Cond.sameMethod "AnswerPost$Writer" "AnswerPost$Writer" "shows" "(I)I") ∈ gws := gin m_337 rfl
theorem g_338 : (Jvm.Cond.selects "AnswerPost$Lawyer" ({ cls := "AnswerPost$Writer", name := "shows", desc := "(I)I" } : Jvm.MethodName) ({ cls := "AnswerPost$Lawyer", name := "shows", desc := "(I)I" } : Jvm.MethodName)) ∈ gws := gin m_338 rfl
theorem g_339 : (Jvm.Cond.instanceMethod ({ cls := "AnswerPost$Lawyer", name := "shows", desc := "(I)I" } : Jvm.MethodName)) ∈ gws := gin m_339 rfl
theorem g_340 : (Jvm.Cond.code ({ cls := "AnswerPost$Lawyer", name := "shows", desc := "(I)I" } : Jvm.MethodName) prog_2_method_3_code (2 : Nat) (Option.some Jvm.ClassFile.FieldType.int)) ∈ gws := gin m_340 rfl
theorem g_341 : (Jvm.Cond.methodLink "AnswerPost$Lawyer" (9 : Nat) ({ cls := "AnswerPost$Miser", name := "shows", desc := "(I)I" } : Jvm.MethodName)) ∈ gws := gin m_341 rfl
theorem g_342 : (Jvm.Cond.instanceMethod ({ cls := "AnswerPost$Miser", name := "shows", desc := "(I)I" } : Jvm.MethodName)) ∈ gws := gin m_342 rfl
theorem g_343 : (Jvm.Cond.code ({ cls := "AnswerPost$Miser", name := "shows", desc := "(I)I" } : Jvm.MethodName) prog_4_method_3_code (2 : Nat) (Option.some Jvm.ClassFile.FieldType.int)) ∈ gws := gin m_343 rfl
theorem g_344 : (Jvm.Cond.selects "AnswerPost$Miser" ({ cls := "AnswerPost$Writer", name := "shows", desc := "(I)I" } : Jvm.MethodName) ({ cls := "AnswerPost$Miser", name := "shows", desc := "(I)I" } : Jvm.MethodName)) ∈ gws := gin m_344 rfl
theorem g_345 : (Jvm.Cond.code ({ cls := "AnswerPost$Writer", name := "shows", desc := "(I)I" } : Jvm.MethodName) prog_11_method_3_code (2 : Nat) (Option.some Jvm.ClassFile.FieldType.int)) ∈ gws := gin m_345 rfl
theorem g_346 : (Jvm.Cond.methodLink "AnswerPostLaw" (27 : Nat) ({ cls := "AnswerPost", name := "law", desc := "(I)I" } : Jvm.MethodName)) ∈ gws := gin m_346 rfl
theorem g_347 : (Jvm.Cond.instanceMethod ({ cls := "AnswerPost", name := "law", desc := "(I)I" } : Jvm.MethodName)) ∈ gws := gin m_347 rfl
theorem g_348 : (Jvm.Cond.selects "AnswerPost" ({ cls := "AnswerPost", name := "law", desc := "(I)I" } : Jvm.MethodName) ({ cls := "AnswerPost", name := "law", desc := "(I)I" } : Jvm.MethodName)) ∈ gws := gin m_348 rfl
theorem g_349 : (Jvm.Cond.code ({ cls := "AnswerPost", name := "law", desc := "(I)I" } : Jvm.MethodName) prog_1_method_5_code (3 : Nat) (Option.some Jvm.ClassFile.FieldType.int)) ∈ gws := gin m_349 rfl
theorem g_350 : (Jvm.Cond.methodLink "AnswerPostLaw" (32 : Nat) ({ cls := "AnswerPost", name := "send", desc := "(IIII)I" } : Jvm.MethodName)) ∈ gws := gin m_350 rfl
theorem g_351 : (Jvm.Cond.instanceMethod ({ cls := "AnswerPost", name := "send", desc := "(IIII)I" } : Jvm.MethodName)) ∈ gws := gin m_351 rfl
theorem g_352 : (Jvm.Cond.selects "AnswerPost" ({ cls := "AnswerPost", name := "send", desc := "(IIII)I" } : Jvm.MethodName) ({ cls := "AnswerPost", name := "send", desc := "(IIII)I" } : Jvm.MethodName)) ∈ gws := gin m_352 rfl
theorem g_353 : (Jvm.Cond.code ({ cls := "AnswerPost", name := "send", desc := "(IIII)I" } : Jvm.MethodName) prog_1_method_6_code (6 : Nat) (Option.some Jvm.ClassFile.FieldType.int)) ∈ gws := gin m_353 rfl
theorem g_354 : (Jvm.Cond.methodLink "AnswerPost" (113 : Nat) ({ cls := "AnswerPost", name := "isDay", desc := "(I)Z" } : Jvm.MethodName)) ∈ gws := gin m_354 rfl
theorem g_355 : (Jvm.Cond.static ({ cls := "AnswerPost", name := "isDay", desc := "(I)Z" } : Jvm.MethodName)) ∈ gws := gin m_355 rfl
theorem g_356 : (Jvm.Cond.code ({ cls := "AnswerPost", name := "isDay", desc := "(I)Z" } : Jvm.MethodName) prog_1_method_32_code (1 : Nat) (Option.some Jvm.ClassFile.FieldType.boolean)) ∈ gws := gin m_356 rfl
theorem g_357 : (Jvm.Cond.methodLink "AnswerPost" (117 : Nat) ({ cls := "AnswerPost$Letters", name := "isFull", desc := "()Z" } : Jvm.MethodName)) ∈ gws := gin m_357 rfl
theorem g_358 : (Jvm.Cond.instanceMethod ({ cls := "AnswerPost$Letters", name := "isFull", desc := "()Z" } : Jvm.MethodName)) ∈ gws := gin m_358 rfl
theorem g_359 : (Jvm.Cond.selects "AnswerPost$Letters" ({ cls := "AnswerPost$Letters", name := "isFull", desc := "()Z" } : Jvm.MethodName) ({ cls := "AnswerPost$Letters", name := "isFull", desc := "()Z" } : Jvm.MethodName)) ∈ gws := gin m_359 rfl
theorem g_360 : (Jvm.Cond.code ({ cls := "AnswerPost$Letters", name := "isFull", desc := "()Z" } : Jvm.MethodName) prog_3_method_3_code (1 : Nat) (Option.some Jvm.ClassFile.FieldType.boolean)) ∈ gws := gin m_360 rfl
theorem g_361 : (Jvm.Cond.methodLink "AnswerPost" (121 : Nat) ({ cls := "AnswerPost$Letters", name := "write", desc := "(LAnswerPost$Writer;III)I" } : Jvm.MethodName)) ∈ gws := gin m_361 rfl
theorem g_362 : (Jvm.Cond.instanceMethod ({ cls := "AnswerPost$Letters", name := "write", desc := "(LAnswerPost$Writer;III)I" } : Jvm.MethodName)) ∈ gws := gin m_362 rfl
theorem g_363 : (Jvm.Cond.selects "AnswerPost$Letters" ({ cls := "AnswerPost$Letters", name := "write", desc := "(LAnswerPost$Writer;III)I" } : Jvm.MethodName) ({ cls := "AnswerPost$Letters", name := "write", desc := "(LAnswerPost$Writer;III)I" } : Jvm.MethodName)) ∈ gws := gin m_363 rfl
theorem g_364 : (Jvm.Cond.code ({ cls := "AnswerPost$Letters", name := "write", desc := "(LAnswerPost$Writer;III)I" } : Jvm.MethodName) prog_3_method_5_code (6 : Nat) (Option.some Jvm.ClassFile.FieldType.int)) ∈ gws := gin m_364 rfl
theorem g_365 : (Jvm.Cond.methodLink "AnswerPost$Letters" (46 : Nat) ({ cls := "AnswerPost$Writer", name := "shows", desc := "(I)I" } : Jvm.MethodName)) ∈ gws := gin m_365 rfl
theorem g_366 : (Jvm.Cond.methodLink "AnswerPostLaw" (36 : Nat) ({ cls := "AnswerPost", name := "answer", desc := "(III)I" } : Jvm.MethodName)) ∈ gws := gin m_366 rfl
theorem g_367 : (Jvm.Cond.instanceMethod ({ cls := "AnswerPost", name := "answer", desc := "(III)I" } : Jvm.MethodName)) ∈ gws := gin m_367 rfl
theorem g_368 : (Jvm.Cond.selects "AnswerPost" ({ cls := "AnswerPost", name := "answer", desc := "(III)I" } : Jvm.MethodName) ({ cls := "AnswerPost", name := "answer", desc := "(III)I" } : Jvm.MethodName)) ∈ gws := gin m_368 rfl
theorem g_369 : (Jvm.Cond.code ({ cls := "AnswerPost", name := "answer", desc := "(III)I" } : Jvm.MethodName) prog_1_method_7_code (6 : Nat) (Option.some Jvm.ClassFile.FieldType.int)) ∈ gws := gin m_369 rfl
theorem g_370 : (Jvm.Cond.methodLink "AnswerPost" (125 : Nat) ({ cls := "AnswerPost$Letters", name := "has", desc := "(I)Z" } : Jvm.MethodName)) ∈ gws := gin m_370 rfl
theorem g_371 : (Jvm.Cond.methodLink "AnswerPost" (131 : Nat) ({ cls := "AnswerPost$Letters", name := "isAnswered", desc := "(I)Z" } : Jvm.MethodName)) ∈ gws := gin m_371 rfl
theorem g_372 : (Jvm.Cond.instanceMethod ({ cls := "AnswerPost$Letters", name := "isAnswered", desc := "(I)Z" } : Jvm.MethodName)) ∈ gws := gin m_372 rfl
theorem g_373 : (Jvm.Cond.selects "AnswerPost$Letters" ({ cls := "AnswerPost$Letters", name := "isAnswered", desc := "(I)Z" } : Jvm.MethodName) ({ cls := "AnswerPost$Letters", name := "isAnswered", desc := "(I)Z" } : Jvm.MethodName)) ∈ gws := gin m_373 rfl
theorem g_374 : (Jvm.Cond.code ({ cls := "AnswerPost$Letters", name := "isAnswered", desc := "(I)Z" } : Jvm.MethodName) prog_3_method_4_code (2 : Nat) (Option.some Jvm.ClassFile.FieldType.boolean)) ∈ gws := gin m_374 rfl
theorem g_375 : (Jvm.Cond.methodLink "AnswerPost" (140 : Nat) ({ cls := "AnswerPost$Letters", name := "pair", desc := "(II)V" } : Jvm.MethodName)) ∈ gws := gin m_375 rfl
theorem g_376 : (Jvm.Cond.instanceMethod ({ cls := "AnswerPost$Letters", name := "pair", desc := "(II)V" } : Jvm.MethodName)) ∈ gws := gin m_376 rfl
theorem g_377 : (Jvm.Cond.selects "AnswerPost$Letters" ({ cls := "AnswerPost$Letters", name := "pair", desc := "(II)V" } : Jvm.MethodName) ({ cls := "AnswerPost$Letters", name := "pair", desc := "(II)V" } : Jvm.MethodName)) ∈ gws := gin m_377 rfl
theorem g_378 : (Jvm.Cond.code ({ cls := "AnswerPost$Letters", name := "pair", desc := "(II)V" } : Jvm.MethodName) prog_3_method_6_code (3 : Nat) (Option.none : Option Jvm.ClassFile.FieldType)) ∈ gws := gin m_378 rfl
theorem g_379 : (Jvm.Cond.methodLink "AnswerPostLaw" (41 : Nat) ({ cls := "AnswerPost", name := "ofLetter", desc := "(II)I" } : Jvm.MethodName)) ∈ gws := gin m_379 rfl
theorem g_380 : (Jvm.Cond.instanceMethod ({ cls := "AnswerPost", name := "ofLetter", desc := "(II)I" } : Jvm.MethodName)) ∈ gws := gin m_380 rfl
theorem g_381 : (Jvm.Cond.selects "AnswerPost" ({ cls := "AnswerPost", name := "ofLetter", desc := "(II)I" } : Jvm.MethodName) ({ cls := "AnswerPost", name := "ofLetter", desc := "(II)I" } : Jvm.MethodName)) ∈ gws := gin m_381 rfl
theorem g_382 : (Jvm.Cond.code ({ cls := "AnswerPost", name := "ofLetter", desc := "(II)I" } : Jvm.MethodName) prog_1_method_8_code (3 : Nat) (Option.some Jvm.ClassFile.FieldType.int)) ∈ gws := gin m_382 rfl
theorem g_383 : (Jvm.Cond.methodLink "AnswerPostLaw" (45 : Nat) ({ cls := "AnswerPost", name := "burn", desc := "(I)I" } : Jvm.MethodName)) ∈ gws := gin m_383 rfl
theorem g_384 : (Jvm.Cond.instanceMethod ({ cls := "AnswerPost", name := "burn", desc := "(I)I" } : Jvm.MethodName)) ∈ gws := gin m_384 rfl
theorem g_385 : (Jvm.Cond.selects "AnswerPost" ({ cls := "AnswerPost", name := "burn", desc := "(I)I" } : Jvm.MethodName) ({ cls := "AnswerPost", name := "burn", desc := "(I)I" } : Jvm.MethodName)) ∈ gws := gin m_385 rfl
theorem g_386 : (Jvm.Cond.code ({ cls := "AnswerPost", name := "burn", desc := "(I)I" } : Jvm.MethodName) prog_1_method_9_code (2 : Nat) (Option.some Jvm.ClassFile.FieldType.int)) ∈ gws := gin m_386 rfl
theorem g_387 : (Jvm.Cond.methodLink "AnswerPostLaw" (49 : Nat) ({ cls := "AnswerPost", name := "paid", desc := "(II)I" } : Jvm.MethodName)) ∈ gws := gin m_387 rfl
theorem g_388 : (Jvm.Cond.instanceMethod ({ cls := "AnswerPost", name := "paid", desc := "(II)I" } : Jvm.MethodName)) ∈ gws := gin m_388 rfl
theorem g_389 : (Jvm.Cond.selects "AnswerPost" ({ cls := "AnswerPost", name := "paid", desc := "(II)I" } : Jvm.MethodName) ({ cls := "AnswerPost", name := "paid", desc := "(II)I" } : Jvm.MethodName)) ∈ gws := gin m_389 rfl
theorem g_390 : (Jvm.Cond.code ({ cls := "AnswerPost", name := "paid", desc := "(II)I" } : Jvm.MethodName) prog_1_method_10_code (3 : Nat) (Option.some Jvm.ClassFile.FieldType.int)) ∈ gws := gin m_390 rfl
theorem g_391 : (Jvm.Cond.methodLink "AnswerPost" (163 : Nat) ({ cls := "AnswerPost$Letters", name := "paidBy", desc := "(III)I" } : Jvm.MethodName)) ∈ gws := gin m_391 rfl
theorem g_392 : (Jvm.Cond.instanceMethod ({ cls := "AnswerPost$Letters", name := "paidBy", desc := "(III)I" } : Jvm.MethodName)) ∈ gws := gin m_392 rfl
theorem g_393 : (Jvm.Cond.selects "AnswerPost$Letters" ({ cls := "AnswerPost$Letters", name := "paidBy", desc := "(III)I" } : Jvm.MethodName) ({ cls := "AnswerPost$Letters", name := "paidBy", desc := "(III)I" } : Jvm.MethodName)) ∈ gws := gin m_393 rfl
theorem g_394 : (Jvm.Cond.code ({ cls := "AnswerPost$Letters", name := "paidBy", desc := "(III)I" } : Jvm.MethodName) prog_3_method_8_code (4 : Nat) (Option.some Jvm.ClassFile.FieldType.int)) ∈ gws := gin m_394 rfl
theorem g_395 : (Jvm.Cond.methodLink "AnswerPost$Letters" (50 : Nat) ({ cls := "AnswerPost$Letters", name := "paidIf", desc := "(IIIII)I" } : Jvm.MethodName)) ∈ gws := gin m_395 rfl
theorem g_396 : (Jvm.Cond.instanceMethod ({ cls := "AnswerPost$Letters", name := "paidIf", desc := "(IIIII)I" } : Jvm.MethodName)) ∈ gws := gin m_396 rfl
theorem g_397 : (Jvm.Cond.selects "AnswerPost$Letters" ({ cls := "AnswerPost$Letters", name := "paidIf", desc := "(IIIII)I" } : Jvm.MethodName) ({ cls := "AnswerPost$Letters", name := "paidIf", desc := "(IIIII)I" } : Jvm.MethodName)) ∈ gws := gin m_397 rfl
theorem g_398 : (Jvm.Cond.code ({ cls := "AnswerPost$Letters", name := "paidIf", desc := "(IIIII)I" } : Jvm.MethodName) prog_3_method_9_code (11 : Nat) (Option.some Jvm.ClassFile.FieldType.int)) ∈ gws := gin m_398 rfl
theorem g_400 : (Jvm.Cond.static ({ cls := "AnswerPost", name := "pays", desc := "(III)I" } : Jvm.MethodName)) ∈ gws := gin m_400 rfl
theorem g_401 : (Jvm.Cond.code ({ cls := "AnswerPost", name := "pays", desc := "(III)I" } : Jvm.MethodName) prog_1_method_39_code (4 : Nat) (Option.some Jvm.ClassFile.FieldType.int)) ∈ gws := gin m_401 rfl
theorem g_402 : (Jvm.Cond.methodLink "AnswerPostLaw" (53 : Nat) ({ cls := "AnswerPost", name := "owes", desc := "(III)I" } : Jvm.MethodName)) ∈ gws := gin m_402 rfl
theorem g_403 : (Jvm.Cond.instanceMethod ({ cls := "AnswerPost", name := "owes", desc := "(III)I" } : Jvm.MethodName)) ∈ gws := gin m_403 rfl
theorem g_404 : (Jvm.Cond.selects "AnswerPost" ({ cls := "AnswerPost", name := "owes", desc := "(III)I" } : Jvm.MethodName) ({ cls := "AnswerPost", name := "owes", desc := "(III)I" } : Jvm.MethodName)) ∈ gws := gin m_404 rfl
theorem g_405 : (Jvm.Cond.code ({ cls := "AnswerPost", name := "owes", desc := "(III)I" } : Jvm.MethodName) prog_1_method_11_code (4 : Nat) (Option.some Jvm.ClassFile.FieldType.int)) ∈ gws := gin m_405 rfl
theorem g_406 : (Jvm.Cond.methodLink "AnswerPost" (166 : Nat) ({ cls := "AnswerPost$Letters", name := "owed", desc := "(III)I" } : Jvm.MethodName)) ∈ gws := gin m_406 rfl
theorem g_407 : (Jvm.Cond.instanceMethod ({ cls := "AnswerPost$Letters", name := "owed", desc := "(III)I" } : Jvm.MethodName)) ∈ gws := gin m_407 rfl
theorem g_408 : (Jvm.Cond.selects "AnswerPost$Letters" ({ cls := "AnswerPost$Letters", name := "owed", desc := "(III)I" } : Jvm.MethodName) ({ cls := "AnswerPost$Letters", name := "owed", desc := "(III)I" } : Jvm.MethodName)) ∈ gws := gin m_408 rfl
theorem g_409 : (Jvm.Cond.code ({ cls := "AnswerPost$Letters", name := "owed", desc := "(III)I" } : Jvm.MethodName) prog_3_method_10_code (6 : Nat) (Option.some Jvm.ClassFile.FieldType.int)) ∈ gws := gin m_409 rfl
theorem g_410 : (Jvm.Cond.methodLink "AnswerPost$Letters" (58 : Nat) ({ cls := "AnswerPost$Letters", name := "owedFor", desc := "(II)I" } : Jvm.MethodName)) ∈ gws := gin m_410 rfl
theorem g_412 : (Jvm.Cond.instanceMethod ({ cls := "AnswerPost$Letters", name := "owedFor", desc := "(II)I" } : Jvm.MethodName)) ∈ gws := gin m_412 rfl
theorem g_413 : (Jvm.Cond.code ({ cls := "AnswerPost$Letters", name := "owedFor", desc := "(II)I" } : Jvm.MethodName) prog_3_method_12_code (5 : Nat) (Option.some Jvm.ClassFile.FieldType.int)) ∈ gws := gin m_413 rfl
theorem g_414 : (Jvm.Cond.methodLink "AnswerPostLaw" (57 : Nat) ({ cls := "AnswerPost", name := "net", desc := "(II)I" } : Jvm.MethodName)) ∈ gws := gin m_414 rfl
theorem g_415 : (Jvm.Cond.instanceMethod ({ cls := "AnswerPost", name := "net", desc := "(II)I" } : Jvm.MethodName)) ∈ gws := gin m_415 rfl
theorem g_416 : (Jvm.Cond.selects "AnswerPost" ({ cls := "AnswerPost", name := "net", desc := "(II)I" } : Jvm.MethodName) ({ cls := "AnswerPost", name := "net", desc := "(II)I" } : Jvm.MethodName)) ∈ gws := gin m_416 rfl
theorem g_417 : (Jvm.Cond.code ({ cls := "AnswerPost", name := "net", desc := "(II)I" } : Jvm.MethodName) prog_1_method_12_code (3 : Nat) (Option.some Jvm.ClassFile.FieldType.int)) ∈ gws := gin m_417 rfl
theorem g_418 : (Jvm.Cond.methodLink "AnswerPost" (169 : Nat) ({ cls := "AnswerPost$Letters", name := "netOf", desc := "(II)I" } : Jvm.MethodName)) ∈ gws := gin m_418 rfl
theorem g_419 : (Jvm.Cond.instanceMethod ({ cls := "AnswerPost$Letters", name := "netOf", desc := "(II)I" } : Jvm.MethodName)) ∈ gws := gin m_419 rfl
theorem g_420 : (Jvm.Cond.selects "AnswerPost$Letters" ({ cls := "AnswerPost$Letters", name := "netOf", desc := "(II)I" } : Jvm.MethodName) ({ cls := "AnswerPost$Letters", name := "netOf", desc := "(II)I" } : Jvm.MethodName)) ∈ gws := gin m_420 rfl
theorem g_421 : (Jvm.Cond.code ({ cls := "AnswerPost$Letters", name := "netOf", desc := "(II)I" } : Jvm.MethodName) prog_3_method_11_code (5 : Nat) (Option.some Jvm.ClassFile.FieldType.int)) ∈ gws := gin m_421 rfl
theorem g_422 : (Jvm.Cond.constant "AnswerPost" (173 : Nat) (1000000 : Int32)) ∈ gws := gin m_422 rfl
theorem g_423 : (Jvm.Cond.methodLink "AnswerPostLaw" (61 : Nat) ({ cls := "AnswerPost", name := "settled", desc := "(I)I" } : Jvm.MethodName)) ∈ gws := gin m_423 rfl
theorem g_424 : (Jvm.Cond.instanceMethod ({ cls := "AnswerPost", name := "settled", desc := "(I)I" } : Jvm.MethodName)) ∈ gws := gin m_424 rfl
theorem g_425 : (Jvm.Cond.selects "AnswerPost" ({ cls := "AnswerPost", name := "settled", desc := "(I)I" } : Jvm.MethodName) ({ cls := "AnswerPost", name := "settled", desc := "(I)I" } : Jvm.MethodName)) ∈ gws := gin m_425 rfl
theorem g_426 : (Jvm.Cond.code ({ cls := "AnswerPost", name := "settled", desc := "(I)I" } : Jvm.MethodName) prog_1_method_13_code (3 : Nat) (Option.some Jvm.ClassFile.FieldType.int)) ∈ gws := gin m_426 rfl
theorem g_427 : (Jvm.Cond.methodLink "AnswerPost" (174 : Nat) ({ cls := "AnswerPost$Settling", name := "clear", desc := "()V" } : Jvm.MethodName)) ∈ gws := gin m_427 rfl
theorem g_428 : (Jvm.Cond.instanceMethod ({ cls := "AnswerPost$Settling", name := "clear", desc := "()V" } : Jvm.MethodName)) ∈ gws := gin m_428 rfl
theorem g_429 : (Jvm.Cond.selects "AnswerPost$Settling" ({ cls := "AnswerPost$Settling", name := "clear", desc := "()V" } : Jvm.MethodName) ({ cls := "AnswerPost$Settling", name := "clear", desc := "()V" } : Jvm.MethodName)) ∈ gws := gin m_429 rfl
theorem g_430 : (Jvm.Cond.code ({ cls := "AnswerPost$Settling", name := "clear", desc := "()V" } : Jvm.MethodName) prog_7_method_2_code (1 : Nat) (Option.none : Option Jvm.ClassFile.FieldType)) ∈ gws := gin m_430 rfl
theorem g_431 : (Jvm.Cond.methodLink "AnswerPost" (177 : Nat) ({ cls := "AnswerPost$Settling", name := "take", desc := "(I)V" } : Jvm.MethodName)) ∈ gws := gin m_431 rfl
theorem g_432 : (Jvm.Cond.instanceMethod ({ cls := "AnswerPost$Settling", name := "take", desc := "(I)V" } : Jvm.MethodName)) ∈ gws := gin m_432 rfl
theorem g_433 : (Jvm.Cond.selects "AnswerPost$Settling" ({ cls := "AnswerPost$Settling", name := "take", desc := "(I)V" } : Jvm.MethodName) ({ cls := "AnswerPost$Settling", name := "take", desc := "(I)V" } : Jvm.MethodName)) ∈ gws := gin m_433 rfl
theorem g_434 : (Jvm.Cond.code ({ cls := "AnswerPost$Settling", name := "take", desc := "(I)V" } : Jvm.MethodName) prog_7_method_3_code (2 : Nat) (Option.none : Option Jvm.ClassFile.FieldType)) ∈ gws := gin m_434 rfl
theorem g_435 : (Jvm.Cond.methodLink "AnswerPost" (180 : Nat) ({ cls := "AnswerPost$Settling", name := "fewestPayments", desc := "()I" } : Jvm.MethodName)) ∈ gws := gin m_435 rfl
theorem g_436 : (Jvm.Cond.instanceMethod ({ cls := "AnswerPost$Settling", name := "fewestPayments", desc := "()I" } : Jvm.MethodName)) ∈ gws := gin m_436 rfl
theorem g_437 : (Jvm.Cond.selects "AnswerPost$Settling" ({ cls := "AnswerPost$Settling", name := "fewestPayments", desc := "()I" } : Jvm.MethodName) ({ cls := "AnswerPost$Settling", name := "fewestPayments", desc := "()I" } : Jvm.MethodName)) ∈ gws := gin m_437 rfl
theorem g_438 : (Jvm.Cond.code ({ cls := "AnswerPost$Settling", name := "fewestPayments", desc := "()I" } : Jvm.MethodName) prog_7_method_4_code (3 : Nat) (Option.some Jvm.ClassFile.FieldType.int)) ∈ gws := gin m_438 rfl
theorem g_439 : (Jvm.Cond.methodLink "AnswerPost$Settling" (25 : Nat) ({ cls := "AnswerPost$Settling", name := "fill", desc := "(I)V" } : Jvm.MethodName)) ∈ gws := gin m_439 rfl
theorem g_441 : (Jvm.Cond.instanceMethod ({ cls := "AnswerPost$Settling", name := "fill", desc := "(I)V" } : Jvm.MethodName)) ∈ gws := gin m_441 rfl
theorem g_442 : (Jvm.Cond.code ({ cls := "AnswerPost$Settling", name := "fill", desc := "(I)V" } : Jvm.MethodName) prog_7_method_5_code (6 : Nat) (Option.none : Option Jvm.ClassFile.FieldType)) ∈ gws := gin m_442 rfl
theorem g_443 : (Jvm.Cond.methodLink "AnswerPost$Settling" (29 : Nat) ({ cls := "java/lang/Math", name := "max", desc := "(II)I" } : Jvm.MethodName)) ∈ gws := gin m_443 rfl
theorem g_444 : (Jvm.Cond.static ({ cls := "java/lang/Math", name := "max", desc := "(II)I" } : Jvm.MethodName)) ∈ gws := gin m_444 rfl
theorem g_445 : (Jvm.Cond.code ({ cls := "java/lang/Math", name := "max", desc := "(II)I" } : Jvm.MethodName) prog_14_method_65_code (2 : Nat) (Option.some Jvm.ClassFile.FieldType.int)) ∈ gws := gin m_445 rfl
theorem g_446 : (Jvm.Cond.methodLink "AnswerPostLaw" (65 : Nat) ({ cls := "AnswerPost", name := "best", desc := "(III)I" } : Jvm.MethodName)) ∈ gws := gin m_446 rfl
theorem g_447 : (Jvm.Cond.instanceMethod ({ cls := "AnswerPost", name := "best", desc := "(III)I" } : Jvm.MethodName)) ∈ gws := gin m_447 rfl
theorem g_448 : (Jvm.Cond.selects "AnswerPost" ({ cls := "AnswerPost", name := "best", desc := "(III)I" } : Jvm.MethodName) ({ cls := "AnswerPost", name := "best", desc := "(III)I" } : Jvm.MethodName)) ∈ gws := gin m_448 rfl
theorem g_449 : (Jvm.Cond.code ({ cls := "AnswerPost", name := "best", desc := "(III)I" } : Jvm.MethodName) prog_1_method_14_code (9 : Nat) (Option.some Jvm.ClassFile.FieldType.int)) ∈ gws := gin m_449 rfl
theorem g_450 : (Jvm.Cond.methodLink "AnswerPost" (183 : Nat) ({ cls := "AnswerPost", name := "pays", desc := "(III)I" } : Jvm.MethodName)) ∈ gws := gin m_450 rfl
theorem g_451 : (Jvm.Cond.methodLink "AnswerPostLaw" (69 : Nat) ({ cls := "AnswerPost", name := "course", desc := "(IIIII)I" } : Jvm.MethodName)) ∈ gws := gin m_451 rfl
theorem g_452 : (Jvm.Cond.instanceMethod ({ cls := "AnswerPost", name := "course", desc := "(IIIII)I" } : Jvm.MethodName)) ∈ gws := gin m_452 rfl
theorem g_453 : (Jvm.Cond.selects "AnswerPost" ({ cls := "AnswerPost", name := "course", desc := "(IIIII)I" } : Jvm.MethodName) ({ cls := "AnswerPost", name := "course", desc := "(IIIII)I" } : Jvm.MethodName)) ∈ gws := gin m_453 rfl
theorem g_454 : (Jvm.Cond.code ({ cls := "AnswerPost", name := "course", desc := "(IIIII)I" } : Jvm.MethodName) prog_1_method_15_code (8 : Nat) (Option.some Jvm.ClassFile.FieldType.int)) ∈ gws := gin m_454 rfl
theorem g_455 : (Jvm.Cond.methodLink "AnswerPost" (186 : Nat) ({ cls := "AnswerPost$Turns", name := "play", desc := "(LAnswerPost$Writer;LAnswerPost$Writer;III)V" } : Jvm.MethodName)) ∈ gws := gin m_455 rfl
theorem g_456 : (Jvm.Cond.instanceMethod ({ cls := "AnswerPost$Turns", name := "play", desc := "(LAnswerPost$Writer;LAnswerPost$Writer;III)V" } : Jvm.MethodName)) ∈ gws := gin m_456 rfl
theorem g_457 : (Jvm.Cond.selects "AnswerPost$Turns" ({ cls := "AnswerPost$Turns", name := "play", desc := "(LAnswerPost$Writer;LAnswerPost$Writer;III)V" } : Jvm.MethodName) ({ cls := "AnswerPost$Turns", name := "play", desc := "(LAnswerPost$Writer;LAnswerPost$Writer;III)V" } : Jvm.MethodName)) ∈ gws := gin m_457 rfl
theorem g_458 : (Jvm.Cond.code ({ cls := "AnswerPost$Turns", name := "play", desc := "(LAnswerPost$Writer;LAnswerPost$Writer;III)V" } : Jvm.MethodName) prog_10_method_2_code (8 : Nat) (Option.none : Option Jvm.ClassFile.FieldType)) ∈ gws := gin m_458 rfl
theorem g_459 : (Jvm.Cond.methodLink "AnswerPost$Turns" (39 : Nat) ({ cls := "AnswerPost$Turns", name := "weighAll", desc := "(LAnswerPost$Writer;I)V" } : Jvm.MethodName)) ∈ gws := gin m_459 rfl
theorem g_461 : (Jvm.Cond.instanceMethod ({ cls := "AnswerPost$Turns", name := "weighAll", desc := "(LAnswerPost$Writer;I)V" } : Jvm.MethodName)) ∈ gws := gin m_461 rfl
theorem g_462 : (Jvm.Cond.code ({ cls := "AnswerPost$Turns", name := "weighAll", desc := "(LAnswerPost$Writer;I)V" } : Jvm.MethodName) prog_10_method_3_code (4 : Nat) (Option.none : Option Jvm.ClassFile.FieldType)) ∈ gws := gin m_462 rfl
theorem g_463 : (Jvm.Cond.methodLink "AnswerPost$Turns" (55 : Nat) ({ cls := "java/lang/Math", name := "min", desc := "(II)I" } : Jvm.MethodName)) ∈ gws := gin m_463 rfl
theorem g_464 : (Jvm.Cond.static ({ cls := "java/lang/Math", name := "min", desc := "(II)I" } : Jvm.MethodName)) ∈ gws := gin m_464 rfl
theorem g_465 : (Jvm.Cond.code ({ cls := "java/lang/Math", name := "min", desc := "(II)I" } : Jvm.MethodName) prog_14_method_69_code (2 : Nat) (Option.some Jvm.ClassFile.FieldType.int)) ∈ gws := gin m_465 rfl
theorem g_466 : (Jvm.Cond.methodLink "AnswerPost$Turns" (61 : Nat) ({ cls := "AnswerPost$Writer", name := "shows", desc := "(I)I" } : Jvm.MethodName)) ∈ gws := gin m_466 rfl
theorem g_467 : (Jvm.Cond.methodLink "AnswerPost$Turns" (43 : Nat) ({ cls := "AnswerPost$Turns", name := "choose", desc := "(II)V" } : Jvm.MethodName)) ∈ gws := gin m_467 rfl
theorem g_469 : (Jvm.Cond.instanceMethod ({ cls := "AnswerPost$Turns", name := "choose", desc := "(II)V" } : Jvm.MethodName)) ∈ gws := gin m_469 rfl
theorem g_470 : (Jvm.Cond.code ({ cls := "AnswerPost$Turns", name := "choose", desc := "(II)V" } : Jvm.MethodName) prog_10_method_4_code (10 : Nat) (Option.none : Option Jvm.ClassFile.FieldType)) ∈ gws := gin m_470 rfl
theorem g_472 : (Jvm.Cond.methodLink "AnswerPost$Turns" (47 : Nat) ({ cls := "AnswerPost$Turns", name := "write", desc := "(I)V" } : Jvm.MethodName)) ∈ gws := gin m_472 rfl
theorem g_474 : (Jvm.Cond.instanceMethod ({ cls := "AnswerPost$Turns", name := "write", desc := "(I)V" } : Jvm.MethodName)) ∈ gws := gin m_474 rfl
theorem g_475 : (Jvm.Cond.code ({ cls := "AnswerPost$Turns", name := "write", desc := "(I)V" } : Jvm.MethodName) prog_10_method_5_code (4 : Nat) (Option.none : Option Jvm.ClassFile.FieldType)) ∈ gws := gin m_475 rfl
theorem g_476 : (Jvm.Cond.methodLink "AnswerPostLaw" (74 : Nat) ({ cls := "AnswerPost", name := "cost", desc := "(IIIII)I" } : Jvm.MethodName)) ∈ gws := gin m_476 rfl
theorem g_477 : (Jvm.Cond.instanceMethod ({ cls := "AnswerPost", name := "cost", desc := "(IIIII)I" } : Jvm.MethodName)) ∈ gws := gin m_477 rfl
theorem g_478 : (Jvm.Cond.selects "AnswerPost" ({ cls := "AnswerPost", name := "cost", desc := "(IIIII)I" } : Jvm.MethodName) ({ cls := "AnswerPost", name := "cost", desc := "(IIIII)I" } : Jvm.MethodName)) ∈ gws := gin m_478 rfl
theorem g_479 : (Jvm.Cond.code ({ cls := "AnswerPost", name := "cost", desc := "(IIIII)I" } : Jvm.MethodName) prog_1_method_16_code (8 : Nat) (Option.some Jvm.ClassFile.FieldType.int)) ∈ gws := gin m_479 rfl
theorem g_480 : (Jvm.Cond.methodLink "AnswerPostLaw" (78 : Nat) ({ cls := "AnswerPost", name := "split", desc := "(IIIIIII)I" } : Jvm.MethodName)) ∈ gws := gin m_480 rfl
theorem g_481 : (Jvm.Cond.instanceMethod ({ cls := "AnswerPost", name := "split", desc := "(IIIIIII)I" } : Jvm.MethodName)) ∈ gws := gin m_481 rfl
theorem g_482 : (Jvm.Cond.selects "AnswerPost" ({ cls := "AnswerPost", name := "split", desc := "(IIIIIII)I" } : Jvm.MethodName) ({ cls := "AnswerPost", name := "split", desc := "(IIIIIII)I" } : Jvm.MethodName)) ∈ gws := gin m_482 rfl
theorem g_483 : (Jvm.Cond.code ({ cls := "AnswerPost", name := "split", desc := "(IIIIIII)I" } : Jvm.MethodName) prog_1_method_17_code (11 : Nat) (Option.some Jvm.ClassFile.FieldType.int)) ∈ gws := gin m_483 rfl
theorem g_484 : (Jvm.Cond.methodLink "AnswerPost" (202 : Nat) ({ cls := "AnswerPost$Row", name := "allWithin", desc := "(IIII)Z" } : Jvm.MethodName)) ∈ gws := gin m_484 rfl
theorem g_485 : (Jvm.Cond.instanceMethod ({ cls := "AnswerPost$Row", name := "allWithin", desc := "(IIII)Z" } : Jvm.MethodName)) ∈ gws := gin m_485 rfl
theorem g_486 : (Jvm.Cond.selects "AnswerPost$Row" ({ cls := "AnswerPost$Row", name := "allWithin", desc := "(IIII)Z" } : Jvm.MethodName) ({ cls := "AnswerPost$Row", name := "allWithin", desc := "(IIII)Z" } : Jvm.MethodName)) ∈ gws := gin m_486 rfl
theorem g_487 : (Jvm.Cond.code ({ cls := "AnswerPost$Row", name := "allWithin", desc := "(IIII)Z" } : Jvm.MethodName) prog_6_method_6_code (6 : Nat) (Option.some Jvm.ClassFile.FieldType.boolean)) ∈ gws := gin m_487 rfl
theorem g_489 : (Jvm.Cond.methodLink "AnswerPost" (206 : Nat) ({ cls := "AnswerPost$Parts", name := "part", desc := "(LAnswerPost$Writer;I[IIII)V" } : Jvm.MethodName)) ∈ gws := gin m_489 rfl
theorem g_490 : (Jvm.Cond.instanceMethod ({ cls := "AnswerPost$Parts", name := "part", desc := "(LAnswerPost$Writer;I[IIII)V" } : Jvm.MethodName)) ∈ gws := gin m_490 rfl
theorem g_491 : (Jvm.Cond.selects "AnswerPost$Parts" ({ cls := "AnswerPost$Parts", name := "part", desc := "(LAnswerPost$Writer;I[IIII)V" } : Jvm.MethodName) ({ cls := "AnswerPost$Parts", name := "part", desc := "(LAnswerPost$Writer;I[IIII)V" } : Jvm.MethodName)) ∈ gws := gin m_491 rfl
theorem g_492 : (Jvm.Cond.code ({ cls := "AnswerPost$Parts", name := "part", desc := "(LAnswerPost$Writer;I[IIII)V" } : Jvm.MethodName) prog_5_method_2_code (11 : Nat) (Option.none : Option Jvm.ClassFile.FieldType)) ∈ gws := gin m_492 rfl
theorem g_493 : (Jvm.Cond.methodLink "AnswerPost$Parts" (26 : Nat) ({ cls := "AnswerPost$Writer", name := "shows", desc := "(I)I" } : Jvm.MethodName)) ∈ gws := gin m_493 rfl
theorem g_495 : (Jvm.Cond.methodLink "AnswerPost$Parts" (36 : Nat) ({ cls := "AnswerPost$Parts", name := "choose", desc := "(III)V" } : Jvm.MethodName)) ∈ gws := gin m_495 rfl
theorem g_497 : (Jvm.Cond.instanceMethod ({ cls := "AnswerPost$Parts", name := "choose", desc := "(III)V" } : Jvm.MethodName)) ∈ gws := gin m_497 rfl
theorem g_498 : (Jvm.Cond.code ({ cls := "AnswerPost$Parts", name := "choose", desc := "(III)V" } : Jvm.MethodName) prog_5_method_3_code (8 : Nat) (Option.none : Option Jvm.ClassFile.FieldType)) ∈ gws := gin m_498 rfl
theorem g_499 : (Jvm.Cond.methodLink "AnswerPost$Parts" (44 : Nat) ({ cls := "AnswerPost$Parts", name := "costOf", desc := "(IIII)I" } : Jvm.MethodName)) ∈ gws := gin m_499 rfl
theorem g_501 : (Jvm.Cond.instanceMethod ({ cls := "AnswerPost$Parts", name := "costOf", desc := "(IIII)I" } : Jvm.MethodName)) ∈ gws := gin m_501 rfl
theorem g_502 : (Jvm.Cond.code ({ cls := "AnswerPost$Parts", name := "costOf", desc := "(IIII)I" } : Jvm.MethodName) prog_5_method_4_code (5 : Nat) (Option.some Jvm.ClassFile.FieldType.int)) ∈ gws := gin m_502 rfl
theorem g_503 : (Jvm.Cond.methodLink "AnswerPostLaw" (83 : Nat) ({ cls := "AnswerPost", name := "least", desc := "(III)I" } : Jvm.MethodName)) ∈ gws := gin m_503 rfl
theorem g_504 : (Jvm.Cond.instanceMethod ({ cls := "AnswerPost", name := "least", desc := "(III)I" } : Jvm.MethodName)) ∈ gws := gin m_504 rfl
theorem g_505 : (Jvm.Cond.selects "AnswerPost" ({ cls := "AnswerPost", name := "least", desc := "(III)I" } : Jvm.MethodName) ({ cls := "AnswerPost", name := "least", desc := "(III)I" } : Jvm.MethodName)) ∈ gws := gin m_505 rfl
theorem g_506 : (Jvm.Cond.code ({ cls := "AnswerPost", name := "least", desc := "(III)I" } : Jvm.MethodName) prog_1_method_18_code (8 : Nat) (Option.some Jvm.ClassFile.FieldType.int)) ∈ gws := gin m_506 rfl
theorem g_507 : (Jvm.Cond.methodLink "AnswerPostLaw" (87 : Nat) ({ cls := "AnswerPost", name := "weights", desc := "(IIIII)I" } : Jvm.MethodName)) ∈ gws := gin m_507 rfl
theorem g_508 : (Jvm.Cond.instanceMethod ({ cls := "AnswerPost", name := "weights", desc := "(IIIII)I" } : Jvm.MethodName)) ∈ gws := gin m_508 rfl
theorem g_509 : (Jvm.Cond.selects "AnswerPost" ({ cls := "AnswerPost", name := "weights", desc := "(IIIII)I" } : Jvm.MethodName) ({ cls := "AnswerPost", name := "weights", desc := "(IIIII)I" } : Jvm.MethodName)) ∈ gws := gin m_509 rfl
theorem g_510 : (Jvm.Cond.code ({ cls := "AnswerPost", name := "weights", desc := "(IIIII)I" } : Jvm.MethodName) prog_1_method_19_code (9 : Nat) (Option.some Jvm.ClassFile.FieldType.int)) ∈ gws := gin m_510 rfl
theorem g_511 : (Jvm.Cond.methodLink "AnswerPost" (214 : Nat) ({ cls := "AnswerPost$Letters", name := "paidIf", desc := "(IIIII)I" } : Jvm.MethodName)) ∈ gws := gin m_511 rfl
theorem g_512 : (Jvm.Cond.methodLink "AnswerPostLaw" (91 : Nat) ({ cls := "AnswerPost", name := "sheet", desc := "(III)I" } : Jvm.MethodName)) ∈ gws := gin m_512 rfl
theorem g_513 : (Jvm.Cond.instanceMethod ({ cls := "AnswerPost", name := "sheet", desc := "(III)I" } : Jvm.MethodName)) ∈ gws := gin m_513 rfl
theorem g_514 : (Jvm.Cond.selects "AnswerPost" ({ cls := "AnswerPost", name := "sheet", desc := "(III)I" } : Jvm.MethodName) ({ cls := "AnswerPost", name := "sheet", desc := "(III)I" } : Jvm.MethodName)) ∈ gws := gin m_514 rfl
theorem g_515 : (Jvm.Cond.code ({ cls := "AnswerPost", name := "sheet", desc := "(III)I" } : Jvm.MethodName) prog_1_method_20_code (5 : Nat) (Option.some Jvm.ClassFile.FieldType.int)) ∈ gws := gin m_515 rfl
theorem g_516 : (Jvm.Cond.methodLink "AnswerPost" (218 : Nat) ({ cls := "AnswerPost$Row", name := "begin", desc := "(II)V" } : Jvm.MethodName)) ∈ gws := gin m_516 rfl
theorem g_517 : (Jvm.Cond.instanceMethod ({ cls := "AnswerPost$Row", name := "begin", desc := "(II)V" } : Jvm.MethodName)) ∈ gws := gin m_517 rfl
theorem g_518 : (Jvm.Cond.selects "AnswerPost$Row" ({ cls := "AnswerPost$Row", name := "begin", desc := "(II)V" } : Jvm.MethodName) ({ cls := "AnswerPost$Row", name := "begin", desc := "(II)V" } : Jvm.MethodName)) ∈ gws := gin m_518 rfl
theorem g_519 : (Jvm.Cond.code ({ cls := "AnswerPost$Row", name := "begin", desc := "(II)V" } : Jvm.MethodName) prog_6_method_3_code (4 : Nat) (Option.none : Option Jvm.ClassFile.FieldType)) ∈ gws := gin m_519 rfl
theorem g_520 : (Jvm.Cond.methodLink "AnswerPostLaw" (95 : Nat) ({ cls := "AnswerPost", name := "lose", desc := "(I)I" } : Jvm.MethodName)) ∈ gws := gin m_520 rfl
theorem g_521 : (Jvm.Cond.instanceMethod ({ cls := "AnswerPost", name := "lose", desc := "(I)I" } : Jvm.MethodName)) ∈ gws := gin m_521 rfl
theorem g_522 : (Jvm.Cond.selects "AnswerPost" ({ cls := "AnswerPost", name := "lose", desc := "(I)I" } : Jvm.MethodName) ({ cls := "AnswerPost", name := "lose", desc := "(I)I" } : Jvm.MethodName)) ∈ gws := gin m_522 rfl
theorem g_523 : (Jvm.Cond.code ({ cls := "AnswerPost", name := "lose", desc := "(I)I" } : Jvm.MethodName) prog_1_method_21_code (4 : Nat) (Option.some Jvm.ClassFile.FieldType.int)) ∈ gws := gin m_523 rfl
theorem g_524 : (Jvm.Cond.methodLink "AnswerPost" (221 : Nat) ({ cls := "AnswerPost$Row", name := "isNothing", desc := "()Z" } : Jvm.MethodName)) ∈ gws := gin m_524 rfl
theorem g_525 : (Jvm.Cond.methodLink "AnswerPostLaw" (99 : Nat) ({ cls := "AnswerPost", name := "put", desc := "(III)I" } : Jvm.MethodName)) ∈ gws := gin m_525 rfl
theorem g_526 : (Jvm.Cond.instanceMethod ({ cls := "AnswerPost", name := "put", desc := "(III)I" } : Jvm.MethodName)) ∈ gws := gin m_526 rfl
theorem g_527 : (Jvm.Cond.selects "AnswerPost" ({ cls := "AnswerPost", name := "put", desc := "(III)I" } : Jvm.MethodName) ({ cls := "AnswerPost", name := "put", desc := "(III)I" } : Jvm.MethodName)) ∈ gws := gin m_527 rfl
theorem g_528 : (Jvm.Cond.code ({ cls := "AnswerPost", name := "put", desc := "(III)I" } : Jvm.MethodName) prog_1_method_22_code (5 : Nat) (Option.some Jvm.ClassFile.FieldType.int)) ∈ gws := gin m_528 rfl
theorem g_529 : (Jvm.Cond.methodLink "AnswerPost" (227 : Nat) ({ cls := "AnswerPost$Row", name := "hasCells", desc := "(II)Z" } : Jvm.MethodName)) ∈ gws := gin m_529 rfl
theorem g_530 : (Jvm.Cond.methodLink "AnswerPost" (231 : Nat) ({ cls := "AnswerPost$Row", name := "cut", desc := "(I)I" } : Jvm.MethodName)) ∈ gws := gin m_530 rfl
theorem g_531 : (Jvm.Cond.instanceMethod ({ cls := "AnswerPost$Row", name := "cut", desc := "(I)I" } : Jvm.MethodName)) ∈ gws := gin m_531 rfl
theorem g_532 : (Jvm.Cond.selects "AnswerPost$Row" ({ cls := "AnswerPost$Row", name := "cut", desc := "(I)I" } : Jvm.MethodName) ({ cls := "AnswerPost$Row", name := "cut", desc := "(I)I" } : Jvm.MethodName)) ∈ gws := gin m_532 rfl
theorem g_533 : (Jvm.Cond.code ({ cls := "AnswerPost$Row", name := "cut", desc := "(I)I" } : Jvm.MethodName) prog_6_method_4_code (2 : Nat) (Option.some Jvm.ClassFile.FieldType.int)) ∈ gws := gin m_533 rfl
theorem g_534 : (Jvm.Cond.methodLink "AnswerPostLaw" (103 : Nat) ({ cls := "AnswerPost", name := "cell", desc := "(III)J" } : Jvm.MethodName)) ∈ gws := gin m_534 rfl
theorem g_535 : (Jvm.Cond.instanceMethod ({ cls := "AnswerPost", name := "cell", desc := "(III)J" } : Jvm.MethodName)) ∈ gws := gin m_535 rfl
theorem g_536 : (Jvm.Cond.selects "AnswerPost" ({ cls := "AnswerPost", name := "cell", desc := "(III)J" } : Jvm.MethodName) ({ cls := "AnswerPost", name := "cell", desc := "(III)J" } : Jvm.MethodName)) ∈ gws := gin m_536 rfl
theorem g_537 : (Jvm.Cond.code ({ cls := "AnswerPost", name := "cell", desc := "(III)J" } : Jvm.MethodName) prog_1_method_23_code (5 : Nat) (Option.some Jvm.ClassFile.FieldType.long)) ∈ gws := gin m_537 rfl
theorem g_538 : (Jvm.Cond.constantLong "AnswerPost" (234 : Nat) (-9223372036854775808 : Int64)) ∈ gws := gin m_538 rfl
theorem g_539 : (Jvm.Cond.methodLink "AnswerPostLaw" (108 : Nat) ({ cls := "AnswerPost", name := "copy", desc := "(IIIII)I" } : Jvm.MethodName)) ∈ gws := gin m_539 rfl
theorem g_540 : (Jvm.Cond.instanceMethod ({ cls := "AnswerPost", name := "copy", desc := "(IIIII)I" } : Jvm.MethodName)) ∈ gws := gin m_540 rfl
theorem g_541 : (Jvm.Cond.selects "AnswerPost" ({ cls := "AnswerPost", name := "copy", desc := "(IIIII)I" } : Jvm.MethodName) ({ cls := "AnswerPost", name := "copy", desc := "(IIIII)I" } : Jvm.MethodName)) ∈ gws := gin m_541 rfl
theorem g_542 : (Jvm.Cond.code ({ cls := "AnswerPost", name := "copy", desc := "(IIIII)I" } : Jvm.MethodName) prog_1_method_24_code (8 : Nat) (Option.some Jvm.ClassFile.FieldType.int)) ∈ gws := gin m_542 rfl
theorem g_543 : (Jvm.Cond.methodLink "AnswerPost" (236 : Nat) ({ cls := "java/lang/System", name := "arraycopy", desc := "(Ljava/lang/Object;ILjava/lang/Object;II)V" } : Jvm.MethodName)) ∈ gws := gin m_543 rfl
theorem g_544 : (Jvm.Cond.static ({ cls := "java/lang/System", name := "arraycopy", desc := "(Ljava/lang/Object;ILjava/lang/Object;II)V" } : Jvm.MethodName)) ∈ gws := gin m_544 rfl
theorem g_545 : (Jvm.Cond.native ({ cls := "java/lang/System", name := "arraycopy", desc := "(Ljava/lang/Object;ILjava/lang/Object;II)V" } : Jvm.MethodName)) ∈ gws := gin m_545 rfl
theorem g_546 : (Jvm.Cond.methodLink "AnswerPostLaw" (112 : Nat) ({ cls := "AnswerPost", name := "tell", desc := "(I)I" } : Jvm.MethodName)) ∈ gws := gin m_546 rfl
theorem g_547 : (Jvm.Cond.instanceMethod ({ cls := "AnswerPost", name := "tell", desc := "(I)I" } : Jvm.MethodName)) ∈ gws := gin m_547 rfl
theorem g_548 : (Jvm.Cond.selects "AnswerPost" ({ cls := "AnswerPost", name := "tell", desc := "(I)I" } : Jvm.MethodName) ({ cls := "AnswerPost", name := "tell", desc := "(I)I" } : Jvm.MethodName)) ∈ gws := gin m_548 rfl
theorem g_549 : (Jvm.Cond.code ({ cls := "AnswerPost", name := "tell", desc := "(I)I" } : Jvm.MethodName) prog_1_method_25_code (3 : Nat) (Option.some Jvm.ClassFile.FieldType.int)) ∈ gws := gin m_549 rfl
theorem g_550 : (Jvm.Cond.methodLink "AnswerPost" (242 : Nat) ({ cls := "AnswerPost$Writer", name := "telling", desc := "(LAnswerPost$Trail;)I" } : Jvm.MethodName)) ∈ gws := gin m_550 rfl
theorem g_551 : (Jvm.Cond.instanceMethod ({ cls := "AnswerPost$Writer", name := "telling", desc := "(LAnswerPost$Trail;)I" } : Jvm.MethodName)) ∈ gws := gin m_551 rfl
theorem g_552 : (Jvm.Cond.selects "AnswerPost$Writer" ({ cls := "AnswerPost$Writer", name := "telling", desc := "(LAnswerPost$Trail;)I" } : Jvm.MethodName) ({ cls := "AnswerPost$Writer", name := "telling", desc := "(LAnswerPost$Trail;)I" } : Jvm.MethodName)) ∈ gws := gin m_552 rfl
theorem g_553 : (Jvm.Cond.sameMethod "AnswerPost$Writer" "AnswerPost$Writer" "telling" "(LAnswerPost$Trail;)I") ∈ gws := gin m_553 rfl
theorem g_554 : (Jvm.Cond.selects "AnswerPost$Lawyer" ({ cls := "AnswerPost$Writer", name := "telling", desc := "(LAnswerPost$Trail;)I" } : Jvm.MethodName) ({ cls := "AnswerPost$Lawyer", name := "telling", desc := "(LAnswerPost$Trail;)I" } : Jvm.MethodName)) ∈ gws := gin m_554 rfl
theorem g_555 : (Jvm.Cond.instanceMethod ({ cls := "AnswerPost$Lawyer", name := "telling", desc := "(LAnswerPost$Trail;)I" } : Jvm.MethodName)) ∈ gws := gin m_555 rfl
theorem g_556 : (Jvm.Cond.code ({ cls := "AnswerPost$Lawyer", name := "telling", desc := "(LAnswerPost$Trail;)I" } : Jvm.MethodName) prog_2_method_4_code (3 : Nat) (Option.some Jvm.ClassFile.FieldType.int)) ∈ gws := gin m_556 rfl
theorem g_557 : (Jvm.Cond.methodLink "AnswerPost$Lawyer" (13 : Nat) ({ cls := "AnswerPost$Trail", name := "leave", desc := "(I)V" } : Jvm.MethodName)) ∈ gws := gin m_557 rfl
theorem g_558 : (Jvm.Cond.instanceMethod ({ cls := "AnswerPost$Trail", name := "leave", desc := "(I)V" } : Jvm.MethodName)) ∈ gws := gin m_558 rfl
theorem g_559 : (Jvm.Cond.selects "AnswerPost$Trail" ({ cls := "AnswerPost$Trail", name := "leave", desc := "(I)V" } : Jvm.MethodName) ({ cls := "AnswerPost$Trail", name := "leave", desc := "(I)V" } : Jvm.MethodName)) ∈ gws := gin m_559 rfl
theorem g_560 : (Jvm.Cond.code ({ cls := "AnswerPost$Trail", name := "leave", desc := "(I)V" } : Jvm.MethodName) prog_9_method_2_code (2 : Nat) (Option.none : Option Jvm.ClassFile.FieldType)) ∈ gws := gin m_560 rfl
theorem g_561 : (Jvm.Cond.methodLink "AnswerPost$Lawyer" (19 : Nat) ({ cls := "AnswerPost$Miser", name := "telling", desc := "(LAnswerPost$Trail;)I" } : Jvm.MethodName)) ∈ gws := gin m_561 rfl
theorem g_562 : (Jvm.Cond.instanceMethod ({ cls := "AnswerPost$Miser", name := "telling", desc := "(LAnswerPost$Trail;)I" } : Jvm.MethodName)) ∈ gws := gin m_562 rfl
theorem g_563 : (Jvm.Cond.code ({ cls := "AnswerPost$Miser", name := "telling", desc := "(LAnswerPost$Trail;)I" } : Jvm.MethodName) prog_4_method_4_code (2 : Nat) (Option.some Jvm.ClassFile.FieldType.int)) ∈ gws := gin m_563 rfl
theorem g_564 : (Jvm.Cond.methodLink "AnswerPost$Miser" (9 : Nat) ({ cls := "AnswerPost$Trail", name := "leave", desc := "(I)V" } : Jvm.MethodName)) ∈ gws := gin m_564 rfl
theorem g_565 : (Jvm.Cond.methodLink "AnswerPost$Miser" (15 : Nat) ({ cls := "AnswerPost$Writer", name := "telling", desc := "(LAnswerPost$Trail;)I" } : Jvm.MethodName)) ∈ gws := gin m_565 rfl
theorem g_566 : (Jvm.Cond.methodLink "AnswerPost$Lawyer" (23 : Nat) ({ cls := "AnswerPost$Lawyer", name := "writersTelling", desc := "(LAnswerPost$Trail;)I" } : Jvm.MethodName)) ∈ gws := gin m_566 rfl
theorem g_567 : (Jvm.Cond.sameMethod "AnswerPost$Lawyer" "AnswerPost$Writer" "writersTelling" "(LAnswerPost$Trail;)I") ∈ gws := gin m_567 rfl
theorem g_569 : (Jvm.Cond.selects "AnswerPost$Lawyer" ({ cls := "AnswerPost$Lawyer", name := "writersTelling", desc := "(LAnswerPost$Trail;)I" } : Jvm.MethodName) ({ cls := "AnswerPost$Writer", name := "writersTelling", desc := "(LAnswerPost$Trail;)I" } : Jvm.MethodName)) ∈ gws := gin m_569 rfl
theorem g_570 : (Jvm.Cond.instanceMethod ({ cls := "AnswerPost$Writer", name := "writersTelling", desc := "(LAnswerPost$Trail;)I" } : Jvm.MethodName)) ∈ gws := gin m_570 rfl
theorem g_571 : (Jvm.Cond.code ({ cls := "AnswerPost$Writer", name := "writersTelling", desc := "(LAnswerPost$Trail;)I" } : Jvm.MethodName) prog_11_method_5_code (2 : Nat) (Option.some Jvm.ClassFile.FieldType.int)) ∈ gws := gin m_571 rfl
theorem g_572 : (Jvm.Cond.methodLink "AnswerPost$Writer" (22 : Nat) ({ cls := "AnswerPost$Trail", name := "leave", desc := "(I)V" } : Jvm.MethodName)) ∈ gws := gin m_572 rfl
theorem g_573 : (Jvm.Cond.selects "AnswerPost$Miser" ({ cls := "AnswerPost$Writer", name := "telling", desc := "(LAnswerPost$Trail;)I" } : Jvm.MethodName) ({ cls := "AnswerPost$Miser", name := "telling", desc := "(LAnswerPost$Trail;)I" } : Jvm.MethodName)) ∈ gws := gin m_573 rfl
theorem g_574 : (Jvm.Cond.code ({ cls := "AnswerPost$Writer", name := "telling", desc := "(LAnswerPost$Trail;)I" } : Jvm.MethodName) prog_11_method_4_code (2 : Nat) (Option.some Jvm.ClassFile.FieldType.int)) ∈ gws := gin m_574 rfl
theorem g_575 : (Jvm.Cond.methodLink "AnswerPost$Writer" (18 : Nat) ({ cls := "AnswerPost$Writer", name := "writersTelling", desc := "(LAnswerPost$Trail;)I" } : Jvm.MethodName)) ∈ gws := gin m_575 rfl
theorem g_576 : (Jvm.Cond.methodLink "AnswerPostLaw" (116 : Nat) ({ cls := "AnswerPost", name := "greet", desc := "(I)I" } : Jvm.MethodName)) ∈ gws := gin m_576 rfl
theorem g_577 : (Jvm.Cond.instanceMethod ({ cls := "AnswerPost", name := "greet", desc := "(I)I" } : Jvm.MethodName)) ∈ gws := gin m_577 rfl
theorem g_578 : (Jvm.Cond.selects "AnswerPost" ({ cls := "AnswerPost", name := "greet", desc := "(I)I" } : Jvm.MethodName) ({ cls := "AnswerPost", name := "greet", desc := "(I)I" } : Jvm.MethodName)) ∈ gws := gin m_578 rfl
theorem g_579 : (Jvm.Cond.code ({ cls := "AnswerPost", name := "greet", desc := "(I)I" } : Jvm.MethodName) prog_1_method_26_code (3 : Nat) (Option.some Jvm.ClassFile.FieldType.int)) ∈ gws := gin m_579 rfl
theorem g_580 : (Jvm.Cond.methodLink "AnswerPost" (246 : Nat) ({ cls := "AnswerPost$Writer", name := "greeting", desc := "(LAnswerPost$Trail;)I" } : Jvm.MethodName)) ∈ gws := gin m_580 rfl
theorem g_581 : (Jvm.Cond.instanceMethod ({ cls := "AnswerPost$Writer", name := "greeting", desc := "(LAnswerPost$Trail;)I" } : Jvm.MethodName)) ∈ gws := gin m_581 rfl
theorem g_582 : (Jvm.Cond.selects "AnswerPost$Writer" ({ cls := "AnswerPost$Writer", name := "greeting", desc := "(LAnswerPost$Trail;)I" } : Jvm.MethodName) ({ cls := "AnswerPost$Writer", name := "greeting", desc := "(LAnswerPost$Trail;)I" } : Jvm.MethodName)) ∈ gws := gin m_582 rfl
theorem g_583 : (Jvm.Cond.sameMethod "AnswerPost$Writer" "AnswerPost$Writer" "greeting" "(LAnswerPost$Trail;)I") ∈ gws := gin m_583 rfl
theorem g_584 : (Jvm.Cond.selects "AnswerPost$Lawyer" ({ cls := "AnswerPost$Writer", name := "greeting", desc := "(LAnswerPost$Trail;)I" } : Jvm.MethodName) ({ cls := "AnswerPost$Lawyer", name := "greeting", desc := "(LAnswerPost$Trail;)I" } : Jvm.MethodName)) ∈ gws := gin m_584 rfl
theorem g_585 : (Jvm.Cond.instanceMethod ({ cls := "AnswerPost$Lawyer", name := "greeting", desc := "(LAnswerPost$Trail;)I" } : Jvm.MethodName)) ∈ gws := gin m_585 rfl
theorem g_586 : (Jvm.Cond.code ({ cls := "AnswerPost$Lawyer", name := "greeting", desc := "(LAnswerPost$Trail;)I" } : Jvm.MethodName) prog_2_method_5_code (2 : Nat) (Option.some Jvm.ClassFile.FieldType.int)) ∈ gws := gin m_586 rfl
theorem g_587 : (Jvm.Cond.selects "AnswerPost$Miser" ({ cls := "AnswerPost$Writer", name := "greeting", desc := "(LAnswerPost$Trail;)I" } : Jvm.MethodName) ({ cls := "AnswerPost$Writer", name := "greeting", desc := "(LAnswerPost$Trail;)I" } : Jvm.MethodName)) ∈ gws := gin m_587 rfl
theorem g_588 : (Jvm.Cond.code ({ cls := "AnswerPost$Writer", name := "greeting", desc := "(LAnswerPost$Trail;)I" } : Jvm.MethodName) prog_11_method_6_code (2 : Nat) (Option.some Jvm.ClassFile.FieldType.int)) ∈ gws := gin m_588 rfl
theorem g_589 : (Jvm.Cond.methodLink "AnswerPostLaw" (120 : Nat) ({ cls := "AnswerPost", name := "as", desc := "(II)I" } : Jvm.MethodName)) ∈ gws := gin m_589 rfl
theorem g_590 : (Jvm.Cond.instanceMethod ({ cls := "AnswerPost", name := "as", desc := "(II)I" } : Jvm.MethodName)) ∈ gws := gin m_590 rfl
theorem g_591 : (Jvm.Cond.selects "AnswerPost" ({ cls := "AnswerPost", name := "as", desc := "(II)I" } : Jvm.MethodName) ({ cls := "AnswerPost", name := "as", desc := "(II)I" } : Jvm.MethodName)) ∈ gws := gin m_591 rfl
theorem g_592 : (Jvm.Cond.code ({ cls := "AnswerPost", name := "as", desc := "(II)I" } : Jvm.MethodName) prog_1_method_27_code (4 : Nat) (Option.some Jvm.ClassFile.FieldType.int)) ∈ gws := gin m_592 rfl
theorem g_593 : (Jvm.Cond.methodLink "AnswerPost" (249 : Nat) ({ cls := "AnswerPost", name := "isOfKind", desc := "(LAnswerPost$Writer;I)Z" } : Jvm.MethodName)) ∈ gws := gin m_593 rfl
theorem g_594 : (Jvm.Cond.static ({ cls := "AnswerPost", name := "isOfKind", desc := "(LAnswerPost$Writer;I)Z" } : Jvm.MethodName)) ∈ gws := gin m_594 rfl
theorem g_595 : (Jvm.Cond.code ({ cls := "AnswerPost", name := "isOfKind", desc := "(LAnswerPost$Writer;I)Z" } : Jvm.MethodName) prog_1_method_33_code (2 : Nat) (Option.some Jvm.ClassFile.FieldType.boolean)) ∈ gws := gin m_595 rfl
theorem g_596 : (Jvm.Cond.methodLink "AnswerPostLaw" (124 : Nat) ({ cls := "AnswerPost", name := "trace", desc := "()I" } : Jvm.MethodName)) ∈ gws := gin m_596 rfl
theorem g_597 : (Jvm.Cond.instanceMethod ({ cls := "AnswerPost", name := "trace", desc := "()I" } : Jvm.MethodName)) ∈ gws := gin m_597 rfl
theorem g_598 : (Jvm.Cond.selects "AnswerPost" ({ cls := "AnswerPost", name := "trace", desc := "()I" } : Jvm.MethodName) ({ cls := "AnswerPost", name := "trace", desc := "()I" } : Jvm.MethodName)) ∈ gws := gin m_598 rfl
theorem g_599 : (Jvm.Cond.code ({ cls := "AnswerPost", name := "trace", desc := "()I" } : Jvm.MethodName) prog_1_method_28_code (1 : Nat) (Option.some Jvm.ClassFile.FieldType.int)) ∈ gws := gin m_599 rfl
theorem g_600 : (Jvm.Cond.methodLink "AnswerPostLaw" (129 : Nat) ({ cls := "AnswerPost", name := "fault", desc := "()I" } : Jvm.MethodName)) ∈ gws := gin m_600 rfl
theorem g_601 : (Jvm.Cond.instanceMethod ({ cls := "AnswerPost", name := "fault", desc := "()I" } : Jvm.MethodName)) ∈ gws := gin m_601 rfl
theorem g_602 : (Jvm.Cond.selects "AnswerPost" ({ cls := "AnswerPost", name := "fault", desc := "()I" } : Jvm.MethodName) ({ cls := "AnswerPost", name := "fault", desc := "()I" } : Jvm.MethodName)) ∈ gws := gin m_602 rfl
theorem g_603 : (Jvm.Cond.code ({ cls := "AnswerPost", name := "fault", desc := "()I" } : Jvm.MethodName) prog_1_method_29_code (1 : Nat) (Option.some Jvm.ClassFile.FieldType.int)) ∈ gws := gin m_603 rfl
theorem g_604 : (Jvm.Cond.methodLink "AnswerPostLaw" (133 : Nat) ({ cls := "AnswerPost", name := "many", desc := "(I)I" } : Jvm.MethodName)) ∈ gws := gin m_604 rfl
theorem g_605 : (Jvm.Cond.instanceMethod ({ cls := "AnswerPost", name := "many", desc := "(I)I" } : Jvm.MethodName)) ∈ gws := gin m_605 rfl
theorem g_606 : (Jvm.Cond.selects "AnswerPost" ({ cls := "AnswerPost", name := "many", desc := "(I)I" } : Jvm.MethodName) ({ cls := "AnswerPost", name := "many", desc := "(I)I" } : Jvm.MethodName)) ∈ gws := gin m_606 rfl
theorem g_607 : (Jvm.Cond.code ({ cls := "AnswerPost", name := "many", desc := "(I)I" } : Jvm.MethodName) prog_1_method_30_code (2 : Nat) (Option.some Jvm.ClassFile.FieldType.int)) ∈ gws := gin m_607 rfl
theorem g_608 : (Jvm.Cond.classLink "AnswerPostLaw" (10 : Nat) "AnswerPostModel") ∈ gws := gin m_608 rfl
theorem g_609 : (Jvm.Cond.instantiable "AnswerPostModel" (29 : Nat)) ∈ gws := gin m_609 rfl
theorem g_610 : (Jvm.Cond.methodLink "AnswerPostLaw" (12 : Nat) ({ cls := "AnswerPostModel", name := "<init>", desc := "()V" } : Jvm.MethodName)) ∈ gws := gin m_610 rfl
theorem g_611 : (Jvm.Cond.instanceMethod ({ cls := "AnswerPostModel", name := "<init>", desc := "()V" } : Jvm.MethodName)) ∈ gws := gin m_611 rfl
theorem g_612 : (Jvm.Cond.code ({ cls := "AnswerPostModel", name := "<init>", desc := "()V" } : Jvm.MethodName) prog_13_method_1_code (1 : Nat) (Option.none : Option Jvm.ClassFile.FieldType)) ∈ gws := gin m_612 rfl
theorem g_613 : (Jvm.Cond.methodLink "AnswerPostModel" (1 : Nat) ({ cls := "java/lang/Object", name := "<init>", desc := "()V" } : Jvm.MethodName)) ∈ gws := gin m_613 rfl
theorem g_614 : (Jvm.Cond.fieldLink "AnswerPostModel" (70 : Nat) "AnswerPostModel" "fault" "I") ∈ gws := gin m_614 rfl
theorem g_615 : (Jvm.Cond.fieldLink "AnswerPostModel" (190 : Nat) "AnswerPostModel" "trace" "I") ∈ gws := gin m_615 rfl
theorem g_616 : (Jvm.Cond.fieldLink "AnswerPostModel" (9 : Nat) "AnswerPostModel" "sorts" "[I") ∈ gws := gin m_616 rfl
theorem g_617 : (Jvm.Cond.fieldLink "AnswerPostModel" (13 : Nat) "AnswerPostModel" "sheetLong" "[I") ∈ gws := gin m_617 rfl
theorem g_618 : (Jvm.Cond.fieldLink "AnswerPostModel" (16 : Nat) "AnswerPostModel" "cells" "[I") ∈ gws := gin m_618 rfl
theorem g_619 : (Jvm.Cond.fieldLink "AnswerPostModel" (80 : Nat) "AnswerPostModel" "persons" "I") ∈ gws := gin m_619 rfl
theorem g_620 : (Jvm.Cond.fieldLink "AnswerPostModel" (107 : Nat) "AnswerPostModel" "lawNow" "I") ∈ gws := gin m_620 rfl
theorem g_621 : (Jvm.Cond.fieldLink "AnswerPostModel" (19 : Nat) "AnswerPostModel" "kind" "[I") ∈ gws := gin m_621 rfl
theorem g_622 : (Jvm.Cond.fieldLink "AnswerPostModel" (22 : Nat) "AnswerPostModel" "lift" "[I") ∈ gws := gin m_622 rfl
theorem g_623 : (Jvm.Cond.fieldLink "AnswerPostModel" (98 : Nat) "AnswerPostModel" "at" "I") ∈ gws := gin m_623 rfl
theorem g_624 : (Jvm.Cond.fieldLink "AnswerPostModel" (104 : Nat) "AnswerPostModel" "readMany" "I") ∈ gws := gin m_624 rfl
theorem g_625 : (Jvm.Cond.fieldLink "AnswerPostModel" (25 : Nat) "AnswerPostModel" "readKind" "[I") ∈ gws := gin m_625 rfl
theorem g_626 : (Jvm.Cond.fieldLink "AnswerPostModel" (28 : Nat) "AnswerPostModel" "readLift" "[I") ∈ gws := gin m_626 rfl
theorem g_627 : (Jvm.Cond.fieldLink "AnswerPostModel" (110 : Nat) "AnswerPostModel" "letters" "I") ∈ gws := gin m_627 rfl
theorem g_628 : (Jvm.Cond.fieldLink "AnswerPostModel" (31 : Nat) "AnswerPostModel" "from" "[I") ∈ gws := gin m_628 rfl
theorem g_629 : (Jvm.Cond.fieldLink "AnswerPostModel" (34 : Nat) "AnswerPostModel" "to" "[I") ∈ gws := gin m_629 rfl
theorem g_630 : (Jvm.Cond.fieldLink "AnswerPostModel" (37 : Nat) "AnswerPostModel" "heavy" "[I") ∈ gws := gin m_630 rfl
theorem g_631 : (Jvm.Cond.fieldLink "AnswerPostModel" (40 : Nat) "AnswerPostModel" "dayOf" "[I") ∈ gws := gin m_631 rfl
theorem g_632 : (Jvm.Cond.fieldLink "AnswerPostModel" (43 : Nat) "AnswerPostModel" "answeredBy" "[I") ∈ gws := gin m_632 rfl
theorem g_633 : (Jvm.Cond.fieldLink "AnswerPostModel" (46 : Nat) "AnswerPostModel" "answers" "[I") ∈ gws := gin m_633 rfl
theorem g_634 : (Jvm.Cond.fieldLink "AnswerPostModel" (49 : Nat) "AnswerPostModel" "makes" "[I") ∈ gws := gin m_634 rfl
theorem g_635 : (Jvm.Cond.fieldLink "AnswerPostModel" (52 : Nat) "AnswerPostModel" "groups" "[I") ∈ gws := gin m_635 rfl
theorem g_636 : (Jvm.Cond.fieldLink "AnswerPostModel" (150 : Nat) "AnswerPostModel" "bestWeight" "I") ∈ gws := gin m_636 rfl
theorem g_637 : (Jvm.Cond.fieldLink "AnswerPostModel" (153 : Nat) "AnswerPostModel" "bestPays" "I") ∈ gws := gin m_637 rfl
theorem g_638 : (Jvm.Cond.fieldLink "AnswerPostModel" (55 : Nat) "AnswerPostModel" "own" "[I") ∈ gws := gin m_638 rfl
theorem g_639 : (Jvm.Cond.fieldLink "AnswerPostModel" (58 : Nat) "AnswerPostModel" "others" "[I") ∈ gws := gin m_639 rfl
theorem g_640 : (Jvm.Cond.fieldLink "AnswerPostModel" (61 : Nat) "AnswerPostModel" "writes" "[I") ∈ gws := gin m_640 rfl
theorem g_641 : (Jvm.Cond.fieldLink "AnswerPostModel" (64 : Nat) "AnswerPostModel" "leastOf" "[I") ∈ gws := gin m_641 rfl
theorem g_642 : (Jvm.Cond.fieldLink "AnswerPostModel" (67 : Nat) "AnswerPostModel" "shown" "[I") ∈ gws := gin m_642 rfl
theorem g_643 : (Jvm.Cond.lays "AnswerPostModel" "AnswerPostModel" "fault" "I") ∈ gws := gin m_643 rfl
theorem g_644 : (Jvm.Cond.soleField "AnswerPostModel" "fault") ∈ gws := gin m_644 rfl
theorem g_645 : (Jvm.Cond.lays "AnswerPostModel" "AnswerPostModel" "trace" "I") ∈ gws := gin m_645 rfl
theorem g_646 : (Jvm.Cond.soleField "AnswerPostModel" "trace") ∈ gws := gin m_646 rfl
theorem g_647 : (Jvm.Cond.laysFinal "AnswerPostModel" "AnswerPostModel" "sorts" "[I") ∈ gws := gin m_647 rfl
theorem g_648 : (Jvm.Cond.soleField "AnswerPostModel" "sorts") ∈ gws := gin m_648 rfl
theorem g_649 : (Jvm.Cond.laysFinal "AnswerPostModel" "AnswerPostModel" "sheetLong" "[I") ∈ gws := gin m_649 rfl
theorem g_650 : (Jvm.Cond.soleField "AnswerPostModel" "sheetLong") ∈ gws := gin m_650 rfl
theorem g_651 : (Jvm.Cond.laysFinal "AnswerPostModel" "AnswerPostModel" "cells" "[I") ∈ gws := gin m_651 rfl
theorem g_652 : (Jvm.Cond.soleField "AnswerPostModel" "cells") ∈ gws := gin m_652 rfl
theorem g_653 : (Jvm.Cond.lays "AnswerPostModel" "AnswerPostModel" "persons" "I") ∈ gws := gin m_653 rfl
theorem g_654 : (Jvm.Cond.soleField "AnswerPostModel" "persons") ∈ gws := gin m_654 rfl
theorem g_655 : (Jvm.Cond.lays "AnswerPostModel" "AnswerPostModel" "lawNow" "I") ∈ gws := gin m_655 rfl
theorem g_656 : (Jvm.Cond.soleField "AnswerPostModel" "lawNow") ∈ gws := gin m_656 rfl
theorem g_657 : (Jvm.Cond.laysFinal "AnswerPostModel" "AnswerPostModel" "kind" "[I") ∈ gws := gin m_657 rfl
theorem g_658 : (Jvm.Cond.soleField "AnswerPostModel" "kind") ∈ gws := gin m_658 rfl
theorem g_659 : (Jvm.Cond.laysFinal "AnswerPostModel" "AnswerPostModel" "lift" "[I") ∈ gws := gin m_659 rfl
theorem g_660 : (Jvm.Cond.soleField "AnswerPostModel" "lift") ∈ gws := gin m_660 rfl
theorem g_661 : (Jvm.Cond.lays "AnswerPostModel" "AnswerPostModel" "at" "I") ∈ gws := gin m_661 rfl
theorem g_662 : (Jvm.Cond.soleField "AnswerPostModel" "at") ∈ gws := gin m_662 rfl
theorem g_663 : (Jvm.Cond.lays "AnswerPostModel" "AnswerPostModel" "readMany" "I") ∈ gws := gin m_663 rfl
theorem g_664 : (Jvm.Cond.soleField "AnswerPostModel" "readMany") ∈ gws := gin m_664 rfl
theorem g_665 : (Jvm.Cond.laysFinal "AnswerPostModel" "AnswerPostModel" "readKind" "[I") ∈ gws := gin m_665 rfl
theorem g_666 : (Jvm.Cond.soleField "AnswerPostModel" "readKind") ∈ gws := gin m_666 rfl
theorem g_667 : (Jvm.Cond.laysFinal "AnswerPostModel" "AnswerPostModel" "readLift" "[I") ∈ gws := gin m_667 rfl
theorem g_668 : (Jvm.Cond.soleField "AnswerPostModel" "readLift") ∈ gws := gin m_668 rfl
theorem g_669 : (Jvm.Cond.lays "AnswerPostModel" "AnswerPostModel" "letters" "I") ∈ gws := gin m_669 rfl
theorem g_670 : (Jvm.Cond.soleField "AnswerPostModel" "letters") ∈ gws := gin m_670 rfl
theorem g_671 : (Jvm.Cond.laysFinal "AnswerPostModel" "AnswerPostModel" "from" "[I") ∈ gws := gin m_671 rfl
theorem g_672 : (Jvm.Cond.soleField "AnswerPostModel" "from") ∈ gws := gin m_672 rfl
theorem g_673 : (Jvm.Cond.laysFinal "AnswerPostModel" "AnswerPostModel" "to" "[I") ∈ gws := gin m_673 rfl
theorem g_674 : (Jvm.Cond.soleField "AnswerPostModel" "to") ∈ gws := gin m_674 rfl
theorem g_675 : (Jvm.Cond.laysFinal "AnswerPostModel" "AnswerPostModel" "heavy" "[I") ∈ gws := gin m_675 rfl
theorem g_676 : (Jvm.Cond.soleField "AnswerPostModel" "heavy") ∈ gws := gin m_676 rfl
theorem g_677 : (Jvm.Cond.laysFinal "AnswerPostModel" "AnswerPostModel" "dayOf" "[I") ∈ gws := gin m_677 rfl
theorem g_678 : (Jvm.Cond.soleField "AnswerPostModel" "dayOf") ∈ gws := gin m_678 rfl
theorem g_679 : (Jvm.Cond.laysFinal "AnswerPostModel" "AnswerPostModel" "answeredBy" "[I") ∈ gws := gin m_679 rfl
theorem g_680 : (Jvm.Cond.soleField "AnswerPostModel" "answeredBy") ∈ gws := gin m_680 rfl
theorem g_681 : (Jvm.Cond.laysFinal "AnswerPostModel" "AnswerPostModel" "answers" "[I") ∈ gws := gin m_681 rfl
theorem g_682 : (Jvm.Cond.soleField "AnswerPostModel" "answers") ∈ gws := gin m_682 rfl
theorem g_683 : (Jvm.Cond.laysFinal "AnswerPostModel" "AnswerPostModel" "makes" "[I") ∈ gws := gin m_683 rfl
theorem g_684 : (Jvm.Cond.soleField "AnswerPostModel" "makes") ∈ gws := gin m_684 rfl
theorem g_685 : (Jvm.Cond.laysFinal "AnswerPostModel" "AnswerPostModel" "groups" "[I") ∈ gws := gin m_685 rfl
theorem g_686 : (Jvm.Cond.soleField "AnswerPostModel" "groups") ∈ gws := gin m_686 rfl
theorem g_687 : (Jvm.Cond.lays "AnswerPostModel" "AnswerPostModel" "bestWeight" "I") ∈ gws := gin m_687 rfl
theorem g_688 : (Jvm.Cond.soleField "AnswerPostModel" "bestWeight") ∈ gws := gin m_688 rfl
theorem g_689 : (Jvm.Cond.lays "AnswerPostModel" "AnswerPostModel" "bestPays" "I") ∈ gws := gin m_689 rfl
theorem g_690 : (Jvm.Cond.soleField "AnswerPostModel" "bestPays") ∈ gws := gin m_690 rfl
theorem g_691 : (Jvm.Cond.laysFinal "AnswerPostModel" "AnswerPostModel" "own" "[I") ∈ gws := gin m_691 rfl
theorem g_692 : (Jvm.Cond.soleField "AnswerPostModel" "own") ∈ gws := gin m_692 rfl
theorem g_693 : (Jvm.Cond.laysFinal "AnswerPostModel" "AnswerPostModel" "others" "[I") ∈ gws := gin m_693 rfl
theorem g_694 : (Jvm.Cond.soleField "AnswerPostModel" "others") ∈ gws := gin m_694 rfl
theorem g_695 : (Jvm.Cond.laysFinal "AnswerPostModel" "AnswerPostModel" "writes" "[I") ∈ gws := gin m_695 rfl
theorem g_696 : (Jvm.Cond.soleField "AnswerPostModel" "writes") ∈ gws := gin m_696 rfl
theorem g_697 : (Jvm.Cond.laysFinal "AnswerPostModel" "AnswerPostModel" "leastOf" "[I") ∈ gws := gin m_697 rfl
theorem g_698 : (Jvm.Cond.soleField "AnswerPostModel" "leastOf") ∈ gws := gin m_698 rfl
theorem g_699 : (Jvm.Cond.laysFinal "AnswerPostModel" "AnswerPostModel" "shown" "[I") ∈ gws := gin m_699 rfl
theorem g_700 : (Jvm.Cond.soleField "AnswerPostModel" "shown") ∈ gws := gin m_700 rfl
theorem g_701 : (Jvm.Cond.superclass "AnswerPostModel" "java/lang/Object") ∈ gws := gin m_701 rfl
theorem g_702 : (Jvm.Cond.methodLink "AnswerPostLaw" (17 : Nat) ({ cls := "AnswerPostModel", name := "post", desc := "(IIII)I" } : Jvm.MethodName)) ∈ gws := gin m_702 rfl
theorem g_703 : (Jvm.Cond.instanceMethod ({ cls := "AnswerPostModel", name := "post", desc := "(IIII)I" } : Jvm.MethodName)) ∈ gws := gin m_703 rfl
theorem g_704 : (Jvm.Cond.selects "AnswerPostModel" ({ cls := "AnswerPostModel", name := "post", desc := "(IIII)I" } : Jvm.MethodName) ({ cls := "AnswerPostModel", name := "post", desc := "(IIII)I" } : Jvm.MethodName)) ∈ gws := gin m_704 rfl
theorem g_705 : (Jvm.Cond.code ({ cls := "AnswerPostModel", name := "post", desc := "(IIII)I" } : Jvm.MethodName) prog_13_method_11_code (8 : Nat) (Option.some Jvm.ClassFile.FieldType.int)) ∈ gws := gin m_705 rfl
theorem g_706 : (Jvm.Cond.methodLink "AnswerPostModel" (83 : Nat) ({ cls := "AnswerPostModel", name := "isSheet", desc := "(I)Z" } : Jvm.MethodName)) ∈ gws := gin m_706 rfl
theorem g_707 : (Jvm.Cond.static ({ cls := "AnswerPostModel", name := "isSheet", desc := "(I)Z" } : Jvm.MethodName)) ∈ gws := gin m_707 rfl
theorem g_708 : (Jvm.Cond.code ({ cls := "AnswerPostModel", name := "isSheet", desc := "(I)Z" } : Jvm.MethodName) prog_13_method_6_code (1 : Nat) (Option.some Jvm.ClassFile.FieldType.boolean)) ∈ gws := gin m_708 rfl
theorem g_709 : (Jvm.Cond.methodLink "AnswerPostModel" (76 : Nat) ({ cls := "AnswerPostModel", name := "within", desc := "(III)Z" } : Jvm.MethodName)) ∈ gws := gin m_709 rfl
theorem g_710 : (Jvm.Cond.static ({ cls := "AnswerPostModel", name := "within", desc := "(III)Z" } : Jvm.MethodName)) ∈ gws := gin m_710 rfl
theorem g_711 : (Jvm.Cond.code ({ cls := "AnswerPostModel", name := "within", desc := "(III)Z" } : Jvm.MethodName) prog_13_method_5_code (3 : Nat) (Option.some Jvm.ClassFile.FieldType.boolean)) ∈ gws := gin m_711 rfl
theorem g_712 : (Jvm.Cond.methodLink "AnswerPostModel" (87 : Nat) ({ cls := "AnswerPostModel", name := "isSort", desc := "(I)Z" } : Jvm.MethodName)) ∈ gws := gin m_712 rfl
theorem g_713 : (Jvm.Cond.static ({ cls := "AnswerPostModel", name := "isSort", desc := "(I)Z" } : Jvm.MethodName)) ∈ gws := gin m_713 rfl
theorem g_714 : (Jvm.Cond.code ({ cls := "AnswerPostModel", name := "isSort", desc := "(I)Z" } : Jvm.MethodName) prog_13_method_7_code (1 : Nat) (Option.some Jvm.ClassFile.FieldType.boolean)) ∈ gws := gin m_714 rfl
theorem g_715 : (Jvm.Cond.methodLink "AnswerPostModel" (90 : Nat) ({ cls := "AnswerPostModel", name := "against", desc := "(IIII)I" } : Jvm.MethodName)) ∈ gws := gin m_715 rfl
theorem g_717 : (Jvm.Cond.instanceMethod ({ cls := "AnswerPostModel", name := "against", desc := "(IIII)I" } : Jvm.MethodName)) ∈ gws := gin m_717 rfl
theorem g_718 : (Jvm.Cond.code ({ cls := "AnswerPostModel", name := "against", desc := "(IIII)I" } : Jvm.MethodName) prog_13_method_8_code (5 : Nat) (Option.some Jvm.ClassFile.FieldType.int)) ∈ gws := gin m_718 rfl
theorem g_719 : (Jvm.Cond.methodLink "AnswerPostModel" (94 : Nat) ({ cls := "AnswerPostModel", name := "fails", desc := "(I)I" } : Jvm.MethodName)) ∈ gws := gin m_719 rfl
theorem g_721 : (Jvm.Cond.instanceMethod ({ cls := "AnswerPostModel", name := "fails", desc := "(I)I" } : Jvm.MethodName)) ∈ gws := gin m_721 rfl
theorem g_722 : (Jvm.Cond.code ({ cls := "AnswerPostModel", name := "fails", desc := "(I)I" } : Jvm.MethodName) prog_13_method_3_code (2 : Nat) (Option.some Jvm.ClassFile.FieldType.int)) ∈ gws := gin m_722 rfl
theorem g_723 : (Jvm.Cond.methodLink "AnswerPostModel" (101 : Nat) ({ cls := "AnswerPostModel", name := "readPost", desc := "(I)Z" } : Jvm.MethodName)) ∈ gws := gin m_723 rfl
theorem g_725 : (Jvm.Cond.instanceMethod ({ cls := "AnswerPostModel", name := "readPost", desc := "(I)Z" } : Jvm.MethodName)) ∈ gws := gin m_725 rfl
theorem g_726 : (Jvm.Cond.code ({ cls := "AnswerPostModel", name := "readPost", desc := "(I)Z" } : Jvm.MethodName) prog_13_method_12_code (2 : Nat) (Option.some Jvm.ClassFile.FieldType.boolean)) ∈ gws := gin m_726 rfl
theorem g_727 : (Jvm.Cond.methodLink "AnswerPostModel" (113 : Nat) ({ cls := "AnswerPostModel", name := "readPerson", desc := "(I)Z" } : Jvm.MethodName)) ∈ gws := gin m_727 rfl
theorem g_729 : (Jvm.Cond.instanceMethod ({ cls := "AnswerPostModel", name := "readPerson", desc := "(I)Z" } : Jvm.MethodName)) ∈ gws := gin m_729 rfl
theorem g_730 : (Jvm.Cond.code ({ cls := "AnswerPostModel", name := "readPerson", desc := "(I)Z" } : Jvm.MethodName) prog_13_method_13_code (4 : Nat) (Option.some Jvm.ClassFile.FieldType.boolean)) ∈ gws := gin m_730 rfl
theorem g_731 : (Jvm.Cond.methodLink "AnswerPostLaw" (22 : Nat) ({ cls := "AnswerPostModel", name := "ofPerson", desc := "(II)I" } : Jvm.MethodName)) ∈ gws := gin m_731 rfl
theorem g_732 : (Jvm.Cond.instanceMethod ({ cls := "AnswerPostModel", name := "ofPerson", desc := "(II)I" } : Jvm.MethodName)) ∈ gws := gin m_732 rfl
theorem g_733 : (Jvm.Cond.selects "AnswerPostModel" ({ cls := "AnswerPostModel", name := "ofPerson", desc := "(II)I" } : Jvm.MethodName) ({ cls := "AnswerPostModel", name := "ofPerson", desc := "(II)I" } : Jvm.MethodName)) ∈ gws := gin m_733 rfl
theorem g_734 : (Jvm.Cond.code ({ cls := "AnswerPostModel", name := "ofPerson", desc := "(II)I" } : Jvm.MethodName) prog_13_method_14_code (3 : Nat) (Option.some Jvm.ClassFile.FieldType.int)) ∈ gws := gin m_734 rfl
theorem g_735 : (Jvm.Cond.methodLink "AnswerPostModel" (116 : Nat) ({ cls := "AnswerPostModel", name := "isPerson", desc := "(I)Z" } : Jvm.MethodName)) ∈ gws := gin m_735 rfl
theorem g_737 : (Jvm.Cond.instanceMethod ({ cls := "AnswerPostModel", name := "isPerson", desc := "(I)Z" } : Jvm.MethodName)) ∈ gws := gin m_737 rfl
theorem g_738 : (Jvm.Cond.code ({ cls := "AnswerPostModel", name := "isPerson", desc := "(I)Z" } : Jvm.MethodName) prog_13_method_9_code (2 : Nat) (Option.some Jvm.ClassFile.FieldType.boolean)) ∈ gws := gin m_738 rfl
theorem g_739 : (Jvm.Cond.methodLink "AnswerPostLaw" (26 : Nat) ({ cls := "AnswerPostModel", name := "scale", desc := "(II)I" } : Jvm.MethodName)) ∈ gws := gin m_739 rfl
theorem g_740 : (Jvm.Cond.instanceMethod ({ cls := "AnswerPostModel", name := "scale", desc := "(II)I" } : Jvm.MethodName)) ∈ gws := gin m_740 rfl
theorem g_741 : (Jvm.Cond.selects "AnswerPostModel" ({ cls := "AnswerPostModel", name := "scale", desc := "(II)I" } : Jvm.MethodName) ({ cls := "AnswerPostModel", name := "scale", desc := "(II)I" } : Jvm.MethodName)) ∈ gws := gin m_741 rfl
theorem g_742 : (Jvm.Cond.code ({ cls := "AnswerPostModel", name := "scale", desc := "(II)I" } : Jvm.MethodName) prog_13_method_16_code (3 : Nat) (Option.some Jvm.ClassFile.FieldType.int)) ∈ gws := gin m_742 rfl
theorem g_743 : (Jvm.Cond.methodLink "AnswerPostModel" (119 : Nat) ({ cls := "AnswerPostModel", name := "shows", desc := "(II)I" } : Jvm.MethodName)) ∈ gws := gin m_743 rfl
theorem g_745 : (Jvm.Cond.instanceMethod ({ cls := "AnswerPostModel", name := "shows", desc := "(II)I" } : Jvm.MethodName)) ∈ gws := gin m_745 rfl
theorem g_746 : (Jvm.Cond.code ({ cls := "AnswerPostModel", name := "shows", desc := "(II)I" } : Jvm.MethodName) prog_13_method_15_code (4 : Nat) (Option.some Jvm.ClassFile.FieldType.int)) ∈ gws := gin m_746 rfl
theorem g_747 : (Jvm.Cond.methodLink "AnswerPostLaw" (31 : Nat) ({ cls := "AnswerPostModel", name := "law", desc := "(I)I" } : Jvm.MethodName)) ∈ gws := gin m_747 rfl
theorem g_748 : (Jvm.Cond.instanceMethod ({ cls := "AnswerPostModel", name := "law", desc := "(I)I" } : Jvm.MethodName)) ∈ gws := gin m_748 rfl
theorem g_749 : (Jvm.Cond.selects "AnswerPostModel" ({ cls := "AnswerPostModel", name := "law", desc := "(I)I" } : Jvm.MethodName) ({ cls := "AnswerPostModel", name := "law", desc := "(I)I" } : Jvm.MethodName)) ∈ gws := gin m_749 rfl
theorem g_750 : (Jvm.Cond.code ({ cls := "AnswerPostModel", name := "law", desc := "(I)I" } : Jvm.MethodName) prog_13_method_17_code (3 : Nat) (Option.some Jvm.ClassFile.FieldType.int)) ∈ gws := gin m_750 rfl
theorem g_751 : (Jvm.Cond.methodLink "AnswerPostLaw" (35 : Nat) ({ cls := "AnswerPostModel", name := "send", desc := "(IIII)I" } : Jvm.MethodName)) ∈ gws := gin m_751 rfl
theorem g_752 : (Jvm.Cond.instanceMethod ({ cls := "AnswerPostModel", name := "send", desc := "(IIII)I" } : Jvm.MethodName)) ∈ gws := gin m_752 rfl
theorem g_753 : (Jvm.Cond.selects "AnswerPostModel" ({ cls := "AnswerPostModel", name := "send", desc := "(IIII)I" } : Jvm.MethodName) ({ cls := "AnswerPostModel", name := "send", desc := "(IIII)I" } : Jvm.MethodName)) ∈ gws := gin m_753 rfl
theorem g_754 : (Jvm.Cond.code ({ cls := "AnswerPostModel", name := "send", desc := "(IIII)I" } : Jvm.MethodName) prog_13_method_21_code (5 : Nat) (Option.some Jvm.ClassFile.FieldType.int)) ∈ gws := gin m_754 rfl
theorem g_755 : (Jvm.Cond.methodLink "AnswerPostModel" (123 : Nat) ({ cls := "AnswerPostModel", name := "isDay", desc := "(I)Z" } : Jvm.MethodName)) ∈ gws := gin m_755 rfl
theorem g_756 : (Jvm.Cond.static ({ cls := "AnswerPostModel", name := "isDay", desc := "(I)Z" } : Jvm.MethodName)) ∈ gws := gin m_756 rfl
theorem g_757 : (Jvm.Cond.code ({ cls := "AnswerPostModel", name := "isDay", desc := "(I)Z" } : Jvm.MethodName) prog_13_method_10_code (1 : Nat) (Option.some Jvm.ClassFile.FieldType.boolean)) ∈ gws := gin m_757 rfl
theorem g_758 : (Jvm.Cond.methodLink "AnswerPostModel" (126 : Nat) ({ cls := "AnswerPostModel", name := "write", desc := "(IIIII)I" } : Jvm.MethodName)) ∈ gws := gin m_758 rfl
theorem g_760 : (Jvm.Cond.instanceMethod ({ cls := "AnswerPostModel", name := "write", desc := "(IIIII)I" } : Jvm.MethodName)) ∈ gws := gin m_760 rfl
theorem g_761 : (Jvm.Cond.code ({ cls := "AnswerPostModel", name := "write", desc := "(IIIII)I" } : Jvm.MethodName) prog_13_method_20_code (6 : Nat) (Option.some Jvm.ClassFile.FieldType.int)) ∈ gws := gin m_761 rfl
theorem g_762 : (Jvm.Cond.methodLink "AnswerPostLaw" (40 : Nat) ({ cls := "AnswerPostModel", name := "answer", desc := "(III)I" } : Jvm.MethodName)) ∈ gws := gin m_762 rfl
theorem g_763 : (Jvm.Cond.instanceMethod ({ cls := "AnswerPostModel", name := "answer", desc := "(III)I" } : Jvm.MethodName)) ∈ gws := gin m_763 rfl
theorem g_764 : (Jvm.Cond.selects "AnswerPostModel" ({ cls := "AnswerPostModel", name := "answer", desc := "(III)I" } : Jvm.MethodName) ({ cls := "AnswerPostModel", name := "answer", desc := "(III)I" } : Jvm.MethodName)) ∈ gws := gin m_764 rfl
theorem g_765 : (Jvm.Cond.code ({ cls := "AnswerPostModel", name := "answer", desc := "(III)I" } : Jvm.MethodName) prog_13_method_22_code (4 : Nat) (Option.some Jvm.ClassFile.FieldType.int)) ∈ gws := gin m_765 rfl
theorem g_766 : (Jvm.Cond.methodLink "AnswerPostModel" (130 : Nat) ({ cls := "AnswerPostModel", name := "isLetter", desc := "(I)Z" } : Jvm.MethodName)) ∈ gws := gin m_766 rfl
theorem g_768 : (Jvm.Cond.instanceMethod ({ cls := "AnswerPostModel", name := "isLetter", desc := "(I)Z" } : Jvm.MethodName)) ∈ gws := gin m_768 rfl
theorem g_769 : (Jvm.Cond.code ({ cls := "AnswerPostModel", name := "isLetter", desc := "(I)Z" } : Jvm.MethodName) prog_13_method_19_code (2 : Nat) (Option.some Jvm.ClassFile.FieldType.boolean)) ∈ gws := gin m_769 rfl
theorem g_770 : (Jvm.Cond.methodLink "AnswerPostLaw" (44 : Nat) ({ cls := "AnswerPostModel", name := "ofLetter", desc := "(II)I" } : Jvm.MethodName)) ∈ gws := gin m_770 rfl
theorem g_771 : (Jvm.Cond.instanceMethod ({ cls := "AnswerPostModel", name := "ofLetter", desc := "(II)I" } : Jvm.MethodName)) ∈ gws := gin m_771 rfl
theorem g_772 : (Jvm.Cond.selects "AnswerPostModel" ({ cls := "AnswerPostModel", name := "ofLetter", desc := "(II)I" } : Jvm.MethodName) ({ cls := "AnswerPostModel", name := "ofLetter", desc := "(II)I" } : Jvm.MethodName)) ∈ gws := gin m_772 rfl
theorem g_773 : (Jvm.Cond.code ({ cls := "AnswerPostModel", name := "ofLetter", desc := "(II)I" } : Jvm.MethodName) prog_13_method_24_code (3 : Nat) (Option.some Jvm.ClassFile.FieldType.int)) ∈ gws := gin m_773 rfl
theorem g_774 : (Jvm.Cond.methodLink "AnswerPostModel" (133 : Nat) ({ cls := "AnswerPostModel", name := "scaleOf", desc := "(I)I" } : Jvm.MethodName)) ∈ gws := gin m_774 rfl
theorem g_776 : (Jvm.Cond.instanceMethod ({ cls := "AnswerPostModel", name := "scaleOf", desc := "(I)I" } : Jvm.MethodName)) ∈ gws := gin m_776 rfl
theorem g_777 : (Jvm.Cond.code ({ cls := "AnswerPostModel", name := "scaleOf", desc := "(I)I" } : Jvm.MethodName) prog_13_method_23_code (2 : Nat) (Option.some Jvm.ClassFile.FieldType.int)) ∈ gws := gin m_777 rfl
theorem g_778 : (Jvm.Cond.methodLink "AnswerPostLaw" (48 : Nat) ({ cls := "AnswerPostModel", name := "burn", desc := "(I)I" } : Jvm.MethodName)) ∈ gws := gin m_778 rfl
theorem g_779 : (Jvm.Cond.instanceMethod ({ cls := "AnswerPostModel", name := "burn", desc := "(I)I" } : Jvm.MethodName)) ∈ gws := gin m_779 rfl
theorem g_780 : (Jvm.Cond.selects "AnswerPostModel" ({ cls := "AnswerPostModel", name := "burn", desc := "(I)I" } : Jvm.MethodName) ({ cls := "AnswerPostModel", name := "burn", desc := "(I)I" } : Jvm.MethodName)) ∈ gws := gin m_780 rfl
theorem g_781 : (Jvm.Cond.code ({ cls := "AnswerPostModel", name := "burn", desc := "(I)I" } : Jvm.MethodName) prog_13_method_25_code (3 : Nat) (Option.some Jvm.ClassFile.FieldType.int)) ∈ gws := gin m_781 rfl
theorem g_782 : (Jvm.Cond.methodLink "AnswerPostLaw" (52 : Nat) ({ cls := "AnswerPostModel", name := "paid", desc := "(II)I" } : Jvm.MethodName)) ∈ gws := gin m_782 rfl
theorem g_783 : (Jvm.Cond.instanceMethod ({ cls := "AnswerPostModel", name := "paid", desc := "(II)I" } : Jvm.MethodName)) ∈ gws := gin m_783 rfl
theorem g_784 : (Jvm.Cond.selects "AnswerPostModel" ({ cls := "AnswerPostModel", name := "paid", desc := "(II)I" } : Jvm.MethodName) ({ cls := "AnswerPostModel", name := "paid", desc := "(II)I" } : Jvm.MethodName)) ∈ gws := gin m_784 rfl
theorem g_785 : (Jvm.Cond.code ({ cls := "AnswerPostModel", name := "paid", desc := "(II)I" } : Jvm.MethodName) prog_13_method_27_code (3 : Nat) (Option.some Jvm.ClassFile.FieldType.int)) ∈ gws := gin m_785 rfl
theorem g_786 : (Jvm.Cond.methodLink "AnswerPostModel" (139 : Nat) ({ cls := "AnswerPostModel", name := "paidBy", desc := "(II)I" } : Jvm.MethodName)) ∈ gws := gin m_786 rfl
theorem g_788 : (Jvm.Cond.instanceMethod ({ cls := "AnswerPostModel", name := "paidBy", desc := "(II)I" } : Jvm.MethodName)) ∈ gws := gin m_788 rfl
theorem g_789 : (Jvm.Cond.code ({ cls := "AnswerPostModel", name := "paidBy", desc := "(II)I" } : Jvm.MethodName) prog_13_method_26_code (6 : Nat) (Option.some Jvm.ClassFile.FieldType.int)) ∈ gws := gin m_789 rfl
theorem g_790 : (Jvm.Cond.methodLink "AnswerPostModel" (136 : Nat) ({ cls := "AnswerPostModel", name := "pays", desc := "(II)I" } : Jvm.MethodName)) ∈ gws := gin m_790 rfl
theorem g_792 : (Jvm.Cond.instanceMethod ({ cls := "AnswerPostModel", name := "pays", desc := "(II)I" } : Jvm.MethodName)) ∈ gws := gin m_792 rfl
theorem g_793 : (Jvm.Cond.code ({ cls := "AnswerPostModel", name := "pays", desc := "(II)I" } : Jvm.MethodName) prog_13_method_18_code (4 : Nat) (Option.some Jvm.ClassFile.FieldType.int)) ∈ gws := gin m_793 rfl
theorem g_794 : (Jvm.Cond.methodLink "AnswerPostLaw" (56 : Nat) ({ cls := "AnswerPostModel", name := "owes", desc := "(III)I" } : Jvm.MethodName)) ∈ gws := gin m_794 rfl
theorem g_795 : (Jvm.Cond.instanceMethod ({ cls := "AnswerPostModel", name := "owes", desc := "(III)I" } : Jvm.MethodName)) ∈ gws := gin m_795 rfl
theorem g_796 : (Jvm.Cond.selects "AnswerPostModel" ({ cls := "AnswerPostModel", name := "owes", desc := "(III)I" } : Jvm.MethodName) ({ cls := "AnswerPostModel", name := "owes", desc := "(III)I" } : Jvm.MethodName)) ∈ gws := gin m_796 rfl
theorem g_797 : (Jvm.Cond.code ({ cls := "AnswerPostModel", name := "owes", desc := "(III)I" } : Jvm.MethodName) prog_13_method_29_code (4 : Nat) (Option.some Jvm.ClassFile.FieldType.int)) ∈ gws := gin m_797 rfl
theorem g_798 : (Jvm.Cond.methodLink "AnswerPostModel" (142 : Nat) ({ cls := "AnswerPostModel", name := "owed", desc := "(III)I" } : Jvm.MethodName)) ∈ gws := gin m_798 rfl
theorem g_800 : (Jvm.Cond.instanceMethod ({ cls := "AnswerPostModel", name := "owed", desc := "(III)I" } : Jvm.MethodName)) ∈ gws := gin m_800 rfl
theorem g_801 : (Jvm.Cond.code ({ cls := "AnswerPostModel", name := "owed", desc := "(III)I" } : Jvm.MethodName) prog_13_method_28_code (7 : Nat) (Option.some Jvm.ClassFile.FieldType.int)) ∈ gws := gin m_801 rfl
theorem g_802 : (Jvm.Cond.methodLink "AnswerPostLaw" (60 : Nat) ({ cls := "AnswerPostModel", name := "net", desc := "(II)I" } : Jvm.MethodName)) ∈ gws := gin m_802 rfl
theorem g_803 : (Jvm.Cond.instanceMethod ({ cls := "AnswerPostModel", name := "net", desc := "(II)I" } : Jvm.MethodName)) ∈ gws := gin m_803 rfl
theorem g_804 : (Jvm.Cond.selects "AnswerPostModel" ({ cls := "AnswerPostModel", name := "net", desc := "(II)I" } : Jvm.MethodName) ({ cls := "AnswerPostModel", name := "net", desc := "(II)I" } : Jvm.MethodName)) ∈ gws := gin m_804 rfl
theorem g_805 : (Jvm.Cond.code ({ cls := "AnswerPostModel", name := "net", desc := "(II)I" } : Jvm.MethodName) prog_13_method_31_code (3 : Nat) (Option.some Jvm.ClassFile.FieldType.int)) ∈ gws := gin m_805 rfl
theorem g_806 : (Jvm.Cond.methodLink "AnswerPostModel" (146 : Nat) ({ cls := "AnswerPostModel", name := "netOf", desc := "(II)I" } : Jvm.MethodName)) ∈ gws := gin m_806 rfl
theorem g_808 : (Jvm.Cond.instanceMethod ({ cls := "AnswerPostModel", name := "netOf", desc := "(II)I" } : Jvm.MethodName)) ∈ gws := gin m_808 rfl
theorem g_809 : (Jvm.Cond.code ({ cls := "AnswerPostModel", name := "netOf", desc := "(II)I" } : Jvm.MethodName) prog_13_method_30_code (5 : Nat) (Option.some Jvm.ClassFile.FieldType.int)) ∈ gws := gin m_809 rfl
theorem g_810 : (Jvm.Cond.constant "AnswerPostModel" (149 : Nat) (1000000 : Int32)) ∈ gws := gin m_810 rfl
theorem g_811 : (Jvm.Cond.methodLink "AnswerPostLaw" (64 : Nat) ({ cls := "AnswerPostModel", name := "settled", desc := "(I)I" } : Jvm.MethodName)) ∈ gws := gin m_811 rfl
theorem g_812 : (Jvm.Cond.instanceMethod ({ cls := "AnswerPostModel", name := "settled", desc := "(I)I" } : Jvm.MethodName)) ∈ gws := gin m_812 rfl
theorem g_813 : (Jvm.Cond.selects "AnswerPostModel" ({ cls := "AnswerPostModel", name := "settled", desc := "(I)I" } : Jvm.MethodName) ({ cls := "AnswerPostModel", name := "settled", desc := "(I)I" } : Jvm.MethodName)) ∈ gws := gin m_813 rfl
theorem g_814 : (Jvm.Cond.code ({ cls := "AnswerPostModel", name := "settled", desc := "(I)I" } : Jvm.MethodName) prog_13_method_32_code (8 : Nat) (Option.some Jvm.ClassFile.FieldType.int)) ∈ gws := gin m_814 rfl
theorem g_815 : (Jvm.Cond.methodLink "AnswerPostLaw" (68 : Nat) ({ cls := "AnswerPostModel", name := "best", desc := "(III)I" } : Jvm.MethodName)) ∈ gws := gin m_815 rfl
theorem g_816 : (Jvm.Cond.instanceMethod ({ cls := "AnswerPostModel", name := "best", desc := "(III)I" } : Jvm.MethodName)) ∈ gws := gin m_816 rfl
theorem g_817 : (Jvm.Cond.selects "AnswerPostModel" ({ cls := "AnswerPostModel", name := "best", desc := "(III)I" } : Jvm.MethodName) ({ cls := "AnswerPostModel", name := "best", desc := "(III)I" } : Jvm.MethodName)) ∈ gws := gin m_817 rfl
theorem g_818 : (Jvm.Cond.code ({ cls := "AnswerPostModel", name := "best", desc := "(III)I" } : Jvm.MethodName) prog_13_method_34_code (4 : Nat) (Option.some Jvm.ClassFile.FieldType.int)) ∈ gws := gin m_818 rfl
theorem g_819 : (Jvm.Cond.methodLink "AnswerPostModel" (156 : Nat) ({ cls := "AnswerPostModel", name := "findBest", desc := "(II)V" } : Jvm.MethodName)) ∈ gws := gin m_819 rfl
theorem g_821 : (Jvm.Cond.instanceMethod ({ cls := "AnswerPostModel", name := "findBest", desc := "(II)V" } : Jvm.MethodName)) ∈ gws := gin m_821 rfl
theorem g_822 : (Jvm.Cond.code ({ cls := "AnswerPostModel", name := "findBest", desc := "(II)V" } : Jvm.MethodName) prog_13_method_33_code (5 : Nat) (Option.none : Option Jvm.ClassFile.FieldType)) ∈ gws := gin m_822 rfl
theorem g_823 : (Jvm.Cond.methodLink "AnswerPostLaw" (73 : Nat) ({ cls := "AnswerPostModel", name := "course", desc := "(IIIII)I" } : Jvm.MethodName)) ∈ gws := gin m_823 rfl
theorem g_824 : (Jvm.Cond.instanceMethod ({ cls := "AnswerPostModel", name := "course", desc := "(IIIII)I" } : Jvm.MethodName)) ∈ gws := gin m_824 rfl
theorem g_825 : (Jvm.Cond.selects "AnswerPostModel" ({ cls := "AnswerPostModel", name := "course", desc := "(IIIII)I" } : Jvm.MethodName) ({ cls := "AnswerPostModel", name := "course", desc := "(IIIII)I" } : Jvm.MethodName)) ∈ gws := gin m_825 rfl
theorem g_826 : (Jvm.Cond.code ({ cls := "AnswerPostModel", name := "course", desc := "(IIIII)I" } : Jvm.MethodName) prog_13_method_39_code (8 : Nat) (Option.some Jvm.ClassFile.FieldType.int)) ∈ gws := gin m_826 rfl
theorem g_827 : (Jvm.Cond.methodLink "AnswerPostModel" (168 : Nat) ({ cls := "AnswerPostModel", name := "areTwo", desc := "(II)Z" } : Jvm.MethodName)) ∈ gws := gin m_827 rfl
theorem g_829 : (Jvm.Cond.instanceMethod ({ cls := "AnswerPostModel", name := "areTwo", desc := "(II)Z" } : Jvm.MethodName)) ∈ gws := gin m_829 rfl
theorem g_830 : (Jvm.Cond.code ({ cls := "AnswerPostModel", name := "areTwo", desc := "(II)Z" } : Jvm.MethodName) prog_13_method_38_code (3 : Nat) (Option.some Jvm.ClassFile.FieldType.boolean)) ∈ gws := gin m_830 rfl
theorem g_831 : (Jvm.Cond.methodLink "AnswerPostModel" (172 : Nat) ({ cls := "AnswerPostModel", name := "layCourse", desc := "(IIII)V" } : Jvm.MethodName)) ∈ gws := gin m_831 rfl
theorem g_833 : (Jvm.Cond.instanceMethod ({ cls := "AnswerPostModel", name := "layCourse", desc := "(IIII)V" } : Jvm.MethodName)) ∈ gws := gin m_833 rfl
theorem g_834 : (Jvm.Cond.code ({ cls := "AnswerPostModel", name := "layCourse", desc := "(IIII)V" } : Jvm.MethodName) prog_13_method_37_code (9 : Nat) (Option.none : Option Jvm.ClassFile.FieldType)) ∈ gws := gin m_834 rfl
theorem g_835 : (Jvm.Cond.methodLink "AnswerPostModel" (160 : Nat) ({ cls := "AnswerPostModel", name := "spot", desc := "(II)I" } : Jvm.MethodName)) ∈ gws := gin m_835 rfl
theorem g_836 : (Jvm.Cond.static ({ cls := "AnswerPostModel", name := "spot", desc := "(II)I" } : Jvm.MethodName)) ∈ gws := gin m_836 rfl
theorem g_837 : (Jvm.Cond.code ({ cls := "AnswerPostModel", name := "spot", desc := "(II)I" } : Jvm.MethodName) prog_13_method_35_code (2 : Nat) (Option.some Jvm.ClassFile.FieldType.int)) ∈ gws := gin m_837 rfl
theorem g_838 : (Jvm.Cond.methodLink "AnswerPostModel" (164 : Nat) ({ cls := "AnswerPostModel", name := "layTurn", desc := "(IIIII)V" } : Jvm.MethodName)) ∈ gws := gin m_838 rfl
theorem g_840 : (Jvm.Cond.instanceMethod ({ cls := "AnswerPostModel", name := "layTurn", desc := "(IIIII)V" } : Jvm.MethodName)) ∈ gws := gin m_840 rfl
theorem g_841 : (Jvm.Cond.code ({ cls := "AnswerPostModel", name := "layTurn", desc := "(IIIII)V" } : Jvm.MethodName) prog_13_method_36_code (11 : Nat) (Option.none : Option Jvm.ClassFile.FieldType)) ∈ gws := gin m_841 rfl
theorem g_842 : (Jvm.Cond.constant "AnswerPostModel" (163 : Nat) (1000000000 : Int32)) ∈ gws := gin m_842 rfl
theorem g_843 : (Jvm.Cond.methodLink "AnswerPostLaw" (77 : Nat) ({ cls := "AnswerPostModel", name := "cost", desc := "(IIIII)I" } : Jvm.MethodName)) ∈ gws := gin m_843 rfl
theorem g_844 : (Jvm.Cond.instanceMethod ({ cls := "AnswerPostModel", name := "cost", desc := "(IIIII)I" } : Jvm.MethodName)) ∈ gws := gin m_844 rfl
theorem g_845 : (Jvm.Cond.selects "AnswerPostModel" ({ cls := "AnswerPostModel", name := "cost", desc := "(IIIII)I" } : Jvm.MethodName) ({ cls := "AnswerPostModel", name := "cost", desc := "(IIIII)I" } : Jvm.MethodName)) ∈ gws := gin m_845 rfl
theorem g_846 : (Jvm.Cond.code ({ cls := "AnswerPostModel", name := "cost", desc := "(IIIII)I" } : Jvm.MethodName) prog_13_method_40_code (6 : Nat) (Option.some Jvm.ClassFile.FieldType.int)) ∈ gws := gin m_846 rfl
theorem g_847 : (Jvm.Cond.methodLink "AnswerPostLaw" (82 : Nat) ({ cls := "AnswerPostModel", name := "split", desc := "(IIIIIII)I" } : Jvm.MethodName)) ∈ gws := gin m_847 rfl
theorem g_848 : (Jvm.Cond.instanceMethod ({ cls := "AnswerPostModel", name := "split", desc := "(IIIIIII)I" } : Jvm.MethodName)) ∈ gws := gin m_848 rfl
theorem g_849 : (Jvm.Cond.selects "AnswerPostModel" ({ cls := "AnswerPostModel", name := "split", desc := "(IIIIIII)I" } : Jvm.MethodName) ({ cls := "AnswerPostModel", name := "split", desc := "(IIIIIII)I" } : Jvm.MethodName)) ∈ gws := gin m_849 rfl
theorem g_850 : (Jvm.Cond.code ({ cls := "AnswerPostModel", name := "split", desc := "(IIIIIII)I" } : Jvm.MethodName) prog_13_method_43_code (10 : Nat) (Option.some Jvm.ClassFile.FieldType.int)) ∈ gws := gin m_850 rfl
theorem g_851 : (Jvm.Cond.methodLink "AnswerPostModel" (179 : Nat) ({ cls := "AnswerPostModel", name := "layParts", desc := "(III)V" } : Jvm.MethodName)) ∈ gws := gin m_851 rfl
theorem g_853 : (Jvm.Cond.instanceMethod ({ cls := "AnswerPostModel", name := "layParts", desc := "(III)V" } : Jvm.MethodName)) ∈ gws := gin m_853 rfl
theorem g_854 : (Jvm.Cond.code ({ cls := "AnswerPostModel", name := "layParts", desc := "(III)V" } : Jvm.MethodName) prog_13_method_42_code (9 : Nat) (Option.none : Option Jvm.ClassFile.FieldType)) ∈ gws := gin m_854 rfl
theorem g_855 : (Jvm.Cond.methodLink "AnswerPostModel" (176 : Nat) ({ cls := "AnswerPostModel", name := "partPays", desc := "(III)I" } : Jvm.MethodName)) ∈ gws := gin m_855 rfl
theorem g_857 : (Jvm.Cond.instanceMethod ({ cls := "AnswerPostModel", name := "partPays", desc := "(III)I" } : Jvm.MethodName)) ∈ gws := gin m_857 rfl
theorem g_858 : (Jvm.Cond.code ({ cls := "AnswerPostModel", name := "partPays", desc := "(III)I" } : Jvm.MethodName) prog_13_method_41_code (4 : Nat) (Option.some Jvm.ClassFile.FieldType.int)) ∈ gws := gin m_858 rfl
theorem g_859 : (Jvm.Cond.methodLink "AnswerPostModel" (183 : Nat) ({ cls := "AnswerPostModel", name := "partOf", desc := "(III)I" } : Jvm.MethodName)) ∈ gws := gin m_859 rfl
theorem g_861 : (Jvm.Cond.instanceMethod ({ cls := "AnswerPostModel", name := "partOf", desc := "(III)I" } : Jvm.MethodName)) ∈ gws := gin m_861 rfl
theorem g_862 : (Jvm.Cond.code ({ cls := "AnswerPostModel", name := "partOf", desc := "(III)I" } : Jvm.MethodName) prog_13_method_44_code (7 : Nat) (Option.some Jvm.ClassFile.FieldType.int)) ∈ gws := gin m_862 rfl
theorem g_863 : (Jvm.Cond.methodLink "AnswerPostLaw" (86 : Nat) ({ cls := "AnswerPostModel", name := "least", desc := "(III)I" } : Jvm.MethodName)) ∈ gws := gin m_863 rfl
theorem g_864 : (Jvm.Cond.instanceMethod ({ cls := "AnswerPostModel", name := "least", desc := "(III)I" } : Jvm.MethodName)) ∈ gws := gin m_864 rfl
theorem g_865 : (Jvm.Cond.selects "AnswerPostModel" ({ cls := "AnswerPostModel", name := "least", desc := "(III)I" } : Jvm.MethodName) ({ cls := "AnswerPostModel", name := "least", desc := "(III)I" } : Jvm.MethodName)) ∈ gws := gin m_865 rfl
theorem g_866 : (Jvm.Cond.code ({ cls := "AnswerPostModel", name := "least", desc := "(III)I" } : Jvm.MethodName) prog_13_method_45_code (8 : Nat) (Option.some Jvm.ClassFile.FieldType.int)) ∈ gws := gin m_866 rfl
theorem g_867 : (Jvm.Cond.methodLink "AnswerPostLaw" (90 : Nat) ({ cls := "AnswerPostModel", name := "weights", desc := "(IIIII)I" } : Jvm.MethodName)) ∈ gws := gin m_867 rfl
theorem g_868 : (Jvm.Cond.instanceMethod ({ cls := "AnswerPostModel", name := "weights", desc := "(IIIII)I" } : Jvm.MethodName)) ∈ gws := gin m_868 rfl
theorem g_869 : (Jvm.Cond.selects "AnswerPostModel" ({ cls := "AnswerPostModel", name := "weights", desc := "(IIIII)I" } : Jvm.MethodName) ({ cls := "AnswerPostModel", name := "weights", desc := "(IIIII)I" } : Jvm.MethodName)) ∈ gws := gin m_869 rfl
theorem g_870 : (Jvm.Cond.code ({ cls := "AnswerPostModel", name := "weights", desc := "(IIIII)I" } : Jvm.MethodName) prog_13_method_46_code (11 : Nat) (Option.some Jvm.ClassFile.FieldType.int)) ∈ gws := gin m_870 rfl
theorem g_871 : (Jvm.Cond.methodLink "AnswerPostLaw" (94 : Nat) ({ cls := "AnswerPostModel", name := "sheet", desc := "(III)I" } : Jvm.MethodName)) ∈ gws := gin m_871 rfl
theorem g_872 : (Jvm.Cond.instanceMethod ({ cls := "AnswerPostModel", name := "sheet", desc := "(III)I" } : Jvm.MethodName)) ∈ gws := gin m_872 rfl
theorem g_873 : (Jvm.Cond.selects "AnswerPostModel" ({ cls := "AnswerPostModel", name := "sheet", desc := "(III)I" } : Jvm.MethodName) ({ cls := "AnswerPostModel", name := "sheet", desc := "(III)I" } : Jvm.MethodName)) ∈ gws := gin m_873 rfl
theorem g_874 : (Jvm.Cond.code ({ cls := "AnswerPostModel", name := "sheet", desc := "(III)I" } : Jvm.MethodName) prog_13_method_47_code (5 : Nat) (Option.some Jvm.ClassFile.FieldType.int)) ∈ gws := gin m_874 rfl
theorem g_875 : (Jvm.Cond.methodLink "AnswerPostLaw" (98 : Nat) ({ cls := "AnswerPostModel", name := "lose", desc := "(I)I" } : Jvm.MethodName)) ∈ gws := gin m_875 rfl
theorem g_876 : (Jvm.Cond.instanceMethod ({ cls := "AnswerPostModel", name := "lose", desc := "(I)I" } : Jvm.MethodName)) ∈ gws := gin m_876 rfl
theorem g_877 : (Jvm.Cond.selects "AnswerPostModel" ({ cls := "AnswerPostModel", name := "lose", desc := "(I)I" } : Jvm.MethodName) ({ cls := "AnswerPostModel", name := "lose", desc := "(I)I" } : Jvm.MethodName)) ∈ gws := gin m_877 rfl
theorem g_878 : (Jvm.Cond.code ({ cls := "AnswerPostModel", name := "lose", desc := "(I)I" } : Jvm.MethodName) prog_13_method_48_code (3 : Nat) (Option.some Jvm.ClassFile.FieldType.int)) ∈ gws := gin m_878 rfl
theorem g_879 : (Jvm.Cond.methodLink "AnswerPostLaw" (102 : Nat) ({ cls := "AnswerPostModel", name := "put", desc := "(III)I" } : Jvm.MethodName)) ∈ gws := gin m_879 rfl
theorem g_880 : (Jvm.Cond.instanceMethod ({ cls := "AnswerPostModel", name := "put", desc := "(III)I" } : Jvm.MethodName)) ∈ gws := gin m_880 rfl
theorem g_881 : (Jvm.Cond.selects "AnswerPostModel" ({ cls := "AnswerPostModel", name := "put", desc := "(III)I" } : Jvm.MethodName) ({ cls := "AnswerPostModel", name := "put", desc := "(III)I" } : Jvm.MethodName)) ∈ gws := gin m_881 rfl
theorem g_882 : (Jvm.Cond.code ({ cls := "AnswerPostModel", name := "put", desc := "(III)I" } : Jvm.MethodName) prog_13_method_49_code (4 : Nat) (Option.some Jvm.ClassFile.FieldType.int)) ∈ gws := gin m_882 rfl
theorem g_883 : (Jvm.Cond.methodLink "AnswerPostLaw" (107 : Nat) ({ cls := "AnswerPostModel", name := "cell", desc := "(III)J" } : Jvm.MethodName)) ∈ gws := gin m_883 rfl
theorem g_884 : (Jvm.Cond.instanceMethod ({ cls := "AnswerPostModel", name := "cell", desc := "(III)J" } : Jvm.MethodName)) ∈ gws := gin m_884 rfl
theorem g_885 : (Jvm.Cond.selects "AnswerPostModel" ({ cls := "AnswerPostModel", name := "cell", desc := "(III)J" } : Jvm.MethodName) ({ cls := "AnswerPostModel", name := "cell", desc := "(III)J" } : Jvm.MethodName)) ∈ gws := gin m_885 rfl
theorem g_886 : (Jvm.Cond.code ({ cls := "AnswerPostModel", name := "cell", desc := "(III)J" } : Jvm.MethodName) prog_13_method_50_code (4 : Nat) (Option.some Jvm.ClassFile.FieldType.long)) ∈ gws := gin m_886 rfl
theorem g_887 : (Jvm.Cond.constantLong "AnswerPostModel" (74 : Nat) (-9223372036854775808 : Int64)) ∈ gws := gin m_887 rfl
theorem g_888 : (Jvm.Cond.methodLink "AnswerPostModel" (186 : Nat) ({ cls := "AnswerPostModel", name := "lost", desc := "(I)J" } : Jvm.MethodName)) ∈ gws := gin m_888 rfl
theorem g_890 : (Jvm.Cond.instanceMethod ({ cls := "AnswerPostModel", name := "lost", desc := "(I)J" } : Jvm.MethodName)) ∈ gws := gin m_890 rfl
theorem g_891 : (Jvm.Cond.code ({ cls := "AnswerPostModel", name := "lost", desc := "(I)J" } : Jvm.MethodName) prog_13_method_4_code (2 : Nat) (Option.some Jvm.ClassFile.FieldType.long)) ∈ gws := gin m_891 rfl
theorem g_892 : (Jvm.Cond.methodLink "AnswerPostLaw" (111 : Nat) ({ cls := "AnswerPostModel", name := "copy", desc := "(IIIII)I" } : Jvm.MethodName)) ∈ gws := gin m_892 rfl
theorem g_893 : (Jvm.Cond.instanceMethod ({ cls := "AnswerPostModel", name := "copy", desc := "(IIIII)I" } : Jvm.MethodName)) ∈ gws := gin m_893 rfl
theorem g_894 : (Jvm.Cond.selects "AnswerPostModel" ({ cls := "AnswerPostModel", name := "copy", desc := "(IIIII)I" } : Jvm.MethodName) ({ cls := "AnswerPostModel", name := "copy", desc := "(IIIII)I" } : Jvm.MethodName)) ∈ gws := gin m_894 rfl
theorem g_895 : (Jvm.Cond.code ({ cls := "AnswerPostModel", name := "copy", desc := "(IIIII)I" } : Jvm.MethodName) prog_13_method_51_code (10 : Nat) (Option.some Jvm.ClassFile.FieldType.int)) ∈ gws := gin m_895 rfl
theorem g_896 : (Jvm.Cond.methodLink "AnswerPostLaw" (115 : Nat) ({ cls := "AnswerPostModel", name := "tell", desc := "(I)I" } : Jvm.MethodName)) ∈ gws := gin m_896 rfl
theorem g_897 : (Jvm.Cond.instanceMethod ({ cls := "AnswerPostModel", name := "tell", desc := "(I)I" } : Jvm.MethodName)) ∈ gws := gin m_897 rfl
theorem g_898 : (Jvm.Cond.selects "AnswerPostModel" ({ cls := "AnswerPostModel", name := "tell", desc := "(I)I" } : Jvm.MethodName) ({ cls := "AnswerPostModel", name := "tell", desc := "(I)I" } : Jvm.MethodName)) ∈ gws := gin m_898 rfl
theorem g_899 : (Jvm.Cond.code ({ cls := "AnswerPostModel", name := "tell", desc := "(I)I" } : Jvm.MethodName) prog_13_method_53_code (3 : Nat) (Option.some Jvm.ClassFile.FieldType.int)) ∈ gws := gin m_899 rfl
theorem g_900 : (Jvm.Cond.methodLink "AnswerPostModel" (193 : Nat) ({ cls := "AnswerPostModel", name := "begins", desc := "(I)V" } : Jvm.MethodName)) ∈ gws := gin m_900 rfl
theorem g_902 : (Jvm.Cond.instanceMethod ({ cls := "AnswerPostModel", name := "begins", desc := "(I)V" } : Jvm.MethodName)) ∈ gws := gin m_902 rfl
theorem g_903 : (Jvm.Cond.code ({ cls := "AnswerPostModel", name := "begins", desc := "(I)V" } : Jvm.MethodName) prog_13_method_52_code (2 : Nat) (Option.none : Option Jvm.ClassFile.FieldType)) ∈ gws := gin m_903 rfl
theorem g_904 : (Jvm.Cond.methodLink "AnswerPostLaw" (119 : Nat) ({ cls := "AnswerPostModel", name := "greet", desc := "(I)I" } : Jvm.MethodName)) ∈ gws := gin m_904 rfl
theorem g_905 : (Jvm.Cond.instanceMethod ({ cls := "AnswerPostModel", name := "greet", desc := "(I)I" } : Jvm.MethodName)) ∈ gws := gin m_905 rfl
theorem g_906 : (Jvm.Cond.selects "AnswerPostModel" ({ cls := "AnswerPostModel", name := "greet", desc := "(I)I" } : Jvm.MethodName) ({ cls := "AnswerPostModel", name := "greet", desc := "(I)I" } : Jvm.MethodName)) ∈ gws := gin m_906 rfl
theorem g_907 : (Jvm.Cond.code ({ cls := "AnswerPostModel", name := "greet", desc := "(I)I" } : Jvm.MethodName) prog_13_method_54_code (2 : Nat) (Option.some Jvm.ClassFile.FieldType.int)) ∈ gws := gin m_907 rfl
theorem g_908 : (Jvm.Cond.methodLink "AnswerPostLaw" (123 : Nat) ({ cls := "AnswerPostModel", name := "as", desc := "(II)I" } : Jvm.MethodName)) ∈ gws := gin m_908 rfl
theorem g_909 : (Jvm.Cond.instanceMethod ({ cls := "AnswerPostModel", name := "as", desc := "(II)I" } : Jvm.MethodName)) ∈ gws := gin m_909 rfl
theorem g_910 : (Jvm.Cond.selects "AnswerPostModel" ({ cls := "AnswerPostModel", name := "as", desc := "(II)I" } : Jvm.MethodName) ({ cls := "AnswerPostModel", name := "as", desc := "(II)I" } : Jvm.MethodName)) ∈ gws := gin m_910 rfl
theorem g_911 : (Jvm.Cond.code ({ cls := "AnswerPostModel", name := "as", desc := "(II)I" } : Jvm.MethodName) prog_13_method_55_code (3 : Nat) (Option.some Jvm.ClassFile.FieldType.int)) ∈ gws := gin m_911 rfl
theorem g_912 : (Jvm.Cond.methodLink "AnswerPostLaw" (128 : Nat) ({ cls := "AnswerPostModel", name := "trace", desc := "()I" } : Jvm.MethodName)) ∈ gws := gin m_912 rfl
theorem g_913 : (Jvm.Cond.instanceMethod ({ cls := "AnswerPostModel", name := "trace", desc := "()I" } : Jvm.MethodName)) ∈ gws := gin m_913 rfl
theorem g_914 : (Jvm.Cond.selects "AnswerPostModel" ({ cls := "AnswerPostModel", name := "trace", desc := "()I" } : Jvm.MethodName) ({ cls := "AnswerPostModel", name := "trace", desc := "()I" } : Jvm.MethodName)) ∈ gws := gin m_914 rfl
theorem g_915 : (Jvm.Cond.code ({ cls := "AnswerPostModel", name := "trace", desc := "()I" } : Jvm.MethodName) prog_13_method_56_code (1 : Nat) (Option.some Jvm.ClassFile.FieldType.int)) ∈ gws := gin m_915 rfl
theorem g_916 : (Jvm.Cond.methodLink "AnswerPostLaw" (132 : Nat) ({ cls := "AnswerPostModel", name := "fault", desc := "()I" } : Jvm.MethodName)) ∈ gws := gin m_916 rfl
theorem g_917 : (Jvm.Cond.instanceMethod ({ cls := "AnswerPostModel", name := "fault", desc := "()I" } : Jvm.MethodName)) ∈ gws := gin m_917 rfl
theorem g_918 : (Jvm.Cond.selects "AnswerPostModel" ({ cls := "AnswerPostModel", name := "fault", desc := "()I" } : Jvm.MethodName) ({ cls := "AnswerPostModel", name := "fault", desc := "()I" } : Jvm.MethodName)) ∈ gws := gin m_918 rfl
theorem g_919 : (Jvm.Cond.code ({ cls := "AnswerPostModel", name := "fault", desc := "()I" } : Jvm.MethodName) prog_13_method_57_code (1 : Nat) (Option.some Jvm.ClassFile.FieldType.int)) ∈ gws := gin m_919 rfl
theorem g_920 : (Jvm.Cond.methodLink "AnswerPostLaw" (136 : Nat) ({ cls := "AnswerPostModel", name := "many", desc := "(I)I" } : Jvm.MethodName)) ∈ gws := gin m_920 rfl
theorem g_921 : (Jvm.Cond.instanceMethod ({ cls := "AnswerPostModel", name := "many", desc := "(I)I" } : Jvm.MethodName)) ∈ gws := gin m_921 rfl
theorem g_922 : (Jvm.Cond.selects "AnswerPostModel" ({ cls := "AnswerPostModel", name := "many", desc := "(I)I" } : Jvm.MethodName) ({ cls := "AnswerPostModel", name := "many", desc := "(I)I" } : Jvm.MethodName)) ∈ gws := gin m_922 rfl
theorem g_923 : (Jvm.Cond.code ({ cls := "AnswerPostModel", name := "many", desc := "(I)I" } : Jvm.MethodName) prog_13_method_58_code (2 : Nat) (Option.some Jvm.ClassFile.FieldType.int)) ∈ gws := gin m_923 rfl
theorem g_924 : (Jvm.Cond.sameMethod "AnswerPost$Miser" "AnswerPost$Miser" "shows" "(I)I") ∈ gws := gin m_924 rfl
theorem g_925 : (Jvm.Cond.sameMethod "AnswerPost$Miser" "AnswerPost$Miser" "telling" "(LAnswerPost$Trail;)I") ∈ gws := gin m_925 rfl
theorem g_926 : (Jvm.Cond.sameMethod "AnswerPost$Writer" "AnswerPost$Writer" "writersTelling" "(LAnswerPost$Trail;)I") ∈ gws := gin m_926 rfl
theorem g_927 : (Jvm.Cond.selects "AnswerPost$Lawyer" ({ cls := "AnswerPost$Writer", name := "writersTelling", desc := "(LAnswerPost$Trail;)I" } : Jvm.MethodName) ({ cls := "AnswerPost$Writer", name := "writersTelling", desc := "(LAnswerPost$Trail;)I" } : Jvm.MethodName)) ∈ gws := gin m_927 rfl
theorem g_928 : (Jvm.Cond.selects "AnswerPost$Miser" ({ cls := "AnswerPost$Writer", name := "writersTelling", desc := "(LAnswerPost$Trail;)I" } : Jvm.MethodName) ({ cls := "AnswerPost$Writer", name := "writersTelling", desc := "(LAnswerPost$Trail;)I" } : Jvm.MethodName)) ∈ gws := gin m_928 rfl
theorem g_929 : (Jvm.Cond.selects "AnswerPost$Writer" ({ cls := "AnswerPost$Writer", name := "writersTelling", desc := "(LAnswerPost$Trail;)I" } : Jvm.MethodName) ({ cls := "AnswerPost$Writer", name := "writersTelling", desc := "(LAnswerPost$Trail;)I" } : Jvm.MethodName)) ∈ gws := gin m_929 rfl
theorem g_into {y : MethodName} {bb : ByteArray} {n : Nat} {r : Option FieldType} {big : List Jvm.Cond} (hb : ∀ w ∈ gws, w ∈ big) (h : Jvm.Cond.code y bb n r ∈ gws) : GoodIn big (Jvm.Cond.code y bb n r :: gws) := by
  intro w hw
  rcases List.mem_cons.mp hw with rfl | hw
  · exact ⟨hb _ h, good_of_word (List.mem_filter.mp h).2⟩
  · exact ⟨hb _ hw, good_of_word (List.mem_filter.mp hw).2⟩
