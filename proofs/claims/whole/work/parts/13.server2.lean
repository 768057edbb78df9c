abbrev b_Queue_remove : ByteArray := prog_8_method_5_code
def y_Queue_remove : MethodName := ⟨"LeasedBuilds$Queue", "remove", "(I)V"⟩
def w_Queue_remove : List Cond := .code y_Queue_remove b_Queue_remove 4 none :: WS
abbrev b_Server_goDown : ByteArray := prog_9_method_2_code
def y_Server_goDown : MethodName := ⟨"LeasedBuilds$Server", "goDown", "()V"⟩
def w_Server_goDown : List Cond := .code y_Server_goDown b_Server_goDown 1 none :: WS
abbrev b_Server_ticksLeft : ByteArray := prog_9_method_3_code
def y_Server_ticksLeft : MethodName := ⟨"LeasedBuilds$Server", "ticksLeft", "(II)I"⟩
def w_Server_ticksLeft : List Cond := .code y_Server_ticksLeft b_Server_ticksLeft 3 (some .int) :: WS
abbrev b_Server_isNeeded : ByteArray := prog_9_method_9_code
def y_Server_isNeeded : MethodName := ⟨"LeasedBuilds$Server", "isNeeded", "(I)Z"⟩
def w_Server_isNeeded : List Cond := .code y_Server_isNeeded b_Server_isNeeded 2 (some .boolean) :: WS
abbrev b_Server_crashByCut : ByteArray := prog_9_method_10_code
def y_Server_crashByCut : MethodName := ⟨"LeasedBuilds$Server", "crashByCut", "()V"⟩
def w_Server_crashByCut : List Cond := .code y_Server_crashByCut b_Server_crashByCut 1 none :: WS
abbrev b_Server_sendLease : ByteArray := prog_9_method_13_code
def y_Server_sendLease : MethodName := ⟨"LeasedBuilds$Server", "sendLease", "(ILLeasedBuilds$Key;)V"⟩
def w_Server_sendLease : List Cond := .code y_Server_sendLease b_Server_sendLease 4 none :: WS
abbrev b_Server_answer : ByteArray := prog_9_method_15_code
def y_Server_answer : MethodName := ⟨"LeasedBuilds$Server", "answer", "(LLeasedBuilds$Key;II)V"⟩
def w_Server_answer : List Cond := .code y_Server_answer b_Server_answer 4 none :: WS
abbrev b_Server_sendLack : ByteArray := prog_9_method_14_code
def y_Server_sendLack : MethodName := ⟨"LeasedBuilds$Server", "sendLack", "(LLeasedBuilds$Message;)V"⟩
def w_Server_sendLack : List Cond := .code y_Server_sendLack b_Server_sendLack 3 none :: WS
abbrev b_Server_takeAsk : ByteArray := prog_9_method_5_code
def y_Server_takeAsk : MethodName := ⟨"LeasedBuilds$Server", "takeAsk", "(LLeasedBuilds$Message;)V"⟩
def w_Server_takeAsk : List Cond := .code y_Server_takeAsk b_Server_takeAsk 3 none :: WS
abbrev b_Server_takePut : ByteArray := prog_9_method_6_code
def y_Server_takePut : MethodName := ⟨"LeasedBuilds$Server", "takePut", "(LLeasedBuilds$Message;I)V"⟩
def w_Server_takePut : List Cond := .code y_Server_takePut b_Server_takePut 3 none :: WS
abbrev b_Server_takeResult : ByteArray := prog_9_method_7_code
def y_Server_takeResult : MethodName := ⟨"LeasedBuilds$Server", "takeResult", "(LLeasedBuilds$Message;I)V"⟩
def w_Server_takeResult : List Cond := .code y_Server_takeResult b_Server_takeResult 4 none :: WS
abbrev b_Server_endLeases : ByteArray := prog_9_method_11_code
def y_Server_endLeases : MethodName := ⟨"LeasedBuilds$Server", "endLeases", "(I)V"⟩
def w_Server_endLeases : List Cond := .code y_Server_endLeases b_Server_endLeases 3 none :: WS
theorem d_Queue_remove_0 : decode b_Queue_remove 0 = .ok (.iload_n 1, 1) := by decide +kernel
theorem d_Queue_remove_1 : decode b_Queue_remove 1 = .ok (.ifCond .lt 11, 3) := by decide +kernel
theorem d_Queue_remove_4 : decode b_Queue_remove 4 = .ok (.iload_n 1, 1) := by decide +kernel
theorem d_Queue_remove_5 : decode b_Queue_remove 5 = .ok (.aload_n 0, 1) := by decide +kernel
theorem d_Queue_remove_6 : decode b_Queue_remove 6 = .ok (.getfield 17, 3) := by decide +kernel
theorem d_Queue_remove_9 : decode b_Queue_remove 9 = .ok (.if_icmp .lt 4, 3) := by decide +kernel
theorem d_Queue_remove_12 : decode b_Queue_remove 12 = .ok (.return_, 1) := by decide +kernel
theorem d_Queue_remove_13 : decode b_Queue_remove 13 = .ok (.aload_n 0, 1) := by decide +kernel
theorem d_Queue_remove_14 : decode b_Queue_remove 14 = .ok (.getfield 11, 3) := by decide +kernel
theorem d_Queue_remove_17 : decode b_Queue_remove 17 = .ok (.iload_n 1, 1) := by decide +kernel
theorem d_Queue_remove_18 : decode b_Queue_remove 18 = .ok (.aaload, 1) := by decide +kernel
theorem d_Queue_remove_19 : decode b_Queue_remove 19 = .ok (.astore_n 2, 1) := by decide +kernel
theorem d_Queue_remove_20 : decode b_Queue_remove 20 = .ok (.iload_n 1, 1) := by decide +kernel
theorem d_Queue_remove_21 : decode b_Queue_remove 21 = .ok (.iconst 1, 1) := by decide +kernel
theorem d_Queue_remove_22 : decode b_Queue_remove 22 = .ok (.iadd, 1) := by decide +kernel
theorem d_Queue_remove_23 : decode b_Queue_remove 23 = .ok (.istore_n 3, 1) := by decide +kernel
theorem d_Queue_remove_24 : decode b_Queue_remove 24 = .ok (.iload_n 3, 1) := by decide +kernel
theorem d_Queue_remove_25 : decode b_Queue_remove 25 = .ok (.aload_n 0, 1) := by decide +kernel
theorem d_Queue_remove_26 : decode b_Queue_remove 26 = .ok (.getfield 17, 3) := by decide +kernel
theorem d_Queue_remove_29 : decode b_Queue_remove 29 = .ok (.if_icmp .ge 23, 3) := by decide +kernel
theorem d_Queue_remove_32 : decode b_Queue_remove 32 = .ok (.aload_n 0, 1) := by decide +kernel
theorem d_Queue_remove_33 : decode b_Queue_remove 33 = .ok (.getfield 11, 3) := by decide +kernel
theorem d_Queue_remove_36 : decode b_Queue_remove 36 = .ok (.iload_n 3, 1) := by decide +kernel
theorem d_Queue_remove_37 : decode b_Queue_remove 37 = .ok (.iconst 1, 1) := by decide +kernel
theorem d_Queue_remove_38 : decode b_Queue_remove 38 = .ok (.isub, 1) := by decide +kernel
theorem d_Queue_remove_39 : decode b_Queue_remove 39 = .ok (.aload_n 0, 1) := by decide +kernel
theorem d_Queue_remove_40 : decode b_Queue_remove 40 = .ok (.getfield 11, 3) := by decide +kernel
theorem d_Queue_remove_43 : decode b_Queue_remove 43 = .ok (.iload_n 3, 1) := by decide +kernel
theorem d_Queue_remove_44 : decode b_Queue_remove 44 = .ok (.aaload, 1) := by decide +kernel
theorem d_Queue_remove_45 : decode b_Queue_remove 45 = .ok (.aastore, 1) := by decide +kernel
theorem d_Queue_remove_46 : decode b_Queue_remove 46 = .ok (.iinc 3 1, 3) := by decide +kernel
theorem d_Queue_remove_49 : decode b_Queue_remove 49 = .ok (.goto (-25), 3) := by decide +kernel
theorem d_Queue_remove_52 : decode b_Queue_remove 52 = .ok (.aload_n 0, 1) := by decide +kernel
theorem d_Queue_remove_53 : decode b_Queue_remove 53 = .ok (.dup, 1) := by decide +kernel
theorem d_Queue_remove_54 : decode b_Queue_remove 54 = .ok (.getfield 17, 3) := by decide +kernel
theorem d_Queue_remove_57 : decode b_Queue_remove 57 = .ok (.iconst 1, 1) := by decide +kernel
theorem d_Queue_remove_58 : decode b_Queue_remove 58 = .ok (.isub, 1) := by decide +kernel
theorem d_Queue_remove_59 : decode b_Queue_remove 59 = .ok (.putfield 17, 3) := by decide +kernel
theorem d_Queue_remove_62 : decode b_Queue_remove 62 = .ok (.aload_n 0, 1) := by decide +kernel
theorem d_Queue_remove_63 : decode b_Queue_remove 63 = .ok (.getfield 11, 3) := by decide +kernel
theorem d_Queue_remove_66 : decode b_Queue_remove 66 = .ok (.aload_n 0, 1) := by decide +kernel
theorem d_Queue_remove_67 : decode b_Queue_remove 67 = .ok (.getfield 17, 3) := by decide +kernel
theorem d_Queue_remove_70 : decode b_Queue_remove 70 = .ok (.aload_n 2, 1) := by decide +kernel
theorem d_Queue_remove_71 : decode b_Queue_remove 71 = .ok (.aastore, 1) := by decide +kernel
theorem d_Queue_remove_72 : decode b_Queue_remove 72 = .ok (.return_, 1) := by decide +kernel
theorem d_Server_goDown_0 : decode b_Server_goDown 0 = .ok (.aload_n 0, 1) := by decide +kernel
theorem d_Server_goDown_1 : decode b_Server_goDown 1 = .ok (.iconst 0, 1) := by decide +kernel
theorem d_Server_goDown_2 : decode b_Server_goDown 2 = .ok (.putfield 25, 3) := by decide +kernel
theorem d_Server_goDown_5 : decode b_Server_goDown 5 = .ok (.aload_n 0, 1) := by decide +kernel
theorem d_Server_goDown_6 : decode b_Server_goDown 6 = .ok (.getfield 21, 3) := by decide +kernel
theorem d_Server_goDown_9 : decode b_Server_goDown 9 = .ok (.iconst 0, 1) := by decide +kernel
theorem d_Server_goDown_10 : decode b_Server_goDown 10 = .ok (.putfield 61, 3) := by decide +kernel
theorem d_Server_goDown_13 : decode b_Server_goDown 13 = .ok (.aload_n 0, 1) := by decide +kernel
theorem d_Server_goDown_14 : decode b_Server_goDown 14 = .ok (.getfield 54, 3) := by decide +kernel
theorem d_Server_goDown_17 : decode b_Server_goDown 17 = .ok (.invokevirtual 64, 3) := by decide +kernel
theorem d_Server_goDown_20 : decode b_Server_goDown 20 = .ok (.return_, 1) := by decide +kernel
theorem d_Server_ticksLeft_0 : decode b_Server_ticksLeft 0 = .ok (.aload_n 0, 1) := by decide +kernel
theorem d_Server_ticksLeft_1 : decode b_Server_ticksLeft 1 = .ok (.getfield 54, 3) := by decide +kernel
theorem d_Server_ticksLeft_4 : decode b_Server_ticksLeft 4 = .ok (.iload_n 1, 1) := by decide +kernel
theorem d_Server_ticksLeft_5 : decode b_Server_ticksLeft 5 = .ok (.invokevirtual 67, 3) := by decide +kernel
theorem d_Server_ticksLeft_8 : decode b_Server_ticksLeft 8 = .ok (.ifCond .eq 19, 3) := by decide +kernel
theorem d_Server_ticksLeft_11 : decode b_Server_ticksLeft 11 = .ok (.aload_n 0, 1) := by decide +kernel
theorem d_Server_ticksLeft_12 : decode b_Server_ticksLeft 12 = .ok (.getfield 54, 3) := by decide +kernel
theorem d_Server_ticksLeft_15 : decode b_Server_ticksLeft 15 = .ok (.getfield 71, 3) := by decide +kernel
theorem d_Server_ticksLeft_18 : decode b_Server_ticksLeft 18 = .ok (.iload_n 1, 1) := by decide +kernel
theorem d_Server_ticksLeft_19 : decode b_Server_ticksLeft 19 = .ok (.iconst 1, 1) := by decide +kernel
theorem d_Server_ticksLeft_20 : decode b_Server_ticksLeft 20 = .ok (.isub, 1) := by decide +kernel
theorem d_Server_ticksLeft_21 : decode b_Server_ticksLeft 21 = .ok (.iaload, 1) := by decide +kernel
theorem d_Server_ticksLeft_22 : decode b_Server_ticksLeft 22 = .ok (.iload_n 2, 1) := by decide +kernel
theorem d_Server_ticksLeft_23 : decode b_Server_ticksLeft 23 = .ok (.isub, 1) := by decide +kernel
theorem d_Server_ticksLeft_24 : decode b_Server_ticksLeft 24 = .ok (.goto 4, 3) := by decide +kernel
theorem d_Server_ticksLeft_27 : decode b_Server_ticksLeft 27 = .ok (.iconst (-1), 1) := by decide +kernel
theorem d_Server_ticksLeft_28 : decode b_Server_ticksLeft 28 = .ok (.ireturn, 1) := by decide +kernel
theorem d_Server_isNeeded_0 : decode b_Server_isNeeded 0 = .ok (.aload_n 0, 1) := by decide +kernel
theorem d_Server_isNeeded_1 : decode b_Server_isNeeded 1 = .ok (.getfield 12, 3) := by decide +kernel
theorem d_Server_isNeeded_4 : decode b_Server_isNeeded 4 = .ok (.iload_n 1, 1) := by decide +kernel
theorem d_Server_isNeeded_5 : decode b_Server_isNeeded 5 = .ok (.invokevirtual 160, 3) := by decide +kernel
theorem d_Server_isNeeded_8 : decode b_Server_isNeeded 8 = .ok (.ifCond .ne 25, 3) := by decide +kernel
theorem d_Server_isNeeded_11 : decode b_Server_isNeeded 11 = .ok (.aload_n 0, 1) := by decide +kernel
theorem d_Server_isNeeded_12 : decode b_Server_isNeeded 12 = .ok (.getfield 21, 3) := by decide +kernel
theorem d_Server_isNeeded_15 : decode b_Server_isNeeded 15 = .ok (.iload_n 1, 1) := by decide +kernel
theorem d_Server_isNeeded_16 : decode b_Server_isNeeded 16 = .ok (.invokevirtual 163, 3) := by decide +kernel
theorem d_Server_isNeeded_19 : decode b_Server_isNeeded 19 = .ok (.ifCond .ne 14, 3) := by decide +kernel
theorem d_Server_isNeeded_22 : decode b_Server_isNeeded 22 = .ok (.aload_n 0, 1) := by decide +kernel
theorem d_Server_isNeeded_23 : decode b_Server_isNeeded 23 = .ok (.getfield 54, 3) := by decide +kernel
theorem d_Server_isNeeded_26 : decode b_Server_isNeeded 26 = .ok (.iload_n 1, 1) := by decide +kernel
theorem d_Server_isNeeded_27 : decode b_Server_isNeeded 27 = .ok (.invokevirtual 166, 3) := by decide +kernel
theorem d_Server_isNeeded_30 : decode b_Server_isNeeded 30 = .ok (.ifCond .eq 7, 3) := by decide +kernel
theorem d_Server_isNeeded_33 : decode b_Server_isNeeded 33 = .ok (.iconst 1, 1) := by decide +kernel
theorem d_Server_isNeeded_34 : decode b_Server_isNeeded 34 = .ok (.goto 4, 3) := by decide +kernel
theorem d_Server_isNeeded_37 : decode b_Server_isNeeded 37 = .ok (.iconst 0, 1) := by decide +kernel
theorem d_Server_isNeeded_38 : decode b_Server_isNeeded 38 = .ok (.ireturn, 1) := by decide +kernel
theorem d_Server_crashByCut_0 : decode b_Server_crashByCut 0 = .ok (.aload_n 0, 1) := by decide +kernel
theorem d_Server_crashByCut_1 : decode b_Server_crashByCut 1 = .ok (.dup, 1) := by decide +kernel
theorem d_Server_crashByCut_2 : decode b_Server_crashByCut 2 = .ok (.getfield 42, 3) := by decide +kernel
theorem d_Server_crashByCut_5 : decode b_Server_crashByCut 5 = .ok (.iconst 1, 1) := by decide +kernel
theorem d_Server_crashByCut_6 : decode b_Server_crashByCut 6 = .ok (.iadd, 1) := by decide +kernel
theorem d_Server_crashByCut_7 : decode b_Server_crashByCut 7 = .ok (.putfield 42, 3) := by decide +kernel
theorem d_Server_crashByCut_10 : decode b_Server_crashByCut 10 = .ok (.aload_n 0, 1) := by decide +kernel
theorem d_Server_crashByCut_11 : decode b_Server_crashByCut 11 = .ok (.invokevirtual 167, 3) := by decide +kernel
theorem d_Server_crashByCut_14 : decode b_Server_crashByCut 14 = .ok (.return_, 1) := by decide +kernel
theorem d_Server_sendLease_0 : decode b_Server_sendLease 0 = .ok (.aload_n 0, 1) := by decide +kernel
theorem d_Server_sendLease_1 : decode b_Server_sendLease 1 = .ok (.getfield 45, 3) := by decide +kernel
theorem d_Server_sendLease_4 : decode b_Server_sendLease 4 = .ok (.iconst 4, 1) := by decide +kernel
theorem d_Server_sendLease_5 : decode b_Server_sendLease 5 = .ok (.iload_n 1, 1) := by decide +kernel
theorem d_Server_sendLease_6 : decode b_Server_sendLease 6 = .ok (.invokevirtual 192, 3) := by decide +kernel
theorem d_Server_sendLease_9 : decode b_Server_sendLease 9 = .ok (.astore_n 3, 1) := by decide +kernel
theorem d_Server_sendLease_10 : decode b_Server_sendLease 10 = .ok (.aload_n 3, 1) := by decide +kernel
theorem d_Server_sendLease_11 : decode b_Server_sendLease 11 = .ok (.getfield 81, 3) := by decide +kernel
theorem d_Server_sendLease_14 : decode b_Server_sendLease 14 = .ok (.aload_n 2, 1) := by decide +kernel
theorem d_Server_sendLease_15 : decode b_Server_sendLease 15 = .ok (.invokevirtual 198, 3) := by decide +kernel
theorem d_Server_sendLease_18 : decode b_Server_sendLease 18 = .ok (.aload_n 3, 1) := by decide +kernel
theorem d_Server_sendLease_19 : decode b_Server_sendLease 19 = .ok (.aload_n 0, 1) := by decide +kernel
theorem d_Server_sendLease_20 : decode b_Server_sendLease 20 = .ok (.getfield 12, 3) := by decide +kernel
theorem d_Server_sendLease_23 : decode b_Server_sendLease 23 = .ok (.aload_n 2, 1) := by decide +kernel
theorem d_Server_sendLease_24 : decode b_Server_sendLease 24 = .ok (.getfield 102, 3) := by decide +kernel
theorem d_Server_sendLease_27 : decode b_Server_sendLease 27 = .ok (.invokevirtual 94, 3) := by decide +kernel
theorem d_Server_sendLease_30 : decode b_Server_sendLease 30 = .ok (.putfield 131, 3) := by decide +kernel
theorem d_Server_sendLease_33 : decode b_Server_sendLease 33 = .ok (.aload_n 3, 1) := by decide +kernel
theorem d_Server_sendLease_34 : decode b_Server_sendLease 34 = .ok (.aload_n 0, 1) := by decide +kernel
theorem d_Server_sendLease_35 : decode b_Server_sendLease 35 = .ok (.getfield 12, 3) := by decide +kernel
theorem d_Server_sendLease_38 : decode b_Server_sendLease 38 = .ok (.aload_n 2, 1) := by decide +kernel
theorem d_Server_sendLease_39 : decode b_Server_sendLease 39 = .ok (.getfield 110, 3) := by decide +kernel
theorem d_Server_sendLease_42 : decode b_Server_sendLease 42 = .ok (.invokevirtual 94, 3) := by decide +kernel
theorem d_Server_sendLease_45 : decode b_Server_sendLease 45 = .ok (.putfield 201, 3) := by decide +kernel
theorem d_Server_sendLease_48 : decode b_Server_sendLease 48 = .ok (.return_, 1) := by decide +kernel
theorem d_Server_answer_0 : decode b_Server_answer 0 = .ok (.aload_n 0, 1) := by decide +kernel
theorem d_Server_answer_1 : decode b_Server_answer 1 = .ok (.getfield 45, 3) := by decide +kernel
theorem d_Server_answer_4 : decode b_Server_answer 4 = .ok (.bipush 6, 2) := by decide +kernel
theorem d_Server_answer_6 : decode b_Server_answer 6 = .ok (.bipush 9, 2) := by decide +kernel
theorem d_Server_answer_8 : decode b_Server_answer 8 = .ok (.invokevirtual 192, 3) := by decide +kernel
theorem d_Server_answer_11 : decode b_Server_answer 11 = .ok (.aload_n 1, 1) := by decide +kernel
theorem d_Server_answer_12 : decode b_Server_answer 12 = .ok (.iload_n 2, 1) := by decide +kernel
theorem d_Server_answer_13 : decode b_Server_answer 13 = .ok (.iload_n 3, 1) := by decide +kernel
theorem d_Server_answer_14 : decode b_Server_answer 14 = .ok (.invokevirtual 213, 3) := by decide +kernel
theorem d_Server_answer_17 : decode b_Server_answer 17 = .ok (.return_, 1) := by decide +kernel
theorem d_Server_sendLack_0 : decode b_Server_sendLack 0 = .ok (.aload_n 0, 1) := by decide +kernel
theorem d_Server_sendLack_1 : decode b_Server_sendLack 1 = .ok (.getfield 45, 3) := by decide +kernel
theorem d_Server_sendLack_4 : decode b_Server_sendLack 4 = .ok (.iconst 2, 1) := by decide +kernel
theorem d_Server_sendLack_5 : decode b_Server_sendLack 5 = .ok (.bipush 9, 2) := by decide +kernel
theorem d_Server_sendLack_7 : decode b_Server_sendLack 7 = .ok (.invokevirtual 192, 3) := by decide +kernel
theorem d_Server_sendLack_10 : decode b_Server_sendLack 10 = .ok (.astore_n 2, 1) := by decide +kernel
theorem d_Server_sendLack_11 : decode b_Server_sendLack 11 = .ok (.aload_n 2, 1) := by decide +kernel
theorem d_Server_sendLack_12 : decode b_Server_sendLack 12 = .ok (.aload_n 1, 1) := by decide +kernel
theorem d_Server_sendLack_13 : decode b_Server_sendLack 13 = .ok (.getfield 204, 3) := by decide +kernel
theorem d_Server_sendLack_16 : decode b_Server_sendLack 16 = .ok (.putfield 204, 3) := by decide +kernel
theorem d_Server_sendLack_19 : decode b_Server_sendLack 19 = .ok (.aload_n 2, 1) := by decide +kernel
theorem d_Server_sendLack_20 : decode b_Server_sendLack 20 = .ok (.aload_n 0, 1) := by decide +kernel
theorem d_Server_sendLack_21 : decode b_Server_sendLack 21 = .ok (.getfield 12, 3) := by decide +kernel
theorem d_Server_sendLack_24 : decode b_Server_sendLack 24 = .ok (.aload_n 1, 1) := by decide +kernel
theorem d_Server_sendLack_25 : decode b_Server_sendLack 25 = .ok (.getfield 81, 3) := by decide +kernel
theorem d_Server_sendLack_28 : decode b_Server_sendLack 28 = .ok (.getfield 102, 3) := by decide +kernel
theorem d_Server_sendLack_31 : decode b_Server_sendLack 31 = .ok (.invokevirtual 107, 3) := by decide +kernel
theorem d_Server_sendLack_34 : decode b_Server_sendLack 34 = .ok (.ifCond .ne 7, 3) := by decide +kernel
theorem d_Server_sendLack_37 : decode b_Server_sendLack 37 = .ok (.iconst 1, 1) := by decide +kernel
theorem d_Server_sendLack_38 : decode b_Server_sendLack 38 = .ok (.goto 4, 3) := by decide +kernel
theorem d_Server_sendLack_41 : decode b_Server_sendLack 41 = .ok (.iconst 0, 1) := by decide +kernel
theorem d_Server_sendLack_42 : decode b_Server_sendLack 42 = .ok (.putfield 207, 3) := by decide +kernel
theorem d_Server_sendLack_45 : decode b_Server_sendLack 45 = .ok (.aload_n 2, 1) := by decide +kernel
theorem d_Server_sendLack_46 : decode b_Server_sendLack 46 = .ok (.aload_n 0, 1) := by decide +kernel
theorem d_Server_sendLack_47 : decode b_Server_sendLack 47 = .ok (.getfield 12, 3) := by decide +kernel
theorem d_Server_sendLack_50 : decode b_Server_sendLack 50 = .ok (.aload_n 1, 1) := by decide +kernel
theorem d_Server_sendLack_51 : decode b_Server_sendLack 51 = .ok (.getfield 81, 3) := by decide +kernel
theorem d_Server_sendLack_54 : decode b_Server_sendLack 54 = .ok (.getfield 110, 3) := by decide +kernel
theorem d_Server_sendLack_57 : decode b_Server_sendLack 57 = .ok (.invokevirtual 107, 3) := by decide +kernel
theorem d_Server_sendLack_60 : decode b_Server_sendLack 60 = .ok (.ifCond .ne 7, 3) := by decide +kernel
theorem d_Server_sendLack_63 : decode b_Server_sendLack 63 = .ok (.iconst 1, 1) := by decide +kernel
theorem d_Server_sendLack_64 : decode b_Server_sendLack 64 = .ok (.goto 4, 3) := by decide +kernel
theorem d_Server_sendLack_67 : decode b_Server_sendLack 67 = .ok (.iconst 0, 1) := by decide +kernel
theorem d_Server_sendLack_68 : decode b_Server_sendLack 68 = .ok (.putfield 210, 3) := by decide +kernel
theorem d_Server_sendLack_71 : decode b_Server_sendLack 71 = .ok (.return_, 1) := by decide +kernel
theorem d_Server_takeAsk_0 : decode b_Server_takeAsk 0 = .ok (.aload_n 0, 1) := by decide +kernel
theorem d_Server_takeAsk_1 : decode b_Server_takeAsk 1 = .ok (.getfield 12, 3) := by decide +kernel
theorem d_Server_takeAsk_4 : decode b_Server_takeAsk 4 = .ok (.aload_n 1, 1) := by decide +kernel
theorem d_Server_takeAsk_5 : decode b_Server_takeAsk 5 = .ok (.getfield 81, 3) := by decide +kernel
theorem d_Server_takeAsk_8 : decode b_Server_takeAsk 8 = .ok (.invokevirtual 87, 3) := by decide +kernel
theorem d_Server_takeAsk_11 : decode b_Server_takeAsk 11 = .ok (.istore_n 2, 1) := by decide +kernel
theorem d_Server_takeAsk_12 : decode b_Server_takeAsk 12 = .ok (.iload_n 2, 1) := by decide +kernel
theorem d_Server_takeAsk_13 : decode b_Server_takeAsk 13 = .ok (.iconst (-1), 1) := by decide +kernel
theorem d_Server_takeAsk_14 : decode b_Server_takeAsk 14 = .ok (.if_icmp .eq 49, 3) := by decide +kernel
theorem d_Server_takeAsk_17 : decode b_Server_takeAsk 17 = .ok (.aload_n 0, 1) := by decide +kernel
theorem d_Server_takeAsk_18 : decode b_Server_takeAsk 18 = .ok (.dup, 1) := by decide +kernel
theorem d_Server_takeAsk_19 : decode b_Server_takeAsk 19 = .ok (.getfield 36, 3) := by decide +kernel
theorem d_Server_takeAsk_22 : decode b_Server_takeAsk 22 = .ok (.iconst 1, 1) := by decide +kernel
theorem d_Server_takeAsk_23 : decode b_Server_takeAsk 23 = .ok (.iadd, 1) := by decide +kernel
theorem d_Server_takeAsk_24 : decode b_Server_takeAsk 24 = .ok (.putfield 36, 3) := by decide +kernel
theorem d_Server_takeAsk_27 : decode b_Server_takeAsk 27 = .ok (.aload_n 0, 1) := by decide +kernel
theorem d_Server_takeAsk_28 : decode b_Server_takeAsk 28 = .ok (.aload_n 1, 1) := by decide +kernel
theorem d_Server_takeAsk_29 : decode b_Server_takeAsk 29 = .ok (.getfield 81, 3) := by decide +kernel
theorem d_Server_takeAsk_32 : decode b_Server_takeAsk 32 = .ok (.aload_n 0, 1) := by decide +kernel
theorem d_Server_takeAsk_33 : decode b_Server_takeAsk 33 = .ok (.getfield 12, 3) := by decide +kernel
theorem d_Server_takeAsk_36 : decode b_Server_takeAsk 36 = .ok (.getfield 91, 3) := by decide +kernel
theorem d_Server_takeAsk_39 : decode b_Server_takeAsk 39 = .ok (.iload_n 2, 1) := by decide +kernel
theorem d_Server_takeAsk_40 : decode b_Server_takeAsk 40 = .ok (.iaload, 1) := by decide +kernel
theorem d_Server_takeAsk_41 : decode b_Server_takeAsk 41 = .ok (.aload_n 0, 1) := by decide +kernel
theorem d_Server_takeAsk_42 : decode b_Server_takeAsk 42 = .ok (.getfield 12, 3) := by decide +kernel
theorem d_Server_takeAsk_45 : decode b_Server_takeAsk 45 = .ok (.aload_n 0, 1) := by decide +kernel
theorem d_Server_takeAsk_46 : decode b_Server_takeAsk 46 = .ok (.getfield 12, 3) := by decide +kernel
theorem d_Server_takeAsk_49 : decode b_Server_takeAsk 49 = .ok (.getfield 91, 3) := by decide +kernel
theorem d_Server_takeAsk_52 : decode b_Server_takeAsk 52 = .ok (.iload_n 2, 1) := by decide +kernel
theorem d_Server_takeAsk_53 : decode b_Server_takeAsk 53 = .ok (.iaload, 1) := by decide +kernel
theorem d_Server_takeAsk_54 : decode b_Server_takeAsk 54 = .ok (.invokevirtual 94, 3) := by decide +kernel
theorem d_Server_takeAsk_57 : decode b_Server_takeAsk 57 = .ok (.invokevirtual 98, 3) := by decide +kernel
theorem d_Server_takeAsk_60 : decode b_Server_takeAsk 60 = .ok (.goto 86, 3) := by decide +kernel
theorem d_Server_takeAsk_63 : decode b_Server_takeAsk 63 = .ok (.aload_n 0, 1) := by decide +kernel
theorem d_Server_takeAsk_64 : decode b_Server_takeAsk 64 = .ok (.getfield 12, 3) := by decide +kernel
theorem d_Server_takeAsk_67 : decode b_Server_takeAsk 67 = .ok (.aload_n 1, 1) := by decide +kernel
theorem d_Server_takeAsk_68 : decode b_Server_takeAsk 68 = .ok (.getfield 81, 3) := by decide +kernel
theorem d_Server_takeAsk_71 : decode b_Server_takeAsk 71 = .ok (.getfield 102, 3) := by decide +kernel
theorem d_Server_takeAsk_74 : decode b_Server_takeAsk 74 = .ok (.invokevirtual 107, 3) := by decide +kernel
theorem d_Server_takeAsk_77 : decode b_Server_takeAsk 77 = .ok (.ifCond .eq 20, 3) := by decide +kernel
theorem d_Server_takeAsk_80 : decode b_Server_takeAsk 80 = .ok (.aload_n 0, 1) := by decide +kernel
theorem d_Server_takeAsk_81 : decode b_Server_takeAsk 81 = .ok (.getfield 12, 3) := by decide +kernel
theorem d_Server_takeAsk_84 : decode b_Server_takeAsk 84 = .ok (.aload_n 1, 1) := by decide +kernel
theorem d_Server_takeAsk_85 : decode b_Server_takeAsk 85 = .ok (.getfield 81, 3) := by decide +kernel
theorem d_Server_takeAsk_88 : decode b_Server_takeAsk 88 = .ok (.getfield 110, 3) := by decide +kernel
theorem d_Server_takeAsk_91 : decode b_Server_takeAsk 91 = .ok (.invokevirtual 107, 3) := by decide +kernel
theorem d_Server_takeAsk_94 : decode b_Server_takeAsk 94 = .ok (.ifCond .ne 11, 3) := by decide +kernel
theorem d_Server_takeAsk_97 : decode b_Server_takeAsk 97 = .ok (.aload_n 0, 1) := by decide +kernel
theorem d_Server_takeAsk_98 : decode b_Server_takeAsk 98 = .ok (.aload_n 1, 1) := by decide +kernel
theorem d_Server_takeAsk_99 : decode b_Server_takeAsk 99 = .ok (.invokevirtual 113, 3) := by decide +kernel
theorem d_Server_takeAsk_102 : decode b_Server_takeAsk 102 = .ok (.goto 44, 3) := by decide +kernel
theorem d_Server_takeAsk_105 : decode b_Server_takeAsk 105 = .ok (.aload_n 0, 1) := by decide +kernel
theorem d_Server_takeAsk_106 : decode b_Server_takeAsk 106 = .ok (.getfield 21, 3) := by decide +kernel
theorem d_Server_takeAsk_109 : decode b_Server_takeAsk 109 = .ok (.aload_n 1, 1) := by decide +kernel
theorem d_Server_takeAsk_110 : decode b_Server_takeAsk 110 = .ok (.getfield 81, 3) := by decide +kernel
theorem d_Server_takeAsk_113 : decode b_Server_takeAsk 113 = .ok (.invokevirtual 117, 3) := by decide +kernel
theorem d_Server_takeAsk_116 : decode b_Server_takeAsk 116 = .ok (.iconst (-1), 1) := by decide +kernel
theorem d_Server_takeAsk_117 : decode b_Server_takeAsk 117 = .ok (.if_icmp .ne 29, 3) := by decide +kernel
theorem d_Server_takeAsk_120 : decode b_Server_takeAsk 120 = .ok (.aload_n 0, 1) := by decide +kernel
theorem d_Server_takeAsk_121 : decode b_Server_takeAsk 121 = .ok (.getfield 54, 3) := by decide +kernel
theorem d_Server_takeAsk_124 : decode b_Server_takeAsk 124 = .ok (.aload_n 1, 1) := by decide +kernel
theorem d_Server_takeAsk_125 : decode b_Server_takeAsk 125 = .ok (.getfield 81, 3) := by decide +kernel
theorem d_Server_takeAsk_128 : decode b_Server_takeAsk 128 = .ok (.invokevirtual 120, 3) := by decide +kernel
theorem d_Server_takeAsk_131 : decode b_Server_takeAsk 131 = .ok (.iconst (-1), 1) := by decide +kernel
theorem d_Server_takeAsk_132 : decode b_Server_takeAsk 132 = .ok (.if_icmp .ne 14, 3) := by decide +kernel
theorem d_Server_takeAsk_135 : decode b_Server_takeAsk 135 = .ok (.aload_n 0, 1) := by decide +kernel
theorem d_Server_takeAsk_136 : decode b_Server_takeAsk 136 = .ok (.getfield 21, 3) := by decide +kernel
theorem d_Server_takeAsk_139 : decode b_Server_takeAsk 139 = .ok (.aload_n 1, 1) := by decide +kernel
theorem d_Server_takeAsk_140 : decode b_Server_takeAsk 140 = .ok (.getfield 81, 3) := by decide +kernel
theorem d_Server_takeAsk_143 : decode b_Server_takeAsk 143 = .ok (.invokevirtual 121, 3) := by decide +kernel
theorem d_Server_takeAsk_146 : decode b_Server_takeAsk 146 = .ok (.return_, 1) := by decide +kernel
theorem d_Server_takePut_0 : decode b_Server_takePut 0 = .ok (.aload_n 0, 1) := by decide +kernel
theorem d_Server_takePut_1 : decode b_Server_takePut 1 = .ok (.getfield 12, 3) := by decide +kernel
theorem d_Server_takePut_4 : decode b_Server_takePut 4 = .ok (.aload_n 1, 1) := by decide +kernel
theorem d_Server_takePut_5 : decode b_Server_takePut 5 = .ok (.getfield 125, 3) := by decide +kernel
theorem d_Server_takePut_8 : decode b_Server_takePut 8 = .ok (.invokevirtual 107, 3) := by decide +kernel
theorem d_Server_takePut_11 : decode b_Server_takePut 11 = .ok (.ifCond .eq 4, 3) := by decide +kernel
theorem d_Server_takePut_14 : decode b_Server_takePut 14 = .ok (.return_, 1) := by decide +kernel
theorem d_Server_takePut_15 : decode b_Server_takePut 15 = .ok (.iload_n 2, 1) := by decide +kernel
theorem d_Server_takePut_16 : decode b_Server_takePut 16 = .ok (.ifCond .ne 8, 3) := by decide +kernel
theorem d_Server_takePut_19 : decode b_Server_takePut 19 = .ok (.aload_n 0, 1) := by decide +kernel
theorem d_Server_takePut_20 : decode b_Server_takePut 20 = .ok (.invokevirtual 128, 3) := by decide +kernel
theorem d_Server_takePut_23 : decode b_Server_takePut 23 = .ok (.return_, 1) := by decide +kernel
theorem d_Server_takePut_24 : decode b_Server_takePut 24 = .ok (.aload_n 0, 1) := by decide +kernel
theorem d_Server_takePut_25 : decode b_Server_takePut 25 = .ok (.getfield 12, 3) := by decide +kernel
theorem d_Server_takePut_28 : decode b_Server_takePut 28 = .ok (.aload_n 1, 1) := by decide +kernel
theorem d_Server_takePut_29 : decode b_Server_takePut 29 = .ok (.getfield 125, 3) := by decide +kernel
theorem d_Server_takePut_32 : decode b_Server_takePut 32 = .ok (.aload_n 1, 1) := by decide +kernel
theorem d_Server_takePut_33 : decode b_Server_takePut 33 = .ok (.getfield 131, 3) := by decide +kernel
theorem d_Server_takePut_36 : decode b_Server_takePut 36 = .ok (.invokevirtual 134, 3) := by decide +kernel
theorem d_Server_takePut_39 : decode b_Server_takePut 39 = .ok (.aload_n 0, 1) := by decide +kernel
theorem d_Server_takePut_40 : decode b_Server_takePut 40 = .ok (.dup, 1) := by decide +kernel
theorem d_Server_takePut_41 : decode b_Server_takePut 41 = .ok (.getfield 33, 3) := by decide +kernel
theorem d_Server_takePut_44 : decode b_Server_takePut 44 = .ok (.iconst 1, 1) := by decide +kernel
theorem d_Server_takePut_45 : decode b_Server_takePut 45 = .ok (.iadd, 1) := by decide +kernel
theorem d_Server_takePut_46 : decode b_Server_takePut 46 = .ok (.putfield 33, 3) := by decide +kernel
theorem d_Server_takePut_49 : decode b_Server_takePut 49 = .ok (.return_, 1) := by decide +kernel
theorem d_Server_takeResult_0 : decode b_Server_takeResult 0 = .ok (.aload_n 0, 1) := by decide +kernel
theorem d_Server_takeResult_1 : decode b_Server_takeResult 1 = .ok (.getfield 12, 3) := by decide +kernel
theorem d_Server_takeResult_4 : decode b_Server_takeResult 4 = .ok (.aload_n 1, 1) := by decide +kernel
theorem d_Server_takeResult_5 : decode b_Server_takeResult 5 = .ok (.getfield 81, 3) := by decide +kernel
theorem d_Server_takeResult_8 : decode b_Server_takeResult 8 = .ok (.invokevirtual 87, 3) := by decide +kernel
theorem d_Server_takeResult_11 : decode b_Server_takeResult 11 = .ok (.iconst (-1), 1) := by decide +kernel
theorem d_Server_takeResult_12 : decode b_Server_takeResult 12 = .ok (.if_icmp .eq 14, 3) := by decide +kernel
theorem d_Server_takeResult_15 : decode b_Server_takeResult 15 = .ok (.aload_n 0, 1) := by decide +kernel
theorem d_Server_takeResult_16 : decode b_Server_takeResult 16 = .ok (.dup, 1) := by decide +kernel
theorem d_Server_takeResult_17 : decode b_Server_takeResult 17 = .ok (.getfield 39, 3) := by decide +kernel
theorem d_Server_takeResult_20 : decode b_Server_takeResult 20 = .ok (.iconst 1, 1) := by decide +kernel
theorem d_Server_takeResult_21 : decode b_Server_takeResult 21 = .ok (.iadd, 1) := by decide +kernel
theorem d_Server_takeResult_22 : decode b_Server_takeResult 22 = .ok (.putfield 39, 3) := by decide +kernel
theorem d_Server_takeResult_25 : decode b_Server_takeResult 25 = .ok (.return_, 1) := by decide +kernel
theorem d_Server_takeResult_26 : decode b_Server_takeResult 26 = .ok (.iconst 0, 1) := by decide +kernel
theorem d_Server_takeResult_27 : decode b_Server_takeResult 27 = .ok (.istore_n 3, 1) := by decide +kernel
theorem d_Server_takeResult_28 : decode b_Server_takeResult 28 = .ok (.aload_n 0, 1) := by decide +kernel
theorem d_Server_takeResult_29 : decode b_Server_takeResult 29 = .ok (.getfield 12, 3) := by decide +kernel
theorem d_Server_takeResult_32 : decode b_Server_takeResult 32 = .ok (.aload_n 1, 1) := by decide +kernel
theorem d_Server_takeResult_33 : decode b_Server_takeResult 33 = .ok (.getfield 125, 3) := by decide +kernel
theorem d_Server_takeResult_36 : decode b_Server_takeResult 36 = .ok (.invokevirtual 107, 3) := by decide +kernel
theorem d_Server_takeResult_39 : decode b_Server_takeResult 39 = .ok (.ifCond .ne 31, 3) := by decide +kernel
theorem d_Server_takeResult_42 : decode b_Server_takeResult 42 = .ok (.iload_n 2, 1) := by decide +kernel
theorem d_Server_takeResult_43 : decode b_Server_takeResult 43 = .ok (.iload_n 3, 1) := by decide +kernel
theorem d_Server_takeResult_44 : decode b_Server_takeResult 44 = .ok (.if_icmp .ne 8, 3) := by decide +kernel
theorem d_Server_takeResult_47 : decode b_Server_takeResult 47 = .ok (.aload_n 0, 1) := by decide +kernel
theorem d_Server_takeResult_48 : decode b_Server_takeResult 48 = .ok (.invokevirtual 128, 3) := by decide +kernel
theorem d_Server_takeResult_51 : decode b_Server_takeResult 51 = .ok (.return_, 1) := by decide +kernel
theorem d_Server_takeResult_52 : decode b_Server_takeResult 52 = .ok (.aload_n 0, 1) := by decide +kernel
theorem d_Server_takeResult_53 : decode b_Server_takeResult 53 = .ok (.getfield 12, 3) := by decide +kernel
theorem d_Server_takeResult_56 : decode b_Server_takeResult 56 = .ok (.aload_n 1, 1) := by decide +kernel
theorem d_Server_takeResult_57 : decode b_Server_takeResult 57 = .ok (.getfield 125, 3) := by decide +kernel
theorem d_Server_takeResult_60 : decode b_Server_takeResult 60 = .ok (.aload_n 1, 1) := by decide +kernel
theorem d_Server_takeResult_61 : decode b_Server_takeResult 61 = .ok (.getfield 131, 3) := by decide +kernel
theorem d_Server_takeResult_64 : decode b_Server_takeResult 64 = .ok (.invokevirtual 134, 3) := by decide +kernel
theorem d_Server_takeResult_67 : decode b_Server_takeResult 67 = .ok (.iinc 3 1, 3) := by decide +kernel
theorem d_Server_takeResult_70 : decode b_Server_takeResult 70 = .ok (.iload_n 2, 1) := by decide +kernel
theorem d_Server_takeResult_71 : decode b_Server_takeResult 71 = .ok (.iload_n 3, 1) := by decide +kernel
theorem d_Server_takeResult_72 : decode b_Server_takeResult 72 = .ok (.if_icmp .ne 8, 3) := by decide +kernel
theorem d_Server_takeResult_75 : decode b_Server_takeResult 75 = .ok (.aload_n 0, 1) := by decide +kernel
theorem d_Server_takeResult_76 : decode b_Server_takeResult 76 = .ok (.invokevirtual 128, 3) := by decide +kernel
theorem d_Server_takeResult_79 : decode b_Server_takeResult 79 = .ok (.return_, 1) := by decide +kernel
theorem d_Server_takeResult_80 : decode b_Server_takeResult 80 = .ok (.aload_n 0, 1) := by decide +kernel
theorem d_Server_takeResult_81 : decode b_Server_takeResult 81 = .ok (.getfield 12, 3) := by decide +kernel
theorem d_Server_takeResult_84 : decode b_Server_takeResult 84 = .ok (.aload_n 1, 1) := by decide +kernel
theorem d_Server_takeResult_85 : decode b_Server_takeResult 85 = .ok (.getfield 81, 3) := by decide +kernel
theorem d_Server_takeResult_88 : decode b_Server_takeResult 88 = .ok (.aload_n 1, 1) := by decide +kernel
theorem d_Server_takeResult_89 : decode b_Server_takeResult 89 = .ok (.getfield 125, 3) := by decide +kernel
theorem d_Server_takeResult_92 : decode b_Server_takeResult 92 = .ok (.invokevirtual 138, 3) := by decide +kernel
theorem d_Server_takeResult_95 : decode b_Server_takeResult 95 = .ok (.aload_n 0, 1) := by decide +kernel
theorem d_Server_takeResult_96 : decode b_Server_takeResult 96 = .ok (.getfield 21, 3) := by decide +kernel
theorem d_Server_takeResult_99 : decode b_Server_takeResult 99 = .ok (.aload_n 0, 1) := by decide +kernel
theorem d_Server_takeResult_100 : decode b_Server_takeResult 100 = .ok (.getfield 21, 3) := by decide +kernel
theorem d_Server_takeResult_103 : decode b_Server_takeResult 103 = .ok (.aload_n 1, 1) := by decide +kernel
theorem d_Server_takeResult_104 : decode b_Server_takeResult 104 = .ok (.getfield 81, 3) := by decide +kernel
theorem d_Server_takeResult_107 : decode b_Server_takeResult 107 = .ok (.invokevirtual 117, 3) := by decide +kernel
theorem d_Server_takeResult_110 : decode b_Server_takeResult 110 = .ok (.invokevirtual 142, 3) := by decide +kernel
theorem d_Server_takeResult_113 : decode b_Server_takeResult 113 = .ok (.aload_n 0, 1) := by decide +kernel
theorem d_Server_takeResult_114 : decode b_Server_takeResult 114 = .ok (.getfield 54, 3) := by decide +kernel
theorem d_Server_takeResult_117 : decode b_Server_takeResult 117 = .ok (.aload_n 0, 1) := by decide +kernel
theorem d_Server_takeResult_118 : decode b_Server_takeResult 118 = .ok (.getfield 54, 3) := by decide +kernel
theorem d_Server_takeResult_121 : decode b_Server_takeResult 121 = .ok (.aload_n 1, 1) := by decide +kernel
theorem d_Server_takeResult_122 : decode b_Server_takeResult 122 = .ok (.getfield 81, 3) := by decide +kernel
theorem d_Server_takeResult_125 : decode b_Server_takeResult 125 = .ok (.invokevirtual 120, 3) := by decide +kernel
theorem d_Server_takeResult_128 : decode b_Server_takeResult 128 = .ok (.invokevirtual 145, 3) := by decide +kernel
theorem d_Server_takeResult_131 : decode b_Server_takeResult 131 = .ok (.aload_n 0, 1) := by decide +kernel
theorem d_Server_takeResult_132 : decode b_Server_takeResult 132 = .ok (.aload_n 1, 1) := by decide +kernel
theorem d_Server_takeResult_133 : decode b_Server_takeResult 133 = .ok (.getfield 81, 3) := by decide +kernel
theorem d_Server_takeResult_136 : decode b_Server_takeResult 136 = .ok (.aload_n 1, 1) := by decide +kernel
theorem d_Server_takeResult_137 : decode b_Server_takeResult 137 = .ok (.getfield 125, 3) := by decide +kernel
theorem d_Server_takeResult_140 : decode b_Server_takeResult 140 = .ok (.aload_n 1, 1) := by decide +kernel
theorem d_Server_takeResult_141 : decode b_Server_takeResult 141 = .ok (.getfield 131, 3) := by decide +kernel
theorem d_Server_takeResult_144 : decode b_Server_takeResult 144 = .ok (.invokevirtual 98, 3) := by decide +kernel
theorem d_Server_takeResult_147 : decode b_Server_takeResult 147 = .ok (.return_, 1) := by decide +kernel
theorem d_Server_endLeases_0 : decode b_Server_endLeases 0 = .ok (.iconst 1, 1) := by decide +kernel
theorem d_Server_endLeases_1 : decode b_Server_endLeases 1 = .ok (.istore_n 2, 1) := by decide +kernel
theorem d_Server_endLeases_2 : decode b_Server_endLeases 2 = .ok (.iload_n 2, 1) := by decide +kernel
theorem d_Server_endLeases_3 : decode b_Server_endLeases 3 = .ok (.aload_n 0, 1) := by decide +kernel
theorem d_Server_endLeases_4 : decode b_Server_endLeases 4 = .ok (.getfield 54, 3) := by decide +kernel
theorem d_Server_endLeases_7 : decode b_Server_endLeases 7 = .ok (.invokevirtual 170, 3) := by decide +kernel
theorem d_Server_endLeases_10 : decode b_Server_endLeases 10 = .ok (.if_icmp .gt 61, 3) := by decide +kernel
theorem d_Server_endLeases_13 : decode b_Server_endLeases 13 = .ok (.aload_n 0, 1) := by decide +kernel
theorem d_Server_endLeases_14 : decode b_Server_endLeases 14 = .ok (.getfield 54, 3) := by decide +kernel
theorem d_Server_endLeases_17 : decode b_Server_endLeases 17 = .ok (.iload_n 2, 1) := by decide +kernel
theorem d_Server_endLeases_18 : decode b_Server_endLeases 18 = .ok (.invokevirtual 67, 3) := by decide +kernel
theorem d_Server_endLeases_21 : decode b_Server_endLeases 21 = .ok (.ifCond .eq 44, 3) := by decide +kernel
theorem d_Server_endLeases_24 : decode b_Server_endLeases 24 = .ok (.aload_n 0, 1) := by decide +kernel
theorem d_Server_endLeases_25 : decode b_Server_endLeases 25 = .ok (.getfield 54, 3) := by decide +kernel
theorem d_Server_endLeases_28 : decode b_Server_endLeases 28 = .ok (.getfield 71, 3) := by decide +kernel
theorem d_Server_endLeases_31 : decode b_Server_endLeases 31 = .ok (.iload_n 2, 1) := by decide +kernel
theorem d_Server_endLeases_32 : decode b_Server_endLeases 32 = .ok (.iconst 1, 1) := by decide +kernel
theorem d_Server_endLeases_33 : decode b_Server_endLeases 33 = .ok (.isub, 1) := by decide +kernel
theorem d_Server_endLeases_34 : decode b_Server_endLeases 34 = .ok (.iaload, 1) := by decide +kernel
theorem d_Server_endLeases_35 : decode b_Server_endLeases 35 = .ok (.iload_n 1, 1) := by decide +kernel
theorem d_Server_endLeases_36 : decode b_Server_endLeases 36 = .ok (.if_icmp .gt 29, 3) := by decide +kernel
theorem d_Server_endLeases_39 : decode b_Server_endLeases 39 = .ok (.aload_n 0, 1) := by decide +kernel
theorem d_Server_endLeases_40 : decode b_Server_endLeases 40 = .ok (.getfield 21, 3) := by decide +kernel
theorem d_Server_endLeases_43 : decode b_Server_endLeases 43 = .ok (.aload_n 0, 1) := by decide +kernel
theorem d_Server_endLeases_44 : decode b_Server_endLeases 44 = .ok (.getfield 54, 3) := by decide +kernel
theorem d_Server_endLeases_47 : decode b_Server_endLeases 47 = .ok (.getfield 174, 3) := by decide +kernel
theorem d_Server_endLeases_50 : decode b_Server_endLeases 50 = .ok (.iload_n 2, 1) := by decide +kernel
theorem d_Server_endLeases_51 : decode b_Server_endLeases 51 = .ok (.iconst 1, 1) := by decide +kernel
theorem d_Server_endLeases_52 : decode b_Server_endLeases 52 = .ok (.isub, 1) := by decide +kernel
theorem d_Server_endLeases_53 : decode b_Server_endLeases 53 = .ok (.aaload, 1) := by decide +kernel
theorem d_Server_endLeases_54 : decode b_Server_endLeases 54 = .ok (.invokevirtual 121, 3) := by decide +kernel
theorem d_Server_endLeases_57 : decode b_Server_endLeases 57 = .ok (.aload_n 0, 1) := by decide +kernel
theorem d_Server_endLeases_58 : decode b_Server_endLeases 58 = .ok (.getfield 54, 3) := by decide +kernel
theorem d_Server_endLeases_61 : decode b_Server_endLeases 61 = .ok (.iload_n 2, 1) := by decide +kernel
theorem d_Server_endLeases_62 : decode b_Server_endLeases 62 = .ok (.invokevirtual 145, 3) := by decide +kernel
theorem d_Server_endLeases_65 : decode b_Server_endLeases 65 = .ok (.iinc 2 1, 3) := by decide +kernel
theorem d_Server_endLeases_68 : decode b_Server_endLeases 68 = .ok (.goto (-66), 3) := by decide +kernel
theorem d_Server_endLeases_71 : decode b_Server_endLeases 71 = .ok (.return_, 1) := by decide +kernel
theorem fl_Server_25 : Cond.fieldLink "LeasedBuilds$Server" 25 "LeasedBuilds$Server" "up" "Z" ∈ WS := ms (i := 244) (by decide +kernel) rfl
theorem fl_Server_21 : Cond.fieldLink "LeasedBuilds$Server" 21 "LeasedBuilds$Server" "queue" "LLeasedBuilds$Queue;" ∈ WS := ms (i := 240) (by decide +kernel) rfl
theorem fl_Server_61 : Cond.fieldLink "LeasedBuilds$Server" 61 "LeasedBuilds$Queue" "size" "I" ∈ WS := ms (i := 207) (by decide +kernel) rfl
theorem fl_Server_54 : Cond.fieldLink "LeasedBuilds$Server" 54 "LeasedBuilds$Server" "leases" "LLeasedBuilds$Leases;" ∈ WS := ms (i := 242) (by decide +kernel) rfl
theorem cs_Server_64 : CwV WS "LeasedBuilds$Server" 64 "LeasedBuilds$Leases" y_Leases_forget b_Leases_forget 2 none 0 := ⟨⟨ms (i := 567) (by decide +kernel) rfl, ms (i := 564) (by decide +kernel) rfl, ms (i := 565) (by decide +kernel) rfl, ms (i := 566) (by decide +kernel) rfl, ms (i := 9) (by decide +kernel) rfl⟩, by decide +kernel⟩
theorem cs_Server_67 : CwV WS "LeasedBuilds$Server" 67 "LeasedBuilds$Leases" y_Leases_has b_Leases_has 2 (some .boolean) 1 := ⟨⟨ms (i := 411) (by decide +kernel) rfl, ms (i := 408) (by decide +kernel) rfl, ms (i := 409) (by decide +kernel) rfl, ms (i := 410) (by decide +kernel) rfl, ms (i := 9) (by decide +kernel) rfl⟩, by decide +kernel⟩
theorem fl_Server_71 : Cond.fieldLink "LeasedBuilds$Server" 71 "LeasedBuilds$Leases" "ends" "[I" ∈ WS := ms (i := 226) (by decide +kernel) rfl
theorem fl_Server_12 : Cond.fieldLink "LeasedBuilds$Server" 12 "LeasedBuilds$Server" "disk" "LLeasedBuilds$Disk;" ∈ WS := ms (i := 238) (by decide +kernel) rfl
theorem cs_Server_160 : CwV WS "LeasedBuilds$Server" 160 "LeasedBuilds$Disk" y_Disk_isOutput b_Disk_isOutput 3 (some .boolean) 1 := ⟨⟨ms (i := 636) (by decide +kernel) rfl, ms (i := 633) (by decide +kernel) rfl, ms (i := 634) (by decide +kernel) rfl, ms (i := 635) (by decide +kernel) rfl, ms (i := 7) (by decide +kernel) rfl⟩, by decide +kernel⟩
theorem cs_Server_163 : CwV WS "LeasedBuilds$Server" 163 "LeasedBuilds$Queue" y_Queue_names b_Queue_names 3 (some .boolean) 1 := ⟨⟨ms (i := 640) (by decide +kernel) rfl, ms (i := 637) (by decide +kernel) rfl, ms (i := 638) (by decide +kernel) rfl, ms (i := 639) (by decide +kernel) rfl, ms (i := 8) (by decide +kernel) rfl⟩, by decide +kernel⟩
theorem cs_Server_166 : CwV WS "LeasedBuilds$Server" 166 "LeasedBuilds$Leases" y_Leases_names b_Leases_names 3 (some .boolean) 1 := ⟨⟨ms (i := 648) (by decide +kernel) rfl, ms (i := 645) (by decide +kernel) rfl, ms (i := 646) (by decide +kernel) rfl, ms (i := 647) (by decide +kernel) rfl, ms (i := 9) (by decide +kernel) rfl⟩, by decide +kernel⟩
theorem fl_Server_42 : Cond.fieldLink "LeasedBuilds$Server" 42 "LeasedBuilds$Server" "cuts" "I" ∈ WS := ms (i := 254) (by decide +kernel) rfl
theorem cs_Server_167 : CwV WS "LeasedBuilds$Server" 167 "LeasedBuilds$Server" y_Server_goDown b_Server_goDown 1 none 0 := ⟨⟨ms (i := 563) (by decide +kernel) rfl, ms (i := 560) (by decide +kernel) rfl, ms (i := 561) (by decide +kernel) rfl, ms (i := 562) (by decide +kernel) rfl, ms (i := 6) (by decide +kernel) rfl⟩, by decide +kernel⟩
theorem fl_Server_45 : Cond.fieldLink "LeasedBuilds$Server" 45 "LeasedBuilds$Server" "flight" "LLeasedBuilds$Flight;" ∈ WS := ms (i := 237) (by decide +kernel) rfl
theorem cs_Server_192 : CwV WS "LeasedBuilds$Server" 192 "LeasedBuilds$Flight" y_Flight_send b_Flight_send 4 (some (.object "LeasedBuilds$Message")) 2 := ⟨⟨ms (i := 371) (by decide +kernel) rfl, ms (i := 443) (by decide +kernel) rfl, ms (i := 369) (by decide +kernel) rfl, ms (i := 370) (by decide +kernel) rfl, ms (i := 2) (by decide +kernel) rfl⟩, by decide +kernel⟩
theorem fl_Server_81 : Cond.fieldLink "LeasedBuilds$Server" 81 "LeasedBuilds$Message" "key" "LLeasedBuilds$Key;" ∈ WS := ms (i := 57) (by decide +kernel) rfl
theorem cs_Server_198 : CwV WS "LeasedBuilds$Server" 198 "LeasedBuilds$Key" y_Key_copy b_Key_copy 2 none 1 := ⟨⟨ms (i := 384) (by decide +kernel) rfl, ms (i := 444) (by decide +kernel) rfl, ms (i := 382) (by decide +kernel) rfl, ms (i := 383) (by decide +kernel) rfl, ms (i := 4) (by decide +kernel) rfl⟩, by decide +kernel⟩
theorem fl_Server_102 : Cond.fieldLink "LeasedBuilds$Server" 102 "LeasedBuilds$Key" "a" "I" ∈ WS := ms (i := 44) (by decide +kernel) rfl
theorem cs_Server_94 : CwV WS "LeasedBuilds$Server" 94 "LeasedBuilds$Disk" y_Disk_blobOf b_Disk_blobOf 3 (some .int) 1 := ⟨⟨ms (i := 448) (by decide +kernel) rfl, ms (i := 445) (by decide +kernel) rfl, ms (i := 446) (by decide +kernel) rfl, ms (i := 447) (by decide +kernel) rfl, ms (i := 7) (by decide +kernel) rfl⟩, by decide +kernel⟩
theorem fl_Server_131 : Cond.fieldLink "LeasedBuilds$Server" 131 "LeasedBuilds$Message" "first" "I" ∈ WS := ms (i := 75) (by decide +kernel) rfl
theorem fl_Server_110 : Cond.fieldLink "LeasedBuilds$Server" 110 "LeasedBuilds$Key" "b" "I" ∈ WS := ms (i := 47) (by decide +kernel) rfl
theorem fl_Server_201 : Cond.fieldLink "LeasedBuilds$Server" 201 "LeasedBuilds$Message" "second" "I" ∈ WS := ms (i := 80) (by decide +kernel) rfl
theorem cs_Server_213 : CwV WS "LeasedBuilds$Server" 213 "LeasedBuilds$Message" y_Message_fill b_Message_fill 4 none 3 := ⟨⟨ms (i := 380) (by decide +kernel) rfl, ms (i := 525) (by decide +kernel) rfl, ms (i := 378) (by decide +kernel) rfl, ms (i := 379) (by decide +kernel) rfl, ms (i := 3) (by decide +kernel) rfl⟩, by decide +kernel⟩
theorem fl_Server_204 : Cond.fieldLink "LeasedBuilds$Server" 204 "LeasedBuilds$Message" "item" "I" ∈ WS := ms (i := 65) (by decide +kernel) rfl
theorem cs_Server_107 : CwV WS "LeasedBuilds$Server" 107 "LeasedBuilds$Disk" y_Disk_hasBlob b_Disk_hasBlob 2 (some .boolean) 1 := ⟨⟨ms (i := 529) (by decide +kernel) rfl, ms (i := 526) (by decide +kernel) rfl, ms (i := 527) (by decide +kernel) rfl, ms (i := 528) (by decide +kernel) rfl, ms (i := 7) (by decide +kernel) rfl⟩, by decide +kernel⟩
theorem fl_Server_207 : Cond.fieldLink "LeasedBuilds$Server" 207 "LeasedBuilds$Message" "lacksA" "Z" ∈ WS := ms (i := 67) (by decide +kernel) rfl
theorem fl_Server_210 : Cond.fieldLink "LeasedBuilds$Server" 210 "LeasedBuilds$Message" "lacksB" "Z" ∈ WS := ms (i := 69) (by decide +kernel) rfl
theorem cs_Server_87 : CwV WS "LeasedBuilds$Server" 87 "LeasedBuilds$Disk" y_Disk_findResult b_Disk_findResult 3 (some .int) 1 := ⟨⟨ms (i := 516) (by decide +kernel) rfl, ms (i := 513) (by decide +kernel) rfl, ms (i := 514) (by decide +kernel) rfl, ms (i := 515) (by decide +kernel) rfl, ms (i := 7) (by decide +kernel) rfl⟩, by decide +kernel⟩
theorem fl_Server_36 : Cond.fieldLink "LeasedBuilds$Server" 36 "LeasedBuilds$Server" "hits" "I" ∈ WS := ms (i := 250) (by decide +kernel) rfl
theorem fl_Server_91 : Cond.fieldLink "LeasedBuilds$Server" 91 "LeasedBuilds$Disk" "resultDigests" "[I" ∈ WS := ms (i := 178) (by decide +kernel) rfl
theorem cs_Server_98 : CwV WS "LeasedBuilds$Server" 98 "LeasedBuilds$Server" y_Server_answer b_Server_answer 4 none 3 := ⟨⟨ms (i := 524) (by decide +kernel) rfl, ms (i := 521) (by decide +kernel) rfl, ms (i := 523) (by decide +kernel) rfl, mp (i := 13) (by decide +kernel) rfl, ms (i := 6) (by decide +kernel) rfl⟩, by decide +kernel⟩
theorem cs_Server_113 : CwV WS "LeasedBuilds$Server" 113 "LeasedBuilds$Server" y_Server_sendLack b_Server_sendLack 3 none 1 := ⟨⟨ms (i := 533) (by decide +kernel) rfl, ms (i := 530) (by decide +kernel) rfl, ms (i := 532) (by decide +kernel) rfl, mp (i := 14) (by decide +kernel) rfl, ms (i := 6) (by decide +kernel) rfl⟩, by decide +kernel⟩
theorem cs_Server_117 : CwV WS "LeasedBuilds$Server" 117 "LeasedBuilds$Queue" y_Queue_find b_Queue_find 3 (some .int) 1 := ⟨⟨ms (i := 537) (by decide +kernel) rfl, ms (i := 534) (by decide +kernel) rfl, ms (i := 535) (by decide +kernel) rfl, ms (i := 536) (by decide +kernel) rfl, ms (i := 8) (by decide +kernel) rfl⟩, by decide +kernel⟩
theorem cs_Server_120 : CwV WS "LeasedBuilds$Server" 120 "LeasedBuilds$Leases" y_Leases_find b_Leases_find 3 (some .int) 1 := ⟨⟨ms (i := 542) (by decide +kernel) rfl, ms (i := 539) (by decide +kernel) rfl, ms (i := 540) (by decide +kernel) rfl, ms (i := 541) (by decide +kernel) rfl, ms (i := 9) (by decide +kernel) rfl⟩, by decide +kernel⟩
theorem cs_Server_121 : CwV WS "LeasedBuilds$Server" 121 "LeasedBuilds$Queue" y_Queue_append b_Queue_append 2 none 1 := ⟨⟨ms (i := 415) (by decide +kernel) rfl, ms (i := 412) (by decide +kernel) rfl, ms (i := 413) (by decide +kernel) rfl, ms (i := 414) (by decide +kernel) rfl, ms (i := 8) (by decide +kernel) rfl⟩, by decide +kernel⟩
theorem fl_Server_125 : Cond.fieldLink "LeasedBuilds$Server" 125 "LeasedBuilds$Message" "digest" "I" ∈ WS := ms (i := 71) (by decide +kernel) rfl
theorem cs_Server_128 : CwV WS "LeasedBuilds$Server" 128 "LeasedBuilds$Server" y_Server_crashByCut b_Server_crashByCut 1 none 0 := ⟨⟨ms (i := 559) (by decide +kernel) rfl, ms (i := 556) (by decide +kernel) rfl, ms (i := 558) (by decide +kernel) rfl, mp (i := 16) (by decide +kernel) rfl, ms (i := 6) (by decide +kernel) rfl⟩, by decide +kernel⟩
theorem cs_Server_134 : CwV WS "LeasedBuilds$Server" 134 "LeasedBuilds$Disk" y_Disk_writeBlob b_Disk_writeBlob 3 none 2 := ⟨⟨ms (i := 571) (by decide +kernel) rfl, ms (i := 568) (by decide +kernel) rfl, ms (i := 569) (by decide +kernel) rfl, ms (i := 570) (by decide +kernel) rfl, ms (i := 7) (by decide +kernel) rfl⟩, by decide +kernel⟩
theorem fl_Server_33 : Cond.fieldLink "LeasedBuilds$Server" 33 "LeasedBuilds$Server" "uploads" "I" ∈ WS := ms (i := 248) (by decide +kernel) rfl
theorem fl_Server_39 : Cond.fieldLink "LeasedBuilds$Server" 39 "LeasedBuilds$Server" "duplicates" "I" ∈ WS := ms (i := 252) (by decide +kernel) rfl
theorem cs_Server_138 : CwV WS "LeasedBuilds$Server" 138 "LeasedBuilds$Disk" y_Disk_writeResult b_Disk_writeResult 3 none 2 := ⟨⟨ms (i := 584) (by decide +kernel) rfl, ms (i := 581) (by decide +kernel) rfl, ms (i := 582) (by decide +kernel) rfl, ms (i := 583) (by decide +kernel) rfl, ms (i := 7) (by decide +kernel) rfl⟩, by decide +kernel⟩
theorem cs_Server_142 : CwV WS "LeasedBuilds$Server" 142 "LeasedBuilds$Queue" y_Queue_remove b_Queue_remove 4 none 1 := ⟨⟨ms (i := 456) (by decide +kernel) rfl, ms (i := 453) (by decide +kernel) rfl, ms (i := 454) (by decide +kernel) rfl, ms (i := 455) (by decide +kernel) rfl, ms (i := 8) (by decide +kernel) rfl⟩, by decide +kernel⟩
theorem cs_Server_145 : CwV WS "LeasedBuilds$Server" 145 "LeasedBuilds$Leases" y_Leases_end b_Leases_end 2 none 1 := ⟨⟨ms (i := 420) (by decide +kernel) rfl, ms (i := 417) (by decide +kernel) rfl, ms (i := 418) (by decide +kernel) rfl, ms (i := 419) (by decide +kernel) rfl, ms (i := 9) (by decide +kernel) rfl⟩, by decide +kernel⟩
theorem cs_Server_170 : CwV WS "LeasedBuilds$Server" 170 "LeasedBuilds$Leases" y_Leases_workers b_Leases_workers 1 (some .int) 0 := ⟨⟨ms (i := 407) (by decide +kernel) rfl, ms (i := 404) (by decide +kernel) rfl, ms (i := 405) (by decide +kernel) rfl, ms (i := 406) (by decide +kernel) rfl, ms (i := 9) (by decide +kernel) rfl⟩, by decide +kernel⟩
theorem fl_Server_174 : Cond.fieldLink "LeasedBuilds$Server" 174 "LeasedBuilds$Leases" "keys" "[LLeasedBuilds$Key;" ∈ WS := ms (i := 224) (by decide +kernel) rfl
set_option maxHeartbeats 4000000 in
set_option maxRecDepth 100000 in
theorem c_Queue_remove (l : Launch) (D : va_G) (dA : Nat → ClassId) (ad : Nat → Nat) (nw : Nat) (hJ : Inj ad (obC nw)) (hnw : nw ≤ 4) (σ : Sg) (w : Int32) (hWf : Wf nw σ) : CV l D clX (tyX dA) (SC nw) ad dA (obC nw) NL y_Queue_remove w_Queue_remove { frames := 0, cells := 0, slots := 0, locals := 0 } [.ref (ad 79), .int w] σ (qRemI σ w) := by
  refine x_of (WS := WS) (cc := b_Queue_remove) (maxL := 4) (ret := none) (by decide) rfl (Nat.le_of_ble_eq_true rfl) ?_
  intro pp ee ss mm below meth cdd hx hb hml hr hlk ht hown hnm hN hK hP ls hl
  have hl : lv_has ls 4 [(0, .ref (ad 79)), (1, .int w)] := hl
  have hS : va_S (Ad ad (obC nw)) ss.heap ss.heap [] := va_S.rf
  have hw := swfC hnw
  have hq := hWf.q
  refine lv_iload_n hx hb d_Queue_remove_0 rfl (lv_at hl 1 rfl) ?_
  refine lv_if_lt (tgt := 12) hx hb d_Queue_remove_1 (by decide) (fun h1 => ?_) (fun h1 => ?_)
  · exact x_vret hx hb hr hlk hK hP hS d_Queue_remove_12 (by unfold qRemI; rw [if_neg (by rw [inR_neg h1]; decide)])
  · refine lv_iload_n hx hb d_Queue_remove_4 rfl (lv_at hl 1 rfl) ?_
    refine lv_aload_n hx hb d_Queue_remove_5 rfl (lv_at hl 0 rfl) ?_
    refine x_get (v := .int (nI (gN σ 39 79))) (k := 1) hx hb ht xc_Queue hown hK hP (mo (by decide)) rfl (by decide) fl_Queue_17 rfl rfl rfl d_Queue_remove_6 ?_
    refine lv_icmp_lt (tgt := 13) hx hb d_Queue_remove_9 (by decide) (fun h2 => ?_) (fun h2 => ?_)
    · obtain ⟨k, hk, rfl⟩ := inR_of (by omega) (inR_inL (by omega) h1 h2)
      refine lv_aload_n hx hb d_Queue_remove_13 rfl (lv_at hl 0 rfl) ?_
      refine x_get (v := .ref (ad 80)) (k := 0) hx hb ht xc_Queue hown hK hP (mo (by decide)) rfl (by decide) fl_Queue_11 rfl rfl rfl d_Queue_remove_14 ?_
      refine lv_iload_n hx hb d_Queue_remove_17 rfl (lv_at hl 1 rfl) ?_
      refine x_aald (κ := 111) (n := 10) hx hb hK hP (mo (by decide)) rfl (by decide) rfl rfl (by omega) (by omega) d_Queue_remove_18 ?_
      refine lv_astore_n (lv' := [(2, .ref (ad (gN σ 111 k))), (0, .ref (ad 79)), (1, .int (nI k))]) hx hb d_Queue_remove_19 rfl hl (by decide) rfl (fun ls hl => ?_)
      refine lv_iload_n hx hb d_Queue_remove_20 rfl (lv_at hl 2 rfl) ?_
      refine lv_iconst (v := (nI 1)) hx hb d_Queue_remove_21 (by decide) ?_
      refine x_iaddN hx hb d_Queue_remove_22 ?_
      refine lv_istore_n (lv' := [(3, .int (nI (k + 1))), (2, .ref (ad (gN σ 111 k))), (0, .ref (ad 79)), (1, .int (nI k))]) hx hb d_Queue_remove_23 rfl hl (by decide) rfl (fun ls hl => ?_)
      refine x_loop (pc := 24) (α := Nat) (nL := 4) (fun i => gN σ 39 79 - i) (fun i => qSh σ k i) (fun i => [(3, .int (nI i)), (2, .ref (ad (gN σ 111 k))), (1, .int (nI k)), (0, .ref (ad 79))]) (fun i => k < i ∧ i ≤ gN σ 39 79) ?_ (k + 1) ⟨by omega, by omega⟩ (by rw [qSh_0]; exact hP) hS (lv_sub hl [0, 1, 3, 2] rfl)
      clear hP hS hl
      intro i ⟨hi0, hi⟩ H locs ls hP hS hl ih
      have hl : lv_has ls 4 [(3, .int (nI i)), (2, .ref (ad (gN σ 111 k))), (1, .int (nI k)), (0, .ref (ad 79))] := hl
      have hP : va_P D clX (wd (SC nw) ad dA (obC nw) (qSh σ k i)) H := hP
      refine lv_iload_n hx hb d_Queue_remove_24 rfl (lv_at hl 0 rfl) ?_
      refine lv_aload_n hx hb d_Queue_remove_25 rfl (lv_at hl 3 rfl) ?_
      refine x_get (v := .int (nI (gN σ 39 79))) (k := 1) hx hb ht xc_Queue hown hK hP (mo (by decide)) rfl (by decide) fl_Queue_17 rfl rfl rfl d_Queue_remove_26 ?_
      refine x_icmp_geN (tgt := 52) hx hb d_Queue_remove_29 (by decide) (by omega) (by omega) (fun h3 => ?_) (fun h3 => ?_)
      · refine lv_aload_n hx hb d_Queue_remove_52 rfl (lv_at hl 3 rfl) ?_
        refine lv_dup hx hb d_Queue_remove_53 rfl ?_
        refine x_get (v := .int (nI (gN σ 39 79))) (k := 1) hx hb ht xc_Queue hown hK hP (mo (by decide)) rfl (by decide) fl_Queue_17 rfl rfl rfl d_Queue_remove_54 ?_
        refine lv_iconst (v := (nI 1)) hx hb d_Queue_remove_57 (by decide) ?_
        refine x_isubN hx hb d_Queue_remove_58 (by omega) ?_
        refine x_put (σ' := sN (qSh σ k i) 39 79 ((gN σ 39 79) - 1)) (v := .int (nI ((gN σ 39 79) - 1))) (k := 1) hx hb ht xc_Queue t_Queue t_Queue_ok n_Queue hown hK hP hJ hw hS (mo (by decide)) rfl (by decide) fl_Queue_17 rfl rfl rfl off_N rfl rfl rfl d_Queue_remove_59 (fun H locs hP hS => ?_)
        refine lv_aload_n hx hb d_Queue_remove_62 rfl (lv_at hl 3 rfl) ?_
        refine x_get (v := .ref (ad 80)) (k := 0) hx hb ht xc_Queue hown hK hP (mo (by decide)) rfl (by decide) fl_Queue_11 rfl rfl rfl d_Queue_remove_63 ?_
        refine lv_aload_n hx hb d_Queue_remove_66 rfl (lv_at hl 3 rfl) ?_
        refine x_get (v := .int (nI ((gN σ 39 79) - 1))) (k := 1) hx hb ht xc_Queue hown hK hP (mo (by decide)) rfl (by decide) fl_Queue_17 rfl rfl rfl d_Queue_remove_67 ?_
        refine lv_aload_n hx hb d_Queue_remove_70 rfl (lv_at hl 1 rfl) ?_
        refine x_aast (κ := 111) (n := 10) (κv := 1) hx hb hK hP hJ hw hS (mo (by decide)) rfl (by decide) rfl rfl (mo (Or.inl (hWf.Q k (by omega)).2)) (hWf.Q k (by omega)).1 (by decide) rfl (by omega) (by omega) d_Queue_remove_71 (fun H locs hP hS => ?_)
        exact x_vret hx hb hr hlk hK hP hS d_Queue_remove_72 (by unfold qRemI; rw [if_pos (inR_inL (by omega) h1 h2), nI_clamp (by omega), show i = gN σ 39 79 by omega]; rfl)
      · refine lv_aload_n hx hb d_Queue_remove_32 rfl (lv_at hl 3 rfl) ?_
        refine x_get (v := .ref (ad 80)) (k := 0) hx hb ht xc_Queue hown hK hP (mo (by decide)) rfl (by decide) fl_Queue_11 rfl rfl rfl d_Queue_remove_33 ?_
        refine lv_iload_n hx hb d_Queue_remove_36 rfl (lv_at hl 0 rfl) ?_
        refine lv_iconst (v := (nI 1)) hx hb d_Queue_remove_37 (by decide) ?_
        refine x_isubN hx hb d_Queue_remove_38 (by omega) ?_
        refine lv_aload_n hx hb d_Queue_remove_39 rfl (lv_at hl 3 rfl) ?_
        refine x_get (v := .ref (ad 80)) (k := 0) hx hb ht xc_Queue hown hK hP (mo (by decide)) rfl (by decide) fl_Queue_11 rfl rfl rfl d_Queue_remove_40 ?_
        refine lv_iload_n hx hb d_Queue_remove_43 rfl (lv_at hl 0 rfl) ?_
        refine x_aald (κ := 111) (n := 10) hx hb hK hP (mo (by decide)) rfl (by decide) rfl rfl (by omega) (by omega) d_Queue_remove_44 ?_
        rw [show gN (qSh σ k i) 111 i = gN σ 111 i from (qSh_at σ k i)]
        refine x_aast (κ := 111) (n := 10) (κv := 1) hx hb hK hP hJ hw hS (mo (by decide)) rfl (by decide) rfl rfl (mo (Or.inl (hWf.Q i (by omega)).2)) (hWf.Q i (by omega)).1 (by decide) rfl (by omega) (by omega) d_Queue_remove_45 (fun H locs hP hS => ?_)
        refine lv_iinc (lv' := [(3, .int (nI (i + 1))), (2, .ref (ad (gN σ 111 k))), (1, .int (nI k)), (0, .ref (ad 79))]) (v := (nI (i + 1))) hx hb d_Queue_remove_46 hl (k := 0) rfl (nI_add _ _) (by decide) rfl (fun ls hl => ?_)
        refine lv_goto (tgt := 24) hx hb d_Queue_remove_49 (by decide) ?_
        exact ih (i + 1) ⟨by omega, by omega⟩ (by omega) H locs ls (by rw [← qSh_s (by omega)]; exact hP) hS (lv_sub hl [0, 1, 2, 3] rfl)
    · exact x_vret hx hb hr hlk hK hP hS d_Queue_remove_12 (by unfold qRemI; rw [if_neg (by rw [inR_bigL (by omega) h2]; decide)])
set_option maxHeartbeats 4000000 in
set_option maxRecDepth 100000 in
theorem c_Server_goDown (l : Launch) (D : va_G) (dA : Nat → ClassId) (ad : Nat → Nat) (nw : Nat) (hJ : Inj ad (obC nw)) (hnw : nw ≤ 4) (σ : Sg)   : CV l D clX (tyX dA) (SC nw) ad dA (obC nw) NL y_Server_goDown w_Server_goDown { frames := 1, cells := 0, slots := 0, locals := 21 } [.ref (ad 63)] σ (sDown σ nw) := by
  refine x_of (WS := WS) (cc := b_Server_goDown) (maxL := 1) (ret := none) (by decide) rfl (Nat.le_of_ble_eq_true rfl) ?_
  intro pp ee ss mm below meth cdd hx hb hml hr hlk ht hown hnm hN hK hP ls hl
  have hl : lv_has ls 1 [(0, .ref (ad 63))] := hl
  have hS : va_S (Ad ad (obC nw)) ss.heap ss.heap [] := va_S.rf
  have hw := swfC hnw
  refine lv_aload_n hx hb d_Server_goDown_0 rfl (lv_at hl 0 rfl) ?_
  refine lv_iconst (v := (nI 0)) hx hb d_Server_goDown_1 (by decide) ?_
  refine x_put (σ' := sB σ 45 63 false) (v := .int (nI 0)) (k := 5) hx hb ht xc_Server t_Server t_Server_ok n_Server hown hK hP hJ hw hS (mo (by decide)) rfl (by decide) fl_Server_25 rfl rfl rfl off_B rfl rfl rfl d_Server_goDown_2 (fun H locs hP hS => ?_)
  refine lv_aload_n hx hb d_Server_goDown_5 rfl (lv_at hl 0 rfl) ?_
  refine x_get (v := .ref (ad 79)) (k := 2) hx hb ht xc_Server hown hK hP (mo (by decide)) rfl (by decide) fl_Server_21 rfl rfl rfl d_Server_goDown_6 ?_
  refine lv_iconst (v := (nI 0)) hx hb d_Server_goDown_9 (by decide) ?_
  refine x_put (σ' := sN (sB σ 45 63 false) 39 79 0) (v := .int (nI 0)) (k := 1) hx hb ht xc_Queue t_Queue t_Queue_ok n_Queue hown hK hP hJ hw hS (mo (by decide)) rfl (by decide) fl_Server_61 rfl rfl rfl off_N rfl rfl rfl d_Server_goDown_10 (fun H locs hP hS => ?_)
  refine lv_aload_n hx hb d_Server_goDown_13 rfl (lv_at hl 0 rfl) ?_
  refine x_get (v := .ref (ad 91)) (k := 3) hx hb ht xc_Server hown hK hP (mo (by decide)) rfl (by decide) fl_Server_54 rfl rfl rfl d_Server_goDown_14 ?_
  refine x_cv (x_rV (As := []) (rest := []) hx hb hml hown ht gW cs_Server_64 (c_Leases_forget l D dA ad nw hJ hnw (sN (sB σ 45 63 false) 39 79 0) ) rfl rfl (by decide) xc_Leases hN hK hP (mo (by decide)) rfl rfl hl.1 rfl (Nat.le_of_ble_eq_true rfl) d_Server_goDown_17 (by decide)) hS (fun H locs hP hS => ?_)
  exact x_vret hx hb hr hlk hK hP hS d_Server_goDown_20 rfl
set_option maxHeartbeats 4000000 in
set_option maxRecDepth 100000 in
theorem c_Server_ticksLeft (l : Launch) (D : va_G) (dA : Nat → ClassId) (ad : Nat → Nat) (nw : Nat) (hJ : Inj ad (obC nw)) (hnw : nw ≤ 4) (σ : Sg) (w : Nat) (t : Nat) (hw8 : w ≤ 4) : CI l D clX (tyX dA) (SC nw) ad dA (obC nw) NL y_Server_ticksLeft w_Server_ticksLeft { frames := 1, cells := 0, slots := 0, locals := 21 } [.ref (ad 63), .int (nI w), .int (nI t)] σ ((sTicks σ nw w t)) σ := by
  refine x_of (WS := WS) (cc := b_Server_ticksLeft) (maxL := 3) (ret := (some .int)) (by decide) rfl (Nat.le_of_ble_eq_true rfl) ?_
  intro pp ee ss mm below meth cdd hx hb hml hr hlk ht hown hnm hN hK hP ls hl
  have hl : lv_has ls 3 [(0, .ref (ad 63)), (1, .int (nI w)), (2, .int (nI t))] := hl
  have hS : va_S (Ad ad (obC nw)) ss.heap ss.heap [] := va_S.rf
  have hw := swfC hnw
  refine lv_aload_n hx hb d_Server_ticksLeft_0 rfl (lv_at hl 0 rfl) ?_
  refine x_get (v := .ref (ad 91)) (k := 3) hx hb ht xc_Server hown hK hP (mo (by decide)) rfl (by decide) fl_Server_54 rfl rfl rfl d_Server_ticksLeft_1 ?_
  refine lv_iload_n hx hb d_Server_ticksLeft_4 rfl (lv_at hl 1 rfl) ?_
  refine x_ci (x_rV (As := [.int (nI w)]) (rest := []) hx hb hml hown ht gW cs_Server_67 (c_Leases_has l D dA ad nw hJ hnw σ (nI w)) rfl rfl (by decide) xc_Leases hN hK hP (mo (by decide)) rfl rfl hl.1 rfl (Nat.le_of_ble_eq_true rfl) d_Server_ticksLeft_5 (by decide)) hS (fun H locs hP hS => ?_)
  refine x_ifeqB (tgt := 27) hx hb d_Server_ticksLeft_8 (by decide) (fun h1 => ?_) (fun h1 => ?_)
  · refine lv_iconst (v := ((-1))) hx hb d_Server_ticksLeft_27 (by decide) ?_
    exact x_iret hx hb hr hlk hK hP hS d_Server_ticksLeft_28 (by unfold sTicks; rw [if_neg (by rw [h1]; decide)]) rfl
  · have hw9 := lHas_b (by omega) h1
    refine lv_aload_n hx hb d_Server_ticksLeft_11 rfl (lv_at hl 0 rfl) ?_
    refine x_get (v := .ref (ad 91)) (k := 3) hx hb ht xc_Server hown hK hP (mo (by decide)) rfl (by decide) fl_Server_54 rfl rfl rfl d_Server_ticksLeft_12 ?_
    refine x_get (v := .ref (ad 94)) (k := 2) hx hb ht xc_Leases hown hK hP (mo (by decide)) rfl (by decide) fl_Server_71 rfl rfl rfl d_Server_ticksLeft_15 ?_
    refine lv_iload_n hx hb d_Server_ticksLeft_18 rfl (lv_at hl 1 rfl) ?_
    refine lv_iconst (v := (nI 1)) hx hb d_Server_ticksLeft_19 (by decide) ?_
    refine x_isubN hx hb d_Server_ticksLeft_20 (by omega) ?_
    refine x_nald (κ := 114) (n := nw) hx hb hK hP (mo (by decide)) rfl (by decide) rfl rfl (by omega) (by omega) d_Server_ticksLeft_21 ?_
    refine lv_iload_n hx hb d_Server_ticksLeft_22 rfl (lv_at hl 2 rfl) ?_
    refine lv_isub hx hb d_Server_ticksLeft_23 ?_
    refine lv_goto (tgt := 28) hx hb d_Server_ticksLeft_24 (by decide) ?_
    exact x_iret hx hb hr hlk hK hP hS d_Server_ticksLeft_28 (by unfold sTicks; rw [if_pos h1]) rfl
set_option maxHeartbeats 4000000 in
set_option maxRecDepth 100000 in
theorem c_Server_isNeeded (l : Launch) (D : va_G) (dA : Nat → ClassId) (ad : Nat → Nat) (nw : Nat) (hJ : Inj ad (obC nw)) (hnw : nw ≤ 4) (σ : Sg) (d : Int32) (hWf : Wf nw σ) : CI l D clX (tyX dA) (SC nw) ad dA (obC nw) NL y_Server_isNeeded w_Server_isNeeded { frames := 2, cells := 0, slots := 0, locals := 43 } [.ref (ad 63), .int d] σ ((bI (sNeed σ nw d))) σ := by
  refine x_of (WS := WS) (cc := b_Server_isNeeded) (maxL := 2) (ret := (some .boolean)) (by decide) rfl (Nat.le_of_ble_eq_true rfl) ?_
  intro pp ee ss mm below meth cdd hx hb hml hr hlk ht hown hnm hN hK hP ls hl
  have hl : lv_has ls 2 [(0, .ref (ad 63)), (1, .int d)] := hl
  have hS : va_S (Ad ad (obC nw)) ss.heap ss.heap [] := va_S.rf
  have hw := swfC hnw
  have hWn := hWf.n
  have hWq := hWf.q
  have hWit := hWf.it
  have hWbl := hWf.bl
  have hWrs := hWf.rs
  have hWlt := hWf.lt
  have hWln := hWf.ln
  refine lv_aload_n hx hb d_Server_isNeeded_0 rfl (lv_at hl 0 rfl) ?_
  refine x_get (v := .ref (ad 64)) (k := 1) hx hb ht xc_Server hown hK hP (mo (by decide)) rfl (by decide) fl_Server_12 rfl rfl rfl d_Server_isNeeded_1 ?_
  refine lv_iload_n hx hb d_Server_isNeeded_4 rfl (lv_at hl 1 rfl) ?_
  refine x_ci (x_rV (As := [.int d]) (rest := []) hx hb hml hown ht gW cs_Server_160 (c_Disk_isOutput l D dA ad nw hJ hnw σ d hWf) rfl rfl (by decide) xc_Disk hN hK hP (mo (by decide)) rfl rfl hl.1 rfl (Nat.le_of_ble_eq_true rfl) d_Server_isNeeded_5 (by decide)) hS (fun H locs hP hS => ?_)
  refine x_ifneB (tgt := 33) hx hb d_Server_isNeeded_8 (by decide) (fun h1 => ?_) (fun h1 => ?_)
  · refine lv_iconst (v := (nI 1)) hx hb d_Server_isNeeded_33 (by decide) ?_
    refine lv_goto (tgt := 38) hx hb d_Server_isNeeded_34 (by decide) ?_
    exact x_zret (b := true) hx hb hr hlk hK hP hS d_Server_isNeeded_38 rfl (by simp [sNeed, h1]) rfl
  · refine lv_aload_n hx hb d_Server_isNeeded_11 rfl (lv_at hl 0 rfl) ?_
    refine x_get (v := .ref (ad 79)) (k := 2) hx hb ht xc_Server hown hK hP (mo (by decide)) rfl (by decide) fl_Server_21 rfl rfl rfl d_Server_isNeeded_12 ?_
    refine lv_iload_n hx hb d_Server_isNeeded_15 rfl (lv_at hl 1 rfl) ?_
    refine x_ci (x_rV (As := [.int d]) (rest := []) hx hb hml hown ht gW cs_Server_163 (c_Queue_names l D dA ad nw hJ hnw σ d hWf) rfl rfl (by decide) xc_Queue hN hK hP (mo (by decide)) rfl rfl hl.1 rfl (Nat.le_of_ble_eq_true rfl) d_Server_isNeeded_16 (by decide)) hS (fun H locs hP hS => ?_)
    refine x_ifneB (tgt := 33) hx hb d_Server_isNeeded_19 (by decide) (fun h2 => ?_) (fun h2 => ?_)
    · refine lv_iconst (v := (nI 1)) hx hb d_Server_isNeeded_33 (by decide) ?_
      refine lv_goto (tgt := 38) hx hb d_Server_isNeeded_34 (by decide) ?_
      exact x_zret (b := true) hx hb hr hlk hK hP hS d_Server_isNeeded_38 rfl (by simp [sNeed, h1, h2]) rfl
    · refine lv_aload_n hx hb d_Server_isNeeded_22 rfl (lv_at hl 0 rfl) ?_
      refine x_get (v := .ref (ad 91)) (k := 3) hx hb ht xc_Server hown hK hP (mo (by decide)) rfl (by decide) fl_Server_54 rfl rfl rfl d_Server_isNeeded_23 ?_
      refine lv_iload_n hx hb d_Server_isNeeded_26 rfl (lv_at hl 1 rfl) ?_
      refine x_ci (x_rV (As := [.int d]) (rest := []) hx hb hml hown ht gW cs_Server_166 (c_Leases_names l D dA ad nw hJ hnw σ d) rfl rfl (by decide) xc_Leases hN hK hP (mo (by decide)) rfl rfl hl.1 rfl (Nat.le_of_ble_eq_true rfl) d_Server_isNeeded_27 (by decide)) hS (fun H locs hP hS => ?_)
      refine x_ifeqB (tgt := 37) hx hb d_Server_isNeeded_30 (by decide) (fun h3 => ?_) (fun h3 => ?_)
      · refine lv_iconst (v := (nI 0)) hx hb d_Server_isNeeded_37 (by decide) ?_
        exact x_zret (b := false) hx hb hr hlk hK hP hS d_Server_isNeeded_38 rfl (by simp [sNeed, h1, h2, h3]) rfl
      · refine lv_iconst (v := (nI 1)) hx hb d_Server_isNeeded_33 (by decide) ?_
        refine lv_goto (tgt := 38) hx hb d_Server_isNeeded_34 (by decide) ?_
        exact x_zret (b := true) hx hb hr hlk hK hP hS d_Server_isNeeded_38 rfl (by simp [sNeed, h1, h2, h3]) rfl
set_option maxHeartbeats 4000000 in
set_option maxRecDepth 100000 in
theorem c_Server_crashByCut (l : Launch) (D : va_G) (dA : Nat → ClassId) (ad : Nat → Nat) (nw : Nat) (hJ : Inj ad (obC nw)) (hnw : nw ≤ 4) (σ : Sg)   : CV l D clX (tyX dA) (SC nw) ad dA (obC nw) NL y_Server_crashByCut w_Server_crashByCut { frames := 2, cells := 0, slots := 0, locals := 41 } [.ref (ad 63)] σ (sCut σ nw) := by
  refine x_of (WS := WS) (cc := b_Server_crashByCut) (maxL := 1) (ret := none) (by decide) rfl (Nat.le_of_ble_eq_true rfl) ?_
  intro pp ee ss mm below meth cdd hx hb hml hr hlk ht hown hnm hN hK hP ls hl
  have hl : lv_has ls 1 [(0, .ref (ad 63))] := hl
  have hS : va_S (Ad ad (obC nw)) ss.heap ss.heap [] := va_S.rf
  have hw := swfC hnw
  refine lv_aload_n hx hb d_Server_crashByCut_0 rfl (lv_at hl 0 rfl) ?_
  refine lv_dup hx hb d_Server_crashByCut_1 rfl ?_
  refine x_get (v := .int (nI (gN σ 50 63))) (k := 10) hx hb ht xc_Server hown hK hP (mo (by decide)) rfl (by decide) fl_Server_42 rfl rfl rfl d_Server_crashByCut_2 ?_
  refine lv_iconst (v := (nI 1)) hx hb d_Server_crashByCut_5 (by decide) ?_
  refine x_iaddN hx hb d_Server_crashByCut_6 ?_
  refine x_put (σ' := sN σ 50 63 ((gN σ 50 63) + 1)) (v := .int (nI ((gN σ 50 63) + 1))) (k := 10) hx hb ht xc_Server t_Server t_Server_ok n_Server hown hK hP hJ hw hS (mo (by decide)) rfl (by decide) fl_Server_42 rfl rfl rfl off_N rfl rfl rfl d_Server_crashByCut_7 (fun H locs hP hS => ?_)
  refine lv_aload_n hx hb d_Server_crashByCut_10 rfl (lv_at hl 0 rfl) ?_
  refine x_cv (x_rV (As := []) (rest := []) hx hb hml hown ht gW cs_Server_167 (c_Server_goDown l D dA ad nw hJ hnw (sN σ 50 63 ((gN σ 50 63) + 1)) ) rfl rfl (by decide) xc_Server hN hK hP (mo (by decide)) rfl rfl hl.1 rfl (Nat.le_of_ble_eq_true rfl) d_Server_crashByCut_11 (by decide)) hS (fun H locs hP hS => ?_)
  exact x_vret hx hb hr hlk hK hP hS d_Server_crashByCut_14 rfl
set_option maxHeartbeats 4000000 in
set_option maxRecDepth 100000 in
theorem c_Server_sendLease (l : Launch) (D : va_G) (dA : Nat → ClassId) (ad : Nat → Nat) (nw : Nat) (hJ : Inj ad (obC nw)) (hnw : nw ≤ 4) (σ : Sg) (w : Nat) (q : Nat) (hWf : Wf nw σ) (hw8 : w ≤ 4) (hk_q : kdC q = 1) (hm_q : q ∈ obC nw) : CV l D clX (tyX dA) (SC nw) ad dA (obC nw) NL y_Server_sendLease w_Server_sendLease { frames := 2, cells := 0, slots := 0, locals := 45 } [.ref (ad 63), .int (nI w), .ref (ad q)] σ (sLease σ w q) := by
  refine x_of (WS := WS) (cc := b_Server_sendLease) (maxL := 4) (ret := none) (by decide) rfl (Nat.le_of_ble_eq_true rfl) ?_
  intro pp ee ss mm below meth cdd hx hb hml hr hlk ht hown hnm hN hK hP ls hl
  have hl : lv_has ls 4 [(0, .ref (ad 63)), (1, .int (nI w)), (2, .ref (ad q))] := hl
  have hS : va_S (Ad ad (obC nw)) ss.heap ss.heap [] := va_S.rf
  have hw := swfC hnw
  have hWn := hWf.n
  have hWq := hWf.q
  have hWit := hWf.it
  have hWbl := hWf.bl
  have hWrs := hWf.rs
  have hWlt := hWf.lt
  have hWln := hWf.ln
  refine lv_aload_n hx hb d_Server_sendLease_0 rfl (lv_at hl 0 rfl) ?_
  refine x_get (v := .ref (ad 1)) (k := 0) hx hb ht xc_Server hown hK hP (mo (by decide)) rfl (by decide) fl_Server_45 rfl rfl rfl d_Server_sendLease_1 ?_
  refine lv_iconst (v := (nI 4)) hx hb d_Server_sendLease_4 (by decide) ?_
  refine lv_iload_n hx hb d_Server_sendLease_5 rfl (lv_at hl 1 rfl) ?_
  have hto : kdC (sendTo σ) = 2 := kd_to hWf
  refine x_cr (x_rV (As := [.int (nI 4), .int (nI w)]) (rest := []) hx hb hml hown ht gW cs_Server_192 (c_Flight_send l D dA ad nw hJ hnw σ 4 w hWf.R hWf.n) rfl rfl (by decide) xc_Flight hN hK hP (mo (by decide)) rfl rfl hl.1 rfl (Nat.le_of_ble_eq_true rfl) d_Server_sendLease_6 (by decide)) hS (fun H locs hP hS => ?_)
  have hWf : Wf nw (fSend σ 4 w) := wf_send hWf (by omega) (by omega)
  refine lv_astore_n (lv' := [(3, .ref (ad (sendTo σ))), (0, .ref (ad 63)), (1, .int (nI w)), (2, .ref (ad q))]) hx hb d_Server_sendLease_9 rfl hl (by decide) rfl (fun ls hl => ?_)
  refine lv_aload_n hx hb d_Server_sendLease_10 rfl (lv_at hl 0 rfl) ?_
  refine x_get (v := .ref (ad ((sendTo σ) + 1))) (k := 0) hx hb ht xc_Message hown hK hP (mo_msg hto) hto (by decide) fl_Server_81 rfl rfl rfl d_Server_sendLease_11 ?_
  refine lv_aload_n hx hb d_Server_sendLease_14 rfl (lv_at hl 3 rfl) ?_
  refine x_cv (x_rV (As := [.ref (ad q)]) (rest := []) hx hb hml hown ht gW cs_Server_198 (c_Key_copy l D dA ad nw hJ hnw (fSend σ 4 w) ((sendTo σ) + 1) q (kd_msgk hto) (mo_msgk hto) hk_q hm_q) rfl rfl (by decide) xc_Key hN hK hP (mo_msgk hto) (kd_msgk hto) rfl hl.1 rfl (Nat.le_of_ble_eq_true rfl) d_Server_sendLease_15 (by decide)) hS (fun H locs hP hS => ?_)
  have hWf : Wf nw (kcopy (fSend σ 4 w) ((sendTo σ) + 1) q) := wf_kc hWf
  refine lv_aload_n hx hb d_Server_sendLease_18 rfl (lv_at hl 0 rfl) ?_
  refine lv_aload_n hx hb d_Server_sendLease_19 rfl (lv_at hl 1 rfl) ?_
  refine x_get (v := .ref (ad 64)) (k := 1) hx hb ht xc_Server hown hK hP (mo (by decide)) rfl (by decide) fl_Server_12 rfl rfl rfl d_Server_sendLease_20 ?_
  refine lv_aload_n hx hb d_Server_sendLease_23 rfl (lv_at hl 3 rfl) ?_
  refine x_get (v := .int (gI (kcopy (fSend σ 4 w) ((sendTo σ) + 1) q) 7 q)) (k := 1) hx hb ht xc_Key hown hK hP hm_q hk_q (by decide) fl_Server_102 rfl rfl rfl d_Server_sendLease_24 ?_
  refine x_ci (x_rV (As := [.int (gI (kcopy (fSend σ 4 w) ((sendTo σ) + 1) q) 7 q)]) (rest := [.ref (ad (sendTo σ))]) hx hb hml hown ht gW cs_Server_94 (c_Disk_blobOf l D dA ad nw hJ hnw (kcopy (fSend σ 4 w) ((sendTo σ) + 1) q) (gI (kcopy (fSend σ 4 w) ((sendTo σ) + 1) q) 7 q) hWf) rfl rfl (by decide) xc_Disk hN hK hP (mo (by decide)) rfl rfl hl.1 rfl (Nat.le_of_ble_eq_true rfl) d_Server_sendLease_27 (by decide)) hS (fun H locs hP hS => ?_)
  refine x_put (σ' := sI (kcopy (fSend σ 4 w) ((sendTo σ) + 1) q) 16 (sendTo σ) (dOf (kcopy (fSend σ 4 w) ((sendTo σ) + 1) q) (gI (kcopy (fSend σ 4 w) ((sendTo σ) + 1) q) 7 q))) (v := .int (dOf (kcopy (fSend σ 4 w) ((sendTo σ) + 1) q) (gI (kcopy (fSend σ 4 w) ((sendTo σ) + 1) q) 7 q))) (k := 7) hx hb ht xc_Message t_Message t_Message_ok n_Message hown hK hP hJ hw hS (mo_msg hto) hto (by decide) fl_Server_131 rfl rfl rfl off_I (by simp [vl, gs]) rfl rfl d_Server_sendLease_30 (fun H locs hP hS => ?_)
  have hWf : Wf nw (sI (kcopy (fSend σ 4 w) ((sendTo σ) + 1) q) 16 (sendTo σ) (dOf (kcopy (fSend σ 4 w) ((sendTo σ) + 1) q) (gI (kcopy (fSend σ 4 w) ((sendTo σ) + 1) q) 7 q))) := wf_I hWf
  refine lv_aload_n hx hb d_Server_sendLease_33 rfl (lv_at hl 0 rfl) ?_
  refine lv_aload_n hx hb d_Server_sendLease_34 rfl (lv_at hl 1 rfl) ?_
  refine x_get (v := .ref (ad 64)) (k := 1) hx hb ht xc_Server hown hK hP (mo (by decide)) rfl (by decide) fl_Server_12 rfl rfl rfl d_Server_sendLease_35 ?_
  refine lv_aload_n hx hb d_Server_sendLease_38 rfl (lv_at hl 3 rfl) ?_
  refine x_get (v := .int (gI (kcopy (fSend σ 4 w) ((sendTo σ) + 1) q) 8 q)) (k := 2) hx hb ht xc_Key hown hK hP hm_q hk_q (by decide) fl_Server_110 rfl rfl rfl d_Server_sendLease_39 ?_
  refine x_ci (x_rV (As := [.int (gI (kcopy (fSend σ 4 w) ((sendTo σ) + 1) q) 8 q)]) (rest := [.ref (ad (sendTo σ))]) hx hb hml hown ht gW cs_Server_94 (c_Disk_blobOf l D dA ad nw hJ hnw (sI (kcopy (fSend σ 4 w) ((sendTo σ) + 1) q) 16 (sendTo σ) (dOf (kcopy (fSend σ 4 w) ((sendTo σ) + 1) q) (gI (kcopy (fSend σ 4 w) ((sendTo σ) + 1) q) 7 q))) (gI (kcopy (fSend σ 4 w) ((sendTo σ) + 1) q) 8 q) hWf) rfl rfl (by decide) xc_Disk hN hK hP (mo (by decide)) rfl rfl hl.1 rfl (Nat.le_of_ble_eq_true rfl) d_Server_sendLease_42 (by decide)) hS (fun H locs hP hS => ?_)
  refine x_put (σ' := sI (sI (kcopy (fSend σ 4 w) ((sendTo σ) + 1) q) 16 (sendTo σ) (dOf (kcopy (fSend σ 4 w) ((sendTo σ) + 1) q) (gI (kcopy (fSend σ 4 w) ((sendTo σ) + 1) q) 7 q))) 17 (sendTo σ) (dOf (sI (kcopy (fSend σ 4 w) ((sendTo σ) + 1) q) 16 (sendTo σ) (dOf (kcopy (fSend σ 4 w) ((sendTo σ) + 1) q) (gI (kcopy (fSend σ 4 w) ((sendTo σ) + 1) q) 7 q))) (gI (kcopy (fSend σ 4 w) ((sendTo σ) + 1) q) 8 q))) (v := .int (dOf (sI (kcopy (fSend σ 4 w) ((sendTo σ) + 1) q) 16 (sendTo σ) (dOf (kcopy (fSend σ 4 w) ((sendTo σ) + 1) q) (gI (kcopy (fSend σ 4 w) ((sendTo σ) + 1) q) 7 q))) (gI (kcopy (fSend σ 4 w) ((sendTo σ) + 1) q) 8 q))) (k := 8) hx hb ht xc_Message t_Message t_Message_ok n_Message hown hK hP hJ hw hS (mo_msg hto) hto (by decide) fl_Server_201 rfl rfl rfl off_I (by simp [vl, gs]) rfl rfl d_Server_sendLease_45 (fun H locs hP hS => ?_)
  have hWf : Wf nw (sI (sI (kcopy (fSend σ 4 w) ((sendTo σ) + 1) q) 16 (sendTo σ) (dOf (kcopy (fSend σ 4 w) ((sendTo σ) + 1) q) (gI (kcopy (fSend σ 4 w) ((sendTo σ) + 1) q) 7 q))) 17 (sendTo σ) (dOf (sI (kcopy (fSend σ 4 w) ((sendTo σ) + 1) q) 16 (sendTo σ) (dOf (kcopy (fSend σ 4 w) ((sendTo σ) + 1) q) (gI (kcopy (fSend σ 4 w) ((sendTo σ) + 1) q) 7 q))) (gI (kcopy (fSend σ 4 w) ((sendTo σ) + 1) q) 8 q))) := wf_I hWf
  exact x_vret hx hb hr hlk hK hP hS d_Server_sendLease_48 rfl
set_option maxHeartbeats 4000000 in
set_option maxRecDepth 100000 in
theorem c_Server_answer (l : Launch) (D : va_G) (dA : Nat → ClassId) (ad : Nat → Nat) (nw : Nat) (hJ : Inj ad (obC nw)) (hnw : nw ≤ 4) (σ : Sg) (q : Nat) (d : Int32) (c : Int32) (hWf : Wf nw σ) (hk_q : kdC q = 1) (hm_q : q ∈ obC nw) : CV l D clX (tyX dA) (SC nw) ad dA (obC nw) NL y_Server_answer w_Server_answer { frames := 3, cells := 0, slots := 0, locals := 68 } [.ref (ad 63), .ref (ad q), .int d, .int c] σ (sAns σ q d c) := by
  refine x_of (WS := WS) (cc := b_Server_answer) (maxL := 4) (ret := none) (by decide) rfl (Nat.le_of_ble_eq_true rfl) ?_
  intro pp ee ss mm below meth cdd hx hb hml hr hlk ht hown hnm hN hK hP ls hl
  have hl : lv_has ls 4 [(0, .ref (ad 63)), (1, .ref (ad q)), (2, .int d), (3, .int c)] := hl
  have hS : va_S (Ad ad (obC nw)) ss.heap ss.heap [] := va_S.rf
  have hw := swfC hnw
  have hWn := hWf.n
  have hWq := hWf.q
  have hWit := hWf.it
  have hWbl := hWf.bl
  have hWrs := hWf.rs
  have hWlt := hWf.lt
  have hWln := hWf.ln
  refine lv_aload_n hx hb d_Server_answer_0 rfl (lv_at hl 0 rfl) ?_
  refine x_get (v := .ref (ad 1)) (k := 0) hx hb ht xc_Server hown hK hP (mo (by decide)) rfl (by decide) fl_Server_45 rfl rfl rfl d_Server_answer_1 ?_
  refine lv_bipush (v := (nI 6)) hx hb d_Server_answer_4 (by decide) ?_
  refine lv_bipush (v := (nI 9)) hx hb d_Server_answer_6 (by decide) ?_
  have hto : kdC (sendTo σ) = 2 := kd_to hWf
  refine x_cr (x_rV (As := [.int (nI 6), .int (nI 9)]) (rest := []) hx hb hml hown ht gW cs_Server_192 (c_Flight_send l D dA ad nw hJ hnw σ 6 9 hWf.R hWf.n) rfl rfl (by decide) xc_Flight hN hK hP (mo (by decide)) rfl rfl hl.1 rfl (Nat.le_of_ble_eq_true rfl) d_Server_answer_8 (by decide)) hS (fun H locs hP hS => ?_)
  have hWf : Wf nw (fSend σ 6 9) := wf_send hWf (by omega) (by omega)
  refine lv_aload_n hx hb d_Server_answer_11 rfl (lv_at hl 1 rfl) ?_
  refine lv_iload_n hx hb d_Server_answer_12 rfl (lv_at hl 2 rfl) ?_
  refine lv_iload_n hx hb d_Server_answer_13 rfl (lv_at hl 3 rfl) ?_
  refine x_cv (x_rV (As := [.ref (ad q), .int d, .int c]) (rest := []) hx hb hml hown ht gW cs_Server_213 (c_Message_fill l D dA ad nw hJ hnw (fSend σ 6 9) (sendTo σ) q d c hto hk_q hm_q) rfl rfl (by decide) xc_Message hN hK hP (mo_msg hto) hto rfl hl.1 rfl (Nat.le_of_ble_eq_true rfl) d_Server_answer_14 (by decide)) hS (fun H locs hP hS => ?_)
  have hWf : Wf nw (mFill (fSend σ 6 9) (sendTo σ) q d c) := wf_fill hWf
  exact x_vret hx hb hr hlk hK hP hS d_Server_answer_17 rfl
set_option maxHeartbeats 4000000 in
set_option maxRecDepth 100000 in
theorem c_Server_sendLack (l : Launch) (D : va_G) (dA : Nat → ClassId) (ad : Nat → Nat) (nw : Nat) (hJ : Inj ad (obC nw)) (hnw : nw ≤ 4) (σ : Sg) (q : Nat) (hWf : Wf nw σ) (hq : kdC q = 2) : CV l D clX (tyX dA) (SC nw) ad dA (obC nw) NL y_Server_sendLack w_Server_sendLack { frames := 2, cells := 0, slots := 0, locals := 43 } [.ref (ad 63), .ref (ad q)] σ (sLack σ q) := by
  refine x_of (WS := WS) (cc := b_Server_sendLack) (maxL := 3) (ret := none) (by decide) rfl (Nat.le_of_ble_eq_true rfl) ?_
  intro pp ee ss mm below meth cdd hx hb hml hr hlk ht hown hnm hN hK hP ls hl
  have hl : lv_has ls 3 [(0, .ref (ad 63)), (1, .ref (ad q))] := hl
  have hS : va_S (Ad ad (obC nw)) ss.heap ss.heap [] := va_S.rf
  have hw := swfC hnw
  have hWn := hWf.n
  have hWq := hWf.q
  have hWit := hWf.it
  have hWbl := hWf.bl
  have hWrs := hWf.rs
  have hWlt := hWf.lt
  have hWln := hWf.ln
  have him := hWf.im q
  refine lv_aload_n hx hb d_Server_sendLack_0 rfl (lv_at hl 0 rfl) ?_
  refine x_get (v := .ref (ad 1)) (k := 0) hx hb ht xc_Server hown hK hP (mo (by decide)) rfl (by decide) fl_Server_45 rfl rfl rfl d_Server_sendLack_1 ?_
  refine lv_iconst (v := (nI 2)) hx hb d_Server_sendLack_4 (by decide) ?_
  refine lv_bipush (v := (nI 9)) hx hb d_Server_sendLack_5 (by decide) ?_
  have hto : kdC (sendTo σ) = 2 := kd_to hWf
  refine x_cr (x_rV (As := [.int (nI 2), .int (nI 9)]) (rest := []) hx hb hml hown ht gW cs_Server_192 (c_Flight_send l D dA ad nw hJ hnw σ 2 9 hWf.R hWf.n) rfl rfl (by decide) xc_Flight hN hK hP (mo (by decide)) rfl rfl hl.1 rfl (Nat.le_of_ble_eq_true rfl) d_Server_sendLack_7 (by decide)) hS (fun H locs hP hS => ?_)
  have hWf : Wf nw (fSend σ 2 9) := wf_send hWf (by omega) (by omega)
  refine lv_astore_n (lv' := [(2, .ref (ad (sendTo σ))), (0, .ref (ad 63)), (1, .ref (ad q))]) hx hb d_Server_sendLack_10 rfl hl (by decide) rfl (fun ls hl => ?_)
  refine lv_aload_n hx hb d_Server_sendLack_11 rfl (lv_at hl 0 rfl) ?_
  refine lv_aload_n hx hb d_Server_sendLack_12 rfl (lv_at hl 2 rfl) ?_
  refine x_get (v := .int (nI (gN σ 12 q))) (k := 3) hx hb ht xc_Message hown hK hP (mo_msg hq) hq (by decide) fl_Server_204 rfl rfl (congrArg (fun z => Value.int (nI z)) (send_N σ 2 9 (by decide) q)) d_Server_sendLack_13 ?_
  refine x_put (σ' := sN (fSend σ 2 9) 12 (sendTo σ) (gN σ 12 q)) (v := .int (nI (gN σ 12 q))) (k := 3) hx hb ht xc_Message t_Message t_Message_ok n_Message hown hK hP hJ hw hS (mo_msg hto) hto (by decide) fl_Server_204 rfl rfl rfl off_N (by simp [vl, gs]) rfl rfl d_Server_sendLack_16 (fun H locs hP hS => ?_)
  have hWf : Wf nw (sN (fSend σ 2 9) 12 (sendTo σ) (gN σ 12 q)) := wf_12 hWf him
  refine lv_aload_n hx hb d_Server_sendLack_19 rfl (lv_at hl 0 rfl) ?_
  refine lv_aload_n hx hb d_Server_sendLack_20 rfl (lv_at hl 1 rfl) ?_
  refine x_get (v := .ref (ad 64)) (k := 1) hx hb ht xc_Server hown hK hP (mo (by decide)) rfl (by decide) fl_Server_12 rfl rfl rfl d_Server_sendLack_21 ?_
  refine lv_aload_n hx hb d_Server_sendLack_24 rfl (lv_at hl 2 rfl) ?_
  refine x_get (v := .ref (ad (q + 1))) (k := 0) hx hb ht xc_Message hown hK hP (mo_msg hq) hq (by decide) fl_Server_81 rfl rfl rfl d_Server_sendLack_25 ?_
  refine x_get (v := .int (gI σ 7 (q + 1))) (k := 1) hx hb ht xc_Key hown hK hP (mo_msgk hq) (kd_msgk hq) (by decide) fl_Server_102 rfl rfl (congrArg (fun z => Value.int z) (send_I σ 2 9 7 (q + 1))) d_Server_sendLack_28 ?_
  refine x_ci (x_rV (As := [.int (gI σ 7 (q + 1))]) (rest := [.ref (ad (sendTo σ))]) hx hb hml hown ht gW cs_Server_107 (c_Disk_hasBlob l D dA ad nw hJ hnw (sN (fSend σ 2 9) 12 (sendTo σ) (gN σ 12 q)) (gI σ 7 (q + 1)) hWf) rfl rfl (by decide) xc_Disk hN hK hP (mo (by decide)) rfl rfl hl.1 rfl (Nat.le_of_ble_eq_true rfl) d_Server_sendLack_31 (by decide)) hS (fun H locs hP hS => ?_)
  refine x_ifneB (tgt := 41) hx hb d_Server_sendLack_34 (by decide) (fun h1 => ?_) (fun h1 => ?_)
  · refine lv_iconst (v := (nI 0)) hx hb d_Server_sendLack_41 (by decide) ?_
    refine x_put (σ' := sB (sN (fSend σ 2 9) 12 (sendTo σ) (gN σ 12 q)) 13 (sendTo σ) false) (v := .int (nI 0)) (k := 4) hx hb ht xc_Message t_Message t_Message_ok n_Message hown hK hP hJ hw hS (mo_msg hto) hto (by decide) fl_Server_207 rfl rfl rfl off_B (by simp [vl, gs]; rfl) rfl rfl d_Server_sendLack_42 (fun H locs hP hS => ?_)
    have hWf : Wf nw (sB (sN (fSend σ 2 9) 12 (sendTo σ) (gN σ 12 q)) 13 (sendTo σ) false) := wf_B hWf
    refine lv_aload_n hx hb d_Server_sendLack_45 rfl (lv_at hl 0 rfl) ?_
    refine lv_aload_n hx hb d_Server_sendLack_46 rfl (lv_at hl 1 rfl) ?_
    refine x_get (v := .ref (ad 64)) (k := 1) hx hb ht xc_Server hown hK hP (mo (by decide)) rfl (by decide) fl_Server_12 rfl rfl rfl d_Server_sendLack_47 ?_
    refine lv_aload_n hx hb d_Server_sendLack_50 rfl (lv_at hl 2 rfl) ?_
    refine x_get (v := .ref (ad (q + 1))) (k := 0) hx hb ht xc_Message hown hK hP (mo_msg hq) hq (by decide) fl_Server_81 rfl rfl rfl d_Server_sendLack_51 ?_
    refine x_get (v := .int (gI σ 8 (q + 1))) (k := 2) hx hb ht xc_Key hown hK hP (mo_msgk hq) (kd_msgk hq) (by decide) fl_Server_110 rfl rfl (congrArg (fun z => Value.int z) (send_I σ 2 9 8 (q + 1))) d_Server_sendLack_54 ?_
    refine x_ci (x_rV (As := [.int (gI σ 8 (q + 1))]) (rest := [.ref (ad (sendTo σ))]) hx hb hml hown ht gW cs_Server_107 (c_Disk_hasBlob l D dA ad nw hJ hnw (sB (sN (fSend σ 2 9) 12 (sendTo σ) (gN σ 12 q)) 13 (sendTo σ) false) (gI σ 8 (q + 1)) hWf) rfl rfl (by decide) xc_Disk hN hK hP (mo (by decide)) rfl rfl hl.1 rfl (Nat.le_of_ble_eq_true rfl) d_Server_sendLack_57 (by decide)) hS (fun H locs hP hS => ?_)
    refine x_ifneB (tgt := 67) hx hb d_Server_sendLack_60 (by decide) (fun h2 => ?_) (fun h2 => ?_)
    · refine lv_iconst (v := (nI 0)) hx hb d_Server_sendLack_67 (by decide) ?_
      refine x_put (σ' := sB (sB (sN (fSend σ 2 9) 12 (sendTo σ) (gN σ 12 q)) 13 (sendTo σ) false) 14 (sendTo σ) false) (v := .int (nI 0)) (k := 5) hx hb ht xc_Message t_Message t_Message_ok n_Message hown hK hP hJ hw hS (mo_msg hto) hto (by decide) fl_Server_210 rfl rfl rfl off_B (by simp [vl, gs]; rfl) rfl rfl d_Server_sendLack_68 (fun H locs hP hS => ?_)
      have hWf : Wf nw (sB (sB (sN (fSend σ 2 9) 12 (sendTo σ) (gN σ 12 q)) 13 (sendTo σ) false) 14 (sendTo σ) false) := wf_B hWf
      exact x_vret hx hb hr hlk hK hP hS d_Server_sendLack_71 (by simp [sLack, sLack2, sLack1, h1, h2])
    · refine lv_iconst (v := (nI 1)) hx hb d_Server_sendLack_63 (by decide) ?_
      refine lv_goto (tgt := 68) hx hb d_Server_sendLack_64 (by decide) ?_
      refine x_put (σ' := sB (sB (sN (fSend σ 2 9) 12 (sendTo σ) (gN σ 12 q)) 13 (sendTo σ) false) 14 (sendTo σ) true) (v := .int (nI 1)) (k := 5) hx hb ht xc_Message t_Message t_Message_ok n_Message hown hK hP hJ hw hS (mo_msg hto) hto (by decide) fl_Server_210 rfl rfl rfl off_B (by simp [vl, gs]; rfl) rfl rfl d_Server_sendLack_68 (fun H locs hP hS => ?_)
      have hWf : Wf nw (sB (sB (sN (fSend σ 2 9) 12 (sendTo σ) (gN σ 12 q)) 13 (sendTo σ) false) 14 (sendTo σ) true) := wf_B hWf
      exact x_vret hx hb hr hlk hK hP hS d_Server_sendLack_71 (by simp [sLack, sLack2, sLack1, h1, h2])
  · refine lv_iconst (v := (nI 1)) hx hb d_Server_sendLack_37 (by decide) ?_
    refine lv_goto (tgt := 42) hx hb d_Server_sendLack_38 (by decide) ?_
    refine x_put (σ' := sB (sN (fSend σ 2 9) 12 (sendTo σ) (gN σ 12 q)) 13 (sendTo σ) true) (v := .int (nI 1)) (k := 4) hx hb ht xc_Message t_Message t_Message_ok n_Message hown hK hP hJ hw hS (mo_msg hto) hto (by decide) fl_Server_207 rfl rfl rfl off_B (by simp [vl, gs]; rfl) rfl rfl d_Server_sendLack_42 (fun H locs hP hS => ?_)
    have hWf : Wf nw (sB (sN (fSend σ 2 9) 12 (sendTo σ) (gN σ 12 q)) 13 (sendTo σ) true) := wf_B hWf
    refine lv_aload_n hx hb d_Server_sendLack_45 rfl (lv_at hl 0 rfl) ?_
    refine lv_aload_n hx hb d_Server_sendLack_46 rfl (lv_at hl 1 rfl) ?_
    refine x_get (v := .ref (ad 64)) (k := 1) hx hb ht xc_Server hown hK hP (mo (by decide)) rfl (by decide) fl_Server_12 rfl rfl rfl d_Server_sendLack_47 ?_
    refine lv_aload_n hx hb d_Server_sendLack_50 rfl (lv_at hl 2 rfl) ?_
    refine x_get (v := .ref (ad (q + 1))) (k := 0) hx hb ht xc_Message hown hK hP (mo_msg hq) hq (by decide) fl_Server_81 rfl rfl rfl d_Server_sendLack_51 ?_
    refine x_get (v := .int (gI σ 8 (q + 1))) (k := 2) hx hb ht xc_Key hown hK hP (mo_msgk hq) (kd_msgk hq) (by decide) fl_Server_110 rfl rfl (congrArg (fun z => Value.int z) (send_I σ 2 9 8 (q + 1))) d_Server_sendLack_54 ?_
    refine x_ci (x_rV (As := [.int (gI σ 8 (q + 1))]) (rest := [.ref (ad (sendTo σ))]) hx hb hml hown ht gW cs_Server_107 (c_Disk_hasBlob l D dA ad nw hJ hnw (sB (sN (fSend σ 2 9) 12 (sendTo σ) (gN σ 12 q)) 13 (sendTo σ) true) (gI σ 8 (q + 1)) hWf) rfl rfl (by decide) xc_Disk hN hK hP (mo (by decide)) rfl rfl hl.1 rfl (Nat.le_of_ble_eq_true rfl) d_Server_sendLack_57 (by decide)) hS (fun H locs hP hS => ?_)
    refine x_ifneB (tgt := 67) hx hb d_Server_sendLack_60 (by decide) (fun h3 => ?_) (fun h3 => ?_)
    · refine lv_iconst (v := (nI 0)) hx hb d_Server_sendLack_67 (by decide) ?_
      refine x_put (σ' := sB (sB (sN (fSend σ 2 9) 12 (sendTo σ) (gN σ 12 q)) 13 (sendTo σ) true) 14 (sendTo σ) false) (v := .int (nI 0)) (k := 5) hx hb ht xc_Message t_Message t_Message_ok n_Message hown hK hP hJ hw hS (mo_msg hto) hto (by decide) fl_Server_210 rfl rfl rfl off_B (by simp [vl, gs]; rfl) rfl rfl d_Server_sendLack_68 (fun H locs hP hS => ?_)
      have hWf : Wf nw (sB (sB (sN (fSend σ 2 9) 12 (sendTo σ) (gN σ 12 q)) 13 (sendTo σ) true) 14 (sendTo σ) false) := wf_B hWf
      exact x_vret hx hb hr hlk hK hP hS d_Server_sendLack_71 (by simp [sLack, sLack2, sLack1, h1, h3])
    · refine lv_iconst (v := (nI 1)) hx hb d_Server_sendLack_63 (by decide) ?_
      refine lv_goto (tgt := 68) hx hb d_Server_sendLack_64 (by decide) ?_
      refine x_put (σ' := sB (sB (sN (fSend σ 2 9) 12 (sendTo σ) (gN σ 12 q)) 13 (sendTo σ) true) 14 (sendTo σ) true) (v := .int (nI 1)) (k := 5) hx hb ht xc_Message t_Message t_Message_ok n_Message hown hK hP hJ hw hS (mo_msg hto) hto (by decide) fl_Server_210 rfl rfl rfl off_B (by simp [vl, gs]; rfl) rfl rfl d_Server_sendLack_68 (fun H locs hP hS => ?_)
      have hWf : Wf nw (sB (sB (sN (fSend σ 2 9) 12 (sendTo σ) (gN σ 12 q)) 13 (sendTo σ) true) 14 (sendTo σ) true) := wf_B hWf
      exact x_vret hx hb hr hlk hK hP hS d_Server_sendLack_71 (by simp [sLack, sLack2, sLack1, h1, h3])
set_option maxHeartbeats 4000000 in
set_option maxRecDepth 100000 in
theorem c_Server_takeAsk (l : Launch) (D : va_G) (dA : Nat → ClassId) (ad : Nat → Nat) (nw : Nat) (hJ : Inj ad (obC nw)) (hnw : nw ≤ 4) (σ : Sg) (q : Nat) (hWf : Wf nw σ) (hq : kdC q = 2) : CV l D clX (tyX dA) (SC nw) ad dA (obC nw) NL y_Server_takeAsk w_Server_takeAsk { frames := 4, cells := 0, slots := 0, locals := 91 } [.ref (ad 63), .ref (ad q)] σ (sAsk σ nw q) := by
  refine x_of (WS := WS) (cc := b_Server_takeAsk) (maxL := 3) (ret := none) (by decide) rfl (Nat.le_of_ble_eq_true rfl) ?_
  intro pp ee ss mm below meth cdd hx hb hml hr hlk ht hown hnm hN hK hP ls hl
  have hl : lv_has ls 3 [(0, .ref (ad 63)), (1, .ref (ad q))] := hl
  have hS : va_S (Ad ad (obC nw)) ss.heap ss.heap [] := va_S.rf
  have hw := swfC hnw
  have hWn := hWf.n
  have hWq := hWf.q
  have hWit := hWf.it
  have hWbl := hWf.bl
  have hWrs := hWf.rs
  have hWlt := hWf.lt
  have hWln := hWf.ln
  refine lv_aload_n hx hb d_Server_takeAsk_0 rfl (lv_at hl 0 rfl) ?_
  refine x_get (v := .ref (ad 64)) (k := 1) hx hb ht xc_Server hown hK hP (mo (by decide)) rfl (by decide) fl_Server_12 rfl rfl rfl d_Server_takeAsk_1 ?_
  refine lv_aload_n hx hb d_Server_takeAsk_4 rfl (lv_at hl 1 rfl) ?_
  refine x_get (v := .ref (ad (q + 1))) (k := 0) hx hb ht xc_Message hown hK hP (mo_msg hq) hq (by decide) fl_Server_81 rfl rfl rfl d_Server_takeAsk_5 ?_
  refine x_ci (x_rV (As := [.ref (ad (q + 1))]) (rest := []) hx hb hml hown ht gW cs_Server_87 (c_Disk_findResult l D dA ad nw hJ hnw σ (q + 1) hWf.rs (kd_msgk hq) (mo_msgk hq)) rfl rfl (by decide) xc_Disk hN hK hP (mo (by decide)) rfl rfl hl.1 rfl (Nat.le_of_ble_eq_true rfl) d_Server_takeAsk_8 (by decide)) hS (fun H locs hP hS => ?_)
  refine lv_istore_n (lv' := [(2, .int (oI (fRes σ (q + 1)))), (0, .ref (ad 63)), (1, .ref (ad q))]) hx hb d_Server_takeAsk_11 rfl hl (by decide) rfl (fun ls hl => ?_)
  refine lv_iload_n hx hb d_Server_takeAsk_12 rfl (lv_at hl 0 rfl) ?_
  refine lv_iconst (v := ((-1))) hx hb d_Server_takeAsk_13 (by decide) ?_
  refine lv_icmp_eq (tgt := 63) hx hb d_Server_takeAsk_14 (by decide) (fun h1 => ?_) (fun h1 => ?_)
  · refine lv_aload_n hx hb d_Server_takeAsk_63 rfl (lv_at hl 1 rfl) ?_
    refine x_get (v := .ref (ad 64)) (k := 1) hx hb ht xc_Server hown hK hP (mo (by decide)) rfl (by decide) fl_Server_12 rfl rfl rfl d_Server_takeAsk_64 ?_
    refine lv_aload_n hx hb d_Server_takeAsk_67 rfl (lv_at hl 2 rfl) ?_
    refine x_get (v := .ref (ad (q + 1))) (k := 0) hx hb ht xc_Message hown hK hP (mo_msg hq) hq (by decide) fl_Server_81 rfl rfl rfl d_Server_takeAsk_68 ?_
    refine x_get (v := .int (gI σ 7 (q + 1))) (k := 1) hx hb ht xc_Key hown hK hP (mo_msgk hq) (kd_msgk hq) (by decide) fl_Server_102 rfl rfl rfl d_Server_takeAsk_71 ?_
    refine x_ci (x_rV (As := [.int (gI σ 7 (q + 1))]) (rest := []) hx hb hml hown ht gW cs_Server_107 (c_Disk_hasBlob l D dA ad nw hJ hnw σ (gI σ 7 (q + 1)) hWf) rfl rfl (by decide) xc_Disk hN hK hP (mo (by decide)) rfl rfl hl.1 rfl (Nat.le_of_ble_eq_true rfl) d_Server_takeAsk_74 (by decide)) hS (fun H locs hP hS => ?_)
    refine x_ifeqB (tgt := 97) hx hb d_Server_takeAsk_77 (by decide) (fun h2 => ?_) (fun h2 => ?_)
    · refine lv_aload_n hx hb d_Server_takeAsk_97 rfl (lv_at hl 1 rfl) ?_
      refine lv_aload_n hx hb d_Server_takeAsk_98 rfl (lv_at hl 2 rfl) ?_
      refine x_cv (x_rV (As := [.ref (ad q)]) (rest := []) hx hb hml hown ht gW cs_Server_113 (c_Server_sendLack l D dA ad nw hJ hnw σ q hWf hq) rfl rfl (by decide) xc_Server hN hK hP (mo (by decide)) rfl rfl hl.1 rfl (Nat.le_of_ble_eq_true rfl) d_Server_takeAsk_99 (by decide)) hS (fun H locs hP hS => ?_)
      have hWf : Wf nw (sLack σ q) := wf_sLack hWf
      refine lv_goto (tgt := 146) hx hb d_Server_takeAsk_102 (by decide) ?_
      exact x_vret hx hb hr hlk hK hP hS d_Server_takeAsk_146 (by simp [sAsk, h1, h2])
    · refine lv_aload_n hx hb d_Server_takeAsk_80 rfl (lv_at hl 1 rfl) ?_
      refine x_get (v := .ref (ad 64)) (k := 1) hx hb ht xc_Server hown hK hP (mo (by decide)) rfl (by decide) fl_Server_12 rfl rfl rfl d_Server_takeAsk_81 ?_
      refine lv_aload_n hx hb d_Server_takeAsk_84 rfl (lv_at hl 2 rfl) ?_
      refine x_get (v := .ref (ad (q + 1))) (k := 0) hx hb ht xc_Message hown hK hP (mo_msg hq) hq (by decide) fl_Server_81 rfl rfl rfl d_Server_takeAsk_85 ?_
      refine x_get (v := .int (gI σ 8 (q + 1))) (k := 2) hx hb ht xc_Key hown hK hP (mo_msgk hq) (kd_msgk hq) (by decide) fl_Server_110 rfl rfl rfl d_Server_takeAsk_88 ?_
      refine x_ci (x_rV (As := [.int (gI σ 8 (q + 1))]) (rest := []) hx hb hml hown ht gW cs_Server_107 (c_Disk_hasBlob l D dA ad nw hJ hnw σ (gI σ 8 (q + 1)) hWf) rfl rfl (by decide) xc_Disk hN hK hP (mo (by decide)) rfl rfl hl.1 rfl (Nat.le_of_ble_eq_true rfl) d_Server_takeAsk_91 (by decide)) hS (fun H locs hP hS => ?_)
      refine x_ifneB (tgt := 105) hx hb d_Server_takeAsk_94 (by decide) (fun h3 => ?_) (fun h3 => ?_)
      · refine lv_aload_n hx hb d_Server_takeAsk_105 rfl (lv_at hl 1 rfl) ?_
        refine x_get (v := .ref (ad 79)) (k := 2) hx hb ht xc_Server hown hK hP (mo (by decide)) rfl (by decide) fl_Server_21 rfl rfl rfl d_Server_takeAsk_106 ?_
        refine lv_aload_n hx hb d_Server_takeAsk_109 rfl (lv_at hl 2 rfl) ?_
        refine x_get (v := .ref (ad (q + 1))) (k := 0) hx hb ht xc_Message hown hK hP (mo_msg hq) hq (by decide) fl_Server_81 rfl rfl rfl d_Server_takeAsk_110 ?_
        refine x_ci (x_rV (As := [.ref (ad (q + 1))]) (rest := []) hx hb hml hown ht gW cs_Server_117 (c_Queue_find l D dA ad nw hJ hnw σ (q + 1) hWf.q hWf.Q (kd_msgk hq) (mo_msgk hq)) rfl rfl (by decide) xc_Queue hN hK hP (mo (by decide)) rfl rfl hl.1 rfl (Nat.le_of_ble_eq_true rfl) d_Server_takeAsk_113 (by decide)) hS (fun H locs hP hS => ?_)
        refine lv_iconst (v := ((-1))) hx hb d_Server_takeAsk_116 (by decide) ?_
        refine lv_icmp_ne (tgt := 146) hx hb d_Server_takeAsk_117 (by decide) (fun h4 => ?_) (fun h4 => ?_)
        · exact x_vret hx hb hr hlk hK hP hS d_Server_takeAsk_146 (by simp [sAsk, h1, h2, h3, h4])
        · refine lv_aload_n hx hb d_Server_takeAsk_120 rfl (lv_at hl 1 rfl) ?_
          refine x_get (v := .ref (ad 91)) (k := 3) hx hb ht xc_Server hown hK hP (mo (by decide)) rfl (by decide) fl_Server_54 rfl rfl rfl d_Server_takeAsk_121 ?_
          refine lv_aload_n hx hb d_Server_takeAsk_124 rfl (lv_at hl 2 rfl) ?_
          refine x_get (v := .ref (ad (q + 1))) (k := 0) hx hb ht xc_Message hown hK hP (mo_msg hq) hq (by decide) fl_Server_81 rfl rfl rfl d_Server_takeAsk_125 ?_
          refine x_ci (x_rV (As := [.ref (ad (q + 1))]) (rest := []) hx hb hml hown ht gW cs_Server_120 (c_Leases_find l D dA ad nw hJ hnw σ (q + 1) (kd_msgk hq) (mo_msgk hq)) rfl rfl (by decide) xc_Leases hN hK hP (mo (by decide)) rfl rfl hl.1 rfl (Nat.le_of_ble_eq_true rfl) d_Server_takeAsk_128 (by decide)) hS (fun H locs hP hS => ?_)
          refine lv_iconst (v := ((-1))) hx hb d_Server_takeAsk_131 (by decide) ?_
          refine lv_icmp_ne (tgt := 146) hx hb d_Server_takeAsk_132 (by decide) (fun h5 => ?_) (fun h5 => ?_)
          · exact x_vret hx hb hr hlk hK hP hS d_Server_takeAsk_146 (by simp [sAsk, h1, h2, h3, h4, h5])
          · refine lv_aload_n hx hb d_Server_takeAsk_135 rfl (lv_at hl 1 rfl) ?_
            refine x_get (v := .ref (ad 79)) (k := 2) hx hb ht xc_Server hown hK hP (mo (by decide)) rfl (by decide) fl_Server_21 rfl rfl rfl d_Server_takeAsk_136 ?_
            refine lv_aload_n hx hb d_Server_takeAsk_139 rfl (lv_at hl 2 rfl) ?_
            refine x_get (v := .ref (ad (q + 1))) (k := 0) hx hb ht xc_Message hown hK hP (mo_msg hq) hq (by decide) fl_Server_81 rfl rfl rfl d_Server_takeAsk_140 ?_
            refine x_cv (x_rV (As := [.ref (ad (q + 1))]) (rest := []) hx hb hml hown ht gW cs_Server_121 (c_Queue_append l D dA ad nw hJ hnw σ (q + 1) hWf (kd_msgk hq) (mo_msgk hq)) rfl rfl (by decide) xc_Queue hN hK hP (mo (by decide)) rfl rfl hl.1 rfl (Nat.le_of_ble_eq_true rfl) d_Server_takeAsk_143 (by decide)) hS (fun H locs hP hS => ?_)
            have hWf : Wf nw (qApp σ (q + 1)) := wf_qApp hWf
            exact x_vret hx hb hr hlk hK hP hS d_Server_takeAsk_146 (by simp [sAsk, h1, h2, h3, h4, h5])
      · refine lv_aload_n hx hb d_Server_takeAsk_97 rfl (lv_at hl 1 rfl) ?_
        refine lv_aload_n hx hb d_Server_takeAsk_98 rfl (lv_at hl 2 rfl) ?_
        refine x_cv (x_rV (As := [.ref (ad q)]) (rest := []) hx hb hml hown ht gW cs_Server_113 (c_Server_sendLack l D dA ad nw hJ hnw σ q hWf hq) rfl rfl (by decide) xc_Server hN hK hP (mo (by decide)) rfl rfl hl.1 rfl (Nat.le_of_ble_eq_true rfl) d_Server_takeAsk_99 (by decide)) hS (fun H locs hP hS => ?_)
        have hWf : Wf nw (sLack σ q) := wf_sLack hWf
        refine lv_goto (tgt := 146) hx hb d_Server_takeAsk_102 (by decide) ?_
        exact x_vret hx hb hr hlk hK hP hS d_Server_takeAsk_146 (by simp [sAsk, h1, h2, h3])
  · obtain ⟨j, hj, hjl⟩ := oI_some (fRes_lt hWf) h1
    have hjv : oI (fRes σ (q + 1)) = nI j := by rw [hj]; rfl
    rw [hjv] at hl
    refine lv_aload_n hx hb d_Server_takeAsk_17 rfl (lv_at hl 1 rfl) ?_
    refine lv_dup hx hb d_Server_takeAsk_18 rfl ?_
    refine x_get (v := .int (nI (gN σ 48 63))) (k := 8) hx hb ht xc_Server hown hK hP (mo (by decide)) rfl (by decide) fl_Server_36 rfl rfl rfl d_Server_takeAsk_19 ?_
    refine lv_iconst (v := (nI 1)) hx hb d_Server_takeAsk_22 (by decide) ?_
    refine x_iaddN hx hb d_Server_takeAsk_23 ?_
    refine x_put (σ' := sN σ 48 63 ((gN σ 48 63) + 1)) (v := .int (nI ((gN σ 48 63) + 1))) (k := 8) hx hb ht xc_Server t_Server t_Server_ok n_Server hown hK hP hJ hw hS (mo (by decide)) rfl (by decide) fl_Server_36 rfl rfl rfl off_N rfl rfl rfl d_Server_takeAsk_24 (fun H locs hP hS => ?_)
    have hWf : Wf nw (sN σ 48 63 ((gN σ 48 63) + 1)) := wf_N (by decide) hWf
    refine lv_aload_n hx hb d_Server_takeAsk_27 rfl (lv_at hl 1 rfl) ?_
    refine lv_aload_n hx hb d_Server_takeAsk_28 rfl (lv_at hl 2 rfl) ?_
    refine x_get (v := .ref (ad (q + 1))) (k := 0) hx hb ht xc_Message hown hK hP (mo_msg hq) hq (by decide) fl_Server_81 rfl rfl rfl d_Server_takeAsk_29 ?_
    refine lv_aload_n hx hb d_Server_takeAsk_32 rfl (lv_at hl 1 rfl) ?_
    refine x_get (v := .ref (ad 64)) (k := 1) hx hb ht xc_Server hown hK hP (mo (by decide)) rfl (by decide) fl_Server_12 rfl rfl rfl d_Server_takeAsk_33 ?_
    refine x_get (v := .ref (ad 68)) (k := 3) hx hb ht xc_Disk hown hK hP (mo (by decide)) rfl (by decide) fl_Server_91 rfl rfl rfl d_Server_takeAsk_36 ?_
    refine lv_iload_n hx hb d_Server_takeAsk_39 rfl (lv_at hl 0 rfl) ?_
    refine x_iald (κ := 110) (n := 10) hx hb hK hP (mo (by decide)) rfl (by decide) rfl rfl (by omega) (by omega) d_Server_takeAsk_40 ?_
    rw [show gI (sN σ 48 63 ((gN σ 48 63) + 1)) 110 j = gI σ 110 j from rfl]
    refine lv_aload_n hx hb d_Server_takeAsk_41 rfl (lv_at hl 1 rfl) ?_
    refine x_get (v := .ref (ad 64)) (k := 1) hx hb ht xc_Server hown hK hP (mo (by decide)) rfl (by decide) fl_Server_12 rfl rfl rfl d_Server_takeAsk_42 ?_
    refine lv_aload_n hx hb d_Server_takeAsk_45 rfl (lv_at hl 1 rfl) ?_
    refine x_get (v := .ref (ad 64)) (k := 1) hx hb ht xc_Server hown hK hP (mo (by decide)) rfl (by decide) fl_Server_12 rfl rfl rfl d_Server_takeAsk_46 ?_
    refine x_get (v := .ref (ad 68)) (k := 3) hx hb ht xc_Disk hown hK hP (mo (by decide)) rfl (by decide) fl_Server_91 rfl rfl rfl d_Server_takeAsk_49 ?_
    refine lv_iload_n hx hb d_Server_takeAsk_52 rfl (lv_at hl 0 rfl) ?_
    refine x_iald (κ := 110) (n := 10) hx hb hK hP (mo (by decide)) rfl (by decide) rfl rfl (by omega) (by omega) d_Server_takeAsk_53 ?_
    rw [show gI (sN σ 48 63 ((gN σ 48 63) + 1)) 110 j = gI σ 110 j from rfl]
    refine x_ci (x_rV (As := [.int (gI σ 110 j)]) (rest := [.int (gI σ 110 j), .ref (ad (q + 1)), .ref (ad 63)]) hx hb hml hown ht gW cs_Server_94 (c_Disk_blobOf l D dA ad nw hJ hnw (sN σ 48 63 ((gN σ 48 63) + 1)) (gI σ 110 j) hWf) rfl rfl (by decide) xc_Disk hN hK hP (mo (by decide)) rfl rfl hl.1 rfl (Nat.le_of_ble_eq_true rfl) d_Server_takeAsk_54 (by decide)) hS (fun H locs hP hS => ?_)
    refine x_cv (x_rV (As := [.ref (ad (q + 1)), .int (gI σ 110 j), .int (dOf (sN σ 48 63 ((gN σ 48 63) + 1)) (gI σ 110 j))]) (rest := []) hx hb hml hown ht gW cs_Server_98 (c_Server_answer l D dA ad nw hJ hnw (sN σ 48 63 ((gN σ 48 63) + 1)) (q + 1) (gI σ 110 j) (dOf (sN σ 48 63 ((gN σ 48 63) + 1)) (gI σ 110 j)) hWf (kd_msgk hq) (mo_msgk hq)) rfl rfl (by decide) xc_Server hN hK hP (mo (by decide)) rfl rfl hl.1 rfl (Nat.le_of_ble_eq_true rfl) d_Server_takeAsk_57 (by decide)) hS (fun H locs hP hS => ?_)
    have hWf : Wf nw (sAns (sN σ 48 63 ((gN σ 48 63) + 1)) (q + 1) (gI σ 110 j) (dOf (sN σ 48 63 ((gN σ 48 63) + 1)) (gI σ 110 j))) := wf_ans hWf
    refine lv_goto (tgt := 146) hx hb d_Server_takeAsk_60 (by decide) ?_
    exact x_vret hx hb hr hlk hK hP hS d_Server_takeAsk_146 (by unfold sAsk sAskH; rw [if_neg h1, hj]; rfl)
set_option maxHeartbeats 4000000 in
set_option maxRecDepth 100000 in
theorem c_Server_takePut (l : Launch) (D : va_G) (dA : Nat → ClassId) (ad : Nat → Nat) (nw : Nat) (hJ : Inj ad (obC nw)) (hnw : nw ≤ 4) (σ : Sg) (q : Nat) (cut : Int32) (hWf : Wf nw σ) (hq : kdC q = 2) : CV l D clX (tyX dA) (SC nw) ad dA (obC nw) NL y_Server_takePut w_Server_takePut { frames := 3, cells := 0, slots := 0, locals := 61 } [.ref (ad 63), .ref (ad q), .int cut] σ (sPut σ nw q cut) := by
  refine x_of (WS := WS) (cc := b_Server_takePut) (maxL := 3) (ret := none) (by decide) rfl (Nat.le_of_ble_eq_true rfl) ?_
  intro pp ee ss mm below meth cdd hx hb hml hr hlk ht hown hnm hN hK hP ls hl
  have hl : lv_has ls 3 [(0, .ref (ad 63)), (1, .ref (ad q)), (2, .int cut)] := hl
  have hS : va_S (Ad ad (obC nw)) ss.heap ss.heap [] := va_S.rf
  have hw := swfC hnw
  have hWn := hWf.n
  have hWq := hWf.q
  have hWit := hWf.it
  have hWbl := hWf.bl
  have hWrs := hWf.rs
  have hWlt := hWf.lt
  have hWln := hWf.ln
  refine lv_aload_n hx hb d_Server_takePut_0 rfl (lv_at hl 0 rfl) ?_
  refine x_get (v := .ref (ad 64)) (k := 1) hx hb ht xc_Server hown hK hP (mo (by decide)) rfl (by decide) fl_Server_12 rfl rfl rfl d_Server_takePut_1 ?_
  refine lv_aload_n hx hb d_Server_takePut_4 rfl (lv_at hl 1 rfl) ?_
  refine x_get (v := .int (gI σ 15 q)) (k := 6) hx hb ht xc_Message hown hK hP (mo_msg hq) hq (by decide) fl_Server_125 rfl rfl rfl d_Server_takePut_5 ?_
  refine x_ci (x_rV (As := [.int (gI σ 15 q)]) (rest := []) hx hb hml hown ht gW cs_Server_107 (c_Disk_hasBlob l D dA ad nw hJ hnw σ (gI σ 15 q) hWf) rfl rfl (by decide) xc_Disk hN hK hP (mo (by decide)) rfl rfl hl.1 rfl (Nat.le_of_ble_eq_true rfl) d_Server_takePut_8 (by decide)) hS (fun H locs hP hS => ?_)
  refine x_ifeqB (tgt := 15) hx hb d_Server_takePut_11 (by decide) (fun h1 => ?_) (fun h1 => ?_)
  · refine lv_iload_n hx hb d_Server_takePut_15 rfl (lv_at hl 2 rfl) ?_
    refine lv_if_ne (tgt := 24) hx hb d_Server_takePut_16 (by decide) (fun h2 => ?_) (fun h2 => ?_)
    · refine lv_aload_n hx hb d_Server_takePut_24 rfl (lv_at hl 0 rfl) ?_
      refine x_get (v := .ref (ad 64)) (k := 1) hx hb ht xc_Server hown hK hP (mo (by decide)) rfl (by decide) fl_Server_12 rfl rfl rfl d_Server_takePut_25 ?_
      refine lv_aload_n hx hb d_Server_takePut_28 rfl (lv_at hl 1 rfl) ?_
      refine x_get (v := .int (gI σ 15 q)) (k := 6) hx hb ht xc_Message hown hK hP (mo_msg hq) hq (by decide) fl_Server_125 rfl rfl rfl d_Server_takePut_29 ?_
      refine lv_aload_n hx hb d_Server_takePut_32 rfl (lv_at hl 1 rfl) ?_
      refine x_get (v := .int (gI σ 16 q)) (k := 7) hx hb ht xc_Message hown hK hP (mo_msg hq) hq (by decide) fl_Server_131 rfl rfl rfl d_Server_takePut_33 ?_
      refine x_cv (x_rV (As := [.int (gI σ 15 q), .int (gI σ 16 q)]) (rest := []) hx hb hml hown ht gW cs_Server_134 (c_Disk_writeBlob l D dA ad nw hJ hnw σ (gI σ 15 q) (gI σ 16 q) hWf) rfl rfl (by decide) xc_Disk hN hK hP (mo (by decide)) rfl rfl hl.1 rfl (Nat.le_of_ble_eq_true rfl) d_Server_takePut_36 (by decide)) hS (fun H locs hP hS => ?_)
      have hWf : Wf nw (dWrite σ (gI σ 15 q) (gI σ 16 q)) := wf_dWrite hWf
      refine lv_aload_n hx hb d_Server_takePut_39 rfl (lv_at hl 0 rfl) ?_
      refine lv_dup hx hb d_Server_takePut_40 rfl ?_
      refine x_get (v := .int (nI (gN σ 47 63))) (k := 7) hx hb ht xc_Server hown hK hP (mo (by decide)) rfl (by decide) fl_Server_33 rfl rfl (congrArg (fun z => Value.int (nI z)) (dWrite_N σ (gI σ 15 q) (gI σ 16 q) (by decide) 63)) d_Server_takePut_41 ?_
      refine lv_iconst (v := (nI 1)) hx hb d_Server_takePut_44 (by decide) ?_
      refine x_iaddN hx hb d_Server_takePut_45 ?_
      refine x_put (σ' := sN (dWrite σ (gI σ 15 q) (gI σ 16 q)) 47 63 ((gN σ 47 63) + 1)) (v := .int (nI ((gN σ 47 63) + 1))) (k := 7) hx hb ht xc_Server t_Server t_Server_ok n_Server hown hK hP hJ hw hS (mo (by decide)) rfl (by decide) fl_Server_33 rfl rfl rfl off_N rfl rfl rfl d_Server_takePut_46 (fun H locs hP hS => ?_)
      have hWf : Wf nw (sN (dWrite σ (gI σ 15 q) (gI σ 16 q)) 47 63 ((gN σ 47 63) + 1)) := wf_N (by decide) hWf
      exact x_vret hx hb hr hlk hK hP hS d_Server_takePut_49 (by simp [sPut, h1, h2])
    · refine lv_aload_n hx hb d_Server_takePut_19 rfl (lv_at hl 0 rfl) ?_
      refine x_cv (x_rV (As := []) (rest := []) hx hb hml hown ht gW cs_Server_128 (c_Server_crashByCut l D dA ad nw hJ hnw σ ) rfl rfl (by decide) xc_Server hN hK hP (mo (by decide)) rfl rfl hl.1 rfl (Nat.le_of_ble_eq_true rfl) d_Server_takePut_20 (by decide)) hS (fun H locs hP hS => ?_)
      have hWf : Wf nw (sCut σ nw) := wf_cut hWf
      exact x_vret hx hb hr hlk hK hP hS d_Server_takePut_23 (by simp [sPut, h1, h2])
  · exact x_vret hx hb hr hlk hK hP hS d_Server_takePut_14 (by simp [sPut, h1])
set_option maxHeartbeats 4000000 in
set_option maxRecDepth 100000 in
theorem c_Server_takeResult (l : Launch) (D : va_G) (dA : Nat → ClassId) (ad : Nat → Nat) (nw : Nat) (hJ : Inj ad (obC nw)) (hnw : nw ≤ 4) (σ : Sg) (q : Nat) (cut : Int32) (hWf : Wf nw σ) (hq : kdC q = 2) : CV l D clX (tyX dA) (SC nw) ad dA (obC nw) NL y_Server_takeResult w_Server_takeResult { frames := 4, cells := 0, slots := 0, locals := 91 } [.ref (ad 63), .ref (ad q), .int cut] σ (sRes σ nw q cut) := by
  refine x_of (WS := WS) (cc := b_Server_takeResult) (maxL := 4) (ret := none) (by decide) rfl (Nat.le_of_ble_eq_true rfl) ?_
  intro pp ee ss mm below meth cdd hx hb hml hr hlk ht hown hnm hN hK hP ls hl
  have hl : lv_has ls 4 [(0, .ref (ad 63)), (1, .ref (ad q)), (2, .int cut)] := hl
  have hS : va_S (Ad ad (obC nw)) ss.heap ss.heap [] := va_S.rf
  have hw := swfC hnw
  have hWn := hWf.n
  have hWq := hWf.q
  have hWit := hWf.it
  have hWbl := hWf.bl
  have hWrs := hWf.rs
  have hWlt := hWf.lt
  have hWln := hWf.ln
  refine lv_aload_n hx hb d_Server_takeResult_0 rfl (lv_at hl 0 rfl) ?_
  refine x_get (v := .ref (ad 64)) (k := 1) hx hb ht xc_Server hown hK hP (mo (by decide)) rfl (by decide) fl_Server_12 rfl rfl rfl d_Server_takeResult_1 ?_
  refine lv_aload_n hx hb d_Server_takeResult_4 rfl (lv_at hl 1 rfl) ?_
  refine x_get (v := .ref (ad (q + 1))) (k := 0) hx hb ht xc_Message hown hK hP (mo_msg hq) hq (by decide) fl_Server_81 rfl rfl rfl d_Server_takeResult_5 ?_
  refine x_ci (x_rV (As := [.ref (ad (q + 1))]) (rest := []) hx hb hml hown ht gW cs_Server_87 (c_Disk_findResult l D dA ad nw hJ hnw σ (q + 1) hWf.rs (kd_msgk hq) (mo_msgk hq)) rfl rfl (by decide) xc_Disk hN hK hP (mo (by decide)) rfl rfl hl.1 rfl (Nat.le_of_ble_eq_true rfl) d_Server_takeResult_8 (by decide)) hS (fun H locs hP hS => ?_)
  refine lv_iconst (v := ((-1))) hx hb d_Server_takeResult_11 (by decide) ?_
  refine lv_icmp_eq (tgt := 26) hx hb d_Server_takeResult_12 (by decide) (fun h1 => ?_) (fun h1 => ?_)
  · refine lv_iconst (v := (nI 0)) hx hb d_Server_takeResult_26 (by decide) ?_
    refine lv_istore_n (lv' := [(3, .int (nI 0)), (0, .ref (ad 63)), (1, .ref (ad q)), (2, .int cut)]) hx hb d_Server_takeResult_27 rfl hl (by decide) rfl (fun ls hl => ?_)
    refine lv_aload_n hx hb d_Server_takeResult_28 rfl (lv_at hl 1 rfl) ?_
    refine x_get (v := .ref (ad 64)) (k := 1) hx hb ht xc_Server hown hK hP (mo (by decide)) rfl (by decide) fl_Server_12 rfl rfl rfl d_Server_takeResult_29 ?_
    refine lv_aload_n hx hb d_Server_takeResult_32 rfl (lv_at hl 2 rfl) ?_
    refine x_get (v := .int (gI σ 15 q)) (k := 6) hx hb ht xc_Message hown hK hP (mo_msg hq) hq (by decide) fl_Server_125 rfl rfl rfl d_Server_takeResult_33 ?_
    refine x_ci (x_rV (As := [.int (gI σ 15 q)]) (rest := []) hx hb hml hown ht gW cs_Server_107 (c_Disk_hasBlob l D dA ad nw hJ hnw σ (gI σ 15 q) hWf) rfl rfl (by decide) xc_Disk hN hK hP (mo (by decide)) rfl rfl hl.1 rfl (Nat.le_of_ble_eq_true rfl) d_Server_takeResult_36 (by decide)) hS (fun H locs hP hS => ?_)
    refine x_ifneB (tgt := 70) hx hb d_Server_takeResult_39 (by decide) (fun h2 => ?_) (fun h2 => ?_)
    · refine lv_iload_n hx hb d_Server_takeResult_70 rfl (lv_at hl 3 rfl) ?_
      refine lv_iload_n hx hb d_Server_takeResult_71 rfl (lv_at hl 0 rfl) ?_
      refine lv_icmp_ne (tgt := 80) hx hb d_Server_takeResult_72 (by decide) (fun h3 => ?_) (fun h3 => ?_)
      · refine lv_aload_n hx hb d_Server_takeResult_80 rfl (lv_at hl 1 rfl) ?_
        refine x_get (v := .ref (ad 64)) (k := 1) hx hb ht xc_Server hown hK hP (mo (by decide)) rfl (by decide) fl_Server_12 rfl rfl rfl d_Server_takeResult_81 ?_
        refine lv_aload_n hx hb d_Server_takeResult_84 rfl (lv_at hl 2 rfl) ?_
        refine x_get (v := .ref (ad (q + 1))) (k := 0) hx hb ht xc_Message hown hK hP (mo_msg hq) hq (by decide) fl_Server_81 rfl rfl rfl d_Server_takeResult_85 ?_
        refine lv_aload_n hx hb d_Server_takeResult_88 rfl (lv_at hl 2 rfl) ?_
        refine x_get (v := .int (gI σ 15 q)) (k := 6) hx hb ht xc_Message hown hK hP (mo_msg hq) hq (by decide) fl_Server_125 rfl rfl rfl d_Server_takeResult_89 ?_
        refine x_cv (x_rV (As := [.ref (ad (q + 1)), .int (gI σ 15 q)]) (rest := []) hx hb hml hown ht gW cs_Server_138 (c_Disk_writeResult l D dA ad nw hJ hnw σ (q + 1) (gI σ 15 q) hWf (kd_msgk hq) (mo_msgk hq)) rfl rfl (by decide) xc_Disk hN hK hP (mo (by decide)) rfl rfl hl.1 rfl (Nat.le_of_ble_eq_true rfl) d_Server_takeResult_92 (by decide)) hS (fun H locs hP hS => ?_)
        have hWf : Wf nw (dWrRes σ (q + 1) (gI σ 15 q)) := wf_dWrRes hWf
        refine lv_aload_n hx hb d_Server_takeResult_95 rfl (lv_at hl 1 rfl) ?_
        refine x_get (v := .ref (ad 79)) (k := 2) hx hb ht xc_Server hown hK hP (mo (by decide)) rfl (by decide) fl_Server_21 rfl rfl rfl d_Server_takeResult_96 ?_
        refine lv_aload_n hx hb d_Server_takeResult_99 rfl (lv_at hl 1 rfl) ?_
        refine x_get (v := .ref (ad 79)) (k := 2) hx hb ht xc_Server hown hK hP (mo (by decide)) rfl (by decide) fl_Server_21 rfl rfl rfl d_Server_takeResult_100 ?_
        refine lv_aload_n hx hb d_Server_takeResult_103 rfl (lv_at hl 2 rfl) ?_
        refine x_get (v := .ref (ad (q + 1))) (k := 0) hx hb ht xc_Message hown hK hP (mo_msg hq) hq (by decide) fl_Server_81 rfl rfl rfl d_Server_takeResult_104 ?_
        refine x_ci (x_rV (As := [.ref (ad (q + 1))]) (rest := [.ref (ad 79)]) hx hb hml hown ht gW cs_Server_117 (c_Queue_find l D dA ad nw hJ hnw (dWrRes σ (q + 1) (gI σ 15 q)) (q + 1) hWf.q hWf.Q (kd_msgk hq) (mo_msgk hq)) rfl rfl (by decide) xc_Queue hN hK hP (mo (by decide)) rfl rfl hl.1 rfl (Nat.le_of_ble_eq_true rfl) d_Server_takeResult_107 (by decide)) hS (fun H locs hP hS => ?_)
        refine x_cv (x_rV (As := [.int (oI (fQue (dWrRes σ (q + 1) (gI σ 15 q)) (q + 1)))]) (rest := []) hx hb hml hown ht gW cs_Server_142 (c_Queue_remove l D dA ad nw hJ hnw (dWrRes σ (q + 1) (gI σ 15 q)) (oI (fQue (dWrRes σ (q + 1) (gI σ 15 q)) (q + 1))) hWf) rfl rfl (by decide) xc_Queue hN hK hP (mo (by decide)) rfl rfl hl.1 rfl (Nat.le_of_ble_eq_true rfl) d_Server_takeResult_110 (by decide)) hS (fun H locs hP hS => ?_)
        have hWf : Wf nw (qRemI (dWrRes σ (q + 1) (gI σ 15 q)) (oI (fQue (dWrRes σ (q + 1) (gI σ 15 q)) (q + 1)))) := wf_remI hWf
        refine lv_aload_n hx hb d_Server_takeResult_113 rfl (lv_at hl 1 rfl) ?_
        refine x_get (v := .ref (ad 91)) (k := 3) hx hb ht xc_Server hown hK hP (mo (by decide)) rfl (by decide) fl_Server_54 rfl rfl rfl d_Server_takeResult_114 ?_
        refine lv_aload_n hx hb d_Server_takeResult_117 rfl (lv_at hl 1 rfl) ?_
        refine x_get (v := .ref (ad 91)) (k := 3) hx hb ht xc_Server hown hK hP (mo (by decide)) rfl (by decide) fl_Server_54 rfl rfl rfl d_Server_takeResult_118 ?_
        refine lv_aload_n hx hb d_Server_takeResult_121 rfl (lv_at hl 2 rfl) ?_
        refine x_get (v := .ref (ad (q + 1))) (k := 0) hx hb ht xc_Message hown hK hP (mo_msg hq) hq (by decide) fl_Server_81 rfl rfl rfl d_Server_takeResult_122 ?_
        refine x_ci (x_rV (As := [.ref (ad (q + 1))]) (rest := [.ref (ad 91)]) hx hb hml hown ht gW cs_Server_120 (c_Leases_find l D dA ad nw hJ hnw (qRemI (dWrRes σ (q + 1) (gI σ 15 q)) (oI (fQue (dWrRes σ (q + 1) (gI σ 15 q)) (q + 1)))) (q + 1) (kd_msgk hq) (mo_msgk hq)) rfl rfl (by decide) xc_Leases hN hK hP (mo (by decide)) rfl rfl hl.1 rfl (Nat.le_of_ble_eq_true rfl) d_Server_takeResult_125 (by decide)) hS (fun H locs hP hS => ?_)
        refine x_cv (x_rV (As := [.int (oI (lFind (qRemI (dWrRes σ (q + 1) (gI σ 15 q)) (oI (fQue (dWrRes σ (q + 1) (gI σ 15 q)) (q + 1)))) nw (q + 1)))]) (rest := []) hx hb hml hown ht gW cs_Server_145 (c_Leases_end l D dA ad nw hJ hnw (qRemI (dWrRes σ (q + 1) (gI σ 15 q)) (oI (fQue (dWrRes σ (q + 1) (gI σ 15 q)) (q + 1)))) (oI (lFind (qRemI (dWrRes σ (q + 1) (gI σ 15 q)) (oI (fQue (dWrRes σ (q + 1) (gI σ 15 q)) (q + 1)))) nw (q + 1)))) rfl rfl (by decide) xc_Leases hN hK hP (mo (by decide)) rfl rfl hl.1 rfl (Nat.le_of_ble_eq_true rfl) d_Server_takeResult_128 (by decide)) hS (fun H locs hP hS => ?_)
        have hWf : Wf nw (lEnd (qRemI (dWrRes σ (q + 1) (gI σ 15 q)) (oI (fQue (dWrRes σ (q + 1) (gI σ 15 q)) (q + 1)))) nw (oI (lFind (qRemI (dWrRes σ (q + 1) (gI σ 15 q)) (oI (fQue (dWrRes σ (q + 1) (gI σ 15 q)) (q + 1)))) nw (q + 1)))) := wf_end hWf
        refine lv_aload_n hx hb d_Server_takeResult_131 rfl (lv_at hl 1 rfl) ?_
        refine lv_aload_n hx hb d_Server_takeResult_132 rfl (lv_at hl 2 rfl) ?_
        refine x_get (v := .ref (ad (q + 1))) (k := 0) hx hb ht xc_Message hown hK hP (mo_msg hq) hq (by decide) fl_Server_81 rfl rfl rfl d_Server_takeResult_133 ?_
        refine lv_aload_n hx hb d_Server_takeResult_136 rfl (lv_at hl 2 rfl) ?_
        refine x_get (v := .int (gI σ 15 q)) (k := 6) hx hb ht xc_Message hown hK hP (mo_msg hq) hq (by decide) fl_Server_125 rfl rfl (congrArg (fun z => Value.int z) (Eq.trans (lEnd_I (qRemI (dWrRes σ (q + 1) (gI σ 15 q)) (oI (fQue (dWrRes σ (q + 1) (gI σ 15 q)) (q + 1)))) nw (oI (lFind (qRemI (dWrRes σ (q + 1) (gI σ 15 q)) (oI (fQue (dWrRes σ (q + 1) (gI σ 15 q)) (q + 1)))) nw (q + 1))) 15 q) (Eq.trans (qRemI_I (dWrRes σ (q + 1) (gI σ 15 q)) (oI (fQue (dWrRes σ (q + 1) (gI σ 15 q)) (q + 1))) 15 q) (dWrRes_I σ (q + 1) (gI σ 15 q) (by decide) q)))) d_Server_takeResult_137 ?_
        refine lv_aload_n hx hb d_Server_takeResult_140 rfl (lv_at hl 2 rfl) ?_
        refine x_get (v := .int (gI σ 16 q)) (k := 7) hx hb ht xc_Message hown hK hP (mo_msg hq) hq (by decide) fl_Server_131 rfl rfl (congrArg (fun z => Value.int z) (Eq.trans (lEnd_I (qRemI (dWrRes σ (q + 1) (gI σ 15 q)) (oI (fQue (dWrRes σ (q + 1) (gI σ 15 q)) (q + 1)))) nw (oI (lFind (qRemI (dWrRes σ (q + 1) (gI σ 15 q)) (oI (fQue (dWrRes σ (q + 1) (gI σ 15 q)) (q + 1)))) nw (q + 1))) 16 q) (Eq.trans (qRemI_I (dWrRes σ (q + 1) (gI σ 15 q)) (oI (fQue (dWrRes σ (q + 1) (gI σ 15 q)) (q + 1))) 16 q) (dWrRes_I σ (q + 1) (gI σ 15 q) (by decide) q)))) d_Server_takeResult_141 ?_
        refine x_cv (x_rV (As := [.ref (ad (q + 1)), .int (gI σ 15 q), .int (gI σ 16 q)]) (rest := []) hx hb hml hown ht gW cs_Server_98 (c_Server_answer l D dA ad nw hJ hnw (lEnd (qRemI (dWrRes σ (q + 1) (gI σ 15 q)) (oI (fQue (dWrRes σ (q + 1) (gI σ 15 q)) (q + 1)))) nw (oI (lFind (qRemI (dWrRes σ (q + 1) (gI σ 15 q)) (oI (fQue (dWrRes σ (q + 1) (gI σ 15 q)) (q + 1)))) nw (q + 1)))) (q + 1) (gI σ 15 q) (gI σ 16 q) hWf (kd_msgk hq) (mo_msgk hq)) rfl rfl (by decide) xc_Server hN hK hP (mo (by decide)) rfl rfl hl.1 rfl (Nat.le_of_ble_eq_true rfl) d_Server_takeResult_144 (by decide)) hS (fun H locs hP hS => ?_)
        have hWf : Wf nw (sAns (lEnd (qRemI (dWrRes σ (q + 1) (gI σ 15 q)) (oI (fQue (dWrRes σ (q + 1) (gI σ 15 q)) (q + 1)))) nw (oI (lFind (qRemI (dWrRes σ (q + 1) (gI σ 15 q)) (oI (fQue (dWrRes σ (q + 1) (gI σ 15 q)) (q + 1)))) nw (q + 1)))) (q + 1) (gI σ 15 q) (gI σ 16 q)) := wf_ans hWf
        exact x_vret hx hb hr hlk hK hP hS d_Server_takeResult_147 (by unfold sRes; simp only [h1, h2, h3, if_true, if_false, Bool.false_eq_true, reduceCtorEq]; try rfl)
      · refine lv_aload_n hx hb d_Server_takeResult_75 rfl (lv_at hl 1 rfl) ?_
        refine x_cv (x_rV (As := []) (rest := []) hx hb hml hown ht gW cs_Server_128 (c_Server_crashByCut l D dA ad nw hJ hnw σ ) rfl rfl (by decide) xc_Server hN hK hP (mo (by decide)) rfl rfl hl.1 rfl (Nat.le_of_ble_eq_true rfl) d_Server_takeResult_76 (by decide)) hS (fun H locs hP hS => ?_)
        have hWf : Wf nw (sCut σ nw) := wf_cut hWf
        exact x_vret hx hb hr hlk hK hP hS d_Server_takeResult_79 (by unfold sRes; simp only [h1, h2, h3, if_true, if_false, Bool.false_eq_true, reduceCtorEq]; try rfl)
    · refine lv_iload_n hx hb d_Server_takeResult_42 rfl (lv_at hl 3 rfl) ?_
      refine lv_iload_n hx hb d_Server_takeResult_43 rfl (lv_at hl 0 rfl) ?_
      refine lv_icmp_ne (tgt := 52) hx hb d_Server_takeResult_44 (by decide) (fun h4 => ?_) (fun h4 => ?_)
      · refine lv_aload_n hx hb d_Server_takeResult_52 rfl (lv_at hl 1 rfl) ?_
        refine x_get (v := .ref (ad 64)) (k := 1) hx hb ht xc_Server hown hK hP (mo (by decide)) rfl (by decide) fl_Server_12 rfl rfl rfl d_Server_takeResult_53 ?_
        refine lv_aload_n hx hb d_Server_takeResult_56 rfl (lv_at hl 2 rfl) ?_
        refine x_get (v := .int (gI σ 15 q)) (k := 6) hx hb ht xc_Message hown hK hP (mo_msg hq) hq (by decide) fl_Server_125 rfl rfl rfl d_Server_takeResult_57 ?_
        refine lv_aload_n hx hb d_Server_takeResult_60 rfl (lv_at hl 2 rfl) ?_
        refine x_get (v := .int (gI σ 16 q)) (k := 7) hx hb ht xc_Message hown hK hP (mo_msg hq) hq (by decide) fl_Server_131 rfl rfl rfl d_Server_takeResult_61 ?_
        refine x_cv (x_rV (As := [.int (gI σ 15 q), .int (gI σ 16 q)]) (rest := []) hx hb hml hown ht gW cs_Server_134 (c_Disk_writeBlob l D dA ad nw hJ hnw σ (gI σ 15 q) (gI σ 16 q) hWf) rfl rfl (by decide) xc_Disk hN hK hP (mo (by decide)) rfl rfl hl.1 rfl (Nat.le_of_ble_eq_true rfl) d_Server_takeResult_64 (by decide)) hS (fun H locs hP hS => ?_)
        have hWf : Wf nw (dWrite σ (gI σ 15 q) (gI σ 16 q)) := wf_dWrite hWf
        refine lv_iinc (lv' := [(3, .int (nI 1)), (0, .ref (ad 63)), (1, .ref (ad q)), (2, .int cut)]) (v := (nI 1)) hx hb d_Server_takeResult_67 hl (k := 0) rfl (by decide) (by decide) rfl (fun ls hl => ?_)
        refine lv_iload_n hx hb d_Server_takeResult_70 rfl (lv_at hl 3 rfl) ?_
        refine lv_iload_n hx hb d_Server_takeResult_71 rfl (lv_at hl 0 rfl) ?_
        refine lv_icmp_ne (tgt := 80) hx hb d_Server_takeResult_72 (by decide) (fun h5 => ?_) (fun h5 => ?_)
        · refine lv_aload_n hx hb d_Server_takeResult_80 rfl (lv_at hl 1 rfl) ?_
          refine x_get (v := .ref (ad 64)) (k := 1) hx hb ht xc_Server hown hK hP (mo (by decide)) rfl (by decide) fl_Server_12 rfl rfl rfl d_Server_takeResult_81 ?_
          refine lv_aload_n hx hb d_Server_takeResult_84 rfl (lv_at hl 2 rfl) ?_
          refine x_get (v := .ref (ad (q + 1))) (k := 0) hx hb ht xc_Message hown hK hP (mo_msg hq) hq (by decide) fl_Server_81 rfl rfl rfl d_Server_takeResult_85 ?_
          refine lv_aload_n hx hb d_Server_takeResult_88 rfl (lv_at hl 2 rfl) ?_
          refine x_get (v := .int (gI σ 15 q)) (k := 6) hx hb ht xc_Message hown hK hP (mo_msg hq) hq (by decide) fl_Server_125 rfl rfl (congrArg (fun z => Value.int z) (dWrite_I σ (gI σ 15 q) (gI σ 16 q) (by decide) q)) d_Server_takeResult_89 ?_
          refine x_cv (x_rV (As := [.ref (ad (q + 1)), .int (gI σ 15 q)]) (rest := []) hx hb hml hown ht gW cs_Server_138 (c_Disk_writeResult l D dA ad nw hJ hnw (dWrite σ (gI σ 15 q) (gI σ 16 q)) (q + 1) (gI σ 15 q) hWf (kd_msgk hq) (mo_msgk hq)) rfl rfl (by decide) xc_Disk hN hK hP (mo (by decide)) rfl rfl hl.1 rfl (Nat.le_of_ble_eq_true rfl) d_Server_takeResult_92 (by decide)) hS (fun H locs hP hS => ?_)
          have hWf : Wf nw (dWrRes (dWrite σ (gI σ 15 q) (gI σ 16 q)) (q + 1) (gI σ 15 q)) := wf_dWrRes hWf
          refine lv_aload_n hx hb d_Server_takeResult_95 rfl (lv_at hl 1 rfl) ?_
          refine x_get (v := .ref (ad 79)) (k := 2) hx hb ht xc_Server hown hK hP (mo (by decide)) rfl (by decide) fl_Server_21 rfl rfl rfl d_Server_takeResult_96 ?_
          refine lv_aload_n hx hb d_Server_takeResult_99 rfl (lv_at hl 1 rfl) ?_
          refine x_get (v := .ref (ad 79)) (k := 2) hx hb ht xc_Server hown hK hP (mo (by decide)) rfl (by decide) fl_Server_21 rfl rfl rfl d_Server_takeResult_100 ?_
          refine lv_aload_n hx hb d_Server_takeResult_103 rfl (lv_at hl 2 rfl) ?_
          refine x_get (v := .ref (ad (q + 1))) (k := 0) hx hb ht xc_Message hown hK hP (mo_msg hq) hq (by decide) fl_Server_81 rfl rfl rfl d_Server_takeResult_104 ?_
          refine x_ci (x_rV (As := [.ref (ad (q + 1))]) (rest := [.ref (ad 79)]) hx hb hml hown ht gW cs_Server_117 (c_Queue_find l D dA ad nw hJ hnw (dWrRes (dWrite σ (gI σ 15 q) (gI σ 16 q)) (q + 1) (gI σ 15 q)) (q + 1) hWf.q hWf.Q (kd_msgk hq) (mo_msgk hq)) rfl rfl (by decide) xc_Queue hN hK hP (mo (by decide)) rfl rfl hl.1 rfl (Nat.le_of_ble_eq_true rfl) d_Server_takeResult_107 (by decide)) hS (fun H locs hP hS => ?_)
          refine x_cv (x_rV (As := [.int (oI (fQue (dWrRes (dWrite σ (gI σ 15 q) (gI σ 16 q)) (q + 1) (gI σ 15 q)) (q + 1)))]) (rest := []) hx hb hml hown ht gW cs_Server_142 (c_Queue_remove l D dA ad nw hJ hnw (dWrRes (dWrite σ (gI σ 15 q) (gI σ 16 q)) (q + 1) (gI σ 15 q)) (oI (fQue (dWrRes (dWrite σ (gI σ 15 q) (gI σ 16 q)) (q + 1) (gI σ 15 q)) (q + 1))) hWf) rfl rfl (by decide) xc_Queue hN hK hP (mo (by decide)) rfl rfl hl.1 rfl (Nat.le_of_ble_eq_true rfl) d_Server_takeResult_110 (by decide)) hS (fun H locs hP hS => ?_)
          have hWf : Wf nw (qRemI (dWrRes (dWrite σ (gI σ 15 q) (gI σ 16 q)) (q + 1) (gI σ 15 q)) (oI (fQue (dWrRes (dWrite σ (gI σ 15 q) (gI σ 16 q)) (q + 1) (gI σ 15 q)) (q + 1)))) := wf_remI hWf
          refine lv_aload_n hx hb d_Server_takeResult_113 rfl (lv_at hl 1 rfl) ?_
          refine x_get (v := .ref (ad 91)) (k := 3) hx hb ht xc_Server hown hK hP (mo (by decide)) rfl (by decide) fl_Server_54 rfl rfl rfl d_Server_takeResult_114 ?_
          refine lv_aload_n hx hb d_Server_takeResult_117 rfl (lv_at hl 1 rfl) ?_
          refine x_get (v := .ref (ad 91)) (k := 3) hx hb ht xc_Server hown hK hP (mo (by decide)) rfl (by decide) fl_Server_54 rfl rfl rfl d_Server_takeResult_118 ?_
          refine lv_aload_n hx hb d_Server_takeResult_121 rfl (lv_at hl 2 rfl) ?_
          refine x_get (v := .ref (ad (q + 1))) (k := 0) hx hb ht xc_Message hown hK hP (mo_msg hq) hq (by decide) fl_Server_81 rfl rfl rfl d_Server_takeResult_122 ?_
          refine x_ci (x_rV (As := [.ref (ad (q + 1))]) (rest := [.ref (ad 91)]) hx hb hml hown ht gW cs_Server_120 (c_Leases_find l D dA ad nw hJ hnw (qRemI (dWrRes (dWrite σ (gI σ 15 q) (gI σ 16 q)) (q + 1) (gI σ 15 q)) (oI (fQue (dWrRes (dWrite σ (gI σ 15 q) (gI σ 16 q)) (q + 1) (gI σ 15 q)) (q + 1)))) (q + 1) (kd_msgk hq) (mo_msgk hq)) rfl rfl (by decide) xc_Leases hN hK hP (mo (by decide)) rfl rfl hl.1 rfl (Nat.le_of_ble_eq_true rfl) d_Server_takeResult_125 (by decide)) hS (fun H locs hP hS => ?_)
          refine x_cv (x_rV (As := [.int (oI (lFind (qRemI (dWrRes (dWrite σ (gI σ 15 q) (gI σ 16 q)) (q + 1) (gI σ 15 q)) (oI (fQue (dWrRes (dWrite σ (gI σ 15 q) (gI σ 16 q)) (q + 1) (gI σ 15 q)) (q + 1)))) nw (q + 1)))]) (rest := []) hx hb hml hown ht gW cs_Server_145 (c_Leases_end l D dA ad nw hJ hnw (qRemI (dWrRes (dWrite σ (gI σ 15 q) (gI σ 16 q)) (q + 1) (gI σ 15 q)) (oI (fQue (dWrRes (dWrite σ (gI σ 15 q) (gI σ 16 q)) (q + 1) (gI σ 15 q)) (q + 1)))) (oI (lFind (qRemI (dWrRes (dWrite σ (gI σ 15 q) (gI σ 16 q)) (q + 1) (gI σ 15 q)) (oI (fQue (dWrRes (dWrite σ (gI σ 15 q) (gI σ 16 q)) (q + 1) (gI σ 15 q)) (q + 1)))) nw (q + 1)))) rfl rfl (by decide) xc_Leases hN hK hP (mo (by decide)) rfl rfl hl.1 rfl (Nat.le_of_ble_eq_true rfl) d_Server_takeResult_128 (by decide)) hS (fun H locs hP hS => ?_)
          have hWf : Wf nw (lEnd (qRemI (dWrRes (dWrite σ (gI σ 15 q) (gI σ 16 q)) (q + 1) (gI σ 15 q)) (oI (fQue (dWrRes (dWrite σ (gI σ 15 q) (gI σ 16 q)) (q + 1) (gI σ 15 q)) (q + 1)))) nw (oI (lFind (qRemI (dWrRes (dWrite σ (gI σ 15 q) (gI σ 16 q)) (q + 1) (gI σ 15 q)) (oI (fQue (dWrRes (dWrite σ (gI σ 15 q) (gI σ 16 q)) (q + 1) (gI σ 15 q)) (q + 1)))) nw (q + 1)))) := wf_end hWf
          refine lv_aload_n hx hb d_Server_takeResult_131 rfl (lv_at hl 1 rfl) ?_
          refine lv_aload_n hx hb d_Server_takeResult_132 rfl (lv_at hl 2 rfl) ?_
          refine x_get (v := .ref (ad (q + 1))) (k := 0) hx hb ht xc_Message hown hK hP (mo_msg hq) hq (by decide) fl_Server_81 rfl rfl rfl d_Server_takeResult_133 ?_
          refine lv_aload_n hx hb d_Server_takeResult_136 rfl (lv_at hl 2 rfl) ?_
          refine x_get (v := .int (gI σ 15 q)) (k := 6) hx hb ht xc_Message hown hK hP (mo_msg hq) hq (by decide) fl_Server_125 rfl rfl (congrArg (fun z => Value.int z) (Eq.trans (lEnd_I (qRemI (dWrRes (dWrite σ (gI σ 15 q) (gI σ 16 q)) (q + 1) (gI σ 15 q)) (oI (fQue (dWrRes (dWrite σ (gI σ 15 q) (gI σ 16 q)) (q + 1) (gI σ 15 q)) (q + 1)))) nw (oI (lFind (qRemI (dWrRes (dWrite σ (gI σ 15 q) (gI σ 16 q)) (q + 1) (gI σ 15 q)) (oI (fQue (dWrRes (dWrite σ (gI σ 15 q) (gI σ 16 q)) (q + 1) (gI σ 15 q)) (q + 1)))) nw (q + 1))) 15 q) (Eq.trans (qRemI_I (dWrRes (dWrite σ (gI σ 15 q) (gI σ 16 q)) (q + 1) (gI σ 15 q)) (oI (fQue (dWrRes (dWrite σ (gI σ 15 q) (gI σ 16 q)) (q + 1) (gI σ 15 q)) (q + 1))) 15 q) (Eq.trans (dWrRes_I (dWrite σ (gI σ 15 q) (gI σ 16 q)) (q + 1) (gI σ 15 q) (by decide) q) (dWrite_I σ (gI σ 15 q) (gI σ 16 q) (by decide) q))))) d_Server_takeResult_137 ?_
          refine lv_aload_n hx hb d_Server_takeResult_140 rfl (lv_at hl 2 rfl) ?_
          refine x_get (v := .int (gI σ 16 q)) (k := 7) hx hb ht xc_Message hown hK hP (mo_msg hq) hq (by decide) fl_Server_131 rfl rfl (congrArg (fun z => Value.int z) (Eq.trans (lEnd_I (qRemI (dWrRes (dWrite σ (gI σ 15 q) (gI σ 16 q)) (q + 1) (gI σ 15 q)) (oI (fQue (dWrRes (dWrite σ (gI σ 15 q) (gI σ 16 q)) (q + 1) (gI σ 15 q)) (q + 1)))) nw (oI (lFind (qRemI (dWrRes (dWrite σ (gI σ 15 q) (gI σ 16 q)) (q + 1) (gI σ 15 q)) (oI (fQue (dWrRes (dWrite σ (gI σ 15 q) (gI σ 16 q)) (q + 1) (gI σ 15 q)) (q + 1)))) nw (q + 1))) 16 q) (Eq.trans (qRemI_I (dWrRes (dWrite σ (gI σ 15 q) (gI σ 16 q)) (q + 1) (gI σ 15 q)) (oI (fQue (dWrRes (dWrite σ (gI σ 15 q) (gI σ 16 q)) (q + 1) (gI σ 15 q)) (q + 1))) 16 q) (Eq.trans (dWrRes_I (dWrite σ (gI σ 15 q) (gI σ 16 q)) (q + 1) (gI σ 15 q) (by decide) q) (dWrite_I σ (gI σ 15 q) (gI σ 16 q) (by decide) q))))) d_Server_takeResult_141 ?_
          refine x_cv (x_rV (As := [.ref (ad (q + 1)), .int (gI σ 15 q), .int (gI σ 16 q)]) (rest := []) hx hb hml hown ht gW cs_Server_98 (c_Server_answer l D dA ad nw hJ hnw (lEnd (qRemI (dWrRes (dWrite σ (gI σ 15 q) (gI σ 16 q)) (q + 1) (gI σ 15 q)) (oI (fQue (dWrRes (dWrite σ (gI σ 15 q) (gI σ 16 q)) (q + 1) (gI σ 15 q)) (q + 1)))) nw (oI (lFind (qRemI (dWrRes (dWrite σ (gI σ 15 q) (gI σ 16 q)) (q + 1) (gI σ 15 q)) (oI (fQue (dWrRes (dWrite σ (gI σ 15 q) (gI σ 16 q)) (q + 1) (gI σ 15 q)) (q + 1)))) nw (q + 1)))) (q + 1) (gI σ 15 q) (gI σ 16 q) hWf (kd_msgk hq) (mo_msgk hq)) rfl rfl (by decide) xc_Server hN hK hP (mo (by decide)) rfl rfl hl.1 rfl (Nat.le_of_ble_eq_true rfl) d_Server_takeResult_144 (by decide)) hS (fun H locs hP hS => ?_)
          have hWf : Wf nw (sAns (lEnd (qRemI (dWrRes (dWrite σ (gI σ 15 q) (gI σ 16 q)) (q + 1) (gI σ 15 q)) (oI (fQue (dWrRes (dWrite σ (gI σ 15 q) (gI σ 16 q)) (q + 1) (gI σ 15 q)) (q + 1)))) nw (oI (lFind (qRemI (dWrRes (dWrite σ (gI σ 15 q) (gI σ 16 q)) (q + 1) (gI σ 15 q)) (oI (fQue (dWrRes (dWrite σ (gI σ 15 q) (gI σ 16 q)) (q + 1) (gI σ 15 q)) (q + 1)))) nw (q + 1)))) (q + 1) (gI σ 15 q) (gI σ 16 q)) := wf_ans hWf
          exact x_vret hx hb hr hlk hK hP hS d_Server_takeResult_147 (by unfold sRes; simp only [h1, h2, h4, h5, if_true, if_false, Bool.false_eq_true, reduceCtorEq]; try rfl)
        · refine lv_aload_n hx hb d_Server_takeResult_75 rfl (lv_at hl 1 rfl) ?_
          refine x_cv (x_rV (As := []) (rest := []) hx hb hml hown ht gW cs_Server_128 (c_Server_crashByCut l D dA ad nw hJ hnw (dWrite σ (gI σ 15 q) (gI σ 16 q)) ) rfl rfl (by decide) xc_Server hN hK hP (mo (by decide)) rfl rfl hl.1 rfl (Nat.le_of_ble_eq_true rfl) d_Server_takeResult_76 (by decide)) hS (fun H locs hP hS => ?_)
          have hWf : Wf nw (sCut (dWrite σ (gI σ 15 q) (gI σ 16 q)) nw) := wf_cut hWf
          exact x_vret hx hb hr hlk hK hP hS d_Server_takeResult_79 (by unfold sRes; simp only [h1, h2, h4, h5, if_true, if_false, Bool.false_eq_true, reduceCtorEq]; try rfl)
      · refine lv_aload_n hx hb d_Server_takeResult_47 rfl (lv_at hl 1 rfl) ?_
        refine x_cv (x_rV (As := []) (rest := []) hx hb hml hown ht gW cs_Server_128 (c_Server_crashByCut l D dA ad nw hJ hnw σ ) rfl rfl (by decide) xc_Server hN hK hP (mo (by decide)) rfl rfl hl.1 rfl (Nat.le_of_ble_eq_true rfl) d_Server_takeResult_48 (by decide)) hS (fun H locs hP hS => ?_)
        have hWf : Wf nw (sCut σ nw) := wf_cut hWf
        exact x_vret hx hb hr hlk hK hP hS d_Server_takeResult_51 (by unfold sRes; simp only [h1, h2, h4, if_true, if_false, Bool.false_eq_true, reduceCtorEq]; try rfl)
  · refine lv_aload_n hx hb d_Server_takeResult_15 rfl (lv_at hl 0 rfl) ?_
    refine lv_dup hx hb d_Server_takeResult_16 rfl ?_
    refine x_get (v := .int (nI (gN σ 49 63))) (k := 9) hx hb ht xc_Server hown hK hP (mo (by decide)) rfl (by decide) fl_Server_39 rfl rfl rfl d_Server_takeResult_17 ?_
    refine lv_iconst (v := (nI 1)) hx hb d_Server_takeResult_20 (by decide) ?_
    refine x_iaddN hx hb d_Server_takeResult_21 ?_
    refine x_put (σ' := sN σ 49 63 ((gN σ 49 63) + 1)) (v := .int (nI ((gN σ 49 63) + 1))) (k := 9) hx hb ht xc_Server t_Server t_Server_ok n_Server hown hK hP hJ hw hS (mo (by decide)) rfl (by decide) fl_Server_39 rfl rfl rfl off_N rfl rfl rfl d_Server_takeResult_22 (fun H locs hP hS => ?_)
    have hWf : Wf nw (sN σ 49 63 ((gN σ 49 63) + 1)) := wf_N (by decide) hWf
    exact x_vret hx hb hr hlk hK hP hS d_Server_takeResult_25 (by unfold sRes; simp only [h1, if_true, if_false, Bool.false_eq_true, reduceCtorEq]; try rfl)
set_option maxHeartbeats 4000000 in
set_option maxRecDepth 100000 in
theorem c_Server_endLeases (l : Launch) (D : va_G) (dA : Nat → ClassId) (ad : Nat → Nat) (nw : Nat) (hJ : Inj ad (obC nw)) (hnw : nw ≤ 4) (σ : Sg) (t : Nat) (hWf : Wf nw σ) (ht9 : t < 2 ^ 29) : CV l D clX (tyX dA) (SC nw) ad dA (obC nw) NL y_Server_endLeases w_Server_endLeases { frames := 3, cells := 0, slots := 0, locals := 66 } [.ref (ad 63), .int (nI t)] σ (edN σ nw t nw) := by
  refine x_of (WS := WS) (cc := b_Server_endLeases) (maxL := 3) (ret := none) (by decide) rfl (Nat.le_of_ble_eq_true rfl) ?_
  intro pp ee ss mm below meth cdd hx hb hml hr hlk ht hown hnm hN hK hP ls hl
  have hl : lv_has ls 3 [(0, .ref (ad 63)), (1, .int (nI t))] := hl
  have hS : va_S (Ad ad (obC nw)) ss.heap ss.heap [] := va_S.rf
  have hw := swfC hnw
  have hWn := hWf.n
  have hWq := hWf.q
  have hWit := hWf.it
  have hWbl := hWf.bl
  have hWrs := hWf.rs
  have hWlt := hWf.lt
  have hWln := hWf.ln
  have hW0 := hWf
  refine lv_iconst (v := (nI 1)) hx hb d_Server_endLeases_0 (by decide) ?_
  refine lv_istore_n (lv' := [(2, .int (nI 1)), (0, .ref (ad 63)), (1, .int (nI t))]) hx hb d_Server_endLeases_1 rfl hl (by decide) rfl (fun ls hl => ?_)
  refine x_loop (pc := 2) (α := Nat) (nL := 3) (fun i => nw - i) (fun i => edN σ nw t i) (fun i => [(2, .int (nI (i + 1))), (1, .int (nI t)), (0, .ref (ad 63))]) (fun i => i ≤ nw) ?_ 0 (Nat.zero_le _) hP hS (lv_sub hl [0, 2, 1] rfl)
  clear hP hS hl
  intro i hi H locs ls hP hS hl ih
  have hi : i ≤ nw := hi
  have hWf : Wf nw (edN σ nw t i) := wf_edN hW0 i
  have hl : lv_has ls 3 [(2, .int (nI (i + 1))), (1, .int (nI t)), (0, .ref (ad 63))] := hl
  have hP : va_P D clX (wd (SC nw) ad dA (obC nw) (edN σ nw t i)) H := hP
  refine lv_iload_n hx hb d_Server_endLeases_2 rfl (lv_at hl 0 rfl) ?_
  refine lv_aload_n hx hb d_Server_endLeases_3 rfl (lv_at hl 2 rfl) ?_
  refine x_get (v := .ref (ad 91)) (k := 3) hx hb ht xc_Server hown hK hP (mo (by decide)) rfl (by decide) fl_Server_54 rfl rfl rfl d_Server_endLeases_4 ?_
  refine x_ci (x_rV (As := []) (rest := [.int (nI (i + 1))]) hx hb hml hown ht gW cs_Server_170 (c_Leases_workers l D dA ad nw hJ hnw (edN σ nw t i) ) rfl rfl (by decide) xc_Leases hN hK hP (mo (by decide)) rfl rfl hl.1 rfl (Nat.le_of_ble_eq_true rfl) d_Server_endLeases_7 (by decide)) hS (fun H locs hP hS => ?_)
  refine x_icmp_gtN (tgt := 71) hx hb d_Server_endLeases_10 (by decide) (by omega) (by omega) (fun h1 => ?_) (fun h1 => ?_)
  · exact x_vret hx hb hr hlk hK hP hS d_Server_endLeases_71 (by rw [show i = nw by omega])
  · refine lv_aload_n hx hb d_Server_endLeases_13 rfl (lv_at hl 2 rfl) ?_
    refine x_get (v := .ref (ad 91)) (k := 3) hx hb ht xc_Server hown hK hP (mo (by decide)) rfl (by decide) fl_Server_54 rfl rfl rfl d_Server_endLeases_14 ?_
    refine lv_iload_n hx hb d_Server_endLeases_17 rfl (lv_at hl 0 rfl) ?_
    refine x_ci (x_rV (As := [.int (nI (i + 1))]) (rest := []) hx hb hml hown ht gW cs_Server_67 (c_Leases_has l D dA ad nw hJ hnw (edN σ nw t i) (nI (i + 1))) rfl rfl (by decide) xc_Leases hN hK hP (mo (by decide)) rfl rfl hl.1 rfl (Nat.le_of_ble_eq_true rfl) d_Server_endLeases_18 (by decide)) hS (fun H locs hP hS => ?_)
    refine x_ifeqB (tgt := 65) hx hb d_Server_endLeases_21 (by decide) (fun h2 => ?_) (fun h2 => ?_)
    · refine lv_iinc (lv' := [(2, .int (nI ((i + 1) + 1))), (1, .int (nI t)), (0, .ref (ad 63))]) (v := (nI ((i + 1) + 1))) hx hb d_Server_endLeases_65 hl (k := 0) rfl (nI_add _ _) (by decide) rfl (fun ls hl => ?_)
      refine lv_goto (tgt := 2) hx hb d_Server_endLeases_68 (by decide) ?_
      exact ih (i + 1) (by show i + 1 ≤ nw; omega) (by omega) H locs ls (by show va_P D clX (wd (SC nw) ad dA (obC nw) (edS nw t (edN σ nw t i) i)) H; unfold edS; rw [if_neg (by rw [h2]; decide)]; exact hP) hS (lv_sub hl [0, 1, 2] rfl)
    · refine lv_aload_n hx hb d_Server_endLeases_24 rfl (lv_at hl 2 rfl) ?_
      refine x_get (v := .ref (ad 91)) (k := 3) hx hb ht xc_Server hown hK hP (mo (by decide)) rfl (by decide) fl_Server_54 rfl rfl rfl d_Server_endLeases_25 ?_
      refine x_get (v := .ref (ad 94)) (k := 2) hx hb ht xc_Leases hown hK hP (mo (by decide)) rfl (by decide) fl_Server_71 rfl rfl rfl d_Server_endLeases_28 ?_
      refine lv_iload_n hx hb d_Server_endLeases_31 rfl (lv_at hl 0 rfl) ?_
      refine lv_iconst (v := (nI 1)) hx hb d_Server_endLeases_32 (by decide) ?_
      refine x_isubN hx hb d_Server_endLeases_33 (by omega) ?_
      refine W.eq (g2 := F0 mm 34 ls [.int (nI i), .ref (ad 94)]) rfl ?_
      refine x_nald (κ := 114) (n := nw) hx hb hK hP (mo (by decide)) rfl (by decide) rfl rfl (by omega) (by omega) d_Server_endLeases_34 ?_
      refine lv_iload_n hx hb d_Server_endLeases_35 rfl (lv_at hl 1 rfl) ?_
      refine x_icmp_gtN (tgt := 65) hx hb d_Server_endLeases_36 (by decide) (Nat.lt_trans (hWf.en _) (by decide)) (by omega) (fun h3 => ?_) (fun h3 => ?_)
      · refine lv_iinc (lv' := [(2, .int (nI ((i + 1) + 1))), (1, .int (nI t)), (0, .ref (ad 63))]) (v := (nI ((i + 1) + 1))) hx hb d_Server_endLeases_65 hl (k := 0) rfl (nI_add _ _) (by decide) rfl (fun ls hl => ?_)
        refine lv_goto (tgt := 2) hx hb d_Server_endLeases_68 (by decide) ?_
        exact ih (i + 1) (by show i + 1 ≤ nw; omega) (by omega) H locs ls (by show va_P D clX (wd (SC nw) ad dA (obC nw) (edS nw t (edN σ nw t i) i)) H; unfold edS; rw [if_pos h2, if_neg (by omega)]; exact hP) hS (lv_sub hl [0, 1, 2] rfl)
      · refine lv_aload_n hx hb d_Server_endLeases_39 rfl (lv_at hl 2 rfl) ?_
        refine x_get (v := .ref (ad 79)) (k := 2) hx hb ht xc_Server hown hK hP (mo (by decide)) rfl (by decide) fl_Server_21 rfl rfl rfl d_Server_endLeases_40 ?_
        refine lv_aload_n hx hb d_Server_endLeases_43 rfl (lv_at hl 2 rfl) ?_
        refine x_get (v := .ref (ad 91)) (k := 3) hx hb ht xc_Server hown hK hP (mo (by decide)) rfl (by decide) fl_Server_54 rfl rfl rfl d_Server_endLeases_44 ?_
        refine x_get (v := .ref (ad 93)) (k := 1) hx hb ht xc_Leases hown hK hP (mo (by decide)) rfl (by decide) fl_Server_174 rfl rfl rfl d_Server_endLeases_47 ?_
        refine lv_iload_n hx hb d_Server_endLeases_50 rfl (lv_at hl 0 rfl) ?_
        refine lv_iconst (v := (nI 1)) hx hb d_Server_endLeases_51 (by decide) ?_
        refine x_isubN hx hb d_Server_endLeases_52 (by omega) ?_
        refine W.eq (g2 := F0 mm 53 ls [.int (nI i), .ref (ad 93), .ref (ad 79)]) rfl ?_
        refine x_fald (κ := 113) (n := nw) hx hb hK hP (mo (by decide)) rfl (by decide) rfl rfl (by omega) (by omega) d_Server_endLeases_53 ?_
        refine W.eq (g2 := F0 mm 54 ls [.ref (ad (95 + i)), .ref (ad 79)]) rfl ?_
        refine x_cv (x_rV (As := [.ref (ad (95 + i))]) (rest := []) hx hb hml hown ht gW cs_Server_121 (c_Queue_append l D dA ad nw hJ hnw (edN σ nw t i) (95 + i) hWf (kd_lk (by omega)) (mo_lk (by omega))) rfl rfl (by decide) xc_Queue hN hK hP (mo (by decide)) rfl rfl hl.1 rfl (Nat.le_of_ble_eq_true rfl) d_Server_endLeases_54 (by decide)) hS (fun H locs hP hS => ?_)
        have hWf : Wf nw (qApp (edN σ nw t i) (95 + i)) := wf_qApp hWf
        refine lv_aload_n hx hb d_Server_endLeases_57 rfl (lv_at hl 2 rfl) ?_
        refine x_get (v := .ref (ad 91)) (k := 3) hx hb ht xc_Server hown hK hP (mo (by decide)) rfl (by decide) fl_Server_54 rfl rfl rfl d_Server_endLeases_58 ?_
        refine lv_iload_n hx hb d_Server_endLeases_61 rfl (lv_at hl 0 rfl) ?_
        refine x_cv (x_rV (As := [.int (nI (i + 1))]) (rest := []) hx hb hml hown ht gW cs_Server_145 (c_Leases_end l D dA ad nw hJ hnw (qApp (edN σ nw t i) (95 + i)) (nI (i + 1))) rfl rfl (by decide) xc_Leases hN hK hP (mo (by decide)) rfl rfl hl.1 rfl (Nat.le_of_ble_eq_true rfl) d_Server_endLeases_62 (by decide)) hS (fun H locs hP hS => ?_)
        have hWf : Wf nw (lEnd (qApp (edN σ nw t i) (95 + i)) nw (nI (i + 1))) := wf_end hWf
        refine lv_iinc (lv' := [(2, .int (nI ((i + 1) + 1))), (1, .int (nI t)), (0, .ref (ad 63))]) (v := (nI ((i + 1) + 1))) hx hb d_Server_endLeases_65 hl (k := 0) rfl (nI_add _ _) (by decide) rfl (fun ls hl => ?_)
        refine lv_goto (tgt := 2) hx hb d_Server_endLeases_68 (by decide) ?_
        exact ih (i + 1) (by show i + 1 ≤ nw; omega) (by omega) H locs ls (by show va_P D clX (wd (SC nw) ad dA (obC nw) (edS nw t (edN σ nw t i) i)) H; unfold edS; rw [if_pos h2, if_pos h3]; exact hP) hS (lv_sub hl [0, 1, 2] rfl)
