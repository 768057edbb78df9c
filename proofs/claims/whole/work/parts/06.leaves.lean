abbrev b_Flight_has : ByteArray := prog_4_method_2_code
def y_Flight_has : MethodName := ⟨"LeasedBuilds$Flight", "has", "(I)Z"⟩
def w_Flight_has : List Cond := .code y_Flight_has b_Flight_has 2 (some .boolean) :: WS
abbrev b_Flight_at : ByteArray := prog_4_method_3_code
def y_Flight_at : MethodName := ⟨"LeasedBuilds$Flight", "at", "(I)LLeasedBuilds$Message;"⟩
def w_Flight_at : List Cond := .code y_Flight_at b_Flight_at 2 (some (.object "LeasedBuilds$Message")) :: WS
abbrev b_Flight_take : ByteArray := prog_4_method_4_code
def y_Flight_take : MethodName := ⟨"LeasedBuilds$Flight", "take", "(I)LLeasedBuilds$Message;"⟩
def w_Flight_take : List Cond := .code y_Flight_take b_Flight_take 4 (some (.object "LeasedBuilds$Message")) :: WS
abbrev b_Flight_send : ByteArray := prog_4_method_5_code
def y_Flight_send : MethodName := ⟨"LeasedBuilds$Flight", "send", "(II)LLeasedBuilds$Message;"⟩
def w_Flight_send : List Cond := .code y_Flight_send b_Flight_send 4 (some (.object "LeasedBuilds$Message")) :: WS
abbrev b_Client_isItem : ByteArray := prog_2_method_2_code
def y_Client_isItem : MethodName := ⟨"LeasedBuilds$Client", "isItem", "(I)Z"⟩
def w_Client_isItem : List Cond := .code y_Client_isItem b_Client_isItem 2 (some .boolean) :: WS
abbrev b_Client_knows : ByteArray := prog_2_method_3_code
def y_Client_knows : MethodName := ⟨"LeasedBuilds$Client", "knows", "(I)Z"⟩
def w_Client_knows : List Cond := .code y_Client_knows b_Client_knows 2 (some .boolean) :: WS
abbrev b_Client_unknown : ByteArray := prog_2_method_4_code
def y_Client_unknown : MethodName := ⟨"LeasedBuilds$Client", "unknown", "()I"⟩
def w_Client_unknown : List Cond := .code y_Client_unknown b_Client_unknown 3 (some .int) :: WS
abbrev b_Client_learn : ByteArray := prog_2_method_11_code
def y_Client_learn : MethodName := ⟨"LeasedBuilds$Client", "learn", "(II)V"⟩
def w_Client_learn : List Cond := .code y_Client_learn b_Client_learn 3 none :: WS
abbrev b_Client_isReady : ByteArray := prog_2_method_10_code
def y_Client_isReady : MethodName := ⟨"LeasedBuilds$Client", "isReady", "(I)Z"⟩
def w_Client_isReady : List Cond := .code y_Client_isReady b_Client_isReady 2 (some .boolean) :: WS
abbrev b_Client_writeKey : ByteArray := prog_2_method_12_code
def y_Client_writeKey : MethodName := ⟨"LeasedBuilds$Client", "writeKey", "(ILLeasedBuilds$Key;)V"⟩
def w_Client_writeKey : List Cond := .code y_Client_writeKey b_Client_writeKey 3 none :: WS
abbrev b_Disk_findBlob : ByteArray := prog_3_method_9_code
def y_Disk_findBlob : MethodName := ⟨"LeasedBuilds$Disk", "findBlob", "(I)I"⟩
def w_Disk_findBlob : List Cond := .code y_Disk_findBlob b_Disk_findBlob 3 (some .int) :: WS
abbrev b_Disk_findResult : ByteArray := prog_3_method_6_code
def y_Disk_findResult : MethodName := ⟨"LeasedBuilds$Disk", "findResult", "(LLeasedBuilds$Key;)I"⟩
def w_Disk_findResult : List Cond := .code y_Disk_findResult b_Disk_findResult 3 (some .int) :: WS
abbrev b_Queue_find : ByteArray := prog_8_method_2_code
def y_Queue_find : MethodName := ⟨"LeasedBuilds$Queue", "find", "(LLeasedBuilds$Key;)I"⟩
def w_Queue_find : List Cond := .code y_Queue_find b_Queue_find 3 (some .int) :: WS
theorem d_Flight_has_0 : decode b_Flight_has 0 = .ok (.iload_n 1, 1) := by decide +kernel
theorem d_Flight_has_1 : decode b_Flight_has 1 = .ok (.ifCond .lt 15, 3) := by decide +kernel
theorem d_Flight_has_4 : decode b_Flight_has 4 = .ok (.iload_n 1, 1) := by decide +kernel
theorem d_Flight_has_5 : decode b_Flight_has 5 = .ok (.aload_n 0, 1) := by decide +kernel
theorem d_Flight_has_6 : decode b_Flight_has 6 = .ok (.getfield 25, 3) := by decide +kernel
theorem d_Flight_has_9 : decode b_Flight_has 9 = .ok (.if_icmp .ge 7, 3) := by decide +kernel
theorem d_Flight_has_12 : decode b_Flight_has 12 = .ok (.iconst 1, 1) := by decide +kernel
theorem d_Flight_has_13 : decode b_Flight_has 13 = .ok (.goto 4, 3) := by decide +kernel
theorem d_Flight_has_16 : decode b_Flight_has 16 = .ok (.iconst 0, 1) := by decide +kernel
theorem d_Flight_has_17 : decode b_Flight_has 17 = .ok (.ireturn, 1) := by decide +kernel
theorem d_Flight_at_0 : decode b_Flight_at 0 = .ok (.aload_n 0, 1) := by decide +kernel
theorem d_Flight_at_1 : decode b_Flight_at 1 = .ok (.getfield 11, 3) := by decide +kernel
theorem d_Flight_at_4 : decode b_Flight_at 4 = .ok (.iload_n 1, 1) := by decide +kernel
theorem d_Flight_at_5 : decode b_Flight_at 5 = .ok (.aaload, 1) := by decide +kernel
theorem d_Flight_at_6 : decode b_Flight_at 6 = .ok (.areturn, 1) := by decide +kernel
theorem d_Flight_take_0 : decode b_Flight_take 0 = .ok (.aload_n 0, 1) := by decide +kernel
theorem d_Flight_take_1 : decode b_Flight_take 1 = .ok (.getfield 11, 3) := by decide +kernel
theorem d_Flight_take_4 : decode b_Flight_take 4 = .ok (.iload_n 1, 1) := by decide +kernel
theorem d_Flight_take_5 : decode b_Flight_take 5 = .ok (.aaload, 1) := by decide +kernel
theorem d_Flight_take_6 : decode b_Flight_take 6 = .ok (.astore_n 2, 1) := by decide +kernel
theorem d_Flight_take_7 : decode b_Flight_take 7 = .ok (.iload_n 1, 1) := by decide +kernel
theorem d_Flight_take_8 : decode b_Flight_take 8 = .ok (.iconst 1, 1) := by decide +kernel
theorem d_Flight_take_9 : decode b_Flight_take 9 = .ok (.iadd, 1) := by decide +kernel
theorem d_Flight_take_10 : decode b_Flight_take 10 = .ok (.istore_n 3, 1) := by decide +kernel
theorem d_Flight_take_11 : decode b_Flight_take 11 = .ok (.iload_n 3, 1) := by decide +kernel
theorem d_Flight_take_12 : decode b_Flight_take 12 = .ok (.aload_n 0, 1) := by decide +kernel
theorem d_Flight_take_13 : decode b_Flight_take 13 = .ok (.getfield 25, 3) := by decide +kernel
theorem d_Flight_take_16 : decode b_Flight_take 16 = .ok (.if_icmp .ge 23, 3) := by decide +kernel
theorem d_Flight_take_19 : decode b_Flight_take 19 = .ok (.aload_n 0, 1) := by decide +kernel
theorem d_Flight_take_20 : decode b_Flight_take 20 = .ok (.getfield 11, 3) := by decide +kernel
theorem d_Flight_take_23 : decode b_Flight_take 23 = .ok (.iload_n 3, 1) := by decide +kernel
theorem d_Flight_take_24 : decode b_Flight_take 24 = .ok (.iconst 1, 1) := by decide +kernel
theorem d_Flight_take_25 : decode b_Flight_take 25 = .ok (.isub, 1) := by decide +kernel
theorem d_Flight_take_26 : decode b_Flight_take 26 = .ok (.aload_n 0, 1) := by decide +kernel
theorem d_Flight_take_27 : decode b_Flight_take 27 = .ok (.getfield 11, 3) := by decide +kernel
theorem d_Flight_take_30 : decode b_Flight_take 30 = .ok (.iload_n 3, 1) := by decide +kernel
theorem d_Flight_take_31 : decode b_Flight_take 31 = .ok (.aaload, 1) := by decide +kernel
theorem d_Flight_take_32 : decode b_Flight_take 32 = .ok (.aastore, 1) := by decide +kernel
theorem d_Flight_take_33 : decode b_Flight_take 33 = .ok (.iinc 3 1, 3) := by decide +kernel
theorem d_Flight_take_36 : decode b_Flight_take 36 = .ok (.goto (-25), 3) := by decide +kernel
theorem d_Flight_take_39 : decode b_Flight_take 39 = .ok (.aload_n 0, 1) := by decide +kernel
theorem d_Flight_take_40 : decode b_Flight_take 40 = .ok (.dup, 1) := by decide +kernel
theorem d_Flight_take_41 : decode b_Flight_take 41 = .ok (.getfield 25, 3) := by decide +kernel
theorem d_Flight_take_44 : decode b_Flight_take 44 = .ok (.iconst 1, 1) := by decide +kernel
theorem d_Flight_take_45 : decode b_Flight_take 45 = .ok (.isub, 1) := by decide +kernel
theorem d_Flight_take_46 : decode b_Flight_take 46 = .ok (.putfield 25, 3) := by decide +kernel
theorem d_Flight_take_49 : decode b_Flight_take 49 = .ok (.aload_n 0, 1) := by decide +kernel
theorem d_Flight_take_50 : decode b_Flight_take 50 = .ok (.getfield 11, 3) := by decide +kernel
theorem d_Flight_take_53 : decode b_Flight_take 53 = .ok (.aload_n 0, 1) := by decide +kernel
theorem d_Flight_take_54 : decode b_Flight_take 54 = .ok (.getfield 25, 3) := by decide +kernel
theorem d_Flight_take_57 : decode b_Flight_take 57 = .ok (.aload_n 0, 1) := by decide +kernel
theorem d_Flight_take_58 : decode b_Flight_take 58 = .ok (.getfield 22, 3) := by decide +kernel
theorem d_Flight_take_61 : decode b_Flight_take 61 = .ok (.aastore, 1) := by decide +kernel
theorem d_Flight_take_62 : decode b_Flight_take 62 = .ok (.aload_n 0, 1) := by decide +kernel
theorem d_Flight_take_63 : decode b_Flight_take 63 = .ok (.aload_n 2, 1) := by decide +kernel
theorem d_Flight_take_64 : decode b_Flight_take 64 = .ok (.putfield 22, 3) := by decide +kernel
theorem d_Flight_take_67 : decode b_Flight_take 67 = .ok (.aload_n 2, 1) := by decide +kernel
theorem d_Flight_take_68 : decode b_Flight_take 68 = .ok (.areturn, 1) := by decide +kernel
theorem d_Flight_send_0 : decode b_Flight_send 0 = .ok (.aload_n 0, 1) := by decide +kernel
theorem d_Flight_send_1 : decode b_Flight_send 1 = .ok (.dup, 1) := by decide +kernel
theorem d_Flight_send_2 : decode b_Flight_send 2 = .ok (.getfield 29, 3) := by decide +kernel
theorem d_Flight_send_5 : decode b_Flight_send 5 = .ok (.iconst 1, 1) := by decide +kernel
theorem d_Flight_send_6 : decode b_Flight_send 6 = .ok (.iadd, 1) := by decide +kernel
theorem d_Flight_send_7 : decode b_Flight_send 7 = .ok (.putfield 29, 3) := by decide +kernel
theorem d_Flight_send_10 : decode b_Flight_send 10 = .ok (.aload_n 0, 1) := by decide +kernel
theorem d_Flight_send_11 : decode b_Flight_send 11 = .ok (.getfield 18, 3) := by decide +kernel
theorem d_Flight_send_14 : decode b_Flight_send 14 = .ok (.astore_n 3, 1) := by decide +kernel
theorem d_Flight_send_15 : decode b_Flight_send 15 = .ok (.aload_n 0, 1) := by decide +kernel
theorem d_Flight_send_16 : decode b_Flight_send 16 = .ok (.getfield 25, 3) := by decide +kernel
theorem d_Flight_send_19 : decode b_Flight_send 19 = .ok (.aload_n 0, 1) := by decide +kernel
theorem d_Flight_send_20 : decode b_Flight_send 20 = .ok (.getfield 11, 3) := by decide +kernel
theorem d_Flight_send_23 : decode b_Flight_send 23 = .ok (.arraylength, 1) := by decide +kernel
theorem d_Flight_send_24 : decode b_Flight_send 24 = .ok (.if_icmp .ge 23, 3) := by decide +kernel
theorem d_Flight_send_27 : decode b_Flight_send 27 = .ok (.aload_n 0, 1) := by decide +kernel
theorem d_Flight_send_28 : decode b_Flight_send 28 = .ok (.getfield 11, 3) := by decide +kernel
theorem d_Flight_send_31 : decode b_Flight_send 31 = .ok (.aload_n 0, 1) := by decide +kernel
theorem d_Flight_send_32 : decode b_Flight_send 32 = .ok (.getfield 25, 3) := by decide +kernel
theorem d_Flight_send_35 : decode b_Flight_send 35 = .ok (.aaload, 1) := by decide +kernel
theorem d_Flight_send_36 : decode b_Flight_send 36 = .ok (.astore_n 3, 1) := by decide +kernel
theorem d_Flight_send_37 : decode b_Flight_send 37 = .ok (.aload_n 0, 1) := by decide +kernel
theorem d_Flight_send_38 : decode b_Flight_send 38 = .ok (.dup, 1) := by decide +kernel
theorem d_Flight_send_39 : decode b_Flight_send 39 = .ok (.getfield 25, 3) := by decide +kernel
theorem d_Flight_send_42 : decode b_Flight_send 42 = .ok (.iconst 1, 1) := by decide +kernel
theorem d_Flight_send_43 : decode b_Flight_send 43 = .ok (.iadd, 1) := by decide +kernel
theorem d_Flight_send_44 : decode b_Flight_send 44 = .ok (.putfield 25, 3) := by decide +kernel
theorem d_Flight_send_47 : decode b_Flight_send 47 = .ok (.aload_n 3, 1) := by decide +kernel
theorem d_Flight_send_48 : decode b_Flight_send 48 = .ok (.iload_n 1, 1) := by decide +kernel
theorem d_Flight_send_49 : decode b_Flight_send 49 = .ok (.putfield 32, 3) := by decide +kernel
theorem d_Flight_send_52 : decode b_Flight_send 52 = .ok (.aload_n 3, 1) := by decide +kernel
theorem d_Flight_send_53 : decode b_Flight_send 53 = .ok (.iload_n 2, 1) := by decide +kernel
theorem d_Flight_send_54 : decode b_Flight_send 54 = .ok (.putfield 35, 3) := by decide +kernel
theorem d_Flight_send_57 : decode b_Flight_send 57 = .ok (.aload_n 3, 1) := by decide +kernel
theorem d_Flight_send_58 : decode b_Flight_send 58 = .ok (.areturn, 1) := by decide +kernel
theorem d_Client_isItem_0 : decode b_Client_isItem 0 = .ok (.iload_n 1, 1) := by decide +kernel
theorem d_Client_isItem_1 : decode b_Client_isItem 1 = .ok (.ifCond .lt 15, 3) := by decide +kernel
theorem d_Client_isItem_4 : decode b_Client_isItem 4 = .ok (.iload_n 1, 1) := by decide +kernel
theorem d_Client_isItem_5 : decode b_Client_isItem 5 = .ok (.aload_n 0, 1) := by decide +kernel
theorem d_Client_isItem_6 : decode b_Client_isItem 6 = .ok (.getfield 39, 3) := by decide +kernel
theorem d_Client_isItem_9 : decode b_Client_isItem 9 = .ok (.if_icmp .ge 7, 3) := by decide +kernel
theorem d_Client_isItem_12 : decode b_Client_isItem 12 = .ok (.iconst 1, 1) := by decide +kernel
theorem d_Client_isItem_13 : decode b_Client_isItem 13 = .ok (.goto 4, 3) := by decide +kernel
theorem d_Client_isItem_16 : decode b_Client_isItem 16 = .ok (.iconst 0, 1) := by decide +kernel
theorem d_Client_isItem_17 : decode b_Client_isItem 17 = .ok (.ireturn, 1) := by decide +kernel
theorem d_Client_knows_0 : decode b_Client_knows 0 = .ok (.aload_n 0, 1) := by decide +kernel
theorem d_Client_knows_1 : decode b_Client_knows 1 = .ok (.iload_n 1, 1) := by decide +kernel
theorem d_Client_knows_2 : decode b_Client_knows 2 = .ok (.invokevirtual 47, 3) := by decide +kernel
theorem d_Client_knows_5 : decode b_Client_knows 5 = .ok (.ifCond .eq 16, 3) := by decide +kernel
theorem d_Client_knows_8 : decode b_Client_knows 8 = .ok (.aload_n 0, 1) := by decide +kernel
theorem d_Client_knows_9 : decode b_Client_knows 9 = .ok (.getfield 9, 3) := by decide +kernel
theorem d_Client_knows_12 : decode b_Client_knows 12 = .ok (.iload_n 1, 1) := by decide +kernel
theorem d_Client_knows_13 : decode b_Client_knows 13 = .ok (.baload, 1) := by decide +kernel
theorem d_Client_knows_14 : decode b_Client_knows 14 = .ok (.ifCond .eq 7, 3) := by decide +kernel
theorem d_Client_knows_17 : decode b_Client_knows 17 = .ok (.iconst 1, 1) := by decide +kernel
theorem d_Client_knows_18 : decode b_Client_knows 18 = .ok (.goto 4, 3) := by decide +kernel
theorem d_Client_knows_21 : decode b_Client_knows 21 = .ok (.iconst 0, 1) := by decide +kernel
theorem d_Client_knows_22 : decode b_Client_knows 22 = .ok (.ireturn, 1) := by decide +kernel
theorem d_Client_unknown_0 : decode b_Client_unknown 0 = .ok (.iconst 0, 1) := by decide +kernel
theorem d_Client_unknown_1 : decode b_Client_unknown 1 = .ok (.istore_n 1, 1) := by decide +kernel
theorem d_Client_unknown_2 : decode b_Client_unknown 2 = .ok (.iconst 0, 1) := by decide +kernel
theorem d_Client_unknown_3 : decode b_Client_unknown 3 = .ok (.istore_n 2, 1) := by decide +kernel
theorem d_Client_unknown_4 : decode b_Client_unknown 4 = .ok (.iload_n 2, 1) := by decide +kernel
theorem d_Client_unknown_5 : decode b_Client_unknown 5 = .ok (.aload_n 0, 1) := by decide +kernel
theorem d_Client_unknown_6 : decode b_Client_unknown 6 = .ok (.getfield 39, 3) := by decide +kernel
theorem d_Client_unknown_9 : decode b_Client_unknown 9 = .ok (.if_icmp .ge 21, 3) := by decide +kernel
theorem d_Client_unknown_12 : decode b_Client_unknown 12 = .ok (.aload_n 0, 1) := by decide +kernel
theorem d_Client_unknown_13 : decode b_Client_unknown 13 = .ok (.getfield 9, 3) := by decide +kernel
theorem d_Client_unknown_16 : decode b_Client_unknown 16 = .ok (.iload_n 2, 1) := by decide +kernel
theorem d_Client_unknown_17 : decode b_Client_unknown 17 = .ok (.baload, 1) := by decide +kernel
theorem d_Client_unknown_18 : decode b_Client_unknown 18 = .ok (.ifCond .ne 6, 3) := by decide +kernel
theorem d_Client_unknown_21 : decode b_Client_unknown 21 = .ok (.iinc 1 1, 3) := by decide +kernel
theorem d_Client_unknown_24 : decode b_Client_unknown 24 = .ok (.iinc 2 1, 3) := by decide +kernel
theorem d_Client_unknown_27 : decode b_Client_unknown 27 = .ok (.goto (-23), 3) := by decide +kernel
theorem d_Client_unknown_30 : decode b_Client_unknown 30 = .ok (.iload_n 1, 1) := by decide +kernel
theorem d_Client_unknown_31 : decode b_Client_unknown 31 = .ok (.ireturn, 1) := by decide +kernel
theorem d_Client_learn_0 : decode b_Client_learn 0 = .ok (.aload_n 0, 1) := by decide +kernel
theorem d_Client_learn_1 : decode b_Client_learn 1 = .ok (.getfield 9, 3) := by decide +kernel
theorem d_Client_learn_4 : decode b_Client_learn 4 = .ok (.iload_n 1, 1) := by decide +kernel
theorem d_Client_learn_5 : decode b_Client_learn 5 = .ok (.iconst 1, 1) := by decide +kernel
theorem d_Client_learn_6 : decode b_Client_learn 6 = .ok (.bastore, 1) := by decide +kernel
theorem d_Client_learn_7 : decode b_Client_learn 7 = .ok (.aload_n 0, 1) := by decide +kernel
theorem d_Client_learn_8 : decode b_Client_learn 8 = .ok (.getfield 15, 3) := by decide +kernel
theorem d_Client_learn_11 : decode b_Client_learn 11 = .ok (.iload_n 1, 1) := by decide +kernel
theorem d_Client_learn_12 : decode b_Client_learn 12 = .ok (.iload_n 2, 1) := by decide +kernel
theorem d_Client_learn_13 : decode b_Client_learn 13 = .ok (.iastore, 1) := by decide +kernel
theorem d_Client_learn_14 : decode b_Client_learn 14 = .ok (.return_, 1) := by decide +kernel
theorem d_Client_isReady_0 : decode b_Client_isReady 0 = .ok (.aload_n 0, 1) := by decide +kernel
theorem d_Client_isReady_1 : decode b_Client_isReady 1 = .ok (.getfield 9, 3) := by decide +kernel
theorem d_Client_isReady_4 : decode b_Client_isReady 4 = .ok (.iload_n 1, 1) := by decide +kernel
theorem d_Client_isReady_5 : decode b_Client_isReady 5 = .ok (.baload, 1) := by decide +kernel
theorem d_Client_isReady_6 : decode b_Client_isReady 6 = .ok (.ifCond .ne 35, 3) := by decide +kernel
theorem d_Client_isReady_9 : decode b_Client_isReady 9 = .ok (.aload_n 0, 1) := by decide +kernel
theorem d_Client_isReady_10 : decode b_Client_isReady 10 = .ok (.getfield 9, 3) := by decide +kernel
theorem d_Client_isReady_13 : decode b_Client_isReady 13 = .ok (.aload_n 0, 1) := by decide +kernel
theorem d_Client_isReady_14 : decode b_Client_isReady 14 = .ok (.getfield 23, 3) := by decide +kernel
theorem d_Client_isReady_17 : decode b_Client_isReady 17 = .ok (.iload_n 1, 1) := by decide +kernel
theorem d_Client_isReady_18 : decode b_Client_isReady 18 = .ok (.iaload, 1) := by decide +kernel
theorem d_Client_isReady_19 : decode b_Client_isReady 19 = .ok (.baload, 1) := by decide +kernel
theorem d_Client_isReady_20 : decode b_Client_isReady 20 = .ok (.ifCond .eq 21, 3) := by decide +kernel
theorem d_Client_isReady_23 : decode b_Client_isReady 23 = .ok (.aload_n 0, 1) := by decide +kernel
theorem d_Client_isReady_24 : decode b_Client_isReady 24 = .ok (.getfield 9, 3) := by decide +kernel
theorem d_Client_isReady_27 : decode b_Client_isReady 27 = .ok (.aload_n 0, 1) := by decide +kernel
theorem d_Client_isReady_28 : decode b_Client_isReady 28 = .ok (.getfield 26, 3) := by decide +kernel
theorem d_Client_isReady_31 : decode b_Client_isReady 31 = .ok (.iload_n 1, 1) := by decide +kernel
theorem d_Client_isReady_32 : decode b_Client_isReady 32 = .ok (.iaload, 1) := by decide +kernel
theorem d_Client_isReady_33 : decode b_Client_isReady 33 = .ok (.baload, 1) := by decide +kernel
theorem d_Client_isReady_34 : decode b_Client_isReady 34 = .ok (.ifCond .eq 7, 3) := by decide +kernel
theorem d_Client_isReady_37 : decode b_Client_isReady 37 = .ok (.iconst 1, 1) := by decide +kernel
theorem d_Client_isReady_38 : decode b_Client_isReady 38 = .ok (.goto 4, 3) := by decide +kernel
theorem d_Client_isReady_41 : decode b_Client_isReady 41 = .ok (.iconst 0, 1) := by decide +kernel
theorem d_Client_isReady_42 : decode b_Client_isReady 42 = .ok (.ireturn, 1) := by decide +kernel
theorem d_Client_writeKey_0 : decode b_Client_writeKey 0 = .ok (.aload_n 2, 1) := by decide +kernel
theorem d_Client_writeKey_1 : decode b_Client_writeKey 1 = .ok (.aload_n 0, 1) := by decide +kernel
theorem d_Client_writeKey_2 : decode b_Client_writeKey 2 = .ok (.getfield 19, 3) := by decide +kernel
theorem d_Client_writeKey_5 : decode b_Client_writeKey 5 = .ok (.iload_n 1, 1) := by decide +kernel
theorem d_Client_writeKey_6 : decode b_Client_writeKey 6 = .ok (.laload, 1) := by decide +kernel
theorem d_Client_writeKey_7 : decode b_Client_writeKey 7 = .ok (.aload_n 0, 1) := by decide +kernel
theorem d_Client_writeKey_8 : decode b_Client_writeKey 8 = .ok (.getfield 15, 3) := by decide +kernel
theorem d_Client_writeKey_11 : decode b_Client_writeKey 11 = .ok (.aload_n 0, 1) := by decide +kernel
theorem d_Client_writeKey_12 : decode b_Client_writeKey 12 = .ok (.getfield 23, 3) := by decide +kernel
theorem d_Client_writeKey_15 : decode b_Client_writeKey 15 = .ok (.iload_n 1, 1) := by decide +kernel
theorem d_Client_writeKey_16 : decode b_Client_writeKey 16 = .ok (.iaload, 1) := by decide +kernel
theorem d_Client_writeKey_17 : decode b_Client_writeKey 17 = .ok (.iaload, 1) := by decide +kernel
theorem d_Client_writeKey_18 : decode b_Client_writeKey 18 = .ok (.invokestatic 91, 3) := by decide +kernel
theorem d_Client_writeKey_21 : decode b_Client_writeKey 21 = .ok (.aload_n 0, 1) := by decide +kernel
theorem d_Client_writeKey_22 : decode b_Client_writeKey 22 = .ok (.getfield 15, 3) := by decide +kernel
theorem d_Client_writeKey_25 : decode b_Client_writeKey 25 = .ok (.aload_n 0, 1) := by decide +kernel
theorem d_Client_writeKey_26 : decode b_Client_writeKey 26 = .ok (.getfield 26, 3) := by decide +kernel
theorem d_Client_writeKey_29 : decode b_Client_writeKey 29 = .ok (.iload_n 1, 1) := by decide +kernel
theorem d_Client_writeKey_30 : decode b_Client_writeKey 30 = .ok (.iaload, 1) := by decide +kernel
theorem d_Client_writeKey_31 : decode b_Client_writeKey 31 = .ok (.iaload, 1) := by decide +kernel
theorem d_Client_writeKey_32 : decode b_Client_writeKey 32 = .ok (.invokestatic 91, 3) := by decide +kernel
theorem d_Client_writeKey_35 : decode b_Client_writeKey 35 = .ok (.invokevirtual 95, 3) := by decide +kernel
theorem d_Client_writeKey_38 : decode b_Client_writeKey 38 = .ok (.return_, 1) := by decide +kernel
theorem d_Disk_findBlob_0 : decode b_Disk_findBlob 0 = .ok (.iconst 0, 1) := by decide +kernel
theorem d_Disk_findBlob_1 : decode b_Disk_findBlob 1 = .ok (.istore_n 2, 1) := by decide +kernel
theorem d_Disk_findBlob_2 : decode b_Disk_findBlob 2 = .ok (.iload_n 2, 1) := by decide +kernel
theorem d_Disk_findBlob_3 : decode b_Disk_findBlob 3 = .ok (.aload_n 0, 1) := by decide +kernel
theorem d_Disk_findBlob_4 : decode b_Disk_findBlob 4 = .ok (.getfield 27, 3) := by decide +kernel
theorem d_Disk_findBlob_7 : decode b_Disk_findBlob 7 = .ok (.if_icmp .ge 21, 3) := by decide +kernel
theorem d_Disk_findBlob_10 : decode b_Disk_findBlob 10 = .ok (.aload_n 0, 1) := by decide +kernel
theorem d_Disk_findBlob_11 : decode b_Disk_findBlob 11 = .ok (.getfield 9, 3) := by decide +kernel
theorem d_Disk_findBlob_14 : decode b_Disk_findBlob 14 = .ok (.iload_n 2, 1) := by decide +kernel
theorem d_Disk_findBlob_15 : decode b_Disk_findBlob 15 = .ok (.iaload, 1) := by decide +kernel
theorem d_Disk_findBlob_16 : decode b_Disk_findBlob 16 = .ok (.iload_n 1, 1) := by decide +kernel
theorem d_Disk_findBlob_17 : decode b_Disk_findBlob 17 = .ok (.if_icmp .ne 5, 3) := by decide +kernel
theorem d_Disk_findBlob_20 : decode b_Disk_findBlob 20 = .ok (.iload_n 2, 1) := by decide +kernel
theorem d_Disk_findBlob_21 : decode b_Disk_findBlob 21 = .ok (.ireturn, 1) := by decide +kernel
theorem d_Disk_findBlob_22 : decode b_Disk_findBlob 22 = .ok (.iinc 2 1, 3) := by decide +kernel
theorem d_Disk_findBlob_25 : decode b_Disk_findBlob 25 = .ok (.goto (-23), 3) := by decide +kernel
theorem d_Disk_findBlob_28 : decode b_Disk_findBlob 28 = .ok (.iconst (-1), 1) := by decide +kernel
theorem d_Disk_findBlob_29 : decode b_Disk_findBlob 29 = .ok (.ireturn, 1) := by decide +kernel
theorem d_Disk_findResult_0 : decode b_Disk_findResult 0 = .ok (.iconst 0, 1) := by decide +kernel
theorem d_Disk_findResult_1 : decode b_Disk_findResult 1 = .ok (.istore_n 2, 1) := by decide +kernel
theorem d_Disk_findResult_2 : decode b_Disk_findResult 2 = .ok (.iload_n 2, 1) := by decide +kernel
theorem d_Disk_findResult_3 : decode b_Disk_findResult 3 = .ok (.aload_n 0, 1) := by decide +kernel
theorem d_Disk_findResult_4 : decode b_Disk_findResult 4 = .ok (.getfield 31, 3) := by decide +kernel
theorem d_Disk_findResult_7 : decode b_Disk_findResult 7 = .ok (.if_icmp .ge 24, 3) := by decide +kernel
theorem d_Disk_findResult_10 : decode b_Disk_findResult 10 = .ok (.aload_n 0, 1) := by decide +kernel
theorem d_Disk_findResult_11 : decode b_Disk_findResult 11 = .ok (.getfield 20, 3) := by decide +kernel
theorem d_Disk_findResult_14 : decode b_Disk_findResult 14 = .ok (.iload_n 2, 1) := by decide +kernel
theorem d_Disk_findResult_15 : decode b_Disk_findResult 15 = .ok (.aaload, 1) := by decide +kernel
theorem d_Disk_findResult_16 : decode b_Disk_findResult 16 = .ok (.aload_n 1, 1) := by decide +kernel
theorem d_Disk_findResult_17 : decode b_Disk_findResult 17 = .ok (.invokevirtual 39, 3) := by decide +kernel
theorem d_Disk_findResult_20 : decode b_Disk_findResult 20 = .ok (.ifCond .eq 5, 3) := by decide +kernel
theorem d_Disk_findResult_23 : decode b_Disk_findResult 23 = .ok (.iload_n 2, 1) := by decide +kernel
theorem d_Disk_findResult_24 : decode b_Disk_findResult 24 = .ok (.ireturn, 1) := by decide +kernel
theorem d_Disk_findResult_25 : decode b_Disk_findResult 25 = .ok (.iinc 2 1, 3) := by decide +kernel
theorem d_Disk_findResult_28 : decode b_Disk_findResult 28 = .ok (.goto (-26), 3) := by decide +kernel
theorem d_Disk_findResult_31 : decode b_Disk_findResult 31 = .ok (.iconst (-1), 1) := by decide +kernel
theorem d_Disk_findResult_32 : decode b_Disk_findResult 32 = .ok (.ireturn, 1) := by decide +kernel
theorem d_Queue_find_0 : decode b_Queue_find 0 = .ok (.iconst 0, 1) := by decide +kernel
theorem d_Queue_find_1 : decode b_Queue_find 1 = .ok (.istore_n 2, 1) := by decide +kernel
theorem d_Queue_find_2 : decode b_Queue_find 2 = .ok (.iload_n 2, 1) := by decide +kernel
theorem d_Queue_find_3 : decode b_Queue_find 3 = .ok (.aload_n 0, 1) := by decide +kernel
theorem d_Queue_find_4 : decode b_Queue_find 4 = .ok (.getfield 17, 3) := by decide +kernel
theorem d_Queue_find_7 : decode b_Queue_find 7 = .ok (.if_icmp .ge 24, 3) := by decide +kernel
theorem d_Queue_find_10 : decode b_Queue_find 10 = .ok (.aload_n 0, 1) := by decide +kernel
theorem d_Queue_find_11 : decode b_Queue_find 11 = .ok (.getfield 11, 3) := by decide +kernel
theorem d_Queue_find_14 : decode b_Queue_find 14 = .ok (.iload_n 2, 1) := by decide +kernel
theorem d_Queue_find_15 : decode b_Queue_find 15 = .ok (.aaload, 1) := by decide +kernel
theorem d_Queue_find_16 : decode b_Queue_find 16 = .ok (.aload_n 1, 1) := by decide +kernel
theorem d_Queue_find_17 : decode b_Queue_find 17 = .ok (.invokevirtual 22, 3) := by decide +kernel
theorem d_Queue_find_20 : decode b_Queue_find 20 = .ok (.ifCond .eq 5, 3) := by decide +kernel
theorem d_Queue_find_23 : decode b_Queue_find 23 = .ok (.iload_n 2, 1) := by decide +kernel
theorem d_Queue_find_24 : decode b_Queue_find 24 = .ok (.ireturn, 1) := by decide +kernel
theorem d_Queue_find_25 : decode b_Queue_find 25 = .ok (.iinc 2 1, 3) := by decide +kernel
theorem d_Queue_find_28 : decode b_Queue_find 28 = .ok (.goto (-26), 3) := by decide +kernel
theorem d_Queue_find_31 : decode b_Queue_find 31 = .ok (.iconst (-1), 1) := by decide +kernel
theorem d_Queue_find_32 : decode b_Queue_find 32 = .ok (.ireturn, 1) := by decide +kernel
theorem fl_Flight_25 : Cond.fieldLink "LeasedBuilds$Flight" 25 "LeasedBuilds$Flight" "size" "I" ∈ WS := ms (i := 103) (by decide +kernel) rfl
theorem fl_Flight_11 : Cond.fieldLink "LeasedBuilds$Flight" 11 "LeasedBuilds$Flight" "rows" "[LLeasedBuilds$Message;" ∈ WS := ms (i := 100) (by decide +kernel) rfl
theorem fl_Flight_22 : Cond.fieldLink "LeasedBuilds$Flight" 22 "LeasedBuilds$Flight" "taken" "LLeasedBuilds$Message;" ∈ WS := ms (i := 102) (by decide +kernel) rfl
theorem fl_Flight_29 : Cond.fieldLink "LeasedBuilds$Flight" 29 "LeasedBuilds$Flight" "sent" "I" ∈ WS := ms (i := 105) (by decide +kernel) rfl
theorem fl_Flight_18 : Cond.fieldLink "LeasedBuilds$Flight" 18 "LeasedBuilds$Flight" "lost" "LLeasedBuilds$Message;" ∈ WS := ms (i := 101) (by decide +kernel) rfl
theorem fl_Flight_32 : Cond.fieldLink "LeasedBuilds$Flight" 32 "LeasedBuilds$Message" "kind" "I" ∈ WS := ms (i := 60) (by decide +kernel) rfl
theorem fl_Flight_35 : Cond.fieldLink "LeasedBuilds$Flight" 35 "LeasedBuilds$Message" "receiver" "I" ∈ WS := ms (i := 63) (by decide +kernel) rfl
theorem fl_Client_39 : Cond.fieldLink "LeasedBuilds$Client" 39 "LeasedBuilds$Client" "items" "I" ∈ WS := ms (i := 135) (by decide +kernel) rfl
theorem cs_Client_47 : CwV WS "LeasedBuilds$Client" 47 "LeasedBuilds$Client" y_Client_isItem b_Client_isItem 2 (some .boolean) 1 := ⟨⟨ms (i := 355) (by decide +kernel) rfl, ms (i := 352) (by decide +kernel) rfl, ms (i := 353) (by decide +kernel) rfl, ms (i := 354) (by decide +kernel) rfl, ms (i := 5) (by decide +kernel) rfl⟩, by decide +kernel⟩
theorem fl_Client_9 : Cond.fieldLink "LeasedBuilds$Client" 9 "LeasedBuilds$Client" "known" "[Z" ∈ WS := ms (i := 127) (by decide +kernel) rfl
theorem fl_Client_15 : Cond.fieldLink "LeasedBuilds$Client" 15 "LeasedBuilds$Client" "contents" "[I" ∈ WS := ms (i := 128) (by decide +kernel) rfl
theorem fl_Client_23 : Cond.fieldLink "LeasedBuilds$Client" 23 "LeasedBuilds$Client" "as" "[I" ∈ WS := ms (i := 131) (by decide +kernel) rfl
theorem fl_Client_26 : Cond.fieldLink "LeasedBuilds$Client" 26 "LeasedBuilds$Client" "bs" "[I" ∈ WS := ms (i := 132) (by decide +kernel) rfl
theorem fl_Client_19 : Cond.fieldLink "LeasedBuilds$Client" 19 "LeasedBuilds$Client" "programs" "[J" ∈ WS := ms (i := 130) (by decide +kernel) rfl
theorem cs_Client_91 : CwSN WS NL "LeasedBuilds$Client" 91 y_LB_digestOf b_LB_digestOf 3 (some .int) 1 := ⟨⟨ms (i := 374) (by decide +kernel) rfl, List.mem_of_getElem? (i := 9) rfl, ms (i := 373) (by decide +kernel) rfl, ms (i := 1) (by decide +kernel) rfl⟩, by decide +kernel⟩
theorem cs_Client_95 : CwV WS "LeasedBuilds$Client" 95 "LeasedBuilds$Key" y_Key_set b_Key_set 5 none 3 := ⟨⟨ms (i := 388) (by decide +kernel) rfl, ms (i := 475) (by decide +kernel) rfl, ms (i := 386) (by decide +kernel) rfl, ms (i := 387) (by decide +kernel) rfl, ms (i := 4) (by decide +kernel) rfl⟩, by decide +kernel⟩
theorem fl_Disk_27 : Cond.fieldLink "LeasedBuilds$Disk" 27 "LeasedBuilds$Disk" "blobs" "I" ∈ WS := ms (i := 179) (by decide +kernel) rfl
theorem fl_Disk_9 : Cond.fieldLink "LeasedBuilds$Disk" 9 "LeasedBuilds$Disk" "blobDigests" "[I" ∈ WS := ms (i := 173) (by decide +kernel) rfl
theorem fl_Disk_31 : Cond.fieldLink "LeasedBuilds$Disk" 31 "LeasedBuilds$Disk" "results" "I" ∈ WS := ms (i := 182) (by decide +kernel) rfl
theorem fl_Disk_20 : Cond.fieldLink "LeasedBuilds$Disk" 20 "LeasedBuilds$Disk" "resultKeys" "[LLeasedBuilds$Key;" ∈ WS := ms (i := 176) (by decide +kernel) rfl
theorem cs_Disk_39 : CwV WS "LeasedBuilds$Disk" 39 "LeasedBuilds$Key" y_Key_isSame b_Key_isSame 2 (some .boolean) 1 := ⟨⟨ms (i := 520) (by decide +kernel) rfl, ms (i := 517) (by decide +kernel) rfl, ms (i := 518) (by decide +kernel) rfl, ms (i := 519) (by decide +kernel) rfl, ms (i := 4) (by decide +kernel) rfl⟩, by decide +kernel⟩
theorem fl_Queue_17 : Cond.fieldLink "LeasedBuilds$Queue" 17 "LeasedBuilds$Queue" "size" "I" ∈ WS := ms (i := 206) (by decide +kernel) rfl
theorem fl_Queue_11 : Cond.fieldLink "LeasedBuilds$Queue" 11 "LeasedBuilds$Queue" "rows" "[LLeasedBuilds$Key;" ∈ WS := ms (i := 205) (by decide +kernel) rfl
theorem cs_Queue_22 : CwV WS "LeasedBuilds$Queue" 22 "LeasedBuilds$Key" y_Key_isSame b_Key_isSame 2 (some .boolean) 1 := ⟨⟨ms (i := 520) (by decide +kernel) rfl, ms (i := 538) (by decide +kernel) rfl, ms (i := 518) (by decide +kernel) rfl, ms (i := 519) (by decide +kernel) rfl, ms (i := 4) (by decide +kernel) rfl⟩, by decide +kernel⟩
set_option maxHeartbeats 4000000 in
set_option maxRecDepth 100000 in
theorem c_Flight_has (l : Launch) (D : va_G) (dA : Nat → ClassId) (ad : Nat → Nat) (nw : Nat) (hJ : Inj ad (obC nw)) (hnw : nw ≤ 4) (σ : Sg) (k : Int32) (hn : gN σ 21 1 ≤ 24) : CI l D clX (tyX dA) (SC nw) ad dA (obC nw) NL y_Flight_has w_Flight_has { frames := 0, cells := 0, slots := 0, locals := 0 } [.ref (ad 1), .int k] σ ((bI (inR k (gN σ 21 1)))) σ := by
  refine x_of (WS := WS) (cc := b_Flight_has) (maxL := 2) (ret := (some .boolean)) (by decide) rfl (Nat.le_of_ble_eq_true rfl) ?_
  intro pp ee ss mm below meth cdd hx hb hml hr hlk ht hown hnm hN hK hP ls hl
  have hl : lv_has ls 2 [(0, .ref (ad 1)), (1, .int k)] := hl
  have hS : va_S (Ad ad (obC nw)) ss.heap ss.heap [] := va_S.rf
  have hw := swfC hnw
  refine lv_iload_n hx hb d_Flight_has_0 rfl (lv_at hl 1 rfl) ?_
  refine lv_if_lt (tgt := 16) hx hb d_Flight_has_1 (by decide) (fun h1 => ?_) (fun h1 => ?_)
  · refine lv_iconst (v := (nI 0)) hx hb d_Flight_has_16 (by decide) ?_
    exact x_zret (b := false) hx hb hr hlk hK hP hS d_Flight_has_17 rfl (by rw [inR_neg h1]) rfl
  · refine lv_iload_n hx hb d_Flight_has_4 rfl (lv_at hl 1 rfl) ?_
    refine lv_aload_n hx hb d_Flight_has_5 rfl (lv_at hl 0 rfl) ?_
    refine x_get (v := .int (nI (gN σ 21 1))) (k := 3) hx hb ht xc_Flight hown hK hP (mo (by decide)) rfl (by decide) fl_Flight_25 rfl rfl rfl d_Flight_has_6 ?_
    refine lv_icmp_ge (tgt := 16) hx hb d_Flight_has_9 (by decide) (fun h2 => ?_) (fun h2 => ?_)
    · refine lv_iconst (v := (nI 0)) hx hb d_Flight_has_16 (by decide) ?_
      exact x_zret (b := false) hx hb hr hlk hK hP hS d_Flight_has_17 rfl (by rw [inR_big (by omega) h2]) rfl
    · refine lv_iconst (v := (nI 1)) hx hb d_Flight_has_12 (by decide) ?_
      refine lv_goto (tgt := 17) hx hb d_Flight_has_13 (by decide) ?_
      exact x_zret (b := true) hx hb hr hlk hK hP hS d_Flight_has_17 rfl (by rw [inR_in (by omega) h1 h2]) rfl
set_option maxHeartbeats 4000000 in
set_option maxRecDepth 100000 in
theorem c_Flight_at (l : Launch) (D : va_G) (dA : Nat → ClassId) (ad : Nat → Nat) (nw : Nat) (hJ : Inj ad (obC nw)) (hnw : nw ≤ 4) (σ : Sg) (k : Nat) (hk : k < 24) : CR l D clX (tyX dA) (SC nw) ad dA (obC nw) NL y_Flight_at w_Flight_at { frames := 0, cells := 0, slots := 0, locals := 0 } [.ref (ad 1), .int (nI k)] σ (gN σ 100 k) σ := by
  refine x_of (WS := WS) (cc := b_Flight_at) (maxL := 2) (ret := (some (.object "LeasedBuilds$Message"))) (by decide) rfl (Nat.le_of_ble_eq_true rfl) ?_
  intro pp ee ss mm below meth cdd hx hb hml hr hlk ht hown hnm hN hK hP ls hl
  have hl : lv_has ls 2 [(0, .ref (ad 1)), (1, .int (nI k))] := hl
  have hS : va_S (Ad ad (obC nw)) ss.heap ss.heap [] := va_S.rf
  have hw := swfC hnw
  refine lv_aload_n hx hb d_Flight_at_0 rfl (lv_at hl 0 rfl) ?_
  refine x_get (v := .ref (ad 2)) (k := 0) hx hb ht xc_Flight hown hK hP (mo (by decide)) rfl (by decide) fl_Flight_11 rfl rfl rfl d_Flight_at_1 ?_
  refine lv_iload_n hx hb d_Flight_at_4 rfl (lv_at hl 1 rfl) ?_
  refine x_aald (κ := 100) (n := 24) hx hb hK hP (mo (by decide)) rfl (by decide) rfl rfl (by omega) (by omega) d_Flight_at_5 ?_
  exact x_aret hx hb hr hlk hK hP hS d_Flight_at_6 rfl rfl
set_option maxHeartbeats 4000000 in
set_option maxRecDepth 100000 in
theorem c_Flight_take (l : Launch) (D : va_G) (dA : Nat → ClassId) (ad : Nat → Nat) (nw : Nat) (hJ : Inj ad (obC nw)) (hnw : nw ≤ 4) (σ : Sg) (k : Nat) (hR : ∀ i, i < 24 → kdC (gN σ 100 i) = 2) (hT : kdC (gN σ 20 1) = 2) (hn : gN σ 21 1 ≤ 24) (hk : k < gN σ 21 1) : CR l D clX (tyX dA) (SC nw) ad dA (obC nw) NL y_Flight_take w_Flight_take { frames := 0, cells := 0, slots := 0, locals := 0 } [.ref (ad 1), .int (nI k)] σ (gN σ 100 k) (fTake σ k) := by
  refine x_of (WS := WS) (cc := b_Flight_take) (maxL := 4) (ret := (some (.object "LeasedBuilds$Message"))) (by decide) rfl (Nat.le_of_ble_eq_true rfl) ?_
  intro pp ee ss mm below meth cdd hx hb hml hr hlk ht hown hnm hN hK hP ls hl
  have hl : lv_has ls 4 [(0, .ref (ad 1)), (1, .int (nI k))] := hl
  have hS : va_S (Ad ad (obC nw)) ss.heap ss.heap [] := va_S.rf
  have hw := swfC hnw
  refine lv_aload_n hx hb d_Flight_take_0 rfl (lv_at hl 0 rfl) ?_
  refine x_get (v := .ref (ad 2)) (k := 0) hx hb ht xc_Flight hown hK hP (mo (by decide)) rfl (by decide) fl_Flight_11 rfl rfl rfl d_Flight_take_1 ?_
  refine lv_iload_n hx hb d_Flight_take_4 rfl (lv_at hl 1 rfl) ?_
  refine x_aald (κ := 100) (n := 24) hx hb hK hP (mo (by decide)) rfl (by decide) rfl rfl (by omega) (by omega) d_Flight_take_5 ?_
  refine lv_astore_n (lv' := [(2, .ref (ad (gN σ 100 k))), (0, .ref (ad 1)), (1, .int (nI k))]) hx hb d_Flight_take_6 rfl hl (by decide) rfl (fun ls hl => ?_)
  refine lv_iload_n hx hb d_Flight_take_7 rfl (lv_at hl 2 rfl) ?_
  refine lv_iconst (v := (nI 1)) hx hb d_Flight_take_8 (by decide) ?_
  refine x_iaddN hx hb d_Flight_take_9 ?_
  refine lv_istore_n (lv' := [(3, .int (nI (k + 1))), (2, .ref (ad (gN σ 100 k))), (0, .ref (ad 1)), (1, .int (nI k))]) hx hb d_Flight_take_10 rfl hl (by decide) rfl (fun ls hl => ?_)
  refine x_loop (pc := 11) (α := Nat) (nL := 4) (fun i => gN σ 21 1 - i) (fun i => fSh σ k i) (fun i => [(3, .int (nI i)), (2, .ref (ad (gN σ 100 k))), (1, .int (nI k)), (0, .ref (ad 1))]) (fun i => k < i ∧ i ≤ gN σ 21 1) ?_ (k + 1) ⟨by omega, by omega⟩ (by rw [fSh_0]; exact hP) hS (lv_sub hl [0, 1, 3, 2] rfl)
  clear hP hS hl
  intro i ⟨hi0, hi⟩ H locs ls hP hS hl ih
  have hl : lv_has ls 4 [(3, .int (nI i)), (2, .ref (ad (gN σ 100 k))), (1, .int (nI k)), (0, .ref (ad 1))] := hl
  have hP : va_P D clX (wd (SC nw) ad dA (obC nw) (fSh σ k i)) H := hP
  refine lv_iload_n hx hb d_Flight_take_11 rfl (lv_at hl 0 rfl) ?_
  refine lv_aload_n hx hb d_Flight_take_12 rfl (lv_at hl 3 rfl) ?_
  refine x_get (v := .int (nI (gN σ 21 1))) (k := 3) hx hb ht xc_Flight hown hK hP (mo (by decide)) rfl (by decide) fl_Flight_25 rfl rfl rfl d_Flight_take_13 ?_
  refine x_icmp_geN (tgt := 39) hx hb d_Flight_take_16 (by decide) (by omega) (by omega) (fun h1 => ?_) (fun h1 => ?_)
  · refine lv_aload_n hx hb d_Flight_take_39 rfl (lv_at hl 3 rfl) ?_
    refine lv_dup hx hb d_Flight_take_40 rfl ?_
    refine x_get (v := .int (nI (gN σ 21 1))) (k := 3) hx hb ht xc_Flight hown hK hP (mo (by decide)) rfl (by decide) fl_Flight_25 rfl rfl rfl d_Flight_take_41 ?_
    refine lv_iconst (v := (nI 1)) hx hb d_Flight_take_44 (by decide) ?_
    refine x_isubN hx hb d_Flight_take_45 (by omega) ?_
    refine x_put (σ' := sN (fSh σ k i) 21 1 ((gN σ 21 1) - 1)) (v := .int (nI ((gN σ 21 1) - 1))) (k := 3) hx hb ht xc_Flight t_Flight t_Flight_ok n_Flight hown hK hP hJ hw hS (mo (by decide)) rfl (by decide) fl_Flight_25 rfl rfl rfl off_N rfl rfl rfl d_Flight_take_46 (fun H locs hP hS => ?_)
    refine lv_aload_n hx hb d_Flight_take_49 rfl (lv_at hl 3 rfl) ?_
    refine x_get (v := .ref (ad 2)) (k := 0) hx hb ht xc_Flight hown hK hP (mo (by decide)) rfl (by decide) fl_Flight_11 rfl rfl rfl d_Flight_take_50 ?_
    refine lv_aload_n hx hb d_Flight_take_53 rfl (lv_at hl 3 rfl) ?_
    refine x_get (v := .int (nI ((gN σ 21 1) - 1))) (k := 3) hx hb ht xc_Flight hown hK hP (mo (by decide)) rfl (by decide) fl_Flight_25 rfl rfl rfl d_Flight_take_54 ?_
    refine lv_aload_n hx hb d_Flight_take_57 rfl (lv_at hl 3 rfl) ?_
    refine x_get (v := .ref (ad (gN σ 20 1))) (k := 2) hx hb ht xc_Flight hown hK hP (mo (by decide)) rfl (by decide) fl_Flight_22 rfl rfl rfl d_Flight_take_58 ?_
    refine x_aast (κ := 100) (n := 24) (κv := 2) hx hb hK hP hJ hw hS (mo (by decide)) rfl (by decide) rfl rfl (mo_msg hT) hT (by decide) rfl (by omega) (by omega) d_Flight_take_61 (fun H locs hP hS => ?_)
    refine lv_aload_n hx hb d_Flight_take_62 rfl (lv_at hl 3 rfl) ?_
    refine lv_aload_n hx hb d_Flight_take_63 rfl (lv_at hl 1 rfl) ?_
    refine x_put (σ' := sN (sN (sN (fSh σ k i) 21 1 ((gN σ 21 1) - 1)) 100 ((gN σ 21 1) - 1) (gN σ 20 1)) 20 1 (gN σ 100 k)) (v := .ref (ad (gN σ 100 k))) (k := 2) hx hb ht xc_Flight t_Flight t_Flight_ok n_Flight hown hK hP hJ hw hS (mo (by decide)) rfl (by decide) fl_Flight_22 rfl rfl rfl off_N rfl rfl rfl d_Flight_take_64 (fun H locs hP hS => ?_)
    refine lv_aload_n hx hb d_Flight_take_67 rfl (lv_at hl 1 rfl) ?_
    exact x_aret hx hb hr hlk hK hP hS d_Flight_take_68 rfl (by rw [show i = gN σ 21 1 by omega]; rfl)
  · refine lv_aload_n hx hb d_Flight_take_19 rfl (lv_at hl 3 rfl) ?_
    refine x_get (v := .ref (ad 2)) (k := 0) hx hb ht xc_Flight hown hK hP (mo (by decide)) rfl (by decide) fl_Flight_11 rfl rfl rfl d_Flight_take_20 ?_
    refine lv_iload_n hx hb d_Flight_take_23 rfl (lv_at hl 0 rfl) ?_
    refine lv_iconst (v := (nI 1)) hx hb d_Flight_take_24 (by decide) ?_
    refine x_isubN hx hb d_Flight_take_25 (by omega) ?_
    refine lv_aload_n hx hb d_Flight_take_26 rfl (lv_at hl 3 rfl) ?_
    refine x_get (v := .ref (ad 2)) (k := 0) hx hb ht xc_Flight hown hK hP (mo (by decide)) rfl (by decide) fl_Flight_11 rfl rfl rfl d_Flight_take_27 ?_
    refine lv_iload_n hx hb d_Flight_take_30 rfl (lv_at hl 0 rfl) ?_
    refine x_aald (κ := 100) (n := 24) hx hb hK hP (mo (by decide)) rfl (by decide) rfl rfl (by omega) (by omega) d_Flight_take_31 ?_
    rw [show gN (fSh σ k i) 100 i = gN σ 100 i from (fSh_at σ k i)]
    refine x_aast (κ := 100) (n := 24) (κv := 2) hx hb hK hP hJ hw hS (mo (by decide)) rfl (by decide) rfl rfl (mo_msg (hR i (by omega))) (hR i (by omega)) (by decide) rfl (by omega) (by omega) d_Flight_take_32 (fun H locs hP hS => ?_)
    refine lv_iinc (lv' := [(3, .int (nI (i + 1))), (2, .ref (ad (gN σ 100 k))), (1, .int (nI k)), (0, .ref (ad 1))]) (v := (nI (i + 1))) hx hb d_Flight_take_33 hl (k := 0) rfl (nI_add _ _) (by decide) rfl (fun ls hl => ?_)
    refine lv_goto (tgt := 11) hx hb d_Flight_take_36 (by decide) ?_
    exact ih (i + 1) ⟨by omega, by omega⟩ (by omega) H locs ls (by rw [← fSh_s (by omega)]; exact hP) hS (lv_sub hl [0, 1, 2, 3] rfl)
set_option maxHeartbeats 4000000 in
set_option maxRecDepth 100000 in
theorem c_Flight_send (l : Launch) (D : va_G) (dA : Nat → ClassId) (ad : Nat → Nat) (nw : Nat) (hJ : Inj ad (obC nw)) (hnw : nw ≤ 4) (σ : Sg) (k : Nat) (r : Nat) (hR : ∀ i, i < 24 → kdC (gN σ 100 i) = 2) (hn : gN σ 21 1 ≤ 24) : CR l D clX (tyX dA) (SC nw) ad dA (obC nw) NL y_Flight_send w_Flight_send { frames := 0, cells := 0, slots := 0, locals := 0 } [.ref (ad 1), .int (nI k), .int (nI r)] σ (sendTo σ) (fSend σ k r) := by
  refine x_of (WS := WS) (cc := b_Flight_send) (maxL := 4) (ret := (some (.object "LeasedBuilds$Message"))) (by decide) rfl (Nat.le_of_ble_eq_true rfl) ?_
  intro pp ee ss mm below meth cdd hx hb hml hr hlk ht hown hnm hN hK hP ls hl
  have hl : lv_has ls 4 [(0, .ref (ad 1)), (1, .int (nI k)), (2, .int (nI r))] := hl
  have hS : va_S (Ad ad (obC nw)) ss.heap ss.heap [] := va_S.rf
  have hw := swfC hnw
  refine lv_aload_n hx hb d_Flight_send_0 rfl (lv_at hl 0 rfl) ?_
  refine lv_dup hx hb d_Flight_send_1 rfl ?_
  refine x_get (v := .int (nI (gN σ 22 1))) (k := 4) hx hb ht xc_Flight hown hK hP (mo (by decide)) rfl (by decide) fl_Flight_29 rfl rfl rfl d_Flight_send_2 ?_
  refine lv_iconst (v := (nI 1)) hx hb d_Flight_send_5 (by decide) ?_
  refine x_iaddN hx hb d_Flight_send_6 ?_
  refine x_put (σ' := sN σ 22 1 ((gN σ 22 1) + 1)) (v := .int (nI ((gN σ 22 1) + 1))) (k := 4) hx hb ht xc_Flight t_Flight t_Flight_ok n_Flight hown hK hP hJ hw hS (mo (by decide)) rfl (by decide) fl_Flight_29 rfl rfl rfl off_N rfl rfl rfl d_Flight_send_7 (fun H locs hP hS => ?_)
  refine lv_aload_n hx hb d_Flight_send_10 rfl (lv_at hl 0 rfl) ?_
  refine x_get (v := .ref (ad 3)) (k := 1) hx hb ht xc_Flight hown hK hP (mo (by decide)) rfl (by decide) fl_Flight_18 rfl rfl rfl d_Flight_send_11 ?_
  refine lv_astore_n (lv' := [(3, .ref (ad 3)), (0, .ref (ad 1)), (1, .int (nI k)), (2, .int (nI r))]) hx hb d_Flight_send_14 rfl hl (by decide) rfl (fun ls hl => ?_)
  refine lv_aload_n hx hb d_Flight_send_15 rfl (lv_at hl 1 rfl) ?_
  refine x_get (v := .int (nI (gN σ 21 1))) (k := 3) hx hb ht xc_Flight hown hK hP (mo (by decide)) rfl (by decide) fl_Flight_25 rfl rfl rfl d_Flight_send_16 ?_
  refine lv_aload_n hx hb d_Flight_send_19 rfl (lv_at hl 1 rfl) ?_
  refine x_get (v := .ref (ad 2)) (k := 0) hx hb ht xc_Flight hown hK hP (mo (by decide)) rfl (by decide) fl_Flight_11 rfl rfl rfl d_Flight_send_20 ?_
  refine x_alen (κ := 100) (n := 24) hx hb hK hP (mo (by decide)) rfl (by decide) rfl rfl d_Flight_send_23 ?_
  refine x_icmp_geN (tgt := 47) hx hb d_Flight_send_24 (by decide) (by omega) (by decide) (fun h1 => ?_) (fun h1 => ?_)
  · refine lv_aload_n hx hb d_Flight_send_47 rfl (lv_at hl 0 rfl) ?_
    refine lv_iload_n hx hb d_Flight_send_48 rfl (lv_at hl 2 rfl) ?_
    refine x_put (σ' := sN (sN σ 22 1 ((gN σ 22 1) + 1)) 10 3 k) (v := .int (nI k)) (k := 1) hx hb ht xc_Message t_Message t_Message_ok n_Message hown hK hP hJ hw hS (mo (by decide)) rfl (by decide) fl_Flight_32 rfl rfl rfl off_N rfl rfl rfl d_Flight_send_49 (fun H locs hP hS => ?_)
    refine lv_aload_n hx hb d_Flight_send_52 rfl (lv_at hl 0 rfl) ?_
    refine lv_iload_n hx hb d_Flight_send_53 rfl (lv_at hl 3 rfl) ?_
    refine x_put (σ' := sN (sN (sN σ 22 1 ((gN σ 22 1) + 1)) 10 3 k) 11 3 r) (v := .int (nI r)) (k := 2) hx hb ht xc_Message t_Message t_Message_ok n_Message hown hK hP hJ hw hS (mo (by decide)) rfl (by decide) fl_Flight_35 rfl rfl rfl off_N rfl rfl rfl d_Flight_send_54 (fun H locs hP hS => ?_)
    refine lv_aload_n hx hb d_Flight_send_57 rfl (lv_at hl 0 rfl) ?_
    exact x_aret hx hb hr hlk hK hP hS d_Flight_send_58 (by unfold sendTo; rw [if_neg (by omega)]) (by unfold fSend; rw [if_neg (by omega)])
  · refine lv_aload_n hx hb d_Flight_send_27 rfl (lv_at hl 1 rfl) ?_
    refine x_get (v := .ref (ad 2)) (k := 0) hx hb ht xc_Flight hown hK hP (mo (by decide)) rfl (by decide) fl_Flight_11 rfl rfl rfl d_Flight_send_28 ?_
    refine lv_aload_n hx hb d_Flight_send_31 rfl (lv_at hl 1 rfl) ?_
    refine x_get (v := .int (nI (gN σ 21 1))) (k := 3) hx hb ht xc_Flight hown hK hP (mo (by decide)) rfl (by decide) fl_Flight_25 rfl rfl rfl d_Flight_send_32 ?_
    refine x_aald (κ := 100) (n := 24) hx hb hK hP (mo (by decide)) rfl (by decide) rfl rfl (by omega) (by omega) d_Flight_send_35 ?_
    rw [show gN (sN σ 22 1 ((gN σ 22 1) + 1)) 100 (gN σ 21 1) = gN σ 100 (gN σ 21 1) from rfl]
    refine lv_astore_n (lv' := [(3, .ref (ad (gN σ 100 (gN σ 21 1)))), (0, .ref (ad 1)), (1, .int (nI k)), (2, .int (nI r))]) hx hb d_Flight_send_36 rfl hl (by decide) rfl (fun ls hl => ?_)
    refine lv_aload_n hx hb d_Flight_send_37 rfl (lv_at hl 1 rfl) ?_
    refine lv_dup hx hb d_Flight_send_38 rfl ?_
    refine x_get (v := .int (nI (gN σ 21 1))) (k := 3) hx hb ht xc_Flight hown hK hP (mo (by decide)) rfl (by decide) fl_Flight_25 rfl rfl rfl d_Flight_send_39 ?_
    refine lv_iconst (v := (nI 1)) hx hb d_Flight_send_42 (by decide) ?_
    refine x_iaddN hx hb d_Flight_send_43 ?_
    refine x_put (σ' := sN (sN σ 22 1 ((gN σ 22 1) + 1)) 21 1 ((gN σ 21 1) + 1)) (v := .int (nI ((gN σ 21 1) + 1))) (k := 3) hx hb ht xc_Flight t_Flight t_Flight_ok n_Flight hown hK hP hJ hw hS (mo (by decide)) rfl (by decide) fl_Flight_25 rfl rfl rfl off_N rfl rfl rfl d_Flight_send_44 (fun H locs hP hS => ?_)
    refine lv_aload_n hx hb d_Flight_send_47 rfl (lv_at hl 0 rfl) ?_
    refine lv_iload_n hx hb d_Flight_send_48 rfl (lv_at hl 2 rfl) ?_
    refine x_put (σ' := sN (sN (sN σ 22 1 ((gN σ 22 1) + 1)) 21 1 ((gN σ 21 1) + 1)) 10 (gN σ 100 (gN σ 21 1)) k) (v := .int (nI k)) (k := 1) hx hb ht xc_Message t_Message t_Message_ok n_Message hown hK hP hJ hw hS (mo_msg (hR _ (by omega))) (hR _ (by omega)) (by decide) fl_Flight_32 rfl rfl rfl off_N (by simp [vl, gs]) rfl rfl d_Flight_send_49 (fun H locs hP hS => ?_)
    refine lv_aload_n hx hb d_Flight_send_52 rfl (lv_at hl 0 rfl) ?_
    refine lv_iload_n hx hb d_Flight_send_53 rfl (lv_at hl 3 rfl) ?_
    refine x_put (σ' := sN (sN (sN (sN σ 22 1 ((gN σ 22 1) + 1)) 21 1 ((gN σ 21 1) + 1)) 10 (gN σ 100 (gN σ 21 1)) k) 11 (gN σ 100 (gN σ 21 1)) r) (v := .int (nI r)) (k := 2) hx hb ht xc_Message t_Message t_Message_ok n_Message hown hK hP hJ hw hS (mo_msg (hR _ (by omega))) (hR _ (by omega)) (by decide) fl_Flight_35 rfl rfl rfl off_N (by simp [vl, gs]) rfl rfl d_Flight_send_54 (fun H locs hP hS => ?_)
    refine lv_aload_n hx hb d_Flight_send_57 rfl (lv_at hl 0 rfl) ?_
    exact x_aret hx hb hr hlk hK hP hS d_Flight_send_58 (by unfold sendTo; rw [if_pos h1]) (by unfold fSend; rw [if_pos h1])
set_option maxHeartbeats 4000000 in
set_option maxRecDepth 100000 in
theorem c_Client_isItem (l : Launch) (D : va_G) (dA : Nat → ClassId) (ad : Nat → Nat) (nw : Nat) (hJ : Inj ad (obC nw)) (hnw : nw ≤ 4) (σ : Sg) (k : Int32) (hn : gN σ 31 55 ≤ 10) : CI l D clX (tyX dA) (SC nw) ad dA (obC nw) NL y_Client_isItem w_Client_isItem { frames := 0, cells := 0, slots := 0, locals := 0 } [.ref (ad 55), .int k] σ ((bI (inR k (gN σ 31 55)))) σ := by
  refine x_of (WS := WS) (cc := b_Client_isItem) (maxL := 2) (ret := (some .boolean)) (by decide) rfl (Nat.le_of_ble_eq_true rfl) ?_
  intro pp ee ss mm below meth cdd hx hb hml hr hlk ht hown hnm hN hK hP ls hl
  have hl : lv_has ls 2 [(0, .ref (ad 55)), (1, .int k)] := hl
  have hS : va_S (Ad ad (obC nw)) ss.heap ss.heap [] := va_S.rf
  have hw := swfC hnw
  refine lv_iload_n hx hb d_Client_isItem_0 rfl (lv_at hl 1 rfl) ?_
  refine lv_if_lt (tgt := 16) hx hb d_Client_isItem_1 (by decide) (fun h1 => ?_) (fun h1 => ?_)
  · refine lv_iconst (v := (nI 0)) hx hb d_Client_isItem_16 (by decide) ?_
    exact x_zret (b := false) hx hb hr hlk hK hP hS d_Client_isItem_17 rfl (by rw [inR_neg h1]) rfl
  · refine lv_iload_n hx hb d_Client_isItem_4 rfl (lv_at hl 1 rfl) ?_
    refine lv_aload_n hx hb d_Client_isItem_5 rfl (lv_at hl 0 rfl) ?_
    refine x_get (v := .int (nI (gN σ 31 55))) (k := 8) hx hb ht xc_Client hown hK hP (mo (by decide)) rfl (by decide) fl_Client_39 rfl rfl rfl d_Client_isItem_6 ?_
    refine lv_icmp_ge (tgt := 16) hx hb d_Client_isItem_9 (by decide) (fun h2 => ?_) (fun h2 => ?_)
    · refine lv_iconst (v := (nI 0)) hx hb d_Client_isItem_16 (by decide) ?_
      exact x_zret (b := false) hx hb hr hlk hK hP hS d_Client_isItem_17 rfl (by rw [inR_big (by omega) h2]) rfl
    · refine lv_iconst (v := (nI 1)) hx hb d_Client_isItem_12 (by decide) ?_
      refine lv_goto (tgt := 17) hx hb d_Client_isItem_13 (by decide) ?_
      exact x_zret (b := true) hx hb hr hlk hK hP hS d_Client_isItem_17 rfl (by rw [inR_in (by omega) h1 h2]) rfl
set_option maxHeartbeats 4000000 in
set_option maxRecDepth 100000 in
theorem c_Client_knows (l : Launch) (D : va_G) (dA : Nat → ClassId) (ad : Nat → Nat) (nw : Nat) (hJ : Inj ad (obC nw)) (hnw : nw ≤ 4) (σ : Sg) (k : Int32) (hn : gN σ 31 55 ≤ 10) : CI l D clX (tyX dA) (SC nw) ad dA (obC nw) NL y_Client_knows w_Client_knows { frames := 1, cells := 0, slots := 0, locals := 21 } [.ref (ad 55), .int k] σ ((bI (kn σ k))) σ := by
  refine x_of (WS := WS) (cc := b_Client_knows) (maxL := 2) (ret := (some .boolean)) (by decide) rfl (Nat.le_of_ble_eq_true rfl) ?_
  intro pp ee ss mm below meth cdd hx hb hml hr hlk ht hown hnm hN hK hP ls hl
  have hl : lv_has ls 2 [(0, .ref (ad 55)), (1, .int k)] := hl
  have hS : va_S (Ad ad (obC nw)) ss.heap ss.heap [] := va_S.rf
  have hw := swfC hnw
  refine lv_aload_n hx hb d_Client_knows_0 rfl (lv_at hl 0 rfl) ?_
  refine lv_iload_n hx hb d_Client_knows_1 rfl (lv_at hl 1 rfl) ?_
  refine x_ci (x_rV (As := [.int k]) (rest := []) hx hb hml hown ht gW cs_Client_47 (c_Client_isItem l D dA ad nw hJ hnw σ k (by assumption)) rfl rfl (by decide) xc_Client hN hK hP (mo (by decide)) rfl rfl hl.1 rfl (Nat.le_of_ble_eq_true rfl) d_Client_knows_2 (by decide)) hS (fun H locs hP hS => ?_)
  refine x_ifeqB (tgt := 21) hx hb d_Client_knows_5 (by decide) (fun h1 => ?_) (fun h1 => ?_)
  · refine lv_iconst (v := (nI 0)) hx hb d_Client_knows_21 (by decide) ?_
    exact x_zret (b := false) hx hb hr hlk hK hP hS d_Client_knows_22 rfl (by simp [kn, h1]) rfl
  · obtain ⟨j, hj, rfl⟩ := inR_of (by omega) h1
    refine lv_aload_n hx hb d_Client_knows_8 rfl (lv_at hl 0 rfl) ?_
    refine x_get (v := .ref (ad 56)) (k := 1) hx hb ht xc_Client hown hK hP (mo (by decide)) rfl (by decide) fl_Client_9 rfl rfl rfl d_Client_knows_9 ?_
    refine lv_iload_n hx hb d_Client_knows_12 rfl (lv_at hl 1 rfl) ?_
    refine x_zald (κ := 101) (n := 10) hx hb hK hP (mo (by decide)) rfl (by decide) rfl rfl (by omega) (by omega) d_Client_knows_13 ?_
    refine x_ifeqB (tgt := 21) hx hb d_Client_knows_14 (by decide) (fun h2 => ?_) (fun h2 => ?_)
    · refine lv_iconst (v := (nI 0)) hx hb d_Client_knows_21 (by decide) ?_
      exact x_zret (b := false) hx hb hr hlk hK hP hS d_Client_knows_22 rfl (by simp [kn, h1, h2, nI_clamp (show j < 2 ^ 31 by omega)]) rfl
    · refine lv_iconst (v := (nI 1)) hx hb d_Client_knows_17 (by decide) ?_
      refine lv_goto (tgt := 22) hx hb d_Client_knows_18 (by decide) ?_
      exact x_zret (b := true) hx hb hr hlk hK hP hS d_Client_knows_22 rfl (by simp [kn, h1, h2, nI_clamp (show j < 2 ^ 31 by omega)]) rfl
set_option maxHeartbeats 4000000 in
set_option maxRecDepth 100000 in
theorem c_Client_unknown (l : Launch) (D : va_G) (dA : Nat → ClassId) (ad : Nat → Nat) (nw : Nat) (hJ : Inj ad (obC nw)) (hnw : nw ≤ 4) (σ : Sg)  (hn : gN σ 31 55 ≤ 10) : CI l D clX (tyX dA) (SC nw) ad dA (obC nw) NL y_Client_unknown w_Client_unknown { frames := 0, cells := 0, slots := 0, locals := 0 } [.ref (ad 55)] σ ((nI (cnt (fun i => !gB σ 101 i) (gN σ 31 55)))) σ := by
  refine x_of (WS := WS) (cc := b_Client_unknown) (maxL := 3) (ret := (some .int)) (by decide) rfl (Nat.le_of_ble_eq_true rfl) ?_
  intro pp ee ss mm below meth cdd hx hb hml hr hlk ht hown hnm hN hK hP ls hl
  have hl : lv_has ls 3 [(0, .ref (ad 55))] := hl
  have hS : va_S (Ad ad (obC nw)) ss.heap ss.heap [] := va_S.rf
  have hw := swfC hnw
  refine lv_iconst (v := (nI 0)) hx hb d_Client_unknown_0 (by decide) ?_
  refine lv_istore_n (lv' := [(1, .int (nI 0)), (0, .ref (ad 55))]) hx hb d_Client_unknown_1 rfl hl (by decide) rfl (fun ls hl => ?_)
  refine lv_iconst (v := (nI 0)) hx hb d_Client_unknown_2 (by decide) ?_
  refine lv_istore_n (lv' := [(2, .int (nI 0)), (1, .int (nI 0)), (0, .ref (ad 55))]) hx hb d_Client_unknown_3 rfl hl (by decide) rfl (fun ls hl => ?_)
  refine x_loop (pc := 4) (α := Nat) (nL := 3) (fun i => gN σ 31 55 - i) (fun i => σ) (fun i => [(2, .int (nI i)), (1, .int (nI (cnt (fun i => !gB σ 101 i) i))), (0, .ref (ad 55))]) (fun i => i ≤ gN σ 31 55) ?_ 0 (Nat.zero_le _) hP hS (lv_sub hl [0, 1, 2] rfl)
  clear hP hS hl
  intro i hi H locs ls hP hS hl ih
  have hi : i ≤ gN σ 31 55 := hi
  have hl : lv_has ls 3 [(2, .int (nI i)), (1, .int (nI (cnt (fun i => !gB σ 101 i) i))), (0, .ref (ad 55))] := hl
  have hP : va_P D clX (wd (SC nw) ad dA (obC nw) σ) H := hP
  refine lv_iload_n hx hb d_Client_unknown_4 rfl (lv_at hl 0 rfl) ?_
  refine lv_aload_n hx hb d_Client_unknown_5 rfl (lv_at hl 2 rfl) ?_
  refine x_get (v := .int (nI (gN σ 31 55))) (k := 8) hx hb ht xc_Client hown hK hP (mo (by decide)) rfl (by decide) fl_Client_39 rfl rfl rfl d_Client_unknown_6 ?_
  refine x_icmp_geN (tgt := 30) hx hb d_Client_unknown_9 (by decide) (by omega) (by omega) (fun h1 => ?_) (fun h1 => ?_)
  · refine lv_iload_n hx hb d_Client_unknown_30 rfl (lv_at hl 1 rfl) ?_
    exact x_iret hx hb hr hlk hK hP hS d_Client_unknown_31 (by rw [show i = gN σ 31 55 by omega]) rfl
  · refine lv_aload_n hx hb d_Client_unknown_12 rfl (lv_at hl 2 rfl) ?_
    refine x_get (v := .ref (ad 56)) (k := 1) hx hb ht xc_Client hown hK hP (mo (by decide)) rfl (by decide) fl_Client_9 rfl rfl rfl d_Client_unknown_13 ?_
    refine lv_iload_n hx hb d_Client_unknown_16 rfl (lv_at hl 0 rfl) ?_
    refine x_zald (κ := 101) (n := 10) hx hb hK hP (mo (by decide)) rfl (by decide) rfl rfl (by omega) (by omega) d_Client_unknown_17 ?_
    refine x_ifneB (tgt := 24) hx hb d_Client_unknown_18 (by decide) (fun h2 => ?_) (fun h2 => ?_)
    · refine lv_iinc (lv' := [(2, .int (nI (i + 1))), (1, .int (nI (cnt (fun i => !gB σ 101 i) i))), (0, .ref (ad 55))]) (v := (nI (i + 1))) hx hb d_Client_unknown_24 hl (k := 0) rfl (nI_add _ _) (by decide) rfl (fun ls hl => ?_)
      refine lv_goto (tgt := 4) hx hb d_Client_unknown_27 (by decide) ?_
      exact ih (i + 1) (by show i + 1 ≤ gN σ 31 55; omega) (by omega) H locs ls hP hS (lv_sub hl [0, 1, 2] (by simp [lv_pick, cnt, h2]))
    · refine lv_iinc (lv' := [(1, .int (nI ((cnt (fun i => !gB σ 101 i) i) + 1))), (2, .int (nI i)), (0, .ref (ad 55))]) (v := (nI ((cnt (fun i => !gB σ 101 i) i) + 1))) hx hb d_Client_unknown_21 hl (k := 1) rfl (nI_add _ _) (by decide) rfl (fun ls hl => ?_)
      refine lv_iinc (lv' := [(2, .int (nI (i + 1))), (1, .int (nI ((cnt (fun i => !gB σ 101 i) i) + 1))), (0, .ref (ad 55))]) (v := (nI (i + 1))) hx hb d_Client_unknown_24 hl (k := 1) rfl (nI_add _ _) (by decide) rfl (fun ls hl => ?_)
      refine lv_goto (tgt := 4) hx hb d_Client_unknown_27 (by decide) ?_
      exact ih (i + 1) (by show i + 1 ≤ gN σ 31 55; omega) (by omega) H locs ls hP hS (lv_sub hl [0, 1, 2] (by simp [lv_pick, cnt, h2]))
set_option maxHeartbeats 4000000 in
set_option maxRecDepth 100000 in
theorem c_Client_learn (l : Launch) (D : va_G) (dA : Nat → ClassId) (ad : Nat → Nat) (nw : Nat) (hJ : Inj ad (obC nw)) (hnw : nw ≤ 4) (σ : Sg) (i : Nat) (c : Int32) (hi : i < 10) : CV l D clX (tyX dA) (SC nw) ad dA (obC nw) NL y_Client_learn w_Client_learn { frames := 0, cells := 0, slots := 0, locals := 0 } [.ref (ad 55), .int (nI i), .int c] σ (cLearn σ i c) := by
  refine x_of (WS := WS) (cc := b_Client_learn) (maxL := 3) (ret := none) (by decide) rfl (Nat.le_of_ble_eq_true rfl) ?_
  intro pp ee ss mm below meth cdd hx hb hml hr hlk ht hown hnm hN hK hP ls hl
  have hl : lv_has ls 3 [(0, .ref (ad 55)), (1, .int (nI i)), (2, .int c)] := hl
  have hS : va_S (Ad ad (obC nw)) ss.heap ss.heap [] := va_S.rf
  have hw := swfC hnw
  refine lv_aload_n hx hb d_Client_learn_0 rfl (lv_at hl 0 rfl) ?_
  refine x_get (v := .ref (ad 56)) (k := 1) hx hb ht xc_Client hown hK hP (mo (by decide)) rfl (by decide) fl_Client_9 rfl rfl rfl d_Client_learn_1 ?_
  refine lv_iload_n hx hb d_Client_learn_4 rfl (lv_at hl 1 rfl) ?_
  refine lv_iconst (v := (nI 1)) hx hb d_Client_learn_5 (by decide) ?_
  refine x_zast (κ := 101) (n := 10) (x := true) hx hb hK hP hJ hw hS (mo (by decide)) rfl (by decide) rfl rfl (by omega) (by omega) d_Client_learn_6 (fun H locs hP hS => ?_)
  refine lv_aload_n hx hb d_Client_learn_7 rfl (lv_at hl 0 rfl) ?_
  refine x_get (v := .ref (ad 57)) (k := 2) hx hb ht xc_Client hown hK hP (mo (by decide)) rfl (by decide) fl_Client_15 rfl rfl rfl d_Client_learn_8 ?_
  refine lv_iload_n hx hb d_Client_learn_11 rfl (lv_at hl 1 rfl) ?_
  refine lv_iload_n hx hb d_Client_learn_12 rfl (lv_at hl 2 rfl) ?_
  refine x_iast (κ := 102) (n := 10) (x := c) hx hb hK hP hJ hw hS (mo (by decide)) rfl (by decide) rfl rfl (by omega) (by omega) d_Client_learn_13 (fun H locs hP hS => ?_)
  exact x_vret hx hb hr hlk hK hP hS d_Client_learn_14 rfl
set_option maxHeartbeats 4000000 in
set_option maxRecDepth 100000 in
theorem c_Client_isReady (l : Launch) (D : va_G) (dA : Nat → ClassId) (ad : Nat → Nat) (nw : Nat) (hJ : Inj ad (obC nw)) (hnw : nw ≤ 4) (σ : Sg) (i : Nat) (hi : i < 10) (ha : gN σ 104 i < 10) (hb2 : gN σ 105 i < 10) : CI l D clX (tyX dA) (SC nw) ad dA (obC nw) NL y_Client_isReady w_Client_isReady { frames := 0, cells := 0, slots := 0, locals := 0 } [.ref (ad 55), .int (nI i)] σ ((bI (rdy σ i))) σ := by
  refine x_of (WS := WS) (cc := b_Client_isReady) (maxL := 2) (ret := (some .boolean)) (by decide) rfl (Nat.le_of_ble_eq_true rfl) ?_
  intro pp ee ss mm below meth cdd hx hb hml hr hlk ht hown hnm hN hK hP ls hl
  have hl : lv_has ls 2 [(0, .ref (ad 55)), (1, .int (nI i))] := hl
  have hS : va_S (Ad ad (obC nw)) ss.heap ss.heap [] := va_S.rf
  have hw := swfC hnw
  refine lv_aload_n hx hb d_Client_isReady_0 rfl (lv_at hl 0 rfl) ?_
  refine x_get (v := .ref (ad 56)) (k := 1) hx hb ht xc_Client hown hK hP (mo (by decide)) rfl (by decide) fl_Client_9 rfl rfl rfl d_Client_isReady_1 ?_
  refine lv_iload_n hx hb d_Client_isReady_4 rfl (lv_at hl 1 rfl) ?_
  refine x_zald (κ := 101) (n := 10) hx hb hK hP (mo (by decide)) rfl (by decide) rfl rfl (by omega) (by omega) d_Client_isReady_5 ?_
  refine x_ifneB (tgt := 41) hx hb d_Client_isReady_6 (by decide) (fun h1 => ?_) (fun h1 => ?_)
  · refine lv_iconst (v := (nI 0)) hx hb d_Client_isReady_41 (by decide) ?_
    exact x_zret (b := false) hx hb hr hlk hK hP hS d_Client_isReady_42 rfl (by simp [rdy, h1]) rfl
  · refine lv_aload_n hx hb d_Client_isReady_9 rfl (lv_at hl 0 rfl) ?_
    refine x_get (v := .ref (ad 56)) (k := 1) hx hb ht xc_Client hown hK hP (mo (by decide)) rfl (by decide) fl_Client_9 rfl rfl rfl d_Client_isReady_10 ?_
    refine lv_aload_n hx hb d_Client_isReady_13 rfl (lv_at hl 0 rfl) ?_
    refine x_get (v := .ref (ad 59)) (k := 4) hx hb ht xc_Client hown hK hP (mo (by decide)) rfl (by decide) fl_Client_23 rfl rfl rfl d_Client_isReady_14 ?_
    refine lv_iload_n hx hb d_Client_isReady_17 rfl (lv_at hl 1 rfl) ?_
    refine x_nald (κ := 104) (n := 10) hx hb hK hP (mo (by decide)) rfl (by decide) rfl rfl (by omega) (by omega) d_Client_isReady_18 ?_
    refine x_zald (κ := 101) (n := 10) hx hb hK hP (mo (by decide)) rfl (by decide) rfl rfl (by omega) (by omega) d_Client_isReady_19 ?_
    refine x_ifeqB (tgt := 41) hx hb d_Client_isReady_20 (by decide) (fun h2 => ?_) (fun h2 => ?_)
    · refine lv_iconst (v := (nI 0)) hx hb d_Client_isReady_41 (by decide) ?_
      exact x_zret (b := false) hx hb hr hlk hK hP hS d_Client_isReady_42 rfl (by simp [rdy, h1, h2]) rfl
    · refine lv_aload_n hx hb d_Client_isReady_23 rfl (lv_at hl 0 rfl) ?_
      refine x_get (v := .ref (ad 56)) (k := 1) hx hb ht xc_Client hown hK hP (mo (by decide)) rfl (by decide) fl_Client_9 rfl rfl rfl d_Client_isReady_24 ?_
      refine lv_aload_n hx hb d_Client_isReady_27 rfl (lv_at hl 0 rfl) ?_
      refine x_get (v := .ref (ad 60)) (k := 5) hx hb ht xc_Client hown hK hP (mo (by decide)) rfl (by decide) fl_Client_26 rfl rfl rfl d_Client_isReady_28 ?_
      refine lv_iload_n hx hb d_Client_isReady_31 rfl (lv_at hl 1 rfl) ?_
      refine x_nald (κ := 105) (n := 10) hx hb hK hP (mo (by decide)) rfl (by decide) rfl rfl (by omega) (by omega) d_Client_isReady_32 ?_
      refine x_zald (κ := 101) (n := 10) hx hb hK hP (mo (by decide)) rfl (by decide) rfl rfl (by omega) (by omega) d_Client_isReady_33 ?_
      refine x_ifeqB (tgt := 41) hx hb d_Client_isReady_34 (by decide) (fun h3 => ?_) (fun h3 => ?_)
      · refine lv_iconst (v := (nI 0)) hx hb d_Client_isReady_41 (by decide) ?_
        exact x_zret (b := false) hx hb hr hlk hK hP hS d_Client_isReady_42 rfl (by simp [rdy, h1, h2, h3]) rfl
      · refine lv_iconst (v := (nI 1)) hx hb d_Client_isReady_37 (by decide) ?_
        refine lv_goto (tgt := 42) hx hb d_Client_isReady_38 (by decide) ?_
        exact x_zret (b := true) hx hb hr hlk hK hP hS d_Client_isReady_42 rfl (by simp [rdy, h1, h2, h3]) rfl
set_option maxHeartbeats 4000000 in
set_option maxRecDepth 100000 in
theorem c_Client_writeKey (l : Launch) (D : va_G) (dA : Nat → ClassId) (ad : Nat → Nat) (nw : Nat) (hJ : Inj ad (obC nw)) (hnw : nw ≤ 4) (σ : Sg) (i : Nat) (o : Nat) (hi : i < 10) (ha : gN σ 104 i < 10) (hb2 : gN σ 105 i < 10) (hk_o : kdC o = 1) (hm_o : o ∈ obC nw) : CV l D clX (tyX dA) (SC nw) ad dA (obC nw) NL y_Client_writeKey w_Client_writeKey { frames := 1, cells := 0, slots := 0, locals := 24 } [.ref (ad 55), .int (nI i), .ref (ad o)] σ (cKey σ i o) := by
  refine x_of (WS := WS) (cc := b_Client_writeKey) (maxL := 3) (ret := none) (by decide) rfl (Nat.le_of_ble_eq_true rfl) ?_
  intro pp ee ss mm below meth cdd hx hb hml hr hlk ht hown hnm hN hK hP ls hl
  have hl : lv_has ls 3 [(0, .ref (ad 55)), (1, .int (nI i)), (2, .ref (ad o))] := hl
  have hS : va_S (Ad ad (obC nw)) ss.heap ss.heap [] := va_S.rf
  have hw := swfC hnw
  refine lv_aload_n hx hb d_Client_writeKey_0 rfl (lv_at hl 2 rfl) ?_
  refine lv_aload_n hx hb d_Client_writeKey_1 rfl (lv_at hl 0 rfl) ?_
  refine x_get (v := .ref (ad 58)) (k := 3) hx hb ht xc_Client hown hK hP (mo (by decide)) rfl (by decide) fl_Client_19 rfl rfl rfl d_Client_writeKey_2 ?_
  refine lv_iload_n hx hb d_Client_writeKey_5 rfl (lv_at hl 1 rfl) ?_
  refine x_lald (κ := 103) (n := 10) hx hb hK hP (mo (by decide)) rfl (by decide) rfl rfl (by omega) (by omega) d_Client_writeKey_6 ?_
  refine lv_aload_n hx hb d_Client_writeKey_7 rfl (lv_at hl 0 rfl) ?_
  refine x_get (v := .ref (ad 57)) (k := 2) hx hb ht xc_Client hown hK hP (mo (by decide)) rfl (by decide) fl_Client_15 rfl rfl rfl d_Client_writeKey_8 ?_
  refine lv_aload_n hx hb d_Client_writeKey_11 rfl (lv_at hl 0 rfl) ?_
  refine x_get (v := .ref (ad 59)) (k := 4) hx hb ht xc_Client hown hK hP (mo (by decide)) rfl (by decide) fl_Client_23 rfl rfl rfl d_Client_writeKey_12 ?_
  refine lv_iload_n hx hb d_Client_writeKey_15 rfl (lv_at hl 1 rfl) ?_
  refine x_nald (κ := 104) (n := 10) hx hb hK hP (mo (by decide)) rfl (by decide) rfl rfl (by omega) (by omega) d_Client_writeKey_16 ?_
  refine x_iald (κ := 102) (n := 10) hx hb hK hP (mo (by decide)) rfl (by decide) rfl rfl (by omega) (by omega) d_Client_writeKey_17 ?_
  refine x_ci (x_rSN (As := [.int (gI σ 102 (gN σ 104 i))]) (rest := [.long (gJ σ 103 i), .ref (ad o)]) hx hb hml hown ht gW cs_Client_91 (c_LB_digestOf l D dA ad nw hJ hnw σ (gI σ 102 (gN σ 104 i))) rfl rfl (by decide) hN hK hP rfl hl.1 rfl (Nat.le_of_ble_eq_true rfl) d_Client_writeKey_18 (by decide)) hS (fun H locs hP hS => ?_)
  refine lv_aload_n hx hb d_Client_writeKey_21 rfl (lv_at hl 0 rfl) ?_
  refine x_get (v := .ref (ad 57)) (k := 2) hx hb ht xc_Client hown hK hP (mo (by decide)) rfl (by decide) fl_Client_15 rfl rfl rfl d_Client_writeKey_22 ?_
  refine lv_aload_n hx hb d_Client_writeKey_25 rfl (lv_at hl 0 rfl) ?_
  refine x_get (v := .ref (ad 60)) (k := 5) hx hb ht xc_Client hown hK hP (mo (by decide)) rfl (by decide) fl_Client_26 rfl rfl rfl d_Client_writeKey_26 ?_
  refine lv_iload_n hx hb d_Client_writeKey_29 rfl (lv_at hl 1 rfl) ?_
  refine x_nald (κ := 105) (n := 10) hx hb hK hP (mo (by decide)) rfl (by decide) rfl rfl (by omega) (by omega) d_Client_writeKey_30 ?_
  refine x_iald (κ := 102) (n := 10) hx hb hK hP (mo (by decide)) rfl (by decide) rfl rfl (by omega) (by omega) d_Client_writeKey_31 ?_
  refine x_ci (x_rSN (As := [.int (gI σ 102 (gN σ 105 i))]) (rest := [.int (dg (gI σ 102 (gN σ 104 i))), .long (gJ σ 103 i), .ref (ad o)]) hx hb hml hown ht gW cs_Client_91 (c_LB_digestOf l D dA ad nw hJ hnw σ (gI σ 102 (gN σ 105 i))) rfl rfl (by decide) hN hK hP rfl hl.1 rfl (Nat.le_of_ble_eq_true rfl) d_Client_writeKey_32 (by decide)) hS (fun H locs hP hS => ?_)
  refine x_cv (x_rV (As := [.long (gJ σ 103 i), .int (dg (gI σ 102 (gN σ 104 i))), .int (dg (gI σ 102 (gN σ 105 i)))]) (rest := []) hx hb hml hown ht gW cs_Client_95 (c_Key_set l D dA ad nw hJ hnw σ o (gJ σ 103 i) (dg (gI σ 102 (gN σ 104 i))) (dg (gI σ 102 (gN σ 105 i))) hk_o hm_o) rfl rfl (by decide) xc_Key hN hK hP hm_o hk_o rfl hl.1 rfl (Nat.le_of_ble_eq_true rfl) d_Client_writeKey_35 (by decide)) hS (fun H locs hP hS => ?_)
  exact x_vret hx hb hr hlk hK hP hS d_Client_writeKey_38 rfl
set_option maxHeartbeats 4000000 in
set_option maxRecDepth 100000 in
theorem c_Disk_findBlob (l : Launch) (D : va_G) (dA : Nat → ClassId) (ad : Nat → Nat) (nw : Nat) (hJ : Inj ad (obC nw)) (hnw : nw ≤ 4) (σ : Sg) (d : Int32) (hn : gN σ 36 64 ≤ 10) : CI l D clX (tyX dA) (SC nw) ad dA (obC nw) NL y_Disk_findBlob w_Disk_findBlob { frames := 0, cells := 0, slots := 0, locals := 0 } [.ref (ad 64), .int d] σ ((oI (fBlob σ d))) σ := by
  refine x_of (WS := WS) (cc := b_Disk_findBlob) (maxL := 3) (ret := (some .int)) (by decide) rfl (Nat.le_of_ble_eq_true rfl) ?_
  intro pp ee ss mm below meth cdd hx hb hml hr hlk ht hown hnm hN hK hP ls hl
  have hl : lv_has ls 3 [(0, .ref (ad 64)), (1, .int d)] := hl
  have hS : va_S (Ad ad (obC nw)) ss.heap ss.heap [] := va_S.rf
  have hw := swfC hnw
  refine lv_iconst (v := (nI 0)) hx hb d_Disk_findBlob_0 (by decide) ?_
  refine lv_istore_n (lv' := [(2, .int (nI 0)), (0, .ref (ad 64)), (1, .int d)]) hx hb d_Disk_findBlob_1 rfl hl (by decide) rfl (fun ls hl => ?_)
  refine x_loop (pc := 2) (α := Nat) (nL := 3) (fun i => (gN σ 36 64) - i) (fun i => σ) (fun i => [(2, .int (nI i)), (1, .int d), (0, .ref (ad 64))]) (fun i => i ≤ gN σ 36 64 ∧ ∀ j, j < i → (fun i => decide (gI σ 107 i = d)) j = false) ?_ 0 ⟨Nat.zero_le _, fun j hj => absurd hj (Nat.not_lt_zero j)⟩ hP hS (lv_sub hl [0, 2, 1] rfl)
  clear hP hS hl
  intro i ⟨hi, h0⟩ H locs ls hP hS hl ih
  have hi : i ≤ gN σ 36 64 := hi
  have hl : lv_has ls 3 [(2, .int (nI i)), (1, .int d), (0, .ref (ad 64))] := hl
  have hP : va_P D clX (wd (SC nw) ad dA (obC nw) σ) H := hP
  refine lv_iload_n hx hb d_Disk_findBlob_2 rfl (lv_at hl 0 rfl) ?_
  refine lv_aload_n hx hb d_Disk_findBlob_3 rfl (lv_at hl 2 rfl) ?_
  refine x_get (v := .int (nI (gN σ 36 64))) (k := 4) hx hb ht xc_Disk hown hK hP (mo (by decide)) rfl (by decide) fl_Disk_27 rfl rfl rfl d_Disk_findBlob_4 ?_
  refine x_icmp_geN (tgt := 28) hx hb d_Disk_findBlob_7 (by decide) (by omega) (by omega) (fun h1 => ?_) (fun h1 => ?_)
  · refine lv_iconst (v := ((-1))) hx hb d_Disk_findBlob_28 (by decide) ?_
    exact x_iret hx hb hr hlk hK hP hS d_Disk_findBlob_29 (by unfold fBlob; rw [fnd_none (fun j hj => h0 j (by omega))]; rfl) rfl
  · refine lv_aload_n hx hb d_Disk_findBlob_10 rfl (lv_at hl 2 rfl) ?_
    refine x_get (v := .ref (ad 65)) (k := 0) hx hb ht xc_Disk hown hK hP (mo (by decide)) rfl (by decide) fl_Disk_9 rfl rfl rfl d_Disk_findBlob_11 ?_
    refine lv_iload_n hx hb d_Disk_findBlob_14 rfl (lv_at hl 0 rfl) ?_
    refine x_iald (κ := 107) (n := 10) hx hb hK hP (mo (by decide)) rfl (by decide) rfl rfl (by omega) (by omega) d_Disk_findBlob_15 ?_
    refine lv_iload_n hx hb d_Disk_findBlob_16 rfl (lv_at hl 1 rfl) ?_
    refine lv_icmp_ne (tgt := 22) hx hb d_Disk_findBlob_17 (by decide) (fun h2 => ?_) (fun h2 => ?_)
    · refine lv_iinc (lv' := [(2, .int (nI (i + 1))), (1, .int d), (0, .ref (ad 64))]) (v := (nI (i + 1))) hx hb d_Disk_findBlob_22 hl (k := 0) rfl (nI_add _ _) (by decide) rfl (fun ls hl => ?_)
      refine lv_goto (tgt := 2) hx hb d_Disk_findBlob_25 (by decide) ?_
      exact ih (i + 1) ⟨by omega, lt_s h0 (decide_eq_false h2)⟩ (by omega) H locs ls hP hS (lv_sub hl [0, 1, 2] rfl)
    · refine lv_iload_n hx hb d_Disk_findBlob_20 rfl (lv_at hl 0 rfl) ?_
      exact x_iret hx hb hr hlk hK hP hS d_Disk_findBlob_21 (by unfold fBlob; rw [fnd_some (by omega) (decide_eq_true h2) h0]; rfl) rfl
set_option maxHeartbeats 4000000 in
set_option maxRecDepth 100000 in
theorem c_Disk_findResult (l : Launch) (D : va_G) (dA : Nat → ClassId) (ad : Nat → Nat) (nw : Nat) (hJ : Inj ad (obC nw)) (hnw : nw ≤ 4) (σ : Sg) (q : Nat) (hn : gN σ 37 64 ≤ 10) (hk_q : kdC q = 1) (hm_q : q ∈ obC nw) : CI l D clX (tyX dA) (SC nw) ad dA (obC nw) NL y_Disk_findResult w_Disk_findResult { frames := 1, cells := 0, slots := 0, locals := 21 } [.ref (ad 64), .ref (ad q)] σ ((oI (fRes σ q))) σ := by
  refine x_of (WS := WS) (cc := b_Disk_findResult) (maxL := 3) (ret := (some .int)) (by decide) rfl (Nat.le_of_ble_eq_true rfl) ?_
  intro pp ee ss mm below meth cdd hx hb hml hr hlk ht hown hnm hN hK hP ls hl
  have hl : lv_has ls 3 [(0, .ref (ad 64)), (1, .ref (ad q))] := hl
  have hS : va_S (Ad ad (obC nw)) ss.heap ss.heap [] := va_S.rf
  have hw := swfC hnw
  refine lv_iconst (v := (nI 0)) hx hb d_Disk_findResult_0 (by decide) ?_
  refine lv_istore_n (lv' := [(2, .int (nI 0)), (0, .ref (ad 64)), (1, .ref (ad q))]) hx hb d_Disk_findResult_1 rfl hl (by decide) rfl (fun ls hl => ?_)
  refine x_loop (pc := 2) (α := Nat) (nL := 3) (fun i => (gN σ 37 64) - i) (fun i => σ) (fun i => [(2, .int (nI i)), (1, .ref (ad q)), (0, .ref (ad 64))]) (fun i => i ≤ gN σ 37 64 ∧ ∀ j, j < i → (fun i => decide (kof σ (69 + i) = kof σ q)) j = false) ?_ 0 ⟨Nat.zero_le _, fun j hj => absurd hj (Nat.not_lt_zero j)⟩ hP hS (lv_sub hl [0, 2, 1] rfl)
  clear hP hS hl
  intro i ⟨hi, h0⟩ H locs ls hP hS hl ih
  have hi : i ≤ gN σ 37 64 := hi
  have hl : lv_has ls 3 [(2, .int (nI i)), (1, .ref (ad q)), (0, .ref (ad 64))] := hl
  have hP : va_P D clX (wd (SC nw) ad dA (obC nw) σ) H := hP
  refine lv_iload_n hx hb d_Disk_findResult_2 rfl (lv_at hl 0 rfl) ?_
  refine lv_aload_n hx hb d_Disk_findResult_3 rfl (lv_at hl 2 rfl) ?_
  refine x_get (v := .int (nI (gN σ 37 64))) (k := 5) hx hb ht xc_Disk hown hK hP (mo (by decide)) rfl (by decide) fl_Disk_31 rfl rfl rfl d_Disk_findResult_4 ?_
  refine x_icmp_geN (tgt := 31) hx hb d_Disk_findResult_7 (by decide) (by omega) (by omega) (fun h1 => ?_) (fun h1 => ?_)
  · refine lv_iconst (v := ((-1))) hx hb d_Disk_findResult_31 (by decide) ?_
    exact x_iret hx hb hr hlk hK hP hS d_Disk_findResult_32 (by unfold fRes; rw [fnd_none (fun j hj => h0 j (by omega))]; rfl) rfl
  · refine lv_aload_n hx hb d_Disk_findResult_10 rfl (lv_at hl 2 rfl) ?_
    refine x_get (v := .ref (ad 67)) (k := 2) hx hb ht xc_Disk hown hK hP (mo (by decide)) rfl (by decide) fl_Disk_20 rfl rfl rfl d_Disk_findResult_11 ?_
    refine lv_iload_n hx hb d_Disk_findResult_14 rfl (lv_at hl 0 rfl) ?_
    refine x_fald (κ := 109) (n := 10) hx hb hK hP (mo (by decide)) rfl (by decide) rfl rfl (by omega) (by omega) d_Disk_findResult_15 ?_
    refine W.eq (g2 := F0 mm 16 ls [.ref (ad (69 + i))]) rfl ?_
    refine lv_aload_n hx hb d_Disk_findResult_16 rfl (lv_at hl 1 rfl) ?_
    refine x_ci (x_rV (As := [.ref (ad q)]) (rest := []) hx hb hml hown ht gW cs_Disk_39 (c_Key_isSame l D dA ad nw hJ hnw σ (69 + i) q (kd_rk (by omega)) (mo (by omega)) hk_q hm_q) rfl rfl (by decide) xc_Key hN hK hP (mo (by omega)) (kd_rk (by omega)) rfl hl.1 rfl (Nat.le_of_ble_eq_true rfl) d_Disk_findResult_17 (by decide)) hS (fun H locs hP hS => ?_)
    refine x_ifeqB (tgt := 25) hx hb d_Disk_findResult_20 (by decide) (fun h2 => ?_) (fun h2 => ?_)
    · refine lv_iinc (lv' := [(2, .int (nI (i + 1))), (1, .ref (ad q)), (0, .ref (ad 64))]) (v := (nI (i + 1))) hx hb d_Disk_findResult_25 hl (k := 0) rfl (nI_add _ _) (by decide) rfl (fun ls hl => ?_)
      refine lv_goto (tgt := 2) hx hb d_Disk_findResult_28 (by decide) ?_
      exact ih (i + 1) ⟨by omega, lt_s h0 h2⟩ (by omega) H locs ls hP hS (lv_sub hl [0, 1, 2] rfl)
    · refine lv_iload_n hx hb d_Disk_findResult_23 rfl (lv_at hl 0 rfl) ?_
      exact x_iret hx hb hr hlk hK hP hS d_Disk_findResult_24 (by unfold fRes; rw [fnd_some (by omega) h2 h0]; rfl) rfl
set_option maxHeartbeats 4000000 in
set_option maxRecDepth 100000 in
theorem c_Queue_find (l : Launch) (D : va_G) (dA : Nat → ClassId) (ad : Nat → Nat) (nw : Nat) (hJ : Inj ad (obC nw)) (hnw : nw ≤ 4) (σ : Sg) (q : Nat) (hn : gN σ 39 79 ≤ 10) (hQ : ∀ i, i < 10 → kdC (gN σ 111 i) = 1 ∧ gN σ 111 i < 95) (hk_q : kdC q = 1) (hm_q : q ∈ obC nw) : CI l D clX (tyX dA) (SC nw) ad dA (obC nw) NL y_Queue_find w_Queue_find { frames := 1, cells := 0, slots := 0, locals := 21 } [.ref (ad 79), .ref (ad q)] σ ((oI (fQue σ q))) σ := by
  refine x_of (WS := WS) (cc := b_Queue_find) (maxL := 3) (ret := (some .int)) (by decide) rfl (Nat.le_of_ble_eq_true rfl) ?_
  intro pp ee ss mm below meth cdd hx hb hml hr hlk ht hown hnm hN hK hP ls hl
  have hl : lv_has ls 3 [(0, .ref (ad 79)), (1, .ref (ad q))] := hl
  have hS : va_S (Ad ad (obC nw)) ss.heap ss.heap [] := va_S.rf
  have hw := swfC hnw
  refine lv_iconst (v := (nI 0)) hx hb d_Queue_find_0 (by decide) ?_
  refine lv_istore_n (lv' := [(2, .int (nI 0)), (0, .ref (ad 79)), (1, .ref (ad q))]) hx hb d_Queue_find_1 rfl hl (by decide) rfl (fun ls hl => ?_)
  refine x_loop (pc := 2) (α := Nat) (nL := 3) (fun i => (gN σ 39 79) - i) (fun i => σ) (fun i => [(2, .int (nI i)), (1, .ref (ad q)), (0, .ref (ad 79))]) (fun i => i ≤ gN σ 39 79 ∧ ∀ j, j < i → (fun i => decide (kof σ (gN σ 111 i) = kof σ q)) j = false) ?_ 0 ⟨Nat.zero_le _, fun j hj => absurd hj (Nat.not_lt_zero j)⟩ hP hS (lv_sub hl [0, 2, 1] rfl)
  clear hP hS hl
  intro i ⟨hi, h0⟩ H locs ls hP hS hl ih
  have hi : i ≤ gN σ 39 79 := hi
  have hl : lv_has ls 3 [(2, .int (nI i)), (1, .ref (ad q)), (0, .ref (ad 79))] := hl
  have hP : va_P D clX (wd (SC nw) ad dA (obC nw) σ) H := hP
  refine lv_iload_n hx hb d_Queue_find_2 rfl (lv_at hl 0 rfl) ?_
  refine lv_aload_n hx hb d_Queue_find_3 rfl (lv_at hl 2 rfl) ?_
  refine x_get (v := .int (nI (gN σ 39 79))) (k := 1) hx hb ht xc_Queue hown hK hP (mo (by decide)) rfl (by decide) fl_Queue_17 rfl rfl rfl d_Queue_find_4 ?_
  refine x_icmp_geN (tgt := 31) hx hb d_Queue_find_7 (by decide) (by omega) (by omega) (fun h1 => ?_) (fun h1 => ?_)
  · refine lv_iconst (v := ((-1))) hx hb d_Queue_find_31 (by decide) ?_
    exact x_iret hx hb hr hlk hK hP hS d_Queue_find_32 (by unfold fQue; rw [fnd_none (fun j hj => h0 j (by omega))]; rfl) rfl
  · refine lv_aload_n hx hb d_Queue_find_10 rfl (lv_at hl 2 rfl) ?_
    refine x_get (v := .ref (ad 80)) (k := 0) hx hb ht xc_Queue hown hK hP (mo (by decide)) rfl (by decide) fl_Queue_11 rfl rfl rfl d_Queue_find_11 ?_
    refine lv_iload_n hx hb d_Queue_find_14 rfl (lv_at hl 0 rfl) ?_
    refine x_aald (κ := 111) (n := 10) hx hb hK hP (mo (by decide)) rfl (by decide) rfl rfl (by omega) (by omega) d_Queue_find_15 ?_
    refine lv_aload_n hx hb d_Queue_find_16 rfl (lv_at hl 1 rfl) ?_
    refine x_ci (x_rV (As := [.ref (ad q)]) (rest := []) hx hb hml hown ht gW cs_Queue_22 (c_Key_isSame l D dA ad nw hJ hnw σ (gN σ 111 i) q (hQ i (by omega)).1 (mo (Or.inl (hQ i (by omega)).2)) hk_q hm_q) rfl rfl (by decide) xc_Key hN hK hP (mo (Or.inl (hQ i (by omega)).2)) (hQ i (by omega)).1 rfl hl.1 rfl (Nat.le_of_ble_eq_true rfl) d_Queue_find_17 (by decide)) hS (fun H locs hP hS => ?_)
    refine x_ifeqB (tgt := 25) hx hb d_Queue_find_20 (by decide) (fun h2 => ?_) (fun h2 => ?_)
    · refine lv_iinc (lv' := [(2, .int (nI (i + 1))), (1, .ref (ad q)), (0, .ref (ad 79))]) (v := (nI (i + 1))) hx hb d_Queue_find_25 hl (k := 0) rfl (nI_add _ _) (by decide) rfl (fun ls hl => ?_)
      refine lv_goto (tgt := 2) hx hb d_Queue_find_28 (by decide) ?_
      exact ih (i + 1) ⟨by omega, lt_s h0 h2⟩ (by omega) H locs ls hP hS (lv_sub hl [0, 1, 2] rfl)
    · refine lv_iload_n hx hb d_Queue_find_23 rfl (lv_at hl 0 rfl) ?_
      exact x_iret hx hb hr hlk hK hP hS d_Queue_find_24 (by unfold fQue; rw [fnd_some (by omega) h2 h0]; rfl) rfl
