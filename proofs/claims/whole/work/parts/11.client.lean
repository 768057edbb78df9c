abbrev b_Client_addFile : ByteArray := prog_2_method_5_code
def y_Client_addFile : MethodName := ⟨"LeasedBuilds$Client", "addFile", "(I)I"⟩
def w_Client_addFile : List Cond := .code y_Client_addFile b_Client_addFile 2 (some .int) :: WS
abbrev b_Client_addAction : ByteArray := prog_2_method_6_code
def y_Client_addAction : MethodName := ⟨"LeasedBuilds$Client", "addAction", "(JII)I"⟩
def w_Client_addAction : List Cond := .code y_Client_addAction b_Client_addAction 5 (some .int) :: WS
abbrev b_Client_ask : ByteArray := prog_2_method_13_code
def y_Client_ask : MethodName := ⟨"LeasedBuilds$Client", "ask", "(II)V"⟩
def w_Client_ask : List Cond := .code y_Client_ask b_Client_ask 4 none :: WS
abbrev b_Client_put : ByteArray := prog_2_method_14_code
def y_Client_put : MethodName := ⟨"LeasedBuilds$Client", "put", "(I)V"⟩
def w_Client_put : List Cond := .code y_Client_put b_Client_put 3 none :: WS
abbrev b_Client_askForReady : ByteArray := prog_2_method_7_code
def y_Client_askForReady : MethodName := ⟨"LeasedBuilds$Client", "askForReady", "(I)V"⟩
def w_Client_askForReady : List Cond := .code y_Client_askForReady b_Client_askForReady 3 none :: WS
abbrev b_Client_takeLack : ByteArray := prog_2_method_8_code
def y_Client_takeLack : MethodName := ⟨"LeasedBuilds$Client", "takeLack", "(LLeasedBuilds$Message;I)V"⟩
def w_Client_takeLack : List Cond := .code y_Client_takeLack b_Client_takeLack 3 none :: WS
abbrev b_Client_takeAnswer : ByteArray := prog_2_method_9_code
def y_Client_takeAnswer : MethodName := ⟨"LeasedBuilds$Client", "takeAnswer", "(LLeasedBuilds$Message;)V"⟩
def w_Client_takeAnswer : List Cond := .code y_Client_takeAnswer b_Client_takeAnswer 3 none :: WS
theorem d_Client_addFile_0 : decode b_Client_addFile 0 = .ok (.aload_n 0, 1) := by decide +kernel
theorem d_Client_addFile_1 : decode b_Client_addFile 1 = .ok (.getfield 39, 3) := by decide +kernel
theorem d_Client_addFile_4 : decode b_Client_addFile 4 = .ok (.bipush 10, 2) := by decide +kernel
theorem d_Client_addFile_6 : decode b_Client_addFile 6 = .ok (.if_icmp .lt 5, 3) := by decide +kernel
theorem d_Client_addFile_9 : decode b_Client_addFile 9 = .ok (.iconst (-1), 1) := by decide +kernel
theorem d_Client_addFile_10 : decode b_Client_addFile 10 = .ok (.ireturn, 1) := by decide +kernel
theorem d_Client_addFile_11 : decode b_Client_addFile 11 = .ok (.aload_n 0, 1) := by decide +kernel
theorem d_Client_addFile_12 : decode b_Client_addFile 12 = .ok (.aload_n 0, 1) := by decide +kernel
theorem d_Client_addFile_13 : decode b_Client_addFile 13 = .ok (.getfield 39, 3) := by decide +kernel
theorem d_Client_addFile_16 : decode b_Client_addFile 16 = .ok (.iload_n 1, 1) := by decide +kernel
theorem d_Client_addFile_17 : decode b_Client_addFile 17 = .ok (.invokevirtual 51, 3) := by decide +kernel
theorem d_Client_addFile_20 : decode b_Client_addFile 20 = .ok (.aload_n 0, 1) := by decide +kernel
theorem d_Client_addFile_21 : decode b_Client_addFile 21 = .ok (.dup, 1) := by decide +kernel
theorem d_Client_addFile_22 : decode b_Client_addFile 22 = .ok (.getfield 39, 3) := by decide +kernel
theorem d_Client_addFile_25 : decode b_Client_addFile 25 = .ok (.iconst 1, 1) := by decide +kernel
theorem d_Client_addFile_26 : decode b_Client_addFile 26 = .ok (.iadd, 1) := by decide +kernel
theorem d_Client_addFile_27 : decode b_Client_addFile 27 = .ok (.putfield 39, 3) := by decide +kernel
theorem d_Client_addFile_30 : decode b_Client_addFile 30 = .ok (.aload_n 0, 1) := by decide +kernel
theorem d_Client_addFile_31 : decode b_Client_addFile 31 = .ok (.getfield 39, 3) := by decide +kernel
theorem d_Client_addFile_34 : decode b_Client_addFile 34 = .ok (.iconst 1, 1) := by decide +kernel
theorem d_Client_addFile_35 : decode b_Client_addFile 35 = .ok (.isub, 1) := by decide +kernel
theorem d_Client_addFile_36 : decode b_Client_addFile 36 = .ok (.ireturn, 1) := by decide +kernel
theorem d_Client_addAction_0 : decode b_Client_addAction 0 = .ok (.aload_n 0, 1) := by decide +kernel
theorem d_Client_addAction_1 : decode b_Client_addAction 1 = .ok (.getfield 39, 3) := by decide +kernel
theorem d_Client_addAction_4 : decode b_Client_addAction 4 = .ok (.bipush 10, 2) := by decide +kernel
theorem d_Client_addAction_6 : decode b_Client_addAction 6 = .ok (.if_icmp .ge 20, 3) := by decide +kernel
theorem d_Client_addAction_9 : decode b_Client_addAction 9 = .ok (.aload_n 0, 1) := by decide +kernel
theorem d_Client_addAction_10 : decode b_Client_addAction 10 = .ok (.iload_n 3, 1) := by decide +kernel
theorem d_Client_addAction_11 : decode b_Client_addAction 11 = .ok (.invokevirtual 47, 3) := by decide +kernel
theorem d_Client_addAction_14 : decode b_Client_addAction 14 = .ok (.ifCond .eq 12, 3) := by decide +kernel
theorem d_Client_addAction_17 : decode b_Client_addAction 17 = .ok (.aload_n 0, 1) := by decide +kernel
theorem d_Client_addAction_18 : decode b_Client_addAction 18 = .ok (.iload 4, 2) := by decide +kernel
theorem d_Client_addAction_20 : decode b_Client_addAction 20 = .ok (.invokevirtual 47, 3) := by decide +kernel
theorem d_Client_addAction_23 : decode b_Client_addAction 23 = .ok (.ifCond .ne 5, 3) := by decide +kernel
theorem d_Client_addAction_26 : decode b_Client_addAction 26 = .ok (.iconst (-1), 1) := by decide +kernel
theorem d_Client_addAction_27 : decode b_Client_addAction 27 = .ok (.ireturn, 1) := by decide +kernel
theorem d_Client_addAction_28 : decode b_Client_addAction 28 = .ok (.aload_n 0, 1) := by decide +kernel
theorem d_Client_addAction_29 : decode b_Client_addAction 29 = .ok (.getfield 19, 3) := by decide +kernel
theorem d_Client_addAction_32 : decode b_Client_addAction 32 = .ok (.aload_n 0, 1) := by decide +kernel
theorem d_Client_addAction_33 : decode b_Client_addAction 33 = .ok (.getfield 39, 3) := by decide +kernel
theorem d_Client_addAction_36 : decode b_Client_addAction 36 = .ok (.lload_n 1, 1) := by decide +kernel
theorem d_Client_addAction_37 : decode b_Client_addAction 37 = .ok (.lastore, 1) := by decide +kernel
theorem d_Client_addAction_38 : decode b_Client_addAction 38 = .ok (.aload_n 0, 1) := by decide +kernel
theorem d_Client_addAction_39 : decode b_Client_addAction 39 = .ok (.getfield 23, 3) := by decide +kernel
theorem d_Client_addAction_42 : decode b_Client_addAction 42 = .ok (.aload_n 0, 1) := by decide +kernel
theorem d_Client_addAction_43 : decode b_Client_addAction 43 = .ok (.getfield 39, 3) := by decide +kernel
theorem d_Client_addAction_46 : decode b_Client_addAction 46 = .ok (.iload_n 3, 1) := by decide +kernel
theorem d_Client_addAction_47 : decode b_Client_addAction 47 = .ok (.iastore, 1) := by decide +kernel
theorem d_Client_addAction_48 : decode b_Client_addAction 48 = .ok (.aload_n 0, 1) := by decide +kernel
theorem d_Client_addAction_49 : decode b_Client_addAction 49 = .ok (.getfield 26, 3) := by decide +kernel
theorem d_Client_addAction_52 : decode b_Client_addAction 52 = .ok (.aload_n 0, 1) := by decide +kernel
theorem d_Client_addAction_53 : decode b_Client_addAction 53 = .ok (.getfield 39, 3) := by decide +kernel
theorem d_Client_addAction_56 : decode b_Client_addAction 56 = .ok (.iload 4, 2) := by decide +kernel
theorem d_Client_addAction_58 : decode b_Client_addAction 58 = .ok (.iastore, 1) := by decide +kernel
theorem d_Client_addAction_59 : decode b_Client_addAction 59 = .ok (.aload_n 0, 1) := by decide +kernel
theorem d_Client_addAction_60 : decode b_Client_addAction 60 = .ok (.dup, 1) := by decide +kernel
theorem d_Client_addAction_61 : decode b_Client_addAction 61 = .ok (.getfield 39, 3) := by decide +kernel
theorem d_Client_addAction_64 : decode b_Client_addAction 64 = .ok (.iconst 1, 1) := by decide +kernel
theorem d_Client_addAction_65 : decode b_Client_addAction 65 = .ok (.iadd, 1) := by decide +kernel
theorem d_Client_addAction_66 : decode b_Client_addAction 66 = .ok (.putfield 39, 3) := by decide +kernel
theorem d_Client_addAction_69 : decode b_Client_addAction 69 = .ok (.aload_n 0, 1) := by decide +kernel
theorem d_Client_addAction_70 : decode b_Client_addAction 70 = .ok (.getfield 39, 3) := by decide +kernel
theorem d_Client_addAction_73 : decode b_Client_addAction 73 = .ok (.iconst 1, 1) := by decide +kernel
theorem d_Client_addAction_74 : decode b_Client_addAction 74 = .ok (.isub, 1) := by decide +kernel
theorem d_Client_addAction_75 : decode b_Client_addAction 75 = .ok (.ireturn, 1) := by decide +kernel
theorem d_Client_ask_0 : decode b_Client_ask 0 = .ok (.aload_n 0, 1) := by decide +kernel
theorem d_Client_ask_1 : decode b_Client_ask 1 = .ok (.getfield 43, 3) := by decide +kernel
theorem d_Client_ask_4 : decode b_Client_ask 4 = .ok (.iconst 1, 1) := by decide +kernel
theorem d_Client_ask_5 : decode b_Client_ask 5 = .ok (.iconst 0, 1) := by decide +kernel
theorem d_Client_ask_6 : decode b_Client_ask 6 = .ok (.invokevirtual 99, 3) := by decide +kernel
theorem d_Client_ask_9 : decode b_Client_ask 9 = .ok (.astore_n 3, 1) := by decide +kernel
theorem d_Client_ask_10 : decode b_Client_ask 10 = .ok (.aload_n 3, 1) := by decide +kernel
theorem d_Client_ask_11 : decode b_Client_ask 11 = .ok (.iload_n 1, 1) := by decide +kernel
theorem d_Client_ask_12 : decode b_Client_ask 12 = .ok (.putfield 61, 3) := by decide +kernel
theorem d_Client_ask_15 : decode b_Client_ask 15 = .ok (.aload_n 0, 1) := by decide +kernel
theorem d_Client_ask_16 : decode b_Client_ask 16 = .ok (.iload_n 1, 1) := by decide +kernel
theorem d_Client_ask_17 : decode b_Client_ask 17 = .ok (.aload_n 3, 1) := by decide +kernel
theorem d_Client_ask_18 : decode b_Client_ask 18 = .ok (.getfield 81, 3) := by decide +kernel
theorem d_Client_ask_21 : decode b_Client_ask 21 = .ok (.invokevirtual 77, 3) := by decide +kernel
theorem d_Client_ask_24 : decode b_Client_ask 24 = .ok (.aload_n 0, 1) := by decide +kernel
theorem d_Client_ask_25 : decode b_Client_ask 25 = .ok (.getfield 29, 3) := by decide +kernel
theorem d_Client_ask_28 : decode b_Client_ask 28 = .ok (.iload_n 1, 1) := by decide +kernel
theorem d_Client_ask_29 : decode b_Client_ask 29 = .ok (.iload_n 2, 1) := by decide +kernel
theorem d_Client_ask_30 : decode b_Client_ask 30 = .ok (.iconst 5, 1) := by decide +kernel
theorem d_Client_ask_31 : decode b_Client_ask 31 = .ok (.iadd, 1) := by decide +kernel
theorem d_Client_ask_32 : decode b_Client_ask 32 = .ok (.iastore, 1) := by decide +kernel
theorem d_Client_ask_33 : decode b_Client_ask 33 = .ok (.return_, 1) := by decide +kernel
theorem d_Client_put_0 : decode b_Client_put 0 = .ok (.aload_n 0, 1) := by decide +kernel
theorem d_Client_put_1 : decode b_Client_put 1 = .ok (.getfield 43, 3) := by decide +kernel
theorem d_Client_put_4 : decode b_Client_put 4 = .ok (.iconst 3, 1) := by decide +kernel
theorem d_Client_put_5 : decode b_Client_put 5 = .ok (.iconst 0, 1) := by decide +kernel
theorem d_Client_put_6 : decode b_Client_put 6 = .ok (.invokevirtual 99, 3) := by decide +kernel
theorem d_Client_put_9 : decode b_Client_put 9 = .ok (.astore_n 2, 1) := by decide +kernel
theorem d_Client_put_10 : decode b_Client_put 10 = .ok (.aload_n 2, 1) := by decide +kernel
theorem d_Client_put_11 : decode b_Client_put 11 = .ok (.iload_n 1, 1) := by decide +kernel
theorem d_Client_put_12 : decode b_Client_put 12 = .ok (.invokestatic 91, 3) := by decide +kernel
theorem d_Client_put_15 : decode b_Client_put 15 = .ok (.putfield 105, 3) := by decide +kernel
theorem d_Client_put_18 : decode b_Client_put 18 = .ok (.aload_n 2, 1) := by decide +kernel
theorem d_Client_put_19 : decode b_Client_put 19 = .ok (.iload_n 1, 1) := by decide +kernel
theorem d_Client_put_20 : decode b_Client_put 20 = .ok (.putfield 88, 3) := by decide +kernel
theorem d_Client_put_23 : decode b_Client_put 23 = .ok (.return_, 1) := by decide +kernel
theorem d_Client_askForReady_0 : decode b_Client_askForReady 0 = .ok (.iconst 0, 1) := by decide +kernel
theorem d_Client_askForReady_1 : decode b_Client_askForReady 1 = .ok (.istore_n 2, 1) := by decide +kernel
theorem d_Client_askForReady_2 : decode b_Client_askForReady 2 = .ok (.iload_n 2, 1) := by decide +kernel
theorem d_Client_askForReady_3 : decode b_Client_askForReady 3 = .ok (.aload_n 0, 1) := by decide +kernel
theorem d_Client_askForReady_4 : decode b_Client_askForReady 4 = .ok (.getfield 39, 3) := by decide +kernel
theorem d_Client_askForReady_7 : decode b_Client_askForReady 7 = .ok (.if_icmp .ge 33, 3) := by decide +kernel
theorem d_Client_askForReady_10 : decode b_Client_askForReady 10 = .ok (.aload_n 0, 1) := by decide +kernel
theorem d_Client_askForReady_11 : decode b_Client_askForReady 11 = .ok (.iload_n 2, 1) := by decide +kernel
theorem d_Client_askForReady_12 : decode b_Client_askForReady 12 = .ok (.invokevirtual 55, 3) := by decide +kernel
theorem d_Client_askForReady_15 : decode b_Client_askForReady 15 = .ok (.ifCond .eq 19, 3) := by decide +kernel
theorem d_Client_askForReady_18 : decode b_Client_askForReady 18 = .ok (.iload_n 1, 1) := by decide +kernel
theorem d_Client_askForReady_19 : decode b_Client_askForReady 19 = .ok (.aload_n 0, 1) := by decide +kernel
theorem d_Client_askForReady_20 : decode b_Client_askForReady 20 = .ok (.getfield 29, 3) := by decide +kernel
theorem d_Client_askForReady_23 : decode b_Client_askForReady 23 = .ok (.iload_n 2, 1) := by decide +kernel
theorem d_Client_askForReady_24 : decode b_Client_askForReady 24 = .ok (.iaload, 1) := by decide +kernel
theorem d_Client_askForReady_25 : decode b_Client_askForReady 25 = .ok (.if_icmp .lt 9, 3) := by decide +kernel
theorem d_Client_askForReady_28 : decode b_Client_askForReady 28 = .ok (.aload_n 0, 1) := by decide +kernel
theorem d_Client_askForReady_29 : decode b_Client_askForReady 29 = .ok (.iload_n 2, 1) := by decide +kernel
theorem d_Client_askForReady_30 : decode b_Client_askForReady 30 = .ok (.iload_n 1, 1) := by decide +kernel
theorem d_Client_askForReady_31 : decode b_Client_askForReady 31 = .ok (.invokevirtual 58, 3) := by decide +kernel
theorem d_Client_askForReady_34 : decode b_Client_askForReady 34 = .ok (.iinc 2 1, 3) := by decide +kernel
theorem d_Client_askForReady_37 : decode b_Client_askForReady 37 = .ok (.goto (-35), 3) := by decide +kernel
theorem d_Client_askForReady_40 : decode b_Client_askForReady 40 = .ok (.return_, 1) := by decide +kernel
theorem d_Client_takeLack_0 : decode b_Client_takeLack 0 = .ok (.aload_n 0, 1) := by decide +kernel
theorem d_Client_takeLack_1 : decode b_Client_takeLack 1 = .ok (.aload_n 1, 1) := by decide +kernel
theorem d_Client_takeLack_2 : decode b_Client_takeLack 2 = .ok (.getfield 61, 3) := by decide +kernel
theorem d_Client_takeLack_5 : decode b_Client_takeLack 5 = .ok (.invokevirtual 47, 3) := by decide +kernel
theorem d_Client_takeLack_8 : decode b_Client_takeLack 8 = .ok (.ifCond .eq 15, 3) := by decide +kernel
theorem d_Client_takeLack_11 : decode b_Client_takeLack 11 = .ok (.aload_n 0, 1) := by decide +kernel
theorem d_Client_takeLack_12 : decode b_Client_takeLack 12 = .ok (.getfield 9, 3) := by decide +kernel
theorem d_Client_takeLack_15 : decode b_Client_takeLack 15 = .ok (.aload_n 1, 1) := by decide +kernel
theorem d_Client_takeLack_16 : decode b_Client_takeLack 16 = .ok (.getfield 61, 3) := by decide +kernel
theorem d_Client_takeLack_19 : decode b_Client_takeLack 19 = .ok (.baload, 1) := by decide +kernel
theorem d_Client_takeLack_20 : decode b_Client_takeLack 20 = .ok (.ifCond .eq 4, 3) := by decide +kernel
theorem d_Client_takeLack_23 : decode b_Client_takeLack 23 = .ok (.return_, 1) := by decide +kernel
theorem d_Client_takeLack_24 : decode b_Client_takeLack 24 = .ok (.aload_n 1, 1) := by decide +kernel
theorem d_Client_takeLack_25 : decode b_Client_takeLack 25 = .ok (.getfield 66, 3) := by decide +kernel
theorem d_Client_takeLack_28 : decode b_Client_takeLack 28 = .ok (.ifCond .eq 21, 3) := by decide +kernel
theorem d_Client_takeLack_31 : decode b_Client_takeLack 31 = .ok (.aload_n 0, 1) := by decide +kernel
theorem d_Client_takeLack_32 : decode b_Client_takeLack 32 = .ok (.aload_n 0, 1) := by decide +kernel
theorem d_Client_takeLack_33 : decode b_Client_takeLack 33 = .ok (.getfield 15, 3) := by decide +kernel
theorem d_Client_takeLack_36 : decode b_Client_takeLack 36 = .ok (.aload_n 0, 1) := by decide +kernel
theorem d_Client_takeLack_37 : decode b_Client_takeLack 37 = .ok (.getfield 23, 3) := by decide +kernel
theorem d_Client_takeLack_40 : decode b_Client_takeLack 40 = .ok (.aload_n 1, 1) := by decide +kernel
theorem d_Client_takeLack_41 : decode b_Client_takeLack 41 = .ok (.getfield 61, 3) := by decide +kernel
theorem d_Client_takeLack_44 : decode b_Client_takeLack 44 = .ok (.iaload, 1) := by decide +kernel
theorem d_Client_takeLack_45 : decode b_Client_takeLack 45 = .ok (.iaload, 1) := by decide +kernel
theorem d_Client_takeLack_46 : decode b_Client_takeLack 46 = .ok (.invokevirtual 70, 3) := by decide +kernel
theorem d_Client_takeLack_49 : decode b_Client_takeLack 49 = .ok (.aload_n 1, 1) := by decide +kernel
theorem d_Client_takeLack_50 : decode b_Client_takeLack 50 = .ok (.getfield 74, 3) := by decide +kernel
theorem d_Client_takeLack_53 : decode b_Client_takeLack 53 = .ok (.ifCond .eq 21, 3) := by decide +kernel
theorem d_Client_takeLack_56 : decode b_Client_takeLack 56 = .ok (.aload_n 0, 1) := by decide +kernel
theorem d_Client_takeLack_57 : decode b_Client_takeLack 57 = .ok (.aload_n 0, 1) := by decide +kernel
theorem d_Client_takeLack_58 : decode b_Client_takeLack 58 = .ok (.getfield 15, 3) := by decide +kernel
theorem d_Client_takeLack_61 : decode b_Client_takeLack 61 = .ok (.aload_n 0, 1) := by decide +kernel
theorem d_Client_takeLack_62 : decode b_Client_takeLack 62 = .ok (.getfield 26, 3) := by decide +kernel
theorem d_Client_takeLack_65 : decode b_Client_takeLack 65 = .ok (.aload_n 1, 1) := by decide +kernel
theorem d_Client_takeLack_66 : decode b_Client_takeLack 66 = .ok (.getfield 61, 3) := by decide +kernel
theorem d_Client_takeLack_69 : decode b_Client_takeLack 69 = .ok (.iaload, 1) := by decide +kernel
theorem d_Client_takeLack_70 : decode b_Client_takeLack 70 = .ok (.iaload, 1) := by decide +kernel
theorem d_Client_takeLack_71 : decode b_Client_takeLack 71 = .ok (.invokevirtual 70, 3) := by decide +kernel
theorem d_Client_takeLack_74 : decode b_Client_takeLack 74 = .ok (.aload_n 0, 1) := by decide +kernel
theorem d_Client_takeLack_75 : decode b_Client_takeLack 75 = .ok (.aload_n 1, 1) := by decide +kernel
theorem d_Client_takeLack_76 : decode b_Client_takeLack 76 = .ok (.getfield 61, 3) := by decide +kernel
theorem d_Client_takeLack_79 : decode b_Client_takeLack 79 = .ok (.iload_n 2, 1) := by decide +kernel
theorem d_Client_takeLack_80 : decode b_Client_takeLack 80 = .ok (.invokevirtual 58, 3) := by decide +kernel
theorem d_Client_takeLack_83 : decode b_Client_takeLack 83 = .ok (.return_, 1) := by decide +kernel
theorem d_Client_takeAnswer_0 : decode b_Client_takeAnswer 0 = .ok (.iconst 0, 1) := by decide +kernel
theorem d_Client_takeAnswer_1 : decode b_Client_takeAnswer 1 = .ok (.istore_n 2, 1) := by decide +kernel
theorem d_Client_takeAnswer_2 : decode b_Client_takeAnswer 2 = .ok (.iload_n 2, 1) := by decide +kernel
theorem d_Client_takeAnswer_3 : decode b_Client_takeAnswer 3 = .ok (.aload_n 0, 1) := by decide +kernel
theorem d_Client_takeAnswer_4 : decode b_Client_takeAnswer 4 = .ok (.getfield 39, 3) := by decide +kernel
theorem d_Client_takeAnswer_7 : decode b_Client_takeAnswer 7 = .ok (.if_icmp .ge 49, 3) := by decide +kernel
theorem d_Client_takeAnswer_10 : decode b_Client_takeAnswer 10 = .ok (.aload_n 0, 1) := by decide +kernel
theorem d_Client_takeAnswer_11 : decode b_Client_takeAnswer 11 = .ok (.iload_n 2, 1) := by decide +kernel
theorem d_Client_takeAnswer_12 : decode b_Client_takeAnswer 12 = .ok (.invokevirtual 55, 3) := by decide +kernel
theorem d_Client_takeAnswer_15 : decode b_Client_takeAnswer 15 = .ok (.ifCond .eq 35, 3) := by decide +kernel
theorem d_Client_takeAnswer_18 : decode b_Client_takeAnswer 18 = .ok (.aload_n 0, 1) := by decide +kernel
theorem d_Client_takeAnswer_19 : decode b_Client_takeAnswer 19 = .ok (.iload_n 2, 1) := by decide +kernel
theorem d_Client_takeAnswer_20 : decode b_Client_takeAnswer 20 = .ok (.aload_n 0, 1) := by decide +kernel
theorem d_Client_takeAnswer_21 : decode b_Client_takeAnswer 21 = .ok (.getfield 35, 3) := by decide +kernel
theorem d_Client_takeAnswer_24 : decode b_Client_takeAnswer 24 = .ok (.invokevirtual 77, 3) := by decide +kernel
theorem d_Client_takeAnswer_27 : decode b_Client_takeAnswer 27 = .ok (.aload_n 0, 1) := by decide +kernel
theorem d_Client_takeAnswer_28 : decode b_Client_takeAnswer 28 = .ok (.getfield 35, 3) := by decide +kernel
theorem d_Client_takeAnswer_31 : decode b_Client_takeAnswer 31 = .ok (.aload_n 1, 1) := by decide +kernel
theorem d_Client_takeAnswer_32 : decode b_Client_takeAnswer 32 = .ok (.getfield 81, 3) := by decide +kernel
theorem d_Client_takeAnswer_35 : decode b_Client_takeAnswer 35 = .ok (.invokevirtual 84, 3) := by decide +kernel
theorem d_Client_takeAnswer_38 : decode b_Client_takeAnswer 38 = .ok (.ifCond .eq 12, 3) := by decide +kernel
theorem d_Client_takeAnswer_41 : decode b_Client_takeAnswer 41 = .ok (.aload_n 0, 1) := by decide +kernel
theorem d_Client_takeAnswer_42 : decode b_Client_takeAnswer 42 = .ok (.iload_n 2, 1) := by decide +kernel
theorem d_Client_takeAnswer_43 : decode b_Client_takeAnswer 43 = .ok (.aload_n 1, 1) := by decide +kernel
theorem d_Client_takeAnswer_44 : decode b_Client_takeAnswer 44 = .ok (.getfield 88, 3) := by decide +kernel
theorem d_Client_takeAnswer_47 : decode b_Client_takeAnswer 47 = .ok (.invokevirtual 51, 3) := by decide +kernel
theorem d_Client_takeAnswer_50 : decode b_Client_takeAnswer 50 = .ok (.iinc 2 1, 3) := by decide +kernel
theorem d_Client_takeAnswer_53 : decode b_Client_takeAnswer 53 = .ok (.goto (-51), 3) := by decide +kernel
theorem d_Client_takeAnswer_56 : decode b_Client_takeAnswer 56 = .ok (.return_, 1) := by decide +kernel
theorem cs_Client_51 : CwV WS "LeasedBuilds$Client" 51 "LeasedBuilds$Client" y_Client_learn b_Client_learn 3 none 2 := ⟨⟨ms (i := 343) (by decide +kernel) rfl, ms (i := 340) (by decide +kernel) rfl, ms (i := 342) (by decide +kernel) rfl, mp (i := 0) (by decide +kernel) rfl, ms (i := 5) (by decide +kernel) rfl⟩, by decide +kernel⟩
theorem fl_Client_43 : Cond.fieldLink "LeasedBuilds$Client" 43 "LeasedBuilds$Client" "flight" "LLeasedBuilds$Flight;" ∈ WS := ms (i := 126) (by decide +kernel) rfl
theorem cs_Client_99 : CwV WS "LeasedBuilds$Client" 99 "LeasedBuilds$Flight" y_Flight_send b_Flight_send 4 (some (.object "LeasedBuilds$Message")) 2 := ⟨⟨ms (i := 371) (by decide +kernel) rfl, ms (i := 469) (by decide +kernel) rfl, ms (i := 369) (by decide +kernel) rfl, ms (i := 370) (by decide +kernel) rfl, ms (i := 2) (by decide +kernel) rfl⟩, by decide +kernel⟩
theorem fl_Client_61 : Cond.fieldLink "LeasedBuilds$Client" 61 "LeasedBuilds$Message" "item" "I" ∈ WS := ms (i := 64) (by decide +kernel) rfl
theorem fl_Client_81 : Cond.fieldLink "LeasedBuilds$Client" 81 "LeasedBuilds$Message" "key" "LLeasedBuilds$Key;" ∈ WS := ms (i := 58) (by decide +kernel) rfl
theorem cs_Client_77 : CwV WS "LeasedBuilds$Client" 77 "LeasedBuilds$Client" y_Client_writeKey b_Client_writeKey 3 none 2 := ⟨⟨ms (i := 473) (by decide +kernel) rfl, ms (i := 470) (by decide +kernel) rfl, ms (i := 472) (by decide +kernel) rfl, mp (i := 9) (by decide +kernel) rfl, ms (i := 5) (by decide +kernel) rfl⟩, by decide +kernel⟩
theorem fl_Client_29 : Cond.fieldLink "LeasedBuilds$Client" 29 "LeasedBuilds$Client" "nextAsk" "[I" ∈ WS := ms (i := 133) (by decide +kernel) rfl
theorem fl_Client_105 : Cond.fieldLink "LeasedBuilds$Client" 105 "LeasedBuilds$Message" "digest" "I" ∈ WS := ms (i := 72) (by decide +kernel) rfl
theorem fl_Client_88 : Cond.fieldLink "LeasedBuilds$Client" 88 "LeasedBuilds$Message" "first" "I" ∈ WS := ms (i := 77) (by decide +kernel) rfl
theorem cs_Client_55 : CwV WS "LeasedBuilds$Client" 55 "LeasedBuilds$Client" y_Client_isReady b_Client_isReady 2 (some .boolean) 1 := ⟨⟨ms (i := 464) (by decide +kernel) rfl, ms (i := 461) (by decide +kernel) rfl, ms (i := 463) (by decide +kernel) rfl, mp (i := 7) (by decide +kernel) rfl, ms (i := 5) (by decide +kernel) rfl⟩, by decide +kernel⟩
theorem cs_Client_58 : CwV WS "LeasedBuilds$Client" 58 "LeasedBuilds$Client" y_Client_ask b_Client_ask 4 none 2 := ⟨⟨ms (i := 468) (by decide +kernel) rfl, ms (i := 465) (by decide +kernel) rfl, ms (i := 467) (by decide +kernel) rfl, mp (i := 8) (by decide +kernel) rfl, ms (i := 5) (by decide +kernel) rfl⟩, by decide +kernel⟩
theorem fl_Client_66 : Cond.fieldLink "LeasedBuilds$Client" 66 "LeasedBuilds$Message" "lacksA" "Z" ∈ WS := ms (i := 66) (by decide +kernel) rfl
theorem cs_Client_70 : CwV WS "LeasedBuilds$Client" 70 "LeasedBuilds$Client" y_Client_put b_Client_put 3 none 1 := ⟨⟨ms (i := 551) (by decide +kernel) rfl, ms (i := 548) (by decide +kernel) rfl, ms (i := 550) (by decide +kernel) rfl, mp (i := 15) (by decide +kernel) rfl, ms (i := 5) (by decide +kernel) rfl⟩, by decide +kernel⟩
theorem fl_Client_74 : Cond.fieldLink "LeasedBuilds$Client" 74 "LeasedBuilds$Message" "lacksB" "Z" ∈ WS := ms (i := 68) (by decide +kernel) rfl
theorem fl_Client_35 : Cond.fieldLink "LeasedBuilds$Client" 35 "LeasedBuilds$Client" "scratch" "LLeasedBuilds$Key;" ∈ WS := ms (i := 134) (by decide +kernel) rfl
theorem cs_Client_84 : CwV WS "LeasedBuilds$Client" 84 "LeasedBuilds$Key" y_Key_isSame b_Key_isSame 2 (some .boolean) 1 := ⟨⟨ms (i := 520) (by decide +kernel) rfl, ms (i := 590) (by decide +kernel) rfl, ms (i := 518) (by decide +kernel) rfl, ms (i := 519) (by decide +kernel) rfl, ms (i := 4) (by decide +kernel) rfl⟩, by decide +kernel⟩
set_option maxHeartbeats 4000000 in
set_option maxRecDepth 100000 in
theorem c_Client_addFile (l : Launch) (D : va_G) (dA : Nat → ClassId) (ad : Nat → Nat) (nw : Nat) (hJ : Inj ad (obC nw)) (hnw : nw ≤ 4) (σ : Sg) (c : Int32) (hWf : Wf nw σ) : CI l D clX (tyX dA) (SC nw) ad dA (obC nw) NL y_Client_addFile w_Client_addFile { frames := 1, cells := 0, slots := 0, locals := 22 } [.ref (ad 55), .int c] σ ((if gN σ 31 55 < 10 then nI (gN σ 31 55) else -1)) (cFile σ c) := by
  refine x_of (WS := WS) (cc := b_Client_addFile) (maxL := 2) (ret := (some .int)) (by decide) rfl (Nat.le_of_ble_eq_true rfl) ?_
  intro pp ee ss mm below meth cdd hx hb hml hr hlk ht hown hnm hN hK hP ls hl
  have hl : lv_has ls 2 [(0, .ref (ad 55)), (1, .int c)] := hl
  have hS : va_S (Ad ad (obC nw)) ss.heap ss.heap [] := va_S.rf
  have hw := swfC hnw
  have hWn := hWf.n
  have hWq := hWf.q
  have hWit := hWf.it
  have hWbl := hWf.bl
  have hWrs := hWf.rs
  have hWlt := hWf.lt
  have hWln := hWf.ln
  refine lv_aload_n hx hb d_Client_addFile_0 rfl (lv_at hl 0 rfl) ?_
  refine x_get (v := .int (nI (gN σ 31 55))) (k := 8) hx hb ht xc_Client hown hK hP (mo (by decide)) rfl (by decide) fl_Client_39 rfl rfl rfl d_Client_addFile_1 ?_
  refine lv_bipush (v := (nI 10)) hx hb d_Client_addFile_4 (by decide) ?_
  refine x_icmp_ltN (tgt := 11) hx hb d_Client_addFile_6 (by decide) (by omega) (by decide) (fun h1 => ?_) (fun h1 => ?_)
  · refine lv_aload_n hx hb d_Client_addFile_11 rfl (lv_at hl 0 rfl) ?_
    refine lv_aload_n hx hb d_Client_addFile_12 rfl (lv_at hl 0 rfl) ?_
    refine x_get (v := .int (nI (gN σ 31 55))) (k := 8) hx hb ht xc_Client hown hK hP (mo (by decide)) rfl (by decide) fl_Client_39 rfl rfl rfl d_Client_addFile_13 ?_
    refine lv_iload_n hx hb d_Client_addFile_16 rfl (lv_at hl 1 rfl) ?_
    refine x_cv (x_rV (As := [.int (nI (gN σ 31 55)), .int c]) (rest := []) hx hb hml hown ht gW cs_Client_51 (c_Client_learn l D dA ad nw hJ hnw σ (gN σ 31 55) c (by omega)) rfl rfl (by decide) xc_Client hN hK hP (mo (by decide)) rfl rfl hl.1 rfl (Nat.le_of_ble_eq_true rfl) d_Client_addFile_17 (by decide)) hS (fun H locs hP hS => ?_)
    have hWf : Wf nw (cLearn σ (gN σ 31 55) c) := wf_learn hWf
    refine lv_aload_n hx hb d_Client_addFile_20 rfl (lv_at hl 0 rfl) ?_
    refine lv_dup hx hb d_Client_addFile_21 rfl ?_
    refine x_get (v := .int (nI (gN σ 31 55))) (k := 8) hx hb ht xc_Client hown hK hP (mo (by decide)) rfl (by decide) fl_Client_39 rfl rfl rfl d_Client_addFile_22 ?_
    refine lv_iconst (v := (nI 1)) hx hb d_Client_addFile_25 (by decide) ?_
    refine x_iaddN hx hb d_Client_addFile_26 ?_
    refine x_put (σ' := sN (cLearn σ (gN σ 31 55) c) 31 55 ((gN σ 31 55) + 1)) (v := .int (nI ((gN σ 31 55) + 1))) (k := 8) hx hb ht xc_Client t_Client t_Client_ok n_Client hown hK hP hJ hw hS (mo (by decide)) rfl (by decide) fl_Client_39 rfl rfl rfl off_N rfl rfl rfl d_Client_addFile_27 (fun H locs hP hS => ?_)
    have hWf : Wf nw (sN (cLearn σ (gN σ 31 55) c) 31 55 ((gN σ 31 55) + 1)) := wf_31 hWf (by omega)
    refine lv_aload_n hx hb d_Client_addFile_30 rfl (lv_at hl 0 rfl) ?_
    refine x_get (v := .int (nI ((gN σ 31 55) + 1))) (k := 8) hx hb ht xc_Client hown hK hP (mo (by decide)) rfl (by decide) fl_Client_39 rfl rfl rfl d_Client_addFile_31 ?_
    refine lv_iconst (v := (nI 1)) hx hb d_Client_addFile_34 (by decide) ?_
    refine x_isubN hx hb d_Client_addFile_35 (by omega) ?_
    refine W.eq (g2 := F0 mm 36 ls [.int (nI ((gN σ 31 55)))]) rfl ?_
    exact x_iret hx hb hr hlk hK hP hS d_Client_addFile_36 (by rw [if_pos h1]) (by unfold cFile; rw [if_pos h1])
  · refine lv_iconst (v := ((-1))) hx hb d_Client_addFile_9 (by decide) ?_
    exact x_iret hx hb hr hlk hK hP hS d_Client_addFile_10 (by rw [if_neg (by omega)]) (by unfold cFile; rw [if_neg (by omega)])
set_option maxHeartbeats 4000000 in
set_option maxRecDepth 100000 in
theorem c_Client_addAction (l : Launch) (D : va_G) (dA : Nat → ClassId) (ad : Nat → Nat) (nw : Nat) (hJ : Inj ad (obC nw)) (hnw : nw ≤ 4) (σ : Sg) (p : Int64) (a : Int32) (b : Int32) (hWf : Wf nw σ) : CI l D clX (tyX dA) (SC nw) ad dA (obC nw) NL y_Client_addAction w_Client_addAction { frames := 1, cells := 0, slots := 0, locals := 21 } [.ref (ad 55), .long p, .int a, .int b] σ ((if cActOk σ a b = true then nI (gN σ 31 55) else -1)) (cAct σ p a b) := by
  refine x_of (WS := WS) (cc := b_Client_addAction) (maxL := 5) (ret := (some .int)) (by decide) rfl (Nat.le_of_ble_eq_true rfl) ?_
  intro pp ee ss mm below meth cdd hx hb hml hr hlk ht hown hnm hN hK hP ls hl
  have hl : lv_has ls 5 [(0, .ref (ad 55)), (1, .long p), (3, .int a), (4, .int b)] := hl
  have hS : va_S (Ad ad (obC nw)) ss.heap ss.heap [] := va_S.rf
  have hw := swfC hnw
  have hWn := hWf.n
  have hWq := hWf.q
  have hWit := hWf.it
  have hWbl := hWf.bl
  have hWrs := hWf.rs
  have hWlt := hWf.lt
  have hWln := hWf.ln
  refine lv_aload_n hx hb d_Client_addAction_0 rfl (lv_at hl 0 rfl) ?_
  refine x_get (v := .int (nI (gN σ 31 55))) (k := 8) hx hb ht xc_Client hown hK hP (mo (by decide)) rfl (by decide) fl_Client_39 rfl rfl rfl d_Client_addAction_1 ?_
  refine lv_bipush (v := (nI 10)) hx hb d_Client_addAction_4 (by decide) ?_
  refine x_icmp_geN (tgt := 26) hx hb d_Client_addAction_6 (by decide) (by omega) (by decide) (fun h1 => ?_) (fun h1 => ?_)
  · refine lv_iconst (v := ((-1))) hx hb d_Client_addAction_26 (by decide) ?_
    exact x_iret hx hb hr hlk hK hP hS d_Client_addAction_27 (by rw [if_neg (by unfold cActOk; simp [show ¬ gN σ 31 55 < 10 by omega])]) (by unfold cAct; rw [if_neg (by unfold cActOk; simp [show ¬ gN σ 31 55 < 10 by omega])])
  · refine lv_aload_n hx hb d_Client_addAction_9 rfl (lv_at hl 0 rfl) ?_
    refine lv_iload_n hx hb d_Client_addAction_10 rfl (lv_at hl 2 rfl) ?_
    refine x_ci (x_rV (As := [.int a]) (rest := []) hx hb hml hown ht gW cs_Client_47 (c_Client_isItem l D dA ad nw hJ hnw σ a hWf.it) rfl rfl (by decide) xc_Client hN hK hP (mo (by decide)) rfl rfl hl.1 rfl (Nat.le_of_ble_eq_true rfl) d_Client_addAction_11 (by decide)) hS (fun H locs hP hS => ?_)
    refine x_ifeqB (tgt := 26) hx hb d_Client_addAction_14 (by decide) (fun h2 => ?_) (fun h2 => ?_)
    · refine lv_iconst (v := ((-1))) hx hb d_Client_addAction_26 (by decide) ?_
      exact x_iret hx hb hr hlk hK hP hS d_Client_addAction_27 (by rw [if_neg (by unfold cActOk; simp [h2])]) (by unfold cAct; rw [if_neg (by unfold cActOk; simp [h2])])
    · refine lv_aload_n hx hb d_Client_addAction_17 rfl (lv_at hl 0 rfl) ?_
      refine lv_iload hx hb d_Client_addAction_18 (lv_at hl 3 rfl) ?_
      refine x_ci (x_rV (As := [.int b]) (rest := []) hx hb hml hown ht gW cs_Client_47 (c_Client_isItem l D dA ad nw hJ hnw σ b hWf.it) rfl rfl (by decide) xc_Client hN hK hP (mo (by decide)) rfl rfl hl.1 rfl (Nat.le_of_ble_eq_true rfl) d_Client_addAction_20 (by decide)) hS (fun H locs hP hS => ?_)
      refine x_ifneB (tgt := 28) hx hb d_Client_addAction_23 (by decide) (fun h3 => ?_) (fun h3 => ?_)
      · obtain ⟨ja, hja, rfl⟩ := inR_of (by omega) h2
        obtain ⟨jb, hjb, rfl⟩ := inR_of (by omega) h3
        refine lv_aload_n hx hb d_Client_addAction_28 rfl (lv_at hl 0 rfl) ?_
        refine x_get (v := .ref (ad 58)) (k := 3) hx hb ht xc_Client hown hK hP (mo (by decide)) rfl (by decide) fl_Client_19 rfl rfl rfl d_Client_addAction_29 ?_
        refine lv_aload_n hx hb d_Client_addAction_32 rfl (lv_at hl 0 rfl) ?_
        refine x_get (v := .int (nI (gN σ 31 55))) (k := 8) hx hb ht xc_Client hown hK hP (mo (by decide)) rfl (by decide) fl_Client_39 rfl rfl rfl d_Client_addAction_33 ?_
        refine lv_lload_n hx hb d_Client_addAction_36 rfl (lv_at hl 1 rfl) ?_
        refine x_last (κ := 103) (n := 10) (x := p) hx hb hK hP hJ hw hS (mo (by decide)) rfl (by decide) rfl rfl (by omega) (by omega) d_Client_addAction_37 (fun H locs hP hS => ?_)
        have hWf : Wf nw (sJ σ 103 (gN σ 31 55) p) := wf_J hWf
        refine lv_aload_n hx hb d_Client_addAction_38 rfl (lv_at hl 0 rfl) ?_
        refine x_get (v := .ref (ad 59)) (k := 4) hx hb ht xc_Client hown hK hP (mo (by decide)) rfl (by decide) fl_Client_23 rfl rfl rfl d_Client_addAction_39 ?_
        refine lv_aload_n hx hb d_Client_addAction_42 rfl (lv_at hl 0 rfl) ?_
        refine x_get (v := .int (nI (gN σ 31 55))) (k := 8) hx hb ht xc_Client hown hK hP (mo (by decide)) rfl (by decide) fl_Client_39 rfl rfl rfl d_Client_addAction_43 ?_
        refine lv_iload_n hx hb d_Client_addAction_46 rfl (lv_at hl 2 rfl) ?_
        refine x_nast (κ := 104) (n := 10) (x := ja) hx hb hK hP hJ hw hS (mo (by decide)) rfl (by decide) rfl rfl (by omega) (by omega) d_Client_addAction_47 (fun H locs hP hS => ?_)
        have hWf : Wf nw (sN (sJ σ 103 (gN σ 31 55) p) 104 (gN σ 31 55) ja) := wf_104 hWf (by omega)
        refine lv_aload_n hx hb d_Client_addAction_48 rfl (lv_at hl 0 rfl) ?_
        refine x_get (v := .ref (ad 60)) (k := 5) hx hb ht xc_Client hown hK hP (mo (by decide)) rfl (by decide) fl_Client_26 rfl rfl rfl d_Client_addAction_49 ?_
        refine lv_aload_n hx hb d_Client_addAction_52 rfl (lv_at hl 0 rfl) ?_
        refine x_get (v := .int (nI (gN σ 31 55))) (k := 8) hx hb ht xc_Client hown hK hP (mo (by decide)) rfl (by decide) fl_Client_39 rfl rfl rfl d_Client_addAction_53 ?_
        refine lv_iload hx hb d_Client_addAction_56 (lv_at hl 3 rfl) ?_
        refine x_nast (κ := 105) (n := 10) (x := jb) hx hb hK hP hJ hw hS (mo (by decide)) rfl (by decide) rfl rfl (by omega) (by omega) d_Client_addAction_58 (fun H locs hP hS => ?_)
        have hWf : Wf nw (sN (sN (sJ σ 103 (gN σ 31 55) p) 104 (gN σ 31 55) ja) 105 (gN σ 31 55) jb) := wf_105 hWf (by omega)
        refine lv_aload_n hx hb d_Client_addAction_59 rfl (lv_at hl 0 rfl) ?_
        refine lv_dup hx hb d_Client_addAction_60 rfl ?_
        refine x_get (v := .int (nI (gN σ 31 55))) (k := 8) hx hb ht xc_Client hown hK hP (mo (by decide)) rfl (by decide) fl_Client_39 rfl rfl rfl d_Client_addAction_61 ?_
        refine lv_iconst (v := (nI 1)) hx hb d_Client_addAction_64 (by decide) ?_
        refine x_iaddN hx hb d_Client_addAction_65 ?_
        refine x_put (σ' := sN (sN (sN (sJ σ 103 (gN σ 31 55) p) 104 (gN σ 31 55) ja) 105 (gN σ 31 55) jb) 31 55 ((gN σ 31 55) + 1)) (v := .int (nI ((gN σ 31 55) + 1))) (k := 8) hx hb ht xc_Client t_Client t_Client_ok n_Client hown hK hP hJ hw hS (mo (by decide)) rfl (by decide) fl_Client_39 rfl rfl rfl off_N rfl rfl rfl d_Client_addAction_66 (fun H locs hP hS => ?_)
        have hWf : Wf nw (sN (sN (sN (sJ σ 103 (gN σ 31 55) p) 104 (gN σ 31 55) ja) 105 (gN σ 31 55) jb) 31 55 ((gN σ 31 55) + 1)) := wf_31 hWf (by omega)
        refine lv_aload_n hx hb d_Client_addAction_69 rfl (lv_at hl 0 rfl) ?_
        refine x_get (v := .int (nI ((gN σ 31 55) + 1))) (k := 8) hx hb ht xc_Client hown hK hP (mo (by decide)) rfl (by decide) fl_Client_39 rfl rfl rfl d_Client_addAction_70 ?_
        refine lv_iconst (v := (nI 1)) hx hb d_Client_addAction_73 (by decide) ?_
        refine x_isubN hx hb d_Client_addAction_74 (by omega) ?_
        refine W.eq (g2 := F0 mm 75 ls [.int (nI ((gN σ 31 55)))]) rfl ?_
        exact x_iret hx hb hr hlk hK hP hS d_Client_addAction_75 (by rw [if_pos (cAct_t (p := p) hWit h1 hja hjb).1]) (cAct_t hWit h1 hja hjb).2.symm
      · refine lv_iconst (v := ((-1))) hx hb d_Client_addAction_26 (by decide) ?_
        exact x_iret hx hb hr hlk hK hP hS d_Client_addAction_27 (by rw [if_neg (by unfold cActOk; simp [h2, h3])]) (by unfold cAct; rw [if_neg (by unfold cActOk; simp [h2, h3])])
set_option maxHeartbeats 4000000 in
set_option maxRecDepth 100000 in
theorem c_Client_ask (l : Launch) (D : va_G) (dA : Nat → ClassId) (ad : Nat → Nat) (nw : Nat) (hJ : Inj ad (obC nw)) (hnw : nw ≤ 4) (σ : Sg) (i : Nat) (t : Nat) (hWf : Wf nw σ) (hi : i < 10) (ht9 : t < 2 ^ 29) : CV l D clX (tyX dA) (SC nw) ad dA (obC nw) NL y_Client_ask w_Client_ask { frames := 2, cells := 0, slots := 0, locals := 46 } [.ref (ad 55), .int (nI i), .int (nI t)] σ (cAsk σ i t) := by
  refine x_of (WS := WS) (cc := b_Client_ask) (maxL := 4) (ret := none) (by decide) rfl (Nat.le_of_ble_eq_true rfl) ?_
  intro pp ee ss mm below meth cdd hx hb hml hr hlk ht hown hnm hN hK hP ls hl
  have hl : lv_has ls 4 [(0, .ref (ad 55)), (1, .int (nI i)), (2, .int (nI t))] := hl
  have hS : va_S (Ad ad (obC nw)) ss.heap ss.heap [] := va_S.rf
  have hw := swfC hnw
  have hWn := hWf.n
  have hWq := hWf.q
  have hWit := hWf.it
  have hWbl := hWf.bl
  have hWrs := hWf.rs
  have hWlt := hWf.lt
  have hWln := hWf.ln
  refine lv_aload_n hx hb d_Client_ask_0 rfl (lv_at hl 0 rfl) ?_
  refine x_get (v := .ref (ad 1)) (k := 0) hx hb ht xc_Client hown hK hP (mo (by decide)) rfl (by decide) fl_Client_43 rfl rfl rfl d_Client_ask_1 ?_
  refine lv_iconst (v := (nI 1)) hx hb d_Client_ask_4 (by decide) ?_
  refine lv_iconst (v := (nI 0)) hx hb d_Client_ask_5 (by decide) ?_
  have hto : kdC (sendTo σ) = 2 := kd_to hWf
  refine x_cr (x_rV (As := [.int (nI 1), .int (nI 0)]) (rest := []) hx hb hml hown ht gW cs_Client_99 (c_Flight_send l D dA ad nw hJ hnw σ 1 0 hWf.R hWf.n) rfl rfl (by decide) xc_Flight hN hK hP (mo (by decide)) rfl rfl hl.1 rfl (Nat.le_of_ble_eq_true rfl) d_Client_ask_6 (by decide)) hS (fun H locs hP hS => ?_)
  have hWf : Wf nw (fSend σ 1 0) := wf_send hWf (by omega) (by omega)
  refine lv_astore_n (lv' := [(3, .ref (ad (sendTo σ))), (0, .ref (ad 55)), (1, .int (nI i)), (2, .int (nI t))]) hx hb d_Client_ask_9 rfl hl (by decide) rfl (fun ls hl => ?_)
  refine lv_aload_n hx hb d_Client_ask_10 rfl (lv_at hl 0 rfl) ?_
  refine lv_iload_n hx hb d_Client_ask_11 rfl (lv_at hl 2 rfl) ?_
  refine x_put (σ' := sN (fSend σ 1 0) 12 (sendTo σ) i) (v := .int (nI i)) (k := 3) hx hb ht xc_Message t_Message t_Message_ok n_Message hown hK hP hJ hw hS (mo_msg hto) hto (by decide) fl_Client_61 rfl rfl rfl off_N (by simp [vl, gs]) rfl rfl d_Client_ask_12 (fun H locs hP hS => ?_)
  have hWf : Wf nw (sN (fSend σ 1 0) 12 (sendTo σ) i) := wf_12 hWf (by omega)
  refine lv_aload_n hx hb d_Client_ask_15 rfl (lv_at hl 1 rfl) ?_
  refine lv_iload_n hx hb d_Client_ask_16 rfl (lv_at hl 2 rfl) ?_
  refine lv_aload_n hx hb d_Client_ask_17 rfl (lv_at hl 0 rfl) ?_
  refine x_get (v := .ref (ad ((sendTo σ) + 1))) (k := 0) hx hb ht xc_Message hown hK hP (mo_msg hto) hto (by decide) fl_Client_81 rfl rfl rfl d_Client_ask_18 ?_
  refine x_cv (x_rV (As := [.int (nI i), .ref (ad ((sendTo σ) + 1))]) (rest := []) hx hb hml hown ht gW cs_Client_77 (c_Client_writeKey l D dA ad nw hJ hnw (sN (fSend σ 1 0) 12 (sendTo σ) i) i ((sendTo σ) + 1) (by omega) (hWf.as (by omega)) (hWf.bs (by omega)) (kd_msgk hto) (mo_msgk hto)) rfl rfl (by decide) xc_Client hN hK hP (mo (by decide)) rfl rfl hl.1 rfl (Nat.le_of_ble_eq_true rfl) d_Client_ask_21 (by decide)) hS (fun H locs hP hS => ?_)
  have hWf : Wf nw (cKey (sN (fSend σ 1 0) 12 (sendTo σ) i) i ((sendTo σ) + 1)) := wf_key hWf
  refine lv_aload_n hx hb d_Client_ask_24 rfl (lv_at hl 1 rfl) ?_
  refine x_get (v := .ref (ad 61)) (k := 6) hx hb ht xc_Client hown hK hP (mo (by decide)) rfl (by decide) fl_Client_29 rfl rfl rfl d_Client_ask_25 ?_
  refine lv_iload_n hx hb d_Client_ask_28 rfl (lv_at hl 2 rfl) ?_
  refine lv_iload_n hx hb d_Client_ask_29 rfl (lv_at hl 3 rfl) ?_
  refine lv_iconst (v := (nI 5)) hx hb d_Client_ask_30 (by decide) ?_
  refine x_iaddN hx hb d_Client_ask_31 ?_
  refine x_nast (κ := 106) (n := 10) (x := t + 5) hx hb hK hP hJ hw hS (mo (by decide)) rfl (by decide) rfl rfl (by omega) (by omega) d_Client_ask_32 (fun H locs hP hS => ?_)
  have hWf : Wf nw (sN (cKey (sN (fSend σ 1 0) 12 (sendTo σ) i) i ((sendTo σ) + 1)) 106 i (t + 5)) := wf_106 hWf (by omega)
  exact x_vret hx hb hr hlk hK hP hS d_Client_ask_33 rfl
set_option maxHeartbeats 4000000 in
set_option maxRecDepth 100000 in
theorem c_Client_put (l : Launch) (D : va_G) (dA : Nat → ClassId) (ad : Nat → Nat) (nw : Nat) (hJ : Inj ad (obC nw)) (hnw : nw ≤ 4) (σ : Sg) (c : Int32) (hWf : Wf nw σ) : CV l D clX (tyX dA) (SC nw) ad dA (obC nw) NL y_Client_put w_Client_put { frames := 1, cells := 0, slots := 0, locals := 23 } [.ref (ad 55), .int c] σ (cPut σ c) := by
  refine x_of (WS := WS) (cc := b_Client_put) (maxL := 3) (ret := none) (by decide) rfl (Nat.le_of_ble_eq_true rfl) ?_
  intro pp ee ss mm below meth cdd hx hb hml hr hlk ht hown hnm hN hK hP ls hl
  have hl : lv_has ls 3 [(0, .ref (ad 55)), (1, .int c)] := hl
  have hS : va_S (Ad ad (obC nw)) ss.heap ss.heap [] := va_S.rf
  have hw := swfC hnw
  have hWn := hWf.n
  have hWq := hWf.q
  have hWit := hWf.it
  have hWbl := hWf.bl
  have hWrs := hWf.rs
  have hWlt := hWf.lt
  have hWln := hWf.ln
  refine lv_aload_n hx hb d_Client_put_0 rfl (lv_at hl 0 rfl) ?_
  refine x_get (v := .ref (ad 1)) (k := 0) hx hb ht xc_Client hown hK hP (mo (by decide)) rfl (by decide) fl_Client_43 rfl rfl rfl d_Client_put_1 ?_
  refine lv_iconst (v := (nI 3)) hx hb d_Client_put_4 (by decide) ?_
  refine lv_iconst (v := (nI 0)) hx hb d_Client_put_5 (by decide) ?_
  have hto : kdC (sendTo σ) = 2 := kd_to hWf
  refine x_cr (x_rV (As := [.int (nI 3), .int (nI 0)]) (rest := []) hx hb hml hown ht gW cs_Client_99 (c_Flight_send l D dA ad nw hJ hnw σ 3 0 hWf.R hWf.n) rfl rfl (by decide) xc_Flight hN hK hP (mo (by decide)) rfl rfl hl.1 rfl (Nat.le_of_ble_eq_true rfl) d_Client_put_6 (by decide)) hS (fun H locs hP hS => ?_)
  have hWf : Wf nw (fSend σ 3 0) := wf_send hWf (by omega) (by omega)
  refine lv_astore_n (lv' := [(2, .ref (ad (sendTo σ))), (0, .ref (ad 55)), (1, .int c)]) hx hb d_Client_put_9 rfl hl (by decide) rfl (fun ls hl => ?_)
  refine lv_aload_n hx hb d_Client_put_10 rfl (lv_at hl 0 rfl) ?_
  refine lv_iload_n hx hb d_Client_put_11 rfl (lv_at hl 2 rfl) ?_
  refine x_ci (x_rSN (As := [.int c]) (rest := [.ref (ad (sendTo σ))]) hx hb hml hown ht gW cs_Client_91 (c_LB_digestOf l D dA ad nw hJ hnw (fSend σ 3 0) c) rfl rfl (by decide) hN hK hP rfl hl.1 rfl (Nat.le_of_ble_eq_true rfl) d_Client_put_12 (by decide)) hS (fun H locs hP hS => ?_)
  refine x_put (σ' := sI (fSend σ 3 0) 15 (sendTo σ) (dg c)) (v := .int (dg c)) (k := 6) hx hb ht xc_Message t_Message t_Message_ok n_Message hown hK hP hJ hw hS (mo_msg hto) hto (by decide) fl_Client_105 rfl rfl rfl off_I (by simp [vl, gs]) rfl rfl d_Client_put_15 (fun H locs hP hS => ?_)
  have hWf : Wf nw (sI (fSend σ 3 0) 15 (sendTo σ) (dg c)) := wf_I hWf
  refine lv_aload_n hx hb d_Client_put_18 rfl (lv_at hl 0 rfl) ?_
  refine lv_iload_n hx hb d_Client_put_19 rfl (lv_at hl 2 rfl) ?_
  refine x_put (σ' := sI (sI (fSend σ 3 0) 15 (sendTo σ) (dg c)) 16 (sendTo σ) c) (v := .int c) (k := 7) hx hb ht xc_Message t_Message t_Message_ok n_Message hown hK hP hJ hw hS (mo_msg hto) hto (by decide) fl_Client_88 rfl rfl rfl off_I (by simp [vl, gs]) rfl rfl d_Client_put_20 (fun H locs hP hS => ?_)
  have hWf : Wf nw (sI (sI (fSend σ 3 0) 15 (sendTo σ) (dg c)) 16 (sendTo σ) c) := wf_I hWf
  exact x_vret hx hb hr hlk hK hP hS d_Client_put_23 rfl
set_option maxHeartbeats 4000000 in
set_option maxRecDepth 100000 in
theorem c_Client_askForReady (l : Launch) (D : va_G) (dA : Nat → ClassId) (ad : Nat → Nat) (nw : Nat) (hJ : Inj ad (obC nw)) (hnw : nw ≤ 4) (σ : Sg) (t : Nat) (hWf : Wf nw σ) (ht9 : t < 2 ^ 29) : CV l D clX (tyX dA) (SC nw) ad dA (obC nw) NL y_Client_askForReady w_Client_askForReady { frames := 3, cells := 0, slots := 0, locals := 69 } [.ref (ad 55), .int (nI t)] σ (cAskN σ t (gN σ 31 55)) := by
  refine x_of (WS := WS) (cc := b_Client_askForReady) (maxL := 3) (ret := none) (by decide) rfl (Nat.le_of_ble_eq_true rfl) ?_
  intro pp ee ss mm below meth cdd hx hb hml hr hlk ht hown hnm hN hK hP ls hl
  have hl : lv_has ls 3 [(0, .ref (ad 55)), (1, .int (nI t))] := hl
  have hS : va_S (Ad ad (obC nw)) ss.heap ss.heap [] := va_S.rf
  have hw := swfC hnw
  have hWn := hWf.n
  have hWq := hWf.q
  have hWit := hWf.it
  have hWbl := hWf.bl
  have hWrs := hWf.rs
  have hWlt := hWf.lt
  have hWln := hWf.ln
  have hW0 := hWf
  refine lv_iconst (v := (nI 0)) hx hb d_Client_askForReady_0 (by decide) ?_
  refine lv_istore_n (lv' := [(2, .int (nI 0)), (0, .ref (ad 55)), (1, .int (nI t))]) hx hb d_Client_askForReady_1 rfl hl (by decide) rfl (fun ls hl => ?_)
  refine x_loop (pc := 2) (α := Nat) (nL := 3) (fun i => gN σ 31 55 - i) (fun i => cAskN σ t i) (fun i => [(2, .int (nI i)), (1, .int (nI t)), (0, .ref (ad 55))]) (fun i => i ≤ gN σ 31 55) ?_ 0 (Nat.zero_le _) hP hS (lv_sub hl [0, 2, 1] rfl)
  clear hP hS hl
  intro i hi H locs ls hP hS hl ih
  have hi : i ≤ gN σ 31 55 := hi
  have hWf : Wf nw (cAskN σ t i) := wf_askN hW0 ht9 i (by omega)
  have hl : lv_has ls 3 [(2, .int (nI i)), (1, .int (nI t)), (0, .ref (ad 55))] := hl
  have hP : va_P D clX (wd (SC nw) ad dA (obC nw) (cAskN σ t i)) H := hP
  refine lv_iload_n hx hb d_Client_askForReady_2 rfl (lv_at hl 0 rfl) ?_
  refine lv_aload_n hx hb d_Client_askForReady_3 rfl (lv_at hl 2 rfl) ?_
  refine x_get (v := .int (nI (gN σ 31 55))) (k := 8) hx hb ht xc_Client hown hK hP (mo (by decide)) rfl (by decide) fl_Client_39 rfl rfl (congrArg (fun z => Value.int (nI z)) (askN_it σ t i)) d_Client_askForReady_4 ?_
  refine x_icmp_geN (tgt := 40) hx hb d_Client_askForReady_7 (by decide) (by omega) (by omega) (fun h1 => ?_) (fun h1 => ?_)
  · exact x_vret hx hb hr hlk hK hP hS d_Client_askForReady_40 (by rw [show i = gN σ 31 55 by omega])
  · refine lv_aload_n hx hb d_Client_askForReady_10 rfl (lv_at hl 2 rfl) ?_
    refine lv_iload_n hx hb d_Client_askForReady_11 rfl (lv_at hl 0 rfl) ?_
    refine x_ci (x_rV (As := [.int (nI i)]) (rest := []) hx hb hml hown ht gW cs_Client_55 (c_Client_isReady l D dA ad nw hJ hnw (cAskN σ t i) i (by omega) (hWf.as (by omega)) (hWf.bs (by omega))) rfl rfl (by decide) xc_Client hN hK hP (mo (by decide)) rfl rfl hl.1 rfl (Nat.le_of_ble_eq_true rfl) d_Client_askForReady_12 (by decide)) hS (fun H locs hP hS => ?_)
    refine x_ifeqB (tgt := 34) hx hb d_Client_askForReady_15 (by decide) (fun h2 => ?_) (fun h2 => ?_)
    · refine lv_iinc (lv' := [(2, .int (nI (i + 1))), (1, .int (nI t)), (0, .ref (ad 55))]) (v := (nI (i + 1))) hx hb d_Client_askForReady_34 hl (k := 0) rfl (nI_add _ _) (by decide) rfl (fun ls hl => ?_)
      refine lv_goto (tgt := 2) hx hb d_Client_askForReady_37 (by decide) ?_
      exact ih (i + 1) (by show i + 1 ≤ gN σ 31 55; omega) (by omega) H locs ls (by show va_P D clX (wd (SC nw) ad dA (obC nw) (cAskS (cAskN σ t i) t i)) H; unfold cAskS; rw [if_neg (by rw [h2]; decide)]; exact hP) hS (lv_sub hl [0, 1, 2] rfl)
    · refine lv_iload_n hx hb d_Client_askForReady_18 rfl (lv_at hl 1 rfl) ?_
      refine lv_aload_n hx hb d_Client_askForReady_19 rfl (lv_at hl 2 rfl) ?_
      refine x_get (v := .ref (ad 61)) (k := 6) hx hb ht xc_Client hown hK hP (mo (by decide)) rfl (by decide) fl_Client_29 rfl rfl rfl d_Client_askForReady_20 ?_
      refine lv_iload_n hx hb d_Client_askForReady_23 rfl (lv_at hl 0 rfl) ?_
      refine x_nald (κ := 106) (n := 10) hx hb hK hP (mo (by decide)) rfl (by decide) rfl rfl (by omega) (by omega) d_Client_askForReady_24 ?_
      refine x_icmp_ltN (tgt := 34) hx hb d_Client_askForReady_25 (by decide) (by omega) (Nat.lt_trans (hWf.na _) (by decide)) (fun h3 => ?_) (fun h3 => ?_)
      · refine lv_iinc (lv' := [(2, .int (nI (i + 1))), (1, .int (nI t)), (0, .ref (ad 55))]) (v := (nI (i + 1))) hx hb d_Client_askForReady_34 hl (k := 0) rfl (nI_add _ _) (by decide) rfl (fun ls hl => ?_)
        refine lv_goto (tgt := 2) hx hb d_Client_askForReady_37 (by decide) ?_
        exact ih (i + 1) (by show i + 1 ≤ gN σ 31 55; omega) (by omega) H locs ls (by show va_P D clX (wd (SC nw) ad dA (obC nw) (cAskS (cAskN σ t i) t i)) H; unfold cAskS; rw [if_pos h2, if_neg (by omega)]; exact hP) hS (lv_sub hl [0, 1, 2] rfl)
      · refine lv_aload_n hx hb d_Client_askForReady_28 rfl (lv_at hl 2 rfl) ?_
        refine lv_iload_n hx hb d_Client_askForReady_29 rfl (lv_at hl 0 rfl) ?_
        refine lv_iload_n hx hb d_Client_askForReady_30 rfl (lv_at hl 1 rfl) ?_
        refine x_cv (x_rV (As := [.int (nI i), .int (nI t)]) (rest := []) hx hb hml hown ht gW cs_Client_58 (c_Client_ask l D dA ad nw hJ hnw (cAskN σ t i) i t hWf (by omega) (by omega)) rfl rfl (by decide) xc_Client hN hK hP (mo (by decide)) rfl rfl hl.1 rfl (Nat.le_of_ble_eq_true rfl) d_Client_askForReady_31 (by decide)) hS (fun H locs hP hS => ?_)
        have hWf : Wf nw (cAsk (cAskN σ t i) i t) := wf_ask hWf (by omega) (by omega)
        refine lv_iinc (lv' := [(2, .int (nI (i + 1))), (1, .int (nI t)), (0, .ref (ad 55))]) (v := (nI (i + 1))) hx hb d_Client_askForReady_34 hl (k := 0) rfl (nI_add _ _) (by decide) rfl (fun ls hl => ?_)
        refine lv_goto (tgt := 2) hx hb d_Client_askForReady_37 (by decide) ?_
        exact ih (i + 1) (by show i + 1 ≤ gN σ 31 55; omega) (by omega) H locs ls (by show va_P D clX (wd (SC nw) ad dA (obC nw) (cAskS (cAskN σ t i) t i)) H; unfold cAskS; rw [if_pos h2, if_pos h3]; exact hP) hS (lv_sub hl [0, 1, 2] rfl)
set_option maxHeartbeats 4000000 in
set_option maxRecDepth 100000 in
theorem c_Client_takeLack (l : Launch) (D : va_G) (dA : Nat → ClassId) (ad : Nat → Nat) (nw : Nat) (hJ : Inj ad (obC nw)) (hnw : nw ≤ 4) (σ : Sg) (q : Nat) (t : Nat) (hWf : Wf nw σ) (hq : kdC q = 2) (ht9 : t < 2 ^ 29) : CV l D clX (tyX dA) (SC nw) ad dA (obC nw) NL y_Client_takeLack w_Client_takeLack { frames := 3, cells := 0, slots := 0, locals := 69 } [.ref (ad 55), .ref (ad q), .int (nI t)] σ (cLack σ q t) := by
  refine x_of (WS := WS) (cc := b_Client_takeLack) (maxL := 3) (ret := none) (by decide) rfl (Nat.le_of_ble_eq_true rfl) ?_
  intro pp ee ss mm below meth cdd hx hb hml hr hlk ht hown hnm hN hK hP ls hl
  have hl : lv_has ls 3 [(0, .ref (ad 55)), (1, .ref (ad q)), (2, .int (nI t))] := hl
  have hS : va_S (Ad ad (obC nw)) ss.heap ss.heap [] := va_S.rf
  have hw := swfC hnw
  have hWn := hWf.n
  have hWq := hWf.q
  have hWit := hWf.it
  have hWbl := hWf.bl
  have hWrs := hWf.rs
  have hWlt := hWf.lt
  have hWln := hWf.ln
  have him := hWf.im q
  have has9 := hWf.as him
  have hbs9 := hWf.bs him
  refine lv_aload_n hx hb d_Client_takeLack_0 rfl (lv_at hl 0 rfl) ?_
  refine lv_aload_n hx hb d_Client_takeLack_1 rfl (lv_at hl 1 rfl) ?_
  refine x_get (v := .int (nI (gN σ 12 q))) (k := 3) hx hb ht xc_Message hown hK hP (mo_msg hq) hq (by decide) fl_Client_61 rfl rfl rfl d_Client_takeLack_2 ?_
  refine x_ci (x_rV (As := [.int (nI (gN σ 12 q))]) (rest := []) hx hb hml hown ht gW cs_Client_47 (c_Client_isItem l D dA ad nw hJ hnw σ (nI (gN σ 12 q)) hWf.it) rfl rfl (by decide) xc_Client hN hK hP (mo (by decide)) rfl rfl hl.1 rfl (Nat.le_of_ble_eq_true rfl) d_Client_takeLack_5 (by decide)) hS (fun H locs hP hS => ?_)
  refine x_ifeqB (tgt := 23) hx hb d_Client_takeLack_8 (by decide) (fun h1 => ?_) (fun h1 => ?_)
  · exact x_vret hx hb hr hlk hK hP hS d_Client_takeLack_23 (by unfold cLack; simp only [if_neg, h1, Bool.false_eq_true, if_false])
  · refine lv_aload_n hx hb d_Client_takeLack_11 rfl (lv_at hl 0 rfl) ?_
    refine x_get (v := .ref (ad 56)) (k := 1) hx hb ht xc_Client hown hK hP (mo (by decide)) rfl (by decide) fl_Client_9 rfl rfl rfl d_Client_takeLack_12 ?_
    refine lv_aload_n hx hb d_Client_takeLack_15 rfl (lv_at hl 1 rfl) ?_
    refine x_get (v := .int (nI (gN σ 12 q))) (k := 3) hx hb ht xc_Message hown hK hP (mo_msg hq) hq (by decide) fl_Client_61 rfl rfl rfl d_Client_takeLack_16 ?_
    refine x_zald (κ := 101) (n := 10) hx hb hK hP (mo (by decide)) rfl (by decide) rfl rfl (by omega) (by omega) d_Client_takeLack_19 ?_
    refine x_ifeqB (tgt := 24) hx hb d_Client_takeLack_20 (by decide) (fun h2 => ?_) (fun h2 => ?_)
    · refine lv_aload_n hx hb d_Client_takeLack_24 rfl (lv_at hl 1 rfl) ?_
      refine x_get (v := .int (bI (gB σ 13 q))) (k := 4) hx hb ht xc_Message hown hK hP (mo_msg hq) hq (by decide) fl_Client_66 rfl rfl rfl d_Client_takeLack_25 ?_
      refine x_ifeqB (tgt := 49) hx hb d_Client_takeLack_28 (by decide) (fun h3 => ?_) (fun h3 => ?_)
      · refine lv_aload_n hx hb d_Client_takeLack_49 rfl (lv_at hl 1 rfl) ?_
        refine x_get (v := .int (bI (gB σ 14 q))) (k := 5) hx hb ht xc_Message hown hK hP (mo_msg hq) hq (by decide) fl_Client_74 rfl rfl rfl d_Client_takeLack_50 ?_
        refine x_ifeqB (tgt := 74) hx hb d_Client_takeLack_53 (by decide) (fun h4 => ?_) (fun h4 => ?_)
        · refine lv_aload_n hx hb d_Client_takeLack_74 rfl (lv_at hl 0 rfl) ?_
          refine lv_aload_n hx hb d_Client_takeLack_75 rfl (lv_at hl 1 rfl) ?_
          refine x_get (v := .int (nI (gN σ 12 q))) (k := 3) hx hb ht xc_Message hown hK hP (mo_msg hq) hq (by decide) fl_Client_61 rfl rfl rfl d_Client_takeLack_76 ?_
          refine lv_iload_n hx hb d_Client_takeLack_79 rfl (lv_at hl 2 rfl) ?_
          refine x_cv (x_rV (As := [.int (nI (gN σ 12 q)), .int (nI t)]) (rest := []) hx hb hml hown ht gW cs_Client_58 (c_Client_ask l D dA ad nw hJ hnw σ (gN σ 12 q) t hWf (by omega) (by omega)) rfl rfl (by decide) xc_Client hN hK hP (mo (by decide)) rfl rfl hl.1 rfl (Nat.le_of_ble_eq_true rfl) d_Client_takeLack_80 (by decide)) hS (fun H locs hP hS => ?_)
          have hWf : Wf nw (cAsk σ (gN σ 12 q) t) := wf_ask hWf (by omega) (by omega)
          exact x_vret hx hb hr hlk hK hP hS d_Client_takeLack_83 (by simp [cLack, cLk1, cLk2, h1, h2, h3, h4])
        · refine lv_aload_n hx hb d_Client_takeLack_56 rfl (lv_at hl 0 rfl) ?_
          refine lv_aload_n hx hb d_Client_takeLack_57 rfl (lv_at hl 0 rfl) ?_
          refine x_get (v := .ref (ad 57)) (k := 2) hx hb ht xc_Client hown hK hP (mo (by decide)) rfl (by decide) fl_Client_15 rfl rfl rfl d_Client_takeLack_58 ?_
          refine lv_aload_n hx hb d_Client_takeLack_61 rfl (lv_at hl 0 rfl) ?_
          refine x_get (v := .ref (ad 60)) (k := 5) hx hb ht xc_Client hown hK hP (mo (by decide)) rfl (by decide) fl_Client_26 rfl rfl rfl d_Client_takeLack_62 ?_
          refine lv_aload_n hx hb d_Client_takeLack_65 rfl (lv_at hl 1 rfl) ?_
          refine x_get (v := .int (nI (gN σ 12 q))) (k := 3) hx hb ht xc_Message hown hK hP (mo_msg hq) hq (by decide) fl_Client_61 rfl rfl rfl d_Client_takeLack_66 ?_
          refine x_nald (κ := 105) (n := 10) hx hb hK hP (mo (by decide)) rfl (by decide) rfl rfl (by omega) (by omega) d_Client_takeLack_69 ?_
          refine x_iald (κ := 102) (n := 10) hx hb hK hP (mo (by decide)) rfl (by decide) rfl rfl (by omega) (by omega) d_Client_takeLack_70 ?_
          refine x_cv (x_rV (As := [.int (gI σ 102 (gN σ 105 (gN σ 12 q)))]) (rest := []) hx hb hml hown ht gW cs_Client_70 (c_Client_put l D dA ad nw hJ hnw σ (gI σ 102 (gN σ 105 (gN σ 12 q))) hWf) rfl rfl (by decide) xc_Client hN hK hP (mo (by decide)) rfl rfl hl.1 rfl (Nat.le_of_ble_eq_true rfl) d_Client_takeLack_71 (by decide)) hS (fun H locs hP hS => ?_)
          have hWf : Wf nw (cPut σ (gI σ 102 (gN σ 105 (gN σ 12 q)))) := wf_put hWf
          refine lv_aload_n hx hb d_Client_takeLack_74 rfl (lv_at hl 0 rfl) ?_
          refine lv_aload_n hx hb d_Client_takeLack_75 rfl (lv_at hl 1 rfl) ?_
          refine x_get (v := .int (nI (gN σ 12 q))) (k := 3) hx hb ht xc_Message hown hK hP (mo_msg hq) hq (by decide) fl_Client_61 rfl rfl (congrArg (fun z => Value.int (nI z)) (send_N σ 3 0 (by decide) q)) d_Client_takeLack_76 ?_
          refine lv_iload_n hx hb d_Client_takeLack_79 rfl (lv_at hl 2 rfl) ?_
          refine x_cv (x_rV (As := [.int (nI (gN σ 12 q)), .int (nI t)]) (rest := []) hx hb hml hown ht gW cs_Client_58 (c_Client_ask l D dA ad nw hJ hnw (cPut σ (gI σ 102 (gN σ 105 (gN σ 12 q)))) (gN σ 12 q) t hWf (by omega) (by omega)) rfl rfl (by decide) xc_Client hN hK hP (mo (by decide)) rfl rfl hl.1 rfl (Nat.le_of_ble_eq_true rfl) d_Client_takeLack_80 (by decide)) hS (fun H locs hP hS => ?_)
          have hWf : Wf nw (cAsk (cPut σ (gI σ 102 (gN σ 105 (gN σ 12 q)))) (gN σ 12 q) t) := wf_ask hWf (by omega) (by omega)
          exact x_vret hx hb hr hlk hK hP hS d_Client_takeLack_83 (by simp [cLack, cLk1, cLk2, h1, h2, h3, h4])
      · refine lv_aload_n hx hb d_Client_takeLack_31 rfl (lv_at hl 0 rfl) ?_
        refine lv_aload_n hx hb d_Client_takeLack_32 rfl (lv_at hl 0 rfl) ?_
        refine x_get (v := .ref (ad 57)) (k := 2) hx hb ht xc_Client hown hK hP (mo (by decide)) rfl (by decide) fl_Client_15 rfl rfl rfl d_Client_takeLack_33 ?_
        refine lv_aload_n hx hb d_Client_takeLack_36 rfl (lv_at hl 0 rfl) ?_
        refine x_get (v := .ref (ad 59)) (k := 4) hx hb ht xc_Client hown hK hP (mo (by decide)) rfl (by decide) fl_Client_23 rfl rfl rfl d_Client_takeLack_37 ?_
        refine lv_aload_n hx hb d_Client_takeLack_40 rfl (lv_at hl 1 rfl) ?_
        refine x_get (v := .int (nI (gN σ 12 q))) (k := 3) hx hb ht xc_Message hown hK hP (mo_msg hq) hq (by decide) fl_Client_61 rfl rfl rfl d_Client_takeLack_41 ?_
        refine x_nald (κ := 104) (n := 10) hx hb hK hP (mo (by decide)) rfl (by decide) rfl rfl (by omega) (by omega) d_Client_takeLack_44 ?_
        refine x_iald (κ := 102) (n := 10) hx hb hK hP (mo (by decide)) rfl (by decide) rfl rfl (by omega) (by omega) d_Client_takeLack_45 ?_
        refine x_cv (x_rV (As := [.int (gI σ 102 (gN σ 104 (gN σ 12 q)))]) (rest := []) hx hb hml hown ht gW cs_Client_70 (c_Client_put l D dA ad nw hJ hnw σ (gI σ 102 (gN σ 104 (gN σ 12 q))) hWf) rfl rfl (by decide) xc_Client hN hK hP (mo (by decide)) rfl rfl hl.1 rfl (Nat.le_of_ble_eq_true rfl) d_Client_takeLack_46 (by decide)) hS (fun H locs hP hS => ?_)
        have hWf : Wf nw (cPut σ (gI σ 102 (gN σ 104 (gN σ 12 q)))) := wf_put hWf
        refine lv_aload_n hx hb d_Client_takeLack_49 rfl (lv_at hl 1 rfl) ?_
        refine x_get (v := .int (bI (gB σ 14 q))) (k := 5) hx hb ht xc_Message hown hK hP (mo_msg hq) hq (by decide) fl_Client_74 rfl rfl (congrArg (fun z => Value.int (bI z)) (send_B σ 3 0 14 q)) d_Client_takeLack_50 ?_
        refine x_ifeqB (tgt := 74) hx hb d_Client_takeLack_53 (by decide) (fun h5 => ?_) (fun h5 => ?_)
        · refine lv_aload_n hx hb d_Client_takeLack_74 rfl (lv_at hl 0 rfl) ?_
          refine lv_aload_n hx hb d_Client_takeLack_75 rfl (lv_at hl 1 rfl) ?_
          refine x_get (v := .int (nI (gN σ 12 q))) (k := 3) hx hb ht xc_Message hown hK hP (mo_msg hq) hq (by decide) fl_Client_61 rfl rfl (congrArg (fun z => Value.int (nI z)) (send_N σ 3 0 (by decide) q)) d_Client_takeLack_76 ?_
          refine lv_iload_n hx hb d_Client_takeLack_79 rfl (lv_at hl 2 rfl) ?_
          refine x_cv (x_rV (As := [.int (nI (gN σ 12 q)), .int (nI t)]) (rest := []) hx hb hml hown ht gW cs_Client_58 (c_Client_ask l D dA ad nw hJ hnw (cPut σ (gI σ 102 (gN σ 104 (gN σ 12 q)))) (gN σ 12 q) t hWf (by omega) (by omega)) rfl rfl (by decide) xc_Client hN hK hP (mo (by decide)) rfl rfl hl.1 rfl (Nat.le_of_ble_eq_true rfl) d_Client_takeLack_80 (by decide)) hS (fun H locs hP hS => ?_)
          have hWf : Wf nw (cAsk (cPut σ (gI σ 102 (gN σ 104 (gN σ 12 q)))) (gN σ 12 q) t) := wf_ask hWf (by omega) (by omega)
          exact x_vret hx hb hr hlk hK hP hS d_Client_takeLack_83 (by simp [cLack, cLk1, cLk2, h1, h2, h3, h5])
        · refine lv_aload_n hx hb d_Client_takeLack_56 rfl (lv_at hl 0 rfl) ?_
          refine lv_aload_n hx hb d_Client_takeLack_57 rfl (lv_at hl 0 rfl) ?_
          refine x_get (v := .ref (ad 57)) (k := 2) hx hb ht xc_Client hown hK hP (mo (by decide)) rfl (by decide) fl_Client_15 rfl rfl rfl d_Client_takeLack_58 ?_
          refine lv_aload_n hx hb d_Client_takeLack_61 rfl (lv_at hl 0 rfl) ?_
          refine x_get (v := .ref (ad 60)) (k := 5) hx hb ht xc_Client hown hK hP (mo (by decide)) rfl (by decide) fl_Client_26 rfl rfl rfl d_Client_takeLack_62 ?_
          refine lv_aload_n hx hb d_Client_takeLack_65 rfl (lv_at hl 1 rfl) ?_
          refine x_get (v := .int (nI (gN σ 12 q))) (k := 3) hx hb ht xc_Message hown hK hP (mo_msg hq) hq (by decide) fl_Client_61 rfl rfl (congrArg (fun z => Value.int (nI z)) (send_N σ 3 0 (by decide) q)) d_Client_takeLack_66 ?_
          refine x_nald (κ := 105) (n := 10) hx hb hK hP (mo (by decide)) rfl (by decide) rfl rfl (by omega) (by omega) d_Client_takeLack_69 ?_
          rw [show gN (cPut σ (gI σ 102 (gN σ 104 (gN σ 12 q)))) 105 (gN σ 12 q) = gN σ 105 (gN σ 12 q) from (send_N σ 3 0 (by decide) (gN σ 12 q))]
          refine x_iald (κ := 102) (n := 10) hx hb hK hP (mo (by decide)) rfl (by decide) rfl rfl (by omega) (by omega) d_Client_takeLack_70 ?_
          rw [show gI (cPut σ (gI σ 102 (gN σ 104 (gN σ 12 q)))) 102 (gN σ 105 (gN σ 12 q)) = gI σ 102 (gN σ 105 (gN σ 12 q)) from (send_I σ 3 0 102 (gN σ 105 (gN σ 12 q)))]
          refine x_cv (x_rV (As := [.int (gI σ 102 (gN σ 105 (gN σ 12 q)))]) (rest := []) hx hb hml hown ht gW cs_Client_70 (c_Client_put l D dA ad nw hJ hnw (cPut σ (gI σ 102 (gN σ 104 (gN σ 12 q)))) (gI σ 102 (gN σ 105 (gN σ 12 q))) hWf) rfl rfl (by decide) xc_Client hN hK hP (mo (by decide)) rfl rfl hl.1 rfl (Nat.le_of_ble_eq_true rfl) d_Client_takeLack_71 (by decide)) hS (fun H locs hP hS => ?_)
          have hWf : Wf nw (cPut (cPut σ (gI σ 102 (gN σ 104 (gN σ 12 q)))) (gI σ 102 (gN σ 105 (gN σ 12 q)))) := wf_put hWf
          refine lv_aload_n hx hb d_Client_takeLack_74 rfl (lv_at hl 0 rfl) ?_
          refine lv_aload_n hx hb d_Client_takeLack_75 rfl (lv_at hl 1 rfl) ?_
          refine x_get (v := .int (nI (gN σ 12 q))) (k := 3) hx hb ht xc_Message hown hK hP (mo_msg hq) hq (by decide) fl_Client_61 rfl rfl (congrArg (fun z => Value.int (nI z)) (Eq.trans (send_N (cPut σ (gI σ 102 (gN σ 104 (gN σ 12 q)))) 3 0 (by decide) q) (send_N σ 3 0 (by decide) q))) d_Client_takeLack_76 ?_
          refine lv_iload_n hx hb d_Client_takeLack_79 rfl (lv_at hl 2 rfl) ?_
          refine x_cv (x_rV (As := [.int (nI (gN σ 12 q)), .int (nI t)]) (rest := []) hx hb hml hown ht gW cs_Client_58 (c_Client_ask l D dA ad nw hJ hnw (cPut (cPut σ (gI σ 102 (gN σ 104 (gN σ 12 q)))) (gI σ 102 (gN σ 105 (gN σ 12 q)))) (gN σ 12 q) t hWf (by omega) (by omega)) rfl rfl (by decide) xc_Client hN hK hP (mo (by decide)) rfl rfl hl.1 rfl (Nat.le_of_ble_eq_true rfl) d_Client_takeLack_80 (by decide)) hS (fun H locs hP hS => ?_)
          have hWf : Wf nw (cAsk (cPut (cPut σ (gI σ 102 (gN σ 104 (gN σ 12 q)))) (gI σ 102 (gN σ 105 (gN σ 12 q)))) (gN σ 12 q) t) := wf_ask hWf (by omega) (by omega)
          exact x_vret hx hb hr hlk hK hP hS d_Client_takeLack_83 (by simp [cLack, cLk1, cLk2, h1, h2, h3, h5])
    · exact x_vret hx hb hr hlk hK hP hS d_Client_takeLack_23 (by unfold cLack; simp only [h1, h2, if_true])
set_option maxHeartbeats 4000000 in
set_option maxRecDepth 100000 in
theorem c_Client_takeAnswer (l : Launch) (D : va_G) (dA : Nat → ClassId) (ad : Nat → Nat) (nw : Nat) (hJ : Inj ad (obC nw)) (hnw : nw ≤ 4) (σ : Sg) (q : Nat) (hWf : Wf nw σ) (hq : kdC q = 2) : CV l D clX (tyX dA) (SC nw) ad dA (obC nw) NL y_Client_takeAnswer w_Client_takeAnswer { frames := 2, cells := 0, slots := 0, locals := 46 } [.ref (ad 55), .ref (ad q)] σ (cAnsN σ q (gN σ 31 55)) := by
  refine x_of (WS := WS) (cc := b_Client_takeAnswer) (maxL := 3) (ret := none) (by decide) rfl (Nat.le_of_ble_eq_true rfl) ?_
  intro pp ee ss mm below meth cdd hx hb hml hr hlk ht hown hnm hN hK hP ls hl
  have hl : lv_has ls 3 [(0, .ref (ad 55)), (1, .ref (ad q))] := hl
  have hS : va_S (Ad ad (obC nw)) ss.heap ss.heap [] := va_S.rf
  have hw := swfC hnw
  have hWn := hWf.n
  have hWq := hWf.q
  have hWit := hWf.it
  have hWbl := hWf.bl
  have hWrs := hWf.rs
  have hWlt := hWf.lt
  have hWln := hWf.ln
  have hW0 := hWf
  refine lv_iconst (v := (nI 0)) hx hb d_Client_takeAnswer_0 (by decide) ?_
  refine lv_istore_n (lv' := [(2, .int (nI 0)), (0, .ref (ad 55)), (1, .ref (ad q))]) hx hb d_Client_takeAnswer_1 rfl hl (by decide) rfl (fun ls hl => ?_)
  refine x_loop (pc := 2) (α := Nat) (nL := 3) (fun i => gN σ 31 55 - i) (fun i => cAnsN σ q i) (fun i => [(2, .int (nI i)), (1, .ref (ad q)), (0, .ref (ad 55))]) (fun i => i ≤ gN σ 31 55) ?_ 0 (Nat.zero_le _) hP hS (lv_sub hl [0, 2, 1] rfl)
  clear hP hS hl
  intro i hi H locs ls hP hS hl ih
  have hi : i ≤ gN σ 31 55 := hi
  have hWf : Wf nw (cAnsN σ q i) := wf_ansN hW0 i
  have hl : lv_has ls 3 [(2, .int (nI i)), (1, .ref (ad q)), (0, .ref (ad 55))] := hl
  have hP : va_P D clX (wd (SC nw) ad dA (obC nw) (cAnsN σ q i)) H := hP
  refine lv_iload_n hx hb d_Client_takeAnswer_2 rfl (lv_at hl 0 rfl) ?_
  refine lv_aload_n hx hb d_Client_takeAnswer_3 rfl (lv_at hl 2 rfl) ?_
  refine x_get (v := .int (nI (gN σ 31 55))) (k := 8) hx hb ht xc_Client hown hK hP (mo (by decide)) rfl (by decide) fl_Client_39 rfl rfl (congrArg (fun z => Value.int (nI z)) (ansN_N σ q i 31 55)) d_Client_takeAnswer_4 ?_
  refine x_icmp_geN (tgt := 56) hx hb d_Client_takeAnswer_7 (by decide) (by omega) (by omega) (fun h1 => ?_) (fun h1 => ?_)
  · exact x_vret hx hb hr hlk hK hP hS d_Client_takeAnswer_56 (by rw [show i = gN σ 31 55 by omega])
  · refine lv_aload_n hx hb d_Client_takeAnswer_10 rfl (lv_at hl 2 rfl) ?_
    refine lv_iload_n hx hb d_Client_takeAnswer_11 rfl (lv_at hl 0 rfl) ?_
    refine x_ci (x_rV (As := [.int (nI i)]) (rest := []) hx hb hml hown ht gW cs_Client_55 (c_Client_isReady l D dA ad nw hJ hnw (cAnsN σ q i) i (by omega) (hWf.as (by omega)) (hWf.bs (by omega))) rfl rfl (by decide) xc_Client hN hK hP (mo (by decide)) rfl rfl hl.1 rfl (Nat.le_of_ble_eq_true rfl) d_Client_takeAnswer_12 (by decide)) hS (fun H locs hP hS => ?_)
    refine x_ifeqB (tgt := 50) hx hb d_Client_takeAnswer_15 (by decide) (fun h2 => ?_) (fun h2 => ?_)
    · refine lv_iinc (lv' := [(2, .int (nI (i + 1))), (1, .ref (ad q)), (0, .ref (ad 55))]) (v := (nI (i + 1))) hx hb d_Client_takeAnswer_50 hl (k := 0) rfl (nI_add _ _) (by decide) rfl (fun ls hl => ?_)
      refine lv_goto (tgt := 2) hx hb d_Client_takeAnswer_53 (by decide) ?_
      exact ih (i + 1) (by show i + 1 ≤ gN σ 31 55; omega) (by omega) H locs ls (by show va_P D clX (wd (SC nw) ad dA (obC nw) (cAnsS (cAnsN σ q i) q i)) H; unfold cAnsS; rw [if_neg (by rw [h2]; decide)]; exact hP) hS (lv_sub hl [0, 1, 2] rfl)
    · refine lv_aload_n hx hb d_Client_takeAnswer_18 rfl (lv_at hl 2 rfl) ?_
      refine lv_iload_n hx hb d_Client_takeAnswer_19 rfl (lv_at hl 0 rfl) ?_
      refine lv_aload_n hx hb d_Client_takeAnswer_20 rfl (lv_at hl 2 rfl) ?_
      refine x_get (v := .ref (ad 62)) (k := 7) hx hb ht xc_Client hown hK hP (mo (by decide)) rfl (by decide) fl_Client_35 rfl rfl rfl d_Client_takeAnswer_21 ?_
      refine x_cv (x_rV (As := [.int (nI i), .ref (ad 62)]) (rest := []) hx hb hml hown ht gW cs_Client_77 (c_Client_writeKey l D dA ad nw hJ hnw (cAnsN σ q i) i 62 (by omega) (hWf.as (by omega)) (hWf.bs (by omega)) rfl (mo (by decide))) rfl rfl (by decide) xc_Client hN hK hP (mo (by decide)) rfl rfl hl.1 rfl (Nat.le_of_ble_eq_true rfl) d_Client_takeAnswer_24 (by decide)) hS (fun H locs hP hS => ?_)
      have hWf : Wf nw (cKey (cAnsN σ q i) i 62) := wf_key hWf
      refine lv_aload_n hx hb d_Client_takeAnswer_27 rfl (lv_at hl 2 rfl) ?_
      refine x_get (v := .ref (ad 62)) (k := 7) hx hb ht xc_Client hown hK hP (mo (by decide)) rfl (by decide) fl_Client_35 rfl rfl rfl d_Client_takeAnswer_28 ?_
      refine lv_aload_n hx hb d_Client_takeAnswer_31 rfl (lv_at hl 1 rfl) ?_
      refine x_get (v := .ref (ad (q + 1))) (k := 0) hx hb ht xc_Message hown hK hP (mo_msg hq) hq (by decide) fl_Client_81 rfl rfl rfl d_Client_takeAnswer_32 ?_
      refine x_ci (x_rV (As := [.ref (ad (q + 1))]) (rest := []) hx hb hml hown ht gW cs_Client_84 (c_Key_isSame l D dA ad nw hJ hnw (cKey (cAnsN σ q i) i 62) 62 (q + 1) rfl (mo (by decide)) (kd_msgk hq) (mo_msgk hq)) rfl rfl (by decide) xc_Key hN hK hP (mo (by decide)) rfl rfl hl.1 rfl (Nat.le_of_ble_eq_true rfl) d_Client_takeAnswer_35 (by decide)) hS (fun H locs hP hS => ?_)
      refine x_ifeqB (tgt := 50) hx hb d_Client_takeAnswer_38 (by decide) (fun h3 => ?_) (fun h3 => ?_)
      · refine lv_iinc (lv' := [(2, .int (nI (i + 1))), (1, .ref (ad q)), (0, .ref (ad 55))]) (v := (nI (i + 1))) hx hb d_Client_takeAnswer_50 hl (k := 0) rfl (nI_add _ _) (by decide) rfl (fun ls hl => ?_)
        refine lv_goto (tgt := 2) hx hb d_Client_takeAnswer_53 (by decide) ?_
        exact ih (i + 1) (by show i + 1 ≤ gN σ 31 55; omega) (by omega) H locs ls (by show va_P D clX (wd (SC nw) ad dA (obC nw) (cAnsS (cAnsN σ q i) q i)) H; unfold cAnsS; rw [if_pos h2, if_neg (by rw [h3]; decide)]; exact hP) hS (lv_sub hl [0, 1, 2] rfl)
      · refine lv_aload_n hx hb d_Client_takeAnswer_41 rfl (lv_at hl 2 rfl) ?_
        refine lv_iload_n hx hb d_Client_takeAnswer_42 rfl (lv_at hl 0 rfl) ?_
        refine lv_aload_n hx hb d_Client_takeAnswer_43 rfl (lv_at hl 1 rfl) ?_
        refine x_get (v := .int (gI (cAnsN σ q i) 16 q)) (k := 7) hx hb ht xc_Message hown hK hP (mo_msg hq) hq (by decide) fl_Client_88 rfl rfl rfl d_Client_takeAnswer_44 ?_
        refine x_cv (x_rV (As := [.int (nI i), .int (gI (cAnsN σ q i) 16 q)]) (rest := []) hx hb hml hown ht gW cs_Client_51 (c_Client_learn l D dA ad nw hJ hnw (cKey (cAnsN σ q i) i 62) i (gI (cAnsN σ q i) 16 q) (by omega)) rfl rfl (by decide) xc_Client hN hK hP (mo (by decide)) rfl rfl hl.1 rfl (Nat.le_of_ble_eq_true rfl) d_Client_takeAnswer_47 (by decide)) hS (fun H locs hP hS => ?_)
        have hWf : Wf nw (cLearn (cKey (cAnsN σ q i) i 62) i (gI (cAnsN σ q i) 16 q)) := wf_learn hWf
        refine lv_iinc (lv' := [(2, .int (nI (i + 1))), (1, .ref (ad q)), (0, .ref (ad 55))]) (v := (nI (i + 1))) hx hb d_Client_takeAnswer_50 hl (k := 0) rfl (nI_add _ _) (by decide) rfl (fun ls hl => ?_)
        refine lv_goto (tgt := 2) hx hb d_Client_takeAnswer_53 (by decide) ?_
        exact ih (i + 1) (by show i + 1 ≤ gN σ 31 55; omega) (by omega) H locs ls (by show va_P D clX (wd (SC nw) ad dA (obC nw) (cAnsS (cAnsN σ q i) q i)) H; unfold cAnsS; rw [if_pos h2, if_pos h3]; exact hP) hS (lv_sub hl [0, 1, 2] rfl)
