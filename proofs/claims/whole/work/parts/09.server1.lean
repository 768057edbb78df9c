abbrev b_Disk_hasBlob : ByteArray := prog_3_method_2_code
def y_Disk_hasBlob : MethodName := ⟨"LeasedBuilds$Disk", "hasBlob", "(I)Z"⟩
def w_Disk_hasBlob : List Cond := .code y_Disk_hasBlob b_Disk_hasBlob 2 (some .boolean) :: WS
abbrev b_Disk_blobOf : ByteArray := prog_3_method_3_code
def y_Disk_blobOf : MethodName := ⟨"LeasedBuilds$Disk", "blobOf", "(I)I"⟩
def w_Disk_blobOf : List Cond := .code y_Disk_blobOf b_Disk_blobOf 3 (some .int) :: WS
abbrev b_Disk_writeBlob : ByteArray := prog_3_method_4_code
def y_Disk_writeBlob : MethodName := ⟨"LeasedBuilds$Disk", "writeBlob", "(II)V"⟩
def w_Disk_writeBlob : List Cond := .code y_Disk_writeBlob b_Disk_writeBlob 3 none :: WS
abbrev b_Disk_removeBlob : ByteArray := prog_3_method_5_code
def y_Disk_removeBlob : MethodName := ⟨"LeasedBuilds$Disk", "removeBlob", "(I)V"⟩
def w_Disk_removeBlob : List Cond := .code y_Disk_removeBlob b_Disk_removeBlob 2 none :: WS
abbrev b_Disk_writeResult : ByteArray := prog_3_method_7_code
def y_Disk_writeResult : MethodName := ⟨"LeasedBuilds$Disk", "writeResult", "(LLeasedBuilds$Key;I)V"⟩
def w_Disk_writeResult : List Cond := .code y_Disk_writeResult b_Disk_writeResult 3 none :: WS
abbrev b_Disk_isOutput : ByteArray := prog_3_method_8_code
def y_Disk_isOutput : MethodName := ⟨"LeasedBuilds$Disk", "isOutput", "(I)Z"⟩
def w_Disk_isOutput : List Cond := .code y_Disk_isOutput b_Disk_isOutput 3 (some .boolean) :: WS
abbrev b_Queue_append : ByteArray := prog_8_method_3_code
def y_Queue_append : MethodName := ⟨"LeasedBuilds$Queue", "append", "(LLeasedBuilds$Key;)V"⟩
def w_Queue_append : List Cond := .code y_Queue_append b_Queue_append 2 none :: WS
abbrev b_Queue_first : ByteArray := prog_8_method_4_code
def y_Queue_first : MethodName := ⟨"LeasedBuilds$Queue", "first", "()LLeasedBuilds$Key;"⟩
def w_Queue_first : List Cond := .code y_Queue_first b_Queue_first 1 (some (.object "LeasedBuilds$Key")) :: WS
abbrev b_Queue_names : ByteArray := prog_8_method_6_code
def y_Queue_names : MethodName := ⟨"LeasedBuilds$Queue", "names", "(I)Z"⟩
def w_Queue_names : List Cond := .code y_Queue_names b_Queue_names 3 (some .boolean) :: WS
abbrev b_Leases_workers : ByteArray := prog_6_method_2_code
def y_Leases_workers : MethodName := ⟨"LeasedBuilds$Leases", "workers", "()I"⟩
def w_Leases_workers : List Cond := .code y_Leases_workers b_Leases_workers 1 (some .int) :: WS
abbrev b_Leases_has : ByteArray := prog_6_method_3_code
def y_Leases_has : MethodName := ⟨"LeasedBuilds$Leases", "has", "(I)Z"⟩
def w_Leases_has : List Cond := .code y_Leases_has b_Leases_has 2 (some .boolean) :: WS
abbrev b_Leases_find : ByteArray := prog_6_method_4_code
def y_Leases_find : MethodName := ⟨"LeasedBuilds$Leases", "find", "(LLeasedBuilds$Key;)I"⟩
def w_Leases_find : List Cond := .code y_Leases_find b_Leases_find 3 (some .int) :: WS
abbrev b_Leases_nextFree : ByteArray := prog_6_method_5_code
def y_Leases_nextFree : MethodName := ⟨"LeasedBuilds$Leases", "nextFree", "()I"⟩
def w_Leases_nextFree : List Cond := .code y_Leases_nextFree b_Leases_nextFree 3 (some .int) :: WS
abbrev b_Leases_give : ByteArray := prog_6_method_6_code
def y_Leases_give : MethodName := ⟨"LeasedBuilds$Leases", "give", "(ILLeasedBuilds$Key;I)V"⟩
def w_Leases_give : List Cond := .code y_Leases_give b_Leases_give 4 none :: WS
abbrev b_Leases_end : ByteArray := prog_6_method_7_code
def y_Leases_end : MethodName := ⟨"LeasedBuilds$Leases", "end", "(I)V"⟩
def w_Leases_end : List Cond := .code y_Leases_end b_Leases_end 2 none :: WS
abbrev b_Leases_forget : ByteArray := prog_6_method_8_code
def y_Leases_forget : MethodName := ⟨"LeasedBuilds$Leases", "forget", "()V"⟩
def w_Leases_forget : List Cond := .code y_Leases_forget b_Leases_forget 2 none :: WS
abbrev b_Leases_names : ByteArray := prog_6_method_9_code
def y_Leases_names : MethodName := ⟨"LeasedBuilds$Leases", "names", "(I)Z"⟩
def w_Leases_names : List Cond := .code y_Leases_names b_Leases_names 3 (some .boolean) :: WS
theorem d_Disk_hasBlob_0 : decode b_Disk_hasBlob 0 = .ok (.aload_n 0, 1) := by decide +kernel
theorem d_Disk_hasBlob_1 : decode b_Disk_hasBlob 1 = .ok (.iload_n 1, 1) := by decide +kernel
theorem d_Disk_hasBlob_2 : decode b_Disk_hasBlob 2 = .ok (.invokevirtual 35, 3) := by decide +kernel
theorem d_Disk_hasBlob_5 : decode b_Disk_hasBlob 5 = .ok (.iconst (-1), 1) := by decide +kernel
theorem d_Disk_hasBlob_6 : decode b_Disk_hasBlob 6 = .ok (.if_icmp .eq 7, 3) := by decide +kernel
theorem d_Disk_hasBlob_9 : decode b_Disk_hasBlob 9 = .ok (.iconst 1, 1) := by decide +kernel
theorem d_Disk_hasBlob_10 : decode b_Disk_hasBlob 10 = .ok (.goto 4, 3) := by decide +kernel
theorem d_Disk_hasBlob_13 : decode b_Disk_hasBlob 13 = .ok (.iconst 0, 1) := by decide +kernel
theorem d_Disk_hasBlob_14 : decode b_Disk_hasBlob 14 = .ok (.ireturn, 1) := by decide +kernel
theorem d_Disk_blobOf_0 : decode b_Disk_blobOf 0 = .ok (.aload_n 0, 1) := by decide +kernel
theorem d_Disk_blobOf_1 : decode b_Disk_blobOf 1 = .ok (.iload_n 1, 1) := by decide +kernel
theorem d_Disk_blobOf_2 : decode b_Disk_blobOf 2 = .ok (.invokevirtual 35, 3) := by decide +kernel
theorem d_Disk_blobOf_5 : decode b_Disk_blobOf 5 = .ok (.istore_n 2, 1) := by decide +kernel
theorem d_Disk_blobOf_6 : decode b_Disk_blobOf 6 = .ok (.iload_n 2, 1) := by decide +kernel
theorem d_Disk_blobOf_7 : decode b_Disk_blobOf 7 = .ok (.iconst (-1), 1) := by decide +kernel
theorem d_Disk_blobOf_8 : decode b_Disk_blobOf 8 = .ok (.if_icmp .ne 7, 3) := by decide +kernel
theorem d_Disk_blobOf_11 : decode b_Disk_blobOf 11 = .ok (.iconst 0, 1) := by decide +kernel
theorem d_Disk_blobOf_12 : decode b_Disk_blobOf 12 = .ok (.goto 9, 3) := by decide +kernel
theorem d_Disk_blobOf_15 : decode b_Disk_blobOf 15 = .ok (.aload_n 0, 1) := by decide +kernel
theorem d_Disk_blobOf_16 : decode b_Disk_blobOf 16 = .ok (.getfield 15, 3) := by decide +kernel
theorem d_Disk_blobOf_19 : decode b_Disk_blobOf 19 = .ok (.iload_n 2, 1) := by decide +kernel
theorem d_Disk_blobOf_20 : decode b_Disk_blobOf 20 = .ok (.iaload, 1) := by decide +kernel
theorem d_Disk_blobOf_21 : decode b_Disk_blobOf 21 = .ok (.ireturn, 1) := by decide +kernel
theorem d_Disk_writeBlob_0 : decode b_Disk_writeBlob 0 = .ok (.aload_n 0, 1) := by decide +kernel
theorem d_Disk_writeBlob_1 : decode b_Disk_writeBlob 1 = .ok (.getfield 27, 3) := by decide +kernel
theorem d_Disk_writeBlob_4 : decode b_Disk_writeBlob 4 = .ok (.bipush 10, 2) := by decide +kernel
theorem d_Disk_writeBlob_6 : decode b_Disk_writeBlob 6 = .ok (.if_icmp .ge 33, 3) := by decide +kernel
theorem d_Disk_writeBlob_9 : decode b_Disk_writeBlob 9 = .ok (.aload_n 0, 1) := by decide +kernel
theorem d_Disk_writeBlob_10 : decode b_Disk_writeBlob 10 = .ok (.getfield 9, 3) := by decide +kernel
theorem d_Disk_writeBlob_13 : decode b_Disk_writeBlob 13 = .ok (.aload_n 0, 1) := by decide +kernel
theorem d_Disk_writeBlob_14 : decode b_Disk_writeBlob 14 = .ok (.getfield 27, 3) := by decide +kernel
theorem d_Disk_writeBlob_17 : decode b_Disk_writeBlob 17 = .ok (.iload_n 1, 1) := by decide +kernel
theorem d_Disk_writeBlob_18 : decode b_Disk_writeBlob 18 = .ok (.iastore, 1) := by decide +kernel
theorem d_Disk_writeBlob_19 : decode b_Disk_writeBlob 19 = .ok (.aload_n 0, 1) := by decide +kernel
theorem d_Disk_writeBlob_20 : decode b_Disk_writeBlob 20 = .ok (.getfield 15, 3) := by decide +kernel
theorem d_Disk_writeBlob_23 : decode b_Disk_writeBlob 23 = .ok (.aload_n 0, 1) := by decide +kernel
theorem d_Disk_writeBlob_24 : decode b_Disk_writeBlob 24 = .ok (.getfield 27, 3) := by decide +kernel
theorem d_Disk_writeBlob_27 : decode b_Disk_writeBlob 27 = .ok (.iload_n 2, 1) := by decide +kernel
theorem d_Disk_writeBlob_28 : decode b_Disk_writeBlob 28 = .ok (.iastore, 1) := by decide +kernel
theorem d_Disk_writeBlob_29 : decode b_Disk_writeBlob 29 = .ok (.aload_n 0, 1) := by decide +kernel
theorem d_Disk_writeBlob_30 : decode b_Disk_writeBlob 30 = .ok (.dup, 1) := by decide +kernel
theorem d_Disk_writeBlob_31 : decode b_Disk_writeBlob 31 = .ok (.getfield 27, 3) := by decide +kernel
theorem d_Disk_writeBlob_34 : decode b_Disk_writeBlob 34 = .ok (.iconst 1, 1) := by decide +kernel
theorem d_Disk_writeBlob_35 : decode b_Disk_writeBlob 35 = .ok (.iadd, 1) := by decide +kernel
theorem d_Disk_writeBlob_36 : decode b_Disk_writeBlob 36 = .ok (.putfield 27, 3) := by decide +kernel
theorem d_Disk_writeBlob_39 : decode b_Disk_writeBlob 39 = .ok (.return_, 1) := by decide +kernel
theorem d_Disk_removeBlob_0 : decode b_Disk_removeBlob 0 = .ok (.iload_n 1, 1) := by decide +kernel
theorem d_Disk_removeBlob_1 : decode b_Disk_removeBlob 1 = .ok (.ifCond .lt 51, 3) := by decide +kernel
theorem d_Disk_removeBlob_4 : decode b_Disk_removeBlob 4 = .ok (.iload_n 1, 1) := by decide +kernel
theorem d_Disk_removeBlob_5 : decode b_Disk_removeBlob 5 = .ok (.aload_n 0, 1) := by decide +kernel
theorem d_Disk_removeBlob_6 : decode b_Disk_removeBlob 6 = .ok (.getfield 27, 3) := by decide +kernel
theorem d_Disk_removeBlob_9 : decode b_Disk_removeBlob 9 = .ok (.if_icmp .ge 43, 3) := by decide +kernel
theorem d_Disk_removeBlob_12 : decode b_Disk_removeBlob 12 = .ok (.aload_n 0, 1) := by decide +kernel
theorem d_Disk_removeBlob_13 : decode b_Disk_removeBlob 13 = .ok (.dup, 1) := by decide +kernel
theorem d_Disk_removeBlob_14 : decode b_Disk_removeBlob 14 = .ok (.getfield 27, 3) := by decide +kernel
theorem d_Disk_removeBlob_17 : decode b_Disk_removeBlob 17 = .ok (.iconst 1, 1) := by decide +kernel
theorem d_Disk_removeBlob_18 : decode b_Disk_removeBlob 18 = .ok (.isub, 1) := by decide +kernel
theorem d_Disk_removeBlob_19 : decode b_Disk_removeBlob 19 = .ok (.putfield 27, 3) := by decide +kernel
theorem d_Disk_removeBlob_22 : decode b_Disk_removeBlob 22 = .ok (.aload_n 0, 1) := by decide +kernel
theorem d_Disk_removeBlob_23 : decode b_Disk_removeBlob 23 = .ok (.getfield 9, 3) := by decide +kernel
theorem d_Disk_removeBlob_26 : decode b_Disk_removeBlob 26 = .ok (.iload_n 1, 1) := by decide +kernel
theorem d_Disk_removeBlob_27 : decode b_Disk_removeBlob 27 = .ok (.aload_n 0, 1) := by decide +kernel
theorem d_Disk_removeBlob_28 : decode b_Disk_removeBlob 28 = .ok (.getfield 9, 3) := by decide +kernel
theorem d_Disk_removeBlob_31 : decode b_Disk_removeBlob 31 = .ok (.aload_n 0, 1) := by decide +kernel
theorem d_Disk_removeBlob_32 : decode b_Disk_removeBlob 32 = .ok (.getfield 27, 3) := by decide +kernel
theorem d_Disk_removeBlob_35 : decode b_Disk_removeBlob 35 = .ok (.iaload, 1) := by decide +kernel
theorem d_Disk_removeBlob_36 : decode b_Disk_removeBlob 36 = .ok (.iastore, 1) := by decide +kernel
theorem d_Disk_removeBlob_37 : decode b_Disk_removeBlob 37 = .ok (.aload_n 0, 1) := by decide +kernel
theorem d_Disk_removeBlob_38 : decode b_Disk_removeBlob 38 = .ok (.getfield 15, 3) := by decide +kernel
theorem d_Disk_removeBlob_41 : decode b_Disk_removeBlob 41 = .ok (.iload_n 1, 1) := by decide +kernel
theorem d_Disk_removeBlob_42 : decode b_Disk_removeBlob 42 = .ok (.aload_n 0, 1) := by decide +kernel
theorem d_Disk_removeBlob_43 : decode b_Disk_removeBlob 43 = .ok (.getfield 15, 3) := by decide +kernel
theorem d_Disk_removeBlob_46 : decode b_Disk_removeBlob 46 = .ok (.aload_n 0, 1) := by decide +kernel
theorem d_Disk_removeBlob_47 : decode b_Disk_removeBlob 47 = .ok (.getfield 27, 3) := by decide +kernel
theorem d_Disk_removeBlob_50 : decode b_Disk_removeBlob 50 = .ok (.iaload, 1) := by decide +kernel
theorem d_Disk_removeBlob_51 : decode b_Disk_removeBlob 51 = .ok (.iastore, 1) := by decide +kernel
theorem d_Disk_removeBlob_52 : decode b_Disk_removeBlob 52 = .ok (.return_, 1) := by decide +kernel
theorem d_Disk_writeResult_0 : decode b_Disk_writeResult 0 = .ok (.aload_n 0, 1) := by decide +kernel
theorem d_Disk_writeResult_1 : decode b_Disk_writeResult 1 = .ok (.getfield 31, 3) := by decide +kernel
theorem d_Disk_writeResult_4 : decode b_Disk_writeResult 4 = .ok (.bipush 10, 2) := by decide +kernel
theorem d_Disk_writeResult_6 : decode b_Disk_writeResult 6 = .ok (.if_icmp .ge 36, 3) := by decide +kernel
theorem d_Disk_writeResult_9 : decode b_Disk_writeResult 9 = .ok (.aload_n 0, 1) := by decide +kernel
theorem d_Disk_writeResult_10 : decode b_Disk_writeResult 10 = .ok (.getfield 20, 3) := by decide +kernel
theorem d_Disk_writeResult_13 : decode b_Disk_writeResult 13 = .ok (.aload_n 0, 1) := by decide +kernel
theorem d_Disk_writeResult_14 : decode b_Disk_writeResult 14 = .ok (.getfield 31, 3) := by decide +kernel
theorem d_Disk_writeResult_17 : decode b_Disk_writeResult 17 = .ok (.aaload, 1) := by decide +kernel
theorem d_Disk_writeResult_18 : decode b_Disk_writeResult 18 = .ok (.aload_n 1, 1) := by decide +kernel
theorem d_Disk_writeResult_19 : decode b_Disk_writeResult 19 = .ok (.invokevirtual 43, 3) := by decide +kernel
theorem d_Disk_writeResult_22 : decode b_Disk_writeResult 22 = .ok (.aload_n 0, 1) := by decide +kernel
theorem d_Disk_writeResult_23 : decode b_Disk_writeResult 23 = .ok (.getfield 24, 3) := by decide +kernel
theorem d_Disk_writeResult_26 : decode b_Disk_writeResult 26 = .ok (.aload_n 0, 1) := by decide +kernel
theorem d_Disk_writeResult_27 : decode b_Disk_writeResult 27 = .ok (.getfield 31, 3) := by decide +kernel
theorem d_Disk_writeResult_30 : decode b_Disk_writeResult 30 = .ok (.iload_n 2, 1) := by decide +kernel
theorem d_Disk_writeResult_31 : decode b_Disk_writeResult 31 = .ok (.iastore, 1) := by decide +kernel
theorem d_Disk_writeResult_32 : decode b_Disk_writeResult 32 = .ok (.aload_n 0, 1) := by decide +kernel
theorem d_Disk_writeResult_33 : decode b_Disk_writeResult 33 = .ok (.dup, 1) := by decide +kernel
theorem d_Disk_writeResult_34 : decode b_Disk_writeResult 34 = .ok (.getfield 31, 3) := by decide +kernel
theorem d_Disk_writeResult_37 : decode b_Disk_writeResult 37 = .ok (.iconst 1, 1) := by decide +kernel
theorem d_Disk_writeResult_38 : decode b_Disk_writeResult 38 = .ok (.iadd, 1) := by decide +kernel
theorem d_Disk_writeResult_39 : decode b_Disk_writeResult 39 = .ok (.putfield 31, 3) := by decide +kernel
theorem d_Disk_writeResult_42 : decode b_Disk_writeResult 42 = .ok (.return_, 1) := by decide +kernel
theorem d_Disk_isOutput_0 : decode b_Disk_isOutput 0 = .ok (.iconst 0, 1) := by decide +kernel
theorem d_Disk_isOutput_1 : decode b_Disk_isOutput 1 = .ok (.istore_n 2, 1) := by decide +kernel
theorem d_Disk_isOutput_2 : decode b_Disk_isOutput 2 = .ok (.iload_n 2, 1) := by decide +kernel
theorem d_Disk_isOutput_3 : decode b_Disk_isOutput 3 = .ok (.aload_n 0, 1) := by decide +kernel
theorem d_Disk_isOutput_4 : decode b_Disk_isOutput 4 = .ok (.getfield 31, 3) := by decide +kernel
theorem d_Disk_isOutput_7 : decode b_Disk_isOutput 7 = .ok (.if_icmp .ge 21, 3) := by decide +kernel
theorem d_Disk_isOutput_10 : decode b_Disk_isOutput 10 = .ok (.aload_n 0, 1) := by decide +kernel
theorem d_Disk_isOutput_11 : decode b_Disk_isOutput 11 = .ok (.getfield 24, 3) := by decide +kernel
theorem d_Disk_isOutput_14 : decode b_Disk_isOutput 14 = .ok (.iload_n 2, 1) := by decide +kernel
theorem d_Disk_isOutput_15 : decode b_Disk_isOutput 15 = .ok (.iaload, 1) := by decide +kernel
theorem d_Disk_isOutput_16 : decode b_Disk_isOutput 16 = .ok (.iload_n 1, 1) := by decide +kernel
theorem d_Disk_isOutput_17 : decode b_Disk_isOutput 17 = .ok (.if_icmp .ne 5, 3) := by decide +kernel
theorem d_Disk_isOutput_20 : decode b_Disk_isOutput 20 = .ok (.iconst 1, 1) := by decide +kernel
theorem d_Disk_isOutput_21 : decode b_Disk_isOutput 21 = .ok (.ireturn, 1) := by decide +kernel
theorem d_Disk_isOutput_22 : decode b_Disk_isOutput 22 = .ok (.iinc 2 1, 3) := by decide +kernel
theorem d_Disk_isOutput_25 : decode b_Disk_isOutput 25 = .ok (.goto (-23), 3) := by decide +kernel
theorem d_Disk_isOutput_28 : decode b_Disk_isOutput 28 = .ok (.iconst 0, 1) := by decide +kernel
theorem d_Disk_isOutput_29 : decode b_Disk_isOutput 29 = .ok (.ireturn, 1) := by decide +kernel
theorem d_Queue_append_0 : decode b_Queue_append 0 = .ok (.aload_n 0, 1) := by decide +kernel
theorem d_Queue_append_1 : decode b_Queue_append 1 = .ok (.getfield 17, 3) := by decide +kernel
theorem d_Queue_append_4 : decode b_Queue_append 4 = .ok (.aload_n 0, 1) := by decide +kernel
theorem d_Queue_append_5 : decode b_Queue_append 5 = .ok (.getfield 11, 3) := by decide +kernel
theorem d_Queue_append_8 : decode b_Queue_append 8 = .ok (.arraylength, 1) := by decide +kernel
theorem d_Queue_append_9 : decode b_Queue_append 9 = .ok (.if_icmp .ge 26, 3) := by decide +kernel
theorem d_Queue_append_12 : decode b_Queue_append 12 = .ok (.aload_n 0, 1) := by decide +kernel
theorem d_Queue_append_13 : decode b_Queue_append 13 = .ok (.getfield 11, 3) := by decide +kernel
theorem d_Queue_append_16 : decode b_Queue_append 16 = .ok (.aload_n 0, 1) := by decide +kernel
theorem d_Queue_append_17 : decode b_Queue_append 17 = .ok (.getfield 17, 3) := by decide +kernel
theorem d_Queue_append_20 : decode b_Queue_append 20 = .ok (.aaload, 1) := by decide +kernel
theorem d_Queue_append_21 : decode b_Queue_append 21 = .ok (.aload_n 1, 1) := by decide +kernel
theorem d_Queue_append_22 : decode b_Queue_append 22 = .ok (.invokevirtual 26, 3) := by decide +kernel
theorem d_Queue_append_25 : decode b_Queue_append 25 = .ok (.aload_n 0, 1) := by decide +kernel
theorem d_Queue_append_26 : decode b_Queue_append 26 = .ok (.dup, 1) := by decide +kernel
theorem d_Queue_append_27 : decode b_Queue_append 27 = .ok (.getfield 17, 3) := by decide +kernel
theorem d_Queue_append_30 : decode b_Queue_append 30 = .ok (.iconst 1, 1) := by decide +kernel
theorem d_Queue_append_31 : decode b_Queue_append 31 = .ok (.iadd, 1) := by decide +kernel
theorem d_Queue_append_32 : decode b_Queue_append 32 = .ok (.putfield 17, 3) := by decide +kernel
theorem d_Queue_append_35 : decode b_Queue_append 35 = .ok (.return_, 1) := by decide +kernel
theorem d_Queue_first_0 : decode b_Queue_first 0 = .ok (.aload_n 0, 1) := by decide +kernel
theorem d_Queue_first_1 : decode b_Queue_first 1 = .ok (.getfield 11, 3) := by decide +kernel
theorem d_Queue_first_4 : decode b_Queue_first 4 = .ok (.iconst 0, 1) := by decide +kernel
theorem d_Queue_first_5 : decode b_Queue_first 5 = .ok (.aaload, 1) := by decide +kernel
theorem d_Queue_first_6 : decode b_Queue_first 6 = .ok (.areturn, 1) := by decide +kernel
theorem d_Queue_names_0 : decode b_Queue_names 0 = .ok (.iconst 0, 1) := by decide +kernel
theorem d_Queue_names_1 : decode b_Queue_names 1 = .ok (.istore_n 2, 1) := by decide +kernel
theorem d_Queue_names_2 : decode b_Queue_names 2 = .ok (.iload_n 2, 1) := by decide +kernel
theorem d_Queue_names_3 : decode b_Queue_names 3 = .ok (.aload_n 0, 1) := by decide +kernel
theorem d_Queue_names_4 : decode b_Queue_names 4 = .ok (.getfield 17, 3) := by decide +kernel
theorem d_Queue_names_7 : decode b_Queue_names 7 = .ok (.if_icmp .ge 24, 3) := by decide +kernel
theorem d_Queue_names_10 : decode b_Queue_names 10 = .ok (.aload_n 0, 1) := by decide +kernel
theorem d_Queue_names_11 : decode b_Queue_names 11 = .ok (.getfield 11, 3) := by decide +kernel
theorem d_Queue_names_14 : decode b_Queue_names 14 = .ok (.iload_n 2, 1) := by decide +kernel
theorem d_Queue_names_15 : decode b_Queue_names 15 = .ok (.aaload, 1) := by decide +kernel
theorem d_Queue_names_16 : decode b_Queue_names 16 = .ok (.iload_n 1, 1) := by decide +kernel
theorem d_Queue_names_17 : decode b_Queue_names 17 = .ok (.invokevirtual 30, 3) := by decide +kernel
theorem d_Queue_names_20 : decode b_Queue_names 20 = .ok (.ifCond .eq 5, 3) := by decide +kernel
theorem d_Queue_names_23 : decode b_Queue_names 23 = .ok (.iconst 1, 1) := by decide +kernel
theorem d_Queue_names_24 : decode b_Queue_names 24 = .ok (.ireturn, 1) := by decide +kernel
theorem d_Queue_names_25 : decode b_Queue_names 25 = .ok (.iinc 2 1, 3) := by decide +kernel
theorem d_Queue_names_28 : decode b_Queue_names 28 = .ok (.goto (-26), 3) := by decide +kernel
theorem d_Queue_names_31 : decode b_Queue_names 31 = .ok (.iconst 0, 1) := by decide +kernel
theorem d_Queue_names_32 : decode b_Queue_names 32 = .ok (.ireturn, 1) := by decide +kernel
theorem d_Leases_workers_0 : decode b_Leases_workers 0 = .ok (.aload_n 0, 1) := by decide +kernel
theorem d_Leases_workers_1 : decode b_Leases_workers 1 = .ok (.getfield 15, 3) := by decide +kernel
theorem d_Leases_workers_4 : decode b_Leases_workers 4 = .ok (.arraylength, 1) := by decide +kernel
theorem d_Leases_workers_5 : decode b_Leases_workers 5 = .ok (.ireturn, 1) := by decide +kernel
theorem d_Leases_has_0 : decode b_Leases_has 0 = .ok (.iload_n 1, 1) := by decide +kernel
theorem d_Leases_has_1 : decode b_Leases_has 1 = .ok (.iconst 1, 1) := by decide +kernel
theorem d_Leases_has_2 : decode b_Leases_has 2 = .ok (.if_icmp .lt 27, 3) := by decide +kernel
theorem d_Leases_has_5 : decode b_Leases_has 5 = .ok (.iload_n 1, 1) := by decide +kernel
theorem d_Leases_has_6 : decode b_Leases_has 6 = .ok (.aload_n 0, 1) := by decide +kernel
theorem d_Leases_has_7 : decode b_Leases_has 7 = .ok (.getfield 15, 3) := by decide +kernel
theorem d_Leases_has_10 : decode b_Leases_has 10 = .ok (.arraylength, 1) := by decide +kernel
theorem d_Leases_has_11 : decode b_Leases_has 11 = .ok (.if_icmp .gt 18, 3) := by decide +kernel
theorem d_Leases_has_14 : decode b_Leases_has 14 = .ok (.aload_n 0, 1) := by decide +kernel
theorem d_Leases_has_15 : decode b_Leases_has 15 = .ok (.getfield 15, 3) := by decide +kernel
theorem d_Leases_has_18 : decode b_Leases_has 18 = .ok (.iload_n 1, 1) := by decide +kernel
theorem d_Leases_has_19 : decode b_Leases_has 19 = .ok (.iconst 1, 1) := by decide +kernel
theorem d_Leases_has_20 : decode b_Leases_has 20 = .ok (.isub, 1) := by decide +kernel
theorem d_Leases_has_21 : decode b_Leases_has 21 = .ok (.baload, 1) := by decide +kernel
theorem d_Leases_has_22 : decode b_Leases_has 22 = .ok (.ifCond .eq 7, 3) := by decide +kernel
theorem d_Leases_has_25 : decode b_Leases_has 25 = .ok (.iconst 1, 1) := by decide +kernel
theorem d_Leases_has_26 : decode b_Leases_has 26 = .ok (.goto 4, 3) := by decide +kernel
theorem d_Leases_has_29 : decode b_Leases_has 29 = .ok (.iconst 0, 1) := by decide +kernel
theorem d_Leases_has_30 : decode b_Leases_has 30 = .ok (.ireturn, 1) := by decide +kernel
theorem d_Leases_find_0 : decode b_Leases_find 0 = .ok (.iconst 1, 1) := by decide +kernel
theorem d_Leases_find_1 : decode b_Leases_find 1 = .ok (.istore_n 2, 1) := by decide +kernel
theorem d_Leases_find_2 : decode b_Leases_find 2 = .ok (.iload_n 2, 1) := by decide +kernel
theorem d_Leases_find_3 : decode b_Leases_find 3 = .ok (.aload_n 0, 1) := by decide +kernel
theorem d_Leases_find_4 : decode b_Leases_find 4 = .ok (.getfield 15, 3) := by decide +kernel
theorem d_Leases_find_7 : decode b_Leases_find 7 = .ok (.arraylength, 1) := by decide +kernel
theorem d_Leases_find_8 : decode b_Leases_find 8 = .ok (.if_icmp .gt 37, 3) := by decide +kernel
theorem d_Leases_find_11 : decode b_Leases_find 11 = .ok (.aload_n 0, 1) := by decide +kernel
theorem d_Leases_find_12 : decode b_Leases_find 12 = .ok (.getfield 15, 3) := by decide +kernel
theorem d_Leases_find_15 : decode b_Leases_find 15 = .ok (.iload_n 2, 1) := by decide +kernel
theorem d_Leases_find_16 : decode b_Leases_find 16 = .ok (.iconst 1, 1) := by decide +kernel
theorem d_Leases_find_17 : decode b_Leases_find 17 = .ok (.isub, 1) := by decide +kernel
theorem d_Leases_find_18 : decode b_Leases_find 18 = .ok (.baload, 1) := by decide +kernel
theorem d_Leases_find_19 : decode b_Leases_find 19 = .ok (.ifCond .eq 20, 3) := by decide +kernel
theorem d_Leases_find_22 : decode b_Leases_find 22 = .ok (.aload_n 0, 1) := by decide +kernel
theorem d_Leases_find_23 : decode b_Leases_find 23 = .ok (.getfield 21, 3) := by decide +kernel
theorem d_Leases_find_26 : decode b_Leases_find 26 = .ok (.iload_n 2, 1) := by decide +kernel
theorem d_Leases_find_27 : decode b_Leases_find 27 = .ok (.iconst 1, 1) := by decide +kernel
theorem d_Leases_find_28 : decode b_Leases_find 28 = .ok (.isub, 1) := by decide +kernel
theorem d_Leases_find_29 : decode b_Leases_find 29 = .ok (.aaload, 1) := by decide +kernel
theorem d_Leases_find_30 : decode b_Leases_find 30 = .ok (.aload_n 1, 1) := by decide +kernel
theorem d_Leases_find_31 : decode b_Leases_find 31 = .ok (.invokevirtual 30, 3) := by decide +kernel
theorem d_Leases_find_34 : decode b_Leases_find 34 = .ok (.ifCond .eq 5, 3) := by decide +kernel
theorem d_Leases_find_37 : decode b_Leases_find 37 = .ok (.iload_n 2, 1) := by decide +kernel
theorem d_Leases_find_38 : decode b_Leases_find 38 = .ok (.ireturn, 1) := by decide +kernel
theorem d_Leases_find_39 : decode b_Leases_find 39 = .ok (.iinc 2 1, 3) := by decide +kernel
theorem d_Leases_find_42 : decode b_Leases_find 42 = .ok (.goto (-40), 3) := by decide +kernel
theorem d_Leases_find_45 : decode b_Leases_find 45 = .ok (.iconst (-1), 1) := by decide +kernel
theorem d_Leases_find_46 : decode b_Leases_find 46 = .ok (.ireturn, 1) := by decide +kernel
theorem d_Leases_nextFree_0 : decode b_Leases_nextFree 0 = .ok (.iconst 1, 1) := by decide +kernel
theorem d_Leases_nextFree_1 : decode b_Leases_nextFree 1 = .ok (.istore_n 1, 1) := by decide +kernel
theorem d_Leases_nextFree_2 : decode b_Leases_nextFree 2 = .ok (.iload_n 1, 1) := by decide +kernel
theorem d_Leases_nextFree_3 : decode b_Leases_nextFree 3 = .ok (.aload_n 0, 1) := by decide +kernel
theorem d_Leases_nextFree_4 : decode b_Leases_nextFree 4 = .ok (.getfield 15, 3) := by decide +kernel
theorem d_Leases_nextFree_7 : decode b_Leases_nextFree 7 = .ok (.arraylength, 1) := by decide +kernel
theorem d_Leases_nextFree_8 : decode b_Leases_nextFree 8 = .ok (.if_icmp .gt 58, 3) := by decide +kernel
theorem d_Leases_nextFree_11 : decode b_Leases_nextFree 11 = .ok (.aload_n 0, 1) := by decide +kernel
theorem d_Leases_nextFree_12 : decode b_Leases_nextFree 12 = .ok (.getfield 9, 3) := by decide +kernel
theorem d_Leases_nextFree_15 : decode b_Leases_nextFree 15 = .ok (.iload_n 1, 1) := by decide +kernel
theorem d_Leases_nextFree_16 : decode b_Leases_nextFree 16 = .ok (.iadd, 1) := by decide +kernel
theorem d_Leases_nextFree_17 : decode b_Leases_nextFree 17 = .ok (.aload_n 0, 1) := by decide +kernel
theorem d_Leases_nextFree_18 : decode b_Leases_nextFree 18 = .ok (.getfield 15, 3) := by decide +kernel
theorem d_Leases_nextFree_21 : decode b_Leases_nextFree 21 = .ok (.arraylength, 1) := by decide +kernel
theorem d_Leases_nextFree_22 : decode b_Leases_nextFree 22 = .ok (.if_icmp .le 18, 3) := by decide +kernel
theorem d_Leases_nextFree_25 : decode b_Leases_nextFree 25 = .ok (.aload_n 0, 1) := by decide +kernel
theorem d_Leases_nextFree_26 : decode b_Leases_nextFree 26 = .ok (.getfield 9, 3) := by decide +kernel
theorem d_Leases_nextFree_29 : decode b_Leases_nextFree 29 = .ok (.iload_n 1, 1) := by decide +kernel
theorem d_Leases_nextFree_30 : decode b_Leases_nextFree 30 = .ok (.iadd, 1) := by decide +kernel
theorem d_Leases_nextFree_31 : decode b_Leases_nextFree 31 = .ok (.aload_n 0, 1) := by decide +kernel
theorem d_Leases_nextFree_32 : decode b_Leases_nextFree 32 = .ok (.getfield 15, 3) := by decide +kernel
theorem d_Leases_nextFree_35 : decode b_Leases_nextFree 35 = .ok (.arraylength, 1) := by decide +kernel
theorem d_Leases_nextFree_36 : decode b_Leases_nextFree 36 = .ok (.isub, 1) := by decide +kernel
theorem d_Leases_nextFree_37 : decode b_Leases_nextFree 37 = .ok (.goto 9, 3) := by decide +kernel
theorem d_Leases_nextFree_40 : decode b_Leases_nextFree 40 = .ok (.aload_n 0, 1) := by decide +kernel
theorem d_Leases_nextFree_41 : decode b_Leases_nextFree 41 = .ok (.getfield 9, 3) := by decide +kernel
theorem d_Leases_nextFree_44 : decode b_Leases_nextFree 44 = .ok (.iload_n 1, 1) := by decide +kernel
theorem d_Leases_nextFree_45 : decode b_Leases_nextFree 45 = .ok (.iadd, 1) := by decide +kernel
theorem d_Leases_nextFree_46 : decode b_Leases_nextFree 46 = .ok (.istore_n 2, 1) := by decide +kernel
theorem d_Leases_nextFree_47 : decode b_Leases_nextFree 47 = .ok (.aload_n 0, 1) := by decide +kernel
theorem d_Leases_nextFree_48 : decode b_Leases_nextFree 48 = .ok (.getfield 15, 3) := by decide +kernel
theorem d_Leases_nextFree_51 : decode b_Leases_nextFree 51 = .ok (.iload_n 2, 1) := by decide +kernel
theorem d_Leases_nextFree_52 : decode b_Leases_nextFree 52 = .ok (.iconst 1, 1) := by decide +kernel
theorem d_Leases_nextFree_53 : decode b_Leases_nextFree 53 = .ok (.isub, 1) := by decide +kernel
theorem d_Leases_nextFree_54 : decode b_Leases_nextFree 54 = .ok (.baload, 1) := by decide +kernel
theorem d_Leases_nextFree_55 : decode b_Leases_nextFree 55 = .ok (.ifCond .ne 5, 3) := by decide +kernel
theorem d_Leases_nextFree_58 : decode b_Leases_nextFree 58 = .ok (.iload_n 2, 1) := by decide +kernel
theorem d_Leases_nextFree_59 : decode b_Leases_nextFree 59 = .ok (.ireturn, 1) := by decide +kernel
theorem d_Leases_nextFree_60 : decode b_Leases_nextFree 60 = .ok (.iinc 1 1, 3) := by decide +kernel
theorem d_Leases_nextFree_63 : decode b_Leases_nextFree 63 = .ok (.goto (-61), 3) := by decide +kernel
theorem d_Leases_nextFree_66 : decode b_Leases_nextFree 66 = .ok (.iconst (-1), 1) := by decide +kernel
theorem d_Leases_nextFree_67 : decode b_Leases_nextFree 67 = .ok (.ireturn, 1) := by decide +kernel
theorem d_Leases_give_0 : decode b_Leases_give 0 = .ok (.aload_n 0, 1) := by decide +kernel
theorem d_Leases_give_1 : decode b_Leases_give 1 = .ok (.getfield 15, 3) := by decide +kernel
theorem d_Leases_give_4 : decode b_Leases_give 4 = .ok (.iload_n 1, 1) := by decide +kernel
theorem d_Leases_give_5 : decode b_Leases_give 5 = .ok (.iconst 1, 1) := by decide +kernel
theorem d_Leases_give_6 : decode b_Leases_give 6 = .ok (.isub, 1) := by decide +kernel
theorem d_Leases_give_7 : decode b_Leases_give 7 = .ok (.iconst 1, 1) := by decide +kernel
theorem d_Leases_give_8 : decode b_Leases_give 8 = .ok (.bastore, 1) := by decide +kernel
theorem d_Leases_give_9 : decode b_Leases_give 9 = .ok (.aload_n 0, 1) := by decide +kernel
theorem d_Leases_give_10 : decode b_Leases_give 10 = .ok (.getfield 21, 3) := by decide +kernel
theorem d_Leases_give_13 : decode b_Leases_give 13 = .ok (.iload_n 1, 1) := by decide +kernel
theorem d_Leases_give_14 : decode b_Leases_give 14 = .ok (.iconst 1, 1) := by decide +kernel
theorem d_Leases_give_15 : decode b_Leases_give 15 = .ok (.isub, 1) := by decide +kernel
theorem d_Leases_give_16 : decode b_Leases_give 16 = .ok (.aaload, 1) := by decide +kernel
theorem d_Leases_give_17 : decode b_Leases_give 17 = .ok (.aload_n 2, 1) := by decide +kernel
theorem d_Leases_give_18 : decode b_Leases_give 18 = .ok (.invokevirtual 34, 3) := by decide +kernel
theorem d_Leases_give_21 : decode b_Leases_give 21 = .ok (.aload_n 0, 1) := by decide +kernel
theorem d_Leases_give_22 : decode b_Leases_give 22 = .ok (.getfield 25, 3) := by decide +kernel
theorem d_Leases_give_25 : decode b_Leases_give 25 = .ok (.iload_n 1, 1) := by decide +kernel
theorem d_Leases_give_26 : decode b_Leases_give 26 = .ok (.iconst 1, 1) := by decide +kernel
theorem d_Leases_give_27 : decode b_Leases_give 27 = .ok (.isub, 1) := by decide +kernel
theorem d_Leases_give_28 : decode b_Leases_give 28 = .ok (.iload_n 3, 1) := by decide +kernel
theorem d_Leases_give_29 : decode b_Leases_give 29 = .ok (.iastore, 1) := by decide +kernel
theorem d_Leases_give_30 : decode b_Leases_give 30 = .ok (.aload_n 0, 1) := by decide +kernel
theorem d_Leases_give_31 : decode b_Leases_give 31 = .ok (.iload_n 1, 1) := by decide +kernel
theorem d_Leases_give_32 : decode b_Leases_give 32 = .ok (.putfield 9, 3) := by decide +kernel
theorem d_Leases_give_35 : decode b_Leases_give 35 = .ok (.return_, 1) := by decide +kernel
theorem d_Leases_end_0 : decode b_Leases_end 0 = .ok (.aload_n 0, 1) := by decide +kernel
theorem d_Leases_end_1 : decode b_Leases_end 1 = .ok (.iload_n 1, 1) := by decide +kernel
theorem d_Leases_end_2 : decode b_Leases_end 2 = .ok (.invokevirtual 38, 3) := by decide +kernel
theorem d_Leases_end_5 : decode b_Leases_end 5 = .ok (.ifCond .eq 12, 3) := by decide +kernel
theorem d_Leases_end_8 : decode b_Leases_end 8 = .ok (.aload_n 0, 1) := by decide +kernel
theorem d_Leases_end_9 : decode b_Leases_end 9 = .ok (.getfield 15, 3) := by decide +kernel
theorem d_Leases_end_12 : decode b_Leases_end 12 = .ok (.iload_n 1, 1) := by decide +kernel
theorem d_Leases_end_13 : decode b_Leases_end 13 = .ok (.iconst 1, 1) := by decide +kernel
theorem d_Leases_end_14 : decode b_Leases_end 14 = .ok (.isub, 1) := by decide +kernel
theorem d_Leases_end_15 : decode b_Leases_end 15 = .ok (.iconst 0, 1) := by decide +kernel
theorem d_Leases_end_16 : decode b_Leases_end 16 = .ok (.bastore, 1) := by decide +kernel
theorem d_Leases_end_17 : decode b_Leases_end 17 = .ok (.return_, 1) := by decide +kernel
theorem d_Leases_forget_0 : decode b_Leases_forget 0 = .ok (.iconst 0, 1) := by decide +kernel
theorem d_Leases_forget_1 : decode b_Leases_forget 1 = .ok (.istore_n 1, 1) := by decide +kernel
theorem d_Leases_forget_2 : decode b_Leases_forget 2 = .ok (.iload_n 1, 1) := by decide +kernel
theorem d_Leases_forget_3 : decode b_Leases_forget 3 = .ok (.aload_n 0, 1) := by decide +kernel
theorem d_Leases_forget_4 : decode b_Leases_forget 4 = .ok (.getfield 15, 3) := by decide +kernel
theorem d_Leases_forget_7 : decode b_Leases_forget 7 = .ok (.arraylength, 1) := by decide +kernel
theorem d_Leases_forget_8 : decode b_Leases_forget 8 = .ok (.if_icmp .ge 16, 3) := by decide +kernel
theorem d_Leases_forget_11 : decode b_Leases_forget 11 = .ok (.aload_n 0, 1) := by decide +kernel
theorem d_Leases_forget_12 : decode b_Leases_forget 12 = .ok (.getfield 15, 3) := by decide +kernel
theorem d_Leases_forget_15 : decode b_Leases_forget 15 = .ok (.iload_n 1, 1) := by decide +kernel
theorem d_Leases_forget_16 : decode b_Leases_forget 16 = .ok (.iconst 0, 1) := by decide +kernel
theorem d_Leases_forget_17 : decode b_Leases_forget 17 = .ok (.bastore, 1) := by decide +kernel
theorem d_Leases_forget_18 : decode b_Leases_forget 18 = .ok (.iinc 1 1, 3) := by decide +kernel
theorem d_Leases_forget_21 : decode b_Leases_forget 21 = .ok (.goto (-19), 3) := by decide +kernel
theorem d_Leases_forget_24 : decode b_Leases_forget 24 = .ok (.aload_n 0, 1) := by decide +kernel
theorem d_Leases_forget_25 : decode b_Leases_forget 25 = .ok (.iconst 0, 1) := by decide +kernel
theorem d_Leases_forget_26 : decode b_Leases_forget 26 = .ok (.putfield 9, 3) := by decide +kernel
theorem d_Leases_forget_29 : decode b_Leases_forget 29 = .ok (.return_, 1) := by decide +kernel
theorem d_Leases_names_0 : decode b_Leases_names 0 = .ok (.iconst 0, 1) := by decide +kernel
theorem d_Leases_names_1 : decode b_Leases_names 1 = .ok (.istore_n 2, 1) := by decide +kernel
theorem d_Leases_names_2 : decode b_Leases_names 2 = .ok (.iload_n 2, 1) := by decide +kernel
theorem d_Leases_names_3 : decode b_Leases_names 3 = .ok (.aload_n 0, 1) := by decide +kernel
theorem d_Leases_names_4 : decode b_Leases_names 4 = .ok (.getfield 15, 3) := by decide +kernel
theorem d_Leases_names_7 : decode b_Leases_names 7 = .ok (.arraylength, 1) := by decide +kernel
theorem d_Leases_names_8 : decode b_Leases_names 8 = .ok (.if_icmp .ge 33, 3) := by decide +kernel
theorem d_Leases_names_11 : decode b_Leases_names 11 = .ok (.aload_n 0, 1) := by decide +kernel
theorem d_Leases_names_12 : decode b_Leases_names 12 = .ok (.getfield 15, 3) := by decide +kernel
theorem d_Leases_names_15 : decode b_Leases_names 15 = .ok (.iload_n 2, 1) := by decide +kernel
theorem d_Leases_names_16 : decode b_Leases_names 16 = .ok (.baload, 1) := by decide +kernel
theorem d_Leases_names_17 : decode b_Leases_names 17 = .ok (.ifCond .eq 18, 3) := by decide +kernel
theorem d_Leases_names_20 : decode b_Leases_names 20 = .ok (.aload_n 0, 1) := by decide +kernel
theorem d_Leases_names_21 : decode b_Leases_names 21 = .ok (.getfield 21, 3) := by decide +kernel
theorem d_Leases_names_24 : decode b_Leases_names 24 = .ok (.iload_n 2, 1) := by decide +kernel
theorem d_Leases_names_25 : decode b_Leases_names 25 = .ok (.aaload, 1) := by decide +kernel
theorem d_Leases_names_26 : decode b_Leases_names 26 = .ok (.iload_n 1, 1) := by decide +kernel
theorem d_Leases_names_27 : decode b_Leases_names 27 = .ok (.invokevirtual 42, 3) := by decide +kernel
theorem d_Leases_names_30 : decode b_Leases_names 30 = .ok (.ifCond .eq 5, 3) := by decide +kernel
theorem d_Leases_names_33 : decode b_Leases_names 33 = .ok (.iconst 1, 1) := by decide +kernel
theorem d_Leases_names_34 : decode b_Leases_names 34 = .ok (.ireturn, 1) := by decide +kernel
theorem d_Leases_names_35 : decode b_Leases_names 35 = .ok (.iinc 2 1, 3) := by decide +kernel
theorem d_Leases_names_38 : decode b_Leases_names 38 = .ok (.goto (-36), 3) := by decide +kernel
theorem d_Leases_names_41 : decode b_Leases_names 41 = .ok (.iconst 0, 1) := by decide +kernel
theorem d_Leases_names_42 : decode b_Leases_names 42 = .ok (.ireturn, 1) := by decide +kernel
theorem cs_Disk_35 : CwV WS "LeasedBuilds$Disk" 35 "LeasedBuilds$Disk" y_Disk_findBlob b_Disk_findBlob 3 (some .int) 1 := ⟨⟨ms (i := 452) (by decide +kernel) rfl, ms (i := 449) (by decide +kernel) rfl, ms (i := 451) (by decide +kernel) rfl, mp (i := 6) (by decide +kernel) rfl, ms (i := 7) (by decide +kernel) rfl⟩, by decide +kernel⟩
theorem fl_Disk_15 : Cond.fieldLink "LeasedBuilds$Disk" 15 "LeasedBuilds$Disk" "blobContents" "[I" ∈ WS := ms (i := 175) (by decide +kernel) rfl
theorem cs_Disk_43 : CwV WS "LeasedBuilds$Disk" 43 "LeasedBuilds$Key" y_Key_copy b_Key_copy 2 none 1 := ⟨⟨ms (i := 384) (by decide +kernel) rfl, ms (i := 585) (by decide +kernel) rfl, ms (i := 382) (by decide +kernel) rfl, ms (i := 383) (by decide +kernel) rfl, ms (i := 4) (by decide +kernel) rfl⟩, by decide +kernel⟩
theorem fl_Disk_24 : Cond.fieldLink "LeasedBuilds$Disk" 24 "LeasedBuilds$Disk" "resultDigests" "[I" ∈ WS := ms (i := 177) (by decide +kernel) rfl
theorem cs_Queue_26 : CwV WS "LeasedBuilds$Queue" 26 "LeasedBuilds$Key" y_Key_copy b_Key_copy 2 none 1 := ⟨⟨ms (i := 384) (by decide +kernel) rfl, ms (i := 416) (by decide +kernel) rfl, ms (i := 382) (by decide +kernel) rfl, ms (i := 383) (by decide +kernel) rfl, ms (i := 4) (by decide +kernel) rfl⟩, by decide +kernel⟩
theorem cs_Queue_30 : CwV WS "LeasedBuilds$Queue" 30 "LeasedBuilds$Key" y_Key_names b_Key_names 2 (some .boolean) 1 := ⟨⟨ms (i := 644) (by decide +kernel) rfl, ms (i := 641) (by decide +kernel) rfl, ms (i := 642) (by decide +kernel) rfl, ms (i := 643) (by decide +kernel) rfl, ms (i := 4) (by decide +kernel) rfl⟩, by decide +kernel⟩
theorem fl_Leases_15 : Cond.fieldLink "LeasedBuilds$Leases" 15 "LeasedBuilds$Leases" "held" "[Z" ∈ WS := ms (i := 222) (by decide +kernel) rfl
theorem fl_Leases_21 : Cond.fieldLink "LeasedBuilds$Leases" 21 "LeasedBuilds$Leases" "keys" "[LLeasedBuilds$Key;" ∈ WS := ms (i := 223) (by decide +kernel) rfl
theorem cs_Leases_30 : CwV WS "LeasedBuilds$Leases" 30 "LeasedBuilds$Key" y_Key_isSame b_Key_isSame 2 (some .boolean) 1 := ⟨⟨ms (i := 520) (by decide +kernel) rfl, ms (i := 543) (by decide +kernel) rfl, ms (i := 518) (by decide +kernel) rfl, ms (i := 519) (by decide +kernel) rfl, ms (i := 4) (by decide +kernel) rfl⟩, by decide +kernel⟩
theorem fl_Leases_9 : Cond.fieldLink "LeasedBuilds$Leases" 9 "LeasedBuilds$Leases" "latest" "I" ∈ WS := ms (i := 227) (by decide +kernel) rfl
theorem cs_Leases_34 : CwV WS "LeasedBuilds$Leases" 34 "LeasedBuilds$Key" y_Key_copy b_Key_copy 2 none 1 := ⟨⟨ms (i := 384) (by decide +kernel) rfl, ms (i := 438) (by decide +kernel) rfl, ms (i := 382) (by decide +kernel) rfl, ms (i := 383) (by decide +kernel) rfl, ms (i := 4) (by decide +kernel) rfl⟩, by decide +kernel⟩
theorem fl_Leases_25 : Cond.fieldLink "LeasedBuilds$Leases" 25 "LeasedBuilds$Leases" "ends" "[I" ∈ WS := ms (i := 225) (by decide +kernel) rfl
theorem cs_Leases_38 : CwV WS "LeasedBuilds$Leases" 38 "LeasedBuilds$Leases" y_Leases_has b_Leases_has 2 (some .boolean) 1 := ⟨⟨ms (i := 411) (by decide +kernel) rfl, ms (i := 421) (by decide +kernel) rfl, ms (i := 409) (by decide +kernel) rfl, ms (i := 410) (by decide +kernel) rfl, ms (i := 9) (by decide +kernel) rfl⟩, by decide +kernel⟩
theorem cs_Leases_42 : CwV WS "LeasedBuilds$Leases" 42 "LeasedBuilds$Key" y_Key_names b_Key_names 2 (some .boolean) 1 := ⟨⟨ms (i := 644) (by decide +kernel) rfl, ms (i := 649) (by decide +kernel) rfl, ms (i := 642) (by decide +kernel) rfl, ms (i := 643) (by decide +kernel) rfl, ms (i := 4) (by decide +kernel) rfl⟩, by decide +kernel⟩
set_option maxHeartbeats 4000000 in
set_option maxRecDepth 100000 in
theorem c_Disk_hasBlob (l : Launch) (D : va_G) (dA : Nat → ClassId) (ad : Nat → Nat) (nw : Nat) (hJ : Inj ad (obC nw)) (hnw : nw ≤ 4) (σ : Sg) (d : Int32) (hWf : Wf nw σ) : CI l D clX (tyX dA) (SC nw) ad dA (obC nw) NL y_Disk_hasBlob w_Disk_hasBlob { frames := 1, cells := 0, slots := 0, locals := 22 } [.ref (ad 64), .int d] σ ((bI (dHas σ d))) σ := by
  refine x_of (WS := WS) (cc := b_Disk_hasBlob) (maxL := 2) (ret := (some .boolean)) (by decide) rfl (Nat.le_of_ble_eq_true rfl) ?_
  intro pp ee ss mm below meth cdd hx hb hml hr hlk ht hown hnm hN hK hP ls hl
  have hl : lv_has ls 2 [(0, .ref (ad 64)), (1, .int d)] := hl
  have hS : va_S (Ad ad (obC nw)) ss.heap ss.heap [] := va_S.rf
  have hw := swfC hnw
  have hWn := hWf.n
  have hWq := hWf.q
  have hWit := hWf.it
  have hWbl := hWf.bl
  have hWrs := hWf.rs
  have hWlt := hWf.lt
  have hWln := hWf.ln
  refine lv_aload_n hx hb d_Disk_hasBlob_0 rfl (lv_at hl 0 rfl) ?_
  refine lv_iload_n hx hb d_Disk_hasBlob_1 rfl (lv_at hl 1 rfl) ?_
  refine x_ci (x_rV (As := [.int d]) (rest := []) hx hb hml hown ht gW cs_Disk_35 (c_Disk_findBlob l D dA ad nw hJ hnw σ d hWf.bl) rfl rfl (by decide) xc_Disk hN hK hP (mo (by decide)) rfl rfl hl.1 rfl (Nat.le_of_ble_eq_true rfl) d_Disk_hasBlob_2 (by decide)) hS (fun H locs hP hS => ?_)
  refine lv_iconst (v := ((-1))) hx hb d_Disk_hasBlob_5 (by decide) ?_
  refine lv_icmp_eq (tgt := 13) hx hb d_Disk_hasBlob_6 (by decide) (fun h1 => ?_) (fun h1 => ?_)
  · refine lv_iconst (v := (nI 0)) hx hb d_Disk_hasBlob_13 (by decide) ?_
    exact x_zret (b := false) hx hb hr hlk hK hP hS d_Disk_hasBlob_14 rfl (dHas_f hWf h1) rfl
  · refine lv_iconst (v := (nI 1)) hx hb d_Disk_hasBlob_9 (by decide) ?_
    refine lv_goto (tgt := 14) hx hb d_Disk_hasBlob_10 (by decide) ?_
    exact x_zret (b := true) hx hb hr hlk hK hP hS d_Disk_hasBlob_14 rfl (dHas_t hWf h1) rfl
set_option maxHeartbeats 4000000 in
set_option maxRecDepth 100000 in
theorem c_Disk_blobOf (l : Launch) (D : va_G) (dA : Nat → ClassId) (ad : Nat → Nat) (nw : Nat) (hJ : Inj ad (obC nw)) (hnw : nw ≤ 4) (σ : Sg) (d : Int32) (hWf : Wf nw σ) : CI l D clX (tyX dA) (SC nw) ad dA (obC nw) NL y_Disk_blobOf w_Disk_blobOf { frames := 1, cells := 0, slots := 0, locals := 22 } [.ref (ad 64), .int d] σ ((dOf σ d)) σ := by
  refine x_of (WS := WS) (cc := b_Disk_blobOf) (maxL := 3) (ret := (some .int)) (by decide) rfl (Nat.le_of_ble_eq_true rfl) ?_
  intro pp ee ss mm below meth cdd hx hb hml hr hlk ht hown hnm hN hK hP ls hl
  have hl : lv_has ls 3 [(0, .ref (ad 64)), (1, .int d)] := hl
  have hS : va_S (Ad ad (obC nw)) ss.heap ss.heap [] := va_S.rf
  have hw := swfC hnw
  have hWn := hWf.n
  have hWq := hWf.q
  have hWit := hWf.it
  have hWbl := hWf.bl
  have hWrs := hWf.rs
  have hWlt := hWf.lt
  have hWln := hWf.ln
  refine lv_aload_n hx hb d_Disk_blobOf_0 rfl (lv_at hl 0 rfl) ?_
  refine lv_iload_n hx hb d_Disk_blobOf_1 rfl (lv_at hl 1 rfl) ?_
  refine x_ci (x_rV (As := [.int d]) (rest := []) hx hb hml hown ht gW cs_Disk_35 (c_Disk_findBlob l D dA ad nw hJ hnw σ d hWf.bl) rfl rfl (by decide) xc_Disk hN hK hP (mo (by decide)) rfl rfl hl.1 rfl (Nat.le_of_ble_eq_true rfl) d_Disk_blobOf_2 (by decide)) hS (fun H locs hP hS => ?_)
  refine lv_istore_n (lv' := [(2, .int (oI (fBlob σ d))), (0, .ref (ad 64)), (1, .int d)]) hx hb d_Disk_blobOf_5 rfl hl (by decide) rfl (fun ls hl => ?_)
  refine lv_iload_n hx hb d_Disk_blobOf_6 rfl (lv_at hl 0 rfl) ?_
  refine lv_iconst (v := ((-1))) hx hb d_Disk_blobOf_7 (by decide) ?_
  refine lv_icmp_ne (tgt := 15) hx hb d_Disk_blobOf_8 (by decide) (fun h1 => ?_) (fun h1 => ?_)
  · obtain ⟨j, hj, hjl⟩ := oI_some (fBlob_lt hWf) h1
    have hjv : oI (fBlob σ d) = nI j := by rw [hj]; rfl
    rw [hjv] at hl
    refine lv_aload_n hx hb d_Disk_blobOf_15 rfl (lv_at hl 1 rfl) ?_
    refine x_get (v := .ref (ad 66)) (k := 1) hx hb ht xc_Disk hown hK hP (mo (by decide)) rfl (by decide) fl_Disk_15 rfl rfl rfl d_Disk_blobOf_16 ?_
    refine lv_iload_n hx hb d_Disk_blobOf_19 rfl (lv_at hl 0 rfl) ?_
    refine x_iald (κ := 108) (n := 10) hx hb hK hP (mo (by decide)) rfl (by decide) rfl rfl (by omega) (by omega) d_Disk_blobOf_20 ?_
    exact x_iret hx hb hr hlk hK hP hS d_Disk_blobOf_21 (by unfold dOf; rw [hj]) rfl
  · refine lv_iconst (v := (nI 0)) hx hb d_Disk_blobOf_11 (by decide) ?_
    refine lv_goto (tgt := 21) hx hb d_Disk_blobOf_12 (by decide) ?_
    exact x_iret hx hb hr hlk hK hP hS d_Disk_blobOf_21 (by unfold dOf; rw [oI_none (fun i hi => by have := fBlob_lt hWf i hi; omega) h1]; rfl) rfl
set_option maxHeartbeats 4000000 in
set_option maxRecDepth 100000 in
theorem c_Disk_writeBlob (l : Launch) (D : va_G) (dA : Nat → ClassId) (ad : Nat → Nat) (nw : Nat) (hJ : Inj ad (obC nw)) (hnw : nw ≤ 4) (σ : Sg) (d : Int32) (c : Int32) (hWf : Wf nw σ) : CV l D clX (tyX dA) (SC nw) ad dA (obC nw) NL y_Disk_writeBlob w_Disk_writeBlob { frames := 0, cells := 0, slots := 0, locals := 0 } [.ref (ad 64), .int d, .int c] σ (dWrite σ d c) := by
  refine x_of (WS := WS) (cc := b_Disk_writeBlob) (maxL := 3) (ret := none) (by decide) rfl (Nat.le_of_ble_eq_true rfl) ?_
  intro pp ee ss mm below meth cdd hx hb hml hr hlk ht hown hnm hN hK hP ls hl
  have hl : lv_has ls 3 [(0, .ref (ad 64)), (1, .int d), (2, .int c)] := hl
  have hS : va_S (Ad ad (obC nw)) ss.heap ss.heap [] := va_S.rf
  have hw := swfC hnw
  have hWn := hWf.n
  have hWq := hWf.q
  have hWit := hWf.it
  have hWbl := hWf.bl
  have hWrs := hWf.rs
  have hWlt := hWf.lt
  have hWln := hWf.ln
  refine lv_aload_n hx hb d_Disk_writeBlob_0 rfl (lv_at hl 0 rfl) ?_
  refine x_get (v := .int (nI (gN σ 36 64))) (k := 4) hx hb ht xc_Disk hown hK hP (mo (by decide)) rfl (by decide) fl_Disk_27 rfl rfl rfl d_Disk_writeBlob_1 ?_
  refine lv_bipush (v := (nI 10)) hx hb d_Disk_writeBlob_4 (by decide) ?_
  refine x_icmp_geN (tgt := 39) hx hb d_Disk_writeBlob_6 (by decide) (by omega) (by decide) (fun h1 => ?_) (fun h1 => ?_)
  · exact x_vret hx hb hr hlk hK hP hS d_Disk_writeBlob_39 (by unfold dWrite; rw [if_neg (by omega)])
  · refine lv_aload_n hx hb d_Disk_writeBlob_9 rfl (lv_at hl 0 rfl) ?_
    refine x_get (v := .ref (ad 65)) (k := 0) hx hb ht xc_Disk hown hK hP (mo (by decide)) rfl (by decide) fl_Disk_9 rfl rfl rfl d_Disk_writeBlob_10 ?_
    refine lv_aload_n hx hb d_Disk_writeBlob_13 rfl (lv_at hl 0 rfl) ?_
    refine x_get (v := .int (nI (gN σ 36 64))) (k := 4) hx hb ht xc_Disk hown hK hP (mo (by decide)) rfl (by decide) fl_Disk_27 rfl rfl rfl d_Disk_writeBlob_14 ?_
    refine lv_iload_n hx hb d_Disk_writeBlob_17 rfl (lv_at hl 1 rfl) ?_
    refine x_iast (κ := 107) (n := 10) (x := d) hx hb hK hP hJ hw hS (mo (by decide)) rfl (by decide) rfl rfl (by omega) (by omega) d_Disk_writeBlob_18 (fun H locs hP hS => ?_)
    have hWf : Wf nw (sI σ 107 (gN σ 36 64) d) := wf_I hWf
    refine lv_aload_n hx hb d_Disk_writeBlob_19 rfl (lv_at hl 0 rfl) ?_
    refine x_get (v := .ref (ad 66)) (k := 1) hx hb ht xc_Disk hown hK hP (mo (by decide)) rfl (by decide) fl_Disk_15 rfl rfl rfl d_Disk_writeBlob_20 ?_
    refine lv_aload_n hx hb d_Disk_writeBlob_23 rfl (lv_at hl 0 rfl) ?_
    refine x_get (v := .int (nI (gN σ 36 64))) (k := 4) hx hb ht xc_Disk hown hK hP (mo (by decide)) rfl (by decide) fl_Disk_27 rfl rfl rfl d_Disk_writeBlob_24 ?_
    refine lv_iload_n hx hb d_Disk_writeBlob_27 rfl (lv_at hl 2 rfl) ?_
    refine x_iast (κ := 108) (n := 10) (x := c) hx hb hK hP hJ hw hS (mo (by decide)) rfl (by decide) rfl rfl (by omega) (by omega) d_Disk_writeBlob_28 (fun H locs hP hS => ?_)
    have hWf : Wf nw (sI (sI σ 107 (gN σ 36 64) d) 108 (gN σ 36 64) c) := wf_I hWf
    refine lv_aload_n hx hb d_Disk_writeBlob_29 rfl (lv_at hl 0 rfl) ?_
    refine lv_dup hx hb d_Disk_writeBlob_30 rfl ?_
    refine x_get (v := .int (nI (gN σ 36 64))) (k := 4) hx hb ht xc_Disk hown hK hP (mo (by decide)) rfl (by decide) fl_Disk_27 rfl rfl rfl d_Disk_writeBlob_31 ?_
    refine lv_iconst (v := (nI 1)) hx hb d_Disk_writeBlob_34 (by decide) ?_
    refine x_iaddN hx hb d_Disk_writeBlob_35 ?_
    refine x_put (σ' := sN (sI (sI σ 107 (gN σ 36 64) d) 108 (gN σ 36 64) c) 36 64 ((gN σ 36 64) + 1)) (v := .int (nI ((gN σ 36 64) + 1))) (k := 4) hx hb ht xc_Disk t_Disk t_Disk_ok n_Disk hown hK hP hJ hw hS (mo (by decide)) rfl (by decide) fl_Disk_27 rfl rfl rfl off_N rfl rfl rfl d_Disk_writeBlob_36 (fun H locs hP hS => ?_)
    have hWf : Wf nw (sN (sI (sI σ 107 (gN σ 36 64) d) 108 (gN σ 36 64) c) 36 64 ((gN σ 36 64) + 1)) := wf_36 hWf (by omega)
    exact x_vret hx hb hr hlk hK hP hS d_Disk_writeBlob_39 (by unfold dWrite; rw [if_pos h1])
set_option maxHeartbeats 4000000 in
set_option maxRecDepth 100000 in
theorem c_Disk_removeBlob (l : Launch) (D : va_G) (dA : Nat → ClassId) (ad : Nat → Nat) (nw : Nat) (hJ : Inj ad (obC nw)) (hnw : nw ≤ 4) (σ : Sg) (i : Nat) (hWf : Wf nw σ) (hi : i < gN σ 36 64) : CV l D clX (tyX dA) (SC nw) ad dA (obC nw) NL y_Disk_removeBlob w_Disk_removeBlob { frames := 0, cells := 0, slots := 0, locals := 0 } [.ref (ad 64), .int (nI i)] σ (dRem σ i) := by
  refine x_of (WS := WS) (cc := b_Disk_removeBlob) (maxL := 2) (ret := none) (by decide) rfl (Nat.le_of_ble_eq_true rfl) ?_
  intro pp ee ss mm below meth cdd hx hb hml hr hlk ht hown hnm hN hK hP ls hl
  have hl : lv_has ls 2 [(0, .ref (ad 64)), (1, .int (nI i))] := hl
  have hS : va_S (Ad ad (obC nw)) ss.heap ss.heap [] := va_S.rf
  have hw := swfC hnw
  have hWn := hWf.n
  have hWq := hWf.q
  have hWit := hWf.it
  have hWbl := hWf.bl
  have hWrs := hWf.rs
  have hWlt := hWf.lt
  have hWln := hWf.ln
  have hbl := hWf.bl
  refine lv_iload_n hx hb d_Disk_removeBlob_0 rfl (lv_at hl 1 rfl) ?_
  refine x_if_ltN (tgt := 52) hx hb d_Disk_removeBlob_1 (by decide) (by omega) ?_
  refine lv_iload_n hx hb d_Disk_removeBlob_4 rfl (lv_at hl 1 rfl) ?_
  refine lv_aload_n hx hb d_Disk_removeBlob_5 rfl (lv_at hl 0 rfl) ?_
  refine x_get (v := .int (nI (gN σ 36 64))) (k := 4) hx hb ht xc_Disk hown hK hP (mo (by decide)) rfl (by decide) fl_Disk_27 rfl rfl rfl d_Disk_removeBlob_6 ?_
  refine x_icmp_geN (tgt := 52) hx hb d_Disk_removeBlob_9 (by decide) (by omega) (by omega) (fun h2 => ?_) (fun h2 => ?_)
  · exact x_vret hx hb hr hlk hK hP hS d_Disk_removeBlob_52 (absurd h2 (by omega))
  · refine lv_aload_n hx hb d_Disk_removeBlob_12 rfl (lv_at hl 0 rfl) ?_
    refine lv_dup hx hb d_Disk_removeBlob_13 rfl ?_
    refine x_get (v := .int (nI (gN σ 36 64))) (k := 4) hx hb ht xc_Disk hown hK hP (mo (by decide)) rfl (by decide) fl_Disk_27 rfl rfl rfl d_Disk_removeBlob_14 ?_
    refine lv_iconst (v := (nI 1)) hx hb d_Disk_removeBlob_17 (by decide) ?_
    refine x_isubN hx hb d_Disk_removeBlob_18 (by omega) ?_
    refine x_put (σ' := sN σ 36 64 ((gN σ 36 64) - 1)) (v := .int (nI ((gN σ 36 64) - 1))) (k := 4) hx hb ht xc_Disk t_Disk t_Disk_ok n_Disk hown hK hP hJ hw hS (mo (by decide)) rfl (by decide) fl_Disk_27 rfl rfl rfl off_N rfl rfl rfl d_Disk_removeBlob_19 (fun H locs hP hS => ?_)
    have hWf : Wf nw (sN σ 36 64 ((gN σ 36 64) - 1)) := wf_36 hWf (by omega)
    refine lv_aload_n hx hb d_Disk_removeBlob_22 rfl (lv_at hl 0 rfl) ?_
    refine x_get (v := .ref (ad 65)) (k := 0) hx hb ht xc_Disk hown hK hP (mo (by decide)) rfl (by decide) fl_Disk_9 rfl rfl rfl d_Disk_removeBlob_23 ?_
    refine lv_iload_n hx hb d_Disk_removeBlob_26 rfl (lv_at hl 1 rfl) ?_
    refine lv_aload_n hx hb d_Disk_removeBlob_27 rfl (lv_at hl 0 rfl) ?_
    refine x_get (v := .ref (ad 65)) (k := 0) hx hb ht xc_Disk hown hK hP (mo (by decide)) rfl (by decide) fl_Disk_9 rfl rfl rfl d_Disk_removeBlob_28 ?_
    refine lv_aload_n hx hb d_Disk_removeBlob_31 rfl (lv_at hl 0 rfl) ?_
    refine x_get (v := .int (nI ((gN σ 36 64) - 1))) (k := 4) hx hb ht xc_Disk hown hK hP (mo (by decide)) rfl (by decide) fl_Disk_27 rfl rfl rfl d_Disk_removeBlob_32 ?_
    refine x_iald (κ := 107) (n := 10) hx hb hK hP (mo (by decide)) rfl (by decide) rfl rfl (by omega) (by omega) d_Disk_removeBlob_35 ?_
    rw [show gI (sN σ 36 64 ((gN σ 36 64) - 1)) 107 ((gN σ 36 64) - 1) = gI σ 107 ((gN σ 36 64) - 1) from rfl]
    refine x_iast (κ := 107) (n := 10) (x := gI σ 107 ((gN σ 36 64) - 1)) hx hb hK hP hJ hw hS (mo (by decide)) rfl (by decide) rfl rfl (by omega) (by omega) d_Disk_removeBlob_36 (fun H locs hP hS => ?_)
    have hWf : Wf nw (sI (sN σ 36 64 ((gN σ 36 64) - 1)) 107 i (gI σ 107 ((gN σ 36 64) - 1))) := wf_I hWf
    refine lv_aload_n hx hb d_Disk_removeBlob_37 rfl (lv_at hl 0 rfl) ?_
    refine x_get (v := .ref (ad 66)) (k := 1) hx hb ht xc_Disk hown hK hP (mo (by decide)) rfl (by decide) fl_Disk_15 rfl rfl rfl d_Disk_removeBlob_38 ?_
    refine lv_iload_n hx hb d_Disk_removeBlob_41 rfl (lv_at hl 1 rfl) ?_
    refine lv_aload_n hx hb d_Disk_removeBlob_42 rfl (lv_at hl 0 rfl) ?_
    refine x_get (v := .ref (ad 66)) (k := 1) hx hb ht xc_Disk hown hK hP (mo (by decide)) rfl (by decide) fl_Disk_15 rfl rfl rfl d_Disk_removeBlob_43 ?_
    refine lv_aload_n hx hb d_Disk_removeBlob_46 rfl (lv_at hl 0 rfl) ?_
    refine x_get (v := .int (nI ((gN σ 36 64) - 1))) (k := 4) hx hb ht xc_Disk hown hK hP (mo (by decide)) rfl (by decide) fl_Disk_27 rfl rfl rfl d_Disk_removeBlob_47 ?_
    refine x_iald (κ := 108) (n := 10) hx hb hK hP (mo (by decide)) rfl (by decide) rfl rfl (by omega) (by omega) d_Disk_removeBlob_50 ?_
    rw [show gI (sI (sN σ 36 64 ((gN σ 36 64) - 1)) 107 i (gI σ 107 ((gN σ 36 64) - 1))) 108 ((gN σ 36 64) - 1) = gI σ 108 ((gN σ 36 64) - 1) from rfl]
    refine x_iast (κ := 108) (n := 10) (x := gI σ 108 ((gN σ 36 64) - 1)) hx hb hK hP hJ hw hS (mo (by decide)) rfl (by decide) rfl rfl (by omega) (by omega) d_Disk_removeBlob_51 (fun H locs hP hS => ?_)
    have hWf : Wf nw (sI (sI (sN σ 36 64 ((gN σ 36 64) - 1)) 107 i (gI σ 107 ((gN σ 36 64) - 1))) 108 i (gI σ 108 ((gN σ 36 64) - 1))) := wf_I hWf
    exact x_vret hx hb hr hlk hK hP hS d_Disk_removeBlob_52 rfl
set_option maxHeartbeats 4000000 in
set_option maxRecDepth 100000 in
theorem c_Disk_writeResult (l : Launch) (D : va_G) (dA : Nat → ClassId) (ad : Nat → Nat) (nw : Nat) (hJ : Inj ad (obC nw)) (hnw : nw ≤ 4) (σ : Sg) (q : Nat) (d : Int32) (hWf : Wf nw σ) (hk_q : kdC q = 1) (hm_q : q ∈ obC nw) : CV l D clX (tyX dA) (SC nw) ad dA (obC nw) NL y_Disk_writeResult w_Disk_writeResult { frames := 2, cells := 0, slots := 0, locals := 45 } [.ref (ad 64), .ref (ad q), .int d] σ (dWrRes σ q d) := by
  refine x_of (WS := WS) (cc := b_Disk_writeResult) (maxL := 3) (ret := none) (by decide) rfl (Nat.le_of_ble_eq_true rfl) ?_
  intro pp ee ss mm below meth cdd hx hb hml hr hlk ht hown hnm hN hK hP ls hl
  have hl : lv_has ls 3 [(0, .ref (ad 64)), (1, .ref (ad q)), (2, .int d)] := hl
  have hS : va_S (Ad ad (obC nw)) ss.heap ss.heap [] := va_S.rf
  have hw := swfC hnw
  have hWn := hWf.n
  have hWq := hWf.q
  have hWit := hWf.it
  have hWbl := hWf.bl
  have hWrs := hWf.rs
  have hWlt := hWf.lt
  have hWln := hWf.ln
  refine lv_aload_n hx hb d_Disk_writeResult_0 rfl (lv_at hl 0 rfl) ?_
  refine x_get (v := .int (nI (gN σ 37 64))) (k := 5) hx hb ht xc_Disk hown hK hP (mo (by decide)) rfl (by decide) fl_Disk_31 rfl rfl rfl d_Disk_writeResult_1 ?_
  refine lv_bipush (v := (nI 10)) hx hb d_Disk_writeResult_4 (by decide) ?_
  refine x_icmp_geN (tgt := 42) hx hb d_Disk_writeResult_6 (by decide) (by omega) (by decide) (fun h1 => ?_) (fun h1 => ?_)
  · exact x_vret hx hb hr hlk hK hP hS d_Disk_writeResult_42 (by unfold dWrRes; rw [if_neg (by omega)])
  · refine lv_aload_n hx hb d_Disk_writeResult_9 rfl (lv_at hl 0 rfl) ?_
    refine x_get (v := .ref (ad 67)) (k := 2) hx hb ht xc_Disk hown hK hP (mo (by decide)) rfl (by decide) fl_Disk_20 rfl rfl rfl d_Disk_writeResult_10 ?_
    refine lv_aload_n hx hb d_Disk_writeResult_13 rfl (lv_at hl 0 rfl) ?_
    refine x_get (v := .int (nI (gN σ 37 64))) (k := 5) hx hb ht xc_Disk hown hK hP (mo (by decide)) rfl (by decide) fl_Disk_31 rfl rfl rfl d_Disk_writeResult_14 ?_
    refine x_fald (κ := 109) (n := 10) hx hb hK hP (mo (by decide)) rfl (by decide) rfl rfl (by omega) (by omega) d_Disk_writeResult_17 ?_
    refine W.eq (g2 := F0 mm 18 ls [.ref (ad (69 + (gN σ 37 64)))]) rfl ?_
    refine lv_aload_n hx hb d_Disk_writeResult_18 rfl (lv_at hl 1 rfl) ?_
    refine x_cv (x_rV (As := [.ref (ad q)]) (rest := []) hx hb hml hown ht gW cs_Disk_43 (c_Key_copy l D dA ad nw hJ hnw σ (69 + (gN σ 37 64)) q (kd_rk (by omega)) (mo (by omega)) hk_q hm_q) rfl rfl (by decide) xc_Key hN hK hP (mo (by omega)) (kd_rk (by omega)) rfl hl.1 rfl (Nat.le_of_ble_eq_true rfl) d_Disk_writeResult_19 (by decide)) hS (fun H locs hP hS => ?_)
    have hWf : Wf nw (kcopy σ (69 + (gN σ 37 64)) q) := wf_kc hWf
    refine lv_aload_n hx hb d_Disk_writeResult_22 rfl (lv_at hl 0 rfl) ?_
    refine x_get (v := .ref (ad 68)) (k := 3) hx hb ht xc_Disk hown hK hP (mo (by decide)) rfl (by decide) fl_Disk_24 rfl rfl rfl d_Disk_writeResult_23 ?_
    refine lv_aload_n hx hb d_Disk_writeResult_26 rfl (lv_at hl 0 rfl) ?_
    refine x_get (v := .int (nI (gN σ 37 64))) (k := 5) hx hb ht xc_Disk hown hK hP (mo (by decide)) rfl (by decide) fl_Disk_31 rfl rfl rfl d_Disk_writeResult_27 ?_
    refine lv_iload_n hx hb d_Disk_writeResult_30 rfl (lv_at hl 2 rfl) ?_
    refine x_iast (κ := 110) (n := 10) (x := d) hx hb hK hP hJ hw hS (mo (by decide)) rfl (by decide) rfl rfl (by omega) (by omega) d_Disk_writeResult_31 (fun H locs hP hS => ?_)
    have hWf : Wf nw (sI (kcopy σ (69 + (gN σ 37 64)) q) 110 (gN σ 37 64) d) := wf_I hWf
    refine lv_aload_n hx hb d_Disk_writeResult_32 rfl (lv_at hl 0 rfl) ?_
    refine lv_dup hx hb d_Disk_writeResult_33 rfl ?_
    refine x_get (v := .int (nI (gN σ 37 64))) (k := 5) hx hb ht xc_Disk hown hK hP (mo (by decide)) rfl (by decide) fl_Disk_31 rfl rfl rfl d_Disk_writeResult_34 ?_
    refine lv_iconst (v := (nI 1)) hx hb d_Disk_writeResult_37 (by decide) ?_
    refine x_iaddN hx hb d_Disk_writeResult_38 ?_
    refine x_put (σ' := sN (sI (kcopy σ (69 + (gN σ 37 64)) q) 110 (gN σ 37 64) d) 37 64 ((gN σ 37 64) + 1)) (v := .int (nI ((gN σ 37 64) + 1))) (k := 5) hx hb ht xc_Disk t_Disk t_Disk_ok n_Disk hown hK hP hJ hw hS (mo (by decide)) rfl (by decide) fl_Disk_31 rfl rfl rfl off_N rfl rfl rfl d_Disk_writeResult_39 (fun H locs hP hS => ?_)
    have hWf : Wf nw (sN (sI (kcopy σ (69 + (gN σ 37 64)) q) 110 (gN σ 37 64) d) 37 64 ((gN σ 37 64) + 1)) := wf_37 hWf (by omega)
    exact x_vret hx hb hr hlk hK hP hS d_Disk_writeResult_42 (by unfold dWrRes; rw [if_pos h1])
set_option maxHeartbeats 4000000 in
set_option maxRecDepth 100000 in
theorem c_Disk_isOutput (l : Launch) (D : va_G) (dA : Nat → ClassId) (ad : Nat → Nat) (nw : Nat) (hJ : Inj ad (obC nw)) (hnw : nw ≤ 4) (σ : Sg) (d : Int32) (hWf : Wf nw σ) : CI l D clX (tyX dA) (SC nw) ad dA (obC nw) NL y_Disk_isOutput w_Disk_isOutput { frames := 0, cells := 0, slots := 0, locals := 0 } [.ref (ad 64), .int d] σ ((bI (dOut σ d))) σ := by
  refine x_of (WS := WS) (cc := b_Disk_isOutput) (maxL := 3) (ret := (some .boolean)) (by decide) rfl (Nat.le_of_ble_eq_true rfl) ?_
  intro pp ee ss mm below meth cdd hx hb hml hr hlk ht hown hnm hN hK hP ls hl
  have hl : lv_has ls 3 [(0, .ref (ad 64)), (1, .int d)] := hl
  have hS : va_S (Ad ad (obC nw)) ss.heap ss.heap [] := va_S.rf
  have hw := swfC hnw
  have hWn := hWf.n
  have hWq := hWf.q
  have hWit := hWf.it
  have hWbl := hWf.bl
  have hWrs := hWf.rs
  have hWlt := hWf.lt
  have hWln := hWf.ln
  have hrs := hWf.rs
  refine lv_iconst (v := (nI 0)) hx hb d_Disk_isOutput_0 (by decide) ?_
  refine lv_istore_n (lv' := [(2, .int (nI 0)), (0, .ref (ad 64)), (1, .int d)]) hx hb d_Disk_isOutput_1 rfl hl (by decide) rfl (fun ls hl => ?_)
  refine x_loop (pc := 2) (α := Nat) (nL := 3) (fun i => (gN σ 37 64) - i) (fun i => σ) (fun i => [(2, .int (nI i)), (1, .int d), (0, .ref (ad 64))]) (fun i => i ≤ gN σ 37 64 ∧ ∀ j, j < i → (fun i => decide (gI σ 110 i = d)) j = false) ?_ 0 ⟨Nat.zero_le _, fun j hj => absurd hj (Nat.not_lt_zero j)⟩ hP hS (lv_sub hl [0, 2, 1] rfl)
  clear hP hS hl
  intro i ⟨hi, h0⟩ H locs ls hP hS hl ih
  have hi : i ≤ gN σ 37 64 := hi
  have hl : lv_has ls 3 [(2, .int (nI i)), (1, .int d), (0, .ref (ad 64))] := hl
  have hP : va_P D clX (wd (SC nw) ad dA (obC nw) σ) H := hP
  refine lv_iload_n hx hb d_Disk_isOutput_2 rfl (lv_at hl 0 rfl) ?_
  refine lv_aload_n hx hb d_Disk_isOutput_3 rfl (lv_at hl 2 rfl) ?_
  refine x_get (v := .int (nI (gN σ 37 64))) (k := 5) hx hb ht xc_Disk hown hK hP (mo (by decide)) rfl (by decide) fl_Disk_31 rfl rfl rfl d_Disk_isOutput_4 ?_
  refine x_icmp_geN (tgt := 28) hx hb d_Disk_isOutput_7 (by decide) (by omega) (by omega) (fun h1 => ?_) (fun h1 => ?_)
  · refine lv_iconst (v := (nI 0)) hx hb d_Disk_isOutput_28 (by decide) ?_
    exact x_zret (b := false) hx hb hr hlk hK hP hS d_Disk_isOutput_29 rfl (by unfold dOut; rw [fnd_none (fun j hj => h0 j (by omega))]; rfl) rfl
  · refine lv_aload_n hx hb d_Disk_isOutput_10 rfl (lv_at hl 2 rfl) ?_
    refine x_get (v := .ref (ad 68)) (k := 3) hx hb ht xc_Disk hown hK hP (mo (by decide)) rfl (by decide) fl_Disk_24 rfl rfl rfl d_Disk_isOutput_11 ?_
    refine lv_iload_n hx hb d_Disk_isOutput_14 rfl (lv_at hl 0 rfl) ?_
    refine x_iald (κ := 110) (n := 10) hx hb hK hP (mo (by decide)) rfl (by decide) rfl rfl (by omega) (by omega) d_Disk_isOutput_15 ?_
    refine lv_iload_n hx hb d_Disk_isOutput_16 rfl (lv_at hl 1 rfl) ?_
    refine lv_icmp_ne (tgt := 22) hx hb d_Disk_isOutput_17 (by decide) (fun h2 => ?_) (fun h2 => ?_)
    · refine lv_iinc (lv' := [(2, .int (nI (i + 1))), (1, .int d), (0, .ref (ad 64))]) (v := (nI (i + 1))) hx hb d_Disk_isOutput_22 hl (k := 0) rfl (nI_add _ _) (by decide) rfl (fun ls hl => ?_)
      refine lv_goto (tgt := 2) hx hb d_Disk_isOutput_25 (by decide) ?_
      exact ih (i + 1) ⟨by omega, lt_s h0 (decide_eq_false h2)⟩ (by omega) H locs ls hP hS (lv_sub hl [0, 1, 2] rfl)
    · refine lv_iconst (v := (nI 1)) hx hb d_Disk_isOutput_20 (by decide) ?_
      exact x_zret (b := true) hx hb hr hlk hK hP hS d_Disk_isOutput_21 rfl (by unfold dOut; rw [fnd_some (by omega) (decide_eq_true h2) h0]; rfl) rfl
set_option maxHeartbeats 4000000 in
set_option maxRecDepth 100000 in
theorem c_Queue_append (l : Launch) (D : va_G) (dA : Nat → ClassId) (ad : Nat → Nat) (nw : Nat) (hJ : Inj ad (obC nw)) (hnw : nw ≤ 4) (σ : Sg) (q : Nat) (hWf : Wf nw σ) (hk_q : kdC q = 1) (hm_q : q ∈ obC nw) : CV l D clX (tyX dA) (SC nw) ad dA (obC nw) NL y_Queue_append w_Queue_append { frames := 2, cells := 0, slots := 0, locals := 45 } [.ref (ad 79), .ref (ad q)] σ (qApp σ q) := by
  refine x_of (WS := WS) (cc := b_Queue_append) (maxL := 2) (ret := none) (by decide) rfl (Nat.le_of_ble_eq_true rfl) ?_
  intro pp ee ss mm below meth cdd hx hb hml hr hlk ht hown hnm hN hK hP ls hl
  have hl : lv_has ls 2 [(0, .ref (ad 79)), (1, .ref (ad q))] := hl
  have hS : va_S (Ad ad (obC nw)) ss.heap ss.heap [] := va_S.rf
  have hw := swfC hnw
  have hWn := hWf.n
  have hWq := hWf.q
  have hWit := hWf.it
  have hWbl := hWf.bl
  have hWrs := hWf.rs
  have hWlt := hWf.lt
  have hWln := hWf.ln
  refine lv_aload_n hx hb d_Queue_append_0 rfl (lv_at hl 0 rfl) ?_
  refine x_get (v := .int (nI (gN σ 39 79))) (k := 1) hx hb ht xc_Queue hown hK hP (mo (by decide)) rfl (by decide) fl_Queue_17 rfl rfl rfl d_Queue_append_1 ?_
  refine lv_aload_n hx hb d_Queue_append_4 rfl (lv_at hl 0 rfl) ?_
  refine x_get (v := .ref (ad 80)) (k := 0) hx hb ht xc_Queue hown hK hP (mo (by decide)) rfl (by decide) fl_Queue_11 rfl rfl rfl d_Queue_append_5 ?_
  refine x_alen (κ := 111) (n := 10) hx hb hK hP (mo (by decide)) rfl (by decide) rfl rfl d_Queue_append_8 ?_
  refine x_icmp_geN (tgt := 35) hx hb d_Queue_append_9 (by decide) (by omega) (by decide) (fun h1 => ?_) (fun h1 => ?_)
  · exact x_vret hx hb hr hlk hK hP hS d_Queue_append_35 (by unfold qApp; rw [if_neg (by omega)])
  · refine lv_aload_n hx hb d_Queue_append_12 rfl (lv_at hl 0 rfl) ?_
    refine x_get (v := .ref (ad 80)) (k := 0) hx hb ht xc_Queue hown hK hP (mo (by decide)) rfl (by decide) fl_Queue_11 rfl rfl rfl d_Queue_append_13 ?_
    refine lv_aload_n hx hb d_Queue_append_16 rfl (lv_at hl 0 rfl) ?_
    refine x_get (v := .int (nI (gN σ 39 79))) (k := 1) hx hb ht xc_Queue hown hK hP (mo (by decide)) rfl (by decide) fl_Queue_17 rfl rfl rfl d_Queue_append_17 ?_
    refine x_aald (κ := 111) (n := 10) hx hb hK hP (mo (by decide)) rfl (by decide) rfl rfl (by omega) (by omega) d_Queue_append_20 ?_
    refine lv_aload_n hx hb d_Queue_append_21 rfl (lv_at hl 1 rfl) ?_
    refine x_cv (x_rV (As := [.ref (ad q)]) (rest := []) hx hb hml hown ht gW cs_Queue_26 (c_Key_copy l D dA ad nw hJ hnw σ (gN σ 111 (gN σ 39 79)) q (hWf.Q _ (by omega)).1 (mo (Or.inl (hWf.Q _ (by omega)).2)) hk_q hm_q) rfl rfl (by decide) xc_Key hN hK hP (mo (Or.inl (hWf.Q _ (by omega)).2)) (hWf.Q _ (by omega)).1 rfl hl.1 rfl (Nat.le_of_ble_eq_true rfl) d_Queue_append_22 (by decide)) hS (fun H locs hP hS => ?_)
    have hWf : Wf nw (kcopy σ (gN σ 111 (gN σ 39 79)) q) := wf_kc hWf
    refine lv_aload_n hx hb d_Queue_append_25 rfl (lv_at hl 0 rfl) ?_
    refine lv_dup hx hb d_Queue_append_26 rfl ?_
    refine x_get (v := .int (nI (gN σ 39 79))) (k := 1) hx hb ht xc_Queue hown hK hP (mo (by decide)) rfl (by decide) fl_Queue_17 rfl rfl rfl d_Queue_append_27 ?_
    refine lv_iconst (v := (nI 1)) hx hb d_Queue_append_30 (by decide) ?_
    refine x_iaddN hx hb d_Queue_append_31 ?_
    refine x_put (σ' := sN (kcopy σ (gN σ 111 (gN σ 39 79)) q) 39 79 ((gN σ 39 79) + 1)) (v := .int (nI ((gN σ 39 79) + 1))) (k := 1) hx hb ht xc_Queue t_Queue t_Queue_ok n_Queue hown hK hP hJ hw hS (mo (by decide)) rfl (by decide) fl_Queue_17 rfl rfl rfl off_N rfl rfl rfl d_Queue_append_32 (fun H locs hP hS => ?_)
    have hWf : Wf nw (sN (kcopy σ (gN σ 111 (gN σ 39 79)) q) 39 79 ((gN σ 39 79) + 1)) := wf_39 hWf (by omega)
    exact x_vret hx hb hr hlk hK hP hS d_Queue_append_35 (by unfold qApp; rw [if_pos h1])
set_option maxHeartbeats 4000000 in
set_option maxRecDepth 100000 in
theorem c_Queue_first (l : Launch) (D : va_G) (dA : Nat → ClassId) (ad : Nat → Nat) (nw : Nat) (hJ : Inj ad (obC nw)) (hnw : nw ≤ 4) (σ : Sg)  (hWf : Wf nw σ) : CR l D clX (tyX dA) (SC nw) ad dA (obC nw) NL y_Queue_first w_Queue_first { frames := 0, cells := 0, slots := 0, locals := 0 } [.ref (ad 79)] σ (gN σ 111 0) σ := by
  refine x_of (WS := WS) (cc := b_Queue_first) (maxL := 1) (ret := (some (.object "LeasedBuilds$Key"))) (by decide) rfl (Nat.le_of_ble_eq_true rfl) ?_
  intro pp ee ss mm below meth cdd hx hb hml hr hlk ht hown hnm hN hK hP ls hl
  have hl : lv_has ls 1 [(0, .ref (ad 79))] := hl
  have hS : va_S (Ad ad (obC nw)) ss.heap ss.heap [] := va_S.rf
  have hw := swfC hnw
  have hWn := hWf.n
  have hWq := hWf.q
  have hWit := hWf.it
  have hWbl := hWf.bl
  have hWrs := hWf.rs
  have hWlt := hWf.lt
  have hWln := hWf.ln
  refine lv_aload_n hx hb d_Queue_first_0 rfl (lv_at hl 0 rfl) ?_
  refine x_get (v := .ref (ad 80)) (k := 0) hx hb ht xc_Queue hown hK hP (mo (by decide)) rfl (by decide) fl_Queue_11 rfl rfl rfl d_Queue_first_1 ?_
  refine lv_iconst (v := (nI 0)) hx hb d_Queue_first_4 (by decide) ?_
  refine x_aald (κ := 111) (n := 10) hx hb hK hP (mo (by decide)) rfl (by decide) rfl rfl (by omega) (by omega) d_Queue_first_5 ?_
  exact x_aret hx hb hr hlk hK hP hS d_Queue_first_6 rfl rfl
set_option maxHeartbeats 4000000 in
set_option maxRecDepth 100000 in
theorem c_Queue_names (l : Launch) (D : va_G) (dA : Nat → ClassId) (ad : Nat → Nat) (nw : Nat) (hJ : Inj ad (obC nw)) (hnw : nw ≤ 4) (σ : Sg) (d : Int32) (hWf : Wf nw σ) : CI l D clX (tyX dA) (SC nw) ad dA (obC nw) NL y_Queue_names w_Queue_names { frames := 1, cells := 0, slots := 0, locals := 21 } [.ref (ad 79), .int d] σ ((bI (qNames σ d))) σ := by
  refine x_of (WS := WS) (cc := b_Queue_names) (maxL := 3) (ret := (some .boolean)) (by decide) rfl (Nat.le_of_ble_eq_true rfl) ?_
  intro pp ee ss mm below meth cdd hx hb hml hr hlk ht hown hnm hN hK hP ls hl
  have hl : lv_has ls 3 [(0, .ref (ad 79)), (1, .int d)] := hl
  have hS : va_S (Ad ad (obC nw)) ss.heap ss.heap [] := va_S.rf
  have hw := swfC hnw
  have hWn := hWf.n
  have hWq := hWf.q
  have hWit := hWf.it
  have hWbl := hWf.bl
  have hWrs := hWf.rs
  have hWlt := hWf.lt
  have hWln := hWf.ln
  have hq := hWf.q
  refine lv_iconst (v := (nI 0)) hx hb d_Queue_names_0 (by decide) ?_
  refine lv_istore_n (lv' := [(2, .int (nI 0)), (0, .ref (ad 79)), (1, .int d)]) hx hb d_Queue_names_1 rfl hl (by decide) rfl (fun ls hl => ?_)
  refine x_loop (pc := 2) (α := Nat) (nL := 3) (fun i => (gN σ 39 79) - i) (fun i => σ) (fun i => [(2, .int (nI i)), (1, .int d), (0, .ref (ad 79))]) (fun i => i ≤ gN σ 39 79 ∧ ∀ j, j < i → (fun i => kNames σ (gN σ 111 i) d) j = false) ?_ 0 ⟨Nat.zero_le _, fun j hj => absurd hj (Nat.not_lt_zero j)⟩ hP hS (lv_sub hl [0, 2, 1] rfl)
  clear hP hS hl
  intro i ⟨hi, h0⟩ H locs ls hP hS hl ih
  have hi : i ≤ gN σ 39 79 := hi
  have hl : lv_has ls 3 [(2, .int (nI i)), (1, .int d), (0, .ref (ad 79))] := hl
  have hP : va_P D clX (wd (SC nw) ad dA (obC nw) σ) H := hP
  refine lv_iload_n hx hb d_Queue_names_2 rfl (lv_at hl 0 rfl) ?_
  refine lv_aload_n hx hb d_Queue_names_3 rfl (lv_at hl 2 rfl) ?_
  refine x_get (v := .int (nI (gN σ 39 79))) (k := 1) hx hb ht xc_Queue hown hK hP (mo (by decide)) rfl (by decide) fl_Queue_17 rfl rfl rfl d_Queue_names_4 ?_
  refine x_icmp_geN (tgt := 31) hx hb d_Queue_names_7 (by decide) (by omega) (by omega) (fun h1 => ?_) (fun h1 => ?_)
  · refine lv_iconst (v := (nI 0)) hx hb d_Queue_names_31 (by decide) ?_
    exact x_zret (b := false) hx hb hr hlk hK hP hS d_Queue_names_32 rfl (by unfold qNames; rw [fnd_none (fun j hj => h0 j (by omega))]; rfl) rfl
  · refine lv_aload_n hx hb d_Queue_names_10 rfl (lv_at hl 2 rfl) ?_
    refine x_get (v := .ref (ad 80)) (k := 0) hx hb ht xc_Queue hown hK hP (mo (by decide)) rfl (by decide) fl_Queue_11 rfl rfl rfl d_Queue_names_11 ?_
    refine lv_iload_n hx hb d_Queue_names_14 rfl (lv_at hl 0 rfl) ?_
    refine x_aald (κ := 111) (n := 10) hx hb hK hP (mo (by decide)) rfl (by decide) rfl rfl (by omega) (by omega) d_Queue_names_15 ?_
    refine lv_iload_n hx hb d_Queue_names_16 rfl (lv_at hl 1 rfl) ?_
    refine x_ci (x_rV (As := [.int d]) (rest := []) hx hb hml hown ht gW cs_Queue_30 (c_Key_names l D dA ad nw hJ hnw σ (gN σ 111 i) d (hWf.Q i (by omega)).1 (mo (Or.inl (hWf.Q i (by omega)).2))) rfl rfl (by decide) xc_Key hN hK hP (mo (Or.inl (hWf.Q i (by omega)).2)) (hWf.Q i (by omega)).1 rfl hl.1 rfl (Nat.le_of_ble_eq_true rfl) d_Queue_names_17 (by decide)) hS (fun H locs hP hS => ?_)
    refine x_ifeqB (tgt := 25) hx hb d_Queue_names_20 (by decide) (fun h2 => ?_) (fun h2 => ?_)
    · refine lv_iinc (lv' := [(2, .int (nI (i + 1))), (1, .int d), (0, .ref (ad 79))]) (v := (nI (i + 1))) hx hb d_Queue_names_25 hl (k := 0) rfl (nI_add _ _) (by decide) rfl (fun ls hl => ?_)
      refine lv_goto (tgt := 2) hx hb d_Queue_names_28 (by decide) ?_
      exact ih (i + 1) ⟨by omega, lt_s h0 h2⟩ (by omega) H locs ls hP hS (lv_sub hl [0, 1, 2] rfl)
    · refine lv_iconst (v := (nI 1)) hx hb d_Queue_names_23 (by decide) ?_
      exact x_zret (b := true) hx hb hr hlk hK hP hS d_Queue_names_24 rfl (by unfold qNames; rw [fnd_some (by omega) h2 h0]; rfl) rfl
set_option maxHeartbeats 4000000 in
set_option maxRecDepth 100000 in
theorem c_Leases_workers (l : Launch) (D : va_G) (dA : Nat → ClassId) (ad : Nat → Nat) (nw : Nat) (hJ : Inj ad (obC nw)) (hnw : nw ≤ 4) (σ : Sg)   : CI l D clX (tyX dA) (SC nw) ad dA (obC nw) NL y_Leases_workers w_Leases_workers { frames := 0, cells := 0, slots := 0, locals := 0 } [.ref (ad 91)] σ ((nI nw)) σ := by
  refine x_of (WS := WS) (cc := b_Leases_workers) (maxL := 1) (ret := (some .int)) (by decide) rfl (Nat.le_of_ble_eq_true rfl) ?_
  intro pp ee ss mm below meth cdd hx hb hml hr hlk ht hown hnm hN hK hP ls hl
  have hl : lv_has ls 1 [(0, .ref (ad 91))] := hl
  have hS : va_S (Ad ad (obC nw)) ss.heap ss.heap [] := va_S.rf
  have hw := swfC hnw
  refine lv_aload_n hx hb d_Leases_workers_0 rfl (lv_at hl 0 rfl) ?_
  refine x_get (v := .ref (ad 92)) (k := 0) hx hb ht xc_Leases hown hK hP (mo (by decide)) rfl (by decide) fl_Leases_15 rfl rfl rfl d_Leases_workers_1 ?_
  refine x_alen (κ := 112) (n := nw) hx hb hK hP (mo (by decide)) rfl (by decide) rfl rfl d_Leases_workers_4 ?_
  exact x_iret hx hb hr hlk hK hP hS d_Leases_workers_5 rfl rfl
set_option maxHeartbeats 4000000 in
set_option maxRecDepth 100000 in
theorem c_Leases_has (l : Launch) (D : va_G) (dA : Nat → ClassId) (ad : Nat → Nat) (nw : Nat) (hJ : Inj ad (obC nw)) (hnw : nw ≤ 4) (σ : Sg) (w : Int32)  : CI l D clX (tyX dA) (SC nw) ad dA (obC nw) NL y_Leases_has w_Leases_has { frames := 0, cells := 0, slots := 0, locals := 0 } [.ref (ad 91), .int w] σ ((bI (lHas σ nw w))) σ := by
  refine x_of (WS := WS) (cc := b_Leases_has) (maxL := 2) (ret := (some .boolean)) (by decide) rfl (Nat.le_of_ble_eq_true rfl) ?_
  intro pp ee ss mm below meth cdd hx hb hml hr hlk ht hown hnm hN hK hP ls hl
  have hl : lv_has ls 2 [(0, .ref (ad 91)), (1, .int w)] := hl
  have hS : va_S (Ad ad (obC nw)) ss.heap ss.heap [] := va_S.rf
  have hw := swfC hnw
  refine lv_iload_n hx hb d_Leases_has_0 rfl (lv_at hl 1 rfl) ?_
  refine lv_iconst (v := (nI 1)) hx hb d_Leases_has_1 (by decide) ?_
  refine lv_icmp_lt (tgt := 29) hx hb d_Leases_has_2 (by decide) (fun h1 => ?_) (fun h1 => ?_)
  · refine lv_iconst (v := (nI 0)) hx hb d_Leases_has_29 (by decide) ?_
    exact x_zret (b := false) hx hb hr hlk hK hP hS d_Leases_has_30 rfl (lHas_lo h1) rfl
  · refine lv_iload_n hx hb d_Leases_has_5 rfl (lv_at hl 1 rfl) ?_
    refine lv_aload_n hx hb d_Leases_has_6 rfl (lv_at hl 0 rfl) ?_
    refine x_get (v := .ref (ad 92)) (k := 0) hx hb ht xc_Leases hown hK hP (mo (by decide)) rfl (by decide) fl_Leases_15 rfl rfl rfl d_Leases_has_7 ?_
    refine x_alen (κ := 112) (n := nw) hx hb hK hP (mo (by decide)) rfl (by decide) rfl rfl d_Leases_has_10 ?_
    refine lv_icmp_gt (tgt := 29) hx hb d_Leases_has_11 (by decide) (fun h2 => ?_) (fun h2 => ?_)
    · refine lv_iconst (v := (nI 0)) hx hb d_Leases_has_29 (by decide) ?_
      exact x_zret (b := false) hx hb hr hlk hK hP hS d_Leases_has_30 rfl (lHas_hi hnw h2) rfl
    · obtain ⟨j, hj, rfl⟩ := w_of hnw h1 h2
      refine lv_aload_n hx hb d_Leases_has_14 rfl (lv_at hl 0 rfl) ?_
      refine x_get (v := .ref (ad 92)) (k := 0) hx hb ht xc_Leases hown hK hP (mo (by decide)) rfl (by decide) fl_Leases_15 rfl rfl rfl d_Leases_has_15 ?_
      refine lv_iload_n hx hb d_Leases_has_18 rfl (lv_at hl 1 rfl) ?_
      refine lv_iconst (v := (nI 1)) hx hb d_Leases_has_19 (by decide) ?_
      refine x_isubN hx hb d_Leases_has_20 (by omega) ?_
      refine W.eq (g2 := F0 mm 21 ls [.int (nI j), .ref (ad 92)]) rfl ?_
      refine x_zald (κ := 112) (n := nw) hx hb hK hP (mo (by decide)) rfl (by decide) rfl rfl (by omega) (by omega) d_Leases_has_21 ?_
      refine x_ifeqB (tgt := 29) hx hb d_Leases_has_22 (by decide) (fun h3 => ?_) (fun h3 => ?_)
      · refine lv_iconst (v := (nI 0)) hx hb d_Leases_has_29 (by decide) ?_
        exact x_zret (b := false) hx hb hr hlk hK hP hS d_Leases_has_30 rfl (by rw [lHas_nI (by omega)]; simp [h3, hj]) rfl
      · refine lv_iconst (v := (nI 1)) hx hb d_Leases_has_25 (by decide) ?_
        refine lv_goto (tgt := 30) hx hb d_Leases_has_26 (by decide) ?_
        exact x_zret (b := true) hx hb hr hlk hK hP hS d_Leases_has_30 rfl (by rw [lHas_nI (by omega)]; simp [h3, hj]) rfl
set_option maxHeartbeats 4000000 in
set_option maxRecDepth 100000 in
theorem c_Leases_find (l : Launch) (D : va_G) (dA : Nat → ClassId) (ad : Nat → Nat) (nw : Nat) (hJ : Inj ad (obC nw)) (hnw : nw ≤ 4) (σ : Sg) (q : Nat) (hk_q : kdC q = 1) (hm_q : q ∈ obC nw) : CI l D clX (tyX dA) (SC nw) ad dA (obC nw) NL y_Leases_find w_Leases_find { frames := 1, cells := 0, slots := 0, locals := 21 } [.ref (ad 91), .ref (ad q)] σ ((oI (lFind σ nw q))) σ := by
  refine x_of (WS := WS) (cc := b_Leases_find) (maxL := 3) (ret := (some .int)) (by decide) rfl (Nat.le_of_ble_eq_true rfl) ?_
  intro pp ee ss mm below meth cdd hx hb hml hr hlk ht hown hnm hN hK hP ls hl
  have hl : lv_has ls 3 [(0, .ref (ad 91)), (1, .ref (ad q))] := hl
  have hS : va_S (Ad ad (obC nw)) ss.heap ss.heap [] := va_S.rf
  have hw := swfC hnw
  refine lv_iconst (v := (nI 1)) hx hb d_Leases_find_0 (by decide) ?_
  refine lv_istore_n (lv' := [(2, .int (nI 1)), (0, .ref (ad 91)), (1, .ref (ad q))]) hx hb d_Leases_find_1 rfl hl (by decide) rfl (fun ls hl => ?_)
  refine x_loop (pc := 2) (α := Nat) (nL := 3) (fun i => nw - i) (fun i => σ) (fun i => [(2, .int (nI (i + 1))), (1, .ref (ad q)), (0, .ref (ad 91))]) (fun i => i ≤ nw ∧ ∀ j, j < i → (fun i => gB σ 112 i && decide (kof σ (95 + i) = kof σ q)) j = false) ?_ 0 ⟨Nat.zero_le _, fun j hj => absurd hj (Nat.not_lt_zero j)⟩ hP hS (lv_sub hl [0, 2, 1] rfl)
  clear hP hS hl
  intro i ⟨hi, h0⟩ H locs ls hP hS hl ih
  have hi : i ≤ nw := hi
  have hl : lv_has ls 3 [(2, .int (nI (i + 1))), (1, .ref (ad q)), (0, .ref (ad 91))] := hl
  have hP : va_P D clX (wd (SC nw) ad dA (obC nw) σ) H := hP
  refine lv_iload_n hx hb d_Leases_find_2 rfl (lv_at hl 0 rfl) ?_
  refine lv_aload_n hx hb d_Leases_find_3 rfl (lv_at hl 2 rfl) ?_
  refine x_get (v := .ref (ad 92)) (k := 0) hx hb ht xc_Leases hown hK hP (mo (by decide)) rfl (by decide) fl_Leases_15 rfl rfl rfl d_Leases_find_4 ?_
  refine x_alen (κ := 112) (n := nw) hx hb hK hP (mo (by decide)) rfl (by decide) rfl rfl d_Leases_find_7 ?_
  refine x_icmp_gtN (tgt := 45) hx hb d_Leases_find_8 (by decide) (by omega) (by omega) (fun h1 => ?_) (fun h1 => ?_)
  · refine lv_iconst (v := ((-1))) hx hb d_Leases_find_45 (by decide) ?_
    exact x_iret hx hb hr hlk hK hP hS d_Leases_find_46 (by unfold lFind; rw [fnd_none (fun j hj => h0 j (by omega))]; rfl) rfl
  · refine lv_aload_n hx hb d_Leases_find_11 rfl (lv_at hl 2 rfl) ?_
    refine x_get (v := .ref (ad 92)) (k := 0) hx hb ht xc_Leases hown hK hP (mo (by decide)) rfl (by decide) fl_Leases_15 rfl rfl rfl d_Leases_find_12 ?_
    refine lv_iload_n hx hb d_Leases_find_15 rfl (lv_at hl 0 rfl) ?_
    refine lv_iconst (v := (nI 1)) hx hb d_Leases_find_16 (by decide) ?_
    refine x_isubN hx hb d_Leases_find_17 (by omega) ?_
    refine W.eq (g2 := F0 mm 18 ls [.int (nI i), .ref (ad 92)]) rfl ?_
    refine x_zald (κ := 112) (n := nw) hx hb hK hP (mo (by decide)) rfl (by decide) rfl rfl (by omega) (by omega) d_Leases_find_18 ?_
    refine x_ifeqB (tgt := 39) hx hb d_Leases_find_19 (by decide) (fun h2 => ?_) (fun h2 => ?_)
    · refine lv_iinc (lv' := [(2, .int (nI ((i + 1) + 1))), (1, .ref (ad q)), (0, .ref (ad 91))]) (v := (nI ((i + 1) + 1))) hx hb d_Leases_find_39 hl (k := 0) rfl (nI_add _ _) (by decide) rfl (fun ls hl => ?_)
      refine lv_goto (tgt := 2) hx hb d_Leases_find_42 (by decide) ?_
      exact ih (i + 1) ⟨by omega, lt_s h0 (by simp [h2])⟩ (by omega) H locs ls hP hS (lv_sub hl [0, 1, 2] rfl)
    · refine lv_aload_n hx hb d_Leases_find_22 rfl (lv_at hl 2 rfl) ?_
      refine x_get (v := .ref (ad 93)) (k := 1) hx hb ht xc_Leases hown hK hP (mo (by decide)) rfl (by decide) fl_Leases_21 rfl rfl rfl d_Leases_find_23 ?_
      refine lv_iload_n hx hb d_Leases_find_26 rfl (lv_at hl 0 rfl) ?_
      refine lv_iconst (v := (nI 1)) hx hb d_Leases_find_27 (by decide) ?_
      refine x_isubN hx hb d_Leases_find_28 (by omega) ?_
      refine W.eq (g2 := F0 mm 29 ls [.int (nI i), .ref (ad 93)]) rfl ?_
      refine x_fald (κ := 113) (n := nw) hx hb hK hP (mo (by decide)) rfl (by decide) rfl rfl (by omega) (by omega) d_Leases_find_29 ?_
      refine W.eq (g2 := F0 mm 30 ls [.ref (ad (95 + i))]) rfl ?_
      refine lv_aload_n hx hb d_Leases_find_30 rfl (lv_at hl 1 rfl) ?_
      refine x_ci (x_rV (As := [.ref (ad q)]) (rest := []) hx hb hml hown ht gW cs_Leases_30 (c_Key_isSame l D dA ad nw hJ hnw σ (95 + i) q (kd_lk (by omega)) (mo_lk (by omega)) hk_q hm_q) rfl rfl (by decide) xc_Key hN hK hP (mo_lk (by omega)) (kd_lk (by omega)) rfl hl.1 rfl (Nat.le_of_ble_eq_true rfl) d_Leases_find_31 (by decide)) hS (fun H locs hP hS => ?_)
      refine x_ifeqB (tgt := 39) hx hb d_Leases_find_34 (by decide) (fun h3 => ?_) (fun h3 => ?_)
      · refine lv_iinc (lv' := [(2, .int (nI ((i + 1) + 1))), (1, .ref (ad q)), (0, .ref (ad 91))]) (v := (nI ((i + 1) + 1))) hx hb d_Leases_find_39 hl (k := 0) rfl (nI_add _ _) (by decide) rfl (fun ls hl => ?_)
        refine lv_goto (tgt := 2) hx hb d_Leases_find_42 (by decide) ?_
        exact ih (i + 1) ⟨by omega, lt_s h0 (by simp [h2, h3])⟩ (by omega) H locs ls hP hS (lv_sub hl [0, 1, 2] rfl)
      · refine lv_iload_n hx hb d_Leases_find_37 rfl (lv_at hl 0 rfl) ?_
        exact x_iret hx hb hr hlk hK hP hS d_Leases_find_38 (by unfold lFind; rw [fnd_some (by omega) (by simp [h2, of_decide_eq_true h3]) h0]; rfl) rfl
set_option maxHeartbeats 4000000 in
set_option maxRecDepth 100000 in
theorem c_Leases_nextFree (l : Launch) (D : va_G) (dA : Nat → ClassId) (ad : Nat → Nat) (nw : Nat) (hJ : Inj ad (obC nw)) (hnw : nw ≤ 4) (σ : Sg)  (hWf : Wf nw σ) : CI l D clX (tyX dA) (SC nw) ad dA (obC nw) NL y_Leases_nextFree w_Leases_nextFree { frames := 0, cells := 0, slots := 0, locals := 0 } [.ref (ad 91)] σ ((oI (lFree σ nw))) σ := by
  refine x_of (WS := WS) (cc := b_Leases_nextFree) (maxL := 3) (ret := (some .int)) (by decide) rfl (Nat.le_of_ble_eq_true rfl) ?_
  intro pp ee ss mm below meth cdd hx hb hml hr hlk ht hown hnm hN hK hP ls hl
  have hl : lv_has ls 3 [(0, .ref (ad 91))] := hl
  have hS : va_S (Ad ad (obC nw)) ss.heap ss.heap [] := va_S.rf
  have hw := swfC hnw
  have hlt := hWf.lt
  refine lv_iconst (v := (nI 1)) hx hb d_Leases_nextFree_0 (by decide) ?_
  refine lv_istore_n (lv' := [(1, .int (nI 1)), (0, .ref (ad 91))]) hx hb d_Leases_nextFree_1 rfl hl (by decide) rfl (fun ls hl => ?_)
  refine x_loop (pc := 2) (α := Nat) (nL := 3) (fun i => nw - i) (fun i => σ) (fun i => [(1, .int (nI (i + 1))), (0, .ref (ad 91))]) (fun i => i ≤ nw ∧ ∀ j, j < i → (fun i => !gB σ 112 (wrap nw (gN σ 54 91 + (i + 1)) - 1)) j = false) ?_ 0 ⟨Nat.zero_le _, fun j hj => absurd hj (Nat.not_lt_zero j)⟩ hP hS (lv_sub hl [0, 1] rfl)
  clear hP hS hl
  intro i ⟨hi, h0⟩ H locs ls hP hS hl ih
  have hi : i ≤ nw := hi
  have hl : lv_has ls 3 [(1, .int (nI (i + 1))), (0, .ref (ad 91))] := hl
  have hP : va_P D clX (wd (SC nw) ad dA (obC nw) σ) H := hP
  refine lv_iload_n hx hb d_Leases_nextFree_2 rfl (lv_at hl 0 rfl) ?_
  refine lv_aload_n hx hb d_Leases_nextFree_3 rfl (lv_at hl 1 rfl) ?_
  refine x_get (v := .ref (ad 92)) (k := 0) hx hb ht xc_Leases hown hK hP (mo (by decide)) rfl (by decide) fl_Leases_15 rfl rfl rfl d_Leases_nextFree_4 ?_
  refine x_alen (κ := 112) (n := nw) hx hb hK hP (mo (by decide)) rfl (by decide) rfl rfl d_Leases_nextFree_7 ?_
  refine x_icmp_gtN (tgt := 66) hx hb d_Leases_nextFree_8 (by decide) (by omega) (by omega) (fun h1 => ?_) (fun h1 => ?_)
  · refine lv_iconst (v := ((-1))) hx hb d_Leases_nextFree_66 (by decide) ?_
    exact x_iret hx hb hr hlk hK hP hS d_Leases_nextFree_67 (by unfold lFree; rw [fnd_none (fun j hj => h0 j (by omega))]; rfl) rfl
  · refine lv_aload_n hx hb d_Leases_nextFree_11 rfl (lv_at hl 1 rfl) ?_
    refine x_get (v := .int (nI (gN σ 54 91))) (k := 3) hx hb ht xc_Leases hown hK hP (mo (by decide)) rfl (by decide) fl_Leases_9 rfl rfl rfl d_Leases_nextFree_12 ?_
    refine lv_iload_n hx hb d_Leases_nextFree_15 rfl (lv_at hl 0 rfl) ?_
    refine x_iaddN hx hb d_Leases_nextFree_16 ?_
    refine lv_aload_n hx hb d_Leases_nextFree_17 rfl (lv_at hl 1 rfl) ?_
    refine x_get (v := .ref (ad 92)) (k := 0) hx hb ht xc_Leases hown hK hP (mo (by decide)) rfl (by decide) fl_Leases_15 rfl rfl rfl d_Leases_nextFree_18 ?_
    refine x_alen (κ := 112) (n := nw) hx hb hK hP (mo (by decide)) rfl (by decide) rfl rfl d_Leases_nextFree_21 ?_
    refine x_icmp_leN (tgt := 40) hx hb d_Leases_nextFree_22 (by decide) (by omega) (by omega) (fun h2 => ?_) (fun h2 => ?_)
    · refine lv_aload_n hx hb d_Leases_nextFree_40 rfl (lv_at hl 1 rfl) ?_
      refine x_get (v := .int (nI (gN σ 54 91))) (k := 3) hx hb ht xc_Leases hown hK hP (mo (by decide)) rfl (by decide) fl_Leases_9 rfl rfl rfl d_Leases_nextFree_41 ?_
      refine lv_iload_n hx hb d_Leases_nextFree_44 rfl (lv_at hl 0 rfl) ?_
      refine x_iaddN hx hb d_Leases_nextFree_45 ?_
      refine lv_istore_n (lv' := [(2, .int (nI ((gN σ 54 91) + (i + 1)))), (1, .int (nI (i + 1))), (0, .ref (ad 91))]) hx hb d_Leases_nextFree_46 rfl hl (by decide) rfl (fun ls hl => ?_)
      refine lv_aload_n hx hb d_Leases_nextFree_47 rfl (lv_at hl 2 rfl) ?_
      refine x_get (v := .ref (ad 92)) (k := 0) hx hb ht xc_Leases hown hK hP (mo (by decide)) rfl (by decide) fl_Leases_15 rfl rfl rfl d_Leases_nextFree_48 ?_
      refine lv_iload_n hx hb d_Leases_nextFree_51 rfl (lv_at hl 0 rfl) ?_
      refine lv_iconst (v := (nI 1)) hx hb d_Leases_nextFree_52 (by decide) ?_
      refine x_isubN hx hb d_Leases_nextFree_53 (by omega) ?_
      refine x_zald (κ := 112) (n := nw) hx hb hK hP (mo (by decide)) rfl (by decide) rfl rfl (by omega) (by omega) d_Leases_nextFree_54 ?_
      refine x_ifneB (tgt := 60) hx hb d_Leases_nextFree_55 (by decide) (fun h3 => ?_) (fun h3 => ?_)
      · refine lv_iinc (lv' := [(1, .int (nI ((i + 1) + 1))), (2, .int (nI ((gN σ 54 91) + (i + 1)))), (0, .ref (ad 91))]) (v := (nI ((i + 1) + 1))) hx hb d_Leases_nextFree_60 hl (k := 1) rfl (nI_add _ _) (by decide) rfl (fun ls hl => ?_)
        refine lv_goto (tgt := 2) hx hb d_Leases_nextFree_63 (by decide) ?_
        exact ih (i + 1) ⟨by omega, lt_s h0 (by show (!gB σ 112 (wrap nw (gN σ 54 91 + (i + 1)) - 1)) = false; rw [wrap_lo (by omega), h3]; rfl)⟩ (by omega) H locs ls hP hS (lv_sub hl [0, 2] rfl)
      · refine lv_iload_n hx hb d_Leases_nextFree_58 rfl (lv_at hl 0 rfl) ?_
        exact x_iret hx hb hr hlk hK hP hS d_Leases_nextFree_59 (by unfold lFree; rw [fnd_some (by omega) (by show (!gB σ 112 (wrap nw (gN σ 54 91 + (i + 1)) - 1)) = true; rw [wrap_lo (by omega), h3]; rfl) h0]; show nI _ = nI (wrap nw (gN σ 54 91 + (i + 1))); rw [wrap_lo (by omega)]) rfl
    · refine lv_aload_n hx hb d_Leases_nextFree_25 rfl (lv_at hl 1 rfl) ?_
      refine x_get (v := .int (nI (gN σ 54 91))) (k := 3) hx hb ht xc_Leases hown hK hP (mo (by decide)) rfl (by decide) fl_Leases_9 rfl rfl rfl d_Leases_nextFree_26 ?_
      refine lv_iload_n hx hb d_Leases_nextFree_29 rfl (lv_at hl 0 rfl) ?_
      refine x_iaddN hx hb d_Leases_nextFree_30 ?_
      refine lv_aload_n hx hb d_Leases_nextFree_31 rfl (lv_at hl 1 rfl) ?_
      refine x_get (v := .ref (ad 92)) (k := 0) hx hb ht xc_Leases hown hK hP (mo (by decide)) rfl (by decide) fl_Leases_15 rfl rfl rfl d_Leases_nextFree_32 ?_
      refine x_alen (κ := 112) (n := nw) hx hb hK hP (mo (by decide)) rfl (by decide) rfl rfl d_Leases_nextFree_35 ?_
      refine x_isubN hx hb d_Leases_nextFree_36 (by omega) ?_
      refine lv_goto (tgt := 46) hx hb d_Leases_nextFree_37 (by decide) ?_
      refine lv_istore_n (lv' := [(2, .int (nI (((gN σ 54 91) + (i + 1)) - nw))), (1, .int (nI (i + 1))), (0, .ref (ad 91))]) hx hb d_Leases_nextFree_46 rfl hl (by decide) rfl (fun ls hl => ?_)
      refine lv_aload_n hx hb d_Leases_nextFree_47 rfl (lv_at hl 2 rfl) ?_
      refine x_get (v := .ref (ad 92)) (k := 0) hx hb ht xc_Leases hown hK hP (mo (by decide)) rfl (by decide) fl_Leases_15 rfl rfl rfl d_Leases_nextFree_48 ?_
      refine lv_iload_n hx hb d_Leases_nextFree_51 rfl (lv_at hl 0 rfl) ?_
      refine lv_iconst (v := (nI 1)) hx hb d_Leases_nextFree_52 (by decide) ?_
      refine x_isubN hx hb d_Leases_nextFree_53 (by omega) ?_
      refine x_zald (κ := 112) (n := nw) hx hb hK hP (mo (by decide)) rfl (by decide) rfl rfl (by omega) (by omega) d_Leases_nextFree_54 ?_
      refine x_ifneB (tgt := 60) hx hb d_Leases_nextFree_55 (by decide) (fun h4 => ?_) (fun h4 => ?_)
      · refine lv_iinc (lv' := [(1, .int (nI ((i + 1) + 1))), (2, .int (nI (((gN σ 54 91) + (i + 1)) - nw))), (0, .ref (ad 91))]) (v := (nI ((i + 1) + 1))) hx hb d_Leases_nextFree_60 hl (k := 1) rfl (nI_add _ _) (by decide) rfl (fun ls hl => ?_)
        refine lv_goto (tgt := 2) hx hb d_Leases_nextFree_63 (by decide) ?_
        exact ih (i + 1) ⟨by omega, lt_s h0 (by show (!gB σ 112 (wrap nw (gN σ 54 91 + (i + 1)) - 1)) = false; rw [wrap_hi (by omega), h4]; rfl)⟩ (by omega) H locs ls hP hS (lv_sub hl [0, 2] rfl)
      · refine lv_iload_n hx hb d_Leases_nextFree_58 rfl (lv_at hl 0 rfl) ?_
        exact x_iret hx hb hr hlk hK hP hS d_Leases_nextFree_59 (by unfold lFree; rw [fnd_some (by omega) (by show (!gB σ 112 (wrap nw (gN σ 54 91 + (i + 1)) - 1)) = true; rw [wrap_hi (by omega), h4]; rfl) h0]; show nI _ = nI (wrap nw (gN σ 54 91 + (i + 1))); rw [wrap_hi (by omega)]) rfl
set_option maxHeartbeats 4000000 in
set_option maxRecDepth 100000 in
theorem c_Leases_give (l : Launch) (D : va_G) (dA : Nat → ClassId) (ad : Nat → Nat) (nw : Nat) (hJ : Inj ad (obC nw)) (hnw : nw ≤ 4) (σ : Sg) (w : Nat) (q : Nat) (t : Nat) (hk_q : kdC q = 1) (hm_q : q ∈ obC nw) (hw1 : 1 ≤ w) (hwn : w ≤ nw) : CV l D clX (tyX dA) (SC nw) ad dA (obC nw) NL y_Leases_give w_Leases_give { frames := 2, cells := 0, slots := 0, locals := 45 } [.ref (ad 91), .int (nI w), .ref (ad q), .int (nI t)] σ (lGive σ w q t) := by
  refine x_of (WS := WS) (cc := b_Leases_give) (maxL := 4) (ret := none) (by decide) rfl (Nat.le_of_ble_eq_true rfl) ?_
  intro pp ee ss mm below meth cdd hx hb hml hr hlk ht hown hnm hN hK hP ls hl
  have hl : lv_has ls 4 [(0, .ref (ad 91)), (1, .int (nI w)), (2, .ref (ad q)), (3, .int (nI t))] := hl
  have hS : va_S (Ad ad (obC nw)) ss.heap ss.heap [] := va_S.rf
  have hw := swfC hnw
  refine lv_aload_n hx hb d_Leases_give_0 rfl (lv_at hl 0 rfl) ?_
  refine x_get (v := .ref (ad 92)) (k := 0) hx hb ht xc_Leases hown hK hP (mo (by decide)) rfl (by decide) fl_Leases_15 rfl rfl rfl d_Leases_give_1 ?_
  refine lv_iload_n hx hb d_Leases_give_4 rfl (lv_at hl 1 rfl) ?_
  refine lv_iconst (v := (nI 1)) hx hb d_Leases_give_5 (by decide) ?_
  refine x_isubN hx hb d_Leases_give_6 (by omega) ?_
  refine lv_iconst (v := (nI 1)) hx hb d_Leases_give_7 (by decide) ?_
  refine x_zast (κ := 112) (n := nw) (x := true) hx hb hK hP hJ hw hS (mo (by decide)) rfl (by decide) rfl rfl (by omega) (by omega) d_Leases_give_8 (fun H locs hP hS => ?_)
  refine lv_aload_n hx hb d_Leases_give_9 rfl (lv_at hl 0 rfl) ?_
  refine x_get (v := .ref (ad 93)) (k := 1) hx hb ht xc_Leases hown hK hP (mo (by decide)) rfl (by decide) fl_Leases_21 rfl rfl rfl d_Leases_give_10 ?_
  refine lv_iload_n hx hb d_Leases_give_13 rfl (lv_at hl 1 rfl) ?_
  refine lv_iconst (v := (nI 1)) hx hb d_Leases_give_14 (by decide) ?_
  refine x_isubN hx hb d_Leases_give_15 (by omega) ?_
  refine x_fald (κ := 113) (n := nw) hx hb hK hP (mo (by decide)) rfl (by decide) rfl rfl (by omega) (by omega) d_Leases_give_16 ?_
  refine W.eq (g2 := F0 mm 17 ls [.ref (ad (95 + (w - 1)))]) rfl ?_
  refine lv_aload_n hx hb d_Leases_give_17 rfl (lv_at hl 2 rfl) ?_
  refine x_cv (x_rV (As := [.ref (ad q)]) (rest := []) hx hb hml hown ht gW cs_Leases_34 (c_Key_copy l D dA ad nw hJ hnw (sB σ 112 (w - 1) true) (95 + (w - 1)) q (kd_lk (by omega)) (mo_lk (by omega)) hk_q hm_q) rfl rfl (by decide) xc_Key hN hK hP (mo_lk (by omega)) (kd_lk (by omega)) rfl hl.1 rfl (Nat.le_of_ble_eq_true rfl) d_Leases_give_18 (by decide)) hS (fun H locs hP hS => ?_)
  refine lv_aload_n hx hb d_Leases_give_21 rfl (lv_at hl 0 rfl) ?_
  refine x_get (v := .ref (ad 94)) (k := 2) hx hb ht xc_Leases hown hK hP (mo (by decide)) rfl (by decide) fl_Leases_25 rfl rfl rfl d_Leases_give_22 ?_
  refine lv_iload_n hx hb d_Leases_give_25 rfl (lv_at hl 1 rfl) ?_
  refine lv_iconst (v := (nI 1)) hx hb d_Leases_give_26 (by decide) ?_
  refine x_isubN hx hb d_Leases_give_27 (by omega) ?_
  refine lv_iload_n hx hb d_Leases_give_28 rfl (lv_at hl 3 rfl) ?_
  refine x_nast (κ := 114) (n := nw) (x := t) hx hb hK hP hJ hw hS (mo (by decide)) rfl (by decide) rfl rfl (by omega) (by omega) d_Leases_give_29 (fun H locs hP hS => ?_)
  refine lv_aload_n hx hb d_Leases_give_30 rfl (lv_at hl 0 rfl) ?_
  refine lv_iload_n hx hb d_Leases_give_31 rfl (lv_at hl 1 rfl) ?_
  refine x_put (σ' := sN (sN (kcopy (sB σ 112 (w - 1) true) (95 + (w - 1)) q) 114 (w - 1) t) 54 91 w) (v := .int (nI w)) (k := 3) hx hb ht xc_Leases t_Leases t_Leases_ok n_Leases hown hK hP hJ hw hS (mo (by decide)) rfl (by decide) fl_Leases_9 rfl rfl rfl off_N rfl rfl rfl d_Leases_give_32 (fun H locs hP hS => ?_)
  exact x_vret hx hb hr hlk hK hP hS d_Leases_give_35 rfl
set_option maxHeartbeats 4000000 in
set_option maxRecDepth 100000 in
theorem c_Leases_end (l : Launch) (D : va_G) (dA : Nat → ClassId) (ad : Nat → Nat) (nw : Nat) (hJ : Inj ad (obC nw)) (hnw : nw ≤ 4) (σ : Sg) (w : Int32)  : CV l D clX (tyX dA) (SC nw) ad dA (obC nw) NL y_Leases_end w_Leases_end { frames := 1, cells := 0, slots := 0, locals := 21 } [.ref (ad 91), .int w] σ (lEnd σ nw w) := by
  refine x_of (WS := WS) (cc := b_Leases_end) (maxL := 2) (ret := none) (by decide) rfl (Nat.le_of_ble_eq_true rfl) ?_
  intro pp ee ss mm below meth cdd hx hb hml hr hlk ht hown hnm hN hK hP ls hl
  have hl : lv_has ls 2 [(0, .ref (ad 91)), (1, .int w)] := hl
  have hS : va_S (Ad ad (obC nw)) ss.heap ss.heap [] := va_S.rf
  have hw := swfC hnw
  refine lv_aload_n hx hb d_Leases_end_0 rfl (lv_at hl 0 rfl) ?_
  refine lv_iload_n hx hb d_Leases_end_1 rfl (lv_at hl 1 rfl) ?_
  refine x_ci (x_rV (As := [.int w]) (rest := []) hx hb hml hown ht gW cs_Leases_38 (c_Leases_has l D dA ad nw hJ hnw σ w) rfl rfl (by decide) xc_Leases hN hK hP (mo (by decide)) rfl rfl hl.1 rfl (Nat.le_of_ble_eq_true rfl) d_Leases_end_2 (by decide)) hS (fun H locs hP hS => ?_)
  refine x_ifeqB (tgt := 17) hx hb d_Leases_end_5 (by decide) (fun h1 => ?_) (fun h1 => ?_)
  · exact x_vret hx hb hr hlk hK hP hS d_Leases_end_17 (by unfold lEnd; rw [if_neg (by rw [h1]; decide)])
  · obtain ⟨j, hj, rfl⟩ := lHas_w hnw h1
    refine lv_aload_n hx hb d_Leases_end_8 rfl (lv_at hl 0 rfl) ?_
    refine x_get (v := .ref (ad 92)) (k := 0) hx hb ht xc_Leases hown hK hP (mo (by decide)) rfl (by decide) fl_Leases_15 rfl rfl rfl d_Leases_end_9 ?_
    refine lv_iload_n hx hb d_Leases_end_12 rfl (lv_at hl 1 rfl) ?_
    refine lv_iconst (v := (nI 1)) hx hb d_Leases_end_13 (by decide) ?_
    refine x_isubN hx hb d_Leases_end_14 (by omega) ?_
    refine W.eq (g2 := F0 mm 15 ls [.int (nI j), .ref (ad 92)]) rfl ?_
    refine lv_iconst (v := (nI 0)) hx hb d_Leases_end_15 (by decide) ?_
    refine x_zast (κ := 112) (n := nw) (x := false) hx hb hK hP hJ hw hS (mo (by decide)) rfl (by decide) rfl rfl (by omega) (by omega) d_Leases_end_16 (fun H locs hP hS => ?_)
    exact x_vret hx hb hr hlk hK hP hS d_Leases_end_17 (by unfold lEnd; rw [if_pos h1, nI_toInt (by omega), show (((j + 1 : Nat) : Int).toNat - 1) = j by omega])
set_option maxHeartbeats 4000000 in
set_option maxRecDepth 100000 in
theorem c_Leases_forget (l : Launch) (D : va_G) (dA : Nat → ClassId) (ad : Nat → Nat) (nw : Nat) (hJ : Inj ad (obC nw)) (hnw : nw ≤ 4) (σ : Sg)   : CV l D clX (tyX dA) (SC nw) ad dA (obC nw) NL y_Leases_forget w_Leases_forget { frames := 0, cells := 0, slots := 0, locals := 0 } [.ref (ad 91)] σ (lForget σ nw) := by
  refine x_of (WS := WS) (cc := b_Leases_forget) (maxL := 2) (ret := none) (by decide) rfl (Nat.le_of_ble_eq_true rfl) ?_
  intro pp ee ss mm below meth cdd hx hb hml hr hlk ht hown hnm hN hK hP ls hl
  have hl : lv_has ls 2 [(0, .ref (ad 91))] := hl
  have hS : va_S (Ad ad (obC nw)) ss.heap ss.heap [] := va_S.rf
  have hw := swfC hnw
  refine lv_iconst (v := (nI 0)) hx hb d_Leases_forget_0 (by decide) ?_
  refine lv_istore_n (lv' := [(1, .int (nI 0)), (0, .ref (ad 91))]) hx hb d_Leases_forget_1 rfl hl (by decide) rfl (fun ls hl => ?_)
  refine x_loop (pc := 2) (α := Nat) (nL := 2) (fun i => nw - i) (fun i => lFg σ i) (fun i => [(1, .int (nI i)), (0, .ref (ad 91))]) (fun i => i ≤ nw) ?_ 0 (Nat.zero_le _) (by rw [lFg_0]; exact hP) hS (lv_sub hl [0, 1] rfl)
  clear hP hS hl
  intro i hi H locs ls hP hS hl ih
  have hi : i ≤ nw := hi
  have hl : lv_has ls 2 [(1, .int (nI i)), (0, .ref (ad 91))] := hl
  have hP : va_P D clX (wd (SC nw) ad dA (obC nw) (lFg σ i)) H := hP
  refine lv_iload_n hx hb d_Leases_forget_2 rfl (lv_at hl 0 rfl) ?_
  refine lv_aload_n hx hb d_Leases_forget_3 rfl (lv_at hl 1 rfl) ?_
  refine x_get (v := .ref (ad 92)) (k := 0) hx hb ht xc_Leases hown hK hP (mo (by decide)) rfl (by decide) fl_Leases_15 rfl rfl rfl d_Leases_forget_4 ?_
  refine x_alen (κ := 112) (n := nw) hx hb hK hP (mo (by decide)) rfl (by decide) rfl rfl d_Leases_forget_7 ?_
  refine x_icmp_geN (tgt := 24) hx hb d_Leases_forget_8 (by decide) (by omega) (by omega) (fun h1 => ?_) (fun h1 => ?_)
  · refine lv_aload_n hx hb d_Leases_forget_24 rfl (lv_at hl 1 rfl) ?_
    refine lv_iconst (v := (nI 0)) hx hb d_Leases_forget_25 (by decide) ?_
    refine x_put (σ' := sN (lFg σ i) 54 91 0) (v := .int (nI 0)) (k := 3) hx hb ht xc_Leases t_Leases t_Leases_ok n_Leases hown hK hP hJ hw hS (mo (by decide)) rfl (by decide) fl_Leases_9 rfl rfl rfl off_N rfl rfl rfl d_Leases_forget_26 (fun H locs hP hS => ?_)
    exact x_vret hx hb hr hlk hK hP hS d_Leases_forget_29 (by rw [show i = nw by omega]; rfl)
  · refine lv_aload_n hx hb d_Leases_forget_11 rfl (lv_at hl 1 rfl) ?_
    refine x_get (v := .ref (ad 92)) (k := 0) hx hb ht xc_Leases hown hK hP (mo (by decide)) rfl (by decide) fl_Leases_15 rfl rfl rfl d_Leases_forget_12 ?_
    refine lv_iload_n hx hb d_Leases_forget_15 rfl (lv_at hl 0 rfl) ?_
    refine lv_iconst (v := (nI 0)) hx hb d_Leases_forget_16 (by decide) ?_
    refine x_zast (κ := 112) (n := nw) (x := false) hx hb hK hP hJ hw hS (mo (by decide)) rfl (by decide) rfl rfl (by omega) (by omega) d_Leases_forget_17 (fun H locs hP hS => ?_)
    refine lv_iinc (lv' := [(1, .int (nI (i + 1))), (0, .ref (ad 91))]) (v := (nI (i + 1))) hx hb d_Leases_forget_18 hl (k := 0) rfl (nI_add _ _) (by decide) rfl (fun ls hl => ?_)
    refine lv_goto (tgt := 2) hx hb d_Leases_forget_21 (by decide) ?_
    exact ih (i + 1) (by show i + 1 ≤ nw; omega) (by omega) H locs ls (by rw [← lFg_s]; exact hP) hS (lv_sub hl [0, 1] rfl)
set_option maxHeartbeats 4000000 in
set_option maxRecDepth 100000 in
theorem c_Leases_names (l : Launch) (D : va_G) (dA : Nat → ClassId) (ad : Nat → Nat) (nw : Nat) (hJ : Inj ad (obC nw)) (hnw : nw ≤ 4) (σ : Sg) (d : Int32)  : CI l D clX (tyX dA) (SC nw) ad dA (obC nw) NL y_Leases_names w_Leases_names { frames := 1, cells := 0, slots := 0, locals := 21 } [.ref (ad 91), .int d] σ ((bI (lNames σ nw d))) σ := by
  refine x_of (WS := WS) (cc := b_Leases_names) (maxL := 3) (ret := (some .boolean)) (by decide) rfl (Nat.le_of_ble_eq_true rfl) ?_
  intro pp ee ss mm below meth cdd hx hb hml hr hlk ht hown hnm hN hK hP ls hl
  have hl : lv_has ls 3 [(0, .ref (ad 91)), (1, .int d)] := hl
  have hS : va_S (Ad ad (obC nw)) ss.heap ss.heap [] := va_S.rf
  have hw := swfC hnw
  refine lv_iconst (v := (nI 0)) hx hb d_Leases_names_0 (by decide) ?_
  refine lv_istore_n (lv' := [(2, .int (nI 0)), (0, .ref (ad 91)), (1, .int d)]) hx hb d_Leases_names_1 rfl hl (by decide) rfl (fun ls hl => ?_)
  refine x_loop (pc := 2) (α := Nat) (nL := 3) (fun i => nw - i) (fun i => σ) (fun i => [(2, .int (nI i)), (1, .int d), (0, .ref (ad 91))]) (fun i => i ≤ nw ∧ ∀ j, j < i → (fun i => gB σ 112 i && kNames σ (95 + i) d) j = false) ?_ 0 ⟨Nat.zero_le _, fun j hj => absurd hj (Nat.not_lt_zero j)⟩ hP hS (lv_sub hl [0, 2, 1] rfl)
  clear hP hS hl
  intro i ⟨hi, h0⟩ H locs ls hP hS hl ih
  have hi : i ≤ nw := hi
  have hl : lv_has ls 3 [(2, .int (nI i)), (1, .int d), (0, .ref (ad 91))] := hl
  have hP : va_P D clX (wd (SC nw) ad dA (obC nw) σ) H := hP
  refine lv_iload_n hx hb d_Leases_names_2 rfl (lv_at hl 0 rfl) ?_
  refine lv_aload_n hx hb d_Leases_names_3 rfl (lv_at hl 2 rfl) ?_
  refine x_get (v := .ref (ad 92)) (k := 0) hx hb ht xc_Leases hown hK hP (mo (by decide)) rfl (by decide) fl_Leases_15 rfl rfl rfl d_Leases_names_4 ?_
  refine x_alen (κ := 112) (n := nw) hx hb hK hP (mo (by decide)) rfl (by decide) rfl rfl d_Leases_names_7 ?_
  refine x_icmp_geN (tgt := 41) hx hb d_Leases_names_8 (by decide) (by omega) (by omega) (fun h1 => ?_) (fun h1 => ?_)
  · refine lv_iconst (v := (nI 0)) hx hb d_Leases_names_41 (by decide) ?_
    exact x_zret (b := false) hx hb hr hlk hK hP hS d_Leases_names_42 rfl (by unfold lNames; rw [fnd_none (fun j hj => h0 j (by omega))]; rfl) rfl
  · refine lv_aload_n hx hb d_Leases_names_11 rfl (lv_at hl 2 rfl) ?_
    refine x_get (v := .ref (ad 92)) (k := 0) hx hb ht xc_Leases hown hK hP (mo (by decide)) rfl (by decide) fl_Leases_15 rfl rfl rfl d_Leases_names_12 ?_
    refine lv_iload_n hx hb d_Leases_names_15 rfl (lv_at hl 0 rfl) ?_
    refine x_zald (κ := 112) (n := nw) hx hb hK hP (mo (by decide)) rfl (by decide) rfl rfl (by omega) (by omega) d_Leases_names_16 ?_
    refine x_ifeqB (tgt := 35) hx hb d_Leases_names_17 (by decide) (fun h2 => ?_) (fun h2 => ?_)
    · refine lv_iinc (lv' := [(2, .int (nI (i + 1))), (1, .int d), (0, .ref (ad 91))]) (v := (nI (i + 1))) hx hb d_Leases_names_35 hl (k := 0) rfl (nI_add _ _) (by decide) rfl (fun ls hl => ?_)
      refine lv_goto (tgt := 2) hx hb d_Leases_names_38 (by decide) ?_
      exact ih (i + 1) ⟨by omega, lt_s h0 (by simp [h2])⟩ (by omega) H locs ls hP hS (lv_sub hl [0, 1, 2] rfl)
    · refine lv_aload_n hx hb d_Leases_names_20 rfl (lv_at hl 2 rfl) ?_
      refine x_get (v := .ref (ad 93)) (k := 1) hx hb ht xc_Leases hown hK hP (mo (by decide)) rfl (by decide) fl_Leases_21 rfl rfl rfl d_Leases_names_21 ?_
      refine lv_iload_n hx hb d_Leases_names_24 rfl (lv_at hl 0 rfl) ?_
      refine x_fald (κ := 113) (n := nw) hx hb hK hP (mo (by decide)) rfl (by decide) rfl rfl (by omega) (by omega) d_Leases_names_25 ?_
      refine W.eq (g2 := F0 mm 26 ls [.ref (ad (95 + i))]) rfl ?_
      refine lv_iload_n hx hb d_Leases_names_26 rfl (lv_at hl 1 rfl) ?_
      refine x_ci (x_rV (As := [.int d]) (rest := []) hx hb hml hown ht gW cs_Leases_42 (c_Key_names l D dA ad nw hJ hnw σ (95 + i) d (kd_lk (by omega)) (mo_lk (by omega))) rfl rfl (by decide) xc_Key hN hK hP (mo_lk (by omega)) (kd_lk (by omega)) rfl hl.1 rfl (Nat.le_of_ble_eq_true rfl) d_Leases_names_27 (by decide)) hS (fun H locs hP hS => ?_)
      refine x_ifeqB (tgt := 35) hx hb d_Leases_names_30 (by decide) (fun h3 => ?_) (fun h3 => ?_)
      · refine lv_iinc (lv' := [(2, .int (nI (i + 1))), (1, .int d), (0, .ref (ad 91))]) (v := (nI (i + 1))) hx hb d_Leases_names_35 hl (k := 0) rfl (nI_add _ _) (by decide) rfl (fun ls hl => ?_)
        refine lv_goto (tgt := 2) hx hb d_Leases_names_38 (by decide) ?_
        exact ih (i + 1) ⟨by omega, lt_s h0 (by simp [h2, h3])⟩ (by omega) H locs ls hP hS (lv_sub hl [0, 1, 2] rfl)
      · refine lv_iconst (v := (nI 1)) hx hb d_Leases_names_33 (by decide) ?_
        exact x_zret (b := true) hx hb hr hlk hK hP hS d_Leases_names_34 rfl (by unfold lNames; rw [fnd_some (by omega) (by simp [h2, h3]) h0]; rfl) rfl
