abbrev b_Server_giveLeases : ByteArray := prog_9_method_12_code
def y_Server_giveLeases : MethodName := ⟨"LeasedBuilds$Server", "giveLeases", "(I)V"⟩
def w_Server_giveLeases : List Cond := .code y_Server_giveLeases b_Server_giveLeases 4 none :: WS
abbrev b_Server_keepTime : ByteArray := prog_9_method_4_code
def y_Server_keepTime : MethodName := ⟨"LeasedBuilds$Server", "keepTime", "(I)V"⟩
def w_Server_keepTime : List Cond := .code y_Server_keepTime b_Server_keepTime 2 none :: WS
abbrev b_Server_sweep : ByteArray := prog_9_method_8_code
def y_Server_sweep : MethodName := ⟨"LeasedBuilds$Server", "sweep", "()I"⟩
def w_Server_sweep : List Cond := .code y_Server_sweep b_Server_sweep 3 (some .int) :: WS
abbrev b_LB_isWorker : ByteArray := prog_1_method_22_code
def y_LB_isWorker : MethodName := ⟨"LeasedBuilds", "isWorker", "(I)Z"⟩
def w_LB_isWorker : List Cond := .code y_LB_isWorker b_LB_isWorker 2 (some .boolean) :: WS
abbrev b_LB_isNode : ByteArray := prog_1_method_23_code
def y_LB_isNode : MethodName := ⟨"LeasedBuilds", "isNode", "(I)Z"⟩
def w_LB_isNode : List Cond := .code y_LB_isNode b_LB_isNode 2 (some .boolean) :: WS
abbrev b_LB_isUp : ByteArray := prog_1_method_24_code
def y_LB_isUp : MethodName := ⟨"LeasedBuilds", "isUp", "(I)Z"⟩
def w_LB_isUp : List Cond := .code y_LB_isUp b_LB_isUp 2 (some .boolean) :: WS
abbrev b_LB_hand : ByteArray := prog_1_method_25_code
def y_LB_hand : MethodName := ⟨"LeasedBuilds", "hand", "(LLeasedBuilds$Message;I)V"⟩
def w_LB_hand : List Cond := .code y_LB_hand b_LB_hand 3 none :: WS
abbrev b_LB_deliver : ByteArray := prog_1_method_5_code
def y_LB_deliver : MethodName := ⟨"LeasedBuilds", "deliver", "(II)I"⟩
def w_LB_deliver : List Cond := .code y_LB_deliver b_LB_deliver 4 (some .int) :: WS
abbrev b_LB_lose : ByteArray := prog_1_method_6_code
def y_LB_lose : MethodName := ⟨"LeasedBuilds", "lose", "(I)Z"⟩
def w_LB_lose : List Cond := .code y_LB_lose b_LB_lose 2 (some .boolean) :: WS
abbrev b_LB_spoil : ByteArray := prog_1_method_7_code
def y_LB_spoil : MethodName := ⟨"LeasedBuilds", "spoil", "(I)Z"⟩
def w_LB_spoil : List Cond := .code y_LB_spoil b_LB_spoil 2 (some .boolean) :: WS
abbrev b_LB_crash : ByteArray := prog_1_method_8_code
def y_LB_crash : MethodName := ⟨"LeasedBuilds", "crash", "(I)Z"⟩
def w_LB_crash : List Cond := .code y_LB_crash b_LB_crash 2 (some .boolean) :: WS
abbrev b_LB_restart : ByteArray := prog_1_method_9_code
def y_LB_restart : MethodName := ⟨"LeasedBuilds", "restart", "(I)Z"⟩
def w_LB_restart : List Cond := .code y_LB_restart b_LB_restart 2 (some .boolean) :: WS
abbrev b_LB_collect : ByteArray := prog_1_method_10_code
def y_LB_collect : MethodName := ⟨"LeasedBuilds", "collect", "()I"⟩
def w_LB_collect : List Cond := .code y_LB_collect b_LB_collect 1 (some .int) :: WS
abbrev b_LB_flying : ByteArray := prog_1_method_11_code
def y_LB_flying : MethodName := ⟨"LeasedBuilds", "flying", "()I"⟩
def w_LB_flying : List Cond := .code y_LB_flying b_LB_flying 1 (some .int) :: WS
abbrev b_LB_message : ByteArray := prog_1_method_12_code
def y_LB_message : MethodName := ⟨"LeasedBuilds", "message", "(I)I"⟩
def w_LB_message : List Cond := .code y_LB_message b_LB_message 3 (some .int) :: WS
abbrev b_LB_carried : ByteArray := prog_1_method_13_code
def y_LB_carried : MethodName := ⟨"LeasedBuilds", "carried", "(I)I"⟩
def w_LB_carried : List Cond := .code y_LB_carried b_LB_carried 2 (some .int) :: WS
abbrev b_LB_known : ByteArray := prog_1_method_14_code
def y_LB_known : MethodName := ⟨"LeasedBuilds", "known", "(I)Z"⟩
def w_LB_known : List Cond := .code y_LB_known b_LB_known 2 (some .boolean) :: WS
abbrev b_LB_content : ByteArray := prog_1_method_15_code
def y_LB_content : MethodName := ⟨"LeasedBuilds", "content", "(I)I"⟩
def w_LB_content : List Cond := .code y_LB_content b_LB_content 2 (some .int) :: WS
abbrev b_LB_digest : ByteArray := prog_1_method_16_code
def y_LB_digest : MethodName := ⟨"LeasedBuilds", "digest", "(I)I"⟩
def w_LB_digest : List Cond := .code y_LB_digest b_LB_digest 2 (some .int) :: WS
abbrev b_LB_stored : ByteArray := prog_1_method_17_code
def y_LB_stored : MethodName := ⟨"LeasedBuilds", "stored", "(I)Z"⟩
def w_LB_stored : List Cond := .code y_LB_stored b_LB_stored 2 (some .boolean) :: WS
abbrev b_LB_waiting : ByteArray := prog_1_method_18_code
def y_LB_waiting : MethodName := ⟨"LeasedBuilds", "waiting", "()I"⟩
def w_LB_waiting : List Cond := .code y_LB_waiting b_LB_waiting 1 (some .int) :: WS
abbrev b_LB_lease : ByteArray := prog_1_method_19_code
def y_LB_lease : MethodName := ⟨"LeasedBuilds", "lease", "(I)I"⟩
def w_LB_lease : List Cond := .code y_LB_lease b_LB_lease 2 (some .int) :: WS
abbrev b_LB_doing : ByteArray := prog_1_method_20_code
def y_LB_doing : MethodName := ⟨"LeasedBuilds", "doing", "(I)I"⟩
def w_LB_doing : List Cond := .code y_LB_doing b_LB_doing 2 (some .int) :: WS
abbrev b_LB_count : ByteArray := prog_1_method_21_code
def y_LB_count : MethodName := ⟨"LeasedBuilds", "count", "(I)I"⟩
def w_LB_count : List Cond := .code y_LB_count b_LB_count 2 (some .int) :: WS
abbrev b_LB_file : ByteArray := prog_1_method_2_code
def y_LB_file : MethodName := ⟨"LeasedBuilds", "file", "(I)I"⟩
def w_LB_file : List Cond := .code y_LB_file b_LB_file 2 (some .int) :: WS
abbrev b_LB_action : ByteArray := prog_1_method_3_code
def y_LB_action : MethodName := ⟨"LeasedBuilds", "action", "(JII)I"⟩
def w_LB_action : List Cond := .code y_LB_action b_LB_action 5 (some .int) :: WS
abbrev b_LB_tick : ByteArray := prog_1_method_4_code
def y_LB_tick : MethodName := ⟨"LeasedBuilds", "tick", "()I"⟩
def w_LB_tick : List Cond := .code y_LB_tick b_LB_tick 3 (some .int) :: WS
theorem d_Server_giveLeases_0 : decode b_Server_giveLeases 0 = .ok (.iconst 0, 1) := by decide +kernel
theorem d_Server_giveLeases_1 : decode b_Server_giveLeases 1 = .ok (.istore_n 2, 1) := by decide +kernel
theorem d_Server_giveLeases_2 : decode b_Server_giveLeases 2 = .ok (.iload_n 2, 1) := by decide +kernel
theorem d_Server_giveLeases_3 : decode b_Server_giveLeases 3 = .ok (.aload_n 0, 1) := by decide +kernel
theorem d_Server_giveLeases_4 : decode b_Server_giveLeases 4 = .ok (.getfield 54, 3) := by decide +kernel
theorem d_Server_giveLeases_7 : decode b_Server_giveLeases 7 = .ok (.invokevirtual 170, 3) := by decide +kernel
theorem d_Server_giveLeases_10 : decode b_Server_giveLeases 10 = .ok (.if_icmp .ge 84, 3) := by decide +kernel
theorem d_Server_giveLeases_13 : decode b_Server_giveLeases 13 = .ok (.aload_n 0, 1) := by decide +kernel
theorem d_Server_giveLeases_14 : decode b_Server_giveLeases 14 = .ok (.getfield 54, 3) := by decide +kernel
theorem d_Server_giveLeases_17 : decode b_Server_giveLeases 17 = .ok (.invokevirtual 178, 3) := by decide +kernel
theorem d_Server_giveLeases_20 : decode b_Server_giveLeases 20 = .ok (.istore_n 3, 1) := by decide +kernel
theorem d_Server_giveLeases_21 : decode b_Server_giveLeases 21 = .ok (.aload_n 0, 1) := by decide +kernel
theorem d_Server_giveLeases_22 : decode b_Server_giveLeases 22 = .ok (.getfield 21, 3) := by decide +kernel
theorem d_Server_giveLeases_25 : decode b_Server_giveLeases 25 = .ok (.getfield 61, 3) := by decide +kernel
theorem d_Server_giveLeases_28 : decode b_Server_giveLeases 28 = .ok (.ifCond .eq 8, 3) := by decide +kernel
theorem d_Server_giveLeases_31 : decode b_Server_giveLeases 31 = .ok (.iload_n 3, 1) := by decide +kernel
theorem d_Server_giveLeases_32 : decode b_Server_giveLeases 32 = .ok (.iconst (-1), 1) := by decide +kernel
theorem d_Server_giveLeases_33 : decode b_Server_giveLeases 33 = .ok (.if_icmp .ne 4, 3) := by decide +kernel
theorem d_Server_giveLeases_36 : decode b_Server_giveLeases 36 = .ok (.return_, 1) := by decide +kernel
theorem d_Server_giveLeases_37 : decode b_Server_giveLeases 37 = .ok (.aload_n 0, 1) := by decide +kernel
theorem d_Server_giveLeases_38 : decode b_Server_giveLeases 38 = .ok (.getfield 54, 3) := by decide +kernel
theorem d_Server_giveLeases_41 : decode b_Server_giveLeases 41 = .ok (.iload_n 3, 1) := by decide +kernel
theorem d_Server_giveLeases_42 : decode b_Server_giveLeases 42 = .ok (.aload_n 0, 1) := by decide +kernel
theorem d_Server_giveLeases_43 : decode b_Server_giveLeases 43 = .ok (.getfield 21, 3) := by decide +kernel
theorem d_Server_giveLeases_46 : decode b_Server_giveLeases 46 = .ok (.invokevirtual 181, 3) := by decide +kernel
theorem d_Server_giveLeases_49 : decode b_Server_giveLeases 49 = .ok (.iload_n 1, 1) := by decide +kernel
theorem d_Server_giveLeases_50 : decode b_Server_giveLeases 50 = .ok (.aload_n 0, 1) := by decide +kernel
theorem d_Server_giveLeases_51 : decode b_Server_giveLeases 51 = .ok (.getfield 58, 3) := by decide +kernel
theorem d_Server_giveLeases_54 : decode b_Server_giveLeases 54 = .ok (.iadd, 1) := by decide +kernel
theorem d_Server_giveLeases_55 : decode b_Server_giveLeases 55 = .ok (.invokevirtual 184, 3) := by decide +kernel
theorem d_Server_giveLeases_58 : decode b_Server_giveLeases 58 = .ok (.aload_n 0, 1) := by decide +kernel
theorem d_Server_giveLeases_59 : decode b_Server_giveLeases 59 = .ok (.dup, 1) := by decide +kernel
theorem d_Server_giveLeases_60 : decode b_Server_giveLeases 60 = .ok (.getfield 29, 3) := by decide +kernel
theorem d_Server_giveLeases_63 : decode b_Server_giveLeases 63 = .ok (.iconst 1, 1) := by decide +kernel
theorem d_Server_giveLeases_64 : decode b_Server_giveLeases 64 = .ok (.iadd, 1) := by decide +kernel
theorem d_Server_giveLeases_65 : decode b_Server_giveLeases 65 = .ok (.putfield 29, 3) := by decide +kernel
theorem d_Server_giveLeases_68 : decode b_Server_giveLeases 68 = .ok (.aload_n 0, 1) := by decide +kernel
theorem d_Server_giveLeases_69 : decode b_Server_giveLeases 69 = .ok (.iload_n 3, 1) := by decide +kernel
theorem d_Server_giveLeases_70 : decode b_Server_giveLeases 70 = .ok (.aload_n 0, 1) := by decide +kernel
theorem d_Server_giveLeases_71 : decode b_Server_giveLeases 71 = .ok (.getfield 21, 3) := by decide +kernel
theorem d_Server_giveLeases_74 : decode b_Server_giveLeases 74 = .ok (.invokevirtual 181, 3) := by decide +kernel
theorem d_Server_giveLeases_77 : decode b_Server_giveLeases 77 = .ok (.invokevirtual 188, 3) := by decide +kernel
theorem d_Server_giveLeases_80 : decode b_Server_giveLeases 80 = .ok (.aload_n 0, 1) := by decide +kernel
theorem d_Server_giveLeases_81 : decode b_Server_giveLeases 81 = .ok (.getfield 21, 3) := by decide +kernel
theorem d_Server_giveLeases_84 : decode b_Server_giveLeases 84 = .ok (.iconst 0, 1) := by decide +kernel
theorem d_Server_giveLeases_85 : decode b_Server_giveLeases 85 = .ok (.invokevirtual 142, 3) := by decide +kernel
theorem d_Server_giveLeases_88 : decode b_Server_giveLeases 88 = .ok (.iinc 2 1, 3) := by decide +kernel
theorem d_Server_giveLeases_91 : decode b_Server_giveLeases 91 = .ok (.goto (-89), 3) := by decide +kernel
theorem d_Server_giveLeases_94 : decode b_Server_giveLeases 94 = .ok (.return_, 1) := by decide +kernel
theorem d_Server_keepTime_0 : decode b_Server_keepTime 0 = .ok (.aload_n 0, 1) := by decide +kernel
theorem d_Server_keepTime_1 : decode b_Server_keepTime 1 = .ok (.getfield 25, 3) := by decide +kernel
theorem d_Server_keepTime_4 : decode b_Server_keepTime 4 = .ok (.ifCond .eq 13, 3) := by decide +kernel
theorem d_Server_keepTime_7 : decode b_Server_keepTime 7 = .ok (.aload_n 0, 1) := by decide +kernel
theorem d_Server_keepTime_8 : decode b_Server_keepTime 8 = .ok (.iload_n 1, 1) := by decide +kernel
theorem d_Server_keepTime_9 : decode b_Server_keepTime 9 = .ok (.invokevirtual 75, 3) := by decide +kernel
theorem d_Server_keepTime_12 : decode b_Server_keepTime 12 = .ok (.aload_n 0, 1) := by decide +kernel
theorem d_Server_keepTime_13 : decode b_Server_keepTime 13 = .ok (.iload_n 1, 1) := by decide +kernel
theorem d_Server_keepTime_14 : decode b_Server_keepTime 14 = .ok (.invokevirtual 78, 3) := by decide +kernel
theorem d_Server_keepTime_17 : decode b_Server_keepTime 17 = .ok (.return_, 1) := by decide +kernel
theorem d_Server_sweep_0 : decode b_Server_sweep 0 = .ok (.iconst 0, 1) := by decide +kernel
theorem d_Server_sweep_1 : decode b_Server_sweep 1 = .ok (.istore_n 1, 1) := by decide +kernel
theorem d_Server_sweep_2 : decode b_Server_sweep 2 = .ok (.aload_n 0, 1) := by decide +kernel
theorem d_Server_sweep_3 : decode b_Server_sweep 3 = .ok (.getfield 12, 3) := by decide +kernel
theorem d_Server_sweep_6 : decode b_Server_sweep 6 = .ok (.getfield 148, 3) := by decide +kernel
theorem d_Server_sweep_9 : decode b_Server_sweep 9 = .ok (.iconst 1, 1) := by decide +kernel
theorem d_Server_sweep_10 : decode b_Server_sweep 10 = .ok (.isub, 1) := by decide +kernel
theorem d_Server_sweep_11 : decode b_Server_sweep 11 = .ok (.istore_n 2, 1) := by decide +kernel
theorem d_Server_sweep_12 : decode b_Server_sweep 12 = .ok (.iload_n 2, 1) := by decide +kernel
theorem d_Server_sweep_13 : decode b_Server_sweep 13 = .ok (.ifCond .lt 36, 3) := by decide +kernel
theorem d_Server_sweep_16 : decode b_Server_sweep 16 = .ok (.aload_n 0, 1) := by decide +kernel
theorem d_Server_sweep_17 : decode b_Server_sweep 17 = .ok (.aload_n 0, 1) := by decide +kernel
theorem d_Server_sweep_18 : decode b_Server_sweep 18 = .ok (.getfield 12, 3) := by decide +kernel
theorem d_Server_sweep_21 : decode b_Server_sweep 21 = .ok (.getfield 151, 3) := by decide +kernel
theorem d_Server_sweep_24 : decode b_Server_sweep 24 = .ok (.iload_n 2, 1) := by decide +kernel
theorem d_Server_sweep_25 : decode b_Server_sweep 25 = .ok (.iaload, 1) := by decide +kernel
theorem d_Server_sweep_26 : decode b_Server_sweep 26 = .ok (.invokevirtual 154, 3) := by decide +kernel
theorem d_Server_sweep_29 : decode b_Server_sweep 29 = .ok (.ifCond .ne 14, 3) := by decide +kernel
theorem d_Server_sweep_32 : decode b_Server_sweep 32 = .ok (.aload_n 0, 1) := by decide +kernel
theorem d_Server_sweep_33 : decode b_Server_sweep 33 = .ok (.getfield 12, 3) := by decide +kernel
theorem d_Server_sweep_36 : decode b_Server_sweep 36 = .ok (.iload_n 2, 1) := by decide +kernel
theorem d_Server_sweep_37 : decode b_Server_sweep 37 = .ok (.invokevirtual 157, 3) := by decide +kernel
theorem d_Server_sweep_40 : decode b_Server_sweep 40 = .ok (.iinc 1 1, 3) := by decide +kernel
theorem d_Server_sweep_43 : decode b_Server_sweep 43 = .ok (.iinc 2 (-1), 3) := by decide +kernel
theorem d_Server_sweep_46 : decode b_Server_sweep 46 = .ok (.goto (-34), 3) := by decide +kernel
theorem d_Server_sweep_49 : decode b_Server_sweep 49 = .ok (.iload_n 1, 1) := by decide +kernel
theorem d_Server_sweep_50 : decode b_Server_sweep 50 = .ok (.ireturn, 1) := by decide +kernel
theorem d_LB_isWorker_0 : decode b_LB_isWorker 0 = .ok (.iload_n 1, 1) := by decide +kernel
theorem d_LB_isWorker_1 : decode b_LB_isWorker 1 = .ok (.iconst 1, 1) := by decide +kernel
theorem d_LB_isWorker_2 : decode b_LB_isWorker 2 = .ok (.if_icmp .lt 16, 3) := by decide +kernel
theorem d_LB_isWorker_5 : decode b_LB_isWorker 5 = .ok (.iload_n 1, 1) := by decide +kernel
theorem d_LB_isWorker_6 : decode b_LB_isWorker 6 = .ok (.aload_n 0, 1) := by decide +kernel
theorem d_LB_isWorker_7 : decode b_LB_isWorker 7 = .ok (.getfield 36, 3) := by decide +kernel
theorem d_LB_isWorker_10 : decode b_LB_isWorker 10 = .ok (.arraylength, 1) := by decide +kernel
theorem d_LB_isWorker_11 : decode b_LB_isWorker 11 = .ok (.if_icmp .gt 7, 3) := by decide +kernel
theorem d_LB_isWorker_14 : decode b_LB_isWorker 14 = .ok (.iconst 1, 1) := by decide +kernel
theorem d_LB_isWorker_15 : decode b_LB_isWorker 15 = .ok (.goto 4, 3) := by decide +kernel
theorem d_LB_isWorker_18 : decode b_LB_isWorker 18 = .ok (.iconst 0, 1) := by decide +kernel
theorem d_LB_isWorker_19 : decode b_LB_isWorker 19 = .ok (.ireturn, 1) := by decide +kernel
theorem d_LB_isNode_0 : decode b_LB_isNode 0 = .ok (.iload_n 1, 1) := by decide +kernel
theorem d_LB_isNode_1 : decode b_LB_isNode 1 = .ok (.ifCond .eq 11, 3) := by decide +kernel
theorem d_LB_isNode_4 : decode b_LB_isNode 4 = .ok (.aload_n 0, 1) := by decide +kernel
theorem d_LB_isNode_5 : decode b_LB_isNode 5 = .ok (.iload_n 1, 1) := by decide +kernel
theorem d_LB_isNode_6 : decode b_LB_isNode 6 = .ok (.invokevirtual 150, 3) := by decide +kernel
theorem d_LB_isNode_9 : decode b_LB_isNode 9 = .ok (.ifCond .eq 7, 3) := by decide +kernel
theorem d_LB_isNode_12 : decode b_LB_isNode 12 = .ok (.iconst 1, 1) := by decide +kernel
theorem d_LB_isNode_13 : decode b_LB_isNode 13 = .ok (.goto 4, 3) := by decide +kernel
theorem d_LB_isNode_16 : decode b_LB_isNode 16 = .ok (.iconst 0, 1) := by decide +kernel
theorem d_LB_isNode_17 : decode b_LB_isNode 17 = .ok (.ireturn, 1) := by decide +kernel
theorem d_LB_isUp_0 : decode b_LB_isUp 0 = .ok (.iload_n 1, 1) := by decide +kernel
theorem d_LB_isUp_1 : decode b_LB_isUp 1 = .ok (.ifCond .ne 11, 3) := by decide +kernel
theorem d_LB_isUp_4 : decode b_LB_isUp 4 = .ok (.aload_n 0, 1) := by decide +kernel
theorem d_LB_isUp_5 : decode b_LB_isUp 5 = .ok (.getfield 30, 3) := by decide +kernel
theorem d_LB_isUp_8 : decode b_LB_isUp 8 = .ok (.getfield 112, 3) := by decide +kernel
theorem d_LB_isUp_11 : decode b_LB_isUp 11 = .ok (.ireturn, 1) := by decide +kernel
theorem d_LB_isUp_12 : decode b_LB_isUp 12 = .ok (.aload_n 0, 1) := by decide +kernel
theorem d_LB_isUp_13 : decode b_LB_isUp 13 = .ok (.iload_n 1, 1) := by decide +kernel
theorem d_LB_isUp_14 : decode b_LB_isUp 14 = .ok (.invokevirtual 150, 3) := by decide +kernel
theorem d_LB_isUp_17 : decode b_LB_isUp 17 = .ok (.ifCond .eq 17, 3) := by decide +kernel
theorem d_LB_isUp_20 : decode b_LB_isUp 20 = .ok (.aload_n 0, 1) := by decide +kernel
theorem d_LB_isUp_21 : decode b_LB_isUp 21 = .ok (.getfield 36, 3) := by decide +kernel
theorem d_LB_isUp_24 : decode b_LB_isUp 24 = .ok (.iload_n 1, 1) := by decide +kernel
theorem d_LB_isUp_25 : decode b_LB_isUp 25 = .ok (.iconst 1, 1) := by decide +kernel
theorem d_LB_isUp_26 : decode b_LB_isUp 26 = .ok (.isub, 1) := by decide +kernel
theorem d_LB_isUp_27 : decode b_LB_isUp 27 = .ok (.aaload, 1) := by decide +kernel
theorem d_LB_isUp_28 : decode b_LB_isUp 28 = .ok (.getfield 116, 3) := by decide +kernel
theorem d_LB_isUp_31 : decode b_LB_isUp 31 = .ok (.ifCond .eq 7, 3) := by decide +kernel
theorem d_LB_isUp_34 : decode b_LB_isUp 34 = .ok (.iconst 1, 1) := by decide +kernel
theorem d_LB_isUp_35 : decode b_LB_isUp 35 = .ok (.goto 4, 3) := by decide +kernel
theorem d_LB_isUp_38 : decode b_LB_isUp 38 = .ok (.iconst 0, 1) := by decide +kernel
theorem d_LB_isUp_39 : decode b_LB_isUp 39 = .ok (.ireturn, 1) := by decide +kernel
theorem d_LB_hand_0 : decode b_LB_hand 0 = .ok (.aload_n 1, 1) := by decide +kernel
theorem d_LB_hand_1 : decode b_LB_hand 1 = .ok (.getfield 93, 3) := by decide +kernel
theorem d_LB_hand_4 : decode b_LB_hand 4 = .ok (.tableswitch 130 1 6 #[40, 51, 66, 78, 107, 119], 40) := by decide +kernel
theorem d_LB_hand_44 : decode b_LB_hand 44 = .ok (.aload_n 0, 1) := by decide +kernel
theorem d_LB_hand_45 : decode b_LB_hand 45 = .ok (.getfield 30, 3) := by decide +kernel
theorem d_LB_hand_48 : decode b_LB_hand 48 = .ok (.aload_n 1, 1) := by decide +kernel
theorem d_LB_hand_49 : decode b_LB_hand 49 = .ok (.invokevirtual 187, 3) := by decide +kernel
theorem d_LB_hand_52 : decode b_LB_hand 52 = .ok (.goto 82, 3) := by decide +kernel
theorem d_LB_hand_55 : decode b_LB_hand 55 = .ok (.aload_n 0, 1) := by decide +kernel
theorem d_LB_hand_56 : decode b_LB_hand 56 = .ok (.getfield 21, 3) := by decide +kernel
theorem d_LB_hand_59 : decode b_LB_hand 59 = .ok (.aload_n 1, 1) := by decide +kernel
theorem d_LB_hand_60 : decode b_LB_hand 60 = .ok (.aload_n 0, 1) := by decide +kernel
theorem d_LB_hand_61 : decode b_LB_hand 61 = .ok (.getfield 41, 3) := by decide +kernel
theorem d_LB_hand_64 : decode b_LB_hand 64 = .ok (.invokevirtual 191, 3) := by decide +kernel
theorem d_LB_hand_67 : decode b_LB_hand 67 = .ok (.goto 67, 3) := by decide +kernel
theorem d_LB_hand_70 : decode b_LB_hand 70 = .ok (.aload_n 0, 1) := by decide +kernel
theorem d_LB_hand_71 : decode b_LB_hand 71 = .ok (.getfield 30, 3) := by decide +kernel
theorem d_LB_hand_74 : decode b_LB_hand 74 = .ok (.aload_n 1, 1) := by decide +kernel
theorem d_LB_hand_75 : decode b_LB_hand 75 = .ok (.iload_n 2, 1) := by decide +kernel
theorem d_LB_hand_76 : decode b_LB_hand 76 = .ok (.invokevirtual 194, 3) := by decide +kernel
theorem d_LB_hand_79 : decode b_LB_hand 79 = .ok (.goto 55, 3) := by decide +kernel
theorem d_LB_hand_82 : decode b_LB_hand 82 = .ok (.aload_n 0, 1) := by decide +kernel
theorem d_LB_hand_83 : decode b_LB_hand 83 = .ok (.aload_n 1, 1) := by decide +kernel
theorem d_LB_hand_84 : decode b_LB_hand 84 = .ok (.getfield 77, 3) := by decide +kernel
theorem d_LB_hand_87 : decode b_LB_hand 87 = .ok (.invokevirtual 150, 3) := by decide +kernel
theorem d_LB_hand_90 : decode b_LB_hand 90 = .ok (.ifCond .eq 44, 3) := by decide +kernel
theorem d_LB_hand_93 : decode b_LB_hand 93 = .ok (.aload_n 0, 1) := by decide +kernel
theorem d_LB_hand_94 : decode b_LB_hand 94 = .ok (.getfield 36, 3) := by decide +kernel
theorem d_LB_hand_97 : decode b_LB_hand 97 = .ok (.aload_n 1, 1) := by decide +kernel
theorem d_LB_hand_98 : decode b_LB_hand 98 = .ok (.getfield 77, 3) := by decide +kernel
theorem d_LB_hand_101 : decode b_LB_hand 101 = .ok (.iconst 1, 1) := by decide +kernel
theorem d_LB_hand_102 : decode b_LB_hand 102 = .ok (.isub, 1) := by decide +kernel
theorem d_LB_hand_103 : decode b_LB_hand 103 = .ok (.aaload, 1) := by decide +kernel
theorem d_LB_hand_104 : decode b_LB_hand 104 = .ok (.aload_n 1, 1) := by decide +kernel
theorem d_LB_hand_105 : decode b_LB_hand 105 = .ok (.invokevirtual 197, 3) := by decide +kernel
theorem d_LB_hand_108 : decode b_LB_hand 108 = .ok (.goto 26, 3) := by decide +kernel
theorem d_LB_hand_111 : decode b_LB_hand 111 = .ok (.aload_n 0, 1) := by decide +kernel
theorem d_LB_hand_112 : decode b_LB_hand 112 = .ok (.getfield 30, 3) := by decide +kernel
theorem d_LB_hand_115 : decode b_LB_hand 115 = .ok (.aload_n 1, 1) := by decide +kernel
theorem d_LB_hand_116 : decode b_LB_hand 116 = .ok (.iload_n 2, 1) := by decide +kernel
theorem d_LB_hand_117 : decode b_LB_hand 117 = .ok (.invokevirtual 200, 3) := by decide +kernel
theorem d_LB_hand_120 : decode b_LB_hand 120 = .ok (.goto 14, 3) := by decide +kernel
theorem d_LB_hand_123 : decode b_LB_hand 123 = .ok (.aload_n 0, 1) := by decide +kernel
theorem d_LB_hand_124 : decode b_LB_hand 124 = .ok (.getfield 21, 3) := by decide +kernel
theorem d_LB_hand_127 : decode b_LB_hand 127 = .ok (.aload_n 1, 1) := by decide +kernel
theorem d_LB_hand_128 : decode b_LB_hand 128 = .ok (.invokevirtual 203, 3) := by decide +kernel
theorem d_LB_hand_131 : decode b_LB_hand 131 = .ok (.goto 3, 3) := by decide +kernel
theorem d_LB_hand_134 : decode b_LB_hand 134 = .ok (.return_, 1) := by decide +kernel
theorem d_LB_deliver_0 : decode b_LB_deliver 0 = .ok (.aload_n 0, 1) := by decide +kernel
theorem d_LB_deliver_1 : decode b_LB_deliver 1 = .ok (.getfield 12, 3) := by decide +kernel
theorem d_LB_deliver_4 : decode b_LB_deliver 4 = .ok (.iload_n 1, 1) := by decide +kernel
theorem d_LB_deliver_5 : decode b_LB_deliver 5 = .ok (.invokevirtual 69, 3) := by decide +kernel
theorem d_LB_deliver_8 : decode b_LB_deliver 8 = .ok (.ifCond .ne 5, 3) := by decide +kernel
theorem d_LB_deliver_11 : decode b_LB_deliver 11 = .ok (.iconst (-1), 1) := by decide +kernel
theorem d_LB_deliver_12 : decode b_LB_deliver 12 = .ok (.ireturn, 1) := by decide +kernel
theorem d_LB_deliver_13 : decode b_LB_deliver 13 = .ok (.aload_n 0, 1) := by decide +kernel
theorem d_LB_deliver_14 : decode b_LB_deliver 14 = .ok (.getfield 12, 3) := by decide +kernel
theorem d_LB_deliver_17 : decode b_LB_deliver 17 = .ok (.iload_n 1, 1) := by decide +kernel
theorem d_LB_deliver_18 : decode b_LB_deliver 18 = .ok (.invokevirtual 73, 3) := by decide +kernel
theorem d_LB_deliver_21 : decode b_LB_deliver 21 = .ok (.astore_n 3, 1) := by decide +kernel
theorem d_LB_deliver_22 : decode b_LB_deliver 22 = .ok (.aload_n 0, 1) := by decide +kernel
theorem d_LB_deliver_23 : decode b_LB_deliver 23 = .ok (.aload_n 3, 1) := by decide +kernel
theorem d_LB_deliver_24 : decode b_LB_deliver 24 = .ok (.getfield 77, 3) := by decide +kernel
theorem d_LB_deliver_27 : decode b_LB_deliver 27 = .ok (.invokevirtual 82, 3) := by decide +kernel
theorem d_LB_deliver_30 : decode b_LB_deliver 30 = .ok (.ifCond .ne 5, 3) := by decide +kernel
theorem d_LB_deliver_33 : decode b_LB_deliver 33 = .ok (.iconst 0, 1) := by decide +kernel
theorem d_LB_deliver_34 : decode b_LB_deliver 34 = .ok (.ireturn, 1) := by decide +kernel
theorem d_LB_deliver_35 : decode b_LB_deliver 35 = .ok (.aload_n 3, 1) := by decide +kernel
theorem d_LB_deliver_36 : decode b_LB_deliver 36 = .ok (.invokevirtual 85, 3) := by decide +kernel
theorem d_LB_deliver_39 : decode b_LB_deliver 39 = .ok (.ifCond .eq 12, 3) := by decide +kernel
theorem d_LB_deliver_42 : decode b_LB_deliver 42 = .ok (.aload_n 0, 1) := by decide +kernel
theorem d_LB_deliver_43 : decode b_LB_deliver 43 = .ok (.aload_n 3, 1) := by decide +kernel
theorem d_LB_deliver_44 : decode b_LB_deliver 44 = .ok (.iload_n 2, 1) := by decide +kernel
theorem d_LB_deliver_45 : decode b_LB_deliver 45 = .ok (.invokevirtual 89, 3) := by decide +kernel
theorem d_LB_deliver_48 : decode b_LB_deliver 48 = .ok (.goto 13, 3) := by decide +kernel
theorem d_LB_deliver_51 : decode b_LB_deliver 51 = .ok (.aload_n 0, 1) := by decide +kernel
theorem d_LB_deliver_52 : decode b_LB_deliver 52 = .ok (.dup, 1) := by decide +kernel
theorem d_LB_deliver_53 : decode b_LB_deliver 53 = .ok (.getfield 45, 3) := by decide +kernel
theorem d_LB_deliver_56 : decode b_LB_deliver 56 = .ok (.iconst 1, 1) := by decide +kernel
theorem d_LB_deliver_57 : decode b_LB_deliver 57 = .ok (.iadd, 1) := by decide +kernel
theorem d_LB_deliver_58 : decode b_LB_deliver 58 = .ok (.putfield 45, 3) := by decide +kernel
theorem d_LB_deliver_61 : decode b_LB_deliver 61 = .ok (.aload_n 3, 1) := by decide +kernel
theorem d_LB_deliver_62 : decode b_LB_deliver 62 = .ok (.getfield 93, 3) := by decide +kernel
theorem d_LB_deliver_65 : decode b_LB_deliver 65 = .ok (.ireturn, 1) := by decide +kernel
theorem d_LB_lose_0 : decode b_LB_lose 0 = .ok (.aload_n 0, 1) := by decide +kernel
theorem d_LB_lose_1 : decode b_LB_lose 1 = .ok (.getfield 12, 3) := by decide +kernel
theorem d_LB_lose_4 : decode b_LB_lose 4 = .ok (.iload_n 1, 1) := by decide +kernel
theorem d_LB_lose_5 : decode b_LB_lose 5 = .ok (.invokevirtual 69, 3) := by decide +kernel
theorem d_LB_lose_8 : decode b_LB_lose 8 = .ok (.ifCond .ne 5, 3) := by decide +kernel
theorem d_LB_lose_11 : decode b_LB_lose 11 = .ok (.iconst 0, 1) := by decide +kernel
theorem d_LB_lose_12 : decode b_LB_lose 12 = .ok (.ireturn, 1) := by decide +kernel
theorem d_LB_lose_13 : decode b_LB_lose 13 = .ok (.aload_n 0, 1) := by decide +kernel
theorem d_LB_lose_14 : decode b_LB_lose 14 = .ok (.getfield 12, 3) := by decide +kernel
theorem d_LB_lose_17 : decode b_LB_lose 17 = .ok (.iload_n 1, 1) := by decide +kernel
theorem d_LB_lose_18 : decode b_LB_lose 18 = .ok (.invokevirtual 73, 3) := by decide +kernel
theorem d_LB_lose_21 : decode b_LB_lose 21 = .ok (.pop, 1) := by decide +kernel
theorem d_LB_lose_22 : decode b_LB_lose 22 = .ok (.iconst 1, 1) := by decide +kernel
theorem d_LB_lose_23 : decode b_LB_lose 23 = .ok (.ireturn, 1) := by decide +kernel
theorem d_LB_spoil_0 : decode b_LB_spoil 0 = .ok (.aload_n 0, 1) := by decide +kernel
theorem d_LB_spoil_1 : decode b_LB_spoil 1 = .ok (.getfield 12, 3) := by decide +kernel
theorem d_LB_spoil_4 : decode b_LB_spoil 4 = .ok (.iload_n 1, 1) := by decide +kernel
theorem d_LB_spoil_5 : decode b_LB_spoil 5 = .ok (.invokevirtual 69, 3) := by decide +kernel
theorem d_LB_spoil_8 : decode b_LB_spoil 8 = .ok (.ifCond .eq 17, 3) := by decide +kernel
theorem d_LB_spoil_11 : decode b_LB_spoil 11 = .ok (.aload_n 0, 1) := by decide +kernel
theorem d_LB_spoil_12 : decode b_LB_spoil 12 = .ok (.getfield 12, 3) := by decide +kernel
theorem d_LB_spoil_15 : decode b_LB_spoil 15 = .ok (.iload_n 1, 1) := by decide +kernel
theorem d_LB_spoil_16 : decode b_LB_spoil 16 = .ok (.invokevirtual 96, 3) := by decide +kernel
theorem d_LB_spoil_19 : decode b_LB_spoil 19 = .ok (.invokevirtual 99, 3) := by decide +kernel
theorem d_LB_spoil_22 : decode b_LB_spoil 22 = .ok (.ifCond .ne 5, 3) := by decide +kernel
theorem d_LB_spoil_25 : decode b_LB_spoil 25 = .ok (.iconst 0, 1) := by decide +kernel
theorem d_LB_spoil_26 : decode b_LB_spoil 26 = .ok (.ireturn, 1) := by decide +kernel
theorem d_LB_spoil_27 : decode b_LB_spoil 27 = .ok (.aload_n 0, 1) := by decide +kernel
theorem d_LB_spoil_28 : decode b_LB_spoil 28 = .ok (.getfield 12, 3) := by decide +kernel
theorem d_LB_spoil_31 : decode b_LB_spoil 31 = .ok (.iload_n 1, 1) := by decide +kernel
theorem d_LB_spoil_32 : decode b_LB_spoil 32 = .ok (.invokevirtual 96, 3) := by decide +kernel
theorem d_LB_spoil_35 : decode b_LB_spoil 35 = .ok (.dup, 1) := by decide +kernel
theorem d_LB_spoil_36 : decode b_LB_spoil 36 = .ok (.getfield 102, 3) := by decide +kernel
theorem d_LB_spoil_39 : decode b_LB_spoil 39 = .ok (.iconst 1, 1) := by decide +kernel
theorem d_LB_spoil_40 : decode b_LB_spoil 40 = .ok (.ixor, 1) := by decide +kernel
theorem d_LB_spoil_41 : decode b_LB_spoil 41 = .ok (.putfield 102, 3) := by decide +kernel
theorem d_LB_spoil_44 : decode b_LB_spoil 44 = .ok (.iconst 1, 1) := by decide +kernel
theorem d_LB_spoil_45 : decode b_LB_spoil 45 = .ok (.ireturn, 1) := by decide +kernel
theorem d_LB_crash_0 : decode b_LB_crash 0 = .ok (.aload_n 0, 1) := by decide +kernel
theorem d_LB_crash_1 : decode b_LB_crash 1 = .ok (.iload_n 1, 1) := by decide +kernel
theorem d_LB_crash_2 : decode b_LB_crash 2 = .ok (.invokevirtual 105, 3) := by decide +kernel
theorem d_LB_crash_5 : decode b_LB_crash 5 = .ok (.ifCond .eq 11, 3) := by decide +kernel
theorem d_LB_crash_8 : decode b_LB_crash 8 = .ok (.aload_n 0, 1) := by decide +kernel
theorem d_LB_crash_9 : decode b_LB_crash 9 = .ok (.iload_n 1, 1) := by decide +kernel
theorem d_LB_crash_10 : decode b_LB_crash 10 = .ok (.invokevirtual 82, 3) := by decide +kernel
theorem d_LB_crash_13 : decode b_LB_crash 13 = .ok (.ifCond .ne 5, 3) := by decide +kernel
theorem d_LB_crash_16 : decode b_LB_crash 16 = .ok (.iconst 0, 1) := by decide +kernel
theorem d_LB_crash_17 : decode b_LB_crash 17 = .ok (.ireturn, 1) := by decide +kernel
theorem d_LB_crash_18 : decode b_LB_crash 18 = .ok (.iload_n 1, 1) := by decide +kernel
theorem d_LB_crash_19 : decode b_LB_crash 19 = .ok (.ifCond .ne 13, 3) := by decide +kernel
theorem d_LB_crash_22 : decode b_LB_crash 22 = .ok (.aload_n 0, 1) := by decide +kernel
theorem d_LB_crash_23 : decode b_LB_crash 23 = .ok (.getfield 30, 3) := by decide +kernel
theorem d_LB_crash_26 : decode b_LB_crash 26 = .ok (.invokevirtual 108, 3) := by decide +kernel
theorem d_LB_crash_29 : decode b_LB_crash 29 = .ok (.goto 14, 3) := by decide +kernel
theorem d_LB_crash_32 : decode b_LB_crash 32 = .ok (.aload_n 0, 1) := by decide +kernel
theorem d_LB_crash_33 : decode b_LB_crash 33 = .ok (.getfield 36, 3) := by decide +kernel
theorem d_LB_crash_36 : decode b_LB_crash 36 = .ok (.iload_n 1, 1) := by decide +kernel
theorem d_LB_crash_37 : decode b_LB_crash 37 = .ok (.iconst 1, 1) := by decide +kernel
theorem d_LB_crash_38 : decode b_LB_crash 38 = .ok (.isub, 1) := by decide +kernel
theorem d_LB_crash_39 : decode b_LB_crash 39 = .ok (.aaload, 1) := by decide +kernel
theorem d_LB_crash_40 : decode b_LB_crash 40 = .ok (.invokevirtual 111, 3) := by decide +kernel
theorem d_LB_crash_43 : decode b_LB_crash 43 = .ok (.iconst 1, 1) := by decide +kernel
theorem d_LB_crash_44 : decode b_LB_crash 44 = .ok (.ireturn, 1) := by decide +kernel
theorem d_LB_restart_0 : decode b_LB_restart 0 = .ok (.aload_n 0, 1) := by decide +kernel
theorem d_LB_restart_1 : decode b_LB_restart 1 = .ok (.iload_n 1, 1) := by decide +kernel
theorem d_LB_restart_2 : decode b_LB_restart 2 = .ok (.invokevirtual 105, 3) := by decide +kernel
theorem d_LB_restart_5 : decode b_LB_restart 5 = .ok (.ifCond .eq 11, 3) := by decide +kernel
theorem d_LB_restart_8 : decode b_LB_restart 8 = .ok (.aload_n 0, 1) := by decide +kernel
theorem d_LB_restart_9 : decode b_LB_restart 9 = .ok (.iload_n 1, 1) := by decide +kernel
theorem d_LB_restart_10 : decode b_LB_restart 10 = .ok (.invokevirtual 82, 3) := by decide +kernel
theorem d_LB_restart_13 : decode b_LB_restart 13 = .ok (.ifCond .eq 5, 3) := by decide +kernel
theorem d_LB_restart_16 : decode b_LB_restart 16 = .ok (.iconst 0, 1) := by decide +kernel
theorem d_LB_restart_17 : decode b_LB_restart 17 = .ok (.ireturn, 1) := by decide +kernel
theorem d_LB_restart_18 : decode b_LB_restart 18 = .ok (.iload_n 1, 1) := by decide +kernel
theorem d_LB_restart_19 : decode b_LB_restart 19 = .ok (.ifCond .ne 14, 3) := by decide +kernel
theorem d_LB_restart_22 : decode b_LB_restart 22 = .ok (.aload_n 0, 1) := by decide +kernel
theorem d_LB_restart_23 : decode b_LB_restart 23 = .ok (.getfield 30, 3) := by decide +kernel
theorem d_LB_restart_26 : decode b_LB_restart 26 = .ok (.iconst 1, 1) := by decide +kernel
theorem d_LB_restart_27 : decode b_LB_restart 27 = .ok (.putfield 112, 3) := by decide +kernel
theorem d_LB_restart_30 : decode b_LB_restart 30 = .ok (.goto 15, 3) := by decide +kernel
theorem d_LB_restart_33 : decode b_LB_restart 33 = .ok (.aload_n 0, 1) := by decide +kernel
theorem d_LB_restart_34 : decode b_LB_restart 34 = .ok (.getfield 36, 3) := by decide +kernel
theorem d_LB_restart_37 : decode b_LB_restart 37 = .ok (.iload_n 1, 1) := by decide +kernel
theorem d_LB_restart_38 : decode b_LB_restart 38 = .ok (.iconst 1, 1) := by decide +kernel
theorem d_LB_restart_39 : decode b_LB_restart 39 = .ok (.isub, 1) := by decide +kernel
theorem d_LB_restart_40 : decode b_LB_restart 40 = .ok (.aaload, 1) := by decide +kernel
theorem d_LB_restart_41 : decode b_LB_restart 41 = .ok (.iconst 1, 1) := by decide +kernel
theorem d_LB_restart_42 : decode b_LB_restart 42 = .ok (.putfield 116, 3) := by decide +kernel
theorem d_LB_restart_45 : decode b_LB_restart 45 = .ok (.iconst 1, 1) := by decide +kernel
theorem d_LB_restart_46 : decode b_LB_restart 46 = .ok (.ireturn, 1) := by decide +kernel
theorem d_LB_collect_0 : decode b_LB_collect 0 = .ok (.aload_n 0, 1) := by decide +kernel
theorem d_LB_collect_1 : decode b_LB_collect 1 = .ok (.getfield 30, 3) := by decide +kernel
theorem d_LB_collect_4 : decode b_LB_collect 4 = .ok (.getfield 112, 3) := by decide +kernel
theorem d_LB_collect_7 : decode b_LB_collect 7 = .ok (.ifCond .eq 13, 3) := by decide +kernel
theorem d_LB_collect_10 : decode b_LB_collect 10 = .ok (.aload_n 0, 1) := by decide +kernel
theorem d_LB_collect_11 : decode b_LB_collect 11 = .ok (.getfield 30, 3) := by decide +kernel
theorem d_LB_collect_14 : decode b_LB_collect 14 = .ok (.invokevirtual 117, 3) := by decide +kernel
theorem d_LB_collect_17 : decode b_LB_collect 17 = .ok (.goto 4, 3) := by decide +kernel
theorem d_LB_collect_20 : decode b_LB_collect 20 = .ok (.iconst (-1), 1) := by decide +kernel
theorem d_LB_collect_21 : decode b_LB_collect 21 = .ok (.ireturn, 1) := by decide +kernel
theorem d_LB_flying_0 : decode b_LB_flying 0 = .ok (.aload_n 0, 1) := by decide +kernel
theorem d_LB_flying_1 : decode b_LB_flying 1 = .ok (.getfield 12, 3) := by decide +kernel
theorem d_LB_flying_4 : decode b_LB_flying 4 = .ok (.getfield 121, 3) := by decide +kernel
theorem d_LB_flying_7 : decode b_LB_flying 7 = .ok (.ireturn, 1) := by decide +kernel
theorem d_LB_message_0 : decode b_LB_message 0 = .ok (.aload_n 0, 1) := by decide +kernel
theorem d_LB_message_1 : decode b_LB_message 1 = .ok (.getfield 12, 3) := by decide +kernel
theorem d_LB_message_4 : decode b_LB_message 4 = .ok (.iload_n 1, 1) := by decide +kernel
theorem d_LB_message_5 : decode b_LB_message 5 = .ok (.invokevirtual 69, 3) := by decide +kernel
theorem d_LB_message_8 : decode b_LB_message 8 = .ok (.ifCond .ne 5, 3) := by decide +kernel
theorem d_LB_message_11 : decode b_LB_message 11 = .ok (.iconst (-1), 1) := by decide +kernel
theorem d_LB_message_12 : decode b_LB_message 12 = .ok (.ireturn, 1) := by decide +kernel
theorem d_LB_message_13 : decode b_LB_message 13 = .ok (.aload_n 0, 1) := by decide +kernel
theorem d_LB_message_14 : decode b_LB_message 14 = .ok (.getfield 12, 3) := by decide +kernel
theorem d_LB_message_17 : decode b_LB_message 17 = .ok (.iload_n 1, 1) := by decide +kernel
theorem d_LB_message_18 : decode b_LB_message 18 = .ok (.invokevirtual 96, 3) := by decide +kernel
theorem d_LB_message_21 : decode b_LB_message 21 = .ok (.astore_n 2, 1) := by decide +kernel
theorem d_LB_message_22 : decode b_LB_message 22 = .ok (.bipush 10, 2) := by decide +kernel
theorem d_LB_message_24 : decode b_LB_message 24 = .ok (.aload_n 2, 1) := by decide +kernel
theorem d_LB_message_25 : decode b_LB_message 25 = .ok (.getfield 93, 3) := by decide +kernel
theorem d_LB_message_28 : decode b_LB_message 28 = .ok (.imul, 1) := by decide +kernel
theorem d_LB_message_29 : decode b_LB_message 29 = .ok (.aload_n 2, 1) := by decide +kernel
theorem d_LB_message_30 : decode b_LB_message 30 = .ok (.getfield 77, 3) := by decide +kernel
theorem d_LB_message_33 : decode b_LB_message 33 = .ok (.iadd, 1) := by decide +kernel
theorem d_LB_message_34 : decode b_LB_message 34 = .ok (.ireturn, 1) := by decide +kernel
theorem d_LB_carried_0 : decode b_LB_carried 0 = .ok (.aload_n 0, 1) := by decide +kernel
theorem d_LB_carried_1 : decode b_LB_carried 1 = .ok (.getfield 12, 3) := by decide +kernel
theorem d_LB_carried_4 : decode b_LB_carried 4 = .ok (.iload_n 1, 1) := by decide +kernel
theorem d_LB_carried_5 : decode b_LB_carried 5 = .ok (.invokevirtual 69, 3) := by decide +kernel
theorem d_LB_carried_8 : decode b_LB_carried 8 = .ok (.ifCond .eq 31, 3) := by decide +kernel
theorem d_LB_carried_11 : decode b_LB_carried 11 = .ok (.aload_n 0, 1) := by decide +kernel
theorem d_LB_carried_12 : decode b_LB_carried 12 = .ok (.getfield 12, 3) := by decide +kernel
theorem d_LB_carried_15 : decode b_LB_carried 15 = .ok (.iload_n 1, 1) := by decide +kernel
theorem d_LB_carried_16 : decode b_LB_carried 16 = .ok (.invokevirtual 96, 3) := by decide +kernel
theorem d_LB_carried_19 : decode b_LB_carried 19 = .ok (.invokevirtual 99, 3) := by decide +kernel
theorem d_LB_carried_22 : decode b_LB_carried 22 = .ok (.ifCond .eq 17, 3) := by decide +kernel
theorem d_LB_carried_25 : decode b_LB_carried 25 = .ok (.aload_n 0, 1) := by decide +kernel
theorem d_LB_carried_26 : decode b_LB_carried 26 = .ok (.getfield 12, 3) := by decide +kernel
theorem d_LB_carried_29 : decode b_LB_carried 29 = .ok (.iload_n 1, 1) := by decide +kernel
theorem d_LB_carried_30 : decode b_LB_carried 30 = .ok (.invokevirtual 96, 3) := by decide +kernel
theorem d_LB_carried_33 : decode b_LB_carried 33 = .ok (.getfield 102, 3) := by decide +kernel
theorem d_LB_carried_36 : decode b_LB_carried 36 = .ok (.goto 4, 3) := by decide +kernel
theorem d_LB_carried_39 : decode b_LB_carried 39 = .ok (.iconst 0, 1) := by decide +kernel
theorem d_LB_carried_40 : decode b_LB_carried 40 = .ok (.ireturn, 1) := by decide +kernel
theorem d_LB_known_0 : decode b_LB_known 0 = .ok (.aload_n 0, 1) := by decide +kernel
theorem d_LB_known_1 : decode b_LB_known 1 = .ok (.getfield 21, 3) := by decide +kernel
theorem d_LB_known_4 : decode b_LB_known 4 = .ok (.iload_n 1, 1) := by decide +kernel
theorem d_LB_known_5 : decode b_LB_known 5 = .ok (.invokevirtual 124, 3) := by decide +kernel
theorem d_LB_known_8 : decode b_LB_known 8 = .ok (.ireturn, 1) := by decide +kernel
theorem d_LB_content_0 : decode b_LB_content 0 = .ok (.aload_n 0, 1) := by decide +kernel
theorem d_LB_content_1 : decode b_LB_content 1 = .ok (.getfield 21, 3) := by decide +kernel
theorem d_LB_content_4 : decode b_LB_content 4 = .ok (.iload_n 1, 1) := by decide +kernel
theorem d_LB_content_5 : decode b_LB_content 5 = .ok (.invokevirtual 124, 3) := by decide +kernel
theorem d_LB_content_8 : decode b_LB_content 8 = .ok (.ifCond .eq 15, 3) := by decide +kernel
theorem d_LB_content_11 : decode b_LB_content 11 = .ok (.aload_n 0, 1) := by decide +kernel
theorem d_LB_content_12 : decode b_LB_content 12 = .ok (.getfield 21, 3) := by decide +kernel
theorem d_LB_content_15 : decode b_LB_content 15 = .ok (.getfield 127, 3) := by decide +kernel
theorem d_LB_content_18 : decode b_LB_content 18 = .ok (.iload_n 1, 1) := by decide +kernel
theorem d_LB_content_19 : decode b_LB_content 19 = .ok (.iaload, 1) := by decide +kernel
theorem d_LB_content_20 : decode b_LB_content 20 = .ok (.goto 4, 3) := by decide +kernel
theorem d_LB_content_23 : decode b_LB_content 23 = .ok (.iconst 0, 1) := by decide +kernel
theorem d_LB_content_24 : decode b_LB_content 24 = .ok (.ireturn, 1) := by decide +kernel
theorem d_LB_digest_0 : decode b_LB_digest 0 = .ok (.iload_n 1, 1) := by decide +kernel
theorem d_LB_digest_1 : decode b_LB_digest 1 = .ok (.invokestatic 131, 3) := by decide +kernel
theorem d_LB_digest_4 : decode b_LB_digest 4 = .ok (.ireturn, 1) := by decide +kernel
theorem d_LB_stored_0 : decode b_LB_stored 0 = .ok (.aload_n 0, 1) := by decide +kernel
theorem d_LB_stored_1 : decode b_LB_stored 1 = .ok (.getfield 30, 3) := by decide +kernel
theorem d_LB_stored_4 : decode b_LB_stored 4 = .ok (.getfield 134, 3) := by decide +kernel
theorem d_LB_stored_7 : decode b_LB_stored 7 = .ok (.iload_n 1, 1) := by decide +kernel
theorem d_LB_stored_8 : decode b_LB_stored 8 = .ok (.invokevirtual 138, 3) := by decide +kernel
theorem d_LB_stored_11 : decode b_LB_stored 11 = .ok (.ireturn, 1) := by decide +kernel
theorem d_LB_waiting_0 : decode b_LB_waiting 0 = .ok (.aload_n 0, 1) := by decide +kernel
theorem d_LB_waiting_1 : decode b_LB_waiting 1 = .ok (.getfield 30, 3) := by decide +kernel
theorem d_LB_waiting_4 : decode b_LB_waiting 4 = .ok (.getfield 143, 3) := by decide +kernel
theorem d_LB_waiting_7 : decode b_LB_waiting 7 = .ok (.getfield 147, 3) := by decide +kernel
theorem d_LB_waiting_10 : decode b_LB_waiting 10 = .ok (.ireturn, 1) := by decide +kernel
theorem d_LB_lease_0 : decode b_LB_lease 0 = .ok (.aload_n 0, 1) := by decide +kernel
theorem d_LB_lease_1 : decode b_LB_lease 1 = .ok (.iload_n 1, 1) := by decide +kernel
theorem d_LB_lease_2 : decode b_LB_lease 2 = .ok (.invokevirtual 150, 3) := by decide +kernel
theorem d_LB_lease_5 : decode b_LB_lease 5 = .ok (.ifCond .eq 18, 3) := by decide +kernel
theorem d_LB_lease_8 : decode b_LB_lease 8 = .ok (.aload_n 0, 1) := by decide +kernel
theorem d_LB_lease_9 : decode b_LB_lease 9 = .ok (.getfield 30, 3) := by decide +kernel
theorem d_LB_lease_12 : decode b_LB_lease 12 = .ok (.iload_n 1, 1) := by decide +kernel
theorem d_LB_lease_13 : decode b_LB_lease 13 = .ok (.aload_n 0, 1) := by decide +kernel
theorem d_LB_lease_14 : decode b_LB_lease 14 = .ok (.getfield 41, 3) := by decide +kernel
theorem d_LB_lease_17 : decode b_LB_lease 17 = .ok (.invokevirtual 153, 3) := by decide +kernel
theorem d_LB_lease_20 : decode b_LB_lease 20 = .ok (.goto 4, 3) := by decide +kernel
theorem d_LB_lease_23 : decode b_LB_lease 23 = .ok (.iconst (-1), 1) := by decide +kernel
theorem d_LB_lease_24 : decode b_LB_lease 24 = .ok (.ireturn, 1) := by decide +kernel
theorem d_LB_doing_0 : decode b_LB_doing 0 = .ok (.aload_n 0, 1) := by decide +kernel
theorem d_LB_doing_1 : decode b_LB_doing 1 = .ok (.iload_n 1, 1) := by decide +kernel
theorem d_LB_doing_2 : decode b_LB_doing 2 = .ok (.invokevirtual 150, 3) := by decide +kernel
theorem d_LB_doing_5 : decode b_LB_doing 5 = .ok (.ifCond .eq 31, 3) := by decide +kernel
theorem d_LB_doing_8 : decode b_LB_doing 8 = .ok (.aload_n 0, 1) := by decide +kernel
theorem d_LB_doing_9 : decode b_LB_doing 9 = .ok (.getfield 36, 3) := by decide +kernel
theorem d_LB_doing_12 : decode b_LB_doing 12 = .ok (.iload_n 1, 1) := by decide +kernel
theorem d_LB_doing_13 : decode b_LB_doing 13 = .ok (.iconst 1, 1) := by decide +kernel
theorem d_LB_doing_14 : decode b_LB_doing 14 = .ok (.isub, 1) := by decide +kernel
theorem d_LB_doing_15 : decode b_LB_doing 15 = .ok (.aaload, 1) := by decide +kernel
theorem d_LB_doing_16 : decode b_LB_doing 16 = .ok (.getfield 157, 3) := by decide +kernel
theorem d_LB_doing_19 : decode b_LB_doing 19 = .ok (.ifCond .eq 17, 3) := by decide +kernel
theorem d_LB_doing_22 : decode b_LB_doing 22 = .ok (.aload_n 0, 1) := by decide +kernel
theorem d_LB_doing_23 : decode b_LB_doing 23 = .ok (.getfield 36, 3) := by decide +kernel
theorem d_LB_doing_26 : decode b_LB_doing 26 = .ok (.iload_n 1, 1) := by decide +kernel
theorem d_LB_doing_27 : decode b_LB_doing 27 = .ok (.iconst 1, 1) := by decide +kernel
theorem d_LB_doing_28 : decode b_LB_doing 28 = .ok (.isub, 1) := by decide +kernel
theorem d_LB_doing_29 : decode b_LB_doing 29 = .ok (.aaload, 1) := by decide +kernel
theorem d_LB_doing_30 : decode b_LB_doing 30 = .ok (.getfield 160, 3) := by decide +kernel
theorem d_LB_doing_33 : decode b_LB_doing 33 = .ok (.goto 4, 3) := by decide +kernel
theorem d_LB_doing_36 : decode b_LB_doing 36 = .ok (.iconst (-1), 1) := by decide +kernel
theorem d_LB_doing_37 : decode b_LB_doing 37 = .ok (.ireturn, 1) := by decide +kernel
theorem d_LB_count_0 : decode b_LB_count 0 = .ok (.iload_n 1, 1) := by decide +kernel
theorem d_LB_count_1 : decode b_LB_count 1 = .ok (.tableswitch 135 0 9 #[55, 66, 77, 85, 93, 101, 106, 114, 122, 127], 55) := by decide +kernel
theorem d_LB_count_56 : decode b_LB_count 56 = .ok (.aload_n 0, 1) := by decide +kernel
theorem d_LB_count_57 : decode b_LB_count 57 = .ok (.getfield 30, 3) := by decide +kernel
theorem d_LB_count_60 : decode b_LB_count 60 = .ok (.getfield 134, 3) := by decide +kernel
theorem d_LB_count_63 : decode b_LB_count 63 = .ok (.getfield 163, 3) := by decide +kernel
theorem d_LB_count_66 : decode b_LB_count 66 = .ok (.ireturn, 1) := by decide +kernel
theorem d_LB_count_67 : decode b_LB_count 67 = .ok (.aload_n 0, 1) := by decide +kernel
theorem d_LB_count_68 : decode b_LB_count 68 = .ok (.getfield 30, 3) := by decide +kernel
theorem d_LB_count_71 : decode b_LB_count 71 = .ok (.getfield 134, 3) := by decide +kernel
theorem d_LB_count_74 : decode b_LB_count 74 = .ok (.getfield 166, 3) := by decide +kernel
theorem d_LB_count_77 : decode b_LB_count 77 = .ok (.ireturn, 1) := by decide +kernel
theorem d_LB_count_78 : decode b_LB_count 78 = .ok (.aload_n 0, 1) := by decide +kernel
theorem d_LB_count_79 : decode b_LB_count 79 = .ok (.getfield 30, 3) := by decide +kernel
theorem d_LB_count_82 : decode b_LB_count 82 = .ok (.getfield 169, 3) := by decide +kernel
theorem d_LB_count_85 : decode b_LB_count 85 = .ok (.ireturn, 1) := by decide +kernel
theorem d_LB_count_86 : decode b_LB_count 86 = .ok (.aload_n 0, 1) := by decide +kernel
theorem d_LB_count_87 : decode b_LB_count 87 = .ok (.getfield 30, 3) := by decide +kernel
theorem d_LB_count_90 : decode b_LB_count 90 = .ok (.getfield 172, 3) := by decide +kernel
theorem d_LB_count_93 : decode b_LB_count 93 = .ok (.ireturn, 1) := by decide +kernel
theorem d_LB_count_94 : decode b_LB_count 94 = .ok (.aload_n 0, 1) := by decide +kernel
theorem d_LB_count_95 : decode b_LB_count 95 = .ok (.getfield 30, 3) := by decide +kernel
theorem d_LB_count_98 : decode b_LB_count 98 = .ok (.getfield 175, 3) := by decide +kernel
theorem d_LB_count_101 : decode b_LB_count 101 = .ok (.ireturn, 1) := by decide +kernel
theorem d_LB_count_102 : decode b_LB_count 102 = .ok (.aload_n 0, 1) := by decide +kernel
theorem d_LB_count_103 : decode b_LB_count 103 = .ok (.getfield 45, 3) := by decide +kernel
theorem d_LB_count_106 : decode b_LB_count 106 = .ok (.ireturn, 1) := by decide +kernel
theorem d_LB_count_107 : decode b_LB_count 107 = .ok (.aload_n 0, 1) := by decide +kernel
theorem d_LB_count_108 : decode b_LB_count 108 = .ok (.getfield 30, 3) := by decide +kernel
theorem d_LB_count_111 : decode b_LB_count 111 = .ok (.getfield 178, 3) := by decide +kernel
theorem d_LB_count_114 : decode b_LB_count 114 = .ok (.ireturn, 1) := by decide +kernel
theorem d_LB_count_115 : decode b_LB_count 115 = .ok (.aload_n 0, 1) := by decide +kernel
theorem d_LB_count_116 : decode b_LB_count 116 = .ok (.getfield 30, 3) := by decide +kernel
theorem d_LB_count_119 : decode b_LB_count 119 = .ok (.getfield 181, 3) := by decide +kernel
theorem d_LB_count_122 : decode b_LB_count 122 = .ok (.ireturn, 1) := by decide +kernel
theorem d_LB_count_123 : decode b_LB_count 123 = .ok (.aload_n 0, 1) := by decide +kernel
theorem d_LB_count_124 : decode b_LB_count 124 = .ok (.getfield 41, 3) := by decide +kernel
theorem d_LB_count_127 : decode b_LB_count 127 = .ok (.ireturn, 1) := by decide +kernel
theorem d_LB_count_128 : decode b_LB_count 128 = .ok (.aload_n 0, 1) := by decide +kernel
theorem d_LB_count_129 : decode b_LB_count 129 = .ok (.getfield 21, 3) := by decide +kernel
theorem d_LB_count_132 : decode b_LB_count 132 = .ok (.invokevirtual 184, 3) := by decide +kernel
theorem d_LB_count_135 : decode b_LB_count 135 = .ok (.ireturn, 1) := by decide +kernel
theorem d_LB_count_136 : decode b_LB_count 136 = .ok (.iconst (-1), 1) := by decide +kernel
theorem d_LB_count_137 : decode b_LB_count 137 = .ok (.ireturn, 1) := by decide +kernel
theorem d_LB_file_0 : decode b_LB_file 0 = .ok (.aload_n 0, 1) := by decide +kernel
theorem d_LB_file_1 : decode b_LB_file 1 = .ok (.getfield 21, 3) := by decide +kernel
theorem d_LB_file_4 : decode b_LB_file 4 = .ok (.iload_n 1, 1) := by decide +kernel
theorem d_LB_file_5 : decode b_LB_file 5 = .ok (.invokevirtual 48, 3) := by decide +kernel
theorem d_LB_file_8 : decode b_LB_file 8 = .ok (.ireturn, 1) := by decide +kernel
theorem d_LB_action_0 : decode b_LB_action 0 = .ok (.aload_n 0, 1) := by decide +kernel
theorem d_LB_action_1 : decode b_LB_action 1 = .ok (.getfield 21, 3) := by decide +kernel
theorem d_LB_action_4 : decode b_LB_action 4 = .ok (.lload_n 1, 1) := by decide +kernel
theorem d_LB_action_5 : decode b_LB_action 5 = .ok (.iload_n 3, 1) := by decide +kernel
theorem d_LB_action_6 : decode b_LB_action 6 = .ok (.iload 4, 2) := by decide +kernel
theorem d_LB_action_8 : decode b_LB_action 8 = .ok (.invokevirtual 52, 3) := by decide +kernel
theorem d_LB_action_11 : decode b_LB_action 11 = .ok (.ireturn, 1) := by decide +kernel
theorem d_LB_tick_0 : decode b_LB_tick 0 = .ok (.aload_n 0, 1) := by decide +kernel
theorem d_LB_tick_1 : decode b_LB_tick 1 = .ok (.getfield 12, 3) := by decide +kernel
theorem d_LB_tick_4 : decode b_LB_tick 4 = .ok (.getfield 56, 3) := by decide +kernel
theorem d_LB_tick_7 : decode b_LB_tick 7 = .ok (.istore_n 1, 1) := by decide +kernel
theorem d_LB_tick_8 : decode b_LB_tick 8 = .ok (.aload_n 0, 1) := by decide +kernel
theorem d_LB_tick_9 : decode b_LB_tick 9 = .ok (.dup, 1) := by decide +kernel
theorem d_LB_tick_10 : decode b_LB_tick 10 = .ok (.getfield 41, 3) := by decide +kernel
theorem d_LB_tick_13 : decode b_LB_tick 13 = .ok (.iconst 1, 1) := by decide +kernel
theorem d_LB_tick_14 : decode b_LB_tick 14 = .ok (.iadd, 1) := by decide +kernel
theorem d_LB_tick_15 : decode b_LB_tick 15 = .ok (.putfield 41, 3) := by decide +kernel
theorem d_LB_tick_18 : decode b_LB_tick 18 = .ok (.iconst 0, 1) := by decide +kernel
theorem d_LB_tick_19 : decode b_LB_tick 19 = .ok (.istore_n 2, 1) := by decide +kernel
theorem d_LB_tick_20 : decode b_LB_tick 20 = .ok (.iload_n 2, 1) := by decide +kernel
theorem d_LB_tick_21 : decode b_LB_tick 21 = .ok (.aload_n 0, 1) := by decide +kernel
theorem d_LB_tick_22 : decode b_LB_tick 22 = .ok (.getfield 36, 3) := by decide +kernel
theorem d_LB_tick_25 : decode b_LB_tick 25 = .ok (.arraylength, 1) := by decide +kernel
theorem d_LB_tick_26 : decode b_LB_tick 26 = .ok (.if_icmp .ge 22, 3) := by decide +kernel
theorem d_LB_tick_29 : decode b_LB_tick 29 = .ok (.aload_n 0, 1) := by decide +kernel
theorem d_LB_tick_30 : decode b_LB_tick 30 = .ok (.getfield 36, 3) := by decide +kernel
theorem d_LB_tick_33 : decode b_LB_tick 33 = .ok (.iload_n 2, 1) := by decide +kernel
theorem d_LB_tick_34 : decode b_LB_tick 34 = .ok (.aaload, 1) := by decide +kernel
theorem d_LB_tick_35 : decode b_LB_tick 35 = .ok (.aload_n 0, 1) := by decide +kernel
theorem d_LB_tick_36 : decode b_LB_tick 36 = .ok (.getfield 12, 3) := by decide +kernel
theorem d_LB_tick_39 : decode b_LB_tick 39 = .ok (.invokevirtual 59, 3) := by decide +kernel
theorem d_LB_tick_42 : decode b_LB_tick 42 = .ok (.iinc 2 1, 3) := by decide +kernel
theorem d_LB_tick_45 : decode b_LB_tick 45 = .ok (.goto (-25), 3) := by decide +kernel
theorem d_LB_tick_48 : decode b_LB_tick 48 = .ok (.aload_n 0, 1) := by decide +kernel
theorem d_LB_tick_49 : decode b_LB_tick 49 = .ok (.getfield 30, 3) := by decide +kernel
theorem d_LB_tick_52 : decode b_LB_tick 52 = .ok (.aload_n 0, 1) := by decide +kernel
theorem d_LB_tick_53 : decode b_LB_tick 53 = .ok (.getfield 41, 3) := by decide +kernel
theorem d_LB_tick_56 : decode b_LB_tick 56 = .ok (.invokevirtual 62, 3) := by decide +kernel
theorem d_LB_tick_59 : decode b_LB_tick 59 = .ok (.aload_n 0, 1) := by decide +kernel
theorem d_LB_tick_60 : decode b_LB_tick 60 = .ok (.getfield 21, 3) := by decide +kernel
theorem d_LB_tick_63 : decode b_LB_tick 63 = .ok (.aload_n 0, 1) := by decide +kernel
theorem d_LB_tick_64 : decode b_LB_tick 64 = .ok (.getfield 41, 3) := by decide +kernel
theorem d_LB_tick_67 : decode b_LB_tick 67 = .ok (.invokevirtual 66, 3) := by decide +kernel
theorem d_LB_tick_70 : decode b_LB_tick 70 = .ok (.aload_n 0, 1) := by decide +kernel
theorem d_LB_tick_71 : decode b_LB_tick 71 = .ok (.getfield 12, 3) := by decide +kernel
theorem d_LB_tick_74 : decode b_LB_tick 74 = .ok (.getfield 56, 3) := by decide +kernel
theorem d_LB_tick_77 : decode b_LB_tick 77 = .ok (.iload_n 1, 1) := by decide +kernel
theorem d_LB_tick_78 : decode b_LB_tick 78 = .ok (.isub, 1) := by decide +kernel
theorem d_LB_tick_79 : decode b_LB_tick 79 = .ok (.ireturn, 1) := by decide +kernel
theorem cs_Server_178 : CwV WS "LeasedBuilds$Server" 178 "LeasedBuilds$Leases" y_Leases_nextFree b_Leases_nextFree 3 (some .int) 0 := ⟨⟨ms (i := 429) (by decide +kernel) rfl, ms (i := 426) (by decide +kernel) rfl, ms (i := 427) (by decide +kernel) rfl, ms (i := 428) (by decide +kernel) rfl, ms (i := 9) (by decide +kernel) rfl⟩, by decide +kernel⟩
theorem cs_Server_181 : CwV WS "LeasedBuilds$Server" 181 "LeasedBuilds$Queue" y_Queue_first b_Queue_first 1 (some (.object "LeasedBuilds$Key")) 0 := ⟨⟨ms (i := 433) (by decide +kernel) rfl, ms (i := 430) (by decide +kernel) rfl, ms (i := 431) (by decide +kernel) rfl, ms (i := 432) (by decide +kernel) rfl, ms (i := 8) (by decide +kernel) rfl⟩, by decide +kernel⟩
theorem fl_Server_58 : Cond.fieldLink "LeasedBuilds$Server" 58 "LeasedBuilds$Server" "length" "I" ∈ WS := ms (i := 243) (by decide +kernel) rfl
theorem cs_Server_184 : CwV WS "LeasedBuilds$Server" 184 "LeasedBuilds$Leases" y_Leases_give b_Leases_give 4 none 3 := ⟨⟨ms (i := 437) (by decide +kernel) rfl, ms (i := 434) (by decide +kernel) rfl, ms (i := 435) (by decide +kernel) rfl, ms (i := 436) (by decide +kernel) rfl, ms (i := 9) (by decide +kernel) rfl⟩, by decide +kernel⟩
theorem fl_Server_29 : Cond.fieldLink "LeasedBuilds$Server" 29 "LeasedBuilds$Server" "leasesGiven" "I" ∈ WS := ms (i := 246) (by decide +kernel) rfl
theorem cs_Server_188 : CwV WS "LeasedBuilds$Server" 188 "LeasedBuilds$Server" y_Server_sendLease b_Server_sendLease 4 none 2 := ⟨⟨ms (i := 442) (by decide +kernel) rfl, ms (i := 439) (by decide +kernel) rfl, ms (i := 441) (by decide +kernel) rfl, mp (i := 5) (by decide +kernel) rfl, ms (i := 6) (by decide +kernel) rfl⟩, by decide +kernel⟩
theorem cs_Server_75 : CwV WS "LeasedBuilds$Server" 75 "LeasedBuilds$Server" y_Server_endLeases b_Server_endLeases 3 none 1 := ⟨⟨ms (i := 403) (by decide +kernel) rfl, ms (i := 400) (by decide +kernel) rfl, ms (i := 402) (by decide +kernel) rfl, mp (i := 3) (by decide +kernel) rfl, ms (i := 6) (by decide +kernel) rfl⟩, by decide +kernel⟩
theorem cs_Server_78 : CwV WS "LeasedBuilds$Server" 78 "LeasedBuilds$Server" y_Server_giveLeases b_Server_giveLeases 4 none 1 := ⟨⟨ms (i := 425) (by decide +kernel) rfl, ms (i := 422) (by decide +kernel) rfl, ms (i := 424) (by decide +kernel) rfl, mp (i := 4) (by decide +kernel) rfl, ms (i := 6) (by decide +kernel) rfl⟩, by decide +kernel⟩
theorem fl_Server_148 : Cond.fieldLink "LeasedBuilds$Server" 148 "LeasedBuilds$Disk" "blobs" "I" ∈ WS := ms (i := 180) (by decide +kernel) rfl
theorem fl_Server_151 : Cond.fieldLink "LeasedBuilds$Server" 151 "LeasedBuilds$Disk" "blobDigests" "[I" ∈ WS := ms (i := 174) (by decide +kernel) rfl
theorem cs_Server_154 : CwV WS "LeasedBuilds$Server" 154 "LeasedBuilds$Server" y_Server_isNeeded b_Server_isNeeded 2 (some .boolean) 1 := ⟨⟨ms (i := 632) (by decide +kernel) rfl, ms (i := 629) (by decide +kernel) rfl, ms (i := 631) (by decide +kernel) rfl, mp (i := 18) (by decide +kernel) rfl, ms (i := 6) (by decide +kernel) rfl⟩, by decide +kernel⟩
theorem cs_Server_157 : CwV WS "LeasedBuilds$Server" 157 "LeasedBuilds$Disk" y_Disk_removeBlob b_Disk_removeBlob 2 none 1 := ⟨⟨ms (i := 653) (by decide +kernel) rfl, ms (i := 650) (by decide +kernel) rfl, ms (i := 651) (by decide +kernel) rfl, ms (i := 652) (by decide +kernel) rfl, ms (i := 7) (by decide +kernel) rfl⟩, by decide +kernel⟩
theorem fl_LB_36 : Cond.fieldLink "LeasedBuilds" 36 "LeasedBuilds" "workers" "[LLeasedBuilds$Worker;" ∈ WS := ms (i := 316) (by decide +kernel) rfl
theorem cs_LB_150 : CwV WS "LeasedBuilds" 150 "LeasedBuilds" y_LB_isWorker b_LB_isWorker 2 (some .boolean) 1 := ⟨⟨ms (i := 495) (by decide +kernel) rfl, ms (i := 492) (by decide +kernel) rfl, ms (i := 494) (by decide +kernel) rfl, mp (i := 11) (by decide +kernel) rfl, ms (i := 1) (by decide +kernel) rfl⟩, by decide +kernel⟩
theorem fl_LB_30 : Cond.fieldLink "LeasedBuilds" 30 "LeasedBuilds" "server" "LLeasedBuilds$Server;" ∈ WS := ms (i := 315) (by decide +kernel) rfl
theorem fl_LB_112 : Cond.fieldLink "LeasedBuilds" 112 "LeasedBuilds$Server" "up" "Z" ∈ WS := ms (i := 245) (by decide +kernel) rfl
theorem fl_LB_116 : Cond.fieldLink "LeasedBuilds" 116 "LeasedBuilds$Worker" "up" "Z" ∈ WS := ms (i := 290) (by decide +kernel) rfl
theorem fl_LB_93 : Cond.fieldLink "LeasedBuilds" 93 "LeasedBuilds$Message" "kind" "I" ∈ WS := ms (i := 61) (by decide +kernel) rfl
theorem cs_LB_187 : CwV WS "LeasedBuilds" 187 "LeasedBuilds$Server" y_Server_takeAsk b_Server_takeAsk 3 none 1 := ⟨⟨ms (i := 512) (by decide +kernel) rfl, ms (i := 509) (by decide +kernel) rfl, ms (i := 510) (by decide +kernel) rfl, ms (i := 511) (by decide +kernel) rfl, ms (i := 6) (by decide +kernel) rfl⟩, by decide +kernel⟩
theorem fl_LB_21 : Cond.fieldLink "LeasedBuilds" 21 "LeasedBuilds" "client" "LLeasedBuilds$Client;" ∈ WS := ms (i := 314) (by decide +kernel) rfl
theorem fl_LB_41 : Cond.fieldLink "LeasedBuilds" 41 "LeasedBuilds" "time" "I" ∈ WS := ms (i := 317) (by decide +kernel) rfl
theorem cs_LB_191 : CwV WS "LeasedBuilds" 191 "LeasedBuilds$Client" y_Client_takeLack b_Client_takeLack 3 none 2 := ⟨⟨ms (i := 547) (by decide +kernel) rfl, ms (i := 544) (by decide +kernel) rfl, ms (i := 545) (by decide +kernel) rfl, ms (i := 546) (by decide +kernel) rfl, ms (i := 5) (by decide +kernel) rfl⟩, by decide +kernel⟩
theorem cs_LB_194 : CwV WS "LeasedBuilds" 194 "LeasedBuilds$Server" y_Server_takePut b_Server_takePut 3 none 2 := ⟨⟨ms (i := 555) (by decide +kernel) rfl, ms (i := 552) (by decide +kernel) rfl, ms (i := 553) (by decide +kernel) rfl, ms (i := 554) (by decide +kernel) rfl, ms (i := 6) (by decide +kernel) rfl⟩, by decide +kernel⟩
theorem fl_LB_77 : Cond.fieldLink "LeasedBuilds" 77 "LeasedBuilds$Message" "receiver" "I" ∈ WS := ms (i := 62) (by decide +kernel) rfl
theorem cs_LB_197 : CwV WS "LeasedBuilds" 197 "LeasedBuilds$Worker" y_Worker_begin b_Worker_begin 2 none 1 := ⟨⟨ms (i := 575) (by decide +kernel) rfl, ms (i := 572) (by decide +kernel) rfl, ms (i := 573) (by decide +kernel) rfl, ms (i := 574) (by decide +kernel) rfl, ms (i := 10) (by decide +kernel) rfl⟩, by decide +kernel⟩
theorem cs_LB_200 : CwV WS "LeasedBuilds" 200 "LeasedBuilds$Server" y_Server_takeResult b_Server_takeResult 4 none 2 := ⟨⟨ms (i := 580) (by decide +kernel) rfl, ms (i := 577) (by decide +kernel) rfl, ms (i := 578) (by decide +kernel) rfl, ms (i := 579) (by decide +kernel) rfl, ms (i := 6) (by decide +kernel) rfl⟩, by decide +kernel⟩
theorem cs_LB_203 : CwV WS "LeasedBuilds" 203 "LeasedBuilds$Client" y_Client_takeAnswer b_Client_takeAnswer 3 none 1 := ⟨⟨ms (i := 589) (by decide +kernel) rfl, ms (i := 586) (by decide +kernel) rfl, ms (i := 587) (by decide +kernel) rfl, ms (i := 588) (by decide +kernel) rfl, ms (i := 5) (by decide +kernel) rfl⟩, by decide +kernel⟩
theorem fl_LB_12 : Cond.fieldLink "LeasedBuilds" 12 "LeasedBuilds" "flight" "LLeasedBuilds$Flight;" ∈ WS := ms (i := 313) (by decide +kernel) rfl
theorem cs_LB_69 : CwV WS "LeasedBuilds" 69 "LeasedBuilds$Flight" y_Flight_has b_Flight_has 2 (some .boolean) 1 := ⟨⟨ms (i := 483) (by decide +kernel) rfl, ms (i := 480) (by decide +kernel) rfl, ms (i := 481) (by decide +kernel) rfl, ms (i := 482) (by decide +kernel) rfl, ms (i := 2) (by decide +kernel) rfl⟩, by decide +kernel⟩
theorem cs_LB_73 : CwV WS "LeasedBuilds" 73 "LeasedBuilds$Flight" y_Flight_take b_Flight_take 4 (some (.object "LeasedBuilds$Message")) 1 := ⟨⟨ms (i := 487) (by decide +kernel) rfl, ms (i := 484) (by decide +kernel) rfl, ms (i := 485) (by decide +kernel) rfl, ms (i := 486) (by decide +kernel) rfl, ms (i := 2) (by decide +kernel) rfl⟩, by decide +kernel⟩
theorem cs_LB_82 : CwV WS "LeasedBuilds" 82 "LeasedBuilds" y_LB_isUp b_LB_isUp 2 (some .boolean) 1 := ⟨⟨ms (i := 491) (by decide +kernel) rfl, ms (i := 488) (by decide +kernel) rfl, ms (i := 490) (by decide +kernel) rfl, mp (i := 10) (by decide +kernel) rfl, ms (i := 1) (by decide +kernel) rfl⟩, by decide +kernel⟩
theorem cs_LB_85 : CwV WS "LeasedBuilds" 85 "LeasedBuilds$Message" y_Message_isSound b_Message_isSound 1 (some .boolean) 0 := ⟨⟨ms (i := 499) (by decide +kernel) rfl, ms (i := 496) (by decide +kernel) rfl, ms (i := 497) (by decide +kernel) rfl, ms (i := 498) (by decide +kernel) rfl, ms (i := 3) (by decide +kernel) rfl⟩, by decide +kernel⟩
theorem cs_LB_89 : CwV WS "LeasedBuilds" 89 "LeasedBuilds" y_LB_hand b_LB_hand 3 none 2 := ⟨⟨ms (i := 508) (by decide +kernel) rfl, ms (i := 505) (by decide +kernel) rfl, ms (i := 507) (by decide +kernel) rfl, mp (i := 12) (by decide +kernel) rfl, ms (i := 1) (by decide +kernel) rfl⟩, by decide +kernel⟩
theorem fl_LB_45 : Cond.fieldLink "LeasedBuilds" 45 "LeasedBuilds" "refused" "I" ∈ WS := ms (i := 318) (by decide +kernel) rfl
theorem cs_LB_96 : CwV WS "LeasedBuilds" 96 "LeasedBuilds$Flight" y_Flight_at b_Flight_at 2 (some (.object "LeasedBuilds$Message")) 1 := ⟨⟨ms (i := 602) (by decide +kernel) rfl, ms (i := 599) (by decide +kernel) rfl, ms (i := 600) (by decide +kernel) rfl, ms (i := 601) (by decide +kernel) rfl, ms (i := 2) (by decide +kernel) rfl⟩, by decide +kernel⟩
theorem cs_LB_99 : CwV WS "LeasedBuilds" 99 "LeasedBuilds$Message" y_Message_hasContent b_Message_hasContent 1 (some .boolean) 0 := ⟨⟨ms (i := 504) (by decide +kernel) rfl, ms (i := 603) (by decide +kernel) rfl, ms (i := 502) (by decide +kernel) rfl, ms (i := 503) (by decide +kernel) rfl, ms (i := 3) (by decide +kernel) rfl⟩, by decide +kernel⟩
theorem fl_LB_102 : Cond.fieldLink "LeasedBuilds" 102 "LeasedBuilds$Message" "first" "I" ∈ WS := ms (i := 76) (by decide +kernel) rfl
theorem cs_LB_105 : CwV WS "LeasedBuilds" 105 "LeasedBuilds" y_LB_isNode b_LB_isNode 2 (some .boolean) 1 := ⟨⟨ms (i := 611) (by decide +kernel) rfl, ms (i := 608) (by decide +kernel) rfl, ms (i := 610) (by decide +kernel) rfl, mp (i := 17) (by decide +kernel) rfl, ms (i := 1) (by decide +kernel) rfl⟩, by decide +kernel⟩
theorem cs_LB_108 : CwV WS "LeasedBuilds" 108 "LeasedBuilds$Server" y_Server_goDown b_Server_goDown 1 none 0 := ⟨⟨ms (i := 563) (by decide +kernel) rfl, ms (i := 612) (by decide +kernel) rfl, ms (i := 561) (by decide +kernel) rfl, ms (i := 562) (by decide +kernel) rfl, ms (i := 6) (by decide +kernel) rfl⟩, by decide +kernel⟩
theorem cs_LB_111 : CwV WS "LeasedBuilds" 111 "LeasedBuilds$Worker" y_Worker_goDown b_Worker_goDown 1 none 0 := ⟨⟨ms (i := 616) (by decide +kernel) rfl, ms (i := 613) (by decide +kernel) rfl, ms (i := 614) (by decide +kernel) rfl, ms (i := 615) (by decide +kernel) rfl, ms (i := 10) (by decide +kernel) rfl⟩, by decide +kernel⟩
theorem cs_LB_117 : CwV WS "LeasedBuilds" 117 "LeasedBuilds$Server" y_Server_sweep b_Server_sweep 3 (some .int) 0 := ⟨⟨ms (i := 628) (by decide +kernel) rfl, ms (i := 625) (by decide +kernel) rfl, ms (i := 626) (by decide +kernel) rfl, ms (i := 627) (by decide +kernel) rfl, ms (i := 6) (by decide +kernel) rfl⟩, by decide +kernel⟩
theorem fl_LB_121 : Cond.fieldLink "LeasedBuilds" 121 "LeasedBuilds$Flight" "size" "I" ∈ WS := ms (i := 104) (by decide +kernel) rfl
theorem cs_LB_124 : CwV WS "LeasedBuilds" 124 "LeasedBuilds$Client" y_Client_knows b_Client_knows 2 (some .boolean) 1 := ⟨⟨ms (i := 673) (by decide +kernel) rfl, ms (i := 670) (by decide +kernel) rfl, ms (i := 671) (by decide +kernel) rfl, ms (i := 672) (by decide +kernel) rfl, ms (i := 5) (by decide +kernel) rfl⟩, by decide +kernel⟩
theorem fl_LB_127 : Cond.fieldLink "LeasedBuilds" 127 "LeasedBuilds$Client" "contents" "[I" ∈ WS := ms (i := 129) (by decide +kernel) rfl
theorem cs_LB_131 : CwS WS "LeasedBuilds" 131 y_LB_digestOf b_LB_digestOf 3 (some .int) 1 := ⟨⟨ms (i := 374) (by decide +kernel) rfl, ms (i := 682) (by decide +kernel) rfl, ms (i := 373) (by decide +kernel) rfl, ms (i := 1) (by decide +kernel) rfl⟩, by decide +kernel⟩
theorem fl_LB_134 : Cond.fieldLink "LeasedBuilds" 134 "LeasedBuilds$Server" "disk" "LLeasedBuilds$Disk;" ∈ WS := ms (i := 239) (by decide +kernel) rfl
theorem cs_LB_138 : CwV WS "LeasedBuilds" 138 "LeasedBuilds$Disk" y_Disk_hasBlob b_Disk_hasBlob 2 (some .boolean) 1 := ⟨⟨ms (i := 529) (by decide +kernel) rfl, ms (i := 687) (by decide +kernel) rfl, ms (i := 527) (by decide +kernel) rfl, ms (i := 528) (by decide +kernel) rfl, ms (i := 7) (by decide +kernel) rfl⟩, by decide +kernel⟩
theorem fl_LB_143 : Cond.fieldLink "LeasedBuilds" 143 "LeasedBuilds$Server" "queue" "LLeasedBuilds$Queue;" ∈ WS := ms (i := 241) (by decide +kernel) rfl
theorem fl_LB_147 : Cond.fieldLink "LeasedBuilds" 147 "LeasedBuilds$Queue" "size" "I" ∈ WS := ms (i := 208) (by decide +kernel) rfl
theorem cs_LB_153 : CwV WS "LeasedBuilds" 153 "LeasedBuilds$Server" y_Server_ticksLeft b_Server_ticksLeft 3 (some .int) 2 := ⟨⟨ms (i := 699) (by decide +kernel) rfl, ms (i := 696) (by decide +kernel) rfl, ms (i := 697) (by decide +kernel) rfl, ms (i := 698) (by decide +kernel) rfl, ms (i := 6) (by decide +kernel) rfl⟩, by decide +kernel⟩
theorem fl_LB_157 : Cond.fieldLink "LeasedBuilds" 157 "LeasedBuilds$Worker" "busy" "Z" ∈ WS := ms (i := 292) (by decide +kernel) rfl
theorem fl_LB_160 : Cond.fieldLink "LeasedBuilds" 160 "LeasedBuilds$Worker" "done" "I" ∈ WS := ms (i := 294) (by decide +kernel) rfl
theorem fl_LB_163 : Cond.fieldLink "LeasedBuilds" 163 "LeasedBuilds$Disk" "blobs" "I" ∈ WS := ms (i := 181) (by decide +kernel) rfl
theorem fl_LB_166 : Cond.fieldLink "LeasedBuilds" 166 "LeasedBuilds$Disk" "results" "I" ∈ WS := ms (i := 183) (by decide +kernel) rfl
theorem fl_LB_169 : Cond.fieldLink "LeasedBuilds" 169 "LeasedBuilds$Server" "leasesGiven" "I" ∈ WS := ms (i := 247) (by decide +kernel) rfl
theorem fl_LB_172 : Cond.fieldLink "LeasedBuilds" 172 "LeasedBuilds$Server" "uploads" "I" ∈ WS := ms (i := 249) (by decide +kernel) rfl
theorem fl_LB_175 : Cond.fieldLink "LeasedBuilds" 175 "LeasedBuilds$Server" "hits" "I" ∈ WS := ms (i := 251) (by decide +kernel) rfl
theorem fl_LB_178 : Cond.fieldLink "LeasedBuilds" 178 "LeasedBuilds$Server" "duplicates" "I" ∈ WS := ms (i := 253) (by decide +kernel) rfl
theorem fl_LB_181 : Cond.fieldLink "LeasedBuilds" 181 "LeasedBuilds$Server" "cuts" "I" ∈ WS := ms (i := 255) (by decide +kernel) rfl
theorem cs_LB_184 : CwV WS "LeasedBuilds" 184 "LeasedBuilds$Client" y_Client_unknown b_Client_unknown 3 (some .int) 0 := ⟨⟨ms (i := 711) (by decide +kernel) rfl, ms (i := 708) (by decide +kernel) rfl, ms (i := 709) (by decide +kernel) rfl, ms (i := 710) (by decide +kernel) rfl, ms (i := 5) (by decide +kernel) rfl⟩, by decide +kernel⟩
theorem cs_LB_48 : CwV WS "LeasedBuilds" 48 "LeasedBuilds$Client" y_Client_addFile b_Client_addFile 2 (some .int) 1 := ⟨⟨ms (i := 339) (by decide +kernel) rfl, ms (i := 336) (by decide +kernel) rfl, ms (i := 337) (by decide +kernel) rfl, ms (i := 338) (by decide +kernel) rfl, ms (i := 5) (by decide +kernel) rfl⟩, by decide +kernel⟩
theorem cs_LB_52 : CwV WS "LeasedBuilds" 52 "LeasedBuilds$Client" y_Client_addAction b_Client_addAction 5 (some .int) 3 := ⟨⟨ms (i := 351) (by decide +kernel) rfl, ms (i := 348) (by decide +kernel) rfl, ms (i := 349) (by decide +kernel) rfl, ms (i := 350) (by decide +kernel) rfl, ms (i := 5) (by decide +kernel) rfl⟩, by decide +kernel⟩
theorem fl_LB_56 : Cond.fieldLink "LeasedBuilds" 56 "LeasedBuilds$Flight" "sent" "I" ∈ WS := ms (i := 106) (by decide +kernel) rfl
theorem cs_LB_59 : CwV WS "LeasedBuilds" 59 "LeasedBuilds$Worker" y_Worker_work b_Worker_work 3 none 1 := ⟨⟨ms (i := 363) (by decide +kernel) rfl, ms (i := 360) (by decide +kernel) rfl, ms (i := 361) (by decide +kernel) rfl, ms (i := 362) (by decide +kernel) rfl, ms (i := 10) (by decide +kernel) rfl⟩, by decide +kernel⟩
theorem cs_LB_62 : CwV WS "LeasedBuilds" 62 "LeasedBuilds$Server" y_Server_keepTime b_Server_keepTime 2 none 1 := ⟨⟨ms (i := 399) (by decide +kernel) rfl, ms (i := 396) (by decide +kernel) rfl, ms (i := 397) (by decide +kernel) rfl, ms (i := 398) (by decide +kernel) rfl, ms (i := 6) (by decide +kernel) rfl⟩, by decide +kernel⟩
theorem cs_LB_66 : CwV WS "LeasedBuilds" 66 "LeasedBuilds$Client" y_Client_askForReady b_Client_askForReady 3 none 1 := ⟨⟨ms (i := 460) (by decide +kernel) rfl, ms (i := 457) (by decide +kernel) rfl, ms (i := 458) (by decide +kernel) rfl, ms (i := 459) (by decide +kernel) rfl, ms (i := 5) (by decide +kernel) rfl⟩, by decide +kernel⟩
set_option maxHeartbeats 4000000 in
set_option maxRecDepth 100000 in
theorem c_Server_giveLeases (l : Launch) (D : va_G) (dA : Nat → ClassId) (ad : Nat → Nat) (nw : Nat) (hJ : Inj ad (obC nw)) (hnw : nw ≤ 4) (σ : Sg) (t : Nat) (hWf : Wf nw σ) (ht9 : t < 2 ^ 29) : CV l D clX (tyX dA) (SC nw) ad dA (obC nw) NL y_Server_giveLeases w_Server_giveLeases { frames := 3, cells := 0, slots := 0, locals := 68 } [.ref (ad 63), .int (nI t)] σ (gvN nw t nw σ) := by
  refine x_of (WS := WS) (cc := b_Server_giveLeases) (maxL := 4) (ret := none) (by decide) rfl (Nat.le_of_ble_eq_true rfl) ?_
  intro pp ee ss mm below meth cdd hx hb hml hr hlk ht hown hnm hN hK hP ls hl
  have hl : lv_has ls 4 [(0, .ref (ad 63)), (1, .int (nI t))] := hl
  have hS : va_S (Ad ad (obC nw)) ss.heap ss.heap [] := va_S.rf
  have hw := swfC hnw
  have hWn := hWf.n
  have hWq := hWf.q
  have hWit := hWf.it
  have hWbl := hWf.bl
  have hWrs := hWf.rs
  have hWlt := hWf.lt
  have hWln := hWf.ln
  refine lv_iconst (v := (nI 0)) hx hb d_Server_giveLeases_0 (by decide) ?_
  refine lv_istore_n (lv' := [(2, .int (nI 0)), (0, .ref (ad 63)), (1, .int (nI t))]) hx hb d_Server_giveLeases_1 rfl hl (by decide) rfl (fun ls hl => ?_)
  refine x_loop (pc := 2) (α := Nat × Sg) (nL := 4) (fun a => nw - a.1) (fun a => a.2) (fun a => [(2, .int (nI a.1)), (1, .int (nI t)), (0, .ref (ad 63))]) (fun a => a.1 ≤ nw ∧ Wf nw a.2 ∧ gvN nw t (nw - a.1) a.2 = gvN nw t nw σ) ?_ ((0, σ) : Nat × Sg) ⟨Nat.zero_le _, hWf, rfl⟩ hP hS (lv_sub hl [0, 2, 1] rfl)
  clear hP hS hl
  intro ⟨i, s⟩ ⟨hi, hWf, hG⟩ H locs ls hP hS hl ih
  have hi : i ≤ nw := hi
  have hWf : Wf nw s := hWf
  have hG : gvN nw t (nw - i) s = gvN nw t nw σ := hG
  have hWq := hWf.q
  have hWln := hWf.ln
  have hWlt := hWf.lt
  have hl : lv_has ls 4 [(2, .int (nI i)), (1, .int (nI t)), (0, .ref (ad 63))] := hl
  have hP : va_P D clX (wd (SC nw) ad dA (obC nw) s) H := hP
  refine lv_iload_n hx hb d_Server_giveLeases_2 rfl (lv_at hl 0 rfl) ?_
  refine lv_aload_n hx hb d_Server_giveLeases_3 rfl (lv_at hl 2 rfl) ?_
  refine x_get (v := .ref (ad 91)) (k := 3) hx hb ht xc_Server hown hK hP (mo (by decide)) rfl (by decide) fl_Server_54 rfl rfl rfl d_Server_giveLeases_4 ?_
  refine x_ci (x_rV (As := []) (rest := [.int (nI i)]) hx hb hml hown ht gW cs_Server_170 (c_Leases_workers l D dA ad nw hJ hnw s ) rfl rfl (by decide) xc_Leases hN hK hP (mo (by decide)) rfl rfl hl.1 rfl (Nat.le_of_ble_eq_true rfl) d_Server_giveLeases_7 (by decide)) hS (fun H locs hP hS => ?_)
  refine x_icmp_geN (tgt := 94) hx hb d_Server_giveLeases_10 (by decide) (by omega) (by omega) (fun h1 => ?_) (fun h1 => ?_)
  · exact x_vret hx hb hr hlk hK hP hS d_Server_giveLeases_94 (by rw [← hG, show nw - i = 0 by omega]; rfl)
  · refine lv_aload_n hx hb d_Server_giveLeases_13 rfl (lv_at hl 2 rfl) ?_
    refine x_get (v := .ref (ad 91)) (k := 3) hx hb ht xc_Server hown hK hP (mo (by decide)) rfl (by decide) fl_Server_54 rfl rfl rfl d_Server_giveLeases_14 ?_
    refine x_ci (x_rV (As := []) (rest := []) hx hb hml hown ht gW cs_Server_178 (c_Leases_nextFree l D dA ad nw hJ hnw s hWf) rfl rfl (by decide) xc_Leases hN hK hP (mo (by decide)) rfl rfl hl.1 rfl (Nat.le_of_ble_eq_true rfl) d_Server_giveLeases_17 (by decide)) hS (fun H locs hP hS => ?_)
    refine lv_istore_n (lv' := [(3, .int (oI (lFree s nw))), (2, .int (nI i)), (1, .int (nI t)), (0, .ref (ad 63))]) hx hb d_Server_giveLeases_20 rfl hl (by decide) rfl (fun ls hl => ?_)
    refine lv_aload_n hx hb d_Server_giveLeases_21 rfl (lv_at hl 3 rfl) ?_
    refine x_get (v := .ref (ad 79)) (k := 2) hx hb ht xc_Server hown hK hP (mo (by decide)) rfl (by decide) fl_Server_21 rfl rfl rfl d_Server_giveLeases_22 ?_
    refine x_get (v := .int (nI (gN s 39 79))) (k := 1) hx hb ht xc_Queue hown hK hP (mo (by decide)) rfl (by decide) fl_Server_61 rfl rfl rfl d_Server_giveLeases_25 ?_
    refine x_if_eqN (tgt := 36) hx hb d_Server_giveLeases_28 (by decide) (by omega) (fun h2 => ?_) (fun h2 => ?_)
    · exact x_vret hx hb hr hlk hK hP hS d_Server_giveLeases_36 (by rw [← hG, show nw - i = (nw - i - 1) + 1 by omega, gvN, if_pos h2])
    · refine lv_iload_n hx hb d_Server_giveLeases_31 rfl (lv_at hl 0 rfl) ?_
      refine lv_iconst (v := ((-1))) hx hb d_Server_giveLeases_32 (by decide) ?_
      refine lv_icmp_ne (tgt := 37) hx hb d_Server_giveLeases_33 (by decide) (fun h3 => ?_) (fun h3 => ?_)
      · obtain ⟨j, hj, -⟩ := oI_some (n := 5) (fun i hi => by have := lFree_lt hWf.lt i hi; omega) h3
        have hj1 := lFree_lt hWf.lt j hj
        have hjv : oI (lFree s nw) = nI j := by rw [hj]; rfl
        rw [hjv] at hl
        refine lv_aload_n hx hb d_Server_giveLeases_37 rfl (lv_at hl 3 rfl) ?_
        refine x_get (v := .ref (ad 91)) (k := 3) hx hb ht xc_Server hown hK hP (mo (by decide)) rfl (by decide) fl_Server_54 rfl rfl rfl d_Server_giveLeases_38 ?_
        refine lv_iload_n hx hb d_Server_giveLeases_41 rfl (lv_at hl 0 rfl) ?_
        refine lv_aload_n hx hb d_Server_giveLeases_42 rfl (lv_at hl 3 rfl) ?_
        refine x_get (v := .ref (ad 79)) (k := 2) hx hb ht xc_Server hown hK hP (mo (by decide)) rfl (by decide) fl_Server_21 rfl rfl rfl d_Server_giveLeases_43 ?_
        have hqk1 := hWf.Q 0 (by decide)
        refine x_cr (x_rV (As := []) (rest := [.int (nI j), .ref (ad 91)]) hx hb hml hown ht gW cs_Server_181 (c_Queue_first l D dA ad nw hJ hnw s hWf) rfl rfl (by decide) xc_Queue hN hK hP (mo (by decide)) rfl rfl hl.1 rfl (Nat.le_of_ble_eq_true rfl) d_Server_giveLeases_46 (by decide)) hS (fun H locs hP hS => ?_)
        refine lv_iload_n hx hb d_Server_giveLeases_49 rfl (lv_at hl 2 rfl) ?_
        refine lv_aload_n hx hb d_Server_giveLeases_50 rfl (lv_at hl 3 rfl) ?_
        refine x_get (v := .int (nI (gN s 44 63))) (k := 4) hx hb ht xc_Server hown hK hP (mo (by decide)) rfl (by decide) fl_Server_58 rfl rfl rfl d_Server_giveLeases_51 ?_
        refine x_iaddN hx hb d_Server_giveLeases_54 ?_
        refine x_cv (x_rV (As := [.int (nI j), .ref (ad (gN s 111 0)), .int (nI (t + (gN s 44 63)))]) (rest := []) hx hb hml hown ht gW cs_Server_184 (c_Leases_give l D dA ad nw hJ hnw s j (gN s 111 0) (t + (gN s 44 63)) hqk1.1 (mo (Or.inl hqk1.2)) (by omega) (by omega)) rfl rfl (by decide) xc_Leases hN hK hP (mo (by decide)) rfl rfl hl.1 rfl (Nat.le_of_ble_eq_true rfl) d_Server_giveLeases_55 (by decide)) hS (fun H locs hP hS => ?_)
        have hWf : Wf nw (lGive s j (gN s 111 0) (t + (gN s 44 63))) := wf_give hWf (by omega) (by omega)
        refine lv_aload_n hx hb d_Server_giveLeases_58 rfl (lv_at hl 3 rfl) ?_
        refine lv_dup hx hb d_Server_giveLeases_59 rfl ?_
        refine x_get (v := .int (nI (gN s 46 63))) (k := 6) hx hb ht xc_Server hown hK hP (mo (by decide)) rfl (by decide) fl_Server_29 rfl rfl rfl d_Server_giveLeases_60 ?_
        refine lv_iconst (v := (nI 1)) hx hb d_Server_giveLeases_63 (by decide) ?_
        refine x_iaddN hx hb d_Server_giveLeases_64 ?_
        refine x_put (σ' := sN (lGive s j (gN s 111 0) (t + (gN s 44 63))) 46 63 ((gN s 46 63) + 1)) (v := .int (nI ((gN s 46 63) + 1))) (k := 6) hx hb ht xc_Server t_Server t_Server_ok n_Server hown hK hP hJ hw hS (mo (by decide)) rfl (by decide) fl_Server_29 rfl rfl rfl off_N rfl rfl rfl d_Server_giveLeases_65 (fun H locs hP hS => ?_)
        have hWf : Wf nw (sN (lGive s j (gN s 111 0) (t + (gN s 44 63))) 46 63 ((gN s 46 63) + 1)) := wf_N (by decide) hWf
        refine lv_aload_n hx hb d_Server_giveLeases_68 rfl (lv_at hl 3 rfl) ?_
        refine lv_iload_n hx hb d_Server_giveLeases_69 rfl (lv_at hl 0 rfl) ?_
        refine lv_aload_n hx hb d_Server_giveLeases_70 rfl (lv_at hl 3 rfl) ?_
        refine x_get (v := .ref (ad 79)) (k := 2) hx hb ht xc_Server hown hK hP (mo (by decide)) rfl (by decide) fl_Server_21 rfl rfl rfl d_Server_giveLeases_71 ?_
        have hqk2 := hWf.Q 0 (by decide)
        refine x_cr (x_rV (As := []) (rest := [.int (nI j), .ref (ad 63)]) hx hb hml hown ht gW cs_Server_181 (c_Queue_first l D dA ad nw hJ hnw (sN (lGive s j (gN s 111 0) (t + (gN s 44 63))) 46 63 ((gN s 46 63) + 1)) hWf) rfl rfl (by decide) xc_Queue hN hK hP (mo (by decide)) rfl rfl hl.1 rfl (Nat.le_of_ble_eq_true rfl) d_Server_giveLeases_74 (by decide)) hS (fun H locs hP hS => ?_)
        refine x_cv (x_rV (As := [.int (nI j), .ref (ad (gN (sN (lGive s j (gN s 111 0) (t + (gN s 44 63))) 46 63 ((gN s 46 63) + 1)) 111 0))]) (rest := []) hx hb hml hown ht gW cs_Server_188 (c_Server_sendLease l D dA ad nw hJ hnw (sN (lGive s j (gN s 111 0) (t + (gN s 44 63))) 46 63 ((gN s 46 63) + 1)) j (gN (sN (lGive s j (gN s 111 0) (t + (gN s 44 63))) 46 63 ((gN s 46 63) + 1)) 111 0) hWf (by omega) hqk2.1 (mo (Or.inl hqk2.2))) rfl rfl (by decide) xc_Server hN hK hP (mo (by decide)) rfl rfl hl.1 rfl (Nat.le_of_ble_eq_true rfl) d_Server_giveLeases_77 (by decide)) hS (fun H locs hP hS => ?_)
        have hWf : Wf nw (sLease (sN (lGive s j (gN s 111 0) (t + (gN s 44 63))) 46 63 ((gN s 46 63) + 1)) j (gN (sN (lGive s j (gN s 111 0) (t + (gN s 44 63))) 46 63 ((gN s 46 63) + 1)) 111 0)) := wf_lease hWf (by omega)
        refine lv_aload_n hx hb d_Server_giveLeases_80 rfl (lv_at hl 3 rfl) ?_
        refine x_get (v := .ref (ad 79)) (k := 2) hx hb ht xc_Server hown hK hP (mo (by decide)) rfl (by decide) fl_Server_21 rfl rfl rfl d_Server_giveLeases_81 ?_
        refine lv_iconst (v := (nI 0)) hx hb d_Server_giveLeases_84 (by decide) ?_
        refine x_cv (x_rV (As := [.int (nI 0)]) (rest := []) hx hb hml hown ht gW cs_Server_142 (c_Queue_remove l D dA ad nw hJ hnw (sLease (sN (lGive s j (gN s 111 0) (t + (gN s 44 63))) 46 63 ((gN s 46 63) + 1)) j (gN (sN (lGive s j (gN s 111 0) (t + (gN s 44 63))) 46 63 ((gN s 46 63) + 1)) 111 0)) (nI 0) hWf) rfl rfl (by decide) xc_Queue hN hK hP (mo (by decide)) rfl rfl hl.1 rfl (Nat.le_of_ble_eq_true rfl) d_Server_giveLeases_85 (by decide)) hS (fun H locs hP hS => ?_)
        have hWf : Wf nw (qRemI (sLease (sN (lGive s j (gN s 111 0) (t + (gN s 44 63))) 46 63 ((gN s 46 63) + 1)) j (gN (sN (lGive s j (gN s 111 0) (t + (gN s 44 63))) 46 63 ((gN s 46 63) + 1)) 111 0)) (nI 0)) := wf_remI hWf
        refine lv_iinc (lv' := [(2, .int (nI (i + 1))), (3, .int (nI j)), (1, .int (nI t)), (0, .ref (ad 63))]) (v := (nI (i + 1))) hx hb d_Server_giveLeases_88 hl (k := 1) rfl (nI_add _ _) (by decide) rfl (fun ls hl => ?_)
        refine lv_goto (tgt := 2) hx hb d_Server_giveLeases_91 (by decide) ?_
        exact ih (i + 1, qRemI (sLease (sN (lGive s j (gN s 111 0) (t + (gN s 44 63))) 46 63 ((gN s 46 63) + 1)) j (gN (sN (lGive s j (gN s 111 0) (t + (gN s 44 63))) 46 63 ((gN s 46 63) + 1)) 111 0)) (nI 0)) ⟨by show i + 1 ≤ nw; omega, hWf, by show gvN nw t (nw - (i + 1)) _ = _; rw [← hG, show nw - i = (nw - (i + 1)) + 1 by omega, gvN, if_neg (by omega), if_neg h3, hj]; rfl⟩ (by show nw - (i + 1) < nw - i; omega) H locs ls hP hS (lv_sub hl [0, 2, 3] rfl)
      · exact x_vret hx hb hr hlk hK hP hS d_Server_giveLeases_36 (by rw [← hG, show nw - i = (nw - i - 1) + 1 by omega, gvN, if_neg (by omega), if_pos h3])
set_option maxHeartbeats 4000000 in
set_option maxRecDepth 100000 in
theorem c_Server_keepTime (l : Launch) (D : va_G) (dA : Nat → ClassId) (ad : Nat → Nat) (nw : Nat) (hJ : Inj ad (obC nw)) (hnw : nw ≤ 4) (σ : Sg) (t : Nat) (hWf : Wf nw σ) (ht9 : t < 2 ^ 29) : CV l D clX (tyX dA) (SC nw) ad dA (obC nw) NL y_Server_keepTime w_Server_keepTime { frames := 4, cells := 0, slots := 0, locals := 91 } [.ref (ad 63), .int (nI t)] σ (sTime σ nw t) := by
  refine x_of (WS := WS) (cc := b_Server_keepTime) (maxL := 2) (ret := none) (by decide) rfl (Nat.le_of_ble_eq_true rfl) ?_
  intro pp ee ss mm below meth cdd hx hb hml hr hlk ht hown hnm hN hK hP ls hl
  have hl : lv_has ls 2 [(0, .ref (ad 63)), (1, .int (nI t))] := hl
  have hS : va_S (Ad ad (obC nw)) ss.heap ss.heap [] := va_S.rf
  have hw := swfC hnw
  have hWn := hWf.n
  have hWq := hWf.q
  have hWit := hWf.it
  have hWbl := hWf.bl
  have hWrs := hWf.rs
  have hWlt := hWf.lt
  have hWln := hWf.ln
  refine lv_aload_n hx hb d_Server_keepTime_0 rfl (lv_at hl 0 rfl) ?_
  refine x_get (v := .int (bI (gB σ 45 63))) (k := 5) hx hb ht xc_Server hown hK hP (mo (by decide)) rfl (by decide) fl_Server_25 rfl rfl rfl d_Server_keepTime_1 ?_
  refine x_ifeqB (tgt := 17) hx hb d_Server_keepTime_4 (by decide) (fun h1 => ?_) (fun h1 => ?_)
  · exact x_vret hx hb hr hlk hK hP hS d_Server_keepTime_17 (by unfold sTime; rw [if_neg (by rw [h1]; decide)])
  · refine lv_aload_n hx hb d_Server_keepTime_7 rfl (lv_at hl 0 rfl) ?_
    refine lv_iload_n hx hb d_Server_keepTime_8 rfl (lv_at hl 1 rfl) ?_
    refine x_cv (x_rV (As := [.int (nI t)]) (rest := []) hx hb hml hown ht gW cs_Server_75 (c_Server_endLeases l D dA ad nw hJ hnw σ t hWf (by omega)) rfl rfl (by decide) xc_Server hN hK hP (mo (by decide)) rfl rfl hl.1 rfl (Nat.le_of_ble_eq_true rfl) d_Server_keepTime_9 (by decide)) hS (fun H locs hP hS => ?_)
    have hWf : Wf nw (edN σ nw t nw) := wf_edN hWf nw
    refine lv_aload_n hx hb d_Server_keepTime_12 rfl (lv_at hl 0 rfl) ?_
    refine lv_iload_n hx hb d_Server_keepTime_13 rfl (lv_at hl 1 rfl) ?_
    refine x_cv (x_rV (As := [.int (nI t)]) (rest := []) hx hb hml hown ht gW cs_Server_78 (c_Server_giveLeases l D dA ad nw hJ hnw (edN σ nw t nw) t hWf (by omega)) rfl rfl (by decide) xc_Server hN hK hP (mo (by decide)) rfl rfl hl.1 rfl (Nat.le_of_ble_eq_true rfl) d_Server_keepTime_14 (by decide)) hS (fun H locs hP hS => ?_)
    have hWf : Wf nw (gvN nw t nw (edN σ nw t nw)) := wf_gvN hnw (by omega) nw hWf
    exact x_vret hx hb hr hlk hK hP hS d_Server_keepTime_17 (by unfold sTime; rw [if_pos h1])
set_option maxHeartbeats 4000000 in
set_option maxRecDepth 100000 in
theorem c_Server_sweep (l : Launch) (D : va_G) (dA : Nat → ClassId) (ad : Nat → Nat) (nw : Nat) (hJ : Inj ad (obC nw)) (hnw : nw ≤ 4) (σ : Sg)  (hWf : Wf nw σ) : CI l D clX (tyX dA) (SC nw) ad dA (obC nw) NL y_Server_sweep w_Server_sweep { frames := 3, cells := 0, slots := 0, locals := 64 } [.ref (ad 63)] σ ((nI ((swp nw (gN σ 36 64) σ 0).2))) ((swp nw (gN σ 36 64) σ 0).1) := by
  refine x_of (WS := WS) (cc := b_Server_sweep) (maxL := 3) (ret := (some .int)) (by decide) rfl (Nat.le_of_ble_eq_true rfl) ?_
  intro pp ee ss mm below meth cdd hx hb hml hr hlk ht hown hnm hN hK hP ls hl
  have hl : lv_has ls 3 [(0, .ref (ad 63))] := hl
  have hS : va_S (Ad ad (obC nw)) ss.heap ss.heap [] := va_S.rf
  have hw := swfC hnw
  have hWn := hWf.n
  have hWq := hWf.q
  have hWit := hWf.it
  have hWbl := hWf.bl
  have hWrs := hWf.rs
  have hWlt := hWf.lt
  have hWln := hWf.ln
  refine lv_iconst (v := (nI 0)) hx hb d_Server_sweep_0 (by decide) ?_
  refine lv_istore_n (lv' := [(1, .int (nI 0)), (0, .ref (ad 63))]) hx hb d_Server_sweep_1 rfl hl (by decide) rfl (fun ls hl => ?_)
  refine lv_aload_n hx hb d_Server_sweep_2 rfl (lv_at hl 1 rfl) ?_
  refine x_get (v := .ref (ad 64)) (k := 1) hx hb ht xc_Server hown hK hP (mo (by decide)) rfl (by decide) fl_Server_12 rfl rfl rfl d_Server_sweep_3 ?_
  refine x_get (v := .int (nI (gN σ 36 64))) (k := 4) hx hb ht xc_Disk hown hK hP (mo (by decide)) rfl (by decide) fl_Server_148 rfl rfl rfl d_Server_sweep_6 ?_
  refine lv_iconst (v := (nI 1)) hx hb d_Server_sweep_9 (by decide) ?_
  refine lv_isub hx hb d_Server_sweep_10 ?_
  refine lv_istore_n (lv' := [(2, .int (nI (gN σ 36 64) - nI 1)), (1, .int (nI 0)), (0, .ref (ad 63))]) hx hb d_Server_sweep_11 rfl hl (by decide) rfl (fun ls hl => ?_)
  refine x_loop (pc := 12) (α := Nat × Sg × Nat) (nL := 3) (fun a => a.1) (fun a => a.2.1) (fun a => [(2, .int (nI a.1 - nI 1)), (1, .int (nI a.2.2)), (0, .ref (ad 63))]) (fun a => Wf nw a.2.1 ∧ a.1 ≤ gN a.2.1 36 64 ∧ swp nw a.1 a.2.1 a.2.2 = swp nw (gN σ 36 64) σ 0) ?_ ((gN σ 36 64, σ, 0) : Nat × Sg × Nat) ⟨hWf, Nat.le_refl _, rfl⟩ hP hS (lv_sub hl [0, 1, 2] rfl)
  clear hP hS hl
  intro ⟨j, s, c⟩ ⟨hWf, hjb, hE⟩ H locs ls hP hS hl ih
  have hWf : Wf nw s := hWf
  have hjb : j ≤ gN s 36 64 := hjb
  have hE : swp nw j s c = swp nw (gN σ 36 64) σ 0 := hE
  have hWbl := hWf.bl
  have hl : lv_has ls 3 [(2, .int (nI j - nI 1)), (1, .int (nI c)), (0, .ref (ad 63))] := hl
  have hP : va_P D clX (wd (SC nw) ad dA (obC nw) s) H := hP
  rcases j with _ | j
  · refine lv_iload_n hx hb d_Server_sweep_12 rfl (lv_at hl 0 rfl) ?_
    refine lv_if_lt (tgt := 49) hx hb d_Server_sweep_13 (by decide) (fun _ => ?_) (fun h => absurd (by decide) h)
    refine lv_iload_n hx hb d_Server_sweep_49 rfl (lv_at hl 1 rfl) ?_
    exact x_iret hx hb hr hlk hK hP hS d_Server_sweep_50 (by rw [← hE]; rfl) (by rw [← hE]; rfl)
  · rw [show nI (j + 1) - nI 1 = nI j from pk_sub (by omega)] at hl
    refine lv_iload_n hx hb d_Server_sweep_12 rfl (lv_at hl 0 rfl) ?_
    refine x_if_ltN (tgt := 49) hx hb d_Server_sweep_13 (by decide) (by omega) ?_
    refine lv_aload_n hx hb d_Server_sweep_16 rfl (lv_at hl 2 rfl) ?_
    refine lv_aload_n hx hb d_Server_sweep_17 rfl (lv_at hl 2 rfl) ?_
    refine x_get (v := .ref (ad 64)) (k := 1) hx hb ht xc_Server hown hK hP (mo (by decide)) rfl (by decide) fl_Server_12 rfl rfl rfl d_Server_sweep_18 ?_
    refine x_get (v := .ref (ad 65)) (k := 0) hx hb ht xc_Disk hown hK hP (mo (by decide)) rfl (by decide) fl_Server_151 rfl rfl rfl d_Server_sweep_21 ?_
    refine lv_iload_n hx hb d_Server_sweep_24 rfl (lv_at hl 0 rfl) ?_
    refine x_iald (κ := 107) (n := 10) hx hb hK hP (mo (by decide)) rfl (by decide) rfl rfl (by omega) (by omega) d_Server_sweep_25 ?_
    refine x_ci (x_rV (As := [.int (gI s 107 j)]) (rest := []) hx hb hml hown ht gW cs_Server_154 (c_Server_isNeeded l D dA ad nw hJ hnw s (gI s 107 j) hWf) rfl rfl (by decide) xc_Server hN hK hP (mo (by decide)) rfl rfl hl.1 rfl (Nat.le_of_ble_eq_true rfl) d_Server_sweep_26 (by decide)) hS (fun H locs hP hS => ?_)
    refine x_ifneB (tgt := 43) hx hb d_Server_sweep_29 (by decide) (fun h2 => ?_) (fun h2 => ?_)
    · refine lv_iinc (lv' := [(2, .int (nI j - nI 1)), (1, .int (nI c)), (0, .ref (ad 63))]) (v := (nI j - nI 1)) hx hb d_Server_sweep_43 hl (k := 0) rfl (x_m1 _) (by decide) rfl (fun ls hl => ?_)
      refine lv_goto (tgt := 12) hx hb d_Server_sweep_46 (by decide) ?_
      exact ih (j, s, c) ⟨hWf, by show j ≤ gN s 36 64; omega, by show swp nw j _ _ = _; rw [← hE, swp, if_pos h2]⟩ (by show j < j + 1; omega) H locs ls hP hS (lv_sub hl [0, 1, 2] rfl)
    · refine lv_aload_n hx hb d_Server_sweep_32 rfl (lv_at hl 2 rfl) ?_
      refine x_get (v := .ref (ad 64)) (k := 1) hx hb ht xc_Server hown hK hP (mo (by decide)) rfl (by decide) fl_Server_12 rfl rfl rfl d_Server_sweep_33 ?_
      refine lv_iload_n hx hb d_Server_sweep_36 rfl (lv_at hl 0 rfl) ?_
      refine x_cv (x_rV (As := [.int (nI j)]) (rest := []) hx hb hml hown ht gW cs_Server_157 (c_Disk_removeBlob l D dA ad nw hJ hnw s j hWf (by omega)) rfl rfl (by decide) xc_Disk hN hK hP (mo (by decide)) rfl rfl hl.1 rfl (Nat.le_of_ble_eq_true rfl) d_Server_sweep_37 (by decide)) hS (fun H locs hP hS => ?_)
      have hWf : Wf nw (dRem s j) := wf_dRem hWf
      refine lv_iinc (lv' := [(1, .int (nI (c + 1))), (2, .int (nI j)), (0, .ref (ad 63))]) (v := (nI (c + 1))) hx hb d_Server_sweep_40 hl (k := 1) rfl (nI_add _ _) (by decide) rfl (fun ls hl => ?_)
      refine lv_iinc (lv' := [(2, .int (nI j - nI 1)), (1, .int (nI (c + 1))), (0, .ref (ad 63))]) (v := (nI j - nI 1)) hx hb d_Server_sweep_43 hl (k := 1) rfl (x_m1 _) (by decide) rfl (fun ls hl => ?_)
      refine lv_goto (tgt := 12) hx hb d_Server_sweep_46 (by decide) ?_
      exact ih (j, dRem s j, c + 1) ⟨hWf, by show j ≤ gN s 36 64 - 1; omega, by show swp nw j _ _ = _; rw [← hE, swp, if_neg (by rw [h2]; decide)]⟩ (by show j < j + 1; omega) H locs ls hP hS (lv_sub hl [0, 1, 2] rfl)
set_option maxHeartbeats 4000000 in
set_option maxRecDepth 100000 in
theorem c_LB_isWorker (l : Launch) (D : va_G) (dA : Nat → ClassId) (ad : Nat → Nat) (nw : Nat) (hJ : Inj ad (obC nw)) (hnw : nw ≤ 4) (σ : Sg) (x : Int32)  : CI l D clX (tyX dA) (SC nw) ad dA (obC nw) NL y_LB_isWorker w_LB_isWorker { frames := 0, cells := 0, slots := 0, locals := 0 } [.ref (ad 0), .int x] σ ((bI (isW nw x))) σ := by
  refine x_of (WS := WS) (cc := b_LB_isWorker) (maxL := 2) (ret := (some .boolean)) (by decide) rfl (Nat.le_of_ble_eq_true rfl) ?_
  intro pp ee ss mm below meth cdd hx hb hml hr hlk ht hown hnm hN hK hP ls hl
  have hl : lv_has ls 2 [(0, .ref (ad 0)), (1, .int x)] := hl
  have hS : va_S (Ad ad (obC nw)) ss.heap ss.heap [] := va_S.rf
  have hw := swfC hnw
  refine lv_iload_n hx hb d_LB_isWorker_0 rfl (lv_at hl 1 rfl) ?_
  refine lv_iconst (v := (nI 1)) hx hb d_LB_isWorker_1 (by decide) ?_
  refine lv_icmp_lt (tgt := 18) hx hb d_LB_isWorker_2 (by decide) (fun h1 => ?_) (fun h1 => ?_)
  · refine lv_iconst (v := (nI 0)) hx hb d_LB_isWorker_18 (by decide) ?_
    exact x_zret (b := false) hx hb hr hlk hK hP hS d_LB_isWorker_19 rfl (isW_lo h1) rfl
  · refine lv_iload_n hx hb d_LB_isWorker_5 rfl (lv_at hl 1 rfl) ?_
    refine lv_aload_n hx hb d_LB_isWorker_6 rfl (lv_at hl 0 rfl) ?_
    refine x_get (v := .ref (ad 99)) (k := 3) hx hb ht xc_LB hown hK hP (mo (by decide)) rfl (by decide) fl_LB_36 rfl rfl rfl d_LB_isWorker_7 ?_
    refine x_alen (κ := 115) (n := nw) hx hb hK hP (mo (by decide)) rfl (by decide) rfl rfl d_LB_isWorker_10 ?_
    refine lv_icmp_gt (tgt := 18) hx hb d_LB_isWorker_11 (by decide) (fun h2 => ?_) (fun h2 => ?_)
    · refine lv_iconst (v := (nI 0)) hx hb d_LB_isWorker_18 (by decide) ?_
      exact x_zret (b := false) hx hb hr hlk hK hP hS d_LB_isWorker_19 rfl (isW_hi hnw h2) rfl
    · refine lv_iconst (v := (nI 1)) hx hb d_LB_isWorker_14 (by decide) ?_
      refine lv_goto (tgt := 19) hx hb d_LB_isWorker_15 (by decide) ?_
      exact x_zret (b := true) hx hb hr hlk hK hP hS d_LB_isWorker_19 rfl (isW_in hnw h1 h2) rfl
set_option maxHeartbeats 4000000 in
set_option maxRecDepth 100000 in
theorem c_LB_isNode (l : Launch) (D : va_G) (dA : Nat → ClassId) (ad : Nat → Nat) (nw : Nat) (hJ : Inj ad (obC nw)) (hnw : nw ≤ 4) (σ : Sg) (x : Int32)  : CI l D clX (tyX dA) (SC nw) ad dA (obC nw) NL y_LB_isNode w_LB_isNode { frames := 1, cells := 0, slots := 0, locals := 21 } [.ref (ad 0), .int x] σ ((bI (isNd nw x))) σ := by
  refine x_of (WS := WS) (cc := b_LB_isNode) (maxL := 2) (ret := (some .boolean)) (by decide) rfl (Nat.le_of_ble_eq_true rfl) ?_
  intro pp ee ss mm below meth cdd hx hb hml hr hlk ht hown hnm hN hK hP ls hl
  have hl : lv_has ls 2 [(0, .ref (ad 0)), (1, .int x)] := hl
  have hS : va_S (Ad ad (obC nw)) ss.heap ss.heap [] := va_S.rf
  have hw := swfC hnw
  refine lv_iload_n hx hb d_LB_isNode_0 rfl (lv_at hl 1 rfl) ?_
  refine lv_if_eq (tgt := 12) hx hb d_LB_isNode_1 (by decide) (fun h1 => ?_) (fun h1 => ?_)
  · refine lv_iconst (v := (nI 1)) hx hb d_LB_isNode_12 (by decide) ?_
    refine lv_goto (tgt := 17) hx hb d_LB_isNode_13 (by decide) ?_
    exact x_zret (b := true) hx hb hr hlk hK hP hS d_LB_isNode_17 rfl (by simp [isNd, h1]) rfl
  · refine lv_aload_n hx hb d_LB_isNode_4 rfl (lv_at hl 0 rfl) ?_
    refine lv_iload_n hx hb d_LB_isNode_5 rfl (lv_at hl 1 rfl) ?_
    refine x_ci (x_rV (As := [.int x]) (rest := []) hx hb hml hown ht gW cs_LB_150 (c_LB_isWorker l D dA ad nw hJ hnw σ x) rfl rfl (by decide) xc_LB hN hK hP (mo (by decide)) rfl rfl hl.1 rfl (Nat.le_of_ble_eq_true rfl) d_LB_isNode_6 (by decide)) hS (fun H locs hP hS => ?_)
    refine x_ifeqB (tgt := 16) hx hb d_LB_isNode_9 (by decide) (fun h2 => ?_) (fun h2 => ?_)
    · refine lv_iconst (v := (nI 0)) hx hb d_LB_isNode_16 (by decide) ?_
      exact x_zret (b := false) hx hb hr hlk hK hP hS d_LB_isNode_17 rfl (by simp [isNd, h1, h2]) rfl
    · refine lv_iconst (v := (nI 1)) hx hb d_LB_isNode_12 (by decide) ?_
      refine lv_goto (tgt := 17) hx hb d_LB_isNode_13 (by decide) ?_
      exact x_zret (b := true) hx hb hr hlk hK hP hS d_LB_isNode_17 rfl (by simp [isNd, h1, h2]) rfl
set_option maxHeartbeats 4000000 in
set_option maxRecDepth 100000 in
theorem c_LB_isUp (l : Launch) (D : va_G) (dA : Nat → ClassId) (ad : Nat → Nat) (nw : Nat) (hJ : Inj ad (obC nw)) (hnw : nw ≤ 4) (σ : Sg) (x : Int32)  : CI l D clX (tyX dA) (SC nw) ad dA (obC nw) NL y_LB_isUp w_LB_isUp { frames := 1, cells := 0, slots := 0, locals := 21 } [.ref (ad 0), .int x] σ ((bI (lbUp σ nw x))) σ := by
  refine x_of (WS := WS) (cc := b_LB_isUp) (maxL := 2) (ret := (some .boolean)) (by decide) rfl (Nat.le_of_ble_eq_true rfl) ?_
  intro pp ee ss mm below meth cdd hx hb hml hr hlk ht hown hnm hN hK hP ls hl
  have hl : lv_has ls 2 [(0, .ref (ad 0)), (1, .int x)] := hl
  have hS : va_S (Ad ad (obC nw)) ss.heap ss.heap [] := va_S.rf
  have hw := swfC hnw
  refine lv_iload_n hx hb d_LB_isUp_0 rfl (lv_at hl 1 rfl) ?_
  refine lv_if_ne (tgt := 12) hx hb d_LB_isUp_1 (by decide) (fun h1 => ?_) (fun h1 => ?_)
  · refine lv_aload_n hx hb d_LB_isUp_12 rfl (lv_at hl 0 rfl) ?_
    refine lv_iload_n hx hb d_LB_isUp_13 rfl (lv_at hl 1 rfl) ?_
    refine x_ci (x_rV (As := [.int x]) (rest := []) hx hb hml hown ht gW cs_LB_150 (c_LB_isWorker l D dA ad nw hJ hnw σ x) rfl rfl (by decide) xc_LB hN hK hP (mo (by decide)) rfl rfl hl.1 rfl (Nat.le_of_ble_eq_true rfl) d_LB_isUp_14 (by decide)) hS (fun H locs hP hS => ?_)
    refine x_ifeqB (tgt := 34) hx hb d_LB_isUp_17 (by decide) (fun h2 => ?_) (fun h2 => ?_)
    · refine lv_iconst (v := (nI 1)) hx hb d_LB_isUp_34 (by decide) ?_
      refine lv_goto (tgt := 39) hx hb d_LB_isUp_35 (by decide) ?_
      exact x_zret (b := true) hx hb hr hlk hK hP hS d_LB_isUp_39 rfl (by unfold lbUp; rw [if_neg h1, h2]; rfl) rfl
    · obtain ⟨j, hj, rfl⟩ := isW_of hnw h2
      refine lv_aload_n hx hb d_LB_isUp_20 rfl (lv_at hl 0 rfl) ?_
      refine x_get (v := .ref (ad 99)) (k := 3) hx hb ht xc_LB hown hK hP (mo (by decide)) rfl (by decide) fl_LB_36 rfl rfl rfl d_LB_isUp_21 ?_
      refine lv_iload_n hx hb d_LB_isUp_24 rfl (lv_at hl 1 rfl) ?_
      refine lv_iconst (v := (nI 1)) hx hb d_LB_isUp_25 (by decide) ?_
      refine x_isubN hx hb d_LB_isUp_26 (by omega) ?_
      refine W.eq (g2 := F0 mm 27 ls [.int (nI j), .ref (ad 99)]) rfl ?_
      refine x_fald (κ := 115) (n := nw) hx hb hK hP (mo (by decide)) rfl (by decide) rfl rfl (by omega) (by omega) d_LB_isUp_27 ?_
      refine W.eq (g2 := F0 mm 28 ls [.ref (ad (100 + 2 * j))]) rfl ?_
      refine x_get (v := .int (bI (gB σ 56 (100 + 2 * j)))) (k := 1) hx hb ht xc_Worker hown hK hP (mo_wk (by omega)) (kd_wk (by omega)) (by decide) fl_LB_116 rfl rfl rfl d_LB_isUp_28 ?_
      refine x_ifeqB (tgt := 38) hx hb d_LB_isUp_31 (by decide) (fun h3 => ?_) (fun h3 => ?_)
      · refine lv_iconst (v := (nI 0)) hx hb d_LB_isUp_38 (by decide) ?_
        exact x_zret (b := false) hx hb hr hlk hK hP hS d_LB_isUp_39 rfl (by unfold lbUp; rw [if_neg h1, h2, wIx (by omega), h3]; rfl) rfl
      · refine lv_iconst (v := (nI 1)) hx hb d_LB_isUp_34 (by decide) ?_
        refine lv_goto (tgt := 39) hx hb d_LB_isUp_35 (by decide) ?_
        exact x_zret (b := true) hx hb hr hlk hK hP hS d_LB_isUp_39 rfl (by unfold lbUp; rw [if_neg h1, h2, wIx (by omega), h3]; rfl) rfl
  · refine lv_aload_n hx hb d_LB_isUp_4 rfl (lv_at hl 0 rfl) ?_
    refine x_get (v := .ref (ad 63)) (k := 2) hx hb ht xc_LB hown hK hP (mo (by decide)) rfl (by decide) fl_LB_30 rfl rfl rfl d_LB_isUp_5 ?_
    refine x_get (v := .int (bI (gB σ 45 63))) (k := 5) hx hb ht xc_Server hown hK hP (mo (by decide)) rfl (by decide) fl_LB_112 rfl rfl rfl d_LB_isUp_8 ?_
    exact x_zret (b := gB σ 45 63) hx hb hr hlk hK hP hS d_LB_isUp_11 rfl (by unfold lbUp; rw [if_pos h1]) rfl
set_option maxHeartbeats 4000000 in
set_option maxRecDepth 100000 in
theorem c_LB_hand (l : Launch) (D : va_G) (dA : Nat → ClassId) (ad : Nat → Nat) (nw : Nat) (hJ : Inj ad (obC nw)) (hnw : nw ≤ 4) (σ : Sg) (q : Nat) (cut : Int32) (hWf : Wf nw σ) (hq : kdC q = 2) (ht9 : gN σ 4 0 < 2 ^ 29) : CV l D clX (tyX dA) (SC nw) ad dA (obC nw) NL y_LB_hand w_LB_hand { frames := 5, cells := 0, slots := 0, locals := 114 } [.ref (ad 0), .ref (ad q), .int cut] σ (lbHand σ nw q cut) := by
  refine x_of (WS := WS) (cc := b_LB_hand) (maxL := 3) (ret := none) (by decide) rfl (Nat.le_of_ble_eq_true rfl) ?_
  intro pp ee ss mm below meth cdd hx hb hml hr hlk ht hown hnm hN hK hP ls hl
  have hl : lv_has ls 3 [(0, .ref (ad 0)), (1, .ref (ad q)), (2, .int cut)] := hl
  have hS : va_S (Ad ad (obC nw)) ss.heap ss.heap [] := va_S.rf
  have hw := swfC hnw
  have hWn := hWf.n
  have hWq := hWf.q
  have hWit := hWf.it
  have hWbl := hWf.bl
  have hWrs := hWf.rs
  have hWlt := hWf.lt
  have hWln := hWf.ln
  have hkd := hWf.kd q
  have hrc := hWf.rc q
  refine lv_aload_n hx hb d_LB_hand_0 rfl (lv_at hl 1 rfl) ?_
  refine x_get (v := .int (nI (gN σ 10 q))) (k := 1) hx hb ht xc_Message hown hK hP (mo_msg hq) hq (by decide) fl_LB_93 rfl rfl rfl d_LB_hand_1 ?_
  have h1 : gN σ 10 q = 1 ∨ gN σ 10 q = 2 ∨ gN σ 10 q = 3 ∨ gN σ 10 q = 4 ∨ gN σ 10 q = 5 ∨ gN σ 10 q = 6 ∨ gN σ 10 q < 1 ∨ 6 < gN σ 10 q := by omega
  rcases h1 with h1 | h1 | h1 | h1 | h1 | h1 | h1
  · refine lv_tableIn (off := 40) (tgt := 44) hx hb d_LB_hand_4 (by rw [h1]; decide) (by rw [h1]; decide) (by rw [h1]; rfl) (by decide) ?_
    refine lv_aload_n hx hb d_LB_hand_44 rfl (lv_at hl 0 rfl) ?_
    refine x_get (v := .ref (ad 63)) (k := 2) hx hb ht xc_LB hown hK hP (mo (by decide)) rfl (by decide) fl_LB_30 rfl rfl rfl d_LB_hand_45 ?_
    refine lv_aload_n hx hb d_LB_hand_48 rfl (lv_at hl 1 rfl) ?_
    refine x_cv (x_rV (As := [.ref (ad q)]) (rest := []) hx hb hml hown ht gW cs_LB_187 (c_Server_takeAsk l D dA ad nw hJ hnw σ q hWf hq) rfl rfl (by decide) xc_Server hN hK hP (mo (by decide)) rfl rfl hl.1 rfl (Nat.le_of_ble_eq_true rfl) d_LB_hand_49 (by decide)) hS (fun H locs hP hS => ?_)
    have hWf : Wf nw (sAsk σ nw q) := wf_sAsk hWf
    refine lv_goto (tgt := 134) hx hb d_LB_hand_52 (by decide) ?_
    exact x_vret hx hb hr hlk hK hP hS d_LB_hand_134 (by unfold lbHand; rw [if_pos h1])
  · refine lv_tableIn (off := 51) (tgt := 55) hx hb d_LB_hand_4 (by rw [h1]; decide) (by rw [h1]; decide) (by rw [h1]; rfl) (by decide) ?_
    refine lv_aload_n hx hb d_LB_hand_55 rfl (lv_at hl 0 rfl) ?_
    refine x_get (v := .ref (ad 55)) (k := 1) hx hb ht xc_LB hown hK hP (mo (by decide)) rfl (by decide) fl_LB_21 rfl rfl rfl d_LB_hand_56 ?_
    refine lv_aload_n hx hb d_LB_hand_59 rfl (lv_at hl 1 rfl) ?_
    refine lv_aload_n hx hb d_LB_hand_60 rfl (lv_at hl 0 rfl) ?_
    refine x_get (v := .int (nI (gN σ 4 0))) (k := 4) hx hb ht xc_LB hown hK hP (mo (by decide)) rfl (by decide) fl_LB_41 rfl rfl rfl d_LB_hand_61 ?_
    refine x_cv (x_rV (As := [.ref (ad q), .int (nI (gN σ 4 0))]) (rest := []) hx hb hml hown ht gW cs_LB_191 (c_Client_takeLack l D dA ad nw hJ hnw σ q (gN σ 4 0) hWf hq (by omega)) rfl rfl (by decide) xc_Client hN hK hP (mo (by decide)) rfl rfl hl.1 rfl (Nat.le_of_ble_eq_true rfl) d_LB_hand_64 (by decide)) hS (fun H locs hP hS => ?_)
    have hWf : Wf nw (cLack σ q (gN σ 4 0)) := wf_lack hWf (by omega)
    refine lv_goto (tgt := 134) hx hb d_LB_hand_67 (by decide) ?_
    exact x_vret hx hb hr hlk hK hP hS d_LB_hand_134 (by unfold lbHand; rw [if_neg (by omega), if_pos h1])
  · refine lv_tableIn (off := 66) (tgt := 70) hx hb d_LB_hand_4 (by rw [h1]; decide) (by rw [h1]; decide) (by rw [h1]; rfl) (by decide) ?_
    refine lv_aload_n hx hb d_LB_hand_70 rfl (lv_at hl 0 rfl) ?_
    refine x_get (v := .ref (ad 63)) (k := 2) hx hb ht xc_LB hown hK hP (mo (by decide)) rfl (by decide) fl_LB_30 rfl rfl rfl d_LB_hand_71 ?_
    refine lv_aload_n hx hb d_LB_hand_74 rfl (lv_at hl 1 rfl) ?_
    refine lv_iload_n hx hb d_LB_hand_75 rfl (lv_at hl 2 rfl) ?_
    refine x_cv (x_rV (As := [.ref (ad q), .int cut]) (rest := []) hx hb hml hown ht gW cs_LB_194 (c_Server_takePut l D dA ad nw hJ hnw σ q cut hWf hq) rfl rfl (by decide) xc_Server hN hK hP (mo (by decide)) rfl rfl hl.1 rfl (Nat.le_of_ble_eq_true rfl) d_LB_hand_76 (by decide)) hS (fun H locs hP hS => ?_)
    have hWf : Wf nw (sPut σ nw q cut) := wf_sPut hWf
    refine lv_goto (tgt := 134) hx hb d_LB_hand_79 (by decide) ?_
    exact x_vret hx hb hr hlk hK hP hS d_LB_hand_134 (by unfold lbHand; rw [if_neg (by omega), if_neg (by omega), if_pos h1])
  · refine lv_tableIn (off := 78) (tgt := 82) hx hb d_LB_hand_4 (by rw [h1]; decide) (by rw [h1]; decide) (by rw [h1]; rfl) (by decide) ?_
    refine lv_aload_n hx hb d_LB_hand_82 rfl (lv_at hl 0 rfl) ?_
    refine lv_aload_n hx hb d_LB_hand_83 rfl (lv_at hl 1 rfl) ?_
    refine x_get (v := .int (nI (gN σ 11 q))) (k := 2) hx hb ht xc_Message hown hK hP (mo_msg hq) hq (by decide) fl_LB_77 rfl rfl rfl d_LB_hand_84 ?_
    refine x_ci (x_rV (As := [.int (nI (gN σ 11 q))]) (rest := []) hx hb hml hown ht gW cs_LB_150 (c_LB_isWorker l D dA ad nw hJ hnw σ (nI (gN σ 11 q))) rfl rfl (by decide) xc_LB hN hK hP (mo (by decide)) rfl rfl hl.1 rfl (Nat.le_of_ble_eq_true rfl) d_LB_hand_87 (by decide)) hS (fun H locs hP hS => ?_)
    refine x_ifeqB (tgt := 134) hx hb d_LB_hand_90 (by decide) (fun h2 => ?_) (fun h2 => ?_)
    · exact x_vret hx hb hr hlk hK hP hS d_LB_hand_134 (by unfold lbHand; rw [if_neg (by omega), if_neg (by omega), if_neg (by omega), if_pos h1, if_neg (by rw [h2]; decide)])
    · have hw9 := isW_b (by have := hWf.rc q; omega) h2
      refine lv_aload_n hx hb d_LB_hand_93 rfl (lv_at hl 0 rfl) ?_
      refine x_get (v := .ref (ad 99)) (k := 3) hx hb ht xc_LB hown hK hP (mo (by decide)) rfl (by decide) fl_LB_36 rfl rfl rfl d_LB_hand_94 ?_
      refine lv_aload_n hx hb d_LB_hand_97 rfl (lv_at hl 1 rfl) ?_
      refine x_get (v := .int (nI (gN σ 11 q))) (k := 2) hx hb ht xc_Message hown hK hP (mo_msg hq) hq (by decide) fl_LB_77 rfl rfl rfl d_LB_hand_98 ?_
      refine lv_iconst (v := (nI 1)) hx hb d_LB_hand_101 (by decide) ?_
      refine x_isubN hx hb d_LB_hand_102 (by omega) ?_
      refine x_fald (κ := 115) (n := nw) hx hb hK hP (mo (by decide)) rfl (by decide) rfl rfl (by omega) (by omega) d_LB_hand_103 ?_
      refine W.eq (g2 := F0 mm 104 ls [.ref (ad (100 + 2 * ((gN σ 11 q) - 1)))]) rfl ?_
      refine lv_aload_n hx hb d_LB_hand_104 rfl (lv_at hl 1 rfl) ?_
      refine x_cv (x_rV (As := [.ref (ad q)]) (rest := []) hx hb hml hown ht gW cs_LB_197 (c_Worker_begin l D dA ad nw hJ hnw σ q ((gN σ 11 q) - 1) (by omega) hq) rfl rfl (by decide) xc_Worker hN hK hP (mo_wk (by omega)) (kd_wk (by omega)) rfl hl.1 rfl (Nat.le_of_ble_eq_true rfl) d_LB_hand_105 (by decide)) hS (fun H locs hP hS => ?_)
      have hWf : Wf nw (wBegin σ (100 + 2 * ((gN σ 11 q) - 1)) q) := wf_wBegin hWf
      refine lv_goto (tgt := 134) hx hb d_LB_hand_108 (by decide) ?_
      exact x_vret hx hb hr hlk hK hP hS d_LB_hand_134 (by unfold lbHand; rw [if_neg (by omega), if_neg (by omega), if_neg (by omega), if_pos h1, if_pos h2])
  · refine lv_tableIn (off := 107) (tgt := 111) hx hb d_LB_hand_4 (by rw [h1]; decide) (by rw [h1]; decide) (by rw [h1]; rfl) (by decide) ?_
    refine lv_aload_n hx hb d_LB_hand_111 rfl (lv_at hl 0 rfl) ?_
    refine x_get (v := .ref (ad 63)) (k := 2) hx hb ht xc_LB hown hK hP (mo (by decide)) rfl (by decide) fl_LB_30 rfl rfl rfl d_LB_hand_112 ?_
    refine lv_aload_n hx hb d_LB_hand_115 rfl (lv_at hl 1 rfl) ?_
    refine lv_iload_n hx hb d_LB_hand_116 rfl (lv_at hl 2 rfl) ?_
    refine x_cv (x_rV (As := [.ref (ad q), .int cut]) (rest := []) hx hb hml hown ht gW cs_LB_200 (c_Server_takeResult l D dA ad nw hJ hnw σ q cut hWf hq) rfl rfl (by decide) xc_Server hN hK hP (mo (by decide)) rfl rfl hl.1 rfl (Nat.le_of_ble_eq_true rfl) d_LB_hand_117 (by decide)) hS (fun H locs hP hS => ?_)
    have hWf : Wf nw (sRes σ nw q cut) := wf_sRes hWf
    refine lv_goto (tgt := 134) hx hb d_LB_hand_120 (by decide) ?_
    exact x_vret hx hb hr hlk hK hP hS d_LB_hand_134 (by unfold lbHand; rw [if_neg (by omega), if_neg (by omega), if_neg (by omega), if_neg (by omega), if_pos h1])
  · refine lv_tableIn (off := 119) (tgt := 123) hx hb d_LB_hand_4 (by rw [h1]; decide) (by rw [h1]; decide) (by rw [h1]; rfl) (by decide) ?_
    refine lv_aload_n hx hb d_LB_hand_123 rfl (lv_at hl 0 rfl) ?_
    refine x_get (v := .ref (ad 55)) (k := 1) hx hb ht xc_LB hown hK hP (mo (by decide)) rfl (by decide) fl_LB_21 rfl rfl rfl d_LB_hand_124 ?_
    refine lv_aload_n hx hb d_LB_hand_127 rfl (lv_at hl 1 rfl) ?_
    refine x_cv (x_rV (As := [.ref (ad q)]) (rest := []) hx hb hml hown ht gW cs_LB_203 (c_Client_takeAnswer l D dA ad nw hJ hnw σ q hWf hq) rfl rfl (by decide) xc_Client hN hK hP (mo (by decide)) rfl rfl hl.1 rfl (Nat.le_of_ble_eq_true rfl) d_LB_hand_128 (by decide)) hS (fun H locs hP hS => ?_)
    have hWf : Wf nw (cAnsN σ q (gN σ 31 55)) := wf_ansN hWf _
    refine lv_goto (tgt := 134) hx hb d_LB_hand_131 (by decide) ?_
    exact x_vret hx hb hr hlk hK hP hS d_LB_hand_134 (by unfold lbHand; rw [if_neg (by omega), if_neg (by omega), if_neg (by omega), if_neg (by omega), if_neg (by omega), if_pos h1])
  · refine lv_tableOut (tgt := 134) hx hb d_LB_hand_4 (by rw [nI_toInt (by omega)]; omega) (by decide) ?_
    exact x_vret hx hb hr hlk hK hP hS d_LB_hand_134 (by unfold lbHand; rw [if_neg (by omega), if_neg (by omega), if_neg (by omega), if_neg (by omega), if_neg (by omega), if_neg (by omega)])
set_option maxHeartbeats 4000000 in
set_option maxRecDepth 100000 in
theorem c_LB_deliver (l : Launch) (D : va_G) (dA : Nat → ClassId) (ad : Nat → Nat) (nw : Nat) (hJ : Inj ad (obC nw)) (hnw : nw ≤ 4) (σ : Sg) (k : Int32) (cut : Int32) (hWf : Wf nw σ) (ht9 : gN σ 4 0 < 2 ^ 29) : CI l D clX (tyX dA) (SC nw) ad dA (obC nw) NL y_LB_deliver w_LB_deliver { frames := 6, cells := 0, slots := 0, locals := 136 } [.ref (ad 0), .int k, .int cut] σ ((lbDelR σ nw k cut)) (lbDelS σ nw k cut) := by
  refine x_of (WS := WS) (cc := b_LB_deliver) (maxL := 4) (ret := (some .int)) (by decide) rfl (Nat.le_of_ble_eq_true rfl) ?_
  intro pp ee ss mm below meth cdd hx hb hml hr hlk ht hown hnm hN hK hP ls hl
  have hl : lv_has ls 4 [(0, .ref (ad 0)), (1, .int k), (2, .int cut)] := hl
  have hS : va_S (Ad ad (obC nw)) ss.heap ss.heap [] := va_S.rf
  have hw := swfC hnw
  have hWn := hWf.n
  have hWq := hWf.q
  have hWit := hWf.it
  have hWbl := hWf.bl
  have hWrs := hWf.rs
  have hWlt := hWf.lt
  have hWln := hWf.ln
  have hR9 := hWf.R
  refine lv_aload_n hx hb d_LB_deliver_0 rfl (lv_at hl 0 rfl) ?_
  refine x_get (v := .ref (ad 1)) (k := 0) hx hb ht xc_LB hown hK hP (mo (by decide)) rfl (by decide) fl_LB_12 rfl rfl rfl d_LB_deliver_1 ?_
  refine lv_iload_n hx hb d_LB_deliver_4 rfl (lv_at hl 1 rfl) ?_
  refine x_ci (x_rV (As := [.int k]) (rest := []) hx hb hml hown ht gW cs_LB_69 (c_Flight_has l D dA ad nw hJ hnw σ k hWf.n) rfl rfl (by decide) xc_Flight hN hK hP (mo (by decide)) rfl rfl hl.1 rfl (Nat.le_of_ble_eq_true rfl) d_LB_deliver_5 (by decide)) hS (fun H locs hP hS => ?_)
  refine x_ifneB (tgt := 13) hx hb d_LB_deliver_8 (by decide) (fun h1 => ?_) (fun h1 => ?_)
  · obtain ⟨j, hj, rfl⟩ := inR_of (by omega) h1
    refine lv_aload_n hx hb d_LB_deliver_13 rfl (lv_at hl 0 rfl) ?_
    refine x_get (v := .ref (ad 1)) (k := 0) hx hb ht xc_LB hown hK hP (mo (by decide)) rfl (by decide) fl_LB_12 rfl rfl rfl d_LB_deliver_14 ?_
    refine lv_iload_n hx hb d_LB_deliver_17 rfl (lv_at hl 1 rfl) ?_
    refine x_cr (x_rV (As := [.int (nI j)]) (rest := []) hx hb hml hown ht gW cs_LB_73 (c_Flight_take l D dA ad nw hJ hnw σ j hWf.R hWf.T hWf.n (by omega)) rfl rfl (by decide) xc_Flight hN hK hP (mo (by decide)) rfl rfl hl.1 rfl (Nat.le_of_ble_eq_true rfl) d_LB_deliver_18 (by decide)) hS (fun H locs hP hS => ?_)
    have hWf : Wf nw (fTake σ j) := wf_take hWf (by omega)
    refine lv_astore_n (lv' := [(3, .ref (ad (gN σ 100 j))), (0, .ref (ad 0)), (1, .int (nI j)), (2, .int cut)]) hx hb d_LB_deliver_21 rfl hl (by decide) rfl (fun ls hl => ?_)
    refine lv_aload_n hx hb d_LB_deliver_22 rfl (lv_at hl 1 rfl) ?_
    refine lv_aload_n hx hb d_LB_deliver_23 rfl (lv_at hl 0 rfl) ?_
    refine x_get (v := .int (nI (gN σ 11 (gN σ 100 j)))) (k := 2) hx hb ht xc_Message hown hK hP (mo_msg (hR9 j (by omega))) (hR9 j (by omega)) (by decide) fl_LB_77 rfl rfl rfl d_LB_deliver_24 ?_
    refine x_ci (x_rV (As := [.int (nI (gN σ 11 (gN σ 100 j)))]) (rest := []) hx hb hml hown ht gW cs_LB_82 (c_LB_isUp l D dA ad nw hJ hnw (fTake σ j) (nI (gN σ 11 (gN σ 100 j)))) rfl rfl (by decide) xc_LB hN hK hP (mo (by decide)) rfl rfl hl.1 rfl (Nat.le_of_ble_eq_true rfl) d_LB_deliver_27 (by decide)) hS (fun H locs hP hS => ?_)
    refine x_ifneB (tgt := 35) hx hb d_LB_deliver_30 (by decide) (fun h2 => ?_) (fun h2 => ?_)
    · refine lv_aload_n hx hb d_LB_deliver_35 rfl (lv_at hl 0 rfl) ?_
      refine x_ci (x_rV (As := []) (rest := []) hx hb hml hown ht gW cs_LB_85 (c_Message_isSound l D dA ad nw hJ hnw (fTake σ j) (gN σ 100 j) (hR9 j (by omega)) (hWf.kd _)) rfl rfl (by decide) xc_Message hN hK hP (mo_msg (hR9 j (by omega))) (hR9 j (by omega)) rfl hl.1 rfl (Nat.le_of_ble_eq_true rfl) d_LB_deliver_36 (by decide)) hS (fun H locs hP hS => ?_)
      refine x_ifeqB (tgt := 51) hx hb d_LB_deliver_39 (by decide) (fun h3 => ?_) (fun h3 => ?_)
      · refine lv_aload_n hx hb d_LB_deliver_51 rfl (lv_at hl 1 rfl) ?_
        refine lv_dup hx hb d_LB_deliver_52 rfl ?_
        refine x_get (v := .int (nI (gN σ 5 0))) (k := 5) hx hb ht xc_LB hown hK hP (mo (by decide)) rfl (by decide) fl_LB_45 rfl rfl rfl d_LB_deliver_53 ?_
        refine lv_iconst (v := (nI 1)) hx hb d_LB_deliver_56 (by decide) ?_
        refine x_iaddN hx hb d_LB_deliver_57 ?_
        refine x_put (σ' := sN (fTake σ j) 5 0 ((gN σ 5 0) + 1)) (v := .int (nI ((gN σ 5 0) + 1))) (k := 5) hx hb ht xc_LB t_LB t_LB_ok n_LB hown hK hP hJ hw hS (mo (by decide)) rfl (by decide) fl_LB_45 rfl rfl rfl off_N rfl rfl rfl d_LB_deliver_58 (fun H locs hP hS => ?_)
        have hWf : Wf nw (sN (fTake σ j) 5 0 ((gN σ 5 0) + 1)) := wf_N (by decide) hWf
        refine lv_aload_n hx hb d_LB_deliver_61 rfl (lv_at hl 0 rfl) ?_
        refine x_get (v := .int (nI (gN σ 10 (gN σ 100 j)))) (k := 1) hx hb ht xc_Message hown hK hP (mo_msg (hR9 j (by omega))) (hR9 j (by omega)) (by decide) fl_LB_93 rfl rfl rfl d_LB_deliver_62 ?_
        exact x_iret hx hb hr hlk hK hP hS d_LB_deliver_65 (by unfold lbDelR; rw [if_pos h1, nI_clamp (by omega), if_pos h2, lbDelS, if_pos h1, nI_clamp (by omega), lbDel, show gN (fTake σ j) 11 (gN σ 100 j) = gN σ 11 (gN σ 100 j) from rfl, if_pos h2, if_neg (by rw [h3]; decide)]; try rfl) (by unfold lbDelS; rw [if_pos h1, nI_clamp (by omega), lbDel, show gN (fTake σ j) 11 (gN σ 100 j) = gN σ 11 (gN σ 100 j) from rfl, if_pos h2, if_neg (by rw [h3]; decide)]; try rfl)
      · refine lv_aload_n hx hb d_LB_deliver_42 rfl (lv_at hl 1 rfl) ?_
        refine lv_aload_n hx hb d_LB_deliver_43 rfl (lv_at hl 0 rfl) ?_
        refine lv_iload_n hx hb d_LB_deliver_44 rfl (lv_at hl 3 rfl) ?_
        refine x_cv (x_rV (As := [.ref (ad (gN σ 100 j)), .int cut]) (rest := []) hx hb hml hown ht gW cs_LB_89 (c_LB_hand l D dA ad nw hJ hnw (fTake σ j) (gN σ 100 j) cut hWf (hR9 j (by omega)) (by assumption)) rfl rfl (by decide) xc_LB hN hK hP (mo (by decide)) rfl rfl hl.1 rfl (Nat.le_of_ble_eq_true rfl) d_LB_deliver_45 (by decide)) hS (fun H locs hP hS => ?_)
        have hWf : Wf nw (lbHand (fTake σ j) nw (gN σ 100 j) cut) := wf_hand hWf (by assumption)
        refine lv_goto (tgt := 61) hx hb d_LB_deliver_48 (by decide) ?_
        refine lv_aload_n hx hb d_LB_deliver_61 rfl (lv_at hl 0 rfl) ?_
        refine x_get (v := .int (nI (gN (lbHand (fTake σ j) nw (gN σ 100 j) cut) 10 (gN σ 100 j)))) (k := 1) hx hb ht xc_Message hown hK hP (mo_msg (hR9 j (by omega))) (hR9 j (by omega)) (by decide) fl_LB_93 rfl rfl rfl d_LB_deliver_62 ?_
        exact x_iret hx hb hr hlk hK hP hS d_LB_deliver_65 (by unfold lbDelR; rw [if_pos h1, nI_clamp (by omega), if_pos h2, lbDelS, if_pos h1, nI_clamp (by omega), lbDel, show gN (fTake σ j) 11 (gN σ 100 j) = gN σ 11 (gN σ 100 j) from rfl, if_pos h2, if_pos h3]; try rfl) (by unfold lbDelS; rw [if_pos h1, nI_clamp (by omega), lbDel, show gN (fTake σ j) 11 (gN σ 100 j) = gN σ 11 (gN σ 100 j) from rfl, if_pos h2, if_pos h3]; try rfl)
    · refine lv_iconst (v := (nI 0)) hx hb d_LB_deliver_33 (by decide) ?_
      exact x_iret hx hb hr hlk hK hP hS d_LB_deliver_34 (by unfold lbDelR; rw [if_pos h1, nI_clamp (by omega), if_neg (by rw [h2]; decide)]; try rfl) (by unfold lbDelS; rw [if_pos h1, nI_clamp (by omega), lbDel, show gN (fTake σ j) 11 (gN σ 100 j) = gN σ 11 (gN σ 100 j) from rfl, if_neg (by rw [h2]; decide)]; try rfl)
  · refine lv_iconst (v := ((-1))) hx hb d_LB_deliver_11 (by decide) ?_
    exact x_iret hx hb hr hlk hK hP hS d_LB_deliver_12 (by unfold lbDelR; rw [if_neg (by rw [h1]; decide)]; try rfl) (by unfold lbDelS; rw [if_neg (by rw [h1]; decide)]; try rfl)
set_option maxHeartbeats 4000000 in
set_option maxRecDepth 100000 in
theorem c_LB_lose (l : Launch) (D : va_G) (dA : Nat → ClassId) (ad : Nat → Nat) (nw : Nat) (hJ : Inj ad (obC nw)) (hnw : nw ≤ 4) (σ : Sg) (k : Int32) (hWf : Wf nw σ) : CI l D clX (tyX dA) (SC nw) ad dA (obC nw) NL y_LB_lose w_LB_lose { frames := 1, cells := 0, slots := 0, locals := 23 } [.ref (ad 0), .int k] σ ((bI (inR k (gN σ 21 1)))) (lbLose σ k) := by
  refine x_of (WS := WS) (cc := b_LB_lose) (maxL := 2) (ret := (some .boolean)) (by decide) rfl (Nat.le_of_ble_eq_true rfl) ?_
  intro pp ee ss mm below meth cdd hx hb hml hr hlk ht hown hnm hN hK hP ls hl
  have hl : lv_has ls 2 [(0, .ref (ad 0)), (1, .int k)] := hl
  have hS : va_S (Ad ad (obC nw)) ss.heap ss.heap [] := va_S.rf
  have hw := swfC hnw
  have hWn := hWf.n
  have hWq := hWf.q
  have hWit := hWf.it
  have hWbl := hWf.bl
  have hWrs := hWf.rs
  have hWlt := hWf.lt
  have hWln := hWf.ln
  refine lv_aload_n hx hb d_LB_lose_0 rfl (lv_at hl 0 rfl) ?_
  refine x_get (v := .ref (ad 1)) (k := 0) hx hb ht xc_LB hown hK hP (mo (by decide)) rfl (by decide) fl_LB_12 rfl rfl rfl d_LB_lose_1 ?_
  refine lv_iload_n hx hb d_LB_lose_4 rfl (lv_at hl 1 rfl) ?_
  refine x_ci (x_rV (As := [.int k]) (rest := []) hx hb hml hown ht gW cs_LB_69 (c_Flight_has l D dA ad nw hJ hnw σ k hWf.n) rfl rfl (by decide) xc_Flight hN hK hP (mo (by decide)) rfl rfl hl.1 rfl (Nat.le_of_ble_eq_true rfl) d_LB_lose_5 (by decide)) hS (fun H locs hP hS => ?_)
  refine x_ifneB (tgt := 13) hx hb d_LB_lose_8 (by decide) (fun h1 => ?_) (fun h1 => ?_)
  · obtain ⟨j, hj, rfl⟩ := inR_of (by omega) h1
    refine lv_aload_n hx hb d_LB_lose_13 rfl (lv_at hl 0 rfl) ?_
    refine x_get (v := .ref (ad 1)) (k := 0) hx hb ht xc_LB hown hK hP (mo (by decide)) rfl (by decide) fl_LB_12 rfl rfl rfl d_LB_lose_14 ?_
    refine lv_iload_n hx hb d_LB_lose_17 rfl (lv_at hl 1 rfl) ?_
    refine x_cr (x_rV (As := [.int (nI j)]) (rest := []) hx hb hml hown ht gW cs_LB_73 (c_Flight_take l D dA ad nw hJ hnw σ j hWf.R hWf.T hWf.n (by omega)) rfl rfl (by decide) xc_Flight hN hK hP (mo (by decide)) rfl rfl hl.1 rfl (Nat.le_of_ble_eq_true rfl) d_LB_lose_18 (by decide)) hS (fun H locs hP hS => ?_)
    have hWf : Wf nw (fTake σ j) := wf_take hWf (by omega)
    refine lv_pop hx hb d_LB_lose_21 rfl ?_
    refine lv_iconst (v := (nI 1)) hx hb d_LB_lose_22 (by decide) ?_
    exact x_zret (b := true) hx hb hr hlk hK hP hS d_LB_lose_23 rfl h1.symm (by unfold lbLose; rw [if_pos h1, nI_clamp (by omega)])
  · refine lv_iconst (v := (nI 0)) hx hb d_LB_lose_11 (by decide) ?_
    exact x_zret (b := false) hx hb hr hlk hK hP hS d_LB_lose_12 rfl h1.symm (by unfold lbLose; rw [if_neg (by rw [h1]; decide)])
set_option maxHeartbeats 4000000 in
set_option maxRecDepth 100000 in
theorem c_LB_spoil (l : Launch) (D : va_G) (dA : Nat → ClassId) (ad : Nat → Nat) (nw : Nat) (hJ : Inj ad (obC nw)) (hnw : nw ≤ 4) (σ : Sg) (k : Int32) (hWf : Wf nw σ) : CI l D clX (tyX dA) (SC nw) ad dA (obC nw) NL y_LB_spoil w_LB_spoil { frames := 1, cells := 0, slots := 0, locals := 21 } [.ref (ad 0), .int k] σ ((bI (lbSpB σ k))) (lbSpoil σ k) := by
  refine x_of (WS := WS) (cc := b_LB_spoil) (maxL := 2) (ret := (some .boolean)) (by decide) rfl (Nat.le_of_ble_eq_true rfl) ?_
  intro pp ee ss mm below meth cdd hx hb hml hr hlk ht hown hnm hN hK hP ls hl
  have hl : lv_has ls 2 [(0, .ref (ad 0)), (1, .int k)] := hl
  have hS : va_S (Ad ad (obC nw)) ss.heap ss.heap [] := va_S.rf
  have hw := swfC hnw
  have hWn := hWf.n
  have hWq := hWf.q
  have hWit := hWf.it
  have hWbl := hWf.bl
  have hWrs := hWf.rs
  have hWlt := hWf.lt
  have hWln := hWf.ln
  have hR9 := hWf.R
  refine lv_aload_n hx hb d_LB_spoil_0 rfl (lv_at hl 0 rfl) ?_
  refine x_get (v := .ref (ad 1)) (k := 0) hx hb ht xc_LB hown hK hP (mo (by decide)) rfl (by decide) fl_LB_12 rfl rfl rfl d_LB_spoil_1 ?_
  refine lv_iload_n hx hb d_LB_spoil_4 rfl (lv_at hl 1 rfl) ?_
  refine x_ci (x_rV (As := [.int k]) (rest := []) hx hb hml hown ht gW cs_LB_69 (c_Flight_has l D dA ad nw hJ hnw σ k hWf.n) rfl rfl (by decide) xc_Flight hN hK hP (mo (by decide)) rfl rfl hl.1 rfl (Nat.le_of_ble_eq_true rfl) d_LB_spoil_5 (by decide)) hS (fun H locs hP hS => ?_)
  refine x_ifeqB (tgt := 25) hx hb d_LB_spoil_8 (by decide) (fun h1 => ?_) (fun h1 => ?_)
  · refine lv_iconst (v := (nI 0)) hx hb d_LB_spoil_25 (by decide) ?_
    exact x_zret (b := false) hx hb hr hlk hK hP hS d_LB_spoil_26 rfl (Eq.symm (by unfold lbSpB; rw [h1]; rfl)) (by unfold lbSpoil; rw [if_neg (by rw [show lbSpB σ _ = false from (by unfold lbSpB; rw [h1]; rfl)]; decide)])
  · obtain ⟨j, hj, rfl⟩ := inR_of (by omega) h1
    refine lv_aload_n hx hb d_LB_spoil_11 rfl (lv_at hl 0 rfl) ?_
    refine x_get (v := .ref (ad 1)) (k := 0) hx hb ht xc_LB hown hK hP (mo (by decide)) rfl (by decide) fl_LB_12 rfl rfl rfl d_LB_spoil_12 ?_
    refine lv_iload_n hx hb d_LB_spoil_15 rfl (lv_at hl 1 rfl) ?_
    refine x_cr (x_rV (As := [.int (nI j)]) (rest := []) hx hb hml hown ht gW cs_LB_96 (c_Flight_at l D dA ad nw hJ hnw σ j (by omega)) rfl rfl (by decide) xc_Flight hN hK hP (mo (by decide)) rfl rfl hl.1 rfl (Nat.le_of_ble_eq_true rfl) d_LB_spoil_16 (by decide)) hS (fun H locs hP hS => ?_)
    refine x_ci (x_rV (As := []) (rest := []) hx hb hml hown ht gW cs_LB_99 (c_Message_hasContent l D dA ad nw hJ hnw σ (gN σ 100 j) (hR9 j (by omega)) (hWf.kd _)) rfl rfl (by decide) xc_Message hN hK hP (mo_msg (hR9 j (by omega))) (hR9 j (by omega)) rfl hl.1 rfl (Nat.le_of_ble_eq_true rfl) d_LB_spoil_19 (by decide)) hS (fun H locs hP hS => ?_)
    refine x_ifneB (tgt := 27) hx hb d_LB_spoil_22 (by decide) (fun h2 => ?_) (fun h2 => ?_)
    · refine lv_aload_n hx hb d_LB_spoil_27 rfl (lv_at hl 0 rfl) ?_
      refine x_get (v := .ref (ad 1)) (k := 0) hx hb ht xc_LB hown hK hP (mo (by decide)) rfl (by decide) fl_LB_12 rfl rfl rfl d_LB_spoil_28 ?_
      refine lv_iload_n hx hb d_LB_spoil_31 rfl (lv_at hl 1 rfl) ?_
      refine x_cr (x_rV (As := [.int (nI j)]) (rest := []) hx hb hml hown ht gW cs_LB_96 (c_Flight_at l D dA ad nw hJ hnw σ j (by omega)) rfl rfl (by decide) xc_Flight hN hK hP (mo (by decide)) rfl rfl hl.1 rfl (Nat.le_of_ble_eq_true rfl) d_LB_spoil_32 (by decide)) hS (fun H locs hP hS => ?_)
      refine lv_dup hx hb d_LB_spoil_35 rfl ?_
      refine x_get (v := .int (gI σ 16 (gN σ 100 j))) (k := 7) hx hb ht xc_Message hown hK hP (mo_msg (hR9 j (by omega))) (hR9 j (by omega)) (by decide) fl_LB_102 rfl rfl rfl d_LB_spoil_36 ?_
      refine lv_iconst (v := (nI 1)) hx hb d_LB_spoil_39 (by decide) ?_
      refine lv_ixor hx hb d_LB_spoil_40 ?_
      refine x_put (σ' := sI σ 16 (gN σ 100 j) ((gI σ 16 (gN σ 100 j)) ^^^ (nI 1))) (v := .int ((gI σ 16 (gN σ 100 j)) ^^^ (nI 1))) (k := 7) hx hb ht xc_Message t_Message t_Message_ok n_Message hown hK hP hJ hw hS (mo_msg (hR9 j (by omega))) (hR9 j (by omega)) (by decide) fl_LB_102 rfl rfl rfl off_I (by simp [vl, gs]) rfl rfl d_LB_spoil_41 (fun H locs hP hS => ?_)
      have hWf : Wf nw (sI σ 16 (gN σ 100 j) ((gI σ 16 (gN σ 100 j)) ^^^ (nI 1))) := wf_I hWf
      refine lv_iconst (v := (nI 1)) hx hb d_LB_spoil_44 (by decide) ?_
      exact x_zret (b := true) hx hb hr hlk hK hP hS d_LB_spoil_45 rfl (Eq.symm (by unfold lbSpB; rw [h1, nI_clamp (by omega), h2]; rfl)) (by unfold lbSpoil; rw [if_pos (show lbSpB σ _ = true from (by unfold lbSpB; rw [h1, nI_clamp (by omega), h2]; rfl)), nI_clamp (by omega)])
    · refine lv_iconst (v := (nI 0)) hx hb d_LB_spoil_25 (by decide) ?_
      exact x_zret (b := false) hx hb hr hlk hK hP hS d_LB_spoil_26 rfl (Eq.symm (by unfold lbSpB; rw [h1, nI_clamp (by omega), h2]; rfl)) (by unfold lbSpoil; rw [if_neg (by rw [show lbSpB σ _ = false from (by unfold lbSpB; rw [h1, nI_clamp (by omega), h2]; rfl)]; decide)])
set_option maxHeartbeats 4000000 in
set_option maxRecDepth 100000 in
theorem c_LB_crash (l : Launch) (D : va_G) (dA : Nat → ClassId) (ad : Nat → Nat) (nw : Nat) (hJ : Inj ad (obC nw)) (hnw : nw ≤ 4) (σ : Sg) (x : Int32) (hWf : Wf nw σ) : CI l D clX (tyX dA) (SC nw) ad dA (obC nw) NL y_LB_crash w_LB_crash { frames := 2, cells := 0, slots := 0, locals := 42 } [.ref (ad 0), .int x] σ ((bI (lbCrB σ nw x))) (lbCrash σ nw x) := by
  refine x_of (WS := WS) (cc := b_LB_crash) (maxL := 2) (ret := (some .boolean)) (by decide) rfl (Nat.le_of_ble_eq_true rfl) ?_
  intro pp ee ss mm below meth cdd hx hb hml hr hlk ht hown hnm hN hK hP ls hl
  have hl : lv_has ls 2 [(0, .ref (ad 0)), (1, .int x)] := hl
  have hS : va_S (Ad ad (obC nw)) ss.heap ss.heap [] := va_S.rf
  have hw := swfC hnw
  have hWn := hWf.n
  have hWq := hWf.q
  have hWit := hWf.it
  have hWbl := hWf.bl
  have hWrs := hWf.rs
  have hWlt := hWf.lt
  have hWln := hWf.ln
  refine lv_aload_n hx hb d_LB_crash_0 rfl (lv_at hl 0 rfl) ?_
  refine lv_iload_n hx hb d_LB_crash_1 rfl (lv_at hl 1 rfl) ?_
  refine x_ci (x_rV (As := [.int x]) (rest := []) hx hb hml hown ht gW cs_LB_105 (c_LB_isNode l D dA ad nw hJ hnw σ x) rfl rfl (by decide) xc_LB hN hK hP (mo (by decide)) rfl rfl hl.1 rfl (Nat.le_of_ble_eq_true rfl) d_LB_crash_2 (by decide)) hS (fun H locs hP hS => ?_)
  refine x_ifeqB (tgt := 16) hx hb d_LB_crash_5 (by decide) (fun h1 => ?_) (fun h1 => ?_)
  · refine lv_iconst (v := (nI 0)) hx hb d_LB_crash_16 (by decide) ?_
    exact x_zret (b := false) hx hb hr hlk hK hP hS d_LB_crash_17 rfl (Eq.symm (by unfold lbCrB; simp [h1])) (by unfold lbCrash; rw [if_neg (by unfold lbCrB; simp [h1])])
  · refine lv_aload_n hx hb d_LB_crash_8 rfl (lv_at hl 0 rfl) ?_
    refine lv_iload_n hx hb d_LB_crash_9 rfl (lv_at hl 1 rfl) ?_
    refine x_ci (x_rV (As := [.int x]) (rest := []) hx hb hml hown ht gW cs_LB_82 (c_LB_isUp l D dA ad nw hJ hnw σ x) rfl rfl (by decide) xc_LB hN hK hP (mo (by decide)) rfl rfl hl.1 rfl (Nat.le_of_ble_eq_true rfl) d_LB_crash_10 (by decide)) hS (fun H locs hP hS => ?_)
    refine x_ifneB (tgt := 18) hx hb d_LB_crash_13 (by decide) (fun h2 => ?_) (fun h2 => ?_)
    · refine lv_iload_n hx hb d_LB_crash_18 rfl (lv_at hl 1 rfl) ?_
      refine lv_if_ne (tgt := 32) hx hb d_LB_crash_19 (by decide) (fun h3 => ?_) (fun h3 => ?_)
      · obtain ⟨j, hj, rfl⟩ := isW_of hnw (isNd_w h1 h3)
        refine lv_aload_n hx hb d_LB_crash_32 rfl (lv_at hl 0 rfl) ?_
        refine x_get (v := .ref (ad 99)) (k := 3) hx hb ht xc_LB hown hK hP (mo (by decide)) rfl (by decide) fl_LB_36 rfl rfl rfl d_LB_crash_33 ?_
        refine lv_iload_n hx hb d_LB_crash_36 rfl (lv_at hl 1 rfl) ?_
        refine lv_iconst (v := (nI 1)) hx hb d_LB_crash_37 (by decide) ?_
        refine x_isubN hx hb d_LB_crash_38 (by omega) ?_
        refine W.eq (g2 := F0 mm 39 ls [.int (nI j), .ref (ad 99)]) rfl ?_
        refine x_fald (κ := 115) (n := nw) hx hb hK hP (mo (by decide)) rfl (by decide) rfl rfl (by omega) (by omega) d_LB_crash_39 ?_
        refine W.eq (g2 := F0 mm 40 ls [.ref (ad (100 + 2 * j))]) rfl ?_
        refine x_cv (x_rV (As := []) (rest := []) hx hb hml hown ht gW cs_LB_111 (c_Worker_goDown l D dA ad nw hJ hnw σ j (by omega)) rfl rfl (by decide) xc_Worker hN hK hP (mo_wk (by omega)) (kd_wk (by omega)) rfl hl.1 rfl (Nat.le_of_ble_eq_true rfl) d_LB_crash_40 (by decide)) hS (fun H locs hP hS => ?_)
        have hWf : Wf nw (wDown σ (100 + 2 * j)) := wf_wDown hWf
        refine lv_iconst (v := (nI 1)) hx hb d_LB_crash_43 (by decide) ?_
        exact x_zret (b := true) hx hb hr hlk hK hP hS d_LB_crash_44 rfl (Eq.symm (by unfold lbCrB; simp [h1, h2])) (by unfold lbCrash; rw [if_pos (by unfold lbCrB; rw [h1, h2]; rfl), if_neg h3, wIx (by omega)])
      · refine lv_aload_n hx hb d_LB_crash_22 rfl (lv_at hl 0 rfl) ?_
        refine x_get (v := .ref (ad 63)) (k := 2) hx hb ht xc_LB hown hK hP (mo (by decide)) rfl (by decide) fl_LB_30 rfl rfl rfl d_LB_crash_23 ?_
        refine x_cv (x_rV (As := []) (rest := []) hx hb hml hown ht gW cs_LB_108 (c_Server_goDown l D dA ad nw hJ hnw σ ) rfl rfl (by decide) xc_Server hN hK hP (mo (by decide)) rfl rfl hl.1 rfl (Nat.le_of_ble_eq_true rfl) d_LB_crash_26 (by decide)) hS (fun H locs hP hS => ?_)
        have hWf : Wf nw (sDown σ nw) := wf_down hWf
        refine lv_goto (tgt := 43) hx hb d_LB_crash_29 (by decide) ?_
        refine lv_iconst (v := (nI 1)) hx hb d_LB_crash_43 (by decide) ?_
        exact x_zret (b := true) hx hb hr hlk hK hP hS d_LB_crash_44 rfl (Eq.symm (by unfold lbCrB; simp [h1, h2])) (by unfold lbCrash; rw [if_pos (by unfold lbCrB; rw [h1, h2]; rfl), if_pos h3])
    · refine lv_iconst (v := (nI 0)) hx hb d_LB_crash_16 (by decide) ?_
      exact x_zret (b := false) hx hb hr hlk hK hP hS d_LB_crash_17 rfl (Eq.symm (by unfold lbCrB; simp [h1, h2])) (by unfold lbCrash; rw [if_neg (by unfold lbCrB; simp [h1, h2])])
set_option maxHeartbeats 4000000 in
set_option maxRecDepth 100000 in
theorem c_LB_restart (l : Launch) (D : va_G) (dA : Nat → ClassId) (ad : Nat → Nat) (nw : Nat) (hJ : Inj ad (obC nw)) (hnw : nw ≤ 4) (σ : Sg) (x : Int32) (hWf : Wf nw σ) : CI l D clX (tyX dA) (SC nw) ad dA (obC nw) NL y_LB_restart w_LB_restart { frames := 2, cells := 0, slots := 0, locals := 42 } [.ref (ad 0), .int x] σ ((bI (lbReB σ nw x))) (lbRest σ nw x) := by
  refine x_of (WS := WS) (cc := b_LB_restart) (maxL := 2) (ret := (some .boolean)) (by decide) rfl (Nat.le_of_ble_eq_true rfl) ?_
  intro pp ee ss mm below meth cdd hx hb hml hr hlk ht hown hnm hN hK hP ls hl
  have hl : lv_has ls 2 [(0, .ref (ad 0)), (1, .int x)] := hl
  have hS : va_S (Ad ad (obC nw)) ss.heap ss.heap [] := va_S.rf
  have hw := swfC hnw
  have hWn := hWf.n
  have hWq := hWf.q
  have hWit := hWf.it
  have hWbl := hWf.bl
  have hWrs := hWf.rs
  have hWlt := hWf.lt
  have hWln := hWf.ln
  refine lv_aload_n hx hb d_LB_restart_0 rfl (lv_at hl 0 rfl) ?_
  refine lv_iload_n hx hb d_LB_restart_1 rfl (lv_at hl 1 rfl) ?_
  refine x_ci (x_rV (As := [.int x]) (rest := []) hx hb hml hown ht gW cs_LB_105 (c_LB_isNode l D dA ad nw hJ hnw σ x) rfl rfl (by decide) xc_LB hN hK hP (mo (by decide)) rfl rfl hl.1 rfl (Nat.le_of_ble_eq_true rfl) d_LB_restart_2 (by decide)) hS (fun H locs hP hS => ?_)
  refine x_ifeqB (tgt := 16) hx hb d_LB_restart_5 (by decide) (fun h1 => ?_) (fun h1 => ?_)
  · refine lv_iconst (v := (nI 0)) hx hb d_LB_restart_16 (by decide) ?_
    exact x_zret (b := false) hx hb hr hlk hK hP hS d_LB_restart_17 rfl (Eq.symm (by unfold lbReB; simp [h1])) (by unfold lbRest; rw [if_neg (by unfold lbReB; simp [h1])])
  · refine lv_aload_n hx hb d_LB_restart_8 rfl (lv_at hl 0 rfl) ?_
    refine lv_iload_n hx hb d_LB_restart_9 rfl (lv_at hl 1 rfl) ?_
    refine x_ci (x_rV (As := [.int x]) (rest := []) hx hb hml hown ht gW cs_LB_82 (c_LB_isUp l D dA ad nw hJ hnw σ x) rfl rfl (by decide) xc_LB hN hK hP (mo (by decide)) rfl rfl hl.1 rfl (Nat.le_of_ble_eq_true rfl) d_LB_restart_10 (by decide)) hS (fun H locs hP hS => ?_)
    refine x_ifeqB (tgt := 18) hx hb d_LB_restart_13 (by decide) (fun h2 => ?_) (fun h2 => ?_)
    · refine lv_iload_n hx hb d_LB_restart_18 rfl (lv_at hl 1 rfl) ?_
      refine lv_if_ne (tgt := 33) hx hb d_LB_restart_19 (by decide) (fun h3 => ?_) (fun h3 => ?_)
      · obtain ⟨j, hj, rfl⟩ := isW_of hnw (isNd_w h1 h3)
        refine lv_aload_n hx hb d_LB_restart_33 rfl (lv_at hl 0 rfl) ?_
        refine x_get (v := .ref (ad 99)) (k := 3) hx hb ht xc_LB hown hK hP (mo (by decide)) rfl (by decide) fl_LB_36 rfl rfl rfl d_LB_restart_34 ?_
        refine lv_iload_n hx hb d_LB_restart_37 rfl (lv_at hl 1 rfl) ?_
        refine lv_iconst (v := (nI 1)) hx hb d_LB_restart_38 (by decide) ?_
        refine x_isubN hx hb d_LB_restart_39 (by omega) ?_
        refine W.eq (g2 := F0 mm 40 ls [.int (nI j), .ref (ad 99)]) rfl ?_
        refine x_fald (κ := 115) (n := nw) hx hb hK hP (mo (by decide)) rfl (by decide) rfl rfl (by omega) (by omega) d_LB_restart_40 ?_
        refine W.eq (g2 := F0 mm 41 ls [.ref (ad (100 + 2 * j))]) rfl ?_
        refine lv_iconst (v := (nI 1)) hx hb d_LB_restart_41 (by decide) ?_
        refine x_put (σ' := sB σ 56 (100 + 2 * j) true) (v := .int (nI 1)) (k := 1) hx hb ht xc_Worker t_Worker t_Worker_ok n_Worker hown hK hP hJ hw hS (mo_wk (by omega)) (kd_wk (by omega)) (by decide) fl_LB_116 rfl rfl rfl off_B (by simp [vl, gs]; rfl) rfl rfl d_LB_restart_42 (fun H locs hP hS => ?_)
        have hWf : Wf nw (sB σ 56 (100 + 2 * j) true) := wf_B hWf
        refine lv_iconst (v := (nI 1)) hx hb d_LB_restart_45 (by decide) ?_
        exact x_zret (b := true) hx hb hr hlk hK hP hS d_LB_restart_46 rfl (Eq.symm (by unfold lbReB; simp [h1, h2])) (by unfold lbRest; rw [if_pos (by unfold lbReB; rw [h1, h2]; rfl), if_neg h3, wIx (by omega)])
      · refine lv_aload_n hx hb d_LB_restart_22 rfl (lv_at hl 0 rfl) ?_
        refine x_get (v := .ref (ad 63)) (k := 2) hx hb ht xc_LB hown hK hP (mo (by decide)) rfl (by decide) fl_LB_30 rfl rfl rfl d_LB_restart_23 ?_
        refine lv_iconst (v := (nI 1)) hx hb d_LB_restart_26 (by decide) ?_
        refine x_put (σ' := sB σ 45 63 true) (v := .int (nI 1)) (k := 5) hx hb ht xc_Server t_Server t_Server_ok n_Server hown hK hP hJ hw hS (mo (by decide)) rfl (by decide) fl_LB_112 rfl rfl rfl off_B rfl rfl rfl d_LB_restart_27 (fun H locs hP hS => ?_)
        have hWf : Wf nw (sB σ 45 63 true) := wf_B hWf
        refine lv_goto (tgt := 45) hx hb d_LB_restart_30 (by decide) ?_
        refine lv_iconst (v := (nI 1)) hx hb d_LB_restart_45 (by decide) ?_
        exact x_zret (b := true) hx hb hr hlk hK hP hS d_LB_restart_46 rfl (Eq.symm (by unfold lbReB; simp [h1, h2])) (by unfold lbRest; rw [if_pos (by unfold lbReB; rw [h1, h2]; rfl), if_pos h3])
    · refine lv_iconst (v := (nI 0)) hx hb d_LB_restart_16 (by decide) ?_
      exact x_zret (b := false) hx hb hr hlk hK hP hS d_LB_restart_17 rfl (Eq.symm (by unfold lbReB; simp [h1, h2])) (by unfold lbRest; rw [if_neg (by unfold lbReB; simp [h1, h2])])
set_option maxHeartbeats 4000000 in
set_option maxRecDepth 100000 in
theorem c_LB_collect (l : Launch) (D : va_G) (dA : Nat → ClassId) (ad : Nat → Nat) (nw : Nat) (hJ : Inj ad (obC nw)) (hnw : nw ≤ 4) (σ : Sg)  (hWf : Wf nw σ) : CI l D clX (tyX dA) (SC nw) ad dA (obC nw) NL y_LB_collect w_LB_collect { frames := 4, cells := 0, slots := 0, locals := 86 } [.ref (ad 0)] σ ((lbColR σ nw)) (lbColS σ nw) := by
  refine x_of (WS := WS) (cc := b_LB_collect) (maxL := 1) (ret := (some .int)) (by decide) rfl (Nat.le_of_ble_eq_true rfl) ?_
  intro pp ee ss mm below meth cdd hx hb hml hr hlk ht hown hnm hN hK hP ls hl
  have hl : lv_has ls 1 [(0, .ref (ad 0))] := hl
  have hS : va_S (Ad ad (obC nw)) ss.heap ss.heap [] := va_S.rf
  have hw := swfC hnw
  have hWn := hWf.n
  have hWq := hWf.q
  have hWit := hWf.it
  have hWbl := hWf.bl
  have hWrs := hWf.rs
  have hWlt := hWf.lt
  have hWln := hWf.ln
  refine lv_aload_n hx hb d_LB_collect_0 rfl (lv_at hl 0 rfl) ?_
  refine x_get (v := .ref (ad 63)) (k := 2) hx hb ht xc_LB hown hK hP (mo (by decide)) rfl (by decide) fl_LB_30 rfl rfl rfl d_LB_collect_1 ?_
  refine x_get (v := .int (bI (gB σ 45 63))) (k := 5) hx hb ht xc_Server hown hK hP (mo (by decide)) rfl (by decide) fl_LB_112 rfl rfl rfl d_LB_collect_4 ?_
  refine x_ifeqB (tgt := 20) hx hb d_LB_collect_7 (by decide) (fun h1 => ?_) (fun h1 => ?_)
  · refine lv_iconst (v := ((-1))) hx hb d_LB_collect_20 (by decide) ?_
    exact x_iret hx hb hr hlk hK hP hS d_LB_collect_21 (by unfold lbColR; rw [if_neg (by rw [h1]; decide)]) (by unfold lbColS; rw [if_neg (by rw [h1]; decide)])
  · refine lv_aload_n hx hb d_LB_collect_10 rfl (lv_at hl 0 rfl) ?_
    refine x_get (v := .ref (ad 63)) (k := 2) hx hb ht xc_LB hown hK hP (mo (by decide)) rfl (by decide) fl_LB_30 rfl rfl rfl d_LB_collect_11 ?_
    refine x_ci (x_rV (As := []) (rest := []) hx hb hml hown ht gW cs_LB_117 (c_Server_sweep l D dA ad nw hJ hnw σ hWf) rfl rfl (by decide) xc_Server hN hK hP (mo (by decide)) rfl rfl hl.1 rfl (Nat.le_of_ble_eq_true rfl) d_LB_collect_14 (by decide)) hS (fun H locs hP hS => ?_)
    have hWf : Wf nw ((swp nw (gN σ 36 64) σ 0).1) := wf_swp _ hWf
    refine lv_goto (tgt := 21) hx hb d_LB_collect_17 (by decide) ?_
    exact x_iret hx hb hr hlk hK hP hS d_LB_collect_21 (by unfold lbColR; rw [if_pos h1]) (by unfold lbColS; rw [if_pos h1])
set_option maxHeartbeats 4000000 in
set_option maxRecDepth 100000 in
theorem c_LB_flying (l : Launch) (D : va_G) (dA : Nat → ClassId) (ad : Nat → Nat) (nw : Nat) (hJ : Inj ad (obC nw)) (hnw : nw ≤ 4) (σ : Sg)   : CI l D clX (tyX dA) (SC nw) ad dA (obC nw) NL y_LB_flying w_LB_flying { frames := 0, cells := 0, slots := 0, locals := 0 } [.ref (ad 0)] σ ((nI (gN σ 21 1))) σ := by
  refine x_of (WS := WS) (cc := b_LB_flying) (maxL := 1) (ret := (some .int)) (by decide) rfl (Nat.le_of_ble_eq_true rfl) ?_
  intro pp ee ss mm below meth cdd hx hb hml hr hlk ht hown hnm hN hK hP ls hl
  have hl : lv_has ls 1 [(0, .ref (ad 0))] := hl
  have hS : va_S (Ad ad (obC nw)) ss.heap ss.heap [] := va_S.rf
  have hw := swfC hnw
  refine lv_aload_n hx hb d_LB_flying_0 rfl (lv_at hl 0 rfl) ?_
  refine x_get (v := .ref (ad 1)) (k := 0) hx hb ht xc_LB hown hK hP (mo (by decide)) rfl (by decide) fl_LB_12 rfl rfl rfl d_LB_flying_1 ?_
  refine x_get (v := .int (nI (gN σ 21 1))) (k := 3) hx hb ht xc_Flight hown hK hP (mo (by decide)) rfl (by decide) fl_LB_121 rfl rfl rfl d_LB_flying_4 ?_
  exact x_iret hx hb hr hlk hK hP hS d_LB_flying_7 rfl rfl
set_option maxHeartbeats 4000000 in
set_option maxRecDepth 100000 in
theorem c_LB_message (l : Launch) (D : va_G) (dA : Nat → ClassId) (ad : Nat → Nat) (nw : Nat) (hJ : Inj ad (obC nw)) (hnw : nw ≤ 4) (σ : Sg) (k : Int32) (hWf : Wf nw σ) : CI l D clX (tyX dA) (SC nw) ad dA (obC nw) NL y_LB_message w_LB_message { frames := 1, cells := 0, slots := 0, locals := 21 } [.ref (ad 0), .int k] σ ((lbMsg σ k)) σ := by
  refine x_of (WS := WS) (cc := b_LB_message) (maxL := 3) (ret := (some .int)) (by decide) rfl (Nat.le_of_ble_eq_true rfl) ?_
  intro pp ee ss mm below meth cdd hx hb hml hr hlk ht hown hnm hN hK hP ls hl
  have hl : lv_has ls 3 [(0, .ref (ad 0)), (1, .int k)] := hl
  have hS : va_S (Ad ad (obC nw)) ss.heap ss.heap [] := va_S.rf
  have hw := swfC hnw
  have hWn := hWf.n
  have hWq := hWf.q
  have hWit := hWf.it
  have hWbl := hWf.bl
  have hWrs := hWf.rs
  have hWlt := hWf.lt
  have hWln := hWf.ln
  have hR9 := hWf.R
  refine lv_aload_n hx hb d_LB_message_0 rfl (lv_at hl 0 rfl) ?_
  refine x_get (v := .ref (ad 1)) (k := 0) hx hb ht xc_LB hown hK hP (mo (by decide)) rfl (by decide) fl_LB_12 rfl rfl rfl d_LB_message_1 ?_
  refine lv_iload_n hx hb d_LB_message_4 rfl (lv_at hl 1 rfl) ?_
  refine x_ci (x_rV (As := [.int k]) (rest := []) hx hb hml hown ht gW cs_LB_69 (c_Flight_has l D dA ad nw hJ hnw σ k hWf.n) rfl rfl (by decide) xc_Flight hN hK hP (mo (by decide)) rfl rfl hl.1 rfl (Nat.le_of_ble_eq_true rfl) d_LB_message_5 (by decide)) hS (fun H locs hP hS => ?_)
  refine x_ifneB (tgt := 13) hx hb d_LB_message_8 (by decide) (fun h1 => ?_) (fun h1 => ?_)
  · obtain ⟨j, hj, rfl⟩ := inR_of (by omega) h1
    refine lv_aload_n hx hb d_LB_message_13 rfl (lv_at hl 0 rfl) ?_
    refine x_get (v := .ref (ad 1)) (k := 0) hx hb ht xc_LB hown hK hP (mo (by decide)) rfl (by decide) fl_LB_12 rfl rfl rfl d_LB_message_14 ?_
    refine lv_iload_n hx hb d_LB_message_17 rfl (lv_at hl 1 rfl) ?_
    refine x_cr (x_rV (As := [.int (nI j)]) (rest := []) hx hb hml hown ht gW cs_LB_96 (c_Flight_at l D dA ad nw hJ hnw σ j (by omega)) rfl rfl (by decide) xc_Flight hN hK hP (mo (by decide)) rfl rfl hl.1 rfl (Nat.le_of_ble_eq_true rfl) d_LB_message_18 (by decide)) hS (fun H locs hP hS => ?_)
    refine lv_astore_n (lv' := [(2, .ref (ad (gN σ 100 j))), (0, .ref (ad 0)), (1, .int (nI j))]) hx hb d_LB_message_21 rfl hl (by decide) rfl (fun ls hl => ?_)
    refine lv_bipush (v := (nI 10)) hx hb d_LB_message_22 (by decide) ?_
    refine lv_aload_n hx hb d_LB_message_24 rfl (lv_at hl 0 rfl) ?_
    refine x_get (v := .int (nI (gN σ 10 (gN σ 100 j)))) (k := 1) hx hb ht xc_Message hown hK hP (mo_msg (hR9 j (by omega))) (hR9 j (by omega)) (by decide) fl_LB_93 rfl rfl rfl d_LB_message_25 ?_
    refine x_imulN hx hb d_LB_message_28 ?_
    refine lv_aload_n hx hb d_LB_message_29 rfl (lv_at hl 0 rfl) ?_
    refine x_get (v := .int (nI (gN σ 11 (gN σ 100 j)))) (k := 2) hx hb ht xc_Message hown hK hP (mo_msg (hR9 j (by omega))) (hR9 j (by omega)) (by decide) fl_LB_77 rfl rfl rfl d_LB_message_30 ?_
    refine x_iaddN hx hb d_LB_message_33 ?_
    exact x_iret hx hb hr hlk hK hP hS d_LB_message_34 (by unfold lbMsg; rw [if_pos h1, nI_clamp (by omega)]) rfl
  · refine lv_iconst (v := ((-1))) hx hb d_LB_message_11 (by decide) ?_
    exact x_iret hx hb hr hlk hK hP hS d_LB_message_12 (by unfold lbMsg; rw [if_neg (by rw [h1]; decide)]) rfl
set_option maxHeartbeats 4000000 in
set_option maxRecDepth 100000 in
theorem c_LB_carried (l : Launch) (D : va_G) (dA : Nat → ClassId) (ad : Nat → Nat) (nw : Nat) (hJ : Inj ad (obC nw)) (hnw : nw ≤ 4) (σ : Sg) (k : Int32) (hWf : Wf nw σ) : CI l D clX (tyX dA) (SC nw) ad dA (obC nw) NL y_LB_carried w_LB_carried { frames := 1, cells := 0, slots := 0, locals := 21 } [.ref (ad 0), .int k] σ ((lbCar σ k)) σ := by
  refine x_of (WS := WS) (cc := b_LB_carried) (maxL := 2) (ret := (some .int)) (by decide) rfl (Nat.le_of_ble_eq_true rfl) ?_
  intro pp ee ss mm below meth cdd hx hb hml hr hlk ht hown hnm hN hK hP ls hl
  have hl : lv_has ls 2 [(0, .ref (ad 0)), (1, .int k)] := hl
  have hS : va_S (Ad ad (obC nw)) ss.heap ss.heap [] := va_S.rf
  have hw := swfC hnw
  have hWn := hWf.n
  have hWq := hWf.q
  have hWit := hWf.it
  have hWbl := hWf.bl
  have hWrs := hWf.rs
  have hWlt := hWf.lt
  have hWln := hWf.ln
  have hR9 := hWf.R
  refine lv_aload_n hx hb d_LB_carried_0 rfl (lv_at hl 0 rfl) ?_
  refine x_get (v := .ref (ad 1)) (k := 0) hx hb ht xc_LB hown hK hP (mo (by decide)) rfl (by decide) fl_LB_12 rfl rfl rfl d_LB_carried_1 ?_
  refine lv_iload_n hx hb d_LB_carried_4 rfl (lv_at hl 1 rfl) ?_
  refine x_ci (x_rV (As := [.int k]) (rest := []) hx hb hml hown ht gW cs_LB_69 (c_Flight_has l D dA ad nw hJ hnw σ k hWf.n) rfl rfl (by decide) xc_Flight hN hK hP (mo (by decide)) rfl rfl hl.1 rfl (Nat.le_of_ble_eq_true rfl) d_LB_carried_5 (by decide)) hS (fun H locs hP hS => ?_)
  refine x_ifeqB (tgt := 39) hx hb d_LB_carried_8 (by decide) (fun h1 => ?_) (fun h1 => ?_)
  · refine lv_iconst (v := (nI 0)) hx hb d_LB_carried_39 (by decide) ?_
    exact x_iret hx hb hr hlk hK hP hS d_LB_carried_40 (by unfold lbCar; rw [if_neg (by rw [show lbSpB σ _ = false from (by unfold lbSpB; rw [h1]; rfl)]; decide)]) rfl
  · obtain ⟨j, hj, rfl⟩ := inR_of (by omega) h1
    refine lv_aload_n hx hb d_LB_carried_11 rfl (lv_at hl 0 rfl) ?_
    refine x_get (v := .ref (ad 1)) (k := 0) hx hb ht xc_LB hown hK hP (mo (by decide)) rfl (by decide) fl_LB_12 rfl rfl rfl d_LB_carried_12 ?_
    refine lv_iload_n hx hb d_LB_carried_15 rfl (lv_at hl 1 rfl) ?_
    refine x_cr (x_rV (As := [.int (nI j)]) (rest := []) hx hb hml hown ht gW cs_LB_96 (c_Flight_at l D dA ad nw hJ hnw σ j (by omega)) rfl rfl (by decide) xc_Flight hN hK hP (mo (by decide)) rfl rfl hl.1 rfl (Nat.le_of_ble_eq_true rfl) d_LB_carried_16 (by decide)) hS (fun H locs hP hS => ?_)
    refine x_ci (x_rV (As := []) (rest := []) hx hb hml hown ht gW cs_LB_99 (c_Message_hasContent l D dA ad nw hJ hnw σ (gN σ 100 j) (hR9 j (by omega)) (hWf.kd _)) rfl rfl (by decide) xc_Message hN hK hP (mo_msg (hR9 j (by omega))) (hR9 j (by omega)) rfl hl.1 rfl (Nat.le_of_ble_eq_true rfl) d_LB_carried_19 (by decide)) hS (fun H locs hP hS => ?_)
    refine x_ifeqB (tgt := 39) hx hb d_LB_carried_22 (by decide) (fun h2 => ?_) (fun h2 => ?_)
    · refine lv_iconst (v := (nI 0)) hx hb d_LB_carried_39 (by decide) ?_
      exact x_iret hx hb hr hlk hK hP hS d_LB_carried_40 (by unfold lbCar; rw [if_neg (by rw [show lbSpB σ _ = false from (by unfold lbSpB; rw [h1, nI_clamp (by omega), h2]; rfl)]; decide)]) rfl
    · refine lv_aload_n hx hb d_LB_carried_25 rfl (lv_at hl 0 rfl) ?_
      refine x_get (v := .ref (ad 1)) (k := 0) hx hb ht xc_LB hown hK hP (mo (by decide)) rfl (by decide) fl_LB_12 rfl rfl rfl d_LB_carried_26 ?_
      refine lv_iload_n hx hb d_LB_carried_29 rfl (lv_at hl 1 rfl) ?_
      refine x_cr (x_rV (As := [.int (nI j)]) (rest := []) hx hb hml hown ht gW cs_LB_96 (c_Flight_at l D dA ad nw hJ hnw σ j (by omega)) rfl rfl (by decide) xc_Flight hN hK hP (mo (by decide)) rfl rfl hl.1 rfl (Nat.le_of_ble_eq_true rfl) d_LB_carried_30 (by decide)) hS (fun H locs hP hS => ?_)
      refine x_get (v := .int (gI σ 16 (gN σ 100 j))) (k := 7) hx hb ht xc_Message hown hK hP (mo_msg (hR9 j (by omega))) (hR9 j (by omega)) (by decide) fl_LB_102 rfl rfl rfl d_LB_carried_33 ?_
      refine lv_goto (tgt := 40) hx hb d_LB_carried_36 (by decide) ?_
      exact x_iret hx hb hr hlk hK hP hS d_LB_carried_40 (by unfold lbCar; rw [if_pos (show lbSpB σ _ = true from (by unfold lbSpB; rw [h1, nI_clamp (by omega), h2]; rfl)), nI_clamp (by omega)]) rfl
set_option maxHeartbeats 4000000 in
set_option maxRecDepth 100000 in
theorem c_LB_known (l : Launch) (D : va_G) (dA : Nat → ClassId) (ad : Nat → Nat) (nw : Nat) (hJ : Inj ad (obC nw)) (hnw : nw ≤ 4) (σ : Sg) (k : Int32) (hWf : Wf nw σ) : CI l D clX (tyX dA) (SC nw) ad dA (obC nw) NL y_LB_known w_LB_known { frames := 2, cells := 0, slots := 0, locals := 42 } [.ref (ad 0), .int k] σ ((bI (kn σ k))) σ := by
  refine x_of (WS := WS) (cc := b_LB_known) (maxL := 2) (ret := (some .boolean)) (by decide) rfl (Nat.le_of_ble_eq_true rfl) ?_
  intro pp ee ss mm below meth cdd hx hb hml hr hlk ht hown hnm hN hK hP ls hl
  have hl : lv_has ls 2 [(0, .ref (ad 0)), (1, .int k)] := hl
  have hS : va_S (Ad ad (obC nw)) ss.heap ss.heap [] := va_S.rf
  have hw := swfC hnw
  have hWn := hWf.n
  have hWq := hWf.q
  have hWit := hWf.it
  have hWbl := hWf.bl
  have hWrs := hWf.rs
  have hWlt := hWf.lt
  have hWln := hWf.ln
  refine lv_aload_n hx hb d_LB_known_0 rfl (lv_at hl 0 rfl) ?_
  refine x_get (v := .ref (ad 55)) (k := 1) hx hb ht xc_LB hown hK hP (mo (by decide)) rfl (by decide) fl_LB_21 rfl rfl rfl d_LB_known_1 ?_
  refine lv_iload_n hx hb d_LB_known_4 rfl (lv_at hl 1 rfl) ?_
  refine x_ci (x_rV (As := [.int k]) (rest := []) hx hb hml hown ht gW cs_LB_124 (c_Client_knows l D dA ad nw hJ hnw σ k hWf.it) rfl rfl (by decide) xc_Client hN hK hP (mo (by decide)) rfl rfl hl.1 rfl (Nat.le_of_ble_eq_true rfl) d_LB_known_5 (by decide)) hS (fun H locs hP hS => ?_)
  exact x_zret (b := kn σ k) hx hb hr hlk hK hP hS d_LB_known_8 rfl rfl rfl
set_option maxHeartbeats 4000000 in
set_option maxRecDepth 100000 in
theorem c_LB_content (l : Launch) (D : va_G) (dA : Nat → ClassId) (ad : Nat → Nat) (nw : Nat) (hJ : Inj ad (obC nw)) (hnw : nw ≤ 4) (σ : Sg) (k : Int32) (hWf : Wf nw σ) : CI l D clX (tyX dA) (SC nw) ad dA (obC nw) NL y_LB_content w_LB_content { frames := 2, cells := 0, slots := 0, locals := 42 } [.ref (ad 0), .int k] σ ((lbCon σ k)) σ := by
  refine x_of (WS := WS) (cc := b_LB_content) (maxL := 2) (ret := (some .int)) (by decide) rfl (Nat.le_of_ble_eq_true rfl) ?_
  intro pp ee ss mm below meth cdd hx hb hml hr hlk ht hown hnm hN hK hP ls hl
  have hl : lv_has ls 2 [(0, .ref (ad 0)), (1, .int k)] := hl
  have hS : va_S (Ad ad (obC nw)) ss.heap ss.heap [] := va_S.rf
  have hw := swfC hnw
  have hWn := hWf.n
  have hWq := hWf.q
  have hWit := hWf.it
  have hWbl := hWf.bl
  have hWrs := hWf.rs
  have hWlt := hWf.lt
  have hWln := hWf.ln
  refine lv_aload_n hx hb d_LB_content_0 rfl (lv_at hl 0 rfl) ?_
  refine x_get (v := .ref (ad 55)) (k := 1) hx hb ht xc_LB hown hK hP (mo (by decide)) rfl (by decide) fl_LB_21 rfl rfl rfl d_LB_content_1 ?_
  refine lv_iload_n hx hb d_LB_content_4 rfl (lv_at hl 1 rfl) ?_
  refine x_ci (x_rV (As := [.int k]) (rest := []) hx hb hml hown ht gW cs_LB_124 (c_Client_knows l D dA ad nw hJ hnw σ k hWf.it) rfl rfl (by decide) xc_Client hN hK hP (mo (by decide)) rfl rfl hl.1 rfl (Nat.le_of_ble_eq_true rfl) d_LB_content_5 (by decide)) hS (fun H locs hP hS => ?_)
  refine x_ifeqB (tgt := 23) hx hb d_LB_content_8 (by decide) (fun h1 => ?_) (fun h1 => ?_)
  · refine lv_iconst (v := (nI 0)) hx hb d_LB_content_23 (by decide) ?_
    exact x_iret hx hb hr hlk hK hP hS d_LB_content_24 (by unfold lbCon; rw [if_neg (by rw [h1]; decide)]) rfl
  · obtain ⟨j, hj, rfl⟩ := inR_of (by omega) (Bool.and_eq_true_iff.mp h1).1
    refine lv_aload_n hx hb d_LB_content_11 rfl (lv_at hl 0 rfl) ?_
    refine x_get (v := .ref (ad 55)) (k := 1) hx hb ht xc_LB hown hK hP (mo (by decide)) rfl (by decide) fl_LB_21 rfl rfl rfl d_LB_content_12 ?_
    refine x_get (v := .ref (ad 57)) (k := 2) hx hb ht xc_Client hown hK hP (mo (by decide)) rfl (by decide) fl_LB_127 rfl rfl rfl d_LB_content_15 ?_
    refine lv_iload_n hx hb d_LB_content_18 rfl (lv_at hl 1 rfl) ?_
    refine x_iald (κ := 102) (n := 10) hx hb hK hP (mo (by decide)) rfl (by decide) rfl rfl (by omega) (by omega) d_LB_content_19 ?_
    refine lv_goto (tgt := 24) hx hb d_LB_content_20 (by decide) ?_
    exact x_iret hx hb hr hlk hK hP hS d_LB_content_24 (by unfold lbCon; rw [if_pos h1, nI_clamp (by omega)]) rfl
set_option maxHeartbeats 4000000 in
set_option maxRecDepth 100000 in
theorem c_LB_digest (l : Launch) (D : va_G) (dA : Nat → ClassId) (ad : Nat → Nat) (nw : Nat) (hJ : Inj ad (obC nw)) (hnw : nw ≤ 4) (σ : Sg) (c : Int32)  : CI l D clX (tyX dA) (SC nw) ad dA (obC nw) NL y_LB_digest w_LB_digest { frames := 1, cells := 0, slots := 0, locals := 22 } [.ref (ad 0), .int c] σ ((dg c)) σ := by
  refine x_of (WS := WS) (cc := b_LB_digest) (maxL := 2) (ret := (some .int)) (by decide) rfl (Nat.le_of_ble_eq_true rfl) ?_
  intro pp ee ss mm below meth cdd hx hb hml hr hlk ht hown hnm hN hK hP ls hl
  have hl : lv_has ls 2 [(0, .ref (ad 0)), (1, .int c)] := hl
  have hS : va_S (Ad ad (obC nw)) ss.heap ss.heap [] := va_S.rf
  have hw := swfC hnw
  refine lv_iload_n hx hb d_LB_digest_0 rfl (lv_at hl 1 rfl) ?_
  refine x_ci (x_rS (As := [.int c]) (rest := []) hx hb hml hown ht gW cs_LB_131 (c_LB_digestOf l D dA ad nw hJ hnw σ c) rfl rfl (by decide) hN hK hP rfl hl.1 rfl (Nat.le_of_ble_eq_true rfl) d_LB_digest_1 (by decide)) hS (fun H locs hP hS => ?_)
  exact x_iret hx hb hr hlk hK hP hS d_LB_digest_4 rfl rfl
set_option maxHeartbeats 4000000 in
set_option maxRecDepth 100000 in
theorem c_LB_stored (l : Launch) (D : va_G) (dA : Nat → ClassId) (ad : Nat → Nat) (nw : Nat) (hJ : Inj ad (obC nw)) (hnw : nw ≤ 4) (σ : Sg) (d : Int32) (hWf : Wf nw σ) : CI l D clX (tyX dA) (SC nw) ad dA (obC nw) NL y_LB_stored w_LB_stored { frames := 2, cells := 0, slots := 0, locals := 43 } [.ref (ad 0), .int d] σ ((bI (dHas σ d))) σ := by
  refine x_of (WS := WS) (cc := b_LB_stored) (maxL := 2) (ret := (some .boolean)) (by decide) rfl (Nat.le_of_ble_eq_true rfl) ?_
  intro pp ee ss mm below meth cdd hx hb hml hr hlk ht hown hnm hN hK hP ls hl
  have hl : lv_has ls 2 [(0, .ref (ad 0)), (1, .int d)] := hl
  have hS : va_S (Ad ad (obC nw)) ss.heap ss.heap [] := va_S.rf
  have hw := swfC hnw
  have hWn := hWf.n
  have hWq := hWf.q
  have hWit := hWf.it
  have hWbl := hWf.bl
  have hWrs := hWf.rs
  have hWlt := hWf.lt
  have hWln := hWf.ln
  refine lv_aload_n hx hb d_LB_stored_0 rfl (lv_at hl 0 rfl) ?_
  refine x_get (v := .ref (ad 63)) (k := 2) hx hb ht xc_LB hown hK hP (mo (by decide)) rfl (by decide) fl_LB_30 rfl rfl rfl d_LB_stored_1 ?_
  refine x_get (v := .ref (ad 64)) (k := 1) hx hb ht xc_Server hown hK hP (mo (by decide)) rfl (by decide) fl_LB_134 rfl rfl rfl d_LB_stored_4 ?_
  refine lv_iload_n hx hb d_LB_stored_7 rfl (lv_at hl 1 rfl) ?_
  refine x_ci (x_rV (As := [.int d]) (rest := []) hx hb hml hown ht gW cs_LB_138 (c_Disk_hasBlob l D dA ad nw hJ hnw σ d hWf) rfl rfl (by decide) xc_Disk hN hK hP (mo (by decide)) rfl rfl hl.1 rfl (Nat.le_of_ble_eq_true rfl) d_LB_stored_8 (by decide)) hS (fun H locs hP hS => ?_)
  exact x_zret (b := dHas σ d) hx hb hr hlk hK hP hS d_LB_stored_11 rfl rfl rfl
set_option maxHeartbeats 4000000 in
set_option maxRecDepth 100000 in
theorem c_LB_waiting (l : Launch) (D : va_G) (dA : Nat → ClassId) (ad : Nat → Nat) (nw : Nat) (hJ : Inj ad (obC nw)) (hnw : nw ≤ 4) (σ : Sg)   : CI l D clX (tyX dA) (SC nw) ad dA (obC nw) NL y_LB_waiting w_LB_waiting { frames := 0, cells := 0, slots := 0, locals := 0 } [.ref (ad 0)] σ ((nI (gN σ 39 79))) σ := by
  refine x_of (WS := WS) (cc := b_LB_waiting) (maxL := 1) (ret := (some .int)) (by decide) rfl (Nat.le_of_ble_eq_true rfl) ?_
  intro pp ee ss mm below meth cdd hx hb hml hr hlk ht hown hnm hN hK hP ls hl
  have hl : lv_has ls 1 [(0, .ref (ad 0))] := hl
  have hS : va_S (Ad ad (obC nw)) ss.heap ss.heap [] := va_S.rf
  have hw := swfC hnw
  refine lv_aload_n hx hb d_LB_waiting_0 rfl (lv_at hl 0 rfl) ?_
  refine x_get (v := .ref (ad 63)) (k := 2) hx hb ht xc_LB hown hK hP (mo (by decide)) rfl (by decide) fl_LB_30 rfl rfl rfl d_LB_waiting_1 ?_
  refine x_get (v := .ref (ad 79)) (k := 2) hx hb ht xc_Server hown hK hP (mo (by decide)) rfl (by decide) fl_LB_143 rfl rfl rfl d_LB_waiting_4 ?_
  refine x_get (v := .int (nI (gN σ 39 79))) (k := 1) hx hb ht xc_Queue hown hK hP (mo (by decide)) rfl (by decide) fl_LB_147 rfl rfl rfl d_LB_waiting_7 ?_
  exact x_iret hx hb hr hlk hK hP hS d_LB_waiting_10 rfl rfl
set_option maxHeartbeats 4000000 in
set_option maxRecDepth 100000 in
theorem c_LB_lease (l : Launch) (D : va_G) (dA : Nat → ClassId) (ad : Nat → Nat) (nw : Nat) (hJ : Inj ad (obC nw)) (hnw : nw ≤ 4) (σ : Sg) (x : Int32)  : CI l D clX (tyX dA) (SC nw) ad dA (obC nw) NL y_LB_lease w_LB_lease { frames := 2, cells := 0, slots := 0, locals := 43 } [.ref (ad 0), .int x] σ ((lbLea σ nw x)) σ := by
  refine x_of (WS := WS) (cc := b_LB_lease) (maxL := 2) (ret := (some .int)) (by decide) rfl (Nat.le_of_ble_eq_true rfl) ?_
  intro pp ee ss mm below meth cdd hx hb hml hr hlk ht hown hnm hN hK hP ls hl
  have hl : lv_has ls 2 [(0, .ref (ad 0)), (1, .int x)] := hl
  have hS : va_S (Ad ad (obC nw)) ss.heap ss.heap [] := va_S.rf
  have hw := swfC hnw
  refine lv_aload_n hx hb d_LB_lease_0 rfl (lv_at hl 0 rfl) ?_
  refine lv_iload_n hx hb d_LB_lease_1 rfl (lv_at hl 1 rfl) ?_
  refine x_ci (x_rV (As := [.int x]) (rest := []) hx hb hml hown ht gW cs_LB_150 (c_LB_isWorker l D dA ad nw hJ hnw σ x) rfl rfl (by decide) xc_LB hN hK hP (mo (by decide)) rfl rfl hl.1 rfl (Nat.le_of_ble_eq_true rfl) d_LB_lease_2 (by decide)) hS (fun H locs hP hS => ?_)
  refine x_ifeqB (tgt := 23) hx hb d_LB_lease_5 (by decide) (fun h1 => ?_) (fun h1 => ?_)
  · refine lv_iconst (v := ((-1))) hx hb d_LB_lease_23 (by decide) ?_
    exact x_iret hx hb hr hlk hK hP hS d_LB_lease_24 (by unfold lbLea; rw [if_neg (by rw [h1]; decide)]) rfl
  · obtain ⟨j, hj, rfl⟩ := isW_of hnw h1
    refine lv_aload_n hx hb d_LB_lease_8 rfl (lv_at hl 0 rfl) ?_
    refine x_get (v := .ref (ad 63)) (k := 2) hx hb ht xc_LB hown hK hP (mo (by decide)) rfl (by decide) fl_LB_30 rfl rfl rfl d_LB_lease_9 ?_
    refine lv_iload_n hx hb d_LB_lease_12 rfl (lv_at hl 1 rfl) ?_
    refine lv_aload_n hx hb d_LB_lease_13 rfl (lv_at hl 0 rfl) ?_
    refine x_get (v := .int (nI (gN σ 4 0))) (k := 4) hx hb ht xc_LB hown hK hP (mo (by decide)) rfl (by decide) fl_LB_41 rfl rfl rfl d_LB_lease_14 ?_
    refine x_ci (x_rV (As := [.int (nI (j + 1)), .int (nI (gN σ 4 0))]) (rest := []) hx hb hml hown ht gW cs_LB_153 (c_Server_ticksLeft l D dA ad nw hJ hnw σ (j + 1) (gN σ 4 0) (by omega)) rfl rfl (by decide) xc_Server hN hK hP (mo (by decide)) rfl rfl hl.1 rfl (Nat.le_of_ble_eq_true rfl) d_LB_lease_17 (by decide)) hS (fun H locs hP hS => ?_)
    refine lv_goto (tgt := 24) hx hb d_LB_lease_20 (by decide) ?_
    exact x_iret hx hb hr hlk hK hP hS d_LB_lease_24 (by unfold lbLea; rw [if_pos h1, wTn (by omega)]) rfl
set_option maxHeartbeats 4000000 in
set_option maxRecDepth 100000 in
theorem c_LB_doing (l : Launch) (D : va_G) (dA : Nat → ClassId) (ad : Nat → Nat) (nw : Nat) (hJ : Inj ad (obC nw)) (hnw : nw ≤ 4) (σ : Sg) (x : Int32)  : CI l D clX (tyX dA) (SC nw) ad dA (obC nw) NL y_LB_doing w_LB_doing { frames := 1, cells := 0, slots := 0, locals := 21 } [.ref (ad 0), .int x] σ ((lbDoi σ nw x)) σ := by
  refine x_of (WS := WS) (cc := b_LB_doing) (maxL := 2) (ret := (some .int)) (by decide) rfl (Nat.le_of_ble_eq_true rfl) ?_
  intro pp ee ss mm below meth cdd hx hb hml hr hlk ht hown hnm hN hK hP ls hl
  have hl : lv_has ls 2 [(0, .ref (ad 0)), (1, .int x)] := hl
  have hS : va_S (Ad ad (obC nw)) ss.heap ss.heap [] := va_S.rf
  have hw := swfC hnw
  refine lv_aload_n hx hb d_LB_doing_0 rfl (lv_at hl 0 rfl) ?_
  refine lv_iload_n hx hb d_LB_doing_1 rfl (lv_at hl 1 rfl) ?_
  refine x_ci (x_rV (As := [.int x]) (rest := []) hx hb hml hown ht gW cs_LB_150 (c_LB_isWorker l D dA ad nw hJ hnw σ x) rfl rfl (by decide) xc_LB hN hK hP (mo (by decide)) rfl rfl hl.1 rfl (Nat.le_of_ble_eq_true rfl) d_LB_doing_2 (by decide)) hS (fun H locs hP hS => ?_)
  refine x_ifeqB (tgt := 36) hx hb d_LB_doing_5 (by decide) (fun h1 => ?_) (fun h1 => ?_)
  · refine lv_iconst (v := ((-1))) hx hb d_LB_doing_36 (by decide) ?_
    exact x_iret hx hb hr hlk hK hP hS d_LB_doing_37 (by unfold lbDoi; rw [if_neg (by rw [h1]; decide)]) rfl
  · obtain ⟨j, hj, rfl⟩ := isW_of hnw h1
    refine lv_aload_n hx hb d_LB_doing_8 rfl (lv_at hl 0 rfl) ?_
    refine x_get (v := .ref (ad 99)) (k := 3) hx hb ht xc_LB hown hK hP (mo (by decide)) rfl (by decide) fl_LB_36 rfl rfl rfl d_LB_doing_9 ?_
    refine lv_iload_n hx hb d_LB_doing_12 rfl (lv_at hl 1 rfl) ?_
    refine lv_iconst (v := (nI 1)) hx hb d_LB_doing_13 (by decide) ?_
    refine x_isubN hx hb d_LB_doing_14 (by omega) ?_
    refine W.eq (g2 := F0 mm 15 ls [.int (nI j), .ref (ad 99)]) rfl ?_
    refine x_fald (κ := 115) (n := nw) hx hb hK hP (mo (by decide)) rfl (by decide) rfl rfl (by omega) (by omega) d_LB_doing_15 ?_
    refine W.eq (g2 := F0 mm 16 ls [.ref (ad (100 + 2 * j))]) rfl ?_
    refine x_get (v := .int (bI (gB σ 57 (100 + 2 * j)))) (k := 2) hx hb ht xc_Worker hown hK hP (mo_wk (by omega)) (kd_wk (by omega)) (by decide) fl_LB_157 rfl rfl rfl d_LB_doing_16 ?_
    refine x_ifeqB (tgt := 36) hx hb d_LB_doing_19 (by decide) (fun h2 => ?_) (fun h2 => ?_)
    · refine lv_iconst (v := ((-1))) hx hb d_LB_doing_36 (by decide) ?_
      exact x_iret hx hb hr hlk hK hP hS d_LB_doing_37 (by unfold lbDoi; rw [if_pos h1, wIx (by omega), if_neg (by rw [h2]; decide)]) rfl
    · refine lv_aload_n hx hb d_LB_doing_22 rfl (lv_at hl 0 rfl) ?_
      refine x_get (v := .ref (ad 99)) (k := 3) hx hb ht xc_LB hown hK hP (mo (by decide)) rfl (by decide) fl_LB_36 rfl rfl rfl d_LB_doing_23 ?_
      refine lv_iload_n hx hb d_LB_doing_26 rfl (lv_at hl 1 rfl) ?_
      refine lv_iconst (v := (nI 1)) hx hb d_LB_doing_27 (by decide) ?_
      refine x_isubN hx hb d_LB_doing_28 (by omega) ?_
      refine W.eq (g2 := F0 mm 29 ls [.int (nI j), .ref (ad 99)]) rfl ?_
      refine x_fald (κ := 115) (n := nw) hx hb hK hP (mo (by decide)) rfl (by decide) rfl rfl (by omega) (by omega) d_LB_doing_29 ?_
      refine W.eq (g2 := F0 mm 30 ls [.ref (ad (100 + 2 * j))]) rfl ?_
      refine x_get (v := .int (nI (gN σ 58 (100 + 2 * j)))) (k := 3) hx hb ht xc_Worker hown hK hP (mo_wk (by omega)) (kd_wk (by omega)) (by decide) fl_LB_160 rfl rfl rfl d_LB_doing_30 ?_
      refine lv_goto (tgt := 37) hx hb d_LB_doing_33 (by decide) ?_
      exact x_iret hx hb hr hlk hK hP hS d_LB_doing_37 (by unfold lbDoi; rw [if_pos h1, wIx (by omega), if_pos h2]) rfl
set_option maxHeartbeats 4000000 in
set_option maxRecDepth 100000 in
theorem c_LB_count (l : Launch) (D : va_G) (dA : Nat → ClassId) (ad : Nat → Nat) (nw : Nat) (hJ : Inj ad (obC nw)) (hnw : nw ≤ 4) (σ : Sg) (x : Int32) (hWf : Wf nw σ) : CI l D clX (tyX dA) (SC nw) ad dA (obC nw) NL y_LB_count w_LB_count { frames := 1, cells := 0, slots := 0, locals := 22 } [.ref (ad 0), .int x] σ ((lbCnt σ x)) σ := by
  refine x_of (WS := WS) (cc := b_LB_count) (maxL := 2) (ret := (some .int)) (by decide) rfl (Nat.le_of_ble_eq_true rfl) ?_
  intro pp ee ss mm below meth cdd hx hb hml hr hlk ht hown hnm hN hK hP ls hl
  have hl : lv_has ls 2 [(0, .ref (ad 0)), (1, .int x)] := hl
  have hS : va_S (Ad ad (obC nw)) ss.heap ss.heap [] := va_S.rf
  have hw := swfC hnw
  have hWn := hWf.n
  have hWq := hWf.q
  have hWit := hWf.it
  have hWbl := hWf.bl
  have hWrs := hWf.rs
  have hWlt := hWf.lt
  have hWln := hWf.ln
  refine lv_iload_n hx hb d_LB_count_0 rfl (lv_at hl 1 rfl) ?_
  have h1 := sw_0_9 x
  rcases h1 with h1 | h1 | h1 | h1 | h1 | h1 | h1 | h1 | h1 | h1 | h1
  · refine lv_tableIn (off := 55) (tgt := 56) hx hb d_LB_count_1 (by rw [h1]; decide) (by rw [h1]; decide) (by rw [h1]; rfl) (by decide) ?_
    refine lv_aload_n hx hb d_LB_count_56 rfl (lv_at hl 0 rfl) ?_
    refine x_get (v := .ref (ad 63)) (k := 2) hx hb ht xc_LB hown hK hP (mo (by decide)) rfl (by decide) fl_LB_30 rfl rfl rfl d_LB_count_57 ?_
    refine x_get (v := .ref (ad 64)) (k := 1) hx hb ht xc_Server hown hK hP (mo (by decide)) rfl (by decide) fl_LB_134 rfl rfl rfl d_LB_count_60 ?_
    refine x_get (v := .int (nI (gN σ 36 64))) (k := 4) hx hb ht xc_Disk hown hK hP (mo (by decide)) rfl (by decide) fl_LB_163 rfl rfl rfl d_LB_count_63 ?_
    exact x_iret hx hb hr hlk hK hP hS d_LB_count_66 (by unfold lbCnt; rw [if_pos h1]) rfl
  · refine lv_tableIn (off := 66) (tgt := 67) hx hb d_LB_count_1 (by rw [h1]; decide) (by rw [h1]; decide) (by rw [h1]; rfl) (by decide) ?_
    refine lv_aload_n hx hb d_LB_count_67 rfl (lv_at hl 0 rfl) ?_
    refine x_get (v := .ref (ad 63)) (k := 2) hx hb ht xc_LB hown hK hP (mo (by decide)) rfl (by decide) fl_LB_30 rfl rfl rfl d_LB_count_68 ?_
    refine x_get (v := .ref (ad 64)) (k := 1) hx hb ht xc_Server hown hK hP (mo (by decide)) rfl (by decide) fl_LB_134 rfl rfl rfl d_LB_count_71 ?_
    refine x_get (v := .int (nI (gN σ 37 64))) (k := 5) hx hb ht xc_Disk hown hK hP (mo (by decide)) rfl (by decide) fl_LB_166 rfl rfl rfl d_LB_count_74 ?_
    exact x_iret hx hb hr hlk hK hP hS d_LB_count_77 (by unfold lbCnt; rw [if_neg (by rw [h1]; decide), if_pos h1]) rfl
  · refine lv_tableIn (off := 77) (tgt := 78) hx hb d_LB_count_1 (by rw [h1]; decide) (by rw [h1]; decide) (by rw [h1]; rfl) (by decide) ?_
    refine lv_aload_n hx hb d_LB_count_78 rfl (lv_at hl 0 rfl) ?_
    refine x_get (v := .ref (ad 63)) (k := 2) hx hb ht xc_LB hown hK hP (mo (by decide)) rfl (by decide) fl_LB_30 rfl rfl rfl d_LB_count_79 ?_
    refine x_get (v := .int (nI (gN σ 46 63))) (k := 6) hx hb ht xc_Server hown hK hP (mo (by decide)) rfl (by decide) fl_LB_169 rfl rfl rfl d_LB_count_82 ?_
    exact x_iret hx hb hr hlk hK hP hS d_LB_count_85 (by unfold lbCnt; rw [if_neg (by rw [h1]; decide), if_neg (by rw [h1]; decide), if_pos h1]) rfl
  · refine lv_tableIn (off := 85) (tgt := 86) hx hb d_LB_count_1 (by rw [h1]; decide) (by rw [h1]; decide) (by rw [h1]; rfl) (by decide) ?_
    refine lv_aload_n hx hb d_LB_count_86 rfl (lv_at hl 0 rfl) ?_
    refine x_get (v := .ref (ad 63)) (k := 2) hx hb ht xc_LB hown hK hP (mo (by decide)) rfl (by decide) fl_LB_30 rfl rfl rfl d_LB_count_87 ?_
    refine x_get (v := .int (nI (gN σ 47 63))) (k := 7) hx hb ht xc_Server hown hK hP (mo (by decide)) rfl (by decide) fl_LB_172 rfl rfl rfl d_LB_count_90 ?_
    exact x_iret hx hb hr hlk hK hP hS d_LB_count_93 (by unfold lbCnt; rw [if_neg (by rw [h1]; decide), if_neg (by rw [h1]; decide), if_neg (by rw [h1]; decide), if_pos h1]) rfl
  · refine lv_tableIn (off := 93) (tgt := 94) hx hb d_LB_count_1 (by rw [h1]; decide) (by rw [h1]; decide) (by rw [h1]; rfl) (by decide) ?_
    refine lv_aload_n hx hb d_LB_count_94 rfl (lv_at hl 0 rfl) ?_
    refine x_get (v := .ref (ad 63)) (k := 2) hx hb ht xc_LB hown hK hP (mo (by decide)) rfl (by decide) fl_LB_30 rfl rfl rfl d_LB_count_95 ?_
    refine x_get (v := .int (nI (gN σ 48 63))) (k := 8) hx hb ht xc_Server hown hK hP (mo (by decide)) rfl (by decide) fl_LB_175 rfl rfl rfl d_LB_count_98 ?_
    exact x_iret hx hb hr hlk hK hP hS d_LB_count_101 (by unfold lbCnt; rw [if_neg (by rw [h1]; decide), if_neg (by rw [h1]; decide), if_neg (by rw [h1]; decide), if_neg (by rw [h1]; decide), if_pos h1]) rfl
  · refine lv_tableIn (off := 101) (tgt := 102) hx hb d_LB_count_1 (by rw [h1]; decide) (by rw [h1]; decide) (by rw [h1]; rfl) (by decide) ?_
    refine lv_aload_n hx hb d_LB_count_102 rfl (lv_at hl 0 rfl) ?_
    refine x_get (v := .int (nI (gN σ 5 0))) (k := 5) hx hb ht xc_LB hown hK hP (mo (by decide)) rfl (by decide) fl_LB_45 rfl rfl rfl d_LB_count_103 ?_
    exact x_iret hx hb hr hlk hK hP hS d_LB_count_106 (by unfold lbCnt; rw [if_neg (by rw [h1]; decide), if_neg (by rw [h1]; decide), if_neg (by rw [h1]; decide), if_neg (by rw [h1]; decide), if_neg (by rw [h1]; decide), if_pos h1]) rfl
  · refine lv_tableIn (off := 106) (tgt := 107) hx hb d_LB_count_1 (by rw [h1]; decide) (by rw [h1]; decide) (by rw [h1]; rfl) (by decide) ?_
    refine lv_aload_n hx hb d_LB_count_107 rfl (lv_at hl 0 rfl) ?_
    refine x_get (v := .ref (ad 63)) (k := 2) hx hb ht xc_LB hown hK hP (mo (by decide)) rfl (by decide) fl_LB_30 rfl rfl rfl d_LB_count_108 ?_
    refine x_get (v := .int (nI (gN σ 49 63))) (k := 9) hx hb ht xc_Server hown hK hP (mo (by decide)) rfl (by decide) fl_LB_178 rfl rfl rfl d_LB_count_111 ?_
    exact x_iret hx hb hr hlk hK hP hS d_LB_count_114 (by unfold lbCnt; rw [if_neg (by rw [h1]; decide), if_neg (by rw [h1]; decide), if_neg (by rw [h1]; decide), if_neg (by rw [h1]; decide), if_neg (by rw [h1]; decide), if_neg (by rw [h1]; decide), if_pos h1]) rfl
  · refine lv_tableIn (off := 114) (tgt := 115) hx hb d_LB_count_1 (by rw [h1]; decide) (by rw [h1]; decide) (by rw [h1]; rfl) (by decide) ?_
    refine lv_aload_n hx hb d_LB_count_115 rfl (lv_at hl 0 rfl) ?_
    refine x_get (v := .ref (ad 63)) (k := 2) hx hb ht xc_LB hown hK hP (mo (by decide)) rfl (by decide) fl_LB_30 rfl rfl rfl d_LB_count_116 ?_
    refine x_get (v := .int (nI (gN σ 50 63))) (k := 10) hx hb ht xc_Server hown hK hP (mo (by decide)) rfl (by decide) fl_LB_181 rfl rfl rfl d_LB_count_119 ?_
    exact x_iret hx hb hr hlk hK hP hS d_LB_count_122 (by unfold lbCnt; rw [if_neg (by rw [h1]; decide), if_neg (by rw [h1]; decide), if_neg (by rw [h1]; decide), if_neg (by rw [h1]; decide), if_neg (by rw [h1]; decide), if_neg (by rw [h1]; decide), if_neg (by rw [h1]; decide), if_pos h1]) rfl
  · refine lv_tableIn (off := 122) (tgt := 123) hx hb d_LB_count_1 (by rw [h1]; decide) (by rw [h1]; decide) (by rw [h1]; rfl) (by decide) ?_
    refine lv_aload_n hx hb d_LB_count_123 rfl (lv_at hl 0 rfl) ?_
    refine x_get (v := .int (nI (gN σ 4 0))) (k := 4) hx hb ht xc_LB hown hK hP (mo (by decide)) rfl (by decide) fl_LB_41 rfl rfl rfl d_LB_count_124 ?_
    exact x_iret hx hb hr hlk hK hP hS d_LB_count_127 (by unfold lbCnt; rw [if_neg (by rw [h1]; decide), if_neg (by rw [h1]; decide), if_neg (by rw [h1]; decide), if_neg (by rw [h1]; decide), if_neg (by rw [h1]; decide), if_neg (by rw [h1]; decide), if_neg (by rw [h1]; decide), if_neg (by rw [h1]; decide), if_pos h1]) rfl
  · refine lv_tableIn (off := 127) (tgt := 128) hx hb d_LB_count_1 (by rw [h1]; decide) (by rw [h1]; decide) (by rw [h1]; rfl) (by decide) ?_
    refine lv_aload_n hx hb d_LB_count_128 rfl (lv_at hl 0 rfl) ?_
    refine x_get (v := .ref (ad 55)) (k := 1) hx hb ht xc_LB hown hK hP (mo (by decide)) rfl (by decide) fl_LB_21 rfl rfl rfl d_LB_count_129 ?_
    refine x_ci (x_rV (As := []) (rest := []) hx hb hml hown ht gW cs_LB_184 (c_Client_unknown l D dA ad nw hJ hnw σ hWf.it) rfl rfl (by decide) xc_Client hN hK hP (mo (by decide)) rfl rfl hl.1 rfl (Nat.le_of_ble_eq_true rfl) d_LB_count_132 (by decide)) hS (fun H locs hP hS => ?_)
    exact x_iret hx hb hr hlk hK hP hS d_LB_count_135 (by unfold lbCnt; rw [if_neg (by rw [h1]; decide), if_neg (by rw [h1]; decide), if_neg (by rw [h1]; decide), if_neg (by rw [h1]; decide), if_neg (by rw [h1]; decide), if_neg (by rw [h1]; decide), if_neg (by rw [h1]; decide), if_neg (by rw [h1]; decide), if_neg (by rw [h1]; decide), if_pos h1]) rfl
  · refine lv_tableOut (tgt := 136) hx hb d_LB_count_1 h1 (by decide) ?_
    refine lv_iconst (v := ((-1))) hx hb d_LB_count_136 (by decide) ?_
    exact x_iret hx hb hr hlk hK hP hS d_LB_count_137 (by unfold lbCnt; rw [if_neg (fun e => by rw [e] at h1; exact absurd h1 (by decide)), if_neg (fun e => by rw [e] at h1; exact absurd h1 (by decide)), if_neg (fun e => by rw [e] at h1; exact absurd h1 (by decide)), if_neg (fun e => by rw [e] at h1; exact absurd h1 (by decide)), if_neg (fun e => by rw [e] at h1; exact absurd h1 (by decide)), if_neg (fun e => by rw [e] at h1; exact absurd h1 (by decide)), if_neg (fun e => by rw [e] at h1; exact absurd h1 (by decide)), if_neg (fun e => by rw [e] at h1; exact absurd h1 (by decide)), if_neg (fun e => by rw [e] at h1; exact absurd h1 (by decide)), if_neg (fun e => by rw [e] at h1; exact absurd h1 (by decide))]) rfl
set_option maxHeartbeats 4000000 in
set_option maxRecDepth 100000 in
theorem c_LB_file (l : Launch) (D : va_G) (dA : Nat → ClassId) (ad : Nat → Nat) (nw : Nat) (hJ : Inj ad (obC nw)) (hnw : nw ≤ 4) (σ : Sg) (c : Int32) (hWf : Wf nw σ) : CI l D clX (tyX dA) (SC nw) ad dA (obC nw) NL y_LB_file w_LB_file { frames := 2, cells := 0, slots := 0, locals := 43 } [.ref (ad 0), .int c] σ ((if gN σ 31 55 < 10 then nI (gN σ 31 55) else -1)) (cFile σ c) := by
  refine x_of (WS := WS) (cc := b_LB_file) (maxL := 2) (ret := (some .int)) (by decide) rfl (Nat.le_of_ble_eq_true rfl) ?_
  intro pp ee ss mm below meth cdd hx hb hml hr hlk ht hown hnm hN hK hP ls hl
  have hl : lv_has ls 2 [(0, .ref (ad 0)), (1, .int c)] := hl
  have hS : va_S (Ad ad (obC nw)) ss.heap ss.heap [] := va_S.rf
  have hw := swfC hnw
  have hWn := hWf.n
  have hWq := hWf.q
  have hWit := hWf.it
  have hWbl := hWf.bl
  have hWrs := hWf.rs
  have hWlt := hWf.lt
  have hWln := hWf.ln
  refine lv_aload_n hx hb d_LB_file_0 rfl (lv_at hl 0 rfl) ?_
  refine x_get (v := .ref (ad 55)) (k := 1) hx hb ht xc_LB hown hK hP (mo (by decide)) rfl (by decide) fl_LB_21 rfl rfl rfl d_LB_file_1 ?_
  refine lv_iload_n hx hb d_LB_file_4 rfl (lv_at hl 1 rfl) ?_
  refine x_ci (x_rV (As := [.int c]) (rest := []) hx hb hml hown ht gW cs_LB_48 (c_Client_addFile l D dA ad nw hJ hnw σ c hWf) rfl rfl (by decide) xc_Client hN hK hP (mo (by decide)) rfl rfl hl.1 rfl (Nat.le_of_ble_eq_true rfl) d_LB_file_5 (by decide)) hS (fun H locs hP hS => ?_)
  have hWf : Wf nw (cFile σ c) := wf_file hWf
  exact x_iret hx hb hr hlk hK hP hS d_LB_file_8 rfl rfl
set_option maxHeartbeats 4000000 in
set_option maxRecDepth 100000 in
theorem c_LB_action (l : Launch) (D : va_G) (dA : Nat → ClassId) (ad : Nat → Nat) (nw : Nat) (hJ : Inj ad (obC nw)) (hnw : nw ≤ 4) (σ : Sg) (p : Int64) (a : Int32) (b : Int32) (hWf : Wf nw σ) : CI l D clX (tyX dA) (SC nw) ad dA (obC nw) NL y_LB_action w_LB_action { frames := 2, cells := 0, slots := 0, locals := 45 } [.ref (ad 0), .long p, .int a, .int b] σ ((if cActOk σ a b = true then nI (gN σ 31 55) else -1)) (cAct σ p a b) := by
  refine x_of (WS := WS) (cc := b_LB_action) (maxL := 5) (ret := (some .int)) (by decide) rfl (Nat.le_of_ble_eq_true rfl) ?_
  intro pp ee ss mm below meth cdd hx hb hml hr hlk ht hown hnm hN hK hP ls hl
  have hl : lv_has ls 5 [(0, .ref (ad 0)), (1, .long p), (3, .int a), (4, .int b)] := hl
  have hS : va_S (Ad ad (obC nw)) ss.heap ss.heap [] := va_S.rf
  have hw := swfC hnw
  have hWn := hWf.n
  have hWq := hWf.q
  have hWit := hWf.it
  have hWbl := hWf.bl
  have hWrs := hWf.rs
  have hWlt := hWf.lt
  have hWln := hWf.ln
  refine lv_aload_n hx hb d_LB_action_0 rfl (lv_at hl 0 rfl) ?_
  refine x_get (v := .ref (ad 55)) (k := 1) hx hb ht xc_LB hown hK hP (mo (by decide)) rfl (by decide) fl_LB_21 rfl rfl rfl d_LB_action_1 ?_
  refine lv_lload_n hx hb d_LB_action_4 rfl (lv_at hl 1 rfl) ?_
  refine lv_iload_n hx hb d_LB_action_5 rfl (lv_at hl 2 rfl) ?_
  refine lv_iload hx hb d_LB_action_6 (lv_at hl 3 rfl) ?_
  refine x_ci (x_rV (As := [.long p, .int a, .int b]) (rest := []) hx hb hml hown ht gW cs_LB_52 (c_Client_addAction l D dA ad nw hJ hnw σ p a b hWf) rfl rfl (by decide) xc_Client hN hK hP (mo (by decide)) rfl rfl hl.1 rfl (Nat.le_of_ble_eq_true rfl) d_LB_action_8 (by decide)) hS (fun H locs hP hS => ?_)
  have hWf : Wf nw (cAct σ p a b) := wf_act hWf
  exact x_iret hx hb hr hlk hK hP hS d_LB_action_11 rfl rfl
set_option maxHeartbeats 4000000 in
set_option maxRecDepth 100000 in
theorem c_LB_tick (l : Launch) (D : va_G) (dA : Nat → ClassId) (ad : Nat → Nat) (nw : Nat) (hJ : Inj ad (obC nw)) (hnw : nw ≤ 4) (σ : Sg)  (hWf : Wf nw σ) (ht9 : gN σ 4 0 + 1 < 2 ^ 29) : CI l D clX (tyX dA) (SC nw) ad dA (obC nw) NL y_LB_tick w_LB_tick { frames := 5, cells := 0, slots := 0, locals := 112 } [.ref (ad 0)] σ ((nI (gN (lbTick σ nw) 22 1) - nI (gN σ 22 1))) (lbTick σ nw) := by
  refine x_of (WS := WS) (cc := b_LB_tick) (maxL := 3) (ret := (some .int)) (by decide) rfl (Nat.le_of_ble_eq_true rfl) ?_
  intro pp ee ss mm below meth cdd hx hb hml hr hlk ht hown hnm hN hK hP ls hl
  have hl : lv_has ls 3 [(0, .ref (ad 0))] := hl
  have hS : va_S (Ad ad (obC nw)) ss.heap ss.heap [] := va_S.rf
  have hw := swfC hnw
  have hWn := hWf.n
  have hWq := hWf.q
  have hWit := hWf.it
  have hWbl := hWf.bl
  have hWrs := hWf.rs
  have hWlt := hWf.lt
  have hWln := hWf.ln
  have hW0 : Wf nw (sN σ 4 0 (gN σ 4 0 + 1)) := wf_N (by decide) hWf
  refine lv_aload_n hx hb d_LB_tick_0 rfl (lv_at hl 0 rfl) ?_
  refine x_get (v := .ref (ad 1)) (k := 0) hx hb ht xc_LB hown hK hP (mo (by decide)) rfl (by decide) fl_LB_12 rfl rfl rfl d_LB_tick_1 ?_
  refine x_get (v := .int (nI (gN σ 22 1))) (k := 4) hx hb ht xc_Flight hown hK hP (mo (by decide)) rfl (by decide) fl_LB_56 rfl rfl rfl d_LB_tick_4 ?_
  refine lv_istore_n (lv' := [(1, .int (nI (gN σ 22 1))), (0, .ref (ad 0))]) hx hb d_LB_tick_7 rfl hl (by decide) rfl (fun ls hl => ?_)
  refine lv_aload_n hx hb d_LB_tick_8 rfl (lv_at hl 1 rfl) ?_
  refine lv_dup hx hb d_LB_tick_9 rfl ?_
  refine x_get (v := .int (nI (gN σ 4 0))) (k := 4) hx hb ht xc_LB hown hK hP (mo (by decide)) rfl (by decide) fl_LB_41 rfl rfl rfl d_LB_tick_10 ?_
  refine lv_iconst (v := (nI 1)) hx hb d_LB_tick_13 (by decide) ?_
  refine x_iaddN hx hb d_LB_tick_14 ?_
  refine x_put (σ' := sN σ 4 0 ((gN σ 4 0) + 1)) (v := .int (nI ((gN σ 4 0) + 1))) (k := 4) hx hb ht xc_LB t_LB t_LB_ok n_LB hown hK hP hJ hw hS (mo (by decide)) rfl (by decide) fl_LB_41 rfl rfl rfl off_N rfl rfl rfl d_LB_tick_15 (fun H locs hP hS => ?_)
  have hWf : Wf nw (sN σ 4 0 ((gN σ 4 0) + 1)) := wf_N (by decide) hWf
  refine lv_iconst (v := (nI 0)) hx hb d_LB_tick_18 (by decide) ?_
  refine lv_istore_n (lv' := [(2, .int (nI 0)), (1, .int (nI (gN σ 22 1))), (0, .ref (ad 0))]) hx hb d_LB_tick_19 rfl hl (by decide) rfl (fun ls hl => ?_)
  refine x_loop (pc := 20) (α := Nat) (nL := 3) (fun i => nw - i) (fun i => wWorkN (sN σ 4 0 ((gN σ 4 0) + 1)) i) (fun i => [(2, .int (nI i)), (1, .int (nI (gN σ 22 1))), (0, .ref (ad 0))]) (fun i => i ≤ nw) ?_ 0 (Nat.zero_le _) hP hS (lv_sub hl [0, 1, 2] rfl)
  clear hP hS hl
  intro i hi H locs ls hP hS hl ih
  have hi : i ≤ nw := hi
  have hWf : Wf nw (wWorkN (sN σ 4 0 ((gN σ 4 0) + 1)) i) := wf_workN hW0 i
  have htm : gN (wWorkN (sN σ 4 0 ((gN σ 4 0) + 1)) i) 4 0 = gN σ 4 0 + 1 := workN_t _ i
  have hl : lv_has ls 3 [(2, .int (nI i)), (1, .int (nI (gN σ 22 1))), (0, .ref (ad 0))] := hl
  have hP : va_P D clX (wd (SC nw) ad dA (obC nw) (wWorkN (sN σ 4 0 ((gN σ 4 0) + 1)) i)) H := hP
  refine lv_iload_n hx hb d_LB_tick_20 rfl (lv_at hl 0 rfl) ?_
  refine lv_aload_n hx hb d_LB_tick_21 rfl (lv_at hl 2 rfl) ?_
  refine x_get (v := .ref (ad 99)) (k := 3) hx hb ht xc_LB hown hK hP (mo (by decide)) rfl (by decide) fl_LB_36 rfl rfl rfl d_LB_tick_22 ?_
  refine x_alen (κ := 115) (n := nw) hx hb hK hP (mo (by decide)) rfl (by decide) rfl rfl d_LB_tick_25 ?_
  refine x_icmp_geN (tgt := 48) hx hb d_LB_tick_26 (by decide) (by omega) (by omega) (fun h1 => ?_) (fun h1 => ?_)
  · rw [show i = nw by omega] at hP hWf htm
    refine lv_aload_n hx hb d_LB_tick_48 rfl (lv_at hl 2 rfl) ?_
    refine x_get (v := .ref (ad 63)) (k := 2) hx hb ht xc_LB hown hK hP (mo (by decide)) rfl (by decide) fl_LB_30 rfl rfl rfl d_LB_tick_49 ?_
    refine lv_aload_n hx hb d_LB_tick_52 rfl (lv_at hl 2 rfl) ?_
    refine x_get (v := .int (nI ((gN σ 4 0) + 1))) (k := 4) hx hb ht xc_LB hown hK hP (mo (by decide)) rfl (by decide) fl_LB_41 rfl rfl (congrArg (fun z => Value.int (nI z)) (workN_t (sN σ 4 0 ((gN σ 4 0) + 1)) nw)) d_LB_tick_53 ?_
    refine x_cv (x_rV (As := [.int (nI ((gN σ 4 0) + 1))]) (rest := []) hx hb hml hown ht gW cs_LB_62 (c_Server_keepTime l D dA ad nw hJ hnw (wWorkN (sN σ 4 0 ((gN σ 4 0) + 1)) nw) ((gN σ 4 0) + 1) hWf (by omega)) rfl rfl (by decide) xc_Server hN hK hP (mo (by decide)) rfl rfl hl.1 rfl (Nat.le_of_ble_eq_true rfl) d_LB_tick_56 (by decide)) hS (fun H locs hP hS => ?_)
    have hWf : Wf nw (sTime (wWorkN (sN σ 4 0 ((gN σ 4 0) + 1)) nw) nw ((gN σ 4 0) + 1)) := wf_time hnw (by omega) hWf
    refine lv_aload_n hx hb d_LB_tick_59 rfl (lv_at hl 2 rfl) ?_
    refine x_get (v := .ref (ad 55)) (k := 1) hx hb ht xc_LB hown hK hP (mo (by decide)) rfl (by decide) fl_LB_21 rfl rfl rfl d_LB_tick_60 ?_
    refine lv_aload_n hx hb d_LB_tick_63 rfl (lv_at hl 2 rfl) ?_
    refine x_get (v := .int (nI ((gN σ 4 0) + 1))) (k := 4) hx hb ht xc_LB hown hK hP (mo (by decide)) rfl (by decide) fl_LB_41 rfl rfl (congrArg (fun z => Value.int (nI z)) (Eq.trans (time_t (wWorkN (sN σ 4 0 ((gN σ 4 0) + 1)) nw) nw ((gN σ 4 0) + 1)) (workN_t (sN σ 4 0 ((gN σ 4 0) + 1)) nw))) d_LB_tick_64 ?_
    refine x_cv (x_rV (As := [.int (nI ((gN σ 4 0) + 1))]) (rest := []) hx hb hml hown ht gW cs_LB_66 (c_Client_askForReady l D dA ad nw hJ hnw (sTime (wWorkN (sN σ 4 0 ((gN σ 4 0) + 1)) nw) nw ((gN σ 4 0) + 1)) ((gN σ 4 0) + 1) hWf (by omega)) rfl rfl (by decide) xc_Client hN hK hP (mo (by decide)) rfl rfl hl.1 rfl (Nat.le_of_ble_eq_true rfl) d_LB_tick_67 (by decide)) hS (fun H locs hP hS => ?_)
    have hWf : Wf nw (cAskN (sTime (wWorkN (sN σ 4 0 ((gN σ 4 0) + 1)) nw) nw ((gN σ 4 0) + 1)) ((gN σ 4 0) + 1) (gN (sTime (wWorkN (sN σ 4 0 ((gN σ 4 0) + 1)) nw) nw ((gN σ 4 0) + 1)) 31 55)) := wf_askN hWf (by omega) _ hWf.it
    refine lv_aload_n hx hb d_LB_tick_70 rfl (lv_at hl 2 rfl) ?_
    refine x_get (v := .ref (ad 1)) (k := 0) hx hb ht xc_LB hown hK hP (mo (by decide)) rfl (by decide) fl_LB_12 rfl rfl rfl d_LB_tick_71 ?_
    refine x_get (v := .int (nI (gN (cAskN (sTime (wWorkN (sN σ 4 0 ((gN σ 4 0) + 1)) nw) nw ((gN σ 4 0) + 1)) ((gN σ 4 0) + 1) (gN (sTime (wWorkN (sN σ 4 0 ((gN σ 4 0) + 1)) nw) nw ((gN σ 4 0) + 1)) 31 55)) 22 1))) (k := 4) hx hb ht xc_Flight hown hK hP (mo (by decide)) rfl (by decide) fl_LB_56 rfl rfl rfl d_LB_tick_74 ?_
    refine lv_iload_n hx hb d_LB_tick_77 rfl (lv_at hl 1 rfl) ?_
    refine lv_isub hx hb d_LB_tick_78 ?_
    exact x_iret hx hb hr hlk hK hP hS d_LB_tick_79 rfl rfl
  · refine lv_aload_n hx hb d_LB_tick_29 rfl (lv_at hl 2 rfl) ?_
    refine x_get (v := .ref (ad 99)) (k := 3) hx hb ht xc_LB hown hK hP (mo (by decide)) rfl (by decide) fl_LB_36 rfl rfl rfl d_LB_tick_30 ?_
    refine lv_iload_n hx hb d_LB_tick_33 rfl (lv_at hl 0 rfl) ?_
    refine x_fald (κ := 115) (n := nw) hx hb hK hP (mo (by decide)) rfl (by decide) rfl rfl (by omega) (by omega) d_LB_tick_34 ?_
    refine W.eq (g2 := F0 mm 35 ls [.ref (ad (100 + 2 * i))]) rfl ?_
    refine lv_aload_n hx hb d_LB_tick_35 rfl (lv_at hl 2 rfl) ?_
    refine x_get (v := .ref (ad 1)) (k := 0) hx hb ht xc_LB hown hK hP (mo (by decide)) rfl (by decide) fl_LB_12 rfl rfl rfl d_LB_tick_36 ?_
    refine x_cv (x_rV (As := [.ref (ad 1)]) (rest := []) hx hb hml hown ht gW cs_LB_59 (c_Worker_work l D dA ad nw hJ hnw (wWorkN (sN σ 4 0 ((gN σ 4 0) + 1)) i) hWf i (by omega)) rfl rfl (by decide) xc_Worker hN hK hP (mo_wk (by omega)) (kd_wk (by omega)) rfl hl.1 rfl (Nat.le_of_ble_eq_true rfl) d_LB_tick_39 (by decide)) hS (fun H locs hP hS => ?_)
    have hWf : Wf nw (wWork (wWorkN (sN σ 4 0 ((gN σ 4 0) + 1)) i) (100 + 2 * i)) := wf_wWork hWf
    refine lv_iinc (lv' := [(2, .int (nI (i + 1))), (1, .int (nI (gN σ 22 1))), (0, .ref (ad 0))]) (v := (nI (i + 1))) hx hb d_LB_tick_42 hl (k := 0) rfl (nI_add _ _) (by decide) rfl (fun ls hl => ?_)
    refine lv_goto (tgt := 20) hx hb d_LB_tick_45 (by decide) ?_
    exact ih (i + 1) (by show i + 1 ≤ nw; omega) (by omega) H locs ls hP hS (lv_sub hl [0, 1, 2] rfl)
