abbrev b_Md_needed : ByteArray := prog_12_method_21_code
def y_Md_needed : MethodName := ⟨"LeasedBuildsModel", "needed", "(I)Z"⟩
def w_Md_needed : List Cond := .code y_Md_needed b_Md_needed 5 (some .boolean) :: WS
abbrev b_Md_collect : ByteArray := prog_12_method_22_code
def y_Md_collect : MethodName := ⟨"LeasedBuildsModel", "collect", "()I"⟩
def w_Md_collect : List Cond := .code y_Md_collect b_Md_collect 5 (some .int) :: WS
abbrev b_Md_fall : ByteArray := prog_12_method_23_code
def y_Md_fall : MethodName := ⟨"LeasedBuildsModel", "fall", "(I)V"⟩
def w_Md_fall : List Cond := .code y_Md_fall b_Md_fall 3 none :: WS
abbrev b_Md_crash : ByteArray := prog_12_method_24_code
def y_Md_crash : MethodName := ⟨"LeasedBuildsModel", "crash", "(I)Z"⟩
def w_Md_crash : List Cond := .code y_Md_crash b_Md_crash 2 (some .boolean) :: WS
abbrev b_Md_restart : ByteArray := prog_12_method_25_code
def y_Md_restart : MethodName := ⟨"LeasedBuildsModel", "restart", "(I)Z"⟩
def w_Md_restart : List Cond := .code y_Md_restart b_Md_restart 2 (some .boolean) :: WS
abbrev b_Md_mayWrite : ByteArray := prog_12_method_26_code
def y_Md_mayWrite : MethodName := ⟨"LeasedBuildsModel", "mayWrite", "(I)Z"⟩
def w_Md_mayWrite : List Cond := .code y_Md_mayWrite b_Md_mayWrite 2 (some .boolean) :: WS
abbrev b_Md_takePut : ByteArray := prog_12_method_30_code
def y_Md_takePut : MethodName := ⟨"LeasedBuildsModel", "takePut", "(III)V"⟩
def w_Md_takePut : List Cond := .code y_Md_takePut b_Md_takePut 4 none :: WS
abbrev b_Md_takeLease : ByteArray := prog_12_method_31_code
def y_Md_takeLease : MethodName := ⟨"LeasedBuildsModel", "takeLease", "(IIII)V"⟩
def w_Md_takeLease : List Cond := .code y_Md_takeLease b_Md_takeLease 5 none :: WS
abbrev b_Md_takeResult : ByteArray := prog_12_method_32_code
def y_Md_takeResult : MethodName := ⟨"LeasedBuildsModel", "takeResult", "(IIII)V"⟩
def w_Md_takeResult : List Cond := .code y_Md_takeResult b_Md_takeResult 5 none :: WS
abbrev b_Md_takeAsk : ByteArray := prog_12_method_28_code
def y_Md_takeAsk : MethodName := ⟨"LeasedBuildsModel", "takeAsk", "(II)V"⟩
def w_Md_takeAsk : List Cond := .code y_Md_takeAsk b_Md_takeAsk 6 none :: WS
abbrev b_Md_leased : ByteArray := prog_12_method_38_code
def y_Md_leased : MethodName := ⟨"LeasedBuildsModel", "leased", "(I)I"⟩
def w_Md_leased : List Cond := .code y_Md_leased b_Md_leased 3 (some .int) :: WS
abbrev b_Md_expire : ByteArray := prog_12_method_39_code
def y_Md_expire : MethodName := ⟨"LeasedBuildsModel", "expire", "(I)V"⟩
def w_Md_expire : List Cond := .code y_Md_expire b_Md_expire 3 none :: WS
abbrev b_Md_waiting : ByteArray := prog_12_method_41_code
def y_Md_waiting : MethodName := ⟨"LeasedBuildsModel", "waiting", "()I"⟩
def w_Md_waiting : List Cond := .code y_Md_waiting b_Md_waiting 3 (some .int) :: WS
abbrev b_Md_results : ByteArray := prog_12_method_45_code
def y_Md_results : MethodName := ⟨"LeasedBuildsModel", "results", "()I"⟩
def w_Md_results : List Cond := .code y_Md_results b_Md_results 3 (some .int) :: WS
abbrev b_Md_missing : ByteArray := prog_12_method_46_code
def y_Md_missing : MethodName := ⟨"LeasedBuildsModel", "missing", "()I"⟩
def w_Md_missing : List Cond := .code y_Md_missing b_Md_missing 3 (some .int) :: WS
abbrev b_Md_doing : ByteArray := prog_12_method_43_code
def y_Md_doing : MethodName := ⟨"LeasedBuildsModel", "doing", "(I)I"⟩
def w_Md_doing : List Cond := .code y_Md_doing b_Md_doing 2 (some .int) :: WS
abbrev b_Md_lease : ByteArray := prog_12_method_42_code
def y_Md_lease : MethodName := ⟨"LeasedBuildsModel", "lease", "(I)I"⟩
def w_Md_lease : List Cond := .code y_Md_lease b_Md_lease 3 (some .int) :: WS
abbrev b_Md_count : ByteArray := prog_12_method_44_code
def y_Md_count : MethodName := ⟨"LeasedBuildsModel", "count", "(I)I"⟩
def w_Md_count : List Cond := .code y_Md_count b_Md_count 2 (some .int) :: WS
abbrev b_Md_instruction : ByteArray := prog_12_method_35_code
def y_Md_instruction : MethodName := ⟨"LeasedBuildsModel", "instruction", "(JI)I"⟩
def w_Md_instruction : List Cond := .code y_Md_instruction b_Md_instruction 3 (some .int) :: WS
abbrev b_Md_act : ByteArray := prog_12_method_37_code
def y_Md_act : MethodName := ⟨"LeasedBuildsModel", "act", "(I)V"⟩
def w_Md_act : List Cond := .code y_Md_act b_Md_act 4 none :: WS
theorem d_Md_needed_0 : decode b_Md_needed 0 = .ok (.iconst 0, 1) := by decide +kernel
theorem d_Md_needed_1 : decode b_Md_needed 1 = .ok (.istore_n 2, 1) := by decide +kernel
theorem d_Md_needed_2 : decode b_Md_needed 2 = .ok (.iconst 0, 1) := by decide +kernel
theorem d_Md_needed_3 : decode b_Md_needed 3 = .ok (.istore_n 3, 1) := by decide +kernel
theorem d_Md_needed_4 : decode b_Md_needed 4 = .ok (.iload_n 3, 1) := by decide +kernel
theorem d_Md_needed_5 : decode b_Md_needed 5 = .ok (.aload_n 0, 1) := by decide +kernel
theorem d_Md_needed_6 : decode b_Md_needed 6 = .ok (.getfield 122, 3) := by decide +kernel
theorem d_Md_needed_9 : decode b_Md_needed 9 = .ok (.if_icmp .ge 88, 3) := by decide +kernel
theorem d_Md_needed_12 : decode b_Md_needed 12 = .ok (.aload_n 0, 1) := by decide +kernel
theorem d_Md_needed_13 : decode b_Md_needed 13 = .ok (.getfield 54, 3) := by decide +kernel
theorem d_Md_needed_16 : decode b_Md_needed 16 = .ok (.iload_n 3, 1) := by decide +kernel
theorem d_Md_needed_17 : decode b_Md_needed 17 = .ok (.iaload, 1) := by decide +kernel
theorem d_Md_needed_18 : decode b_Md_needed 18 = .ok (.ifCond .gt 12, 3) := by decide +kernel
theorem d_Md_needed_21 : decode b_Md_needed 21 = .ok (.aload_n 0, 1) := by decide +kernel
theorem d_Md_needed_22 : decode b_Md_needed 22 = .ok (.getfield 57, 3) := by decide +kernel
theorem d_Md_needed_25 : decode b_Md_needed 25 = .ok (.iload_n 3, 1) := by decide +kernel
theorem d_Md_needed_26 : decode b_Md_needed 26 = .ok (.iaload, 1) := by decide +kernel
theorem d_Md_needed_27 : decode b_Md_needed 27 = .ok (.ifCond .le 7, 3) := by decide +kernel
theorem d_Md_needed_30 : decode b_Md_needed 30 = .ok (.iconst 1, 1) := by decide +kernel
theorem d_Md_needed_31 : decode b_Md_needed 31 = .ok (.goto 4, 3) := by decide +kernel
theorem d_Md_needed_34 : decode b_Md_needed 34 = .ok (.iconst 0, 1) := by decide +kernel
theorem d_Md_needed_35 : decode b_Md_needed 35 = .ok (.istore 4, 2) := by decide +kernel
theorem d_Md_needed_37 : decode b_Md_needed 37 = .ok (.iload_n 2, 1) := by decide +kernel
theorem d_Md_needed_38 : decode b_Md_needed 38 = .ok (.ifCond .ne 47, 3) := by decide +kernel
theorem d_Md_needed_41 : decode b_Md_needed 41 = .ok (.aload_n 0, 1) := by decide +kernel
theorem d_Md_needed_42 : decode b_Md_needed 42 = .ok (.getfield 48, 3) := by decide +kernel
theorem d_Md_needed_45 : decode b_Md_needed 45 = .ok (.iload_n 3, 1) := by decide +kernel
theorem d_Md_needed_46 : decode b_Md_needed 46 = .ok (.baload, 1) := by decide +kernel
theorem d_Md_needed_47 : decode b_Md_needed 47 = .ok (.ifCond .eq 13, 3) := by decide +kernel
theorem d_Md_needed_50 : decode b_Md_needed 50 = .ok (.aload_n 0, 1) := by decide +kernel
theorem d_Md_needed_51 : decode b_Md_needed 51 = .ok (.getfield 51, 3) := by decide +kernel
theorem d_Md_needed_54 : decode b_Md_needed 54 = .ok (.iload_n 3, 1) := by decide +kernel
theorem d_Md_needed_55 : decode b_Md_needed 55 = .ok (.iaload, 1) := by decide +kernel
theorem d_Md_needed_56 : decode b_Md_needed 56 = .ok (.iload_n 1, 1) := by decide +kernel
theorem d_Md_needed_57 : decode b_Md_needed 57 = .ok (.if_icmp .eq 28, 3) := by decide +kernel
theorem d_Md_needed_60 : decode b_Md_needed 60 = .ok (.iload 4, 2) := by decide +kernel
theorem d_Md_needed_62 : decode b_Md_needed 62 = .ok (.ifCond .eq 27, 3) := by decide +kernel
theorem d_Md_needed_65 : decode b_Md_needed 65 = .ok (.aload_n 0, 1) := by decide +kernel
theorem d_Md_needed_66 : decode b_Md_needed 66 = .ok (.getfield 42, 3) := by decide +kernel
theorem d_Md_needed_69 : decode b_Md_needed 69 = .ok (.iload_n 3, 1) := by decide +kernel
theorem d_Md_needed_70 : decode b_Md_needed 70 = .ok (.iaload, 1) := by decide +kernel
theorem d_Md_needed_71 : decode b_Md_needed 71 = .ok (.iload_n 1, 1) := by decide +kernel
theorem d_Md_needed_72 : decode b_Md_needed 72 = .ok (.if_icmp .eq 13, 3) := by decide +kernel
theorem d_Md_needed_75 : decode b_Md_needed 75 = .ok (.aload_n 0, 1) := by decide +kernel
theorem d_Md_needed_76 : decode b_Md_needed 76 = .ok (.getfield 45, 3) := by decide +kernel
theorem d_Md_needed_79 : decode b_Md_needed 79 = .ok (.iload_n 3, 1) := by decide +kernel
theorem d_Md_needed_80 : decode b_Md_needed 80 = .ok (.iaload, 1) := by decide +kernel
theorem d_Md_needed_81 : decode b_Md_needed 81 = .ok (.iload_n 1, 1) := by decide +kernel
theorem d_Md_needed_82 : decode b_Md_needed 82 = .ok (.if_icmp .ne 7, 3) := by decide +kernel
theorem d_Md_needed_85 : decode b_Md_needed 85 = .ok (.iconst 1, 1) := by decide +kernel
theorem d_Md_needed_86 : decode b_Md_needed 86 = .ok (.goto 4, 3) := by decide +kernel
theorem d_Md_needed_89 : decode b_Md_needed 89 = .ok (.iconst 0, 1) := by decide +kernel
theorem d_Md_needed_90 : decode b_Md_needed 90 = .ok (.istore_n 2, 1) := by decide +kernel
theorem d_Md_needed_91 : decode b_Md_needed 91 = .ok (.iinc 3 1, 3) := by decide +kernel
theorem d_Md_needed_94 : decode b_Md_needed 94 = .ok (.goto (-90), 3) := by decide +kernel
theorem d_Md_needed_97 : decode b_Md_needed 97 = .ok (.iload_n 2, 1) := by decide +kernel
theorem d_Md_needed_98 : decode b_Md_needed 98 = .ok (.ireturn, 1) := by decide +kernel
theorem d_Md_collect_0 : decode b_Md_collect 0 = .ok (.aload_n 0, 1) := by decide +kernel
theorem d_Md_collect_1 : decode b_Md_collect 1 = .ok (.getfield 7, 3) := by decide +kernel
theorem d_Md_collect_4 : decode b_Md_collect 4 = .ok (.iconst 0, 1) := by decide +kernel
theorem d_Md_collect_5 : decode b_Md_collect 5 = .ok (.baload, 1) := by decide +kernel
theorem d_Md_collect_6 : decode b_Md_collect 6 = .ok (.ifCond .eq 5, 3) := by decide +kernel
theorem d_Md_collect_9 : decode b_Md_collect 9 = .ok (.iconst (-1), 1) := by decide +kernel
theorem d_Md_collect_10 : decode b_Md_collect 10 = .ok (.ireturn, 1) := by decide +kernel
theorem d_Md_collect_11 : decode b_Md_collect 11 = .ok (.iconst 0, 1) := by decide +kernel
theorem d_Md_collect_12 : decode b_Md_collect 12 = .ok (.istore_n 1, 1) := by decide +kernel
theorem d_Md_collect_13 : decode b_Md_collect 13 = .ok (.aload_n 0, 1) := by decide +kernel
theorem d_Md_collect_14 : decode b_Md_collect 14 = .ok (.getfield 147, 3) := by decide +kernel
theorem d_Md_collect_17 : decode b_Md_collect 17 = .ok (.istore_n 2, 1) := by decide +kernel
theorem d_Md_collect_18 : decode b_Md_collect 18 = .ok (.iconst 0, 1) := by decide +kernel
theorem d_Md_collect_19 : decode b_Md_collect 19 = .ok (.istore_n 3, 1) := by decide +kernel
theorem d_Md_collect_20 : decode b_Md_collect 20 = .ok (.iload_n 3, 1) := by decide +kernel
theorem d_Md_collect_21 : decode b_Md_collect 21 = .ok (.iload_n 2, 1) := by decide +kernel
theorem d_Md_collect_22 : decode b_Md_collect 22 = .ok (.if_icmp .ge 45, 3) := by decide +kernel
theorem d_Md_collect_25 : decode b_Md_collect 25 = .ok (.aload_n 0, 1) := by decide +kernel
theorem d_Md_collect_26 : decode b_Md_collect 26 = .ok (.aload_n 0, 1) := by decide +kernel
theorem d_Md_collect_27 : decode b_Md_collect 27 = .ok (.getfield 63, 3) := by decide +kernel
theorem d_Md_collect_30 : decode b_Md_collect 30 = .ok (.iload_n 3, 1) := by decide +kernel
theorem d_Md_collect_31 : decode b_Md_collect 31 = .ok (.iaload, 1) := by decide +kernel
theorem d_Md_collect_32 : decode b_Md_collect 32 = .ok (.invokevirtual 118, 3) := by decide +kernel
theorem d_Md_collect_35 : decode b_Md_collect 35 = .ok (.istore 4, 2) := by decide +kernel
theorem d_Md_collect_37 : decode b_Md_collect 37 = .ok (.aload_n 0, 1) := by decide +kernel
theorem d_Md_collect_38 : decode b_Md_collect 38 = .ok (.iload 4, 2) := by decide +kernel
theorem d_Md_collect_40 : decode b_Md_collect 40 = .ok (.invokevirtual 153, 3) := by decide +kernel
theorem d_Md_collect_43 : decode b_Md_collect 43 = .ok (.ifCond .eq 18, 3) := by decide +kernel
theorem d_Md_collect_46 : decode b_Md_collect 46 = .ok (.aload_n 0, 1) := by decide +kernel
theorem d_Md_collect_47 : decode b_Md_collect 47 = .ok (.getfield 63, 3) := by decide +kernel
theorem d_Md_collect_50 : decode b_Md_collect 50 = .ok (.iload_n 1, 1) := by decide +kernel
theorem d_Md_collect_51 : decode b_Md_collect 51 = .ok (.aload_n 0, 1) := by decide +kernel
theorem d_Md_collect_52 : decode b_Md_collect 52 = .ok (.getfield 63, 3) := by decide +kernel
theorem d_Md_collect_55 : decode b_Md_collect 55 = .ok (.iload_n 3, 1) := by decide +kernel
theorem d_Md_collect_56 : decode b_Md_collect 56 = .ok (.iaload, 1) := by decide +kernel
theorem d_Md_collect_57 : decode b_Md_collect 57 = .ok (.iastore, 1) := by decide +kernel
theorem d_Md_collect_58 : decode b_Md_collect 58 = .ok (.iinc 1 1, 3) := by decide +kernel
theorem d_Md_collect_61 : decode b_Md_collect 61 = .ok (.iinc 3 1, 3) := by decide +kernel
theorem d_Md_collect_64 : decode b_Md_collect 64 = .ok (.goto (-44), 3) := by decide +kernel
theorem d_Md_collect_67 : decode b_Md_collect 67 = .ok (.aload_n 0, 1) := by decide +kernel
theorem d_Md_collect_68 : decode b_Md_collect 68 = .ok (.iload_n 1, 1) := by decide +kernel
theorem d_Md_collect_69 : decode b_Md_collect 69 = .ok (.putfield 147, 3) := by decide +kernel
theorem d_Md_collect_72 : decode b_Md_collect 72 = .ok (.iload_n 2, 1) := by decide +kernel
theorem d_Md_collect_73 : decode b_Md_collect 73 = .ok (.iload_n 1, 1) := by decide +kernel
theorem d_Md_collect_74 : decode b_Md_collect 74 = .ok (.isub, 1) := by decide +kernel
theorem d_Md_collect_75 : decode b_Md_collect 75 = .ok (.ireturn, 1) := by decide +kernel
theorem d_Md_fall_0 : decode b_Md_fall 0 = .ok (.aload_n 0, 1) := by decide +kernel
theorem d_Md_fall_1 : decode b_Md_fall 1 = .ok (.getfield 7, 3) := by decide +kernel
theorem d_Md_fall_4 : decode b_Md_fall 4 = .ok (.iload_n 1, 1) := by decide +kernel
theorem d_Md_fall_5 : decode b_Md_fall 5 = .ok (.iconst 1, 1) := by decide +kernel
theorem d_Md_fall_6 : decode b_Md_fall 6 = .ok (.bastore, 1) := by decide +kernel
theorem d_Md_fall_7 : decode b_Md_fall 7 = .ok (.iload_n 1, 1) := by decide +kernel
theorem d_Md_fall_8 : decode b_Md_fall 8 = .ok (.ifCond .le 10, 3) := by decide +kernel
theorem d_Md_fall_11 : decode b_Md_fall 11 = .ok (.aload_n 0, 1) := by decide +kernel
theorem d_Md_fall_12 : decode b_Md_fall 12 = .ok (.getfield 66, 3) := by decide +kernel
theorem d_Md_fall_15 : decode b_Md_fall 15 = .ok (.iload_n 1, 1) := by decide +kernel
theorem d_Md_fall_16 : decode b_Md_fall 16 = .ok (.iconst 0, 1) := by decide +kernel
theorem d_Md_fall_17 : decode b_Md_fall 17 = .ok (.iastore, 1) := by decide +kernel
theorem d_Md_fall_18 : decode b_Md_fall 18 = .ok (.iconst 0, 1) := by decide +kernel
theorem d_Md_fall_19 : decode b_Md_fall 19 = .ok (.istore_n 2, 1) := by decide +kernel
theorem d_Md_fall_20 : decode b_Md_fall 20 = .ok (.iload_n 2, 1) := by decide +kernel
theorem d_Md_fall_21 : decode b_Md_fall 21 = .ok (.aload_n 0, 1) := by decide +kernel
theorem d_Md_fall_22 : decode b_Md_fall 22 = .ok (.getfield 122, 3) := by decide +kernel
theorem d_Md_fall_25 : decode b_Md_fall 25 = .ok (.if_icmp .ge 27, 3) := by decide +kernel
theorem d_Md_fall_28 : decode b_Md_fall 28 = .ok (.iload_n 1, 1) := by decide +kernel
theorem d_Md_fall_29 : decode b_Md_fall 29 = .ok (.ifCond .ne 23, 3) := by decide +kernel
theorem d_Md_fall_32 : decode b_Md_fall 32 = .ok (.aload_n 0, 1) := by decide +kernel
theorem d_Md_fall_33 : decode b_Md_fall 33 = .ok (.getfield 54, 3) := by decide +kernel
theorem d_Md_fall_36 : decode b_Md_fall 36 = .ok (.iload_n 2, 1) := by decide +kernel
theorem d_Md_fall_37 : decode b_Md_fall 37 = .ok (.iconst 0, 1) := by decide +kernel
theorem d_Md_fall_38 : decode b_Md_fall 38 = .ok (.iastore, 1) := by decide +kernel
theorem d_Md_fall_39 : decode b_Md_fall 39 = .ok (.aload_n 0, 1) := by decide +kernel
theorem d_Md_fall_40 : decode b_Md_fall 40 = .ok (.getfield 57, 3) := by decide +kernel
theorem d_Md_fall_43 : decode b_Md_fall 43 = .ok (.iload_n 2, 1) := by decide +kernel
theorem d_Md_fall_44 : decode b_Md_fall 44 = .ok (.iconst 0, 1) := by decide +kernel
theorem d_Md_fall_45 : decode b_Md_fall 45 = .ok (.iastore, 1) := by decide +kernel
theorem d_Md_fall_46 : decode b_Md_fall 46 = .ok (.iinc 2 1, 3) := by decide +kernel
theorem d_Md_fall_49 : decode b_Md_fall 49 = .ok (.goto (-29), 3) := by decide +kernel
theorem d_Md_fall_52 : decode b_Md_fall 52 = .ok (.aload_n 0, 1) := by decide +kernel
theorem d_Md_fall_53 : decode b_Md_fall 53 = .ok (.iload_n 1, 1) := by decide +kernel
theorem d_Md_fall_54 : decode b_Md_fall 54 = .ok (.ifCond .ne 7, 3) := by decide +kernel
theorem d_Md_fall_57 : decode b_Md_fall 57 = .ok (.iconst 0, 1) := by decide +kernel
theorem d_Md_fall_58 : decode b_Md_fall 58 = .ok (.goto 7, 3) := by decide +kernel
theorem d_Md_fall_61 : decode b_Md_fall 61 = .ok (.aload_n 0, 1) := by decide +kernel
theorem d_Md_fall_62 : decode b_Md_fall 62 = .ok (.getfield 156, 3) := by decide +kernel
theorem d_Md_fall_65 : decode b_Md_fall 65 = .ok (.putfield 156, 3) := by decide +kernel
theorem d_Md_fall_68 : decode b_Md_fall 68 = .ok (.return_, 1) := by decide +kernel
theorem d_Md_crash_0 : decode b_Md_crash 0 = .ok (.iload_n 1, 1) := by decide +kernel
theorem d_Md_crash_1 : decode b_Md_crash 1 = .ok (.ifCond .lt 20, 3) := by decide +kernel
theorem d_Md_crash_4 : decode b_Md_crash 4 = .ok (.iload_n 1, 1) := by decide +kernel
theorem d_Md_crash_5 : decode b_Md_crash 5 = .ok (.aload_n 0, 1) := by decide +kernel
theorem d_Md_crash_6 : decode b_Md_crash 6 = .ok (.getfield 102, 3) := by decide +kernel
theorem d_Md_crash_9 : decode b_Md_crash 9 = .ok (.if_icmp .gt 12, 3) := by decide +kernel
theorem d_Md_crash_12 : decode b_Md_crash 12 = .ok (.aload_n 0, 1) := by decide +kernel
theorem d_Md_crash_13 : decode b_Md_crash 13 = .ok (.getfield 7, 3) := by decide +kernel
theorem d_Md_crash_16 : decode b_Md_crash 16 = .ok (.iload_n 1, 1) := by decide +kernel
theorem d_Md_crash_17 : decode b_Md_crash 17 = .ok (.baload, 1) := by decide +kernel
theorem d_Md_crash_18 : decode b_Md_crash 18 = .ok (.ifCond .eq 5, 3) := by decide +kernel
theorem d_Md_crash_21 : decode b_Md_crash 21 = .ok (.iconst 0, 1) := by decide +kernel
theorem d_Md_crash_22 : decode b_Md_crash 22 = .ok (.ireturn, 1) := by decide +kernel
theorem d_Md_crash_23 : decode b_Md_crash 23 = .ok (.aload_n 0, 1) := by decide +kernel
theorem d_Md_crash_24 : decode b_Md_crash 24 = .ok (.iload_n 1, 1) := by decide +kernel
theorem d_Md_crash_25 : decode b_Md_crash 25 = .ok (.invokevirtual 159, 3) := by decide +kernel
theorem d_Md_crash_28 : decode b_Md_crash 28 = .ok (.iconst 1, 1) := by decide +kernel
theorem d_Md_crash_29 : decode b_Md_crash 29 = .ok (.ireturn, 1) := by decide +kernel
theorem d_Md_restart_0 : decode b_Md_restart 0 = .ok (.iload_n 1, 1) := by decide +kernel
theorem d_Md_restart_1 : decode b_Md_restart 1 = .ok (.ifCond .lt 20, 3) := by decide +kernel
theorem d_Md_restart_4 : decode b_Md_restart 4 = .ok (.iload_n 1, 1) := by decide +kernel
theorem d_Md_restart_5 : decode b_Md_restart 5 = .ok (.aload_n 0, 1) := by decide +kernel
theorem d_Md_restart_6 : decode b_Md_restart 6 = .ok (.getfield 102, 3) := by decide +kernel
theorem d_Md_restart_9 : decode b_Md_restart 9 = .ok (.if_icmp .gt 12, 3) := by decide +kernel
theorem d_Md_restart_12 : decode b_Md_restart 12 = .ok (.aload_n 0, 1) := by decide +kernel
theorem d_Md_restart_13 : decode b_Md_restart 13 = .ok (.getfield 7, 3) := by decide +kernel
theorem d_Md_restart_16 : decode b_Md_restart 16 = .ok (.iload_n 1, 1) := by decide +kernel
theorem d_Md_restart_17 : decode b_Md_restart 17 = .ok (.baload, 1) := by decide +kernel
theorem d_Md_restart_18 : decode b_Md_restart 18 = .ok (.ifCond .ne 5, 3) := by decide +kernel
theorem d_Md_restart_21 : decode b_Md_restart 21 = .ok (.iconst 0, 1) := by decide +kernel
theorem d_Md_restart_22 : decode b_Md_restart 22 = .ok (.ireturn, 1) := by decide +kernel
theorem d_Md_restart_23 : decode b_Md_restart 23 = .ok (.aload_n 0, 1) := by decide +kernel
theorem d_Md_restart_24 : decode b_Md_restart 24 = .ok (.getfield 7, 3) := by decide +kernel
theorem d_Md_restart_27 : decode b_Md_restart 27 = .ok (.iload_n 1, 1) := by decide +kernel
theorem d_Md_restart_28 : decode b_Md_restart 28 = .ok (.iconst 0, 1) := by decide +kernel
theorem d_Md_restart_29 : decode b_Md_restart 29 = .ok (.bastore, 1) := by decide +kernel
theorem d_Md_restart_30 : decode b_Md_restart 30 = .ok (.iconst 1, 1) := by decide +kernel
theorem d_Md_restart_31 : decode b_Md_restart 31 = .ok (.ireturn, 1) := by decide +kernel
theorem d_Md_mayWrite_0 : decode b_Md_mayWrite 0 = .ok (.iload_n 1, 1) := by decide +kernel
theorem d_Md_mayWrite_1 : decode b_Md_mayWrite 1 = .ok (.ifCond .lt 28, 3) := by decide +kernel
theorem d_Md_mayWrite_4 : decode b_Md_mayWrite 4 = .ok (.aload_n 0, 1) := by decide +kernel
theorem d_Md_mayWrite_5 : decode b_Md_mayWrite 5 = .ok (.getfield 163, 3) := by decide +kernel
theorem d_Md_mayWrite_8 : decode b_Md_mayWrite 8 = .ok (.iload_n 1, 1) := by decide +kernel
theorem d_Md_mayWrite_9 : decode b_Md_mayWrite 9 = .ok (.if_icmp .lt 20, 3) := by decide +kernel
theorem d_Md_mayWrite_12 : decode b_Md_mayWrite 12 = .ok (.aload_n 0, 1) := by decide +kernel
theorem d_Md_mayWrite_13 : decode b_Md_mayWrite 13 = .ok (.iconst 0, 1) := by decide +kernel
theorem d_Md_mayWrite_14 : decode b_Md_mayWrite 14 = .ok (.invokevirtual 159, 3) := by decide +kernel
theorem d_Md_mayWrite_17 : decode b_Md_mayWrite 17 = .ok (.aload_n 0, 1) := by decide +kernel
theorem d_Md_mayWrite_18 : decode b_Md_mayWrite 18 = .ok (.dup, 1) := by decide +kernel
theorem d_Md_mayWrite_19 : decode b_Md_mayWrite 19 = .ok (.getfield 166, 3) := by decide +kernel
theorem d_Md_mayWrite_22 : decode b_Md_mayWrite 22 = .ok (.iconst 1, 1) := by decide +kernel
theorem d_Md_mayWrite_23 : decode b_Md_mayWrite 23 = .ok (.iadd, 1) := by decide +kernel
theorem d_Md_mayWrite_24 : decode b_Md_mayWrite 24 = .ok (.putfield 166, 3) := by decide +kernel
theorem d_Md_mayWrite_27 : decode b_Md_mayWrite 27 = .ok (.iconst 0, 1) := by decide +kernel
theorem d_Md_mayWrite_28 : decode b_Md_mayWrite 28 = .ok (.ireturn, 1) := by decide +kernel
theorem d_Md_mayWrite_29 : decode b_Md_mayWrite 29 = .ok (.aload_n 0, 1) := by decide +kernel
theorem d_Md_mayWrite_30 : decode b_Md_mayWrite 30 = .ok (.dup, 1) := by decide +kernel
theorem d_Md_mayWrite_31 : decode b_Md_mayWrite 31 = .ok (.getfield 163, 3) := by decide +kernel
theorem d_Md_mayWrite_34 : decode b_Md_mayWrite 34 = .ok (.iconst 1, 1) := by decide +kernel
theorem d_Md_mayWrite_35 : decode b_Md_mayWrite 35 = .ok (.iadd, 1) := by decide +kernel
theorem d_Md_mayWrite_36 : decode b_Md_mayWrite 36 = .ok (.putfield 163, 3) := by decide +kernel
theorem d_Md_mayWrite_39 : decode b_Md_mayWrite 39 = .ok (.iconst 1, 1) := by decide +kernel
theorem d_Md_mayWrite_40 : decode b_Md_mayWrite 40 = .ok (.ireturn, 1) := by decide +kernel
theorem d_Md_takePut_0 : decode b_Md_takePut 0 = .ok (.aload_n 0, 1) := by decide +kernel
theorem d_Md_takePut_1 : decode b_Md_takePut 1 = .ok (.iload_n 1, 1) := by decide +kernel
theorem d_Md_takePut_2 : decode b_Md_takePut 2 = .ok (.invokevirtual 150, 3) := by decide +kernel
theorem d_Md_takePut_5 : decode b_Md_takePut 5 = .ok (.ifCond .ge 11, 3) := by decide +kernel
theorem d_Md_takePut_8 : decode b_Md_takePut 8 = .ok (.aload_n 0, 1) := by decide +kernel
theorem d_Md_takePut_9 : decode b_Md_takePut 9 = .ok (.iload_n 3, 1) := by decide +kernel
theorem d_Md_takePut_10 : decode b_Md_takePut 10 = .ok (.invokevirtual 205, 3) := by decide +kernel
theorem d_Md_takePut_13 : decode b_Md_takePut 13 = .ok (.ifCond .ne 4, 3) := by decide +kernel
theorem d_Md_takePut_16 : decode b_Md_takePut 16 = .ok (.return_, 1) := by decide +kernel
theorem d_Md_takePut_17 : decode b_Md_takePut 17 = .ok (.aload_n 0, 1) := by decide +kernel
theorem d_Md_takePut_18 : decode b_Md_takePut 18 = .ok (.getfield 63, 3) := by decide +kernel
theorem d_Md_takePut_21 : decode b_Md_takePut 21 = .ok (.aload_n 0, 1) := by decide +kernel
theorem d_Md_takePut_22 : decode b_Md_takePut 22 = .ok (.getfield 147, 3) := by decide +kernel
theorem d_Md_takePut_25 : decode b_Md_takePut 25 = .ok (.iload_n 2, 1) := by decide +kernel
theorem d_Md_takePut_26 : decode b_Md_takePut 26 = .ok (.iastore, 1) := by decide +kernel
theorem d_Md_takePut_27 : decode b_Md_takePut 27 = .ok (.aload_n 0, 1) := by decide +kernel
theorem d_Md_takePut_28 : decode b_Md_takePut 28 = .ok (.dup, 1) := by decide +kernel
theorem d_Md_takePut_29 : decode b_Md_takePut 29 = .ok (.getfield 147, 3) := by decide +kernel
theorem d_Md_takePut_32 : decode b_Md_takePut 32 = .ok (.iconst 1, 1) := by decide +kernel
theorem d_Md_takePut_33 : decode b_Md_takePut 33 = .ok (.iadd, 1) := by decide +kernel
theorem d_Md_takePut_34 : decode b_Md_takePut 34 = .ok (.putfield 147, 3) := by decide +kernel
theorem d_Md_takePut_37 : decode b_Md_takePut 37 = .ok (.aload_n 0, 1) := by decide +kernel
theorem d_Md_takePut_38 : decode b_Md_takePut 38 = .ok (.dup, 1) := by decide +kernel
theorem d_Md_takePut_39 : decode b_Md_takePut 39 = .ok (.getfield 208, 3) := by decide +kernel
theorem d_Md_takePut_42 : decode b_Md_takePut 42 = .ok (.iconst 1, 1) := by decide +kernel
theorem d_Md_takePut_43 : decode b_Md_takePut 43 = .ok (.iadd, 1) := by decide +kernel
theorem d_Md_takePut_44 : decode b_Md_takePut 44 = .ok (.putfield 208, 3) := by decide +kernel
theorem d_Md_takePut_47 : decode b_Md_takePut 47 = .ok (.return_, 1) := by decide +kernel
theorem d_Md_takeLease_0 : decode b_Md_takeLease 0 = .ok (.aload_n 0, 1) := by decide +kernel
theorem d_Md_takeLease_1 : decode b_Md_takeLease 1 = .ok (.getfield 66, 3) := by decide +kernel
theorem d_Md_takeLease_4 : decode b_Md_takeLease 4 = .ok (.iload_n 1, 1) := by decide +kernel
theorem d_Md_takeLease_5 : decode b_Md_takeLease 5 = .ok (.iload_n 2, 1) := by decide +kernel
theorem d_Md_takeLease_6 : decode b_Md_takeLease 6 = .ok (.iconst 1, 1) := by decide +kernel
theorem d_Md_takeLease_7 : decode b_Md_takeLease 7 = .ok (.iadd, 1) := by decide +kernel
theorem d_Md_takeLease_8 : decode b_Md_takeLease 8 = .ok (.iastore, 1) := by decide +kernel
theorem d_Md_takeLease_9 : decode b_Md_takeLease 9 = .ok (.aload_n 0, 1) := by decide +kernel
theorem d_Md_takeLease_10 : decode b_Md_takeLease 10 = .ok (.getfield 69, 3) := by decide +kernel
theorem d_Md_takeLease_13 : decode b_Md_takeLease 13 = .ok (.iload_n 1, 1) := by decide +kernel
theorem d_Md_takeLease_14 : decode b_Md_takeLease 14 = .ok (.iload_n 3, 1) := by decide +kernel
theorem d_Md_takeLease_15 : decode b_Md_takeLease 15 = .ok (.iastore, 1) := by decide +kernel
theorem d_Md_takeLease_16 : decode b_Md_takeLease 16 = .ok (.aload_n 0, 1) := by decide +kernel
theorem d_Md_takeLease_17 : decode b_Md_takeLease 17 = .ok (.getfield 72, 3) := by decide +kernel
theorem d_Md_takeLease_20 : decode b_Md_takeLease 20 = .ok (.iload_n 1, 1) := by decide +kernel
theorem d_Md_takeLease_21 : decode b_Md_takeLease 21 = .ok (.iload 4, 2) := by decide +kernel
theorem d_Md_takeLease_23 : decode b_Md_takeLease 23 = .ok (.iastore, 1) := by decide +kernel
theorem d_Md_takeLease_24 : decode b_Md_takeLease 24 = .ok (.aload_n 0, 1) := by decide +kernel
theorem d_Md_takeLease_25 : decode b_Md_takeLease 25 = .ok (.getfield 75, 3) := by decide +kernel
theorem d_Md_takeLease_28 : decode b_Md_takeLease 28 = .ok (.iload_n 1, 1) := by decide +kernel
theorem d_Md_takeLease_29 : decode b_Md_takeLease 29 = .ok (.iconst 0, 1) := by decide +kernel
theorem d_Md_takeLease_30 : decode b_Md_takeLease 30 = .ok (.iastore, 1) := by decide +kernel
theorem d_Md_takeLease_31 : decode b_Md_takeLease 31 = .ok (.return_, 1) := by decide +kernel
theorem d_Md_takeResult_0 : decode b_Md_takeResult 0 = .ok (.aload_n 0, 1) := by decide +kernel
theorem d_Md_takeResult_1 : decode b_Md_takeResult 1 = .ok (.getfield 48, 3) := by decide +kernel
theorem d_Md_takeResult_4 : decode b_Md_takeResult 4 = .ok (.iload_n 1, 1) := by decide +kernel
theorem d_Md_takeResult_5 : decode b_Md_takeResult 5 = .ok (.baload, 1) := by decide +kernel
theorem d_Md_takeResult_6 : decode b_Md_takeResult 6 = .ok (.ifCond .eq 14, 3) := by decide +kernel
theorem d_Md_takeResult_9 : decode b_Md_takeResult 9 = .ok (.aload_n 0, 1) := by decide +kernel
theorem d_Md_takeResult_10 : decode b_Md_takeResult 10 = .ok (.dup, 1) := by decide +kernel
theorem d_Md_takeResult_11 : decode b_Md_takeResult 11 = .ok (.getfield 211, 3) := by decide +kernel
theorem d_Md_takeResult_14 : decode b_Md_takeResult 14 = .ok (.iconst 1, 1) := by decide +kernel
theorem d_Md_takeResult_15 : decode b_Md_takeResult 15 = .ok (.iadd, 1) := by decide +kernel
theorem d_Md_takeResult_16 : decode b_Md_takeResult 16 = .ok (.putfield 211, 3) := by decide +kernel
theorem d_Md_takeResult_19 : decode b_Md_takeResult 19 = .ok (.return_, 1) := by decide +kernel
theorem d_Md_takeResult_20 : decode b_Md_takeResult 20 = .ok (.aload_n 0, 1) := by decide +kernel
theorem d_Md_takeResult_21 : decode b_Md_takeResult 21 = .ok (.iload_n 2, 1) := by decide +kernel
theorem d_Md_takeResult_22 : decode b_Md_takeResult 22 = .ok (.invokevirtual 150, 3) := by decide +kernel
theorem d_Md_takeResult_25 : decode b_Md_takeResult 25 = .ok (.ifCond .ge 33, 3) := by decide +kernel
theorem d_Md_takeResult_28 : decode b_Md_takeResult 28 = .ok (.aload_n 0, 1) := by decide +kernel
theorem d_Md_takeResult_29 : decode b_Md_takeResult 29 = .ok (.iload 4, 2) := by decide +kernel
theorem d_Md_takeResult_31 : decode b_Md_takeResult 31 = .ok (.invokevirtual 205, 3) := by decide +kernel
theorem d_Md_takeResult_34 : decode b_Md_takeResult 34 = .ok (.ifCond .ne 4, 3) := by decide +kernel
theorem d_Md_takeResult_37 : decode b_Md_takeResult 37 = .ok (.return_, 1) := by decide +kernel
theorem d_Md_takeResult_38 : decode b_Md_takeResult 38 = .ok (.aload_n 0, 1) := by decide +kernel
theorem d_Md_takeResult_39 : decode b_Md_takeResult 39 = .ok (.getfield 63, 3) := by decide +kernel
theorem d_Md_takeResult_42 : decode b_Md_takeResult 42 = .ok (.aload_n 0, 1) := by decide +kernel
theorem d_Md_takeResult_43 : decode b_Md_takeResult 43 = .ok (.getfield 147, 3) := by decide +kernel
theorem d_Md_takeResult_46 : decode b_Md_takeResult 46 = .ok (.iload_n 3, 1) := by decide +kernel
theorem d_Md_takeResult_47 : decode b_Md_takeResult 47 = .ok (.iastore, 1) := by decide +kernel
theorem d_Md_takeResult_48 : decode b_Md_takeResult 48 = .ok (.aload_n 0, 1) := by decide +kernel
theorem d_Md_takeResult_49 : decode b_Md_takeResult 49 = .ok (.dup, 1) := by decide +kernel
theorem d_Md_takeResult_50 : decode b_Md_takeResult 50 = .ok (.getfield 147, 3) := by decide +kernel
theorem d_Md_takeResult_53 : decode b_Md_takeResult 53 = .ok (.iconst 1, 1) := by decide +kernel
theorem d_Md_takeResult_54 : decode b_Md_takeResult 54 = .ok (.iadd, 1) := by decide +kernel
theorem d_Md_takeResult_55 : decode b_Md_takeResult 55 = .ok (.putfield 147, 3) := by decide +kernel
theorem d_Md_takeResult_58 : decode b_Md_takeResult 58 = .ok (.aload_n 0, 1) := by decide +kernel
theorem d_Md_takeResult_59 : decode b_Md_takeResult 59 = .ok (.iload 4, 2) := by decide +kernel
theorem d_Md_takeResult_61 : decode b_Md_takeResult 61 = .ok (.invokevirtual 205, 3) := by decide +kernel
theorem d_Md_takeResult_64 : decode b_Md_takeResult 64 = .ok (.ifCond .ne 4, 3) := by decide +kernel
theorem d_Md_takeResult_67 : decode b_Md_takeResult 67 = .ok (.return_, 1) := by decide +kernel
theorem d_Md_takeResult_68 : decode b_Md_takeResult 68 = .ok (.aload_n 0, 1) := by decide +kernel
theorem d_Md_takeResult_69 : decode b_Md_takeResult 69 = .ok (.getfield 48, 3) := by decide +kernel
theorem d_Md_takeResult_72 : decode b_Md_takeResult 72 = .ok (.iload_n 1, 1) := by decide +kernel
theorem d_Md_takeResult_73 : decode b_Md_takeResult 73 = .ok (.iconst 1, 1) := by decide +kernel
theorem d_Md_takeResult_74 : decode b_Md_takeResult 74 = .ok (.bastore, 1) := by decide +kernel
theorem d_Md_takeResult_75 : decode b_Md_takeResult 75 = .ok (.aload_n 0, 1) := by decide +kernel
theorem d_Md_takeResult_76 : decode b_Md_takeResult 76 = .ok (.getfield 51, 3) := by decide +kernel
theorem d_Md_takeResult_79 : decode b_Md_takeResult 79 = .ok (.iload_n 1, 1) := by decide +kernel
theorem d_Md_takeResult_80 : decode b_Md_takeResult 80 = .ok (.iload_n 2, 1) := by decide +kernel
theorem d_Md_takeResult_81 : decode b_Md_takeResult 81 = .ok (.iastore, 1) := by decide +kernel
theorem d_Md_takeResult_82 : decode b_Md_takeResult 82 = .ok (.aload_n 0, 1) := by decide +kernel
theorem d_Md_takeResult_83 : decode b_Md_takeResult 83 = .ok (.getfield 54, 3) := by decide +kernel
theorem d_Md_takeResult_86 : decode b_Md_takeResult 86 = .ok (.iload_n 1, 1) := by decide +kernel
theorem d_Md_takeResult_87 : decode b_Md_takeResult 87 = .ok (.iconst 0, 1) := by decide +kernel
theorem d_Md_takeResult_88 : decode b_Md_takeResult 88 = .ok (.iastore, 1) := by decide +kernel
theorem d_Md_takeResult_89 : decode b_Md_takeResult 89 = .ok (.aload_n 0, 1) := by decide +kernel
theorem d_Md_takeResult_90 : decode b_Md_takeResult 90 = .ok (.getfield 57, 3) := by decide +kernel
theorem d_Md_takeResult_93 : decode b_Md_takeResult 93 = .ok (.iload_n 1, 1) := by decide +kernel
theorem d_Md_takeResult_94 : decode b_Md_takeResult 94 = .ok (.iconst 0, 1) := by decide +kernel
theorem d_Md_takeResult_95 : decode b_Md_takeResult 95 = .ok (.iastore, 1) := by decide +kernel
theorem d_Md_takeResult_96 : decode b_Md_takeResult 96 = .ok (.aload_n 0, 1) := by decide +kernel
theorem d_Md_takeResult_97 : decode b_Md_takeResult 97 = .ok (.bipush 6, 2) := by decide +kernel
theorem d_Md_takeResult_99 : decode b_Md_takeResult 99 = .ok (.bipush 9, 2) := by decide +kernel
theorem d_Md_takeResult_101 : decode b_Md_takeResult 101 = .ok (.iload_n 1, 1) := by decide +kernel
theorem d_Md_takeResult_102 : decode b_Md_takeResult 102 = .ok (.iconst 0, 1) := by decide +kernel
theorem d_Md_takeResult_103 : decode b_Md_takeResult 103 = .ok (.iload_n 3, 1) := by decide +kernel
theorem d_Md_takeResult_104 : decode b_Md_takeResult 104 = .ok (.iconst 0, 1) := by decide +kernel
theorem d_Md_takeResult_105 : decode b_Md_takeResult 105 = .ok (.iload_n 2, 1) := by decide +kernel
theorem d_Md_takeResult_106 : decode b_Md_takeResult 106 = .ok (.invokevirtual 134, 3) := by decide +kernel
theorem d_Md_takeResult_109 : decode b_Md_takeResult 109 = .ok (.return_, 1) := by decide +kernel
theorem d_Md_takeAsk_0 : decode b_Md_takeAsk 0 = .ok (.aload_n 0, 1) := by decide +kernel
theorem d_Md_takeAsk_1 : decode b_Md_takeAsk 1 = .ok (.aload_n 0, 1) := by decide +kernel
theorem d_Md_takeAsk_2 : decode b_Md_takeAsk 2 = .ok (.getfield 42, 3) := by decide +kernel
theorem d_Md_takeAsk_5 : decode b_Md_takeAsk 5 = .ok (.iload_n 1, 1) := by decide +kernel
theorem d_Md_takeAsk_6 : decode b_Md_takeAsk 6 = .ok (.iaload, 1) := by decide +kernel
theorem d_Md_takeAsk_7 : decode b_Md_takeAsk 7 = .ok (.invokevirtual 150, 3) := by decide +kernel
theorem d_Md_takeAsk_10 : decode b_Md_takeAsk 10 = .ok (.istore_n 3, 1) := by decide +kernel
theorem d_Md_takeAsk_11 : decode b_Md_takeAsk 11 = .ok (.aload_n 0, 1) := by decide +kernel
theorem d_Md_takeAsk_12 : decode b_Md_takeAsk 12 = .ok (.aload_n 0, 1) := by decide +kernel
theorem d_Md_takeAsk_13 : decode b_Md_takeAsk 13 = .ok (.getfield 45, 3) := by decide +kernel
theorem d_Md_takeAsk_16 : decode b_Md_takeAsk 16 = .ok (.iload_n 1, 1) := by decide +kernel
theorem d_Md_takeAsk_17 : decode b_Md_takeAsk 17 = .ok (.iaload, 1) := by decide +kernel
theorem d_Md_takeAsk_18 : decode b_Md_takeAsk 18 = .ok (.invokevirtual 150, 3) := by decide +kernel
theorem d_Md_takeAsk_21 : decode b_Md_takeAsk 21 = .ok (.istore 4, 2) := by decide +kernel
theorem d_Md_takeAsk_23 : decode b_Md_takeAsk 23 = .ok (.aload_n 0, 1) := by decide +kernel
theorem d_Md_takeAsk_24 : decode b_Md_takeAsk 24 = .ok (.getfield 48, 3) := by decide +kernel
theorem d_Md_takeAsk_27 : decode b_Md_takeAsk 27 = .ok (.iload_n 1, 1) := by decide +kernel
theorem d_Md_takeAsk_28 : decode b_Md_takeAsk 28 = .ok (.baload, 1) := by decide +kernel
theorem d_Md_takeAsk_29 : decode b_Md_takeAsk 29 = .ok (.ifCond .eq 61, 3) := by decide +kernel
theorem d_Md_takeAsk_32 : decode b_Md_takeAsk 32 = .ok (.aload_n 0, 1) := by decide +kernel
theorem d_Md_takeAsk_33 : decode b_Md_takeAsk 33 = .ok (.dup, 1) := by decide +kernel
theorem d_Md_takeAsk_34 : decode b_Md_takeAsk 34 = .ok (.getfield 196, 3) := by decide +kernel
theorem d_Md_takeAsk_37 : decode b_Md_takeAsk 37 = .ok (.iconst 1, 1) := by decide +kernel
theorem d_Md_takeAsk_38 : decode b_Md_takeAsk 38 = .ok (.iadd, 1) := by decide +kernel
theorem d_Md_takeAsk_39 : decode b_Md_takeAsk 39 = .ok (.putfield 196, 3) := by decide +kernel
theorem d_Md_takeAsk_42 : decode b_Md_takeAsk 42 = .ok (.aload_n 0, 1) := by decide +kernel
theorem d_Md_takeAsk_43 : decode b_Md_takeAsk 43 = .ok (.aload_n 0, 1) := by decide +kernel
theorem d_Md_takeAsk_44 : decode b_Md_takeAsk 44 = .ok (.getfield 51, 3) := by decide +kernel
theorem d_Md_takeAsk_47 : decode b_Md_takeAsk 47 = .ok (.iload_n 1, 1) := by decide +kernel
theorem d_Md_takeAsk_48 : decode b_Md_takeAsk 48 = .ok (.iaload, 1) := by decide +kernel
theorem d_Md_takeAsk_49 : decode b_Md_takeAsk 49 = .ok (.invokevirtual 150, 3) := by decide +kernel
theorem d_Md_takeAsk_52 : decode b_Md_takeAsk 52 = .ok (.istore 5, 2) := by decide +kernel
theorem d_Md_takeAsk_54 : decode b_Md_takeAsk 54 = .ok (.aload_n 0, 1) := by decide +kernel
theorem d_Md_takeAsk_55 : decode b_Md_takeAsk 55 = .ok (.bipush 6, 2) := by decide +kernel
theorem d_Md_takeAsk_57 : decode b_Md_takeAsk 57 = .ok (.bipush 9, 2) := by decide +kernel
theorem d_Md_takeAsk_59 : decode b_Md_takeAsk 59 = .ok (.iload_n 1, 1) := by decide +kernel
theorem d_Md_takeAsk_60 : decode b_Md_takeAsk 60 = .ok (.iconst 0, 1) := by decide +kernel
theorem d_Md_takeAsk_61 : decode b_Md_takeAsk 61 = .ok (.iload 5, 2) := by decide +kernel
theorem d_Md_takeAsk_63 : decode b_Md_takeAsk 63 = .ok (.ifCond .ge 7, 3) := by decide +kernel
theorem d_Md_takeAsk_66 : decode b_Md_takeAsk 66 = .ok (.iconst 0, 1) := by decide +kernel
theorem d_Md_takeAsk_67 : decode b_Md_takeAsk 67 = .ok (.goto 10, 3) := by decide +kernel
theorem d_Md_takeAsk_70 : decode b_Md_takeAsk 70 = .ok (.aload_n 0, 1) := by decide +kernel
theorem d_Md_takeAsk_71 : decode b_Md_takeAsk 71 = .ok (.getfield 63, 3) := by decide +kernel
theorem d_Md_takeAsk_74 : decode b_Md_takeAsk 74 = .ok (.iload 5, 2) := by decide +kernel
theorem d_Md_takeAsk_76 : decode b_Md_takeAsk 76 = .ok (.iaload, 1) := by decide +kernel
theorem d_Md_takeAsk_77 : decode b_Md_takeAsk 77 = .ok (.iconst 0, 1) := by decide +kernel
theorem d_Md_takeAsk_78 : decode b_Md_takeAsk 78 = .ok (.aload_n 0, 1) := by decide +kernel
theorem d_Md_takeAsk_79 : decode b_Md_takeAsk 79 = .ok (.getfield 51, 3) := by decide +kernel
theorem d_Md_takeAsk_82 : decode b_Md_takeAsk 82 = .ok (.iload_n 1, 1) := by decide +kernel
theorem d_Md_takeAsk_83 : decode b_Md_takeAsk 83 = .ok (.iaload, 1) := by decide +kernel
theorem d_Md_takeAsk_84 : decode b_Md_takeAsk 84 = .ok (.invokevirtual 134, 3) := by decide +kernel
theorem d_Md_takeAsk_87 : decode b_Md_takeAsk 87 = .ok (.goto 82, 3) := by decide +kernel
theorem d_Md_takeAsk_90 : decode b_Md_takeAsk 90 = .ok (.iload_n 3, 1) := by decide +kernel
theorem d_Md_takeAsk_91 : decode b_Md_takeAsk 91 = .ok (.ifCond .lt 8, 3) := by decide +kernel
theorem d_Md_takeAsk_94 : decode b_Md_takeAsk 94 = .ok (.iload 4, 2) := by decide +kernel
theorem d_Md_takeAsk_96 : decode b_Md_takeAsk 96 = .ok (.ifCond .ge 35, 3) := by decide +kernel
theorem d_Md_takeAsk_99 : decode b_Md_takeAsk 99 = .ok (.aload_n 0, 1) := by decide +kernel
theorem d_Md_takeAsk_100 : decode b_Md_takeAsk 100 = .ok (.iconst 2, 1) := by decide +kernel
theorem d_Md_takeAsk_101 : decode b_Md_takeAsk 101 = .ok (.bipush 9, 2) := by decide +kernel
theorem d_Md_takeAsk_103 : decode b_Md_takeAsk 103 = .ok (.iload_n 1, 1) := by decide +kernel
theorem d_Md_takeAsk_104 : decode b_Md_takeAsk 104 = .ok (.iload_n 2, 1) := by decide +kernel
theorem d_Md_takeAsk_105 : decode b_Md_takeAsk 105 = .ok (.iload_n 3, 1) := by decide +kernel
theorem d_Md_takeAsk_106 : decode b_Md_takeAsk 106 = .ok (.ifCond .ge 7, 3) := by decide +kernel
theorem d_Md_takeAsk_109 : decode b_Md_takeAsk 109 = .ok (.iconst 1, 1) := by decide +kernel
theorem d_Md_takeAsk_110 : decode b_Md_takeAsk 110 = .ok (.goto 4, 3) := by decide +kernel
theorem d_Md_takeAsk_113 : decode b_Md_takeAsk 113 = .ok (.iconst 0, 1) := by decide +kernel
theorem d_Md_takeAsk_114 : decode b_Md_takeAsk 114 = .ok (.iload 4, 2) := by decide +kernel
theorem d_Md_takeAsk_116 : decode b_Md_takeAsk 116 = .ok (.ifCond .ge 7, 3) := by decide +kernel
theorem d_Md_takeAsk_119 : decode b_Md_takeAsk 119 = .ok (.iconst 1, 1) := by decide +kernel
theorem d_Md_takeAsk_120 : decode b_Md_takeAsk 120 = .ok (.goto 4, 3) := by decide +kernel
theorem d_Md_takeAsk_123 : decode b_Md_takeAsk 123 = .ok (.iconst 0, 1) := by decide +kernel
theorem d_Md_takeAsk_124 : decode b_Md_takeAsk 124 = .ok (.iconst 0, 1) := by decide +kernel
theorem d_Md_takeAsk_125 : decode b_Md_takeAsk 125 = .ok (.invokevirtual 134, 3) := by decide +kernel
theorem d_Md_takeAsk_128 : decode b_Md_takeAsk 128 = .ok (.goto 41, 3) := by decide +kernel
theorem d_Md_takeAsk_131 : decode b_Md_takeAsk 131 = .ok (.aload_n 0, 1) := by decide +kernel
theorem d_Md_takeAsk_132 : decode b_Md_takeAsk 132 = .ok (.getfield 54, 3) := by decide +kernel
theorem d_Md_takeAsk_135 : decode b_Md_takeAsk 135 = .ok (.iload_n 1, 1) := by decide +kernel
theorem d_Md_takeAsk_136 : decode b_Md_takeAsk 136 = .ok (.iaload, 1) := by decide +kernel
theorem d_Md_takeAsk_137 : decode b_Md_takeAsk 137 = .ok (.ifCond .ne 32, 3) := by decide +kernel
theorem d_Md_takeAsk_140 : decode b_Md_takeAsk 140 = .ok (.aload_n 0, 1) := by decide +kernel
theorem d_Md_takeAsk_141 : decode b_Md_takeAsk 141 = .ok (.getfield 57, 3) := by decide +kernel
theorem d_Md_takeAsk_144 : decode b_Md_takeAsk 144 = .ok (.iload_n 1, 1) := by decide +kernel
theorem d_Md_takeAsk_145 : decode b_Md_takeAsk 145 = .ok (.iaload, 1) := by decide +kernel
theorem d_Md_takeAsk_146 : decode b_Md_takeAsk 146 = .ok (.ifCond .ne 23, 3) := by decide +kernel
theorem d_Md_takeAsk_149 : decode b_Md_takeAsk 149 = .ok (.aload_n 0, 1) := by decide +kernel
theorem d_Md_takeAsk_150 : decode b_Md_takeAsk 150 = .ok (.dup, 1) := by decide +kernel
theorem d_Md_takeAsk_151 : decode b_Md_takeAsk 151 = .ok (.getfield 199, 3) := by decide +kernel
theorem d_Md_takeAsk_154 : decode b_Md_takeAsk 154 = .ok (.iconst 1, 1) := by decide +kernel
theorem d_Md_takeAsk_155 : decode b_Md_takeAsk 155 = .ok (.iadd, 1) := by decide +kernel
theorem d_Md_takeAsk_156 : decode b_Md_takeAsk 156 = .ok (.putfield 199, 3) := by decide +kernel
theorem d_Md_takeAsk_159 : decode b_Md_takeAsk 159 = .ok (.aload_n 0, 1) := by decide +kernel
theorem d_Md_takeAsk_160 : decode b_Md_takeAsk 160 = .ok (.getfield 54, 3) := by decide +kernel
theorem d_Md_takeAsk_163 : decode b_Md_takeAsk 163 = .ok (.iload_n 1, 1) := by decide +kernel
theorem d_Md_takeAsk_164 : decode b_Md_takeAsk 164 = .ok (.aload_n 0, 1) := by decide +kernel
theorem d_Md_takeAsk_165 : decode b_Md_takeAsk 165 = .ok (.getfield 199, 3) := by decide +kernel
theorem d_Md_takeAsk_168 : decode b_Md_takeAsk 168 = .ok (.iastore, 1) := by decide +kernel
theorem d_Md_takeAsk_169 : decode b_Md_takeAsk 169 = .ok (.return_, 1) := by decide +kernel
theorem d_Md_leased_0 : decode b_Md_leased 0 = .ok (.iconst 0, 1) := by decide +kernel
theorem d_Md_leased_1 : decode b_Md_leased 1 = .ok (.istore_n 2, 1) := by decide +kernel
theorem d_Md_leased_2 : decode b_Md_leased 2 = .ok (.iload_n 2, 1) := by decide +kernel
theorem d_Md_leased_3 : decode b_Md_leased 3 = .ok (.aload_n 0, 1) := by decide +kernel
theorem d_Md_leased_4 : decode b_Md_leased 4 = .ok (.getfield 122, 3) := by decide +kernel
theorem d_Md_leased_7 : decode b_Md_leased 7 = .ok (.if_icmp .ge 21, 3) := by decide +kernel
theorem d_Md_leased_10 : decode b_Md_leased 10 = .ok (.aload_n 0, 1) := by decide +kernel
theorem d_Md_leased_11 : decode b_Md_leased 11 = .ok (.getfield 57, 3) := by decide +kernel
theorem d_Md_leased_14 : decode b_Md_leased 14 = .ok (.iload_n 2, 1) := by decide +kernel
theorem d_Md_leased_15 : decode b_Md_leased 15 = .ok (.iaload, 1) := by decide +kernel
theorem d_Md_leased_16 : decode b_Md_leased 16 = .ok (.iload_n 1, 1) := by decide +kernel
theorem d_Md_leased_17 : decode b_Md_leased 17 = .ok (.if_icmp .ne 5, 3) := by decide +kernel
theorem d_Md_leased_20 : decode b_Md_leased 20 = .ok (.iload_n 2, 1) := by decide +kernel
theorem d_Md_leased_21 : decode b_Md_leased 21 = .ok (.ireturn, 1) := by decide +kernel
theorem d_Md_leased_22 : decode b_Md_leased 22 = .ok (.iinc 2 1, 3) := by decide +kernel
theorem d_Md_leased_25 : decode b_Md_leased 25 = .ok (.goto (-23), 3) := by decide +kernel
theorem d_Md_leased_28 : decode b_Md_leased 28 = .ok (.iconst (-1), 1) := by decide +kernel
theorem d_Md_leased_29 : decode b_Md_leased 29 = .ok (.ireturn, 1) := by decide +kernel
theorem d_Md_expire_0 : decode b_Md_expire 0 = .ok (.aload_n 0, 1) := by decide +kernel
theorem d_Md_expire_1 : decode b_Md_expire 1 = .ok (.iload_n 1, 1) := by decide +kernel
theorem d_Md_expire_2 : decode b_Md_expire 2 = .ok (.invokevirtual 242, 3) := by decide +kernel
theorem d_Md_expire_5 : decode b_Md_expire 5 = .ok (.istore_n 2, 1) := by decide +kernel
theorem d_Md_expire_6 : decode b_Md_expire 6 = .ok (.iload_n 2, 1) := by decide +kernel
theorem d_Md_expire_7 : decode b_Md_expire 7 = .ok (.ifCond .lt 16, 3) := by decide +kernel
theorem d_Md_expire_10 : decode b_Md_expire 10 = .ok (.aload_n 0, 1) := by decide +kernel
theorem d_Md_expire_11 : decode b_Md_expire 11 = .ok (.getfield 60, 3) := by decide +kernel
theorem d_Md_expire_14 : decode b_Md_expire 14 = .ok (.iload_n 2, 1) := by decide +kernel
theorem d_Md_expire_15 : decode b_Md_expire 15 = .ok (.iaload, 1) := by decide +kernel
theorem d_Md_expire_16 : decode b_Md_expire 16 = .ok (.aload_n 0, 1) := by decide +kernel
theorem d_Md_expire_17 : decode b_Md_expire 17 = .ok (.getfield 138, 3) := by decide +kernel
theorem d_Md_expire_20 : decode b_Md_expire 20 = .ok (.if_icmp .le 4, 3) := by decide +kernel
theorem d_Md_expire_23 : decode b_Md_expire 23 = .ok (.return_, 1) := by decide +kernel
theorem d_Md_expire_24 : decode b_Md_expire 24 = .ok (.aload_n 0, 1) := by decide +kernel
theorem d_Md_expire_25 : decode b_Md_expire 25 = .ok (.getfield 57, 3) := by decide +kernel
theorem d_Md_expire_28 : decode b_Md_expire 28 = .ok (.iload_n 2, 1) := by decide +kernel
theorem d_Md_expire_29 : decode b_Md_expire 29 = .ok (.iconst 0, 1) := by decide +kernel
theorem d_Md_expire_30 : decode b_Md_expire 30 = .ok (.iastore, 1) := by decide +kernel
theorem d_Md_expire_31 : decode b_Md_expire 31 = .ok (.aload_n 0, 1) := by decide +kernel
theorem d_Md_expire_32 : decode b_Md_expire 32 = .ok (.dup, 1) := by decide +kernel
theorem d_Md_expire_33 : decode b_Md_expire 33 = .ok (.getfield 199, 3) := by decide +kernel
theorem d_Md_expire_36 : decode b_Md_expire 36 = .ok (.iconst 1, 1) := by decide +kernel
theorem d_Md_expire_37 : decode b_Md_expire 37 = .ok (.iadd, 1) := by decide +kernel
theorem d_Md_expire_38 : decode b_Md_expire 38 = .ok (.putfield 199, 3) := by decide +kernel
theorem d_Md_expire_41 : decode b_Md_expire 41 = .ok (.aload_n 0, 1) := by decide +kernel
theorem d_Md_expire_42 : decode b_Md_expire 42 = .ok (.getfield 54, 3) := by decide +kernel
theorem d_Md_expire_45 : decode b_Md_expire 45 = .ok (.iload_n 2, 1) := by decide +kernel
theorem d_Md_expire_46 : decode b_Md_expire 46 = .ok (.aload_n 0, 1) := by decide +kernel
theorem d_Md_expire_47 : decode b_Md_expire 47 = .ok (.getfield 199, 3) := by decide +kernel
theorem d_Md_expire_50 : decode b_Md_expire 50 = .ok (.iastore, 1) := by decide +kernel
theorem d_Md_expire_51 : decode b_Md_expire 51 = .ok (.return_, 1) := by decide +kernel
theorem d_Md_waiting_0 : decode b_Md_waiting 0 = .ok (.iconst 0, 1) := by decide +kernel
theorem d_Md_waiting_1 : decode b_Md_waiting 1 = .ok (.istore_n 1, 1) := by decide +kernel
theorem d_Md_waiting_2 : decode b_Md_waiting 2 = .ok (.iconst 0, 1) := by decide +kernel
theorem d_Md_waiting_3 : decode b_Md_waiting 3 = .ok (.istore_n 2, 1) := by decide +kernel
theorem d_Md_waiting_4 : decode b_Md_waiting 4 = .ok (.iload_n 2, 1) := by decide +kernel
theorem d_Md_waiting_5 : decode b_Md_waiting 5 = .ok (.aload_n 0, 1) := by decide +kernel
theorem d_Md_waiting_6 : decode b_Md_waiting 6 = .ok (.getfield 122, 3) := by decide +kernel
theorem d_Md_waiting_9 : decode b_Md_waiting 9 = .ok (.if_icmp .ge 26, 3) := by decide +kernel
theorem d_Md_waiting_12 : decode b_Md_waiting 12 = .ok (.iload_n 1, 1) := by decide +kernel
theorem d_Md_waiting_13 : decode b_Md_waiting 13 = .ok (.aload_n 0, 1) := by decide +kernel
theorem d_Md_waiting_14 : decode b_Md_waiting 14 = .ok (.getfield 54, 3) := by decide +kernel
theorem d_Md_waiting_17 : decode b_Md_waiting 17 = .ok (.iload_n 2, 1) := by decide +kernel
theorem d_Md_waiting_18 : decode b_Md_waiting 18 = .ok (.iaload, 1) := by decide +kernel
theorem d_Md_waiting_19 : decode b_Md_waiting 19 = .ok (.ifCond .le 7, 3) := by decide +kernel
theorem d_Md_waiting_22 : decode b_Md_waiting 22 = .ok (.iconst 1, 1) := by decide +kernel
theorem d_Md_waiting_23 : decode b_Md_waiting 23 = .ok (.goto 4, 3) := by decide +kernel
theorem d_Md_waiting_26 : decode b_Md_waiting 26 = .ok (.iconst 0, 1) := by decide +kernel
theorem d_Md_waiting_27 : decode b_Md_waiting 27 = .ok (.iadd, 1) := by decide +kernel
theorem d_Md_waiting_28 : decode b_Md_waiting 28 = .ok (.istore_n 1, 1) := by decide +kernel
theorem d_Md_waiting_29 : decode b_Md_waiting 29 = .ok (.iinc 2 1, 3) := by decide +kernel
theorem d_Md_waiting_32 : decode b_Md_waiting 32 = .ok (.goto (-28), 3) := by decide +kernel
theorem d_Md_waiting_35 : decode b_Md_waiting 35 = .ok (.iload_n 1, 1) := by decide +kernel
theorem d_Md_waiting_36 : decode b_Md_waiting 36 = .ok (.ireturn, 1) := by decide +kernel
theorem d_Md_results_0 : decode b_Md_results 0 = .ok (.iconst 0, 1) := by decide +kernel
theorem d_Md_results_1 : decode b_Md_results 1 = .ok (.istore_n 1, 1) := by decide +kernel
theorem d_Md_results_2 : decode b_Md_results 2 = .ok (.iconst 0, 1) := by decide +kernel
theorem d_Md_results_3 : decode b_Md_results 3 = .ok (.istore_n 2, 1) := by decide +kernel
theorem d_Md_results_4 : decode b_Md_results 4 = .ok (.iload_n 2, 1) := by decide +kernel
theorem d_Md_results_5 : decode b_Md_results 5 = .ok (.aload_n 0, 1) := by decide +kernel
theorem d_Md_results_6 : decode b_Md_results 6 = .ok (.getfield 122, 3) := by decide +kernel
theorem d_Md_results_9 : decode b_Md_results 9 = .ok (.if_icmp .ge 26, 3) := by decide +kernel
theorem d_Md_results_12 : decode b_Md_results 12 = .ok (.iload_n 1, 1) := by decide +kernel
theorem d_Md_results_13 : decode b_Md_results 13 = .ok (.aload_n 0, 1) := by decide +kernel
theorem d_Md_results_14 : decode b_Md_results 14 = .ok (.getfield 48, 3) := by decide +kernel
theorem d_Md_results_17 : decode b_Md_results 17 = .ok (.iload_n 2, 1) := by decide +kernel
theorem d_Md_results_18 : decode b_Md_results 18 = .ok (.baload, 1) := by decide +kernel
theorem d_Md_results_19 : decode b_Md_results 19 = .ok (.ifCond .eq 7, 3) := by decide +kernel
theorem d_Md_results_22 : decode b_Md_results 22 = .ok (.iconst 1, 1) := by decide +kernel
theorem d_Md_results_23 : decode b_Md_results 23 = .ok (.goto 4, 3) := by decide +kernel
theorem d_Md_results_26 : decode b_Md_results 26 = .ok (.iconst 0, 1) := by decide +kernel
theorem d_Md_results_27 : decode b_Md_results 27 = .ok (.iadd, 1) := by decide +kernel
theorem d_Md_results_28 : decode b_Md_results 28 = .ok (.istore_n 1, 1) := by decide +kernel
theorem d_Md_results_29 : decode b_Md_results 29 = .ok (.iinc 2 1, 3) := by decide +kernel
theorem d_Md_results_32 : decode b_Md_results 32 = .ok (.goto (-28), 3) := by decide +kernel
theorem d_Md_results_35 : decode b_Md_results 35 = .ok (.iload_n 1, 1) := by decide +kernel
theorem d_Md_results_36 : decode b_Md_results 36 = .ok (.ireturn, 1) := by decide +kernel
theorem d_Md_missing_0 : decode b_Md_missing 0 = .ok (.iconst 0, 1) := by decide +kernel
theorem d_Md_missing_1 : decode b_Md_missing 1 = .ok (.istore_n 1, 1) := by decide +kernel
theorem d_Md_missing_2 : decode b_Md_missing 2 = .ok (.iconst 0, 1) := by decide +kernel
theorem d_Md_missing_3 : decode b_Md_missing 3 = .ok (.istore_n 2, 1) := by decide +kernel
theorem d_Md_missing_4 : decode b_Md_missing 4 = .ok (.iload_n 2, 1) := by decide +kernel
theorem d_Md_missing_5 : decode b_Md_missing 5 = .ok (.aload_n 0, 1) := by decide +kernel
theorem d_Md_missing_6 : decode b_Md_missing 6 = .ok (.getfield 109, 3) := by decide +kernel
theorem d_Md_missing_9 : decode b_Md_missing 9 = .ok (.if_icmp .ge 26, 3) := by decide +kernel
theorem d_Md_missing_12 : decode b_Md_missing 12 = .ok (.iload_n 1, 1) := by decide +kernel
theorem d_Md_missing_13 : decode b_Md_missing 13 = .ok (.aload_n 0, 1) := by decide +kernel
theorem d_Md_missing_14 : decode b_Md_missing 14 = .ok (.getfield 27, 3) := by decide +kernel
theorem d_Md_missing_17 : decode b_Md_missing 17 = .ok (.iload_n 2, 1) := by decide +kernel
theorem d_Md_missing_18 : decode b_Md_missing 18 = .ok (.baload, 1) := by decide +kernel
theorem d_Md_missing_19 : decode b_Md_missing 19 = .ok (.ifCond .eq 7, 3) := by decide +kernel
theorem d_Md_missing_22 : decode b_Md_missing 22 = .ok (.iconst 0, 1) := by decide +kernel
theorem d_Md_missing_23 : decode b_Md_missing 23 = .ok (.goto 4, 3) := by decide +kernel
theorem d_Md_missing_26 : decode b_Md_missing 26 = .ok (.iconst 1, 1) := by decide +kernel
theorem d_Md_missing_27 : decode b_Md_missing 27 = .ok (.iadd, 1) := by decide +kernel
theorem d_Md_missing_28 : decode b_Md_missing 28 = .ok (.istore_n 1, 1) := by decide +kernel
theorem d_Md_missing_29 : decode b_Md_missing 29 = .ok (.iinc 2 1, 3) := by decide +kernel
theorem d_Md_missing_32 : decode b_Md_missing 32 = .ok (.goto (-28), 3) := by decide +kernel
theorem d_Md_missing_35 : decode b_Md_missing 35 = .ok (.iload_n 1, 1) := by decide +kernel
theorem d_Md_missing_36 : decode b_Md_missing 36 = .ok (.ireturn, 1) := by decide +kernel
theorem d_Md_doing_0 : decode b_Md_doing 0 = .ok (.iload_n 1, 1) := by decide +kernel
theorem d_Md_doing_1 : decode b_Md_doing 1 = .ok (.iconst 1, 1) := by decide +kernel
theorem d_Md_doing_2 : decode b_Md_doing 2 = .ok (.if_icmp .lt 20, 3) := by decide +kernel
theorem d_Md_doing_5 : decode b_Md_doing 5 = .ok (.iload_n 1, 1) := by decide +kernel
theorem d_Md_doing_6 : decode b_Md_doing 6 = .ok (.aload_n 0, 1) := by decide +kernel
theorem d_Md_doing_7 : decode b_Md_doing 7 = .ok (.getfield 102, 3) := by decide +kernel
theorem d_Md_doing_10 : decode b_Md_doing 10 = .ok (.if_icmp .gt 12, 3) := by decide +kernel
theorem d_Md_doing_13 : decode b_Md_doing 13 = .ok (.aload_n 0, 1) := by decide +kernel
theorem d_Md_doing_14 : decode b_Md_doing 14 = .ok (.getfield 66, 3) := by decide +kernel
theorem d_Md_doing_17 : decode b_Md_doing 17 = .ok (.iload_n 1, 1) := by decide +kernel
theorem d_Md_doing_18 : decode b_Md_doing 18 = .ok (.iaload, 1) := by decide +kernel
theorem d_Md_doing_19 : decode b_Md_doing 19 = .ok (.ifCond .ne 7, 3) := by decide +kernel
theorem d_Md_doing_22 : decode b_Md_doing 22 = .ok (.iconst (-1), 1) := by decide +kernel
theorem d_Md_doing_23 : decode b_Md_doing 23 = .ok (.goto 9, 3) := by decide +kernel
theorem d_Md_doing_26 : decode b_Md_doing 26 = .ok (.aload_n 0, 1) := by decide +kernel
theorem d_Md_doing_27 : decode b_Md_doing 27 = .ok (.getfield 75, 3) := by decide +kernel
theorem d_Md_doing_30 : decode b_Md_doing 30 = .ok (.iload_n 1, 1) := by decide +kernel
theorem d_Md_doing_31 : decode b_Md_doing 31 = .ok (.iaload, 1) := by decide +kernel
theorem d_Md_doing_32 : decode b_Md_doing 32 = .ok (.ireturn, 1) := by decide +kernel
theorem d_Md_lease_0 : decode b_Md_lease 0 = .ok (.iload_n 1, 1) := by decide +kernel
theorem d_Md_lease_1 : decode b_Md_lease 1 = .ok (.iconst 1, 1) := by decide +kernel
theorem d_Md_lease_2 : decode b_Md_lease 2 = .ok (.if_icmp .lt 11, 3) := by decide +kernel
theorem d_Md_lease_5 : decode b_Md_lease 5 = .ok (.iload_n 1, 1) := by decide +kernel
theorem d_Md_lease_6 : decode b_Md_lease 6 = .ok (.aload_n 0, 1) := by decide +kernel
theorem d_Md_lease_7 : decode b_Md_lease 7 = .ok (.getfield 102, 3) := by decide +kernel
theorem d_Md_lease_10 : decode b_Md_lease 10 = .ok (.if_icmp .le 7, 3) := by decide +kernel
theorem d_Md_lease_13 : decode b_Md_lease 13 = .ok (.iconst (-1), 1) := by decide +kernel
theorem d_Md_lease_14 : decode b_Md_lease 14 = .ok (.goto 8, 3) := by decide +kernel
theorem d_Md_lease_17 : decode b_Md_lease 17 = .ok (.aload_n 0, 1) := by decide +kernel
theorem d_Md_lease_18 : decode b_Md_lease 18 = .ok (.iload_n 1, 1) := by decide +kernel
theorem d_Md_lease_19 : decode b_Md_lease 19 = .ok (.invokevirtual 242, 3) := by decide +kernel
theorem d_Md_lease_22 : decode b_Md_lease 22 = .ok (.istore_n 2, 1) := by decide +kernel
theorem d_Md_lease_23 : decode b_Md_lease 23 = .ok (.iload_n 2, 1) := by decide +kernel
theorem d_Md_lease_24 : decode b_Md_lease 24 = .ok (.ifCond .ge 7, 3) := by decide +kernel
theorem d_Md_lease_27 : decode b_Md_lease 27 = .ok (.iconst (-1), 1) := by decide +kernel
theorem d_Md_lease_28 : decode b_Md_lease 28 = .ok (.goto 14, 3) := by decide +kernel
theorem d_Md_lease_31 : decode b_Md_lease 31 = .ok (.aload_n 0, 1) := by decide +kernel
theorem d_Md_lease_32 : decode b_Md_lease 32 = .ok (.getfield 60, 3) := by decide +kernel
theorem d_Md_lease_35 : decode b_Md_lease 35 = .ok (.iload_n 2, 1) := by decide +kernel
theorem d_Md_lease_36 : decode b_Md_lease 36 = .ok (.iaload, 1) := by decide +kernel
theorem d_Md_lease_37 : decode b_Md_lease 37 = .ok (.aload_n 0, 1) := by decide +kernel
theorem d_Md_lease_38 : decode b_Md_lease 38 = .ok (.getfield 138, 3) := by decide +kernel
theorem d_Md_lease_41 : decode b_Md_lease 41 = .ok (.isub, 1) := by decide +kernel
theorem d_Md_lease_42 : decode b_Md_lease 42 = .ok (.ireturn, 1) := by decide +kernel
theorem d_Md_count_0 : decode b_Md_count 0 = .ok (.iload_n 1, 1) := by decide +kernel
theorem d_Md_count_1 : decode b_Md_count 1 = .ok (.tableswitch 105 0 9 #[55, 60, 65, 70, 75, 80, 85, 90, 95, 100], 55) := by decide +kernel
theorem d_Md_count_56 : decode b_Md_count 56 = .ok (.aload_n 0, 1) := by decide +kernel
theorem d_Md_count_57 : decode b_Md_count 57 = .ok (.getfield 147, 3) := by decide +kernel
theorem d_Md_count_60 : decode b_Md_count 60 = .ok (.ireturn, 1) := by decide +kernel
theorem d_Md_count_61 : decode b_Md_count 61 = .ok (.aload_n 0, 1) := by decide +kernel
theorem d_Md_count_62 : decode b_Md_count 62 = .ok (.invokevirtual 248, 3) := by decide +kernel
theorem d_Md_count_65 : decode b_Md_count 65 = .ok (.ireturn, 1) := by decide +kernel
theorem d_Md_count_66 : decode b_Md_count 66 = .ok (.aload_n 0, 1) := by decide +kernel
theorem d_Md_count_67 : decode b_Md_count 67 = .ok (.getfield 245, 3) := by decide +kernel
theorem d_Md_count_70 : decode b_Md_count 70 = .ok (.ireturn, 1) := by decide +kernel
theorem d_Md_count_71 : decode b_Md_count 71 = .ok (.aload_n 0, 1) := by decide +kernel
theorem d_Md_count_72 : decode b_Md_count 72 = .ok (.getfield 208, 3) := by decide +kernel
theorem d_Md_count_75 : decode b_Md_count 75 = .ok (.ireturn, 1) := by decide +kernel
theorem d_Md_count_76 : decode b_Md_count 76 = .ok (.aload_n 0, 1) := by decide +kernel
theorem d_Md_count_77 : decode b_Md_count 77 = .ok (.getfield 196, 3) := by decide +kernel
theorem d_Md_count_80 : decode b_Md_count 80 = .ok (.ireturn, 1) := by decide +kernel
theorem d_Md_count_81 : decode b_Md_count 81 = .ok (.aload_n 0, 1) := by decide +kernel
theorem d_Md_count_82 : decode b_Md_count 82 = .ok (.getfield 172, 3) := by decide +kernel
theorem d_Md_count_85 : decode b_Md_count 85 = .ok (.ireturn, 1) := by decide +kernel
theorem d_Md_count_86 : decode b_Md_count 86 = .ok (.aload_n 0, 1) := by decide +kernel
theorem d_Md_count_87 : decode b_Md_count 87 = .ok (.getfield 211, 3) := by decide +kernel
theorem d_Md_count_90 : decode b_Md_count 90 = .ok (.ireturn, 1) := by decide +kernel
theorem d_Md_count_91 : decode b_Md_count 91 = .ok (.aload_n 0, 1) := by decide +kernel
theorem d_Md_count_92 : decode b_Md_count 92 = .ok (.getfield 166, 3) := by decide +kernel
theorem d_Md_count_95 : decode b_Md_count 95 = .ok (.ireturn, 1) := by decide +kernel
theorem d_Md_count_96 : decode b_Md_count 96 = .ok (.aload_n 0, 1) := by decide +kernel
theorem d_Md_count_97 : decode b_Md_count 97 = .ok (.getfield 138, 3) := by decide +kernel
theorem d_Md_count_100 : decode b_Md_count 100 = .ok (.ireturn, 1) := by decide +kernel
theorem d_Md_count_101 : decode b_Md_count 101 = .ok (.aload_n 0, 1) := by decide +kernel
theorem d_Md_count_102 : decode b_Md_count 102 = .ok (.invokevirtual 252, 3) := by decide +kernel
theorem d_Md_count_105 : decode b_Md_count 105 = .ok (.ireturn, 1) := by decide +kernel
theorem d_Md_count_106 : decode b_Md_count 106 = .ok (.iconst (-1), 1) := by decide +kernel
theorem d_Md_count_107 : decode b_Md_count 107 = .ok (.ireturn, 1) := by decide +kernel
theorem d_Md_instruction_0 : decode b_Md_instruction 0 = .ok (.iload_n 2, 1) := by decide +kernel
theorem d_Md_instruction_1 : decode b_Md_instruction 1 = .ok (.bipush 15, 2) := by decide +kernel
theorem d_Md_instruction_3 : decode b_Md_instruction 3 = .ok (.if_icmp .le 7, 3) := by decide +kernel
theorem d_Md_instruction_6 : decode b_Md_instruction 6 = .ok (.iconst 0, 1) := by decide +kernel
theorem d_Md_instruction_7 : decode b_Md_instruction 7 = .ok (.goto 12, 3) := by decide +kernel
theorem d_Md_instruction_10 : decode b_Md_instruction 10 = .ok (.lload_n 0, 1) := by decide +kernel
theorem d_Md_instruction_11 : decode b_Md_instruction 11 = .ok (.iconst 4, 1) := by decide +kernel
theorem d_Md_instruction_12 : decode b_Md_instruction 12 = .ok (.iload_n 2, 1) := by decide +kernel
theorem d_Md_instruction_13 : decode b_Md_instruction 13 = .ok (.imul, 1) := by decide +kernel
theorem d_Md_instruction_14 : decode b_Md_instruction 14 = .ok (.lushr, 1) := by decide +kernel
theorem d_Md_instruction_15 : decode b_Md_instruction 15 = .ok (.l2i, 1) := by decide +kernel
theorem d_Md_instruction_16 : decode b_Md_instruction 16 = .ok (.bipush 15, 2) := by decide +kernel
theorem d_Md_instruction_18 : decode b_Md_instruction 18 = .ok (.iand, 1) := by decide +kernel
theorem d_Md_instruction_19 : decode b_Md_instruction 19 = .ok (.ireturn, 1) := by decide +kernel
theorem d_Md_act_0 : decode b_Md_act 0 = .ok (.aload_n 0, 1) := by decide +kernel
theorem d_Md_act_1 : decode b_Md_act 1 = .ok (.getfield 226, 3) := by decide +kernel
theorem d_Md_act_4 : decode b_Md_act 4 = .ok (.istore_n 2, 1) := by decide +kernel
theorem d_Md_act_5 : decode b_Md_act 5 = .ok (.aload_n 0, 1) := by decide +kernel
theorem d_Md_act_6 : decode b_Md_act 6 = .ok (.getfield 232, 3) := by decide +kernel
theorem d_Md_act_9 : decode b_Md_act 9 = .ok (.iconst 1, 1) := by decide +kernel
theorem d_Md_act_10 : decode b_Md_act 10 = .ok (.iadd, 1) := by decide +kernel
theorem d_Md_act_11 : decode b_Md_act 11 = .ok (.istore_n 3, 1) := by decide +kernel
theorem d_Md_act_12 : decode b_Md_act 12 = .ok (.iload_n 1, 1) := by decide +kernel
theorem d_Md_act_13 : decode b_Md_act 13 = .ok (.tableswitch 251 1 10 #[55, 71, 87, 103, 116, 131, 147, 187, 211, 222], 55) := by decide +kernel
theorem d_Md_act_68 : decode b_Md_act 68 = .ok (.aload_n 0, 1) := by decide +kernel
theorem d_Md_act_69 : decode b_Md_act 69 = .ok (.aload_n 0, 1) := by decide +kernel
theorem d_Md_act_70 : decode b_Md_act 70 = .ok (.getfield 226, 3) := by decide +kernel
theorem d_Md_act_73 : decode b_Md_act 73 = .ok (.aload_n 0, 1) := by decide +kernel
theorem d_Md_act_74 : decode b_Md_act 74 = .ok (.getfield 229, 3) := by decide +kernel
theorem d_Md_act_77 : decode b_Md_act 77 = .ok (.iadd, 1) := by decide +kernel
theorem d_Md_act_78 : decode b_Md_act 78 = .ok (.putfield 226, 3) := by decide +kernel
theorem d_Md_act_81 : decode b_Md_act 81 = .ok (.goto 183, 3) := by decide +kernel
theorem d_Md_act_84 : decode b_Md_act 84 = .ok (.aload_n 0, 1) := by decide +kernel
theorem d_Md_act_85 : decode b_Md_act 85 = .ok (.aload_n 0, 1) := by decide +kernel
theorem d_Md_act_86 : decode b_Md_act 86 = .ok (.getfield 226, 3) := by decide +kernel
theorem d_Md_act_89 : decode b_Md_act 89 = .ok (.aload_n 0, 1) := by decide +kernel
theorem d_Md_act_90 : decode b_Md_act 90 = .ok (.getfield 229, 3) := by decide +kernel
theorem d_Md_act_93 : decode b_Md_act 93 = .ok (.isub, 1) := by decide +kernel
theorem d_Md_act_94 : decode b_Md_act 94 = .ok (.putfield 226, 3) := by decide +kernel
theorem d_Md_act_97 : decode b_Md_act 97 = .ok (.goto 167, 3) := by decide +kernel
theorem d_Md_act_100 : decode b_Md_act 100 = .ok (.aload_n 0, 1) := by decide +kernel
theorem d_Md_act_101 : decode b_Md_act 101 = .ok (.aload_n 0, 1) := by decide +kernel
theorem d_Md_act_102 : decode b_Md_act 102 = .ok (.getfield 226, 3) := by decide +kernel
theorem d_Md_act_105 : decode b_Md_act 105 = .ok (.aload_n 0, 1) := by decide +kernel
theorem d_Md_act_106 : decode b_Md_act 106 = .ok (.getfield 229, 3) := by decide +kernel
theorem d_Md_act_109 : decode b_Md_act 109 = .ok (.ixor, 1) := by decide +kernel
theorem d_Md_act_110 : decode b_Md_act 110 = .ok (.putfield 226, 3) := by decide +kernel
theorem d_Md_act_113 : decode b_Md_act 113 = .ok (.goto 151, 3) := by decide +kernel
theorem d_Md_act_116 : decode b_Md_act 116 = .ok (.aload_n 0, 1) := by decide +kernel
theorem d_Md_act_117 : decode b_Md_act 117 = .ok (.aload_n 0, 1) := by decide +kernel
theorem d_Md_act_118 : decode b_Md_act 118 = .ok (.getfield 226, 3) := by decide +kernel
theorem d_Md_act_121 : decode b_Md_act 121 = .ok (.iconst 1, 1) := by decide +kernel
theorem d_Md_act_122 : decode b_Md_act 122 = .ok (.ishr, 1) := by decide +kernel
theorem d_Md_act_123 : decode b_Md_act 123 = .ok (.putfield 226, 3) := by decide +kernel
theorem d_Md_act_126 : decode b_Md_act 126 = .ok (.goto 138, 3) := by decide +kernel
theorem d_Md_act_129 : decode b_Md_act 129 = .ok (.aload_n 0, 1) := by decide +kernel
theorem d_Md_act_130 : decode b_Md_act 130 = .ok (.aload_n 0, 1) := by decide +kernel
theorem d_Md_act_131 : decode b_Md_act 131 = .ok (.getfield 226, 3) := by decide +kernel
theorem d_Md_act_134 : decode b_Md_act 134 = .ok (.iconst 3, 1) := by decide +kernel
theorem d_Md_act_135 : decode b_Md_act 135 = .ok (.imul, 1) := by decide +kernel
theorem d_Md_act_136 : decode b_Md_act 136 = .ok (.iconst 1, 1) := by decide +kernel
theorem d_Md_act_137 : decode b_Md_act 137 = .ok (.iadd, 1) := by decide +kernel
theorem d_Md_act_138 : decode b_Md_act 138 = .ok (.putfield 226, 3) := by decide +kernel
theorem d_Md_act_141 : decode b_Md_act 141 = .ok (.goto 123, 3) := by decide +kernel
theorem d_Md_act_144 : decode b_Md_act 144 = .ok (.aload_n 0, 1) := by decide +kernel
theorem d_Md_act_145 : decode b_Md_act 145 = .ok (.aload_n 0, 1) := by decide +kernel
theorem d_Md_act_146 : decode b_Md_act 146 = .ok (.getfield 229, 3) := by decide +kernel
theorem d_Md_act_149 : decode b_Md_act 149 = .ok (.putfield 226, 3) := by decide +kernel
theorem d_Md_act_152 : decode b_Md_act 152 = .ok (.aload_n 0, 1) := by decide +kernel
theorem d_Md_act_153 : decode b_Md_act 153 = .ok (.iload_n 2, 1) := by decide +kernel
theorem d_Md_act_154 : decode b_Md_act 154 = .ok (.putfield 229, 3) := by decide +kernel
theorem d_Md_act_157 : decode b_Md_act 157 = .ok (.goto 107, 3) := by decide +kernel
theorem d_Md_act_160 : decode b_Md_act 160 = .ok (.aload_n 0, 1) := by decide +kernel
theorem d_Md_act_161 : decode b_Md_act 161 = .ok (.getfield 229, 3) := by decide +kernel
theorem d_Md_act_164 : decode b_Md_act 164 = .ok (.ifCond .le 7, 3) := by decide +kernel
theorem d_Md_act_167 : decode b_Md_act 167 = .ok (.iconst 0, 1) := by decide +kernel
theorem d_Md_act_168 : decode b_Md_act 168 = .ok (.goto 4, 3) := by decide +kernel
theorem d_Md_act_171 : decode b_Md_act 171 = .ok (.iload_n 3, 1) := by decide +kernel
theorem d_Md_act_172 : decode b_Md_act 172 = .ok (.istore_n 3, 1) := by decide +kernel
theorem d_Md_act_173 : decode b_Md_act 173 = .ok (.aload_n 0, 1) := by decide +kernel
theorem d_Md_act_174 : decode b_Md_act 174 = .ok (.aload_n 0, 1) := by decide +kernel
theorem d_Md_act_175 : decode b_Md_act 175 = .ok (.getfield 229, 3) := by decide +kernel
theorem d_Md_act_178 : decode b_Md_act 178 = .ok (.ifCond .le 12, 3) := by decide +kernel
theorem d_Md_act_181 : decode b_Md_act 181 = .ok (.aload_n 0, 1) := by decide +kernel
theorem d_Md_act_182 : decode b_Md_act 182 = .ok (.getfield 229, 3) := by decide +kernel
theorem d_Md_act_185 : decode b_Md_act 185 = .ok (.iconst 1, 1) := by decide +kernel
theorem d_Md_act_186 : decode b_Md_act 186 = .ok (.isub, 1) := by decide +kernel
theorem d_Md_act_187 : decode b_Md_act 187 = .ok (.goto 7, 3) := by decide +kernel
theorem d_Md_act_190 : decode b_Md_act 190 = .ok (.aload_n 0, 1) := by decide +kernel
theorem d_Md_act_191 : decode b_Md_act 191 = .ok (.getfield 229, 3) := by decide +kernel
theorem d_Md_act_194 : decode b_Md_act 194 = .ok (.putfield 229, 3) := by decide +kernel
theorem d_Md_act_197 : decode b_Md_act 197 = .ok (.goto 67, 3) := by decide +kernel
theorem d_Md_act_200 : decode b_Md_act 200 = .ok (.aload_n 0, 1) := by decide +kernel
theorem d_Md_act_201 : decode b_Md_act 201 = .ok (.getfield 226, 3) := by decide +kernel
theorem d_Md_act_204 : decode b_Md_act 204 = .ok (.iconst 1, 1) := by decide +kernel
theorem d_Md_act_205 : decode b_Md_act 205 = .ok (.iand, 1) := by decide +kernel
theorem d_Md_act_206 : decode b_Md_act 206 = .ok (.iconst 1, 1) := by decide +kernel
theorem d_Md_act_207 : decode b_Md_act 207 = .ok (.if_icmp .ne 12, 3) := by decide +kernel
theorem d_Md_act_210 : decode b_Md_act 210 = .ok (.aload_n 0, 1) := by decide +kernel
theorem d_Md_act_211 : decode b_Md_act 211 = .ok (.getfield 232, 3) := by decide +kernel
theorem d_Md_act_214 : decode b_Md_act 214 = .ok (.iconst 2, 1) := by decide +kernel
theorem d_Md_act_215 : decode b_Md_act 215 = .ok (.iadd, 1) := by decide +kernel
theorem d_Md_act_216 : decode b_Md_act 216 = .ok (.goto 4, 3) := by decide +kernel
theorem d_Md_act_219 : decode b_Md_act 219 = .ok (.iload_n 3, 1) := by decide +kernel
theorem d_Md_act_220 : decode b_Md_act 220 = .ok (.istore_n 3, 1) := by decide +kernel
theorem d_Md_act_221 : decode b_Md_act 221 = .ok (.goto 43, 3) := by decide +kernel
theorem d_Md_act_224 : decode b_Md_act 224 = .ok (.aload_n 0, 1) := by decide +kernel
theorem d_Md_act_225 : decode b_Md_act 225 = .ok (.aload_n 0, 1) := by decide +kernel
theorem d_Md_act_226 : decode b_Md_act 226 = .ok (.getfield 226, 3) := by decide +kernel
theorem d_Md_act_229 : decode b_Md_act 229 = .ok (.putfield 229, 3) := by decide +kernel
theorem d_Md_act_232 : decode b_Md_act 232 = .ok (.goto 32, 3) := by decide +kernel
theorem d_Md_act_235 : decode b_Md_act 235 = .ok (.aload_n 0, 1) := by decide +kernel
theorem d_Md_act_236 : decode b_Md_act 236 = .ok (.aload_n 0, 1) := by decide +kernel
theorem d_Md_act_237 : decode b_Md_act 237 = .ok (.getfield 229, 3) := by decide +kernel
theorem d_Md_act_240 : decode b_Md_act 240 = .ok (.aload_n 0, 1) := by decide +kernel
theorem d_Md_act_241 : decode b_Md_act 241 = .ok (.getfield 226, 3) := by decide +kernel
theorem d_Md_act_244 : decode b_Md_act 244 = .ok (.if_icmp .le 10, 3) := by decide +kernel
theorem d_Md_act_247 : decode b_Md_act 247 = .ok (.aload_n 0, 1) := by decide +kernel
theorem d_Md_act_248 : decode b_Md_act 248 = .ok (.getfield 229, 3) := by decide +kernel
theorem d_Md_act_251 : decode b_Md_act 251 = .ok (.goto 7, 3) := by decide +kernel
theorem d_Md_act_254 : decode b_Md_act 254 = .ok (.aload_n 0, 1) := by decide +kernel
theorem d_Md_act_255 : decode b_Md_act 255 = .ok (.getfield 226, 3) := by decide +kernel
theorem d_Md_act_258 : decode b_Md_act 258 = .ok (.putfield 226, 3) := by decide +kernel
theorem d_Md_act_261 : decode b_Md_act 261 = .ok (.goto 3, 3) := by decide +kernel
theorem d_Md_act_264 : decode b_Md_act 264 = .ok (.aload_n 0, 1) := by decide +kernel
theorem d_Md_act_265 : decode b_Md_act 265 = .ok (.iload_n 3, 1) := by decide +kernel
theorem d_Md_act_266 : decode b_Md_act 266 = .ok (.putfield 232, 3) := by decide +kernel
theorem d_Md_act_269 : decode b_Md_act 269 = .ok (.return_, 1) := by decide +kernel
theorem fl_Md_54 : Cond.fieldLink "LeasedBuildsModel" 54 "LeasedBuildsModel" "queued" "[I" ∈ WS := ms (i := 741) (by decide +kernel) rfl
theorem fl_Md_57 : Cond.fieldLink "LeasedBuildsModel" 57 "LeasedBuildsModel" "holder" "[I" ∈ WS := ms (i := 742) (by decide +kernel) rfl
theorem fl_Md_48 : Cond.fieldLink "LeasedBuildsModel" 48 "LeasedBuildsModel" "done" "[Z" ∈ WS := ms (i := 739) (by decide +kernel) rfl
theorem fl_Md_51 : Cond.fieldLink "LeasedBuildsModel" 51 "LeasedBuildsModel" "outcome" "[I" ∈ WS := ms (i := 740) (by decide +kernel) rfl
theorem fl_Md_7 : Cond.fieldLink "LeasedBuildsModel" 7 "LeasedBuildsModel" "down" "[Z" ∈ WS := ms (i := 725) (by decide +kernel) rfl
theorem cs_Md_153 : CwV WS "LeasedBuildsModel" 153 "LeasedBuildsModel" y_Md_needed b_Md_needed 5 (some .boolean) 1 := ⟨⟨ms (i := 939) (by decide +kernel) rfl, ms (i := 936) (by decide +kernel) rfl, ms (i := 938) (by decide +kernel) rfl, mp (i := 22) (by decide +kernel) rfl, ms (i := 11) (by decide +kernel) rfl⟩, by decide +kernel⟩
theorem fl_Md_66 : Cond.fieldLink "LeasedBuildsModel" 66 "LeasedBuildsModel" "jobKey" "[I" ∈ WS := ms (i := 747) (by decide +kernel) rfl
theorem fl_Md_156 : Cond.fieldLink "LeasedBuildsModel" 156 "LeasedBuildsModel" "latest" "I" ∈ WS := ms (i := 724) (by decide +kernel) rfl
theorem fl_Md_102 : Cond.fieldLink "LeasedBuildsModel" 102 "LeasedBuildsModel" "workers" "I" ∈ WS := ms (i := 721) (by decide +kernel) rfl
theorem cs_Md_159 : CwV WS "LeasedBuildsModel" 159 "LeasedBuildsModel" y_Md_fall b_Md_fall 3 none 1 := ⟨⟨ms (i := 947) (by decide +kernel) rfl, ms (i := 944) (by decide +kernel) rfl, ms (i := 946) (by decide +kernel) rfl, mp (i := 23) (by decide +kernel) rfl, ms (i := 11) (by decide +kernel) rfl⟩, by decide +kernel⟩
theorem fl_Md_163 : Cond.fieldLink "LeasedBuildsModel" 163 "LeasedBuildsModel" "writes" "I" ∈ WS := ms (i := 770) (by decide +kernel) rfl
theorem fl_Md_166 : Cond.fieldLink "LeasedBuildsModel" 166 "LeasedBuildsModel" "cuts" "I" ∈ WS := ms (i := 769) (by decide +kernel) rfl
theorem cs_Md_205 : CwV WS "LeasedBuildsModel" 205 "LeasedBuildsModel" y_Md_mayWrite b_Md_mayWrite 2 (some .boolean) 1 := ⟨⟨ms (i := 987) (by decide +kernel) rfl, ms (i := 984) (by decide +kernel) rfl, ms (i := 986) (by decide +kernel) rfl, mp (i := 31) (by decide +kernel) rfl, ms (i := 11) (by decide +kernel) rfl⟩, by decide +kernel⟩
theorem fl_Md_208 : Cond.fieldLink "LeasedBuildsModel" 208 "LeasedBuildsModel" "uploads" "I" ∈ WS := ms (i := 765) (by decide +kernel) rfl
theorem fl_Md_69 : Cond.fieldLink "LeasedBuildsModel" 69 "LeasedBuildsModel" "jobLeft" "[I" ∈ WS := ms (i := 748) (by decide +kernel) rfl
theorem fl_Md_72 : Cond.fieldLink "LeasedBuildsModel" 72 "LeasedBuildsModel" "jobRight" "[I" ∈ WS := ms (i := 749) (by decide +kernel) rfl
theorem fl_Md_75 : Cond.fieldLink "LeasedBuildsModel" 75 "LeasedBuildsModel" "jobDone" "[I" ∈ WS := ms (i := 750) (by decide +kernel) rfl
theorem fl_Md_211 : Cond.fieldLink "LeasedBuildsModel" 211 "LeasedBuildsModel" "duplicates" "I" ∈ WS := ms (i := 768) (by decide +kernel) rfl
theorem fl_Md_196 : Cond.fieldLink "LeasedBuildsModel" 196 "LeasedBuildsModel" "hits" "I" ∈ WS := ms (i := 766) (by decide +kernel) rfl
theorem fl_Md_199 : Cond.fieldLink "LeasedBuildsModel" 199 "LeasedBuildsModel" "queueing" "I" ∈ WS := ms (i := 744) (by decide +kernel) rfl
theorem cs_Md_242 : CwV WS "LeasedBuildsModel" 242 "LeasedBuildsModel" y_Md_leased b_Md_leased 3 (some .int) 1 := ⟨⟨ms (i := 1026) (by decide +kernel) rfl, ms (i := 1023) (by decide +kernel) rfl, ms (i := 1025) (by decide +kernel) rfl, mp (i := 39) (by decide +kernel) rfl, ms (i := 11) (by decide +kernel) rfl⟩, by decide +kernel⟩
theorem fl_Md_60 : Cond.fieldLink "LeasedBuildsModel" 60 "LeasedBuildsModel" "ends" "[I" ∈ WS := ms (i := 743) (by decide +kernel) rfl
theorem cs_Md_248 : CwV WS "LeasedBuildsModel" 248 "LeasedBuildsModel" y_Md_results b_Md_results 3 (some .int) 0 := ⟨⟨ms (i := 1050) (by decide +kernel) rfl, ms (i := 1047) (by decide +kernel) rfl, ms (i := 1049) (by decide +kernel) rfl, mp (i := 41) (by decide +kernel) rfl, ms (i := 11) (by decide +kernel) rfl⟩, by decide +kernel⟩
theorem fl_Md_245 : Cond.fieldLink "LeasedBuildsModel" 245 "LeasedBuildsModel" "leases" "I" ∈ WS := ms (i := 764) (by decide +kernel) rfl
theorem fl_Md_172 : Cond.fieldLink "LeasedBuildsModel" 172 "LeasedBuildsModel" "refused" "I" ∈ WS := ms (i := 767) (by decide +kernel) rfl
theorem cs_Md_252 : CwV WS "LeasedBuildsModel" 252 "LeasedBuildsModel" y_Md_missing b_Md_missing 3 (some .int) 0 := ⟨⟨ms (i := 1054) (by decide +kernel) rfl, ms (i := 1051) (by decide +kernel) rfl, ms (i := 1053) (by decide +kernel) rfl, mp (i := 42) (by decide +kernel) rfl, ms (i := 11) (by decide +kernel) rfl⟩, by decide +kernel⟩
theorem fl_Md_226 : Cond.fieldLink "LeasedBuildsModel" 226 "LeasedBuildsModel" "x" "I" ∈ WS := ms (i := 751) (by decide +kernel) rfl
theorem fl_Md_232 : Cond.fieldLink "LeasedBuildsModel" 232 "LeasedBuildsModel" "p" "I" ∈ WS := ms (i := 753) (by decide +kernel) rfl
theorem fl_Md_229 : Cond.fieldLink "LeasedBuildsModel" 229 "LeasedBuildsModel" "y" "I" ∈ WS := ms (i := 752) (by decide +kernel) rfl
set_option maxHeartbeats 4000000 in
set_option maxRecDepth 100000 in
theorem c_Md_needed (l : Launch) (D : va_G) (dA : Nat → ClassId) (ad : Nat → Nat) (hJ : Inj ad obM) (σ : Sg) (d : Int32) (B : Nat) (hWf : WfM B σ) (hB : B < 2 ^ 30) : CI l D clX (tyX dA) SM ad dA obM NL y_Md_needed w_Md_needed { frames := 0, cells := 0, slots := 0, locals := 0 } [.ref (ad 0), .int d] σ ((bI (mNeed σ d))) σ := by
  refine x_of (WS := WS) (cc := b_Md_needed) (maxL := 5) (ret := (some .boolean)) (by decide) rfl (Nat.le_of_ble_eq_true rfl) ?_
  intro pp ee ss mm below meth cdd hx hb hml hr hlk ht hown hnm hN hK hP ls hl
  have hl : lv_has ls 5 [(0, .ref (ad 0)), (1, .int d)] := hl
  have hS : va_S (Ad ad obM) ss.heap ss.heap [] := va_S.rf
  have hw := swfM
  have hM0 := hWf.it
  have hM1 := hWf.ks
  have hM2 := hWf.bl
  have hM3 := hWf.wk
  have hM4 := hWf.bi
  have hM5 := hWf.qu
  have hM6 := hWf.tm
  have hM7 := hWf.la
  refine lv_iconst (v := (nI 0)) hx hb d_Md_needed_0 (by decide) ?_
  refine lv_istore_n (lv' := [(2, .int (nI 0)), (0, .ref (ad 0)), (1, .int d)]) hx hb d_Md_needed_1 rfl hl (by decide) rfl (fun ls hl => ?_)
  refine lv_iconst (v := (nI 0)) hx hb d_Md_needed_2 (by decide) ?_
  refine lv_istore_n (lv' := [(3, .int (nI 0)), (2, .int (nI 0)), (0, .ref (ad 0)), (1, .int d)]) hx hb d_Md_needed_3 rfl hl (by decide) rfl (fun ls hl => ?_)
  refine x_loop (pc := 4) (α := Nat) (nL := 5) (fun k => gN σ 14 0 - k) (fun k => σ) (fun k => [(3, .int (nI k)), (2, .int (bI (anyN (fun k => mNeedP σ d k) k))), (1, .int d), (0, .ref (ad 0))]) (fun k => k ≤ gN σ 14 0) ?_ 0 (Nat.zero_le _) hP hS (lv_sub hl [0, 1, 3, 2] rfl)
  clear hP hS hl
  intro k hk H locs ls hP hS hl ih
  have hk : k ≤ gN σ 14 0 := hk
  have hl : lv_has ls 5 [(3, .int (nI k)), (2, .int (bI (anyN (fun k => mNeedP σ d k) k))), (1, .int d), (0, .ref (ad 0))] := hl
  have hP : va_P D clX (wd SM ad dA obM σ) H := hP
  refine lv_iload_n hx hb d_Md_needed_4 rfl (lv_at hl 0 rfl) ?_
  refine lv_aload_n hx hb d_Md_needed_5 rfl (lv_at hl 3 rfl) ?_
  refine x_get (v := .int (nI (gN σ 14 0))) (k := 14) hx hb ht xc_Md hown hK hP (moM (by decide)) rfl (by decide) fl_Md_122 rfl rfl rfl d_Md_needed_6 ?_
  refine x_icmp_geN (tgt := 97) hx hb d_Md_needed_9 (by decide) (by omega) (by omega) (fun h1 => ?_) (fun h1 => ?_)
  · refine lv_iload_n hx hb d_Md_needed_97 rfl (lv_at hl 1 rfl) ?_
    exact x_zret (b := anyN (fun k => mNeedP σ d k) k) hx hb hr hlk hK hP hS d_Md_needed_98 rfl (by unfold mNeed; rw [show k = gN σ 14 0 by omega]) rfl
  · refine lv_aload_n hx hb d_Md_needed_12 rfl (lv_at hl 3 rfl) ?_
    refine x_get (v := .ref (ad 15)) (k := 20) hx hb ht xc_Md hown hK hP (moM (by decide)) rfl (by decide) fl_Md_54 rfl rfl rfl d_Md_needed_13 ?_
    refine lv_iload_n hx hb d_Md_needed_16 rfl (lv_at hl 0 rfl) ?_
    refine x_nald (κ := 114) (n := 10) hx hb hK hP (moM (by decide)) rfl (by decide) rfl rfl (by omega) (by omega) d_Md_needed_17 ?_
    refine x_if_gtN (tgt := 30) hx hb d_Md_needed_18 (by decide) (Nat.lt_of_le_of_lt (hWf.qd _) (by omega)) (fun h2 => ?_) (fun h2 => ?_)
    · refine lv_iconst (v := (nI 1)) hx hb d_Md_needed_30 (by decide) ?_
      refine lv_goto (tgt := 35) hx hb d_Md_needed_31 (by decide) ?_
      refine lv_istore (lv' := [(4, .int (nI 1)), (3, .int (nI k)), (2, .int (bI (anyN (fun k => mNeedP σ d k) k))), (1, .int d), (0, .ref (ad 0))]) hx hb d_Md_needed_35 hl (by decide) rfl (fun ls hl => ?_)
      refine lv_iload_n hx hb d_Md_needed_37 rfl (lv_at hl 2 rfl) ?_
      refine x_ifneB (tgt := 85) hx hb d_Md_needed_38 (by decide) (fun h3 => ?_) (fun h3 => ?_)
      · refine lv_iconst (v := (nI 1)) hx hb d_Md_needed_85 (by decide) ?_
        refine lv_goto (tgt := 90) hx hb d_Md_needed_86 (by decide) ?_
        refine lv_istore_n (lv' := [(2, .int (nI 1)), (4, .int (nI 1)), (3, .int (nI k)), (1, .int d), (0, .ref (ad 0))]) hx hb d_Md_needed_90 rfl hl (by decide) rfl (fun ls hl => ?_)
        refine lv_iinc (lv' := [(3, .int (nI (k + 1))), (2, .int (nI 1)), (4, .int (nI 1)), (1, .int d), (0, .ref (ad 0))]) (v := (nI (k + 1))) hx hb d_Md_needed_91 hl (k := 2) rfl (nI_add _ _) (by decide) rfl (fun ls hl => ?_)
        refine lv_goto (tgt := 4) hx hb d_Md_needed_94 (by decide) ?_
        exact ih (k + 1) (by show k + 1 ≤ gN σ 14 0; omega) (by omega) H locs ls hP hS (lv_sub hl [0, 1, 3, 4] (by simp [lv_pick, anyN, h3] <;> rfl))
      · refine lv_aload_n hx hb d_Md_needed_41 rfl (lv_at hl 4 rfl) ?_
        refine x_get (v := .ref (ad 13)) (k := 18) hx hb ht xc_Md hown hK hP (moM (by decide)) rfl (by decide) fl_Md_48 rfl rfl rfl d_Md_needed_42 ?_
        refine lv_iload_n hx hb d_Md_needed_45 rfl (lv_at hl 1 rfl) ?_
        refine x_zald (κ := 112) (n := 10) hx hb hK hP (moM (by decide)) rfl (by decide) rfl rfl (by omega) (by omega) d_Md_needed_46 ?_
        refine x_ifeqB (tgt := 60) hx hb d_Md_needed_47 (by decide) (fun h4 => ?_) (fun h4 => ?_)
        · refine lv_iload hx hb d_Md_needed_60 (lv_at hl 0 rfl) ?_
          refine x_if_eqN (tgt := 89) hx hb d_Md_needed_62 (by decide) (by decide) (fun h => absurd h (by decide)) (fun _ => ?_)
          refine lv_aload_n hx hb d_Md_needed_65 rfl (lv_at hl 4 rfl) ?_
          refine x_get (v := .ref (ad 11)) (k := 16) hx hb ht xc_Md hown hK hP (moM (by decide)) rfl (by decide) fl_Md_42 rfl rfl rfl d_Md_needed_66 ?_
          refine lv_iload_n hx hb d_Md_needed_69 rfl (lv_at hl 1 rfl) ?_
          refine x_iald (κ := 110) (n := 10) hx hb hK hP (moM (by decide)) rfl (by decide) rfl rfl (by omega) (by omega) d_Md_needed_70 ?_
          refine lv_iload_n hx hb d_Md_needed_71 rfl (lv_at hl 3 rfl) ?_
          refine lv_icmp_eq (tgt := 85) hx hb d_Md_needed_72 (by decide) (fun h6 => ?_) (fun h6 => ?_)
          · refine lv_iconst (v := (nI 1)) hx hb d_Md_needed_85 (by decide) ?_
            refine lv_goto (tgt := 90) hx hb d_Md_needed_86 (by decide) ?_
            refine lv_istore_n (lv' := [(2, .int (nI 1)), (4, .int (nI 1)), (3, .int (nI k)), (1, .int d), (0, .ref (ad 0))]) hx hb d_Md_needed_90 rfl hl (by decide) rfl (fun ls hl => ?_)
            refine lv_iinc (lv' := [(3, .int (nI (k + 1))), (2, .int (nI 1)), (4, .int (nI 1)), (1, .int d), (0, .ref (ad 0))]) (v := (nI (k + 1))) hx hb d_Md_needed_91 hl (k := 2) rfl (nI_add _ _) (by decide) rfl (fun ls hl => ?_)
            refine lv_goto (tgt := 4) hx hb d_Md_needed_94 (by decide) ?_
            exact ih (k + 1) (by show k + 1 ≤ gN σ 14 0; omega) (by omega) H locs ls hP hS (lv_sub hl [0, 1, 3, 4] (by have hm : mNeedP σ d k = true := (by simp [mNeedP, h2, h4, h6]); simp [lv_pick, anyN, h3, hm] <;> rfl))
          · refine lv_aload_n hx hb d_Md_needed_75 rfl (lv_at hl 4 rfl) ?_
            refine x_get (v := .ref (ad 12)) (k := 17) hx hb ht xc_Md hown hK hP (moM (by decide)) rfl (by decide) fl_Md_45 rfl rfl rfl d_Md_needed_76 ?_
            refine lv_iload_n hx hb d_Md_needed_79 rfl (lv_at hl 1 rfl) ?_
            refine x_iald (κ := 111) (n := 10) hx hb hK hP (moM (by decide)) rfl (by decide) rfl rfl (by omega) (by omega) d_Md_needed_80 ?_
            refine lv_iload_n hx hb d_Md_needed_81 rfl (lv_at hl 3 rfl) ?_
            refine lv_icmp_ne (tgt := 89) hx hb d_Md_needed_82 (by decide) (fun h7 => ?_) (fun h7 => ?_)
            · refine lv_iconst (v := (nI 0)) hx hb d_Md_needed_89 (by decide) ?_
              refine lv_istore_n (lv' := [(2, .int (nI 0)), (4, .int (nI 1)), (3, .int (nI k)), (1, .int d), (0, .ref (ad 0))]) hx hb d_Md_needed_90 rfl hl (by decide) rfl (fun ls hl => ?_)
              refine lv_iinc (lv' := [(3, .int (nI (k + 1))), (2, .int (nI 0)), (4, .int (nI 1)), (1, .int d), (0, .ref (ad 0))]) (v := (nI (k + 1))) hx hb d_Md_needed_91 hl (k := 2) rfl (nI_add _ _) (by decide) rfl (fun ls hl => ?_)
              refine lv_goto (tgt := 4) hx hb d_Md_needed_94 (by decide) ?_
              exact ih (k + 1) (by show k + 1 ≤ gN σ 14 0; omega) (by omega) H locs ls hP hS (lv_sub hl [0, 1, 3, 4] (by have hm : mNeedP σ d k = false := (by simp [mNeedP, h2, h4, h6, h7]); simp [lv_pick, anyN, h3, hm] <;> rfl))
            · refine lv_iconst (v := (nI 1)) hx hb d_Md_needed_85 (by decide) ?_
              refine lv_goto (tgt := 90) hx hb d_Md_needed_86 (by decide) ?_
              refine lv_istore_n (lv' := [(2, .int (nI 1)), (4, .int (nI 1)), (3, .int (nI k)), (1, .int d), (0, .ref (ad 0))]) hx hb d_Md_needed_90 rfl hl (by decide) rfl (fun ls hl => ?_)
              refine lv_iinc (lv' := [(3, .int (nI (k + 1))), (2, .int (nI 1)), (4, .int (nI 1)), (1, .int d), (0, .ref (ad 0))]) (v := (nI (k + 1))) hx hb d_Md_needed_91 hl (k := 2) rfl (nI_add _ _) (by decide) rfl (fun ls hl => ?_)
              refine lv_goto (tgt := 4) hx hb d_Md_needed_94 (by decide) ?_
              exact ih (k + 1) (by show k + 1 ≤ gN σ 14 0; omega) (by omega) H locs ls hP hS (lv_sub hl [0, 1, 3, 4] (by have hm : mNeedP σ d k = true := (by simp [mNeedP, h2, h4, h6, h7]); simp [lv_pick, anyN, h3, hm] <;> rfl))
        · refine lv_aload_n hx hb d_Md_needed_50 rfl (lv_at hl 4 rfl) ?_
          refine x_get (v := .ref (ad 14)) (k := 19) hx hb ht xc_Md hown hK hP (moM (by decide)) rfl (by decide) fl_Md_51 rfl rfl rfl d_Md_needed_51 ?_
          refine lv_iload_n hx hb d_Md_needed_54 rfl (lv_at hl 1 rfl) ?_
          refine x_iald (κ := 113) (n := 10) hx hb hK hP (moM (by decide)) rfl (by decide) rfl rfl (by omega) (by omega) d_Md_needed_55 ?_
          refine lv_iload_n hx hb d_Md_needed_56 rfl (lv_at hl 3 rfl) ?_
          refine lv_icmp_eq (tgt := 85) hx hb d_Md_needed_57 (by decide) (fun h8 => ?_) (fun h8 => ?_)
          · refine lv_iconst (v := (nI 1)) hx hb d_Md_needed_85 (by decide) ?_
            refine lv_goto (tgt := 90) hx hb d_Md_needed_86 (by decide) ?_
            refine lv_istore_n (lv' := [(2, .int (nI 1)), (4, .int (nI 1)), (3, .int (nI k)), (1, .int d), (0, .ref (ad 0))]) hx hb d_Md_needed_90 rfl hl (by decide) rfl (fun ls hl => ?_)
            refine lv_iinc (lv' := [(3, .int (nI (k + 1))), (2, .int (nI 1)), (4, .int (nI 1)), (1, .int d), (0, .ref (ad 0))]) (v := (nI (k + 1))) hx hb d_Md_needed_91 hl (k := 2) rfl (nI_add _ _) (by decide) rfl (fun ls hl => ?_)
            refine lv_goto (tgt := 4) hx hb d_Md_needed_94 (by decide) ?_
            exact ih (k + 1) (by show k + 1 ≤ gN σ 14 0; omega) (by omega) H locs ls hP hS (lv_sub hl [0, 1, 3, 4] (by have hm : mNeedP σ d k = true := (by simp [mNeedP, h2, h4, h8]); simp [lv_pick, anyN, h3, hm] <;> rfl))
          · refine lv_iload hx hb d_Md_needed_60 (lv_at hl 0 rfl) ?_
            refine x_if_eqN (tgt := 89) hx hb d_Md_needed_62 (by decide) (by decide) (fun h => absurd h (by decide)) (fun _ => ?_)
            refine lv_aload_n hx hb d_Md_needed_65 rfl (lv_at hl 4 rfl) ?_
            refine x_get (v := .ref (ad 11)) (k := 16) hx hb ht xc_Md hown hK hP (moM (by decide)) rfl (by decide) fl_Md_42 rfl rfl rfl d_Md_needed_66 ?_
            refine lv_iload_n hx hb d_Md_needed_69 rfl (lv_at hl 1 rfl) ?_
            refine x_iald (κ := 110) (n := 10) hx hb hK hP (moM (by decide)) rfl (by decide) rfl rfl (by omega) (by omega) d_Md_needed_70 ?_
            refine lv_iload_n hx hb d_Md_needed_71 rfl (lv_at hl 3 rfl) ?_
            refine lv_icmp_eq (tgt := 85) hx hb d_Md_needed_72 (by decide) (fun h10 => ?_) (fun h10 => ?_)
            · refine lv_iconst (v := (nI 1)) hx hb d_Md_needed_85 (by decide) ?_
              refine lv_goto (tgt := 90) hx hb d_Md_needed_86 (by decide) ?_
              refine lv_istore_n (lv' := [(2, .int (nI 1)), (4, .int (nI 1)), (3, .int (nI k)), (1, .int d), (0, .ref (ad 0))]) hx hb d_Md_needed_90 rfl hl (by decide) rfl (fun ls hl => ?_)
              refine lv_iinc (lv' := [(3, .int (nI (k + 1))), (2, .int (nI 1)), (4, .int (nI 1)), (1, .int d), (0, .ref (ad 0))]) (v := (nI (k + 1))) hx hb d_Md_needed_91 hl (k := 2) rfl (nI_add _ _) (by decide) rfl (fun ls hl => ?_)
              refine lv_goto (tgt := 4) hx hb d_Md_needed_94 (by decide) ?_
              exact ih (k + 1) (by show k + 1 ≤ gN σ 14 0; omega) (by omega) H locs ls hP hS (lv_sub hl [0, 1, 3, 4] (by have hm : mNeedP σ d k = true := (by simp [mNeedP, h2, h4, h8, h10]); simp [lv_pick, anyN, h3, hm] <;> rfl))
            · refine lv_aload_n hx hb d_Md_needed_75 rfl (lv_at hl 4 rfl) ?_
              refine x_get (v := .ref (ad 12)) (k := 17) hx hb ht xc_Md hown hK hP (moM (by decide)) rfl (by decide) fl_Md_45 rfl rfl rfl d_Md_needed_76 ?_
              refine lv_iload_n hx hb d_Md_needed_79 rfl (lv_at hl 1 rfl) ?_
              refine x_iald (κ := 111) (n := 10) hx hb hK hP (moM (by decide)) rfl (by decide) rfl rfl (by omega) (by omega) d_Md_needed_80 ?_
              refine lv_iload_n hx hb d_Md_needed_81 rfl (lv_at hl 3 rfl) ?_
              refine lv_icmp_ne (tgt := 89) hx hb d_Md_needed_82 (by decide) (fun h11 => ?_) (fun h11 => ?_)
              · refine lv_iconst (v := (nI 0)) hx hb d_Md_needed_89 (by decide) ?_
                refine lv_istore_n (lv' := [(2, .int (nI 0)), (4, .int (nI 1)), (3, .int (nI k)), (1, .int d), (0, .ref (ad 0))]) hx hb d_Md_needed_90 rfl hl (by decide) rfl (fun ls hl => ?_)
                refine lv_iinc (lv' := [(3, .int (nI (k + 1))), (2, .int (nI 0)), (4, .int (nI 1)), (1, .int d), (0, .ref (ad 0))]) (v := (nI (k + 1))) hx hb d_Md_needed_91 hl (k := 2) rfl (nI_add _ _) (by decide) rfl (fun ls hl => ?_)
                refine lv_goto (tgt := 4) hx hb d_Md_needed_94 (by decide) ?_
                exact ih (k + 1) (by show k + 1 ≤ gN σ 14 0; omega) (by omega) H locs ls hP hS (lv_sub hl [0, 1, 3, 4] (by have hm : mNeedP σ d k = false := (by simp [mNeedP, h2, h4, h8, h10, h11]); simp [lv_pick, anyN, h3, hm] <;> rfl))
              · refine lv_iconst (v := (nI 1)) hx hb d_Md_needed_85 (by decide) ?_
                refine lv_goto (tgt := 90) hx hb d_Md_needed_86 (by decide) ?_
                refine lv_istore_n (lv' := [(2, .int (nI 1)), (4, .int (nI 1)), (3, .int (nI k)), (1, .int d), (0, .ref (ad 0))]) hx hb d_Md_needed_90 rfl hl (by decide) rfl (fun ls hl => ?_)
                refine lv_iinc (lv' := [(3, .int (nI (k + 1))), (2, .int (nI 1)), (4, .int (nI 1)), (1, .int d), (0, .ref (ad 0))]) (v := (nI (k + 1))) hx hb d_Md_needed_91 hl (k := 2) rfl (nI_add _ _) (by decide) rfl (fun ls hl => ?_)
                refine lv_goto (tgt := 4) hx hb d_Md_needed_94 (by decide) ?_
                exact ih (k + 1) (by show k + 1 ≤ gN σ 14 0; omega) (by omega) H locs ls hP hS (lv_sub hl [0, 1, 3, 4] (by have hm : mNeedP σ d k = true := (by simp [mNeedP, h2, h4, h8, h10, h11]); simp [lv_pick, anyN, h3, hm] <;> rfl))
    · refine lv_aload_n hx hb d_Md_needed_21 rfl (lv_at hl 3 rfl) ?_
      refine x_get (v := .ref (ad 16)) (k := 21) hx hb ht xc_Md hown hK hP (moM (by decide)) rfl (by decide) fl_Md_57 rfl rfl rfl d_Md_needed_22 ?_
      refine lv_iload_n hx hb d_Md_needed_25 rfl (lv_at hl 0 rfl) ?_
      refine x_nald (κ := 115) (n := 10) hx hb hK hP (moM (by decide)) rfl (by decide) rfl rfl (by omega) (by omega) d_Md_needed_26 ?_
      refine x_if_leN (tgt := 34) hx hb d_Md_needed_27 (by decide) (Nat.lt_of_le_of_lt (hWf.ho _) (by decide)) (fun h12 => ?_) (fun h12 => ?_)
      · refine lv_iconst (v := (nI 0)) hx hb d_Md_needed_34 (by decide) ?_
        refine lv_istore (lv' := [(4, .int (nI 0)), (3, .int (nI k)), (2, .int (bI (anyN (fun k => mNeedP σ d k) k))), (1, .int d), (0, .ref (ad 0))]) hx hb d_Md_needed_35 hl (by decide) rfl (fun ls hl => ?_)
        refine lv_iload_n hx hb d_Md_needed_37 rfl (lv_at hl 2 rfl) ?_
        refine x_ifneB (tgt := 85) hx hb d_Md_needed_38 (by decide) (fun h13 => ?_) (fun h13 => ?_)
        · refine lv_iconst (v := (nI 1)) hx hb d_Md_needed_85 (by decide) ?_
          refine lv_goto (tgt := 90) hx hb d_Md_needed_86 (by decide) ?_
          refine lv_istore_n (lv' := [(2, .int (nI 1)), (4, .int (nI 0)), (3, .int (nI k)), (1, .int d), (0, .ref (ad 0))]) hx hb d_Md_needed_90 rfl hl (by decide) rfl (fun ls hl => ?_)
          refine lv_iinc (lv' := [(3, .int (nI (k + 1))), (2, .int (nI 1)), (4, .int (nI 0)), (1, .int d), (0, .ref (ad 0))]) (v := (nI (k + 1))) hx hb d_Md_needed_91 hl (k := 2) rfl (nI_add _ _) (by decide) rfl (fun ls hl => ?_)
          refine lv_goto (tgt := 4) hx hb d_Md_needed_94 (by decide) ?_
          exact ih (k + 1) (by show k + 1 ≤ gN σ 14 0; omega) (by omega) H locs ls hP hS (lv_sub hl [0, 1, 3, 4] (by simp [lv_pick, anyN, h13] <;> rfl))
        · refine lv_aload_n hx hb d_Md_needed_41 rfl (lv_at hl 4 rfl) ?_
          refine x_get (v := .ref (ad 13)) (k := 18) hx hb ht xc_Md hown hK hP (moM (by decide)) rfl (by decide) fl_Md_48 rfl rfl rfl d_Md_needed_42 ?_
          refine lv_iload_n hx hb d_Md_needed_45 rfl (lv_at hl 1 rfl) ?_
          refine x_zald (κ := 112) (n := 10) hx hb hK hP (moM (by decide)) rfl (by decide) rfl rfl (by omega) (by omega) d_Md_needed_46 ?_
          refine x_ifeqB (tgt := 60) hx hb d_Md_needed_47 (by decide) (fun h14 => ?_) (fun h14 => ?_)
          · refine lv_iload hx hb d_Md_needed_60 (lv_at hl 0 rfl) ?_
            refine x_if_eqN (tgt := 89) hx hb d_Md_needed_62 (by decide) (by decide) (fun _ => ?_) (fun h => absurd h (by decide))
            refine lv_iconst (v := (nI 0)) hx hb d_Md_needed_89 (by decide) ?_
            refine lv_istore_n (lv' := [(2, .int (nI 0)), (4, .int (nI 0)), (3, .int (nI k)), (1, .int d), (0, .ref (ad 0))]) hx hb d_Md_needed_90 rfl hl (by decide) rfl (fun ls hl => ?_)
            refine lv_iinc (lv' := [(3, .int (nI (k + 1))), (2, .int (nI 0)), (4, .int (nI 0)), (1, .int d), (0, .ref (ad 0))]) (v := (nI (k + 1))) hx hb d_Md_needed_91 hl (k := 2) rfl (nI_add _ _) (by decide) rfl (fun ls hl => ?_)
            refine lv_goto (tgt := 4) hx hb d_Md_needed_94 (by decide) ?_
            exact ih (k + 1) (by show k + 1 ≤ gN σ 14 0; omega) (by omega) H locs ls hP hS (lv_sub hl [0, 1, 3, 4] (by have hm : mNeedP σ d k = false := (by simp [mNeedP, h2, h12, h14]); simp [lv_pick, anyN, h13, hm] <;> rfl))
          · refine lv_aload_n hx hb d_Md_needed_50 rfl (lv_at hl 4 rfl) ?_
            refine x_get (v := .ref (ad 14)) (k := 19) hx hb ht xc_Md hown hK hP (moM (by decide)) rfl (by decide) fl_Md_51 rfl rfl rfl d_Md_needed_51 ?_
            refine lv_iload_n hx hb d_Md_needed_54 rfl (lv_at hl 1 rfl) ?_
            refine x_iald (κ := 113) (n := 10) hx hb hK hP (moM (by decide)) rfl (by decide) rfl rfl (by omega) (by omega) d_Md_needed_55 ?_
            refine lv_iload_n hx hb d_Md_needed_56 rfl (lv_at hl 3 rfl) ?_
            refine lv_icmp_eq (tgt := 85) hx hb d_Md_needed_57 (by decide) (fun h16 => ?_) (fun h16 => ?_)
            · refine lv_iconst (v := (nI 1)) hx hb d_Md_needed_85 (by decide) ?_
              refine lv_goto (tgt := 90) hx hb d_Md_needed_86 (by decide) ?_
              refine lv_istore_n (lv' := [(2, .int (nI 1)), (4, .int (nI 0)), (3, .int (nI k)), (1, .int d), (0, .ref (ad 0))]) hx hb d_Md_needed_90 rfl hl (by decide) rfl (fun ls hl => ?_)
              refine lv_iinc (lv' := [(3, .int (nI (k + 1))), (2, .int (nI 1)), (4, .int (nI 0)), (1, .int d), (0, .ref (ad 0))]) (v := (nI (k + 1))) hx hb d_Md_needed_91 hl (k := 2) rfl (nI_add _ _) (by decide) rfl (fun ls hl => ?_)
              refine lv_goto (tgt := 4) hx hb d_Md_needed_94 (by decide) ?_
              exact ih (k + 1) (by show k + 1 ≤ gN σ 14 0; omega) (by omega) H locs ls hP hS (lv_sub hl [0, 1, 3, 4] (by have hm : mNeedP σ d k = true := (by simp [mNeedP, h2, h12, h14, h16]); simp [lv_pick, anyN, h13, hm] <;> rfl))
            · refine lv_iload hx hb d_Md_needed_60 (lv_at hl 0 rfl) ?_
              refine x_if_eqN (tgt := 89) hx hb d_Md_needed_62 (by decide) (by decide) (fun _ => ?_) (fun h => absurd h (by decide))
              refine lv_iconst (v := (nI 0)) hx hb d_Md_needed_89 (by decide) ?_
              refine lv_istore_n (lv' := [(2, .int (nI 0)), (4, .int (nI 0)), (3, .int (nI k)), (1, .int d), (0, .ref (ad 0))]) hx hb d_Md_needed_90 rfl hl (by decide) rfl (fun ls hl => ?_)
              refine lv_iinc (lv' := [(3, .int (nI (k + 1))), (2, .int (nI 0)), (4, .int (nI 0)), (1, .int d), (0, .ref (ad 0))]) (v := (nI (k + 1))) hx hb d_Md_needed_91 hl (k := 2) rfl (nI_add _ _) (by decide) rfl (fun ls hl => ?_)
              refine lv_goto (tgt := 4) hx hb d_Md_needed_94 (by decide) ?_
              exact ih (k + 1) (by show k + 1 ≤ gN σ 14 0; omega) (by omega) H locs ls hP hS (lv_sub hl [0, 1, 3, 4] (by have hm : mNeedP σ d k = false := (by simp [mNeedP, h2, h12, h14, h16]); simp [lv_pick, anyN, h13, hm] <;> rfl))
      · refine lv_iconst (v := (nI 1)) hx hb d_Md_needed_30 (by decide) ?_
        refine lv_goto (tgt := 35) hx hb d_Md_needed_31 (by decide) ?_
        refine lv_istore (lv' := [(4, .int (nI 1)), (3, .int (nI k)), (2, .int (bI (anyN (fun k => mNeedP σ d k) k))), (1, .int d), (0, .ref (ad 0))]) hx hb d_Md_needed_35 hl (by decide) rfl (fun ls hl => ?_)
        refine lv_iload_n hx hb d_Md_needed_37 rfl (lv_at hl 2 rfl) ?_
        refine x_ifneB (tgt := 85) hx hb d_Md_needed_38 (by decide) (fun h18 => ?_) (fun h18 => ?_)
        · refine lv_iconst (v := (nI 1)) hx hb d_Md_needed_85 (by decide) ?_
          refine lv_goto (tgt := 90) hx hb d_Md_needed_86 (by decide) ?_
          refine lv_istore_n (lv' := [(2, .int (nI 1)), (4, .int (nI 1)), (3, .int (nI k)), (1, .int d), (0, .ref (ad 0))]) hx hb d_Md_needed_90 rfl hl (by decide) rfl (fun ls hl => ?_)
          refine lv_iinc (lv' := [(3, .int (nI (k + 1))), (2, .int (nI 1)), (4, .int (nI 1)), (1, .int d), (0, .ref (ad 0))]) (v := (nI (k + 1))) hx hb d_Md_needed_91 hl (k := 2) rfl (nI_add _ _) (by decide) rfl (fun ls hl => ?_)
          refine lv_goto (tgt := 4) hx hb d_Md_needed_94 (by decide) ?_
          exact ih (k + 1) (by show k + 1 ≤ gN σ 14 0; omega) (by omega) H locs ls hP hS (lv_sub hl [0, 1, 3, 4] (by simp [lv_pick, anyN, h18] <;> rfl))
        · refine lv_aload_n hx hb d_Md_needed_41 rfl (lv_at hl 4 rfl) ?_
          refine x_get (v := .ref (ad 13)) (k := 18) hx hb ht xc_Md hown hK hP (moM (by decide)) rfl (by decide) fl_Md_48 rfl rfl rfl d_Md_needed_42 ?_
          refine lv_iload_n hx hb d_Md_needed_45 rfl (lv_at hl 1 rfl) ?_
          refine x_zald (κ := 112) (n := 10) hx hb hK hP (moM (by decide)) rfl (by decide) rfl rfl (by omega) (by omega) d_Md_needed_46 ?_
          refine x_ifeqB (tgt := 60) hx hb d_Md_needed_47 (by decide) (fun h19 => ?_) (fun h19 => ?_)
          · refine lv_iload hx hb d_Md_needed_60 (lv_at hl 0 rfl) ?_
            refine x_if_eqN (tgt := 89) hx hb d_Md_needed_62 (by decide) (by decide) (fun h => absurd h (by decide)) (fun _ => ?_)
            refine lv_aload_n hx hb d_Md_needed_65 rfl (lv_at hl 4 rfl) ?_
            refine x_get (v := .ref (ad 11)) (k := 16) hx hb ht xc_Md hown hK hP (moM (by decide)) rfl (by decide) fl_Md_42 rfl rfl rfl d_Md_needed_66 ?_
            refine lv_iload_n hx hb d_Md_needed_69 rfl (lv_at hl 1 rfl) ?_
            refine x_iald (κ := 110) (n := 10) hx hb hK hP (moM (by decide)) rfl (by decide) rfl rfl (by omega) (by omega) d_Md_needed_70 ?_
            refine lv_iload_n hx hb d_Md_needed_71 rfl (lv_at hl 3 rfl) ?_
            refine lv_icmp_eq (tgt := 85) hx hb d_Md_needed_72 (by decide) (fun h21 => ?_) (fun h21 => ?_)
            · refine lv_iconst (v := (nI 1)) hx hb d_Md_needed_85 (by decide) ?_
              refine lv_goto (tgt := 90) hx hb d_Md_needed_86 (by decide) ?_
              refine lv_istore_n (lv' := [(2, .int (nI 1)), (4, .int (nI 1)), (3, .int (nI k)), (1, .int d), (0, .ref (ad 0))]) hx hb d_Md_needed_90 rfl hl (by decide) rfl (fun ls hl => ?_)
              refine lv_iinc (lv' := [(3, .int (nI (k + 1))), (2, .int (nI 1)), (4, .int (nI 1)), (1, .int d), (0, .ref (ad 0))]) (v := (nI (k + 1))) hx hb d_Md_needed_91 hl (k := 2) rfl (nI_add _ _) (by decide) rfl (fun ls hl => ?_)
              refine lv_goto (tgt := 4) hx hb d_Md_needed_94 (by decide) ?_
              exact ih (k + 1) (by show k + 1 ≤ gN σ 14 0; omega) (by omega) H locs ls hP hS (lv_sub hl [0, 1, 3, 4] (by have hm : mNeedP σ d k = true := (by simp [mNeedP, h2, h12, h19, h21]); simp [lv_pick, anyN, h18, hm] <;> rfl))
            · refine lv_aload_n hx hb d_Md_needed_75 rfl (lv_at hl 4 rfl) ?_
              refine x_get (v := .ref (ad 12)) (k := 17) hx hb ht xc_Md hown hK hP (moM (by decide)) rfl (by decide) fl_Md_45 rfl rfl rfl d_Md_needed_76 ?_
              refine lv_iload_n hx hb d_Md_needed_79 rfl (lv_at hl 1 rfl) ?_
              refine x_iald (κ := 111) (n := 10) hx hb hK hP (moM (by decide)) rfl (by decide) rfl rfl (by omega) (by omega) d_Md_needed_80 ?_
              refine lv_iload_n hx hb d_Md_needed_81 rfl (lv_at hl 3 rfl) ?_
              refine lv_icmp_ne (tgt := 89) hx hb d_Md_needed_82 (by decide) (fun h22 => ?_) (fun h22 => ?_)
              · refine lv_iconst (v := (nI 0)) hx hb d_Md_needed_89 (by decide) ?_
                refine lv_istore_n (lv' := [(2, .int (nI 0)), (4, .int (nI 1)), (3, .int (nI k)), (1, .int d), (0, .ref (ad 0))]) hx hb d_Md_needed_90 rfl hl (by decide) rfl (fun ls hl => ?_)
                refine lv_iinc (lv' := [(3, .int (nI (k + 1))), (2, .int (nI 0)), (4, .int (nI 1)), (1, .int d), (0, .ref (ad 0))]) (v := (nI (k + 1))) hx hb d_Md_needed_91 hl (k := 2) rfl (nI_add _ _) (by decide) rfl (fun ls hl => ?_)
                refine lv_goto (tgt := 4) hx hb d_Md_needed_94 (by decide) ?_
                exact ih (k + 1) (by show k + 1 ≤ gN σ 14 0; omega) (by omega) H locs ls hP hS (lv_sub hl [0, 1, 3, 4] (by have hm : mNeedP σ d k = false := (by simp [mNeedP, h2, h12, h19, h21, h22]); simp [lv_pick, anyN, h18, hm] <;> rfl))
              · refine lv_iconst (v := (nI 1)) hx hb d_Md_needed_85 (by decide) ?_
                refine lv_goto (tgt := 90) hx hb d_Md_needed_86 (by decide) ?_
                refine lv_istore_n (lv' := [(2, .int (nI 1)), (4, .int (nI 1)), (3, .int (nI k)), (1, .int d), (0, .ref (ad 0))]) hx hb d_Md_needed_90 rfl hl (by decide) rfl (fun ls hl => ?_)
                refine lv_iinc (lv' := [(3, .int (nI (k + 1))), (2, .int (nI 1)), (4, .int (nI 1)), (1, .int d), (0, .ref (ad 0))]) (v := (nI (k + 1))) hx hb d_Md_needed_91 hl (k := 2) rfl (nI_add _ _) (by decide) rfl (fun ls hl => ?_)
                refine lv_goto (tgt := 4) hx hb d_Md_needed_94 (by decide) ?_
                exact ih (k + 1) (by show k + 1 ≤ gN σ 14 0; omega) (by omega) H locs ls hP hS (lv_sub hl [0, 1, 3, 4] (by have hm : mNeedP σ d k = true := (by simp [mNeedP, h2, h12, h19, h21, h22]); simp [lv_pick, anyN, h18, hm] <;> rfl))
          · refine lv_aload_n hx hb d_Md_needed_50 rfl (lv_at hl 4 rfl) ?_
            refine x_get (v := .ref (ad 14)) (k := 19) hx hb ht xc_Md hown hK hP (moM (by decide)) rfl (by decide) fl_Md_51 rfl rfl rfl d_Md_needed_51 ?_
            refine lv_iload_n hx hb d_Md_needed_54 rfl (lv_at hl 1 rfl) ?_
            refine x_iald (κ := 113) (n := 10) hx hb hK hP (moM (by decide)) rfl (by decide) rfl rfl (by omega) (by omega) d_Md_needed_55 ?_
            refine lv_iload_n hx hb d_Md_needed_56 rfl (lv_at hl 3 rfl) ?_
            refine lv_icmp_eq (tgt := 85) hx hb d_Md_needed_57 (by decide) (fun h23 => ?_) (fun h23 => ?_)
            · refine lv_iconst (v := (nI 1)) hx hb d_Md_needed_85 (by decide) ?_
              refine lv_goto (tgt := 90) hx hb d_Md_needed_86 (by decide) ?_
              refine lv_istore_n (lv' := [(2, .int (nI 1)), (4, .int (nI 1)), (3, .int (nI k)), (1, .int d), (0, .ref (ad 0))]) hx hb d_Md_needed_90 rfl hl (by decide) rfl (fun ls hl => ?_)
              refine lv_iinc (lv' := [(3, .int (nI (k + 1))), (2, .int (nI 1)), (4, .int (nI 1)), (1, .int d), (0, .ref (ad 0))]) (v := (nI (k + 1))) hx hb d_Md_needed_91 hl (k := 2) rfl (nI_add _ _) (by decide) rfl (fun ls hl => ?_)
              refine lv_goto (tgt := 4) hx hb d_Md_needed_94 (by decide) ?_
              exact ih (k + 1) (by show k + 1 ≤ gN σ 14 0; omega) (by omega) H locs ls hP hS (lv_sub hl [0, 1, 3, 4] (by have hm : mNeedP σ d k = true := (by simp [mNeedP, h2, h12, h19, h23]); simp [lv_pick, anyN, h18, hm] <;> rfl))
            · refine lv_iload hx hb d_Md_needed_60 (lv_at hl 0 rfl) ?_
              refine x_if_eqN (tgt := 89) hx hb d_Md_needed_62 (by decide) (by decide) (fun h => absurd h (by decide)) (fun _ => ?_)
              refine lv_aload_n hx hb d_Md_needed_65 rfl (lv_at hl 4 rfl) ?_
              refine x_get (v := .ref (ad 11)) (k := 16) hx hb ht xc_Md hown hK hP (moM (by decide)) rfl (by decide) fl_Md_42 rfl rfl rfl d_Md_needed_66 ?_
              refine lv_iload_n hx hb d_Md_needed_69 rfl (lv_at hl 1 rfl) ?_
              refine x_iald (κ := 110) (n := 10) hx hb hK hP (moM (by decide)) rfl (by decide) rfl rfl (by omega) (by omega) d_Md_needed_70 ?_
              refine lv_iload_n hx hb d_Md_needed_71 rfl (lv_at hl 3 rfl) ?_
              refine lv_icmp_eq (tgt := 85) hx hb d_Md_needed_72 (by decide) (fun h25 => ?_) (fun h25 => ?_)
              · refine lv_iconst (v := (nI 1)) hx hb d_Md_needed_85 (by decide) ?_
                refine lv_goto (tgt := 90) hx hb d_Md_needed_86 (by decide) ?_
                refine lv_istore_n (lv' := [(2, .int (nI 1)), (4, .int (nI 1)), (3, .int (nI k)), (1, .int d), (0, .ref (ad 0))]) hx hb d_Md_needed_90 rfl hl (by decide) rfl (fun ls hl => ?_)
                refine lv_iinc (lv' := [(3, .int (nI (k + 1))), (2, .int (nI 1)), (4, .int (nI 1)), (1, .int d), (0, .ref (ad 0))]) (v := (nI (k + 1))) hx hb d_Md_needed_91 hl (k := 2) rfl (nI_add _ _) (by decide) rfl (fun ls hl => ?_)
                refine lv_goto (tgt := 4) hx hb d_Md_needed_94 (by decide) ?_
                exact ih (k + 1) (by show k + 1 ≤ gN σ 14 0; omega) (by omega) H locs ls hP hS (lv_sub hl [0, 1, 3, 4] (by have hm : mNeedP σ d k = true := (by simp [mNeedP, h2, h12, h19, h23, h25]); simp [lv_pick, anyN, h18, hm] <;> rfl))
              · refine lv_aload_n hx hb d_Md_needed_75 rfl (lv_at hl 4 rfl) ?_
                refine x_get (v := .ref (ad 12)) (k := 17) hx hb ht xc_Md hown hK hP (moM (by decide)) rfl (by decide) fl_Md_45 rfl rfl rfl d_Md_needed_76 ?_
                refine lv_iload_n hx hb d_Md_needed_79 rfl (lv_at hl 1 rfl) ?_
                refine x_iald (κ := 111) (n := 10) hx hb hK hP (moM (by decide)) rfl (by decide) rfl rfl (by omega) (by omega) d_Md_needed_80 ?_
                refine lv_iload_n hx hb d_Md_needed_81 rfl (lv_at hl 3 rfl) ?_
                refine lv_icmp_ne (tgt := 89) hx hb d_Md_needed_82 (by decide) (fun h26 => ?_) (fun h26 => ?_)
                · refine lv_iconst (v := (nI 0)) hx hb d_Md_needed_89 (by decide) ?_
                  refine lv_istore_n (lv' := [(2, .int (nI 0)), (4, .int (nI 1)), (3, .int (nI k)), (1, .int d), (0, .ref (ad 0))]) hx hb d_Md_needed_90 rfl hl (by decide) rfl (fun ls hl => ?_)
                  refine lv_iinc (lv' := [(3, .int (nI (k + 1))), (2, .int (nI 0)), (4, .int (nI 1)), (1, .int d), (0, .ref (ad 0))]) (v := (nI (k + 1))) hx hb d_Md_needed_91 hl (k := 2) rfl (nI_add _ _) (by decide) rfl (fun ls hl => ?_)
                  refine lv_goto (tgt := 4) hx hb d_Md_needed_94 (by decide) ?_
                  exact ih (k + 1) (by show k + 1 ≤ gN σ 14 0; omega) (by omega) H locs ls hP hS (lv_sub hl [0, 1, 3, 4] (by have hm : mNeedP σ d k = false := (by simp [mNeedP, h2, h12, h19, h23, h25, h26]); simp [lv_pick, anyN, h18, hm] <;> rfl))
                · refine lv_iconst (v := (nI 1)) hx hb d_Md_needed_85 (by decide) ?_
                  refine lv_goto (tgt := 90) hx hb d_Md_needed_86 (by decide) ?_
                  refine lv_istore_n (lv' := [(2, .int (nI 1)), (4, .int (nI 1)), (3, .int (nI k)), (1, .int d), (0, .ref (ad 0))]) hx hb d_Md_needed_90 rfl hl (by decide) rfl (fun ls hl => ?_)
                  refine lv_iinc (lv' := [(3, .int (nI (k + 1))), (2, .int (nI 1)), (4, .int (nI 1)), (1, .int d), (0, .ref (ad 0))]) (v := (nI (k + 1))) hx hb d_Md_needed_91 hl (k := 2) rfl (nI_add _ _) (by decide) rfl (fun ls hl => ?_)
                  refine lv_goto (tgt := 4) hx hb d_Md_needed_94 (by decide) ?_
                  exact ih (k + 1) (by show k + 1 ≤ gN σ 14 0; omega) (by omega) H locs ls hP hS (lv_sub hl [0, 1, 3, 4] (by have hm : mNeedP σ d k = true := (by simp [mNeedP, h2, h12, h19, h23, h25, h26]); simp [lv_pick, anyN, h18, hm] <;> rfl))
set_option maxHeartbeats 4000000 in
set_option maxRecDepth 100000 in
theorem c_Md_collect (l : Launch) (D : va_G) (dA : Nat → ClassId) (ad : Nat → Nat) (hJ : Inj ad obM) (σ : Sg)  (B : Nat) (hWf : WfM B σ) (hB : B < 2 ^ 30) : CI l D clX (tyX dA) SM ad dA obM NL y_Md_collect w_Md_collect { frames := 1, cells := 0, slots := 0, locals := 24 } [.ref (ad 0)] σ ((mColR σ)) (mColS σ) := by
  refine x_of (WS := WS) (cc := b_Md_collect) (maxL := 5) (ret := (some .int)) (by decide) rfl (Nat.le_of_ble_eq_true rfl) ?_
  intro pp ee ss mm below meth cdd hx hb hml hr hlk ht hown hnm hN hK hP ls hl
  have hl : lv_has ls 5 [(0, .ref (ad 0))] := hl
  have hS : va_S (Ad ad obM) ss.heap ss.heap [] := va_S.rf
  have hw := swfM
  have hM0 := hWf.it
  have hM1 := hWf.ks
  have hM2 := hWf.bl
  have hM3 := hWf.wk
  have hM4 := hWf.bi
  have hM5 := hWf.qu
  have hM6 := hWf.tm
  have hM7 := hWf.la
  have hW0 := hWf
  refine lv_aload_n hx hb d_Md_collect_0 rfl (lv_at hl 0 rfl) ?_
  refine x_get (v := .ref (ad 1)) (k := 4) hx hb ht xc_Md hown hK hP (moM (by decide)) rfl (by decide) fl_Md_7 rfl rfl rfl d_Md_collect_1 ?_
  refine lv_iconst (v := (nI 0)) hx hb d_Md_collect_4 (by decide) ?_
  refine x_zald (κ := 100) (n := 5) hx hb hK hP (moM (by decide)) rfl (by decide) rfl rfl (by omega) (by omega) d_Md_collect_5 ?_
  refine x_ifeqB (tgt := 11) hx hb d_Md_collect_6 (by decide) (fun h1 => ?_) (fun h1 => ?_)
  · refine lv_iconst (v := (nI 0)) hx hb d_Md_collect_11 (by decide) ?_
    refine lv_istore_n (lv' := [(1, .int (nI 0)), (0, .ref (ad 0))]) hx hb d_Md_collect_12 rfl hl (by decide) rfl (fun ls hl => ?_)
    refine lv_aload_n hx hb d_Md_collect_13 rfl (lv_at hl 1 rfl) ?_
    refine x_get (v := .int (nI (gN σ 24 0))) (k := 24) hx hb ht xc_Md hown hK hP (moM (by decide)) rfl (by decide) fl_Md_147 rfl rfl rfl d_Md_collect_14 ?_
    refine lv_istore_n (lv' := [(2, .int (nI (gN σ 24 0))), (1, .int (nI 0)), (0, .ref (ad 0))]) hx hb d_Md_collect_17 rfl hl (by decide) rfl (fun ls hl => ?_)
    refine lv_iconst (v := (nI 0)) hx hb d_Md_collect_18 (by decide) ?_
    refine lv_istore_n (lv' := [(3, .int (nI 0)), (2, .int (nI (gN σ 24 0))), (1, .int (nI 0)), (0, .ref (ad 0))]) hx hb d_Md_collect_19 rfl hl (by decide) rfl (fun ls hl => ?_)
    refine x_loop (pc := 20) (α := Nat) (nL := 5) (fun i => gN σ 24 0 - i) (fun i => (colN σ i).1) (fun i => [(3, .int (nI i)), (2, .int (nI (gN σ 24 0))), (1, .int (nI ((colN σ i).2))), (0, .ref (ad 0))]) (fun i => i ≤ gN σ 24 0) ?_ 0 (Nat.zero_le _) hP hS (lv_sub hl [0, 1, 2, 3] rfl)
    clear hP hS hl
    intro i hi H locs ls hP hS hl ih
    have hi : i ≤ gN σ 24 0 := hi
    have hWf : WfM B (colN σ i).1 := wfm_colN hW0 i
    have hcl := colN_le σ i
    have hl : lv_has ls 5 [(3, .int (nI i)), (2, .int (nI (gN σ 24 0))), (1, .int (nI ((colN σ i).2))), (0, .ref (ad 0))] := hl
    have hP : va_P D clX (wd SM ad dA obM ((colN σ i).1)) H := hP
    refine lv_iload_n hx hb d_Md_collect_20 rfl (lv_at hl 0 rfl) ?_
    refine lv_iload_n hx hb d_Md_collect_21 rfl (lv_at hl 1 rfl) ?_
    refine x_icmp_geN (tgt := 67) hx hb d_Md_collect_22 (by decide) (by omega) (by omega) (fun h2 => ?_) (fun h2 => ?_)
    · refine lv_aload_n hx hb d_Md_collect_67 rfl (lv_at hl 3 rfl) ?_
      refine lv_iload_n hx hb d_Md_collect_68 rfl (lv_at hl 2 rfl) ?_
      refine x_put (σ' := sN ((colN σ i).1) 24 0 ((colN σ i).2)) (v := .int (nI ((colN σ i).2))) (k := 24) hx hb ht xc_Md t_Md t_Md_ok n_Md hown hK hP hJ hw hS (moM (by decide)) rfl (by decide) fl_Md_147 rfl rfl rfl off_N rfl rfl rfl d_Md_collect_69 (fun H locs hP hS => ?_)
      refine lv_iload_n hx hb d_Md_collect_72 rfl (lv_at hl 1 rfl) ?_
      refine lv_iload_n hx hb d_Md_collect_73 rfl (lv_at hl 2 rfl) ?_
      refine x_isubN hx hb d_Md_collect_74 (by omega) ?_
      exact x_iret hx hb hr hlk hK hP hS d_Md_collect_75 (by unfold mColR; rw [if_neg (by rw [h1]; decide), show i = gN σ 24 0 by omega]) (by unfold mColS; rw [if_neg (by rw [h1]; decide), show i = gN σ 24 0 by omega])
    · refine lv_aload_n hx hb d_Md_collect_25 rfl (lv_at hl 3 rfl) ?_
      refine lv_aload_n hx hb d_Md_collect_26 rfl (lv_at hl 3 rfl) ?_
      refine x_get (v := .ref (ad 18)) (k := 25) hx hb ht xc_Md hown hK hP (moM (by decide)) rfl (by decide) fl_Md_63 rfl rfl rfl d_Md_collect_27 ?_
      refine lv_iload_n hx hb d_Md_collect_30 rfl (lv_at hl 0 rfl) ?_
      refine x_iald (κ := 117) (n := 12) hx hb hK hP (moM (by decide)) rfl (by decide) rfl rfl (by omega) (by omega) d_Md_collect_31 ?_
      refine x_ci (x_rV (As := [.int (gI ((colN σ i).1) 117 i)]) (rest := []) hx hb hml hown ht gW cs_Md_118 (c_Md_digest l D dA ad hJ ((colN σ i).1) (gI ((colN σ i).1) 117 i)) rfl rfl (by decide) xc_Md hN hK hP (moM (by decide)) rfl rfl hl.1 rfl (Nat.le_of_ble_eq_true rfl) d_Md_collect_32 (by decide)) hS (fun H locs hP hS => ?_)
      refine lv_istore (lv' := [(4, .int (dg (gI ((colN σ i).1) 117 i))), (3, .int (nI i)), (2, .int (nI (gN σ 24 0))), (1, .int (nI ((colN σ i).2))), (0, .ref (ad 0))]) hx hb d_Md_collect_35 hl (by decide) rfl (fun ls hl => ?_)
      refine lv_aload_n hx hb d_Md_collect_37 rfl (lv_at hl 4 rfl) ?_
      refine lv_iload hx hb d_Md_collect_38 (lv_at hl 0 rfl) ?_
      refine x_ci (x_rV (As := [.int (dg (gI ((colN σ i).1) 117 i))]) (rest := []) hx hb hml hown ht gW cs_Md_153 (c_Md_needed l D dA ad hJ ((colN σ i).1) (dg (gI ((colN σ i).1) 117 i)) B hWf (by omega)) rfl rfl (by decide) xc_Md hN hK hP (moM (by decide)) rfl rfl hl.1 rfl (Nat.le_of_ble_eq_true rfl) d_Md_collect_40 (by decide)) hS (fun H locs hP hS => ?_)
      refine x_ifeqB (tgt := 61) hx hb d_Md_collect_43 (by decide) (fun h3 => ?_) (fun h3 => ?_)
      · refine lv_iinc (lv' := [(3, .int (nI (i + 1))), (4, .int (dg (gI ((colN σ i).1) 117 i))), (2, .int (nI (gN σ 24 0))), (1, .int (nI ((colN σ i).2))), (0, .ref (ad 0))]) (v := (nI (i + 1))) hx hb d_Md_collect_61 hl (k := 1) rfl (nI_add _ _) (by decide) rfl (fun ls hl => ?_)
        refine lv_goto (tgt := 20) hx hb d_Md_collect_64 (by decide) ?_
        exact ih (i + 1) (by show i + 1 ≤ gN σ 24 0; omega) (by omega) H locs ls (by show va_P D clX (wd SM ad dA obM (colN σ (i + 1)).1) H; rw [colN, if_neg (by rw [h3]; decide)]; exact hP) hS (lv_sub hl [0, 2, 3, 4] (by simp only [lv_pick, colN, h3]; rfl))
      · refine lv_aload_n hx hb d_Md_collect_46 rfl (lv_at hl 4 rfl) ?_
        refine x_get (v := .ref (ad 18)) (k := 25) hx hb ht xc_Md hown hK hP (moM (by decide)) rfl (by decide) fl_Md_63 rfl rfl rfl d_Md_collect_47 ?_
        refine lv_iload_n hx hb d_Md_collect_50 rfl (lv_at hl 3 rfl) ?_
        refine lv_aload_n hx hb d_Md_collect_51 rfl (lv_at hl 4 rfl) ?_
        refine x_get (v := .ref (ad 18)) (k := 25) hx hb ht xc_Md hown hK hP (moM (by decide)) rfl (by decide) fl_Md_63 rfl rfl rfl d_Md_collect_52 ?_
        refine lv_iload_n hx hb d_Md_collect_55 rfl (lv_at hl 1 rfl) ?_
        refine x_iald (κ := 117) (n := 12) hx hb hK hP (moM (by decide)) rfl (by decide) rfl rfl (by omega) (by omega) d_Md_collect_56 ?_
        refine x_iast (κ := 117) (n := 12) (x := gI ((colN σ i).1) 117 i) hx hb hK hP hJ hw hS (moM (by decide)) rfl (by decide) rfl rfl (by omega) (by omega) d_Md_collect_57 (fun H locs hP hS => ?_)
        have hWf : WfM B (sI ((colN σ i).1) 117 ((colN σ i).2) (gI ((colN σ i).1) 117 i)) := wfm_I hWf
        refine lv_iinc (lv' := [(1, .int (nI (((colN σ i).2) + 1))), (4, .int (dg (gI ((colN σ i).1) 117 i))), (3, .int (nI i)), (2, .int (nI (gN σ 24 0))), (0, .ref (ad 0))]) (v := (nI (((colN σ i).2) + 1))) hx hb d_Md_collect_58 hl (k := 3) rfl (nI_add _ _) (by decide) rfl (fun ls hl => ?_)
        refine lv_iinc (lv' := [(3, .int (nI (i + 1))), (1, .int (nI (((colN σ i).2) + 1))), (4, .int (dg (gI ((colN σ i).1) 117 i))), (2, .int (nI (gN σ 24 0))), (0, .ref (ad 0))]) (v := (nI (i + 1))) hx hb d_Md_collect_61 hl (k := 2) rfl (nI_add _ _) (by decide) rfl (fun ls hl => ?_)
        refine lv_goto (tgt := 20) hx hb d_Md_collect_64 (by decide) ?_
        exact ih (i + 1) (by show i + 1 ≤ gN σ 24 0; omega) (by omega) H locs ls (by show va_P D clX (wd SM ad dA obM (colN σ (i + 1)).1) H; rw [colN, if_pos h3]; exact hP) hS (lv_sub hl [0, 3, 1, 4] (by simp only [lv_pick, colN, h3]; rfl))
  · refine lv_iconst (v := ((-1))) hx hb d_Md_collect_9 (by decide) ?_
    exact x_iret hx hb hr hlk hK hP hS d_Md_collect_10 (by unfold mColR; rw [if_pos h1]) (by unfold mColS; rw [if_pos h1])
set_option maxHeartbeats 4000000 in
set_option maxRecDepth 100000 in
theorem c_Md_fall (l : Launch) (D : va_G) (dA : Nat → ClassId) (ad : Nat → Nat) (hJ : Inj ad obM) (σ : Sg) (n : Nat) (B : Nat) (hWf : WfM B σ) (hn : n < 5) : CV l D clX (tyX dA) SM ad dA obM NL y_Md_fall w_Md_fall { frames := 0, cells := 0, slots := 0, locals := 0 } [.ref (ad 0), .int (nI n)] σ (mFall σ n) := by
  refine x_of (WS := WS) (cc := b_Md_fall) (maxL := 3) (ret := none) (by decide) rfl (Nat.le_of_ble_eq_true rfl) ?_
  intro pp ee ss mm below meth cdd hx hb hml hr hlk ht hown hnm hN hK hP ls hl
  have hl : lv_has ls 3 [(0, .ref (ad 0)), (1, .int (nI n))] := hl
  have hS : va_S (Ad ad obM) ss.heap ss.heap [] := va_S.rf
  have hw := swfM
  have hM1 := hWf.ks
  refine lv_aload_n hx hb d_Md_fall_0 rfl (lv_at hl 0 rfl) ?_
  refine x_get (v := .ref (ad 1)) (k := 4) hx hb ht xc_Md hown hK hP (moM (by decide)) rfl (by decide) fl_Md_7 rfl rfl rfl d_Md_fall_1 ?_
  refine lv_iload_n hx hb d_Md_fall_4 rfl (lv_at hl 1 rfl) ?_
  refine lv_iconst (v := (nI 1)) hx hb d_Md_fall_5 (by decide) ?_
  refine x_zast (κ := 100) (n := 5) (x := true) hx hb hK hP hJ hw hS (moM (by decide)) rfl (by decide) rfl rfl (by omega) (by omega) d_Md_fall_6 (fun H locs hP hS => ?_)
  refine lv_iload_n hx hb d_Md_fall_7 rfl (lv_at hl 1 rfl) ?_
  refine x_if_leN (tgt := 18) hx hb d_Md_fall_8 (by decide) (by omega) (fun h1 => ?_) (fun h1 => ?_)
  · subst h1
    refine lv_iconst (v := (nI 0)) hx hb d_Md_fall_18 (by decide) ?_
    refine lv_istore_n (lv' := [(2, .int (nI 0)), (0, .ref (ad 0)), (1, .int (nI 0))]) hx hb d_Md_fall_19 rfl hl (by decide) rfl (fun ls hl => ?_)
    refine x_loop (pc := 20) (α := Nat) (nL := 3) (fun i => gN σ 14 0 - i) (fun i => fl0 (sB σ 100 0 true) i) (fun i => [(2, .int (nI i)), (1, .int (nI 0)), (0, .ref (ad 0))]) (fun i => i ≤ gN σ 14 0) ?_ 0 (Nat.zero_le _) (by rw [fl0_0]; exact hP) hS (lv_sub hl [0, 2, 1] rfl)
    clear hP hS hl
    intro i hi H locs ls hP hS hl ih
    have hi : i ≤ gN σ 14 0 := hi
    have hl : lv_has ls 3 [(2, .int (nI i)), (1, .int (nI 0)), (0, .ref (ad 0))] := hl
    have hP : va_P D clX (wd SM ad dA obM (fl0 (sB σ 100 0 true) i)) H := hP
    refine lv_iload_n hx hb d_Md_fall_20 rfl (lv_at hl 0 rfl) ?_
    refine lv_aload_n hx hb d_Md_fall_21 rfl (lv_at hl 2 rfl) ?_
    refine x_get (v := .int (nI (gN σ 14 0))) (k := 14) hx hb ht xc_Md hown hK hP (moM (by decide)) rfl (by decide) fl_Md_122 rfl rfl rfl d_Md_fall_22 ?_
    refine x_icmp_geN (tgt := 52) hx hb d_Md_fall_25 (by decide) (by omega) (by omega) (fun h2 => ?_) (fun h2 => ?_)
    · refine lv_aload_n hx hb d_Md_fall_52 rfl (lv_at hl 2 rfl) ?_
      refine lv_iload_n hx hb d_Md_fall_53 rfl (lv_at hl 1 rfl) ?_
      refine x_if_neN (tgt := 61) hx hb d_Md_fall_54 (by decide) (by decide) (fun h => absurd h (by decide)) (fun _ => ?_)
      refine lv_iconst (v := (nI 0)) hx hb d_Md_fall_57 (by decide) ?_
      refine lv_goto (tgt := 65) hx hb d_Md_fall_58 (by decide) ?_
      refine x_put (σ' := sN (fl0 (sB σ 100 0 true) i) 3 0 0) (v := .int (nI 0)) (k := 3) hx hb ht xc_Md t_Md t_Md_ok n_Md hown hK hP hJ hw hS (moM (by decide)) rfl (by decide) fl_Md_156 rfl rfl rfl off_N rfl rfl rfl d_Md_fall_65 (fun H locs hP hS => ?_)
      exact x_vret hx hb hr hlk hK hP hS d_Md_fall_68 (by unfold mFall; rw [if_pos rfl, show i = gN σ 14 0 by omega])
    · refine lv_iload_n hx hb d_Md_fall_28 rfl (lv_at hl 1 rfl) ?_
      refine x_if_neN (tgt := 52) hx hb d_Md_fall_29 (by decide) (by decide) (fun h => absurd h (by decide)) (fun _ => ?_)
      refine lv_aload_n hx hb d_Md_fall_32 rfl (lv_at hl 2 rfl) ?_
      refine x_get (v := .ref (ad 15)) (k := 20) hx hb ht xc_Md hown hK hP (moM (by decide)) rfl (by decide) fl_Md_54 rfl rfl rfl d_Md_fall_33 ?_
      refine lv_iload_n hx hb d_Md_fall_36 rfl (lv_at hl 0 rfl) ?_
      refine lv_iconst (v := (nI 0)) hx hb d_Md_fall_37 (by decide) ?_
      refine x_nast (κ := 114) (n := 10) (x := 0) hx hb hK hP hJ hw hS (moM (by decide)) rfl (by decide) rfl rfl (by omega) (by omega) d_Md_fall_38 (fun H locs hP hS => ?_)
      refine lv_aload_n hx hb d_Md_fall_39 rfl (lv_at hl 2 rfl) ?_
      refine x_get (v := .ref (ad 16)) (k := 21) hx hb ht xc_Md hown hK hP (moM (by decide)) rfl (by decide) fl_Md_57 rfl rfl rfl d_Md_fall_40 ?_
      refine lv_iload_n hx hb d_Md_fall_43 rfl (lv_at hl 0 rfl) ?_
      refine lv_iconst (v := (nI 0)) hx hb d_Md_fall_44 (by decide) ?_
      refine x_nast (κ := 115) (n := 10) (x := 0) hx hb hK hP hJ hw hS (moM (by decide)) rfl (by decide) rfl rfl (by omega) (by omega) d_Md_fall_45 (fun H locs hP hS => ?_)
      refine lv_iinc (lv' := [(2, .int (nI (i + 1))), (1, .int (nI 0)), (0, .ref (ad 0))]) (v := (nI (i + 1))) hx hb d_Md_fall_46 hl (k := 0) rfl (nI_add _ _) (by decide) rfl (fun ls hl => ?_)
      refine lv_goto (tgt := 20) hx hb d_Md_fall_49 (by decide) ?_
      exact ih (i + 1) (by show i + 1 ≤ gN σ 14 0; omega) (by omega) H locs ls (by rw [← fl0_s]; exact hP) hS (lv_sub hl [0, 1, 2] rfl)
  · refine lv_aload_n hx hb d_Md_fall_11 rfl (lv_at hl 0 rfl) ?_
    refine x_get (v := .ref (ad 19)) (k := 26) hx hb ht xc_Md hown hK hP (moM (by decide)) rfl (by decide) fl_Md_66 rfl rfl rfl d_Md_fall_12 ?_
    refine lv_iload_n hx hb d_Md_fall_15 rfl (lv_at hl 1 rfl) ?_
    refine lv_iconst (v := (nI 0)) hx hb d_Md_fall_16 (by decide) ?_
    refine x_nast (κ := 118) (n := 5) (x := 0) hx hb hK hP hJ hw hS (moM (by decide)) rfl (by decide) rfl rfl (by omega) (by omega) d_Md_fall_17 (fun H locs hP hS => ?_)
    refine lv_iconst (v := (nI 0)) hx hb d_Md_fall_18 (by decide) ?_
    refine lv_istore_n (lv' := [(2, .int (nI 0)), (0, .ref (ad 0)), (1, .int (nI n))]) hx hb d_Md_fall_19 rfl hl (by decide) rfl (fun ls hl => ?_)
    refine lv_iload_n hx hb d_Md_fall_20 rfl (lv_at hl 0 rfl) ?_
    refine lv_aload_n hx hb d_Md_fall_21 rfl (lv_at hl 1 rfl) ?_
    refine x_get (v := .int (nI (gN σ 14 0))) (k := 14) hx hb ht xc_Md hown hK hP (moM (by decide)) rfl (by decide) fl_Md_122 rfl rfl rfl d_Md_fall_22 ?_
    refine x_icmp_geN (tgt := 52) hx hb d_Md_fall_25 (by decide) (by decide) (by omega) (fun h5 => ?_) (fun h5 => ?_)
    · refine lv_aload_n hx hb d_Md_fall_52 rfl (lv_at hl 1 rfl) ?_
      refine lv_iload_n hx hb d_Md_fall_53 rfl (lv_at hl 2 rfl) ?_
      refine x_if_neN (tgt := 61) hx hb d_Md_fall_54 (by decide) (by omega) (fun h6 => ?_) (fun h6 => ?_)
      · refine lv_aload_n hx hb d_Md_fall_61 rfl (lv_at hl 1 rfl) ?_
        refine x_get (v := .int (nI (gN σ 3 0))) (k := 3) hx hb ht xc_Md hown hK hP (moM (by decide)) rfl (by decide) fl_Md_156 rfl rfl rfl d_Md_fall_62 ?_
        refine x_put (σ' := sN (sN (sB σ 100 n true) 118 n 0) 3 0 (gN σ 3 0)) (v := .int (nI (gN σ 3 0))) (k := 3) hx hb ht xc_Md t_Md t_Md_ok n_Md hown hK hP hJ hw hS (moM (by decide)) rfl (by decide) fl_Md_156 rfl rfl rfl off_N rfl rfl rfl d_Md_fall_65 (fun H locs hP hS => ?_)
        exact x_vret hx hb hr hlk hK hP hS d_Md_fall_68 (by unfold mFall; rw [if_neg (by omega)])
      · exfalso; omega
    · refine lv_iload_n hx hb d_Md_fall_28 rfl (lv_at hl 2 rfl) ?_
      refine x_if_neN (tgt := 52) hx hb d_Md_fall_29 (by decide) (by omega) (fun h7 => ?_) (fun h7 => ?_)
      · refine lv_aload_n hx hb d_Md_fall_52 rfl (lv_at hl 1 rfl) ?_
        refine lv_iload_n hx hb d_Md_fall_53 rfl (lv_at hl 2 rfl) ?_
        refine x_if_neN (tgt := 61) hx hb d_Md_fall_54 (by decide) (by omega) (fun h8 => ?_) (fun h8 => ?_)
        · refine lv_aload_n hx hb d_Md_fall_61 rfl (lv_at hl 1 rfl) ?_
          refine x_get (v := .int (nI (gN σ 3 0))) (k := 3) hx hb ht xc_Md hown hK hP (moM (by decide)) rfl (by decide) fl_Md_156 rfl rfl rfl d_Md_fall_62 ?_
          refine x_put (σ' := sN (sN (sB σ 100 n true) 118 n 0) 3 0 (gN σ 3 0)) (v := .int (nI (gN σ 3 0))) (k := 3) hx hb ht xc_Md t_Md t_Md_ok n_Md hown hK hP hJ hw hS (moM (by decide)) rfl (by decide) fl_Md_156 rfl rfl rfl off_N rfl rfl rfl d_Md_fall_65 (fun H locs hP hS => ?_)
          exact x_vret hx hb hr hlk hK hP hS d_Md_fall_68 (by unfold mFall; rw [if_neg (by omega)])
        · exfalso; omega
      · exfalso; omega
set_option maxHeartbeats 4000000 in
set_option maxRecDepth 100000 in
theorem c_Md_crash (l : Launch) (D : va_G) (dA : Nat → ClassId) (ad : Nat → Nat) (hJ : Inj ad obM) (σ : Sg) (x : Int32) (B : Nat) (hWf : WfM B σ) : CI l D clX (tyX dA) SM ad dA obM NL y_Md_crash w_Md_crash { frames := 1, cells := 0, slots := 0, locals := 22 } [.ref (ad 0), .int x] σ ((bI (mCrB σ x))) (mCrash σ x) := by
  refine x_of (WS := WS) (cc := b_Md_crash) (maxL := 2) (ret := (some .boolean)) (by decide) rfl (Nat.le_of_ble_eq_true rfl) ?_
  intro pp ee ss mm below meth cdd hx hb hml hr hlk ht hown hnm hN hK hP ls hl
  have hl : lv_has ls 2 [(0, .ref (ad 0)), (1, .int x)] := hl
  have hS : va_S (Ad ad obM) ss.heap ss.heap [] := va_S.rf
  have hw := swfM
  have hM0 := hWf.it
  have hM1 := hWf.ks
  have hM2 := hWf.bl
  have hM3 := hWf.wk
  have hM4 := hWf.bi
  have hM5 := hWf.qu
  have hM6 := hWf.tm
  have hM7 := hWf.la
  refine lv_iload_n hx hb d_Md_crash_0 rfl (lv_at hl 1 rfl) ?_
  refine lv_if_lt (tgt := 21) hx hb d_Md_crash_1 (by decide) (fun h1 => ?_) (fun h1 => ?_)
  · refine lv_iconst (v := (nI 0)) hx hb d_Md_crash_21 (by decide) ?_
    exact x_zret (b := false) hx hb hr hlk hK hP hS d_Md_crash_22 rfl (Eq.symm (by unfold mCrB; rw [mNd_lo h1]; rfl)) (by unfold mCrash; rw [if_neg (by rw [show mCrB σ _ = false from (by unfold mCrB; rw [mNd_lo h1]; rfl)]; decide)])
  · refine lv_iload_n hx hb d_Md_crash_4 rfl (lv_at hl 1 rfl) ?_
    refine lv_aload_n hx hb d_Md_crash_5 rfl (lv_at hl 0 rfl) ?_
    refine x_get (v := .int (nI (gN σ 0 0))) (k := 0) hx hb ht xc_Md hown hK hP (moM (by decide)) rfl (by decide) fl_Md_102 rfl rfl rfl d_Md_crash_6 ?_
    refine lv_icmp_gt (tgt := 21) hx hb d_Md_crash_9 (by decide) (fun h2 => ?_) (fun h2 => ?_)
    · refine lv_iconst (v := (nI 0)) hx hb d_Md_crash_21 (by decide) ?_
      exact x_zret (b := false) hx hb hr hlk hK hP hS d_Md_crash_22 rfl (Eq.symm (by unfold mCrB; rw [mNd_hi hM3.2 h2]; rfl)) (by unfold mCrash; rw [if_neg (by rw [show mCrB σ _ = false from (by unfold mCrB; rw [mNd_hi hM3.2 h2]; rfl)]; decide)])
    · obtain ⟨hnd, j, hj, rfl⟩ := mNd_in hM3.2 h1 h2
      refine lv_aload_n hx hb d_Md_crash_12 rfl (lv_at hl 0 rfl) ?_
      refine x_get (v := .ref (ad 1)) (k := 4) hx hb ht xc_Md hown hK hP (moM (by decide)) rfl (by decide) fl_Md_7 rfl rfl rfl d_Md_crash_13 ?_
      refine lv_iload_n hx hb d_Md_crash_16 rfl (lv_at hl 1 rfl) ?_
      refine x_zald (κ := 100) (n := 5) hx hb hK hP (moM (by decide)) rfl (by decide) rfl rfl (by omega) (by omega) d_Md_crash_17 ?_
      refine x_ifeqB (tgt := 23) hx hb d_Md_crash_18 (by decide) (fun h3 => ?_) (fun h3 => ?_)
      · refine lv_aload_n hx hb d_Md_crash_23 rfl (lv_at hl 0 rfl) ?_
        refine lv_iload_n hx hb d_Md_crash_24 rfl (lv_at hl 1 rfl) ?_
        refine x_cv (x_rV (As := [.int (nI j)]) (rest := []) hx hb hml hown ht gW cs_Md_159 (c_Md_fall l D dA ad hJ σ j B hWf (by omega)) rfl rfl (by decide) xc_Md hN hK hP (moM (by decide)) rfl rfl hl.1 rfl (Nat.le_of_ble_eq_true rfl) d_Md_crash_25 (by decide)) hS (fun H locs hP hS => ?_)
        have hWf : WfM B (mFall σ j) := wfm_fall hWf
        refine lv_iconst (v := (nI 1)) hx hb d_Md_crash_28 (by decide) ?_
        exact x_zret (b := true) hx hb hr hlk hK hP hS d_Md_crash_29 rfl (Eq.symm (by unfold mCrB; rw [hnd, nI_clamp (by omega), h3]; rfl)) (by unfold mCrash; rw [if_pos (show mCrB σ _ = true from (by unfold mCrB; rw [hnd, nI_clamp (by omega), h3]; rfl)), nI_clamp (by omega)])
      · refine lv_iconst (v := (nI 0)) hx hb d_Md_crash_21 (by decide) ?_
        exact x_zret (b := false) hx hb hr hlk hK hP hS d_Md_crash_22 rfl (Eq.symm (by unfold mCrB; rw [hnd, nI_clamp (by omega), h3]; rfl)) (by unfold mCrash; rw [if_neg (by rw [show mCrB σ _ = false from (by unfold mCrB; rw [hnd, nI_clamp (by omega), h3]; rfl)]; decide)])
set_option maxHeartbeats 4000000 in
set_option maxRecDepth 100000 in
theorem c_Md_restart (l : Launch) (D : va_G) (dA : Nat → ClassId) (ad : Nat → Nat) (hJ : Inj ad obM) (σ : Sg) (x : Int32) (B : Nat) (hWf : WfM B σ) : CI l D clX (tyX dA) SM ad dA obM NL y_Md_restart w_Md_restart { frames := 0, cells := 0, slots := 0, locals := 0 } [.ref (ad 0), .int x] σ ((bI (mReB σ x))) (mRest σ x) := by
  refine x_of (WS := WS) (cc := b_Md_restart) (maxL := 2) (ret := (some .boolean)) (by decide) rfl (Nat.le_of_ble_eq_true rfl) ?_
  intro pp ee ss mm below meth cdd hx hb hml hr hlk ht hown hnm hN hK hP ls hl
  have hl : lv_has ls 2 [(0, .ref (ad 0)), (1, .int x)] := hl
  have hS : va_S (Ad ad obM) ss.heap ss.heap [] := va_S.rf
  have hw := swfM
  have hM0 := hWf.it
  have hM1 := hWf.ks
  have hM2 := hWf.bl
  have hM3 := hWf.wk
  have hM4 := hWf.bi
  have hM5 := hWf.qu
  have hM6 := hWf.tm
  have hM7 := hWf.la
  refine lv_iload_n hx hb d_Md_restart_0 rfl (lv_at hl 1 rfl) ?_
  refine lv_if_lt (tgt := 21) hx hb d_Md_restart_1 (by decide) (fun h1 => ?_) (fun h1 => ?_)
  · refine lv_iconst (v := (nI 0)) hx hb d_Md_restart_21 (by decide) ?_
    exact x_zret (b := false) hx hb hr hlk hK hP hS d_Md_restart_22 rfl (Eq.symm (by unfold mReB; rw [mNd_lo h1]; rfl)) (by unfold mRest; rw [if_neg (by rw [show mReB σ _ = false from (by unfold mReB; rw [mNd_lo h1]; rfl)]; decide)])
  · refine lv_iload_n hx hb d_Md_restart_4 rfl (lv_at hl 1 rfl) ?_
    refine lv_aload_n hx hb d_Md_restart_5 rfl (lv_at hl 0 rfl) ?_
    refine x_get (v := .int (nI (gN σ 0 0))) (k := 0) hx hb ht xc_Md hown hK hP (moM (by decide)) rfl (by decide) fl_Md_102 rfl rfl rfl d_Md_restart_6 ?_
    refine lv_icmp_gt (tgt := 21) hx hb d_Md_restart_9 (by decide) (fun h2 => ?_) (fun h2 => ?_)
    · refine lv_iconst (v := (nI 0)) hx hb d_Md_restart_21 (by decide) ?_
      exact x_zret (b := false) hx hb hr hlk hK hP hS d_Md_restart_22 rfl (Eq.symm (by unfold mReB; rw [mNd_hi hM3.2 h2]; rfl)) (by unfold mRest; rw [if_neg (by rw [show mReB σ _ = false from (by unfold mReB; rw [mNd_hi hM3.2 h2]; rfl)]; decide)])
    · obtain ⟨hnd, j, hj, rfl⟩ := mNd_in hM3.2 h1 h2
      refine lv_aload_n hx hb d_Md_restart_12 rfl (lv_at hl 0 rfl) ?_
      refine x_get (v := .ref (ad 1)) (k := 4) hx hb ht xc_Md hown hK hP (moM (by decide)) rfl (by decide) fl_Md_7 rfl rfl rfl d_Md_restart_13 ?_
      refine lv_iload_n hx hb d_Md_restart_16 rfl (lv_at hl 1 rfl) ?_
      refine x_zald (κ := 100) (n := 5) hx hb hK hP (moM (by decide)) rfl (by decide) rfl rfl (by omega) (by omega) d_Md_restart_17 ?_
      refine x_ifneB (tgt := 23) hx hb d_Md_restart_18 (by decide) (fun h3 => ?_) (fun h3 => ?_)
      · refine lv_aload_n hx hb d_Md_restart_23 rfl (lv_at hl 0 rfl) ?_
        refine x_get (v := .ref (ad 1)) (k := 4) hx hb ht xc_Md hown hK hP (moM (by decide)) rfl (by decide) fl_Md_7 rfl rfl rfl d_Md_restart_24 ?_
        refine lv_iload_n hx hb d_Md_restart_27 rfl (lv_at hl 1 rfl) ?_
        refine lv_iconst (v := (nI 0)) hx hb d_Md_restart_28 (by decide) ?_
        refine x_zast (κ := 100) (n := 5) (x := false) hx hb hK hP hJ hw hS (moM (by decide)) rfl (by decide) rfl rfl (by omega) (by omega) d_Md_restart_29 (fun H locs hP hS => ?_)
        have hWf : WfM B (sB σ 100 j false) := wfm_B hWf
        refine lv_iconst (v := (nI 1)) hx hb d_Md_restart_30 (by decide) ?_
        exact x_zret (b := true) hx hb hr hlk hK hP hS d_Md_restart_31 rfl (Eq.symm (by unfold mReB; rw [hnd, nI_clamp (by omega), h3]; rfl)) (by unfold mRest; rw [if_pos (show mReB σ _ = true from (by unfold mReB; rw [hnd, nI_clamp (by omega), h3]; rfl)), nI_clamp (by omega)])
      · refine lv_iconst (v := (nI 0)) hx hb d_Md_restart_21 (by decide) ?_
        exact x_zret (b := false) hx hb hr hlk hK hP hS d_Md_restart_22 rfl (Eq.symm (by unfold mReB; rw [hnd, nI_clamp (by omega), h3]; rfl)) (by unfold mRest; rw [if_neg (by rw [show mReB σ _ = false from (by unfold mReB; rw [hnd, nI_clamp (by omega), h3]; rfl)]; decide)])
set_option maxHeartbeats 4000000 in
set_option maxRecDepth 100000 in
theorem c_Md_mayWrite (l : Launch) (D : va_G) (dA : Nat → ClassId) (ad : Nat → Nat) (hJ : Inj ad obM) (σ : Sg) (cut : Int32) (B : Nat) (hWf : WfM B σ) : CI l D clX (tyX dA) SM ad dA obM NL y_Md_mayWrite w_Md_mayWrite { frames := 1, cells := 0, slots := 0, locals := 22 } [.ref (ad 0), .int cut] σ ((bI (mMay σ cut))) (mMayS σ cut) := by
  refine x_of (WS := WS) (cc := b_Md_mayWrite) (maxL := 2) (ret := (some .boolean)) (by decide) rfl (Nat.le_of_ble_eq_true rfl) ?_
  intro pp ee ss mm below meth cdd hx hb hml hr hlk ht hown hnm hN hK hP ls hl
  have hl : lv_has ls 2 [(0, .ref (ad 0)), (1, .int cut)] := hl
  have hS : va_S (Ad ad obM) ss.heap ss.heap [] := va_S.rf
  have hw := swfM
  have hM0 := hWf.it
  have hM1 := hWf.ks
  have hM2 := hWf.bl
  have hM3 := hWf.wk
  have hM4 := hWf.bi
  have hM5 := hWf.qu
  have hM6 := hWf.tm
  have hM7 := hWf.la
  refine lv_iload_n hx hb d_Md_mayWrite_0 rfl (lv_at hl 1 rfl) ?_
  refine lv_if_lt (tgt := 29) hx hb d_Md_mayWrite_1 (by decide) (fun h1 => ?_) (fun h1 => ?_)
  · refine lv_aload_n hx hb d_Md_mayWrite_29 rfl (lv_at hl 0 rfl) ?_
    refine lv_dup hx hb d_Md_mayWrite_30 rfl ?_
    refine x_get (v := .int (nI (gN σ 49 0))) (k := 49) hx hb ht xc_Md hown hK hP (moM (by decide)) rfl (by decide) fl_Md_163 rfl rfl rfl d_Md_mayWrite_31 ?_
    refine lv_iconst (v := (nI 1)) hx hb d_Md_mayWrite_34 (by decide) ?_
    refine x_iaddN hx hb d_Md_mayWrite_35 ?_
    refine x_put (σ' := sN σ 49 0 ((gN σ 49 0) + 1)) (v := .int (nI ((gN σ 49 0) + 1))) (k := 49) hx hb ht xc_Md t_Md t_Md_ok n_Md hown hK hP hJ hw hS (moM (by decide)) rfl (by decide) fl_Md_163 rfl rfl rfl off_N rfl rfl rfl d_Md_mayWrite_36 (fun H locs hP hS => ?_)
    have hWf : WfM B (sN σ 49 0 ((gN σ 49 0) + 1)) := wfm_N (by decide) hWf
    refine lv_iconst (v := (nI 1)) hx hb d_Md_mayWrite_39 (by decide) ?_
    exact x_zret (b := true) hx hb hr hlk hK hP hS d_Md_mayWrite_40 rfl (Eq.symm (by unfold mMay; simp [h1])) (by unfold mMayS; rw [if_pos (by unfold mMay; simp [h1])])
  · refine lv_aload_n hx hb d_Md_mayWrite_4 rfl (lv_at hl 0 rfl) ?_
    refine x_get (v := .int (nI (gN σ 49 0))) (k := 49) hx hb ht xc_Md hown hK hP (moM (by decide)) rfl (by decide) fl_Md_163 rfl rfl rfl d_Md_mayWrite_5 ?_
    refine lv_iload_n hx hb d_Md_mayWrite_8 rfl (lv_at hl 1 rfl) ?_
    refine lv_icmp_lt (tgt := 29) hx hb d_Md_mayWrite_9 (by decide) (fun h2 => ?_) (fun h2 => ?_)
    · refine lv_aload_n hx hb d_Md_mayWrite_29 rfl (lv_at hl 0 rfl) ?_
      refine lv_dup hx hb d_Md_mayWrite_30 rfl ?_
      refine x_get (v := .int (nI (gN σ 49 0))) (k := 49) hx hb ht xc_Md hown hK hP (moM (by decide)) rfl (by decide) fl_Md_163 rfl rfl rfl d_Md_mayWrite_31 ?_
      refine lv_iconst (v := (nI 1)) hx hb d_Md_mayWrite_34 (by decide) ?_
      refine x_iaddN hx hb d_Md_mayWrite_35 ?_
      refine x_put (σ' := sN σ 49 0 ((gN σ 49 0) + 1)) (v := .int (nI ((gN σ 49 0) + 1))) (k := 49) hx hb ht xc_Md t_Md t_Md_ok n_Md hown hK hP hJ hw hS (moM (by decide)) rfl (by decide) fl_Md_163 rfl rfl rfl off_N rfl rfl rfl d_Md_mayWrite_36 (fun H locs hP hS => ?_)
      have hWf : WfM B (sN σ 49 0 ((gN σ 49 0) + 1)) := wfm_N (by decide) hWf
      refine lv_iconst (v := (nI 1)) hx hb d_Md_mayWrite_39 (by decide) ?_
      exact x_zret (b := true) hx hb hr hlk hK hP hS d_Md_mayWrite_40 rfl (Eq.symm (by unfold mMay; simp [h1, h2])) (by unfold mMayS; rw [if_pos (by unfold mMay; simp [h1, h2])])
    · refine lv_aload_n hx hb d_Md_mayWrite_12 rfl (lv_at hl 0 rfl) ?_
      refine lv_iconst (v := (nI 0)) hx hb d_Md_mayWrite_13 (by decide) ?_
      refine x_cv (x_rV (As := [.int (nI 0)]) (rest := []) hx hb hml hown ht gW cs_Md_159 (c_Md_fall l D dA ad hJ σ 0 B hWf (by omega)) rfl rfl (by decide) xc_Md hN hK hP (moM (by decide)) rfl rfl hl.1 rfl (Nat.le_of_ble_eq_true rfl) d_Md_mayWrite_14 (by decide)) hS (fun H locs hP hS => ?_)
      have hWf : WfM B (mFall σ 0) := wfm_fall hWf
      refine lv_aload_n hx hb d_Md_mayWrite_17 rfl (lv_at hl 0 rfl) ?_
      refine lv_dup hx hb d_Md_mayWrite_18 rfl ?_
      refine x_get (v := .int (nI (gN σ 48 0))) (k := 48) hx hb ht xc_Md hown hK hP (moM (by decide)) rfl (by decide) fl_Md_166 rfl rfl (congrArg (fun z => Value.int (nI z)) (fall_N σ (by decide) 0 0)) d_Md_mayWrite_19 ?_
      refine lv_iconst (v := (nI 1)) hx hb d_Md_mayWrite_22 (by decide) ?_
      refine x_iaddN hx hb d_Md_mayWrite_23 ?_
      refine x_put (σ' := sN (mFall σ 0) 48 0 ((gN σ 48 0) + 1)) (v := .int (nI ((gN σ 48 0) + 1))) (k := 48) hx hb ht xc_Md t_Md t_Md_ok n_Md hown hK hP hJ hw hS (moM (by decide)) rfl (by decide) fl_Md_166 rfl rfl rfl off_N rfl rfl rfl d_Md_mayWrite_24 (fun H locs hP hS => ?_)
      have hWf : WfM B (sN (mFall σ 0) 48 0 ((gN σ 48 0) + 1)) := wfm_N (by decide) hWf
      refine lv_iconst (v := (nI 0)) hx hb d_Md_mayWrite_27 (by decide) ?_
      exact x_zret (b := false) hx hb hr hlk hK hP hS d_Md_mayWrite_28 rfl (Eq.symm (by unfold mMay; simp [h1, h2])) (by unfold mMayS; rw [if_neg (by unfold mMay; simp [h1, h2])])
set_option maxHeartbeats 4000000 in
set_option maxRecDepth 100000 in
theorem c_Md_takePut (l : Launch) (D : va_G) (dA : Nat → ClassId) (ad : Nat → Nat) (hJ : Inj ad obM) (σ : Sg) (d : Int32) (c : Int32) (cut : Int32) (B : Nat) (hWf : WfM B σ) (hb12 : gN σ 24 0 < 12) : CV l D clX (tyX dA) SM ad dA obM NL y_Md_takePut w_Md_takePut { frames := 2, cells := 0, slots := 0, locals := 45 } [.ref (ad 0), .int d, .int c, .int cut] σ (mPut σ d c cut) := by
  refine x_of (WS := WS) (cc := b_Md_takePut) (maxL := 4) (ret := none) (by decide) rfl (Nat.le_of_ble_eq_true rfl) ?_
  intro pp ee ss mm below meth cdd hx hb hml hr hlk ht hown hnm hN hK hP ls hl
  have hl : lv_has ls 4 [(0, .ref (ad 0)), (1, .int d), (2, .int c), (3, .int cut)] := hl
  have hS : va_S (Ad ad obM) ss.heap ss.heap [] := va_S.rf
  have hw := swfM
  have hM0 := hWf.it
  have hM1 := hWf.ks
  have hM2 := hWf.bl
  have hM3 := hWf.wk
  have hM4 := hWf.bi
  have hM5 := hWf.qu
  have hM6 := hWf.tm
  have hM7 := hWf.la
  refine lv_aload_n hx hb d_Md_takePut_0 rfl (lv_at hl 0 rfl) ?_
  refine lv_iload_n hx hb d_Md_takePut_1 rfl (lv_at hl 1 rfl) ?_
  refine x_ci (x_rV (As := [.int d]) (rest := []) hx hb hml hown ht gW cs_Md_150 (c_Md_find l D dA ad hJ σ d B hWf) rfl rfl (by decide) xc_Md hN hK hP (moM (by decide)) rfl rfl hl.1 rfl (Nat.le_of_ble_eq_true rfl) d_Md_takePut_2 (by decide)) hS (fun H locs hP hS => ?_)
  refine x_if_geO (n := 12) (tgt := 16) hx hb d_Md_takePut_5 (by decide) ⟨mFind_lt hWf, by decide⟩ (fun j1 h1 hl1 => ?_) (fun h1 => ?_)
  · exact x_vret hx hb hr hlk hK hP hS d_Md_takePut_16 (by unfold mPut; rw [h1])
  · refine lv_aload_n hx hb d_Md_takePut_8 rfl (lv_at hl 0 rfl) ?_
    refine lv_iload_n hx hb d_Md_takePut_9 rfl (lv_at hl 3 rfl) ?_
    refine x_ci (x_rV (As := [.int cut]) (rest := []) hx hb hml hown ht gW cs_Md_205 (c_Md_mayWrite l D dA ad hJ σ cut B hWf) rfl rfl (by decide) xc_Md hN hK hP (moM (by decide)) rfl rfl hl.1 rfl (Nat.le_of_ble_eq_true rfl) d_Md_takePut_10 (by decide)) hS (fun H locs hP hS => ?_)
    have hWf : WfM B (mMayS σ cut) := wfm_may hWf
    refine x_ifneB (tgt := 17) hx hb d_Md_takePut_13 (by decide) (fun h2 => ?_) (fun h2 => ?_)
    · refine lv_aload_n hx hb d_Md_takePut_17 rfl (lv_at hl 0 rfl) ?_
      refine x_get (v := .ref (ad 18)) (k := 25) hx hb ht xc_Md hown hK hP (moM (by decide)) rfl (by decide) fl_Md_63 rfl rfl rfl d_Md_takePut_18 ?_
      refine lv_aload_n hx hb d_Md_takePut_21 rfl (lv_at hl 0 rfl) ?_
      refine x_get (v := .int (nI (gN σ 24 0))) (k := 24) hx hb ht xc_Md hown hK hP (moM (by decide)) rfl (by decide) fl_Md_147 rfl rfl (congrArg (fun z => Value.int (nI z)) (may_N σ cut (by decide) 0)) d_Md_takePut_22 ?_
      refine lv_iload_n hx hb d_Md_takePut_25 rfl (lv_at hl 2 rfl) ?_
      refine x_iast (κ := 117) (n := 12) (x := c) hx hb hK hP hJ hw hS (moM (by decide)) rfl (by decide) rfl rfl (by omega) (by omega) d_Md_takePut_26 (fun H locs hP hS => ?_)
      have hWf : WfM B (sI (mMayS σ cut) 117 (gN σ 24 0) c) := wfm_I hWf
      refine lv_aload_n hx hb d_Md_takePut_27 rfl (lv_at hl 0 rfl) ?_
      refine lv_dup hx hb d_Md_takePut_28 rfl ?_
      refine x_get (v := .int (nI (gN σ 24 0))) (k := 24) hx hb ht xc_Md hown hK hP (moM (by decide)) rfl (by decide) fl_Md_147 rfl rfl (congrArg (fun z => Value.int (nI z)) (may_N σ cut (by decide) 0)) d_Md_takePut_29 ?_
      refine lv_iconst (v := (nI 1)) hx hb d_Md_takePut_32 (by decide) ?_
      refine x_iaddN hx hb d_Md_takePut_33 ?_
      refine x_put (σ' := sN (sI (mMayS σ cut) 117 (gN σ 24 0) c) 24 0 ((gN σ 24 0) + 1)) (v := .int (nI ((gN σ 24 0) + 1))) (k := 24) hx hb ht xc_Md t_Md t_Md_ok n_Md hown hK hP hJ hw hS (moM (by decide)) rfl (by decide) fl_Md_147 rfl rfl rfl off_N rfl rfl rfl d_Md_takePut_34 (fun H locs hP hS => ?_)
      have hWf : WfM B (sN (sI (mMayS σ cut) 117 (gN σ 24 0) c) 24 0 ((gN σ 24 0) + 1)) := wfm_24 hWf (by omega)
      refine lv_aload_n hx hb d_Md_takePut_37 rfl (lv_at hl 0 rfl) ?_
      refine lv_dup hx hb d_Md_takePut_38 rfl ?_
      refine x_get (v := .int (nI (gN σ 44 0))) (k := 44) hx hb ht xc_Md hown hK hP (moM (by decide)) rfl (by decide) fl_Md_208 rfl rfl (congrArg (fun z => Value.int (nI z)) (may_N σ cut (by decide) 0)) d_Md_takePut_39 ?_
      refine lv_iconst (v := (nI 1)) hx hb d_Md_takePut_42 (by decide) ?_
      refine x_iaddN hx hb d_Md_takePut_43 ?_
      refine x_put (σ' := sN (sN (sI (mMayS σ cut) 117 (gN σ 24 0) c) 24 0 ((gN σ 24 0) + 1)) 44 0 ((gN σ 44 0) + 1)) (v := .int (nI ((gN σ 44 0) + 1))) (k := 44) hx hb ht xc_Md t_Md t_Md_ok n_Md hown hK hP hJ hw hS (moM (by decide)) rfl (by decide) fl_Md_208 rfl rfl rfl off_N rfl rfl rfl d_Md_takePut_44 (fun H locs hP hS => ?_)
      have hWf : WfM B (sN (sN (sI (mMayS σ cut) 117 (gN σ 24 0) c) 24 0 ((gN σ 24 0) + 1)) 44 0 ((gN σ 44 0) + 1)) := wfm_N (by decide) hWf
      exact x_vret hx hb hr hlk hK hP hS d_Md_takePut_47 (by unfold mPut; rw [h1]; exact (if_pos h2).symm)
    · exact x_vret hx hb hr hlk hK hP hS d_Md_takePut_16 (by unfold mPut; rw [h1]; exact (if_neg (by rw [h2]; decide)).symm)
set_option maxHeartbeats 4000000 in
set_option maxRecDepth 100000 in
theorem c_Md_takeLease (l : Launch) (D : va_G) (dA : Nat → ClassId) (ad : Nat → Nat) (hJ : Inj ad obM) (σ : Sg) (w : Nat) (k : Nat) (a : Int32) (b : Int32) (hw5 : w < 5) : CV l D clX (tyX dA) SM ad dA obM NL y_Md_takeLease w_Md_takeLease { frames := 0, cells := 0, slots := 0, locals := 0 } [.ref (ad 0), .int (nI w), .int (nI k), .int a, .int b] σ (mLease σ w k a b) := by
  refine x_of (WS := WS) (cc := b_Md_takeLease) (maxL := 5) (ret := none) (by decide) rfl (Nat.le_of_ble_eq_true rfl) ?_
  intro pp ee ss mm below meth cdd hx hb hml hr hlk ht hown hnm hN hK hP ls hl
  have hl : lv_has ls 5 [(0, .ref (ad 0)), (1, .int (nI w)), (2, .int (nI k)), (3, .int a), (4, .int b)] := hl
  have hS : va_S (Ad ad obM) ss.heap ss.heap [] := va_S.rf
  have hw := swfM
  refine lv_aload_n hx hb d_Md_takeLease_0 rfl (lv_at hl 0 rfl) ?_
  refine x_get (v := .ref (ad 19)) (k := 26) hx hb ht xc_Md hown hK hP (moM (by decide)) rfl (by decide) fl_Md_66 rfl rfl rfl d_Md_takeLease_1 ?_
  refine lv_iload_n hx hb d_Md_takeLease_4 rfl (lv_at hl 1 rfl) ?_
  refine lv_iload_n hx hb d_Md_takeLease_5 rfl (lv_at hl 2 rfl) ?_
  refine lv_iconst (v := (nI 1)) hx hb d_Md_takeLease_6 (by decide) ?_
  refine x_iaddN hx hb d_Md_takeLease_7 ?_
  refine x_nast (κ := 118) (n := 5) (x := k + 1) hx hb hK hP hJ hw hS (moM (by decide)) rfl (by decide) rfl rfl (by omega) (by omega) d_Md_takeLease_8 (fun H locs hP hS => ?_)
  refine lv_aload_n hx hb d_Md_takeLease_9 rfl (lv_at hl 0 rfl) ?_
  refine x_get (v := .ref (ad 20)) (k := 27) hx hb ht xc_Md hown hK hP (moM (by decide)) rfl (by decide) fl_Md_69 rfl rfl rfl d_Md_takeLease_10 ?_
  refine lv_iload_n hx hb d_Md_takeLease_13 rfl (lv_at hl 1 rfl) ?_
  refine lv_iload_n hx hb d_Md_takeLease_14 rfl (lv_at hl 3 rfl) ?_
  refine x_iast (κ := 119) (n := 5) (x := a) hx hb hK hP hJ hw hS (moM (by decide)) rfl (by decide) rfl rfl (by omega) (by omega) d_Md_takeLease_15 (fun H locs hP hS => ?_)
  refine lv_aload_n hx hb d_Md_takeLease_16 rfl (lv_at hl 0 rfl) ?_
  refine x_get (v := .ref (ad 21)) (k := 28) hx hb ht xc_Md hown hK hP (moM (by decide)) rfl (by decide) fl_Md_72 rfl rfl rfl d_Md_takeLease_17 ?_
  refine lv_iload_n hx hb d_Md_takeLease_20 rfl (lv_at hl 1 rfl) ?_
  refine lv_iload hx hb d_Md_takeLease_21 (lv_at hl 4 rfl) ?_
  refine x_iast (κ := 120) (n := 5) (x := b) hx hb hK hP hJ hw hS (moM (by decide)) rfl (by decide) rfl rfl (by omega) (by omega) d_Md_takeLease_23 (fun H locs hP hS => ?_)
  refine lv_aload_n hx hb d_Md_takeLease_24 rfl (lv_at hl 0 rfl) ?_
  refine x_get (v := .ref (ad 22)) (k := 29) hx hb ht xc_Md hown hK hP (moM (by decide)) rfl (by decide) fl_Md_75 rfl rfl rfl d_Md_takeLease_25 ?_
  refine lv_iload_n hx hb d_Md_takeLease_28 rfl (lv_at hl 1 rfl) ?_
  refine lv_iconst (v := (nI 0)) hx hb d_Md_takeLease_29 (by decide) ?_
  refine x_nast (κ := 121) (n := 5) (x := 0) hx hb hK hP hJ hw hS (moM (by decide)) rfl (by decide) rfl rfl (by omega) (by omega) d_Md_takeLease_30 (fun H locs hP hS => ?_)
  exact x_vret hx hb hr hlk hK hP hS d_Md_takeLease_31 rfl
set_option maxHeartbeats 4000000 in
set_option maxRecDepth 100000 in
theorem c_Md_takeResult (l : Launch) (D : va_G) (dA : Nat → ClassId) (ad : Nat → Nat) (hJ : Inj ad obM) (σ : Sg) (k : Nat) (d : Int32) (c : Int32) (cut : Int32) (B : Nat) (hWf : WfM B σ) (hB : B < 2 ^ 30) (hk : k < 10) (hb12 : gN σ 24 0 < 12) : CV l D clX (tyX dA) SM ad dA obM NL y_Md_takeResult w_Md_takeResult { frames := 2, cells := 0, slots := 0, locals := 45 } [.ref (ad 0), .int (nI k), .int d, .int c, .int cut] σ (mRes σ k d c cut) := by
  refine x_of (WS := WS) (cc := b_Md_takeResult) (maxL := 5) (ret := none) (by decide) rfl (Nat.le_of_ble_eq_true rfl) ?_
  intro pp ee ss mm below meth cdd hx hb hml hr hlk ht hown hnm hN hK hP ls hl
  have hl : lv_has ls 5 [(0, .ref (ad 0)), (1, .int (nI k)), (2, .int d), (3, .int c), (4, .int cut)] := hl
  have hS : va_S (Ad ad obM) ss.heap ss.heap [] := va_S.rf
  have hw := swfM
  have hM0 := hWf.it
  have hM1 := hWf.ks
  have hM2 := hWf.bl
  have hM3 := hWf.wk
  have hM4 := hWf.bi
  have hM5 := hWf.qu
  have hM6 := hWf.tm
  have hM7 := hWf.la
  refine lv_aload_n hx hb d_Md_takeResult_0 rfl (lv_at hl 0 rfl) ?_
  refine x_get (v := .ref (ad 13)) (k := 18) hx hb ht xc_Md hown hK hP (moM (by decide)) rfl (by decide) fl_Md_48 rfl rfl rfl d_Md_takeResult_1 ?_
  refine lv_iload_n hx hb d_Md_takeResult_4 rfl (lv_at hl 1 rfl) ?_
  refine x_zald (κ := 112) (n := 10) hx hb hK hP (moM (by decide)) rfl (by decide) rfl rfl (by omega) (by omega) d_Md_takeResult_5 ?_
  refine x_ifeqB (tgt := 20) hx hb d_Md_takeResult_6 (by decide) (fun h1 => ?_) (fun h1 => ?_)
  · refine lv_aload_n hx hb d_Md_takeResult_20 rfl (lv_at hl 0 rfl) ?_
    refine lv_iload_n hx hb d_Md_takeResult_21 rfl (lv_at hl 2 rfl) ?_
    refine x_ci (x_rV (As := [.int d]) (rest := []) hx hb hml hown ht gW cs_Md_150 (c_Md_find l D dA ad hJ σ d B hWf) rfl rfl (by decide) xc_Md hN hK hP (moM (by decide)) rfl rfl hl.1 rfl (Nat.le_of_ble_eq_true rfl) d_Md_takeResult_22 (by decide)) hS (fun H locs hP hS => ?_)
    refine x_if_geO (n := 12) (tgt := 58) hx hb d_Md_takeResult_25 (by decide) ⟨mFind_lt hWf, by decide⟩ (fun j1 h2 hl1 => ?_) (fun h2 => ?_)
    · refine lv_aload_n hx hb d_Md_takeResult_58 rfl (lv_at hl 0 rfl) ?_
      refine lv_iload hx hb d_Md_takeResult_59 (lv_at hl 4 rfl) ?_
      refine x_ci (x_rV (As := [.int cut]) (rest := []) hx hb hml hown ht gW cs_Md_205 (c_Md_mayWrite l D dA ad hJ σ cut B hWf) rfl rfl (by decide) xc_Md hN hK hP (moM (by decide)) rfl rfl hl.1 rfl (Nat.le_of_ble_eq_true rfl) d_Md_takeResult_61 (by decide)) hS (fun H locs hP hS => ?_)
      have hWf : WfM B (mMayS σ cut) := wfm_may hWf
      refine x_ifneB (tgt := 68) hx hb d_Md_takeResult_64 (by decide) (fun h3 => ?_) (fun h3 => ?_)
      · refine lv_aload_n hx hb d_Md_takeResult_68 rfl (lv_at hl 0 rfl) ?_
        refine x_get (v := .ref (ad 13)) (k := 18) hx hb ht xc_Md hown hK hP (moM (by decide)) rfl (by decide) fl_Md_48 rfl rfl rfl d_Md_takeResult_69 ?_
        refine lv_iload_n hx hb d_Md_takeResult_72 rfl (lv_at hl 1 rfl) ?_
        refine lv_iconst (v := (nI 1)) hx hb d_Md_takeResult_73 (by decide) ?_
        refine x_zast (κ := 112) (n := 10) (x := true) hx hb hK hP hJ hw hS (moM (by decide)) rfl (by decide) rfl rfl (by omega) (by omega) d_Md_takeResult_74 (fun H locs hP hS => ?_)
        have hWf : WfM B (sB (mMayS σ cut) 112 k true) := wfm_B hWf
        refine lv_aload_n hx hb d_Md_takeResult_75 rfl (lv_at hl 0 rfl) ?_
        refine x_get (v := .ref (ad 14)) (k := 19) hx hb ht xc_Md hown hK hP (moM (by decide)) rfl (by decide) fl_Md_51 rfl rfl rfl d_Md_takeResult_76 ?_
        refine lv_iload_n hx hb d_Md_takeResult_79 rfl (lv_at hl 1 rfl) ?_
        refine lv_iload_n hx hb d_Md_takeResult_80 rfl (lv_at hl 2 rfl) ?_
        refine x_iast (κ := 113) (n := 10) (x := d) hx hb hK hP hJ hw hS (moM (by decide)) rfl (by decide) rfl rfl (by omega) (by omega) d_Md_takeResult_81 (fun H locs hP hS => ?_)
        have hWf : WfM B (sI (sB (mMayS σ cut) 112 k true) 113 k d) := wfm_I hWf
        refine lv_aload_n hx hb d_Md_takeResult_82 rfl (lv_at hl 0 rfl) ?_
        refine x_get (v := .ref (ad 15)) (k := 20) hx hb ht xc_Md hown hK hP (moM (by decide)) rfl (by decide) fl_Md_54 rfl rfl rfl d_Md_takeResult_83 ?_
        refine lv_iload_n hx hb d_Md_takeResult_86 rfl (lv_at hl 1 rfl) ?_
        refine lv_iconst (v := (nI 0)) hx hb d_Md_takeResult_87 (by decide) ?_
        refine x_nast (κ := 114) (n := 10) (x := 0) hx hb hK hP hJ hw hS (moM (by decide)) rfl (by decide) rfl rfl (by omega) (by omega) d_Md_takeResult_88 (fun H locs hP hS => ?_)
        have hWf : WfM B (sN (sI (sB (mMayS σ cut) 112 k true) 113 k d) 114 k 0) := wfm_114 hWf (Nat.zero_le _)
        refine lv_aload_n hx hb d_Md_takeResult_89 rfl (lv_at hl 0 rfl) ?_
        refine x_get (v := .ref (ad 16)) (k := 21) hx hb ht xc_Md hown hK hP (moM (by decide)) rfl (by decide) fl_Md_57 rfl rfl rfl d_Md_takeResult_90 ?_
        refine lv_iload_n hx hb d_Md_takeResult_93 rfl (lv_at hl 1 rfl) ?_
        refine lv_iconst (v := (nI 0)) hx hb d_Md_takeResult_94 (by decide) ?_
        refine x_nast (κ := 115) (n := 10) (x := 0) hx hb hK hP hJ hw hS (moM (by decide)) rfl (by decide) rfl rfl (by omega) (by omega) d_Md_takeResult_95 (fun H locs hP hS => ?_)
        have hWf : WfM B (sN (sN (sI (sB (mMayS σ cut) 112 k true) 113 k d) 114 k 0) 115 k 0) := wfm_115 hWf (Nat.zero_le _)
        refine lv_aload_n hx hb d_Md_takeResult_96 rfl (lv_at hl 0 rfl) ?_
        refine lv_bipush (v := (nI 6)) hx hb d_Md_takeResult_97 (by decide) ?_
        refine lv_bipush (v := (nI 9)) hx hb d_Md_takeResult_99 (by decide) ?_
        refine lv_iload_n hx hb d_Md_takeResult_101 rfl (lv_at hl 1 rfl) ?_
        refine lv_iconst (v := (nI 0)) hx hb d_Md_takeResult_102 (by decide) ?_
        refine lv_iload_n hx hb d_Md_takeResult_103 rfl (lv_at hl 3 rfl) ?_
        refine lv_iconst (v := (nI 0)) hx hb d_Md_takeResult_104 (by decide) ?_
        refine lv_iload_n hx hb d_Md_takeResult_105 rfl (lv_at hl 2 rfl) ?_
        refine x_cv (x_rV (As := [.int (nI 6), .int (nI 9), .int (nI k), .int (nI 0), .int c, .int (nI 0), .int d]) (rest := []) hx hb hml hown ht gW cs_Md_134 (c_Md_send l D dA ad hJ (sN (sN (sI (sB (mMayS σ cut) 112 k true) 113 k d) 114 k 0) 115 k 0) 6 9 k 0 c (nI 0) d B hWf (by omega)) rfl rfl (by decide) xc_Md hN hK hP (moM (by decide)) rfl rfl hl.1 rfl (Nat.le_of_ble_eq_true rfl) d_Md_takeResult_106 (by decide)) hS (fun H locs hP hS => ?_)
        have hWf : WfM (B + 1) (mSend (sN (sN (sI (sB (mMayS σ cut) 112 k true) 113 k d) 114 k 0) 115 k 0) 6 9 k 0 c (nI 0) d) := wfm_send hWf (by omega) (by omega) (by omega) (by omega)
        exact x_vret hx hb hr hlk hK hP hS d_Md_takeResult_109 (by unfold mRes; rw [if_neg (by rw [h1]; decide), h2]; show _ = mRes2 σ k d c cut; unfold mRes2; rw [if_pos h3] <;> rfl)
      · exact x_vret hx hb hr hlk hK hP hS d_Md_takeResult_67 (by unfold mRes; rw [if_neg (by rw [h1]; decide), h2]; show _ = mRes2 σ k d c cut; unfold mRes2; rw [if_neg (by rw [h3]; decide)] <;> rfl)
    · refine lv_aload_n hx hb d_Md_takeResult_28 rfl (lv_at hl 0 rfl) ?_
      refine lv_iload hx hb d_Md_takeResult_29 (lv_at hl 4 rfl) ?_
      refine x_ci (x_rV (As := [.int cut]) (rest := []) hx hb hml hown ht gW cs_Md_205 (c_Md_mayWrite l D dA ad hJ σ cut B hWf) rfl rfl (by decide) xc_Md hN hK hP (moM (by decide)) rfl rfl hl.1 rfl (Nat.le_of_ble_eq_true rfl) d_Md_takeResult_31 (by decide)) hS (fun H locs hP hS => ?_)
      have hWf : WfM B (mMayS σ cut) := wfm_may hWf
      refine x_ifneB (tgt := 38) hx hb d_Md_takeResult_34 (by decide) (fun h4 => ?_) (fun h4 => ?_)
      · refine lv_aload_n hx hb d_Md_takeResult_38 rfl (lv_at hl 0 rfl) ?_
        refine x_get (v := .ref (ad 18)) (k := 25) hx hb ht xc_Md hown hK hP (moM (by decide)) rfl (by decide) fl_Md_63 rfl rfl rfl d_Md_takeResult_39 ?_
        refine lv_aload_n hx hb d_Md_takeResult_42 rfl (lv_at hl 0 rfl) ?_
        refine x_get (v := .int (nI (gN σ 24 0))) (k := 24) hx hb ht xc_Md hown hK hP (moM (by decide)) rfl (by decide) fl_Md_147 rfl rfl (congrArg (fun z => Value.int (nI z)) (may_N σ cut (by decide) 0)) d_Md_takeResult_43 ?_
        refine lv_iload_n hx hb d_Md_takeResult_46 rfl (lv_at hl 3 rfl) ?_
        refine x_iast (κ := 117) (n := 12) (x := c) hx hb hK hP hJ hw hS (moM (by decide)) rfl (by decide) rfl rfl (by omega) (by omega) d_Md_takeResult_47 (fun H locs hP hS => ?_)
        have hWf : WfM B (sI (mMayS σ cut) 117 (gN σ 24 0) c) := wfm_I hWf
        refine lv_aload_n hx hb d_Md_takeResult_48 rfl (lv_at hl 0 rfl) ?_
        refine lv_dup hx hb d_Md_takeResult_49 rfl ?_
        refine x_get (v := .int (nI (gN σ 24 0))) (k := 24) hx hb ht xc_Md hown hK hP (moM (by decide)) rfl (by decide) fl_Md_147 rfl rfl (congrArg (fun z => Value.int (nI z)) (may_N σ cut (by decide) 0)) d_Md_takeResult_50 ?_
        refine lv_iconst (v := (nI 1)) hx hb d_Md_takeResult_53 (by decide) ?_
        refine x_iaddN hx hb d_Md_takeResult_54 ?_
        refine x_put (σ' := sN (sI (mMayS σ cut) 117 (gN σ 24 0) c) 24 0 ((gN σ 24 0) + 1)) (v := .int (nI ((gN σ 24 0) + 1))) (k := 24) hx hb ht xc_Md t_Md t_Md_ok n_Md hown hK hP hJ hw hS (moM (by decide)) rfl (by decide) fl_Md_147 rfl rfl rfl off_N rfl rfl rfl d_Md_takeResult_55 (fun H locs hP hS => ?_)
        have hWf : WfM B (sN (sI (mMayS σ cut) 117 (gN σ 24 0) c) 24 0 ((gN σ 24 0) + 1)) := wfm_24 hWf (by omega)
        refine lv_aload_n hx hb d_Md_takeResult_58 rfl (lv_at hl 0 rfl) ?_
        refine lv_iload hx hb d_Md_takeResult_59 (lv_at hl 4 rfl) ?_
        refine x_ci (x_rV (As := [.int cut]) (rest := []) hx hb hml hown ht gW cs_Md_205 (c_Md_mayWrite l D dA ad hJ (sN (sI (mMayS σ cut) 117 (gN σ 24 0) c) 24 0 ((gN σ 24 0) + 1)) cut B hWf) rfl rfl (by decide) xc_Md hN hK hP (moM (by decide)) rfl rfl hl.1 rfl (Nat.le_of_ble_eq_true rfl) d_Md_takeResult_61 (by decide)) hS (fun H locs hP hS => ?_)
        have hWf : WfM B (mMayS (sN (sI (mMayS σ cut) 117 (gN σ 24 0) c) 24 0 ((gN σ 24 0) + 1)) cut) := wfm_may hWf
        refine x_ifneB (tgt := 68) hx hb d_Md_takeResult_64 (by decide) (fun h5 => ?_) (fun h5 => ?_)
        · refine lv_aload_n hx hb d_Md_takeResult_68 rfl (lv_at hl 0 rfl) ?_
          refine x_get (v := .ref (ad 13)) (k := 18) hx hb ht xc_Md hown hK hP (moM (by decide)) rfl (by decide) fl_Md_48 rfl rfl rfl d_Md_takeResult_69 ?_
          refine lv_iload_n hx hb d_Md_takeResult_72 rfl (lv_at hl 1 rfl) ?_
          refine lv_iconst (v := (nI 1)) hx hb d_Md_takeResult_73 (by decide) ?_
          refine x_zast (κ := 112) (n := 10) (x := true) hx hb hK hP hJ hw hS (moM (by decide)) rfl (by decide) rfl rfl (by omega) (by omega) d_Md_takeResult_74 (fun H locs hP hS => ?_)
          have hWf : WfM B (sB (mMayS (sN (sI (mMayS σ cut) 117 (gN σ 24 0) c) 24 0 ((gN σ 24 0) + 1)) cut) 112 k true) := wfm_B hWf
          refine lv_aload_n hx hb d_Md_takeResult_75 rfl (lv_at hl 0 rfl) ?_
          refine x_get (v := .ref (ad 14)) (k := 19) hx hb ht xc_Md hown hK hP (moM (by decide)) rfl (by decide) fl_Md_51 rfl rfl rfl d_Md_takeResult_76 ?_
          refine lv_iload_n hx hb d_Md_takeResult_79 rfl (lv_at hl 1 rfl) ?_
          refine lv_iload_n hx hb d_Md_takeResult_80 rfl (lv_at hl 2 rfl) ?_
          refine x_iast (κ := 113) (n := 10) (x := d) hx hb hK hP hJ hw hS (moM (by decide)) rfl (by decide) rfl rfl (by omega) (by omega) d_Md_takeResult_81 (fun H locs hP hS => ?_)
          have hWf : WfM B (sI (sB (mMayS (sN (sI (mMayS σ cut) 117 (gN σ 24 0) c) 24 0 ((gN σ 24 0) + 1)) cut) 112 k true) 113 k d) := wfm_I hWf
          refine lv_aload_n hx hb d_Md_takeResult_82 rfl (lv_at hl 0 rfl) ?_
          refine x_get (v := .ref (ad 15)) (k := 20) hx hb ht xc_Md hown hK hP (moM (by decide)) rfl (by decide) fl_Md_54 rfl rfl rfl d_Md_takeResult_83 ?_
          refine lv_iload_n hx hb d_Md_takeResult_86 rfl (lv_at hl 1 rfl) ?_
          refine lv_iconst (v := (nI 0)) hx hb d_Md_takeResult_87 (by decide) ?_
          refine x_nast (κ := 114) (n := 10) (x := 0) hx hb hK hP hJ hw hS (moM (by decide)) rfl (by decide) rfl rfl (by omega) (by omega) d_Md_takeResult_88 (fun H locs hP hS => ?_)
          have hWf : WfM B (sN (sI (sB (mMayS (sN (sI (mMayS σ cut) 117 (gN σ 24 0) c) 24 0 ((gN σ 24 0) + 1)) cut) 112 k true) 113 k d) 114 k 0) := wfm_114 hWf (Nat.zero_le _)
          refine lv_aload_n hx hb d_Md_takeResult_89 rfl (lv_at hl 0 rfl) ?_
          refine x_get (v := .ref (ad 16)) (k := 21) hx hb ht xc_Md hown hK hP (moM (by decide)) rfl (by decide) fl_Md_57 rfl rfl rfl d_Md_takeResult_90 ?_
          refine lv_iload_n hx hb d_Md_takeResult_93 rfl (lv_at hl 1 rfl) ?_
          refine lv_iconst (v := (nI 0)) hx hb d_Md_takeResult_94 (by decide) ?_
          refine x_nast (κ := 115) (n := 10) (x := 0) hx hb hK hP hJ hw hS (moM (by decide)) rfl (by decide) rfl rfl (by omega) (by omega) d_Md_takeResult_95 (fun H locs hP hS => ?_)
          have hWf : WfM B (sN (sN (sI (sB (mMayS (sN (sI (mMayS σ cut) 117 (gN σ 24 0) c) 24 0 ((gN σ 24 0) + 1)) cut) 112 k true) 113 k d) 114 k 0) 115 k 0) := wfm_115 hWf (Nat.zero_le _)
          refine lv_aload_n hx hb d_Md_takeResult_96 rfl (lv_at hl 0 rfl) ?_
          refine lv_bipush (v := (nI 6)) hx hb d_Md_takeResult_97 (by decide) ?_
          refine lv_bipush (v := (nI 9)) hx hb d_Md_takeResult_99 (by decide) ?_
          refine lv_iload_n hx hb d_Md_takeResult_101 rfl (lv_at hl 1 rfl) ?_
          refine lv_iconst (v := (nI 0)) hx hb d_Md_takeResult_102 (by decide) ?_
          refine lv_iload_n hx hb d_Md_takeResult_103 rfl (lv_at hl 3 rfl) ?_
          refine lv_iconst (v := (nI 0)) hx hb d_Md_takeResult_104 (by decide) ?_
          refine lv_iload_n hx hb d_Md_takeResult_105 rfl (lv_at hl 2 rfl) ?_
          refine x_cv (x_rV (As := [.int (nI 6), .int (nI 9), .int (nI k), .int (nI 0), .int c, .int (nI 0), .int d]) (rest := []) hx hb hml hown ht gW cs_Md_134 (c_Md_send l D dA ad hJ (sN (sN (sI (sB (mMayS (sN (sI (mMayS σ cut) 117 (gN σ 24 0) c) 24 0 ((gN σ 24 0) + 1)) cut) 112 k true) 113 k d) 114 k 0) 115 k 0) 6 9 k 0 c (nI 0) d B hWf (by omega)) rfl rfl (by decide) xc_Md hN hK hP (moM (by decide)) rfl rfl hl.1 rfl (Nat.le_of_ble_eq_true rfl) d_Md_takeResult_106 (by decide)) hS (fun H locs hP hS => ?_)
          have hWf : WfM (B + 1) (mSend (sN (sN (sI (sB (mMayS (sN (sI (mMayS σ cut) 117 (gN σ 24 0) c) 24 0 ((gN σ 24 0) + 1)) cut) 112 k true) 113 k d) 114 k 0) 115 k 0) 6 9 k 0 c (nI 0) d) := wfm_send hWf (by omega) (by omega) (by omega) (by omega)
          exact x_vret hx hb hr hlk hK hP hS d_Md_takeResult_109 (by unfold mRes; rw [if_neg (by rw [h1]; decide), h2]; show _ = if mMay σ cut = true then mRes2 (mResW σ c cut) k d c cut else mMayS σ cut; rw [if_pos h4]; unfold mRes2; rw [if_pos (show mMay (mResW σ c cut) cut = true from h5)] <;> rfl)
        · exact x_vret hx hb hr hlk hK hP hS d_Md_takeResult_67 (by unfold mRes; rw [if_neg (by rw [h1]; decide), h2]; show _ = if mMay σ cut = true then mRes2 (mResW σ c cut) k d c cut else mMayS σ cut; rw [if_pos h4]; unfold mRes2; rw [if_neg (by rw [show mMay (mResW σ c cut) cut = false from h5]; decide)] <;> rfl)
      · exact x_vret hx hb hr hlk hK hP hS d_Md_takeResult_37 (by unfold mRes; rw [if_neg (by rw [h1]; decide), h2]; show _ = if mMay σ cut = true then mRes2 (mResW σ c cut) k d c cut else mMayS σ cut; rw [if_neg (by rw [h4]; decide)])
  · refine lv_aload_n hx hb d_Md_takeResult_9 rfl (lv_at hl 0 rfl) ?_
    refine lv_dup hx hb d_Md_takeResult_10 rfl ?_
    refine x_get (v := .int (nI (gN σ 47 0))) (k := 47) hx hb ht xc_Md hown hK hP (moM (by decide)) rfl (by decide) fl_Md_211 rfl rfl rfl d_Md_takeResult_11 ?_
    refine lv_iconst (v := (nI 1)) hx hb d_Md_takeResult_14 (by decide) ?_
    refine x_iaddN hx hb d_Md_takeResult_15 ?_
    refine x_put (σ' := sN σ 47 0 ((gN σ 47 0) + 1)) (v := .int (nI ((gN σ 47 0) + 1))) (k := 47) hx hb ht xc_Md t_Md t_Md_ok n_Md hown hK hP hJ hw hS (moM (by decide)) rfl (by decide) fl_Md_211 rfl rfl rfl off_N rfl rfl rfl d_Md_takeResult_16 (fun H locs hP hS => ?_)
    have hWf : WfM B (sN σ 47 0 ((gN σ 47 0) + 1)) := wfm_N (by decide) hWf
    exact x_vret hx hb hr hlk hK hP hS d_Md_takeResult_19 (by unfold mRes; rw [if_pos h1])
set_option maxHeartbeats 4000000 in
set_option maxRecDepth 100000 in
theorem c_Md_takeAsk (l : Launch) (D : va_G) (dA : Nat → ClassId) (ad : Nat → Nat) (hJ : Inj ad obM) (σ : Sg) (k : Nat) (i : Nat) (B : Nat) (hWf : WfM B σ) (hB : B < 2 ^ 30) (hk : k < 10) (hi : i < 10) : CV l D clX (tyX dA) SM ad dA obM NL y_Md_takeAsk w_Md_takeAsk { frames := 2, cells := 0, slots := 0, locals := 45 } [.ref (ad 0), .int (nI k), .int (nI i)] σ (mTkA σ k i) := by
  refine x_of (WS := WS) (cc := b_Md_takeAsk) (maxL := 6) (ret := none) (by decide) rfl (Nat.le_of_ble_eq_true rfl) ?_
  intro pp ee ss mm below meth cdd hx hb hml hr hlk ht hown hnm hN hK hP ls hl
  have hl : lv_has ls 6 [(0, .ref (ad 0)), (1, .int (nI k)), (2, .int (nI i))] := hl
  have hS : va_S (Ad ad obM) ss.heap ss.heap [] := va_S.rf
  have hw := swfM
  have hM0 := hWf.it
  have hM1 := hWf.ks
  have hM2 := hWf.bl
  have hM3 := hWf.wk
  have hM4 := hWf.bi
  have hM5 := hWf.qu
  have hM6 := hWf.tm
  have hM7 := hWf.la
  refine lv_aload_n hx hb d_Md_takeAsk_0 rfl (lv_at hl 0 rfl) ?_
  refine lv_aload_n hx hb d_Md_takeAsk_1 rfl (lv_at hl 0 rfl) ?_
  refine x_get (v := .ref (ad 11)) (k := 16) hx hb ht xc_Md hown hK hP (moM (by decide)) rfl (by decide) fl_Md_42 rfl rfl rfl d_Md_takeAsk_2 ?_
  refine lv_iload_n hx hb d_Md_takeAsk_5 rfl (lv_at hl 1 rfl) ?_
  refine x_iald (κ := 110) (n := 10) hx hb hK hP (moM (by decide)) rfl (by decide) rfl rfl (by omega) (by omega) d_Md_takeAsk_6 ?_
  refine x_ci (x_rV (As := [.int (gI σ 110 k)]) (rest := []) hx hb hml hown ht gW cs_Md_150 (c_Md_find l D dA ad hJ σ (gI σ 110 k) B hWf) rfl rfl (by decide) xc_Md hN hK hP (moM (by decide)) rfl rfl hl.1 rfl (Nat.le_of_ble_eq_true rfl) d_Md_takeAsk_7 (by decide)) hS (fun H locs hP hS => ?_)
  refine lv_istore_n (lv' := [(3, .int (oI (mFind σ (gI σ 110 k)))), (0, .ref (ad 0)), (1, .int (nI k)), (2, .int (nI i))]) hx hb d_Md_takeAsk_10 rfl hl (by decide) rfl (fun ls hl => ?_)
  refine lv_aload_n hx hb d_Md_takeAsk_11 rfl (lv_at hl 1 rfl) ?_
  refine lv_aload_n hx hb d_Md_takeAsk_12 rfl (lv_at hl 1 rfl) ?_
  refine x_get (v := .ref (ad 12)) (k := 17) hx hb ht xc_Md hown hK hP (moM (by decide)) rfl (by decide) fl_Md_45 rfl rfl rfl d_Md_takeAsk_13 ?_
  refine lv_iload_n hx hb d_Md_takeAsk_16 rfl (lv_at hl 2 rfl) ?_
  refine x_iald (κ := 111) (n := 10) hx hb hK hP (moM (by decide)) rfl (by decide) rfl rfl (by omega) (by omega) d_Md_takeAsk_17 ?_
  refine x_ci (x_rV (As := [.int (gI σ 111 k)]) (rest := []) hx hb hml hown ht gW cs_Md_150 (c_Md_find l D dA ad hJ σ (gI σ 111 k) B hWf) rfl rfl (by decide) xc_Md hN hK hP (moM (by decide)) rfl rfl hl.1 rfl (Nat.le_of_ble_eq_true rfl) d_Md_takeAsk_18 (by decide)) hS (fun H locs hP hS => ?_)
  refine lv_istore (lv' := [(4, .int (oI (mFind σ (gI σ 111 k)))), (3, .int (oI (mFind σ (gI σ 110 k)))), (0, .ref (ad 0)), (1, .int (nI k)), (2, .int (nI i))]) hx hb d_Md_takeAsk_21 hl (by decide) rfl (fun ls hl => ?_)
  refine lv_aload_n hx hb d_Md_takeAsk_23 rfl (lv_at hl 2 rfl) ?_
  refine x_get (v := .ref (ad 13)) (k := 18) hx hb ht xc_Md hown hK hP (moM (by decide)) rfl (by decide) fl_Md_48 rfl rfl rfl d_Md_takeAsk_24 ?_
  refine lv_iload_n hx hb d_Md_takeAsk_27 rfl (lv_at hl 3 rfl) ?_
  refine x_zald (κ := 112) (n := 10) hx hb hK hP (moM (by decide)) rfl (by decide) rfl rfl (by omega) (by omega) d_Md_takeAsk_28 ?_
  refine x_ifeqB (tgt := 90) hx hb d_Md_takeAsk_29 (by decide) (fun h1 => ?_) (fun h1 => ?_)
  · refine lv_iload_n hx hb d_Md_takeAsk_90 rfl (lv_at hl 1 rfl) ?_
    refine x_if_ltO (n := 12) (tgt := 99) hx hb d_Md_takeAsk_91 (by decide) ⟨mFind_lt hWf, by decide⟩ (fun h2 => ?_) (fun j1 h2 hl1 => ?_)
    · refine lv_aload_n hx hb d_Md_takeAsk_99 rfl (lv_at hl 2 rfl) ?_
      refine lv_iconst (v := (nI 2)) hx hb d_Md_takeAsk_100 (by decide) ?_
      refine lv_bipush (v := (nI 9)) hx hb d_Md_takeAsk_101 (by decide) ?_
      refine lv_iload_n hx hb d_Md_takeAsk_103 rfl (lv_at hl 3 rfl) ?_
      refine lv_iload_n hx hb d_Md_takeAsk_104 rfl (lv_at hl 4 rfl) ?_
      refine lv_iload_n hx hb d_Md_takeAsk_105 rfl (lv_at hl 1 rfl) ?_
      refine x_if_geO (n := 12) (tgt := 113) hx hb d_Md_takeAsk_106 (by decide) ⟨mFind_lt hWf, by decide⟩ (fun j h9 _ => absurd (h9.symm.trans h2) (by simp)) (fun _ => ?_)
      refine lv_iconst (v := (nI 1)) hx hb d_Md_takeAsk_109 (by decide) ?_
      refine lv_goto (tgt := 114) hx hb d_Md_takeAsk_110 (by decide) ?_
      refine lv_iload hx hb d_Md_takeAsk_114 (lv_at hl 0 rfl) ?_
      refine x_if_geO (n := 12) (tgt := 123) hx hb d_Md_takeAsk_116 (by decide) ⟨mFind_lt hWf, by decide⟩ (fun j2 h4 hl2 => ?_) (fun h4 => ?_)
      · rw [h4] at hl
        have hl : lv_has ls 6 [(4, .int (nI j2)), (3, .int (oI (mFind σ (gI σ 110 k)))), (0, .ref (ad 0)), (1, .int (nI k)), (2, .int (nI i))] := hl
        refine lv_iconst (v := (nI 0)) hx hb d_Md_takeAsk_123 (by decide) ?_
        refine lv_iconst (v := (nI 0)) hx hb d_Md_takeAsk_124 (by decide) ?_
        refine x_cv (x_rV (As := [.int (nI 2), .int (nI 9), .int (nI k), .int (nI i), .int (nI 1), .int (nI 0), .int (nI 0)]) (rest := []) hx hb hml hown ht gW cs_Md_134 (c_Md_send l D dA ad hJ σ 2 9 k i (nI 1) (nI 0) (nI 0) B hWf (by omega)) rfl rfl (by decide) xc_Md hN hK hP (moM (by decide)) rfl rfl hl.1 rfl (Nat.le_of_ble_eq_true rfl) d_Md_takeAsk_125 (by decide)) hS (fun H locs hP hS => ?_)
        have hWf : WfM (B + 1) (mSend σ 2 9 k i (nI 1) (nI 0) (nI 0)) := wfm_send hWf (by omega) (by omega) (by omega) (by omega)
        refine lv_goto (tgt := 169) hx hb d_Md_takeAsk_128 (by decide) ?_
        exact x_vret hx hb hr hlk hK hP hS d_Md_takeAsk_169 (by unfold mTkA; rw [if_neg (by rw [h1]; decide), h2, h4] <;> rfl)
      · refine lv_iconst (v := (nI 1)) hx hb d_Md_takeAsk_119 (by decide) ?_
        refine lv_goto (tgt := 124) hx hb d_Md_takeAsk_120 (by decide) ?_
        refine lv_iconst (v := (nI 0)) hx hb d_Md_takeAsk_124 (by decide) ?_
        refine x_cv (x_rV (As := [.int (nI 2), .int (nI 9), .int (nI k), .int (nI i), .int (nI 1), .int (nI 1), .int (nI 0)]) (rest := []) hx hb hml hown ht gW cs_Md_134 (c_Md_send l D dA ad hJ σ 2 9 k i (nI 1) (nI 1) (nI 0) B hWf (by omega)) rfl rfl (by decide) xc_Md hN hK hP (moM (by decide)) rfl rfl hl.1 rfl (Nat.le_of_ble_eq_true rfl) d_Md_takeAsk_125 (by decide)) hS (fun H locs hP hS => ?_)
        have hWf : WfM (B + 1) (mSend σ 2 9 k i (nI 1) (nI 1) (nI 0)) := wfm_send hWf (by omega) (by omega) (by omega) (by omega)
        refine lv_goto (tgt := 169) hx hb d_Md_takeAsk_128 (by decide) ?_
        exact x_vret hx hb hr hlk hK hP hS d_Md_takeAsk_169 (by unfold mTkA; rw [if_neg (by rw [h1]; decide), h2, h4] <;> rfl)
    · rw [h2] at hl
      have hl : lv_has ls 6 [(4, .int (oI (mFind σ (gI σ 111 k)))), (3, .int (nI j1)), (0, .ref (ad 0)), (1, .int (nI k)), (2, .int (nI i))] := hl
      refine lv_iload hx hb d_Md_takeAsk_94 (lv_at hl 0 rfl) ?_
      refine x_if_geO (n := 12) (tgt := 131) hx hb d_Md_takeAsk_96 (by decide) ⟨mFind_lt hWf, by decide⟩ (fun j3 h5 hl3 => ?_) (fun h5 => ?_)
      · rw [h5] at hl
        have hl : lv_has ls 6 [(4, .int (nI j3)), (3, .int (nI j1)), (0, .ref (ad 0)), (1, .int (nI k)), (2, .int (nI i))] := hl
        refine lv_aload_n hx hb d_Md_takeAsk_131 rfl (lv_at hl 2 rfl) ?_
        refine x_get (v := .ref (ad 15)) (k := 20) hx hb ht xc_Md hown hK hP (moM (by decide)) rfl (by decide) fl_Md_54 rfl rfl rfl d_Md_takeAsk_132 ?_
        refine lv_iload_n hx hb d_Md_takeAsk_135 rfl (lv_at hl 3 rfl) ?_
        refine x_nald (κ := 114) (n := 10) hx hb hK hP (moM (by decide)) rfl (by decide) rfl rfl (by omega) (by omega) d_Md_takeAsk_136 ?_
        refine x_if_neN (tgt := 169) hx hb d_Md_takeAsk_137 (by decide) (Nat.lt_of_le_of_lt (hWf.qd _) (by omega)) (fun h6 => ?_) (fun h6 => ?_)
        · exact x_vret hx hb hr hlk hK hP hS d_Md_takeAsk_169 (by unfold mTkA; rw [if_neg (by rw [h1]; decide), h2, h5]; show _ = if gN σ 114 k = 0 then _ else _; rw [if_neg (by omega)])
        · refine lv_aload_n hx hb d_Md_takeAsk_140 rfl (lv_at hl 2 rfl) ?_
          refine x_get (v := .ref (ad 16)) (k := 21) hx hb ht xc_Md hown hK hP (moM (by decide)) rfl (by decide) fl_Md_57 rfl rfl rfl d_Md_takeAsk_141 ?_
          refine lv_iload_n hx hb d_Md_takeAsk_144 rfl (lv_at hl 3 rfl) ?_
          refine x_nald (κ := 115) (n := 10) hx hb hK hP (moM (by decide)) rfl (by decide) rfl rfl (by omega) (by omega) d_Md_takeAsk_145 ?_
          refine x_if_neN (tgt := 169) hx hb d_Md_takeAsk_146 (by decide) (Nat.lt_of_le_of_lt (hWf.ho _) (by decide)) (fun h7 => ?_) (fun h7 => ?_)
          · exact x_vret hx hb hr hlk hK hP hS d_Md_takeAsk_169 (by unfold mTkA; rw [if_neg (by rw [h1]; decide), h2, h5]; show _ = if gN σ 114 k = 0 then _ else _; rw [if_pos h6, if_neg (by omega)])
          · refine lv_aload_n hx hb d_Md_takeAsk_149 rfl (lv_at hl 2 rfl) ?_
            refine lv_dup hx hb d_Md_takeAsk_150 rfl ?_
            refine x_get (v := .int (nI (gN σ 23 0))) (k := 23) hx hb ht xc_Md hown hK hP (moM (by decide)) rfl (by decide) fl_Md_199 rfl rfl rfl d_Md_takeAsk_151 ?_
            refine lv_iconst (v := (nI 1)) hx hb d_Md_takeAsk_154 (by decide) ?_
            refine x_iaddN hx hb d_Md_takeAsk_155 ?_
            refine x_put (σ' := sN σ 23 0 ((gN σ 23 0) + 1)) (v := .int (nI ((gN σ 23 0) + 1))) (k := 23) hx hb ht xc_Md t_Md t_Md_ok n_Md hown hK hP hJ hw hS (moM (by decide)) rfl (by decide) fl_Md_199 rfl rfl rfl off_N rfl rfl rfl d_Md_takeAsk_156 (fun H locs hP hS => ?_)
            refine lv_aload_n hx hb d_Md_takeAsk_159 rfl (lv_at hl 2 rfl) ?_
            refine x_get (v := .ref (ad 15)) (k := 20) hx hb ht xc_Md hown hK hP (moM (by decide)) rfl (by decide) fl_Md_54 rfl rfl rfl d_Md_takeAsk_160 ?_
            refine lv_iload_n hx hb d_Md_takeAsk_163 rfl (lv_at hl 3 rfl) ?_
            refine lv_aload_n hx hb d_Md_takeAsk_164 rfl (lv_at hl 2 rfl) ?_
            refine x_get (v := .int (nI ((gN σ 23 0) + 1))) (k := 23) hx hb ht xc_Md hown hK hP (moM (by decide)) rfl (by decide) fl_Md_199 rfl rfl rfl d_Md_takeAsk_165 ?_
            refine x_nast (κ := 114) (n := 10) (x := (gN σ 23 0) + 1) hx hb hK hP hJ hw hS (moM (by decide)) rfl (by decide) rfl rfl (by omega) (by omega) d_Md_takeAsk_168 (fun H locs hP hS => ?_)
            exact x_vret hx hb hr hlk hK hP hS d_Md_takeAsk_169 (by unfold mTkA; rw [if_neg (by rw [h1]; decide), h2, h5]; show _ = if gN σ 114 k = 0 then _ else _; rw [if_pos h6, if_pos h7])
      · refine lv_aload_n hx hb d_Md_takeAsk_99 rfl (lv_at hl 2 rfl) ?_
        refine lv_iconst (v := (nI 2)) hx hb d_Md_takeAsk_100 (by decide) ?_
        refine lv_bipush (v := (nI 9)) hx hb d_Md_takeAsk_101 (by decide) ?_
        refine lv_iload_n hx hb d_Md_takeAsk_103 rfl (lv_at hl 3 rfl) ?_
        refine lv_iload_n hx hb d_Md_takeAsk_104 rfl (lv_at hl 4 rfl) ?_
        refine lv_iload_n hx hb d_Md_takeAsk_105 rfl (lv_at hl 1 rfl) ?_
        refine x_if_geN (tgt := 113) hx hb d_Md_takeAsk_106 (by decide) (by omega) ?_
        refine lv_iconst (v := (nI 0)) hx hb d_Md_takeAsk_113 (by decide) ?_
        refine lv_iload hx hb d_Md_takeAsk_114 (lv_at hl 0 rfl) ?_
        refine x_if_geO (n := 12) (tgt := 123) hx hb d_Md_takeAsk_116 (by decide) ⟨mFind_lt hWf, by decide⟩ (fun j h9 _ => absurd (h9.symm.trans h5) (by simp)) (fun _ => ?_)
        refine lv_iconst (v := (nI 1)) hx hb d_Md_takeAsk_119 (by decide) ?_
        refine lv_goto (tgt := 124) hx hb d_Md_takeAsk_120 (by decide) ?_
        refine lv_iconst (v := (nI 0)) hx hb d_Md_takeAsk_124 (by decide) ?_
        refine x_cv (x_rV (As := [.int (nI 2), .int (nI 9), .int (nI k), .int (nI i), .int (nI 0), .int (nI 1), .int (nI 0)]) (rest := []) hx hb hml hown ht gW cs_Md_134 (c_Md_send l D dA ad hJ σ 2 9 k i (nI 0) (nI 1) (nI 0) B hWf (by omega)) rfl rfl (by decide) xc_Md hN hK hP (moM (by decide)) rfl rfl hl.1 rfl (Nat.le_of_ble_eq_true rfl) d_Md_takeAsk_125 (by decide)) hS (fun H locs hP hS => ?_)
        have hWf : WfM (B + 1) (mSend σ 2 9 k i (nI 0) (nI 1) (nI 0)) := wfm_send hWf (by omega) (by omega) (by omega) (by omega)
        refine lv_goto (tgt := 169) hx hb d_Md_takeAsk_128 (by decide) ?_
        exact x_vret hx hb hr hlk hK hP hS d_Md_takeAsk_169 (by unfold mTkA; rw [if_neg (by rw [h1]; decide), h2, h5] <;> rfl)
  · refine lv_aload_n hx hb d_Md_takeAsk_32 rfl (lv_at hl 2 rfl) ?_
    refine lv_dup hx hb d_Md_takeAsk_33 rfl ?_
    refine x_get (v := .int (nI (gN σ 45 0))) (k := 45) hx hb ht xc_Md hown hK hP (moM (by decide)) rfl (by decide) fl_Md_196 rfl rfl rfl d_Md_takeAsk_34 ?_
    refine lv_iconst (v := (nI 1)) hx hb d_Md_takeAsk_37 (by decide) ?_
    refine x_iaddN hx hb d_Md_takeAsk_38 ?_
    refine x_put (σ' := sN σ 45 0 ((gN σ 45 0) + 1)) (v := .int (nI ((gN σ 45 0) + 1))) (k := 45) hx hb ht xc_Md t_Md t_Md_ok n_Md hown hK hP hJ hw hS (moM (by decide)) rfl (by decide) fl_Md_196 rfl rfl rfl off_N rfl rfl rfl d_Md_takeAsk_39 (fun H locs hP hS => ?_)
    have hWf : WfM B (sN σ 45 0 ((gN σ 45 0) + 1)) := wfm_N (by decide) hWf
    refine lv_aload_n hx hb d_Md_takeAsk_42 rfl (lv_at hl 2 rfl) ?_
    refine lv_aload_n hx hb d_Md_takeAsk_43 rfl (lv_at hl 2 rfl) ?_
    refine x_get (v := .ref (ad 14)) (k := 19) hx hb ht xc_Md hown hK hP (moM (by decide)) rfl (by decide) fl_Md_51 rfl rfl rfl d_Md_takeAsk_44 ?_
    refine lv_iload_n hx hb d_Md_takeAsk_47 rfl (lv_at hl 3 rfl) ?_
    refine x_iald (κ := 113) (n := 10) hx hb hK hP (moM (by decide)) rfl (by decide) rfl rfl (by omega) (by omega) d_Md_takeAsk_48 ?_
    rw [show gI (sN σ 45 0 ((gN σ 45 0) + 1)) 113 k = gI σ 113 k from rfl]
    refine x_ci (x_rV (As := [.int (gI σ 113 k)]) (rest := []) hx hb hml hown ht gW cs_Md_150 (c_Md_find l D dA ad hJ (sN σ 45 0 ((gN σ 45 0) + 1)) (gI σ 113 k) B hWf) rfl rfl (by decide) xc_Md hN hK hP (moM (by decide)) rfl rfl hl.1 rfl (Nat.le_of_ble_eq_true rfl) d_Md_takeAsk_49 (by decide)) hS (fun H locs hP hS => ?_)
    refine lv_istore (lv' := [(5, .int (oI (mFind (sN σ 45 0 ((gN σ 45 0) + 1)) (gI σ 113 k)))), (4, .int (oI (mFind σ (gI σ 111 k)))), (3, .int (oI (mFind σ (gI σ 110 k)))), (0, .ref (ad 0)), (1, .int (nI k)), (2, .int (nI i))]) hx hb d_Md_takeAsk_52 hl (by decide) rfl (fun ls hl => ?_)
    refine lv_aload_n hx hb d_Md_takeAsk_54 rfl (lv_at hl 3 rfl) ?_
    refine lv_bipush (v := (nI 6)) hx hb d_Md_takeAsk_55 (by decide) ?_
    refine lv_bipush (v := (nI 9)) hx hb d_Md_takeAsk_57 (by decide) ?_
    refine lv_iload_n hx hb d_Md_takeAsk_59 rfl (lv_at hl 4 rfl) ?_
    refine lv_iconst (v := (nI 0)) hx hb d_Md_takeAsk_60 (by decide) ?_
    refine lv_iload hx hb d_Md_takeAsk_61 (lv_at hl 0 rfl) ?_
    refine x_if_geO (n := 12) (tgt := 70) hx hb d_Md_takeAsk_63 (by decide) ⟨mFind_lt hWf, by decide⟩ (fun j4 h10 hl4 => ?_) (fun h10 => ?_)
    · rw [h10] at hl
      have hl : lv_has ls 6 [(5, .int (nI j4)), (4, .int (oI (mFind σ (gI σ 111 k)))), (3, .int (oI (mFind σ (gI σ 110 k)))), (0, .ref (ad 0)), (1, .int (nI k)), (2, .int (nI i))] := hl
      refine lv_aload_n hx hb d_Md_takeAsk_70 rfl (lv_at hl 3 rfl) ?_
      refine x_get (v := .ref (ad 18)) (k := 25) hx hb ht xc_Md hown hK hP (moM (by decide)) rfl (by decide) fl_Md_63 rfl rfl rfl d_Md_takeAsk_71 ?_
      refine lv_iload hx hb d_Md_takeAsk_74 (lv_at hl 0 rfl) ?_
      refine x_iald (κ := 117) (n := 12) hx hb hK hP (moM (by decide)) rfl (by decide) rfl rfl (by omega) (by omega) d_Md_takeAsk_76 ?_
      rw [show gI (sN σ 45 0 ((gN σ 45 0) + 1)) 117 j4 = gI σ 117 j4 from rfl]
      refine lv_iconst (v := (nI 0)) hx hb d_Md_takeAsk_77 (by decide) ?_
      refine lv_aload_n hx hb d_Md_takeAsk_78 rfl (lv_at hl 3 rfl) ?_
      refine x_get (v := .ref (ad 14)) (k := 19) hx hb ht xc_Md hown hK hP (moM (by decide)) rfl (by decide) fl_Md_51 rfl rfl rfl d_Md_takeAsk_79 ?_
      refine lv_iload_n hx hb d_Md_takeAsk_82 rfl (lv_at hl 4 rfl) ?_
      refine x_iald (κ := 113) (n := 10) hx hb hK hP (moM (by decide)) rfl (by decide) rfl rfl (by omega) (by omega) d_Md_takeAsk_83 ?_
      rw [show gI (sN σ 45 0 ((gN σ 45 0) + 1)) 113 k = gI σ 113 k from rfl]
      refine x_cv (x_rV (As := [.int (nI 6), .int (nI 9), .int (nI k), .int (nI 0), .int (gI σ 117 j4), .int (nI 0), .int (gI σ 113 k)]) (rest := []) hx hb hml hown ht gW cs_Md_134 (c_Md_send l D dA ad hJ (sN σ 45 0 ((gN σ 45 0) + 1)) 6 9 k 0 (gI σ 117 j4) (nI 0) (gI σ 113 k) B hWf (by omega)) rfl rfl (by decide) xc_Md hN hK hP (moM (by decide)) rfl rfl hl.1 rfl (Nat.le_of_ble_eq_true rfl) d_Md_takeAsk_84 (by decide)) hS (fun H locs hP hS => ?_)
      have hWf : WfM (B + 1) (mSend (sN σ 45 0 ((gN σ 45 0) + 1)) 6 9 k 0 (gI σ 117 j4) (nI 0) (gI σ 113 k)) := wfm_send hWf (by omega) (by omega) (by omega) (by omega)
      refine lv_goto (tgt := 169) hx hb d_Md_takeAsk_87 (by decide) ?_
      exact x_vret hx hb hr hlk hK hP hS d_Md_takeAsk_169 (by unfold mTkA; rw [if_pos h1, h10] <;> rfl)
    · refine lv_iconst (v := (nI 0)) hx hb d_Md_takeAsk_66 (by decide) ?_
      refine lv_goto (tgt := 77) hx hb d_Md_takeAsk_67 (by decide) ?_
      refine lv_iconst (v := (nI 0)) hx hb d_Md_takeAsk_77 (by decide) ?_
      refine lv_aload_n hx hb d_Md_takeAsk_78 rfl (lv_at hl 3 rfl) ?_
      refine x_get (v := .ref (ad 14)) (k := 19) hx hb ht xc_Md hown hK hP (moM (by decide)) rfl (by decide) fl_Md_51 rfl rfl rfl d_Md_takeAsk_79 ?_
      refine lv_iload_n hx hb d_Md_takeAsk_82 rfl (lv_at hl 4 rfl) ?_
      refine x_iald (κ := 113) (n := 10) hx hb hK hP (moM (by decide)) rfl (by decide) rfl rfl (by omega) (by omega) d_Md_takeAsk_83 ?_
      rw [show gI (sN σ 45 0 ((gN σ 45 0) + 1)) 113 k = gI σ 113 k from rfl]
      refine x_cv (x_rV (As := [.int (nI 6), .int (nI 9), .int (nI k), .int (nI 0), .int (nI 0), .int (nI 0), .int (gI σ 113 k)]) (rest := []) hx hb hml hown ht gW cs_Md_134 (c_Md_send l D dA ad hJ (sN σ 45 0 ((gN σ 45 0) + 1)) 6 9 k 0 (nI 0) (nI 0) (gI σ 113 k) B hWf (by omega)) rfl rfl (by decide) xc_Md hN hK hP (moM (by decide)) rfl rfl hl.1 rfl (Nat.le_of_ble_eq_true rfl) d_Md_takeAsk_84 (by decide)) hS (fun H locs hP hS => ?_)
      have hWf : WfM (B + 1) (mSend (sN σ 45 0 ((gN σ 45 0) + 1)) 6 9 k 0 (nI 0) (nI 0) (gI σ 113 k)) := wfm_send hWf (by omega) (by omega) (by omega) (by omega)
      refine lv_goto (tgt := 169) hx hb d_Md_takeAsk_87 (by decide) ?_
      exact x_vret hx hb hr hlk hK hP hS d_Md_takeAsk_169 (by unfold mTkA; rw [if_pos h1, h10] <;> rfl)
set_option maxHeartbeats 4000000 in
set_option maxRecDepth 100000 in
theorem c_Md_leased (l : Launch) (D : va_G) (dA : Nat → ClassId) (ad : Nat → Nat) (hJ : Inj ad obM) (σ : Sg) (w : Nat) (B : Nat) (hWf : WfM B σ) (hw5 : w < 5) : CI l D clX (tyX dA) SM ad dA obM NL y_Md_leased w_Md_leased { frames := 0, cells := 0, slots := 0, locals := 0 } [.ref (ad 0), .int (nI w)] σ ((oI (lsd σ w))) σ := by
  refine x_of (WS := WS) (cc := b_Md_leased) (maxL := 3) (ret := (some .int)) (by decide) rfl (Nat.le_of_ble_eq_true rfl) ?_
  intro pp ee ss mm below meth cdd hx hb hml hr hlk ht hown hnm hN hK hP ls hl
  have hl : lv_has ls 3 [(0, .ref (ad 0)), (1, .int (nI w))] := hl
  have hS : va_S (Ad ad obM) ss.heap ss.heap [] := va_S.rf
  have hw := swfM
  have hM0 := hWf.it
  have hM1 := hWf.ks
  have hM2 := hWf.bl
  have hM3 := hWf.wk
  have hM4 := hWf.bi
  have hM5 := hWf.qu
  have hM6 := hWf.tm
  have hM7 := hWf.la
  refine lv_iconst (v := (nI 0)) hx hb d_Md_leased_0 (by decide) ?_
  refine lv_istore_n (lv' := [(2, .int (nI 0)), (0, .ref (ad 0)), (1, .int (nI w))]) hx hb d_Md_leased_1 rfl hl (by decide) rfl (fun ls hl => ?_)
  refine x_loop (pc := 2) (α := Nat) (nL := 3) (fun i => (gN σ 14 0) - i) (fun i => σ) (fun i => [(2, .int (nI i)), (1, .int (nI w)), (0, .ref (ad 0))]) (fun i => i ≤ gN σ 14 0 ∧ ∀ j, j < i → (fun k => decide (gN σ 115 k = w)) j = false) ?_ 0 ⟨Nat.zero_le _, fun j hj => absurd hj (Nat.not_lt_zero j)⟩ hP hS (lv_sub hl [0, 2, 1] rfl)
  clear hP hS hl
  intro i ⟨hi, h0⟩ H locs ls hP hS hl ih
  have hi : i ≤ gN σ 14 0 := hi
  have hl : lv_has ls 3 [(2, .int (nI i)), (1, .int (nI w)), (0, .ref (ad 0))] := hl
  have hP : va_P D clX (wd SM ad dA obM σ) H := hP
  refine lv_iload_n hx hb d_Md_leased_2 rfl (lv_at hl 0 rfl) ?_
  refine lv_aload_n hx hb d_Md_leased_3 rfl (lv_at hl 2 rfl) ?_
  refine x_get (v := .int (nI (gN σ 14 0))) (k := 14) hx hb ht xc_Md hown hK hP (moM (by decide)) rfl (by decide) fl_Md_122 rfl rfl rfl d_Md_leased_4 ?_
  refine x_icmp_geN (tgt := 28) hx hb d_Md_leased_7 (by decide) (by omega) (by omega) (fun h1 => ?_) (fun h1 => ?_)
  · refine lv_iconst (v := ((-1))) hx hb d_Md_leased_28 (by decide) ?_
    exact x_iret hx hb hr hlk hK hP hS d_Md_leased_29 (by unfold lsd; rw [fnd_none (fun j hj => h0 j (by omega))]; rfl) rfl
  · refine lv_aload_n hx hb d_Md_leased_10 rfl (lv_at hl 2 rfl) ?_
    refine x_get (v := .ref (ad 16)) (k := 21) hx hb ht xc_Md hown hK hP (moM (by decide)) rfl (by decide) fl_Md_57 rfl rfl rfl d_Md_leased_11 ?_
    refine lv_iload_n hx hb d_Md_leased_14 rfl (lv_at hl 0 rfl) ?_
    refine x_nald (κ := 115) (n := 10) hx hb hK hP (moM (by decide)) rfl (by decide) rfl rfl (by omega) (by omega) d_Md_leased_15 ?_
    refine lv_iload_n hx hb d_Md_leased_16 rfl (lv_at hl 1 rfl) ?_
    refine x_icmp_neN (tgt := 22) hx hb d_Md_leased_17 (by decide) (Nat.lt_of_le_of_lt (hWf.ho _) (by decide)) (by omega) (fun h2 => ?_) (fun h2 => ?_)
    · refine lv_iinc (lv' := [(2, .int (nI (i + 1))), (1, .int (nI w)), (0, .ref (ad 0))]) (v := (nI (i + 1))) hx hb d_Md_leased_22 hl (k := 0) rfl (nI_add _ _) (by decide) rfl (fun ls hl => ?_)
      refine lv_goto (tgt := 2) hx hb d_Md_leased_25 (by decide) ?_
      exact ih (i + 1) ⟨by omega, lt_s h0 (decide_eq_false h2)⟩ (by omega) H locs ls hP hS (lv_sub hl [0, 1, 2] rfl)
    · refine lv_iload_n hx hb d_Md_leased_20 rfl (lv_at hl 0 rfl) ?_
      exact x_iret hx hb hr hlk hK hP hS d_Md_leased_21 (by unfold lsd; rw [fnd_some (by omega) (decide_eq_true h2) h0]; rfl) rfl
set_option maxHeartbeats 4000000 in
set_option maxRecDepth 100000 in
theorem c_Md_expire (l : Launch) (D : va_G) (dA : Nat → ClassId) (ad : Nat → Nat) (hJ : Inj ad obM) (σ : Sg) (w : Nat) (B : Nat) (hWf : WfM B σ) (hB : B < 2 ^ 30) (hw5 : w < 5) : CV l D clX (tyX dA) SM ad dA obM NL y_Md_expire w_Md_expire { frames := 1, cells := 0, slots := 0, locals := 22 } [.ref (ad 0), .int (nI w)] σ (mExp σ w) := by
  refine x_of (WS := WS) (cc := b_Md_expire) (maxL := 3) (ret := none) (by decide) rfl (Nat.le_of_ble_eq_true rfl) ?_
  intro pp ee ss mm below meth cdd hx hb hml hr hlk ht hown hnm hN hK hP ls hl
  have hl : lv_has ls 3 [(0, .ref (ad 0)), (1, .int (nI w))] := hl
  have hS : va_S (Ad ad obM) ss.heap ss.heap [] := va_S.rf
  have hw := swfM
  have hM0 := hWf.it
  have hM1 := hWf.ks
  have hM2 := hWf.bl
  have hM3 := hWf.wk
  have hM4 := hWf.bi
  have hM5 := hWf.qu
  have hM6 := hWf.tm
  have hM7 := hWf.la
  refine lv_aload_n hx hb d_Md_expire_0 rfl (lv_at hl 0 rfl) ?_
  refine lv_iload_n hx hb d_Md_expire_1 rfl (lv_at hl 1 rfl) ?_
  refine x_ci (x_rV (As := [.int (nI w)]) (rest := []) hx hb hml hown ht gW cs_Md_242 (c_Md_leased l D dA ad hJ σ w B hWf (by omega)) rfl rfl (by decide) xc_Md hN hK hP (moM (by decide)) rfl rfl hl.1 rfl (Nat.le_of_ble_eq_true rfl) d_Md_expire_2 (by decide)) hS (fun H locs hP hS => ?_)
  refine lv_istore_n (lv' := [(2, .int (oI (lsd σ w))), (0, .ref (ad 0)), (1, .int (nI w))]) hx hb d_Md_expire_5 rfl hl (by decide) rfl (fun ls hl => ?_)
  refine lv_iload_n hx hb d_Md_expire_6 rfl (lv_at hl 0 rfl) ?_
  refine x_if_ltO (n := 10) (tgt := 23) hx hb d_Md_expire_7 (by decide) ⟨lsd_lt hWf, by decide⟩ (fun h1 => ?_) (fun j1 h1 hl1 => ?_)
  · exact x_vret hx hb hr hlk hK hP hS d_Md_expire_23 (by unfold mExp; rw [h1])
  · rw [h1] at hl
    have hl : lv_has ls 3 [(2, .int (nI j1)), (0, .ref (ad 0)), (1, .int (nI w))] := hl
    refine lv_aload_n hx hb d_Md_expire_10 rfl (lv_at hl 1 rfl) ?_
    refine x_get (v := .ref (ad 17)) (k := 22) hx hb ht xc_Md hown hK hP (moM (by decide)) rfl (by decide) fl_Md_60 rfl rfl rfl d_Md_expire_11 ?_
    refine lv_iload_n hx hb d_Md_expire_14 rfl (lv_at hl 0 rfl) ?_
    refine x_nald (κ := 116) (n := 10) hx hb hK hP (moM (by decide)) rfl (by decide) rfl rfl (by omega) (by omega) d_Md_expire_15 ?_
    refine lv_aload_n hx hb d_Md_expire_16 rfl (lv_at hl 1 rfl) ?_
    refine x_get (v := .int (nI (gN σ 2 0))) (k := 2) hx hb ht xc_Md hown hK hP (moM (by decide)) rfl (by decide) fl_Md_138 rfl rfl rfl d_Md_expire_17 ?_
    refine x_icmp_leN (tgt := 24) hx hb d_Md_expire_20 (by decide) (Nat.lt_of_le_of_lt (hWf.en _) (by omega)) (by omega) (fun h2 => ?_) (fun h2 => ?_)
    · refine lv_aload_n hx hb d_Md_expire_24 rfl (lv_at hl 1 rfl) ?_
      refine x_get (v := .ref (ad 16)) (k := 21) hx hb ht xc_Md hown hK hP (moM (by decide)) rfl (by decide) fl_Md_57 rfl rfl rfl d_Md_expire_25 ?_
      refine lv_iload_n hx hb d_Md_expire_28 rfl (lv_at hl 0 rfl) ?_
      refine lv_iconst (v := (nI 0)) hx hb d_Md_expire_29 (by decide) ?_
      refine x_nast (κ := 115) (n := 10) (x := 0) hx hb hK hP hJ hw hS (moM (by decide)) rfl (by decide) rfl rfl (by omega) (by omega) d_Md_expire_30 (fun H locs hP hS => ?_)
      refine lv_aload_n hx hb d_Md_expire_31 rfl (lv_at hl 1 rfl) ?_
      refine lv_dup hx hb d_Md_expire_32 rfl ?_
      refine x_get (v := .int (nI (gN σ 23 0))) (k := 23) hx hb ht xc_Md hown hK hP (moM (by decide)) rfl (by decide) fl_Md_199 rfl rfl rfl d_Md_expire_33 ?_
      refine lv_iconst (v := (nI 1)) hx hb d_Md_expire_36 (by decide) ?_
      refine x_iaddN hx hb d_Md_expire_37 ?_
      refine x_put (σ' := sN (sN σ 115 j1 0) 23 0 ((gN σ 23 0) + 1)) (v := .int (nI ((gN σ 23 0) + 1))) (k := 23) hx hb ht xc_Md t_Md t_Md_ok n_Md hown hK hP hJ hw hS (moM (by decide)) rfl (by decide) fl_Md_199 rfl rfl rfl off_N rfl rfl rfl d_Md_expire_38 (fun H locs hP hS => ?_)
      refine lv_aload_n hx hb d_Md_expire_41 rfl (lv_at hl 1 rfl) ?_
      refine x_get (v := .ref (ad 15)) (k := 20) hx hb ht xc_Md hown hK hP (moM (by decide)) rfl (by decide) fl_Md_54 rfl rfl rfl d_Md_expire_42 ?_
      refine lv_iload_n hx hb d_Md_expire_45 rfl (lv_at hl 0 rfl) ?_
      refine lv_aload_n hx hb d_Md_expire_46 rfl (lv_at hl 1 rfl) ?_
      refine x_get (v := .int (nI ((gN σ 23 0) + 1))) (k := 23) hx hb ht xc_Md hown hK hP (moM (by decide)) rfl (by decide) fl_Md_199 rfl rfl rfl d_Md_expire_47 ?_
      refine x_nast (κ := 114) (n := 10) (x := (gN σ 23 0) + 1) hx hb hK hP hJ hw hS (moM (by decide)) rfl (by decide) rfl rfl (by omega) (by omega) d_Md_expire_50 (fun H locs hP hS => ?_)
      exact x_vret hx hb hr hlk hK hP hS d_Md_expire_51 (by unfold mExp; rw [h1]; exact (if_pos h2).symm)
    · exact x_vret hx hb hr hlk hK hP hS d_Md_expire_23 (by unfold mExp; rw [h1]; exact (if_neg (by omega)).symm)
set_option maxHeartbeats 4000000 in
set_option maxRecDepth 100000 in
theorem c_Md_waiting (l : Launch) (D : va_G) (dA : Nat → ClassId) (ad : Nat → Nat) (hJ : Inj ad obM) (σ : Sg)  (B : Nat) (hWf : WfM B σ) (hB : B < 2 ^ 30) : CI l D clX (tyX dA) SM ad dA obM NL y_Md_waiting w_Md_waiting { frames := 0, cells := 0, slots := 0, locals := 0 } [.ref (ad 0)] σ ((nI (mWait σ))) σ := by
  refine x_of (WS := WS) (cc := b_Md_waiting) (maxL := 3) (ret := (some .int)) (by decide) rfl (Nat.le_of_ble_eq_true rfl) ?_
  intro pp ee ss mm below meth cdd hx hb hml hr hlk ht hown hnm hN hK hP ls hl
  have hl : lv_has ls 3 [(0, .ref (ad 0))] := hl
  have hS : va_S (Ad ad obM) ss.heap ss.heap [] := va_S.rf
  have hw := swfM
  have hM0 := hWf.it
  have hM1 := hWf.ks
  have hM2 := hWf.bl
  have hM3 := hWf.wk
  have hM4 := hWf.bi
  have hM5 := hWf.qu
  have hM6 := hWf.tm
  have hM7 := hWf.la
  refine lv_iconst (v := (nI 0)) hx hb d_Md_waiting_0 (by decide) ?_
  refine lv_istore_n (lv' := [(1, .int (nI 0)), (0, .ref (ad 0))]) hx hb d_Md_waiting_1 rfl hl (by decide) rfl (fun ls hl => ?_)
  refine lv_iconst (v := (nI 0)) hx hb d_Md_waiting_2 (by decide) ?_
  refine lv_istore_n (lv' := [(2, .int (nI 0)), (1, .int (nI 0)), (0, .ref (ad 0))]) hx hb d_Md_waiting_3 rfl hl (by decide) rfl (fun ls hl => ?_)
  refine x_loop (pc := 4) (α := Nat) (nL := 3) (fun i => gN σ 14 0 - i) (fun i => σ) (fun i => [(2, .int (nI i)), (1, .int (nI (cnt (fun k => decide (0 < gN σ 114 k)) i))), (0, .ref (ad 0))]) (fun i => i ≤ gN σ 14 0) ?_ 0 (Nat.zero_le _) hP hS (lv_sub hl [0, 1, 2] rfl)
  clear hP hS hl
  intro i hi H locs ls hP hS hl ih
  have hi : i ≤ gN σ 14 0 := hi
  have hl : lv_has ls 3 [(2, .int (nI i)), (1, .int (nI (cnt (fun k => decide (0 < gN σ 114 k)) i))), (0, .ref (ad 0))] := hl
  have hP : va_P D clX (wd SM ad dA obM σ) H := hP
  refine lv_iload_n hx hb d_Md_waiting_4 rfl (lv_at hl 0 rfl) ?_
  refine lv_aload_n hx hb d_Md_waiting_5 rfl (lv_at hl 2 rfl) ?_
  refine x_get (v := .int (nI (gN σ 14 0))) (k := 14) hx hb ht xc_Md hown hK hP (moM (by decide)) rfl (by decide) fl_Md_122 rfl rfl rfl d_Md_waiting_6 ?_
  refine x_icmp_geN (tgt := 35) hx hb d_Md_waiting_9 (by decide) (by omega) (by omega) (fun h1 => ?_) (fun h1 => ?_)
  · refine lv_iload_n hx hb d_Md_waiting_35 rfl (lv_at hl 1 rfl) ?_
    exact x_iret hx hb hr hlk hK hP hS d_Md_waiting_36 (by rw [show i = gN σ 14 0 by omega]; rfl) rfl
  · refine lv_iload_n hx hb d_Md_waiting_12 rfl (lv_at hl 1 rfl) ?_
    refine lv_aload_n hx hb d_Md_waiting_13 rfl (lv_at hl 2 rfl) ?_
    refine x_get (v := .ref (ad 15)) (k := 20) hx hb ht xc_Md hown hK hP (moM (by decide)) rfl (by decide) fl_Md_54 rfl rfl rfl d_Md_waiting_14 ?_
    refine lv_iload_n hx hb d_Md_waiting_17 rfl (lv_at hl 0 rfl) ?_
    refine x_nald (κ := 114) (n := 10) hx hb hK hP (moM (by decide)) rfl (by decide) rfl rfl (by omega) (by omega) d_Md_waiting_18 ?_
    refine x_if_leN (tgt := 26) hx hb d_Md_waiting_19 (by decide) (Nat.lt_of_le_of_lt (hWf.qd _) (by omega)) (fun h2 => ?_) (fun h2 => ?_)
    · refine lv_iconst (v := (nI 0)) hx hb d_Md_waiting_26 (by decide) ?_
      refine x_iaddN hx hb d_Md_waiting_27 ?_
      refine lv_istore_n (lv' := [(1, .int (nI ((cnt (fun k => decide (0 < gN σ 114 k)) i) + 0))), (2, .int (nI i)), (0, .ref (ad 0))]) hx hb d_Md_waiting_28 rfl hl (by decide) rfl (fun ls hl => ?_)
      refine lv_iinc (lv' := [(2, .int (nI (i + 1))), (1, .int (nI ((cnt (fun k => decide (0 < gN σ 114 k)) i) + 0))), (0, .ref (ad 0))]) (v := (nI (i + 1))) hx hb d_Md_waiting_29 hl (k := 1) rfl (nI_add _ _) (by decide) rfl (fun ls hl => ?_)
      refine lv_goto (tgt := 4) hx hb d_Md_waiting_32 (by decide) ?_
      exact ih (i + 1) (by show i + 1 ≤ gN σ 14 0; omega) (by omega) H locs ls hP hS (lv_sub hl [0, 1, 2] (by simp [lv_pick, cnt, h2]))
    · refine lv_iconst (v := (nI 1)) hx hb d_Md_waiting_22 (by decide) ?_
      refine lv_goto (tgt := 27) hx hb d_Md_waiting_23 (by decide) ?_
      refine x_iaddN hx hb d_Md_waiting_27 ?_
      refine lv_istore_n (lv' := [(1, .int (nI ((cnt (fun k => decide (0 < gN σ 114 k)) i) + 1))), (2, .int (nI i)), (0, .ref (ad 0))]) hx hb d_Md_waiting_28 rfl hl (by decide) rfl (fun ls hl => ?_)
      refine lv_iinc (lv' := [(2, .int (nI (i + 1))), (1, .int (nI ((cnt (fun k => decide (0 < gN σ 114 k)) i) + 1))), (0, .ref (ad 0))]) (v := (nI (i + 1))) hx hb d_Md_waiting_29 hl (k := 1) rfl (nI_add _ _) (by decide) rfl (fun ls hl => ?_)
      refine lv_goto (tgt := 4) hx hb d_Md_waiting_32 (by decide) ?_
      exact ih (i + 1) (by show i + 1 ≤ gN σ 14 0; omega) (by omega) H locs ls hP hS (lv_sub hl [0, 1, 2] (by simp [lv_pick, cnt, h2]))
set_option maxHeartbeats 4000000 in
set_option maxRecDepth 100000 in
theorem c_Md_results (l : Launch) (D : va_G) (dA : Nat → ClassId) (ad : Nat → Nat) (hJ : Inj ad obM) (σ : Sg)  (B : Nat) (hWf : WfM B σ) : CI l D clX (tyX dA) SM ad dA obM NL y_Md_results w_Md_results { frames := 0, cells := 0, slots := 0, locals := 0 } [.ref (ad 0)] σ ((nI (mRess σ))) σ := by
  refine x_of (WS := WS) (cc := b_Md_results) (maxL := 3) (ret := (some .int)) (by decide) rfl (Nat.le_of_ble_eq_true rfl) ?_
  intro pp ee ss mm below meth cdd hx hb hml hr hlk ht hown hnm hN hK hP ls hl
  have hl : lv_has ls 3 [(0, .ref (ad 0))] := hl
  have hS : va_S (Ad ad obM) ss.heap ss.heap [] := va_S.rf
  have hw := swfM
  have hM0 := hWf.it
  have hM1 := hWf.ks
  have hM2 := hWf.bl
  have hM3 := hWf.wk
  have hM4 := hWf.bi
  have hM5 := hWf.qu
  have hM6 := hWf.tm
  have hM7 := hWf.la
  refine lv_iconst (v := (nI 0)) hx hb d_Md_results_0 (by decide) ?_
  refine lv_istore_n (lv' := [(1, .int (nI 0)), (0, .ref (ad 0))]) hx hb d_Md_results_1 rfl hl (by decide) rfl (fun ls hl => ?_)
  refine lv_iconst (v := (nI 0)) hx hb d_Md_results_2 (by decide) ?_
  refine lv_istore_n (lv' := [(2, .int (nI 0)), (1, .int (nI 0)), (0, .ref (ad 0))]) hx hb d_Md_results_3 rfl hl (by decide) rfl (fun ls hl => ?_)
  refine x_loop (pc := 4) (α := Nat) (nL := 3) (fun i => gN σ 14 0 - i) (fun i => σ) (fun i => [(2, .int (nI i)), (1, .int (nI (cnt (fun k => gB σ 112 k) i))), (0, .ref (ad 0))]) (fun i => i ≤ gN σ 14 0) ?_ 0 (Nat.zero_le _) hP hS (lv_sub hl [0, 1, 2] rfl)
  clear hP hS hl
  intro i hi H locs ls hP hS hl ih
  have hi : i ≤ gN σ 14 0 := hi
  have hl : lv_has ls 3 [(2, .int (nI i)), (1, .int (nI (cnt (fun k => gB σ 112 k) i))), (0, .ref (ad 0))] := hl
  have hP : va_P D clX (wd SM ad dA obM σ) H := hP
  refine lv_iload_n hx hb d_Md_results_4 rfl (lv_at hl 0 rfl) ?_
  refine lv_aload_n hx hb d_Md_results_5 rfl (lv_at hl 2 rfl) ?_
  refine x_get (v := .int (nI (gN σ 14 0))) (k := 14) hx hb ht xc_Md hown hK hP (moM (by decide)) rfl (by decide) fl_Md_122 rfl rfl rfl d_Md_results_6 ?_
  refine x_icmp_geN (tgt := 35) hx hb d_Md_results_9 (by decide) (by omega) (by omega) (fun h1 => ?_) (fun h1 => ?_)
  · refine lv_iload_n hx hb d_Md_results_35 rfl (lv_at hl 1 rfl) ?_
    exact x_iret hx hb hr hlk hK hP hS d_Md_results_36 (by rw [show i = gN σ 14 0 by omega]; rfl) rfl
  · refine lv_iload_n hx hb d_Md_results_12 rfl (lv_at hl 1 rfl) ?_
    refine lv_aload_n hx hb d_Md_results_13 rfl (lv_at hl 2 rfl) ?_
    refine x_get (v := .ref (ad 13)) (k := 18) hx hb ht xc_Md hown hK hP (moM (by decide)) rfl (by decide) fl_Md_48 rfl rfl rfl d_Md_results_14 ?_
    refine lv_iload_n hx hb d_Md_results_17 rfl (lv_at hl 0 rfl) ?_
    refine x_zald (κ := 112) (n := 10) hx hb hK hP (moM (by decide)) rfl (by decide) rfl rfl (by omega) (by omega) d_Md_results_18 ?_
    refine x_ifeqB (tgt := 26) hx hb d_Md_results_19 (by decide) (fun h2 => ?_) (fun h2 => ?_)
    · refine lv_iconst (v := (nI 0)) hx hb d_Md_results_26 (by decide) ?_
      refine x_iaddN hx hb d_Md_results_27 ?_
      refine lv_istore_n (lv' := [(1, .int (nI ((cnt (fun k => gB σ 112 k) i) + 0))), (2, .int (nI i)), (0, .ref (ad 0))]) hx hb d_Md_results_28 rfl hl (by decide) rfl (fun ls hl => ?_)
      refine lv_iinc (lv' := [(2, .int (nI (i + 1))), (1, .int (nI ((cnt (fun k => gB σ 112 k) i) + 0))), (0, .ref (ad 0))]) (v := (nI (i + 1))) hx hb d_Md_results_29 hl (k := 1) rfl (nI_add _ _) (by decide) rfl (fun ls hl => ?_)
      refine lv_goto (tgt := 4) hx hb d_Md_results_32 (by decide) ?_
      exact ih (i + 1) (by show i + 1 ≤ gN σ 14 0; omega) (by omega) H locs ls hP hS (lv_sub hl [0, 1, 2] (by simp [lv_pick, cnt, h2]))
    · refine lv_iconst (v := (nI 1)) hx hb d_Md_results_22 (by decide) ?_
      refine lv_goto (tgt := 27) hx hb d_Md_results_23 (by decide) ?_
      refine x_iaddN hx hb d_Md_results_27 ?_
      refine lv_istore_n (lv' := [(1, .int (nI ((cnt (fun k => gB σ 112 k) i) + 1))), (2, .int (nI i)), (0, .ref (ad 0))]) hx hb d_Md_results_28 rfl hl (by decide) rfl (fun ls hl => ?_)
      refine lv_iinc (lv' := [(2, .int (nI (i + 1))), (1, .int (nI ((cnt (fun k => gB σ 112 k) i) + 1))), (0, .ref (ad 0))]) (v := (nI (i + 1))) hx hb d_Md_results_29 hl (k := 1) rfl (nI_add _ _) (by decide) rfl (fun ls hl => ?_)
      refine lv_goto (tgt := 4) hx hb d_Md_results_32 (by decide) ?_
      exact ih (i + 1) (by show i + 1 ≤ gN σ 14 0; omega) (by omega) H locs ls hP hS (lv_sub hl [0, 1, 2] (by simp [lv_pick, cnt, h2]))
set_option maxHeartbeats 4000000 in
set_option maxRecDepth 100000 in
theorem c_Md_missing (l : Launch) (D : va_G) (dA : Nat → ClassId) (ad : Nat → Nat) (hJ : Inj ad obM) (σ : Sg)  (B : Nat) (hWf : WfM B σ) : CI l D clX (tyX dA) SM ad dA obM NL y_Md_missing w_Md_missing { frames := 0, cells := 0, slots := 0, locals := 0 } [.ref (ad 0)] σ ((nI (mMiss σ))) σ := by
  refine x_of (WS := WS) (cc := b_Md_missing) (maxL := 3) (ret := (some .int)) (by decide) rfl (Nat.le_of_ble_eq_true rfl) ?_
  intro pp ee ss mm below meth cdd hx hb hml hr hlk ht hown hnm hN hK hP ls hl
  have hl : lv_has ls 3 [(0, .ref (ad 0))] := hl
  have hS : va_S (Ad ad obM) ss.heap ss.heap [] := va_S.rf
  have hw := swfM
  have hM0 := hWf.it
  have hM1 := hWf.ks
  have hM2 := hWf.bl
  have hM3 := hWf.wk
  have hM4 := hWf.bi
  have hM5 := hWf.qu
  have hM6 := hWf.tm
  have hM7 := hWf.la
  refine lv_iconst (v := (nI 0)) hx hb d_Md_missing_0 (by decide) ?_
  refine lv_istore_n (lv' := [(1, .int (nI 0)), (0, .ref (ad 0))]) hx hb d_Md_missing_1 rfl hl (by decide) rfl (fun ls hl => ?_)
  refine lv_iconst (v := (nI 0)) hx hb d_Md_missing_2 (by decide) ?_
  refine lv_istore_n (lv' := [(2, .int (nI 0)), (1, .int (nI 0)), (0, .ref (ad 0))]) hx hb d_Md_missing_3 rfl hl (by decide) rfl (fun ls hl => ?_)
  refine x_loop (pc := 4) (α := Nat) (nL := 3) (fun i => gN σ 5 0 - i) (fun i => σ) (fun i => [(2, .int (nI i)), (1, .int (nI (cnt (fun k => !gB σ 105 k) i))), (0, .ref (ad 0))]) (fun i => i ≤ gN σ 5 0) ?_ 0 (Nat.zero_le _) hP hS (lv_sub hl [0, 1, 2] rfl)
  clear hP hS hl
  intro i hi H locs ls hP hS hl ih
  have hi : i ≤ gN σ 5 0 := hi
  have hl : lv_has ls 3 [(2, .int (nI i)), (1, .int (nI (cnt (fun k => !gB σ 105 k) i))), (0, .ref (ad 0))] := hl
  have hP : va_P D clX (wd SM ad dA obM σ) H := hP
  refine lv_iload_n hx hb d_Md_missing_4 rfl (lv_at hl 0 rfl) ?_
  refine lv_aload_n hx hb d_Md_missing_5 rfl (lv_at hl 2 rfl) ?_
  refine x_get (v := .int (nI (gN σ 5 0))) (k := 5) hx hb ht xc_Md hown hK hP (moM (by decide)) rfl (by decide) fl_Md_109 rfl rfl rfl d_Md_missing_6 ?_
  refine x_icmp_geN (tgt := 35) hx hb d_Md_missing_9 (by decide) (by omega) (by omega) (fun h1 => ?_) (fun h1 => ?_)
  · refine lv_iload_n hx hb d_Md_missing_35 rfl (lv_at hl 1 rfl) ?_
    exact x_iret hx hb hr hlk hK hP hS d_Md_missing_36 (by rw [show i = gN σ 5 0 by omega]; rfl) rfl
  · refine lv_iload_n hx hb d_Md_missing_12 rfl (lv_at hl 1 rfl) ?_
    refine lv_aload_n hx hb d_Md_missing_13 rfl (lv_at hl 2 rfl) ?_
    refine x_get (v := .ref (ad 6)) (k := 10) hx hb ht xc_Md hown hK hP (moM (by decide)) rfl (by decide) fl_Md_27 rfl rfl rfl d_Md_missing_14 ?_
    refine lv_iload_n hx hb d_Md_missing_17 rfl (lv_at hl 0 rfl) ?_
    refine x_zald (κ := 105) (n := 10) hx hb hK hP (moM (by decide)) rfl (by decide) rfl rfl (by omega) (by omega) d_Md_missing_18 ?_
    refine x_ifeqB (tgt := 26) hx hb d_Md_missing_19 (by decide) (fun h2 => ?_) (fun h2 => ?_)
    · refine lv_iconst (v := (nI 1)) hx hb d_Md_missing_26 (by decide) ?_
      refine x_iaddN hx hb d_Md_missing_27 ?_
      refine lv_istore_n (lv' := [(1, .int (nI ((cnt (fun k => !gB σ 105 k) i) + 1))), (2, .int (nI i)), (0, .ref (ad 0))]) hx hb d_Md_missing_28 rfl hl (by decide) rfl (fun ls hl => ?_)
      refine lv_iinc (lv' := [(2, .int (nI (i + 1))), (1, .int (nI ((cnt (fun k => !gB σ 105 k) i) + 1))), (0, .ref (ad 0))]) (v := (nI (i + 1))) hx hb d_Md_missing_29 hl (k := 1) rfl (nI_add _ _) (by decide) rfl (fun ls hl => ?_)
      refine lv_goto (tgt := 4) hx hb d_Md_missing_32 (by decide) ?_
      exact ih (i + 1) (by show i + 1 ≤ gN σ 5 0; omega) (by omega) H locs ls hP hS (lv_sub hl [0, 1, 2] (by simp [lv_pick, cnt, h2]))
    · refine lv_iconst (v := (nI 0)) hx hb d_Md_missing_22 (by decide) ?_
      refine lv_goto (tgt := 27) hx hb d_Md_missing_23 (by decide) ?_
      refine x_iaddN hx hb d_Md_missing_27 ?_
      refine lv_istore_n (lv' := [(1, .int (nI ((cnt (fun k => !gB σ 105 k) i) + 0))), (2, .int (nI i)), (0, .ref (ad 0))]) hx hb d_Md_missing_28 rfl hl (by decide) rfl (fun ls hl => ?_)
      refine lv_iinc (lv' := [(2, .int (nI (i + 1))), (1, .int (nI ((cnt (fun k => !gB σ 105 k) i) + 0))), (0, .ref (ad 0))]) (v := (nI (i + 1))) hx hb d_Md_missing_29 hl (k := 1) rfl (nI_add _ _) (by decide) rfl (fun ls hl => ?_)
      refine lv_goto (tgt := 4) hx hb d_Md_missing_32 (by decide) ?_
      exact ih (i + 1) (by show i + 1 ≤ gN σ 5 0; omega) (by omega) H locs ls hP hS (lv_sub hl [0, 1, 2] (by simp [lv_pick, cnt, h2]))
set_option maxHeartbeats 4000000 in
set_option maxRecDepth 100000 in
theorem c_Md_doing (l : Launch) (D : va_G) (dA : Nat → ClassId) (ad : Nat → Nat) (hJ : Inj ad obM) (σ : Sg) (x : Int32) (B : Nat) (hWf : WfM B σ) (hB : B < 2 ^ 30) : CI l D clX (tyX dA) SM ad dA obM NL y_Md_doing w_Md_doing { frames := 0, cells := 0, slots := 0, locals := 0 } [.ref (ad 0), .int x] σ ((mDoi σ x)) σ := by
  refine x_of (WS := WS) (cc := b_Md_doing) (maxL := 2) (ret := (some .int)) (by decide) rfl (Nat.le_of_ble_eq_true rfl) ?_
  intro pp ee ss mm below meth cdd hx hb hml hr hlk ht hown hnm hN hK hP ls hl
  have hl : lv_has ls 2 [(0, .ref (ad 0)), (1, .int x)] := hl
  have hS : va_S (Ad ad obM) ss.heap ss.heap [] := va_S.rf
  have hw := swfM
  have hM0 := hWf.it
  have hM1 := hWf.ks
  have hM2 := hWf.bl
  have hM3 := hWf.wk
  have hM4 := hWf.bi
  have hM5 := hWf.qu
  have hM6 := hWf.tm
  have hM7 := hWf.la
  refine lv_iload_n hx hb d_Md_doing_0 rfl (lv_at hl 1 rfl) ?_
  refine lv_iconst (v := (nI 1)) hx hb d_Md_doing_1 (by decide) ?_
  refine lv_icmp_lt (tgt := 22) hx hb d_Md_doing_2 (by decide) (fun h1 => ?_) (fun h1 => ?_)
  · refine lv_iconst (v := ((-1))) hx hb d_Md_doing_22 (by decide) ?_
    refine lv_goto (tgt := 32) hx hb d_Md_doing_23 (by decide) ?_
    exact x_iret hx hb hr hlk hK hP hS d_Md_doing_32 (by unfold mDoi; rw [if_neg (by rw [← isW_lo h1]; decide)]) rfl
  · refine lv_iload_n hx hb d_Md_doing_5 rfl (lv_at hl 1 rfl) ?_
    refine lv_aload_n hx hb d_Md_doing_6 rfl (lv_at hl 0 rfl) ?_
    refine x_get (v := .int (nI (gN σ 0 0))) (k := 0) hx hb ht xc_Md hown hK hP (moM (by decide)) rfl (by decide) fl_Md_102 rfl rfl rfl d_Md_doing_7 ?_
    refine lv_icmp_gt (tgt := 22) hx hb d_Md_doing_10 (by decide) (fun h2 => ?_) (fun h2 => ?_)
    · refine lv_iconst (v := ((-1))) hx hb d_Md_doing_22 (by decide) ?_
      refine lv_goto (tgt := 32) hx hb d_Md_doing_23 (by decide) ?_
      exact x_iret hx hb hr hlk hK hP hS d_Md_doing_32 (by unfold mDoi; rw [if_neg (by rw [← isW_hi hM3.2 h2]; decide)]) rfl
    · obtain ⟨j, hj, rfl⟩ := w_of hM3.2 h1 h2
      have hiw : isW (gN σ 0 0) (nI (j + 1)) = true := (isW_in hM3.2 h1 h2).symm
      refine lv_aload_n hx hb d_Md_doing_13 rfl (lv_at hl 0 rfl) ?_
      refine x_get (v := .ref (ad 19)) (k := 26) hx hb ht xc_Md hown hK hP (moM (by decide)) rfl (by decide) fl_Md_66 rfl rfl rfl d_Md_doing_14 ?_
      refine lv_iload_n hx hb d_Md_doing_17 rfl (lv_at hl 1 rfl) ?_
      refine x_nald (κ := 118) (n := 5) hx hb hK hP (moM (by decide)) rfl (by decide) rfl rfl (by omega) (by omega) d_Md_doing_18 ?_
      refine x_if_neN (tgt := 26) hx hb d_Md_doing_19 (by decide) (Nat.lt_of_le_of_lt (hWf.jk _) (by decide)) (fun h3 => ?_) (fun h3 => ?_)
      · refine lv_aload_n hx hb d_Md_doing_26 rfl (lv_at hl 0 rfl) ?_
        refine x_get (v := .ref (ad 22)) (k := 29) hx hb ht xc_Md hown hK hP (moM (by decide)) rfl (by decide) fl_Md_75 rfl rfl rfl d_Md_doing_27 ?_
        refine lv_iload_n hx hb d_Md_doing_30 rfl (lv_at hl 1 rfl) ?_
        refine x_nald (κ := 121) (n := 5) hx hb hK hP (moM (by decide)) rfl (by decide) rfl rfl (by omega) (by omega) d_Md_doing_31 ?_
        exact x_iret hx hb hr hlk hK hP hS d_Md_doing_32 (by unfold mDoi; rw [if_pos hiw, wTn (by omega), if_neg (by omega)]) rfl
      · refine lv_iconst (v := ((-1))) hx hb d_Md_doing_22 (by decide) ?_
        refine lv_goto (tgt := 32) hx hb d_Md_doing_23 (by decide) ?_
        exact x_iret hx hb hr hlk hK hP hS d_Md_doing_32 (by unfold mDoi; rw [if_pos hiw, wTn (by omega), if_pos h3]) rfl
set_option maxHeartbeats 4000000 in
set_option maxRecDepth 100000 in
theorem c_Md_lease (l : Launch) (D : va_G) (dA : Nat → ClassId) (ad : Nat → Nat) (hJ : Inj ad obM) (σ : Sg) (x : Int32) (B : Nat) (hWf : WfM B σ) : CI l D clX (tyX dA) SM ad dA obM NL y_Md_lease w_Md_lease { frames := 1, cells := 0, slots := 0, locals := 22 } [.ref (ad 0), .int x] σ ((mLea σ x)) σ := by
  refine x_of (WS := WS) (cc := b_Md_lease) (maxL := 3) (ret := (some .int)) (by decide) rfl (Nat.le_of_ble_eq_true rfl) ?_
  intro pp ee ss mm below meth cdd hx hb hml hr hlk ht hown hnm hN hK hP ls hl
  have hl : lv_has ls 3 [(0, .ref (ad 0)), (1, .int x)] := hl
  have hS : va_S (Ad ad obM) ss.heap ss.heap [] := va_S.rf
  have hw := swfM
  have hM0 := hWf.it
  have hM1 := hWf.ks
  have hM2 := hWf.bl
  have hM3 := hWf.wk
  have hM4 := hWf.bi
  have hM5 := hWf.qu
  have hM6 := hWf.tm
  have hM7 := hWf.la
  refine lv_iload_n hx hb d_Md_lease_0 rfl (lv_at hl 1 rfl) ?_
  refine lv_iconst (v := (nI 1)) hx hb d_Md_lease_1 (by decide) ?_
  refine lv_icmp_lt (tgt := 13) hx hb d_Md_lease_2 (by decide) (fun h1 => ?_) (fun h1 => ?_)
  · refine lv_iconst (v := ((-1))) hx hb d_Md_lease_13 (by decide) ?_
    refine lv_goto (tgt := 22) hx hb d_Md_lease_14 (by decide) ?_
    refine lv_istore_n (lv' := [(2, .int ((-1))), (0, .ref (ad 0)), (1, .int x)]) hx hb d_Md_lease_22 rfl hl (by decide) rfl (fun ls hl => ?_)
    refine lv_iload_n hx hb d_Md_lease_23 rfl (lv_at hl 0 rfl) ?_
    refine lv_if_ge (tgt := 31) hx hb d_Md_lease_24 (by decide) (fun h => absurd h (by decide)) (fun _ => ?_)
    refine lv_iconst (v := ((-1))) hx hb d_Md_lease_27 (by decide) ?_
    refine lv_goto (tgt := 42) hx hb d_Md_lease_28 (by decide) ?_
    exact x_iret hx hb hr hlk hK hP hS d_Md_lease_42 (by unfold mLea; rw [if_neg (by rw [← isW_lo h1]; decide)]) rfl
  · refine lv_iload_n hx hb d_Md_lease_5 rfl (lv_at hl 1 rfl) ?_
    refine lv_aload_n hx hb d_Md_lease_6 rfl (lv_at hl 0 rfl) ?_
    refine x_get (v := .int (nI (gN σ 0 0))) (k := 0) hx hb ht xc_Md hown hK hP (moM (by decide)) rfl (by decide) fl_Md_102 rfl rfl rfl d_Md_lease_7 ?_
    refine lv_icmp_le (tgt := 17) hx hb d_Md_lease_10 (by decide) (fun h3 => ?_) (fun h3 => ?_)
    · have hle9 : ¬ nI (gN σ 0 0) < x := fun q => by rw [Int32.lt_iff_toInt_lt] at q; rw [Int32.le_iff_toInt_le] at h3; omega
      have hiw0 : isW (gN σ 0 0) x = true := (isW_in hM3.2 h1 hle9).symm
      obtain ⟨j, hj, rfl⟩ := w_of hM3.2 h1 hle9
      refine lv_aload_n hx hb d_Md_lease_17 rfl (lv_at hl 0 rfl) ?_
      refine lv_iload_n hx hb d_Md_lease_18 rfl (lv_at hl 1 rfl) ?_
      refine x_ci (x_rV (As := [.int (nI (j + 1))]) (rest := []) hx hb hml hown ht gW cs_Md_242 (c_Md_leased l D dA ad hJ σ (j + 1) B hWf (by omega)) rfl rfl (by decide) xc_Md hN hK hP (moM (by decide)) rfl rfl hl.1 rfl (Nat.le_of_ble_eq_true rfl) d_Md_lease_19 (by decide)) hS (fun H locs hP hS => ?_)
      refine lv_istore_n (lv' := [(2, .int (oI (lsd σ (j + 1)))), (0, .ref (ad 0)), (1, .int (nI (j + 1)))]) hx hb d_Md_lease_22 rfl hl (by decide) rfl (fun ls hl => ?_)
      refine lv_iload_n hx hb d_Md_lease_23 rfl (lv_at hl 0 rfl) ?_
      refine x_if_geO (n := 10) (tgt := 31) hx hb d_Md_lease_24 (by decide) ⟨lsd_lt hWf, by decide⟩ (fun j1 h4 hl1 => ?_) (fun h4 => ?_)
      · rw [h4] at hl
        have hl : lv_has ls 3 [(2, .int (nI j1)), (0, .ref (ad 0)), (1, .int (nI (j + 1)))] := hl
        refine lv_aload_n hx hb d_Md_lease_31 rfl (lv_at hl 1 rfl) ?_
        refine x_get (v := .ref (ad 17)) (k := 22) hx hb ht xc_Md hown hK hP (moM (by decide)) rfl (by decide) fl_Md_60 rfl rfl rfl d_Md_lease_32 ?_
        refine lv_iload_n hx hb d_Md_lease_35 rfl (lv_at hl 0 rfl) ?_
        refine x_nald (κ := 116) (n := 10) hx hb hK hP (moM (by decide)) rfl (by decide) rfl rfl (by omega) (by omega) d_Md_lease_36 ?_
        refine lv_aload_n hx hb d_Md_lease_37 rfl (lv_at hl 1 rfl) ?_
        refine x_get (v := .int (nI (gN σ 2 0))) (k := 2) hx hb ht xc_Md hown hK hP (moM (by decide)) rfl (by decide) fl_Md_138 rfl rfl rfl d_Md_lease_38 ?_
        refine lv_isub hx hb d_Md_lease_41 ?_
        exact x_iret hx hb hr hlk hK hP hS d_Md_lease_42 (by unfold mLea; rw [if_pos hiw0, wTn (by omega), h4]) rfl
      · refine lv_iconst (v := ((-1))) hx hb d_Md_lease_27 (by decide) ?_
        refine lv_goto (tgt := 42) hx hb d_Md_lease_28 (by decide) ?_
        exact x_iret hx hb hr hlk hK hP hS d_Md_lease_42 (by unfold mLea; rw [if_pos hiw0, wTn (by omega), h4]) rfl
    · refine lv_iconst (v := ((-1))) hx hb d_Md_lease_13 (by decide) ?_
      refine lv_goto (tgt := 22) hx hb d_Md_lease_14 (by decide) ?_
      refine lv_istore_n (lv' := [(2, .int ((-1))), (0, .ref (ad 0)), (1, .int x)]) hx hb d_Md_lease_22 rfl hl (by decide) rfl (fun ls hl => ?_)
      refine lv_iload_n hx hb d_Md_lease_23 rfl (lv_at hl 0 rfl) ?_
      refine lv_if_ge (tgt := 31) hx hb d_Md_lease_24 (by decide) (fun h => absurd h (by decide)) (fun _ => ?_)
      refine lv_iconst (v := ((-1))) hx hb d_Md_lease_27 (by decide) ?_
      refine lv_goto (tgt := 42) hx hb d_Md_lease_28 (by decide) ?_
      exact x_iret hx hb hr hlk hK hP hS d_Md_lease_42 (by unfold mLea; rw [if_neg (by rw [← isW_hi hM3.2 (by rw [Int32.le_iff_toInt_le] at h3; rw [Int32.lt_iff_toInt_lt]; omega)]; decide)]) rfl
set_option maxHeartbeats 4000000 in
set_option maxRecDepth 100000 in
theorem c_Md_count (l : Launch) (D : va_G) (dA : Nat → ClassId) (ad : Nat → Nat) (hJ : Inj ad obM) (σ : Sg) (x : Int32) (B : Nat) (hWf : WfM B σ) : CI l D clX (tyX dA) SM ad dA obM NL y_Md_count w_Md_count { frames := 1, cells := 0, slots := 0, locals := 22 } [.ref (ad 0), .int x] σ ((mCnt σ x)) σ := by
  refine x_of (WS := WS) (cc := b_Md_count) (maxL := 2) (ret := (some .int)) (by decide) rfl (Nat.le_of_ble_eq_true rfl) ?_
  intro pp ee ss mm below meth cdd hx hb hml hr hlk ht hown hnm hN hK hP ls hl
  have hl : lv_has ls 2 [(0, .ref (ad 0)), (1, .int x)] := hl
  have hS : va_S (Ad ad obM) ss.heap ss.heap [] := va_S.rf
  have hw := swfM
  have hM0 := hWf.it
  have hM1 := hWf.ks
  have hM2 := hWf.bl
  have hM3 := hWf.wk
  have hM4 := hWf.bi
  have hM5 := hWf.qu
  have hM6 := hWf.tm
  have hM7 := hWf.la
  refine lv_iload_n hx hb d_Md_count_0 rfl (lv_at hl 1 rfl) ?_
  have h1 := sw_0_9 x
  rcases h1 with h1 | h1 | h1 | h1 | h1 | h1 | h1 | h1 | h1 | h1 | h1
  · refine lv_tableIn (off := 55) (tgt := 56) hx hb d_Md_count_1 (by rw [h1]; decide) (by rw [h1]; decide) (by rw [h1]; rfl) (by decide) ?_
    refine lv_aload_n hx hb d_Md_count_56 rfl (lv_at hl 0 rfl) ?_
    refine x_get (v := .int (nI (gN σ 24 0))) (k := 24) hx hb ht xc_Md hown hK hP (moM (by decide)) rfl (by decide) fl_Md_147 rfl rfl rfl d_Md_count_57 ?_
    exact x_iret hx hb hr hlk hK hP hS d_Md_count_60 (by unfold mCnt; rw [if_pos h1]) rfl
  · refine lv_tableIn (off := 60) (tgt := 61) hx hb d_Md_count_1 (by rw [h1]; decide) (by rw [h1]; decide) (by rw [h1]; rfl) (by decide) ?_
    refine lv_aload_n hx hb d_Md_count_61 rfl (lv_at hl 0 rfl) ?_
    refine x_ci (x_rV (As := []) (rest := []) hx hb hml hown ht gW cs_Md_248 (c_Md_results l D dA ad hJ σ B hWf) rfl rfl (by decide) xc_Md hN hK hP (moM (by decide)) rfl rfl hl.1 rfl (Nat.le_of_ble_eq_true rfl) d_Md_count_62 (by decide)) hS (fun H locs hP hS => ?_)
    exact x_iret hx hb hr hlk hK hP hS d_Md_count_65 (by unfold mCnt; rw [if_neg (by rw [h1]; decide), if_pos h1]) rfl
  · refine lv_tableIn (off := 65) (tgt := 66) hx hb d_Md_count_1 (by rw [h1]; decide) (by rw [h1]; decide) (by rw [h1]; rfl) (by decide) ?_
    refine lv_aload_n hx hb d_Md_count_66 rfl (lv_at hl 0 rfl) ?_
    refine x_get (v := .int (nI (gN σ 43 0))) (k := 43) hx hb ht xc_Md hown hK hP (moM (by decide)) rfl (by decide) fl_Md_245 rfl rfl rfl d_Md_count_67 ?_
    exact x_iret hx hb hr hlk hK hP hS d_Md_count_70 (by unfold mCnt; rw [if_neg (by rw [h1]; decide), if_neg (by rw [h1]; decide), if_pos h1]) rfl
  · refine lv_tableIn (off := 70) (tgt := 71) hx hb d_Md_count_1 (by rw [h1]; decide) (by rw [h1]; decide) (by rw [h1]; rfl) (by decide) ?_
    refine lv_aload_n hx hb d_Md_count_71 rfl (lv_at hl 0 rfl) ?_
    refine x_get (v := .int (nI (gN σ 44 0))) (k := 44) hx hb ht xc_Md hown hK hP (moM (by decide)) rfl (by decide) fl_Md_208 rfl rfl rfl d_Md_count_72 ?_
    exact x_iret hx hb hr hlk hK hP hS d_Md_count_75 (by unfold mCnt; rw [if_neg (by rw [h1]; decide), if_neg (by rw [h1]; decide), if_neg (by rw [h1]; decide), if_pos h1]) rfl
  · refine lv_tableIn (off := 75) (tgt := 76) hx hb d_Md_count_1 (by rw [h1]; decide) (by rw [h1]; decide) (by rw [h1]; rfl) (by decide) ?_
    refine lv_aload_n hx hb d_Md_count_76 rfl (lv_at hl 0 rfl) ?_
    refine x_get (v := .int (nI (gN σ 45 0))) (k := 45) hx hb ht xc_Md hown hK hP (moM (by decide)) rfl (by decide) fl_Md_196 rfl rfl rfl d_Md_count_77 ?_
    exact x_iret hx hb hr hlk hK hP hS d_Md_count_80 (by unfold mCnt; rw [if_neg (by rw [h1]; decide), if_neg (by rw [h1]; decide), if_neg (by rw [h1]; decide), if_neg (by rw [h1]; decide), if_pos h1]) rfl
  · refine lv_tableIn (off := 80) (tgt := 81) hx hb d_Md_count_1 (by rw [h1]; decide) (by rw [h1]; decide) (by rw [h1]; rfl) (by decide) ?_
    refine lv_aload_n hx hb d_Md_count_81 rfl (lv_at hl 0 rfl) ?_
    refine x_get (v := .int (nI (gN σ 46 0))) (k := 46) hx hb ht xc_Md hown hK hP (moM (by decide)) rfl (by decide) fl_Md_172 rfl rfl rfl d_Md_count_82 ?_
    exact x_iret hx hb hr hlk hK hP hS d_Md_count_85 (by unfold mCnt; rw [if_neg (by rw [h1]; decide), if_neg (by rw [h1]; decide), if_neg (by rw [h1]; decide), if_neg (by rw [h1]; decide), if_neg (by rw [h1]; decide), if_pos h1]) rfl
  · refine lv_tableIn (off := 85) (tgt := 86) hx hb d_Md_count_1 (by rw [h1]; decide) (by rw [h1]; decide) (by rw [h1]; rfl) (by decide) ?_
    refine lv_aload_n hx hb d_Md_count_86 rfl (lv_at hl 0 rfl) ?_
    refine x_get (v := .int (nI (gN σ 47 0))) (k := 47) hx hb ht xc_Md hown hK hP (moM (by decide)) rfl (by decide) fl_Md_211 rfl rfl rfl d_Md_count_87 ?_
    exact x_iret hx hb hr hlk hK hP hS d_Md_count_90 (by unfold mCnt; rw [if_neg (by rw [h1]; decide), if_neg (by rw [h1]; decide), if_neg (by rw [h1]; decide), if_neg (by rw [h1]; decide), if_neg (by rw [h1]; decide), if_neg (by rw [h1]; decide), if_pos h1]) rfl
  · refine lv_tableIn (off := 90) (tgt := 91) hx hb d_Md_count_1 (by rw [h1]; decide) (by rw [h1]; decide) (by rw [h1]; rfl) (by decide) ?_
    refine lv_aload_n hx hb d_Md_count_91 rfl (lv_at hl 0 rfl) ?_
    refine x_get (v := .int (nI (gN σ 48 0))) (k := 48) hx hb ht xc_Md hown hK hP (moM (by decide)) rfl (by decide) fl_Md_166 rfl rfl rfl d_Md_count_92 ?_
    exact x_iret hx hb hr hlk hK hP hS d_Md_count_95 (by unfold mCnt; rw [if_neg (by rw [h1]; decide), if_neg (by rw [h1]; decide), if_neg (by rw [h1]; decide), if_neg (by rw [h1]; decide), if_neg (by rw [h1]; decide), if_neg (by rw [h1]; decide), if_neg (by rw [h1]; decide), if_pos h1]) rfl
  · refine lv_tableIn (off := 95) (tgt := 96) hx hb d_Md_count_1 (by rw [h1]; decide) (by rw [h1]; decide) (by rw [h1]; rfl) (by decide) ?_
    refine lv_aload_n hx hb d_Md_count_96 rfl (lv_at hl 0 rfl) ?_
    refine x_get (v := .int (nI (gN σ 2 0))) (k := 2) hx hb ht xc_Md hown hK hP (moM (by decide)) rfl (by decide) fl_Md_138 rfl rfl rfl d_Md_count_97 ?_
    exact x_iret hx hb hr hlk hK hP hS d_Md_count_100 (by unfold mCnt; rw [if_neg (by rw [h1]; decide), if_neg (by rw [h1]; decide), if_neg (by rw [h1]; decide), if_neg (by rw [h1]; decide), if_neg (by rw [h1]; decide), if_neg (by rw [h1]; decide), if_neg (by rw [h1]; decide), if_neg (by rw [h1]; decide), if_pos h1]) rfl
  · refine lv_tableIn (off := 100) (tgt := 101) hx hb d_Md_count_1 (by rw [h1]; decide) (by rw [h1]; decide) (by rw [h1]; rfl) (by decide) ?_
    refine lv_aload_n hx hb d_Md_count_101 rfl (lv_at hl 0 rfl) ?_
    refine x_ci (x_rV (As := []) (rest := []) hx hb hml hown ht gW cs_Md_252 (c_Md_missing l D dA ad hJ σ B hWf) rfl rfl (by decide) xc_Md hN hK hP (moM (by decide)) rfl rfl hl.1 rfl (Nat.le_of_ble_eq_true rfl) d_Md_count_102 (by decide)) hS (fun H locs hP hS => ?_)
    exact x_iret hx hb hr hlk hK hP hS d_Md_count_105 (by unfold mCnt; rw [if_neg (by rw [h1]; decide), if_neg (by rw [h1]; decide), if_neg (by rw [h1]; decide), if_neg (by rw [h1]; decide), if_neg (by rw [h1]; decide), if_neg (by rw [h1]; decide), if_neg (by rw [h1]; decide), if_neg (by rw [h1]; decide), if_neg (by rw [h1]; decide), if_pos h1]) rfl
  · refine lv_tableOut (tgt := 106) hx hb d_Md_count_1 h1 (by decide) ?_
    refine lv_iconst (v := ((-1))) hx hb d_Md_count_106 (by decide) ?_
    exact x_iret hx hb hr hlk hK hP hS d_Md_count_107 (by unfold mCnt; rw [if_neg (fun e => by rw [e] at h1; exact absurd h1 (by decide)), if_neg (fun e => by rw [e] at h1; exact absurd h1 (by decide)), if_neg (fun e => by rw [e] at h1; exact absurd h1 (by decide)), if_neg (fun e => by rw [e] at h1; exact absurd h1 (by decide)), if_neg (fun e => by rw [e] at h1; exact absurd h1 (by decide)), if_neg (fun e => by rw [e] at h1; exact absurd h1 (by decide)), if_neg (fun e => by rw [e] at h1; exact absurd h1 (by decide)), if_neg (fun e => by rw [e] at h1; exact absurd h1 (by decide)), if_neg (fun e => by rw [e] at h1; exact absurd h1 (by decide)), if_neg (fun e => by rw [e] at h1; exact absurd h1 (by decide))]) rfl
set_option maxHeartbeats 4000000 in
set_option maxRecDepth 100000 in
theorem c_Md_instruction (l : Launch) (D : va_G) (dA : Nat → ClassId) (ad : Nat → Nat) (hJ : Inj ad obM) (σ : Sg) (g : Int64) (p : Nat) (hp9 : p < 2 ^ 30) : CI l D clX (tyX dA) SM ad dA obM NL y_Md_instruction w_Md_instruction { frames := 0, cells := 0, slots := 0, locals := 0 } [.long g, .int (nI p)] σ ((nI (insn g p))) σ := by
  refine x_of (WS := WS) (cc := b_Md_instruction) (maxL := 3) (ret := (some .int)) (by decide) rfl (Nat.le_of_ble_eq_true rfl) ?_
  intro pp ee ss mm below meth cdd hx hb hml hr hlk ht hown hnm hN hK hP ls hl
  have hl : lv_has ls 3 [(0, .long g), (2, .int (nI p))] := hl
  have hS : va_S (Ad ad obM) ss.heap ss.heap [] := va_S.rf
  have hw := swfM
  refine lv_iload_n hx hb d_Md_instruction_0 rfl (lv_at hl 1 rfl) ?_
  refine lv_bipush (v := (nI 15)) hx hb d_Md_instruction_1 (by decide) ?_
  refine x_icmp_leN (tgt := 10) hx hb d_Md_instruction_3 (by decide) (by omega) (by decide) (fun h1 => ?_) (fun h1 => ?_)
  · refine lv_lload_n hx hb d_Md_instruction_10 rfl (lv_at hl 0 rfl) ?_
    refine lv_iconst (v := (nI 4)) hx hb d_Md_instruction_11 (by decide) ?_
    refine lv_iload_n hx hb d_Md_instruction_12 rfl (lv_at hl 1 rfl) ?_
    refine x_imulN hx hb d_Md_instruction_13 ?_
    refine lv_lushr (v := (g.toUInt64 >>> ((nI (4 * p)).toInt64.toUInt64 &&& Int64.toUInt64 63)).toInt64) hx hb d_Md_instruction_14 rfl ?_
    refine lv_l2i (v := ((g.toUInt64 >>> ((nI (4 * p)).toInt64.toUInt64 &&& Int64.toUInt64 63)).toInt64).toInt32) hx hb d_Md_instruction_15 rfl ?_
    refine lv_bipush (v := (nI 15)) hx hb d_Md_instruction_16 (by decide) ?_
    refine lv_iand hx hb d_Md_instruction_18 ?_
    exact x_iret hx hb hr hlk hK hP hS d_Md_instruction_19 (by unfold insn; rw [if_neg (by omega), pk_and _ 4 (by decide)]) rfl
  · refine lv_iconst (v := (nI 0)) hx hb d_Md_instruction_6 (by decide) ?_
    refine lv_goto (tgt := 19) hx hb d_Md_instruction_7 (by decide) ?_
    exact x_iret hx hb hr hlk hK hP hS d_Md_instruction_19 (by unfold insn; rw [if_pos h1]) rfl
set_option maxHeartbeats 4000000 in
set_option maxRecDepth 100000 in
theorem c_Md_act (l : Launch) (D : va_G) (dA : Nat → ClassId) (ad : Nat → Nat) (hJ : Inj ad obM) (σ : Sg) (x : Nat) (hx16 : x < 16) : CV l D clX (tyX dA) SM ad dA obM NL y_Md_act w_Md_act { frames := 0, cells := 0, slots := 0, locals := 0 } [.ref (ad 0), .int (nI x)] σ (mActS σ x) := by
  refine x_of (WS := WS) (cc := b_Md_act) (maxL := 4) (ret := none) (by decide) rfl (Nat.le_of_ble_eq_true rfl) ?_
  intro pp ee ss mm below meth cdd hx hb hml hr hlk ht hown hnm hN hK hP ls hl
  have hl : lv_has ls 4 [(0, .ref (ad 0)), (1, .int (nI x))] := hl
  have hS : va_S (Ad ad obM) ss.heap ss.heap [] := va_S.rf
  have hw := swfM
  refine lv_aload_n hx hb d_Md_act_0 rfl (lv_at hl 0 rfl) ?_
  refine x_get (v := .int (gI σ 30 0)) (k := 30) hx hb ht xc_Md hown hK hP (moM (by decide)) rfl (by decide) fl_Md_226 rfl rfl rfl d_Md_act_1 ?_
  refine lv_istore_n (lv' := [(2, .int (gI σ 30 0)), (0, .ref (ad 0)), (1, .int (nI x))]) hx hb d_Md_act_4 rfl hl (by decide) rfl (fun ls hl => ?_)
  refine lv_aload_n hx hb d_Md_act_5 rfl (lv_at hl 1 rfl) ?_
  refine x_get (v := .int (nI (gN σ 32 0))) (k := 32) hx hb ht xc_Md hown hK hP (moM (by decide)) rfl (by decide) fl_Md_232 rfl rfl rfl d_Md_act_6 ?_
  refine lv_iconst (v := (nI 1)) hx hb d_Md_act_9 (by decide) ?_
  refine x_iaddN hx hb d_Md_act_10 ?_
  refine lv_istore_n (lv' := [(3, .int (nI ((gN σ 32 0) + 1))), (2, .int (gI σ 30 0)), (0, .ref (ad 0)), (1, .int (nI x))]) hx hb d_Md_act_11 rfl hl (by decide) rfl (fun ls hl => ?_)
  refine lv_iload_n hx hb d_Md_act_12 rfl (lv_at hl 3 rfl) ?_
  have h1 : x = 1 ∨ x = 2 ∨ x = 3 ∨ x = 4 ∨ x = 5 ∨ x = 6 ∨ x = 7 ∨ x = 8 ∨ x = 9 ∨ x = 10 ∨ x < 1 ∨ 10 < x := by omega
  rcases h1 with h1 | h1 | h1 | h1 | h1 | h1 | h1 | h1 | h1 | h1 | h1
  · refine lv_tableIn (off := 55) (tgt := 68) hx hb d_Md_act_13 (by rw [h1]; decide) (by rw [h1]; decide) (by rw [h1]; rfl) (by decide) ?_
    refine lv_aload_n hx hb d_Md_act_68 rfl (lv_at hl 2 rfl) ?_
    refine lv_aload_n hx hb d_Md_act_69 rfl (lv_at hl 2 rfl) ?_
    refine x_get (v := .int (gI σ 30 0)) (k := 30) hx hb ht xc_Md hown hK hP (moM (by decide)) rfl (by decide) fl_Md_226 rfl rfl rfl d_Md_act_70 ?_
    refine lv_aload_n hx hb d_Md_act_73 rfl (lv_at hl 2 rfl) ?_
    refine x_get (v := .int (gI σ 31 0)) (k := 31) hx hb ht xc_Md hown hK hP (moM (by decide)) rfl (by decide) fl_Md_229 rfl rfl rfl d_Md_act_74 ?_
    refine lv_iadd hx hb d_Md_act_77 ?_
    refine x_put (σ' := sI σ 30 0 ((gI σ 30 0) + (gI σ 31 0))) (v := .int ((gI σ 30 0) + (gI σ 31 0))) (k := 30) hx hb ht xc_Md t_Md t_Md_ok n_Md hown hK hP hJ hw hS (moM (by decide)) rfl (by decide) fl_Md_226 rfl rfl rfl off_I rfl rfl rfl d_Md_act_78 (fun H locs hP hS => ?_)
    refine lv_goto (tgt := 264) hx hb d_Md_act_81 (by decide) ?_
    refine lv_aload_n hx hb d_Md_act_264 rfl (lv_at hl 2 rfl) ?_
    refine lv_iload_n hx hb d_Md_act_265 rfl (lv_at hl 0 rfl) ?_
    refine x_put (σ' := sN (sI σ 30 0 ((gI σ 30 0) + (gI σ 31 0))) 32 0 ((gN σ 32 0) + 1)) (v := .int (nI ((gN σ 32 0) + 1))) (k := 32) hx hb ht xc_Md t_Md t_Md_ok n_Md hown hK hP hJ hw hS (moM (by decide)) rfl (by decide) fl_Md_232 rfl rfl rfl off_N rfl rfl rfl d_Md_act_266 (fun H locs hP hS => ?_)
    exact x_vret hx hb hr hlk hK hP hS d_Md_act_269 (by unfold mActS; rw [if_pos h1])
  · refine lv_tableIn (off := 71) (tgt := 84) hx hb d_Md_act_13 (by rw [h1]; decide) (by rw [h1]; decide) (by rw [h1]; rfl) (by decide) ?_
    refine lv_aload_n hx hb d_Md_act_84 rfl (lv_at hl 2 rfl) ?_
    refine lv_aload_n hx hb d_Md_act_85 rfl (lv_at hl 2 rfl) ?_
    refine x_get (v := .int (gI σ 30 0)) (k := 30) hx hb ht xc_Md hown hK hP (moM (by decide)) rfl (by decide) fl_Md_226 rfl rfl rfl d_Md_act_86 ?_
    refine lv_aload_n hx hb d_Md_act_89 rfl (lv_at hl 2 rfl) ?_
    refine x_get (v := .int (gI σ 31 0)) (k := 31) hx hb ht xc_Md hown hK hP (moM (by decide)) rfl (by decide) fl_Md_229 rfl rfl rfl d_Md_act_90 ?_
    refine lv_isub hx hb d_Md_act_93 ?_
    refine x_put (σ' := sI σ 30 0 ((gI σ 30 0) - (gI σ 31 0))) (v := .int ((gI σ 30 0) - (gI σ 31 0))) (k := 30) hx hb ht xc_Md t_Md t_Md_ok n_Md hown hK hP hJ hw hS (moM (by decide)) rfl (by decide) fl_Md_226 rfl rfl rfl off_I rfl rfl rfl d_Md_act_94 (fun H locs hP hS => ?_)
    refine lv_goto (tgt := 264) hx hb d_Md_act_97 (by decide) ?_
    refine lv_aload_n hx hb d_Md_act_264 rfl (lv_at hl 2 rfl) ?_
    refine lv_iload_n hx hb d_Md_act_265 rfl (lv_at hl 0 rfl) ?_
    refine x_put (σ' := sN (sI σ 30 0 ((gI σ 30 0) - (gI σ 31 0))) 32 0 ((gN σ 32 0) + 1)) (v := .int (nI ((gN σ 32 0) + 1))) (k := 32) hx hb ht xc_Md t_Md t_Md_ok n_Md hown hK hP hJ hw hS (moM (by decide)) rfl (by decide) fl_Md_232 rfl rfl rfl off_N rfl rfl rfl d_Md_act_266 (fun H locs hP hS => ?_)
    exact x_vret hx hb hr hlk hK hP hS d_Md_act_269 (by unfold mActS; rw [if_neg (by omega), if_pos h1])
  · refine lv_tableIn (off := 87) (tgt := 100) hx hb d_Md_act_13 (by rw [h1]; decide) (by rw [h1]; decide) (by rw [h1]; rfl) (by decide) ?_
    refine lv_aload_n hx hb d_Md_act_100 rfl (lv_at hl 2 rfl) ?_
    refine lv_aload_n hx hb d_Md_act_101 rfl (lv_at hl 2 rfl) ?_
    refine x_get (v := .int (gI σ 30 0)) (k := 30) hx hb ht xc_Md hown hK hP (moM (by decide)) rfl (by decide) fl_Md_226 rfl rfl rfl d_Md_act_102 ?_
    refine lv_aload_n hx hb d_Md_act_105 rfl (lv_at hl 2 rfl) ?_
    refine x_get (v := .int (gI σ 31 0)) (k := 31) hx hb ht xc_Md hown hK hP (moM (by decide)) rfl (by decide) fl_Md_229 rfl rfl rfl d_Md_act_106 ?_
    refine lv_ixor hx hb d_Md_act_109 ?_
    refine x_put (σ' := sI σ 30 0 ((gI σ 30 0) ^^^ (gI σ 31 0))) (v := .int ((gI σ 30 0) ^^^ (gI σ 31 0))) (k := 30) hx hb ht xc_Md t_Md t_Md_ok n_Md hown hK hP hJ hw hS (moM (by decide)) rfl (by decide) fl_Md_226 rfl rfl rfl off_I rfl rfl rfl d_Md_act_110 (fun H locs hP hS => ?_)
    refine lv_goto (tgt := 264) hx hb d_Md_act_113 (by decide) ?_
    refine lv_aload_n hx hb d_Md_act_264 rfl (lv_at hl 2 rfl) ?_
    refine lv_iload_n hx hb d_Md_act_265 rfl (lv_at hl 0 rfl) ?_
    refine x_put (σ' := sN (sI σ 30 0 ((gI σ 30 0) ^^^ (gI σ 31 0))) 32 0 ((gN σ 32 0) + 1)) (v := .int (nI ((gN σ 32 0) + 1))) (k := 32) hx hb ht xc_Md t_Md t_Md_ok n_Md hown hK hP hJ hw hS (moM (by decide)) rfl (by decide) fl_Md_232 rfl rfl rfl off_N rfl rfl rfl d_Md_act_266 (fun H locs hP hS => ?_)
    exact x_vret hx hb hr hlk hK hP hS d_Md_act_269 (by unfold mActS; rw [if_neg (by omega), if_neg (by omega), if_pos h1])
  · refine lv_tableIn (off := 103) (tgt := 116) hx hb d_Md_act_13 (by rw [h1]; decide) (by rw [h1]; decide) (by rw [h1]; rfl) (by decide) ?_
    refine lv_aload_n hx hb d_Md_act_116 rfl (lv_at hl 2 rfl) ?_
    refine lv_aload_n hx hb d_Md_act_117 rfl (lv_at hl 2 rfl) ?_
    refine x_get (v := .int (gI σ 30 0)) (k := 30) hx hb ht xc_Md hown hK hP (moM (by decide)) rfl (by decide) fl_Md_226 rfl rfl rfl d_Md_act_118 ?_
    refine lv_iconst (v := (nI 1)) hx hb d_Md_act_121 (by decide) ?_
    refine lv_ishr hx hb d_Md_act_122 ?_
    refine x_put (σ' := sI σ 30 0 ((gI σ 30 0) >>> ((nI 1) &&& 31))) (v := .int ((gI σ 30 0) >>> ((nI 1) &&& 31))) (k := 30) hx hb ht xc_Md t_Md t_Md_ok n_Md hown hK hP hJ hw hS (moM (by decide)) rfl (by decide) fl_Md_226 rfl rfl rfl off_I rfl rfl rfl d_Md_act_123 (fun H locs hP hS => ?_)
    refine lv_goto (tgt := 264) hx hb d_Md_act_126 (by decide) ?_
    refine lv_aload_n hx hb d_Md_act_264 rfl (lv_at hl 2 rfl) ?_
    refine lv_iload_n hx hb d_Md_act_265 rfl (lv_at hl 0 rfl) ?_
    refine x_put (σ' := sN (sI σ 30 0 ((gI σ 30 0) >>> ((nI 1) &&& 31))) 32 0 ((gN σ 32 0) + 1)) (v := .int (nI ((gN σ 32 0) + 1))) (k := 32) hx hb ht xc_Md t_Md t_Md_ok n_Md hown hK hP hJ hw hS (moM (by decide)) rfl (by decide) fl_Md_232 rfl rfl rfl off_N rfl rfl rfl d_Md_act_266 (fun H locs hP hS => ?_)
    exact x_vret hx hb hr hlk hK hP hS d_Md_act_269 (by unfold mActS; rw [if_neg (by omega), if_neg (by omega), if_neg (by omega), if_pos h1])
  · refine lv_tableIn (off := 116) (tgt := 129) hx hb d_Md_act_13 (by rw [h1]; decide) (by rw [h1]; decide) (by rw [h1]; rfl) (by decide) ?_
    refine lv_aload_n hx hb d_Md_act_129 rfl (lv_at hl 2 rfl) ?_
    refine lv_aload_n hx hb d_Md_act_130 rfl (lv_at hl 2 rfl) ?_
    refine x_get (v := .int (gI σ 30 0)) (k := 30) hx hb ht xc_Md hown hK hP (moM (by decide)) rfl (by decide) fl_Md_226 rfl rfl rfl d_Md_act_131 ?_
    refine lv_iconst (v := (nI 3)) hx hb d_Md_act_134 (by decide) ?_
    refine lv_imul hx hb d_Md_act_135 ?_
    refine lv_iconst (v := (nI 1)) hx hb d_Md_act_136 (by decide) ?_
    refine lv_iadd hx hb d_Md_act_137 ?_
    refine x_put (σ' := sI σ 30 0 (((gI σ 30 0) * (nI 3)) + (nI 1))) (v := .int (((gI σ 30 0) * (nI 3)) + (nI 1))) (k := 30) hx hb ht xc_Md t_Md t_Md_ok n_Md hown hK hP hJ hw hS (moM (by decide)) rfl (by decide) fl_Md_226 rfl rfl rfl off_I rfl rfl rfl d_Md_act_138 (fun H locs hP hS => ?_)
    refine lv_goto (tgt := 264) hx hb d_Md_act_141 (by decide) ?_
    refine lv_aload_n hx hb d_Md_act_264 rfl (lv_at hl 2 rfl) ?_
    refine lv_iload_n hx hb d_Md_act_265 rfl (lv_at hl 0 rfl) ?_
    refine x_put (σ' := sN (sI σ 30 0 (((gI σ 30 0) * (nI 3)) + (nI 1))) 32 0 ((gN σ 32 0) + 1)) (v := .int (nI ((gN σ 32 0) + 1))) (k := 32) hx hb ht xc_Md t_Md t_Md_ok n_Md hown hK hP hJ hw hS (moM (by decide)) rfl (by decide) fl_Md_232 rfl rfl rfl off_N rfl rfl rfl d_Md_act_266 (fun H locs hP hS => ?_)
    exact x_vret hx hb hr hlk hK hP hS d_Md_act_269 (by unfold mActS; rw [if_neg (by omega), if_neg (by omega), if_neg (by omega), if_neg (by omega), if_pos h1])
  · refine lv_tableIn (off := 131) (tgt := 144) hx hb d_Md_act_13 (by rw [h1]; decide) (by rw [h1]; decide) (by rw [h1]; rfl) (by decide) ?_
    refine lv_aload_n hx hb d_Md_act_144 rfl (lv_at hl 2 rfl) ?_
    refine lv_aload_n hx hb d_Md_act_145 rfl (lv_at hl 2 rfl) ?_
    refine x_get (v := .int (gI σ 31 0)) (k := 31) hx hb ht xc_Md hown hK hP (moM (by decide)) rfl (by decide) fl_Md_229 rfl rfl rfl d_Md_act_146 ?_
    refine x_put (σ' := sI σ 30 0 (gI σ 31 0)) (v := .int (gI σ 31 0)) (k := 30) hx hb ht xc_Md t_Md t_Md_ok n_Md hown hK hP hJ hw hS (moM (by decide)) rfl (by decide) fl_Md_226 rfl rfl rfl off_I rfl rfl rfl d_Md_act_149 (fun H locs hP hS => ?_)
    refine lv_aload_n hx hb d_Md_act_152 rfl (lv_at hl 2 rfl) ?_
    refine lv_iload_n hx hb d_Md_act_153 rfl (lv_at hl 1 rfl) ?_
    refine x_put (σ' := sI (sI σ 30 0 (gI σ 31 0)) 31 0 (gI σ 30 0)) (v := .int (gI σ 30 0)) (k := 31) hx hb ht xc_Md t_Md t_Md_ok n_Md hown hK hP hJ hw hS (moM (by decide)) rfl (by decide) fl_Md_229 rfl rfl rfl off_I rfl rfl rfl d_Md_act_154 (fun H locs hP hS => ?_)
    refine lv_goto (tgt := 264) hx hb d_Md_act_157 (by decide) ?_
    refine lv_aload_n hx hb d_Md_act_264 rfl (lv_at hl 2 rfl) ?_
    refine lv_iload_n hx hb d_Md_act_265 rfl (lv_at hl 0 rfl) ?_
    refine x_put (σ' := sN (sI (sI σ 30 0 (gI σ 31 0)) 31 0 (gI σ 30 0)) 32 0 ((gN σ 32 0) + 1)) (v := .int (nI ((gN σ 32 0) + 1))) (k := 32) hx hb ht xc_Md t_Md t_Md_ok n_Md hown hK hP hJ hw hS (moM (by decide)) rfl (by decide) fl_Md_232 rfl rfl rfl off_N rfl rfl rfl d_Md_act_266 (fun H locs hP hS => ?_)
    exact x_vret hx hb hr hlk hK hP hS d_Md_act_269 (by unfold mActS; rw [if_neg (by omega), if_neg (by omega), if_neg (by omega), if_neg (by omega), if_neg (by omega), if_pos h1])
  · refine lv_tableIn (off := 147) (tgt := 160) hx hb d_Md_act_13 (by rw [h1]; decide) (by rw [h1]; decide) (by rw [h1]; rfl) (by decide) ?_
    refine lv_aload_n hx hb d_Md_act_160 rfl (lv_at hl 2 rfl) ?_
    refine x_get (v := .int (gI σ 31 0)) (k := 31) hx hb ht xc_Md hown hK hP (moM (by decide)) rfl (by decide) fl_Md_229 rfl rfl rfl d_Md_act_161 ?_
    refine lv_if_le (tgt := 171) hx hb d_Md_act_164 (by decide) (fun h2 => ?_) (fun h2 => ?_)
    · refine lv_iload_n hx hb d_Md_act_171 rfl (lv_at hl 0 rfl) ?_
      refine lv_istore_n (lv' := [(3, .int (nI ((gN σ 32 0) + 1))), (2, .int (gI σ 30 0)), (0, .ref (ad 0)), (1, .int (nI x))]) hx hb d_Md_act_172 rfl hl (by decide) rfl (fun ls hl => ?_)
      refine lv_aload_n hx hb d_Md_act_173 rfl (lv_at hl 2 rfl) ?_
      refine lv_aload_n hx hb d_Md_act_174 rfl (lv_at hl 2 rfl) ?_
      refine x_get (v := .int (gI σ 31 0)) (k := 31) hx hb ht xc_Md hown hK hP (moM (by decide)) rfl (by decide) fl_Md_229 rfl rfl rfl d_Md_act_175 ?_
      refine lv_if_le (tgt := 190) hx hb d_Md_act_178 (by decide) (fun _ => ?_) (fun h => absurd h2 h)
      refine lv_aload_n hx hb d_Md_act_190 rfl (lv_at hl 2 rfl) ?_
      refine x_get (v := .int (gI σ 31 0)) (k := 31) hx hb ht xc_Md hown hK hP (moM (by decide)) rfl (by decide) fl_Md_229 rfl rfl rfl d_Md_act_191 ?_
      refine x_put (σ' := sI σ 31 0 (gI σ 31 0)) (v := .int (gI σ 31 0)) (k := 31) hx hb ht xc_Md t_Md t_Md_ok n_Md hown hK hP hJ hw hS (moM (by decide)) rfl (by decide) fl_Md_229 rfl rfl rfl off_I rfl rfl rfl d_Md_act_194 (fun H locs hP hS => ?_)
      refine lv_goto (tgt := 264) hx hb d_Md_act_197 (by decide) ?_
      refine lv_aload_n hx hb d_Md_act_264 rfl (lv_at hl 2 rfl) ?_
      refine lv_iload_n hx hb d_Md_act_265 rfl (lv_at hl 0 rfl) ?_
      refine x_put (σ' := sN (sI σ 31 0 (gI σ 31 0)) 32 0 ((gN σ 32 0) + 1)) (v := .int (nI ((gN σ 32 0) + 1))) (k := 32) hx hb ht xc_Md t_Md t_Md_ok n_Md hown hK hP hJ hw hS (moM (by decide)) rfl (by decide) fl_Md_232 rfl rfl rfl off_N rfl rfl rfl d_Md_act_266 (fun H locs hP hS => ?_)
      exact x_vret hx hb hr hlk hK hP hS d_Md_act_269 (by unfold mActS; rw [if_neg (by omega), if_neg (by omega), if_neg (by omega), if_neg (by omega), if_neg (by omega), if_neg (by omega), if_pos h1, if_pos h2])
    · refine lv_iconst (v := (nI 0)) hx hb d_Md_act_167 (by decide) ?_
      refine lv_goto (tgt := 172) hx hb d_Md_act_168 (by decide) ?_
      refine lv_istore_n (lv' := [(3, .int (nI 0)), (2, .int (gI σ 30 0)), (0, .ref (ad 0)), (1, .int (nI x))]) hx hb d_Md_act_172 rfl hl (by decide) rfl (fun ls hl => ?_)
      refine lv_aload_n hx hb d_Md_act_173 rfl (lv_at hl 2 rfl) ?_
      refine lv_aload_n hx hb d_Md_act_174 rfl (lv_at hl 2 rfl) ?_
      refine x_get (v := .int (gI σ 31 0)) (k := 31) hx hb ht xc_Md hown hK hP (moM (by decide)) rfl (by decide) fl_Md_229 rfl rfl rfl d_Md_act_175 ?_
      refine lv_if_le (tgt := 190) hx hb d_Md_act_178 (by decide) (fun h => absurd h h2) (fun _ => ?_)
      refine lv_aload_n hx hb d_Md_act_181 rfl (lv_at hl 2 rfl) ?_
      refine x_get (v := .int (gI σ 31 0)) (k := 31) hx hb ht xc_Md hown hK hP (moM (by decide)) rfl (by decide) fl_Md_229 rfl rfl rfl d_Md_act_182 ?_
      refine lv_iconst (v := (nI 1)) hx hb d_Md_act_185 (by decide) ?_
      refine lv_isub hx hb d_Md_act_186 ?_
      refine lv_goto (tgt := 194) hx hb d_Md_act_187 (by decide) ?_
      refine x_put (σ' := sI σ 31 0 ((gI σ 31 0) - (nI 1))) (v := .int ((gI σ 31 0) - (nI 1))) (k := 31) hx hb ht xc_Md t_Md t_Md_ok n_Md hown hK hP hJ hw hS (moM (by decide)) rfl (by decide) fl_Md_229 rfl rfl rfl off_I rfl rfl rfl d_Md_act_194 (fun H locs hP hS => ?_)
      refine lv_goto (tgt := 264) hx hb d_Md_act_197 (by decide) ?_
      refine lv_aload_n hx hb d_Md_act_264 rfl (lv_at hl 2 rfl) ?_
      refine lv_iload_n hx hb d_Md_act_265 rfl (lv_at hl 0 rfl) ?_
      refine x_put (σ' := sN (sI σ 31 0 ((gI σ 31 0) - (nI 1))) 32 0 0) (v := .int (nI 0)) (k := 32) hx hb ht xc_Md t_Md t_Md_ok n_Md hown hK hP hJ hw hS (moM (by decide)) rfl (by decide) fl_Md_232 rfl rfl rfl off_N rfl rfl rfl d_Md_act_266 (fun H locs hP hS => ?_)
      exact x_vret hx hb hr hlk hK hP hS d_Md_act_269 (by unfold mActS; rw [if_neg (by omega), if_neg (by omega), if_neg (by omega), if_neg (by omega), if_neg (by omega), if_neg (by omega), if_pos h1, if_neg h2])
  · refine lv_tableIn (off := 187) (tgt := 200) hx hb d_Md_act_13 (by rw [h1]; decide) (by rw [h1]; decide) (by rw [h1]; rfl) (by decide) ?_
    refine lv_aload_n hx hb d_Md_act_200 rfl (lv_at hl 2 rfl) ?_
    refine x_get (v := .int (gI σ 30 0)) (k := 30) hx hb ht xc_Md hown hK hP (moM (by decide)) rfl (by decide) fl_Md_226 rfl rfl rfl d_Md_act_201 ?_
    refine lv_iconst (v := (nI 1)) hx hb d_Md_act_204 (by decide) ?_
    refine lv_iand hx hb d_Md_act_205 ?_
    refine lv_iconst (v := (nI 1)) hx hb d_Md_act_206 (by decide) ?_
    refine lv_icmp_ne (tgt := 219) hx hb d_Md_act_207 (by decide) (fun h5 => ?_) (fun h5 => ?_)
    · refine lv_iload_n hx hb d_Md_act_219 rfl (lv_at hl 0 rfl) ?_
      refine lv_istore_n (lv' := [(3, .int (nI ((gN σ 32 0) + 1))), (2, .int (gI σ 30 0)), (0, .ref (ad 0)), (1, .int (nI x))]) hx hb d_Md_act_220 rfl hl (by decide) rfl (fun ls hl => ?_)
      refine lv_goto (tgt := 264) hx hb d_Md_act_221 (by decide) ?_
      refine lv_aload_n hx hb d_Md_act_264 rfl (lv_at hl 2 rfl) ?_
      refine lv_iload_n hx hb d_Md_act_265 rfl (lv_at hl 0 rfl) ?_
      refine x_put (σ' := sN σ 32 0 ((gN σ 32 0) + 1)) (v := .int (nI ((gN σ 32 0) + 1))) (k := 32) hx hb ht xc_Md t_Md t_Md_ok n_Md hown hK hP hJ hw hS (moM (by decide)) rfl (by decide) fl_Md_232 rfl rfl rfl off_N rfl rfl rfl d_Md_act_266 (fun H locs hP hS => ?_)
      exact x_vret hx hb hr hlk hK hP hS d_Md_act_269 (by unfold mActS; rw [if_neg (by omega), if_neg (by omega), if_neg (by omega), if_neg (by omega), if_neg (by omega), if_neg (by omega), if_neg (by omega), if_pos h1, if_neg h5])
    · refine lv_aload_n hx hb d_Md_act_210 rfl (lv_at hl 2 rfl) ?_
      refine x_get (v := .int (nI (gN σ 32 0))) (k := 32) hx hb ht xc_Md hown hK hP (moM (by decide)) rfl (by decide) fl_Md_232 rfl rfl rfl d_Md_act_211 ?_
      refine lv_iconst (v := (nI 2)) hx hb d_Md_act_214 (by decide) ?_
      refine x_iaddN hx hb d_Md_act_215 ?_
      refine lv_goto (tgt := 220) hx hb d_Md_act_216 (by decide) ?_
      refine lv_istore_n (lv' := [(3, .int (nI ((gN σ 32 0) + 2))), (2, .int (gI σ 30 0)), (0, .ref (ad 0)), (1, .int (nI x))]) hx hb d_Md_act_220 rfl hl (by decide) rfl (fun ls hl => ?_)
      refine lv_goto (tgt := 264) hx hb d_Md_act_221 (by decide) ?_
      refine lv_aload_n hx hb d_Md_act_264 rfl (lv_at hl 2 rfl) ?_
      refine lv_iload_n hx hb d_Md_act_265 rfl (lv_at hl 0 rfl) ?_
      refine x_put (σ' := sN σ 32 0 ((gN σ 32 0) + 2)) (v := .int (nI ((gN σ 32 0) + 2))) (k := 32) hx hb ht xc_Md t_Md t_Md_ok n_Md hown hK hP hJ hw hS (moM (by decide)) rfl (by decide) fl_Md_232 rfl rfl rfl off_N rfl rfl rfl d_Md_act_266 (fun H locs hP hS => ?_)
      exact x_vret hx hb hr hlk hK hP hS d_Md_act_269 (by unfold mActS; rw [if_neg (by omega), if_neg (by omega), if_neg (by omega), if_neg (by omega), if_neg (by omega), if_neg (by omega), if_neg (by omega), if_pos h1, if_pos h5])
  · refine lv_tableIn (off := 211) (tgt := 224) hx hb d_Md_act_13 (by rw [h1]; decide) (by rw [h1]; decide) (by rw [h1]; rfl) (by decide) ?_
    refine lv_aload_n hx hb d_Md_act_224 rfl (lv_at hl 2 rfl) ?_
    refine lv_aload_n hx hb d_Md_act_225 rfl (lv_at hl 2 rfl) ?_
    refine x_get (v := .int (gI σ 30 0)) (k := 30) hx hb ht xc_Md hown hK hP (moM (by decide)) rfl (by decide) fl_Md_226 rfl rfl rfl d_Md_act_226 ?_
    refine x_put (σ' := sI σ 31 0 (gI σ 30 0)) (v := .int (gI σ 30 0)) (k := 31) hx hb ht xc_Md t_Md t_Md_ok n_Md hown hK hP hJ hw hS (moM (by decide)) rfl (by decide) fl_Md_229 rfl rfl rfl off_I rfl rfl rfl d_Md_act_229 (fun H locs hP hS => ?_)
    refine lv_goto (tgt := 264) hx hb d_Md_act_232 (by decide) ?_
    refine lv_aload_n hx hb d_Md_act_264 rfl (lv_at hl 2 rfl) ?_
    refine lv_iload_n hx hb d_Md_act_265 rfl (lv_at hl 0 rfl) ?_
    refine x_put (σ' := sN (sI σ 31 0 (gI σ 30 0)) 32 0 ((gN σ 32 0) + 1)) (v := .int (nI ((gN σ 32 0) + 1))) (k := 32) hx hb ht xc_Md t_Md t_Md_ok n_Md hown hK hP hJ hw hS (moM (by decide)) rfl (by decide) fl_Md_232 rfl rfl rfl off_N rfl rfl rfl d_Md_act_266 (fun H locs hP hS => ?_)
    exact x_vret hx hb hr hlk hK hP hS d_Md_act_269 (by unfold mActS; rw [if_neg (by omega), if_neg (by omega), if_neg (by omega), if_neg (by omega), if_neg (by omega), if_neg (by omega), if_neg (by omega), if_neg (by omega), if_pos h1])
  · refine lv_tableIn (off := 222) (tgt := 235) hx hb d_Md_act_13 (by rw [h1]; decide) (by rw [h1]; decide) (by rw [h1]; rfl) (by decide) ?_
    refine lv_aload_n hx hb d_Md_act_235 rfl (lv_at hl 2 rfl) ?_
    refine lv_aload_n hx hb d_Md_act_236 rfl (lv_at hl 2 rfl) ?_
    refine x_get (v := .int (gI σ 31 0)) (k := 31) hx hb ht xc_Md hown hK hP (moM (by decide)) rfl (by decide) fl_Md_229 rfl rfl rfl d_Md_act_237 ?_
    refine lv_aload_n hx hb d_Md_act_240 rfl (lv_at hl 2 rfl) ?_
    refine x_get (v := .int (gI σ 30 0)) (k := 30) hx hb ht xc_Md hown hK hP (moM (by decide)) rfl (by decide) fl_Md_226 rfl rfl rfl d_Md_act_241 ?_
    refine lv_icmp_le (tgt := 254) hx hb d_Md_act_244 (by decide) (fun h6 => ?_) (fun h6 => ?_)
    · refine lv_aload_n hx hb d_Md_act_254 rfl (lv_at hl 2 rfl) ?_
      refine x_get (v := .int (gI σ 30 0)) (k := 30) hx hb ht xc_Md hown hK hP (moM (by decide)) rfl (by decide) fl_Md_226 rfl rfl rfl d_Md_act_255 ?_
      refine x_put (σ' := sI σ 30 0 (gI σ 30 0)) (v := .int (gI σ 30 0)) (k := 30) hx hb ht xc_Md t_Md t_Md_ok n_Md hown hK hP hJ hw hS (moM (by decide)) rfl (by decide) fl_Md_226 rfl rfl rfl off_I rfl rfl rfl d_Md_act_258 (fun H locs hP hS => ?_)
      refine lv_goto (tgt := 264) hx hb d_Md_act_261 (by decide) ?_
      refine lv_aload_n hx hb d_Md_act_264 rfl (lv_at hl 2 rfl) ?_
      refine lv_iload_n hx hb d_Md_act_265 rfl (lv_at hl 0 rfl) ?_
      refine x_put (σ' := sN (sI σ 30 0 (gI σ 30 0)) 32 0 ((gN σ 32 0) + 1)) (v := .int (nI ((gN σ 32 0) + 1))) (k := 32) hx hb ht xc_Md t_Md t_Md_ok n_Md hown hK hP hJ hw hS (moM (by decide)) rfl (by decide) fl_Md_232 rfl rfl rfl off_N rfl rfl rfl d_Md_act_266 (fun H locs hP hS => ?_)
      exact x_vret hx hb hr hlk hK hP hS d_Md_act_269 (by unfold mActS; rw [if_neg (by omega), if_neg (by omega), if_neg (by omega), if_neg (by omega), if_neg (by omega), if_neg (by omega), if_neg (by omega), if_neg (by omega), if_neg (by omega), if_pos h1, if_pos h6])
    · refine lv_aload_n hx hb d_Md_act_247 rfl (lv_at hl 2 rfl) ?_
      refine x_get (v := .int (gI σ 31 0)) (k := 31) hx hb ht xc_Md hown hK hP (moM (by decide)) rfl (by decide) fl_Md_229 rfl rfl rfl d_Md_act_248 ?_
      refine lv_goto (tgt := 258) hx hb d_Md_act_251 (by decide) ?_
      refine x_put (σ' := sI σ 30 0 (gI σ 31 0)) (v := .int (gI σ 31 0)) (k := 30) hx hb ht xc_Md t_Md t_Md_ok n_Md hown hK hP hJ hw hS (moM (by decide)) rfl (by decide) fl_Md_226 rfl rfl rfl off_I rfl rfl rfl d_Md_act_258 (fun H locs hP hS => ?_)
      refine lv_goto (tgt := 264) hx hb d_Md_act_261 (by decide) ?_
      refine lv_aload_n hx hb d_Md_act_264 rfl (lv_at hl 2 rfl) ?_
      refine lv_iload_n hx hb d_Md_act_265 rfl (lv_at hl 0 rfl) ?_
      refine x_put (σ' := sN (sI σ 30 0 (gI σ 31 0)) 32 0 ((gN σ 32 0) + 1)) (v := .int (nI ((gN σ 32 0) + 1))) (k := 32) hx hb ht xc_Md t_Md t_Md_ok n_Md hown hK hP hJ hw hS (moM (by decide)) rfl (by decide) fl_Md_232 rfl rfl rfl off_N rfl rfl rfl d_Md_act_266 (fun H locs hP hS => ?_)
      exact x_vret hx hb hr hlk hK hP hS d_Md_act_269 (by unfold mActS; rw [if_neg (by omega), if_neg (by omega), if_neg (by omega), if_neg (by omega), if_neg (by omega), if_neg (by omega), if_neg (by omega), if_neg (by omega), if_neg (by omega), if_pos h1, if_neg h6])
  · refine lv_tableOut (tgt := 264) hx hb d_Md_act_13 (by rw [nI_toInt (by omega)]; omega) (by decide) ?_
    refine lv_aload_n hx hb d_Md_act_264 rfl (lv_at hl 2 rfl) ?_
    refine lv_iload_n hx hb d_Md_act_265 rfl (lv_at hl 0 rfl) ?_
    refine x_put (σ' := sN σ 32 0 ((gN σ 32 0) + 1)) (v := .int (nI ((gN σ 32 0) + 1))) (k := 32) hx hb ht xc_Md t_Md t_Md_ok n_Md hown hK hP hJ hw hS (moM (by decide)) rfl (by decide) fl_Md_232 rfl rfl rfl off_N rfl rfl rfl d_Md_act_266 (fun H locs hP hS => ?_)
    exact x_vret hx hb hr hlk hK hP hS d_Md_act_269 (by unfold mActS; rw [if_neg (by omega), if_neg (by omega), if_neg (by omega), if_neg (by omega), if_neg (by omega), if_neg (by omega), if_neg (by omega), if_neg (by omega), if_neg (by omega), if_neg (by omega)])
