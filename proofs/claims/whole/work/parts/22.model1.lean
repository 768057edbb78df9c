abbrev b_Md_digest : ByteArray := prog_12_method_7_code
def y_Md_digest : MethodName := ⟨"LeasedBuildsModel", "digest", "(I)I"⟩
def w_Md_digest : List Cond := .code y_Md_digest b_Md_digest 4 (some .int) :: WS
abbrev b_Md_file : ByteArray := prog_12_method_2_code
def y_Md_file : MethodName := ⟨"LeasedBuildsModel", "file", "(I)I"⟩
def w_Md_file : List Cond := .code y_Md_file b_Md_file 2 (some .int) :: WS
abbrev b_Md_action : ByteArray := prog_12_method_3_code
def y_Md_action : MethodName := ⟨"LeasedBuildsModel", "action", "(JII)I"⟩
def w_Md_action : List Cond := .code y_Md_action b_Md_action 5 (some .int) :: WS
abbrev b_Md_ready : ByteArray := prog_12_method_4_code
def y_Md_ready : MethodName := ⟨"LeasedBuildsModel", "ready", "(I)Z"⟩
def w_Md_ready : List Cond := .code y_Md_ready b_Md_ready 2 (some .boolean) :: WS
abbrev b_Md_known : ByteArray := prog_12_method_5_code
def y_Md_known : MethodName := ⟨"LeasedBuildsModel", "known", "(I)Z"⟩
def w_Md_known : List Cond := .code y_Md_known b_Md_known 2 (some .boolean) :: WS
abbrev b_Md_content : ByteArray := prog_12_method_6_code
def y_Md_content : MethodName := ⟨"LeasedBuildsModel", "content", "(I)I"⟩
def w_Md_content : List Cond := .code y_Md_content b_Md_content 2 (some .int) :: WS
abbrev b_Md_key : ByteArray := prog_12_method_8_code
def y_Md_key : MethodName := ⟨"LeasedBuildsModel", "key", "(I)I"⟩
def w_Md_key : List Cond := .code y_Md_key b_Md_key 5 (some .int) :: WS
abbrev b_Md_send : ByteArray := prog_12_method_9_code
def y_Md_send : MethodName := ⟨"LeasedBuildsModel", "send", "(IIIIIII)V"⟩
def w_Md_send : List Cond := .code y_Md_send b_Md_send 10 none :: WS
abbrev b_Md_ask : ByteArray := prog_12_method_10_code
def y_Md_ask : MethodName := ⟨"LeasedBuildsModel", "ask", "(I)V"⟩
def w_Md_ask : List Cond := .code y_Md_ask b_Md_ask 3 none :: WS
abbrev b_Md_place : ByteArray := prog_12_method_11_code
def y_Md_place : MethodName := ⟨"LeasedBuildsModel", "place", "(I)I"⟩
def w_Md_place : List Cond := .code y_Md_place b_Md_place 5 (some .int) :: WS
abbrev b_Md_flying : ByteArray := prog_12_method_12_code
def y_Md_flying : MethodName := ⟨"LeasedBuildsModel", "flying", "()I"⟩
def w_Md_flying : List Cond := .code y_Md_flying b_Md_flying 3 (some .int) :: WS
abbrev b_Md_message : ByteArray := prog_12_method_13_code
def y_Md_message : MethodName := ⟨"LeasedBuildsModel", "message", "(I)I"⟩
def w_Md_message : List Cond := .code y_Md_message b_Md_message 3 (some .int) :: WS
abbrev b_Md_carries : ByteArray := prog_12_method_14_code
def y_Md_carries : MethodName := ⟨"LeasedBuildsModel", "carries", "(I)Z"⟩
def w_Md_carries : List Cond := .code y_Md_carries b_Md_carries 2 (some .boolean) :: WS
abbrev b_Md_carried : ByteArray := prog_12_method_15_code
def y_Md_carried : MethodName := ⟨"LeasedBuildsModel", "carried", "(I)I"⟩
def w_Md_carried : List Cond := .code y_Md_carried b_Md_carried 3 (some .int) :: WS
abbrev b_Md_spoil : ByteArray := prog_12_method_16_code
def y_Md_spoil : MethodName := ⟨"LeasedBuildsModel", "spoil", "(I)Z"⟩
def w_Md_spoil : List Cond := .code y_Md_spoil b_Md_spoil 3 (some .boolean) :: WS
abbrev b_Md_lose : ByteArray := prog_12_method_17_code
def y_Md_lose : MethodName := ⟨"LeasedBuildsModel", "lose", "(I)Z"⟩
def w_Md_lose : List Cond := .code y_Md_lose b_Md_lose 3 (some .boolean) :: WS
abbrev b_Md_wrong : ByteArray := prog_12_method_18_code
def y_Md_wrong : MethodName := ⟨"LeasedBuildsModel", "wrong", "(I)Z"⟩
def w_Md_wrong : List Cond := .code y_Md_wrong b_Md_wrong 2 (some .boolean) :: WS
abbrev b_Md_find : ByteArray := prog_12_method_19_code
def y_Md_find : MethodName := ⟨"LeasedBuildsModel", "find", "(I)I"⟩
def w_Md_find : List Cond := .code y_Md_find b_Md_find 3 (some .int) :: WS
abbrev b_Md_stored : ByteArray := prog_12_method_20_code
def y_Md_stored : MethodName := ⟨"LeasedBuildsModel", "stored", "(I)Z"⟩
def w_Md_stored : List Cond := .code y_Md_stored b_Md_stored 2 (some .boolean) :: WS
theorem d_Md_digest_0 : decode b_Md_digest 0 = .ok (.iload_n 1, 1) := by decide +kernel
theorem d_Md_digest_1 : decode b_Md_digest 1 = .ok (.ldc 116, 2) := by decide +kernel
theorem d_Md_digest_3 : decode b_Md_digest 3 = .ok (.imul, 1) := by decide +kernel
theorem d_Md_digest_4 : decode b_Md_digest 4 = .ok (.istore_n 2, 1) := by decide +kernel
theorem d_Md_digest_5 : decode b_Md_digest 5 = .ok (.iload_n 2, 1) := by decide +kernel
theorem d_Md_digest_6 : decode b_Md_digest 6 = .ok (.iload_n 2, 1) := by decide +kernel
theorem d_Md_digest_7 : decode b_Md_digest 7 = .ok (.bipush 11, 2) := by decide +kernel
theorem d_Md_digest_9 : decode b_Md_digest 9 = .ok (.iushr, 1) := by decide +kernel
theorem d_Md_digest_10 : decode b_Md_digest 10 = .ok (.ixor, 1) := by decide +kernel
theorem d_Md_digest_11 : decode b_Md_digest 11 = .ok (.istore_n 3, 1) := by decide +kernel
theorem d_Md_digest_12 : decode b_Md_digest 12 = .ok (.iload_n 3, 1) := by decide +kernel
theorem d_Md_digest_13 : decode b_Md_digest 13 = .ok (.ldc 117, 2) := by decide +kernel
theorem d_Md_digest_15 : decode b_Md_digest 15 = .ok (.imul, 1) := by decide +kernel
theorem d_Md_digest_16 : decode b_Md_digest 16 = .ok (.ireturn, 1) := by decide +kernel
theorem d_Md_file_0 : decode b_Md_file 0 = .ok (.aload_n 0, 1) := by decide +kernel
theorem d_Md_file_1 : decode b_Md_file 1 = .ok (.getfield 109, 3) := by decide +kernel
theorem d_Md_file_4 : decode b_Md_file 4 = .ok (.bipush 10, 2) := by decide +kernel
theorem d_Md_file_6 : decode b_Md_file 6 = .ok (.if_icmp .lt 5, 3) := by decide +kernel
theorem d_Md_file_9 : decode b_Md_file 9 = .ok (.iconst (-1), 1) := by decide +kernel
theorem d_Md_file_10 : decode b_Md_file 10 = .ok (.ireturn, 1) := by decide +kernel
theorem d_Md_file_11 : decode b_Md_file 11 = .ok (.aload_n 0, 1) := by decide +kernel
theorem d_Md_file_12 : decode b_Md_file 12 = .ok (.getfield 27, 3) := by decide +kernel
theorem d_Md_file_15 : decode b_Md_file 15 = .ok (.aload_n 0, 1) := by decide +kernel
theorem d_Md_file_16 : decode b_Md_file 16 = .ok (.getfield 109, 3) := by decide +kernel
theorem d_Md_file_19 : decode b_Md_file 19 = .ok (.iconst 1, 1) := by decide +kernel
theorem d_Md_file_20 : decode b_Md_file 20 = .ok (.bastore, 1) := by decide +kernel
theorem d_Md_file_21 : decode b_Md_file 21 = .ok (.aload_n 0, 1) := by decide +kernel
theorem d_Md_file_22 : decode b_Md_file 22 = .ok (.getfield 30, 3) := by decide +kernel
theorem d_Md_file_25 : decode b_Md_file 25 = .ok (.aload_n 0, 1) := by decide +kernel
theorem d_Md_file_26 : decode b_Md_file 26 = .ok (.getfield 109, 3) := by decide +kernel
theorem d_Md_file_29 : decode b_Md_file 29 = .ok (.iload_n 1, 1) := by decide +kernel
theorem d_Md_file_30 : decode b_Md_file 30 = .ok (.iastore, 1) := by decide +kernel
theorem d_Md_file_31 : decode b_Md_file 31 = .ok (.aload_n 0, 1) := by decide +kernel
theorem d_Md_file_32 : decode b_Md_file 32 = .ok (.dup, 1) := by decide +kernel
theorem d_Md_file_33 : decode b_Md_file 33 = .ok (.getfield 109, 3) := by decide +kernel
theorem d_Md_file_36 : decode b_Md_file 36 = .ok (.iconst 1, 1) := by decide +kernel
theorem d_Md_file_37 : decode b_Md_file 37 = .ok (.iadd, 1) := by decide +kernel
theorem d_Md_file_38 : decode b_Md_file 38 = .ok (.putfield 109, 3) := by decide +kernel
theorem d_Md_file_41 : decode b_Md_file 41 = .ok (.aload_n 0, 1) := by decide +kernel
theorem d_Md_file_42 : decode b_Md_file 42 = .ok (.getfield 109, 3) := by decide +kernel
theorem d_Md_file_45 : decode b_Md_file 45 = .ok (.iconst 1, 1) := by decide +kernel
theorem d_Md_file_46 : decode b_Md_file 46 = .ok (.isub, 1) := by decide +kernel
theorem d_Md_file_47 : decode b_Md_file 47 = .ok (.ireturn, 1) := by decide +kernel
theorem d_Md_action_0 : decode b_Md_action 0 = .ok (.aload_n 0, 1) := by decide +kernel
theorem d_Md_action_1 : decode b_Md_action 1 = .ok (.getfield 109, 3) := by decide +kernel
theorem d_Md_action_4 : decode b_Md_action 4 = .ok (.bipush 10, 2) := by decide +kernel
theorem d_Md_action_6 : decode b_Md_action 6 = .ok (.if_icmp .ge 29, 3) := by decide +kernel
theorem d_Md_action_9 : decode b_Md_action 9 = .ok (.iload_n 3, 1) := by decide +kernel
theorem d_Md_action_10 : decode b_Md_action 10 = .ok (.ifCond .lt 25, 3) := by decide +kernel
theorem d_Md_action_13 : decode b_Md_action 13 = .ok (.iload_n 3, 1) := by decide +kernel
theorem d_Md_action_14 : decode b_Md_action 14 = .ok (.aload_n 0, 1) := by decide +kernel
theorem d_Md_action_15 : decode b_Md_action 15 = .ok (.getfield 109, 3) := by decide +kernel
theorem d_Md_action_18 : decode b_Md_action 18 = .ok (.if_icmp .ge 17, 3) := by decide +kernel
theorem d_Md_action_21 : decode b_Md_action 21 = .ok (.iload 4, 2) := by decide +kernel
theorem d_Md_action_23 : decode b_Md_action 23 = .ok (.ifCond .lt 12, 3) := by decide +kernel
theorem d_Md_action_26 : decode b_Md_action 26 = .ok (.iload 4, 2) := by decide +kernel
theorem d_Md_action_28 : decode b_Md_action 28 = .ok (.aload_n 0, 1) := by decide +kernel
theorem d_Md_action_29 : decode b_Md_action 29 = .ok (.getfield 109, 3) := by decide +kernel
theorem d_Md_action_32 : decode b_Md_action 32 = .ok (.if_icmp .lt 5, 3) := by decide +kernel
theorem d_Md_action_35 : decode b_Md_action 35 = .ok (.iconst (-1), 1) := by decide +kernel
theorem d_Md_action_36 : decode b_Md_action 36 = .ok (.ireturn, 1) := by decide +kernel
theorem d_Md_action_37 : decode b_Md_action 37 = .ok (.aload_n 0, 1) := by decide +kernel
theorem d_Md_action_38 : decode b_Md_action 38 = .ok (.getfield 13, 3) := by decide +kernel
theorem d_Md_action_41 : decode b_Md_action 41 = .ok (.aload_n 0, 1) := by decide +kernel
theorem d_Md_action_42 : decode b_Md_action 42 = .ok (.getfield 109, 3) := by decide +kernel
theorem d_Md_action_45 : decode b_Md_action 45 = .ok (.iconst 1, 1) := by decide +kernel
theorem d_Md_action_46 : decode b_Md_action 46 = .ok (.bastore, 1) := by decide +kernel
theorem d_Md_action_47 : decode b_Md_action 47 = .ok (.aload_n 0, 1) := by decide +kernel
theorem d_Md_action_48 : decode b_Md_action 48 = .ok (.getfield 16, 3) := by decide +kernel
theorem d_Md_action_51 : decode b_Md_action 51 = .ok (.aload_n 0, 1) := by decide +kernel
theorem d_Md_action_52 : decode b_Md_action 52 = .ok (.getfield 109, 3) := by decide +kernel
theorem d_Md_action_55 : decode b_Md_action 55 = .ok (.lload_n 1, 1) := by decide +kernel
theorem d_Md_action_56 : decode b_Md_action 56 = .ok (.lastore, 1) := by decide +kernel
theorem d_Md_action_57 : decode b_Md_action 57 = .ok (.aload_n 0, 1) := by decide +kernel
theorem d_Md_action_58 : decode b_Md_action 58 = .ok (.getfield 20, 3) := by decide +kernel
theorem d_Md_action_61 : decode b_Md_action 61 = .ok (.aload_n 0, 1) := by decide +kernel
theorem d_Md_action_62 : decode b_Md_action 62 = .ok (.getfield 109, 3) := by decide +kernel
theorem d_Md_action_65 : decode b_Md_action 65 = .ok (.iload_n 3, 1) := by decide +kernel
theorem d_Md_action_66 : decode b_Md_action 66 = .ok (.iastore, 1) := by decide +kernel
theorem d_Md_action_67 : decode b_Md_action 67 = .ok (.aload_n 0, 1) := by decide +kernel
theorem d_Md_action_68 : decode b_Md_action 68 = .ok (.getfield 24, 3) := by decide +kernel
theorem d_Md_action_71 : decode b_Md_action 71 = .ok (.aload_n 0, 1) := by decide +kernel
theorem d_Md_action_72 : decode b_Md_action 72 = .ok (.getfield 109, 3) := by decide +kernel
theorem d_Md_action_75 : decode b_Md_action 75 = .ok (.iload 4, 2) := by decide +kernel
theorem d_Md_action_77 : decode b_Md_action 77 = .ok (.iastore, 1) := by decide +kernel
theorem d_Md_action_78 : decode b_Md_action 78 = .ok (.aload_n 0, 1) := by decide +kernel
theorem d_Md_action_79 : decode b_Md_action 79 = .ok (.dup, 1) := by decide +kernel
theorem d_Md_action_80 : decode b_Md_action 80 = .ok (.getfield 109, 3) := by decide +kernel
theorem d_Md_action_83 : decode b_Md_action 83 = .ok (.iconst 1, 1) := by decide +kernel
theorem d_Md_action_84 : decode b_Md_action 84 = .ok (.iadd, 1) := by decide +kernel
theorem d_Md_action_85 : decode b_Md_action 85 = .ok (.putfield 109, 3) := by decide +kernel
theorem d_Md_action_88 : decode b_Md_action 88 = .ok (.aload_n 0, 1) := by decide +kernel
theorem d_Md_action_89 : decode b_Md_action 89 = .ok (.getfield 109, 3) := by decide +kernel
theorem d_Md_action_92 : decode b_Md_action 92 = .ok (.iconst 1, 1) := by decide +kernel
theorem d_Md_action_93 : decode b_Md_action 93 = .ok (.isub, 1) := by decide +kernel
theorem d_Md_action_94 : decode b_Md_action 94 = .ok (.ireturn, 1) := by decide +kernel
theorem d_Md_ready_0 : decode b_Md_ready 0 = .ok (.aload_n 0, 1) := by decide +kernel
theorem d_Md_ready_1 : decode b_Md_ready 1 = .ok (.getfield 13, 3) := by decide +kernel
theorem d_Md_ready_4 : decode b_Md_ready 4 = .ok (.iload_n 1, 1) := by decide +kernel
theorem d_Md_ready_5 : decode b_Md_ready 5 = .ok (.baload, 1) := by decide +kernel
theorem d_Md_ready_6 : decode b_Md_ready 6 = .ok (.ifCond .eq 44, 3) := by decide +kernel
theorem d_Md_ready_9 : decode b_Md_ready 9 = .ok (.aload_n 0, 1) := by decide +kernel
theorem d_Md_ready_10 : decode b_Md_ready 10 = .ok (.getfield 27, 3) := by decide +kernel
theorem d_Md_ready_13 : decode b_Md_ready 13 = .ok (.iload_n 1, 1) := by decide +kernel
theorem d_Md_ready_14 : decode b_Md_ready 14 = .ok (.baload, 1) := by decide +kernel
theorem d_Md_ready_15 : decode b_Md_ready 15 = .ok (.ifCond .ne 35, 3) := by decide +kernel
theorem d_Md_ready_18 : decode b_Md_ready 18 = .ok (.aload_n 0, 1) := by decide +kernel
theorem d_Md_ready_19 : decode b_Md_ready 19 = .ok (.getfield 27, 3) := by decide +kernel
theorem d_Md_ready_22 : decode b_Md_ready 22 = .ok (.aload_n 0, 1) := by decide +kernel
theorem d_Md_ready_23 : decode b_Md_ready 23 = .ok (.getfield 20, 3) := by decide +kernel
theorem d_Md_ready_26 : decode b_Md_ready 26 = .ok (.iload_n 1, 1) := by decide +kernel
theorem d_Md_ready_27 : decode b_Md_ready 27 = .ok (.iaload, 1) := by decide +kernel
theorem d_Md_ready_28 : decode b_Md_ready 28 = .ok (.baload, 1) := by decide +kernel
theorem d_Md_ready_29 : decode b_Md_ready 29 = .ok (.ifCond .eq 21, 3) := by decide +kernel
theorem d_Md_ready_32 : decode b_Md_ready 32 = .ok (.aload_n 0, 1) := by decide +kernel
theorem d_Md_ready_33 : decode b_Md_ready 33 = .ok (.getfield 27, 3) := by decide +kernel
theorem d_Md_ready_36 : decode b_Md_ready 36 = .ok (.aload_n 0, 1) := by decide +kernel
theorem d_Md_ready_37 : decode b_Md_ready 37 = .ok (.getfield 24, 3) := by decide +kernel
theorem d_Md_ready_40 : decode b_Md_ready 40 = .ok (.iload_n 1, 1) := by decide +kernel
theorem d_Md_ready_41 : decode b_Md_ready 41 = .ok (.iaload, 1) := by decide +kernel
theorem d_Md_ready_42 : decode b_Md_ready 42 = .ok (.baload, 1) := by decide +kernel
theorem d_Md_ready_43 : decode b_Md_ready 43 = .ok (.ifCond .eq 7, 3) := by decide +kernel
theorem d_Md_ready_46 : decode b_Md_ready 46 = .ok (.iconst 1, 1) := by decide +kernel
theorem d_Md_ready_47 : decode b_Md_ready 47 = .ok (.goto 4, 3) := by decide +kernel
theorem d_Md_ready_50 : decode b_Md_ready 50 = .ok (.iconst 0, 1) := by decide +kernel
theorem d_Md_ready_51 : decode b_Md_ready 51 = .ok (.ireturn, 1) := by decide +kernel
theorem d_Md_known_0 : decode b_Md_known 0 = .ok (.iload_n 1, 1) := by decide +kernel
theorem d_Md_known_1 : decode b_Md_known 1 = .ok (.ifCond .lt 24, 3) := by decide +kernel
theorem d_Md_known_4 : decode b_Md_known 4 = .ok (.iload_n 1, 1) := by decide +kernel
theorem d_Md_known_5 : decode b_Md_known 5 = .ok (.aload_n 0, 1) := by decide +kernel
theorem d_Md_known_6 : decode b_Md_known 6 = .ok (.getfield 109, 3) := by decide +kernel
theorem d_Md_known_9 : decode b_Md_known 9 = .ok (.if_icmp .ge 16, 3) := by decide +kernel
theorem d_Md_known_12 : decode b_Md_known 12 = .ok (.aload_n 0, 1) := by decide +kernel
theorem d_Md_known_13 : decode b_Md_known 13 = .ok (.getfield 27, 3) := by decide +kernel
theorem d_Md_known_16 : decode b_Md_known 16 = .ok (.iload_n 1, 1) := by decide +kernel
theorem d_Md_known_17 : decode b_Md_known 17 = .ok (.baload, 1) := by decide +kernel
theorem d_Md_known_18 : decode b_Md_known 18 = .ok (.ifCond .eq 7, 3) := by decide +kernel
theorem d_Md_known_21 : decode b_Md_known 21 = .ok (.iconst 1, 1) := by decide +kernel
theorem d_Md_known_22 : decode b_Md_known 22 = .ok (.goto 4, 3) := by decide +kernel
theorem d_Md_known_25 : decode b_Md_known 25 = .ok (.iconst 0, 1) := by decide +kernel
theorem d_Md_known_26 : decode b_Md_known 26 = .ok (.ireturn, 1) := by decide +kernel
theorem d_Md_content_0 : decode b_Md_content 0 = .ok (.aload_n 0, 1) := by decide +kernel
theorem d_Md_content_1 : decode b_Md_content 1 = .ok (.iload_n 1, 1) := by decide +kernel
theorem d_Md_content_2 : decode b_Md_content 2 = .ok (.invokevirtual 112, 3) := by decide +kernel
theorem d_Md_content_5 : decode b_Md_content 5 = .ok (.ifCond .eq 12, 3) := by decide +kernel
theorem d_Md_content_8 : decode b_Md_content 8 = .ok (.aload_n 0, 1) := by decide +kernel
theorem d_Md_content_9 : decode b_Md_content 9 = .ok (.getfield 30, 3) := by decide +kernel
theorem d_Md_content_12 : decode b_Md_content 12 = .ok (.iload_n 1, 1) := by decide +kernel
theorem d_Md_content_13 : decode b_Md_content 13 = .ok (.iaload, 1) := by decide +kernel
theorem d_Md_content_14 : decode b_Md_content 14 = .ok (.goto 4, 3) := by decide +kernel
theorem d_Md_content_17 : decode b_Md_content 17 = .ok (.iconst 0, 1) := by decide +kernel
theorem d_Md_content_18 : decode b_Md_content 18 = .ok (.ireturn, 1) := by decide +kernel
theorem d_Md_key_0 : decode b_Md_key 0 = .ok (.aload_n 0, 1) := by decide +kernel
theorem d_Md_key_1 : decode b_Md_key 1 = .ok (.aload_n 0, 1) := by decide +kernel
theorem d_Md_key_2 : decode b_Md_key 2 = .ok (.getfield 30, 3) := by decide +kernel
theorem d_Md_key_5 : decode b_Md_key 5 = .ok (.aload_n 0, 1) := by decide +kernel
theorem d_Md_key_6 : decode b_Md_key 6 = .ok (.getfield 20, 3) := by decide +kernel
theorem d_Md_key_9 : decode b_Md_key 9 = .ok (.iload_n 1, 1) := by decide +kernel
theorem d_Md_key_10 : decode b_Md_key 10 = .ok (.iaload, 1) := by decide +kernel
theorem d_Md_key_11 : decode b_Md_key 11 = .ok (.iaload, 1) := by decide +kernel
theorem d_Md_key_12 : decode b_Md_key 12 = .ok (.invokevirtual 118, 3) := by decide +kernel
theorem d_Md_key_15 : decode b_Md_key 15 = .ok (.istore_n 2, 1) := by decide +kernel
theorem d_Md_key_16 : decode b_Md_key 16 = .ok (.aload_n 0, 1) := by decide +kernel
theorem d_Md_key_17 : decode b_Md_key 17 = .ok (.aload_n 0, 1) := by decide +kernel
theorem d_Md_key_18 : decode b_Md_key 18 = .ok (.getfield 30, 3) := by decide +kernel
theorem d_Md_key_21 : decode b_Md_key 21 = .ok (.aload_n 0, 1) := by decide +kernel
theorem d_Md_key_22 : decode b_Md_key 22 = .ok (.getfield 24, 3) := by decide +kernel
theorem d_Md_key_25 : decode b_Md_key 25 = .ok (.iload_n 1, 1) := by decide +kernel
theorem d_Md_key_26 : decode b_Md_key 26 = .ok (.iaload, 1) := by decide +kernel
theorem d_Md_key_27 : decode b_Md_key 27 = .ok (.iaload, 1) := by decide +kernel
theorem d_Md_key_28 : decode b_Md_key 28 = .ok (.invokevirtual 118, 3) := by decide +kernel
theorem d_Md_key_31 : decode b_Md_key 31 = .ok (.istore_n 3, 1) := by decide +kernel
theorem d_Md_key_32 : decode b_Md_key 32 = .ok (.iconst 0, 1) := by decide +kernel
theorem d_Md_key_33 : decode b_Md_key 33 = .ok (.istore 4, 2) := by decide +kernel
theorem d_Md_key_35 : decode b_Md_key 35 = .ok (.iload 4, 2) := by decide +kernel
theorem d_Md_key_37 : decode b_Md_key 37 = .ok (.aload_n 0, 1) := by decide +kernel
theorem d_Md_key_38 : decode b_Md_key 38 = .ok (.getfield 122, 3) := by decide +kernel
theorem d_Md_key_41 : decode b_Md_key 41 = .ok (.if_icmp .ge 51, 3) := by decide +kernel
theorem d_Md_key_44 : decode b_Md_key 44 = .ok (.aload_n 0, 1) := by decide +kernel
theorem d_Md_key_45 : decode b_Md_key 45 = .ok (.getfield 39, 3) := by decide +kernel
theorem d_Md_key_48 : decode b_Md_key 48 = .ok (.iload 4, 2) := by decide +kernel
theorem d_Md_key_50 : decode b_Md_key 50 = .ok (.laload, 1) := by decide +kernel
theorem d_Md_key_51 : decode b_Md_key 51 = .ok (.aload_n 0, 1) := by decide +kernel
theorem d_Md_key_52 : decode b_Md_key 52 = .ok (.getfield 16, 3) := by decide +kernel
theorem d_Md_key_55 : decode b_Md_key 55 = .ok (.iload_n 1, 1) := by decide +kernel
theorem d_Md_key_56 : decode b_Md_key 56 = .ok (.laload, 1) := by decide +kernel
theorem d_Md_key_57 : decode b_Md_key 57 = .ok (.lcmp, 1) := by decide +kernel
theorem d_Md_key_58 : decode b_Md_key 58 = .ok (.ifCond .ne 28, 3) := by decide +kernel
theorem d_Md_key_61 : decode b_Md_key 61 = .ok (.aload_n 0, 1) := by decide +kernel
theorem d_Md_key_62 : decode b_Md_key 62 = .ok (.getfield 42, 3) := by decide +kernel
theorem d_Md_key_65 : decode b_Md_key 65 = .ok (.iload 4, 2) := by decide +kernel
theorem d_Md_key_67 : decode b_Md_key 67 = .ok (.iaload, 1) := by decide +kernel
theorem d_Md_key_68 : decode b_Md_key 68 = .ok (.iload_n 2, 1) := by decide +kernel
theorem d_Md_key_69 : decode b_Md_key 69 = .ok (.if_icmp .ne 17, 3) := by decide +kernel
theorem d_Md_key_72 : decode b_Md_key 72 = .ok (.aload_n 0, 1) := by decide +kernel
theorem d_Md_key_73 : decode b_Md_key 73 = .ok (.getfield 45, 3) := by decide +kernel
theorem d_Md_key_76 : decode b_Md_key 76 = .ok (.iload 4, 2) := by decide +kernel
theorem d_Md_key_78 : decode b_Md_key 78 = .ok (.iaload, 1) := by decide +kernel
theorem d_Md_key_79 : decode b_Md_key 79 = .ok (.iload_n 3, 1) := by decide +kernel
theorem d_Md_key_80 : decode b_Md_key 80 = .ok (.if_icmp .ne 6, 3) := by decide +kernel
theorem d_Md_key_83 : decode b_Md_key 83 = .ok (.iload 4, 2) := by decide +kernel
theorem d_Md_key_85 : decode b_Md_key 85 = .ok (.ireturn, 1) := by decide +kernel
theorem d_Md_key_86 : decode b_Md_key 86 = .ok (.iinc 4 1, 3) := by decide +kernel
theorem d_Md_key_89 : decode b_Md_key 89 = .ok (.goto (-54), 3) := by decide +kernel
theorem d_Md_key_92 : decode b_Md_key 92 = .ok (.aload_n 0, 1) := by decide +kernel
theorem d_Md_key_93 : decode b_Md_key 93 = .ok (.getfield 39, 3) := by decide +kernel
theorem d_Md_key_96 : decode b_Md_key 96 = .ok (.aload_n 0, 1) := by decide +kernel
theorem d_Md_key_97 : decode b_Md_key 97 = .ok (.getfield 122, 3) := by decide +kernel
theorem d_Md_key_100 : decode b_Md_key 100 = .ok (.aload_n 0, 1) := by decide +kernel
theorem d_Md_key_101 : decode b_Md_key 101 = .ok (.getfield 16, 3) := by decide +kernel
theorem d_Md_key_104 : decode b_Md_key 104 = .ok (.iload_n 1, 1) := by decide +kernel
theorem d_Md_key_105 : decode b_Md_key 105 = .ok (.laload, 1) := by decide +kernel
theorem d_Md_key_106 : decode b_Md_key 106 = .ok (.lastore, 1) := by decide +kernel
theorem d_Md_key_107 : decode b_Md_key 107 = .ok (.aload_n 0, 1) := by decide +kernel
theorem d_Md_key_108 : decode b_Md_key 108 = .ok (.getfield 42, 3) := by decide +kernel
theorem d_Md_key_111 : decode b_Md_key 111 = .ok (.aload_n 0, 1) := by decide +kernel
theorem d_Md_key_112 : decode b_Md_key 112 = .ok (.getfield 122, 3) := by decide +kernel
theorem d_Md_key_115 : decode b_Md_key 115 = .ok (.iload_n 2, 1) := by decide +kernel
theorem d_Md_key_116 : decode b_Md_key 116 = .ok (.iastore, 1) := by decide +kernel
theorem d_Md_key_117 : decode b_Md_key 117 = .ok (.aload_n 0, 1) := by decide +kernel
theorem d_Md_key_118 : decode b_Md_key 118 = .ok (.getfield 45, 3) := by decide +kernel
theorem d_Md_key_121 : decode b_Md_key 121 = .ok (.aload_n 0, 1) := by decide +kernel
theorem d_Md_key_122 : decode b_Md_key 122 = .ok (.getfield 122, 3) := by decide +kernel
theorem d_Md_key_125 : decode b_Md_key 125 = .ok (.iload_n 3, 1) := by decide +kernel
theorem d_Md_key_126 : decode b_Md_key 126 = .ok (.iastore, 1) := by decide +kernel
theorem d_Md_key_127 : decode b_Md_key 127 = .ok (.aload_n 0, 1) := by decide +kernel
theorem d_Md_key_128 : decode b_Md_key 128 = .ok (.dup, 1) := by decide +kernel
theorem d_Md_key_129 : decode b_Md_key 129 = .ok (.getfield 122, 3) := by decide +kernel
theorem d_Md_key_132 : decode b_Md_key 132 = .ok (.iconst 1, 1) := by decide +kernel
theorem d_Md_key_133 : decode b_Md_key 133 = .ok (.iadd, 1) := by decide +kernel
theorem d_Md_key_134 : decode b_Md_key 134 = .ok (.putfield 122, 3) := by decide +kernel
theorem d_Md_key_137 : decode b_Md_key 137 = .ok (.aload_n 0, 1) := by decide +kernel
theorem d_Md_key_138 : decode b_Md_key 138 = .ok (.getfield 122, 3) := by decide +kernel
theorem d_Md_key_141 : decode b_Md_key 141 = .ok (.iconst 1, 1) := by decide +kernel
theorem d_Md_key_142 : decode b_Md_key 142 = .ok (.isub, 1) := by decide +kernel
theorem d_Md_key_143 : decode b_Md_key 143 = .ok (.ireturn, 1) := by decide +kernel
theorem d_Md_send_0 : decode b_Md_send 0 = .ok (.aload_n 0, 1) := by decide +kernel
theorem d_Md_send_1 : decode b_Md_send 1 = .ok (.dup, 1) := by decide +kernel
theorem d_Md_send_2 : decode b_Md_send 2 = .ok (.getfield 125, 3) := by decide +kernel
theorem d_Md_send_5 : decode b_Md_send 5 = .ok (.iconst 1, 1) := by decide +kernel
theorem d_Md_send_6 : decode b_Md_send 6 = .ok (.iadd, 1) := by decide +kernel
theorem d_Md_send_7 : decode b_Md_send 7 = .ok (.putfield 125, 3) := by decide +kernel
theorem d_Md_send_10 : decode b_Md_send 10 = .ok (.iconst (-1), 1) := by decide +kernel
theorem d_Md_send_11 : decode b_Md_send 11 = .ok (.istore 8, 2) := by decide +kernel
theorem d_Md_send_13 : decode b_Md_send 13 = .ok (.iconst 0, 1) := by decide +kernel
theorem d_Md_send_14 : decode b_Md_send 14 = .ok (.istore 9, 2) := by decide +kernel
theorem d_Md_send_16 : decode b_Md_send 16 = .ok (.iload 9, 2) := by decide +kernel
theorem d_Md_send_18 : decode b_Md_send 18 = .ok (.bipush 24, 2) := by decide +kernel
theorem d_Md_send_20 : decode b_Md_send 20 = .ok (.if_icmp .ge 28, 3) := by decide +kernel
theorem d_Md_send_23 : decode b_Md_send 23 = .ok (.aload_n 0, 1) := by decide +kernel
theorem d_Md_send_24 : decode b_Md_send 24 = .ok (.getfield 78, 3) := by decide +kernel
theorem d_Md_send_27 : decode b_Md_send 27 = .ok (.iload 9, 2) := by decide +kernel
theorem d_Md_send_29 : decode b_Md_send 29 = .ok (.iaload, 1) := by decide +kernel
theorem d_Md_send_30 : decode b_Md_send 30 = .ok (.ifCond .ne 8, 3) := by decide +kernel
theorem d_Md_send_33 : decode b_Md_send 33 = .ok (.iload 9, 2) := by decide +kernel
theorem d_Md_send_35 : decode b_Md_send 35 = .ok (.goto 5, 3) := by decide +kernel
theorem d_Md_send_38 : decode b_Md_send 38 = .ok (.iload 8, 2) := by decide +kernel
theorem d_Md_send_40 : decode b_Md_send 40 = .ok (.istore 8, 2) := by decide +kernel
theorem d_Md_send_42 : decode b_Md_send 42 = .ok (.iinc 9 1, 3) := by decide +kernel
theorem d_Md_send_45 : decode b_Md_send 45 = .ok (.goto (-29), 3) := by decide +kernel
theorem d_Md_send_48 : decode b_Md_send 48 = .ok (.iload 8, 2) := by decide +kernel
theorem d_Md_send_50 : decode b_Md_send 50 = .ok (.ifCond .ge 4, 3) := by decide +kernel
theorem d_Md_send_53 : decode b_Md_send 53 = .ok (.return_, 1) := by decide +kernel
theorem d_Md_send_54 : decode b_Md_send 54 = .ok (.aload_n 0, 1) := by decide +kernel
theorem d_Md_send_55 : decode b_Md_send 55 = .ok (.dup, 1) := by decide +kernel
theorem d_Md_send_56 : decode b_Md_send 56 = .ok (.getfield 128, 3) := by decide +kernel
theorem d_Md_send_59 : decode b_Md_send 59 = .ok (.iconst 1, 1) := by decide +kernel
theorem d_Md_send_60 : decode b_Md_send 60 = .ok (.iadd, 1) := by decide +kernel
theorem d_Md_send_61 : decode b_Md_send 61 = .ok (.putfield 128, 3) := by decide +kernel
theorem d_Md_send_64 : decode b_Md_send 64 = .ok (.aload_n 0, 1) := by decide +kernel
theorem d_Md_send_65 : decode b_Md_send 65 = .ok (.getfield 78, 3) := by decide +kernel
theorem d_Md_send_68 : decode b_Md_send 68 = .ok (.iload 8, 2) := by decide +kernel
theorem d_Md_send_70 : decode b_Md_send 70 = .ok (.aload_n 0, 1) := by decide +kernel
theorem d_Md_send_71 : decode b_Md_send 71 = .ok (.getfield 128, 3) := by decide +kernel
theorem d_Md_send_74 : decode b_Md_send 74 = .ok (.iastore, 1) := by decide +kernel
theorem d_Md_send_75 : decode b_Md_send 75 = .ok (.aload_n 0, 1) := by decide +kernel
theorem d_Md_send_76 : decode b_Md_send 76 = .ok (.getfield 81, 3) := by decide +kernel
theorem d_Md_send_79 : decode b_Md_send 79 = .ok (.iload 8, 2) := by decide +kernel
theorem d_Md_send_81 : decode b_Md_send 81 = .ok (.iload_n 1, 1) := by decide +kernel
theorem d_Md_send_82 : decode b_Md_send 82 = .ok (.iastore, 1) := by decide +kernel
theorem d_Md_send_83 : decode b_Md_send 83 = .ok (.aload_n 0, 1) := by decide +kernel
theorem d_Md_send_84 : decode b_Md_send 84 = .ok (.getfield 84, 3) := by decide +kernel
theorem d_Md_send_87 : decode b_Md_send 87 = .ok (.iload 8, 2) := by decide +kernel
theorem d_Md_send_89 : decode b_Md_send 89 = .ok (.iload_n 2, 1) := by decide +kernel
theorem d_Md_send_90 : decode b_Md_send 90 = .ok (.iastore, 1) := by decide +kernel
theorem d_Md_send_91 : decode b_Md_send 91 = .ok (.aload_n 0, 1) := by decide +kernel
theorem d_Md_send_92 : decode b_Md_send 92 = .ok (.getfield 87, 3) := by decide +kernel
theorem d_Md_send_95 : decode b_Md_send 95 = .ok (.iload 8, 2) := by decide +kernel
theorem d_Md_send_97 : decode b_Md_send 97 = .ok (.iload_n 3, 1) := by decide +kernel
theorem d_Md_send_98 : decode b_Md_send 98 = .ok (.iastore, 1) := by decide +kernel
theorem d_Md_send_99 : decode b_Md_send 99 = .ok (.aload_n 0, 1) := by decide +kernel
theorem d_Md_send_100 : decode b_Md_send 100 = .ok (.getfield 90, 3) := by decide +kernel
theorem d_Md_send_103 : decode b_Md_send 103 = .ok (.iload 8, 2) := by decide +kernel
theorem d_Md_send_105 : decode b_Md_send 105 = .ok (.iload 4, 2) := by decide +kernel
theorem d_Md_send_107 : decode b_Md_send 107 = .ok (.iastore, 1) := by decide +kernel
theorem d_Md_send_108 : decode b_Md_send 108 = .ok (.aload_n 0, 1) := by decide +kernel
theorem d_Md_send_109 : decode b_Md_send 109 = .ok (.getfield 93, 3) := by decide +kernel
theorem d_Md_send_112 : decode b_Md_send 112 = .ok (.iload 8, 2) := by decide +kernel
theorem d_Md_send_114 : decode b_Md_send 114 = .ok (.iload 5, 2) := by decide +kernel
theorem d_Md_send_116 : decode b_Md_send 116 = .ok (.iastore, 1) := by decide +kernel
theorem d_Md_send_117 : decode b_Md_send 117 = .ok (.aload_n 0, 1) := by decide +kernel
theorem d_Md_send_118 : decode b_Md_send 118 = .ok (.getfield 96, 3) := by decide +kernel
theorem d_Md_send_121 : decode b_Md_send 121 = .ok (.iload 8, 2) := by decide +kernel
theorem d_Md_send_123 : decode b_Md_send 123 = .ok (.iload 6, 2) := by decide +kernel
theorem d_Md_send_125 : decode b_Md_send 125 = .ok (.iastore, 1) := by decide +kernel
theorem d_Md_send_126 : decode b_Md_send 126 = .ok (.aload_n 0, 1) := by decide +kernel
theorem d_Md_send_127 : decode b_Md_send 127 = .ok (.getfield 99, 3) := by decide +kernel
theorem d_Md_send_130 : decode b_Md_send 130 = .ok (.iload 8, 2) := by decide +kernel
theorem d_Md_send_132 : decode b_Md_send 132 = .ok (.iload 7, 2) := by decide +kernel
theorem d_Md_send_134 : decode b_Md_send 134 = .ok (.iastore, 1) := by decide +kernel
theorem d_Md_send_135 : decode b_Md_send 135 = .ok (.return_, 1) := by decide +kernel
theorem d_Md_ask_0 : decode b_Md_ask 0 = .ok (.aload_n 0, 1) := by decide +kernel
theorem d_Md_ask_1 : decode b_Md_ask 1 = .ok (.iload_n 1, 1) := by decide +kernel
theorem d_Md_ask_2 : decode b_Md_ask 2 = .ok (.invokevirtual 131, 3) := by decide +kernel
theorem d_Md_ask_5 : decode b_Md_ask 5 = .ok (.istore_n 2, 1) := by decide +kernel
theorem d_Md_ask_6 : decode b_Md_ask 6 = .ok (.aload_n 0, 1) := by decide +kernel
theorem d_Md_ask_7 : decode b_Md_ask 7 = .ok (.iconst 1, 1) := by decide +kernel
theorem d_Md_ask_8 : decode b_Md_ask 8 = .ok (.iconst 0, 1) := by decide +kernel
theorem d_Md_ask_9 : decode b_Md_ask 9 = .ok (.iload_n 2, 1) := by decide +kernel
theorem d_Md_ask_10 : decode b_Md_ask 10 = .ok (.iload_n 1, 1) := by decide +kernel
theorem d_Md_ask_11 : decode b_Md_ask 11 = .ok (.iconst 0, 1) := by decide +kernel
theorem d_Md_ask_12 : decode b_Md_ask 12 = .ok (.iconst 0, 1) := by decide +kernel
theorem d_Md_ask_13 : decode b_Md_ask 13 = .ok (.iconst 0, 1) := by decide +kernel
theorem d_Md_ask_14 : decode b_Md_ask 14 = .ok (.invokevirtual 134, 3) := by decide +kernel
theorem d_Md_ask_17 : decode b_Md_ask 17 = .ok (.aload_n 0, 1) := by decide +kernel
theorem d_Md_ask_18 : decode b_Md_ask 18 = .ok (.getfield 33, 3) := by decide +kernel
theorem d_Md_ask_21 : decode b_Md_ask 21 = .ok (.iload_n 1, 1) := by decide +kernel
theorem d_Md_ask_22 : decode b_Md_ask 22 = .ok (.iconst 1, 1) := by decide +kernel
theorem d_Md_ask_23 : decode b_Md_ask 23 = .ok (.bastore, 1) := by decide +kernel
theorem d_Md_ask_24 : decode b_Md_ask 24 = .ok (.aload_n 0, 1) := by decide +kernel
theorem d_Md_ask_25 : decode b_Md_ask 25 = .ok (.getfield 36, 3) := by decide +kernel
theorem d_Md_ask_28 : decode b_Md_ask 28 = .ok (.iload_n 1, 1) := by decide +kernel
theorem d_Md_ask_29 : decode b_Md_ask 29 = .ok (.aload_n 0, 1) := by decide +kernel
theorem d_Md_ask_30 : decode b_Md_ask 30 = .ok (.getfield 138, 3) := by decide +kernel
theorem d_Md_ask_33 : decode b_Md_ask 33 = .ok (.iastore, 1) := by decide +kernel
theorem d_Md_ask_34 : decode b_Md_ask 34 = .ok (.return_, 1) := by decide +kernel
theorem d_Md_place_0 : decode b_Md_place 0 = .ok (.iconst 0, 1) := by decide +kernel
theorem d_Md_place_1 : decode b_Md_place 1 = .ok (.istore_n 2, 1) := by decide +kernel
theorem d_Md_place_2 : decode b_Md_place 2 = .ok (.iload_n 2, 1) := by decide +kernel
theorem d_Md_place_3 : decode b_Md_place 3 = .ok (.bipush 24, 2) := by decide +kernel
theorem d_Md_place_5 : decode b_Md_place 5 = .ok (.if_icmp .ge 72, 3) := by decide +kernel
theorem d_Md_place_8 : decode b_Md_place 8 = .ok (.iconst 0, 1) := by decide +kernel
theorem d_Md_place_9 : decode b_Md_place 9 = .ok (.istore_n 3, 1) := by decide +kernel
theorem d_Md_place_10 : decode b_Md_place 10 = .ok (.iconst 0, 1) := by decide +kernel
theorem d_Md_place_11 : decode b_Md_place 11 = .ok (.istore 4, 2) := by decide +kernel
theorem d_Md_place_13 : decode b_Md_place 13 = .ok (.iload 4, 2) := by decide +kernel
theorem d_Md_place_15 : decode b_Md_place 15 = .ok (.bipush 24, 2) := by decide +kernel
theorem d_Md_place_17 : decode b_Md_place 17 = .ok (.if_icmp .ge 38, 3) := by decide +kernel
theorem d_Md_place_20 : decode b_Md_place 20 = .ok (.aload_n 0, 1) := by decide +kernel
theorem d_Md_place_21 : decode b_Md_place 21 = .ok (.getfield 78, 3) := by decide +kernel
theorem d_Md_place_24 : decode b_Md_place 24 = .ok (.iload 4, 2) := by decide +kernel
theorem d_Md_place_26 : decode b_Md_place 26 = .ok (.iaload, 1) := by decide +kernel
theorem d_Md_place_27 : decode b_Md_place 27 = .ok (.ifCond .le 22, 3) := by decide +kernel
theorem d_Md_place_30 : decode b_Md_place 30 = .ok (.aload_n 0, 1) := by decide +kernel
theorem d_Md_place_31 : decode b_Md_place 31 = .ok (.getfield 78, 3) := by decide +kernel
theorem d_Md_place_34 : decode b_Md_place 34 = .ok (.iload 4, 2) := by decide +kernel
theorem d_Md_place_36 : decode b_Md_place 36 = .ok (.iaload, 1) := by decide +kernel
theorem d_Md_place_37 : decode b_Md_place 37 = .ok (.aload_n 0, 1) := by decide +kernel
theorem d_Md_place_38 : decode b_Md_place 38 = .ok (.getfield 78, 3) := by decide +kernel
theorem d_Md_place_41 : decode b_Md_place 41 = .ok (.iload_n 2, 1) := by decide +kernel
theorem d_Md_place_42 : decode b_Md_place 42 = .ok (.iaload, 1) := by decide +kernel
theorem d_Md_place_43 : decode b_Md_place 43 = .ok (.if_icmp .ge 6, 3) := by decide +kernel
theorem d_Md_place_46 : decode b_Md_place 46 = .ok (.iinc 3 1, 3) := by decide +kernel
theorem d_Md_place_49 : decode b_Md_place 49 = .ok (.iinc 4 1, 3) := by decide +kernel
theorem d_Md_place_52 : decode b_Md_place 52 = .ok (.goto (-39), 3) := by decide +kernel
theorem d_Md_place_55 : decode b_Md_place 55 = .ok (.aload_n 0, 1) := by decide +kernel
theorem d_Md_place_56 : decode b_Md_place 56 = .ok (.getfield 78, 3) := by decide +kernel
theorem d_Md_place_59 : decode b_Md_place 59 = .ok (.iload_n 2, 1) := by decide +kernel
theorem d_Md_place_60 : decode b_Md_place 60 = .ok (.iaload, 1) := by decide +kernel
theorem d_Md_place_61 : decode b_Md_place 61 = .ok (.ifCond .le 10, 3) := by decide +kernel
theorem d_Md_place_64 : decode b_Md_place 64 = .ok (.iload_n 3, 1) := by decide +kernel
theorem d_Md_place_65 : decode b_Md_place 65 = .ok (.iload_n 1, 1) := by decide +kernel
theorem d_Md_place_66 : decode b_Md_place 66 = .ok (.if_icmp .ne 5, 3) := by decide +kernel
theorem d_Md_place_69 : decode b_Md_place 69 = .ok (.iload_n 2, 1) := by decide +kernel
theorem d_Md_place_70 : decode b_Md_place 70 = .ok (.ireturn, 1) := by decide +kernel
theorem d_Md_place_71 : decode b_Md_place 71 = .ok (.iinc 2 1, 3) := by decide +kernel
theorem d_Md_place_74 : decode b_Md_place 74 = .ok (.goto (-72), 3) := by decide +kernel
theorem d_Md_place_77 : decode b_Md_place 77 = .ok (.iconst (-1), 1) := by decide +kernel
theorem d_Md_place_78 : decode b_Md_place 78 = .ok (.ireturn, 1) := by decide +kernel
theorem d_Md_flying_0 : decode b_Md_flying 0 = .ok (.iconst 0, 1) := by decide +kernel
theorem d_Md_flying_1 : decode b_Md_flying 1 = .ok (.istore_n 1, 1) := by decide +kernel
theorem d_Md_flying_2 : decode b_Md_flying 2 = .ok (.iconst 0, 1) := by decide +kernel
theorem d_Md_flying_3 : decode b_Md_flying 3 = .ok (.istore_n 2, 1) := by decide +kernel
theorem d_Md_flying_4 : decode b_Md_flying 4 = .ok (.iload_n 2, 1) := by decide +kernel
theorem d_Md_flying_5 : decode b_Md_flying 5 = .ok (.bipush 24, 2) := by decide +kernel
theorem d_Md_flying_7 : decode b_Md_flying 7 = .ok (.if_icmp .ge 26, 3) := by decide +kernel
theorem d_Md_flying_10 : decode b_Md_flying 10 = .ok (.iload_n 1, 1) := by decide +kernel
theorem d_Md_flying_11 : decode b_Md_flying 11 = .ok (.aload_n 0, 1) := by decide +kernel
theorem d_Md_flying_12 : decode b_Md_flying 12 = .ok (.getfield 78, 3) := by decide +kernel
theorem d_Md_flying_15 : decode b_Md_flying 15 = .ok (.iload_n 2, 1) := by decide +kernel
theorem d_Md_flying_16 : decode b_Md_flying 16 = .ok (.iaload, 1) := by decide +kernel
theorem d_Md_flying_17 : decode b_Md_flying 17 = .ok (.ifCond .le 7, 3) := by decide +kernel
theorem d_Md_flying_20 : decode b_Md_flying 20 = .ok (.iconst 1, 1) := by decide +kernel
theorem d_Md_flying_21 : decode b_Md_flying 21 = .ok (.goto 4, 3) := by decide +kernel
theorem d_Md_flying_24 : decode b_Md_flying 24 = .ok (.iconst 0, 1) := by decide +kernel
theorem d_Md_flying_25 : decode b_Md_flying 25 = .ok (.iadd, 1) := by decide +kernel
theorem d_Md_flying_26 : decode b_Md_flying 26 = .ok (.istore_n 1, 1) := by decide +kernel
theorem d_Md_flying_27 : decode b_Md_flying 27 = .ok (.iinc 2 1, 3) := by decide +kernel
theorem d_Md_flying_30 : decode b_Md_flying 30 = .ok (.goto (-26), 3) := by decide +kernel
theorem d_Md_flying_33 : decode b_Md_flying 33 = .ok (.iload_n 1, 1) := by decide +kernel
theorem d_Md_flying_34 : decode b_Md_flying 34 = .ok (.ireturn, 1) := by decide +kernel
theorem d_Md_message_0 : decode b_Md_message 0 = .ok (.aload_n 0, 1) := by decide +kernel
theorem d_Md_message_1 : decode b_Md_message 1 = .ok (.iload_n 1, 1) := by decide +kernel
theorem d_Md_message_2 : decode b_Md_message 2 = .ok (.invokevirtual 141, 3) := by decide +kernel
theorem d_Md_message_5 : decode b_Md_message 5 = .ok (.istore_n 2, 1) := by decide +kernel
theorem d_Md_message_6 : decode b_Md_message 6 = .ok (.iload_n 2, 1) := by decide +kernel
theorem d_Md_message_7 : decode b_Md_message 7 = .ok (.ifCond .ge 7, 3) := by decide +kernel
theorem d_Md_message_10 : decode b_Md_message 10 = .ok (.iconst (-1), 1) := by decide +kernel
theorem d_Md_message_11 : decode b_Md_message 11 = .ok (.goto 19, 3) := by decide +kernel
theorem d_Md_message_14 : decode b_Md_message 14 = .ok (.bipush 10, 2) := by decide +kernel
theorem d_Md_message_16 : decode b_Md_message 16 = .ok (.aload_n 0, 1) := by decide +kernel
theorem d_Md_message_17 : decode b_Md_message 17 = .ok (.getfield 81, 3) := by decide +kernel
theorem d_Md_message_20 : decode b_Md_message 20 = .ok (.iload_n 2, 1) := by decide +kernel
theorem d_Md_message_21 : decode b_Md_message 21 = .ok (.iaload, 1) := by decide +kernel
theorem d_Md_message_22 : decode b_Md_message 22 = .ok (.imul, 1) := by decide +kernel
theorem d_Md_message_23 : decode b_Md_message 23 = .ok (.aload_n 0, 1) := by decide +kernel
theorem d_Md_message_24 : decode b_Md_message 24 = .ok (.getfield 84, 3) := by decide +kernel
theorem d_Md_message_27 : decode b_Md_message 27 = .ok (.iload_n 2, 1) := by decide +kernel
theorem d_Md_message_28 : decode b_Md_message 28 = .ok (.iaload, 1) := by decide +kernel
theorem d_Md_message_29 : decode b_Md_message 29 = .ok (.iadd, 1) := by decide +kernel
theorem d_Md_message_30 : decode b_Md_message 30 = .ok (.ireturn, 1) := by decide +kernel
theorem d_Md_carries_0 : decode b_Md_carries 0 = .ok (.iload_n 1, 1) := by decide +kernel
theorem d_Md_carries_1 : decode b_Md_carries 1 = .ok (.ifCond .lt 17, 3) := by decide +kernel
theorem d_Md_carries_4 : decode b_Md_carries 4 = .ok (.aload_n 0, 1) := by decide +kernel
theorem d_Md_carries_5 : decode b_Md_carries 5 = .ok (.getfield 81, 3) := by decide +kernel
theorem d_Md_carries_8 : decode b_Md_carries 8 = .ok (.iload_n 1, 1) := by decide +kernel
theorem d_Md_carries_9 : decode b_Md_carries 9 = .ok (.iaload, 1) := by decide +kernel
theorem d_Md_carries_10 : decode b_Md_carries 10 = .ok (.iconst 3, 1) := by decide +kernel
theorem d_Md_carries_11 : decode b_Md_carries 11 = .ok (.if_icmp .lt 7, 3) := by decide +kernel
theorem d_Md_carries_14 : decode b_Md_carries 14 = .ok (.iconst 1, 1) := by decide +kernel
theorem d_Md_carries_15 : decode b_Md_carries 15 = .ok (.goto 4, 3) := by decide +kernel
theorem d_Md_carries_18 : decode b_Md_carries 18 = .ok (.iconst 0, 1) := by decide +kernel
theorem d_Md_carries_19 : decode b_Md_carries 19 = .ok (.ireturn, 1) := by decide +kernel
theorem d_Md_carried_0 : decode b_Md_carried 0 = .ok (.aload_n 0, 1) := by decide +kernel
theorem d_Md_carried_1 : decode b_Md_carried 1 = .ok (.iload_n 1, 1) := by decide +kernel
theorem d_Md_carried_2 : decode b_Md_carried 2 = .ok (.invokevirtual 141, 3) := by decide +kernel
theorem d_Md_carried_5 : decode b_Md_carried 5 = .ok (.istore_n 2, 1) := by decide +kernel
theorem d_Md_carried_6 : decode b_Md_carried 6 = .ok (.aload_n 0, 1) := by decide +kernel
theorem d_Md_carried_7 : decode b_Md_carried 7 = .ok (.iload_n 2, 1) := by decide +kernel
theorem d_Md_carried_8 : decode b_Md_carried 8 = .ok (.invokevirtual 144, 3) := by decide +kernel
theorem d_Md_carried_11 : decode b_Md_carried 11 = .ok (.ifCond .eq 12, 3) := by decide +kernel
theorem d_Md_carried_14 : decode b_Md_carried 14 = .ok (.aload_n 0, 1) := by decide +kernel
theorem d_Md_carried_15 : decode b_Md_carried 15 = .ok (.getfield 93, 3) := by decide +kernel
theorem d_Md_carried_18 : decode b_Md_carried 18 = .ok (.iload_n 2, 1) := by decide +kernel
theorem d_Md_carried_19 : decode b_Md_carried 19 = .ok (.iaload, 1) := by decide +kernel
theorem d_Md_carried_20 : decode b_Md_carried 20 = .ok (.goto 4, 3) := by decide +kernel
theorem d_Md_carried_23 : decode b_Md_carried 23 = .ok (.iconst 0, 1) := by decide +kernel
theorem d_Md_carried_24 : decode b_Md_carried 24 = .ok (.ireturn, 1) := by decide +kernel
theorem d_Md_spoil_0 : decode b_Md_spoil 0 = .ok (.aload_n 0, 1) := by decide +kernel
theorem d_Md_spoil_1 : decode b_Md_spoil 1 = .ok (.iload_n 1, 1) := by decide +kernel
theorem d_Md_spoil_2 : decode b_Md_spoil 2 = .ok (.invokevirtual 141, 3) := by decide +kernel
theorem d_Md_spoil_5 : decode b_Md_spoil 5 = .ok (.istore_n 2, 1) := by decide +kernel
theorem d_Md_spoil_6 : decode b_Md_spoil 6 = .ok (.aload_n 0, 1) := by decide +kernel
theorem d_Md_spoil_7 : decode b_Md_spoil 7 = .ok (.iload_n 2, 1) := by decide +kernel
theorem d_Md_spoil_8 : decode b_Md_spoil 8 = .ok (.invokevirtual 144, 3) := by decide +kernel
theorem d_Md_spoil_11 : decode b_Md_spoil 11 = .ok (.ifCond .ne 5, 3) := by decide +kernel
theorem d_Md_spoil_14 : decode b_Md_spoil 14 = .ok (.iconst 0, 1) := by decide +kernel
theorem d_Md_spoil_15 : decode b_Md_spoil 15 = .ok (.ireturn, 1) := by decide +kernel
theorem d_Md_spoil_16 : decode b_Md_spoil 16 = .ok (.aload_n 0, 1) := by decide +kernel
theorem d_Md_spoil_17 : decode b_Md_spoil 17 = .ok (.getfield 93, 3) := by decide +kernel
theorem d_Md_spoil_20 : decode b_Md_spoil 20 = .ok (.iload_n 2, 1) := by decide +kernel
theorem d_Md_spoil_21 : decode b_Md_spoil 21 = .ok (.aload_n 0, 1) := by decide +kernel
theorem d_Md_spoil_22 : decode b_Md_spoil 22 = .ok (.getfield 93, 3) := by decide +kernel
theorem d_Md_spoil_25 : decode b_Md_spoil 25 = .ok (.iload_n 2, 1) := by decide +kernel
theorem d_Md_spoil_26 : decode b_Md_spoil 26 = .ok (.iaload, 1) := by decide +kernel
theorem d_Md_spoil_27 : decode b_Md_spoil 27 = .ok (.iconst 1, 1) := by decide +kernel
theorem d_Md_spoil_28 : decode b_Md_spoil 28 = .ok (.ixor, 1) := by decide +kernel
theorem d_Md_spoil_29 : decode b_Md_spoil 29 = .ok (.iastore, 1) := by decide +kernel
theorem d_Md_spoil_30 : decode b_Md_spoil 30 = .ok (.iconst 1, 1) := by decide +kernel
theorem d_Md_spoil_31 : decode b_Md_spoil 31 = .ok (.ireturn, 1) := by decide +kernel
theorem d_Md_lose_0 : decode b_Md_lose 0 = .ok (.aload_n 0, 1) := by decide +kernel
theorem d_Md_lose_1 : decode b_Md_lose 1 = .ok (.iload_n 1, 1) := by decide +kernel
theorem d_Md_lose_2 : decode b_Md_lose 2 = .ok (.invokevirtual 141, 3) := by decide +kernel
theorem d_Md_lose_5 : decode b_Md_lose 5 = .ok (.istore_n 2, 1) := by decide +kernel
theorem d_Md_lose_6 : decode b_Md_lose 6 = .ok (.iload_n 2, 1) := by decide +kernel
theorem d_Md_lose_7 : decode b_Md_lose 7 = .ok (.ifCond .ge 5, 3) := by decide +kernel
theorem d_Md_lose_10 : decode b_Md_lose 10 = .ok (.iconst 0, 1) := by decide +kernel
theorem d_Md_lose_11 : decode b_Md_lose 11 = .ok (.ireturn, 1) := by decide +kernel
theorem d_Md_lose_12 : decode b_Md_lose 12 = .ok (.aload_n 0, 1) := by decide +kernel
theorem d_Md_lose_13 : decode b_Md_lose 13 = .ok (.getfield 78, 3) := by decide +kernel
theorem d_Md_lose_16 : decode b_Md_lose 16 = .ok (.iload_n 2, 1) := by decide +kernel
theorem d_Md_lose_17 : decode b_Md_lose 17 = .ok (.iconst 0, 1) := by decide +kernel
theorem d_Md_lose_18 : decode b_Md_lose 18 = .ok (.iastore, 1) := by decide +kernel
theorem d_Md_lose_19 : decode b_Md_lose 19 = .ok (.iconst 1, 1) := by decide +kernel
theorem d_Md_lose_20 : decode b_Md_lose 20 = .ok (.ireturn, 1) := by decide +kernel
theorem d_Md_wrong_0 : decode b_Md_wrong 0 = .ok (.aload_n 0, 1) := by decide +kernel
theorem d_Md_wrong_1 : decode b_Md_wrong 1 = .ok (.getfield 81, 3) := by decide +kernel
theorem d_Md_wrong_4 : decode b_Md_wrong 4 = .ok (.iload_n 1, 1) := by decide +kernel
theorem d_Md_wrong_5 : decode b_Md_wrong 5 = .ok (.iaload, 1) := by decide +kernel
theorem d_Md_wrong_6 : decode b_Md_wrong 6 = .ok (.iconst 4, 1) := by decide +kernel
theorem d_Md_wrong_7 : decode b_Md_wrong 7 = .ok (.if_icmp .ne 57, 3) := by decide +kernel
theorem d_Md_wrong_10 : decode b_Md_wrong 10 = .ok (.aload_n 0, 1) := by decide +kernel
theorem d_Md_wrong_11 : decode b_Md_wrong 11 = .ok (.aload_n 0, 1) := by decide +kernel
theorem d_Md_wrong_12 : decode b_Md_wrong 12 = .ok (.getfield 93, 3) := by decide +kernel
theorem d_Md_wrong_15 : decode b_Md_wrong 15 = .ok (.iload_n 1, 1) := by decide +kernel
theorem d_Md_wrong_16 : decode b_Md_wrong 16 = .ok (.iaload, 1) := by decide +kernel
theorem d_Md_wrong_17 : decode b_Md_wrong 17 = .ok (.invokevirtual 118, 3) := by decide +kernel
theorem d_Md_wrong_20 : decode b_Md_wrong 20 = .ok (.aload_n 0, 1) := by decide +kernel
theorem d_Md_wrong_21 : decode b_Md_wrong 21 = .ok (.getfield 42, 3) := by decide +kernel
theorem d_Md_wrong_24 : decode b_Md_wrong 24 = .ok (.aload_n 0, 1) := by decide +kernel
theorem d_Md_wrong_25 : decode b_Md_wrong 25 = .ok (.getfield 87, 3) := by decide +kernel
theorem d_Md_wrong_28 : decode b_Md_wrong 28 = .ok (.iload_n 1, 1) := by decide +kernel
theorem d_Md_wrong_29 : decode b_Md_wrong 29 = .ok (.iaload, 1) := by decide +kernel
theorem d_Md_wrong_30 : decode b_Md_wrong 30 = .ok (.iaload, 1) := by decide +kernel
theorem d_Md_wrong_31 : decode b_Md_wrong 31 = .ok (.if_icmp .ne 27, 3) := by decide +kernel
theorem d_Md_wrong_34 : decode b_Md_wrong 34 = .ok (.aload_n 0, 1) := by decide +kernel
theorem d_Md_wrong_35 : decode b_Md_wrong 35 = .ok (.aload_n 0, 1) := by decide +kernel
theorem d_Md_wrong_36 : decode b_Md_wrong 36 = .ok (.getfield 96, 3) := by decide +kernel
theorem d_Md_wrong_39 : decode b_Md_wrong 39 = .ok (.iload_n 1, 1) := by decide +kernel
theorem d_Md_wrong_40 : decode b_Md_wrong 40 = .ok (.iaload, 1) := by decide +kernel
theorem d_Md_wrong_41 : decode b_Md_wrong 41 = .ok (.invokevirtual 118, 3) := by decide +kernel
theorem d_Md_wrong_44 : decode b_Md_wrong 44 = .ok (.aload_n 0, 1) := by decide +kernel
theorem d_Md_wrong_45 : decode b_Md_wrong 45 = .ok (.getfield 45, 3) := by decide +kernel
theorem d_Md_wrong_48 : decode b_Md_wrong 48 = .ok (.aload_n 0, 1) := by decide +kernel
theorem d_Md_wrong_49 : decode b_Md_wrong 49 = .ok (.getfield 87, 3) := by decide +kernel
theorem d_Md_wrong_52 : decode b_Md_wrong 52 = .ok (.iload_n 1, 1) := by decide +kernel
theorem d_Md_wrong_53 : decode b_Md_wrong 53 = .ok (.iaload, 1) := by decide +kernel
theorem d_Md_wrong_54 : decode b_Md_wrong 54 = .ok (.iaload, 1) := by decide +kernel
theorem d_Md_wrong_55 : decode b_Md_wrong 55 = .ok (.if_icmp .eq 7, 3) := by decide +kernel
theorem d_Md_wrong_58 : decode b_Md_wrong 58 = .ok (.iconst 1, 1) := by decide +kernel
theorem d_Md_wrong_59 : decode b_Md_wrong 59 = .ok (.goto 4, 3) := by decide +kernel
theorem d_Md_wrong_62 : decode b_Md_wrong 62 = .ok (.iconst 0, 1) := by decide +kernel
theorem d_Md_wrong_63 : decode b_Md_wrong 63 = .ok (.ireturn, 1) := by decide +kernel
theorem d_Md_wrong_64 : decode b_Md_wrong 64 = .ok (.aload_n 0, 1) := by decide +kernel
theorem d_Md_wrong_65 : decode b_Md_wrong 65 = .ok (.getfield 81, 3) := by decide +kernel
theorem d_Md_wrong_68 : decode b_Md_wrong 68 = .ok (.iload_n 1, 1) := by decide +kernel
theorem d_Md_wrong_69 : decode b_Md_wrong 69 = .ok (.iaload, 1) := by decide +kernel
theorem d_Md_wrong_70 : decode b_Md_wrong 70 = .ok (.iconst 3, 1) := by decide +kernel
theorem d_Md_wrong_71 : decode b_Md_wrong 71 = .ok (.if_icmp .lt 26, 3) := by decide +kernel
theorem d_Md_wrong_74 : decode b_Md_wrong 74 = .ok (.aload_n 0, 1) := by decide +kernel
theorem d_Md_wrong_75 : decode b_Md_wrong 75 = .ok (.aload_n 0, 1) := by decide +kernel
theorem d_Md_wrong_76 : decode b_Md_wrong 76 = .ok (.getfield 93, 3) := by decide +kernel
theorem d_Md_wrong_79 : decode b_Md_wrong 79 = .ok (.iload_n 1, 1) := by decide +kernel
theorem d_Md_wrong_80 : decode b_Md_wrong 80 = .ok (.iaload, 1) := by decide +kernel
theorem d_Md_wrong_81 : decode b_Md_wrong 81 = .ok (.invokevirtual 118, 3) := by decide +kernel
theorem d_Md_wrong_84 : decode b_Md_wrong 84 = .ok (.aload_n 0, 1) := by decide +kernel
theorem d_Md_wrong_85 : decode b_Md_wrong 85 = .ok (.getfield 99, 3) := by decide +kernel
theorem d_Md_wrong_88 : decode b_Md_wrong 88 = .ok (.iload_n 1, 1) := by decide +kernel
theorem d_Md_wrong_89 : decode b_Md_wrong 89 = .ok (.iaload, 1) := by decide +kernel
theorem d_Md_wrong_90 : decode b_Md_wrong 90 = .ok (.if_icmp .eq 7, 3) := by decide +kernel
theorem d_Md_wrong_93 : decode b_Md_wrong 93 = .ok (.iconst 1, 1) := by decide +kernel
theorem d_Md_wrong_94 : decode b_Md_wrong 94 = .ok (.goto 4, 3) := by decide +kernel
theorem d_Md_wrong_97 : decode b_Md_wrong 97 = .ok (.iconst 0, 1) := by decide +kernel
theorem d_Md_wrong_98 : decode b_Md_wrong 98 = .ok (.ireturn, 1) := by decide +kernel
theorem d_Md_find_0 : decode b_Md_find 0 = .ok (.iconst 0, 1) := by decide +kernel
theorem d_Md_find_1 : decode b_Md_find 1 = .ok (.istore_n 2, 1) := by decide +kernel
theorem d_Md_find_2 : decode b_Md_find 2 = .ok (.iload_n 2, 1) := by decide +kernel
theorem d_Md_find_3 : decode b_Md_find 3 = .ok (.aload_n 0, 1) := by decide +kernel
theorem d_Md_find_4 : decode b_Md_find 4 = .ok (.getfield 147, 3) := by decide +kernel
theorem d_Md_find_7 : decode b_Md_find 7 = .ok (.if_icmp .ge 25, 3) := by decide +kernel
theorem d_Md_find_10 : decode b_Md_find 10 = .ok (.aload_n 0, 1) := by decide +kernel
theorem d_Md_find_11 : decode b_Md_find 11 = .ok (.aload_n 0, 1) := by decide +kernel
theorem d_Md_find_12 : decode b_Md_find 12 = .ok (.getfield 63, 3) := by decide +kernel
theorem d_Md_find_15 : decode b_Md_find 15 = .ok (.iload_n 2, 1) := by decide +kernel
theorem d_Md_find_16 : decode b_Md_find 16 = .ok (.iaload, 1) := by decide +kernel
theorem d_Md_find_17 : decode b_Md_find 17 = .ok (.invokevirtual 118, 3) := by decide +kernel
theorem d_Md_find_20 : decode b_Md_find 20 = .ok (.iload_n 1, 1) := by decide +kernel
theorem d_Md_find_21 : decode b_Md_find 21 = .ok (.if_icmp .ne 5, 3) := by decide +kernel
theorem d_Md_find_24 : decode b_Md_find 24 = .ok (.iload_n 2, 1) := by decide +kernel
theorem d_Md_find_25 : decode b_Md_find 25 = .ok (.ireturn, 1) := by decide +kernel
theorem d_Md_find_26 : decode b_Md_find 26 = .ok (.iinc 2 1, 3) := by decide +kernel
theorem d_Md_find_29 : decode b_Md_find 29 = .ok (.goto (-27), 3) := by decide +kernel
theorem d_Md_find_32 : decode b_Md_find 32 = .ok (.iconst (-1), 1) := by decide +kernel
theorem d_Md_find_33 : decode b_Md_find 33 = .ok (.ireturn, 1) := by decide +kernel
theorem d_Md_stored_0 : decode b_Md_stored 0 = .ok (.aload_n 0, 1) := by decide +kernel
theorem d_Md_stored_1 : decode b_Md_stored 1 = .ok (.iload_n 1, 1) := by decide +kernel
theorem d_Md_stored_2 : decode b_Md_stored 2 = .ok (.invokevirtual 150, 3) := by decide +kernel
theorem d_Md_stored_5 : decode b_Md_stored 5 = .ok (.ifCond .lt 7, 3) := by decide +kernel
theorem d_Md_stored_8 : decode b_Md_stored 8 = .ok (.iconst 1, 1) := by decide +kernel
theorem d_Md_stored_9 : decode b_Md_stored 9 = .ok (.goto 4, 3) := by decide +kernel
theorem d_Md_stored_12 : decode b_Md_stored 12 = .ok (.iconst 0, 1) := by decide +kernel
theorem d_Md_stored_13 : decode b_Md_stored 13 = .ok (.ireturn, 1) := by decide +kernel
theorem cn_Md_116 : Cond.constant "LeasedBuildsModel" 116 1234567891 ∈ WS := ms (i := 893) (by decide +kernel) rfl
theorem cn_Md_117 : Cond.constant "LeasedBuildsModel" 117 987654321 ∈ WS := ms (i := 894) (by decide +kernel) rfl
theorem fl_Md_109 : Cond.fieldLink "LeasedBuildsModel" 109 "LeasedBuildsModel" "items" "I" ∈ WS := ms (i := 726) (by decide +kernel) rfl
theorem fl_Md_27 : Cond.fieldLink "LeasedBuildsModel" 27 "LeasedBuildsModel" "have" "[Z" ∈ WS := ms (i := 731) (by decide +kernel) rfl
theorem fl_Md_30 : Cond.fieldLink "LeasedBuildsModel" 30 "LeasedBuildsModel" "value" "[I" ∈ WS := ms (i := 732) (by decide +kernel) rfl
theorem fl_Md_13 : Cond.fieldLink "LeasedBuildsModel" 13 "LeasedBuildsModel" "built" "[Z" ∈ WS := ms (i := 727) (by decide +kernel) rfl
theorem fl_Md_16 : Cond.fieldLink "LeasedBuildsModel" 16 "LeasedBuildsModel" "program" "[J" ∈ WS := ms (i := 728) (by decide +kernel) rfl
theorem fl_Md_20 : Cond.fieldLink "LeasedBuildsModel" 20 "LeasedBuildsModel" "left" "[I" ∈ WS := ms (i := 729) (by decide +kernel) rfl
theorem fl_Md_24 : Cond.fieldLink "LeasedBuildsModel" 24 "LeasedBuildsModel" "right" "[I" ∈ WS := ms (i := 730) (by decide +kernel) rfl
theorem cs_Md_112 : CwV WS "LeasedBuildsModel" 112 "LeasedBuildsModel" y_Md_known b_Md_known 2 (some .boolean) 1 := ⟨⟨ms (i := 883) (by decide +kernel) rfl, ms (i := 888) (by decide +kernel) rfl, ms (i := 881) (by decide +kernel) rfl, ms (i := 882) (by decide +kernel) rfl, ms (i := 11) (by decide +kernel) rfl⟩, by decide +kernel⟩
theorem cs_Md_118 : CwV WS "LeasedBuildsModel" 118 "LeasedBuildsModel" y_Md_digest b_Md_digest 4 (some .int) 1 := ⟨⟨ms (i := 892) (by decide +kernel) rfl, ms (i := 931) (by decide +kernel) rfl, ms (i := 890) (by decide +kernel) rfl, ms (i := 891) (by decide +kernel) rfl, ms (i := 11) (by decide +kernel) rfl⟩, by decide +kernel⟩
theorem fl_Md_122 : Cond.fieldLink "LeasedBuildsModel" 122 "LeasedBuildsModel" "keys" "I" ∈ WS := ms (i := 735) (by decide +kernel) rfl
theorem fl_Md_39 : Cond.fieldLink "LeasedBuildsModel" 39 "LeasedBuildsModel" "keyProgram" "[J" ∈ WS := ms (i := 736) (by decide +kernel) rfl
theorem fl_Md_42 : Cond.fieldLink "LeasedBuildsModel" 42 "LeasedBuildsModel" "keyLeft" "[I" ∈ WS := ms (i := 737) (by decide +kernel) rfl
theorem fl_Md_45 : Cond.fieldLink "LeasedBuildsModel" 45 "LeasedBuildsModel" "keyRight" "[I" ∈ WS := ms (i := 738) (by decide +kernel) rfl
theorem fl_Md_125 : Cond.fieldLink "LeasedBuildsModel" 125 "LeasedBuildsModel" "sending" "I" ∈ WS := ms (i := 755) (by decide +kernel) rfl
theorem fl_Md_78 : Cond.fieldLink "LeasedBuildsModel" 78 "LeasedBuildsModel" "born" "[I" ∈ WS := ms (i := 756) (by decide +kernel) rfl
theorem fl_Md_128 : Cond.fieldLink "LeasedBuildsModel" 128 "LeasedBuildsModel" "births" "I" ∈ WS := ms (i := 754) (by decide +kernel) rfl
theorem fl_Md_81 : Cond.fieldLink "LeasedBuildsModel" 81 "LeasedBuildsModel" "kind" "[I" ∈ WS := ms (i := 757) (by decide +kernel) rfl
theorem fl_Md_84 : Cond.fieldLink "LeasedBuildsModel" 84 "LeasedBuildsModel" "to" "[I" ∈ WS := ms (i := 758) (by decide +kernel) rfl
theorem fl_Md_87 : Cond.fieldLink "LeasedBuildsModel" 87 "LeasedBuildsModel" "keyOf" "[I" ∈ WS := ms (i := 759) (by decide +kernel) rfl
theorem fl_Md_90 : Cond.fieldLink "LeasedBuildsModel" 90 "LeasedBuildsModel" "itemOf" "[I" ∈ WS := ms (i := 760) (by decide +kernel) rfl
theorem fl_Md_93 : Cond.fieldLink "LeasedBuildsModel" 93 "LeasedBuildsModel" "one" "[I" ∈ WS := ms (i := 761) (by decide +kernel) rfl
theorem fl_Md_96 : Cond.fieldLink "LeasedBuildsModel" 96 "LeasedBuildsModel" "two" "[I" ∈ WS := ms (i := 762) (by decide +kernel) rfl
theorem fl_Md_99 : Cond.fieldLink "LeasedBuildsModel" 99 "LeasedBuildsModel" "sum" "[I" ∈ WS := ms (i := 763) (by decide +kernel) rfl
theorem cs_Md_131 : CwV WS "LeasedBuildsModel" 131 "LeasedBuildsModel" y_Md_key b_Md_key 5 (some .int) 1 := ⟨⟨ms (i := 979) (by decide +kernel) rfl, ms (i := 976) (by decide +kernel) rfl, ms (i := 978) (by decide +kernel) rfl, mp (i := 29) (by decide +kernel) rfl, ms (i := 11) (by decide +kernel) rfl⟩, by decide +kernel⟩
theorem cs_Md_134 : CwV WS "LeasedBuildsModel" 134 "LeasedBuildsModel" y_Md_send b_Md_send 10 none 7 := ⟨⟨ms (i := 967) (by decide +kernel) rfl, ms (i := 964) (by decide +kernel) rfl, ms (i := 966) (by decide +kernel) rfl, mp (i := 26) (by decide +kernel) rfl, ms (i := 11) (by decide +kernel) rfl⟩, by decide +kernel⟩
theorem fl_Md_33 : Cond.fieldLink "LeasedBuildsModel" 33 "LeasedBuildsModel" "sent" "[Z" ∈ WS := ms (i := 733) (by decide +kernel) rfl
theorem fl_Md_36 : Cond.fieldLink "LeasedBuildsModel" 36 "LeasedBuildsModel" "sentAt" "[I" ∈ WS := ms (i := 734) (by decide +kernel) rfl
theorem fl_Md_138 : Cond.fieldLink "LeasedBuildsModel" 138 "LeasedBuildsModel" "time" "I" ∈ WS := ms (i := 723) (by decide +kernel) rfl
theorem cs_Md_141 : CwV WS "LeasedBuildsModel" 141 "LeasedBuildsModel" y_Md_place b_Md_place 5 (some .int) 1 := ⟨⟨ms (i := 906) (by decide +kernel) rfl, ms (i := 903) (by decide +kernel) rfl, ms (i := 905) (by decide +kernel) rfl, mp (i := 19) (by decide +kernel) rfl, ms (i := 11) (by decide +kernel) rfl⟩, by decide +kernel⟩
theorem cs_Md_144 : CwV WS "LeasedBuildsModel" 144 "LeasedBuildsModel" y_Md_carries b_Md_carries 2 (some .boolean) 1 := ⟨⟨ms (i := 914) (by decide +kernel) rfl, ms (i := 911) (by decide +kernel) rfl, ms (i := 913) (by decide +kernel) rfl, mp (i := 20) (by decide +kernel) rfl, ms (i := 11) (by decide +kernel) rfl⟩, by decide +kernel⟩
theorem fl_Md_147 : Cond.fieldLink "LeasedBuildsModel" 147 "LeasedBuildsModel" "blobs" "I" ∈ WS := ms (i := 745) (by decide +kernel) rfl
theorem fl_Md_63 : Cond.fieldLink "LeasedBuildsModel" 63 "LeasedBuildsModel" "blob" "[I" ∈ WS := ms (i := 746) (by decide +kernel) rfl
theorem cs_Md_150 : CwV WS "LeasedBuildsModel" 150 "LeasedBuildsModel" y_Md_find b_Md_find 3 (some .int) 1 := ⟨⟨ms (i := 930) (by decide +kernel) rfl, ms (i := 927) (by decide +kernel) rfl, ms (i := 929) (by decide +kernel) rfl, mp (i := 21) (by decide +kernel) rfl, ms (i := 11) (by decide +kernel) rfl⟩, by decide +kernel⟩
set_option maxHeartbeats 4000000 in
set_option maxRecDepth 100000 in
theorem c_Md_digest (l : Launch) (D : va_G) (dA : Nat → ClassId) (ad : Nat → Nat) (hJ : Inj ad obM) (σ : Sg) (c : Int32)  : CI l D clX (tyX dA) SM ad dA obM NL y_Md_digest w_Md_digest { frames := 0, cells := 0, slots := 0, locals := 0 } [.ref (ad 0), .int c] σ ((dg c)) σ := by
  refine x_of (WS := WS) (cc := b_Md_digest) (maxL := 4) (ret := (some .int)) (by decide) rfl (Nat.le_of_ble_eq_true rfl) ?_
  intro pp ee ss mm below meth cdd hx hb hml hr hlk ht hown hnm hN hK hP ls hl
  have hl : lv_has ls 4 [(0, .ref (ad 0)), (1, .int c)] := hl
  have hS : va_S (Ad ad obM) ss.heap ss.heap [] := va_S.rf
  have hw := swfM
  refine lv_iload_n hx hb d_Md_digest_0 rfl (lv_at hl 1 rfl) ?_
  refine lv_ldc (v := 1234567891) hx hb hown (ht _ cn_Md_116) d_Md_digest_1 ?_
  refine lv_imul hx hb d_Md_digest_3 ?_
  refine lv_istore_n (lv' := [(2, .int (c * ((1234567891 : Int32)))), (0, .ref (ad 0)), (1, .int c)]) hx hb d_Md_digest_4 rfl hl (by decide) rfl (fun ls hl => ?_)
  refine lv_iload_n hx hb d_Md_digest_5 rfl (lv_at hl 0 rfl) ?_
  refine lv_iload_n hx hb d_Md_digest_6 rfl (lv_at hl 0 rfl) ?_
  refine lv_bipush (v := (nI 11)) hx hb d_Md_digest_7 (by decide) ?_
  refine lv_iushr (v := ((c * ((1234567891 : Int32))).toUInt32 >>> ((nI 11).toUInt32 &&& Int32.toUInt32 31)).toInt32) hx hb d_Md_digest_9 rfl ?_
  refine lv_ixor hx hb d_Md_digest_10 ?_
  refine lv_istore_n (lv' := [(3, .int ((c * ((1234567891 : Int32))) ^^^ (((c * ((1234567891 : Int32))).toUInt32 >>> ((nI 11).toUInt32 &&& Int32.toUInt32 31)).toInt32))), (2, .int (c * ((1234567891 : Int32)))), (0, .ref (ad 0)), (1, .int c)]) hx hb d_Md_digest_11 rfl hl (by decide) rfl (fun ls hl => ?_)
  refine lv_iload_n hx hb d_Md_digest_12 rfl (lv_at hl 0 rfl) ?_
  refine lv_ldc (v := 987654321) hx hb hown (ht _ cn_Md_117) d_Md_digest_13 ?_
  refine lv_imul hx hb d_Md_digest_15 ?_
  exact x_iret hx hb hr hlk hK hP hS d_Md_digest_16 rfl rfl
set_option maxHeartbeats 4000000 in
set_option maxRecDepth 100000 in
theorem c_Md_file (l : Launch) (D : va_G) (dA : Nat → ClassId) (ad : Nat → Nat) (hJ : Inj ad obM) (σ : Sg) (c : Int32) (B : Nat) (hWf : WfM B σ) : CI l D clX (tyX dA) SM ad dA obM NL y_Md_file w_Md_file { frames := 0, cells := 0, slots := 0, locals := 0 } [.ref (ad 0), .int c] σ ((if gN σ 5 0 < 10 then nI (gN σ 5 0) else -1)) (mFile σ c) := by
  refine x_of (WS := WS) (cc := b_Md_file) (maxL := 2) (ret := (some .int)) (by decide) rfl (Nat.le_of_ble_eq_true rfl) ?_
  intro pp ee ss mm below meth cdd hx hb hml hr hlk ht hown hnm hN hK hP ls hl
  have hl : lv_has ls 2 [(0, .ref (ad 0)), (1, .int c)] := hl
  have hS : va_S (Ad ad obM) ss.heap ss.heap [] := va_S.rf
  have hw := swfM
  have hM0 := hWf.it
  have hM1 := hWf.ks
  have hM2 := hWf.bl
  have hM3 := hWf.wk
  have hM4 := hWf.bi
  have hM5 := hWf.qu
  have hM6 := hWf.tm
  have hM7 := hWf.la
  refine lv_aload_n hx hb d_Md_file_0 rfl (lv_at hl 0 rfl) ?_
  refine x_get (v := .int (nI (gN σ 5 0))) (k := 5) hx hb ht xc_Md hown hK hP (moM (by decide)) rfl (by decide) fl_Md_109 rfl rfl rfl d_Md_file_1 ?_
  refine lv_bipush (v := (nI 10)) hx hb d_Md_file_4 (by decide) ?_
  refine x_icmp_ltN (tgt := 11) hx hb d_Md_file_6 (by decide) (by omega) (by decide) (fun h1 => ?_) (fun h1 => ?_)
  · refine lv_aload_n hx hb d_Md_file_11 rfl (lv_at hl 0 rfl) ?_
    refine x_get (v := .ref (ad 6)) (k := 10) hx hb ht xc_Md hown hK hP (moM (by decide)) rfl (by decide) fl_Md_27 rfl rfl rfl d_Md_file_12 ?_
    refine lv_aload_n hx hb d_Md_file_15 rfl (lv_at hl 0 rfl) ?_
    refine x_get (v := .int (nI (gN σ 5 0))) (k := 5) hx hb ht xc_Md hown hK hP (moM (by decide)) rfl (by decide) fl_Md_109 rfl rfl rfl d_Md_file_16 ?_
    refine lv_iconst (v := (nI 1)) hx hb d_Md_file_19 (by decide) ?_
    refine x_zast (κ := 105) (n := 10) (x := true) hx hb hK hP hJ hw hS (moM (by decide)) rfl (by decide) rfl rfl (by omega) (by omega) d_Md_file_20 (fun H locs hP hS => ?_)
    have hWf : WfM B (sB σ 105 (gN σ 5 0) true) := wfm_B hWf
    refine lv_aload_n hx hb d_Md_file_21 rfl (lv_at hl 0 rfl) ?_
    refine x_get (v := .ref (ad 7)) (k := 11) hx hb ht xc_Md hown hK hP (moM (by decide)) rfl (by decide) fl_Md_30 rfl rfl rfl d_Md_file_22 ?_
    refine lv_aload_n hx hb d_Md_file_25 rfl (lv_at hl 0 rfl) ?_
    refine x_get (v := .int (nI (gN σ 5 0))) (k := 5) hx hb ht xc_Md hown hK hP (moM (by decide)) rfl (by decide) fl_Md_109 rfl rfl rfl d_Md_file_26 ?_
    refine lv_iload_n hx hb d_Md_file_29 rfl (lv_at hl 1 rfl) ?_
    refine x_iast (κ := 106) (n := 10) (x := c) hx hb hK hP hJ hw hS (moM (by decide)) rfl (by decide) rfl rfl (by omega) (by omega) d_Md_file_30 (fun H locs hP hS => ?_)
    have hWf : WfM B (sI (sB σ 105 (gN σ 5 0) true) 106 (gN σ 5 0) c) := wfm_I hWf
    refine lv_aload_n hx hb d_Md_file_31 rfl (lv_at hl 0 rfl) ?_
    refine lv_dup hx hb d_Md_file_32 rfl ?_
    refine x_get (v := .int (nI (gN σ 5 0))) (k := 5) hx hb ht xc_Md hown hK hP (moM (by decide)) rfl (by decide) fl_Md_109 rfl rfl rfl d_Md_file_33 ?_
    refine lv_iconst (v := (nI 1)) hx hb d_Md_file_36 (by decide) ?_
    refine x_iaddN hx hb d_Md_file_37 ?_
    refine x_put (σ' := sN (sI (sB σ 105 (gN σ 5 0) true) 106 (gN σ 5 0) c) 5 0 ((gN σ 5 0) + 1)) (v := .int (nI ((gN σ 5 0) + 1))) (k := 5) hx hb ht xc_Md t_Md t_Md_ok n_Md hown hK hP hJ hw hS (moM (by decide)) rfl (by decide) fl_Md_109 rfl rfl rfl off_N rfl rfl rfl d_Md_file_38 (fun H locs hP hS => ?_)
    refine lv_aload_n hx hb d_Md_file_41 rfl (lv_at hl 0 rfl) ?_
    refine x_get (v := .int (nI ((gN σ 5 0) + 1))) (k := 5) hx hb ht xc_Md hown hK hP (moM (by decide)) rfl (by decide) fl_Md_109 rfl rfl rfl d_Md_file_42 ?_
    refine lv_iconst (v := (nI 1)) hx hb d_Md_file_45 (by decide) ?_
    refine x_isubN hx hb d_Md_file_46 (by omega) ?_
    refine W.eq (g2 := F0 mm 47 ls [.int (nI ((gN σ 5 0)))]) rfl ?_
    exact x_iret hx hb hr hlk hK hP hS d_Md_file_47 (by rw [if_pos h1]) (by unfold mFile; rw [if_pos h1])
  · refine lv_iconst (v := ((-1))) hx hb d_Md_file_9 (by decide) ?_
    exact x_iret hx hb hr hlk hK hP hS d_Md_file_10 (by rw [if_neg (by omega)]) (by unfold mFile; rw [if_neg (by omega)])
set_option maxHeartbeats 4000000 in
set_option maxRecDepth 100000 in
theorem c_Md_action (l : Launch) (D : va_G) (dA : Nat → ClassId) (ad : Nat → Nat) (hJ : Inj ad obM) (σ : Sg) (p : Int64) (a : Int32) (b : Int32) (B : Nat) (hWf : WfM B σ) : CI l D clX (tyX dA) SM ad dA obM NL y_Md_action w_Md_action { frames := 0, cells := 0, slots := 0, locals := 0 } [.ref (ad 0), .long p, .int a, .int b] σ ((if mActOk σ a b = true then nI (gN σ 5 0) else -1)) (mAct σ p a b) := by
  refine x_of (WS := WS) (cc := b_Md_action) (maxL := 5) (ret := (some .int)) (by decide) rfl (Nat.le_of_ble_eq_true rfl) ?_
  intro pp ee ss mm below meth cdd hx hb hml hr hlk ht hown hnm hN hK hP ls hl
  have hl : lv_has ls 5 [(0, .ref (ad 0)), (1, .long p), (3, .int a), (4, .int b)] := hl
  have hS : va_S (Ad ad obM) ss.heap ss.heap [] := va_S.rf
  have hw := swfM
  have hM0 := hWf.it
  have hM1 := hWf.ks
  have hM2 := hWf.bl
  have hM3 := hWf.wk
  have hM4 := hWf.bi
  have hM5 := hWf.qu
  have hM6 := hWf.tm
  have hM7 := hWf.la
  refine lv_aload_n hx hb d_Md_action_0 rfl (lv_at hl 0 rfl) ?_
  refine x_get (v := .int (nI (gN σ 5 0))) (k := 5) hx hb ht xc_Md hown hK hP (moM (by decide)) rfl (by decide) fl_Md_109 rfl rfl rfl d_Md_action_1 ?_
  refine lv_bipush (v := (nI 10)) hx hb d_Md_action_4 (by decide) ?_
  refine x_icmp_geN (tgt := 35) hx hb d_Md_action_6 (by decide) (by omega) (by decide) (fun h1 => ?_) (fun h1 => ?_)
  · refine lv_iconst (v := ((-1))) hx hb d_Md_action_35 (by decide) ?_
    exact x_iret hx hb hr hlk hK hP hS d_Md_action_36 (by rw [if_neg (by unfold mActOk; simp [show ¬ gN σ 5 0 < 10 by omega])]) (by unfold mAct; rw [if_neg (by unfold mActOk; simp [show ¬ gN σ 5 0 < 10 by omega])])
  · refine lv_iload_n hx hb d_Md_action_9 rfl (lv_at hl 2 rfl) ?_
    refine lv_if_lt (tgt := 35) hx hb d_Md_action_10 (by decide) (fun h2 => ?_) (fun h2 => ?_)
    · refine lv_iconst (v := ((-1))) hx hb d_Md_action_35 (by decide) ?_
      exact x_iret hx hb hr hlk hK hP hS d_Md_action_36 (by rw [if_neg (by unfold mActOk; simp [inR_neg h2])]) (by unfold mAct; rw [if_neg (by unfold mActOk; simp [inR_neg h2])])
    · refine lv_iload_n hx hb d_Md_action_13 rfl (lv_at hl 2 rfl) ?_
      refine lv_aload_n hx hb d_Md_action_14 rfl (lv_at hl 0 rfl) ?_
      refine x_get (v := .int (nI (gN σ 5 0))) (k := 5) hx hb ht xc_Md hown hK hP (moM (by decide)) rfl (by decide) fl_Md_109 rfl rfl rfl d_Md_action_15 ?_
      refine lv_icmp_ge (tgt := 35) hx hb d_Md_action_18 (by decide) (fun h3 => ?_) (fun h3 => ?_)
      · refine lv_iconst (v := ((-1))) hx hb d_Md_action_35 (by decide) ?_
        exact x_iret hx hb hr hlk hK hP hS d_Md_action_36 (by rw [if_neg (by unfold mActOk; simp [inR_big (show gN σ 5 0 < 2 ^ 31 by omega) h3])]) (by unfold mAct; rw [if_neg (by unfold mActOk; simp [inR_big (show gN σ 5 0 < 2 ^ 31 by omega) h3])])
      · refine lv_iload hx hb d_Md_action_21 (lv_at hl 3 rfl) ?_
        refine lv_if_lt (tgt := 35) hx hb d_Md_action_23 (by decide) (fun h4 => ?_) (fun h4 => ?_)
        · refine lv_iconst (v := ((-1))) hx hb d_Md_action_35 (by decide) ?_
          exact x_iret hx hb hr hlk hK hP hS d_Md_action_36 (by rw [if_neg (by unfold mActOk; simp [inR_neg h4])]) (by unfold mAct; rw [if_neg (by unfold mActOk; simp [inR_neg h4])])
        · refine lv_iload hx hb d_Md_action_26 (lv_at hl 3 rfl) ?_
          refine lv_aload_n hx hb d_Md_action_28 rfl (lv_at hl 0 rfl) ?_
          refine x_get (v := .int (nI (gN σ 5 0))) (k := 5) hx hb ht xc_Md hown hK hP (moM (by decide)) rfl (by decide) fl_Md_109 rfl rfl rfl d_Md_action_29 ?_
          refine lv_icmp_lt (tgt := 37) hx hb d_Md_action_32 (by decide) (fun h5 => ?_) (fun h5 => ?_)
          · obtain ⟨ja, hja, rfl⟩ := inR_of (by omega) (inR_in (by omega) h2 h3)
            obtain ⟨jb, hjb, rfl⟩ := inR_of (by omega) (inR_inL (by omega) h4 h5)
            refine lv_aload_n hx hb d_Md_action_37 rfl (lv_at hl 0 rfl) ?_
            refine x_get (v := .ref (ad 2)) (k := 6) hx hb ht xc_Md hown hK hP (moM (by decide)) rfl (by decide) fl_Md_13 rfl rfl rfl d_Md_action_38 ?_
            refine lv_aload_n hx hb d_Md_action_41 rfl (lv_at hl 0 rfl) ?_
            refine x_get (v := .int (nI (gN σ 5 0))) (k := 5) hx hb ht xc_Md hown hK hP (moM (by decide)) rfl (by decide) fl_Md_109 rfl rfl rfl d_Md_action_42 ?_
            refine lv_iconst (v := (nI 1)) hx hb d_Md_action_45 (by decide) ?_
            refine x_zast (κ := 101) (n := 10) (x := true) hx hb hK hP hJ hw hS (moM (by decide)) rfl (by decide) rfl rfl (by omega) (by omega) d_Md_action_46 (fun H locs hP hS => ?_)
            have hWf : WfM B (sB σ 101 (gN σ 5 0) true) := wfm_B hWf
            refine lv_aload_n hx hb d_Md_action_47 rfl (lv_at hl 0 rfl) ?_
            refine x_get (v := .ref (ad 3)) (k := 7) hx hb ht xc_Md hown hK hP (moM (by decide)) rfl (by decide) fl_Md_16 rfl rfl rfl d_Md_action_48 ?_
            refine lv_aload_n hx hb d_Md_action_51 rfl (lv_at hl 0 rfl) ?_
            refine x_get (v := .int (nI (gN σ 5 0))) (k := 5) hx hb ht xc_Md hown hK hP (moM (by decide)) rfl (by decide) fl_Md_109 rfl rfl rfl d_Md_action_52 ?_
            refine lv_lload_n hx hb d_Md_action_55 rfl (lv_at hl 1 rfl) ?_
            refine x_last (κ := 102) (n := 10) (x := p) hx hb hK hP hJ hw hS (moM (by decide)) rfl (by decide) rfl rfl (by omega) (by omega) d_Md_action_56 (fun H locs hP hS => ?_)
            have hWf : WfM B (sJ (sB σ 101 (gN σ 5 0) true) 102 (gN σ 5 0) p) := wfm_J hWf
            refine lv_aload_n hx hb d_Md_action_57 rfl (lv_at hl 0 rfl) ?_
            refine x_get (v := .ref (ad 4)) (k := 8) hx hb ht xc_Md hown hK hP (moM (by decide)) rfl (by decide) fl_Md_20 rfl rfl rfl d_Md_action_58 ?_
            refine lv_aload_n hx hb d_Md_action_61 rfl (lv_at hl 0 rfl) ?_
            refine x_get (v := .int (nI (gN σ 5 0))) (k := 5) hx hb ht xc_Md hown hK hP (moM (by decide)) rfl (by decide) fl_Md_109 rfl rfl rfl d_Md_action_62 ?_
            refine lv_iload_n hx hb d_Md_action_65 rfl (lv_at hl 2 rfl) ?_
            refine x_nast (κ := 103) (n := 10) (x := ja) hx hb hK hP hJ hw hS (moM (by decide)) rfl (by decide) rfl rfl (by omega) (by omega) d_Md_action_66 (fun H locs hP hS => ?_)
            refine lv_aload_n hx hb d_Md_action_67 rfl (lv_at hl 0 rfl) ?_
            refine x_get (v := .ref (ad 5)) (k := 9) hx hb ht xc_Md hown hK hP (moM (by decide)) rfl (by decide) fl_Md_24 rfl rfl rfl d_Md_action_68 ?_
            refine lv_aload_n hx hb d_Md_action_71 rfl (lv_at hl 0 rfl) ?_
            refine x_get (v := .int (nI (gN σ 5 0))) (k := 5) hx hb ht xc_Md hown hK hP (moM (by decide)) rfl (by decide) fl_Md_109 rfl rfl rfl d_Md_action_72 ?_
            refine lv_iload hx hb d_Md_action_75 (lv_at hl 3 rfl) ?_
            refine x_nast (κ := 104) (n := 10) (x := jb) hx hb hK hP hJ hw hS (moM (by decide)) rfl (by decide) rfl rfl (by omega) (by omega) d_Md_action_77 (fun H locs hP hS => ?_)
            refine lv_aload_n hx hb d_Md_action_78 rfl (lv_at hl 0 rfl) ?_
            refine lv_dup hx hb d_Md_action_79 rfl ?_
            refine x_get (v := .int (nI (gN σ 5 0))) (k := 5) hx hb ht xc_Md hown hK hP (moM (by decide)) rfl (by decide) fl_Md_109 rfl rfl rfl d_Md_action_80 ?_
            refine lv_iconst (v := (nI 1)) hx hb d_Md_action_83 (by decide) ?_
            refine x_iaddN hx hb d_Md_action_84 ?_
            refine x_put (σ' := sN (sN (sN (sJ (sB σ 101 (gN σ 5 0) true) 102 (gN σ 5 0) p) 103 (gN σ 5 0) ja) 104 (gN σ 5 0) jb) 5 0 ((gN σ 5 0) + 1)) (v := .int (nI ((gN σ 5 0) + 1))) (k := 5) hx hb ht xc_Md t_Md t_Md_ok n_Md hown hK hP hJ hw hS (moM (by decide)) rfl (by decide) fl_Md_109 rfl rfl rfl off_N rfl rfl rfl d_Md_action_85 (fun H locs hP hS => ?_)
            refine lv_aload_n hx hb d_Md_action_88 rfl (lv_at hl 0 rfl) ?_
            refine x_get (v := .int (nI ((gN σ 5 0) + 1))) (k := 5) hx hb ht xc_Md hown hK hP (moM (by decide)) rfl (by decide) fl_Md_109 rfl rfl rfl d_Md_action_89 ?_
            refine lv_iconst (v := (nI 1)) hx hb d_Md_action_92 (by decide) ?_
            refine x_isubN hx hb d_Md_action_93 (by omega) ?_
            refine W.eq (g2 := F0 mm 94 ls [.int (nI ((gN σ 5 0)))]) rfl ?_
            exact x_iret hx hb hr hlk hK hP hS d_Md_action_94 (by rw [if_pos (mAct_t (p := p) hM0 h1 hja hjb).1]) (mAct_t hM0 h1 hja hjb).2.symm
          · refine lv_iconst (v := ((-1))) hx hb d_Md_action_35 (by decide) ?_
            exact x_iret hx hb hr hlk hK hP hS d_Md_action_36 (by rw [if_neg (by unfold mActOk; simp [inR_bigL (show gN σ 5 0 < 2 ^ 31 by omega) h5])]) (by unfold mAct; rw [if_neg (by unfold mActOk; simp [inR_bigL (show gN σ 5 0 < 2 ^ 31 by omega) h5])])
set_option maxHeartbeats 4000000 in
set_option maxRecDepth 100000 in
theorem c_Md_ready (l : Launch) (D : va_G) (dA : Nat → ClassId) (ad : Nat → Nat) (hJ : Inj ad obM) (σ : Sg) (i : Nat) (B : Nat) (hWf : WfM B σ) (hi : i < 10) : CI l D clX (tyX dA) SM ad dA obM NL y_Md_ready w_Md_ready { frames := 0, cells := 0, slots := 0, locals := 0 } [.ref (ad 0), .int (nI i)] σ ((bI (mRdy σ i))) σ := by
  refine x_of (WS := WS) (cc := b_Md_ready) (maxL := 2) (ret := (some .boolean)) (by decide) rfl (Nat.le_of_ble_eq_true rfl) ?_
  intro pp ee ss mm below meth cdd hx hb hml hr hlk ht hown hnm hN hK hP ls hl
  have hl : lv_has ls 2 [(0, .ref (ad 0)), (1, .int (nI i))] := hl
  have hS : va_S (Ad ad obM) ss.heap ss.heap [] := va_S.rf
  have hw := swfM
  have hM0 := hWf.it
  have hM1 := hWf.ks
  have hM2 := hWf.bl
  have hM3 := hWf.wk
  have hM4 := hWf.bi
  have hM5 := hWf.qu
  have hM6 := hWf.tm
  have hM7 := hWf.la
  have hlf := hWf.lf i
  have hrg := hWf.rg i
  refine lv_aload_n hx hb d_Md_ready_0 rfl (lv_at hl 0 rfl) ?_
  refine x_get (v := .ref (ad 2)) (k := 6) hx hb ht xc_Md hown hK hP (moM (by decide)) rfl (by decide) fl_Md_13 rfl rfl rfl d_Md_ready_1 ?_
  refine lv_iload_n hx hb d_Md_ready_4 rfl (lv_at hl 1 rfl) ?_
  refine x_zald (κ := 101) (n := 10) hx hb hK hP (moM (by decide)) rfl (by decide) rfl rfl (by omega) (by omega) d_Md_ready_5 ?_
  refine x_ifeqB (tgt := 50) hx hb d_Md_ready_6 (by decide) (fun h1 => ?_) (fun h1 => ?_)
  · refine lv_iconst (v := (nI 0)) hx hb d_Md_ready_50 (by decide) ?_
    exact x_zret (b := false) hx hb hr hlk hK hP hS d_Md_ready_51 rfl (by simp [mRdy, h1]) rfl
  · refine lv_aload_n hx hb d_Md_ready_9 rfl (lv_at hl 0 rfl) ?_
    refine x_get (v := .ref (ad 6)) (k := 10) hx hb ht xc_Md hown hK hP (moM (by decide)) rfl (by decide) fl_Md_27 rfl rfl rfl d_Md_ready_10 ?_
    refine lv_iload_n hx hb d_Md_ready_13 rfl (lv_at hl 1 rfl) ?_
    refine x_zald (κ := 105) (n := 10) hx hb hK hP (moM (by decide)) rfl (by decide) rfl rfl (by omega) (by omega) d_Md_ready_14 ?_
    refine x_ifneB (tgt := 50) hx hb d_Md_ready_15 (by decide) (fun h2 => ?_) (fun h2 => ?_)
    · refine lv_iconst (v := (nI 0)) hx hb d_Md_ready_50 (by decide) ?_
      exact x_zret (b := false) hx hb hr hlk hK hP hS d_Md_ready_51 rfl (by simp [mRdy, h1, h2]) rfl
    · refine lv_aload_n hx hb d_Md_ready_18 rfl (lv_at hl 0 rfl) ?_
      refine x_get (v := .ref (ad 6)) (k := 10) hx hb ht xc_Md hown hK hP (moM (by decide)) rfl (by decide) fl_Md_27 rfl rfl rfl d_Md_ready_19 ?_
      refine lv_aload_n hx hb d_Md_ready_22 rfl (lv_at hl 0 rfl) ?_
      refine x_get (v := .ref (ad 4)) (k := 8) hx hb ht xc_Md hown hK hP (moM (by decide)) rfl (by decide) fl_Md_20 rfl rfl rfl d_Md_ready_23 ?_
      refine lv_iload_n hx hb d_Md_ready_26 rfl (lv_at hl 1 rfl) ?_
      refine x_nald (κ := 103) (n := 10) hx hb hK hP (moM (by decide)) rfl (by decide) rfl rfl (by omega) (by omega) d_Md_ready_27 ?_
      refine x_zald (κ := 105) (n := 10) hx hb hK hP (moM (by decide)) rfl (by decide) rfl rfl (by omega) (by omega) d_Md_ready_28 ?_
      refine x_ifeqB (tgt := 50) hx hb d_Md_ready_29 (by decide) (fun h3 => ?_) (fun h3 => ?_)
      · refine lv_iconst (v := (nI 0)) hx hb d_Md_ready_50 (by decide) ?_
        exact x_zret (b := false) hx hb hr hlk hK hP hS d_Md_ready_51 rfl (by simp [mRdy, h1, h2, h3]) rfl
      · refine lv_aload_n hx hb d_Md_ready_32 rfl (lv_at hl 0 rfl) ?_
        refine x_get (v := .ref (ad 6)) (k := 10) hx hb ht xc_Md hown hK hP (moM (by decide)) rfl (by decide) fl_Md_27 rfl rfl rfl d_Md_ready_33 ?_
        refine lv_aload_n hx hb d_Md_ready_36 rfl (lv_at hl 0 rfl) ?_
        refine x_get (v := .ref (ad 5)) (k := 9) hx hb ht xc_Md hown hK hP (moM (by decide)) rfl (by decide) fl_Md_24 rfl rfl rfl d_Md_ready_37 ?_
        refine lv_iload_n hx hb d_Md_ready_40 rfl (lv_at hl 1 rfl) ?_
        refine x_nald (κ := 104) (n := 10) hx hb hK hP (moM (by decide)) rfl (by decide) rfl rfl (by omega) (by omega) d_Md_ready_41 ?_
        refine x_zald (κ := 105) (n := 10) hx hb hK hP (moM (by decide)) rfl (by decide) rfl rfl (by omega) (by omega) d_Md_ready_42 ?_
        refine x_ifeqB (tgt := 50) hx hb d_Md_ready_43 (by decide) (fun h4 => ?_) (fun h4 => ?_)
        · refine lv_iconst (v := (nI 0)) hx hb d_Md_ready_50 (by decide) ?_
          exact x_zret (b := false) hx hb hr hlk hK hP hS d_Md_ready_51 rfl (by simp [mRdy, h1, h2, h3, h4]) rfl
        · refine lv_iconst (v := (nI 1)) hx hb d_Md_ready_46 (by decide) ?_
          refine lv_goto (tgt := 51) hx hb d_Md_ready_47 (by decide) ?_
          exact x_zret (b := true) hx hb hr hlk hK hP hS d_Md_ready_51 rfl (by simp [mRdy, h1, h2, h3, h4]) rfl
set_option maxHeartbeats 4000000 in
set_option maxRecDepth 100000 in
theorem c_Md_known (l : Launch) (D : va_G) (dA : Nat → ClassId) (ad : Nat → Nat) (hJ : Inj ad obM) (σ : Sg) (k : Int32) (B : Nat) (hWf : WfM B σ) : CI l D clX (tyX dA) SM ad dA obM NL y_Md_known w_Md_known { frames := 0, cells := 0, slots := 0, locals := 0 } [.ref (ad 0), .int k] σ ((bI (mKn σ k))) σ := by
  refine x_of (WS := WS) (cc := b_Md_known) (maxL := 2) (ret := (some .boolean)) (by decide) rfl (Nat.le_of_ble_eq_true rfl) ?_
  intro pp ee ss mm below meth cdd hx hb hml hr hlk ht hown hnm hN hK hP ls hl
  have hl : lv_has ls 2 [(0, .ref (ad 0)), (1, .int k)] := hl
  have hS : va_S (Ad ad obM) ss.heap ss.heap [] := va_S.rf
  have hw := swfM
  have hM0 := hWf.it
  have hM1 := hWf.ks
  have hM2 := hWf.bl
  have hM3 := hWf.wk
  have hM4 := hWf.bi
  have hM5 := hWf.qu
  have hM6 := hWf.tm
  have hM7 := hWf.la
  refine lv_iload_n hx hb d_Md_known_0 rfl (lv_at hl 1 rfl) ?_
  refine lv_if_lt (tgt := 25) hx hb d_Md_known_1 (by decide) (fun h1 => ?_) (fun h1 => ?_)
  · refine lv_iconst (v := (nI 0)) hx hb d_Md_known_25 (by decide) ?_
    exact x_zret (b := false) hx hb hr hlk hK hP hS d_Md_known_26 rfl (by unfold mKn; rw [inR_neg h1]; rfl) rfl
  · refine lv_iload_n hx hb d_Md_known_4 rfl (lv_at hl 1 rfl) ?_
    refine lv_aload_n hx hb d_Md_known_5 rfl (lv_at hl 0 rfl) ?_
    refine x_get (v := .int (nI (gN σ 5 0))) (k := 5) hx hb ht xc_Md hown hK hP (moM (by decide)) rfl (by decide) fl_Md_109 rfl rfl rfl d_Md_known_6 ?_
    refine lv_icmp_ge (tgt := 25) hx hb d_Md_known_9 (by decide) (fun h2 => ?_) (fun h2 => ?_)
    · refine lv_iconst (v := (nI 0)) hx hb d_Md_known_25 (by decide) ?_
      exact x_zret (b := false) hx hb hr hlk hK hP hS d_Md_known_26 rfl (by unfold mKn; rw [inR_big (by omega) h2]; rfl) rfl
    · obtain ⟨j, hj, rfl⟩ := inR_of (by omega) (inR_in (by omega) h1 h2)
      refine lv_aload_n hx hb d_Md_known_12 rfl (lv_at hl 0 rfl) ?_
      refine x_get (v := .ref (ad 6)) (k := 10) hx hb ht xc_Md hown hK hP (moM (by decide)) rfl (by decide) fl_Md_27 rfl rfl rfl d_Md_known_13 ?_
      refine lv_iload_n hx hb d_Md_known_16 rfl (lv_at hl 1 rfl) ?_
      refine x_zald (κ := 105) (n := 10) hx hb hK hP (moM (by decide)) rfl (by decide) rfl rfl (by omega) (by omega) d_Md_known_17 ?_
      refine x_ifeqB (tgt := 25) hx hb d_Md_known_18 (by decide) (fun h3 => ?_) (fun h3 => ?_)
      · refine lv_iconst (v := (nI 0)) hx hb d_Md_known_25 (by decide) ?_
        exact x_zret (b := false) hx hb hr hlk hK hP hS d_Md_known_26 rfl (by unfold mKn; rw [inR_in (by omega) h1 h2, nI_clamp (by omega), h3]; rfl) rfl
      · refine lv_iconst (v := (nI 1)) hx hb d_Md_known_21 (by decide) ?_
        refine lv_goto (tgt := 26) hx hb d_Md_known_22 (by decide) ?_
        exact x_zret (b := true) hx hb hr hlk hK hP hS d_Md_known_26 rfl (by unfold mKn; rw [inR_in (by omega) h1 h2, nI_clamp (by omega), h3]; rfl) rfl
set_option maxHeartbeats 4000000 in
set_option maxRecDepth 100000 in
theorem c_Md_content (l : Launch) (D : va_G) (dA : Nat → ClassId) (ad : Nat → Nat) (hJ : Inj ad obM) (σ : Sg) (k : Int32) (B : Nat) (hWf : WfM B σ) : CI l D clX (tyX dA) SM ad dA obM NL y_Md_content w_Md_content { frames := 1, cells := 0, slots := 0, locals := 21 } [.ref (ad 0), .int k] σ ((mCon σ k)) σ := by
  refine x_of (WS := WS) (cc := b_Md_content) (maxL := 2) (ret := (some .int)) (by decide) rfl (Nat.le_of_ble_eq_true rfl) ?_
  intro pp ee ss mm below meth cdd hx hb hml hr hlk ht hown hnm hN hK hP ls hl
  have hl : lv_has ls 2 [(0, .ref (ad 0)), (1, .int k)] := hl
  have hS : va_S (Ad ad obM) ss.heap ss.heap [] := va_S.rf
  have hw := swfM
  have hM0 := hWf.it
  have hM1 := hWf.ks
  have hM2 := hWf.bl
  have hM3 := hWf.wk
  have hM4 := hWf.bi
  have hM5 := hWf.qu
  have hM6 := hWf.tm
  have hM7 := hWf.la
  refine lv_aload_n hx hb d_Md_content_0 rfl (lv_at hl 0 rfl) ?_
  refine lv_iload_n hx hb d_Md_content_1 rfl (lv_at hl 1 rfl) ?_
  refine x_ci (x_rV (As := [.int k]) (rest := []) hx hb hml hown ht gW cs_Md_112 (c_Md_known l D dA ad hJ σ k B hWf) rfl rfl (by decide) xc_Md hN hK hP (moM (by decide)) rfl rfl hl.1 rfl (Nat.le_of_ble_eq_true rfl) d_Md_content_2 (by decide)) hS (fun H locs hP hS => ?_)
  refine x_ifeqB (tgt := 17) hx hb d_Md_content_5 (by decide) (fun h1 => ?_) (fun h1 => ?_)
  · refine lv_iconst (v := (nI 0)) hx hb d_Md_content_17 (by decide) ?_
    exact x_iret hx hb hr hlk hK hP hS d_Md_content_18 (by unfold mCon; rw [if_neg (by rw [h1]; decide)]) rfl
  · obtain ⟨j, hj, rfl⟩ := inR_of (by omega) (Bool.and_eq_true_iff.mp h1).1
    refine lv_aload_n hx hb d_Md_content_8 rfl (lv_at hl 0 rfl) ?_
    refine x_get (v := .ref (ad 7)) (k := 11) hx hb ht xc_Md hown hK hP (moM (by decide)) rfl (by decide) fl_Md_30 rfl rfl rfl d_Md_content_9 ?_
    refine lv_iload_n hx hb d_Md_content_12 rfl (lv_at hl 1 rfl) ?_
    refine x_iald (κ := 106) (n := 10) hx hb hK hP (moM (by decide)) rfl (by decide) rfl rfl (by omega) (by omega) d_Md_content_13 ?_
    refine lv_goto (tgt := 18) hx hb d_Md_content_14 (by decide) ?_
    exact x_iret hx hb hr hlk hK hP hS d_Md_content_18 (by unfold mCon; rw [if_pos h1, nI_clamp (by omega)]) rfl
set_option maxHeartbeats 4000000 in
set_option maxRecDepth 100000 in
theorem c_Md_key (l : Launch) (D : va_G) (dA : Nat → ClassId) (ad : Nat → Nat) (hJ : Inj ad obM) (σ : Sg) (i : Nat) (B : Nat) (hWf : WfM B σ) (hi : i < 10) (hc : fKey σ i = none → gN σ 14 0 < 10) : CI l D clX (tyX dA) SM ad dA obM NL y_Md_key w_Md_key { frames := 1, cells := 0, slots := 0, locals := 23 } [.ref (ad 0), .int (nI i)] σ ((nI (mKeyR σ i))) (mKeyS σ i) := by
  refine x_of (WS := WS) (cc := b_Md_key) (maxL := 5) (ret := (some .int)) (by decide) rfl (Nat.le_of_ble_eq_true rfl) ?_
  intro pp ee ss mm below meth cdd hx hb hml hr hlk ht hown hnm hN hK hP ls hl
  have hl : lv_has ls 5 [(0, .ref (ad 0)), (1, .int (nI i))] := hl
  have hS : va_S (Ad ad obM) ss.heap ss.heap [] := va_S.rf
  have hw := swfM
  have hM0 := hWf.it
  have hM1 := hWf.ks
  have hM2 := hWf.bl
  have hM3 := hWf.wk
  have hM4 := hWf.bi
  have hM5 := hWf.qu
  have hM6 := hWf.tm
  have hM7 := hWf.la
  have hlf := hWf.lf i
  have hrg := hWf.rg i
  refine lv_aload_n hx hb d_Md_key_0 rfl (lv_at hl 0 rfl) ?_
  refine lv_aload_n hx hb d_Md_key_1 rfl (lv_at hl 0 rfl) ?_
  refine x_get (v := .ref (ad 7)) (k := 11) hx hb ht xc_Md hown hK hP (moM (by decide)) rfl (by decide) fl_Md_30 rfl rfl rfl d_Md_key_2 ?_
  refine lv_aload_n hx hb d_Md_key_5 rfl (lv_at hl 0 rfl) ?_
  refine x_get (v := .ref (ad 4)) (k := 8) hx hb ht xc_Md hown hK hP (moM (by decide)) rfl (by decide) fl_Md_20 rfl rfl rfl d_Md_key_6 ?_
  refine lv_iload_n hx hb d_Md_key_9 rfl (lv_at hl 1 rfl) ?_
  refine x_nald (κ := 103) (n := 10) hx hb hK hP (moM (by decide)) rfl (by decide) rfl rfl (by omega) (by omega) d_Md_key_10 ?_
  refine x_iald (κ := 106) (n := 10) hx hb hK hP (moM (by decide)) rfl (by decide) rfl rfl (by omega) (by omega) d_Md_key_11 ?_
  refine x_ci (x_rV (As := [.int (gI σ 106 (gN σ 103 i))]) (rest := []) hx hb hml hown ht gW cs_Md_118 (c_Md_digest l D dA ad hJ σ (gI σ 106 (gN σ 103 i))) rfl rfl (by decide) xc_Md hN hK hP (moM (by decide)) rfl rfl hl.1 rfl (Nat.le_of_ble_eq_true rfl) d_Md_key_12 (by decide)) hS (fun H locs hP hS => ?_)
  refine lv_istore_n (lv' := [(2, .int (dg (gI σ 106 (gN σ 103 i)))), (0, .ref (ad 0)), (1, .int (nI i))]) hx hb d_Md_key_15 rfl hl (by decide) rfl (fun ls hl => ?_)
  refine lv_aload_n hx hb d_Md_key_16 rfl (lv_at hl 1 rfl) ?_
  refine lv_aload_n hx hb d_Md_key_17 rfl (lv_at hl 1 rfl) ?_
  refine x_get (v := .ref (ad 7)) (k := 11) hx hb ht xc_Md hown hK hP (moM (by decide)) rfl (by decide) fl_Md_30 rfl rfl rfl d_Md_key_18 ?_
  refine lv_aload_n hx hb d_Md_key_21 rfl (lv_at hl 1 rfl) ?_
  refine x_get (v := .ref (ad 5)) (k := 9) hx hb ht xc_Md hown hK hP (moM (by decide)) rfl (by decide) fl_Md_24 rfl rfl rfl d_Md_key_22 ?_
  refine lv_iload_n hx hb d_Md_key_25 rfl (lv_at hl 2 rfl) ?_
  refine x_nald (κ := 104) (n := 10) hx hb hK hP (moM (by decide)) rfl (by decide) rfl rfl (by omega) (by omega) d_Md_key_26 ?_
  refine x_iald (κ := 106) (n := 10) hx hb hK hP (moM (by decide)) rfl (by decide) rfl rfl (by omega) (by omega) d_Md_key_27 ?_
  refine x_ci (x_rV (As := [.int (gI σ 106 (gN σ 104 i))]) (rest := []) hx hb hml hown ht gW cs_Md_118 (c_Md_digest l D dA ad hJ σ (gI σ 106 (gN σ 104 i))) rfl rfl (by decide) xc_Md hN hK hP (moM (by decide)) rfl rfl hl.1 rfl (Nat.le_of_ble_eq_true rfl) d_Md_key_28 (by decide)) hS (fun H locs hP hS => ?_)
  refine lv_istore_n (lv' := [(3, .int (dg (gI σ 106 (gN σ 104 i)))), (2, .int (dg (gI σ 106 (gN σ 103 i)))), (0, .ref (ad 0)), (1, .int (nI i))]) hx hb d_Md_key_31 rfl hl (by decide) rfl (fun ls hl => ?_)
  refine lv_iconst (v := (nI 0)) hx hb d_Md_key_32 (by decide) ?_
  refine lv_istore (lv' := [(4, .int (nI 0)), (3, .int (dg (gI σ 106 (gN σ 104 i)))), (2, .int (dg (gI σ 106 (gN σ 103 i)))), (0, .ref (ad 0)), (1, .int (nI i))]) hx hb d_Md_key_33 hl (by decide) rfl (fun ls hl => ?_)
  refine x_loop (pc := 35) (α := Nat) (nL := 5) (fun k => gN σ 14 0 - k) (fun k => σ) (fun k => [(4, .int (nI k)), (3, .int (dg (gI σ 106 (gN σ 104 i)))), (2, .int (dg (gI σ 106 (gN σ 103 i)))), (1, .int (nI i)), (0, .ref (ad 0))]) (fun k => k ≤ gN σ 14 0 ∧ ∀ j, j < k → (fun k => decide (mK3 σ k = mIK σ i)) j = false) ?_ 0 ⟨Nat.zero_le _, fun j hj => absurd hj (Nat.not_lt_zero j)⟩ hP hS (lv_sub hl [0, 1, 2, 4, 3] rfl)
  clear hP hS hl
  intro k ⟨hk, h0⟩ H locs ls hP hS hl ih
  have hk : k ≤ gN σ 14 0 := hk
  have hl : lv_has ls 5 [(4, .int (nI k)), (3, .int (dg (gI σ 106 (gN σ 104 i)))), (2, .int (dg (gI σ 106 (gN σ 103 i)))), (1, .int (nI i)), (0, .ref (ad 0))] := hl
  have hP : va_P D clX (wd SM ad dA obM σ) H := hP
  refine lv_iload hx hb d_Md_key_35 (lv_at hl 0 rfl) ?_
  refine lv_aload_n hx hb d_Md_key_37 rfl (lv_at hl 4 rfl) ?_
  refine x_get (v := .int (nI (gN σ 14 0))) (k := 14) hx hb ht xc_Md hown hK hP (moM (by decide)) rfl (by decide) fl_Md_122 rfl rfl rfl d_Md_key_38 ?_
  refine x_icmp_geN (tgt := 92) hx hb d_Md_key_41 (by decide) (by omega) (by omega) (fun h1 => ?_) (fun h1 => ?_)
  · have hfn : fKey σ i = none := fnd_none (fun j hj => h0 j (by omega))
    have hc9 := hc hfn
    refine lv_aload_n hx hb d_Md_key_92 rfl (lv_at hl 4 rfl) ?_
    refine x_get (v := .ref (ad 10)) (k := 15) hx hb ht xc_Md hown hK hP (moM (by decide)) rfl (by decide) fl_Md_39 rfl rfl rfl d_Md_key_93 ?_
    refine lv_aload_n hx hb d_Md_key_96 rfl (lv_at hl 4 rfl) ?_
    refine x_get (v := .int (nI (gN σ 14 0))) (k := 14) hx hb ht xc_Md hown hK hP (moM (by decide)) rfl (by decide) fl_Md_122 rfl rfl rfl d_Md_key_97 ?_
    refine lv_aload_n hx hb d_Md_key_100 rfl (lv_at hl 4 rfl) ?_
    refine x_get (v := .ref (ad 3)) (k := 7) hx hb ht xc_Md hown hK hP (moM (by decide)) rfl (by decide) fl_Md_16 rfl rfl rfl d_Md_key_101 ?_
    refine lv_iload_n hx hb d_Md_key_104 rfl (lv_at hl 3 rfl) ?_
    refine x_lald (κ := 102) (n := 10) hx hb hK hP (moM (by decide)) rfl (by decide) rfl rfl (by omega) (by omega) d_Md_key_105 ?_
    refine x_last (κ := 109) (n := 10) (x := gJ σ 102 i) hx hb hK hP hJ hw hS (moM (by decide)) rfl (by decide) rfl rfl (by omega) (by omega) d_Md_key_106 (fun H locs hP hS => ?_)
    have hWf : WfM B (sJ σ 109 (gN σ 14 0) (gJ σ 102 i)) := wfm_J hWf
    refine lv_aload_n hx hb d_Md_key_107 rfl (lv_at hl 4 rfl) ?_
    refine x_get (v := .ref (ad 11)) (k := 16) hx hb ht xc_Md hown hK hP (moM (by decide)) rfl (by decide) fl_Md_42 rfl rfl rfl d_Md_key_108 ?_
    refine lv_aload_n hx hb d_Md_key_111 rfl (lv_at hl 4 rfl) ?_
    refine x_get (v := .int (nI (gN σ 14 0))) (k := 14) hx hb ht xc_Md hown hK hP (moM (by decide)) rfl (by decide) fl_Md_122 rfl rfl rfl d_Md_key_112 ?_
    refine lv_iload_n hx hb d_Md_key_115 rfl (lv_at hl 2 rfl) ?_
    refine x_iast (κ := 110) (n := 10) (x := dg (gI σ 106 (gN σ 103 i))) hx hb hK hP hJ hw hS (moM (by decide)) rfl (by decide) rfl rfl (by omega) (by omega) d_Md_key_116 (fun H locs hP hS => ?_)
    have hWf : WfM B (sI (sJ σ 109 (gN σ 14 0) (gJ σ 102 i)) 110 (gN σ 14 0) (dg (gI σ 106 (gN σ 103 i)))) := wfm_I hWf
    refine lv_aload_n hx hb d_Md_key_117 rfl (lv_at hl 4 rfl) ?_
    refine x_get (v := .ref (ad 12)) (k := 17) hx hb ht xc_Md hown hK hP (moM (by decide)) rfl (by decide) fl_Md_45 rfl rfl rfl d_Md_key_118 ?_
    refine lv_aload_n hx hb d_Md_key_121 rfl (lv_at hl 4 rfl) ?_
    refine x_get (v := .int (nI (gN σ 14 0))) (k := 14) hx hb ht xc_Md hown hK hP (moM (by decide)) rfl (by decide) fl_Md_122 rfl rfl rfl d_Md_key_122 ?_
    refine lv_iload_n hx hb d_Md_key_125 rfl (lv_at hl 1 rfl) ?_
    refine x_iast (κ := 111) (n := 10) (x := dg (gI σ 106 (gN σ 104 i))) hx hb hK hP hJ hw hS (moM (by decide)) rfl (by decide) rfl rfl (by omega) (by omega) d_Md_key_126 (fun H locs hP hS => ?_)
    have hWf : WfM B (sI (sI (sJ σ 109 (gN σ 14 0) (gJ σ 102 i)) 110 (gN σ 14 0) (dg (gI σ 106 (gN σ 103 i)))) 111 (gN σ 14 0) (dg (gI σ 106 (gN σ 104 i)))) := wfm_I hWf
    refine lv_aload_n hx hb d_Md_key_127 rfl (lv_at hl 4 rfl) ?_
    refine lv_dup hx hb d_Md_key_128 rfl ?_
    refine x_get (v := .int (nI (gN σ 14 0))) (k := 14) hx hb ht xc_Md hown hK hP (moM (by decide)) rfl (by decide) fl_Md_122 rfl rfl rfl d_Md_key_129 ?_
    refine lv_iconst (v := (nI 1)) hx hb d_Md_key_132 (by decide) ?_
    refine x_iaddN hx hb d_Md_key_133 ?_
    refine x_put (σ' := sN (sI (sI (sJ σ 109 (gN σ 14 0) (gJ σ 102 i)) 110 (gN σ 14 0) (dg (gI σ 106 (gN σ 103 i)))) 111 (gN σ 14 0) (dg (gI σ 106 (gN σ 104 i)))) 14 0 ((gN σ 14 0) + 1)) (v := .int (nI ((gN σ 14 0) + 1))) (k := 14) hx hb ht xc_Md t_Md t_Md_ok n_Md hown hK hP hJ hw hS (moM (by decide)) rfl (by decide) fl_Md_122 rfl rfl rfl off_N rfl rfl rfl d_Md_key_134 (fun H locs hP hS => ?_)
    refine lv_aload_n hx hb d_Md_key_137 rfl (lv_at hl 4 rfl) ?_
    refine x_get (v := .int (nI ((gN σ 14 0) + 1))) (k := 14) hx hb ht xc_Md hown hK hP (moM (by decide)) rfl (by decide) fl_Md_122 rfl rfl rfl d_Md_key_138 ?_
    refine lv_iconst (v := (nI 1)) hx hb d_Md_key_141 (by decide) ?_
    refine x_isubN hx hb d_Md_key_142 (by omega) ?_
    refine W.eq (g2 := F0 mm 143 ls [.int (nI ((gN σ 14 0)))]) rfl ?_
    exact x_iret hx hb hr hlk hK hP hS d_Md_key_143 (by unfold mKeyR; rw [hfn]; rfl) (by unfold mKeyS; rw [hfn])
  · refine lv_aload_n hx hb d_Md_key_44 rfl (lv_at hl 4 rfl) ?_
    refine x_get (v := .ref (ad 10)) (k := 15) hx hb ht xc_Md hown hK hP (moM (by decide)) rfl (by decide) fl_Md_39 rfl rfl rfl d_Md_key_45 ?_
    refine lv_iload hx hb d_Md_key_48 (lv_at hl 0 rfl) ?_
    refine x_lald (κ := 109) (n := 10) hx hb hK hP (moM (by decide)) rfl (by decide) rfl rfl (by omega) (by omega) d_Md_key_50 ?_
    refine lv_aload_n hx hb d_Md_key_51 rfl (lv_at hl 4 rfl) ?_
    refine x_get (v := .ref (ad 3)) (k := 7) hx hb ht xc_Md hown hK hP (moM (by decide)) rfl (by decide) fl_Md_16 rfl rfl rfl d_Md_key_52 ?_
    refine lv_iload_n hx hb d_Md_key_55 rfl (lv_at hl 3 rfl) ?_
    refine x_lald (κ := 102) (n := 10) hx hb hK hP (moM (by decide)) rfl (by decide) rfl rfl (by omega) (by omega) d_Md_key_56 ?_
    refine W.lcmp hx hb d_Md_key_57 ?_
    refine x_lc_ne (tgt := 86) hx hb d_Md_key_58 (by decide) (fun h2 => ?_) (fun h2 => ?_)
    · refine lv_iinc (lv' := [(4, .int (nI (k + 1))), (3, .int (dg (gI σ 106 (gN σ 104 i)))), (2, .int (dg (gI σ 106 (gN σ 103 i)))), (1, .int (nI i)), (0, .ref (ad 0))]) (v := (nI (k + 1))) hx hb d_Md_key_86 hl (k := 0) rfl (nI_add _ _) (by decide) rfl (fun ls hl => ?_)
      refine lv_goto (tgt := 35) hx hb d_Md_key_89 (by decide) ?_
      exact ih (k + 1) ⟨by omega, lt_s h0 (by simp [mK3, mIK, h2])⟩ (by omega) H locs ls hP hS (lv_sub hl [0, 1, 2, 3, 4] rfl)
    · refine lv_aload_n hx hb d_Md_key_61 rfl (lv_at hl 4 rfl) ?_
      refine x_get (v := .ref (ad 11)) (k := 16) hx hb ht xc_Md hown hK hP (moM (by decide)) rfl (by decide) fl_Md_42 rfl rfl rfl d_Md_key_62 ?_
      refine lv_iload hx hb d_Md_key_65 (lv_at hl 0 rfl) ?_
      refine x_iald (κ := 110) (n := 10) hx hb hK hP (moM (by decide)) rfl (by decide) rfl rfl (by omega) (by omega) d_Md_key_67 ?_
      refine lv_iload_n hx hb d_Md_key_68 rfl (lv_at hl 2 rfl) ?_
      refine lv_icmp_ne (tgt := 86) hx hb d_Md_key_69 (by decide) (fun h3 => ?_) (fun h3 => ?_)
      · refine lv_iinc (lv' := [(4, .int (nI (k + 1))), (3, .int (dg (gI σ 106 (gN σ 104 i)))), (2, .int (dg (gI σ 106 (gN σ 103 i)))), (1, .int (nI i)), (0, .ref (ad 0))]) (v := (nI (k + 1))) hx hb d_Md_key_86 hl (k := 0) rfl (nI_add _ _) (by decide) rfl (fun ls hl => ?_)
        refine lv_goto (tgt := 35) hx hb d_Md_key_89 (by decide) ?_
        exact ih (k + 1) ⟨by omega, lt_s h0 (by simp [mK3, mIK, h2, h3])⟩ (by omega) H locs ls hP hS (lv_sub hl [0, 1, 2, 3, 4] rfl)
      · refine lv_aload_n hx hb d_Md_key_72 rfl (lv_at hl 4 rfl) ?_
        refine x_get (v := .ref (ad 12)) (k := 17) hx hb ht xc_Md hown hK hP (moM (by decide)) rfl (by decide) fl_Md_45 rfl rfl rfl d_Md_key_73 ?_
        refine lv_iload hx hb d_Md_key_76 (lv_at hl 0 rfl) ?_
        refine x_iald (κ := 111) (n := 10) hx hb hK hP (moM (by decide)) rfl (by decide) rfl rfl (by omega) (by omega) d_Md_key_78 ?_
        refine lv_iload_n hx hb d_Md_key_79 rfl (lv_at hl 1 rfl) ?_
        refine lv_icmp_ne (tgt := 86) hx hb d_Md_key_80 (by decide) (fun h4 => ?_) (fun h4 => ?_)
        · refine lv_iinc (lv' := [(4, .int (nI (k + 1))), (3, .int (dg (gI σ 106 (gN σ 104 i)))), (2, .int (dg (gI σ 106 (gN σ 103 i)))), (1, .int (nI i)), (0, .ref (ad 0))]) (v := (nI (k + 1))) hx hb d_Md_key_86 hl (k := 0) rfl (nI_add _ _) (by decide) rfl (fun ls hl => ?_)
          refine lv_goto (tgt := 35) hx hb d_Md_key_89 (by decide) ?_
          exact ih (k + 1) ⟨by omega, lt_s h0 (by simp [mK3, mIK, h2, h3, h4])⟩ (by omega) H locs ls hP hS (lv_sub hl [0, 1, 2, 3, 4] rfl)
        · refine lv_iload hx hb d_Md_key_83 (lv_at hl 0 rfl) ?_
          exact x_iret hx hb hr hlk hK hP hS d_Md_key_85 (by unfold mKeyR fKey; rw [fnd_some (by omega) (by simp [mK3, mIK, h2, h3, h4]) h0]; rfl) (by unfold mKeyS fKey; rw [fnd_some (by omega) (by simp [mK3, mIK, h2, h3, h4]) h0])
set_option maxHeartbeats 4000000 in
set_option maxRecDepth 100000 in
theorem c_Md_send (l : Launch) (D : va_G) (dA : Nat → ClassId) (ad : Nat → Nat) (hJ : Inj ad obM) (σ : Sg) (a : Nat) (b : Nat) (k : Nat) (i9 : Nat) (c : Int32) (d : Int32) (g : Int32) (B : Nat) (hWf : WfM B σ) (hB : B < 2 ^ 30) : CV l D clX (tyX dA) SM ad dA obM NL y_Md_send w_Md_send { frames := 0, cells := 0, slots := 0, locals := 0 } [.ref (ad 0), .int (nI a), .int (nI b), .int (nI k), .int (nI i9), .int c, .int d, .int g] σ (mSend σ a b k i9 c d g) := by
  refine x_of (WS := WS) (cc := b_Md_send) (maxL := 10) (ret := none) (by decide) rfl (Nat.le_of_ble_eq_true rfl) ?_
  intro pp ee ss mm below meth cdd hx hb hml hr hlk ht hown hnm hN hK hP ls hl
  have hl : lv_has ls 10 [(0, .ref (ad 0)), (1, .int (nI a)), (2, .int (nI b)), (3, .int (nI k)), (4, .int (nI i9)), (5, .int c), (6, .int d), (7, .int g)] := hl
  have hS : va_S (Ad ad obM) ss.heap ss.heap [] := va_S.rf
  have hw := swfM
  refine lv_aload_n hx hb d_Md_send_0 rfl (lv_at hl 0 rfl) ?_
  refine lv_dup hx hb d_Md_send_1 rfl ?_
  refine x_get (v := .int (nI (gN σ 34 0))) (k := 34) hx hb ht xc_Md hown hK hP (moM (by decide)) rfl (by decide) fl_Md_125 rfl rfl rfl d_Md_send_2 ?_
  refine lv_iconst (v := (nI 1)) hx hb d_Md_send_5 (by decide) ?_
  refine x_iaddN hx hb d_Md_send_6 ?_
  refine x_put (σ' := sN σ 34 0 ((gN σ 34 0) + 1)) (v := .int (nI ((gN σ 34 0) + 1))) (k := 34) hx hb ht xc_Md t_Md t_Md_ok n_Md hown hK hP hJ hw hS (moM (by decide)) rfl (by decide) fl_Md_125 rfl rfl rfl off_N rfl rfl rfl d_Md_send_7 (fun H locs hP hS => ?_)
  refine lv_iconst (v := ((-1))) hx hb d_Md_send_10 (by decide) ?_
  refine lv_istore (lv' := [(8, .int ((-1))), (0, .ref (ad 0)), (1, .int (nI a)), (2, .int (nI b)), (3, .int (nI k)), (4, .int (nI i9)), (5, .int c), (6, .int d), (7, .int g)]) hx hb d_Md_send_11 hl (by decide) rfl (fun ls hl => ?_)
  refine lv_iconst (v := (nI 0)) hx hb d_Md_send_13 (by decide) ?_
  refine lv_istore (lv' := [(9, .int (nI 0)), (8, .int ((-1))), (0, .ref (ad 0)), (1, .int (nI a)), (2, .int (nI b)), (3, .int (nI k)), (4, .int (nI i9)), (5, .int c), (6, .int d), (7, .int g)]) hx hb d_Md_send_14 hl (by decide) rfl (fun ls hl => ?_)
  refine x_loop (pc := 16) (α := Nat) (nL := 10) (fun i => 24 - i) (fun i => sN σ 34 0 ((gN σ 34 0) + 1)) (fun i => [(9, .int (nI i)), (8, .int (oI (lst (fun s => decide (gN σ 122 s = 0)) i))), (1, .int (nI a)), (2, .int (nI b)), (3, .int (nI k)), (4, .int (nI i9)), (5, .int c), (6, .int d), (7, .int g), (0, .ref (ad 0))]) (fun i => i ≤ 24) ?_ 0 (by decide) hP hS (lv_sub hl [0, 1, 3, 4, 5, 6, 7, 8, 9, 2] rfl)
  clear hP hS hl
  intro i hi H locs ls hP hS hl ih
  have hi : i ≤ 24 := hi
  have hl : lv_has ls 10 [(9, .int (nI i)), (8, .int (oI (lst (fun s => decide (gN σ 122 s = 0)) i))), (1, .int (nI a)), (2, .int (nI b)), (3, .int (nI k)), (4, .int (nI i9)), (5, .int c), (6, .int d), (7, .int g), (0, .ref (ad 0))] := hl
  have hP : va_P D clX (wd SM ad dA obM (sN σ 34 0 ((gN σ 34 0) + 1))) H := hP
  refine lv_iload hx hb d_Md_send_16 (lv_at hl 0 rfl) ?_
  refine lv_bipush (v := (nI 24)) hx hb d_Md_send_18 (by decide) ?_
  refine x_icmp_geN (tgt := 48) hx hb d_Md_send_20 (by decide) (by omega) (by decide) (fun h1 => ?_) (fun h1 => ?_)
  · obtain rfl : i = 24 := by omega
    have hl : lv_has ls 10 [(9, .int (nI 24)), (8, .int (oI (frS σ))), (1, .int (nI a)), (2, .int (nI b)), (3, .int (nI k)), (4, .int (nI i9)), (5, .int c), (6, .int d), (7, .int g), (0, .ref (ad 0))] := hl
    refine lv_iload hx hb d_Md_send_48 (lv_at hl 1 rfl) ?_
    refine x_if_geO (n := 24) (tgt := 54) hx hb d_Md_send_50 (by decide) ⟨fun _ h => (lst_lt h).1, by decide⟩ (fun j1 h2 hl1 => ?_) (fun h2 => ?_)
    · rw [h2] at hl
      have hl : lv_has ls 10 [(9, .int (nI 24)), (8, .int (nI j1)), (1, .int (nI a)), (2, .int (nI b)), (3, .int (nI k)), (4, .int (nI i9)), (5, .int c), (6, .int d), (7, .int g), (0, .ref (ad 0))] := hl
      refine lv_aload_n hx hb d_Md_send_54 rfl (lv_at hl 9 rfl) ?_
      refine lv_dup hx hb d_Md_send_55 rfl ?_
      refine x_get (v := .int (nI (gN σ 33 0))) (k := 33) hx hb ht xc_Md hown hK hP (moM (by decide)) rfl (by decide) fl_Md_128 rfl rfl rfl d_Md_send_56 ?_
      refine lv_iconst (v := (nI 1)) hx hb d_Md_send_59 (by decide) ?_
      refine x_iaddN hx hb d_Md_send_60 ?_
      refine x_put (σ' := sN (sN σ 34 0 ((gN σ 34 0) + 1)) 33 0 ((gN σ 33 0) + 1)) (v := .int (nI ((gN σ 33 0) + 1))) (k := 33) hx hb ht xc_Md t_Md t_Md_ok n_Md hown hK hP hJ hw hS (moM (by decide)) rfl (by decide) fl_Md_128 rfl rfl rfl off_N rfl rfl rfl d_Md_send_61 (fun H locs hP hS => ?_)
      refine lv_aload_n hx hb d_Md_send_64 rfl (lv_at hl 9 rfl) ?_
      refine x_get (v := .ref (ad 23)) (k := 35) hx hb ht xc_Md hown hK hP (moM (by decide)) rfl (by decide) fl_Md_78 rfl rfl rfl d_Md_send_65 ?_
      refine lv_iload hx hb d_Md_send_68 (lv_at hl 1 rfl) ?_
      refine lv_aload_n hx hb d_Md_send_70 rfl (lv_at hl 9 rfl) ?_
      refine x_get (v := .int (nI ((gN σ 33 0) + 1))) (k := 33) hx hb ht xc_Md hown hK hP (moM (by decide)) rfl (by decide) fl_Md_128 rfl rfl rfl d_Md_send_71 ?_
      refine x_nast (κ := 122) (n := 24) (x := (gN σ 33 0) + 1) hx hb hK hP hJ hw hS (moM (by decide)) rfl (by decide) rfl rfl (by omega) (by omega) d_Md_send_74 (fun H locs hP hS => ?_)
      refine lv_aload_n hx hb d_Md_send_75 rfl (lv_at hl 9 rfl) ?_
      refine x_get (v := .ref (ad 24)) (k := 36) hx hb ht xc_Md hown hK hP (moM (by decide)) rfl (by decide) fl_Md_81 rfl rfl rfl d_Md_send_76 ?_
      refine lv_iload hx hb d_Md_send_79 (lv_at hl 1 rfl) ?_
      refine lv_iload_n hx hb d_Md_send_81 rfl (lv_at hl 2 rfl) ?_
      refine x_nast (κ := 123) (n := 24) (x := a) hx hb hK hP hJ hw hS (moM (by decide)) rfl (by decide) rfl rfl (by omega) (by omega) d_Md_send_82 (fun H locs hP hS => ?_)
      refine lv_aload_n hx hb d_Md_send_83 rfl (lv_at hl 9 rfl) ?_
      refine x_get (v := .ref (ad 25)) (k := 37) hx hb ht xc_Md hown hK hP (moM (by decide)) rfl (by decide) fl_Md_84 rfl rfl rfl d_Md_send_84 ?_
      refine lv_iload hx hb d_Md_send_87 (lv_at hl 1 rfl) ?_
      refine lv_iload_n hx hb d_Md_send_89 rfl (lv_at hl 3 rfl) ?_
      refine x_nast (κ := 124) (n := 24) (x := b) hx hb hK hP hJ hw hS (moM (by decide)) rfl (by decide) rfl rfl (by omega) (by omega) d_Md_send_90 (fun H locs hP hS => ?_)
      refine lv_aload_n hx hb d_Md_send_91 rfl (lv_at hl 9 rfl) ?_
      refine x_get (v := .ref (ad 26)) (k := 38) hx hb ht xc_Md hown hK hP (moM (by decide)) rfl (by decide) fl_Md_87 rfl rfl rfl d_Md_send_92 ?_
      refine lv_iload hx hb d_Md_send_95 (lv_at hl 1 rfl) ?_
      refine lv_iload_n hx hb d_Md_send_97 rfl (lv_at hl 4 rfl) ?_
      refine x_nast (κ := 125) (n := 24) (x := k) hx hb hK hP hJ hw hS (moM (by decide)) rfl (by decide) rfl rfl (by omega) (by omega) d_Md_send_98 (fun H locs hP hS => ?_)
      refine lv_aload_n hx hb d_Md_send_99 rfl (lv_at hl 9 rfl) ?_
      refine x_get (v := .ref (ad 27)) (k := 39) hx hb ht xc_Md hown hK hP (moM (by decide)) rfl (by decide) fl_Md_90 rfl rfl rfl d_Md_send_100 ?_
      refine lv_iload hx hb d_Md_send_103 (lv_at hl 1 rfl) ?_
      refine lv_iload hx hb d_Md_send_105 (lv_at hl 5 rfl) ?_
      refine x_nast (κ := 126) (n := 24) (x := i9) hx hb hK hP hJ hw hS (moM (by decide)) rfl (by decide) rfl rfl (by omega) (by omega) d_Md_send_107 (fun H locs hP hS => ?_)
      refine lv_aload_n hx hb d_Md_send_108 rfl (lv_at hl 9 rfl) ?_
      refine x_get (v := .ref (ad 28)) (k := 40) hx hb ht xc_Md hown hK hP (moM (by decide)) rfl (by decide) fl_Md_93 rfl rfl rfl d_Md_send_109 ?_
      refine lv_iload hx hb d_Md_send_112 (lv_at hl 1 rfl) ?_
      refine lv_iload hx hb d_Md_send_114 (lv_at hl 6 rfl) ?_
      refine x_iast (κ := 127) (n := 24) (x := c) hx hb hK hP hJ hw hS (moM (by decide)) rfl (by decide) rfl rfl (by omega) (by omega) d_Md_send_116 (fun H locs hP hS => ?_)
      refine lv_aload_n hx hb d_Md_send_117 rfl (lv_at hl 9 rfl) ?_
      refine x_get (v := .ref (ad 29)) (k := 41) hx hb ht xc_Md hown hK hP (moM (by decide)) rfl (by decide) fl_Md_96 rfl rfl rfl d_Md_send_118 ?_
      refine lv_iload hx hb d_Md_send_121 (lv_at hl 1 rfl) ?_
      refine lv_iload hx hb d_Md_send_123 (lv_at hl 7 rfl) ?_
      refine x_iast (κ := 128) (n := 24) (x := d) hx hb hK hP hJ hw hS (moM (by decide)) rfl (by decide) rfl rfl (by omega) (by omega) d_Md_send_125 (fun H locs hP hS => ?_)
      refine lv_aload_n hx hb d_Md_send_126 rfl (lv_at hl 9 rfl) ?_
      refine x_get (v := .ref (ad 30)) (k := 42) hx hb ht xc_Md hown hK hP (moM (by decide)) rfl (by decide) fl_Md_99 rfl rfl rfl d_Md_send_127 ?_
      refine lv_iload hx hb d_Md_send_130 (lv_at hl 1 rfl) ?_
      refine lv_iload hx hb d_Md_send_132 (lv_at hl 8 rfl) ?_
      refine x_iast (κ := 129) (n := 24) (x := g) hx hb hK hP hJ hw hS (moM (by decide)) rfl (by decide) rfl rfl (by omega) (by omega) d_Md_send_134 (fun H locs hP hS => ?_)
      exact x_vret hx hb hr hlk hK hP hS d_Md_send_135 (by unfold mSend; rw [h2])
    · exact x_vret hx hb hr hlk hK hP hS d_Md_send_53 (by unfold mSend; rw [h2])
  · refine lv_aload_n hx hb d_Md_send_23 rfl (lv_at hl 9 rfl) ?_
    refine x_get (v := .ref (ad 23)) (k := 35) hx hb ht xc_Md hown hK hP (moM (by decide)) rfl (by decide) fl_Md_78 rfl rfl rfl d_Md_send_24 ?_
    refine lv_iload hx hb d_Md_send_27 (lv_at hl 0 rfl) ?_
    refine x_nald (κ := 122) (n := 24) hx hb hK hP (moM (by decide)) rfl (by decide) rfl rfl (by omega) (by omega) d_Md_send_29 ?_
    rw [show gN (sN σ 34 0 ((gN σ 34 0) + 1)) 122 i = gN σ 122 i from rfl]
    refine x_if_neN (tgt := 38) hx hb d_Md_send_30 (by decide) (Nat.lt_of_le_of_lt (hWf.bo _) (by omega)) (fun h3 => ?_) (fun h3 => ?_)
    · refine lv_iload hx hb d_Md_send_38 (lv_at hl 1 rfl) ?_
      refine lv_istore (lv' := [(8, .int (oI (lst (fun s => decide (gN σ 122 s = 0)) i))), (9, .int (nI i)), (1, .int (nI a)), (2, .int (nI b)), (3, .int (nI k)), (4, .int (nI i9)), (5, .int c), (6, .int d), (7, .int g), (0, .ref (ad 0))]) hx hb d_Md_send_40 hl (by decide) rfl (fun ls hl => ?_)
      refine lv_iinc (lv' := [(9, .int (nI (i + 1))), (8, .int (oI (lst (fun s => decide (gN σ 122 s = 0)) i))), (1, .int (nI a)), (2, .int (nI b)), (3, .int (nI k)), (4, .int (nI i9)), (5, .int c), (6, .int d), (7, .int g), (0, .ref (ad 0))]) (v := (nI (i + 1))) hx hb d_Md_send_42 hl (k := 1) rfl (nI_add _ _) (by decide) rfl (fun ls hl => ?_)
      refine lv_goto (tgt := 16) hx hb d_Md_send_45 (by decide) ?_
      exact ih (i + 1) (by show i + 1 ≤ 24; omega) (by omega) H locs ls hP hS (lv_sub hl [0, 1, 2, 3, 4, 5, 6, 7, 8, 9] (by simp [lv_pick, lst, oI, Nat.ne_of_gt h3]))
    · refine lv_iload hx hb d_Md_send_33 (lv_at hl 0 rfl) ?_
      refine lv_goto (tgt := 40) hx hb d_Md_send_35 (by decide) ?_
      refine lv_istore (lv' := [(8, .int (nI i)), (9, .int (nI i)), (1, .int (nI a)), (2, .int (nI b)), (3, .int (nI k)), (4, .int (nI i9)), (5, .int c), (6, .int d), (7, .int g), (0, .ref (ad 0))]) hx hb d_Md_send_40 hl (by decide) rfl (fun ls hl => ?_)
      refine lv_iinc (lv' := [(9, .int (nI (i + 1))), (8, .int (nI i)), (1, .int (nI a)), (2, .int (nI b)), (3, .int (nI k)), (4, .int (nI i9)), (5, .int c), (6, .int d), (7, .int g), (0, .ref (ad 0))]) (v := (nI (i + 1))) hx hb d_Md_send_42 hl (k := 1) rfl (nI_add _ _) (by decide) rfl (fun ls hl => ?_)
      refine lv_goto (tgt := 16) hx hb d_Md_send_45 (by decide) ?_
      exact ih (i + 1) (by show i + 1 ≤ 24; omega) (by omega) H locs ls hP hS (lv_sub hl [0, 1, 2, 3, 4, 5, 6, 7, 8, 9] (by simp [lv_pick, lst, oI, h3]))
set_option maxHeartbeats 4000000 in
set_option maxRecDepth 100000 in
theorem c_Md_ask (l : Launch) (D : va_G) (dA : Nat → ClassId) (ad : Nat → Nat) (hJ : Inj ad obM) (σ : Sg) (i : Nat) (B : Nat) (hWf : WfM B σ) (hB : B < 2 ^ 30) (hi : i < 10) (hc : fKey σ i = none → gN σ 14 0 < 10) : CV l D clX (tyX dA) SM ad dA obM NL y_Md_ask w_Md_ask { frames := 2, cells := 0, slots := 0, locals := 47 } [.ref (ad 0), .int (nI i)] σ (mAsk σ i) := by
  refine x_of (WS := WS) (cc := b_Md_ask) (maxL := 3) (ret := none) (by decide) rfl (Nat.le_of_ble_eq_true rfl) ?_
  intro pp ee ss mm below meth cdd hx hb hml hr hlk ht hown hnm hN hK hP ls hl
  have hl : lv_has ls 3 [(0, .ref (ad 0)), (1, .int (nI i))] := hl
  have hS : va_S (Ad ad obM) ss.heap ss.heap [] := va_S.rf
  have hw := swfM
  have hM0 := hWf.it
  have hM1 := hWf.ks
  have hM2 := hWf.bl
  have hM3 := hWf.wk
  have hM4 := hWf.bi
  have hM5 := hWf.qu
  have hM6 := hWf.tm
  have hM7 := hWf.la
  have hkr := keyR_lt hWf hc
  refine lv_aload_n hx hb d_Md_ask_0 rfl (lv_at hl 0 rfl) ?_
  refine lv_iload_n hx hb d_Md_ask_1 rfl (lv_at hl 1 rfl) ?_
  refine x_ci (x_rV (As := [.int (nI i)]) (rest := []) hx hb hml hown ht gW cs_Md_131 (c_Md_key l D dA ad hJ σ i B hWf (by omega) (by assumption)) rfl rfl (by decide) xc_Md hN hK hP (moM (by decide)) rfl rfl hl.1 rfl (Nat.le_of_ble_eq_true rfl) d_Md_ask_2 (by decide)) hS (fun H locs hP hS => ?_)
  have hWf : WfM B (mKeyS σ i) := wfm_key hWf (by assumption)
  refine lv_istore_n (lv' := [(2, .int (nI (mKeyR σ i))), (0, .ref (ad 0)), (1, .int (nI i))]) hx hb d_Md_ask_5 rfl hl (by decide) rfl (fun ls hl => ?_)
  refine lv_aload_n hx hb d_Md_ask_6 rfl (lv_at hl 1 rfl) ?_
  refine lv_iconst (v := (nI 1)) hx hb d_Md_ask_7 (by decide) ?_
  refine lv_iconst (v := (nI 0)) hx hb d_Md_ask_8 (by decide) ?_
  refine lv_iload_n hx hb d_Md_ask_9 rfl (lv_at hl 0 rfl) ?_
  refine lv_iload_n hx hb d_Md_ask_10 rfl (lv_at hl 2 rfl) ?_
  refine lv_iconst (v := (nI 0)) hx hb d_Md_ask_11 (by decide) ?_
  refine lv_iconst (v := (nI 0)) hx hb d_Md_ask_12 (by decide) ?_
  refine lv_iconst (v := (nI 0)) hx hb d_Md_ask_13 (by decide) ?_
  refine x_cv (x_rV (As := [.int (nI 1), .int (nI 0), .int (nI (mKeyR σ i)), .int (nI i), .int (nI 0), .int (nI 0), .int (nI 0)]) (rest := []) hx hb hml hown ht gW cs_Md_134 (c_Md_send l D dA ad hJ (mKeyS σ i) 1 0 (mKeyR σ i) i (nI 0) (nI 0) (nI 0) B hWf (by omega)) rfl rfl (by decide) xc_Md hN hK hP (moM (by decide)) rfl rfl hl.1 rfl (Nat.le_of_ble_eq_true rfl) d_Md_ask_14 (by decide)) hS (fun H locs hP hS => ?_)
  have hWf : WfM (B + 1) (mSend (mKeyS σ i) 1 0 (mKeyR σ i) i (nI 0) (nI 0) (nI 0)) := wfm_send hWf (by omega) (by omega) (by omega) (by omega)
  refine lv_aload_n hx hb d_Md_ask_17 rfl (lv_at hl 1 rfl) ?_
  refine x_get (v := .ref (ad 8)) (k := 12) hx hb ht xc_Md hown hK hP (moM (by decide)) rfl (by decide) fl_Md_33 rfl rfl rfl d_Md_ask_18 ?_
  refine lv_iload_n hx hb d_Md_ask_21 rfl (lv_at hl 2 rfl) ?_
  refine lv_iconst (v := (nI 1)) hx hb d_Md_ask_22 (by decide) ?_
  refine x_zast (κ := 107) (n := 10) (x := true) hx hb hK hP hJ hw hS (moM (by decide)) rfl (by decide) rfl rfl (by omega) (by omega) d_Md_ask_23 (fun H locs hP hS => ?_)
  have hWf : WfM (B + 1) (sB (mSend (mKeyS σ i) 1 0 (mKeyR σ i) i (nI 0) (nI 0) (nI 0)) 107 i true) := wfm_B hWf
  refine lv_aload_n hx hb d_Md_ask_24 rfl (lv_at hl 1 rfl) ?_
  refine x_get (v := .ref (ad 9)) (k := 13) hx hb ht xc_Md hown hK hP (moM (by decide)) rfl (by decide) fl_Md_36 rfl rfl rfl d_Md_ask_25 ?_
  refine lv_iload_n hx hb d_Md_ask_28 rfl (lv_at hl 2 rfl) ?_
  refine lv_aload_n hx hb d_Md_ask_29 rfl (lv_at hl 1 rfl) ?_
  refine x_get (v := .int (nI (gN σ 2 0))) (k := 2) hx hb ht xc_Md hown hK hP (moM (by decide)) rfl (by decide) fl_Md_138 rfl rfl (congrArg (fun z => Value.int (nI z)) (Eq.trans (msend_N (mKeyS σ i) 1 0 (mKeyR σ i) i (nI 0) (nI 0) (nI 0) (by decide) 0) (mkey_N σ i (by decide) 0))) d_Md_ask_30 ?_
  refine x_nast (κ := 108) (n := 10) (x := gN σ 2 0) hx hb hK hP hJ hw hS (moM (by decide)) rfl (by decide) rfl rfl (by omega) (by omega) d_Md_ask_33 (fun H locs hP hS => ?_)
  exact x_vret hx hb hr hlk hK hP hS d_Md_ask_34 rfl
set_option maxHeartbeats 4000000 in
set_option maxRecDepth 100000 in
theorem c_Md_place (l : Launch) (D : va_G) (dA : Nat → ClassId) (ad : Nat → Nat) (hJ : Inj ad obM) (σ : Sg) (k : Int32) (B : Nat) (hWf : WfM B σ) (hB : B < 2 ^ 30) : CI l D clX (tyX dA) SM ad dA obM NL y_Md_place w_Md_place { frames := 0, cells := 0, slots := 0, locals := 0 } [.ref (ad 0), .int k] σ ((oI (plc σ k))) σ := by
  refine x_of (WS := WS) (cc := b_Md_place) (maxL := 5) (ret := (some .int)) (by decide) rfl (Nat.le_of_ble_eq_true rfl) ?_
  intro pp ee ss mm below meth cdd hx hb hml hr hlk ht hown hnm hN hK hP ls hl
  have hl : lv_has ls 5 [(0, .ref (ad 0)), (1, .int k)] := hl
  have hS : va_S (Ad ad obM) ss.heap ss.heap [] := va_S.rf
  have hw := swfM
  refine lv_iconst (v := (nI 0)) hx hb d_Md_place_0 (by decide) ?_
  refine lv_istore_n (lv' := [(2, .int (nI 0)), (0, .ref (ad 0)), (1, .int k)]) hx hb d_Md_place_1 rfl hl (by decide) rfl (fun ls hl => ?_)
  refine x_loop (pc := 2) (α := Nat) (nL := 5) (fun s => 24 - s) (fun s => σ) (fun s => [(2, .int (nI s)), (1, .int k), (0, .ref (ad 0))]) (fun s => s ≤ 24 ∧ ∀ j, j < s → (fun s => decide (0 < gN σ 122 s) && decide (nI (older σ s) = k)) j = false) ?_ 0 ⟨by decide, fun j hj => absurd hj (Nat.not_lt_zero j)⟩ hP hS (lv_sub hl [0, 2, 1] rfl)
  clear hP hS hl
  intro s ⟨hs, h0⟩ H locs ls hP hS hl ih
  have hs : s ≤ 24 := hs
  have hl : lv_has ls 5 [(2, .int (nI s)), (1, .int k), (0, .ref (ad 0))] := hl
  have hP : va_P D clX (wd SM ad dA obM σ) H := hP
  refine lv_iload_n hx hb d_Md_place_2 rfl (lv_at hl 0 rfl) ?_
  refine lv_bipush (v := (nI 24)) hx hb d_Md_place_3 (by decide) ?_
  refine x_icmp_geN (tgt := 77) hx hb d_Md_place_5 (by decide) (by omega) (by decide) (fun h1 => ?_) (fun h1 => ?_)
  · refine lv_iconst (v := ((-1))) hx hb d_Md_place_77 (by decide) ?_
    exact x_iret hx hb hr hlk hK hP hS d_Md_place_78 (by unfold plc; rw [fnd_none (fun j hj => h0 j (by omega))]; rfl) rfl
  · refine lv_iconst (v := (nI 0)) hx hb d_Md_place_8 (by decide) ?_
    refine lv_istore_n (lv' := [(3, .int (nI 0)), (2, .int (nI s)), (1, .int k), (0, .ref (ad 0))]) hx hb d_Md_place_9 rfl hl (by decide) rfl (fun ls hl => ?_)
    refine lv_iconst (v := (nI 0)) hx hb d_Md_place_10 (by decide) ?_
    refine lv_istore (lv' := [(4, .int (nI 0)), (3, .int (nI 0)), (2, .int (nI s)), (1, .int k), (0, .ref (ad 0))]) hx hb d_Md_place_11 hl (by decide) rfl (fun ls hl => ?_)
    refine x_loop (pc := 13) (α := Nat) (nL := 5) (fun q => 24 - q) (fun q => σ) (fun q => [(4, .int (nI q)), (3, .int (nI (cnt (fun q => decide (0 < gN σ 122 q) && decide (gN σ 122 q < gN σ 122 s)) q))), (2, .int (nI s)), (1, .int k), (0, .ref (ad 0))]) (fun q => q ≤ 24) ?_ 0 (by decide) hP hS (lv_sub hl [0, 1, 2, 3, 4] rfl)
    clear hP hS hl
    intro q hq H locs ls hP hS hl ih2
    have hq : q ≤ 24 := hq
    have hl : lv_has ls 5 [(4, .int (nI q)), (3, .int (nI (cnt (fun q => decide (0 < gN σ 122 q) && decide (gN σ 122 q < gN σ 122 s)) q))), (2, .int (nI s)), (1, .int k), (0, .ref (ad 0))] := hl
    have hP : va_P D clX (wd SM ad dA obM σ) H := hP
    refine lv_iload hx hb d_Md_place_13 (lv_at hl 0 rfl) ?_
    refine lv_bipush (v := (nI 24)) hx hb d_Md_place_15 (by decide) ?_
    refine x_icmp_geN (tgt := 55) hx hb d_Md_place_17 (by decide) (by omega) (by decide) (fun h2 => ?_) (fun h2 => ?_)
    · obtain rfl : q = 24 := by omega
      have hl : lv_has ls 5 [(4, .int (nI 24)), (3, .int (nI (older σ s))), (2, .int (nI s)), (1, .int k), (0, .ref (ad 0))] := hl
      refine lv_aload_n hx hb d_Md_place_55 rfl (lv_at hl 4 rfl) ?_
      refine x_get (v := .ref (ad 23)) (k := 35) hx hb ht xc_Md hown hK hP (moM (by decide)) rfl (by decide) fl_Md_78 rfl rfl rfl d_Md_place_56 ?_
      refine lv_iload_n hx hb d_Md_place_59 rfl (lv_at hl 2 rfl) ?_
      refine x_nald (κ := 122) (n := 24) hx hb hK hP (moM (by decide)) rfl (by decide) rfl rfl (by omega) (by omega) d_Md_place_60 ?_
      refine x_if_leN (tgt := 71) hx hb d_Md_place_61 (by decide) (Nat.lt_of_le_of_lt (hWf.bo _) (by omega)) (fun h3 => ?_) (fun h3 => ?_)
      · refine lv_iinc (lv' := [(2, .int (nI (s + 1))), (4, .int (nI 24)), (3, .int (nI (older σ s))), (1, .int k), (0, .ref (ad 0))]) (v := (nI (s + 1))) hx hb d_Md_place_71 hl (k := 2) rfl (nI_add _ _) (by decide) rfl (fun ls hl => ?_)
        refine lv_goto (tgt := 2) hx hb d_Md_place_74 (by decide) ?_
        exact ih (s + 1) ⟨by omega, lt_s h0 (by simp [h3])⟩ (by omega) H locs ls hP hS (lv_sub hl [0, 3, 4] rfl)
      · refine lv_iload_n hx hb d_Md_place_64 rfl (lv_at hl 1 rfl) ?_
        refine lv_iload_n hx hb d_Md_place_65 rfl (lv_at hl 3 rfl) ?_
        refine lv_icmp_ne (tgt := 71) hx hb d_Md_place_66 (by decide) (fun h4 => ?_) (fun h4 => ?_)
        · refine lv_iinc (lv' := [(2, .int (nI (s + 1))), (4, .int (nI 24)), (3, .int (nI (older σ s))), (1, .int k), (0, .ref (ad 0))]) (v := (nI (s + 1))) hx hb d_Md_place_71 hl (k := 2) rfl (nI_add _ _) (by decide) rfl (fun ls hl => ?_)
          refine lv_goto (tgt := 2) hx hb d_Md_place_74 (by decide) ?_
          exact ih (s + 1) ⟨by omega, lt_s h0 (by simp [h3, h4])⟩ (by omega) H locs ls hP hS (lv_sub hl [0, 3, 4] rfl)
        · refine lv_iload_n hx hb d_Md_place_69 rfl (lv_at hl 2 rfl) ?_
          exact x_iret hx hb hr hlk hK hP hS d_Md_place_70 (by unfold plc; rw [fnd_some (by omega) (by simp [h3, h4]) h0]; rfl) rfl
    · refine lv_aload_n hx hb d_Md_place_20 rfl (lv_at hl 4 rfl) ?_
      refine x_get (v := .ref (ad 23)) (k := 35) hx hb ht xc_Md hown hK hP (moM (by decide)) rfl (by decide) fl_Md_78 rfl rfl rfl d_Md_place_21 ?_
      refine lv_iload hx hb d_Md_place_24 (lv_at hl 0 rfl) ?_
      refine x_nald (κ := 122) (n := 24) hx hb hK hP (moM (by decide)) rfl (by decide) rfl rfl (by omega) (by omega) d_Md_place_26 ?_
      refine x_if_leN (tgt := 49) hx hb d_Md_place_27 (by decide) (Nat.lt_of_le_of_lt (hWf.bo _) (by omega)) (fun h5 => ?_) (fun h5 => ?_)
      · refine lv_iinc (lv' := [(4, .int (nI (q + 1))), (3, .int (nI (cnt (fun q => decide (0 < gN σ 122 q) && decide (gN σ 122 q < gN σ 122 s)) q))), (2, .int (nI s)), (1, .int k), (0, .ref (ad 0))]) (v := (nI (q + 1))) hx hb d_Md_place_49 hl (k := 0) rfl (nI_add _ _) (by decide) rfl (fun ls hl => ?_)
        refine lv_goto (tgt := 13) hx hb d_Md_place_52 (by decide) ?_
        exact ih2 (q + 1) (by show q + 1 ≤ 24; omega) (by omega) H locs ls hP hS (lv_sub hl [0, 1, 2, 3, 4] (by simp [lv_pick, cnt, h5]))
      · refine lv_aload_n hx hb d_Md_place_30 rfl (lv_at hl 4 rfl) ?_
        refine x_get (v := .ref (ad 23)) (k := 35) hx hb ht xc_Md hown hK hP (moM (by decide)) rfl (by decide) fl_Md_78 rfl rfl rfl d_Md_place_31 ?_
        refine lv_iload hx hb d_Md_place_34 (lv_at hl 0 rfl) ?_
        refine x_nald (κ := 122) (n := 24) hx hb hK hP (moM (by decide)) rfl (by decide) rfl rfl (by omega) (by omega) d_Md_place_36 ?_
        refine lv_aload_n hx hb d_Md_place_37 rfl (lv_at hl 4 rfl) ?_
        refine x_get (v := .ref (ad 23)) (k := 35) hx hb ht xc_Md hown hK hP (moM (by decide)) rfl (by decide) fl_Md_78 rfl rfl rfl d_Md_place_38 ?_
        refine lv_iload_n hx hb d_Md_place_41 rfl (lv_at hl 2 rfl) ?_
        refine x_nald (κ := 122) (n := 24) hx hb hK hP (moM (by decide)) rfl (by decide) rfl rfl (by omega) (by omega) d_Md_place_42 ?_
        refine x_icmp_geN (tgt := 49) hx hb d_Md_place_43 (by decide) (Nat.lt_of_le_of_lt (hWf.bo _) (by omega)) (Nat.lt_of_le_of_lt (hWf.bo _) (by omega)) (fun h6 => ?_) (fun h6 => ?_)
        · refine lv_iinc (lv' := [(4, .int (nI (q + 1))), (3, .int (nI (cnt (fun q => decide (0 < gN σ 122 q) && decide (gN σ 122 q < gN σ 122 s)) q))), (2, .int (nI s)), (1, .int k), (0, .ref (ad 0))]) (v := (nI (q + 1))) hx hb d_Md_place_49 hl (k := 0) rfl (nI_add _ _) (by decide) rfl (fun ls hl => ?_)
          refine lv_goto (tgt := 13) hx hb d_Md_place_52 (by decide) ?_
          exact ih2 (q + 1) (by show q + 1 ≤ 24; omega) (by omega) H locs ls hP hS (lv_sub hl [0, 1, 2, 3, 4] (by simp [lv_pick, cnt, h5, Nat.not_lt.mpr h6]))
        · refine lv_iinc (lv' := [(3, .int (nI ((cnt (fun q => decide (0 < gN σ 122 q) && decide (gN σ 122 q < gN σ 122 s)) q) + 1))), (4, .int (nI q)), (2, .int (nI s)), (1, .int k), (0, .ref (ad 0))]) (v := (nI ((cnt (fun q => decide (0 < gN σ 122 q) && decide (gN σ 122 q < gN σ 122 s)) q) + 1))) hx hb d_Md_place_46 hl (k := 1) rfl (nI_add _ _) (by decide) rfl (fun ls hl => ?_)
          refine lv_iinc (lv' := [(4, .int (nI (q + 1))), (3, .int (nI ((cnt (fun q => decide (0 < gN σ 122 q) && decide (gN σ 122 q < gN σ 122 s)) q) + 1))), (2, .int (nI s)), (1, .int k), (0, .ref (ad 0))]) (v := (nI (q + 1))) hx hb d_Md_place_49 hl (k := 1) rfl (nI_add _ _) (by decide) rfl (fun ls hl => ?_)
          refine lv_goto (tgt := 13) hx hb d_Md_place_52 (by decide) ?_
          exact ih2 (q + 1) (by show q + 1 ≤ 24; omega) (by omega) H locs ls hP hS (lv_sub hl [0, 1, 2, 3, 4] (by simp [lv_pick, cnt, h5, h6]))
set_option maxHeartbeats 4000000 in
set_option maxRecDepth 100000 in
theorem c_Md_flying (l : Launch) (D : va_G) (dA : Nat → ClassId) (ad : Nat → Nat) (hJ : Inj ad obM) (σ : Sg)  (B : Nat) (hWf : WfM B σ) (hB : B < 2 ^ 30) : CI l D clX (tyX dA) SM ad dA obM NL y_Md_flying w_Md_flying { frames := 0, cells := 0, slots := 0, locals := 0 } [.ref (ad 0)] σ ((nI (mFly σ))) σ := by
  refine x_of (WS := WS) (cc := b_Md_flying) (maxL := 3) (ret := (some .int)) (by decide) rfl (Nat.le_of_ble_eq_true rfl) ?_
  intro pp ee ss mm below meth cdd hx hb hml hr hlk ht hown hnm hN hK hP ls hl
  have hl : lv_has ls 3 [(0, .ref (ad 0))] := hl
  have hS : va_S (Ad ad obM) ss.heap ss.heap [] := va_S.rf
  have hw := swfM
  refine lv_iconst (v := (nI 0)) hx hb d_Md_flying_0 (by decide) ?_
  refine lv_istore_n (lv' := [(1, .int (nI 0)), (0, .ref (ad 0))]) hx hb d_Md_flying_1 rfl hl (by decide) rfl (fun ls hl => ?_)
  refine lv_iconst (v := (nI 0)) hx hb d_Md_flying_2 (by decide) ?_
  refine lv_istore_n (lv' := [(2, .int (nI 0)), (1, .int (nI 0)), (0, .ref (ad 0))]) hx hb d_Md_flying_3 rfl hl (by decide) rfl (fun ls hl => ?_)
  refine x_loop (pc := 4) (α := Nat) (nL := 3) (fun i => 24 - i) (fun i => σ) (fun i => [(2, .int (nI i)), (1, .int (nI (cnt (fun s => decide (0 < gN σ 122 s)) i))), (0, .ref (ad 0))]) (fun i => i ≤ 24) ?_ 0 (Nat.zero_le _) hP hS (lv_sub hl [0, 1, 2] rfl)
  clear hP hS hl
  intro i hi H locs ls hP hS hl ih
  have hi : i ≤ 24 := hi
  have hl : lv_has ls 3 [(2, .int (nI i)), (1, .int (nI (cnt (fun s => decide (0 < gN σ 122 s)) i))), (0, .ref (ad 0))] := hl
  have hP : va_P D clX (wd SM ad dA obM σ) H := hP
  refine lv_iload_n hx hb d_Md_flying_4 rfl (lv_at hl 0 rfl) ?_
  refine lv_bipush (v := (nI 24)) hx hb d_Md_flying_5 (by decide) ?_
  refine x_icmp_geN (tgt := 33) hx hb d_Md_flying_7 (by decide) (by omega) (by decide) (fun h1 => ?_) (fun h1 => ?_)
  · refine lv_iload_n hx hb d_Md_flying_33 rfl (lv_at hl 1 rfl) ?_
    exact x_iret hx hb hr hlk hK hP hS d_Md_flying_34 (by rw [show i = 24 by omega]; rfl) rfl
  · refine lv_iload_n hx hb d_Md_flying_10 rfl (lv_at hl 1 rfl) ?_
    refine lv_aload_n hx hb d_Md_flying_11 rfl (lv_at hl 2 rfl) ?_
    refine x_get (v := .ref (ad 23)) (k := 35) hx hb ht xc_Md hown hK hP (moM (by decide)) rfl (by decide) fl_Md_78 rfl rfl rfl d_Md_flying_12 ?_
    refine lv_iload_n hx hb d_Md_flying_15 rfl (lv_at hl 0 rfl) ?_
    refine x_nald (κ := 122) (n := 24) hx hb hK hP (moM (by decide)) rfl (by decide) rfl rfl (by omega) (by omega) d_Md_flying_16 ?_
    refine x_if_leN (tgt := 24) hx hb d_Md_flying_17 (by decide) (Nat.lt_of_le_of_lt (hWf.bo _) (by omega)) (fun h2 => ?_) (fun h2 => ?_)
    · refine lv_iconst (v := (nI 0)) hx hb d_Md_flying_24 (by decide) ?_
      refine x_iaddN hx hb d_Md_flying_25 ?_
      refine lv_istore_n (lv' := [(1, .int (nI ((cnt (fun s => decide (0 < gN σ 122 s)) i) + 0))), (2, .int (nI i)), (0, .ref (ad 0))]) hx hb d_Md_flying_26 rfl hl (by decide) rfl (fun ls hl => ?_)
      refine lv_iinc (lv' := [(2, .int (nI (i + 1))), (1, .int (nI ((cnt (fun s => decide (0 < gN σ 122 s)) i) + 0))), (0, .ref (ad 0))]) (v := (nI (i + 1))) hx hb d_Md_flying_27 hl (k := 1) rfl (nI_add _ _) (by decide) rfl (fun ls hl => ?_)
      refine lv_goto (tgt := 4) hx hb d_Md_flying_30 (by decide) ?_
      exact ih (i + 1) (by show i + 1 ≤ 24; omega) (by omega) H locs ls hP hS (lv_sub hl [0, 1, 2] (by simp [lv_pick, cnt, h2]))
    · refine lv_iconst (v := (nI 1)) hx hb d_Md_flying_20 (by decide) ?_
      refine lv_goto (tgt := 25) hx hb d_Md_flying_21 (by decide) ?_
      refine x_iaddN hx hb d_Md_flying_25 ?_
      refine lv_istore_n (lv' := [(1, .int (nI ((cnt (fun s => decide (0 < gN σ 122 s)) i) + 1))), (2, .int (nI i)), (0, .ref (ad 0))]) hx hb d_Md_flying_26 rfl hl (by decide) rfl (fun ls hl => ?_)
      refine lv_iinc (lv' := [(2, .int (nI (i + 1))), (1, .int (nI ((cnt (fun s => decide (0 < gN σ 122 s)) i) + 1))), (0, .ref (ad 0))]) (v := (nI (i + 1))) hx hb d_Md_flying_27 hl (k := 1) rfl (nI_add _ _) (by decide) rfl (fun ls hl => ?_)
      refine lv_goto (tgt := 4) hx hb d_Md_flying_30 (by decide) ?_
      exact ih (i + 1) (by show i + 1 ≤ 24; omega) (by omega) H locs ls hP hS (lv_sub hl [0, 1, 2] (by simp [lv_pick, cnt, h2]))
set_option maxHeartbeats 4000000 in
set_option maxRecDepth 100000 in
theorem c_Md_message (l : Launch) (D : va_G) (dA : Nat → ClassId) (ad : Nat → Nat) (hJ : Inj ad obM) (σ : Sg) (k : Int32) (B : Nat) (hWf : WfM B σ) (hB : B < 2 ^ 30) : CI l D clX (tyX dA) SM ad dA obM NL y_Md_message w_Md_message { frames := 1, cells := 0, slots := 0, locals := 24 } [.ref (ad 0), .int k] σ ((mMsg σ k)) σ := by
  refine x_of (WS := WS) (cc := b_Md_message) (maxL := 3) (ret := (some .int)) (by decide) rfl (Nat.le_of_ble_eq_true rfl) ?_
  intro pp ee ss mm below meth cdd hx hb hml hr hlk ht hown hnm hN hK hP ls hl
  have hl : lv_has ls 3 [(0, .ref (ad 0)), (1, .int k)] := hl
  have hS : va_S (Ad ad obM) ss.heap ss.heap [] := va_S.rf
  have hw := swfM
  have hM0 := hWf.it
  have hM1 := hWf.ks
  have hM2 := hWf.bl
  have hM3 := hWf.wk
  have hM4 := hWf.bi
  have hM5 := hWf.qu
  have hM6 := hWf.tm
  have hM7 := hWf.la
  refine lv_aload_n hx hb d_Md_message_0 rfl (lv_at hl 0 rfl) ?_
  refine lv_iload_n hx hb d_Md_message_1 rfl (lv_at hl 1 rfl) ?_
  refine x_ci (x_rV (As := [.int k]) (rest := []) hx hb hml hown ht gW cs_Md_141 (c_Md_place l D dA ad hJ σ k B hWf (by omega)) rfl rfl (by decide) xc_Md hN hK hP (moM (by decide)) rfl rfl hl.1 rfl (Nat.le_of_ble_eq_true rfl) d_Md_message_2 (by decide)) hS (fun H locs hP hS => ?_)
  refine lv_istore_n (lv' := [(2, .int (oI (plc σ k))), (0, .ref (ad 0)), (1, .int k)]) hx hb d_Md_message_5 rfl hl (by decide) rfl (fun ls hl => ?_)
  refine lv_iload_n hx hb d_Md_message_6 rfl (lv_at hl 0 rfl) ?_
  refine x_if_geO (n := 24) (tgt := 14) hx hb d_Md_message_7 (by decide) ⟨plc_lt, by decide⟩ (fun j1 h1 hl1 => ?_) (fun h1 => ?_)
  · rw [h1] at hl
    have hl : lv_has ls 3 [(2, .int (nI j1)), (0, .ref (ad 0)), (1, .int k)] := hl
    refine lv_bipush (v := (nI 10)) hx hb d_Md_message_14 (by decide) ?_
    refine lv_aload_n hx hb d_Md_message_16 rfl (lv_at hl 1 rfl) ?_
    refine x_get (v := .ref (ad 24)) (k := 36) hx hb ht xc_Md hown hK hP (moM (by decide)) rfl (by decide) fl_Md_81 rfl rfl rfl d_Md_message_17 ?_
    refine lv_iload_n hx hb d_Md_message_20 rfl (lv_at hl 0 rfl) ?_
    refine x_nald (κ := 123) (n := 24) hx hb hK hP (moM (by decide)) rfl (by decide) rfl rfl (by omega) (by omega) d_Md_message_21 ?_
    refine x_imulN hx hb d_Md_message_22 ?_
    refine lv_aload_n hx hb d_Md_message_23 rfl (lv_at hl 1 rfl) ?_
    refine x_get (v := .ref (ad 25)) (k := 37) hx hb ht xc_Md hown hK hP (moM (by decide)) rfl (by decide) fl_Md_84 rfl rfl rfl d_Md_message_24 ?_
    refine lv_iload_n hx hb d_Md_message_27 rfl (lv_at hl 0 rfl) ?_
    refine x_nald (κ := 124) (n := 24) hx hb hK hP (moM (by decide)) rfl (by decide) rfl rfl (by omega) (by omega) d_Md_message_28 ?_
    refine x_iaddN hx hb d_Md_message_29 ?_
    exact x_iret hx hb hr hlk hK hP hS d_Md_message_30 (by unfold mMsg; rw [h1]) rfl
  · refine lv_iconst (v := ((-1))) hx hb d_Md_message_10 (by decide) ?_
    refine lv_goto (tgt := 30) hx hb d_Md_message_11 (by decide) ?_
    exact x_iret hx hb hr hlk hK hP hS d_Md_message_30 (by unfold mMsg; rw [h1]) rfl
set_option maxHeartbeats 4000000 in
set_option maxRecDepth 100000 in
theorem c_Md_carries (l : Launch) (D : va_G) (dA : Nat → ClassId) (ad : Nat → Nat) (hJ : Inj ad obM) (σ : Sg) (x : Option Nat) (B : Nat) (hWf : WfM B σ) (hx24 : ∀ i, x = some i → i < 24) : CI l D clX (tyX dA) SM ad dA obM NL y_Md_carries w_Md_carries { frames := 0, cells := 0, slots := 0, locals := 0 } [.ref (ad 0), .int (oI x)] σ ((bI (mCarr σ x))) σ := by
  refine x_of (WS := WS) (cc := b_Md_carries) (maxL := 2) (ret := (some .boolean)) (by decide) rfl (Nat.le_of_ble_eq_true rfl) ?_
  intro pp ee ss mm below meth cdd hx hb hml hr hlk ht hown hnm hN hK hP ls hl
  have hl : lv_has ls 2 [(0, .ref (ad 0)), (1, .int (oI x))] := hl
  have hS : va_S (Ad ad obM) ss.heap ss.heap [] := va_S.rf
  have hw := swfM
  have hM0 := hWf.it
  have hM1 := hWf.ks
  have hM2 := hWf.bl
  have hM3 := hWf.wk
  have hM4 := hWf.bi
  have hM5 := hWf.qu
  have hM6 := hWf.tm
  have hM7 := hWf.la
  have hkd := hWf.kd
  refine lv_iload_n hx hb d_Md_carries_0 rfl (lv_at hl 1 rfl) ?_
  refine x_if_ltO (n := 24) (tgt := 18) hx hb d_Md_carries_1 (by decide) ⟨hx24, by decide⟩ (fun h1 => ?_) (fun j1 h1 hl1 => ?_)
  · refine lv_iconst (v := (nI 0)) hx hb d_Md_carries_18 (by decide) ?_
    exact x_zret (b := false) hx hb hr hlk hK hP hS d_Md_carries_19 rfl (by unfold mCarr; rw [h1]) rfl
  · rw [h1] at hl
    have hl : lv_has ls 2 [(0, .ref (ad 0)), (1, .int (nI j1))] := hl
    refine lv_aload_n hx hb d_Md_carries_4 rfl (lv_at hl 0 rfl) ?_
    refine x_get (v := .ref (ad 24)) (k := 36) hx hb ht xc_Md hown hK hP (moM (by decide)) rfl (by decide) fl_Md_81 rfl rfl rfl d_Md_carries_5 ?_
    refine lv_iload_n hx hb d_Md_carries_8 rfl (lv_at hl 1 rfl) ?_
    refine x_nald (κ := 123) (n := 24) hx hb hK hP (moM (by decide)) rfl (by decide) rfl rfl (by omega) (by omega) d_Md_carries_9 ?_
    refine lv_iconst (v := (nI 3)) hx hb d_Md_carries_10 (by decide) ?_
    refine x_icmp_ltN (tgt := 18) hx hb d_Md_carries_11 (by decide) (Nat.lt_trans (hkd _) (by decide)) (by decide) (fun h2 => ?_) (fun h2 => ?_)
    · refine lv_iconst (v := (nI 0)) hx hb d_Md_carries_18 (by decide) ?_
      exact x_zret (b := false) hx hb hr hlk hK hP hS d_Md_carries_19 rfl (by unfold mCarr; rw [h1]; simp [Nat.not_le.mpr h2]) rfl
    · refine lv_iconst (v := (nI 1)) hx hb d_Md_carries_14 (by decide) ?_
      refine lv_goto (tgt := 19) hx hb d_Md_carries_15 (by decide) ?_
      exact x_zret (b := true) hx hb hr hlk hK hP hS d_Md_carries_19 rfl (by unfold mCarr; rw [h1]; simp [h2]) rfl
set_option maxHeartbeats 4000000 in
set_option maxRecDepth 100000 in
theorem c_Md_carried (l : Launch) (D : va_G) (dA : Nat → ClassId) (ad : Nat → Nat) (hJ : Inj ad obM) (σ : Sg) (k : Int32) (B : Nat) (hWf : WfM B σ) (hB : B < 2 ^ 30) : CI l D clX (tyX dA) SM ad dA obM NL y_Md_carried w_Md_carried { frames := 1, cells := 0, slots := 0, locals := 24 } [.ref (ad 0), .int k] σ ((mCar σ k)) σ := by
  refine x_of (WS := WS) (cc := b_Md_carried) (maxL := 3) (ret := (some .int)) (by decide) rfl (Nat.le_of_ble_eq_true rfl) ?_
  intro pp ee ss mm below meth cdd hx hb hml hr hlk ht hown hnm hN hK hP ls hl
  have hl : lv_has ls 3 [(0, .ref (ad 0)), (1, .int k)] := hl
  have hS : va_S (Ad ad obM) ss.heap ss.heap [] := va_S.rf
  have hw := swfM
  have hM0 := hWf.it
  have hM1 := hWf.ks
  have hM2 := hWf.bl
  have hM3 := hWf.wk
  have hM4 := hWf.bi
  have hM5 := hWf.qu
  have hM6 := hWf.tm
  have hM7 := hWf.la
  refine lv_aload_n hx hb d_Md_carried_0 rfl (lv_at hl 0 rfl) ?_
  refine lv_iload_n hx hb d_Md_carried_1 rfl (lv_at hl 1 rfl) ?_
  refine x_ci (x_rV (As := [.int k]) (rest := []) hx hb hml hown ht gW cs_Md_141 (c_Md_place l D dA ad hJ σ k B hWf (by omega)) rfl rfl (by decide) xc_Md hN hK hP (moM (by decide)) rfl rfl hl.1 rfl (Nat.le_of_ble_eq_true rfl) d_Md_carried_2 (by decide)) hS (fun H locs hP hS => ?_)
  refine lv_istore_n (lv' := [(2, .int (oI (plc σ k))), (0, .ref (ad 0)), (1, .int k)]) hx hb d_Md_carried_5 rfl hl (by decide) rfl (fun ls hl => ?_)
  refine lv_aload_n hx hb d_Md_carried_6 rfl (lv_at hl 1 rfl) ?_
  refine lv_iload_n hx hb d_Md_carried_7 rfl (lv_at hl 0 rfl) ?_
  refine x_ci (x_rV (As := [.int (oI (plc σ k))]) (rest := []) hx hb hml hown ht gW cs_Md_144 (c_Md_carries l D dA ad hJ σ (plc σ k) B hWf plc_lt) rfl rfl (by decide) xc_Md hN hK hP (moM (by decide)) rfl rfl hl.1 rfl (Nat.le_of_ble_eq_true rfl) d_Md_carried_8 (by decide)) hS (fun H locs hP hS => ?_)
  refine x_ifeqB (tgt := 23) hx hb d_Md_carried_11 (by decide) (fun h1 => ?_) (fun h1 => ?_)
  · refine lv_iconst (v := (nI 0)) hx hb d_Md_carried_23 (by decide) ?_
    exact x_iret hx hb hr hlk hK hP hS d_Md_carried_24 (mCar_f h1) rfl
  · obtain ⟨j, hj, hj3⟩ := mCarr_some h1
    have hjl := plc_lt j hj
    rw [hj] at hl
    have hl : lv_has ls 3 [(2, .int (nI j)), (0, .ref (ad 0)), (1, .int k)] := hl
    refine lv_aload_n hx hb d_Md_carried_14 rfl (lv_at hl 1 rfl) ?_
    refine x_get (v := .ref (ad 28)) (k := 40) hx hb ht xc_Md hown hK hP (moM (by decide)) rfl (by decide) fl_Md_93 rfl rfl rfl d_Md_carried_15 ?_
    refine lv_iload_n hx hb d_Md_carried_18 rfl (lv_at hl 0 rfl) ?_
    refine x_iald (κ := 127) (n := 24) hx hb hK hP (moM (by decide)) rfl (by decide) rfl rfl (by omega) (by omega) d_Md_carried_19 ?_
    refine lv_goto (tgt := 24) hx hb d_Md_carried_20 (by decide) ?_
    exact x_iret hx hb hr hlk hK hP hS d_Md_carried_24 (by unfold mCar; rw [hj]; exact (if_pos hj3).symm) rfl
set_option maxHeartbeats 4000000 in
set_option maxRecDepth 100000 in
theorem c_Md_spoil (l : Launch) (D : va_G) (dA : Nat → ClassId) (ad : Nat → Nat) (hJ : Inj ad obM) (σ : Sg) (k : Int32) (B : Nat) (hWf : WfM B σ) (hB : B < 2 ^ 30) : CI l D clX (tyX dA) SM ad dA obM NL y_Md_spoil w_Md_spoil { frames := 1, cells := 0, slots := 0, locals := 24 } [.ref (ad 0), .int k] σ ((bI (mCarr σ (plc σ k)))) (mSpoil σ k) := by
  refine x_of (WS := WS) (cc := b_Md_spoil) (maxL := 3) (ret := (some .boolean)) (by decide) rfl (Nat.le_of_ble_eq_true rfl) ?_
  intro pp ee ss mm below meth cdd hx hb hml hr hlk ht hown hnm hN hK hP ls hl
  have hl : lv_has ls 3 [(0, .ref (ad 0)), (1, .int k)] := hl
  have hS : va_S (Ad ad obM) ss.heap ss.heap [] := va_S.rf
  have hw := swfM
  have hM0 := hWf.it
  have hM1 := hWf.ks
  have hM2 := hWf.bl
  have hM3 := hWf.wk
  have hM4 := hWf.bi
  have hM5 := hWf.qu
  have hM6 := hWf.tm
  have hM7 := hWf.la
  refine lv_aload_n hx hb d_Md_spoil_0 rfl (lv_at hl 0 rfl) ?_
  refine lv_iload_n hx hb d_Md_spoil_1 rfl (lv_at hl 1 rfl) ?_
  refine x_ci (x_rV (As := [.int k]) (rest := []) hx hb hml hown ht gW cs_Md_141 (c_Md_place l D dA ad hJ σ k B hWf (by omega)) rfl rfl (by decide) xc_Md hN hK hP (moM (by decide)) rfl rfl hl.1 rfl (Nat.le_of_ble_eq_true rfl) d_Md_spoil_2 (by decide)) hS (fun H locs hP hS => ?_)
  refine lv_istore_n (lv' := [(2, .int (oI (plc σ k))), (0, .ref (ad 0)), (1, .int k)]) hx hb d_Md_spoil_5 rfl hl (by decide) rfl (fun ls hl => ?_)
  refine lv_aload_n hx hb d_Md_spoil_6 rfl (lv_at hl 1 rfl) ?_
  refine lv_iload_n hx hb d_Md_spoil_7 rfl (lv_at hl 0 rfl) ?_
  refine x_ci (x_rV (As := [.int (oI (plc σ k))]) (rest := []) hx hb hml hown ht gW cs_Md_144 (c_Md_carries l D dA ad hJ σ (plc σ k) B hWf plc_lt) rfl rfl (by decide) xc_Md hN hK hP (moM (by decide)) rfl rfl hl.1 rfl (Nat.le_of_ble_eq_true rfl) d_Md_spoil_8 (by decide)) hS (fun H locs hP hS => ?_)
  refine x_ifneB (tgt := 16) hx hb d_Md_spoil_11 (by decide) (fun h1 => ?_) (fun h1 => ?_)
  · obtain ⟨j, hj, hj3⟩ := mCarr_some h1
    have hjl := plc_lt j hj
    rw [hj] at hl
    have hl : lv_has ls 3 [(2, .int (nI j)), (0, .ref (ad 0)), (1, .int k)] := hl
    refine lv_aload_n hx hb d_Md_spoil_16 rfl (lv_at hl 1 rfl) ?_
    refine x_get (v := .ref (ad 28)) (k := 40) hx hb ht xc_Md hown hK hP (moM (by decide)) rfl (by decide) fl_Md_93 rfl rfl rfl d_Md_spoil_17 ?_
    refine lv_iload_n hx hb d_Md_spoil_20 rfl (lv_at hl 0 rfl) ?_
    refine lv_aload_n hx hb d_Md_spoil_21 rfl (lv_at hl 1 rfl) ?_
    refine x_get (v := .ref (ad 28)) (k := 40) hx hb ht xc_Md hown hK hP (moM (by decide)) rfl (by decide) fl_Md_93 rfl rfl rfl d_Md_spoil_22 ?_
    refine lv_iload_n hx hb d_Md_spoil_25 rfl (lv_at hl 0 rfl) ?_
    refine x_iald (κ := 127) (n := 24) hx hb hK hP (moM (by decide)) rfl (by decide) rfl rfl (by omega) (by omega) d_Md_spoil_26 ?_
    refine lv_iconst (v := (nI 1)) hx hb d_Md_spoil_27 (by decide) ?_
    refine lv_ixor hx hb d_Md_spoil_28 ?_
    refine x_iast (κ := 127) (n := 24) (x := (gI σ 127 j) ^^^ (nI 1)) hx hb hK hP hJ hw hS (moM (by decide)) rfl (by decide) rfl rfl (by omega) (by omega) d_Md_spoil_29 (fun H locs hP hS => ?_)
    have hWf : WfM B (sI σ 127 j ((gI σ 127 j) ^^^ (nI 1))) := wfm_I hWf
    refine lv_iconst (v := (nI 1)) hx hb d_Md_spoil_30 (by decide) ?_
    exact x_zret (b := true) hx hb hr hlk hK hP hS d_Md_spoil_31 rfl h1.symm (by unfold mSpoil; rw [hj]; exact (if_pos hj3).symm)
  · refine lv_iconst (v := (nI 0)) hx hb d_Md_spoil_14 (by decide) ?_
    exact x_zret (b := false) hx hb hr hlk hK hP hS d_Md_spoil_15 rfl h1.symm (mSpoil_f h1)
set_option maxHeartbeats 4000000 in
set_option maxRecDepth 100000 in
theorem c_Md_lose (l : Launch) (D : va_G) (dA : Nat → ClassId) (ad : Nat → Nat) (hJ : Inj ad obM) (σ : Sg) (k : Int32) (B : Nat) (hWf : WfM B σ) (hB : B < 2 ^ 30) : CI l D clX (tyX dA) SM ad dA obM NL y_Md_lose w_Md_lose { frames := 1, cells := 0, slots := 0, locals := 24 } [.ref (ad 0), .int k] σ ((bI ((plc σ k).isSome))) (mLose σ k) := by
  refine x_of (WS := WS) (cc := b_Md_lose) (maxL := 3) (ret := (some .boolean)) (by decide) rfl (Nat.le_of_ble_eq_true rfl) ?_
  intro pp ee ss mm below meth cdd hx hb hml hr hlk ht hown hnm hN hK hP ls hl
  have hl : lv_has ls 3 [(0, .ref (ad 0)), (1, .int k)] := hl
  have hS : va_S (Ad ad obM) ss.heap ss.heap [] := va_S.rf
  have hw := swfM
  have hM0 := hWf.it
  have hM1 := hWf.ks
  have hM2 := hWf.bl
  have hM3 := hWf.wk
  have hM4 := hWf.bi
  have hM5 := hWf.qu
  have hM6 := hWf.tm
  have hM7 := hWf.la
  refine lv_aload_n hx hb d_Md_lose_0 rfl (lv_at hl 0 rfl) ?_
  refine lv_iload_n hx hb d_Md_lose_1 rfl (lv_at hl 1 rfl) ?_
  refine x_ci (x_rV (As := [.int k]) (rest := []) hx hb hml hown ht gW cs_Md_141 (c_Md_place l D dA ad hJ σ k B hWf (by omega)) rfl rfl (by decide) xc_Md hN hK hP (moM (by decide)) rfl rfl hl.1 rfl (Nat.le_of_ble_eq_true rfl) d_Md_lose_2 (by decide)) hS (fun H locs hP hS => ?_)
  refine lv_istore_n (lv' := [(2, .int (oI (plc σ k))), (0, .ref (ad 0)), (1, .int k)]) hx hb d_Md_lose_5 rfl hl (by decide) rfl (fun ls hl => ?_)
  refine lv_iload_n hx hb d_Md_lose_6 rfl (lv_at hl 0 rfl) ?_
  refine x_if_geO (n := 24) (tgt := 12) hx hb d_Md_lose_7 (by decide) ⟨plc_lt, by decide⟩ (fun j1 h1 hl1 => ?_) (fun h1 => ?_)
  · rw [h1] at hl
    have hl : lv_has ls 3 [(2, .int (nI j1)), (0, .ref (ad 0)), (1, .int k)] := hl
    refine lv_aload_n hx hb d_Md_lose_12 rfl (lv_at hl 1 rfl) ?_
    refine x_get (v := .ref (ad 23)) (k := 35) hx hb ht xc_Md hown hK hP (moM (by decide)) rfl (by decide) fl_Md_78 rfl rfl rfl d_Md_lose_13 ?_
    refine lv_iload_n hx hb d_Md_lose_16 rfl (lv_at hl 0 rfl) ?_
    refine lv_iconst (v := (nI 0)) hx hb d_Md_lose_17 (by decide) ?_
    refine x_nast (κ := 122) (n := 24) (x := 0) hx hb hK hP hJ hw hS (moM (by decide)) rfl (by decide) rfl rfl (by omega) (by omega) d_Md_lose_18 (fun H locs hP hS => ?_)
    refine lv_iconst (v := (nI 1)) hx hb d_Md_lose_19 (by decide) ?_
    exact x_zret (b := true) hx hb hr hlk hK hP hS d_Md_lose_20 rfl (by rw [h1]; rfl) (by unfold mLose; rw [h1])
  · refine lv_iconst (v := (nI 0)) hx hb d_Md_lose_10 (by decide) ?_
    exact x_zret (b := false) hx hb hr hlk hK hP hS d_Md_lose_11 rfl (by rw [h1]; rfl) (by unfold mLose; rw [h1])
set_option maxHeartbeats 4000000 in
set_option maxRecDepth 100000 in
theorem c_Md_wrong (l : Launch) (D : va_G) (dA : Nat → ClassId) (ad : Nat → Nat) (hJ : Inj ad obM) (σ : Sg) (s : Nat) (B : Nat) (hWf : WfM B σ) (hs : s < 24) : CI l D clX (tyX dA) SM ad dA obM NL y_Md_wrong w_Md_wrong { frames := 1, cells := 0, slots := 0, locals := 23 } [.ref (ad 0), .int (nI s)] σ ((bI (mWrong σ s))) σ := by
  refine x_of (WS := WS) (cc := b_Md_wrong) (maxL := 2) (ret := (some .boolean)) (by decide) rfl (Nat.le_of_ble_eq_true rfl) ?_
  intro pp ee ss mm below meth cdd hx hb hml hr hlk ht hown hnm hN hK hP ls hl
  have hl : lv_has ls 2 [(0, .ref (ad 0)), (1, .int (nI s))] := hl
  have hS : va_S (Ad ad obM) ss.heap ss.heap [] := va_S.rf
  have hw := swfM
  have hM0 := hWf.it
  have hM1 := hWf.ks
  have hM2 := hWf.bl
  have hM3 := hWf.wk
  have hM4 := hWf.bi
  have hM5 := hWf.qu
  have hM6 := hWf.tm
  have hM7 := hWf.la
  have hkd := hWf.kd s
  have hko := hWf.ko s
  refine lv_aload_n hx hb d_Md_wrong_0 rfl (lv_at hl 0 rfl) ?_
  refine x_get (v := .ref (ad 24)) (k := 36) hx hb ht xc_Md hown hK hP (moM (by decide)) rfl (by decide) fl_Md_81 rfl rfl rfl d_Md_wrong_1 ?_
  refine lv_iload_n hx hb d_Md_wrong_4 rfl (lv_at hl 1 rfl) ?_
  refine x_nald (κ := 123) (n := 24) hx hb hK hP (moM (by decide)) rfl (by decide) rfl rfl (by omega) (by omega) d_Md_wrong_5 ?_
  refine lv_iconst (v := (nI 4)) hx hb d_Md_wrong_6 (by decide) ?_
  refine x_icmp_neN (tgt := 64) hx hb d_Md_wrong_7 (by decide) (by omega) (by decide) (fun h1 => ?_) (fun h1 => ?_)
  · refine lv_aload_n hx hb d_Md_wrong_64 rfl (lv_at hl 0 rfl) ?_
    refine x_get (v := .ref (ad 24)) (k := 36) hx hb ht xc_Md hown hK hP (moM (by decide)) rfl (by decide) fl_Md_81 rfl rfl rfl d_Md_wrong_65 ?_
    refine lv_iload_n hx hb d_Md_wrong_68 rfl (lv_at hl 1 rfl) ?_
    refine x_nald (κ := 123) (n := 24) hx hb hK hP (moM (by decide)) rfl (by decide) rfl rfl (by omega) (by omega) d_Md_wrong_69 ?_
    refine lv_iconst (v := (nI 3)) hx hb d_Md_wrong_70 (by decide) ?_
    refine x_icmp_ltN (tgt := 97) hx hb d_Md_wrong_71 (by decide) (by omega) (by decide) (fun h2 => ?_) (fun h2 => ?_)
    · refine lv_iconst (v := (nI 0)) hx hb d_Md_wrong_97 (by decide) ?_
      exact x_zret (b := false) hx hb hr hlk hK hP hS d_Md_wrong_98 rfl (by simp [mWrong, h1, h2, Nat.not_le.mpr h2]) rfl
    · refine lv_aload_n hx hb d_Md_wrong_74 rfl (lv_at hl 0 rfl) ?_
      refine lv_aload_n hx hb d_Md_wrong_75 rfl (lv_at hl 0 rfl) ?_
      refine x_get (v := .ref (ad 28)) (k := 40) hx hb ht xc_Md hown hK hP (moM (by decide)) rfl (by decide) fl_Md_93 rfl rfl rfl d_Md_wrong_76 ?_
      refine lv_iload_n hx hb d_Md_wrong_79 rfl (lv_at hl 1 rfl) ?_
      refine x_iald (κ := 127) (n := 24) hx hb hK hP (moM (by decide)) rfl (by decide) rfl rfl (by omega) (by omega) d_Md_wrong_80 ?_
      refine x_ci (x_rV (As := [.int (gI σ 127 s)]) (rest := []) hx hb hml hown ht gW cs_Md_118 (c_Md_digest l D dA ad hJ σ (gI σ 127 s)) rfl rfl (by decide) xc_Md hN hK hP (moM (by decide)) rfl rfl hl.1 rfl (Nat.le_of_ble_eq_true rfl) d_Md_wrong_81 (by decide)) hS (fun H locs hP hS => ?_)
      refine lv_aload_n hx hb d_Md_wrong_84 rfl (lv_at hl 0 rfl) ?_
      refine x_get (v := .ref (ad 30)) (k := 42) hx hb ht xc_Md hown hK hP (moM (by decide)) rfl (by decide) fl_Md_99 rfl rfl rfl d_Md_wrong_85 ?_
      refine lv_iload_n hx hb d_Md_wrong_88 rfl (lv_at hl 1 rfl) ?_
      refine x_iald (κ := 129) (n := 24) hx hb hK hP (moM (by decide)) rfl (by decide) rfl rfl (by omega) (by omega) d_Md_wrong_89 ?_
      refine lv_icmp_eq (tgt := 97) hx hb d_Md_wrong_90 (by decide) (fun h3 => ?_) (fun h3 => ?_)
      · refine lv_iconst (v := (nI 0)) hx hb d_Md_wrong_97 (by decide) ?_
        exact x_zret (b := false) hx hb hr hlk hK hP hS d_Md_wrong_98 rfl (by simp [mWrong, h1, h2, h3]) rfl
      · refine lv_iconst (v := (nI 1)) hx hb d_Md_wrong_93 (by decide) ?_
        refine lv_goto (tgt := 98) hx hb d_Md_wrong_94 (by decide) ?_
        exact x_zret (b := true) hx hb hr hlk hK hP hS d_Md_wrong_98 rfl (by simp [mWrong, h1, h2, h3]) rfl
  · refine lv_aload_n hx hb d_Md_wrong_10 rfl (lv_at hl 0 rfl) ?_
    refine lv_aload_n hx hb d_Md_wrong_11 rfl (lv_at hl 0 rfl) ?_
    refine x_get (v := .ref (ad 28)) (k := 40) hx hb ht xc_Md hown hK hP (moM (by decide)) rfl (by decide) fl_Md_93 rfl rfl rfl d_Md_wrong_12 ?_
    refine lv_iload_n hx hb d_Md_wrong_15 rfl (lv_at hl 1 rfl) ?_
    refine x_iald (κ := 127) (n := 24) hx hb hK hP (moM (by decide)) rfl (by decide) rfl rfl (by omega) (by omega) d_Md_wrong_16 ?_
    refine x_ci (x_rV (As := [.int (gI σ 127 s)]) (rest := []) hx hb hml hown ht gW cs_Md_118 (c_Md_digest l D dA ad hJ σ (gI σ 127 s)) rfl rfl (by decide) xc_Md hN hK hP (moM (by decide)) rfl rfl hl.1 rfl (Nat.le_of_ble_eq_true rfl) d_Md_wrong_17 (by decide)) hS (fun H locs hP hS => ?_)
    refine lv_aload_n hx hb d_Md_wrong_20 rfl (lv_at hl 0 rfl) ?_
    refine x_get (v := .ref (ad 11)) (k := 16) hx hb ht xc_Md hown hK hP (moM (by decide)) rfl (by decide) fl_Md_42 rfl rfl rfl d_Md_wrong_21 ?_
    refine lv_aload_n hx hb d_Md_wrong_24 rfl (lv_at hl 0 rfl) ?_
    refine x_get (v := .ref (ad 26)) (k := 38) hx hb ht xc_Md hown hK hP (moM (by decide)) rfl (by decide) fl_Md_87 rfl rfl rfl d_Md_wrong_25 ?_
    refine lv_iload_n hx hb d_Md_wrong_28 rfl (lv_at hl 1 rfl) ?_
    refine x_nald (κ := 125) (n := 24) hx hb hK hP (moM (by decide)) rfl (by decide) rfl rfl (by omega) (by omega) d_Md_wrong_29 ?_
    refine x_iald (κ := 110) (n := 10) hx hb hK hP (moM (by decide)) rfl (by decide) rfl rfl (by omega) (by omega) d_Md_wrong_30 ?_
    refine lv_icmp_ne (tgt := 58) hx hb d_Md_wrong_31 (by decide) (fun h4 => ?_) (fun h4 => ?_)
    · refine lv_iconst (v := (nI 1)) hx hb d_Md_wrong_58 (by decide) ?_
      refine lv_goto (tgt := 63) hx hb d_Md_wrong_59 (by decide) ?_
      exact x_zret (b := true) hx hb hr hlk hK hP hS d_Md_wrong_63 rfl (by simp [mWrong, h1, h4]) rfl
    · refine lv_aload_n hx hb d_Md_wrong_34 rfl (lv_at hl 0 rfl) ?_
      refine lv_aload_n hx hb d_Md_wrong_35 rfl (lv_at hl 0 rfl) ?_
      refine x_get (v := .ref (ad 29)) (k := 41) hx hb ht xc_Md hown hK hP (moM (by decide)) rfl (by decide) fl_Md_96 rfl rfl rfl d_Md_wrong_36 ?_
      refine lv_iload_n hx hb d_Md_wrong_39 rfl (lv_at hl 1 rfl) ?_
      refine x_iald (κ := 128) (n := 24) hx hb hK hP (moM (by decide)) rfl (by decide) rfl rfl (by omega) (by omega) d_Md_wrong_40 ?_
      refine x_ci (x_rV (As := [.int (gI σ 128 s)]) (rest := []) hx hb hml hown ht gW cs_Md_118 (c_Md_digest l D dA ad hJ σ (gI σ 128 s)) rfl rfl (by decide) xc_Md hN hK hP (moM (by decide)) rfl rfl hl.1 rfl (Nat.le_of_ble_eq_true rfl) d_Md_wrong_41 (by decide)) hS (fun H locs hP hS => ?_)
      refine lv_aload_n hx hb d_Md_wrong_44 rfl (lv_at hl 0 rfl) ?_
      refine x_get (v := .ref (ad 12)) (k := 17) hx hb ht xc_Md hown hK hP (moM (by decide)) rfl (by decide) fl_Md_45 rfl rfl rfl d_Md_wrong_45 ?_
      refine lv_aload_n hx hb d_Md_wrong_48 rfl (lv_at hl 0 rfl) ?_
      refine x_get (v := .ref (ad 26)) (k := 38) hx hb ht xc_Md hown hK hP (moM (by decide)) rfl (by decide) fl_Md_87 rfl rfl rfl d_Md_wrong_49 ?_
      refine lv_iload_n hx hb d_Md_wrong_52 rfl (lv_at hl 1 rfl) ?_
      refine x_nald (κ := 125) (n := 24) hx hb hK hP (moM (by decide)) rfl (by decide) rfl rfl (by omega) (by omega) d_Md_wrong_53 ?_
      refine x_iald (κ := 111) (n := 10) hx hb hK hP (moM (by decide)) rfl (by decide) rfl rfl (by omega) (by omega) d_Md_wrong_54 ?_
      refine lv_icmp_eq (tgt := 62) hx hb d_Md_wrong_55 (by decide) (fun h5 => ?_) (fun h5 => ?_)
      · refine lv_iconst (v := (nI 0)) hx hb d_Md_wrong_62 (by decide) ?_
        exact x_zret (b := false) hx hb hr hlk hK hP hS d_Md_wrong_63 rfl (by simp [mWrong, h1, h4, h5]) rfl
      · refine lv_iconst (v := (nI 1)) hx hb d_Md_wrong_58 (by decide) ?_
        refine lv_goto (tgt := 63) hx hb d_Md_wrong_59 (by decide) ?_
        exact x_zret (b := true) hx hb hr hlk hK hP hS d_Md_wrong_63 rfl (by simp [mWrong, h1, h4, h5]) rfl
set_option maxHeartbeats 4000000 in
set_option maxRecDepth 100000 in
theorem c_Md_find (l : Launch) (D : va_G) (dA : Nat → ClassId) (ad : Nat → Nat) (hJ : Inj ad obM) (σ : Sg) (d : Int32) (B : Nat) (hWf : WfM B σ) : CI l D clX (tyX dA) SM ad dA obM NL y_Md_find w_Md_find { frames := 1, cells := 0, slots := 0, locals := 23 } [.ref (ad 0), .int d] σ ((oI (mFind σ d))) σ := by
  refine x_of (WS := WS) (cc := b_Md_find) (maxL := 3) (ret := (some .int)) (by decide) rfl (Nat.le_of_ble_eq_true rfl) ?_
  intro pp ee ss mm below meth cdd hx hb hml hr hlk ht hown hnm hN hK hP ls hl
  have hl : lv_has ls 3 [(0, .ref (ad 0)), (1, .int d)] := hl
  have hS : va_S (Ad ad obM) ss.heap ss.heap [] := va_S.rf
  have hw := swfM
  have hM0 := hWf.it
  have hM1 := hWf.ks
  have hM2 := hWf.bl
  have hM3 := hWf.wk
  have hM4 := hWf.bi
  have hM5 := hWf.qu
  have hM6 := hWf.tm
  have hM7 := hWf.la
  refine lv_iconst (v := (nI 0)) hx hb d_Md_find_0 (by decide) ?_
  refine lv_istore_n (lv' := [(2, .int (nI 0)), (0, .ref (ad 0)), (1, .int d)]) hx hb d_Md_find_1 rfl hl (by decide) rfl (fun ls hl => ?_)
  refine x_loop (pc := 2) (α := Nat) (nL := 3) (fun i => (gN σ 24 0) - i) (fun i => σ) (fun i => [(2, .int (nI i)), (1, .int d), (0, .ref (ad 0))]) (fun i => i ≤ gN σ 24 0 ∧ ∀ j, j < i → (fun k => decide (dg (gI σ 117 k) = d)) j = false) ?_ 0 ⟨Nat.zero_le _, fun j hj => absurd hj (Nat.not_lt_zero j)⟩ hP hS (lv_sub hl [0, 2, 1] rfl)
  clear hP hS hl
  intro i ⟨hi, h0⟩ H locs ls hP hS hl ih
  have hi : i ≤ gN σ 24 0 := hi
  have hl : lv_has ls 3 [(2, .int (nI i)), (1, .int d), (0, .ref (ad 0))] := hl
  have hP : va_P D clX (wd SM ad dA obM σ) H := hP
  refine lv_iload_n hx hb d_Md_find_2 rfl (lv_at hl 0 rfl) ?_
  refine lv_aload_n hx hb d_Md_find_3 rfl (lv_at hl 2 rfl) ?_
  refine x_get (v := .int (nI (gN σ 24 0))) (k := 24) hx hb ht xc_Md hown hK hP (moM (by decide)) rfl (by decide) fl_Md_147 rfl rfl rfl d_Md_find_4 ?_
  refine x_icmp_geN (tgt := 32) hx hb d_Md_find_7 (by decide) (by omega) (by omega) (fun h1 => ?_) (fun h1 => ?_)
  · refine lv_iconst (v := ((-1))) hx hb d_Md_find_32 (by decide) ?_
    exact x_iret hx hb hr hlk hK hP hS d_Md_find_33 (by unfold mFind; rw [fnd_none (fun j hj => h0 j (by omega))]; rfl) rfl
  · refine lv_aload_n hx hb d_Md_find_10 rfl (lv_at hl 2 rfl) ?_
    refine lv_aload_n hx hb d_Md_find_11 rfl (lv_at hl 2 rfl) ?_
    refine x_get (v := .ref (ad 18)) (k := 25) hx hb ht xc_Md hown hK hP (moM (by decide)) rfl (by decide) fl_Md_63 rfl rfl rfl d_Md_find_12 ?_
    refine lv_iload_n hx hb d_Md_find_15 rfl (lv_at hl 0 rfl) ?_
    refine x_iald (κ := 117) (n := 12) hx hb hK hP (moM (by decide)) rfl (by decide) rfl rfl (by omega) (by omega) d_Md_find_16 ?_
    refine x_ci (x_rV (As := [.int (gI σ 117 i)]) (rest := []) hx hb hml hown ht gW cs_Md_118 (c_Md_digest l D dA ad hJ σ (gI σ 117 i)) rfl rfl (by decide) xc_Md hN hK hP (moM (by decide)) rfl rfl hl.1 rfl (Nat.le_of_ble_eq_true rfl) d_Md_find_17 (by decide)) hS (fun H locs hP hS => ?_)
    refine lv_iload_n hx hb d_Md_find_20 rfl (lv_at hl 1 rfl) ?_
    refine lv_icmp_ne (tgt := 26) hx hb d_Md_find_21 (by decide) (fun h2 => ?_) (fun h2 => ?_)
    · refine lv_iinc (lv' := [(2, .int (nI (i + 1))), (1, .int d), (0, .ref (ad 0))]) (v := (nI (i + 1))) hx hb d_Md_find_26 hl (k := 0) rfl (nI_add _ _) (by decide) rfl (fun ls hl => ?_)
      refine lv_goto (tgt := 2) hx hb d_Md_find_29 (by decide) ?_
      exact ih (i + 1) ⟨by omega, lt_s h0 (decide_eq_false h2)⟩ (by omega) H locs ls hP hS (lv_sub hl [0, 1, 2] rfl)
    · refine lv_iload_n hx hb d_Md_find_24 rfl (lv_at hl 0 rfl) ?_
      exact x_iret hx hb hr hlk hK hP hS d_Md_find_25 (by unfold mFind; rw [fnd_some (by omega) (decide_eq_true h2) h0]; rfl) rfl
set_option maxHeartbeats 4000000 in
set_option maxRecDepth 100000 in
theorem c_Md_stored (l : Launch) (D : va_G) (dA : Nat → ClassId) (ad : Nat → Nat) (hJ : Inj ad obM) (σ : Sg) (d : Int32) (B : Nat) (hWf : WfM B σ) : CI l D clX (tyX dA) SM ad dA obM NL y_Md_stored w_Md_stored { frames := 2, cells := 0, slots := 0, locals := 45 } [.ref (ad 0), .int d] σ ((bI ((mFind σ d).isSome))) σ := by
  refine x_of (WS := WS) (cc := b_Md_stored) (maxL := 2) (ret := (some .boolean)) (by decide) rfl (Nat.le_of_ble_eq_true rfl) ?_
  intro pp ee ss mm below meth cdd hx hb hml hr hlk ht hown hnm hN hK hP ls hl
  have hl : lv_has ls 2 [(0, .ref (ad 0)), (1, .int d)] := hl
  have hS : va_S (Ad ad obM) ss.heap ss.heap [] := va_S.rf
  have hw := swfM
  have hM0 := hWf.it
  have hM1 := hWf.ks
  have hM2 := hWf.bl
  have hM3 := hWf.wk
  have hM4 := hWf.bi
  have hM5 := hWf.qu
  have hM6 := hWf.tm
  have hM7 := hWf.la
  refine lv_aload_n hx hb d_Md_stored_0 rfl (lv_at hl 0 rfl) ?_
  refine lv_iload_n hx hb d_Md_stored_1 rfl (lv_at hl 1 rfl) ?_
  refine x_ci (x_rV (As := [.int d]) (rest := []) hx hb hml hown ht gW cs_Md_150 (c_Md_find l D dA ad hJ σ d B hWf) rfl rfl (by decide) xc_Md hN hK hP (moM (by decide)) rfl rfl hl.1 rfl (Nat.le_of_ble_eq_true rfl) d_Md_stored_2 (by decide)) hS (fun H locs hP hS => ?_)
  refine x_if_ltO (n := 12) (tgt := 12) hx hb d_Md_stored_5 (by decide) ⟨mFind_lt hWf, by decide⟩ (fun h1 => ?_) (fun j1 h1 hl1 => ?_)
  · refine lv_iconst (v := (nI 0)) hx hb d_Md_stored_12 (by decide) ?_
    exact x_zret (b := false) hx hb hr hlk hK hP hS d_Md_stored_13 rfl (by rw [h1]; rfl) rfl
  · refine lv_iconst (v := (nI 1)) hx hb d_Md_stored_8 (by decide) ?_
    refine lv_goto (tgt := 13) hx hb d_Md_stored_9 (by decide) ?_
    exact x_zret (b := true) hx hb hr hlk hK hP hS d_Md_stored_13 rfl (by rw [h1]; rfl) rfl
