abbrev b_Md_takeAnswer : ByteArray := prog_12_method_33_code
def y_Md_takeAnswer : MethodName := ⟨"LeasedBuildsModel", "takeAnswer", "(II)V"⟩
def w_Md_takeAnswer : List Cond := .code y_Md_takeAnswer b_Md_takeAnswer 5 none :: WS
abbrev b_Md_tick : ByteArray := prog_12_method_34_code
def y_Md_tick : MethodName := ⟨"LeasedBuildsModel", "tick", "()I"⟩
def w_Md_tick : List Cond := .code y_Md_tick b_Md_tick 2 (some .int) :: WS
abbrev b_Md_deliver : ByteArray := prog_12_method_27_code
def y_Md_deliver : MethodName := ⟨"LeasedBuildsModel", "deliver", "(II)I"⟩
def w_Md_deliver : List Cond := .code y_Md_deliver b_Md_deliver 11 (some .int) :: WS
theorem d_Md_takeAnswer_0 : decode b_Md_takeAnswer 0 = .ok (.iconst 0, 1) := by decide +kernel
theorem d_Md_takeAnswer_1 : decode b_Md_takeAnswer 1 = .ok (.istore_n 3, 1) := by decide +kernel
theorem d_Md_takeAnswer_2 : decode b_Md_takeAnswer 2 = .ok (.iload_n 3, 1) := by decide +kernel
theorem d_Md_takeAnswer_3 : decode b_Md_takeAnswer 3 = .ok (.bipush 10, 2) := by decide +kernel
theorem d_Md_takeAnswer_5 : decode b_Md_takeAnswer 5 = .ok (.if_icmp .ge 63, 3) := by decide +kernel
theorem d_Md_takeAnswer_8 : decode b_Md_takeAnswer 8 = .ok (.aload_n 0, 1) := by decide +kernel
theorem d_Md_takeAnswer_9 : decode b_Md_takeAnswer 9 = .ok (.getfield 109, 3) := by decide +kernel
theorem d_Md_takeAnswer_12 : decode b_Md_takeAnswer 12 = .ok (.iconst 1, 1) := by decide +kernel
theorem d_Md_takeAnswer_13 : decode b_Md_takeAnswer 13 = .ok (.isub, 1) := by decide +kernel
theorem d_Md_takeAnswer_14 : decode b_Md_takeAnswer 14 = .ok (.istore 4, 2) := by decide +kernel
theorem d_Md_takeAnswer_16 : decode b_Md_takeAnswer 16 = .ok (.iload 4, 2) := by decide +kernel
theorem d_Md_takeAnswer_18 : decode b_Md_takeAnswer 18 = .ok (.ifCond .lt 44, 3) := by decide +kernel
theorem d_Md_takeAnswer_21 : decode b_Md_takeAnswer 21 = .ok (.aload_n 0, 1) := by decide +kernel
theorem d_Md_takeAnswer_22 : decode b_Md_takeAnswer 22 = .ok (.iload 4, 2) := by decide +kernel
theorem d_Md_takeAnswer_24 : decode b_Md_takeAnswer 24 = .ok (.invokevirtual 214, 3) := by decide +kernel
theorem d_Md_takeAnswer_27 : decode b_Md_takeAnswer 27 = .ok (.ifCond .eq 29, 3) := by decide +kernel
theorem d_Md_takeAnswer_30 : decode b_Md_takeAnswer 30 = .ok (.aload_n 0, 1) := by decide +kernel
theorem d_Md_takeAnswer_31 : decode b_Md_takeAnswer 31 = .ok (.iload 4, 2) := by decide +kernel
theorem d_Md_takeAnswer_33 : decode b_Md_takeAnswer 33 = .ok (.invokevirtual 131, 3) := by decide +kernel
theorem d_Md_takeAnswer_36 : decode b_Md_takeAnswer 36 = .ok (.iload_n 1, 1) := by decide +kernel
theorem d_Md_takeAnswer_37 : decode b_Md_takeAnswer 37 = .ok (.if_icmp .ne 19, 3) := by decide +kernel
theorem d_Md_takeAnswer_40 : decode b_Md_takeAnswer 40 = .ok (.aload_n 0, 1) := by decide +kernel
theorem d_Md_takeAnswer_41 : decode b_Md_takeAnswer 41 = .ok (.getfield 27, 3) := by decide +kernel
theorem d_Md_takeAnswer_44 : decode b_Md_takeAnswer 44 = .ok (.iload 4, 2) := by decide +kernel
theorem d_Md_takeAnswer_46 : decode b_Md_takeAnswer 46 = .ok (.iconst 1, 1) := by decide +kernel
theorem d_Md_takeAnswer_47 : decode b_Md_takeAnswer 47 = .ok (.bastore, 1) := by decide +kernel
theorem d_Md_takeAnswer_48 : decode b_Md_takeAnswer 48 = .ok (.aload_n 0, 1) := by decide +kernel
theorem d_Md_takeAnswer_49 : decode b_Md_takeAnswer 49 = .ok (.getfield 30, 3) := by decide +kernel
theorem d_Md_takeAnswer_52 : decode b_Md_takeAnswer 52 = .ok (.iload 4, 2) := by decide +kernel
theorem d_Md_takeAnswer_54 : decode b_Md_takeAnswer 54 = .ok (.iload_n 2, 1) := by decide +kernel
theorem d_Md_takeAnswer_55 : decode b_Md_takeAnswer 55 = .ok (.iastore, 1) := by decide +kernel
theorem d_Md_takeAnswer_56 : decode b_Md_takeAnswer 56 = .ok (.iinc 4 (-1), 3) := by decide +kernel
theorem d_Md_takeAnswer_59 : decode b_Md_takeAnswer 59 = .ok (.goto (-43), 3) := by decide +kernel
theorem d_Md_takeAnswer_62 : decode b_Md_takeAnswer 62 = .ok (.iinc 3 1, 3) := by decide +kernel
theorem d_Md_takeAnswer_65 : decode b_Md_takeAnswer 65 = .ok (.goto (-63), 3) := by decide +kernel
theorem d_Md_takeAnswer_68 : decode b_Md_takeAnswer 68 = .ok (.return_, 1) := by decide +kernel
theorem d_Md_tick_0 : decode b_Md_tick 0 = .ok (.aload_n 0, 1) := by decide +kernel
theorem d_Md_tick_1 : decode b_Md_tick 1 = .ok (.dup, 1) := by decide +kernel
theorem d_Md_tick_2 : decode b_Md_tick 2 = .ok (.getfield 138, 3) := by decide +kernel
theorem d_Md_tick_5 : decode b_Md_tick 5 = .ok (.iconst 1, 1) := by decide +kernel
theorem d_Md_tick_6 : decode b_Md_tick 6 = .ok (.iadd, 1) := by decide +kernel
theorem d_Md_tick_7 : decode b_Md_tick 7 = .ok (.putfield 138, 3) := by decide +kernel
theorem d_Md_tick_10 : decode b_Md_tick 10 = .ok (.aload_n 0, 1) := by decide +kernel
theorem d_Md_tick_11 : decode b_Md_tick 11 = .ok (.iconst 0, 1) := by decide +kernel
theorem d_Md_tick_12 : decode b_Md_tick 12 = .ok (.putfield 125, 3) := by decide +kernel
theorem d_Md_tick_15 : decode b_Md_tick 15 = .ok (.iconst 1, 1) := by decide +kernel
theorem d_Md_tick_16 : decode b_Md_tick 16 = .ok (.istore_n 1, 1) := by decide +kernel
theorem d_Md_tick_17 : decode b_Md_tick 17 = .ok (.iload_n 1, 1) := by decide +kernel
theorem d_Md_tick_18 : decode b_Md_tick 18 = .ok (.aload_n 0, 1) := by decide +kernel
theorem d_Md_tick_19 : decode b_Md_tick 19 = .ok (.getfield 102, 3) := by decide +kernel
theorem d_Md_tick_22 : decode b_Md_tick 22 = .ok (.if_icmp .gt 23, 3) := by decide +kernel
theorem d_Md_tick_25 : decode b_Md_tick 25 = .ok (.aload_n 0, 1) := by decide +kernel
theorem d_Md_tick_26 : decode b_Md_tick 26 = .ok (.getfield 66, 3) := by decide +kernel
theorem d_Md_tick_29 : decode b_Md_tick 29 = .ok (.iload_n 1, 1) := by decide +kernel
theorem d_Md_tick_30 : decode b_Md_tick 30 = .ok (.iaload, 1) := by decide +kernel
theorem d_Md_tick_31 : decode b_Md_tick 31 = .ok (.ifCond .le 8, 3) := by decide +kernel
theorem d_Md_tick_34 : decode b_Md_tick 34 = .ok (.aload_n 0, 1) := by decide +kernel
theorem d_Md_tick_35 : decode b_Md_tick 35 = .ok (.iload_n 1, 1) := by decide +kernel
theorem d_Md_tick_36 : decode b_Md_tick 36 = .ok (.invokevirtual 217, 3) := by decide +kernel
theorem d_Md_tick_39 : decode b_Md_tick 39 = .ok (.iinc 1 1, 3) := by decide +kernel
theorem d_Md_tick_42 : decode b_Md_tick 42 = .ok (.goto (-25), 3) := by decide +kernel
theorem d_Md_tick_45 : decode b_Md_tick 45 = .ok (.aload_n 0, 1) := by decide +kernel
theorem d_Md_tick_46 : decode b_Md_tick 46 = .ok (.getfield 7, 3) := by decide +kernel
theorem d_Md_tick_49 : decode b_Md_tick 49 = .ok (.iconst 0, 1) := by decide +kernel
theorem d_Md_tick_50 : decode b_Md_tick 50 = .ok (.baload, 1) := by decide +kernel
theorem d_Md_tick_51 : decode b_Md_tick 51 = .ok (.ifCond .ne 41, 3) := by decide +kernel
theorem d_Md_tick_54 : decode b_Md_tick 54 = .ok (.iconst 1, 1) := by decide +kernel
theorem d_Md_tick_55 : decode b_Md_tick 55 = .ok (.istore_n 1, 1) := by decide +kernel
theorem d_Md_tick_56 : decode b_Md_tick 56 = .ok (.iload_n 1, 1) := by decide +kernel
theorem d_Md_tick_57 : decode b_Md_tick 57 = .ok (.aload_n 0, 1) := by decide +kernel
theorem d_Md_tick_58 : decode b_Md_tick 58 = .ok (.getfield 102, 3) := by decide +kernel
theorem d_Md_tick_61 : decode b_Md_tick 61 = .ok (.if_icmp .gt 14, 3) := by decide +kernel
theorem d_Md_tick_64 : decode b_Md_tick 64 = .ok (.aload_n 0, 1) := by decide +kernel
theorem d_Md_tick_65 : decode b_Md_tick 65 = .ok (.iload_n 1, 1) := by decide +kernel
theorem d_Md_tick_66 : decode b_Md_tick 66 = .ok (.invokevirtual 220, 3) := by decide +kernel
theorem d_Md_tick_69 : decode b_Md_tick 69 = .ok (.iinc 1 1, 3) := by decide +kernel
theorem d_Md_tick_72 : decode b_Md_tick 72 = .ok (.goto (-16), 3) := by decide +kernel
theorem d_Md_tick_75 : decode b_Md_tick 75 = .ok (.iconst 0, 1) := by decide +kernel
theorem d_Md_tick_76 : decode b_Md_tick 76 = .ok (.istore_n 1, 1) := by decide +kernel
theorem d_Md_tick_77 : decode b_Md_tick 77 = .ok (.iload_n 1, 1) := by decide +kernel
theorem d_Md_tick_78 : decode b_Md_tick 78 = .ok (.iconst 4, 1) := by decide +kernel
theorem d_Md_tick_79 : decode b_Md_tick 79 = .ok (.if_icmp .ge 13, 3) := by decide +kernel
theorem d_Md_tick_82 : decode b_Md_tick 82 = .ok (.aload_n 0, 1) := by decide +kernel
theorem d_Md_tick_83 : decode b_Md_tick 83 = .ok (.invokevirtual 223, 3) := by decide +kernel
theorem d_Md_tick_86 : decode b_Md_tick 86 = .ok (.iinc 1 1, 3) := by decide +kernel
theorem d_Md_tick_89 : decode b_Md_tick 89 = .ok (.goto (-12), 3) := by decide +kernel
theorem d_Md_tick_92 : decode b_Md_tick 92 = .ok (.iconst 0, 1) := by decide +kernel
theorem d_Md_tick_93 : decode b_Md_tick 93 = .ok (.istore_n 1, 1) := by decide +kernel
theorem d_Md_tick_94 : decode b_Md_tick 94 = .ok (.iload_n 1, 1) := by decide +kernel
theorem d_Md_tick_95 : decode b_Md_tick 95 = .ok (.aload_n 0, 1) := by decide +kernel
theorem d_Md_tick_96 : decode b_Md_tick 96 = .ok (.getfield 109, 3) := by decide +kernel
theorem d_Md_tick_99 : decode b_Md_tick 99 = .ok (.if_icmp .ge 46, 3) := by decide +kernel
theorem d_Md_tick_102 : decode b_Md_tick 102 = .ok (.aload_n 0, 1) := by decide +kernel
theorem d_Md_tick_103 : decode b_Md_tick 103 = .ok (.iload_n 1, 1) := by decide +kernel
theorem d_Md_tick_104 : decode b_Md_tick 104 = .ok (.invokevirtual 214, 3) := by decide +kernel
theorem d_Md_tick_107 : decode b_Md_tick 107 = .ok (.ifCond .eq 32, 3) := by decide +kernel
theorem d_Md_tick_110 : decode b_Md_tick 110 = .ok (.aload_n 0, 1) := by decide +kernel
theorem d_Md_tick_111 : decode b_Md_tick 111 = .ok (.getfield 33, 3) := by decide +kernel
theorem d_Md_tick_114 : decode b_Md_tick 114 = .ok (.iload_n 1, 1) := by decide +kernel
theorem d_Md_tick_115 : decode b_Md_tick 115 = .ok (.baload, 1) := by decide +kernel
theorem d_Md_tick_116 : decode b_Md_tick 116 = .ok (.ifCond .eq 18, 3) := by decide +kernel
theorem d_Md_tick_119 : decode b_Md_tick 119 = .ok (.aload_n 0, 1) := by decide +kernel
theorem d_Md_tick_120 : decode b_Md_tick 120 = .ok (.getfield 138, 3) := by decide +kernel
theorem d_Md_tick_123 : decode b_Md_tick 123 = .ok (.aload_n 0, 1) := by decide +kernel
theorem d_Md_tick_124 : decode b_Md_tick 124 = .ok (.getfield 36, 3) := by decide +kernel
theorem d_Md_tick_127 : decode b_Md_tick 127 = .ok (.iload_n 1, 1) := by decide +kernel
theorem d_Md_tick_128 : decode b_Md_tick 128 = .ok (.iaload, 1) := by decide +kernel
theorem d_Md_tick_129 : decode b_Md_tick 129 = .ok (.isub, 1) := by decide +kernel
theorem d_Md_tick_130 : decode b_Md_tick 130 = .ok (.iconst 5, 1) := by decide +kernel
theorem d_Md_tick_131 : decode b_Md_tick 131 = .ok (.if_icmp .lt 8, 3) := by decide +kernel
theorem d_Md_tick_134 : decode b_Md_tick 134 = .ok (.aload_n 0, 1) := by decide +kernel
theorem d_Md_tick_135 : decode b_Md_tick 135 = .ok (.iload_n 1, 1) := by decide +kernel
theorem d_Md_tick_136 : decode b_Md_tick 136 = .ok (.invokevirtual 202, 3) := by decide +kernel
theorem d_Md_tick_139 : decode b_Md_tick 139 = .ok (.iinc 1 1, 3) := by decide +kernel
theorem d_Md_tick_142 : decode b_Md_tick 142 = .ok (.goto (-48), 3) := by decide +kernel
theorem d_Md_tick_145 : decode b_Md_tick 145 = .ok (.aload_n 0, 1) := by decide +kernel
theorem d_Md_tick_146 : decode b_Md_tick 146 = .ok (.getfield 125, 3) := by decide +kernel
theorem d_Md_tick_149 : decode b_Md_tick 149 = .ok (.ireturn, 1) := by decide +kernel
theorem d_Md_deliver_0 : decode b_Md_deliver 0 = .ok (.aload_n 0, 1) := by decide +kernel
theorem d_Md_deliver_1 : decode b_Md_deliver 1 = .ok (.iload_n 1, 1) := by decide +kernel
theorem d_Md_deliver_2 : decode b_Md_deliver 2 = .ok (.invokevirtual 141, 3) := by decide +kernel
theorem d_Md_deliver_5 : decode b_Md_deliver 5 = .ok (.istore_n 3, 1) := by decide +kernel
theorem d_Md_deliver_6 : decode b_Md_deliver 6 = .ok (.iload_n 3, 1) := by decide +kernel
theorem d_Md_deliver_7 : decode b_Md_deliver 7 = .ok (.ifCond .ge 5, 3) := by decide +kernel
theorem d_Md_deliver_10 : decode b_Md_deliver 10 = .ok (.iconst (-1), 1) := by decide +kernel
theorem d_Md_deliver_11 : decode b_Md_deliver 11 = .ok (.ireturn, 1) := by decide +kernel
theorem d_Md_deliver_12 : decode b_Md_deliver 12 = .ok (.aload_n 0, 1) := by decide +kernel
theorem d_Md_deliver_13 : decode b_Md_deliver 13 = .ok (.getfield 78, 3) := by decide +kernel
theorem d_Md_deliver_16 : decode b_Md_deliver 16 = .ok (.iload_n 3, 1) := by decide +kernel
theorem d_Md_deliver_17 : decode b_Md_deliver 17 = .ok (.iconst 0, 1) := by decide +kernel
theorem d_Md_deliver_18 : decode b_Md_deliver 18 = .ok (.iastore, 1) := by decide +kernel
theorem d_Md_deliver_19 : decode b_Md_deliver 19 = .ok (.aload_n 0, 1) := by decide +kernel
theorem d_Md_deliver_20 : decode b_Md_deliver 20 = .ok (.getfield 81, 3) := by decide +kernel
theorem d_Md_deliver_23 : decode b_Md_deliver 23 = .ok (.iload_n 3, 1) := by decide +kernel
theorem d_Md_deliver_24 : decode b_Md_deliver 24 = .ok (.iaload, 1) := by decide +kernel
theorem d_Md_deliver_25 : decode b_Md_deliver 25 = .ok (.istore 4, 2) := by decide +kernel
theorem d_Md_deliver_27 : decode b_Md_deliver 27 = .ok (.aload_n 0, 1) := by decide +kernel
theorem d_Md_deliver_28 : decode b_Md_deliver 28 = .ok (.getfield 84, 3) := by decide +kernel
theorem d_Md_deliver_31 : decode b_Md_deliver 31 = .ok (.iload_n 3, 1) := by decide +kernel
theorem d_Md_deliver_32 : decode b_Md_deliver 32 = .ok (.iaload, 1) := by decide +kernel
theorem d_Md_deliver_33 : decode b_Md_deliver 33 = .ok (.istore 5, 2) := by decide +kernel
theorem d_Md_deliver_35 : decode b_Md_deliver 35 = .ok (.iload 5, 2) := by decide +kernel
theorem d_Md_deliver_37 : decode b_Md_deliver 37 = .ok (.bipush 9, 2) := by decide +kernel
theorem d_Md_deliver_39 : decode b_Md_deliver 39 = .ok (.if_icmp .eq 15, 3) := by decide +kernel
theorem d_Md_deliver_42 : decode b_Md_deliver 42 = .ok (.aload_n 0, 1) := by decide +kernel
theorem d_Md_deliver_43 : decode b_Md_deliver 43 = .ok (.getfield 7, 3) := by decide +kernel
theorem d_Md_deliver_46 : decode b_Md_deliver 46 = .ok (.iload 5, 2) := by decide +kernel
theorem d_Md_deliver_48 : decode b_Md_deliver 48 = .ok (.baload, 1) := by decide +kernel
theorem d_Md_deliver_49 : decode b_Md_deliver 49 = .ok (.ifCond .eq 5, 3) := by decide +kernel
theorem d_Md_deliver_52 : decode b_Md_deliver 52 = .ok (.iconst 0, 1) := by decide +kernel
theorem d_Md_deliver_53 : decode b_Md_deliver 53 = .ok (.ireturn, 1) := by decide +kernel
theorem d_Md_deliver_54 : decode b_Md_deliver 54 = .ok (.aload_n 0, 1) := by decide +kernel
theorem d_Md_deliver_55 : decode b_Md_deliver 55 = .ok (.iload_n 3, 1) := by decide +kernel
theorem d_Md_deliver_56 : decode b_Md_deliver 56 = .ok (.invokevirtual 169, 3) := by decide +kernel
theorem d_Md_deliver_59 : decode b_Md_deliver 59 = .ok (.ifCond .eq 16, 3) := by decide +kernel
theorem d_Md_deliver_62 : decode b_Md_deliver 62 = .ok (.aload_n 0, 1) := by decide +kernel
theorem d_Md_deliver_63 : decode b_Md_deliver 63 = .ok (.dup, 1) := by decide +kernel
theorem d_Md_deliver_64 : decode b_Md_deliver 64 = .ok (.getfield 172, 3) := by decide +kernel
theorem d_Md_deliver_67 : decode b_Md_deliver 67 = .ok (.iconst 1, 1) := by decide +kernel
theorem d_Md_deliver_68 : decode b_Md_deliver 68 = .ok (.iadd, 1) := by decide +kernel
theorem d_Md_deliver_69 : decode b_Md_deliver 69 = .ok (.putfield 172, 3) := by decide +kernel
theorem d_Md_deliver_72 : decode b_Md_deliver 72 = .ok (.iload 4, 2) := by decide +kernel
theorem d_Md_deliver_74 : decode b_Md_deliver 74 = .ok (.ireturn, 1) := by decide +kernel
theorem d_Md_deliver_75 : decode b_Md_deliver 75 = .ok (.aload_n 0, 1) := by decide +kernel
theorem d_Md_deliver_76 : decode b_Md_deliver 76 = .ok (.iconst 0, 1) := by decide +kernel
theorem d_Md_deliver_77 : decode b_Md_deliver 77 = .ok (.putfield 163, 3) := by decide +kernel
theorem d_Md_deliver_80 : decode b_Md_deliver 80 = .ok (.aload_n 0, 1) := by decide +kernel
theorem d_Md_deliver_81 : decode b_Md_deliver 81 = .ok (.getfield 87, 3) := by decide +kernel
theorem d_Md_deliver_84 : decode b_Md_deliver 84 = .ok (.iload_n 3, 1) := by decide +kernel
theorem d_Md_deliver_85 : decode b_Md_deliver 85 = .ok (.iaload, 1) := by decide +kernel
theorem d_Md_deliver_86 : decode b_Md_deliver 86 = .ok (.istore 6, 2) := by decide +kernel
theorem d_Md_deliver_88 : decode b_Md_deliver 88 = .ok (.aload_n 0, 1) := by decide +kernel
theorem d_Md_deliver_89 : decode b_Md_deliver 89 = .ok (.getfield 90, 3) := by decide +kernel
theorem d_Md_deliver_92 : decode b_Md_deliver 92 = .ok (.iload_n 3, 1) := by decide +kernel
theorem d_Md_deliver_93 : decode b_Md_deliver 93 = .ok (.iaload, 1) := by decide +kernel
theorem d_Md_deliver_94 : decode b_Md_deliver 94 = .ok (.istore 7, 2) := by decide +kernel
theorem d_Md_deliver_96 : decode b_Md_deliver 96 = .ok (.aload_n 0, 1) := by decide +kernel
theorem d_Md_deliver_97 : decode b_Md_deliver 97 = .ok (.getfield 93, 3) := by decide +kernel
theorem d_Md_deliver_100 : decode b_Md_deliver 100 = .ok (.iload_n 3, 1) := by decide +kernel
theorem d_Md_deliver_101 : decode b_Md_deliver 101 = .ok (.iaload, 1) := by decide +kernel
theorem d_Md_deliver_102 : decode b_Md_deliver 102 = .ok (.istore 8, 2) := by decide +kernel
theorem d_Md_deliver_104 : decode b_Md_deliver 104 = .ok (.aload_n 0, 1) := by decide +kernel
theorem d_Md_deliver_105 : decode b_Md_deliver 105 = .ok (.getfield 96, 3) := by decide +kernel
theorem d_Md_deliver_108 : decode b_Md_deliver 108 = .ok (.iload_n 3, 1) := by decide +kernel
theorem d_Md_deliver_109 : decode b_Md_deliver 109 = .ok (.iaload, 1) := by decide +kernel
theorem d_Md_deliver_110 : decode b_Md_deliver 110 = .ok (.istore 9, 2) := by decide +kernel
theorem d_Md_deliver_112 : decode b_Md_deliver 112 = .ok (.aload_n 0, 1) := by decide +kernel
theorem d_Md_deliver_113 : decode b_Md_deliver 113 = .ok (.getfield 99, 3) := by decide +kernel
theorem d_Md_deliver_116 : decode b_Md_deliver 116 = .ok (.iload_n 3, 1) := by decide +kernel
theorem d_Md_deliver_117 : decode b_Md_deliver 117 = .ok (.iaload, 1) := by decide +kernel
theorem d_Md_deliver_118 : decode b_Md_deliver 118 = .ok (.istore 10, 2) := by decide +kernel
theorem d_Md_deliver_120 : decode b_Md_deliver 120 = .ok (.iload 4, 2) := by decide +kernel
theorem d_Md_deliver_122 : decode b_Md_deliver 122 = .ok (.iconst 1, 1) := by decide +kernel
theorem d_Md_deliver_123 : decode b_Md_deliver 123 = .ok (.if_icmp .ne 11, 3) := by decide +kernel
theorem d_Md_deliver_126 : decode b_Md_deliver 126 = .ok (.aload_n 0, 1) := by decide +kernel
theorem d_Md_deliver_127 : decode b_Md_deliver 127 = .ok (.iload 6, 2) := by decide +kernel
theorem d_Md_deliver_129 : decode b_Md_deliver 129 = .ok (.iload 7, 2) := by decide +kernel
theorem d_Md_deliver_131 : decode b_Md_deliver 131 = .ok (.invokevirtual 175, 3) := by decide +kernel
theorem d_Md_deliver_134 : decode b_Md_deliver 134 = .ok (.iload 4, 2) := by decide +kernel
theorem d_Md_deliver_136 : decode b_Md_deliver 136 = .ok (.iconst 2, 1) := by decide +kernel
theorem d_Md_deliver_137 : decode b_Md_deliver 137 = .ok (.if_icmp .ne 13, 3) := by decide +kernel
theorem d_Md_deliver_140 : decode b_Md_deliver 140 = .ok (.aload_n 0, 1) := by decide +kernel
theorem d_Md_deliver_141 : decode b_Md_deliver 141 = .ok (.iload 7, 2) := by decide +kernel
theorem d_Md_deliver_143 : decode b_Md_deliver 143 = .ok (.iload 8, 2) := by decide +kernel
theorem d_Md_deliver_145 : decode b_Md_deliver 145 = .ok (.iload 9, 2) := by decide +kernel
theorem d_Md_deliver_147 : decode b_Md_deliver 147 = .ok (.invokevirtual 179, 3) := by decide +kernel
theorem d_Md_deliver_150 : decode b_Md_deliver 150 = .ok (.iload 4, 2) := by decide +kernel
theorem d_Md_deliver_152 : decode b_Md_deliver 152 = .ok (.iconst 3, 1) := by decide +kernel
theorem d_Md_deliver_153 : decode b_Md_deliver 153 = .ok (.if_icmp .ne 12, 3) := by decide +kernel
theorem d_Md_deliver_156 : decode b_Md_deliver 156 = .ok (.aload_n 0, 1) := by decide +kernel
theorem d_Md_deliver_157 : decode b_Md_deliver 157 = .ok (.iload 10, 2) := by decide +kernel
theorem d_Md_deliver_159 : decode b_Md_deliver 159 = .ok (.iload 8, 2) := by decide +kernel
theorem d_Md_deliver_161 : decode b_Md_deliver 161 = .ok (.iload_n 2, 1) := by decide +kernel
theorem d_Md_deliver_162 : decode b_Md_deliver 162 = .ok (.invokevirtual 183, 3) := by decide +kernel
theorem d_Md_deliver_165 : decode b_Md_deliver 165 = .ok (.iload 4, 2) := by decide +kernel
theorem d_Md_deliver_167 : decode b_Md_deliver 167 = .ok (.iconst 4, 1) := by decide +kernel
theorem d_Md_deliver_168 : decode b_Md_deliver 168 = .ok (.if_icmp .ne 15, 3) := by decide +kernel
theorem d_Md_deliver_171 : decode b_Md_deliver 171 = .ok (.aload_n 0, 1) := by decide +kernel
theorem d_Md_deliver_172 : decode b_Md_deliver 172 = .ok (.iload 5, 2) := by decide +kernel
theorem d_Md_deliver_174 : decode b_Md_deliver 174 = .ok (.iload 6, 2) := by decide +kernel
theorem d_Md_deliver_176 : decode b_Md_deliver 176 = .ok (.iload 8, 2) := by decide +kernel
theorem d_Md_deliver_178 : decode b_Md_deliver 178 = .ok (.iload 9, 2) := by decide +kernel
theorem d_Md_deliver_180 : decode b_Md_deliver 180 = .ok (.invokevirtual 186, 3) := by decide +kernel
theorem d_Md_deliver_183 : decode b_Md_deliver 183 = .ok (.iload 4, 2) := by decide +kernel
theorem d_Md_deliver_185 : decode b_Md_deliver 185 = .ok (.iconst 5, 1) := by decide +kernel
theorem d_Md_deliver_186 : decode b_Md_deliver 186 = .ok (.if_icmp .ne 14, 3) := by decide +kernel
theorem d_Md_deliver_189 : decode b_Md_deliver 189 = .ok (.aload_n 0, 1) := by decide +kernel
theorem d_Md_deliver_190 : decode b_Md_deliver 190 = .ok (.iload 6, 2) := by decide +kernel
theorem d_Md_deliver_192 : decode b_Md_deliver 192 = .ok (.iload 10, 2) := by decide +kernel
theorem d_Md_deliver_194 : decode b_Md_deliver 194 = .ok (.iload 8, 2) := by decide +kernel
theorem d_Md_deliver_196 : decode b_Md_deliver 196 = .ok (.iload_n 2, 1) := by decide +kernel
theorem d_Md_deliver_197 : decode b_Md_deliver 197 = .ok (.invokevirtual 190, 3) := by decide +kernel
theorem d_Md_deliver_200 : decode b_Md_deliver 200 = .ok (.iload 4, 2) := by decide +kernel
theorem d_Md_deliver_202 : decode b_Md_deliver 202 = .ok (.bipush 6, 2) := by decide +kernel
theorem d_Md_deliver_204 : decode b_Md_deliver 204 = .ok (.if_icmp .ne 11, 3) := by decide +kernel
theorem d_Md_deliver_207 : decode b_Md_deliver 207 = .ok (.aload_n 0, 1) := by decide +kernel
theorem d_Md_deliver_208 : decode b_Md_deliver 208 = .ok (.iload 6, 2) := by decide +kernel
theorem d_Md_deliver_210 : decode b_Md_deliver 210 = .ok (.iload 8, 2) := by decide +kernel
theorem d_Md_deliver_212 : decode b_Md_deliver 212 = .ok (.invokevirtual 193, 3) := by decide +kernel
theorem d_Md_deliver_215 : decode b_Md_deliver 215 = .ok (.iload 4, 2) := by decide +kernel
theorem d_Md_deliver_217 : decode b_Md_deliver 217 = .ok (.ireturn, 1) := by decide +kernel
theorem cs_Md_214 : CwV WS "LeasedBuildsModel" 214 "LeasedBuildsModel" y_Md_ready b_Md_ready 2 (some .boolean) 1 := ⟨⟨ms (i := 1003) (by decide +kernel) rfl, ms (i := 1000) (by decide +kernel) rfl, ms (i := 1002) (by decide +kernel) rfl, mp (i := 35) (by decide +kernel) rfl, ms (i := 11) (by decide +kernel) rfl⟩, by decide +kernel⟩
theorem cs_Md_217 : CwV WS "LeasedBuildsModel" 217 "LeasedBuildsModel" y_Md_work b_Md_work 6 none 1 := ⟨⟨ms (i := 1011) (by decide +kernel) rfl, ms (i := 1008) (by decide +kernel) rfl, ms (i := 1010) (by decide +kernel) rfl, mp (i := 36) (by decide +kernel) rfl, ms (i := 11) (by decide +kernel) rfl⟩, by decide +kernel⟩
theorem cs_Md_220 : CwV WS "LeasedBuildsModel" 220 "LeasedBuildsModel" y_Md_expire b_Md_expire 3 none 1 := ⟨⟨ms (i := 1022) (by decide +kernel) rfl, ms (i := 1019) (by decide +kernel) rfl, ms (i := 1021) (by decide +kernel) rfl, mp (i := 38) (by decide +kernel) rfl, ms (i := 11) (by decide +kernel) rfl⟩, by decide +kernel⟩
theorem cs_Md_223 : CwV WS "LeasedBuildsModel" 223 "LeasedBuildsModel" y_Md_lend b_Md_lend 5 none 0 := ⟨⟨ms (i := 1030) (by decide +kernel) rfl, ms (i := 1027) (by decide +kernel) rfl, ms (i := 1029) (by decide +kernel) rfl, mp (i := 40) (by decide +kernel) rfl, ms (i := 11) (by decide +kernel) rfl⟩, by decide +kernel⟩
theorem cs_Md_169 : CwV WS "LeasedBuildsModel" 169 "LeasedBuildsModel" y_Md_wrong b_Md_wrong 2 (some .boolean) 1 := ⟨⟨ms (i := 959) (by decide +kernel) rfl, ms (i := 956) (by decide +kernel) rfl, ms (i := 958) (by decide +kernel) rfl, mp (i := 24) (by decide +kernel) rfl, ms (i := 11) (by decide +kernel) rfl⟩, by decide +kernel⟩
theorem cs_Md_175 : CwV WS "LeasedBuildsModel" 175 "LeasedBuildsModel" y_Md_takeAsk b_Md_takeAsk 6 none 2 := ⟨⟨ms (i := 963) (by decide +kernel) rfl, ms (i := 960) (by decide +kernel) rfl, ms (i := 962) (by decide +kernel) rfl, mp (i := 25) (by decide +kernel) rfl, ms (i := 11) (by decide +kernel) rfl⟩, by decide +kernel⟩
theorem cs_Md_179 : CwV WS "LeasedBuildsModel" 179 "LeasedBuildsModel" y_Md_takeLack b_Md_takeLack 6 none 3 := ⟨⟨ms (i := 971) (by decide +kernel) rfl, ms (i := 968) (by decide +kernel) rfl, ms (i := 970) (by decide +kernel) rfl, mp (i := 27) (by decide +kernel) rfl, ms (i := 11) (by decide +kernel) rfl⟩, by decide +kernel⟩
theorem cs_Md_183 : CwV WS "LeasedBuildsModel" 183 "LeasedBuildsModel" y_Md_takePut b_Md_takePut 4 none 3 := ⟨⟨ms (i := 983) (by decide +kernel) rfl, ms (i := 980) (by decide +kernel) rfl, ms (i := 982) (by decide +kernel) rfl, mp (i := 30) (by decide +kernel) rfl, ms (i := 11) (by decide +kernel) rfl⟩, by decide +kernel⟩
theorem cs_Md_186 : CwV WS "LeasedBuildsModel" 186 "LeasedBuildsModel" y_Md_takeLease b_Md_takeLease 5 none 4 := ⟨⟨ms (i := 991) (by decide +kernel) rfl, ms (i := 988) (by decide +kernel) rfl, ms (i := 990) (by decide +kernel) rfl, mp (i := 32) (by decide +kernel) rfl, ms (i := 11) (by decide +kernel) rfl⟩, by decide +kernel⟩
theorem cs_Md_190 : CwV WS "LeasedBuildsModel" 190 "LeasedBuildsModel" y_Md_takeResult b_Md_takeResult 5 none 4 := ⟨⟨ms (i := 995) (by decide +kernel) rfl, ms (i := 992) (by decide +kernel) rfl, ms (i := 994) (by decide +kernel) rfl, mp (i := 33) (by decide +kernel) rfl, ms (i := 11) (by decide +kernel) rfl⟩, by decide +kernel⟩
theorem cs_Md_193 : CwV WS "LeasedBuildsModel" 193 "LeasedBuildsModel" y_Md_takeAnswer b_Md_takeAnswer 5 none 2 := ⟨⟨ms (i := 999) (by decide +kernel) rfl, ms (i := 996) (by decide +kernel) rfl, ms (i := 998) (by decide +kernel) rfl, mp (i := 34) (by decide +kernel) rfl, ms (i := 11) (by decide +kernel) rfl⟩, by decide +kernel⟩
set_option maxHeartbeats 4000000 in
set_option maxRecDepth 100000 in
theorem c_Md_takeAnswer (l : Launch) (D : va_G) (dA : Nat → ClassId) (ad : Nat → Nat) (hJ : Inj ad obM) (σ : Sg) (k : Nat) (c : Int32) (B : Nat) (hWf : WfM B σ) (hKI : KInv σ) (hk : k < 10) : CV l D clX (tyX dA) SM ad dA obM NL y_Md_takeAnswer w_Md_takeAnswer { frames := 2, cells := 0, slots := 0, locals := 47 } [.ref (ad 0), .int (nI k), .int c] σ (anO σ k c 10) := by
  refine x_of (WS := WS) (cc := b_Md_takeAnswer) (maxL := 5) (ret := none) (by decide) rfl (Nat.le_of_ble_eq_true rfl) ?_
  intro pp ee ss mm below meth cdd hx hb hml hr hlk ht hown hnm hN hK hP ls hl
  have hl : lv_has ls 5 [(0, .ref (ad 0)), (1, .int (nI k)), (2, .int c)] := hl
  have hS : va_S (Ad ad obM) ss.heap ss.heap [] := va_S.rf
  have hw := swfM
  have hM0 := hWf.it
  have hM1 := hWf.ks
  have hM2 := hWf.bl
  have hM3 := hWf.wk
  have hM4 := hWf.bi
  have hM5 := hWf.qu
  have hM6 := hWf.tm
  have hM7 := hWf.la
  have hW0 := hWf
  refine lv_iconst (v := (nI 0)) hx hb d_Md_takeAnswer_0 (by decide) ?_
  refine lv_istore_n (lv' := [(3, .int (nI 0)), (0, .ref (ad 0)), (1, .int (nI k)), (2, .int c)]) hx hb d_Md_takeAnswer_1 rfl hl (by decide) rfl (fun ls hl => ?_)
  refine x_loop (pc := 2) (α := Nat) (nL := 5) (fun r => 10 - r) (fun r => anO σ k c r) (fun r => [(3, .int (nI r)), (2, .int c), (1, .int (nI k)), (0, .ref (ad 0))]) (fun r => r ≤ 10) ?_ 0 (by decide) hP hS (lv_sub hl [0, 3, 2, 1] rfl)
  clear hP hS hl
  intro r hr9 H locs ls hP hS hl ih
  have hr9 : r ≤ 10 := hr9
  have hWf : WfM B (anO σ k c r) := (anO_ok hW0 hKI r).1
  have hKr : KInv (anO σ k c r) := (anO_ok hW0 hKI r).2
  have hl : lv_has ls 5 [(3, .int (nI r)), (2, .int c), (1, .int (nI k)), (0, .ref (ad 0))] := hl
  have hP : va_P D clX (wd SM ad dA obM (anO σ k c r)) H := hP
  refine lv_iload_n hx hb d_Md_takeAnswer_2 rfl (lv_at hl 0 rfl) ?_
  refine lv_bipush (v := (nI 10)) hx hb d_Md_takeAnswer_3 (by decide) ?_
  refine x_icmp_geN (tgt := 68) hx hb d_Md_takeAnswer_5 (by decide) (by omega) (by decide) (fun h1 => ?_) (fun h1 => ?_)
  · exact x_vret hx hb hr hlk hK hP hS d_Md_takeAnswer_68 (by rw [show r = 10 by omega])
  · refine lv_aload_n hx hb d_Md_takeAnswer_8 rfl (lv_at hl 3 rfl) ?_
    refine x_get (v := .int (nI (gN σ 5 0))) (k := 5) hx hb ht xc_Md hown hK hP (moM (by decide)) rfl (by decide) fl_Md_109 rfl rfl (congrArg (fun z => Value.int (nI z)) (anO_N σ k c (by decide) 0 r)) d_Md_takeAnswer_9 ?_
    refine lv_iconst (v := (nI 1)) hx hb d_Md_takeAnswer_12 (by decide) ?_
    refine lv_isub hx hb d_Md_takeAnswer_13 ?_
    refine lv_istore (lv' := [(4, .int (nI (gN σ 5 0) - nI 1)), (3, .int (nI r)), (2, .int c), (1, .int (nI k)), (0, .ref (ad 0))]) hx hb d_Md_takeAnswer_14 hl (by decide) rfl (fun ls hl => ?_)
    refine x_loop (pc := 16) (α := Nat × Sg) (nL := 5) (fun a => a.1) (fun a => a.2) (fun a => [(4, .int (nI a.1 - nI 1)), (3, .int (nI r)), (2, .int c), (1, .int (nI k)), (0, .ref (ad 0))]) (fun a => (WfM B a.2 ∧ KInv a.2) ∧ gN a.2 5 0 = gN σ 5 0 ∧ a.1 ≤ gN σ 5 0 ∧ anI k c a.1 a.2 = anO σ k c (r + 1)) ?_ ((gN σ 5 0, anO σ k c r) : Nat × Sg) ⟨⟨hWf, hKr⟩, anO_N _ _ _ (by decide) 0 r, Nat.le_refl _, rfl⟩ hP hS (lv_sub hl [0, 1, 2, 3, 4] rfl)
    clear hP hS hl
    intro ⟨j, s⟩ ⟨⟨hWf, hKs⟩, hgs, hjb, hE⟩ H locs ls hP hS hl ih2
    have hWf : WfM B s := hWf
    have hW1 := hWf
    have hKs : KInv s := hKs
    have hgs : gN s 5 0 = gN σ 5 0 := hgs
    have hjb : j ≤ gN σ 5 0 := hjb
    have hE : anI k c j s = anO σ k c (r + 1) := hE
    have hl : lv_has ls 5 [(4, .int (nI j - nI 1)), (3, .int (nI r)), (2, .int c), (1, .int (nI k)), (0, .ref (ad 0))] := hl
    have hP : va_P D clX (wd SM ad dA obM s) H := hP
    rcases j with _ | j
    · refine lv_iload hx hb d_Md_takeAnswer_16 (lv_at hl 0 rfl) ?_
      refine lv_if_lt (tgt := 62) hx hb d_Md_takeAnswer_18 (by decide) (fun _ => ?_) (fun h => absurd (by decide) h)
      refine lv_iinc (lv' := [(3, .int (nI (r + 1))), (4, .int (nI 0 - nI 1)), (2, .int c), (1, .int (nI k)), (0, .ref (ad 0))]) (v := (nI (r + 1))) hx hb d_Md_takeAnswer_62 hl (k := 1) rfl (nI_add _ _) (by decide) rfl (fun ls hl => ?_)
      refine lv_goto (tgt := 2) hx hb d_Md_takeAnswer_65 (by decide) ?_
      exact ih (r + 1) (by show r + 1 ≤ 10; omega) (by omega) H locs ls (by rw [← hE]; exact hP) hS (lv_sub hl [0, 2, 3, 4] rfl)
    · rw [show nI (j + 1) - nI 1 = nI j from pk_sub (by omega)] at hl
      refine lv_iload hx hb d_Md_takeAnswer_16 (lv_at hl 0 rfl) ?_
      refine x_if_ltN (tgt := 62) hx hb d_Md_takeAnswer_18 (by decide) (by omega) ?_
      refine lv_aload_n hx hb d_Md_takeAnswer_21 rfl (lv_at hl 4 rfl) ?_
      refine lv_iload hx hb d_Md_takeAnswer_22 (lv_at hl 0 rfl) ?_
      refine x_ci (x_rV (As := [.int (nI j)]) (rest := []) hx hb hml hown ht gW cs_Md_214 (c_Md_ready l D dA ad hJ s j B hWf (by omega)) rfl rfl (by decide) xc_Md hN hK hP (moM (by decide)) rfl rfl hl.1 rfl (Nat.le_of_ble_eq_true rfl) d_Md_takeAnswer_24 (by decide)) hS (fun H locs hP hS => ?_)
      refine x_ifeqB (tgt := 56) hx hb d_Md_takeAnswer_27 (by decide) (fun h3 => ?_) (fun h3 => ?_)
      · refine lv_iinc (lv' := [(4, .int (nI j - nI 1)), (3, .int (nI r)), (2, .int c), (1, .int (nI k)), (0, .ref (ad 0))]) (v := (nI j - nI 1)) hx hb d_Md_takeAnswer_56 hl (k := 0) rfl (x_m1 _) (by decide) rfl (fun ls hl => ?_)
        refine lv_goto (tgt := 16) hx hb d_Md_takeAnswer_59 (by decide) ?_
        exact ih2 ((j, anS s k c j) : Nat × Sg) ⟨anS_ok hW1 hKs (by omega), (anS_N _ _ _ _ (by decide) _).trans hgs, by show j ≤ gN σ 5 0; omega, hE⟩ (by show j < j + 1; omega) H locs ls (by rw [show anS s k c j = s from (by unfold anS; rw [if_neg (by rw [h3]; decide)])]; exact hP) hS (lv_sub hl [0, 1, 2, 3, 4] rfl)
      · have hc9 := kinv_cap hKs hWf.it (show j < gN s 5 0 by omega)
        have hkr := keyR_lt hWf hc9
        refine lv_aload_n hx hb d_Md_takeAnswer_30 rfl (lv_at hl 4 rfl) ?_
        refine lv_iload hx hb d_Md_takeAnswer_31 (lv_at hl 0 rfl) ?_
        refine x_ci (x_rV (As := [.int (nI j)]) (rest := []) hx hb hml hown ht gW cs_Md_131 (c_Md_key l D dA ad hJ s j B hWf (by omega) hc9) rfl rfl (by decide) xc_Md hN hK hP (moM (by decide)) rfl rfl hl.1 rfl (Nat.le_of_ble_eq_true rfl) d_Md_takeAnswer_33 (by decide)) hS (fun H locs hP hS => ?_)
        have hWf : WfM B (mKeyS s j) := wfm_key hWf hc9
        refine lv_iload_n hx hb d_Md_takeAnswer_36 rfl (lv_at hl 3 rfl) ?_
        refine x_icmp_neN (tgt := 56) hx hb d_Md_takeAnswer_37 (by decide) (Nat.lt_trans hkr (by decide)) (by omega) (fun h4 => ?_) (fun h4 => ?_)
        · refine lv_iinc (lv' := [(4, .int (nI j - nI 1)), (3, .int (nI r)), (2, .int c), (1, .int (nI k)), (0, .ref (ad 0))]) (v := (nI j - nI 1)) hx hb d_Md_takeAnswer_56 hl (k := 0) rfl (x_m1 _) (by decide) rfl (fun ls hl => ?_)
          refine lv_goto (tgt := 16) hx hb d_Md_takeAnswer_59 (by decide) ?_
          exact ih2 ((j, anS s k c j) : Nat × Sg) ⟨anS_ok hW1 hKs (by omega), (anS_N _ _ _ _ (by decide) _).trans hgs, by show j ≤ gN σ 5 0; omega, hE⟩ (by show j < j + 1; omega) H locs ls (by rw [show anS s k c j = mKeyS s j from (by unfold anS; rw [if_pos h3, if_neg h4])]; exact hP) hS (lv_sub hl [0, 1, 2, 3, 4] rfl)
        · refine lv_aload_n hx hb d_Md_takeAnswer_40 rfl (lv_at hl 4 rfl) ?_
          refine x_get (v := .ref (ad 6)) (k := 10) hx hb ht xc_Md hown hK hP (moM (by decide)) rfl (by decide) fl_Md_27 rfl rfl rfl d_Md_takeAnswer_41 ?_
          refine lv_iload hx hb d_Md_takeAnswer_44 (lv_at hl 0 rfl) ?_
          refine lv_iconst (v := (nI 1)) hx hb d_Md_takeAnswer_46 (by decide) ?_
          refine x_zast (κ := 105) (n := 10) (x := true) hx hb hK hP hJ hw hS (moM (by decide)) rfl (by decide) rfl rfl (by omega) (by omega) d_Md_takeAnswer_47 (fun H locs hP hS => ?_)
          have hWf : WfM B (sB (mKeyS s j) 105 j true) := wfm_B hWf
          refine lv_aload_n hx hb d_Md_takeAnswer_48 rfl (lv_at hl 4 rfl) ?_
          refine x_get (v := .ref (ad 7)) (k := 11) hx hb ht xc_Md hown hK hP (moM (by decide)) rfl (by decide) fl_Md_30 rfl rfl rfl d_Md_takeAnswer_49 ?_
          refine lv_iload hx hb d_Md_takeAnswer_52 (lv_at hl 0 rfl) ?_
          refine lv_iload_n hx hb d_Md_takeAnswer_54 rfl (lv_at hl 2 rfl) ?_
          refine x_iast (κ := 106) (n := 10) (x := c) hx hb hK hP hJ hw hS (moM (by decide)) rfl (by decide) rfl rfl (by omega) (by omega) d_Md_takeAnswer_55 (fun H locs hP hS => ?_)
          have hWf : WfM B (sI (sB (mKeyS s j) 105 j true) 106 j c) := wfm_I hWf
          refine lv_iinc (lv' := [(4, .int (nI j - nI 1)), (3, .int (nI r)), (2, .int c), (1, .int (nI k)), (0, .ref (ad 0))]) (v := (nI j - nI 1)) hx hb d_Md_takeAnswer_56 hl (k := 0) rfl (x_m1 _) (by decide) rfl (fun ls hl => ?_)
          refine lv_goto (tgt := 16) hx hb d_Md_takeAnswer_59 (by decide) ?_
          exact ih2 ((j, anS s k c j) : Nat × Sg) ⟨anS_ok hW1 hKs (by omega), (anS_N _ _ _ _ (by decide) _).trans hgs, by show j ≤ gN σ 5 0; omega, hE⟩ (by show j < j + 1; omega) H locs ls (by rw [show anS s k c j = sI (sB (mKeyS s j) 105 j true) 106 j c from (by unfold anS; rw [if_pos h3, if_pos h4])]; exact hP) hS (lv_sub hl [0, 1, 2, 3, 4] rfl)
set_option maxHeartbeats 4000000 in
set_option maxRecDepth 100000 in
theorem c_Md_tick (l : Launch) (D : va_G) (dA : Nat → ClassId) (ad : Nat → Nat) (hJ : Inj ad obM) (σ : Sg)  (B : Nat) (hWf : WfM B σ) (hB : B + 64 < 2 ^ 28) (hKI : KInv σ) : CI l D clX (tyX dA) SM ad dA obM NL y_Md_tick w_Md_tick { frames := 3, cells := 0, slots := 0, locals := 69 } [.ref (ad 0)] σ ((nI (gN (mTick σ) 34 0))) (mTick σ) := by
  refine x_of (WS := WS) (cc := b_Md_tick) (maxL := 2) (ret := (some .int)) (by decide) rfl (Nat.le_of_ble_eq_true rfl) ?_
  intro pp ee ss mm below meth cdd hx hb hml hr hlk ht hown hnm hN hK hP ls hl
  have hl : lv_has ls 2 [(0, .ref (ad 0))] := hl
  have hS : va_S (Ad ad obM) ss.heap ss.heap [] := va_S.rf
  have hw := swfM
  have hM0 := hWf.it
  have hM1 := hWf.ks
  have hM2 := hWf.bl
  have hM3 := hWf.wk
  have hM4 := hWf.bi
  have hM5 := hWf.qu
  have hM6 := hWf.tm
  have hM7 := hWf.la
  have hW0 := hWf
  refine lv_aload_n hx hb d_Md_tick_0 rfl (lv_at hl 0 rfl) ?_
  refine lv_dup hx hb d_Md_tick_1 rfl ?_
  refine x_get (v := .int (nI (gN σ 2 0))) (k := 2) hx hb ht xc_Md hown hK hP (moM (by decide)) rfl (by decide) fl_Md_138 rfl rfl rfl d_Md_tick_2 ?_
  refine lv_iconst (v := (nI 1)) hx hb d_Md_tick_5 (by decide) ?_
  refine x_iaddN hx hb d_Md_tick_6 ?_
  refine x_put (σ' := sN σ 2 0 ((gN σ 2 0) + 1)) (v := .int (nI ((gN σ 2 0) + 1))) (k := 2) hx hb ht xc_Md t_Md t_Md_ok n_Md hown hK hP hJ hw hS (moM (by decide)) rfl (by decide) fl_Md_138 rfl rfl rfl off_N rfl rfl rfl d_Md_tick_7 (fun H locs hP hS => ?_)
  have hWf : WfM (B + 1) (sN σ 2 0 ((gN σ 2 0) + 1)) := wfm_2 (hWf.mono (Nat.le_add_right B 1)) ⟨by omega, by omega⟩
  refine lv_aload_n hx hb d_Md_tick_10 rfl (lv_at hl 0 rfl) ?_
  refine lv_iconst (v := (nI 0)) hx hb d_Md_tick_11 (by decide) ?_
  refine x_put (σ' := sN (sN σ 2 0 ((gN σ 2 0) + 1)) 34 0 0) (v := .int (nI 0)) (k := 34) hx hb ht xc_Md t_Md t_Md_ok n_Md hown hK hP hJ hw hS (moM (by decide)) rfl (by decide) fl_Md_125 rfl rfl rfl off_N rfl rfl rfl d_Md_tick_12 (fun H locs hP hS => ?_)
  have hWf : WfM (B + 1) (sN (sN σ 2 0 ((gN σ 2 0) + 1)) 34 0 0) := wfm_N (by decide) hWf
  refine lv_iconst (v := (nI 1)) hx hb d_Md_tick_15 (by decide) ?_
  refine lv_istore_n (lv' := [(1, .int (nI 1)), (0, .ref (ad 0))]) hx hb d_Md_tick_16 rfl hl (by decide) rfl (fun ls hl => ?_)
  refine x_loop (pc := 17) (α := Nat) (nL := 2) (fun i => gN σ 0 0 - i) (fun i => tkW (mTk0 σ) i) (fun i => [(1, .int (nI (i + 1))), (0, .ref (ad 0))]) (fun i => i ≤ gN σ 0 0) ?_ 0 (Nat.zero_le _) hP hS (lv_sub hl [0, 1] rfl)
  clear hP hS hl
  intro i hi H locs ls hP hS hl ih
  have hi : i ≤ gN σ 0 0 := hi
  have hWf : WfM (B + 1 + i) (tkW (mTk0 σ) i) := wfm_tkW (wfm_Tk0 hW0) i
  have hl : lv_has ls 2 [(1, .int (nI (i + 1))), (0, .ref (ad 0))] := hl
  have hP : va_P D clX (wd SM ad dA obM (tkW (mTk0 σ) i)) H := hP
  refine lv_iload_n hx hb d_Md_tick_17 rfl (lv_at hl 0 rfl) ?_
  refine lv_aload_n hx hb d_Md_tick_18 rfl (lv_at hl 1 rfl) ?_
  refine x_get (v := .int (nI (gN σ 0 0))) (k := 0) hx hb ht xc_Md hown hK hP (moM (by decide)) rfl (by decide) fl_Md_102 rfl rfl (congrArg (fun z => Value.int (nI z)) ((tkW_ok (mTk0 σ) i).2)) d_Md_tick_19 ?_
  refine x_icmp_gtN (tgt := 45) hx hb d_Md_tick_22 (by decide) (by omega) (by omega) (fun h1 => ?_) (fun h1 => ?_)
  · obtain rfl : i = gN σ 0 0 := by omega
    have hP : va_P D clX (wd SM ad dA obM (mTk1 σ)) H := hP
    have hWf : WfM (B + 5) (mTk1 σ) := (Tk1_ok hW0).1
    refine lv_aload_n hx hb d_Md_tick_45 rfl (lv_at hl 1 rfl) ?_
    refine x_get (v := .ref (ad 1)) (k := 4) hx hb ht xc_Md hown hK hP (moM (by decide)) rfl (by decide) fl_Md_7 rfl rfl rfl d_Md_tick_46 ?_
    refine lv_iconst (v := (nI 0)) hx hb d_Md_tick_49 (by decide) ?_
    refine x_zald (κ := 100) (n := 5) hx hb hK hP (moM (by decide)) rfl (by decide) rfl rfl (by omega) (by omega) d_Md_tick_50 ?_
    refine x_ifneB (tgt := 92) hx hb d_Md_tick_51 (by decide) (fun h2 => ?_) (fun h2 => ?_)
    · have hP : va_P D clX (wd SM ad dA obM (mTk2 σ)) H := by unfold mTk2; rw [if_pos h2]; exact hP
      have hWf : WfM (B + 13) (mTk2 σ) := (Tk2_ok hW0).1
      have hK2 := (Tk2_ok hW0).2.inv hKI
      have hit2 := (Tk2_ok hW0).2.1.2.1
      refine lv_iconst (v := (nI 0)) hx hb d_Md_tick_92 (by decide) ?_
      refine lv_istore_n (lv' := [(1, .int (nI 0)), (0, .ref (ad 0))]) hx hb d_Md_tick_93 rfl hl (by decide) rfl (fun ls hl => ?_)
      refine x_loop (pc := 94) (α := Nat) (nL := 2) (fun i => gN σ 5 0 - i) (fun i => tkA (mTk2 σ) i) (fun i => [(1, .int (nI i)), (0, .ref (ad 0))]) (fun i => i ≤ gN σ 5 0) ?_ 0 (Nat.zero_le _) hP hS (lv_sub hl [0, 1] rfl)
      clear hP hS hl
      intro i hi H locs ls hP hS hl ih4
      have hi : i ≤ gN σ 5 0 := hi
      have hA := tkA_ok (Tk2_ok hW0).1 hK2 i (by rw [hit2]; exact hi)
      have hWf : WfM (B + 13 + i) (tkA (mTk2 σ) i) := hA.1
      have hKa := hA.2.1
      have hia : gN (tkA (mTk2 σ) i) 5 0 = gN σ 5 0 := hA.2.2.trans hit2
      have hsa := hWf.sa i
      have htm := hWf.tm
      have hl : lv_has ls 2 [(1, .int (nI i)), (0, .ref (ad 0))] := hl
      have hP : va_P D clX (wd SM ad dA obM (tkA (mTk2 σ) i)) H := hP
      refine lv_iload_n hx hb d_Md_tick_94 rfl (lv_at hl 0 rfl) ?_
      refine lv_aload_n hx hb d_Md_tick_95 rfl (lv_at hl 1 rfl) ?_
      refine x_get (v := .int (nI (gN σ 5 0))) (k := 5) hx hb ht xc_Md hown hK hP (moM (by decide)) rfl (by decide) fl_Md_109 rfl rfl (congrArg (fun z => Value.int (nI z)) (Eq.trans (tkA_ok (Tk2_ok hW0).1 hK2 i (by rw [hit2]; exact hi)).2.2 hit2)) d_Md_tick_96 ?_
      refine x_icmp_geN (tgt := 145) hx hb d_Md_tick_99 (by decide) (by omega) (by omega) (fun h3 => ?_) (fun h3 => ?_)
      · refine lv_aload_n hx hb d_Md_tick_145 rfl (lv_at hl 1 rfl) ?_
        refine x_get (v := .int (nI (gN (tkA (mTk2 σ) i) 34 0))) (k := 34) hx hb ht xc_Md hown hK hP (moM (by decide)) rfl (by decide) fl_Md_125 rfl rfl rfl d_Md_tick_146 ?_
        exact x_iret hx hb hr hlk hK hP hS d_Md_tick_149 (by rw [show i = gN σ 5 0 by omega]; rfl) (by rw [show i = gN σ 5 0 by omega]; rfl)
      · refine lv_aload_n hx hb d_Md_tick_102 rfl (lv_at hl 1 rfl) ?_
        refine lv_iload_n hx hb d_Md_tick_103 rfl (lv_at hl 0 rfl) ?_
        refine x_ci (x_rV (As := [.int (nI i)]) (rest := []) hx hb hml hown ht gW cs_Md_214 (c_Md_ready l D dA ad hJ (tkA (mTk2 σ) i) i (B + 13 + i) hWf (by omega)) rfl rfl (by decide) xc_Md hN hK hP (moM (by decide)) rfl rfl hl.1 rfl (Nat.le_of_ble_eq_true rfl) d_Md_tick_104 (by decide)) hS (fun H locs hP hS => ?_)
        refine x_ifeqB (tgt := 139) hx hb d_Md_tick_107 (by decide) (fun h4 => ?_) (fun h4 => ?_)
        · refine lv_iinc (lv' := [(1, .int (nI (i + 1))), (0, .ref (ad 0))]) (v := (nI (i + 1))) hx hb d_Md_tick_139 hl (k := 0) rfl (nI_add _ _) (by decide) rfl (fun ls hl => ?_)
          refine lv_goto (tgt := 94) hx hb d_Md_tick_142 (by decide) ?_
          exact ih4 (i + 1) (by show i + 1 ≤ gN σ 5 0; omega) (by omega) H locs ls (by show va_P D clX (wd SM ad dA obM (tkAS (tkA (mTk2 σ) i) i)) H; unfold tkAS; rw [if_neg (by rw [h4]; decide)]; exact hP) hS (lv_sub hl [0, 1] rfl)
        · refine lv_aload_n hx hb d_Md_tick_110 rfl (lv_at hl 1 rfl) ?_
          refine x_get (v := .ref (ad 8)) (k := 12) hx hb ht xc_Md hown hK hP (moM (by decide)) rfl (by decide) fl_Md_33 rfl rfl rfl d_Md_tick_111 ?_
          refine lv_iload_n hx hb d_Md_tick_114 rfl (lv_at hl 0 rfl) ?_
          refine x_zald (κ := 107) (n := 10) hx hb hK hP (moM (by decide)) rfl (by decide) rfl rfl (by omega) (by omega) d_Md_tick_115 ?_
          refine x_ifeqB (tgt := 134) hx hb d_Md_tick_116 (by decide) (fun h5 => ?_) (fun h5 => ?_)
          · refine lv_aload_n hx hb d_Md_tick_134 rfl (lv_at hl 1 rfl) ?_
            refine lv_iload_n hx hb d_Md_tick_135 rfl (lv_at hl 0 rfl) ?_
            refine x_cv (x_rV (As := [.int (nI i)]) (rest := []) hx hb hml hown ht gW cs_Md_202 (c_Md_ask l D dA ad hJ (tkA (mTk2 σ) i) i (B + 13 + i) hWf (by omega) (by omega) (kinv_cap hKa hWf.it (by omega))) rfl rfl (by decide) xc_Md hN hK hP (moM (by decide)) rfl rfl hl.1 rfl (Nat.le_of_ble_eq_true rfl) d_Md_tick_136 (by decide)) hS (fun H locs hP hS => ?_)
            have hWf : WfM (B + 13 + i + 1) (mAsk (tkA (mTk2 σ) i) i) := wfm_ask hWf (by omega) (kinv_cap hKa hWf.it (by omega))
            refine lv_iinc (lv' := [(1, .int (nI (i + 1))), (0, .ref (ad 0))]) (v := (nI (i + 1))) hx hb d_Md_tick_139 hl (k := 0) rfl (nI_add _ _) (by decide) rfl (fun ls hl => ?_)
            refine lv_goto (tgt := 94) hx hb d_Md_tick_142 (by decide) ?_
            exact ih4 (i + 1) (by show i + 1 ≤ gN σ 5 0; omega) (by omega) H locs ls (by show va_P D clX (wd SM ad dA obM (tkAS (tkA (mTk2 σ) i) i)) H; unfold tkAS; rw [if_pos h4, if_neg (by rw [h5]; decide)]; exact hP) hS (lv_sub hl [0, 1] rfl)
          · refine lv_aload_n hx hb d_Md_tick_119 rfl (lv_at hl 1 rfl) ?_
            refine x_get (v := .int (nI (gN (tkA (mTk2 σ) i) 2 0))) (k := 2) hx hb ht xc_Md hown hK hP (moM (by decide)) rfl (by decide) fl_Md_138 rfl rfl rfl d_Md_tick_120 ?_
            refine lv_aload_n hx hb d_Md_tick_123 rfl (lv_at hl 1 rfl) ?_
            refine x_get (v := .ref (ad 9)) (k := 13) hx hb ht xc_Md hown hK hP (moM (by decide)) rfl (by decide) fl_Md_36 rfl rfl rfl d_Md_tick_124 ?_
            refine lv_iload_n hx hb d_Md_tick_127 rfl (lv_at hl 0 rfl) ?_
            refine x_nald (κ := 108) (n := 10) hx hb hK hP (moM (by decide)) rfl (by decide) rfl rfl (by omega) (by omega) d_Md_tick_128 ?_
            refine x_isubN hx hb d_Md_tick_129 (by omega) ?_
            refine lv_iconst (v := (nI 5)) hx hb d_Md_tick_130 (by decide) ?_
            refine x_icmp_ltN (tgt := 139) hx hb d_Md_tick_131 (by decide) (by omega) (by decide) (fun h6 => ?_) (fun h6 => ?_)
            · refine lv_iinc (lv' := [(1, .int (nI (i + 1))), (0, .ref (ad 0))]) (v := (nI (i + 1))) hx hb d_Md_tick_139 hl (k := 0) rfl (nI_add _ _) (by decide) rfl (fun ls hl => ?_)
              refine lv_goto (tgt := 94) hx hb d_Md_tick_142 (by decide) ?_
              exact ih4 (i + 1) (by show i + 1 ≤ gN σ 5 0; omega) (by omega) H locs ls (by show va_P D clX (wd SM ad dA obM (tkAS (tkA (mTk2 σ) i) i)) H; unfold tkAS; rw [if_pos h4, if_pos h5, if_pos h6]; exact hP) hS (lv_sub hl [0, 1] rfl)
            · refine lv_aload_n hx hb d_Md_tick_134 rfl (lv_at hl 1 rfl) ?_
              refine lv_iload_n hx hb d_Md_tick_135 rfl (lv_at hl 0 rfl) ?_
              refine x_cv (x_rV (As := [.int (nI i)]) (rest := []) hx hb hml hown ht gW cs_Md_202 (c_Md_ask l D dA ad hJ (tkA (mTk2 σ) i) i (B + 13 + i) hWf (by omega) (by omega) (kinv_cap hKa hWf.it (by omega))) rfl rfl (by decide) xc_Md hN hK hP (moM (by decide)) rfl rfl hl.1 rfl (Nat.le_of_ble_eq_true rfl) d_Md_tick_136 (by decide)) hS (fun H locs hP hS => ?_)
              have hWf : WfM (B + 13 + i + 1) (mAsk (tkA (mTk2 σ) i) i) := wfm_ask hWf (by omega) (kinv_cap hKa hWf.it (by omega))
              refine lv_iinc (lv' := [(1, .int (nI (i + 1))), (0, .ref (ad 0))]) (v := (nI (i + 1))) hx hb d_Md_tick_139 hl (k := 0) rfl (nI_add _ _) (by decide) rfl (fun ls hl => ?_)
              refine lv_goto (tgt := 94) hx hb d_Md_tick_142 (by decide) ?_
              exact ih4 (i + 1) (by show i + 1 ≤ gN σ 5 0; omega) (by omega) H locs ls (by show va_P D clX (wd SM ad dA obM (tkAS (tkA (mTk2 σ) i) i)) H; unfold tkAS; rw [if_pos h4, if_pos h5, if_neg (by omega)]; exact hP) hS (lv_sub hl [0, 1] rfl)
    · refine lv_iconst (v := (nI 1)) hx hb d_Md_tick_54 (by decide) ?_
      refine lv_istore_n (lv' := [(1, .int (nI 1)), (0, .ref (ad 0))]) hx hb d_Md_tick_55 rfl hl (by decide) rfl (fun ls hl => ?_)
      refine x_loop (pc := 56) (α := Nat) (nL := 2) (fun i => gN σ 0 0 - i) (fun i => tkE (mTk1 σ) i) (fun i => [(1, .int (nI (i + 1))), (0, .ref (ad 0))]) (fun i => i ≤ gN σ 0 0) ?_ 0 (Nat.zero_le _) hP hS (lv_sub hl [0, 1] rfl)
      clear hP hS hl
      intro i hi H locs ls hP hS hl ih2
      have hi : i ≤ gN σ 0 0 := hi
      have hWf : WfM (B + 5 + i) (tkE (mTk1 σ) i) := wfm_tkE (Tk1_ok hW0).1 i
      have hl : lv_has ls 2 [(1, .int (nI (i + 1))), (0, .ref (ad 0))] := hl
      have hP : va_P D clX (wd SM ad dA obM (tkE (mTk1 σ) i)) H := hP
      refine lv_iload_n hx hb d_Md_tick_56 rfl (lv_at hl 0 rfl) ?_
      refine lv_aload_n hx hb d_Md_tick_57 rfl (lv_at hl 1 rfl) ?_
      refine x_get (v := .int (nI (gN σ 0 0))) (k := 0) hx hb ht xc_Md hown hK hP (moM (by decide)) rfl (by decide) fl_Md_102 rfl rfl (congrArg (fun z => Value.int (nI z)) (Eq.trans ((tkE_ok (mTk1 σ) i).2) ((Tk1_ok hW0).2.2))) d_Md_tick_58 ?_
      refine x_icmp_gtN (tgt := 75) hx hb d_Md_tick_61 (by decide) (by omega) (by omega) (fun h7 => ?_) (fun h7 => ?_)
      · obtain rfl : i = gN σ 0 0 := by omega
        have hWf : WfM (B + 9) (tkE (mTk1 σ) (gN σ 0 0)) := (wfm_tkE (Tk1_ok hW0).1 _).mono (by omega)
        refine lv_iconst (v := (nI 0)) hx hb d_Md_tick_75 (by decide) ?_
        refine lv_istore_n (lv' := [(1, .int (nI 0)), (0, .ref (ad 0))]) hx hb d_Md_tick_76 rfl hl (by decide) rfl (fun ls hl => ?_)
        refine x_loop (pc := 77) (α := Nat) (nL := 2) (fun i => 4 - i) (fun i => tkL (tkE (mTk1 σ) (gN σ 0 0)) i) (fun i => [(1, .int (nI i)), (0, .ref (ad 0))]) (fun i => i ≤ 4) ?_ 0 (by decide) hP hS (lv_sub hl [0, 1] rfl)
        clear hP hS hl
        intro i hi H locs ls hP hS hl ih3
        have hi : i ≤ 4 := hi
        have hWf : WfM (B + 9 + i) (tkL (tkE (mTk1 σ) (gN σ 0 0)) i) := wfm_tkL ((wfm_tkE (Tk1_ok hW0).1 _).mono (by omega)) i
        have hl : lv_has ls 2 [(1, .int (nI i)), (0, .ref (ad 0))] := hl
        have hP : va_P D clX (wd SM ad dA obM (tkL (tkE (mTk1 σ) (gN σ 0 0)) i)) H := hP
        refine lv_iload_n hx hb d_Md_tick_77 rfl (lv_at hl 0 rfl) ?_
        refine lv_iconst (v := (nI 4)) hx hb d_Md_tick_78 (by decide) ?_
        refine x_icmp_geN (tgt := 92) hx hb d_Md_tick_79 (by decide) (by omega) (by decide) (fun h8 => ?_) (fun h8 => ?_)
        · obtain rfl : i = 4 := by omega
          have hP : va_P D clX (wd SM ad dA obM (mTk2 σ)) H := by unfold mTk2; rw [if_neg (by rw [h2]; decide)]; exact hP
          have hWf : WfM (B + 13) (mTk2 σ) := (Tk2_ok hW0).1
          have hK2 := (Tk2_ok hW0).2.inv hKI
          have hit2 := (Tk2_ok hW0).2.1.2.1
          refine lv_iconst (v := (nI 0)) hx hb d_Md_tick_92 (by decide) ?_
          refine lv_istore_n (lv' := [(1, .int (nI 0)), (0, .ref (ad 0))]) hx hb d_Md_tick_93 rfl hl (by decide) rfl (fun ls hl => ?_)
          refine x_loop (pc := 94) (α := Nat) (nL := 2) (fun i => gN σ 5 0 - i) (fun i => tkA (mTk2 σ) i) (fun i => [(1, .int (nI i)), (0, .ref (ad 0))]) (fun i => i ≤ gN σ 5 0) ?_ 0 (Nat.zero_le _) hP hS (lv_sub hl [0, 1] rfl)
          clear hP hS hl
          intro i hi H locs ls hP hS hl ih4
          have hi : i ≤ gN σ 5 0 := hi
          have hA := tkA_ok (Tk2_ok hW0).1 hK2 i (by rw [hit2]; exact hi)
          have hWf : WfM (B + 13 + i) (tkA (mTk2 σ) i) := hA.1
          have hKa := hA.2.1
          have hia : gN (tkA (mTk2 σ) i) 5 0 = gN σ 5 0 := hA.2.2.trans hit2
          have hsa := hWf.sa i
          have htm := hWf.tm
          have hl : lv_has ls 2 [(1, .int (nI i)), (0, .ref (ad 0))] := hl
          have hP : va_P D clX (wd SM ad dA obM (tkA (mTk2 σ) i)) H := hP
          refine lv_iload_n hx hb d_Md_tick_94 rfl (lv_at hl 0 rfl) ?_
          refine lv_aload_n hx hb d_Md_tick_95 rfl (lv_at hl 1 rfl) ?_
          refine x_get (v := .int (nI (gN σ 5 0))) (k := 5) hx hb ht xc_Md hown hK hP (moM (by decide)) rfl (by decide) fl_Md_109 rfl rfl (congrArg (fun z => Value.int (nI z)) (Eq.trans (tkA_ok (Tk2_ok hW0).1 hK2 i (by rw [hit2]; exact hi)).2.2 hit2)) d_Md_tick_96 ?_
          refine x_icmp_geN (tgt := 145) hx hb d_Md_tick_99 (by decide) (by omega) (by omega) (fun h9 => ?_) (fun h9 => ?_)
          · refine lv_aload_n hx hb d_Md_tick_145 rfl (lv_at hl 1 rfl) ?_
            refine x_get (v := .int (nI (gN (tkA (mTk2 σ) i) 34 0))) (k := 34) hx hb ht xc_Md hown hK hP (moM (by decide)) rfl (by decide) fl_Md_125 rfl rfl rfl d_Md_tick_146 ?_
            exact x_iret hx hb hr hlk hK hP hS d_Md_tick_149 (by rw [show i = gN σ 5 0 by omega]; rfl) (by rw [show i = gN σ 5 0 by omega]; rfl)
          · refine lv_aload_n hx hb d_Md_tick_102 rfl (lv_at hl 1 rfl) ?_
            refine lv_iload_n hx hb d_Md_tick_103 rfl (lv_at hl 0 rfl) ?_
            refine x_ci (x_rV (As := [.int (nI i)]) (rest := []) hx hb hml hown ht gW cs_Md_214 (c_Md_ready l D dA ad hJ (tkA (mTk2 σ) i) i (B + 13 + i) hWf (by omega)) rfl rfl (by decide) xc_Md hN hK hP (moM (by decide)) rfl rfl hl.1 rfl (Nat.le_of_ble_eq_true rfl) d_Md_tick_104 (by decide)) hS (fun H locs hP hS => ?_)
            refine x_ifeqB (tgt := 139) hx hb d_Md_tick_107 (by decide) (fun h10 => ?_) (fun h10 => ?_)
            · refine lv_iinc (lv' := [(1, .int (nI (i + 1))), (0, .ref (ad 0))]) (v := (nI (i + 1))) hx hb d_Md_tick_139 hl (k := 0) rfl (nI_add _ _) (by decide) rfl (fun ls hl => ?_)
              refine lv_goto (tgt := 94) hx hb d_Md_tick_142 (by decide) ?_
              exact ih4 (i + 1) (by show i + 1 ≤ gN σ 5 0; omega) (by omega) H locs ls (by show va_P D clX (wd SM ad dA obM (tkAS (tkA (mTk2 σ) i) i)) H; unfold tkAS; rw [if_neg (by rw [h10]; decide)]; exact hP) hS (lv_sub hl [0, 1] rfl)
            · refine lv_aload_n hx hb d_Md_tick_110 rfl (lv_at hl 1 rfl) ?_
              refine x_get (v := .ref (ad 8)) (k := 12) hx hb ht xc_Md hown hK hP (moM (by decide)) rfl (by decide) fl_Md_33 rfl rfl rfl d_Md_tick_111 ?_
              refine lv_iload_n hx hb d_Md_tick_114 rfl (lv_at hl 0 rfl) ?_
              refine x_zald (κ := 107) (n := 10) hx hb hK hP (moM (by decide)) rfl (by decide) rfl rfl (by omega) (by omega) d_Md_tick_115 ?_
              refine x_ifeqB (tgt := 134) hx hb d_Md_tick_116 (by decide) (fun h11 => ?_) (fun h11 => ?_)
              · refine lv_aload_n hx hb d_Md_tick_134 rfl (lv_at hl 1 rfl) ?_
                refine lv_iload_n hx hb d_Md_tick_135 rfl (lv_at hl 0 rfl) ?_
                refine x_cv (x_rV (As := [.int (nI i)]) (rest := []) hx hb hml hown ht gW cs_Md_202 (c_Md_ask l D dA ad hJ (tkA (mTk2 σ) i) i (B + 13 + i) hWf (by omega) (by omega) (kinv_cap hKa hWf.it (by omega))) rfl rfl (by decide) xc_Md hN hK hP (moM (by decide)) rfl rfl hl.1 rfl (Nat.le_of_ble_eq_true rfl) d_Md_tick_136 (by decide)) hS (fun H locs hP hS => ?_)
                have hWf : WfM (B + 13 + i + 1) (mAsk (tkA (mTk2 σ) i) i) := wfm_ask hWf (by omega) (kinv_cap hKa hWf.it (by omega))
                refine lv_iinc (lv' := [(1, .int (nI (i + 1))), (0, .ref (ad 0))]) (v := (nI (i + 1))) hx hb d_Md_tick_139 hl (k := 0) rfl (nI_add _ _) (by decide) rfl (fun ls hl => ?_)
                refine lv_goto (tgt := 94) hx hb d_Md_tick_142 (by decide) ?_
                exact ih4 (i + 1) (by show i + 1 ≤ gN σ 5 0; omega) (by omega) H locs ls (by show va_P D clX (wd SM ad dA obM (tkAS (tkA (mTk2 σ) i) i)) H; unfold tkAS; rw [if_pos h10, if_neg (by rw [h11]; decide)]; exact hP) hS (lv_sub hl [0, 1] rfl)
              · refine lv_aload_n hx hb d_Md_tick_119 rfl (lv_at hl 1 rfl) ?_
                refine x_get (v := .int (nI (gN (tkA (mTk2 σ) i) 2 0))) (k := 2) hx hb ht xc_Md hown hK hP (moM (by decide)) rfl (by decide) fl_Md_138 rfl rfl rfl d_Md_tick_120 ?_
                refine lv_aload_n hx hb d_Md_tick_123 rfl (lv_at hl 1 rfl) ?_
                refine x_get (v := .ref (ad 9)) (k := 13) hx hb ht xc_Md hown hK hP (moM (by decide)) rfl (by decide) fl_Md_36 rfl rfl rfl d_Md_tick_124 ?_
                refine lv_iload_n hx hb d_Md_tick_127 rfl (lv_at hl 0 rfl) ?_
                refine x_nald (κ := 108) (n := 10) hx hb hK hP (moM (by decide)) rfl (by decide) rfl rfl (by omega) (by omega) d_Md_tick_128 ?_
                refine x_isubN hx hb d_Md_tick_129 (by omega) ?_
                refine lv_iconst (v := (nI 5)) hx hb d_Md_tick_130 (by decide) ?_
                refine x_icmp_ltN (tgt := 139) hx hb d_Md_tick_131 (by decide) (by omega) (by decide) (fun h12 => ?_) (fun h12 => ?_)
                · refine lv_iinc (lv' := [(1, .int (nI (i + 1))), (0, .ref (ad 0))]) (v := (nI (i + 1))) hx hb d_Md_tick_139 hl (k := 0) rfl (nI_add _ _) (by decide) rfl (fun ls hl => ?_)
                  refine lv_goto (tgt := 94) hx hb d_Md_tick_142 (by decide) ?_
                  exact ih4 (i + 1) (by show i + 1 ≤ gN σ 5 0; omega) (by omega) H locs ls (by show va_P D clX (wd SM ad dA obM (tkAS (tkA (mTk2 σ) i) i)) H; unfold tkAS; rw [if_pos h10, if_pos h11, if_pos h12]; exact hP) hS (lv_sub hl [0, 1] rfl)
                · refine lv_aload_n hx hb d_Md_tick_134 rfl (lv_at hl 1 rfl) ?_
                  refine lv_iload_n hx hb d_Md_tick_135 rfl (lv_at hl 0 rfl) ?_
                  refine x_cv (x_rV (As := [.int (nI i)]) (rest := []) hx hb hml hown ht gW cs_Md_202 (c_Md_ask l D dA ad hJ (tkA (mTk2 σ) i) i (B + 13 + i) hWf (by omega) (by omega) (kinv_cap hKa hWf.it (by omega))) rfl rfl (by decide) xc_Md hN hK hP (moM (by decide)) rfl rfl hl.1 rfl (Nat.le_of_ble_eq_true rfl) d_Md_tick_136 (by decide)) hS (fun H locs hP hS => ?_)
                  have hWf : WfM (B + 13 + i + 1) (mAsk (tkA (mTk2 σ) i) i) := wfm_ask hWf (by omega) (kinv_cap hKa hWf.it (by omega))
                  refine lv_iinc (lv' := [(1, .int (nI (i + 1))), (0, .ref (ad 0))]) (v := (nI (i + 1))) hx hb d_Md_tick_139 hl (k := 0) rfl (nI_add _ _) (by decide) rfl (fun ls hl => ?_)
                  refine lv_goto (tgt := 94) hx hb d_Md_tick_142 (by decide) ?_
                  exact ih4 (i + 1) (by show i + 1 ≤ gN σ 5 0; omega) (by omega) H locs ls (by show va_P D clX (wd SM ad dA obM (tkAS (tkA (mTk2 σ) i) i)) H; unfold tkAS; rw [if_pos h10, if_pos h11, if_neg (by omega)]; exact hP) hS (lv_sub hl [0, 1] rfl)
        · refine lv_aload_n hx hb d_Md_tick_82 rfl (lv_at hl 1 rfl) ?_
          refine x_cv (x_rV (As := []) (rest := []) hx hb hml hown ht gW cs_Md_223 (c_Md_lend l D dA ad hJ (tkL (tkE (mTk1 σ) (gN σ 0 0)) i) (B + 9 + i) hWf (by omega)) rfl rfl (by decide) xc_Md hN hK hP (moM (by decide)) rfl rfl hl.1 rfl (Nat.le_of_ble_eq_true rfl) d_Md_tick_83 (by decide)) hS (fun H locs hP hS => ?_)
          have hWf : WfM (B + 9 + i + 1) (mLend (tkL (tkE (mTk1 σ) (gN σ 0 0)) i)) := wfm_lend hWf
          refine lv_iinc (lv' := [(1, .int (nI (i + 1))), (0, .ref (ad 0))]) (v := (nI (i + 1))) hx hb d_Md_tick_86 hl (k := 0) rfl (nI_add _ _) (by decide) rfl (fun ls hl => ?_)
          refine lv_goto (tgt := 77) hx hb d_Md_tick_89 (by decide) ?_
          exact ih3 (i + 1) (by show i + 1 ≤ 4; omega) (by omega) H locs ls hP hS (lv_sub hl [0, 1] rfl)
      · refine lv_aload_n hx hb d_Md_tick_64 rfl (lv_at hl 1 rfl) ?_
        refine lv_iload_n hx hb d_Md_tick_65 rfl (lv_at hl 0 rfl) ?_
        refine x_cv (x_rV (As := [.int (nI (i + 1))]) (rest := []) hx hb hml hown ht gW cs_Md_220 (c_Md_expire l D dA ad hJ (tkE (mTk1 σ) i) (i + 1) (B + 5 + i) hWf (by omega) (by omega)) rfl rfl (by decide) xc_Md hN hK hP (moM (by decide)) rfl rfl hl.1 rfl (Nat.le_of_ble_eq_true rfl) d_Md_tick_66 (by decide)) hS (fun H locs hP hS => ?_)
        have hWf : WfM (B + 5 + i + 1) (mExp (tkE (mTk1 σ) i) (i + 1)) := wfm_exp hWf
        refine lv_iinc (lv' := [(1, .int (nI ((i + 1) + 1))), (0, .ref (ad 0))]) (v := (nI ((i + 1) + 1))) hx hb d_Md_tick_69 hl (k := 0) rfl (nI_add _ _) (by decide) rfl (fun ls hl => ?_)
        refine lv_goto (tgt := 56) hx hb d_Md_tick_72 (by decide) ?_
        exact ih2 (i + 1) (by show i + 1 ≤ gN σ 0 0; omega) (by omega) H locs ls hP hS (lv_sub hl [0, 1] rfl)
  · refine lv_aload_n hx hb d_Md_tick_25 rfl (lv_at hl 1 rfl) ?_
    refine x_get (v := .ref (ad 19)) (k := 26) hx hb ht xc_Md hown hK hP (moM (by decide)) rfl (by decide) fl_Md_66 rfl rfl rfl d_Md_tick_26 ?_
    refine lv_iload_n hx hb d_Md_tick_29 rfl (lv_at hl 0 rfl) ?_
    refine x_nald (κ := 118) (n := 5) hx hb hK hP (moM (by decide)) rfl (by decide) rfl rfl (by omega) (by omega) d_Md_tick_30 ?_
    refine x_if_leN (tgt := 39) hx hb d_Md_tick_31 (by decide) (Nat.lt_of_le_of_lt (hWf.jk _) (by decide)) (fun h13 => ?_) (fun h13 => ?_)
    · refine lv_iinc (lv' := [(1, .int (nI ((i + 1) + 1))), (0, .ref (ad 0))]) (v := (nI ((i + 1) + 1))) hx hb d_Md_tick_39 hl (k := 0) rfl (nI_add _ _) (by decide) rfl (fun ls hl => ?_)
      refine lv_goto (tgt := 17) hx hb d_Md_tick_42 (by decide) ?_
      exact ih (i + 1) (by show i + 1 ≤ gN σ 0 0; omega) (by omega) H locs ls (by rw [tkW, if_pos h13]; exact hP) hS (lv_sub hl [0, 1] rfl)
    · refine lv_aload_n hx hb d_Md_tick_34 rfl (lv_at hl 1 rfl) ?_
      refine lv_iload_n hx hb d_Md_tick_35 rfl (lv_at hl 0 rfl) ?_
      refine x_cv (x_rV (As := [.int (nI (i + 1))]) (rest := []) hx hb hml hown ht gW cs_Md_217 (c_Md_work l D dA ad hJ (tkW (mTk0 σ) i) (i + 1) (B + 1 + i) hWf (by omega) (by omega) (by omega)) rfl rfl (by decide) xc_Md hN hK hP (moM (by decide)) rfl rfl hl.1 rfl (Nat.le_of_ble_eq_true rfl) d_Md_tick_36 (by decide)) hS (fun H locs hP hS => ?_)
      have hWf : WfM (B + 1 + i + 1) (mWork (tkW (mTk0 σ) i) (i + 1)) := wfm_work hWf (hWf.jk _) (by omega)
      refine lv_iinc (lv' := [(1, .int (nI ((i + 1) + 1))), (0, .ref (ad 0))]) (v := (nI ((i + 1) + 1))) hx hb d_Md_tick_39 hl (k := 0) rfl (nI_add _ _) (by decide) rfl (fun ls hl => ?_)
      refine lv_goto (tgt := 17) hx hb d_Md_tick_42 (by decide) ?_
      exact ih (i + 1) (by show i + 1 ≤ gN σ 0 0; omega) (by omega) H locs ls (by rw [tkW, if_neg (by omega)]; exact hP) hS (lv_sub hl [0, 1] rfl)
set_option maxHeartbeats 4000000 in
set_option maxRecDepth 100000 in
theorem c_Md_deliver (l : Launch) (D : va_G) (dA : Nat → ClassId) (ad : Nat → Nat) (hJ : Inj ad obM) (σ : Sg) (k : Int32) (cut : Int32) (B : Nat) (hWf : WfM B σ) (hB : B + 8 < 2 ^ 30) (hKI : KInv σ) (hb12 : gN σ 24 0 < 12) (hto : ∀ s, gN σ 124 s = 9 ∨ gN σ 124 s < 5) (hl4 : ∀ s, gN σ 123 s = 4 → gN σ 124 s < 5) (hlkk : ∀ s, gN σ 123 s = 2 → fKey σ (gN σ 126 s) = none → gN σ 14 0 < 10) : CI l D clX (tyX dA) SM ad dA obM NL y_Md_deliver w_Md_deliver { frames := 4, cells := 0, slots := 0, locals := 94 } [.ref (ad 0), .int k, .int cut] σ ((mDelR σ k)) (mDelS σ k cut) := by
  refine x_of (WS := WS) (cc := b_Md_deliver) (maxL := 11) (ret := (some .int)) (by decide) rfl (Nat.le_of_ble_eq_true rfl) ?_
  intro pp ee ss mm below meth cdd hx hb hml hr hlk ht hown hnm hN hK hP ls hl
  have hl : lv_has ls 11 [(0, .ref (ad 0)), (1, .int k), (2, .int cut)] := hl
  have hS : va_S (Ad ad obM) ss.heap ss.heap [] := va_S.rf
  have hw := swfM
  have hM0 := hWf.it
  have hM1 := hWf.ks
  have hM2 := hWf.bl
  have hM3 := hWf.wk
  have hM4 := hWf.bi
  have hM5 := hWf.qu
  have hM6 := hWf.tm
  have hM7 := hWf.la
  refine lv_aload_n hx hb d_Md_deliver_0 rfl (lv_at hl 0 rfl) ?_
  refine lv_iload_n hx hb d_Md_deliver_1 rfl (lv_at hl 1 rfl) ?_
  refine x_ci (x_rV (As := [.int k]) (rest := []) hx hb hml hown ht gW cs_Md_141 (c_Md_place l D dA ad hJ σ k B hWf (by omega)) rfl rfl (by decide) xc_Md hN hK hP (moM (by decide)) rfl rfl hl.1 rfl (Nat.le_of_ble_eq_true rfl) d_Md_deliver_2 (by decide)) hS (fun H locs hP hS => ?_)
  refine lv_istore_n (lv' := [(3, .int (oI (plc σ k))), (0, .ref (ad 0)), (1, .int k), (2, .int cut)]) hx hb d_Md_deliver_5 rfl hl (by decide) rfl (fun ls hl => ?_)
  refine lv_iload_n hx hb d_Md_deliver_6 rfl (lv_at hl 0 rfl) ?_
  refine x_if_geO (n := 24) (tgt := 12) hx hb d_Md_deliver_7 (by decide) ⟨plc_lt, by decide⟩ (fun j1 h1 hl1 => ?_) (fun h1 => ?_)
  · rw [h1] at hl
    have hl : lv_has ls 11 [(3, .int (nI j1)), (0, .ref (ad 0)), (1, .int k), (2, .int cut)] := hl
    have hk9 := hWf.ko j1
    have hi9 := hWf.io j1
    have hkd9 := hWf.kd j1
    have hto9 := hto j1
    refine lv_aload_n hx hb d_Md_deliver_12 rfl (lv_at hl 1 rfl) ?_
    refine x_get (v := .ref (ad 23)) (k := 35) hx hb ht xc_Md hown hK hP (moM (by decide)) rfl (by decide) fl_Md_78 rfl rfl rfl d_Md_deliver_13 ?_
    refine lv_iload_n hx hb d_Md_deliver_16 rfl (lv_at hl 0 rfl) ?_
    refine lv_iconst (v := (nI 0)) hx hb d_Md_deliver_17 (by decide) ?_
    refine x_nast (κ := 122) (n := 24) (x := 0) hx hb hK hP hJ hw hS (moM (by decide)) rfl (by decide) rfl rfl (by omega) (by omega) d_Md_deliver_18 (fun H locs hP hS => ?_)
    have hWf : WfM B (sN σ 122 j1 0) := wfm_122 hWf (Nat.zero_le _)
    refine lv_aload_n hx hb d_Md_deliver_19 rfl (lv_at hl 1 rfl) ?_
    refine x_get (v := .ref (ad 24)) (k := 36) hx hb ht xc_Md hown hK hP (moM (by decide)) rfl (by decide) fl_Md_81 rfl rfl rfl d_Md_deliver_20 ?_
    refine lv_iload_n hx hb d_Md_deliver_23 rfl (lv_at hl 0 rfl) ?_
    refine x_nald (κ := 123) (n := 24) hx hb hK hP (moM (by decide)) rfl (by decide) rfl rfl (by omega) (by omega) d_Md_deliver_24 ?_
    rw [show gN (sN σ 122 j1 0) 123 j1 = gN σ 123 j1 from rfl]
    refine lv_istore (lv' := [(4, .int (nI (gN σ 123 j1))), (3, .int (nI j1)), (0, .ref (ad 0)), (1, .int k), (2, .int cut)]) hx hb d_Md_deliver_25 hl (by decide) rfl (fun ls hl => ?_)
    refine lv_aload_n hx hb d_Md_deliver_27 rfl (lv_at hl 2 rfl) ?_
    refine x_get (v := .ref (ad 25)) (k := 37) hx hb ht xc_Md hown hK hP (moM (by decide)) rfl (by decide) fl_Md_84 rfl rfl rfl d_Md_deliver_28 ?_
    refine lv_iload_n hx hb d_Md_deliver_31 rfl (lv_at hl 1 rfl) ?_
    refine x_nald (κ := 124) (n := 24) hx hb hK hP (moM (by decide)) rfl (by decide) rfl rfl (by omega) (by omega) d_Md_deliver_32 ?_
    rw [show gN (sN σ 122 j1 0) 124 j1 = gN σ 124 j1 from rfl]
    refine lv_istore (lv' := [(5, .int (nI (gN σ 124 j1))), (4, .int (nI (gN σ 123 j1))), (3, .int (nI j1)), (0, .ref (ad 0)), (1, .int k), (2, .int cut)]) hx hb d_Md_deliver_33 hl (by decide) rfl (fun ls hl => ?_)
    refine lv_iload hx hb d_Md_deliver_35 (lv_at hl 0 rfl) ?_
    refine lv_bipush (v := (nI 9)) hx hb d_Md_deliver_37 (by decide) ?_
    refine x_icmp_eqN (tgt := 54) hx hb d_Md_deliver_39 (by decide) (by omega) (by decide) (fun h2 => ?_) (fun h2 => ?_)
    · refine lv_aload_n hx hb d_Md_deliver_54 rfl (lv_at hl 3 rfl) ?_
      refine lv_iload_n hx hb d_Md_deliver_55 rfl (lv_at hl 2 rfl) ?_
      refine x_ci (x_rV (As := [.int (nI j1)]) (rest := []) hx hb hml hown ht gW cs_Md_169 (c_Md_wrong l D dA ad hJ (sN σ 122 j1 0) j1 B hWf (by omega)) rfl rfl (by decide) xc_Md hN hK hP (moM (by decide)) rfl rfl hl.1 rfl (Nat.le_of_ble_eq_true rfl) d_Md_deliver_56 (by decide)) hS (fun H locs hP hS => ?_)
      refine x_ifeqB (tgt := 75) hx hb d_Md_deliver_59 (by decide) (fun h3 => ?_) (fun h3 => ?_)
      · refine lv_aload_n hx hb d_Md_deliver_75 rfl (lv_at hl 3 rfl) ?_
        refine lv_iconst (v := (nI 0)) hx hb d_Md_deliver_76 (by decide) ?_
        refine x_put (σ' := sN (sN σ 122 j1 0) 49 0 0) (v := .int (nI 0)) (k := 49) hx hb ht xc_Md t_Md t_Md_ok n_Md hown hK hP hJ hw hS (moM (by decide)) rfl (by decide) fl_Md_163 rfl rfl rfl off_N rfl rfl rfl d_Md_deliver_77 (fun H locs hP hS => ?_)
        have hWf : WfM B (sN (sN σ 122 j1 0) 49 0 0) := wfm_N (by decide) hWf
        refine lv_aload_n hx hb d_Md_deliver_80 rfl (lv_at hl 3 rfl) ?_
        refine x_get (v := .ref (ad 26)) (k := 38) hx hb ht xc_Md hown hK hP (moM (by decide)) rfl (by decide) fl_Md_87 rfl rfl rfl d_Md_deliver_81 ?_
        refine lv_iload_n hx hb d_Md_deliver_84 rfl (lv_at hl 2 rfl) ?_
        refine x_nald (κ := 125) (n := 24) hx hb hK hP (moM (by decide)) rfl (by decide) rfl rfl (by omega) (by omega) d_Md_deliver_85 ?_
        rw [show gN (sN (sN σ 122 j1 0) 49 0 0) 125 j1 = gN σ 125 j1 from rfl]
        refine lv_istore (lv' := [(6, .int (nI (gN σ 125 j1))), (5, .int (nI (gN σ 124 j1))), (4, .int (nI (gN σ 123 j1))), (3, .int (nI j1)), (0, .ref (ad 0)), (1, .int k), (2, .int cut)]) hx hb d_Md_deliver_86 hl (by decide) rfl (fun ls hl => ?_)
        refine lv_aload_n hx hb d_Md_deliver_88 rfl (lv_at hl 4 rfl) ?_
        refine x_get (v := .ref (ad 27)) (k := 39) hx hb ht xc_Md hown hK hP (moM (by decide)) rfl (by decide) fl_Md_90 rfl rfl rfl d_Md_deliver_89 ?_
        refine lv_iload_n hx hb d_Md_deliver_92 rfl (lv_at hl 3 rfl) ?_
        refine x_nald (κ := 126) (n := 24) hx hb hK hP (moM (by decide)) rfl (by decide) rfl rfl (by omega) (by omega) d_Md_deliver_93 ?_
        rw [show gN (sN (sN σ 122 j1 0) 49 0 0) 126 j1 = gN σ 126 j1 from rfl]
        refine lv_istore (lv' := [(7, .int (nI (gN σ 126 j1))), (6, .int (nI (gN σ 125 j1))), (5, .int (nI (gN σ 124 j1))), (4, .int (nI (gN σ 123 j1))), (3, .int (nI j1)), (0, .ref (ad 0)), (1, .int k), (2, .int cut)]) hx hb d_Md_deliver_94 hl (by decide) rfl (fun ls hl => ?_)
        refine lv_aload_n hx hb d_Md_deliver_96 rfl (lv_at hl 5 rfl) ?_
        refine x_get (v := .ref (ad 28)) (k := 40) hx hb ht xc_Md hown hK hP (moM (by decide)) rfl (by decide) fl_Md_93 rfl rfl rfl d_Md_deliver_97 ?_
        refine lv_iload_n hx hb d_Md_deliver_100 rfl (lv_at hl 4 rfl) ?_
        refine x_iald (κ := 127) (n := 24) hx hb hK hP (moM (by decide)) rfl (by decide) rfl rfl (by omega) (by omega) d_Md_deliver_101 ?_
        rw [show gI (sN (sN σ 122 j1 0) 49 0 0) 127 j1 = gI σ 127 j1 from rfl]
        refine lv_istore (lv' := [(8, .int (gI σ 127 j1)), (7, .int (nI (gN σ 126 j1))), (6, .int (nI (gN σ 125 j1))), (5, .int (nI (gN σ 124 j1))), (4, .int (nI (gN σ 123 j1))), (3, .int (nI j1)), (0, .ref (ad 0)), (1, .int k), (2, .int cut)]) hx hb d_Md_deliver_102 hl (by decide) rfl (fun ls hl => ?_)
        refine lv_aload_n hx hb d_Md_deliver_104 rfl (lv_at hl 6 rfl) ?_
        refine x_get (v := .ref (ad 29)) (k := 41) hx hb ht xc_Md hown hK hP (moM (by decide)) rfl (by decide) fl_Md_96 rfl rfl rfl d_Md_deliver_105 ?_
        refine lv_iload_n hx hb d_Md_deliver_108 rfl (lv_at hl 5 rfl) ?_
        refine x_iald (κ := 128) (n := 24) hx hb hK hP (moM (by decide)) rfl (by decide) rfl rfl (by omega) (by omega) d_Md_deliver_109 ?_
        rw [show gI (sN (sN σ 122 j1 0) 49 0 0) 128 j1 = gI σ 128 j1 from rfl]
        refine lv_istore (lv' := [(9, .int (gI σ 128 j1)), (8, .int (gI σ 127 j1)), (7, .int (nI (gN σ 126 j1))), (6, .int (nI (gN σ 125 j1))), (5, .int (nI (gN σ 124 j1))), (4, .int (nI (gN σ 123 j1))), (3, .int (nI j1)), (0, .ref (ad 0)), (1, .int k), (2, .int cut)]) hx hb d_Md_deliver_110 hl (by decide) rfl (fun ls hl => ?_)
        refine lv_aload_n hx hb d_Md_deliver_112 rfl (lv_at hl 7 rfl) ?_
        refine x_get (v := .ref (ad 30)) (k := 42) hx hb ht xc_Md hown hK hP (moM (by decide)) rfl (by decide) fl_Md_99 rfl rfl rfl d_Md_deliver_113 ?_
        refine lv_iload_n hx hb d_Md_deliver_116 rfl (lv_at hl 6 rfl) ?_
        refine x_iald (κ := 129) (n := 24) hx hb hK hP (moM (by decide)) rfl (by decide) rfl rfl (by omega) (by omega) d_Md_deliver_117 ?_
        rw [show gI (sN (sN σ 122 j1 0) 49 0 0) 129 j1 = gI σ 129 j1 from rfl]
        refine lv_istore (lv' := [(10, .int (gI σ 129 j1)), (9, .int (gI σ 128 j1)), (8, .int (gI σ 127 j1)), (7, .int (nI (gN σ 126 j1))), (6, .int (nI (gN σ 125 j1))), (5, .int (nI (gN σ 124 j1))), (4, .int (nI (gN σ 123 j1))), (3, .int (nI j1)), (0, .ref (ad 0)), (1, .int k), (2, .int cut)]) hx hb d_Md_deliver_118 hl (by decide) rfl (fun ls hl => ?_)
        refine lv_iload hx hb d_Md_deliver_120 (lv_at hl 6 rfl) ?_
        refine lv_iconst (v := (nI 1)) hx hb d_Md_deliver_122 (by decide) ?_
        refine x_icmp_neN (tgt := 134) hx hb d_Md_deliver_123 (by decide) (by omega) (by decide) (fun h4 => ?_) (fun h4 => ?_)
        · refine lv_iload hx hb d_Md_deliver_134 (lv_at hl 6 rfl) ?_
          refine lv_iconst (v := (nI 2)) hx hb d_Md_deliver_136 (by decide) ?_
          refine x_icmp_neN (tgt := 150) hx hb d_Md_deliver_137 (by decide) (by omega) (by decide) (fun h5 => ?_) (fun h5 => ?_)
          · refine lv_iload hx hb d_Md_deliver_150 (lv_at hl 6 rfl) ?_
            refine lv_iconst (v := (nI 3)) hx hb d_Md_deliver_152 (by decide) ?_
            refine x_icmp_neN (tgt := 165) hx hb d_Md_deliver_153 (by decide) (by omega) (by decide) (fun h6 => ?_) (fun h6 => ?_)
            · refine lv_iload hx hb d_Md_deliver_165 (lv_at hl 6 rfl) ?_
              refine lv_iconst (v := (nI 4)) hx hb d_Md_deliver_167 (by decide) ?_
              refine x_icmp_neN (tgt := 183) hx hb d_Md_deliver_168 (by decide) (by omega) (by decide) (fun h7 => ?_) (fun h7 => ?_)
              · refine lv_iload hx hb d_Md_deliver_183 (lv_at hl 6 rfl) ?_
                refine lv_iconst (v := (nI 5)) hx hb d_Md_deliver_185 (by decide) ?_
                refine x_icmp_neN (tgt := 200) hx hb d_Md_deliver_186 (by decide) (by omega) (by decide) (fun h8 => ?_) (fun h8 => ?_)
                · refine lv_iload hx hb d_Md_deliver_200 (lv_at hl 6 rfl) ?_
                  refine lv_bipush (v := (nI 6)) hx hb d_Md_deliver_202 (by decide) ?_
                  refine x_icmp_neN (tgt := 215) hx hb d_Md_deliver_204 (by decide) (by omega) (by decide) (fun h9 => ?_) (fun h9 => ?_)
                  · refine lv_iload hx hb d_Md_deliver_215 (lv_at hl 6 rfl) ?_
                    exact x_iret hx hb hr hlk hK hP hS d_Md_deliver_217 (mDelR_u h1 (mUp_9 h2)) (mDelS_h h1 (mUp_9 h2) h3 (mHand_0 h4 h5 h6 h7 h8 h9))
                  · refine lv_aload_n hx hb d_Md_deliver_207 rfl (lv_at hl 8 rfl) ?_
                    refine lv_iload hx hb d_Md_deliver_208 (lv_at hl 4 rfl) ?_
                    refine lv_iload hx hb d_Md_deliver_210 (lv_at hl 2 rfl) ?_
                    refine x_cv (x_rV (As := [.int (nI (gN σ 125 j1)), .int (gI σ 127 j1)]) (rest := []) hx hb hml hown ht gW cs_Md_193 (c_Md_takeAnswer l D dA ad hJ (sN (sN σ 122 j1 0) 49 0 0) (gN σ 125 j1) (gI σ 127 j1) B hWf ((ks_N _ (by decide) _ _).inv ((ks_N _ (by decide) _ _).inv hKI)) (by omega)) rfl rfl (by decide) xc_Md hN hK hP (moM (by decide)) rfl rfl hl.1 rfl (Nat.le_of_ble_eq_true rfl) d_Md_deliver_212 (by decide)) hS (fun H locs hP hS => ?_)
                    have hWf : WfM B (anO (sN (sN σ 122 j1 0) 49 0 0) (gN σ 125 j1) (gI σ 127 j1) 10) := (anO_ok hWf ((ks_N _ (by decide) _ _).inv ((ks_N _ (by decide) _ _).inv hKI)) 10).1
                    refine lv_iload hx hb d_Md_deliver_215 (lv_at hl 6 rfl) ?_
                    exact x_iret hx hb hr hlk hK hP hS d_Md_deliver_217 (mDelR_u h1 (mUp_9 h2)) (mDelS_h h1 (mUp_9 h2) h3 (mHand_6 h9))
                · refine lv_aload_n hx hb d_Md_deliver_189 rfl (lv_at hl 8 rfl) ?_
                  refine lv_iload hx hb d_Md_deliver_190 (lv_at hl 4 rfl) ?_
                  refine lv_iload hx hb d_Md_deliver_192 (lv_at hl 0 rfl) ?_
                  refine lv_iload hx hb d_Md_deliver_194 (lv_at hl 2 rfl) ?_
                  refine lv_iload_n hx hb d_Md_deliver_196 rfl (lv_at hl 10 rfl) ?_
                  refine x_cv (x_rV (As := [.int (nI (gN σ 125 j1)), .int (gI σ 129 j1), .int (gI σ 127 j1), .int cut]) (rest := []) hx hb hml hown ht gW cs_Md_190 (c_Md_takeResult l D dA ad hJ (sN (sN σ 122 j1 0) 49 0 0) (gN σ 125 j1) (gI σ 129 j1) (gI σ 127 j1) cut B hWf (by omega) (by omega) hb12) rfl rfl (by decide) xc_Md hN hK hP (moM (by decide)) rfl rfl hl.1 rfl (Nat.le_of_ble_eq_true rfl) d_Md_deliver_197 (by decide)) hS (fun H locs hP hS => ?_)
                  have hWf : WfM (B + 1) (mRes (sN (sN σ 122 j1 0) 49 0 0) (gN σ 125 j1) (gI σ 129 j1) (gI σ 127 j1) cut) := wfm_res hWf (by omega) hb12
                  refine lv_iload hx hb d_Md_deliver_200 (lv_at hl 6 rfl) ?_
                  refine lv_bipush (v := (nI 6)) hx hb d_Md_deliver_202 (by decide) ?_
                  refine x_icmp_neN (tgt := 215) hx hb d_Md_deliver_204 (by decide) (by omega) (by decide) (fun _ => ?_) (fun h => absurd h (by omega))
                  refine lv_iload hx hb d_Md_deliver_215 (lv_at hl 6 rfl) ?_
                  exact x_iret hx hb hr hlk hK hP hS d_Md_deliver_217 (mDelR_u h1 (mUp_9 h2)) (mDelS_h h1 (mUp_9 h2) h3 (mHand_5 h8))
              · refine lv_aload_n hx hb d_Md_deliver_171 rfl (lv_at hl 8 rfl) ?_
                refine lv_iload hx hb d_Md_deliver_172 (lv_at hl 5 rfl) ?_
                refine lv_iload hx hb d_Md_deliver_174 (lv_at hl 4 rfl) ?_
                refine lv_iload hx hb d_Md_deliver_176 (lv_at hl 2 rfl) ?_
                refine lv_iload hx hb d_Md_deliver_178 (lv_at hl 1 rfl) ?_
                refine x_cv (x_rV (As := [.int (nI (gN σ 124 j1)), .int (nI (gN σ 125 j1)), .int (gI σ 127 j1), .int (gI σ 128 j1)]) (rest := []) hx hb hml hown ht gW cs_Md_186 (c_Md_takeLease l D dA ad hJ (sN (sN σ 122 j1 0) 49 0 0) (gN σ 124 j1) (gN σ 125 j1) (gI σ 127 j1) (gI σ 128 j1) (hl4 j1 (by omega))) rfl rfl (by decide) xc_Md hN hK hP (moM (by decide)) rfl rfl hl.1 rfl (Nat.le_of_ble_eq_true rfl) d_Md_deliver_180 (by decide)) hS (fun H locs hP hS => ?_)
                have hWf : WfM B (mLease (sN (sN σ 122 j1 0) 49 0 0) (gN σ 124 j1) (gN σ 125 j1) (gI σ 127 j1) (gI σ 128 j1)) := wfm_lease hWf (by omega)
                refine lv_iload hx hb d_Md_deliver_183 (lv_at hl 6 rfl) ?_
                refine lv_iconst (v := (nI 5)) hx hb d_Md_deliver_185 (by decide) ?_
                refine x_icmp_neN (tgt := 200) hx hb d_Md_deliver_186 (by decide) (by omega) (by decide) (fun _ => ?_) (fun h => absurd h (by omega))
                refine lv_iload hx hb d_Md_deliver_200 (lv_at hl 6 rfl) ?_
                refine lv_bipush (v := (nI 6)) hx hb d_Md_deliver_202 (by decide) ?_
                refine x_icmp_neN (tgt := 215) hx hb d_Md_deliver_204 (by decide) (by omega) (by decide) (fun _ => ?_) (fun h => absurd h (by omega))
                refine lv_iload hx hb d_Md_deliver_215 (lv_at hl 6 rfl) ?_
                exact x_iret hx hb hr hlk hK hP hS d_Md_deliver_217 (mDelR_u h1 (mUp_9 h2)) (mDelS_h h1 (mUp_9 h2) h3 (mHand_4 h7))
            · refine lv_aload_n hx hb d_Md_deliver_156 rfl (lv_at hl 8 rfl) ?_
              refine lv_iload hx hb d_Md_deliver_157 (lv_at hl 0 rfl) ?_
              refine lv_iload hx hb d_Md_deliver_159 (lv_at hl 2 rfl) ?_
              refine lv_iload_n hx hb d_Md_deliver_161 rfl (lv_at hl 10 rfl) ?_
              refine x_cv (x_rV (As := [.int (gI σ 129 j1), .int (gI σ 127 j1), .int cut]) (rest := []) hx hb hml hown ht gW cs_Md_183 (c_Md_takePut l D dA ad hJ (sN (sN σ 122 j1 0) 49 0 0) (gI σ 129 j1) (gI σ 127 j1) cut B hWf hb12) rfl rfl (by decide) xc_Md hN hK hP (moM (by decide)) rfl rfl hl.1 rfl (Nat.le_of_ble_eq_true rfl) d_Md_deliver_162 (by decide)) hS (fun H locs hP hS => ?_)
              have hWf : WfM B (mPut (sN (sN σ 122 j1 0) 49 0 0) (gI σ 129 j1) (gI σ 127 j1) cut) := wfm_put hWf hb12
              refine lv_iload hx hb d_Md_deliver_165 (lv_at hl 6 rfl) ?_
              refine lv_iconst (v := (nI 4)) hx hb d_Md_deliver_167 (by decide) ?_
              refine x_icmp_neN (tgt := 183) hx hb d_Md_deliver_168 (by decide) (by omega) (by decide) (fun _ => ?_) (fun h => absurd h (by omega))
              refine lv_iload hx hb d_Md_deliver_183 (lv_at hl 6 rfl) ?_
              refine lv_iconst (v := (nI 5)) hx hb d_Md_deliver_185 (by decide) ?_
              refine x_icmp_neN (tgt := 200) hx hb d_Md_deliver_186 (by decide) (by omega) (by decide) (fun _ => ?_) (fun h => absurd h (by omega))
              refine lv_iload hx hb d_Md_deliver_200 (lv_at hl 6 rfl) ?_
              refine lv_bipush (v := (nI 6)) hx hb d_Md_deliver_202 (by decide) ?_
              refine x_icmp_neN (tgt := 215) hx hb d_Md_deliver_204 (by decide) (by omega) (by decide) (fun _ => ?_) (fun h => absurd h (by omega))
              refine lv_iload hx hb d_Md_deliver_215 (lv_at hl 6 rfl) ?_
              exact x_iret hx hb hr hlk hK hP hS d_Md_deliver_217 (mDelR_u h1 (mUp_9 h2)) (mDelS_h h1 (mUp_9 h2) h3 (mHand_3 h6))
          · refine lv_aload_n hx hb d_Md_deliver_140 rfl (lv_at hl 8 rfl) ?_
            refine lv_iload hx hb d_Md_deliver_141 (lv_at hl 3 rfl) ?_
            refine lv_iload hx hb d_Md_deliver_143 (lv_at hl 2 rfl) ?_
            refine lv_iload hx hb d_Md_deliver_145 (lv_at hl 1 rfl) ?_
            refine x_cv (x_rV (As := [.int (nI (gN σ 126 j1)), .int (gI σ 127 j1), .int (gI σ 128 j1)]) (rest := []) hx hb hml hown ht gW cs_Md_179 (c_Md_takeLack l D dA ad hJ (sN (sN σ 122 j1 0) 49 0 0) (gN σ 126 j1) (gI σ 127 j1) (gI σ 128 j1) B hWf (by omega) (by omega) (hlkk j1 (by omega))) rfl rfl (by decide) xc_Md hN hK hP (moM (by decide)) rfl rfl hl.1 rfl (Nat.le_of_ble_eq_true rfl) d_Md_deliver_147 (by decide)) hS (fun H locs hP hS => ?_)
            have hWf : WfM (B + 3) (mLk (sN (sN σ 122 j1 0) 49 0 0) (gN σ 126 j1) (gI σ 127 j1) (gI σ 128 j1)) := wfm_lk hWf (by omega) (hlkk j1 (by omega))
            refine lv_iload hx hb d_Md_deliver_150 (lv_at hl 6 rfl) ?_
            refine lv_iconst (v := (nI 3)) hx hb d_Md_deliver_152 (by decide) ?_
            refine x_icmp_neN (tgt := 165) hx hb d_Md_deliver_153 (by decide) (by omega) (by decide) (fun _ => ?_) (fun h => absurd h (by omega))
            refine lv_iload hx hb d_Md_deliver_165 (lv_at hl 6 rfl) ?_
            refine lv_iconst (v := (nI 4)) hx hb d_Md_deliver_167 (by decide) ?_
            refine x_icmp_neN (tgt := 183) hx hb d_Md_deliver_168 (by decide) (by omega) (by decide) (fun _ => ?_) (fun h => absurd h (by omega))
            refine lv_iload hx hb d_Md_deliver_183 (lv_at hl 6 rfl) ?_
            refine lv_iconst (v := (nI 5)) hx hb d_Md_deliver_185 (by decide) ?_
            refine x_icmp_neN (tgt := 200) hx hb d_Md_deliver_186 (by decide) (by omega) (by decide) (fun _ => ?_) (fun h => absurd h (by omega))
            refine lv_iload hx hb d_Md_deliver_200 (lv_at hl 6 rfl) ?_
            refine lv_bipush (v := (nI 6)) hx hb d_Md_deliver_202 (by decide) ?_
            refine x_icmp_neN (tgt := 215) hx hb d_Md_deliver_204 (by decide) (by omega) (by decide) (fun _ => ?_) (fun h => absurd h (by omega))
            refine lv_iload hx hb d_Md_deliver_215 (lv_at hl 6 rfl) ?_
            exact x_iret hx hb hr hlk hK hP hS d_Md_deliver_217 (mDelR_u h1 (mUp_9 h2)) (mDelS_h h1 (mUp_9 h2) h3 (mHand_2 h5))
        · refine lv_aload_n hx hb d_Md_deliver_126 rfl (lv_at hl 8 rfl) ?_
          refine lv_iload hx hb d_Md_deliver_127 (lv_at hl 4 rfl) ?_
          refine lv_iload hx hb d_Md_deliver_129 (lv_at hl 3 rfl) ?_
          refine x_cv (x_rV (As := [.int (nI (gN σ 125 j1)), .int (nI (gN σ 126 j1))]) (rest := []) hx hb hml hown ht gW cs_Md_175 (c_Md_takeAsk l D dA ad hJ (sN (sN σ 122 j1 0) 49 0 0) (gN σ 125 j1) (gN σ 126 j1) B hWf (by omega) (by omega) (by omega)) rfl rfl (by decide) xc_Md hN hK hP (moM (by decide)) rfl rfl hl.1 rfl (Nat.le_of_ble_eq_true rfl) d_Md_deliver_131 (by decide)) hS (fun H locs hP hS => ?_)
          have hWf : WfM (B + 1) (mTkA (sN (sN σ 122 j1 0) 49 0 0) (gN σ 125 j1) (gN σ 126 j1)) := wfm_tkA hWf (by omega) (by omega)
          refine lv_iload hx hb d_Md_deliver_134 (lv_at hl 6 rfl) ?_
          refine lv_iconst (v := (nI 2)) hx hb d_Md_deliver_136 (by decide) ?_
          refine x_icmp_neN (tgt := 150) hx hb d_Md_deliver_137 (by decide) (by omega) (by decide) (fun _ => ?_) (fun h => absurd h (by omega))
          refine lv_iload hx hb d_Md_deliver_150 (lv_at hl 6 rfl) ?_
          refine lv_iconst (v := (nI 3)) hx hb d_Md_deliver_152 (by decide) ?_
          refine x_icmp_neN (tgt := 165) hx hb d_Md_deliver_153 (by decide) (by omega) (by decide) (fun _ => ?_) (fun h => absurd h (by omega))
          refine lv_iload hx hb d_Md_deliver_165 (lv_at hl 6 rfl) ?_
          refine lv_iconst (v := (nI 4)) hx hb d_Md_deliver_167 (by decide) ?_
          refine x_icmp_neN (tgt := 183) hx hb d_Md_deliver_168 (by decide) (by omega) (by decide) (fun _ => ?_) (fun h => absurd h (by omega))
          refine lv_iload hx hb d_Md_deliver_183 (lv_at hl 6 rfl) ?_
          refine lv_iconst (v := (nI 5)) hx hb d_Md_deliver_185 (by decide) ?_
          refine x_icmp_neN (tgt := 200) hx hb d_Md_deliver_186 (by decide) (by omega) (by decide) (fun _ => ?_) (fun h => absurd h (by omega))
          refine lv_iload hx hb d_Md_deliver_200 (lv_at hl 6 rfl) ?_
          refine lv_bipush (v := (nI 6)) hx hb d_Md_deliver_202 (by decide) ?_
          refine x_icmp_neN (tgt := 215) hx hb d_Md_deliver_204 (by decide) (by omega) (by decide) (fun _ => ?_) (fun h => absurd h (by omega))
          refine lv_iload hx hb d_Md_deliver_215 (lv_at hl 6 rfl) ?_
          exact x_iret hx hb hr hlk hK hP hS d_Md_deliver_217 (mDelR_u h1 (mUp_9 h2)) (mDelS_h h1 (mUp_9 h2) h3 (mHand_1 h4))
      · refine lv_aload_n hx hb d_Md_deliver_62 rfl (lv_at hl 3 rfl) ?_
        refine lv_dup hx hb d_Md_deliver_63 rfl ?_
        refine x_get (v := .int (nI (gN σ 46 0))) (k := 46) hx hb ht xc_Md hown hK hP (moM (by decide)) rfl (by decide) fl_Md_172 rfl rfl rfl d_Md_deliver_64 ?_
        refine lv_iconst (v := (nI 1)) hx hb d_Md_deliver_67 (by decide) ?_
        refine x_iaddN hx hb d_Md_deliver_68 ?_
        refine x_put (σ' := sN (sN σ 122 j1 0) 46 0 ((gN σ 46 0) + 1)) (v := .int (nI ((gN σ 46 0) + 1))) (k := 46) hx hb ht xc_Md t_Md t_Md_ok n_Md hown hK hP hJ hw hS (moM (by decide)) rfl (by decide) fl_Md_172 rfl rfl rfl off_N rfl rfl rfl d_Md_deliver_69 (fun H locs hP hS => ?_)
        have hWf : WfM B (sN (sN σ 122 j1 0) 46 0 ((gN σ 46 0) + 1)) := wfm_N (by decide) hWf
        refine lv_iload hx hb d_Md_deliver_72 (lv_at hl 1 rfl) ?_
        exact x_iret hx hb hr hlk hK hP hS d_Md_deliver_74 (mDelR_u h1 (mUp_9 h2)) (mDelS_w h1 (mUp_9 h2) h3)
    · refine lv_aload_n hx hb d_Md_deliver_42 rfl (lv_at hl 3 rfl) ?_
      refine x_get (v := .ref (ad 1)) (k := 4) hx hb ht xc_Md hown hK hP (moM (by decide)) rfl (by decide) fl_Md_7 rfl rfl rfl d_Md_deliver_43 ?_
      refine lv_iload hx hb d_Md_deliver_46 (lv_at hl 0 rfl) ?_
      refine x_zald (κ := 100) (n := 5) hx hb hK hP (moM (by decide)) rfl (by decide) rfl rfl (by omega) (by omega) d_Md_deliver_48 ?_
      rw [show gB (sN σ 122 j1 0) 100 (gN σ 124 j1) = gB σ 100 (gN σ 124 j1) from rfl]
      refine x_ifeqB (tgt := 54) hx hb d_Md_deliver_49 (by decide) (fun h25 => ?_) (fun h25 => ?_)
      · refine lv_aload_n hx hb d_Md_deliver_54 rfl (lv_at hl 3 rfl) ?_
        refine lv_iload_n hx hb d_Md_deliver_55 rfl (lv_at hl 2 rfl) ?_
        refine x_ci (x_rV (As := [.int (nI j1)]) (rest := []) hx hb hml hown ht gW cs_Md_169 (c_Md_wrong l D dA ad hJ (sN σ 122 j1 0) j1 B hWf (by omega)) rfl rfl (by decide) xc_Md hN hK hP (moM (by decide)) rfl rfl hl.1 rfl (Nat.le_of_ble_eq_true rfl) d_Md_deliver_56 (by decide)) hS (fun H locs hP hS => ?_)
        refine x_ifeqB (tgt := 75) hx hb d_Md_deliver_59 (by decide) (fun h26 => ?_) (fun h26 => ?_)
        · refine lv_aload_n hx hb d_Md_deliver_75 rfl (lv_at hl 3 rfl) ?_
          refine lv_iconst (v := (nI 0)) hx hb d_Md_deliver_76 (by decide) ?_
          refine x_put (σ' := sN (sN σ 122 j1 0) 49 0 0) (v := .int (nI 0)) (k := 49) hx hb ht xc_Md t_Md t_Md_ok n_Md hown hK hP hJ hw hS (moM (by decide)) rfl (by decide) fl_Md_163 rfl rfl rfl off_N rfl rfl rfl d_Md_deliver_77 (fun H locs hP hS => ?_)
          have hWf : WfM B (sN (sN σ 122 j1 0) 49 0 0) := wfm_N (by decide) hWf
          refine lv_aload_n hx hb d_Md_deliver_80 rfl (lv_at hl 3 rfl) ?_
          refine x_get (v := .ref (ad 26)) (k := 38) hx hb ht xc_Md hown hK hP (moM (by decide)) rfl (by decide) fl_Md_87 rfl rfl rfl d_Md_deliver_81 ?_
          refine lv_iload_n hx hb d_Md_deliver_84 rfl (lv_at hl 2 rfl) ?_
          refine x_nald (κ := 125) (n := 24) hx hb hK hP (moM (by decide)) rfl (by decide) rfl rfl (by omega) (by omega) d_Md_deliver_85 ?_
          rw [show gN (sN (sN σ 122 j1 0) 49 0 0) 125 j1 = gN σ 125 j1 from rfl]
          refine lv_istore (lv' := [(6, .int (nI (gN σ 125 j1))), (5, .int (nI (gN σ 124 j1))), (4, .int (nI (gN σ 123 j1))), (3, .int (nI j1)), (0, .ref (ad 0)), (1, .int k), (2, .int cut)]) hx hb d_Md_deliver_86 hl (by decide) rfl (fun ls hl => ?_)
          refine lv_aload_n hx hb d_Md_deliver_88 rfl (lv_at hl 4 rfl) ?_
          refine x_get (v := .ref (ad 27)) (k := 39) hx hb ht xc_Md hown hK hP (moM (by decide)) rfl (by decide) fl_Md_90 rfl rfl rfl d_Md_deliver_89 ?_
          refine lv_iload_n hx hb d_Md_deliver_92 rfl (lv_at hl 3 rfl) ?_
          refine x_nald (κ := 126) (n := 24) hx hb hK hP (moM (by decide)) rfl (by decide) rfl rfl (by omega) (by omega) d_Md_deliver_93 ?_
          rw [show gN (sN (sN σ 122 j1 0) 49 0 0) 126 j1 = gN σ 126 j1 from rfl]
          refine lv_istore (lv' := [(7, .int (nI (gN σ 126 j1))), (6, .int (nI (gN σ 125 j1))), (5, .int (nI (gN σ 124 j1))), (4, .int (nI (gN σ 123 j1))), (3, .int (nI j1)), (0, .ref (ad 0)), (1, .int k), (2, .int cut)]) hx hb d_Md_deliver_94 hl (by decide) rfl (fun ls hl => ?_)
          refine lv_aload_n hx hb d_Md_deliver_96 rfl (lv_at hl 5 rfl) ?_
          refine x_get (v := .ref (ad 28)) (k := 40) hx hb ht xc_Md hown hK hP (moM (by decide)) rfl (by decide) fl_Md_93 rfl rfl rfl d_Md_deliver_97 ?_
          refine lv_iload_n hx hb d_Md_deliver_100 rfl (lv_at hl 4 rfl) ?_
          refine x_iald (κ := 127) (n := 24) hx hb hK hP (moM (by decide)) rfl (by decide) rfl rfl (by omega) (by omega) d_Md_deliver_101 ?_
          rw [show gI (sN (sN σ 122 j1 0) 49 0 0) 127 j1 = gI σ 127 j1 from rfl]
          refine lv_istore (lv' := [(8, .int (gI σ 127 j1)), (7, .int (nI (gN σ 126 j1))), (6, .int (nI (gN σ 125 j1))), (5, .int (nI (gN σ 124 j1))), (4, .int (nI (gN σ 123 j1))), (3, .int (nI j1)), (0, .ref (ad 0)), (1, .int k), (2, .int cut)]) hx hb d_Md_deliver_102 hl (by decide) rfl (fun ls hl => ?_)
          refine lv_aload_n hx hb d_Md_deliver_104 rfl (lv_at hl 6 rfl) ?_
          refine x_get (v := .ref (ad 29)) (k := 41) hx hb ht xc_Md hown hK hP (moM (by decide)) rfl (by decide) fl_Md_96 rfl rfl rfl d_Md_deliver_105 ?_
          refine lv_iload_n hx hb d_Md_deliver_108 rfl (lv_at hl 5 rfl) ?_
          refine x_iald (κ := 128) (n := 24) hx hb hK hP (moM (by decide)) rfl (by decide) rfl rfl (by omega) (by omega) d_Md_deliver_109 ?_
          rw [show gI (sN (sN σ 122 j1 0) 49 0 0) 128 j1 = gI σ 128 j1 from rfl]
          refine lv_istore (lv' := [(9, .int (gI σ 128 j1)), (8, .int (gI σ 127 j1)), (7, .int (nI (gN σ 126 j1))), (6, .int (nI (gN σ 125 j1))), (5, .int (nI (gN σ 124 j1))), (4, .int (nI (gN σ 123 j1))), (3, .int (nI j1)), (0, .ref (ad 0)), (1, .int k), (2, .int cut)]) hx hb d_Md_deliver_110 hl (by decide) rfl (fun ls hl => ?_)
          refine lv_aload_n hx hb d_Md_deliver_112 rfl (lv_at hl 7 rfl) ?_
          refine x_get (v := .ref (ad 30)) (k := 42) hx hb ht xc_Md hown hK hP (moM (by decide)) rfl (by decide) fl_Md_99 rfl rfl rfl d_Md_deliver_113 ?_
          refine lv_iload_n hx hb d_Md_deliver_116 rfl (lv_at hl 6 rfl) ?_
          refine x_iald (κ := 129) (n := 24) hx hb hK hP (moM (by decide)) rfl (by decide) rfl rfl (by omega) (by omega) d_Md_deliver_117 ?_
          rw [show gI (sN (sN σ 122 j1 0) 49 0 0) 129 j1 = gI σ 129 j1 from rfl]
          refine lv_istore (lv' := [(10, .int (gI σ 129 j1)), (9, .int (gI σ 128 j1)), (8, .int (gI σ 127 j1)), (7, .int (nI (gN σ 126 j1))), (6, .int (nI (gN σ 125 j1))), (5, .int (nI (gN σ 124 j1))), (4, .int (nI (gN σ 123 j1))), (3, .int (nI j1)), (0, .ref (ad 0)), (1, .int k), (2, .int cut)]) hx hb d_Md_deliver_118 hl (by decide) rfl (fun ls hl => ?_)
          refine lv_iload hx hb d_Md_deliver_120 (lv_at hl 6 rfl) ?_
          refine lv_iconst (v := (nI 1)) hx hb d_Md_deliver_122 (by decide) ?_
          refine x_icmp_neN (tgt := 134) hx hb d_Md_deliver_123 (by decide) (by omega) (by decide) (fun h27 => ?_) (fun h27 => ?_)
          · refine lv_iload hx hb d_Md_deliver_134 (lv_at hl 6 rfl) ?_
            refine lv_iconst (v := (nI 2)) hx hb d_Md_deliver_136 (by decide) ?_
            refine x_icmp_neN (tgt := 150) hx hb d_Md_deliver_137 (by decide) (by omega) (by decide) (fun h28 => ?_) (fun h28 => ?_)
            · refine lv_iload hx hb d_Md_deliver_150 (lv_at hl 6 rfl) ?_
              refine lv_iconst (v := (nI 3)) hx hb d_Md_deliver_152 (by decide) ?_
              refine x_icmp_neN (tgt := 165) hx hb d_Md_deliver_153 (by decide) (by omega) (by decide) (fun h29 => ?_) (fun h29 => ?_)
              · refine lv_iload hx hb d_Md_deliver_165 (lv_at hl 6 rfl) ?_
                refine lv_iconst (v := (nI 4)) hx hb d_Md_deliver_167 (by decide) ?_
                refine x_icmp_neN (tgt := 183) hx hb d_Md_deliver_168 (by decide) (by omega) (by decide) (fun h30 => ?_) (fun h30 => ?_)
                · refine lv_iload hx hb d_Md_deliver_183 (lv_at hl 6 rfl) ?_
                  refine lv_iconst (v := (nI 5)) hx hb d_Md_deliver_185 (by decide) ?_
                  refine x_icmp_neN (tgt := 200) hx hb d_Md_deliver_186 (by decide) (by omega) (by decide) (fun h31 => ?_) (fun h31 => ?_)
                  · refine lv_iload hx hb d_Md_deliver_200 (lv_at hl 6 rfl) ?_
                    refine lv_bipush (v := (nI 6)) hx hb d_Md_deliver_202 (by decide) ?_
                    refine x_icmp_neN (tgt := 215) hx hb d_Md_deliver_204 (by decide) (by omega) (by decide) (fun h32 => ?_) (fun h32 => ?_)
                    · refine lv_iload hx hb d_Md_deliver_215 (lv_at hl 6 rfl) ?_
                      exact x_iret hx hb hr hlk hK hP hS d_Md_deliver_217 (mDelR_u h1 (mUp_d h2 h25)) (mDelS_h h1 (mUp_d h2 h25) h26 (mHand_0 h27 h28 h29 h30 h31 h32))
                    · refine lv_aload_n hx hb d_Md_deliver_207 rfl (lv_at hl 8 rfl) ?_
                      refine lv_iload hx hb d_Md_deliver_208 (lv_at hl 4 rfl) ?_
                      refine lv_iload hx hb d_Md_deliver_210 (lv_at hl 2 rfl) ?_
                      refine x_cv (x_rV (As := [.int (nI (gN σ 125 j1)), .int (gI σ 127 j1)]) (rest := []) hx hb hml hown ht gW cs_Md_193 (c_Md_takeAnswer l D dA ad hJ (sN (sN σ 122 j1 0) 49 0 0) (gN σ 125 j1) (gI σ 127 j1) B hWf ((ks_N _ (by decide) _ _).inv ((ks_N _ (by decide) _ _).inv hKI)) (by omega)) rfl rfl (by decide) xc_Md hN hK hP (moM (by decide)) rfl rfl hl.1 rfl (Nat.le_of_ble_eq_true rfl) d_Md_deliver_212 (by decide)) hS (fun H locs hP hS => ?_)
                      have hWf : WfM B (anO (sN (sN σ 122 j1 0) 49 0 0) (gN σ 125 j1) (gI σ 127 j1) 10) := (anO_ok hWf ((ks_N _ (by decide) _ _).inv ((ks_N _ (by decide) _ _).inv hKI)) 10).1
                      refine lv_iload hx hb d_Md_deliver_215 (lv_at hl 6 rfl) ?_
                      exact x_iret hx hb hr hlk hK hP hS d_Md_deliver_217 (mDelR_u h1 (mUp_d h2 h25)) (mDelS_h h1 (mUp_d h2 h25) h26 (mHand_6 h32))
                  · refine lv_aload_n hx hb d_Md_deliver_189 rfl (lv_at hl 8 rfl) ?_
                    refine lv_iload hx hb d_Md_deliver_190 (lv_at hl 4 rfl) ?_
                    refine lv_iload hx hb d_Md_deliver_192 (lv_at hl 0 rfl) ?_
                    refine lv_iload hx hb d_Md_deliver_194 (lv_at hl 2 rfl) ?_
                    refine lv_iload_n hx hb d_Md_deliver_196 rfl (lv_at hl 10 rfl) ?_
                    refine x_cv (x_rV (As := [.int (nI (gN σ 125 j1)), .int (gI σ 129 j1), .int (gI σ 127 j1), .int cut]) (rest := []) hx hb hml hown ht gW cs_Md_190 (c_Md_takeResult l D dA ad hJ (sN (sN σ 122 j1 0) 49 0 0) (gN σ 125 j1) (gI σ 129 j1) (gI σ 127 j1) cut B hWf (by omega) (by omega) hb12) rfl rfl (by decide) xc_Md hN hK hP (moM (by decide)) rfl rfl hl.1 rfl (Nat.le_of_ble_eq_true rfl) d_Md_deliver_197 (by decide)) hS (fun H locs hP hS => ?_)
                    have hWf : WfM (B + 1) (mRes (sN (sN σ 122 j1 0) 49 0 0) (gN σ 125 j1) (gI σ 129 j1) (gI σ 127 j1) cut) := wfm_res hWf (by omega) hb12
                    refine lv_iload hx hb d_Md_deliver_200 (lv_at hl 6 rfl) ?_
                    refine lv_bipush (v := (nI 6)) hx hb d_Md_deliver_202 (by decide) ?_
                    refine x_icmp_neN (tgt := 215) hx hb d_Md_deliver_204 (by decide) (by omega) (by decide) (fun _ => ?_) (fun h => absurd h (by omega))
                    refine lv_iload hx hb d_Md_deliver_215 (lv_at hl 6 rfl) ?_
                    exact x_iret hx hb hr hlk hK hP hS d_Md_deliver_217 (mDelR_u h1 (mUp_d h2 h25)) (mDelS_h h1 (mUp_d h2 h25) h26 (mHand_5 h31))
                · refine lv_aload_n hx hb d_Md_deliver_171 rfl (lv_at hl 8 rfl) ?_
                  refine lv_iload hx hb d_Md_deliver_172 (lv_at hl 5 rfl) ?_
                  refine lv_iload hx hb d_Md_deliver_174 (lv_at hl 4 rfl) ?_
                  refine lv_iload hx hb d_Md_deliver_176 (lv_at hl 2 rfl) ?_
                  refine lv_iload hx hb d_Md_deliver_178 (lv_at hl 1 rfl) ?_
                  refine x_cv (x_rV (As := [.int (nI (gN σ 124 j1)), .int (nI (gN σ 125 j1)), .int (gI σ 127 j1), .int (gI σ 128 j1)]) (rest := []) hx hb hml hown ht gW cs_Md_186 (c_Md_takeLease l D dA ad hJ (sN (sN σ 122 j1 0) 49 0 0) (gN σ 124 j1) (gN σ 125 j1) (gI σ 127 j1) (gI σ 128 j1) (hl4 j1 (by omega))) rfl rfl (by decide) xc_Md hN hK hP (moM (by decide)) rfl rfl hl.1 rfl (Nat.le_of_ble_eq_true rfl) d_Md_deliver_180 (by decide)) hS (fun H locs hP hS => ?_)
                  have hWf : WfM B (mLease (sN (sN σ 122 j1 0) 49 0 0) (gN σ 124 j1) (gN σ 125 j1) (gI σ 127 j1) (gI σ 128 j1)) := wfm_lease hWf (by omega)
                  refine lv_iload hx hb d_Md_deliver_183 (lv_at hl 6 rfl) ?_
                  refine lv_iconst (v := (nI 5)) hx hb d_Md_deliver_185 (by decide) ?_
                  refine x_icmp_neN (tgt := 200) hx hb d_Md_deliver_186 (by decide) (by omega) (by decide) (fun _ => ?_) (fun h => absurd h (by omega))
                  refine lv_iload hx hb d_Md_deliver_200 (lv_at hl 6 rfl) ?_
                  refine lv_bipush (v := (nI 6)) hx hb d_Md_deliver_202 (by decide) ?_
                  refine x_icmp_neN (tgt := 215) hx hb d_Md_deliver_204 (by decide) (by omega) (by decide) (fun _ => ?_) (fun h => absurd h (by omega))
                  refine lv_iload hx hb d_Md_deliver_215 (lv_at hl 6 rfl) ?_
                  exact x_iret hx hb hr hlk hK hP hS d_Md_deliver_217 (mDelR_u h1 (mUp_d h2 h25)) (mDelS_h h1 (mUp_d h2 h25) h26 (mHand_4 h30))
              · refine lv_aload_n hx hb d_Md_deliver_156 rfl (lv_at hl 8 rfl) ?_
                refine lv_iload hx hb d_Md_deliver_157 (lv_at hl 0 rfl) ?_
                refine lv_iload hx hb d_Md_deliver_159 (lv_at hl 2 rfl) ?_
                refine lv_iload_n hx hb d_Md_deliver_161 rfl (lv_at hl 10 rfl) ?_
                refine x_cv (x_rV (As := [.int (gI σ 129 j1), .int (gI σ 127 j1), .int cut]) (rest := []) hx hb hml hown ht gW cs_Md_183 (c_Md_takePut l D dA ad hJ (sN (sN σ 122 j1 0) 49 0 0) (gI σ 129 j1) (gI σ 127 j1) cut B hWf hb12) rfl rfl (by decide) xc_Md hN hK hP (moM (by decide)) rfl rfl hl.1 rfl (Nat.le_of_ble_eq_true rfl) d_Md_deliver_162 (by decide)) hS (fun H locs hP hS => ?_)
                have hWf : WfM B (mPut (sN (sN σ 122 j1 0) 49 0 0) (gI σ 129 j1) (gI σ 127 j1) cut) := wfm_put hWf hb12
                refine lv_iload hx hb d_Md_deliver_165 (lv_at hl 6 rfl) ?_
                refine lv_iconst (v := (nI 4)) hx hb d_Md_deliver_167 (by decide) ?_
                refine x_icmp_neN (tgt := 183) hx hb d_Md_deliver_168 (by decide) (by omega) (by decide) (fun _ => ?_) (fun h => absurd h (by omega))
                refine lv_iload hx hb d_Md_deliver_183 (lv_at hl 6 rfl) ?_
                refine lv_iconst (v := (nI 5)) hx hb d_Md_deliver_185 (by decide) ?_
                refine x_icmp_neN (tgt := 200) hx hb d_Md_deliver_186 (by decide) (by omega) (by decide) (fun _ => ?_) (fun h => absurd h (by omega))
                refine lv_iload hx hb d_Md_deliver_200 (lv_at hl 6 rfl) ?_
                refine lv_bipush (v := (nI 6)) hx hb d_Md_deliver_202 (by decide) ?_
                refine x_icmp_neN (tgt := 215) hx hb d_Md_deliver_204 (by decide) (by omega) (by decide) (fun _ => ?_) (fun h => absurd h (by omega))
                refine lv_iload hx hb d_Md_deliver_215 (lv_at hl 6 rfl) ?_
                exact x_iret hx hb hr hlk hK hP hS d_Md_deliver_217 (mDelR_u h1 (mUp_d h2 h25)) (mDelS_h h1 (mUp_d h2 h25) h26 (mHand_3 h29))
            · refine lv_aload_n hx hb d_Md_deliver_140 rfl (lv_at hl 8 rfl) ?_
              refine lv_iload hx hb d_Md_deliver_141 (lv_at hl 3 rfl) ?_
              refine lv_iload hx hb d_Md_deliver_143 (lv_at hl 2 rfl) ?_
              refine lv_iload hx hb d_Md_deliver_145 (lv_at hl 1 rfl) ?_
              refine x_cv (x_rV (As := [.int (nI (gN σ 126 j1)), .int (gI σ 127 j1), .int (gI σ 128 j1)]) (rest := []) hx hb hml hown ht gW cs_Md_179 (c_Md_takeLack l D dA ad hJ (sN (sN σ 122 j1 0) 49 0 0) (gN σ 126 j1) (gI σ 127 j1) (gI σ 128 j1) B hWf (by omega) (by omega) (hlkk j1 (by omega))) rfl rfl (by decide) xc_Md hN hK hP (moM (by decide)) rfl rfl hl.1 rfl (Nat.le_of_ble_eq_true rfl) d_Md_deliver_147 (by decide)) hS (fun H locs hP hS => ?_)
              have hWf : WfM (B + 3) (mLk (sN (sN σ 122 j1 0) 49 0 0) (gN σ 126 j1) (gI σ 127 j1) (gI σ 128 j1)) := wfm_lk hWf (by omega) (hlkk j1 (by omega))
              refine lv_iload hx hb d_Md_deliver_150 (lv_at hl 6 rfl) ?_
              refine lv_iconst (v := (nI 3)) hx hb d_Md_deliver_152 (by decide) ?_
              refine x_icmp_neN (tgt := 165) hx hb d_Md_deliver_153 (by decide) (by omega) (by decide) (fun _ => ?_) (fun h => absurd h (by omega))
              refine lv_iload hx hb d_Md_deliver_165 (lv_at hl 6 rfl) ?_
              refine lv_iconst (v := (nI 4)) hx hb d_Md_deliver_167 (by decide) ?_
              refine x_icmp_neN (tgt := 183) hx hb d_Md_deliver_168 (by decide) (by omega) (by decide) (fun _ => ?_) (fun h => absurd h (by omega))
              refine lv_iload hx hb d_Md_deliver_183 (lv_at hl 6 rfl) ?_
              refine lv_iconst (v := (nI 5)) hx hb d_Md_deliver_185 (by decide) ?_
              refine x_icmp_neN (tgt := 200) hx hb d_Md_deliver_186 (by decide) (by omega) (by decide) (fun _ => ?_) (fun h => absurd h (by omega))
              refine lv_iload hx hb d_Md_deliver_200 (lv_at hl 6 rfl) ?_
              refine lv_bipush (v := (nI 6)) hx hb d_Md_deliver_202 (by decide) ?_
              refine x_icmp_neN (tgt := 215) hx hb d_Md_deliver_204 (by decide) (by omega) (by decide) (fun _ => ?_) (fun h => absurd h (by omega))
              refine lv_iload hx hb d_Md_deliver_215 (lv_at hl 6 rfl) ?_
              exact x_iret hx hb hr hlk hK hP hS d_Md_deliver_217 (mDelR_u h1 (mUp_d h2 h25)) (mDelS_h h1 (mUp_d h2 h25) h26 (mHand_2 h28))
          · refine lv_aload_n hx hb d_Md_deliver_126 rfl (lv_at hl 8 rfl) ?_
            refine lv_iload hx hb d_Md_deliver_127 (lv_at hl 4 rfl) ?_
            refine lv_iload hx hb d_Md_deliver_129 (lv_at hl 3 rfl) ?_
            refine x_cv (x_rV (As := [.int (nI (gN σ 125 j1)), .int (nI (gN σ 126 j1))]) (rest := []) hx hb hml hown ht gW cs_Md_175 (c_Md_takeAsk l D dA ad hJ (sN (sN σ 122 j1 0) 49 0 0) (gN σ 125 j1) (gN σ 126 j1) B hWf (by omega) (by omega) (by omega)) rfl rfl (by decide) xc_Md hN hK hP (moM (by decide)) rfl rfl hl.1 rfl (Nat.le_of_ble_eq_true rfl) d_Md_deliver_131 (by decide)) hS (fun H locs hP hS => ?_)
            have hWf : WfM (B + 1) (mTkA (sN (sN σ 122 j1 0) 49 0 0) (gN σ 125 j1) (gN σ 126 j1)) := wfm_tkA hWf (by omega) (by omega)
            refine lv_iload hx hb d_Md_deliver_134 (lv_at hl 6 rfl) ?_
            refine lv_iconst (v := (nI 2)) hx hb d_Md_deliver_136 (by decide) ?_
            refine x_icmp_neN (tgt := 150) hx hb d_Md_deliver_137 (by decide) (by omega) (by decide) (fun _ => ?_) (fun h => absurd h (by omega))
            refine lv_iload hx hb d_Md_deliver_150 (lv_at hl 6 rfl) ?_
            refine lv_iconst (v := (nI 3)) hx hb d_Md_deliver_152 (by decide) ?_
            refine x_icmp_neN (tgt := 165) hx hb d_Md_deliver_153 (by decide) (by omega) (by decide) (fun _ => ?_) (fun h => absurd h (by omega))
            refine lv_iload hx hb d_Md_deliver_165 (lv_at hl 6 rfl) ?_
            refine lv_iconst (v := (nI 4)) hx hb d_Md_deliver_167 (by decide) ?_
            refine x_icmp_neN (tgt := 183) hx hb d_Md_deliver_168 (by decide) (by omega) (by decide) (fun _ => ?_) (fun h => absurd h (by omega))
            refine lv_iload hx hb d_Md_deliver_183 (lv_at hl 6 rfl) ?_
            refine lv_iconst (v := (nI 5)) hx hb d_Md_deliver_185 (by decide) ?_
            refine x_icmp_neN (tgt := 200) hx hb d_Md_deliver_186 (by decide) (by omega) (by decide) (fun _ => ?_) (fun h => absurd h (by omega))
            refine lv_iload hx hb d_Md_deliver_200 (lv_at hl 6 rfl) ?_
            refine lv_bipush (v := (nI 6)) hx hb d_Md_deliver_202 (by decide) ?_
            refine x_icmp_neN (tgt := 215) hx hb d_Md_deliver_204 (by decide) (by omega) (by decide) (fun _ => ?_) (fun h => absurd h (by omega))
            refine lv_iload hx hb d_Md_deliver_215 (lv_at hl 6 rfl) ?_
            exact x_iret hx hb hr hlk hK hP hS d_Md_deliver_217 (mDelR_u h1 (mUp_d h2 h25)) (mDelS_h h1 (mUp_d h2 h25) h26 (mHand_1 h27))
        · refine lv_aload_n hx hb d_Md_deliver_62 rfl (lv_at hl 3 rfl) ?_
          refine lv_dup hx hb d_Md_deliver_63 rfl ?_
          refine x_get (v := .int (nI (gN σ 46 0))) (k := 46) hx hb ht xc_Md hown hK hP (moM (by decide)) rfl (by decide) fl_Md_172 rfl rfl rfl d_Md_deliver_64 ?_
          refine lv_iconst (v := (nI 1)) hx hb d_Md_deliver_67 (by decide) ?_
          refine x_iaddN hx hb d_Md_deliver_68 ?_
          refine x_put (σ' := sN (sN σ 122 j1 0) 46 0 ((gN σ 46 0) + 1)) (v := .int (nI ((gN σ 46 0) + 1))) (k := 46) hx hb ht xc_Md t_Md t_Md_ok n_Md hown hK hP hJ hw hS (moM (by decide)) rfl (by decide) fl_Md_172 rfl rfl rfl off_N rfl rfl rfl d_Md_deliver_69 (fun H locs hP hS => ?_)
          have hWf : WfM B (sN (sN σ 122 j1 0) 46 0 ((gN σ 46 0) + 1)) := wfm_N (by decide) hWf
          refine lv_iload hx hb d_Md_deliver_72 (lv_at hl 1 rfl) ?_
          exact x_iret hx hb hr hlk hK hP hS d_Md_deliver_74 (mDelR_u h1 (mUp_d h2 h25)) (mDelS_w h1 (mUp_d h2 h25) h26)
      · refine lv_iconst (v := (nI 0)) hx hb d_Md_deliver_52 (by decide) ?_
        exact x_iret hx hb hr hlk hK hP hS d_Md_deliver_53 (mDelR_d h1 (mUp_d h2 h25)) (mDelS_d h1 (mUp_d h2 h25))
  · refine lv_iconst (v := ((-1))) hx hb d_Md_deliver_10 (by decide) ?_
    exact x_iret hx hb hr hlk hK hP hS d_Md_deliver_11 (mDelR_n h1) (mDelS_n h1)
