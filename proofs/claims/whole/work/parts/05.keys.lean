abbrev b_Key_set : ByteArray := prog_5_method_2_code
def y_Key_set : MethodName := ⟨"LeasedBuilds$Key", "set", "(JII)V"⟩
def w_Key_set : List Cond := .code y_Key_set b_Key_set 5 none :: WS
abbrev b_Key_copy : ByteArray := prog_5_method_3_code
def y_Key_copy : MethodName := ⟨"LeasedBuilds$Key", "copy", "(LLeasedBuilds$Key;)V"⟩
def w_Key_copy : List Cond := .code y_Key_copy b_Key_copy 2 none :: WS
abbrev b_Key_isSame : ByteArray := prog_5_method_4_code
def y_Key_isSame : MethodName := ⟨"LeasedBuilds$Key", "isSame", "(LLeasedBuilds$Key;)Z"⟩
def w_Key_isSame : List Cond := .code y_Key_isSame b_Key_isSame 2 (some .boolean) :: WS
abbrev b_Key_names : ByteArray := prog_5_method_5_code
def y_Key_names : MethodName := ⟨"LeasedBuilds$Key", "names", "(I)Z"⟩
def w_Key_names : List Cond := .code y_Key_names b_Key_names 2 (some .boolean) :: WS
abbrev b_LB_digestOf : ByteArray := prog_1_method_26_code
def y_LB_digestOf : MethodName := ⟨"LeasedBuilds", "digestOf", "(I)I"⟩
def w_LB_digestOf : List Cond := .code y_LB_digestOf b_LB_digestOf 3 (some .int) :: WS
abbrev b_Message_hasContent : ByteArray := prog_7_method_2_code
def y_Message_hasContent : MethodName := ⟨"LeasedBuilds$Message", "hasContent", "()Z"⟩
def w_Message_hasContent : List Cond := .code y_Message_hasContent b_Message_hasContent 1 (some .boolean) :: WS
abbrev b_Message_isSound : ByteArray := prog_7_method_3_code
def y_Message_isSound : MethodName := ⟨"LeasedBuilds$Message", "isSound", "()Z"⟩
def w_Message_isSound : List Cond := .code y_Message_isSound b_Message_isSound 1 (some .boolean) :: WS
abbrev b_Message_fill : ByteArray := prog_7_method_4_code
def y_Message_fill : MethodName := ⟨"LeasedBuilds$Message", "fill", "(LLeasedBuilds$Key;II)V"⟩
def w_Message_fill : List Cond := .code y_Message_fill b_Message_fill 4 none :: WS
theorem d_Key_set_0 : decode b_Key_set 0 = .ok (.aload_n 0, 1) := by decide +kernel
theorem d_Key_set_1 : decode b_Key_set 1 = .ok (.lload_n 1, 1) := by decide +kernel
theorem d_Key_set_2 : decode b_Key_set 2 = .ok (.putfield 7, 3) := by decide +kernel
theorem d_Key_set_5 : decode b_Key_set 5 = .ok (.aload_n 0, 1) := by decide +kernel
theorem d_Key_set_6 : decode b_Key_set 6 = .ok (.iload_n 3, 1) := by decide +kernel
theorem d_Key_set_7 : decode b_Key_set 7 = .ok (.putfield 13, 3) := by decide +kernel
theorem d_Key_set_10 : decode b_Key_set 10 = .ok (.aload_n 0, 1) := by decide +kernel
theorem d_Key_set_11 : decode b_Key_set 11 = .ok (.iload 4, 2) := by decide +kernel
theorem d_Key_set_13 : decode b_Key_set 13 = .ok (.putfield 17, 3) := by decide +kernel
theorem d_Key_set_16 : decode b_Key_set 16 = .ok (.return_, 1) := by decide +kernel
theorem d_Key_copy_0 : decode b_Key_copy 0 = .ok (.aload_n 0, 1) := by decide +kernel
theorem d_Key_copy_1 : decode b_Key_copy 1 = .ok (.aload_n 1, 1) := by decide +kernel
theorem d_Key_copy_2 : decode b_Key_copy 2 = .ok (.getfield 7, 3) := by decide +kernel
theorem d_Key_copy_5 : decode b_Key_copy 5 = .ok (.aload_n 1, 1) := by decide +kernel
theorem d_Key_copy_6 : decode b_Key_copy 6 = .ok (.getfield 13, 3) := by decide +kernel
theorem d_Key_copy_9 : decode b_Key_copy 9 = .ok (.aload_n 1, 1) := by decide +kernel
theorem d_Key_copy_10 : decode b_Key_copy 10 = .ok (.getfield 17, 3) := by decide +kernel
theorem d_Key_copy_13 : decode b_Key_copy 13 = .ok (.invokevirtual 20, 3) := by decide +kernel
theorem d_Key_copy_16 : decode b_Key_copy 16 = .ok (.return_, 1) := by decide +kernel
theorem d_Key_isSame_0 : decode b_Key_isSame 0 = .ok (.aload_n 0, 1) := by decide +kernel
theorem d_Key_isSame_1 : decode b_Key_isSame 1 = .ok (.getfield 7, 3) := by decide +kernel
theorem d_Key_isSame_4 : decode b_Key_isSame 4 = .ok (.aload_n 1, 1) := by decide +kernel
theorem d_Key_isSame_5 : decode b_Key_isSame 5 = .ok (.getfield 7, 3) := by decide +kernel
theorem d_Key_isSame_8 : decode b_Key_isSame 8 = .ok (.lcmp, 1) := by decide +kernel
theorem d_Key_isSame_9 : decode b_Key_isSame 9 = .ok (.ifCond .ne 29, 3) := by decide +kernel
theorem d_Key_isSame_12 : decode b_Key_isSame 12 = .ok (.aload_n 0, 1) := by decide +kernel
theorem d_Key_isSame_13 : decode b_Key_isSame 13 = .ok (.getfield 13, 3) := by decide +kernel
theorem d_Key_isSame_16 : decode b_Key_isSame 16 = .ok (.aload_n 1, 1) := by decide +kernel
theorem d_Key_isSame_17 : decode b_Key_isSame 17 = .ok (.getfield 13, 3) := by decide +kernel
theorem d_Key_isSame_20 : decode b_Key_isSame 20 = .ok (.if_icmp .ne 18, 3) := by decide +kernel
theorem d_Key_isSame_23 : decode b_Key_isSame 23 = .ok (.aload_n 0, 1) := by decide +kernel
theorem d_Key_isSame_24 : decode b_Key_isSame 24 = .ok (.getfield 17, 3) := by decide +kernel
theorem d_Key_isSame_27 : decode b_Key_isSame 27 = .ok (.aload_n 1, 1) := by decide +kernel
theorem d_Key_isSame_28 : decode b_Key_isSame 28 = .ok (.getfield 17, 3) := by decide +kernel
theorem d_Key_isSame_31 : decode b_Key_isSame 31 = .ok (.if_icmp .ne 7, 3) := by decide +kernel
theorem d_Key_isSame_34 : decode b_Key_isSame 34 = .ok (.iconst 1, 1) := by decide +kernel
theorem d_Key_isSame_35 : decode b_Key_isSame 35 = .ok (.goto 4, 3) := by decide +kernel
theorem d_Key_isSame_38 : decode b_Key_isSame 38 = .ok (.iconst 0, 1) := by decide +kernel
theorem d_Key_isSame_39 : decode b_Key_isSame 39 = .ok (.ireturn, 1) := by decide +kernel
theorem d_Key_names_0 : decode b_Key_names 0 = .ok (.aload_n 0, 1) := by decide +kernel
theorem d_Key_names_1 : decode b_Key_names 1 = .ok (.getfield 13, 3) := by decide +kernel
theorem d_Key_names_4 : decode b_Key_names 4 = .ok (.iload_n 1, 1) := by decide +kernel
theorem d_Key_names_5 : decode b_Key_names 5 = .ok (.if_icmp .eq 11, 3) := by decide +kernel
theorem d_Key_names_8 : decode b_Key_names 8 = .ok (.aload_n 0, 1) := by decide +kernel
theorem d_Key_names_9 : decode b_Key_names 9 = .ok (.getfield 17, 3) := by decide +kernel
theorem d_Key_names_12 : decode b_Key_names 12 = .ok (.iload_n 1, 1) := by decide +kernel
theorem d_Key_names_13 : decode b_Key_names 13 = .ok (.if_icmp .ne 7, 3) := by decide +kernel
theorem d_Key_names_16 : decode b_Key_names 16 = .ok (.iconst 1, 1) := by decide +kernel
theorem d_Key_names_17 : decode b_Key_names 17 = .ok (.goto 4, 3) := by decide +kernel
theorem d_Key_names_20 : decode b_Key_names 20 = .ok (.iconst 0, 1) := by decide +kernel
theorem d_Key_names_21 : decode b_Key_names 21 = .ok (.ireturn, 1) := by decide +kernel
theorem d_LB_digestOf_0 : decode b_LB_digestOf 0 = .ok (.iload_n 0, 1) := by decide +kernel
theorem d_LB_digestOf_1 : decode b_LB_digestOf 1 = .ok (.ldc 206, 2) := by decide +kernel
theorem d_LB_digestOf_3 : decode b_LB_digestOf 3 = .ok (.imul, 1) := by decide +kernel
theorem d_LB_digestOf_4 : decode b_LB_digestOf 4 = .ok (.istore_n 1, 1) := by decide +kernel
theorem d_LB_digestOf_5 : decode b_LB_digestOf 5 = .ok (.iload_n 1, 1) := by decide +kernel
theorem d_LB_digestOf_6 : decode b_LB_digestOf 6 = .ok (.iload_n 1, 1) := by decide +kernel
theorem d_LB_digestOf_7 : decode b_LB_digestOf 7 = .ok (.bipush 11, 2) := by decide +kernel
theorem d_LB_digestOf_9 : decode b_LB_digestOf 9 = .ok (.iushr, 1) := by decide +kernel
theorem d_LB_digestOf_10 : decode b_LB_digestOf 10 = .ok (.ixor, 1) := by decide +kernel
theorem d_LB_digestOf_11 : decode b_LB_digestOf 11 = .ok (.istore_n 2, 1) := by decide +kernel
theorem d_LB_digestOf_12 : decode b_LB_digestOf 12 = .ok (.iload_n 2, 1) := by decide +kernel
theorem d_LB_digestOf_13 : decode b_LB_digestOf 13 = .ok (.ldc 207, 2) := by decide +kernel
theorem d_LB_digestOf_15 : decode b_LB_digestOf 15 = .ok (.imul, 1) := by decide +kernel
theorem d_LB_digestOf_16 : decode b_LB_digestOf 16 = .ok (.ireturn, 1) := by decide +kernel
theorem d_Message_hasContent_0 : decode b_Message_hasContent 0 = .ok (.aload_n 0, 1) := by decide +kernel
theorem d_Message_hasContent_1 : decode b_Message_hasContent 1 = .ok (.getfield 18, 3) := by decide +kernel
theorem d_Message_hasContent_4 : decode b_Message_hasContent 4 = .ok (.iconst 3, 1) := by decide +kernel
theorem d_Message_hasContent_5 : decode b_Message_hasContent 5 = .ok (.if_icmp .eq 28, 3) := by decide +kernel
theorem d_Message_hasContent_8 : decode b_Message_hasContent 8 = .ok (.aload_n 0, 1) := by decide +kernel
theorem d_Message_hasContent_9 : decode b_Message_hasContent 9 = .ok (.getfield 18, 3) := by decide +kernel
theorem d_Message_hasContent_12 : decode b_Message_hasContent 12 = .ok (.iconst 4, 1) := by decide +kernel
theorem d_Message_hasContent_13 : decode b_Message_hasContent 13 = .ok (.if_icmp .eq 20, 3) := by decide +kernel
theorem d_Message_hasContent_16 : decode b_Message_hasContent 16 = .ok (.aload_n 0, 1) := by decide +kernel
theorem d_Message_hasContent_17 : decode b_Message_hasContent 17 = .ok (.getfield 18, 3) := by decide +kernel
theorem d_Message_hasContent_20 : decode b_Message_hasContent 20 = .ok (.iconst 5, 1) := by decide +kernel
theorem d_Message_hasContent_21 : decode b_Message_hasContent 21 = .ok (.if_icmp .eq 12, 3) := by decide +kernel
theorem d_Message_hasContent_24 : decode b_Message_hasContent 24 = .ok (.aload_n 0, 1) := by decide +kernel
theorem d_Message_hasContent_25 : decode b_Message_hasContent 25 = .ok (.getfield 18, 3) := by decide +kernel
theorem d_Message_hasContent_28 : decode b_Message_hasContent 28 = .ok (.bipush 6, 2) := by decide +kernel
theorem d_Message_hasContent_30 : decode b_Message_hasContent 30 = .ok (.if_icmp .ne 7, 3) := by decide +kernel
theorem d_Message_hasContent_33 : decode b_Message_hasContent 33 = .ok (.iconst 1, 1) := by decide +kernel
theorem d_Message_hasContent_34 : decode b_Message_hasContent 34 = .ok (.goto 4, 3) := by decide +kernel
theorem d_Message_hasContent_37 : decode b_Message_hasContent 37 = .ok (.iconst 0, 1) := by decide +kernel
theorem d_Message_hasContent_38 : decode b_Message_hasContent 38 = .ok (.ireturn, 1) := by decide +kernel
theorem d_Message_isSound_0 : decode b_Message_isSound 0 = .ok (.aload_n 0, 1) := by decide +kernel
theorem d_Message_isSound_1 : decode b_Message_isSound 1 = .ok (.getfield 18, 3) := by decide +kernel
theorem d_Message_isSound_4 : decode b_Message_isSound 4 = .ok (.iconst 4, 1) := by decide +kernel
theorem d_Message_isSound_5 : decode b_Message_isSound 5 = .ok (.if_icmp .ne 43, 3) := by decide +kernel
theorem d_Message_isSound_8 : decode b_Message_isSound 8 = .ok (.aload_n 0, 1) := by decide +kernel
theorem d_Message_isSound_9 : decode b_Message_isSound 9 = .ok (.getfield 22, 3) := by decide +kernel
theorem d_Message_isSound_12 : decode b_Message_isSound 12 = .ok (.invokestatic 25, 3) := by decide +kernel
theorem d_Message_isSound_15 : decode b_Message_isSound 15 = .ok (.aload_n 0, 1) := by decide +kernel
theorem d_Message_isSound_16 : decode b_Message_isSound 16 = .ok (.getfield 12, 3) := by decide +kernel
theorem d_Message_isSound_19 : decode b_Message_isSound 19 = .ok (.getfield 29, 3) := by decide +kernel
theorem d_Message_isSound_22 : decode b_Message_isSound 22 = .ok (.if_icmp .ne 24, 3) := by decide +kernel
theorem d_Message_isSound_25 : decode b_Message_isSound 25 = .ok (.aload_n 0, 1) := by decide +kernel
theorem d_Message_isSound_26 : decode b_Message_isSound 26 = .ok (.getfield 32, 3) := by decide +kernel
theorem d_Message_isSound_29 : decode b_Message_isSound 29 = .ok (.invokestatic 25, 3) := by decide +kernel
theorem d_Message_isSound_32 : decode b_Message_isSound 32 = .ok (.aload_n 0, 1) := by decide +kernel
theorem d_Message_isSound_33 : decode b_Message_isSound 33 = .ok (.getfield 12, 3) := by decide +kernel
theorem d_Message_isSound_36 : decode b_Message_isSound 36 = .ok (.getfield 35, 3) := by decide +kernel
theorem d_Message_isSound_39 : decode b_Message_isSound 39 = .ok (.if_icmp .ne 7, 3) := by decide +kernel
theorem d_Message_isSound_42 : decode b_Message_isSound 42 = .ok (.iconst 1, 1) := by decide +kernel
theorem d_Message_isSound_43 : decode b_Message_isSound 43 = .ok (.goto 4, 3) := by decide +kernel
theorem d_Message_isSound_46 : decode b_Message_isSound 46 = .ok (.iconst 0, 1) := by decide +kernel
theorem d_Message_isSound_47 : decode b_Message_isSound 47 = .ok (.ireturn, 1) := by decide +kernel
theorem d_Message_isSound_48 : decode b_Message_isSound 48 = .ok (.aload_n 0, 1) := by decide +kernel
theorem d_Message_isSound_49 : decode b_Message_isSound 49 = .ok (.invokevirtual 38, 3) := by decide +kernel
theorem d_Message_isSound_52 : decode b_Message_isSound 52 = .ok (.ifCond .eq 17, 3) := by decide +kernel
theorem d_Message_isSound_55 : decode b_Message_isSound 55 = .ok (.aload_n 0, 1) := by decide +kernel
theorem d_Message_isSound_56 : decode b_Message_isSound 56 = .ok (.getfield 22, 3) := by decide +kernel
theorem d_Message_isSound_59 : decode b_Message_isSound 59 = .ok (.invokestatic 25, 3) := by decide +kernel
theorem d_Message_isSound_62 : decode b_Message_isSound 62 = .ok (.aload_n 0, 1) := by decide +kernel
theorem d_Message_isSound_63 : decode b_Message_isSound 63 = .ok (.getfield 42, 3) := by decide +kernel
theorem d_Message_isSound_66 : decode b_Message_isSound 66 = .ok (.if_icmp .ne 7, 3) := by decide +kernel
theorem d_Message_isSound_69 : decode b_Message_isSound 69 = .ok (.iconst 1, 1) := by decide +kernel
theorem d_Message_isSound_70 : decode b_Message_isSound 70 = .ok (.goto 4, 3) := by decide +kernel
theorem d_Message_isSound_73 : decode b_Message_isSound 73 = .ok (.iconst 0, 1) := by decide +kernel
theorem d_Message_isSound_74 : decode b_Message_isSound 74 = .ok (.ireturn, 1) := by decide +kernel
theorem d_Message_fill_0 : decode b_Message_fill 0 = .ok (.aload_n 0, 1) := by decide +kernel
theorem d_Message_fill_1 : decode b_Message_fill 1 = .ok (.getfield 12, 3) := by decide +kernel
theorem d_Message_fill_4 : decode b_Message_fill 4 = .ok (.aload_n 1, 1) := by decide +kernel
theorem d_Message_fill_5 : decode b_Message_fill 5 = .ok (.invokevirtual 45, 3) := by decide +kernel
theorem d_Message_fill_8 : decode b_Message_fill 8 = .ok (.aload_n 0, 1) := by decide +kernel
theorem d_Message_fill_9 : decode b_Message_fill 9 = .ok (.iload_n 2, 1) := by decide +kernel
theorem d_Message_fill_10 : decode b_Message_fill 10 = .ok (.putfield 42, 3) := by decide +kernel
theorem d_Message_fill_13 : decode b_Message_fill 13 = .ok (.aload_n 0, 1) := by decide +kernel
theorem d_Message_fill_14 : decode b_Message_fill 14 = .ok (.iload_n 3, 1) := by decide +kernel
theorem d_Message_fill_15 : decode b_Message_fill 15 = .ok (.putfield 22, 3) := by decide +kernel
theorem d_Message_fill_18 : decode b_Message_fill 18 = .ok (.return_, 1) := by decide +kernel
theorem fl_Key_7 : Cond.fieldLink "LeasedBuilds$Key" 7 "LeasedBuilds$Key" "program" "J" ∈ WS := ms (i := 40) (by decide +kernel) rfl
theorem fl_Key_13 : Cond.fieldLink "LeasedBuilds$Key" 13 "LeasedBuilds$Key" "a" "I" ∈ WS := ms (i := 42) (by decide +kernel) rfl
theorem fl_Key_17 : Cond.fieldLink "LeasedBuilds$Key" 17 "LeasedBuilds$Key" "b" "I" ∈ WS := ms (i := 45) (by decide +kernel) rfl
theorem cs_Key_20 : CwV WS "LeasedBuilds$Key" 20 "LeasedBuilds$Key" y_Key_set b_Key_set 5 none 3 := ⟨⟨ms (i := 388) (by decide +kernel) rfl, ms (i := 385) (by decide +kernel) rfl, ms (i := 386) (by decide +kernel) rfl, ms (i := 387) (by decide +kernel) rfl, ms (i := 4) (by decide +kernel) rfl⟩, by decide +kernel⟩
theorem cn_LB_206 : Cond.constant "LeasedBuilds" 206 1234567891 ∈ WS := ms (i := 375) (by decide +kernel) rfl
theorem cn_LB_207 : Cond.constant "LeasedBuilds" 207 987654321 ∈ WS := ms (i := 376) (by decide +kernel) rfl
theorem fl_Message_18 : Cond.fieldLink "LeasedBuilds$Message" 18 "LeasedBuilds$Message" "kind" "I" ∈ WS := ms (i := 59) (by decide +kernel) rfl
theorem fl_Message_22 : Cond.fieldLink "LeasedBuilds$Message" 22 "LeasedBuilds$Message" "first" "I" ∈ WS := ms (i := 73) (by decide +kernel) rfl
theorem cs_Message_25 : CwSN WS NL "LeasedBuilds$Message" 25 y_LB_digestOf b_LB_digestOf 3 (some .int) 1 := ⟨⟨ms (i := 374) (by decide +kernel) rfl, List.mem_of_getElem? (i := 10) rfl, ms (i := 373) (by decide +kernel) rfl, ms (i := 1) (by decide +kernel) rfl⟩, by decide +kernel⟩
theorem fl_Message_12 : Cond.fieldLink "LeasedBuilds$Message" 12 "LeasedBuilds$Message" "key" "LLeasedBuilds$Key;" ∈ WS := ms (i := 55) (by decide +kernel) rfl
theorem fl_Message_29 : Cond.fieldLink "LeasedBuilds$Message" 29 "LeasedBuilds$Key" "a" "I" ∈ WS := ms (i := 43) (by decide +kernel) rfl
theorem fl_Message_32 : Cond.fieldLink "LeasedBuilds$Message" 32 "LeasedBuilds$Message" "second" "I" ∈ WS := ms (i := 79) (by decide +kernel) rfl
theorem fl_Message_35 : Cond.fieldLink "LeasedBuilds$Message" 35 "LeasedBuilds$Key" "b" "I" ∈ WS := ms (i := 46) (by decide +kernel) rfl
theorem cs_Message_38 : CwV WS "LeasedBuilds$Message" 38 "LeasedBuilds$Message" y_Message_hasContent b_Message_hasContent 1 (some .boolean) 0 := ⟨⟨ms (i := 504) (by decide +kernel) rfl, ms (i := 501) (by decide +kernel) rfl, ms (i := 502) (by decide +kernel) rfl, ms (i := 503) (by decide +kernel) rfl, ms (i := 3) (by decide +kernel) rfl⟩, by decide +kernel⟩
theorem fl_Message_42 : Cond.fieldLink "LeasedBuilds$Message" 42 "LeasedBuilds$Message" "digest" "I" ∈ WS := ms (i := 70) (by decide +kernel) rfl
theorem cs_Message_45 : CwV WS "LeasedBuilds$Message" 45 "LeasedBuilds$Key" y_Key_copy b_Key_copy 2 none 1 := ⟨⟨ms (i := 384) (by decide +kernel) rfl, ms (i := 381) (by decide +kernel) rfl, ms (i := 382) (by decide +kernel) rfl, ms (i := 383) (by decide +kernel) rfl, ms (i := 4) (by decide +kernel) rfl⟩, by decide +kernel⟩
set_option maxHeartbeats 4000000 in
set_option maxRecDepth 100000 in
theorem c_Key_set (l : Launch) (D : va_G) (dA : Nat → ClassId) (ad : Nat → Nat) (nw : Nat) (hJ : Inj ad (obC nw)) (hnw : nw ≤ 4) (σ : Sg) (o : Nat) (p : Int64) (a : Int32) (b : Int32) (hk_o : kdC o = 1) (hm_o : o ∈ obC nw) : CV l D clX (tyX dA) (SC nw) ad dA (obC nw) NL y_Key_set w_Key_set { frames := 0, cells := 0, slots := 0, locals := 0 } [.ref (ad o), .long p, .int a, .int b] σ (kset σ o p a b) := by
  refine x_of (WS := WS) (cc := b_Key_set) (maxL := 5) (ret := none) (by decide) rfl (Nat.le_of_ble_eq_true rfl) ?_
  intro pp ee ss mm below meth cdd hx hb hml hr hlk ht hown hnm hN hK hP ls hl
  have hl : lv_has ls 5 [(0, .ref (ad o)), (1, .long p), (3, .int a), (4, .int b)] := hl
  have hS : va_S (Ad ad (obC nw)) ss.heap ss.heap [] := va_S.rf
  have hw := swfC hnw
  refine lv_aload_n hx hb d_Key_set_0 rfl (lv_at hl 0 rfl) ?_
  refine lv_lload_n hx hb d_Key_set_1 rfl (lv_at hl 1 rfl) ?_
  refine x_put (σ' := sJ σ 6 o p) (v := .long p) (k := 0) hx hb ht xc_Key t_Key t_Key_ok n_Key hown hK hP hJ hw hS hm_o hk_o (by decide) fl_Key_7 rfl rfl rfl off_J (by simp [vl, gs]) rfl rfl d_Key_set_2 (fun H locs hP hS => ?_)
  refine lv_aload_n hx hb d_Key_set_5 rfl (lv_at hl 0 rfl) ?_
  refine lv_iload_n hx hb d_Key_set_6 rfl (lv_at hl 2 rfl) ?_
  refine x_put (σ' := sI (sJ σ 6 o p) 7 o a) (v := .int a) (k := 1) hx hb ht xc_Key t_Key t_Key_ok n_Key hown hK hP hJ hw hS hm_o hk_o (by decide) fl_Key_13 rfl rfl rfl off_I (by simp [vl, gs]) rfl rfl d_Key_set_7 (fun H locs hP hS => ?_)
  refine lv_aload_n hx hb d_Key_set_10 rfl (lv_at hl 0 rfl) ?_
  refine lv_iload hx hb d_Key_set_11 (lv_at hl 3 rfl) ?_
  refine x_put (σ' := sI (sI (sJ σ 6 o p) 7 o a) 8 o b) (v := .int b) (k := 2) hx hb ht xc_Key t_Key t_Key_ok n_Key hown hK hP hJ hw hS hm_o hk_o (by decide) fl_Key_17 rfl rfl rfl off_I (by simp [vl, gs]) rfl rfl d_Key_set_13 (fun H locs hP hS => ?_)
  exact x_vret hx hb hr hlk hK hP hS d_Key_set_16 rfl
set_option maxHeartbeats 4000000 in
set_option maxRecDepth 100000 in
theorem c_Key_copy (l : Launch) (D : va_G) (dA : Nat → ClassId) (ad : Nat → Nat) (nw : Nat) (hJ : Inj ad (obC nw)) (hnw : nw ≤ 4) (σ : Sg) (o : Nat) (q : Nat) (hk_o : kdC o = 1) (hm_o : o ∈ obC nw) (hk_q : kdC q = 1) (hm_q : q ∈ obC nw) : CV l D clX (tyX dA) (SC nw) ad dA (obC nw) NL y_Key_copy w_Key_copy { frames := 1, cells := 0, slots := 0, locals := 24 } [.ref (ad o), .ref (ad q)] σ (kcopy σ o q) := by
  refine x_of (WS := WS) (cc := b_Key_copy) (maxL := 2) (ret := none) (by decide) rfl (Nat.le_of_ble_eq_true rfl) ?_
  intro pp ee ss mm below meth cdd hx hb hml hr hlk ht hown hnm hN hK hP ls hl
  have hl : lv_has ls 2 [(0, .ref (ad o)), (1, .ref (ad q))] := hl
  have hS : va_S (Ad ad (obC nw)) ss.heap ss.heap [] := va_S.rf
  have hw := swfC hnw
  refine lv_aload_n hx hb d_Key_copy_0 rfl (lv_at hl 0 rfl) ?_
  refine lv_aload_n hx hb d_Key_copy_1 rfl (lv_at hl 1 rfl) ?_
  refine x_get (v := .long (gJ σ 6 q)) (k := 0) hx hb ht xc_Key hown hK hP hm_q hk_q (by decide) fl_Key_7 rfl rfl rfl d_Key_copy_2 ?_
  refine lv_aload_n hx hb d_Key_copy_5 rfl (lv_at hl 1 rfl) ?_
  refine x_get (v := .int (gI σ 7 q)) (k := 1) hx hb ht xc_Key hown hK hP hm_q hk_q (by decide) fl_Key_13 rfl rfl rfl d_Key_copy_6 ?_
  refine lv_aload_n hx hb d_Key_copy_9 rfl (lv_at hl 1 rfl) ?_
  refine x_get (v := .int (gI σ 8 q)) (k := 2) hx hb ht xc_Key hown hK hP hm_q hk_q (by decide) fl_Key_17 rfl rfl rfl d_Key_copy_10 ?_
  refine x_cv (x_rV (As := [.long (gJ σ 6 q), .int (gI σ 7 q), .int (gI σ 8 q)]) (rest := []) hx hb hml hown ht gW cs_Key_20 (c_Key_set l D dA ad nw hJ hnw σ o (gJ σ 6 q) (gI σ 7 q) (gI σ 8 q) hk_o hm_o) rfl rfl (by decide) xc_Key hN hK hP hm_o hk_o rfl hl.1 rfl (Nat.le_of_ble_eq_true rfl) d_Key_copy_13 (by decide)) hS (fun H locs hP hS => ?_)
  exact x_vret hx hb hr hlk hK hP hS d_Key_copy_16 rfl
set_option maxHeartbeats 4000000 in
set_option maxRecDepth 100000 in
theorem c_Key_isSame (l : Launch) (D : va_G) (dA : Nat → ClassId) (ad : Nat → Nat) (nw : Nat) (hJ : Inj ad (obC nw)) (hnw : nw ≤ 4) (σ : Sg) (o : Nat) (q : Nat) (hk_o : kdC o = 1) (hm_o : o ∈ obC nw) (hk_q : kdC q = 1) (hm_q : q ∈ obC nw) : CI l D clX (tyX dA) (SC nw) ad dA (obC nw) NL y_Key_isSame w_Key_isSame { frames := 0, cells := 0, slots := 0, locals := 0 } [.ref (ad o), .ref (ad q)] σ ((bI (decide (kof σ o = kof σ q)))) σ := by
  refine x_of (WS := WS) (cc := b_Key_isSame) (maxL := 2) (ret := (some .boolean)) (by decide) rfl (Nat.le_of_ble_eq_true rfl) ?_
  intro pp ee ss mm below meth cdd hx hb hml hr hlk ht hown hnm hN hK hP ls hl
  have hl : lv_has ls 2 [(0, .ref (ad o)), (1, .ref (ad q))] := hl
  have hS : va_S (Ad ad (obC nw)) ss.heap ss.heap [] := va_S.rf
  have hw := swfC hnw
  refine lv_aload_n hx hb d_Key_isSame_0 rfl (lv_at hl 0 rfl) ?_
  refine x_get (v := .long (gJ σ 6 o)) (k := 0) hx hb ht xc_Key hown hK hP hm_o hk_o (by decide) fl_Key_7 rfl rfl rfl d_Key_isSame_1 ?_
  refine lv_aload_n hx hb d_Key_isSame_4 rfl (lv_at hl 1 rfl) ?_
  refine x_get (v := .long (gJ σ 6 q)) (k := 0) hx hb ht xc_Key hown hK hP hm_q hk_q (by decide) fl_Key_7 rfl rfl rfl d_Key_isSame_5 ?_
  refine W.lcmp hx hb d_Key_isSame_8 ?_
  refine x_lc_ne (tgt := 38) hx hb d_Key_isSame_9 (by decide) (fun h1 => ?_) (fun h1 => ?_)
  · refine lv_iconst (v := (nI 0)) hx hb d_Key_isSame_38 (by decide) ?_
    exact x_zret (b := false) hx hb hr hlk hK hP hS d_Key_isSame_39 rfl (by simp [kof, h1]) rfl
  · refine lv_aload_n hx hb d_Key_isSame_12 rfl (lv_at hl 0 rfl) ?_
    refine x_get (v := .int (gI σ 7 o)) (k := 1) hx hb ht xc_Key hown hK hP hm_o hk_o (by decide) fl_Key_13 rfl rfl rfl d_Key_isSame_13 ?_
    refine lv_aload_n hx hb d_Key_isSame_16 rfl (lv_at hl 1 rfl) ?_
    refine x_get (v := .int (gI σ 7 q)) (k := 1) hx hb ht xc_Key hown hK hP hm_q hk_q (by decide) fl_Key_13 rfl rfl rfl d_Key_isSame_17 ?_
    refine lv_icmp_ne (tgt := 38) hx hb d_Key_isSame_20 (by decide) (fun h2 => ?_) (fun h2 => ?_)
    · refine lv_iconst (v := (nI 0)) hx hb d_Key_isSame_38 (by decide) ?_
      exact x_zret (b := false) hx hb hr hlk hK hP hS d_Key_isSame_39 rfl (by simp [kof, h1, h2]) rfl
    · refine lv_aload_n hx hb d_Key_isSame_23 rfl (lv_at hl 0 rfl) ?_
      refine x_get (v := .int (gI σ 8 o)) (k := 2) hx hb ht xc_Key hown hK hP hm_o hk_o (by decide) fl_Key_17 rfl rfl rfl d_Key_isSame_24 ?_
      refine lv_aload_n hx hb d_Key_isSame_27 rfl (lv_at hl 1 rfl) ?_
      refine x_get (v := .int (gI σ 8 q)) (k := 2) hx hb ht xc_Key hown hK hP hm_q hk_q (by decide) fl_Key_17 rfl rfl rfl d_Key_isSame_28 ?_
      refine lv_icmp_ne (tgt := 38) hx hb d_Key_isSame_31 (by decide) (fun h3 => ?_) (fun h3 => ?_)
      · refine lv_iconst (v := (nI 0)) hx hb d_Key_isSame_38 (by decide) ?_
        exact x_zret (b := false) hx hb hr hlk hK hP hS d_Key_isSame_39 rfl (by simp [kof, h1, h2, h3]) rfl
      · refine lv_iconst (v := (nI 1)) hx hb d_Key_isSame_34 (by decide) ?_
        refine lv_goto (tgt := 39) hx hb d_Key_isSame_35 (by decide) ?_
        exact x_zret (b := true) hx hb hr hlk hK hP hS d_Key_isSame_39 rfl (by simp [kof, h1, h2, h3]) rfl
set_option maxHeartbeats 4000000 in
set_option maxRecDepth 100000 in
theorem c_Key_names (l : Launch) (D : va_G) (dA : Nat → ClassId) (ad : Nat → Nat) (nw : Nat) (hJ : Inj ad (obC nw)) (hnw : nw ≤ 4) (σ : Sg) (o : Nat) (d : Int32) (hk_o : kdC o = 1) (hm_o : o ∈ obC nw) : CI l D clX (tyX dA) (SC nw) ad dA (obC nw) NL y_Key_names w_Key_names { frames := 0, cells := 0, slots := 0, locals := 0 } [.ref (ad o), .int d] σ ((bI (kNames σ o d))) σ := by
  refine x_of (WS := WS) (cc := b_Key_names) (maxL := 2) (ret := (some .boolean)) (by decide) rfl (Nat.le_of_ble_eq_true rfl) ?_
  intro pp ee ss mm below meth cdd hx hb hml hr hlk ht hown hnm hN hK hP ls hl
  have hl : lv_has ls 2 [(0, .ref (ad o)), (1, .int d)] := hl
  have hS : va_S (Ad ad (obC nw)) ss.heap ss.heap [] := va_S.rf
  have hw := swfC hnw
  refine lv_aload_n hx hb d_Key_names_0 rfl (lv_at hl 0 rfl) ?_
  refine x_get (v := .int (gI σ 7 o)) (k := 1) hx hb ht xc_Key hown hK hP hm_o hk_o (by decide) fl_Key_13 rfl rfl rfl d_Key_names_1 ?_
  refine lv_iload_n hx hb d_Key_names_4 rfl (lv_at hl 1 rfl) ?_
  refine lv_icmp_eq (tgt := 16) hx hb d_Key_names_5 (by decide) (fun h1 => ?_) (fun h1 => ?_)
  · refine lv_iconst (v := (nI 1)) hx hb d_Key_names_16 (by decide) ?_
    refine lv_goto (tgt := 21) hx hb d_Key_names_17 (by decide) ?_
    exact x_zret (b := true) hx hb hr hlk hK hP hS d_Key_names_21 rfl (by simp [kNames, h1]) rfl
  · refine lv_aload_n hx hb d_Key_names_8 rfl (lv_at hl 0 rfl) ?_
    refine x_get (v := .int (gI σ 8 o)) (k := 2) hx hb ht xc_Key hown hK hP hm_o hk_o (by decide) fl_Key_17 rfl rfl rfl d_Key_names_9 ?_
    refine lv_iload_n hx hb d_Key_names_12 rfl (lv_at hl 1 rfl) ?_
    refine lv_icmp_ne (tgt := 20) hx hb d_Key_names_13 (by decide) (fun h2 => ?_) (fun h2 => ?_)
    · refine lv_iconst (v := (nI 0)) hx hb d_Key_names_20 (by decide) ?_
      exact x_zret (b := false) hx hb hr hlk hK hP hS d_Key_names_21 rfl (by simp [kNames, h1, h2]) rfl
    · refine lv_iconst (v := (nI 1)) hx hb d_Key_names_16 (by decide) ?_
      refine lv_goto (tgt := 21) hx hb d_Key_names_17 (by decide) ?_
      exact x_zret (b := true) hx hb hr hlk hK hP hS d_Key_names_21 rfl (by simp [kNames, h1, h2]) rfl
set_option maxHeartbeats 4000000 in
set_option maxRecDepth 100000 in
theorem c_LB_digestOf (l : Launch) (D : va_G) (dA : Nat → ClassId) (ad : Nat → Nat) (nw : Nat) (hJ : Inj ad (obC nw)) (hnw : nw ≤ 4) (σ : Sg) (c : Int32)  : CI l D clX (tyX dA) (SC nw) ad dA (obC nw) NL y_LB_digestOf w_LB_digestOf { frames := 0, cells := 0, slots := 0, locals := 0 } [.int c] σ ((dg c)) σ := by
  refine x_of (WS := WS) (cc := b_LB_digestOf) (maxL := 3) (ret := (some .int)) (by decide) rfl (Nat.le_of_ble_eq_true rfl) ?_
  intro pp ee ss mm below meth cdd hx hb hml hr hlk ht hown hnm hN hK hP ls hl
  have hl : lv_has ls 3 [(0, .int c)] := hl
  have hS : va_S (Ad ad (obC nw)) ss.heap ss.heap [] := va_S.rf
  have hw := swfC hnw
  refine lv_iload_n hx hb d_LB_digestOf_0 rfl (lv_at hl 0 rfl) ?_
  refine lv_ldc (v := 1234567891) hx hb hown (ht _ cn_LB_206) d_LB_digestOf_1 ?_
  refine lv_imul hx hb d_LB_digestOf_3 ?_
  refine lv_istore_n (lv' := [(1, .int (c * ((1234567891 : Int32)))), (0, .int c)]) hx hb d_LB_digestOf_4 rfl hl (by decide) rfl (fun ls hl => ?_)
  refine lv_iload_n hx hb d_LB_digestOf_5 rfl (lv_at hl 0 rfl) ?_
  refine lv_iload_n hx hb d_LB_digestOf_6 rfl (lv_at hl 0 rfl) ?_
  refine lv_bipush (v := (nI 11)) hx hb d_LB_digestOf_7 (by decide) ?_
  refine lv_iushr (v := ((c * ((1234567891 : Int32))).toUInt32 >>> ((nI 11).toUInt32 &&& Int32.toUInt32 31)).toInt32) hx hb d_LB_digestOf_9 rfl ?_
  refine lv_ixor hx hb d_LB_digestOf_10 ?_
  refine lv_istore_n (lv' := [(2, .int ((c * ((1234567891 : Int32))) ^^^ (((c * ((1234567891 : Int32))).toUInt32 >>> ((nI 11).toUInt32 &&& Int32.toUInt32 31)).toInt32))), (1, .int (c * ((1234567891 : Int32)))), (0, .int c)]) hx hb d_LB_digestOf_11 rfl hl (by decide) rfl (fun ls hl => ?_)
  refine lv_iload_n hx hb d_LB_digestOf_12 rfl (lv_at hl 0 rfl) ?_
  refine lv_ldc (v := 987654321) hx hb hown (ht _ cn_LB_207) d_LB_digestOf_13 ?_
  refine lv_imul hx hb d_LB_digestOf_15 ?_
  exact x_iret hx hb hr hlk hK hP hS d_LB_digestOf_16 rfl rfl
set_option maxHeartbeats 4000000 in
set_option maxRecDepth 100000 in
theorem c_Message_hasContent (l : Launch) (D : va_G) (dA : Nat → ClassId) (ad : Nat → Nat) (nw : Nat) (hJ : Inj ad (obC nw)) (hnw : nw ≤ 4) (σ : Sg) (q : Nat) (hq : kdC q = 2) (hk : gN σ 10 q < 7) : CI l D clX (tyX dA) (SC nw) ad dA (obC nw) NL y_Message_hasContent w_Message_hasContent { frames := 0, cells := 0, slots := 0, locals := 0 } [.ref (ad q)] σ ((bI (hasC (gN σ 10 q)))) σ := by
  refine x_of (WS := WS) (cc := b_Message_hasContent) (maxL := 1) (ret := (some .boolean)) (by decide) rfl (Nat.le_of_ble_eq_true rfl) ?_
  intro pp ee ss mm below meth cdd hx hb hml hr hlk ht hown hnm hN hK hP ls hl
  have hl : lv_has ls 1 [(0, .ref (ad q))] := hl
  have hS : va_S (Ad ad (obC nw)) ss.heap ss.heap [] := va_S.rf
  have hw := swfC hnw
  refine lv_aload_n hx hb d_Message_hasContent_0 rfl (lv_at hl 0 rfl) ?_
  refine x_get (v := .int (nI (gN σ 10 q))) (k := 1) hx hb ht xc_Message hown hK hP (mo_msg hq) hq (by decide) fl_Message_18 rfl rfl rfl d_Message_hasContent_1 ?_
  refine lv_iconst (v := (nI 3)) hx hb d_Message_hasContent_4 (by decide) ?_
  refine x_icmp_eqN (tgt := 33) hx hb d_Message_hasContent_5 (by decide) (by omega) (by decide) (fun h1 => ?_) (fun h1 => ?_)
  · refine lv_iconst (v := (nI 1)) hx hb d_Message_hasContent_33 (by decide) ?_
    refine lv_goto (tgt := 38) hx hb d_Message_hasContent_34 (by decide) ?_
    exact x_zret (b := true) hx hb hr hlk hK hP hS d_Message_hasContent_38 rfl (by simp [hasC, h1]) rfl
  · refine lv_aload_n hx hb d_Message_hasContent_8 rfl (lv_at hl 0 rfl) ?_
    refine x_get (v := .int (nI (gN σ 10 q))) (k := 1) hx hb ht xc_Message hown hK hP (mo_msg hq) hq (by decide) fl_Message_18 rfl rfl rfl d_Message_hasContent_9 ?_
    refine lv_iconst (v := (nI 4)) hx hb d_Message_hasContent_12 (by decide) ?_
    refine x_icmp_eqN (tgt := 33) hx hb d_Message_hasContent_13 (by decide) (by omega) (by decide) (fun h2 => ?_) (fun h2 => ?_)
    · refine lv_iconst (v := (nI 1)) hx hb d_Message_hasContent_33 (by decide) ?_
      refine lv_goto (tgt := 38) hx hb d_Message_hasContent_34 (by decide) ?_
      exact x_zret (b := true) hx hb hr hlk hK hP hS d_Message_hasContent_38 rfl (by simp [hasC, h1, h2]) rfl
    · refine lv_aload_n hx hb d_Message_hasContent_16 rfl (lv_at hl 0 rfl) ?_
      refine x_get (v := .int (nI (gN σ 10 q))) (k := 1) hx hb ht xc_Message hown hK hP (mo_msg hq) hq (by decide) fl_Message_18 rfl rfl rfl d_Message_hasContent_17 ?_
      refine lv_iconst (v := (nI 5)) hx hb d_Message_hasContent_20 (by decide) ?_
      refine x_icmp_eqN (tgt := 33) hx hb d_Message_hasContent_21 (by decide) (by omega) (by decide) (fun h3 => ?_) (fun h3 => ?_)
      · refine lv_iconst (v := (nI 1)) hx hb d_Message_hasContent_33 (by decide) ?_
        refine lv_goto (tgt := 38) hx hb d_Message_hasContent_34 (by decide) ?_
        exact x_zret (b := true) hx hb hr hlk hK hP hS d_Message_hasContent_38 rfl (by simp [hasC, h1, h2, h3]) rfl
      · refine lv_aload_n hx hb d_Message_hasContent_24 rfl (lv_at hl 0 rfl) ?_
        refine x_get (v := .int (nI (gN σ 10 q))) (k := 1) hx hb ht xc_Message hown hK hP (mo_msg hq) hq (by decide) fl_Message_18 rfl rfl rfl d_Message_hasContent_25 ?_
        refine lv_bipush (v := (nI 6)) hx hb d_Message_hasContent_28 (by decide) ?_
        refine x_icmp_neN (tgt := 37) hx hb d_Message_hasContent_30 (by decide) (by omega) (by decide) (fun h4 => ?_) (fun h4 => ?_)
        · refine lv_iconst (v := (nI 0)) hx hb d_Message_hasContent_37 (by decide) ?_
          exact x_zret (b := false) hx hb hr hlk hK hP hS d_Message_hasContent_38 rfl (by simp [hasC, h1, h2, h3, h4]) rfl
        · refine lv_iconst (v := (nI 1)) hx hb d_Message_hasContent_33 (by decide) ?_
          refine lv_goto (tgt := 38) hx hb d_Message_hasContent_34 (by decide) ?_
          exact x_zret (b := true) hx hb hr hlk hK hP hS d_Message_hasContent_38 rfl (by simp [hasC, h1, h2, h3, h4]) rfl
set_option maxHeartbeats 4000000 in
set_option maxRecDepth 100000 in
theorem c_Message_isSound (l : Launch) (D : va_G) (dA : Nat → ClassId) (ad : Nat → Nat) (nw : Nat) (hJ : Inj ad (obC nw)) (hnw : nw ≤ 4) (σ : Sg) (q : Nat) (hq : kdC q = 2) (hk : gN σ 10 q < 7) : CI l D clX (tyX dA) (SC nw) ad dA (obC nw) NL y_Message_isSound w_Message_isSound { frames := 1, cells := 0, slots := 0, locals := 22 } [.ref (ad q)] σ ((bI (sound σ q))) σ := by
  refine x_of (WS := WS) (cc := b_Message_isSound) (maxL := 1) (ret := (some .boolean)) (by decide) rfl (Nat.le_of_ble_eq_true rfl) ?_
  intro pp ee ss mm below meth cdd hx hb hml hr hlk ht hown hnm hN hK hP ls hl
  have hl : lv_has ls 1 [(0, .ref (ad q))] := hl
  have hS : va_S (Ad ad (obC nw)) ss.heap ss.heap [] := va_S.rf
  have hw := swfC hnw
  refine lv_aload_n hx hb d_Message_isSound_0 rfl (lv_at hl 0 rfl) ?_
  refine x_get (v := .int (nI (gN σ 10 q))) (k := 1) hx hb ht xc_Message hown hK hP (mo_msg hq) hq (by decide) fl_Message_18 rfl rfl rfl d_Message_isSound_1 ?_
  refine lv_iconst (v := (nI 4)) hx hb d_Message_isSound_4 (by decide) ?_
  refine x_icmp_neN (tgt := 48) hx hb d_Message_isSound_5 (by decide) (by omega) (by decide) (fun h1 => ?_) (fun h1 => ?_)
  · refine lv_aload_n hx hb d_Message_isSound_48 rfl (lv_at hl 0 rfl) ?_
    refine x_ci (x_rV (As := []) (rest := []) hx hb hml hown ht gW cs_Message_38 (c_Message_hasContent l D dA ad nw hJ hnw σ q hq (by assumption)) rfl rfl (by decide) xc_Message hN hK hP (mo_msg hq) hq rfl hl.1 rfl (Nat.le_of_ble_eq_true rfl) d_Message_isSound_49 (by decide)) hS (fun H locs hP hS => ?_)
    refine x_ifeqB (tgt := 69) hx hb d_Message_isSound_52 (by decide) (fun h2 => ?_) (fun h2 => ?_)
    · refine lv_iconst (v := (nI 1)) hx hb d_Message_isSound_69 (by decide) ?_
      refine lv_goto (tgt := 74) hx hb d_Message_isSound_70 (by decide) ?_
      exact x_zret (b := true) hx hb hr hlk hK hP hS d_Message_isSound_74 rfl (by simp [sound, h1, h2]) rfl
    · refine lv_aload_n hx hb d_Message_isSound_55 rfl (lv_at hl 0 rfl) ?_
      refine x_get (v := .int (gI σ 16 q)) (k := 7) hx hb ht xc_Message hown hK hP (mo_msg hq) hq (by decide) fl_Message_22 rfl rfl rfl d_Message_isSound_56 ?_
      refine x_ci (x_rSN (As := [.int (gI σ 16 q)]) (rest := []) hx hb hml hown ht gW cs_Message_25 (c_LB_digestOf l D dA ad nw hJ hnw σ (gI σ 16 q)) rfl rfl (by decide) hN hK hP rfl hl.1 rfl (Nat.le_of_ble_eq_true rfl) d_Message_isSound_59 (by decide)) hS (fun H locs hP hS => ?_)
      refine lv_aload_n hx hb d_Message_isSound_62 rfl (lv_at hl 0 rfl) ?_
      refine x_get (v := .int (gI σ 15 q)) (k := 6) hx hb ht xc_Message hown hK hP (mo_msg hq) hq (by decide) fl_Message_42 rfl rfl rfl d_Message_isSound_63 ?_
      refine lv_icmp_ne (tgt := 73) hx hb d_Message_isSound_66 (by decide) (fun h3 => ?_) (fun h3 => ?_)
      · refine lv_iconst (v := (nI 0)) hx hb d_Message_isSound_73 (by decide) ?_
        exact x_zret (b := false) hx hb hr hlk hK hP hS d_Message_isSound_74 rfl (by simp [sound, h1, h2, h3]) rfl
      · refine lv_iconst (v := (nI 1)) hx hb d_Message_isSound_69 (by decide) ?_
        refine lv_goto (tgt := 74) hx hb d_Message_isSound_70 (by decide) ?_
        exact x_zret (b := true) hx hb hr hlk hK hP hS d_Message_isSound_74 rfl (by simp [sound, h1, h2, h3]) rfl
  · refine lv_aload_n hx hb d_Message_isSound_8 rfl (lv_at hl 0 rfl) ?_
    refine x_get (v := .int (gI σ 16 q)) (k := 7) hx hb ht xc_Message hown hK hP (mo_msg hq) hq (by decide) fl_Message_22 rfl rfl rfl d_Message_isSound_9 ?_
    refine x_ci (x_rSN (As := [.int (gI σ 16 q)]) (rest := []) hx hb hml hown ht gW cs_Message_25 (c_LB_digestOf l D dA ad nw hJ hnw σ (gI σ 16 q)) rfl rfl (by decide) hN hK hP rfl hl.1 rfl (Nat.le_of_ble_eq_true rfl) d_Message_isSound_12 (by decide)) hS (fun H locs hP hS => ?_)
    refine lv_aload_n hx hb d_Message_isSound_15 rfl (lv_at hl 0 rfl) ?_
    refine x_get (v := .ref (ad (q + 1))) (k := 0) hx hb ht xc_Message hown hK hP (mo_msg hq) hq (by decide) fl_Message_12 rfl rfl rfl d_Message_isSound_16 ?_
    refine x_get (v := .int (gI σ 7 (q + 1))) (k := 1) hx hb ht xc_Key hown hK hP (mo_msgk hq) (kd_msgk hq) (by decide) fl_Message_29 rfl rfl rfl d_Message_isSound_19 ?_
    refine lv_icmp_ne (tgt := 46) hx hb d_Message_isSound_22 (by decide) (fun h4 => ?_) (fun h4 => ?_)
    · refine lv_iconst (v := (nI 0)) hx hb d_Message_isSound_46 (by decide) ?_
      exact x_zret (b := false) hx hb hr hlk hK hP hS d_Message_isSound_47 rfl (by simp [sound, h1, h4]) rfl
    · refine lv_aload_n hx hb d_Message_isSound_25 rfl (lv_at hl 0 rfl) ?_
      refine x_get (v := .int (gI σ 17 q)) (k := 8) hx hb ht xc_Message hown hK hP (mo_msg hq) hq (by decide) fl_Message_32 rfl rfl rfl d_Message_isSound_26 ?_
      refine x_ci (x_rSN (As := [.int (gI σ 17 q)]) (rest := []) hx hb hml hown ht gW cs_Message_25 (c_LB_digestOf l D dA ad nw hJ hnw σ (gI σ 17 q)) rfl rfl (by decide) hN hK hP rfl hl.1 rfl (Nat.le_of_ble_eq_true rfl) d_Message_isSound_29 (by decide)) hS (fun H locs hP hS => ?_)
      refine lv_aload_n hx hb d_Message_isSound_32 rfl (lv_at hl 0 rfl) ?_
      refine x_get (v := .ref (ad (q + 1))) (k := 0) hx hb ht xc_Message hown hK hP (mo_msg hq) hq (by decide) fl_Message_12 rfl rfl rfl d_Message_isSound_33 ?_
      refine x_get (v := .int (gI σ 8 (q + 1))) (k := 2) hx hb ht xc_Key hown hK hP (mo_msgk hq) (kd_msgk hq) (by decide) fl_Message_35 rfl rfl rfl d_Message_isSound_36 ?_
      refine lv_icmp_ne (tgt := 46) hx hb d_Message_isSound_39 (by decide) (fun h5 => ?_) (fun h5 => ?_)
      · refine lv_iconst (v := (nI 0)) hx hb d_Message_isSound_46 (by decide) ?_
        exact x_zret (b := false) hx hb hr hlk hK hP hS d_Message_isSound_47 rfl (by simp [sound, h1, h4, h5]) rfl
      · refine lv_iconst (v := (nI 1)) hx hb d_Message_isSound_42 (by decide) ?_
        refine lv_goto (tgt := 47) hx hb d_Message_isSound_43 (by decide) ?_
        exact x_zret (b := true) hx hb hr hlk hK hP hS d_Message_isSound_47 rfl (by simp [sound, h1, h4, h5]) rfl
set_option maxHeartbeats 4000000 in
set_option maxRecDepth 100000 in
theorem c_Message_fill (l : Launch) (D : va_G) (dA : Nat → ClassId) (ad : Nat → Nat) (nw : Nat) (hJ : Inj ad (obC nw)) (hnw : nw ≤ 4) (σ : Sg) (q : Nat) (o : Nat) (d : Int32) (c : Int32) (hq : kdC q = 2) (hk_o : kdC o = 1) (hm_o : o ∈ obC nw) : CV l D clX (tyX dA) (SC nw) ad dA (obC nw) NL y_Message_fill w_Message_fill { frames := 2, cells := 0, slots := 0, locals := 45 } [.ref (ad q), .ref (ad o), .int d, .int c] σ (mFill σ q o d c) := by
  refine x_of (WS := WS) (cc := b_Message_fill) (maxL := 4) (ret := none) (by decide) rfl (Nat.le_of_ble_eq_true rfl) ?_
  intro pp ee ss mm below meth cdd hx hb hml hr hlk ht hown hnm hN hK hP ls hl
  have hl : lv_has ls 4 [(0, .ref (ad q)), (1, .ref (ad o)), (2, .int d), (3, .int c)] := hl
  have hS : va_S (Ad ad (obC nw)) ss.heap ss.heap [] := va_S.rf
  have hw := swfC hnw
  refine lv_aload_n hx hb d_Message_fill_0 rfl (lv_at hl 0 rfl) ?_
  refine x_get (v := .ref (ad (q + 1))) (k := 0) hx hb ht xc_Message hown hK hP (mo_msg hq) hq (by decide) fl_Message_12 rfl rfl rfl d_Message_fill_1 ?_
  refine lv_aload_n hx hb d_Message_fill_4 rfl (lv_at hl 1 rfl) ?_
  refine x_cv (x_rV (As := [.ref (ad o)]) (rest := []) hx hb hml hown ht gW cs_Message_45 (c_Key_copy l D dA ad nw hJ hnw σ (q + 1) o (kd_msgk hq) (mo_msgk hq) hk_o hm_o) rfl rfl (by decide) xc_Key hN hK hP (mo_msgk hq) (kd_msgk hq) rfl hl.1 rfl (Nat.le_of_ble_eq_true rfl) d_Message_fill_5 (by decide)) hS (fun H locs hP hS => ?_)
  refine lv_aload_n hx hb d_Message_fill_8 rfl (lv_at hl 0 rfl) ?_
  refine lv_iload_n hx hb d_Message_fill_9 rfl (lv_at hl 2 rfl) ?_
  refine x_put (σ' := sI (kcopy σ (q + 1) o) 15 q d) (v := .int d) (k := 6) hx hb ht xc_Message t_Message t_Message_ok n_Message hown hK hP hJ hw hS (mo_msg hq) hq (by decide) fl_Message_42 rfl rfl rfl off_I (by simp [vl, gs]) rfl rfl d_Message_fill_10 (fun H locs hP hS => ?_)
  refine lv_aload_n hx hb d_Message_fill_13 rfl (lv_at hl 0 rfl) ?_
  refine lv_iload_n hx hb d_Message_fill_14 rfl (lv_at hl 3 rfl) ?_
  refine x_put (σ' := sI (sI (kcopy σ (q + 1) o) 15 q d) 16 q c) (v := .int c) (k := 7) hx hb ht xc_Message t_Message t_Message_ok n_Message hown hK hP hJ hw hS (mo_msg hq) hq (by decide) fl_Message_22 rfl rfl rfl off_I (by simp [vl, gs]) rfl rfl d_Message_fill_15 (fun H locs hP hS => ?_)
  exact x_vret hx hb hr hlk hK hP hS d_Message_fill_18 rfl
