set_option maxRecDepth 100000 in
set_option maxHeartbeats 4000000 in
theorem kon_J5_init_d00df (l : Launch) (hl : l.stackTraces = false) : qa_Con l yJ5_init_d00df cJ5_init_d00df 2 none 1 20 f_J5_init_d00df :=
  qa_method (pcs := pc_J5_init_d00df) (by decide +kernel) rfl (fun C hr hn j f hj => by
    match j, hj with
    | 0, hj => obtain rfl := Option.some.inj hj; exact ok_aload_n C rfl dJ5_init_d00df_0 (ok_obj C (qa_wl [388, 109, 110] (by decide +kernel) (by decide +kernel)) (Nat.le_of_ble_eq_true rfl) (Nat.le_of_ble_eq_true rfl) dJ5_init_d00df_1 (ok_gets C (Cn := "java/lang/String") (fn := "COMPACT_STRINGS") (fd := "Z") (by decide +kernel) wd_389 dJ5_init_d00df_4 (ok_ifeq C (T := 1) dJ5_init_d00df_7 (by decide) (ok_aload_n C rfl dJ5_init_d00df_10 (ok_iload_n C rfl dJ5_init_d00df_11 (ok_newbyte C wd_379 dJ5_init_d00df_12 (ok_put C kc_J4 (by decide) rfl rfl rfl wd_398 (fun _ h => h) (Or.inl rfl) qa_fita dJ5_init_d00df_14 (ok_aload_n C rfl dJ5_init_d00df_17 (ok_iconst C (by decide) dJ5_init_d00df_18 (ok_putb C kc_J4 (by decide) rfl rfl rfl wd_399 (fun _ h => h) (Or.inl rfl) dJ5_init_d00df_19 (ok_goto C dJ5_init_d00df_22 (by decide))))))))))))
    | 1, hj => obtain rfl := Option.some.inj hj; exact ok_aload_n C rfl dJ5_init_d00df_25 (ok_iload_n C rfl dJ5_init_d00df_26 (qa_dead))
    | 2, hj => obtain rfl := Option.some.inj hj; exact ok_vret C hr dJ5_init_d00df_38
    | (_ + 3), hj => exact nomatch hj)
set_option maxRecDepth 100000 in
set_option maxHeartbeats 4000000 in
theorem kon_J4_init_da8c8 (l : Launch) (hl : l.stackTraces = false) : qa_Con l yJ4_init_da8c8 cJ4_init_da8c8 1 none 2 41 f_J4_init_da8c8 :=
  qa_method (pcs := pc_J4_init_da8c8) (by decide +kernel) rfl (fun C hr hn j f hj => by
    match j, hj with
    | 0, hj => obtain rfl := Option.some.inj hj; exact ok_aload_n C rfl dJ4_init_da8c8_0 (ok_bipush C (by decide) dJ4_init_da8c8_1 (ok_calli C (kon_J5_init_d00df l hl) (by decide) (qa_wl [385, 386, 81, 387] (by decide +kernel) (by decide +kernel)) rfl ⟨by decide +kernel, by decide +kernel, by decide +kernel⟩ ⟨Nat.le_of_ble_eq_true rfl, Nat.le_of_ble_eq_true rfl⟩ dJ4_init_da8c8_3 (ok_vret C hr dJ4_init_da8c8_6)))
    | (_ + 1), hj => exact nomatch hj)
set_option maxRecDepth 100000 in
set_option maxHeartbeats 4000000 in
theorem kon_J0_coder_7d493 (l : Launch) (hl : l.stackTraces = false) : qa_Con l yJ0_coder_7d493 cJ0_coder_7d493 1 (some .byte) 1 20 f_J0_coder_7d493 :=
  qa_method (pcs := pc_J0_coder_7d493) (by decide +kernel) rfl (fun C hr hn j f hj => by
    match j, hj with
    | 0, hj => obtain rfl := Option.some.inj hj; exact ok_gets C (Cn := "java/lang/String") (fn := "COMPACT_STRINGS") (fd := "Z") (by decide +kernel) wd_485 dJ0_coder_7d493_0 (ok_ifeq C (T := 1) dJ0_coder_7d493_3 (by decide) (ok_aload_n C rfl dJ0_coder_7d493_6 (ok_sget C (oc := "java/lang/String") (fd := "B") (by decide +kernel) wd_1506 dJ0_coder_7d493_7 (ok_goto C dJ0_coder_7d493_10 (by decide)))))
    | 1, hj => obtain rfl := Option.some.inj hj; exact ok_iconst C (by decide) dJ0_coder_7d493_13 (ok_fall rfl)
    | 2, hj => obtain rfl := Option.some.inj hj; exact ok_byret C hr dJ0_coder_7d493_14
    | (_ + 3), hj => exact nomatch hj)
set_option maxRecDepth 100000 in
set_option maxHeartbeats 4000000 in
theorem kon_J0_length_8abf5 (l : Launch) (hl : l.stackTraces = false) : qa_Con l yJ0_length_8abf5 cJ0_length_8abf5 1 (some .int) 2 40 f_J0_length_8abf5 :=
  qa_method (pcs := pc_J0_length_8abf5) (by decide +kernel) rfl (fun C hr hn j f hj => by
    match j, hj with
    | 0, hj => obtain rfl := Option.some.inj hj; exact ok_aload_n C rfl dJ0_length_8abf5_0 (ok_sget C (oc := "java/lang/String") (fd := "[B") (by decide +kernel) wd_1505 dJ0_length_8abf5_1 (ok_slen C dJ0_length_8abf5_4 (ok_aload_n C rfl dJ0_length_8abf5_5 (ok_callss C (kon_J0_coder_7d493 l hl) (qa_wl [481, 482, 483, 83, 484] (by decide +kernel) (by decide +kernel)) ⟨rfl, by decide +kernel, by decide +kernel, by decide +kernel⟩ ⟨Nat.le_of_ble_eq_true rfl, Nat.le_of_ble_eq_true rfl⟩ dJ0_length_8abf5_6 (ok_ishr C dJ0_length_8abf5_9 (ok_iret C hr dJ0_length_8abf5_10))))))
    | (_ + 1), hj => exact nomatch hj)
set_option maxRecDepth 100000 in
set_option maxHeartbeats 4000000 in
theorem kon_J0_isLatin1_aae02 (l : Launch) (hl : l.stackTraces = false) : qa_Con l yJ0_isLatin1_aae02 cJ0_isLatin1_aae02 1 (some .boolean) 1 20 f_J0_isLatin1_aae02 :=
  qa_method (pcs := pc_J0_isLatin1_aae02) (by decide +kernel) rfl (fun C hr hn j f hj => by
    match j, hj with
    | 0, hj => obtain rfl := Option.some.inj hj; exact ok_gets C (Cn := "java/lang/String") (fn := "COMPACT_STRINGS") (fd := "Z") (by decide +kernel) wd_485 dJ0_isLatin1_aae02_0 (ok_ifeq C (T := 1) dJ0_isLatin1_aae02_3 (by decide) (ok_aload_n C rfl dJ0_isLatin1_aae02_6 (ok_sget C (oc := "java/lang/String") (fd := "B") (by decide +kernel) wd_1506 dJ0_isLatin1_aae02_7 (ok_ifne C (T := 1) dJ0_isLatin1_aae02_10 (by decide) (ok_iconst C (by decide) dJ0_isLatin1_aae02_13 (ok_goto C dJ0_isLatin1_aae02_14 (by decide)))))))
    | 1, hj => obtain rfl := Option.some.inj hj; exact ok_iconst C (by decide) dJ0_isLatin1_aae02_17 (ok_fall rfl)
    | 2, hj => obtain rfl := Option.some.inj hj; exact ok_zret C hr dJ0_isLatin1_aae02_18
    | (_ + 3), hj => exact nomatch hj)
set_option maxRecDepth 100000 in
set_option maxHeartbeats 4000000 in
theorem kon_J3_checkIndex_8e157 (l : Launch) (hl : l.stackTraces = false) : qa_Con l yJ3_checkIndex_8e157 cJ3_checkIndex_8e157 3 (some .int) 1 20 f_J3_checkIndex_8e157 :=
  qa_method (pcs := pc_J3_checkIndex_8e157) (by decide +kernel) rfl (fun C hr hn j f hj => by
    match j, hj with
    | 0, hj => obtain rfl := Option.some.inj hj; exact ok_iload_n C rfl dJ3_checkIndex_8e157_0 (ok_iflt C (T := 1) dJ3_checkIndex_8e157_1 (by decide) (ok_iload_n C rfl dJ3_checkIndex_8e157_4 (ok_iload_n C rfl dJ3_checkIndex_8e157_5 (ok_cmplt C (T := 2) dJ3_checkIndex_8e157_6 (by decide) (ok_fall rfl)))))
    | 1, hj => obtain rfl := Option.some.inj hj; exact ok_aload_n C rfl dJ3_checkIndex_8e157_9 (ok_iload_n C rfl dJ3_checkIndex_8e157_10 (ok_iload_n C rfl dJ3_checkIndex_8e157_11 (qa_dead)))
    | 2, hj => obtain rfl := Option.some.inj hj; exact ok_iload_n C rfl dJ3_checkIndex_8e157_16 (ok_iret C hr dJ3_checkIndex_8e157_17)
    | (_ + 3), hj => exact nomatch hj)
set_option maxRecDepth 100000 in
set_option maxHeartbeats 4000000 in
theorem kon_J0_checkIndex_df160 (l : Launch) (hl : l.stackTraces = false) : qa_Con l yJ0_checkIndex_df160 cJ0_checkIndex_df160 2 none 2 42 f_J0_checkIndex_df160 :=
  qa_method (pcs := pc_J0_checkIndex_df160) (by decide +kernel) rfl (fun C hr hn j f hj => by
    match j, hj with
    | 0, hj => obtain rfl := Option.some.inj hj; exact ok_iload_n C rfl dJ0_checkIndex_df160_0 (ok_iload_n C rfl dJ0_checkIndex_df160_1 (ok_getq C wd_500 dJ0_checkIndex_df160_2 (ok_calls C (kon_J3_checkIndex_8e157 l hl) (qa_wl [502, 503, 92, 504] (by decide +kernel) (by decide +kernel)) ⟨by decide +kernel, by decide +kernel, by decide +kernel⟩ ⟨Nat.le_of_ble_eq_true rfl, Nat.le_of_ble_eq_true rfl⟩ dJ0_checkIndex_df160_5 (ok_pop C dJ0_checkIndex_df160_8 (ok_vret C hr dJ0_checkIndex_df160_9)))))
    | (_ + 1), hj => exact nomatch hj)
set_option maxRecDepth 100000 in
set_option maxHeartbeats 4000000 in
theorem kon_J1_charAt_3b067 (l : Launch) (hl : l.stackTraces = false) : qa_Con l yJ1_charAt_3b067 cJ1_charAt_3b067 2 (some .char) 3 63 f_J1_charAt_3b067 :=
  qa_method (pcs := pc_J1_charAt_3b067) (by decide +kernel) rfl (fun C hr hn j f hj => by
    match j, hj with
    | 0, hj => obtain rfl := Option.some.inj hj; exact ok_iload_n C rfl dJ1_charAt_3b067_0 (ok_aload_n C rfl dJ1_charAt_3b067_1 (ok_slen C dJ1_charAt_3b067_2 (ok_calls C (kon_J0_checkIndex_df160 l hl) (qa_wl [497, 498, 83, 499] (by decide +kernel) (by decide +kernel)) ⟨by decide +kernel, by decide +kernel, by decide +kernel⟩ ⟨Nat.le_of_ble_eq_true rfl, Nat.le_of_ble_eq_true rfl⟩ dJ1_charAt_3b067_3 (ok_aload_n C rfl dJ1_charAt_3b067_6 (ok_iload_n C rfl dJ1_charAt_3b067_7 (ok_sldb C dJ1_charAt_3b067_8 (ok_sipush C (by decide) dJ1_charAt_3b067_9 (ok_iand C dJ1_charAt_3b067_12 (ok_i2c C dJ1_charAt_3b067_13 (ok_cret C hr dJ1_charAt_3b067_14))))))))))
    | (_ + 1), hj => exact nomatch hj)
set_option maxRecDepth 100000 in
set_option maxHeartbeats 4000000 in
theorem kon_J0_charAt_5068e (l : Launch) (hl : l.stackTraces = false) : qa_Con l yJ0_charAt_5068e cJ0_charAt_5068e 2 (some .char) 4 84 f_J0_charAt_5068e :=
  qa_method (pcs := pc_J0_charAt_5068e) (by decide +kernel) rfl (fun C hr hn j f hj => by
    match j, hj with
    | 0, hj => obtain rfl := Option.some.inj hj; exact ok_aload_n C rfl dJ0_charAt_5068e_0 (ok_callss C (kon_J0_isLatin1_aae02 l hl) (qa_wl [490, 491, 492, 83, 493] (by decide +kernel) (by decide +kernel)) ⟨rfl, by decide +kernel, by decide +kernel, by decide +kernel⟩ ⟨Nat.le_of_ble_eq_true rfl, Nat.le_of_ble_eq_true rfl⟩ dJ0_charAt_5068e_1 (ok_ifeq C (T := 1) dJ0_charAt_5068e_4 (by decide) (ok_aload_n C rfl dJ0_charAt_5068e_7 (ok_sget C (oc := "java/lang/String") (fd := "[B") (by decide +kernel) wd_1505 dJ0_charAt_5068e_8 (ok_iload_n C rfl dJ0_charAt_5068e_11 (ok_calls C (kon_J1_charAt_3b067 l hl) (qa_wl [494, 495, 91, 496] (by decide +kernel) (by decide +kernel)) ⟨by decide +kernel, by decide +kernel, by decide +kernel⟩ ⟨Nat.le_of_ble_eq_true rfl, Nat.le_of_ble_eq_true rfl⟩ dJ0_charAt_5068e_12 (ok_cret C hr dJ0_charAt_5068e_15)))))))
    | 1, hj => obtain rfl := Option.some.inj hj; exact ok_aload_n C rfl dJ0_charAt_5068e_16 (ok_sget C (oc := "java/lang/String") (fd := "[B") (by decide +kernel) wd_1505 dJ0_charAt_5068e_17 (ok_iload_n C rfl dJ0_charAt_5068e_20 (qa_dead)))
    | (_ + 2), hj => exact nomatch hj)
set_option maxRecDepth 100000 in
set_option maxHeartbeats 4000000 in
theorem kon_J8_hugeLength_7cf53 (l : Launch) (hl : l.stackTraces = false) : qa_Con l yJ8_hugeLength_7cf53 cJ8_hugeLength_7cf53 3 (some .int) 1 20 f_J8_hugeLength_7cf53 :=
  qa_method (pcs := pc_J8_hugeLength_7cf53) (by decide +kernel) rfl (fun C hr hn j f hj => by
    match j, hj with
    | 0, hj => obtain rfl := Option.some.inj hj; exact ok_iload_n C rfl dJ8_hugeLength_7cf53_0 (ok_iload_n C rfl dJ8_hugeLength_7cf53_1 (ok_iadd C dJ8_hugeLength_7cf53_2 (ok_istore_n C rfl (by decide) dJ8_hugeLength_7cf53_3 (ok_iload_n C rfl dJ8_hugeLength_7cf53_4 (ok_ifge C (T := 1) dJ8_hugeLength_7cf53_5 (by decide) (qa_dead))))))
    | 1, hj => obtain rfl := Option.some.inj hj; exact ok_iload_n C rfl dJ8_hugeLength_7cf53_49 (ok_ldc C (by decide) rfl wd_1350 dJ8_hugeLength_7cf53_50 (ok_cmpgt C (T := 2) dJ8_hugeLength_7cf53_52 (by decide) (ok_ldc C (by decide) rfl wd_1350 dJ8_hugeLength_7cf53_55 (ok_iret C hr dJ8_hugeLength_7cf53_57))))
    | 2, hj => obtain rfl := Option.some.inj hj; exact ok_iload_n C rfl dJ8_hugeLength_7cf53_58 (ok_iret C hr dJ8_hugeLength_7cf53_59)
    | (_ + 3), hj => exact nomatch hj)
set_option maxRecDepth 100000 in
set_option maxHeartbeats 4000000 in
theorem kon_J8_newLength_cabcc (l : Launch) (hl : l.stackTraces = false) : qa_Con l yJ8_newLength_cabcc cJ8_newLength_cabcc 4 (some .int) 2 42 f_J8_newLength_cabcc :=
  qa_method (pcs := pc_J8_newLength_cabcc) (by decide +kernel) rfl (fun C hr hn j f hj => by
    match j, hj with
    | 0, hj => obtain rfl := Option.some.inj hj; exact ok_iload_n C rfl dJ8_newLength_cabcc_0 (ok_iload_n C rfl dJ8_newLength_cabcc_1 (ok_iload_n C rfl dJ8_newLength_cabcc_2 (ok_max C (qa_wl [1349, 909, 93, 910] (by decide +kernel) (by decide +kernel)) (Nat.le_of_ble_eq_true rfl) (Nat.le_of_ble_eq_true rfl) dJ8_newLength_cabcc_3 (ok_iadd C dJ8_newLength_cabcc_6 (ok_istore_n C rfl (by decide) dJ8_newLength_cabcc_7 (ok_iconst C (by decide) dJ8_newLength_cabcc_8 (ok_iload_n C rfl dJ8_newLength_cabcc_9 (ok_cmpge C (T := 1) dJ8_newLength_cabcc_10 (by decide) (ok_iload_n C rfl dJ8_newLength_cabcc_13 (ok_ldc C (by decide) rfl wd_1350 dJ8_newLength_cabcc_14 (ok_cmpgt C (T := 1) dJ8_newLength_cabcc_16 (by decide) (ok_iload_n C rfl dJ8_newLength_cabcc_19 (ok_iret C hr dJ8_newLength_cabcc_20)))))))))))))
    | 1, hj => obtain rfl := Option.some.inj hj; exact ok_iload_n C rfl dJ8_newLength_cabcc_21 (ok_iload_n C rfl dJ8_newLength_cabcc_22 (ok_calls C (kon_J8_hugeLength_7cf53 l hl) (qa_wl [1351, 1352, 99, 1353] (by decide +kernel) (by decide +kernel)) ⟨by decide +kernel, by decide +kernel, by decide +kernel⟩ ⟨Nat.le_of_ble_eq_true rfl, Nat.le_of_ble_eq_true rfl⟩ dJ8_newLength_cabcc_23 (ok_iret C hr dJ8_newLength_cabcc_26)))
    | (_ + 2), hj => exact nomatch hj)
set_option maxRecDepth 100000 in
set_option maxHeartbeats 4000000 in
theorem kon_J5_newCapacity_0f7a4 (l : Launch) (hl : l.stackTraces = false) : qa_Con l yJ5_newCapacity_0f7a4 cJ5_newCapacity_0f7a4 6 (some .int) 3 65 f_J5_newCapacity_0f7a4 :=
  qa_method (pcs := pc_J5_newCapacity_0f7a4) (by decide +kernel) rfl (fun C hr hn j f hj => by
    match j, hj with
    | 0, hj => obtain rfl := Option.some.inj hj; exact ok_aload_n C rfl dJ5_newCapacity_0f7a4_0 (ok_get C kc_J4 (by decide) rfl rfl rfl wd_398 (fun _ h => h) dJ5_newCapacity_0f7a4_1 (ok_alen C dJ5_newCapacity_0f7a4_4 (ok_istore_n C rfl (by decide) dJ5_newCapacity_0f7a4_5 (ok_iload_n C rfl dJ5_newCapacity_0f7a4_6 (ok_aload_n C rfl dJ5_newCapacity_0f7a4_7 (ok_get C kc_J4 (by decide) rfl rfl rfl wd_399 (fun _ h => h) dJ5_newCapacity_0f7a4_8 (ok_ishl C dJ5_newCapacity_0f7a4_11 (ok_istore_n C rfl (by decide) dJ5_newCapacity_0f7a4_12 (ok_iload_n C rfl dJ5_newCapacity_0f7a4_13 (ok_iload_n C rfl dJ5_newCapacity_0f7a4_14 (ok_isub C dJ5_newCapacity_0f7a4_15 (ok_istore C (by decide) dJ5_newCapacity_0f7a4_16 (ok_iload_n C rfl dJ5_newCapacity_0f7a4_18 (ok_iload C dJ5_newCapacity_0f7a4_19 (ok_iload_n C rfl dJ5_newCapacity_0f7a4_21 (ok_iconst C (by decide) dJ5_newCapacity_0f7a4_22 (ok_aload_n C rfl dJ5_newCapacity_0f7a4_23 (ok_get C kc_J4 (by decide) rfl rfl rfl wd_399 (fun _ h => h) dJ5_newCapacity_0f7a4_24 (ok_ishl C dJ5_newCapacity_0f7a4_27 (ok_iadd C dJ5_newCapacity_0f7a4_28 (ok_calls C (kon_J8_newLength_cabcc l hl) (qa_wl [1346, 1347, 99, 1348] (by decide +kernel) (by decide +kernel)) ⟨by decide +kernel, by decide +kernel, by decide +kernel⟩ ⟨Nat.le_of_ble_eq_true rfl, Nat.le_of_ble_eq_true rfl⟩ dJ5_newCapacity_0f7a4_29 (ok_istore C (by decide) dJ5_newCapacity_0f7a4_32 (ok_iload C dJ5_newCapacity_0f7a4_34 (ok_ldc C (by decide) rfl wd_1354 dJ5_newCapacity_0f7a4_36 (ok_cmpne C (T := 1) dJ5_newCapacity_0f7a4_38 (by decide) (qa_dead))))))))))))))))))))))))))
    | 1, hj => obtain rfl := Option.some.inj hj; exact ok_iload C dJ5_newCapacity_0f7a4_51 (ok_aload_n C rfl dJ5_newCapacity_0f7a4_53 (ok_get C kc_J4 (by decide) rfl rfl rfl wd_399 (fun _ h => h) dJ5_newCapacity_0f7a4_54 (ok_ishr C dJ5_newCapacity_0f7a4_57 (ok_iret C hr dJ5_newCapacity_0f7a4_58))))
    | (_ + 2), hj => exact nomatch hj)
set_option maxRecDepth 100000 in
set_option maxHeartbeats 4000000 in
theorem kon_J7_copyOf_9075b (l : Launch) (hl : l.stackTraces = false) : qa_Con l yJ7_copyOf_9075b cJ7_copyOf_9075b 3 (some (.array .byte)) 1 120 f_J7_copyOf_9075b :=
  qa_method (pcs := pc_J7_copyOf_9075b) (by decide +kernel) rfl (fun C hr hn j f hj => by
    match j, hj with
    | 0, hj => obtain rfl := Option.some.inj hj; exact ok_iload_n C rfl dJ7_copyOf_9075b_0 (ok_aload_n C rfl dJ7_copyOf_9075b_1 (ok_alen C dJ7_copyOf_9075b_2 (ok_cmpne C (T := 1) dJ7_copyOf_9075b_3 (by decide) (ok_aload_n C rfl dJ7_copyOf_9075b_6 (qa_dead)))))
    | 1, hj => obtain rfl := Option.some.inj hj; exact ok_iload_n C rfl dJ7_copyOf_9075b_14 (ok_newbyte C wd_379 dJ7_copyOf_9075b_15 (ok_astore_n C rfl (by decide) dJ7_copyOf_9075b_17 (ok_aload_n C rfl dJ7_copyOf_9075b_18 (ok_iconst C (by decide) dJ7_copyOf_9075b_19 (ok_aload_n C rfl dJ7_copyOf_9075b_20 (ok_iconst C (by decide) dJ7_copyOf_9075b_21 (ok_aload_n C rfl dJ7_copyOf_9075b_22 (ok_alen C dJ7_copyOf_9075b_23 (ok_iload_n C rfl dJ7_copyOf_9075b_24 (ok_min C (qa_wl [1365, 546, 93, 547] (by decide +kernel) (by decide +kernel)) (Nat.le_of_ble_eq_true rfl) (Nat.le_of_ble_eq_true rfl) dJ7_copyOf_9075b_25 (ok_copyb C (qa_wl [1366, 689, 688, 96] (by decide +kernel) (by decide +kernel)) (Nat.le_of_ble_eq_true rfl) (Nat.le_of_ble_eq_true rfl) dJ7_copyOf_9075b_28 (ok_aload_n C rfl dJ7_copyOf_9075b_31 (ok_aret C hr (Or.inr ⟨_, rfl⟩) dJ7_copyOf_9075b_32)))))))))))))
    | (_ + 2), hj => exact nomatch hj)
set_option maxRecDepth 100000 in
set_option maxHeartbeats 4000000 in
theorem kon_J5_ensureCapacityInternal_d00df (l : Launch) (hl : l.stackTraces = false) : qa_Con l yJ5_ensureCapacityInternal_d00df cJ5_ensureCapacityInternal_d00df 3 none 4 142 f_J5_ensureCapacityInternal_d00df :=
  qa_method (pcs := pc_J5_ensureCapacityInternal_d00df) (by decide +kernel) rfl (fun C hr hn j f hj => by
    match j, hj with
    | 0, hj => obtain rfl := Option.some.inj hj; exact ok_aload_n C rfl dJ5_ensureCapacityInternal_d00df_0 (ok_get C kc_J4 (by decide) rfl rfl rfl wd_398 (fun _ h => h) dJ5_ensureCapacityInternal_d00df_1 (ok_alen C dJ5_ensureCapacityInternal_d00df_4 (ok_aload_n C rfl dJ5_ensureCapacityInternal_d00df_5 (ok_get C kc_J4 (by decide) rfl rfl rfl wd_399 (fun _ h => h) dJ5_ensureCapacityInternal_d00df_6 (ok_ishr C dJ5_ensureCapacityInternal_d00df_9 (ok_istore_n C rfl (by decide) dJ5_ensureCapacityInternal_d00df_10 (ok_iload_n C rfl dJ5_ensureCapacityInternal_d00df_11 (ok_iload_n C rfl dJ5_ensureCapacityInternal_d00df_12 (ok_isub C dJ5_ensureCapacityInternal_d00df_13 (ok_ifle C (T := 1) dJ5_ensureCapacityInternal_d00df_14 (by decide) (ok_aload_n C rfl dJ5_ensureCapacityInternal_d00df_17 (ok_aload_n C rfl dJ5_ensureCapacityInternal_d00df_18 (ok_get C kc_J4 (by decide) rfl rfl rfl wd_398 (fun _ h => h) dJ5_ensureCapacityInternal_d00df_19 (ok_aload_n C rfl dJ5_ensureCapacityInternal_d00df_22 (ok_iload_n C rfl dJ5_ensureCapacityInternal_d00df_23 (ok_callup C rfl (by decide) (kon_J5_newCapacity_0f7a4 l hl) (qa_wl [1342, 2164, 1344, 81, 1345] (by decide +kernel) (by decide +kernel)) (qa_selp (n := 4) ⟨by decide +kernel, by decide +kernel⟩ (C.2.2.2.2.1 _ wd_381) (C.2.2.2.2.2.2.2.2.2.2.word (by decide +kernel)) (C.2.2.2.2.1 _ wd_1344) (C.2.2.2.2.1 _ wd_2164)) rfl ⟨by decide +kernel, by decide +kernel, by decide +kernel⟩ ⟨Nat.le_of_ble_eq_true rfl, Nat.le_of_ble_eq_true rfl⟩ dJ5_ensureCapacityInternal_d00df_24 (ok_aload_n C rfl dJ5_ensureCapacityInternal_d00df_27 (ok_get C kc_J4 (by decide) rfl rfl rfl wd_399 (fun _ h => h) dJ5_ensureCapacityInternal_d00df_28 (ok_ishl C dJ5_ensureCapacityInternal_d00df_31 (ok_calls C (kon_J7_copyOf_9075b l hl) (qa_wl [1355, 1356, 100, 1357] (by decide +kernel) (by decide +kernel)) ⟨by decide +kernel, by decide +kernel, by decide +kernel⟩ ⟨Nat.le_of_ble_eq_true rfl, Nat.le_of_ble_eq_true rfl⟩ dJ5_ensureCapacityInternal_d00df_32 (ok_put C kc_J4 (by decide) rfl rfl rfl wd_398 (fun _ h => h) (Or.inl rfl) qa_fita dJ5_ensureCapacityInternal_d00df_35 (ok_fall rfl))))))))))))))))))))))
    | 1, hj => obtain rfl := Option.some.inj hj; exact ok_vret C hr dJ5_ensureCapacityInternal_d00df_38
    | (_ + 2), hj => exact nomatch hj)
set_option maxRecDepth 100000 in
set_option maxHeartbeats 4000000 in
theorem kon_J5_isLatin1_aae02 (l : Launch) (hl : l.stackTraces = false) : qa_Con l yJ5_isLatin1_aae02 cJ5_isLatin1_aae02 1 (some .boolean) 1 20 f_J5_isLatin1_aae02 :=
  qa_method (pcs := pc_J5_isLatin1_aae02) (by decide +kernel) rfl (fun C hr hn j f hj => by
    match j, hj with
    | 0, hj => obtain rfl := Option.some.inj hj; exact ok_gets C (Cn := "java/lang/String") (fn := "COMPACT_STRINGS") (fd := "Z") (by decide +kernel) wd_389 dJ5_isLatin1_aae02_0 (ok_ifeq C (T := 1) dJ5_isLatin1_aae02_3 (by decide) (ok_aload_n C rfl dJ5_isLatin1_aae02_6 (ok_get C kc_J4 (by decide) rfl rfl rfl wd_399 (fun _ h => h) dJ5_isLatin1_aae02_7 (ok_ifne C (T := 1) dJ5_isLatin1_aae02_10 (by decide) (ok_iconst C (by decide) dJ5_isLatin1_aae02_13 (ok_goto C dJ5_isLatin1_aae02_14 (by decide)))))))
    | 1, hj => obtain rfl := Option.some.inj hj; exact ok_iconst C (by decide) dJ5_isLatin1_aae02_17 (ok_fall rfl)
    | 2, hj => obtain rfl := Option.some.inj hj; exact ok_zret C hr dJ5_isLatin1_aae02_18
    | (_ + 3), hj => exact nomatch hj)
set_option maxRecDepth 100000 in
set_option maxHeartbeats 4000000 in
theorem kon_J7_rangeCheck_23922 (l : Launch) (hl : l.stackTraces = false) : qa_Con l yJ7_rangeCheck_23922 cJ7_rangeCheck_23922 3 none 1 20 f_J7_rangeCheck_23922 :=
  qa_method (pcs := pc_J7_rangeCheck_23922) (by decide +kernel) rfl (fun C hr hn j f hj => by
    match j, hj with
    | 0, hj => obtain rfl := Option.some.inj hj; exact ok_iload_n C rfl dJ7_rangeCheck_23922_0 (ok_iload_n C rfl dJ7_rangeCheck_23922_1 (ok_cmple C (T := 1) dJ7_rangeCheck_23922_2 (by decide) (qa_dead)))
    | 1, hj => obtain rfl := Option.some.inj hj; exact ok_iload_n C rfl dJ7_rangeCheck_23922_46 (ok_ifge C (T := 2) dJ7_rangeCheck_23922_47 (by decide) (qa_dead))
    | 2, hj => obtain rfl := Option.some.inj hj; exact ok_iload_n C rfl dJ7_rangeCheck_23922_59 (ok_iload_n C rfl dJ7_rangeCheck_23922_60 (ok_cmple C (T := 3) dJ7_rangeCheck_23922_61 (by decide) (qa_dead)))
    | 3, hj => obtain rfl := Option.some.inj hj; exact ok_vret C hr dJ7_rangeCheck_23922_73
    | (_ + 4), hj => exact nomatch hj)
set_option maxRecDepth 100000 in
set_option maxHeartbeats 4000000 in
theorem kon_J7_fill_eb02e (l : Launch) (hl : l.stackTraces = false) : qa_Con l yJ7_fill_eb02e cJ7_fill_eb02e 5 none 2 42 f_J7_fill_eb02e :=
  qa_method (pcs := pc_J7_fill_eb02e) (by decide +kernel) rfl (fun C hr hn j f hj => by
    match j, hj with
    | 0, hj => obtain rfl := Option.some.inj hj; exact ok_aload_n C rfl dJ7_fill_eb02e_0 (ok_alen C dJ7_fill_eb02e_1 (ok_iload_n C rfl dJ7_fill_eb02e_2 (ok_iload_n C rfl dJ7_fill_eb02e_3 (ok_calls C (kon_J7_rangeCheck_23922 l hl) (qa_wl [1533, 1534, 100, 1535] (by decide +kernel) (by decide +kernel)) ⟨by decide +kernel, by decide +kernel, by decide +kernel⟩ ⟨Nat.le_of_ble_eq_true rfl, Nat.le_of_ble_eq_true rfl⟩ dJ7_fill_eb02e_4 (ok_iload_n C rfl dJ7_fill_eb02e_7 (ok_istore C (by decide) dJ7_fill_eb02e_8 (ok_fall rfl)))))))
    | 1, hj => obtain rfl := Option.some.inj hj; exact ok_iload C dJ7_fill_eb02e_10 (ok_iload_n C rfl dJ7_fill_eb02e_12 (ok_cmpge C (T := 2) dJ7_fill_eb02e_13 (by decide) (ok_aload_n C rfl dJ7_fill_eb02e_16 (ok_iload C dJ7_fill_eb02e_17 (ok_iload_n C rfl dJ7_fill_eb02e_19 (ok_bastore C dJ7_fill_eb02e_20 (ok_iinc C (by decide) (by decide) dJ7_fill_eb02e_21 (ok_goto C dJ7_fill_eb02e_24 (by decide)))))))))
    | 2, hj => obtain rfl := Option.some.inj hj; exact ok_vret C hr dJ7_fill_eb02e_27
    | (_ + 3), hj => exact nomatch hj)
set_option maxRecDepth 100000 in
set_option maxHeartbeats 4000000 in
theorem kon_J1_fillNull_b72d1 (l : Launch) (hl : l.stackTraces = false) : qa_Con l yJ1_fillNull_b72d1 cJ1_fillNull_b72d1 3 none 3 66 f_J1_fillNull_b72d1 :=
  qa_method (pcs := pc_J1_fillNull_b72d1) (by decide +kernel) rfl (fun C hr hn j f hj => by
    match j, hj with
    | 0, hj => obtain rfl := Option.some.inj hj; exact ok_aload_n C rfl dJ1_fillNull_b72d1_0 (ok_iload_n C rfl dJ1_fillNull_b72d1_1 (ok_iload_n C rfl dJ1_fillNull_b72d1_2 (ok_iconst C (by decide) dJ1_fillNull_b72d1_3 (ok_calls C (kon_J7_fill_eb02e l hl) (qa_wl [1530, 1531, 100, 1532] (by decide +kernel) (by decide +kernel)) ⟨by decide +kernel, by decide +kernel, by decide +kernel⟩ ⟨Nat.le_of_ble_eq_true rfl, Nat.le_of_ble_eq_true rfl⟩ dJ1_fillNull_b72d1_4 (ok_vret C hr dJ1_fillNull_b72d1_7)))))
    | (_ + 1), hj => exact nomatch hj)
set_option maxRecDepth 100000 in
set_option maxHeartbeats 4000000 in
theorem kon_J5_setLength_d00df (l : Launch) (hl : l.stackTraces = false) : qa_Con l yJ5_setLength_d00df cJ5_setLength_d00df 2 none 5 164 f_J5_setLength_d00df :=
  qa_method (pcs := pc_J5_setLength_d00df) (by decide +kernel) rfl (fun C hr hn j f hj => by
    match j, hj with
    | 0, hj => obtain rfl := Option.some.inj hj; exact ok_iload_n C rfl dJ5_setLength_d00df_0 (ok_ifge C (T := 1) dJ5_setLength_d00df_1 (by decide) (qa_dead))
    | 1, hj => obtain rfl := Option.some.inj hj; exact ok_aload_n C rfl dJ5_setLength_d00df_13 (ok_iload_n C rfl dJ5_setLength_d00df_14 (ok_callup C rfl (by decide) (kon_J5_ensureCapacityInternal_d00df l hl) (qa_wl [1338, 2163, 1340, 81, 1341] (by decide +kernel) (by decide +kernel)) (qa_selp (n := 4) ⟨by decide +kernel, by decide +kernel⟩ (C.2.2.2.2.1 _ wd_381) (C.2.2.2.2.2.2.2.2.2.2.word (by decide +kernel)) (C.2.2.2.2.1 _ wd_1340) (C.2.2.2.2.1 _ wd_2163)) rfl ⟨by decide +kernel, by decide +kernel, by decide +kernel⟩ ⟨Nat.le_of_ble_eq_true rfl, Nat.le_of_ble_eq_true rfl⟩ dJ5_setLength_d00df_15 (ok_aload_n C rfl dJ5_setLength_d00df_18 (ok_get C kc_J4 (by decide) rfl rfl rfl wd_402 (fun _ h => h) dJ5_setLength_d00df_19 (ok_iload_n C rfl dJ5_setLength_d00df_22 (ok_cmpge C (T := 3) dJ5_setLength_d00df_23 (by decide) (ok_aload_n C rfl dJ5_setLength_d00df_26 (ok_callup C rfl (by decide) (kon_J5_isLatin1_aae02 l hl) (qa_wl [1367, 1369, 1368, 81, 1371] (by decide +kernel) (by decide +kernel)) (C.2.2.2.2.1 _ wd_1370) rfl ⟨by decide +kernel, by decide +kernel, by decide +kernel⟩ ⟨Nat.le_of_ble_eq_true rfl, Nat.le_of_ble_eq_true rfl⟩ dJ5_setLength_d00df_27 (ok_ifeq C (T := 2) dJ5_setLength_d00df_30 (by decide) (ok_aload_n C rfl dJ5_setLength_d00df_33 (ok_get C kc_J4 (by decide) rfl rfl rfl wd_398 (fun _ h => h) dJ5_setLength_d00df_34 (ok_aload_n C rfl dJ5_setLength_d00df_37 (ok_get C kc_J4 (by decide) rfl rfl rfl wd_402 (fun _ h => h) dJ5_setLength_d00df_38 (ok_iload_n C rfl dJ5_setLength_d00df_41 (ok_calls C (kon_J1_fillNull_b72d1 l hl) (qa_wl [1527, 1528, 91, 1529] (by decide +kernel) (by decide +kernel)) ⟨by decide +kernel, by decide +kernel, by decide +kernel⟩ ⟨Nat.le_of_ble_eq_true rfl, Nat.le_of_ble_eq_true rfl⟩ dJ5_setLength_d00df_42 (ok_goto C dJ5_setLength_d00df_45 (by decide)))))))))))))))))
    | 2, hj => obtain rfl := Option.some.inj hj; exact ok_aload_n C rfl dJ5_setLength_d00df_48 (ok_get C kc_J4 (by decide) rfl rfl rfl wd_398 (fun _ h => h) dJ5_setLength_d00df_49 (ok_aload_n C rfl dJ5_setLength_d00df_52 (ok_get C kc_J4 (by decide) rfl rfl rfl wd_402 (fun _ h => h) dJ5_setLength_d00df_53 (ok_iload_n C rfl dJ5_setLength_d00df_56 (qa_dead)))))
    | 3, hj => obtain rfl := Option.some.inj hj; exact ok_aload_n C rfl dJ5_setLength_d00df_63 (ok_get C kc_J4 (by decide) rfl rfl rfl wd_402 (fun _ h => h) dJ5_setLength_d00df_64 (ok_iload_n C rfl dJ5_setLength_d00df_67 (ok_cmple C (T := 4) dJ5_setLength_d00df_68 (by decide) (ok_aload_n C rfl dJ5_setLength_d00df_71 (ok_iconst C (by decide) dJ5_setLength_d00df_72 (ok_putz C kc_J4 (by decide) rfl rfl rfl wd_400 (fun _ h => h) (Or.inl rfl) dJ5_setLength_d00df_73 (ok_fall rfl)))))))
    | 4, hj => obtain rfl := Option.some.inj hj; exact ok_aload_n C rfl dJ5_setLength_d00df_76 (ok_iload_n C rfl dJ5_setLength_d00df_77 (ok_put C kc_J4 (by decide) rfl rfl rfl wd_402 (fun _ h => h) (Or.inl rfl) qa_fit0 dJ5_setLength_d00df_78 (ok_vret C hr dJ5_setLength_d00df_81)))
    | (_ + 5), hj => exact nomatch hj)
set_option maxRecDepth 100000 in
set_option maxHeartbeats 4000000 in
theorem kon_J4_setLength_d00df (l : Launch) (hl : l.stackTraces = false) : qa_Con l yJ4_setLength_d00df cJ4_setLength_d00df 2 none 6 185 f_J4_setLength_d00df :=
  qa_method (pcs := pc_J4_setLength_d00df) (by decide +kernel) rfl (fun C hr hn j f hj => by
    match j, hj with
    | 0, hj => obtain rfl := Option.some.inj hj; exact ok_aload_n C rfl dJ4_setLength_d00df_0 (ok_iload_n C rfl dJ4_setLength_d00df_1 (ok_callsup C rfl (by decide) (kon_J5_setLength_d00df l hl) (qa_wl [1316, 2160, 411, 1317, 81, 1318] (by decide +kernel) (by decide +kernel)) ⟨by decide +kernel, by decide +kernel⟩ ⟨Nat.le_of_ble_eq_true rfl, Nat.le_of_ble_eq_true rfl⟩ dJ4_setLength_d00df_2 (ok_vret C hr dJ4_setLength_d00df_5)))
    | (_ + 1), hj => exact nomatch hj)
set_option maxRecDepth 100000 in
set_option maxHeartbeats 4000000 in
theorem kon_J6_stringSize_0f7a4 (l : Launch) (hl : l.stackTraces = false) : qa_Con l yJ6_stringSize_0f7a4 cJ6_stringSize_0f7a4 4 (some .int) 1 20 f_J6_stringSize_0f7a4 :=
  qa_method (pcs := pc_J6_stringSize_0f7a4) (by decide +kernel) rfl (fun C hr hn j f hj => by
    match j, hj with
    | 0, hj => obtain rfl := Option.some.inj hj; exact ok_iconst C (by decide) dJ6_stringSize_0f7a4_0 (ok_istore_n C rfl (by decide) dJ6_stringSize_0f7a4_1 (ok_iload_n C rfl dJ6_stringSize_0f7a4_2 (ok_iflt C (T := 1) dJ6_stringSize_0f7a4_3 (by decide) (ok_iconst C (by decide) dJ6_stringSize_0f7a4_6 (ok_istore_n C rfl (by decide) dJ6_stringSize_0f7a4_7 (ok_iload_n C rfl dJ6_stringSize_0f7a4_8 (ok_ineg C dJ6_stringSize_0f7a4_9 (ok_istore_n C rfl (by decide) dJ6_stringSize_0f7a4_10 (ok_fall rfl)))))))))
    | 1, hj => obtain rfl := Option.some.inj hj; exact ok_bipush C (by decide) dJ6_stringSize_0f7a4_11 (ok_istore_n C rfl (by decide) dJ6_stringSize_0f7a4_13 (ok_iconst C (by decide) dJ6_stringSize_0f7a4_14 (ok_istore_n C rfl (by decide) dJ6_stringSize_0f7a4_15 (ok_fall rfl))))
    | 2, hj => obtain rfl := Option.some.inj hj; exact ok_iload_n C rfl dJ6_stringSize_0f7a4_16 (ok_bipush C (by decide) dJ6_stringSize_0f7a4_17 (ok_cmpge C (T := 4) dJ6_stringSize_0f7a4_19 (by decide) (ok_iload_n C rfl dJ6_stringSize_0f7a4_22 (ok_iload_n C rfl dJ6_stringSize_0f7a4_23 (ok_cmple C (T := 3) dJ6_stringSize_0f7a4_24 (by decide) (ok_iload_n C rfl dJ6_stringSize_0f7a4_27 (ok_iload_n C rfl dJ6_stringSize_0f7a4_28 (ok_iadd C dJ6_stringSize_0f7a4_29 (ok_iret C hr dJ6_stringSize_0f7a4_30)))))))))
    | 3, hj => obtain rfl := Option.some.inj hj; exact ok_bipush C (by decide) dJ6_stringSize_0f7a4_31 (ok_iload_n C rfl dJ6_stringSize_0f7a4_33 (ok_imul C dJ6_stringSize_0f7a4_34 (ok_istore_n C rfl (by decide) dJ6_stringSize_0f7a4_35 (ok_iinc C (by decide) (by decide) dJ6_stringSize_0f7a4_36 (ok_goto C dJ6_stringSize_0f7a4_39 (by decide))))))
    | 4, hj => obtain rfl := Option.some.inj hj; exact ok_bipush C (by decide) dJ6_stringSize_0f7a4_42 (ok_iload_n C rfl dJ6_stringSize_0f7a4_44 (ok_iadd C dJ6_stringSize_0f7a4_45 (ok_iret C hr dJ6_stringSize_0f7a4_46)))
    | (_ + 5), hj => exact nomatch hj)
set_option maxRecDepth 100000 in
set_option maxHeartbeats 4000000 in
theorem kon_J6_getChars_ba4f3 (l : Launch) (hl : l.stackTraces = false) : qa_Con l yJ6_getChars_ba4f3 cJ6_getChars_ba4f3 7 (some .int) 1 20 f_J6_getChars_ba4f3 :=
  qa_method (pcs := pc_J6_getChars_ba4f3) (by decide +kernel) rfl (fun C hr hn j f hj => by
    match j, hj with
    | 0, hj => obtain rfl := Option.some.inj hj; exact ok_iload_n C rfl dJ6_getChars_ba4f3_0 (ok_istore C (by decide) dJ6_getChars_ba4f3_1 (ok_iload_n C rfl dJ6_getChars_ba4f3_3 (ok_ifge C (T := 1) dJ6_getChars_ba4f3_4 (by decide) (ok_iconst C (by decide) dJ6_getChars_ba4f3_7 (ok_goto C dJ6_getChars_ba4f3_8 (by decide))))))
    | 1, hj => obtain rfl := Option.some.inj hj; exact ok_iconst C (by decide) dJ6_getChars_ba4f3_11 (ok_fall rfl)
    | 2, hj => obtain rfl := Option.some.inj hj; exact ok_istore C (by decide) dJ6_getChars_ba4f3_12 (ok_iload C dJ6_getChars_ba4f3_14 (ok_ifne C (T := 3) dJ6_getChars_ba4f3_16 (by decide) (ok_iload_n C rfl dJ6_getChars_ba4f3_19 (ok_ineg C dJ6_getChars_ba4f3_20 (ok_istore_n C rfl (by decide) dJ6_getChars_ba4f3_21 (ok_fall rfl))))))
    | 3, hj => obtain rfl := Option.some.inj hj; exact ok_iload_n C rfl dJ6_getChars_ba4f3_22 (ok_bipush C (by decide) dJ6_getChars_ba4f3_23 (ok_cmpgt C (T := 4) dJ6_getChars_ba4f3_25 (by decide) (ok_iload_n C rfl dJ6_getChars_ba4f3_28 (ok_bipush C (by decide) dJ6_getChars_ba4f3_29 (ok_idivn C dJ6_getChars_ba4f3_31 (ok_istore_n C rfl (by decide) dJ6_getChars_ba4f3_32 (ok_iload_n C rfl dJ6_getChars_ba4f3_33 (ok_bipush C (by decide) dJ6_getChars_ba4f3_34 (ok_imul C dJ6_getChars_ba4f3_36 (ok_iload_n C rfl dJ6_getChars_ba4f3_37 (ok_isub C dJ6_getChars_ba4f3_38 (ok_istore C (by decide) dJ6_getChars_ba4f3_39 (ok_iload_n C rfl dJ6_getChars_ba4f3_41 (ok_istore_n C rfl (by decide) dJ6_getChars_ba4f3_42 (ok_aload_n C rfl dJ6_getChars_ba4f3_43 (ok_iinc C (by decide) (by decide) dJ6_getChars_ba4f3_44 (ok_iload C dJ6_getChars_ba4f3_47 (ok_gets C (Cn := "java/lang/Integer") (fn := "DigitOnes") (fd := "[B") (by decide +kernel) wd_1435 dJ6_getChars_ba4f3_49 (ok_iload C dJ6_getChars_ba4f3_52 (ok_sldb C dJ6_getChars_ba4f3_54 (ok_bastore C dJ6_getChars_ba4f3_55 (ok_aload_n C rfl dJ6_getChars_ba4f3_56 (ok_iinc C (by decide) (by decide) dJ6_getChars_ba4f3_57 (ok_iload C dJ6_getChars_ba4f3_60 (ok_gets C (Cn := "java/lang/Integer") (fn := "DigitTens") (fd := "[B") (by decide +kernel) wd_1437 dJ6_getChars_ba4f3_62 (ok_iload C dJ6_getChars_ba4f3_65 (ok_sldb C dJ6_getChars_ba4f3_67 (ok_bastore C dJ6_getChars_ba4f3_68 (ok_goto C dJ6_getChars_ba4f3_69 (by decide))))))))))))))))))))))))))))))
    | 4, hj => obtain rfl := Option.some.inj hj; exact ok_aload_n C rfl dJ6_getChars_ba4f3_72 (ok_iinc C (by decide) (by decide) dJ6_getChars_ba4f3_73 (ok_iload C dJ6_getChars_ba4f3_76 (ok_gets C (Cn := "java/lang/Integer") (fn := "DigitOnes") (fd := "[B") (by decide +kernel) wd_1435 dJ6_getChars_ba4f3_78 (ok_iload_n C rfl dJ6_getChars_ba4f3_81 (ok_ineg C dJ6_getChars_ba4f3_82 (ok_sldb C dJ6_getChars_ba4f3_83 (ok_bastore C dJ6_getChars_ba4f3_84 (ok_iload_n C rfl dJ6_getChars_ba4f3_85 (ok_bipush C (by decide) dJ6_getChars_ba4f3_86 (ok_cmpge C (T := 5) dJ6_getChars_ba4f3_88 (by decide) (ok_aload_n C rfl dJ6_getChars_ba4f3_91 (ok_iinc C (by decide) (by decide) dJ6_getChars_ba4f3_92 (ok_iload C dJ6_getChars_ba4f3_95 (ok_gets C (Cn := "java/lang/Integer") (fn := "DigitTens") (fd := "[B") (by decide +kernel) wd_1437 dJ6_getChars_ba4f3_97 (ok_iload_n C rfl dJ6_getChars_ba4f3_100 (ok_ineg C dJ6_getChars_ba4f3_101 (ok_sldb C dJ6_getChars_ba4f3_102 (ok_bastore C dJ6_getChars_ba4f3_103 (ok_fall rfl)))))))))))))))))))
    | 5, hj => obtain rfl := Option.some.inj hj; exact ok_iload C dJ6_getChars_ba4f3_104 (ok_ifeq C (T := 6) dJ6_getChars_ba4f3_106 (by decide) (ok_aload_n C rfl dJ6_getChars_ba4f3_109 (ok_iinc C (by decide) (by decide) dJ6_getChars_ba4f3_110 (ok_iload C dJ6_getChars_ba4f3_113 (ok_bipush C (by decide) dJ6_getChars_ba4f3_115 (ok_bastore C dJ6_getChars_ba4f3_117 (ok_fall rfl)))))))
    | 6, hj => obtain rfl := Option.some.inj hj; exact ok_iload C dJ6_getChars_ba4f3_118 (ok_iret C hr dJ6_getChars_ba4f3_120)
    | (_ + 7), hj => exact nomatch hj)
set_option maxRecDepth 100000 in
set_option maxHeartbeats 4000000 in
theorem kon_J5_append_c97b9 (l : Launch) (hl : l.stackTraces = false) : qa_Con l yJ5_append_c97b9 cJ5_append_c97b9 4 (some (.object "java/lang/AbstractStringBuilder")) 5 164 f_J5_append_c97b9 :=
  qa_method (pcs := pc_J5_append_c97b9) (by decide +kernel) rfl (fun C hr hn j f hj => by
    match j, hj with
    | 0, hj => obtain rfl := Option.some.inj hj; exact ok_aload_n C rfl dJ5_append_c97b9_0 (ok_get C kc_J4 (by decide) rfl rfl rfl wd_402 (fun _ h => h) dJ5_append_c97b9_1 (ok_istore_n C rfl (by decide) dJ5_append_c97b9_4 (ok_iload_n C rfl dJ5_append_c97b9_5 (ok_iload_n C rfl dJ5_append_c97b9_6 (ok_calls C (kon_J6_stringSize_0f7a4 l hl) (qa_wl [1429, 1430, 101, 1431] (by decide +kernel) (by decide +kernel)) ⟨by decide +kernel, by decide +kernel, by decide +kernel⟩ ⟨Nat.le_of_ble_eq_true rfl, Nat.le_of_ble_eq_true rfl⟩ dJ5_append_c97b9_7 (ok_iadd C dJ5_append_c97b9_10 (ok_istore_n C rfl (by decide) dJ5_append_c97b9_11 (ok_aload_n C rfl dJ5_append_c97b9_12 (ok_iload_n C rfl dJ5_append_c97b9_13 (ok_callup C rfl (by decide) (kon_J5_ensureCapacityInternal_d00df l hl) (qa_wl [1338, 2163, 1340, 81, 1341] (by decide +kernel) (by decide +kernel)) (qa_selp (n := 4) ⟨by decide +kernel, by decide +kernel⟩ (C.2.2.2.2.1 _ wd_381) (C.2.2.2.2.2.2.2.2.2.2.word (by decide +kernel)) (C.2.2.2.2.1 _ wd_1340) (C.2.2.2.2.1 _ wd_2163)) rfl ⟨by decide +kernel, by decide +kernel, by decide +kernel⟩ ⟨Nat.le_of_ble_eq_true rfl, Nat.le_of_ble_eq_true rfl⟩ dJ5_append_c97b9_14 (ok_aload_n C rfl dJ5_append_c97b9_17 (ok_callup C rfl (by decide) (kon_J5_isLatin1_aae02 l hl) (qa_wl [1367, 1369, 1368, 81, 1371] (by decide +kernel) (by decide +kernel)) (C.2.2.2.2.1 _ wd_1370) rfl ⟨by decide +kernel, by decide +kernel, by decide +kernel⟩ ⟨Nat.le_of_ble_eq_true rfl, Nat.le_of_ble_eq_true rfl⟩ dJ5_append_c97b9_18 (ok_ifeq C (T := 1) dJ5_append_c97b9_21 (by decide) (ok_iload_n C rfl dJ5_append_c97b9_24 (ok_iload_n C rfl dJ5_append_c97b9_25 (ok_aload_n C rfl dJ5_append_c97b9_26 (ok_get C kc_J4 (by decide) rfl rfl rfl wd_398 (fun _ h => h) dJ5_append_c97b9_27 (ok_calls C (kon_J6_getChars_ba4f3 l hl) (qa_wl [1432, 1433, 101, 1434] (by decide +kernel) (by decide +kernel)) ⟨by decide +kernel, by decide +kernel, by decide +kernel⟩ ⟨Nat.le_of_ble_eq_true rfl, Nat.le_of_ble_eq_true rfl⟩ dJ5_append_c97b9_30 (ok_pop C dJ5_append_c97b9_33 (ok_goto C dJ5_append_c97b9_34 (by decide)))))))))))))))))))))
    | 1, hj => obtain rfl := Option.some.inj hj; exact ok_iload_n C rfl dJ5_append_c97b9_37 (ok_iload_n C rfl dJ5_append_c97b9_38 (ok_iload_n C rfl dJ5_append_c97b9_39 (ok_aload_n C rfl dJ5_append_c97b9_40 (ok_get C kc_J4 (by decide) rfl rfl rfl wd_398 (fun _ h => h) dJ5_append_c97b9_41 (qa_dead)))))
    | 2, hj => obtain rfl := Option.some.inj hj; exact ok_aload_n C rfl dJ5_append_c97b9_48 (ok_iload_n C rfl dJ5_append_c97b9_49 (ok_put C kc_J4 (by decide) rfl rfl rfl wd_402 (fun _ h => h) (Or.inl rfl) qa_fit0 dJ5_append_c97b9_50 (ok_aload_n C rfl dJ5_append_c97b9_53 (ok_aret C hr (Or.inl ⟨_, rfl⟩) dJ5_append_c97b9_54))))
    | (_ + 3), hj => exact nomatch hj)
set_option maxRecDepth 100000 in
set_option maxHeartbeats 4000000 in
theorem kon_J4_append_bf812 (l : Launch) (hl : l.stackTraces = false) : qa_Con l yJ4_append_bf812 cJ4_append_bf812 2 (some (.object "java/lang/StringBuilder")) 6 187 f_J4_append_bf812 :=
  qa_method (pcs := pc_J4_append_bf812) (by decide +kernel) rfl (fun C hr hn j f hj => by
    match j, hj with
    | 0, hj => obtain rfl := Option.some.inj hj; exact ok_aload_n C rfl dJ4_append_bf812_0 (ok_iload_n C rfl dJ4_append_bf812_1 (ok_callsup C rfl (by decide) (kon_J5_append_c97b9 l hl) (qa_wl [1426, 2168, 411, 1427, 81, 1428] (by decide +kernel) (by decide +kernel)) ⟨by decide +kernel, by decide +kernel⟩ ⟨Nat.le_of_ble_eq_true rfl, Nat.le_of_ble_eq_true rfl⟩ dJ4_append_bf812_2 (ok_pop C dJ4_append_bf812_5 (ok_aload_n C rfl dJ4_append_bf812_6 (ok_aret C hr (Or.inl ⟨_, rfl⟩) dJ4_append_bf812_7)))))
    | (_ + 1), hj => exact nomatch hj)
set_option maxRecDepth 100000 in
set_option maxHeartbeats 4000000 in
theorem kon_J1_canEncode_fc78d (l : Launch) (hl : l.stackTraces = false) : qa_Con l yJ1_canEncode_fc78d cJ1_canEncode_fc78d 1 (some .boolean) 1 20 f_J1_canEncode_fc78d :=
  qa_method (pcs := pc_J1_canEncode_fc78d) (by decide +kernel) rfl (fun C hr hn j f hj => by
    match j, hj with
    | 0, hj => obtain rfl := Option.some.inj hj; exact ok_iload_n C rfl dJ1_canEncode_fc78d_0 (ok_sipush C (by decide) dJ1_canEncode_fc78d_1 (ok_cmpgt C (T := 1) dJ1_canEncode_fc78d_4 (by decide) (ok_iconst C (by decide) dJ1_canEncode_fc78d_7 (ok_goto C dJ1_canEncode_fc78d_8 (by decide)))))
    | 1, hj => obtain rfl := Option.some.inj hj; exact ok_iconst C (by decide) dJ1_canEncode_fc78d_11 (ok_fall rfl)
    | 2, hj => obtain rfl := Option.some.inj hj; exact ok_zret C hr dJ1_canEncode_fc78d_12
    | (_ + 3), hj => exact nomatch hj)
set_option maxRecDepth 100000 in
set_option maxHeartbeats 4000000 in
theorem kon_J5_inflate_da8c8 (l : Launch) (hl : l.stackTraces = false) : qa_Con l yJ5_inflate_da8c8 cJ5_inflate_da8c8 2 none 2 40 f_J5_inflate_da8c8 :=
  qa_method (pcs := pc_J5_inflate_da8c8) (by decide +kernel) rfl (fun C hr hn j f hj => by
    match j, hj with
    | 0, hj => obtain rfl := Option.some.inj hj; exact ok_aload_n C rfl dJ5_inflate_da8c8_0 (ok_callup C rfl (by decide) (kon_J5_isLatin1_aae02 l hl) (qa_wl [1367, 1369, 1368, 81, 1371] (by decide +kernel) (by decide +kernel)) (C.2.2.2.2.1 _ wd_1370) rfl ⟨by decide +kernel, by decide +kernel, by decide +kernel⟩ ⟨Nat.le_of_ble_eq_true rfl, Nat.le_of_ble_eq_true rfl⟩ dJ5_inflate_da8c8_1 (ok_ifne C (T := 1) dJ5_inflate_da8c8_4 (by decide) (ok_vret C hr dJ5_inflate_da8c8_7)))
    | 1, hj => obtain rfl := Option.some.inj hj; exact ok_aload_n C rfl dJ5_inflate_da8c8_8 (ok_get C kc_J4 (by decide) rfl rfl rfl wd_398 (fun _ h => h) dJ5_inflate_da8c8_9 (ok_alen C dJ5_inflate_da8c8_12 (qa_dead)))
    | (_ + 2), hj => exact nomatch hj)
set_option maxRecDepth 100000 in
set_option maxHeartbeats 4000000 in
theorem kon_J5_append_3fe6f (l : Launch) (hl : l.stackTraces = false) : qa_Con l yJ5_append_3fe6f cJ5_append_3fe6f 2 (some (.object "java/lang/AbstractStringBuilder")) 5 164 f_J5_append_3fe6f :=
  qa_method (pcs := pc_J5_append_3fe6f) (by decide +kernel) rfl (fun C hr hn j f hj => by
    match j, hj with
    | 0, hj => obtain rfl := Option.some.inj hj; exact ok_aload_n C rfl dJ5_append_3fe6f_0 (ok_aload_n C rfl dJ5_append_3fe6f_1 (ok_get C kc_J4 (by decide) rfl rfl rfl wd_402 (fun _ h => h) dJ5_append_3fe6f_2 (ok_iconst C (by decide) dJ5_append_3fe6f_5 (ok_iadd C dJ5_append_3fe6f_6 (ok_callup C rfl (by decide) (kon_J5_ensureCapacityInternal_d00df l hl) (qa_wl [1338, 2163, 1340, 81, 1341] (by decide +kernel) (by decide +kernel)) (qa_selp (n := 4) ⟨by decide +kernel, by decide +kernel⟩ (C.2.2.2.2.1 _ wd_381) (C.2.2.2.2.2.2.2.2.2.2.word (by decide +kernel)) (C.2.2.2.2.1 _ wd_1340) (C.2.2.2.2.1 _ wd_2163)) rfl ⟨by decide +kernel, by decide +kernel, by decide +kernel⟩ ⟨Nat.le_of_ble_eq_true rfl, Nat.le_of_ble_eq_true rfl⟩ dJ5_append_3fe6f_7 (ok_aload_n C rfl dJ5_append_3fe6f_10 (ok_callup C rfl (by decide) (kon_J5_isLatin1_aae02 l hl) (qa_wl [1367, 1369, 1368, 81, 1371] (by decide +kernel) (by decide +kernel)) (C.2.2.2.2.1 _ wd_1370) rfl ⟨by decide +kernel, by decide +kernel, by decide +kernel⟩ ⟨Nat.le_of_ble_eq_true rfl, Nat.le_of_ble_eq_true rfl⟩ dJ5_append_3fe6f_11 (ok_ifeq C (T := 1) dJ5_append_3fe6f_14 (by decide) (ok_iload_n C rfl dJ5_append_3fe6f_17 (ok_calls C (kon_J1_canEncode_fc78d l hl) (qa_wl [1574, 1575, 91, 1576] (by decide +kernel) (by decide +kernel)) ⟨by decide +kernel, by decide +kernel, by decide +kernel⟩ ⟨Nat.le_of_ble_eq_true rfl, Nat.le_of_ble_eq_true rfl⟩ dJ5_append_3fe6f_18 (ok_ifeq C (T := 1) dJ5_append_3fe6f_21 (by decide) (ok_aload_n C rfl dJ5_append_3fe6f_24 (ok_get C kc_J4 (by decide) rfl rfl rfl wd_398 (fun _ h => h) dJ5_append_3fe6f_25 (ok_aload_n C rfl dJ5_append_3fe6f_28 (ok_dup C dJ5_append_3fe6f_29 (ok_get C kc_J4 (by decide) rfl rfl rfl wd_402 (fun _ h => h) dJ5_append_3fe6f_30 (ok_dup_x1 C dJ5_append_3fe6f_33 (ok_iconst C (by decide) dJ5_append_3fe6f_34 (ok_iadd C dJ5_append_3fe6f_35 (ok_put C kc_J4 (by decide) rfl rfl rfl wd_402 (fun _ h => h) (Or.inl rfl) qa_fit0 dJ5_append_3fe6f_36 (ok_iload_n C rfl dJ5_append_3fe6f_39 (ok_i2b C dJ5_append_3fe6f_40 (ok_bastore C dJ5_append_3fe6f_41 (ok_goto C dJ5_append_3fe6f_42 (by decide)))))))))))))))))))))))))
    | 1, hj => obtain rfl := Option.some.inj hj; exact ok_aload_n C rfl dJ5_append_3fe6f_45 (ok_callup C rfl (by decide) (kon_J5_isLatin1_aae02 l hl) (qa_wl [1367, 1369, 1368, 81, 1371] (by decide +kernel) (by decide +kernel)) (C.2.2.2.2.1 _ wd_1370) rfl ⟨by decide +kernel, by decide +kernel, by decide +kernel⟩ ⟨Nat.le_of_ble_eq_true rfl, Nat.le_of_ble_eq_true rfl⟩ dJ5_append_3fe6f_46 (ok_ifeq C (T := 2) dJ5_append_3fe6f_49 (by decide) (ok_aload_n C rfl dJ5_append_3fe6f_52 (ok_callup C rfl (by decide) (kon_J5_inflate_da8c8 l hl) (qa_wl [1397, 2167, 1399, 81, 1400] (by decide +kernel) (by decide +kernel)) (qa_selp (n := 4) ⟨by decide +kernel, by decide +kernel⟩ (C.2.2.2.2.1 _ wd_381) (C.2.2.2.2.2.2.2.2.2.2.word (by decide +kernel)) (C.2.2.2.2.1 _ wd_1399) (C.2.2.2.2.1 _ wd_2167)) rfl ⟨by decide +kernel, by decide +kernel, by decide +kernel⟩ ⟨Nat.le_of_ble_eq_true rfl, Nat.le_of_ble_eq_true rfl⟩ dJ5_append_3fe6f_53 (ok_fall rfl)))))
    | 2, hj => obtain rfl := Option.some.inj hj; exact ok_aload_n C rfl dJ5_append_3fe6f_56 (ok_get C kc_J4 (by decide) rfl rfl rfl wd_398 (fun _ h => h) dJ5_append_3fe6f_57 (ok_aload_n C rfl dJ5_append_3fe6f_60 (ok_dup C dJ5_append_3fe6f_61 (ok_get C kc_J4 (by decide) rfl rfl rfl wd_402 (fun _ h => h) dJ5_append_3fe6f_62 (ok_dup_x1 C dJ5_append_3fe6f_65 (ok_iconst C (by decide) dJ5_append_3fe6f_66 (ok_iadd C dJ5_append_3fe6f_67 (ok_put C kc_J4 (by decide) rfl rfl rfl wd_402 (fun _ h => h) (Or.inl rfl) qa_fit0 dJ5_append_3fe6f_68 (ok_iload_n C rfl dJ5_append_3fe6f_71 (qa_dead))))))))))
    | 3, hj => obtain rfl := Option.some.inj hj; exact ok_aload_n C rfl dJ5_append_3fe6f_75 (ok_aret C hr (Or.inl ⟨_, rfl⟩) dJ5_append_3fe6f_76)
    | (_ + 4), hj => exact nomatch hj)
set_option maxRecDepth 100000 in
set_option maxHeartbeats 4000000 in
theorem kon_J4_append_cf468 (l : Launch) (hl : l.stackTraces = false) : qa_Con l yJ4_append_cf468 cJ4_append_cf468 2 (some (.object "java/lang/StringBuilder")) 6 185 f_J4_append_cf468 :=
  qa_method (pcs := pc_J4_append_cf468) (by decide +kernel) rfl (fun C hr hn j f hj => by
    match j, hj with
    | 0, hj => obtain rfl := Option.some.inj hj; exact ok_aload_n C rfl dJ4_append_cf468_0 (ok_iload_n C rfl dJ4_append_cf468_1 (ok_callsup C rfl (by decide) (kon_J5_append_3fe6f l hl) (qa_wl [1571, 2170, 411, 1572, 81, 1573] (by decide +kernel) (by decide +kernel)) ⟨by decide +kernel, by decide +kernel⟩ ⟨Nat.le_of_ble_eq_true rfl, Nat.le_of_ble_eq_true rfl⟩ dJ4_append_cf468_2 (ok_pop C dJ4_append_cf468_5 (ok_aload_n C rfl dJ4_append_cf468_6 (ok_aret C hr (Or.inl ⟨_, rfl⟩) dJ4_append_cf468_7)))))
    | (_ + 1), hj => exact nomatch hj)
set_option maxRecDepth 100000 in
set_option maxHeartbeats 4000000 in
theorem kon_J5_length_8abf5 (l : Launch) (hl : l.stackTraces = false) : qa_Con l yJ5_length_8abf5 cJ5_length_8abf5 1 (some .int) 1 20 f_J5_length_8abf5 :=
  qa_method (pcs := pc_J5_length_8abf5) (by decide +kernel) rfl (fun C hr hn j f hj => by
    match j, hj with
    | 0, hj => obtain rfl := Option.some.inj hj; exact ok_aload_n C rfl dJ5_length_8abf5_0 (ok_get C kc_J4 (by decide) rfl rfl rfl wd_402 (fun _ h => h) dJ5_length_8abf5_1 (ok_iret C hr dJ5_length_8abf5_4))
    | (_ + 1), hj => exact nomatch hj)
set_option maxRecDepth 100000 in
set_option maxHeartbeats 4000000 in
theorem kon_J4_length_8abf5 (l : Launch) (hl : l.stackTraces = false) : qa_Con l yJ4_length_8abf5 cJ4_length_8abf5 1 (some .int) 2 40 f_J4_length_8abf5 :=
  qa_method (pcs := pc_J4_length_8abf5) (by decide +kernel) rfl (fun C hr hn j f hj => by
    match j, hj with
    | 0, hj => obtain rfl := Option.some.inj hj; exact ok_aload_n C rfl dJ4_length_8abf5_0 (ok_callsup C rfl (by decide) (kon_J5_length_8abf5 l hl) (qa_wl [953, 2158, 411, 954, 81, 955] (by decide +kernel) (by decide +kernel)) ⟨by decide +kernel, by decide +kernel⟩ ⟨Nat.le_of_ble_eq_true rfl, Nat.le_of_ble_eq_true rfl⟩ dJ4_length_8abf5_1 (ok_iret C hr dJ4_length_8abf5_4))
    | (_ + 1), hj => exact nomatch hj)
set_option maxRecDepth 100000 in
set_option maxHeartbeats 4000000 in
theorem kon_J5_charAt_5068e (l : Launch) (hl : l.stackTraces = false) : qa_Con l yJ5_charAt_5068e cJ5_charAt_5068e 5 (some .char) 3 63 f_J5_charAt_5068e :=
  qa_method (pcs := pc_J5_charAt_5068e) (by decide +kernel) rfl (fun C hr hn j f hj => by
    match j, hj with
    | 0, hj => obtain rfl := Option.some.inj hj; exact ok_aload_n C rfl dJ5_charAt_5068e_0 (ok_get C kc_J4 (by decide) rfl rfl rfl wd_399 (fun _ h => h) dJ5_charAt_5068e_1 (ok_istore_n C rfl (by decide) dJ5_charAt_5068e_4 (ok_aload_n C rfl dJ5_charAt_5068e_5 (ok_get C kc_J4 (by decide) rfl rfl rfl wd_398 (fun _ h => h) dJ5_charAt_5068e_6 (ok_astore_n C rfl (by decide) dJ5_charAt_5068e_9 (ok_aload_n C rfl dJ5_charAt_5068e_10 (ok_get C kc_J4 (by decide) rfl rfl rfl wd_402 (fun _ h => h) dJ5_charAt_5068e_11 (ok_aload_n C rfl dJ5_charAt_5068e_14 (ok_alen C dJ5_charAt_5068e_15 (ok_iload_n C rfl dJ5_charAt_5068e_16 (ok_ishr C dJ5_charAt_5068e_17 (ok_min C (qa_wl [963, 546, 93, 547] (by decide +kernel) (by decide +kernel)) (Nat.le_of_ble_eq_true rfl) (Nat.le_of_ble_eq_true rfl) dJ5_charAt_5068e_18 (ok_istore C (by decide) dJ5_charAt_5068e_21 (ok_iload_n C rfl dJ5_charAt_5068e_23 (ok_iload C dJ5_charAt_5068e_24 (ok_calls C (kon_J0_checkIndex_df160 l hl) (qa_wl [964, 498, 83, 499] (by decide +kernel) (by decide +kernel)) ⟨by decide +kernel, by decide +kernel, by decide +kernel⟩ ⟨Nat.le_of_ble_eq_true rfl, Nat.le_of_ble_eq_true rfl⟩ dJ5_charAt_5068e_26 (ok_iload_n C rfl dJ5_charAt_5068e_29 (ok_ifne C (T := 1) dJ5_charAt_5068e_30 (by decide) (ok_aload_n C rfl dJ5_charAt_5068e_33 (ok_iload_n C rfl dJ5_charAt_5068e_34 (ok_baload C dJ5_charAt_5068e_35 (ok_sipush C (by decide) dJ5_charAt_5068e_36 (ok_iand C dJ5_charAt_5068e_39 (ok_i2c C dJ5_charAt_5068e_40 (ok_cret C hr dJ5_charAt_5068e_41)))))))))))))))))))))))))
    | 1, hj => obtain rfl := Option.some.inj hj; exact ok_aload_n C rfl dJ5_charAt_5068e_42 (ok_iload_n C rfl dJ5_charAt_5068e_43 (qa_dead))
    | (_ + 2), hj => exact nomatch hj)
set_option maxRecDepth 100000 in
set_option maxHeartbeats 4000000 in
theorem kon_J4_charAt_5068e (l : Launch) (hl : l.stackTraces = false) : qa_Con l yJ4_charAt_5068e cJ4_charAt_5068e 2 (some .char) 4 87 f_J4_charAt_5068e :=
  qa_method (pcs := pc_J4_charAt_5068e) (by decide +kernel) rfl (fun C hr hn j f hj => by
    match j, hj with
    | 0, hj => obtain rfl := Option.some.inj hj; exact ok_aload_n C rfl dJ4_charAt_5068e_0 (ok_iload_n C rfl dJ4_charAt_5068e_1 (ok_callsup C rfl (by decide) (kon_J5_charAt_5068e l hl) (qa_wl [960, 2159, 411, 961, 81, 962] (by decide +kernel) (by decide +kernel)) ⟨by decide +kernel, by decide +kernel⟩ ⟨Nat.le_of_ble_eq_true rfl, Nat.le_of_ble_eq_true rfl⟩ dJ4_charAt_5068e_2 (ok_cret C hr dJ4_charAt_5068e_5)))
    | (_ + 1), hj => exact nomatch hj)
