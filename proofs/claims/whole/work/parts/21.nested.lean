noncomputable def B_X7_init_0 : qI := q_load 1 0 (q_obj (q_load 1 0 (q_const (0, 7) (q_newa 101 0 (q_dup (q_const (0, 0) (q_const (0, 60) (q_ast 101 0 (q_dup (q_const (0, 1) (q_const (0, 120) (q_ast 101 0 (q_dup (q_const (0, 2) (q_const (0, 0) (q_ast 101 0 (q_dup (q_const (0, 3) (q_const (0, 5) (q_ast 101 0 (q_dup (q_const (0, 4) (q_const (0, 2) (q_ast 101 0 (q_dup (q_const (0, 5) (q_const (0, 20) (q_ast 101 0 (q_dup (q_goto 1))))))))))))))))))))))))))))))
noncomputable def B_X7_init_1 : qI := q_const (0, 6) (q_const (0, 0) (q_ast 101 0 (q_put 10 0 1 (q_vret))))
noncomputable def P_X7_init : qP := [B_X7_init_0, B_X7_init_1]
noncomputable def f_X7_init : List qV → qA → Option qR := qa_fn P_X7_init 1
def pc_X7_init : Nat → Nat := fun j => [0, 37].getD j 0
set_option maxRecDepth 100000 in
set_option maxHeartbeats 4000000 in
theorem kon_X7_init (l : Launch) (hl : l.stackTraces = false) : qa_Con l yX7_init cX7_init 1 none 1 20 f_X7_init :=
  qa_method (pcs := pc_X7_init) (by decide +kernel) rfl (fun C hr hn j f hj => by
    match j, hj with
    | 0, hj => obtain rfl := Option.some.inj hj; exact ok_aload_n C rfl dX7_init_0 (ok_obj C (qa_wl [116, 109, 110] (by decide +kernel) (by decide +kernel)) (Nat.le_of_ble_eq_true rfl) (Nat.le_of_ble_eq_true rfl) dX7_init_1 (ok_aload_n C rfl dX7_init_4 (ok_bipush C (by decide) dX7_init_5 (ok_newint C wd_121 dX7_init_7 (ok_dup C dX7_init_9 (ok_iconst C (by decide) dX7_init_10 (ok_bipush C (by decide) dX7_init_11 (ok_iastore C dX7_init_13 (ok_dup C dX7_init_14 (ok_iconst C (by decide) dX7_init_15 (ok_bipush C (by decide) dX7_init_16 (ok_iastore C dX7_init_18 (ok_dup C dX7_init_19 (ok_iconst C (by decide) dX7_init_20 (ok_iconst C (by decide) dX7_init_21 (ok_iastore C dX7_init_22 (ok_dup C dX7_init_23 (ok_iconst C (by decide) dX7_init_24 (ok_iconst C (by decide) dX7_init_25 (ok_iastore C dX7_init_26 (ok_dup C dX7_init_27 (ok_iconst C (by decide) dX7_init_28 (ok_iconst C (by decide) dX7_init_29 (ok_iastore C dX7_init_30 (ok_dup C dX7_init_31 (ok_iconst C (by decide) dX7_init_32 (ok_bipush C (by decide) dX7_init_33 (ok_iastore C dX7_init_35 (ok_dup C dX7_init_36 (ok_fall rfl))))))))))))))))))))))))))))))
    | 1, hj => obtain rfl := Option.some.inj hj; exact ok_bipush C (by decide) dX7_init_37 (ok_iconst C (by decide) dX7_init_39 (ok_iastore C dX7_init_40 (ok_put C kc_X7 (by decide) rfl rfl rfl wd_117 (fun _ h => h) (Or.inr ⟨rfl, hn, rfl⟩) qa_fita dX7_init_41 (ok_vret C hr dX7_init_44))))
    | (_ + 2), hj => exact nomatch hj)
noncomputable def B_X2_init_0 : qI := q_load 1 0 (q_obj (q_load 1 0 (q_const (0, -1) (q_put 5 2 0 (q_load 1 0 (q_const (0, -1) (q_put 5 3 0 (q_load 1 0 (q_const (0, 512) (q_newa (111 + 8) (-1) (q_put 5 8 1 (q_load 1 0 (q_load 0 1 (q_put 5 0 0 (q_vret)))))))))))))))
noncomputable def P_X2_init : qP := [B_X2_init_0]
noncomputable def f_X2_init : List qV → qA → Option qR := qa_fn P_X2_init 2
def pc_X2_init : Nat → Nat := fun j => [0].getD j 0
set_option maxRecDepth 100000 in
set_option maxHeartbeats 4000000 in
theorem kon_X2_init (l : Launch) (hl : l.stackTraces = false) : qa_Con l yX2_init cX2_init 2 none 1 20 f_X2_init :=
  qa_method (pcs := pc_X2_init) (by decide +kernel) rfl (fun C hr hn j f hj => by
    match j, hj with
    | 0, hj => obtain rfl := Option.some.inj hj; exact ok_aload_n C rfl dX2_init_0 (ok_obj C (qa_wl [136, 109, 110] (by decide +kernel) (by decide +kernel)) (Nat.le_of_ble_eq_true rfl) (Nat.le_of_ble_eq_true rfl) dX2_init_1 (ok_aload_n C rfl dX2_init_4 (ok_iconst C (by decide) dX2_init_5 (ok_put C kc_X2 (by decide) rfl rfl rfl wd_146 (fun _ h => h) (Or.inl rfl) qa_fit0 dX2_init_6 (ok_aload_n C rfl dX2_init_9 (ok_iconst C (by decide) dX2_init_10 (ok_put C kc_X2 (by decide) rfl rfl rfl wd_149 (fun _ h => h) (Or.inl rfl) qa_fit0 dX2_init_11 (ok_aload_n C rfl dX2_init_14 (ok_sipush C (by decide) dX2_init_15 (ok_newrefs C rfl wd_137 (by decide) dX2_init_18 (ok_put C kc_X2 (by decide) rfl rfl rfl wd_164 (fun _ h => h) (Or.inr ⟨rfl, hn, rfl⟩) qa_fita dX2_init_21 (ok_aload_n C rfl dX2_init_24 (ok_iload_n C rfl dX2_init_25 (ok_put C kc_X2 (by decide) rfl rfl rfl wd_139 (fun _ h => h) (Or.inr ⟨rfl, hn, rfl⟩) qa_fit0 dX2_init_26 (ok_vret C hr dX2_init_29)))))))))))))))
    | (_ + 1), hj => exact nomatch hj)
noncomputable def B_X3_init_0 : qI := q_load 1 0 (q_obj (q_load 1 0 (q_const (0, -1000) (q_put 6 3 0 (q_load 1 0 (q_const (0, -1000) (q_put 6 4 0 (q_load 1 0 (q_const (0, -1) (q_put 6 5 0 (q_load 1 0 (q_const (0, -1) (q_put 6 6 0 (q_load 1 0 (q_const (0, 10) (q_newa 101 0 (q_put 6 7 1 (q_const (0, 0) (q_store 0 1 (q_goto 1))))))))))))))))))))
noncomputable def B_X3_init_1 : qI := q_load 0 1 (q_load 1 0 (q_get 6 7 1 (q_alen (q_cmpge 2 (q_load 1 0 (q_get 6 7 1 (q_load 0 1 (q_const (0, -1000) (q_ast 101 0 (q_iinc 1 (1) (q_goto 1)))))))))))
noncomputable def B_X3_init_2 : qI := q_vret
noncomputable def P_X3_init : qP := [B_X3_init_0, B_X3_init_1, B_X3_init_2]
noncomputable def f_X3_init : List qV → qA → Option qR := qa_fn P_X3_init 2
def pc_X3_init : Nat → Nat := fun j => [0, 38, 62].getD j 0
set_option maxRecDepth 100000 in
set_option maxHeartbeats 4000000 in
theorem kon_X3_init (l : Launch) (hl : l.stackTraces = false) : qa_Con l yX3_init cX3_init 2 none 1 20 f_X3_init :=
  qa_method (pcs := pc_X3_init) (by decide +kernel) rfl (fun C hr hn j f hj => by
    match j, hj with
    | 0, hj => obtain rfl := Option.some.inj hj; exact ok_aload_n C rfl dX3_init_0 (ok_obj C (qa_wl [194, 109, 110] (by decide +kernel) (by decide +kernel)) (Nat.le_of_ble_eq_true rfl) (Nat.le_of_ble_eq_true rfl) dX3_init_1 (ok_aload_n C rfl dX3_init_4 (ok_sipush C (by decide) dX3_init_5 (ok_put C kc_X3 (by decide) rfl rfl rfl wd_201 (fun _ h => h) (Or.inl rfl) qa_fit0 dX3_init_8 (ok_aload_n C rfl dX3_init_11 (ok_sipush C (by decide) dX3_init_12 (ok_put C kc_X3 (by decide) rfl rfl rfl wd_202 (fun _ h => h) (Or.inl rfl) qa_fit0 dX3_init_15 (ok_aload_n C rfl dX3_init_18 (ok_iconst C (by decide) dX3_init_19 (ok_put C kc_X3 (by decide) rfl rfl rfl wd_203 (fun _ h => h) (Or.inl rfl) qa_fit0 dX3_init_20 (ok_aload_n C rfl dX3_init_23 (ok_iconst C (by decide) dX3_init_24 (ok_put C kc_X3 (by decide) rfl rfl rfl wd_204 (fun _ h => h) (Or.inl rfl) qa_fit0 dX3_init_25 (ok_aload_n C rfl dX3_init_28 (ok_bipush C (by decide) dX3_init_29 (ok_newint C wd_121 dX3_init_31 (ok_put C kc_X3 (by decide) rfl rfl rfl wd_205 (fun _ h => h) (Or.inr ⟨rfl, hn, rfl⟩) qa_fita dX3_init_33 (ok_iconst C (by decide) dX3_init_36 (ok_istore_n C rfl (by decide) dX3_init_37 (ok_fall rfl))))))))))))))))))))
    | 1, hj => obtain rfl := Option.some.inj hj; exact ok_iload_n C rfl dX3_init_38 (ok_aload_n C rfl dX3_init_39 (ok_get C kc_X3 (by decide) rfl rfl rfl wd_205 (fun _ h => h) dX3_init_40 (ok_alen C dX3_init_43 (ok_cmpge C (T := 2) dX3_init_44 (by decide) (ok_aload_n C rfl dX3_init_47 (ok_get C kc_X3 (by decide) rfl rfl rfl wd_205 (fun _ h => h) dX3_init_48 (ok_iload_n C rfl dX3_init_51 (ok_sipush C (by decide) dX3_init_52 (ok_iastore C dX3_init_55 (ok_iinc C (by decide) (by decide) dX3_init_56 (ok_goto C dX3_init_59 (by decide))))))))))))
    | 2, hj => obtain rfl := Option.some.inj hj; exact ok_vret C hr dX3_init_62
    | (_ + 3), hj => exact nomatch hj)
noncomputable def B_X6_init_0 : qI := q_load 1 0 (q_obj (q_load 1 0 (q_const (0, -1) (q_put 9 4 0 (q_load 1 0 (q_new 6 8 z_X3 (q_dup (q_callv 6 f_X3_init 1 (q_put 9 9 1 (q_vret))))))))))
noncomputable def P_X6_init : qP := [B_X6_init_0]
noncomputable def f_X6_init : List qV → qA → Option qR := qa_fn P_X6_init 1
def pc_X6_init : Nat → Nat := fun j => [0].getD j 0
set_option maxRecDepth 100000 in
set_option maxHeartbeats 4000000 in
theorem kon_X6_init (l : Launch) (hl : l.stackTraces = false) : qa_Con l yX6_init cX6_init 1 none 2 41 f_X6_init :=
  qa_method (pcs := pc_X6_init) (by decide +kernel) rfl (fun C hr hn j f hj => by
    match j, hj with
    | 0, hj => obtain rfl := Option.some.inj hj; exact ok_aload_n C rfl dX6_init_0 (ok_obj C (qa_wl [188, 109, 110] (by decide +kernel) (by decide +kernel)) (Nat.le_of_ble_eq_true rfl) (Nat.le_of_ble_eq_true rfl) dX6_init_1 (ok_aload_n C rfl dX6_init_4 (ok_iconst C (by decide) dX6_init_5 (ok_put C kc_X6 (by decide) rfl rfl rfl wd_235 (fun _ h => h) (Or.inl rfl) qa_fit0 dX6_init_6 (ok_aload_n C rfl dX6_init_9 (ok_new C kc_X3 (qa_wl [189, 190, 77] (by decide +kernel) (by decide +kernel)) (zz_X3).1 (zz_X3).2 dX6_init_10 (ok_dup C dX6_init_13 (ok_calli C (kon_X3_init l hl) (by decide) (qa_wl [191, 192, 77, 193] (by decide +kernel) (by decide +kernel)) rfl ⟨by decide +kernel, by decide +kernel, by decide +kernel⟩ ⟨Nat.le_of_ble_eq_true rfl, Nat.le_of_ble_eq_true rfl⟩ dX6_init_14 (ok_put C kc_X6 (by decide) rfl rfl rfl wd_249 (fun _ h => h) (Or.inr ⟨rfl, hn, rfl⟩) qa_fito dX6_init_17 (ok_vret C hr dX6_init_20))))))))))
    | (_ + 1), hj => exact nomatch hj)
noncomputable def B_X9_init_0 : qI := q_load 1 0 (q_obj (q_load 1 0 (q_const (0, 4) (q_newa 101 0 (q_put 12 2 1 (q_load 1 0 (q_const (0, 4) (q_newa (111 + 5) (-1) (q_put 12 3 1 (q_load 1 0 (q_const (0, 6) (q_newa (111 + 9) (-1) (q_put 12 4 1 (q_const (0, 0) (q_store 0 1 (q_goto 1))))))))))))))))
noncomputable def B_X9_init_1 : qI := q_load 0 1 (q_load 1 0 (q_get 12 3 1 (q_alen (q_cmpge 2 (q_load 1 0 (q_get 12 3 1 (q_load 0 1 (q_new 5 9 z_X2 (q_dup (q_load 0 1 (q_callv 5 f_X2_init 2 (q_aast 5 (q_iinc 1 (1) (q_goto 1))))))))))))))
noncomputable def B_X9_init_2 : qI := q_const (0, 0) (q_store 0 1 (q_goto 3))
noncomputable def B_X9_init_3 : qI := q_load 0 1 (q_load 1 0 (q_get 12 4 1 (q_alen (q_cmpge 4 (q_load 1 0 (q_get 12 4 1 (q_load 0 1 (q_new 9 10 z_X6 (q_dup (q_callv 9 f_X6_init 1 (q_aast 9 (q_iinc 1 (1) (q_goto 3)))))))))))))
noncomputable def B_X9_init_4 : qI := q_vret
noncomputable def P_X9_init : qP := [B_X9_init_0, B_X9_init_1, B_X9_init_2, B_X9_init_3, B_X9_init_4]
noncomputable def f_X9_init : List qV → qA → Option qR := qa_fn P_X9_init 2
def pc_X9_init : Nat → Nat := fun j => [0, 30, 59, 61, 89].getD j 0
set_option maxRecDepth 100000 in
set_option maxHeartbeats 4000000 in
theorem kon_X9_init (l : Launch) (hl : l.stackTraces = false) : qa_Con l yX9_init cX9_init 2 none 3 61 f_X9_init :=
  qa_method (pcs := pc_X9_init) (by decide +kernel) rfl (fun C hr hn j f hj => by
    match j, hj with
    | 0, hj => obtain rfl := Option.some.inj hj; exact ok_aload_n C rfl dX9_init_0 (ok_obj C (qa_wl [127, 109, 110] (by decide +kernel) (by decide +kernel)) (Nat.le_of_ble_eq_true rfl) (Nat.le_of_ble_eq_true rfl) dX9_init_1 (ok_aload_n C rfl dX9_init_4 (ok_iconst C (by decide) dX9_init_5 (ok_newint C wd_121 dX9_init_6 (ok_put C kc_X9 (by decide) rfl rfl rfl wd_278 (fun _ h => h) (Or.inr ⟨rfl, hn, rfl⟩) qa_fita dX9_init_8 (ok_aload_n C rfl dX9_init_11 (ok_iconst C (by decide) dX9_init_12 (ok_newrefs C rfl wd_128 (by decide) dX9_init_13 (ok_put C kc_X9 (by decide) rfl rfl rfl wd_279 (fun _ h => h) (Or.inr ⟨rfl, hn, rfl⟩) qa_fita dX9_init_16 (ok_aload_n C rfl dX9_init_19 (ok_bipush C (by decide) dX9_init_20 (ok_newrefs C rfl wd_130 (by decide) dX9_init_22 (ok_put C kc_X9 (by decide) rfl rfl rfl wd_280 (fun _ h => h) (Or.inr ⟨rfl, hn, rfl⟩) qa_fita dX9_init_25 (ok_iconst C (by decide) dX9_init_28 (ok_istore_n C rfl (by decide) dX9_init_29 (ok_fall rfl))))))))))))))))
    | 1, hj => obtain rfl := Option.some.inj hj; exact ok_iload_n C rfl dX9_init_30 (ok_aload_n C rfl dX9_init_31 (ok_get C kc_X9 (by decide) rfl rfl rfl wd_279 (fun _ h => h) dX9_init_32 (ok_alen C dX9_init_35 (ok_cmpge C (T := 2) dX9_init_36 (by decide) (ok_aload_n C rfl dX9_init_39 (ok_get C kc_X9 (by decide) rfl rfl rfl wd_279 (fun _ h => h) dX9_init_40 (ok_iload_n C rfl dX9_init_43 (ok_new C kc_X2 (qa_wl [128, 132, 75] (by decide +kernel) (by decide +kernel)) (zz_X2).1 (zz_X2).2 dX9_init_44 (ok_dup C dX9_init_47 (ok_iload_n C rfl dX9_init_48 (ok_calli C (kon_X2_init l hl) (by decide) (qa_wl [133, 134, 75, 135] (by decide +kernel) (by decide +kernel)) rfl ⟨by decide +kernel, by decide +kernel, by decide +kernel⟩ ⟨Nat.le_of_ble_eq_true rfl, Nat.le_of_ble_eq_true rfl⟩ dX9_init_49 (ok_aastore C rfl (by decide) dX9_init_52 (ok_iinc C (by decide) (by decide) dX9_init_53 (ok_goto C dX9_init_56 (by decide)))))))))))))))
    | 2, hj => obtain rfl := Option.some.inj hj; exact ok_iconst C (by decide) dX9_init_59 (ok_istore_n C rfl (by decide) dX9_init_60 (ok_fall rfl))
    | 3, hj => obtain rfl := Option.some.inj hj; exact ok_iload_n C rfl dX9_init_61 (ok_aload_n C rfl dX9_init_62 (ok_get C kc_X9 (by decide) rfl rfl rfl wd_280 (fun _ h => h) dX9_init_63 (ok_alen C dX9_init_66 (ok_cmpge C (T := 4) dX9_init_67 (by decide) (ok_aload_n C rfl dX9_init_70 (ok_get C kc_X9 (by decide) rfl rfl rfl wd_280 (fun _ h => h) dX9_init_71 (ok_iload_n C rfl dX9_init_74 (ok_new C kc_X6 (qa_wl [130, 184, 76] (by decide +kernel) (by decide +kernel)) (zz_X6).1 (zz_X6).2 dX9_init_75 (ok_dup C dX9_init_78 (ok_callin C (host := "PromiseLog") (kon_X6_init l hl) (by decide) (by decide +kernel) (qa_wl [186, 76, 187] (by decide +kernel) (by decide +kernel)) rfl ⟨by decide +kernel, by decide +kernel, by decide +kernel⟩ ⟨Nat.le_of_ble_eq_true rfl, Nat.le_of_ble_eq_true rfl⟩ dX9_init_79 (ok_aastore C rfl (by decide) dX9_init_82 (ok_iinc C (by decide) (by decide) dX9_init_83 (ok_goto C dX9_init_86 (by decide))))))))))))))
    | 4, hj => obtain rfl := Option.some.inj hj; exact ok_vret C hr dX9_init_89
    | (_ + 5), hj => exact nomatch hj)
noncomputable def B_X1_init_0 : qI := q_load 1 0 (q_obj (q_load 1 0 (q_const (0, 11) (q_newa 101 0 (q_put 4 0 1 (q_load 1 0 (q_const (0, 8) (q_newa (111 + 12) (-1) (q_put 4 1 1 (q_vret))))))))))
noncomputable def P_X1_init : qP := [B_X1_init_0]
noncomputable def f_X1_init : List qV → qA → Option qR := qa_fn P_X1_init 1
def pc_X1_init : Nat → Nat := fun j => [0].getD j 0
set_option maxRecDepth 100000 in
set_option maxHeartbeats 4000000 in
theorem kon_X1_init (l : Launch) (hl : l.stackTraces = false) : qa_Con l yX1_init cX1_init 1 none 1 20 f_X1_init :=
  qa_method (pcs := pc_X1_init) (by decide +kernel) rfl (fun C hr hn j f hj => by
    match j, hj with
    | 0, hj => obtain rfl := Option.some.inj hj; exact ok_aload_n C rfl dX1_init_0 (ok_obj C (qa_wl [298, 109, 110] (by decide +kernel) (by decide +kernel)) (Nat.le_of_ble_eq_true rfl) (Nat.le_of_ble_eq_true rfl) dX1_init_1 (ok_aload_n C rfl dX1_init_4 (ok_bipush C (by decide) dX1_init_5 (ok_newint C wd_121 dX1_init_7 (ok_put C kc_X1 (by decide) rfl rfl rfl wd_300 (fun _ h => h) (Or.inr ⟨rfl, hn, rfl⟩) qa_fita dX1_init_9 (ok_aload_n C rfl dX1_init_12 (ok_bipush C (by decide) dX1_init_13 (ok_newrefs C rfl wd_299 (by decide) dX1_init_15 (ok_put C kc_X1 (by decide) rfl rfl rfl wd_301 (fun _ h => h) (Or.inr ⟨rfl, hn, rfl⟩) qa_fita dX1_init_18 (ok_vret C hr dX1_init_21))))))))))
    | (_ + 1), hj => exact nomatch hj)
noncomputable def B_X4_init_0 : qI := q_load 1 0 (q_obj (q_load 1 0 (q_new 6 8 z_X3 (q_dup (q_callv 6 f_X3_init 1 (q_put 7 1 1 (q_load 1 0 (q_const (0, 99) (q_newa (111 + 8) (-1) (q_put 7 4 1 (q_vret)))))))))))
noncomputable def P_X4_init : qP := [B_X4_init_0]
noncomputable def f_X4_init : List qV → qA → Option qR := qa_fn P_X4_init 1
def pc_X4_init : Nat → Nat := fun j => [0].getD j 0
set_option maxRecDepth 100000 in
set_option maxHeartbeats 4000000 in
theorem kon_X4_init (l : Launch) (hl : l.stackTraces = false) : qa_Con l yX4_init cX4_init 1 none 2 41 f_X4_init :=
  qa_method (pcs := pc_X4_init) (by decide +kernel) rfl (fun C hr hn j f hj => by
    match j, hj with
    | 0, hj => obtain rfl := Option.some.inj hj; exact ok_aload_n C rfl dX4_init_0 (ok_obj C (qa_wl [316, 109, 110] (by decide +kernel) (by decide +kernel)) (Nat.le_of_ble_eq_true rfl) (Nat.le_of_ble_eq_true rfl) dX4_init_1 (ok_aload_n C rfl dX4_init_4 (ok_new C kc_X3 (qa_wl [317, 190, 77] (by decide +kernel) (by decide +kernel)) (zz_X3).1 (zz_X3).2 dX4_init_5 (ok_dup C dX4_init_8 (ok_calli C (kon_X3_init l hl) (by decide) (qa_wl [318, 192, 77, 193] (by decide +kernel) (by decide +kernel)) rfl ⟨by decide +kernel, by decide +kernel, by decide +kernel⟩ ⟨Nat.le_of_ble_eq_true rfl, Nat.le_of_ble_eq_true rfl⟩ dX4_init_9 (ok_put C kc_X4 (by decide) rfl rfl rfl wd_321 (fun _ h => h) (Or.inr ⟨rfl, hn, rfl⟩) qa_fito dX4_init_12 (ok_aload_n C rfl dX4_init_15 (ok_bipush C (by decide) dX4_init_16 (ok_newrefs C rfl wd_319 (by decide) dX4_init_18 (ok_put C kc_X4 (by decide) rfl rfl rfl wd_324 (fun _ h => h) (Or.inr ⟨rfl, hn, rfl⟩) qa_fita dX4_init_21 (ok_vret C hr dX4_init_24)))))))))))
    | (_ + 1), hj => exact nomatch hj)
noncomputable def B_X8_init_0 : qI := q_load 1 0 (q_obj (q_load 1 0 (q_const (0, 700) (q_newa 102 0 (q_put 11 0 1 (q_load 1 0 (q_const (0, 60) (q_newa 110 (-1) (q_put 11 2 1 (q_load 1 0 (q_const (0, 240) (q_newa 101 0 (q_put 11 3 1 (q_load 1 0 (q_const (0, -1) (q_put 11 6 0 (q_vret)))))))))))))))))
noncomputable def P_X8_init : qP := [B_X8_init_0]
noncomputable def f_X8_init : List qV → qA → Option qR := qa_fn P_X8_init 1
def pc_X8_init : Nat → Nat := fun j => [0].getD j 0
set_option maxRecDepth 100000 in
set_option maxHeartbeats 4000000 in
theorem kon_X8_init (l : Launch) (hl : l.stackTraces = false) : qa_Con l yX8_init cX8_init 1 none 1 20 f_X8_init :=
  qa_method (pcs := pc_X8_init) (by decide +kernel) rfl (fun C hr hn j f hj => by
    match j, hj with
    | 0, hj => obtain rfl := Option.some.inj hj; exact ok_aload_n C rfl dX8_init_0 (ok_obj C (qa_wl [341, 109, 110] (by decide +kernel) (by decide +kernel)) (Nat.le_of_ble_eq_true rfl) (Nat.le_of_ble_eq_true rfl) dX8_init_1 (ok_aload_n C rfl dX8_init_4 (ok_sipush C (by decide) dX8_init_5 (ok_newbyte C wd_379 dX8_init_8 (ok_put C kc_X8 (by decide) rfl rfl rfl wd_344 (fun _ h => h) (Or.inr ⟨rfl, hn, rfl⟩) qa_fita dX8_init_10 (ok_aload_n C rfl dX8_init_13 (ok_bipush C (by decide) dX8_init_14 (ok_newverbs C wd_342 dX8_init_16 (ok_put C kc_X8 (by decide) rfl rfl rfl wd_347 (fun _ h => h) (Or.inr ⟨rfl, hn, rfl⟩) qa_fita dX8_init_19 (ok_aload_n C rfl dX8_init_22 (ok_sipush C (by decide) dX8_init_23 (ok_newint C wd_121 dX8_init_26 (ok_put C kc_X8 (by decide) rfl rfl rfl wd_348 (fun _ h => h) (Or.inr ⟨rfl, hn, rfl⟩) qa_fita dX8_init_28 (ok_aload_n C rfl dX8_init_31 (ok_iconst C (by decide) dX8_init_32 (ok_put C kc_X8 (by decide) rfl rfl rfl wd_353 (fun _ h => h) (Or.inl rfl) qa_fit0 dX8_init_33 (ok_vret C hr dX8_init_36)))))))))))))))))
    | (_ + 1), hj => exact nomatch hj)
noncomputable def B_X9_begin_0 : qI := q_load 1 0 (q_get 12 3 1 (q_const (0, 0) (q_ald (111 + 5) 1 (q_const (0, 1) (q_putz 5 1 (q_vret))))))
noncomputable def P_X9_begin : qP := [B_X9_begin_0]
noncomputable def f_X9_begin : List qV → qA → Option qR := qa_fn P_X9_begin 1
def pc_X9_begin : Nat → Nat := fun j => [0].getD j 0
set_option maxRecDepth 100000 in
set_option maxHeartbeats 4000000 in
theorem kon_X9_begin (l : Launch) (hl : l.stackTraces = false) : qa_Con l yX9_begin cX9_begin 1 none 1 20 f_X9_begin :=
  qa_method (pcs := pc_X9_begin) (by decide +kernel) rfl (fun C hr hn j f hj => by
    match j, hj with
    | 0, hj => obtain rfl := Option.some.inj hj; exact ok_aload_n C rfl dX9_begin_0 (ok_get C kc_X9 (by decide) rfl rfl rfl wd_279 (fun _ h => h) dX9_begin_1 (ok_iconst C (by decide) dX9_begin_4 (ok_aaload C dX9_begin_5 (ok_iconst C (by decide) dX9_begin_6 (ok_putz C kc_X2 (by decide) rfl rfl rfl wd_143 (fun _ h => h) (Or.inl rfl) dX9_begin_7 (ok_vret C hr dX9_begin_10))))))
    | (_ + 1), hj => exact nomatch hj)
noncomputable def B_X8_hasRoomForFour_0 : qI := q_load 1 0 (q_get 11 1 0 (q_const (0, 696) (q_cmpgt 1 (q_const (0, 1) (q_goto 2)))))
noncomputable def B_X8_hasRoomForFour_1 : qI := q_const (0, 0) (q_goto 2)
noncomputable def B_X8_hasRoomForFour_2 : qI := q_retz
noncomputable def P_X8_hasRoomForFour : qP := [B_X8_hasRoomForFour_0, B_X8_hasRoomForFour_1, B_X8_hasRoomForFour_2]
noncomputable def f_X8_hasRoomForFour : List qV → qA → Option qR := qa_fn P_X8_hasRoomForFour 1
def pc_X8_hasRoomForFour : Nat → Nat := fun j => [0, 14, 15].getD j 0
set_option maxRecDepth 100000 in
set_option maxHeartbeats 4000000 in
theorem kon_X8_hasRoomForFour (l : Launch) (hl : l.stackTraces = false) : qa_Con l yX8_hasRoomForFour cX8_hasRoomForFour 1 (some .boolean) 1 20 f_X8_hasRoomForFour :=
  qa_method (pcs := pc_X8_hasRoomForFour) (by decide +kernel) rfl (fun C hr hn j f hj => by
    match j, hj with
    | 0, hj => obtain rfl := Option.some.inj hj; exact ok_aload_n C rfl dX8_hasRoomForFour_0 (ok_get C kc_X8 (by decide) rfl rfl rfl wd_345 (fun _ h => h) dX8_hasRoomForFour_1 (ok_sipush C (by decide) dX8_hasRoomForFour_4 (ok_cmpgt C (T := 1) dX8_hasRoomForFour_7 (by decide) (ok_iconst C (by decide) dX8_hasRoomForFour_10 (ok_goto C dX8_hasRoomForFour_11 (by decide))))))
    | 1, hj => obtain rfl := Option.some.inj hj; exact ok_iconst C (by decide) dX8_hasRoomForFour_14 (ok_fall rfl)
    | 2, hj => obtain rfl := Option.some.inj hj; exact ok_zret C hr dX8_hasRoomForFour_15
    | (_ + 3), hj => exact nomatch hj)
noncomputable def B_X8_addFour_0 : qI := q_const (0, 24) (q_store 0 2 (q_goto 1))
noncomputable def B_X8_addFour_1 : qI := q_load 0 2 (q_iflt 3 (q_load 1 0 (q_get 11 1 0 (q_iflt 2 (q_load 1 0 (q_get 11 1 0 (q_load 1 0 (q_get 11 0 1 (q_alen (q_cmpge 2 (q_load 1 0 (q_get 11 0 1 (q_load 1 0 (q_get 11 1 0 (q_load 0 1 (q_load 0 2 (q_iushr (q_i2b (q_bast (q_load 1 0 (q_dup (q_get 11 1 0 (q_const (0, 1) (q_iadd (q_put 11 1 0 (q_goto 2))))))))))))))))))))))))))
noncomputable def B_X8_addFour_2 : qI := q_iinc 2 (-8) (q_goto 1)
noncomputable def B_X8_addFour_3 : qI := q_load 1 0 (q_get 11 1 0 (q_ret 0))
noncomputable def P_X8_addFour : qP := [B_X8_addFour_0, B_X8_addFour_1, B_X8_addFour_2, B_X8_addFour_3]
noncomputable def f_X8_addFour : List qV → qA → Option qR := qa_fn P_X8_addFour 3
def pc_X8_addFour : Nat → Nat := fun j => [0, 3, 49, 55].getD j 0
set_option maxRecDepth 100000 in
set_option maxHeartbeats 4000000 in
theorem kon_X8_addFour (l : Launch) (hl : l.stackTraces = false) : qa_Con l yX8_addFour cX8_addFour 3 (some .int) 1 20 f_X8_addFour :=
  qa_method (pcs := pc_X8_addFour) (by decide +kernel) rfl (fun C hr hn j f hj => by
    match j, hj with
    | 0, hj => obtain rfl := Option.some.inj hj; exact ok_bipush C (by decide) dX8_addFour_0 (ok_istore_n C rfl (by decide) dX8_addFour_2 (ok_fall rfl))
    | 1, hj => obtain rfl := Option.some.inj hj; exact ok_iload_n C rfl dX8_addFour_3 (ok_iflt C (T := 3) dX8_addFour_4 (by decide) (ok_aload_n C rfl dX8_addFour_7 (ok_get C kc_X8 (by decide) rfl rfl rfl wd_345 (fun _ h => h) dX8_addFour_8 (ok_iflt C (T := 2) dX8_addFour_11 (by decide) (ok_aload_n C rfl dX8_addFour_14 (ok_get C kc_X8 (by decide) rfl rfl rfl wd_345 (fun _ h => h) dX8_addFour_15 (ok_aload_n C rfl dX8_addFour_18 (ok_get C kc_X8 (by decide) rfl rfl rfl wd_344 (fun _ h => h) dX8_addFour_19 (ok_alen C dX8_addFour_22 (ok_cmpge C (T := 2) dX8_addFour_23 (by decide) (ok_aload_n C rfl dX8_addFour_26 (ok_get C kc_X8 (by decide) rfl rfl rfl wd_344 (fun _ h => h) dX8_addFour_27 (ok_aload_n C rfl dX8_addFour_30 (ok_get C kc_X8 (by decide) rfl rfl rfl wd_345 (fun _ h => h) dX8_addFour_31 (ok_iload_n C rfl dX8_addFour_34 (ok_iload_n C rfl dX8_addFour_35 (ok_iushr C dX8_addFour_36 (ok_i2b C dX8_addFour_37 (ok_bastore C dX8_addFour_38 (ok_aload_n C rfl dX8_addFour_39 (ok_dup C dX8_addFour_40 (ok_get C kc_X8 (by decide) rfl rfl rfl wd_345 (fun _ h => h) dX8_addFour_41 (ok_iconst C (by decide) dX8_addFour_44 (ok_iadd C dX8_addFour_45 (ok_put C kc_X8 (by decide) rfl rfl rfl wd_345 (fun _ h => h) (Or.inl rfl) qa_fit0 dX8_addFour_46 (ok_fall rfl))))))))))))))))))))))))))
    | 2, hj => obtain rfl := Option.some.inj hj; exact ok_iinc C (by decide) (by decide) dX8_addFour_49 (ok_goto C dX8_addFour_52 (by decide))
    | 3, hj => obtain rfl := Option.some.inj hj; exact ok_aload_n C rfl dX8_addFour_55 (ok_get C kc_X8 (by decide) rfl rfl rfl wd_345 (fun _ h => h) dX8_addFour_56 (ok_iret C hr dX8_addFour_59))
    | (_ + 4), hj => exact nomatch hj)
noncomputable def B_X8_byteAt_0 : qI := q_load 0 1 (q_iflt 1 (q_load 0 1 (q_load 1 0 (q_get 11 1 0 (q_cmpge 1 (q_load 0 1 (q_load 1 0 (q_get 11 0 1 (q_alen (q_cmpge 1 (q_load 1 0 (q_get 11 0 1 (q_load 0 1 (q_ald 102 0 (q_const (0, 255) (q_iand (q_goto 2)))))))))))))))))
noncomputable def B_X8_byteAt_1 : qI := q_const (0, -1) (q_goto 2)
noncomputable def B_X8_byteAt_2 : qI := q_ret 0
noncomputable def P_X8_byteAt : qP := [B_X8_byteAt_0, B_X8_byteAt_1, B_X8_byteAt_2]
noncomputable def f_X8_byteAt : List qV → qA → Option qR := qa_fn P_X8_byteAt 2
def pc_X8_byteAt : Nat → Nat := fun j => [0, 34, 35].getD j 0
set_option maxRecDepth 100000 in
set_option maxHeartbeats 4000000 in
theorem kon_X8_byteAt (l : Launch) (hl : l.stackTraces = false) : qa_Con l yX8_byteAt cX8_byteAt 2 (some .int) 1 20 f_X8_byteAt :=
  qa_method (pcs := pc_X8_byteAt) (by decide +kernel) rfl (fun C hr hn j f hj => by
    match j, hj with
    | 0, hj => obtain rfl := Option.some.inj hj; exact ok_iload_n C rfl dX8_byteAt_0 (ok_iflt C (T := 1) dX8_byteAt_1 (by decide) (ok_iload_n C rfl dX8_byteAt_4 (ok_aload_n C rfl dX8_byteAt_5 (ok_get C kc_X8 (by decide) rfl rfl rfl wd_345 (fun _ h => h) dX8_byteAt_6 (ok_cmpge C (T := 1) dX8_byteAt_9 (by decide) (ok_iload_n C rfl dX8_byteAt_12 (ok_aload_n C rfl dX8_byteAt_13 (ok_get C kc_X8 (by decide) rfl rfl rfl wd_344 (fun _ h => h) dX8_byteAt_14 (ok_alen C dX8_byteAt_17 (ok_cmpge C (T := 1) dX8_byteAt_18 (by decide) (ok_aload_n C rfl dX8_byteAt_21 (ok_get C kc_X8 (by decide) rfl rfl rfl wd_344 (fun _ h => h) dX8_byteAt_22 (ok_iload_n C rfl dX8_byteAt_25 (ok_baload C dX8_byteAt_26 (ok_sipush C (by decide) dX8_byteAt_27 (ok_iand C dX8_byteAt_30 (ok_goto C dX8_byteAt_31 (by decide))))))))))))))))))
    | 1, hj => obtain rfl := Option.some.inj hj; exact ok_iconst C (by decide) dX8_byteAt_34 (ok_fall rfl)
    | 2, hj => obtain rfl := Option.some.inj hj; exact ok_iret C hr dX8_byteAt_35
    | (_ + 3), hj => exact nomatch hj)
noncomputable def B_X8_isBlank_0 : qI := q_load 0 0 (q_const (0, 32) (q_cmpeq 1 (q_load 0 0 (q_const (0, 10) (q_cmpne 2 (q_goto 1))))))
noncomputable def B_X8_isBlank_1 : qI := q_const (0, 1) (q_goto 3)
noncomputable def B_X8_isBlank_2 : qI := q_const (0, 0) (q_goto 3)
noncomputable def B_X8_isBlank_3 : qI := q_retz
noncomputable def P_X8_isBlank : qP := [B_X8_isBlank_0, B_X8_isBlank_1, B_X8_isBlank_2, B_X8_isBlank_3]
noncomputable def f_X8_isBlank : List qV → qA → Option qR := qa_fn P_X8_isBlank 1
def pc_X8_isBlank : Nat → Nat := fun j => [0, 12, 16, 17].getD j 0
set_option maxRecDepth 100000 in
set_option maxHeartbeats 4000000 in
theorem kon_X8_isBlank (l : Launch) (hl : l.stackTraces = false) : qa_Con l yX8_isBlank cX8_isBlank 1 (some .boolean) 1 20 f_X8_isBlank :=
  qa_method (pcs := pc_X8_isBlank) (by decide +kernel) rfl (fun C hr hn j f hj => by
    match j, hj with
    | 0, hj => obtain rfl := Option.some.inj hj; exact ok_iload_n C rfl dX8_isBlank_0 (ok_bipush C (by decide) dX8_isBlank_1 (ok_cmpeq C (T := 1) dX8_isBlank_3 (by decide) (ok_iload_n C rfl dX8_isBlank_6 (ok_bipush C (by decide) dX8_isBlank_7 (ok_cmpne C (T := 2) dX8_isBlank_9 (by decide) (ok_fall rfl))))))
    | 1, hj => obtain rfl := Option.some.inj hj; exact ok_iconst C (by decide) dX8_isBlank_12 (ok_goto C dX8_isBlank_13 (by decide))
    | 2, hj => obtain rfl := Option.some.inj hj; exact ok_iconst C (by decide) dX8_isBlank_16 (ok_fall rfl)
    | 3, hj => obtain rfl := Option.some.inj hj; exact ok_zret C hr dX8_isBlank_17
    | (_ + 4), hj => exact nomatch hj)
noncomputable def B_X8_kindOf_0 : qI := q_load 0 0 (q_const (0, -1) (q_cmpne 1 (q_const (0, 0) (q_ret 0))))
noncomputable def B_X8_kindOf_1 : qI := q_load 0 0 (q_const (0, 97) (q_cmplt 2 (q_load 0 0 (q_const (0, 122) (q_cmpgt 2 (q_const (0, 1) (q_ret 0)))))))
noncomputable def B_X8_kindOf_2 : qI := q_load 0 0 (q_const (0, 48) (q_cmplt 3 (q_load 0 0 (q_const (0, 57) (q_cmpgt 3 (q_const (0, 2) (q_ret 0)))))))
noncomputable def B_X8_kindOf_3 : qI := q_load 0 0 (q_const (0, 45) (q_cmpne 4 (q_const (0, 3) (q_ret 0))))
noncomputable def B_X8_kindOf_4 : qI := q_load 0 0 (q_const (0, 59) (q_cmpne 5 (q_const (0, 4) (q_goto 6))))
noncomputable def B_X8_kindOf_5 : qI := q_const (0, 5) (q_goto 6)
noncomputable def B_X8_kindOf_6 : qI := q_ret 0
noncomputable def P_X8_kindOf : qP := [B_X8_kindOf_0, B_X8_kindOf_1, B_X8_kindOf_2, B_X8_kindOf_3, B_X8_kindOf_4, B_X8_kindOf_5, B_X8_kindOf_6]
noncomputable def f_X8_kindOf : List qV → qA → Option qR := qa_fn P_X8_kindOf 1
def pc_X8_kindOf : Nat → Nat := fun j => [0, 7, 21, 35, 43, 53, 54].getD j 0
set_option maxRecDepth 100000 in
set_option maxHeartbeats 4000000 in
theorem kon_X8_kindOf (l : Launch) (hl : l.stackTraces = false) : qa_Con l yX8_kindOf cX8_kindOf 1 (some .int) 1 20 f_X8_kindOf :=
  qa_method (pcs := pc_X8_kindOf) (by decide +kernel) rfl (fun C hr hn j f hj => by
    match j, hj with
    | 0, hj => obtain rfl := Option.some.inj hj; exact ok_iload_n C rfl dX8_kindOf_0 (ok_iconst C (by decide) dX8_kindOf_1 (ok_cmpne C (T := 1) dX8_kindOf_2 (by decide) (ok_iconst C (by decide) dX8_kindOf_5 (ok_iret C hr dX8_kindOf_6))))
    | 1, hj => obtain rfl := Option.some.inj hj; exact ok_iload_n C rfl dX8_kindOf_7 (ok_bipush C (by decide) dX8_kindOf_8 (ok_cmplt C (T := 2) dX8_kindOf_10 (by decide) (ok_iload_n C rfl dX8_kindOf_13 (ok_bipush C (by decide) dX8_kindOf_14 (ok_cmpgt C (T := 2) dX8_kindOf_16 (by decide) (ok_iconst C (by decide) dX8_kindOf_19 (ok_iret C hr dX8_kindOf_20)))))))
    | 2, hj => obtain rfl := Option.some.inj hj; exact ok_iload_n C rfl dX8_kindOf_21 (ok_bipush C (by decide) dX8_kindOf_22 (ok_cmplt C (T := 3) dX8_kindOf_24 (by decide) (ok_iload_n C rfl dX8_kindOf_27 (ok_bipush C (by decide) dX8_kindOf_28 (ok_cmpgt C (T := 3) dX8_kindOf_30 (by decide) (ok_iconst C (by decide) dX8_kindOf_33 (ok_iret C hr dX8_kindOf_34)))))))
    | 3, hj => obtain rfl := Option.some.inj hj; exact ok_iload_n C rfl dX8_kindOf_35 (ok_bipush C (by decide) dX8_kindOf_36 (ok_cmpne C (T := 4) dX8_kindOf_38 (by decide) (ok_iconst C (by decide) dX8_kindOf_41 (ok_iret C hr dX8_kindOf_42))))
    | 4, hj => obtain rfl := Option.some.inj hj; exact ok_iload_n C rfl dX8_kindOf_43 (ok_bipush C (by decide) dX8_kindOf_44 (ok_cmpne C (T := 5) dX8_kindOf_46 (by decide) (ok_iconst C (by decide) dX8_kindOf_49 (ok_goto C dX8_kindOf_50 (by decide)))))
    | 5, hj => obtain rfl := Option.some.inj hj; exact ok_iconst C (by decide) dX8_kindOf_53 (ok_fall rfl)
    | 6, hj => obtain rfl := Option.some.inj hj; exact ok_iret C hr dX8_kindOf_54
    | (_ + 7), hj => exact nomatch hj)
noncomputable def B_X8_next_0 : qI := q_load 1 0 (q_get 11 9 0 (q_store 0 1 (q_goto 1)))
noncomputable def B_X8_next_1 : qI := q_load 0 1 (q_load 1 0 (q_get 11 1 0 (q_cmpge 2 (q_load 1 0 (q_load 0 1 (q_callv 11 f_X8_byteAt 2 (q_call f_X8_isBlank 1 (q_ifeq 2 (q_iinc 1 (1) (q_goto 1))))))))))
noncomputable def B_X8_next_2 : qI := q_load 1 0 (q_load 0 1 (q_put 11 8 0 (q_load 1 0 (q_load 1 0 (q_load 0 1 (q_callv 11 f_X8_byteAt 2 (q_call f_X8_kindOf 1 (q_put 11 7 0 (q_load 1 0 (q_load 0 1 (q_load 1 0 (q_get 11 1 0 (q_cmpge 3 (q_load 0 1 (q_const (0, 1) (q_iadd (q_goto 4)))))))))))))))))
noncomputable def B_X8_next_3 : qI := q_load 0 1 (q_goto 4)
noncomputable def B_X8_next_4 : qI := q_put 11 9 0 (q_load 1 0 (q_get 11 7 0 (q_const (0, 1) (q_cmpeq 5 (q_load 1 0 (q_get 11 7 0 (q_const (0, 2) (q_cmpne 6 (q_goto 5)))))))))
noncomputable def B_X8_next_5 : qI := q_const (0, 1) (q_goto 7)
noncomputable def B_X8_next_6 : qI := q_const (0, 0) (q_goto 7)
noncomputable def B_X8_next_7 : qI := q_store 0 2 (q_goto 8)
noncomputable def B_X8_next_8 : qI := q_load 0 2 (q_ifeq 9 (q_load 1 0 (q_get 11 9 0 (q_load 1 0 (q_get 11 1 0 (q_cmpge 9 (q_load 1 0 (q_load 1 0 (q_get 11 9 0 (q_callv 11 f_X8_byteAt 2 (q_call f_X8_kindOf 1 (q_load 1 0 (q_get 11 7 0 (q_cmpne 9 (q_load 1 0 (q_dup (q_get 11 9 0 (q_const (0, 1) (q_iadd (q_put 11 9 0 (q_goto 8)))))))))))))))))))))
noncomputable def B_X8_next_9 : qI := q_vret
noncomputable def P_X8_next : qP := [B_X8_next_0, B_X8_next_1, B_X8_next_2, B_X8_next_3, B_X8_next_4, B_X8_next_5, B_X8_next_6, B_X8_next_7, B_X8_next_8, B_X8_next_9]
noncomputable def f_X8_next : List qV → qA → Option qR := qa_fn P_X8_next 3
def pc_X8_next : Nat → Nat := fun j => [0, 5, 30, 62, 63, 82, 86, 87, 88, 134].getD j 0
set_option maxRecDepth 100000 in
set_option maxHeartbeats 4000000 in
theorem kon_X8_next (l : Launch) (hl : l.stackTraces = false) : qa_Con l yX8_next cX8_next 3 none 2 41 f_X8_next :=
  qa_method (pcs := pc_X8_next) (by decide +kernel) rfl (fun C hr hn j f hj => by
    match j, hj with
    | 0, hj => obtain rfl := Option.some.inj hj; exact ok_aload_n C rfl dX8_next_0 (ok_get C kc_X8 (by decide) rfl rfl rfl wd_357 (fun _ h => h) dX8_next_1 (ok_istore_n C rfl (by decide) dX8_next_4 (ok_fall rfl)))
    | 1, hj => obtain rfl := Option.some.inj hj; exact ok_iload_n C rfl dX8_next_5 (ok_aload_n C rfl dX8_next_6 (ok_get C kc_X8 (by decide) rfl rfl rfl wd_345 (fun _ h => h) dX8_next_7 (ok_cmpge C (T := 2) dX8_next_10 (by decide) (ok_aload_n C rfl dX8_next_13 (ok_iload_n C rfl dX8_next_14 (ok_callv C rfl (by decide) (kon_X8_byteAt l hl) (qa_wl [453, 454, 455, 80, 456] (by decide +kernel) (by decide +kernel)) ⟨rfl, by decide +kernel, by decide +kernel, by decide +kernel⟩ ⟨Nat.le_of_ble_eq_true rfl, Nat.le_of_ble_eq_true rfl⟩ dX8_next_15 (ok_calls C (kon_X8_isBlank l hl) (qa_wl [457, 458, 80, 459] (by decide +kernel) (by decide +kernel)) ⟨by decide +kernel, by decide +kernel, by decide +kernel⟩ ⟨Nat.le_of_ble_eq_true rfl, Nat.le_of_ble_eq_true rfl⟩ dX8_next_18 (ok_ifeq C (T := 2) dX8_next_21 (by decide) (ok_iinc C (by decide) (by decide) dX8_next_24 (ok_goto C dX8_next_27 (by decide)))))))))))
    | 2, hj => obtain rfl := Option.some.inj hj; exact ok_aload_n C rfl dX8_next_30 (ok_iload_n C rfl dX8_next_31 (ok_put C kc_X8 (by decide) rfl rfl rfl wd_356 (fun _ h => h) (Or.inl rfl) qa_fit0 dX8_next_32 (ok_aload_n C rfl dX8_next_35 (ok_aload_n C rfl dX8_next_36 (ok_iload_n C rfl dX8_next_37 (ok_callv C rfl (by decide) (kon_X8_byteAt l hl) (qa_wl [453, 454, 455, 80, 456] (by decide +kernel) (by decide +kernel)) ⟨rfl, by decide +kernel, by decide +kernel, by decide +kernel⟩ ⟨Nat.le_of_ble_eq_true rfl, Nat.le_of_ble_eq_true rfl⟩ dX8_next_38 (ok_calls C (kon_X8_kindOf l hl) (qa_wl [460, 461, 80, 462] (by decide +kernel) (by decide +kernel)) ⟨by decide +kernel, by decide +kernel, by decide +kernel⟩ ⟨Nat.le_of_ble_eq_true rfl, Nat.le_of_ble_eq_true rfl⟩ dX8_next_41 (ok_put C kc_X8 (by decide) rfl rfl rfl wd_355 (fun _ h => h) (Or.inl rfl) qa_fit0 dX8_next_44 (ok_aload_n C rfl dX8_next_47 (ok_iload_n C rfl dX8_next_48 (ok_aload_n C rfl dX8_next_49 (ok_get C kc_X8 (by decide) rfl rfl rfl wd_345 (fun _ h => h) dX8_next_50 (ok_cmpge C (T := 3) dX8_next_53 (by decide) (ok_iload_n C rfl dX8_next_56 (ok_iconst C (by decide) dX8_next_57 (ok_iadd C dX8_next_58 (ok_goto C dX8_next_59 (by decide))))))))))))))))))
    | 3, hj => obtain rfl := Option.some.inj hj; exact ok_iload_n C rfl dX8_next_62 (ok_fall rfl)
    | 4, hj => obtain rfl := Option.some.inj hj; exact ok_put C kc_X8 (by decide) rfl rfl rfl wd_357 (fun _ h => h) (Or.inl rfl) qa_fit0 dX8_next_63 (ok_aload_n C rfl dX8_next_66 (ok_get C kc_X8 (by decide) rfl rfl rfl wd_355 (fun _ h => h) dX8_next_67 (ok_iconst C (by decide) dX8_next_70 (ok_cmpeq C (T := 5) dX8_next_71 (by decide) (ok_aload_n C rfl dX8_next_74 (ok_get C kc_X8 (by decide) rfl rfl rfl wd_355 (fun _ h => h) dX8_next_75 (ok_iconst C (by decide) dX8_next_78 (ok_cmpne C (T := 6) dX8_next_79 (by decide) (ok_fall rfl)))))))))
    | 5, hj => obtain rfl := Option.some.inj hj; exact ok_iconst C (by decide) dX8_next_82 (ok_goto C dX8_next_83 (by decide))
    | 6, hj => obtain rfl := Option.some.inj hj; exact ok_iconst C (by decide) dX8_next_86 (ok_fall rfl)
    | 7, hj => obtain rfl := Option.some.inj hj; exact ok_istore_n C rfl (by decide) dX8_next_87 (ok_fall rfl)
    | 8, hj => obtain rfl := Option.some.inj hj; exact ok_iload_n C rfl dX8_next_88 (ok_ifeq C (T := 9) dX8_next_89 (by decide) (ok_aload_n C rfl dX8_next_92 (ok_get C kc_X8 (by decide) rfl rfl rfl wd_357 (fun _ h => h) dX8_next_93 (ok_aload_n C rfl dX8_next_96 (ok_get C kc_X8 (by decide) rfl rfl rfl wd_345 (fun _ h => h) dX8_next_97 (ok_cmpge C (T := 9) dX8_next_100 (by decide) (ok_aload_n C rfl dX8_next_103 (ok_aload_n C rfl dX8_next_104 (ok_get C kc_X8 (by decide) rfl rfl rfl wd_357 (fun _ h => h) dX8_next_105 (ok_callv C rfl (by decide) (kon_X8_byteAt l hl) (qa_wl [453, 454, 455, 80, 456] (by decide +kernel) (by decide +kernel)) ⟨rfl, by decide +kernel, by decide +kernel, by decide +kernel⟩ ⟨Nat.le_of_ble_eq_true rfl, Nat.le_of_ble_eq_true rfl⟩ dX8_next_108 (ok_calls C (kon_X8_kindOf l hl) (qa_wl [460, 461, 80, 462] (by decide +kernel) (by decide +kernel)) ⟨by decide +kernel, by decide +kernel, by decide +kernel⟩ ⟨Nat.le_of_ble_eq_true rfl, Nat.le_of_ble_eq_true rfl⟩ dX8_next_111 (ok_aload_n C rfl dX8_next_114 (ok_get C kc_X8 (by decide) rfl rfl rfl wd_355 (fun _ h => h) dX8_next_115 (ok_cmpne C (T := 9) dX8_next_118 (by decide) (ok_aload_n C rfl dX8_next_121 (ok_dup C dX8_next_122 (ok_get C kc_X8 (by decide) rfl rfl rfl wd_357 (fun _ h => h) dX8_next_123 (ok_iconst C (by decide) dX8_next_126 (ok_iadd C dX8_next_127 (ok_put C kc_X8 (by decide) rfl rfl rfl wd_357 (fun _ h => h) (Or.inl rfl) qa_fit0 dX8_next_128 (ok_goto C dX8_next_131 (by decide))))))))))))))))))))))
    | 9, hj => obtain rfl := Option.some.inj hj; exact ok_vret C hr dX8_next_134
    | (_ + 10), hj => exact nomatch hj)
noncomputable def B_X8_isWord_0 : qI := q_load 1 0 (q_get 11 7 0 (q_const (0, 1) (q_cmpne 1 (q_load 1 0 (q_get 11 9 0 (q_load 1 0 (q_get 11 8 0 (q_isub (q_load 1 1 (q_calls "java/lang/String" f_J0_length_8abf5 1 (q_cmpne 1 (q_const (0, 1) (q_goto 2)))))))))))))
noncomputable def B_X8_isWord_1 : qI := q_const (0, 0) (q_goto 2)
noncomputable def B_X8_isWord_2 : qI := q_store 0 2 (q_const (0, 0) (q_store 0 3 (q_goto 3)))
noncomputable def B_X8_isWord_3 : qI := q_load 0 2 (q_ifeq 6 (q_load 0 3 (q_load 1 1 (q_calls "java/lang/String" f_J0_length_8abf5 1 (q_cmpge 6 (q_load 1 0 (q_load 1 0 (q_get 11 8 0 (q_load 0 3 (q_iadd (q_callv 11 f_X8_byteAt 2 (q_load 1 1 (q_load 0 3 (q_calls "java/lang/String" f_J0_charAt_5068e 2 (q_cmpne 4 (q_const (0, 1) (q_goto 5)))))))))))))))))
noncomputable def B_X8_isWord_4 : qI := q_const (0, 0) (q_goto 5)
noncomputable def B_X8_isWord_5 : qI := q_store 0 2 (q_iinc 3 (1) (q_goto 3))
noncomputable def B_X8_isWord_6 : qI := q_load 0 2 (q_retz)
noncomputable def P_X8_isWord : qP := [B_X8_isWord_0, B_X8_isWord_1, B_X8_isWord_2, B_X8_isWord_3, B_X8_isWord_4, B_X8_isWord_5, B_X8_isWord_6]
noncomputable def f_X8_isWord : List qV → qA → Option qR := qa_fn P_X8_isWord 4
def pc_X8_isWord : Nat → Nat := fun j => [0, 28, 29, 32, 66, 67, 74].getD j 0
set_option maxRecDepth 100000 in
set_option maxHeartbeats 4000000 in
theorem kon_X8_isWord (l : Launch) (hl : l.stackTraces = false) : qa_Con l yX8_isWord cX8_isWord 4 (some .boolean) 5 105 f_X8_isWord :=
  qa_method (pcs := pc_X8_isWord) (by decide +kernel) rfl (fun C hr hn j f hj => by
    match j, hj with
    | 0, hj => obtain rfl := Option.some.inj hj; exact ok_aload_n C rfl dX8_isWord_0 (ok_get C kc_X8 (by decide) rfl rfl rfl wd_355 (fun _ h => h) dX8_isWord_1 (ok_iconst C (by decide) dX8_isWord_4 (ok_cmpne C (T := 1) dX8_isWord_5 (by decide) (ok_aload_n C rfl dX8_isWord_8 (ok_get C kc_X8 (by decide) rfl rfl rfl wd_357 (fun _ h => h) dX8_isWord_9 (ok_aload_n C rfl dX8_isWord_12 (ok_get C kc_X8 (by decide) rfl rfl rfl wd_356 (fun _ h => h) dX8_isWord_13 (ok_isub C dX8_isWord_16 (ok_aload_n C rfl dX8_isWord_17 (ok_callss C (kon_J0_length_8abf5 l hl) (qa_wl [477, 478, 479, 83, 480] (by decide +kernel) (by decide +kernel)) ⟨rfl, by decide +kernel, by decide +kernel, by decide +kernel⟩ ⟨Nat.le_of_ble_eq_true rfl, Nat.le_of_ble_eq_true rfl⟩ dX8_isWord_18 (ok_cmpne C (T := 1) dX8_isWord_21 (by decide) (ok_iconst C (by decide) dX8_isWord_24 (ok_goto C dX8_isWord_25 (by decide))))))))))))))
    | 1, hj => obtain rfl := Option.some.inj hj; exact ok_iconst C (by decide) dX8_isWord_28 (ok_fall rfl)
    | 2, hj => obtain rfl := Option.some.inj hj; exact ok_istore_n C rfl (by decide) dX8_isWord_29 (ok_iconst C (by decide) dX8_isWord_30 (ok_istore_n C rfl (by decide) dX8_isWord_31 (ok_fall rfl)))
    | 3, hj => obtain rfl := Option.some.inj hj; exact ok_iload_n C rfl dX8_isWord_32 (ok_ifeq C (T := 6) dX8_isWord_33 (by decide) (ok_iload_n C rfl dX8_isWord_36 (ok_aload_n C rfl dX8_isWord_37 (ok_callss C (kon_J0_length_8abf5 l hl) (qa_wl [477, 478, 479, 83, 480] (by decide +kernel) (by decide +kernel)) ⟨rfl, by decide +kernel, by decide +kernel, by decide +kernel⟩ ⟨Nat.le_of_ble_eq_true rfl, Nat.le_of_ble_eq_true rfl⟩ dX8_isWord_38 (ok_cmpge C (T := 6) dX8_isWord_41 (by decide) (ok_aload_n C rfl dX8_isWord_44 (ok_aload_n C rfl dX8_isWord_45 (ok_get C kc_X8 (by decide) rfl rfl rfl wd_356 (fun _ h => h) dX8_isWord_46 (ok_iload_n C rfl dX8_isWord_49 (ok_iadd C dX8_isWord_50 (ok_callv C rfl (by decide) (kon_X8_byteAt l hl) (qa_wl [453, 454, 455, 80, 456] (by decide +kernel) (by decide +kernel)) ⟨rfl, by decide +kernel, by decide +kernel, by decide +kernel⟩ ⟨Nat.le_of_ble_eq_true rfl, Nat.le_of_ble_eq_true rfl⟩ dX8_isWord_51 (ok_aload_n C rfl dX8_isWord_54 (ok_iload_n C rfl dX8_isWord_55 (ok_callss C (kon_J0_charAt_5068e l hl) (qa_wl [486, 487, 488, 83, 489] (by decide +kernel) (by decide +kernel)) ⟨rfl, by decide +kernel, by decide +kernel, by decide +kernel⟩ ⟨Nat.le_of_ble_eq_true rfl, Nat.le_of_ble_eq_true rfl⟩ dX8_isWord_56 (ok_cmpne C (T := 4) dX8_isWord_59 (by decide) (ok_iconst C (by decide) dX8_isWord_62 (ok_goto C dX8_isWord_63 (by decide))))))))))))))))))
    | 4, hj => obtain rfl := Option.some.inj hj; exact ok_iconst C (by decide) dX8_isWord_66 (ok_fall rfl)
    | 5, hj => obtain rfl := Option.some.inj hj; exact ok_istore_n C rfl (by decide) dX8_isWord_67 (ok_iinc C (by decide) (by decide) dX8_isWord_68 (ok_goto C dX8_isWord_71 (by decide)))
    | 6, hj => obtain rfl := Option.some.inj hj; exact ok_iload_n C rfl dX8_isWord_74 (ok_zret C hr dX8_isWord_75)
    | (_ + 7), hj => exact nomatch hj)
noncomputable def B_X8_verbHere_0 : qI := q_const (1, -13) (q_store 1 1 (q_load 1 1 (q_slen (q_store 0 2 (q_const (0, 0) (q_store 0 3 (q_goto 1)))))))
noncomputable def B_X8_verbHere_1 : qI := q_load 0 3 (q_load 0 2 (q_cmpge 3 (q_load 1 1 (q_load 0 3 (q_sld 110 (q_store 1 4 (q_load 1 0 (q_load 1 4 (q_sget "word" (q_callv 11 f_X8_isWord 2 (q_ifeq 2 (q_load 1 4 (q_ret 1)))))))))))))
noncomputable def B_X8_verbHere_2 : qI := q_iinc 3 (1) (q_goto 1)
noncomputable def B_X8_verbHere_3 : qI := q_const (1, -1) (q_ret 1)
noncomputable def P_X8_verbHere : qP := [B_X8_verbHere_0, B_X8_verbHere_1, B_X8_verbHere_2, B_X8_verbHere_3]
noncomputable def f_X8_verbHere : List qV → qA → Option qR := qa_fn P_X8_verbHere 5
def pc_X8_verbHere : Nat → Nat := fun j => [0, 9, 34, 40].getD j 0
set_option maxRecDepth 100000 in
set_option maxHeartbeats 4000000 in
theorem kon_X8_verbHere (l : Launch) (hl : l.stackTraces = false) : qa_Con l yX8_verbHere cX8_verbHere 5 (some (.object "PromiseLog$Verb")) 6 128 f_X8_verbHere :=
  qa_method (pcs := pc_X8_verbHere) (by decide +kernel) rfl (fun C hr hn j f hj => by
    match j, hj with
    | 0, hj => obtain rfl := Option.some.inj hj; exact ok_getsn C (Cn := "PromiseLog") (fn := "VERBS") (fd := "[LPromiseLog$Verb;") (host := "PromiseLog") (by decide +kernel) (by decide +kernel) dX8_verbHere_0 (ok_astore_n C rfl (by decide) dX8_verbHere_3 (ok_aload_n C rfl dX8_verbHere_4 (ok_slen C dX8_verbHere_5 (ok_istore_n C rfl (by decide) dX8_verbHere_6 (ok_iconst C (by decide) dX8_verbHere_7 (ok_istore_n C rfl (by decide) dX8_verbHere_8 (ok_fall rfl)))))))
    | 1, hj => obtain rfl := Option.some.inj hj; exact ok_iload_n C rfl dX8_verbHere_9 (ok_iload_n C rfl dX8_verbHere_10 (ok_cmpge C (T := 3) dX8_verbHere_11 (by decide) (ok_aload_n C rfl dX8_verbHere_14 (ok_iload_n C rfl dX8_verbHere_15 (ok_sldr C dX8_verbHere_16 (ok_astore C (by decide) dX8_verbHere_17 (ok_aload_n C rfl dX8_verbHere_19 (ok_aload C dX8_verbHere_20 (ok_sget C (oc := "PromiseLog$Verb") (fd := "Ljava/lang/String;") (by decide +kernel) wd_2173 dX8_verbHere_22 (ok_callv C rfl (by decide) (kon_X8_isWord l hl) (qa_wl [473, 474, 475, 80, 476] (by decide +kernel) (by decide +kernel)) ⟨rfl, by decide +kernel, by decide +kernel, by decide +kernel⟩ ⟨Nat.le_of_ble_eq_true rfl, Nat.le_of_ble_eq_true rfl⟩ dX8_verbHere_25 (ok_ifeq C (T := 2) dX8_verbHere_28 (by decide) (ok_aload C dX8_verbHere_31 (ok_aret C hr (Or.inl ⟨_, rfl⟩) dX8_verbHere_33)))))))))))))
    | 2, hj => obtain rfl := Option.some.inj hj; exact ok_iinc C (by decide) (by decide) dX8_verbHere_34 (ok_goto C dX8_verbHere_37 (by decide))
    | 3, hj => obtain rfl := Option.some.inj hj; exact ok_null C dX8_verbHere_40 (ok_aret C hr (Or.inl ⟨_, rfl⟩) dX8_verbHere_41)
    | (_ + 4), hj => exact nomatch hj)
noncomputable def B_X8_fail_0 : qI := q_load 1 0 (q_load 0 1 (q_put 11 5 0 (q_load 1 0 (q_load 1 0 (q_get 11 8 0 (q_put 11 6 0 (q_const (0, 0) (q_retz))))))))
noncomputable def P_X8_fail : qP := [B_X8_fail_0]
noncomputable def f_X8_fail : List qV → qA → Option qR := qa_fn P_X8_fail 2
def pc_X8_fail : Nat → Nat := fun j => [0].getD j 0
set_option maxRecDepth 100000 in
set_option maxHeartbeats 4000000 in
theorem kon_X8_fail (l : Launch) (hl : l.stackTraces = false) : qa_Con l yX8_fail cX8_fail 2 (some .boolean) 1 20 f_X8_fail :=
  qa_method (pcs := pc_X8_fail) (by decide +kernel) rfl (fun C hr hn j f hj => by
    match j, hj with
    | 0, hj => obtain rfl := Option.some.inj hj; exact ok_aload_n C rfl dX8_fail_0 (ok_iload_n C rfl dX8_fail_1 (ok_put C kc_X8 (by decide) rfl rfl rfl wd_352 (fun _ h => h) (Or.inl rfl) qa_fit0 dX8_fail_2 (ok_aload_n C rfl dX8_fail_5 (ok_aload_n C rfl dX8_fail_6 (ok_get C kc_X8 (by decide) rfl rfl rfl wd_356 (fun _ h => h) dX8_fail_7 (ok_put C kc_X8 (by decide) rfl rfl rfl wd_353 (fun _ h => h) (Or.inl rfl) qa_fit0 dX8_fail_10 (ok_iconst C (by decide) dX8_fail_13 (ok_zret C hr dX8_fail_14))))))))
    | (_ + 1), hj => exact nomatch hj)
noncomputable def B_X8_keep_0 : qI := q_load 0 1 (q_iflt 1 (q_load 0 1 (q_load 1 0 (q_get 11 3 1 (q_alen (q_cmpge 1 (q_load 1 0 (q_get 11 3 1 (q_load 0 1 (q_load 0 2 (q_ast 101 0 (q_goto 1))))))))))))
noncomputable def B_X8_keep_1 : qI := q_vret
noncomputable def P_X8_keep : qP := [B_X8_keep_0, B_X8_keep_1]
noncomputable def f_X8_keep : List qV → qA → Option qR := qa_fn P_X8_keep 3
def pc_X8_keep : Nat → Nat := fun j => [0, 20].getD j 0
set_option maxRecDepth 100000 in
set_option maxHeartbeats 4000000 in
theorem kon_X8_keep (l : Launch) (hl : l.stackTraces = false) : qa_Con l yX8_keep cX8_keep 3 none 1 20 f_X8_keep :=
  qa_method (pcs := pc_X8_keep) (by decide +kernel) rfl (fun C hr hn j f hj => by
    match j, hj with
    | 0, hj => obtain rfl := Option.some.inj hj; exact ok_iload_n C rfl dX8_keep_0 (ok_iflt C (T := 1) dX8_keep_1 (by decide) (ok_iload_n C rfl dX8_keep_4 (ok_aload_n C rfl dX8_keep_5 (ok_get C kc_X8 (by decide) rfl rfl rfl wd_348 (fun _ h => h) dX8_keep_6 (ok_alen C dX8_keep_9 (ok_cmpge C (T := 1) dX8_keep_10 (by decide) (ok_aload_n C rfl dX8_keep_13 (ok_get C kc_X8 (by decide) rfl rfl rfl wd_348 (fun _ h => h) dX8_keep_14 (ok_iload_n C rfl dX8_keep_17 (ok_iload_n C rfl dX8_keep_18 (ok_iastore C dX8_keep_19 (ok_fall rfl))))))))))))
    | 1, hj => obtain rfl := Option.some.inj hj; exact ok_vret C hr dX8_keep_20
    | (_ + 2), hj => exact nomatch hj)
noncomputable def B_X8_parseEnd_0 : qI := q_load 1 0 (q_const (1, -80) (q_callv 11 f_X8_isWord 2 (q_store 0 2 (q_load 1 0 (q_load 0 1 (q_load 0 2 (q_ifeq 1 (q_const (0, 1) (q_goto 2)))))))))
noncomputable def B_X8_parseEnd_1 : qI := q_const (0, 0) (q_goto 2)
noncomputable def B_X8_parseEnd_2 : qI := q_callv 11 f_X8_keep 3 (q_load 0 2 (q_ifeq 3 (q_load 1 0 (q_callv 11 f_X8_next 1 (q_goto 3)))))
noncomputable def B_X8_parseEnd_3 : qI := q_const (0, 1) (q_retz)
noncomputable def P_X8_parseEnd : qP := [B_X8_parseEnd_0, B_X8_parseEnd_1, B_X8_parseEnd_2, B_X8_parseEnd_3]
noncomputable def f_X8_parseEnd : List qV → qA → Option qR := qa_fn P_X8_parseEnd 3
def pc_X8_parseEnd : Nat → Nat := fun j => [0, 17, 18, 29].getD j 0
set_option maxRecDepth 100000 in
set_option maxHeartbeats 4000000 in
theorem kon_X8_parseEnd (l : Launch) (hl : l.stackTraces = false) : qa_Con l yX8_parseEnd cX8_parseEnd 3 (some .boolean) 6 128 f_X8_parseEnd :=
  qa_method (pcs := pc_X8_parseEnd) (by decide +kernel) rfl (fun C hr hn j f hj => by
    match j, hj with
    | 0, hj => obtain rfl := Option.some.inj hj; exact ok_aload_n C rfl dX8_parseEnd_0 (ok_ldcs C rfl dX8_parseEnd_1 (ok_callv C rfl (by decide) (kon_X8_isWord l hl) (qa_wl [473, 474, 475, 80, 476] (by decide +kernel) (by decide +kernel)) ⟨rfl, by decide +kernel, by decide +kernel, by decide +kernel⟩ ⟨Nat.le_of_ble_eq_true rfl, Nat.le_of_ble_eq_true rfl⟩ dX8_parseEnd_3 (ok_istore_n C rfl (by decide) dX8_parseEnd_6 (ok_aload_n C rfl dX8_parseEnd_7 (ok_iload_n C rfl dX8_parseEnd_8 (ok_iload_n C rfl dX8_parseEnd_9 (ok_ifeq C (T := 1) dX8_parseEnd_10 (by decide) (ok_iconst C (by decide) dX8_parseEnd_13 (ok_goto C dX8_parseEnd_14 (by decide))))))))))
    | 1, hj => obtain rfl := Option.some.inj hj; exact ok_iconst C (by decide) dX8_parseEnd_17 (ok_fall rfl)
    | 2, hj => obtain rfl := Option.some.inj hj; exact ok_callv C rfl (by decide) (kon_X8_keep l hl) (qa_wl [537, 538, 539, 80, 540] (by decide +kernel) (by decide +kernel)) ⟨rfl, by decide +kernel, by decide +kernel, by decide +kernel⟩ ⟨Nat.le_of_ble_eq_true rfl, Nat.le_of_ble_eq_true rfl⟩ dX8_parseEnd_18 (ok_iload_n C rfl dX8_parseEnd_21 (ok_ifeq C (T := 3) dX8_parseEnd_22 (by decide) (ok_aload_n C rfl dX8_parseEnd_25 (ok_callv C rfl (by decide) (kon_X8_next l hl) (qa_wl [449, 450, 451, 80, 452] (by decide +kernel) (by decide +kernel)) ⟨rfl, by decide +kernel, by decide +kernel, by decide +kernel⟩ ⟨Nat.le_of_ble_eq_true rfl, Nat.le_of_ble_eq_true rfl⟩ dX8_parseEnd_26 (ok_fall rfl)))))
    | 3, hj => obtain rfl := Option.some.inj hj; exact ok_iconst C (by decide) dX8_parseEnd_29 (ok_zret C hr dX8_parseEnd_30)
    | (_ + 4), hj => exact nomatch hj)
noncomputable def B_X8_numberHere_0 : qI := q_const (0, 0) (q_store 0 1 (q_load 1 0 (q_get 11 8 0 (q_store 0 2 (q_goto 1)))))
noncomputable def B_X8_numberHere_1 : qI := q_load 0 2 (q_load 1 0 (q_get 11 9 0 (q_cmpge 2 (q_const (0, 1000) (q_load 0 1 (q_const (0, 10) (q_imul (q_load 1 0 (q_load 0 2 (q_callv 11 f_X8_byteAt 2 (q_iadd (q_const (0, 48) (q_isub (q_min (q_store 0 1 (q_iinc 2 (1) (q_goto 1)))))))))))))))))
noncomputable def B_X8_numberHere_2 : qI := q_load 0 1 (q_ret 0)
noncomputable def P_X8_numberHere : qP := [B_X8_numberHere_0, B_X8_numberHere_1, B_X8_numberHere_2]
noncomputable def f_X8_numberHere : List qV → qA → Option qR := qa_fn P_X8_numberHere 3
def pc_X8_numberHere : Nat → Nat := fun j => [0, 7, 41].getD j 0
set_option maxRecDepth 100000 in
set_option maxHeartbeats 4000000 in
theorem kon_X8_numberHere (l : Launch) (hl : l.stackTraces = false) : qa_Con l yX8_numberHere cX8_numberHere 3 (some .int) 2 41 f_X8_numberHere :=
  qa_method (pcs := pc_X8_numberHere) (by decide +kernel) rfl (fun C hr hn j f hj => by
    match j, hj with
    | 0, hj => obtain rfl := Option.some.inj hj; exact ok_iconst C (by decide) dX8_numberHere_0 (ok_istore_n C rfl (by decide) dX8_numberHere_1 (ok_aload_n C rfl dX8_numberHere_2 (ok_get C kc_X8 (by decide) rfl rfl rfl wd_356 (fun _ h => h) dX8_numberHere_3 (ok_istore_n C rfl (by decide) dX8_numberHere_6 (ok_fall rfl)))))
    | 1, hj => obtain rfl := Option.some.inj hj; exact ok_iload_n C rfl dX8_numberHere_7 (ok_aload_n C rfl dX8_numberHere_8 (ok_get C kc_X8 (by decide) rfl rfl rfl wd_357 (fun _ h => h) dX8_numberHere_9 (ok_cmpge C (T := 2) dX8_numberHere_12 (by decide) (ok_sipush C (by decide) dX8_numberHere_15 (ok_iload_n C rfl dX8_numberHere_18 (ok_bipush C (by decide) dX8_numberHere_19 (ok_imul C dX8_numberHere_21 (ok_aload_n C rfl dX8_numberHere_22 (ok_iload_n C rfl dX8_numberHere_23 (ok_callv C rfl (by decide) (kon_X8_byteAt l hl) (qa_wl [453, 454, 455, 80, 456] (by decide +kernel) (by decide +kernel)) ⟨rfl, by decide +kernel, by decide +kernel, by decide +kernel⟩ ⟨Nat.le_of_ble_eq_true rfl, Nat.le_of_ble_eq_true rfl⟩ dX8_numberHere_24 (ok_iadd C dX8_numberHere_27 (ok_bipush C (by decide) dX8_numberHere_28 (ok_isub C dX8_numberHere_30 (ok_min C (qa_wl [545, 546, 93, 547] (by decide +kernel) (by decide +kernel)) (Nat.le_of_ble_eq_true rfl) (Nat.le_of_ble_eq_true rfl) dX8_numberHere_31 (ok_istore_n C rfl (by decide) dX8_numberHere_34 (ok_iinc C (by decide) (by decide) dX8_numberHere_35 (ok_goto C dX8_numberHere_38 (by decide))))))))))))))))))
    | 2, hj => obtain rfl := Option.some.inj hj; exact ok_iload_n C rfl dX8_numberHere_41 (ok_iret C hr dX8_numberHere_42)
    | (_ + 3), hj => exact nomatch hj)
noncomputable def B_X8_leastOf_0 : qI := q_load 0 0 (q_const (0, 115) (q_cmpeq 1 (q_load 0 0 (q_const (0, 105) (q_cmpeq 1 (q_load 0 0 (q_const (0, 116) (q_cmpeq 1 (q_load 0 0 (q_const (0, 110) (q_cmpne 2 (q_goto 1))))))))))))
noncomputable def B_X8_leastOf_1 : qI := q_const (0, 1) (q_goto 3)
noncomputable def B_X8_leastOf_2 : qI := q_const (0, 0) (q_goto 3)
noncomputable def B_X8_leastOf_3 : qI := q_ret 0
noncomputable def P_X8_leastOf : qP := [B_X8_leastOf_0, B_X8_leastOf_1, B_X8_leastOf_2, B_X8_leastOf_3]
noncomputable def f_X8_leastOf : List qV → qA → Option qR := qa_fn P_X8_leastOf 1
def pc_X8_leastOf : Nat → Nat := fun j => [0, 24, 28, 29].getD j 0
set_option maxRecDepth 100000 in
set_option maxHeartbeats 4000000 in
theorem kon_X8_leastOf (l : Launch) (hl : l.stackTraces = false) : qa_Con l yX8_leastOf cX8_leastOf 1 (some .int) 1 20 f_X8_leastOf :=
  qa_method (pcs := pc_X8_leastOf) (by decide +kernel) rfl (fun C hr hn j f hj => by
    match j, hj with
    | 0, hj => obtain rfl := Option.some.inj hj; exact ok_iload_n C rfl dX8_leastOf_0 (ok_bipush C (by decide) dX8_leastOf_1 (ok_cmpeq C (T := 1) dX8_leastOf_3 (by decide) (ok_iload_n C rfl dX8_leastOf_6 (ok_bipush C (by decide) dX8_leastOf_7 (ok_cmpeq C (T := 1) dX8_leastOf_9 (by decide) (ok_iload_n C rfl dX8_leastOf_12 (ok_bipush C (by decide) dX8_leastOf_13 (ok_cmpeq C (T := 1) dX8_leastOf_15 (by decide) (ok_iload_n C rfl dX8_leastOf_18 (ok_bipush C (by decide) dX8_leastOf_19 (ok_cmpne C (T := 2) dX8_leastOf_21 (by decide) (ok_fall rfl))))))))))))
    | 1, hj => obtain rfl := Option.some.inj hj; exact ok_iconst C (by decide) dX8_leastOf_24 (ok_goto C dX8_leastOf_25 (by decide))
    | 2, hj => obtain rfl := Option.some.inj hj; exact ok_iconst C (by decide) dX8_leastOf_28 (ok_fall rfl)
    | 3, hj => obtain rfl := Option.some.inj hj; exact ok_iret C hr dX8_leastOf_29
    | (_ + 4), hj => exact nomatch hj)
noncomputable def B_X8_mostOf_0 : qI := q_load 0 0 (q_lookup [(98, 1), (107, 3), (114, 2), (115, 4), (116, 5)] 6)
noncomputable def B_X8_mostOf_1 : qI := q_const (0, 3) (q_ret 0)
noncomputable def B_X8_mostOf_2 : qI := q_const (0, 5) (q_ret 0)
noncomputable def B_X8_mostOf_3 : qI := q_const (0, 9) (q_ret 0)
noncomputable def B_X8_mostOf_4 : qI := q_const (0, 9) (q_ret 0)
noncomputable def B_X8_mostOf_5 : qI := q_const (0, 60) (q_ret 0)
noncomputable def B_X8_mostOf_6 : qI := q_const (0, 99) (q_ret 0)
noncomputable def P_X8_mostOf : qP := [B_X8_mostOf_0, B_X8_mostOf_1, B_X8_mostOf_2, B_X8_mostOf_3, B_X8_mostOf_4, B_X8_mostOf_5, B_X8_mostOf_6]
noncomputable def f_X8_mostOf : List qV → qA → Option qR := qa_fn P_X8_mostOf 1
def pc_X8_mostOf : Nat → Nat := fun j => [0, 52, 54, 56, 59, 62, 65].getD j 0
set_option maxRecDepth 100000 in
set_option maxHeartbeats 4000000 in
theorem kon_X8_mostOf (l : Launch) (hl : l.stackTraces = false) : qa_Con l yX8_mostOf cX8_mostOf 1 (some .int) 1 20 f_X8_mostOf :=
  qa_method (pcs := pc_X8_mostOf) (by decide +kernel) rfl (fun C hr hn j f hj => by
    match j, hj with
    | 0, hj => obtain rfl := Option.some.inj hj; exact ok_iload_n C rfl dX8_mostOf_0 (ok_lookup C (by decide) (fun x => if h98 : x = 98 then (by subst h98; decide +kernel) else if h107 : x = 107 then (by subst h107; decide +kernel) else if h114 : x = 114 then (by subst h114; decide +kernel) else if h115 : x = 115 then (by subst h115; decide +kernel) else if h116 : x = 116 then (by subst h116; decide +kernel) else (by have e98 : ¬ (98 : Int) = x := fun z => h98 (Eq.symm z); have e107 : ¬ (107 : Int) = x := fun z => h107 (Eq.symm z); have e114 : ¬ (114 : Int) = x := fun z => h114 (Eq.symm z); have e115 : ¬ (115 : Int) = x := fun z => h115 (Eq.symm z); have e116 : ¬ (116 : Int) = x := fun z => h116 (Eq.symm z); simp [Op.lookupswitch.offset, List.find?, show ((98 : Int) == x) = false from beq_eq_false_iff_ne.mpr e98, show ((107 : Int) == x) = false from beq_eq_false_iff_ne.mpr e107, show ((114 : Int) == x) = false from beq_eq_false_iff_ne.mpr e114, show ((115 : Int) == x) = false from beq_eq_false_iff_ne.mpr e115, show ((116 : Int) == x) = false from beq_eq_false_iff_ne.mpr e116]; rw [if_neg e98, if_neg e107, if_neg e114, if_neg e115, if_neg e116]; rfl)) dX8_mostOf_1)
    | 1, hj => obtain rfl := Option.some.inj hj; exact ok_iconst C (by decide) dX8_mostOf_52 (ok_iret C hr dX8_mostOf_53)
    | 2, hj => obtain rfl := Option.some.inj hj; exact ok_iconst C (by decide) dX8_mostOf_54 (ok_iret C hr dX8_mostOf_55)
    | 3, hj => obtain rfl := Option.some.inj hj; exact ok_bipush C (by decide) dX8_mostOf_56 (ok_iret C hr dX8_mostOf_58)
    | 4, hj => obtain rfl := Option.some.inj hj; exact ok_bipush C (by decide) dX8_mostOf_59 (ok_iret C hr dX8_mostOf_61)
    | 5, hj => obtain rfl := Option.some.inj hj; exact ok_bipush C (by decide) dX8_mostOf_62 (ok_iret C hr dX8_mostOf_64)
    | 6, hj => obtain rfl := Option.some.inj hj; exact ok_bipush C (by decide) dX8_mostOf_65 (ok_iret C hr dX8_mostOf_67)
    | (_ + 7), hj => exact nomatch hj)
noncomputable def B_X8_parseOperand_0 : qI := q_load 0 1 (q_const (0, 101) (q_cmpne 1 (q_load 1 0 (q_load 0 2 (q_callv 11 f_X8_parseEnd 2 (q_retz))))))
noncomputable def B_X8_parseOperand_1 : qI := q_load 0 1 (q_const (0, 118) (q_cmpne 2 (q_load 1 0 (q_get 11 7 0 (q_const (0, 3) (q_cmpne 2 (q_const (0, 1) (q_goto 3))))))))
noncomputable def B_X8_parseOperand_2 : qI := q_const (0, 0) (q_goto 3)
noncomputable def B_X8_parseOperand_3 : qI := q_store 0 3 (q_load 0 3 (q_ifeq 4 (q_load 1 0 (q_callv 11 f_X8_next 1 (q_goto 4)))))
noncomputable def B_X8_parseOperand_4 : qI := q_load 1 0 (q_get 11 7 0 (q_const (0, 2) (q_cmpeq 5 (q_load 1 0 (q_const (0, 1) (q_callv 11 f_X8_fail 2 (q_retz)))))))
noncomputable def B_X8_parseOperand_5 : qI := q_load 1 0 (q_callv 11 f_X8_numberHere 1 (q_store 0 4 (q_load 0 4 (q_load 0 1 (q_call f_X8_leastOf 1 (q_cmplt 6 (q_load 0 4 (q_load 0 1 (q_call f_X8_mostOf 1 (q_cmple 7 (q_goto 6)))))))))))
noncomputable def B_X8_parseOperand_6 : qI := q_load 1 0 (q_const (0, 2) (q_callv 11 f_X8_fail 2 (q_retz)))
noncomputable def B_X8_parseOperand_7 : qI := q_load 1 0 (q_load 0 2 (q_load 0 3 (q_ifeq 8 (q_load 0 4 (q_ineg (q_goto 9))))))
noncomputable def B_X8_parseOperand_8 : qI := q_load 0 4 (q_goto 9)
noncomputable def B_X8_parseOperand_9 : qI := q_callv 11 f_X8_keep 3 (q_load 1 0 (q_callv 11 f_X8_next 1 (q_const (0, 1) (q_retz))))
noncomputable def P_X8_parseOperand : qP := [B_X8_parseOperand_0, B_X8_parseOperand_1, B_X8_parseOperand_2, B_X8_parseOperand_3, B_X8_parseOperand_4, B_X8_parseOperand_5, B_X8_parseOperand_6, B_X8_parseOperand_7, B_X8_parseOperand_8, B_X8_parseOperand_9]
noncomputable def f_X8_parseOperand : List qV → qA → Option qR := qa_fn P_X8_parseOperand 5
def pc_X8_parseOperand : Nat → Nat := fun j => [0, 12, 30, 31, 40, 54, 78, 84, 96, 98].getD j 0
set_option maxRecDepth 100000 in
set_option maxHeartbeats 4000000 in
theorem kon_X8_parseOperand (l : Launch) (hl : l.stackTraces = false) : qa_Con l yX8_parseOperand cX8_parseOperand 5 (some .boolean) 7 150 f_X8_parseOperand :=
  qa_method (pcs := pc_X8_parseOperand) (by decide +kernel) rfl (fun C hr hn j f hj => by
    match j, hj with
    | 0, hj => obtain rfl := Option.some.inj hj; exact ok_iload_n C rfl dX8_parseOperand_0 (ok_bipush C (by decide) dX8_parseOperand_1 (ok_cmpne C (T := 1) dX8_parseOperand_3 (by decide) (ok_aload_n C rfl dX8_parseOperand_6 (ok_iload_n C rfl dX8_parseOperand_7 (ok_callv C rfl (by decide) (kon_X8_parseEnd l hl) (qa_wl [532, 533, 534, 80, 535] (by decide +kernel) (by decide +kernel)) ⟨rfl, by decide +kernel, by decide +kernel, by decide +kernel⟩ ⟨Nat.le_of_ble_eq_true rfl, Nat.le_of_ble_eq_true rfl⟩ dX8_parseOperand_8 (ok_zret C hr dX8_parseOperand_11))))))
    | 1, hj => obtain rfl := Option.some.inj hj; exact ok_iload_n C rfl dX8_parseOperand_12 (ok_bipush C (by decide) dX8_parseOperand_13 (ok_cmpne C (T := 2) dX8_parseOperand_15 (by decide) (ok_aload_n C rfl dX8_parseOperand_18 (ok_get C kc_X8 (by decide) rfl rfl rfl wd_355 (fun _ h => h) dX8_parseOperand_19 (ok_iconst C (by decide) dX8_parseOperand_22 (ok_cmpne C (T := 2) dX8_parseOperand_23 (by decide) (ok_iconst C (by decide) dX8_parseOperand_26 (ok_goto C dX8_parseOperand_27 (by decide)))))))))
    | 2, hj => obtain rfl := Option.some.inj hj; exact ok_iconst C (by decide) dX8_parseOperand_30 (ok_fall rfl)
    | 3, hj => obtain rfl := Option.some.inj hj; exact ok_istore_n C rfl (by decide) dX8_parseOperand_31 (ok_iload_n C rfl dX8_parseOperand_32 (ok_ifeq C (T := 4) dX8_parseOperand_33 (by decide) (ok_aload_n C rfl dX8_parseOperand_36 (ok_callv C rfl (by decide) (kon_X8_next l hl) (qa_wl [449, 450, 451, 80, 452] (by decide +kernel) (by decide +kernel)) ⟨rfl, by decide +kernel, by decide +kernel, by decide +kernel⟩ ⟨Nat.le_of_ble_eq_true rfl, Nat.le_of_ble_eq_true rfl⟩ dX8_parseOperand_37 (ok_fall rfl)))))
    | 4, hj => obtain rfl := Option.some.inj hj; exact ok_aload_n C rfl dX8_parseOperand_40 (ok_get C kc_X8 (by decide) rfl rfl rfl wd_355 (fun _ h => h) dX8_parseOperand_41 (ok_iconst C (by decide) dX8_parseOperand_44 (ok_cmpeq C (T := 5) dX8_parseOperand_45 (by decide) (ok_aload_n C rfl dX8_parseOperand_48 (ok_iconst C (by decide) dX8_parseOperand_49 (ok_callv C rfl (by decide) (kon_X8_fail l hl) (qa_wl [524, 525, 526, 80, 527] (by decide +kernel) (by decide +kernel)) ⟨rfl, by decide +kernel, by decide +kernel, by decide +kernel⟩ ⟨Nat.le_of_ble_eq_true rfl, Nat.le_of_ble_eq_true rfl⟩ dX8_parseOperand_50 (ok_zret C hr dX8_parseOperand_53)))))))
    | 5, hj => obtain rfl := Option.some.inj hj; exact ok_aload_n C rfl dX8_parseOperand_54 (ok_callv C rfl (by decide) (kon_X8_numberHere l hl) (qa_wl [541, 542, 543, 80, 544] (by decide +kernel) (by decide +kernel)) ⟨rfl, by decide +kernel, by decide +kernel, by decide +kernel⟩ ⟨Nat.le_of_ble_eq_true rfl, Nat.le_of_ble_eq_true rfl⟩ dX8_parseOperand_55 (ok_istore C (by decide) dX8_parseOperand_58 (ok_iload C dX8_parseOperand_60 (ok_iload_n C rfl dX8_parseOperand_62 (ok_calls C (kon_X8_leastOf l hl) (qa_wl [548, 549, 80, 550] (by decide +kernel) (by decide +kernel)) ⟨by decide +kernel, by decide +kernel, by decide +kernel⟩ ⟨Nat.le_of_ble_eq_true rfl, Nat.le_of_ble_eq_true rfl⟩ dX8_parseOperand_63 (ok_cmplt C (T := 6) dX8_parseOperand_66 (by decide) (ok_iload C dX8_parseOperand_69 (ok_iload_n C rfl dX8_parseOperand_71 (ok_calls C (kon_X8_mostOf l hl) (qa_wl [551, 552, 80, 553] (by decide +kernel) (by decide +kernel)) ⟨by decide +kernel, by decide +kernel, by decide +kernel⟩ ⟨Nat.le_of_ble_eq_true rfl, Nat.le_of_ble_eq_true rfl⟩ dX8_parseOperand_72 (ok_cmple C (T := 7) dX8_parseOperand_75 (by decide) (ok_fall rfl)))))))))))
    | 6, hj => obtain rfl := Option.some.inj hj; exact ok_aload_n C rfl dX8_parseOperand_78 (ok_iconst C (by decide) dX8_parseOperand_79 (ok_callv C rfl (by decide) (kon_X8_fail l hl) (qa_wl [524, 525, 526, 80, 527] (by decide +kernel) (by decide +kernel)) ⟨rfl, by decide +kernel, by decide +kernel, by decide +kernel⟩ ⟨Nat.le_of_ble_eq_true rfl, Nat.le_of_ble_eq_true rfl⟩ dX8_parseOperand_80 (ok_zret C hr dX8_parseOperand_83)))
    | 7, hj => obtain rfl := Option.some.inj hj; exact ok_aload_n C rfl dX8_parseOperand_84 (ok_iload_n C rfl dX8_parseOperand_85 (ok_iload_n C rfl dX8_parseOperand_86 (ok_ifeq C (T := 8) dX8_parseOperand_87 (by decide) (ok_iload C dX8_parseOperand_90 (ok_ineg C dX8_parseOperand_92 (ok_goto C dX8_parseOperand_93 (by decide)))))))
    | 8, hj => obtain rfl := Option.some.inj hj; exact ok_iload C dX8_parseOperand_96 (ok_fall rfl)
    | 9, hj => obtain rfl := Option.some.inj hj; exact ok_callv C rfl (by decide) (kon_X8_keep l hl) (qa_wl [537, 538, 539, 80, 540] (by decide +kernel) (by decide +kernel)) ⟨rfl, by decide +kernel, by decide +kernel, by decide +kernel⟩ ⟨Nat.le_of_ble_eq_true rfl, Nat.le_of_ble_eq_true rfl⟩ dX8_parseOperand_98 (ok_aload_n C rfl dX8_parseOperand_101 (ok_callv C rfl (by decide) (kon_X8_next l hl) (qa_wl [449, 450, 451, 80, 452] (by decide +kernel) (by decide +kernel)) ⟨rfl, by decide +kernel, by decide +kernel, by decide +kernel⟩ ⟨Nat.le_of_ble_eq_true rfl, Nat.le_of_ble_eq_true rfl⟩ dX8_parseOperand_102 (ok_iconst C (by decide) dX8_parseOperand_105 (ok_zret C hr dX8_parseOperand_106))))
    | (_ + 10), hj => exact nomatch hj)
noncomputable def B_X8_parseCommand_0 : qI := q_load 1 0 (q_callv 11 f_X8_verbHere 1 (q_store 1 1 (q_load 1 1 (q_nonnull 1 (q_load 1 0 (q_const (0, 1) (q_callv 11 f_X8_fail 2 (q_retz))))))))
noncomputable def B_X8_parseCommand_1 : qI := q_load 1 0 (q_get 11 4 0 (q_iflt 2 (q_load 1 0 (q_get 11 4 0 (q_load 1 0 (q_get 11 2 1 (q_alen (q_cmplt 3 (q_goto 2)))))))))
noncomputable def B_X8_parseCommand_2 : qI := q_load 1 0 (q_const (0, 3) (q_callv 11 f_X8_fail 2 (q_retz)))
noncomputable def B_X8_parseCommand_3 : qI := q_load 1 0 (q_get 11 2 1 (q_load 1 0 (q_get 11 4 0 (q_load 1 1 (q_vast (q_load 1 0 (q_callv 11 f_X8_next 1 (q_const (0, 0) (q_store 0 2 (q_goto 4))))))))))
noncomputable def B_X8_parseCommand_4 : qI := q_load 0 2 (q_load 1 1 (q_sget "operands" (q_calls "java/lang/String" f_J0_length_8abf5 1 (q_cmpge 6 (q_load 1 0 (q_load 1 1 (q_sget "operands" (q_load 0 2 (q_calls "java/lang/String" f_J0_charAt_5068e 2 (q_load 1 0 (q_get 11 4 0 (q_const (0, 4) (q_imul (q_load 0 2 (q_iadd (q_callv 11 f_X8_parseOperand 3 (q_ifne 5 (q_const (0, 0) (q_retz)))))))))))))))))))
noncomputable def B_X8_parseCommand_5 : qI := q_iinc 2 (1) (q_goto 4)
noncomputable def B_X8_parseCommand_6 : qI := q_load 1 0 (q_get 11 7 0 (q_const (0, 4) (q_cmpeq 7 (q_load 1 0 (q_const (0, 1) (q_callv 11 f_X8_fail 2 (q_retz)))))))
noncomputable def B_X8_parseCommand_7 : qI := q_load 1 0 (q_dup (q_get 11 4 0 (q_const (0, 1) (q_iadd (q_put 11 4 0 (q_load 1 0 (q_callv 11 f_X8_next 1 (q_const (0, 1) (q_retz)))))))))
noncomputable def P_X8_parseCommand : qP := [B_X8_parseCommand_0, B_X8_parseCommand_1, B_X8_parseCommand_2, B_X8_parseCommand_3, B_X8_parseCommand_4, B_X8_parseCommand_5, B_X8_parseCommand_6, B_X8_parseCommand_7]
noncomputable def f_X8_parseCommand : List qV → qA → Option qR := qa_fn P_X8_parseCommand 3
def pc_X8_parseCommand : Nat → Nat := fun j => [0, 15, 34, 40, 56, 92, 98, 112].getD j 0
set_option maxRecDepth 100000 in
set_option maxHeartbeats 4000000 in
theorem kon_X8_parseCommand (l : Launch) (hl : l.stackTraces = false) : qa_Con l yX8_parseCommand cX8_parseCommand 3 (some .boolean) 8 174 f_X8_parseCommand :=
  qa_method (pcs := pc_X8_parseCommand) (by decide +kernel) rfl (fun C hr hn j f hj => by
    match j, hj with
    | 0, hj => obtain rfl := Option.some.inj hj; exact ok_aload_n C rfl dX8_parseCommand_0 (ok_callv C rfl (by decide) (kon_X8_verbHere l hl) (qa_wl [467, 468, 469, 80, 470] (by decide +kernel) (by decide +kernel)) ⟨rfl, by decide +kernel, by decide +kernel, by decide +kernel⟩ ⟨Nat.le_of_ble_eq_true rfl, Nat.le_of_ble_eq_true rfl⟩ dX8_parseCommand_1 (ok_astore_n C rfl (by decide) dX8_parseCommand_4 (ok_aload_n C rfl dX8_parseCommand_5 (ok_ifnonnull C (T := 1) dX8_parseCommand_6 (by decide) (ok_aload_n C rfl dX8_parseCommand_9 (ok_iconst C (by decide) dX8_parseCommand_10 (ok_callv C rfl (by decide) (kon_X8_fail l hl) (qa_wl [524, 525, 526, 80, 527] (by decide +kernel) (by decide +kernel)) ⟨rfl, by decide +kernel, by decide +kernel, by decide +kernel⟩ ⟨Nat.le_of_ble_eq_true rfl, Nat.le_of_ble_eq_true rfl⟩ dX8_parseCommand_11 (ok_zret C hr dX8_parseCommand_14))))))))
    | 1, hj => obtain rfl := Option.some.inj hj; exact ok_aload_n C rfl dX8_parseCommand_15 (ok_get C kc_X8 (by decide) rfl rfl rfl wd_349 (fun _ h => h) dX8_parseCommand_16 (ok_iflt C (T := 2) dX8_parseCommand_19 (by decide) (ok_aload_n C rfl dX8_parseCommand_22 (ok_get C kc_X8 (by decide) rfl rfl rfl wd_349 (fun _ h => h) dX8_parseCommand_23 (ok_aload_n C rfl dX8_parseCommand_26 (ok_get C kc_X8 (by decide) rfl rfl rfl wd_347 (fun _ h => h) dX8_parseCommand_27 (ok_alen C dX8_parseCommand_30 (ok_cmplt C (T := 3) dX8_parseCommand_31 (by decide) (ok_fall rfl)))))))))
    | 2, hj => obtain rfl := Option.some.inj hj; exact ok_aload_n C rfl dX8_parseCommand_34 (ok_iconst C (by decide) dX8_parseCommand_35 (ok_callv C rfl (by decide) (kon_X8_fail l hl) (qa_wl [524, 525, 526, 80, 527] (by decide +kernel) (by decide +kernel)) ⟨rfl, by decide +kernel, by decide +kernel, by decide +kernel⟩ ⟨Nat.le_of_ble_eq_true rfl, Nat.le_of_ble_eq_true rfl⟩ dX8_parseCommand_36 (ok_zret C hr dX8_parseCommand_39)))
    | 3, hj => obtain rfl := Option.some.inj hj; exact ok_aload_n C rfl dX8_parseCommand_40 (ok_get C kc_X8 (by decide) rfl rfl rfl wd_347 (fun _ h => h) dX8_parseCommand_41 (ok_aload_n C rfl dX8_parseCommand_44 (ok_get C kc_X8 (by decide) rfl rfl rfl wd_349 (fun _ h => h) dX8_parseCommand_45 (ok_aload_n C rfl dX8_parseCommand_48 (ok_vastore C dX8_parseCommand_49 (ok_aload_n C rfl dX8_parseCommand_50 (ok_callv C rfl (by decide) (kon_X8_next l hl) (qa_wl [449, 450, 451, 80, 452] (by decide +kernel) (by decide +kernel)) ⟨rfl, by decide +kernel, by decide +kernel, by decide +kernel⟩ ⟨Nat.le_of_ble_eq_true rfl, Nat.le_of_ble_eq_true rfl⟩ dX8_parseCommand_51 (ok_iconst C (by decide) dX8_parseCommand_54 (ok_istore_n C rfl (by decide) dX8_parseCommand_55 (ok_fall rfl))))))))))
    | 4, hj => obtain rfl := Option.some.inj hj; exact ok_iload_n C rfl dX8_parseCommand_56 (ok_aload_n C rfl dX8_parseCommand_57 (ok_sget C (oc := "PromiseLog$Verb") (fd := "Ljava/lang/String;") (by decide +kernel) wd_2174 dX8_parseCommand_58 (ok_callss C (kon_J0_length_8abf5 l hl) (qa_wl [477, 478, 479, 83, 480] (by decide +kernel) (by decide +kernel)) ⟨rfl, by decide +kernel, by decide +kernel, by decide +kernel⟩ ⟨Nat.le_of_ble_eq_true rfl, Nat.le_of_ble_eq_true rfl⟩ dX8_parseCommand_61 (ok_cmpge C (T := 6) dX8_parseCommand_64 (by decide) (ok_aload_n C rfl dX8_parseCommand_67 (ok_aload_n C rfl dX8_parseCommand_68 (ok_sget C (oc := "PromiseLog$Verb") (fd := "Ljava/lang/String;") (by decide +kernel) wd_2174 dX8_parseCommand_69 (ok_iload_n C rfl dX8_parseCommand_72 (ok_callss C (kon_J0_charAt_5068e l hl) (qa_wl [486, 487, 488, 83, 489] (by decide +kernel) (by decide +kernel)) ⟨rfl, by decide +kernel, by decide +kernel, by decide +kernel⟩ ⟨Nat.le_of_ble_eq_true rfl, Nat.le_of_ble_eq_true rfl⟩ dX8_parseCommand_73 (ok_aload_n C rfl dX8_parseCommand_76 (ok_get C kc_X8 (by decide) rfl rfl rfl wd_349 (fun _ h => h) dX8_parseCommand_77 (ok_iconst C (by decide) dX8_parseCommand_80 (ok_imul C dX8_parseCommand_81 (ok_iload_n C rfl dX8_parseCommand_82 (ok_iadd C dX8_parseCommand_83 (ok_callv C rfl (by decide) (kon_X8_parseOperand l hl) (qa_wl [528, 529, 530, 80, 531] (by decide +kernel) (by decide +kernel)) ⟨rfl, by decide +kernel, by decide +kernel, by decide +kernel⟩ ⟨Nat.le_of_ble_eq_true rfl, Nat.le_of_ble_eq_true rfl⟩ dX8_parseCommand_84 (ok_ifne C (T := 5) dX8_parseCommand_87 (by decide) (ok_iconst C (by decide) dX8_parseCommand_90 (ok_zret C hr dX8_parseCommand_91)))))))))))))))))))
    | 5, hj => obtain rfl := Option.some.inj hj; exact ok_iinc C (by decide) (by decide) dX8_parseCommand_92 (ok_goto C dX8_parseCommand_95 (by decide))
    | 6, hj => obtain rfl := Option.some.inj hj; exact ok_aload_n C rfl dX8_parseCommand_98 (ok_get C kc_X8 (by decide) rfl rfl rfl wd_355 (fun _ h => h) dX8_parseCommand_99 (ok_iconst C (by decide) dX8_parseCommand_102 (ok_cmpeq C (T := 7) dX8_parseCommand_103 (by decide) (ok_aload_n C rfl dX8_parseCommand_106 (ok_iconst C (by decide) dX8_parseCommand_107 (ok_callv C rfl (by decide) (kon_X8_fail l hl) (qa_wl [524, 525, 526, 80, 527] (by decide +kernel) (by decide +kernel)) ⟨rfl, by decide +kernel, by decide +kernel, by decide +kernel⟩ ⟨Nat.le_of_ble_eq_true rfl, Nat.le_of_ble_eq_true rfl⟩ dX8_parseCommand_108 (ok_zret C hr dX8_parseCommand_111)))))))
    | 7, hj => obtain rfl := Option.some.inj hj; exact ok_aload_n C rfl dX8_parseCommand_112 (ok_dup C dX8_parseCommand_113 (ok_get C kc_X8 (by decide) rfl rfl rfl wd_349 (fun _ h => h) dX8_parseCommand_114 (ok_iconst C (by decide) dX8_parseCommand_117 (ok_iadd C dX8_parseCommand_118 (ok_put C kc_X8 (by decide) rfl rfl rfl wd_349 (fun _ h => h) (Or.inl rfl) qa_fit0 dX8_parseCommand_119 (ok_aload_n C rfl dX8_parseCommand_122 (ok_callv C rfl (by decide) (kon_X8_next l hl) (qa_wl [449, 450, 451, 80, 452] (by decide +kernel) (by decide +kernel)) ⟨rfl, by decide +kernel, by decide +kernel, by decide +kernel⟩ ⟨Nat.le_of_ble_eq_true rfl, Nat.le_of_ble_eq_true rfl⟩ dX8_parseCommand_123 (ok_iconst C (by decide) dX8_parseCommand_126 (ok_zret C hr dX8_parseCommand_127)))))))))
    | (_ + 8), hj => exact nomatch hj)
noncomputable def B_X8_parse_0 : qI := q_load 1 0 (q_const (0, 0) (q_put 11 4 0 (q_load 1 0 (q_const (0, 0) (q_put 11 5 0 (q_load 1 0 (q_const (0, -1) (q_put 11 6 0 (q_load 1 0 (q_const (0, 0) (q_put 11 9 0 (q_load 1 0 (q_callv 11 f_X8_next 1 (q_const (0, 1) (q_store 0 1 (q_const (0, 0) (q_store 0 2 (q_goto 1))))))))))))))))))
noncomputable def B_X8_parse_1 : qI := q_load 0 2 (q_const (0, 60) (q_cmpgt 2 (q_load 0 1 (q_ifeq 2 (q_load 1 0 (q_get 11 7 0 (q_ifeq 2 (q_load 1 0 (q_callv 11 f_X8_parseCommand 1 (q_store 0 1 (q_iinc 2 (1) (q_goto 1))))))))))))
noncomputable def B_X8_parse_2 : qI := q_load 0 1 (q_retz)
noncomputable def P_X8_parse : qP := [B_X8_parse_0, B_X8_parse_1, B_X8_parse_2]
noncomputable def f_X8_parse : List qV → qA → Option qR := qa_fn P_X8_parse 3
def pc_X8_parse : Nat → Nat := fun j => [0, 28, 56].getD j 0
set_option maxRecDepth 100000 in
set_option maxHeartbeats 4000000 in
theorem kon_X8_parse (l : Launch) (hl : l.stackTraces = false) : qa_Con l yX8_parse cX8_parse 3 (some .boolean) 9 196 f_X8_parse :=
  qa_method (pcs := pc_X8_parse) (by decide +kernel) rfl (fun C hr hn j f hj => by
    match j, hj with
    | 0, hj => obtain rfl := Option.some.inj hj; exact ok_aload_n C rfl dX8_parse_0 (ok_iconst C (by decide) dX8_parse_1 (ok_put C kc_X8 (by decide) rfl rfl rfl wd_349 (fun _ h => h) (Or.inl rfl) qa_fit0 dX8_parse_2 (ok_aload_n C rfl dX8_parse_5 (ok_iconst C (by decide) dX8_parse_6 (ok_put C kc_X8 (by decide) rfl rfl rfl wd_352 (fun _ h => h) (Or.inl rfl) qa_fit0 dX8_parse_7 (ok_aload_n C rfl dX8_parse_10 (ok_iconst C (by decide) dX8_parse_11 (ok_put C kc_X8 (by decide) rfl rfl rfl wd_353 (fun _ h => h) (Or.inl rfl) qa_fit0 dX8_parse_12 (ok_aload_n C rfl dX8_parse_15 (ok_iconst C (by decide) dX8_parse_16 (ok_put C kc_X8 (by decide) rfl rfl rfl wd_357 (fun _ h => h) (Or.inl rfl) qa_fit0 dX8_parse_17 (ok_aload_n C rfl dX8_parse_20 (ok_callv C rfl (by decide) (kon_X8_next l hl) (qa_wl [449, 450, 451, 80, 452] (by decide +kernel) (by decide +kernel)) ⟨rfl, by decide +kernel, by decide +kernel, by decide +kernel⟩ ⟨Nat.le_of_ble_eq_true rfl, Nat.le_of_ble_eq_true rfl⟩ dX8_parse_21 (ok_iconst C (by decide) dX8_parse_24 (ok_istore_n C rfl (by decide) dX8_parse_25 (ok_iconst C (by decide) dX8_parse_26 (ok_istore_n C rfl (by decide) dX8_parse_27 (ok_fall rfl))))))))))))))))))
    | 1, hj => obtain rfl := Option.some.inj hj; exact ok_iload_n C rfl dX8_parse_28 (ok_bipush C (by decide) dX8_parse_29 (ok_cmpgt C (T := 2) dX8_parse_31 (by decide) (ok_iload_n C rfl dX8_parse_34 (ok_ifeq C (T := 2) dX8_parse_35 (by decide) (ok_aload_n C rfl dX8_parse_38 (ok_get C kc_X8 (by decide) rfl rfl rfl wd_355 (fun _ h => h) dX8_parse_39 (ok_ifeq C (T := 2) dX8_parse_42 (by decide) (ok_aload_n C rfl dX8_parse_45 (ok_callv C rfl (by decide) (kon_X8_parseCommand l hl) (qa_wl [463, 464, 465, 80, 466] (by decide +kernel) (by decide +kernel)) ⟨rfl, by decide +kernel, by decide +kernel, by decide +kernel⟩ ⟨Nat.le_of_ble_eq_true rfl, Nat.le_of_ble_eq_true rfl⟩ dX8_parse_46 (ok_istore_n C rfl (by decide) dX8_parse_49 (ok_iinc C (by decide) (by decide) dX8_parse_50 (ok_goto C dX8_parse_53 (by decide)))))))))))))
    | 2, hj => obtain rfl := Option.some.inj hj; exact ok_iload_n C rfl dX8_parse_56 (ok_zret C hr dX8_parse_57)
    | (_ + 3), hj => exact nomatch hj)
noncomputable def B_X8_verbOf_0 : qI := q_load 0 1 (q_iflt 1 (q_load 0 1 (q_load 1 0 (q_get 11 4 0 (q_cmpge 1 (q_load 0 1 (q_load 1 0 (q_get 11 2 1 (q_alen (q_cmpge 1 (q_load 1 0 (q_get 11 2 1 (q_load 0 1 (q_ald 110 1 (q_goto 2)))))))))))))))
noncomputable def B_X8_verbOf_1 : qI := q_const (1, -1) (q_goto 2)
noncomputable def B_X8_verbOf_2 : qI := q_ret 1
noncomputable def P_X8_verbOf : qP := [B_X8_verbOf_0, B_X8_verbOf_1, B_X8_verbOf_2]
noncomputable def f_X8_verbOf : List qV → qA → Option qR := qa_fn P_X8_verbOf 2
def pc_X8_verbOf : Nat → Nat := fun j => [0, 30, 31].getD j 0
set_option maxRecDepth 100000 in
set_option maxHeartbeats 4000000 in
theorem kon_X8_verbOf (l : Launch) (hl : l.stackTraces = false) : qa_Con l yX8_verbOf cX8_verbOf 2 (some (.object "PromiseLog$Verb")) 1 20 f_X8_verbOf :=
  qa_method (pcs := pc_X8_verbOf) (by decide +kernel) rfl (fun C hr hn j f hj => by
    match j, hj with
    | 0, hj => obtain rfl := Option.some.inj hj; exact ok_iload_n C rfl dX8_verbOf_0 (ok_iflt C (T := 1) dX8_verbOf_1 (by decide) (ok_iload_n C rfl dX8_verbOf_4 (ok_aload_n C rfl dX8_verbOf_5 (ok_get C kc_X8 (by decide) rfl rfl rfl wd_349 (fun _ h => h) dX8_verbOf_6 (ok_cmpge C (T := 1) dX8_verbOf_9 (by decide) (ok_iload_n C rfl dX8_verbOf_12 (ok_aload_n C rfl dX8_verbOf_13 (ok_get C kc_X8 (by decide) rfl rfl rfl wd_347 (fun _ h => h) dX8_verbOf_14 (ok_alen C dX8_verbOf_17 (ok_cmpge C (T := 1) dX8_verbOf_18 (by decide) (ok_aload_n C rfl dX8_verbOf_21 (ok_get C kc_X8 (by decide) rfl rfl rfl wd_347 (fun _ h => h) dX8_verbOf_22 (ok_iload_n C rfl dX8_verbOf_25 (ok_vaload C dX8_verbOf_26 (ok_goto C dX8_verbOf_27 (by decide))))))))))))))))
    | 1, hj => obtain rfl := Option.some.inj hj; exact ok_null C dX8_verbOf_30 (ok_fall rfl)
    | 2, hj => obtain rfl := Option.some.inj hj; exact ok_aret C hr (Or.inl ⟨_, rfl⟩) dX8_verbOf_31
    | (_ + 3), hj => exact nomatch hj)
noncomputable def B_X8_operandOf_0 : qI := q_load 0 1 (q_const (0, 4) (q_imul (q_load 0 2 (q_iadd (q_store 0 3 (q_load 0 3 (q_iflt 1 (q_load 0 3 (q_load 1 0 (q_get 11 3 1 (q_alen (q_cmpge 1 (q_load 1 0 (q_get 11 3 1 (q_load 0 3 (q_ald 101 0 (q_goto 2)))))))))))))))))
noncomputable def B_X8_operandOf_1 : qI := q_const (0, 0) (q_goto 2)
noncomputable def B_X8_operandOf_2 : qI := q_ret 0
noncomputable def P_X8_operandOf : qP := [B_X8_operandOf_0, B_X8_operandOf_1, B_X8_operandOf_2]
noncomputable def f_X8_operandOf : List qV → qA → Option qR := qa_fn P_X8_operandOf 4
def pc_X8_operandOf : Nat → Nat := fun j => [0, 28, 29].getD j 0
set_option maxRecDepth 100000 in
set_option maxHeartbeats 4000000 in
theorem kon_X8_operandOf (l : Launch) (hl : l.stackTraces = false) : qa_Con l yX8_operandOf cX8_operandOf 4 (some .int) 1 20 f_X8_operandOf :=
  qa_method (pcs := pc_X8_operandOf) (by decide +kernel) rfl (fun C hr hn j f hj => by
    match j, hj with
    | 0, hj => obtain rfl := Option.some.inj hj; exact ok_iload_n C rfl dX8_operandOf_0 (ok_iconst C (by decide) dX8_operandOf_1 (ok_imul C dX8_operandOf_2 (ok_iload_n C rfl dX8_operandOf_3 (ok_iadd C dX8_operandOf_4 (ok_istore_n C rfl (by decide) dX8_operandOf_5 (ok_iload_n C rfl dX8_operandOf_6 (ok_iflt C (T := 1) dX8_operandOf_7 (by decide) (ok_iload_n C rfl dX8_operandOf_10 (ok_aload_n C rfl dX8_operandOf_11 (ok_get C kc_X8 (by decide) rfl rfl rfl wd_348 (fun _ h => h) dX8_operandOf_12 (ok_alen C dX8_operandOf_15 (ok_cmpge C (T := 1) dX8_operandOf_16 (by decide) (ok_aload_n C rfl dX8_operandOf_19 (ok_get C kc_X8 (by decide) rfl rfl rfl wd_348 (fun _ h => h) dX8_operandOf_20 (ok_iload_n C rfl dX8_operandOf_23 (ok_iaload C dX8_operandOf_24 (ok_goto C dX8_operandOf_25 (by decide))))))))))))))))))
    | 1, hj => obtain rfl := Option.some.inj hj; exact ok_iconst C (by decide) dX8_operandOf_28 (ok_fall rfl)
    | 2, hj => obtain rfl := Option.some.inj hj; exact ok_iret C hr dX8_operandOf_29
    | (_ + 3), hj => exact nomatch hj)
noncomputable def B_X9_branchAt_0 : qI := q_load 0 1 (q_iflt 1 (q_load 0 1 (q_load 1 0 (q_get 12 3 1 (q_alen (q_cmpge 1 (q_const (0, 1) (q_goto 2))))))))
noncomputable def B_X9_branchAt_1 : qI := q_const (0, 0) (q_goto 2)
noncomputable def B_X9_branchAt_2 : qI := q_store 0 2 (q_load 0 2 (q_ifeq 3 (q_load 1 0 (q_get 12 3 1 (q_load 0 1 (q_ald (111 + 5) 1 (q_get 5 1 0 (q_ifeq 3 (q_load 1 0 (q_get 12 3 1 (q_load 0 1 (q_ald (111 + 5) 1 (q_goto 4)))))))))))))
noncomputable def B_X9_branchAt_3 : qI := q_const (1, -1) (q_goto 4)
noncomputable def B_X9_branchAt_4 : qI := q_ret 1
noncomputable def P_X9_branchAt : qP := [B_X9_branchAt_0, B_X9_branchAt_1, B_X9_branchAt_2, B_X9_branchAt_3, B_X9_branchAt_4]
noncomputable def f_X9_branchAt : List qV → qA → Option qR := qa_fn P_X9_branchAt 3
def pc_X9_branchAt : Nat → Nat := fun j => [0, 17, 18, 44, 45].getD j 0
set_option maxRecDepth 100000 in
set_option maxHeartbeats 4000000 in
theorem kon_X9_branchAt (l : Launch) (hl : l.stackTraces = false) : qa_Con l yX9_branchAt cX9_branchAt 3 (some (.object "PromiseLog$Branch")) 1 20 f_X9_branchAt :=
  qa_method (pcs := pc_X9_branchAt) (by decide +kernel) rfl (fun C hr hn j f hj => by
    match j, hj with
    | 0, hj => obtain rfl := Option.some.inj hj; exact ok_iload_n C rfl dX9_branchAt_0 (ok_iflt C (T := 1) dX9_branchAt_1 (by decide) (ok_iload_n C rfl dX9_branchAt_4 (ok_aload_n C rfl dX9_branchAt_5 (ok_get C kc_X9 (by decide) rfl rfl rfl wd_279 (fun _ h => h) dX9_branchAt_6 (ok_alen C dX9_branchAt_9 (ok_cmpge C (T := 1) dX9_branchAt_10 (by decide) (ok_iconst C (by decide) dX9_branchAt_13 (ok_goto C dX9_branchAt_14 (by decide)))))))))
    | 1, hj => obtain rfl := Option.some.inj hj; exact ok_iconst C (by decide) dX9_branchAt_17 (ok_fall rfl)
    | 2, hj => obtain rfl := Option.some.inj hj; exact ok_istore_n C rfl (by decide) dX9_branchAt_18 (ok_iload_n C rfl dX9_branchAt_19 (ok_ifeq C (T := 3) dX9_branchAt_20 (by decide) (ok_aload_n C rfl dX9_branchAt_23 (ok_get C kc_X9 (by decide) rfl rfl rfl wd_279 (fun _ h => h) dX9_branchAt_24 (ok_iload_n C rfl dX9_branchAt_27 (ok_aaload C dX9_branchAt_28 (ok_get C kc_X2 (by decide) rfl rfl rfl wd_143 (fun _ h => h) dX9_branchAt_29 (ok_ifeq C (T := 3) dX9_branchAt_32 (by decide) (ok_aload_n C rfl dX9_branchAt_35 (ok_get C kc_X9 (by decide) rfl rfl rfl wd_279 (fun _ h => h) dX9_branchAt_36 (ok_iload_n C rfl dX9_branchAt_39 (ok_aaload C dX9_branchAt_40 (ok_goto C dX9_branchAt_41 (by decide))))))))))))))
    | 3, hj => obtain rfl := Option.some.inj hj; exact ok_null C dX9_branchAt_44 (ok_fall rfl)
    | 4, hj => obtain rfl := Option.some.inj hj; exact ok_aret C hr (Or.inl ⟨_, rfl⟩) dX9_branchAt_45
    | (_ + 5), hj => exact nomatch hj)
noncomputable def B_X9_readerAt_0 : qI := q_load 0 1 (q_iflt 1 (q_load 0 1 (q_load 1 0 (q_get 12 4 1 (q_alen (q_cmpge 1 (q_const (0, 1) (q_goto 2))))))))
noncomputable def B_X9_readerAt_1 : qI := q_const (0, 0) (q_goto 2)
noncomputable def B_X9_readerAt_2 : qI := q_store 0 2 (q_load 0 2 (q_ifeq 3 (q_load 1 0 (q_get 12 4 1 (q_load 0 1 (q_ald (111 + 9) 1 (q_get 9 0 0 (q_ifeq 3 (q_load 1 0 (q_get 12 4 1 (q_load 0 1 (q_ald (111 + 9) 1 (q_goto 4)))))))))))))
noncomputable def B_X9_readerAt_3 : qI := q_const (1, -1) (q_goto 4)
noncomputable def B_X9_readerAt_4 : qI := q_ret 1
noncomputable def P_X9_readerAt : qP := [B_X9_readerAt_0, B_X9_readerAt_1, B_X9_readerAt_2, B_X9_readerAt_3, B_X9_readerAt_4]
noncomputable def f_X9_readerAt : List qV → qA → Option qR := qa_fn P_X9_readerAt 3
def pc_X9_readerAt : Nat → Nat := fun j => [0, 17, 18, 44, 45].getD j 0
set_option maxRecDepth 100000 in
set_option maxHeartbeats 4000000 in
theorem kon_X9_readerAt (l : Launch) (hl : l.stackTraces = false) : qa_Con l yX9_readerAt cX9_readerAt 3 (some (.object "PromiseLog$Reader")) 1 20 f_X9_readerAt :=
  qa_method (pcs := pc_X9_readerAt) (by decide +kernel) rfl (fun C hr hn j f hj => by
    match j, hj with
    | 0, hj => obtain rfl := Option.some.inj hj; exact ok_iload_n C rfl dX9_readerAt_0 (ok_iflt C (T := 1) dX9_readerAt_1 (by decide) (ok_iload_n C rfl dX9_readerAt_4 (ok_aload_n C rfl dX9_readerAt_5 (ok_get C kc_X9 (by decide) rfl rfl rfl wd_280 (fun _ h => h) dX9_readerAt_6 (ok_alen C dX9_readerAt_9 (ok_cmpge C (T := 1) dX9_readerAt_10 (by decide) (ok_iconst C (by decide) dX9_readerAt_13 (ok_goto C dX9_readerAt_14 (by decide)))))))))
    | 1, hj => obtain rfl := Option.some.inj hj; exact ok_iconst C (by decide) dX9_readerAt_17 (ok_fall rfl)
    | 2, hj => obtain rfl := Option.some.inj hj; exact ok_istore_n C rfl (by decide) dX9_readerAt_18 (ok_iload_n C rfl dX9_readerAt_19 (ok_ifeq C (T := 3) dX9_readerAt_20 (by decide) (ok_aload_n C rfl dX9_readerAt_23 (ok_get C kc_X9 (by decide) rfl rfl rfl wd_280 (fun _ h => h) dX9_readerAt_24 (ok_iload_n C rfl dX9_readerAt_27 (ok_aaload C dX9_readerAt_28 (ok_get C kc_X6 (by decide) rfl rfl rfl wd_224 (fun _ h => h) dX9_readerAt_29 (ok_ifeq C (T := 3) dX9_readerAt_32 (by decide) (ok_aload_n C rfl dX9_readerAt_35 (ok_get C kc_X9 (by decide) rfl rfl rfl wd_280 (fun _ h => h) dX9_readerAt_36 (ok_iload_n C rfl dX9_readerAt_39 (ok_aaload C dX9_readerAt_40 (ok_goto C dX9_readerAt_41 (by decide))))))))))))))
    | 3, hj => obtain rfl := Option.some.inj hj; exact ok_null C dX9_readerAt_44 (ok_fall rfl)
    | 4, hj => obtain rfl := Option.some.inj hj; exact ok_aret C hr (Or.inl ⟨_, rfl⟩) dX9_readerAt_45
    | (_ + 5), hj => exact nomatch hj)
noncomputable def B_X1_forgetOldest_0 : qI := q_load 1 0 (q_get 4 1 1 (q_const (0, 0) (q_ald (111 + 12) 1 (q_store 1 1 (q_const (0, 1) (q_store 0 2 (q_goto 1)))))))
noncomputable def B_X1_forgetOldest_1 : qI := q_load 0 2 (q_load 1 0 (q_get 4 1 1 (q_alen (q_cmpge 2 (q_load 1 0 (q_get 4 1 1 (q_load 0 2 (q_const (0, 1) (q_isub (q_load 1 0 (q_get 4 1 1 (q_load 0 2 (q_ald (111 + 12) 1 (q_aast 12 (q_iinc 2 (1) (q_goto 1))))))))))))))))
noncomputable def B_X1_forgetOldest_2 : qI := q_load 1 0 (q_get 4 1 1 (q_load 1 0 (q_get 4 1 1 (q_alen (q_const (0, 1) (q_isub (q_load 1 1 (q_aast 12 (q_load 1 0 (q_dup (q_get 4 2 0 (q_const (0, 1) (q_isub (q_put 4 2 0 (q_vret)))))))))))))))
noncomputable def P_X1_forgetOldest : qP := [B_X1_forgetOldest_0, B_X1_forgetOldest_1, B_X1_forgetOldest_2]
noncomputable def f_X1_forgetOldest : List qV → qA → Option qR := qa_fn P_X1_forgetOldest 3
def pc_X1_forgetOldest : Nat → Nat := fun j => [0, 9, 38].getD j 0
set_option maxRecDepth 100000 in
set_option maxHeartbeats 4000000 in
theorem kon_X1_forgetOldest (l : Launch) (hl : l.stackTraces = false) : qa_Con l yX1_forgetOldest cX1_forgetOldest 3 none 1 20 f_X1_forgetOldest :=
  qa_method (pcs := pc_X1_forgetOldest) (by decide +kernel) rfl (fun C hr hn j f hj => by
    match j, hj with
    | 0, hj => obtain rfl := Option.some.inj hj; exact ok_aload_n C rfl dX1_forgetOldest_0 (ok_get C kc_X1 (by decide) rfl rfl rfl wd_301 (fun _ h => h) dX1_forgetOldest_1 (ok_iconst C (by decide) dX1_forgetOldest_4 (ok_aaload C dX1_forgetOldest_5 (ok_astore_n C rfl (by decide) dX1_forgetOldest_6 (ok_iconst C (by decide) dX1_forgetOldest_7 (ok_istore_n C rfl (by decide) dX1_forgetOldest_8 (ok_fall rfl)))))))
    | 1, hj => obtain rfl := Option.some.inj hj; exact ok_iload_n C rfl dX1_forgetOldest_9 (ok_aload_n C rfl dX1_forgetOldest_10 (ok_get C kc_X1 (by decide) rfl rfl rfl wd_301 (fun _ h => h) dX1_forgetOldest_11 (ok_alen C dX1_forgetOldest_14 (ok_cmpge C (T := 2) dX1_forgetOldest_15 (by decide) (ok_aload_n C rfl dX1_forgetOldest_18 (ok_get C kc_X1 (by decide) rfl rfl rfl wd_301 (fun _ h => h) dX1_forgetOldest_19 (ok_iload_n C rfl dX1_forgetOldest_22 (ok_iconst C (by decide) dX1_forgetOldest_23 (ok_isub C dX1_forgetOldest_24 (ok_aload_n C rfl dX1_forgetOldest_25 (ok_get C kc_X1 (by decide) rfl rfl rfl wd_301 (fun _ h => h) dX1_forgetOldest_26 (ok_iload_n C rfl dX1_forgetOldest_29 (ok_aaload C dX1_forgetOldest_30 (ok_aastore C rfl (by decide) dX1_forgetOldest_31 (ok_iinc C (by decide) (by decide) dX1_forgetOldest_32 (ok_goto C dX1_forgetOldest_35 (by decide)))))))))))))))))
    | 2, hj => obtain rfl := Option.some.inj hj; exact ok_aload_n C rfl dX1_forgetOldest_38 (ok_get C kc_X1 (by decide) rfl rfl rfl wd_301 (fun _ h => h) dX1_forgetOldest_39 (ok_aload_n C rfl dX1_forgetOldest_42 (ok_get C kc_X1 (by decide) rfl rfl rfl wd_301 (fun _ h => h) dX1_forgetOldest_43 (ok_alen C dX1_forgetOldest_46 (ok_iconst C (by decide) dX1_forgetOldest_47 (ok_isub C dX1_forgetOldest_48 (ok_aload_n C rfl dX1_forgetOldest_49 (ok_aastore C rfl (by decide) dX1_forgetOldest_50 (ok_aload_n C rfl dX1_forgetOldest_51 (ok_dup C dX1_forgetOldest_52 (ok_get C kc_X1 (by decide) rfl rfl rfl wd_302 (fun _ h => h) dX1_forgetOldest_53 (ok_iconst C (by decide) dX1_forgetOldest_56 (ok_isub C dX1_forgetOldest_57 (ok_put C kc_X1 (by decide) rfl rfl rfl wd_302 (fun _ h => h) (Or.inl rfl) qa_fit0 dX1_forgetOldest_58 (ok_vret C hr dX1_forgetOldest_61)))))))))))))))
    | (_ + 3), hj => exact nomatch hj)
noncomputable def B_X2_copyFrom_0 : qI := q_load 1 0 (q_load 1 1 (q_get 5 1 0 (q_putz 5 1 (q_load 1 0 (q_load 1 1 (q_get 5 2 0 (q_put 5 2 0 (q_load 1 0 (q_load 1 1 (q_get 5 3 0 (q_put 5 3 0 (q_load 1 0 (q_load 1 1 (q_get 5 4 0 (q_put 5 4 0 (q_load 1 0 (q_load 1 1 (q_get 5 5 0 (q_put 5 5 0 (q_load 1 0 (q_load 1 1 (q_get 5 6 0 (q_put 5 6 0 (q_load 1 0 (q_load 1 1 (q_get 5 7 0 (q_put 5 7 0 (q_load 1 0 (q_get 5 1 0 (q_goto 1))))))))))))))))))))))))))))))
noncomputable def B_X2_copyFrom_1 : qI := q_ifeq 2 (q_load 1 0 (q_get 5 4 0 (q_iflt 2 (q_load 1 0 (q_get 5 4 0 (q_load 1 0 (q_get 5 5 0 (q_cmpge 2 (q_load 1 0 (q_get 5 5 0 (q_const (0, 512) (q_cmpgt 2 (q_load 1 1 (q_get 5 8 1 (q_load 1 0 (q_get 5 4 0 (q_load 1 0 (q_get 5 8 1 (q_load 1 0 (q_get 5 4 0 (q_load 1 0 (q_get 5 5 0 (q_load 1 0 (q_get 5 4 0 (q_isub (q_copyr 8 (q_goto 2)))))))))))))))))))))))))))
noncomputable def B_X2_copyFrom_2 : qI := q_vret
noncomputable def P_X2_copyFrom : qP := [B_X2_copyFrom_0, B_X2_copyFrom_1, B_X2_copyFrom_2]
noncomputable def f_X2_copyFrom : List qV → qA → Option qR := qa_fn P_X2_copyFrom 2
def pc_X2_copyFrom : Nat → Nat := fun j => [0, 60, 119].getD j 0
set_option maxRecDepth 100000 in
set_option maxHeartbeats 4000000 in
theorem kon_X2_copyFrom (l : Launch) (hl : l.stackTraces = false) : qa_Con l yX2_copyFrom cX2_copyFrom 2 none 1 120 f_X2_copyFrom :=
  qa_method (pcs := pc_X2_copyFrom) (by decide +kernel) rfl (fun C hr hn j f hj => by
    match j, hj with
    | 0, hj => obtain rfl := Option.some.inj hj; exact ok_aload_n C rfl dX2_copyFrom_0 (ok_aload_n C rfl dX2_copyFrom_1 (ok_get C kc_X2 (by decide) rfl rfl rfl wd_144 (fun _ h => h) dX2_copyFrom_2 (ok_putz C kc_X2 (by decide) rfl rfl rfl wd_144 (fun _ h => h) (Or.inl rfl) dX2_copyFrom_5 (ok_aload_n C rfl dX2_copyFrom_8 (ok_aload_n C rfl dX2_copyFrom_9 (ok_get C kc_X2 (by decide) rfl rfl rfl wd_146 (fun _ h => h) dX2_copyFrom_10 (ok_put C kc_X2 (by decide) rfl rfl rfl wd_146 (fun _ h => h) (Or.inl rfl) qa_fit0 dX2_copyFrom_13 (ok_aload_n C rfl dX2_copyFrom_16 (ok_aload_n C rfl dX2_copyFrom_17 (ok_get C kc_X2 (by decide) rfl rfl rfl wd_149 (fun _ h => h) dX2_copyFrom_18 (ok_put C kc_X2 (by decide) rfl rfl rfl wd_149 (fun _ h => h) (Or.inl rfl) qa_fit0 dX2_copyFrom_21 (ok_aload_n C rfl dX2_copyFrom_24 (ok_aload_n C rfl dX2_copyFrom_25 (ok_get C kc_X2 (by decide) rfl rfl rfl wd_152 (fun _ h => h) dX2_copyFrom_26 (ok_put C kc_X2 (by decide) rfl rfl rfl wd_152 (fun _ h => h) (Or.inl rfl) qa_fit0 dX2_copyFrom_29 (ok_aload_n C rfl dX2_copyFrom_32 (ok_aload_n C rfl dX2_copyFrom_33 (ok_get C kc_X2 (by decide) rfl rfl rfl wd_155 (fun _ h => h) dX2_copyFrom_34 (ok_put C kc_X2 (by decide) rfl rfl rfl wd_155 (fun _ h => h) (Or.inl rfl) qa_fit0 dX2_copyFrom_37 (ok_aload_n C rfl dX2_copyFrom_40 (ok_aload_n C rfl dX2_copyFrom_41 (ok_get C kc_X2 (by decide) rfl rfl rfl wd_158 (fun _ h => h) dX2_copyFrom_42 (ok_put C kc_X2 (by decide) rfl rfl rfl wd_158 (fun _ h => h) (Or.inl rfl) qa_fit0 dX2_copyFrom_45 (ok_aload_n C rfl dX2_copyFrom_48 (ok_aload_n C rfl dX2_copyFrom_49 (ok_get C kc_X2 (by decide) rfl rfl rfl wd_161 (fun _ h => h) dX2_copyFrom_50 (ok_put C kc_X2 (by decide) rfl rfl rfl wd_161 (fun _ h => h) (Or.inl rfl) qa_fit0 dX2_copyFrom_53 (ok_aload_n C rfl dX2_copyFrom_56 (ok_get C kc_X2 (by decide) rfl rfl rfl wd_144 (fun _ h => h) dX2_copyFrom_57 (ok_fall rfl))))))))))))))))))))))))))))))
    | 1, hj => obtain rfl := Option.some.inj hj; exact ok_ifeq C (T := 2) dX2_copyFrom_60 (by decide) (ok_aload_n C rfl dX2_copyFrom_63 (ok_get C kc_X2 (by decide) rfl rfl rfl wd_152 (fun _ h => h) dX2_copyFrom_64 (ok_iflt C (T := 2) dX2_copyFrom_67 (by decide) (ok_aload_n C rfl dX2_copyFrom_70 (ok_get C kc_X2 (by decide) rfl rfl rfl wd_152 (fun _ h => h) dX2_copyFrom_71 (ok_aload_n C rfl dX2_copyFrom_74 (ok_get C kc_X2 (by decide) rfl rfl rfl wd_155 (fun _ h => h) dX2_copyFrom_75 (ok_cmpge C (T := 2) dX2_copyFrom_78 (by decide) (ok_aload_n C rfl dX2_copyFrom_81 (ok_get C kc_X2 (by decide) rfl rfl rfl wd_155 (fun _ h => h) dX2_copyFrom_82 (ok_sipush C (by decide) dX2_copyFrom_85 (ok_cmpgt C (T := 2) dX2_copyFrom_88 (by decide) (ok_aload_n C rfl dX2_copyFrom_91 (ok_get C kc_X2 (by decide) rfl rfl rfl wd_164 (fun _ h => h) dX2_copyFrom_92 (ok_aload_n C rfl dX2_copyFrom_95 (ok_get C kc_X2 (by decide) rfl rfl rfl wd_152 (fun _ h => h) dX2_copyFrom_96 (ok_aload_n C rfl dX2_copyFrom_99 (ok_get C kc_X2 (by decide) rfl rfl rfl wd_164 (fun _ h => h) dX2_copyFrom_100 (ok_aload_n C rfl dX2_copyFrom_103 (ok_get C kc_X2 (by decide) rfl rfl rfl wd_152 (fun _ h => h) dX2_copyFrom_104 (ok_aload_n C rfl dX2_copyFrom_107 (ok_get C kc_X2 (by decide) rfl rfl rfl wd_155 (fun _ h => h) dX2_copyFrom_108 (ok_aload_n C rfl dX2_copyFrom_111 (ok_get C kc_X2 (by decide) rfl rfl rfl wd_152 (fun _ h => h) dX2_copyFrom_112 (ok_isub C dX2_copyFrom_115 (ok_copyr C rfl (by decide) (qa_wl [694, 689, 688, 96] (by decide +kernel) (by decide +kernel)) (Nat.le_of_ble_eq_true rfl) (Nat.le_of_ble_eq_true rfl) dX2_copyFrom_116 (ok_fall rfl)))))))))))))))))))))))))))
    | 2, hj => obtain rfl := Option.some.inj hj; exact ok_vret C hr dX2_copyFrom_119
    | (_ + 3), hj => exact nomatch hj)
noncomputable def B_X3_copyFrom_0 : qI := q_load 1 0 (q_load 1 1 (q_get 6 0 0 (q_put 6 0 0 (q_load 1 0 (q_load 1 1 (q_get 6 1 0 (q_put 6 1 0 (q_load 1 0 (q_load 1 1 (q_get 6 2 0 (q_put 6 2 0 (q_load 1 0 (q_load 1 1 (q_get 6 3 0 (q_put 6 3 0 (q_load 1 0 (q_load 1 1 (q_get 6 4 0 (q_put 6 4 0 (q_load 1 0 (q_load 1 1 (q_get 6 5 0 (q_put 6 5 0 (q_load 1 0 (q_load 1 1 (q_get 6 6 0 (q_put 6 6 0 (q_load 1 1 (q_get 6 7 1 (q_goto 1))))))))))))))))))))))))))))))
noncomputable def B_X3_copyFrom_1 : qI := q_const (0, 0) (q_load 1 0 (q_get 6 7 1 (q_const (0, 0) (q_const (0, 10) (q_copy 101 (q_vret))))))
noncomputable def P_X3_copyFrom : qP := [B_X3_copyFrom_0, B_X3_copyFrom_1]
noncomputable def f_X3_copyFrom : List qV → qA → Option qR := qa_fn P_X3_copyFrom 2
def pc_X3_copyFrom : Nat → Nat := fun j => [0, 60].getD j 0
set_option maxRecDepth 100000 in
set_option maxHeartbeats 4000000 in
theorem kon_X3_copyFrom (l : Launch) (hl : l.stackTraces = false) : qa_Con l yX3_copyFrom cX3_copyFrom 2 none 1 120 f_X3_copyFrom :=
  qa_method (pcs := pc_X3_copyFrom) (by decide +kernel) rfl (fun C hr hn j f hj => by
    match j, hj with
    | 0, hj => obtain rfl := Option.some.inj hj; exact ok_aload_n C rfl dX3_copyFrom_0 (ok_aload_n C rfl dX3_copyFrom_1 (ok_get C kc_X3 (by decide) rfl rfl rfl wd_195 (fun _ h => h) dX3_copyFrom_2 (ok_put C kc_X3 (by decide) rfl rfl rfl wd_195 (fun _ h => h) (Or.inl rfl) qa_fit0 dX3_copyFrom_5 (ok_aload_n C rfl dX3_copyFrom_8 (ok_aload_n C rfl dX3_copyFrom_9 (ok_get C kc_X3 (by decide) rfl rfl rfl wd_199 (fun _ h => h) dX3_copyFrom_10 (ok_put C kc_X3 (by decide) rfl rfl rfl wd_199 (fun _ h => h) (Or.inl rfl) qa_fit0 dX3_copyFrom_13 (ok_aload_n C rfl dX3_copyFrom_16 (ok_aload_n C rfl dX3_copyFrom_17 (ok_get C kc_X3 (by decide) rfl rfl rfl wd_200 (fun _ h => h) dX3_copyFrom_18 (ok_put C kc_X3 (by decide) rfl rfl rfl wd_200 (fun _ h => h) (Or.inl rfl) qa_fit0 dX3_copyFrom_21 (ok_aload_n C rfl dX3_copyFrom_24 (ok_aload_n C rfl dX3_copyFrom_25 (ok_get C kc_X3 (by decide) rfl rfl rfl wd_201 (fun _ h => h) dX3_copyFrom_26 (ok_put C kc_X3 (by decide) rfl rfl rfl wd_201 (fun _ h => h) (Or.inl rfl) qa_fit0 dX3_copyFrom_29 (ok_aload_n C rfl dX3_copyFrom_32 (ok_aload_n C rfl dX3_copyFrom_33 (ok_get C kc_X3 (by decide) rfl rfl rfl wd_202 (fun _ h => h) dX3_copyFrom_34 (ok_put C kc_X3 (by decide) rfl rfl rfl wd_202 (fun _ h => h) (Or.inl rfl) qa_fit0 dX3_copyFrom_37 (ok_aload_n C rfl dX3_copyFrom_40 (ok_aload_n C rfl dX3_copyFrom_41 (ok_get C kc_X3 (by decide) rfl rfl rfl wd_203 (fun _ h => h) dX3_copyFrom_42 (ok_put C kc_X3 (by decide) rfl rfl rfl wd_203 (fun _ h => h) (Or.inl rfl) qa_fit0 dX3_copyFrom_45 (ok_aload_n C rfl dX3_copyFrom_48 (ok_aload_n C rfl dX3_copyFrom_49 (ok_get C kc_X3 (by decide) rfl rfl rfl wd_204 (fun _ h => h) dX3_copyFrom_50 (ok_put C kc_X3 (by decide) rfl rfl rfl wd_204 (fun _ h => h) (Or.inl rfl) qa_fit0 dX3_copyFrom_53 (ok_aload_n C rfl dX3_copyFrom_56 (ok_get C kc_X3 (by decide) rfl rfl rfl wd_205 (fun _ h => h) dX3_copyFrom_57 (ok_fall rfl))))))))))))))))))))))))))))))
    | 1, hj => obtain rfl := Option.some.inj hj; exact ok_iconst C (by decide) dX3_copyFrom_60 (ok_aload_n C rfl dX3_copyFrom_61 (ok_get C kc_X3 (by decide) rfl rfl rfl wd_205 (fun _ h => h) dX3_copyFrom_62 (ok_iconst C (by decide) dX3_copyFrom_65 (ok_bipush C (by decide) dX3_copyFrom_66 (ok_copyi C (qa_wl [703, 689, 688, 96] (by decide +kernel) (by decide +kernel)) (Nat.le_of_ble_eq_true rfl) (Nat.le_of_ble_eq_true rfl) dX3_copyFrom_68 (ok_vret C hr dX3_copyFrom_71))))))
    | (_ + 2), hj => exact nomatch hj)
noncomputable def B_X6_copyFrom_0 : qI := q_load 1 0 (q_load 1 1 (q_get 9 0 0 (q_putz 9 0 (q_load 1 0 (q_load 1 1 (q_get 9 1 0 (q_put 9 1 0 (q_load 1 0 (q_load 1 1 (q_get 9 2 0 (q_put 9 2 0 (q_load 1 0 (q_load 1 1 (q_get 9 3 0 (q_put 9 3 0 (q_load 1 0 (q_load 1 1 (q_get 9 4 0 (q_put 9 4 0 (q_load 1 0 (q_load 1 1 (q_get 9 5 0 (q_put 9 5 0 (q_load 1 0 (q_load 1 1 (q_get 9 6 0 (q_put 9 6 0 (q_load 1 0 (q_load 1 1 (q_goto 1))))))))))))))))))))))))))))))
noncomputable def B_X6_copyFrom_1 : qI := q_get 9 7 0 (q_put 9 7 0 (q_load 1 0 (q_load 1 1 (q_get 9 8 0 (q_put 9 8 0 (q_load 1 0 (q_get 9 0 0 (q_ifeq 2 (q_load 1 0 (q_get 9 9 1 (q_load 1 1 (q_get 9 9 1 (q_callv 6 f_X3_copyFrom 2 (q_goto 2))))))))))))))
noncomputable def B_X6_copyFrom_2 : qI := q_vret
noncomputable def P_X6_copyFrom : qP := [B_X6_copyFrom_0, B_X6_copyFrom_1, B_X6_copyFrom_2]
noncomputable def f_X6_copyFrom : List qV → qA → Option qR := qa_fn P_X6_copyFrom 2
def pc_X6_copyFrom : Nat → Nat := fun j => [0, 58, 90].getD j 0
set_option maxRecDepth 100000 in
set_option maxHeartbeats 4000000 in
theorem kon_X6_copyFrom (l : Launch) (hl : l.stackTraces = false) : qa_Con l yX6_copyFrom cX6_copyFrom 2 none 2 141 f_X6_copyFrom :=
  qa_method (pcs := pc_X6_copyFrom) (by decide +kernel) rfl (fun C hr hn j f hj => by
    match j, hj with
    | 0, hj => obtain rfl := Option.some.inj hj; exact ok_aload_n C rfl dX6_copyFrom_0 (ok_aload_n C rfl dX6_copyFrom_1 (ok_get C kc_X6 (by decide) rfl rfl rfl wd_223 (fun _ h => h) dX6_copyFrom_2 (ok_putz C kc_X6 (by decide) rfl rfl rfl wd_223 (fun _ h => h) (Or.inl rfl) dX6_copyFrom_5 (ok_aload_n C rfl dX6_copyFrom_8 (ok_aload_n C rfl dX6_copyFrom_9 (ok_get C kc_X6 (by decide) rfl rfl rfl wd_226 (fun _ h => h) dX6_copyFrom_10 (ok_put C kc_X6 (by decide) rfl rfl rfl wd_226 (fun _ h => h) (Or.inl rfl) qa_fit0 dX6_copyFrom_13 (ok_aload_n C rfl dX6_copyFrom_16 (ok_aload_n C rfl dX6_copyFrom_17 (ok_get C kc_X6 (by decide) rfl rfl rfl wd_229 (fun _ h => h) dX6_copyFrom_18 (ok_put C kc_X6 (by decide) rfl rfl rfl wd_229 (fun _ h => h) (Or.inl rfl) qa_fit0 dX6_copyFrom_21 (ok_aload_n C rfl dX6_copyFrom_24 (ok_aload_n C rfl dX6_copyFrom_25 (ok_get C kc_X6 (by decide) rfl rfl rfl wd_233 (fun _ h => h) dX6_copyFrom_26 (ok_put C kc_X6 (by decide) rfl rfl rfl wd_233 (fun _ h => h) (Or.inl rfl) qa_fit0 dX6_copyFrom_29 (ok_aload_n C rfl dX6_copyFrom_32 (ok_aload_n C rfl dX6_copyFrom_33 (ok_get C kc_X6 (by decide) rfl rfl rfl wd_235 (fun _ h => h) dX6_copyFrom_34 (ok_put C kc_X6 (by decide) rfl rfl rfl wd_235 (fun _ h => h) (Or.inl rfl) qa_fit0 dX6_copyFrom_37 (ok_aload_n C rfl dX6_copyFrom_40 (ok_aload_n C rfl dX6_copyFrom_41 (ok_get C kc_X6 (by decide) rfl rfl rfl wd_238 (fun _ h => h) dX6_copyFrom_42 (ok_put C kc_X6 (by decide) rfl rfl rfl wd_238 (fun _ h => h) (Or.inl rfl) qa_fit0 dX6_copyFrom_45 (ok_aload_n C rfl dX6_copyFrom_48 (ok_aload_n C rfl dX6_copyFrom_49 (ok_get C kc_X6 (by decide) rfl rfl rfl wd_240 (fun _ h => h) dX6_copyFrom_50 (ok_put C kc_X6 (by decide) rfl rfl rfl wd_240 (fun _ h => h) (Or.inl rfl) qa_fit0 dX6_copyFrom_53 (ok_aload_n C rfl dX6_copyFrom_56 (ok_aload_n C rfl dX6_copyFrom_57 (ok_fall rfl))))))))))))))))))))))))))))))
    | 1, hj => obtain rfl := Option.some.inj hj; exact ok_get C kc_X6 (by decide) rfl rfl rfl wd_243 (fun _ h => h) dX6_copyFrom_58 (ok_put C kc_X6 (by decide) rfl rfl rfl wd_243 (fun _ h => h) (Or.inl rfl) qa_fit0 dX6_copyFrom_61 (ok_aload_n C rfl dX6_copyFrom_64 (ok_aload_n C rfl dX6_copyFrom_65 (ok_get C kc_X6 (by decide) rfl rfl rfl wd_246 (fun _ h => h) dX6_copyFrom_66 (ok_put C kc_X6 (by decide) rfl rfl rfl wd_246 (fun _ h => h) (Or.inl rfl) qa_fit0 dX6_copyFrom_69 (ok_aload_n C rfl dX6_copyFrom_72 (ok_get C kc_X6 (by decide) rfl rfl rfl wd_223 (fun _ h => h) dX6_copyFrom_73 (ok_ifeq C (T := 2) dX6_copyFrom_76 (by decide) (ok_aload_n C rfl dX6_copyFrom_79 (ok_get C kc_X6 (by decide) rfl rfl rfl wd_249 (fun _ h => h) dX6_copyFrom_80 (ok_aload_n C rfl dX6_copyFrom_83 (ok_get C kc_X6 (by decide) rfl rfl rfl wd_249 (fun _ h => h) dX6_copyFrom_84 (ok_callv C rfl (by decide) (kon_X3_copyFrom l hl) (qa_wl [699, 700, 701, 77, 702] (by decide +kernel) (by decide +kernel)) ⟨rfl, by decide +kernel, by decide +kernel, by decide +kernel⟩ ⟨Nat.le_of_ble_eq_true rfl, Nat.le_of_ble_eq_true rfl⟩ dX6_copyFrom_87 (ok_fall rfl))))))))))))))
    | 2, hj => obtain rfl := Option.some.inj hj; exact ok_vret C hr dX6_copyFrom_90
    | (_ + 3), hj => exact nomatch hj)
noncomputable def B_X9_copyFrom_0 : qI := q_load 1 0 (q_load 1 1 (q_get 12 0 0 (q_put 12 0 0 (q_load 1 0 (q_load 1 1 (q_get 12 1 0 (q_put 12 1 0 (q_load 1 1 (q_get 12 2 1 (q_const (0, 0) (q_load 1 0 (q_get 12 2 1 (q_const (0, 0) (q_const (0, 4) (q_copy 101 (q_const (0, 0) (q_store 0 2 (q_goto 1))))))))))))))))))
noncomputable def B_X9_copyFrom_1 : qI := q_load 0 2 (q_const (0, 4) (q_cmpge 2 (q_load 1 0 (q_get 12 3 1 (q_load 0 2 (q_ald (111 + 5) 1 (q_load 1 1 (q_get 12 3 1 (q_load 0 2 (q_ald (111 + 5) 1 (q_callv 5 f_X2_copyFrom 2 (q_iinc 2 (1) (q_goto 1)))))))))))))
noncomputable def B_X9_copyFrom_2 : qI := q_const (0, 0) (q_store 0 2 (q_goto 3))
noncomputable def B_X9_copyFrom_3 : qI := q_load 0 2 (q_const (0, 6) (q_cmpge 4 (q_load 1 0 (q_get 12 4 1 (q_load 0 2 (q_ald (111 + 9) 1 (q_load 1 1 (q_get 12 4 1 (q_load 0 2 (q_ald (111 + 9) 1 (q_callv 9 f_X6_copyFrom 2 (q_iinc 2 (1) (q_goto 3)))))))))))))
noncomputable def B_X9_copyFrom_4 : qI := q_vret
noncomputable def P_X9_copyFrom : qP := [B_X9_copyFrom_0, B_X9_copyFrom_1, B_X9_copyFrom_2, B_X9_copyFrom_3, B_X9_copyFrom_4]
noncomputable def f_X9_copyFrom : List qV → qA → Option qR := qa_fn P_X9_copyFrom 3
def pc_X9_copyFrom : Nat → Nat := fun j => [0, 32, 58, 60, 87].getD j 0
set_option maxRecDepth 100000 in
set_option maxHeartbeats 4000000 in
theorem kon_X9_copyFrom (l : Launch) (hl : l.stackTraces = false) : qa_Con l yX9_copyFrom cX9_copyFrom 3 none 3 162 f_X9_copyFrom :=
  qa_method (pcs := pc_X9_copyFrom) (by decide +kernel) rfl (fun C hr hn j f hj => by
    match j, hj with
    | 0, hj => obtain rfl := Option.some.inj hj; exact ok_aload_n C rfl dX9_copyFrom_0 (ok_aload_n C rfl dX9_copyFrom_1 (ok_get C kc_X9 (by decide) rfl rfl rfl wd_274 (fun _ h => h) dX9_copyFrom_2 (ok_put C kc_X9 (by decide) rfl rfl rfl wd_274 (fun _ h => h) (Or.inl rfl) qa_fit0 dX9_copyFrom_5 (ok_aload_n C rfl dX9_copyFrom_8 (ok_aload_n C rfl dX9_copyFrom_9 (ok_get C kc_X9 (by decide) rfl rfl rfl wd_276 (fun _ h => h) dX9_copyFrom_10 (ok_put C kc_X9 (by decide) rfl rfl rfl wd_276 (fun _ h => h) (Or.inl rfl) qa_fit0 dX9_copyFrom_13 (ok_aload_n C rfl dX9_copyFrom_16 (ok_get C kc_X9 (by decide) rfl rfl rfl wd_278 (fun _ h => h) dX9_copyFrom_17 (ok_iconst C (by decide) dX9_copyFrom_20 (ok_aload_n C rfl dX9_copyFrom_21 (ok_get C kc_X9 (by decide) rfl rfl rfl wd_278 (fun _ h => h) dX9_copyFrom_22 (ok_iconst C (by decide) dX9_copyFrom_25 (ok_iconst C (by decide) dX9_copyFrom_26 (ok_copyi C (qa_wl [687, 689, 688, 96] (by decide +kernel) (by decide +kernel)) (Nat.le_of_ble_eq_true rfl) (Nat.le_of_ble_eq_true rfl) dX9_copyFrom_27 (ok_iconst C (by decide) dX9_copyFrom_30 (ok_istore_n C rfl (by decide) dX9_copyFrom_31 (ok_fall rfl))))))))))))))))))
    | 1, hj => obtain rfl := Option.some.inj hj; exact ok_iload_n C rfl dX9_copyFrom_32 (ok_iconst C (by decide) dX9_copyFrom_33 (ok_cmpge C (T := 2) dX9_copyFrom_34 (by decide) (ok_aload_n C rfl dX9_copyFrom_37 (ok_get C kc_X9 (by decide) rfl rfl rfl wd_279 (fun _ h => h) dX9_copyFrom_38 (ok_iload_n C rfl dX9_copyFrom_41 (ok_aaload C dX9_copyFrom_42 (ok_aload_n C rfl dX9_copyFrom_43 (ok_get C kc_X9 (by decide) rfl rfl rfl wd_279 (fun _ h => h) dX9_copyFrom_44 (ok_iload_n C rfl dX9_copyFrom_47 (ok_aaload C dX9_copyFrom_48 (ok_callv C rfl (by decide) (kon_X2_copyFrom l hl) (qa_wl [690, 691, 692, 75, 693] (by decide +kernel) (by decide +kernel)) ⟨rfl, by decide +kernel, by decide +kernel, by decide +kernel⟩ ⟨Nat.le_of_ble_eq_true rfl, Nat.le_of_ble_eq_true rfl⟩ dX9_copyFrom_49 (ok_iinc C (by decide) (by decide) dX9_copyFrom_52 (ok_goto C dX9_copyFrom_55 (by decide))))))))))))))
    | 2, hj => obtain rfl := Option.some.inj hj; exact ok_iconst C (by decide) dX9_copyFrom_58 (ok_istore_n C rfl (by decide) dX9_copyFrom_59 (ok_fall rfl))
    | 3, hj => obtain rfl := Option.some.inj hj; exact ok_iload_n C rfl dX9_copyFrom_60 (ok_bipush C (by decide) dX9_copyFrom_61 (ok_cmpge C (T := 4) dX9_copyFrom_63 (by decide) (ok_aload_n C rfl dX9_copyFrom_66 (ok_get C kc_X9 (by decide) rfl rfl rfl wd_280 (fun _ h => h) dX9_copyFrom_67 (ok_iload_n C rfl dX9_copyFrom_70 (ok_aaload C dX9_copyFrom_71 (ok_aload_n C rfl dX9_copyFrom_72 (ok_get C kc_X9 (by decide) rfl rfl rfl wd_280 (fun _ h => h) dX9_copyFrom_73 (ok_iload_n C rfl dX9_copyFrom_76 (ok_aaload C dX9_copyFrom_77 (ok_callv C rfl (by decide) (kon_X6_copyFrom l hl) (qa_wl [695, 696, 697, 76, 698] (by decide +kernel) (by decide +kernel)) ⟨rfl, by decide +kernel, by decide +kernel, by decide +kernel⟩ ⟨Nat.le_of_ble_eq_true rfl, Nat.le_of_ble_eq_true rfl⟩ dX9_copyFrom_78 (ok_iinc C (by decide) (by decide) dX9_copyFrom_81 (ok_goto C dX9_copyFrom_84 (by decide))))))))))))))
    | 4, hj => obtain rfl := Option.some.inj hj; exact ok_vret C hr dX9_copyFrom_87
    | (_ + 5), hj => exact nomatch hj)
noncomputable def B_X1_begin_0 : qI := q_load 1 0 (q_get 4 0 1 (q_const (0, 0) (q_dup2 (q_ald 101 0 (q_const (0, 1) (q_iadd (q_ast 101 0 (q_load 1 0 (q_get 4 2 0 (q_load 1 0 (q_get 4 1 1 (q_alen (q_cmplt 1 (q_load 1 0 (q_callv 4 f_X1_forgetOldest 1 (q_goto 1))))))))))))))))
noncomputable def B_X1_begin_1 : qI := q_load 1 0 (q_get 4 2 0 (q_iflt 2 (q_load 1 0 (q_get 4 2 0 (q_load 1 0 (q_get 4 1 1 (q_alen (q_cmplt 3 (q_goto 2)))))))))
noncomputable def B_X1_begin_2 : qI := q_vret
noncomputable def B_X1_begin_3 : qI := q_load 1 0 (q_get 4 1 1 (q_load 1 0 (q_get 4 2 0 (q_ald (111 + 12) 1 (q_store 1 2 (q_load 1 2 (q_nonnull 4 (q_new 12 5 z_X9 (q_dup (q_callv 12 f_X9_init 1 (q_store 1 2 (q_load 1 0 (q_get 4 1 1 (q_load 1 0 (q_get 4 2 0 (q_load 1 2 (q_aast 12 (q_goto 4))))))))))))))))))
noncomputable def B_X1_begin_4 : qI := q_load 1 2 (q_load 1 1 (q_callv 12 f_X9_copyFrom 2 (q_load 1 0 (q_dup (q_get 4 2 0 (q_const (0, 1) (q_iadd (q_put 4 2 0 (q_vret)))))))))
noncomputable def P_X1_begin : qP := [B_X1_begin_0, B_X1_begin_1, B_X1_begin_2, B_X1_begin_3, B_X1_begin_4]
noncomputable def f_X1_begin : List qV → qA → Option qR := qa_fn P_X1_begin 3
def pc_X1_begin : Nat → Nat := fun j => [0, 26, 45, 46, 78].getD j 0
set_option maxRecDepth 100000 in
set_option maxHeartbeats 4000000 in
theorem kon_X1_begin (l : Launch) (hl : l.stackTraces = false) : qa_Con l yX1_begin cX1_begin 3 none 4 184 f_X1_begin :=
  qa_method (pcs := pc_X1_begin) (by decide +kernel) rfl (fun C hr hn j f hj => by
    match j, hj with
    | 0, hj => obtain rfl := Option.some.inj hj; exact ok_aload_n C rfl dX1_begin_0 (ok_get C kc_X1 (by decide) rfl rfl rfl wd_300 (fun _ h => h) dX1_begin_1 (ok_iconst C (by decide) dX1_begin_4 (ok_dup2 C dX1_begin_5 (ok_iaload C dX1_begin_6 (ok_iconst C (by decide) dX1_begin_7 (ok_iadd C dX1_begin_8 (ok_iastore C dX1_begin_9 (ok_aload_n C rfl dX1_begin_10 (ok_get C kc_X1 (by decide) rfl rfl rfl wd_302 (fun _ h => h) dX1_begin_11 (ok_aload_n C rfl dX1_begin_14 (ok_get C kc_X1 (by decide) rfl rfl rfl wd_301 (fun _ h => h) dX1_begin_15 (ok_alen C dX1_begin_18 (ok_cmplt C (T := 1) dX1_begin_19 (by decide) (ok_aload_n C rfl dX1_begin_22 (ok_callv C rfl (by decide) (kon_X1_forgetOldest l hl) (qa_wl [678, 679, 680, 78, 681] (by decide +kernel) (by decide +kernel)) ⟨rfl, by decide +kernel, by decide +kernel, by decide +kernel⟩ ⟨Nat.le_of_ble_eq_true rfl, Nat.le_of_ble_eq_true rfl⟩ dX1_begin_23 (ok_fall rfl))))))))))))))))
    | 1, hj => obtain rfl := Option.some.inj hj; exact ok_aload_n C rfl dX1_begin_26 (ok_get C kc_X1 (by decide) rfl rfl rfl wd_302 (fun _ h => h) dX1_begin_27 (ok_iflt C (T := 2) dX1_begin_30 (by decide) (ok_aload_n C rfl dX1_begin_33 (ok_get C kc_X1 (by decide) rfl rfl rfl wd_302 (fun _ h => h) dX1_begin_34 (ok_aload_n C rfl dX1_begin_37 (ok_get C kc_X1 (by decide) rfl rfl rfl wd_301 (fun _ h => h) dX1_begin_38 (ok_alen C dX1_begin_41 (ok_cmplt C (T := 3) dX1_begin_42 (by decide) (ok_fall rfl)))))))))
    | 2, hj => obtain rfl := Option.some.inj hj; exact ok_vret C hr dX1_begin_45
    | 3, hj => obtain rfl := Option.some.inj hj; exact ok_aload_n C rfl dX1_begin_46 (ok_get C kc_X1 (by decide) rfl rfl rfl wd_301 (fun _ h => h) dX1_begin_47 (ok_aload_n C rfl dX1_begin_50 (ok_get C kc_X1 (by decide) rfl rfl rfl wd_302 (fun _ h => h) dX1_begin_51 (ok_aaload C dX1_begin_54 (ok_astore_n C rfl (by decide) dX1_begin_55 (ok_aload_n C rfl dX1_begin_56 (ok_ifnonnull C (T := 4) dX1_begin_57 (by decide) (ok_new C kc_X9 (qa_wl [299, 123, 74] (by decide +kernel) (by decide +kernel)) (zz_X9).1 (zz_X9).2 dX1_begin_60 (ok_dup C dX1_begin_63 (ok_calli C (kon_X9_init l hl) (by decide) (qa_wl [682, 125, 74, 126] (by decide +kernel) (by decide +kernel)) rfl ⟨by decide +kernel, by decide +kernel, by decide +kernel⟩ ⟨Nat.le_of_ble_eq_true rfl, Nat.le_of_ble_eq_true rfl⟩ dX1_begin_64 (ok_astore_n C rfl (by decide) dX1_begin_67 (ok_aload_n C rfl dX1_begin_68 (ok_get C kc_X1 (by decide) rfl rfl rfl wd_301 (fun _ h => h) dX1_begin_69 (ok_aload_n C rfl dX1_begin_72 (ok_get C kc_X1 (by decide) rfl rfl rfl wd_302 (fun _ h => h) dX1_begin_73 (ok_aload_n C rfl dX1_begin_76 (ok_aastore C rfl (by decide) dX1_begin_77 (ok_fall rfl))))))))))))))))))
    | 4, hj => obtain rfl := Option.some.inj hj; exact ok_aload_n C rfl dX1_begin_78 (ok_aload_n C rfl dX1_begin_79 (ok_callv C rfl (by decide) (kon_X9_copyFrom l hl) (qa_wl [683, 684, 685, 74, 686] (by decide +kernel) (by decide +kernel)) ⟨rfl, by decide +kernel, by decide +kernel, by decide +kernel⟩ ⟨Nat.le_of_ble_eq_true rfl, Nat.le_of_ble_eq_true rfl⟩ dX1_begin_80 (ok_aload_n C rfl dX1_begin_83 (ok_dup C dX1_begin_84 (ok_get C kc_X1 (by decide) rfl rfl rfl wd_302 (fun _ h => h) dX1_begin_85 (ok_iconst C (by decide) dX1_begin_88 (ok_iadd C dX1_begin_89 (ok_put C kc_X1 (by decide) rfl rfl rfl wd_302 (fun _ h => h) (Or.inl rfl) qa_fit0 dX1_begin_90 (ok_vret C hr dX1_begin_93)))))))))
    | (_ + 5), hj => exact nomatch hj)
noncomputable def B_X5_init_0 : qI := q_load 1 0 (q_obj (q_load 1 0 (q_load 0 1 (q_put 8 0 0 (q_load 1 0 (q_load 0 2 (q_put 8 1 0 (q_load 1 0 (q_load 0 3 (q_put 8 2 0 (q_load 1 0 (q_load 0 4 (q_put 8 3 0 (q_vret))))))))))))))
noncomputable def P_X5_init : qP := [B_X5_init_0]
noncomputable def f_X5_init : List qV → qA → Option qR := qa_fn P_X5_init 5
def pc_X5_init : Nat → Nat := fun j => [0].getD j 0
set_option maxRecDepth 100000 in
set_option maxHeartbeats 4000000 in
theorem kon_X5_init (l : Launch) (hl : l.stackTraces = false) : qa_Con l yX5_init cX5_init 5 none 1 20 f_X5_init :=
  qa_method (pcs := pc_X5_init) (by decide +kernel) rfl (fun C hr hn j f hj => by
    match j, hj with
    | 0, hj => obtain rfl := Option.some.inj hj; exact ok_aload_n C rfl dX5_init_0 (ok_obj C (qa_wl [709, 109, 110] (by decide +kernel) (by decide +kernel)) (Nat.le_of_ble_eq_true rfl) (Nat.le_of_ble_eq_true rfl) dX5_init_1 (ok_aload_n C rfl dX5_init_4 (ok_iload_n C rfl dX5_init_5 (ok_put C kc_X5 (by decide) rfl rfl rfl wd_710 (fun _ h => h) (Or.inr ⟨rfl, hn, rfl⟩) qa_fit0 dX5_init_6 (ok_aload_n C rfl dX5_init_9 (ok_iload_n C rfl dX5_init_10 (ok_put C kc_X5 (by decide) rfl rfl rfl wd_713 (fun _ h => h) (Or.inr ⟨rfl, hn, rfl⟩) qa_fit0 dX5_init_11 (ok_aload_n C rfl dX5_init_14 (ok_iload_n C rfl dX5_init_15 (ok_put C kc_X5 (by decide) rfl rfl rfl wd_718 (fun _ h => h) (Or.inr ⟨rfl, hn, rfl⟩) qa_fit0 dX5_init_16 (ok_aload_n C rfl dX5_init_19 (ok_iload C dX5_init_20 (ok_put C kc_X5 (by decide) rfl rfl rfl wd_723 (fun _ h => h) (Or.inr ⟨rfl, hn, rfl⟩) qa_fit0 dX5_init_22 (ok_vret C hr dX5_init_25))))))))))))))
    | (_ + 1), hj => exact nomatch hj)
noncomputable def B_X2_add_0 : qI := q_load 1 1 (q_null 1 (q_load 1 0 (q_get 5 5 0 (q_iflt 1 (q_load 1 0 (q_get 5 5 0 (q_load 1 0 (q_get 5 8 1 (q_alen (q_cmpge 1 (q_load 1 0 (q_get 5 8 1 (q_load 1 0 (q_get 5 5 0 (q_load 1 1 (q_aast 8 (q_load 1 0 (q_dup (q_get 5 5 0 (q_const (0, 1) (q_iadd (q_put 5 5 0 (q_load 1 0 (q_dup (q_get 5 6 0 (q_load 1 1 (q_get 8 2 0 (q_iadd (q_put 5 6 0 (q_goto 1))))))))))))))))))))))))))))))
noncomputable def B_X2_add_1 : qI := q_vret
noncomputable def P_X2_add : qP := [B_X2_add_0, B_X2_add_1]
noncomputable def f_X2_add : List qV → qA → Option qR := qa_fn P_X2_add 2
def pc_X2_add : Nat → Nat := fun j => [0, 56].getD j 0
set_option maxRecDepth 100000 in
set_option maxHeartbeats 4000000 in
theorem kon_X2_add (l : Launch) (hl : l.stackTraces = false) : qa_Con l yX2_add cX2_add 2 none 1 20 f_X2_add :=
  qa_method (pcs := pc_X2_add) (by decide +kernel) rfl (fun C hr hn j f hj => by
    match j, hj with
    | 0, hj => obtain rfl := Option.some.inj hj; exact ok_aload_n C rfl dX2_add_0 (ok_ifnull C (T := 1) dX2_add_1 (by decide) (ok_aload_n C rfl dX2_add_4 (ok_get C kc_X2 (by decide) rfl rfl rfl wd_155 (fun _ h => h) dX2_add_5 (ok_iflt C (T := 1) dX2_add_8 (by decide) (ok_aload_n C rfl dX2_add_11 (ok_get C kc_X2 (by decide) rfl rfl rfl wd_155 (fun _ h => h) dX2_add_12 (ok_aload_n C rfl dX2_add_15 (ok_get C kc_X2 (by decide) rfl rfl rfl wd_164 (fun _ h => h) dX2_add_16 (ok_alen C dX2_add_19 (ok_cmpge C (T := 1) dX2_add_20 (by decide) (ok_aload_n C rfl dX2_add_23 (ok_get C kc_X2 (by decide) rfl rfl rfl wd_164 (fun _ h => h) dX2_add_24 (ok_aload_n C rfl dX2_add_27 (ok_get C kc_X2 (by decide) rfl rfl rfl wd_155 (fun _ h => h) dX2_add_28 (ok_aload_n C rfl dX2_add_31 (ok_aastore C rfl (by decide) dX2_add_32 (ok_aload_n C rfl dX2_add_33 (ok_dup C dX2_add_34 (ok_get C kc_X2 (by decide) rfl rfl rfl wd_155 (fun _ h => h) dX2_add_35 (ok_iconst C (by decide) dX2_add_38 (ok_iadd C dX2_add_39 (ok_put C kc_X2 (by decide) rfl rfl rfl wd_155 (fun _ h => h) (Or.inl rfl) qa_fit0 dX2_add_40 (ok_aload_n C rfl dX2_add_43 (ok_dup C dX2_add_44 (ok_get C kc_X2 (by decide) rfl rfl rfl wd_158 (fun _ h => h) dX2_add_45 (ok_aload_n C rfl dX2_add_48 (ok_get C kc_X5 (by decide) rfl rfl rfl wd_720 (fun _ h => h) dX2_add_49 (ok_iadd C dX2_add_52 (ok_put C kc_X2 (by decide) rfl rfl rfl wd_158 (fun _ h => h) (Or.inl rfl) qa_fit0 dX2_add_53 (ok_fall rfl))))))))))))))))))))))))))))))
    | 1, hj => obtain rfl := Option.some.inj hj; exact ok_vret C hr dX2_add_56
    | (_ + 2), hj => exact nomatch hj)
noncomputable def B_X2_at_0 : qI := q_load 0 1 (q_load 1 0 (q_get 5 4 0 (q_cmplt 1 (q_load 0 1 (q_load 1 0 (q_get 5 5 0 (q_cmpge 1 (q_const (0, 1) (q_goto 2)))))))))
noncomputable def B_X2_at_1 : qI := q_const (0, 0) (q_goto 2)
noncomputable def B_X2_at_2 : qI := q_store 0 2 (q_load 0 2 (q_ifeq 3 (q_load 0 1 (q_iflt 3 (q_load 0 1 (q_load 1 0 (q_get 5 8 1 (q_alen (q_cmpge 3 (q_load 1 0 (q_get 5 8 1 (q_load 0 1 (q_ald (111 + 8) 1 (q_goto 4))))))))))))))
noncomputable def B_X2_at_3 : qI := q_const (1, -1) (q_goto 4)
noncomputable def B_X2_at_4 : qI := q_ret 1
noncomputable def P_X2_at : qP := [B_X2_at_0, B_X2_at_1, B_X2_at_2, B_X2_at_3, B_X2_at_4]
noncomputable def f_X2_at : List qV → qA → Option qR := qa_fn P_X2_at 3
def pc_X2_at : Nat → Nat := fun j => [0, 20, 21, 48, 49].getD j 0
set_option maxRecDepth 100000 in
set_option maxHeartbeats 4000000 in
theorem kon_X2_at (l : Launch) (hl : l.stackTraces = false) : qa_Con l yX2_at cX2_at 3 (some (.object "PromiseLog$Entry")) 1 20 f_X2_at :=
  qa_method (pcs := pc_X2_at) (by decide +kernel) rfl (fun C hr hn j f hj => by
    match j, hj with
    | 0, hj => obtain rfl := Option.some.inj hj; exact ok_iload_n C rfl dX2_at_0 (ok_aload_n C rfl dX2_at_1 (ok_get C kc_X2 (by decide) rfl rfl rfl wd_152 (fun _ h => h) dX2_at_2 (ok_cmplt C (T := 1) dX2_at_5 (by decide) (ok_iload_n C rfl dX2_at_8 (ok_aload_n C rfl dX2_at_9 (ok_get C kc_X2 (by decide) rfl rfl rfl wd_155 (fun _ h => h) dX2_at_10 (ok_cmpge C (T := 1) dX2_at_13 (by decide) (ok_iconst C (by decide) dX2_at_16 (ok_goto C dX2_at_17 (by decide))))))))))
    | 1, hj => obtain rfl := Option.some.inj hj; exact ok_iconst C (by decide) dX2_at_20 (ok_fall rfl)
    | 2, hj => obtain rfl := Option.some.inj hj; exact ok_istore_n C rfl (by decide) dX2_at_21 (ok_iload_n C rfl dX2_at_22 (ok_ifeq C (T := 3) dX2_at_23 (by decide) (ok_iload_n C rfl dX2_at_26 (ok_iflt C (T := 3) dX2_at_27 (by decide) (ok_iload_n C rfl dX2_at_30 (ok_aload_n C rfl dX2_at_31 (ok_get C kc_X2 (by decide) rfl rfl rfl wd_164 (fun _ h => h) dX2_at_32 (ok_alen C dX2_at_35 (ok_cmpge C (T := 3) dX2_at_36 (by decide) (ok_aload_n C rfl dX2_at_39 (ok_get C kc_X2 (by decide) rfl rfl rfl wd_164 (fun _ h => h) dX2_at_40 (ok_iload_n C rfl dX2_at_43 (ok_aaload C dX2_at_44 (ok_goto C dX2_at_45 (by decide)))))))))))))))
    | 3, hj => obtain rfl := Option.some.inj hj; exact ok_null C dX2_at_48 (ok_fall rfl)
    | 4, hj => obtain rfl := Option.some.inj hj; exact ok_aret C hr (Or.inl ⟨_, rfl⟩) dX2_at_49
    | (_ + 5), hj => exact nomatch hj)
noncomputable def B_X7_valueOf_0 : qI := q_load 0 1 (q_iflt 1 (q_load 0 1 (q_load 1 0 (q_get 10 0 1 (q_alen (q_cmpge 1 (q_load 1 0 (q_get 10 0 1 (q_load 0 1 (q_ald 101 0 (q_goto 2)))))))))))
noncomputable def B_X7_valueOf_1 : qI := q_const (0, 0) (q_goto 2)
noncomputable def B_X7_valueOf_2 : qI := q_ret 0
noncomputable def P_X7_valueOf : qP := [B_X7_valueOf_0, B_X7_valueOf_1, B_X7_valueOf_2]
noncomputable def f_X7_valueOf : List qV → qA → Option qR := qa_fn P_X7_valueOf 2
def pc_X7_valueOf : Nat → Nat := fun j => [0, 22, 23].getD j 0
set_option maxRecDepth 100000 in
set_option maxHeartbeats 4000000 in
theorem kon_X7_valueOf (l : Launch) (hl : l.stackTraces = false) : qa_Con l yX7_valueOf cX7_valueOf 2 (some .int) 1 20 f_X7_valueOf :=
  qa_method (pcs := pc_X7_valueOf) (by decide +kernel) rfl (fun C hr hn j f hj => by
    match j, hj with
    | 0, hj => obtain rfl := Option.some.inj hj; exact ok_iload_n C rfl dX7_valueOf_0 (ok_iflt C (T := 1) dX7_valueOf_1 (by decide) (ok_iload_n C rfl dX7_valueOf_4 (ok_aload_n C rfl dX7_valueOf_5 (ok_get C kc_X7 (by decide) rfl rfl rfl wd_117 (fun _ h => h) dX7_valueOf_6 (ok_alen C dX7_valueOf_9 (ok_cmpge C (T := 1) dX7_valueOf_10 (by decide) (ok_aload_n C rfl dX7_valueOf_13 (ok_get C kc_X7 (by decide) rfl rfl rfl wd_117 (fun _ h => h) dX7_valueOf_14 (ok_iload_n C rfl dX7_valueOf_17 (ok_iaload C dX7_valueOf_18 (ok_goto C dX7_valueOf_19 (by decide))))))))))))
    | 1, hj => obtain rfl := Option.some.inj hj; exact ok_iconst C (by decide) dX7_valueOf_22 (ok_fall rfl)
    | 2, hj => obtain rfl := Option.some.inj hj; exact ok_iret C hr dX7_valueOf_23
    | (_ + 3), hj => exact nomatch hj)
noncomputable def B_X6_isIn_0 : qI := q_load 1 0 (q_get 9 0 0 (q_ifeq 1 (q_load 1 0 (q_get 9 1 0 (q_load 1 1 (q_get 5 0 0 (q_cmpne 1 (q_const (0, 1) (q_goto 2)))))))))
noncomputable def B_X6_isIn_1 : qI := q_const (0, 0) (q_goto 2)
noncomputable def B_X6_isIn_2 : qI := q_retz
noncomputable def P_X6_isIn : qP := [B_X6_isIn_0, B_X6_isIn_1, B_X6_isIn_2]
noncomputable def f_X6_isIn : List qV → qA → Option qR := qa_fn P_X6_isIn 2
def pc_X6_isIn : Nat → Nat := fun j => [0, 22, 23].getD j 0
set_option maxRecDepth 100000 in
set_option maxHeartbeats 4000000 in
theorem kon_X6_isIn (l : Launch) (hl : l.stackTraces = false) : qa_Con l yX6_isIn cX6_isIn 2 (some .boolean) 1 20 f_X6_isIn :=
  qa_method (pcs := pc_X6_isIn) (by decide +kernel) rfl (fun C hr hn j f hj => by
    match j, hj with
    | 0, hj => obtain rfl := Option.some.inj hj; exact ok_aload_n C rfl dX6_isIn_0 (ok_get C kc_X6 (by decide) rfl rfl rfl wd_223 (fun _ h => h) dX6_isIn_1 (ok_ifeq C (T := 1) dX6_isIn_4 (by decide) (ok_aload_n C rfl dX6_isIn_7 (ok_get C kc_X6 (by decide) rfl rfl rfl wd_226 (fun _ h => h) dX6_isIn_8 (ok_aload_n C rfl dX6_isIn_11 (ok_get C kc_X2 (by decide) rfl rfl rfl wd_140 (fun _ h => h) dX6_isIn_12 (ok_cmpne C (T := 1) dX6_isIn_15 (by decide) (ok_iconst C (by decide) dX6_isIn_18 (ok_goto C dX6_isIn_19 (by decide))))))))))
    | 1, hj => obtain rfl := Option.some.inj hj; exact ok_iconst C (by decide) dX6_isIn_22 (ok_fall rfl)
    | 2, hj => obtain rfl := Option.some.inj hj; exact ok_zret C hr dX6_isIn_23
    | (_ + 3), hj => exact nomatch hj)
noncomputable def B_X6_isCovered_0 : qI := q_load 1 0 (q_get 9 4 0 (q_const (0, -1) (q_cmpne 1 (q_load 0 1 (q_load 1 0 (q_get 9 3 0 (q_isub (q_load 0 2 (q_cmpgt 2 (q_goto 1))))))))))
noncomputable def B_X6_isCovered_1 : qI := q_const (0, 1) (q_goto 3)
noncomputable def B_X6_isCovered_2 : qI := q_const (0, 0) (q_goto 3)
noncomputable def B_X6_isCovered_3 : qI := q_retz
noncomputable def P_X6_isCovered : qP := [B_X6_isCovered_0, B_X6_isCovered_1, B_X6_isCovered_2, B_X6_isCovered_3]
noncomputable def f_X6_isCovered : List qV → qA → Option qR := qa_fn P_X6_isCovered 3
def pc_X6_isCovered : Nat → Nat := fun j => [0, 18, 22, 23].getD j 0
set_option maxRecDepth 100000 in
set_option maxHeartbeats 4000000 in
theorem kon_X6_isCovered (l : Launch) (hl : l.stackTraces = false) : qa_Con l yX6_isCovered cX6_isCovered 3 (some .boolean) 1 20 f_X6_isCovered :=
  qa_method (pcs := pc_X6_isCovered) (by decide +kernel) rfl (fun C hr hn j f hj => by
    match j, hj with
    | 0, hj => obtain rfl := Option.some.inj hj; exact ok_aload_n C rfl dX6_isCovered_0 (ok_get C kc_X6 (by decide) rfl rfl rfl wd_235 (fun _ h => h) dX6_isCovered_1 (ok_iconst C (by decide) dX6_isCovered_4 (ok_cmpne C (T := 1) dX6_isCovered_5 (by decide) (ok_iload_n C rfl dX6_isCovered_8 (ok_aload_n C rfl dX6_isCovered_9 (ok_get C kc_X6 (by decide) rfl rfl rfl wd_233 (fun _ h => h) dX6_isCovered_10 (ok_isub C dX6_isCovered_13 (ok_iload_n C rfl dX6_isCovered_14 (ok_cmpgt C (T := 2) dX6_isCovered_15 (by decide) (ok_fall rfl))))))))))
    | 1, hj => obtain rfl := Option.some.inj hj; exact ok_iconst C (by decide) dX6_isCovered_18 (ok_goto C dX6_isCovered_19 (by decide))
    | 2, hj => obtain rfl := Option.some.inj hj; exact ok_iconst C (by decide) dX6_isCovered_22 (ok_fall rfl)
    | 3, hj => obtain rfl := Option.some.inj hj; exact ok_zret C hr dX6_isCovered_23
    | (_ + 4), hj => exact nomatch hj)
noncomputable def B_X9_holderOf_0 : qI := q_load 1 1 (q_get 5 4 0 (q_load 1 1 (q_get 5 5 0 (q_cmplt 1 (q_const (0, -1) (q_ret 0))))))
noncomputable def B_X9_holderOf_1 : qI := q_load 1 2 (q_const (0, 3) (q_callv 10 f_X7_valueOf 2 (q_store 0 3 (q_const (0, 0) (q_store 0 4 (q_goto 2))))))
noncomputable def B_X9_holderOf_2 : qI := q_load 0 4 (q_load 1 0 (q_get 12 4 1 (q_alen (q_cmpge 6 (q_load 1 0 (q_get 12 4 1 (q_load 0 4 (q_ald (111 + 9) 1 (q_store 1 5 (q_load 1 5 (q_load 1 1 (q_callv 9 f_X6_isIn 2 (q_ifeq 3 (q_load 1 5 (q_get 9 2 0 (q_load 1 1 (q_get 5 4 0 (q_cmpgt 3 (q_const (0, 1) (q_goto 4))))))))))))))))))))
noncomputable def B_X9_holderOf_3 : qI := q_const (0, 0) (q_goto 4)
noncomputable def B_X9_holderOf_4 : qI := q_store 0 6 (q_load 0 6 (q_ifeq 5 (q_load 1 5 (q_load 1 0 (q_get 12 0 0 (q_load 0 3 (q_callv 9 f_X6_isCovered 3 (q_ifeq 5 (q_load 0 4 (q_ret 0))))))))))
noncomputable def B_X9_holderOf_5 : qI := q_iinc 4 (1) (q_goto 2)
noncomputable def B_X9_holderOf_6 : qI := q_const (0, -1) (q_ret 0)
noncomputable def P_X9_holderOf : qP := [B_X9_holderOf_0, B_X9_holderOf_1, B_X9_holderOf_2, B_X9_holderOf_3, B_X9_holderOf_4, B_X9_holderOf_5, B_X9_holderOf_6]
noncomputable def f_X9_holderOf : List qV → qA → Option qR := qa_fn P_X9_holderOf 7
def pc_X9_holderOf : Nat → Nat := fun j => [0, 13, 22, 66, 67, 90, 96].getD j 0
set_option maxRecDepth 100000 in
set_option maxHeartbeats 4000000 in
theorem kon_X9_holderOf (l : Launch) (hl : l.stackTraces = false) : qa_Con l yX9_holderOf cX9_holderOf 7 (some .int) 2 42 f_X9_holderOf :=
  qa_method (pcs := pc_X9_holderOf) (by decide +kernel) rfl (fun C hr hn j f hj => by
    match j, hj with
    | 0, hj => obtain rfl := Option.some.inj hj; exact ok_aload_n C rfl dX9_holderOf_0 (ok_get C kc_X2 (by decide) rfl rfl rfl wd_154 (fun _ h => h) dX9_holderOf_1 (ok_aload_n C rfl dX9_holderOf_4 (ok_get C kc_X2 (by decide) rfl rfl rfl wd_157 (fun _ h => h) dX9_holderOf_5 (ok_cmplt C (T := 1) dX9_holderOf_8 (by decide) (ok_iconst C (by decide) dX9_holderOf_11 (ok_iret C hr dX9_holderOf_12))))))
    | 1, hj => obtain rfl := Option.some.inj hj; exact ok_aload_n C rfl dX9_holderOf_13 (ok_iconst C (by decide) dX9_holderOf_14 (ok_callv C rfl (by decide) (kon_X7_valueOf l hl) (qa_wl [753, 754, 755, 73, 756] (by decide +kernel) (by decide +kernel)) ⟨rfl, by decide +kernel, by decide +kernel, by decide +kernel⟩ ⟨Nat.le_of_ble_eq_true rfl, Nat.le_of_ble_eq_true rfl⟩ dX9_holderOf_15 (ok_istore_n C rfl (by decide) dX9_holderOf_18 (ok_iconst C (by decide) dX9_holderOf_19 (ok_istore C (by decide) dX9_holderOf_20 (ok_fall rfl))))))
    | 2, hj => obtain rfl := Option.some.inj hj; exact ok_iload C dX9_holderOf_22 (ok_aload_n C rfl dX9_holderOf_24 (ok_get C kc_X9 (by decide) rfl rfl rfl wd_280 (fun _ h => h) dX9_holderOf_25 (ok_alen C dX9_holderOf_28 (ok_cmpge C (T := 6) dX9_holderOf_29 (by decide) (ok_aload_n C rfl dX9_holderOf_32 (ok_get C kc_X9 (by decide) rfl rfl rfl wd_280 (fun _ h => h) dX9_holderOf_33 (ok_iload C dX9_holderOf_36 (ok_aaload C dX9_holderOf_38 (ok_astore C (by decide) dX9_holderOf_39 (ok_aload C dX9_holderOf_41 (ok_aload_n C rfl dX9_holderOf_43 (ok_callv C rfl (by decide) (kon_X6_isIn l hl) (qa_wl [761, 762, 763, 76, 764] (by decide +kernel) (by decide +kernel)) ⟨rfl, by decide +kernel, by decide +kernel, by decide +kernel⟩ ⟨Nat.le_of_ble_eq_true rfl, Nat.le_of_ble_eq_true rfl⟩ dX9_holderOf_44 (ok_ifeq C (T := 3) dX9_holderOf_47 (by decide) (ok_aload C dX9_holderOf_50 (ok_get C kc_X6 (by decide) rfl rfl rfl wd_232 (fun _ h => h) dX9_holderOf_52 (ok_aload_n C rfl dX9_holderOf_55 (ok_get C kc_X2 (by decide) rfl rfl rfl wd_154 (fun _ h => h) dX9_holderOf_56 (ok_cmpgt C (T := 3) dX9_holderOf_59 (by decide) (ok_iconst C (by decide) dX9_holderOf_62 (ok_goto C dX9_holderOf_63 (by decide)))))))))))))))))))))
    | 3, hj => obtain rfl := Option.some.inj hj; exact ok_iconst C (by decide) dX9_holderOf_66 (ok_fall rfl)
    | 4, hj => obtain rfl := Option.some.inj hj; exact ok_istore C (by decide) dX9_holderOf_67 (ok_iload C dX9_holderOf_69 (ok_ifeq C (T := 5) dX9_holderOf_71 (by decide) (ok_aload C dX9_holderOf_74 (ok_aload_n C rfl dX9_holderOf_76 (ok_get C kc_X9 (by decide) rfl rfl rfl wd_274 (fun _ h => h) dX9_holderOf_77 (ok_iload_n C rfl dX9_holderOf_80 (ok_callv C rfl (by decide) (kon_X6_isCovered l hl) (qa_wl [765, 766, 767, 76, 768] (by decide +kernel) (by decide +kernel)) ⟨rfl, by decide +kernel, by decide +kernel, by decide +kernel⟩ ⟨Nat.le_of_ble_eq_true rfl, Nat.le_of_ble_eq_true rfl⟩ dX9_holderOf_81 (ok_ifeq C (T := 5) dX9_holderOf_84 (by decide) (ok_iload C dX9_holderOf_87 (ok_iret C hr dX9_holderOf_89))))))))))
    | 5, hj => obtain rfl := Option.some.inj hj; exact ok_iinc C (by decide) (by decide) dX9_holderOf_90 (ok_goto C dX9_holderOf_93 (by decide))
    | 6, hj => obtain rfl := Option.some.inj hj; exact ok_iconst C (by decide) dX9_holderOf_96 (ok_iret C hr dX9_holderOf_97)
    | (_ + 7), hj => exact nomatch hj)
noncomputable def B_X9_isReadByAll_0 : qI := q_const (0, 0) (q_store 0 2 (q_load 1 0 (q_get 12 4 1 (q_store 1 3 (q_load 1 3 (q_alen (q_store 0 4 (q_const (0, 0) (q_store 0 5 (q_goto 1))))))))))
noncomputable def B_X9_isReadByAll_1 : qI := q_load 0 5 (q_load 0 4 (q_cmpge 3 (q_load 1 3 (q_load 0 5 (q_ald (111 + 9) 1 (q_store 1 6 (q_load 1 6 (q_load 1 1 (q_callv 9 f_X6_isIn 2 (q_ifeq 2 (q_const (0, 1) (q_store 0 2 (q_load 1 6 (q_get 9 2 0 (q_load 1 1 (q_get 5 4 0 (q_cmpgt 2 (q_const (0, 0) (q_retz)))))))))))))))))))
noncomputable def B_X9_isReadByAll_2 : qI := q_iinc 5 (1) (q_goto 1)
noncomputable def B_X9_isReadByAll_3 : qI := q_load 0 2 (q_retz)
noncomputable def P_X9_isReadByAll : qP := [B_X9_isReadByAll_0, B_X9_isReadByAll_1, B_X9_isReadByAll_2, B_X9_isReadByAll_3]
noncomputable def f_X9_isReadByAll : List qV → qA → Option qR := qa_fn P_X9_isReadByAll 7
def pc_X9_isReadByAll : Nat → Nat := fun j => [0, 14, 52, 58].getD j 0
set_option maxRecDepth 100000 in
set_option maxHeartbeats 4000000 in
theorem kon_X9_isReadByAll (l : Launch) (hl : l.stackTraces = false) : qa_Con l yX9_isReadByAll cX9_isReadByAll 7 (some .boolean) 2 41 f_X9_isReadByAll :=
  qa_method (pcs := pc_X9_isReadByAll) (by decide +kernel) rfl (fun C hr hn j f hj => by
    match j, hj with
    | 0, hj => obtain rfl := Option.some.inj hj; exact ok_iconst C (by decide) dX9_isReadByAll_0 (ok_istore_n C rfl (by decide) dX9_isReadByAll_1 (ok_aload_n C rfl dX9_isReadByAll_2 (ok_get C kc_X9 (by decide) rfl rfl rfl wd_280 (fun _ h => h) dX9_isReadByAll_3 (ok_astore_n C rfl (by decide) dX9_isReadByAll_6 (ok_aload_n C rfl dX9_isReadByAll_7 (ok_alen C dX9_isReadByAll_8 (ok_istore C (by decide) dX9_isReadByAll_9 (ok_iconst C (by decide) dX9_isReadByAll_11 (ok_istore C (by decide) dX9_isReadByAll_12 (ok_fall rfl))))))))))
    | 1, hj => obtain rfl := Option.some.inj hj; exact ok_iload C dX9_isReadByAll_14 (ok_iload C dX9_isReadByAll_16 (ok_cmpge C (T := 3) dX9_isReadByAll_18 (by decide) (ok_aload_n C rfl dX9_isReadByAll_21 (ok_iload C dX9_isReadByAll_22 (ok_aaload C dX9_isReadByAll_24 (ok_astore C (by decide) dX9_isReadByAll_25 (ok_aload C dX9_isReadByAll_27 (ok_aload_n C rfl dX9_isReadByAll_29 (ok_callv C rfl (by decide) (kon_X6_isIn l hl) (qa_wl [761, 762, 763, 76, 764] (by decide +kernel) (by decide +kernel)) ⟨rfl, by decide +kernel, by decide +kernel, by decide +kernel⟩ ⟨Nat.le_of_ble_eq_true rfl, Nat.le_of_ble_eq_true rfl⟩ dX9_isReadByAll_30 (ok_ifeq C (T := 2) dX9_isReadByAll_33 (by decide) (ok_iconst C (by decide) dX9_isReadByAll_36 (ok_istore_n C rfl (by decide) dX9_isReadByAll_37 (ok_aload C dX9_isReadByAll_38 (ok_get C kc_X6 (by decide) rfl rfl rfl wd_232 (fun _ h => h) dX9_isReadByAll_40 (ok_aload_n C rfl dX9_isReadByAll_43 (ok_get C kc_X2 (by decide) rfl rfl rfl wd_154 (fun _ h => h) dX9_isReadByAll_44 (ok_cmpgt C (T := 2) dX9_isReadByAll_47 (by decide) (ok_iconst C (by decide) dX9_isReadByAll_50 (ok_zret C hr dX9_isReadByAll_51)))))))))))))))))))
    | 2, hj => obtain rfl := Option.some.inj hj; exact ok_iinc C (by decide) (by decide) dX9_isReadByAll_52 (ok_goto C dX9_isReadByAll_55 (by decide))
    | 3, hj => obtain rfl := Option.some.inj hj; exact ok_iload_n C rfl dX9_isReadByAll_58 (ok_zret C hr dX9_isReadByAll_59)
    | (_ + 4), hj => exact nomatch hj)
noncomputable def B_X9_causeFor_0 : qI := q_load 1 1 (q_load 1 1 (q_get 5 4 0 (q_callv 5 f_X2_at 2 (q_store 1 3 (q_load 1 3 (q_nonnull 1 (q_const (0, -1) (q_ret 0))))))))
noncomputable def B_X9_causeFor_1 : qI := q_load 1 1 (q_get 5 6 0 (q_load 1 2 (q_const (0, 1) (q_callv 10 f_X7_valueOf 2 (q_cmple 2 (q_const (0, 0) (q_ret 0)))))))
noncomputable def B_X9_causeFor_2 : qI := q_load 1 2 (q_const (0, 2) (q_callv 10 f_X7_valueOf 2 (q_store 0 4 (q_load 1 0 (q_load 1 1 (q_load 1 2 (q_callv 12 f_X9_holderOf 3 (q_const (0, -1) (q_cmpne 3 (q_const (0, 1) (q_goto 4)))))))))))
noncomputable def B_X9_causeFor_3 : qI := q_const (0, 0) (q_goto 4)
noncomputable def B_X9_causeFor_4 : qI := q_store 0 5 (q_load 0 5 (q_ifeq 5 (q_load 1 1 (q_get 5 6 0 (q_load 1 2 (q_const (0, 0) (q_callv 10 f_X7_valueOf 2 (q_cmple 5 (q_const (0, 1) (q_ret 0))))))))))
noncomputable def B_X9_causeFor_5 : qI := q_load 0 5 (q_ifeq 6 (q_load 0 4 (q_ifle 6 (q_load 1 0 (q_get 12 0 0 (q_load 1 3 (q_get 8 0 0 (q_isub (q_load 0 4 (q_cmple 6 (q_const (0, 2) (q_ret 0))))))))))))
noncomputable def B_X9_causeFor_6 : qI := q_load 1 2 (q_const (0, 6) (q_callv 10 f_X7_valueOf 2 (q_const (0, 1) (q_cmpne 7 (q_load 1 0 (q_load 1 1 (q_callv 12 f_X9_isReadByAll 2 (q_ifeq 7 (q_const (0, 3) (q_goto 8))))))))))
noncomputable def B_X9_causeFor_7 : qI := q_const (0, -1) (q_goto 8)
noncomputable def B_X9_causeFor_8 : qI := q_ret 0
noncomputable def P_X9_causeFor : qP := [B_X9_causeFor_0, B_X9_causeFor_1, B_X9_causeFor_2, B_X9_causeFor_3, B_X9_causeFor_4, B_X9_causeFor_5, B_X9_causeFor_6, B_X9_causeFor_7, B_X9_causeFor_8]
noncomputable def f_X9_causeFor : List qV → qA → Option qR := qa_fn P_X9_causeFor 6
def pc_X9_causeFor : Nat → Nat := fun j => [0, 15, 29, 50, 51, 72, 98, 120, 121].getD j 0
set_option maxRecDepth 100000 in
set_option maxHeartbeats 4000000 in
theorem kon_X9_causeFor (l : Launch) (hl : l.stackTraces = false) : qa_Con l yX9_causeFor cX9_causeFor 6 (some .int) 3 68 f_X9_causeFor :=
  qa_method (pcs := pc_X9_causeFor) (by decide +kernel) rfl (fun C hr hn j f hj => by
    match j, hj with
    | 0, hj => obtain rfl := Option.some.inj hj; exact ok_aload_n C rfl dX9_causeFor_0 (ok_aload_n C rfl dX9_causeFor_1 (ok_get C kc_X2 (by decide) rfl rfl rfl wd_154 (fun _ h => h) dX9_causeFor_2 (ok_callv C rfl (by decide) (kon_X2_at l hl) (qa_wl [749, 750, 751, 75, 752] (by decide +kernel) (by decide +kernel)) ⟨rfl, by decide +kernel, by decide +kernel, by decide +kernel⟩ ⟨Nat.le_of_ble_eq_true rfl, Nat.le_of_ble_eq_true rfl⟩ dX9_causeFor_5 (ok_astore_n C rfl (by decide) dX9_causeFor_8 (ok_aload_n C rfl dX9_causeFor_9 (ok_ifnonnull C (T := 1) dX9_causeFor_10 (by decide) (ok_iconst C (by decide) dX9_causeFor_13 (ok_iret C hr dX9_causeFor_14))))))))
    | 1, hj => obtain rfl := Option.some.inj hj; exact ok_aload_n C rfl dX9_causeFor_15 (ok_get C kc_X2 (by decide) rfl rfl rfl wd_160 (fun _ h => h) dX9_causeFor_16 (ok_aload_n C rfl dX9_causeFor_19 (ok_iconst C (by decide) dX9_causeFor_20 (ok_callv C rfl (by decide) (kon_X7_valueOf l hl) (qa_wl [753, 754, 755, 73, 756] (by decide +kernel) (by decide +kernel)) ⟨rfl, by decide +kernel, by decide +kernel, by decide +kernel⟩ ⟨Nat.le_of_ble_eq_true rfl, Nat.le_of_ble_eq_true rfl⟩ dX9_causeFor_21 (ok_cmple C (T := 2) dX9_causeFor_24 (by decide) (ok_iconst C (by decide) dX9_causeFor_27 (ok_iret C hr dX9_causeFor_28)))))))
    | 2, hj => obtain rfl := Option.some.inj hj; exact ok_aload_n C rfl dX9_causeFor_29 (ok_iconst C (by decide) dX9_causeFor_30 (ok_callv C rfl (by decide) (kon_X7_valueOf l hl) (qa_wl [753, 754, 755, 73, 756] (by decide +kernel) (by decide +kernel)) ⟨rfl, by decide +kernel, by decide +kernel, by decide +kernel⟩ ⟨Nat.le_of_ble_eq_true rfl, Nat.le_of_ble_eq_true rfl⟩ dX9_causeFor_31 (ok_istore C (by decide) dX9_causeFor_34 (ok_aload_n C rfl dX9_causeFor_36 (ok_aload_n C rfl dX9_causeFor_37 (ok_aload_n C rfl dX9_causeFor_38 (ok_callv C rfl (by decide) (kon_X9_holderOf l hl) (qa_wl [757, 758, 759, 74, 760] (by decide +kernel) (by decide +kernel)) ⟨rfl, by decide +kernel, by decide +kernel, by decide +kernel⟩ ⟨Nat.le_of_ble_eq_true rfl, Nat.le_of_ble_eq_true rfl⟩ dX9_causeFor_39 (ok_iconst C (by decide) dX9_causeFor_42 (ok_cmpne C (T := 3) dX9_causeFor_43 (by decide) (ok_iconst C (by decide) dX9_causeFor_46 (ok_goto C dX9_causeFor_47 (by decide))))))))))))
    | 3, hj => obtain rfl := Option.some.inj hj; exact ok_iconst C (by decide) dX9_causeFor_50 (ok_fall rfl)
    | 4, hj => obtain rfl := Option.some.inj hj; exact ok_istore C (by decide) dX9_causeFor_51 (ok_iload C dX9_causeFor_53 (ok_ifeq C (T := 5) dX9_causeFor_55 (by decide) (ok_aload_n C rfl dX9_causeFor_58 (ok_get C kc_X2 (by decide) rfl rfl rfl wd_160 (fun _ h => h) dX9_causeFor_59 (ok_aload_n C rfl dX9_causeFor_62 (ok_iconst C (by decide) dX9_causeFor_63 (ok_callv C rfl (by decide) (kon_X7_valueOf l hl) (qa_wl [753, 754, 755, 73, 756] (by decide +kernel) (by decide +kernel)) ⟨rfl, by decide +kernel, by decide +kernel, by decide +kernel⟩ ⟨Nat.le_of_ble_eq_true rfl, Nat.le_of_ble_eq_true rfl⟩ dX9_causeFor_64 (ok_cmple C (T := 5) dX9_causeFor_67 (by decide) (ok_iconst C (by decide) dX9_causeFor_70 (ok_iret C hr dX9_causeFor_71))))))))))
    | 5, hj => obtain rfl := Option.some.inj hj; exact ok_iload C dX9_causeFor_72 (ok_ifeq C (T := 6) dX9_causeFor_74 (by decide) (ok_iload C dX9_causeFor_77 (ok_ifle C (T := 6) dX9_causeFor_79 (by decide) (ok_aload_n C rfl dX9_causeFor_82 (ok_get C kc_X9 (by decide) rfl rfl rfl wd_274 (fun _ h => h) dX9_causeFor_83 (ok_aload_n C rfl dX9_causeFor_86 (ok_get C kc_X5 (by decide) rfl rfl rfl wd_712 (fun _ h => h) dX9_causeFor_87 (ok_isub C dX9_causeFor_90 (ok_iload C dX9_causeFor_91 (ok_cmple C (T := 6) dX9_causeFor_93 (by decide) (ok_iconst C (by decide) dX9_causeFor_96 (ok_iret C hr dX9_causeFor_97))))))))))))
    | 6, hj => obtain rfl := Option.some.inj hj; exact ok_aload_n C rfl dX9_causeFor_98 (ok_bipush C (by decide) dX9_causeFor_99 (ok_callv C rfl (by decide) (kon_X7_valueOf l hl) (qa_wl [753, 754, 755, 73, 756] (by decide +kernel) (by decide +kernel)) ⟨rfl, by decide +kernel, by decide +kernel, by decide +kernel⟩ ⟨Nat.le_of_ble_eq_true rfl, Nat.le_of_ble_eq_true rfl⟩ dX9_causeFor_101 (ok_iconst C (by decide) dX9_causeFor_104 (ok_cmpne C (T := 7) dX9_causeFor_105 (by decide) (ok_aload_n C rfl dX9_causeFor_108 (ok_aload_n C rfl dX9_causeFor_109 (ok_callv C rfl (by decide) (kon_X9_isReadByAll l hl) (qa_wl [769, 770, 771, 74, 772] (by decide +kernel) (by decide +kernel)) ⟨rfl, by decide +kernel, by decide +kernel, by decide +kernel⟩ ⟨Nat.le_of_ble_eq_true rfl, Nat.le_of_ble_eq_true rfl⟩ dX9_causeFor_110 (ok_ifeq C (T := 7) dX9_causeFor_113 (by decide) (ok_iconst C (by decide) dX9_causeFor_116 (ok_goto C dX9_causeFor_117 (by decide)))))))))))
    | 7, hj => obtain rfl := Option.some.inj hj; exact ok_iconst C (by decide) dX9_causeFor_120 (ok_fall rfl)
    | 8, hj => obtain rfl := Option.some.inj hj; exact ok_iret C hr dX9_causeFor_121
    | (_ + 9), hj => exact nomatch hj)
noncomputable def B_X2_cutFirst_0 : qI := q_load 1 0 (q_dup (q_get 5 6 0 (q_load 1 1 (q_get 8 2 0 (q_isub (q_put 5 6 0 (q_load 1 0 (q_dup (q_get 5 4 0 (q_const (0, 1) (q_iadd (q_put 5 4 0 (q_load 1 0 (q_dup (q_get 5 7 0 (q_const (0, 1) (q_iadd (q_put 5 7 0 (q_vret)))))))))))))))))))
noncomputable def P_X2_cutFirst : qP := [B_X2_cutFirst_0]
noncomputable def f_X2_cutFirst : List qV → qA → Option qR := qa_fn P_X2_cutFirst 2
def pc_X2_cutFirst : Nat → Nat := fun j => [0].getD j 0
set_option maxRecDepth 100000 in
set_option maxHeartbeats 4000000 in
theorem kon_X2_cutFirst (l : Launch) (hl : l.stackTraces = false) : qa_Con l yX2_cutFirst cX2_cutFirst 2 none 1 20 f_X2_cutFirst :=
  qa_method (pcs := pc_X2_cutFirst) (by decide +kernel) rfl (fun C hr hn j f hj => by
    match j, hj with
    | 0, hj => obtain rfl := Option.some.inj hj; exact ok_aload_n C rfl dX2_cutFirst_0 (ok_dup C dX2_cutFirst_1 (ok_get C kc_X2 (by decide) rfl rfl rfl wd_158 (fun _ h => h) dX2_cutFirst_2 (ok_aload_n C rfl dX2_cutFirst_5 (ok_get C kc_X5 (by decide) rfl rfl rfl wd_720 (fun _ h => h) dX2_cutFirst_6 (ok_isub C dX2_cutFirst_9 (ok_put C kc_X2 (by decide) rfl rfl rfl wd_158 (fun _ h => h) (Or.inl rfl) qa_fit0 dX2_cutFirst_10 (ok_aload_n C rfl dX2_cutFirst_13 (ok_dup C dX2_cutFirst_14 (ok_get C kc_X2 (by decide) rfl rfl rfl wd_152 (fun _ h => h) dX2_cutFirst_15 (ok_iconst C (by decide) dX2_cutFirst_18 (ok_iadd C dX2_cutFirst_19 (ok_put C kc_X2 (by decide) rfl rfl rfl wd_152 (fun _ h => h) (Or.inl rfl) qa_fit0 dX2_cutFirst_20 (ok_aload_n C rfl dX2_cutFirst_23 (ok_dup C dX2_cutFirst_24 (ok_get C kc_X2 (by decide) rfl rfl rfl wd_161 (fun _ h => h) dX2_cutFirst_25 (ok_iconst C (by decide) dX2_cutFirst_28 (ok_iadd C dX2_cutFirst_29 (ok_put C kc_X2 (by decide) rfl rfl rfl wd_161 (fun _ h => h) (Or.inl rfl) qa_fit0 dX2_cutFirst_30 (ok_vret C hr dX2_cutFirst_33)))))))))))))))))))
    | (_ + 1), hj => exact nomatch hj)
noncomputable def B_X3_add_0 : qI := q_load 1 0 (q_get 6 0 0 (q_ifne 1 (q_const (0, 1) (q_goto 2))))
noncomputable def B_X3_add_1 : qI := q_const (0, 0) (q_goto 2)
noncomputable def B_X3_add_2 : qI := q_store 0 3 (q_load 1 0 (q_load 0 3 (q_ifne 3 (q_load 1 1 (q_get 8 3 0 (q_load 1 0 (q_get 6 3 0 (q_cmpge 4 (q_goto 3)))))))))
noncomputable def B_X3_add_3 : qI := q_load 1 1 (q_get 8 3 0 (q_goto 5))
noncomputable def B_X3_add_4 : qI := q_load 1 0 (q_get 6 3 0 (q_goto 5))
noncomputable def B_X3_add_5 : qI := q_put 6 3 0 (q_load 1 0 (q_load 0 3 (q_ifne 6 (q_load 1 1 (q_get 8 3 0 (q_load 1 0 (q_get 6 4 0 (q_cmple 7 (q_goto 6)))))))))
noncomputable def B_X3_add_6 : qI := q_load 1 1 (q_get 8 3 0 (q_goto 8))
noncomputable def B_X3_add_7 : qI := q_load 1 0 (q_get 6 4 0 (q_goto 8))
noncomputable def B_X3_add_8 : qI := q_put 6 4 0 (q_load 1 0 (q_load 0 3 (q_ifeq 9 (q_load 0 2 (q_goto 10)))))
noncomputable def B_X3_add_9 : qI := q_load 1 0 (q_get 6 5 0 (q_goto 10))
noncomputable def B_X3_add_10 : qI := q_put 6 5 0 (q_load 1 0 (q_load 0 2 (q_put 6 6 0 (q_load 1 0 (q_dup (q_get 6 0 0 (q_const (0, 1) (q_iadd (q_put 6 0 0 (q_load 1 0 (q_dup (q_get 6 1 0 (q_load 1 1 (q_get 8 2 0 (q_iadd (q_put 6 1 0 (q_load 1 0 (q_dup (q_get 6 2 0 (q_load 1 1 (q_get 8 3 0 (q_iadd (q_put 6 2 0 (q_load 1 1 (q_get 8 1 0 (q_iflt 12 (q_load 1 1 (q_get 8 1 0 (q_load 1 0 (q_goto 11))))))))))))))))))))))))))))))
noncomputable def B_X3_add_11 : qI := q_get 6 7 1 (q_alen (q_cmpge 12 (q_load 1 0 (q_get 6 7 1 (q_load 1 1 (q_get 8 1 0 (q_load 1 1 (q_get 8 3 0 (q_ast 101 0 (q_goto 12))))))))))
noncomputable def B_X3_add_12 : qI := q_vret
noncomputable def P_X3_add : qP := [B_X3_add_0, B_X3_add_1, B_X3_add_2, B_X3_add_3, B_X3_add_4, B_X3_add_5, B_X3_add_6, B_X3_add_7, B_X3_add_8, B_X3_add_9, B_X3_add_10, B_X3_add_11, B_X3_add_12]
noncomputable def f_X3_add : List qV → qA → Option qR := qa_fn P_X3_add 4
def pc_X3_add : Nat → Nat := fun j => [0, 11, 12, 29, 36, 40, 59, 66, 70, 82, 86, 142, 162].getD j 0
set_option maxRecDepth 100000 in
set_option maxHeartbeats 4000000 in
theorem kon_X3_add (l : Launch) (hl : l.stackTraces = false) : qa_Con l yX3_add cX3_add 4 none 1 20 f_X3_add :=
  qa_method (pcs := pc_X3_add) (by decide +kernel) rfl (fun C hr hn j f hj => by
    match j, hj with
    | 0, hj => obtain rfl := Option.some.inj hj; exact ok_aload_n C rfl dX3_add_0 (ok_get C kc_X3 (by decide) rfl rfl rfl wd_195 (fun _ h => h) dX3_add_1 (ok_ifne C (T := 1) dX3_add_4 (by decide) (ok_iconst C (by decide) dX3_add_7 (ok_goto C dX3_add_8 (by decide)))))
    | 1, hj => obtain rfl := Option.some.inj hj; exact ok_iconst C (by decide) dX3_add_11 (ok_fall rfl)
    | 2, hj => obtain rfl := Option.some.inj hj; exact ok_istore_n C rfl (by decide) dX3_add_12 (ok_aload_n C rfl dX3_add_13 (ok_iload_n C rfl dX3_add_14 (ok_ifne C (T := 3) dX3_add_15 (by decide) (ok_aload_n C rfl dX3_add_18 (ok_get C kc_X5 (by decide) rfl rfl rfl wd_724 (fun _ h => h) dX3_add_19 (ok_aload_n C rfl dX3_add_22 (ok_get C kc_X3 (by decide) rfl rfl rfl wd_201 (fun _ h => h) dX3_add_23 (ok_cmpge C (T := 4) dX3_add_26 (by decide) (ok_fall rfl)))))))))
    | 3, hj => obtain rfl := Option.some.inj hj; exact ok_aload_n C rfl dX3_add_29 (ok_get C kc_X5 (by decide) rfl rfl rfl wd_724 (fun _ h => h) dX3_add_30 (ok_goto C dX3_add_33 (by decide)))
    | 4, hj => obtain rfl := Option.some.inj hj; exact ok_aload_n C rfl dX3_add_36 (ok_get C kc_X3 (by decide) rfl rfl rfl wd_201 (fun _ h => h) dX3_add_37 (ok_fall rfl))
    | 5, hj => obtain rfl := Option.some.inj hj; exact ok_put C kc_X3 (by decide) rfl rfl rfl wd_201 (fun _ h => h) (Or.inl rfl) qa_fit0 dX3_add_40 (ok_aload_n C rfl dX3_add_43 (ok_iload_n C rfl dX3_add_44 (ok_ifne C (T := 6) dX3_add_45 (by decide) (ok_aload_n C rfl dX3_add_48 (ok_get C kc_X5 (by decide) rfl rfl rfl wd_724 (fun _ h => h) dX3_add_49 (ok_aload_n C rfl dX3_add_52 (ok_get C kc_X3 (by decide) rfl rfl rfl wd_202 (fun _ h => h) dX3_add_53 (ok_cmple C (T := 7) dX3_add_56 (by decide) (ok_fall rfl)))))))))
    | 6, hj => obtain rfl := Option.some.inj hj; exact ok_aload_n C rfl dX3_add_59 (ok_get C kc_X5 (by decide) rfl rfl rfl wd_724 (fun _ h => h) dX3_add_60 (ok_goto C dX3_add_63 (by decide)))
    | 7, hj => obtain rfl := Option.some.inj hj; exact ok_aload_n C rfl dX3_add_66 (ok_get C kc_X3 (by decide) rfl rfl rfl wd_202 (fun _ h => h) dX3_add_67 (ok_fall rfl))
    | 8, hj => obtain rfl := Option.some.inj hj; exact ok_put C kc_X3 (by decide) rfl rfl rfl wd_202 (fun _ h => h) (Or.inl rfl) qa_fit0 dX3_add_70 (ok_aload_n C rfl dX3_add_73 (ok_iload_n C rfl dX3_add_74 (ok_ifeq C (T := 9) dX3_add_75 (by decide) (ok_iload_n C rfl dX3_add_78 (ok_goto C dX3_add_79 (by decide))))))
    | 9, hj => obtain rfl := Option.some.inj hj; exact ok_aload_n C rfl dX3_add_82 (ok_get C kc_X3 (by decide) rfl rfl rfl wd_203 (fun _ h => h) dX3_add_83 (ok_fall rfl))
    | 10, hj => obtain rfl := Option.some.inj hj; exact ok_put C kc_X3 (by decide) rfl rfl rfl wd_203 (fun _ h => h) (Or.inl rfl) qa_fit0 dX3_add_86 (ok_aload_n C rfl dX3_add_89 (ok_iload_n C rfl dX3_add_90 (ok_put C kc_X3 (by decide) rfl rfl rfl wd_204 (fun _ h => h) (Or.inl rfl) qa_fit0 dX3_add_91 (ok_aload_n C rfl dX3_add_94 (ok_dup C dX3_add_95 (ok_get C kc_X3 (by decide) rfl rfl rfl wd_195 (fun _ h => h) dX3_add_96 (ok_iconst C (by decide) dX3_add_99 (ok_iadd C dX3_add_100 (ok_put C kc_X3 (by decide) rfl rfl rfl wd_195 (fun _ h => h) (Or.inl rfl) qa_fit0 dX3_add_101 (ok_aload_n C rfl dX3_add_104 (ok_dup C dX3_add_105 (ok_get C kc_X3 (by decide) rfl rfl rfl wd_199 (fun _ h => h) dX3_add_106 (ok_aload_n C rfl dX3_add_109 (ok_get C kc_X5 (by decide) rfl rfl rfl wd_719 (fun _ h => h) dX3_add_110 (ok_iadd C dX3_add_113 (ok_put C kc_X3 (by decide) rfl rfl rfl wd_199 (fun _ h => h) (Or.inl rfl) qa_fit0 dX3_add_114 (ok_aload_n C rfl dX3_add_117 (ok_dup C dX3_add_118 (ok_get C kc_X3 (by decide) rfl rfl rfl wd_200 (fun _ h => h) dX3_add_119 (ok_aload_n C rfl dX3_add_122 (ok_get C kc_X5 (by decide) rfl rfl rfl wd_724 (fun _ h => h) dX3_add_123 (ok_iadd C dX3_add_126 (ok_put C kc_X3 (by decide) rfl rfl rfl wd_200 (fun _ h => h) (Or.inl rfl) qa_fit0 dX3_add_127 (ok_aload_n C rfl dX3_add_130 (ok_get C kc_X5 (by decide) rfl rfl rfl wd_714 (fun _ h => h) dX3_add_131 (ok_iflt C (T := 12) dX3_add_134 (by decide) (ok_aload_n C rfl dX3_add_137 (ok_get C kc_X5 (by decide) rfl rfl rfl wd_714 (fun _ h => h) dX3_add_138 (ok_aload_n C rfl dX3_add_141 (ok_fall rfl))))))))))))))))))))))))))))))
    | 11, hj => obtain rfl := Option.some.inj hj; exact ok_get C kc_X3 (by decide) rfl rfl rfl wd_205 (fun _ h => h) dX3_add_142 (ok_alen C dX3_add_145 (ok_cmpge C (T := 12) dX3_add_146 (by decide) (ok_aload_n C rfl dX3_add_149 (ok_get C kc_X3 (by decide) rfl rfl rfl wd_205 (fun _ h => h) dX3_add_150 (ok_aload_n C rfl dX3_add_153 (ok_get C kc_X5 (by decide) rfl rfl rfl wd_714 (fun _ h => h) dX3_add_154 (ok_aload_n C rfl dX3_add_157 (ok_get C kc_X5 (by decide) rfl rfl rfl wd_724 (fun _ h => h) dX3_add_158 (ok_iastore C dX3_add_161 (ok_fall rfl))))))))))
    | 12, hj => obtain rfl := Option.some.inj hj; exact ok_vret C hr dX3_add_162
    | (_ + 13), hj => exact nomatch hj)
noncomputable def B_X9_cutOne_0 : qI := q_load 1 1 (q_get 5 4 0 (q_store 0 2 (q_load 1 1 (q_load 0 2 (q_callv 5 f_X2_at 2 (q_store 1 3 (q_load 1 3 (q_nonnull 1 (q_vret)))))))))
noncomputable def B_X9_cutOne_1 : qI := q_load 1 1 (q_load 1 3 (q_callv 5 f_X2_cutFirst 2 (q_load 1 0 (q_get 12 4 1 (q_store 1 4 (q_load 1 4 (q_alen (q_store 0 5 (q_const (0, 0) (q_store 0 6 (q_goto 2)))))))))))
noncomputable def B_X9_cutOne_2 : qI := q_load 0 6 (q_load 0 5 (q_cmpge 4 (q_load 1 4 (q_load 0 6 (q_ald (111 + 9) 1 (q_store 1 7 (q_load 1 7 (q_load 1 1 (q_callv 9 f_X6_isIn 2 (q_ifeq 3 (q_load 1 7 (q_get 9 2 0 (q_load 0 2 (q_cmpgt 3 (q_load 1 7 (q_get 9 9 1 (q_load 1 3 (q_load 0 2 (q_callv 6 f_X3_add 3 (q_load 1 7 (q_load 1 1 (q_get 5 4 0 (q_put 9 2 0 (q_goto 3))))))))))))))))))))))))
noncomputable def B_X9_cutOne_3 : qI := q_iinc 6 (1) (q_goto 2)
noncomputable def B_X9_cutOne_4 : qI := q_vret
noncomputable def P_X9_cutOne : qP := [B_X9_cutOne_0, B_X9_cutOne_1, B_X9_cutOne_2, B_X9_cutOne_3, B_X9_cutOne_4]
noncomputable def f_X9_cutOne : List qV → qA → Option qR := qa_fn P_X9_cutOne 8
def pc_X9_cutOne : Nat → Nat := fun j => [0, 16, 35, 86, 92].getD j 0
set_option maxRecDepth 100000 in
set_option maxHeartbeats 4000000 in
theorem kon_X9_cutOne (l : Launch) (hl : l.stackTraces = false) : qa_Con l yX9_cutOne cX9_cutOne 8 none 2 43 f_X9_cutOne :=
  qa_method (pcs := pc_X9_cutOne) (by decide +kernel) rfl (fun C hr hn j f hj => by
    match j, hj with
    | 0, hj => obtain rfl := Option.some.inj hj; exact ok_aload_n C rfl dX9_cutOne_0 (ok_get C kc_X2 (by decide) rfl rfl rfl wd_154 (fun _ h => h) dX9_cutOne_1 (ok_istore_n C rfl (by decide) dX9_cutOne_4 (ok_aload_n C rfl dX9_cutOne_5 (ok_iload_n C rfl dX9_cutOne_6 (ok_callv C rfl (by decide) (kon_X2_at l hl) (qa_wl [749, 750, 751, 75, 752] (by decide +kernel) (by decide +kernel)) ⟨rfl, by decide +kernel, by decide +kernel, by decide +kernel⟩ ⟨Nat.le_of_ble_eq_true rfl, Nat.le_of_ble_eq_true rfl⟩ dX9_cutOne_7 (ok_astore_n C rfl (by decide) dX9_cutOne_10 (ok_aload_n C rfl dX9_cutOne_11 (ok_ifnonnull C (T := 1) dX9_cutOne_12 (by decide) (ok_vret C hr dX9_cutOne_15)))))))))
    | 1, hj => obtain rfl := Option.some.inj hj; exact ok_aload_n C rfl dX9_cutOne_16 (ok_aload_n C rfl dX9_cutOne_17 (ok_callv C rfl (by decide) (kon_X2_cutFirst l hl) (qa_wl [777, 778, 779, 75, 780] (by decide +kernel) (by decide +kernel)) ⟨rfl, by decide +kernel, by decide +kernel, by decide +kernel⟩ ⟨Nat.le_of_ble_eq_true rfl, Nat.le_of_ble_eq_true rfl⟩ dX9_cutOne_18 (ok_aload_n C rfl dX9_cutOne_21 (ok_get C kc_X9 (by decide) rfl rfl rfl wd_280 (fun _ h => h) dX9_cutOne_22 (ok_astore C (by decide) dX9_cutOne_25 (ok_aload C dX9_cutOne_27 (ok_alen C dX9_cutOne_29 (ok_istore C (by decide) dX9_cutOne_30 (ok_iconst C (by decide) dX9_cutOne_32 (ok_istore C (by decide) dX9_cutOne_33 (ok_fall rfl)))))))))))
    | 2, hj => obtain rfl := Option.some.inj hj; exact ok_iload C dX9_cutOne_35 (ok_iload C dX9_cutOne_37 (ok_cmpge C (T := 4) dX9_cutOne_39 (by decide) (ok_aload C dX9_cutOne_42 (ok_iload C dX9_cutOne_44 (ok_aaload C dX9_cutOne_46 (ok_astore C (by decide) dX9_cutOne_47 (ok_aload C dX9_cutOne_49 (ok_aload_n C rfl dX9_cutOne_51 (ok_callv C rfl (by decide) (kon_X6_isIn l hl) (qa_wl [761, 762, 763, 76, 764] (by decide +kernel) (by decide +kernel)) ⟨rfl, by decide +kernel, by decide +kernel, by decide +kernel⟩ ⟨Nat.le_of_ble_eq_true rfl, Nat.le_of_ble_eq_true rfl⟩ dX9_cutOne_52 (ok_ifeq C (T := 3) dX9_cutOne_55 (by decide) (ok_aload C dX9_cutOne_58 (ok_get C kc_X6 (by decide) rfl rfl rfl wd_232 (fun _ h => h) dX9_cutOne_60 (ok_iload_n C rfl dX9_cutOne_63 (ok_cmpgt C (T := 3) dX9_cutOne_64 (by decide) (ok_aload C dX9_cutOne_67 (ok_get C kc_X6 (by decide) rfl rfl rfl wd_252 (fun _ h => h) dX9_cutOne_69 (ok_aload_n C rfl dX9_cutOne_72 (ok_iload_n C rfl dX9_cutOne_73 (ok_callv C rfl (by decide) (kon_X3_add l hl) (qa_wl [781, 782, 783, 77, 784] (by decide +kernel) (by decide +kernel)) ⟨rfl, by decide +kernel, by decide +kernel, by decide +kernel⟩ ⟨Nat.le_of_ble_eq_true rfl, Nat.le_of_ble_eq_true rfl⟩ dX9_cutOne_74 (ok_aload C dX9_cutOne_77 (ok_aload_n C rfl dX9_cutOne_79 (ok_get C kc_X2 (by decide) rfl rfl rfl wd_154 (fun _ h => h) dX9_cutOne_80 (ok_put C kc_X6 (by decide) rfl rfl rfl wd_232 (fun _ h => h) (Or.inl rfl) qa_fit0 dX9_cutOne_83 (ok_fall rfl))))))))))))))))))))))))
    | 3, hj => obtain rfl := Option.some.inj hj; exact ok_iinc C (by decide) (by decide) dX9_cutOne_86 (ok_goto C dX9_cutOne_89 (by decide))
    | 4, hj => obtain rfl := Option.some.inj hj; exact ok_vret C hr dX9_cutOne_92
    | (_ + 5), hj => exact nomatch hj)
noncomputable def B_X9_cutBehind_0 : qI := q_load 1 1 (q_get 5 7 0 (q_store 0 3 (q_load 1 1 (q_get 5 5 0 (q_load 1 1 (q_get 5 4 0 (q_isub (q_store 0 4 (q_goto 1)))))))))
noncomputable def B_X9_cutBehind_1 : qI := q_load 0 4 (q_ifle 3 (q_load 1 0 (q_load 1 1 (q_load 1 2 (q_callv 12 f_X9_causeFor 3 (q_store 0 5 (q_load 0 5 (q_iflt 3 (q_load 0 5 (q_load 1 0 (q_get 12 2 1 (q_alen (q_cmplt 2 (q_goto 3))))))))))))))
noncomputable def B_X9_cutBehind_2 : qI := q_load 1 0 (q_get 12 2 1 (q_load 0 5 (q_dup2 (q_ald 101 0 (q_const (0, 1) (q_iadd (q_ast 101 0 (q_load 1 0 (q_load 1 1 (q_callv 12 f_X9_cutOne 2 (q_iinc 4 (-1) (q_goto 1))))))))))))
noncomputable def B_X9_cutBehind_3 : qI := q_load 1 1 (q_get 5 7 0 (q_load 0 3 (q_isub (q_ret 0))))
noncomputable def P_X9_cutBehind : qP := [B_X9_cutBehind_0, B_X9_cutBehind_1, B_X9_cutBehind_2, B_X9_cutBehind_3]
noncomputable def f_X9_cutBehind : List qV → qA → Option qR := qa_fn P_X9_cutBehind 6
def pc_X9_cutBehind : Nat → Nat := fun j => [0, 16, 47, 69].getD j 0
set_option maxRecDepth 100000 in
set_option maxHeartbeats 4000000 in
theorem kon_X9_cutBehind (l : Launch) (hl : l.stackTraces = false) : qa_Con l yX9_cutBehind cX9_cutBehind 6 (some .int) 4 93 f_X9_cutBehind :=
  qa_method (pcs := pc_X9_cutBehind) (by decide +kernel) rfl (fun C hr hn j f hj => by
    match j, hj with
    | 0, hj => obtain rfl := Option.some.inj hj; exact ok_aload_n C rfl dX9_cutBehind_0 (ok_get C kc_X2 (by decide) rfl rfl rfl wd_163 (fun _ h => h) dX9_cutBehind_1 (ok_istore_n C rfl (by decide) dX9_cutBehind_4 (ok_aload_n C rfl dX9_cutBehind_5 (ok_get C kc_X2 (by decide) rfl rfl rfl wd_157 (fun _ h => h) dX9_cutBehind_6 (ok_aload_n C rfl dX9_cutBehind_9 (ok_get C kc_X2 (by decide) rfl rfl rfl wd_154 (fun _ h => h) dX9_cutBehind_10 (ok_isub C dX9_cutBehind_13 (ok_istore C (by decide) dX9_cutBehind_14 (ok_fall rfl)))))))))
    | 1, hj => obtain rfl := Option.some.inj hj; exact ok_iload C dX9_cutBehind_16 (ok_ifle C (T := 3) dX9_cutBehind_18 (by decide) (ok_aload_n C rfl dX9_cutBehind_21 (ok_aload_n C rfl dX9_cutBehind_22 (ok_aload_n C rfl dX9_cutBehind_23 (ok_callv C rfl (by decide) (kon_X9_causeFor l hl) (qa_wl [745, 746, 747, 74, 748] (by decide +kernel) (by decide +kernel)) ⟨rfl, by decide +kernel, by decide +kernel, by decide +kernel⟩ ⟨Nat.le_of_ble_eq_true rfl, Nat.le_of_ble_eq_true rfl⟩ dX9_cutBehind_24 (ok_istore C (by decide) dX9_cutBehind_27 (ok_iload C dX9_cutBehind_29 (ok_iflt C (T := 3) dX9_cutBehind_31 (by decide) (ok_iload C dX9_cutBehind_34 (ok_aload_n C rfl dX9_cutBehind_36 (ok_get C kc_X9 (by decide) rfl rfl rfl wd_278 (fun _ h => h) dX9_cutBehind_37 (ok_alen C dX9_cutBehind_40 (ok_cmplt C (T := 2) dX9_cutBehind_41 (by decide) (ok_goto C dX9_cutBehind_44 (by decide)))))))))))))))
    | 2, hj => obtain rfl := Option.some.inj hj; exact ok_aload_n C rfl dX9_cutBehind_47 (ok_get C kc_X9 (by decide) rfl rfl rfl wd_278 (fun _ h => h) dX9_cutBehind_48 (ok_iload C dX9_cutBehind_51 (ok_dup2 C dX9_cutBehind_53 (ok_iaload C dX9_cutBehind_54 (ok_iconst C (by decide) dX9_cutBehind_55 (ok_iadd C dX9_cutBehind_56 (ok_iastore C dX9_cutBehind_57 (ok_aload_n C rfl dX9_cutBehind_58 (ok_aload_n C rfl dX9_cutBehind_59 (ok_callv C rfl (by decide) (kon_X9_cutOne l hl) (qa_wl [773, 774, 775, 74, 776] (by decide +kernel) (by decide +kernel)) ⟨rfl, by decide +kernel, by decide +kernel, by decide +kernel⟩ ⟨Nat.le_of_ble_eq_true rfl, Nat.le_of_ble_eq_true rfl⟩ dX9_cutBehind_60 (ok_iinc C (by decide) (by decide) dX9_cutBehind_63 (ok_goto C dX9_cutBehind_66 (by decide)))))))))))))
    | 3, hj => obtain rfl := Option.some.inj hj; exact ok_aload_n C rfl dX9_cutBehind_69 (ok_get C kc_X2 (by decide) rfl rfl rfl wd_163 (fun _ h => h) dX9_cutBehind_70 (ok_iload_n C rfl dX9_cutBehind_73 (ok_isub C dX9_cutBehind_74 (ok_iret C hr dX9_cutBehind_75))))
    | (_ + 4), hj => exact nomatch hj)
noncomputable def B_X9_freeReader_0 : qI := q_const (0, 0) (q_store 0 1 (q_goto 1))
noncomputable def B_X9_freeReader_1 : qI := q_load 0 1 (q_load 1 0 (q_get 12 4 1 (q_alen (q_cmpge 3 (q_load 1 0 (q_get 12 4 1 (q_load 0 1 (q_ald (111 + 9) 1 (q_get 9 0 0 (q_ifne 2 (q_load 0 1 (q_ret 0))))))))))))
noncomputable def B_X9_freeReader_2 : qI := q_iinc 1 (1) (q_goto 1)
noncomputable def B_X9_freeReader_3 : qI := q_const (0, -1) (q_ret 0)
noncomputable def P_X9_freeReader : qP := [B_X9_freeReader_0, B_X9_freeReader_1, B_X9_freeReader_2, B_X9_freeReader_3]
noncomputable def f_X9_freeReader : List qV → qA → Option qR := qa_fn P_X9_freeReader 2
def pc_X9_freeReader : Nat → Nat := fun j => [0, 2, 25, 31].getD j 0
set_option maxRecDepth 100000 in
set_option maxHeartbeats 4000000 in
theorem kon_X9_freeReader (l : Launch) (hl : l.stackTraces = false) : qa_Con l yX9_freeReader cX9_freeReader 2 (some .int) 1 20 f_X9_freeReader :=
  qa_method (pcs := pc_X9_freeReader) (by decide +kernel) rfl (fun C hr hn j f hj => by
    match j, hj with
    | 0, hj => obtain rfl := Option.some.inj hj; exact ok_iconst C (by decide) dX9_freeReader_0 (ok_istore_n C rfl (by decide) dX9_freeReader_1 (ok_fall rfl))
    | 1, hj => obtain rfl := Option.some.inj hj; exact ok_iload_n C rfl dX9_freeReader_2 (ok_aload_n C rfl dX9_freeReader_3 (ok_get C kc_X9 (by decide) rfl rfl rfl wd_280 (fun _ h => h) dX9_freeReader_4 (ok_alen C dX9_freeReader_7 (ok_cmpge C (T := 3) dX9_freeReader_8 (by decide) (ok_aload_n C rfl dX9_freeReader_11 (ok_get C kc_X9 (by decide) rfl rfl rfl wd_280 (fun _ h => h) dX9_freeReader_12 (ok_iload_n C rfl dX9_freeReader_15 (ok_aaload C dX9_freeReader_16 (ok_get C kc_X6 (by decide) rfl rfl rfl wd_224 (fun _ h => h) dX9_freeReader_17 (ok_ifne C (T := 2) dX9_freeReader_20 (by decide) (ok_iload_n C rfl dX9_freeReader_23 (ok_iret C hr dX9_freeReader_24))))))))))))
    | 2, hj => obtain rfl := Option.some.inj hj; exact ok_iinc C (by decide) (by decide) dX9_freeReader_25 (ok_goto C dX9_freeReader_28 (by decide))
    | 3, hj => obtain rfl := Option.some.inj hj; exact ok_iconst C (by decide) dX9_freeReader_31 (ok_iret C hr dX9_freeReader_32)
    | (_ + 4), hj => exact nomatch hj)
noncomputable def B_X1_refuse_0 : qI := q_load 0 1 (q_iflt 1 (q_load 0 1 (q_load 1 0 (q_get 4 0 1 (q_alen (q_cmpge 1 (q_load 1 0 (q_get 4 0 1 (q_load 0 1 (q_dup2 (q_ald 101 0 (q_const (0, 1) (q_iadd (q_ast 101 0 (q_goto 1)))))))))))))))
noncomputable def B_X1_refuse_1 : qI := q_const (0, -10) (q_load 0 1 (q_isub (q_ret 0)))
noncomputable def P_X1_refuse : qP := [B_X1_refuse_0, B_X1_refuse_1]
noncomputable def f_X1_refuse : List qV → qA → Option qR := qa_fn P_X1_refuse 2
def pc_X1_refuse : Nat → Nat := fun j => [0, 23].getD j 0
set_option maxRecDepth 100000 in
set_option maxHeartbeats 4000000 in
theorem kon_X1_refuse (l : Launch) (hl : l.stackTraces = false) : qa_Con l yX1_refuse cX1_refuse 2 (some .int) 1 20 f_X1_refuse :=
  qa_method (pcs := pc_X1_refuse) (by decide +kernel) rfl (fun C hr hn j f hj => by
    match j, hj with
    | 0, hj => obtain rfl := Option.some.inj hj; exact ok_iload_n C rfl dX1_refuse_0 (ok_iflt C (T := 1) dX1_refuse_1 (by decide) (ok_iload_n C rfl dX1_refuse_4 (ok_aload_n C rfl dX1_refuse_5 (ok_get C kc_X1 (by decide) rfl rfl rfl wd_300 (fun _ h => h) dX1_refuse_6 (ok_alen C dX1_refuse_9 (ok_cmpge C (T := 1) dX1_refuse_10 (by decide) (ok_aload_n C rfl dX1_refuse_13 (ok_get C kc_X1 (by decide) rfl rfl rfl wd_300 (fun _ h => h) dX1_refuse_14 (ok_iload_n C rfl dX1_refuse_17 (ok_dup2 C dX1_refuse_18 (ok_iaload C dX1_refuse_19 (ok_iconst C (by decide) dX1_refuse_20 (ok_iadd C dX1_refuse_21 (ok_iastore C dX1_refuse_22 (ok_fall rfl)))))))))))))))
    | 1, hj => obtain rfl := Option.some.inj hj; exact ok_bipush C (by decide) dX1_refuse_23 (ok_iload_n C rfl dX1_refuse_25 (ok_isub C dX1_refuse_26 (ok_iret C hr dX1_refuse_27)))
    | (_ + 2), hj => exact nomatch hj)
noncomputable def B_X3_clear_0 : qI := q_load 1 0 (q_const (0, 0) (q_put 6 0 0 (q_load 1 0 (q_const (0, 0) (q_put 6 1 0 (q_load 1 0 (q_const (0, 0) (q_put 6 2 0 (q_load 1 0 (q_const (0, -1000) (q_put 6 3 0 (q_load 1 0 (q_const (0, -1000) (q_put 6 4 0 (q_load 1 0 (q_const (0, -1) (q_put 6 5 0 (q_load 1 0 (q_const (0, -1) (q_put 6 6 0 (q_const (0, 0) (q_store 0 1 (q_goto 1)))))))))))))))))))))))
noncomputable def B_X3_clear_1 : qI := q_load 0 1 (q_load 1 0 (q_get 6 7 1 (q_alen (q_cmpge 2 (q_load 1 0 (q_get 6 7 1 (q_load 0 1 (q_const (0, -1000) (q_ast 101 0 (q_iinc 1 (1) (q_goto 1)))))))))))
noncomputable def B_X3_clear_2 : qI := q_vret
noncomputable def P_X3_clear : qP := [B_X3_clear_0, B_X3_clear_1, B_X3_clear_2]
noncomputable def f_X3_clear : List qV → qA → Option qR := qa_fn P_X3_clear 2
def pc_X3_clear : Nat → Nat := fun j => [0, 41, 65].getD j 0
set_option maxRecDepth 100000 in
set_option maxHeartbeats 4000000 in
theorem kon_X3_clear (l : Launch) (hl : l.stackTraces = false) : qa_Con l yX3_clear cX3_clear 2 none 1 20 f_X3_clear :=
  qa_method (pcs := pc_X3_clear) (by decide +kernel) rfl (fun C hr hn j f hj => by
    match j, hj with
    | 0, hj => obtain rfl := Option.some.inj hj; exact ok_aload_n C rfl dX3_clear_0 (ok_iconst C (by decide) dX3_clear_1 (ok_put C kc_X3 (by decide) rfl rfl rfl wd_195 (fun _ h => h) (Or.inl rfl) qa_fit0 dX3_clear_2 (ok_aload_n C rfl dX3_clear_5 (ok_iconst C (by decide) dX3_clear_6 (ok_put C kc_X3 (by decide) rfl rfl rfl wd_199 (fun _ h => h) (Or.inl rfl) qa_fit0 dX3_clear_7 (ok_aload_n C rfl dX3_clear_10 (ok_iconst C (by decide) dX3_clear_11 (ok_put C kc_X3 (by decide) rfl rfl rfl wd_200 (fun _ h => h) (Or.inl rfl) qa_fit0 dX3_clear_12 (ok_aload_n C rfl dX3_clear_15 (ok_sipush C (by decide) dX3_clear_16 (ok_put C kc_X3 (by decide) rfl rfl rfl wd_201 (fun _ h => h) (Or.inl rfl) qa_fit0 dX3_clear_19 (ok_aload_n C rfl dX3_clear_22 (ok_sipush C (by decide) dX3_clear_23 (ok_put C kc_X3 (by decide) rfl rfl rfl wd_202 (fun _ h => h) (Or.inl rfl) qa_fit0 dX3_clear_26 (ok_aload_n C rfl dX3_clear_29 (ok_iconst C (by decide) dX3_clear_30 (ok_put C kc_X3 (by decide) rfl rfl rfl wd_203 (fun _ h => h) (Or.inl rfl) qa_fit0 dX3_clear_31 (ok_aload_n C rfl dX3_clear_34 (ok_iconst C (by decide) dX3_clear_35 (ok_put C kc_X3 (by decide) rfl rfl rfl wd_204 (fun _ h => h) (Or.inl rfl) qa_fit0 dX3_clear_36 (ok_iconst C (by decide) dX3_clear_39 (ok_istore_n C rfl (by decide) dX3_clear_40 (ok_fall rfl)))))))))))))))))))))))
    | 1, hj => obtain rfl := Option.some.inj hj; exact ok_iload_n C rfl dX3_clear_41 (ok_aload_n C rfl dX3_clear_42 (ok_get C kc_X3 (by decide) rfl rfl rfl wd_205 (fun _ h => h) dX3_clear_43 (ok_alen C dX3_clear_46 (ok_cmpge C (T := 2) dX3_clear_47 (by decide) (ok_aload_n C rfl dX3_clear_50 (ok_get C kc_X3 (by decide) rfl rfl rfl wd_205 (fun _ h => h) dX3_clear_51 (ok_iload_n C rfl dX3_clear_54 (ok_sipush C (by decide) dX3_clear_55 (ok_iastore C dX3_clear_58 (ok_iinc C (by decide) (by decide) dX3_clear_59 (ok_goto C dX3_clear_62 (by decide))))))))))))
    | 2, hj => obtain rfl := Option.some.inj hj; exact ok_vret C hr dX3_clear_65
    | (_ + 3), hj => exact nomatch hj)
noncomputable def B_X6_begin_0 : qI := q_load 1 0 (q_const (0, 1) (q_putz 9 0 (q_load 1 0 (q_load 0 1 (q_put 9 1 0 (q_load 1 0 (q_load 0 2 (q_put 9 2 0 (q_load 1 0 (q_load 0 3 (q_put 9 3 0 (q_load 1 0 (q_const (0, -1) (q_put 9 4 0 (q_load 1 0 (q_const (0, 0) (q_put 9 5 0 (q_load 1 0 (q_const (0, 0) (q_put 9 6 0 (q_load 1 0 (q_const (0, 0) (q_put 9 7 0 (q_load 1 0 (q_const (0, 0) (q_put 9 8 0 (q_load 1 0 (q_get 9 9 1 (q_callv 6 f_X3_clear 1 (q_goto 1))))))))))))))))))))))))))))))
noncomputable def B_X6_begin_1 : qI := q_vret
noncomputable def P_X6_begin : qP := [B_X6_begin_0, B_X6_begin_1]
noncomputable def f_X6_begin : List qV → qA → Option qR := qa_fn P_X6_begin 4
def pc_X6_begin : Nat → Nat := fun j => [0, 52].getD j 0
set_option maxRecDepth 100000 in
set_option maxHeartbeats 4000000 in
theorem kon_X6_begin (l : Launch) (hl : l.stackTraces = false) : qa_Con l yX6_begin cX6_begin 4 none 2 41 f_X6_begin :=
  qa_method (pcs := pc_X6_begin) (by decide +kernel) rfl (fun C hr hn j f hj => by
    match j, hj with
    | 0, hj => obtain rfl := Option.some.inj hj; exact ok_aload_n C rfl dX6_begin_0 (ok_iconst C (by decide) dX6_begin_1 (ok_putz C kc_X6 (by decide) rfl rfl rfl wd_223 (fun _ h => h) (Or.inl rfl) dX6_begin_2 (ok_aload_n C rfl dX6_begin_5 (ok_iload_n C rfl dX6_begin_6 (ok_put C kc_X6 (by decide) rfl rfl rfl wd_226 (fun _ h => h) (Or.inl rfl) qa_fit0 dX6_begin_7 (ok_aload_n C rfl dX6_begin_10 (ok_iload_n C rfl dX6_begin_11 (ok_put C kc_X6 (by decide) rfl rfl rfl wd_229 (fun _ h => h) (Or.inl rfl) qa_fit0 dX6_begin_12 (ok_aload_n C rfl dX6_begin_15 (ok_iload_n C rfl dX6_begin_16 (ok_put C kc_X6 (by decide) rfl rfl rfl wd_233 (fun _ h => h) (Or.inl rfl) qa_fit0 dX6_begin_17 (ok_aload_n C rfl dX6_begin_20 (ok_iconst C (by decide) dX6_begin_21 (ok_put C kc_X6 (by decide) rfl rfl rfl wd_235 (fun _ h => h) (Or.inl rfl) qa_fit0 dX6_begin_22 (ok_aload_n C rfl dX6_begin_25 (ok_iconst C (by decide) dX6_begin_26 (ok_put C kc_X6 (by decide) rfl rfl rfl wd_238 (fun _ h => h) (Or.inl rfl) qa_fit0 dX6_begin_27 (ok_aload_n C rfl dX6_begin_30 (ok_iconst C (by decide) dX6_begin_31 (ok_put C kc_X6 (by decide) rfl rfl rfl wd_240 (fun _ h => h) (Or.inl rfl) qa_fit0 dX6_begin_32 (ok_aload_n C rfl dX6_begin_35 (ok_iconst C (by decide) dX6_begin_36 (ok_put C kc_X6 (by decide) rfl rfl rfl wd_243 (fun _ h => h) (Or.inl rfl) qa_fit0 dX6_begin_37 (ok_aload_n C rfl dX6_begin_40 (ok_iconst C (by decide) dX6_begin_41 (ok_put C kc_X6 (by decide) rfl rfl rfl wd_246 (fun _ h => h) (Or.inl rfl) qa_fit0 dX6_begin_42 (ok_aload_n C rfl dX6_begin_45 (ok_get C kc_X6 (by decide) rfl rfl rfl wd_249 (fun _ h => h) dX6_begin_46 (ok_callv C rfl (by decide) (kon_X3_clear l hl) (qa_wl [805, 806, 807, 77, 808] (by decide +kernel) (by decide +kernel)) ⟨rfl, by decide +kernel, by decide +kernel, by decide +kernel⟩ ⟨Nat.le_of_ble_eq_true rfl, Nat.le_of_ble_eq_true rfl⟩ dX6_begin_49 (ok_fall rfl))))))))))))))))))))))))))))))
    | 1, hj => obtain rfl := Option.some.inj hj; exact ok_vret C hr dX6_begin_52
    | (_ + 2), hj => exact nomatch hj)
noncomputable def B_X9_seat_0 : qI := q_load 0 1 (q_iflt 1 (q_load 0 1 (q_load 1 0 (q_get 12 4 1 (q_alen (q_cmpge 1 (q_load 1 0 (q_get 12 4 1 (q_load 0 1 (q_ald (111 + 9) 1 (q_load 1 2 (q_get 5 0 0 (q_load 0 3 (q_load 1 0 (q_get 12 0 0 (q_callv 9 f_X6_begin 4 (q_goto 1)))))))))))))))))
noncomputable def B_X9_seat_1 : qI := q_vret
noncomputable def P_X9_seat : qP := [B_X9_seat_0, B_X9_seat_1]
noncomputable def f_X9_seat : List qV → qA → Option qR := qa_fn P_X9_seat 4
def pc_X9_seat : Nat → Nat := fun j => [0, 31].getD j 0
set_option maxRecDepth 100000 in
set_option maxHeartbeats 4000000 in
theorem kon_X9_seat (l : Launch) (hl : l.stackTraces = false) : qa_Con l yX9_seat cX9_seat 4 none 3 64 f_X9_seat :=
  qa_method (pcs := pc_X9_seat) (by decide +kernel) rfl (fun C hr hn j f hj => by
    match j, hj with
    | 0, hj => obtain rfl := Option.some.inj hj; exact ok_iload_n C rfl dX9_seat_0 (ok_iflt C (T := 1) dX9_seat_1 (by decide) (ok_iload_n C rfl dX9_seat_4 (ok_aload_n C rfl dX9_seat_5 (ok_get C kc_X9 (by decide) rfl rfl rfl wd_280 (fun _ h => h) dX9_seat_6 (ok_alen C dX9_seat_9 (ok_cmpge C (T := 1) dX9_seat_10 (by decide) (ok_aload_n C rfl dX9_seat_13 (ok_get C kc_X9 (by decide) rfl rfl rfl wd_280 (fun _ h => h) dX9_seat_14 (ok_iload_n C rfl dX9_seat_17 (ok_aaload C dX9_seat_18 (ok_aload_n C rfl dX9_seat_19 (ok_get C kc_X2 (by decide) rfl rfl rfl wd_141 (fun _ h => h) dX9_seat_20 (ok_iload_n C rfl dX9_seat_23 (ok_aload_n C rfl dX9_seat_24 (ok_get C kc_X9 (by decide) rfl rfl rfl wd_274 (fun _ h => h) dX9_seat_25 (ok_callv C rfl (by decide) (kon_X6_begin l hl) (qa_wl [801, 802, 803, 76, 804] (by decide +kernel) (by decide +kernel)) ⟨rfl, by decide +kernel, by decide +kernel, by decide +kernel⟩ ⟨Nat.le_of_ble_eq_true rfl, Nat.le_of_ble_eq_true rfl⟩ dX9_seat_28 (ok_fall rfl)))))))))))))))))
    | 1, hj => obtain rfl := Option.some.inj hj; exact ok_vret C hr dX9_seat_31
    | (_ + 2), hj => exact nomatch hj)
noncomputable def B_X9_homeOf_0 : qI := q_load 1 1 (q_get 9 1 0 (q_store 0 2 (q_load 1 0 (q_get 12 3 1 (q_load 0 2 (q_iflt 1 (q_load 0 2 (q_load 1 0 (q_get 12 3 1 (q_alen (q_cmpge 1 (q_load 0 2 (q_goto 2)))))))))))))
noncomputable def B_X9_homeOf_1 : qI := q_const (0, 0) (q_goto 2)
noncomputable def B_X9_homeOf_2 : qI := q_ald (111 + 5) 1 (q_ret 1)
noncomputable def P_X9_homeOf : qP := [B_X9_homeOf_0, B_X9_homeOf_1, B_X9_homeOf_2]
noncomputable def f_X9_homeOf : List qV → qA → Option qR := qa_fn P_X9_homeOf 3
def pc_X9_homeOf : Nat → Nat := fun j => [0, 26, 27].getD j 0
set_option maxRecDepth 100000 in
set_option maxHeartbeats 4000000 in
theorem kon_X9_homeOf (l : Launch) (hl : l.stackTraces = false) : qa_Con l yX9_homeOf cX9_homeOf 3 (some (.object "PromiseLog$Branch")) 1 20 f_X9_homeOf :=
  qa_method (pcs := pc_X9_homeOf) (by decide +kernel) rfl (fun C hr hn j f hj => by
    match j, hj with
    | 0, hj => obtain rfl := Option.some.inj hj; exact ok_aload_n C rfl dX9_homeOf_0 (ok_get C kc_X6 (by decide) rfl rfl rfl wd_227 (fun _ h => h) dX9_homeOf_1 (ok_istore_n C rfl (by decide) dX9_homeOf_4 (ok_aload_n C rfl dX9_homeOf_5 (ok_get C kc_X9 (by decide) rfl rfl rfl wd_279 (fun _ h => h) dX9_homeOf_6 (ok_iload_n C rfl dX9_homeOf_9 (ok_iflt C (T := 1) dX9_homeOf_10 (by decide) (ok_iload_n C rfl dX9_homeOf_13 (ok_aload_n C rfl dX9_homeOf_14 (ok_get C kc_X9 (by decide) rfl rfl rfl wd_279 (fun _ h => h) dX9_homeOf_15 (ok_alen C dX9_homeOf_18 (ok_cmpge C (T := 1) dX9_homeOf_19 (by decide) (ok_iload_n C rfl dX9_homeOf_22 (ok_goto C dX9_homeOf_23 (by decide))))))))))))))
    | 1, hj => obtain rfl := Option.some.inj hj; exact ok_iconst C (by decide) dX9_homeOf_26 (ok_fall rfl)
    | 2, hj => obtain rfl := Option.some.inj hj; exact ok_aaload C dX9_homeOf_27 (ok_aret C hr (Or.inl ⟨_, rfl⟩) dX9_homeOf_28)
    | (_ + 3), hj => exact nomatch hj)
noncomputable def B_X4_takeEntries_0 : qI := q_load 1 0 (q_load 0 2 (q_put 7 2 0 (q_load 1 0 (q_const (0, 0) (q_put 7 3 0 (q_const (0, 0) (q_store 0 4 (q_goto 1))))))))
noncomputable def B_X4_takeEntries_1 : qI := q_load 0 4 (q_load 0 3 (q_cmpge 3 (q_load 0 4 (q_load 1 0 (q_get 7 4 1 (q_alen (q_cmpge 3 (q_load 1 1 (q_load 0 2 (q_load 0 4 (q_iadd (q_callv 5 f_X2_at 2 (q_store 1 5 (q_load 1 5 (q_nonnull 2 (q_goto 3))))))))))))))))
noncomputable def B_X4_takeEntries_2 : qI := q_load 1 0 (q_get 7 4 1 (q_load 0 4 (q_load 1 5 (q_aast 8 (q_load 1 0 (q_dup (q_get 7 3 0 (q_const (0, 1) (q_iadd (q_put 7 3 0 (q_iinc 4 (1) (q_goto 1))))))))))))
noncomputable def B_X4_takeEntries_3 : qI := q_vret
noncomputable def P_X4_takeEntries : qP := [B_X4_takeEntries_0, B_X4_takeEntries_1, B_X4_takeEntries_2, B_X4_takeEntries_3]
noncomputable def f_X4_takeEntries : List qV → qA → Option qR := qa_fn P_X4_takeEntries 6
def pc_X4_takeEntries : Nat → Nat := fun j => [0, 13, 47, 72].getD j 0
set_option maxRecDepth 100000 in
set_option maxHeartbeats 4000000 in
theorem kon_X4_takeEntries (l : Launch) (hl : l.stackTraces = false) : qa_Con l yX4_takeEntries cX4_takeEntries 6 none 2 42 f_X4_takeEntries :=
  qa_method (pcs := pc_X4_takeEntries) (by decide +kernel) rfl (fun C hr hn j f hj => by
    match j, hj with
    | 0, hj => obtain rfl := Option.some.inj hj; exact ok_aload_n C rfl dX4_takeEntries_0 (ok_iload_n C rfl dX4_takeEntries_1 (ok_put C kc_X4 (by decide) rfl rfl rfl wd_322 (fun _ h => h) (Or.inl rfl) qa_fit0 dX4_takeEntries_2 (ok_aload_n C rfl dX4_takeEntries_5 (ok_iconst C (by decide) dX4_takeEntries_6 (ok_put C kc_X4 (by decide) rfl rfl rfl wd_323 (fun _ h => h) (Or.inl rfl) qa_fit0 dX4_takeEntries_7 (ok_iconst C (by decide) dX4_takeEntries_10 (ok_istore C (by decide) dX4_takeEntries_11 (ok_fall rfl))))))))
    | 1, hj => obtain rfl := Option.some.inj hj; exact ok_iload C dX4_takeEntries_13 (ok_iload_n C rfl dX4_takeEntries_15 (ok_cmpge C (T := 3) dX4_takeEntries_16 (by decide) (ok_iload C dX4_takeEntries_19 (ok_aload_n C rfl dX4_takeEntries_21 (ok_get C kc_X4 (by decide) rfl rfl rfl wd_324 (fun _ h => h) dX4_takeEntries_22 (ok_alen C dX4_takeEntries_25 (ok_cmpge C (T := 3) dX4_takeEntries_26 (by decide) (ok_aload_n C rfl dX4_takeEntries_29 (ok_iload_n C rfl dX4_takeEntries_30 (ok_iload C dX4_takeEntries_31 (ok_iadd C dX4_takeEntries_33 (ok_callv C rfl (by decide) (kon_X2_at l hl) (qa_wl [831, 750, 751, 75, 752] (by decide +kernel) (by decide +kernel)) ⟨rfl, by decide +kernel, by decide +kernel, by decide +kernel⟩ ⟨Nat.le_of_ble_eq_true rfl, Nat.le_of_ble_eq_true rfl⟩ dX4_takeEntries_34 (ok_astore C (by decide) dX4_takeEntries_37 (ok_aload C dX4_takeEntries_39 (ok_ifnonnull C (T := 2) dX4_takeEntries_41 (by decide) (ok_goto C dX4_takeEntries_44 (by decide)))))))))))))))))
    | 2, hj => obtain rfl := Option.some.inj hj; exact ok_aload_n C rfl dX4_takeEntries_47 (ok_get C kc_X4 (by decide) rfl rfl rfl wd_324 (fun _ h => h) dX4_takeEntries_48 (ok_iload C dX4_takeEntries_51 (ok_aload C dX4_takeEntries_53 (ok_aastore C rfl (by decide) dX4_takeEntries_55 (ok_aload_n C rfl dX4_takeEntries_56 (ok_dup C dX4_takeEntries_57 (ok_get C kc_X4 (by decide) rfl rfl rfl wd_323 (fun _ h => h) dX4_takeEntries_58 (ok_iconst C (by decide) dX4_takeEntries_61 (ok_iadd C dX4_takeEntries_62 (ok_put C kc_X4 (by decide) rfl rfl rfl wd_323 (fun _ h => h) (Or.inl rfl) qa_fit0 dX4_takeEntries_63 (ok_iinc C (by decide) (by decide) dX4_takeEntries_66 (ok_goto C dX4_takeEntries_69 (by decide)))))))))))))
    | 3, hj => obtain rfl := Option.some.inj hj; exact ok_vret C hr dX4_takeEntries_72
    | (_ + 4), hj => exact nomatch hj)
noncomputable def B_X4_take_0 : qI := q_load 1 0 (q_load 1 1 (q_get 9 9 1 (q_get 6 0 0 (q_ifle 1 (q_const (0, 1) (q_goto 2))))))
noncomputable def B_X4_take_1 : qI := q_const (0, 0) (q_goto 2)
noncomputable def B_X4_take_2 : qI := q_putz 7 0 (q_load 1 0 (q_get 7 0 0 (q_ifeq 3 (q_load 1 0 (q_get 7 1 1 (q_load 1 1 (q_get 9 9 1 (q_callv 6 f_X3_copyFrom 2 (q_load 1 1 (q_get 9 9 1 (q_callv 6 f_X3_clear 1 (q_load 1 1 (q_dup (q_get 9 8 0 (q_const (0, 1) (q_iadd (q_put 9 8 0 (q_goto 3))))))))))))))))))
noncomputable def B_X4_take_3 : qI := q_load 1 0 (q_load 1 2 (q_load 1 1 (q_get 9 2 0 (q_load 1 0 (q_get 7 0 0 (q_ifeq 4 (q_load 0 3 (q_const (0, 1) (q_isub (q_goto 5))))))))))
noncomputable def B_X4_take_4 : qI := q_load 0 3 (q_goto 5)
noncomputable def B_X4_take_5 : qI := q_callv 7 f_X4_takeEntries 4 (q_load 1 1 (q_dup (q_get 9 2 0 (q_load 1 0 (q_get 7 3 0 (q_iadd (q_put 9 2 0 (q_load 1 1 (q_dup (q_get 9 7 0 (q_load 1 0 (q_get 7 3 0 (q_iadd (q_put 9 7 0 (q_vret)))))))))))))))
noncomputable def P_X4_take : qP := [B_X4_take_0, B_X4_take_1, B_X4_take_2, B_X4_take_3, B_X4_take_4, B_X4_take_5]
noncomputable def f_X4_take : List qV → qA → Option qR := qa_fn P_X4_take 4
def pc_X4_take : Nat → Nat := fun j => [0, 15, 16, 54, 73, 74].getD j 0
set_option maxRecDepth 100000 in
set_option maxHeartbeats 4000000 in
theorem kon_X4_take (l : Launch) (hl : l.stackTraces = false) : qa_Con l yX4_take cX4_take 4 none 3 141 f_X4_take :=
  qa_method (pcs := pc_X4_take) (by decide +kernel) rfl (fun C hr hn j f hj => by
    match j, hj with
    | 0, hj => obtain rfl := Option.some.inj hj; exact ok_aload_n C rfl dX4_take_0 (ok_aload_n C rfl dX4_take_1 (ok_get C kc_X6 (by decide) rfl rfl rfl wd_250 (fun _ h => h) dX4_take_2 (ok_get C kc_X3 (by decide) rfl rfl rfl wd_196 (fun _ h => h) dX4_take_5 (ok_ifle C (T := 1) dX4_take_8 (by decide) (ok_iconst C (by decide) dX4_take_11 (ok_goto C dX4_take_12 (by decide)))))))
    | 1, hj => obtain rfl := Option.some.inj hj; exact ok_iconst C (by decide) dX4_take_15 (ok_fall rfl)
    | 2, hj => obtain rfl := Option.some.inj hj; exact ok_putz C kc_X4 (by decide) rfl rfl rfl wd_320 (fun _ h => h) (Or.inl rfl) dX4_take_16 (ok_aload_n C rfl dX4_take_19 (ok_get C kc_X4 (by decide) rfl rfl rfl wd_320 (fun _ h => h) dX4_take_20 (ok_ifeq C (T := 3) dX4_take_23 (by decide) (ok_aload_n C rfl dX4_take_26 (ok_get C kc_X4 (by decide) rfl rfl rfl wd_321 (fun _ h => h) dX4_take_27 (ok_aload_n C rfl dX4_take_30 (ok_get C kc_X6 (by decide) rfl rfl rfl wd_250 (fun _ h => h) dX4_take_31 (ok_callv C rfl (by decide) (kon_X3_copyFrom l hl) (qa_wl [825, 700, 701, 77, 702] (by decide +kernel) (by decide +kernel)) ⟨rfl, by decide +kernel, by decide +kernel, by decide +kernel⟩ ⟨Nat.le_of_ble_eq_true rfl, Nat.le_of_ble_eq_true rfl⟩ dX4_take_34 (ok_aload_n C rfl dX4_take_37 (ok_get C kc_X6 (by decide) rfl rfl rfl wd_250 (fun _ h => h) dX4_take_38 (ok_callv C rfl (by decide) (kon_X3_clear l hl) (qa_wl [826, 806, 807, 77, 808] (by decide +kernel) (by decide +kernel)) ⟨rfl, by decide +kernel, by decide +kernel, by decide +kernel⟩ ⟨Nat.le_of_ble_eq_true rfl, Nat.le_of_ble_eq_true rfl⟩ dX4_take_41 (ok_aload_n C rfl dX4_take_44 (ok_dup C dX4_take_45 (ok_get C kc_X6 (by decide) rfl rfl rfl wd_247 (fun _ h => h) dX4_take_46 (ok_iconst C (by decide) dX4_take_49 (ok_iadd C dX4_take_50 (ok_put C kc_X6 (by decide) rfl rfl rfl wd_247 (fun _ h => h) (Or.inl rfl) qa_fit0 dX4_take_51 (ok_fall rfl))))))))))))))))))
    | 3, hj => obtain rfl := Option.some.inj hj; exact ok_aload_n C rfl dX4_take_54 (ok_aload_n C rfl dX4_take_55 (ok_aload_n C rfl dX4_take_56 (ok_get C kc_X6 (by decide) rfl rfl rfl wd_230 (fun _ h => h) dX4_take_57 (ok_aload_n C rfl dX4_take_60 (ok_get C kc_X4 (by decide) rfl rfl rfl wd_320 (fun _ h => h) dX4_take_61 (ok_ifeq C (T := 4) dX4_take_64 (by decide) (ok_iload_n C rfl dX4_take_67 (ok_iconst C (by decide) dX4_take_68 (ok_isub C dX4_take_69 (ok_goto C dX4_take_70 (by decide)))))))))))
    | 4, hj => obtain rfl := Option.some.inj hj; exact ok_iload_n C rfl dX4_take_73 (ok_fall rfl)
    | 5, hj => obtain rfl := Option.some.inj hj; exact ok_callv C rfl (by decide) (kon_X4_takeEntries l hl) (qa_wl [827, 828, 829, 79, 830] (by decide +kernel) (by decide +kernel)) ⟨rfl, by decide +kernel, by decide +kernel, by decide +kernel⟩ ⟨Nat.le_of_ble_eq_true rfl, Nat.le_of_ble_eq_true rfl⟩ dX4_take_74 (ok_aload_n C rfl dX4_take_77 (ok_dup C dX4_take_78 (ok_get C kc_X6 (by decide) rfl rfl rfl wd_230 (fun _ h => h) dX4_take_79 (ok_aload_n C rfl dX4_take_82 (ok_get C kc_X4 (by decide) rfl rfl rfl wd_323 (fun _ h => h) dX4_take_83 (ok_iadd C dX4_take_86 (ok_put C kc_X6 (by decide) rfl rfl rfl wd_230 (fun _ h => h) (Or.inl rfl) qa_fit0 dX4_take_87 (ok_aload_n C rfl dX4_take_90 (ok_dup C dX4_take_91 (ok_get C kc_X6 (by decide) rfl rfl rfl wd_244 (fun _ h => h) dX4_take_92 (ok_aload_n C rfl dX4_take_95 (ok_get C kc_X4 (by decide) rfl rfl rfl wd_323 (fun _ h => h) dX4_take_96 (ok_iadd C dX4_take_99 (ok_put C kc_X6 (by decide) rfl rfl rfl wd_244 (fun _ h => h) (Or.inl rfl) qa_fit0 dX4_take_100 (ok_vret C hr dX4_take_103)))))))))))))))
    | (_ + 6), hj => exact nomatch hj)
noncomputable def B_X6_comeBack_0 : qI := q_load 1 0 (q_load 0 1 (q_put 9 3 0 (q_load 1 0 (q_get 9 4 0 (q_const (0, -1) (q_cmpeq 1 (q_load 1 0 (q_const (0, -1) (q_put 9 4 0 (q_load 1 0 (q_dup (q_get 9 5 0 (q_const (0, 1) (q_iadd (q_put 9 5 0 (q_goto 1))))))))))))))))
noncomputable def B_X6_comeBack_1 : qI := q_vret
noncomputable def P_X6_comeBack : qP := [B_X6_comeBack_0, B_X6_comeBack_1]
noncomputable def f_X6_comeBack : List qV → qA → Option qR := qa_fn P_X6_comeBack 2
def pc_X6_comeBack : Nat → Nat := fun j => [0, 28].getD j 0
set_option maxRecDepth 100000 in
set_option maxHeartbeats 4000000 in
theorem kon_X6_comeBack (l : Launch) (hl : l.stackTraces = false) : qa_Con l yX6_comeBack cX6_comeBack 2 none 1 20 f_X6_comeBack :=
  qa_method (pcs := pc_X6_comeBack) (by decide +kernel) rfl (fun C hr hn j f hj => by
    match j, hj with
    | 0, hj => obtain rfl := Option.some.inj hj; exact ok_aload_n C rfl dX6_comeBack_0 (ok_iload_n C rfl dX6_comeBack_1 (ok_put C kc_X6 (by decide) rfl rfl rfl wd_233 (fun _ h => h) (Or.inl rfl) qa_fit0 dX6_comeBack_2 (ok_aload_n C rfl dX6_comeBack_5 (ok_get C kc_X6 (by decide) rfl rfl rfl wd_235 (fun _ h => h) dX6_comeBack_6 (ok_iconst C (by decide) dX6_comeBack_9 (ok_cmpeq C (T := 1) dX6_comeBack_10 (by decide) (ok_aload_n C rfl dX6_comeBack_13 (ok_iconst C (by decide) dX6_comeBack_14 (ok_put C kc_X6 (by decide) rfl rfl rfl wd_235 (fun _ h => h) (Or.inl rfl) qa_fit0 dX6_comeBack_15 (ok_aload_n C rfl dX6_comeBack_18 (ok_dup C dX6_comeBack_19 (ok_get C kc_X6 (by decide) rfl rfl rfl wd_238 (fun _ h => h) dX6_comeBack_20 (ok_iconst C (by decide) dX6_comeBack_23 (ok_iadd C dX6_comeBack_24 (ok_put C kc_X6 (by decide) rfl rfl rfl wd_238 (fun _ h => h) (Or.inl rfl) qa_fit0 dX6_comeBack_25 (ok_fall rfl))))))))))))))))
    | 1, hj => obtain rfl := Option.some.inj hj; exact ok_vret C hr dX6_comeBack_28
    | (_ + 2), hj => exact nomatch hj)
noncomputable def B_X4_itemCount_0 : qI := q_load 1 0 (q_get 7 3 0 (q_load 1 0 (q_get 7 0 0 (q_ifeq 1 (q_const (0, 1) (q_goto 2))))))
noncomputable def B_X4_itemCount_1 : qI := q_const (0, 0) (q_goto 2)
noncomputable def B_X4_itemCount_2 : qI := q_iadd (q_ret 0)
noncomputable def P_X4_itemCount : qP := [B_X4_itemCount_0, B_X4_itemCount_1, B_X4_itemCount_2]
noncomputable def f_X4_itemCount : List qV → qA → Option qR := qa_fn P_X4_itemCount 1
def pc_X4_itemCount : Nat → Nat := fun j => [0, 15, 16].getD j 0
set_option maxRecDepth 100000 in
set_option maxHeartbeats 4000000 in
theorem kon_X4_itemCount (l : Launch) (hl : l.stackTraces = false) : qa_Con l yX4_itemCount cX4_itemCount 1 (some .int) 1 20 f_X4_itemCount :=
  qa_method (pcs := pc_X4_itemCount) (by decide +kernel) rfl (fun C hr hn j f hj => by
    match j, hj with
    | 0, hj => obtain rfl := Option.some.inj hj; exact ok_aload_n C rfl dX4_itemCount_0 (ok_get C kc_X4 (by decide) rfl rfl rfl wd_323 (fun _ h => h) dX4_itemCount_1 (ok_aload_n C rfl dX4_itemCount_4 (ok_get C kc_X4 (by decide) rfl rfl rfl wd_320 (fun _ h => h) dX4_itemCount_5 (ok_ifeq C (T := 1) dX4_itemCount_8 (by decide) (ok_iconst C (by decide) dX4_itemCount_11 (ok_goto C dX4_itemCount_12 (by decide)))))))
    | 1, hj => obtain rfl := Option.some.inj hj; exact ok_iconst C (by decide) dX4_itemCount_15 (ok_fall rfl)
    | 2, hj => obtain rfl := Option.some.inj hj; exact ok_iadd C dX4_itemCount_16 (ok_iret C hr dX4_itemCount_17)
    | (_ + 3), hj => exact nomatch hj)
noncomputable def B_X9_parentOf_0 : qI := q_load 1 1 (q_get 5 2 0 (q_store 0 2 (q_load 1 0 (q_get 12 3 1 (q_load 0 2 (q_iflt 1 (q_load 0 2 (q_load 1 0 (q_get 12 3 1 (q_alen (q_cmpge 1 (q_load 0 2 (q_goto 2)))))))))))))
noncomputable def B_X9_parentOf_1 : qI := q_const (0, 0) (q_goto 2)
noncomputable def B_X9_parentOf_2 : qI := q_ald (111 + 5) 1 (q_ret 1)
noncomputable def P_X9_parentOf : qP := [B_X9_parentOf_0, B_X9_parentOf_1, B_X9_parentOf_2]
noncomputable def f_X9_parentOf : List qV → qA → Option qR := qa_fn P_X9_parentOf 3
def pc_X9_parentOf : Nat → Nat := fun j => [0, 26, 27].getD j 0
set_option maxRecDepth 100000 in
set_option maxHeartbeats 4000000 in
theorem kon_X9_parentOf (l : Launch) (hl : l.stackTraces = false) : qa_Con l yX9_parentOf cX9_parentOf 3 (some (.object "PromiseLog$Branch")) 1 20 f_X9_parentOf :=
  qa_method (pcs := pc_X9_parentOf) (by decide +kernel) rfl (fun C hr hn j f hj => by
    match j, hj with
    | 0, hj => obtain rfl := Option.some.inj hj; exact ok_aload_n C rfl dX9_parentOf_0 (ok_get C kc_X2 (by decide) rfl rfl rfl wd_147 (fun _ h => h) dX9_parentOf_1 (ok_istore_n C rfl (by decide) dX9_parentOf_4 (ok_aload_n C rfl dX9_parentOf_5 (ok_get C kc_X9 (by decide) rfl rfl rfl wd_279 (fun _ h => h) dX9_parentOf_6 (ok_iload_n C rfl dX9_parentOf_9 (ok_iflt C (T := 1) dX9_parentOf_10 (by decide) (ok_iload_n C rfl dX9_parentOf_13 (ok_aload_n C rfl dX9_parentOf_14 (ok_get C kc_X9 (by decide) rfl rfl rfl wd_279 (fun _ h => h) dX9_parentOf_15 (ok_alen C dX9_parentOf_18 (ok_cmpge C (T := 1) dX9_parentOf_19 (by decide) (ok_iload_n C rfl dX9_parentOf_22 (ok_goto C dX9_parentOf_23 (by decide))))))))))))))
    | 1, hj => obtain rfl := Option.some.inj hj; exact ok_iconst C (by decide) dX9_parentOf_26 (ok_fall rfl)
    | 2, hj => obtain rfl := Option.some.inj hj; exact ok_aaload C dX9_parentOf_27 (ok_aret C hr (Or.inl ⟨_, rfl⟩) dX9_parentOf_28)
    | (_ + 3), hj => exact nomatch hj)
noncomputable def B_X9_isOnWay_0 : qI := q_load 1 2 (q_store 1 3 (q_const (0, 0) (q_store 0 4 (q_goto 1))))
noncomputable def B_X9_isOnWay_1 : qI := q_load 0 4 (q_const (0, 4) (q_cmpge 2 (q_load 1 3 (q_load 1 1 (q_acmpeq 2 (q_load 1 0 (q_load 1 3 (q_callv 12 f_X9_parentOf 2 (q_store 1 3 (q_iinc 4 (1) (q_goto 1)))))))))))
noncomputable def B_X9_isOnWay_2 : qI := q_load 1 3 (q_load 1 1 (q_acmpne 3 (q_const (0, 1) (q_goto 4))))
noncomputable def B_X9_isOnWay_3 : qI := q_const (0, 0) (q_goto 4)
noncomputable def B_X9_isOnWay_4 : qI := q_retz
noncomputable def P_X9_isOnWay : qP := [B_X9_isOnWay_0, B_X9_isOnWay_1, B_X9_isOnWay_2, B_X9_isOnWay_3, B_X9_isOnWay_4]
noncomputable def f_X9_isOnWay : List qV → qA → Option qR := qa_fn P_X9_isOnWay 5
def pc_X9_isOnWay : Nat → Nat := fun j => [0, 5, 28, 37, 38].getD j 0
set_option maxRecDepth 100000 in
set_option maxHeartbeats 4000000 in
theorem kon_X9_isOnWay (l : Launch) (hl : l.stackTraces = false) : qa_Con l yX9_isOnWay cX9_isOnWay 5 (some .boolean) 2 42 f_X9_isOnWay :=
  qa_method (pcs := pc_X9_isOnWay) (by decide +kernel) rfl (fun C hr hn j f hj => by
    match j, hj with
    | 0, hj => obtain rfl := Option.some.inj hj; exact ok_aload_n C rfl dX9_isOnWay_0 (ok_astore_n C rfl (by decide) dX9_isOnWay_1 (ok_iconst C (by decide) dX9_isOnWay_2 (ok_istore C (by decide) dX9_isOnWay_3 (ok_fall rfl))))
    | 1, hj => obtain rfl := Option.some.inj hj; exact ok_iload C dX9_isOnWay_5 (ok_iconst C (by decide) dX9_isOnWay_7 (ok_cmpge C (T := 2) dX9_isOnWay_8 (by decide) (ok_aload_n C rfl dX9_isOnWay_11 (ok_aload_n C rfl dX9_isOnWay_12 (ok_acmpeq C (T := 2) dX9_isOnWay_13 (by decide) (ok_aload_n C rfl dX9_isOnWay_16 (ok_aload_n C rfl dX9_isOnWay_17 (ok_callv C rfl (by decide) (kon_X9_parentOf l hl) (qa_wl [857, 858, 859, 74, 860] (by decide +kernel) (by decide +kernel)) ⟨rfl, by decide +kernel, by decide +kernel, by decide +kernel⟩ ⟨Nat.le_of_ble_eq_true rfl, Nat.le_of_ble_eq_true rfl⟩ dX9_isOnWay_18 (ok_astore_n C rfl (by decide) dX9_isOnWay_21 (ok_iinc C (by decide) (by decide) dX9_isOnWay_22 (ok_goto C dX9_isOnWay_25 (by decide))))))))))))
    | 2, hj => obtain rfl := Option.some.inj hj; exact ok_aload_n C rfl dX9_isOnWay_28 (ok_aload_n C rfl dX9_isOnWay_29 (ok_acmpne C (T := 3) dX9_isOnWay_30 (by decide) (ok_iconst C (by decide) dX9_isOnWay_33 (ok_goto C dX9_isOnWay_34 (by decide)))))
    | 3, hj => obtain rfl := Option.some.inj hj; exact ok_iconst C (by decide) dX9_isOnWay_37 (ok_fall rfl)
    | 4, hj => obtain rfl := Option.some.inj hj; exact ok_zret C hr dX9_isOnWay_38
    | (_ + 5), hj => exact nomatch hj)
noncomputable def B_X9_leastFork_0 : qI := q_const (0, 1073741824) (q_store 0 3 (q_load 1 1 (q_store 1 4 (q_const (0, 0) (q_store 0 5 (q_goto 1))))))
noncomputable def B_X9_leastFork_1 : qI := q_load 0 5 (q_const (0, 4) (q_cmpge 2 (q_load 1 4 (q_load 1 2 (q_acmpeq 2 (q_load 0 3 (q_load 1 4 (q_get 5 3 0 (q_min (q_store 0 3 (q_load 1 0 (q_load 1 4 (q_callv 12 f_X9_parentOf 2 (q_store 1 4 (q_iinc 5 (1) (q_goto 1))))))))))))))))
noncomputable def B_X9_leastFork_2 : qI := q_load 0 3 (q_ret 0)
noncomputable def P_X9_leastFork : qP := [B_X9_leastFork_0, B_X9_leastFork_1, B_X9_leastFork_2]
noncomputable def f_X9_leastFork : List qV → qA → Option qR := qa_fn P_X9_leastFork 6
def pc_X9_leastFork : Nat → Nat := fun j => [0, 9, 45].getD j 0
set_option maxRecDepth 100000 in
set_option maxHeartbeats 4000000 in
theorem kon_X9_leastFork (l : Launch) (hl : l.stackTraces = false) : qa_Con l yX9_leastFork cX9_leastFork 6 (some .int) 2 42 f_X9_leastFork :=
  qa_method (pcs := pc_X9_leastFork) (by decide +kernel) rfl (fun C hr hn j f hj => by
    match j, hj with
    | 0, hj => obtain rfl := Option.some.inj hj; exact ok_ldc C (by decide) rfl wd_865 dX9_leastFork_0 (ok_istore_n C rfl (by decide) dX9_leastFork_2 (ok_aload_n C rfl dX9_leastFork_3 (ok_astore C (by decide) dX9_leastFork_4 (ok_iconst C (by decide) dX9_leastFork_6 (ok_istore C (by decide) dX9_leastFork_7 (ok_fall rfl))))))
    | 1, hj => obtain rfl := Option.some.inj hj; exact ok_iload C dX9_leastFork_9 (ok_iconst C (by decide) dX9_leastFork_11 (ok_cmpge C (T := 2) dX9_leastFork_12 (by decide) (ok_aload C dX9_leastFork_15 (ok_aload_n C rfl dX9_leastFork_17 (ok_acmpeq C (T := 2) dX9_leastFork_18 (by decide) (ok_iload_n C rfl dX9_leastFork_21 (ok_aload C dX9_leastFork_22 (ok_get C kc_X2 (by decide) rfl rfl rfl wd_151 (fun _ h => h) dX9_leastFork_24 (ok_min C (qa_wl [866, 546, 93, 547] (by decide +kernel) (by decide +kernel)) (Nat.le_of_ble_eq_true rfl) (Nat.le_of_ble_eq_true rfl) dX9_leastFork_27 (ok_istore_n C rfl (by decide) dX9_leastFork_30 (ok_aload_n C rfl dX9_leastFork_31 (ok_aload C dX9_leastFork_32 (ok_callv C rfl (by decide) (kon_X9_parentOf l hl) (qa_wl [857, 858, 859, 74, 860] (by decide +kernel) (by decide +kernel)) ⟨rfl, by decide +kernel, by decide +kernel, by decide +kernel⟩ ⟨Nat.le_of_ble_eq_true rfl, Nat.le_of_ble_eq_true rfl⟩ dX9_leastFork_34 (ok_astore C (by decide) dX9_leastFork_37 (ok_iinc C (by decide) (by decide) dX9_leastFork_39 (ok_goto C dX9_leastFork_42 (by decide)))))))))))))))))
    | 2, hj => obtain rfl := Option.some.inj hj; exact ok_iload_n C rfl dX9_leastFork_45 (ok_iret C hr dX9_leastFork_46)
    | (_ + 3), hj => exact nomatch hj)
noncomputable def B_X9_alikeUpTo_0 : qI := q_load 1 1 (q_load 1 2 (q_acmpne 1 (q_load 1 1 (q_get 5 5 0 (q_ret 0)))))
noncomputable def B_X9_alikeUpTo_1 : qI := q_load 1 1 (q_store 1 3 (q_const (0, 0) (q_store 0 4 (q_goto 2))))
noncomputable def B_X9_alikeUpTo_2 : qI := q_load 0 4 (q_const (0, 4) (q_cmpge 3 (q_load 1 0 (q_load 1 3 (q_load 1 2 (q_callv 12 f_X9_isOnWay 3 (q_ifne 3 (q_load 1 0 (q_load 1 3 (q_callv 12 f_X9_parentOf 2 (q_store 1 3 (q_iinc 4 (1) (q_goto 2)))))))))))))
noncomputable def B_X9_alikeUpTo_3 : qI := q_load 1 0 (q_load 1 1 (q_load 1 3 (q_callv 12 f_X9_leastFork 3 (q_load 1 0 (q_load 1 2 (q_load 1 3 (q_callv 12 f_X9_leastFork 3 (q_min (q_ret 0)))))))))
noncomputable def P_X9_alikeUpTo : qP := [B_X9_alikeUpTo_0, B_X9_alikeUpTo_1, B_X9_alikeUpTo_2, B_X9_alikeUpTo_3]
noncomputable def f_X9_alikeUpTo : List qV → qA → Option qR := qa_fn P_X9_alikeUpTo 5
def pc_X9_alikeUpTo : Nat → Nat := fun j => [0, 10, 15, 42].getD j 0
set_option maxRecDepth 100000 in
set_option maxHeartbeats 4000000 in
theorem kon_X9_alikeUpTo (l : Launch) (hl : l.stackTraces = false) : qa_Con l yX9_alikeUpTo cX9_alikeUpTo 5 (some .int) 3 67 f_X9_alikeUpTo :=
  qa_method (pcs := pc_X9_alikeUpTo) (by decide +kernel) rfl (fun C hr hn j f hj => by
    match j, hj with
    | 0, hj => obtain rfl := Option.some.inj hj; exact ok_aload_n C rfl dX9_alikeUpTo_0 (ok_aload_n C rfl dX9_alikeUpTo_1 (ok_acmpne C (T := 1) dX9_alikeUpTo_2 (by decide) (ok_aload_n C rfl dX9_alikeUpTo_5 (ok_get C kc_X2 (by decide) rfl rfl rfl wd_157 (fun _ h => h) dX9_alikeUpTo_6 (ok_iret C hr dX9_alikeUpTo_9)))))
    | 1, hj => obtain rfl := Option.some.inj hj; exact ok_aload_n C rfl dX9_alikeUpTo_10 (ok_astore_n C rfl (by decide) dX9_alikeUpTo_11 (ok_iconst C (by decide) dX9_alikeUpTo_12 (ok_istore C (by decide) dX9_alikeUpTo_13 (ok_fall rfl))))
    | 2, hj => obtain rfl := Option.some.inj hj; exact ok_iload C dX9_alikeUpTo_15 (ok_iconst C (by decide) dX9_alikeUpTo_17 (ok_cmpge C (T := 3) dX9_alikeUpTo_18 (by decide) (ok_aload_n C rfl dX9_alikeUpTo_21 (ok_aload_n C rfl dX9_alikeUpTo_22 (ok_aload_n C rfl dX9_alikeUpTo_23 (ok_callv C rfl (by decide) (kon_X9_isOnWay l hl) (qa_wl [853, 854, 855, 74, 856] (by decide +kernel) (by decide +kernel)) ⟨rfl, by decide +kernel, by decide +kernel, by decide +kernel⟩ ⟨Nat.le_of_ble_eq_true rfl, Nat.le_of_ble_eq_true rfl⟩ dX9_alikeUpTo_24 (ok_ifne C (T := 3) dX9_alikeUpTo_27 (by decide) (ok_aload_n C rfl dX9_alikeUpTo_30 (ok_aload_n C rfl dX9_alikeUpTo_31 (ok_callv C rfl (by decide) (kon_X9_parentOf l hl) (qa_wl [857, 858, 859, 74, 860] (by decide +kernel) (by decide +kernel)) ⟨rfl, by decide +kernel, by decide +kernel, by decide +kernel⟩ ⟨Nat.le_of_ble_eq_true rfl, Nat.le_of_ble_eq_true rfl⟩ dX9_alikeUpTo_32 (ok_astore_n C rfl (by decide) dX9_alikeUpTo_35 (ok_iinc C (by decide) (by decide) dX9_alikeUpTo_36 (ok_goto C dX9_alikeUpTo_39 (by decide))))))))))))))
    | 3, hj => obtain rfl := Option.some.inj hj; exact ok_aload_n C rfl dX9_alikeUpTo_42 (ok_aload_n C rfl dX9_alikeUpTo_43 (ok_aload_n C rfl dX9_alikeUpTo_44 (ok_callv C rfl (by decide) (kon_X9_leastFork l hl) (qa_wl [861, 862, 863, 74, 864] (by decide +kernel) (by decide +kernel)) ⟨rfl, by decide +kernel, by decide +kernel, by decide +kernel⟩ ⟨Nat.le_of_ble_eq_true rfl, Nat.le_of_ble_eq_true rfl⟩ dX9_alikeUpTo_45 (ok_aload_n C rfl dX9_alikeUpTo_48 (ok_aload_n C rfl dX9_alikeUpTo_49 (ok_aload_n C rfl dX9_alikeUpTo_50 (ok_callv C rfl (by decide) (kon_X9_leastFork l hl) (qa_wl [861, 862, 863, 74, 864] (by decide +kernel) (by decide +kernel)) ⟨rfl, by decide +kernel, by decide +kernel, by decide +kernel⟩ ⟨Nat.le_of_ble_eq_true rfl, Nat.le_of_ble_eq_true rfl⟩ dX9_alikeUpTo_51 (ok_min C (qa_wl [866, 546, 93, 547] (by decide +kernel) (by decide +kernel)) (Nat.le_of_ble_eq_true rfl) (Nat.le_of_ble_eq_true rfl) dX9_alikeUpTo_54 (ok_iret C hr dX9_alikeUpTo_57)))))))))
    | (_ + 4), hj => exact nomatch hj)
noncomputable def B_X9_readerCount_0 : qI := q_const (0, 0) (q_store 0 1 (q_load 1 0 (q_get 12 4 1 (q_store 1 2 (q_load 1 2 (q_alen (q_store 0 3 (q_const (0, 0) (q_store 0 4 (q_goto 1))))))))))
noncomputable def B_X9_readerCount_1 : qI := q_load 0 4 (q_load 0 3 (q_cmpge 4 (q_load 1 2 (q_load 0 4 (q_ald (111 + 9) 1 (q_store 1 5 (q_load 0 1 (q_load 1 5 (q_get 9 0 0 (q_ifeq 2 (q_const (0, 1) (q_goto 3))))))))))))
noncomputable def B_X9_readerCount_2 : qI := q_const (0, 0) (q_goto 3)
noncomputable def B_X9_readerCount_3 : qI := q_iadd (q_store 0 1 (q_iinc 4 (1) (q_goto 1)))
noncomputable def B_X9_readerCount_4 : qI := q_load 0 1 (q_ret 0)
noncomputable def P_X9_readerCount : qP := [B_X9_readerCount_0, B_X9_readerCount_1, B_X9_readerCount_2, B_X9_readerCount_3, B_X9_readerCount_4]
noncomputable def f_X9_readerCount : List qV → qA → Option qR := qa_fn P_X9_readerCount 6
def pc_X9_readerCount : Nat → Nat := fun j => [0, 13, 38, 39, 47].getD j 0
set_option maxRecDepth 100000 in
set_option maxHeartbeats 4000000 in
theorem kon_X9_readerCount (l : Launch) (hl : l.stackTraces = false) : qa_Con l yX9_readerCount cX9_readerCount 6 (some .int) 1 20 f_X9_readerCount :=
  qa_method (pcs := pc_X9_readerCount) (by decide +kernel) rfl (fun C hr hn j f hj => by
    match j, hj with
    | 0, hj => obtain rfl := Option.some.inj hj; exact ok_iconst C (by decide) dX9_readerCount_0 (ok_istore_n C rfl (by decide) dX9_readerCount_1 (ok_aload_n C rfl dX9_readerCount_2 (ok_get C kc_X9 (by decide) rfl rfl rfl wd_280 (fun _ h => h) dX9_readerCount_3 (ok_astore_n C rfl (by decide) dX9_readerCount_6 (ok_aload_n C rfl dX9_readerCount_7 (ok_alen C dX9_readerCount_8 (ok_istore_n C rfl (by decide) dX9_readerCount_9 (ok_iconst C (by decide) dX9_readerCount_10 (ok_istore C (by decide) dX9_readerCount_11 (ok_fall rfl))))))))))
    | 1, hj => obtain rfl := Option.some.inj hj; exact ok_iload C dX9_readerCount_13 (ok_iload_n C rfl dX9_readerCount_15 (ok_cmpge C (T := 4) dX9_readerCount_16 (by decide) (ok_aload_n C rfl dX9_readerCount_19 (ok_iload C dX9_readerCount_20 (ok_aaload C dX9_readerCount_22 (ok_astore C (by decide) dX9_readerCount_23 (ok_iload_n C rfl dX9_readerCount_25 (ok_aload C dX9_readerCount_26 (ok_get C kc_X6 (by decide) rfl rfl rfl wd_224 (fun _ h => h) dX9_readerCount_28 (ok_ifeq C (T := 2) dX9_readerCount_31 (by decide) (ok_iconst C (by decide) dX9_readerCount_34 (ok_goto C dX9_readerCount_35 (by decide)))))))))))))
    | 2, hj => obtain rfl := Option.some.inj hj; exact ok_iconst C (by decide) dX9_readerCount_38 (ok_fall rfl)
    | 3, hj => obtain rfl := Option.some.inj hj; exact ok_iadd C dX9_readerCount_39 (ok_istore_n C rfl (by decide) dX9_readerCount_40 (ok_iinc C (by decide) (by decide) dX9_readerCount_41 (ok_goto C dX9_readerCount_44 (by decide))))
    | 4, hj => obtain rfl := Option.some.inj hj; exact ok_iload_n C rfl dX9_readerCount_47 (ok_iret C hr dX9_readerCount_48)
    | (_ + 5), hj => exact nomatch hj)
noncomputable def B_X9_freeBranch_0 : qI := q_load 1 0 (q_get 12 3 1 (q_store 1 1 (q_load 1 1 (q_alen (q_store 0 2 (q_const (0, 0) (q_store 0 3 (q_goto 1))))))))
noncomputable def B_X9_freeBranch_1 : qI := q_load 0 3 (q_load 0 2 (q_cmpge 3 (q_load 1 1 (q_load 0 3 (q_ald (111 + 5) 1 (q_store 1 4 (q_load 1 4 (q_get 5 1 0 (q_ifne 2 (q_load 1 4 (q_ret 1)))))))))))
noncomputable def B_X9_freeBranch_2 : qI := q_iinc 3 (1) (q_goto 1)
noncomputable def B_X9_freeBranch_3 : qI := q_const (1, -1) (q_ret 1)
noncomputable def P_X9_freeBranch : qP := [B_X9_freeBranch_0, B_X9_freeBranch_1, B_X9_freeBranch_2, B_X9_freeBranch_3]
noncomputable def f_X9_freeBranch : List qV → qA → Option qR := qa_fn P_X9_freeBranch 5
def pc_X9_freeBranch : Nat → Nat := fun j => [0, 10, 31, 37].getD j 0
set_option maxRecDepth 100000 in
set_option maxHeartbeats 4000000 in
theorem kon_X9_freeBranch (l : Launch) (hl : l.stackTraces = false) : qa_Con l yX9_freeBranch cX9_freeBranch 5 (some (.object "PromiseLog$Branch")) 1 20 f_X9_freeBranch :=
  qa_method (pcs := pc_X9_freeBranch) (by decide +kernel) rfl (fun C hr hn j f hj => by
    match j, hj with
    | 0, hj => obtain rfl := Option.some.inj hj; exact ok_aload_n C rfl dX9_freeBranch_0 (ok_get C kc_X9 (by decide) rfl rfl rfl wd_279 (fun _ h => h) dX9_freeBranch_1 (ok_astore_n C rfl (by decide) dX9_freeBranch_4 (ok_aload_n C rfl dX9_freeBranch_5 (ok_alen C dX9_freeBranch_6 (ok_istore_n C rfl (by decide) dX9_freeBranch_7 (ok_iconst C (by decide) dX9_freeBranch_8 (ok_istore_n C rfl (by decide) dX9_freeBranch_9 (ok_fall rfl))))))))
    | 1, hj => obtain rfl := Option.some.inj hj; exact ok_iload_n C rfl dX9_freeBranch_10 (ok_iload_n C rfl dX9_freeBranch_11 (ok_cmpge C (T := 3) dX9_freeBranch_12 (by decide) (ok_aload_n C rfl dX9_freeBranch_15 (ok_iload_n C rfl dX9_freeBranch_16 (ok_aaload C dX9_freeBranch_17 (ok_astore C (by decide) dX9_freeBranch_18 (ok_aload C dX9_freeBranch_20 (ok_get C kc_X2 (by decide) rfl rfl rfl wd_143 (fun _ h => h) dX9_freeBranch_22 (ok_ifne C (T := 2) dX9_freeBranch_25 (by decide) (ok_aload C dX9_freeBranch_28 (ok_aret C hr (Or.inl ⟨_, rfl⟩) dX9_freeBranch_30)))))))))))
    | 2, hj => obtain rfl := Option.some.inj hj; exact ok_iinc C (by decide) (by decide) dX9_freeBranch_31 (ok_goto C dX9_freeBranch_34 (by decide))
    | 3, hj => obtain rfl := Option.some.inj hj; exact ok_null C dX9_freeBranch_37 (ok_aret C hr (Or.inl ⟨_, rfl⟩) dX9_freeBranch_38)
    | (_ + 4), hj => exact nomatch hj)
noncomputable def B_X2_beginAs_0 : qI := q_load 1 0 (q_load 1 1 (q_callv 5 f_X2_copyFrom 2 (q_load 1 0 (q_load 1 1 (q_get 5 0 0 (q_put 5 2 0 (q_load 1 0 (q_load 1 1 (q_get 5 5 0 (q_put 5 3 0 (q_load 1 0 (q_const (0, 0) (q_put 5 7 0 (q_vret))))))))))))))
noncomputable def P_X2_beginAs : qP := [B_X2_beginAs_0]
noncomputable def f_X2_beginAs : List qV → qA → Option qR := qa_fn P_X2_beginAs 2
def pc_X2_beginAs : Nat → Nat := fun j => [0].getD j 0
set_option maxRecDepth 100000 in
set_option maxHeartbeats 4000000 in
theorem kon_X2_beginAs (l : Launch) (hl : l.stackTraces = false) : qa_Con l yX2_beginAs cX2_beginAs 2 none 2 141 f_X2_beginAs :=
  qa_method (pcs := pc_X2_beginAs) (by decide +kernel) rfl (fun C hr hn j f hj => by
    match j, hj with
    | 0, hj => obtain rfl := Option.some.inj hj; exact ok_aload_n C rfl dX2_beginAs_0 (ok_aload_n C rfl dX2_beginAs_1 (ok_callv C rfl (by decide) (kon_X2_copyFrom l hl) (qa_wl [887, 691, 692, 75, 693] (by decide +kernel) (by decide +kernel)) ⟨rfl, by decide +kernel, by decide +kernel, by decide +kernel⟩ ⟨Nat.le_of_ble_eq_true rfl, Nat.le_of_ble_eq_true rfl⟩ dX2_beginAs_2 (ok_aload_n C rfl dX2_beginAs_5 (ok_aload_n C rfl dX2_beginAs_6 (ok_get C kc_X2 (by decide) rfl rfl rfl wd_139 (fun _ h => h) dX2_beginAs_7 (ok_put C kc_X2 (by decide) rfl rfl rfl wd_146 (fun _ h => h) (Or.inl rfl) qa_fit0 dX2_beginAs_10 (ok_aload_n C rfl dX2_beginAs_13 (ok_aload_n C rfl dX2_beginAs_14 (ok_get C kc_X2 (by decide) rfl rfl rfl wd_155 (fun _ h => h) dX2_beginAs_15 (ok_put C kc_X2 (by decide) rfl rfl rfl wd_149 (fun _ h => h) (Or.inl rfl) qa_fit0 dX2_beginAs_18 (ok_aload_n C rfl dX2_beginAs_21 (ok_iconst C (by decide) dX2_beginAs_22 (ok_put C kc_X2 (by decide) rfl rfl rfl wd_161 (fun _ h => h) (Or.inl rfl) qa_fit0 dX2_beginAs_23 (ok_vret C hr dX2_beginAs_26))))))))))))))
    | (_ + 1), hj => exact nomatch hj)
noncomputable def B_X9_childrenOf_0 : qI := q_const (0, 0) (q_store 0 2 (q_load 1 0 (q_get 12 3 1 (q_store 1 3 (q_load 1 3 (q_alen (q_store 0 4 (q_const (0, 0) (q_store 0 5 (q_goto 1))))))))))
noncomputable def B_X9_childrenOf_1 : qI := q_load 0 5 (q_load 0 4 (q_cmpge 4 (q_load 1 3 (q_load 0 5 (q_ald (111 + 5) 1 (q_store 1 6 (q_load 0 2 (q_load 1 6 (q_get 5 1 0 (q_ifeq 2 (q_load 1 6 (q_get 5 2 0 (q_load 1 1 (q_get 5 0 0 (q_cmpne 2 (q_const (0, 1) (q_goto 3)))))))))))))))))
noncomputable def B_X9_childrenOf_2 : qI := q_const (0, 0) (q_goto 3)
noncomputable def B_X9_childrenOf_3 : qI := q_iadd (q_store 0 2 (q_iinc 5 (1) (q_goto 1)))
noncomputable def B_X9_childrenOf_4 : qI := q_load 0 2 (q_ret 0)
noncomputable def P_X9_childrenOf : qP := [B_X9_childrenOf_0, B_X9_childrenOf_1, B_X9_childrenOf_2, B_X9_childrenOf_3, B_X9_childrenOf_4]
noncomputable def f_X9_childrenOf : List qV → qA → Option qR := qa_fn P_X9_childrenOf 7
def pc_X9_childrenOf : Nat → Nat := fun j => [0, 14, 52, 53, 61].getD j 0
set_option maxRecDepth 100000 in
set_option maxHeartbeats 4000000 in
theorem kon_X9_childrenOf (l : Launch) (hl : l.stackTraces = false) : qa_Con l yX9_childrenOf cX9_childrenOf 7 (some .int) 1 20 f_X9_childrenOf :=
  qa_method (pcs := pc_X9_childrenOf) (by decide +kernel) rfl (fun C hr hn j f hj => by
    match j, hj with
    | 0, hj => obtain rfl := Option.some.inj hj; exact ok_iconst C (by decide) dX9_childrenOf_0 (ok_istore_n C rfl (by decide) dX9_childrenOf_1 (ok_aload_n C rfl dX9_childrenOf_2 (ok_get C kc_X9 (by decide) rfl rfl rfl wd_279 (fun _ h => h) dX9_childrenOf_3 (ok_astore_n C rfl (by decide) dX9_childrenOf_6 (ok_aload_n C rfl dX9_childrenOf_7 (ok_alen C dX9_childrenOf_8 (ok_istore C (by decide) dX9_childrenOf_9 (ok_iconst C (by decide) dX9_childrenOf_11 (ok_istore C (by decide) dX9_childrenOf_12 (ok_fall rfl))))))))))
    | 1, hj => obtain rfl := Option.some.inj hj; exact ok_iload C dX9_childrenOf_14 (ok_iload C dX9_childrenOf_16 (ok_cmpge C (T := 4) dX9_childrenOf_18 (by decide) (ok_aload_n C rfl dX9_childrenOf_21 (ok_iload C dX9_childrenOf_22 (ok_aaload C dX9_childrenOf_24 (ok_astore C (by decide) dX9_childrenOf_25 (ok_iload_n C rfl dX9_childrenOf_27 (ok_aload C dX9_childrenOf_28 (ok_get C kc_X2 (by decide) rfl rfl rfl wd_143 (fun _ h => h) dX9_childrenOf_30 (ok_ifeq C (T := 2) dX9_childrenOf_33 (by decide) (ok_aload C dX9_childrenOf_36 (ok_get C kc_X2 (by decide) rfl rfl rfl wd_147 (fun _ h => h) dX9_childrenOf_38 (ok_aload_n C rfl dX9_childrenOf_41 (ok_get C kc_X2 (by decide) rfl rfl rfl wd_141 (fun _ h => h) dX9_childrenOf_42 (ok_cmpne C (T := 2) dX9_childrenOf_45 (by decide) (ok_iconst C (by decide) dX9_childrenOf_48 (ok_goto C dX9_childrenOf_49 (by decide))))))))))))))))))
    | 2, hj => obtain rfl := Option.some.inj hj; exact ok_iconst C (by decide) dX9_childrenOf_52 (ok_fall rfl)
    | 3, hj => obtain rfl := Option.some.inj hj; exact ok_iadd C dX9_childrenOf_53 (ok_istore_n C rfl (by decide) dX9_childrenOf_54 (ok_iinc C (by decide) (by decide) dX9_childrenOf_55 (ok_goto C dX9_childrenOf_58 (by decide))))
    | 4, hj => obtain rfl := Option.some.inj hj; exact ok_iload_n C rfl dX9_childrenOf_61 (ok_iret C hr dX9_childrenOf_62)
    | (_ + 5), hj => exact nomatch hj)
noncomputable def B_X9_readersNotBehind_0 : qI := q_const (0, 0) (q_store 0 3 (q_load 1 0 (q_get 12 4 1 (q_store 1 4 (q_load 1 4 (q_alen (q_store 0 5 (q_const (0, 0) (q_store 0 6 (q_goto 1))))))))))
noncomputable def B_X9_readersNotBehind_1 : qI := q_load 0 6 (q_load 0 5 (q_cmpge 4 (q_load 1 4 (q_load 0 6 (q_ald (111 + 9) 1 (q_store 1 7 (q_load 0 3 (q_load 1 7 (q_load 1 1 (q_callv 9 f_X6_isIn 2 (q_ifeq 2 (q_load 1 7 (q_get 9 2 0 (q_load 0 2 (q_cmpgt 2 (q_const (0, 1) (q_goto 3)))))))))))))))))
noncomputable def B_X9_readersNotBehind_2 : qI := q_const (0, 0) (q_goto 3)
noncomputable def B_X9_readersNotBehind_3 : qI := q_iadd (q_store 0 3 (q_iinc 6 (1) (q_goto 1)))
noncomputable def B_X9_readersNotBehind_4 : qI := q_load 0 3 (q_ret 0)
noncomputable def P_X9_readersNotBehind : qP := [B_X9_readersNotBehind_0, B_X9_readersNotBehind_1, B_X9_readersNotBehind_2, B_X9_readersNotBehind_3, B_X9_readersNotBehind_4]
noncomputable def f_X9_readersNotBehind : List qV → qA → Option qR := qa_fn P_X9_readersNotBehind 8
def pc_X9_readersNotBehind : Nat → Nat := fun j => [0, 16, 53, 54, 62].getD j 0
set_option maxRecDepth 100000 in
set_option maxHeartbeats 4000000 in
theorem kon_X9_readersNotBehind (l : Launch) (hl : l.stackTraces = false) : qa_Con l yX9_readersNotBehind cX9_readersNotBehind 8 (some .int) 2 41 f_X9_readersNotBehind :=
  qa_method (pcs := pc_X9_readersNotBehind) (by decide +kernel) rfl (fun C hr hn j f hj => by
    match j, hj with
    | 0, hj => obtain rfl := Option.some.inj hj; exact ok_iconst C (by decide) dX9_readersNotBehind_0 (ok_istore_n C rfl (by decide) dX9_readersNotBehind_1 (ok_aload_n C rfl dX9_readersNotBehind_2 (ok_get C kc_X9 (by decide) rfl rfl rfl wd_280 (fun _ h => h) dX9_readersNotBehind_3 (ok_astore C (by decide) dX9_readersNotBehind_6 (ok_aload C dX9_readersNotBehind_8 (ok_alen C dX9_readersNotBehind_10 (ok_istore C (by decide) dX9_readersNotBehind_11 (ok_iconst C (by decide) dX9_readersNotBehind_13 (ok_istore C (by decide) dX9_readersNotBehind_14 (ok_fall rfl))))))))))
    | 1, hj => obtain rfl := Option.some.inj hj; exact ok_iload C dX9_readersNotBehind_16 (ok_iload C dX9_readersNotBehind_18 (ok_cmpge C (T := 4) dX9_readersNotBehind_20 (by decide) (ok_aload C dX9_readersNotBehind_23 (ok_iload C dX9_readersNotBehind_25 (ok_aaload C dX9_readersNotBehind_27 (ok_astore C (by decide) dX9_readersNotBehind_28 (ok_iload_n C rfl dX9_readersNotBehind_30 (ok_aload C dX9_readersNotBehind_31 (ok_aload_n C rfl dX9_readersNotBehind_33 (ok_callv C rfl (by decide) (kon_X6_isIn l hl) (qa_wl [761, 762, 763, 76, 764] (by decide +kernel) (by decide +kernel)) ⟨rfl, by decide +kernel, by decide +kernel, by decide +kernel⟩ ⟨Nat.le_of_ble_eq_true rfl, Nat.le_of_ble_eq_true rfl⟩ dX9_readersNotBehind_34 (ok_ifeq C (T := 2) dX9_readersNotBehind_37 (by decide) (ok_aload C dX9_readersNotBehind_40 (ok_get C kc_X6 (by decide) rfl rfl rfl wd_232 (fun _ h => h) dX9_readersNotBehind_42 (ok_iload_n C rfl dX9_readersNotBehind_45 (ok_cmpgt C (T := 2) dX9_readersNotBehind_46 (by decide) (ok_iconst C (by decide) dX9_readersNotBehind_49 (ok_goto C dX9_readersNotBehind_50 (by decide))))))))))))))))))
    | 2, hj => obtain rfl := Option.some.inj hj; exact ok_iconst C (by decide) dX9_readersNotBehind_53 (ok_fall rfl)
    | 3, hj => obtain rfl := Option.some.inj hj; exact ok_iadd C dX9_readersNotBehind_54 (ok_istore_n C rfl (by decide) dX9_readersNotBehind_55 (ok_iinc C (by decide) (by decide) dX9_readersNotBehind_56 (ok_goto C dX9_readersNotBehind_59 (by decide))))
    | 4, hj => obtain rfl := Option.some.inj hj; exact ok_iload_n C rfl dX9_readersNotBehind_62 (ok_iret C hr dX9_readersNotBehind_63)
    | (_ + 5), hj => exact nomatch hj)
noncomputable def B_X9_mergeUp_0 : qI := q_load 1 0 (q_load 1 1 (q_callv 12 f_X9_parentOf 2 (q_store 1 3 (q_load 1 1 (q_get 5 3 0 (q_load 1 1 (q_get 5 4 0 (q_max (q_store 0 4 (q_load 1 3 (q_get 5 5 0 (q_load 0 4 (q_isub (q_store 0 5 (q_load 0 4 (q_store 0 6 (q_goto 1)))))))))))))))))
noncomputable def B_X9_mergeUp_1 : qI := q_load 0 6 (q_load 1 1 (q_get 5 5 0 (q_cmpge 2 (q_load 1 3 (q_load 1 1 (q_load 0 6 (q_callv 5 f_X2_at 2 (q_callv 5 f_X2_add 2 (q_iinc 6 (1) (q_goto 1))))))))))
noncomputable def B_X9_mergeUp_2 : qI := q_load 1 0 (q_get 12 4 1 (q_store 1 6 (q_load 1 6 (q_alen (q_store 0 7 (q_const (0, 0) (q_store 0 8 (q_goto 3))))))))
noncomputable def B_X9_mergeUp_3 : qI := q_load 0 8 (q_load 0 7 (q_cmpge 5 (q_load 1 6 (q_load 0 8 (q_ald (111 + 9) 1 (q_store 1 9 (q_load 1 9 (q_load 1 1 (q_callv 9 f_X6_isIn 2 (q_ifeq 4 (q_load 1 9 (q_load 1 3 (q_get 5 0 0 (q_put 9 1 0 (q_load 1 9 (q_dup (q_get 9 2 0 (q_load 0 5 (q_iadd (q_put 9 2 0 (q_goto 4)))))))))))))))))))))
noncomputable def B_X9_mergeUp_4 : qI := q_iinc 8 (1) (q_goto 3)
noncomputable def B_X9_mergeUp_5 : qI := q_load 1 1 (q_const (0, 0) (q_putz 5 1 (q_load 1 0 (q_load 1 3 (q_load 1 2 (q_callv 12 f_X9_cutBehind 3 (q_pop (q_load 1 1 (q_get 5 5 0 (q_load 0 4 (q_isub (q_ret 0))))))))))))
noncomputable def P_X9_mergeUp : qP := [B_X9_mergeUp_0, B_X9_mergeUp_1, B_X9_mergeUp_2, B_X9_mergeUp_3, B_X9_mergeUp_4, B_X9_mergeUp_5]
noncomputable def f_X9_mergeUp : List qV → qA → Option qR := qa_fn P_X9_mergeUp 10
def pc_X9_mergeUp : Nat → Nat := fun j => [0, 32, 57, 71, 115, 121].getD j 0
set_option maxRecDepth 100000 in
set_option maxHeartbeats 4000000 in
theorem kon_X9_mergeUp (l : Launch) (hl : l.stackTraces = false) : qa_Con l yX9_mergeUp cX9_mergeUp 10 (some .int) 5 118 f_X9_mergeUp :=
  qa_method (pcs := pc_X9_mergeUp) (by decide +kernel) rfl (fun C hr hn j f hj => by
    match j, hj with
    | 0, hj => obtain rfl := Option.some.inj hj; exact ok_aload_n C rfl dX9_mergeUp_0 (ok_aload_n C rfl dX9_mergeUp_1 (ok_callv C rfl (by decide) (kon_X9_parentOf l hl) (qa_wl [857, 858, 859, 74, 860] (by decide +kernel) (by decide +kernel)) ⟨rfl, by decide +kernel, by decide +kernel, by decide +kernel⟩ ⟨Nat.le_of_ble_eq_true rfl, Nat.le_of_ble_eq_true rfl⟩ dX9_mergeUp_2 (ok_astore_n C rfl (by decide) dX9_mergeUp_5 (ok_aload_n C rfl dX9_mergeUp_6 (ok_get C kc_X2 (by decide) rfl rfl rfl wd_151 (fun _ h => h) dX9_mergeUp_7 (ok_aload_n C rfl dX9_mergeUp_10 (ok_get C kc_X2 (by decide) rfl rfl rfl wd_154 (fun _ h => h) dX9_mergeUp_11 (ok_max C (qa_wl [908, 909, 93, 910] (by decide +kernel) (by decide +kernel)) (Nat.le_of_ble_eq_true rfl) (Nat.le_of_ble_eq_true rfl) dX9_mergeUp_14 (ok_istore C (by decide) dX9_mergeUp_17 (ok_aload_n C rfl dX9_mergeUp_19 (ok_get C kc_X2 (by decide) rfl rfl rfl wd_157 (fun _ h => h) dX9_mergeUp_20 (ok_iload C dX9_mergeUp_23 (ok_isub C dX9_mergeUp_25 (ok_istore C (by decide) dX9_mergeUp_26 (ok_iload C dX9_mergeUp_28 (ok_istore C (by decide) dX9_mergeUp_30 (ok_fall rfl)))))))))))))))))
    | 1, hj => obtain rfl := Option.some.inj hj; exact ok_iload C dX9_mergeUp_32 (ok_aload_n C rfl dX9_mergeUp_34 (ok_get C kc_X2 (by decide) rfl rfl rfl wd_157 (fun _ h => h) dX9_mergeUp_35 (ok_cmpge C (T := 2) dX9_mergeUp_38 (by decide) (ok_aload_n C rfl dX9_mergeUp_41 (ok_aload_n C rfl dX9_mergeUp_42 (ok_iload C dX9_mergeUp_43 (ok_callv C rfl (by decide) (kon_X2_at l hl) (qa_wl [749, 750, 751, 75, 752] (by decide +kernel) (by decide +kernel)) ⟨rfl, by decide +kernel, by decide +kernel, by decide +kernel⟩ ⟨Nat.le_of_ble_eq_true rfl, Nat.le_of_ble_eq_true rfl⟩ dX9_mergeUp_45 (ok_callv C rfl (by decide) (kon_X2_add l hl) (qa_wl [911, 738, 739, 75, 740] (by decide +kernel) (by decide +kernel)) ⟨rfl, by decide +kernel, by decide +kernel, by decide +kernel⟩ ⟨Nat.le_of_ble_eq_true rfl, Nat.le_of_ble_eq_true rfl⟩ dX9_mergeUp_48 (ok_iinc C (by decide) (by decide) dX9_mergeUp_51 (ok_goto C dX9_mergeUp_54 (by decide)))))))))))
    | 2, hj => obtain rfl := Option.some.inj hj; exact ok_aload_n C rfl dX9_mergeUp_57 (ok_get C kc_X9 (by decide) rfl rfl rfl wd_280 (fun _ h => h) dX9_mergeUp_58 (ok_astore C (by decide) dX9_mergeUp_61 (ok_aload C dX9_mergeUp_63 (ok_alen C dX9_mergeUp_65 (ok_istore C (by decide) dX9_mergeUp_66 (ok_iconst C (by decide) dX9_mergeUp_68 (ok_istore C (by decide) dX9_mergeUp_69 (ok_fall rfl))))))))
    | 3, hj => obtain rfl := Option.some.inj hj; exact ok_iload C dX9_mergeUp_71 (ok_iload C dX9_mergeUp_73 (ok_cmpge C (T := 5) dX9_mergeUp_75 (by decide) (ok_aload C dX9_mergeUp_78 (ok_iload C dX9_mergeUp_80 (ok_aaload C dX9_mergeUp_82 (ok_astore C (by decide) dX9_mergeUp_83 (ok_aload C dX9_mergeUp_85 (ok_aload_n C rfl dX9_mergeUp_87 (ok_callv C rfl (by decide) (kon_X6_isIn l hl) (qa_wl [761, 762, 763, 76, 764] (by decide +kernel) (by decide +kernel)) ⟨rfl, by decide +kernel, by decide +kernel, by decide +kernel⟩ ⟨Nat.le_of_ble_eq_true rfl, Nat.le_of_ble_eq_true rfl⟩ dX9_mergeUp_88 (ok_ifeq C (T := 4) dX9_mergeUp_91 (by decide) (ok_aload C dX9_mergeUp_94 (ok_aload_n C rfl dX9_mergeUp_96 (ok_get C kc_X2 (by decide) rfl rfl rfl wd_141 (fun _ h => h) dX9_mergeUp_97 (ok_put C kc_X6 (by decide) rfl rfl rfl wd_227 (fun _ h => h) (Or.inl rfl) qa_fit0 dX9_mergeUp_100 (ok_aload C dX9_mergeUp_103 (ok_dup C dX9_mergeUp_105 (ok_get C kc_X6 (by decide) rfl rfl rfl wd_232 (fun _ h => h) dX9_mergeUp_106 (ok_iload C dX9_mergeUp_109 (ok_iadd C dX9_mergeUp_111 (ok_put C kc_X6 (by decide) rfl rfl rfl wd_232 (fun _ h => h) (Or.inl rfl) qa_fit0 dX9_mergeUp_112 (ok_fall rfl)))))))))))))))))))))
    | 4, hj => obtain rfl := Option.some.inj hj; exact ok_iinc C (by decide) (by decide) dX9_mergeUp_115 (ok_goto C dX9_mergeUp_118 (by decide))
    | 5, hj => obtain rfl := Option.some.inj hj; exact ok_aload_n C rfl dX9_mergeUp_121 (ok_iconst C (by decide) dX9_mergeUp_122 (ok_putz C kc_X2 (by decide) rfl rfl rfl wd_143 (fun _ h => h) (Or.inl rfl) dX9_mergeUp_123 (ok_aload_n C rfl dX9_mergeUp_126 (ok_aload_n C rfl dX9_mergeUp_127 (ok_aload_n C rfl dX9_mergeUp_128 (ok_callv C rfl (by decide) (kon_X9_cutBehind l hl) (qa_wl [912, 742, 743, 74, 744] (by decide +kernel) (by decide +kernel)) ⟨rfl, by decide +kernel, by decide +kernel, by decide +kernel⟩ ⟨Nat.le_of_ble_eq_true rfl, Nat.le_of_ble_eq_true rfl⟩ dX9_mergeUp_129 (ok_pop C dX9_mergeUp_132 (ok_aload_n C rfl dX9_mergeUp_133 (ok_get C kc_X2 (by decide) rfl rfl rfl wd_157 (fun _ h => h) dX9_mergeUp_134 (ok_iload C dX9_mergeUp_137 (ok_isub C dX9_mergeUp_139 (ok_iret C hr dX9_mergeUp_140))))))))))))
    | (_ + 6), hj => exact nomatch hj)
noncomputable def B_X9_readersIn_0 : qI := q_const (0, 0) (q_store 0 2 (q_load 1 0 (q_get 12 4 1 (q_store 1 3 (q_load 1 3 (q_alen (q_store 0 4 (q_const (0, 0) (q_store 0 5 (q_goto 1))))))))))
noncomputable def B_X9_readersIn_1 : qI := q_load 0 5 (q_load 0 4 (q_cmpge 4 (q_load 1 3 (q_load 0 5 (q_ald (111 + 9) 1 (q_store 1 6 (q_load 0 2 (q_load 1 6 (q_load 1 1 (q_callv 9 f_X6_isIn 2 (q_ifeq 2 (q_const (0, 1) (q_goto 3)))))))))))))
noncomputable def B_X9_readersIn_2 : qI := q_const (0, 0) (q_goto 3)
noncomputable def B_X9_readersIn_3 : qI := q_iadd (q_store 0 2 (q_iinc 5 (1) (q_goto 1)))
noncomputable def B_X9_readersIn_4 : qI := q_load 0 2 (q_ret 0)
noncomputable def P_X9_readersIn : qP := [B_X9_readersIn_0, B_X9_readersIn_1, B_X9_readersIn_2, B_X9_readersIn_3, B_X9_readersIn_4]
noncomputable def f_X9_readersIn : List qV → qA → Option qR := qa_fn P_X9_readersIn 7
def pc_X9_readersIn : Nat → Nat := fun j => [0, 14, 41, 42, 50].getD j 0
set_option maxRecDepth 100000 in
set_option maxHeartbeats 4000000 in
theorem kon_X9_readersIn (l : Launch) (hl : l.stackTraces = false) : qa_Con l yX9_readersIn cX9_readersIn 7 (some .int) 2 41 f_X9_readersIn :=
  qa_method (pcs := pc_X9_readersIn) (by decide +kernel) rfl (fun C hr hn j f hj => by
    match j, hj with
    | 0, hj => obtain rfl := Option.some.inj hj; exact ok_iconst C (by decide) dX9_readersIn_0 (ok_istore_n C rfl (by decide) dX9_readersIn_1 (ok_aload_n C rfl dX9_readersIn_2 (ok_get C kc_X9 (by decide) rfl rfl rfl wd_280 (fun _ h => h) dX9_readersIn_3 (ok_astore_n C rfl (by decide) dX9_readersIn_6 (ok_aload_n C rfl dX9_readersIn_7 (ok_alen C dX9_readersIn_8 (ok_istore C (by decide) dX9_readersIn_9 (ok_iconst C (by decide) dX9_readersIn_11 (ok_istore C (by decide) dX9_readersIn_12 (ok_fall rfl))))))))))
    | 1, hj => obtain rfl := Option.some.inj hj; exact ok_iload C dX9_readersIn_14 (ok_iload C dX9_readersIn_16 (ok_cmpge C (T := 4) dX9_readersIn_18 (by decide) (ok_aload_n C rfl dX9_readersIn_21 (ok_iload C dX9_readersIn_22 (ok_aaload C dX9_readersIn_24 (ok_astore C (by decide) dX9_readersIn_25 (ok_iload_n C rfl dX9_readersIn_27 (ok_aload C dX9_readersIn_28 (ok_aload_n C rfl dX9_readersIn_30 (ok_callv C rfl (by decide) (kon_X6_isIn l hl) (qa_wl [761, 762, 763, 76, 764] (by decide +kernel) (by decide +kernel)) ⟨rfl, by decide +kernel, by decide +kernel, by decide +kernel⟩ ⟨Nat.le_of_ble_eq_true rfl, Nat.le_of_ble_eq_true rfl⟩ dX9_readersIn_31 (ok_ifeq C (T := 2) dX9_readersIn_34 (by decide) (ok_iconst C (by decide) dX9_readersIn_37 (ok_goto C dX9_readersIn_38 (by decide))))))))))))))
    | 2, hj => obtain rfl := Option.some.inj hj; exact ok_iconst C (by decide) dX9_readersIn_41 (ok_fall rfl)
    | 3, hj => obtain rfl := Option.some.inj hj; exact ok_iadd C dX9_readersIn_42 (ok_istore_n C rfl (by decide) dX9_readersIn_43 (ok_iinc C (by decide) (by decide) dX9_readersIn_44 (ok_goto C dX9_readersIn_47 (by decide))))
    | 4, hj => obtain rfl := Option.some.inj hj; exact ok_iload_n C rfl dX9_readersIn_50 (ok_iret C hr dX9_readersIn_51)
    | (_ + 5), hj => exact nomatch hj)
noncomputable def B_X6_hasPromise_0 : qI := q_load 1 0 (q_get 9 0 0 (q_ifeq 1 (q_load 1 0 (q_get 9 4 0 (q_const (0, -1) (q_cmpeq 1 (q_const (0, 1) (q_goto 2))))))))
noncomputable def B_X6_hasPromise_1 : qI := q_const (0, 0) (q_goto 2)
noncomputable def B_X6_hasPromise_2 : qI := q_retz
noncomputable def P_X6_hasPromise : qP := [B_X6_hasPromise_0, B_X6_hasPromise_1, B_X6_hasPromise_2]
noncomputable def f_X6_hasPromise : List qV → qA → Option qR := qa_fn P_X6_hasPromise 1
def pc_X6_hasPromise : Nat → Nat := fun j => [0, 19, 20].getD j 0
set_option maxRecDepth 100000 in
set_option maxHeartbeats 4000000 in
theorem kon_X6_hasPromise (l : Launch) (hl : l.stackTraces = false) : qa_Con l yX6_hasPromise cX6_hasPromise 1 (some .boolean) 1 20 f_X6_hasPromise :=
  qa_method (pcs := pc_X6_hasPromise) (by decide +kernel) rfl (fun C hr hn j f hj => by
    match j, hj with
    | 0, hj => obtain rfl := Option.some.inj hj; exact ok_aload_n C rfl dX6_hasPromise_0 (ok_get C kc_X6 (by decide) rfl rfl rfl wd_223 (fun _ h => h) dX6_hasPromise_1 (ok_ifeq C (T := 1) dX6_hasPromise_4 (by decide) (ok_aload_n C rfl dX6_hasPromise_7 (ok_get C kc_X6 (by decide) rfl rfl rfl wd_235 (fun _ h => h) dX6_hasPromise_8 (ok_iconst C (by decide) dX6_hasPromise_11 (ok_cmpeq C (T := 1) dX6_hasPromise_12 (by decide) (ok_iconst C (by decide) dX6_hasPromise_15 (ok_goto C dX6_hasPromise_16 (by decide)))))))))
    | 1, hj => obtain rfl := Option.some.inj hj; exact ok_iconst C (by decide) dX6_hasPromise_19 (ok_fall rfl)
    | 2, hj => obtain rfl := Option.some.inj hj; exact ok_zret C hr dX6_hasPromise_20
    | (_ + 3), hj => exact nomatch hj)
noncomputable def B_X6_breakPromiseAt_0 : qI := q_load 1 0 (q_callv 9 f_X6_hasPromise 1 (q_ifeq 1 (q_load 1 0 (q_get 9 4 0 (q_load 0 1 (q_cmpge 1 (q_load 1 0 (q_const (0, -1) (q_put 9 4 0 (q_load 1 0 (q_dup (q_get 9 6 0 (q_const (0, 1) (q_iadd (q_put 9 6 0 (q_goto 1))))))))))))))))
noncomputable def B_X6_breakPromiseAt_1 : qI := q_vret
noncomputable def P_X6_breakPromiseAt : qP := [B_X6_breakPromiseAt_0, B_X6_breakPromiseAt_1]
noncomputable def f_X6_breakPromiseAt : List qV → qA → Option qR := qa_fn P_X6_breakPromiseAt 2
def pc_X6_breakPromiseAt : Nat → Nat := fun j => [0, 30].getD j 0
set_option maxRecDepth 100000 in
set_option maxHeartbeats 4000000 in
theorem kon_X6_breakPromiseAt (l : Launch) (hl : l.stackTraces = false) : qa_Con l yX6_breakPromiseAt cX6_breakPromiseAt 2 none 2 40 f_X6_breakPromiseAt :=
  qa_method (pcs := pc_X6_breakPromiseAt) (by decide +kernel) rfl (fun C hr hn j f hj => by
    match j, hj with
    | 0, hj => obtain rfl := Option.some.inj hj; exact ok_aload_n C rfl dX6_breakPromiseAt_0 (ok_callv C rfl (by decide) (kon_X6_hasPromise l hl) (qa_wl [933, 934, 935, 76, 936] (by decide +kernel) (by decide +kernel)) ⟨rfl, by decide +kernel, by decide +kernel, by decide +kernel⟩ ⟨Nat.le_of_ble_eq_true rfl, Nat.le_of_ble_eq_true rfl⟩ dX6_breakPromiseAt_1 (ok_ifeq C (T := 1) dX6_breakPromiseAt_4 (by decide) (ok_aload_n C rfl dX6_breakPromiseAt_7 (ok_get C kc_X6 (by decide) rfl rfl rfl wd_235 (fun _ h => h) dX6_breakPromiseAt_8 (ok_iload_n C rfl dX6_breakPromiseAt_11 (ok_cmpge C (T := 1) dX6_breakPromiseAt_12 (by decide) (ok_aload_n C rfl dX6_breakPromiseAt_15 (ok_iconst C (by decide) dX6_breakPromiseAt_16 (ok_put C kc_X6 (by decide) rfl rfl rfl wd_235 (fun _ h => h) (Or.inl rfl) qa_fit0 dX6_breakPromiseAt_17 (ok_aload_n C rfl dX6_breakPromiseAt_20 (ok_dup C dX6_breakPromiseAt_21 (ok_get C kc_X6 (by decide) rfl rfl rfl wd_240 (fun _ h => h) dX6_breakPromiseAt_22 (ok_iconst C (by decide) dX6_breakPromiseAt_25 (ok_iadd C dX6_breakPromiseAt_26 (ok_put C kc_X6 (by decide) rfl rfl rfl wd_240 (fun _ h => h) (Or.inl rfl) qa_fit0 dX6_breakPromiseAt_27 (ok_fall rfl))))))))))))))))
    | 1, hj => obtain rfl := Option.some.inj hj; exact ok_vret C hr dX6_breakPromiseAt_30
    | (_ + 2), hj => exact nomatch hj)
noncomputable def B_X9_tick_0 : qI := q_load 1 0 (q_dup (q_get 12 0 0 (q_const (0, 1) (q_iadd (q_put 12 0 0 (q_load 1 0 (q_get 12 4 1 (q_store 1 2 (q_load 1 2 (q_alen (q_store 0 3 (q_const (0, 0) (q_store 0 4 (q_goto 1))))))))))))))
noncomputable def B_X9_tick_1 : qI := q_load 0 4 (q_load 0 3 (q_cmpge 2 (q_load 1 2 (q_load 0 4 (q_ald (111 + 9) 1 (q_store 1 5 (q_load 1 5 (q_load 1 0 (q_get 12 0 0 (q_callv 9 f_X6_breakPromiseAt 2 (q_iinc 4 (1) (q_goto 1))))))))))))
noncomputable def B_X9_tick_2 : qI := q_const (0, 0) (q_store 0 2 (q_load 1 0 (q_get 12 3 1 (q_store 1 3 (q_load 1 3 (q_alen (q_store 0 4 (q_const (0, 0) (q_store 0 5 (q_goto 3))))))))))
noncomputable def B_X9_tick_3 : qI := q_load 0 5 (q_load 0 4 (q_cmpge 6 (q_load 1 3 (q_load 0 5 (q_ald (111 + 5) 1 (q_store 1 6 (q_load 0 2 (q_load 1 6 (q_get 5 1 0 (q_ifeq 4 (q_load 1 0 (q_load 1 6 (q_load 1 1 (q_callv 12 f_X9_cutBehind 3 (q_goto 5)))))))))))))))
noncomputable def B_X9_tick_4 : qI := q_const (0, 0) (q_goto 5)
noncomputable def B_X9_tick_5 : qI := q_iadd (q_store 0 2 (q_iinc 5 (1) (q_goto 3)))
noncomputable def B_X9_tick_6 : qI := q_load 0 2 (q_ret 0)
noncomputable def P_X9_tick : qP := [B_X9_tick_0, B_X9_tick_1, B_X9_tick_2, B_X9_tick_3, B_X9_tick_4, B_X9_tick_5, B_X9_tick_6]
noncomputable def f_X9_tick : List qV → qA → Option qR := qa_fn P_X9_tick 7
def pc_X9_tick : Nat → Nat := fun j => [0, 21, 48, 62, 94, 95, 103].getD j 0
set_option maxRecDepth 100000 in
set_option maxHeartbeats 4000000 in
theorem kon_X9_tick (l : Launch) (hl : l.stackTraces = false) : qa_Con l yX9_tick cX9_tick 7 (some .int) 5 118 f_X9_tick :=
  qa_method (pcs := pc_X9_tick) (by decide +kernel) rfl (fun C hr hn j f hj => by
    match j, hj with
    | 0, hj => obtain rfl := Option.some.inj hj; exact ok_aload_n C rfl dX9_tick_0 (ok_dup C dX9_tick_1 (ok_get C kc_X9 (by decide) rfl rfl rfl wd_274 (fun _ h => h) dX9_tick_2 (ok_iconst C (by decide) dX9_tick_5 (ok_iadd C dX9_tick_6 (ok_put C kc_X9 (by decide) rfl rfl rfl wd_274 (fun _ h => h) (Or.inl rfl) qa_fit0 dX9_tick_7 (ok_aload_n C rfl dX9_tick_10 (ok_get C kc_X9 (by decide) rfl rfl rfl wd_280 (fun _ h => h) dX9_tick_11 (ok_astore_n C rfl (by decide) dX9_tick_14 (ok_aload_n C rfl dX9_tick_15 (ok_alen C dX9_tick_16 (ok_istore_n C rfl (by decide) dX9_tick_17 (ok_iconst C (by decide) dX9_tick_18 (ok_istore C (by decide) dX9_tick_19 (ok_fall rfl))))))))))))))
    | 1, hj => obtain rfl := Option.some.inj hj; exact ok_iload C dX9_tick_21 (ok_iload_n C rfl dX9_tick_23 (ok_cmpge C (T := 2) dX9_tick_24 (by decide) (ok_aload_n C rfl dX9_tick_27 (ok_iload C dX9_tick_28 (ok_aaload C dX9_tick_30 (ok_astore C (by decide) dX9_tick_31 (ok_aload C dX9_tick_33 (ok_aload_n C rfl dX9_tick_35 (ok_get C kc_X9 (by decide) rfl rfl rfl wd_274 (fun _ h => h) dX9_tick_36 (ok_callv C rfl (by decide) (kon_X6_breakPromiseAt l hl) (qa_wl [929, 930, 931, 76, 932] (by decide +kernel) (by decide +kernel)) ⟨rfl, by decide +kernel, by decide +kernel, by decide +kernel⟩ ⟨Nat.le_of_ble_eq_true rfl, Nat.le_of_ble_eq_true rfl⟩ dX9_tick_39 (ok_iinc C (by decide) (by decide) dX9_tick_42 (ok_goto C dX9_tick_45 (by decide)))))))))))))
    | 2, hj => obtain rfl := Option.some.inj hj; exact ok_iconst C (by decide) dX9_tick_48 (ok_istore_n C rfl (by decide) dX9_tick_49 (ok_aload_n C rfl dX9_tick_50 (ok_get C kc_X9 (by decide) rfl rfl rfl wd_279 (fun _ h => h) dX9_tick_51 (ok_astore_n C rfl (by decide) dX9_tick_54 (ok_aload_n C rfl dX9_tick_55 (ok_alen C dX9_tick_56 (ok_istore C (by decide) dX9_tick_57 (ok_iconst C (by decide) dX9_tick_59 (ok_istore C (by decide) dX9_tick_60 (ok_fall rfl))))))))))
    | 3, hj => obtain rfl := Option.some.inj hj; exact ok_iload C dX9_tick_62 (ok_iload C dX9_tick_64 (ok_cmpge C (T := 6) dX9_tick_66 (by decide) (ok_aload_n C rfl dX9_tick_69 (ok_iload C dX9_tick_70 (ok_aaload C dX9_tick_72 (ok_astore C (by decide) dX9_tick_73 (ok_iload_n C rfl dX9_tick_75 (ok_aload C dX9_tick_76 (ok_get C kc_X2 (by decide) rfl rfl rfl wd_143 (fun _ h => h) dX9_tick_78 (ok_ifeq C (T := 4) dX9_tick_81 (by decide) (ok_aload_n C rfl dX9_tick_84 (ok_aload C dX9_tick_85 (ok_aload_n C rfl dX9_tick_87 (ok_callv C rfl (by decide) (kon_X9_cutBehind l hl) (qa_wl [912, 742, 743, 74, 744] (by decide +kernel) (by decide +kernel)) ⟨rfl, by decide +kernel, by decide +kernel, by decide +kernel⟩ ⟨Nat.le_of_ble_eq_true rfl, Nat.le_of_ble_eq_true rfl⟩ dX9_tick_88 (ok_goto C dX9_tick_91 (by decide))))))))))))))))
    | 4, hj => obtain rfl := Option.some.inj hj; exact ok_iconst C (by decide) dX9_tick_94 (ok_fall rfl)
    | 5, hj => obtain rfl := Option.some.inj hj; exact ok_iadd C dX9_tick_95 (ok_istore_n C rfl (by decide) dX9_tick_96 (ok_iinc C (by decide) (by decide) dX9_tick_97 (ok_goto C dX9_tick_100 (by decide))))
    | 6, hj => obtain rfl := Option.some.inj hj; exact ok_iload_n C rfl dX9_tick_103 (ok_iret C hr dX9_tick_104)
    | (_ + 7), hj => exact nomatch hj)
noncomputable def B_X7_leastOf_0 : qI := q_load 0 1 (q_iflt 1 (q_load 0 1 (q_const (1, -10) (q_slen (q_cmpge 1 (q_const (1, -10) (q_load 0 1 (q_sld 101 (q_goto 2)))))))))
noncomputable def B_X7_leastOf_1 : qI := q_const (0, 0) (q_goto 2)
noncomputable def B_X7_leastOf_2 : qI := q_ret 0
noncomputable def P_X7_leastOf : qP := [B_X7_leastOf_0, B_X7_leastOf_1, B_X7_leastOf_2]
noncomputable def f_X7_leastOf : List qV → qA → Option qR := qa_fn P_X7_leastOf 2
def pc_X7_leastOf : Nat → Nat := fun j => [0, 20, 21].getD j 0
set_option maxRecDepth 100000 in
set_option maxHeartbeats 4000000 in
theorem kon_X7_leastOf (l : Launch) (hl : l.stackTraces = false) : qa_Con l yX7_leastOf cX7_leastOf 2 (some .int) 1 20 f_X7_leastOf :=
  qa_method (pcs := pc_X7_leastOf) (by decide +kernel) rfl (fun C hr hn j f hj => by
    match j, hj with
    | 0, hj => obtain rfl := Option.some.inj hj; exact ok_iload_n C rfl dX7_leastOf_0 (ok_iflt C (T := 1) dX7_leastOf_1 (by decide) (ok_iload_n C rfl dX7_leastOf_4 (ok_gets C (Cn := "PromiseLog$Rules") (fn := "LEAST") (fd := "[I") (by decide +kernel) wd_1024 dX7_leastOf_5 (ok_slen C dX7_leastOf_8 (ok_cmpge C (T := 1) dX7_leastOf_9 (by decide) (ok_gets C (Cn := "PromiseLog$Rules") (fn := "LEAST") (fd := "[I") (by decide +kernel) wd_1024 dX7_leastOf_12 (ok_iload_n C rfl dX7_leastOf_15 (ok_sldi C dX7_leastOf_16 (ok_goto C dX7_leastOf_17 (by decide))))))))))
    | 1, hj => obtain rfl := Option.some.inj hj; exact ok_iconst C (by decide) dX7_leastOf_20 (ok_fall rfl)
    | 2, hj => obtain rfl := Option.some.inj hj; exact ok_iret C hr dX7_leastOf_21
    | (_ + 3), hj => exact nomatch hj)
noncomputable def B_X7_mostOf_0 : qI := q_load 0 1 (q_iflt 1 (q_load 0 1 (q_const (1, -11) (q_slen (q_cmpge 1 (q_const (1, -11) (q_load 0 1 (q_sld 101 (q_goto 2)))))))))
noncomputable def B_X7_mostOf_1 : qI := q_const (0, 0) (q_goto 2)
noncomputable def B_X7_mostOf_2 : qI := q_ret 0
noncomputable def P_X7_mostOf : qP := [B_X7_mostOf_0, B_X7_mostOf_1, B_X7_mostOf_2]
noncomputable def f_X7_mostOf : List qV → qA → Option qR := qa_fn P_X7_mostOf 2
def pc_X7_mostOf : Nat → Nat := fun j => [0, 20, 21].getD j 0
set_option maxRecDepth 100000 in
set_option maxHeartbeats 4000000 in
theorem kon_X7_mostOf (l : Launch) (hl : l.stackTraces = false) : qa_Con l yX7_mostOf cX7_mostOf 2 (some .int) 1 20 f_X7_mostOf :=
  qa_method (pcs := pc_X7_mostOf) (by decide +kernel) rfl (fun C hr hn j f hj => by
    match j, hj with
    | 0, hj => obtain rfl := Option.some.inj hj; exact ok_iload_n C rfl dX7_mostOf_0 (ok_iflt C (T := 1) dX7_mostOf_1 (by decide) (ok_iload_n C rfl dX7_mostOf_4 (ok_gets C (Cn := "PromiseLog$Rules") (fn := "MOST") (fd := "[I") (by decide +kernel) wd_1030 dX7_mostOf_5 (ok_slen C dX7_mostOf_8 (ok_cmpge C (T := 1) dX7_mostOf_9 (by decide) (ok_gets C (Cn := "PromiseLog$Rules") (fn := "MOST") (fd := "[I") (by decide +kernel) wd_1030 dX7_mostOf_12 (ok_iload_n C rfl dX7_mostOf_15 (ok_sldi C dX7_mostOf_16 (ok_goto C dX7_mostOf_17 (by decide))))))))))
    | 1, hj => obtain rfl := Option.some.inj hj; exact ok_iconst C (by decide) dX7_mostOf_20 (ok_fall rfl)
    | 2, hj => obtain rfl := Option.some.inj hj; exact ok_iret C hr dX7_mostOf_21
    | (_ + 3), hj => exact nomatch hj)
noncomputable def B_X7_change_0 : qI := q_load 0 1 (q_iflt 1 (q_load 0 1 (q_load 1 0 (q_get 10 0 1 (q_alen (q_cmpge 1 (q_load 1 0 (q_get 10 0 1 (q_load 0 1 (q_load 0 2 (q_ast 101 0 (q_goto 1))))))))))))
noncomputable def B_X7_change_1 : qI := q_vret
noncomputable def P_X7_change : qP := [B_X7_change_0, B_X7_change_1]
noncomputable def f_X7_change : List qV → qA → Option qR := qa_fn P_X7_change 3
def pc_X7_change : Nat → Nat := fun j => [0, 20].getD j 0
set_option maxRecDepth 100000 in
set_option maxHeartbeats 4000000 in
theorem kon_X7_change (l : Launch) (hl : l.stackTraces = false) : qa_Con l yX7_change cX7_change 3 none 1 20 f_X7_change :=
  qa_method (pcs := pc_X7_change) (by decide +kernel) rfl (fun C hr hn j f hj => by
    match j, hj with
    | 0, hj => obtain rfl := Option.some.inj hj; exact ok_iload_n C rfl dX7_change_0 (ok_iflt C (T := 1) dX7_change_1 (by decide) (ok_iload_n C rfl dX7_change_4 (ok_aload_n C rfl dX7_change_5 (ok_get C kc_X7 (by decide) rfl rfl rfl wd_117 (fun _ h => h) dX7_change_6 (ok_alen C dX7_change_9 (ok_cmpge C (T := 1) dX7_change_10 (by decide) (ok_aload_n C rfl dX7_change_13 (ok_get C kc_X7 (by decide) rfl rfl rfl wd_117 (fun _ h => h) dX7_change_14 (ok_iload_n C rfl dX7_change_17 (ok_iload_n C rfl dX7_change_18 (ok_iastore C dX7_change_19 (ok_fall rfl))))))))))))
    | 1, hj => obtain rfl := Option.some.inj hj; exact ok_vret C hr dX7_change_20
    | (_ + 2), hj => exact nomatch hj)
noncomputable def B_X9_cutsWith_0 : qI := q_load 0 1 (q_iflt 1 (q_load 0 1 (q_load 1 0 (q_get 12 2 1 (q_alen (q_cmpge 1 (q_load 1 0 (q_get 12 2 1 (q_load 0 1 (q_ald 101 0 (q_goto 2)))))))))))
noncomputable def B_X9_cutsWith_1 : qI := q_const (0, 0) (q_goto 2)
noncomputable def B_X9_cutsWith_2 : qI := q_ret 0
noncomputable def P_X9_cutsWith : qP := [B_X9_cutsWith_0, B_X9_cutsWith_1, B_X9_cutsWith_2]
noncomputable def f_X9_cutsWith : List qV → qA → Option qR := qa_fn P_X9_cutsWith 2
def pc_X9_cutsWith : Nat → Nat := fun j => [0, 22, 23].getD j 0
set_option maxRecDepth 100000 in
set_option maxHeartbeats 4000000 in
theorem kon_X9_cutsWith (l : Launch) (hl : l.stackTraces = false) : qa_Con l yX9_cutsWith cX9_cutsWith 2 (some .int) 1 20 f_X9_cutsWith :=
  qa_method (pcs := pc_X9_cutsWith) (by decide +kernel) rfl (fun C hr hn j f hj => by
    match j, hj with
    | 0, hj => obtain rfl := Option.some.inj hj; exact ok_iload_n C rfl dX9_cutsWith_0 (ok_iflt C (T := 1) dX9_cutsWith_1 (by decide) (ok_iload_n C rfl dX9_cutsWith_4 (ok_aload_n C rfl dX9_cutsWith_5 (ok_get C kc_X9 (by decide) rfl rfl rfl wd_278 (fun _ h => h) dX9_cutsWith_6 (ok_alen C dX9_cutsWith_9 (ok_cmpge C (T := 1) dX9_cutsWith_10 (by decide) (ok_aload_n C rfl dX9_cutsWith_13 (ok_get C kc_X9 (by decide) rfl rfl rfl wd_278 (fun _ h => h) dX9_cutsWith_14 (ok_iload_n C rfl dX9_cutsWith_17 (ok_iaload C dX9_cutsWith_18 (ok_goto C dX9_cutsWith_19 (by decide))))))))))))
    | 1, hj => obtain rfl := Option.some.inj hj; exact ok_iconst C (by decide) dX9_cutsWith_22 (ok_fall rfl)
    | 2, hj => obtain rfl := Option.some.inj hj; exact ok_iret C hr dX9_cutsWith_23
    | (_ + 3), hj => exact nomatch hj)
noncomputable def B_X9_branchCount_0 : qI := q_const (0, 0) (q_store 0 1 (q_load 1 0 (q_get 12 3 1 (q_store 1 2 (q_load 1 2 (q_alen (q_store 0 3 (q_const (0, 0) (q_store 0 4 (q_goto 1))))))))))
noncomputable def B_X9_branchCount_1 : qI := q_load 0 4 (q_load 0 3 (q_cmpge 4 (q_load 1 2 (q_load 0 4 (q_ald (111 + 5) 1 (q_store 1 5 (q_load 0 1 (q_load 1 5 (q_get 5 1 0 (q_ifeq 2 (q_const (0, 1) (q_goto 3))))))))))))
noncomputable def B_X9_branchCount_2 : qI := q_const (0, 0) (q_goto 3)
noncomputable def B_X9_branchCount_3 : qI := q_iadd (q_store 0 1 (q_iinc 4 (1) (q_goto 1)))
noncomputable def B_X9_branchCount_4 : qI := q_load 0 1 (q_ret 0)
noncomputable def P_X9_branchCount : qP := [B_X9_branchCount_0, B_X9_branchCount_1, B_X9_branchCount_2, B_X9_branchCount_3, B_X9_branchCount_4]
noncomputable def f_X9_branchCount : List qV → qA → Option qR := qa_fn P_X9_branchCount 6
def pc_X9_branchCount : Nat → Nat := fun j => [0, 13, 38, 39, 47].getD j 0
set_option maxRecDepth 100000 in
set_option maxHeartbeats 4000000 in
theorem kon_X9_branchCount (l : Launch) (hl : l.stackTraces = false) : qa_Con l yX9_branchCount cX9_branchCount 6 (some .int) 1 20 f_X9_branchCount :=
  qa_method (pcs := pc_X9_branchCount) (by decide +kernel) rfl (fun C hr hn j f hj => by
    match j, hj with
    | 0, hj => obtain rfl := Option.some.inj hj; exact ok_iconst C (by decide) dX9_branchCount_0 (ok_istore_n C rfl (by decide) dX9_branchCount_1 (ok_aload_n C rfl dX9_branchCount_2 (ok_get C kc_X9 (by decide) rfl rfl rfl wd_279 (fun _ h => h) dX9_branchCount_3 (ok_astore_n C rfl (by decide) dX9_branchCount_6 (ok_aload_n C rfl dX9_branchCount_7 (ok_alen C dX9_branchCount_8 (ok_istore_n C rfl (by decide) dX9_branchCount_9 (ok_iconst C (by decide) dX9_branchCount_10 (ok_istore C (by decide) dX9_branchCount_11 (ok_fall rfl))))))))))
    | 1, hj => obtain rfl := Option.some.inj hj; exact ok_iload C dX9_branchCount_13 (ok_iload_n C rfl dX9_branchCount_15 (ok_cmpge C (T := 4) dX9_branchCount_16 (by decide) (ok_aload_n C rfl dX9_branchCount_19 (ok_iload C dX9_branchCount_20 (ok_aaload C dX9_branchCount_22 (ok_astore C (by decide) dX9_branchCount_23 (ok_iload_n C rfl dX9_branchCount_25 (ok_aload C dX9_branchCount_26 (ok_get C kc_X2 (by decide) rfl rfl rfl wd_143 (fun _ h => h) dX9_branchCount_28 (ok_ifeq C (T := 2) dX9_branchCount_31 (by decide) (ok_iconst C (by decide) dX9_branchCount_34 (ok_goto C dX9_branchCount_35 (by decide)))))))))))))
    | 2, hj => obtain rfl := Option.some.inj hj; exact ok_iconst C (by decide) dX9_branchCount_38 (ok_fall rfl)
    | 3, hj => obtain rfl := Option.some.inj hj; exact ok_iadd C dX9_branchCount_39 (ok_istore_n C rfl (by decide) dX9_branchCount_40 (ok_iinc C (by decide) (by decide) dX9_branchCount_41 (ok_goto C dX9_branchCount_44 (by decide))))
    | 4, hj => obtain rfl := Option.some.inj hj; exact ok_iload_n C rfl dX9_branchCount_47 (ok_iret C hr dX9_branchCount_48)
    | (_ + 5), hj => exact nomatch hj)
noncomputable def B_X9_entryCount_0 : qI := q_const (0, 0) (q_store 0 1 (q_load 1 0 (q_get 12 3 1 (q_store 1 2 (q_load 1 2 (q_alen (q_store 0 3 (q_const (0, 0) (q_store 0 4 (q_goto 1))))))))))
noncomputable def B_X9_entryCount_1 : qI := q_load 0 4 (q_load 0 3 (q_cmpge 4 (q_load 1 2 (q_load 0 4 (q_ald (111 + 5) 1 (q_store 1 5 (q_load 0 1 (q_load 1 5 (q_get 5 1 0 (q_ifeq 2 (q_load 1 5 (q_get 5 5 0 (q_load 1 5 (q_get 5 4 0 (q_isub (q_goto 3))))))))))))))))
noncomputable def B_X9_entryCount_2 : qI := q_const (0, 0) (q_goto 3)
noncomputable def B_X9_entryCount_3 : qI := q_iadd (q_store 0 1 (q_iinc 4 (1) (q_goto 1)))
noncomputable def B_X9_entryCount_4 : qI := q_load 0 1 (q_ret 0)
noncomputable def P_X9_entryCount : qP := [B_X9_entryCount_0, B_X9_entryCount_1, B_X9_entryCount_2, B_X9_entryCount_3, B_X9_entryCount_4]
noncomputable def f_X9_entryCount : List qV → qA → Option qR := qa_fn P_X9_entryCount 6
def pc_X9_entryCount : Nat → Nat := fun j => [0, 13, 48, 49, 57].getD j 0
set_option maxRecDepth 100000 in
set_option maxHeartbeats 4000000 in
theorem kon_X9_entryCount (l : Launch) (hl : l.stackTraces = false) : qa_Con l yX9_entryCount cX9_entryCount 6 (some .int) 1 20 f_X9_entryCount :=
  qa_method (pcs := pc_X9_entryCount) (by decide +kernel) rfl (fun C hr hn j f hj => by
    match j, hj with
    | 0, hj => obtain rfl := Option.some.inj hj; exact ok_iconst C (by decide) dX9_entryCount_0 (ok_istore_n C rfl (by decide) dX9_entryCount_1 (ok_aload_n C rfl dX9_entryCount_2 (ok_get C kc_X9 (by decide) rfl rfl rfl wd_279 (fun _ h => h) dX9_entryCount_3 (ok_astore_n C rfl (by decide) dX9_entryCount_6 (ok_aload_n C rfl dX9_entryCount_7 (ok_alen C dX9_entryCount_8 (ok_istore_n C rfl (by decide) dX9_entryCount_9 (ok_iconst C (by decide) dX9_entryCount_10 (ok_istore C (by decide) dX9_entryCount_11 (ok_fall rfl))))))))))
    | 1, hj => obtain rfl := Option.some.inj hj; exact ok_iload C dX9_entryCount_13 (ok_iload_n C rfl dX9_entryCount_15 (ok_cmpge C (T := 4) dX9_entryCount_16 (by decide) (ok_aload_n C rfl dX9_entryCount_19 (ok_iload C dX9_entryCount_20 (ok_aaload C dX9_entryCount_22 (ok_astore C (by decide) dX9_entryCount_23 (ok_iload_n C rfl dX9_entryCount_25 (ok_aload C dX9_entryCount_26 (ok_get C kc_X2 (by decide) rfl rfl rfl wd_143 (fun _ h => h) dX9_entryCount_28 (ok_ifeq C (T := 2) dX9_entryCount_31 (by decide) (ok_aload C dX9_entryCount_34 (ok_get C kc_X2 (by decide) rfl rfl rfl wd_157 (fun _ h => h) dX9_entryCount_36 (ok_aload C dX9_entryCount_39 (ok_get C kc_X2 (by decide) rfl rfl rfl wd_154 (fun _ h => h) dX9_entryCount_41 (ok_isub C dX9_entryCount_44 (ok_goto C dX9_entryCount_45 (by decide)))))))))))))))))
    | 2, hj => obtain rfl := Option.some.inj hj; exact ok_iconst C (by decide) dX9_entryCount_48 (ok_fall rfl)
    | 3, hj => obtain rfl := Option.some.inj hj; exact ok_iadd C dX9_entryCount_49 (ok_istore_n C rfl (by decide) dX9_entryCount_50 (ok_iinc C (by decide) (by decide) dX9_entryCount_51 (ok_goto C dX9_entryCount_54 (by decide))))
    | 4, hj => obtain rfl := Option.some.inj hj; exact ok_iload_n C rfl dX9_entryCount_57 (ok_iret C hr dX9_entryCount_58)
    | (_ + 5), hj => exact nomatch hj)
noncomputable def B_X2_sizesFrom_0 : qI := q_const (0, 0) (q_store 0 2 (q_load 0 1 (q_store 0 3 (q_goto 1))))
noncomputable def B_X2_sizesFrom_1 : qI := q_load 0 3 (q_load 1 0 (q_get 5 5 0 (q_cmpge 4 (q_load 1 0 (q_load 0 3 (q_callv 5 f_X2_at 2 (q_store 1 4 (q_load 0 2 (q_load 1 4 (q_nonnull 2 (q_const (0, 0) (q_goto 3))))))))))))
noncomputable def B_X2_sizesFrom_2 : qI := q_load 1 4 (q_get 8 2 0 (q_goto 3))
noncomputable def B_X2_sizesFrom_3 : qI := q_iadd (q_store 0 2 (q_iinc 3 (1) (q_goto 1)))
noncomputable def B_X2_sizesFrom_4 : qI := q_load 0 2 (q_ret 0)
noncomputable def P_X2_sizesFrom : qP := [B_X2_sizesFrom_0, B_X2_sizesFrom_1, B_X2_sizesFrom_2, B_X2_sizesFrom_3, B_X2_sizesFrom_4]
noncomputable def f_X2_sizesFrom : List qV → qA → Option qR := qa_fn P_X2_sizesFrom 5
def pc_X2_sizesFrom : Nat → Nat := fun j => [0, 4, 29, 34, 42].getD j 0
set_option maxRecDepth 100000 in
set_option maxHeartbeats 4000000 in
theorem kon_X2_sizesFrom (l : Launch) (hl : l.stackTraces = false) : qa_Con l yX2_sizesFrom cX2_sizesFrom 5 (some .int) 2 42 f_X2_sizesFrom :=
  qa_method (pcs := pc_X2_sizesFrom) (by decide +kernel) rfl (fun C hr hn j f hj => by
    match j, hj with
    | 0, hj => obtain rfl := Option.some.inj hj; exact ok_iconst C (by decide) dX2_sizesFrom_0 (ok_istore_n C rfl (by decide) dX2_sizesFrom_1 (ok_iload_n C rfl dX2_sizesFrom_2 (ok_istore_n C rfl (by decide) dX2_sizesFrom_3 (ok_fall rfl))))
    | 1, hj => obtain rfl := Option.some.inj hj; exact ok_iload_n C rfl dX2_sizesFrom_4 (ok_aload_n C rfl dX2_sizesFrom_5 (ok_get C kc_X2 (by decide) rfl rfl rfl wd_155 (fun _ h => h) dX2_sizesFrom_6 (ok_cmpge C (T := 4) dX2_sizesFrom_9 (by decide) (ok_aload_n C rfl dX2_sizesFrom_12 (ok_iload_n C rfl dX2_sizesFrom_13 (ok_callv C rfl (by decide) (kon_X2_at l hl) (qa_wl [1083, 750, 751, 75, 752] (by decide +kernel) (by decide +kernel)) ⟨rfl, by decide +kernel, by decide +kernel, by decide +kernel⟩ ⟨Nat.le_of_ble_eq_true rfl, Nat.le_of_ble_eq_true rfl⟩ dX2_sizesFrom_14 (ok_astore C (by decide) dX2_sizesFrom_17 (ok_iload_n C rfl dX2_sizesFrom_19 (ok_aload C dX2_sizesFrom_20 (ok_ifnonnull C (T := 2) dX2_sizesFrom_22 (by decide) (ok_iconst C (by decide) dX2_sizesFrom_25 (ok_goto C dX2_sizesFrom_26 (by decide)))))))))))))
    | 2, hj => obtain rfl := Option.some.inj hj; exact ok_aload C dX2_sizesFrom_29 (ok_get C kc_X5 (by decide) rfl rfl rfl wd_720 (fun _ h => h) dX2_sizesFrom_31 (ok_fall rfl))
    | 3, hj => obtain rfl := Option.some.inj hj; exact ok_iadd C dX2_sizesFrom_34 (ok_istore_n C rfl (by decide) dX2_sizesFrom_35 (ok_iinc C (by decide) (by decide) dX2_sizesFrom_36 (ok_goto C dX2_sizesFrom_39 (by decide))))
    | 4, hj => obtain rfl := Option.some.inj hj; exact ok_iload_n C rfl dX2_sizesFrom_42 (ok_iret C hr dX2_sizesFrom_43)
    | (_ + 5), hj => exact nomatch hj)
noncomputable def B_X3_numberOf_0 : qI := q_load 0 1 (q_switch (0) [1, 2, 3, 4, 5, 6] 7)
noncomputable def B_X3_numberOf_1 : qI := q_load 1 0 (q_get 6 0 0 (q_ret 0))
noncomputable def B_X3_numberOf_2 : qI := q_load 1 0 (q_get 6 1 0 (q_ret 0))
noncomputable def B_X3_numberOf_3 : qI := q_load 1 0 (q_get 6 2 0 (q_ret 0))
noncomputable def B_X3_numberOf_4 : qI := q_load 1 0 (q_get 6 3 0 (q_ret 0))
noncomputable def B_X3_numberOf_5 : qI := q_load 1 0 (q_get 6 4 0 (q_ret 0))
noncomputable def B_X3_numberOf_6 : qI := q_load 1 0 (q_get 6 5 0 (q_ret 0))
noncomputable def B_X3_numberOf_7 : qI := q_load 1 0 (q_get 6 6 0 (q_ret 0))
noncomputable def P_X3_numberOf : qP := [B_X3_numberOf_0, B_X3_numberOf_1, B_X3_numberOf_2, B_X3_numberOf_3, B_X3_numberOf_4, B_X3_numberOf_5, B_X3_numberOf_6, B_X3_numberOf_7]
noncomputable def f_X3_numberOf : List qV → qA → Option qR := qa_fn P_X3_numberOf 2
def pc_X3_numberOf : Nat → Nat := fun j => [0, 40, 45, 50, 55, 60, 65, 70].getD j 0
set_option maxRecDepth 100000 in
set_option maxHeartbeats 4000000 in
theorem kon_X3_numberOf (l : Launch) (hl : l.stackTraces = false) : qa_Con l yX3_numberOf cX3_numberOf 2 (some .int) 1 20 f_X3_numberOf :=
  qa_method (pcs := pc_X3_numberOf) (by decide +kernel) rfl (fun C hr hn j f hj => by
    match j, hj with
    | 0, hj => obtain rfl := Option.some.inj hj; exact ok_iload_n C rfl dX3_numberOf_0 (ok_switch C (by decide) (by decide) (by decide) dX3_numberOf_1)
    | 1, hj => obtain rfl := Option.some.inj hj; exact ok_aload_n C rfl dX3_numberOf_40 (ok_get C kc_X3 (by decide) rfl rfl rfl wd_195 (fun _ h => h) dX3_numberOf_41 (ok_iret C hr dX3_numberOf_44))
    | 2, hj => obtain rfl := Option.some.inj hj; exact ok_aload_n C rfl dX3_numberOf_45 (ok_get C kc_X3 (by decide) rfl rfl rfl wd_199 (fun _ h => h) dX3_numberOf_46 (ok_iret C hr dX3_numberOf_49))
    | 3, hj => obtain rfl := Option.some.inj hj; exact ok_aload_n C rfl dX3_numberOf_50 (ok_get C kc_X3 (by decide) rfl rfl rfl wd_200 (fun _ h => h) dX3_numberOf_51 (ok_iret C hr dX3_numberOf_54))
    | 4, hj => obtain rfl := Option.some.inj hj; exact ok_aload_n C rfl dX3_numberOf_55 (ok_get C kc_X3 (by decide) rfl rfl rfl wd_201 (fun _ h => h) dX3_numberOf_56 (ok_iret C hr dX3_numberOf_59))
    | 5, hj => obtain rfl := Option.some.inj hj; exact ok_aload_n C rfl dX3_numberOf_60 (ok_get C kc_X3 (by decide) rfl rfl rfl wd_202 (fun _ h => h) dX3_numberOf_61 (ok_iret C hr dX3_numberOf_64))
    | 6, hj => obtain rfl := Option.some.inj hj; exact ok_aload_n C rfl dX3_numberOf_65 (ok_get C kc_X3 (by decide) rfl rfl rfl wd_203 (fun _ h => h) dX3_numberOf_66 (ok_iret C hr dX3_numberOf_69))
    | 7, hj => obtain rfl := Option.some.inj hj; exact ok_aload_n C rfl dX3_numberOf_70 (ok_get C kc_X3 (by decide) rfl rfl rfl wd_204 (fun _ h => h) dX3_numberOf_71 (ok_iret C hr dX3_numberOf_74))
    | (_ + 8), hj => exact nomatch hj)
noncomputable def B_X3_latestWith_0 : qI := q_load 0 1 (q_iflt 1 (q_load 0 1 (q_load 1 0 (q_get 6 7 1 (q_alen (q_cmpge 1 (q_load 1 0 (q_get 6 7 1 (q_load 0 1 (q_ald 101 0 (q_goto 2)))))))))))
noncomputable def B_X3_latestWith_1 : qI := q_const (0, -1000) (q_goto 2)
noncomputable def B_X3_latestWith_2 : qI := q_ret 0
noncomputable def P_X3_latestWith : qP := [B_X3_latestWith_0, B_X3_latestWith_1, B_X3_latestWith_2]
noncomputable def f_X3_latestWith : List qV → qA → Option qR := qa_fn P_X3_latestWith 2
def pc_X3_latestWith : Nat → Nat := fun j => [0, 22, 25].getD j 0
set_option maxRecDepth 100000 in
set_option maxHeartbeats 4000000 in
theorem kon_X3_latestWith (l : Launch) (hl : l.stackTraces = false) : qa_Con l yX3_latestWith cX3_latestWith 2 (some .int) 1 20 f_X3_latestWith :=
  qa_method (pcs := pc_X3_latestWith) (by decide +kernel) rfl (fun C hr hn j f hj => by
    match j, hj with
    | 0, hj => obtain rfl := Option.some.inj hj; exact ok_iload_n C rfl dX3_latestWith_0 (ok_iflt C (T := 1) dX3_latestWith_1 (by decide) (ok_iload_n C rfl dX3_latestWith_4 (ok_aload_n C rfl dX3_latestWith_5 (ok_get C kc_X3 (by decide) rfl rfl rfl wd_205 (fun _ h => h) dX3_latestWith_6 (ok_alen C dX3_latestWith_9 (ok_cmpge C (T := 1) dX3_latestWith_10 (by decide) (ok_aload_n C rfl dX3_latestWith_13 (ok_get C kc_X3 (by decide) rfl rfl rfl wd_205 (fun _ h => h) dX3_latestWith_14 (ok_iload_n C rfl dX3_latestWith_17 (ok_iaload C dX3_latestWith_18 (ok_goto C dX3_latestWith_19 (by decide))))))))))))
    | 1, hj => obtain rfl := Option.some.inj hj; exact ok_sipush C (by decide) dX3_latestWith_22 (ok_fall rfl)
    | 2, hj => obtain rfl := Option.some.inj hj; exact ok_iret C hr dX3_latestWith_25
    | (_ + 3), hj => exact nomatch hj)
noncomputable def B_X4_numberOf_0 : qI := q_load 1 0 (q_get 7 0 0 (q_ifeq 3 (q_load 0 1 (q_ifne 3 (q_load 0 2 (q_ifne 1 (q_const (0, 1) (q_goto 2))))))))
noncomputable def B_X4_numberOf_1 : qI := q_load 1 0 (q_get 7 1 1 (q_load 0 2 (q_const (0, 1) (q_isub (q_callv 6 f_X3_numberOf 2 (q_goto 2))))))
noncomputable def B_X4_numberOf_2 : qI := q_ret 0
noncomputable def B_X4_numberOf_3 : qI := q_load 1 0 (q_get 7 0 0 (q_ifeq 4 (q_load 0 1 (q_const (0, 1) (q_isub (q_goto 5))))))
noncomputable def B_X4_numberOf_4 : qI := q_load 0 1 (q_goto 5)
noncomputable def B_X4_numberOf_5 : qI := q_store 0 3 (q_load 0 3 (q_iflt 6 (q_load 0 3 (q_load 1 0 (q_get 7 4 1 (q_alen (q_cmpge 6 (q_load 1 0 (q_get 7 4 1 (q_load 0 3 (q_ald (111 + 8) 1 (q_goto 7))))))))))))
noncomputable def B_X4_numberOf_6 : qI := q_const (1, -1) (q_goto 7)
noncomputable def B_X4_numberOf_7 : qI := q_store 1 4 (q_load 1 4 (q_nonnull 8 (q_const (0, -1) (q_ret 0))))
noncomputable def B_X4_numberOf_8 : qI := q_load 0 2 (q_switch (0) [9, 10, 11, 12, 13] 14)
noncomputable def B_X4_numberOf_9 : qI := q_const (0, 0) (q_ret 0)
noncomputable def B_X4_numberOf_10 : qI := q_load 1 0 (q_get 7 2 0 (q_load 0 3 (q_iadd (q_ret 0))))
noncomputable def B_X4_numberOf_11 : qI := q_load 1 4 (q_get 8 1 0 (q_ret 0))
noncomputable def B_X4_numberOf_12 : qI := q_load 1 4 (q_get 8 2 0 (q_ret 0))
noncomputable def B_X4_numberOf_13 : qI := q_load 1 4 (q_get 8 3 0 (q_ret 0))
noncomputable def B_X4_numberOf_14 : qI := q_const (0, -1) (q_ret 0)
noncomputable def P_X4_numberOf : qP := [B_X4_numberOf_0, B_X4_numberOf_1, B_X4_numberOf_2, B_X4_numberOf_3, B_X4_numberOf_4, B_X4_numberOf_5, B_X4_numberOf_6, B_X4_numberOf_7, B_X4_numberOf_8, B_X4_numberOf_9, B_X4_numberOf_10, B_X4_numberOf_11, B_X4_numberOf_12, B_X4_numberOf_13, B_X4_numberOf_14]
noncomputable def f_X4_numberOf : List qV → qA → Option qR := qa_fn P_X4_numberOf 5
def pc_X4_numberOf : Nat → Nat := fun j => [0, 19, 29, 30, 43, 44, 67, 68, 77, 112, 114, 121, 127, 133, 139].getD j 0
set_option maxRecDepth 100000 in
set_option maxHeartbeats 4000000 in
theorem kon_X4_numberOf (l : Launch) (hl : l.stackTraces = false) : qa_Con l yX4_numberOf cX4_numberOf 5 (some .int) 2 41 f_X4_numberOf :=
  qa_method (pcs := pc_X4_numberOf) (by decide +kernel) rfl (fun C hr hn j f hj => by
    match j, hj with
    | 0, hj => obtain rfl := Option.some.inj hj; exact ok_aload_n C rfl dX4_numberOf_0 (ok_get C kc_X4 (by decide) rfl rfl rfl wd_320 (fun _ h => h) dX4_numberOf_1 (ok_ifeq C (T := 3) dX4_numberOf_4 (by decide) (ok_iload_n C rfl dX4_numberOf_7 (ok_ifne C (T := 3) dX4_numberOf_8 (by decide) (ok_iload_n C rfl dX4_numberOf_11 (ok_ifne C (T := 1) dX4_numberOf_12 (by decide) (ok_iconst C (by decide) dX4_numberOf_15 (ok_goto C dX4_numberOf_16 (by decide)))))))))
    | 1, hj => obtain rfl := Option.some.inj hj; exact ok_aload_n C rfl dX4_numberOf_19 (ok_get C kc_X4 (by decide) rfl rfl rfl wd_321 (fun _ h => h) dX4_numberOf_20 (ok_iload_n C rfl dX4_numberOf_23 (ok_iconst C (by decide) dX4_numberOf_24 (ok_isub C dX4_numberOf_25 (ok_callv C rfl (by decide) (kon_X3_numberOf l hl) (qa_wl [1117, 1092, 1093, 77, 1094] (by decide +kernel) (by decide +kernel)) ⟨rfl, by decide +kernel, by decide +kernel, by decide +kernel⟩ ⟨Nat.le_of_ble_eq_true rfl, Nat.le_of_ble_eq_true rfl⟩ dX4_numberOf_26 (ok_fall rfl))))))
    | 2, hj => obtain rfl := Option.some.inj hj; exact ok_iret C hr dX4_numberOf_29
    | 3, hj => obtain rfl := Option.some.inj hj; exact ok_aload_n C rfl dX4_numberOf_30 (ok_get C kc_X4 (by decide) rfl rfl rfl wd_320 (fun _ h => h) dX4_numberOf_31 (ok_ifeq C (T := 4) dX4_numberOf_34 (by decide) (ok_iload_n C rfl dX4_numberOf_37 (ok_iconst C (by decide) dX4_numberOf_38 (ok_isub C dX4_numberOf_39 (ok_goto C dX4_numberOf_40 (by decide)))))))
    | 4, hj => obtain rfl := Option.some.inj hj; exact ok_iload_n C rfl dX4_numberOf_43 (ok_fall rfl)
    | 5, hj => obtain rfl := Option.some.inj hj; exact ok_istore_n C rfl (by decide) dX4_numberOf_44 (ok_iload_n C rfl dX4_numberOf_45 (ok_iflt C (T := 6) dX4_numberOf_46 (by decide) (ok_iload_n C rfl dX4_numberOf_49 (ok_aload_n C rfl dX4_numberOf_50 (ok_get C kc_X4 (by decide) rfl rfl rfl wd_324 (fun _ h => h) dX4_numberOf_51 (ok_alen C dX4_numberOf_54 (ok_cmpge C (T := 6) dX4_numberOf_55 (by decide) (ok_aload_n C rfl dX4_numberOf_58 (ok_get C kc_X4 (by decide) rfl rfl rfl wd_324 (fun _ h => h) dX4_numberOf_59 (ok_iload_n C rfl dX4_numberOf_62 (ok_aaload C dX4_numberOf_63 (ok_goto C dX4_numberOf_64 (by decide)))))))))))))
    | 6, hj => obtain rfl := Option.some.inj hj; exact ok_null C dX4_numberOf_67 (ok_fall rfl)
    | 7, hj => obtain rfl := Option.some.inj hj; exact ok_astore C (by decide) dX4_numberOf_68 (ok_aload C dX4_numberOf_70 (ok_ifnonnull C (T := 8) dX4_numberOf_72 (by decide) (ok_iconst C (by decide) dX4_numberOf_75 (ok_iret C hr dX4_numberOf_76))))
    | 8, hj => obtain rfl := Option.some.inj hj; exact ok_iload_n C rfl dX4_numberOf_77 (ok_switch C (by decide) (by decide) (by decide) dX4_numberOf_78)
    | 9, hj => obtain rfl := Option.some.inj hj; exact ok_iconst C (by decide) dX4_numberOf_112 (ok_iret C hr dX4_numberOf_113)
    | 10, hj => obtain rfl := Option.some.inj hj; exact ok_aload_n C rfl dX4_numberOf_114 (ok_get C kc_X4 (by decide) rfl rfl rfl wd_322 (fun _ h => h) dX4_numberOf_115 (ok_iload_n C rfl dX4_numberOf_118 (ok_iadd C dX4_numberOf_119 (ok_iret C hr dX4_numberOf_120))))
    | 11, hj => obtain rfl := Option.some.inj hj; exact ok_aload C dX4_numberOf_121 (ok_get C kc_X5 (by decide) rfl rfl rfl wd_715 (fun _ h => h) dX4_numberOf_123 (ok_iret C hr dX4_numberOf_126))
    | 12, hj => obtain rfl := Option.some.inj hj; exact ok_aload C dX4_numberOf_127 (ok_get C kc_X5 (by decide) rfl rfl rfl wd_721 (fun _ h => h) dX4_numberOf_129 (ok_iret C hr dX4_numberOf_132))
    | 13, hj => obtain rfl := Option.some.inj hj; exact ok_aload C dX4_numberOf_133 (ok_get C kc_X5 (by decide) rfl rfl rfl wd_725 (fun _ h => h) dX4_numberOf_135 (ok_iret C hr dX4_numberOf_138))
    | 14, hj => obtain rfl := Option.some.inj hj; exact ok_iconst C (by decide) dX4_numberOf_139 (ok_iret C hr dX4_numberOf_140)
    | (_ + 15), hj => exact nomatch hj)
noncomputable def B_X1_accountOf_0 : qI := q_load 0 1 (q_iflt 1 (q_load 0 1 (q_load 1 0 (q_get 4 0 1 (q_alen (q_cmpge 1 (q_load 1 0 (q_get 4 0 1 (q_load 0 1 (q_ald 101 0 (q_goto 2)))))))))))
noncomputable def B_X1_accountOf_1 : qI := q_const (0, 0) (q_goto 2)
noncomputable def B_X1_accountOf_2 : qI := q_ret 0
noncomputable def P_X1_accountOf : qP := [B_X1_accountOf_0, B_X1_accountOf_1, B_X1_accountOf_2]
noncomputable def f_X1_accountOf : List qV → qA → Option qR := qa_fn P_X1_accountOf 2
def pc_X1_accountOf : Nat → Nat := fun j => [0, 22, 23].getD j 0
set_option maxRecDepth 100000 in
set_option maxHeartbeats 4000000 in
theorem kon_X1_accountOf (l : Launch) (hl : l.stackTraces = false) : qa_Con l yX1_accountOf cX1_accountOf 2 (some .int) 1 20 f_X1_accountOf :=
  qa_method (pcs := pc_X1_accountOf) (by decide +kernel) rfl (fun C hr hn j f hj => by
    match j, hj with
    | 0, hj => obtain rfl := Option.some.inj hj; exact ok_iload_n C rfl dX1_accountOf_0 (ok_iflt C (T := 1) dX1_accountOf_1 (by decide) (ok_iload_n C rfl dX1_accountOf_4 (ok_aload_n C rfl dX1_accountOf_5 (ok_get C kc_X1 (by decide) rfl rfl rfl wd_300 (fun _ h => h) dX1_accountOf_6 (ok_alen C dX1_accountOf_9 (ok_cmpge C (T := 1) dX1_accountOf_10 (by decide) (ok_aload_n C rfl dX1_accountOf_13 (ok_get C kc_X1 (by decide) rfl rfl rfl wd_300 (fun _ h => h) dX1_accountOf_14 (ok_iload_n C rfl dX1_accountOf_17 (ok_iaload C dX1_accountOf_18 (ok_goto C dX1_accountOf_19 (by decide))))))))))))
    | 1, hj => obtain rfl := Option.some.inj hj; exact ok_iconst C (by decide) dX1_accountOf_22 (ok_fall rfl)
    | 2, hj => obtain rfl := Option.some.inj hj; exact ok_iret C hr dX1_accountOf_23
    | (_ + 3), hj => exact nomatch hj)
noncomputable def B_X9_slowestIn_0 : qI := q_const (0, -1) (q_store 0 2 (q_const (0, 1073741824) (q_store 0 3 (q_const (0, 0) (q_store 0 4 (q_goto 1))))))
noncomputable def B_X9_slowestIn_1 : qI := q_load 0 4 (q_load 1 0 (q_get 12 4 1 (q_alen (q_cmpge 3 (q_load 1 0 (q_get 12 4 1 (q_load 0 4 (q_ald (111 + 9) 1 (q_store 1 5 (q_load 1 5 (q_load 1 1 (q_callv 9 f_X6_isIn 2 (q_ifeq 2 (q_load 1 5 (q_get 9 2 0 (q_load 0 3 (q_cmpge 2 (q_load 0 4 (q_store 0 2 (q_load 1 5 (q_get 9 2 0 (q_store 0 3 (q_goto 2)))))))))))))))))))))))
noncomputable def B_X9_slowestIn_2 : qI := q_iinc 4 (1) (q_goto 1)
noncomputable def B_X9_slowestIn_3 : qI := q_load 0 2 (q_ret 0)
noncomputable def P_X9_slowestIn : qP := [B_X9_slowestIn_0, B_X9_slowestIn_1, B_X9_slowestIn_2, B_X9_slowestIn_3]
noncomputable def f_X9_slowestIn : List qV → qA → Option qR := qa_fn P_X9_slowestIn 6
def pc_X9_slowestIn : Nat → Nat := fun j => [0, 8, 54, 60].getD j 0
set_option maxRecDepth 100000 in
set_option maxHeartbeats 4000000 in
theorem kon_X9_slowestIn (l : Launch) (hl : l.stackTraces = false) : qa_Con l yX9_slowestIn cX9_slowestIn 6 (some .int) 2 41 f_X9_slowestIn :=
  qa_method (pcs := pc_X9_slowestIn) (by decide +kernel) rfl (fun C hr hn j f hj => by
    match j, hj with
    | 0, hj => obtain rfl := Option.some.inj hj; exact ok_iconst C (by decide) dX9_slowestIn_0 (ok_istore_n C rfl (by decide) dX9_slowestIn_1 (ok_ldc C (by decide) rfl wd_865 dX9_slowestIn_2 (ok_istore_n C rfl (by decide) dX9_slowestIn_4 (ok_iconst C (by decide) dX9_slowestIn_5 (ok_istore C (by decide) dX9_slowestIn_6 (ok_fall rfl))))))
    | 1, hj => obtain rfl := Option.some.inj hj; exact ok_iload C dX9_slowestIn_8 (ok_aload_n C rfl dX9_slowestIn_10 (ok_get C kc_X9 (by decide) rfl rfl rfl wd_280 (fun _ h => h) dX9_slowestIn_11 (ok_alen C dX9_slowestIn_14 (ok_cmpge C (T := 3) dX9_slowestIn_15 (by decide) (ok_aload_n C rfl dX9_slowestIn_18 (ok_get C kc_X9 (by decide) rfl rfl rfl wd_280 (fun _ h => h) dX9_slowestIn_19 (ok_iload C dX9_slowestIn_22 (ok_aaload C dX9_slowestIn_24 (ok_astore C (by decide) dX9_slowestIn_25 (ok_aload C dX9_slowestIn_27 (ok_aload_n C rfl dX9_slowestIn_29 (ok_callv C rfl (by decide) (kon_X6_isIn l hl) (qa_wl [761, 762, 763, 76, 764] (by decide +kernel) (by decide +kernel)) ⟨rfl, by decide +kernel, by decide +kernel, by decide +kernel⟩ ⟨Nat.le_of_ble_eq_true rfl, Nat.le_of_ble_eq_true rfl⟩ dX9_slowestIn_30 (ok_ifeq C (T := 2) dX9_slowestIn_33 (by decide) (ok_aload C dX9_slowestIn_36 (ok_get C kc_X6 (by decide) rfl rfl rfl wd_232 (fun _ h => h) dX9_slowestIn_38 (ok_iload_n C rfl dX9_slowestIn_41 (ok_cmpge C (T := 2) dX9_slowestIn_42 (by decide) (ok_iload C dX9_slowestIn_45 (ok_istore_n C rfl (by decide) dX9_slowestIn_47 (ok_aload C dX9_slowestIn_48 (ok_get C kc_X6 (by decide) rfl rfl rfl wd_232 (fun _ h => h) dX9_slowestIn_50 (ok_istore_n C rfl (by decide) dX9_slowestIn_53 (ok_fall rfl)))))))))))))))))))))))
    | 2, hj => obtain rfl := Option.some.inj hj; exact ok_iinc C (by decide) (by decide) dX9_slowestIn_54 (ok_goto C dX9_slowestIn_57 (by decide))
    | 3, hj => obtain rfl := Option.some.inj hj; exact ok_iload_n C rfl dX9_slowestIn_60 (ok_iret C hr dX9_slowestIn_61)
    | (_ + 4), hj => exact nomatch hj)
noncomputable def B_X2_latestWith_0 : qI := q_load 1 0 (q_get 5 5 0 (q_const (0, 1) (q_isub (q_store 0 2 (q_goto 1)))))
noncomputable def B_X2_latestWith_1 : qI := q_load 0 2 (q_load 1 0 (q_get 5 4 0 (q_cmplt 3 (q_load 1 0 (q_load 0 2 (q_callv 5 f_X2_at 2 (q_store 1 3 (q_load 1 3 (q_null 2 (q_load 1 3 (q_get 8 1 0 (q_load 0 1 (q_cmpne 2 (q_load 1 3 (q_get 8 3 0 (q_ret 0))))))))))))))))
noncomputable def B_X2_latestWith_2 : qI := q_iinc 2 (-1) (q_goto 1)
noncomputable def B_X2_latestWith_3 : qI := q_const (0, -1000) (q_ret 0)
noncomputable def P_X2_latestWith : qP := [B_X2_latestWith_0, B_X2_latestWith_1, B_X2_latestWith_2, B_X2_latestWith_3]
noncomputable def f_X2_latestWith : List qV → qA → Option qR := qa_fn P_X2_latestWith 4
def pc_X2_latestWith : Nat → Nat := fun j => [0, 7, 38, 44].getD j 0
set_option maxRecDepth 100000 in
set_option maxHeartbeats 4000000 in
theorem kon_X2_latestWith (l : Launch) (hl : l.stackTraces = false) : qa_Con l yX2_latestWith cX2_latestWith 4 (some .int) 2 42 f_X2_latestWith :=
  qa_method (pcs := pc_X2_latestWith) (by decide +kernel) rfl (fun C hr hn j f hj => by
    match j, hj with
    | 0, hj => obtain rfl := Option.some.inj hj; exact ok_aload_n C rfl dX2_latestWith_0 (ok_get C kc_X2 (by decide) rfl rfl rfl wd_155 (fun _ h => h) dX2_latestWith_1 (ok_iconst C (by decide) dX2_latestWith_4 (ok_isub C dX2_latestWith_5 (ok_istore_n C rfl (by decide) dX2_latestWith_6 (ok_fall rfl)))))
    | 1, hj => obtain rfl := Option.some.inj hj; exact ok_iload_n C rfl dX2_latestWith_7 (ok_aload_n C rfl dX2_latestWith_8 (ok_get C kc_X2 (by decide) rfl rfl rfl wd_152 (fun _ h => h) dX2_latestWith_9 (ok_cmplt C (T := 3) dX2_latestWith_12 (by decide) (ok_aload_n C rfl dX2_latestWith_15 (ok_iload_n C rfl dX2_latestWith_16 (ok_callv C rfl (by decide) (kon_X2_at l hl) (qa_wl [1083, 750, 751, 75, 752] (by decide +kernel) (by decide +kernel)) ⟨rfl, by decide +kernel, by decide +kernel, by decide +kernel⟩ ⟨Nat.le_of_ble_eq_true rfl, Nat.le_of_ble_eq_true rfl⟩ dX2_latestWith_17 (ok_astore_n C rfl (by decide) dX2_latestWith_20 (ok_aload_n C rfl dX2_latestWith_21 (ok_ifnull C (T := 2) dX2_latestWith_22 (by decide) (ok_aload_n C rfl dX2_latestWith_25 (ok_get C kc_X5 (by decide) rfl rfl rfl wd_716 (fun _ h => h) dX2_latestWith_26 (ok_iload_n C rfl dX2_latestWith_29 (ok_cmpne C (T := 2) dX2_latestWith_30 (by decide) (ok_aload_n C rfl dX2_latestWith_33 (ok_get C kc_X5 (by decide) rfl rfl rfl wd_726 (fun _ h => h) dX2_latestWith_34 (ok_iret C hr dX2_latestWith_37))))))))))))))))
    | 2, hj => obtain rfl := Option.some.inj hj; exact ok_iinc C (by decide) (by decide) dX2_latestWith_38 (ok_goto C dX2_latestWith_41 (by decide))
    | 3, hj => obtain rfl := Option.some.inj hj; exact ok_sipush C (by decide) dX2_latestWith_44 (ok_iret C hr dX2_latestWith_47)
    | (_ + 4), hj => exact nomatch hj)
noncomputable def B_X2_valueSum_0 : qI := q_const (0, 0) (q_store 0 1 (q_load 1 0 (q_get 5 4 0 (q_store 0 2 (q_goto 1)))))
noncomputable def B_X2_valueSum_1 : qI := q_load 0 2 (q_load 1 0 (q_get 5 5 0 (q_cmpge 4 (q_load 1 0 (q_load 0 2 (q_callv 5 f_X2_at 2 (q_store 1 3 (q_load 0 1 (q_load 1 3 (q_nonnull 2 (q_const (0, 0) (q_goto 3))))))))))))
noncomputable def B_X2_valueSum_2 : qI := q_load 1 3 (q_get 8 3 0 (q_goto 3))
noncomputable def B_X2_valueSum_3 : qI := q_iadd (q_store 0 1 (q_iinc 2 (1) (q_goto 1)))
noncomputable def B_X2_valueSum_4 : qI := q_load 0 1 (q_ret 0)
noncomputable def P_X2_valueSum : qP := [B_X2_valueSum_0, B_X2_valueSum_1, B_X2_valueSum_2, B_X2_valueSum_3, B_X2_valueSum_4]
noncomputable def f_X2_valueSum : List qV → qA → Option qR := qa_fn P_X2_valueSum 4
def pc_X2_valueSum : Nat → Nat := fun j => [0, 7, 30, 34, 42].getD j 0
set_option maxRecDepth 100000 in
set_option maxHeartbeats 4000000 in
theorem kon_X2_valueSum (l : Launch) (hl : l.stackTraces = false) : qa_Con l yX2_valueSum cX2_valueSum 4 (some .int) 2 42 f_X2_valueSum :=
  qa_method (pcs := pc_X2_valueSum) (by decide +kernel) rfl (fun C hr hn j f hj => by
    match j, hj with
    | 0, hj => obtain rfl := Option.some.inj hj; exact ok_iconst C (by decide) dX2_valueSum_0 (ok_istore_n C rfl (by decide) dX2_valueSum_1 (ok_aload_n C rfl dX2_valueSum_2 (ok_get C kc_X2 (by decide) rfl rfl rfl wd_152 (fun _ h => h) dX2_valueSum_3 (ok_istore_n C rfl (by decide) dX2_valueSum_6 (ok_fall rfl)))))
    | 1, hj => obtain rfl := Option.some.inj hj; exact ok_iload_n C rfl dX2_valueSum_7 (ok_aload_n C rfl dX2_valueSum_8 (ok_get C kc_X2 (by decide) rfl rfl rfl wd_155 (fun _ h => h) dX2_valueSum_9 (ok_cmpge C (T := 4) dX2_valueSum_12 (by decide) (ok_aload_n C rfl dX2_valueSum_15 (ok_iload_n C rfl dX2_valueSum_16 (ok_callv C rfl (by decide) (kon_X2_at l hl) (qa_wl [1083, 750, 751, 75, 752] (by decide +kernel) (by decide +kernel)) ⟨rfl, by decide +kernel, by decide +kernel, by decide +kernel⟩ ⟨Nat.le_of_ble_eq_true rfl, Nat.le_of_ble_eq_true rfl⟩ dX2_valueSum_17 (ok_astore_n C rfl (by decide) dX2_valueSum_20 (ok_iload_n C rfl dX2_valueSum_21 (ok_aload_n C rfl dX2_valueSum_22 (ok_ifnonnull C (T := 2) dX2_valueSum_23 (by decide) (ok_iconst C (by decide) dX2_valueSum_26 (ok_goto C dX2_valueSum_27 (by decide)))))))))))))
    | 2, hj => obtain rfl := Option.some.inj hj; exact ok_aload_n C rfl dX2_valueSum_30 (ok_get C kc_X5 (by decide) rfl rfl rfl wd_726 (fun _ h => h) dX2_valueSum_31 (ok_fall rfl))
    | 3, hj => obtain rfl := Option.some.inj hj; exact ok_iadd C dX2_valueSum_34 (ok_istore_n C rfl (by decide) dX2_valueSum_35 (ok_iinc C (by decide) (by decide) dX2_valueSum_36 (ok_goto C dX2_valueSum_39 (by decide))))
    | 4, hj => obtain rfl := Option.some.inj hj; exact ok_iload_n C rfl dX2_valueSum_42 (ok_iret C hr dX2_valueSum_43)
    | (_ + 5), hj => exact nomatch hj)
noncomputable def B_X9_brokenCount_0 : qI := q_const (0, 0) (q_store 0 1 (q_load 1 0 (q_get 12 4 1 (q_store 1 2 (q_load 1 2 (q_alen (q_store 0 3 (q_const (0, 0) (q_store 0 4 (q_goto 1))))))))))
noncomputable def B_X9_brokenCount_1 : qI := q_load 0 4 (q_load 0 3 (q_cmpge 4 (q_load 1 2 (q_load 0 4 (q_ald (111 + 9) 1 (q_store 1 5 (q_load 0 1 (q_load 1 5 (q_get 9 0 0 (q_ifeq 2 (q_load 1 5 (q_get 9 6 0 (q_goto 3)))))))))))))
noncomputable def B_X9_brokenCount_2 : qI := q_const (0, 0) (q_goto 3)
noncomputable def B_X9_brokenCount_3 : qI := q_iadd (q_store 0 1 (q_iinc 4 (1) (q_goto 1)))
noncomputable def B_X9_brokenCount_4 : qI := q_load 0 1 (q_ret 0)
noncomputable def P_X9_brokenCount : qP := [B_X9_brokenCount_0, B_X9_brokenCount_1, B_X9_brokenCount_2, B_X9_brokenCount_3, B_X9_brokenCount_4]
noncomputable def f_X9_brokenCount : List qV → qA → Option qR := qa_fn P_X9_brokenCount 6
def pc_X9_brokenCount : Nat → Nat := fun j => [0, 13, 42, 43, 51].getD j 0
set_option maxRecDepth 100000 in
set_option maxHeartbeats 4000000 in
theorem kon_X9_brokenCount (l : Launch) (hl : l.stackTraces = false) : qa_Con l yX9_brokenCount cX9_brokenCount 6 (some .int) 1 20 f_X9_brokenCount :=
  qa_method (pcs := pc_X9_brokenCount) (by decide +kernel) rfl (fun C hr hn j f hj => by
    match j, hj with
    | 0, hj => obtain rfl := Option.some.inj hj; exact ok_iconst C (by decide) dX9_brokenCount_0 (ok_istore_n C rfl (by decide) dX9_brokenCount_1 (ok_aload_n C rfl dX9_brokenCount_2 (ok_get C kc_X9 (by decide) rfl rfl rfl wd_280 (fun _ h => h) dX9_brokenCount_3 (ok_astore_n C rfl (by decide) dX9_brokenCount_6 (ok_aload_n C rfl dX9_brokenCount_7 (ok_alen C dX9_brokenCount_8 (ok_istore_n C rfl (by decide) dX9_brokenCount_9 (ok_iconst C (by decide) dX9_brokenCount_10 (ok_istore C (by decide) dX9_brokenCount_11 (ok_fall rfl))))))))))
    | 1, hj => obtain rfl := Option.some.inj hj; exact ok_iload C dX9_brokenCount_13 (ok_iload_n C rfl dX9_brokenCount_15 (ok_cmpge C (T := 4) dX9_brokenCount_16 (by decide) (ok_aload_n C rfl dX9_brokenCount_19 (ok_iload C dX9_brokenCount_20 (ok_aaload C dX9_brokenCount_22 (ok_astore C (by decide) dX9_brokenCount_23 (ok_iload_n C rfl dX9_brokenCount_25 (ok_aload C dX9_brokenCount_26 (ok_get C kc_X6 (by decide) rfl rfl rfl wd_224 (fun _ h => h) dX9_brokenCount_28 (ok_ifeq C (T := 2) dX9_brokenCount_31 (by decide) (ok_aload C dX9_brokenCount_34 (ok_get C kc_X6 (by decide) rfl rfl rfl wd_242 (fun _ h => h) dX9_brokenCount_36 (ok_goto C dX9_brokenCount_39 (by decide))))))))))))))
    | 2, hj => obtain rfl := Option.some.inj hj; exact ok_iconst C (by decide) dX9_brokenCount_42 (ok_fall rfl)
    | 3, hj => obtain rfl := Option.some.inj hj; exact ok_iadd C dX9_brokenCount_43 (ok_istore_n C rfl (by decide) dX9_brokenCount_44 (ok_iinc C (by decide) (by decide) dX9_brokenCount_45 (ok_goto C dX9_brokenCount_48 (by decide))))
    | 4, hj => obtain rfl := Option.some.inj hj; exact ok_iload_n C rfl dX9_brokenCount_51 (ok_iret C hr dX9_brokenCount_52)
    | (_ + 5), hj => exact nomatch hj)
noncomputable def B_X9_debtCount_0 : qI := q_const (0, 0) (q_store 0 1 (q_load 1 0 (q_get 12 4 1 (q_store 1 2 (q_load 1 2 (q_alen (q_store 0 3 (q_const (0, 0) (q_store 0 4 (q_goto 1))))))))))
noncomputable def B_X9_debtCount_1 : qI := q_load 0 4 (q_load 0 3 (q_cmpge 4 (q_load 1 2 (q_load 0 4 (q_ald (111 + 9) 1 (q_store 1 5 (q_load 0 1 (q_load 1 5 (q_get 9 0 0 (q_ifeq 2 (q_load 1 5 (q_get 9 9 1 (q_get 6 0 0 (q_goto 3))))))))))))))
noncomputable def B_X9_debtCount_2 : qI := q_const (0, 0) (q_goto 3)
noncomputable def B_X9_debtCount_3 : qI := q_iadd (q_store 0 1 (q_iinc 4 (1) (q_goto 1)))
noncomputable def B_X9_debtCount_4 : qI := q_load 0 1 (q_ret 0)
noncomputable def P_X9_debtCount : qP := [B_X9_debtCount_0, B_X9_debtCount_1, B_X9_debtCount_2, B_X9_debtCount_3, B_X9_debtCount_4]
noncomputable def f_X9_debtCount : List qV → qA → Option qR := qa_fn P_X9_debtCount 6
def pc_X9_debtCount : Nat → Nat := fun j => [0, 13, 45, 46, 54].getD j 0
set_option maxRecDepth 100000 in
set_option maxHeartbeats 4000000 in
theorem kon_X9_debtCount (l : Launch) (hl : l.stackTraces = false) : qa_Con l yX9_debtCount cX9_debtCount 6 (some .int) 1 20 f_X9_debtCount :=
  qa_method (pcs := pc_X9_debtCount) (by decide +kernel) rfl (fun C hr hn j f hj => by
    match j, hj with
    | 0, hj => obtain rfl := Option.some.inj hj; exact ok_iconst C (by decide) dX9_debtCount_0 (ok_istore_n C rfl (by decide) dX9_debtCount_1 (ok_aload_n C rfl dX9_debtCount_2 (ok_get C kc_X9 (by decide) rfl rfl rfl wd_280 (fun _ h => h) dX9_debtCount_3 (ok_astore_n C rfl (by decide) dX9_debtCount_6 (ok_aload_n C rfl dX9_debtCount_7 (ok_alen C dX9_debtCount_8 (ok_istore_n C rfl (by decide) dX9_debtCount_9 (ok_iconst C (by decide) dX9_debtCount_10 (ok_istore C (by decide) dX9_debtCount_11 (ok_fall rfl))))))))))
    | 1, hj => obtain rfl := Option.some.inj hj; exact ok_iload C dX9_debtCount_13 (ok_iload_n C rfl dX9_debtCount_15 (ok_cmpge C (T := 4) dX9_debtCount_16 (by decide) (ok_aload_n C rfl dX9_debtCount_19 (ok_iload C dX9_debtCount_20 (ok_aaload C dX9_debtCount_22 (ok_astore C (by decide) dX9_debtCount_23 (ok_iload_n C rfl dX9_debtCount_25 (ok_aload C dX9_debtCount_26 (ok_get C kc_X6 (by decide) rfl rfl rfl wd_224 (fun _ h => h) dX9_debtCount_28 (ok_ifeq C (T := 2) dX9_debtCount_31 (by decide) (ok_aload C dX9_debtCount_34 (ok_get C kc_X6 (by decide) rfl rfl rfl wd_252 (fun _ h => h) dX9_debtCount_36 (ok_get C kc_X3 (by decide) rfl rfl rfl wd_197 (fun _ h => h) dX9_debtCount_39 (ok_goto C dX9_debtCount_42 (by decide)))))))))))))))
    | 2, hj => obtain rfl := Option.some.inj hj; exact ok_iconst C (by decide) dX9_debtCount_45 (ok_fall rfl)
    | 3, hj => obtain rfl := Option.some.inj hj; exact ok_iadd C dX9_debtCount_46 (ok_istore_n C rfl (by decide) dX9_debtCount_47 (ok_iinc C (by decide) (by decide) dX9_debtCount_48 (ok_goto C dX9_debtCount_51 (by decide))))
    | 4, hj => obtain rfl := Option.some.inj hj; exact ok_iload_n C rfl dX9_debtCount_54 (ok_iret C hr dX9_debtCount_55)
    | (_ + 5), hj => exact nomatch hj)
noncomputable def B_X9_greatestTotal_0 : qI := q_const (0, 0) (q_store 0 1 (q_load 1 0 (q_get 12 3 1 (q_store 1 2 (q_load 1 2 (q_alen (q_store 0 3 (q_const (0, 0) (q_store 0 4 (q_goto 1))))))))))
noncomputable def B_X9_greatestTotal_1 : qI := q_load 0 4 (q_load 0 3 (q_cmpge 4 (q_load 1 2 (q_load 0 4 (q_ald (111 + 5) 1 (q_store 1 5 (q_load 1 5 (q_get 5 1 0 (q_ifeq 2 (q_load 1 5 (q_get 5 6 0 (q_load 0 1 (q_cmple 2 (q_load 1 5 (q_get 5 6 0 (q_goto 3))))))))))))))))
noncomputable def B_X9_greatestTotal_2 : qI := q_load 0 1 (q_goto 3)
noncomputable def B_X9_greatestTotal_3 : qI := q_store 0 1 (q_iinc 4 (1) (q_goto 1))
noncomputable def B_X9_greatestTotal_4 : qI := q_load 0 1 (q_ret 0)
noncomputable def P_X9_greatestTotal : qP := [B_X9_greatestTotal_0, B_X9_greatestTotal_1, B_X9_greatestTotal_2, B_X9_greatestTotal_3, B_X9_greatestTotal_4]
noncomputable def f_X9_greatestTotal : List qV → qA → Option qR := qa_fn P_X9_greatestTotal 6
def pc_X9_greatestTotal : Nat → Nat := fun j => [0, 13, 50, 51, 58].getD j 0
set_option maxRecDepth 100000 in
set_option maxHeartbeats 4000000 in
theorem kon_X9_greatestTotal (l : Launch) (hl : l.stackTraces = false) : qa_Con l yX9_greatestTotal cX9_greatestTotal 6 (some .int) 1 20 f_X9_greatestTotal :=
  qa_method (pcs := pc_X9_greatestTotal) (by decide +kernel) rfl (fun C hr hn j f hj => by
    match j, hj with
    | 0, hj => obtain rfl := Option.some.inj hj; exact ok_iconst C (by decide) dX9_greatestTotal_0 (ok_istore_n C rfl (by decide) dX9_greatestTotal_1 (ok_aload_n C rfl dX9_greatestTotal_2 (ok_get C kc_X9 (by decide) rfl rfl rfl wd_279 (fun _ h => h) dX9_greatestTotal_3 (ok_astore_n C rfl (by decide) dX9_greatestTotal_6 (ok_aload_n C rfl dX9_greatestTotal_7 (ok_alen C dX9_greatestTotal_8 (ok_istore_n C rfl (by decide) dX9_greatestTotal_9 (ok_iconst C (by decide) dX9_greatestTotal_10 (ok_istore C (by decide) dX9_greatestTotal_11 (ok_fall rfl))))))))))
    | 1, hj => obtain rfl := Option.some.inj hj; exact ok_iload C dX9_greatestTotal_13 (ok_iload_n C rfl dX9_greatestTotal_15 (ok_cmpge C (T := 4) dX9_greatestTotal_16 (by decide) (ok_aload_n C rfl dX9_greatestTotal_19 (ok_iload C dX9_greatestTotal_20 (ok_aaload C dX9_greatestTotal_22 (ok_astore C (by decide) dX9_greatestTotal_23 (ok_aload C dX9_greatestTotal_25 (ok_get C kc_X2 (by decide) rfl rfl rfl wd_143 (fun _ h => h) dX9_greatestTotal_27 (ok_ifeq C (T := 2) dX9_greatestTotal_30 (by decide) (ok_aload C dX9_greatestTotal_33 (ok_get C kc_X2 (by decide) rfl rfl rfl wd_160 (fun _ h => h) dX9_greatestTotal_35 (ok_iload_n C rfl dX9_greatestTotal_38 (ok_cmple C (T := 2) dX9_greatestTotal_39 (by decide) (ok_aload C dX9_greatestTotal_42 (ok_get C kc_X2 (by decide) rfl rfl rfl wd_160 (fun _ h => h) dX9_greatestTotal_44 (ok_goto C dX9_greatestTotal_47 (by decide)))))))))))))))))
    | 2, hj => obtain rfl := Option.some.inj hj; exact ok_iload_n C rfl dX9_greatestTotal_50 (ok_fall rfl)
    | 3, hj => obtain rfl := Option.some.inj hj; exact ok_istore_n C rfl (by decide) dX9_greatestTotal_51 (ok_iinc C (by decide) (by decide) dX9_greatestTotal_52 (ok_goto C dX9_greatestTotal_55 (by decide)))
    | 4, hj => obtain rfl := Option.some.inj hj; exact ok_iload_n C rfl dX9_greatestTotal_58 (ok_iret C hr dX9_greatestTotal_59)
    | (_ + 5), hj => exact nomatch hj)
noncomputable def B_X9_owedTo_0 : qI := q_load 1 0 (q_load 0 1 (q_callv 12 f_X9_readerAt 2 (q_store 1 2 (q_load 1 2 (q_nonnull 1 (q_const (0, 0) (q_goto 2)))))))
noncomputable def B_X9_owedTo_1 : qI := q_load 1 2 (q_get 9 9 1 (q_get 6 0 0 (q_goto 2)))
noncomputable def B_X9_owedTo_2 : qI := q_ret 0
noncomputable def P_X9_owedTo : qP := [B_X9_owedTo_0, B_X9_owedTo_1, B_X9_owedTo_2]
noncomputable def f_X9_owedTo : List qV → qA → Option qR := qa_fn P_X9_owedTo 3
def pc_X9_owedTo : Nat → Nat := fun j => [0, 14, 21].getD j 0
set_option maxRecDepth 100000 in
set_option maxHeartbeats 4000000 in
theorem kon_X9_owedTo (l : Launch) (hl : l.stackTraces = false) : qa_Con l yX9_owedTo cX9_owedTo 3 (some .int) 2 42 f_X9_owedTo :=
  qa_method (pcs := pc_X9_owedTo) (by decide +kernel) rfl (fun C hr hn j f hj => by
    match j, hj with
    | 0, hj => obtain rfl := Option.some.inj hj; exact ok_aload_n C rfl dX9_owedTo_0 (ok_iload_n C rfl dX9_owedTo_1 (ok_callv C rfl (by decide) (kon_X9_readerAt l hl) (qa_wl [1263, 571, 572, 74, 573] (by decide +kernel) (by decide +kernel)) ⟨rfl, by decide +kernel, by decide +kernel, by decide +kernel⟩ ⟨Nat.le_of_ble_eq_true rfl, Nat.le_of_ble_eq_true rfl⟩ dX9_owedTo_2 (ok_astore_n C rfl (by decide) dX9_owedTo_5 (ok_aload_n C rfl dX9_owedTo_6 (ok_ifnonnull C (T := 1) dX9_owedTo_7 (by decide) (ok_iconst C (by decide) dX9_owedTo_10 (ok_goto C dX9_owedTo_11 (by decide))))))))
    | 1, hj => obtain rfl := Option.some.inj hj; exact ok_aload_n C rfl dX9_owedTo_14 (ok_get C kc_X6 (by decide) rfl rfl rfl wd_252 (fun _ h => h) dX9_owedTo_15 (ok_get C kc_X3 (by decide) rfl rfl rfl wd_197 (fun _ h => h) dX9_owedTo_18 (ok_fall rfl)))
    | 2, hj => obtain rfl := Option.some.inj hj; exact ok_iret C hr dX9_owedTo_21
    | (_ + 3), hj => exact nomatch hj)
noncomputable def B_X2_countFrom_0 : qI := q_const (0, 0) (q_store 0 3 (q_load 0 1 (q_store 0 4 (q_goto 1))))
noncomputable def B_X2_countFrom_1 : qI := q_load 0 4 (q_load 1 0 (q_get 5 5 0 (q_cmpge 4 (q_load 1 0 (q_load 0 4 (q_callv 5 f_X2_at 2 (q_store 1 5 (q_load 0 3 (q_load 1 5 (q_null 2 (q_load 1 5 (q_get 8 1 0 (q_load 0 2 (q_cmpne 2 (q_const (0, 1) (q_goto 3))))))))))))))))
noncomputable def B_X2_countFrom_2 : qI := q_const (0, 0) (q_goto 3)
noncomputable def B_X2_countFrom_3 : qI := q_iadd (q_store 0 3 (q_iinc 4 (1) (q_goto 1)))
noncomputable def B_X2_countFrom_4 : qI := q_load 0 3 (q_ret 0)
noncomputable def P_X2_countFrom : qP := [B_X2_countFrom_0, B_X2_countFrom_1, B_X2_countFrom_2, B_X2_countFrom_3, B_X2_countFrom_4]
noncomputable def f_X2_countFrom : List qV → qA → Option qR := qa_fn P_X2_countFrom 6
def pc_X2_countFrom : Nat → Nat := fun j => [0, 5, 41, 42, 50].getD j 0
set_option maxRecDepth 100000 in
set_option maxHeartbeats 4000000 in
theorem kon_X2_countFrom (l : Launch) (hl : l.stackTraces = false) : qa_Con l yX2_countFrom cX2_countFrom 6 (some .int) 2 42 f_X2_countFrom :=
  qa_method (pcs := pc_X2_countFrom) (by decide +kernel) rfl (fun C hr hn j f hj => by
    match j, hj with
    | 0, hj => obtain rfl := Option.some.inj hj; exact ok_iconst C (by decide) dX2_countFrom_0 (ok_istore_n C rfl (by decide) dX2_countFrom_1 (ok_iload_n C rfl dX2_countFrom_2 (ok_istore C (by decide) dX2_countFrom_3 (ok_fall rfl))))
    | 1, hj => obtain rfl := Option.some.inj hj; exact ok_iload C dX2_countFrom_5 (ok_aload_n C rfl dX2_countFrom_7 (ok_get C kc_X2 (by decide) rfl rfl rfl wd_155 (fun _ h => h) dX2_countFrom_8 (ok_cmpge C (T := 4) dX2_countFrom_11 (by decide) (ok_aload_n C rfl dX2_countFrom_14 (ok_iload C dX2_countFrom_15 (ok_callv C rfl (by decide) (kon_X2_at l hl) (qa_wl [1083, 750, 751, 75, 752] (by decide +kernel) (by decide +kernel)) ⟨rfl, by decide +kernel, by decide +kernel, by decide +kernel⟩ ⟨Nat.le_of_ble_eq_true rfl, Nat.le_of_ble_eq_true rfl⟩ dX2_countFrom_17 (ok_astore C (by decide) dX2_countFrom_20 (ok_iload_n C rfl dX2_countFrom_22 (ok_aload C dX2_countFrom_23 (ok_ifnull C (T := 2) dX2_countFrom_25 (by decide) (ok_aload C dX2_countFrom_28 (ok_get C kc_X5 (by decide) rfl rfl rfl wd_716 (fun _ h => h) dX2_countFrom_30 (ok_iload_n C rfl dX2_countFrom_33 (ok_cmpne C (T := 2) dX2_countFrom_34 (by decide) (ok_iconst C (by decide) dX2_countFrom_37 (ok_goto C dX2_countFrom_38 (by decide)))))))))))))))))
    | 2, hj => obtain rfl := Option.some.inj hj; exact ok_iconst C (by decide) dX2_countFrom_41 (ok_fall rfl)
    | 3, hj => obtain rfl := Option.some.inj hj; exact ok_iadd C dX2_countFrom_42 (ok_istore_n C rfl (by decide) dX2_countFrom_43 (ok_iinc C (by decide) (by decide) dX2_countFrom_44 (ok_goto C dX2_countFrom_47 (by decide))))
    | 4, hj => obtain rfl := Option.some.inj hj; exact ok_iload_n C rfl dX2_countFrom_50 (ok_iret C hr dX2_countFrom_51)
    | (_ + 5), hj => exact nomatch hj)
noncomputable def B_X9_promisesAhead_0 : qI := q_const (0, 0) (q_store 0 3 (q_const (0, 0) (q_store 0 4 (q_goto 1))))
noncomputable def B_X9_promisesAhead_1 : qI := q_load 0 4 (q_load 1 0 (q_get 12 4 1 (q_alen (q_cmpge 7 (q_load 1 0 (q_get 12 4 1 (q_load 0 4 (q_ald (111 + 9) 1 (q_store 1 5 (q_load 1 5 (q_get 9 4 0 (q_load 0 2 (q_cmplt 2 (q_load 1 5 (q_get 9 4 0 (q_load 0 2 (q_cmpne 3 (q_load 0 4 (q_load 0 1 (q_cmpge 3 (q_goto 2)))))))))))))))))))))
noncomputable def B_X9_promisesAhead_2 : qI := q_const (0, 1) (q_goto 4)
noncomputable def B_X9_promisesAhead_3 : qI := q_const (0, 0) (q_goto 4)
noncomputable def B_X9_promisesAhead_4 : qI := q_store 0 6 (q_load 0 3 (q_load 1 5 (q_callv 9 f_X6_hasPromise 1 (q_ifeq 5 (q_load 0 6 (q_ifeq 5 (q_const (0, 1) (q_goto 6))))))))
noncomputable def B_X9_promisesAhead_5 : qI := q_const (0, 0) (q_goto 6)
noncomputable def B_X9_promisesAhead_6 : qI := q_iadd (q_store 0 3 (q_iinc 4 (1) (q_goto 1)))
noncomputable def B_X9_promisesAhead_7 : qI := q_load 0 3 (q_ret 0)
noncomputable def P_X9_promisesAhead : qP := [B_X9_promisesAhead_0, B_X9_promisesAhead_1, B_X9_promisesAhead_2, B_X9_promisesAhead_3, B_X9_promisesAhead_4, B_X9_promisesAhead_5, B_X9_promisesAhead_6, B_X9_promisesAhead_7]
noncomputable def f_X9_promisesAhead : List qV → qA → Option qR := qa_fn P_X9_promisesAhead 7
def pc_X9_promisesAhead : Nat → Nat := fun j => [0, 5, 48, 52, 53, 73, 74, 82].getD j 0
set_option maxRecDepth 100000 in
set_option maxHeartbeats 4000000 in
theorem kon_X9_promisesAhead (l : Launch) (hl : l.stackTraces = false) : qa_Con l yX9_promisesAhead cX9_promisesAhead 7 (some .int) 2 40 f_X9_promisesAhead :=
  qa_method (pcs := pc_X9_promisesAhead) (by decide +kernel) rfl (fun C hr hn j f hj => by
    match j, hj with
    | 0, hj => obtain rfl := Option.some.inj hj; exact ok_iconst C (by decide) dX9_promisesAhead_0 (ok_istore_n C rfl (by decide) dX9_promisesAhead_1 (ok_iconst C (by decide) dX9_promisesAhead_2 (ok_istore C (by decide) dX9_promisesAhead_3 (ok_fall rfl))))
    | 1, hj => obtain rfl := Option.some.inj hj; exact ok_iload C dX9_promisesAhead_5 (ok_aload_n C rfl dX9_promisesAhead_7 (ok_get C kc_X9 (by decide) rfl rfl rfl wd_280 (fun _ h => h) dX9_promisesAhead_8 (ok_alen C dX9_promisesAhead_11 (ok_cmpge C (T := 7) dX9_promisesAhead_12 (by decide) (ok_aload_n C rfl dX9_promisesAhead_15 (ok_get C kc_X9 (by decide) rfl rfl rfl wd_280 (fun _ h => h) dX9_promisesAhead_16 (ok_iload C dX9_promisesAhead_19 (ok_aaload C dX9_promisesAhead_21 (ok_astore C (by decide) dX9_promisesAhead_22 (ok_aload C dX9_promisesAhead_24 (ok_get C kc_X6 (by decide) rfl rfl rfl wd_237 (fun _ h => h) dX9_promisesAhead_26 (ok_iload_n C rfl dX9_promisesAhead_29 (ok_cmplt C (T := 2) dX9_promisesAhead_30 (by decide) (ok_aload C dX9_promisesAhead_33 (ok_get C kc_X6 (by decide) rfl rfl rfl wd_237 (fun _ h => h) dX9_promisesAhead_35 (ok_iload_n C rfl dX9_promisesAhead_38 (ok_cmpne C (T := 3) dX9_promisesAhead_39 (by decide) (ok_iload C dX9_promisesAhead_42 (ok_iload_n C rfl dX9_promisesAhead_44 (ok_cmpge C (T := 3) dX9_promisesAhead_45 (by decide) (ok_fall rfl)))))))))))))))))))))
    | 2, hj => obtain rfl := Option.some.inj hj; exact ok_iconst C (by decide) dX9_promisesAhead_48 (ok_goto C dX9_promisesAhead_49 (by decide))
    | 3, hj => obtain rfl := Option.some.inj hj; exact ok_iconst C (by decide) dX9_promisesAhead_52 (ok_fall rfl)
    | 4, hj => obtain rfl := Option.some.inj hj; exact ok_istore C (by decide) dX9_promisesAhead_53 (ok_iload_n C rfl dX9_promisesAhead_55 (ok_aload C dX9_promisesAhead_56 (ok_callv C rfl (by decide) (kon_X6_hasPromise l hl) (qa_wl [1293, 934, 935, 76, 936] (by decide +kernel) (by decide +kernel)) ⟨rfl, by decide +kernel, by decide +kernel, by decide +kernel⟩ ⟨Nat.le_of_ble_eq_true rfl, Nat.le_of_ble_eq_true rfl⟩ dX9_promisesAhead_58 (ok_ifeq C (T := 5) dX9_promisesAhead_61 (by decide) (ok_iload C dX9_promisesAhead_64 (ok_ifeq C (T := 5) dX9_promisesAhead_66 (by decide) (ok_iconst C (by decide) dX9_promisesAhead_69 (ok_goto C dX9_promisesAhead_70 (by decide)))))))))
    | 5, hj => obtain rfl := Option.some.inj hj; exact ok_iconst C (by decide) dX9_promisesAhead_73 (ok_fall rfl)
    | 6, hj => obtain rfl := Option.some.inj hj; exact ok_iadd C dX9_promisesAhead_74 (ok_istore_n C rfl (by decide) dX9_promisesAhead_75 (ok_iinc C (by decide) (by decide) dX9_promisesAhead_76 (ok_goto C dX9_promisesAhead_79 (by decide))))
    | 7, hj => obtain rfl := Option.some.inj hj; exact ok_iload_n C rfl dX9_promisesAhead_82 (ok_iret C hr dX9_promisesAhead_83)
    | (_ + 8), hj => exact nomatch hj)
noncomputable def B_X9_promisedAt_0 : qI := q_const (0, 0) (q_store 0 2 (q_goto 1))
noncomputable def B_X9_promisedAt_1 : qI := q_load 0 2 (q_load 1 0 (q_get 12 4 1 (q_alen (q_cmpge 3 (q_load 1 0 (q_get 12 4 1 (q_load 0 2 (q_ald (111 + 9) 1 (q_callv 9 f_X6_hasPromise 1 (q_ifeq 2 (q_load 1 0 (q_load 0 2 (q_load 1 0 (q_get 12 4 1 (q_load 0 2 (q_ald (111 + 9) 1 (q_get 9 4 0 (q_callv 12 f_X9_promisesAhead 3 (q_load 0 1 (q_cmpne 2 (q_load 0 2 (q_ret 0))))))))))))))))))))))
noncomputable def B_X9_promisedAt_2 : qI := q_iinc 2 (1) (q_goto 1)
noncomputable def B_X9_promisedAt_3 : qI := q_const (0, -1) (q_ret 0)
noncomputable def P_X9_promisedAt : qP := [B_X9_promisedAt_0, B_X9_promisedAt_1, B_X9_promisedAt_2, B_X9_promisedAt_3]
noncomputable def f_X9_promisedAt : List qV → qA → Option qR := qa_fn P_X9_promisedAt 3
def pc_X9_promisedAt : Nat → Nat := fun j => [0, 2, 43, 49].getD j 0
set_option maxRecDepth 100000 in
set_option maxHeartbeats 4000000 in
theorem kon_X9_promisedAt (l : Launch) (hl : l.stackTraces = false) : qa_Con l yX9_promisedAt cX9_promisedAt 3 (some .int) 3 66 f_X9_promisedAt :=
  qa_method (pcs := pc_X9_promisedAt) (by decide +kernel) rfl (fun C hr hn j f hj => by
    match j, hj with
    | 0, hj => obtain rfl := Option.some.inj hj; exact ok_iconst C (by decide) dX9_promisedAt_0 (ok_istore_n C rfl (by decide) dX9_promisedAt_1 (ok_fall rfl))
    | 1, hj => obtain rfl := Option.some.inj hj; exact ok_iload_n C rfl dX9_promisedAt_2 (ok_aload_n C rfl dX9_promisedAt_3 (ok_get C kc_X9 (by decide) rfl rfl rfl wd_280 (fun _ h => h) dX9_promisedAt_4 (ok_alen C dX9_promisedAt_7 (ok_cmpge C (T := 3) dX9_promisedAt_8 (by decide) (ok_aload_n C rfl dX9_promisedAt_11 (ok_get C kc_X9 (by decide) rfl rfl rfl wd_280 (fun _ h => h) dX9_promisedAt_12 (ok_iload_n C rfl dX9_promisedAt_15 (ok_aaload C dX9_promisedAt_16 (ok_callv C rfl (by decide) (kon_X6_hasPromise l hl) (qa_wl [1293, 934, 935, 76, 936] (by decide +kernel) (by decide +kernel)) ⟨rfl, by decide +kernel, by decide +kernel, by decide +kernel⟩ ⟨Nat.le_of_ble_eq_true rfl, Nat.le_of_ble_eq_true rfl⟩ dX9_promisedAt_17 (ok_ifeq C (T := 2) dX9_promisedAt_20 (by decide) (ok_aload_n C rfl dX9_promisedAt_23 (ok_iload_n C rfl dX9_promisedAt_24 (ok_aload_n C rfl dX9_promisedAt_25 (ok_get C kc_X9 (by decide) rfl rfl rfl wd_280 (fun _ h => h) dX9_promisedAt_26 (ok_iload_n C rfl dX9_promisedAt_29 (ok_aaload C dX9_promisedAt_30 (ok_get C kc_X6 (by decide) rfl rfl rfl wd_237 (fun _ h => h) dX9_promisedAt_31 (ok_callv C rfl (by decide) (kon_X9_promisesAhead l hl) (qa_wl [1294, 1295, 1296, 74, 1297] (by decide +kernel) (by decide +kernel)) ⟨rfl, by decide +kernel, by decide +kernel, by decide +kernel⟩ ⟨Nat.le_of_ble_eq_true rfl, Nat.le_of_ble_eq_true rfl⟩ dX9_promisedAt_34 (ok_iload_n C rfl dX9_promisedAt_37 (ok_cmpne C (T := 2) dX9_promisedAt_38 (by decide) (ok_iload_n C rfl dX9_promisedAt_41 (ok_iret C hr dX9_promisedAt_42))))))))))))))))))))))
    | 2, hj => obtain rfl := Option.some.inj hj; exact ok_iinc C (by decide) (by decide) dX9_promisedAt_43 (ok_goto C dX9_promisedAt_46 (by decide))
    | 3, hj => obtain rfl := Option.some.inj hj; exact ok_iconst C (by decide) dX9_promisedAt_49 (ok_iret C hr dX9_promisedAt_50)
    | (_ + 4), hj => exact nomatch hj)
noncomputable def B_X1_takeBack_0 : qI := q_load 1 0 (q_get 4 2 0 (q_ifle 1 (q_load 1 0 (q_get 4 2 0 (q_load 1 0 (q_get 4 1 1 (q_alen (q_cmple 2 (q_goto 1)))))))))
noncomputable def B_X1_takeBack_1 : qI := q_const (0, -1) (q_ret 0)
noncomputable def B_X1_takeBack_2 : qI := q_load 1 0 (q_dup (q_get 4 2 0 (q_const (0, 1) (q_isub (q_put 4 2 0 (q_load 1 0 (q_get 4 1 1 (q_load 1 0 (q_get 4 2 0 (q_ald (111 + 12) 1 (q_store 1 2 (q_load 1 2 (q_null 3 (q_load 1 1 (q_load 1 2 (q_callv 12 f_X9_copyFrom 2 (q_goto 3)))))))))))))))))
noncomputable def B_X1_takeBack_3 : qI := q_load 1 0 (q_get 4 2 0 (q_ret 0))
noncomputable def P_X1_takeBack : qP := [B_X1_takeBack_0, B_X1_takeBack_1, B_X1_takeBack_2, B_X1_takeBack_3]
noncomputable def f_X1_takeBack : List qV → qA → Option qR := qa_fn P_X1_takeBack 3
def pc_X1_takeBack : Nat → Nat := fun j => [0, 19, 21, 50].getD j 0
set_option maxRecDepth 100000 in
set_option maxHeartbeats 4000000 in
theorem kon_X1_takeBack (l : Launch) (hl : l.stackTraces = false) : qa_Con l yX1_takeBack cX1_takeBack 3 (some .int) 4 184 f_X1_takeBack :=
  qa_method (pcs := pc_X1_takeBack) (by decide +kernel) rfl (fun C hr hn j f hj => by
    match j, hj with
    | 0, hj => obtain rfl := Option.some.inj hj; exact ok_aload_n C rfl dX1_takeBack_0 (ok_get C kc_X1 (by decide) rfl rfl rfl wd_302 (fun _ h => h) dX1_takeBack_1 (ok_ifle C (T := 1) dX1_takeBack_4 (by decide) (ok_aload_n C rfl dX1_takeBack_7 (ok_get C kc_X1 (by decide) rfl rfl rfl wd_302 (fun _ h => h) dX1_takeBack_8 (ok_aload_n C rfl dX1_takeBack_11 (ok_get C kc_X1 (by decide) rfl rfl rfl wd_301 (fun _ h => h) dX1_takeBack_12 (ok_alen C dX1_takeBack_15 (ok_cmple C (T := 2) dX1_takeBack_16 (by decide) (ok_fall rfl)))))))))
    | 1, hj => obtain rfl := Option.some.inj hj; exact ok_iconst C (by decide) dX1_takeBack_19 (ok_iret C hr dX1_takeBack_20)
    | 2, hj => obtain rfl := Option.some.inj hj; exact ok_aload_n C rfl dX1_takeBack_21 (ok_dup C dX1_takeBack_22 (ok_get C kc_X1 (by decide) rfl rfl rfl wd_302 (fun _ h => h) dX1_takeBack_23 (ok_iconst C (by decide) dX1_takeBack_26 (ok_isub C dX1_takeBack_27 (ok_put C kc_X1 (by decide) rfl rfl rfl wd_302 (fun _ h => h) (Or.inl rfl) qa_fit0 dX1_takeBack_28 (ok_aload_n C rfl dX1_takeBack_31 (ok_get C kc_X1 (by decide) rfl rfl rfl wd_301 (fun _ h => h) dX1_takeBack_32 (ok_aload_n C rfl dX1_takeBack_35 (ok_get C kc_X1 (by decide) rfl rfl rfl wd_302 (fun _ h => h) dX1_takeBack_36 (ok_aaload C dX1_takeBack_39 (ok_astore_n C rfl (by decide) dX1_takeBack_40 (ok_aload_n C rfl dX1_takeBack_41 (ok_ifnull C (T := 3) dX1_takeBack_42 (by decide) (ok_aload_n C rfl dX1_takeBack_45 (ok_aload_n C rfl dX1_takeBack_46 (ok_callv C rfl (by decide) (kon_X9_copyFrom l hl) (qa_wl [683, 684, 685, 74, 686] (by decide +kernel) (by decide +kernel)) ⟨rfl, by decide +kernel, by decide +kernel, by decide +kernel⟩ ⟨Nat.le_of_ble_eq_true rfl, Nat.le_of_ble_eq_true rfl⟩ dX1_takeBack_47 (ok_fall rfl)))))))))))))))))
    | 3, hj => obtain rfl := Option.some.inj hj; exact ok_aload_n C rfl dX1_takeBack_50 (ok_get C kc_X1 (by decide) rfl rfl rfl wd_302 (fun _ h => h) dX1_takeBack_51 (ok_iret C hr dX1_takeBack_54))
    | (_ + 4), hj => exact nomatch hj)
