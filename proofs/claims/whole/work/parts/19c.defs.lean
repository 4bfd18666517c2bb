def z_J4 : Int → Int := fun j => if j = 0 then -1 else 0
def z_X1 : Int → Int := fun j => if j = 0 ∨ j = 1 then -1 else 0
def z_X11 : Int → Int := fun j => if j = 0 ∨ j = 1 ∨ j = 2 ∨ j = 3 ∨ j = 4 ∨ j = 5 ∨ j = 6 ∨ j = 7 then -1 else 0
def z_X12 : Int → Int := fun j => if j = 1 ∨ j = 2 ∨ j = 3 ∨ j = 4 ∨ j = 6 ∨ j = 7 ∨ j = 8 ∨ j = 12 ∨ j = 13 ∨ j = 15 ∨ j = 23 ∨ j = 25 ∨ j = 26 then -1 else 0
def z_X2 : Int → Int := fun j => if j = 8 then -1 else 0
def z_X3 : Int → Int := fun j => if j = 7 then -1 else 0
def z_X4 : Int → Int := fun j => if j = 1 ∨ j = 4 then -1 else 0
def z_X5 : Int → Int := fun j => if False then -1 else 0
def z_X6 : Int → Int := fun j => if j = 9 then -1 else 0
def z_X7 : Int → Int := fun j => if j = 0 then -1 else 0
def z_X8 : Int → Int := fun j => if j = 0 ∨ j = 2 ∨ j = 3 then -1 else 0
def z_X9 : Int → Int := fun j => if j = 2 ∨ j = 3 ∨ j = 4 then -1 else 0
noncomputable def B_X7_init_0 : qI := q_load 1 0 (q_obj (q_load 1 0 (q_const (0, 7) (q_newa 101 0 (q_dup (q_const (0, 0) (q_const (0, 60) (q_ast 101 0 (q_dup (q_const (0, 1) (q_const (0, 120) (q_ast 101 0 (q_dup (q_const (0, 2) (q_const (0, 0) (q_ast 101 0 (q_dup (q_const (0, 3) (q_const (0, 5) (q_ast 101 0 (q_dup (q_const (0, 4) (q_const (0, 2) (q_ast 101 0 (q_dup (q_const (0, 5) (q_const (0, 20) (q_ast 101 0 (q_dup (q_goto 1))))))))))))))))))))))))))))))
noncomputable def B_X7_init_1 : qI := q_const (0, 6) (q_const (0, 0) (q_ast 101 0 (q_put 10 0 1 (q_vret))))
noncomputable def P_X7_init : qP := [B_X7_init_0, B_X7_init_1]
noncomputable def f_X7_init : List qV → qA → Option qR := qa_fn P_X7_init 1
def pc_X7_init : Nat → Nat := fun j => [0, 37].getD j 0
noncomputable def B_X2_init_0 : qI := q_load 1 0 (q_obj (q_load 1 0 (q_const (0, -1) (q_put 5 2 0 (q_load 1 0 (q_const (0, -1) (q_put 5 3 0 (q_load 1 0 (q_const (0, 512) (q_newa (111 + 8) (-1) (q_put 5 8 1 (q_load 1 0 (q_load 0 1 (q_put 5 0 0 (q_vret)))))))))))))))
noncomputable def P_X2_init : qP := [B_X2_init_0]
noncomputable def f_X2_init : List qV → qA → Option qR := qa_fn P_X2_init 2
def pc_X2_init : Nat → Nat := fun j => [0].getD j 0
noncomputable def B_X3_init_0 : qI := q_load 1 0 (q_obj (q_load 1 0 (q_const (0, -1000) (q_put 6 3 0 (q_load 1 0 (q_const (0, -1000) (q_put 6 4 0 (q_load 1 0 (q_const (0, -1) (q_put 6 5 0 (q_load 1 0 (q_const (0, -1) (q_put 6 6 0 (q_load 1 0 (q_const (0, 10) (q_newa 101 0 (q_put 6 7 1 (q_const (0, 0) (q_store 0 1 (q_goto 1))))))))))))))))))))
noncomputable def B_X3_init_1 : qI := q_load 0 1 (q_load 1 0 (q_get 6 7 1 (q_alen (q_cmpge 2 (q_load 1 0 (q_get 6 7 1 (q_load 0 1 (q_const (0, -1000) (q_ast 101 0 (q_iinc 1 (1) (q_goto 1)))))))))))
noncomputable def B_X3_init_2 : qI := q_vret
noncomputable def P_X3_init : qP := [B_X3_init_0, B_X3_init_1, B_X3_init_2]
noncomputable def f_X3_init : List qV → qA → Option qR := qa_fn P_X3_init 2
def pc_X3_init : Nat → Nat := fun j => [0, 38, 62].getD j 0
noncomputable def B_X6_init_0 : qI := q_load 1 0 (q_obj (q_load 1 0 (q_const (0, -1) (q_put 9 4 0 (q_load 1 0 (q_new 6 8 z_X3 (q_dup (q_callv 6 f_X3_init 1 (q_put 9 9 1 (q_vret))))))))))
noncomputable def P_X6_init : qP := [B_X6_init_0]
noncomputable def f_X6_init : List qV → qA → Option qR := qa_fn P_X6_init 1
def pc_X6_init : Nat → Nat := fun j => [0].getD j 0
noncomputable def B_X9_init_0 : qI := q_load 1 0 (q_obj (q_load 1 0 (q_const (0, 4) (q_newa 101 0 (q_put 12 2 1 (q_load 1 0 (q_const (0, 4) (q_newa (111 + 5) (-1) (q_put 12 3 1 (q_load 1 0 (q_const (0, 6) (q_newa (111 + 9) (-1) (q_put 12 4 1 (q_const (0, 0) (q_store 0 1 (q_goto 1))))))))))))))))
noncomputable def B_X9_init_1 : qI := q_load 0 1 (q_load 1 0 (q_get 12 3 1 (q_alen (q_cmpge 2 (q_load 1 0 (q_get 12 3 1 (q_load 0 1 (q_new 5 9 z_X2 (q_dup (q_load 0 1 (q_callv 5 f_X2_init 2 (q_aast 5 (q_iinc 1 (1) (q_goto 1))))))))))))))
noncomputable def B_X9_init_2 : qI := q_const (0, 0) (q_store 0 1 (q_goto 3))
noncomputable def B_X9_init_3 : qI := q_load 0 1 (q_load 1 0 (q_get 12 4 1 (q_alen (q_cmpge 4 (q_load 1 0 (q_get 12 4 1 (q_load 0 1 (q_new 9 10 z_X6 (q_dup (q_callv 9 f_X6_init 1 (q_aast 9 (q_iinc 1 (1) (q_goto 3)))))))))))))
noncomputable def B_X9_init_4 : qI := q_vret
noncomputable def P_X9_init : qP := [B_X9_init_0, B_X9_init_1, B_X9_init_2, B_X9_init_3, B_X9_init_4]
noncomputable def f_X9_init : List qV → qA → Option qR := qa_fn P_X9_init 2
def pc_X9_init : Nat → Nat := fun j => [0, 30, 59, 61, 89].getD j 0
noncomputable def B_X1_init_0 : qI := q_load 1 0 (q_obj (q_load 1 0 (q_const (0, 11) (q_newa 101 0 (q_put 4 0 1 (q_load 1 0 (q_const (0, 8) (q_newa (111 + 12) (-1) (q_put 4 1 1 (q_vret))))))))))
noncomputable def P_X1_init : qP := [B_X1_init_0]
noncomputable def f_X1_init : List qV → qA → Option qR := qa_fn P_X1_init 1
def pc_X1_init : Nat → Nat := fun j => [0].getD j 0
noncomputable def B_X4_init_0 : qI := q_load 1 0 (q_obj (q_load 1 0 (q_new 6 8 z_X3 (q_dup (q_callv 6 f_X3_init 1 (q_put 7 1 1 (q_load 1 0 (q_const (0, 99) (q_newa (111 + 8) (-1) (q_put 7 4 1 (q_vret)))))))))))
noncomputable def P_X4_init : qP := [B_X4_init_0]
noncomputable def f_X4_init : List qV → qA → Option qR := qa_fn P_X4_init 1
def pc_X4_init : Nat → Nat := fun j => [0].getD j 0
noncomputable def B_X8_init_0 : qI := q_load 1 0 (q_obj (q_load 1 0 (q_const (0, 700) (q_newa 102 0 (q_put 11 0 1 (q_load 1 0 (q_const (0, 60) (q_newa 110 (-1) (q_put 11 2 1 (q_load 1 0 (q_const (0, 240) (q_newa 101 0 (q_put 11 3 1 (q_load 1 0 (q_const (0, -1) (q_put 11 6 0 (q_vret)))))))))))))))))
noncomputable def P_X8_init : qP := [B_X8_init_0]
noncomputable def f_X8_init : List qV → qA → Option qR := qa_fn P_X8_init 1
def pc_X8_init : Nat → Nat := fun j => [0].getD j 0
noncomputable def B_J5_init_d00df_0 : qI := q_load 1 0 (q_obj (q_const (0, 1) (q_ifeq 1 (q_load 1 0 (q_load 0 1 (q_newa 102 0 (q_put 1 0 1 (q_load 1 0 (q_const (0, 0) (q_putb 1 1 (q_goto 2)))))))))))
noncomputable def B_J5_init_d00df_1 : qI := q_load 1 0 (q_load 0 1 (fun _ _ _ => none))
noncomputable def B_J5_init_d00df_2 : qI := q_vret
noncomputable def P_J5_init_d00df : qP := [B_J5_init_d00df_0, B_J5_init_d00df_1, B_J5_init_d00df_2]
noncomputable def f_J5_init_d00df : List qV → qA → Option qR := qa_fn P_J5_init_d00df 2
def pc_J5_init_d00df : Nat → Nat := fun j => [0, 25, 38].getD j 0
noncomputable def B_J4_init_da8c8_0 : qI := q_load 1 0 (q_const (0, 16) (q_callv 1 f_J5_init_d00df 2 (q_vret)))
noncomputable def P_J4_init_da8c8 : qP := [B_J4_init_da8c8_0]
noncomputable def f_J4_init_da8c8 : List qV → qA → Option qR := qa_fn P_J4_init_da8c8 1
def pc_J4_init_da8c8 : Nat → Nat := fun j => [0].getD j 0
noncomputable def B_X9_begin_0 : qI := q_load 1 0 (q_get 12 3 1 (q_const (0, 0) (q_ald (111 + 5) 1 (q_const (0, 1) (q_putz 5 1 (q_vret))))))
noncomputable def P_X9_begin : qP := [B_X9_begin_0]
noncomputable def f_X9_begin : List qV → qA → Option qR := qa_fn P_X9_begin 1
def pc_X9_begin : Nat → Nat := fun j => [0].getD j 0
noncomputable def B_X11_init_0 : qI := q_load 1 0 (q_obj (q_load 1 0 (q_new 10 1 z_X7 (q_dup (q_callv 10 f_X7_init 1 (q_put 13 0 1 (q_load 1 0 (q_new 12 5 z_X9 (q_dup (q_callv 12 f_X9_init 1 (q_put 13 1 1 (q_load 1 0 (q_new 12 5 z_X9 (q_dup (q_callv 12 f_X9_init 1 (q_put 13 2 1 (q_load 1 0 (q_const (0, 2) (q_newa (111 + 12) (-1) (q_put 13 3 1 (q_load 1 0 (q_new 4 3 z_X1 (q_dup (q_callv 4 f_X1_init 1 (q_put 13 4 1 (q_load 1 0 (q_new 7 5 z_X4 (q_dup (q_callv 7 f_X4_init 1 (q_goto 1))))))))))))))))))))))))))))))
noncomputable def B_X11_init_1 : qI := q_put 13 5 1 (q_load 1 0 (q_new 11 10 z_X8 (q_dup (q_callv 11 f_X8_init 1 (q_put 13 6 1 (q_load 1 0 (q_new 1 4 z_J4 (q_dup (q_callv 1 f_J4_init_da8c8 1 (q_put 13 7 1 (q_load 1 0 (q_get 13 1 1 (q_callv 12 f_X9_begin 1 (q_vret))))))))))))))
noncomputable def P_X11_init : qP := [B_X11_init_0, B_X11_init_1]
noncomputable def f_X11_init : List qV → qA → Option qR := qa_fn P_X11_init 1
def pc_X11_init : Nat → Nat := fun j => [0, 64].getD j 0
noncomputable def B_X8_hasRoomForFour_0 : qI := q_load 1 0 (q_get 11 1 0 (q_const (0, 696) (q_cmpgt 1 (q_const (0, 1) (q_goto 2)))))
noncomputable def B_X8_hasRoomForFour_1 : qI := q_const (0, 0) (q_goto 2)
noncomputable def B_X8_hasRoomForFour_2 : qI := q_retz
noncomputable def P_X8_hasRoomForFour : qP := [B_X8_hasRoomForFour_0, B_X8_hasRoomForFour_1, B_X8_hasRoomForFour_2]
noncomputable def f_X8_hasRoomForFour : List qV → qA → Option qR := qa_fn P_X8_hasRoomForFour 1
def pc_X8_hasRoomForFour : Nat → Nat := fun j => [0, 14, 15].getD j 0
noncomputable def B_X8_addFour_0 : qI := q_const (0, 24) (q_store 0 2 (q_goto 1))
noncomputable def B_X8_addFour_1 : qI := q_load 0 2 (q_iflt 3 (q_load 1 0 (q_get 11 1 0 (q_iflt 2 (q_load 1 0 (q_get 11 1 0 (q_load 1 0 (q_get 11 0 1 (q_alen (q_cmpge 2 (q_load 1 0 (q_get 11 0 1 (q_load 1 0 (q_get 11 1 0 (q_load 0 1 (q_load 0 2 (q_iushr (q_i2b (q_bast (q_load 1 0 (q_dup (q_get 11 1 0 (q_const (0, 1) (q_iadd (q_put 11 1 0 (q_goto 2))))))))))))))))))))))))))
noncomputable def B_X8_addFour_2 : qI := q_iinc 2 (-8) (q_goto 1)
noncomputable def B_X8_addFour_3 : qI := q_load 1 0 (q_get 11 1 0 (q_ret 0))
noncomputable def P_X8_addFour : qP := [B_X8_addFour_0, B_X8_addFour_1, B_X8_addFour_2, B_X8_addFour_3]
noncomputable def f_X8_addFour : List qV → qA → Option qR := qa_fn P_X8_addFour 3
def pc_X8_addFour : Nat → Nat := fun j => [0, 3, 49, 55].getD j 0
noncomputable def B_X11_appendText_0 : qI := q_load 1 0 (q_get 13 6 1 (q_callv 11 f_X8_hasRoomForFour 1 (q_ifne 1 ((fun ls st a => if st.length ≤ 4 then q_throw 3 ls st a else none)))))
noncomputable def B_X11_appendText_1 : qI := q_load 1 0 (q_get 13 6 1 (q_load 0 1 (q_callv 11 f_X8_addFour 2 (q_ret 0))))
noncomputable def P_X11_appendText : qP := [B_X11_appendText_0, B_X11_appendText_1]
noncomputable def f_X11_appendText : List qV → qA → Option qR := qa_fn P_X11_appendText 2
def pc_X11_appendText : Nat → Nat := fun j => [0, 18].getD j 0
noncomputable def B_X11_needRange_0 : qI := q_load 0 0 (q_load 0 1 (q_cmplt 1 (q_load 0 0 (q_load 0 2 (q_cmple 2 (q_goto 1))))))
noncomputable def B_X11_needRange_1 : qI := (fun ls st a => if st.length ≤ 4 then q_throw 2 ls st a else none)
noncomputable def B_X11_needRange_2 : qI := q_vret
noncomputable def P_X11_needRange : qP := [B_X11_needRange_0, B_X11_needRange_1, B_X11_needRange_2]
noncomputable def f_X11_needRange : List qV → qA → Option qR := qa_fn P_X11_needRange 3
def pc_X11_needRange : Nat → Nat := fun j => [0, 10, 18].getD j 0
noncomputable def B_X11_truncateText_0 : qI := q_load 0 1 (q_const (0, 0) (q_load 1 0 (q_get 13 6 1 (q_get 11 1 0 (q_call f_X11_needRange 3 (q_load 1 0 (q_get 13 6 1 (q_load 0 1 (q_put 11 1 0 (q_load 0 1 (q_ret 0)))))))))))
noncomputable def P_X11_truncateText : qP := [B_X11_truncateText_0]
noncomputable def f_X11_truncateText : List qV → qA → Option qR := qa_fn P_X11_truncateText 2
def pc_X11_truncateText : Nat → Nat := fun j => [0].getD j 0
noncomputable def B_X8_byteAt_0 : qI := q_load 0 1 (q_iflt 1 (q_load 0 1 (q_load 1 0 (q_get 11 1 0 (q_cmpge 1 (q_load 0 1 (q_load 1 0 (q_get 11 0 1 (q_alen (q_cmpge 1 (q_load 1 0 (q_get 11 0 1 (q_load 0 1 (q_ald 102 0 (q_const (0, 255) (q_iand (q_goto 2)))))))))))))))))
noncomputable def B_X8_byteAt_1 : qI := q_const (0, -1) (q_goto 2)
noncomputable def B_X8_byteAt_2 : qI := q_ret 0
noncomputable def P_X8_byteAt : qP := [B_X8_byteAt_0, B_X8_byteAt_1, B_X8_byteAt_2]
noncomputable def f_X8_byteAt : List qV → qA → Option qR := qa_fn P_X8_byteAt 2
def pc_X8_byteAt : Nat → Nat := fun j => [0, 34, 35].getD j 0
noncomputable def B_X8_isBlank_0 : qI := q_load 0 0 (q_const (0, 32) (q_cmpeq 1 (q_load 0 0 (q_const (0, 10) (q_cmpne 2 (q_goto 1))))))
noncomputable def B_X8_isBlank_1 : qI := q_const (0, 1) (q_goto 3)
noncomputable def B_X8_isBlank_2 : qI := q_const (0, 0) (q_goto 3)
noncomputable def B_X8_isBlank_3 : qI := q_retz
noncomputable def P_X8_isBlank : qP := [B_X8_isBlank_0, B_X8_isBlank_1, B_X8_isBlank_2, B_X8_isBlank_3]
noncomputable def f_X8_isBlank : List qV → qA → Option qR := qa_fn P_X8_isBlank 1
def pc_X8_isBlank : Nat → Nat := fun j => [0, 12, 16, 17].getD j 0
noncomputable def B_X8_kindOf_0 : qI := q_load 0 0 (q_const (0, -1) (q_cmpne 1 (q_const (0, 0) (q_ret 0))))
noncomputable def B_X8_kindOf_1 : qI := q_load 0 0 (q_const (0, 97) (q_cmplt 2 (q_load 0 0 (q_const (0, 122) (q_cmpgt 2 (q_const (0, 1) (q_ret 0)))))))
noncomputable def B_X8_kindOf_2 : qI := q_load 0 0 (q_const (0, 48) (q_cmplt 3 (q_load 0 0 (q_const (0, 57) (q_cmpgt 3 (q_const (0, 2) (q_ret 0)))))))
noncomputable def B_X8_kindOf_3 : qI := q_load 0 0 (q_const (0, 45) (q_cmpne 4 (q_const (0, 3) (q_ret 0))))
noncomputable def B_X8_kindOf_4 : qI := q_load 0 0 (q_const (0, 59) (q_cmpne 5 (q_const (0, 4) (q_goto 6))))
noncomputable def B_X8_kindOf_5 : qI := q_const (0, 5) (q_goto 6)
noncomputable def B_X8_kindOf_6 : qI := q_ret 0
noncomputable def P_X8_kindOf : qP := [B_X8_kindOf_0, B_X8_kindOf_1, B_X8_kindOf_2, B_X8_kindOf_3, B_X8_kindOf_4, B_X8_kindOf_5, B_X8_kindOf_6]
noncomputable def f_X8_kindOf : List qV → qA → Option qR := qa_fn P_X8_kindOf 1
def pc_X8_kindOf : Nat → Nat := fun j => [0, 7, 21, 35, 43, 53, 54].getD j 0
noncomputable def B_X8_next_0 : qI := q_load 1 0 (q_get 11 9 0 (q_store 0 1 (q_goto 1)))
noncomputable def B_X8_next_1 : qI := q_load 0 1 (q_load 1 0 (q_get 11 1 0 (q_cmpge 2 (q_load 1 0 (q_load 0 1 (q_callv 11 f_X8_byteAt 2 (q_call f_X8_isBlank 1 (q_ifeq 2 (q_iinc 1 (1) (q_goto 1))))))))))
noncomputable def B_X8_next_2 : qI := q_load 1 0 (q_load 0 1 (q_put 11 8 0 (q_load 1 0 (q_load 1 0 (q_load 0 1 (q_callv 11 f_X8_byteAt 2 (q_call f_X8_kindOf 1 (q_put 11 7 0 (q_load 1 0 (q_load 0 1 (q_load 1 0 (q_get 11 1 0 (q_cmpge 3 (q_load 0 1 (q_const (0, 1) (q_iadd (q_goto 4)))))))))))))))))
noncomputable def B_X8_next_3 : qI := q_load 0 1 (q_goto 4)
noncomputable def B_X8_next_4 : qI := q_put 11 9 0 (q_load 1 0 (q_get 11 7 0 (q_const (0, 1) (q_cmpeq 5 (q_load 1 0 (q_get 11 7 0 (q_const (0, 2) (q_cmpne 6 (q_goto 5)))))))))
noncomputable def B_X8_next_5 : qI := q_const (0, 1) (q_goto 7)
noncomputable def B_X8_next_6 : qI := q_const (0, 0) (q_goto 7)
noncomputable def B_X8_next_7 : qI := q_store 0 2 (q_goto 8)
noncomputable def B_X8_next_8 : qI := q_load 0 2 (q_ifeq 9 (q_load 1 0 (q_get 11 9 0 (q_load 1 0 (q_get 11 1 0 (q_cmpge 9 (q_load 1 0 (q_load 1 0 (q_get 11 9 0 (q_callv 11 f_X8_byteAt 2 (q_call f_X8_kindOf 1 (q_load 1 0 (q_get 11 7 0 (q_cmpne 9 (q_load 1 0 (q_dup (q_get 11 9 0 (q_const (0, 1) (q_iadd (q_put 11 9 0 (q_goto 8)))))))))))))))))))))
noncomputable def B_X8_next_9 : qI := q_vret
noncomputable def P_X8_next : qP := [B_X8_next_0, B_X8_next_1, B_X8_next_2, B_X8_next_3, B_X8_next_4, B_X8_next_5, B_X8_next_6, B_X8_next_7, B_X8_next_8, B_X8_next_9]
noncomputable def f_X8_next : List qV → qA → Option qR := qa_fn P_X8_next 3
def pc_X8_next : Nat → Nat := fun j => [0, 5, 30, 62, 63, 82, 86, 87, 88, 134].getD j 0
noncomputable def B_J0_coder_7d493_0 : qI := q_const (0, 1) (q_ifeq 1 (q_load 1 0 (q_sget "coder" (q_goto 2))))
noncomputable def B_J0_coder_7d493_1 : qI := q_const (0, 1) (q_goto 2)
noncomputable def B_J0_coder_7d493_2 : qI := q_retby
noncomputable def P_J0_coder_7d493 : qP := [B_J0_coder_7d493_0, B_J0_coder_7d493_1, B_J0_coder_7d493_2]
noncomputable def f_J0_coder_7d493 : List qV → qA → Option qR := qa_fn P_J0_coder_7d493 1
def pc_J0_coder_7d493 : Nat → Nat := fun j => [0, 13, 14].getD j 0
noncomputable def B_J0_length_8abf5_0 : qI := q_load 1 0 (q_sget "value" (q_slen (q_load 1 0 (q_calls "java/lang/String" f_J0_coder_7d493 1 (q_ishr (q_ret 0))))))
noncomputable def P_J0_length_8abf5 : qP := [B_J0_length_8abf5_0]
noncomputable def f_J0_length_8abf5 : List qV → qA → Option qR := qa_fn P_J0_length_8abf5 1
def pc_J0_length_8abf5 : Nat → Nat := fun j => [0].getD j 0
noncomputable def B_J0_isLatin1_aae02_0 : qI := q_const (0, 1) (q_ifeq 1 (q_load 1 0 (q_sget "coder" (q_ifne 1 (q_const (0, 1) (q_goto 2))))))
noncomputable def B_J0_isLatin1_aae02_1 : qI := q_const (0, 0) (q_goto 2)
noncomputable def B_J0_isLatin1_aae02_2 : qI := q_retz
noncomputable def P_J0_isLatin1_aae02 : qP := [B_J0_isLatin1_aae02_0, B_J0_isLatin1_aae02_1, B_J0_isLatin1_aae02_2]
noncomputable def f_J0_isLatin1_aae02 : List qV → qA → Option qR := qa_fn P_J0_isLatin1_aae02 1
def pc_J0_isLatin1_aae02 : Nat → Nat := fun j => [0, 17, 18].getD j 0
noncomputable def B_J3_checkIndex_8e157_0 : qI := q_load 0 0 (q_iflt 1 (q_load 0 0 (q_load 0 1 (q_cmplt 2 (q_goto 1)))))
noncomputable def B_J3_checkIndex_8e157_1 : qI := q_load 1 2 (q_load 0 0 (q_load 0 1 (fun _ _ _ => none)))
noncomputable def B_J3_checkIndex_8e157_2 : qI := q_load 0 0 (q_ret 0)
noncomputable def P_J3_checkIndex_8e157 : qP := [B_J3_checkIndex_8e157_0, B_J3_checkIndex_8e157_1, B_J3_checkIndex_8e157_2]
noncomputable def f_J3_checkIndex_8e157 : List qV → qA → Option qR := qa_fn P_J3_checkIndex_8e157 3
def pc_J3_checkIndex_8e157 : Nat → Nat := fun j => [0, 9, 16].getD j 0
noncomputable def B_J0_checkIndex_df160_0 : qI := q_load 0 0 (q_load 0 1 (q_getq (q_call f_J3_checkIndex_8e157 3 (q_pop (q_vret)))))
noncomputable def P_J0_checkIndex_df160 : qP := [B_J0_checkIndex_df160_0]
noncomputable def f_J0_checkIndex_df160 : List qV → qA → Option qR := qa_fn P_J0_checkIndex_df160 2
def pc_J0_checkIndex_df160 : Nat → Nat := fun j => [0].getD j 0
noncomputable def B_J1_charAt_3b067_0 : qI := q_load 0 1 (q_load 1 0 (q_slen (q_call f_J0_checkIndex_df160 2 (q_load 1 0 (q_load 0 1 (q_sld 102 (q_const (0, 255) (q_iand (q_i2c (q_retc))))))))))
noncomputable def P_J1_charAt_3b067 : qP := [B_J1_charAt_3b067_0]
noncomputable def f_J1_charAt_3b067 : List qV → qA → Option qR := qa_fn P_J1_charAt_3b067 2
def pc_J1_charAt_3b067 : Nat → Nat := fun j => [0].getD j 0
noncomputable def B_J0_charAt_5068e_0 : qI := q_load 1 0 (q_calls "java/lang/String" f_J0_isLatin1_aae02 1 (q_ifeq 1 (q_load 1 0 (q_sget "value" (q_load 0 1 (q_call f_J1_charAt_3b067 2 (q_retc)))))))
noncomputable def B_J0_charAt_5068e_1 : qI := q_load 1 0 (q_sget "value" (q_load 0 1 (fun _ _ _ => none)))
noncomputable def P_J0_charAt_5068e : qP := [B_J0_charAt_5068e_0, B_J0_charAt_5068e_1]
noncomputable def f_J0_charAt_5068e : List qV → qA → Option qR := qa_fn P_J0_charAt_5068e 2
def pc_J0_charAt_5068e : Nat → Nat := fun j => [0, 16].getD j 0
noncomputable def B_X8_isWord_0 : qI := q_load 1 0 (q_get 11 7 0 (q_const (0, 1) (q_cmpne 1 (q_load 1 0 (q_get 11 9 0 (q_load 1 0 (q_get 11 8 0 (q_isub (q_load 1 1 (q_calls "java/lang/String" f_J0_length_8abf5 1 (q_cmpne 1 (q_const (0, 1) (q_goto 2)))))))))))))
noncomputable def B_X8_isWord_1 : qI := q_const (0, 0) (q_goto 2)
noncomputable def B_X8_isWord_2 : qI := q_store 0 2 (q_const (0, 0) (q_store 0 3 (q_goto 3)))
noncomputable def B_X8_isWord_3 : qI := q_load 0 2 (q_ifeq 6 (q_load 0 3 (q_load 1 1 (q_calls "java/lang/String" f_J0_length_8abf5 1 (q_cmpge 6 (q_load 1 0 (q_load 1 0 (q_get 11 8 0 (q_load 0 3 (q_iadd (q_callv 11 f_X8_byteAt 2 (q_load 1 1 (q_load 0 3 (q_calls "java/lang/String" f_J0_charAt_5068e 2 (q_cmpne 4 (q_const (0, 1) (q_goto 5)))))))))))))))))
noncomputable def B_X8_isWord_4 : qI := q_const (0, 0) (q_goto 5)
noncomputable def B_X8_isWord_5 : qI := q_store 0 2 (q_iinc 3 (1) (q_goto 3))
noncomputable def B_X8_isWord_6 : qI := q_load 0 2 (q_retz)
noncomputable def P_X8_isWord : qP := [B_X8_isWord_0, B_X8_isWord_1, B_X8_isWord_2, B_X8_isWord_3, B_X8_isWord_4, B_X8_isWord_5, B_X8_isWord_6]
noncomputable def f_X8_isWord : List qV → qA → Option qR := qa_fn P_X8_isWord 4
def pc_X8_isWord : Nat → Nat := fun j => [0, 28, 29, 32, 66, 67, 74].getD j 0
noncomputable def B_X8_verbHere_0 : qI := q_const (1, -13) (q_store 1 1 (q_load 1 1 (q_slen (q_store 0 2 (q_const (0, 0) (q_store 0 3 (q_goto 1)))))))
noncomputable def B_X8_verbHere_1 : qI := q_load 0 3 (q_load 0 2 (q_cmpge 3 (q_load 1 1 (q_load 0 3 (q_sld 110 (q_store 1 4 (q_load 1 0 (q_load 1 4 (q_sget "word" (q_callv 11 f_X8_isWord 2 (q_ifeq 2 (q_load 1 4 (q_ret 1)))))))))))))
noncomputable def B_X8_verbHere_2 : qI := q_iinc 3 (1) (q_goto 1)
noncomputable def B_X8_verbHere_3 : qI := q_const (1, -1) (q_ret 1)
noncomputable def P_X8_verbHere : qP := [B_X8_verbHere_0, B_X8_verbHere_1, B_X8_verbHere_2, B_X8_verbHere_3]
noncomputable def f_X8_verbHere : List qV → qA → Option qR := qa_fn P_X8_verbHere 5
def pc_X8_verbHere : Nat → Nat := fun j => [0, 9, 34, 40].getD j 0
noncomputable def B_X8_fail_0 : qI := q_load 1 0 (q_load 0 1 (q_put 11 5 0 (q_load 1 0 (q_load 1 0 (q_get 11 8 0 (q_put 11 6 0 (q_const (0, 0) (q_retz))))))))
noncomputable def P_X8_fail : qP := [B_X8_fail_0]
noncomputable def f_X8_fail : List qV → qA → Option qR := qa_fn P_X8_fail 2
def pc_X8_fail : Nat → Nat := fun j => [0].getD j 0
noncomputable def B_X8_keep_0 : qI := q_load 0 1 (q_iflt 1 (q_load 0 1 (q_load 1 0 (q_get 11 3 1 (q_alen (q_cmpge 1 (q_load 1 0 (q_get 11 3 1 (q_load 0 1 (q_load 0 2 (q_ast 101 0 (q_goto 1))))))))))))
noncomputable def B_X8_keep_1 : qI := q_vret
noncomputable def P_X8_keep : qP := [B_X8_keep_0, B_X8_keep_1]
noncomputable def f_X8_keep : List qV → qA → Option qR := qa_fn P_X8_keep 3
def pc_X8_keep : Nat → Nat := fun j => [0, 20].getD j 0
noncomputable def B_X8_parseEnd_0 : qI := q_load 1 0 (q_const (1, -80) (q_callv 11 f_X8_isWord 2 (q_store 0 2 (q_load 1 0 (q_load 0 1 (q_load 0 2 (q_ifeq 1 (q_const (0, 1) (q_goto 2)))))))))
noncomputable def B_X8_parseEnd_1 : qI := q_const (0, 0) (q_goto 2)
noncomputable def B_X8_parseEnd_2 : qI := q_callv 11 f_X8_keep 3 (q_load 0 2 (q_ifeq 3 (q_load 1 0 (q_callv 11 f_X8_next 1 (q_goto 3)))))
noncomputable def B_X8_parseEnd_3 : qI := q_const (0, 1) (q_retz)
noncomputable def P_X8_parseEnd : qP := [B_X8_parseEnd_0, B_X8_parseEnd_1, B_X8_parseEnd_2, B_X8_parseEnd_3]
noncomputable def f_X8_parseEnd : List qV → qA → Option qR := qa_fn P_X8_parseEnd 3
def pc_X8_parseEnd : Nat → Nat := fun j => [0, 17, 18, 29].getD j 0
noncomputable def B_X8_numberHere_0 : qI := q_const (0, 0) (q_store 0 1 (q_load 1 0 (q_get 11 8 0 (q_store 0 2 (q_goto 1)))))
noncomputable def B_X8_numberHere_1 : qI := q_load 0 2 (q_load 1 0 (q_get 11 9 0 (q_cmpge 2 (q_const (0, 1000) (q_load 0 1 (q_const (0, 10) (q_imul (q_load 1 0 (q_load 0 2 (q_callv 11 f_X8_byteAt 2 (q_iadd (q_const (0, 48) (q_isub (q_min (q_store 0 1 (q_iinc 2 (1) (q_goto 1)))))))))))))))))
noncomputable def B_X8_numberHere_2 : qI := q_load 0 1 (q_ret 0)
noncomputable def P_X8_numberHere : qP := [B_X8_numberHere_0, B_X8_numberHere_1, B_X8_numberHere_2]
noncomputable def f_X8_numberHere : List qV → qA → Option qR := qa_fn P_X8_numberHere 3
def pc_X8_numberHere : Nat → Nat := fun j => [0, 7, 41].getD j 0
noncomputable def B_X8_leastOf_0 : qI := q_load 0 0 (q_const (0, 115) (q_cmpeq 1 (q_load 0 0 (q_const (0, 105) (q_cmpeq 1 (q_load 0 0 (q_const (0, 116) (q_cmpeq 1 (q_load 0 0 (q_const (0, 110) (q_cmpne 2 (q_goto 1))))))))))))
noncomputable def B_X8_leastOf_1 : qI := q_const (0, 1) (q_goto 3)
noncomputable def B_X8_leastOf_2 : qI := q_const (0, 0) (q_goto 3)
noncomputable def B_X8_leastOf_3 : qI := q_ret 0
noncomputable def P_X8_leastOf : qP := [B_X8_leastOf_0, B_X8_leastOf_1, B_X8_leastOf_2, B_X8_leastOf_3]
noncomputable def f_X8_leastOf : List qV → qA → Option qR := qa_fn P_X8_leastOf 1
def pc_X8_leastOf : Nat → Nat := fun j => [0, 24, 28, 29].getD j 0
noncomputable def B_X8_mostOf_0 : qI := q_load 0 0 (q_lookup [(98, 1), (107, 3), (114, 2), (115, 4), (116, 5)] 6)
noncomputable def B_X8_mostOf_1 : qI := q_const (0, 3) (q_ret 0)
noncomputable def B_X8_mostOf_2 : qI := q_const (0, 5) (q_ret 0)
noncomputable def B_X8_mostOf_3 : qI := q_const (0, 9) (q_ret 0)
noncomputable def B_X8_mostOf_4 : qI := q_const (0, 9) (q_ret 0)
noncomputable def B_X8_mostOf_5 : qI := q_const (0, 60) (q_ret 0)
noncomputable def B_X8_mostOf_6 : qI := q_const (0, 99) (q_ret 0)
noncomputable def P_X8_mostOf : qP := [B_X8_mostOf_0, B_X8_mostOf_1, B_X8_mostOf_2, B_X8_mostOf_3, B_X8_mostOf_4, B_X8_mostOf_5, B_X8_mostOf_6]
noncomputable def f_X8_mostOf : List qV → qA → Option qR := qa_fn P_X8_mostOf 1
def pc_X8_mostOf : Nat → Nat := fun j => [0, 52, 54, 56, 59, 62, 65].getD j 0
noncomputable def B_X8_parseOperand_0 : qI := q_load 0 1 (q_const (0, 101) (q_cmpne 1 (q_load 1 0 (q_load 0 2 (q_callv 11 f_X8_parseEnd 2 (q_retz))))))
noncomputable def B_X8_parseOperand_1 : qI := q_load 0 1 (q_const (0, 118) (q_cmpne 2 (q_load 1 0 (q_get 11 7 0 (q_const (0, 3) (q_cmpne 2 (q_const (0, 1) (q_goto 3))))))))
noncomputable def B_X8_parseOperand_2 : qI := q_const (0, 0) (q_goto 3)
noncomputable def B_X8_parseOperand_3 : qI := q_store 0 3 (q_load 0 3 (q_ifeq 4 (q_load 1 0 (q_callv 11 f_X8_next 1 (q_goto 4)))))
noncomputable def B_X8_parseOperand_4 : qI := q_load 1 0 (q_get 11 7 0 (q_const (0, 2) (q_cmpeq 5 (q_load 1 0 (q_const (0, 1) (q_callv 11 f_X8_fail 2 (q_retz)))))))
noncomputable def B_X8_parseOperand_5 : qI := q_load 1 0 (q_callv 11 f_X8_numberHere 1 (q_store 0 4 (q_load 0 4 (q_load 0 1 (q_call f_X8_leastOf 1 (q_cmplt 6 (q_load 0 4 (q_load 0 1 (q_call f_X8_mostOf 1 (q_cmple 7 (q_goto 6)))))))))))
noncomputable def B_X8_parseOperand_6 : qI := q_load 1 0 (q_const (0, 2) (q_callv 11 f_X8_fail 2 (q_retz)))
noncomputable def B_X8_parseOperand_7 : qI := q_load 1 0 (q_load 0 2 (q_load 0 3 (q_ifeq 8 (q_load 0 4 (q_ineg (q_goto 9))))))
noncomputable def B_X8_parseOperand_8 : qI := q_load 0 4 (q_goto 9)
noncomputable def B_X8_parseOperand_9 : qI := q_callv 11 f_X8_keep 3 (q_load 1 0 (q_callv 11 f_X8_next 1 (q_const (0, 1) (q_retz))))
noncomputable def P_X8_parseOperand : qP := [B_X8_parseOperand_0, B_X8_parseOperand_1, B_X8_parseOperand_2, B_X8_parseOperand_3, B_X8_parseOperand_4, B_X8_parseOperand_5, B_X8_parseOperand_6, B_X8_parseOperand_7, B_X8_parseOperand_8, B_X8_parseOperand_9]
noncomputable def f_X8_parseOperand : List qV → qA → Option qR := qa_fn P_X8_parseOperand 5
def pc_X8_parseOperand : Nat → Nat := fun j => [0, 12, 30, 31, 40, 54, 78, 84, 96, 98].getD j 0
noncomputable def B_X8_parseCommand_0 : qI := q_load 1 0 (q_callv 11 f_X8_verbHere 1 (q_store 1 1 (q_load 1 1 (q_nonnull 1 (q_load 1 0 (q_const (0, 1) (q_callv 11 f_X8_fail 2 (q_retz))))))))
noncomputable def B_X8_parseCommand_1 : qI := q_load 1 0 (q_get 11 4 0 (q_iflt 2 (q_load 1 0 (q_get 11 4 0 (q_load 1 0 (q_get 11 2 1 (q_alen (q_cmplt 3 (q_goto 2)))))))))
noncomputable def B_X8_parseCommand_2 : qI := q_load 1 0 (q_const (0, 3) (q_callv 11 f_X8_fail 2 (q_retz)))
noncomputable def B_X8_parseCommand_3 : qI := q_load 1 0 (q_get 11 2 1 (q_load 1 0 (q_get 11 4 0 (q_load 1 1 (q_vast (q_load 1 0 (q_callv 11 f_X8_next 1 (q_const (0, 0) (q_store 0 2 (q_goto 4))))))))))
noncomputable def B_X8_parseCommand_4 : qI := q_load 0 2 (q_load 1 1 (q_sget "operands" (q_calls "java/lang/String" f_J0_length_8abf5 1 (q_cmpge 6 (q_load 1 0 (q_load 1 1 (q_sget "operands" (q_load 0 2 (q_calls "java/lang/String" f_J0_charAt_5068e 2 (q_load 1 0 (q_get 11 4 0 (q_const (0, 4) (q_imul (q_load 0 2 (q_iadd (q_callv 11 f_X8_parseOperand 3 (q_ifne 5 (q_const (0, 0) (q_retz)))))))))))))))))))
noncomputable def B_X8_parseCommand_5 : qI := q_iinc 2 (1) (q_goto 4)
noncomputable def B_X8_parseCommand_6 : qI := q_load 1 0 (q_get 11 7 0 (q_const (0, 4) (q_cmpeq 7 (q_load 1 0 (q_const (0, 1) (q_callv 11 f_X8_fail 2 (q_retz)))))))
noncomputable def B_X8_parseCommand_7 : qI := q_load 1 0 (q_dup (q_get 11 4 0 (q_const (0, 1) (q_iadd (q_put 11 4 0 (q_load 1 0 (q_callv 11 f_X8_next 1 (q_const (0, 1) (q_retz)))))))))
noncomputable def P_X8_parseCommand : qP := [B_X8_parseCommand_0, B_X8_parseCommand_1, B_X8_parseCommand_2, B_X8_parseCommand_3, B_X8_parseCommand_4, B_X8_parseCommand_5, B_X8_parseCommand_6, B_X8_parseCommand_7]
noncomputable def f_X8_parseCommand : List qV → qA → Option qR := qa_fn P_X8_parseCommand 3
def pc_X8_parseCommand : Nat → Nat := fun j => [0, 15, 34, 40, 56, 92, 98, 112].getD j 0
noncomputable def B_X8_parse_0 : qI := q_load 1 0 (q_const (0, 0) (q_put 11 4 0 (q_load 1 0 (q_const (0, 0) (q_put 11 5 0 (q_load 1 0 (q_const (0, -1) (q_put 11 6 0 (q_load 1 0 (q_const (0, 0) (q_put 11 9 0 (q_load 1 0 (q_callv 11 f_X8_next 1 (q_const (0, 1) (q_store 0 1 (q_const (0, 0) (q_store 0 2 (q_goto 1))))))))))))))))))
noncomputable def B_X8_parse_1 : qI := q_load 0 2 (q_const (0, 60) (q_cmpgt 2 (q_load 0 1 (q_ifeq 2 (q_load 1 0 (q_get 11 7 0 (q_ifeq 2 (q_load 1 0 (q_callv 11 f_X8_parseCommand 1 (q_store 0 1 (q_iinc 2 (1) (q_goto 1))))))))))))
noncomputable def B_X8_parse_2 : qI := q_load 0 1 (q_retz)
noncomputable def P_X8_parse : qP := [B_X8_parse_0, B_X8_parse_1, B_X8_parse_2]
noncomputable def f_X8_parse : List qV → qA → Option qR := qa_fn P_X8_parse 3
def pc_X8_parse : Nat → Nat := fun j => [0, 28, 56].getD j 0
noncomputable def B_X8_verbOf_0 : qI := q_load 0 1 (q_iflt 1 (q_load 0 1 (q_load 1 0 (q_get 11 4 0 (q_cmpge 1 (q_load 0 1 (q_load 1 0 (q_get 11 2 1 (q_alen (q_cmpge 1 (q_load 1 0 (q_get 11 2 1 (q_load 0 1 (q_ald 110 1 (q_goto 2)))))))))))))))
noncomputable def B_X8_verbOf_1 : qI := q_const (1, -1) (q_goto 2)
noncomputable def B_X8_verbOf_2 : qI := q_ret 1
noncomputable def P_X8_verbOf : qP := [B_X8_verbOf_0, B_X8_verbOf_1, B_X8_verbOf_2]
noncomputable def f_X8_verbOf : List qV → qA → Option qR := qa_fn P_X8_verbOf 2
def pc_X8_verbOf : Nat → Nat := fun j => [0, 30, 31].getD j 0
noncomputable def B_X8_operandOf_0 : qI := q_load 0 1 (q_const (0, 4) (q_imul (q_load 0 2 (q_iadd (q_store 0 3 (q_load 0 3 (q_iflt 1 (q_load 0 3 (q_load 1 0 (q_get 11 3 1 (q_alen (q_cmpge 1 (q_load 1 0 (q_get 11 3 1 (q_load 0 3 (q_ald 101 0 (q_goto 2)))))))))))))))))
noncomputable def B_X8_operandOf_1 : qI := q_const (0, 0) (q_goto 2)
noncomputable def B_X8_operandOf_2 : qI := q_ret 0
noncomputable def P_X8_operandOf : qP := [B_X8_operandOf_0, B_X8_operandOf_1, B_X8_operandOf_2]
noncomputable def f_X8_operandOf : List qV → qA → Option qR := qa_fn P_X8_operandOf 4
def pc_X8_operandOf : Nat → Nat := fun j => [0, 28, 29].getD j 0
noncomputable def B_X9_branchAt_0 : qI := q_load 0 1 (q_iflt 1 (q_load 0 1 (q_load 1 0 (q_get 12 3 1 (q_alen (q_cmpge 1 (q_const (0, 1) (q_goto 2))))))))
noncomputable def B_X9_branchAt_1 : qI := q_const (0, 0) (q_goto 2)
noncomputable def B_X9_branchAt_2 : qI := q_store 0 2 (q_load 0 2 (q_ifeq 3 (q_load 1 0 (q_get 12 3 1 (q_load 0 1 (q_ald (111 + 5) 1 (q_get 5 1 0 (q_ifeq 3 (q_load 1 0 (q_get 12 3 1 (q_load 0 1 (q_ald (111 + 5) 1 (q_goto 4)))))))))))))
noncomputable def B_X9_branchAt_3 : qI := q_const (1, -1) (q_goto 4)
noncomputable def B_X9_branchAt_4 : qI := q_ret 1
noncomputable def P_X9_branchAt : qP := [B_X9_branchAt_0, B_X9_branchAt_1, B_X9_branchAt_2, B_X9_branchAt_3, B_X9_branchAt_4]
noncomputable def f_X9_branchAt : List qV → qA → Option qR := qa_fn P_X9_branchAt 3
def pc_X9_branchAt : Nat → Nat := fun j => [0, 17, 18, 44, 45].getD j 0
noncomputable def B_X9_readerAt_0 : qI := q_load 0 1 (q_iflt 1 (q_load 0 1 (q_load 1 0 (q_get 12 4 1 (q_alen (q_cmpge 1 (q_const (0, 1) (q_goto 2))))))))
noncomputable def B_X9_readerAt_1 : qI := q_const (0, 0) (q_goto 2)
noncomputable def B_X9_readerAt_2 : qI := q_store 0 2 (q_load 0 2 (q_ifeq 3 (q_load 1 0 (q_get 12 4 1 (q_load 0 1 (q_ald (111 + 9) 1 (q_get 9 0 0 (q_ifeq 3 (q_load 1 0 (q_get 12 4 1 (q_load 0 1 (q_ald (111 + 9) 1 (q_goto 4)))))))))))))
noncomputable def B_X9_readerAt_3 : qI := q_const (1, -1) (q_goto 4)
noncomputable def B_X9_readerAt_4 : qI := q_ret 1
noncomputable def P_X9_readerAt : qP := [B_X9_readerAt_0, B_X9_readerAt_1, B_X9_readerAt_2, B_X9_readerAt_3, B_X9_readerAt_4]
noncomputable def f_X9_readerAt : List qV → qA → Option qR := qa_fn P_X9_readerAt 3
def pc_X9_readerAt : Nat → Nat := fun j => [0, 17, 18, 44, 45].getD j 0
noncomputable def B_X11_needBranch_0 : qI := q_load 1 0 (q_get 13 1 1 (q_load 0 1 (q_callv 12 f_X9_branchAt 2 (q_store 1 2 (q_load 1 2 (q_nonnull 1 ((fun ls st a => if st.length ≤ 4 then q_throw 1 ls st a else none))))))))
noncomputable def B_X11_needBranch_1 : qI := q_load 1 2 (q_ret 1)
noncomputable def P_X11_needBranch : qP := [B_X11_needBranch_0, B_X11_needBranch_1]
noncomputable def f_X11_needBranch : List qV → qA → Option qR := qa_fn P_X11_needBranch 3
def pc_X11_needBranch : Nat → Nat := fun j => [0, 21].getD j 0
noncomputable def B_X1_forgetOldest_0 : qI := q_load 1 0 (q_get 4 1 1 (q_const (0, 0) (q_ald (111 + 12) 1 (q_store 1 1 (q_const (0, 1) (q_store 0 2 (q_goto 1)))))))
noncomputable def B_X1_forgetOldest_1 : qI := q_load 0 2 (q_load 1 0 (q_get 4 1 1 (q_alen (q_cmpge 2 (q_load 1 0 (q_get 4 1 1 (q_load 0 2 (q_const (0, 1) (q_isub (q_load 1 0 (q_get 4 1 1 (q_load 0 2 (q_ald (111 + 12) 1 (q_aast 12 (q_iinc 2 (1) (q_goto 1))))))))))))))))
noncomputable def B_X1_forgetOldest_2 : qI := q_load 1 0 (q_get 4 1 1 (q_load 1 0 (q_get 4 1 1 (q_alen (q_const (0, 1) (q_isub (q_load 1 1 (q_aast 12 (q_load 1 0 (q_dup (q_get 4 2 0 (q_const (0, 1) (q_isub (q_put 4 2 0 (q_vret)))))))))))))))
noncomputable def P_X1_forgetOldest : qP := [B_X1_forgetOldest_0, B_X1_forgetOldest_1, B_X1_forgetOldest_2]
noncomputable def f_X1_forgetOldest : List qV → qA → Option qR := qa_fn P_X1_forgetOldest 3
def pc_X1_forgetOldest : Nat → Nat := fun j => [0, 9, 38].getD j 0
noncomputable def B_X2_copyFrom_0 : qI := q_load 1 0 (q_load 1 1 (q_get 5 1 0 (q_putz 5 1 (q_load 1 0 (q_load 1 1 (q_get 5 2 0 (q_put 5 2 0 (q_load 1 0 (q_load 1 1 (q_get 5 3 0 (q_put 5 3 0 (q_load 1 0 (q_load 1 1 (q_get 5 4 0 (q_put 5 4 0 (q_load 1 0 (q_load 1 1 (q_get 5 5 0 (q_put 5 5 0 (q_load 1 0 (q_load 1 1 (q_get 5 6 0 (q_put 5 6 0 (q_load 1 0 (q_load 1 1 (q_get 5 7 0 (q_put 5 7 0 (q_load 1 0 (q_get 5 1 0 (q_goto 1))))))))))))))))))))))))))))))
noncomputable def B_X2_copyFrom_1 : qI := q_ifeq 2 (q_load 1 0 (q_get 5 4 0 (q_iflt 2 (q_load 1 0 (q_get 5 4 0 (q_load 1 0 (q_get 5 5 0 (q_cmpge 2 (q_load 1 0 (q_get 5 5 0 (q_const (0, 512) (q_cmpgt 2 (q_load 1 1 (q_get 5 8 1 (q_load 1 0 (q_get 5 4 0 (q_load 1 0 (q_get 5 8 1 (q_load 1 0 (q_get 5 4 0 (q_load 1 0 (q_get 5 5 0 (q_load 1 0 (q_get 5 4 0 (q_isub (q_copyr 8 (q_goto 2)))))))))))))))))))))))))))
noncomputable def B_X2_copyFrom_2 : qI := q_vret
noncomputable def P_X2_copyFrom : qP := [B_X2_copyFrom_0, B_X2_copyFrom_1, B_X2_copyFrom_2]
noncomputable def f_X2_copyFrom : List qV → qA → Option qR := qa_fn P_X2_copyFrom 2
def pc_X2_copyFrom : Nat → Nat := fun j => [0, 60, 119].getD j 0
noncomputable def B_X3_copyFrom_0 : qI := q_load 1 0 (q_load 1 1 (q_get 6 0 0 (q_put 6 0 0 (q_load 1 0 (q_load 1 1 (q_get 6 1 0 (q_put 6 1 0 (q_load 1 0 (q_load 1 1 (q_get 6 2 0 (q_put 6 2 0 (q_load 1 0 (q_load 1 1 (q_get 6 3 0 (q_put 6 3 0 (q_load 1 0 (q_load 1 1 (q_get 6 4 0 (q_put 6 4 0 (q_load 1 0 (q_load 1 1 (q_get 6 5 0 (q_put 6 5 0 (q_load 1 0 (q_load 1 1 (q_get 6 6 0 (q_put 6 6 0 (q_load 1 1 (q_get 6 7 1 (q_goto 1))))))))))))))))))))))))))))))
noncomputable def B_X3_copyFrom_1 : qI := q_const (0, 0) (q_load 1 0 (q_get 6 7 1 (q_const (0, 0) (q_const (0, 10) (q_copy 101 (q_vret))))))
noncomputable def P_X3_copyFrom : qP := [B_X3_copyFrom_0, B_X3_copyFrom_1]
noncomputable def f_X3_copyFrom : List qV → qA → Option qR := qa_fn P_X3_copyFrom 2
def pc_X3_copyFrom : Nat → Nat := fun j => [0, 60].getD j 0
noncomputable def B_X6_copyFrom_0 : qI := q_load 1 0 (q_load 1 1 (q_get 9 0 0 (q_putz 9 0 (q_load 1 0 (q_load 1 1 (q_get 9 1 0 (q_put 9 1 0 (q_load 1 0 (q_load 1 1 (q_get 9 2 0 (q_put 9 2 0 (q_load 1 0 (q_load 1 1 (q_get 9 3 0 (q_put 9 3 0 (q_load 1 0 (q_load 1 1 (q_get 9 4 0 (q_put 9 4 0 (q_load 1 0 (q_load 1 1 (q_get 9 5 0 (q_put 9 5 0 (q_load 1 0 (q_load 1 1 (q_get 9 6 0 (q_put 9 6 0 (q_load 1 0 (q_load 1 1 (q_goto 1))))))))))))))))))))))))))))))
noncomputable def B_X6_copyFrom_1 : qI := q_get 9 7 0 (q_put 9 7 0 (q_load 1 0 (q_load 1 1 (q_get 9 8 0 (q_put 9 8 0 (q_load 1 0 (q_get 9 0 0 (q_ifeq 2 (q_load 1 0 (q_get 9 9 1 (q_load 1 1 (q_get 9 9 1 (q_callv 6 f_X3_copyFrom 2 (q_goto 2))))))))))))))
noncomputable def B_X6_copyFrom_2 : qI := q_vret
noncomputable def P_X6_copyFrom : qP := [B_X6_copyFrom_0, B_X6_copyFrom_1, B_X6_copyFrom_2]
noncomputable def f_X6_copyFrom : List qV → qA → Option qR := qa_fn P_X6_copyFrom 2
def pc_X6_copyFrom : Nat → Nat := fun j => [0, 58, 90].getD j 0
noncomputable def B_X9_copyFrom_0 : qI := q_load 1 0 (q_load 1 1 (q_get 12 0 0 (q_put 12 0 0 (q_load 1 0 (q_load 1 1 (q_get 12 1 0 (q_put 12 1 0 (q_load 1 1 (q_get 12 2 1 (q_const (0, 0) (q_load 1 0 (q_get 12 2 1 (q_const (0, 0) (q_const (0, 4) (q_copy 101 (q_const (0, 0) (q_store 0 2 (q_goto 1))))))))))))))))))
noncomputable def B_X9_copyFrom_1 : qI := q_load 0 2 (q_const (0, 4) (q_cmpge 2 (q_load 1 0 (q_get 12 3 1 (q_load 0 2 (q_ald (111 + 5) 1 (q_load 1 1 (q_get 12 3 1 (q_load 0 2 (q_ald (111 + 5) 1 (q_callv 5 f_X2_copyFrom 2 (q_iinc 2 (1) (q_goto 1)))))))))))))
noncomputable def B_X9_copyFrom_2 : qI := q_const (0, 0) (q_store 0 2 (q_goto 3))
noncomputable def B_X9_copyFrom_3 : qI := q_load 0 2 (q_const (0, 6) (q_cmpge 4 (q_load 1 0 (q_get 12 4 1 (q_load 0 2 (q_ald (111 + 9) 1 (q_load 1 1 (q_get 12 4 1 (q_load 0 2 (q_ald (111 + 9) 1 (q_callv 9 f_X6_copyFrom 2 (q_iinc 2 (1) (q_goto 3)))))))))))))
noncomputable def B_X9_copyFrom_4 : qI := q_vret
noncomputable def P_X9_copyFrom : qP := [B_X9_copyFrom_0, B_X9_copyFrom_1, B_X9_copyFrom_2, B_X9_copyFrom_3, B_X9_copyFrom_4]
noncomputable def f_X9_copyFrom : List qV → qA → Option qR := qa_fn P_X9_copyFrom 3
def pc_X9_copyFrom : Nat → Nat := fun j => [0, 32, 58, 60, 87].getD j 0
noncomputable def B_X1_begin_0 : qI := q_load 1 0 (q_get 4 0 1 (q_const (0, 0) (q_dup2 (q_ald 101 0 (q_const (0, 1) (q_iadd (q_ast 101 0 (q_load 1 0 (q_get 4 2 0 (q_load 1 0 (q_get 4 1 1 (q_alen (q_cmplt 1 (q_load 1 0 (q_callv 4 f_X1_forgetOldest 1 (q_goto 1))))))))))))))))
noncomputable def B_X1_begin_1 : qI := q_load 1 0 (q_get 4 2 0 (q_iflt 2 (q_load 1 0 (q_get 4 2 0 (q_load 1 0 (q_get 4 1 1 (q_alen (q_cmplt 3 (q_goto 2)))))))))
noncomputable def B_X1_begin_2 : qI := q_vret
noncomputable def B_X1_begin_3 : qI := q_load 1 0 (q_get 4 1 1 (q_load 1 0 (q_get 4 2 0 (q_ald (111 + 12) 1 (q_store 1 2 (q_load 1 2 (q_nonnull 4 (q_new 12 5 z_X9 (q_dup (q_callv 12 f_X9_init 1 (q_store 1 2 (q_load 1 0 (q_get 4 1 1 (q_load 1 0 (q_get 4 2 0 (q_load 1 2 (q_aast 12 (q_goto 4))))))))))))))))))
noncomputable def B_X1_begin_4 : qI := q_load 1 2 (q_load 1 1 (q_callv 12 f_X9_copyFrom 2 (q_load 1 0 (q_dup (q_get 4 2 0 (q_const (0, 1) (q_iadd (q_put 4 2 0 (q_vret)))))))))
noncomputable def P_X1_begin : qP := [B_X1_begin_0, B_X1_begin_1, B_X1_begin_2, B_X1_begin_3, B_X1_begin_4]
noncomputable def f_X1_begin : List qV → qA → Option qR := qa_fn P_X1_begin 3
def pc_X1_begin : Nat → Nat := fun j => [0, 26, 45, 46, 78].getD j 0
noncomputable def B_X5_init_0 : qI := q_load 1 0 (q_obj (q_load 1 0 (q_load 0 1 (q_put 8 0 0 (q_load 1 0 (q_load 0 2 (q_put 8 1 0 (q_load 1 0 (q_load 0 3 (q_put 8 2 0 (q_load 1 0 (q_load 0 4 (q_put 8 3 0 (q_vret))))))))))))))
noncomputable def P_X5_init : qP := [B_X5_init_0]
noncomputable def f_X5_init : List qV → qA → Option qR := qa_fn P_X5_init 5
def pc_X5_init : Nat → Nat := fun j => [0].getD j 0
noncomputable def B_X2_add_0 : qI := q_load 1 1 (q_null 1 (q_load 1 0 (q_get 5 5 0 (q_iflt 1 (q_load 1 0 (q_get 5 5 0 (q_load 1 0 (q_get 5 8 1 (q_alen (q_cmpge 1 (q_load 1 0 (q_get 5 8 1 (q_load 1 0 (q_get 5 5 0 (q_load 1 1 (q_aast 8 (q_load 1 0 (q_dup (q_get 5 5 0 (q_const (0, 1) (q_iadd (q_put 5 5 0 (q_load 1 0 (q_dup (q_get 5 6 0 (q_load 1 1 (q_get 8 2 0 (q_iadd (q_put 5 6 0 (q_goto 1))))))))))))))))))))))))))))))
noncomputable def B_X2_add_1 : qI := q_vret
noncomputable def P_X2_add : qP := [B_X2_add_0, B_X2_add_1]
noncomputable def f_X2_add : List qV → qA → Option qR := qa_fn P_X2_add 2
def pc_X2_add : Nat → Nat := fun j => [0, 56].getD j 0
noncomputable def B_X2_at_0 : qI := q_load 0 1 (q_load 1 0 (q_get 5 4 0 (q_cmplt 1 (q_load 0 1 (q_load 1 0 (q_get 5 5 0 (q_cmpge 1 (q_const (0, 1) (q_goto 2)))))))))
noncomputable def B_X2_at_1 : qI := q_const (0, 0) (q_goto 2)
noncomputable def B_X2_at_2 : qI := q_store 0 2 (q_load 0 2 (q_ifeq 3 (q_load 0 1 (q_iflt 3 (q_load 0 1 (q_load 1 0 (q_get 5 8 1 (q_alen (q_cmpge 3 (q_load 1 0 (q_get 5 8 1 (q_load 0 1 (q_ald (111 + 8) 1 (q_goto 4))))))))))))))
noncomputable def B_X2_at_3 : qI := q_const (1, -1) (q_goto 4)
noncomputable def B_X2_at_4 : qI := q_ret 1
noncomputable def P_X2_at : qP := [B_X2_at_0, B_X2_at_1, B_X2_at_2, B_X2_at_3, B_X2_at_4]
noncomputable def f_X2_at : List qV → qA → Option qR := qa_fn P_X2_at 3
def pc_X2_at : Nat → Nat := fun j => [0, 20, 21, 48, 49].getD j 0
noncomputable def B_X7_valueOf_0 : qI := q_load 0 1 (q_iflt 1 (q_load 0 1 (q_load 1 0 (q_get 10 0 1 (q_alen (q_cmpge 1 (q_load 1 0 (q_get 10 0 1 (q_load 0 1 (q_ald 101 0 (q_goto 2)))))))))))
noncomputable def B_X7_valueOf_1 : qI := q_const (0, 0) (q_goto 2)
noncomputable def B_X7_valueOf_2 : qI := q_ret 0
noncomputable def P_X7_valueOf : qP := [B_X7_valueOf_0, B_X7_valueOf_1, B_X7_valueOf_2]
noncomputable def f_X7_valueOf : List qV → qA → Option qR := qa_fn P_X7_valueOf 2
def pc_X7_valueOf : Nat → Nat := fun j => [0, 22, 23].getD j 0
noncomputable def B_X6_isIn_0 : qI := q_load 1 0 (q_get 9 0 0 (q_ifeq 1 (q_load 1 0 (q_get 9 1 0 (q_load 1 1 (q_get 5 0 0 (q_cmpne 1 (q_const (0, 1) (q_goto 2)))))))))
noncomputable def B_X6_isIn_1 : qI := q_const (0, 0) (q_goto 2)
noncomputable def B_X6_isIn_2 : qI := q_retz
noncomputable def P_X6_isIn : qP := [B_X6_isIn_0, B_X6_isIn_1, B_X6_isIn_2]
noncomputable def f_X6_isIn : List qV → qA → Option qR := qa_fn P_X6_isIn 2
def pc_X6_isIn : Nat → Nat := fun j => [0, 22, 23].getD j 0
noncomputable def B_X6_isCovered_0 : qI := q_load 1 0 (q_get 9 4 0 (q_const (0, -1) (q_cmpne 1 (q_load 0 1 (q_load 1 0 (q_get 9 3 0 (q_isub (q_load 0 2 (q_cmpgt 2 (q_goto 1))))))))))
noncomputable def B_X6_isCovered_1 : qI := q_const (0, 1) (q_goto 3)
noncomputable def B_X6_isCovered_2 : qI := q_const (0, 0) (q_goto 3)
noncomputable def B_X6_isCovered_3 : qI := q_retz
noncomputable def P_X6_isCovered : qP := [B_X6_isCovered_0, B_X6_isCovered_1, B_X6_isCovered_2, B_X6_isCovered_3]
noncomputable def f_X6_isCovered : List qV → qA → Option qR := qa_fn P_X6_isCovered 3
def pc_X6_isCovered : Nat → Nat := fun j => [0, 18, 22, 23].getD j 0
noncomputable def B_X9_holderOf_0 : qI := q_load 1 1 (q_get 5 4 0 (q_load 1 1 (q_get 5 5 0 (q_cmplt 1 (q_const (0, -1) (q_ret 0))))))
noncomputable def B_X9_holderOf_1 : qI := q_load 1 2 (q_const (0, 3) (q_callv 10 f_X7_valueOf 2 (q_store 0 3 (q_const (0, 0) (q_store 0 4 (q_goto 2))))))
noncomputable def B_X9_holderOf_2 : qI := q_load 0 4 (q_load 1 0 (q_get 12 4 1 (q_alen (q_cmpge 6 (q_load 1 0 (q_get 12 4 1 (q_load 0 4 (q_ald (111 + 9) 1 (q_store 1 5 (q_load 1 5 (q_load 1 1 (q_callv 9 f_X6_isIn 2 (q_ifeq 3 (q_load 1 5 (q_get 9 2 0 (q_load 1 1 (q_get 5 4 0 (q_cmpgt 3 (q_const (0, 1) (q_goto 4))))))))))))))))))))
noncomputable def B_X9_holderOf_3 : qI := q_const (0, 0) (q_goto 4)
noncomputable def B_X9_holderOf_4 : qI := q_store 0 6 (q_load 0 6 (q_ifeq 5 (q_load 1 5 (q_load 1 0 (q_get 12 0 0 (q_load 0 3 (q_callv 9 f_X6_isCovered 3 (q_ifeq 5 (q_load 0 4 (q_ret 0))))))))))
noncomputable def B_X9_holderOf_5 : qI := q_iinc 4 (1) (q_goto 2)
noncomputable def B_X9_holderOf_6 : qI := q_const (0, -1) (q_ret 0)
noncomputable def P_X9_holderOf : qP := [B_X9_holderOf_0, B_X9_holderOf_1, B_X9_holderOf_2, B_X9_holderOf_3, B_X9_holderOf_4, B_X9_holderOf_5, B_X9_holderOf_6]
noncomputable def f_X9_holderOf : List qV → qA → Option qR := qa_fn P_X9_holderOf 7
def pc_X9_holderOf : Nat → Nat := fun j => [0, 13, 22, 66, 67, 90, 96].getD j 0
noncomputable def B_X9_isReadByAll_0 : qI := q_const (0, 0) (q_store 0 2 (q_load 1 0 (q_get 12 4 1 (q_store 1 3 (q_load 1 3 (q_alen (q_store 0 4 (q_const (0, 0) (q_store 0 5 (q_goto 1))))))))))
noncomputable def B_X9_isReadByAll_1 : qI := q_load 0 5 (q_load 0 4 (q_cmpge 3 (q_load 1 3 (q_load 0 5 (q_ald (111 + 9) 1 (q_store 1 6 (q_load 1 6 (q_load 1 1 (q_callv 9 f_X6_isIn 2 (q_ifeq 2 (q_const (0, 1) (q_store 0 2 (q_load 1 6 (q_get 9 2 0 (q_load 1 1 (q_get 5 4 0 (q_cmpgt 2 (q_const (0, 0) (q_retz)))))))))))))))))))
noncomputable def B_X9_isReadByAll_2 : qI := q_iinc 5 (1) (q_goto 1)
noncomputable def B_X9_isReadByAll_3 : qI := q_load 0 2 (q_retz)
noncomputable def P_X9_isReadByAll : qP := [B_X9_isReadByAll_0, B_X9_isReadByAll_1, B_X9_isReadByAll_2, B_X9_isReadByAll_3]
noncomputable def f_X9_isReadByAll : List qV → qA → Option qR := qa_fn P_X9_isReadByAll 7
def pc_X9_isReadByAll : Nat → Nat := fun j => [0, 14, 52, 58].getD j 0
noncomputable def B_X9_causeFor_0 : qI := q_load 1 1 (q_load 1 1 (q_get 5 4 0 (q_callv 5 f_X2_at 2 (q_store 1 3 (q_load 1 3 (q_nonnull 1 (q_const (0, -1) (q_ret 0))))))))
noncomputable def B_X9_causeFor_1 : qI := q_load 1 1 (q_get 5 6 0 (q_load 1 2 (q_const (0, 1) (q_callv 10 f_X7_valueOf 2 (q_cmple 2 (q_const (0, 0) (q_ret 0)))))))
noncomputable def B_X9_causeFor_2 : qI := q_load 1 2 (q_const (0, 2) (q_callv 10 f_X7_valueOf 2 (q_store 0 4 (q_load 1 0 (q_load 1 1 (q_load 1 2 (q_callv 12 f_X9_holderOf 3 (q_const (0, -1) (q_cmpne 3 (q_const (0, 1) (q_goto 4)))))))))))
noncomputable def B_X9_causeFor_3 : qI := q_const (0, 0) (q_goto 4)
noncomputable def B_X9_causeFor_4 : qI := q_store 0 5 (q_load 0 5 (q_ifeq 5 (q_load 1 1 (q_get 5 6 0 (q_load 1 2 (q_const (0, 0) (q_callv 10 f_X7_valueOf 2 (q_cmple 5 (q_const (0, 1) (q_ret 0))))))))))
noncomputable def B_X9_causeFor_5 : qI := q_load 0 5 (q_ifeq 6 (q_load 0 4 (q_ifle 6 (q_load 1 0 (q_get 12 0 0 (q_load 1 3 (q_get 8 0 0 (q_isub (q_load 0 4 (q_cmple 6 (q_const (0, 2) (q_ret 0))))))))))))
noncomputable def B_X9_causeFor_6 : qI := q_load 1 2 (q_const (0, 6) (q_callv 10 f_X7_valueOf 2 (q_const (0, 1) (q_cmpne 7 (q_load 1 0 (q_load 1 1 (q_callv 12 f_X9_isReadByAll 2 (q_ifeq 7 (q_const (0, 3) (q_goto 8))))))))))
noncomputable def B_X9_causeFor_7 : qI := q_const (0, -1) (q_goto 8)
noncomputable def B_X9_causeFor_8 : qI := q_ret 0
noncomputable def P_X9_causeFor : qP := [B_X9_causeFor_0, B_X9_causeFor_1, B_X9_causeFor_2, B_X9_causeFor_3, B_X9_causeFor_4, B_X9_causeFor_5, B_X9_causeFor_6, B_X9_causeFor_7, B_X9_causeFor_8]
noncomputable def f_X9_causeFor : List qV → qA → Option qR := qa_fn P_X9_causeFor 6
def pc_X9_causeFor : Nat → Nat := fun j => [0, 15, 29, 50, 51, 72, 98, 120, 121].getD j 0
noncomputable def B_X2_cutFirst_0 : qI := q_load 1 0 (q_dup (q_get 5 6 0 (q_load 1 1 (q_get 8 2 0 (q_isub (q_put 5 6 0 (q_load 1 0 (q_dup (q_get 5 4 0 (q_const (0, 1) (q_iadd (q_put 5 4 0 (q_load 1 0 (q_dup (q_get 5 7 0 (q_const (0, 1) (q_iadd (q_put 5 7 0 (q_vret)))))))))))))))))))
noncomputable def P_X2_cutFirst : qP := [B_X2_cutFirst_0]
noncomputable def f_X2_cutFirst : List qV → qA → Option qR := qa_fn P_X2_cutFirst 2
def pc_X2_cutFirst : Nat → Nat := fun j => [0].getD j 0
noncomputable def B_X3_add_0 : qI := q_load 1 0 (q_get 6 0 0 (q_ifne 1 (q_const (0, 1) (q_goto 2))))
noncomputable def B_X3_add_1 : qI := q_const (0, 0) (q_goto 2)
noncomputable def B_X3_add_2 : qI := q_store 0 3 (q_load 1 0 (q_load 0 3 (q_ifne 3 (q_load 1 1 (q_get 8 3 0 (q_load 1 0 (q_get 6 3 0 (q_cmpge 4 (q_goto 3)))))))))
noncomputable def B_X3_add_3 : qI := q_load 1 1 (q_get 8 3 0 (q_goto 5))
noncomputable def B_X3_add_4 : qI := q_load 1 0 (q_get 6 3 0 (q_goto 5))
noncomputable def B_X3_add_5 : qI := q_put 6 3 0 (q_load 1 0 (q_load 0 3 (q_ifne 6 (q_load 1 1 (q_get 8 3 0 (q_load 1 0 (q_get 6 4 0 (q_cmple 7 (q_goto 6)))))))))
noncomputable def B_X3_add_6 : qI := q_load 1 1 (q_get 8 3 0 (q_goto 8))
noncomputable def B_X3_add_7 : qI := q_load 1 0 (q_get 6 4 0 (q_goto 8))
noncomputable def B_X3_add_8 : qI := q_put 6 4 0 (q_load 1 0 (q_load 0 3 (q_ifeq 9 (q_load 0 2 (q_goto 10)))))
noncomputable def B_X3_add_9 : qI := q_load 1 0 (q_get 6 5 0 (q_goto 10))
noncomputable def B_X3_add_10 : qI := q_put 6 5 0 (q_load 1 0 (q_load 0 2 (q_put 6 6 0 (q_load 1 0 (q_dup (q_get 6 0 0 (q_const (0, 1) (q_iadd (q_put 6 0 0 (q_load 1 0 (q_dup (q_get 6 1 0 (q_load 1 1 (q_get 8 2 0 (q_iadd (q_put 6 1 0 (q_load 1 0 (q_dup (q_get 6 2 0 (q_load 1 1 (q_get 8 3 0 (q_iadd (q_put 6 2 0 (q_load 1 1 (q_get 8 1 0 (q_iflt 12 (q_load 1 1 (q_get 8 1 0 (q_load 1 0 (q_goto 11))))))))))))))))))))))))))))))
noncomputable def B_X3_add_11 : qI := q_get 6 7 1 (q_alen (q_cmpge 12 (q_load 1 0 (q_get 6 7 1 (q_load 1 1 (q_get 8 1 0 (q_load 1 1 (q_get 8 3 0 (q_ast 101 0 (q_goto 12))))))))))
noncomputable def B_X3_add_12 : qI := q_vret
noncomputable def P_X3_add : qP := [B_X3_add_0, B_X3_add_1, B_X3_add_2, B_X3_add_3, B_X3_add_4, B_X3_add_5, B_X3_add_6, B_X3_add_7, B_X3_add_8, B_X3_add_9, B_X3_add_10, B_X3_add_11, B_X3_add_12]
noncomputable def f_X3_add : List qV → qA → Option qR := qa_fn P_X3_add 4
def pc_X3_add : Nat → Nat := fun j => [0, 11, 12, 29, 36, 40, 59, 66, 70, 82, 86, 142, 162].getD j 0
noncomputable def B_X9_cutOne_0 : qI := q_load 1 1 (q_get 5 4 0 (q_store 0 2 (q_load 1 1 (q_load 0 2 (q_callv 5 f_X2_at 2 (q_store 1 3 (q_load 1 3 (q_nonnull 1 (q_vret)))))))))
noncomputable def B_X9_cutOne_1 : qI := q_load 1 1 (q_load 1 3 (q_callv 5 f_X2_cutFirst 2 (q_load 1 0 (q_get 12 4 1 (q_store 1 4 (q_load 1 4 (q_alen (q_store 0 5 (q_const (0, 0) (q_store 0 6 (q_goto 2)))))))))))
noncomputable def B_X9_cutOne_2 : qI := q_load 0 6 (q_load 0 5 (q_cmpge 4 (q_load 1 4 (q_load 0 6 (q_ald (111 + 9) 1 (q_store 1 7 (q_load 1 7 (q_load 1 1 (q_callv 9 f_X6_isIn 2 (q_ifeq 3 (q_load 1 7 (q_get 9 2 0 (q_load 0 2 (q_cmpgt 3 (q_load 1 7 (q_get 9 9 1 (q_load 1 3 (q_load 0 2 (q_callv 6 f_X3_add 3 (q_load 1 7 (q_load 1 1 (q_get 5 4 0 (q_put 9 2 0 (q_goto 3))))))))))))))))))))))))
noncomputable def B_X9_cutOne_3 : qI := q_iinc 6 (1) (q_goto 2)
noncomputable def B_X9_cutOne_4 : qI := q_vret
noncomputable def P_X9_cutOne : qP := [B_X9_cutOne_0, B_X9_cutOne_1, B_X9_cutOne_2, B_X9_cutOne_3, B_X9_cutOne_4]
noncomputable def f_X9_cutOne : List qV → qA → Option qR := qa_fn P_X9_cutOne 8
def pc_X9_cutOne : Nat → Nat := fun j => [0, 16, 35, 86, 92].getD j 0
noncomputable def B_X9_cutBehind_0 : qI := q_load 1 1 (q_get 5 7 0 (q_store 0 3 (q_load 1 1 (q_get 5 5 0 (q_load 1 1 (q_get 5 4 0 (q_isub (q_store 0 4 (q_goto 1)))))))))
noncomputable def B_X9_cutBehind_1 : qI := q_load 0 4 (q_ifle 3 (q_load 1 0 (q_load 1 1 (q_load 1 2 (q_callv 12 f_X9_causeFor 3 (q_store 0 5 (q_load 0 5 (q_iflt 3 (q_load 0 5 (q_load 1 0 (q_get 12 2 1 (q_alen (q_cmplt 2 (q_goto 3))))))))))))))
noncomputable def B_X9_cutBehind_2 : qI := q_load 1 0 (q_get 12 2 1 (q_load 0 5 (q_dup2 (q_ald 101 0 (q_const (0, 1) (q_iadd (q_ast 101 0 (q_load 1 0 (q_load 1 1 (q_callv 12 f_X9_cutOne 2 (q_iinc 4 (-1) (q_goto 1))))))))))))
noncomputable def B_X9_cutBehind_3 : qI := q_load 1 1 (q_get 5 7 0 (q_load 0 3 (q_isub (q_ret 0))))
noncomputable def P_X9_cutBehind : qP := [B_X9_cutBehind_0, B_X9_cutBehind_1, B_X9_cutBehind_2, B_X9_cutBehind_3]
noncomputable def f_X9_cutBehind : List qV → qA → Option qR := qa_fn P_X9_cutBehind 6
def pc_X9_cutBehind : Nat → Nat := fun j => [0, 16, 47, 69].getD j 0
noncomputable def B_X11_append_0 : qI := q_load 1 0 (q_load 0 1 (q_callv 13 f_X11_needBranch 2 (q_store 1 5 (q_load 0 2 (q_const (0, 0) (q_const (0, 9) (q_call f_X11_needRange 3 (q_load 0 3 (q_const (0, 1) (q_const (0, 9) (q_call f_X11_needRange 3 (q_load 0 4 (q_const (0, -99) (q_const (0, 99) (q_call f_X11_needRange 3 (q_load 1 0 (q_get 13 4 1 (q_load 1 0 (q_get 13 1 1 (q_callv 4 f_X1_begin 2 (q_load 1 5 (q_get 5 5 0 (q_store 0 6 (q_load 1 5 (q_new 8 4 z_X5 (q_dup (q_load 1 0 (q_get 13 1 1 (q_get 12 0 0 (q_goto 1))))))))))))))))))))))))))))))
noncomputable def B_X11_append_1 : qI := q_load 0 2 (q_load 0 3 (q_load 0 4 (q_callv 8 f_X5_init 5 (q_callv 5 f_X2_add 2 (q_load 1 0 (q_get 13 1 1 (q_dup (q_get 12 1 0 (q_const (0, 1) (q_iadd (q_put 12 1 0 (q_load 1 0 (q_get 13 1 1 (q_load 1 5 (q_load 1 0 (q_get 13 0 1 (q_callv 12 f_X9_cutBehind 3 (q_pop (q_load 0 6 (q_ret 0))))))))))))))))))))
noncomputable def P_X11_append : qP := [B_X11_append_0, B_X11_append_1]
noncomputable def f_X11_append : List qV → qA → Option qR := qa_fn P_X11_append 7
def pc_X11_append : Nat → Nat := fun j => [0, 61].getD j 0
noncomputable def B_X9_freeReader_0 : qI := q_const (0, 0) (q_store 0 1 (q_goto 1))
noncomputable def B_X9_freeReader_1 : qI := q_load 0 1 (q_load 1 0 (q_get 12 4 1 (q_alen (q_cmpge 3 (q_load 1 0 (q_get 12 4 1 (q_load 0 1 (q_ald (111 + 9) 1 (q_get 9 0 0 (q_ifne 2 (q_load 0 1 (q_ret 0))))))))))))
noncomputable def B_X9_freeReader_2 : qI := q_iinc 1 (1) (q_goto 1)
noncomputable def B_X9_freeReader_3 : qI := q_const (0, -1) (q_ret 0)
noncomputable def P_X9_freeReader : qP := [B_X9_freeReader_0, B_X9_freeReader_1, B_X9_freeReader_2, B_X9_freeReader_3]
noncomputable def f_X9_freeReader : List qV → qA → Option qR := qa_fn P_X9_freeReader 2
def pc_X9_freeReader : Nat → Nat := fun j => [0, 2, 25, 31].getD j 0
noncomputable def B_X1_refuse_0 : qI := q_load 0 1 (q_iflt 1 (q_load 0 1 (q_load 1 0 (q_get 4 0 1 (q_alen (q_cmpge 1 (q_load 1 0 (q_get 4 0 1 (q_load 0 1 (q_dup2 (q_ald 101 0 (q_const (0, 1) (q_iadd (q_ast 101 0 (q_goto 1)))))))))))))))
noncomputable def B_X1_refuse_1 : qI := q_const (0, -10) (q_load 0 1 (q_isub (q_ret 0)))
noncomputable def P_X1_refuse : qP := [B_X1_refuse_0, B_X1_refuse_1]
noncomputable def f_X1_refuse : List qV → qA → Option qR := qa_fn P_X1_refuse 2
def pc_X1_refuse : Nat → Nat := fun j => [0, 23].getD j 0
noncomputable def B_X3_clear_0 : qI := q_load 1 0 (q_const (0, 0) (q_put 6 0 0 (q_load 1 0 (q_const (0, 0) (q_put 6 1 0 (q_load 1 0 (q_const (0, 0) (q_put 6 2 0 (q_load 1 0 (q_const (0, -1000) (q_put 6 3 0 (q_load 1 0 (q_const (0, -1000) (q_put 6 4 0 (q_load 1 0 (q_const (0, -1) (q_put 6 5 0 (q_load 1 0 (q_const (0, -1) (q_put 6 6 0 (q_const (0, 0) (q_store 0 1 (q_goto 1)))))))))))))))))))))))
noncomputable def B_X3_clear_1 : qI := q_load 0 1 (q_load 1 0 (q_get 6 7 1 (q_alen (q_cmpge 2 (q_load 1 0 (q_get 6 7 1 (q_load 0 1 (q_const (0, -1000) (q_ast 101 0 (q_iinc 1 (1) (q_goto 1)))))))))))
noncomputable def B_X3_clear_2 : qI := q_vret
noncomputable def P_X3_clear : qP := [B_X3_clear_0, B_X3_clear_1, B_X3_clear_2]
noncomputable def f_X3_clear : List qV → qA → Option qR := qa_fn P_X3_clear 2
def pc_X3_clear : Nat → Nat := fun j => [0, 41, 65].getD j 0
noncomputable def B_X6_begin_0 : qI := q_load 1 0 (q_const (0, 1) (q_putz 9 0 (q_load 1 0 (q_load 0 1 (q_put 9 1 0 (q_load 1 0 (q_load 0 2 (q_put 9 2 0 (q_load 1 0 (q_load 0 3 (q_put 9 3 0 (q_load 1 0 (q_const (0, -1) (q_put 9 4 0 (q_load 1 0 (q_const (0, 0) (q_put 9 5 0 (q_load 1 0 (q_const (0, 0) (q_put 9 6 0 (q_load 1 0 (q_const (0, 0) (q_put 9 7 0 (q_load 1 0 (q_const (0, 0) (q_put 9 8 0 (q_load 1 0 (q_get 9 9 1 (q_callv 6 f_X3_clear 1 (q_goto 1))))))))))))))))))))))))))))))
noncomputable def B_X6_begin_1 : qI := q_vret
noncomputable def P_X6_begin : qP := [B_X6_begin_0, B_X6_begin_1]
noncomputable def f_X6_begin : List qV → qA → Option qR := qa_fn P_X6_begin 4
def pc_X6_begin : Nat → Nat := fun j => [0, 52].getD j 0
noncomputable def B_X9_seat_0 : qI := q_load 0 1 (q_iflt 1 (q_load 0 1 (q_load 1 0 (q_get 12 4 1 (q_alen (q_cmpge 1 (q_load 1 0 (q_get 12 4 1 (q_load 0 1 (q_ald (111 + 9) 1 (q_load 1 2 (q_get 5 0 0 (q_load 0 3 (q_load 1 0 (q_get 12 0 0 (q_callv 9 f_X6_begin 4 (q_goto 1)))))))))))))))))
noncomputable def B_X9_seat_1 : qI := q_vret
noncomputable def P_X9_seat : qP := [B_X9_seat_0, B_X9_seat_1]
noncomputable def f_X9_seat : List qV → qA → Option qR := qa_fn P_X9_seat 4
def pc_X9_seat : Nat → Nat := fun j => [0, 31].getD j 0
noncomputable def B_X11_join_0 : qI := q_load 1 0 (q_load 0 1 (q_callv 13 f_X11_needBranch 2 (q_store 1 3 (q_load 1 0 (q_get 13 1 1 (q_callv 12 f_X9_freeReader 1 (q_store 0 4 (q_load 0 4 (q_const (0, -1) (q_cmpne 1 (q_load 1 0 (q_get 13 4 1 (q_const (0, 1) (q_callv 4 f_X1_refuse 2 (q_ret 0)))))))))))))))
noncomputable def B_X11_join_1 : qI := q_load 1 0 (q_get 13 4 1 (q_load 1 0 (q_get 13 1 1 (q_callv 4 f_X1_begin 2 (q_load 1 0 (q_get 13 1 1 (q_load 0 4 (q_load 1 3 (q_load 0 2 (q_ifeq 2 (q_load 1 3 (q_get 5 5 0 (q_goto 3)))))))))))))
noncomputable def B_X11_join_2 : qI := q_load 1 3 (q_get 5 4 0 (q_goto 3))
noncomputable def B_X11_join_3 : qI := q_callv 12 f_X9_seat 4 (q_load 0 4 (q_ret 0))
noncomputable def P_X11_join : qP := [B_X11_join_0, B_X11_join_1, B_X11_join_2, B_X11_join_3]
noncomputable def f_X11_join : List qV → qA → Option qR := qa_fn P_X11_join 5
def pc_X11_join : Nat → Nat := fun j => [0, 30, 59, 63].getD j 0
noncomputable def B_X11_needReader_0 : qI := q_load 1 0 (q_get 13 1 1 (q_load 0 1 (q_callv 12 f_X9_readerAt 2 (q_store 1 2 (q_load 1 2 (q_nonnull 1 ((fun ls st a => if st.length ≤ 4 then q_throw 1 ls st a else none))))))))
noncomputable def B_X11_needReader_1 : qI := q_load 1 2 (q_ret 1)
noncomputable def P_X11_needReader : qP := [B_X11_needReader_0, B_X11_needReader_1]
noncomputable def f_X11_needReader : List qV → qA → Option qR := qa_fn P_X11_needReader 3
def pc_X11_needReader : Nat → Nat := fun j => [0, 21].getD j 0
noncomputable def B_X9_homeOf_0 : qI := q_load 1 1 (q_get 9 1 0 (q_store 0 2 (q_load 1 0 (q_get 12 3 1 (q_load 0 2 (q_iflt 1 (q_load 0 2 (q_load 1 0 (q_get 12 3 1 (q_alen (q_cmpge 1 (q_load 0 2 (q_goto 2)))))))))))))
noncomputable def B_X9_homeOf_1 : qI := q_const (0, 0) (q_goto 2)
noncomputable def B_X9_homeOf_2 : qI := q_ald (111 + 5) 1 (q_ret 1)
noncomputable def P_X9_homeOf : qP := [B_X9_homeOf_0, B_X9_homeOf_1, B_X9_homeOf_2]
noncomputable def f_X9_homeOf : List qV → qA → Option qR := qa_fn P_X9_homeOf 3
def pc_X9_homeOf : Nat → Nat := fun j => [0, 26, 27].getD j 0
noncomputable def B_X4_takeEntries_0 : qI := q_load 1 0 (q_load 0 2 (q_put 7 2 0 (q_load 1 0 (q_const (0, 0) (q_put 7 3 0 (q_const (0, 0) (q_store 0 4 (q_goto 1))))))))
noncomputable def B_X4_takeEntries_1 : qI := q_load 0 4 (q_load 0 3 (q_cmpge 3 (q_load 0 4 (q_load 1 0 (q_get 7 4 1 (q_alen (q_cmpge 3 (q_load 1 1 (q_load 0 2 (q_load 0 4 (q_iadd (q_callv 5 f_X2_at 2 (q_store 1 5 (q_load 1 5 (q_nonnull 2 (q_goto 3))))))))))))))))
noncomputable def B_X4_takeEntries_2 : qI := q_load 1 0 (q_get 7 4 1 (q_load 0 4 (q_load 1 5 (q_aast 8 (q_load 1 0 (q_dup (q_get 7 3 0 (q_const (0, 1) (q_iadd (q_put 7 3 0 (q_iinc 4 (1) (q_goto 1))))))))))))
noncomputable def B_X4_takeEntries_3 : qI := q_vret
noncomputable def P_X4_takeEntries : qP := [B_X4_takeEntries_0, B_X4_takeEntries_1, B_X4_takeEntries_2, B_X4_takeEntries_3]
noncomputable def f_X4_takeEntries : List qV → qA → Option qR := qa_fn P_X4_takeEntries 6
def pc_X4_takeEntries : Nat → Nat := fun j => [0, 13, 47, 72].getD j 0
noncomputable def B_X4_take_0 : qI := q_load 1 0 (q_load 1 1 (q_get 9 9 1 (q_get 6 0 0 (q_ifle 1 (q_const (0, 1) (q_goto 2))))))
noncomputable def B_X4_take_1 : qI := q_const (0, 0) (q_goto 2)
noncomputable def B_X4_take_2 : qI := q_putz 7 0 (q_load 1 0 (q_get 7 0 0 (q_ifeq 3 (q_load 1 0 (q_get 7 1 1 (q_load 1 1 (q_get 9 9 1 (q_callv 6 f_X3_copyFrom 2 (q_load 1 1 (q_get 9 9 1 (q_callv 6 f_X3_clear 1 (q_load 1 1 (q_dup (q_get 9 8 0 (q_const (0, 1) (q_iadd (q_put 9 8 0 (q_goto 3))))))))))))))))))
noncomputable def B_X4_take_3 : qI := q_load 1 0 (q_load 1 2 (q_load 1 1 (q_get 9 2 0 (q_load 1 0 (q_get 7 0 0 (q_ifeq 4 (q_load 0 3 (q_const (0, 1) (q_isub (q_goto 5))))))))))
noncomputable def B_X4_take_4 : qI := q_load 0 3 (q_goto 5)
noncomputable def B_X4_take_5 : qI := q_callv 7 f_X4_takeEntries 4 (q_load 1 1 (q_dup (q_get 9 2 0 (q_load 1 0 (q_get 7 3 0 (q_iadd (q_put 9 2 0 (q_load 1 1 (q_dup (q_get 9 7 0 (q_load 1 0 (q_get 7 3 0 (q_iadd (q_put 9 7 0 (q_vret)))))))))))))))
noncomputable def P_X4_take : qP := [B_X4_take_0, B_X4_take_1, B_X4_take_2, B_X4_take_3, B_X4_take_4, B_X4_take_5]
noncomputable def f_X4_take : List qV → qA → Option qR := qa_fn P_X4_take 4
def pc_X4_take : Nat → Nat := fun j => [0, 15, 16, 54, 73, 74].getD j 0
noncomputable def B_X6_comeBack_0 : qI := q_load 1 0 (q_load 0 1 (q_put 9 3 0 (q_load 1 0 (q_get 9 4 0 (q_const (0, -1) (q_cmpeq 1 (q_load 1 0 (q_const (0, -1) (q_put 9 4 0 (q_load 1 0 (q_dup (q_get 9 5 0 (q_const (0, 1) (q_iadd (q_put 9 5 0 (q_goto 1))))))))))))))))
noncomputable def B_X6_comeBack_1 : qI := q_vret
noncomputable def P_X6_comeBack : qP := [B_X6_comeBack_0, B_X6_comeBack_1]
noncomputable def f_X6_comeBack : List qV → qA → Option qR := qa_fn P_X6_comeBack 2
def pc_X6_comeBack : Nat → Nat := fun j => [0, 28].getD j 0
noncomputable def B_X4_itemCount_0 : qI := q_load 1 0 (q_get 7 3 0 (q_load 1 0 (q_get 7 0 0 (q_ifeq 1 (q_const (0, 1) (q_goto 2))))))
noncomputable def B_X4_itemCount_1 : qI := q_const (0, 0) (q_goto 2)
noncomputable def B_X4_itemCount_2 : qI := q_iadd (q_ret 0)
noncomputable def P_X4_itemCount : qP := [B_X4_itemCount_0, B_X4_itemCount_1, B_X4_itemCount_2]
noncomputable def f_X4_itemCount : List qV → qA → Option qR := qa_fn P_X4_itemCount 1
def pc_X4_itemCount : Nat → Nat := fun j => [0, 15, 16].getD j 0
noncomputable def B_X11_read_0 : qI := q_load 1 0 (q_load 0 1 (q_callv 13 f_X11_needReader 2 (q_store 1 3 (q_load 0 2 (q_const (0, 1) (q_const (0, 99) (q_call f_X11_needRange 3 (q_load 1 0 (q_get 13 1 1 (q_load 1 3 (q_callv 12 f_X9_homeOf 2 (q_store 1 4 (q_load 1 3 (q_get 9 9 1 (q_get 6 0 0 (q_ifne 1 (q_load 1 3 (q_get 9 2 0 (q_load 1 4 (q_get 5 5 0 (q_cmplt 1 (q_load 1 0 (q_get 13 4 1 (q_const (0, 10) (q_callv 4 f_X1_refuse 2 (q_ret 0))))))))))))))))))))))))))
noncomputable def B_X11_read_1 : qI := q_load 1 0 (q_get 13 4 1 (q_load 1 0 (q_get 13 1 1 (q_callv 4 f_X1_begin 2 (q_load 1 0 (q_get 13 5 1 (q_load 1 3 (q_load 1 4 (q_load 0 2 (q_callv 7 f_X4_take 4 (q_load 1 3 (q_load 1 0 (q_get 13 1 1 (q_get 12 0 0 (q_callv 9 f_X6_comeBack 2 (q_load 1 0 (q_get 13 5 1 (q_callv 7 f_X4_itemCount 1 (q_ret 0)))))))))))))))))))
noncomputable def P_X11_read : qP := [B_X11_read_0, B_X11_read_1]
noncomputable def f_X11_read : List qV → qA → Option qR := qa_fn P_X11_read 5
def pc_X11_read : Nat → Nat := fun j => [0, 55].getD j 0
noncomputable def B_X11_promise_0 : qI := q_load 1 0 (q_load 0 1 (q_callv 13 f_X11_needReader 2 (q_store 1 3 (q_load 0 2 (q_const (0, 1) (q_load 1 0 (q_get 13 0 1 (q_const (0, 5) (q_callv 10 f_X7_valueOf 2 (q_call f_X11_needRange 3 (q_load 1 3 (q_get 9 6 0 (q_load 1 0 (q_get 13 0 1 (q_const (0, 4) (q_callv 10 f_X7_valueOf 2 (q_cmplt 1 (q_load 1 0 (q_get 13 4 1 (q_const (0, 3) (q_callv 4 f_X1_refuse 2 (q_ret 0))))))))))))))))))))))
noncomputable def B_X11_promise_1 : qI := q_load 1 3 (q_get 9 4 0 (q_const (0, -1) (q_cmpeq 2 (q_load 1 0 (q_get 13 4 1 (q_const (0, 4) (q_callv 4 f_X1_refuse 2 (q_ret 0))))))))
noncomputable def B_X11_promise_2 : qI := q_load 1 0 (q_get 13 4 1 (q_load 1 0 (q_get 13 1 1 (q_callv 4 f_X1_begin 2 (q_load 1 3 (q_load 1 0 (q_get 13 1 1 (q_get 12 0 0 (q_load 0 2 (q_iadd (q_put 9 4 0 (q_load 1 3 (q_get 9 4 0 (q_ret 0))))))))))))))
noncomputable def P_X11_promise : qP := [B_X11_promise_0, B_X11_promise_1, B_X11_promise_2]
noncomputable def f_X11_promise : List qV → qA → Option qR := qa_fn P_X11_promise 4
def pc_X11_promise : Nat → Nat := fun j => [0, 43, 60].getD j 0
noncomputable def B_X9_parentOf_0 : qI := q_load 1 1 (q_get 5 2 0 (q_store 0 2 (q_load 1 0 (q_get 12 3 1 (q_load 0 2 (q_iflt 1 (q_load 0 2 (q_load 1 0 (q_get 12 3 1 (q_alen (q_cmpge 1 (q_load 0 2 (q_goto 2)))))))))))))
noncomputable def B_X9_parentOf_1 : qI := q_const (0, 0) (q_goto 2)
noncomputable def B_X9_parentOf_2 : qI := q_ald (111 + 5) 1 (q_ret 1)
noncomputable def P_X9_parentOf : qP := [B_X9_parentOf_0, B_X9_parentOf_1, B_X9_parentOf_2]
noncomputable def f_X9_parentOf : List qV → qA → Option qR := qa_fn P_X9_parentOf 3
def pc_X9_parentOf : Nat → Nat := fun j => [0, 26, 27].getD j 0
noncomputable def B_X9_isOnWay_0 : qI := q_load 1 2 (q_store 1 3 (q_const (0, 0) (q_store 0 4 (q_goto 1))))
noncomputable def B_X9_isOnWay_1 : qI := q_load 0 4 (q_const (0, 4) (q_cmpge 2 (q_load 1 3 (q_load 1 1 (q_acmpeq 2 (q_load 1 0 (q_load 1 3 (q_callv 12 f_X9_parentOf 2 (q_store 1 3 (q_iinc 4 (1) (q_goto 1)))))))))))
noncomputable def B_X9_isOnWay_2 : qI := q_load 1 3 (q_load 1 1 (q_acmpne 3 (q_const (0, 1) (q_goto 4))))
noncomputable def B_X9_isOnWay_3 : qI := q_const (0, 0) (q_goto 4)
noncomputable def B_X9_isOnWay_4 : qI := q_retz
noncomputable def P_X9_isOnWay : qP := [B_X9_isOnWay_0, B_X9_isOnWay_1, B_X9_isOnWay_2, B_X9_isOnWay_3, B_X9_isOnWay_4]
noncomputable def f_X9_isOnWay : List qV → qA → Option qR := qa_fn P_X9_isOnWay 5
def pc_X9_isOnWay : Nat → Nat := fun j => [0, 5, 28, 37, 38].getD j 0
noncomputable def B_X9_leastFork_0 : qI := q_const (0, 1073741824) (q_store 0 3 (q_load 1 1 (q_store 1 4 (q_const (0, 0) (q_store 0 5 (q_goto 1))))))
noncomputable def B_X9_leastFork_1 : qI := q_load 0 5 (q_const (0, 4) (q_cmpge 2 (q_load 1 4 (q_load 1 2 (q_acmpeq 2 (q_load 0 3 (q_load 1 4 (q_get 5 3 0 (q_min (q_store 0 3 (q_load 1 0 (q_load 1 4 (q_callv 12 f_X9_parentOf 2 (q_store 1 4 (q_iinc 5 (1) (q_goto 1))))))))))))))))
noncomputable def B_X9_leastFork_2 : qI := q_load 0 3 (q_ret 0)
noncomputable def P_X9_leastFork : qP := [B_X9_leastFork_0, B_X9_leastFork_1, B_X9_leastFork_2]
noncomputable def f_X9_leastFork : List qV → qA → Option qR := qa_fn P_X9_leastFork 6
def pc_X9_leastFork : Nat → Nat := fun j => [0, 9, 45].getD j 0
noncomputable def B_X9_alikeUpTo_0 : qI := q_load 1 1 (q_load 1 2 (q_acmpne 1 (q_load 1 1 (q_get 5 5 0 (q_ret 0)))))
noncomputable def B_X9_alikeUpTo_1 : qI := q_load 1 1 (q_store 1 3 (q_const (0, 0) (q_store 0 4 (q_goto 2))))
noncomputable def B_X9_alikeUpTo_2 : qI := q_load 0 4 (q_const (0, 4) (q_cmpge 3 (q_load 1 0 (q_load 1 3 (q_load 1 2 (q_callv 12 f_X9_isOnWay 3 (q_ifne 3 (q_load 1 0 (q_load 1 3 (q_callv 12 f_X9_parentOf 2 (q_store 1 3 (q_iinc 4 (1) (q_goto 2)))))))))))))
noncomputable def B_X9_alikeUpTo_3 : qI := q_load 1 0 (q_load 1 1 (q_load 1 3 (q_callv 12 f_X9_leastFork 3 (q_load 1 0 (q_load 1 2 (q_load 1 3 (q_callv 12 f_X9_leastFork 3 (q_min (q_ret 0)))))))))
noncomputable def P_X9_alikeUpTo : qP := [B_X9_alikeUpTo_0, B_X9_alikeUpTo_1, B_X9_alikeUpTo_2, B_X9_alikeUpTo_3]
noncomputable def f_X9_alikeUpTo : List qV → qA → Option qR := qa_fn P_X9_alikeUpTo 5
def pc_X9_alikeUpTo : Nat → Nat := fun j => [0, 10, 15, 42].getD j 0
noncomputable def B_X11_move_0 : qI := q_load 1 0 (q_load 0 1 (q_callv 13 f_X11_needReader 2 (q_store 1 3 (q_load 1 0 (q_load 0 2 (q_callv 13 f_X11_needBranch 2 (q_store 1 4 (q_load 1 0 (q_get 13 1 1 (q_load 1 3 (q_callv 12 f_X9_homeOf 2 (q_store 1 5 (q_load 1 5 (q_load 1 4 (q_acmpeq 1 (q_load 1 3 (q_get 9 2 0 (q_load 1 0 (q_get 13 1 1 (q_load 1 5 (q_load 1 4 (q_callv 12 f_X9_alikeUpTo 3 (q_cmpgt 1 (q_load 1 3 (q_get 9 2 0 (q_load 1 4 (q_get 5 4 0 (q_cmpge 2 (q_goto 1)))))))))))))))))))))))))))))
noncomputable def B_X11_move_1 : qI := q_load 1 0 (q_get 13 4 1 (q_const (0, 5) (q_callv 4 f_X1_refuse 2 (q_ret 0))))
noncomputable def B_X11_move_2 : qI := q_load 1 0 (q_get 13 4 1 (q_load 1 0 (q_get 13 1 1 (q_callv 4 f_X1_begin 2 (q_load 1 3 (q_load 1 4 (q_get 5 0 0 (q_put 9 1 0 (q_load 1 3 (q_load 1 0 (q_get 13 1 1 (q_get 12 0 0 (q_put 9 3 0 (q_load 1 3 (q_get 9 2 0 (q_ret 0))))))))))))))))
noncomputable def P_X11_move : qP := [B_X11_move_0, B_X11_move_1, B_X11_move_2]
noncomputable def f_X11_move : List qV → qA → Option qR := qa_fn P_X11_move 6
def pc_X11_move : Nat → Nat := fun j => [0, 60, 69].getD j 0
noncomputable def B_X9_readerCount_0 : qI := q_const (0, 0) (q_store 0 1 (q_load 1 0 (q_get 12 4 1 (q_store 1 2 (q_load 1 2 (q_alen (q_store 0 3 (q_const (0, 0) (q_store 0 4 (q_goto 1))))))))))
noncomputable def B_X9_readerCount_1 : qI := q_load 0 4 (q_load 0 3 (q_cmpge 4 (q_load 1 2 (q_load 0 4 (q_ald (111 + 9) 1 (q_store 1 5 (q_load 0 1 (q_load 1 5 (q_get 9 0 0 (q_ifeq 2 (q_const (0, 1) (q_goto 3))))))))))))
noncomputable def B_X9_readerCount_2 : qI := q_const (0, 0) (q_goto 3)
noncomputable def B_X9_readerCount_3 : qI := q_iadd (q_store 0 1 (q_iinc 4 (1) (q_goto 1)))
noncomputable def B_X9_readerCount_4 : qI := q_load 0 1 (q_ret 0)
noncomputable def P_X9_readerCount : qP := [B_X9_readerCount_0, B_X9_readerCount_1, B_X9_readerCount_2, B_X9_readerCount_3, B_X9_readerCount_4]
noncomputable def f_X9_readerCount : List qV → qA → Option qR := qa_fn P_X9_readerCount 6
def pc_X9_readerCount : Nat → Nat := fun j => [0, 13, 38, 39, 47].getD j 0
noncomputable def B_X11_leave_0 : qI := q_load 1 0 (q_load 0 1 (q_callv 13 f_X11_needReader 2 (q_store 1 2 (q_load 1 0 (q_get 13 4 1 (q_load 1 0 (q_get 13 1 1 (q_callv 4 f_X1_begin 2 (q_load 1 2 (q_const (0, 0) (q_putz 9 0 (q_load 1 0 (q_get 13 1 1 (q_callv 12 f_X9_readerCount 1 (q_ret 0)))))))))))))))
noncomputable def P_X11_leave : qP := [B_X11_leave_0]
noncomputable def f_X11_leave : List qV → qA → Option qR := qa_fn P_X11_leave 3
def pc_X11_leave : Nat → Nat := fun j => [0].getD j 0
noncomputable def B_X9_freeBranch_0 : qI := q_load 1 0 (q_get 12 3 1 (q_store 1 1 (q_load 1 1 (q_alen (q_store 0 2 (q_const (0, 0) (q_store 0 3 (q_goto 1))))))))
noncomputable def B_X9_freeBranch_1 : qI := q_load 0 3 (q_load 0 2 (q_cmpge 3 (q_load 1 1 (q_load 0 3 (q_ald (111 + 5) 1 (q_store 1 4 (q_load 1 4 (q_get 5 1 0 (q_ifne 2 (q_load 1 4 (q_ret 1)))))))))))
noncomputable def B_X9_freeBranch_2 : qI := q_iinc 3 (1) (q_goto 1)
noncomputable def B_X9_freeBranch_3 : qI := q_const (1, -1) (q_ret 1)
noncomputable def P_X9_freeBranch : qP := [B_X9_freeBranch_0, B_X9_freeBranch_1, B_X9_freeBranch_2, B_X9_freeBranch_3]
noncomputable def f_X9_freeBranch : List qV → qA → Option qR := qa_fn P_X9_freeBranch 5
def pc_X9_freeBranch : Nat → Nat := fun j => [0, 10, 31, 37].getD j 0
noncomputable def B_X2_beginAs_0 : qI := q_load 1 0 (q_load 1 1 (q_callv 5 f_X2_copyFrom 2 (q_load 1 0 (q_load 1 1 (q_get 5 0 0 (q_put 5 2 0 (q_load 1 0 (q_load 1 1 (q_get 5 5 0 (q_put 5 3 0 (q_load 1 0 (q_const (0, 0) (q_put 5 7 0 (q_vret))))))))))))))
noncomputable def P_X2_beginAs : qP := [B_X2_beginAs_0]
noncomputable def f_X2_beginAs : List qV → qA → Option qR := qa_fn P_X2_beginAs 2
def pc_X2_beginAs : Nat → Nat := fun j => [0].getD j 0
noncomputable def B_X11_fork_0 : qI := q_load 1 0 (q_load 0 1 (q_callv 13 f_X11_needBranch 2 (q_store 1 2 (q_load 1 0 (q_get 13 1 1 (q_callv 12 f_X9_freeBranch 1 (q_store 1 3 (q_load 1 3 (q_nonnull 1 (q_load 1 0 (q_get 13 4 1 (q_const (0, 2) (q_callv 4 f_X1_refuse 2 (q_ret 0))))))))))))))
noncomputable def B_X11_fork_1 : qI := q_load 1 0 (q_get 13 4 1 (q_load 1 0 (q_get 13 1 1 (q_callv 4 f_X1_begin 2 (q_load 1 3 (q_load 1 2 (q_callv 5 f_X2_beginAs 2 (q_load 1 3 (q_get 5 0 0 (q_ret 0))))))))))
noncomputable def P_X11_fork : qP := [B_X11_fork_0, B_X11_fork_1]
noncomputable def f_X11_fork : List qV → qA → Option qR := qa_fn P_X11_fork 4
def pc_X11_fork : Nat → Nat := fun j => [0, 27].getD j 0
noncomputable def B_X9_childrenOf_0 : qI := q_const (0, 0) (q_store 0 2 (q_load 1 0 (q_get 12 3 1 (q_store 1 3 (q_load 1 3 (q_alen (q_store 0 4 (q_const (0, 0) (q_store 0 5 (q_goto 1))))))))))
noncomputable def B_X9_childrenOf_1 : qI := q_load 0 5 (q_load 0 4 (q_cmpge 4 (q_load 1 3 (q_load 0 5 (q_ald (111 + 5) 1 (q_store 1 6 (q_load 0 2 (q_load 1 6 (q_get 5 1 0 (q_ifeq 2 (q_load 1 6 (q_get 5 2 0 (q_load 1 1 (q_get 5 0 0 (q_cmpne 2 (q_const (0, 1) (q_goto 3)))))))))))))))))
noncomputable def B_X9_childrenOf_2 : qI := q_const (0, 0) (q_goto 3)
noncomputable def B_X9_childrenOf_3 : qI := q_iadd (q_store 0 2 (q_iinc 5 (1) (q_goto 1)))
noncomputable def B_X9_childrenOf_4 : qI := q_load 0 2 (q_ret 0)
noncomputable def P_X9_childrenOf : qP := [B_X9_childrenOf_0, B_X9_childrenOf_1, B_X9_childrenOf_2, B_X9_childrenOf_3, B_X9_childrenOf_4]
noncomputable def f_X9_childrenOf : List qV → qA → Option qR := qa_fn P_X9_childrenOf 7
def pc_X9_childrenOf : Nat → Nat := fun j => [0, 14, 52, 53, 61].getD j 0
noncomputable def B_X11_reasonToStay_0 : qI := q_load 1 1 (q_get 5 0 0 (q_ifne 1 (q_const (0, 6) (q_ret 0))))
noncomputable def B_X11_reasonToStay_1 : qI := q_load 1 0 (q_get 13 1 1 (q_load 1 1 (q_callv 12 f_X9_childrenOf 2 (q_ifle 2 (q_const (0, 7) (q_goto 3))))))
noncomputable def B_X11_reasonToStay_2 : qI := q_const (0, -1) (q_goto 3)
noncomputable def B_X11_reasonToStay_3 : qI := q_ret 0
noncomputable def P_X11_reasonToStay : qP := [B_X11_reasonToStay_0, B_X11_reasonToStay_1, B_X11_reasonToStay_2, B_X11_reasonToStay_3]
noncomputable def f_X11_reasonToStay : List qV → qA → Option qR := qa_fn P_X11_reasonToStay 2
def pc_X11_reasonToStay : Nat → Nat := fun j => [0, 10, 26, 27].getD j 0
noncomputable def B_X9_readersNotBehind_0 : qI := q_const (0, 0) (q_store 0 3 (q_load 1 0 (q_get 12 4 1 (q_store 1 4 (q_load 1 4 (q_alen (q_store 0 5 (q_const (0, 0) (q_store 0 6 (q_goto 1))))))))))
noncomputable def B_X9_readersNotBehind_1 : qI := q_load 0 6 (q_load 0 5 (q_cmpge 4 (q_load 1 4 (q_load 0 6 (q_ald (111 + 9) 1 (q_store 1 7 (q_load 0 3 (q_load 1 7 (q_load 1 1 (q_callv 9 f_X6_isIn 2 (q_ifeq 2 (q_load 1 7 (q_get 9 2 0 (q_load 0 2 (q_cmpgt 2 (q_const (0, 1) (q_goto 3)))))))))))))))))
noncomputable def B_X9_readersNotBehind_2 : qI := q_const (0, 0) (q_goto 3)
noncomputable def B_X9_readersNotBehind_3 : qI := q_iadd (q_store 0 3 (q_iinc 6 (1) (q_goto 1)))
noncomputable def B_X9_readersNotBehind_4 : qI := q_load 0 3 (q_ret 0)
noncomputable def P_X9_readersNotBehind : qP := [B_X9_readersNotBehind_0, B_X9_readersNotBehind_1, B_X9_readersNotBehind_2, B_X9_readersNotBehind_3, B_X9_readersNotBehind_4]
noncomputable def f_X9_readersNotBehind : List qV → qA → Option qR := qa_fn P_X9_readersNotBehind 8
def pc_X9_readersNotBehind : Nat → Nat := fun j => [0, 16, 53, 54, 62].getD j 0
noncomputable def B_X9_mergeUp_0 : qI := q_load 1 0 (q_load 1 1 (q_callv 12 f_X9_parentOf 2 (q_store 1 3 (q_load 1 1 (q_get 5 3 0 (q_load 1 1 (q_get 5 4 0 (q_max (q_store 0 4 (q_load 1 3 (q_get 5 5 0 (q_load 0 4 (q_isub (q_store 0 5 (q_load 0 4 (q_store 0 6 (q_goto 1)))))))))))))))))
noncomputable def B_X9_mergeUp_1 : qI := q_load 0 6 (q_load 1 1 (q_get 5 5 0 (q_cmpge 2 (q_load 1 3 (q_load 1 1 (q_load 0 6 (q_callv 5 f_X2_at 2 (q_callv 5 f_X2_add 2 (q_iinc 6 (1) (q_goto 1))))))))))
noncomputable def B_X9_mergeUp_2 : qI := q_load 1 0 (q_get 12 4 1 (q_store 1 6 (q_load 1 6 (q_alen (q_store 0 7 (q_const (0, 0) (q_store 0 8 (q_goto 3))))))))
noncomputable def B_X9_mergeUp_3 : qI := q_load 0 8 (q_load 0 7 (q_cmpge 5 (q_load 1 6 (q_load 0 8 (q_ald (111 + 9) 1 (q_store 1 9 (q_load 1 9 (q_load 1 1 (q_callv 9 f_X6_isIn 2 (q_ifeq 4 (q_load 1 9 (q_load 1 3 (q_get 5 0 0 (q_put 9 1 0 (q_load 1 9 (q_dup (q_get 9 2 0 (q_load 0 5 (q_iadd (q_put 9 2 0 (q_goto 4)))))))))))))))))))))
noncomputable def B_X9_mergeUp_4 : qI := q_iinc 8 (1) (q_goto 3)
noncomputable def B_X9_mergeUp_5 : qI := q_load 1 1 (q_const (0, 0) (q_putz 5 1 (q_load 1 0 (q_load 1 3 (q_load 1 2 (q_callv 12 f_X9_cutBehind 3 (q_pop (q_load 1 1 (q_get 5 5 0 (q_load 0 4 (q_isub (q_ret 0))))))))))))
noncomputable def P_X9_mergeUp : qP := [B_X9_mergeUp_0, B_X9_mergeUp_1, B_X9_mergeUp_2, B_X9_mergeUp_3, B_X9_mergeUp_4, B_X9_mergeUp_5]
noncomputable def f_X9_mergeUp : List qV → qA → Option qR := qa_fn P_X9_mergeUp 10
def pc_X9_mergeUp : Nat → Nat := fun j => [0, 32, 57, 71, 115, 121].getD j 0
noncomputable def B_X11_merge_0 : qI := q_load 1 0 (q_load 0 1 (q_callv 13 f_X11_needBranch 2 (q_store 1 2 (q_load 1 0 (q_load 1 2 (q_callv 13 f_X11_reasonToStay 2 (q_store 0 3 (q_load 0 3 (q_const (0, -1) (q_cmpne 1 (q_load 1 0 (q_get 13 1 1 (q_load 1 2 (q_load 1 2 (q_get 5 3 0 (q_const (0, 1) (q_isub (q_callv 12 f_X9_readersNotBehind 3 (q_ifle 1 (q_const (0, 9) (q_store 0 3 (q_goto 1))))))))))))))))))))))
noncomputable def B_X11_merge_1 : qI := q_load 0 3 (q_const (0, -1) (q_cmpeq 2 (q_load 1 0 (q_get 13 4 1 (q_load 0 3 (q_callv 4 f_X1_refuse 2 (q_ret 0)))))))
noncomputable def B_X11_merge_2 : qI := q_load 1 0 (q_get 13 4 1 (q_load 1 0 (q_get 13 1 1 (q_callv 4 f_X1_begin 2 (q_load 1 0 (q_get 13 1 1 (q_load 1 2 (q_load 1 0 (q_get 13 0 1 (q_callv 12 f_X9_mergeUp 3 (q_ret 0)))))))))))
noncomputable def P_X11_merge : qP := [B_X11_merge_0, B_X11_merge_1, B_X11_merge_2]
noncomputable def f_X11_merge : List qV → qA → Option qR := qa_fn P_X11_merge 4
def pc_X11_merge : Nat → Nat := fun j => [0, 37, 51].getD j 0
noncomputable def B_X9_readersIn_0 : qI := q_const (0, 0) (q_store 0 2 (q_load 1 0 (q_get 12 4 1 (q_store 1 3 (q_load 1 3 (q_alen (q_store 0 4 (q_const (0, 0) (q_store 0 5 (q_goto 1))))))))))
noncomputable def B_X9_readersIn_1 : qI := q_load 0 5 (q_load 0 4 (q_cmpge 4 (q_load 1 3 (q_load 0 5 (q_ald (111 + 9) 1 (q_store 1 6 (q_load 0 2 (q_load 1 6 (q_load 1 1 (q_callv 9 f_X6_isIn 2 (q_ifeq 2 (q_const (0, 1) (q_goto 3)))))))))))))
noncomputable def B_X9_readersIn_2 : qI := q_const (0, 0) (q_goto 3)
noncomputable def B_X9_readersIn_3 : qI := q_iadd (q_store 0 2 (q_iinc 5 (1) (q_goto 1)))
noncomputable def B_X9_readersIn_4 : qI := q_load 0 2 (q_ret 0)
noncomputable def P_X9_readersIn : qP := [B_X9_readersIn_0, B_X9_readersIn_1, B_X9_readersIn_2, B_X9_readersIn_3, B_X9_readersIn_4]
noncomputable def f_X9_readersIn : List qV → qA → Option qR := qa_fn P_X9_readersIn 7
def pc_X9_readersIn : Nat → Nat := fun j => [0, 14, 41, 42, 50].getD j 0
noncomputable def B_X11_drop_0 : qI := q_load 1 0 (q_load 0 1 (q_callv 13 f_X11_needBranch 2 (q_store 1 2 (q_load 1 0 (q_load 1 2 (q_callv 13 f_X11_reasonToStay 2 (q_store 0 3 (q_load 0 3 (q_const (0, -1) (q_cmpne 1 (q_load 1 0 (q_get 13 1 1 (q_load 1 2 (q_callv 12 f_X9_readersIn 2 (q_ifle 1 (q_const (0, 8) (q_store 0 3 (q_goto 1))))))))))))))))))
noncomputable def B_X11_drop_1 : qI := q_load 0 3 (q_const (0, -1) (q_cmpeq 2 (q_load 1 0 (q_get 13 4 1 (q_load 0 3 (q_callv 4 f_X1_refuse 2 (q_ret 0)))))))
noncomputable def B_X11_drop_2 : qI := q_load 1 0 (q_get 13 4 1 (q_load 1 0 (q_get 13 1 1 (q_callv 4 f_X1_begin 2 (q_load 1 2 (q_const (0, 0) (q_putz 5 1 (q_load 1 2 (q_get 5 5 0 (q_load 1 2 (q_get 5 4 0 (q_isub (q_ret 0)))))))))))))
noncomputable def P_X11_drop : qP := [B_X11_drop_0, B_X11_drop_1, B_X11_drop_2]
noncomputable def f_X11_drop : List qV → qA → Option qR := qa_fn P_X11_drop 4
def pc_X11_drop : Nat → Nat := fun j => [0, 31, 45].getD j 0
noncomputable def B_X6_hasPromise_0 : qI := q_load 1 0 (q_get 9 0 0 (q_ifeq 1 (q_load 1 0 (q_get 9 4 0 (q_const (0, -1) (q_cmpeq 1 (q_const (0, 1) (q_goto 2))))))))
noncomputable def B_X6_hasPromise_1 : qI := q_const (0, 0) (q_goto 2)
noncomputable def B_X6_hasPromise_2 : qI := q_retz
noncomputable def P_X6_hasPromise : qP := [B_X6_hasPromise_0, B_X6_hasPromise_1, B_X6_hasPromise_2]
noncomputable def f_X6_hasPromise : List qV → qA → Option qR := qa_fn P_X6_hasPromise 1
def pc_X6_hasPromise : Nat → Nat := fun j => [0, 19, 20].getD j 0
noncomputable def B_X6_breakPromiseAt_0 : qI := q_load 1 0 (q_callv 9 f_X6_hasPromise 1 (q_ifeq 1 (q_load 1 0 (q_get 9 4 0 (q_load 0 1 (q_cmpge 1 (q_load 1 0 (q_const (0, -1) (q_put 9 4 0 (q_load 1 0 (q_dup (q_get 9 6 0 (q_const (0, 1) (q_iadd (q_put 9 6 0 (q_goto 1))))))))))))))))
noncomputable def B_X6_breakPromiseAt_1 : qI := q_vret
noncomputable def P_X6_breakPromiseAt : qP := [B_X6_breakPromiseAt_0, B_X6_breakPromiseAt_1]
noncomputable def f_X6_breakPromiseAt : List qV → qA → Option qR := qa_fn P_X6_breakPromiseAt 2
def pc_X6_breakPromiseAt : Nat → Nat := fun j => [0, 30].getD j 0
noncomputable def B_X9_tick_0 : qI := q_load 1 0 (q_dup (q_get 12 0 0 (q_const (0, 1) (q_iadd (q_put 12 0 0 (q_load 1 0 (q_get 12 4 1 (q_store 1 2 (q_load 1 2 (q_alen (q_store 0 3 (q_const (0, 0) (q_store 0 4 (q_goto 1))))))))))))))
noncomputable def B_X9_tick_1 : qI := q_load 0 4 (q_load 0 3 (q_cmpge 2 (q_load 1 2 (q_load 0 4 (q_ald (111 + 9) 1 (q_store 1 5 (q_load 1 5 (q_load 1 0 (q_get 12 0 0 (q_callv 9 f_X6_breakPromiseAt 2 (q_iinc 4 (1) (q_goto 1))))))))))))
noncomputable def B_X9_tick_2 : qI := q_const (0, 0) (q_store 0 2 (q_load 1 0 (q_get 12 3 1 (q_store 1 3 (q_load 1 3 (q_alen (q_store 0 4 (q_const (0, 0) (q_store 0 5 (q_goto 3))))))))))
noncomputable def B_X9_tick_3 : qI := q_load 0 5 (q_load 0 4 (q_cmpge 6 (q_load 1 3 (q_load 0 5 (q_ald (111 + 5) 1 (q_store 1 6 (q_load 0 2 (q_load 1 6 (q_get 5 1 0 (q_ifeq 4 (q_load 1 0 (q_load 1 6 (q_load 1 1 (q_callv 12 f_X9_cutBehind 3 (q_goto 5)))))))))))))))
noncomputable def B_X9_tick_4 : qI := q_const (0, 0) (q_goto 5)
noncomputable def B_X9_tick_5 : qI := q_iadd (q_store 0 2 (q_iinc 5 (1) (q_goto 3)))
noncomputable def B_X9_tick_6 : qI := q_load 0 2 (q_ret 0)
noncomputable def P_X9_tick : qP := [B_X9_tick_0, B_X9_tick_1, B_X9_tick_2, B_X9_tick_3, B_X9_tick_4, B_X9_tick_5, B_X9_tick_6]
noncomputable def f_X9_tick : List qV → qA → Option qR := qa_fn P_X9_tick 7
def pc_X9_tick : Nat → Nat := fun j => [0, 21, 48, 62, 94, 95, 103].getD j 0
noncomputable def B_X11_pass_0 : qI := q_load 0 1 (q_const (0, 1) (q_const (0, 99) (q_call f_X11_needRange 3 (q_load 1 0 (q_get 13 4 1 (q_load 1 0 (q_get 13 1 1 (q_callv 4 f_X1_begin 2 (q_const (0, 0) (q_store 0 2 (q_const (0, 0) (q_store 0 3 (q_goto 1)))))))))))))
noncomputable def B_X11_pass_1 : qI := q_load 0 3 (q_load 0 1 (q_cmpge 2 (q_load 0 2 (q_load 1 0 (q_get 13 1 1 (q_load 1 0 (q_get 13 0 1 (q_callv 12 f_X9_tick 2 (q_iadd (q_store 0 2 (q_iinc 3 (1) (q_goto 1))))))))))))
noncomputable def B_X11_pass_2 : qI := q_load 0 2 (q_ret 0)
noncomputable def P_X11_pass : qP := [B_X11_pass_0, B_X11_pass_1, B_X11_pass_2]
noncomputable def f_X11_pass : List qV → qA → Option qR := qa_fn P_X11_pass 4
def pc_X11_pass : Nat → Nat := fun j => [0, 22, 47].getD j 0
noncomputable def B_X11_perform_0 : qI := q_load 1 0 (q_get 13 6 1 (q_load 0 1 (q_callv 11 f_X8_verbOf 2 (q_store 1 2 (q_load 1 2 (q_nonnull 1 (q_const (0, -1) (q_ret 0))))))))
noncomputable def B_X11_perform_1 : qI := q_load 1 0 (q_get 13 6 1 (q_load 0 1 (q_const (0, 0) (q_callv 11 f_X8_operandOf 3 (q_store 0 3 (q_load 1 0 (q_get 13 6 1 (q_load 0 1 (q_const (0, 1) (q_callv 11 f_X8_operandOf 3 (q_store 0 4 (q_load 1 0 (q_get 13 1 1 (q_load 0 3 (q_callv 12 f_X9_branchAt 2 (q_null 2 (q_const (0, 1) (q_goto 3))))))))))))))))))
noncomputable def B_X11_perform_2 : qI := q_const (0, 0) (q_goto 3)
noncomputable def B_X11_perform_3 : qI := q_store 0 5 (q_load 1 0 (q_get 13 1 1 (q_load 0 3 (q_callv 12 f_X9_readerAt 2 (q_null 4 (q_const (0, 1) (q_goto 5)))))))
noncomputable def B_X11_perform_4 : qI := q_const (0, 0) (q_goto 5)
noncomputable def B_X11_perform_5 : qI := q_store 0 6 (q_const (1, -12) (q_load 1 2 (q_ord (q_sld 101 (q_switch (1) [6, 9, 14, 17, 20, 23, 26, 29, 32] 35)))))
noncomputable def B_X11_perform_6 : qI := q_load 0 5 (q_ifeq 7 (q_load 1 0 (q_load 0 3 (q_load 0 4 (q_load 1 0 (q_get 13 6 1 (q_load 0 1 (q_const (0, 2) (q_callv 11 f_X8_operandOf 3 (q_load 1 0 (q_get 13 6 1 (q_load 0 1 (q_const (0, 3) (q_callv 11 f_X8_operandOf 3 (q_callv 13 f_X11_append 5 (q_goto 8))))))))))))))))
noncomputable def B_X11_perform_7 : qI := q_const (0, -1) (q_goto 8)
noncomputable def B_X11_perform_8 : qI := q_ret 0
noncomputable def B_X11_perform_9 : qI := q_load 0 5 (q_ifeq 12 (q_load 1 0 (q_load 0 3 (q_load 0 4 (q_ifeq 10 (q_const (0, 1) (q_goto 11)))))))
noncomputable def B_X11_perform_10 : qI := q_const (0, 0) (q_goto 11)
noncomputable def B_X11_perform_11 : qI := q_callv 13 f_X11_join 3 (q_goto 13)
noncomputable def B_X11_perform_12 : qI := q_const (0, -1) (q_goto 13)
noncomputable def B_X11_perform_13 : qI := q_ret 0
noncomputable def B_X11_perform_14 : qI := q_load 0 6 (q_ifeq 15 (q_load 1 0 (q_load 0 3 (q_load 0 4 (q_callv 13 f_X11_read 3 (q_goto 16))))))
noncomputable def B_X11_perform_15 : qI := q_const (0, -1) (q_goto 16)
noncomputable def B_X11_perform_16 : qI := q_ret 0
noncomputable def B_X11_perform_17 : qI := q_load 0 6 (q_ifeq 18 (q_load 0 4 (q_load 1 0 (q_get 13 0 1 (q_const (0, 5) (q_callv 10 f_X7_valueOf 2 (q_cmpgt 18 (q_load 1 0 (q_load 0 3 (q_load 0 4 (q_callv 13 f_X11_promise 3 (q_goto 19))))))))))))
noncomputable def B_X11_perform_18 : qI := q_const (0, -1) (q_goto 19)
noncomputable def B_X11_perform_19 : qI := q_ret 0
noncomputable def B_X11_perform_20 : qI := q_load 0 6 (q_ifeq 21 (q_load 1 0 (q_get 13 1 1 (q_load 0 4 (q_callv 12 f_X9_branchAt 2 (q_null 21 (q_load 1 0 (q_load 0 3 (q_load 0 4 (q_callv 13 f_X11_move 3 (q_goto 22)))))))))))
noncomputable def B_X11_perform_21 : qI := q_const (0, -1) (q_goto 22)
noncomputable def B_X11_perform_22 : qI := q_ret 0
noncomputable def B_X11_perform_23 : qI := q_load 0 6 (q_ifeq 24 (q_load 1 0 (q_load 0 3 (q_callv 13 f_X11_leave 2 (q_goto 25)))))
noncomputable def B_X11_perform_24 : qI := q_const (0, -1) (q_goto 25)
noncomputable def B_X11_perform_25 : qI := q_ret 0
noncomputable def B_X11_perform_26 : qI := q_load 0 5 (q_ifeq 27 (q_load 1 0 (q_load 0 3 (q_callv 13 f_X11_fork 2 (q_goto 28)))))
noncomputable def B_X11_perform_27 : qI := q_const (0, -1) (q_goto 28)
noncomputable def B_X11_perform_28 : qI := q_ret 0
noncomputable def B_X11_perform_29 : qI := q_load 0 5 (q_ifeq 30 (q_load 1 0 (q_load 0 3 (q_callv 13 f_X11_merge 2 (q_goto 31)))))
noncomputable def B_X11_perform_30 : qI := q_const (0, -1) (q_goto 31)
noncomputable def B_X11_perform_31 : qI := q_ret 0
noncomputable def B_X11_perform_32 : qI := q_load 0 5 (q_ifeq 33 (q_load 1 0 (q_load 0 3 (q_callv 13 f_X11_drop 2 (q_goto 34)))))
noncomputable def B_X11_perform_33 : qI := q_const (0, -1) (q_goto 34)
noncomputable def B_X11_perform_34 : qI := q_ret 0
noncomputable def B_X11_perform_35 : qI := q_load 1 0 (q_load 0 3 (q_callv 13 f_X11_pass 2 (q_ret 0)))
noncomputable def P_X11_perform : qP := [B_X11_perform_0, B_X11_perform_1, B_X11_perform_2, B_X11_perform_3, B_X11_perform_4, B_X11_perform_5, B_X11_perform_6, B_X11_perform_7, B_X11_perform_8, B_X11_perform_9, B_X11_perform_10, B_X11_perform_11, B_X11_perform_12, B_X11_perform_13, B_X11_perform_14, B_X11_perform_15, B_X11_perform_16, B_X11_perform_17, B_X11_perform_18, B_X11_perform_19, B_X11_perform_20, B_X11_perform_21, B_X11_perform_22, B_X11_perform_23, B_X11_perform_24, B_X11_perform_25, B_X11_perform_26, B_X11_perform_27, B_X11_perform_28, B_X11_perform_29, B_X11_perform_30, B_X11_perform_31, B_X11_perform_32, B_X11_perform_33, B_X11_perform_34, B_X11_perform_35]
noncomputable def f_X11_perform : List qV → qA → Option qR := qa_fn P_X11_perform 7
def pc_X11_perform : Nat → Nat := fun j => [0, 15, 51, 52, 69, 70, 132, 165, 166, 167, 183, 184, 190, 191, 192, 207, 208, 209, 237, 238, 239, 266, 267, 268, 281, 282, 283, 296, 297, 298, 311, 312, 313, 326, 327, 328].getD j 0
noncomputable def B_X11_runScript_0 : qI := q_load 1 0 (q_get 13 6 1 (q_callv 11 f_X8_parse 1 (q_store 0 1 (q_load 1 0 (q_get 13 6 1 (q_const (0, 0) (q_put 11 1 0 (q_load 0 1 (q_ifne 1 (q_const (0, -1) (q_ret 0)))))))))))
noncomputable def B_X11_runScript_1 : qI := q_const (0, 0) (q_store 0 2 (q_goto 2))
noncomputable def B_X11_runScript_2 : qI := q_load 0 2 (q_load 1 0 (q_get 13 6 1 (q_get 11 4 0 (q_cmpge 3 (q_load 1 0 (q_load 0 2 (q_callv 13 f_X11_perform 2 (q_iflt 3 (q_iinc 2 (1) (q_goto 2))))))))))
noncomputable def B_X11_runScript_3 : qI := q_load 0 2 (q_ret 0)
noncomputable def P_X11_runScript : qP := [B_X11_runScript_0, B_X11_runScript_1, B_X11_runScript_2, B_X11_runScript_3]
noncomputable def f_X11_runScript : List qV → qA → Option qR := qa_fn P_X11_runScript 3
def pc_X11_runScript : Nat → Nat := fun j => [0, 22, 24, 49].getD j 0
noncomputable def B_X11_errorCode_0 : qI := q_load 1 0 (q_get 13 6 1 (q_get 11 5 0 (q_ret 0)))
noncomputable def P_X11_errorCode : qP := [B_X11_errorCode_0]
noncomputable def f_X11_errorCode : List qV → qA → Option qR := qa_fn P_X11_errorCode 1
def pc_X11_errorCode : Nat → Nat := fun j => [0].getD j 0
noncomputable def B_X11_errorPosition_0 : qI := q_load 1 0 (q_get 13 6 1 (q_get 11 6 0 (q_ret 0)))
noncomputable def P_X11_errorPosition : qP := [B_X11_errorPosition_0]
noncomputable def f_X11_errorPosition : List qV → qA → Option qR := qa_fn P_X11_errorPosition 1
def pc_X11_errorPosition : Nat → Nat := fun j => [0].getD j 0
noncomputable def B_X7_leastOf_0 : qI := q_load 0 1 (q_iflt 1 (q_load 0 1 (q_const (1, -10) (q_slen (q_cmpge 1 (q_const (1, -10) (q_load 0 1 (q_sld 101 (q_goto 2)))))))))
noncomputable def B_X7_leastOf_1 : qI := q_const (0, 0) (q_goto 2)
noncomputable def B_X7_leastOf_2 : qI := q_ret 0
noncomputable def P_X7_leastOf : qP := [B_X7_leastOf_0, B_X7_leastOf_1, B_X7_leastOf_2]
noncomputable def f_X7_leastOf : List qV → qA → Option qR := qa_fn P_X7_leastOf 2
def pc_X7_leastOf : Nat → Nat := fun j => [0, 20, 21].getD j 0
noncomputable def B_X7_mostOf_0 : qI := q_load 0 1 (q_iflt 1 (q_load 0 1 (q_const (1, -11) (q_slen (q_cmpge 1 (q_const (1, -11) (q_load 0 1 (q_sld 101 (q_goto 2)))))))))
noncomputable def B_X7_mostOf_1 : qI := q_const (0, 0) (q_goto 2)
noncomputable def B_X7_mostOf_2 : qI := q_ret 0
noncomputable def P_X7_mostOf : qP := [B_X7_mostOf_0, B_X7_mostOf_1, B_X7_mostOf_2]
noncomputable def f_X7_mostOf : List qV → qA → Option qR := qa_fn P_X7_mostOf 2
def pc_X7_mostOf : Nat → Nat := fun j => [0, 20, 21].getD j 0
noncomputable def B_X7_change_0 : qI := q_load 0 1 (q_iflt 1 (q_load 0 1 (q_load 1 0 (q_get 10 0 1 (q_alen (q_cmpge 1 (q_load 1 0 (q_get 10 0 1 (q_load 0 1 (q_load 0 2 (q_ast 101 0 (q_goto 1))))))))))))
noncomputable def B_X7_change_1 : qI := q_vret
noncomputable def P_X7_change : qP := [B_X7_change_0, B_X7_change_1]
noncomputable def f_X7_change : List qV → qA → Option qR := qa_fn P_X7_change 3
def pc_X7_change : Nat → Nat := fun j => [0, 20].getD j 0
noncomputable def B_X11_set_0 : qI := q_load 0 1 (q_const (0, 0) (q_const (0, 6) (q_call f_X11_needRange 3 (q_load 0 2 (q_load 1 0 (q_get 13 0 1 (q_load 0 1 (q_callv 10 f_X7_leastOf 2 (q_load 1 0 (q_get 13 0 1 (q_load 0 1 (q_callv 10 f_X7_mostOf 2 (q_call f_X11_needRange 3 (q_load 1 0 (q_get 13 0 1 (q_load 0 1 (q_callv 10 f_X7_valueOf 2 (q_store 0 3 (q_load 1 0 (q_get 13 0 1 (q_load 0 1 (q_load 0 2 (q_callv 10 f_X7_change 3 (q_load 0 3 (q_ret 0)))))))))))))))))))))))))
noncomputable def P_X11_set : qP := [B_X11_set_0]
noncomputable def f_X11_set : List qV → qA → Option qR := qa_fn P_X11_set 4
def pc_X11_set : Nat → Nat := fun j => [0].getD j 0
noncomputable def B_X9_cutsWith_0 : qI := q_load 0 1 (q_iflt 1 (q_load 0 1 (q_load 1 0 (q_get 12 2 1 (q_alen (q_cmpge 1 (q_load 1 0 (q_get 12 2 1 (q_load 0 1 (q_ald 101 0 (q_goto 2)))))))))))
noncomputable def B_X9_cutsWith_1 : qI := q_const (0, 0) (q_goto 2)
noncomputable def B_X9_cutsWith_2 : qI := q_ret 0
noncomputable def P_X9_cutsWith : qP := [B_X9_cutsWith_0, B_X9_cutsWith_1, B_X9_cutsWith_2]
noncomputable def f_X9_cutsWith : List qV → qA → Option qR := qa_fn P_X9_cutsWith 2
def pc_X9_cutsWith : Nat → Nat := fun j => [0, 22, 23].getD j 0
noncomputable def B_X9_branchCount_0 : qI := q_const (0, 0) (q_store 0 1 (q_load 1 0 (q_get 12 3 1 (q_store 1 2 (q_load 1 2 (q_alen (q_store 0 3 (q_const (0, 0) (q_store 0 4 (q_goto 1))))))))))
noncomputable def B_X9_branchCount_1 : qI := q_load 0 4 (q_load 0 3 (q_cmpge 4 (q_load 1 2 (q_load 0 4 (q_ald (111 + 5) 1 (q_store 1 5 (q_load 0 1 (q_load 1 5 (q_get 5 1 0 (q_ifeq 2 (q_const (0, 1) (q_goto 3))))))))))))
noncomputable def B_X9_branchCount_2 : qI := q_const (0, 0) (q_goto 3)
noncomputable def B_X9_branchCount_3 : qI := q_iadd (q_store 0 1 (q_iinc 4 (1) (q_goto 1)))
noncomputable def B_X9_branchCount_4 : qI := q_load 0 1 (q_ret 0)
noncomputable def P_X9_branchCount : qP := [B_X9_branchCount_0, B_X9_branchCount_1, B_X9_branchCount_2, B_X9_branchCount_3, B_X9_branchCount_4]
noncomputable def f_X9_branchCount : List qV → qA → Option qR := qa_fn P_X9_branchCount 6
def pc_X9_branchCount : Nat → Nat := fun j => [0, 13, 38, 39, 47].getD j 0
noncomputable def B_X9_entryCount_0 : qI := q_const (0, 0) (q_store 0 1 (q_load 1 0 (q_get 12 3 1 (q_store 1 2 (q_load 1 2 (q_alen (q_store 0 3 (q_const (0, 0) (q_store 0 4 (q_goto 1))))))))))
noncomputable def B_X9_entryCount_1 : qI := q_load 0 4 (q_load 0 3 (q_cmpge 4 (q_load 1 2 (q_load 0 4 (q_ald (111 + 5) 1 (q_store 1 5 (q_load 0 1 (q_load 1 5 (q_get 5 1 0 (q_ifeq 2 (q_load 1 5 (q_get 5 5 0 (q_load 1 5 (q_get 5 4 0 (q_isub (q_goto 3))))))))))))))))
noncomputable def B_X9_entryCount_2 : qI := q_const (0, 0) (q_goto 3)
noncomputable def B_X9_entryCount_3 : qI := q_iadd (q_store 0 1 (q_iinc 4 (1) (q_goto 1)))
noncomputable def B_X9_entryCount_4 : qI := q_load 0 1 (q_ret 0)
noncomputable def P_X9_entryCount : qP := [B_X9_entryCount_0, B_X9_entryCount_1, B_X9_entryCount_2, B_X9_entryCount_3, B_X9_entryCount_4]
noncomputable def f_X9_entryCount : List qV → qA → Option qR := qa_fn P_X9_entryCount 6
def pc_X9_entryCount : Nat → Nat := fun j => [0, 13, 48, 49, 57].getD j 0
noncomputable def B_X11_count_0 : qI := q_load 0 1 (q_const (0, 0) (q_const (0, 17) (q_call f_X11_needRange 3 (q_load 0 1 (q_const (0, 6) (q_cmpgt 1 (q_load 1 0 (q_get 13 0 1 (q_load 0 1 (q_callv 10 f_X7_valueOf 2 (q_ret 0)))))))))))
noncomputable def B_X11_count_1 : qI := q_load 0 1 (q_const (0, 12) (q_cmplt 2 (q_load 0 1 (q_const (0, 15) (q_cmpgt 2 (q_load 1 0 (q_get 13 1 1 (q_load 0 1 (q_const (0, 12) (q_isub (q_callv 12 f_X9_cutsWith 2 (q_ret 0))))))))))))
noncomputable def B_X11_count_2 : qI := q_load 0 1 (q_switch (7) [3, 4, 5, 6, 7, 9, 9, 9, 9, 8] 9)
noncomputable def B_X11_count_3 : qI := q_load 1 0 (q_get 13 1 1 (q_get 12 0 0 (q_ret 0)))
noncomputable def B_X11_count_4 : qI := q_load 1 0 (q_get 13 1 1 (q_callv 12 f_X9_branchCount 1 (q_ret 0)))
noncomputable def B_X11_count_5 : qI := q_load 1 0 (q_get 13 1 1 (q_callv 12 f_X9_readerCount 1 (q_ret 0)))
noncomputable def B_X11_count_6 : qI := q_load 1 0 (q_get 13 1 1 (q_callv 12 f_X9_entryCount 1 (q_ret 0)))
noncomputable def B_X11_count_7 : qI := q_load 1 0 (q_get 13 1 1 (q_get 12 1 0 (q_ret 0)))
noncomputable def B_X11_count_8 : qI := q_load 1 0 (q_get 13 4 1 (q_get 4 2 0 (q_ret 0)))
noncomputable def B_X11_count_9 : qI := q_load 1 0 (q_get 13 5 1 (q_callv 7 f_X4_itemCount 1 (q_ret 0)))
noncomputable def P_X11_count : qP := [B_X11_count_0, B_X11_count_1, B_X11_count_2, B_X11_count_3, B_X11_count_4, B_X11_count_5, B_X11_count_6, B_X11_count_7, B_X11_count_8, B_X11_count_9]
noncomputable def f_X11_count : List qV → qA → Option qR := qa_fn P_X11_count 2
def pc_X11_count : Nat → Nat := fun j => [0, 22, 46, 100, 108, 116, 124, 132, 140, 148].getD j 0
noncomputable def B_X11_branch_0 : qI := q_load 1 0 (q_load 0 1 (q_callv 13 f_X11_needBranch 2 (q_store 1 3 (q_load 0 2 (q_const (0, 0) (q_const (0, 7) (q_call f_X11_needRange 3 (q_load 0 2 (q_switch (0) [1, 2, 3, 4, 5, 6, 7] 8)))))))))
noncomputable def B_X11_branch_1 : qI := q_load 1 3 (q_get 5 4 0 (q_ret 0))
noncomputable def B_X11_branch_2 : qI := q_load 1 3 (q_get 5 5 0 (q_ret 0))
noncomputable def B_X11_branch_3 : qI := q_load 1 3 (q_get 5 6 0 (q_ret 0))
noncomputable def B_X11_branch_4 : qI := q_load 1 3 (q_get 5 2 0 (q_ret 0))
noncomputable def B_X11_branch_5 : qI := q_load 1 3 (q_get 5 3 0 (q_ret 0))
noncomputable def B_X11_branch_6 : qI := q_load 1 0 (q_get 13 1 1 (q_load 1 3 (q_callv 12 f_X9_readersIn 2 (q_ret 0))))
noncomputable def B_X11_branch_7 : qI := q_load 1 0 (q_get 13 1 1 (q_load 1 3 (q_callv 12 f_X9_childrenOf 2 (q_ret 0))))
noncomputable def B_X11_branch_8 : qI := q_load 1 3 (q_get 5 7 0 (q_ret 0))
noncomputable def P_X11_branch : qP := [B_X11_branch_0, B_X11_branch_1, B_X11_branch_2, B_X11_branch_3, B_X11_branch_4, B_X11_branch_5, B_X11_branch_6, B_X11_branch_7, B_X11_branch_8]
noncomputable def f_X11_branch : List qV → qA → Option qR := qa_fn P_X11_branch 4
def pc_X11_branch : Nat → Nat := fun j => [0, 56, 61, 66, 71, 76, 81, 90, 99].getD j 0
noncomputable def B_X11_entry_0 : qI := q_load 1 0 (q_load 0 1 (q_callv 13 f_X11_needBranch 2 (q_store 1 4 (q_load 1 4 (q_load 0 2 (q_callv 5 f_X2_at 2 (q_store 1 5 (q_load 1 5 (q_nonnull 1 ((fun ls st a => if st.length ≤ 4 then q_throw 1 ls st a else none)))))))))))
noncomputable def B_X11_entry_1 : qI := q_load 0 3 (q_const (0, 0) (q_const (0, 4) (q_call f_X11_needRange 3 (q_load 0 3 (q_switch (0) [2, 3, 4, 5] 6)))))
noncomputable def B_X11_entry_2 : qI := q_load 1 5 (q_get 8 0 0 (q_ret 0))
noncomputable def B_X11_entry_3 : qI := q_load 1 5 (q_get 8 1 0 (q_ret 0))
noncomputable def B_X11_entry_4 : qI := q_load 1 5 (q_get 8 2 0 (q_ret 0))
noncomputable def B_X11_entry_5 : qI := q_load 1 5 (q_get 8 3 0 (q_ret 0))
noncomputable def B_X11_entry_6 : qI := q_load 1 0 (q_get 13 1 1 (q_load 1 4 (q_load 0 2 (q_callv 12 f_X9_readersNotBehind 3 (q_ret 0)))))
noncomputable def P_X11_entry : qP := [B_X11_entry_0, B_X11_entry_1, B_X11_entry_2, B_X11_entry_3, B_X11_entry_4, B_X11_entry_5, B_X11_entry_6]
noncomputable def f_X11_entry : List qV → qA → Option qR := qa_fn P_X11_entry 6
def pc_X11_entry : Nat → Nat := fun j => [0, 28, 64, 70, 76, 82, 88].getD j 0
noncomputable def B_X2_sizesFrom_0 : qI := q_const (0, 0) (q_store 0 2 (q_load 0 1 (q_store 0 3 (q_goto 1))))
noncomputable def B_X2_sizesFrom_1 : qI := q_load 0 3 (q_load 1 0 (q_get 5 5 0 (q_cmpge 4 (q_load 1 0 (q_load 0 3 (q_callv 5 f_X2_at 2 (q_store 1 4 (q_load 0 2 (q_load 1 4 (q_nonnull 2 (q_const (0, 0) (q_goto 3))))))))))))
noncomputable def B_X2_sizesFrom_2 : qI := q_load 1 4 (q_get 8 2 0 (q_goto 3))
noncomputable def B_X2_sizesFrom_3 : qI := q_iadd (q_store 0 2 (q_iinc 3 (1) (q_goto 1)))
noncomputable def B_X2_sizesFrom_4 : qI := q_load 0 2 (q_ret 0)
noncomputable def P_X2_sizesFrom : qP := [B_X2_sizesFrom_0, B_X2_sizesFrom_1, B_X2_sizesFrom_2, B_X2_sizesFrom_3, B_X2_sizesFrom_4]
noncomputable def f_X2_sizesFrom : List qV → qA → Option qR := qa_fn P_X2_sizesFrom 5
def pc_X2_sizesFrom : Nat → Nat := fun j => [0, 4, 29, 34, 42].getD j 0
noncomputable def B_X11_reader_0 : qI := q_load 1 0 (q_load 0 1 (q_callv 13 f_X11_needReader 2 (q_store 1 3 (q_load 0 2 (q_const (0, 0) (q_const (0, 10) (q_call f_X11_needRange 3 (q_load 1 0 (q_get 13 1 1 (q_load 1 3 (q_callv 12 f_X9_homeOf 2 (q_store 1 4 (q_load 0 2 (q_switch (0) [1, 2, 3, 4, 5, 6, 7, 10, 11, 12] 13))))))))))))))
noncomputable def B_X11_reader_1 : qI := q_load 1 3 (q_get 9 1 0 (q_ret 0))
noncomputable def B_X11_reader_2 : qI := q_load 1 3 (q_get 9 2 0 (q_ret 0))
noncomputable def B_X11_reader_3 : qI := q_load 1 3 (q_get 9 3 0 (q_ret 0))
noncomputable def B_X11_reader_4 : qI := q_load 1 3 (q_get 9 4 0 (q_ret 0))
noncomputable def B_X11_reader_5 : qI := q_load 1 3 (q_get 9 5 0 (q_ret 0))
noncomputable def B_X11_reader_6 : qI := q_load 1 3 (q_get 9 6 0 (q_ret 0))
noncomputable def B_X11_reader_7 : qI := q_load 1 3 (q_load 1 0 (q_get 13 1 1 (q_get 12 0 0 (q_load 1 0 (q_get 13 0 1 (q_const (0, 3) (q_callv 10 f_X7_valueOf 2 (q_callv 9 f_X6_isCovered 3 (q_ifeq 8 (q_const (0, 1) (q_goto 9)))))))))))
noncomputable def B_X11_reader_8 : qI := q_const (0, 0) (q_goto 9)
noncomputable def B_X11_reader_9 : qI := q_ret 0
noncomputable def B_X11_reader_10 : qI := q_load 1 4 (q_get 5 5 0 (q_load 1 3 (q_get 9 2 0 (q_isub (q_ret 0)))))
noncomputable def B_X11_reader_11 : qI := q_load 1 4 (q_load 1 3 (q_get 9 2 0 (q_callv 5 f_X2_sizesFrom 2 (q_ret 0))))
noncomputable def B_X11_reader_12 : qI := q_load 1 3 (q_get 9 7 0 (q_ret 0))
noncomputable def B_X11_reader_13 : qI := q_load 1 3 (q_get 9 8 0 (q_ret 0))
noncomputable def P_X11_reader : qP := [B_X11_reader_0, B_X11_reader_1, B_X11_reader_2, B_X11_reader_3, B_X11_reader_4, B_X11_reader_5, B_X11_reader_6, B_X11_reader_7, B_X11_reader_8, B_X11_reader_9, B_X11_reader_10, B_X11_reader_11, B_X11_reader_12, B_X11_reader_13]
noncomputable def f_X11_reader : List qV → qA → Option qR := qa_fn P_X11_reader 5
def pc_X11_reader : Nat → Nat := fun j => [0, 80, 85, 90, 95, 100, 105, 110, 136, 137, 138, 149, 159, 164].getD j 0
noncomputable def B_X3_numberOf_0 : qI := q_load 0 1 (q_switch (0) [1, 2, 3, 4, 5, 6] 7)
noncomputable def B_X3_numberOf_1 : qI := q_load 1 0 (q_get 6 0 0 (q_ret 0))
noncomputable def B_X3_numberOf_2 : qI := q_load 1 0 (q_get 6 1 0 (q_ret 0))
noncomputable def B_X3_numberOf_3 : qI := q_load 1 0 (q_get 6 2 0 (q_ret 0))
noncomputable def B_X3_numberOf_4 : qI := q_load 1 0 (q_get 6 3 0 (q_ret 0))
noncomputable def B_X3_numberOf_5 : qI := q_load 1 0 (q_get 6 4 0 (q_ret 0))
noncomputable def B_X3_numberOf_6 : qI := q_load 1 0 (q_get 6 5 0 (q_ret 0))
noncomputable def B_X3_numberOf_7 : qI := q_load 1 0 (q_get 6 6 0 (q_ret 0))
noncomputable def P_X3_numberOf : qP := [B_X3_numberOf_0, B_X3_numberOf_1, B_X3_numberOf_2, B_X3_numberOf_3, B_X3_numberOf_4, B_X3_numberOf_5, B_X3_numberOf_6, B_X3_numberOf_7]
noncomputable def f_X3_numberOf : List qV → qA → Option qR := qa_fn P_X3_numberOf 2
def pc_X3_numberOf : Nat → Nat := fun j => [0, 40, 45, 50, 55, 60, 65, 70].getD j 0
noncomputable def B_X11_debt_0 : qI := q_load 1 0 (q_load 0 1 (q_callv 13 f_X11_needReader 2 (q_store 1 3 (q_load 0 2 (q_const (0, 0) (q_const (0, 6) (q_call f_X11_needRange 3 (q_load 1 3 (q_get 9 9 1 (q_load 0 2 (q_callv 6 f_X3_numberOf 2 (q_ret 0))))))))))))
noncomputable def P_X11_debt : qP := [B_X11_debt_0]
noncomputable def f_X11_debt : List qV → qA → Option qR := qa_fn P_X11_debt 4
def pc_X11_debt : Nat → Nat := fun j => [0].getD j 0
noncomputable def B_X3_latestWith_0 : qI := q_load 0 1 (q_iflt 1 (q_load 0 1 (q_load 1 0 (q_get 6 7 1 (q_alen (q_cmpge 1 (q_load 1 0 (q_get 6 7 1 (q_load 0 1 (q_ald 101 0 (q_goto 2)))))))))))
noncomputable def B_X3_latestWith_1 : qI := q_const (0, -1000) (q_goto 2)
noncomputable def B_X3_latestWith_2 : qI := q_ret 0
noncomputable def P_X3_latestWith : qP := [B_X3_latestWith_0, B_X3_latestWith_1, B_X3_latestWith_2]
noncomputable def f_X3_latestWith : List qV → qA → Option qR := qa_fn P_X3_latestWith 2
def pc_X3_latestWith : Nat → Nat := fun j => [0, 22, 25].getD j 0
noncomputable def B_X11_debtOf_0 : qI := q_load 1 0 (q_load 0 1 (q_callv 13 f_X11_needReader 2 (q_store 1 3 (q_load 0 2 (q_const (0, 0) (q_const (0, 9) (q_call f_X11_needRange 3 (q_load 1 3 (q_get 9 9 1 (q_load 0 2 (q_callv 6 f_X3_latestWith 2 (q_ret 0))))))))))))
noncomputable def P_X11_debtOf : qP := [B_X11_debtOf_0]
noncomputable def f_X11_debtOf : List qV → qA → Option qR := qa_fn P_X11_debtOf 4
def pc_X11_debtOf : Nat → Nat := fun j => [0].getD j 0
noncomputable def B_X4_numberOf_0 : qI := q_load 1 0 (q_get 7 0 0 (q_ifeq 3 (q_load 0 1 (q_ifne 3 (q_load 0 2 (q_ifne 1 (q_const (0, 1) (q_goto 2))))))))
noncomputable def B_X4_numberOf_1 : qI := q_load 1 0 (q_get 7 1 1 (q_load 0 2 (q_const (0, 1) (q_isub (q_callv 6 f_X3_numberOf 2 (q_goto 2))))))
noncomputable def B_X4_numberOf_2 : qI := q_ret 0
noncomputable def B_X4_numberOf_3 : qI := q_load 1 0 (q_get 7 0 0 (q_ifeq 4 (q_load 0 1 (q_const (0, 1) (q_isub (q_goto 5))))))
noncomputable def B_X4_numberOf_4 : qI := q_load 0 1 (q_goto 5)
noncomputable def B_X4_numberOf_5 : qI := q_store 0 3 (q_load 0 3 (q_iflt 6 (q_load 0 3 (q_load 1 0 (q_get 7 4 1 (q_alen (q_cmpge 6 (q_load 1 0 (q_get 7 4 1 (q_load 0 3 (q_ald (111 + 8) 1 (q_goto 7))))))))))))
noncomputable def B_X4_numberOf_6 : qI := q_const (1, -1) (q_goto 7)
noncomputable def B_X4_numberOf_7 : qI := q_store 1 4 (q_load 1 4 (q_nonnull 8 (q_const (0, -1) (q_ret 0))))
noncomputable def B_X4_numberOf_8 : qI := q_load 0 2 (q_switch (0) [9, 10, 11, 12, 13] 14)
noncomputable def B_X4_numberOf_9 : qI := q_const (0, 0) (q_ret 0)
noncomputable def B_X4_numberOf_10 : qI := q_load 1 0 (q_get 7 2 0 (q_load 0 3 (q_iadd (q_ret 0))))
noncomputable def B_X4_numberOf_11 : qI := q_load 1 4 (q_get 8 1 0 (q_ret 0))
noncomputable def B_X4_numberOf_12 : qI := q_load 1 4 (q_get 8 2 0 (q_ret 0))
noncomputable def B_X4_numberOf_13 : qI := q_load 1 4 (q_get 8 3 0 (q_ret 0))
noncomputable def B_X4_numberOf_14 : qI := q_const (0, -1) (q_ret 0)
noncomputable def P_X4_numberOf : qP := [B_X4_numberOf_0, B_X4_numberOf_1, B_X4_numberOf_2, B_X4_numberOf_3, B_X4_numberOf_4, B_X4_numberOf_5, B_X4_numberOf_6, B_X4_numberOf_7, B_X4_numberOf_8, B_X4_numberOf_9, B_X4_numberOf_10, B_X4_numberOf_11, B_X4_numberOf_12, B_X4_numberOf_13, B_X4_numberOf_14]
noncomputable def f_X4_numberOf : List qV → qA → Option qR := qa_fn P_X4_numberOf 5
def pc_X4_numberOf : Nat → Nat := fun j => [0, 19, 29, 30, 43, 44, 67, 68, 77, 112, 114, 121, 127, 133, 139].getD j 0
noncomputable def B_X11_item_0 : qI := q_load 0 1 (q_iflt 1 (q_load 0 1 (q_load 1 0 (q_get 13 5 1 (q_callv 7 f_X4_itemCount 1 (q_cmplt 2 (q_goto 1)))))))
noncomputable def B_X11_item_1 : qI := (fun ls st a => if st.length ≤ 4 then q_throw 1 ls st a else none)
noncomputable def B_X11_item_2 : qI := q_load 0 2 (q_const (0, 0) (q_const (0, 7) (q_call f_X11_needRange 3 (q_load 1 0 (q_get 13 5 1 (q_load 0 1 (q_load 0 2 (q_callv 7 f_X4_numberOf 3 (q_ret 0)))))))))
noncomputable def P_X11_item : qP := [B_X11_item_0, B_X11_item_1, B_X11_item_2]
noncomputable def f_X11_item : List qV → qA → Option qR := qa_fn P_X11_item 3
def pc_X11_item : Nat → Nat := fun j => [0, 15, 23].getD j 0
noncomputable def B_X1_accountOf_0 : qI := q_load 0 1 (q_iflt 1 (q_load 0 1 (q_load 1 0 (q_get 4 0 1 (q_alen (q_cmpge 1 (q_load 1 0 (q_get 4 0 1 (q_load 0 1 (q_ald 101 0 (q_goto 2)))))))))))
noncomputable def B_X1_accountOf_1 : qI := q_const (0, 0) (q_goto 2)
noncomputable def B_X1_accountOf_2 : qI := q_ret 0
noncomputable def P_X1_accountOf : qP := [B_X1_accountOf_0, B_X1_accountOf_1, B_X1_accountOf_2]
noncomputable def f_X1_accountOf : List qV → qA → Option qR := qa_fn P_X1_accountOf 2
def pc_X1_accountOf : Nat → Nat := fun j => [0, 22, 23].getD j 0
noncomputable def B_X11_account_0 : qI := q_load 0 1 (q_const (0, 0) (q_const (0, 10) (q_call f_X11_needRange 3 (q_load 1 0 (q_get 13 4 1 (q_load 0 1 (q_callv 4 f_X1_accountOf 2 (q_ret 0))))))))
noncomputable def P_X11_account : qP := [B_X11_account_0]
noncomputable def f_X11_account : List qV → qA → Option qR := qa_fn P_X11_account 2
def pc_X11_account : Nat → Nat := fun j => [0].getD j 0
noncomputable def B_X11_common_0 : qI := q_load 1 0 (q_load 0 1 (q_callv 13 f_X11_needBranch 2 (q_store 1 3 (q_load 1 0 (q_load 0 2 (q_callv 13 f_X11_needBranch 2 (q_store 1 4 (q_load 1 0 (q_get 13 1 1 (q_load 1 3 (q_load 1 4 (q_callv 12 f_X9_alikeUpTo 3 (q_ret 0)))))))))))))
noncomputable def P_X11_common : qP := [B_X11_common_0]
noncomputable def f_X11_common : List qV → qA → Option qR := qa_fn P_X11_common 5
def pc_X11_common : Nat → Nat := fun j => [0].getD j 0
noncomputable def B_X11_holder_0 : qI := q_load 1 0 (q_get 13 1 1 (q_load 1 0 (q_load 0 1 (q_callv 13 f_X11_needBranch 2 (q_load 1 0 (q_get 13 0 1 (q_callv 12 f_X9_holderOf 3 (q_ret 0))))))))
noncomputable def P_X11_holder : qP := [B_X11_holder_0]
noncomputable def f_X11_holder : List qV → qA → Option qR := qa_fn P_X11_holder 2
def pc_X11_holder : Nat → Nat := fun j => [0].getD j 0
noncomputable def B_X9_slowestIn_0 : qI := q_const (0, -1) (q_store 0 2 (q_const (0, 1073741824) (q_store 0 3 (q_const (0, 0) (q_store 0 4 (q_goto 1))))))
noncomputable def B_X9_slowestIn_1 : qI := q_load 0 4 (q_load 1 0 (q_get 12 4 1 (q_alen (q_cmpge 3 (q_load 1 0 (q_get 12 4 1 (q_load 0 4 (q_ald (111 + 9) 1 (q_store 1 5 (q_load 1 5 (q_load 1 1 (q_callv 9 f_X6_isIn 2 (q_ifeq 2 (q_load 1 5 (q_get 9 2 0 (q_load 0 3 (q_cmpge 2 (q_load 0 4 (q_store 0 2 (q_load 1 5 (q_get 9 2 0 (q_store 0 3 (q_goto 2)))))))))))))))))))))))
noncomputable def B_X9_slowestIn_2 : qI := q_iinc 4 (1) (q_goto 1)
noncomputable def B_X9_slowestIn_3 : qI := q_load 0 2 (q_ret 0)
noncomputable def P_X9_slowestIn : qP := [B_X9_slowestIn_0, B_X9_slowestIn_1, B_X9_slowestIn_2, B_X9_slowestIn_3]
noncomputable def f_X9_slowestIn : List qV → qA → Option qR := qa_fn P_X9_slowestIn 6
def pc_X9_slowestIn : Nat → Nat := fun j => [0, 8, 54, 60].getD j 0
noncomputable def B_X11_slowest_0 : qI := q_load 1 0 (q_get 13 1 1 (q_load 1 0 (q_load 0 1 (q_callv 13 f_X11_needBranch 2 (q_callv 12 f_X9_slowestIn 2 (q_ret 0))))))
noncomputable def P_X11_slowest : qP := [B_X11_slowest_0]
noncomputable def f_X11_slowest : List qV → qA → Option qR := qa_fn P_X11_slowest 2
def pc_X11_slowest : Nat → Nat := fun j => [0].getD j 0
noncomputable def B_X11_cause_0 : qI := q_load 1 0 (q_get 13 1 1 (q_load 1 0 (q_load 0 1 (q_callv 13 f_X11_needBranch 2 (q_load 1 0 (q_get 13 0 1 (q_callv 12 f_X9_causeFor 3 (q_ret 0))))))))
noncomputable def P_X11_cause : qP := [B_X11_cause_0]
noncomputable def f_X11_cause : List qV → qA → Option qR := qa_fn P_X11_cause 2
def pc_X11_cause : Nat → Nat := fun j => [0].getD j 0
noncomputable def B_X2_latestWith_0 : qI := q_load 1 0 (q_get 5 5 0 (q_const (0, 1) (q_isub (q_store 0 2 (q_goto 1)))))
noncomputable def B_X2_latestWith_1 : qI := q_load 0 2 (q_load 1 0 (q_get 5 4 0 (q_cmplt 3 (q_load 1 0 (q_load 0 2 (q_callv 5 f_X2_at 2 (q_store 1 3 (q_load 1 3 (q_null 2 (q_load 1 3 (q_get 8 1 0 (q_load 0 1 (q_cmpne 2 (q_load 1 3 (q_get 8 3 0 (q_ret 0))))))))))))))))
noncomputable def B_X2_latestWith_2 : qI := q_iinc 2 (-1) (q_goto 1)
noncomputable def B_X2_latestWith_3 : qI := q_const (0, -1000) (q_ret 0)
noncomputable def P_X2_latestWith : qP := [B_X2_latestWith_0, B_X2_latestWith_1, B_X2_latestWith_2, B_X2_latestWith_3]
noncomputable def f_X2_latestWith : List qV → qA → Option qR := qa_fn P_X2_latestWith 4
def pc_X2_latestWith : Nat → Nat := fun j => [0, 7, 38, 44].getD j 0
noncomputable def B_X11_latest_0 : qI := q_load 1 0 (q_load 0 1 (q_callv 13 f_X11_needBranch 2 (q_store 1 3 (q_load 0 2 (q_const (0, 0) (q_const (0, 9) (q_call f_X11_needRange 3 (q_load 1 3 (q_load 0 2 (q_callv 5 f_X2_latestWith 2 (q_ret 0)))))))))))
noncomputable def P_X11_latest : qP := [B_X11_latest_0]
noncomputable def f_X11_latest : List qV → qA → Option qR := qa_fn P_X11_latest 4
def pc_X11_latest : Nat → Nat := fun j => [0].getD j 0
noncomputable def B_X2_valueSum_0 : qI := q_const (0, 0) (q_store 0 1 (q_load 1 0 (q_get 5 4 0 (q_store 0 2 (q_goto 1)))))
noncomputable def B_X2_valueSum_1 : qI := q_load 0 2 (q_load 1 0 (q_get 5 5 0 (q_cmpge 4 (q_load 1 0 (q_load 0 2 (q_callv 5 f_X2_at 2 (q_store 1 3 (q_load 0 1 (q_load 1 3 (q_nonnull 2 (q_const (0, 0) (q_goto 3))))))))))))
noncomputable def B_X2_valueSum_2 : qI := q_load 1 3 (q_get 8 3 0 (q_goto 3))
noncomputable def B_X2_valueSum_3 : qI := q_iadd (q_store 0 1 (q_iinc 2 (1) (q_goto 1)))
noncomputable def B_X2_valueSum_4 : qI := q_load 0 1 (q_ret 0)
noncomputable def P_X2_valueSum : qP := [B_X2_valueSum_0, B_X2_valueSum_1, B_X2_valueSum_2, B_X2_valueSum_3, B_X2_valueSum_4]
noncomputable def f_X2_valueSum : List qV → qA → Option qR := qa_fn P_X2_valueSum 4
def pc_X2_valueSum : Nat → Nat := fun j => [0, 7, 30, 34, 42].getD j 0
noncomputable def B_X11_mean_0 : qI := q_load 1 0 (q_load 0 1 (q_callv 13 f_X11_needBranch 2 (q_store 1 2 (q_load 1 2 (q_get 5 5 0 (q_load 1 2 (q_get 5 4 0 (q_isub (q_store 0 3 (q_load 0 3 (q_ifgt 1 (q_const (4, 0) (q_ret 4)))))))))))))
noncomputable def B_X11_mean_1 : qI := q_load 1 2 (q_callv 5 f_X2_valueSum 1 (q_i2d (q_load 0 3 (q_i2d (q_ddiv (q_ret 4))))))
noncomputable def P_X11_mean : qP := [B_X11_mean_0, B_X11_mean_1]
noncomputable def f_X11_mean : List qV → qA → Option qR := qa_fn P_X11_mean 4
def pc_X11_mean : Nat → Nat := fun j => [0, 22].getD j 0
noncomputable def B_X11_trust_0 : qI := q_load 1 0 (q_load 0 1 (q_callv 13 f_X11_needReader 2 (q_store 1 2 (q_load 1 2 (q_get 9 5 0 (q_load 1 2 (q_get 9 6 0 (q_iadd (q_store 0 3 (q_load 0 3 (q_ifgt 1 (q_const (3, 1065353216) (q_ret 3)))))))))))))
noncomputable def B_X11_trust_1 : qI := q_load 1 2 (q_get 9 5 0 (q_i2f (q_load 0 3 (q_i2f (q_fdiv (q_ret 3))))))
noncomputable def P_X11_trust : qP := [B_X11_trust_0, B_X11_trust_1]
noncomputable def f_X11_trust : List qV → qA → Option qR := qa_fn P_X11_trust 4
def pc_X11_trust : Nat → Nat := fun j => [0, 22].getD j 0
noncomputable def B_X9_brokenCount_0 : qI := q_const (0, 0) (q_store 0 1 (q_load 1 0 (q_get 12 4 1 (q_store 1 2 (q_load 1 2 (q_alen (q_store 0 3 (q_const (0, 0) (q_store 0 4 (q_goto 1))))))))))
noncomputable def B_X9_brokenCount_1 : qI := q_load 0 4 (q_load 0 3 (q_cmpge 4 (q_load 1 2 (q_load 0 4 (q_ald (111 + 9) 1 (q_store 1 5 (q_load 0 1 (q_load 1 5 (q_get 9 0 0 (q_ifeq 2 (q_load 1 5 (q_get 9 6 0 (q_goto 3)))))))))))))
noncomputable def B_X9_brokenCount_2 : qI := q_const (0, 0) (q_goto 3)
noncomputable def B_X9_brokenCount_3 : qI := q_iadd (q_store 0 1 (q_iinc 4 (1) (q_goto 1)))
noncomputable def B_X9_brokenCount_4 : qI := q_load 0 1 (q_ret 0)
noncomputable def P_X9_brokenCount : qP := [B_X9_brokenCount_0, B_X9_brokenCount_1, B_X9_brokenCount_2, B_X9_brokenCount_3, B_X9_brokenCount_4]
noncomputable def f_X9_brokenCount : List qV → qA → Option qR := qa_fn P_X9_brokenCount 6
def pc_X9_brokenCount : Nat → Nat := fun j => [0, 13, 42, 43, 51].getD j 0
noncomputable def B_X9_debtCount_0 : qI := q_const (0, 0) (q_store 0 1 (q_load 1 0 (q_get 12 4 1 (q_store 1 2 (q_load 1 2 (q_alen (q_store 0 3 (q_const (0, 0) (q_store 0 4 (q_goto 1))))))))))
noncomputable def B_X9_debtCount_1 : qI := q_load 0 4 (q_load 0 3 (q_cmpge 4 (q_load 1 2 (q_load 0 4 (q_ald (111 + 9) 1 (q_store 1 5 (q_load 0 1 (q_load 1 5 (q_get 9 0 0 (q_ifeq 2 (q_load 1 5 (q_get 9 9 1 (q_get 6 0 0 (q_goto 3))))))))))))))
noncomputable def B_X9_debtCount_2 : qI := q_const (0, 0) (q_goto 3)
noncomputable def B_X9_debtCount_3 : qI := q_iadd (q_store 0 1 (q_iinc 4 (1) (q_goto 1)))
noncomputable def B_X9_debtCount_4 : qI := q_load 0 1 (q_ret 0)
noncomputable def P_X9_debtCount : qP := [B_X9_debtCount_0, B_X9_debtCount_1, B_X9_debtCount_2, B_X9_debtCount_3, B_X9_debtCount_4]
noncomputable def f_X9_debtCount : List qV → qA → Option qR := qa_fn P_X9_debtCount 6
def pc_X9_debtCount : Nat → Nat := fun j => [0, 13, 45, 46, 54].getD j 0
noncomputable def B_X9_greatestTotal_0 : qI := q_const (0, 0) (q_store 0 1 (q_load 1 0 (q_get 12 3 1 (q_store 1 2 (q_load 1 2 (q_alen (q_store 0 3 (q_const (0, 0) (q_store 0 4 (q_goto 1))))))))))
noncomputable def B_X9_greatestTotal_1 : qI := q_load 0 4 (q_load 0 3 (q_cmpge 4 (q_load 1 2 (q_load 0 4 (q_ald (111 + 5) 1 (q_store 1 5 (q_load 1 5 (q_get 5 1 0 (q_ifeq 2 (q_load 1 5 (q_get 5 6 0 (q_load 0 1 (q_cmple 2 (q_load 1 5 (q_get 5 6 0 (q_goto 3))))))))))))))))
noncomputable def B_X9_greatestTotal_2 : qI := q_load 0 1 (q_goto 3)
noncomputable def B_X9_greatestTotal_3 : qI := q_store 0 1 (q_iinc 4 (1) (q_goto 1))
noncomputable def B_X9_greatestTotal_4 : qI := q_load 0 1 (q_ret 0)
noncomputable def P_X9_greatestTotal : qP := [B_X9_greatestTotal_0, B_X9_greatestTotal_1, B_X9_greatestTotal_2, B_X9_greatestTotal_3, B_X9_greatestTotal_4]
noncomputable def f_X9_greatestTotal : List qV → qA → Option qR := qa_fn P_X9_greatestTotal 6
def pc_X9_greatestTotal : Nat → Nat := fun j => [0, 13, 50, 51, 58].getD j 0
noncomputable def B_X11_ahead_0 : qI := q_load 0 1 (q_const (0, 1) (q_const (0, 99) (q_call f_X11_needRange 3 (q_load 0 2 (q_const (0, 0) (q_const (0, 3) (q_call f_X11_needRange 3 (q_load 1 0 (q_get 13 2 1 (q_load 1 0 (q_get 13 1 1 (q_callv 12 f_X9_copyFrom 2 (q_const (0, 0) (q_store 0 3 (q_const (0, 0) (q_store 0 4 (q_goto 1)))))))))))))))))
noncomputable def B_X11_ahead_1 : qI := q_load 0 4 (q_load 0 1 (q_cmpge 2 (q_load 0 3 (q_load 1 0 (q_get 13 2 1 (q_load 1 0 (q_get 13 0 1 (q_callv 12 f_X9_tick 2 (q_iadd (q_store 0 3 (q_iinc 4 (1) (q_goto 1))))))))))))
noncomputable def B_X11_ahead_2 : qI := q_load 0 2 (q_switch (0) [3, 4, 5] 6)
noncomputable def B_X11_ahead_3 : qI := q_load 0 3 (q_ret 0)
noncomputable def B_X11_ahead_4 : qI := q_load 1 0 (q_get 13 2 1 (q_callv 12 f_X9_brokenCount 1 (q_load 1 0 (q_get 13 1 1 (q_callv 12 f_X9_brokenCount 1 (q_isub (q_ret 0)))))))
noncomputable def B_X11_ahead_5 : qI := q_load 1 0 (q_get 13 2 1 (q_callv 12 f_X9_debtCount 1 (q_load 1 0 (q_get 13 1 1 (q_callv 12 f_X9_debtCount 1 (q_isub (q_ret 0)))))))
noncomputable def B_X11_ahead_6 : qI := q_load 1 0 (q_get 13 2 1 (q_callv 12 f_X9_greatestTotal 1 (q_ret 0)))
noncomputable def P_X11_ahead : qP := [B_X11_ahead_0, B_X11_ahead_1, B_X11_ahead_2, B_X11_ahead_3, B_X11_ahead_4, B_X11_ahead_5, B_X11_ahead_6]
noncomputable def f_X11_ahead : List qV → qA → Option qR := qa_fn P_X11_ahead 5
def pc_X11_ahead : Nat → Nat := fun j => [0, 29, 55, 84, 86, 102, 118].getD j 0
noncomputable def B_X9_owedTo_0 : qI := q_load 1 0 (q_load 0 1 (q_callv 12 f_X9_readerAt 2 (q_store 1 2 (q_load 1 2 (q_nonnull 1 (q_const (0, 0) (q_goto 2)))))))
noncomputable def B_X9_owedTo_1 : qI := q_load 1 2 (q_get 9 9 1 (q_get 6 0 0 (q_goto 2)))
noncomputable def B_X9_owedTo_2 : qI := q_ret 0
noncomputable def P_X9_owedTo : qP := [B_X9_owedTo_0, B_X9_owedTo_1, B_X9_owedTo_2]
noncomputable def f_X9_owedTo : List qV → qA → Option qR := qa_fn P_X9_owedTo 3
def pc_X9_owedTo : Nat → Nat := fun j => [0, 14, 21].getD j 0
noncomputable def B_X11_losesIn_0 : qI := q_load 1 0 (q_load 0 1 (q_callv 13 f_X11_needReader 2 (q_store 1 3 (q_load 0 2 (q_const (0, 1) (q_const (0, 200) (q_call f_X11_needRange 3 (q_load 1 0 (q_get 13 2 1 (q_load 1 0 (q_get 13 1 1 (q_callv 12 f_X9_copyFrom 2 (q_const (0, 1) (q_store 0 4 (q_goto 1)))))))))))))))
noncomputable def B_X11_losesIn_1 : qI := q_load 0 4 (q_load 0 2 (q_cmpgt 3 (q_load 1 0 (q_get 13 2 1 (q_load 1 0 (q_get 13 0 1 (q_callv 12 f_X9_tick 2 (q_pop (q_load 1 0 (q_get 13 2 1 (q_load 0 1 (q_callv 12 f_X9_owedTo 2 (q_load 1 3 (q_get 9 9 1 (q_get 6 0 0 (q_cmpeq 2 (q_load 0 4 (q_ret 0))))))))))))))))))
noncomputable def B_X11_losesIn_2 : qI := q_iinc 4 (1) (q_goto 1)
noncomputable def B_X11_losesIn_3 : qI := q_const (0, -1) (q_ret 0)
noncomputable def P_X11_losesIn : qP := [B_X11_losesIn_0, B_X11_losesIn_1, B_X11_losesIn_2, B_X11_losesIn_3]
noncomputable def f_X11_losesIn : List qV → qA → Option qR := qa_fn P_X11_losesIn 5
def pc_X11_losesIn : Nat → Nat := fun j => [0, 28, 67, 73].getD j 0
noncomputable def B_X11_wouldCut_0 : qI := q_load 1 0 (q_load 0 1 (q_callv 13 f_X11_needBranch 2 (q_pop (q_load 0 2 (q_const (0, 1) (q_const (0, 9) (q_call f_X11_needRange 3 (q_load 1 0 (q_get 13 2 1 (q_load 1 0 (q_get 13 1 1 (q_callv 12 f_X9_copyFrom 2 (q_load 1 0 (q_get 13 2 1 (q_load 0 1 (q_callv 12 f_X9_branchAt 2 (q_store 1 3 (q_load 1 3 (q_nonnull 1 (q_const (0, 0) (q_ret 0)))))))))))))))))))))
noncomputable def B_X11_wouldCut_1 : qI := q_load 1 3 (q_new 8 4 z_X5 (q_dup (q_load 1 0 (q_get 13 1 1 (q_get 12 0 0 (q_const (0, 0) (q_load 0 2 (q_const (0, 0) (q_callv 8 f_X5_init 5 (q_callv 5 f_X2_add 2 (q_load 1 0 (q_get 13 2 1 (q_load 1 3 (q_load 1 0 (q_get 13 0 1 (q_callv 12 f_X9_cutBehind 3 (q_ret 0)))))))))))))))))
noncomputable def P_X11_wouldCut : qP := [B_X11_wouldCut_0, B_X11_wouldCut_1]
noncomputable def f_X11_wouldCut : List qV → qA → Option qR := qa_fn P_X11_wouldCut 4
def pc_X11_wouldCut : Nat → Nat := fun j => [0, 39].getD j 0
noncomputable def B_X2_countFrom_0 : qI := q_const (0, 0) (q_store 0 3 (q_load 0 1 (q_store 0 4 (q_goto 1))))
noncomputable def B_X2_countFrom_1 : qI := q_load 0 4 (q_load 1 0 (q_get 5 5 0 (q_cmpge 4 (q_load 1 0 (q_load 0 4 (q_callv 5 f_X2_at 2 (q_store 1 5 (q_load 0 3 (q_load 1 5 (q_null 2 (q_load 1 5 (q_get 8 1 0 (q_load 0 2 (q_cmpne 2 (q_const (0, 1) (q_goto 3))))))))))))))))
noncomputable def B_X2_countFrom_2 : qI := q_const (0, 0) (q_goto 3)
noncomputable def B_X2_countFrom_3 : qI := q_iadd (q_store 0 3 (q_iinc 4 (1) (q_goto 1)))
noncomputable def B_X2_countFrom_4 : qI := q_load 0 3 (q_ret 0)
noncomputable def P_X2_countFrom : qP := [B_X2_countFrom_0, B_X2_countFrom_1, B_X2_countFrom_2, B_X2_countFrom_3, B_X2_countFrom_4]
noncomputable def f_X2_countFrom : List qV → qA → Option qR := qa_fn P_X2_countFrom 6
def pc_X2_countFrom : Nat → Nat := fun j => [0, 5, 41, 42, 50].getD j 0
noncomputable def B_X11_unread_0 : qI := q_load 1 0 (q_load 0 1 (q_callv 13 f_X11_needReader 2 (q_store 1 3 (q_load 0 2 (q_const (0, 0) (q_const (0, 9) (q_call f_X11_needRange 3 (q_load 1 0 (q_get 13 1 1 (q_load 1 3 (q_callv 12 f_X9_homeOf 2 (q_load 1 3 (q_get 9 2 0 (q_load 0 2 (q_callv 5 f_X2_countFrom 3 (q_ret 0))))))))))))))))
noncomputable def P_X11_unread : qP := [B_X11_unread_0]
noncomputable def f_X11_unread : List qV → qA → Option qR := qa_fn P_X11_unread 4
def pc_X11_unread : Nat → Nat := fun j => [0].getD j 0
noncomputable def B_X9_promisesAhead_0 : qI := q_const (0, 0) (q_store 0 3 (q_const (0, 0) (q_store 0 4 (q_goto 1))))
noncomputable def B_X9_promisesAhead_1 : qI := q_load 0 4 (q_load 1 0 (q_get 12 4 1 (q_alen (q_cmpge 7 (q_load 1 0 (q_get 12 4 1 (q_load 0 4 (q_ald (111 + 9) 1 (q_store 1 5 (q_load 1 5 (q_get 9 4 0 (q_load 0 2 (q_cmplt 2 (q_load 1 5 (q_get 9 4 0 (q_load 0 2 (q_cmpne 3 (q_load 0 4 (q_load 0 1 (q_cmpge 3 (q_goto 2)))))))))))))))))))))
noncomputable def B_X9_promisesAhead_2 : qI := q_const (0, 1) (q_goto 4)
noncomputable def B_X9_promisesAhead_3 : qI := q_const (0, 0) (q_goto 4)
noncomputable def B_X9_promisesAhead_4 : qI := q_store 0 6 (q_load 0 3 (q_load 1 5 (q_callv 9 f_X6_hasPromise 1 (q_ifeq 5 (q_load 0 6 (q_ifeq 5 (q_const (0, 1) (q_goto 6))))))))
noncomputable def B_X9_promisesAhead_5 : qI := q_const (0, 0) (q_goto 6)
noncomputable def B_X9_promisesAhead_6 : qI := q_iadd (q_store 0 3 (q_iinc 4 (1) (q_goto 1)))
noncomputable def B_X9_promisesAhead_7 : qI := q_load 0 3 (q_ret 0)
noncomputable def P_X9_promisesAhead : qP := [B_X9_promisesAhead_0, B_X9_promisesAhead_1, B_X9_promisesAhead_2, B_X9_promisesAhead_3, B_X9_promisesAhead_4, B_X9_promisesAhead_5, B_X9_promisesAhead_6, B_X9_promisesAhead_7]
noncomputable def f_X9_promisesAhead : List qV → qA → Option qR := qa_fn P_X9_promisesAhead 7
def pc_X9_promisesAhead : Nat → Nat := fun j => [0, 5, 48, 52, 53, 73, 74, 82].getD j 0
noncomputable def B_X9_promisedAt_0 : qI := q_const (0, 0) (q_store 0 2 (q_goto 1))
noncomputable def B_X9_promisedAt_1 : qI := q_load 0 2 (q_load 1 0 (q_get 12 4 1 (q_alen (q_cmpge 3 (q_load 1 0 (q_get 12 4 1 (q_load 0 2 (q_ald (111 + 9) 1 (q_callv 9 f_X6_hasPromise 1 (q_ifeq 2 (q_load 1 0 (q_load 0 2 (q_load 1 0 (q_get 12 4 1 (q_load 0 2 (q_ald (111 + 9) 1 (q_get 9 4 0 (q_callv 12 f_X9_promisesAhead 3 (q_load 0 1 (q_cmpne 2 (q_load 0 2 (q_ret 0))))))))))))))))))))))
noncomputable def B_X9_promisedAt_2 : qI := q_iinc 2 (1) (q_goto 1)
noncomputable def B_X9_promisedAt_3 : qI := q_const (0, -1) (q_ret 0)
noncomputable def P_X9_promisedAt : qP := [B_X9_promisedAt_0, B_X9_promisedAt_1, B_X9_promisedAt_2, B_X9_promisedAt_3]
noncomputable def f_X9_promisedAt : List qV → qA → Option qR := qa_fn P_X9_promisedAt 3
def pc_X9_promisedAt : Nat → Nat := fun j => [0, 2, 43, 49].getD j 0
noncomputable def B_X11_promised_0 : qI := q_load 0 1 (q_ifge 1 ((fun ls st a => if st.length ≤ 4 then q_throw 1 ls st a else none)))
noncomputable def B_X11_promised_1 : qI := q_load 1 0 (q_get 13 1 1 (q_load 0 1 (q_callv 12 f_X9_promisedAt 2 (q_ret 0))))
noncomputable def P_X11_promised : qP := [B_X11_promised_0, B_X11_promised_1]
noncomputable def f_X11_promised : List qV → qA → Option qR := qa_fn P_X11_promised 2
def pc_X11_promised : Nat → Nat := fun j => [0, 12].getD j 0
noncomputable def B_X11_age_0 : qI := q_load 1 0 (q_load 0 1 (q_callv 13 f_X11_needBranch 2 (q_store 1 2 (q_load 1 2 (q_load 1 2 (q_get 5 4 0 (q_callv 5 f_X2_at 2 (q_store 1 3 (q_load 1 3 (q_nonnull 1 (q_const (0, -1) (q_goto 2))))))))))))
noncomputable def B_X11_age_1 : qI := q_load 1 0 (q_get 13 1 1 (q_get 12 0 0 (q_load 1 3 (q_get 8 0 0 (q_isub (q_goto 2))))))
noncomputable def B_X11_age_2 : qI := q_ret 0
noncomputable def P_X11_age : qP := [B_X11_age_0, B_X11_age_1, B_X11_age_2]
noncomputable def f_X11_age : List qV → qA → Option qR := qa_fn P_X11_age 4
def pc_X11_age : Nat → Nat := fun j => [0, 23, 35].getD j 0
noncomputable def B_J8_hugeLength_7cf53_0 : qI := q_load 0 0 (q_load 0 1 (q_iadd (q_store 0 2 (q_load 0 2 (q_ifge 1 (fun _ _ _ => none))))))
noncomputable def B_J8_hugeLength_7cf53_1 : qI := q_load 0 2 (q_const (0, 2147483639) (q_cmpgt 2 (q_const (0, 2147483639) (q_ret 0))))
noncomputable def B_J8_hugeLength_7cf53_2 : qI := q_load 0 2 (q_ret 0)
noncomputable def P_J8_hugeLength_7cf53 : qP := [B_J8_hugeLength_7cf53_0, B_J8_hugeLength_7cf53_1, B_J8_hugeLength_7cf53_2]
noncomputable def f_J8_hugeLength_7cf53 : List qV → qA → Option qR := qa_fn P_J8_hugeLength_7cf53 3
def pc_J8_hugeLength_7cf53 : Nat → Nat := fun j => [0, 49, 58].getD j 0
noncomputable def B_J8_newLength_cabcc_0 : qI := q_load 0 0 (q_load 0 1 (q_load 0 2 (q_max (q_iadd (q_store 0 3 (q_const (0, 0) (q_load 0 3 (q_cmpge 1 (q_load 0 3 (q_const (0, 2147483639) (q_cmpgt 1 (q_load 0 3 (q_ret 0)))))))))))))
noncomputable def B_J8_newLength_cabcc_1 : qI := q_load 0 0 (q_load 0 1 (q_call f_J8_hugeLength_7cf53 2 (q_ret 0)))
noncomputable def P_J8_newLength_cabcc : qP := [B_J8_newLength_cabcc_0, B_J8_newLength_cabcc_1]
noncomputable def f_J8_newLength_cabcc : List qV → qA → Option qR := qa_fn P_J8_newLength_cabcc 4
def pc_J8_newLength_cabcc : Nat → Nat := fun j => [0, 21].getD j 0
noncomputable def B_J5_newCapacity_0f7a4_0 : qI := q_load 1 0 (q_get 1 0 1 (q_alen (q_store 0 2 (q_load 0 1 (q_load 1 0 (q_get 1 1 0 (q_ishl (q_store 0 3 (q_load 0 3 (q_load 0 2 (q_isub (q_store 0 4 (q_load 0 2 (q_load 0 4 (q_load 0 2 (q_const (0, 2) (q_load 1 0 (q_get 1 1 0 (q_ishl (q_iadd (q_call f_J8_newLength_cabcc 3 (q_store 0 5 (q_load 0 5 (q_const (0, 2147483647) (q_cmpne 1 (fun _ _ _ => none))))))))))))))))))))))))))
noncomputable def B_J5_newCapacity_0f7a4_1 : qI := q_load 0 5 (q_load 1 0 (q_get 1 1 0 (q_ishr (q_ret 0))))
noncomputable def P_J5_newCapacity_0f7a4 : qP := [B_J5_newCapacity_0f7a4_0, B_J5_newCapacity_0f7a4_1]
noncomputable def f_J5_newCapacity_0f7a4 : List qV → qA → Option qR := qa_fn P_J5_newCapacity_0f7a4 6
def pc_J5_newCapacity_0f7a4 : Nat → Nat := fun j => [0, 51].getD j 0
noncomputable def B_J7_copyOf_9075b_0 : qI := q_load 0 1 (q_load 1 0 (q_alen (q_cmpne 1 (q_load 1 0 (fun _ _ _ => none)))))
noncomputable def B_J7_copyOf_9075b_1 : qI := q_load 0 1 (q_newa 102 0 (q_store 1 2 (q_load 1 0 (q_const (0, 0) (q_load 1 2 (q_const (0, 0) (q_load 1 0 (q_alen (q_load 0 1 (q_min (q_copyb (q_load 1 2 (q_ret 1)))))))))))))
noncomputable def P_J7_copyOf_9075b : qP := [B_J7_copyOf_9075b_0, B_J7_copyOf_9075b_1]
noncomputable def f_J7_copyOf_9075b : List qV → qA → Option qR := qa_fn P_J7_copyOf_9075b 3
def pc_J7_copyOf_9075b : Nat → Nat := fun j => [0, 14].getD j 0
noncomputable def B_J5_ensureCapacityInternal_d00df_0 : qI := q_load 1 0 (q_get 1 0 1 (q_alen (q_load 1 0 (q_get 1 1 0 (q_ishr (q_store 0 2 (q_load 0 1 (q_load 0 2 (q_isub (q_ifle 1 (q_load 1 0 (q_load 1 0 (q_get 1 0 1 (q_load 1 0 (q_load 0 1 (q_callv 1 f_J5_newCapacity_0f7a4 2 (q_load 1 0 (q_get 1 1 0 (q_ishl (q_call f_J7_copyOf_9075b 2 (q_put 1 0 1 (q_goto 1))))))))))))))))))))))
noncomputable def B_J5_ensureCapacityInternal_d00df_1 : qI := q_vret
noncomputable def P_J5_ensureCapacityInternal_d00df : qP := [B_J5_ensureCapacityInternal_d00df_0, B_J5_ensureCapacityInternal_d00df_1]
noncomputable def f_J5_ensureCapacityInternal_d00df : List qV → qA → Option qR := qa_fn P_J5_ensureCapacityInternal_d00df 3
def pc_J5_ensureCapacityInternal_d00df : Nat → Nat := fun j => [0, 38].getD j 0
noncomputable def B_J5_isLatin1_aae02_0 : qI := q_const (0, 1) (q_ifeq 1 (q_load 1 0 (q_get 1 1 0 (q_ifne 1 (q_const (0, 1) (q_goto 2))))))
noncomputable def B_J5_isLatin1_aae02_1 : qI := q_const (0, 0) (q_goto 2)
noncomputable def B_J5_isLatin1_aae02_2 : qI := q_retz
noncomputable def P_J5_isLatin1_aae02 : qP := [B_J5_isLatin1_aae02_0, B_J5_isLatin1_aae02_1, B_J5_isLatin1_aae02_2]
noncomputable def f_J5_isLatin1_aae02 : List qV → qA → Option qR := qa_fn P_J5_isLatin1_aae02 1
def pc_J5_isLatin1_aae02 : Nat → Nat := fun j => [0, 17, 18].getD j 0
noncomputable def B_J7_rangeCheck_23922_0 : qI := q_load 0 1 (q_load 0 2 (q_cmple 1 (fun _ _ _ => none)))
noncomputable def B_J7_rangeCheck_23922_1 : qI := q_load 0 1 (q_ifge 2 (fun _ _ _ => none))
noncomputable def B_J7_rangeCheck_23922_2 : qI := q_load 0 2 (q_load 0 0 (q_cmple 3 (fun _ _ _ => none)))
noncomputable def B_J7_rangeCheck_23922_3 : qI := q_vret
noncomputable def P_J7_rangeCheck_23922 : qP := [B_J7_rangeCheck_23922_0, B_J7_rangeCheck_23922_1, B_J7_rangeCheck_23922_2, B_J7_rangeCheck_23922_3]
noncomputable def f_J7_rangeCheck_23922 : List qV → qA → Option qR := qa_fn P_J7_rangeCheck_23922 3
def pc_J7_rangeCheck_23922 : Nat → Nat := fun j => [0, 46, 59, 73].getD j 0
noncomputable def B_J7_fill_eb02e_0 : qI := q_load 1 0 (q_alen (q_load 0 1 (q_load 0 2 (q_call f_J7_rangeCheck_23922 3 (q_load 0 1 (q_store 0 4 (q_goto 1)))))))
noncomputable def B_J7_fill_eb02e_1 : qI := q_load 0 4 (q_load 0 2 (q_cmpge 2 (q_load 1 0 (q_load 0 4 (q_load 0 3 (q_bast (q_iinc 4 (1) (q_goto 1))))))))
noncomputable def B_J7_fill_eb02e_2 : qI := q_vret
noncomputable def P_J7_fill_eb02e : qP := [B_J7_fill_eb02e_0, B_J7_fill_eb02e_1, B_J7_fill_eb02e_2]
noncomputable def f_J7_fill_eb02e : List qV → qA → Option qR := qa_fn P_J7_fill_eb02e 5
def pc_J7_fill_eb02e : Nat → Nat := fun j => [0, 10, 27].getD j 0
noncomputable def B_J1_fillNull_b72d1_0 : qI := q_load 1 0 (q_load 0 1 (q_load 0 2 (q_const (0, 0) (q_call f_J7_fill_eb02e 4 (q_vret)))))
noncomputable def P_J1_fillNull_b72d1 : qP := [B_J1_fillNull_b72d1_0]
noncomputable def f_J1_fillNull_b72d1 : List qV → qA → Option qR := qa_fn P_J1_fillNull_b72d1 3
def pc_J1_fillNull_b72d1 : Nat → Nat := fun j => [0].getD j 0
noncomputable def B_J5_setLength_d00df_0 : qI := q_load 0 1 (q_ifge 1 (fun _ _ _ => none))
noncomputable def B_J5_setLength_d00df_1 : qI := q_load 1 0 (q_load 0 1 (q_callv 1 f_J5_ensureCapacityInternal_d00df 2 (q_load 1 0 (q_get 1 3 0 (q_load 0 1 (q_cmpge 3 (q_load 1 0 (q_callv 1 f_J5_isLatin1_aae02 1 (q_ifeq 2 (q_load 1 0 (q_get 1 0 1 (q_load 1 0 (q_get 1 3 0 (q_load 0 1 (q_call f_J1_fillNull_b72d1 3 (q_goto 4))))))))))))))))
noncomputable def B_J5_setLength_d00df_2 : qI := q_load 1 0 (q_get 1 0 1 (q_load 1 0 (q_get 1 3 0 (q_load 0 1 (fun _ _ _ => none)))))
noncomputable def B_J5_setLength_d00df_3 : qI := q_load 1 0 (q_get 1 3 0 (q_load 0 1 (q_cmple 4 (q_load 1 0 (q_const (0, 1) (q_putz 1 2 (q_goto 4)))))))
noncomputable def B_J5_setLength_d00df_4 : qI := q_load 1 0 (q_load 0 1 (q_put 1 3 0 (q_vret)))
noncomputable def P_J5_setLength_d00df : qP := [B_J5_setLength_d00df_0, B_J5_setLength_d00df_1, B_J5_setLength_d00df_2, B_J5_setLength_d00df_3, B_J5_setLength_d00df_4]
noncomputable def f_J5_setLength_d00df : List qV → qA → Option qR := qa_fn P_J5_setLength_d00df 2
def pc_J5_setLength_d00df : Nat → Nat := fun j => [0, 13, 48, 63, 76].getD j 0
noncomputable def B_J4_setLength_d00df_0 : qI := q_load 1 0 (q_load 0 1 (q_callv 1 f_J5_setLength_d00df 2 (q_vret)))
noncomputable def P_J4_setLength_d00df : qP := [B_J4_setLength_d00df_0]
noncomputable def f_J4_setLength_d00df : List qV → qA → Option qR := qa_fn P_J4_setLength_d00df 2
def pc_J4_setLength_d00df : Nat → Nat := fun j => [0].getD j 0
noncomputable def B_J6_stringSize_0f7a4_0 : qI := q_const (0, 1) (q_store 0 1 (q_load 0 0 (q_iflt 1 (q_const (0, 0) (q_store 0 1 (q_load 0 0 (q_ineg (q_store 0 0 (q_goto 1)))))))))
noncomputable def B_J6_stringSize_0f7a4_1 : qI := q_const (0, -10) (q_store 0 2 (q_const (0, 1) (q_store 0 3 (q_goto 2))))
noncomputable def B_J6_stringSize_0f7a4_2 : qI := q_load 0 3 (q_const (0, 10) (q_cmpge 4 (q_load 0 0 (q_load 0 2 (q_cmple 3 (q_load 0 3 (q_load 0 1 (q_iadd (q_ret 0)))))))))
noncomputable def B_J6_stringSize_0f7a4_3 : qI := q_const (0, 10) (q_load 0 2 (q_imul (q_store 0 2 (q_iinc 3 (1) (q_goto 2)))))
noncomputable def B_J6_stringSize_0f7a4_4 : qI := q_const (0, 10) (q_load 0 1 (q_iadd (q_ret 0)))
noncomputable def P_J6_stringSize_0f7a4 : qP := [B_J6_stringSize_0f7a4_0, B_J6_stringSize_0f7a4_1, B_J6_stringSize_0f7a4_2, B_J6_stringSize_0f7a4_3, B_J6_stringSize_0f7a4_4]
noncomputable def f_J6_stringSize_0f7a4 : List qV → qA → Option qR := qa_fn P_J6_stringSize_0f7a4 4
def pc_J6_stringSize_0f7a4 : Nat → Nat := fun j => [0, 11, 16, 31, 42].getD j 0
noncomputable def B_J6_getChars_ba4f3_0 : qI := q_load 0 1 (q_store 0 5 (q_load 0 0 (q_ifge 1 (q_const (0, 1) (q_goto 2)))))
noncomputable def B_J6_getChars_ba4f3_1 : qI := q_const (0, 0) (q_goto 2)
noncomputable def B_J6_getChars_ba4f3_2 : qI := q_store 0 6 (q_load 0 6 (q_ifne 3 (q_load 0 0 (q_ineg (q_store 0 0 (q_goto 3))))))
noncomputable def B_J6_getChars_ba4f3_3 : qI := q_load 0 0 (q_const (0, -100) (q_cmpgt 4 (q_load 0 0 (q_const (0, 100) (q_idivn (q_store 0 3 (q_load 0 3 (q_const (0, 100) (q_imul (q_load 0 0 (q_isub (q_store 0 4 (q_load 0 3 (q_store 0 0 (q_load 1 2 (q_iinc 5 (-1) (q_load 0 5 (q_const (1, -15) (q_load 0 4 (q_sld 102 (q_bast (q_load 1 2 (q_iinc 5 (-1) (q_load 0 5 (q_const (1, -14) (q_load 0 4 (q_sld 102 (q_bast (q_goto 3)))))))))))))))))))))))))))))
noncomputable def B_J6_getChars_ba4f3_4 : qI := q_load 1 2 (q_iinc 5 (-1) (q_load 0 5 (q_const (1, -15) (q_load 0 0 (q_ineg (q_sld 102 (q_bast (q_load 0 0 (q_const (0, -9) (q_cmpge 5 (q_load 1 2 (q_iinc 5 (-1) (q_load 0 5 (q_const (1, -14) (q_load 0 0 (q_ineg (q_sld 102 (q_bast (q_goto 5)))))))))))))))))))
noncomputable def B_J6_getChars_ba4f3_5 : qI := q_load 0 6 (q_ifeq 6 (q_load 1 2 (q_iinc 5 (-1) (q_load 0 5 (q_const (0, 45) (q_bast (q_goto 6)))))))
noncomputable def B_J6_getChars_ba4f3_6 : qI := q_load 0 5 (q_ret 0)
noncomputable def P_J6_getChars_ba4f3 : qP := [B_J6_getChars_ba4f3_0, B_J6_getChars_ba4f3_1, B_J6_getChars_ba4f3_2, B_J6_getChars_ba4f3_3, B_J6_getChars_ba4f3_4, B_J6_getChars_ba4f3_5, B_J6_getChars_ba4f3_6]
noncomputable def f_J6_getChars_ba4f3 : List qV → qA → Option qR := qa_fn P_J6_getChars_ba4f3 7
def pc_J6_getChars_ba4f3 : Nat → Nat := fun j => [0, 11, 12, 22, 72, 104, 118].getD j 0
noncomputable def B_J5_append_c97b9_0 : qI := q_load 1 0 (q_get 1 3 0 (q_store 0 2 (q_load 0 2 (q_load 0 1 (q_call f_J6_stringSize_0f7a4 1 (q_iadd (q_store 0 3 (q_load 1 0 (q_load 0 3 (q_callv 1 f_J5_ensureCapacityInternal_d00df 2 (q_load 1 0 (q_callv 1 f_J5_isLatin1_aae02 1 (q_ifeq 1 (q_load 0 1 (q_load 0 3 (q_load 1 0 (q_get 1 0 1 (q_call f_J6_getChars_ba4f3 3 (q_pop (q_goto 2))))))))))))))))))))
noncomputable def B_J5_append_c97b9_1 : qI := q_load 0 1 (q_load 0 2 (q_load 0 3 (q_load 1 0 (q_get 1 0 1 (fun _ _ _ => none)))))
noncomputable def B_J5_append_c97b9_2 : qI := q_load 1 0 (q_load 0 3 (q_put 1 3 0 (q_load 1 0 (q_ret 1))))
noncomputable def P_J5_append_c97b9 : qP := [B_J5_append_c97b9_0, B_J5_append_c97b9_1, B_J5_append_c97b9_2]
noncomputable def f_J5_append_c97b9 : List qV → qA → Option qR := qa_fn P_J5_append_c97b9 4
def pc_J5_append_c97b9 : Nat → Nat := fun j => [0, 37, 48].getD j 0
noncomputable def B_J4_append_bf812_0 : qI := q_load 1 0 (q_load 0 1 (q_callv 1 f_J5_append_c97b9 2 (q_pop (q_load 1 0 (q_ret 1)))))
noncomputable def P_J4_append_bf812 : qP := [B_J4_append_bf812_0]
noncomputable def f_J4_append_bf812 : List qV → qA → Option qR := qa_fn P_J4_append_bf812 2
def pc_J4_append_bf812 : Nat → Nat := fun j => [0].getD j 0
noncomputable def B_J1_canEncode_fc78d_0 : qI := q_load 0 0 (q_const (0, 255) (q_cmpgt 1 (q_const (0, 1) (q_goto 2))))
noncomputable def B_J1_canEncode_fc78d_1 : qI := q_const (0, 0) (q_goto 2)
noncomputable def B_J1_canEncode_fc78d_2 : qI := q_retz
noncomputable def P_J1_canEncode_fc78d : qP := [B_J1_canEncode_fc78d_0, B_J1_canEncode_fc78d_1, B_J1_canEncode_fc78d_2]
noncomputable def f_J1_canEncode_fc78d : List qV → qA → Option qR := qa_fn P_J1_canEncode_fc78d 1
def pc_J1_canEncode_fc78d : Nat → Nat := fun j => [0, 11, 12].getD j 0
noncomputable def B_J5_inflate_da8c8_0 : qI := q_load 1 0 (q_callv 1 f_J5_isLatin1_aae02 1 (q_ifne 1 (q_vret)))
noncomputable def B_J5_inflate_da8c8_1 : qI := q_load 1 0 (q_get 1 0 1 (q_alen (fun _ _ _ => none)))
noncomputable def P_J5_inflate_da8c8 : qP := [B_J5_inflate_da8c8_0, B_J5_inflate_da8c8_1]
noncomputable def f_J5_inflate_da8c8 : List qV → qA → Option qR := qa_fn P_J5_inflate_da8c8 2
def pc_J5_inflate_da8c8 : Nat → Nat := fun j => [0, 8].getD j 0
noncomputable def B_J5_append_3fe6f_0 : qI := q_load 1 0 (q_load 1 0 (q_get 1 3 0 (q_const (0, 1) (q_iadd (q_callv 1 f_J5_ensureCapacityInternal_d00df 2 (q_load 1 0 (q_callv 1 f_J5_isLatin1_aae02 1 (q_ifeq 1 (q_load 0 1 (q_call f_J1_canEncode_fc78d 1 (q_ifeq 1 (q_load 1 0 (q_get 1 0 1 (q_load 1 0 (q_dup (q_get 1 3 0 (q_dup_x1 (q_const (0, 1) (q_iadd (q_put 1 3 0 (q_load 0 1 (q_i2b (q_bast (q_goto 3))))))))))))))))))))))))
noncomputable def B_J5_append_3fe6f_1 : qI := q_load 1 0 (q_callv 1 f_J5_isLatin1_aae02 1 (q_ifeq 2 (q_load 1 0 (q_callv 1 f_J5_inflate_da8c8 1 (q_goto 2)))))
noncomputable def B_J5_append_3fe6f_2 : qI := q_load 1 0 (q_get 1 0 1 (q_load 1 0 (q_dup (q_get 1 3 0 (q_dup_x1 (q_const (0, 1) (q_iadd (q_put 1 3 0 (q_load 0 1 (fun _ _ _ => none))))))))))
noncomputable def B_J5_append_3fe6f_3 : qI := q_load 1 0 (q_ret 1)
noncomputable def P_J5_append_3fe6f : qP := [B_J5_append_3fe6f_0, B_J5_append_3fe6f_1, B_J5_append_3fe6f_2, B_J5_append_3fe6f_3]
noncomputable def f_J5_append_3fe6f : List qV → qA → Option qR := qa_fn P_J5_append_3fe6f 2
def pc_J5_append_3fe6f : Nat → Nat := fun j => [0, 45, 56, 75].getD j 0
noncomputable def B_J4_append_cf468_0 : qI := q_load 1 0 (q_load 0 1 (q_callv 1 f_J5_append_3fe6f 2 (q_pop (q_load 1 0 (q_ret 1)))))
noncomputable def P_J4_append_cf468 : qP := [B_J4_append_cf468_0]
noncomputable def f_J4_append_cf468 : List qV → qA → Option qR := qa_fn P_J4_append_cf468 2
def pc_J4_append_cf468 : Nat → Nat := fun j => [0].getD j 0
noncomputable def B_X11_writeReader_0 : qI := q_load 1 0 (q_get 13 7 1 (q_const (0, 32) (q_callv 1 f_J4_append_cf468 2 (q_pop (q_load 1 0 (q_get 13 7 1 (q_const (0, 114) (q_callv 1 f_J4_append_cf468 2 (q_pop (q_load 1 0 (q_get 13 7 1 (q_load 0 1 (q_callv 1 f_J4_append_bf812 2 (q_pop (q_load 1 0 (q_get 13 7 1 (q_const (0, 61) (q_callv 1 f_J4_append_cf468 2 (q_pop (q_load 1 0 (q_get 13 7 1 (q_load 1 2 (q_get 9 2 0 (q_callv 1 f_J4_append_bf812 2 (q_pop (q_load 1 2 (q_get 9 4 0 (q_const (0, -1) (q_cmpeq 2 (q_goto 1))))))))))))))))))))))))))))))
noncomputable def B_X11_writeReader_1 : qI := q_load 1 0 (q_get 13 7 1 (q_const (0, 112) (q_callv 1 f_J4_append_cf468 2 (q_pop (q_load 1 0 (q_get 13 7 1 (q_load 1 2 (q_get 9 4 0 (q_callv 1 f_J4_append_bf812 2 (q_pop (q_goto 2)))))))))))
noncomputable def B_X11_writeReader_2 : qI := q_load 1 2 (q_get 9 9 1 (q_get 6 0 0 (q_ifle 3 (q_load 1 0 (q_get 13 7 1 (q_const (0, 33) (q_callv 1 f_J4_append_cf468 2 (q_pop (q_goto 3)))))))))
noncomputable def B_X11_writeReader_3 : qI := q_vret
noncomputable def P_X11_writeReader : qP := [B_X11_writeReader_0, B_X11_writeReader_1, B_X11_writeReader_2, B_X11_writeReader_3]
noncomputable def f_X11_writeReader : List qV → qA → Option qR := qa_fn P_X11_writeReader 3
def pc_X11_writeReader : Nat → Nat := fun j => [0, 59, 81, 101].getD j 0
noncomputable def B_J5_length_8abf5_0 : qI := q_load 1 0 (q_get 1 3 0 (q_ret 0))
noncomputable def P_J5_length_8abf5 : qP := [B_J5_length_8abf5_0]
noncomputable def f_J5_length_8abf5 : List qV → qA → Option qR := qa_fn P_J5_length_8abf5 1
def pc_J5_length_8abf5 : Nat → Nat := fun j => [0].getD j 0
noncomputable def B_J4_length_8abf5_0 : qI := q_load 1 0 (q_callv 1 f_J5_length_8abf5 1 (q_ret 0))
noncomputable def P_J4_length_8abf5 : qP := [B_J4_length_8abf5_0]
noncomputable def f_J4_length_8abf5 : List qV → qA → Option qR := qa_fn P_J4_length_8abf5 1
def pc_J4_length_8abf5 : Nat → Nat := fun j => [0].getD j 0
noncomputable def B_X11_write_0 : qI := q_load 1 0 (q_load 0 1 (q_callv 13 f_X11_needBranch 2 (q_store 1 2 (q_load 1 0 (q_get 13 7 1 (q_const (0, 0) (q_callv 1 f_J4_setLength_d00df 2 (q_load 1 0 (q_get 13 7 1 (q_load 0 1 (q_callv 1 f_J4_append_bf812 2 (q_pop (q_load 1 0 (q_get 13 7 1 (q_const (0, 58) (q_callv 1 f_J4_append_cf468 2 (q_pop (q_load 1 0 (q_get 13 7 1 (q_load 1 2 (q_get 5 4 0 (q_callv 1 f_J4_append_bf812 2 (q_pop (q_load 1 0 (q_get 13 7 1 (q_const (0, 45) (q_callv 1 f_J4_append_cf468 2 (q_pop (q_load 1 0 (q_goto 1))))))))))))))))))))))))))))))
noncomputable def B_X11_write_1 : qI := q_get 13 7 1 (q_load 1 2 (q_get 5 5 0 (q_callv 1 f_J4_append_bf812 2 (q_pop (q_const (0, 0) (q_store 0 3 (q_goto 2)))))))
noncomputable def B_X11_write_2 : qI := q_load 0 3 (q_const (0, 6) (q_cmpge 4 (q_load 1 0 (q_get 13 1 1 (q_load 0 3 (q_callv 12 f_X9_readerAt 2 (q_store 1 4 (q_load 1 4 (q_null 3 (q_load 1 4 (q_load 1 2 (q_callv 9 f_X6_isIn 2 (q_ifeq 3 (q_load 1 0 (q_load 0 3 (q_load 1 4 (q_callv 13 f_X11_writeReader 3 (q_goto 3))))))))))))))))))
noncomputable def B_X11_write_3 : qI := q_iinc 3 (1) (q_goto 2)
noncomputable def B_X11_write_4 : qI := q_load 1 0 (q_get 13 7 1 (q_callv 1 f_J4_length_8abf5 1 (q_ret 0)))
noncomputable def P_X11_write : qP := [B_X11_write_0, B_X11_write_1, B_X11_write_2, B_X11_write_3, B_X11_write_4]
noncomputable def f_X11_write : List qV → qA → Option qR := qa_fn P_X11_write 5
def pc_X11_write : Nat → Nat := fun j => [0, 56, 69, 106, 112].getD j 0
noncomputable def B_J5_charAt_5068e_0 : qI := q_load 1 0 (q_get 1 1 0 (q_store 0 2 (q_load 1 0 (q_get 1 0 1 (q_store 1 3 (q_load 1 0 (q_get 1 3 0 (q_load 1 3 (q_alen (q_load 0 2 (q_ishr (q_min (q_store 0 4 (q_load 0 1 (q_load 0 4 (q_call f_J0_checkIndex_df160 2 (q_load 0 2 (q_ifne 1 (q_load 1 3 (q_load 0 1 (q_ald 102 0 (q_const (0, 255) (q_iand (q_i2c (q_retc)))))))))))))))))))))))))
noncomputable def B_J5_charAt_5068e_1 : qI := q_load 1 3 (q_load 0 1 (fun _ _ _ => none))
noncomputable def P_J5_charAt_5068e : qP := [B_J5_charAt_5068e_0, B_J5_charAt_5068e_1]
noncomputable def f_J5_charAt_5068e : List qV → qA → Option qR := qa_fn P_J5_charAt_5068e 5
def pc_J5_charAt_5068e : Nat → Nat := fun j => [0, 42].getD j 0
noncomputable def B_J4_charAt_5068e_0 : qI := q_load 1 0 (q_load 0 1 (q_callv 1 f_J5_charAt_5068e 2 (q_retc)))
noncomputable def P_J4_charAt_5068e : qP := [B_J4_charAt_5068e_0]
noncomputable def f_J4_charAt_5068e : List qV → qA → Option qR := qa_fn P_J4_charAt_5068e 2
def pc_J4_charAt_5068e : Nat → Nat := fun j => [0].getD j 0
noncomputable def B_X11_output_0 : qI := q_load 0 1 (q_iflt 1 (q_load 0 1 (q_load 1 0 (q_get 13 7 1 (q_callv 1 f_J4_length_8abf5 1 (q_cmpge 1 (q_load 1 0 (q_get 13 7 1 (q_load 0 1 (q_callv 1 f_J4_charAt_5068e 2 (q_goto 2)))))))))))
noncomputable def B_X11_output_1 : qI := q_const (0, -1) (q_goto 2)
noncomputable def B_X11_output_2 : qI := q_ret 0
noncomputable def P_X11_output : qP := [B_X11_output_0, B_X11_output_1, B_X11_output_2]
noncomputable def f_X11_output : List qV → qA → Option qR := qa_fn P_X11_output 2
def pc_X11_output : Nat → Nat := fun j => [0, 26, 27].getD j 0
noncomputable def B_X1_takeBack_0 : qI := q_load 1 0 (q_get 4 2 0 (q_ifle 1 (q_load 1 0 (q_get 4 2 0 (q_load 1 0 (q_get 4 1 1 (q_alen (q_cmple 2 (q_goto 1)))))))))
noncomputable def B_X1_takeBack_1 : qI := q_const (0, -1) (q_ret 0)
noncomputable def B_X1_takeBack_2 : qI := q_load 1 0 (q_dup (q_get 4 2 0 (q_const (0, 1) (q_isub (q_put 4 2 0 (q_load 1 0 (q_get 4 1 1 (q_load 1 0 (q_get 4 2 0 (q_ald (111 + 12) 1 (q_store 1 2 (q_load 1 2 (q_null 3 (q_load 1 1 (q_load 1 2 (q_callv 12 f_X9_copyFrom 2 (q_goto 3)))))))))))))))))
noncomputable def B_X1_takeBack_3 : qI := q_load 1 0 (q_get 4 2 0 (q_ret 0))
noncomputable def P_X1_takeBack : qP := [B_X1_takeBack_0, B_X1_takeBack_1, B_X1_takeBack_2, B_X1_takeBack_3]
noncomputable def f_X1_takeBack : List qV → qA → Option qR := qa_fn P_X1_takeBack 3
def pc_X1_takeBack : Nat → Nat := fun j => [0, 19, 21, 50].getD j 0
noncomputable def B_X11_undo_0 : qI := q_load 1 0 (q_get 13 4 1 (q_load 1 0 (q_get 13 1 1 (q_callv 4 f_X1_takeBack 2 (q_ret 0)))))
noncomputable def P_X11_undo : qP := [B_X11_undo_0]
noncomputable def f_X11_undo : List qV → qA → Option qR := qa_fn P_X11_undo 1
def pc_X11_undo : Nat → Nat := fun j => [0].getD j 0
noncomputable def B_X11_save_0 : qI := q_load 0 1 (q_const (0, 0) (q_const (0, 1) (q_call f_X11_needRange 3 (q_load 1 0 (q_get 13 3 1 (q_load 0 1 (q_ald (111 + 12) 1 (q_store 1 2 (q_load 1 2 (q_nonnull 1 (q_new 12 5 z_X9 (q_dup (q_callv 12 f_X9_init 1 (q_store 1 2 (q_load 1 0 (q_get 13 3 1 (q_load 0 1 (q_load 1 2 (q_aast 12 (q_goto 1))))))))))))))))))))
noncomputable def B_X11_save_1 : qI := q_load 1 2 (q_load 1 0 (q_get 13 1 1 (q_callv 12 f_X9_copyFrom 2 (q_vret))))
noncomputable def P_X11_save : qP := [B_X11_save_0, B_X11_save_1]
noncomputable def f_X11_save : List qV → qA → Option qR := qa_fn P_X11_save 3
def pc_X11_save : Nat → Nat := fun j => [0, 32].getD j 0
noncomputable def B_X11_restore_0 : qI := q_load 0 1 (q_const (0, 0) (q_const (0, 1) (q_call f_X11_needRange 3 (q_load 1 0 (q_get 13 3 1 (q_load 0 1 (q_ald (111 + 12) 1 (q_store 1 2 (q_load 1 2 (q_nonnull 1 ((fun ls st a => if st.length ≤ 4 then q_throw 3 ls st a else none))))))))))))
noncomputable def B_X11_restore_1 : qI := q_load 1 0 (q_get 13 1 1 (q_load 1 2 (q_callv 12 f_X9_copyFrom 2 (q_load 1 0 (q_get 13 4 1 (q_const (0, 0) (q_put 4 2 0 (q_vret))))))))
noncomputable def P_X11_restore : qP := [B_X11_restore_0, B_X11_restore_1]
noncomputable def f_X11_restore : List qV → qA → Option qR := qa_fn P_X11_restore 3
def pc_X11_restore : Nat → Nat := fun j => [0, 25].getD j 0
noncomputable def B_X12_branchAt_0 : qI := q_const (0, 6) (q_const (0, 7) (q_load 0 0 (q_imul (q_iadd (q_ret 0)))))
noncomputable def P_X12_branchAt : qP := [B_X12_branchAt_0]
noncomputable def f_X12_branchAt : List qV → qA → Option qR := qa_fn P_X12_branchAt 1
def pc_X12_branchAt : Nat → Nat := fun j => [0].getD j 0
noncomputable def B_X12_init_0 : qI := q_load 1 0 (q_obj (q_load 1 0 (q_const (0, 7) (q_newa 101 0 (q_dup (q_const (0, 0) (q_const (0, 60) (q_ast 101 0 (q_dup (q_const (0, 1) (q_const (0, 120) (q_ast 101 0 (q_dup (q_const (0, 2) (q_const (0, 0) (q_ast 101 0 (q_dup (q_const (0, 3) (q_const (0, 5) (q_ast 101 0 (q_dup (q_const (0, 4) (q_const (0, 2) (q_ast 101 0 (q_dup (q_const (0, 5) (q_const (0, 20) (q_ast 101 0 (q_dup (q_goto 1))))))))))))))))))))))))))))))
noncomputable def B_X12_init_1 : qI := q_const (0, 6) (q_const (0, 0) (q_ast 101 0 (q_put 14 1 1 (q_load 1 0 (q_const (0, 14622) (q_newa 101 0 (q_put 14 2 1 (q_load 1 0 (q_const (0, 14622) (q_newa 101 0 (q_put 14 3 1 (q_load 1 0 (q_const (0, 116976) (q_newa 101 0 (q_put 14 4 1 (q_load 1 0 (q_const (0, 29244) (q_newa 101 0 (q_put 14 6 1 (q_load 1 0 (q_const (0, 2) (q_newa 103 0 (q_put 14 7 1 (q_load 1 0 (q_const (0, 11) (q_newa 101 0 (q_put 14 8 1 (q_load 1 0 (q_const (0, 6) (q_goto 2))))))))))))))))))))))))))))))
noncomputable def B_X12_init_2 : qI := q_newa 101 0 (q_put 14 12 1 (q_load 1 0 (q_const (0, 792) (q_newa 101 0 (q_put 14 13 1 (q_load 1 0 (q_const (0, 700) (q_newa 102 0 (q_put 14 15 1 (q_load 1 0 (q_const (0, -1) (q_put 14 22 0 (q_load 1 0 (q_const (0, 62) (q_newa 102 0 (q_dup (q_const (0, 0) (q_const (0, 97) (q_bast (q_dup (q_const (0, 1) (q_const (0, 112) (q_bast (q_dup (q_const (0, 2) (q_const (0, 112) (q_bast (q_dup (q_const (0, 3) (q_goto 3))))))))))))))))))))))))))))))
noncomputable def B_X12_init_3 : qI := q_const (0, 101) (q_bast (q_dup (q_const (0, 4) (q_const (0, 110) (q_bast (q_dup (q_const (0, 5) (q_const (0, 100) (q_bast (q_dup (q_const (0, 6) (q_const (0, 32) (q_bast (q_dup (q_const (0, 7) (q_const (0, 106) (q_bast (q_dup (q_const (0, 8) (q_const (0, 111) (q_bast (q_dup (q_const (0, 9) (q_const (0, 105) (q_bast (q_dup (q_const (0, 10) (q_const (0, 110) (q_bast (q_dup (q_goto 4)))))))))))))))))))))))))))))))
noncomputable def B_X12_init_4 : qI := q_const (0, 11) (q_const (0, 32) (q_bast (q_dup (q_const (0, 12) (q_const (0, 114) (q_bast (q_dup (q_const (0, 13) (q_const (0, 101) (q_bast (q_dup (q_const (0, 14) (q_const (0, 97) (q_bast (q_dup (q_const (0, 15) (q_const (0, 100) (q_bast (q_dup (q_const (0, 16) (q_const (0, 32) (q_bast (q_dup (q_const (0, 17) (q_const (0, 112) (q_bast (q_dup (q_const (0, 18) (q_const (0, 114) (q_goto 5))))))))))))))))))))))))))))))
noncomputable def B_X12_init_5 : qI := q_bast (q_dup (q_const (0, 19) (q_const (0, 111) (q_bast (q_dup (q_const (0, 20) (q_const (0, 109) (q_bast (q_dup (q_const (0, 21) (q_const (0, 105) (q_bast (q_dup (q_const (0, 22) (q_const (0, 115) (q_bast (q_dup (q_const (0, 23) (q_const (0, 101) (q_bast (q_dup (q_const (0, 24) (q_const (0, 32) (q_bast (q_dup (q_const (0, 25) (q_const (0, 109) (q_bast (q_dup (q_goto 6))))))))))))))))))))))))))))))
noncomputable def B_X12_init_6 : qI := q_const (0, 26) (q_const (0, 111) (q_bast (q_dup (q_const (0, 27) (q_const (0, 118) (q_bast (q_dup (q_const (0, 28) (q_const (0, 101) (q_bast (q_dup (q_const (0, 29) (q_const (0, 32) (q_bast (q_dup (q_const (0, 30) (q_const (0, 108) (q_bast (q_dup (q_const (0, 31) (q_const (0, 101) (q_bast (q_dup (q_const (0, 32) (q_const (0, 97) (q_bast (q_dup (q_const (0, 33) (q_const (0, 118) (q_goto 7))))))))))))))))))))))))))))))
noncomputable def B_X12_init_7 : qI := q_bast (q_dup (q_const (0, 34) (q_const (0, 101) (q_bast (q_dup (q_const (0, 35) (q_const (0, 32) (q_bast (q_dup (q_const (0, 36) (q_const (0, 102) (q_bast (q_dup (q_const (0, 37) (q_const (0, 111) (q_bast (q_dup (q_const (0, 38) (q_const (0, 114) (q_bast (q_dup (q_const (0, 39) (q_const (0, 107) (q_bast (q_dup (q_const (0, 40) (q_const (0, 32) (q_bast (q_dup (q_goto 8))))))))))))))))))))))))))))))
noncomputable def B_X12_init_8 : qI := q_const (0, 41) (q_const (0, 109) (q_bast (q_dup (q_const (0, 42) (q_const (0, 101) (q_bast (q_dup (q_const (0, 43) (q_const (0, 114) (q_bast (q_dup (q_const (0, 44) (q_const (0, 103) (q_bast (q_dup (q_const (0, 45) (q_const (0, 101) (q_bast (q_dup (q_const (0, 46) (q_const (0, 32) (q_bast (q_dup (q_const (0, 47) (q_const (0, 100) (q_bast (q_dup (q_const (0, 48) (q_const (0, 114) (q_goto 9))))))))))))))))))))))))))))))
noncomputable def B_X12_init_9 : qI := q_bast (q_dup (q_const (0, 49) (q_const (0, 111) (q_bast (q_dup (q_const (0, 50) (q_const (0, 112) (q_bast (q_dup (q_const (0, 51) (q_const (0, 32) (q_bast (q_dup (q_const (0, 52) (q_const (0, 116) (q_bast (q_dup (q_const (0, 53) (q_const (0, 105) (q_bast (q_dup (q_const (0, 54) (q_const (0, 99) (q_bast (q_dup (q_const (0, 55) (q_const (0, 107) (q_bast (q_dup (q_goto 10))))))))))))))))))))))))))))))
noncomputable def B_X12_init_10 : qI := q_const (0, 56) (q_const (0, 115) (q_bast (q_dup (q_const (0, 57) (q_const (0, 32) (q_bast (q_dup (q_const (0, 58) (q_const (0, 101) (q_bast (q_dup (q_const (0, 59) (q_const (0, 110) (q_bast (q_dup (q_const (0, 60) (q_const (0, 100) (q_bast (q_dup (q_const (0, 61) (q_const (0, 32) (q_bast (q_put 14 23 1 (q_load 1 0 (q_const (0, 305) (q_newa 101 0 (q_put 14 25 1 (q_load 1 0 (q_const (0, 200) (q_goto 11))))))))))))))))))))))))))))))
noncomputable def B_X12_init_11 : qI := q_newa 102 0 (q_put 14 26 1 (q_load 1 0 (q_get 14 2 1 (q_const (0, 0) (q_call f_X12_branchAt 1 (q_const (0, 0) (q_iadd (q_const (0, 1) (q_ast 101 0 (q_load 1 0 (q_get 14 2 1 (q_const (0, 0) (q_call f_X12_branchAt 1 (q_const (0, 4) (q_iadd (q_const (0, -1) (q_ast 101 0 (q_load 1 0 (q_get 14 2 1 (q_const (0, 0) (q_call f_X12_branchAt 1 (q_const (0, 5) (q_iadd (q_const (0, -1) (q_ast 101 0 (q_vret))))))))))))))))))))))))))
noncomputable def P_X12_init : qP := [B_X12_init_0, B_X12_init_1, B_X12_init_2, B_X12_init_3, B_X12_init_4, B_X12_init_5, B_X12_init_6, B_X12_init_7, B_X12_init_8, B_X12_init_9, B_X12_init_10, B_X12_init_11]
noncomputable def f_X12_init : List qV → qA → Option qR := qa_fn P_X12_init 1
def pc_X12_init : Nat → Nat := fun j => [0, 37, 97, 147, 191, 237, 281, 327, 371, 417, 461, 512].getD j 0
noncomputable def B_X12_thrown_0 : qI := q_load 1 0 (q_get 14 0 0 (q_ret 0))
noncomputable def P_X12_thrown : qP := [B_X12_thrown_0]
noncomputable def f_X12_thrown : List qV → qA → Option qR := qa_fn P_X12_thrown 1
def pc_X12_thrown : Nat → Nat := fun j => [0].getD j 0
noncomputable def B_X12_in_0 : qI := q_load 0 0 (q_load 0 1 (q_cmplt 1 (q_load 0 0 (q_load 0 2 (q_cmpgt 1 (q_const (0, 1) (q_goto 2)))))))
noncomputable def B_X12_in_1 : qI := q_const (0, 0) (q_goto 2)
noncomputable def B_X12_in_2 : qI := q_retz
noncomputable def P_X12_in : qP := [B_X12_in_0, B_X12_in_1, B_X12_in_2]
noncomputable def f_X12_in : List qV → qA → Option qR := qa_fn P_X12_in 3
def pc_X12_in : Nat → Nat := fun j => [0, 14, 15].getD j 0
noncomputable def B_X12_copies_0 : qI := q_const (0, 0) (q_store 0 4 (q_goto 1))
noncomputable def B_X12_copies_1 : qI := q_load 0 4 (q_const (0, 14622) (q_cmpge 2 (q_load 1 2 (q_load 0 3 (q_load 0 4 (q_iadd (q_load 1 0 (q_load 0 1 (q_load 0 4 (q_iadd (q_ald 101 0 (q_ast 101 0 (q_iinc 4 (1) (q_goto 1))))))))))))))
noncomputable def B_X12_copies_2 : qI := q_vret
noncomputable def P_X12_copies : qP := [B_X12_copies_0, B_X12_copies_1, B_X12_copies_2]
noncomputable def f_X12_copies : List qV → qA → Option qR := qa_fn P_X12_copies 5
def pc_X12_copies : Nat → Nat := fun j => [0, 3, 29].getD j 0
noncomputable def B_X12_readerAt_0 : qI := q_const (0, 34) (q_const (0, 26) (q_load 0 0 (q_imul (q_iadd (q_ret 0)))))
noncomputable def P_X12_readerAt : qP := [B_X12_readerAt_0]
noncomputable def f_X12_readerAt : List qV → qA → Option qR := qa_fn P_X12_readerAt 1
def pc_X12_readerAt : Nat → Nat := fun j => [0].getD j 0
noncomputable def B_X12_ofBranch_0 : qI := q_load 1 0 (q_get 14 2 1 (q_load 0 1 (q_call f_X12_branchAt 1 (q_load 0 2 (q_iadd (q_ald 101 0 (q_ret 0)))))))
noncomputable def P_X12_ofBranch : qP := [B_X12_ofBranch_0]
noncomputable def f_X12_ofBranch : List qV → qA → Option qR := qa_fn P_X12_ofBranch 3
def pc_X12_ofBranch : Nat → Nat := fun j => [0].getD j 0
noncomputable def B_X12_ofReader_0 : qI := q_load 1 0 (q_get 14 2 1 (q_load 0 1 (q_call f_X12_readerAt 1 (q_load 0 2 (q_iadd (q_ald 101 0 (q_ret 0)))))))
noncomputable def P_X12_ofReader : qP := [B_X12_ofReader_0]
noncomputable def f_X12_ofReader : List qV → qA → Option qR := qa_fn P_X12_ofReader 3
def pc_X12_ofReader : Nat → Nat := fun j => [0].getD j 0
noncomputable def B_X12_isBranch_0 : qI := q_load 0 1 (q_const (0, 0) (q_const (0, 3) (q_call f_X12_in 3 (q_ifeq 1 (q_load 1 0 (q_load 0 1 (q_const (0, 0) (q_callv 14 f_X12_ofBranch 3 (q_const (0, 1) (q_cmpne 1 (q_const (0, 1) (q_goto 2))))))))))))
noncomputable def B_X12_isBranch_1 : qI := q_const (0, 0) (q_goto 2)
noncomputable def B_X12_isBranch_2 : qI := q_retz
noncomputable def P_X12_isBranch : qP := [B_X12_isBranch_0, B_X12_isBranch_1, B_X12_isBranch_2]
noncomputable def f_X12_isBranch : List qV → qA → Option qR := qa_fn P_X12_isBranch 2
def pc_X12_isBranch : Nat → Nat := fun j => [0, 23, 24].getD j 0
noncomputable def B_X12_isReader_0 : qI := q_load 0 1 (q_const (0, 0) (q_const (0, 5) (q_call f_X12_in 3 (q_ifeq 1 (q_load 1 0 (q_load 0 1 (q_const (0, 0) (q_callv 14 f_X12_ofReader 3 (q_const (0, 1) (q_cmpne 1 (q_const (0, 1) (q_goto 2))))))))))))
noncomputable def B_X12_isReader_1 : qI := q_const (0, 0) (q_goto 2)
noncomputable def B_X12_isReader_2 : qI := q_retz
noncomputable def P_X12_isReader : qP := [B_X12_isReader_0, B_X12_isReader_1, B_X12_isReader_2]
noncomputable def f_X12_isReader : List qV → qA → Option qR := qa_fn P_X12_isReader 2
def pc_X12_isReader : Nat → Nat := fun j => [0, 23, 24].getD j 0
noncomputable def B_X12_endOf_0 : qI := q_load 1 0 (q_load 0 1 (q_const (0, 1) (q_callv 14 f_X12_ofBranch 3 (q_load 1 0 (q_load 0 1 (q_const (0, 2) (q_callv 14 f_X12_ofBranch 3 (q_iadd (q_ret 0)))))))))
noncomputable def P_X12_endOf : qP := [B_X12_endOf_0]
noncomputable def f_X12_endOf : List qV → qA → Option qR := qa_fn P_X12_endOf 2
def pc_X12_endOf : Nat → Nat := fun j => [0].getD j 0
noncomputable def B_X12_isIn_0 : qI := q_load 1 0 (q_load 0 1 (q_callv 14 f_X12_isReader 2 (q_ifeq 1 (q_load 1 0 (q_load 0 1 (q_const (0, 1) (q_callv 14 f_X12_ofReader 3 (q_load 0 2 (q_cmpne 1 (q_const (0, 1) (q_goto 2)))))))))))
noncomputable def B_X12_isIn_1 : qI := q_const (0, 0) (q_goto 2)
noncomputable def B_X12_isIn_2 : qI := q_retz
noncomputable def P_X12_isIn : qP := [B_X12_isIn_0, B_X12_isIn_1, B_X12_isIn_2]
noncomputable def f_X12_isIn : List qV → qA → Option qR := qa_fn P_X12_isIn 3
def pc_X12_isIn : Nat → Nat := fun j => [0, 22, 23].getD j 0
noncomputable def B_X12_entryAt_0 : qI := q_const (0, 1804) (q_load 0 0 (q_imul (q_load 0 1 (q_iadd (q_ret 0)))))
noncomputable def P_X12_entryAt : qP := [B_X12_entryAt_0]
noncomputable def f_X12_entryAt : List qV → qA → Option qR := qa_fn P_X12_entryAt 2
def pc_X12_entryAt : Nat → Nat := fun j => [0].getD j 0
noncomputable def B_X12_timeOf_0 : qI := q_load 1 0 (q_get 14 2 1 (q_const (0, 190) (q_load 0 1 (q_load 0 2 (q_call f_X12_entryAt 2 (q_iadd (q_ald 101 0 (q_ret 0))))))))
noncomputable def P_X12_timeOf : qP := [B_X12_timeOf_0]
noncomputable def f_X12_timeOf : List qV → qA → Option qR := qa_fn P_X12_timeOf 3
def pc_X12_timeOf : Nat → Nat := fun j => [0].getD j 0
noncomputable def B_X12_packed_0 : qI := q_load 0 0 (q_const (0, 10) (q_imul (q_load 0 1 (q_iadd (q_const (0, 200) (q_imul (q_load 0 2 (q_iadd (q_const (0, 99) (q_iadd (q_ret 0)))))))))))
noncomputable def P_X12_packed : qP := [B_X12_packed_0]
noncomputable def f_X12_packed : List qV → qA → Option qR := qa_fn P_X12_packed 3
def pc_X12_packed : Nat → Nat := fun j => [0].getD j 0
noncomputable def B_X12_keyOf_0 : qI := q_load 1 0 (q_get 14 2 1 (q_const (0, 7406) (q_load 0 1 (q_load 0 2 (q_call f_X12_entryAt 2 (q_iadd (q_ald 101 0 (q_const (0, 2000) (q_idiv (q_ret 0))))))))))
noncomputable def P_X12_keyOf : qP := [B_X12_keyOf_0]
noncomputable def f_X12_keyOf : List qV → qA → Option qR := qa_fn P_X12_keyOf 3
def pc_X12_keyOf : Nat → Nat := fun j => [0].getD j 0
noncomputable def B_X12_sizeOf_0 : qI := q_load 1 0 (q_get 14 2 1 (q_const (0, 7406) (q_load 0 1 (q_load 0 2 (q_call f_X12_entryAt 2 (q_iadd (q_ald 101 0 (q_const (0, 200) (q_idiv (q_const (0, 10) (q_irem (q_ret 0))))))))))))
noncomputable def P_X12_sizeOf : qP := [B_X12_sizeOf_0]
noncomputable def f_X12_sizeOf : List qV → qA → Option qR := qa_fn P_X12_sizeOf 3
def pc_X12_sizeOf : Nat → Nat := fun j => [0].getD j 0
noncomputable def B_X12_valueOf_0 : qI := q_load 1 0 (q_get 14 2 1 (q_const (0, 7406) (q_load 0 1 (q_load 0 2 (q_call f_X12_entryAt 2 (q_iadd (q_ald 101 0 (q_const (0, 200) (q_irem (q_const (0, 99) (q_isub (q_ret 0))))))))))))
noncomputable def P_X12_valueOf : qP := [B_X12_valueOf_0]
noncomputable def f_X12_valueOf : List qV → qA → Option qR := qa_fn P_X12_valueOf 3
def pc_X12_valueOf : Nat → Nat := fun j => [0].getD j 0
noncomputable def B_X12_adds_0 : qI := q_load 0 1 (q_load 1 0 (q_load 0 1 (q_const (0, 2) (q_callv 14 f_X12_ofBranch 3 (q_call f_X12_entryAt 2 (q_store 0 4 (q_load 1 0 (q_get 14 2 1 (q_const (0, 190) (q_load 0 4 (q_iadd (q_load 0 2 (q_ast 101 0 (q_load 1 0 (q_get 14 2 1 (q_const (0, 7406) (q_load 0 4 (q_iadd (q_load 0 3 (q_ast 101 0 (q_load 1 0 (q_get 14 2 1 (q_load 0 1 (q_call f_X12_branchAt 1 (q_const (0, 2) (q_iadd (q_dup2 (q_ald 101 0 (q_const (0, 1) (q_goto 1))))))))))))))))))))))))))))))
noncomputable def B_X12_adds_1 : qI := q_iadd (q_ast 101 0 (q_load 1 0 (q_get 14 2 1 (q_load 0 1 (q_call f_X12_branchAt 1 (q_const (0, 3) (q_iadd (q_dup2 (q_ald 101 0 (q_load 0 3 (q_const (0, 200) (q_idiv (q_const (0, 10) (q_irem (q_iadd (q_ast 101 0 (q_vret)))))))))))))))))
noncomputable def P_X12_adds : qP := [B_X12_adds_0, B_X12_adds_1]
noncomputable def f_X12_adds : List qV → qA → Option qR := qa_fn P_X12_adds 5
def pc_X12_adds : Nat → Nat := fun j => [0, 49].getD j 0
noncomputable def B_X12_countsAnew_0 : qI := q_load 1 0 (q_const (0, 0) (q_put 14 9 0 (q_load 1 0 (q_const (0, 0) (q_put 14 10 0 (q_load 1 0 (q_const (0, 0) (q_put 14 11 0 (q_const (0, 0) (q_store 0 1 (q_goto 1)))))))))))
noncomputable def B_X12_countsAnew_1 : qI := q_load 0 1 (q_const (0, 6) (q_cmpge 2 (q_load 1 0 (q_get 14 12 1 (q_load 0 1 (q_const (0, 0) (q_ast 101 0 (q_iinc 1 (1) (q_goto 1)))))))))
noncomputable def B_X12_countsAnew_2 : qI := q_vret
noncomputable def P_X12_countsAnew : qP := [B_X12_countsAnew_0, B_X12_countsAnew_1, B_X12_countsAnew_2]
noncomputable def f_X12_countsAnew : List qV → qA → Option qR := qa_fn P_X12_countsAnew 2
def pc_X12_countsAnew : Nat → Nat := fun j => [0, 17, 36].getD j 0
noncomputable def B_X12_isCovered_0 : qI := q_load 1 0 (q_load 0 1 (q_const (0, 4) (q_callv 14 f_X12_ofReader 3 (q_const (0, -1) (q_cmpne 1 (q_load 1 0 (q_get 14 2 1 (q_const (0, 0) (q_ald 101 0 (q_load 1 0 (q_load 0 1 (q_const (0, 3) (q_callv 14 f_X12_ofReader 3 (q_isub (q_load 1 0 (q_get 14 1 1 (q_const (0, 3) (q_ald 101 0 (q_cmpgt 2 (q_goto 1))))))))))))))))))))
noncomputable def B_X12_isCovered_1 : qI := q_const (0, 1) (q_goto 3)
noncomputable def B_X12_isCovered_2 : qI := q_const (0, 0) (q_goto 3)
noncomputable def B_X12_isCovered_3 : qI := q_retz
noncomputable def P_X12_isCovered : qP := [B_X12_isCovered_0, B_X12_isCovered_1, B_X12_isCovered_2, B_X12_isCovered_3]
noncomputable def f_X12_isCovered : List qV → qA → Option qR := qa_fn P_X12_isCovered 2
def pc_X12_isCovered : Nat → Nat := fun j => [0, 32, 36, 37].getD j 0
noncomputable def B_X12_holds_0 : qI := q_load 1 0 (q_load 0 1 (q_load 0 2 (q_callv 14 f_X12_isIn 3 (q_ifeq 1 (q_load 1 0 (q_load 0 1 (q_const (0, 2) (q_callv 14 f_X12_ofReader 3 (q_load 1 0 (q_load 0 2 (q_const (0, 1) (q_callv 14 f_X12_ofBranch 3 (q_cmpgt 1 (q_load 1 0 (q_load 0 1 (q_callv 14 f_X12_isCovered 2 (q_ifeq 1 (q_const (0, 1) (q_goto 2)))))))))))))))))))
noncomputable def B_X12_holds_1 : qI := q_const (0, 0) (q_goto 2)
noncomputable def B_X12_holds_2 : qI := q_retz
noncomputable def P_X12_holds : qP := [B_X12_holds_0, B_X12_holds_1, B_X12_holds_2]
noncomputable def f_X12_holds : List qV → qA → Option qR := qa_fn P_X12_holds 3
def pc_X12_holds : Nat → Nat := fun j => [0, 36, 37].getD j 0
noncomputable def B_X12_holderOf_0 : qI := q_const (0, 0) (q_store 0 2 (q_goto 1))
noncomputable def B_X12_holderOf_1 : qI := q_load 0 2 (q_const (0, 6) (q_cmpge 3 (q_load 1 0 (q_load 0 1 (q_const (0, 2) (q_callv 14 f_X12_ofBranch 3 (q_ifle 3 (q_load 1 0 (q_load 0 2 (q_load 0 1 (q_callv 14 f_X12_holds 3 (q_ifeq 2 (q_load 0 2 (q_ret 0))))))))))))))
noncomputable def B_X12_holderOf_2 : qI := q_iinc 2 (1) (q_goto 1)
noncomputable def B_X12_holderOf_3 : qI := q_const (0, -1) (q_ret 0)
noncomputable def P_X12_holderOf : qP := [B_X12_holderOf_0, B_X12_holderOf_1, B_X12_holderOf_2, B_X12_holderOf_3]
noncomputable def f_X12_holderOf : List qV → qA → Option qR := qa_fn P_X12_holderOf 3
def pc_X12_holderOf : Nat → Nat := fun j => [0, 2, 28, 34].getD j 0
noncomputable def B_X12_readersIn_0 : qI := q_const (0, 0) (q_store 0 2 (q_const (0, 0) (q_store 0 3 (q_goto 1))))
noncomputable def B_X12_readersIn_1 : qI := q_load 0 3 (q_const (0, 6) (q_cmpge 4 (q_load 0 2 (q_load 1 0 (q_load 0 3 (q_load 0 1 (q_callv 14 f_X12_isIn 3 (q_ifeq 2 (q_const (0, 1) (q_goto 3))))))))))
noncomputable def B_X12_readersIn_2 : qI := q_const (0, 0) (q_goto 3)
noncomputable def B_X12_readersIn_3 : qI := q_iadd (q_store 0 2 (q_iinc 3 (1) (q_goto 1)))
noncomputable def B_X12_readersIn_4 : qI := q_load 0 2 (q_ret 0)
noncomputable def P_X12_readersIn : qP := [B_X12_readersIn_0, B_X12_readersIn_1, B_X12_readersIn_2, B_X12_readersIn_3, B_X12_readersIn_4]
noncomputable def f_X12_readersIn : List qV → qA → Option qR := qa_fn P_X12_readersIn 4
def pc_X12_readersIn : Nat → Nat := fun j => [0, 4, 24, 25, 33].getD j 0
noncomputable def B_X12_areBehind_0 : qI := q_load 1 0 (q_load 0 1 (q_callv 14 f_X12_readersIn 2 (q_ifle 1 (q_const (0, 1) (q_goto 2)))))
noncomputable def B_X12_areBehind_1 : qI := q_const (0, 0) (q_goto 2)
noncomputable def B_X12_areBehind_2 : qI := q_store 0 2 (q_const (0, 0) (q_store 0 3 (q_goto 3)))
noncomputable def B_X12_areBehind_3 : qI := q_load 0 3 (q_const (0, 6) (q_cmpge 7 (q_load 0 2 (q_ifeq 5 (q_load 1 0 (q_load 0 3 (q_load 0 1 (q_callv 14 f_X12_isIn 3 (q_ifeq 4 (q_load 1 0 (q_load 0 3 (q_const (0, 2) (q_callv 14 f_X12_ofReader 3 (q_load 1 0 (q_load 0 1 (q_const (0, 1) (q_callv 14 f_X12_ofBranch 3 (q_cmple 5 (q_goto 4)))))))))))))))))))
noncomputable def B_X12_areBehind_4 : qI := q_const (0, 1) (q_goto 6)
noncomputable def B_X12_areBehind_5 : qI := q_const (0, 0) (q_goto 6)
noncomputable def B_X12_areBehind_6 : qI := q_store 0 2 (q_iinc 3 (1) (q_goto 3))
noncomputable def B_X12_areBehind_7 : qI := q_load 0 2 (q_retz)
noncomputable def P_X12_areBehind : qP := [B_X12_areBehind_0, B_X12_areBehind_1, B_X12_areBehind_2, B_X12_areBehind_3, B_X12_areBehind_4, B_X12_areBehind_5, B_X12_areBehind_6, B_X12_areBehind_7]
noncomputable def f_X12_areBehind : List qV → qA → Option qR := qa_fn P_X12_areBehind 4
def pc_X12_areBehind : Nat → Nat := fun j => [0, 12, 13, 16, 50, 54, 55, 62].getD j 0
noncomputable def B_X12_causeOf_0 : qI := q_load 1 0 (q_load 0 1 (q_const (0, 2) (q_callv 14 f_X12_ofBranch 3 (q_ifne 1 (q_const (0, -1) (q_ret 0))))))
noncomputable def B_X12_causeOf_1 : qI := q_load 1 0 (q_load 0 1 (q_const (0, 3) (q_callv 14 f_X12_ofBranch 3 (q_store 0 2 (q_load 0 2 (q_load 1 0 (q_get 14 1 1 (q_const (0, 1) (q_ald 101 0 (q_cmple 2 (q_const (0, 0) (q_ret 0))))))))))))
noncomputable def B_X12_causeOf_2 : qI := q_load 1 0 (q_get 14 1 1 (q_const (0, 2) (q_ald 101 0 (q_ifle 3 (q_load 1 0 (q_get 14 2 1 (q_const (0, 0) (q_ald 101 0 (q_load 1 0 (q_load 0 1 (q_const (0, 0) (q_callv 14 f_X12_timeOf 3 (q_isub (q_load 1 0 (q_get 14 1 1 (q_const (0, 2) (q_ald 101 0 (q_cmple 3 (q_const (0, 1) (q_goto 4))))))))))))))))))))
noncomputable def B_X12_causeOf_3 : qI := q_const (0, 0) (q_goto 4)
noncomputable def B_X12_causeOf_4 : qI := q_store 0 3 (q_load 1 0 (q_load 0 1 (q_callv 14 f_X12_holderOf 2 (q_const (0, -1) (q_cmpeq 5 (q_const (0, 1) (q_goto 6)))))))
noncomputable def B_X12_causeOf_5 : qI := q_const (0, 0) (q_goto 6)
noncomputable def B_X12_causeOf_6 : qI := q_store 0 4 (q_load 0 2 (q_load 1 0 (q_get 14 1 1 (q_const (0, 0) (q_ald 101 0 (q_cmple 7 (q_load 0 4 (q_ifne 7 (q_const (0, 1) (q_ret 0))))))))))
noncomputable def B_X12_causeOf_7 : qI := q_load 0 3 (q_ifeq 8 (q_load 0 4 (q_ifne 8 (q_const (0, 2) (q_goto 10)))))
noncomputable def B_X12_causeOf_8 : qI := q_load 1 0 (q_get 14 1 1 (q_const (0, 6) (q_ald 101 0 (q_const (0, 1) (q_cmpne 9 (q_load 1 0 (q_load 0 1 (q_callv 14 f_X12_areBehind 2 (q_ifeq 9 (q_const (0, 3) (q_goto 10)))))))))))
noncomputable def B_X12_causeOf_9 : qI := q_const (0, -1) (q_goto 10)
noncomputable def B_X12_causeOf_10 : qI := q_ret 0
noncomputable def P_X12_causeOf : qP := [B_X12_causeOf_0, B_X12_causeOf_1, B_X12_causeOf_2, B_X12_causeOf_3, B_X12_causeOf_4, B_X12_causeOf_5, B_X12_causeOf_6, B_X12_causeOf_7, B_X12_causeOf_8, B_X12_causeOf_9, B_X12_causeOf_10]
noncomputable def f_X12_causeOf : List qV → qA → Option qR := qa_fn P_X12_causeOf 5
def pc_X12_causeOf : Nat → Nat := fun j => [0, 11, 30, 65, 66, 80, 81, 100, 113, 136, 137].getD j 0
noncomputable def B_X12_owes_0 : qI := q_load 0 1 (q_call f_X12_readerAt 1 (q_store 0 3 (q_load 1 0 (q_load 0 2 (q_const (0, 0) (q_callv 14 f_X12_valueOf 3 (q_store 0 4 (q_load 1 0 (q_get 14 2 1 (q_load 0 3 (q_const (0, 9) (q_iadd (q_ald 101 0 (q_ifne 1 (q_const (0, 1) (q_goto 2))))))))))))))))
noncomputable def B_X12_owes_1 : qI := q_const (0, 0) (q_goto 2)
noncomputable def B_X12_owes_2 : qI := q_store 0 5 (q_load 0 5 (q_ifeq 4 (q_load 1 0 (q_get 14 2 1 (q_load 0 3 (q_const (0, 14) (q_iadd (q_load 1 0 (q_load 0 2 (q_const (0, 1) (q_callv 14 f_X12_ofBranch 3 (q_ast 101 0 (q_const (0, 0) (q_store 0 6 (q_goto 3)))))))))))))))
noncomputable def B_X12_owes_3 : qI := q_load 0 6 (q_const (0, 10) (q_cmpge 4 (q_load 1 0 (q_get 14 2 1 (q_load 0 3 (q_const (0, 16) (q_iadd (q_load 0 6 (q_iadd (q_const (0, -1000) (q_ast 101 0 (q_iinc 6 (1) (q_goto 3)))))))))))))
noncomputable def B_X12_owes_4 : qI := q_load 1 0 (q_get 14 2 1 (q_load 0 3 (q_const (0, 12) (q_iadd (q_load 0 5 (q_ifne 5 (q_load 0 4 (q_load 1 0 (q_get 14 2 1 (q_load 0 3 (q_const (0, 12) (q_iadd (q_ald 101 0 (q_cmpge 6 (q_goto 5)))))))))))))))
noncomputable def B_X12_owes_5 : qI := q_load 0 4 (q_goto 7)
noncomputable def B_X12_owes_6 : qI := q_load 1 0 (q_get 14 2 1 (q_load 0 3 (q_const (0, 12) (q_iadd (q_ald 101 0 (q_goto 7))))))
noncomputable def B_X12_owes_7 : qI := q_ast 101 0 (q_load 1 0 (q_get 14 2 1 (q_load 0 3 (q_const (0, 13) (q_iadd (q_load 0 5 (q_ifne 8 (q_load 0 4 (q_load 1 0 (q_get 14 2 1 (q_load 0 3 (q_const (0, 13) (q_iadd (q_ald 101 0 (q_cmple 9 (q_goto 8))))))))))))))))
noncomputable def B_X12_owes_8 : qI := q_load 0 4 (q_goto 10)
noncomputable def B_X12_owes_9 : qI := q_load 1 0 (q_get 14 2 1 (q_load 0 3 (q_const (0, 13) (q_iadd (q_ald 101 0 (q_goto 10))))))
noncomputable def B_X12_owes_10 : qI := q_ast 101 0 (q_load 1 0 (q_get 14 2 1 (q_load 0 3 (q_const (0, 9) (q_iadd (q_dup2 (q_ald 101 0 (q_const (0, 1) (q_iadd (q_ast 101 0 (q_load 1 0 (q_get 14 2 1 (q_load 0 3 (q_const (0, 10) (q_iadd (q_dup2 (q_ald 101 0 (q_load 1 0 (q_load 0 2 (q_const (0, 0) (q_callv 14 f_X12_sizeOf 3 (q_iadd (q_ast 101 0 (q_load 1 0 (q_get 14 2 1 (q_load 0 3 (q_const (0, 11) (q_iadd (q_dup2 (q_goto 11))))))))))))))))))))))))))))))
noncomputable def B_X12_owes_11 : qI := q_ald 101 0 (q_load 0 4 (q_iadd (q_ast 101 0 (q_load 1 0 (q_get 14 2 1 (q_load 0 3 (q_const (0, 15) (q_iadd (q_load 1 0 (q_load 0 2 (q_const (0, 1) (q_callv 14 f_X12_ofBranch 3 (q_ast 101 0 (q_load 1 0 (q_get 14 2 1 (q_load 0 3 (q_const (0, 16) (q_iadd (q_load 1 0 (q_load 0 2 (q_const (0, 0) (q_callv 14 f_X12_keyOf 3 (q_iadd (q_load 0 4 (q_ast 101 0 (q_load 1 0 (q_dup (q_get 14 11 0 (q_const (0, 1) (q_goto 12))))))))))))))))))))))))))))))
noncomputable def B_X12_owes_12 : qI := q_iadd (q_put 14 11 0 (q_load 1 0 (q_get 14 12 1 (q_load 0 1 (q_dup2 (q_ald 101 0 (q_const (0, 1) (q_iadd (q_ast 101 0 (q_vret))))))))))
noncomputable def P_X12_owes : qP := [B_X12_owes_0, B_X12_owes_1, B_X12_owes_2, B_X12_owes_3, B_X12_owes_4, B_X12_owes_5, B_X12_owes_6, B_X12_owes_7, B_X12_owes_8, B_X12_owes_9, B_X12_owes_10, B_X12_owes_11, B_X12_owes_12]
noncomputable def f_X12_owes : List qV → qA → Option qR := qa_fn P_X12_owes 7
def pc_X12_owes : Nat → Nat := fun j => [0, 29, 30, 55, 83, 110, 115, 124, 152, 157, 166, 207, 251].getD j 0
noncomputable def B_X12_clearsDebt_0 : qI := q_load 0 1 (q_call f_X12_readerAt 1 (q_store 0 2 (q_const (0, 9) (q_store 0 3 (q_goto 1)))))
noncomputable def B_X12_clearsDebt_1 : qI := q_load 0 3 (q_const (0, 26) (q_cmpge 2 (q_load 1 0 (q_get 14 2 1 (q_load 0 2 (q_load 0 3 (q_iadd (q_const (0, 0) (q_ast 101 0 (q_iinc 3 (1) (q_goto 1)))))))))))
noncomputable def B_X12_clearsDebt_2 : qI := q_vret
noncomputable def P_X12_clearsDebt : qP := [B_X12_clearsDebt_0, B_X12_clearsDebt_1, B_X12_clearsDebt_2]
noncomputable def f_X12_clearsDebt : List qV → qA → Option qR := qa_fn P_X12_clearsDebt 4
def pc_X12_clearsDebt : Nat → Nat := fun j => [0, 8, 29].getD j 0
noncomputable def B_X12_cutsOne_0 : qI := q_const (0, 0) (q_store 0 3 (q_goto 1))
noncomputable def B_X12_cutsOne_1 : qI := q_load 0 3 (q_const (0, 6) (q_cmpge 4 (q_load 1 0 (q_load 0 3 (q_load 0 1 (q_callv 14 f_X12_isIn 3 (q_ifeq 3 (q_load 1 0 (q_load 0 3 (q_const (0, 2) (q_callv 14 f_X12_ofReader 3 (q_load 1 0 (q_load 0 1 (q_const (0, 1) (q_callv 14 f_X12_ofBranch 3 (q_cmpgt 3 (q_load 1 0 (q_load 0 3 (q_load 0 1 (q_callv 14 f_X12_owes 3 (q_load 1 0 (q_get 14 2 1 (q_load 0 3 (q_call f_X12_readerAt 1 (q_const (0, 2) (q_iadd (q_load 1 0 (q_load 0 1 (q_const (0, 1) (q_goto 2))))))))))))))))))))))))))))))
noncomputable def B_X12_cutsOne_2 : qI := q_callv 14 f_X12_ofBranch 3 (q_const (0, 1) (q_iadd (q_ast 101 0 (q_goto 3))))
noncomputable def B_X12_cutsOne_3 : qI := q_iinc 3 (1) (q_goto 1)
noncomputable def B_X12_cutsOne_4 : qI := q_load 1 0 (q_get 14 2 1 (q_load 0 1 (q_call f_X12_branchAt 1 (q_const (0, 3) (q_iadd (q_dup2 (q_ald 101 0 (q_load 1 0 (q_load 0 1 (q_const (0, 0) (q_callv 14 f_X12_sizeOf 3 (q_isub (q_ast 101 0 (q_load 1 0 (q_get 14 2 1 (q_load 0 1 (q_call f_X12_branchAt 1 (q_const (0, 1) (q_iadd (q_dup2 (q_ald 101 0 (q_const (0, 1) (q_iadd (q_ast 101 0 (q_load 1 0 (q_get 14 2 1 (q_load 0 1 (q_call f_X12_branchAt 1 (q_const (0, 2) (q_goto 5))))))))))))))))))))))))))))))
noncomputable def B_X12_cutsOne_5 : qI := q_iadd (q_dup2 (q_ald 101 0 (q_const (0, 1) (q_isub (q_ast 101 0 (q_load 1 0 (q_get 14 2 1 (q_load 0 1 (q_call f_X12_branchAt 1 (q_const (0, 6) (q_iadd (q_dup2 (q_ald 101 0 (q_const (0, 1) (q_iadd (q_ast 101 0 (q_load 1 0 (q_get 14 2 1 (q_const (0, 2) (q_load 0 2 (q_iadd (q_dup2 (q_ald 101 0 (q_const (0, 1) (q_iadd (q_ast 101 0 (q_load 1 0 (q_dup (q_get 14 9 0 (q_goto 6))))))))))))))))))))))))))))))
noncomputable def B_X12_cutsOne_6 : qI := q_const (0, 1) (q_iadd (q_put 14 9 0 (q_const (0, 0) (q_store 0 3 (q_goto 7)))))
noncomputable def B_X12_cutsOne_7 : qI := q_load 0 3 (q_load 1 0 (q_load 0 1 (q_const (0, 2) (q_callv 14 f_X12_ofBranch 3 (q_cmpge 9 (q_load 1 0 (q_get 14 2 1 (q_const (0, 190) (q_load 0 1 (q_load 0 3 (q_call f_X12_entryAt 2 (q_iadd (q_load 1 0 (q_get 14 2 1 (q_const (0, 190) (q_load 0 1 (q_load 0 3 (q_const (0, 1) (q_iadd (q_call f_X12_entryAt 2 (q_iadd (q_ald 101 0 (q_ast 101 0 (q_load 1 0 (q_get 14 2 1 (q_const (0, 7406) (q_load 0 1 (q_load 0 3 (q_call f_X12_entryAt 2 (q_goto 8))))))))))))))))))))))))))))))
noncomputable def B_X12_cutsOne_8 : qI := q_iadd (q_load 1 0 (q_get 14 2 1 (q_const (0, 7406) (q_load 0 1 (q_load 0 3 (q_const (0, 1) (q_iadd (q_call f_X12_entryAt 2 (q_iadd (q_ald 101 0 (q_ast 101 0 (q_iinc 3 (1) (q_goto 7)))))))))))))
noncomputable def B_X12_cutsOne_9 : qI := q_vret
noncomputable def P_X12_cutsOne : qP := [B_X12_cutsOne_0, B_X12_cutsOne_1, B_X12_cutsOne_2, B_X12_cutsOne_3, B_X12_cutsOne_4, B_X12_cutsOne_5, B_X12_cutsOne_6, B_X12_cutsOne_7, B_X12_cutsOne_8, B_X12_cutsOne_9]
noncomputable def f_X12_cutsOne : List qV → qA → Option qR := qa_fn P_X12_cutsOne 4
def pc_X12_cutsOne : Nat → Nat := fun j => [0, 2, 51, 57, 63, 107, 146, 153, 205, 229].getD j 0
noncomputable def B_X12_cuts_0 : qI := q_load 1 0 (q_load 0 1 (q_callv 14 f_X12_causeOf 2 (q_store 0 2 (q_goto 1))))
noncomputable def B_X12_cuts_1 : qI := q_load 0 2 (q_const (0, -1) (q_cmpeq 2 (q_load 1 0 (q_load 0 1 (q_load 0 2 (q_callv 14 f_X12_cutsOne 3 (q_load 1 0 (q_load 0 1 (q_callv 14 f_X12_causeOf 2 (q_store 0 2 (q_goto 1)))))))))))
noncomputable def B_X12_cuts_2 : qI := q_vret
noncomputable def P_X12_cuts : qP := [B_X12_cuts_0, B_X12_cuts_1, B_X12_cuts_2]
noncomputable def f_X12_cuts : List qV → qA → Option qR := qa_fn P_X12_cuts 3
def pc_X12_cuts : Nat → Nat := fun j => [0, 6, 26].getD j 0
noncomputable def B_X12_ticks_0 : qI := q_load 1 0 (q_get 14 2 1 (q_const (0, 0) (q_dup2 (q_ald 101 0 (q_const (0, 1) (q_iadd (q_ast 101 0 (q_const (0, 0) (q_store 0 1 (q_goto 1))))))))))
noncomputable def B_X12_ticks_1 : qI := q_load 0 1 (q_const (0, 6) (q_cmpge 4 (q_load 1 0 (q_load 0 1 (q_callv 14 f_X12_isReader 2 (q_ifeq 3 (q_load 1 0 (q_load 0 1 (q_const (0, 4) (q_callv 14 f_X12_ofReader 3 (q_const (0, -1) (q_cmpeq 3 (q_load 1 0 (q_load 0 1 (q_const (0, 4) (q_callv 14 f_X12_ofReader 3 (q_load 1 0 (q_get 14 2 1 (q_const (0, 0) (q_ald 101 0 (q_cmpge 3 (q_load 1 0 (q_get 14 2 1 (q_load 0 1 (q_call f_X12_readerAt 1 (q_const (0, 4) (q_iadd (q_const (0, -1) (q_ast 101 0 (q_goto 2))))))))))))))))))))))))))))))
noncomputable def B_X12_ticks_2 : qI := q_load 1 0 (q_get 14 2 1 (q_load 0 1 (q_call f_X12_readerAt 1 (q_const (0, 6) (q_iadd (q_dup2 (q_ald 101 0 (q_const (0, 1) (q_iadd (q_ast 101 0 (q_load 1 0 (q_dup (q_get 14 10 0 (q_const (0, 1) (q_iadd (q_put 14 10 0 (q_goto 3)))))))))))))))))
noncomputable def B_X12_ticks_3 : qI := q_iinc 1 (1) (q_goto 1)
noncomputable def B_X12_ticks_4 : qI := q_const (0, 0) (q_store 0 1 (q_goto 5))
noncomputable def B_X12_ticks_5 : qI := q_load 0 1 (q_const (0, 4) (q_cmpge 7 (q_load 1 0 (q_load 0 1 (q_callv 14 f_X12_isBranch 2 (q_ifeq 6 (q_load 1 0 (q_load 0 1 (q_callv 14 f_X12_cuts 2 (q_goto 6))))))))))
noncomputable def B_X12_ticks_6 : qI := q_iinc 1 (1) (q_goto 5)
noncomputable def B_X12_ticks_7 : qI := q_vret
noncomputable def P_X12_ticks : qP := [B_X12_ticks_0, B_X12_ticks_1, B_X12_ticks_2, B_X12_ticks_3, B_X12_ticks_4, B_X12_ticks_5, B_X12_ticks_6, B_X12_ticks_7]
noncomputable def f_X12_ticks : List qV → qA → Option qR := qa_fn P_X12_ticks 2
def pc_X12_ticks : Nat → Nat := fun j => [0, 12, 63, 89, 95, 97, 115, 121].getD j 0
noncomputable def B_X12_lowOf_0 : qI := q_load 0 0 (q_const (0, 2) (q_cmpeq 1 (q_load 0 0 (q_const (0, 3) (q_cmpeq 1 (q_load 0 0 (q_const (0, 6) (q_cmpne 2 (q_goto 1)))))))))
noncomputable def B_X12_lowOf_1 : qI := q_const (0, 0) (q_goto 3)
noncomputable def B_X12_lowOf_2 : qI := q_const (0, 1) (q_goto 3)
noncomputable def B_X12_lowOf_3 : qI := q_ret 0
noncomputable def P_X12_lowOf : qP := [B_X12_lowOf_0, B_X12_lowOf_1, B_X12_lowOf_2, B_X12_lowOf_3]
noncomputable def f_X12_lowOf : List qV → qA → Option qR := qa_fn P_X12_lowOf 1
def pc_X12_lowOf : Nat → Nat := fun j => [0, 16, 20, 21].getD j 0
noncomputable def B_X12_highOf_0 : qI := q_load 0 0 (q_switch (0) [1, 2, 3, 4, 5, 6] 7)
noncomputable def B_X12_highOf_1 : qI := q_const (0, 400) (q_ret 0)
noncomputable def B_X12_highOf_2 : qI := q_const (0, 900) (q_ret 0)
noncomputable def B_X12_highOf_3 : qI := q_const (0, 500) (q_ret 0)
noncomputable def B_X12_highOf_4 : qI := q_const (0, 99) (q_ret 0)
noncomputable def B_X12_highOf_5 : qI := q_const (0, 9) (q_ret 0)
noncomputable def B_X12_highOf_6 : qI := q_const (0, 60) (q_ret 0)
noncomputable def B_X12_highOf_7 : qI := q_const (0, 1) (q_ret 0)
noncomputable def P_X12_highOf : qP := [B_X12_highOf_0, B_X12_highOf_1, B_X12_highOf_2, B_X12_highOf_3, B_X12_highOf_4, B_X12_highOf_5, B_X12_highOf_6, B_X12_highOf_7]
noncomputable def f_X12_highOf : List qV → qA → Option qR := qa_fn P_X12_highOf 1
def pc_X12_highOf : Nat → Nat := fun j => [0, 40, 44, 48, 52, 55, 58, 61].getD j 0
noncomputable def B_X12_set_0 : qI := q_load 1 0 (q_load 0 1 (q_const (0, 0) (q_const (0, 6) (q_call f_X12_in 3 (q_ifeq 1 (q_load 0 2 (q_load 0 1 (q_call f_X12_lowOf 1 (q_load 0 1 (q_call f_X12_highOf 1 (q_call f_X12_in 3 (q_ifeq 1 (q_const (0, 0) (q_goto 2))))))))))))))
noncomputable def B_X12_set_1 : qI := q_const (0, 1) (q_goto 2)
noncomputable def B_X12_set_2 : qI := q_put 14 0 0 (q_load 1 0 (q_get 14 0 0 (q_ifle 3 (q_const (0, 0) (q_ret 0)))))
noncomputable def B_X12_set_3 : qI := q_load 1 0 (q_get 14 1 1 (q_load 0 1 (q_ald 101 0 (q_store 0 3 (q_load 1 0 (q_get 14 1 1 (q_load 0 1 (q_load 0 2 (q_ast 101 0 (q_load 0 3 (q_ret 0)))))))))))
noncomputable def P_X12_set : qP := [B_X12_set_0, B_X12_set_1, B_X12_set_2, B_X12_set_3]
noncomputable def f_X12_set : List qV → qA → Option qR := qa_fn P_X12_set 4
def pc_X12_set : Nat → Nat := fun j => [0, 30, 31, 43].getD j 0
noncomputable def B_X12_branchMany_0 : qI := q_const (0, 0) (q_store 0 1 (q_const (0, 0) (q_store 0 2 (q_goto 1))))
noncomputable def B_X12_branchMany_1 : qI := q_load 0 2 (q_const (0, 4) (q_cmpge 4 (q_load 0 1 (q_load 1 0 (q_load 0 2 (q_callv 14 f_X12_isBranch 2 (q_ifeq 2 (q_const (0, 1) (q_goto 3)))))))))
noncomputable def B_X12_branchMany_2 : qI := q_const (0, 0) (q_goto 3)
noncomputable def B_X12_branchMany_3 : qI := q_iadd (q_store 0 1 (q_iinc 2 (1) (q_goto 1)))
noncomputable def B_X12_branchMany_4 : qI := q_load 0 1 (q_ret 0)
noncomputable def P_X12_branchMany : qP := [B_X12_branchMany_0, B_X12_branchMany_1, B_X12_branchMany_2, B_X12_branchMany_3, B_X12_branchMany_4]
noncomputable def f_X12_branchMany : List qV → qA → Option qR := qa_fn P_X12_branchMany 3
def pc_X12_branchMany : Nat → Nat := fun j => [0, 4, 22, 23, 31].getD j 0
noncomputable def B_X12_readerMany_0 : qI := q_const (0, 0) (q_store 0 1 (q_const (0, 0) (q_store 0 2 (q_goto 1))))
noncomputable def B_X12_readerMany_1 : qI := q_load 0 2 (q_const (0, 6) (q_cmpge 4 (q_load 0 1 (q_load 1 0 (q_load 0 2 (q_callv 14 f_X12_isReader 2 (q_ifeq 2 (q_const (0, 1) (q_goto 3)))))))))
noncomputable def B_X12_readerMany_2 : qI := q_const (0, 0) (q_goto 3)
noncomputable def B_X12_readerMany_3 : qI := q_iadd (q_store 0 1 (q_iinc 2 (1) (q_goto 1)))
noncomputable def B_X12_readerMany_4 : qI := q_load 0 1 (q_ret 0)
noncomputable def P_X12_readerMany : qP := [B_X12_readerMany_0, B_X12_readerMany_1, B_X12_readerMany_2, B_X12_readerMany_3, B_X12_readerMany_4]
noncomputable def f_X12_readerMany : List qV → qA → Option qR := qa_fn P_X12_readerMany 3
def pc_X12_readerMany : Nat → Nat := fun j => [0, 4, 23, 24, 32].getD j 0
noncomputable def B_X12_entryMany_0 : qI := q_const (0, 0) (q_store 0 1 (q_const (0, 0) (q_store 0 2 (q_goto 1))))
noncomputable def B_X12_entryMany_1 : qI := q_load 0 2 (q_const (0, 4) (q_cmpge 4 (q_load 0 1 (q_load 1 0 (q_load 0 2 (q_callv 14 f_X12_isBranch 2 (q_ifeq 2 (q_load 1 0 (q_load 0 2 (q_const (0, 2) (q_callv 14 f_X12_ofBranch 3 (q_goto 3))))))))))))
noncomputable def B_X12_entryMany_2 : qI := q_const (0, 0) (q_goto 3)
noncomputable def B_X12_entryMany_3 : qI := q_iadd (q_store 0 1 (q_iinc 2 (1) (q_goto 1)))
noncomputable def B_X12_entryMany_4 : qI := q_load 0 1 (q_ret 0)
noncomputable def P_X12_entryMany : qP := [B_X12_entryMany_0, B_X12_entryMany_1, B_X12_entryMany_2, B_X12_entryMany_3, B_X12_entryMany_4]
noncomputable def f_X12_entryMany : List qV → qA → Option qR := qa_fn P_X12_entryMany 3
def pc_X12_entryMany : Nat → Nat := fun j => [0, 4, 27, 28, 36].getD j 0
noncomputable def B_X12_count_0 : qI := q_load 1 0 (q_load 0 1 (q_const (0, 0) (q_const (0, 17) (q_call f_X12_in 3 (q_ifeq 1 (q_const (0, 0) (q_goto 2)))))))
noncomputable def B_X12_count_1 : qI := q_const (0, 1) (q_goto 2)
noncomputable def B_X12_count_2 : qI := q_put 14 0 0 (q_load 1 0 (q_get 14 0 0 (q_ifle 3 (q_const (0, -1) (q_goto 4)))))
noncomputable def B_X12_count_3 : qI := q_load 0 1 (q_goto 4)
noncomputable def B_X12_count_4 : qI := q_switch (-1) [5, 14, 14, 14, 14, 14, 14, 14, 6, 7, 8, 9, 10, 11, 11, 11, 11, 12, 13] 14
noncomputable def B_X12_count_5 : qI := q_const (0, 0) (q_ret 0)
noncomputable def B_X12_count_6 : qI := q_load 1 0 (q_get 14 2 1 (q_const (0, 0) (q_ald 101 0 (q_ret 0))))
noncomputable def B_X12_count_7 : qI := q_load 1 0 (q_callv 14 f_X12_branchMany 1 (q_ret 0))
noncomputable def B_X12_count_8 : qI := q_load 1 0 (q_callv 14 f_X12_readerMany 1 (q_ret 0))
noncomputable def B_X12_count_9 : qI := q_load 1 0 (q_callv 14 f_X12_entryMany 1 (q_ret 0))
noncomputable def B_X12_count_10 : qI := q_load 1 0 (q_get 14 2 1 (q_const (0, 1) (q_ald 101 0 (q_ret 0))))
noncomputable def B_X12_count_11 : qI := q_load 1 0 (q_get 14 2 1 (q_const (0, 2) (q_load 0 1 (q_iadd (q_const (0, 12) (q_isub (q_ald 101 0 (q_ret 0))))))))
noncomputable def B_X12_count_12 : qI := q_load 1 0 (q_get 14 5 0 (q_ret 0))
noncomputable def B_X12_count_13 : qI := q_load 1 0 (q_get 14 14 0 (q_ret 0))
noncomputable def B_X12_count_14 : qI := q_load 1 0 (q_get 14 1 1 (q_load 0 1 (q_ald 101 0 (q_ret 0))))
noncomputable def P_X12_count : qP := [B_X12_count_0, B_X12_count_1, B_X12_count_2, B_X12_count_3, B_X12_count_4, B_X12_count_5, B_X12_count_6, B_X12_count_7, B_X12_count_8, B_X12_count_9, B_X12_count_10, B_X12_count_11, B_X12_count_12, B_X12_count_13, B_X12_count_14]
noncomputable def f_X12_count : List qV → qA → Option qR := qa_fn P_X12_count 2
def pc_X12_count : Nat → Nat := fun j => [0, 15, 16, 30, 31, 120, 122, 129, 134, 139, 144, 151, 163, 168, 173].getD j 0
noncomputable def B_X12_childrenOf_0 : qI := q_const (0, 0) (q_store 0 2 (q_const (0, 0) (q_store 0 3 (q_goto 1))))
noncomputable def B_X12_childrenOf_1 : qI := q_load 0 3 (q_const (0, 4) (q_cmpge 4 (q_load 0 2 (q_load 1 0 (q_load 0 3 (q_callv 14 f_X12_isBranch 2 (q_ifeq 2 (q_load 1 0 (q_load 0 3 (q_const (0, 4) (q_callv 14 f_X12_ofBranch 3 (q_load 0 1 (q_cmpne 2 (q_const (0, 1) (q_goto 3)))))))))))))))
noncomputable def B_X12_childrenOf_2 : qI := q_const (0, 0) (q_goto 3)
noncomputable def B_X12_childrenOf_3 : qI := q_iadd (q_store 0 2 (q_iinc 3 (1) (q_goto 1)))
noncomputable def B_X12_childrenOf_4 : qI := q_load 0 2 (q_ret 0)
noncomputable def P_X12_childrenOf : qP := [B_X12_childrenOf_0, B_X12_childrenOf_1, B_X12_childrenOf_2, B_X12_childrenOf_3, B_X12_childrenOf_4]
noncomputable def f_X12_childrenOf : List qV → qA → Option qR := qa_fn P_X12_childrenOf 4
def pc_X12_childrenOf : Nat → Nat := fun j => [0, 4, 32, 33, 41].getD j 0
noncomputable def B_X12_branch_0 : qI := q_load 1 0 (q_load 1 0 (q_load 0 1 (q_callv 14 f_X12_isBranch 2 (q_ifne 1 (q_const (0, 1) (q_goto 3))))))
noncomputable def B_X12_branch_1 : qI := q_load 0 2 (q_const (0, 0) (q_const (0, 7) (q_call f_X12_in 3 (q_ifeq 2 (q_const (0, 0) (q_goto 3))))))
noncomputable def B_X12_branch_2 : qI := q_const (0, 2) (q_goto 3)
noncomputable def B_X12_branch_3 : qI := q_put 14 0 0 (q_load 1 0 (q_get 14 0 0 (q_ifle 4 (q_const (0, -1) (q_goto 5)))))
noncomputable def B_X12_branch_4 : qI := q_load 0 2 (q_goto 5)
noncomputable def B_X12_branch_5 : qI := q_switch (-1) [6, 7, 8, 9, 10, 11, 12, 13] 14
noncomputable def B_X12_branch_6 : qI := q_const (0, 0) (q_ret 0)
noncomputable def B_X12_branch_7 : qI := q_load 1 0 (q_load 0 1 (q_const (0, 1) (q_callv 14 f_X12_ofBranch 3 (q_ret 0))))
noncomputable def B_X12_branch_8 : qI := q_load 1 0 (q_load 0 1 (q_callv 14 f_X12_endOf 2 (q_ret 0)))
noncomputable def B_X12_branch_9 : qI := q_load 1 0 (q_load 0 1 (q_const (0, 3) (q_callv 14 f_X12_ofBranch 3 (q_ret 0))))
noncomputable def B_X12_branch_10 : qI := q_load 1 0 (q_load 0 1 (q_const (0, 4) (q_callv 14 f_X12_ofBranch 3 (q_ret 0))))
noncomputable def B_X12_branch_11 : qI := q_load 1 0 (q_load 0 1 (q_const (0, 5) (q_callv 14 f_X12_ofBranch 3 (q_ret 0))))
noncomputable def B_X12_branch_12 : qI := q_load 1 0 (q_load 0 1 (q_callv 14 f_X12_readersIn 2 (q_ret 0)))
noncomputable def B_X12_branch_13 : qI := q_load 1 0 (q_load 0 1 (q_callv 14 f_X12_childrenOf 2 (q_ret 0)))
noncomputable def B_X12_branch_14 : qI := q_load 1 0 (q_load 0 1 (q_const (0, 6) (q_callv 14 f_X12_ofBranch 3 (q_ret 0))))
noncomputable def P_X12_branch : qP := [B_X12_branch_0, B_X12_branch_1, B_X12_branch_2, B_X12_branch_3, B_X12_branch_4, B_X12_branch_5, B_X12_branch_6, B_X12_branch_7, B_X12_branch_8, B_X12_branch_9, B_X12_branch_10, B_X12_branch_11, B_X12_branch_12, B_X12_branch_13, B_X12_branch_14]
noncomputable def f_X12_branch : List qV → qA → Option qR := qa_fn P_X12_branch 3
def pc_X12_branch : Nat → Nat := fun j => [0, 13, 27, 28, 42, 43, 88, 90, 97, 103, 110, 117, 124, 130, 136].getD j 0
noncomputable def B_X12_notBehind_0 : qI := q_const (0, 0) (q_store 0 3 (q_const (0, 0) (q_store 0 4 (q_goto 1))))
noncomputable def B_X12_notBehind_1 : qI := q_load 0 4 (q_const (0, 6) (q_cmpge 4 (q_load 0 3 (q_load 1 0 (q_load 0 4 (q_load 0 1 (q_callv 14 f_X12_isIn 3 (q_ifeq 2 (q_load 1 0 (q_load 0 4 (q_const (0, 2) (q_callv 14 f_X12_ofReader 3 (q_load 0 2 (q_cmpgt 2 (q_const (0, 1) (q_goto 3))))))))))))))))
noncomputable def B_X12_notBehind_2 : qI := q_const (0, 0) (q_goto 3)
noncomputable def B_X12_notBehind_3 : qI := q_iadd (q_store 0 3 (q_iinc 4 (1) (q_goto 1)))
noncomputable def B_X12_notBehind_4 : qI := q_load 0 3 (q_ret 0)
noncomputable def P_X12_notBehind : qP := [B_X12_notBehind_0, B_X12_notBehind_1, B_X12_notBehind_2, B_X12_notBehind_3, B_X12_notBehind_4]
noncomputable def f_X12_notBehind : List qV → qA → Option qR := qa_fn P_X12_notBehind 5
def pc_X12_notBehind : Nat → Nat := fun j => [0, 5, 38, 39, 47].getD j 0
noncomputable def B_X12_entry_0 : qI := q_load 1 0 (q_load 0 1 (q_callv 14 f_X12_isBranch 2 (q_ifeq 1 (q_load 0 2 (q_load 1 0 (q_load 0 1 (q_const (0, 1) (q_callv 14 f_X12_ofBranch 3 (q_load 1 0 (q_load 0 1 (q_callv 14 f_X12_endOf 2 (q_const (0, 1) (q_isub (q_call f_X12_in 3 (q_ifeq 1 (q_const (0, 1) (q_goto 2)))))))))))))))))
noncomputable def B_X12_entry_1 : qI := q_const (0, 0) (q_goto 2)
noncomputable def B_X12_entry_2 : qI := q_store 0 4 (q_load 1 0 (q_load 0 4 (q_ifne 3 (q_const (0, 1) (q_goto 5)))))
noncomputable def B_X12_entry_3 : qI := q_load 0 3 (q_const (0, 0) (q_const (0, 4) (q_call f_X12_in 3 (q_ifeq 4 (q_const (0, 0) (q_goto 5))))))
noncomputable def B_X12_entry_4 : qI := q_const (0, 2) (q_goto 5)
noncomputable def B_X12_entry_5 : qI := q_put 14 0 0 (q_load 1 0 (q_get 14 0 0 (q_ifle 6 (q_const (0, 0) (q_ret 0)))))
noncomputable def B_X12_entry_6 : qI := q_load 0 2 (q_load 1 0 (q_load 0 1 (q_const (0, 1) (q_callv 14 f_X12_ofBranch 3 (q_isub (q_store 0 5 (q_load 0 3 (q_switch (0) [7, 8, 9, 10] 11))))))))
noncomputable def B_X12_entry_7 : qI := q_load 1 0 (q_load 0 1 (q_load 0 5 (q_callv 14 f_X12_timeOf 3 (q_ret 0))))
noncomputable def B_X12_entry_8 : qI := q_load 1 0 (q_load 0 1 (q_load 0 5 (q_callv 14 f_X12_keyOf 3 (q_ret 0))))
noncomputable def B_X12_entry_9 : qI := q_load 1 0 (q_load 0 1 (q_load 0 5 (q_callv 14 f_X12_sizeOf 3 (q_ret 0))))
noncomputable def B_X12_entry_10 : qI := q_load 1 0 (q_load 0 1 (q_load 0 5 (q_callv 14 f_X12_valueOf 3 (q_ret 0))))
noncomputable def B_X12_entry_11 : qI := q_load 1 0 (q_load 0 1 (q_load 0 2 (q_callv 14 f_X12_notBehind 3 (q_ret 0))))
noncomputable def P_X12_entry : qP := [B_X12_entry_0, B_X12_entry_1, B_X12_entry_2, B_X12_entry_3, B_X12_entry_4, B_X12_entry_5, B_X12_entry_6, B_X12_entry_7, B_X12_entry_8, B_X12_entry_9, B_X12_entry_10, B_X12_entry_11]
noncomputable def f_X12_entry : List qV → qA → Option qR := qa_fn P_X12_entry 6
def pc_X12_entry : Nat → Nat := fun j => [0, 32, 33, 45, 58, 59, 71, 112, 120, 128, 136, 144].getD j 0
noncomputable def B_X12_unreadSize_0 : qI := q_load 1 0 (q_load 0 1 (q_const (0, 1) (q_callv 14 f_X12_ofReader 3 (q_store 0 2 (q_const (0, 0) (q_store 0 3 (q_load 1 0 (q_load 0 1 (q_const (0, 2) (q_callv 14 f_X12_ofReader 3 (q_load 1 0 (q_load 0 2 (q_const (0, 1) (q_callv 14 f_X12_ofBranch 3 (q_isub (q_store 0 4 (q_goto 1)))))))))))))))))
noncomputable def B_X12_unreadSize_1 : qI := q_load 0 4 (q_load 1 0 (q_load 0 2 (q_const (0, 2) (q_callv 14 f_X12_ofBranch 3 (q_cmpge 2 (q_load 0 3 (q_load 1 0 (q_load 0 2 (q_load 0 4 (q_callv 14 f_X12_sizeOf 3 (q_iadd (q_store 0 3 (q_iinc 4 (1) (q_goto 1))))))))))))))
noncomputable def B_X12_unreadSize_2 : qI := q_load 0 3 (q_ret 0)
noncomputable def P_X12_unreadSize : qP := [B_X12_unreadSize_0, B_X12_unreadSize_1, B_X12_unreadSize_2]
noncomputable def f_X12_unreadSize : List qV → qA → Option qR := qa_fn P_X12_unreadSize 5
def pc_X12_unreadSize : Nat → Nat := fun j => [0, 24, 51].getD j 0
noncomputable def B_X12_reader_0 : qI := q_load 1 0 (q_load 1 0 (q_load 0 1 (q_callv 14 f_X12_isReader 2 (q_ifne 1 (q_const (0, 1) (q_goto 3))))))
noncomputable def B_X12_reader_1 : qI := q_load 0 2 (q_const (0, 0) (q_const (0, 10) (q_call f_X12_in 3 (q_ifeq 2 (q_const (0, 0) (q_goto 3))))))
noncomputable def B_X12_reader_2 : qI := q_const (0, 2) (q_goto 3)
noncomputable def B_X12_reader_3 : qI := q_put 14 0 0 (q_load 1 0 (q_get 14 0 0 (q_ifle 4 (q_const (0, -1) (q_goto 5)))))
noncomputable def B_X12_reader_4 : qI := q_load 0 2 (q_goto 5)
noncomputable def B_X12_reader_5 : qI := q_switch (-1) [6, 14, 14, 14, 14, 14, 14, 7, 10, 11, 12, 13] 14
noncomputable def B_X12_reader_6 : qI := q_const (0, 0) (q_ret 0)
noncomputable def B_X12_reader_7 : qI := q_load 1 0 (q_load 0 1 (q_callv 14 f_X12_isCovered 2 (q_ifeq 8 (q_const (0, 1) (q_goto 9)))))
noncomputable def B_X12_reader_8 : qI := q_const (0, 0) (q_goto 9)
noncomputable def B_X12_reader_9 : qI := q_ret 0
noncomputable def B_X12_reader_10 : qI := q_load 1 0 (q_load 1 0 (q_load 0 1 (q_const (0, 1) (q_callv 14 f_X12_ofReader 3 (q_callv 14 f_X12_endOf 2 (q_load 1 0 (q_load 0 1 (q_const (0, 2) (q_callv 14 f_X12_ofReader 3 (q_isub (q_ret 0)))))))))))
noncomputable def B_X12_reader_11 : qI := q_load 1 0 (q_load 0 1 (q_callv 14 f_X12_unreadSize 2 (q_ret 0)))
noncomputable def B_X12_reader_12 : qI := q_load 1 0 (q_load 0 1 (q_const (0, 7) (q_callv 14 f_X12_ofReader 3 (q_ret 0))))
noncomputable def B_X12_reader_13 : qI := q_load 1 0 (q_load 0 1 (q_const (0, 8) (q_callv 14 f_X12_ofReader 3 (q_ret 0))))
noncomputable def B_X12_reader_14 : qI := q_load 1 0 (q_load 0 1 (q_const (0, 1) (q_load 0 2 (q_iadd (q_callv 14 f_X12_ofReader 3 (q_ret 0))))))
noncomputable def P_X12_reader : qP := [B_X12_reader_0, B_X12_reader_1, B_X12_reader_2, B_X12_reader_3, B_X12_reader_4, B_X12_reader_5, B_X12_reader_6, B_X12_reader_7, B_X12_reader_8, B_X12_reader_9, B_X12_reader_10, B_X12_reader_11, B_X12_reader_12, B_X12_reader_13, B_X12_reader_14]
noncomputable def f_X12_reader : List qV → qA → Option qR := qa_fn P_X12_reader 3
def pc_X12_reader : Nat → Nat := fun j => [0, 13, 27, 28, 42, 43, 104, 106, 118, 119, 120, 138, 144, 152, 160].getD j 0
noncomputable def B_X12_debt_0 : qI := q_load 1 0 (q_load 1 0 (q_load 0 1 (q_callv 14 f_X12_isReader 2 (q_ifne 1 (q_const (0, 1) (q_goto 3))))))
noncomputable def B_X12_debt_1 : qI := q_load 0 2 (q_const (0, 0) (q_const (0, 6) (q_call f_X12_in 3 (q_ifeq 2 (q_const (0, 0) (q_goto 3))))))
noncomputable def B_X12_debt_2 : qI := q_const (0, 2) (q_goto 3)
noncomputable def B_X12_debt_3 : qI := q_put 14 0 0 (q_load 1 0 (q_get 14 0 0 (q_ifle 4 (q_const (0, 0) (q_ret 0)))))
noncomputable def B_X12_debt_4 : qI := q_load 1 0 (q_load 0 1 (q_const (0, 9) (q_callv 14 f_X12_ofReader 3 (q_ifne 8 (q_load 0 2 (q_const (0, 3) (q_cmpge 5 (q_const (0, 0) (q_goto 7)))))))))
noncomputable def B_X12_debt_5 : qI := q_load 0 2 (q_const (0, 5) (q_cmpge 6 (q_const (0, -1000) (q_goto 7))))
noncomputable def B_X12_debt_6 : qI := q_const (0, -1) (q_goto 7)
noncomputable def B_X12_debt_7 : qI := q_ret 0
noncomputable def B_X12_debt_8 : qI := q_load 1 0 (q_load 0 1 (q_const (0, 9) (q_load 0 2 (q_iadd (q_callv 14 f_X12_ofReader 3 (q_ret 0))))))
noncomputable def P_X12_debt : qP := [B_X12_debt_0, B_X12_debt_1, B_X12_debt_2, B_X12_debt_3, B_X12_debt_4, B_X12_debt_5, B_X12_debt_6, B_X12_debt_7, B_X12_debt_8]
noncomputable def f_X12_debt : List qV → qA → Option qR := qa_fn P_X12_debt 3
def pc_X12_debt : Nat → Nat := fun j => [0, 13, 27, 28, 40, 59, 70, 71, 72].getD j 0
noncomputable def B_X12_debtOf_0 : qI := q_load 1 0 (q_load 1 0 (q_load 0 1 (q_callv 14 f_X12_isReader 2 (q_ifne 1 (q_const (0, 1) (q_goto 3))))))
noncomputable def B_X12_debtOf_1 : qI := q_load 0 2 (q_const (0, 0) (q_const (0, 9) (q_call f_X12_in 3 (q_ifeq 2 (q_const (0, 0) (q_goto 3))))))
noncomputable def B_X12_debtOf_2 : qI := q_const (0, 2) (q_goto 3)
noncomputable def B_X12_debtOf_3 : qI := q_put 14 0 0 (q_load 1 0 (q_get 14 0 0 (q_ifle 4 (q_const (0, 0) (q_goto 6)))))
noncomputable def B_X12_debtOf_4 : qI := q_load 1 0 (q_load 0 1 (q_const (0, 9) (q_callv 14 f_X12_ofReader 3 (q_ifne 5 (q_const (0, -1000) (q_goto 6))))))
noncomputable def B_X12_debtOf_5 : qI := q_load 1 0 (q_load 0 1 (q_const (0, 16) (q_load 0 2 (q_iadd (q_callv 14 f_X12_ofReader 3 (q_goto 6))))))
noncomputable def B_X12_debtOf_6 : qI := q_ret 0
noncomputable def P_X12_debtOf : qP := [B_X12_debtOf_0, B_X12_debtOf_1, B_X12_debtOf_2, B_X12_debtOf_3, B_X12_debtOf_4, B_X12_debtOf_5, B_X12_debtOf_6]
noncomputable def f_X12_debtOf : List qV → qA → Option qR := qa_fn P_X12_debtOf 3
def pc_X12_debtOf : Nat → Nat := fun j => [0, 13, 27, 28, 42, 58, 67].getD j 0
noncomputable def B_X12_item_0 : qI := q_load 1 0 (q_load 0 1 (q_const (0, 0) (q_load 1 0 (q_get 14 14 0 (q_const (0, 1) (q_isub (q_call f_X12_in 3 (q_ifne 1 (q_const (0, 1) (q_goto 3))))))))))
noncomputable def B_X12_item_1 : qI := q_load 0 2 (q_const (0, 0) (q_const (0, 7) (q_call f_X12_in 3 (q_ifeq 2 (q_const (0, 0) (q_goto 3))))))
noncomputable def B_X12_item_2 : qI := q_const (0, 2) (q_goto 3)
noncomputable def B_X12_item_3 : qI := q_put 14 0 0 (q_load 1 0 (q_get 14 0 0 (q_ifle 4 (q_const (0, 0) (q_goto 5)))))
noncomputable def B_X12_item_4 : qI := q_load 1 0 (q_get 14 13 1 (q_const (0, 8) (q_load 0 1 (q_imul (q_load 0 2 (q_iadd (q_ald 101 0 (q_goto 5))))))))
noncomputable def B_X12_item_5 : qI := q_ret 0
noncomputable def P_X12_item : qP := [B_X12_item_0, B_X12_item_1, B_X12_item_2, B_X12_item_3, B_X12_item_4, B_X12_item_5]
noncomputable def f_X12_item : List qV → qA → Option qR := qa_fn P_X12_item 3
def pc_X12_item : Nat → Nat := fun j => [0, 19, 33, 34, 48, 59].getD j 0
noncomputable def B_X12_account_0 : qI := q_load 1 0 (q_load 0 1 (q_const (0, 0) (q_const (0, 10) (q_call f_X12_in 3 (q_ifeq 1 (q_const (0, 0) (q_goto 2)))))))
noncomputable def B_X12_account_1 : qI := q_const (0, 1) (q_goto 2)
noncomputable def B_X12_account_2 : qI := q_put 14 0 0 (q_load 1 0 (q_get 14 0 0 (q_ifle 3 (q_const (0, 0) (q_goto 4)))))
noncomputable def B_X12_account_3 : qI := q_load 1 0 (q_get 14 8 1 (q_load 0 1 (q_ald 101 0 (q_goto 4))))
noncomputable def B_X12_account_4 : qI := q_ret 0
noncomputable def P_X12_account : qP := [B_X12_account_0, B_X12_account_1, B_X12_account_2, B_X12_account_3, B_X12_account_4]
noncomputable def f_X12_account : List qV → qA → Option qR := qa_fn P_X12_account 2
def pc_X12_account : Nat → Nat := fun j => [0, 15, 16, 30, 36].getD j 0
noncomputable def B_X12_keeps_0 : qI := q_load 1 0 (q_get 14 5 0 (q_const (0, 8) (q_cmpne 3 (q_const (0, 0) (q_store 0 1 (q_goto 1))))))
noncomputable def B_X12_keeps_1 : qI := q_load 0 1 (q_const (0, 102354) (q_cmpge 2 (q_load 1 0 (q_get 14 4 1 (q_load 0 1 (q_load 1 0 (q_get 14 4 1 (q_load 0 1 (q_const (0, 14622) (q_iadd (q_ald 101 0 (q_ast 101 0 (q_iinc 1 (1) (q_goto 1))))))))))))))
noncomputable def B_X12_keeps_2 : qI := q_load 1 0 (q_dup (q_get 14 5 0 (q_const (0, 1) (q_isub (q_put 14 5 0 (q_goto 3))))))
noncomputable def B_X12_keeps_3 : qI := q_load 1 0 (q_get 14 2 1 (q_const (0, 0) (q_load 1 0 (q_get 14 4 1 (q_const (0, 14622) (q_load 1 0 (q_get 14 5 0 (q_imul (q_call f_X12_copies 4 (q_load 1 0 (q_dup (q_get 14 5 0 (q_const (0, 1) (q_iadd (q_put 14 5 0 (q_load 1 0 (q_get 14 8 1 (q_const (0, 0) (q_dup2 (q_ald 101 0 (q_const (0, 1) (q_iadd (q_ast 101 0 (q_vret))))))))))))))))))))))))
noncomputable def P_X12_keeps : qP := [B_X12_keeps_0, B_X12_keeps_1, B_X12_keeps_2, B_X12_keeps_3]
noncomputable def f_X12_keeps : List qV → qA → Option qR := qa_fn P_X12_keeps 2
def pc_X12_keeps : Nat → Nat := fun j => [0, 11, 39, 49].getD j 0
noncomputable def B_X12_refuses_0 : qI := q_load 1 0 (q_get 14 8 1 (q_load 0 1 (q_dup2 (q_ald 101 0 (q_const (0, 1) (q_iadd (q_ast 101 0 (q_const (0, -10) (q_load 0 1 (q_isub (q_ret 0)))))))))))
noncomputable def P_X12_refuses : qP := [B_X12_refuses_0]
noncomputable def f_X12_refuses : List qV → qA → Option qR := qa_fn P_X12_refuses 2
def pc_X12_refuses : Nat → Nat := fun j => [0].getD j 0
noncomputable def B_X12_appends_0 : qI := q_load 1 0 (q_callv 14 f_X12_keeps 1 (q_load 1 0 (q_load 0 1 (q_callv 14 f_X12_endOf 2 (q_store 0 5 (q_load 1 0 (q_load 0 1 (q_load 1 0 (q_get 14 2 1 (q_const (0, 0) (q_ald 101 0 (q_load 0 2 (q_load 0 3 (q_load 0 4 (q_call f_X12_packed 3 (q_callv 14 f_X12_adds 4 (q_load 1 0 (q_get 14 2 1 (q_const (0, 1) (q_dup2 (q_ald 101 0 (q_const (0, 1) (q_iadd (q_ast 101 0 (q_load 1 0 (q_load 0 1 (q_callv 14 f_X12_cuts 2 (q_load 0 5 (q_ret 0)))))))))))))))))))))))))))))
noncomputable def P_X12_appends : qP := [B_X12_appends_0]
noncomputable def f_X12_appends : List qV → qA → Option qR := qa_fn P_X12_appends 6
def pc_X12_appends : Nat → Nat := fun j => [0].getD j 0
noncomputable def B_X12_isEntry_0 : qI := q_load 0 0 (q_const (0, 0) (q_const (0, 9) (q_call f_X12_in 3 (q_ifeq 1 (q_load 0 1 (q_const (0, 1) (q_const (0, 9) (q_call f_X12_in 3 (q_ifeq 1 (q_load 0 2 (q_const (0, -99) (q_const (0, 99) (q_call f_X12_in 3 (q_ifeq 1 (q_const (0, 1) (q_goto 2))))))))))))))))
noncomputable def B_X12_isEntry_1 : qI := q_const (0, 0) (q_goto 2)
noncomputable def B_X12_isEntry_2 : qI := q_retz
noncomputable def P_X12_isEntry : qP := [B_X12_isEntry_0, B_X12_isEntry_1, B_X12_isEntry_2]
noncomputable def f_X12_isEntry : List qV → qA → Option qR := qa_fn P_X12_isEntry 3
def pc_X12_isEntry : Nat → Nat := fun j => [0, 35, 36].getD j 0
noncomputable def B_X12_append_0 : qI := q_load 1 0 (q_load 1 0 (q_load 0 1 (q_callv 14 f_X12_isBranch 2 (q_ifne 1 (q_const (0, 1) (q_goto 3))))))
noncomputable def B_X12_append_1 : qI := q_load 0 2 (q_load 0 3 (q_load 0 4 (q_call f_X12_isEntry 3 (q_ifeq 2 (q_const (0, 0) (q_goto 3))))))
noncomputable def B_X12_append_2 : qI := q_const (0, 2) (q_goto 3)
noncomputable def B_X12_append_3 : qI := q_put 14 0 0 (q_load 1 0 (q_get 14 0 0 (q_ifle 4 (q_const (0, 0) (q_goto 5)))))
noncomputable def B_X12_append_4 : qI := q_load 1 0 (q_load 0 1 (q_load 0 2 (q_load 0 3 (q_load 0 4 (q_callv 14 f_X12_appends 5 (q_goto 5))))))
noncomputable def B_X12_append_5 : qI := q_ret 0
noncomputable def P_X12_append : qP := [B_X12_append_0, B_X12_append_1, B_X12_append_2, B_X12_append_3, B_X12_append_4, B_X12_append_5]
noncomputable def f_X12_append : List qV → qA → Option qR := qa_fn P_X12_append 5
def pc_X12_append : Nat → Nat := fun j => [0, 13, 27, 28, 42, 51].getD j 0
noncomputable def B_X12_joins_0 : qI := q_load 1 0 (q_callv 14 f_X12_readerMany 1 (q_const (0, 6) (q_cmpne 1 (q_load 1 0 (q_const (0, 1) (q_callv 14 f_X12_refuses 2 (q_ret 0)))))))
noncomputable def B_X12_joins_1 : qI := q_load 1 0 (q_callv 14 f_X12_keeps 1 (q_const (0, 0) (q_store 0 3 (q_goto 2))))
noncomputable def B_X12_joins_2 : qI := q_load 1 0 (q_load 0 3 (q_callv 14 f_X12_isReader 2 (q_ifeq 3 (q_iinc 3 (1) (q_goto 2)))))
noncomputable def B_X12_joins_3 : qI := q_load 0 3 (q_call f_X12_readerAt 1 (q_store 0 4 (q_const (0, 0) (q_store 0 5 (q_goto 4)))))
noncomputable def B_X12_joins_4 : qI := q_load 0 5 (q_const (0, 26) (q_cmpge 5 (q_load 1 0 (q_get 14 2 1 (q_load 0 4 (q_load 0 5 (q_iadd (q_const (0, 0) (q_ast 101 0 (q_iinc 5 (1) (q_goto 4)))))))))))
noncomputable def B_X12_joins_5 : qI := q_load 1 0 (q_get 14 2 1 (q_load 0 4 (q_const (0, 0) (q_iadd (q_const (0, 1) (q_ast 101 0 (q_load 1 0 (q_get 14 2 1 (q_load 0 4 (q_const (0, 1) (q_iadd (q_load 0 1 (q_ast 101 0 (q_load 1 0 (q_get 14 2 1 (q_load 0 4 (q_const (0, 2) (q_iadd (q_load 0 2 (q_ifeq 6 (q_load 1 0 (q_load 0 1 (q_callv 14 f_X12_endOf 2 (q_goto 7))))))))))))))))))))))))
noncomputable def B_X12_joins_6 : qI := q_load 1 0 (q_load 0 1 (q_const (0, 1) (q_callv 14 f_X12_ofBranch 3 (q_goto 7))))
noncomputable def B_X12_joins_7 : qI := q_ast 101 0 (q_load 1 0 (q_get 14 2 1 (q_load 0 4 (q_const (0, 3) (q_iadd (q_load 1 0 (q_get 14 2 1 (q_const (0, 0) (q_ald 101 0 (q_ast 101 0 (q_load 1 0 (q_get 14 2 1 (q_load 0 4 (q_const (0, 4) (q_iadd (q_const (0, -1) (q_ast 101 0 (q_load 0 3 (q_ret 0)))))))))))))))))))
noncomputable def P_X12_joins : qP := [B_X12_joins_0, B_X12_joins_1, B_X12_joins_2, B_X12_joins_3, B_X12_joins_4, B_X12_joins_5, B_X12_joins_6, B_X12_joins_7]
noncomputable def f_X12_joins : List qV → qA → Option qR := qa_fn P_X12_joins 6
def pc_X12_joins : Nat → Nat := fun j => [0, 15, 21, 35, 44, 68, 108, 114].getD j 0
noncomputable def B_X12_join_0 : qI := q_load 1 0 (q_load 1 0 (q_load 0 1 (q_callv 14 f_X12_isBranch 2 (q_ifeq 1 (q_const (0, 0) (q_goto 2))))))
noncomputable def B_X12_join_1 : qI := q_const (0, 1) (q_goto 2)
noncomputable def B_X12_join_2 : qI := q_put 14 0 0 (q_load 1 0 (q_get 14 0 0 (q_ifle 3 (q_const (0, 0) (q_goto 4)))))
noncomputable def B_X12_join_3 : qI := q_load 1 0 (q_load 0 1 (q_load 0 2 (q_callv 14 f_X12_joins 3 (q_goto 4))))
noncomputable def B_X12_join_4 : qI := q_ret 0
noncomputable def P_X12_join : qP := [B_X12_join_0, B_X12_join_1, B_X12_join_2, B_X12_join_3, B_X12_join_4]
noncomputable def f_X12_join : List qV → qA → Option qR := qa_fn P_X12_join 3
def pc_X12_join : Nat → Nat := fun j => [0, 13, 14, 28, 34].getD j 0
noncomputable def B_X12_leaves_0 : qI := q_load 1 0 (q_callv 14 f_X12_keeps 1 (q_load 1 0 (q_get 14 2 1 (q_load 0 1 (q_call f_X12_readerAt 1 (q_const (0, 0) (q_iadd (q_const (0, 0) (q_ast 101 0 (q_load 1 0 (q_callv 14 f_X12_readerMany 1 (q_ret 0))))))))))))
noncomputable def P_X12_leaves : qP := [B_X12_leaves_0]
noncomputable def f_X12_leaves : List qV → qA → Option qR := qa_fn P_X12_leaves 2
def pc_X12_leaves : Nat → Nat := fun j => [0].getD j 0
noncomputable def B_X12_leave_0 : qI := q_load 1 0 (q_load 1 0 (q_load 0 1 (q_callv 14 f_X12_isReader 2 (q_ifeq 1 (q_const (0, 0) (q_goto 2))))))
noncomputable def B_X12_leave_1 : qI := q_const (0, 1) (q_goto 2)
noncomputable def B_X12_leave_2 : qI := q_put 14 0 0 (q_load 1 0 (q_get 14 0 0 (q_ifle 3 (q_const (0, 0) (q_goto 4)))))
noncomputable def B_X12_leave_3 : qI := q_load 1 0 (q_load 0 1 (q_callv 14 f_X12_leaves 2 (q_goto 4)))
noncomputable def B_X12_leave_4 : qI := q_ret 0
noncomputable def P_X12_leave : qP := [B_X12_leave_0, B_X12_leave_1, B_X12_leave_2, B_X12_leave_3, B_X12_leave_4]
noncomputable def f_X12_leave : List qV → qA → Option qR := qa_fn P_X12_leave 2
def pc_X12_leave : Nat → Nat := fun j => [0, 13, 14, 28, 33].getD j 0
noncomputable def B_X12_deliversDebt_0 : qI := q_const (0, 8) (q_load 1 0 (q_get 14 14 0 (q_imul (q_store 0 2 (q_load 1 0 (q_get 14 13 1 (q_load 0 2 (q_const (0, 1) (q_ast 101 0 (q_const (0, 0) (q_store 0 3 (q_goto 1))))))))))))
noncomputable def B_X12_deliversDebt_1 : qI := q_load 0 3 (q_const (0, 7) (q_cmpge 2 (q_load 1 0 (q_get 14 13 1 (q_load 0 2 (q_const (0, 1) (q_iadd (q_load 0 3 (q_iadd (q_load 1 0 (q_load 0 1 (q_const (0, 9) (q_load 0 3 (q_iadd (q_callv 14 f_X12_ofReader 3 (q_ast 101 0 (q_iinc 3 (1) (q_goto 1))))))))))))))))))
noncomputable def B_X12_deliversDebt_2 : qI := q_load 1 0 (q_dup (q_get 14 14 0 (q_const (0, 1) (q_iadd (q_put 14 14 0 (q_vret))))))
noncomputable def P_X12_deliversDebt : qP := [B_X12_deliversDebt_0, B_X12_deliversDebt_1, B_X12_deliversDebt_2]
noncomputable def f_X12_deliversDebt : List qV → qA → Option qR := qa_fn P_X12_deliversDebt 4
def pc_X12_deliversDebt : Nat → Nat := fun j => [0, 17, 48].getD j 0
noncomputable def B_X12_deliversEntry_0 : qI := q_load 1 0 (q_load 0 1 (q_const (0, 1) (q_callv 14 f_X12_ofReader 3 (q_store 0 2 (q_load 1 0 (q_load 0 1 (q_const (0, 2) (q_callv 14 f_X12_ofReader 3 (q_store 0 3 (q_load 0 3 (q_load 1 0 (q_load 0 2 (q_const (0, 1) (q_callv 14 f_X12_ofBranch 3 (q_isub (q_store 0 4 (q_const (0, 8) (q_load 1 0 (q_get 14 14 0 (q_imul (q_store 0 5 (q_load 1 0 (q_get 14 13 1 (q_load 0 5 (q_const (0, 0) (q_ast 101 0 (q_load 1 0 (q_get 14 13 1 (q_load 0 5 (q_goto 1))))))))))))))))))))))))))))))
noncomputable def B_X12_deliversEntry_1 : qI := q_const (0, 1) (q_iadd (q_load 0 3 (q_ast 101 0 (q_load 1 0 (q_get 14 13 1 (q_load 0 5 (q_const (0, 2) (q_iadd (q_load 1 0 (q_load 0 2 (q_load 0 4 (q_callv 14 f_X12_keyOf 3 (q_ast 101 0 (q_load 1 0 (q_get 14 13 1 (q_load 0 5 (q_const (0, 3) (q_iadd (q_load 1 0 (q_load 0 2 (q_load 0 4 (q_callv 14 f_X12_sizeOf 3 (q_ast 101 0 (q_load 1 0 (q_get 14 13 1 (q_load 0 5 (q_const (0, 4) (q_iadd (q_load 1 0 (q_goto 2))))))))))))))))))))))))))))))
noncomputable def B_X12_deliversEntry_2 : qI := q_load 0 2 (q_load 0 4 (q_callv 14 f_X12_valueOf 3 (q_ast 101 0 (q_const (0, 5) (q_store 0 6 (q_goto 3))))))
noncomputable def B_X12_deliversEntry_3 : qI := q_load 0 6 (q_const (0, 8) (q_cmpge 4 (q_load 1 0 (q_get 14 13 1 (q_load 0 5 (q_load 0 6 (q_iadd (q_const (0, -1) (q_ast 101 0 (q_iinc 6 (1) (q_goto 3)))))))))))
noncomputable def B_X12_deliversEntry_4 : qI := q_load 1 0 (q_dup (q_get 14 14 0 (q_const (0, 1) (q_iadd (q_put 14 14 0 (q_vret))))))
noncomputable def P_X12_deliversEntry : qP := [B_X12_deliversEntry_0, B_X12_deliversEntry_1, B_X12_deliversEntry_2, B_X12_deliversEntry_3, B_X12_deliversEntry_4]
noncomputable def f_X12_deliversEntry : List qV → qA → Option qR := qa_fn P_X12_deliversEntry 7
def pc_X12_deliversEntry : Nat → Nat := fun j => [0, 47, 92, 102, 126].getD j 0
noncomputable def B_X12_reads_0 : qI := q_load 0 1 (q_call f_X12_readerAt 1 (q_store 0 3 (q_load 1 0 (q_get 14 2 1 (q_load 0 3 (q_const (0, 9) (q_iadd (q_ald 101 0 (q_ifle 1 (q_const (0, 1) (q_goto 2)))))))))))
noncomputable def B_X12_reads_1 : qI := q_const (0, 0) (q_goto 2)
noncomputable def B_X12_reads_2 : qI := q_store 0 4 (q_load 0 4 (q_ifne 3 (q_load 1 0 (q_get 14 2 1 (q_load 0 3 (q_const (0, 2) (q_iadd (q_ald 101 0 (q_load 1 0 (q_load 1 0 (q_get 14 2 1 (q_load 0 3 (q_const (0, 1) (q_iadd (q_ald 101 0 (q_callv 14 f_X12_endOf 2 (q_cmpne 3 (q_load 1 0 (q_const (0, 10) (q_callv 14 f_X12_refuses 2 (q_ret 0)))))))))))))))))))))
noncomputable def B_X12_reads_3 : qI := q_load 1 0 (q_callv 14 f_X12_keeps 1 (q_load 1 0 (q_const (0, 0) (q_put 14 14 0 (q_load 0 4 (q_ifeq 4 (q_load 1 0 (q_load 0 1 (q_callv 14 f_X12_deliversDebt 2 (q_load 1 0 (q_load 0 1 (q_callv 14 f_X12_clearsDebt 2 (q_load 1 0 (q_get 14 2 1 (q_load 0 3 (q_const (0, 8) (q_iadd (q_dup2 (q_ald 101 0 (q_const (0, 1) (q_iadd (q_ast 101 0 (q_goto 4)))))))))))))))))))))))
noncomputable def B_X12_reads_4 : qI := q_load 1 0 (q_get 14 14 0 (q_load 0 2 (q_cmpge 6 (q_load 1 0 (q_get 14 2 1 (q_load 0 3 (q_const (0, 2) (q_iadd (q_ald 101 0 (q_load 1 0 (q_load 1 0 (q_get 14 2 1 (q_load 0 3 (q_const (0, 1) (q_iadd (q_ald 101 0 (q_callv 14 f_X12_endOf 2 (q_cmpge 6 (q_load 1 0 (q_load 0 1 (q_callv 14 f_X12_deliversEntry 2 (q_load 1 0 (q_get 14 2 1 (q_load 0 3 (q_const (0, 2) (q_iadd (q_dup2 (q_ald 101 0 (q_const (0, 1) (q_goto 5))))))))))))))))))))))))))))))
noncomputable def B_X12_reads_5 : qI := q_iadd (q_ast 101 0 (q_load 1 0 (q_get 14 2 1 (q_load 0 3 (q_const (0, 7) (q_iadd (q_dup2 (q_ald 101 0 (q_const (0, 1) (q_iadd (q_ast 101 0 (q_goto 4))))))))))))
noncomputable def B_X12_reads_6 : qI := q_load 1 0 (q_get 14 2 1 (q_load 0 3 (q_const (0, 3) (q_iadd (q_load 1 0 (q_get 14 2 1 (q_const (0, 0) (q_ald 101 0 (q_ast 101 0 (q_load 1 0 (q_get 14 2 1 (q_load 0 3 (q_const (0, 5) (q_iadd (q_dup2 (q_ald 101 0 (q_load 1 0 (q_get 14 2 1 (q_load 0 3 (q_const (0, 4) (q_iadd (q_ald 101 0 (q_const (0, -1) (q_cmpne 7 (q_const (0, 0) (q_goto 8))))))))))))))))))))))))))
noncomputable def B_X12_reads_7 : qI := q_const (0, 1) (q_goto 8)
noncomputable def B_X12_reads_8 : qI := q_iadd (q_ast 101 0 (q_load 1 0 (q_get 14 2 1 (q_load 0 3 (q_const (0, 4) (q_iadd (q_const (0, -1) (q_ast 101 0 (q_load 1 0 (q_get 14 14 0 (q_ret 0)))))))))))
noncomputable def P_X12_reads : qP := [B_X12_reads_0, B_X12_reads_1, B_X12_reads_2, B_X12_reads_3, B_X12_reads_4, B_X12_reads_5, B_X12_reads_6, B_X12_reads_7, B_X12_reads_8]
noncomputable def f_X12_reads : List qV → qA → Option qR := qa_fn P_X12_reads 5
def pc_X12_reads : Nat → Nat := fun j => [0, 21, 22, 59, 96, 142, 160, 199, 200].getD j 0
noncomputable def B_X12_read_0 : qI := q_load 1 0 (q_load 1 0 (q_load 0 1 (q_callv 14 f_X12_isReader 2 (q_ifne 1 (q_const (0, 1) (q_goto 3))))))
noncomputable def B_X12_read_1 : qI := q_load 0 2 (q_const (0, 1) (q_const (0, 99) (q_call f_X12_in 3 (q_ifeq 2 (q_const (0, 0) (q_goto 3))))))
noncomputable def B_X12_read_2 : qI := q_const (0, 2) (q_goto 3)
noncomputable def B_X12_read_3 : qI := q_put 14 0 0 (q_load 1 0 (q_get 14 0 0 (q_ifle 4 (q_const (0, 0) (q_goto 5)))))
noncomputable def B_X12_read_4 : qI := q_load 1 0 (q_load 0 1 (q_load 0 2 (q_callv 14 f_X12_reads 3 (q_goto 5))))
noncomputable def B_X12_read_5 : qI := q_ret 0
noncomputable def P_X12_read : qP := [B_X12_read_0, B_X12_read_1, B_X12_read_2, B_X12_read_3, B_X12_read_4, B_X12_read_5]
noncomputable def f_X12_read : List qV → qA → Option qR := qa_fn P_X12_read 3
def pc_X12_read : Nat → Nat := fun j => [0, 13, 27, 28, 42, 48].getD j 0
noncomputable def B_X12_promises_0 : qI := q_load 1 0 (q_load 0 1 (q_const (0, 6) (q_callv 14 f_X12_ofReader 3 (q_load 1 0 (q_get 14 1 1 (q_const (0, 4) (q_ald 101 0 (q_cmplt 1 (q_const (0, 3) (q_goto 3))))))))))
noncomputable def B_X12_promises_1 : qI := q_load 1 0 (q_load 0 1 (q_const (0, 4) (q_callv 14 f_X12_ofReader 3 (q_const (0, -1) (q_cmpeq 2 (q_const (0, 4) (q_goto 3)))))))
noncomputable def B_X12_promises_2 : qI := q_const (0, 0) (q_goto 3)
noncomputable def B_X12_promises_3 : qI := q_store 0 3 (q_load 0 3 (q_ifle 4 (q_load 1 0 (q_load 0 3 (q_callv 14 f_X12_refuses 2 (q_ret 0))))))
noncomputable def B_X12_promises_4 : qI := q_load 1 0 (q_callv 14 f_X12_keeps 1 (q_load 1 0 (q_get 14 2 1 (q_load 0 1 (q_call f_X12_readerAt 1 (q_const (0, 4) (q_iadd (q_load 1 0 (q_get 14 2 1 (q_const (0, 0) (q_ald 101 0 (q_load 0 2 (q_iadd (q_ast 101 0 (q_load 1 0 (q_get 14 2 1 (q_const (0, 0) (q_ald 101 0 (q_load 0 2 (q_iadd (q_ret 0)))))))))))))))))))))
noncomputable def P_X12_promises : qP := [B_X12_promises_0, B_X12_promises_1, B_X12_promises_2, B_X12_promises_3, B_X12_promises_4]
noncomputable def f_X12_promises : List qV → qA → Option qR := qa_fn P_X12_promises 4
def pc_X12_promises : Nat → Nat := fun j => [0, 20, 34, 35, 46].getD j 0
noncomputable def B_X12_promise_0 : qI := q_load 1 0 (q_load 1 0 (q_load 0 1 (q_callv 14 f_X12_isReader 2 (q_ifne 1 (q_const (0, 1) (q_goto 3))))))
noncomputable def B_X12_promise_1 : qI := q_load 0 2 (q_const (0, 1) (q_load 1 0 (q_get 14 1 1 (q_const (0, 5) (q_ald 101 0 (q_call f_X12_in 3 (q_ifeq 2 (q_const (0, 0) (q_goto 3)))))))))
noncomputable def B_X12_promise_2 : qI := q_const (0, 2) (q_goto 3)
noncomputable def B_X12_promise_3 : qI := q_put 14 0 0 (q_load 1 0 (q_get 14 0 0 (q_ifle 4 (q_const (0, 0) (q_goto 5)))))
noncomputable def B_X12_promise_4 : qI := q_load 1 0 (q_load 0 1 (q_load 0 2 (q_callv 14 f_X12_promises 3 (q_goto 5))))
noncomputable def B_X12_promise_5 : qI := q_ret 0
noncomputable def P_X12_promise : qP := [B_X12_promise_0, B_X12_promise_1, B_X12_promise_2, B_X12_promise_3, B_X12_promise_4, B_X12_promise_5]
noncomputable def f_X12_promise : List qV → qA → Option qR := qa_fn P_X12_promise 3
def pc_X12_promise : Nat → Nat := fun j => [0, 13, 31, 32, 46, 52].getD j 0
noncomputable def B_X12_isAbove_0 : qI := q_load 0 2 (q_store 0 3 (q_goto 1))
noncomputable def B_X12_isAbove_1 : qI := q_load 0 3 (q_const (0, -1) (q_cmpeq 2 (q_load 0 3 (q_load 0 1 (q_cmpeq 2 (q_load 1 0 (q_load 0 3 (q_const (0, 4) (q_callv 14 f_X12_ofBranch 3 (q_store 0 3 (q_goto 1)))))))))))
noncomputable def B_X12_isAbove_2 : qI := q_load 0 3 (q_load 0 1 (q_cmpne 3 (q_const (0, 1) (q_goto 4))))
noncomputable def B_X12_isAbove_3 : qI := q_const (0, 0) (q_goto 4)
noncomputable def B_X12_isAbove_4 : qI := q_retz
noncomputable def P_X12_isAbove : qP := [B_X12_isAbove_0, B_X12_isAbove_1, B_X12_isAbove_2, B_X12_isAbove_3, B_X12_isAbove_4]
noncomputable def f_X12_isAbove : List qV → qA → Option qR := qa_fn P_X12_isAbove 4
def pc_X12_isAbove : Nat → Nat := fun j => [0, 2, 22, 31, 32].getD j 0
noncomputable def B_X12_commonOf_0 : qI := q_load 0 1 (q_load 0 2 (q_cmpne 1 (q_load 1 0 (q_load 0 1 (q_callv 14 f_X12_endOf 2 (q_ret 0))))))
noncomputable def B_X12_commonOf_1 : qI := q_load 0 1 (q_store 0 3 (q_load 1 0 (q_load 0 1 (q_callv 14 f_X12_endOf 2 (q_store 0 4 (q_const (0, 1) (q_store 0 5 (q_goto 2))))))))
noncomputable def B_X12_commonOf_2 : qI := q_load 1 0 (q_load 0 3 (q_load 0 2 (q_callv 14 f_X12_isAbove 3 (q_ifne 6 (q_load 0 5 (q_ifne 3 (q_load 1 0 (q_load 0 3 (q_const (0, 5) (q_callv 14 f_X12_ofBranch 3 (q_load 0 4 (q_cmpge 4 (q_goto 3)))))))))))))
noncomputable def B_X12_commonOf_3 : qI := q_load 1 0 (q_load 0 3 (q_const (0, 5) (q_callv 14 f_X12_ofBranch 3 (q_goto 5))))
noncomputable def B_X12_commonOf_4 : qI := q_load 0 4 (q_goto 5)
noncomputable def B_X12_commonOf_5 : qI := q_store 0 4 (q_const (0, 0) (q_store 0 5 (q_load 1 0 (q_load 0 3 (q_const (0, 4) (q_callv 14 f_X12_ofBranch 3 (q_store 0 3 (q_goto 2))))))))
noncomputable def B_X12_commonOf_6 : qI := q_load 0 2 (q_store 0 6 (q_goto 7))
noncomputable def B_X12_commonOf_7 : qI := q_load 0 6 (q_load 0 3 (q_cmpeq 11 (q_load 0 5 (q_ifne 8 (q_load 1 0 (q_load 0 6 (q_const (0, 5) (q_callv 14 f_X12_ofBranch 3 (q_load 0 4 (q_cmpge 9 (q_goto 8)))))))))))
noncomputable def B_X12_commonOf_8 : qI := q_load 1 0 (q_load 0 6 (q_const (0, 5) (q_callv 14 f_X12_ofBranch 3 (q_goto 10))))
noncomputable def B_X12_commonOf_9 : qI := q_load 0 4 (q_goto 10)
noncomputable def B_X12_commonOf_10 : qI := q_store 0 4 (q_const (0, 0) (q_store 0 5 (q_load 1 0 (q_load 0 6 (q_const (0, 4) (q_callv 14 f_X12_ofBranch 3 (q_store 0 6 (q_goto 7))))))))
noncomputable def B_X12_commonOf_11 : qI := q_load 0 4 (q_ret 0)
noncomputable def P_X12_commonOf : qP := [B_X12_commonOf_0, B_X12_commonOf_1, B_X12_commonOf_2, B_X12_commonOf_3, B_X12_commonOf_4, B_X12_commonOf_5, B_X12_commonOf_6, B_X12_commonOf_7, B_X12_commonOf_8, B_X12_commonOf_9, B_X12_commonOf_10, B_X12_commonOf_11]
noncomputable def f_X12_commonOf : List qV → qA → Option qR := qa_fn P_X12_commonOf 7
def pc_X12_commonOf : Nat → Nat := fun j => [0, 11, 23, 48, 57, 59, 74, 77, 100, 110, 112, 129].getD j 0
noncomputable def B_X12_moves_0 : qI := q_load 1 0 (q_load 0 1 (q_const (0, 2) (q_callv 14 f_X12_ofReader 3 (q_store 0 3 (q_load 1 0 (q_load 0 1 (q_const (0, 1) (q_callv 14 f_X12_ofReader 3 (q_load 0 2 (q_cmpeq 1 (q_load 0 3 (q_load 1 0 (q_load 1 0 (q_load 0 1 (q_const (0, 1) (q_callv 14 f_X12_ofReader 3 (q_load 0 2 (q_callv 14 f_X12_commonOf 3 (q_cmpgt 1 (q_load 0 3 (q_load 1 0 (q_load 0 2 (q_const (0, 1) (q_callv 14 f_X12_ofBranch 3 (q_cmpge 2 (q_goto 1))))))))))))))))))))))))))
noncomputable def B_X12_moves_1 : qI := q_load 1 0 (q_const (0, 5) (q_callv 14 f_X12_refuses 2 (q_ret 0)))
noncomputable def B_X12_moves_2 : qI := q_load 1 0 (q_callv 14 f_X12_keeps 1 (q_load 1 0 (q_get 14 2 1 (q_load 0 1 (q_call f_X12_readerAt 1 (q_const (0, 1) (q_iadd (q_load 0 2 (q_ast 101 0 (q_load 1 0 (q_get 14 2 1 (q_load 0 1 (q_call f_X12_readerAt 1 (q_const (0, 3) (q_iadd (q_load 1 0 (q_get 14 2 1 (q_const (0, 0) (q_ald 101 0 (q_ast 101 0 (q_load 0 3 (q_ret 0))))))))))))))))))))))
noncomputable def P_X12_moves : qP := [B_X12_moves_0, B_X12_moves_1, B_X12_moves_2]
noncomputable def f_X12_moves : List qV → qA → Option qR := qa_fn P_X12_moves 4
def pc_X12_moves : Nat → Nat := fun j => [0, 42, 48].getD j 0
noncomputable def B_X12_move_0 : qI := q_load 1 0 (q_load 1 0 (q_load 0 1 (q_callv 14 f_X12_isReader 2 (q_ifeq 1 (q_load 1 0 (q_load 0 2 (q_callv 14 f_X12_isBranch 2 (q_ifeq 1 (q_const (0, 0) (q_goto 2))))))))))
noncomputable def B_X12_move_1 : qI := q_const (0, 1) (q_goto 2)
noncomputable def B_X12_move_2 : qI := q_put 14 0 0 (q_load 1 0 (q_get 14 0 0 (q_ifle 3 (q_const (0, 0) (q_goto 4)))))
noncomputable def B_X12_move_3 : qI := q_load 1 0 (q_load 0 1 (q_load 0 2 (q_callv 14 f_X12_moves 3 (q_goto 4))))
noncomputable def B_X12_move_4 : qI := q_ret 0
noncomputable def P_X12_move : qP := [B_X12_move_0, B_X12_move_1, B_X12_move_2, B_X12_move_3, B_X12_move_4]
noncomputable def f_X12_move : List qV → qA → Option qR := qa_fn P_X12_move 3
def pc_X12_move : Nat → Nat := fun j => [0, 21, 22, 36, 42].getD j 0
noncomputable def B_X12_forks_0 : qI := q_load 1 0 (q_callv 14 f_X12_branchMany 1 (q_const (0, 4) (q_cmpne 1 (q_load 1 0 (q_const (0, 2) (q_callv 14 f_X12_refuses 2 (q_ret 0)))))))
noncomputable def B_X12_forks_1 : qI := q_load 1 0 (q_callv 14 f_X12_keeps 1 (q_const (0, 0) (q_store 0 2 (q_goto 2))))
noncomputable def B_X12_forks_2 : qI := q_load 1 0 (q_load 0 2 (q_callv 14 f_X12_isBranch 2 (q_ifeq 3 (q_iinc 2 (1) (q_goto 2)))))
noncomputable def B_X12_forks_3 : qI := q_const (0, 0) (q_store 0 3 (q_goto 4))
noncomputable def B_X12_forks_4 : qI := q_load 0 3 (q_const (0, 7) (q_cmpge 5 (q_load 1 0 (q_get 14 2 1 (q_load 0 2 (q_call f_X12_branchAt 1 (q_load 0 3 (q_iadd (q_load 1 0 (q_load 0 1 (q_load 0 3 (q_callv 14 f_X12_ofBranch 3 (q_ast 101 0 (q_iinc 3 (1) (q_goto 4)))))))))))))))
noncomputable def B_X12_forks_5 : qI := q_load 1 0 (q_get 14 2 1 (q_load 0 2 (q_call f_X12_branchAt 1 (q_const (0, 4) (q_iadd (q_load 0 1 (q_ast 101 0 (q_load 1 0 (q_get 14 2 1 (q_load 0 2 (q_call f_X12_branchAt 1 (q_const (0, 5) (q_iadd (q_load 1 0 (q_load 0 1 (q_callv 14 f_X12_endOf 2 (q_ast 101 0 (q_load 1 0 (q_get 14 2 1 (q_load 0 2 (q_call f_X12_branchAt 1 (q_const (0, 6) (q_iadd (q_const (0, 0) (q_ast 101 0 (q_const (0, 0) (q_store 0 3 (q_goto 6))))))))))))))))))))))))))))
noncomputable def B_X12_forks_6 : qI := q_load 0 3 (q_load 1 0 (q_load 0 1 (q_const (0, 2) (q_callv 14 f_X12_ofBranch 3 (q_cmpge 8 (q_load 1 0 (q_get 14 2 1 (q_const (0, 190) (q_load 0 2 (q_load 0 3 (q_call f_X12_entryAt 2 (q_iadd (q_load 1 0 (q_get 14 2 1 (q_const (0, 190) (q_load 0 1 (q_load 0 3 (q_call f_X12_entryAt 2 (q_iadd (q_ald 101 0 (q_ast 101 0 (q_load 1 0 (q_get 14 2 1 (q_const (0, 7406) (q_load 0 2 (q_load 0 3 (q_call f_X12_entryAt 2 (q_iadd (q_load 1 0 (q_goto 7))))))))))))))))))))))))))))))
noncomputable def B_X12_forks_7 : qI := q_get 14 2 1 (q_const (0, 7406) (q_load 0 1 (q_load 0 3 (q_call f_X12_entryAt 2 (q_iadd (q_ald 101 0 (q_ast 101 0 (q_iinc 3 (1) (q_goto 6)))))))))
noncomputable def B_X12_forks_8 : qI := q_load 0 2 (q_ret 0)
noncomputable def P_X12_forks : qP := [B_X12_forks_0, B_X12_forks_1, B_X12_forks_2, B_X12_forks_3, B_X12_forks_4, B_X12_forks_5, B_X12_forks_6, B_X12_forks_7, B_X12_forks_8]
noncomputable def f_X12_forks : List qV → qA → Option qR := qa_fn P_X12_forks 4
def pc_X12_forks : Nat → Nat := fun j => [0, 14, 20, 34, 36, 65, 108, 160, 180].getD j 0
noncomputable def B_X12_fork_0 : qI := q_load 1 0 (q_load 1 0 (q_load 0 1 (q_callv 14 f_X12_isBranch 2 (q_ifeq 1 (q_const (0, 0) (q_goto 2))))))
noncomputable def B_X12_fork_1 : qI := q_const (0, 1) (q_goto 2)
noncomputable def B_X12_fork_2 : qI := q_put 14 0 0 (q_load 1 0 (q_get 14 0 0 (q_ifle 3 (q_const (0, 0) (q_goto 4)))))
noncomputable def B_X12_fork_3 : qI := q_load 1 0 (q_load 0 1 (q_callv 14 f_X12_forks 2 (q_goto 4)))
noncomputable def B_X12_fork_4 : qI := q_ret 0
noncomputable def P_X12_fork : qP := [B_X12_fork_0, B_X12_fork_1, B_X12_fork_2, B_X12_fork_3, B_X12_fork_4]
noncomputable def f_X12_fork : List qV → qA → Option qR := qa_fn P_X12_fork 2
def pc_X12_fork : Nat → Nat := fun j => [0, 13, 14, 28, 33].getD j 0
noncomputable def B_X12_whyStays_0 : qI := q_load 0 1 (q_ifne 1 (q_const (0, 6) (q_goto 3)))
noncomputable def B_X12_whyStays_1 : qI := q_load 1 0 (q_load 0 1 (q_callv 14 f_X12_childrenOf 2 (q_ifle 2 (q_const (0, 7) (q_goto 3)))))
noncomputable def B_X12_whyStays_2 : qI := q_const (0, 0) (q_goto 3)
noncomputable def B_X12_whyStays_3 : qI := q_ret 0
noncomputable def P_X12_whyStays : qP := [B_X12_whyStays_0, B_X12_whyStays_1, B_X12_whyStays_2, B_X12_whyStays_3]
noncomputable def f_X12_whyStays : List qV → qA → Option qR := qa_fn P_X12_whyStays 2
def pc_X12_whyStays : Nat → Nat := fun j => [0, 9, 22, 23].getD j 0
noncomputable def B_X12_hasLow_0 : qI := q_const (0, 0) (q_store 0 2 (q_const (0, 0) (q_store 0 3 (q_goto 1))))
noncomputable def B_X12_hasLow_1 : qI := q_load 0 3 (q_const (0, 6) (q_cmpge 5 (q_load 0 2 (q_ifne 2 (q_load 1 0 (q_load 0 3 (q_load 0 1 (q_callv 14 f_X12_isIn 3 (q_ifeq 3 (q_load 1 0 (q_load 0 3 (q_const (0, 2) (q_callv 14 f_X12_ofReader 3 (q_load 1 0 (q_load 0 1 (q_const (0, 5) (q_callv 14 f_X12_ofBranch 3 (q_cmpge 3 (q_goto 2)))))))))))))))))))
noncomputable def B_X12_hasLow_2 : qI := q_const (0, 1) (q_goto 4)
noncomputable def B_X12_hasLow_3 : qI := q_const (0, 0) (q_goto 4)
noncomputable def B_X12_hasLow_4 : qI := q_store 0 2 (q_iinc 3 (1) (q_goto 1))
noncomputable def B_X12_hasLow_5 : qI := q_load 0 2 (q_retz)
noncomputable def P_X12_hasLow : qP := [B_X12_hasLow_0, B_X12_hasLow_1, B_X12_hasLow_2, B_X12_hasLow_3, B_X12_hasLow_4, B_X12_hasLow_5]
noncomputable def f_X12_hasLow : List qV → qA → Option qR := qa_fn P_X12_hasLow 4
def pc_X12_hasLow : Nat → Nat := fun j => [0, 4, 38, 42, 43, 50].getD j 0
noncomputable def B_X12_merges_0 : qI := q_load 1 0 (q_load 0 1 (q_callv 14 f_X12_whyStays 2 (q_ifle 1 (q_load 1 0 (q_load 0 1 (q_callv 14 f_X12_whyStays 2 (q_goto 3)))))))
noncomputable def B_X12_merges_1 : qI := q_load 1 0 (q_load 0 1 (q_callv 14 f_X12_hasLow 2 (q_ifeq 2 (q_const (0, 9) (q_goto 3)))))
noncomputable def B_X12_merges_2 : qI := q_const (0, 0) (q_goto 3)
noncomputable def B_X12_merges_3 : qI := q_store 0 2 (q_load 0 2 (q_ifle 4 (q_load 1 0 (q_load 0 2 (q_callv 14 f_X12_refuses 2 (q_ret 0))))))
noncomputable def B_X12_merges_4 : qI := q_load 1 0 (q_callv 14 f_X12_keeps 1 (q_load 1 0 (q_load 0 1 (q_const (0, 4) (q_callv 14 f_X12_ofBranch 3 (q_store 0 3 (q_load 1 0 (q_load 0 3 (q_callv 14 f_X12_endOf 2 (q_store 0 4 (q_load 1 0 (q_load 0 1 (q_const (0, 5) (q_callv 14 f_X12_ofBranch 3 (q_load 1 0 (q_load 0 1 (q_const (0, 1) (q_callv 14 f_X12_ofBranch 3 (q_cmple 5 (q_load 1 0 (q_load 0 1 (q_const (0, 5) (q_callv 14 f_X12_ofBranch 3 (q_goto 6))))))))))))))))))))))))
noncomputable def B_X12_merges_5 : qI := q_load 1 0 (q_load 0 1 (q_const (0, 1) (q_callv 14 f_X12_ofBranch 3 (q_goto 6))))
noncomputable def B_X12_merges_6 : qI := q_store 0 5 (q_const (0, 0) (q_store 0 6 (q_load 0 5 (q_load 1 0 (q_load 0 1 (q_const (0, 1) (q_callv 14 f_X12_ofBranch 3 (q_isub (q_store 0 7 (q_goto 7))))))))))
noncomputable def B_X12_merges_7 : qI := q_load 0 7 (q_load 1 0 (q_load 0 1 (q_const (0, 2) (q_callv 14 f_X12_ofBranch 3 (q_cmpge 8 (q_load 1 0 (q_load 0 3 (q_load 1 0 (q_load 0 1 (q_load 0 7 (q_callv 14 f_X12_timeOf 3 (q_load 1 0 (q_get 14 2 1 (q_const (0, 7406) (q_load 0 1 (q_load 0 7 (q_call f_X12_entryAt 2 (q_iadd (q_ald 101 0 (q_callv 14 f_X12_adds 4 (q_iinc 6 (1) (q_iinc 7 (1) (q_goto 7)))))))))))))))))))))))
noncomputable def B_X12_merges_8 : qI := q_const (0, 0) (q_store 0 7 (q_goto 9))
noncomputable def B_X12_merges_9 : qI := q_load 0 7 (q_const (0, 6) (q_cmpge 12 (q_load 1 0 (q_load 0 7 (q_load 0 1 (q_callv 14 f_X12_isIn 3 (q_ifeq 11 (q_load 1 0 (q_get 14 2 1 (q_load 0 7 (q_call f_X12_readerAt 1 (q_const (0, 1) (q_iadd (q_load 0 3 (q_ast 101 0 (q_load 1 0 (q_get 14 2 1 (q_load 0 7 (q_call f_X12_readerAt 1 (q_const (0, 2) (q_iadd (q_load 0 4 (q_load 1 0 (q_load 0 7 (q_const (0, 2) (q_callv 14 f_X12_ofReader 3 (q_iadd (q_load 0 5 (q_isub (q_goto 10))))))))))))))))))))))))))))))
noncomputable def B_X12_merges_10 : qI := q_ast 101 0 (q_goto 11)
noncomputable def B_X12_merges_11 : qI := q_iinc 7 (1) (q_goto 9)
noncomputable def B_X12_merges_12 : qI := q_load 1 0 (q_get 14 2 1 (q_load 0 1 (q_call f_X12_branchAt 1 (q_const (0, 0) (q_iadd (q_const (0, 0) (q_ast 101 0 (q_load 1 0 (q_load 0 3 (q_callv 14 f_X12_cuts 2 (q_load 0 6 (q_ret 0))))))))))))
noncomputable def P_X12_merges : qP := [B_X12_merges_0, B_X12_merges_1, B_X12_merges_2, B_X12_merges_3, B_X12_merges_4, B_X12_merges_5, B_X12_merges_6, B_X12_merges_7, B_X12_merges_8, B_X12_merges_9, B_X12_merges_10, B_X12_merges_11, B_X12_merges_12]
noncomputable def f_X12_merges : List qV → qA → Option qR := qa_fn P_X12_merges 8
def pc_X12_merges : Nat → Nat := fun j => [0, 16, 29, 30, 41, 83, 89, 105, 152, 155, 209, 210, 216].getD j 0
noncomputable def B_X12_merge_0 : qI := q_load 1 0 (q_load 1 0 (q_load 0 1 (q_callv 14 f_X12_isBranch 2 (q_ifeq 1 (q_const (0, 0) (q_goto 2))))))
noncomputable def B_X12_merge_1 : qI := q_const (0, 1) (q_goto 2)
noncomputable def B_X12_merge_2 : qI := q_put 14 0 0 (q_load 1 0 (q_get 14 0 0 (q_ifle 3 (q_const (0, 0) (q_goto 4)))))
noncomputable def B_X12_merge_3 : qI := q_load 1 0 (q_load 0 1 (q_callv 14 f_X12_merges 2 (q_goto 4)))
noncomputable def B_X12_merge_4 : qI := q_ret 0
noncomputable def P_X12_merge : qP := [B_X12_merge_0, B_X12_merge_1, B_X12_merge_2, B_X12_merge_3, B_X12_merge_4]
noncomputable def f_X12_merge : List qV → qA → Option qR := qa_fn P_X12_merge 2
def pc_X12_merge : Nat → Nat := fun j => [0, 13, 14, 28, 33].getD j 0
noncomputable def B_X12_drops_0 : qI := q_load 1 0 (q_load 0 1 (q_callv 14 f_X12_whyStays 2 (q_ifle 1 (q_load 1 0 (q_load 0 1 (q_callv 14 f_X12_whyStays 2 (q_goto 3)))))))
noncomputable def B_X12_drops_1 : qI := q_load 1 0 (q_load 0 1 (q_callv 14 f_X12_readersIn 2 (q_ifle 2 (q_const (0, 8) (q_goto 3)))))
noncomputable def B_X12_drops_2 : qI := q_const (0, 0) (q_goto 3)
noncomputable def B_X12_drops_3 : qI := q_store 0 2 (q_load 0 2 (q_ifle 4 (q_load 1 0 (q_load 0 2 (q_callv 14 f_X12_refuses 2 (q_ret 0))))))
noncomputable def B_X12_drops_4 : qI := q_load 1 0 (q_callv 14 f_X12_keeps 1 (q_load 1 0 (q_get 14 2 1 (q_load 0 1 (q_call f_X12_branchAt 1 (q_const (0, 0) (q_iadd (q_const (0, 0) (q_ast 101 0 (q_load 1 0 (q_load 0 1 (q_const (0, 2) (q_callv 14 f_X12_ofBranch 3 (q_ret 0))))))))))))))
noncomputable def P_X12_drops : qP := [B_X12_drops_0, B_X12_drops_1, B_X12_drops_2, B_X12_drops_3, B_X12_drops_4]
noncomputable def f_X12_drops : List qV → qA → Option qR := qa_fn P_X12_drops 3
def pc_X12_drops : Nat → Nat := fun j => [0, 16, 29, 30, 41].getD j 0
noncomputable def B_X12_drop_0 : qI := q_load 1 0 (q_load 1 0 (q_load 0 1 (q_callv 14 f_X12_isBranch 2 (q_ifeq 1 (q_const (0, 0) (q_goto 2))))))
noncomputable def B_X12_drop_1 : qI := q_const (0, 1) (q_goto 2)
noncomputable def B_X12_drop_2 : qI := q_put 14 0 0 (q_load 1 0 (q_get 14 0 0 (q_ifle 3 (q_const (0, 0) (q_goto 4)))))
noncomputable def B_X12_drop_3 : qI := q_load 1 0 (q_load 0 1 (q_callv 14 f_X12_drops 2 (q_goto 4)))
noncomputable def B_X12_drop_4 : qI := q_ret 0
noncomputable def P_X12_drop : qP := [B_X12_drop_0, B_X12_drop_1, B_X12_drop_2, B_X12_drop_3, B_X12_drop_4]
noncomputable def f_X12_drop : List qV → qA → Option qR := qa_fn P_X12_drop 2
def pc_X12_drop : Nat → Nat := fun j => [0, 13, 14, 28, 33].getD j 0
noncomputable def B_X12_passes_0 : qI := q_load 1 0 (q_callv 14 f_X12_keeps 1 (q_load 1 0 (q_callv 14 f_X12_countsAnew 1 (q_const (0, 0) (q_store 0 2 (q_goto 1))))))
noncomputable def B_X12_passes_1 : qI := q_load 0 2 (q_load 0 1 (q_cmpge 2 (q_load 1 0 (q_callv 14 f_X12_ticks 1 (q_iinc 2 (1) (q_goto 1))))))
noncomputable def B_X12_passes_2 : qI := q_load 1 0 (q_get 14 9 0 (q_ret 0))
noncomputable def P_X12_passes : qP := [B_X12_passes_0, B_X12_passes_1, B_X12_passes_2]
noncomputable def f_X12_passes : List qV → qA → Option qR := qa_fn P_X12_passes 3
def pc_X12_passes : Nat → Nat := fun j => [0, 10, 25].getD j 0
noncomputable def B_X12_pass_0 : qI := q_load 1 0 (q_load 0 1 (q_const (0, 1) (q_const (0, 99) (q_call f_X12_in 3 (q_ifeq 1 (q_const (0, 0) (q_goto 2)))))))
noncomputable def B_X12_pass_1 : qI := q_const (0, 1) (q_goto 2)
noncomputable def B_X12_pass_2 : qI := q_put 14 0 0 (q_load 1 0 (q_get 14 0 0 (q_ifle 3 (q_const (0, 0) (q_goto 4)))))
noncomputable def B_X12_pass_3 : qI := q_load 1 0 (q_load 0 1 (q_callv 14 f_X12_passes 2 (q_goto 4)))
noncomputable def B_X12_pass_4 : qI := q_ret 0
noncomputable def P_X12_pass : qP := [B_X12_pass_0, B_X12_pass_1, B_X12_pass_2, B_X12_pass_3, B_X12_pass_4]
noncomputable def f_X12_pass : List qV → qA → Option qR := qa_fn P_X12_pass 2
def pc_X12_pass : Nat → Nat := fun j => [0, 15, 16, 30, 35].getD j 0
noncomputable def B_X12_common_0 : qI := q_load 1 0 (q_load 1 0 (q_load 0 1 (q_callv 14 f_X12_isBranch 2 (q_ifeq 1 (q_load 1 0 (q_load 0 2 (q_callv 14 f_X12_isBranch 2 (q_ifeq 1 (q_const (0, 0) (q_goto 2))))))))))
noncomputable def B_X12_common_1 : qI := q_const (0, 1) (q_goto 2)
noncomputable def B_X12_common_2 : qI := q_put 14 0 0 (q_load 1 0 (q_get 14 0 0 (q_ifle 3 (q_const (0, 0) (q_goto 4)))))
noncomputable def B_X12_common_3 : qI := q_load 1 0 (q_load 0 1 (q_load 0 2 (q_callv 14 f_X12_commonOf 3 (q_goto 4))))
noncomputable def B_X12_common_4 : qI := q_ret 0
noncomputable def P_X12_common : qP := [B_X12_common_0, B_X12_common_1, B_X12_common_2, B_X12_common_3, B_X12_common_4]
noncomputable def f_X12_common : List qV → qA → Option qR := qa_fn P_X12_common 3
def pc_X12_common : Nat → Nat := fun j => [0, 21, 22, 36, 42].getD j 0
noncomputable def B_X12_holder_0 : qI := q_load 1 0 (q_load 1 0 (q_load 0 1 (q_callv 14 f_X12_isBranch 2 (q_ifeq 1 (q_const (0, 0) (q_goto 2))))))
noncomputable def B_X12_holder_1 : qI := q_const (0, 1) (q_goto 2)
noncomputable def B_X12_holder_2 : qI := q_put 14 0 0 (q_load 1 0 (q_get 14 0 0 (q_ifle 3 (q_const (0, 0) (q_goto 4)))))
noncomputable def B_X12_holder_3 : qI := q_load 1 0 (q_load 0 1 (q_callv 14 f_X12_holderOf 2 (q_goto 4)))
noncomputable def B_X12_holder_4 : qI := q_ret 0
noncomputable def P_X12_holder : qP := [B_X12_holder_0, B_X12_holder_1, B_X12_holder_2, B_X12_holder_3, B_X12_holder_4]
noncomputable def f_X12_holder : List qV → qA → Option qR := qa_fn P_X12_holder 2
def pc_X12_holder : Nat → Nat := fun j => [0, 13, 14, 28, 33].getD j 0
noncomputable def B_X12_slowest_0 : qI := q_load 1 0 (q_load 1 0 (q_load 0 1 (q_callv 14 f_X12_isBranch 2 (q_ifeq 1 (q_const (0, 0) (q_goto 2))))))
noncomputable def B_X12_slowest_1 : qI := q_const (0, 1) (q_goto 2)
noncomputable def B_X12_slowest_2 : qI := q_put 14 0 0 (q_const (0, -1) (q_store 0 2 (q_const (0, 0) (q_store 0 3 (q_goto 3)))))
noncomputable def B_X12_slowest_3 : qI := q_load 0 3 (q_const (0, 6) (q_cmpge 7 (q_load 1 0 (q_get 14 0 0 (q_ifne 7 (q_load 1 0 (q_load 0 3 (q_load 0 1 (q_callv 14 f_X12_isIn 3 (q_ifeq 5 (q_load 0 2 (q_const (0, -1) (q_cmpeq 4 (q_load 1 0 (q_load 0 3 (q_const (0, 2) (q_callv 14 f_X12_ofReader 3 (q_load 1 0 (q_load 0 2 (q_const (0, 2) (q_callv 14 f_X12_ofReader 3 (q_cmpge 5 (q_goto 4)))))))))))))))))))))))
noncomputable def B_X12_slowest_4 : qI := q_load 0 3 (q_goto 6)
noncomputable def B_X12_slowest_5 : qI := q_load 0 2 (q_goto 6)
noncomputable def B_X12_slowest_6 : qI := q_store 0 2 (q_iinc 3 (1) (q_goto 3))
noncomputable def B_X12_slowest_7 : qI := q_load 1 0 (q_get 14 0 0 (q_ifle 8 (q_const (0, 0) (q_goto 9))))
noncomputable def B_X12_slowest_8 : qI := q_load 0 2 (q_goto 9)
noncomputable def B_X12_slowest_9 : qI := q_ret 0
noncomputable def P_X12_slowest : qP := [B_X12_slowest_0, B_X12_slowest_1, B_X12_slowest_2, B_X12_slowest_3, B_X12_slowest_4, B_X12_slowest_5, B_X12_slowest_6, B_X12_slowest_7, B_X12_slowest_8, B_X12_slowest_9]
noncomputable def f_X12_slowest : List qV → qA → Option qR := qa_fn P_X12_slowest 4
def pc_X12_slowest : Nat → Nat := fun j => [0, 13, 14, 21, 63, 67, 68, 75, 86, 87].getD j 0
noncomputable def B_X12_cause_0 : qI := q_load 1 0 (q_load 1 0 (q_load 0 1 (q_callv 14 f_X12_isBranch 2 (q_ifeq 1 (q_const (0, 0) (q_goto 2))))))
noncomputable def B_X12_cause_1 : qI := q_const (0, 1) (q_goto 2)
noncomputable def B_X12_cause_2 : qI := q_put 14 0 0 (q_load 1 0 (q_get 14 0 0 (q_ifle 3 (q_const (0, 0) (q_goto 4)))))
noncomputable def B_X12_cause_3 : qI := q_load 1 0 (q_load 0 1 (q_callv 14 f_X12_causeOf 2 (q_goto 4)))
noncomputable def B_X12_cause_4 : qI := q_ret 0
noncomputable def P_X12_cause : qP := [B_X12_cause_0, B_X12_cause_1, B_X12_cause_2, B_X12_cause_3, B_X12_cause_4]
noncomputable def f_X12_cause : List qV → qA → Option qR := qa_fn P_X12_cause 2
def pc_X12_cause : Nat → Nat := fun j => [0, 13, 14, 28, 33].getD j 0
noncomputable def B_X12_latest_0 : qI := q_load 1 0 (q_load 1 0 (q_load 0 1 (q_callv 14 f_X12_isBranch 2 (q_ifne 1 (q_const (0, 1) (q_goto 3))))))
noncomputable def B_X12_latest_1 : qI := q_load 0 2 (q_const (0, 0) (q_const (0, 9) (q_call f_X12_in 3 (q_ifeq 2 (q_const (0, 0) (q_goto 3))))))
noncomputable def B_X12_latest_2 : qI := q_const (0, 2) (q_goto 3)
noncomputable def B_X12_latest_3 : qI := q_put 14 0 0 (q_load 1 0 (q_get 14 0 0 (q_ifle 4 (q_const (0, 0) (q_ret 0)))))
noncomputable def B_X12_latest_4 : qI := q_load 1 0 (q_load 0 1 (q_const (0, 2) (q_callv 14 f_X12_ofBranch 3 (q_const (0, 1) (q_isub (q_store 0 3 (q_goto 5)))))))
noncomputable def B_X12_latest_5 : qI := q_load 0 3 (q_iflt 7 (q_load 1 0 (q_load 0 1 (q_load 0 3 (q_callv 14 f_X12_keyOf 3 (q_load 0 2 (q_cmpne 6 (q_load 1 0 (q_load 0 1 (q_load 0 3 (q_callv 14 f_X12_valueOf 3 (q_ret 0))))))))))))
noncomputable def B_X12_latest_6 : qI := q_iinc 3 (-1) (q_goto 5)
noncomputable def B_X12_latest_7 : qI := q_const (0, -1000) (q_ret 0)
noncomputable def P_X12_latest : qP := [B_X12_latest_0, B_X12_latest_1, B_X12_latest_2, B_X12_latest_3, B_X12_latest_4, B_X12_latest_5, B_X12_latest_6, B_X12_latest_7]
noncomputable def f_X12_latest : List qV → qA → Option qR := qa_fn P_X12_latest 4
def pc_X12_latest : Nat → Nat := fun j => [0, 13, 27, 28, 40, 49, 70, 76].getD j 0
noncomputable def B_X12_wouldCut_0 : qI := q_load 1 0 (q_load 1 0 (q_load 0 1 (q_callv 14 f_X12_isBranch 2 (q_ifne 1 (q_const (0, 1) (q_goto 3))))))
noncomputable def B_X12_wouldCut_1 : qI := q_load 0 2 (q_const (0, 1) (q_const (0, 9) (q_call f_X12_in 3 (q_ifeq 2 (q_const (0, 0) (q_goto 3))))))
noncomputable def B_X12_wouldCut_2 : qI := q_const (0, 2) (q_goto 3)
noncomputable def B_X12_wouldCut_3 : qI := q_put 14 0 0 (q_load 1 0 (q_get 14 0 0 (q_ifle 4 (q_const (0, 0) (q_ret 0)))))
noncomputable def B_X12_wouldCut_4 : qI := q_load 1 0 (q_get 14 2 1 (q_const (0, 0) (q_load 1 0 (q_get 14 3 1 (q_const (0, 0) (q_call f_X12_copies 4 (q_load 1 0 (q_callv 14 f_X12_countsAnew 1 (q_load 1 0 (q_load 0 1 (q_load 1 0 (q_get 14 2 1 (q_const (0, 0) (q_ald 101 0 (q_const (0, 0) (q_load 0 2 (q_const (0, 0) (q_call f_X12_packed 3 (q_callv 14 f_X12_adds 4 (q_load 1 0 (q_load 0 1 (q_callv 14 f_X12_cuts 2 (q_load 1 0 (q_get 14 3 1 (q_const (0, 0) (q_load 1 0 (q_get 14 2 1 (q_const (0, 0) (q_call f_X12_copies 4 (q_goto 5))))))))))))))))))))))))))))))
noncomputable def B_X12_wouldCut_5 : qI := q_load 1 0 (q_get 14 9 0 (q_ret 0))
noncomputable def P_X12_wouldCut : qP := [B_X12_wouldCut_0, B_X12_wouldCut_1, B_X12_wouldCut_2, B_X12_wouldCut_3, B_X12_wouldCut_4, B_X12_wouldCut_5]
noncomputable def f_X12_wouldCut : List qV → qA → Option qR := qa_fn P_X12_wouldCut 3
def pc_X12_wouldCut : Nat → Nat := fun j => [0, 13, 27, 28, 40, 92].getD j 0
noncomputable def B_X12_unread_0 : qI := q_load 1 0 (q_load 1 0 (q_load 0 1 (q_callv 14 f_X12_isReader 2 (q_ifne 1 (q_const (0, 1) (q_goto 3))))))
noncomputable def B_X12_unread_1 : qI := q_load 0 2 (q_const (0, 0) (q_const (0, 9) (q_call f_X12_in 3 (q_ifeq 2 (q_const (0, 0) (q_goto 3))))))
noncomputable def B_X12_unread_2 : qI := q_const (0, 2) (q_goto 3)
noncomputable def B_X12_unread_3 : qI := q_put 14 0 0 (q_load 1 0 (q_get 14 0 0 (q_ifle 4 (q_const (0, 0) (q_ret 0)))))
noncomputable def B_X12_unread_4 : qI := q_load 1 0 (q_load 0 1 (q_const (0, 1) (q_callv 14 f_X12_ofReader 3 (q_store 0 3 (q_const (0, 0) (q_store 0 4 (q_load 1 0 (q_load 0 1 (q_const (0, 2) (q_callv 14 f_X12_ofReader 3 (q_load 1 0 (q_load 0 3 (q_const (0, 1) (q_callv 14 f_X12_ofBranch 3 (q_isub (q_store 0 5 (q_goto 5)))))))))))))))))
noncomputable def B_X12_unread_5 : qI := q_load 0 5 (q_load 1 0 (q_load 0 3 (q_const (0, 2) (q_callv 14 f_X12_ofBranch 3 (q_cmpge 8 (q_load 0 4 (q_load 1 0 (q_load 0 3 (q_load 0 5 (q_callv 14 f_X12_keyOf 3 (q_load 0 2 (q_cmpne 6 (q_const (0, 1) (q_goto 7))))))))))))))
noncomputable def B_X12_unread_6 : qI := q_const (0, 0) (q_goto 7)
noncomputable def B_X12_unread_7 : qI := q_iadd (q_store 0 4 (q_iinc 5 (1) (q_goto 5)))
noncomputable def B_X12_unread_8 : qI := q_load 0 4 (q_ret 0)
noncomputable def P_X12_unread : qP := [B_X12_unread_0, B_X12_unread_1, B_X12_unread_2, B_X12_unread_3, B_X12_unread_4, B_X12_unread_5, B_X12_unread_6, B_X12_unread_7, B_X12_unread_8]
noncomputable def f_X12_unread : List qV → qA → Option qR := qa_fn P_X12_unread 6
def pc_X12_unread : Nat → Nat := fun j => [0, 13, 27, 28, 40, 65, 93, 94, 103].getD j 0
noncomputable def B_X12_hasPromise_0 : qI := q_load 1 0 (q_load 0 1 (q_callv 14 f_X12_isReader 2 (q_ifeq 1 (q_load 1 0 (q_load 0 1 (q_const (0, 4) (q_callv 14 f_X12_ofReader 3 (q_const (0, -1) (q_cmpeq 1 (q_const (0, 1) (q_goto 2)))))))))))
noncomputable def B_X12_hasPromise_1 : qI := q_const (0, 0) (q_goto 2)
noncomputable def B_X12_hasPromise_2 : qI := q_retz
noncomputable def P_X12_hasPromise : qP := [B_X12_hasPromise_0, B_X12_hasPromise_1, B_X12_hasPromise_2]
noncomputable def f_X12_hasPromise : List qV → qA → Option qR := qa_fn P_X12_hasPromise 2
def pc_X12_hasPromise : Nat → Nat := fun j => [0, 22, 23].getD j 0
noncomputable def B_X12_aheadOf_0 : qI := q_const (0, 0) (q_store 0 2 (q_const (0, 0) (q_store 0 3 (q_goto 1))))
noncomputable def B_X12_aheadOf_1 : qI := q_load 0 3 (q_const (0, 6) (q_cmpge 7 (q_load 1 0 (q_load 0 3 (q_const (0, 4) (q_callv 14 f_X12_ofReader 3 (q_load 1 0 (q_load 0 1 (q_const (0, 4) (q_callv 14 f_X12_ofReader 3 (q_cmplt 2 (q_load 1 0 (q_load 0 3 (q_const (0, 4) (q_callv 14 f_X12_ofReader 3 (q_load 1 0 (q_load 0 1 (q_const (0, 4) (q_callv 14 f_X12_ofReader 3 (q_cmpne 3 (q_load 0 3 (q_load 0 1 (q_cmpge 3 (q_goto 2))))))))))))))))))))))))
noncomputable def B_X12_aheadOf_2 : qI := q_const (0, 1) (q_goto 4)
noncomputable def B_X12_aheadOf_3 : qI := q_const (0, 0) (q_goto 4)
noncomputable def B_X12_aheadOf_4 : qI := q_store 0 4 (q_load 0 2 (q_load 1 0 (q_load 0 3 (q_callv 14 f_X12_hasPromise 2 (q_ifeq 5 (q_load 0 4 (q_ifeq 5 (q_const (0, 1) (q_goto 6)))))))))
noncomputable def B_X12_aheadOf_5 : qI := q_const (0, 0) (q_goto 6)
noncomputable def B_X12_aheadOf_6 : qI := q_iadd (q_store 0 2 (q_iinc 3 (1) (q_goto 1)))
noncomputable def B_X12_aheadOf_7 : qI := q_load 0 2 (q_ret 0)
noncomputable def P_X12_aheadOf : qP := [B_X12_aheadOf_0, B_X12_aheadOf_1, B_X12_aheadOf_2, B_X12_aheadOf_3, B_X12_aheadOf_4, B_X12_aheadOf_5, B_X12_aheadOf_6, B_X12_aheadOf_7]
noncomputable def f_X12_aheadOf : List qV → qA → Option qR := qa_fn P_X12_aheadOf 5
def pc_X12_aheadOf : Nat → Nat := fun j => [0, 4, 45, 49, 50, 70, 71, 79].getD j 0
noncomputable def B_X12_promised_0 : qI := q_load 1 0 (q_load 0 1 (q_iflt 1 (q_const (0, 0) (q_goto 2))))
noncomputable def B_X12_promised_1 : qI := q_const (0, 1) (q_goto 2)
noncomputable def B_X12_promised_2 : qI := q_put 14 0 0 (q_const (0, 0) (q_store 0 2 (q_goto 3)))
noncomputable def B_X12_promised_3 : qI := q_load 0 2 (q_const (0, 6) (q_cmpge 5 (q_load 1 0 (q_get 14 0 0 (q_ifne 5 (q_load 1 0 (q_load 0 2 (q_callv 14 f_X12_hasPromise 2 (q_ifeq 4 (q_load 1 0 (q_load 0 2 (q_callv 14 f_X12_aheadOf 2 (q_load 0 1 (q_cmpne 4 (q_load 0 2 (q_ret 0))))))))))))))))
noncomputable def B_X12_promised_4 : qI := q_iinc 2 (1) (q_goto 3)
noncomputable def B_X12_promised_5 : qI := q_load 1 0 (q_get 14 0 0 (q_ifle 6 (q_const (0, 0) (q_goto 7))))
noncomputable def B_X12_promised_6 : qI := q_const (0, -1) (q_goto 7)
noncomputable def B_X12_promised_7 : qI := q_ret 0
noncomputable def P_X12_promised : qP := [B_X12_promised_0, B_X12_promised_1, B_X12_promised_2, B_X12_promised_3, B_X12_promised_4, B_X12_promised_5, B_X12_promised_6, B_X12_promised_7]
noncomputable def f_X12_promised : List qV → qA → Option qR := qa_fn P_X12_promised 3
def pc_X12_promised : Nat → Nat := fun j => [0, 9, 10, 15, 47, 53, 64, 65].getD j 0
noncomputable def B_X12_age_0 : qI := q_load 1 0 (q_load 1 0 (q_load 0 1 (q_callv 14 f_X12_isBranch 2 (q_ifeq 1 (q_const (0, 0) (q_goto 2))))))
noncomputable def B_X12_age_1 : qI := q_const (0, 1) (q_goto 2)
noncomputable def B_X12_age_2 : qI := q_put 14 0 0 (q_load 1 0 (q_get 14 0 0 (q_ifle 3 (q_const (0, 0) (q_goto 5)))))
noncomputable def B_X12_age_3 : qI := q_load 1 0 (q_load 0 1 (q_const (0, 2) (q_callv 14 f_X12_ofBranch 3 (q_ifne 4 (q_const (0, -1) (q_goto 5))))))
noncomputable def B_X12_age_4 : qI := q_load 1 0 (q_get 14 2 1 (q_const (0, 0) (q_ald 101 0 (q_load 1 0 (q_load 0 1 (q_const (0, 0) (q_callv 14 f_X12_timeOf 3 (q_isub (q_goto 5)))))))))
noncomputable def B_X12_age_5 : qI := q_ret 0
noncomputable def P_X12_age : qP := [B_X12_age_0, B_X12_age_1, B_X12_age_2, B_X12_age_3, B_X12_age_4, B_X12_age_5]
noncomputable def f_X12_age : List qV → qA → Option qR := qa_fn P_X12_age 2
def pc_X12_age : Nat → Nat := fun j => [0, 13, 14, 28, 41, 54].getD j 0
noncomputable def B_X12_mean_0 : qI := q_load 1 0 (q_load 1 0 (q_load 0 1 (q_callv 14 f_X12_isBranch 2 (q_ifeq 1 (q_const (0, 0) (q_goto 2))))))
noncomputable def B_X12_mean_1 : qI := q_const (0, 1) (q_goto 2)
noncomputable def B_X12_mean_2 : qI := q_put 14 0 0 (q_load 1 0 (q_get 14 0 0 (q_ifgt 3 (q_load 1 0 (q_load 0 1 (q_const (0, 2) (q_callv 14 f_X12_ofBranch 3 (q_ifne 4 (q_goto 3)))))))))
noncomputable def B_X12_mean_3 : qI := q_const (4, 0) (q_ret 4)
noncomputable def B_X12_mean_4 : qI := q_const (0, 0) (q_store 0 2 (q_const (0, 0) (q_store 0 3 (q_goto 5))))
noncomputable def B_X12_mean_5 : qI := q_load 0 3 (q_load 1 0 (q_load 0 1 (q_const (0, 2) (q_callv 14 f_X12_ofBranch 3 (q_cmpge 6 (q_load 0 2 (q_load 1 0 (q_load 0 1 (q_load 0 3 (q_callv 14 f_X12_valueOf 3 (q_iadd (q_store 0 2 (q_iinc 3 (1) (q_goto 5))))))))))))))
noncomputable def B_X12_mean_6 : qI := q_load 0 2 (q_i2d (q_load 1 0 (q_load 0 1 (q_const (0, 2) (q_callv 14 f_X12_ofBranch 3 (q_i2d (q_ddiv (q_ret 4))))))))
noncomputable def P_X12_mean : qP := [B_X12_mean_0, B_X12_mean_1, B_X12_mean_2, B_X12_mean_3, B_X12_mean_4, B_X12_mean_5, B_X12_mean_6]
noncomputable def f_X12_mean : List qV → qA → Option qR := qa_fn P_X12_mean 4
def pc_X12_mean : Nat → Nat := fun j => [0, 13, 14, 33, 35, 39, 64].getD j 0
noncomputable def B_X12_trust_0 : qI := q_load 1 0 (q_load 1 0 (q_load 0 1 (q_callv 14 f_X12_isReader 2 (q_ifeq 1 (q_const (0, 0) (q_goto 2))))))
noncomputable def B_X12_trust_1 : qI := q_const (0, 1) (q_goto 2)
noncomputable def B_X12_trust_2 : qI := q_put 14 0 0 (q_load 1 0 (q_get 14 0 0 (q_ifle 3 (q_const (3, 0) (q_ret 3)))))
noncomputable def B_X12_trust_3 : qI := q_load 1 0 (q_load 0 1 (q_const (0, 5) (q_callv 14 f_X12_ofReader 3 (q_load 1 0 (q_load 0 1 (q_const (0, 6) (q_callv 14 f_X12_ofReader 3 (q_iadd (q_store 0 2 (q_load 0 2 (q_ifne 4 (q_const (3, 1065353216) (q_goto 5)))))))))))))
noncomputable def B_X12_trust_4 : qI := q_load 1 0 (q_load 0 1 (q_const (0, 5) (q_callv 14 f_X12_ofReader 3 (q_i2f (q_load 0 2 (q_i2f (q_fdiv (q_goto 5))))))))
noncomputable def B_X12_trust_5 : qI := q_ret 3
noncomputable def P_X12_trust : qP := [B_X12_trust_0, B_X12_trust_1, B_X12_trust_2, B_X12_trust_3, B_X12_trust_4, B_X12_trust_5]
noncomputable def f_X12_trust : List qV → qA → Option qR := qa_fn P_X12_trust 3
def pc_X12_trust : Nat → Nat := fun j => [0, 13, 14, 26, 49, 59].getD j 0
noncomputable def B_X12_greatestTotal_0 : qI := q_const (0, 0) (q_store 0 1 (q_const (0, 0) (q_store 0 2 (q_goto 1))))
noncomputable def B_X12_greatestTotal_1 : qI := q_load 0 2 (q_const (0, 4) (q_cmpge 4 (q_load 1 0 (q_load 0 2 (q_callv 14 f_X12_isBranch 2 (q_ifeq 2 (q_load 1 0 (q_load 0 2 (q_const (0, 3) (q_callv 14 f_X12_ofBranch 3 (q_load 0 1 (q_cmple 2 (q_load 1 0 (q_load 0 2 (q_const (0, 3) (q_callv 14 f_X12_ofBranch 3 (q_goto 3)))))))))))))))))
noncomputable def B_X12_greatestTotal_2 : qI := q_load 0 1 (q_goto 3)
noncomputable def B_X12_greatestTotal_3 : qI := q_store 0 1 (q_iinc 2 (1) (q_goto 1))
noncomputable def B_X12_greatestTotal_4 : qI := q_load 0 1 (q_ret 0)
noncomputable def P_X12_greatestTotal : qP := [B_X12_greatestTotal_0, B_X12_greatestTotal_1, B_X12_greatestTotal_2, B_X12_greatestTotal_3, B_X12_greatestTotal_4]
noncomputable def f_X12_greatestTotal : List qV → qA → Option qR := qa_fn P_X12_greatestTotal 3
def pc_X12_greatestTotal : Nat → Nat := fun j => [0, 4, 36, 37, 44].getD j 0
noncomputable def B_X12_ahead_0 : qI := q_load 1 0 (q_load 0 1 (q_const (0, 1) (q_const (0, 99) (q_call f_X12_in 3 (q_ifeq 1 (q_load 0 2 (q_const (0, 0) (q_const (0, 3) (q_call f_X12_in 3 (q_ifeq 1 (q_const (0, 0) (q_goto 2))))))))))))
noncomputable def B_X12_ahead_1 : qI := q_const (0, 1) (q_goto 2)
noncomputable def B_X12_ahead_2 : qI := q_put 14 0 0 (q_load 1 0 (q_get 14 0 0 (q_ifle 3 (q_const (0, 0) (q_ret 0)))))
noncomputable def B_X12_ahead_3 : qI := q_load 1 0 (q_get 14 2 1 (q_const (0, 0) (q_load 1 0 (q_get 14 3 1 (q_const (0, 0) (q_call f_X12_copies 4 (q_load 1 0 (q_callv 14 f_X12_countsAnew 1 (q_const (0, 0) (q_store 0 3 (q_goto 4)))))))))))
noncomputable def B_X12_ahead_4 : qI := q_load 0 3 (q_load 0 1 (q_cmpge 5 (q_load 1 0 (q_callv 14 f_X12_ticks 1 (q_iinc 3 (1) (q_goto 4))))))
noncomputable def B_X12_ahead_5 : qI := q_load 0 2 (q_ifne 6 (q_load 1 0 (q_get 14 9 0 (q_goto 9))))
noncomputable def B_X12_ahead_6 : qI := q_load 0 2 (q_const (0, 1) (q_cmpne 7 (q_load 1 0 (q_get 14 10 0 (q_goto 9)))))
noncomputable def B_X12_ahead_7 : qI := q_load 0 2 (q_const (0, 2) (q_cmpne 8 (q_load 1 0 (q_get 14 11 0 (q_goto 9)))))
noncomputable def B_X12_ahead_8 : qI := q_load 1 0 (q_callv 14 f_X12_greatestTotal 1 (q_goto 9))
noncomputable def B_X12_ahead_9 : qI := q_store 0 3 (q_load 1 0 (q_get 14 3 1 (q_const (0, 0) (q_load 1 0 (q_get 14 2 1 (q_const (0, 0) (q_call f_X12_copies 4 (q_load 0 3 (q_ret 0)))))))))
noncomputable def P_X12_ahead : qP := [B_X12_ahead_0, B_X12_ahead_1, B_X12_ahead_2, B_X12_ahead_3, B_X12_ahead_4, B_X12_ahead_5, B_X12_ahead_6, B_X12_ahead_7, B_X12_ahead_8, B_X12_ahead_9]
noncomputable def f_X12_ahead : List qV → qA → Option qR := qa_fn P_X12_ahead 4
def pc_X12_ahead : Nat → Nat := fun j => [0, 24, 25, 37, 56, 71, 82, 94, 106, 110].getD j 0
noncomputable def B_X12_losesIn_0 : qI := q_load 1 0 (q_load 1 0 (q_load 0 1 (q_callv 14 f_X12_isReader 2 (q_ifne 1 (q_const (0, 1) (q_goto 3))))))
noncomputable def B_X12_losesIn_1 : qI := q_load 0 2 (q_const (0, 1) (q_const (0, 200) (q_call f_X12_in 3 (q_ifeq 2 (q_const (0, 0) (q_goto 3))))))
noncomputable def B_X12_losesIn_2 : qI := q_const (0, 2) (q_goto 3)
noncomputable def B_X12_losesIn_3 : qI := q_put 14 0 0 (q_load 1 0 (q_get 14 0 0 (q_ifle 4 (q_const (0, 0) (q_ret 0)))))
noncomputable def B_X12_losesIn_4 : qI := q_load 1 0 (q_get 14 2 1 (q_const (0, 0) (q_load 1 0 (q_get 14 3 1 (q_const (0, 0) (q_call f_X12_copies 4 (q_load 1 0 (q_callv 14 f_X12_countsAnew 1 (q_const (0, 0) (q_store 0 3 (q_goto 5)))))))))))
noncomputable def B_X12_losesIn_5 : qI := q_load 0 3 (q_load 0 2 (q_cmpge 6 (q_load 1 0 (q_get 14 12 1 (q_load 0 1 (q_ald 101 0 (q_ifne 6 (q_load 1 0 (q_callv 14 f_X12_ticks 1 (q_iinc 3 (1) (q_goto 5)))))))))))
noncomputable def B_X12_losesIn_6 : qI := q_load 1 0 (q_get 14 3 1 (q_const (0, 0) (q_load 1 0 (q_get 14 2 1 (q_const (0, 0) (q_call f_X12_copies 4 (q_load 1 0 (q_get 14 12 1 (q_load 0 1 (q_ald 101 0 (q_ifle 7 (q_load 0 3 (q_goto 8)))))))))))))
noncomputable def B_X12_losesIn_7 : qI := q_const (0, -1) (q_goto 8)
noncomputable def B_X12_losesIn_8 : qI := q_ret 0
noncomputable def P_X12_losesIn : qP := [B_X12_losesIn_0, B_X12_losesIn_1, B_X12_losesIn_2, B_X12_losesIn_3, B_X12_losesIn_4, B_X12_losesIn_5, B_X12_losesIn_6, B_X12_losesIn_7, B_X12_losesIn_8]
noncomputable def f_X12_losesIn : List qV → qA → Option qR := qa_fn P_X12_losesIn 4
def pc_X12_losesIn : Nat → Nat := fun j => [0, 13, 28, 29, 41, 60, 84, 110, 111].getD j 0
noncomputable def B_X12_appendText_0 : qI := q_load 1 0 (q_load 1 0 (q_get 14 16 0 (q_const (0, 4) (q_iadd (q_const (0, 700) (q_cmpgt 1 (q_const (0, 0) (q_goto 2))))))))
noncomputable def B_X12_appendText_1 : qI := q_const (0, 1) (q_goto 2)
noncomputable def B_X12_appendText_2 : qI := q_put 14 0 0 (q_load 1 0 (q_get 14 0 0 (q_ifle 3 (q_const (0, 0) (q_ret 0)))))
noncomputable def B_X12_appendText_3 : qI := q_const (0, 24) (q_store 0 2 (q_goto 4))
noncomputable def B_X12_appendText_4 : qI := q_load 0 2 (q_iflt 5 (q_load 1 0 (q_get 14 15 1 (q_load 1 0 (q_get 14 16 0 (q_load 0 1 (q_load 0 2 (q_ishr (q_i2b (q_bast (q_load 1 0 (q_dup (q_get 14 16 0 (q_const (0, 1) (q_iadd (q_put 14 16 0 (q_iinc 2 (-8) (q_goto 4))))))))))))))))))
noncomputable def B_X12_appendText_5 : qI := q_load 1 0 (q_get 14 16 0 (q_ret 0))
noncomputable def P_X12_appendText : qP := [B_X12_appendText_0, B_X12_appendText_1, B_X12_appendText_2, B_X12_appendText_3, B_X12_appendText_4, B_X12_appendText_5]
noncomputable def f_X12_appendText : List qV → qA → Option qR := qa_fn P_X12_appendText 3
def pc_X12_appendText : Nat → Nat := fun j => [0, 17, 18, 30, 33, 66].getD j 0
noncomputable def B_X12_truncateText_0 : qI := q_load 1 0 (q_load 0 1 (q_const (0, 0) (q_load 1 0 (q_get 14 16 0 (q_call f_X12_in 3 (q_ifeq 1 (q_const (0, 0) (q_goto 2))))))))
noncomputable def B_X12_truncateText_1 : qI := q_const (0, 1) (q_goto 2)
noncomputable def B_X12_truncateText_2 : qI := q_put 14 0 0 (q_load 1 0 (q_get 14 0 0 (q_ifle 3 (q_const (0, 0) (q_ret 0)))))
noncomputable def B_X12_truncateText_3 : qI := q_load 1 0 (q_load 0 1 (q_put 14 16 0 (q_load 1 0 (q_get 14 16 0 (q_ret 0)))))
noncomputable def P_X12_truncateText : qP := [B_X12_truncateText_0, B_X12_truncateText_1, B_X12_truncateText_2, B_X12_truncateText_3]
noncomputable def f_X12_truncateText : List qV → qA → Option qR := qa_fn P_X12_truncateText 2
def pc_X12_truncateText : Nat → Nat := fun j => [0, 17, 18, 30].getD j 0
noncomputable def B_X12_see_0 : qI := q_load 1 0 (q_get 14 17 0 (q_load 1 0 (q_get 14 16 0 (q_cmpge 1 (q_load 1 0 (q_get 14 15 1 (q_load 1 0 (q_get 14 17 0 (q_ald 102 0 (q_const (0, 255) (q_iand (q_goto 2))))))))))))
noncomputable def B_X12_see_1 : qI := q_const (0, -1) (q_goto 2)
noncomputable def B_X12_see_2 : qI := q_ret 0
noncomputable def P_X12_see : qP := [B_X12_see_0, B_X12_see_1, B_X12_see_2]
noncomputable def f_X12_see : List qV → qA → Option qR := qa_fn P_X12_see 1
def pc_X12_see : Nat → Nat := fun j => [0, 27, 28].getD j 0
noncomputable def B_X12_isSmall_0 : qI := q_load 1 0 (q_callv 14 f_X12_see 1 (q_const (0, 97) (q_const (0, 122) (q_call f_X12_in 3 (q_retz)))))
noncomputable def P_X12_isSmall : qP := [B_X12_isSmall_0]
noncomputable def f_X12_isSmall : List qV → qA → Option qR := qa_fn P_X12_isSmall 1
def pc_X12_isSmall : Nat → Nat := fun j => [0].getD j 0
noncomputable def B_X12_isDigit_0 : qI := q_load 1 0 (q_callv 14 f_X12_see 1 (q_const (0, 48) (q_const (0, 57) (q_call f_X12_in 3 (q_retz)))))
noncomputable def P_X12_isDigit : qP := [B_X12_isDigit_0]
noncomputable def f_X12_isDigit : List qV → qA → Option qR := qa_fn P_X12_isDigit 1
def pc_X12_isDigit : Nat → Nat := fun j => [0].getD j 0
noncomputable def B_X12_markOf_0 : qI := q_load 0 0 (q_const (0, 59) (q_cmpne 1 (q_const (0, 3) (q_goto 3))))
noncomputable def B_X12_markOf_1 : qI := q_load 0 0 (q_const (0, 45) (q_cmpne 2 (q_const (0, 4) (q_goto 3))))
noncomputable def B_X12_markOf_2 : qI := q_const (0, 5) (q_goto 3)
noncomputable def B_X12_markOf_3 : qI := q_ret 0
noncomputable def P_X12_markOf : qP := [B_X12_markOf_0, B_X12_markOf_1, B_X12_markOf_2, B_X12_markOf_3]
noncomputable def f_X12_markOf : List qV → qA → Option qR := qa_fn P_X12_markOf 1
def pc_X12_markOf : Nat → Nat := fun j => [0, 10, 20, 21].getD j 0
noncomputable def B_X12_goesOn_0 : qI := q_load 1 0 (q_callv 14 f_X12_see 1 (q_const (0, 32) (q_cmpeq 1 (q_load 1 0 (q_callv 14 f_X12_see 1 (q_const (0, 10) (q_cmpne 2 (q_goto 1))))))))
noncomputable def B_X12_goesOn_1 : qI := q_load 1 0 (q_dup (q_get 14 17 0 (q_const (0, 1) (q_iadd (q_put 14 17 0 (q_goto 0))))))
noncomputable def B_X12_goesOn_2 : qI := q_load 1 0 (q_load 1 0 (q_get 14 17 0 (q_put 14 18 0 (q_load 1 0 (q_load 1 0 (q_callv 14 f_X12_see 1 (q_const (0, -1) (q_cmpne 3 (q_const (0, 0) (q_goto 6))))))))))
noncomputable def B_X12_goesOn_3 : qI := q_load 1 0 (q_callv 14 f_X12_isSmall 1 (q_ifeq 4 (q_const (0, 1) (q_goto 6))))
noncomputable def B_X12_goesOn_4 : qI := q_load 1 0 (q_callv 14 f_X12_isDigit 1 (q_ifeq 5 (q_const (0, 2) (q_goto 6))))
noncomputable def B_X12_goesOn_5 : qI := q_load 1 0 (q_callv 14 f_X12_see 1 (q_call f_X12_markOf 1 (q_goto 6)))
noncomputable def B_X12_goesOn_6 : qI := q_put 14 19 0 (q_load 1 0 (q_const (0, 0) (q_put 14 20 0 (q_load 1 0 (q_dup (q_get 14 17 0 (q_load 1 0 (q_get 14 19 0 (q_const (0, 3) (q_cmplt 7 (q_const (0, 1) (q_goto 8))))))))))))
noncomputable def B_X12_goesOn_7 : qI := q_const (0, 0) (q_goto 8)
noncomputable def B_X12_goesOn_8 : qI := q_iadd (q_put 14 17 0 (q_goto 9))
noncomputable def B_X12_goesOn_9 : qI := q_load 1 0 (q_get 14 19 0 (q_const (0, 1) (q_cmpne 10 (q_load 1 0 (q_callv 14 f_X12_isSmall 1 (q_ifeq 10 (q_load 1 0 (q_dup (q_get 14 17 0 (q_const (0, 1) (q_iadd (q_put 14 17 0 (q_goto 9)))))))))))))
noncomputable def B_X12_goesOn_10 : qI := q_load 1 0 (q_get 14 19 0 (q_const (0, 2) (q_cmpne 13 (q_load 1 0 (q_callv 14 f_X12_isDigit 1 (q_ifeq 13 (q_load 1 0 (q_load 1 0 (q_get 14 20 0 (q_const (0, 10000) (q_cmple 11 (q_load 1 0 (q_get 14 20 0 (q_goto 12))))))))))))))
noncomputable def B_X12_goesOn_11 : qI := q_const (0, 10) (q_load 1 0 (q_get 14 20 0 (q_imul (q_load 1 0 (q_callv 14 f_X12_see 1 (q_iadd (q_const (0, 48) (q_isub (q_goto 12)))))))))
noncomputable def B_X12_goesOn_12 : qI := q_put 14 20 0 (q_load 1 0 (q_dup (q_get 14 17 0 (q_const (0, 1) (q_iadd (q_put 14 17 0 (q_goto 10)))))))
noncomputable def B_X12_goesOn_13 : qI := q_vret
noncomputable def P_X12_goesOn : qP := [B_X12_goesOn_0, B_X12_goesOn_1, B_X12_goesOn_2, B_X12_goesOn_3, B_X12_goesOn_4, B_X12_goesOn_5, B_X12_goesOn_6, B_X12_goesOn_7, B_X12_goesOn_8, B_X12_goesOn_9, B_X12_goesOn_10, B_X12_goesOn_11, B_X12_goesOn_12, B_X12_goesOn_13]
noncomputable def f_X12_goesOn : List qV → qA → Option qR := qa_fn P_X12_goesOn 1
def pc_X12_goesOn : Nat → Nat := fun j => [0, 18, 31, 52, 63, 74, 81, 106, 107, 111, 139, 172, 187, 203].getD j 0
noncomputable def B_X12_must_0 : qI := q_load 0 1 (q_ifne 1 (q_load 1 0 (q_get 14 21 0 (q_ifne 1 (q_load 1 0 (q_load 0 2 (q_put 14 21 0 (q_load 1 0 (q_load 1 0 (q_get 14 18 0 (q_put 14 22 0 (q_goto 1))))))))))))
noncomputable def B_X12_must_1 : qI := q_vret
noncomputable def P_X12_must : qP := [B_X12_must_0, B_X12_must_1]
noncomputable def f_X12_must : List qV → qA → Option qR := qa_fn P_X12_must 3
def pc_X12_must : Nat → Nat := fun j => [0, 24].getD j 0
noncomputable def B_X12_wordHere_0 : qI := q_const (0, 0) (q_store 0 1 (q_const (0, 0) (q_store 0 2 (q_goto 1))))
noncomputable def B_X12_wordHere_1 : qI := q_load 1 0 (q_get 14 19 0 (q_const (0, 1) (q_cmpne 8 (q_load 0 2 (q_const (0, 11) (q_cmpge 8 (q_const (0, 0) (q_store 0 3 (q_const (0, 1) (q_store 0 4 (q_goto 2)))))))))))
noncomputable def B_X12_wordHere_2 : qI := q_load 1 0 (q_get 14 23 1 (q_load 0 1 (q_load 0 3 (q_iadd (q_ald 102 0 (q_const (0, 32) (q_cmpeq 6 (q_load 0 4 (q_ifeq 4 (q_load 1 0 (q_get 14 18 0 (q_load 0 3 (q_iadd (q_load 1 0 (q_get 14 17 0 (q_cmpge 4 (q_load 1 0 (q_get 14 15 1 (q_load 1 0 (q_get 14 18 0 (q_load 0 3 (q_iadd (q_ald 102 0 (q_load 1 0 (q_get 14 23 1 (q_load 0 1 (q_load 0 3 (q_iadd (q_ald 102 0 (q_goto 3))))))))))))))))))))))))))))))
noncomputable def B_X12_wordHere_3 : qI := q_cmpne 4 (q_const (0, 1) (q_goto 5))
noncomputable def B_X12_wordHere_4 : qI := q_const (0, 0) (q_goto 5)
noncomputable def B_X12_wordHere_5 : qI := q_store 0 4 (q_iinc 3 (1) (q_goto 2))
noncomputable def B_X12_wordHere_6 : qI := q_load 0 4 (q_ifeq 7 (q_load 1 0 (q_get 14 17 0 (q_load 1 0 (q_get 14 18 0 (q_isub (q_load 0 3 (q_cmpne 7 (q_load 0 2 (q_ret 0))))))))))
noncomputable def B_X12_wordHere_7 : qI := q_load 0 1 (q_load 0 3 (q_const (0, 1) (q_iadd (q_iadd (q_store 0 1 (q_iinc 2 (1) (q_goto 1)))))))
noncomputable def B_X12_wordHere_8 : qI := q_const (0, -1) (q_ret 0)
noncomputable def P_X12_wordHere : qP := [B_X12_wordHere_0, B_X12_wordHere_1, B_X12_wordHere_2, B_X12_wordHere_3, B_X12_wordHere_4, B_X12_wordHere_5, B_X12_wordHere_6, B_X12_wordHere_7, B_X12_wordHere_8]
noncomputable def f_X12_wordHere : List qV → qA → Option qR := qa_fn P_X12_wordHere 5
def pc_X12_wordHere : Nat → Nat := fun j => [0, 4, 23, 73, 80, 81, 89, 109, 121].getD j 0
noncomputable def B_X12_reads2_0 : qI := q_load 1 0 (q_load 1 0 (q_get 14 19 0 (q_const (0, 2) (q_cmpne 1 (q_const (0, 1) (q_goto 2))))))
noncomputable def B_X12_reads2_1 : qI := q_const (0, 0) (q_goto 2)
noncomputable def B_X12_reads2_2 : qI := q_const (0, 1) (q_callv 14 f_X12_must 3 (q_load 1 0 (q_load 1 0 (q_get 14 21 0 (q_ifgt 3 (q_load 0 1 (q_load 0 2 (q_load 0 3 (q_call f_X12_in 3 (q_ifeq 4 (q_goto 3)))))))))))
noncomputable def B_X12_reads2_3 : qI := q_const (0, 1) (q_goto 5)
noncomputable def B_X12_reads2_4 : qI := q_const (0, 0) (q_goto 5)
noncomputable def B_X12_reads2_5 : qI := q_const (0, 2) (q_callv 14 f_X12_must 3 (q_load 1 0 (q_get 14 21 0 (q_ifle 6 (q_load 0 2 (q_ret 0))))))
noncomputable def B_X12_reads2_6 : qI := q_load 1 0 (q_callv 14 f_X12_goesOn 1 (q_load 0 1 (q_ret 0)))
noncomputable def P_X12_reads2 : qP := [B_X12_reads2_0, B_X12_reads2_1, B_X12_reads2_2, B_X12_reads2_3, B_X12_reads2_4, B_X12_reads2_5, B_X12_reads2_6]
noncomputable def f_X12_reads2 : List qV → qA → Option qR := qa_fn P_X12_reads2 4
def pc_X12_reads2 : Nat → Nat := fun j => [0, 13, 14, 35, 39, 40, 53].getD j 0
noncomputable def B_X12_takes_0 : qI := q_load 1 0 (q_load 1 0 (q_get 14 20 0 (q_load 0 1 (q_load 0 2 (q_callv 14 f_X12_reads2 4 (q_ret 0))))))
noncomputable def P_X12_takes : qP := [B_X12_takes_0]
noncomputable def f_X12_takes : List qV → qA → Option qR := qa_fn P_X12_takes 3
def pc_X12_takes : Nat → Nat := fun j => [0].getD j 0
noncomputable def B_X12_takesInt_0 : qI := q_load 1 0 (q_get 14 21 0 (q_ifne 1 (q_load 1 0 (q_get 14 19 0 (q_const (0, 4) (q_cmpne 1 (q_const (0, 1) (q_goto 2))))))))
noncomputable def B_X12_takesInt_1 : qI := q_const (0, 0) (q_goto 2)
noncomputable def B_X12_takesInt_2 : qI := q_store 0 1 (q_load 0 1 (q_ifeq 3 (q_load 1 0 (q_callv 14 f_X12_goesOn 1 (q_goto 3)))))
noncomputable def B_X12_takesInt_3 : qI := q_load 1 0 (q_load 0 1 (q_ifeq 4 (q_load 1 0 (q_get 14 20 0 (q_ineg (q_goto 5))))))
noncomputable def B_X12_takesInt_4 : qI := q_load 1 0 (q_get 14 20 0 (q_goto 5))
noncomputable def B_X12_takesInt_5 : qI := q_const (0, -99) (q_const (0, 99) (q_callv 14 f_X12_reads2 4 (q_ret 0)))
noncomputable def P_X12_takesInt : qP := [B_X12_takesInt_0, B_X12_takesInt_1, B_X12_takesInt_2, B_X12_takesInt_3, B_X12_takesInt_4, B_X12_takesInt_5]
noncomputable def f_X12_takesInt : List qV → qA → Option qR := qa_fn P_X12_takesInt 2
def pc_X12_takesInt : Nat → Nat := fun j => [0, 19, 20, 29, 42, 46].getD j 0
noncomputable def B_X12_readRest_0 : qI := q_load 0 2 (q_const (0, 2) (q_cmpeq 1 (q_load 0 2 (q_const (0, 3) (q_cmpeq 1 (q_load 0 2 (q_const (0, 4) (q_cmpeq 1 (q_load 0 2 (q_const (0, 5) (q_cmpne 2 (q_goto 1))))))))))))
noncomputable def B_X12_readRest_1 : qI := q_const (0, 1) (q_goto 3)
noncomputable def B_X12_readRest_2 : qI := q_const (0, 0) (q_goto 3)
noncomputable def B_X12_readRest_3 : qI := q_store 0 3 (q_load 1 0 (q_get 14 25 1 (q_load 0 1 (q_const (0, 1) (q_iadd (q_load 0 2 (q_const (0, 9) (q_cmpne 4 (q_load 1 0 (q_const (0, 1) (q_const (0, 99) (q_callv 14 f_X12_takes 3 (q_goto 6)))))))))))))
noncomputable def B_X12_readRest_4 : qI := q_load 0 3 (q_ifeq 5 (q_load 1 0 (q_const (0, 0) (q_const (0, 5) (q_callv 14 f_X12_takes 3 (q_goto 6))))))
noncomputable def B_X12_readRest_5 : qI := q_load 1 0 (q_const (0, 0) (q_const (0, 3) (q_callv 14 f_X12_takes 3 (q_goto 6))))
noncomputable def B_X12_readRest_6 : qI := q_ast 101 0 (q_load 0 2 (q_switch (0) [7, 8, 11, 12, 13] 14))
noncomputable def B_X12_readRest_7 : qI := q_load 1 0 (q_get 14 25 1 (q_load 0 1 (q_const (0, 2) (q_iadd (q_load 1 0 (q_const (0, 0) (q_const (0, 9) (q_callv 14 f_X12_takes 3 (q_ast 101 0 (q_load 1 0 (q_get 14 25 1 (q_load 0 1 (q_const (0, 3) (q_iadd (q_load 1 0 (q_const (0, 1) (q_const (0, 9) (q_callv 14 f_X12_takes 3 (q_ast 101 0 (q_load 1 0 (q_get 14 25 1 (q_load 0 1 (q_const (0, 4) (q_iadd (q_load 1 0 (q_callv 14 f_X12_takesInt 1 (q_ast 101 0 (q_goto 14))))))))))))))))))))))))))))
noncomputable def B_X12_readRest_8 : qI := q_load 1 0 (q_get 14 25 1 (q_load 0 1 (q_const (0, 2) (q_iadd (q_load 1 0 (q_get 14 21 0 (q_ifne 9 (q_load 1 0 (q_callv 14 f_X12_wordHere 1 (q_const (0, 10) (q_cmpne 9 (q_const (0, 1) (q_goto 10)))))))))))))
noncomputable def B_X12_readRest_9 : qI := q_const (0, 0) (q_goto 10)
noncomputable def B_X12_readRest_10 : qI := q_ast 101 0 (q_load 1 0 (q_get 14 25 1 (q_load 0 1 (q_const (0, 2) (q_iadd (q_ald 101 0 (q_const (0, 1) (q_cmpne 14 (q_load 1 0 (q_callv 14 f_X12_goesOn 1 (q_goto 14)))))))))))
noncomputable def B_X12_readRest_11 : qI := q_load 1 0 (q_get 14 25 1 (q_load 0 1 (q_const (0, 2) (q_iadd (q_load 1 0 (q_const (0, 1) (q_const (0, 99) (q_callv 14 f_X12_takes 3 (q_ast 101 0 (q_goto 14))))))))))
noncomputable def B_X12_readRest_12 : qI := q_load 1 0 (q_get 14 25 1 (q_load 0 1 (q_const (0, 2) (q_iadd (q_load 1 0 (q_const (0, 1) (q_const (0, 60) (q_callv 14 f_X12_takes 3 (q_ast 101 0 (q_goto 14))))))))))
noncomputable def B_X12_readRest_13 : qI := q_load 1 0 (q_get 14 25 1 (q_load 0 1 (q_const (0, 2) (q_iadd (q_load 1 0 (q_const (0, 0) (q_const (0, 3) (q_callv 14 f_X12_takes 3 (q_ast 101 0 (q_goto 14))))))))))
noncomputable def B_X12_readRest_14 : qI := q_vret
noncomputable def P_X12_readRest : qP := [B_X12_readRest_0, B_X12_readRest_1, B_X12_readRest_2, B_X12_readRest_3, B_X12_readRest_4, B_X12_readRest_5, B_X12_readRest_6, B_X12_readRest_7, B_X12_readRest_8, B_X12_readRest_9, B_X12_readRest_10, B_X12_readRest_11, B_X12_readRest_12, B_X12_readRest_13, B_X12_readRest_14]
noncomputable def f_X12_readRest : List qV → qA → Option qR := qa_fn P_X12_readRest 4
def pc_X12_readRest : Nat → Nat := fun j => [0, 20, 24, 25, 49, 62, 68, 104, 149, 176, 177, 197, 215, 233, 250].getD j 0
noncomputable def B_X12_readCommand_0 : qI := q_load 1 0 (q_callv 14 f_X12_wordHere 1 (q_store 0 1 (q_load 1 0 (q_load 0 1 (q_const (0, 0) (q_const (0, 9) (q_call f_X12_in 3 (q_const (0, 1) (q_callv 14 f_X12_must 3 (q_load 1 0 (q_load 1 0 (q_get 14 24 0 (q_const (0, 60) (q_cmpge 1 (q_const (0, 1) (q_goto 2))))))))))))))))
noncomputable def B_X12_readCommand_1 : qI := q_const (0, 0) (q_goto 2)
noncomputable def B_X12_readCommand_2 : qI := q_const (0, 3) (q_callv 14 f_X12_must 3 (q_load 1 0 (q_get 14 21 0 (q_ifle 3 (q_vret)))))
noncomputable def B_X12_readCommand_3 : qI := q_load 1 0 (q_callv 14 f_X12_goesOn 1 (q_const (0, 5) (q_load 1 0 (q_get 14 24 0 (q_imul (q_store 0 2 (q_load 1 0 (q_get 14 25 1 (q_load 0 2 (q_load 0 1 (q_ast 101 0 (q_load 1 0 (q_load 0 2 (q_load 0 1 (q_callv 14 f_X12_readRest 3 (q_load 1 0 (q_load 1 0 (q_get 14 19 0 (q_const (0, 3) (q_cmpne 4 (q_const (0, 1) (q_goto 5))))))))))))))))))))))
noncomputable def B_X12_readCommand_4 : qI := q_const (0, 0) (q_goto 5)
noncomputable def B_X12_readCommand_5 : qI := q_const (0, 1) (q_callv 14 f_X12_must 3 (q_load 1 0 (q_get 14 21 0 (q_ifne 6 (q_load 1 0 (q_callv 14 f_X12_goesOn 1 (q_load 1 0 (q_dup (q_get 14 24 0 (q_const (0, 1) (q_iadd (q_put 14 24 0 (q_goto 6)))))))))))))
noncomputable def B_X12_readCommand_6 : qI := q_vret
noncomputable def P_X12_readCommand : qP := [B_X12_readCommand_0, B_X12_readCommand_1, B_X12_readCommand_2, B_X12_readCommand_3, B_X12_readCommand_4, B_X12_readCommand_5, B_X12_readCommand_6]
noncomputable def f_X12_readCommand : List qV → qA → Option qR := qa_fn P_X12_readCommand 3
def pc_X12_readCommand : Nat → Nat := fun j => [0, 31, 32, 44, 81, 82, 107].getD j 0
noncomputable def B_X12_isDone_0 : qI := q_load 1 0 (q_get 14 25 1 (q_load 0 1 (q_const (0, 1) (q_iadd (q_ald 101 0 (q_store 0 2 (q_load 1 0 (q_get 14 25 1 (q_load 0 1 (q_const (0, 2) (q_iadd (q_ald 101 0 (q_store 0 3 (q_load 1 0 (q_get 14 25 1 (q_load 0 1 (q_ald 101 0 (q_switch (0) [1, 4, 9, 12, 15, 18, 21, 24, 27] 30))))))))))))))))))
noncomputable def B_X12_isDone_1 : qI := q_load 1 0 (q_load 0 2 (q_callv 14 f_X12_isBranch 2 (q_ifeq 2 (q_load 1 0 (q_load 0 2 (q_load 0 3 (q_load 1 0 (q_get 14 25 1 (q_load 0 1 (q_const (0, 3) (q_iadd (q_ald 101 0 (q_load 1 0 (q_get 14 25 1 (q_load 0 1 (q_const (0, 4) (q_iadd (q_ald 101 0 (q_callv 14 f_X12_appends 5 (q_iflt 2 (q_const (0, 1) (q_goto 3))))))))))))))))))))))
noncomputable def B_X12_isDone_2 : qI := q_const (0, 0) (q_goto 3)
noncomputable def B_X12_isDone_3 : qI := q_retz
noncomputable def B_X12_isDone_4 : qI := q_load 1 0 (q_load 0 2 (q_callv 14 f_X12_isBranch 2 (q_ifeq 7 (q_load 1 0 (q_load 0 2 (q_load 0 3 (q_const (0, 1) (q_cmpne 5 (q_const (0, 1) (q_goto 6))))))))))
noncomputable def B_X12_isDone_5 : qI := q_const (0, 0) (q_goto 6)
noncomputable def B_X12_isDone_6 : qI := q_callv 14 f_X12_joins 3 (q_iflt 7 (q_const (0, 1) (q_goto 8)))
noncomputable def B_X12_isDone_7 : qI := q_const (0, 0) (q_goto 8)
noncomputable def B_X12_isDone_8 : qI := q_retz
noncomputable def B_X12_isDone_9 : qI := q_load 1 0 (q_load 0 2 (q_callv 14 f_X12_isReader 2 (q_ifeq 10 (q_load 1 0 (q_load 0 2 (q_load 0 3 (q_callv 14 f_X12_reads 3 (q_iflt 10 (q_const (0, 1) (q_goto 11))))))))))
noncomputable def B_X12_isDone_10 : qI := q_const (0, 0) (q_goto 11)
noncomputable def B_X12_isDone_11 : qI := q_retz
noncomputable def B_X12_isDone_12 : qI := q_load 1 0 (q_load 0 2 (q_callv 14 f_X12_isReader 2 (q_ifeq 13 (q_load 0 3 (q_load 1 0 (q_get 14 1 1 (q_const (0, 5) (q_ald 101 0 (q_cmpgt 13 (q_load 1 0 (q_load 0 2 (q_load 0 3 (q_callv 14 f_X12_promises 3 (q_iflt 13 (q_const (0, 1) (q_goto 14))))))))))))))))
noncomputable def B_X12_isDone_13 : qI := q_const (0, 0) (q_goto 14)
noncomputable def B_X12_isDone_14 : qI := q_retz
noncomputable def B_X12_isDone_15 : qI := q_load 1 0 (q_load 0 2 (q_callv 14 f_X12_isReader 2 (q_ifeq 16 (q_load 1 0 (q_load 0 3 (q_callv 14 f_X12_isBranch 2 (q_ifeq 16 (q_load 1 0 (q_load 0 2 (q_load 0 3 (q_callv 14 f_X12_moves 3 (q_iflt 16 (q_const (0, 1) (q_goto 17))))))))))))))
noncomputable def B_X12_isDone_16 : qI := q_const (0, 0) (q_goto 17)
noncomputable def B_X12_isDone_17 : qI := q_retz
noncomputable def B_X12_isDone_18 : qI := q_load 1 0 (q_load 0 2 (q_callv 14 f_X12_isReader 2 (q_ifeq 19 (q_load 1 0 (q_load 0 2 (q_callv 14 f_X12_leaves 2 (q_iflt 19 (q_const (0, 1) (q_goto 20)))))))))
noncomputable def B_X12_isDone_19 : qI := q_const (0, 0) (q_goto 20)
noncomputable def B_X12_isDone_20 : qI := q_retz
noncomputable def B_X12_isDone_21 : qI := q_load 1 0 (q_load 0 2 (q_callv 14 f_X12_isBranch 2 (q_ifeq 22 (q_load 1 0 (q_load 0 2 (q_callv 14 f_X12_forks 2 (q_iflt 22 (q_const (0, 1) (q_goto 23)))))))))
noncomputable def B_X12_isDone_22 : qI := q_const (0, 0) (q_goto 23)
noncomputable def B_X12_isDone_23 : qI := q_retz
noncomputable def B_X12_isDone_24 : qI := q_load 1 0 (q_load 0 2 (q_callv 14 f_X12_isBranch 2 (q_ifeq 25 (q_load 1 0 (q_load 0 2 (q_callv 14 f_X12_merges 2 (q_iflt 25 (q_const (0, 1) (q_goto 26)))))))))
noncomputable def B_X12_isDone_25 : qI := q_const (0, 0) (q_goto 26)
noncomputable def B_X12_isDone_26 : qI := q_retz
noncomputable def B_X12_isDone_27 : qI := q_load 1 0 (q_load 0 2 (q_callv 14 f_X12_isBranch 2 (q_ifeq 28 (q_load 1 0 (q_load 0 2 (q_callv 14 f_X12_drops 2 (q_iflt 28 (q_const (0, 1) (q_goto 29)))))))))
noncomputable def B_X12_isDone_28 : qI := q_const (0, 0) (q_goto 29)
noncomputable def B_X12_isDone_29 : qI := q_retz
noncomputable def B_X12_isDone_30 : qI := q_load 1 0 (q_load 0 2 (q_callv 14 f_X12_passes 2 (q_iflt 31 (q_const (0, 1) (q_goto 32)))))
noncomputable def B_X12_isDone_31 : qI := q_const (0, 0) (q_goto 32)
noncomputable def B_X12_isDone_32 : qI := q_retz
noncomputable def P_X12_isDone : qP := [B_X12_isDone_0, B_X12_isDone_1, B_X12_isDone_2, B_X12_isDone_3, B_X12_isDone_4, B_X12_isDone_5, B_X12_isDone_6, B_X12_isDone_7, B_X12_isDone_8, B_X12_isDone_9, B_X12_isDone_10, B_X12_isDone_11, B_X12_isDone_12, B_X12_isDone_13, B_X12_isDone_14, B_X12_isDone_15, B_X12_isDone_16, B_X12_isDone_17, B_X12_isDone_18, B_X12_isDone_19, B_X12_isDone_20, B_X12_isDone_21, B_X12_isDone_22, B_X12_isDone_23, B_X12_isDone_24, B_X12_isDone_25, B_X12_isDone_26, B_X12_isDone_27, B_X12_isDone_28, B_X12_isDone_29, B_X12_isDone_30, B_X12_isDone_31, B_X12_isDone_32]
noncomputable def f_X12_isDone : List qV → qA → Option qR := qa_fn P_X12_isDone 4
def pc_X12_isDone : Nat → Nat := fun j => [0, 76, 113, 114, 115, 134, 135, 145, 146, 147, 168, 169, 170, 201, 202, 203, 232, 233, 234, 254, 255, 256, 276, 277, 278, 298, 299, 300, 320, 321, 322, 334, 335].getD j 0
noncomputable def B_X12_runScript_0 : qI := q_load 1 0 (q_const (0, 0) (q_put 14 17 0 (q_load 1 0 (q_const (0, 0) (q_put 14 21 0 (q_load 1 0 (q_const (0, -1) (q_put 14 22 0 (q_load 1 0 (q_const (0, 0) (q_put 14 24 0 (q_load 1 0 (q_callv 14 f_X12_goesOn 1 (q_goto 1))))))))))))))
noncomputable def B_X12_runScript_1 : qI := q_load 1 0 (q_get 14 21 0 (q_ifne 2 (q_load 1 0 (q_get 14 19 0 (q_ifeq 2 (q_load 1 0 (q_callv 14 f_X12_readCommand 1 (q_goto 1))))))))
noncomputable def B_X12_runScript_2 : qI := q_load 1 0 (q_const (0, 0) (q_put 14 16 0 (q_load 1 0 (q_const (0, 0) (q_put 14 0 0 (q_load 1 0 (q_get 14 21 0 (q_ifle 3 (q_const (0, -1) (q_ret 0))))))))))
noncomputable def B_X12_runScript_3 : qI := q_const (0, 0) (q_store 0 1 (q_goto 4))
noncomputable def B_X12_runScript_4 : qI := q_load 0 1 (q_load 1 0 (q_get 14 24 0 (q_cmpge 5 (q_load 1 0 (q_const (0, 5) (q_load 0 1 (q_imul (q_callv 14 f_X12_isDone 2 (q_ifeq 5 (q_iinc 1 (1) (q_goto 4)))))))))))
noncomputable def B_X12_runScript_5 : qI := q_load 0 1 (q_ret 0)
noncomputable def P_X12_runScript : qP := [B_X12_runScript_0, B_X12_runScript_1, B_X12_runScript_2, B_X12_runScript_3, B_X12_runScript_4, B_X12_runScript_5]
noncomputable def f_X12_runScript : List qV → qA → Option qR := qa_fn P_X12_runScript 2
def pc_X12_runScript : Nat → Nat := fun j => [0, 24, 45, 64, 66, 90].getD j 0
noncomputable def B_X12_errorCode_0 : qI := q_load 1 0 (q_const (0, 0) (q_put 14 0 0 (q_load 1 0 (q_get 14 21 0 (q_ret 0)))))
noncomputable def P_X12_errorCode : qP := [B_X12_errorCode_0]
noncomputable def f_X12_errorCode : List qV → qA → Option qR := qa_fn P_X12_errorCode 1
def pc_X12_errorCode : Nat → Nat := fun j => [0].getD j 0
noncomputable def B_X12_errorPosition_0 : qI := q_load 1 0 (q_const (0, 0) (q_put 14 0 0 (q_load 1 0 (q_get 14 22 0 (q_ret 0)))))
noncomputable def P_X12_errorPosition : qP := [B_X12_errorPosition_0]
noncomputable def f_X12_errorPosition : List qV → qA → Option qR := qa_fn P_X12_errorPosition 1
def pc_X12_errorPosition : Nat → Nat := fun j => [0].getD j 0
noncomputable def B_X12_prints_0 : qI := q_load 1 0 (q_get 14 26 1 (q_load 1 0 (q_get 14 27 0 (q_load 0 1 (q_i2b (q_bast (q_load 1 0 (q_dup (q_get 14 27 0 (q_const (0, 1) (q_iadd (q_put 14 27 0 (q_vret)))))))))))))
noncomputable def P_X12_prints : qP := [B_X12_prints_0]
noncomputable def f_X12_prints : List qV → qA → Option qR := qa_fn P_X12_prints 2
def pc_X12_prints : Nat → Nat := fun j => [0].getD j 0
noncomputable def B_X12_printsNumber_0 : qI := q_const (0, 1) (q_store 0 2 (q_goto 1))
noncomputable def B_X12_printsNumber_1 : qI := q_load 0 1 (q_load 0 2 (q_idiv (q_const (0, 10) (q_cmplt 2 (q_load 0 2 (q_const (0, 10) (q_imul (q_store 0 2 (q_goto 1)))))))))
noncomputable def B_X12_printsNumber_2 : qI := q_load 0 2 (q_ifle 3 (q_load 1 0 (q_const (0, 48) (q_load 0 1 (q_load 0 2 (q_idiv (q_const (0, 10) (q_irem (q_iadd (q_callv 14 f_X12_prints 2 (q_load 0 2 (q_const (0, 10) (q_idiv (q_store 0 2 (q_goto 2)))))))))))))))
noncomputable def B_X12_printsNumber_3 : qI := q_vret
noncomputable def P_X12_printsNumber : qP := [B_X12_printsNumber_0, B_X12_printsNumber_1, B_X12_printsNumber_2, B_X12_printsNumber_3]
noncomputable def f_X12_printsNumber : List qV → qA → Option qR := qa_fn P_X12_printsNumber 3
def pc_X12_printsNumber : Nat → Nat := fun j => [0, 2, 18, 43].getD j 0
noncomputable def B_X12_printsReader_0 : qI := q_load 1 0 (q_const (0, 32) (q_callv 14 f_X12_prints 2 (q_load 1 0 (q_const (0, 114) (q_callv 14 f_X12_prints 2 (q_load 1 0 (q_load 0 1 (q_callv 14 f_X12_printsNumber 2 (q_load 1 0 (q_const (0, 61) (q_callv 14 f_X12_prints 2 (q_load 1 0 (q_load 1 0 (q_load 0 1 (q_const (0, 2) (q_callv 14 f_X12_ofReader 3 (q_callv 14 f_X12_printsNumber 2 (q_load 1 0 (q_load 0 1 (q_callv 14 f_X12_hasPromise 2 (q_ifeq 2 (q_load 1 0 (q_const (0, 112) (q_callv 14 f_X12_prints 2 (q_load 1 0 (q_load 1 0 (q_load 0 1 (q_const (0, 4) (q_callv 14 f_X12_ofReader 3 (q_goto 1))))))))))))))))))))))))))))))
noncomputable def B_X12_printsReader_1 : qI := q_callv 14 f_X12_printsNumber 2 (q_goto 2)
noncomputable def B_X12_printsReader_2 : qI := q_load 1 0 (q_load 0 1 (q_const (0, 9) (q_callv 14 f_X12_ofReader 3 (q_ifle 3 (q_load 1 0 (q_const (0, 33) (q_callv 14 f_X12_prints 2 (q_goto 3))))))))
noncomputable def B_X12_printsReader_3 : qI := q_vret
noncomputable def P_X12_printsReader : qP := [B_X12_printsReader_0, B_X12_printsReader_1, B_X12_printsReader_2, B_X12_printsReader_3]
noncomputable def f_X12_printsReader : List qV → qA → Option qR := qa_fn P_X12_printsReader 2
def pc_X12_printsReader : Nat → Nat := fun j => [0, 54, 57, 73].getD j 0
noncomputable def B_X12_write_0 : qI := q_load 1 0 (q_load 1 0 (q_load 0 1 (q_callv 14 f_X12_isBranch 2 (q_ifeq 1 (q_const (0, 0) (q_goto 2))))))
noncomputable def B_X12_write_1 : qI := q_const (0, 1) (q_goto 2)
noncomputable def B_X12_write_2 : qI := q_put 14 0 0 (q_load 1 0 (q_get 14 0 0 (q_ifle 3 (q_const (0, 0) (q_ret 0)))))
noncomputable def B_X12_write_3 : qI := q_load 1 0 (q_const (0, 0) (q_put 14 27 0 (q_load 1 0 (q_load 0 1 (q_callv 14 f_X12_printsNumber 2 (q_load 1 0 (q_const (0, 58) (q_callv 14 f_X12_prints 2 (q_load 1 0 (q_load 1 0 (q_load 0 1 (q_const (0, 1) (q_callv 14 f_X12_ofBranch 3 (q_callv 14 f_X12_printsNumber 2 (q_load 1 0 (q_const (0, 45) (q_callv 14 f_X12_prints 2 (q_load 1 0 (q_load 1 0 (q_load 0 1 (q_callv 14 f_X12_endOf 2 (q_callv 14 f_X12_printsNumber 2 (q_const (0, 0) (q_store 0 2 (q_goto 4)))))))))))))))))))))))))
noncomputable def B_X12_write_4 : qI := q_load 0 2 (q_const (0, 6) (q_cmpge 6 (q_load 1 0 (q_load 0 2 (q_load 0 1 (q_callv 14 f_X12_isIn 3 (q_ifeq 5 (q_load 1 0 (q_load 0 2 (q_callv 14 f_X12_printsReader 2 (q_goto 5)))))))))))
noncomputable def B_X12_write_5 : qI := q_iinc 2 (1) (q_goto 4)
noncomputable def B_X12_write_6 : qI := q_load 1 0 (q_get 14 27 0 (q_ret 0))
noncomputable def P_X12_write : qP := [B_X12_write_0, B_X12_write_1, B_X12_write_2, B_X12_write_3, B_X12_write_4, B_X12_write_5, B_X12_write_6]
noncomputable def f_X12_write : List qV → qA → Option qR := qa_fn P_X12_write 3
def pc_X12_write : Nat → Nat := fun j => [0, 13, 14, 26, 69, 89, 95].getD j 0
noncomputable def B_X12_output_0 : qI := q_load 1 0 (q_const (0, 0) (q_put 14 0 0 (q_load 0 1 (q_const (0, 0) (q_load 1 0 (q_get 14 27 0 (q_const (0, 1) (q_isub (q_call f_X12_in 3 (q_ifeq 1 (q_load 1 0 (q_get 14 26 1 (q_load 0 1 (q_ald 102 0 (q_goto 2)))))))))))))))
noncomputable def B_X12_output_1 : qI := q_const (0, -1) (q_goto 2)
noncomputable def B_X12_output_2 : qI := q_ret 0
noncomputable def P_X12_output : qP := [B_X12_output_0, B_X12_output_1, B_X12_output_2]
noncomputable def f_X12_output : List qV → qA → Option qR := qa_fn P_X12_output 2
def pc_X12_output : Nat → Nat := fun j => [0, 28, 29].getD j 0
noncomputable def B_X12_undo_0 : qI := q_load 1 0 (q_const (0, 0) (q_put 14 0 0 (q_load 1 0 (q_get 14 5 0 (q_ifne 1 (q_const (0, -1) (q_ret 0)))))))
noncomputable def B_X12_undo_1 : qI := q_load 1 0 (q_dup (q_get 14 5 0 (q_const (0, 1) (q_isub (q_put 14 5 0 (q_load 1 0 (q_get 14 4 1 (q_const (0, 14622) (q_load 1 0 (q_get 14 5 0 (q_imul (q_load 1 0 (q_get 14 2 1 (q_const (0, 0) (q_call f_X12_copies 4 (q_load 1 0 (q_get 14 5 0 (q_ret 0))))))))))))))))))
noncomputable def P_X12_undo : qP := [B_X12_undo_0, B_X12_undo_1]
noncomputable def f_X12_undo : List qV → qA → Option qR := qa_fn P_X12_undo 1
def pc_X12_undo : Nat → Nat := fun j => [0, 14].getD j 0
noncomputable def B_X12_save_0 : qI := q_load 1 0 (q_load 0 1 (q_const (0, 0) (q_const (0, 1) (q_call f_X12_in 3 (q_ifeq 1 (q_const (0, 0) (q_goto 2)))))))
noncomputable def B_X12_save_1 : qI := q_const (0, 1) (q_goto 2)
noncomputable def B_X12_save_2 : qI := q_put 14 0 0 (q_load 1 0 (q_get 14 0 0 (q_ifle 3 (q_vret))))
noncomputable def B_X12_save_3 : qI := q_load 1 0 (q_get 14 2 1 (q_const (0, 0) (q_load 1 0 (q_get 14 6 1 (q_const (0, 14622) (q_load 0 1 (q_imul (q_call f_X12_copies 4 (q_load 1 0 (q_get 14 7 1 (q_load 0 1 (q_const (0, 1) (q_zast (q_vret))))))))))))))
noncomputable def P_X12_save : qP := [B_X12_save_0, B_X12_save_1, B_X12_save_2, B_X12_save_3]
noncomputable def f_X12_save : List qV → qA → Option qR := qa_fn P_X12_save 2
def pc_X12_save : Nat → Nat := fun j => [0, 14, 15, 26].getD j 0
noncomputable def B_X12_restore_0 : qI := q_load 1 0 (q_load 0 1 (q_const (0, 0) (q_const (0, 1) (q_call f_X12_in 3 (q_ifne 1 (q_const (0, 1) (q_goto 3)))))))
noncomputable def B_X12_restore_1 : qI := q_load 1 0 (q_get 14 7 1 (q_load 0 1 (q_ald 103 0 (q_ifeq 2 (q_const (0, 0) (q_goto 3))))))
noncomputable def B_X12_restore_2 : qI := q_const (0, 2) (q_goto 3)
noncomputable def B_X12_restore_3 : qI := q_put 14 0 0 (q_load 1 0 (q_get 14 0 0 (q_ifle 4 (q_vret))))
noncomputable def B_X12_restore_4 : qI := q_load 1 0 (q_get 14 6 1 (q_const (0, 14622) (q_load 0 1 (q_imul (q_load 1 0 (q_get 14 2 1 (q_const (0, 0) (q_call f_X12_copies 4 (q_load 1 0 (q_const (0, 0) (q_put 14 5 0 (q_vret))))))))))))
noncomputable def P_X12_restore : qP := [B_X12_restore_0, B_X12_restore_1, B_X12_restore_2, B_X12_restore_3, B_X12_restore_4]
noncomputable def f_X12_restore : List qV → qA → Option qR := qa_fn P_X12_restore 2
def pc_X12_restore : Nat → Nat := fun j => [0, 14, 27, 28, 39].getD j 0
noncomputable def B_L_appendText_0 : qI := q_load 1 2 (q_const (0, 0) (q_load 1 0 (q_load 0 1 (q_callh 13 f_X11_appendText 2 [(3, 1, 3)] (q_i2l (q_ast 105 2 (q_goto 2)))))))
noncomputable def B_L_appendText_1 : qI := q_const (0, 1) (q_ret 0)
noncomputable def B_L_appendText_2 : qI := q_const (0, 0) (q_ret 0)
noncomputable def P_L_appendText : qP := [B_L_appendText_0, B_L_appendText_1, B_L_appendText_2]
noncomputable def f_L_appendText : List qV → qA → Option qR := qa_fn P_L_appendText 4
def pc_L_appendText : Nat → Nat := fun j => [0, 13, 15].getD j 0
noncomputable def B_L_truncateText_0 : qI := q_load 1 2 (q_const (0, 0) (q_load 1 0 (q_load 0 1 (q_callh 13 f_X11_truncateText 2 [(2, 1, 3)] (q_i2l (q_ast 105 2 (q_goto 2)))))))
noncomputable def B_L_truncateText_1 : qI := q_const (0, 1) (q_ret 0)
noncomputable def B_L_truncateText_2 : qI := q_const (0, 0) (q_ret 0)
noncomputable def P_L_truncateText : qP := [B_L_truncateText_0, B_L_truncateText_1, B_L_truncateText_2]
noncomputable def f_L_truncateText : List qV → qA → Option qR := qa_fn P_L_truncateText 4
def pc_L_truncateText : Nat → Nat := fun j => [0, 13, 15].getD j 0
noncomputable def B_L_set_0 : qI := q_load 1 3 (q_const (0, 0) (q_load 1 0 (q_load 0 1 (q_load 0 2 (q_callh 13 f_X11_set 3 [(2, 1, 4)] (q_i2l (q_ast 105 2 (q_goto 2))))))))
noncomputable def B_L_set_1 : qI := q_const (0, 1) (q_ret 0)
noncomputable def B_L_set_2 : qI := q_const (0, 0) (q_ret 0)
noncomputable def P_L_set : qP := [B_L_set_0, B_L_set_1, B_L_set_2]
noncomputable def f_L_set : List qV → qA → Option qR := qa_fn P_L_set 5
def pc_L_set : Nat → Nat := fun j => [0, 15, 17].getD j 0
noncomputable def B_L_count_0 : qI := q_load 1 2 (q_const (0, 0) (q_load 1 0 (q_load 0 1 (q_callh 13 f_X11_count 2 [(2, 1, 3)] (q_i2l (q_ast 105 2 (q_goto 2)))))))
noncomputable def B_L_count_1 : qI := q_const (0, 1) (q_ret 0)
noncomputable def B_L_count_2 : qI := q_const (0, 0) (q_ret 0)
noncomputable def P_L_count : qP := [B_L_count_0, B_L_count_1, B_L_count_2]
noncomputable def f_L_count : List qV → qA → Option qR := qa_fn P_L_count 4
def pc_L_count : Nat → Nat := fun j => [0, 13, 15].getD j 0
noncomputable def B_L_branch_0 : qI := q_load 1 3 (q_const (0, 0) (q_load 1 0 (q_load 0 1 (q_load 0 2 (q_callh 13 f_X11_branch 3 [(1, 1, 4), (2, 2, 4)] (q_i2l (q_ast 105 2 (q_goto 3))))))))
noncomputable def B_L_branch_1 : qI := q_const (0, 1) (q_ret 0)
noncomputable def B_L_branch_2 : qI := q_const (0, 2) (q_ret 0)
noncomputable def B_L_branch_3 : qI := q_const (0, 0) (q_ret 0)
noncomputable def P_L_branch : qP := [B_L_branch_0, B_L_branch_1, B_L_branch_2, B_L_branch_3]
noncomputable def f_L_branch : List qV → qA → Option qR := qa_fn P_L_branch 5
def pc_L_branch : Nat → Nat := fun j => [0, 15, 19, 21].getD j 0
noncomputable def B_L_entry_0 : qI := q_load 1 4 (q_const (0, 0) (q_load 1 0 (q_load 0 1 (q_load 0 2 (q_load 0 3 (q_callh 13 f_X11_entry 4 [(1, 1, 5), (2, 2, 5)] (q_i2l (q_ast 105 2 (q_goto 3)))))))))
noncomputable def B_L_entry_1 : qI := q_const (0, 1) (q_ret 0)
noncomputable def B_L_entry_2 : qI := q_const (0, 2) (q_ret 0)
noncomputable def B_L_entry_3 : qI := q_const (0, 0) (q_ret 0)
noncomputable def P_L_entry : qP := [B_L_entry_0, B_L_entry_1, B_L_entry_2, B_L_entry_3]
noncomputable def f_L_entry : List qV → qA → Option qR := qa_fn P_L_entry 6
def pc_L_entry : Nat → Nat := fun j => [0, 17, 21, 23].getD j 0
noncomputable def B_L_reader_0 : qI := q_load 1 3 (q_const (0, 0) (q_load 1 0 (q_load 0 1 (q_load 0 2 (q_callh 13 f_X11_reader 3 [(1, 1, 4), (2, 2, 4)] (q_i2l (q_ast 105 2 (q_goto 3))))))))
noncomputable def B_L_reader_1 : qI := q_const (0, 1) (q_ret 0)
noncomputable def B_L_reader_2 : qI := q_const (0, 2) (q_ret 0)
noncomputable def B_L_reader_3 : qI := q_const (0, 0) (q_ret 0)
noncomputable def P_L_reader : qP := [B_L_reader_0, B_L_reader_1, B_L_reader_2, B_L_reader_3]
noncomputable def f_L_reader : List qV → qA → Option qR := qa_fn P_L_reader 5
def pc_L_reader : Nat → Nat := fun j => [0, 15, 19, 21].getD j 0
noncomputable def B_L_debt_0 : qI := q_load 1 3 (q_const (0, 0) (q_load 1 0 (q_load 0 1 (q_load 0 2 (q_callh 13 f_X11_debt 3 [(1, 1, 4), (2, 2, 4)] (q_i2l (q_ast 105 2 (q_goto 3))))))))
noncomputable def B_L_debt_1 : qI := q_const (0, 1) (q_ret 0)
noncomputable def B_L_debt_2 : qI := q_const (0, 2) (q_ret 0)
noncomputable def B_L_debt_3 : qI := q_const (0, 0) (q_ret 0)
noncomputable def P_L_debt : qP := [B_L_debt_0, B_L_debt_1, B_L_debt_2, B_L_debt_3]
noncomputable def f_L_debt : List qV → qA → Option qR := qa_fn P_L_debt 5
def pc_L_debt : Nat → Nat := fun j => [0, 15, 19, 21].getD j 0
noncomputable def B_L_debtOf_0 : qI := q_load 1 3 (q_const (0, 0) (q_load 1 0 (q_load 0 1 (q_load 0 2 (q_callh 13 f_X11_debtOf 3 [(1, 1, 4), (2, 2, 4)] (q_i2l (q_ast 105 2 (q_goto 3))))))))
noncomputable def B_L_debtOf_1 : qI := q_const (0, 1) (q_ret 0)
noncomputable def B_L_debtOf_2 : qI := q_const (0, 2) (q_ret 0)
noncomputable def B_L_debtOf_3 : qI := q_const (0, 0) (q_ret 0)
noncomputable def P_L_debtOf : qP := [B_L_debtOf_0, B_L_debtOf_1, B_L_debtOf_2, B_L_debtOf_3]
noncomputable def f_L_debtOf : List qV → qA → Option qR := qa_fn P_L_debtOf 5
def pc_L_debtOf : Nat → Nat := fun j => [0, 15, 19, 21].getD j 0
noncomputable def B_L_item_0 : qI := q_load 1 3 (q_const (0, 0) (q_load 1 0 (q_load 0 1 (q_load 0 2 (q_callh 13 f_X11_item 3 [(1, 1, 4), (2, 2, 4)] (q_i2l (q_ast 105 2 (q_goto 3))))))))
noncomputable def B_L_item_1 : qI := q_const (0, 1) (q_ret 0)
noncomputable def B_L_item_2 : qI := q_const (0, 2) (q_ret 0)
noncomputable def B_L_item_3 : qI := q_const (0, 0) (q_ret 0)
noncomputable def P_L_item : qP := [B_L_item_0, B_L_item_1, B_L_item_2, B_L_item_3]
noncomputable def f_L_item : List qV → qA → Option qR := qa_fn P_L_item 5
def pc_L_item : Nat → Nat := fun j => [0, 15, 19, 21].getD j 0
noncomputable def B_L_account_0 : qI := q_load 1 2 (q_const (0, 0) (q_load 1 0 (q_load 0 1 (q_callh 13 f_X11_account 2 [(2, 1, 3)] (q_i2l (q_ast 105 2 (q_goto 2)))))))
noncomputable def B_L_account_1 : qI := q_const (0, 1) (q_ret 0)
noncomputable def B_L_account_2 : qI := q_const (0, 0) (q_ret 0)
noncomputable def P_L_account : qP := [B_L_account_0, B_L_account_1, B_L_account_2]
noncomputable def f_L_account : List qV → qA → Option qR := qa_fn P_L_account 4
def pc_L_account : Nat → Nat := fun j => [0, 13, 15].getD j 0
noncomputable def B_L_append_0 : qI := q_load 1 5 (q_const (0, 0) (q_load 1 0 (q_load 0 1 (q_load 0 2 (q_load 0 3 (q_load 0 4 (q_callh 13 f_X11_append 5 [(1, 1, 6), (2, 2, 6)] (q_i2l (q_ast 105 2 (q_goto 3))))))))))
noncomputable def B_L_append_1 : qI := q_const (0, 1) (q_ret 0)
noncomputable def B_L_append_2 : qI := q_const (0, 2) (q_ret 0)
noncomputable def B_L_append_3 : qI := q_const (0, 0) (q_ret 0)
noncomputable def P_L_append : qP := [B_L_append_0, B_L_append_1, B_L_append_2, B_L_append_3]
noncomputable def f_L_append : List qV → qA → Option qR := qa_fn P_L_append 7
def pc_L_append : Nat → Nat := fun j => [0, 19, 23, 25].getD j 0
noncomputable def B_L_join_0 : qI := q_load 1 3 (q_const (0, 0) (q_load 1 0 (q_load 0 1 (q_load 0 2 (q_callh 13 f_X11_join 3 [(1, 1, 4)] (q_i2l (q_ast 105 2 (q_goto 2))))))))
noncomputable def B_L_join_1 : qI := q_const (0, 1) (q_ret 0)
noncomputable def B_L_join_2 : qI := q_const (0, 0) (q_ret 0)
noncomputable def P_L_join : qP := [B_L_join_0, B_L_join_1, B_L_join_2]
noncomputable def f_L_join : List qV → qA → Option qR := qa_fn P_L_join 5
def pc_L_join : Nat → Nat := fun j => [0, 15, 17].getD j 0
noncomputable def B_L_leave_0 : qI := q_load 1 2 (q_const (0, 0) (q_load 1 0 (q_load 0 1 (q_callh 13 f_X11_leave 2 [(1, 1, 3)] (q_i2l (q_ast 105 2 (q_goto 2)))))))
noncomputable def B_L_leave_1 : qI := q_const (0, 1) (q_ret 0)
noncomputable def B_L_leave_2 : qI := q_const (0, 0) (q_ret 0)
noncomputable def P_L_leave : qP := [B_L_leave_0, B_L_leave_1, B_L_leave_2]
noncomputable def f_L_leave : List qV → qA → Option qR := qa_fn P_L_leave 4
def pc_L_leave : Nat → Nat := fun j => [0, 13, 15].getD j 0
noncomputable def B_L_read_0 : qI := q_load 1 3 (q_const (0, 0) (q_load 1 0 (q_load 0 1 (q_load 0 2 (q_callh 13 f_X11_read 3 [(1, 1, 4), (2, 2, 4)] (q_i2l (q_ast 105 2 (q_goto 3))))))))
noncomputable def B_L_read_1 : qI := q_const (0, 1) (q_ret 0)
noncomputable def B_L_read_2 : qI := q_const (0, 2) (q_ret 0)
noncomputable def B_L_read_3 : qI := q_const (0, 0) (q_ret 0)
noncomputable def P_L_read : qP := [B_L_read_0, B_L_read_1, B_L_read_2, B_L_read_3]
noncomputable def f_L_read : List qV → qA → Option qR := qa_fn P_L_read 5
def pc_L_read : Nat → Nat := fun j => [0, 15, 19, 21].getD j 0
noncomputable def B_L_promise_0 : qI := q_load 1 3 (q_const (0, 0) (q_load 1 0 (q_load 0 1 (q_load 0 2 (q_callh 13 f_X11_promise 3 [(1, 1, 4), (2, 2, 4)] (q_i2l (q_ast 105 2 (q_goto 3))))))))
noncomputable def B_L_promise_1 : qI := q_const (0, 1) (q_ret 0)
noncomputable def B_L_promise_2 : qI := q_const (0, 2) (q_ret 0)
noncomputable def B_L_promise_3 : qI := q_const (0, 0) (q_ret 0)
noncomputable def P_L_promise : qP := [B_L_promise_0, B_L_promise_1, B_L_promise_2, B_L_promise_3]
noncomputable def f_L_promise : List qV → qA → Option qR := qa_fn P_L_promise 5
def pc_L_promise : Nat → Nat := fun j => [0, 15, 19, 21].getD j 0
noncomputable def B_L_move_0 : qI := q_load 1 3 (q_const (0, 0) (q_load 1 0 (q_load 0 1 (q_load 0 2 (q_callh 13 f_X11_move 3 [(1, 1, 4)] (q_i2l (q_ast 105 2 (q_goto 2))))))))
noncomputable def B_L_move_1 : qI := q_const (0, 1) (q_ret 0)
noncomputable def B_L_move_2 : qI := q_const (0, 0) (q_ret 0)
noncomputable def P_L_move : qP := [B_L_move_0, B_L_move_1, B_L_move_2]
noncomputable def f_L_move : List qV → qA → Option qR := qa_fn P_L_move 5
def pc_L_move : Nat → Nat := fun j => [0, 15, 17].getD j 0
noncomputable def B_L_fork_0 : qI := q_load 1 2 (q_const (0, 0) (q_load 1 0 (q_load 0 1 (q_callh 13 f_X11_fork 2 [(1, 1, 3)] (q_i2l (q_ast 105 2 (q_goto 2)))))))
noncomputable def B_L_fork_1 : qI := q_const (0, 1) (q_ret 0)
noncomputable def B_L_fork_2 : qI := q_const (0, 0) (q_ret 0)
noncomputable def P_L_fork : qP := [B_L_fork_0, B_L_fork_1, B_L_fork_2]
noncomputable def f_L_fork : List qV → qA → Option qR := qa_fn P_L_fork 4
def pc_L_fork : Nat → Nat := fun j => [0, 13, 15].getD j 0
noncomputable def B_L_merge_0 : qI := q_load 1 2 (q_const (0, 0) (q_load 1 0 (q_load 0 1 (q_callh 13 f_X11_merge 2 [(1, 1, 3)] (q_i2l (q_ast 105 2 (q_goto 2)))))))
noncomputable def B_L_merge_1 : qI := q_const (0, 1) (q_ret 0)
noncomputable def B_L_merge_2 : qI := q_const (0, 0) (q_ret 0)
noncomputable def P_L_merge : qP := [B_L_merge_0, B_L_merge_1, B_L_merge_2]
noncomputable def f_L_merge : List qV → qA → Option qR := qa_fn P_L_merge 4
def pc_L_merge : Nat → Nat := fun j => [0, 13, 15].getD j 0
noncomputable def B_L_drop_0 : qI := q_load 1 2 (q_const (0, 0) (q_load 1 0 (q_load 0 1 (q_callh 13 f_X11_drop 2 [(1, 1, 3)] (q_i2l (q_ast 105 2 (q_goto 2)))))))
noncomputable def B_L_drop_1 : qI := q_const (0, 1) (q_ret 0)
noncomputable def B_L_drop_2 : qI := q_const (0, 0) (q_ret 0)
noncomputable def P_L_drop : qP := [B_L_drop_0, B_L_drop_1, B_L_drop_2]
noncomputable def f_L_drop : List qV → qA → Option qR := qa_fn P_L_drop 4
def pc_L_drop : Nat → Nat := fun j => [0, 13, 15].getD j 0
noncomputable def B_L_pass_0 : qI := q_load 1 2 (q_const (0, 0) (q_load 1 0 (q_load 0 1 (q_callh 13 f_X11_pass 2 [(2, 1, 3)] (q_i2l (q_ast 105 2 (q_goto 2)))))))
noncomputable def B_L_pass_1 : qI := q_const (0, 1) (q_ret 0)
noncomputable def B_L_pass_2 : qI := q_const (0, 0) (q_ret 0)
noncomputable def P_L_pass : qP := [B_L_pass_0, B_L_pass_1, B_L_pass_2]
noncomputable def f_L_pass : List qV → qA → Option qR := qa_fn P_L_pass 4
def pc_L_pass : Nat → Nat := fun j => [0, 13, 15].getD j 0
noncomputable def B_L_common_0 : qI := q_load 1 3 (q_const (0, 0) (q_load 1 0 (q_load 0 1 (q_load 0 2 (q_callh 13 f_X11_common 3 [(1, 1, 4)] (q_i2l (q_ast 105 2 (q_goto 2))))))))
noncomputable def B_L_common_1 : qI := q_const (0, 1) (q_ret 0)
noncomputable def B_L_common_2 : qI := q_const (0, 0) (q_ret 0)
noncomputable def P_L_common : qP := [B_L_common_0, B_L_common_1, B_L_common_2]
noncomputable def f_L_common : List qV → qA → Option qR := qa_fn P_L_common 5
def pc_L_common : Nat → Nat := fun j => [0, 15, 17].getD j 0
noncomputable def B_L_holder_0 : qI := q_load 1 2 (q_const (0, 0) (q_load 1 0 (q_load 0 1 (q_callh 13 f_X11_holder 2 [(1, 1, 3)] (q_i2l (q_ast 105 2 (q_goto 2)))))))
noncomputable def B_L_holder_1 : qI := q_const (0, 1) (q_ret 0)
noncomputable def B_L_holder_2 : qI := q_const (0, 0) (q_ret 0)
noncomputable def P_L_holder : qP := [B_L_holder_0, B_L_holder_1, B_L_holder_2]
noncomputable def f_L_holder : List qV → qA → Option qR := qa_fn P_L_holder 4
def pc_L_holder : Nat → Nat := fun j => [0, 13, 15].getD j 0
noncomputable def B_L_slowest_0 : qI := q_load 1 2 (q_const (0, 0) (q_load 1 0 (q_load 0 1 (q_callh 13 f_X11_slowest 2 [(1, 1, 3)] (q_i2l (q_ast 105 2 (q_goto 2)))))))
noncomputable def B_L_slowest_1 : qI := q_const (0, 1) (q_ret 0)
noncomputable def B_L_slowest_2 : qI := q_const (0, 0) (q_ret 0)
noncomputable def P_L_slowest : qP := [B_L_slowest_0, B_L_slowest_1, B_L_slowest_2]
noncomputable def f_L_slowest : List qV → qA → Option qR := qa_fn P_L_slowest 4
def pc_L_slowest : Nat → Nat := fun j => [0, 13, 15].getD j 0
noncomputable def B_L_cause_0 : qI := q_load 1 2 (q_const (0, 0) (q_load 1 0 (q_load 0 1 (q_callh 13 f_X11_cause 2 [(1, 1, 3)] (q_i2l (q_ast 105 2 (q_goto 2)))))))
noncomputable def B_L_cause_1 : qI := q_const (0, 1) (q_ret 0)
noncomputable def B_L_cause_2 : qI := q_const (0, 0) (q_ret 0)
noncomputable def P_L_cause : qP := [B_L_cause_0, B_L_cause_1, B_L_cause_2]
noncomputable def f_L_cause : List qV → qA → Option qR := qa_fn P_L_cause 4
def pc_L_cause : Nat → Nat := fun j => [0, 13, 15].getD j 0
noncomputable def B_L_latest_0 : qI := q_load 1 3 (q_const (0, 0) (q_load 1 0 (q_load 0 1 (q_load 0 2 (q_callh 13 f_X11_latest 3 [(1, 1, 4), (2, 2, 4)] (q_i2l (q_ast 105 2 (q_goto 3))))))))
noncomputable def B_L_latest_1 : qI := q_const (0, 1) (q_ret 0)
noncomputable def B_L_latest_2 : qI := q_const (0, 2) (q_ret 0)
noncomputable def B_L_latest_3 : qI := q_const (0, 0) (q_ret 0)
noncomputable def P_L_latest : qP := [B_L_latest_0, B_L_latest_1, B_L_latest_2, B_L_latest_3]
noncomputable def f_L_latest : List qV → qA → Option qR := qa_fn P_L_latest 5
def pc_L_latest : Nat → Nat := fun j => [0, 15, 19, 21].getD j 0
noncomputable def B_L_mean_0 : qI := q_load 1 2 (q_const (0, 0) (q_load 1 0 (q_load 0 1 (q_callh 13 f_X11_mean 2 [(1, 1, 3)] (q_ast 107 4 (q_goto 2))))))
noncomputable def B_L_mean_1 : qI := q_const (0, 1) (q_ret 0)
noncomputable def B_L_mean_2 : qI := q_const (0, 0) (q_ret 0)
noncomputable def P_L_mean : qP := [B_L_mean_0, B_L_mean_1, B_L_mean_2]
noncomputable def f_L_mean : List qV → qA → Option qR := qa_fn P_L_mean 4
def pc_L_mean : Nat → Nat := fun j => [0, 12, 14].getD j 0
noncomputable def B_L_trust_0 : qI := q_load 1 2 (q_const (0, 0) (q_load 1 0 (q_load 0 1 (q_callh 13 f_X11_trust 2 [(1, 1, 3)] (q_f2d (q_ast 107 4 (q_goto 2)))))))
noncomputable def B_L_trust_1 : qI := q_const (0, 1) (q_ret 0)
noncomputable def B_L_trust_2 : qI := q_const (0, 0) (q_ret 0)
noncomputable def P_L_trust : qP := [B_L_trust_0, B_L_trust_1, B_L_trust_2]
noncomputable def f_L_trust : List qV → qA → Option qR := qa_fn P_L_trust 4
def pc_L_trust : Nat → Nat := fun j => [0, 13, 15].getD j 0
noncomputable def B_L_ahead_0 : qI := q_load 1 3 (q_const (0, 0) (q_load 1 0 (q_load 0 1 (q_load 0 2 (q_callh 13 f_X11_ahead 3 [(2, 1, 4)] (q_i2l (q_ast 105 2 (q_goto 2))))))))
noncomputable def B_L_ahead_1 : qI := q_const (0, 1) (q_ret 0)
noncomputable def B_L_ahead_2 : qI := q_const (0, 0) (q_ret 0)
noncomputable def P_L_ahead : qP := [B_L_ahead_0, B_L_ahead_1, B_L_ahead_2]
noncomputable def f_L_ahead : List qV → qA → Option qR := qa_fn P_L_ahead 5
def pc_L_ahead : Nat → Nat := fun j => [0, 15, 17].getD j 0
noncomputable def B_L_losesIn_0 : qI := q_load 1 3 (q_const (0, 0) (q_load 1 0 (q_load 0 1 (q_load 0 2 (q_callh 13 f_X11_losesIn 3 [(1, 1, 4), (2, 2, 4)] (q_i2l (q_ast 105 2 (q_goto 3))))))))
noncomputable def B_L_losesIn_1 : qI := q_const (0, 1) (q_ret 0)
noncomputable def B_L_losesIn_2 : qI := q_const (0, 2) (q_ret 0)
noncomputable def B_L_losesIn_3 : qI := q_const (0, 0) (q_ret 0)
noncomputable def P_L_losesIn : qP := [B_L_losesIn_0, B_L_losesIn_1, B_L_losesIn_2, B_L_losesIn_3]
noncomputable def f_L_losesIn : List qV → qA → Option qR := qa_fn P_L_losesIn 5
def pc_L_losesIn : Nat → Nat := fun j => [0, 15, 19, 21].getD j 0
noncomputable def B_L_wouldCut_0 : qI := q_load 1 3 (q_const (0, 0) (q_load 1 0 (q_load 0 1 (q_load 0 2 (q_callh 13 f_X11_wouldCut 3 [(1, 1, 4), (2, 2, 4)] (q_i2l (q_ast 105 2 (q_goto 3))))))))
noncomputable def B_L_wouldCut_1 : qI := q_const (0, 1) (q_ret 0)
noncomputable def B_L_wouldCut_2 : qI := q_const (0, 2) (q_ret 0)
noncomputable def B_L_wouldCut_3 : qI := q_const (0, 0) (q_ret 0)
noncomputable def P_L_wouldCut : qP := [B_L_wouldCut_0, B_L_wouldCut_1, B_L_wouldCut_2, B_L_wouldCut_3]
noncomputable def f_L_wouldCut : List qV → qA → Option qR := qa_fn P_L_wouldCut 5
def pc_L_wouldCut : Nat → Nat := fun j => [0, 15, 19, 21].getD j 0
noncomputable def B_L_unread_0 : qI := q_load 1 3 (q_const (0, 0) (q_load 1 0 (q_load 0 1 (q_load 0 2 (q_callh 13 f_X11_unread 3 [(1, 1, 4), (2, 2, 4)] (q_i2l (q_ast 105 2 (q_goto 3))))))))
noncomputable def B_L_unread_1 : qI := q_const (0, 1) (q_ret 0)
noncomputable def B_L_unread_2 : qI := q_const (0, 2) (q_ret 0)
noncomputable def B_L_unread_3 : qI := q_const (0, 0) (q_ret 0)
noncomputable def P_L_unread : qP := [B_L_unread_0, B_L_unread_1, B_L_unread_2, B_L_unread_3]
noncomputable def f_L_unread : List qV → qA → Option qR := qa_fn P_L_unread 5
def pc_L_unread : Nat → Nat := fun j => [0, 15, 19, 21].getD j 0
noncomputable def B_L_promised_0 : qI := q_load 1 2 (q_const (0, 0) (q_load 1 0 (q_load 0 1 (q_callh 13 f_X11_promised 2 [(1, 1, 3)] (q_i2l (q_ast 105 2 (q_goto 2)))))))
noncomputable def B_L_promised_1 : qI := q_const (0, 1) (q_ret 0)
noncomputable def B_L_promised_2 : qI := q_const (0, 0) (q_ret 0)
noncomputable def P_L_promised : qP := [B_L_promised_0, B_L_promised_1, B_L_promised_2]
noncomputable def f_L_promised : List qV → qA → Option qR := qa_fn P_L_promised 4
def pc_L_promised : Nat → Nat := fun j => [0, 13, 15].getD j 0
noncomputable def B_L_age_0 : qI := q_load 1 2 (q_const (0, 0) (q_load 1 0 (q_load 0 1 (q_callh 13 f_X11_age 2 [(1, 1, 3)] (q_i2l (q_ast 105 2 (q_goto 2)))))))
noncomputable def B_L_age_1 : qI := q_const (0, 1) (q_ret 0)
noncomputable def B_L_age_2 : qI := q_const (0, 0) (q_ret 0)
noncomputable def P_L_age : qP := [B_L_age_0, B_L_age_1, B_L_age_2]
noncomputable def f_L_age : List qV → qA → Option qR := qa_fn P_L_age 4
def pc_L_age : Nat → Nat := fun j => [0, 13, 15].getD j 0
noncomputable def B_L_write_0 : qI := q_load 1 2 (q_const (0, 0) (q_load 1 0 (q_load 0 1 (q_callh 13 f_X11_write 2 [(1, 1, 3)] (q_i2l (q_ast 105 2 (q_goto 2)))))))
noncomputable def B_L_write_1 : qI := q_const (0, 1) (q_ret 0)
noncomputable def B_L_write_2 : qI := q_const (0, 0) (q_ret 0)
noncomputable def P_L_write : qP := [B_L_write_0, B_L_write_1, B_L_write_2]
noncomputable def f_L_write : List qV → qA → Option qR := qa_fn P_L_write 4
def pc_L_write : Nat → Nat := fun j => [0, 13, 15].getD j 0
noncomputable def B_L_save_0 : qI := q_load 1 0 (q_load 0 1 (q_callh 13 f_X11_save 2 [(2, 1, 2)] (q_goto 2)))
noncomputable def B_L_save_1 : qI := q_const (0, 1) (q_ret 0)
noncomputable def B_L_save_2 : qI := q_const (0, 0) (q_ret 0)
noncomputable def P_L_save : qP := [B_L_save_0, B_L_save_1, B_L_save_2]
noncomputable def f_L_save : List qV → qA → Option qR := qa_fn P_L_save 3
def pc_L_save : Nat → Nat := fun j => [0, 9, 11].getD j 0
noncomputable def B_L_restore_0 : qI := q_load 1 0 (q_load 0 1 (q_callh 13 f_X11_restore 2 [(2, 1, 2), (3, 2, 2)] (q_goto 3)))
noncomputable def B_L_restore_1 : qI := q_const (0, 1) (q_ret 0)
noncomputable def B_L_restore_2 : qI := q_const (0, 2) (q_ret 0)
noncomputable def B_L_restore_3 : qI := q_const (0, 0) (q_ret 0)
noncomputable def P_L_restore : qP := [B_L_restore_0, B_L_restore_1, B_L_restore_2, B_L_restore_3]
noncomputable def f_L_restore : List qV → qA → Option qR := qa_fn P_L_restore 3
def pc_L_restore : Nat → Nat := fun j => [0, 9, 12, 14].getD j 0
noncomputable def B_L_law_0 (L : Nat) (xs : Nat → Int32) : qI := q_new 13 8 z_X11 (q_dup (q_callv 13 f_X11_init 1 (q_store 1 1 (q_new 14 28 z_X12 (q_dup (q_callv 14 f_X12_init 1 (q_store 1 2 (q_const (0, 1) (q_newa 105 0 (q_store 1 3 (q_const (0, 1) (q_newa 107 0 (q_store 1 4 (q_const (0, 0) (q_store 0 5 (q_goto 1))))))))))))))))
noncomputable def B_L_law_1 (L : Nat) (xs : Nat → Int32) : qI := q_load 0 5 (q_load 1 0 (q_xlen L (q_const (0, 5) (q_isub (q_cmpgt 140 (q_load 1 0 (q_load 0 5 (q_xld L xs (q_const (0, 63) (q_iand (q_switch (0) [2, 5, 8, 9, 10, 11, 15, 18, 22, 26, 30, 34, 38, 42, 45, 49, 56, 59, 63, 67, 71, 74, 77, 80, 83, 87, 90, 93, 96, 100, 104, 108, 112, 116, 120, 124, 127, 130, 133, 134, 135, 137] 139)))))))))))
noncomputable def B_L_law_2 (L : Nat) (xs : Nat → Int32) : qI := q_load 1 1 (q_load 1 0 (q_load 0 5 (q_const (0, 1) (q_iadd (q_xld L xs (q_load 1 3 (q_call f_L_appendText 3 (q_store 0 6 (q_load 1 2 (q_load 1 0 (q_load 0 5 (q_const (0, 1) (q_iadd (q_xld L xs (q_callv 14 f_X12_appendText 2 (q_store 0 7 (q_load 1 2 (q_callv 14 f_X12_thrown 1 (q_load 0 6 (q_cmpeq 3 (q_const (0, 0) (q_retz))))))))))))))))))))))
noncomputable def B_L_law_3 (L : Nat) (xs : Nat → Int32) : qI := q_load 0 6 (q_ifne 4 (q_load 1 3 (q_const (0, 0) (q_ald 105 2 (q_load 0 7 (q_i2l (q_lcmp (q_ifeq 4 (q_const (0, 0) (q_retz))))))))))
noncomputable def B_L_law_4 (L : Nat) (xs : Nat → Int32) : qI := q_goto 139
noncomputable def B_L_law_5 (L : Nat) (xs : Nat → Int32) : qI := q_load 1 1 (q_load 1 0 (q_load 0 5 (q_const (0, 1) (q_iadd (q_xld L xs (q_load 1 3 (q_call f_L_truncateText 3 (q_store 0 6 (q_load 1 2 (q_load 1 0 (q_load 0 5 (q_const (0, 1) (q_iadd (q_xld L xs (q_callv 14 f_X12_truncateText 2 (q_store 0 7 (q_load 1 2 (q_callv 14 f_X12_thrown 1 (q_load 0 6 (q_cmpeq 6 (q_const (0, 0) (q_retz))))))))))))))))))))))
noncomputable def B_L_law_6 (L : Nat) (xs : Nat → Int32) : qI := q_load 0 6 (q_ifne 7 (q_load 1 3 (q_const (0, 0) (q_ald 105 2 (q_load 0 7 (q_i2l (q_lcmp (q_ifeq 7 (q_const (0, 0) (q_retz))))))))))
noncomputable def B_L_law_7 (L : Nat) (xs : Nat → Int32) : qI := q_goto 139
noncomputable def B_L_law_8 (L : Nat) (xs : Nat → Int32) : qI := q_load 1 1 (q_callv 13 f_X11_runScript 1 (q_load 1 2 (q_callv 14 f_X12_runScript 1 (q_cmpeq 139 (q_const (0, 0) (q_retz))))))
noncomputable def B_L_law_9 (L : Nat) (xs : Nat → Int32) : qI := q_load 1 1 (q_callv 13 f_X11_errorCode 1 (q_load 1 2 (q_callv 14 f_X12_errorCode 1 (q_cmpeq 139 (q_const (0, 0) (q_retz))))))
noncomputable def B_L_law_10 (L : Nat) (xs : Nat → Int32) : qI := q_load 1 1 (q_callv 13 f_X11_errorPosition 1 (q_load 1 2 (q_callv 14 f_X12_errorPosition 1 (q_cmpeq 139 (q_const (0, 0) (q_retz))))))
noncomputable def B_L_law_11 (L : Nat) (xs : Nat → Int32) : qI := q_load 1 1 (q_load 1 0 (q_load 0 5 (q_const (0, 1) (q_iadd (q_xld L xs (q_load 1 0 (q_load 0 5 (q_const (0, 2) (q_iadd (q_xld L xs (q_load 1 3 (q_call f_L_set 4 (q_store 0 6 (q_load 1 2 (q_load 1 0 (q_load 0 5 (q_const (0, 1) (q_iadd (q_xld L xs (q_load 1 0 (q_load 0 5 (q_const (0, 2) (q_iadd (q_xld L xs (q_callv 14 f_X12_set 3 (q_store 0 7 (q_load 1 2 (q_callv 14 f_X12_thrown 1 (q_load 0 6 (q_goto 12))))))))))))))))))))))))))))))
noncomputable def B_L_law_12 (L : Nat) (xs : Nat → Int32) : qI := q_cmpeq 13 (q_const (0, 0) (q_retz))
noncomputable def B_L_law_13 (L : Nat) (xs : Nat → Int32) : qI := q_load 0 6 (q_ifne 14 (q_load 1 3 (q_const (0, 0) (q_ald 105 2 (q_load 0 7 (q_i2l (q_lcmp (q_ifeq 14 (q_const (0, 0) (q_retz))))))))))
noncomputable def B_L_law_14 (L : Nat) (xs : Nat → Int32) : qI := q_goto 139
noncomputable def B_L_law_15 (L : Nat) (xs : Nat → Int32) : qI := q_load 1 1 (q_load 1 0 (q_load 0 5 (q_const (0, 1) (q_iadd (q_xld L xs (q_load 1 3 (q_call f_L_count 3 (q_store 0 6 (q_load 1 2 (q_load 1 0 (q_load 0 5 (q_const (0, 1) (q_iadd (q_xld L xs (q_callv 14 f_X12_count 2 (q_store 0 7 (q_load 1 2 (q_callv 14 f_X12_thrown 1 (q_load 0 6 (q_cmpeq 16 (q_const (0, 0) (q_retz))))))))))))))))))))))
noncomputable def B_L_law_16 (L : Nat) (xs : Nat → Int32) : qI := q_load 0 6 (q_ifne 17 (q_load 1 3 (q_const (0, 0) (q_ald 105 2 (q_load 0 7 (q_i2l (q_lcmp (q_ifeq 17 (q_const (0, 0) (q_retz))))))))))
noncomputable def B_L_law_17 (L : Nat) (xs : Nat → Int32) : qI := q_goto 139
noncomputable def B_L_law_18 (L : Nat) (xs : Nat → Int32) : qI := q_load 1 1 (q_load 1 0 (q_load 0 5 (q_const (0, 1) (q_iadd (q_xld L xs (q_load 1 0 (q_load 0 5 (q_const (0, 2) (q_iadd (q_xld L xs (q_load 1 3 (q_call f_L_branch 4 (q_store 0 6 (q_load 1 2 (q_load 1 0 (q_load 0 5 (q_const (0, 1) (q_iadd (q_xld L xs (q_load 1 0 (q_load 0 5 (q_const (0, 2) (q_iadd (q_xld L xs (q_callv 14 f_X12_branch 3 (q_store 0 7 (q_load 1 2 (q_callv 14 f_X12_thrown 1 (q_load 0 6 (q_goto 19))))))))))))))))))))))))))))))
noncomputable def B_L_law_19 (L : Nat) (xs : Nat → Int32) : qI := q_cmpeq 20 (q_const (0, 0) (q_retz))
noncomputable def B_L_law_20 (L : Nat) (xs : Nat → Int32) : qI := q_load 0 6 (q_ifne 21 (q_load 1 3 (q_const (0, 0) (q_ald 105 2 (q_load 0 7 (q_i2l (q_lcmp (q_ifeq 21 (q_const (0, 0) (q_retz))))))))))
noncomputable def B_L_law_21 (L : Nat) (xs : Nat → Int32) : qI := q_goto 139
noncomputable def B_L_law_22 (L : Nat) (xs : Nat → Int32) : qI := q_load 1 1 (q_load 1 0 (q_load 0 5 (q_const (0, 1) (q_iadd (q_xld L xs (q_load 1 0 (q_load 0 5 (q_const (0, 2) (q_iadd (q_xld L xs (q_load 1 0 (q_load 0 5 (q_const (0, 3) (q_iadd (q_xld L xs (q_load 1 3 (q_call f_L_entry 5 (q_store 0 6 (q_load 1 2 (q_load 1 0 (q_load 0 5 (q_const (0, 1) (q_iadd (q_xld L xs (q_load 1 0 (q_load 0 5 (q_const (0, 2) (q_iadd (q_xld L xs (q_goto 23))))))))))))))))))))))))))))))
noncomputable def B_L_law_23 (L : Nat) (xs : Nat → Int32) : qI := q_load 1 0 (q_load 0 5 (q_const (0, 3) (q_iadd (q_xld L xs (q_callv 14 f_X12_entry 4 (q_store 0 7 (q_load 1 2 (q_callv 14 f_X12_thrown 1 (q_load 0 6 (q_cmpeq 24 (q_const (0, 0) (q_retz))))))))))))
noncomputable def B_L_law_24 (L : Nat) (xs : Nat → Int32) : qI := q_load 0 6 (q_ifne 25 (q_load 1 3 (q_const (0, 0) (q_ald 105 2 (q_load 0 7 (q_i2l (q_lcmp (q_ifeq 25 (q_const (0, 0) (q_retz))))))))))
noncomputable def B_L_law_25 (L : Nat) (xs : Nat → Int32) : qI := q_goto 139
noncomputable def B_L_law_26 (L : Nat) (xs : Nat → Int32) : qI := q_load 1 1 (q_load 1 0 (q_load 0 5 (q_const (0, 1) (q_iadd (q_xld L xs (q_load 1 0 (q_load 0 5 (q_const (0, 2) (q_iadd (q_xld L xs (q_load 1 3 (q_call f_L_reader 4 (q_store 0 6 (q_load 1 2 (q_load 1 0 (q_load 0 5 (q_const (0, 1) (q_iadd (q_xld L xs (q_load 1 0 (q_load 0 5 (q_const (0, 2) (q_iadd (q_xld L xs (q_callv 14 f_X12_reader 3 (q_store 0 7 (q_load 1 2 (q_callv 14 f_X12_thrown 1 (q_load 0 6 (q_goto 27))))))))))))))))))))))))))))))
noncomputable def B_L_law_27 (L : Nat) (xs : Nat → Int32) : qI := q_cmpeq 28 (q_const (0, 0) (q_retz))
noncomputable def B_L_law_28 (L : Nat) (xs : Nat → Int32) : qI := q_load 0 6 (q_ifne 29 (q_load 1 3 (q_const (0, 0) (q_ald 105 2 (q_load 0 7 (q_i2l (q_lcmp (q_ifeq 29 (q_const (0, 0) (q_retz))))))))))
noncomputable def B_L_law_29 (L : Nat) (xs : Nat → Int32) : qI := q_goto 139
noncomputable def B_L_law_30 (L : Nat) (xs : Nat → Int32) : qI := q_load 1 1 (q_load 1 0 (q_load 0 5 (q_const (0, 1) (q_iadd (q_xld L xs (q_load 1 0 (q_load 0 5 (q_const (0, 2) (q_iadd (q_xld L xs (q_load 1 3 (q_call f_L_debt 4 (q_store 0 6 (q_load 1 2 (q_load 1 0 (q_load 0 5 (q_const (0, 1) (q_iadd (q_xld L xs (q_load 1 0 (q_load 0 5 (q_const (0, 2) (q_iadd (q_xld L xs (q_callv 14 f_X12_debt 3 (q_store 0 7 (q_load 1 2 (q_callv 14 f_X12_thrown 1 (q_load 0 6 (q_goto 31))))))))))))))))))))))))))))))
noncomputable def B_L_law_31 (L : Nat) (xs : Nat → Int32) : qI := q_cmpeq 32 (q_const (0, 0) (q_retz))
noncomputable def B_L_law_32 (L : Nat) (xs : Nat → Int32) : qI := q_load 0 6 (q_ifne 33 (q_load 1 3 (q_const (0, 0) (q_ald 105 2 (q_load 0 7 (q_i2l (q_lcmp (q_ifeq 33 (q_const (0, 0) (q_retz))))))))))
noncomputable def B_L_law_33 (L : Nat) (xs : Nat → Int32) : qI := q_goto 139
noncomputable def B_L_law_34 (L : Nat) (xs : Nat → Int32) : qI := q_load 1 1 (q_load 1 0 (q_load 0 5 (q_const (0, 1) (q_iadd (q_xld L xs (q_load 1 0 (q_load 0 5 (q_const (0, 2) (q_iadd (q_xld L xs (q_load 1 3 (q_call f_L_debtOf 4 (q_store 0 6 (q_load 1 2 (q_load 1 0 (q_load 0 5 (q_const (0, 1) (q_iadd (q_xld L xs (q_load 1 0 (q_load 0 5 (q_const (0, 2) (q_iadd (q_xld L xs (q_callv 14 f_X12_debtOf 3 (q_store 0 7 (q_load 1 2 (q_callv 14 f_X12_thrown 1 (q_load 0 6 (q_goto 35))))))))))))))))))))))))))))))
noncomputable def B_L_law_35 (L : Nat) (xs : Nat → Int32) : qI := q_cmpeq 36 (q_const (0, 0) (q_retz))
noncomputable def B_L_law_36 (L : Nat) (xs : Nat → Int32) : qI := q_load 0 6 (q_ifne 37 (q_load 1 3 (q_const (0, 0) (q_ald 105 2 (q_load 0 7 (q_i2l (q_lcmp (q_ifeq 37 (q_const (0, 0) (q_retz))))))))))
noncomputable def B_L_law_37 (L : Nat) (xs : Nat → Int32) : qI := q_goto 139
noncomputable def B_L_law_38 (L : Nat) (xs : Nat → Int32) : qI := q_load 1 1 (q_load 1 0 (q_load 0 5 (q_const (0, 1) (q_iadd (q_xld L xs (q_load 1 0 (q_load 0 5 (q_const (0, 2) (q_iadd (q_xld L xs (q_load 1 3 (q_call f_L_item 4 (q_store 0 6 (q_load 1 2 (q_load 1 0 (q_load 0 5 (q_const (0, 1) (q_iadd (q_xld L xs (q_load 1 0 (q_load 0 5 (q_const (0, 2) (q_iadd (q_xld L xs (q_callv 14 f_X12_item 3 (q_store 0 7 (q_load 1 2 (q_callv 14 f_X12_thrown 1 (q_load 0 6 (q_goto 39))))))))))))))))))))))))))))))
noncomputable def B_L_law_39 (L : Nat) (xs : Nat → Int32) : qI := q_cmpeq 40 (q_const (0, 0) (q_retz))
noncomputable def B_L_law_40 (L : Nat) (xs : Nat → Int32) : qI := q_load 0 6 (q_ifne 41 (q_load 1 3 (q_const (0, 0) (q_ald 105 2 (q_load 0 7 (q_i2l (q_lcmp (q_ifeq 41 (q_const (0, 0) (q_retz))))))))))
noncomputable def B_L_law_41 (L : Nat) (xs : Nat → Int32) : qI := q_goto 139
noncomputable def B_L_law_42 (L : Nat) (xs : Nat → Int32) : qI := q_load 1 1 (q_load 1 0 (q_load 0 5 (q_const (0, 1) (q_iadd (q_xld L xs (q_load 1 3 (q_call f_L_account 3 (q_store 0 6 (q_load 1 2 (q_load 1 0 (q_load 0 5 (q_const (0, 1) (q_iadd (q_xld L xs (q_callv 14 f_X12_account 2 (q_store 0 7 (q_load 1 2 (q_callv 14 f_X12_thrown 1 (q_load 0 6 (q_cmpeq 43 (q_const (0, 0) (q_retz))))))))))))))))))))))
noncomputable def B_L_law_43 (L : Nat) (xs : Nat → Int32) : qI := q_load 0 6 (q_ifne 44 (q_load 1 3 (q_const (0, 0) (q_ald 105 2 (q_load 0 7 (q_i2l (q_lcmp (q_ifeq 44 (q_const (0, 0) (q_retz))))))))))
noncomputable def B_L_law_44 (L : Nat) (xs : Nat → Int32) : qI := q_goto 139
noncomputable def B_L_law_45 (L : Nat) (xs : Nat → Int32) : qI := q_load 1 1 (q_load 1 0 (q_load 0 5 (q_const (0, 1) (q_iadd (q_xld L xs (q_load 1 0 (q_load 0 5 (q_const (0, 2) (q_iadd (q_xld L xs (q_load 1 0 (q_load 0 5 (q_const (0, 3) (q_iadd (q_xld L xs (q_load 1 0 (q_load 0 5 (q_const (0, 4) (q_iadd (q_xld L xs (q_load 1 3 (q_call f_L_append 6 (q_store 0 6 (q_load 1 2 (q_load 1 0 (q_load 0 5 (q_const (0, 1) (q_iadd (q_xld L xs (q_goto 46))))))))))))))))))))))))))))))
noncomputable def B_L_law_46 (L : Nat) (xs : Nat → Int32) : qI := q_load 1 0 (q_load 0 5 (q_const (0, 2) (q_iadd (q_xld L xs (q_load 1 0 (q_load 0 5 (q_const (0, 3) (q_iadd (q_xld L xs (q_load 1 0 (q_load 0 5 (q_const (0, 4) (q_iadd (q_xld L xs (q_callv 14 f_X12_append 5 (q_store 0 7 (q_load 1 2 (q_callv 14 f_X12_thrown 1 (q_load 0 6 (q_cmpeq 47 (q_const (0, 0) (q_retz))))))))))))))))))))))
noncomputable def B_L_law_47 (L : Nat) (xs : Nat → Int32) : qI := q_load 0 6 (q_ifne 48 (q_load 1 3 (q_const (0, 0) (q_ald 105 2 (q_load 0 7 (q_i2l (q_lcmp (q_ifeq 48 (q_const (0, 0) (q_retz))))))))))
noncomputable def B_L_law_48 (L : Nat) (xs : Nat → Int32) : qI := q_goto 139
noncomputable def B_L_law_49 (L : Nat) (xs : Nat → Int32) : qI := q_load 1 1 (q_load 1 0 (q_load 0 5 (q_const (0, 1) (q_iadd (q_xld L xs (q_load 1 0 (q_load 0 5 (q_const (0, 2) (q_iadd (q_xld L xs (q_ifeq 50 (q_const (0, 1) (q_goto 51)))))))))))))
noncomputable def B_L_law_50 (L : Nat) (xs : Nat → Int32) : qI := q_const (0, 0) (q_goto 51)
noncomputable def B_L_law_51 (L : Nat) (xs : Nat → Int32) : qI := q_load 1 3 (q_call f_L_join 4 (q_store 0 6 (q_load 1 2 (q_load 1 0 (q_load 0 5 (q_const (0, 1) (q_iadd (q_xld L xs (q_load 1 0 (q_load 0 5 (q_const (0, 2) (q_iadd (q_xld L xs (q_ifeq 52 (q_const (0, 1) (q_goto 53))))))))))))))))
noncomputable def B_L_law_52 (L : Nat) (xs : Nat → Int32) : qI := q_const (0, 0) (q_goto 53)
noncomputable def B_L_law_53 (L : Nat) (xs : Nat → Int32) : qI := q_callv 14 f_X12_join 3 (q_store 0 7 (q_load 1 2 (q_callv 14 f_X12_thrown 1 (q_load 0 6 (q_cmpeq 54 (q_const (0, 0) (q_retz)))))))
noncomputable def B_L_law_54 (L : Nat) (xs : Nat → Int32) : qI := q_load 0 6 (q_ifne 55 (q_load 1 3 (q_const (0, 0) (q_ald 105 2 (q_load 0 7 (q_i2l (q_lcmp (q_ifeq 55 (q_const (0, 0) (q_retz))))))))))
noncomputable def B_L_law_55 (L : Nat) (xs : Nat → Int32) : qI := q_goto 139
noncomputable def B_L_law_56 (L : Nat) (xs : Nat → Int32) : qI := q_load 1 1 (q_load 1 0 (q_load 0 5 (q_const (0, 1) (q_iadd (q_xld L xs (q_load 1 3 (q_call f_L_leave 3 (q_store 0 6 (q_load 1 2 (q_load 1 0 (q_load 0 5 (q_const (0, 1) (q_iadd (q_xld L xs (q_callv 14 f_X12_leave 2 (q_store 0 7 (q_load 1 2 (q_callv 14 f_X12_thrown 1 (q_load 0 6 (q_cmpeq 57 (q_const (0, 0) (q_retz))))))))))))))))))))))
noncomputable def B_L_law_57 (L : Nat) (xs : Nat → Int32) : qI := q_load 0 6 (q_ifne 58 (q_load 1 3 (q_const (0, 0) (q_ald 105 2 (q_load 0 7 (q_i2l (q_lcmp (q_ifeq 58 (q_const (0, 0) (q_retz))))))))))
noncomputable def B_L_law_58 (L : Nat) (xs : Nat → Int32) : qI := q_goto 139
noncomputable def B_L_law_59 (L : Nat) (xs : Nat → Int32) : qI := q_load 1 1 (q_load 1 0 (q_load 0 5 (q_const (0, 1) (q_iadd (q_xld L xs (q_load 1 0 (q_load 0 5 (q_const (0, 2) (q_iadd (q_xld L xs (q_load 1 3 (q_call f_L_read 4 (q_store 0 6 (q_load 1 2 (q_load 1 0 (q_load 0 5 (q_const (0, 1) (q_iadd (q_xld L xs (q_load 1 0 (q_load 0 5 (q_const (0, 2) (q_iadd (q_xld L xs (q_callv 14 f_X12_read 3 (q_store 0 7 (q_load 1 2 (q_callv 14 f_X12_thrown 1 (q_load 0 6 (q_goto 60))))))))))))))))))))))))))))))
noncomputable def B_L_law_60 (L : Nat) (xs : Nat → Int32) : qI := q_cmpeq 61 (q_const (0, 0) (q_retz))
noncomputable def B_L_law_61 (L : Nat) (xs : Nat → Int32) : qI := q_load 0 6 (q_ifne 62 (q_load 1 3 (q_const (0, 0) (q_ald 105 2 (q_load 0 7 (q_i2l (q_lcmp (q_ifeq 62 (q_const (0, 0) (q_retz))))))))))
noncomputable def B_L_law_62 (L : Nat) (xs : Nat → Int32) : qI := q_goto 139
noncomputable def B_L_law_63 (L : Nat) (xs : Nat → Int32) : qI := q_load 1 1 (q_load 1 0 (q_load 0 5 (q_const (0, 1) (q_iadd (q_xld L xs (q_load 1 0 (q_load 0 5 (q_const (0, 2) (q_iadd (q_xld L xs (q_load 1 3 (q_call f_L_promise 4 (q_store 0 6 (q_load 1 2 (q_load 1 0 (q_load 0 5 (q_const (0, 1) (q_iadd (q_xld L xs (q_load 1 0 (q_load 0 5 (q_const (0, 2) (q_iadd (q_xld L xs (q_callv 14 f_X12_promise 3 (q_store 0 7 (q_load 1 2 (q_callv 14 f_X12_thrown 1 (q_load 0 6 (q_goto 64))))))))))))))))))))))))))))))
noncomputable def B_L_law_64 (L : Nat) (xs : Nat → Int32) : qI := q_cmpeq 65 (q_const (0, 0) (q_retz))
noncomputable def B_L_law_65 (L : Nat) (xs : Nat → Int32) : qI := q_load 0 6 (q_ifne 66 (q_load 1 3 (q_const (0, 0) (q_ald 105 2 (q_load 0 7 (q_i2l (q_lcmp (q_ifeq 66 (q_const (0, 0) (q_retz))))))))))
noncomputable def B_L_law_66 (L : Nat) (xs : Nat → Int32) : qI := q_goto 139
noncomputable def B_L_law_67 (L : Nat) (xs : Nat → Int32) : qI := q_load 1 1 (q_load 1 0 (q_load 0 5 (q_const (0, 1) (q_iadd (q_xld L xs (q_load 1 0 (q_load 0 5 (q_const (0, 2) (q_iadd (q_xld L xs (q_load 1 3 (q_call f_L_move 4 (q_store 0 6 (q_load 1 2 (q_load 1 0 (q_load 0 5 (q_const (0, 1) (q_iadd (q_xld L xs (q_load 1 0 (q_load 0 5 (q_const (0, 2) (q_iadd (q_xld L xs (q_callv 14 f_X12_move 3 (q_store 0 7 (q_load 1 2 (q_callv 14 f_X12_thrown 1 (q_load 0 6 (q_goto 68))))))))))))))))))))))))))))))
noncomputable def B_L_law_68 (L : Nat) (xs : Nat → Int32) : qI := q_cmpeq 69 (q_const (0, 0) (q_retz))
noncomputable def B_L_law_69 (L : Nat) (xs : Nat → Int32) : qI := q_load 0 6 (q_ifne 70 (q_load 1 3 (q_const (0, 0) (q_ald 105 2 (q_load 0 7 (q_i2l (q_lcmp (q_ifeq 70 (q_const (0, 0) (q_retz))))))))))
noncomputable def B_L_law_70 (L : Nat) (xs : Nat → Int32) : qI := q_goto 139
noncomputable def B_L_law_71 (L : Nat) (xs : Nat → Int32) : qI := q_load 1 1 (q_load 1 0 (q_load 0 5 (q_const (0, 1) (q_iadd (q_xld L xs (q_load 1 3 (q_call f_L_fork 3 (q_store 0 6 (q_load 1 2 (q_load 1 0 (q_load 0 5 (q_const (0, 1) (q_iadd (q_xld L xs (q_callv 14 f_X12_fork 2 (q_store 0 7 (q_load 1 2 (q_callv 14 f_X12_thrown 1 (q_load 0 6 (q_cmpeq 72 (q_const (0, 0) (q_retz))))))))))))))))))))))
noncomputable def B_L_law_72 (L : Nat) (xs : Nat → Int32) : qI := q_load 0 6 (q_ifne 73 (q_load 1 3 (q_const (0, 0) (q_ald 105 2 (q_load 0 7 (q_i2l (q_lcmp (q_ifeq 73 (q_const (0, 0) (q_retz))))))))))
noncomputable def B_L_law_73 (L : Nat) (xs : Nat → Int32) : qI := q_goto 139
noncomputable def B_L_law_74 (L : Nat) (xs : Nat → Int32) : qI := q_load 1 1 (q_load 1 0 (q_load 0 5 (q_const (0, 1) (q_iadd (q_xld L xs (q_load 1 3 (q_call f_L_merge 3 (q_store 0 6 (q_load 1 2 (q_load 1 0 (q_load 0 5 (q_const (0, 1) (q_iadd (q_xld L xs (q_callv 14 f_X12_merge 2 (q_store 0 7 (q_load 1 2 (q_callv 14 f_X12_thrown 1 (q_load 0 6 (q_cmpeq 75 (q_const (0, 0) (q_retz))))))))))))))))))))))
noncomputable def B_L_law_75 (L : Nat) (xs : Nat → Int32) : qI := q_load 0 6 (q_ifne 76 (q_load 1 3 (q_const (0, 0) (q_ald 105 2 (q_load 0 7 (q_i2l (q_lcmp (q_ifeq 76 (q_const (0, 0) (q_retz))))))))))
noncomputable def B_L_law_76 (L : Nat) (xs : Nat → Int32) : qI := q_goto 139
noncomputable def B_L_law_77 (L : Nat) (xs : Nat → Int32) : qI := q_load 1 1 (q_load 1 0 (q_load 0 5 (q_const (0, 1) (q_iadd (q_xld L xs (q_load 1 3 (q_call f_L_drop 3 (q_store 0 6 (q_load 1 2 (q_load 1 0 (q_load 0 5 (q_const (0, 1) (q_iadd (q_xld L xs (q_callv 14 f_X12_drop 2 (q_store 0 7 (q_load 1 2 (q_callv 14 f_X12_thrown 1 (q_load 0 6 (q_cmpeq 78 (q_const (0, 0) (q_retz))))))))))))))))))))))
noncomputable def B_L_law_78 (L : Nat) (xs : Nat → Int32) : qI := q_load 0 6 (q_ifne 79 (q_load 1 3 (q_const (0, 0) (q_ald 105 2 (q_load 0 7 (q_i2l (q_lcmp (q_ifeq 79 (q_const (0, 0) (q_retz))))))))))
noncomputable def B_L_law_79 (L : Nat) (xs : Nat → Int32) : qI := q_goto 139
noncomputable def B_L_law_80 (L : Nat) (xs : Nat → Int32) : qI := q_load 1 1 (q_load 1 0 (q_load 0 5 (q_const (0, 1) (q_iadd (q_xld L xs (q_load 1 3 (q_call f_L_pass 3 (q_store 0 6 (q_load 1 2 (q_load 1 0 (q_load 0 5 (q_const (0, 1) (q_iadd (q_xld L xs (q_callv 14 f_X12_pass 2 (q_store 0 7 (q_load 1 2 (q_callv 14 f_X12_thrown 1 (q_load 0 6 (q_cmpeq 81 (q_const (0, 0) (q_retz))))))))))))))))))))))
noncomputable def B_L_law_81 (L : Nat) (xs : Nat → Int32) : qI := q_load 0 6 (q_ifne 82 (q_load 1 3 (q_const (0, 0) (q_ald 105 2 (q_load 0 7 (q_i2l (q_lcmp (q_ifeq 82 (q_const (0, 0) (q_retz))))))))))
noncomputable def B_L_law_82 (L : Nat) (xs : Nat → Int32) : qI := q_goto 139
noncomputable def B_L_law_83 (L : Nat) (xs : Nat → Int32) : qI := q_load 1 1 (q_load 1 0 (q_load 0 5 (q_const (0, 1) (q_iadd (q_xld L xs (q_load 1 0 (q_load 0 5 (q_const (0, 2) (q_iadd (q_xld L xs (q_load 1 3 (q_call f_L_common 4 (q_store 0 6 (q_load 1 2 (q_load 1 0 (q_load 0 5 (q_const (0, 1) (q_iadd (q_xld L xs (q_load 1 0 (q_load 0 5 (q_const (0, 2) (q_iadd (q_xld L xs (q_callv 14 f_X12_common 3 (q_store 0 7 (q_load 1 2 (q_callv 14 f_X12_thrown 1 (q_load 0 6 (q_goto 84))))))))))))))))))))))))))))))
noncomputable def B_L_law_84 (L : Nat) (xs : Nat → Int32) : qI := q_cmpeq 85 (q_const (0, 0) (q_retz))
noncomputable def B_L_law_85 (L : Nat) (xs : Nat → Int32) : qI := q_load 0 6 (q_ifne 86 (q_load 1 3 (q_const (0, 0) (q_ald 105 2 (q_load 0 7 (q_i2l (q_lcmp (q_ifeq 86 (q_const (0, 0) (q_retz))))))))))
noncomputable def B_L_law_86 (L : Nat) (xs : Nat → Int32) : qI := q_goto 139
noncomputable def B_L_law_87 (L : Nat) (xs : Nat → Int32) : qI := q_load 1 1 (q_load 1 0 (q_load 0 5 (q_const (0, 1) (q_iadd (q_xld L xs (q_load 1 3 (q_call f_L_holder 3 (q_store 0 6 (q_load 1 2 (q_load 1 0 (q_load 0 5 (q_const (0, 1) (q_iadd (q_xld L xs (q_callv 14 f_X12_holder 2 (q_store 0 7 (q_load 1 2 (q_callv 14 f_X12_thrown 1 (q_load 0 6 (q_cmpeq 88 (q_const (0, 0) (q_retz))))))))))))))))))))))
noncomputable def B_L_law_88 (L : Nat) (xs : Nat → Int32) : qI := q_load 0 6 (q_ifne 89 (q_load 1 3 (q_const (0, 0) (q_ald 105 2 (q_load 0 7 (q_i2l (q_lcmp (q_ifeq 89 (q_const (0, 0) (q_retz))))))))))
noncomputable def B_L_law_89 (L : Nat) (xs : Nat → Int32) : qI := q_goto 139
noncomputable def B_L_law_90 (L : Nat) (xs : Nat → Int32) : qI := q_load 1 1 (q_load 1 0 (q_load 0 5 (q_const (0, 1) (q_iadd (q_xld L xs (q_load 1 3 (q_call f_L_slowest 3 (q_store 0 6 (q_load 1 2 (q_load 1 0 (q_load 0 5 (q_const (0, 1) (q_iadd (q_xld L xs (q_callv 14 f_X12_slowest 2 (q_store 0 7 (q_load 1 2 (q_callv 14 f_X12_thrown 1 (q_load 0 6 (q_cmpeq 91 (q_const (0, 0) (q_retz))))))))))))))))))))))
noncomputable def B_L_law_91 (L : Nat) (xs : Nat → Int32) : qI := q_load 0 6 (q_ifne 92 (q_load 1 3 (q_const (0, 0) (q_ald 105 2 (q_load 0 7 (q_i2l (q_lcmp (q_ifeq 92 (q_const (0, 0) (q_retz))))))))))
noncomputable def B_L_law_92 (L : Nat) (xs : Nat → Int32) : qI := q_goto 139
noncomputable def B_L_law_93 (L : Nat) (xs : Nat → Int32) : qI := q_load 1 1 (q_load 1 0 (q_load 0 5 (q_const (0, 1) (q_iadd (q_xld L xs (q_load 1 3 (q_call f_L_cause 3 (q_store 0 6 (q_load 1 2 (q_load 1 0 (q_load 0 5 (q_const (0, 1) (q_iadd (q_xld L xs (q_callv 14 f_X12_cause 2 (q_store 0 7 (q_load 1 2 (q_callv 14 f_X12_thrown 1 (q_load 0 6 (q_cmpeq 94 (q_const (0, 0) (q_retz))))))))))))))))))))))
noncomputable def B_L_law_94 (L : Nat) (xs : Nat → Int32) : qI := q_load 0 6 (q_ifne 95 (q_load 1 3 (q_const (0, 0) (q_ald 105 2 (q_load 0 7 (q_i2l (q_lcmp (q_ifeq 95 (q_const (0, 0) (q_retz))))))))))
noncomputable def B_L_law_95 (L : Nat) (xs : Nat → Int32) : qI := q_goto 139
noncomputable def B_L_law_96 (L : Nat) (xs : Nat → Int32) : qI := q_load 1 1 (q_load 1 0 (q_load 0 5 (q_const (0, 1) (q_iadd (q_xld L xs (q_load 1 0 (q_load 0 5 (q_const (0, 2) (q_iadd (q_xld L xs (q_load 1 3 (q_call f_L_latest 4 (q_store 0 6 (q_load 1 2 (q_load 1 0 (q_load 0 5 (q_const (0, 1) (q_iadd (q_xld L xs (q_load 1 0 (q_load 0 5 (q_const (0, 2) (q_iadd (q_xld L xs (q_callv 14 f_X12_latest 3 (q_store 0 7 (q_load 1 2 (q_callv 14 f_X12_thrown 1 (q_load 0 6 (q_goto 97))))))))))))))))))))))))))))))
noncomputable def B_L_law_97 (L : Nat) (xs : Nat → Int32) : qI := q_cmpeq 98 (q_const (0, 0) (q_retz))
noncomputable def B_L_law_98 (L : Nat) (xs : Nat → Int32) : qI := q_load 0 6 (q_ifne 99 (q_load 1 3 (q_const (0, 0) (q_ald 105 2 (q_load 0 7 (q_i2l (q_lcmp (q_ifeq 99 (q_const (0, 0) (q_retz))))))))))
noncomputable def B_L_law_99 (L : Nat) (xs : Nat → Int32) : qI := q_goto 139
noncomputable def B_L_law_100 (L : Nat) (xs : Nat → Int32) : qI := q_load 1 1 (q_load 1 0 (q_load 0 5 (q_const (0, 1) (q_iadd (q_xld L xs (q_load 1 4 (q_call f_L_mean 3 (q_store 0 6 (q_load 1 2 (q_load 1 0 (q_load 0 5 (q_const (0, 1) (q_iadd (q_xld L xs (q_callv 14 f_X12_mean 2 (q_dstore 7 (q_load 1 2 (q_callv 14 f_X12_thrown 1 (q_load 0 6 (q_cmpeq 101 (q_const (0, 0) (q_retz))))))))))))))))))))))
noncomputable def B_L_law_101 (L : Nat) (xs : Nat → Int32) : qI := q_load 0 6 (q_ifne 103 (q_load 1 4 (q_const (0, 0) (q_ald 107 4 (q_load 4 7 (q_dcmpl (q_ifeq 103 (q_load 1 4 (q_const (0, 0) (q_ald 107 4 (q_load 1 4 (q_const (0, 0) (q_ald 107 4 (q_dcmpl (q_ifeq 102 (q_load 4 7 (q_load 4 7 (q_dcmpl (q_ifne 103 (q_goto 102))))))))))))))))))))
noncomputable def B_L_law_102 (L : Nat) (xs : Nat → Int32) : qI := q_const (0, 0) (q_retz)
noncomputable def B_L_law_103 (L : Nat) (xs : Nat → Int32) : qI := q_goto 139
noncomputable def B_L_law_104 (L : Nat) (xs : Nat → Int32) : qI := q_load 1 1 (q_load 1 0 (q_load 0 5 (q_const (0, 1) (q_iadd (q_xld L xs (q_load 1 4 (q_call f_L_trust 3 (q_store 0 6 (q_load 1 2 (q_load 1 0 (q_load 0 5 (q_const (0, 1) (q_iadd (q_xld L xs (q_callv 14 f_X12_trust 2 (q_store 3 7 (q_load 1 2 (q_callv 14 f_X12_thrown 1 (q_load 0 6 (q_cmpeq 105 (q_const (0, 0) (q_retz))))))))))))))))))))))
noncomputable def B_L_law_105 (L : Nat) (xs : Nat → Int32) : qI := q_load 0 6 (q_ifne 107 (q_load 1 4 (q_const (0, 0) (q_ald 107 4 (q_load 3 7 (q_f2d (q_dcmpl (q_ifeq 107 (q_load 1 4 (q_const (0, 0) (q_ald 107 4 (q_load 1 4 (q_const (0, 0) (q_ald 107 4 (q_dcmpl (q_ifeq 106 (q_load 3 7 (q_load 3 7 (fun _ _ _ => none)))))))))))))))))))
noncomputable def B_L_law_106 (L : Nat) (xs : Nat → Int32) : qI := q_const (0, 0) (q_retz)
noncomputable def B_L_law_107 (L : Nat) (xs : Nat → Int32) : qI := q_goto 139
noncomputable def B_L_law_108 (L : Nat) (xs : Nat → Int32) : qI := q_load 1 1 (q_load 1 0 (q_load 0 5 (q_const (0, 1) (q_iadd (q_xld L xs (q_load 1 0 (q_load 0 5 (q_const (0, 2) (q_iadd (q_xld L xs (q_load 1 3 (q_call f_L_ahead 4 (q_store 0 6 (q_load 1 2 (q_load 1 0 (q_load 0 5 (q_const (0, 1) (q_iadd (q_xld L xs (q_load 1 0 (q_load 0 5 (q_const (0, 2) (q_iadd (q_xld L xs (q_callv 14 f_X12_ahead 3 (q_store 0 7 (q_load 1 2 (q_callv 14 f_X12_thrown 1 (q_load 0 6 (q_goto 109))))))))))))))))))))))))))))))
noncomputable def B_L_law_109 (L : Nat) (xs : Nat → Int32) : qI := q_cmpeq 110 (q_const (0, 0) (q_retz))
noncomputable def B_L_law_110 (L : Nat) (xs : Nat → Int32) : qI := q_load 0 6 (q_ifne 111 (q_load 1 3 (q_const (0, 0) (q_ald 105 2 (q_load 0 7 (q_i2l (q_lcmp (q_ifeq 111 (q_const (0, 0) (q_retz))))))))))
noncomputable def B_L_law_111 (L : Nat) (xs : Nat → Int32) : qI := q_goto 139
noncomputable def B_L_law_112 (L : Nat) (xs : Nat → Int32) : qI := q_load 1 1 (q_load 1 0 (q_load 0 5 (q_const (0, 1) (q_iadd (q_xld L xs (q_load 1 0 (q_load 0 5 (q_const (0, 2) (q_iadd (q_xld L xs (q_load 1 3 (q_call f_L_losesIn 4 (q_store 0 6 (q_load 1 2 (q_load 1 0 (q_load 0 5 (q_const (0, 1) (q_iadd (q_xld L xs (q_load 1 0 (q_load 0 5 (q_const (0, 2) (q_iadd (q_xld L xs (q_callv 14 f_X12_losesIn 3 (q_store 0 7 (q_load 1 2 (q_callv 14 f_X12_thrown 1 (q_load 0 6 (q_goto 113))))))))))))))))))))))))))))))
noncomputable def B_L_law_113 (L : Nat) (xs : Nat → Int32) : qI := q_cmpeq 114 (q_const (0, 0) (q_retz))
noncomputable def B_L_law_114 (L : Nat) (xs : Nat → Int32) : qI := q_load 0 6 (q_ifne 115 (q_load 1 3 (q_const (0, 0) (q_ald 105 2 (q_load 0 7 (q_i2l (q_lcmp (q_ifeq 115 (q_const (0, 0) (q_retz))))))))))
noncomputable def B_L_law_115 (L : Nat) (xs : Nat → Int32) : qI := q_goto 139
noncomputable def B_L_law_116 (L : Nat) (xs : Nat → Int32) : qI := q_load 1 1 (q_load 1 0 (q_load 0 5 (q_const (0, 1) (q_iadd (q_xld L xs (q_load 1 0 (q_load 0 5 (q_const (0, 2) (q_iadd (q_xld L xs (q_load 1 3 (q_call f_L_wouldCut 4 (q_store 0 6 (q_load 1 2 (q_load 1 0 (q_load 0 5 (q_const (0, 1) (q_iadd (q_xld L xs (q_load 1 0 (q_load 0 5 (q_const (0, 2) (q_iadd (q_xld L xs (q_callv 14 f_X12_wouldCut 3 (q_store 0 7 (q_load 1 2 (q_callv 14 f_X12_thrown 1 (q_load 0 6 (q_goto 117))))))))))))))))))))))))))))))
noncomputable def B_L_law_117 (L : Nat) (xs : Nat → Int32) : qI := q_cmpeq 118 (q_const (0, 0) (q_retz))
noncomputable def B_L_law_118 (L : Nat) (xs : Nat → Int32) : qI := q_load 0 6 (q_ifne 119 (q_load 1 3 (q_const (0, 0) (q_ald 105 2 (q_load 0 7 (q_i2l (q_lcmp (q_ifeq 119 (q_const (0, 0) (q_retz))))))))))
noncomputable def B_L_law_119 (L : Nat) (xs : Nat → Int32) : qI := q_goto 139
noncomputable def B_L_law_120 (L : Nat) (xs : Nat → Int32) : qI := q_load 1 1 (q_load 1 0 (q_load 0 5 (q_const (0, 1) (q_iadd (q_xld L xs (q_load 1 0 (q_load 0 5 (q_const (0, 2) (q_iadd (q_xld L xs (q_load 1 3 (q_call f_L_unread 4 (q_store 0 6 (q_load 1 2 (q_load 1 0 (q_load 0 5 (q_const (0, 1) (q_iadd (q_xld L xs (q_load 1 0 (q_load 0 5 (q_const (0, 2) (q_iadd (q_xld L xs (q_callv 14 f_X12_unread 3 (q_store 0 7 (q_load 1 2 (q_callv 14 f_X12_thrown 1 (q_load 0 6 (q_goto 121))))))))))))))))))))))))))))))
noncomputable def B_L_law_121 (L : Nat) (xs : Nat → Int32) : qI := q_cmpeq 122 (q_const (0, 0) (q_retz))
noncomputable def B_L_law_122 (L : Nat) (xs : Nat → Int32) : qI := q_load 0 6 (q_ifne 123 (q_load 1 3 (q_const (0, 0) (q_ald 105 2 (q_load 0 7 (q_i2l (q_lcmp (q_ifeq 123 (q_const (0, 0) (q_retz))))))))))
noncomputable def B_L_law_123 (L : Nat) (xs : Nat → Int32) : qI := q_goto 139
noncomputable def B_L_law_124 (L : Nat) (xs : Nat → Int32) : qI := q_load 1 1 (q_load 1 0 (q_load 0 5 (q_const (0, 1) (q_iadd (q_xld L xs (q_load 1 3 (q_call f_L_promised 3 (q_store 0 6 (q_load 1 2 (q_load 1 0 (q_load 0 5 (q_const (0, 1) (q_iadd (q_xld L xs (q_callv 14 f_X12_promised 2 (q_store 0 7 (q_load 1 2 (q_callv 14 f_X12_thrown 1 (q_load 0 6 (q_cmpeq 125 (q_const (0, 0) (q_retz))))))))))))))))))))))
noncomputable def B_L_law_125 (L : Nat) (xs : Nat → Int32) : qI := q_load 0 6 (q_ifne 126 (q_load 1 3 (q_const (0, 0) (q_ald 105 2 (q_load 0 7 (q_i2l (q_lcmp (q_ifeq 126 (q_const (0, 0) (q_retz))))))))))
noncomputable def B_L_law_126 (L : Nat) (xs : Nat → Int32) : qI := q_goto 139
noncomputable def B_L_law_127 (L : Nat) (xs : Nat → Int32) : qI := q_load 1 1 (q_load 1 0 (q_load 0 5 (q_const (0, 1) (q_iadd (q_xld L xs (q_load 1 3 (q_call f_L_age 3 (q_store 0 6 (q_load 1 2 (q_load 1 0 (q_load 0 5 (q_const (0, 1) (q_iadd (q_xld L xs (q_callv 14 f_X12_age 2 (q_store 0 7 (q_load 1 2 (q_callv 14 f_X12_thrown 1 (q_load 0 6 (q_cmpeq 128 (q_const (0, 0) (q_retz))))))))))))))))))))))
noncomputable def B_L_law_128 (L : Nat) (xs : Nat → Int32) : qI := q_load 0 6 (q_ifne 129 (q_load 1 3 (q_const (0, 0) (q_ald 105 2 (q_load 0 7 (q_i2l (q_lcmp (q_ifeq 129 (q_const (0, 0) (q_retz))))))))))
noncomputable def B_L_law_129 (L : Nat) (xs : Nat → Int32) : qI := q_goto 139
noncomputable def B_L_law_130 (L : Nat) (xs : Nat → Int32) : qI := q_load 1 1 (q_load 1 0 (q_load 0 5 (q_const (0, 1) (q_iadd (q_xld L xs (q_load 1 3 (q_call f_L_write 3 (q_store 0 6 (q_load 1 2 (q_load 1 0 (q_load 0 5 (q_const (0, 1) (q_iadd (q_xld L xs (q_callv 14 f_X12_write 2 (q_store 0 7 (q_load 1 2 (q_callv 14 f_X12_thrown 1 (q_load 0 6 (q_cmpeq 131 (q_const (0, 0) (q_retz))))))))))))))))))))))
noncomputable def B_L_law_131 (L : Nat) (xs : Nat → Int32) : qI := q_load 0 6 (q_ifne 132 (q_load 1 3 (q_const (0, 0) (q_ald 105 2 (q_load 0 7 (q_i2l (q_lcmp (q_ifeq 132 (q_const (0, 0) (q_retz))))))))))
noncomputable def B_L_law_132 (L : Nat) (xs : Nat → Int32) : qI := q_goto 139
noncomputable def B_L_law_133 (L : Nat) (xs : Nat → Int32) : qI := q_load 1 1 (q_load 1 0 (q_load 0 5 (q_const (0, 1) (q_iadd (q_xld L xs (q_callv 13 f_X11_output 2 (q_load 1 2 (q_load 1 0 (q_load 0 5 (q_const (0, 1) (q_iadd (q_xld L xs (q_callv 14 f_X12_output 2 (q_cmpeq 139 (q_const (0, 0) (q_retz))))))))))))))))
noncomputable def B_L_law_134 (L : Nat) (xs : Nat → Int32) : qI := q_load 1 1 (q_callv 13 f_X11_undo 1 (q_load 1 2 (q_callv 14 f_X12_undo 1 (q_cmpeq 139 (q_const (0, 0) (q_retz))))))
noncomputable def B_L_law_135 (L : Nat) (xs : Nat → Int32) : qI := q_load 1 1 (q_load 1 0 (q_load 0 5 (q_const (0, 1) (q_iadd (q_xld L xs (q_call f_L_save 2 (q_store 0 6 (q_load 1 2 (q_load 1 0 (q_load 0 5 (q_const (0, 1) (q_iadd (q_xld L xs (q_callv 14 f_X12_save 2 (q_load 1 2 (q_callv 14 f_X12_thrown 1 (q_load 0 6 (q_cmpeq 136 (q_const (0, 0) (q_retz))))))))))))))))))))
noncomputable def B_L_law_136 (L : Nat) (xs : Nat → Int32) : qI := q_goto 139
noncomputable def B_L_law_137 (L : Nat) (xs : Nat → Int32) : qI := q_load 1 1 (q_load 1 0 (q_load 0 5 (q_const (0, 1) (q_iadd (q_xld L xs (q_call f_L_restore 2 (q_store 0 6 (q_load 1 2 (q_load 1 0 (q_load 0 5 (q_const (0, 1) (q_iadd (q_xld L xs (q_callv 14 f_X12_restore 2 (q_load 1 2 (q_callv 14 f_X12_thrown 1 (q_load 0 6 (q_cmpeq 138 (q_const (0, 0) (q_retz))))))))))))))))))))
noncomputable def B_L_law_138 (L : Nat) (xs : Nat → Int32) : qI := q_goto 139
noncomputable def B_L_law_139 (L : Nat) (xs : Nat → Int32) : qI := q_iinc 5 (5) (q_goto 1)
noncomputable def B_L_law_140 (L : Nat) (xs : Nat → Int32) : qI := q_const (0, 1) (q_retz)
noncomputable def P_L_law (L : Nat) (xs : Nat → Int32) : qP := [B_L_law_0 L xs, B_L_law_1 L xs, B_L_law_2 L xs, B_L_law_3 L xs, B_L_law_4 L xs, B_L_law_5 L xs, B_L_law_6 L xs, B_L_law_7 L xs, B_L_law_8 L xs, B_L_law_9 L xs, B_L_law_10 L xs, B_L_law_11 L xs, B_L_law_12 L xs, B_L_law_13 L xs, B_L_law_14 L xs, B_L_law_15 L xs, B_L_law_16 L xs, B_L_law_17 L xs, B_L_law_18 L xs, B_L_law_19 L xs, B_L_law_20 L xs, B_L_law_21 L xs, B_L_law_22 L xs, B_L_law_23 L xs, B_L_law_24 L xs, B_L_law_25 L xs, B_L_law_26 L xs, B_L_law_27 L xs, B_L_law_28 L xs, B_L_law_29 L xs, B_L_law_30 L xs, B_L_law_31 L xs, B_L_law_32 L xs, B_L_law_33 L xs, B_L_law_34 L xs, B_L_law_35 L xs, B_L_law_36 L xs, B_L_law_37 L xs, B_L_law_38 L xs, B_L_law_39 L xs, B_L_law_40 L xs, B_L_law_41 L xs, B_L_law_42 L xs, B_L_law_43 L xs, B_L_law_44 L xs, B_L_law_45 L xs, B_L_law_46 L xs, B_L_law_47 L xs, B_L_law_48 L xs, B_L_law_49 L xs, B_L_law_50 L xs, B_L_law_51 L xs, B_L_law_52 L xs, B_L_law_53 L xs, B_L_law_54 L xs, B_L_law_55 L xs, B_L_law_56 L xs, B_L_law_57 L xs, B_L_law_58 L xs, B_L_law_59 L xs, B_L_law_60 L xs, B_L_law_61 L xs, B_L_law_62 L xs, B_L_law_63 L xs, B_L_law_64 L xs, B_L_law_65 L xs, B_L_law_66 L xs, B_L_law_67 L xs, B_L_law_68 L xs, B_L_law_69 L xs, B_L_law_70 L xs, B_L_law_71 L xs, B_L_law_72 L xs, B_L_law_73 L xs, B_L_law_74 L xs, B_L_law_75 L xs, B_L_law_76 L xs, B_L_law_77 L xs, B_L_law_78 L xs, B_L_law_79 L xs, B_L_law_80 L xs, B_L_law_81 L xs, B_L_law_82 L xs, B_L_law_83 L xs, B_L_law_84 L xs, B_L_law_85 L xs, B_L_law_86 L xs, B_L_law_87 L xs, B_L_law_88 L xs, B_L_law_89 L xs, B_L_law_90 L xs, B_L_law_91 L xs, B_L_law_92 L xs, B_L_law_93 L xs, B_L_law_94 L xs, B_L_law_95 L xs, B_L_law_96 L xs, B_L_law_97 L xs, B_L_law_98 L xs, B_L_law_99 L xs, B_L_law_100 L xs, B_L_law_101 L xs, B_L_law_102 L xs, B_L_law_103 L xs, B_L_law_104 L xs, B_L_law_105 L xs, B_L_law_106 L xs, B_L_law_107 L xs, B_L_law_108 L xs, B_L_law_109 L xs, B_L_law_110 L xs, B_L_law_111 L xs, B_L_law_112 L xs, B_L_law_113 L xs, B_L_law_114 L xs, B_L_law_115 L xs, B_L_law_116 L xs, B_L_law_117 L xs, B_L_law_118 L xs, B_L_law_119 L xs, B_L_law_120 L xs, B_L_law_121 L xs, B_L_law_122 L xs, B_L_law_123 L xs, B_L_law_124 L xs, B_L_law_125 L xs, B_L_law_126 L xs, B_L_law_127 L xs, B_L_law_128 L xs, B_L_law_129 L xs, B_L_law_130 L xs, B_L_law_131 L xs, B_L_law_132 L xs, B_L_law_133 L xs, B_L_law_134 L xs, B_L_law_135 L xs, B_L_law_136 L xs, B_L_law_137 L xs, B_L_law_138 L xs, B_L_law_139 L xs, B_L_law_140 L xs]
def pc_L_law : Nat → Nat := fun j => [0, 28, 228, 264, 281, 284, 320, 337, 340, 353, 366, 379, 422, 427, 444, 447, 483, 500, 503, 546, 551, 568, 571, 609, 631, 648, 651, 694, 699, 716, 719, 762, 767, 784, 787, 830, 835, 852, 855, 898, 903, 920, 923, 959, 976, 979, 1017, 1051, 1068, 1071, 1091, 1092, 1118, 1119, 1135, 1152, 1155, 1191, 1208, 1211, 1254, 1259, 1276, 1279, 1322, 1327, 1344, 1347, 1390, 1395, 1412, 1415, 1451, 1468, 1471, 1507, 1524, 1527, 1563, 1580, 1583, 1619, 1636, 1639, 1682, 1687, 1704, 1707, 1743, 1760, 1763, 1799, 1816, 1819, 1855, 1872, 1875, 1918, 1923, 1940, 1943, 1980, 2015, 2017, 2020, 2057, 2093, 2095, 2098, 2141, 2146, 2163, 2166, 2209, 2214, 2231, 2234, 2277, 2282, 2299, 2302, 2345, 2350, 2367, 2370, 2406, 2423, 2426, 2462, 2479, 2482, 2518, 2535, 2538, 2563, 2576, 2609, 2612, 2645, 2648, 2654].getD j 0
theorem ev_X7_init_0 (ls st : List qV) (a : qA) : qa_ev P_X7_init 0 ls st a = qa_go P_X7_init (B_X7_init_0 ls st a) := qa_ev_eq _ _ _ _ _ rfl
theorem ev_X7_init_1 (ls st : List qV) (a : qA) : qa_ev P_X7_init 1 ls st a = qa_go P_X7_init (B_X7_init_1 ls st a) := qa_ev_eq _ _ _ _ _ rfl
theorem ev_X2_init_0 (ls st : List qV) (a : qA) : qa_ev P_X2_init 0 ls st a = qa_go P_X2_init (B_X2_init_0 ls st a) := qa_ev_eq _ _ _ _ _ rfl
theorem ev_X3_init_0 (ls st : List qV) (a : qA) : qa_ev P_X3_init 0 ls st a = qa_go P_X3_init (B_X3_init_0 ls st a) := qa_ev_eq _ _ _ _ _ rfl
theorem ev_X3_init_1 (ls st : List qV) (a : qA) : qa_ev P_X3_init 1 ls st a = qa_go P_X3_init (B_X3_init_1 ls st a) := qa_ev_eq _ _ _ _ _ rfl
theorem ev_X3_init_2 (ls st : List qV) (a : qA) : qa_ev P_X3_init 2 ls st a = qa_go P_X3_init (B_X3_init_2 ls st a) := qa_ev_eq _ _ _ _ _ rfl
theorem ev_X6_init_0 (ls st : List qV) (a : qA) : qa_ev P_X6_init 0 ls st a = qa_go P_X6_init (B_X6_init_0 ls st a) := qa_ev_eq _ _ _ _ _ rfl
theorem ev_X9_init_0 (ls st : List qV) (a : qA) : qa_ev P_X9_init 0 ls st a = qa_go P_X9_init (B_X9_init_0 ls st a) := qa_ev_eq _ _ _ _ _ rfl
theorem ev_X9_init_1 (ls st : List qV) (a : qA) : qa_ev P_X9_init 1 ls st a = qa_go P_X9_init (B_X9_init_1 ls st a) := qa_ev_eq _ _ _ _ _ rfl
theorem ev_X9_init_2 (ls st : List qV) (a : qA) : qa_ev P_X9_init 2 ls st a = qa_go P_X9_init (B_X9_init_2 ls st a) := qa_ev_eq _ _ _ _ _ rfl
theorem ev_X9_init_3 (ls st : List qV) (a : qA) : qa_ev P_X9_init 3 ls st a = qa_go P_X9_init (B_X9_init_3 ls st a) := qa_ev_eq _ _ _ _ _ rfl
theorem ev_X9_init_4 (ls st : List qV) (a : qA) : qa_ev P_X9_init 4 ls st a = qa_go P_X9_init (B_X9_init_4 ls st a) := qa_ev_eq _ _ _ _ _ rfl
theorem ev_X1_init_0 (ls st : List qV) (a : qA) : qa_ev P_X1_init 0 ls st a = qa_go P_X1_init (B_X1_init_0 ls st a) := qa_ev_eq _ _ _ _ _ rfl
theorem ev_X4_init_0 (ls st : List qV) (a : qA) : qa_ev P_X4_init 0 ls st a = qa_go P_X4_init (B_X4_init_0 ls st a) := qa_ev_eq _ _ _ _ _ rfl
theorem ev_X8_init_0 (ls st : List qV) (a : qA) : qa_ev P_X8_init 0 ls st a = qa_go P_X8_init (B_X8_init_0 ls st a) := qa_ev_eq _ _ _ _ _ rfl
theorem ev_J5_init_d00df_0 (ls st : List qV) (a : qA) : qa_ev P_J5_init_d00df 0 ls st a = qa_go P_J5_init_d00df (B_J5_init_d00df_0 ls st a) := qa_ev_eq _ _ _ _ _ rfl
theorem ev_J5_init_d00df_1 (ls st : List qV) (a : qA) : qa_ev P_J5_init_d00df 1 ls st a = qa_go P_J5_init_d00df (B_J5_init_d00df_1 ls st a) := qa_ev_eq _ _ _ _ _ rfl
theorem ev_J5_init_d00df_2 (ls st : List qV) (a : qA) : qa_ev P_J5_init_d00df 2 ls st a = qa_go P_J5_init_d00df (B_J5_init_d00df_2 ls st a) := qa_ev_eq _ _ _ _ _ rfl
theorem ev_J4_init_da8c8_0 (ls st : List qV) (a : qA) : qa_ev P_J4_init_da8c8 0 ls st a = qa_go P_J4_init_da8c8 (B_J4_init_da8c8_0 ls st a) := qa_ev_eq _ _ _ _ _ rfl
theorem ev_X9_begin_0 (ls st : List qV) (a : qA) : qa_ev P_X9_begin 0 ls st a = qa_go P_X9_begin (B_X9_begin_0 ls st a) := qa_ev_eq _ _ _ _ _ rfl
theorem ev_X11_init_0 (ls st : List qV) (a : qA) : qa_ev P_X11_init 0 ls st a = qa_go P_X11_init (B_X11_init_0 ls st a) := qa_ev_eq _ _ _ _ _ rfl
theorem ev_X11_init_1 (ls st : List qV) (a : qA) : qa_ev P_X11_init 1 ls st a = qa_go P_X11_init (B_X11_init_1 ls st a) := qa_ev_eq _ _ _ _ _ rfl
theorem ev_X8_hasRoomForFour_0 (ls st : List qV) (a : qA) : qa_ev P_X8_hasRoomForFour 0 ls st a = qa_go P_X8_hasRoomForFour (B_X8_hasRoomForFour_0 ls st a) := qa_ev_eq _ _ _ _ _ rfl
theorem ev_X8_hasRoomForFour_1 (ls st : List qV) (a : qA) : qa_ev P_X8_hasRoomForFour 1 ls st a = qa_go P_X8_hasRoomForFour (B_X8_hasRoomForFour_1 ls st a) := qa_ev_eq _ _ _ _ _ rfl
theorem ev_X8_hasRoomForFour_2 (ls st : List qV) (a : qA) : qa_ev P_X8_hasRoomForFour 2 ls st a = qa_go P_X8_hasRoomForFour (B_X8_hasRoomForFour_2 ls st a) := qa_ev_eq _ _ _ _ _ rfl
theorem ev_X8_addFour_0 (ls st : List qV) (a : qA) : qa_ev P_X8_addFour 0 ls st a = qa_go P_X8_addFour (B_X8_addFour_0 ls st a) := qa_ev_eq _ _ _ _ _ rfl
theorem ev_X8_addFour_1 (ls st : List qV) (a : qA) : qa_ev P_X8_addFour 1 ls st a = qa_go P_X8_addFour (B_X8_addFour_1 ls st a) := qa_ev_eq _ _ _ _ _ rfl
theorem ev_X8_addFour_2 (ls st : List qV) (a : qA) : qa_ev P_X8_addFour 2 ls st a = qa_go P_X8_addFour (B_X8_addFour_2 ls st a) := qa_ev_eq _ _ _ _ _ rfl
theorem ev_X8_addFour_3 (ls st : List qV) (a : qA) : qa_ev P_X8_addFour 3 ls st a = qa_go P_X8_addFour (B_X8_addFour_3 ls st a) := qa_ev_eq _ _ _ _ _ rfl
theorem ev_X11_appendText_0 (ls st : List qV) (a : qA) : qa_ev P_X11_appendText 0 ls st a = qa_go P_X11_appendText (B_X11_appendText_0 ls st a) := qa_ev_eq _ _ _ _ _ rfl
theorem ev_X11_appendText_1 (ls st : List qV) (a : qA) : qa_ev P_X11_appendText 1 ls st a = qa_go P_X11_appendText (B_X11_appendText_1 ls st a) := qa_ev_eq _ _ _ _ _ rfl
theorem ev_X11_needRange_0 (ls st : List qV) (a : qA) : qa_ev P_X11_needRange 0 ls st a = qa_go P_X11_needRange (B_X11_needRange_0 ls st a) := qa_ev_eq _ _ _ _ _ rfl
theorem ev_X11_needRange_1 (ls st : List qV) (a : qA) : qa_ev P_X11_needRange 1 ls st a = qa_go P_X11_needRange (B_X11_needRange_1 ls st a) := qa_ev_eq _ _ _ _ _ rfl
theorem ev_X11_needRange_2 (ls st : List qV) (a : qA) : qa_ev P_X11_needRange 2 ls st a = qa_go P_X11_needRange (B_X11_needRange_2 ls st a) := qa_ev_eq _ _ _ _ _ rfl
theorem ev_X11_truncateText_0 (ls st : List qV) (a : qA) : qa_ev P_X11_truncateText 0 ls st a = qa_go P_X11_truncateText (B_X11_truncateText_0 ls st a) := qa_ev_eq _ _ _ _ _ rfl
theorem ev_X8_byteAt_0 (ls st : List qV) (a : qA) : qa_ev P_X8_byteAt 0 ls st a = qa_go P_X8_byteAt (B_X8_byteAt_0 ls st a) := qa_ev_eq _ _ _ _ _ rfl
theorem ev_X8_byteAt_1 (ls st : List qV) (a : qA) : qa_ev P_X8_byteAt 1 ls st a = qa_go P_X8_byteAt (B_X8_byteAt_1 ls st a) := qa_ev_eq _ _ _ _ _ rfl
theorem ev_X8_byteAt_2 (ls st : List qV) (a : qA) : qa_ev P_X8_byteAt 2 ls st a = qa_go P_X8_byteAt (B_X8_byteAt_2 ls st a) := qa_ev_eq _ _ _ _ _ rfl
theorem ev_X8_isBlank_0 (ls st : List qV) (a : qA) : qa_ev P_X8_isBlank 0 ls st a = qa_go P_X8_isBlank (B_X8_isBlank_0 ls st a) := qa_ev_eq _ _ _ _ _ rfl
theorem ev_X8_isBlank_1 (ls st : List qV) (a : qA) : qa_ev P_X8_isBlank 1 ls st a = qa_go P_X8_isBlank (B_X8_isBlank_1 ls st a) := qa_ev_eq _ _ _ _ _ rfl
theorem ev_X8_isBlank_2 (ls st : List qV) (a : qA) : qa_ev P_X8_isBlank 2 ls st a = qa_go P_X8_isBlank (B_X8_isBlank_2 ls st a) := qa_ev_eq _ _ _ _ _ rfl
theorem ev_X8_isBlank_3 (ls st : List qV) (a : qA) : qa_ev P_X8_isBlank 3 ls st a = qa_go P_X8_isBlank (B_X8_isBlank_3 ls st a) := qa_ev_eq _ _ _ _ _ rfl
theorem ev_X8_kindOf_0 (ls st : List qV) (a : qA) : qa_ev P_X8_kindOf 0 ls st a = qa_go P_X8_kindOf (B_X8_kindOf_0 ls st a) := qa_ev_eq _ _ _ _ _ rfl
theorem ev_X8_kindOf_1 (ls st : List qV) (a : qA) : qa_ev P_X8_kindOf 1 ls st a = qa_go P_X8_kindOf (B_X8_kindOf_1 ls st a) := qa_ev_eq _ _ _ _ _ rfl
theorem ev_X8_kindOf_2 (ls st : List qV) (a : qA) : qa_ev P_X8_kindOf 2 ls st a = qa_go P_X8_kindOf (B_X8_kindOf_2 ls st a) := qa_ev_eq _ _ _ _ _ rfl
theorem ev_X8_kindOf_3 (ls st : List qV) (a : qA) : qa_ev P_X8_kindOf 3 ls st a = qa_go P_X8_kindOf (B_X8_kindOf_3 ls st a) := qa_ev_eq _ _ _ _ _ rfl
theorem ev_X8_kindOf_4 (ls st : List qV) (a : qA) : qa_ev P_X8_kindOf 4 ls st a = qa_go P_X8_kindOf (B_X8_kindOf_4 ls st a) := qa_ev_eq _ _ _ _ _ rfl
theorem ev_X8_kindOf_5 (ls st : List qV) (a : qA) : qa_ev P_X8_kindOf 5 ls st a = qa_go P_X8_kindOf (B_X8_kindOf_5 ls st a) := qa_ev_eq _ _ _ _ _ rfl
theorem ev_X8_kindOf_6 (ls st : List qV) (a : qA) : qa_ev P_X8_kindOf 6 ls st a = qa_go P_X8_kindOf (B_X8_kindOf_6 ls st a) := qa_ev_eq _ _ _ _ _ rfl
theorem ev_X8_next_0 (ls st : List qV) (a : qA) : qa_ev P_X8_next 0 ls st a = qa_go P_X8_next (B_X8_next_0 ls st a) := qa_ev_eq _ _ _ _ _ rfl
theorem ev_X8_next_1 (ls st : List qV) (a : qA) : qa_ev P_X8_next 1 ls st a = qa_go P_X8_next (B_X8_next_1 ls st a) := qa_ev_eq _ _ _ _ _ rfl
theorem ev_X8_next_2 (ls st : List qV) (a : qA) : qa_ev P_X8_next 2 ls st a = qa_go P_X8_next (B_X8_next_2 ls st a) := qa_ev_eq _ _ _ _ _ rfl
theorem ev_X8_next_3 (ls st : List qV) (a : qA) : qa_ev P_X8_next 3 ls st a = qa_go P_X8_next (B_X8_next_3 ls st a) := qa_ev_eq _ _ _ _ _ rfl
theorem ev_X8_next_4 (ls st : List qV) (a : qA) : qa_ev P_X8_next 4 ls st a = qa_go P_X8_next (B_X8_next_4 ls st a) := qa_ev_eq _ _ _ _ _ rfl
theorem ev_X8_next_5 (ls st : List qV) (a : qA) : qa_ev P_X8_next 5 ls st a = qa_go P_X8_next (B_X8_next_5 ls st a) := qa_ev_eq _ _ _ _ _ rfl
theorem ev_X8_next_6 (ls st : List qV) (a : qA) : qa_ev P_X8_next 6 ls st a = qa_go P_X8_next (B_X8_next_6 ls st a) := qa_ev_eq _ _ _ _ _ rfl
theorem ev_X8_next_7 (ls st : List qV) (a : qA) : qa_ev P_X8_next 7 ls st a = qa_go P_X8_next (B_X8_next_7 ls st a) := qa_ev_eq _ _ _ _ _ rfl
theorem ev_X8_next_8 (ls st : List qV) (a : qA) : qa_ev P_X8_next 8 ls st a = qa_go P_X8_next (B_X8_next_8 ls st a) := qa_ev_eq _ _ _ _ _ rfl
theorem ev_X8_next_9 (ls st : List qV) (a : qA) : qa_ev P_X8_next 9 ls st a = qa_go P_X8_next (B_X8_next_9 ls st a) := qa_ev_eq _ _ _ _ _ rfl
theorem ev_J0_coder_7d493_0 (ls st : List qV) (a : qA) : qa_ev P_J0_coder_7d493 0 ls st a = qa_go P_J0_coder_7d493 (B_J0_coder_7d493_0 ls st a) := qa_ev_eq _ _ _ _ _ rfl
theorem ev_J0_coder_7d493_1 (ls st : List qV) (a : qA) : qa_ev P_J0_coder_7d493 1 ls st a = qa_go P_J0_coder_7d493 (B_J0_coder_7d493_1 ls st a) := qa_ev_eq _ _ _ _ _ rfl
theorem ev_J0_coder_7d493_2 (ls st : List qV) (a : qA) : qa_ev P_J0_coder_7d493 2 ls st a = qa_go P_J0_coder_7d493 (B_J0_coder_7d493_2 ls st a) := qa_ev_eq _ _ _ _ _ rfl
theorem ev_J0_length_8abf5_0 (ls st : List qV) (a : qA) : qa_ev P_J0_length_8abf5 0 ls st a = qa_go P_J0_length_8abf5 (B_J0_length_8abf5_0 ls st a) := qa_ev_eq _ _ _ _ _ rfl
theorem ev_J0_isLatin1_aae02_0 (ls st : List qV) (a : qA) : qa_ev P_J0_isLatin1_aae02 0 ls st a = qa_go P_J0_isLatin1_aae02 (B_J0_isLatin1_aae02_0 ls st a) := qa_ev_eq _ _ _ _ _ rfl
theorem ev_J0_isLatin1_aae02_1 (ls st : List qV) (a : qA) : qa_ev P_J0_isLatin1_aae02 1 ls st a = qa_go P_J0_isLatin1_aae02 (B_J0_isLatin1_aae02_1 ls st a) := qa_ev_eq _ _ _ _ _ rfl
theorem ev_J0_isLatin1_aae02_2 (ls st : List qV) (a : qA) : qa_ev P_J0_isLatin1_aae02 2 ls st a = qa_go P_J0_isLatin1_aae02 (B_J0_isLatin1_aae02_2 ls st a) := qa_ev_eq _ _ _ _ _ rfl
theorem ev_J3_checkIndex_8e157_0 (ls st : List qV) (a : qA) : qa_ev P_J3_checkIndex_8e157 0 ls st a = qa_go P_J3_checkIndex_8e157 (B_J3_checkIndex_8e157_0 ls st a) := qa_ev_eq _ _ _ _ _ rfl
theorem ev_J3_checkIndex_8e157_1 (ls st : List qV) (a : qA) : qa_ev P_J3_checkIndex_8e157 1 ls st a = qa_go P_J3_checkIndex_8e157 (B_J3_checkIndex_8e157_1 ls st a) := qa_ev_eq _ _ _ _ _ rfl
theorem ev_J3_checkIndex_8e157_2 (ls st : List qV) (a : qA) : qa_ev P_J3_checkIndex_8e157 2 ls st a = qa_go P_J3_checkIndex_8e157 (B_J3_checkIndex_8e157_2 ls st a) := qa_ev_eq _ _ _ _ _ rfl
theorem ev_J0_checkIndex_df160_0 (ls st : List qV) (a : qA) : qa_ev P_J0_checkIndex_df160 0 ls st a = qa_go P_J0_checkIndex_df160 (B_J0_checkIndex_df160_0 ls st a) := qa_ev_eq _ _ _ _ _ rfl
theorem ev_J1_charAt_3b067_0 (ls st : List qV) (a : qA) : qa_ev P_J1_charAt_3b067 0 ls st a = qa_go P_J1_charAt_3b067 (B_J1_charAt_3b067_0 ls st a) := qa_ev_eq _ _ _ _ _ rfl
theorem ev_J0_charAt_5068e_0 (ls st : List qV) (a : qA) : qa_ev P_J0_charAt_5068e 0 ls st a = qa_go P_J0_charAt_5068e (B_J0_charAt_5068e_0 ls st a) := qa_ev_eq _ _ _ _ _ rfl
theorem ev_J0_charAt_5068e_1 (ls st : List qV) (a : qA) : qa_ev P_J0_charAt_5068e 1 ls st a = qa_go P_J0_charAt_5068e (B_J0_charAt_5068e_1 ls st a) := qa_ev_eq _ _ _ _ _ rfl
theorem ev_X8_isWord_0 (ls st : List qV) (a : qA) : qa_ev P_X8_isWord 0 ls st a = qa_go P_X8_isWord (B_X8_isWord_0 ls st a) := qa_ev_eq _ _ _ _ _ rfl
theorem ev_X8_isWord_1 (ls st : List qV) (a : qA) : qa_ev P_X8_isWord 1 ls st a = qa_go P_X8_isWord (B_X8_isWord_1 ls st a) := qa_ev_eq _ _ _ _ _ rfl
theorem ev_X8_isWord_2 (ls st : List qV) (a : qA) : qa_ev P_X8_isWord 2 ls st a = qa_go P_X8_isWord (B_X8_isWord_2 ls st a) := qa_ev_eq _ _ _ _ _ rfl
theorem ev_X8_isWord_3 (ls st : List qV) (a : qA) : qa_ev P_X8_isWord 3 ls st a = qa_go P_X8_isWord (B_X8_isWord_3 ls st a) := qa_ev_eq _ _ _ _ _ rfl
theorem ev_X8_isWord_4 (ls st : List qV) (a : qA) : qa_ev P_X8_isWord 4 ls st a = qa_go P_X8_isWord (B_X8_isWord_4 ls st a) := qa_ev_eq _ _ _ _ _ rfl
theorem ev_X8_isWord_5 (ls st : List qV) (a : qA) : qa_ev P_X8_isWord 5 ls st a = qa_go P_X8_isWord (B_X8_isWord_5 ls st a) := qa_ev_eq _ _ _ _ _ rfl
theorem ev_X8_isWord_6 (ls st : List qV) (a : qA) : qa_ev P_X8_isWord 6 ls st a = qa_go P_X8_isWord (B_X8_isWord_6 ls st a) := qa_ev_eq _ _ _ _ _ rfl
theorem ev_X8_verbHere_0 (ls st : List qV) (a : qA) : qa_ev P_X8_verbHere 0 ls st a = qa_go P_X8_verbHere (B_X8_verbHere_0 ls st a) := qa_ev_eq _ _ _ _ _ rfl
theorem ev_X8_verbHere_1 (ls st : List qV) (a : qA) : qa_ev P_X8_verbHere 1 ls st a = qa_go P_X8_verbHere (B_X8_verbHere_1 ls st a) := qa_ev_eq _ _ _ _ _ rfl
theorem ev_X8_verbHere_2 (ls st : List qV) (a : qA) : qa_ev P_X8_verbHere 2 ls st a = qa_go P_X8_verbHere (B_X8_verbHere_2 ls st a) := qa_ev_eq _ _ _ _ _ rfl
theorem ev_X8_verbHere_3 (ls st : List qV) (a : qA) : qa_ev P_X8_verbHere 3 ls st a = qa_go P_X8_verbHere (B_X8_verbHere_3 ls st a) := qa_ev_eq _ _ _ _ _ rfl
theorem ev_X8_fail_0 (ls st : List qV) (a : qA) : qa_ev P_X8_fail 0 ls st a = qa_go P_X8_fail (B_X8_fail_0 ls st a) := qa_ev_eq _ _ _ _ _ rfl
theorem ev_X8_keep_0 (ls st : List qV) (a : qA) : qa_ev P_X8_keep 0 ls st a = qa_go P_X8_keep (B_X8_keep_0 ls st a) := qa_ev_eq _ _ _ _ _ rfl
theorem ev_X8_keep_1 (ls st : List qV) (a : qA) : qa_ev P_X8_keep 1 ls st a = qa_go P_X8_keep (B_X8_keep_1 ls st a) := qa_ev_eq _ _ _ _ _ rfl
theorem ev_X8_parseEnd_0 (ls st : List qV) (a : qA) : qa_ev P_X8_parseEnd 0 ls st a = qa_go P_X8_parseEnd (B_X8_parseEnd_0 ls st a) := qa_ev_eq _ _ _ _ _ rfl
theorem ev_X8_parseEnd_1 (ls st : List qV) (a : qA) : qa_ev P_X8_parseEnd 1 ls st a = qa_go P_X8_parseEnd (B_X8_parseEnd_1 ls st a) := qa_ev_eq _ _ _ _ _ rfl
theorem ev_X8_parseEnd_2 (ls st : List qV) (a : qA) : qa_ev P_X8_parseEnd 2 ls st a = qa_go P_X8_parseEnd (B_X8_parseEnd_2 ls st a) := qa_ev_eq _ _ _ _ _ rfl
theorem ev_X8_parseEnd_3 (ls st : List qV) (a : qA) : qa_ev P_X8_parseEnd 3 ls st a = qa_go P_X8_parseEnd (B_X8_parseEnd_3 ls st a) := qa_ev_eq _ _ _ _ _ rfl
theorem ev_X8_numberHere_0 (ls st : List qV) (a : qA) : qa_ev P_X8_numberHere 0 ls st a = qa_go P_X8_numberHere (B_X8_numberHere_0 ls st a) := qa_ev_eq _ _ _ _ _ rfl
theorem ev_X8_numberHere_1 (ls st : List qV) (a : qA) : qa_ev P_X8_numberHere 1 ls st a = qa_go P_X8_numberHere (B_X8_numberHere_1 ls st a) := qa_ev_eq _ _ _ _ _ rfl
theorem ev_X8_numberHere_2 (ls st : List qV) (a : qA) : qa_ev P_X8_numberHere 2 ls st a = qa_go P_X8_numberHere (B_X8_numberHere_2 ls st a) := qa_ev_eq _ _ _ _ _ rfl
theorem ev_X8_leastOf_0 (ls st : List qV) (a : qA) : qa_ev P_X8_leastOf 0 ls st a = qa_go P_X8_leastOf (B_X8_leastOf_0 ls st a) := qa_ev_eq _ _ _ _ _ rfl
theorem ev_X8_leastOf_1 (ls st : List qV) (a : qA) : qa_ev P_X8_leastOf 1 ls st a = qa_go P_X8_leastOf (B_X8_leastOf_1 ls st a) := qa_ev_eq _ _ _ _ _ rfl
theorem ev_X8_leastOf_2 (ls st : List qV) (a : qA) : qa_ev P_X8_leastOf 2 ls st a = qa_go P_X8_leastOf (B_X8_leastOf_2 ls st a) := qa_ev_eq _ _ _ _ _ rfl
theorem ev_X8_leastOf_3 (ls st : List qV) (a : qA) : qa_ev P_X8_leastOf 3 ls st a = qa_go P_X8_leastOf (B_X8_leastOf_3 ls st a) := qa_ev_eq _ _ _ _ _ rfl
theorem ev_X8_mostOf_0 (ls st : List qV) (a : qA) : qa_ev P_X8_mostOf 0 ls st a = qa_go P_X8_mostOf (B_X8_mostOf_0 ls st a) := qa_ev_eq _ _ _ _ _ rfl
theorem ev_X8_mostOf_1 (ls st : List qV) (a : qA) : qa_ev P_X8_mostOf 1 ls st a = qa_go P_X8_mostOf (B_X8_mostOf_1 ls st a) := qa_ev_eq _ _ _ _ _ rfl
theorem ev_X8_mostOf_2 (ls st : List qV) (a : qA) : qa_ev P_X8_mostOf 2 ls st a = qa_go P_X8_mostOf (B_X8_mostOf_2 ls st a) := qa_ev_eq _ _ _ _ _ rfl
theorem ev_X8_mostOf_3 (ls st : List qV) (a : qA) : qa_ev P_X8_mostOf 3 ls st a = qa_go P_X8_mostOf (B_X8_mostOf_3 ls st a) := qa_ev_eq _ _ _ _ _ rfl
theorem ev_X8_mostOf_4 (ls st : List qV) (a : qA) : qa_ev P_X8_mostOf 4 ls st a = qa_go P_X8_mostOf (B_X8_mostOf_4 ls st a) := qa_ev_eq _ _ _ _ _ rfl
theorem ev_X8_mostOf_5 (ls st : List qV) (a : qA) : qa_ev P_X8_mostOf 5 ls st a = qa_go P_X8_mostOf (B_X8_mostOf_5 ls st a) := qa_ev_eq _ _ _ _ _ rfl
theorem ev_X8_mostOf_6 (ls st : List qV) (a : qA) : qa_ev P_X8_mostOf 6 ls st a = qa_go P_X8_mostOf (B_X8_mostOf_6 ls st a) := qa_ev_eq _ _ _ _ _ rfl
theorem ev_X8_parseOperand_0 (ls st : List qV) (a : qA) : qa_ev P_X8_parseOperand 0 ls st a = qa_go P_X8_parseOperand (B_X8_parseOperand_0 ls st a) := qa_ev_eq _ _ _ _ _ rfl
theorem ev_X8_parseOperand_1 (ls st : List qV) (a : qA) : qa_ev P_X8_parseOperand 1 ls st a = qa_go P_X8_parseOperand (B_X8_parseOperand_1 ls st a) := qa_ev_eq _ _ _ _ _ rfl
theorem ev_X8_parseOperand_2 (ls st : List qV) (a : qA) : qa_ev P_X8_parseOperand 2 ls st a = qa_go P_X8_parseOperand (B_X8_parseOperand_2 ls st a) := qa_ev_eq _ _ _ _ _ rfl
theorem ev_X8_parseOperand_3 (ls st : List qV) (a : qA) : qa_ev P_X8_parseOperand 3 ls st a = qa_go P_X8_parseOperand (B_X8_parseOperand_3 ls st a) := qa_ev_eq _ _ _ _ _ rfl
theorem ev_X8_parseOperand_4 (ls st : List qV) (a : qA) : qa_ev P_X8_parseOperand 4 ls st a = qa_go P_X8_parseOperand (B_X8_parseOperand_4 ls st a) := qa_ev_eq _ _ _ _ _ rfl
theorem ev_X8_parseOperand_5 (ls st : List qV) (a : qA) : qa_ev P_X8_parseOperand 5 ls st a = qa_go P_X8_parseOperand (B_X8_parseOperand_5 ls st a) := qa_ev_eq _ _ _ _ _ rfl
theorem ev_X8_parseOperand_6 (ls st : List qV) (a : qA) : qa_ev P_X8_parseOperand 6 ls st a = qa_go P_X8_parseOperand (B_X8_parseOperand_6 ls st a) := qa_ev_eq _ _ _ _ _ rfl
theorem ev_X8_parseOperand_7 (ls st : List qV) (a : qA) : qa_ev P_X8_parseOperand 7 ls st a = qa_go P_X8_parseOperand (B_X8_parseOperand_7 ls st a) := qa_ev_eq _ _ _ _ _ rfl
theorem ev_X8_parseOperand_8 (ls st : List qV) (a : qA) : qa_ev P_X8_parseOperand 8 ls st a = qa_go P_X8_parseOperand (B_X8_parseOperand_8 ls st a) := qa_ev_eq _ _ _ _ _ rfl
theorem ev_X8_parseOperand_9 (ls st : List qV) (a : qA) : qa_ev P_X8_parseOperand 9 ls st a = qa_go P_X8_parseOperand (B_X8_parseOperand_9 ls st a) := qa_ev_eq _ _ _ _ _ rfl
theorem ev_X8_parseCommand_0 (ls st : List qV) (a : qA) : qa_ev P_X8_parseCommand 0 ls st a = qa_go P_X8_parseCommand (B_X8_parseCommand_0 ls st a) := qa_ev_eq _ _ _ _ _ rfl
theorem ev_X8_parseCommand_1 (ls st : List qV) (a : qA) : qa_ev P_X8_parseCommand 1 ls st a = qa_go P_X8_parseCommand (B_X8_parseCommand_1 ls st a) := qa_ev_eq _ _ _ _ _ rfl
theorem ev_X8_parseCommand_2 (ls st : List qV) (a : qA) : qa_ev P_X8_parseCommand 2 ls st a = qa_go P_X8_parseCommand (B_X8_parseCommand_2 ls st a) := qa_ev_eq _ _ _ _ _ rfl
theorem ev_X8_parseCommand_3 (ls st : List qV) (a : qA) : qa_ev P_X8_parseCommand 3 ls st a = qa_go P_X8_parseCommand (B_X8_parseCommand_3 ls st a) := qa_ev_eq _ _ _ _ _ rfl
theorem ev_X8_parseCommand_4 (ls st : List qV) (a : qA) : qa_ev P_X8_parseCommand 4 ls st a = qa_go P_X8_parseCommand (B_X8_parseCommand_4 ls st a) := qa_ev_eq _ _ _ _ _ rfl
theorem ev_X8_parseCommand_5 (ls st : List qV) (a : qA) : qa_ev P_X8_parseCommand 5 ls st a = qa_go P_X8_parseCommand (B_X8_parseCommand_5 ls st a) := qa_ev_eq _ _ _ _ _ rfl
theorem ev_X8_parseCommand_6 (ls st : List qV) (a : qA) : qa_ev P_X8_parseCommand 6 ls st a = qa_go P_X8_parseCommand (B_X8_parseCommand_6 ls st a) := qa_ev_eq _ _ _ _ _ rfl
theorem ev_X8_parseCommand_7 (ls st : List qV) (a : qA) : qa_ev P_X8_parseCommand 7 ls st a = qa_go P_X8_parseCommand (B_X8_parseCommand_7 ls st a) := qa_ev_eq _ _ _ _ _ rfl
theorem ev_X8_parse_0 (ls st : List qV) (a : qA) : qa_ev P_X8_parse 0 ls st a = qa_go P_X8_parse (B_X8_parse_0 ls st a) := qa_ev_eq _ _ _ _ _ rfl
theorem ev_X8_parse_1 (ls st : List qV) (a : qA) : qa_ev P_X8_parse 1 ls st a = qa_go P_X8_parse (B_X8_parse_1 ls st a) := qa_ev_eq _ _ _ _ _ rfl
theorem ev_X8_parse_2 (ls st : List qV) (a : qA) : qa_ev P_X8_parse 2 ls st a = qa_go P_X8_parse (B_X8_parse_2 ls st a) := qa_ev_eq _ _ _ _ _ rfl
theorem ev_X8_verbOf_0 (ls st : List qV) (a : qA) : qa_ev P_X8_verbOf 0 ls st a = qa_go P_X8_verbOf (B_X8_verbOf_0 ls st a) := qa_ev_eq _ _ _ _ _ rfl
theorem ev_X8_verbOf_1 (ls st : List qV) (a : qA) : qa_ev P_X8_verbOf 1 ls st a = qa_go P_X8_verbOf (B_X8_verbOf_1 ls st a) := qa_ev_eq _ _ _ _ _ rfl
theorem ev_X8_verbOf_2 (ls st : List qV) (a : qA) : qa_ev P_X8_verbOf 2 ls st a = qa_go P_X8_verbOf (B_X8_verbOf_2 ls st a) := qa_ev_eq _ _ _ _ _ rfl
theorem ev_X8_operandOf_0 (ls st : List qV) (a : qA) : qa_ev P_X8_operandOf 0 ls st a = qa_go P_X8_operandOf (B_X8_operandOf_0 ls st a) := qa_ev_eq _ _ _ _ _ rfl
theorem ev_X8_operandOf_1 (ls st : List qV) (a : qA) : qa_ev P_X8_operandOf 1 ls st a = qa_go P_X8_operandOf (B_X8_operandOf_1 ls st a) := qa_ev_eq _ _ _ _ _ rfl
theorem ev_X8_operandOf_2 (ls st : List qV) (a : qA) : qa_ev P_X8_operandOf 2 ls st a = qa_go P_X8_operandOf (B_X8_operandOf_2 ls st a) := qa_ev_eq _ _ _ _ _ rfl
theorem ev_X9_branchAt_0 (ls st : List qV) (a : qA) : qa_ev P_X9_branchAt 0 ls st a = qa_go P_X9_branchAt (B_X9_branchAt_0 ls st a) := qa_ev_eq _ _ _ _ _ rfl
theorem ev_X9_branchAt_1 (ls st : List qV) (a : qA) : qa_ev P_X9_branchAt 1 ls st a = qa_go P_X9_branchAt (B_X9_branchAt_1 ls st a) := qa_ev_eq _ _ _ _ _ rfl
theorem ev_X9_branchAt_2 (ls st : List qV) (a : qA) : qa_ev P_X9_branchAt 2 ls st a = qa_go P_X9_branchAt (B_X9_branchAt_2 ls st a) := qa_ev_eq _ _ _ _ _ rfl
theorem ev_X9_branchAt_3 (ls st : List qV) (a : qA) : qa_ev P_X9_branchAt 3 ls st a = qa_go P_X9_branchAt (B_X9_branchAt_3 ls st a) := qa_ev_eq _ _ _ _ _ rfl
theorem ev_X9_branchAt_4 (ls st : List qV) (a : qA) : qa_ev P_X9_branchAt 4 ls st a = qa_go P_X9_branchAt (B_X9_branchAt_4 ls st a) := qa_ev_eq _ _ _ _ _ rfl
theorem ev_X9_readerAt_0 (ls st : List qV) (a : qA) : qa_ev P_X9_readerAt 0 ls st a = qa_go P_X9_readerAt (B_X9_readerAt_0 ls st a) := qa_ev_eq _ _ _ _ _ rfl
theorem ev_X9_readerAt_1 (ls st : List qV) (a : qA) : qa_ev P_X9_readerAt 1 ls st a = qa_go P_X9_readerAt (B_X9_readerAt_1 ls st a) := qa_ev_eq _ _ _ _ _ rfl
theorem ev_X9_readerAt_2 (ls st : List qV) (a : qA) : qa_ev P_X9_readerAt 2 ls st a = qa_go P_X9_readerAt (B_X9_readerAt_2 ls st a) := qa_ev_eq _ _ _ _ _ rfl
theorem ev_X9_readerAt_3 (ls st : List qV) (a : qA) : qa_ev P_X9_readerAt 3 ls st a = qa_go P_X9_readerAt (B_X9_readerAt_3 ls st a) := qa_ev_eq _ _ _ _ _ rfl
theorem ev_X9_readerAt_4 (ls st : List qV) (a : qA) : qa_ev P_X9_readerAt 4 ls st a = qa_go P_X9_readerAt (B_X9_readerAt_4 ls st a) := qa_ev_eq _ _ _ _ _ rfl
theorem ev_X11_needBranch_0 (ls st : List qV) (a : qA) : qa_ev P_X11_needBranch 0 ls st a = qa_go P_X11_needBranch (B_X11_needBranch_0 ls st a) := qa_ev_eq _ _ _ _ _ rfl
theorem ev_X11_needBranch_1 (ls st : List qV) (a : qA) : qa_ev P_X11_needBranch 1 ls st a = qa_go P_X11_needBranch (B_X11_needBranch_1 ls st a) := qa_ev_eq _ _ _ _ _ rfl
theorem ev_X1_forgetOldest_0 (ls st : List qV) (a : qA) : qa_ev P_X1_forgetOldest 0 ls st a = qa_go P_X1_forgetOldest (B_X1_forgetOldest_0 ls st a) := qa_ev_eq _ _ _ _ _ rfl
theorem ev_X1_forgetOldest_1 (ls st : List qV) (a : qA) : qa_ev P_X1_forgetOldest 1 ls st a = qa_go P_X1_forgetOldest (B_X1_forgetOldest_1 ls st a) := qa_ev_eq _ _ _ _ _ rfl
theorem ev_X1_forgetOldest_2 (ls st : List qV) (a : qA) : qa_ev P_X1_forgetOldest 2 ls st a = qa_go P_X1_forgetOldest (B_X1_forgetOldest_2 ls st a) := qa_ev_eq _ _ _ _ _ rfl
theorem ev_X2_copyFrom_0 (ls st : List qV) (a : qA) : qa_ev P_X2_copyFrom 0 ls st a = qa_go P_X2_copyFrom (B_X2_copyFrom_0 ls st a) := qa_ev_eq _ _ _ _ _ rfl
theorem ev_X2_copyFrom_1 (ls st : List qV) (a : qA) : qa_ev P_X2_copyFrom 1 ls st a = qa_go P_X2_copyFrom (B_X2_copyFrom_1 ls st a) := qa_ev_eq _ _ _ _ _ rfl
theorem ev_X2_copyFrom_2 (ls st : List qV) (a : qA) : qa_ev P_X2_copyFrom 2 ls st a = qa_go P_X2_copyFrom (B_X2_copyFrom_2 ls st a) := qa_ev_eq _ _ _ _ _ rfl
theorem ev_X3_copyFrom_0 (ls st : List qV) (a : qA) : qa_ev P_X3_copyFrom 0 ls st a = qa_go P_X3_copyFrom (B_X3_copyFrom_0 ls st a) := qa_ev_eq _ _ _ _ _ rfl
theorem ev_X3_copyFrom_1 (ls st : List qV) (a : qA) : qa_ev P_X3_copyFrom 1 ls st a = qa_go P_X3_copyFrom (B_X3_copyFrom_1 ls st a) := qa_ev_eq _ _ _ _ _ rfl
theorem ev_X6_copyFrom_0 (ls st : List qV) (a : qA) : qa_ev P_X6_copyFrom 0 ls st a = qa_go P_X6_copyFrom (B_X6_copyFrom_0 ls st a) := qa_ev_eq _ _ _ _ _ rfl
theorem ev_X6_copyFrom_1 (ls st : List qV) (a : qA) : qa_ev P_X6_copyFrom 1 ls st a = qa_go P_X6_copyFrom (B_X6_copyFrom_1 ls st a) := qa_ev_eq _ _ _ _ _ rfl
theorem ev_X6_copyFrom_2 (ls st : List qV) (a : qA) : qa_ev P_X6_copyFrom 2 ls st a = qa_go P_X6_copyFrom (B_X6_copyFrom_2 ls st a) := qa_ev_eq _ _ _ _ _ rfl
theorem ev_X9_copyFrom_0 (ls st : List qV) (a : qA) : qa_ev P_X9_copyFrom 0 ls st a = qa_go P_X9_copyFrom (B_X9_copyFrom_0 ls st a) := qa_ev_eq _ _ _ _ _ rfl
theorem ev_X9_copyFrom_1 (ls st : List qV) (a : qA) : qa_ev P_X9_copyFrom 1 ls st a = qa_go P_X9_copyFrom (B_X9_copyFrom_1 ls st a) := qa_ev_eq _ _ _ _ _ rfl
theorem ev_X9_copyFrom_2 (ls st : List qV) (a : qA) : qa_ev P_X9_copyFrom 2 ls st a = qa_go P_X9_copyFrom (B_X9_copyFrom_2 ls st a) := qa_ev_eq _ _ _ _ _ rfl
theorem ev_X9_copyFrom_3 (ls st : List qV) (a : qA) : qa_ev P_X9_copyFrom 3 ls st a = qa_go P_X9_copyFrom (B_X9_copyFrom_3 ls st a) := qa_ev_eq _ _ _ _ _ rfl
theorem ev_X9_copyFrom_4 (ls st : List qV) (a : qA) : qa_ev P_X9_copyFrom 4 ls st a = qa_go P_X9_copyFrom (B_X9_copyFrom_4 ls st a) := qa_ev_eq _ _ _ _ _ rfl
theorem ev_X1_begin_0 (ls st : List qV) (a : qA) : qa_ev P_X1_begin 0 ls st a = qa_go P_X1_begin (B_X1_begin_0 ls st a) := qa_ev_eq _ _ _ _ _ rfl
theorem ev_X1_begin_1 (ls st : List qV) (a : qA) : qa_ev P_X1_begin 1 ls st a = qa_go P_X1_begin (B_X1_begin_1 ls st a) := qa_ev_eq _ _ _ _ _ rfl
theorem ev_X1_begin_2 (ls st : List qV) (a : qA) : qa_ev P_X1_begin 2 ls st a = qa_go P_X1_begin (B_X1_begin_2 ls st a) := qa_ev_eq _ _ _ _ _ rfl
theorem ev_X1_begin_3 (ls st : List qV) (a : qA) : qa_ev P_X1_begin 3 ls st a = qa_go P_X1_begin (B_X1_begin_3 ls st a) := qa_ev_eq _ _ _ _ _ rfl
theorem ev_X1_begin_4 (ls st : List qV) (a : qA) : qa_ev P_X1_begin 4 ls st a = qa_go P_X1_begin (B_X1_begin_4 ls st a) := qa_ev_eq _ _ _ _ _ rfl
theorem ev_X5_init_0 (ls st : List qV) (a : qA) : qa_ev P_X5_init 0 ls st a = qa_go P_X5_init (B_X5_init_0 ls st a) := qa_ev_eq _ _ _ _ _ rfl
theorem ev_X2_add_0 (ls st : List qV) (a : qA) : qa_ev P_X2_add 0 ls st a = qa_go P_X2_add (B_X2_add_0 ls st a) := qa_ev_eq _ _ _ _ _ rfl
theorem ev_X2_add_1 (ls st : List qV) (a : qA) : qa_ev P_X2_add 1 ls st a = qa_go P_X2_add (B_X2_add_1 ls st a) := qa_ev_eq _ _ _ _ _ rfl
theorem ev_X2_at_0 (ls st : List qV) (a : qA) : qa_ev P_X2_at 0 ls st a = qa_go P_X2_at (B_X2_at_0 ls st a) := qa_ev_eq _ _ _ _ _ rfl
theorem ev_X2_at_1 (ls st : List qV) (a : qA) : qa_ev P_X2_at 1 ls st a = qa_go P_X2_at (B_X2_at_1 ls st a) := qa_ev_eq _ _ _ _ _ rfl
theorem ev_X2_at_2 (ls st : List qV) (a : qA) : qa_ev P_X2_at 2 ls st a = qa_go P_X2_at (B_X2_at_2 ls st a) := qa_ev_eq _ _ _ _ _ rfl
theorem ev_X2_at_3 (ls st : List qV) (a : qA) : qa_ev P_X2_at 3 ls st a = qa_go P_X2_at (B_X2_at_3 ls st a) := qa_ev_eq _ _ _ _ _ rfl
theorem ev_X2_at_4 (ls st : List qV) (a : qA) : qa_ev P_X2_at 4 ls st a = qa_go P_X2_at (B_X2_at_4 ls st a) := qa_ev_eq _ _ _ _ _ rfl
theorem ev_X7_valueOf_0 (ls st : List qV) (a : qA) : qa_ev P_X7_valueOf 0 ls st a = qa_go P_X7_valueOf (B_X7_valueOf_0 ls st a) := qa_ev_eq _ _ _ _ _ rfl
theorem ev_X7_valueOf_1 (ls st : List qV) (a : qA) : qa_ev P_X7_valueOf 1 ls st a = qa_go P_X7_valueOf (B_X7_valueOf_1 ls st a) := qa_ev_eq _ _ _ _ _ rfl
theorem ev_X7_valueOf_2 (ls st : List qV) (a : qA) : qa_ev P_X7_valueOf 2 ls st a = qa_go P_X7_valueOf (B_X7_valueOf_2 ls st a) := qa_ev_eq _ _ _ _ _ rfl
theorem ev_X6_isIn_0 (ls st : List qV) (a : qA) : qa_ev P_X6_isIn 0 ls st a = qa_go P_X6_isIn (B_X6_isIn_0 ls st a) := qa_ev_eq _ _ _ _ _ rfl
theorem ev_X6_isIn_1 (ls st : List qV) (a : qA) : qa_ev P_X6_isIn 1 ls st a = qa_go P_X6_isIn (B_X6_isIn_1 ls st a) := qa_ev_eq _ _ _ _ _ rfl
theorem ev_X6_isIn_2 (ls st : List qV) (a : qA) : qa_ev P_X6_isIn 2 ls st a = qa_go P_X6_isIn (B_X6_isIn_2 ls st a) := qa_ev_eq _ _ _ _ _ rfl
theorem ev_X6_isCovered_0 (ls st : List qV) (a : qA) : qa_ev P_X6_isCovered 0 ls st a = qa_go P_X6_isCovered (B_X6_isCovered_0 ls st a) := qa_ev_eq _ _ _ _ _ rfl
theorem ev_X6_isCovered_1 (ls st : List qV) (a : qA) : qa_ev P_X6_isCovered 1 ls st a = qa_go P_X6_isCovered (B_X6_isCovered_1 ls st a) := qa_ev_eq _ _ _ _ _ rfl
theorem ev_X6_isCovered_2 (ls st : List qV) (a : qA) : qa_ev P_X6_isCovered 2 ls st a = qa_go P_X6_isCovered (B_X6_isCovered_2 ls st a) := qa_ev_eq _ _ _ _ _ rfl
theorem ev_X6_isCovered_3 (ls st : List qV) (a : qA) : qa_ev P_X6_isCovered 3 ls st a = qa_go P_X6_isCovered (B_X6_isCovered_3 ls st a) := qa_ev_eq _ _ _ _ _ rfl
theorem ev_X9_holderOf_0 (ls st : List qV) (a : qA) : qa_ev P_X9_holderOf 0 ls st a = qa_go P_X9_holderOf (B_X9_holderOf_0 ls st a) := qa_ev_eq _ _ _ _ _ rfl
theorem ev_X9_holderOf_1 (ls st : List qV) (a : qA) : qa_ev P_X9_holderOf 1 ls st a = qa_go P_X9_holderOf (B_X9_holderOf_1 ls st a) := qa_ev_eq _ _ _ _ _ rfl
theorem ev_X9_holderOf_2 (ls st : List qV) (a : qA) : qa_ev P_X9_holderOf 2 ls st a = qa_go P_X9_holderOf (B_X9_holderOf_2 ls st a) := qa_ev_eq _ _ _ _ _ rfl
theorem ev_X9_holderOf_3 (ls st : List qV) (a : qA) : qa_ev P_X9_holderOf 3 ls st a = qa_go P_X9_holderOf (B_X9_holderOf_3 ls st a) := qa_ev_eq _ _ _ _ _ rfl
theorem ev_X9_holderOf_4 (ls st : List qV) (a : qA) : qa_ev P_X9_holderOf 4 ls st a = qa_go P_X9_holderOf (B_X9_holderOf_4 ls st a) := qa_ev_eq _ _ _ _ _ rfl
theorem ev_X9_holderOf_5 (ls st : List qV) (a : qA) : qa_ev P_X9_holderOf 5 ls st a = qa_go P_X9_holderOf (B_X9_holderOf_5 ls st a) := qa_ev_eq _ _ _ _ _ rfl
theorem ev_X9_holderOf_6 (ls st : List qV) (a : qA) : qa_ev P_X9_holderOf 6 ls st a = qa_go P_X9_holderOf (B_X9_holderOf_6 ls st a) := qa_ev_eq _ _ _ _ _ rfl
theorem ev_X9_isReadByAll_0 (ls st : List qV) (a : qA) : qa_ev P_X9_isReadByAll 0 ls st a = qa_go P_X9_isReadByAll (B_X9_isReadByAll_0 ls st a) := qa_ev_eq _ _ _ _ _ rfl
theorem ev_X9_isReadByAll_1 (ls st : List qV) (a : qA) : qa_ev P_X9_isReadByAll 1 ls st a = qa_go P_X9_isReadByAll (B_X9_isReadByAll_1 ls st a) := qa_ev_eq _ _ _ _ _ rfl
theorem ev_X9_isReadByAll_2 (ls st : List qV) (a : qA) : qa_ev P_X9_isReadByAll 2 ls st a = qa_go P_X9_isReadByAll (B_X9_isReadByAll_2 ls st a) := qa_ev_eq _ _ _ _ _ rfl
theorem ev_X9_isReadByAll_3 (ls st : List qV) (a : qA) : qa_ev P_X9_isReadByAll 3 ls st a = qa_go P_X9_isReadByAll (B_X9_isReadByAll_3 ls st a) := qa_ev_eq _ _ _ _ _ rfl
theorem ev_X9_causeFor_0 (ls st : List qV) (a : qA) : qa_ev P_X9_causeFor 0 ls st a = qa_go P_X9_causeFor (B_X9_causeFor_0 ls st a) := qa_ev_eq _ _ _ _ _ rfl
theorem ev_X9_causeFor_1 (ls st : List qV) (a : qA) : qa_ev P_X9_causeFor 1 ls st a = qa_go P_X9_causeFor (B_X9_causeFor_1 ls st a) := qa_ev_eq _ _ _ _ _ rfl
theorem ev_X9_causeFor_2 (ls st : List qV) (a : qA) : qa_ev P_X9_causeFor 2 ls st a = qa_go P_X9_causeFor (B_X9_causeFor_2 ls st a) := qa_ev_eq _ _ _ _ _ rfl
theorem ev_X9_causeFor_3 (ls st : List qV) (a : qA) : qa_ev P_X9_causeFor 3 ls st a = qa_go P_X9_causeFor (B_X9_causeFor_3 ls st a) := qa_ev_eq _ _ _ _ _ rfl
theorem ev_X9_causeFor_4 (ls st : List qV) (a : qA) : qa_ev P_X9_causeFor 4 ls st a = qa_go P_X9_causeFor (B_X9_causeFor_4 ls st a) := qa_ev_eq _ _ _ _ _ rfl
theorem ev_X9_causeFor_5 (ls st : List qV) (a : qA) : qa_ev P_X9_causeFor 5 ls st a = qa_go P_X9_causeFor (B_X9_causeFor_5 ls st a) := qa_ev_eq _ _ _ _ _ rfl
theorem ev_X9_causeFor_6 (ls st : List qV) (a : qA) : qa_ev P_X9_causeFor 6 ls st a = qa_go P_X9_causeFor (B_X9_causeFor_6 ls st a) := qa_ev_eq _ _ _ _ _ rfl
theorem ev_X9_causeFor_7 (ls st : List qV) (a : qA) : qa_ev P_X9_causeFor 7 ls st a = qa_go P_X9_causeFor (B_X9_causeFor_7 ls st a) := qa_ev_eq _ _ _ _ _ rfl
theorem ev_X9_causeFor_8 (ls st : List qV) (a : qA) : qa_ev P_X9_causeFor 8 ls st a = qa_go P_X9_causeFor (B_X9_causeFor_8 ls st a) := qa_ev_eq _ _ _ _ _ rfl
theorem ev_X2_cutFirst_0 (ls st : List qV) (a : qA) : qa_ev P_X2_cutFirst 0 ls st a = qa_go P_X2_cutFirst (B_X2_cutFirst_0 ls st a) := qa_ev_eq _ _ _ _ _ rfl
theorem ev_X3_add_0 (ls st : List qV) (a : qA) : qa_ev P_X3_add 0 ls st a = qa_go P_X3_add (B_X3_add_0 ls st a) := qa_ev_eq _ _ _ _ _ rfl
theorem ev_X3_add_1 (ls st : List qV) (a : qA) : qa_ev P_X3_add 1 ls st a = qa_go P_X3_add (B_X3_add_1 ls st a) := qa_ev_eq _ _ _ _ _ rfl
theorem ev_X3_add_2 (ls st : List qV) (a : qA) : qa_ev P_X3_add 2 ls st a = qa_go P_X3_add (B_X3_add_2 ls st a) := qa_ev_eq _ _ _ _ _ rfl
theorem ev_X3_add_3 (ls st : List qV) (a : qA) : qa_ev P_X3_add 3 ls st a = qa_go P_X3_add (B_X3_add_3 ls st a) := qa_ev_eq _ _ _ _ _ rfl
theorem ev_X3_add_4 (ls st : List qV) (a : qA) : qa_ev P_X3_add 4 ls st a = qa_go P_X3_add (B_X3_add_4 ls st a) := qa_ev_eq _ _ _ _ _ rfl
theorem ev_X3_add_5 (ls st : List qV) (a : qA) : qa_ev P_X3_add 5 ls st a = qa_go P_X3_add (B_X3_add_5 ls st a) := qa_ev_eq _ _ _ _ _ rfl
theorem ev_X3_add_6 (ls st : List qV) (a : qA) : qa_ev P_X3_add 6 ls st a = qa_go P_X3_add (B_X3_add_6 ls st a) := qa_ev_eq _ _ _ _ _ rfl
theorem ev_X3_add_7 (ls st : List qV) (a : qA) : qa_ev P_X3_add 7 ls st a = qa_go P_X3_add (B_X3_add_7 ls st a) := qa_ev_eq _ _ _ _ _ rfl
theorem ev_X3_add_8 (ls st : List qV) (a : qA) : qa_ev P_X3_add 8 ls st a = qa_go P_X3_add (B_X3_add_8 ls st a) := qa_ev_eq _ _ _ _ _ rfl
theorem ev_X3_add_9 (ls st : List qV) (a : qA) : qa_ev P_X3_add 9 ls st a = qa_go P_X3_add (B_X3_add_9 ls st a) := qa_ev_eq _ _ _ _ _ rfl
theorem ev_X3_add_10 (ls st : List qV) (a : qA) : qa_ev P_X3_add 10 ls st a = qa_go P_X3_add (B_X3_add_10 ls st a) := qa_ev_eq _ _ _ _ _ rfl
theorem ev_X3_add_11 (ls st : List qV) (a : qA) : qa_ev P_X3_add 11 ls st a = qa_go P_X3_add (B_X3_add_11 ls st a) := qa_ev_eq _ _ _ _ _ rfl
theorem ev_X3_add_12 (ls st : List qV) (a : qA) : qa_ev P_X3_add 12 ls st a = qa_go P_X3_add (B_X3_add_12 ls st a) := qa_ev_eq _ _ _ _ _ rfl
theorem ev_X9_cutOne_0 (ls st : List qV) (a : qA) : qa_ev P_X9_cutOne 0 ls st a = qa_go P_X9_cutOne (B_X9_cutOne_0 ls st a) := qa_ev_eq _ _ _ _ _ rfl
theorem ev_X9_cutOne_1 (ls st : List qV) (a : qA) : qa_ev P_X9_cutOne 1 ls st a = qa_go P_X9_cutOne (B_X9_cutOne_1 ls st a) := qa_ev_eq _ _ _ _ _ rfl
theorem ev_X9_cutOne_2 (ls st : List qV) (a : qA) : qa_ev P_X9_cutOne 2 ls st a = qa_go P_X9_cutOne (B_X9_cutOne_2 ls st a) := qa_ev_eq _ _ _ _ _ rfl
theorem ev_X9_cutOne_3 (ls st : List qV) (a : qA) : qa_ev P_X9_cutOne 3 ls st a = qa_go P_X9_cutOne (B_X9_cutOne_3 ls st a) := qa_ev_eq _ _ _ _ _ rfl
theorem ev_X9_cutOne_4 (ls st : List qV) (a : qA) : qa_ev P_X9_cutOne 4 ls st a = qa_go P_X9_cutOne (B_X9_cutOne_4 ls st a) := qa_ev_eq _ _ _ _ _ rfl
theorem ev_X9_cutBehind_0 (ls st : List qV) (a : qA) : qa_ev P_X9_cutBehind 0 ls st a = qa_go P_X9_cutBehind (B_X9_cutBehind_0 ls st a) := qa_ev_eq _ _ _ _ _ rfl
theorem ev_X9_cutBehind_1 (ls st : List qV) (a : qA) : qa_ev P_X9_cutBehind 1 ls st a = qa_go P_X9_cutBehind (B_X9_cutBehind_1 ls st a) := qa_ev_eq _ _ _ _ _ rfl
theorem ev_X9_cutBehind_2 (ls st : List qV) (a : qA) : qa_ev P_X9_cutBehind 2 ls st a = qa_go P_X9_cutBehind (B_X9_cutBehind_2 ls st a) := qa_ev_eq _ _ _ _ _ rfl
theorem ev_X9_cutBehind_3 (ls st : List qV) (a : qA) : qa_ev P_X9_cutBehind 3 ls st a = qa_go P_X9_cutBehind (B_X9_cutBehind_3 ls st a) := qa_ev_eq _ _ _ _ _ rfl
theorem ev_X11_append_0 (ls st : List qV) (a : qA) : qa_ev P_X11_append 0 ls st a = qa_go P_X11_append (B_X11_append_0 ls st a) := qa_ev_eq _ _ _ _ _ rfl
theorem ev_X11_append_1 (ls st : List qV) (a : qA) : qa_ev P_X11_append 1 ls st a = qa_go P_X11_append (B_X11_append_1 ls st a) := qa_ev_eq _ _ _ _ _ rfl
theorem ev_X9_freeReader_0 (ls st : List qV) (a : qA) : qa_ev P_X9_freeReader 0 ls st a = qa_go P_X9_freeReader (B_X9_freeReader_0 ls st a) := qa_ev_eq _ _ _ _ _ rfl
theorem ev_X9_freeReader_1 (ls st : List qV) (a : qA) : qa_ev P_X9_freeReader 1 ls st a = qa_go P_X9_freeReader (B_X9_freeReader_1 ls st a) := qa_ev_eq _ _ _ _ _ rfl
theorem ev_X9_freeReader_2 (ls st : List qV) (a : qA) : qa_ev P_X9_freeReader 2 ls st a = qa_go P_X9_freeReader (B_X9_freeReader_2 ls st a) := qa_ev_eq _ _ _ _ _ rfl
theorem ev_X9_freeReader_3 (ls st : List qV) (a : qA) : qa_ev P_X9_freeReader 3 ls st a = qa_go P_X9_freeReader (B_X9_freeReader_3 ls st a) := qa_ev_eq _ _ _ _ _ rfl
theorem ev_X1_refuse_0 (ls st : List qV) (a : qA) : qa_ev P_X1_refuse 0 ls st a = qa_go P_X1_refuse (B_X1_refuse_0 ls st a) := qa_ev_eq _ _ _ _ _ rfl
theorem ev_X1_refuse_1 (ls st : List qV) (a : qA) : qa_ev P_X1_refuse 1 ls st a = qa_go P_X1_refuse (B_X1_refuse_1 ls st a) := qa_ev_eq _ _ _ _ _ rfl
theorem ev_X3_clear_0 (ls st : List qV) (a : qA) : qa_ev P_X3_clear 0 ls st a = qa_go P_X3_clear (B_X3_clear_0 ls st a) := qa_ev_eq _ _ _ _ _ rfl
theorem ev_X3_clear_1 (ls st : List qV) (a : qA) : qa_ev P_X3_clear 1 ls st a = qa_go P_X3_clear (B_X3_clear_1 ls st a) := qa_ev_eq _ _ _ _ _ rfl
theorem ev_X3_clear_2 (ls st : List qV) (a : qA) : qa_ev P_X3_clear 2 ls st a = qa_go P_X3_clear (B_X3_clear_2 ls st a) := qa_ev_eq _ _ _ _ _ rfl
theorem ev_X6_begin_0 (ls st : List qV) (a : qA) : qa_ev P_X6_begin 0 ls st a = qa_go P_X6_begin (B_X6_begin_0 ls st a) := qa_ev_eq _ _ _ _ _ rfl
theorem ev_X6_begin_1 (ls st : List qV) (a : qA) : qa_ev P_X6_begin 1 ls st a = qa_go P_X6_begin (B_X6_begin_1 ls st a) := qa_ev_eq _ _ _ _ _ rfl
theorem ev_X9_seat_0 (ls st : List qV) (a : qA) : qa_ev P_X9_seat 0 ls st a = qa_go P_X9_seat (B_X9_seat_0 ls st a) := qa_ev_eq _ _ _ _ _ rfl
theorem ev_X9_seat_1 (ls st : List qV) (a : qA) : qa_ev P_X9_seat 1 ls st a = qa_go P_X9_seat (B_X9_seat_1 ls st a) := qa_ev_eq _ _ _ _ _ rfl
theorem ev_X11_join_0 (ls st : List qV) (a : qA) : qa_ev P_X11_join 0 ls st a = qa_go P_X11_join (B_X11_join_0 ls st a) := qa_ev_eq _ _ _ _ _ rfl
theorem ev_X11_join_1 (ls st : List qV) (a : qA) : qa_ev P_X11_join 1 ls st a = qa_go P_X11_join (B_X11_join_1 ls st a) := qa_ev_eq _ _ _ _ _ rfl
theorem ev_X11_join_2 (ls st : List qV) (a : qA) : qa_ev P_X11_join 2 ls st a = qa_go P_X11_join (B_X11_join_2 ls st a) := qa_ev_eq _ _ _ _ _ rfl
theorem ev_X11_join_3 (ls st : List qV) (a : qA) : qa_ev P_X11_join 3 ls st a = qa_go P_X11_join (B_X11_join_3 ls st a) := qa_ev_eq _ _ _ _ _ rfl
theorem ev_X11_needReader_0 (ls st : List qV) (a : qA) : qa_ev P_X11_needReader 0 ls st a = qa_go P_X11_needReader (B_X11_needReader_0 ls st a) := qa_ev_eq _ _ _ _ _ rfl
theorem ev_X11_needReader_1 (ls st : List qV) (a : qA) : qa_ev P_X11_needReader 1 ls st a = qa_go P_X11_needReader (B_X11_needReader_1 ls st a) := qa_ev_eq _ _ _ _ _ rfl
theorem ev_X9_homeOf_0 (ls st : List qV) (a : qA) : qa_ev P_X9_homeOf 0 ls st a = qa_go P_X9_homeOf (B_X9_homeOf_0 ls st a) := qa_ev_eq _ _ _ _ _ rfl
theorem ev_X9_homeOf_1 (ls st : List qV) (a : qA) : qa_ev P_X9_homeOf 1 ls st a = qa_go P_X9_homeOf (B_X9_homeOf_1 ls st a) := qa_ev_eq _ _ _ _ _ rfl
theorem ev_X9_homeOf_2 (ls st : List qV) (a : qA) : qa_ev P_X9_homeOf 2 ls st a = qa_go P_X9_homeOf (B_X9_homeOf_2 ls st a) := qa_ev_eq _ _ _ _ _ rfl
theorem ev_X4_takeEntries_0 (ls st : List qV) (a : qA) : qa_ev P_X4_takeEntries 0 ls st a = qa_go P_X4_takeEntries (B_X4_takeEntries_0 ls st a) := qa_ev_eq _ _ _ _ _ rfl
theorem ev_X4_takeEntries_1 (ls st : List qV) (a : qA) : qa_ev P_X4_takeEntries 1 ls st a = qa_go P_X4_takeEntries (B_X4_takeEntries_1 ls st a) := qa_ev_eq _ _ _ _ _ rfl
theorem ev_X4_takeEntries_2 (ls st : List qV) (a : qA) : qa_ev P_X4_takeEntries 2 ls st a = qa_go P_X4_takeEntries (B_X4_takeEntries_2 ls st a) := qa_ev_eq _ _ _ _ _ rfl
theorem ev_X4_takeEntries_3 (ls st : List qV) (a : qA) : qa_ev P_X4_takeEntries 3 ls st a = qa_go P_X4_takeEntries (B_X4_takeEntries_3 ls st a) := qa_ev_eq _ _ _ _ _ rfl
theorem ev_X4_take_0 (ls st : List qV) (a : qA) : qa_ev P_X4_take 0 ls st a = qa_go P_X4_take (B_X4_take_0 ls st a) := qa_ev_eq _ _ _ _ _ rfl
theorem ev_X4_take_1 (ls st : List qV) (a : qA) : qa_ev P_X4_take 1 ls st a = qa_go P_X4_take (B_X4_take_1 ls st a) := qa_ev_eq _ _ _ _ _ rfl
theorem ev_X4_take_2 (ls st : List qV) (a : qA) : qa_ev P_X4_take 2 ls st a = qa_go P_X4_take (B_X4_take_2 ls st a) := qa_ev_eq _ _ _ _ _ rfl
theorem ev_X4_take_3 (ls st : List qV) (a : qA) : qa_ev P_X4_take 3 ls st a = qa_go P_X4_take (B_X4_take_3 ls st a) := qa_ev_eq _ _ _ _ _ rfl
theorem ev_X4_take_4 (ls st : List qV) (a : qA) : qa_ev P_X4_take 4 ls st a = qa_go P_X4_take (B_X4_take_4 ls st a) := qa_ev_eq _ _ _ _ _ rfl
theorem ev_X4_take_5 (ls st : List qV) (a : qA) : qa_ev P_X4_take 5 ls st a = qa_go P_X4_take (B_X4_take_5 ls st a) := qa_ev_eq _ _ _ _ _ rfl
theorem ev_X6_comeBack_0 (ls st : List qV) (a : qA) : qa_ev P_X6_comeBack 0 ls st a = qa_go P_X6_comeBack (B_X6_comeBack_0 ls st a) := qa_ev_eq _ _ _ _ _ rfl
theorem ev_X6_comeBack_1 (ls st : List qV) (a : qA) : qa_ev P_X6_comeBack 1 ls st a = qa_go P_X6_comeBack (B_X6_comeBack_1 ls st a) := qa_ev_eq _ _ _ _ _ rfl
theorem ev_X4_itemCount_0 (ls st : List qV) (a : qA) : qa_ev P_X4_itemCount 0 ls st a = qa_go P_X4_itemCount (B_X4_itemCount_0 ls st a) := qa_ev_eq _ _ _ _ _ rfl
theorem ev_X4_itemCount_1 (ls st : List qV) (a : qA) : qa_ev P_X4_itemCount 1 ls st a = qa_go P_X4_itemCount (B_X4_itemCount_1 ls st a) := qa_ev_eq _ _ _ _ _ rfl
theorem ev_X4_itemCount_2 (ls st : List qV) (a : qA) : qa_ev P_X4_itemCount 2 ls st a = qa_go P_X4_itemCount (B_X4_itemCount_2 ls st a) := qa_ev_eq _ _ _ _ _ rfl
theorem ev_X11_read_0 (ls st : List qV) (a : qA) : qa_ev P_X11_read 0 ls st a = qa_go P_X11_read (B_X11_read_0 ls st a) := qa_ev_eq _ _ _ _ _ rfl
theorem ev_X11_read_1 (ls st : List qV) (a : qA) : qa_ev P_X11_read 1 ls st a = qa_go P_X11_read (B_X11_read_1 ls st a) := qa_ev_eq _ _ _ _ _ rfl
theorem ev_X11_promise_0 (ls st : List qV) (a : qA) : qa_ev P_X11_promise 0 ls st a = qa_go P_X11_promise (B_X11_promise_0 ls st a) := qa_ev_eq _ _ _ _ _ rfl
theorem ev_X11_promise_1 (ls st : List qV) (a : qA) : qa_ev P_X11_promise 1 ls st a = qa_go P_X11_promise (B_X11_promise_1 ls st a) := qa_ev_eq _ _ _ _ _ rfl
theorem ev_X11_promise_2 (ls st : List qV) (a : qA) : qa_ev P_X11_promise 2 ls st a = qa_go P_X11_promise (B_X11_promise_2 ls st a) := qa_ev_eq _ _ _ _ _ rfl
theorem ev_X9_parentOf_0 (ls st : List qV) (a : qA) : qa_ev P_X9_parentOf 0 ls st a = qa_go P_X9_parentOf (B_X9_parentOf_0 ls st a) := qa_ev_eq _ _ _ _ _ rfl
theorem ev_X9_parentOf_1 (ls st : List qV) (a : qA) : qa_ev P_X9_parentOf 1 ls st a = qa_go P_X9_parentOf (B_X9_parentOf_1 ls st a) := qa_ev_eq _ _ _ _ _ rfl
theorem ev_X9_parentOf_2 (ls st : List qV) (a : qA) : qa_ev P_X9_parentOf 2 ls st a = qa_go P_X9_parentOf (B_X9_parentOf_2 ls st a) := qa_ev_eq _ _ _ _ _ rfl
theorem ev_X9_isOnWay_0 (ls st : List qV) (a : qA) : qa_ev P_X9_isOnWay 0 ls st a = qa_go P_X9_isOnWay (B_X9_isOnWay_0 ls st a) := qa_ev_eq _ _ _ _ _ rfl
theorem ev_X9_isOnWay_1 (ls st : List qV) (a : qA) : qa_ev P_X9_isOnWay 1 ls st a = qa_go P_X9_isOnWay (B_X9_isOnWay_1 ls st a) := qa_ev_eq _ _ _ _ _ rfl
theorem ev_X9_isOnWay_2 (ls st : List qV) (a : qA) : qa_ev P_X9_isOnWay 2 ls st a = qa_go P_X9_isOnWay (B_X9_isOnWay_2 ls st a) := qa_ev_eq _ _ _ _ _ rfl
theorem ev_X9_isOnWay_3 (ls st : List qV) (a : qA) : qa_ev P_X9_isOnWay 3 ls st a = qa_go P_X9_isOnWay (B_X9_isOnWay_3 ls st a) := qa_ev_eq _ _ _ _ _ rfl
theorem ev_X9_isOnWay_4 (ls st : List qV) (a : qA) : qa_ev P_X9_isOnWay 4 ls st a = qa_go P_X9_isOnWay (B_X9_isOnWay_4 ls st a) := qa_ev_eq _ _ _ _ _ rfl
theorem ev_X9_leastFork_0 (ls st : List qV) (a : qA) : qa_ev P_X9_leastFork 0 ls st a = qa_go P_X9_leastFork (B_X9_leastFork_0 ls st a) := qa_ev_eq _ _ _ _ _ rfl
theorem ev_X9_leastFork_1 (ls st : List qV) (a : qA) : qa_ev P_X9_leastFork 1 ls st a = qa_go P_X9_leastFork (B_X9_leastFork_1 ls st a) := qa_ev_eq _ _ _ _ _ rfl
theorem ev_X9_leastFork_2 (ls st : List qV) (a : qA) : qa_ev P_X9_leastFork 2 ls st a = qa_go P_X9_leastFork (B_X9_leastFork_2 ls st a) := qa_ev_eq _ _ _ _ _ rfl
theorem ev_X9_alikeUpTo_0 (ls st : List qV) (a : qA) : qa_ev P_X9_alikeUpTo 0 ls st a = qa_go P_X9_alikeUpTo (B_X9_alikeUpTo_0 ls st a) := qa_ev_eq _ _ _ _ _ rfl
theorem ev_X9_alikeUpTo_1 (ls st : List qV) (a : qA) : qa_ev P_X9_alikeUpTo 1 ls st a = qa_go P_X9_alikeUpTo (B_X9_alikeUpTo_1 ls st a) := qa_ev_eq _ _ _ _ _ rfl
theorem ev_X9_alikeUpTo_2 (ls st : List qV) (a : qA) : qa_ev P_X9_alikeUpTo 2 ls st a = qa_go P_X9_alikeUpTo (B_X9_alikeUpTo_2 ls st a) := qa_ev_eq _ _ _ _ _ rfl
theorem ev_X9_alikeUpTo_3 (ls st : List qV) (a : qA) : qa_ev P_X9_alikeUpTo 3 ls st a = qa_go P_X9_alikeUpTo (B_X9_alikeUpTo_3 ls st a) := qa_ev_eq _ _ _ _ _ rfl
theorem ev_X11_move_0 (ls st : List qV) (a : qA) : qa_ev P_X11_move 0 ls st a = qa_go P_X11_move (B_X11_move_0 ls st a) := qa_ev_eq _ _ _ _ _ rfl
theorem ev_X11_move_1 (ls st : List qV) (a : qA) : qa_ev P_X11_move 1 ls st a = qa_go P_X11_move (B_X11_move_1 ls st a) := qa_ev_eq _ _ _ _ _ rfl
theorem ev_X11_move_2 (ls st : List qV) (a : qA) : qa_ev P_X11_move 2 ls st a = qa_go P_X11_move (B_X11_move_2 ls st a) := qa_ev_eq _ _ _ _ _ rfl
theorem ev_X9_readerCount_0 (ls st : List qV) (a : qA) : qa_ev P_X9_readerCount 0 ls st a = qa_go P_X9_readerCount (B_X9_readerCount_0 ls st a) := qa_ev_eq _ _ _ _ _ rfl
theorem ev_X9_readerCount_1 (ls st : List qV) (a : qA) : qa_ev P_X9_readerCount 1 ls st a = qa_go P_X9_readerCount (B_X9_readerCount_1 ls st a) := qa_ev_eq _ _ _ _ _ rfl
theorem ev_X9_readerCount_2 (ls st : List qV) (a : qA) : qa_ev P_X9_readerCount 2 ls st a = qa_go P_X9_readerCount (B_X9_readerCount_2 ls st a) := qa_ev_eq _ _ _ _ _ rfl
theorem ev_X9_readerCount_3 (ls st : List qV) (a : qA) : qa_ev P_X9_readerCount 3 ls st a = qa_go P_X9_readerCount (B_X9_readerCount_3 ls st a) := qa_ev_eq _ _ _ _ _ rfl
theorem ev_X9_readerCount_4 (ls st : List qV) (a : qA) : qa_ev P_X9_readerCount 4 ls st a = qa_go P_X9_readerCount (B_X9_readerCount_4 ls st a) := qa_ev_eq _ _ _ _ _ rfl
theorem ev_X11_leave_0 (ls st : List qV) (a : qA) : qa_ev P_X11_leave 0 ls st a = qa_go P_X11_leave (B_X11_leave_0 ls st a) := qa_ev_eq _ _ _ _ _ rfl
theorem ev_X9_freeBranch_0 (ls st : List qV) (a : qA) : qa_ev P_X9_freeBranch 0 ls st a = qa_go P_X9_freeBranch (B_X9_freeBranch_0 ls st a) := qa_ev_eq _ _ _ _ _ rfl
theorem ev_X9_freeBranch_1 (ls st : List qV) (a : qA) : qa_ev P_X9_freeBranch 1 ls st a = qa_go P_X9_freeBranch (B_X9_freeBranch_1 ls st a) := qa_ev_eq _ _ _ _ _ rfl
theorem ev_X9_freeBranch_2 (ls st : List qV) (a : qA) : qa_ev P_X9_freeBranch 2 ls st a = qa_go P_X9_freeBranch (B_X9_freeBranch_2 ls st a) := qa_ev_eq _ _ _ _ _ rfl
theorem ev_X9_freeBranch_3 (ls st : List qV) (a : qA) : qa_ev P_X9_freeBranch 3 ls st a = qa_go P_X9_freeBranch (B_X9_freeBranch_3 ls st a) := qa_ev_eq _ _ _ _ _ rfl
theorem ev_X2_beginAs_0 (ls st : List qV) (a : qA) : qa_ev P_X2_beginAs 0 ls st a = qa_go P_X2_beginAs (B_X2_beginAs_0 ls st a) := qa_ev_eq _ _ _ _ _ rfl
theorem ev_X11_fork_0 (ls st : List qV) (a : qA) : qa_ev P_X11_fork 0 ls st a = qa_go P_X11_fork (B_X11_fork_0 ls st a) := qa_ev_eq _ _ _ _ _ rfl
theorem ev_X11_fork_1 (ls st : List qV) (a : qA) : qa_ev P_X11_fork 1 ls st a = qa_go P_X11_fork (B_X11_fork_1 ls st a) := qa_ev_eq _ _ _ _ _ rfl
theorem ev_X9_childrenOf_0 (ls st : List qV) (a : qA) : qa_ev P_X9_childrenOf 0 ls st a = qa_go P_X9_childrenOf (B_X9_childrenOf_0 ls st a) := qa_ev_eq _ _ _ _ _ rfl
theorem ev_X9_childrenOf_1 (ls st : List qV) (a : qA) : qa_ev P_X9_childrenOf 1 ls st a = qa_go P_X9_childrenOf (B_X9_childrenOf_1 ls st a) := qa_ev_eq _ _ _ _ _ rfl
theorem ev_X9_childrenOf_2 (ls st : List qV) (a : qA) : qa_ev P_X9_childrenOf 2 ls st a = qa_go P_X9_childrenOf (B_X9_childrenOf_2 ls st a) := qa_ev_eq _ _ _ _ _ rfl
theorem ev_X9_childrenOf_3 (ls st : List qV) (a : qA) : qa_ev P_X9_childrenOf 3 ls st a = qa_go P_X9_childrenOf (B_X9_childrenOf_3 ls st a) := qa_ev_eq _ _ _ _ _ rfl
theorem ev_X9_childrenOf_4 (ls st : List qV) (a : qA) : qa_ev P_X9_childrenOf 4 ls st a = qa_go P_X9_childrenOf (B_X9_childrenOf_4 ls st a) := qa_ev_eq _ _ _ _ _ rfl
theorem ev_X11_reasonToStay_0 (ls st : List qV) (a : qA) : qa_ev P_X11_reasonToStay 0 ls st a = qa_go P_X11_reasonToStay (B_X11_reasonToStay_0 ls st a) := qa_ev_eq _ _ _ _ _ rfl
theorem ev_X11_reasonToStay_1 (ls st : List qV) (a : qA) : qa_ev P_X11_reasonToStay 1 ls st a = qa_go P_X11_reasonToStay (B_X11_reasonToStay_1 ls st a) := qa_ev_eq _ _ _ _ _ rfl
theorem ev_X11_reasonToStay_2 (ls st : List qV) (a : qA) : qa_ev P_X11_reasonToStay 2 ls st a = qa_go P_X11_reasonToStay (B_X11_reasonToStay_2 ls st a) := qa_ev_eq _ _ _ _ _ rfl
theorem ev_X11_reasonToStay_3 (ls st : List qV) (a : qA) : qa_ev P_X11_reasonToStay 3 ls st a = qa_go P_X11_reasonToStay (B_X11_reasonToStay_3 ls st a) := qa_ev_eq _ _ _ _ _ rfl
theorem ev_X9_readersNotBehind_0 (ls st : List qV) (a : qA) : qa_ev P_X9_readersNotBehind 0 ls st a = qa_go P_X9_readersNotBehind (B_X9_readersNotBehind_0 ls st a) := qa_ev_eq _ _ _ _ _ rfl
theorem ev_X9_readersNotBehind_1 (ls st : List qV) (a : qA) : qa_ev P_X9_readersNotBehind 1 ls st a = qa_go P_X9_readersNotBehind (B_X9_readersNotBehind_1 ls st a) := qa_ev_eq _ _ _ _ _ rfl
theorem ev_X9_readersNotBehind_2 (ls st : List qV) (a : qA) : qa_ev P_X9_readersNotBehind 2 ls st a = qa_go P_X9_readersNotBehind (B_X9_readersNotBehind_2 ls st a) := qa_ev_eq _ _ _ _ _ rfl
theorem ev_X9_readersNotBehind_3 (ls st : List qV) (a : qA) : qa_ev P_X9_readersNotBehind 3 ls st a = qa_go P_X9_readersNotBehind (B_X9_readersNotBehind_3 ls st a) := qa_ev_eq _ _ _ _ _ rfl
theorem ev_X9_readersNotBehind_4 (ls st : List qV) (a : qA) : qa_ev P_X9_readersNotBehind 4 ls st a = qa_go P_X9_readersNotBehind (B_X9_readersNotBehind_4 ls st a) := qa_ev_eq _ _ _ _ _ rfl
theorem ev_X9_mergeUp_0 (ls st : List qV) (a : qA) : qa_ev P_X9_mergeUp 0 ls st a = qa_go P_X9_mergeUp (B_X9_mergeUp_0 ls st a) := qa_ev_eq _ _ _ _ _ rfl
theorem ev_X9_mergeUp_1 (ls st : List qV) (a : qA) : qa_ev P_X9_mergeUp 1 ls st a = qa_go P_X9_mergeUp (B_X9_mergeUp_1 ls st a) := qa_ev_eq _ _ _ _ _ rfl
theorem ev_X9_mergeUp_2 (ls st : List qV) (a : qA) : qa_ev P_X9_mergeUp 2 ls st a = qa_go P_X9_mergeUp (B_X9_mergeUp_2 ls st a) := qa_ev_eq _ _ _ _ _ rfl
theorem ev_X9_mergeUp_3 (ls st : List qV) (a : qA) : qa_ev P_X9_mergeUp 3 ls st a = qa_go P_X9_mergeUp (B_X9_mergeUp_3 ls st a) := qa_ev_eq _ _ _ _ _ rfl
theorem ev_X9_mergeUp_4 (ls st : List qV) (a : qA) : qa_ev P_X9_mergeUp 4 ls st a = qa_go P_X9_mergeUp (B_X9_mergeUp_4 ls st a) := qa_ev_eq _ _ _ _ _ rfl
theorem ev_X9_mergeUp_5 (ls st : List qV) (a : qA) : qa_ev P_X9_mergeUp 5 ls st a = qa_go P_X9_mergeUp (B_X9_mergeUp_5 ls st a) := qa_ev_eq _ _ _ _ _ rfl
theorem ev_X11_merge_0 (ls st : List qV) (a : qA) : qa_ev P_X11_merge 0 ls st a = qa_go P_X11_merge (B_X11_merge_0 ls st a) := qa_ev_eq _ _ _ _ _ rfl
theorem ev_X11_merge_1 (ls st : List qV) (a : qA) : qa_ev P_X11_merge 1 ls st a = qa_go P_X11_merge (B_X11_merge_1 ls st a) := qa_ev_eq _ _ _ _ _ rfl
theorem ev_X11_merge_2 (ls st : List qV) (a : qA) : qa_ev P_X11_merge 2 ls st a = qa_go P_X11_merge (B_X11_merge_2 ls st a) := qa_ev_eq _ _ _ _ _ rfl
theorem ev_X9_readersIn_0 (ls st : List qV) (a : qA) : qa_ev P_X9_readersIn 0 ls st a = qa_go P_X9_readersIn (B_X9_readersIn_0 ls st a) := qa_ev_eq _ _ _ _ _ rfl
theorem ev_X9_readersIn_1 (ls st : List qV) (a : qA) : qa_ev P_X9_readersIn 1 ls st a = qa_go P_X9_readersIn (B_X9_readersIn_1 ls st a) := qa_ev_eq _ _ _ _ _ rfl
theorem ev_X9_readersIn_2 (ls st : List qV) (a : qA) : qa_ev P_X9_readersIn 2 ls st a = qa_go P_X9_readersIn (B_X9_readersIn_2 ls st a) := qa_ev_eq _ _ _ _ _ rfl
theorem ev_X9_readersIn_3 (ls st : List qV) (a : qA) : qa_ev P_X9_readersIn 3 ls st a = qa_go P_X9_readersIn (B_X9_readersIn_3 ls st a) := qa_ev_eq _ _ _ _ _ rfl
theorem ev_X9_readersIn_4 (ls st : List qV) (a : qA) : qa_ev P_X9_readersIn 4 ls st a = qa_go P_X9_readersIn (B_X9_readersIn_4 ls st a) := qa_ev_eq _ _ _ _ _ rfl
theorem ev_X11_drop_0 (ls st : List qV) (a : qA) : qa_ev P_X11_drop 0 ls st a = qa_go P_X11_drop (B_X11_drop_0 ls st a) := qa_ev_eq _ _ _ _ _ rfl
theorem ev_X11_drop_1 (ls st : List qV) (a : qA) : qa_ev P_X11_drop 1 ls st a = qa_go P_X11_drop (B_X11_drop_1 ls st a) := qa_ev_eq _ _ _ _ _ rfl
theorem ev_X11_drop_2 (ls st : List qV) (a : qA) : qa_ev P_X11_drop 2 ls st a = qa_go P_X11_drop (B_X11_drop_2 ls st a) := qa_ev_eq _ _ _ _ _ rfl
theorem ev_X6_hasPromise_0 (ls st : List qV) (a : qA) : qa_ev P_X6_hasPromise 0 ls st a = qa_go P_X6_hasPromise (B_X6_hasPromise_0 ls st a) := qa_ev_eq _ _ _ _ _ rfl
theorem ev_X6_hasPromise_1 (ls st : List qV) (a : qA) : qa_ev P_X6_hasPromise 1 ls st a = qa_go P_X6_hasPromise (B_X6_hasPromise_1 ls st a) := qa_ev_eq _ _ _ _ _ rfl
theorem ev_X6_hasPromise_2 (ls st : List qV) (a : qA) : qa_ev P_X6_hasPromise 2 ls st a = qa_go P_X6_hasPromise (B_X6_hasPromise_2 ls st a) := qa_ev_eq _ _ _ _ _ rfl
theorem ev_X6_breakPromiseAt_0 (ls st : List qV) (a : qA) : qa_ev P_X6_breakPromiseAt 0 ls st a = qa_go P_X6_breakPromiseAt (B_X6_breakPromiseAt_0 ls st a) := qa_ev_eq _ _ _ _ _ rfl
theorem ev_X6_breakPromiseAt_1 (ls st : List qV) (a : qA) : qa_ev P_X6_breakPromiseAt 1 ls st a = qa_go P_X6_breakPromiseAt (B_X6_breakPromiseAt_1 ls st a) := qa_ev_eq _ _ _ _ _ rfl
theorem ev_X9_tick_0 (ls st : List qV) (a : qA) : qa_ev P_X9_tick 0 ls st a = qa_go P_X9_tick (B_X9_tick_0 ls st a) := qa_ev_eq _ _ _ _ _ rfl
theorem ev_X9_tick_1 (ls st : List qV) (a : qA) : qa_ev P_X9_tick 1 ls st a = qa_go P_X9_tick (B_X9_tick_1 ls st a) := qa_ev_eq _ _ _ _ _ rfl
theorem ev_X9_tick_2 (ls st : List qV) (a : qA) : qa_ev P_X9_tick 2 ls st a = qa_go P_X9_tick (B_X9_tick_2 ls st a) := qa_ev_eq _ _ _ _ _ rfl
theorem ev_X9_tick_3 (ls st : List qV) (a : qA) : qa_ev P_X9_tick 3 ls st a = qa_go P_X9_tick (B_X9_tick_3 ls st a) := qa_ev_eq _ _ _ _ _ rfl
theorem ev_X9_tick_4 (ls st : List qV) (a : qA) : qa_ev P_X9_tick 4 ls st a = qa_go P_X9_tick (B_X9_tick_4 ls st a) := qa_ev_eq _ _ _ _ _ rfl
theorem ev_X9_tick_5 (ls st : List qV) (a : qA) : qa_ev P_X9_tick 5 ls st a = qa_go P_X9_tick (B_X9_tick_5 ls st a) := qa_ev_eq _ _ _ _ _ rfl
theorem ev_X9_tick_6 (ls st : List qV) (a : qA) : qa_ev P_X9_tick 6 ls st a = qa_go P_X9_tick (B_X9_tick_6 ls st a) := qa_ev_eq _ _ _ _ _ rfl
theorem ev_X11_pass_0 (ls st : List qV) (a : qA) : qa_ev P_X11_pass 0 ls st a = qa_go P_X11_pass (B_X11_pass_0 ls st a) := qa_ev_eq _ _ _ _ _ rfl
theorem ev_X11_pass_1 (ls st : List qV) (a : qA) : qa_ev P_X11_pass 1 ls st a = qa_go P_X11_pass (B_X11_pass_1 ls st a) := qa_ev_eq _ _ _ _ _ rfl
theorem ev_X11_pass_2 (ls st : List qV) (a : qA) : qa_ev P_X11_pass 2 ls st a = qa_go P_X11_pass (B_X11_pass_2 ls st a) := qa_ev_eq _ _ _ _ _ rfl
theorem ev_X11_perform_0 (ls st : List qV) (a : qA) : qa_ev P_X11_perform 0 ls st a = qa_go P_X11_perform (B_X11_perform_0 ls st a) := qa_ev_eq _ _ _ _ _ rfl
theorem ev_X11_perform_1 (ls st : List qV) (a : qA) : qa_ev P_X11_perform 1 ls st a = qa_go P_X11_perform (B_X11_perform_1 ls st a) := qa_ev_eq _ _ _ _ _ rfl
theorem ev_X11_perform_2 (ls st : List qV) (a : qA) : qa_ev P_X11_perform 2 ls st a = qa_go P_X11_perform (B_X11_perform_2 ls st a) := qa_ev_eq _ _ _ _ _ rfl
theorem ev_X11_perform_3 (ls st : List qV) (a : qA) : qa_ev P_X11_perform 3 ls st a = qa_go P_X11_perform (B_X11_perform_3 ls st a) := qa_ev_eq _ _ _ _ _ rfl
theorem ev_X11_perform_4 (ls st : List qV) (a : qA) : qa_ev P_X11_perform 4 ls st a = qa_go P_X11_perform (B_X11_perform_4 ls st a) := qa_ev_eq _ _ _ _ _ rfl
theorem ev_X11_perform_5 (ls st : List qV) (a : qA) : qa_ev P_X11_perform 5 ls st a = qa_go P_X11_perform (B_X11_perform_5 ls st a) := qa_ev_eq _ _ _ _ _ rfl
theorem ev_X11_perform_6 (ls st : List qV) (a : qA) : qa_ev P_X11_perform 6 ls st a = qa_go P_X11_perform (B_X11_perform_6 ls st a) := qa_ev_eq _ _ _ _ _ rfl
theorem ev_X11_perform_7 (ls st : List qV) (a : qA) : qa_ev P_X11_perform 7 ls st a = qa_go P_X11_perform (B_X11_perform_7 ls st a) := qa_ev_eq _ _ _ _ _ rfl
theorem ev_X11_perform_8 (ls st : List qV) (a : qA) : qa_ev P_X11_perform 8 ls st a = qa_go P_X11_perform (B_X11_perform_8 ls st a) := qa_ev_eq _ _ _ _ _ rfl
theorem ev_X11_perform_9 (ls st : List qV) (a : qA) : qa_ev P_X11_perform 9 ls st a = qa_go P_X11_perform (B_X11_perform_9 ls st a) := qa_ev_eq _ _ _ _ _ rfl
theorem ev_X11_perform_10 (ls st : List qV) (a : qA) : qa_ev P_X11_perform 10 ls st a = qa_go P_X11_perform (B_X11_perform_10 ls st a) := qa_ev_eq _ _ _ _ _ rfl
theorem ev_X11_perform_11 (ls st : List qV) (a : qA) : qa_ev P_X11_perform 11 ls st a = qa_go P_X11_perform (B_X11_perform_11 ls st a) := qa_ev_eq _ _ _ _ _ rfl
theorem ev_X11_perform_12 (ls st : List qV) (a : qA) : qa_ev P_X11_perform 12 ls st a = qa_go P_X11_perform (B_X11_perform_12 ls st a) := qa_ev_eq _ _ _ _ _ rfl
theorem ev_X11_perform_13 (ls st : List qV) (a : qA) : qa_ev P_X11_perform 13 ls st a = qa_go P_X11_perform (B_X11_perform_13 ls st a) := qa_ev_eq _ _ _ _ _ rfl
theorem ev_X11_perform_14 (ls st : List qV) (a : qA) : qa_ev P_X11_perform 14 ls st a = qa_go P_X11_perform (B_X11_perform_14 ls st a) := qa_ev_eq _ _ _ _ _ rfl
theorem ev_X11_perform_15 (ls st : List qV) (a : qA) : qa_ev P_X11_perform 15 ls st a = qa_go P_X11_perform (B_X11_perform_15 ls st a) := qa_ev_eq _ _ _ _ _ rfl
theorem ev_X11_perform_16 (ls st : List qV) (a : qA) : qa_ev P_X11_perform 16 ls st a = qa_go P_X11_perform (B_X11_perform_16 ls st a) := qa_ev_eq _ _ _ _ _ rfl
theorem ev_X11_perform_17 (ls st : List qV) (a : qA) : qa_ev P_X11_perform 17 ls st a = qa_go P_X11_perform (B_X11_perform_17 ls st a) := qa_ev_eq _ _ _ _ _ rfl
theorem ev_X11_perform_18 (ls st : List qV) (a : qA) : qa_ev P_X11_perform 18 ls st a = qa_go P_X11_perform (B_X11_perform_18 ls st a) := qa_ev_eq _ _ _ _ _ rfl
theorem ev_X11_perform_19 (ls st : List qV) (a : qA) : qa_ev P_X11_perform 19 ls st a = qa_go P_X11_perform (B_X11_perform_19 ls st a) := qa_ev_eq _ _ _ _ _ rfl
theorem ev_X11_perform_20 (ls st : List qV) (a : qA) : qa_ev P_X11_perform 20 ls st a = qa_go P_X11_perform (B_X11_perform_20 ls st a) := qa_ev_eq _ _ _ _ _ rfl
theorem ev_X11_perform_21 (ls st : List qV) (a : qA) : qa_ev P_X11_perform 21 ls st a = qa_go P_X11_perform (B_X11_perform_21 ls st a) := qa_ev_eq _ _ _ _ _ rfl
theorem ev_X11_perform_22 (ls st : List qV) (a : qA) : qa_ev P_X11_perform 22 ls st a = qa_go P_X11_perform (B_X11_perform_22 ls st a) := qa_ev_eq _ _ _ _ _ rfl
theorem ev_X11_perform_23 (ls st : List qV) (a : qA) : qa_ev P_X11_perform 23 ls st a = qa_go P_X11_perform (B_X11_perform_23 ls st a) := qa_ev_eq _ _ _ _ _ rfl
theorem ev_X11_perform_24 (ls st : List qV) (a : qA) : qa_ev P_X11_perform 24 ls st a = qa_go P_X11_perform (B_X11_perform_24 ls st a) := qa_ev_eq _ _ _ _ _ rfl
theorem ev_X11_perform_25 (ls st : List qV) (a : qA) : qa_ev P_X11_perform 25 ls st a = qa_go P_X11_perform (B_X11_perform_25 ls st a) := qa_ev_eq _ _ _ _ _ rfl
theorem ev_X11_perform_26 (ls st : List qV) (a : qA) : qa_ev P_X11_perform 26 ls st a = qa_go P_X11_perform (B_X11_perform_26 ls st a) := qa_ev_eq _ _ _ _ _ rfl
theorem ev_X11_perform_27 (ls st : List qV) (a : qA) : qa_ev P_X11_perform 27 ls st a = qa_go P_X11_perform (B_X11_perform_27 ls st a) := qa_ev_eq _ _ _ _ _ rfl
theorem ev_X11_perform_28 (ls st : List qV) (a : qA) : qa_ev P_X11_perform 28 ls st a = qa_go P_X11_perform (B_X11_perform_28 ls st a) := qa_ev_eq _ _ _ _ _ rfl
theorem ev_X11_perform_29 (ls st : List qV) (a : qA) : qa_ev P_X11_perform 29 ls st a = qa_go P_X11_perform (B_X11_perform_29 ls st a) := qa_ev_eq _ _ _ _ _ rfl
theorem ev_X11_perform_30 (ls st : List qV) (a : qA) : qa_ev P_X11_perform 30 ls st a = qa_go P_X11_perform (B_X11_perform_30 ls st a) := qa_ev_eq _ _ _ _ _ rfl
theorem ev_X11_perform_31 (ls st : List qV) (a : qA) : qa_ev P_X11_perform 31 ls st a = qa_go P_X11_perform (B_X11_perform_31 ls st a) := qa_ev_eq _ _ _ _ _ rfl
theorem ev_X11_perform_32 (ls st : List qV) (a : qA) : qa_ev P_X11_perform 32 ls st a = qa_go P_X11_perform (B_X11_perform_32 ls st a) := qa_ev_eq _ _ _ _ _ rfl
theorem ev_X11_perform_33 (ls st : List qV) (a : qA) : qa_ev P_X11_perform 33 ls st a = qa_go P_X11_perform (B_X11_perform_33 ls st a) := qa_ev_eq _ _ _ _ _ rfl
theorem ev_X11_perform_34 (ls st : List qV) (a : qA) : qa_ev P_X11_perform 34 ls st a = qa_go P_X11_perform (B_X11_perform_34 ls st a) := qa_ev_eq _ _ _ _ _ rfl
theorem ev_X11_perform_35 (ls st : List qV) (a : qA) : qa_ev P_X11_perform 35 ls st a = qa_go P_X11_perform (B_X11_perform_35 ls st a) := qa_ev_eq _ _ _ _ _ rfl
theorem ev_X11_runScript_0 (ls st : List qV) (a : qA) : qa_ev P_X11_runScript 0 ls st a = qa_go P_X11_runScript (B_X11_runScript_0 ls st a) := qa_ev_eq _ _ _ _ _ rfl
theorem ev_X11_runScript_1 (ls st : List qV) (a : qA) : qa_ev P_X11_runScript 1 ls st a = qa_go P_X11_runScript (B_X11_runScript_1 ls st a) := qa_ev_eq _ _ _ _ _ rfl
theorem ev_X11_runScript_2 (ls st : List qV) (a : qA) : qa_ev P_X11_runScript 2 ls st a = qa_go P_X11_runScript (B_X11_runScript_2 ls st a) := qa_ev_eq _ _ _ _ _ rfl
theorem ev_X11_runScript_3 (ls st : List qV) (a : qA) : qa_ev P_X11_runScript 3 ls st a = qa_go P_X11_runScript (B_X11_runScript_3 ls st a) := qa_ev_eq _ _ _ _ _ rfl
theorem ev_X11_errorCode_0 (ls st : List qV) (a : qA) : qa_ev P_X11_errorCode 0 ls st a = qa_go P_X11_errorCode (B_X11_errorCode_0 ls st a) := qa_ev_eq _ _ _ _ _ rfl
theorem ev_X11_errorPosition_0 (ls st : List qV) (a : qA) : qa_ev P_X11_errorPosition 0 ls st a = qa_go P_X11_errorPosition (B_X11_errorPosition_0 ls st a) := qa_ev_eq _ _ _ _ _ rfl
theorem ev_X7_leastOf_0 (ls st : List qV) (a : qA) : qa_ev P_X7_leastOf 0 ls st a = qa_go P_X7_leastOf (B_X7_leastOf_0 ls st a) := qa_ev_eq _ _ _ _ _ rfl
theorem ev_X7_leastOf_1 (ls st : List qV) (a : qA) : qa_ev P_X7_leastOf 1 ls st a = qa_go P_X7_leastOf (B_X7_leastOf_1 ls st a) := qa_ev_eq _ _ _ _ _ rfl
theorem ev_X7_leastOf_2 (ls st : List qV) (a : qA) : qa_ev P_X7_leastOf 2 ls st a = qa_go P_X7_leastOf (B_X7_leastOf_2 ls st a) := qa_ev_eq _ _ _ _ _ rfl
theorem ev_X7_mostOf_0 (ls st : List qV) (a : qA) : qa_ev P_X7_mostOf 0 ls st a = qa_go P_X7_mostOf (B_X7_mostOf_0 ls st a) := qa_ev_eq _ _ _ _ _ rfl
theorem ev_X7_mostOf_1 (ls st : List qV) (a : qA) : qa_ev P_X7_mostOf 1 ls st a = qa_go P_X7_mostOf (B_X7_mostOf_1 ls st a) := qa_ev_eq _ _ _ _ _ rfl
theorem ev_X7_mostOf_2 (ls st : List qV) (a : qA) : qa_ev P_X7_mostOf 2 ls st a = qa_go P_X7_mostOf (B_X7_mostOf_2 ls st a) := qa_ev_eq _ _ _ _ _ rfl
theorem ev_X7_change_0 (ls st : List qV) (a : qA) : qa_ev P_X7_change 0 ls st a = qa_go P_X7_change (B_X7_change_0 ls st a) := qa_ev_eq _ _ _ _ _ rfl
theorem ev_X7_change_1 (ls st : List qV) (a : qA) : qa_ev P_X7_change 1 ls st a = qa_go P_X7_change (B_X7_change_1 ls st a) := qa_ev_eq _ _ _ _ _ rfl
theorem ev_X11_set_0 (ls st : List qV) (a : qA) : qa_ev P_X11_set 0 ls st a = qa_go P_X11_set (B_X11_set_0 ls st a) := qa_ev_eq _ _ _ _ _ rfl
theorem ev_X9_cutsWith_0 (ls st : List qV) (a : qA) : qa_ev P_X9_cutsWith 0 ls st a = qa_go P_X9_cutsWith (B_X9_cutsWith_0 ls st a) := qa_ev_eq _ _ _ _ _ rfl
theorem ev_X9_cutsWith_1 (ls st : List qV) (a : qA) : qa_ev P_X9_cutsWith 1 ls st a = qa_go P_X9_cutsWith (B_X9_cutsWith_1 ls st a) := qa_ev_eq _ _ _ _ _ rfl
theorem ev_X9_cutsWith_2 (ls st : List qV) (a : qA) : qa_ev P_X9_cutsWith 2 ls st a = qa_go P_X9_cutsWith (B_X9_cutsWith_2 ls st a) := qa_ev_eq _ _ _ _ _ rfl
theorem ev_X9_branchCount_0 (ls st : List qV) (a : qA) : qa_ev P_X9_branchCount 0 ls st a = qa_go P_X9_branchCount (B_X9_branchCount_0 ls st a) := qa_ev_eq _ _ _ _ _ rfl
theorem ev_X9_branchCount_1 (ls st : List qV) (a : qA) : qa_ev P_X9_branchCount 1 ls st a = qa_go P_X9_branchCount (B_X9_branchCount_1 ls st a) := qa_ev_eq _ _ _ _ _ rfl
theorem ev_X9_branchCount_2 (ls st : List qV) (a : qA) : qa_ev P_X9_branchCount 2 ls st a = qa_go P_X9_branchCount (B_X9_branchCount_2 ls st a) := qa_ev_eq _ _ _ _ _ rfl
theorem ev_X9_branchCount_3 (ls st : List qV) (a : qA) : qa_ev P_X9_branchCount 3 ls st a = qa_go P_X9_branchCount (B_X9_branchCount_3 ls st a) := qa_ev_eq _ _ _ _ _ rfl
theorem ev_X9_branchCount_4 (ls st : List qV) (a : qA) : qa_ev P_X9_branchCount 4 ls st a = qa_go P_X9_branchCount (B_X9_branchCount_4 ls st a) := qa_ev_eq _ _ _ _ _ rfl
theorem ev_X9_entryCount_0 (ls st : List qV) (a : qA) : qa_ev P_X9_entryCount 0 ls st a = qa_go P_X9_entryCount (B_X9_entryCount_0 ls st a) := qa_ev_eq _ _ _ _ _ rfl
theorem ev_X9_entryCount_1 (ls st : List qV) (a : qA) : qa_ev P_X9_entryCount 1 ls st a = qa_go P_X9_entryCount (B_X9_entryCount_1 ls st a) := qa_ev_eq _ _ _ _ _ rfl
theorem ev_X9_entryCount_2 (ls st : List qV) (a : qA) : qa_ev P_X9_entryCount 2 ls st a = qa_go P_X9_entryCount (B_X9_entryCount_2 ls st a) := qa_ev_eq _ _ _ _ _ rfl
theorem ev_X9_entryCount_3 (ls st : List qV) (a : qA) : qa_ev P_X9_entryCount 3 ls st a = qa_go P_X9_entryCount (B_X9_entryCount_3 ls st a) := qa_ev_eq _ _ _ _ _ rfl
theorem ev_X9_entryCount_4 (ls st : List qV) (a : qA) : qa_ev P_X9_entryCount 4 ls st a = qa_go P_X9_entryCount (B_X9_entryCount_4 ls st a) := qa_ev_eq _ _ _ _ _ rfl
theorem ev_X11_count_0 (ls st : List qV) (a : qA) : qa_ev P_X11_count 0 ls st a = qa_go P_X11_count (B_X11_count_0 ls st a) := qa_ev_eq _ _ _ _ _ rfl
theorem ev_X11_count_1 (ls st : List qV) (a : qA) : qa_ev P_X11_count 1 ls st a = qa_go P_X11_count (B_X11_count_1 ls st a) := qa_ev_eq _ _ _ _ _ rfl
theorem ev_X11_count_2 (ls st : List qV) (a : qA) : qa_ev P_X11_count 2 ls st a = qa_go P_X11_count (B_X11_count_2 ls st a) := qa_ev_eq _ _ _ _ _ rfl
theorem ev_X11_count_3 (ls st : List qV) (a : qA) : qa_ev P_X11_count 3 ls st a = qa_go P_X11_count (B_X11_count_3 ls st a) := qa_ev_eq _ _ _ _ _ rfl
theorem ev_X11_count_4 (ls st : List qV) (a : qA) : qa_ev P_X11_count 4 ls st a = qa_go P_X11_count (B_X11_count_4 ls st a) := qa_ev_eq _ _ _ _ _ rfl
theorem ev_X11_count_5 (ls st : List qV) (a : qA) : qa_ev P_X11_count 5 ls st a = qa_go P_X11_count (B_X11_count_5 ls st a) := qa_ev_eq _ _ _ _ _ rfl
theorem ev_X11_count_6 (ls st : List qV) (a : qA) : qa_ev P_X11_count 6 ls st a = qa_go P_X11_count (B_X11_count_6 ls st a) := qa_ev_eq _ _ _ _ _ rfl
theorem ev_X11_count_7 (ls st : List qV) (a : qA) : qa_ev P_X11_count 7 ls st a = qa_go P_X11_count (B_X11_count_7 ls st a) := qa_ev_eq _ _ _ _ _ rfl
theorem ev_X11_count_8 (ls st : List qV) (a : qA) : qa_ev P_X11_count 8 ls st a = qa_go P_X11_count (B_X11_count_8 ls st a) := qa_ev_eq _ _ _ _ _ rfl
theorem ev_X11_count_9 (ls st : List qV) (a : qA) : qa_ev P_X11_count 9 ls st a = qa_go P_X11_count (B_X11_count_9 ls st a) := qa_ev_eq _ _ _ _ _ rfl
theorem ev_X11_branch_0 (ls st : List qV) (a : qA) : qa_ev P_X11_branch 0 ls st a = qa_go P_X11_branch (B_X11_branch_0 ls st a) := qa_ev_eq _ _ _ _ _ rfl
theorem ev_X11_branch_1 (ls st : List qV) (a : qA) : qa_ev P_X11_branch 1 ls st a = qa_go P_X11_branch (B_X11_branch_1 ls st a) := qa_ev_eq _ _ _ _ _ rfl
theorem ev_X11_branch_2 (ls st : List qV) (a : qA) : qa_ev P_X11_branch 2 ls st a = qa_go P_X11_branch (B_X11_branch_2 ls st a) := qa_ev_eq _ _ _ _ _ rfl
theorem ev_X11_branch_3 (ls st : List qV) (a : qA) : qa_ev P_X11_branch 3 ls st a = qa_go P_X11_branch (B_X11_branch_3 ls st a) := qa_ev_eq _ _ _ _ _ rfl
theorem ev_X11_branch_4 (ls st : List qV) (a : qA) : qa_ev P_X11_branch 4 ls st a = qa_go P_X11_branch (B_X11_branch_4 ls st a) := qa_ev_eq _ _ _ _ _ rfl
theorem ev_X11_branch_5 (ls st : List qV) (a : qA) : qa_ev P_X11_branch 5 ls st a = qa_go P_X11_branch (B_X11_branch_5 ls st a) := qa_ev_eq _ _ _ _ _ rfl
theorem ev_X11_branch_6 (ls st : List qV) (a : qA) : qa_ev P_X11_branch 6 ls st a = qa_go P_X11_branch (B_X11_branch_6 ls st a) := qa_ev_eq _ _ _ _ _ rfl
theorem ev_X11_branch_7 (ls st : List qV) (a : qA) : qa_ev P_X11_branch 7 ls st a = qa_go P_X11_branch (B_X11_branch_7 ls st a) := qa_ev_eq _ _ _ _ _ rfl
theorem ev_X11_branch_8 (ls st : List qV) (a : qA) : qa_ev P_X11_branch 8 ls st a = qa_go P_X11_branch (B_X11_branch_8 ls st a) := qa_ev_eq _ _ _ _ _ rfl
theorem ev_X11_entry_0 (ls st : List qV) (a : qA) : qa_ev P_X11_entry 0 ls st a = qa_go P_X11_entry (B_X11_entry_0 ls st a) := qa_ev_eq _ _ _ _ _ rfl
theorem ev_X11_entry_1 (ls st : List qV) (a : qA) : qa_ev P_X11_entry 1 ls st a = qa_go P_X11_entry (B_X11_entry_1 ls st a) := qa_ev_eq _ _ _ _ _ rfl
theorem ev_X11_entry_2 (ls st : List qV) (a : qA) : qa_ev P_X11_entry 2 ls st a = qa_go P_X11_entry (B_X11_entry_2 ls st a) := qa_ev_eq _ _ _ _ _ rfl
theorem ev_X11_entry_3 (ls st : List qV) (a : qA) : qa_ev P_X11_entry 3 ls st a = qa_go P_X11_entry (B_X11_entry_3 ls st a) := qa_ev_eq _ _ _ _ _ rfl
theorem ev_X11_entry_4 (ls st : List qV) (a : qA) : qa_ev P_X11_entry 4 ls st a = qa_go P_X11_entry (B_X11_entry_4 ls st a) := qa_ev_eq _ _ _ _ _ rfl
theorem ev_X11_entry_5 (ls st : List qV) (a : qA) : qa_ev P_X11_entry 5 ls st a = qa_go P_X11_entry (B_X11_entry_5 ls st a) := qa_ev_eq _ _ _ _ _ rfl
theorem ev_X11_entry_6 (ls st : List qV) (a : qA) : qa_ev P_X11_entry 6 ls st a = qa_go P_X11_entry (B_X11_entry_6 ls st a) := qa_ev_eq _ _ _ _ _ rfl
theorem ev_X2_sizesFrom_0 (ls st : List qV) (a : qA) : qa_ev P_X2_sizesFrom 0 ls st a = qa_go P_X2_sizesFrom (B_X2_sizesFrom_0 ls st a) := qa_ev_eq _ _ _ _ _ rfl
theorem ev_X2_sizesFrom_1 (ls st : List qV) (a : qA) : qa_ev P_X2_sizesFrom 1 ls st a = qa_go P_X2_sizesFrom (B_X2_sizesFrom_1 ls st a) := qa_ev_eq _ _ _ _ _ rfl
theorem ev_X2_sizesFrom_2 (ls st : List qV) (a : qA) : qa_ev P_X2_sizesFrom 2 ls st a = qa_go P_X2_sizesFrom (B_X2_sizesFrom_2 ls st a) := qa_ev_eq _ _ _ _ _ rfl
theorem ev_X2_sizesFrom_3 (ls st : List qV) (a : qA) : qa_ev P_X2_sizesFrom 3 ls st a = qa_go P_X2_sizesFrom (B_X2_sizesFrom_3 ls st a) := qa_ev_eq _ _ _ _ _ rfl
theorem ev_X2_sizesFrom_4 (ls st : List qV) (a : qA) : qa_ev P_X2_sizesFrom 4 ls st a = qa_go P_X2_sizesFrom (B_X2_sizesFrom_4 ls st a) := qa_ev_eq _ _ _ _ _ rfl
theorem ev_X11_reader_0 (ls st : List qV) (a : qA) : qa_ev P_X11_reader 0 ls st a = qa_go P_X11_reader (B_X11_reader_0 ls st a) := qa_ev_eq _ _ _ _ _ rfl
theorem ev_X11_reader_1 (ls st : List qV) (a : qA) : qa_ev P_X11_reader 1 ls st a = qa_go P_X11_reader (B_X11_reader_1 ls st a) := qa_ev_eq _ _ _ _ _ rfl
theorem ev_X11_reader_2 (ls st : List qV) (a : qA) : qa_ev P_X11_reader 2 ls st a = qa_go P_X11_reader (B_X11_reader_2 ls st a) := qa_ev_eq _ _ _ _ _ rfl
theorem ev_X11_reader_3 (ls st : List qV) (a : qA) : qa_ev P_X11_reader 3 ls st a = qa_go P_X11_reader (B_X11_reader_3 ls st a) := qa_ev_eq _ _ _ _ _ rfl
theorem ev_X11_reader_4 (ls st : List qV) (a : qA) : qa_ev P_X11_reader 4 ls st a = qa_go P_X11_reader (B_X11_reader_4 ls st a) := qa_ev_eq _ _ _ _ _ rfl
theorem ev_X11_reader_5 (ls st : List qV) (a : qA) : qa_ev P_X11_reader 5 ls st a = qa_go P_X11_reader (B_X11_reader_5 ls st a) := qa_ev_eq _ _ _ _ _ rfl
theorem ev_X11_reader_6 (ls st : List qV) (a : qA) : qa_ev P_X11_reader 6 ls st a = qa_go P_X11_reader (B_X11_reader_6 ls st a) := qa_ev_eq _ _ _ _ _ rfl
theorem ev_X11_reader_7 (ls st : List qV) (a : qA) : qa_ev P_X11_reader 7 ls st a = qa_go P_X11_reader (B_X11_reader_7 ls st a) := qa_ev_eq _ _ _ _ _ rfl
theorem ev_X11_reader_8 (ls st : List qV) (a : qA) : qa_ev P_X11_reader 8 ls st a = qa_go P_X11_reader (B_X11_reader_8 ls st a) := qa_ev_eq _ _ _ _ _ rfl
theorem ev_X11_reader_9 (ls st : List qV) (a : qA) : qa_ev P_X11_reader 9 ls st a = qa_go P_X11_reader (B_X11_reader_9 ls st a) := qa_ev_eq _ _ _ _ _ rfl
theorem ev_X11_reader_10 (ls st : List qV) (a : qA) : qa_ev P_X11_reader 10 ls st a = qa_go P_X11_reader (B_X11_reader_10 ls st a) := qa_ev_eq _ _ _ _ _ rfl
theorem ev_X11_reader_11 (ls st : List qV) (a : qA) : qa_ev P_X11_reader 11 ls st a = qa_go P_X11_reader (B_X11_reader_11 ls st a) := qa_ev_eq _ _ _ _ _ rfl
theorem ev_X11_reader_12 (ls st : List qV) (a : qA) : qa_ev P_X11_reader 12 ls st a = qa_go P_X11_reader (B_X11_reader_12 ls st a) := qa_ev_eq _ _ _ _ _ rfl
theorem ev_X11_reader_13 (ls st : List qV) (a : qA) : qa_ev P_X11_reader 13 ls st a = qa_go P_X11_reader (B_X11_reader_13 ls st a) := qa_ev_eq _ _ _ _ _ rfl
theorem ev_X3_numberOf_0 (ls st : List qV) (a : qA) : qa_ev P_X3_numberOf 0 ls st a = qa_go P_X3_numberOf (B_X3_numberOf_0 ls st a) := qa_ev_eq _ _ _ _ _ rfl
theorem ev_X3_numberOf_1 (ls st : List qV) (a : qA) : qa_ev P_X3_numberOf 1 ls st a = qa_go P_X3_numberOf (B_X3_numberOf_1 ls st a) := qa_ev_eq _ _ _ _ _ rfl
theorem ev_X3_numberOf_2 (ls st : List qV) (a : qA) : qa_ev P_X3_numberOf 2 ls st a = qa_go P_X3_numberOf (B_X3_numberOf_2 ls st a) := qa_ev_eq _ _ _ _ _ rfl
theorem ev_X3_numberOf_3 (ls st : List qV) (a : qA) : qa_ev P_X3_numberOf 3 ls st a = qa_go P_X3_numberOf (B_X3_numberOf_3 ls st a) := qa_ev_eq _ _ _ _ _ rfl
theorem ev_X3_numberOf_4 (ls st : List qV) (a : qA) : qa_ev P_X3_numberOf 4 ls st a = qa_go P_X3_numberOf (B_X3_numberOf_4 ls st a) := qa_ev_eq _ _ _ _ _ rfl
theorem ev_X3_numberOf_5 (ls st : List qV) (a : qA) : qa_ev P_X3_numberOf 5 ls st a = qa_go P_X3_numberOf (B_X3_numberOf_5 ls st a) := qa_ev_eq _ _ _ _ _ rfl
theorem ev_X3_numberOf_6 (ls st : List qV) (a : qA) : qa_ev P_X3_numberOf 6 ls st a = qa_go P_X3_numberOf (B_X3_numberOf_6 ls st a) := qa_ev_eq _ _ _ _ _ rfl
theorem ev_X3_numberOf_7 (ls st : List qV) (a : qA) : qa_ev P_X3_numberOf 7 ls st a = qa_go P_X3_numberOf (B_X3_numberOf_7 ls st a) := qa_ev_eq _ _ _ _ _ rfl
theorem ev_X11_debt_0 (ls st : List qV) (a : qA) : qa_ev P_X11_debt 0 ls st a = qa_go P_X11_debt (B_X11_debt_0 ls st a) := qa_ev_eq _ _ _ _ _ rfl
theorem ev_X3_latestWith_0 (ls st : List qV) (a : qA) : qa_ev P_X3_latestWith 0 ls st a = qa_go P_X3_latestWith (B_X3_latestWith_0 ls st a) := qa_ev_eq _ _ _ _ _ rfl
theorem ev_X3_latestWith_1 (ls st : List qV) (a : qA) : qa_ev P_X3_latestWith 1 ls st a = qa_go P_X3_latestWith (B_X3_latestWith_1 ls st a) := qa_ev_eq _ _ _ _ _ rfl
theorem ev_X3_latestWith_2 (ls st : List qV) (a : qA) : qa_ev P_X3_latestWith 2 ls st a = qa_go P_X3_latestWith (B_X3_latestWith_2 ls st a) := qa_ev_eq _ _ _ _ _ rfl
theorem ev_X11_debtOf_0 (ls st : List qV) (a : qA) : qa_ev P_X11_debtOf 0 ls st a = qa_go P_X11_debtOf (B_X11_debtOf_0 ls st a) := qa_ev_eq _ _ _ _ _ rfl
theorem ev_X4_numberOf_0 (ls st : List qV) (a : qA) : qa_ev P_X4_numberOf 0 ls st a = qa_go P_X4_numberOf (B_X4_numberOf_0 ls st a) := qa_ev_eq _ _ _ _ _ rfl
theorem ev_X4_numberOf_1 (ls st : List qV) (a : qA) : qa_ev P_X4_numberOf 1 ls st a = qa_go P_X4_numberOf (B_X4_numberOf_1 ls st a) := qa_ev_eq _ _ _ _ _ rfl
theorem ev_X4_numberOf_2 (ls st : List qV) (a : qA) : qa_ev P_X4_numberOf 2 ls st a = qa_go P_X4_numberOf (B_X4_numberOf_2 ls st a) := qa_ev_eq _ _ _ _ _ rfl
theorem ev_X4_numberOf_3 (ls st : List qV) (a : qA) : qa_ev P_X4_numberOf 3 ls st a = qa_go P_X4_numberOf (B_X4_numberOf_3 ls st a) := qa_ev_eq _ _ _ _ _ rfl
theorem ev_X4_numberOf_4 (ls st : List qV) (a : qA) : qa_ev P_X4_numberOf 4 ls st a = qa_go P_X4_numberOf (B_X4_numberOf_4 ls st a) := qa_ev_eq _ _ _ _ _ rfl
theorem ev_X4_numberOf_5 (ls st : List qV) (a : qA) : qa_ev P_X4_numberOf 5 ls st a = qa_go P_X4_numberOf (B_X4_numberOf_5 ls st a) := qa_ev_eq _ _ _ _ _ rfl
theorem ev_X4_numberOf_6 (ls st : List qV) (a : qA) : qa_ev P_X4_numberOf 6 ls st a = qa_go P_X4_numberOf (B_X4_numberOf_6 ls st a) := qa_ev_eq _ _ _ _ _ rfl
theorem ev_X4_numberOf_7 (ls st : List qV) (a : qA) : qa_ev P_X4_numberOf 7 ls st a = qa_go P_X4_numberOf (B_X4_numberOf_7 ls st a) := qa_ev_eq _ _ _ _ _ rfl
theorem ev_X4_numberOf_8 (ls st : List qV) (a : qA) : qa_ev P_X4_numberOf 8 ls st a = qa_go P_X4_numberOf (B_X4_numberOf_8 ls st a) := qa_ev_eq _ _ _ _ _ rfl
theorem ev_X4_numberOf_9 (ls st : List qV) (a : qA) : qa_ev P_X4_numberOf 9 ls st a = qa_go P_X4_numberOf (B_X4_numberOf_9 ls st a) := qa_ev_eq _ _ _ _ _ rfl
theorem ev_X4_numberOf_10 (ls st : List qV) (a : qA) : qa_ev P_X4_numberOf 10 ls st a = qa_go P_X4_numberOf (B_X4_numberOf_10 ls st a) := qa_ev_eq _ _ _ _ _ rfl
theorem ev_X4_numberOf_11 (ls st : List qV) (a : qA) : qa_ev P_X4_numberOf 11 ls st a = qa_go P_X4_numberOf (B_X4_numberOf_11 ls st a) := qa_ev_eq _ _ _ _ _ rfl
theorem ev_X4_numberOf_12 (ls st : List qV) (a : qA) : qa_ev P_X4_numberOf 12 ls st a = qa_go P_X4_numberOf (B_X4_numberOf_12 ls st a) := qa_ev_eq _ _ _ _ _ rfl
theorem ev_X4_numberOf_13 (ls st : List qV) (a : qA) : qa_ev P_X4_numberOf 13 ls st a = qa_go P_X4_numberOf (B_X4_numberOf_13 ls st a) := qa_ev_eq _ _ _ _ _ rfl
theorem ev_X4_numberOf_14 (ls st : List qV) (a : qA) : qa_ev P_X4_numberOf 14 ls st a = qa_go P_X4_numberOf (B_X4_numberOf_14 ls st a) := qa_ev_eq _ _ _ _ _ rfl
theorem ev_X11_item_0 (ls st : List qV) (a : qA) : qa_ev P_X11_item 0 ls st a = qa_go P_X11_item (B_X11_item_0 ls st a) := qa_ev_eq _ _ _ _ _ rfl
theorem ev_X11_item_1 (ls st : List qV) (a : qA) : qa_ev P_X11_item 1 ls st a = qa_go P_X11_item (B_X11_item_1 ls st a) := qa_ev_eq _ _ _ _ _ rfl
theorem ev_X11_item_2 (ls st : List qV) (a : qA) : qa_ev P_X11_item 2 ls st a = qa_go P_X11_item (B_X11_item_2 ls st a) := qa_ev_eq _ _ _ _ _ rfl
theorem ev_X1_accountOf_0 (ls st : List qV) (a : qA) : qa_ev P_X1_accountOf 0 ls st a = qa_go P_X1_accountOf (B_X1_accountOf_0 ls st a) := qa_ev_eq _ _ _ _ _ rfl
theorem ev_X1_accountOf_1 (ls st : List qV) (a : qA) : qa_ev P_X1_accountOf 1 ls st a = qa_go P_X1_accountOf (B_X1_accountOf_1 ls st a) := qa_ev_eq _ _ _ _ _ rfl
theorem ev_X1_accountOf_2 (ls st : List qV) (a : qA) : qa_ev P_X1_accountOf 2 ls st a = qa_go P_X1_accountOf (B_X1_accountOf_2 ls st a) := qa_ev_eq _ _ _ _ _ rfl
theorem ev_X11_account_0 (ls st : List qV) (a : qA) : qa_ev P_X11_account 0 ls st a = qa_go P_X11_account (B_X11_account_0 ls st a) := qa_ev_eq _ _ _ _ _ rfl
theorem ev_X11_common_0 (ls st : List qV) (a : qA) : qa_ev P_X11_common 0 ls st a = qa_go P_X11_common (B_X11_common_0 ls st a) := qa_ev_eq _ _ _ _ _ rfl
theorem ev_X11_holder_0 (ls st : List qV) (a : qA) : qa_ev P_X11_holder 0 ls st a = qa_go P_X11_holder (B_X11_holder_0 ls st a) := qa_ev_eq _ _ _ _ _ rfl
theorem ev_X9_slowestIn_0 (ls st : List qV) (a : qA) : qa_ev P_X9_slowestIn 0 ls st a = qa_go P_X9_slowestIn (B_X9_slowestIn_0 ls st a) := qa_ev_eq _ _ _ _ _ rfl
theorem ev_X9_slowestIn_1 (ls st : List qV) (a : qA) : qa_ev P_X9_slowestIn 1 ls st a = qa_go P_X9_slowestIn (B_X9_slowestIn_1 ls st a) := qa_ev_eq _ _ _ _ _ rfl
theorem ev_X9_slowestIn_2 (ls st : List qV) (a : qA) : qa_ev P_X9_slowestIn 2 ls st a = qa_go P_X9_slowestIn (B_X9_slowestIn_2 ls st a) := qa_ev_eq _ _ _ _ _ rfl
theorem ev_X9_slowestIn_3 (ls st : List qV) (a : qA) : qa_ev P_X9_slowestIn 3 ls st a = qa_go P_X9_slowestIn (B_X9_slowestIn_3 ls st a) := qa_ev_eq _ _ _ _ _ rfl
theorem ev_X11_slowest_0 (ls st : List qV) (a : qA) : qa_ev P_X11_slowest 0 ls st a = qa_go P_X11_slowest (B_X11_slowest_0 ls st a) := qa_ev_eq _ _ _ _ _ rfl
theorem ev_X11_cause_0 (ls st : List qV) (a : qA) : qa_ev P_X11_cause 0 ls st a = qa_go P_X11_cause (B_X11_cause_0 ls st a) := qa_ev_eq _ _ _ _ _ rfl
theorem ev_X2_latestWith_0 (ls st : List qV) (a : qA) : qa_ev P_X2_latestWith 0 ls st a = qa_go P_X2_latestWith (B_X2_latestWith_0 ls st a) := qa_ev_eq _ _ _ _ _ rfl
theorem ev_X2_latestWith_1 (ls st : List qV) (a : qA) : qa_ev P_X2_latestWith 1 ls st a = qa_go P_X2_latestWith (B_X2_latestWith_1 ls st a) := qa_ev_eq _ _ _ _ _ rfl
theorem ev_X2_latestWith_2 (ls st : List qV) (a : qA) : qa_ev P_X2_latestWith 2 ls st a = qa_go P_X2_latestWith (B_X2_latestWith_2 ls st a) := qa_ev_eq _ _ _ _ _ rfl
theorem ev_X2_latestWith_3 (ls st : List qV) (a : qA) : qa_ev P_X2_latestWith 3 ls st a = qa_go P_X2_latestWith (B_X2_latestWith_3 ls st a) := qa_ev_eq _ _ _ _ _ rfl
theorem ev_X11_latest_0 (ls st : List qV) (a : qA) : qa_ev P_X11_latest 0 ls st a = qa_go P_X11_latest (B_X11_latest_0 ls st a) := qa_ev_eq _ _ _ _ _ rfl
theorem ev_X2_valueSum_0 (ls st : List qV) (a : qA) : qa_ev P_X2_valueSum 0 ls st a = qa_go P_X2_valueSum (B_X2_valueSum_0 ls st a) := qa_ev_eq _ _ _ _ _ rfl
theorem ev_X2_valueSum_1 (ls st : List qV) (a : qA) : qa_ev P_X2_valueSum 1 ls st a = qa_go P_X2_valueSum (B_X2_valueSum_1 ls st a) := qa_ev_eq _ _ _ _ _ rfl
theorem ev_X2_valueSum_2 (ls st : List qV) (a : qA) : qa_ev P_X2_valueSum 2 ls st a = qa_go P_X2_valueSum (B_X2_valueSum_2 ls st a) := qa_ev_eq _ _ _ _ _ rfl
theorem ev_X2_valueSum_3 (ls st : List qV) (a : qA) : qa_ev P_X2_valueSum 3 ls st a = qa_go P_X2_valueSum (B_X2_valueSum_3 ls st a) := qa_ev_eq _ _ _ _ _ rfl
theorem ev_X2_valueSum_4 (ls st : List qV) (a : qA) : qa_ev P_X2_valueSum 4 ls st a = qa_go P_X2_valueSum (B_X2_valueSum_4 ls st a) := qa_ev_eq _ _ _ _ _ rfl
theorem ev_X11_mean_0 (ls st : List qV) (a : qA) : qa_ev P_X11_mean 0 ls st a = qa_go P_X11_mean (B_X11_mean_0 ls st a) := qa_ev_eq _ _ _ _ _ rfl
theorem ev_X11_mean_1 (ls st : List qV) (a : qA) : qa_ev P_X11_mean 1 ls st a = qa_go P_X11_mean (B_X11_mean_1 ls st a) := qa_ev_eq _ _ _ _ _ rfl
theorem ev_X11_trust_0 (ls st : List qV) (a : qA) : qa_ev P_X11_trust 0 ls st a = qa_go P_X11_trust (B_X11_trust_0 ls st a) := qa_ev_eq _ _ _ _ _ rfl
theorem ev_X11_trust_1 (ls st : List qV) (a : qA) : qa_ev P_X11_trust 1 ls st a = qa_go P_X11_trust (B_X11_trust_1 ls st a) := qa_ev_eq _ _ _ _ _ rfl
theorem ev_X9_brokenCount_0 (ls st : List qV) (a : qA) : qa_ev P_X9_brokenCount 0 ls st a = qa_go P_X9_brokenCount (B_X9_brokenCount_0 ls st a) := qa_ev_eq _ _ _ _ _ rfl
theorem ev_X9_brokenCount_1 (ls st : List qV) (a : qA) : qa_ev P_X9_brokenCount 1 ls st a = qa_go P_X9_brokenCount (B_X9_brokenCount_1 ls st a) := qa_ev_eq _ _ _ _ _ rfl
theorem ev_X9_brokenCount_2 (ls st : List qV) (a : qA) : qa_ev P_X9_brokenCount 2 ls st a = qa_go P_X9_brokenCount (B_X9_brokenCount_2 ls st a) := qa_ev_eq _ _ _ _ _ rfl
theorem ev_X9_brokenCount_3 (ls st : List qV) (a : qA) : qa_ev P_X9_brokenCount 3 ls st a = qa_go P_X9_brokenCount (B_X9_brokenCount_3 ls st a) := qa_ev_eq _ _ _ _ _ rfl
theorem ev_X9_brokenCount_4 (ls st : List qV) (a : qA) : qa_ev P_X9_brokenCount 4 ls st a = qa_go P_X9_brokenCount (B_X9_brokenCount_4 ls st a) := qa_ev_eq _ _ _ _ _ rfl
theorem ev_X9_debtCount_0 (ls st : List qV) (a : qA) : qa_ev P_X9_debtCount 0 ls st a = qa_go P_X9_debtCount (B_X9_debtCount_0 ls st a) := qa_ev_eq _ _ _ _ _ rfl
theorem ev_X9_debtCount_1 (ls st : List qV) (a : qA) : qa_ev P_X9_debtCount 1 ls st a = qa_go P_X9_debtCount (B_X9_debtCount_1 ls st a) := qa_ev_eq _ _ _ _ _ rfl
theorem ev_X9_debtCount_2 (ls st : List qV) (a : qA) : qa_ev P_X9_debtCount 2 ls st a = qa_go P_X9_debtCount (B_X9_debtCount_2 ls st a) := qa_ev_eq _ _ _ _ _ rfl
theorem ev_X9_debtCount_3 (ls st : List qV) (a : qA) : qa_ev P_X9_debtCount 3 ls st a = qa_go P_X9_debtCount (B_X9_debtCount_3 ls st a) := qa_ev_eq _ _ _ _ _ rfl
theorem ev_X9_debtCount_4 (ls st : List qV) (a : qA) : qa_ev P_X9_debtCount 4 ls st a = qa_go P_X9_debtCount (B_X9_debtCount_4 ls st a) := qa_ev_eq _ _ _ _ _ rfl
theorem ev_X9_greatestTotal_0 (ls st : List qV) (a : qA) : qa_ev P_X9_greatestTotal 0 ls st a = qa_go P_X9_greatestTotal (B_X9_greatestTotal_0 ls st a) := qa_ev_eq _ _ _ _ _ rfl
theorem ev_X9_greatestTotal_1 (ls st : List qV) (a : qA) : qa_ev P_X9_greatestTotal 1 ls st a = qa_go P_X9_greatestTotal (B_X9_greatestTotal_1 ls st a) := qa_ev_eq _ _ _ _ _ rfl
theorem ev_X9_greatestTotal_2 (ls st : List qV) (a : qA) : qa_ev P_X9_greatestTotal 2 ls st a = qa_go P_X9_greatestTotal (B_X9_greatestTotal_2 ls st a) := qa_ev_eq _ _ _ _ _ rfl
theorem ev_X9_greatestTotal_3 (ls st : List qV) (a : qA) : qa_ev P_X9_greatestTotal 3 ls st a = qa_go P_X9_greatestTotal (B_X9_greatestTotal_3 ls st a) := qa_ev_eq _ _ _ _ _ rfl
theorem ev_X9_greatestTotal_4 (ls st : List qV) (a : qA) : qa_ev P_X9_greatestTotal 4 ls st a = qa_go P_X9_greatestTotal (B_X9_greatestTotal_4 ls st a) := qa_ev_eq _ _ _ _ _ rfl
theorem ev_X11_ahead_0 (ls st : List qV) (a : qA) : qa_ev P_X11_ahead 0 ls st a = qa_go P_X11_ahead (B_X11_ahead_0 ls st a) := qa_ev_eq _ _ _ _ _ rfl
theorem ev_X11_ahead_1 (ls st : List qV) (a : qA) : qa_ev P_X11_ahead 1 ls st a = qa_go P_X11_ahead (B_X11_ahead_1 ls st a) := qa_ev_eq _ _ _ _ _ rfl
theorem ev_X11_ahead_2 (ls st : List qV) (a : qA) : qa_ev P_X11_ahead 2 ls st a = qa_go P_X11_ahead (B_X11_ahead_2 ls st a) := qa_ev_eq _ _ _ _ _ rfl
theorem ev_X11_ahead_3 (ls st : List qV) (a : qA) : qa_ev P_X11_ahead 3 ls st a = qa_go P_X11_ahead (B_X11_ahead_3 ls st a) := qa_ev_eq _ _ _ _ _ rfl
theorem ev_X11_ahead_4 (ls st : List qV) (a : qA) : qa_ev P_X11_ahead 4 ls st a = qa_go P_X11_ahead (B_X11_ahead_4 ls st a) := qa_ev_eq _ _ _ _ _ rfl
theorem ev_X11_ahead_5 (ls st : List qV) (a : qA) : qa_ev P_X11_ahead 5 ls st a = qa_go P_X11_ahead (B_X11_ahead_5 ls st a) := qa_ev_eq _ _ _ _ _ rfl
theorem ev_X11_ahead_6 (ls st : List qV) (a : qA) : qa_ev P_X11_ahead 6 ls st a = qa_go P_X11_ahead (B_X11_ahead_6 ls st a) := qa_ev_eq _ _ _ _ _ rfl
theorem ev_X9_owedTo_0 (ls st : List qV) (a : qA) : qa_ev P_X9_owedTo 0 ls st a = qa_go P_X9_owedTo (B_X9_owedTo_0 ls st a) := qa_ev_eq _ _ _ _ _ rfl
theorem ev_X9_owedTo_1 (ls st : List qV) (a : qA) : qa_ev P_X9_owedTo 1 ls st a = qa_go P_X9_owedTo (B_X9_owedTo_1 ls st a) := qa_ev_eq _ _ _ _ _ rfl
theorem ev_X9_owedTo_2 (ls st : List qV) (a : qA) : qa_ev P_X9_owedTo 2 ls st a = qa_go P_X9_owedTo (B_X9_owedTo_2 ls st a) := qa_ev_eq _ _ _ _ _ rfl
theorem ev_X11_losesIn_0 (ls st : List qV) (a : qA) : qa_ev P_X11_losesIn 0 ls st a = qa_go P_X11_losesIn (B_X11_losesIn_0 ls st a) := qa_ev_eq _ _ _ _ _ rfl
theorem ev_X11_losesIn_1 (ls st : List qV) (a : qA) : qa_ev P_X11_losesIn 1 ls st a = qa_go P_X11_losesIn (B_X11_losesIn_1 ls st a) := qa_ev_eq _ _ _ _ _ rfl
theorem ev_X11_losesIn_2 (ls st : List qV) (a : qA) : qa_ev P_X11_losesIn 2 ls st a = qa_go P_X11_losesIn (B_X11_losesIn_2 ls st a) := qa_ev_eq _ _ _ _ _ rfl
theorem ev_X11_losesIn_3 (ls st : List qV) (a : qA) : qa_ev P_X11_losesIn 3 ls st a = qa_go P_X11_losesIn (B_X11_losesIn_3 ls st a) := qa_ev_eq _ _ _ _ _ rfl
theorem ev_X11_wouldCut_0 (ls st : List qV) (a : qA) : qa_ev P_X11_wouldCut 0 ls st a = qa_go P_X11_wouldCut (B_X11_wouldCut_0 ls st a) := qa_ev_eq _ _ _ _ _ rfl
theorem ev_X11_wouldCut_1 (ls st : List qV) (a : qA) : qa_ev P_X11_wouldCut 1 ls st a = qa_go P_X11_wouldCut (B_X11_wouldCut_1 ls st a) := qa_ev_eq _ _ _ _ _ rfl
theorem ev_X2_countFrom_0 (ls st : List qV) (a : qA) : qa_ev P_X2_countFrom 0 ls st a = qa_go P_X2_countFrom (B_X2_countFrom_0 ls st a) := qa_ev_eq _ _ _ _ _ rfl
theorem ev_X2_countFrom_1 (ls st : List qV) (a : qA) : qa_ev P_X2_countFrom 1 ls st a = qa_go P_X2_countFrom (B_X2_countFrom_1 ls st a) := qa_ev_eq _ _ _ _ _ rfl
theorem ev_X2_countFrom_2 (ls st : List qV) (a : qA) : qa_ev P_X2_countFrom 2 ls st a = qa_go P_X2_countFrom (B_X2_countFrom_2 ls st a) := qa_ev_eq _ _ _ _ _ rfl
theorem ev_X2_countFrom_3 (ls st : List qV) (a : qA) : qa_ev P_X2_countFrom 3 ls st a = qa_go P_X2_countFrom (B_X2_countFrom_3 ls st a) := qa_ev_eq _ _ _ _ _ rfl
theorem ev_X2_countFrom_4 (ls st : List qV) (a : qA) : qa_ev P_X2_countFrom 4 ls st a = qa_go P_X2_countFrom (B_X2_countFrom_4 ls st a) := qa_ev_eq _ _ _ _ _ rfl
theorem ev_X11_unread_0 (ls st : List qV) (a : qA) : qa_ev P_X11_unread 0 ls st a = qa_go P_X11_unread (B_X11_unread_0 ls st a) := qa_ev_eq _ _ _ _ _ rfl
theorem ev_X9_promisesAhead_0 (ls st : List qV) (a : qA) : qa_ev P_X9_promisesAhead 0 ls st a = qa_go P_X9_promisesAhead (B_X9_promisesAhead_0 ls st a) := qa_ev_eq _ _ _ _ _ rfl
theorem ev_X9_promisesAhead_1 (ls st : List qV) (a : qA) : qa_ev P_X9_promisesAhead 1 ls st a = qa_go P_X9_promisesAhead (B_X9_promisesAhead_1 ls st a) := qa_ev_eq _ _ _ _ _ rfl
theorem ev_X9_promisesAhead_2 (ls st : List qV) (a : qA) : qa_ev P_X9_promisesAhead 2 ls st a = qa_go P_X9_promisesAhead (B_X9_promisesAhead_2 ls st a) := qa_ev_eq _ _ _ _ _ rfl
theorem ev_X9_promisesAhead_3 (ls st : List qV) (a : qA) : qa_ev P_X9_promisesAhead 3 ls st a = qa_go P_X9_promisesAhead (B_X9_promisesAhead_3 ls st a) := qa_ev_eq _ _ _ _ _ rfl
theorem ev_X9_promisesAhead_4 (ls st : List qV) (a : qA) : qa_ev P_X9_promisesAhead 4 ls st a = qa_go P_X9_promisesAhead (B_X9_promisesAhead_4 ls st a) := qa_ev_eq _ _ _ _ _ rfl
theorem ev_X9_promisesAhead_5 (ls st : List qV) (a : qA) : qa_ev P_X9_promisesAhead 5 ls st a = qa_go P_X9_promisesAhead (B_X9_promisesAhead_5 ls st a) := qa_ev_eq _ _ _ _ _ rfl
theorem ev_X9_promisesAhead_6 (ls st : List qV) (a : qA) : qa_ev P_X9_promisesAhead 6 ls st a = qa_go P_X9_promisesAhead (B_X9_promisesAhead_6 ls st a) := qa_ev_eq _ _ _ _ _ rfl
theorem ev_X9_promisesAhead_7 (ls st : List qV) (a : qA) : qa_ev P_X9_promisesAhead 7 ls st a = qa_go P_X9_promisesAhead (B_X9_promisesAhead_7 ls st a) := qa_ev_eq _ _ _ _ _ rfl
theorem ev_X9_promisedAt_0 (ls st : List qV) (a : qA) : qa_ev P_X9_promisedAt 0 ls st a = qa_go P_X9_promisedAt (B_X9_promisedAt_0 ls st a) := qa_ev_eq _ _ _ _ _ rfl
theorem ev_X9_promisedAt_1 (ls st : List qV) (a : qA) : qa_ev P_X9_promisedAt 1 ls st a = qa_go P_X9_promisedAt (B_X9_promisedAt_1 ls st a) := qa_ev_eq _ _ _ _ _ rfl
theorem ev_X9_promisedAt_2 (ls st : List qV) (a : qA) : qa_ev P_X9_promisedAt 2 ls st a = qa_go P_X9_promisedAt (B_X9_promisedAt_2 ls st a) := qa_ev_eq _ _ _ _ _ rfl
theorem ev_X9_promisedAt_3 (ls st : List qV) (a : qA) : qa_ev P_X9_promisedAt 3 ls st a = qa_go P_X9_promisedAt (B_X9_promisedAt_3 ls st a) := qa_ev_eq _ _ _ _ _ rfl
theorem ev_X11_promised_0 (ls st : List qV) (a : qA) : qa_ev P_X11_promised 0 ls st a = qa_go P_X11_promised (B_X11_promised_0 ls st a) := qa_ev_eq _ _ _ _ _ rfl
theorem ev_X11_promised_1 (ls st : List qV) (a : qA) : qa_ev P_X11_promised 1 ls st a = qa_go P_X11_promised (B_X11_promised_1 ls st a) := qa_ev_eq _ _ _ _ _ rfl
theorem ev_X11_age_0 (ls st : List qV) (a : qA) : qa_ev P_X11_age 0 ls st a = qa_go P_X11_age (B_X11_age_0 ls st a) := qa_ev_eq _ _ _ _ _ rfl
theorem ev_X11_age_1 (ls st : List qV) (a : qA) : qa_ev P_X11_age 1 ls st a = qa_go P_X11_age (B_X11_age_1 ls st a) := qa_ev_eq _ _ _ _ _ rfl
theorem ev_X11_age_2 (ls st : List qV) (a : qA) : qa_ev P_X11_age 2 ls st a = qa_go P_X11_age (B_X11_age_2 ls st a) := qa_ev_eq _ _ _ _ _ rfl
theorem ev_J8_hugeLength_7cf53_0 (ls st : List qV) (a : qA) : qa_ev P_J8_hugeLength_7cf53 0 ls st a = qa_go P_J8_hugeLength_7cf53 (B_J8_hugeLength_7cf53_0 ls st a) := qa_ev_eq _ _ _ _ _ rfl
theorem ev_J8_hugeLength_7cf53_1 (ls st : List qV) (a : qA) : qa_ev P_J8_hugeLength_7cf53 1 ls st a = qa_go P_J8_hugeLength_7cf53 (B_J8_hugeLength_7cf53_1 ls st a) := qa_ev_eq _ _ _ _ _ rfl
theorem ev_J8_hugeLength_7cf53_2 (ls st : List qV) (a : qA) : qa_ev P_J8_hugeLength_7cf53 2 ls st a = qa_go P_J8_hugeLength_7cf53 (B_J8_hugeLength_7cf53_2 ls st a) := qa_ev_eq _ _ _ _ _ rfl
theorem ev_J8_newLength_cabcc_0 (ls st : List qV) (a : qA) : qa_ev P_J8_newLength_cabcc 0 ls st a = qa_go P_J8_newLength_cabcc (B_J8_newLength_cabcc_0 ls st a) := qa_ev_eq _ _ _ _ _ rfl
theorem ev_J8_newLength_cabcc_1 (ls st : List qV) (a : qA) : qa_ev P_J8_newLength_cabcc 1 ls st a = qa_go P_J8_newLength_cabcc (B_J8_newLength_cabcc_1 ls st a) := qa_ev_eq _ _ _ _ _ rfl
theorem ev_J5_newCapacity_0f7a4_0 (ls st : List qV) (a : qA) : qa_ev P_J5_newCapacity_0f7a4 0 ls st a = qa_go P_J5_newCapacity_0f7a4 (B_J5_newCapacity_0f7a4_0 ls st a) := qa_ev_eq _ _ _ _ _ rfl
theorem ev_J5_newCapacity_0f7a4_1 (ls st : List qV) (a : qA) : qa_ev P_J5_newCapacity_0f7a4 1 ls st a = qa_go P_J5_newCapacity_0f7a4 (B_J5_newCapacity_0f7a4_1 ls st a) := qa_ev_eq _ _ _ _ _ rfl
theorem ev_J7_copyOf_9075b_0 (ls st : List qV) (a : qA) : qa_ev P_J7_copyOf_9075b 0 ls st a = qa_go P_J7_copyOf_9075b (B_J7_copyOf_9075b_0 ls st a) := qa_ev_eq _ _ _ _ _ rfl
theorem ev_J7_copyOf_9075b_1 (ls st : List qV) (a : qA) : qa_ev P_J7_copyOf_9075b 1 ls st a = qa_go P_J7_copyOf_9075b (B_J7_copyOf_9075b_1 ls st a) := qa_ev_eq _ _ _ _ _ rfl
theorem ev_J5_ensureCapacityInternal_d00df_0 (ls st : List qV) (a : qA) : qa_ev P_J5_ensureCapacityInternal_d00df 0 ls st a = qa_go P_J5_ensureCapacityInternal_d00df (B_J5_ensureCapacityInternal_d00df_0 ls st a) := qa_ev_eq _ _ _ _ _ rfl
theorem ev_J5_ensureCapacityInternal_d00df_1 (ls st : List qV) (a : qA) : qa_ev P_J5_ensureCapacityInternal_d00df 1 ls st a = qa_go P_J5_ensureCapacityInternal_d00df (B_J5_ensureCapacityInternal_d00df_1 ls st a) := qa_ev_eq _ _ _ _ _ rfl
theorem ev_J5_isLatin1_aae02_0 (ls st : List qV) (a : qA) : qa_ev P_J5_isLatin1_aae02 0 ls st a = qa_go P_J5_isLatin1_aae02 (B_J5_isLatin1_aae02_0 ls st a) := qa_ev_eq _ _ _ _ _ rfl
theorem ev_J5_isLatin1_aae02_1 (ls st : List qV) (a : qA) : qa_ev P_J5_isLatin1_aae02 1 ls st a = qa_go P_J5_isLatin1_aae02 (B_J5_isLatin1_aae02_1 ls st a) := qa_ev_eq _ _ _ _ _ rfl
theorem ev_J5_isLatin1_aae02_2 (ls st : List qV) (a : qA) : qa_ev P_J5_isLatin1_aae02 2 ls st a = qa_go P_J5_isLatin1_aae02 (B_J5_isLatin1_aae02_2 ls st a) := qa_ev_eq _ _ _ _ _ rfl
theorem ev_J7_rangeCheck_23922_0 (ls st : List qV) (a : qA) : qa_ev P_J7_rangeCheck_23922 0 ls st a = qa_go P_J7_rangeCheck_23922 (B_J7_rangeCheck_23922_0 ls st a) := qa_ev_eq _ _ _ _ _ rfl
theorem ev_J7_rangeCheck_23922_1 (ls st : List qV) (a : qA) : qa_ev P_J7_rangeCheck_23922 1 ls st a = qa_go P_J7_rangeCheck_23922 (B_J7_rangeCheck_23922_1 ls st a) := qa_ev_eq _ _ _ _ _ rfl
theorem ev_J7_rangeCheck_23922_2 (ls st : List qV) (a : qA) : qa_ev P_J7_rangeCheck_23922 2 ls st a = qa_go P_J7_rangeCheck_23922 (B_J7_rangeCheck_23922_2 ls st a) := qa_ev_eq _ _ _ _ _ rfl
theorem ev_J7_rangeCheck_23922_3 (ls st : List qV) (a : qA) : qa_ev P_J7_rangeCheck_23922 3 ls st a = qa_go P_J7_rangeCheck_23922 (B_J7_rangeCheck_23922_3 ls st a) := qa_ev_eq _ _ _ _ _ rfl
theorem ev_J7_fill_eb02e_0 (ls st : List qV) (a : qA) : qa_ev P_J7_fill_eb02e 0 ls st a = qa_go P_J7_fill_eb02e (B_J7_fill_eb02e_0 ls st a) := qa_ev_eq _ _ _ _ _ rfl
theorem ev_J7_fill_eb02e_1 (ls st : List qV) (a : qA) : qa_ev P_J7_fill_eb02e 1 ls st a = qa_go P_J7_fill_eb02e (B_J7_fill_eb02e_1 ls st a) := qa_ev_eq _ _ _ _ _ rfl
theorem ev_J7_fill_eb02e_2 (ls st : List qV) (a : qA) : qa_ev P_J7_fill_eb02e 2 ls st a = qa_go P_J7_fill_eb02e (B_J7_fill_eb02e_2 ls st a) := qa_ev_eq _ _ _ _ _ rfl
theorem ev_J1_fillNull_b72d1_0 (ls st : List qV) (a : qA) : qa_ev P_J1_fillNull_b72d1 0 ls st a = qa_go P_J1_fillNull_b72d1 (B_J1_fillNull_b72d1_0 ls st a) := qa_ev_eq _ _ _ _ _ rfl
theorem ev_J5_setLength_d00df_0 (ls st : List qV) (a : qA) : qa_ev P_J5_setLength_d00df 0 ls st a = qa_go P_J5_setLength_d00df (B_J5_setLength_d00df_0 ls st a) := qa_ev_eq _ _ _ _ _ rfl
theorem ev_J5_setLength_d00df_1 (ls st : List qV) (a : qA) : qa_ev P_J5_setLength_d00df 1 ls st a = qa_go P_J5_setLength_d00df (B_J5_setLength_d00df_1 ls st a) := qa_ev_eq _ _ _ _ _ rfl
theorem ev_J5_setLength_d00df_2 (ls st : List qV) (a : qA) : qa_ev P_J5_setLength_d00df 2 ls st a = qa_go P_J5_setLength_d00df (B_J5_setLength_d00df_2 ls st a) := qa_ev_eq _ _ _ _ _ rfl
theorem ev_J5_setLength_d00df_3 (ls st : List qV) (a : qA) : qa_ev P_J5_setLength_d00df 3 ls st a = qa_go P_J5_setLength_d00df (B_J5_setLength_d00df_3 ls st a) := qa_ev_eq _ _ _ _ _ rfl
theorem ev_J5_setLength_d00df_4 (ls st : List qV) (a : qA) : qa_ev P_J5_setLength_d00df 4 ls st a = qa_go P_J5_setLength_d00df (B_J5_setLength_d00df_4 ls st a) := qa_ev_eq _ _ _ _ _ rfl
theorem ev_J4_setLength_d00df_0 (ls st : List qV) (a : qA) : qa_ev P_J4_setLength_d00df 0 ls st a = qa_go P_J4_setLength_d00df (B_J4_setLength_d00df_0 ls st a) := qa_ev_eq _ _ _ _ _ rfl
theorem ev_J6_stringSize_0f7a4_0 (ls st : List qV) (a : qA) : qa_ev P_J6_stringSize_0f7a4 0 ls st a = qa_go P_J6_stringSize_0f7a4 (B_J6_stringSize_0f7a4_0 ls st a) := qa_ev_eq _ _ _ _ _ rfl
theorem ev_J6_stringSize_0f7a4_1 (ls st : List qV) (a : qA) : qa_ev P_J6_stringSize_0f7a4 1 ls st a = qa_go P_J6_stringSize_0f7a4 (B_J6_stringSize_0f7a4_1 ls st a) := qa_ev_eq _ _ _ _ _ rfl
theorem ev_J6_stringSize_0f7a4_2 (ls st : List qV) (a : qA) : qa_ev P_J6_stringSize_0f7a4 2 ls st a = qa_go P_J6_stringSize_0f7a4 (B_J6_stringSize_0f7a4_2 ls st a) := qa_ev_eq _ _ _ _ _ rfl
theorem ev_J6_stringSize_0f7a4_3 (ls st : List qV) (a : qA) : qa_ev P_J6_stringSize_0f7a4 3 ls st a = qa_go P_J6_stringSize_0f7a4 (B_J6_stringSize_0f7a4_3 ls st a) := qa_ev_eq _ _ _ _ _ rfl
theorem ev_J6_stringSize_0f7a4_4 (ls st : List qV) (a : qA) : qa_ev P_J6_stringSize_0f7a4 4 ls st a = qa_go P_J6_stringSize_0f7a4 (B_J6_stringSize_0f7a4_4 ls st a) := qa_ev_eq _ _ _ _ _ rfl
theorem ev_J6_getChars_ba4f3_0 (ls st : List qV) (a : qA) : qa_ev P_J6_getChars_ba4f3 0 ls st a = qa_go P_J6_getChars_ba4f3 (B_J6_getChars_ba4f3_0 ls st a) := qa_ev_eq _ _ _ _ _ rfl
theorem ev_J6_getChars_ba4f3_1 (ls st : List qV) (a : qA) : qa_ev P_J6_getChars_ba4f3 1 ls st a = qa_go P_J6_getChars_ba4f3 (B_J6_getChars_ba4f3_1 ls st a) := qa_ev_eq _ _ _ _ _ rfl
theorem ev_J6_getChars_ba4f3_2 (ls st : List qV) (a : qA) : qa_ev P_J6_getChars_ba4f3 2 ls st a = qa_go P_J6_getChars_ba4f3 (B_J6_getChars_ba4f3_2 ls st a) := qa_ev_eq _ _ _ _ _ rfl
theorem ev_J6_getChars_ba4f3_3 (ls st : List qV) (a : qA) : qa_ev P_J6_getChars_ba4f3 3 ls st a = qa_go P_J6_getChars_ba4f3 (B_J6_getChars_ba4f3_3 ls st a) := qa_ev_eq _ _ _ _ _ rfl
theorem ev_J6_getChars_ba4f3_4 (ls st : List qV) (a : qA) : qa_ev P_J6_getChars_ba4f3 4 ls st a = qa_go P_J6_getChars_ba4f3 (B_J6_getChars_ba4f3_4 ls st a) := qa_ev_eq _ _ _ _ _ rfl
theorem ev_J6_getChars_ba4f3_5 (ls st : List qV) (a : qA) : qa_ev P_J6_getChars_ba4f3 5 ls st a = qa_go P_J6_getChars_ba4f3 (B_J6_getChars_ba4f3_5 ls st a) := qa_ev_eq _ _ _ _ _ rfl
theorem ev_J6_getChars_ba4f3_6 (ls st : List qV) (a : qA) : qa_ev P_J6_getChars_ba4f3 6 ls st a = qa_go P_J6_getChars_ba4f3 (B_J6_getChars_ba4f3_6 ls st a) := qa_ev_eq _ _ _ _ _ rfl
theorem ev_J5_append_c97b9_0 (ls st : List qV) (a : qA) : qa_ev P_J5_append_c97b9 0 ls st a = qa_go P_J5_append_c97b9 (B_J5_append_c97b9_0 ls st a) := qa_ev_eq _ _ _ _ _ rfl
theorem ev_J5_append_c97b9_1 (ls st : List qV) (a : qA) : qa_ev P_J5_append_c97b9 1 ls st a = qa_go P_J5_append_c97b9 (B_J5_append_c97b9_1 ls st a) := qa_ev_eq _ _ _ _ _ rfl
theorem ev_J5_append_c97b9_2 (ls st : List qV) (a : qA) : qa_ev P_J5_append_c97b9 2 ls st a = qa_go P_J5_append_c97b9 (B_J5_append_c97b9_2 ls st a) := qa_ev_eq _ _ _ _ _ rfl
theorem ev_J4_append_bf812_0 (ls st : List qV) (a : qA) : qa_ev P_J4_append_bf812 0 ls st a = qa_go P_J4_append_bf812 (B_J4_append_bf812_0 ls st a) := qa_ev_eq _ _ _ _ _ rfl
theorem ev_J1_canEncode_fc78d_0 (ls st : List qV) (a : qA) : qa_ev P_J1_canEncode_fc78d 0 ls st a = qa_go P_J1_canEncode_fc78d (B_J1_canEncode_fc78d_0 ls st a) := qa_ev_eq _ _ _ _ _ rfl
theorem ev_J1_canEncode_fc78d_1 (ls st : List qV) (a : qA) : qa_ev P_J1_canEncode_fc78d 1 ls st a = qa_go P_J1_canEncode_fc78d (B_J1_canEncode_fc78d_1 ls st a) := qa_ev_eq _ _ _ _ _ rfl
theorem ev_J1_canEncode_fc78d_2 (ls st : List qV) (a : qA) : qa_ev P_J1_canEncode_fc78d 2 ls st a = qa_go P_J1_canEncode_fc78d (B_J1_canEncode_fc78d_2 ls st a) := qa_ev_eq _ _ _ _ _ rfl
theorem ev_J5_inflate_da8c8_0 (ls st : List qV) (a : qA) : qa_ev P_J5_inflate_da8c8 0 ls st a = qa_go P_J5_inflate_da8c8 (B_J5_inflate_da8c8_0 ls st a) := qa_ev_eq _ _ _ _ _ rfl
theorem ev_J5_inflate_da8c8_1 (ls st : List qV) (a : qA) : qa_ev P_J5_inflate_da8c8 1 ls st a = qa_go P_J5_inflate_da8c8 (B_J5_inflate_da8c8_1 ls st a) := qa_ev_eq _ _ _ _ _ rfl
theorem ev_J5_append_3fe6f_0 (ls st : List qV) (a : qA) : qa_ev P_J5_append_3fe6f 0 ls st a = qa_go P_J5_append_3fe6f (B_J5_append_3fe6f_0 ls st a) := qa_ev_eq _ _ _ _ _ rfl
theorem ev_J5_append_3fe6f_1 (ls st : List qV) (a : qA) : qa_ev P_J5_append_3fe6f 1 ls st a = qa_go P_J5_append_3fe6f (B_J5_append_3fe6f_1 ls st a) := qa_ev_eq _ _ _ _ _ rfl
theorem ev_J5_append_3fe6f_2 (ls st : List qV) (a : qA) : qa_ev P_J5_append_3fe6f 2 ls st a = qa_go P_J5_append_3fe6f (B_J5_append_3fe6f_2 ls st a) := qa_ev_eq _ _ _ _ _ rfl
theorem ev_J5_append_3fe6f_3 (ls st : List qV) (a : qA) : qa_ev P_J5_append_3fe6f 3 ls st a = qa_go P_J5_append_3fe6f (B_J5_append_3fe6f_3 ls st a) := qa_ev_eq _ _ _ _ _ rfl
theorem ev_J4_append_cf468_0 (ls st : List qV) (a : qA) : qa_ev P_J4_append_cf468 0 ls st a = qa_go P_J4_append_cf468 (B_J4_append_cf468_0 ls st a) := qa_ev_eq _ _ _ _ _ rfl
theorem ev_X11_writeReader_0 (ls st : List qV) (a : qA) : qa_ev P_X11_writeReader 0 ls st a = qa_go P_X11_writeReader (B_X11_writeReader_0 ls st a) := qa_ev_eq _ _ _ _ _ rfl
theorem ev_X11_writeReader_1 (ls st : List qV) (a : qA) : qa_ev P_X11_writeReader 1 ls st a = qa_go P_X11_writeReader (B_X11_writeReader_1 ls st a) := qa_ev_eq _ _ _ _ _ rfl
theorem ev_X11_writeReader_2 (ls st : List qV) (a : qA) : qa_ev P_X11_writeReader 2 ls st a = qa_go P_X11_writeReader (B_X11_writeReader_2 ls st a) := qa_ev_eq _ _ _ _ _ rfl
theorem ev_X11_writeReader_3 (ls st : List qV) (a : qA) : qa_ev P_X11_writeReader 3 ls st a = qa_go P_X11_writeReader (B_X11_writeReader_3 ls st a) := qa_ev_eq _ _ _ _ _ rfl
theorem ev_J5_length_8abf5_0 (ls st : List qV) (a : qA) : qa_ev P_J5_length_8abf5 0 ls st a = qa_go P_J5_length_8abf5 (B_J5_length_8abf5_0 ls st a) := qa_ev_eq _ _ _ _ _ rfl
theorem ev_J4_length_8abf5_0 (ls st : List qV) (a : qA) : qa_ev P_J4_length_8abf5 0 ls st a = qa_go P_J4_length_8abf5 (B_J4_length_8abf5_0 ls st a) := qa_ev_eq _ _ _ _ _ rfl
theorem ev_X11_write_0 (ls st : List qV) (a : qA) : qa_ev P_X11_write 0 ls st a = qa_go P_X11_write (B_X11_write_0 ls st a) := qa_ev_eq _ _ _ _ _ rfl
theorem ev_X11_write_1 (ls st : List qV) (a : qA) : qa_ev P_X11_write 1 ls st a = qa_go P_X11_write (B_X11_write_1 ls st a) := qa_ev_eq _ _ _ _ _ rfl
theorem ev_X11_write_2 (ls st : List qV) (a : qA) : qa_ev P_X11_write 2 ls st a = qa_go P_X11_write (B_X11_write_2 ls st a) := qa_ev_eq _ _ _ _ _ rfl
theorem ev_X11_write_3 (ls st : List qV) (a : qA) : qa_ev P_X11_write 3 ls st a = qa_go P_X11_write (B_X11_write_3 ls st a) := qa_ev_eq _ _ _ _ _ rfl
theorem ev_X11_write_4 (ls st : List qV) (a : qA) : qa_ev P_X11_write 4 ls st a = qa_go P_X11_write (B_X11_write_4 ls st a) := qa_ev_eq _ _ _ _ _ rfl
theorem ev_J5_charAt_5068e_0 (ls st : List qV) (a : qA) : qa_ev P_J5_charAt_5068e 0 ls st a = qa_go P_J5_charAt_5068e (B_J5_charAt_5068e_0 ls st a) := qa_ev_eq _ _ _ _ _ rfl
theorem ev_J5_charAt_5068e_1 (ls st : List qV) (a : qA) : qa_ev P_J5_charAt_5068e 1 ls st a = qa_go P_J5_charAt_5068e (B_J5_charAt_5068e_1 ls st a) := qa_ev_eq _ _ _ _ _ rfl
theorem ev_J4_charAt_5068e_0 (ls st : List qV) (a : qA) : qa_ev P_J4_charAt_5068e 0 ls st a = qa_go P_J4_charAt_5068e (B_J4_charAt_5068e_0 ls st a) := qa_ev_eq _ _ _ _ _ rfl
theorem ev_X11_output_0 (ls st : List qV) (a : qA) : qa_ev P_X11_output 0 ls st a = qa_go P_X11_output (B_X11_output_0 ls st a) := qa_ev_eq _ _ _ _ _ rfl
theorem ev_X11_output_1 (ls st : List qV) (a : qA) : qa_ev P_X11_output 1 ls st a = qa_go P_X11_output (B_X11_output_1 ls st a) := qa_ev_eq _ _ _ _ _ rfl
theorem ev_X11_output_2 (ls st : List qV) (a : qA) : qa_ev P_X11_output 2 ls st a = qa_go P_X11_output (B_X11_output_2 ls st a) := qa_ev_eq _ _ _ _ _ rfl
theorem ev_X1_takeBack_0 (ls st : List qV) (a : qA) : qa_ev P_X1_takeBack 0 ls st a = qa_go P_X1_takeBack (B_X1_takeBack_0 ls st a) := qa_ev_eq _ _ _ _ _ rfl
theorem ev_X1_takeBack_1 (ls st : List qV) (a : qA) : qa_ev P_X1_takeBack 1 ls st a = qa_go P_X1_takeBack (B_X1_takeBack_1 ls st a) := qa_ev_eq _ _ _ _ _ rfl
theorem ev_X1_takeBack_2 (ls st : List qV) (a : qA) : qa_ev P_X1_takeBack 2 ls st a = qa_go P_X1_takeBack (B_X1_takeBack_2 ls st a) := qa_ev_eq _ _ _ _ _ rfl
theorem ev_X1_takeBack_3 (ls st : List qV) (a : qA) : qa_ev P_X1_takeBack 3 ls st a = qa_go P_X1_takeBack (B_X1_takeBack_3 ls st a) := qa_ev_eq _ _ _ _ _ rfl
theorem ev_X11_undo_0 (ls st : List qV) (a : qA) : qa_ev P_X11_undo 0 ls st a = qa_go P_X11_undo (B_X11_undo_0 ls st a) := qa_ev_eq _ _ _ _ _ rfl
theorem ev_X11_save_0 (ls st : List qV) (a : qA) : qa_ev P_X11_save 0 ls st a = qa_go P_X11_save (B_X11_save_0 ls st a) := qa_ev_eq _ _ _ _ _ rfl
theorem ev_X11_save_1 (ls st : List qV) (a : qA) : qa_ev P_X11_save 1 ls st a = qa_go P_X11_save (B_X11_save_1 ls st a) := qa_ev_eq _ _ _ _ _ rfl
theorem ev_X11_restore_0 (ls st : List qV) (a : qA) : qa_ev P_X11_restore 0 ls st a = qa_go P_X11_restore (B_X11_restore_0 ls st a) := qa_ev_eq _ _ _ _ _ rfl
theorem ev_X11_restore_1 (ls st : List qV) (a : qA) : qa_ev P_X11_restore 1 ls st a = qa_go P_X11_restore (B_X11_restore_1 ls st a) := qa_ev_eq _ _ _ _ _ rfl
theorem ev_X12_branchAt_0 (ls st : List qV) (a : qA) : qa_ev P_X12_branchAt 0 ls st a = qa_go P_X12_branchAt (B_X12_branchAt_0 ls st a) := qa_ev_eq _ _ _ _ _ rfl
theorem ev_X12_init_0 (ls st : List qV) (a : qA) : qa_ev P_X12_init 0 ls st a = qa_go P_X12_init (B_X12_init_0 ls st a) := qa_ev_eq _ _ _ _ _ rfl
theorem ev_X12_init_1 (ls st : List qV) (a : qA) : qa_ev P_X12_init 1 ls st a = qa_go P_X12_init (B_X12_init_1 ls st a) := qa_ev_eq _ _ _ _ _ rfl
theorem ev_X12_init_2 (ls st : List qV) (a : qA) : qa_ev P_X12_init 2 ls st a = qa_go P_X12_init (B_X12_init_2 ls st a) := qa_ev_eq _ _ _ _ _ rfl
theorem ev_X12_init_3 (ls st : List qV) (a : qA) : qa_ev P_X12_init 3 ls st a = qa_go P_X12_init (B_X12_init_3 ls st a) := qa_ev_eq _ _ _ _ _ rfl
theorem ev_X12_init_4 (ls st : List qV) (a : qA) : qa_ev P_X12_init 4 ls st a = qa_go P_X12_init (B_X12_init_4 ls st a) := qa_ev_eq _ _ _ _ _ rfl
theorem ev_X12_init_5 (ls st : List qV) (a : qA) : qa_ev P_X12_init 5 ls st a = qa_go P_X12_init (B_X12_init_5 ls st a) := qa_ev_eq _ _ _ _ _ rfl
theorem ev_X12_init_6 (ls st : List qV) (a : qA) : qa_ev P_X12_init 6 ls st a = qa_go P_X12_init (B_X12_init_6 ls st a) := qa_ev_eq _ _ _ _ _ rfl
theorem ev_X12_init_7 (ls st : List qV) (a : qA) : qa_ev P_X12_init 7 ls st a = qa_go P_X12_init (B_X12_init_7 ls st a) := qa_ev_eq _ _ _ _ _ rfl
theorem ev_X12_init_8 (ls st : List qV) (a : qA) : qa_ev P_X12_init 8 ls st a = qa_go P_X12_init (B_X12_init_8 ls st a) := qa_ev_eq _ _ _ _ _ rfl
theorem ev_X12_init_9 (ls st : List qV) (a : qA) : qa_ev P_X12_init 9 ls st a = qa_go P_X12_init (B_X12_init_9 ls st a) := qa_ev_eq _ _ _ _ _ rfl
theorem ev_X12_init_10 (ls st : List qV) (a : qA) : qa_ev P_X12_init 10 ls st a = qa_go P_X12_init (B_X12_init_10 ls st a) := qa_ev_eq _ _ _ _ _ rfl
theorem ev_X12_init_11 (ls st : List qV) (a : qA) : qa_ev P_X12_init 11 ls st a = qa_go P_X12_init (B_X12_init_11 ls st a) := qa_ev_eq _ _ _ _ _ rfl
theorem ev_X12_thrown_0 (ls st : List qV) (a : qA) : qa_ev P_X12_thrown 0 ls st a = qa_go P_X12_thrown (B_X12_thrown_0 ls st a) := qa_ev_eq _ _ _ _ _ rfl
theorem ev_X12_in_0 (ls st : List qV) (a : qA) : qa_ev P_X12_in 0 ls st a = qa_go P_X12_in (B_X12_in_0 ls st a) := qa_ev_eq _ _ _ _ _ rfl
theorem ev_X12_in_1 (ls st : List qV) (a : qA) : qa_ev P_X12_in 1 ls st a = qa_go P_X12_in (B_X12_in_1 ls st a) := qa_ev_eq _ _ _ _ _ rfl
theorem ev_X12_in_2 (ls st : List qV) (a : qA) : qa_ev P_X12_in 2 ls st a = qa_go P_X12_in (B_X12_in_2 ls st a) := qa_ev_eq _ _ _ _ _ rfl
theorem ev_X12_copies_0 (ls st : List qV) (a : qA) : qa_ev P_X12_copies 0 ls st a = qa_go P_X12_copies (B_X12_copies_0 ls st a) := qa_ev_eq _ _ _ _ _ rfl
theorem ev_X12_copies_1 (ls st : List qV) (a : qA) : qa_ev P_X12_copies 1 ls st a = qa_go P_X12_copies (B_X12_copies_1 ls st a) := qa_ev_eq _ _ _ _ _ rfl
theorem ev_X12_copies_2 (ls st : List qV) (a : qA) : qa_ev P_X12_copies 2 ls st a = qa_go P_X12_copies (B_X12_copies_2 ls st a) := qa_ev_eq _ _ _ _ _ rfl
theorem ev_X12_readerAt_0 (ls st : List qV) (a : qA) : qa_ev P_X12_readerAt 0 ls st a = qa_go P_X12_readerAt (B_X12_readerAt_0 ls st a) := qa_ev_eq _ _ _ _ _ rfl
theorem ev_X12_ofBranch_0 (ls st : List qV) (a : qA) : qa_ev P_X12_ofBranch 0 ls st a = qa_go P_X12_ofBranch (B_X12_ofBranch_0 ls st a) := qa_ev_eq _ _ _ _ _ rfl
theorem ev_X12_ofReader_0 (ls st : List qV) (a : qA) : qa_ev P_X12_ofReader 0 ls st a = qa_go P_X12_ofReader (B_X12_ofReader_0 ls st a) := qa_ev_eq _ _ _ _ _ rfl
theorem ev_X12_isBranch_0 (ls st : List qV) (a : qA) : qa_ev P_X12_isBranch 0 ls st a = qa_go P_X12_isBranch (B_X12_isBranch_0 ls st a) := qa_ev_eq _ _ _ _ _ rfl
theorem ev_X12_isBranch_1 (ls st : List qV) (a : qA) : qa_ev P_X12_isBranch 1 ls st a = qa_go P_X12_isBranch (B_X12_isBranch_1 ls st a) := qa_ev_eq _ _ _ _ _ rfl
theorem ev_X12_isBranch_2 (ls st : List qV) (a : qA) : qa_ev P_X12_isBranch 2 ls st a = qa_go P_X12_isBranch (B_X12_isBranch_2 ls st a) := qa_ev_eq _ _ _ _ _ rfl
theorem ev_X12_isReader_0 (ls st : List qV) (a : qA) : qa_ev P_X12_isReader 0 ls st a = qa_go P_X12_isReader (B_X12_isReader_0 ls st a) := qa_ev_eq _ _ _ _ _ rfl
theorem ev_X12_isReader_1 (ls st : List qV) (a : qA) : qa_ev P_X12_isReader 1 ls st a = qa_go P_X12_isReader (B_X12_isReader_1 ls st a) := qa_ev_eq _ _ _ _ _ rfl
theorem ev_X12_isReader_2 (ls st : List qV) (a : qA) : qa_ev P_X12_isReader 2 ls st a = qa_go P_X12_isReader (B_X12_isReader_2 ls st a) := qa_ev_eq _ _ _ _ _ rfl
theorem ev_X12_endOf_0 (ls st : List qV) (a : qA) : qa_ev P_X12_endOf 0 ls st a = qa_go P_X12_endOf (B_X12_endOf_0 ls st a) := qa_ev_eq _ _ _ _ _ rfl
theorem ev_X12_isIn_0 (ls st : List qV) (a : qA) : qa_ev P_X12_isIn 0 ls st a = qa_go P_X12_isIn (B_X12_isIn_0 ls st a) := qa_ev_eq _ _ _ _ _ rfl
theorem ev_X12_isIn_1 (ls st : List qV) (a : qA) : qa_ev P_X12_isIn 1 ls st a = qa_go P_X12_isIn (B_X12_isIn_1 ls st a) := qa_ev_eq _ _ _ _ _ rfl
theorem ev_X12_isIn_2 (ls st : List qV) (a : qA) : qa_ev P_X12_isIn 2 ls st a = qa_go P_X12_isIn (B_X12_isIn_2 ls st a) := qa_ev_eq _ _ _ _ _ rfl
theorem ev_X12_entryAt_0 (ls st : List qV) (a : qA) : qa_ev P_X12_entryAt 0 ls st a = qa_go P_X12_entryAt (B_X12_entryAt_0 ls st a) := qa_ev_eq _ _ _ _ _ rfl
theorem ev_X12_timeOf_0 (ls st : List qV) (a : qA) : qa_ev P_X12_timeOf 0 ls st a = qa_go P_X12_timeOf (B_X12_timeOf_0 ls st a) := qa_ev_eq _ _ _ _ _ rfl
theorem ev_X12_packed_0 (ls st : List qV) (a : qA) : qa_ev P_X12_packed 0 ls st a = qa_go P_X12_packed (B_X12_packed_0 ls st a) := qa_ev_eq _ _ _ _ _ rfl
theorem ev_X12_keyOf_0 (ls st : List qV) (a : qA) : qa_ev P_X12_keyOf 0 ls st a = qa_go P_X12_keyOf (B_X12_keyOf_0 ls st a) := qa_ev_eq _ _ _ _ _ rfl
theorem ev_X12_sizeOf_0 (ls st : List qV) (a : qA) : qa_ev P_X12_sizeOf 0 ls st a = qa_go P_X12_sizeOf (B_X12_sizeOf_0 ls st a) := qa_ev_eq _ _ _ _ _ rfl
theorem ev_X12_valueOf_0 (ls st : List qV) (a : qA) : qa_ev P_X12_valueOf 0 ls st a = qa_go P_X12_valueOf (B_X12_valueOf_0 ls st a) := qa_ev_eq _ _ _ _ _ rfl
theorem ev_X12_adds_0 (ls st : List qV) (a : qA) : qa_ev P_X12_adds 0 ls st a = qa_go P_X12_adds (B_X12_adds_0 ls st a) := qa_ev_eq _ _ _ _ _ rfl
theorem ev_X12_adds_1 (ls st : List qV) (a : qA) : qa_ev P_X12_adds 1 ls st a = qa_go P_X12_adds (B_X12_adds_1 ls st a) := qa_ev_eq _ _ _ _ _ rfl
theorem ev_X12_countsAnew_0 (ls st : List qV) (a : qA) : qa_ev P_X12_countsAnew 0 ls st a = qa_go P_X12_countsAnew (B_X12_countsAnew_0 ls st a) := qa_ev_eq _ _ _ _ _ rfl
theorem ev_X12_countsAnew_1 (ls st : List qV) (a : qA) : qa_ev P_X12_countsAnew 1 ls st a = qa_go P_X12_countsAnew (B_X12_countsAnew_1 ls st a) := qa_ev_eq _ _ _ _ _ rfl
theorem ev_X12_countsAnew_2 (ls st : List qV) (a : qA) : qa_ev P_X12_countsAnew 2 ls st a = qa_go P_X12_countsAnew (B_X12_countsAnew_2 ls st a) := qa_ev_eq _ _ _ _ _ rfl
theorem ev_X12_isCovered_0 (ls st : List qV) (a : qA) : qa_ev P_X12_isCovered 0 ls st a = qa_go P_X12_isCovered (B_X12_isCovered_0 ls st a) := qa_ev_eq _ _ _ _ _ rfl
theorem ev_X12_isCovered_1 (ls st : List qV) (a : qA) : qa_ev P_X12_isCovered 1 ls st a = qa_go P_X12_isCovered (B_X12_isCovered_1 ls st a) := qa_ev_eq _ _ _ _ _ rfl
theorem ev_X12_isCovered_2 (ls st : List qV) (a : qA) : qa_ev P_X12_isCovered 2 ls st a = qa_go P_X12_isCovered (B_X12_isCovered_2 ls st a) := qa_ev_eq _ _ _ _ _ rfl
theorem ev_X12_isCovered_3 (ls st : List qV) (a : qA) : qa_ev P_X12_isCovered 3 ls st a = qa_go P_X12_isCovered (B_X12_isCovered_3 ls st a) := qa_ev_eq _ _ _ _ _ rfl
theorem ev_X12_holds_0 (ls st : List qV) (a : qA) : qa_ev P_X12_holds 0 ls st a = qa_go P_X12_holds (B_X12_holds_0 ls st a) := qa_ev_eq _ _ _ _ _ rfl
theorem ev_X12_holds_1 (ls st : List qV) (a : qA) : qa_ev P_X12_holds 1 ls st a = qa_go P_X12_holds (B_X12_holds_1 ls st a) := qa_ev_eq _ _ _ _ _ rfl
theorem ev_X12_holds_2 (ls st : List qV) (a : qA) : qa_ev P_X12_holds 2 ls st a = qa_go P_X12_holds (B_X12_holds_2 ls st a) := qa_ev_eq _ _ _ _ _ rfl
theorem ev_X12_holderOf_0 (ls st : List qV) (a : qA) : qa_ev P_X12_holderOf 0 ls st a = qa_go P_X12_holderOf (B_X12_holderOf_0 ls st a) := qa_ev_eq _ _ _ _ _ rfl
theorem ev_X12_holderOf_1 (ls st : List qV) (a : qA) : qa_ev P_X12_holderOf 1 ls st a = qa_go P_X12_holderOf (B_X12_holderOf_1 ls st a) := qa_ev_eq _ _ _ _ _ rfl
theorem ev_X12_holderOf_2 (ls st : List qV) (a : qA) : qa_ev P_X12_holderOf 2 ls st a = qa_go P_X12_holderOf (B_X12_holderOf_2 ls st a) := qa_ev_eq _ _ _ _ _ rfl
theorem ev_X12_holderOf_3 (ls st : List qV) (a : qA) : qa_ev P_X12_holderOf 3 ls st a = qa_go P_X12_holderOf (B_X12_holderOf_3 ls st a) := qa_ev_eq _ _ _ _ _ rfl
theorem ev_X12_readersIn_0 (ls st : List qV) (a : qA) : qa_ev P_X12_readersIn 0 ls st a = qa_go P_X12_readersIn (B_X12_readersIn_0 ls st a) := qa_ev_eq _ _ _ _ _ rfl
theorem ev_X12_readersIn_1 (ls st : List qV) (a : qA) : qa_ev P_X12_readersIn 1 ls st a = qa_go P_X12_readersIn (B_X12_readersIn_1 ls st a) := qa_ev_eq _ _ _ _ _ rfl
theorem ev_X12_readersIn_2 (ls st : List qV) (a : qA) : qa_ev P_X12_readersIn 2 ls st a = qa_go P_X12_readersIn (B_X12_readersIn_2 ls st a) := qa_ev_eq _ _ _ _ _ rfl
theorem ev_X12_readersIn_3 (ls st : List qV) (a : qA) : qa_ev P_X12_readersIn 3 ls st a = qa_go P_X12_readersIn (B_X12_readersIn_3 ls st a) := qa_ev_eq _ _ _ _ _ rfl
theorem ev_X12_readersIn_4 (ls st : List qV) (a : qA) : qa_ev P_X12_readersIn 4 ls st a = qa_go P_X12_readersIn (B_X12_readersIn_4 ls st a) := qa_ev_eq _ _ _ _ _ rfl
theorem ev_X12_areBehind_0 (ls st : List qV) (a : qA) : qa_ev P_X12_areBehind 0 ls st a = qa_go P_X12_areBehind (B_X12_areBehind_0 ls st a) := qa_ev_eq _ _ _ _ _ rfl
theorem ev_X12_areBehind_1 (ls st : List qV) (a : qA) : qa_ev P_X12_areBehind 1 ls st a = qa_go P_X12_areBehind (B_X12_areBehind_1 ls st a) := qa_ev_eq _ _ _ _ _ rfl
theorem ev_X12_areBehind_2 (ls st : List qV) (a : qA) : qa_ev P_X12_areBehind 2 ls st a = qa_go P_X12_areBehind (B_X12_areBehind_2 ls st a) := qa_ev_eq _ _ _ _ _ rfl
theorem ev_X12_areBehind_3 (ls st : List qV) (a : qA) : qa_ev P_X12_areBehind 3 ls st a = qa_go P_X12_areBehind (B_X12_areBehind_3 ls st a) := qa_ev_eq _ _ _ _ _ rfl
theorem ev_X12_areBehind_4 (ls st : List qV) (a : qA) : qa_ev P_X12_areBehind 4 ls st a = qa_go P_X12_areBehind (B_X12_areBehind_4 ls st a) := qa_ev_eq _ _ _ _ _ rfl
theorem ev_X12_areBehind_5 (ls st : List qV) (a : qA) : qa_ev P_X12_areBehind 5 ls st a = qa_go P_X12_areBehind (B_X12_areBehind_5 ls st a) := qa_ev_eq _ _ _ _ _ rfl
theorem ev_X12_areBehind_6 (ls st : List qV) (a : qA) : qa_ev P_X12_areBehind 6 ls st a = qa_go P_X12_areBehind (B_X12_areBehind_6 ls st a) := qa_ev_eq _ _ _ _ _ rfl
theorem ev_X12_areBehind_7 (ls st : List qV) (a : qA) : qa_ev P_X12_areBehind 7 ls st a = qa_go P_X12_areBehind (B_X12_areBehind_7 ls st a) := qa_ev_eq _ _ _ _ _ rfl
theorem ev_X12_causeOf_0 (ls st : List qV) (a : qA) : qa_ev P_X12_causeOf 0 ls st a = qa_go P_X12_causeOf (B_X12_causeOf_0 ls st a) := qa_ev_eq _ _ _ _ _ rfl
theorem ev_X12_causeOf_1 (ls st : List qV) (a : qA) : qa_ev P_X12_causeOf 1 ls st a = qa_go P_X12_causeOf (B_X12_causeOf_1 ls st a) := qa_ev_eq _ _ _ _ _ rfl
theorem ev_X12_causeOf_2 (ls st : List qV) (a : qA) : qa_ev P_X12_causeOf 2 ls st a = qa_go P_X12_causeOf (B_X12_causeOf_2 ls st a) := qa_ev_eq _ _ _ _ _ rfl
theorem ev_X12_causeOf_3 (ls st : List qV) (a : qA) : qa_ev P_X12_causeOf 3 ls st a = qa_go P_X12_causeOf (B_X12_causeOf_3 ls st a) := qa_ev_eq _ _ _ _ _ rfl
theorem ev_X12_causeOf_4 (ls st : List qV) (a : qA) : qa_ev P_X12_causeOf 4 ls st a = qa_go P_X12_causeOf (B_X12_causeOf_4 ls st a) := qa_ev_eq _ _ _ _ _ rfl
theorem ev_X12_causeOf_5 (ls st : List qV) (a : qA) : qa_ev P_X12_causeOf 5 ls st a = qa_go P_X12_causeOf (B_X12_causeOf_5 ls st a) := qa_ev_eq _ _ _ _ _ rfl
theorem ev_X12_causeOf_6 (ls st : List qV) (a : qA) : qa_ev P_X12_causeOf 6 ls st a = qa_go P_X12_causeOf (B_X12_causeOf_6 ls st a) := qa_ev_eq _ _ _ _ _ rfl
theorem ev_X12_causeOf_7 (ls st : List qV) (a : qA) : qa_ev P_X12_causeOf 7 ls st a = qa_go P_X12_causeOf (B_X12_causeOf_7 ls st a) := qa_ev_eq _ _ _ _ _ rfl
theorem ev_X12_causeOf_8 (ls st : List qV) (a : qA) : qa_ev P_X12_causeOf 8 ls st a = qa_go P_X12_causeOf (B_X12_causeOf_8 ls st a) := qa_ev_eq _ _ _ _ _ rfl
theorem ev_X12_causeOf_9 (ls st : List qV) (a : qA) : qa_ev P_X12_causeOf 9 ls st a = qa_go P_X12_causeOf (B_X12_causeOf_9 ls st a) := qa_ev_eq _ _ _ _ _ rfl
theorem ev_X12_causeOf_10 (ls st : List qV) (a : qA) : qa_ev P_X12_causeOf 10 ls st a = qa_go P_X12_causeOf (B_X12_causeOf_10 ls st a) := qa_ev_eq _ _ _ _ _ rfl
theorem ev_X12_owes_0 (ls st : List qV) (a : qA) : qa_ev P_X12_owes 0 ls st a = qa_go P_X12_owes (B_X12_owes_0 ls st a) := qa_ev_eq _ _ _ _ _ rfl
theorem ev_X12_owes_1 (ls st : List qV) (a : qA) : qa_ev P_X12_owes 1 ls st a = qa_go P_X12_owes (B_X12_owes_1 ls st a) := qa_ev_eq _ _ _ _ _ rfl
theorem ev_X12_owes_2 (ls st : List qV) (a : qA) : qa_ev P_X12_owes 2 ls st a = qa_go P_X12_owes (B_X12_owes_2 ls st a) := qa_ev_eq _ _ _ _ _ rfl
theorem ev_X12_owes_3 (ls st : List qV) (a : qA) : qa_ev P_X12_owes 3 ls st a = qa_go P_X12_owes (B_X12_owes_3 ls st a) := qa_ev_eq _ _ _ _ _ rfl
theorem ev_X12_owes_4 (ls st : List qV) (a : qA) : qa_ev P_X12_owes 4 ls st a = qa_go P_X12_owes (B_X12_owes_4 ls st a) := qa_ev_eq _ _ _ _ _ rfl
theorem ev_X12_owes_5 (ls st : List qV) (a : qA) : qa_ev P_X12_owes 5 ls st a = qa_go P_X12_owes (B_X12_owes_5 ls st a) := qa_ev_eq _ _ _ _ _ rfl
theorem ev_X12_owes_6 (ls st : List qV) (a : qA) : qa_ev P_X12_owes 6 ls st a = qa_go P_X12_owes (B_X12_owes_6 ls st a) := qa_ev_eq _ _ _ _ _ rfl
theorem ev_X12_owes_7 (ls st : List qV) (a : qA) : qa_ev P_X12_owes 7 ls st a = qa_go P_X12_owes (B_X12_owes_7 ls st a) := qa_ev_eq _ _ _ _ _ rfl
theorem ev_X12_owes_8 (ls st : List qV) (a : qA) : qa_ev P_X12_owes 8 ls st a = qa_go P_X12_owes (B_X12_owes_8 ls st a) := qa_ev_eq _ _ _ _ _ rfl
theorem ev_X12_owes_9 (ls st : List qV) (a : qA) : qa_ev P_X12_owes 9 ls st a = qa_go P_X12_owes (B_X12_owes_9 ls st a) := qa_ev_eq _ _ _ _ _ rfl
theorem ev_X12_owes_10 (ls st : List qV) (a : qA) : qa_ev P_X12_owes 10 ls st a = qa_go P_X12_owes (B_X12_owes_10 ls st a) := qa_ev_eq _ _ _ _ _ rfl
theorem ev_X12_owes_11 (ls st : List qV) (a : qA) : qa_ev P_X12_owes 11 ls st a = qa_go P_X12_owes (B_X12_owes_11 ls st a) := qa_ev_eq _ _ _ _ _ rfl
theorem ev_X12_owes_12 (ls st : List qV) (a : qA) : qa_ev P_X12_owes 12 ls st a = qa_go P_X12_owes (B_X12_owes_12 ls st a) := qa_ev_eq _ _ _ _ _ rfl
theorem ev_X12_clearsDebt_0 (ls st : List qV) (a : qA) : qa_ev P_X12_clearsDebt 0 ls st a = qa_go P_X12_clearsDebt (B_X12_clearsDebt_0 ls st a) := qa_ev_eq _ _ _ _ _ rfl
theorem ev_X12_clearsDebt_1 (ls st : List qV) (a : qA) : qa_ev P_X12_clearsDebt 1 ls st a = qa_go P_X12_clearsDebt (B_X12_clearsDebt_1 ls st a) := qa_ev_eq _ _ _ _ _ rfl
theorem ev_X12_clearsDebt_2 (ls st : List qV) (a : qA) : qa_ev P_X12_clearsDebt 2 ls st a = qa_go P_X12_clearsDebt (B_X12_clearsDebt_2 ls st a) := qa_ev_eq _ _ _ _ _ rfl
theorem ev_X12_cutsOne_0 (ls st : List qV) (a : qA) : qa_ev P_X12_cutsOne 0 ls st a = qa_go P_X12_cutsOne (B_X12_cutsOne_0 ls st a) := qa_ev_eq _ _ _ _ _ rfl
theorem ev_X12_cutsOne_1 (ls st : List qV) (a : qA) : qa_ev P_X12_cutsOne 1 ls st a = qa_go P_X12_cutsOne (B_X12_cutsOne_1 ls st a) := qa_ev_eq _ _ _ _ _ rfl
theorem ev_X12_cutsOne_2 (ls st : List qV) (a : qA) : qa_ev P_X12_cutsOne 2 ls st a = qa_go P_X12_cutsOne (B_X12_cutsOne_2 ls st a) := qa_ev_eq _ _ _ _ _ rfl
theorem ev_X12_cutsOne_3 (ls st : List qV) (a : qA) : qa_ev P_X12_cutsOne 3 ls st a = qa_go P_X12_cutsOne (B_X12_cutsOne_3 ls st a) := qa_ev_eq _ _ _ _ _ rfl
theorem ev_X12_cutsOne_4 (ls st : List qV) (a : qA) : qa_ev P_X12_cutsOne 4 ls st a = qa_go P_X12_cutsOne (B_X12_cutsOne_4 ls st a) := qa_ev_eq _ _ _ _ _ rfl
theorem ev_X12_cutsOne_5 (ls st : List qV) (a : qA) : qa_ev P_X12_cutsOne 5 ls st a = qa_go P_X12_cutsOne (B_X12_cutsOne_5 ls st a) := qa_ev_eq _ _ _ _ _ rfl
theorem ev_X12_cutsOne_6 (ls st : List qV) (a : qA) : qa_ev P_X12_cutsOne 6 ls st a = qa_go P_X12_cutsOne (B_X12_cutsOne_6 ls st a) := qa_ev_eq _ _ _ _ _ rfl
theorem ev_X12_cutsOne_7 (ls st : List qV) (a : qA) : qa_ev P_X12_cutsOne 7 ls st a = qa_go P_X12_cutsOne (B_X12_cutsOne_7 ls st a) := qa_ev_eq _ _ _ _ _ rfl
theorem ev_X12_cutsOne_8 (ls st : List qV) (a : qA) : qa_ev P_X12_cutsOne 8 ls st a = qa_go P_X12_cutsOne (B_X12_cutsOne_8 ls st a) := qa_ev_eq _ _ _ _ _ rfl
theorem ev_X12_cutsOne_9 (ls st : List qV) (a : qA) : qa_ev P_X12_cutsOne 9 ls st a = qa_go P_X12_cutsOne (B_X12_cutsOne_9 ls st a) := qa_ev_eq _ _ _ _ _ rfl
theorem ev_X12_cuts_0 (ls st : List qV) (a : qA) : qa_ev P_X12_cuts 0 ls st a = qa_go P_X12_cuts (B_X12_cuts_0 ls st a) := qa_ev_eq _ _ _ _ _ rfl
theorem ev_X12_cuts_1 (ls st : List qV) (a : qA) : qa_ev P_X12_cuts 1 ls st a = qa_go P_X12_cuts (B_X12_cuts_1 ls st a) := qa_ev_eq _ _ _ _ _ rfl
theorem ev_X12_cuts_2 (ls st : List qV) (a : qA) : qa_ev P_X12_cuts 2 ls st a = qa_go P_X12_cuts (B_X12_cuts_2 ls st a) := qa_ev_eq _ _ _ _ _ rfl
theorem ev_X12_ticks_0 (ls st : List qV) (a : qA) : qa_ev P_X12_ticks 0 ls st a = qa_go P_X12_ticks (B_X12_ticks_0 ls st a) := qa_ev_eq _ _ _ _ _ rfl
theorem ev_X12_ticks_1 (ls st : List qV) (a : qA) : qa_ev P_X12_ticks 1 ls st a = qa_go P_X12_ticks (B_X12_ticks_1 ls st a) := qa_ev_eq _ _ _ _ _ rfl
theorem ev_X12_ticks_2 (ls st : List qV) (a : qA) : qa_ev P_X12_ticks 2 ls st a = qa_go P_X12_ticks (B_X12_ticks_2 ls st a) := qa_ev_eq _ _ _ _ _ rfl
theorem ev_X12_ticks_3 (ls st : List qV) (a : qA) : qa_ev P_X12_ticks 3 ls st a = qa_go P_X12_ticks (B_X12_ticks_3 ls st a) := qa_ev_eq _ _ _ _ _ rfl
theorem ev_X12_ticks_4 (ls st : List qV) (a : qA) : qa_ev P_X12_ticks 4 ls st a = qa_go P_X12_ticks (B_X12_ticks_4 ls st a) := qa_ev_eq _ _ _ _ _ rfl
theorem ev_X12_ticks_5 (ls st : List qV) (a : qA) : qa_ev P_X12_ticks 5 ls st a = qa_go P_X12_ticks (B_X12_ticks_5 ls st a) := qa_ev_eq _ _ _ _ _ rfl
theorem ev_X12_ticks_6 (ls st : List qV) (a : qA) : qa_ev P_X12_ticks 6 ls st a = qa_go P_X12_ticks (B_X12_ticks_6 ls st a) := qa_ev_eq _ _ _ _ _ rfl
theorem ev_X12_ticks_7 (ls st : List qV) (a : qA) : qa_ev P_X12_ticks 7 ls st a = qa_go P_X12_ticks (B_X12_ticks_7 ls st a) := qa_ev_eq _ _ _ _ _ rfl
theorem ev_X12_lowOf_0 (ls st : List qV) (a : qA) : qa_ev P_X12_lowOf 0 ls st a = qa_go P_X12_lowOf (B_X12_lowOf_0 ls st a) := qa_ev_eq _ _ _ _ _ rfl
theorem ev_X12_lowOf_1 (ls st : List qV) (a : qA) : qa_ev P_X12_lowOf 1 ls st a = qa_go P_X12_lowOf (B_X12_lowOf_1 ls st a) := qa_ev_eq _ _ _ _ _ rfl
theorem ev_X12_lowOf_2 (ls st : List qV) (a : qA) : qa_ev P_X12_lowOf 2 ls st a = qa_go P_X12_lowOf (B_X12_lowOf_2 ls st a) := qa_ev_eq _ _ _ _ _ rfl
theorem ev_X12_lowOf_3 (ls st : List qV) (a : qA) : qa_ev P_X12_lowOf 3 ls st a = qa_go P_X12_lowOf (B_X12_lowOf_3 ls st a) := qa_ev_eq _ _ _ _ _ rfl
theorem ev_X12_highOf_0 (ls st : List qV) (a : qA) : qa_ev P_X12_highOf 0 ls st a = qa_go P_X12_highOf (B_X12_highOf_0 ls st a) := qa_ev_eq _ _ _ _ _ rfl
theorem ev_X12_highOf_1 (ls st : List qV) (a : qA) : qa_ev P_X12_highOf 1 ls st a = qa_go P_X12_highOf (B_X12_highOf_1 ls st a) := qa_ev_eq _ _ _ _ _ rfl
theorem ev_X12_highOf_2 (ls st : List qV) (a : qA) : qa_ev P_X12_highOf 2 ls st a = qa_go P_X12_highOf (B_X12_highOf_2 ls st a) := qa_ev_eq _ _ _ _ _ rfl
theorem ev_X12_highOf_3 (ls st : List qV) (a : qA) : qa_ev P_X12_highOf 3 ls st a = qa_go P_X12_highOf (B_X12_highOf_3 ls st a) := qa_ev_eq _ _ _ _ _ rfl
theorem ev_X12_highOf_4 (ls st : List qV) (a : qA) : qa_ev P_X12_highOf 4 ls st a = qa_go P_X12_highOf (B_X12_highOf_4 ls st a) := qa_ev_eq _ _ _ _ _ rfl
theorem ev_X12_highOf_5 (ls st : List qV) (a : qA) : qa_ev P_X12_highOf 5 ls st a = qa_go P_X12_highOf (B_X12_highOf_5 ls st a) := qa_ev_eq _ _ _ _ _ rfl
theorem ev_X12_highOf_6 (ls st : List qV) (a : qA) : qa_ev P_X12_highOf 6 ls st a = qa_go P_X12_highOf (B_X12_highOf_6 ls st a) := qa_ev_eq _ _ _ _ _ rfl
theorem ev_X12_highOf_7 (ls st : List qV) (a : qA) : qa_ev P_X12_highOf 7 ls st a = qa_go P_X12_highOf (B_X12_highOf_7 ls st a) := qa_ev_eq _ _ _ _ _ rfl
theorem ev_X12_set_0 (ls st : List qV) (a : qA) : qa_ev P_X12_set 0 ls st a = qa_go P_X12_set (B_X12_set_0 ls st a) := qa_ev_eq _ _ _ _ _ rfl
theorem ev_X12_set_1 (ls st : List qV) (a : qA) : qa_ev P_X12_set 1 ls st a = qa_go P_X12_set (B_X12_set_1 ls st a) := qa_ev_eq _ _ _ _ _ rfl
theorem ev_X12_set_2 (ls st : List qV) (a : qA) : qa_ev P_X12_set 2 ls st a = qa_go P_X12_set (B_X12_set_2 ls st a) := qa_ev_eq _ _ _ _ _ rfl
theorem ev_X12_set_3 (ls st : List qV) (a : qA) : qa_ev P_X12_set 3 ls st a = qa_go P_X12_set (B_X12_set_3 ls st a) := qa_ev_eq _ _ _ _ _ rfl
theorem ev_X12_branchMany_0 (ls st : List qV) (a : qA) : qa_ev P_X12_branchMany 0 ls st a = qa_go P_X12_branchMany (B_X12_branchMany_0 ls st a) := qa_ev_eq _ _ _ _ _ rfl
theorem ev_X12_branchMany_1 (ls st : List qV) (a : qA) : qa_ev P_X12_branchMany 1 ls st a = qa_go P_X12_branchMany (B_X12_branchMany_1 ls st a) := qa_ev_eq _ _ _ _ _ rfl
theorem ev_X12_branchMany_2 (ls st : List qV) (a : qA) : qa_ev P_X12_branchMany 2 ls st a = qa_go P_X12_branchMany (B_X12_branchMany_2 ls st a) := qa_ev_eq _ _ _ _ _ rfl
theorem ev_X12_branchMany_3 (ls st : List qV) (a : qA) : qa_ev P_X12_branchMany 3 ls st a = qa_go P_X12_branchMany (B_X12_branchMany_3 ls st a) := qa_ev_eq _ _ _ _ _ rfl
theorem ev_X12_branchMany_4 (ls st : List qV) (a : qA) : qa_ev P_X12_branchMany 4 ls st a = qa_go P_X12_branchMany (B_X12_branchMany_4 ls st a) := qa_ev_eq _ _ _ _ _ rfl
theorem ev_X12_readerMany_0 (ls st : List qV) (a : qA) : qa_ev P_X12_readerMany 0 ls st a = qa_go P_X12_readerMany (B_X12_readerMany_0 ls st a) := qa_ev_eq _ _ _ _ _ rfl
theorem ev_X12_readerMany_1 (ls st : List qV) (a : qA) : qa_ev P_X12_readerMany 1 ls st a = qa_go P_X12_readerMany (B_X12_readerMany_1 ls st a) := qa_ev_eq _ _ _ _ _ rfl
theorem ev_X12_readerMany_2 (ls st : List qV) (a : qA) : qa_ev P_X12_readerMany 2 ls st a = qa_go P_X12_readerMany (B_X12_readerMany_2 ls st a) := qa_ev_eq _ _ _ _ _ rfl
theorem ev_X12_readerMany_3 (ls st : List qV) (a : qA) : qa_ev P_X12_readerMany 3 ls st a = qa_go P_X12_readerMany (B_X12_readerMany_3 ls st a) := qa_ev_eq _ _ _ _ _ rfl
theorem ev_X12_readerMany_4 (ls st : List qV) (a : qA) : qa_ev P_X12_readerMany 4 ls st a = qa_go P_X12_readerMany (B_X12_readerMany_4 ls st a) := qa_ev_eq _ _ _ _ _ rfl
theorem ev_X12_entryMany_0 (ls st : List qV) (a : qA) : qa_ev P_X12_entryMany 0 ls st a = qa_go P_X12_entryMany (B_X12_entryMany_0 ls st a) := qa_ev_eq _ _ _ _ _ rfl
theorem ev_X12_entryMany_1 (ls st : List qV) (a : qA) : qa_ev P_X12_entryMany 1 ls st a = qa_go P_X12_entryMany (B_X12_entryMany_1 ls st a) := qa_ev_eq _ _ _ _ _ rfl
theorem ev_X12_entryMany_2 (ls st : List qV) (a : qA) : qa_ev P_X12_entryMany 2 ls st a = qa_go P_X12_entryMany (B_X12_entryMany_2 ls st a) := qa_ev_eq _ _ _ _ _ rfl
theorem ev_X12_entryMany_3 (ls st : List qV) (a : qA) : qa_ev P_X12_entryMany 3 ls st a = qa_go P_X12_entryMany (B_X12_entryMany_3 ls st a) := qa_ev_eq _ _ _ _ _ rfl
theorem ev_X12_entryMany_4 (ls st : List qV) (a : qA) : qa_ev P_X12_entryMany 4 ls st a = qa_go P_X12_entryMany (B_X12_entryMany_4 ls st a) := qa_ev_eq _ _ _ _ _ rfl
theorem ev_X12_count_0 (ls st : List qV) (a : qA) : qa_ev P_X12_count 0 ls st a = qa_go P_X12_count (B_X12_count_0 ls st a) := qa_ev_eq _ _ _ _ _ rfl
theorem ev_X12_count_1 (ls st : List qV) (a : qA) : qa_ev P_X12_count 1 ls st a = qa_go P_X12_count (B_X12_count_1 ls st a) := qa_ev_eq _ _ _ _ _ rfl
theorem ev_X12_count_2 (ls st : List qV) (a : qA) : qa_ev P_X12_count 2 ls st a = qa_go P_X12_count (B_X12_count_2 ls st a) := qa_ev_eq _ _ _ _ _ rfl
theorem ev_X12_count_3 (ls st : List qV) (a : qA) : qa_ev P_X12_count 3 ls st a = qa_go P_X12_count (B_X12_count_3 ls st a) := qa_ev_eq _ _ _ _ _ rfl
theorem ev_X12_count_4 (ls st : List qV) (a : qA) : qa_ev P_X12_count 4 ls st a = qa_go P_X12_count (B_X12_count_4 ls st a) := qa_ev_eq _ _ _ _ _ rfl
theorem ev_X12_count_5 (ls st : List qV) (a : qA) : qa_ev P_X12_count 5 ls st a = qa_go P_X12_count (B_X12_count_5 ls st a) := qa_ev_eq _ _ _ _ _ rfl
theorem ev_X12_count_6 (ls st : List qV) (a : qA) : qa_ev P_X12_count 6 ls st a = qa_go P_X12_count (B_X12_count_6 ls st a) := qa_ev_eq _ _ _ _ _ rfl
theorem ev_X12_count_7 (ls st : List qV) (a : qA) : qa_ev P_X12_count 7 ls st a = qa_go P_X12_count (B_X12_count_7 ls st a) := qa_ev_eq _ _ _ _ _ rfl
theorem ev_X12_count_8 (ls st : List qV) (a : qA) : qa_ev P_X12_count 8 ls st a = qa_go P_X12_count (B_X12_count_8 ls st a) := qa_ev_eq _ _ _ _ _ rfl
theorem ev_X12_count_9 (ls st : List qV) (a : qA) : qa_ev P_X12_count 9 ls st a = qa_go P_X12_count (B_X12_count_9 ls st a) := qa_ev_eq _ _ _ _ _ rfl
theorem ev_X12_count_10 (ls st : List qV) (a : qA) : qa_ev P_X12_count 10 ls st a = qa_go P_X12_count (B_X12_count_10 ls st a) := qa_ev_eq _ _ _ _ _ rfl
theorem ev_X12_count_11 (ls st : List qV) (a : qA) : qa_ev P_X12_count 11 ls st a = qa_go P_X12_count (B_X12_count_11 ls st a) := qa_ev_eq _ _ _ _ _ rfl
theorem ev_X12_count_12 (ls st : List qV) (a : qA) : qa_ev P_X12_count 12 ls st a = qa_go P_X12_count (B_X12_count_12 ls st a) := qa_ev_eq _ _ _ _ _ rfl
theorem ev_X12_count_13 (ls st : List qV) (a : qA) : qa_ev P_X12_count 13 ls st a = qa_go P_X12_count (B_X12_count_13 ls st a) := qa_ev_eq _ _ _ _ _ rfl
theorem ev_X12_count_14 (ls st : List qV) (a : qA) : qa_ev P_X12_count 14 ls st a = qa_go P_X12_count (B_X12_count_14 ls st a) := qa_ev_eq _ _ _ _ _ rfl
theorem ev_X12_childrenOf_0 (ls st : List qV) (a : qA) : qa_ev P_X12_childrenOf 0 ls st a = qa_go P_X12_childrenOf (B_X12_childrenOf_0 ls st a) := qa_ev_eq _ _ _ _ _ rfl
theorem ev_X12_childrenOf_1 (ls st : List qV) (a : qA) : qa_ev P_X12_childrenOf 1 ls st a = qa_go P_X12_childrenOf (B_X12_childrenOf_1 ls st a) := qa_ev_eq _ _ _ _ _ rfl
theorem ev_X12_childrenOf_2 (ls st : List qV) (a : qA) : qa_ev P_X12_childrenOf 2 ls st a = qa_go P_X12_childrenOf (B_X12_childrenOf_2 ls st a) := qa_ev_eq _ _ _ _ _ rfl
theorem ev_X12_childrenOf_3 (ls st : List qV) (a : qA) : qa_ev P_X12_childrenOf 3 ls st a = qa_go P_X12_childrenOf (B_X12_childrenOf_3 ls st a) := qa_ev_eq _ _ _ _ _ rfl
theorem ev_X12_childrenOf_4 (ls st : List qV) (a : qA) : qa_ev P_X12_childrenOf 4 ls st a = qa_go P_X12_childrenOf (B_X12_childrenOf_4 ls st a) := qa_ev_eq _ _ _ _ _ rfl
theorem ev_X12_branch_0 (ls st : List qV) (a : qA) : qa_ev P_X12_branch 0 ls st a = qa_go P_X12_branch (B_X12_branch_0 ls st a) := qa_ev_eq _ _ _ _ _ rfl
theorem ev_X12_branch_1 (ls st : List qV) (a : qA) : qa_ev P_X12_branch 1 ls st a = qa_go P_X12_branch (B_X12_branch_1 ls st a) := qa_ev_eq _ _ _ _ _ rfl
theorem ev_X12_branch_2 (ls st : List qV) (a : qA) : qa_ev P_X12_branch 2 ls st a = qa_go P_X12_branch (B_X12_branch_2 ls st a) := qa_ev_eq _ _ _ _ _ rfl
theorem ev_X12_branch_3 (ls st : List qV) (a : qA) : qa_ev P_X12_branch 3 ls st a = qa_go P_X12_branch (B_X12_branch_3 ls st a) := qa_ev_eq _ _ _ _ _ rfl
theorem ev_X12_branch_4 (ls st : List qV) (a : qA) : qa_ev P_X12_branch 4 ls st a = qa_go P_X12_branch (B_X12_branch_4 ls st a) := qa_ev_eq _ _ _ _ _ rfl
theorem ev_X12_branch_5 (ls st : List qV) (a : qA) : qa_ev P_X12_branch 5 ls st a = qa_go P_X12_branch (B_X12_branch_5 ls st a) := qa_ev_eq _ _ _ _ _ rfl
theorem ev_X12_branch_6 (ls st : List qV) (a : qA) : qa_ev P_X12_branch 6 ls st a = qa_go P_X12_branch (B_X12_branch_6 ls st a) := qa_ev_eq _ _ _ _ _ rfl
theorem ev_X12_branch_7 (ls st : List qV) (a : qA) : qa_ev P_X12_branch 7 ls st a = qa_go P_X12_branch (B_X12_branch_7 ls st a) := qa_ev_eq _ _ _ _ _ rfl
theorem ev_X12_branch_8 (ls st : List qV) (a : qA) : qa_ev P_X12_branch 8 ls st a = qa_go P_X12_branch (B_X12_branch_8 ls st a) := qa_ev_eq _ _ _ _ _ rfl
theorem ev_X12_branch_9 (ls st : List qV) (a : qA) : qa_ev P_X12_branch 9 ls st a = qa_go P_X12_branch (B_X12_branch_9 ls st a) := qa_ev_eq _ _ _ _ _ rfl
theorem ev_X12_branch_10 (ls st : List qV) (a : qA) : qa_ev P_X12_branch 10 ls st a = qa_go P_X12_branch (B_X12_branch_10 ls st a) := qa_ev_eq _ _ _ _ _ rfl
theorem ev_X12_branch_11 (ls st : List qV) (a : qA) : qa_ev P_X12_branch 11 ls st a = qa_go P_X12_branch (B_X12_branch_11 ls st a) := qa_ev_eq _ _ _ _ _ rfl
theorem ev_X12_branch_12 (ls st : List qV) (a : qA) : qa_ev P_X12_branch 12 ls st a = qa_go P_X12_branch (B_X12_branch_12 ls st a) := qa_ev_eq _ _ _ _ _ rfl
theorem ev_X12_branch_13 (ls st : List qV) (a : qA) : qa_ev P_X12_branch 13 ls st a = qa_go P_X12_branch (B_X12_branch_13 ls st a) := qa_ev_eq _ _ _ _ _ rfl
theorem ev_X12_branch_14 (ls st : List qV) (a : qA) : qa_ev P_X12_branch 14 ls st a = qa_go P_X12_branch (B_X12_branch_14 ls st a) := qa_ev_eq _ _ _ _ _ rfl
theorem ev_X12_notBehind_0 (ls st : List qV) (a : qA) : qa_ev P_X12_notBehind 0 ls st a = qa_go P_X12_notBehind (B_X12_notBehind_0 ls st a) := qa_ev_eq _ _ _ _ _ rfl
theorem ev_X12_notBehind_1 (ls st : List qV) (a : qA) : qa_ev P_X12_notBehind 1 ls st a = qa_go P_X12_notBehind (B_X12_notBehind_1 ls st a) := qa_ev_eq _ _ _ _ _ rfl
theorem ev_X12_notBehind_2 (ls st : List qV) (a : qA) : qa_ev P_X12_notBehind 2 ls st a = qa_go P_X12_notBehind (B_X12_notBehind_2 ls st a) := qa_ev_eq _ _ _ _ _ rfl
theorem ev_X12_notBehind_3 (ls st : List qV) (a : qA) : qa_ev P_X12_notBehind 3 ls st a = qa_go P_X12_notBehind (B_X12_notBehind_3 ls st a) := qa_ev_eq _ _ _ _ _ rfl
theorem ev_X12_notBehind_4 (ls st : List qV) (a : qA) : qa_ev P_X12_notBehind 4 ls st a = qa_go P_X12_notBehind (B_X12_notBehind_4 ls st a) := qa_ev_eq _ _ _ _ _ rfl
theorem ev_X12_entry_0 (ls st : List qV) (a : qA) : qa_ev P_X12_entry 0 ls st a = qa_go P_X12_entry (B_X12_entry_0 ls st a) := qa_ev_eq _ _ _ _ _ rfl
theorem ev_X12_entry_1 (ls st : List qV) (a : qA) : qa_ev P_X12_entry 1 ls st a = qa_go P_X12_entry (B_X12_entry_1 ls st a) := qa_ev_eq _ _ _ _ _ rfl
theorem ev_X12_entry_2 (ls st : List qV) (a : qA) : qa_ev P_X12_entry 2 ls st a = qa_go P_X12_entry (B_X12_entry_2 ls st a) := qa_ev_eq _ _ _ _ _ rfl
theorem ev_X12_entry_3 (ls st : List qV) (a : qA) : qa_ev P_X12_entry 3 ls st a = qa_go P_X12_entry (B_X12_entry_3 ls st a) := qa_ev_eq _ _ _ _ _ rfl
theorem ev_X12_entry_4 (ls st : List qV) (a : qA) : qa_ev P_X12_entry 4 ls st a = qa_go P_X12_entry (B_X12_entry_4 ls st a) := qa_ev_eq _ _ _ _ _ rfl
theorem ev_X12_entry_5 (ls st : List qV) (a : qA) : qa_ev P_X12_entry 5 ls st a = qa_go P_X12_entry (B_X12_entry_5 ls st a) := qa_ev_eq _ _ _ _ _ rfl
theorem ev_X12_entry_6 (ls st : List qV) (a : qA) : qa_ev P_X12_entry 6 ls st a = qa_go P_X12_entry (B_X12_entry_6 ls st a) := qa_ev_eq _ _ _ _ _ rfl
theorem ev_X12_entry_7 (ls st : List qV) (a : qA) : qa_ev P_X12_entry 7 ls st a = qa_go P_X12_entry (B_X12_entry_7 ls st a) := qa_ev_eq _ _ _ _ _ rfl
theorem ev_X12_entry_8 (ls st : List qV) (a : qA) : qa_ev P_X12_entry 8 ls st a = qa_go P_X12_entry (B_X12_entry_8 ls st a) := qa_ev_eq _ _ _ _ _ rfl
theorem ev_X12_entry_9 (ls st : List qV) (a : qA) : qa_ev P_X12_entry 9 ls st a = qa_go P_X12_entry (B_X12_entry_9 ls st a) := qa_ev_eq _ _ _ _ _ rfl
theorem ev_X12_entry_10 (ls st : List qV) (a : qA) : qa_ev P_X12_entry 10 ls st a = qa_go P_X12_entry (B_X12_entry_10 ls st a) := qa_ev_eq _ _ _ _ _ rfl
theorem ev_X12_entry_11 (ls st : List qV) (a : qA) : qa_ev P_X12_entry 11 ls st a = qa_go P_X12_entry (B_X12_entry_11 ls st a) := qa_ev_eq _ _ _ _ _ rfl
theorem ev_X12_unreadSize_0 (ls st : List qV) (a : qA) : qa_ev P_X12_unreadSize 0 ls st a = qa_go P_X12_unreadSize (B_X12_unreadSize_0 ls st a) := qa_ev_eq _ _ _ _ _ rfl
theorem ev_X12_unreadSize_1 (ls st : List qV) (a : qA) : qa_ev P_X12_unreadSize 1 ls st a = qa_go P_X12_unreadSize (B_X12_unreadSize_1 ls st a) := qa_ev_eq _ _ _ _ _ rfl
theorem ev_X12_unreadSize_2 (ls st : List qV) (a : qA) : qa_ev P_X12_unreadSize 2 ls st a = qa_go P_X12_unreadSize (B_X12_unreadSize_2 ls st a) := qa_ev_eq _ _ _ _ _ rfl
theorem ev_X12_reader_0 (ls st : List qV) (a : qA) : qa_ev P_X12_reader 0 ls st a = qa_go P_X12_reader (B_X12_reader_0 ls st a) := qa_ev_eq _ _ _ _ _ rfl
theorem ev_X12_reader_1 (ls st : List qV) (a : qA) : qa_ev P_X12_reader 1 ls st a = qa_go P_X12_reader (B_X12_reader_1 ls st a) := qa_ev_eq _ _ _ _ _ rfl
theorem ev_X12_reader_2 (ls st : List qV) (a : qA) : qa_ev P_X12_reader 2 ls st a = qa_go P_X12_reader (B_X12_reader_2 ls st a) := qa_ev_eq _ _ _ _ _ rfl
theorem ev_X12_reader_3 (ls st : List qV) (a : qA) : qa_ev P_X12_reader 3 ls st a = qa_go P_X12_reader (B_X12_reader_3 ls st a) := qa_ev_eq _ _ _ _ _ rfl
theorem ev_X12_reader_4 (ls st : List qV) (a : qA) : qa_ev P_X12_reader 4 ls st a = qa_go P_X12_reader (B_X12_reader_4 ls st a) := qa_ev_eq _ _ _ _ _ rfl
theorem ev_X12_reader_5 (ls st : List qV) (a : qA) : qa_ev P_X12_reader 5 ls st a = qa_go P_X12_reader (B_X12_reader_5 ls st a) := qa_ev_eq _ _ _ _ _ rfl
theorem ev_X12_reader_6 (ls st : List qV) (a : qA) : qa_ev P_X12_reader 6 ls st a = qa_go P_X12_reader (B_X12_reader_6 ls st a) := qa_ev_eq _ _ _ _ _ rfl
theorem ev_X12_reader_7 (ls st : List qV) (a : qA) : qa_ev P_X12_reader 7 ls st a = qa_go P_X12_reader (B_X12_reader_7 ls st a) := qa_ev_eq _ _ _ _ _ rfl
theorem ev_X12_reader_8 (ls st : List qV) (a : qA) : qa_ev P_X12_reader 8 ls st a = qa_go P_X12_reader (B_X12_reader_8 ls st a) := qa_ev_eq _ _ _ _ _ rfl
theorem ev_X12_reader_9 (ls st : List qV) (a : qA) : qa_ev P_X12_reader 9 ls st a = qa_go P_X12_reader (B_X12_reader_9 ls st a) := qa_ev_eq _ _ _ _ _ rfl
theorem ev_X12_reader_10 (ls st : List qV) (a : qA) : qa_ev P_X12_reader 10 ls st a = qa_go P_X12_reader (B_X12_reader_10 ls st a) := qa_ev_eq _ _ _ _ _ rfl
theorem ev_X12_reader_11 (ls st : List qV) (a : qA) : qa_ev P_X12_reader 11 ls st a = qa_go P_X12_reader (B_X12_reader_11 ls st a) := qa_ev_eq _ _ _ _ _ rfl
theorem ev_X12_reader_12 (ls st : List qV) (a : qA) : qa_ev P_X12_reader 12 ls st a = qa_go P_X12_reader (B_X12_reader_12 ls st a) := qa_ev_eq _ _ _ _ _ rfl
theorem ev_X12_reader_13 (ls st : List qV) (a : qA) : qa_ev P_X12_reader 13 ls st a = qa_go P_X12_reader (B_X12_reader_13 ls st a) := qa_ev_eq _ _ _ _ _ rfl
theorem ev_X12_reader_14 (ls st : List qV) (a : qA) : qa_ev P_X12_reader 14 ls st a = qa_go P_X12_reader (B_X12_reader_14 ls st a) := qa_ev_eq _ _ _ _ _ rfl
theorem ev_X12_debt_0 (ls st : List qV) (a : qA) : qa_ev P_X12_debt 0 ls st a = qa_go P_X12_debt (B_X12_debt_0 ls st a) := qa_ev_eq _ _ _ _ _ rfl
theorem ev_X12_debt_1 (ls st : List qV) (a : qA) : qa_ev P_X12_debt 1 ls st a = qa_go P_X12_debt (B_X12_debt_1 ls st a) := qa_ev_eq _ _ _ _ _ rfl
theorem ev_X12_debt_2 (ls st : List qV) (a : qA) : qa_ev P_X12_debt 2 ls st a = qa_go P_X12_debt (B_X12_debt_2 ls st a) := qa_ev_eq _ _ _ _ _ rfl
theorem ev_X12_debt_3 (ls st : List qV) (a : qA) : qa_ev P_X12_debt 3 ls st a = qa_go P_X12_debt (B_X12_debt_3 ls st a) := qa_ev_eq _ _ _ _ _ rfl
theorem ev_X12_debt_4 (ls st : List qV) (a : qA) : qa_ev P_X12_debt 4 ls st a = qa_go P_X12_debt (B_X12_debt_4 ls st a) := qa_ev_eq _ _ _ _ _ rfl
theorem ev_X12_debt_5 (ls st : List qV) (a : qA) : qa_ev P_X12_debt 5 ls st a = qa_go P_X12_debt (B_X12_debt_5 ls st a) := qa_ev_eq _ _ _ _ _ rfl
theorem ev_X12_debt_6 (ls st : List qV) (a : qA) : qa_ev P_X12_debt 6 ls st a = qa_go P_X12_debt (B_X12_debt_6 ls st a) := qa_ev_eq _ _ _ _ _ rfl
theorem ev_X12_debt_7 (ls st : List qV) (a : qA) : qa_ev P_X12_debt 7 ls st a = qa_go P_X12_debt (B_X12_debt_7 ls st a) := qa_ev_eq _ _ _ _ _ rfl
theorem ev_X12_debt_8 (ls st : List qV) (a : qA) : qa_ev P_X12_debt 8 ls st a = qa_go P_X12_debt (B_X12_debt_8 ls st a) := qa_ev_eq _ _ _ _ _ rfl
theorem ev_X12_debtOf_0 (ls st : List qV) (a : qA) : qa_ev P_X12_debtOf 0 ls st a = qa_go P_X12_debtOf (B_X12_debtOf_0 ls st a) := qa_ev_eq _ _ _ _ _ rfl
theorem ev_X12_debtOf_1 (ls st : List qV) (a : qA) : qa_ev P_X12_debtOf 1 ls st a = qa_go P_X12_debtOf (B_X12_debtOf_1 ls st a) := qa_ev_eq _ _ _ _ _ rfl
theorem ev_X12_debtOf_2 (ls st : List qV) (a : qA) : qa_ev P_X12_debtOf 2 ls st a = qa_go P_X12_debtOf (B_X12_debtOf_2 ls st a) := qa_ev_eq _ _ _ _ _ rfl
theorem ev_X12_debtOf_3 (ls st : List qV) (a : qA) : qa_ev P_X12_debtOf 3 ls st a = qa_go P_X12_debtOf (B_X12_debtOf_3 ls st a) := qa_ev_eq _ _ _ _ _ rfl
theorem ev_X12_debtOf_4 (ls st : List qV) (a : qA) : qa_ev P_X12_debtOf 4 ls st a = qa_go P_X12_debtOf (B_X12_debtOf_4 ls st a) := qa_ev_eq _ _ _ _ _ rfl
theorem ev_X12_debtOf_5 (ls st : List qV) (a : qA) : qa_ev P_X12_debtOf 5 ls st a = qa_go P_X12_debtOf (B_X12_debtOf_5 ls st a) := qa_ev_eq _ _ _ _ _ rfl
theorem ev_X12_debtOf_6 (ls st : List qV) (a : qA) : qa_ev P_X12_debtOf 6 ls st a = qa_go P_X12_debtOf (B_X12_debtOf_6 ls st a) := qa_ev_eq _ _ _ _ _ rfl
theorem ev_X12_item_0 (ls st : List qV) (a : qA) : qa_ev P_X12_item 0 ls st a = qa_go P_X12_item (B_X12_item_0 ls st a) := qa_ev_eq _ _ _ _ _ rfl
theorem ev_X12_item_1 (ls st : List qV) (a : qA) : qa_ev P_X12_item 1 ls st a = qa_go P_X12_item (B_X12_item_1 ls st a) := qa_ev_eq _ _ _ _ _ rfl
theorem ev_X12_item_2 (ls st : List qV) (a : qA) : qa_ev P_X12_item 2 ls st a = qa_go P_X12_item (B_X12_item_2 ls st a) := qa_ev_eq _ _ _ _ _ rfl
theorem ev_X12_item_3 (ls st : List qV) (a : qA) : qa_ev P_X12_item 3 ls st a = qa_go P_X12_item (B_X12_item_3 ls st a) := qa_ev_eq _ _ _ _ _ rfl
theorem ev_X12_item_4 (ls st : List qV) (a : qA) : qa_ev P_X12_item 4 ls st a = qa_go P_X12_item (B_X12_item_4 ls st a) := qa_ev_eq _ _ _ _ _ rfl
theorem ev_X12_item_5 (ls st : List qV) (a : qA) : qa_ev P_X12_item 5 ls st a = qa_go P_X12_item (B_X12_item_5 ls st a) := qa_ev_eq _ _ _ _ _ rfl
theorem ev_X12_account_0 (ls st : List qV) (a : qA) : qa_ev P_X12_account 0 ls st a = qa_go P_X12_account (B_X12_account_0 ls st a) := qa_ev_eq _ _ _ _ _ rfl
theorem ev_X12_account_1 (ls st : List qV) (a : qA) : qa_ev P_X12_account 1 ls st a = qa_go P_X12_account (B_X12_account_1 ls st a) := qa_ev_eq _ _ _ _ _ rfl
theorem ev_X12_account_2 (ls st : List qV) (a : qA) : qa_ev P_X12_account 2 ls st a = qa_go P_X12_account (B_X12_account_2 ls st a) := qa_ev_eq _ _ _ _ _ rfl
theorem ev_X12_account_3 (ls st : List qV) (a : qA) : qa_ev P_X12_account 3 ls st a = qa_go P_X12_account (B_X12_account_3 ls st a) := qa_ev_eq _ _ _ _ _ rfl
theorem ev_X12_account_4 (ls st : List qV) (a : qA) : qa_ev P_X12_account 4 ls st a = qa_go P_X12_account (B_X12_account_4 ls st a) := qa_ev_eq _ _ _ _ _ rfl
theorem ev_X12_keeps_0 (ls st : List qV) (a : qA) : qa_ev P_X12_keeps 0 ls st a = qa_go P_X12_keeps (B_X12_keeps_0 ls st a) := qa_ev_eq _ _ _ _ _ rfl
theorem ev_X12_keeps_1 (ls st : List qV) (a : qA) : qa_ev P_X12_keeps 1 ls st a = qa_go P_X12_keeps (B_X12_keeps_1 ls st a) := qa_ev_eq _ _ _ _ _ rfl
theorem ev_X12_keeps_2 (ls st : List qV) (a : qA) : qa_ev P_X12_keeps 2 ls st a = qa_go P_X12_keeps (B_X12_keeps_2 ls st a) := qa_ev_eq _ _ _ _ _ rfl
theorem ev_X12_keeps_3 (ls st : List qV) (a : qA) : qa_ev P_X12_keeps 3 ls st a = qa_go P_X12_keeps (B_X12_keeps_3 ls st a) := qa_ev_eq _ _ _ _ _ rfl
theorem ev_X12_refuses_0 (ls st : List qV) (a : qA) : qa_ev P_X12_refuses 0 ls st a = qa_go P_X12_refuses (B_X12_refuses_0 ls st a) := qa_ev_eq _ _ _ _ _ rfl
theorem ev_X12_appends_0 (ls st : List qV) (a : qA) : qa_ev P_X12_appends 0 ls st a = qa_go P_X12_appends (B_X12_appends_0 ls st a) := qa_ev_eq _ _ _ _ _ rfl
theorem ev_X12_isEntry_0 (ls st : List qV) (a : qA) : qa_ev P_X12_isEntry 0 ls st a = qa_go P_X12_isEntry (B_X12_isEntry_0 ls st a) := qa_ev_eq _ _ _ _ _ rfl
theorem ev_X12_isEntry_1 (ls st : List qV) (a : qA) : qa_ev P_X12_isEntry 1 ls st a = qa_go P_X12_isEntry (B_X12_isEntry_1 ls st a) := qa_ev_eq _ _ _ _ _ rfl
theorem ev_X12_isEntry_2 (ls st : List qV) (a : qA) : qa_ev P_X12_isEntry 2 ls st a = qa_go P_X12_isEntry (B_X12_isEntry_2 ls st a) := qa_ev_eq _ _ _ _ _ rfl
theorem ev_X12_append_0 (ls st : List qV) (a : qA) : qa_ev P_X12_append 0 ls st a = qa_go P_X12_append (B_X12_append_0 ls st a) := qa_ev_eq _ _ _ _ _ rfl
theorem ev_X12_append_1 (ls st : List qV) (a : qA) : qa_ev P_X12_append 1 ls st a = qa_go P_X12_append (B_X12_append_1 ls st a) := qa_ev_eq _ _ _ _ _ rfl
theorem ev_X12_append_2 (ls st : List qV) (a : qA) : qa_ev P_X12_append 2 ls st a = qa_go P_X12_append (B_X12_append_2 ls st a) := qa_ev_eq _ _ _ _ _ rfl
theorem ev_X12_append_3 (ls st : List qV) (a : qA) : qa_ev P_X12_append 3 ls st a = qa_go P_X12_append (B_X12_append_3 ls st a) := qa_ev_eq _ _ _ _ _ rfl
theorem ev_X12_append_4 (ls st : List qV) (a : qA) : qa_ev P_X12_append 4 ls st a = qa_go P_X12_append (B_X12_append_4 ls st a) := qa_ev_eq _ _ _ _ _ rfl
theorem ev_X12_append_5 (ls st : List qV) (a : qA) : qa_ev P_X12_append 5 ls st a = qa_go P_X12_append (B_X12_append_5 ls st a) := qa_ev_eq _ _ _ _ _ rfl
theorem ev_X12_joins_0 (ls st : List qV) (a : qA) : qa_ev P_X12_joins 0 ls st a = qa_go P_X12_joins (B_X12_joins_0 ls st a) := qa_ev_eq _ _ _ _ _ rfl
theorem ev_X12_joins_1 (ls st : List qV) (a : qA) : qa_ev P_X12_joins 1 ls st a = qa_go P_X12_joins (B_X12_joins_1 ls st a) := qa_ev_eq _ _ _ _ _ rfl
theorem ev_X12_joins_2 (ls st : List qV) (a : qA) : qa_ev P_X12_joins 2 ls st a = qa_go P_X12_joins (B_X12_joins_2 ls st a) := qa_ev_eq _ _ _ _ _ rfl
theorem ev_X12_joins_3 (ls st : List qV) (a : qA) : qa_ev P_X12_joins 3 ls st a = qa_go P_X12_joins (B_X12_joins_3 ls st a) := qa_ev_eq _ _ _ _ _ rfl
theorem ev_X12_joins_4 (ls st : List qV) (a : qA) : qa_ev P_X12_joins 4 ls st a = qa_go P_X12_joins (B_X12_joins_4 ls st a) := qa_ev_eq _ _ _ _ _ rfl
theorem ev_X12_joins_5 (ls st : List qV) (a : qA) : qa_ev P_X12_joins 5 ls st a = qa_go P_X12_joins (B_X12_joins_5 ls st a) := qa_ev_eq _ _ _ _ _ rfl
theorem ev_X12_joins_6 (ls st : List qV) (a : qA) : qa_ev P_X12_joins 6 ls st a = qa_go P_X12_joins (B_X12_joins_6 ls st a) := qa_ev_eq _ _ _ _ _ rfl
theorem ev_X12_joins_7 (ls st : List qV) (a : qA) : qa_ev P_X12_joins 7 ls st a = qa_go P_X12_joins (B_X12_joins_7 ls st a) := qa_ev_eq _ _ _ _ _ rfl
theorem ev_X12_join_0 (ls st : List qV) (a : qA) : qa_ev P_X12_join 0 ls st a = qa_go P_X12_join (B_X12_join_0 ls st a) := qa_ev_eq _ _ _ _ _ rfl
theorem ev_X12_join_1 (ls st : List qV) (a : qA) : qa_ev P_X12_join 1 ls st a = qa_go P_X12_join (B_X12_join_1 ls st a) := qa_ev_eq _ _ _ _ _ rfl
theorem ev_X12_join_2 (ls st : List qV) (a : qA) : qa_ev P_X12_join 2 ls st a = qa_go P_X12_join (B_X12_join_2 ls st a) := qa_ev_eq _ _ _ _ _ rfl
theorem ev_X12_join_3 (ls st : List qV) (a : qA) : qa_ev P_X12_join 3 ls st a = qa_go P_X12_join (B_X12_join_3 ls st a) := qa_ev_eq _ _ _ _ _ rfl
theorem ev_X12_join_4 (ls st : List qV) (a : qA) : qa_ev P_X12_join 4 ls st a = qa_go P_X12_join (B_X12_join_4 ls st a) := qa_ev_eq _ _ _ _ _ rfl
theorem ev_X12_leaves_0 (ls st : List qV) (a : qA) : qa_ev P_X12_leaves 0 ls st a = qa_go P_X12_leaves (B_X12_leaves_0 ls st a) := qa_ev_eq _ _ _ _ _ rfl
theorem ev_X12_leave_0 (ls st : List qV) (a : qA) : qa_ev P_X12_leave 0 ls st a = qa_go P_X12_leave (B_X12_leave_0 ls st a) := qa_ev_eq _ _ _ _ _ rfl
theorem ev_X12_leave_1 (ls st : List qV) (a : qA) : qa_ev P_X12_leave 1 ls st a = qa_go P_X12_leave (B_X12_leave_1 ls st a) := qa_ev_eq _ _ _ _ _ rfl
theorem ev_X12_leave_2 (ls st : List qV) (a : qA) : qa_ev P_X12_leave 2 ls st a = qa_go P_X12_leave (B_X12_leave_2 ls st a) := qa_ev_eq _ _ _ _ _ rfl
theorem ev_X12_leave_3 (ls st : List qV) (a : qA) : qa_ev P_X12_leave 3 ls st a = qa_go P_X12_leave (B_X12_leave_3 ls st a) := qa_ev_eq _ _ _ _ _ rfl
theorem ev_X12_leave_4 (ls st : List qV) (a : qA) : qa_ev P_X12_leave 4 ls st a = qa_go P_X12_leave (B_X12_leave_4 ls st a) := qa_ev_eq _ _ _ _ _ rfl
theorem ev_X12_deliversDebt_0 (ls st : List qV) (a : qA) : qa_ev P_X12_deliversDebt 0 ls st a = qa_go P_X12_deliversDebt (B_X12_deliversDebt_0 ls st a) := qa_ev_eq _ _ _ _ _ rfl
theorem ev_X12_deliversDebt_1 (ls st : List qV) (a : qA) : qa_ev P_X12_deliversDebt 1 ls st a = qa_go P_X12_deliversDebt (B_X12_deliversDebt_1 ls st a) := qa_ev_eq _ _ _ _ _ rfl
theorem ev_X12_deliversDebt_2 (ls st : List qV) (a : qA) : qa_ev P_X12_deliversDebt 2 ls st a = qa_go P_X12_deliversDebt (B_X12_deliversDebt_2 ls st a) := qa_ev_eq _ _ _ _ _ rfl
theorem ev_X12_deliversEntry_0 (ls st : List qV) (a : qA) : qa_ev P_X12_deliversEntry 0 ls st a = qa_go P_X12_deliversEntry (B_X12_deliversEntry_0 ls st a) := qa_ev_eq _ _ _ _ _ rfl
theorem ev_X12_deliversEntry_1 (ls st : List qV) (a : qA) : qa_ev P_X12_deliversEntry 1 ls st a = qa_go P_X12_deliversEntry (B_X12_deliversEntry_1 ls st a) := qa_ev_eq _ _ _ _ _ rfl
theorem ev_X12_deliversEntry_2 (ls st : List qV) (a : qA) : qa_ev P_X12_deliversEntry 2 ls st a = qa_go P_X12_deliversEntry (B_X12_deliversEntry_2 ls st a) := qa_ev_eq _ _ _ _ _ rfl
theorem ev_X12_deliversEntry_3 (ls st : List qV) (a : qA) : qa_ev P_X12_deliversEntry 3 ls st a = qa_go P_X12_deliversEntry (B_X12_deliversEntry_3 ls st a) := qa_ev_eq _ _ _ _ _ rfl
theorem ev_X12_deliversEntry_4 (ls st : List qV) (a : qA) : qa_ev P_X12_deliversEntry 4 ls st a = qa_go P_X12_deliversEntry (B_X12_deliversEntry_4 ls st a) := qa_ev_eq _ _ _ _ _ rfl
theorem ev_X12_reads_0 (ls st : List qV) (a : qA) : qa_ev P_X12_reads 0 ls st a = qa_go P_X12_reads (B_X12_reads_0 ls st a) := qa_ev_eq _ _ _ _ _ rfl
theorem ev_X12_reads_1 (ls st : List qV) (a : qA) : qa_ev P_X12_reads 1 ls st a = qa_go P_X12_reads (B_X12_reads_1 ls st a) := qa_ev_eq _ _ _ _ _ rfl
theorem ev_X12_reads_2 (ls st : List qV) (a : qA) : qa_ev P_X12_reads 2 ls st a = qa_go P_X12_reads (B_X12_reads_2 ls st a) := qa_ev_eq _ _ _ _ _ rfl
theorem ev_X12_reads_3 (ls st : List qV) (a : qA) : qa_ev P_X12_reads 3 ls st a = qa_go P_X12_reads (B_X12_reads_3 ls st a) := qa_ev_eq _ _ _ _ _ rfl
theorem ev_X12_reads_4 (ls st : List qV) (a : qA) : qa_ev P_X12_reads 4 ls st a = qa_go P_X12_reads (B_X12_reads_4 ls st a) := qa_ev_eq _ _ _ _ _ rfl
theorem ev_X12_reads_5 (ls st : List qV) (a : qA) : qa_ev P_X12_reads 5 ls st a = qa_go P_X12_reads (B_X12_reads_5 ls st a) := qa_ev_eq _ _ _ _ _ rfl
theorem ev_X12_reads_6 (ls st : List qV) (a : qA) : qa_ev P_X12_reads 6 ls st a = qa_go P_X12_reads (B_X12_reads_6 ls st a) := qa_ev_eq _ _ _ _ _ rfl
theorem ev_X12_reads_7 (ls st : List qV) (a : qA) : qa_ev P_X12_reads 7 ls st a = qa_go P_X12_reads (B_X12_reads_7 ls st a) := qa_ev_eq _ _ _ _ _ rfl
theorem ev_X12_reads_8 (ls st : List qV) (a : qA) : qa_ev P_X12_reads 8 ls st a = qa_go P_X12_reads (B_X12_reads_8 ls st a) := qa_ev_eq _ _ _ _ _ rfl
theorem ev_X12_read_0 (ls st : List qV) (a : qA) : qa_ev P_X12_read 0 ls st a = qa_go P_X12_read (B_X12_read_0 ls st a) := qa_ev_eq _ _ _ _ _ rfl
theorem ev_X12_read_1 (ls st : List qV) (a : qA) : qa_ev P_X12_read 1 ls st a = qa_go P_X12_read (B_X12_read_1 ls st a) := qa_ev_eq _ _ _ _ _ rfl
theorem ev_X12_read_2 (ls st : List qV) (a : qA) : qa_ev P_X12_read 2 ls st a = qa_go P_X12_read (B_X12_read_2 ls st a) := qa_ev_eq _ _ _ _ _ rfl
theorem ev_X12_read_3 (ls st : List qV) (a : qA) : qa_ev P_X12_read 3 ls st a = qa_go P_X12_read (B_X12_read_3 ls st a) := qa_ev_eq _ _ _ _ _ rfl
theorem ev_X12_read_4 (ls st : List qV) (a : qA) : qa_ev P_X12_read 4 ls st a = qa_go P_X12_read (B_X12_read_4 ls st a) := qa_ev_eq _ _ _ _ _ rfl
theorem ev_X12_read_5 (ls st : List qV) (a : qA) : qa_ev P_X12_read 5 ls st a = qa_go P_X12_read (B_X12_read_5 ls st a) := qa_ev_eq _ _ _ _ _ rfl
theorem ev_X12_promises_0 (ls st : List qV) (a : qA) : qa_ev P_X12_promises 0 ls st a = qa_go P_X12_promises (B_X12_promises_0 ls st a) := qa_ev_eq _ _ _ _ _ rfl
theorem ev_X12_promises_1 (ls st : List qV) (a : qA) : qa_ev P_X12_promises 1 ls st a = qa_go P_X12_promises (B_X12_promises_1 ls st a) := qa_ev_eq _ _ _ _ _ rfl
theorem ev_X12_promises_2 (ls st : List qV) (a : qA) : qa_ev P_X12_promises 2 ls st a = qa_go P_X12_promises (B_X12_promises_2 ls st a) := qa_ev_eq _ _ _ _ _ rfl
theorem ev_X12_promises_3 (ls st : List qV) (a : qA) : qa_ev P_X12_promises 3 ls st a = qa_go P_X12_promises (B_X12_promises_3 ls st a) := qa_ev_eq _ _ _ _ _ rfl
theorem ev_X12_promises_4 (ls st : List qV) (a : qA) : qa_ev P_X12_promises 4 ls st a = qa_go P_X12_promises (B_X12_promises_4 ls st a) := qa_ev_eq _ _ _ _ _ rfl
theorem ev_X12_promise_0 (ls st : List qV) (a : qA) : qa_ev P_X12_promise 0 ls st a = qa_go P_X12_promise (B_X12_promise_0 ls st a) := qa_ev_eq _ _ _ _ _ rfl
theorem ev_X12_promise_1 (ls st : List qV) (a : qA) : qa_ev P_X12_promise 1 ls st a = qa_go P_X12_promise (B_X12_promise_1 ls st a) := qa_ev_eq _ _ _ _ _ rfl
theorem ev_X12_promise_2 (ls st : List qV) (a : qA) : qa_ev P_X12_promise 2 ls st a = qa_go P_X12_promise (B_X12_promise_2 ls st a) := qa_ev_eq _ _ _ _ _ rfl
theorem ev_X12_promise_3 (ls st : List qV) (a : qA) : qa_ev P_X12_promise 3 ls st a = qa_go P_X12_promise (B_X12_promise_3 ls st a) := qa_ev_eq _ _ _ _ _ rfl
theorem ev_X12_promise_4 (ls st : List qV) (a : qA) : qa_ev P_X12_promise 4 ls st a = qa_go P_X12_promise (B_X12_promise_4 ls st a) := qa_ev_eq _ _ _ _ _ rfl
theorem ev_X12_promise_5 (ls st : List qV) (a : qA) : qa_ev P_X12_promise 5 ls st a = qa_go P_X12_promise (B_X12_promise_5 ls st a) := qa_ev_eq _ _ _ _ _ rfl
theorem ev_X12_isAbove_0 (ls st : List qV) (a : qA) : qa_ev P_X12_isAbove 0 ls st a = qa_go P_X12_isAbove (B_X12_isAbove_0 ls st a) := qa_ev_eq _ _ _ _ _ rfl
theorem ev_X12_isAbove_1 (ls st : List qV) (a : qA) : qa_ev P_X12_isAbove 1 ls st a = qa_go P_X12_isAbove (B_X12_isAbove_1 ls st a) := qa_ev_eq _ _ _ _ _ rfl
theorem ev_X12_isAbove_2 (ls st : List qV) (a : qA) : qa_ev P_X12_isAbove 2 ls st a = qa_go P_X12_isAbove (B_X12_isAbove_2 ls st a) := qa_ev_eq _ _ _ _ _ rfl
theorem ev_X12_isAbove_3 (ls st : List qV) (a : qA) : qa_ev P_X12_isAbove 3 ls st a = qa_go P_X12_isAbove (B_X12_isAbove_3 ls st a) := qa_ev_eq _ _ _ _ _ rfl
theorem ev_X12_isAbove_4 (ls st : List qV) (a : qA) : qa_ev P_X12_isAbove 4 ls st a = qa_go P_X12_isAbove (B_X12_isAbove_4 ls st a) := qa_ev_eq _ _ _ _ _ rfl
theorem ev_X12_commonOf_0 (ls st : List qV) (a : qA) : qa_ev P_X12_commonOf 0 ls st a = qa_go P_X12_commonOf (B_X12_commonOf_0 ls st a) := qa_ev_eq _ _ _ _ _ rfl
theorem ev_X12_commonOf_1 (ls st : List qV) (a : qA) : qa_ev P_X12_commonOf 1 ls st a = qa_go P_X12_commonOf (B_X12_commonOf_1 ls st a) := qa_ev_eq _ _ _ _ _ rfl
theorem ev_X12_commonOf_2 (ls st : List qV) (a : qA) : qa_ev P_X12_commonOf 2 ls st a = qa_go P_X12_commonOf (B_X12_commonOf_2 ls st a) := qa_ev_eq _ _ _ _ _ rfl
theorem ev_X12_commonOf_3 (ls st : List qV) (a : qA) : qa_ev P_X12_commonOf 3 ls st a = qa_go P_X12_commonOf (B_X12_commonOf_3 ls st a) := qa_ev_eq _ _ _ _ _ rfl
theorem ev_X12_commonOf_4 (ls st : List qV) (a : qA) : qa_ev P_X12_commonOf 4 ls st a = qa_go P_X12_commonOf (B_X12_commonOf_4 ls st a) := qa_ev_eq _ _ _ _ _ rfl
theorem ev_X12_commonOf_5 (ls st : List qV) (a : qA) : qa_ev P_X12_commonOf 5 ls st a = qa_go P_X12_commonOf (B_X12_commonOf_5 ls st a) := qa_ev_eq _ _ _ _ _ rfl
theorem ev_X12_commonOf_6 (ls st : List qV) (a : qA) : qa_ev P_X12_commonOf 6 ls st a = qa_go P_X12_commonOf (B_X12_commonOf_6 ls st a) := qa_ev_eq _ _ _ _ _ rfl
theorem ev_X12_commonOf_7 (ls st : List qV) (a : qA) : qa_ev P_X12_commonOf 7 ls st a = qa_go P_X12_commonOf (B_X12_commonOf_7 ls st a) := qa_ev_eq _ _ _ _ _ rfl
theorem ev_X12_commonOf_8 (ls st : List qV) (a : qA) : qa_ev P_X12_commonOf 8 ls st a = qa_go P_X12_commonOf (B_X12_commonOf_8 ls st a) := qa_ev_eq _ _ _ _ _ rfl
theorem ev_X12_commonOf_9 (ls st : List qV) (a : qA) : qa_ev P_X12_commonOf 9 ls st a = qa_go P_X12_commonOf (B_X12_commonOf_9 ls st a) := qa_ev_eq _ _ _ _ _ rfl
theorem ev_X12_commonOf_10 (ls st : List qV) (a : qA) : qa_ev P_X12_commonOf 10 ls st a = qa_go P_X12_commonOf (B_X12_commonOf_10 ls st a) := qa_ev_eq _ _ _ _ _ rfl
theorem ev_X12_commonOf_11 (ls st : List qV) (a : qA) : qa_ev P_X12_commonOf 11 ls st a = qa_go P_X12_commonOf (B_X12_commonOf_11 ls st a) := qa_ev_eq _ _ _ _ _ rfl
theorem ev_X12_moves_0 (ls st : List qV) (a : qA) : qa_ev P_X12_moves 0 ls st a = qa_go P_X12_moves (B_X12_moves_0 ls st a) := qa_ev_eq _ _ _ _ _ rfl
theorem ev_X12_moves_1 (ls st : List qV) (a : qA) : qa_ev P_X12_moves 1 ls st a = qa_go P_X12_moves (B_X12_moves_1 ls st a) := qa_ev_eq _ _ _ _ _ rfl
theorem ev_X12_moves_2 (ls st : List qV) (a : qA) : qa_ev P_X12_moves 2 ls st a = qa_go P_X12_moves (B_X12_moves_2 ls st a) := qa_ev_eq _ _ _ _ _ rfl
theorem ev_X12_move_0 (ls st : List qV) (a : qA) : qa_ev P_X12_move 0 ls st a = qa_go P_X12_move (B_X12_move_0 ls st a) := qa_ev_eq _ _ _ _ _ rfl
theorem ev_X12_move_1 (ls st : List qV) (a : qA) : qa_ev P_X12_move 1 ls st a = qa_go P_X12_move (B_X12_move_1 ls st a) := qa_ev_eq _ _ _ _ _ rfl
theorem ev_X12_move_2 (ls st : List qV) (a : qA) : qa_ev P_X12_move 2 ls st a = qa_go P_X12_move (B_X12_move_2 ls st a) := qa_ev_eq _ _ _ _ _ rfl
theorem ev_X12_move_3 (ls st : List qV) (a : qA) : qa_ev P_X12_move 3 ls st a = qa_go P_X12_move (B_X12_move_3 ls st a) := qa_ev_eq _ _ _ _ _ rfl
theorem ev_X12_move_4 (ls st : List qV) (a : qA) : qa_ev P_X12_move 4 ls st a = qa_go P_X12_move (B_X12_move_4 ls st a) := qa_ev_eq _ _ _ _ _ rfl
theorem ev_X12_forks_0 (ls st : List qV) (a : qA) : qa_ev P_X12_forks 0 ls st a = qa_go P_X12_forks (B_X12_forks_0 ls st a) := qa_ev_eq _ _ _ _ _ rfl
theorem ev_X12_forks_1 (ls st : List qV) (a : qA) : qa_ev P_X12_forks 1 ls st a = qa_go P_X12_forks (B_X12_forks_1 ls st a) := qa_ev_eq _ _ _ _ _ rfl
theorem ev_X12_forks_2 (ls st : List qV) (a : qA) : qa_ev P_X12_forks 2 ls st a = qa_go P_X12_forks (B_X12_forks_2 ls st a) := qa_ev_eq _ _ _ _ _ rfl
theorem ev_X12_forks_3 (ls st : List qV) (a : qA) : qa_ev P_X12_forks 3 ls st a = qa_go P_X12_forks (B_X12_forks_3 ls st a) := qa_ev_eq _ _ _ _ _ rfl
theorem ev_X12_forks_4 (ls st : List qV) (a : qA) : qa_ev P_X12_forks 4 ls st a = qa_go P_X12_forks (B_X12_forks_4 ls st a) := qa_ev_eq _ _ _ _ _ rfl
theorem ev_X12_forks_5 (ls st : List qV) (a : qA) : qa_ev P_X12_forks 5 ls st a = qa_go P_X12_forks (B_X12_forks_5 ls st a) := qa_ev_eq _ _ _ _ _ rfl
theorem ev_X12_forks_6 (ls st : List qV) (a : qA) : qa_ev P_X12_forks 6 ls st a = qa_go P_X12_forks (B_X12_forks_6 ls st a) := qa_ev_eq _ _ _ _ _ rfl
theorem ev_X12_forks_7 (ls st : List qV) (a : qA) : qa_ev P_X12_forks 7 ls st a = qa_go P_X12_forks (B_X12_forks_7 ls st a) := qa_ev_eq _ _ _ _ _ rfl
theorem ev_X12_forks_8 (ls st : List qV) (a : qA) : qa_ev P_X12_forks 8 ls st a = qa_go P_X12_forks (B_X12_forks_8 ls st a) := qa_ev_eq _ _ _ _ _ rfl
theorem ev_X12_fork_0 (ls st : List qV) (a : qA) : qa_ev P_X12_fork 0 ls st a = qa_go P_X12_fork (B_X12_fork_0 ls st a) := qa_ev_eq _ _ _ _ _ rfl
theorem ev_X12_fork_1 (ls st : List qV) (a : qA) : qa_ev P_X12_fork 1 ls st a = qa_go P_X12_fork (B_X12_fork_1 ls st a) := qa_ev_eq _ _ _ _ _ rfl
theorem ev_X12_fork_2 (ls st : List qV) (a : qA) : qa_ev P_X12_fork 2 ls st a = qa_go P_X12_fork (B_X12_fork_2 ls st a) := qa_ev_eq _ _ _ _ _ rfl
theorem ev_X12_fork_3 (ls st : List qV) (a : qA) : qa_ev P_X12_fork 3 ls st a = qa_go P_X12_fork (B_X12_fork_3 ls st a) := qa_ev_eq _ _ _ _ _ rfl
theorem ev_X12_fork_4 (ls st : List qV) (a : qA) : qa_ev P_X12_fork 4 ls st a = qa_go P_X12_fork (B_X12_fork_4 ls st a) := qa_ev_eq _ _ _ _ _ rfl
theorem ev_X12_whyStays_0 (ls st : List qV) (a : qA) : qa_ev P_X12_whyStays 0 ls st a = qa_go P_X12_whyStays (B_X12_whyStays_0 ls st a) := qa_ev_eq _ _ _ _ _ rfl
theorem ev_X12_whyStays_1 (ls st : List qV) (a : qA) : qa_ev P_X12_whyStays 1 ls st a = qa_go P_X12_whyStays (B_X12_whyStays_1 ls st a) := qa_ev_eq _ _ _ _ _ rfl
theorem ev_X12_whyStays_2 (ls st : List qV) (a : qA) : qa_ev P_X12_whyStays 2 ls st a = qa_go P_X12_whyStays (B_X12_whyStays_2 ls st a) := qa_ev_eq _ _ _ _ _ rfl
theorem ev_X12_whyStays_3 (ls st : List qV) (a : qA) : qa_ev P_X12_whyStays 3 ls st a = qa_go P_X12_whyStays (B_X12_whyStays_3 ls st a) := qa_ev_eq _ _ _ _ _ rfl
theorem ev_X12_hasLow_0 (ls st : List qV) (a : qA) : qa_ev P_X12_hasLow 0 ls st a = qa_go P_X12_hasLow (B_X12_hasLow_0 ls st a) := qa_ev_eq _ _ _ _ _ rfl
theorem ev_X12_hasLow_1 (ls st : List qV) (a : qA) : qa_ev P_X12_hasLow 1 ls st a = qa_go P_X12_hasLow (B_X12_hasLow_1 ls st a) := qa_ev_eq _ _ _ _ _ rfl
theorem ev_X12_hasLow_2 (ls st : List qV) (a : qA) : qa_ev P_X12_hasLow 2 ls st a = qa_go P_X12_hasLow (B_X12_hasLow_2 ls st a) := qa_ev_eq _ _ _ _ _ rfl
theorem ev_X12_hasLow_3 (ls st : List qV) (a : qA) : qa_ev P_X12_hasLow 3 ls st a = qa_go P_X12_hasLow (B_X12_hasLow_3 ls st a) := qa_ev_eq _ _ _ _ _ rfl
theorem ev_X12_hasLow_4 (ls st : List qV) (a : qA) : qa_ev P_X12_hasLow 4 ls st a = qa_go P_X12_hasLow (B_X12_hasLow_4 ls st a) := qa_ev_eq _ _ _ _ _ rfl
theorem ev_X12_hasLow_5 (ls st : List qV) (a : qA) : qa_ev P_X12_hasLow 5 ls st a = qa_go P_X12_hasLow (B_X12_hasLow_5 ls st a) := qa_ev_eq _ _ _ _ _ rfl
theorem ev_X12_merges_0 (ls st : List qV) (a : qA) : qa_ev P_X12_merges 0 ls st a = qa_go P_X12_merges (B_X12_merges_0 ls st a) := qa_ev_eq _ _ _ _ _ rfl
theorem ev_X12_merges_1 (ls st : List qV) (a : qA) : qa_ev P_X12_merges 1 ls st a = qa_go P_X12_merges (B_X12_merges_1 ls st a) := qa_ev_eq _ _ _ _ _ rfl
theorem ev_X12_merges_2 (ls st : List qV) (a : qA) : qa_ev P_X12_merges 2 ls st a = qa_go P_X12_merges (B_X12_merges_2 ls st a) := qa_ev_eq _ _ _ _ _ rfl
theorem ev_X12_merges_3 (ls st : List qV) (a : qA) : qa_ev P_X12_merges 3 ls st a = qa_go P_X12_merges (B_X12_merges_3 ls st a) := qa_ev_eq _ _ _ _ _ rfl
theorem ev_X12_merges_4 (ls st : List qV) (a : qA) : qa_ev P_X12_merges 4 ls st a = qa_go P_X12_merges (B_X12_merges_4 ls st a) := qa_ev_eq _ _ _ _ _ rfl
theorem ev_X12_merges_5 (ls st : List qV) (a : qA) : qa_ev P_X12_merges 5 ls st a = qa_go P_X12_merges (B_X12_merges_5 ls st a) := qa_ev_eq _ _ _ _ _ rfl
theorem ev_X12_merges_6 (ls st : List qV) (a : qA) : qa_ev P_X12_merges 6 ls st a = qa_go P_X12_merges (B_X12_merges_6 ls st a) := qa_ev_eq _ _ _ _ _ rfl
theorem ev_X12_merges_7 (ls st : List qV) (a : qA) : qa_ev P_X12_merges 7 ls st a = qa_go P_X12_merges (B_X12_merges_7 ls st a) := qa_ev_eq _ _ _ _ _ rfl
theorem ev_X12_merges_8 (ls st : List qV) (a : qA) : qa_ev P_X12_merges 8 ls st a = qa_go P_X12_merges (B_X12_merges_8 ls st a) := qa_ev_eq _ _ _ _ _ rfl
theorem ev_X12_merges_9 (ls st : List qV) (a : qA) : qa_ev P_X12_merges 9 ls st a = qa_go P_X12_merges (B_X12_merges_9 ls st a) := qa_ev_eq _ _ _ _ _ rfl
theorem ev_X12_merges_10 (ls st : List qV) (a : qA) : qa_ev P_X12_merges 10 ls st a = qa_go P_X12_merges (B_X12_merges_10 ls st a) := qa_ev_eq _ _ _ _ _ rfl
theorem ev_X12_merges_11 (ls st : List qV) (a : qA) : qa_ev P_X12_merges 11 ls st a = qa_go P_X12_merges (B_X12_merges_11 ls st a) := qa_ev_eq _ _ _ _ _ rfl
theorem ev_X12_merges_12 (ls st : List qV) (a : qA) : qa_ev P_X12_merges 12 ls st a = qa_go P_X12_merges (B_X12_merges_12 ls st a) := qa_ev_eq _ _ _ _ _ rfl
theorem ev_X12_merge_0 (ls st : List qV) (a : qA) : qa_ev P_X12_merge 0 ls st a = qa_go P_X12_merge (B_X12_merge_0 ls st a) := qa_ev_eq _ _ _ _ _ rfl
theorem ev_X12_merge_1 (ls st : List qV) (a : qA) : qa_ev P_X12_merge 1 ls st a = qa_go P_X12_merge (B_X12_merge_1 ls st a) := qa_ev_eq _ _ _ _ _ rfl
theorem ev_X12_merge_2 (ls st : List qV) (a : qA) : qa_ev P_X12_merge 2 ls st a = qa_go P_X12_merge (B_X12_merge_2 ls st a) := qa_ev_eq _ _ _ _ _ rfl
theorem ev_X12_merge_3 (ls st : List qV) (a : qA) : qa_ev P_X12_merge 3 ls st a = qa_go P_X12_merge (B_X12_merge_3 ls st a) := qa_ev_eq _ _ _ _ _ rfl
theorem ev_X12_merge_4 (ls st : List qV) (a : qA) : qa_ev P_X12_merge 4 ls st a = qa_go P_X12_merge (B_X12_merge_4 ls st a) := qa_ev_eq _ _ _ _ _ rfl
theorem ev_X12_drops_0 (ls st : List qV) (a : qA) : qa_ev P_X12_drops 0 ls st a = qa_go P_X12_drops (B_X12_drops_0 ls st a) := qa_ev_eq _ _ _ _ _ rfl
theorem ev_X12_drops_1 (ls st : List qV) (a : qA) : qa_ev P_X12_drops 1 ls st a = qa_go P_X12_drops (B_X12_drops_1 ls st a) := qa_ev_eq _ _ _ _ _ rfl
theorem ev_X12_drops_2 (ls st : List qV) (a : qA) : qa_ev P_X12_drops 2 ls st a = qa_go P_X12_drops (B_X12_drops_2 ls st a) := qa_ev_eq _ _ _ _ _ rfl
theorem ev_X12_drops_3 (ls st : List qV) (a : qA) : qa_ev P_X12_drops 3 ls st a = qa_go P_X12_drops (B_X12_drops_3 ls st a) := qa_ev_eq _ _ _ _ _ rfl
theorem ev_X12_drops_4 (ls st : List qV) (a : qA) : qa_ev P_X12_drops 4 ls st a = qa_go P_X12_drops (B_X12_drops_4 ls st a) := qa_ev_eq _ _ _ _ _ rfl
theorem ev_X12_drop_0 (ls st : List qV) (a : qA) : qa_ev P_X12_drop 0 ls st a = qa_go P_X12_drop (B_X12_drop_0 ls st a) := qa_ev_eq _ _ _ _ _ rfl
theorem ev_X12_drop_1 (ls st : List qV) (a : qA) : qa_ev P_X12_drop 1 ls st a = qa_go P_X12_drop (B_X12_drop_1 ls st a) := qa_ev_eq _ _ _ _ _ rfl
theorem ev_X12_drop_2 (ls st : List qV) (a : qA) : qa_ev P_X12_drop 2 ls st a = qa_go P_X12_drop (B_X12_drop_2 ls st a) := qa_ev_eq _ _ _ _ _ rfl
theorem ev_X12_drop_3 (ls st : List qV) (a : qA) : qa_ev P_X12_drop 3 ls st a = qa_go P_X12_drop (B_X12_drop_3 ls st a) := qa_ev_eq _ _ _ _ _ rfl
theorem ev_X12_drop_4 (ls st : List qV) (a : qA) : qa_ev P_X12_drop 4 ls st a = qa_go P_X12_drop (B_X12_drop_4 ls st a) := qa_ev_eq _ _ _ _ _ rfl
theorem ev_X12_passes_0 (ls st : List qV) (a : qA) : qa_ev P_X12_passes 0 ls st a = qa_go P_X12_passes (B_X12_passes_0 ls st a) := qa_ev_eq _ _ _ _ _ rfl
theorem ev_X12_passes_1 (ls st : List qV) (a : qA) : qa_ev P_X12_passes 1 ls st a = qa_go P_X12_passes (B_X12_passes_1 ls st a) := qa_ev_eq _ _ _ _ _ rfl
theorem ev_X12_passes_2 (ls st : List qV) (a : qA) : qa_ev P_X12_passes 2 ls st a = qa_go P_X12_passes (B_X12_passes_2 ls st a) := qa_ev_eq _ _ _ _ _ rfl
theorem ev_X12_pass_0 (ls st : List qV) (a : qA) : qa_ev P_X12_pass 0 ls st a = qa_go P_X12_pass (B_X12_pass_0 ls st a) := qa_ev_eq _ _ _ _ _ rfl
theorem ev_X12_pass_1 (ls st : List qV) (a : qA) : qa_ev P_X12_pass 1 ls st a = qa_go P_X12_pass (B_X12_pass_1 ls st a) := qa_ev_eq _ _ _ _ _ rfl
theorem ev_X12_pass_2 (ls st : List qV) (a : qA) : qa_ev P_X12_pass 2 ls st a = qa_go P_X12_pass (B_X12_pass_2 ls st a) := qa_ev_eq _ _ _ _ _ rfl
theorem ev_X12_pass_3 (ls st : List qV) (a : qA) : qa_ev P_X12_pass 3 ls st a = qa_go P_X12_pass (B_X12_pass_3 ls st a) := qa_ev_eq _ _ _ _ _ rfl
theorem ev_X12_pass_4 (ls st : List qV) (a : qA) : qa_ev P_X12_pass 4 ls st a = qa_go P_X12_pass (B_X12_pass_4 ls st a) := qa_ev_eq _ _ _ _ _ rfl
theorem ev_X12_common_0 (ls st : List qV) (a : qA) : qa_ev P_X12_common 0 ls st a = qa_go P_X12_common (B_X12_common_0 ls st a) := qa_ev_eq _ _ _ _ _ rfl
theorem ev_X12_common_1 (ls st : List qV) (a : qA) : qa_ev P_X12_common 1 ls st a = qa_go P_X12_common (B_X12_common_1 ls st a) := qa_ev_eq _ _ _ _ _ rfl
theorem ev_X12_common_2 (ls st : List qV) (a : qA) : qa_ev P_X12_common 2 ls st a = qa_go P_X12_common (B_X12_common_2 ls st a) := qa_ev_eq _ _ _ _ _ rfl
theorem ev_X12_common_3 (ls st : List qV) (a : qA) : qa_ev P_X12_common 3 ls st a = qa_go P_X12_common (B_X12_common_3 ls st a) := qa_ev_eq _ _ _ _ _ rfl
theorem ev_X12_common_4 (ls st : List qV) (a : qA) : qa_ev P_X12_common 4 ls st a = qa_go P_X12_common (B_X12_common_4 ls st a) := qa_ev_eq _ _ _ _ _ rfl
theorem ev_X12_holder_0 (ls st : List qV) (a : qA) : qa_ev P_X12_holder 0 ls st a = qa_go P_X12_holder (B_X12_holder_0 ls st a) := qa_ev_eq _ _ _ _ _ rfl
theorem ev_X12_holder_1 (ls st : List qV) (a : qA) : qa_ev P_X12_holder 1 ls st a = qa_go P_X12_holder (B_X12_holder_1 ls st a) := qa_ev_eq _ _ _ _ _ rfl
theorem ev_X12_holder_2 (ls st : List qV) (a : qA) : qa_ev P_X12_holder 2 ls st a = qa_go P_X12_holder (B_X12_holder_2 ls st a) := qa_ev_eq _ _ _ _ _ rfl
theorem ev_X12_holder_3 (ls st : List qV) (a : qA) : qa_ev P_X12_holder 3 ls st a = qa_go P_X12_holder (B_X12_holder_3 ls st a) := qa_ev_eq _ _ _ _ _ rfl
theorem ev_X12_holder_4 (ls st : List qV) (a : qA) : qa_ev P_X12_holder 4 ls st a = qa_go P_X12_holder (B_X12_holder_4 ls st a) := qa_ev_eq _ _ _ _ _ rfl
theorem ev_X12_slowest_0 (ls st : List qV) (a : qA) : qa_ev P_X12_slowest 0 ls st a = qa_go P_X12_slowest (B_X12_slowest_0 ls st a) := qa_ev_eq _ _ _ _ _ rfl
theorem ev_X12_slowest_1 (ls st : List qV) (a : qA) : qa_ev P_X12_slowest 1 ls st a = qa_go P_X12_slowest (B_X12_slowest_1 ls st a) := qa_ev_eq _ _ _ _ _ rfl
theorem ev_X12_slowest_2 (ls st : List qV) (a : qA) : qa_ev P_X12_slowest 2 ls st a = qa_go P_X12_slowest (B_X12_slowest_2 ls st a) := qa_ev_eq _ _ _ _ _ rfl
theorem ev_X12_slowest_3 (ls st : List qV) (a : qA) : qa_ev P_X12_slowest 3 ls st a = qa_go P_X12_slowest (B_X12_slowest_3 ls st a) := qa_ev_eq _ _ _ _ _ rfl
theorem ev_X12_slowest_4 (ls st : List qV) (a : qA) : qa_ev P_X12_slowest 4 ls st a = qa_go P_X12_slowest (B_X12_slowest_4 ls st a) := qa_ev_eq _ _ _ _ _ rfl
theorem ev_X12_slowest_5 (ls st : List qV) (a : qA) : qa_ev P_X12_slowest 5 ls st a = qa_go P_X12_slowest (B_X12_slowest_5 ls st a) := qa_ev_eq _ _ _ _ _ rfl
theorem ev_X12_slowest_6 (ls st : List qV) (a : qA) : qa_ev P_X12_slowest 6 ls st a = qa_go P_X12_slowest (B_X12_slowest_6 ls st a) := qa_ev_eq _ _ _ _ _ rfl
theorem ev_X12_slowest_7 (ls st : List qV) (a : qA) : qa_ev P_X12_slowest 7 ls st a = qa_go P_X12_slowest (B_X12_slowest_7 ls st a) := qa_ev_eq _ _ _ _ _ rfl
theorem ev_X12_slowest_8 (ls st : List qV) (a : qA) : qa_ev P_X12_slowest 8 ls st a = qa_go P_X12_slowest (B_X12_slowest_8 ls st a) := qa_ev_eq _ _ _ _ _ rfl
theorem ev_X12_slowest_9 (ls st : List qV) (a : qA) : qa_ev P_X12_slowest 9 ls st a = qa_go P_X12_slowest (B_X12_slowest_9 ls st a) := qa_ev_eq _ _ _ _ _ rfl
theorem ev_X12_cause_0 (ls st : List qV) (a : qA) : qa_ev P_X12_cause 0 ls st a = qa_go P_X12_cause (B_X12_cause_0 ls st a) := qa_ev_eq _ _ _ _ _ rfl
theorem ev_X12_cause_1 (ls st : List qV) (a : qA) : qa_ev P_X12_cause 1 ls st a = qa_go P_X12_cause (B_X12_cause_1 ls st a) := qa_ev_eq _ _ _ _ _ rfl
theorem ev_X12_cause_2 (ls st : List qV) (a : qA) : qa_ev P_X12_cause 2 ls st a = qa_go P_X12_cause (B_X12_cause_2 ls st a) := qa_ev_eq _ _ _ _ _ rfl
theorem ev_X12_cause_3 (ls st : List qV) (a : qA) : qa_ev P_X12_cause 3 ls st a = qa_go P_X12_cause (B_X12_cause_3 ls st a) := qa_ev_eq _ _ _ _ _ rfl
theorem ev_X12_cause_4 (ls st : List qV) (a : qA) : qa_ev P_X12_cause 4 ls st a = qa_go P_X12_cause (B_X12_cause_4 ls st a) := qa_ev_eq _ _ _ _ _ rfl
theorem ev_X12_latest_0 (ls st : List qV) (a : qA) : qa_ev P_X12_latest 0 ls st a = qa_go P_X12_latest (B_X12_latest_0 ls st a) := qa_ev_eq _ _ _ _ _ rfl
theorem ev_X12_latest_1 (ls st : List qV) (a : qA) : qa_ev P_X12_latest 1 ls st a = qa_go P_X12_latest (B_X12_latest_1 ls st a) := qa_ev_eq _ _ _ _ _ rfl
theorem ev_X12_latest_2 (ls st : List qV) (a : qA) : qa_ev P_X12_latest 2 ls st a = qa_go P_X12_latest (B_X12_latest_2 ls st a) := qa_ev_eq _ _ _ _ _ rfl
theorem ev_X12_latest_3 (ls st : List qV) (a : qA) : qa_ev P_X12_latest 3 ls st a = qa_go P_X12_latest (B_X12_latest_3 ls st a) := qa_ev_eq _ _ _ _ _ rfl
theorem ev_X12_latest_4 (ls st : List qV) (a : qA) : qa_ev P_X12_latest 4 ls st a = qa_go P_X12_latest (B_X12_latest_4 ls st a) := qa_ev_eq _ _ _ _ _ rfl
theorem ev_X12_latest_5 (ls st : List qV) (a : qA) : qa_ev P_X12_latest 5 ls st a = qa_go P_X12_latest (B_X12_latest_5 ls st a) := qa_ev_eq _ _ _ _ _ rfl
theorem ev_X12_latest_6 (ls st : List qV) (a : qA) : qa_ev P_X12_latest 6 ls st a = qa_go P_X12_latest (B_X12_latest_6 ls st a) := qa_ev_eq _ _ _ _ _ rfl
theorem ev_X12_latest_7 (ls st : List qV) (a : qA) : qa_ev P_X12_latest 7 ls st a = qa_go P_X12_latest (B_X12_latest_7 ls st a) := qa_ev_eq _ _ _ _ _ rfl
theorem ev_X12_wouldCut_0 (ls st : List qV) (a : qA) : qa_ev P_X12_wouldCut 0 ls st a = qa_go P_X12_wouldCut (B_X12_wouldCut_0 ls st a) := qa_ev_eq _ _ _ _ _ rfl
theorem ev_X12_wouldCut_1 (ls st : List qV) (a : qA) : qa_ev P_X12_wouldCut 1 ls st a = qa_go P_X12_wouldCut (B_X12_wouldCut_1 ls st a) := qa_ev_eq _ _ _ _ _ rfl
theorem ev_X12_wouldCut_2 (ls st : List qV) (a : qA) : qa_ev P_X12_wouldCut 2 ls st a = qa_go P_X12_wouldCut (B_X12_wouldCut_2 ls st a) := qa_ev_eq _ _ _ _ _ rfl
theorem ev_X12_wouldCut_3 (ls st : List qV) (a : qA) : qa_ev P_X12_wouldCut 3 ls st a = qa_go P_X12_wouldCut (B_X12_wouldCut_3 ls st a) := qa_ev_eq _ _ _ _ _ rfl
theorem ev_X12_wouldCut_4 (ls st : List qV) (a : qA) : qa_ev P_X12_wouldCut 4 ls st a = qa_go P_X12_wouldCut (B_X12_wouldCut_4 ls st a) := qa_ev_eq _ _ _ _ _ rfl
theorem ev_X12_wouldCut_5 (ls st : List qV) (a : qA) : qa_ev P_X12_wouldCut 5 ls st a = qa_go P_X12_wouldCut (B_X12_wouldCut_5 ls st a) := qa_ev_eq _ _ _ _ _ rfl
theorem ev_X12_unread_0 (ls st : List qV) (a : qA) : qa_ev P_X12_unread 0 ls st a = qa_go P_X12_unread (B_X12_unread_0 ls st a) := qa_ev_eq _ _ _ _ _ rfl
theorem ev_X12_unread_1 (ls st : List qV) (a : qA) : qa_ev P_X12_unread 1 ls st a = qa_go P_X12_unread (B_X12_unread_1 ls st a) := qa_ev_eq _ _ _ _ _ rfl
theorem ev_X12_unread_2 (ls st : List qV) (a : qA) : qa_ev P_X12_unread 2 ls st a = qa_go P_X12_unread (B_X12_unread_2 ls st a) := qa_ev_eq _ _ _ _ _ rfl
theorem ev_X12_unread_3 (ls st : List qV) (a : qA) : qa_ev P_X12_unread 3 ls st a = qa_go P_X12_unread (B_X12_unread_3 ls st a) := qa_ev_eq _ _ _ _ _ rfl
theorem ev_X12_unread_4 (ls st : List qV) (a : qA) : qa_ev P_X12_unread 4 ls st a = qa_go P_X12_unread (B_X12_unread_4 ls st a) := qa_ev_eq _ _ _ _ _ rfl
theorem ev_X12_unread_5 (ls st : List qV) (a : qA) : qa_ev P_X12_unread 5 ls st a = qa_go P_X12_unread (B_X12_unread_5 ls st a) := qa_ev_eq _ _ _ _ _ rfl
theorem ev_X12_unread_6 (ls st : List qV) (a : qA) : qa_ev P_X12_unread 6 ls st a = qa_go P_X12_unread (B_X12_unread_6 ls st a) := qa_ev_eq _ _ _ _ _ rfl
theorem ev_X12_unread_7 (ls st : List qV) (a : qA) : qa_ev P_X12_unread 7 ls st a = qa_go P_X12_unread (B_X12_unread_7 ls st a) := qa_ev_eq _ _ _ _ _ rfl
theorem ev_X12_unread_8 (ls st : List qV) (a : qA) : qa_ev P_X12_unread 8 ls st a = qa_go P_X12_unread (B_X12_unread_8 ls st a) := qa_ev_eq _ _ _ _ _ rfl
theorem ev_X12_hasPromise_0 (ls st : List qV) (a : qA) : qa_ev P_X12_hasPromise 0 ls st a = qa_go P_X12_hasPromise (B_X12_hasPromise_0 ls st a) := qa_ev_eq _ _ _ _ _ rfl
theorem ev_X12_hasPromise_1 (ls st : List qV) (a : qA) : qa_ev P_X12_hasPromise 1 ls st a = qa_go P_X12_hasPromise (B_X12_hasPromise_1 ls st a) := qa_ev_eq _ _ _ _ _ rfl
theorem ev_X12_hasPromise_2 (ls st : List qV) (a : qA) : qa_ev P_X12_hasPromise 2 ls st a = qa_go P_X12_hasPromise (B_X12_hasPromise_2 ls st a) := qa_ev_eq _ _ _ _ _ rfl
theorem ev_X12_aheadOf_0 (ls st : List qV) (a : qA) : qa_ev P_X12_aheadOf 0 ls st a = qa_go P_X12_aheadOf (B_X12_aheadOf_0 ls st a) := qa_ev_eq _ _ _ _ _ rfl
theorem ev_X12_aheadOf_1 (ls st : List qV) (a : qA) : qa_ev P_X12_aheadOf 1 ls st a = qa_go P_X12_aheadOf (B_X12_aheadOf_1 ls st a) := qa_ev_eq _ _ _ _ _ rfl
theorem ev_X12_aheadOf_2 (ls st : List qV) (a : qA) : qa_ev P_X12_aheadOf 2 ls st a = qa_go P_X12_aheadOf (B_X12_aheadOf_2 ls st a) := qa_ev_eq _ _ _ _ _ rfl
theorem ev_X12_aheadOf_3 (ls st : List qV) (a : qA) : qa_ev P_X12_aheadOf 3 ls st a = qa_go P_X12_aheadOf (B_X12_aheadOf_3 ls st a) := qa_ev_eq _ _ _ _ _ rfl
theorem ev_X12_aheadOf_4 (ls st : List qV) (a : qA) : qa_ev P_X12_aheadOf 4 ls st a = qa_go P_X12_aheadOf (B_X12_aheadOf_4 ls st a) := qa_ev_eq _ _ _ _ _ rfl
theorem ev_X12_aheadOf_5 (ls st : List qV) (a : qA) : qa_ev P_X12_aheadOf 5 ls st a = qa_go P_X12_aheadOf (B_X12_aheadOf_5 ls st a) := qa_ev_eq _ _ _ _ _ rfl
theorem ev_X12_aheadOf_6 (ls st : List qV) (a : qA) : qa_ev P_X12_aheadOf 6 ls st a = qa_go P_X12_aheadOf (B_X12_aheadOf_6 ls st a) := qa_ev_eq _ _ _ _ _ rfl
theorem ev_X12_aheadOf_7 (ls st : List qV) (a : qA) : qa_ev P_X12_aheadOf 7 ls st a = qa_go P_X12_aheadOf (B_X12_aheadOf_7 ls st a) := qa_ev_eq _ _ _ _ _ rfl
theorem ev_X12_promised_0 (ls st : List qV) (a : qA) : qa_ev P_X12_promised 0 ls st a = qa_go P_X12_promised (B_X12_promised_0 ls st a) := qa_ev_eq _ _ _ _ _ rfl
theorem ev_X12_promised_1 (ls st : List qV) (a : qA) : qa_ev P_X12_promised 1 ls st a = qa_go P_X12_promised (B_X12_promised_1 ls st a) := qa_ev_eq _ _ _ _ _ rfl
theorem ev_X12_promised_2 (ls st : List qV) (a : qA) : qa_ev P_X12_promised 2 ls st a = qa_go P_X12_promised (B_X12_promised_2 ls st a) := qa_ev_eq _ _ _ _ _ rfl
theorem ev_X12_promised_3 (ls st : List qV) (a : qA) : qa_ev P_X12_promised 3 ls st a = qa_go P_X12_promised (B_X12_promised_3 ls st a) := qa_ev_eq _ _ _ _ _ rfl
theorem ev_X12_promised_4 (ls st : List qV) (a : qA) : qa_ev P_X12_promised 4 ls st a = qa_go P_X12_promised (B_X12_promised_4 ls st a) := qa_ev_eq _ _ _ _ _ rfl
theorem ev_X12_promised_5 (ls st : List qV) (a : qA) : qa_ev P_X12_promised 5 ls st a = qa_go P_X12_promised (B_X12_promised_5 ls st a) := qa_ev_eq _ _ _ _ _ rfl
theorem ev_X12_promised_6 (ls st : List qV) (a : qA) : qa_ev P_X12_promised 6 ls st a = qa_go P_X12_promised (B_X12_promised_6 ls st a) := qa_ev_eq _ _ _ _ _ rfl
theorem ev_X12_promised_7 (ls st : List qV) (a : qA) : qa_ev P_X12_promised 7 ls st a = qa_go P_X12_promised (B_X12_promised_7 ls st a) := qa_ev_eq _ _ _ _ _ rfl
theorem ev_X12_age_0 (ls st : List qV) (a : qA) : qa_ev P_X12_age 0 ls st a = qa_go P_X12_age (B_X12_age_0 ls st a) := qa_ev_eq _ _ _ _ _ rfl
theorem ev_X12_age_1 (ls st : List qV) (a : qA) : qa_ev P_X12_age 1 ls st a = qa_go P_X12_age (B_X12_age_1 ls st a) := qa_ev_eq _ _ _ _ _ rfl
theorem ev_X12_age_2 (ls st : List qV) (a : qA) : qa_ev P_X12_age 2 ls st a = qa_go P_X12_age (B_X12_age_2 ls st a) := qa_ev_eq _ _ _ _ _ rfl
theorem ev_X12_age_3 (ls st : List qV) (a : qA) : qa_ev P_X12_age 3 ls st a = qa_go P_X12_age (B_X12_age_3 ls st a) := qa_ev_eq _ _ _ _ _ rfl
theorem ev_X12_age_4 (ls st : List qV) (a : qA) : qa_ev P_X12_age 4 ls st a = qa_go P_X12_age (B_X12_age_4 ls st a) := qa_ev_eq _ _ _ _ _ rfl
theorem ev_X12_age_5 (ls st : List qV) (a : qA) : qa_ev P_X12_age 5 ls st a = qa_go P_X12_age (B_X12_age_5 ls st a) := qa_ev_eq _ _ _ _ _ rfl
theorem ev_X12_mean_0 (ls st : List qV) (a : qA) : qa_ev P_X12_mean 0 ls st a = qa_go P_X12_mean (B_X12_mean_0 ls st a) := qa_ev_eq _ _ _ _ _ rfl
theorem ev_X12_mean_1 (ls st : List qV) (a : qA) : qa_ev P_X12_mean 1 ls st a = qa_go P_X12_mean (B_X12_mean_1 ls st a) := qa_ev_eq _ _ _ _ _ rfl
theorem ev_X12_mean_2 (ls st : List qV) (a : qA) : qa_ev P_X12_mean 2 ls st a = qa_go P_X12_mean (B_X12_mean_2 ls st a) := qa_ev_eq _ _ _ _ _ rfl
theorem ev_X12_mean_3 (ls st : List qV) (a : qA) : qa_ev P_X12_mean 3 ls st a = qa_go P_X12_mean (B_X12_mean_3 ls st a) := qa_ev_eq _ _ _ _ _ rfl
theorem ev_X12_mean_4 (ls st : List qV) (a : qA) : qa_ev P_X12_mean 4 ls st a = qa_go P_X12_mean (B_X12_mean_4 ls st a) := qa_ev_eq _ _ _ _ _ rfl
theorem ev_X12_mean_5 (ls st : List qV) (a : qA) : qa_ev P_X12_mean 5 ls st a = qa_go P_X12_mean (B_X12_mean_5 ls st a) := qa_ev_eq _ _ _ _ _ rfl
theorem ev_X12_mean_6 (ls st : List qV) (a : qA) : qa_ev P_X12_mean 6 ls st a = qa_go P_X12_mean (B_X12_mean_6 ls st a) := qa_ev_eq _ _ _ _ _ rfl
theorem ev_X12_trust_0 (ls st : List qV) (a : qA) : qa_ev P_X12_trust 0 ls st a = qa_go P_X12_trust (B_X12_trust_0 ls st a) := qa_ev_eq _ _ _ _ _ rfl
theorem ev_X12_trust_1 (ls st : List qV) (a : qA) : qa_ev P_X12_trust 1 ls st a = qa_go P_X12_trust (B_X12_trust_1 ls st a) := qa_ev_eq _ _ _ _ _ rfl
theorem ev_X12_trust_2 (ls st : List qV) (a : qA) : qa_ev P_X12_trust 2 ls st a = qa_go P_X12_trust (B_X12_trust_2 ls st a) := qa_ev_eq _ _ _ _ _ rfl
theorem ev_X12_trust_3 (ls st : List qV) (a : qA) : qa_ev P_X12_trust 3 ls st a = qa_go P_X12_trust (B_X12_trust_3 ls st a) := qa_ev_eq _ _ _ _ _ rfl
theorem ev_X12_trust_4 (ls st : List qV) (a : qA) : qa_ev P_X12_trust 4 ls st a = qa_go P_X12_trust (B_X12_trust_4 ls st a) := qa_ev_eq _ _ _ _ _ rfl
theorem ev_X12_trust_5 (ls st : List qV) (a : qA) : qa_ev P_X12_trust 5 ls st a = qa_go P_X12_trust (B_X12_trust_5 ls st a) := qa_ev_eq _ _ _ _ _ rfl
theorem ev_X12_greatestTotal_0 (ls st : List qV) (a : qA) : qa_ev P_X12_greatestTotal 0 ls st a = qa_go P_X12_greatestTotal (B_X12_greatestTotal_0 ls st a) := qa_ev_eq _ _ _ _ _ rfl
theorem ev_X12_greatestTotal_1 (ls st : List qV) (a : qA) : qa_ev P_X12_greatestTotal 1 ls st a = qa_go P_X12_greatestTotal (B_X12_greatestTotal_1 ls st a) := qa_ev_eq _ _ _ _ _ rfl
theorem ev_X12_greatestTotal_2 (ls st : List qV) (a : qA) : qa_ev P_X12_greatestTotal 2 ls st a = qa_go P_X12_greatestTotal (B_X12_greatestTotal_2 ls st a) := qa_ev_eq _ _ _ _ _ rfl
theorem ev_X12_greatestTotal_3 (ls st : List qV) (a : qA) : qa_ev P_X12_greatestTotal 3 ls st a = qa_go P_X12_greatestTotal (B_X12_greatestTotal_3 ls st a) := qa_ev_eq _ _ _ _ _ rfl
theorem ev_X12_greatestTotal_4 (ls st : List qV) (a : qA) : qa_ev P_X12_greatestTotal 4 ls st a = qa_go P_X12_greatestTotal (B_X12_greatestTotal_4 ls st a) := qa_ev_eq _ _ _ _ _ rfl
theorem ev_X12_ahead_0 (ls st : List qV) (a : qA) : qa_ev P_X12_ahead 0 ls st a = qa_go P_X12_ahead (B_X12_ahead_0 ls st a) := qa_ev_eq _ _ _ _ _ rfl
theorem ev_X12_ahead_1 (ls st : List qV) (a : qA) : qa_ev P_X12_ahead 1 ls st a = qa_go P_X12_ahead (B_X12_ahead_1 ls st a) := qa_ev_eq _ _ _ _ _ rfl
theorem ev_X12_ahead_2 (ls st : List qV) (a : qA) : qa_ev P_X12_ahead 2 ls st a = qa_go P_X12_ahead (B_X12_ahead_2 ls st a) := qa_ev_eq _ _ _ _ _ rfl
theorem ev_X12_ahead_3 (ls st : List qV) (a : qA) : qa_ev P_X12_ahead 3 ls st a = qa_go P_X12_ahead (B_X12_ahead_3 ls st a) := qa_ev_eq _ _ _ _ _ rfl
theorem ev_X12_ahead_4 (ls st : List qV) (a : qA) : qa_ev P_X12_ahead 4 ls st a = qa_go P_X12_ahead (B_X12_ahead_4 ls st a) := qa_ev_eq _ _ _ _ _ rfl
theorem ev_X12_ahead_5 (ls st : List qV) (a : qA) : qa_ev P_X12_ahead 5 ls st a = qa_go P_X12_ahead (B_X12_ahead_5 ls st a) := qa_ev_eq _ _ _ _ _ rfl
theorem ev_X12_ahead_6 (ls st : List qV) (a : qA) : qa_ev P_X12_ahead 6 ls st a = qa_go P_X12_ahead (B_X12_ahead_6 ls st a) := qa_ev_eq _ _ _ _ _ rfl
theorem ev_X12_ahead_7 (ls st : List qV) (a : qA) : qa_ev P_X12_ahead 7 ls st a = qa_go P_X12_ahead (B_X12_ahead_7 ls st a) := qa_ev_eq _ _ _ _ _ rfl
theorem ev_X12_ahead_8 (ls st : List qV) (a : qA) : qa_ev P_X12_ahead 8 ls st a = qa_go P_X12_ahead (B_X12_ahead_8 ls st a) := qa_ev_eq _ _ _ _ _ rfl
theorem ev_X12_ahead_9 (ls st : List qV) (a : qA) : qa_ev P_X12_ahead 9 ls st a = qa_go P_X12_ahead (B_X12_ahead_9 ls st a) := qa_ev_eq _ _ _ _ _ rfl
theorem ev_X12_losesIn_0 (ls st : List qV) (a : qA) : qa_ev P_X12_losesIn 0 ls st a = qa_go P_X12_losesIn (B_X12_losesIn_0 ls st a) := qa_ev_eq _ _ _ _ _ rfl
theorem ev_X12_losesIn_1 (ls st : List qV) (a : qA) : qa_ev P_X12_losesIn 1 ls st a = qa_go P_X12_losesIn (B_X12_losesIn_1 ls st a) := qa_ev_eq _ _ _ _ _ rfl
theorem ev_X12_losesIn_2 (ls st : List qV) (a : qA) : qa_ev P_X12_losesIn 2 ls st a = qa_go P_X12_losesIn (B_X12_losesIn_2 ls st a) := qa_ev_eq _ _ _ _ _ rfl
theorem ev_X12_losesIn_3 (ls st : List qV) (a : qA) : qa_ev P_X12_losesIn 3 ls st a = qa_go P_X12_losesIn (B_X12_losesIn_3 ls st a) := qa_ev_eq _ _ _ _ _ rfl
theorem ev_X12_losesIn_4 (ls st : List qV) (a : qA) : qa_ev P_X12_losesIn 4 ls st a = qa_go P_X12_losesIn (B_X12_losesIn_4 ls st a) := qa_ev_eq _ _ _ _ _ rfl
theorem ev_X12_losesIn_5 (ls st : List qV) (a : qA) : qa_ev P_X12_losesIn 5 ls st a = qa_go P_X12_losesIn (B_X12_losesIn_5 ls st a) := qa_ev_eq _ _ _ _ _ rfl
theorem ev_X12_losesIn_6 (ls st : List qV) (a : qA) : qa_ev P_X12_losesIn 6 ls st a = qa_go P_X12_losesIn (B_X12_losesIn_6 ls st a) := qa_ev_eq _ _ _ _ _ rfl
theorem ev_X12_losesIn_7 (ls st : List qV) (a : qA) : qa_ev P_X12_losesIn 7 ls st a = qa_go P_X12_losesIn (B_X12_losesIn_7 ls st a) := qa_ev_eq _ _ _ _ _ rfl
theorem ev_X12_losesIn_8 (ls st : List qV) (a : qA) : qa_ev P_X12_losesIn 8 ls st a = qa_go P_X12_losesIn (B_X12_losesIn_8 ls st a) := qa_ev_eq _ _ _ _ _ rfl
theorem ev_X12_appendText_0 (ls st : List qV) (a : qA) : qa_ev P_X12_appendText 0 ls st a = qa_go P_X12_appendText (B_X12_appendText_0 ls st a) := qa_ev_eq _ _ _ _ _ rfl
theorem ev_X12_appendText_1 (ls st : List qV) (a : qA) : qa_ev P_X12_appendText 1 ls st a = qa_go P_X12_appendText (B_X12_appendText_1 ls st a) := qa_ev_eq _ _ _ _ _ rfl
theorem ev_X12_appendText_2 (ls st : List qV) (a : qA) : qa_ev P_X12_appendText 2 ls st a = qa_go P_X12_appendText (B_X12_appendText_2 ls st a) := qa_ev_eq _ _ _ _ _ rfl
theorem ev_X12_appendText_3 (ls st : List qV) (a : qA) : qa_ev P_X12_appendText 3 ls st a = qa_go P_X12_appendText (B_X12_appendText_3 ls st a) := qa_ev_eq _ _ _ _ _ rfl
theorem ev_X12_appendText_4 (ls st : List qV) (a : qA) : qa_ev P_X12_appendText 4 ls st a = qa_go P_X12_appendText (B_X12_appendText_4 ls st a) := qa_ev_eq _ _ _ _ _ rfl
theorem ev_X12_appendText_5 (ls st : List qV) (a : qA) : qa_ev P_X12_appendText 5 ls st a = qa_go P_X12_appendText (B_X12_appendText_5 ls st a) := qa_ev_eq _ _ _ _ _ rfl
theorem ev_X12_truncateText_0 (ls st : List qV) (a : qA) : qa_ev P_X12_truncateText 0 ls st a = qa_go P_X12_truncateText (B_X12_truncateText_0 ls st a) := qa_ev_eq _ _ _ _ _ rfl
theorem ev_X12_truncateText_1 (ls st : List qV) (a : qA) : qa_ev P_X12_truncateText 1 ls st a = qa_go P_X12_truncateText (B_X12_truncateText_1 ls st a) := qa_ev_eq _ _ _ _ _ rfl
theorem ev_X12_truncateText_2 (ls st : List qV) (a : qA) : qa_ev P_X12_truncateText 2 ls st a = qa_go P_X12_truncateText (B_X12_truncateText_2 ls st a) := qa_ev_eq _ _ _ _ _ rfl
theorem ev_X12_truncateText_3 (ls st : List qV) (a : qA) : qa_ev P_X12_truncateText 3 ls st a = qa_go P_X12_truncateText (B_X12_truncateText_3 ls st a) := qa_ev_eq _ _ _ _ _ rfl
theorem ev_X12_see_0 (ls st : List qV) (a : qA) : qa_ev P_X12_see 0 ls st a = qa_go P_X12_see (B_X12_see_0 ls st a) := qa_ev_eq _ _ _ _ _ rfl
theorem ev_X12_see_1 (ls st : List qV) (a : qA) : qa_ev P_X12_see 1 ls st a = qa_go P_X12_see (B_X12_see_1 ls st a) := qa_ev_eq _ _ _ _ _ rfl
theorem ev_X12_see_2 (ls st : List qV) (a : qA) : qa_ev P_X12_see 2 ls st a = qa_go P_X12_see (B_X12_see_2 ls st a) := qa_ev_eq _ _ _ _ _ rfl
theorem ev_X12_isSmall_0 (ls st : List qV) (a : qA) : qa_ev P_X12_isSmall 0 ls st a = qa_go P_X12_isSmall (B_X12_isSmall_0 ls st a) := qa_ev_eq _ _ _ _ _ rfl
theorem ev_X12_isDigit_0 (ls st : List qV) (a : qA) : qa_ev P_X12_isDigit 0 ls st a = qa_go P_X12_isDigit (B_X12_isDigit_0 ls st a) := qa_ev_eq _ _ _ _ _ rfl
theorem ev_X12_markOf_0 (ls st : List qV) (a : qA) : qa_ev P_X12_markOf 0 ls st a = qa_go P_X12_markOf (B_X12_markOf_0 ls st a) := qa_ev_eq _ _ _ _ _ rfl
theorem ev_X12_markOf_1 (ls st : List qV) (a : qA) : qa_ev P_X12_markOf 1 ls st a = qa_go P_X12_markOf (B_X12_markOf_1 ls st a) := qa_ev_eq _ _ _ _ _ rfl
theorem ev_X12_markOf_2 (ls st : List qV) (a : qA) : qa_ev P_X12_markOf 2 ls st a = qa_go P_X12_markOf (B_X12_markOf_2 ls st a) := qa_ev_eq _ _ _ _ _ rfl
theorem ev_X12_markOf_3 (ls st : List qV) (a : qA) : qa_ev P_X12_markOf 3 ls st a = qa_go P_X12_markOf (B_X12_markOf_3 ls st a) := qa_ev_eq _ _ _ _ _ rfl
theorem ev_X12_goesOn_0 (ls st : List qV) (a : qA) : qa_ev P_X12_goesOn 0 ls st a = qa_go P_X12_goesOn (B_X12_goesOn_0 ls st a) := qa_ev_eq _ _ _ _ _ rfl
theorem ev_X12_goesOn_1 (ls st : List qV) (a : qA) : qa_ev P_X12_goesOn 1 ls st a = qa_go P_X12_goesOn (B_X12_goesOn_1 ls st a) := qa_ev_eq _ _ _ _ _ rfl
theorem ev_X12_goesOn_2 (ls st : List qV) (a : qA) : qa_ev P_X12_goesOn 2 ls st a = qa_go P_X12_goesOn (B_X12_goesOn_2 ls st a) := qa_ev_eq _ _ _ _ _ rfl
theorem ev_X12_goesOn_3 (ls st : List qV) (a : qA) : qa_ev P_X12_goesOn 3 ls st a = qa_go P_X12_goesOn (B_X12_goesOn_3 ls st a) := qa_ev_eq _ _ _ _ _ rfl
theorem ev_X12_goesOn_4 (ls st : List qV) (a : qA) : qa_ev P_X12_goesOn 4 ls st a = qa_go P_X12_goesOn (B_X12_goesOn_4 ls st a) := qa_ev_eq _ _ _ _ _ rfl
theorem ev_X12_goesOn_5 (ls st : List qV) (a : qA) : qa_ev P_X12_goesOn 5 ls st a = qa_go P_X12_goesOn (B_X12_goesOn_5 ls st a) := qa_ev_eq _ _ _ _ _ rfl
theorem ev_X12_goesOn_6 (ls st : List qV) (a : qA) : qa_ev P_X12_goesOn 6 ls st a = qa_go P_X12_goesOn (B_X12_goesOn_6 ls st a) := qa_ev_eq _ _ _ _ _ rfl
theorem ev_X12_goesOn_7 (ls st : List qV) (a : qA) : qa_ev P_X12_goesOn 7 ls st a = qa_go P_X12_goesOn (B_X12_goesOn_7 ls st a) := qa_ev_eq _ _ _ _ _ rfl
theorem ev_X12_goesOn_8 (ls st : List qV) (a : qA) : qa_ev P_X12_goesOn 8 ls st a = qa_go P_X12_goesOn (B_X12_goesOn_8 ls st a) := qa_ev_eq _ _ _ _ _ rfl
theorem ev_X12_goesOn_9 (ls st : List qV) (a : qA) : qa_ev P_X12_goesOn 9 ls st a = qa_go P_X12_goesOn (B_X12_goesOn_9 ls st a) := qa_ev_eq _ _ _ _ _ rfl
theorem ev_X12_goesOn_10 (ls st : List qV) (a : qA) : qa_ev P_X12_goesOn 10 ls st a = qa_go P_X12_goesOn (B_X12_goesOn_10 ls st a) := qa_ev_eq _ _ _ _ _ rfl
theorem ev_X12_goesOn_11 (ls st : List qV) (a : qA) : qa_ev P_X12_goesOn 11 ls st a = qa_go P_X12_goesOn (B_X12_goesOn_11 ls st a) := qa_ev_eq _ _ _ _ _ rfl
theorem ev_X12_goesOn_12 (ls st : List qV) (a : qA) : qa_ev P_X12_goesOn 12 ls st a = qa_go P_X12_goesOn (B_X12_goesOn_12 ls st a) := qa_ev_eq _ _ _ _ _ rfl
theorem ev_X12_goesOn_13 (ls st : List qV) (a : qA) : qa_ev P_X12_goesOn 13 ls st a = qa_go P_X12_goesOn (B_X12_goesOn_13 ls st a) := qa_ev_eq _ _ _ _ _ rfl
theorem ev_X12_must_0 (ls st : List qV) (a : qA) : qa_ev P_X12_must 0 ls st a = qa_go P_X12_must (B_X12_must_0 ls st a) := qa_ev_eq _ _ _ _ _ rfl
theorem ev_X12_must_1 (ls st : List qV) (a : qA) : qa_ev P_X12_must 1 ls st a = qa_go P_X12_must (B_X12_must_1 ls st a) := qa_ev_eq _ _ _ _ _ rfl
theorem ev_X12_wordHere_0 (ls st : List qV) (a : qA) : qa_ev P_X12_wordHere 0 ls st a = qa_go P_X12_wordHere (B_X12_wordHere_0 ls st a) := qa_ev_eq _ _ _ _ _ rfl
theorem ev_X12_wordHere_1 (ls st : List qV) (a : qA) : qa_ev P_X12_wordHere 1 ls st a = qa_go P_X12_wordHere (B_X12_wordHere_1 ls st a) := qa_ev_eq _ _ _ _ _ rfl
theorem ev_X12_wordHere_2 (ls st : List qV) (a : qA) : qa_ev P_X12_wordHere 2 ls st a = qa_go P_X12_wordHere (B_X12_wordHere_2 ls st a) := qa_ev_eq _ _ _ _ _ rfl
theorem ev_X12_wordHere_3 (ls st : List qV) (a : qA) : qa_ev P_X12_wordHere 3 ls st a = qa_go P_X12_wordHere (B_X12_wordHere_3 ls st a) := qa_ev_eq _ _ _ _ _ rfl
theorem ev_X12_wordHere_4 (ls st : List qV) (a : qA) : qa_ev P_X12_wordHere 4 ls st a = qa_go P_X12_wordHere (B_X12_wordHere_4 ls st a) := qa_ev_eq _ _ _ _ _ rfl
theorem ev_X12_wordHere_5 (ls st : List qV) (a : qA) : qa_ev P_X12_wordHere 5 ls st a = qa_go P_X12_wordHere (B_X12_wordHere_5 ls st a) := qa_ev_eq _ _ _ _ _ rfl
theorem ev_X12_wordHere_6 (ls st : List qV) (a : qA) : qa_ev P_X12_wordHere 6 ls st a = qa_go P_X12_wordHere (B_X12_wordHere_6 ls st a) := qa_ev_eq _ _ _ _ _ rfl
theorem ev_X12_wordHere_7 (ls st : List qV) (a : qA) : qa_ev P_X12_wordHere 7 ls st a = qa_go P_X12_wordHere (B_X12_wordHere_7 ls st a) := qa_ev_eq _ _ _ _ _ rfl
theorem ev_X12_wordHere_8 (ls st : List qV) (a : qA) : qa_ev P_X12_wordHere 8 ls st a = qa_go P_X12_wordHere (B_X12_wordHere_8 ls st a) := qa_ev_eq _ _ _ _ _ rfl
theorem ev_X12_reads2_0 (ls st : List qV) (a : qA) : qa_ev P_X12_reads2 0 ls st a = qa_go P_X12_reads2 (B_X12_reads2_0 ls st a) := qa_ev_eq _ _ _ _ _ rfl
theorem ev_X12_reads2_1 (ls st : List qV) (a : qA) : qa_ev P_X12_reads2 1 ls st a = qa_go P_X12_reads2 (B_X12_reads2_1 ls st a) := qa_ev_eq _ _ _ _ _ rfl
theorem ev_X12_reads2_2 (ls st : List qV) (a : qA) : qa_ev P_X12_reads2 2 ls st a = qa_go P_X12_reads2 (B_X12_reads2_2 ls st a) := qa_ev_eq _ _ _ _ _ rfl
theorem ev_X12_reads2_3 (ls st : List qV) (a : qA) : qa_ev P_X12_reads2 3 ls st a = qa_go P_X12_reads2 (B_X12_reads2_3 ls st a) := qa_ev_eq _ _ _ _ _ rfl
theorem ev_X12_reads2_4 (ls st : List qV) (a : qA) : qa_ev P_X12_reads2 4 ls st a = qa_go P_X12_reads2 (B_X12_reads2_4 ls st a) := qa_ev_eq _ _ _ _ _ rfl
theorem ev_X12_reads2_5 (ls st : List qV) (a : qA) : qa_ev P_X12_reads2 5 ls st a = qa_go P_X12_reads2 (B_X12_reads2_5 ls st a) := qa_ev_eq _ _ _ _ _ rfl
theorem ev_X12_reads2_6 (ls st : List qV) (a : qA) : qa_ev P_X12_reads2 6 ls st a = qa_go P_X12_reads2 (B_X12_reads2_6 ls st a) := qa_ev_eq _ _ _ _ _ rfl
theorem ev_X12_takes_0 (ls st : List qV) (a : qA) : qa_ev P_X12_takes 0 ls st a = qa_go P_X12_takes (B_X12_takes_0 ls st a) := qa_ev_eq _ _ _ _ _ rfl
theorem ev_X12_takesInt_0 (ls st : List qV) (a : qA) : qa_ev P_X12_takesInt 0 ls st a = qa_go P_X12_takesInt (B_X12_takesInt_0 ls st a) := qa_ev_eq _ _ _ _ _ rfl
theorem ev_X12_takesInt_1 (ls st : List qV) (a : qA) : qa_ev P_X12_takesInt 1 ls st a = qa_go P_X12_takesInt (B_X12_takesInt_1 ls st a) := qa_ev_eq _ _ _ _ _ rfl
theorem ev_X12_takesInt_2 (ls st : List qV) (a : qA) : qa_ev P_X12_takesInt 2 ls st a = qa_go P_X12_takesInt (B_X12_takesInt_2 ls st a) := qa_ev_eq _ _ _ _ _ rfl
theorem ev_X12_takesInt_3 (ls st : List qV) (a : qA) : qa_ev P_X12_takesInt 3 ls st a = qa_go P_X12_takesInt (B_X12_takesInt_3 ls st a) := qa_ev_eq _ _ _ _ _ rfl
theorem ev_X12_takesInt_4 (ls st : List qV) (a : qA) : qa_ev P_X12_takesInt 4 ls st a = qa_go P_X12_takesInt (B_X12_takesInt_4 ls st a) := qa_ev_eq _ _ _ _ _ rfl
theorem ev_X12_takesInt_5 (ls st : List qV) (a : qA) : qa_ev P_X12_takesInt 5 ls st a = qa_go P_X12_takesInt (B_X12_takesInt_5 ls st a) := qa_ev_eq _ _ _ _ _ rfl
theorem ev_X12_readRest_0 (ls st : List qV) (a : qA) : qa_ev P_X12_readRest 0 ls st a = qa_go P_X12_readRest (B_X12_readRest_0 ls st a) := qa_ev_eq _ _ _ _ _ rfl
theorem ev_X12_readRest_1 (ls st : List qV) (a : qA) : qa_ev P_X12_readRest 1 ls st a = qa_go P_X12_readRest (B_X12_readRest_1 ls st a) := qa_ev_eq _ _ _ _ _ rfl
theorem ev_X12_readRest_2 (ls st : List qV) (a : qA) : qa_ev P_X12_readRest 2 ls st a = qa_go P_X12_readRest (B_X12_readRest_2 ls st a) := qa_ev_eq _ _ _ _ _ rfl
theorem ev_X12_readRest_3 (ls st : List qV) (a : qA) : qa_ev P_X12_readRest 3 ls st a = qa_go P_X12_readRest (B_X12_readRest_3 ls st a) := qa_ev_eq _ _ _ _ _ rfl
theorem ev_X12_readRest_4 (ls st : List qV) (a : qA) : qa_ev P_X12_readRest 4 ls st a = qa_go P_X12_readRest (B_X12_readRest_4 ls st a) := qa_ev_eq _ _ _ _ _ rfl
theorem ev_X12_readRest_5 (ls st : List qV) (a : qA) : qa_ev P_X12_readRest 5 ls st a = qa_go P_X12_readRest (B_X12_readRest_5 ls st a) := qa_ev_eq _ _ _ _ _ rfl
theorem ev_X12_readRest_6 (ls st : List qV) (a : qA) : qa_ev P_X12_readRest 6 ls st a = qa_go P_X12_readRest (B_X12_readRest_6 ls st a) := qa_ev_eq _ _ _ _ _ rfl
theorem ev_X12_readRest_7 (ls st : List qV) (a : qA) : qa_ev P_X12_readRest 7 ls st a = qa_go P_X12_readRest (B_X12_readRest_7 ls st a) := qa_ev_eq _ _ _ _ _ rfl
theorem ev_X12_readRest_8 (ls st : List qV) (a : qA) : qa_ev P_X12_readRest 8 ls st a = qa_go P_X12_readRest (B_X12_readRest_8 ls st a) := qa_ev_eq _ _ _ _ _ rfl
theorem ev_X12_readRest_9 (ls st : List qV) (a : qA) : qa_ev P_X12_readRest 9 ls st a = qa_go P_X12_readRest (B_X12_readRest_9 ls st a) := qa_ev_eq _ _ _ _ _ rfl
theorem ev_X12_readRest_10 (ls st : List qV) (a : qA) : qa_ev P_X12_readRest 10 ls st a = qa_go P_X12_readRest (B_X12_readRest_10 ls st a) := qa_ev_eq _ _ _ _ _ rfl
theorem ev_X12_readRest_11 (ls st : List qV) (a : qA) : qa_ev P_X12_readRest 11 ls st a = qa_go P_X12_readRest (B_X12_readRest_11 ls st a) := qa_ev_eq _ _ _ _ _ rfl
theorem ev_X12_readRest_12 (ls st : List qV) (a : qA) : qa_ev P_X12_readRest 12 ls st a = qa_go P_X12_readRest (B_X12_readRest_12 ls st a) := qa_ev_eq _ _ _ _ _ rfl
theorem ev_X12_readRest_13 (ls st : List qV) (a : qA) : qa_ev P_X12_readRest 13 ls st a = qa_go P_X12_readRest (B_X12_readRest_13 ls st a) := qa_ev_eq _ _ _ _ _ rfl
theorem ev_X12_readRest_14 (ls st : List qV) (a : qA) : qa_ev P_X12_readRest 14 ls st a = qa_go P_X12_readRest (B_X12_readRest_14 ls st a) := qa_ev_eq _ _ _ _ _ rfl
theorem ev_X12_readCommand_0 (ls st : List qV) (a : qA) : qa_ev P_X12_readCommand 0 ls st a = qa_go P_X12_readCommand (B_X12_readCommand_0 ls st a) := qa_ev_eq _ _ _ _ _ rfl
theorem ev_X12_readCommand_1 (ls st : List qV) (a : qA) : qa_ev P_X12_readCommand 1 ls st a = qa_go P_X12_readCommand (B_X12_readCommand_1 ls st a) := qa_ev_eq _ _ _ _ _ rfl
theorem ev_X12_readCommand_2 (ls st : List qV) (a : qA) : qa_ev P_X12_readCommand 2 ls st a = qa_go P_X12_readCommand (B_X12_readCommand_2 ls st a) := qa_ev_eq _ _ _ _ _ rfl
theorem ev_X12_readCommand_3 (ls st : List qV) (a : qA) : qa_ev P_X12_readCommand 3 ls st a = qa_go P_X12_readCommand (B_X12_readCommand_3 ls st a) := qa_ev_eq _ _ _ _ _ rfl
theorem ev_X12_readCommand_4 (ls st : List qV) (a : qA) : qa_ev P_X12_readCommand 4 ls st a = qa_go P_X12_readCommand (B_X12_readCommand_4 ls st a) := qa_ev_eq _ _ _ _ _ rfl
theorem ev_X12_readCommand_5 (ls st : List qV) (a : qA) : qa_ev P_X12_readCommand 5 ls st a = qa_go P_X12_readCommand (B_X12_readCommand_5 ls st a) := qa_ev_eq _ _ _ _ _ rfl
theorem ev_X12_readCommand_6 (ls st : List qV) (a : qA) : qa_ev P_X12_readCommand 6 ls st a = qa_go P_X12_readCommand (B_X12_readCommand_6 ls st a) := qa_ev_eq _ _ _ _ _ rfl
theorem ev_X12_isDone_0 (ls st : List qV) (a : qA) : qa_ev P_X12_isDone 0 ls st a = qa_go P_X12_isDone (B_X12_isDone_0 ls st a) := qa_ev_eq _ _ _ _ _ rfl
theorem ev_X12_isDone_1 (ls st : List qV) (a : qA) : qa_ev P_X12_isDone 1 ls st a = qa_go P_X12_isDone (B_X12_isDone_1 ls st a) := qa_ev_eq _ _ _ _ _ rfl
theorem ev_X12_isDone_2 (ls st : List qV) (a : qA) : qa_ev P_X12_isDone 2 ls st a = qa_go P_X12_isDone (B_X12_isDone_2 ls st a) := qa_ev_eq _ _ _ _ _ rfl
theorem ev_X12_isDone_3 (ls st : List qV) (a : qA) : qa_ev P_X12_isDone 3 ls st a = qa_go P_X12_isDone (B_X12_isDone_3 ls st a) := qa_ev_eq _ _ _ _ _ rfl
theorem ev_X12_isDone_4 (ls st : List qV) (a : qA) : qa_ev P_X12_isDone 4 ls st a = qa_go P_X12_isDone (B_X12_isDone_4 ls st a) := qa_ev_eq _ _ _ _ _ rfl
theorem ev_X12_isDone_5 (ls st : List qV) (a : qA) : qa_ev P_X12_isDone 5 ls st a = qa_go P_X12_isDone (B_X12_isDone_5 ls st a) := qa_ev_eq _ _ _ _ _ rfl
theorem ev_X12_isDone_6 (ls st : List qV) (a : qA) : qa_ev P_X12_isDone 6 ls st a = qa_go P_X12_isDone (B_X12_isDone_6 ls st a) := qa_ev_eq _ _ _ _ _ rfl
theorem ev_X12_isDone_7 (ls st : List qV) (a : qA) : qa_ev P_X12_isDone 7 ls st a = qa_go P_X12_isDone (B_X12_isDone_7 ls st a) := qa_ev_eq _ _ _ _ _ rfl
theorem ev_X12_isDone_8 (ls st : List qV) (a : qA) : qa_ev P_X12_isDone 8 ls st a = qa_go P_X12_isDone (B_X12_isDone_8 ls st a) := qa_ev_eq _ _ _ _ _ rfl
theorem ev_X12_isDone_9 (ls st : List qV) (a : qA) : qa_ev P_X12_isDone 9 ls st a = qa_go P_X12_isDone (B_X12_isDone_9 ls st a) := qa_ev_eq _ _ _ _ _ rfl
theorem ev_X12_isDone_10 (ls st : List qV) (a : qA) : qa_ev P_X12_isDone 10 ls st a = qa_go P_X12_isDone (B_X12_isDone_10 ls st a) := qa_ev_eq _ _ _ _ _ rfl
theorem ev_X12_isDone_11 (ls st : List qV) (a : qA) : qa_ev P_X12_isDone 11 ls st a = qa_go P_X12_isDone (B_X12_isDone_11 ls st a) := qa_ev_eq _ _ _ _ _ rfl
theorem ev_X12_isDone_12 (ls st : List qV) (a : qA) : qa_ev P_X12_isDone 12 ls st a = qa_go P_X12_isDone (B_X12_isDone_12 ls st a) := qa_ev_eq _ _ _ _ _ rfl
theorem ev_X12_isDone_13 (ls st : List qV) (a : qA) : qa_ev P_X12_isDone 13 ls st a = qa_go P_X12_isDone (B_X12_isDone_13 ls st a) := qa_ev_eq _ _ _ _ _ rfl
theorem ev_X12_isDone_14 (ls st : List qV) (a : qA) : qa_ev P_X12_isDone 14 ls st a = qa_go P_X12_isDone (B_X12_isDone_14 ls st a) := qa_ev_eq _ _ _ _ _ rfl
theorem ev_X12_isDone_15 (ls st : List qV) (a : qA) : qa_ev P_X12_isDone 15 ls st a = qa_go P_X12_isDone (B_X12_isDone_15 ls st a) := qa_ev_eq _ _ _ _ _ rfl
theorem ev_X12_isDone_16 (ls st : List qV) (a : qA) : qa_ev P_X12_isDone 16 ls st a = qa_go P_X12_isDone (B_X12_isDone_16 ls st a) := qa_ev_eq _ _ _ _ _ rfl
theorem ev_X12_isDone_17 (ls st : List qV) (a : qA) : qa_ev P_X12_isDone 17 ls st a = qa_go P_X12_isDone (B_X12_isDone_17 ls st a) := qa_ev_eq _ _ _ _ _ rfl
theorem ev_X12_isDone_18 (ls st : List qV) (a : qA) : qa_ev P_X12_isDone 18 ls st a = qa_go P_X12_isDone (B_X12_isDone_18 ls st a) := qa_ev_eq _ _ _ _ _ rfl
theorem ev_X12_isDone_19 (ls st : List qV) (a : qA) : qa_ev P_X12_isDone 19 ls st a = qa_go P_X12_isDone (B_X12_isDone_19 ls st a) := qa_ev_eq _ _ _ _ _ rfl
theorem ev_X12_isDone_20 (ls st : List qV) (a : qA) : qa_ev P_X12_isDone 20 ls st a = qa_go P_X12_isDone (B_X12_isDone_20 ls st a) := qa_ev_eq _ _ _ _ _ rfl
theorem ev_X12_isDone_21 (ls st : List qV) (a : qA) : qa_ev P_X12_isDone 21 ls st a = qa_go P_X12_isDone (B_X12_isDone_21 ls st a) := qa_ev_eq _ _ _ _ _ rfl
theorem ev_X12_isDone_22 (ls st : List qV) (a : qA) : qa_ev P_X12_isDone 22 ls st a = qa_go P_X12_isDone (B_X12_isDone_22 ls st a) := qa_ev_eq _ _ _ _ _ rfl
theorem ev_X12_isDone_23 (ls st : List qV) (a : qA) : qa_ev P_X12_isDone 23 ls st a = qa_go P_X12_isDone (B_X12_isDone_23 ls st a) := qa_ev_eq _ _ _ _ _ rfl
theorem ev_X12_isDone_24 (ls st : List qV) (a : qA) : qa_ev P_X12_isDone 24 ls st a = qa_go P_X12_isDone (B_X12_isDone_24 ls st a) := qa_ev_eq _ _ _ _ _ rfl
theorem ev_X12_isDone_25 (ls st : List qV) (a : qA) : qa_ev P_X12_isDone 25 ls st a = qa_go P_X12_isDone (B_X12_isDone_25 ls st a) := qa_ev_eq _ _ _ _ _ rfl
theorem ev_X12_isDone_26 (ls st : List qV) (a : qA) : qa_ev P_X12_isDone 26 ls st a = qa_go P_X12_isDone (B_X12_isDone_26 ls st a) := qa_ev_eq _ _ _ _ _ rfl
theorem ev_X12_isDone_27 (ls st : List qV) (a : qA) : qa_ev P_X12_isDone 27 ls st a = qa_go P_X12_isDone (B_X12_isDone_27 ls st a) := qa_ev_eq _ _ _ _ _ rfl
theorem ev_X12_isDone_28 (ls st : List qV) (a : qA) : qa_ev P_X12_isDone 28 ls st a = qa_go P_X12_isDone (B_X12_isDone_28 ls st a) := qa_ev_eq _ _ _ _ _ rfl
theorem ev_X12_isDone_29 (ls st : List qV) (a : qA) : qa_ev P_X12_isDone 29 ls st a = qa_go P_X12_isDone (B_X12_isDone_29 ls st a) := qa_ev_eq _ _ _ _ _ rfl
theorem ev_X12_isDone_30 (ls st : List qV) (a : qA) : qa_ev P_X12_isDone 30 ls st a = qa_go P_X12_isDone (B_X12_isDone_30 ls st a) := qa_ev_eq _ _ _ _ _ rfl
theorem ev_X12_isDone_31 (ls st : List qV) (a : qA) : qa_ev P_X12_isDone 31 ls st a = qa_go P_X12_isDone (B_X12_isDone_31 ls st a) := qa_ev_eq _ _ _ _ _ rfl
theorem ev_X12_isDone_32 (ls st : List qV) (a : qA) : qa_ev P_X12_isDone 32 ls st a = qa_go P_X12_isDone (B_X12_isDone_32 ls st a) := qa_ev_eq _ _ _ _ _ rfl
theorem ev_X12_runScript_0 (ls st : List qV) (a : qA) : qa_ev P_X12_runScript 0 ls st a = qa_go P_X12_runScript (B_X12_runScript_0 ls st a) := qa_ev_eq _ _ _ _ _ rfl
theorem ev_X12_runScript_1 (ls st : List qV) (a : qA) : qa_ev P_X12_runScript 1 ls st a = qa_go P_X12_runScript (B_X12_runScript_1 ls st a) := qa_ev_eq _ _ _ _ _ rfl
theorem ev_X12_runScript_2 (ls st : List qV) (a : qA) : qa_ev P_X12_runScript 2 ls st a = qa_go P_X12_runScript (B_X12_runScript_2 ls st a) := qa_ev_eq _ _ _ _ _ rfl
theorem ev_X12_runScript_3 (ls st : List qV) (a : qA) : qa_ev P_X12_runScript 3 ls st a = qa_go P_X12_runScript (B_X12_runScript_3 ls st a) := qa_ev_eq _ _ _ _ _ rfl
theorem ev_X12_runScript_4 (ls st : List qV) (a : qA) : qa_ev P_X12_runScript 4 ls st a = qa_go P_X12_runScript (B_X12_runScript_4 ls st a) := qa_ev_eq _ _ _ _ _ rfl
theorem ev_X12_runScript_5 (ls st : List qV) (a : qA) : qa_ev P_X12_runScript 5 ls st a = qa_go P_X12_runScript (B_X12_runScript_5 ls st a) := qa_ev_eq _ _ _ _ _ rfl
theorem ev_X12_errorCode_0 (ls st : List qV) (a : qA) : qa_ev P_X12_errorCode 0 ls st a = qa_go P_X12_errorCode (B_X12_errorCode_0 ls st a) := qa_ev_eq _ _ _ _ _ rfl
theorem ev_X12_errorPosition_0 (ls st : List qV) (a : qA) : qa_ev P_X12_errorPosition 0 ls st a = qa_go P_X12_errorPosition (B_X12_errorPosition_0 ls st a) := qa_ev_eq _ _ _ _ _ rfl
theorem ev_X12_prints_0 (ls st : List qV) (a : qA) : qa_ev P_X12_prints 0 ls st a = qa_go P_X12_prints (B_X12_prints_0 ls st a) := qa_ev_eq _ _ _ _ _ rfl
theorem ev_X12_printsNumber_0 (ls st : List qV) (a : qA) : qa_ev P_X12_printsNumber 0 ls st a = qa_go P_X12_printsNumber (B_X12_printsNumber_0 ls st a) := qa_ev_eq _ _ _ _ _ rfl
theorem ev_X12_printsNumber_1 (ls st : List qV) (a : qA) : qa_ev P_X12_printsNumber 1 ls st a = qa_go P_X12_printsNumber (B_X12_printsNumber_1 ls st a) := qa_ev_eq _ _ _ _ _ rfl
theorem ev_X12_printsNumber_2 (ls st : List qV) (a : qA) : qa_ev P_X12_printsNumber 2 ls st a = qa_go P_X12_printsNumber (B_X12_printsNumber_2 ls st a) := qa_ev_eq _ _ _ _ _ rfl
theorem ev_X12_printsNumber_3 (ls st : List qV) (a : qA) : qa_ev P_X12_printsNumber 3 ls st a = qa_go P_X12_printsNumber (B_X12_printsNumber_3 ls st a) := qa_ev_eq _ _ _ _ _ rfl
theorem ev_X12_printsReader_0 (ls st : List qV) (a : qA) : qa_ev P_X12_printsReader 0 ls st a = qa_go P_X12_printsReader (B_X12_printsReader_0 ls st a) := qa_ev_eq _ _ _ _ _ rfl
theorem ev_X12_printsReader_1 (ls st : List qV) (a : qA) : qa_ev P_X12_printsReader 1 ls st a = qa_go P_X12_printsReader (B_X12_printsReader_1 ls st a) := qa_ev_eq _ _ _ _ _ rfl
theorem ev_X12_printsReader_2 (ls st : List qV) (a : qA) : qa_ev P_X12_printsReader 2 ls st a = qa_go P_X12_printsReader (B_X12_printsReader_2 ls st a) := qa_ev_eq _ _ _ _ _ rfl
theorem ev_X12_printsReader_3 (ls st : List qV) (a : qA) : qa_ev P_X12_printsReader 3 ls st a = qa_go P_X12_printsReader (B_X12_printsReader_3 ls st a) := qa_ev_eq _ _ _ _ _ rfl
theorem ev_X12_write_0 (ls st : List qV) (a : qA) : qa_ev P_X12_write 0 ls st a = qa_go P_X12_write (B_X12_write_0 ls st a) := qa_ev_eq _ _ _ _ _ rfl
theorem ev_X12_write_1 (ls st : List qV) (a : qA) : qa_ev P_X12_write 1 ls st a = qa_go P_X12_write (B_X12_write_1 ls st a) := qa_ev_eq _ _ _ _ _ rfl
theorem ev_X12_write_2 (ls st : List qV) (a : qA) : qa_ev P_X12_write 2 ls st a = qa_go P_X12_write (B_X12_write_2 ls st a) := qa_ev_eq _ _ _ _ _ rfl
theorem ev_X12_write_3 (ls st : List qV) (a : qA) : qa_ev P_X12_write 3 ls st a = qa_go P_X12_write (B_X12_write_3 ls st a) := qa_ev_eq _ _ _ _ _ rfl
theorem ev_X12_write_4 (ls st : List qV) (a : qA) : qa_ev P_X12_write 4 ls st a = qa_go P_X12_write (B_X12_write_4 ls st a) := qa_ev_eq _ _ _ _ _ rfl
theorem ev_X12_write_5 (ls st : List qV) (a : qA) : qa_ev P_X12_write 5 ls st a = qa_go P_X12_write (B_X12_write_5 ls st a) := qa_ev_eq _ _ _ _ _ rfl
theorem ev_X12_write_6 (ls st : List qV) (a : qA) : qa_ev P_X12_write 6 ls st a = qa_go P_X12_write (B_X12_write_6 ls st a) := qa_ev_eq _ _ _ _ _ rfl
theorem ev_X12_output_0 (ls st : List qV) (a : qA) : qa_ev P_X12_output 0 ls st a = qa_go P_X12_output (B_X12_output_0 ls st a) := qa_ev_eq _ _ _ _ _ rfl
theorem ev_X12_output_1 (ls st : List qV) (a : qA) : qa_ev P_X12_output 1 ls st a = qa_go P_X12_output (B_X12_output_1 ls st a) := qa_ev_eq _ _ _ _ _ rfl
theorem ev_X12_output_2 (ls st : List qV) (a : qA) : qa_ev P_X12_output 2 ls st a = qa_go P_X12_output (B_X12_output_2 ls st a) := qa_ev_eq _ _ _ _ _ rfl
theorem ev_X12_undo_0 (ls st : List qV) (a : qA) : qa_ev P_X12_undo 0 ls st a = qa_go P_X12_undo (B_X12_undo_0 ls st a) := qa_ev_eq _ _ _ _ _ rfl
theorem ev_X12_undo_1 (ls st : List qV) (a : qA) : qa_ev P_X12_undo 1 ls st a = qa_go P_X12_undo (B_X12_undo_1 ls st a) := qa_ev_eq _ _ _ _ _ rfl
theorem ev_X12_save_0 (ls st : List qV) (a : qA) : qa_ev P_X12_save 0 ls st a = qa_go P_X12_save (B_X12_save_0 ls st a) := qa_ev_eq _ _ _ _ _ rfl
theorem ev_X12_save_1 (ls st : List qV) (a : qA) : qa_ev P_X12_save 1 ls st a = qa_go P_X12_save (B_X12_save_1 ls st a) := qa_ev_eq _ _ _ _ _ rfl
theorem ev_X12_save_2 (ls st : List qV) (a : qA) : qa_ev P_X12_save 2 ls st a = qa_go P_X12_save (B_X12_save_2 ls st a) := qa_ev_eq _ _ _ _ _ rfl
theorem ev_X12_save_3 (ls st : List qV) (a : qA) : qa_ev P_X12_save 3 ls st a = qa_go P_X12_save (B_X12_save_3 ls st a) := qa_ev_eq _ _ _ _ _ rfl
theorem ev_X12_restore_0 (ls st : List qV) (a : qA) : qa_ev P_X12_restore 0 ls st a = qa_go P_X12_restore (B_X12_restore_0 ls st a) := qa_ev_eq _ _ _ _ _ rfl
theorem ev_X12_restore_1 (ls st : List qV) (a : qA) : qa_ev P_X12_restore 1 ls st a = qa_go P_X12_restore (B_X12_restore_1 ls st a) := qa_ev_eq _ _ _ _ _ rfl
theorem ev_X12_restore_2 (ls st : List qV) (a : qA) : qa_ev P_X12_restore 2 ls st a = qa_go P_X12_restore (B_X12_restore_2 ls st a) := qa_ev_eq _ _ _ _ _ rfl
theorem ev_X12_restore_3 (ls st : List qV) (a : qA) : qa_ev P_X12_restore 3 ls st a = qa_go P_X12_restore (B_X12_restore_3 ls st a) := qa_ev_eq _ _ _ _ _ rfl
theorem ev_X12_restore_4 (ls st : List qV) (a : qA) : qa_ev P_X12_restore 4 ls st a = qa_go P_X12_restore (B_X12_restore_4 ls st a) := qa_ev_eq _ _ _ _ _ rfl
theorem ev_L_appendText_0 (ls st : List qV) (a : qA) : qa_ev P_L_appendText 0 ls st a = qa_go P_L_appendText (B_L_appendText_0 ls st a) := qa_ev_eq _ _ _ _ _ rfl
theorem ev_L_appendText_1 (ls st : List qV) (a : qA) : qa_ev P_L_appendText 1 ls st a = qa_go P_L_appendText (B_L_appendText_1 ls st a) := qa_ev_eq _ _ _ _ _ rfl
theorem ev_L_appendText_2 (ls st : List qV) (a : qA) : qa_ev P_L_appendText 2 ls st a = qa_go P_L_appendText (B_L_appendText_2 ls st a) := qa_ev_eq _ _ _ _ _ rfl
theorem ev_L_truncateText_0 (ls st : List qV) (a : qA) : qa_ev P_L_truncateText 0 ls st a = qa_go P_L_truncateText (B_L_truncateText_0 ls st a) := qa_ev_eq _ _ _ _ _ rfl
theorem ev_L_truncateText_1 (ls st : List qV) (a : qA) : qa_ev P_L_truncateText 1 ls st a = qa_go P_L_truncateText (B_L_truncateText_1 ls st a) := qa_ev_eq _ _ _ _ _ rfl
theorem ev_L_truncateText_2 (ls st : List qV) (a : qA) : qa_ev P_L_truncateText 2 ls st a = qa_go P_L_truncateText (B_L_truncateText_2 ls st a) := qa_ev_eq _ _ _ _ _ rfl
theorem ev_L_set_0 (ls st : List qV) (a : qA) : qa_ev P_L_set 0 ls st a = qa_go P_L_set (B_L_set_0 ls st a) := qa_ev_eq _ _ _ _ _ rfl
theorem ev_L_set_1 (ls st : List qV) (a : qA) : qa_ev P_L_set 1 ls st a = qa_go P_L_set (B_L_set_1 ls st a) := qa_ev_eq _ _ _ _ _ rfl
theorem ev_L_set_2 (ls st : List qV) (a : qA) : qa_ev P_L_set 2 ls st a = qa_go P_L_set (B_L_set_2 ls st a) := qa_ev_eq _ _ _ _ _ rfl
theorem ev_L_count_0 (ls st : List qV) (a : qA) : qa_ev P_L_count 0 ls st a = qa_go P_L_count (B_L_count_0 ls st a) := qa_ev_eq _ _ _ _ _ rfl
theorem ev_L_count_1 (ls st : List qV) (a : qA) : qa_ev P_L_count 1 ls st a = qa_go P_L_count (B_L_count_1 ls st a) := qa_ev_eq _ _ _ _ _ rfl
theorem ev_L_count_2 (ls st : List qV) (a : qA) : qa_ev P_L_count 2 ls st a = qa_go P_L_count (B_L_count_2 ls st a) := qa_ev_eq _ _ _ _ _ rfl
theorem ev_L_branch_0 (ls st : List qV) (a : qA) : qa_ev P_L_branch 0 ls st a = qa_go P_L_branch (B_L_branch_0 ls st a) := qa_ev_eq _ _ _ _ _ rfl
theorem ev_L_branch_1 (ls st : List qV) (a : qA) : qa_ev P_L_branch 1 ls st a = qa_go P_L_branch (B_L_branch_1 ls st a) := qa_ev_eq _ _ _ _ _ rfl
theorem ev_L_branch_2 (ls st : List qV) (a : qA) : qa_ev P_L_branch 2 ls st a = qa_go P_L_branch (B_L_branch_2 ls st a) := qa_ev_eq _ _ _ _ _ rfl
theorem ev_L_branch_3 (ls st : List qV) (a : qA) : qa_ev P_L_branch 3 ls st a = qa_go P_L_branch (B_L_branch_3 ls st a) := qa_ev_eq _ _ _ _ _ rfl
theorem ev_L_entry_0 (ls st : List qV) (a : qA) : qa_ev P_L_entry 0 ls st a = qa_go P_L_entry (B_L_entry_0 ls st a) := qa_ev_eq _ _ _ _ _ rfl
theorem ev_L_entry_1 (ls st : List qV) (a : qA) : qa_ev P_L_entry 1 ls st a = qa_go P_L_entry (B_L_entry_1 ls st a) := qa_ev_eq _ _ _ _ _ rfl
theorem ev_L_entry_2 (ls st : List qV) (a : qA) : qa_ev P_L_entry 2 ls st a = qa_go P_L_entry (B_L_entry_2 ls st a) := qa_ev_eq _ _ _ _ _ rfl
theorem ev_L_entry_3 (ls st : List qV) (a : qA) : qa_ev P_L_entry 3 ls st a = qa_go P_L_entry (B_L_entry_3 ls st a) := qa_ev_eq _ _ _ _ _ rfl
theorem ev_L_reader_0 (ls st : List qV) (a : qA) : qa_ev P_L_reader 0 ls st a = qa_go P_L_reader (B_L_reader_0 ls st a) := qa_ev_eq _ _ _ _ _ rfl
theorem ev_L_reader_1 (ls st : List qV) (a : qA) : qa_ev P_L_reader 1 ls st a = qa_go P_L_reader (B_L_reader_1 ls st a) := qa_ev_eq _ _ _ _ _ rfl
theorem ev_L_reader_2 (ls st : List qV) (a : qA) : qa_ev P_L_reader 2 ls st a = qa_go P_L_reader (B_L_reader_2 ls st a) := qa_ev_eq _ _ _ _ _ rfl
theorem ev_L_reader_3 (ls st : List qV) (a : qA) : qa_ev P_L_reader 3 ls st a = qa_go P_L_reader (B_L_reader_3 ls st a) := qa_ev_eq _ _ _ _ _ rfl
theorem ev_L_debt_0 (ls st : List qV) (a : qA) : qa_ev P_L_debt 0 ls st a = qa_go P_L_debt (B_L_debt_0 ls st a) := qa_ev_eq _ _ _ _ _ rfl
theorem ev_L_debt_1 (ls st : List qV) (a : qA) : qa_ev P_L_debt 1 ls st a = qa_go P_L_debt (B_L_debt_1 ls st a) := qa_ev_eq _ _ _ _ _ rfl
theorem ev_L_debt_2 (ls st : List qV) (a : qA) : qa_ev P_L_debt 2 ls st a = qa_go P_L_debt (B_L_debt_2 ls st a) := qa_ev_eq _ _ _ _ _ rfl
theorem ev_L_debt_3 (ls st : List qV) (a : qA) : qa_ev P_L_debt 3 ls st a = qa_go P_L_debt (B_L_debt_3 ls st a) := qa_ev_eq _ _ _ _ _ rfl
theorem ev_L_debtOf_0 (ls st : List qV) (a : qA) : qa_ev P_L_debtOf 0 ls st a = qa_go P_L_debtOf (B_L_debtOf_0 ls st a) := qa_ev_eq _ _ _ _ _ rfl
theorem ev_L_debtOf_1 (ls st : List qV) (a : qA) : qa_ev P_L_debtOf 1 ls st a = qa_go P_L_debtOf (B_L_debtOf_1 ls st a) := qa_ev_eq _ _ _ _ _ rfl
theorem ev_L_debtOf_2 (ls st : List qV) (a : qA) : qa_ev P_L_debtOf 2 ls st a = qa_go P_L_debtOf (B_L_debtOf_2 ls st a) := qa_ev_eq _ _ _ _ _ rfl
theorem ev_L_debtOf_3 (ls st : List qV) (a : qA) : qa_ev P_L_debtOf 3 ls st a = qa_go P_L_debtOf (B_L_debtOf_3 ls st a) := qa_ev_eq _ _ _ _ _ rfl
theorem ev_L_item_0 (ls st : List qV) (a : qA) : qa_ev P_L_item 0 ls st a = qa_go P_L_item (B_L_item_0 ls st a) := qa_ev_eq _ _ _ _ _ rfl
theorem ev_L_item_1 (ls st : List qV) (a : qA) : qa_ev P_L_item 1 ls st a = qa_go P_L_item (B_L_item_1 ls st a) := qa_ev_eq _ _ _ _ _ rfl
theorem ev_L_item_2 (ls st : List qV) (a : qA) : qa_ev P_L_item 2 ls st a = qa_go P_L_item (B_L_item_2 ls st a) := qa_ev_eq _ _ _ _ _ rfl
theorem ev_L_item_3 (ls st : List qV) (a : qA) : qa_ev P_L_item 3 ls st a = qa_go P_L_item (B_L_item_3 ls st a) := qa_ev_eq _ _ _ _ _ rfl
theorem ev_L_account_0 (ls st : List qV) (a : qA) : qa_ev P_L_account 0 ls st a = qa_go P_L_account (B_L_account_0 ls st a) := qa_ev_eq _ _ _ _ _ rfl
theorem ev_L_account_1 (ls st : List qV) (a : qA) : qa_ev P_L_account 1 ls st a = qa_go P_L_account (B_L_account_1 ls st a) := qa_ev_eq _ _ _ _ _ rfl
theorem ev_L_account_2 (ls st : List qV) (a : qA) : qa_ev P_L_account 2 ls st a = qa_go P_L_account (B_L_account_2 ls st a) := qa_ev_eq _ _ _ _ _ rfl
theorem ev_L_append_0 (ls st : List qV) (a : qA) : qa_ev P_L_append 0 ls st a = qa_go P_L_append (B_L_append_0 ls st a) := qa_ev_eq _ _ _ _ _ rfl
theorem ev_L_append_1 (ls st : List qV) (a : qA) : qa_ev P_L_append 1 ls st a = qa_go P_L_append (B_L_append_1 ls st a) := qa_ev_eq _ _ _ _ _ rfl
theorem ev_L_append_2 (ls st : List qV) (a : qA) : qa_ev P_L_append 2 ls st a = qa_go P_L_append (B_L_append_2 ls st a) := qa_ev_eq _ _ _ _ _ rfl
theorem ev_L_append_3 (ls st : List qV) (a : qA) : qa_ev P_L_append 3 ls st a = qa_go P_L_append (B_L_append_3 ls st a) := qa_ev_eq _ _ _ _ _ rfl
theorem ev_L_join_0 (ls st : List qV) (a : qA) : qa_ev P_L_join 0 ls st a = qa_go P_L_join (B_L_join_0 ls st a) := qa_ev_eq _ _ _ _ _ rfl
theorem ev_L_join_1 (ls st : List qV) (a : qA) : qa_ev P_L_join 1 ls st a = qa_go P_L_join (B_L_join_1 ls st a) := qa_ev_eq _ _ _ _ _ rfl
theorem ev_L_join_2 (ls st : List qV) (a : qA) : qa_ev P_L_join 2 ls st a = qa_go P_L_join (B_L_join_2 ls st a) := qa_ev_eq _ _ _ _ _ rfl
theorem ev_L_leave_0 (ls st : List qV) (a : qA) : qa_ev P_L_leave 0 ls st a = qa_go P_L_leave (B_L_leave_0 ls st a) := qa_ev_eq _ _ _ _ _ rfl
theorem ev_L_leave_1 (ls st : List qV) (a : qA) : qa_ev P_L_leave 1 ls st a = qa_go P_L_leave (B_L_leave_1 ls st a) := qa_ev_eq _ _ _ _ _ rfl
theorem ev_L_leave_2 (ls st : List qV) (a : qA) : qa_ev P_L_leave 2 ls st a = qa_go P_L_leave (B_L_leave_2 ls st a) := qa_ev_eq _ _ _ _ _ rfl
theorem ev_L_read_0 (ls st : List qV) (a : qA) : qa_ev P_L_read 0 ls st a = qa_go P_L_read (B_L_read_0 ls st a) := qa_ev_eq _ _ _ _ _ rfl
theorem ev_L_read_1 (ls st : List qV) (a : qA) : qa_ev P_L_read 1 ls st a = qa_go P_L_read (B_L_read_1 ls st a) := qa_ev_eq _ _ _ _ _ rfl
theorem ev_L_read_2 (ls st : List qV) (a : qA) : qa_ev P_L_read 2 ls st a = qa_go P_L_read (B_L_read_2 ls st a) := qa_ev_eq _ _ _ _ _ rfl
theorem ev_L_read_3 (ls st : List qV) (a : qA) : qa_ev P_L_read 3 ls st a = qa_go P_L_read (B_L_read_3 ls st a) := qa_ev_eq _ _ _ _ _ rfl
theorem ev_L_promise_0 (ls st : List qV) (a : qA) : qa_ev P_L_promise 0 ls st a = qa_go P_L_promise (B_L_promise_0 ls st a) := qa_ev_eq _ _ _ _ _ rfl
theorem ev_L_promise_1 (ls st : List qV) (a : qA) : qa_ev P_L_promise 1 ls st a = qa_go P_L_promise (B_L_promise_1 ls st a) := qa_ev_eq _ _ _ _ _ rfl
theorem ev_L_promise_2 (ls st : List qV) (a : qA) : qa_ev P_L_promise 2 ls st a = qa_go P_L_promise (B_L_promise_2 ls st a) := qa_ev_eq _ _ _ _ _ rfl
theorem ev_L_promise_3 (ls st : List qV) (a : qA) : qa_ev P_L_promise 3 ls st a = qa_go P_L_promise (B_L_promise_3 ls st a) := qa_ev_eq _ _ _ _ _ rfl
theorem ev_L_move_0 (ls st : List qV) (a : qA) : qa_ev P_L_move 0 ls st a = qa_go P_L_move (B_L_move_0 ls st a) := qa_ev_eq _ _ _ _ _ rfl
theorem ev_L_move_1 (ls st : List qV) (a : qA) : qa_ev P_L_move 1 ls st a = qa_go P_L_move (B_L_move_1 ls st a) := qa_ev_eq _ _ _ _ _ rfl
theorem ev_L_move_2 (ls st : List qV) (a : qA) : qa_ev P_L_move 2 ls st a = qa_go P_L_move (B_L_move_2 ls st a) := qa_ev_eq _ _ _ _ _ rfl
theorem ev_L_fork_0 (ls st : List qV) (a : qA) : qa_ev P_L_fork 0 ls st a = qa_go P_L_fork (B_L_fork_0 ls st a) := qa_ev_eq _ _ _ _ _ rfl
theorem ev_L_fork_1 (ls st : List qV) (a : qA) : qa_ev P_L_fork 1 ls st a = qa_go P_L_fork (B_L_fork_1 ls st a) := qa_ev_eq _ _ _ _ _ rfl
theorem ev_L_fork_2 (ls st : List qV) (a : qA) : qa_ev P_L_fork 2 ls st a = qa_go P_L_fork (B_L_fork_2 ls st a) := qa_ev_eq _ _ _ _ _ rfl
theorem ev_L_merge_0 (ls st : List qV) (a : qA) : qa_ev P_L_merge 0 ls st a = qa_go P_L_merge (B_L_merge_0 ls st a) := qa_ev_eq _ _ _ _ _ rfl
theorem ev_L_merge_1 (ls st : List qV) (a : qA) : qa_ev P_L_merge 1 ls st a = qa_go P_L_merge (B_L_merge_1 ls st a) := qa_ev_eq _ _ _ _ _ rfl
theorem ev_L_merge_2 (ls st : List qV) (a : qA) : qa_ev P_L_merge 2 ls st a = qa_go P_L_merge (B_L_merge_2 ls st a) := qa_ev_eq _ _ _ _ _ rfl
theorem ev_L_drop_0 (ls st : List qV) (a : qA) : qa_ev P_L_drop 0 ls st a = qa_go P_L_drop (B_L_drop_0 ls st a) := qa_ev_eq _ _ _ _ _ rfl
theorem ev_L_drop_1 (ls st : List qV) (a : qA) : qa_ev P_L_drop 1 ls st a = qa_go P_L_drop (B_L_drop_1 ls st a) := qa_ev_eq _ _ _ _ _ rfl
theorem ev_L_drop_2 (ls st : List qV) (a : qA) : qa_ev P_L_drop 2 ls st a = qa_go P_L_drop (B_L_drop_2 ls st a) := qa_ev_eq _ _ _ _ _ rfl
theorem ev_L_pass_0 (ls st : List qV) (a : qA) : qa_ev P_L_pass 0 ls st a = qa_go P_L_pass (B_L_pass_0 ls st a) := qa_ev_eq _ _ _ _ _ rfl
theorem ev_L_pass_1 (ls st : List qV) (a : qA) : qa_ev P_L_pass 1 ls st a = qa_go P_L_pass (B_L_pass_1 ls st a) := qa_ev_eq _ _ _ _ _ rfl
theorem ev_L_pass_2 (ls st : List qV) (a : qA) : qa_ev P_L_pass 2 ls st a = qa_go P_L_pass (B_L_pass_2 ls st a) := qa_ev_eq _ _ _ _ _ rfl
theorem ev_L_common_0 (ls st : List qV) (a : qA) : qa_ev P_L_common 0 ls st a = qa_go P_L_common (B_L_common_0 ls st a) := qa_ev_eq _ _ _ _ _ rfl
theorem ev_L_common_1 (ls st : List qV) (a : qA) : qa_ev P_L_common 1 ls st a = qa_go P_L_common (B_L_common_1 ls st a) := qa_ev_eq _ _ _ _ _ rfl
theorem ev_L_common_2 (ls st : List qV) (a : qA) : qa_ev P_L_common 2 ls st a = qa_go P_L_common (B_L_common_2 ls st a) := qa_ev_eq _ _ _ _ _ rfl
theorem ev_L_holder_0 (ls st : List qV) (a : qA) : qa_ev P_L_holder 0 ls st a = qa_go P_L_holder (B_L_holder_0 ls st a) := qa_ev_eq _ _ _ _ _ rfl
theorem ev_L_holder_1 (ls st : List qV) (a : qA) : qa_ev P_L_holder 1 ls st a = qa_go P_L_holder (B_L_holder_1 ls st a) := qa_ev_eq _ _ _ _ _ rfl
theorem ev_L_holder_2 (ls st : List qV) (a : qA) : qa_ev P_L_holder 2 ls st a = qa_go P_L_holder (B_L_holder_2 ls st a) := qa_ev_eq _ _ _ _ _ rfl
theorem ev_L_slowest_0 (ls st : List qV) (a : qA) : qa_ev P_L_slowest 0 ls st a = qa_go P_L_slowest (B_L_slowest_0 ls st a) := qa_ev_eq _ _ _ _ _ rfl
theorem ev_L_slowest_1 (ls st : List qV) (a : qA) : qa_ev P_L_slowest 1 ls st a = qa_go P_L_slowest (B_L_slowest_1 ls st a) := qa_ev_eq _ _ _ _ _ rfl
theorem ev_L_slowest_2 (ls st : List qV) (a : qA) : qa_ev P_L_slowest 2 ls st a = qa_go P_L_slowest (B_L_slowest_2 ls st a) := qa_ev_eq _ _ _ _ _ rfl
theorem ev_L_cause_0 (ls st : List qV) (a : qA) : qa_ev P_L_cause 0 ls st a = qa_go P_L_cause (B_L_cause_0 ls st a) := qa_ev_eq _ _ _ _ _ rfl
theorem ev_L_cause_1 (ls st : List qV) (a : qA) : qa_ev P_L_cause 1 ls st a = qa_go P_L_cause (B_L_cause_1 ls st a) := qa_ev_eq _ _ _ _ _ rfl
theorem ev_L_cause_2 (ls st : List qV) (a : qA) : qa_ev P_L_cause 2 ls st a = qa_go P_L_cause (B_L_cause_2 ls st a) := qa_ev_eq _ _ _ _ _ rfl
theorem ev_L_latest_0 (ls st : List qV) (a : qA) : qa_ev P_L_latest 0 ls st a = qa_go P_L_latest (B_L_latest_0 ls st a) := qa_ev_eq _ _ _ _ _ rfl
theorem ev_L_latest_1 (ls st : List qV) (a : qA) : qa_ev P_L_latest 1 ls st a = qa_go P_L_latest (B_L_latest_1 ls st a) := qa_ev_eq _ _ _ _ _ rfl
theorem ev_L_latest_2 (ls st : List qV) (a : qA) : qa_ev P_L_latest 2 ls st a = qa_go P_L_latest (B_L_latest_2 ls st a) := qa_ev_eq _ _ _ _ _ rfl
theorem ev_L_latest_3 (ls st : List qV) (a : qA) : qa_ev P_L_latest 3 ls st a = qa_go P_L_latest (B_L_latest_3 ls st a) := qa_ev_eq _ _ _ _ _ rfl
theorem ev_L_mean_0 (ls st : List qV) (a : qA) : qa_ev P_L_mean 0 ls st a = qa_go P_L_mean (B_L_mean_0 ls st a) := qa_ev_eq _ _ _ _ _ rfl
theorem ev_L_mean_1 (ls st : List qV) (a : qA) : qa_ev P_L_mean 1 ls st a = qa_go P_L_mean (B_L_mean_1 ls st a) := qa_ev_eq _ _ _ _ _ rfl
theorem ev_L_mean_2 (ls st : List qV) (a : qA) : qa_ev P_L_mean 2 ls st a = qa_go P_L_mean (B_L_mean_2 ls st a) := qa_ev_eq _ _ _ _ _ rfl
theorem ev_L_trust_0 (ls st : List qV) (a : qA) : qa_ev P_L_trust 0 ls st a = qa_go P_L_trust (B_L_trust_0 ls st a) := qa_ev_eq _ _ _ _ _ rfl
theorem ev_L_trust_1 (ls st : List qV) (a : qA) : qa_ev P_L_trust 1 ls st a = qa_go P_L_trust (B_L_trust_1 ls st a) := qa_ev_eq _ _ _ _ _ rfl
theorem ev_L_trust_2 (ls st : List qV) (a : qA) : qa_ev P_L_trust 2 ls st a = qa_go P_L_trust (B_L_trust_2 ls st a) := qa_ev_eq _ _ _ _ _ rfl
theorem ev_L_ahead_0 (ls st : List qV) (a : qA) : qa_ev P_L_ahead 0 ls st a = qa_go P_L_ahead (B_L_ahead_0 ls st a) := qa_ev_eq _ _ _ _ _ rfl
theorem ev_L_ahead_1 (ls st : List qV) (a : qA) : qa_ev P_L_ahead 1 ls st a = qa_go P_L_ahead (B_L_ahead_1 ls st a) := qa_ev_eq _ _ _ _ _ rfl
theorem ev_L_ahead_2 (ls st : List qV) (a : qA) : qa_ev P_L_ahead 2 ls st a = qa_go P_L_ahead (B_L_ahead_2 ls st a) := qa_ev_eq _ _ _ _ _ rfl
theorem ev_L_losesIn_0 (ls st : List qV) (a : qA) : qa_ev P_L_losesIn 0 ls st a = qa_go P_L_losesIn (B_L_losesIn_0 ls st a) := qa_ev_eq _ _ _ _ _ rfl
theorem ev_L_losesIn_1 (ls st : List qV) (a : qA) : qa_ev P_L_losesIn 1 ls st a = qa_go P_L_losesIn (B_L_losesIn_1 ls st a) := qa_ev_eq _ _ _ _ _ rfl
theorem ev_L_losesIn_2 (ls st : List qV) (a : qA) : qa_ev P_L_losesIn 2 ls st a = qa_go P_L_losesIn (B_L_losesIn_2 ls st a) := qa_ev_eq _ _ _ _ _ rfl
theorem ev_L_losesIn_3 (ls st : List qV) (a : qA) : qa_ev P_L_losesIn 3 ls st a = qa_go P_L_losesIn (B_L_losesIn_3 ls st a) := qa_ev_eq _ _ _ _ _ rfl
theorem ev_L_wouldCut_0 (ls st : List qV) (a : qA) : qa_ev P_L_wouldCut 0 ls st a = qa_go P_L_wouldCut (B_L_wouldCut_0 ls st a) := qa_ev_eq _ _ _ _ _ rfl
theorem ev_L_wouldCut_1 (ls st : List qV) (a : qA) : qa_ev P_L_wouldCut 1 ls st a = qa_go P_L_wouldCut (B_L_wouldCut_1 ls st a) := qa_ev_eq _ _ _ _ _ rfl
theorem ev_L_wouldCut_2 (ls st : List qV) (a : qA) : qa_ev P_L_wouldCut 2 ls st a = qa_go P_L_wouldCut (B_L_wouldCut_2 ls st a) := qa_ev_eq _ _ _ _ _ rfl
theorem ev_L_wouldCut_3 (ls st : List qV) (a : qA) : qa_ev P_L_wouldCut 3 ls st a = qa_go P_L_wouldCut (B_L_wouldCut_3 ls st a) := qa_ev_eq _ _ _ _ _ rfl
theorem ev_L_unread_0 (ls st : List qV) (a : qA) : qa_ev P_L_unread 0 ls st a = qa_go P_L_unread (B_L_unread_0 ls st a) := qa_ev_eq _ _ _ _ _ rfl
theorem ev_L_unread_1 (ls st : List qV) (a : qA) : qa_ev P_L_unread 1 ls st a = qa_go P_L_unread (B_L_unread_1 ls st a) := qa_ev_eq _ _ _ _ _ rfl
theorem ev_L_unread_2 (ls st : List qV) (a : qA) : qa_ev P_L_unread 2 ls st a = qa_go P_L_unread (B_L_unread_2 ls st a) := qa_ev_eq _ _ _ _ _ rfl
theorem ev_L_unread_3 (ls st : List qV) (a : qA) : qa_ev P_L_unread 3 ls st a = qa_go P_L_unread (B_L_unread_3 ls st a) := qa_ev_eq _ _ _ _ _ rfl
theorem ev_L_promised_0 (ls st : List qV) (a : qA) : qa_ev P_L_promised 0 ls st a = qa_go P_L_promised (B_L_promised_0 ls st a) := qa_ev_eq _ _ _ _ _ rfl
theorem ev_L_promised_1 (ls st : List qV) (a : qA) : qa_ev P_L_promised 1 ls st a = qa_go P_L_promised (B_L_promised_1 ls st a) := qa_ev_eq _ _ _ _ _ rfl
theorem ev_L_promised_2 (ls st : List qV) (a : qA) : qa_ev P_L_promised 2 ls st a = qa_go P_L_promised (B_L_promised_2 ls st a) := qa_ev_eq _ _ _ _ _ rfl
theorem ev_L_age_0 (ls st : List qV) (a : qA) : qa_ev P_L_age 0 ls st a = qa_go P_L_age (B_L_age_0 ls st a) := qa_ev_eq _ _ _ _ _ rfl
theorem ev_L_age_1 (ls st : List qV) (a : qA) : qa_ev P_L_age 1 ls st a = qa_go P_L_age (B_L_age_1 ls st a) := qa_ev_eq _ _ _ _ _ rfl
theorem ev_L_age_2 (ls st : List qV) (a : qA) : qa_ev P_L_age 2 ls st a = qa_go P_L_age (B_L_age_2 ls st a) := qa_ev_eq _ _ _ _ _ rfl
theorem ev_L_write_0 (ls st : List qV) (a : qA) : qa_ev P_L_write 0 ls st a = qa_go P_L_write (B_L_write_0 ls st a) := qa_ev_eq _ _ _ _ _ rfl
theorem ev_L_write_1 (ls st : List qV) (a : qA) : qa_ev P_L_write 1 ls st a = qa_go P_L_write (B_L_write_1 ls st a) := qa_ev_eq _ _ _ _ _ rfl
theorem ev_L_write_2 (ls st : List qV) (a : qA) : qa_ev P_L_write 2 ls st a = qa_go P_L_write (B_L_write_2 ls st a) := qa_ev_eq _ _ _ _ _ rfl
theorem ev_L_save_0 (ls st : List qV) (a : qA) : qa_ev P_L_save 0 ls st a = qa_go P_L_save (B_L_save_0 ls st a) := qa_ev_eq _ _ _ _ _ rfl
theorem ev_L_save_1 (ls st : List qV) (a : qA) : qa_ev P_L_save 1 ls st a = qa_go P_L_save (B_L_save_1 ls st a) := qa_ev_eq _ _ _ _ _ rfl
theorem ev_L_save_2 (ls st : List qV) (a : qA) : qa_ev P_L_save 2 ls st a = qa_go P_L_save (B_L_save_2 ls st a) := qa_ev_eq _ _ _ _ _ rfl
theorem ev_L_restore_0 (ls st : List qV) (a : qA) : qa_ev P_L_restore 0 ls st a = qa_go P_L_restore (B_L_restore_0 ls st a) := qa_ev_eq _ _ _ _ _ rfl
theorem ev_L_restore_1 (ls st : List qV) (a : qA) : qa_ev P_L_restore 1 ls st a = qa_go P_L_restore (B_L_restore_1 ls st a) := qa_ev_eq _ _ _ _ _ rfl
theorem ev_L_restore_2 (ls st : List qV) (a : qA) : qa_ev P_L_restore 2 ls st a = qa_go P_L_restore (B_L_restore_2 ls st a) := qa_ev_eq _ _ _ _ _ rfl
theorem ev_L_restore_3 (ls st : List qV) (a : qA) : qa_ev P_L_restore 3 ls st a = qa_go P_L_restore (B_L_restore_3 ls st a) := qa_ev_eq _ _ _ _ _ rfl
theorem ev_L_law_0 (L : Nat) (xs : Nat → Int32) (ls st : List qV) (a : qA) : qa_ev (P_L_law L xs) 0 ls st a = qa_go (P_L_law L xs) (B_L_law_0 L xs ls st a) := qa_ev_eq _ _ _ _ _ rfl
theorem ev_L_law_1 (L : Nat) (xs : Nat → Int32) (ls st : List qV) (a : qA) : qa_ev (P_L_law L xs) 1 ls st a = qa_go (P_L_law L xs) (B_L_law_1 L xs ls st a) := qa_ev_eq _ _ _ _ _ rfl
theorem ev_L_law_2 (L : Nat) (xs : Nat → Int32) (ls st : List qV) (a : qA) : qa_ev (P_L_law L xs) 2 ls st a = qa_go (P_L_law L xs) (B_L_law_2 L xs ls st a) := qa_ev_eq _ _ _ _ _ rfl
theorem ev_L_law_3 (L : Nat) (xs : Nat → Int32) (ls st : List qV) (a : qA) : qa_ev (P_L_law L xs) 3 ls st a = qa_go (P_L_law L xs) (B_L_law_3 L xs ls st a) := qa_ev_eq _ _ _ _ _ rfl
theorem ev_L_law_4 (L : Nat) (xs : Nat → Int32) (ls st : List qV) (a : qA) : qa_ev (P_L_law L xs) 4 ls st a = qa_go (P_L_law L xs) (B_L_law_4 L xs ls st a) := qa_ev_eq _ _ _ _ _ rfl
theorem ev_L_law_5 (L : Nat) (xs : Nat → Int32) (ls st : List qV) (a : qA) : qa_ev (P_L_law L xs) 5 ls st a = qa_go (P_L_law L xs) (B_L_law_5 L xs ls st a) := qa_ev_eq _ _ _ _ _ rfl
theorem ev_L_law_6 (L : Nat) (xs : Nat → Int32) (ls st : List qV) (a : qA) : qa_ev (P_L_law L xs) 6 ls st a = qa_go (P_L_law L xs) (B_L_law_6 L xs ls st a) := qa_ev_eq _ _ _ _ _ rfl
theorem ev_L_law_7 (L : Nat) (xs : Nat → Int32) (ls st : List qV) (a : qA) : qa_ev (P_L_law L xs) 7 ls st a = qa_go (P_L_law L xs) (B_L_law_7 L xs ls st a) := qa_ev_eq _ _ _ _ _ rfl
theorem ev_L_law_8 (L : Nat) (xs : Nat → Int32) (ls st : List qV) (a : qA) : qa_ev (P_L_law L xs) 8 ls st a = qa_go (P_L_law L xs) (B_L_law_8 L xs ls st a) := qa_ev_eq _ _ _ _ _ rfl
theorem ev_L_law_9 (L : Nat) (xs : Nat → Int32) (ls st : List qV) (a : qA) : qa_ev (P_L_law L xs) 9 ls st a = qa_go (P_L_law L xs) (B_L_law_9 L xs ls st a) := qa_ev_eq _ _ _ _ _ rfl
theorem ev_L_law_10 (L : Nat) (xs : Nat → Int32) (ls st : List qV) (a : qA) : qa_ev (P_L_law L xs) 10 ls st a = qa_go (P_L_law L xs) (B_L_law_10 L xs ls st a) := qa_ev_eq _ _ _ _ _ rfl
theorem ev_L_law_11 (L : Nat) (xs : Nat → Int32) (ls st : List qV) (a : qA) : qa_ev (P_L_law L xs) 11 ls st a = qa_go (P_L_law L xs) (B_L_law_11 L xs ls st a) := qa_ev_eq _ _ _ _ _ rfl
theorem ev_L_law_12 (L : Nat) (xs : Nat → Int32) (ls st : List qV) (a : qA) : qa_ev (P_L_law L xs) 12 ls st a = qa_go (P_L_law L xs) (B_L_law_12 L xs ls st a) := qa_ev_eq _ _ _ _ _ rfl
theorem ev_L_law_13 (L : Nat) (xs : Nat → Int32) (ls st : List qV) (a : qA) : qa_ev (P_L_law L xs) 13 ls st a = qa_go (P_L_law L xs) (B_L_law_13 L xs ls st a) := qa_ev_eq _ _ _ _ _ rfl
theorem ev_L_law_14 (L : Nat) (xs : Nat → Int32) (ls st : List qV) (a : qA) : qa_ev (P_L_law L xs) 14 ls st a = qa_go (P_L_law L xs) (B_L_law_14 L xs ls st a) := qa_ev_eq _ _ _ _ _ rfl
theorem ev_L_law_15 (L : Nat) (xs : Nat → Int32) (ls st : List qV) (a : qA) : qa_ev (P_L_law L xs) 15 ls st a = qa_go (P_L_law L xs) (B_L_law_15 L xs ls st a) := qa_ev_eq _ _ _ _ _ rfl
theorem ev_L_law_16 (L : Nat) (xs : Nat → Int32) (ls st : List qV) (a : qA) : qa_ev (P_L_law L xs) 16 ls st a = qa_go (P_L_law L xs) (B_L_law_16 L xs ls st a) := qa_ev_eq _ _ _ _ _ rfl
theorem ev_L_law_17 (L : Nat) (xs : Nat → Int32) (ls st : List qV) (a : qA) : qa_ev (P_L_law L xs) 17 ls st a = qa_go (P_L_law L xs) (B_L_law_17 L xs ls st a) := qa_ev_eq _ _ _ _ _ rfl
theorem ev_L_law_18 (L : Nat) (xs : Nat → Int32) (ls st : List qV) (a : qA) : qa_ev (P_L_law L xs) 18 ls st a = qa_go (P_L_law L xs) (B_L_law_18 L xs ls st a) := qa_ev_eq _ _ _ _ _ rfl
theorem ev_L_law_19 (L : Nat) (xs : Nat → Int32) (ls st : List qV) (a : qA) : qa_ev (P_L_law L xs) 19 ls st a = qa_go (P_L_law L xs) (B_L_law_19 L xs ls st a) := qa_ev_eq _ _ _ _ _ rfl
theorem ev_L_law_20 (L : Nat) (xs : Nat → Int32) (ls st : List qV) (a : qA) : qa_ev (P_L_law L xs) 20 ls st a = qa_go (P_L_law L xs) (B_L_law_20 L xs ls st a) := qa_ev_eq _ _ _ _ _ rfl
theorem ev_L_law_21 (L : Nat) (xs : Nat → Int32) (ls st : List qV) (a : qA) : qa_ev (P_L_law L xs) 21 ls st a = qa_go (P_L_law L xs) (B_L_law_21 L xs ls st a) := qa_ev_eq _ _ _ _ _ rfl
theorem ev_L_law_22 (L : Nat) (xs : Nat → Int32) (ls st : List qV) (a : qA) : qa_ev (P_L_law L xs) 22 ls st a = qa_go (P_L_law L xs) (B_L_law_22 L xs ls st a) := qa_ev_eq _ _ _ _ _ rfl
theorem ev_L_law_23 (L : Nat) (xs : Nat → Int32) (ls st : List qV) (a : qA) : qa_ev (P_L_law L xs) 23 ls st a = qa_go (P_L_law L xs) (B_L_law_23 L xs ls st a) := qa_ev_eq _ _ _ _ _ rfl
theorem ev_L_law_24 (L : Nat) (xs : Nat → Int32) (ls st : List qV) (a : qA) : qa_ev (P_L_law L xs) 24 ls st a = qa_go (P_L_law L xs) (B_L_law_24 L xs ls st a) := qa_ev_eq _ _ _ _ _ rfl
theorem ev_L_law_25 (L : Nat) (xs : Nat → Int32) (ls st : List qV) (a : qA) : qa_ev (P_L_law L xs) 25 ls st a = qa_go (P_L_law L xs) (B_L_law_25 L xs ls st a) := qa_ev_eq _ _ _ _ _ rfl
theorem ev_L_law_26 (L : Nat) (xs : Nat → Int32) (ls st : List qV) (a : qA) : qa_ev (P_L_law L xs) 26 ls st a = qa_go (P_L_law L xs) (B_L_law_26 L xs ls st a) := qa_ev_eq _ _ _ _ _ rfl
theorem ev_L_law_27 (L : Nat) (xs : Nat → Int32) (ls st : List qV) (a : qA) : qa_ev (P_L_law L xs) 27 ls st a = qa_go (P_L_law L xs) (B_L_law_27 L xs ls st a) := qa_ev_eq _ _ _ _ _ rfl
theorem ev_L_law_28 (L : Nat) (xs : Nat → Int32) (ls st : List qV) (a : qA) : qa_ev (P_L_law L xs) 28 ls st a = qa_go (P_L_law L xs) (B_L_law_28 L xs ls st a) := qa_ev_eq _ _ _ _ _ rfl
theorem ev_L_law_29 (L : Nat) (xs : Nat → Int32) (ls st : List qV) (a : qA) : qa_ev (P_L_law L xs) 29 ls st a = qa_go (P_L_law L xs) (B_L_law_29 L xs ls st a) := qa_ev_eq _ _ _ _ _ rfl
theorem ev_L_law_30 (L : Nat) (xs : Nat → Int32) (ls st : List qV) (a : qA) : qa_ev (P_L_law L xs) 30 ls st a = qa_go (P_L_law L xs) (B_L_law_30 L xs ls st a) := qa_ev_eq _ _ _ _ _ rfl
theorem ev_L_law_31 (L : Nat) (xs : Nat → Int32) (ls st : List qV) (a : qA) : qa_ev (P_L_law L xs) 31 ls st a = qa_go (P_L_law L xs) (B_L_law_31 L xs ls st a) := qa_ev_eq _ _ _ _ _ rfl
theorem ev_L_law_32 (L : Nat) (xs : Nat → Int32) (ls st : List qV) (a : qA) : qa_ev (P_L_law L xs) 32 ls st a = qa_go (P_L_law L xs) (B_L_law_32 L xs ls st a) := qa_ev_eq _ _ _ _ _ rfl
theorem ev_L_law_33 (L : Nat) (xs : Nat → Int32) (ls st : List qV) (a : qA) : qa_ev (P_L_law L xs) 33 ls st a = qa_go (P_L_law L xs) (B_L_law_33 L xs ls st a) := qa_ev_eq _ _ _ _ _ rfl
theorem ev_L_law_34 (L : Nat) (xs : Nat → Int32) (ls st : List qV) (a : qA) : qa_ev (P_L_law L xs) 34 ls st a = qa_go (P_L_law L xs) (B_L_law_34 L xs ls st a) := qa_ev_eq _ _ _ _ _ rfl
theorem ev_L_law_35 (L : Nat) (xs : Nat → Int32) (ls st : List qV) (a : qA) : qa_ev (P_L_law L xs) 35 ls st a = qa_go (P_L_law L xs) (B_L_law_35 L xs ls st a) := qa_ev_eq _ _ _ _ _ rfl
theorem ev_L_law_36 (L : Nat) (xs : Nat → Int32) (ls st : List qV) (a : qA) : qa_ev (P_L_law L xs) 36 ls st a = qa_go (P_L_law L xs) (B_L_law_36 L xs ls st a) := qa_ev_eq _ _ _ _ _ rfl
theorem ev_L_law_37 (L : Nat) (xs : Nat → Int32) (ls st : List qV) (a : qA) : qa_ev (P_L_law L xs) 37 ls st a = qa_go (P_L_law L xs) (B_L_law_37 L xs ls st a) := qa_ev_eq _ _ _ _ _ rfl
theorem ev_L_law_38 (L : Nat) (xs : Nat → Int32) (ls st : List qV) (a : qA) : qa_ev (P_L_law L xs) 38 ls st a = qa_go (P_L_law L xs) (B_L_law_38 L xs ls st a) := qa_ev_eq _ _ _ _ _ rfl
theorem ev_L_law_39 (L : Nat) (xs : Nat → Int32) (ls st : List qV) (a : qA) : qa_ev (P_L_law L xs) 39 ls st a = qa_go (P_L_law L xs) (B_L_law_39 L xs ls st a) := qa_ev_eq _ _ _ _ _ rfl
theorem ev_L_law_40 (L : Nat) (xs : Nat → Int32) (ls st : List qV) (a : qA) : qa_ev (P_L_law L xs) 40 ls st a = qa_go (P_L_law L xs) (B_L_law_40 L xs ls st a) := qa_ev_eq _ _ _ _ _ rfl
theorem ev_L_law_41 (L : Nat) (xs : Nat → Int32) (ls st : List qV) (a : qA) : qa_ev (P_L_law L xs) 41 ls st a = qa_go (P_L_law L xs) (B_L_law_41 L xs ls st a) := qa_ev_eq _ _ _ _ _ rfl
theorem ev_L_law_42 (L : Nat) (xs : Nat → Int32) (ls st : List qV) (a : qA) : qa_ev (P_L_law L xs) 42 ls st a = qa_go (P_L_law L xs) (B_L_law_42 L xs ls st a) := qa_ev_eq _ _ _ _ _ rfl
theorem ev_L_law_43 (L : Nat) (xs : Nat → Int32) (ls st : List qV) (a : qA) : qa_ev (P_L_law L xs) 43 ls st a = qa_go (P_L_law L xs) (B_L_law_43 L xs ls st a) := qa_ev_eq _ _ _ _ _ rfl
theorem ev_L_law_44 (L : Nat) (xs : Nat → Int32) (ls st : List qV) (a : qA) : qa_ev (P_L_law L xs) 44 ls st a = qa_go (P_L_law L xs) (B_L_law_44 L xs ls st a) := qa_ev_eq _ _ _ _ _ rfl
theorem ev_L_law_45 (L : Nat) (xs : Nat → Int32) (ls st : List qV) (a : qA) : qa_ev (P_L_law L xs) 45 ls st a = qa_go (P_L_law L xs) (B_L_law_45 L xs ls st a) := qa_ev_eq _ _ _ _ _ rfl
theorem ev_L_law_46 (L : Nat) (xs : Nat → Int32) (ls st : List qV) (a : qA) : qa_ev (P_L_law L xs) 46 ls st a = qa_go (P_L_law L xs) (B_L_law_46 L xs ls st a) := qa_ev_eq _ _ _ _ _ rfl
theorem ev_L_law_47 (L : Nat) (xs : Nat → Int32) (ls st : List qV) (a : qA) : qa_ev (P_L_law L xs) 47 ls st a = qa_go (P_L_law L xs) (B_L_law_47 L xs ls st a) := qa_ev_eq _ _ _ _ _ rfl
theorem ev_L_law_48 (L : Nat) (xs : Nat → Int32) (ls st : List qV) (a : qA) : qa_ev (P_L_law L xs) 48 ls st a = qa_go (P_L_law L xs) (B_L_law_48 L xs ls st a) := qa_ev_eq _ _ _ _ _ rfl
theorem ev_L_law_49 (L : Nat) (xs : Nat → Int32) (ls st : List qV) (a : qA) : qa_ev (P_L_law L xs) 49 ls st a = qa_go (P_L_law L xs) (B_L_law_49 L xs ls st a) := qa_ev_eq _ _ _ _ _ rfl
theorem ev_L_law_50 (L : Nat) (xs : Nat → Int32) (ls st : List qV) (a : qA) : qa_ev (P_L_law L xs) 50 ls st a = qa_go (P_L_law L xs) (B_L_law_50 L xs ls st a) := qa_ev_eq _ _ _ _ _ rfl
theorem ev_L_law_51 (L : Nat) (xs : Nat → Int32) (ls st : List qV) (a : qA) : qa_ev (P_L_law L xs) 51 ls st a = qa_go (P_L_law L xs) (B_L_law_51 L xs ls st a) := qa_ev_eq _ _ _ _ _ rfl
theorem ev_L_law_52 (L : Nat) (xs : Nat → Int32) (ls st : List qV) (a : qA) : qa_ev (P_L_law L xs) 52 ls st a = qa_go (P_L_law L xs) (B_L_law_52 L xs ls st a) := qa_ev_eq _ _ _ _ _ rfl
theorem ev_L_law_53 (L : Nat) (xs : Nat → Int32) (ls st : List qV) (a : qA) : qa_ev (P_L_law L xs) 53 ls st a = qa_go (P_L_law L xs) (B_L_law_53 L xs ls st a) := qa_ev_eq _ _ _ _ _ rfl
theorem ev_L_law_54 (L : Nat) (xs : Nat → Int32) (ls st : List qV) (a : qA) : qa_ev (P_L_law L xs) 54 ls st a = qa_go (P_L_law L xs) (B_L_law_54 L xs ls st a) := qa_ev_eq _ _ _ _ _ rfl
theorem ev_L_law_55 (L : Nat) (xs : Nat → Int32) (ls st : List qV) (a : qA) : qa_ev (P_L_law L xs) 55 ls st a = qa_go (P_L_law L xs) (B_L_law_55 L xs ls st a) := qa_ev_eq _ _ _ _ _ rfl
theorem ev_L_law_56 (L : Nat) (xs : Nat → Int32) (ls st : List qV) (a : qA) : qa_ev (P_L_law L xs) 56 ls st a = qa_go (P_L_law L xs) (B_L_law_56 L xs ls st a) := qa_ev_eq _ _ _ _ _ rfl
theorem ev_L_law_57 (L : Nat) (xs : Nat → Int32) (ls st : List qV) (a : qA) : qa_ev (P_L_law L xs) 57 ls st a = qa_go (P_L_law L xs) (B_L_law_57 L xs ls st a) := qa_ev_eq _ _ _ _ _ rfl
theorem ev_L_law_58 (L : Nat) (xs : Nat → Int32) (ls st : List qV) (a : qA) : qa_ev (P_L_law L xs) 58 ls st a = qa_go (P_L_law L xs) (B_L_law_58 L xs ls st a) := qa_ev_eq _ _ _ _ _ rfl
theorem ev_L_law_59 (L : Nat) (xs : Nat → Int32) (ls st : List qV) (a : qA) : qa_ev (P_L_law L xs) 59 ls st a = qa_go (P_L_law L xs) (B_L_law_59 L xs ls st a) := qa_ev_eq _ _ _ _ _ rfl
theorem ev_L_law_60 (L : Nat) (xs : Nat → Int32) (ls st : List qV) (a : qA) : qa_ev (P_L_law L xs) 60 ls st a = qa_go (P_L_law L xs) (B_L_law_60 L xs ls st a) := qa_ev_eq _ _ _ _ _ rfl
theorem ev_L_law_61 (L : Nat) (xs : Nat → Int32) (ls st : List qV) (a : qA) : qa_ev (P_L_law L xs) 61 ls st a = qa_go (P_L_law L xs) (B_L_law_61 L xs ls st a) := qa_ev_eq _ _ _ _ _ rfl
theorem ev_L_law_62 (L : Nat) (xs : Nat → Int32) (ls st : List qV) (a : qA) : qa_ev (P_L_law L xs) 62 ls st a = qa_go (P_L_law L xs) (B_L_law_62 L xs ls st a) := qa_ev_eq _ _ _ _ _ rfl
theorem ev_L_law_63 (L : Nat) (xs : Nat → Int32) (ls st : List qV) (a : qA) : qa_ev (P_L_law L xs) 63 ls st a = qa_go (P_L_law L xs) (B_L_law_63 L xs ls st a) := qa_ev_eq _ _ _ _ _ rfl
theorem ev_L_law_64 (L : Nat) (xs : Nat → Int32) (ls st : List qV) (a : qA) : qa_ev (P_L_law L xs) 64 ls st a = qa_go (P_L_law L xs) (B_L_law_64 L xs ls st a) := qa_ev_eq _ _ _ _ _ rfl
theorem ev_L_law_65 (L : Nat) (xs : Nat → Int32) (ls st : List qV) (a : qA) : qa_ev (P_L_law L xs) 65 ls st a = qa_go (P_L_law L xs) (B_L_law_65 L xs ls st a) := qa_ev_eq _ _ _ _ _ rfl
theorem ev_L_law_66 (L : Nat) (xs : Nat → Int32) (ls st : List qV) (a : qA) : qa_ev (P_L_law L xs) 66 ls st a = qa_go (P_L_law L xs) (B_L_law_66 L xs ls st a) := qa_ev_eq _ _ _ _ _ rfl
theorem ev_L_law_67 (L : Nat) (xs : Nat → Int32) (ls st : List qV) (a : qA) : qa_ev (P_L_law L xs) 67 ls st a = qa_go (P_L_law L xs) (B_L_law_67 L xs ls st a) := qa_ev_eq _ _ _ _ _ rfl
theorem ev_L_law_68 (L : Nat) (xs : Nat → Int32) (ls st : List qV) (a : qA) : qa_ev (P_L_law L xs) 68 ls st a = qa_go (P_L_law L xs) (B_L_law_68 L xs ls st a) := qa_ev_eq _ _ _ _ _ rfl
theorem ev_L_law_69 (L : Nat) (xs : Nat → Int32) (ls st : List qV) (a : qA) : qa_ev (P_L_law L xs) 69 ls st a = qa_go (P_L_law L xs) (B_L_law_69 L xs ls st a) := qa_ev_eq _ _ _ _ _ rfl
theorem ev_L_law_70 (L : Nat) (xs : Nat → Int32) (ls st : List qV) (a : qA) : qa_ev (P_L_law L xs) 70 ls st a = qa_go (P_L_law L xs) (B_L_law_70 L xs ls st a) := qa_ev_eq _ _ _ _ _ rfl
theorem ev_L_law_71 (L : Nat) (xs : Nat → Int32) (ls st : List qV) (a : qA) : qa_ev (P_L_law L xs) 71 ls st a = qa_go (P_L_law L xs) (B_L_law_71 L xs ls st a) := qa_ev_eq _ _ _ _ _ rfl
theorem ev_L_law_72 (L : Nat) (xs : Nat → Int32) (ls st : List qV) (a : qA) : qa_ev (P_L_law L xs) 72 ls st a = qa_go (P_L_law L xs) (B_L_law_72 L xs ls st a) := qa_ev_eq _ _ _ _ _ rfl
theorem ev_L_law_73 (L : Nat) (xs : Nat → Int32) (ls st : List qV) (a : qA) : qa_ev (P_L_law L xs) 73 ls st a = qa_go (P_L_law L xs) (B_L_law_73 L xs ls st a) := qa_ev_eq _ _ _ _ _ rfl
theorem ev_L_law_74 (L : Nat) (xs : Nat → Int32) (ls st : List qV) (a : qA) : qa_ev (P_L_law L xs) 74 ls st a = qa_go (P_L_law L xs) (B_L_law_74 L xs ls st a) := qa_ev_eq _ _ _ _ _ rfl
theorem ev_L_law_75 (L : Nat) (xs : Nat → Int32) (ls st : List qV) (a : qA) : qa_ev (P_L_law L xs) 75 ls st a = qa_go (P_L_law L xs) (B_L_law_75 L xs ls st a) := qa_ev_eq _ _ _ _ _ rfl
theorem ev_L_law_76 (L : Nat) (xs : Nat → Int32) (ls st : List qV) (a : qA) : qa_ev (P_L_law L xs) 76 ls st a = qa_go (P_L_law L xs) (B_L_law_76 L xs ls st a) := qa_ev_eq _ _ _ _ _ rfl
theorem ev_L_law_77 (L : Nat) (xs : Nat → Int32) (ls st : List qV) (a : qA) : qa_ev (P_L_law L xs) 77 ls st a = qa_go (P_L_law L xs) (B_L_law_77 L xs ls st a) := qa_ev_eq _ _ _ _ _ rfl
theorem ev_L_law_78 (L : Nat) (xs : Nat → Int32) (ls st : List qV) (a : qA) : qa_ev (P_L_law L xs) 78 ls st a = qa_go (P_L_law L xs) (B_L_law_78 L xs ls st a) := qa_ev_eq _ _ _ _ _ rfl
theorem ev_L_law_79 (L : Nat) (xs : Nat → Int32) (ls st : List qV) (a : qA) : qa_ev (P_L_law L xs) 79 ls st a = qa_go (P_L_law L xs) (B_L_law_79 L xs ls st a) := qa_ev_eq _ _ _ _ _ rfl
theorem ev_L_law_80 (L : Nat) (xs : Nat → Int32) (ls st : List qV) (a : qA) : qa_ev (P_L_law L xs) 80 ls st a = qa_go (P_L_law L xs) (B_L_law_80 L xs ls st a) := qa_ev_eq _ _ _ _ _ rfl
theorem ev_L_law_81 (L : Nat) (xs : Nat → Int32) (ls st : List qV) (a : qA) : qa_ev (P_L_law L xs) 81 ls st a = qa_go (P_L_law L xs) (B_L_law_81 L xs ls st a) := qa_ev_eq _ _ _ _ _ rfl
theorem ev_L_law_82 (L : Nat) (xs : Nat → Int32) (ls st : List qV) (a : qA) : qa_ev (P_L_law L xs) 82 ls st a = qa_go (P_L_law L xs) (B_L_law_82 L xs ls st a) := qa_ev_eq _ _ _ _ _ rfl
theorem ev_L_law_83 (L : Nat) (xs : Nat → Int32) (ls st : List qV) (a : qA) : qa_ev (P_L_law L xs) 83 ls st a = qa_go (P_L_law L xs) (B_L_law_83 L xs ls st a) := qa_ev_eq _ _ _ _ _ rfl
theorem ev_L_law_84 (L : Nat) (xs : Nat → Int32) (ls st : List qV) (a : qA) : qa_ev (P_L_law L xs) 84 ls st a = qa_go (P_L_law L xs) (B_L_law_84 L xs ls st a) := qa_ev_eq _ _ _ _ _ rfl
theorem ev_L_law_85 (L : Nat) (xs : Nat → Int32) (ls st : List qV) (a : qA) : qa_ev (P_L_law L xs) 85 ls st a = qa_go (P_L_law L xs) (B_L_law_85 L xs ls st a) := qa_ev_eq _ _ _ _ _ rfl
theorem ev_L_law_86 (L : Nat) (xs : Nat → Int32) (ls st : List qV) (a : qA) : qa_ev (P_L_law L xs) 86 ls st a = qa_go (P_L_law L xs) (B_L_law_86 L xs ls st a) := qa_ev_eq _ _ _ _ _ rfl
theorem ev_L_law_87 (L : Nat) (xs : Nat → Int32) (ls st : List qV) (a : qA) : qa_ev (P_L_law L xs) 87 ls st a = qa_go (P_L_law L xs) (B_L_law_87 L xs ls st a) := qa_ev_eq _ _ _ _ _ rfl
theorem ev_L_law_88 (L : Nat) (xs : Nat → Int32) (ls st : List qV) (a : qA) : qa_ev (P_L_law L xs) 88 ls st a = qa_go (P_L_law L xs) (B_L_law_88 L xs ls st a) := qa_ev_eq _ _ _ _ _ rfl
theorem ev_L_law_89 (L : Nat) (xs : Nat → Int32) (ls st : List qV) (a : qA) : qa_ev (P_L_law L xs) 89 ls st a = qa_go (P_L_law L xs) (B_L_law_89 L xs ls st a) := qa_ev_eq _ _ _ _ _ rfl
theorem ev_L_law_90 (L : Nat) (xs : Nat → Int32) (ls st : List qV) (a : qA) : qa_ev (P_L_law L xs) 90 ls st a = qa_go (P_L_law L xs) (B_L_law_90 L xs ls st a) := qa_ev_eq _ _ _ _ _ rfl
theorem ev_L_law_91 (L : Nat) (xs : Nat → Int32) (ls st : List qV) (a : qA) : qa_ev (P_L_law L xs) 91 ls st a = qa_go (P_L_law L xs) (B_L_law_91 L xs ls st a) := qa_ev_eq _ _ _ _ _ rfl
theorem ev_L_law_92 (L : Nat) (xs : Nat → Int32) (ls st : List qV) (a : qA) : qa_ev (P_L_law L xs) 92 ls st a = qa_go (P_L_law L xs) (B_L_law_92 L xs ls st a) := qa_ev_eq _ _ _ _ _ rfl
theorem ev_L_law_93 (L : Nat) (xs : Nat → Int32) (ls st : List qV) (a : qA) : qa_ev (P_L_law L xs) 93 ls st a = qa_go (P_L_law L xs) (B_L_law_93 L xs ls st a) := qa_ev_eq _ _ _ _ _ rfl
theorem ev_L_law_94 (L : Nat) (xs : Nat → Int32) (ls st : List qV) (a : qA) : qa_ev (P_L_law L xs) 94 ls st a = qa_go (P_L_law L xs) (B_L_law_94 L xs ls st a) := qa_ev_eq _ _ _ _ _ rfl
theorem ev_L_law_95 (L : Nat) (xs : Nat → Int32) (ls st : List qV) (a : qA) : qa_ev (P_L_law L xs) 95 ls st a = qa_go (P_L_law L xs) (B_L_law_95 L xs ls st a) := qa_ev_eq _ _ _ _ _ rfl
theorem ev_L_law_96 (L : Nat) (xs : Nat → Int32) (ls st : List qV) (a : qA) : qa_ev (P_L_law L xs) 96 ls st a = qa_go (P_L_law L xs) (B_L_law_96 L xs ls st a) := qa_ev_eq _ _ _ _ _ rfl
theorem ev_L_law_97 (L : Nat) (xs : Nat → Int32) (ls st : List qV) (a : qA) : qa_ev (P_L_law L xs) 97 ls st a = qa_go (P_L_law L xs) (B_L_law_97 L xs ls st a) := qa_ev_eq _ _ _ _ _ rfl
theorem ev_L_law_98 (L : Nat) (xs : Nat → Int32) (ls st : List qV) (a : qA) : qa_ev (P_L_law L xs) 98 ls st a = qa_go (P_L_law L xs) (B_L_law_98 L xs ls st a) := qa_ev_eq _ _ _ _ _ rfl
theorem ev_L_law_99 (L : Nat) (xs : Nat → Int32) (ls st : List qV) (a : qA) : qa_ev (P_L_law L xs) 99 ls st a = qa_go (P_L_law L xs) (B_L_law_99 L xs ls st a) := qa_ev_eq _ _ _ _ _ rfl
theorem ev_L_law_100 (L : Nat) (xs : Nat → Int32) (ls st : List qV) (a : qA) : qa_ev (P_L_law L xs) 100 ls st a = qa_go (P_L_law L xs) (B_L_law_100 L xs ls st a) := qa_ev_eq _ _ _ _ _ rfl
theorem ev_L_law_101 (L : Nat) (xs : Nat → Int32) (ls st : List qV) (a : qA) : qa_ev (P_L_law L xs) 101 ls st a = qa_go (P_L_law L xs) (B_L_law_101 L xs ls st a) := qa_ev_eq _ _ _ _ _ rfl
theorem ev_L_law_102 (L : Nat) (xs : Nat → Int32) (ls st : List qV) (a : qA) : qa_ev (P_L_law L xs) 102 ls st a = qa_go (P_L_law L xs) (B_L_law_102 L xs ls st a) := qa_ev_eq _ _ _ _ _ rfl
theorem ev_L_law_103 (L : Nat) (xs : Nat → Int32) (ls st : List qV) (a : qA) : qa_ev (P_L_law L xs) 103 ls st a = qa_go (P_L_law L xs) (B_L_law_103 L xs ls st a) := qa_ev_eq _ _ _ _ _ rfl
theorem ev_L_law_104 (L : Nat) (xs : Nat → Int32) (ls st : List qV) (a : qA) : qa_ev (P_L_law L xs) 104 ls st a = qa_go (P_L_law L xs) (B_L_law_104 L xs ls st a) := qa_ev_eq _ _ _ _ _ rfl
theorem ev_L_law_105 (L : Nat) (xs : Nat → Int32) (ls st : List qV) (a : qA) : qa_ev (P_L_law L xs) 105 ls st a = qa_go (P_L_law L xs) (B_L_law_105 L xs ls st a) := qa_ev_eq _ _ _ _ _ rfl
theorem ev_L_law_106 (L : Nat) (xs : Nat → Int32) (ls st : List qV) (a : qA) : qa_ev (P_L_law L xs) 106 ls st a = qa_go (P_L_law L xs) (B_L_law_106 L xs ls st a) := qa_ev_eq _ _ _ _ _ rfl
theorem ev_L_law_107 (L : Nat) (xs : Nat → Int32) (ls st : List qV) (a : qA) : qa_ev (P_L_law L xs) 107 ls st a = qa_go (P_L_law L xs) (B_L_law_107 L xs ls st a) := qa_ev_eq _ _ _ _ _ rfl
theorem ev_L_law_108 (L : Nat) (xs : Nat → Int32) (ls st : List qV) (a : qA) : qa_ev (P_L_law L xs) 108 ls st a = qa_go (P_L_law L xs) (B_L_law_108 L xs ls st a) := qa_ev_eq _ _ _ _ _ rfl
theorem ev_L_law_109 (L : Nat) (xs : Nat → Int32) (ls st : List qV) (a : qA) : qa_ev (P_L_law L xs) 109 ls st a = qa_go (P_L_law L xs) (B_L_law_109 L xs ls st a) := qa_ev_eq _ _ _ _ _ rfl
theorem ev_L_law_110 (L : Nat) (xs : Nat → Int32) (ls st : List qV) (a : qA) : qa_ev (P_L_law L xs) 110 ls st a = qa_go (P_L_law L xs) (B_L_law_110 L xs ls st a) := qa_ev_eq _ _ _ _ _ rfl
theorem ev_L_law_111 (L : Nat) (xs : Nat → Int32) (ls st : List qV) (a : qA) : qa_ev (P_L_law L xs) 111 ls st a = qa_go (P_L_law L xs) (B_L_law_111 L xs ls st a) := qa_ev_eq _ _ _ _ _ rfl
theorem ev_L_law_112 (L : Nat) (xs : Nat → Int32) (ls st : List qV) (a : qA) : qa_ev (P_L_law L xs) 112 ls st a = qa_go (P_L_law L xs) (B_L_law_112 L xs ls st a) := qa_ev_eq _ _ _ _ _ rfl
theorem ev_L_law_113 (L : Nat) (xs : Nat → Int32) (ls st : List qV) (a : qA) : qa_ev (P_L_law L xs) 113 ls st a = qa_go (P_L_law L xs) (B_L_law_113 L xs ls st a) := qa_ev_eq _ _ _ _ _ rfl
theorem ev_L_law_114 (L : Nat) (xs : Nat → Int32) (ls st : List qV) (a : qA) : qa_ev (P_L_law L xs) 114 ls st a = qa_go (P_L_law L xs) (B_L_law_114 L xs ls st a) := qa_ev_eq _ _ _ _ _ rfl
theorem ev_L_law_115 (L : Nat) (xs : Nat → Int32) (ls st : List qV) (a : qA) : qa_ev (P_L_law L xs) 115 ls st a = qa_go (P_L_law L xs) (B_L_law_115 L xs ls st a) := qa_ev_eq _ _ _ _ _ rfl
theorem ev_L_law_116 (L : Nat) (xs : Nat → Int32) (ls st : List qV) (a : qA) : qa_ev (P_L_law L xs) 116 ls st a = qa_go (P_L_law L xs) (B_L_law_116 L xs ls st a) := qa_ev_eq _ _ _ _ _ rfl
theorem ev_L_law_117 (L : Nat) (xs : Nat → Int32) (ls st : List qV) (a : qA) : qa_ev (P_L_law L xs) 117 ls st a = qa_go (P_L_law L xs) (B_L_law_117 L xs ls st a) := qa_ev_eq _ _ _ _ _ rfl
theorem ev_L_law_118 (L : Nat) (xs : Nat → Int32) (ls st : List qV) (a : qA) : qa_ev (P_L_law L xs) 118 ls st a = qa_go (P_L_law L xs) (B_L_law_118 L xs ls st a) := qa_ev_eq _ _ _ _ _ rfl
theorem ev_L_law_119 (L : Nat) (xs : Nat → Int32) (ls st : List qV) (a : qA) : qa_ev (P_L_law L xs) 119 ls st a = qa_go (P_L_law L xs) (B_L_law_119 L xs ls st a) := qa_ev_eq _ _ _ _ _ rfl
theorem ev_L_law_120 (L : Nat) (xs : Nat → Int32) (ls st : List qV) (a : qA) : qa_ev (P_L_law L xs) 120 ls st a = qa_go (P_L_law L xs) (B_L_law_120 L xs ls st a) := qa_ev_eq _ _ _ _ _ rfl
theorem ev_L_law_121 (L : Nat) (xs : Nat → Int32) (ls st : List qV) (a : qA) : qa_ev (P_L_law L xs) 121 ls st a = qa_go (P_L_law L xs) (B_L_law_121 L xs ls st a) := qa_ev_eq _ _ _ _ _ rfl
theorem ev_L_law_122 (L : Nat) (xs : Nat → Int32) (ls st : List qV) (a : qA) : qa_ev (P_L_law L xs) 122 ls st a = qa_go (P_L_law L xs) (B_L_law_122 L xs ls st a) := qa_ev_eq _ _ _ _ _ rfl
theorem ev_L_law_123 (L : Nat) (xs : Nat → Int32) (ls st : List qV) (a : qA) : qa_ev (P_L_law L xs) 123 ls st a = qa_go (P_L_law L xs) (B_L_law_123 L xs ls st a) := qa_ev_eq _ _ _ _ _ rfl
theorem ev_L_law_124 (L : Nat) (xs : Nat → Int32) (ls st : List qV) (a : qA) : qa_ev (P_L_law L xs) 124 ls st a = qa_go (P_L_law L xs) (B_L_law_124 L xs ls st a) := qa_ev_eq _ _ _ _ _ rfl
theorem ev_L_law_125 (L : Nat) (xs : Nat → Int32) (ls st : List qV) (a : qA) : qa_ev (P_L_law L xs) 125 ls st a = qa_go (P_L_law L xs) (B_L_law_125 L xs ls st a) := qa_ev_eq _ _ _ _ _ rfl
theorem ev_L_law_126 (L : Nat) (xs : Nat → Int32) (ls st : List qV) (a : qA) : qa_ev (P_L_law L xs) 126 ls st a = qa_go (P_L_law L xs) (B_L_law_126 L xs ls st a) := qa_ev_eq _ _ _ _ _ rfl
theorem ev_L_law_127 (L : Nat) (xs : Nat → Int32) (ls st : List qV) (a : qA) : qa_ev (P_L_law L xs) 127 ls st a = qa_go (P_L_law L xs) (B_L_law_127 L xs ls st a) := qa_ev_eq _ _ _ _ _ rfl
theorem ev_L_law_128 (L : Nat) (xs : Nat → Int32) (ls st : List qV) (a : qA) : qa_ev (P_L_law L xs) 128 ls st a = qa_go (P_L_law L xs) (B_L_law_128 L xs ls st a) := qa_ev_eq _ _ _ _ _ rfl
theorem ev_L_law_129 (L : Nat) (xs : Nat → Int32) (ls st : List qV) (a : qA) : qa_ev (P_L_law L xs) 129 ls st a = qa_go (P_L_law L xs) (B_L_law_129 L xs ls st a) := qa_ev_eq _ _ _ _ _ rfl
theorem ev_L_law_130 (L : Nat) (xs : Nat → Int32) (ls st : List qV) (a : qA) : qa_ev (P_L_law L xs) 130 ls st a = qa_go (P_L_law L xs) (B_L_law_130 L xs ls st a) := qa_ev_eq _ _ _ _ _ rfl
theorem ev_L_law_131 (L : Nat) (xs : Nat → Int32) (ls st : List qV) (a : qA) : qa_ev (P_L_law L xs) 131 ls st a = qa_go (P_L_law L xs) (B_L_law_131 L xs ls st a) := qa_ev_eq _ _ _ _ _ rfl
theorem ev_L_law_132 (L : Nat) (xs : Nat → Int32) (ls st : List qV) (a : qA) : qa_ev (P_L_law L xs) 132 ls st a = qa_go (P_L_law L xs) (B_L_law_132 L xs ls st a) := qa_ev_eq _ _ _ _ _ rfl
theorem ev_L_law_133 (L : Nat) (xs : Nat → Int32) (ls st : List qV) (a : qA) : qa_ev (P_L_law L xs) 133 ls st a = qa_go (P_L_law L xs) (B_L_law_133 L xs ls st a) := qa_ev_eq _ _ _ _ _ rfl
theorem ev_L_law_134 (L : Nat) (xs : Nat → Int32) (ls st : List qV) (a : qA) : qa_ev (P_L_law L xs) 134 ls st a = qa_go (P_L_law L xs) (B_L_law_134 L xs ls st a) := qa_ev_eq _ _ _ _ _ rfl
theorem ev_L_law_135 (L : Nat) (xs : Nat → Int32) (ls st : List qV) (a : qA) : qa_ev (P_L_law L xs) 135 ls st a = qa_go (P_L_law L xs) (B_L_law_135 L xs ls st a) := qa_ev_eq _ _ _ _ _ rfl
theorem ev_L_law_136 (L : Nat) (xs : Nat → Int32) (ls st : List qV) (a : qA) : qa_ev (P_L_law L xs) 136 ls st a = qa_go (P_L_law L xs) (B_L_law_136 L xs ls st a) := qa_ev_eq _ _ _ _ _ rfl
theorem ev_L_law_137 (L : Nat) (xs : Nat → Int32) (ls st : List qV) (a : qA) : qa_ev (P_L_law L xs) 137 ls st a = qa_go (P_L_law L xs) (B_L_law_137 L xs ls st a) := qa_ev_eq _ _ _ _ _ rfl
theorem ev_L_law_138 (L : Nat) (xs : Nat → Int32) (ls st : List qV) (a : qA) : qa_ev (P_L_law L xs) 138 ls st a = qa_go (P_L_law L xs) (B_L_law_138 L xs ls st a) := qa_ev_eq _ _ _ _ _ rfl
theorem ev_L_law_139 (L : Nat) (xs : Nat → Int32) (ls st : List qV) (a : qA) : qa_ev (P_L_law L xs) 139 ls st a = qa_go (P_L_law L xs) (B_L_law_139 L xs ls st a) := qa_ev_eq _ _ _ _ _ rfl
theorem ev_L_law_140 (L : Nat) (xs : Nat → Int32) (ls st : List qV) (a : qA) : qa_ev (P_L_law L xs) 140 ls st a = qa_go (P_L_law L xs) (B_L_law_140 L xs ls st a) := qa_ev_eq _ _ _ _ _ rfl
