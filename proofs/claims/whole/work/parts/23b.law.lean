noncomputable def B_L_appendText_0 : qI := q_load 1 2 (q_const (0, 0) (q_load 1 0 (q_load 0 1 (q_callh 13 f_X11_appendText 2 [(3, 1, 3)] (q_i2l (q_ast 105 2 (q_goto 2)))))))
noncomputable def B_L_appendText_1 : qI := q_const (0, 1) (q_ret 0)
noncomputable def B_L_appendText_2 : qI := q_const (0, 0) (q_ret 0)
noncomputable def P_L_appendText : qP := [B_L_appendText_0, B_L_appendText_1, B_L_appendText_2]
noncomputable def f_L_appendText : List qV → qA → Option qR := qa_fn P_L_appendText 4
def pc_L_appendText : Nat → Nat := fun j => [0, 13, 15].getD j 0
set_option maxRecDepth 100000 in
set_option maxHeartbeats 4000000 in
theorem kon_L_appendText (l : Launch) (hl : l.stackTraces = false) : qa_ConH l yL_appendText cL_appendText 4 (some .int) [(0, 9, 12, 13)] 9 141 f_L_appendText :=
  qa_methodH (pcs := pc_L_appendText) (by decide +kernel) rfl (fun C hr hn htab j f hj => by
    match j, hj with
    | 0, hj => obtain rfl := Option.some.inj hj; exact ok_aload_n C rfl dL_appendText_0 (ok_iconst C (by decide) dL_appendText_1 (ok_aload_n C rfl dL_appendText_2 (ok_iload_n C rfl dL_appendText_3 (ok_callh C htab rfl (by decide) (kon_X11_appendText l hl) (List.forall_mem_cons.mpr ⟨⟨[], ⟨0, 9, 12, 13⟩, [], rfl, fun z hz => nomatch hz, by decide, by decide, wd_977, by decide +kernel, by decide, Or.inl ⟨3, dL_appendText_12, rfl, rfl⟩⟩, fun _ h => absurd h List.not_mem_nil⟩) (qa_wl [978, 979, 980, 72, 981] (by decide +kernel) (by decide +kernel)) ⟨rfl, by decide +kernel, by decide +kernel, by decide +kernel⟩ ⟨Nat.le_of_ble_eq_true rfl, Nat.le_of_ble_eq_true rfl⟩ dL_appendText_4 (ok_i2l C dL_appendText_7 (ok_lastore C dL_appendText_8 (ok_goto C dL_appendText_9 (by decide))))))))
    | 1, hj => obtain rfl := Option.some.inj hj; exact ok_iconst C (by decide) dL_appendText_13 (ok_iret C hr dL_appendText_14)
    | 2, hj => obtain rfl := Option.some.inj hj; exact ok_iconst C (by decide) dL_appendText_15 (ok_iret C hr dL_appendText_16)
    | (_ + 3), hj => exact nomatch hj)
noncomputable def B_L_truncateText_0 : qI := q_load 1 2 (q_const (0, 0) (q_load 1 0 (q_load 0 1 (q_callh 13 f_X11_truncateText 2 [(2, 1, 3)] (q_i2l (q_ast 105 2 (q_goto 2)))))))
noncomputable def B_L_truncateText_1 : qI := q_const (0, 1) (q_ret 0)
noncomputable def B_L_truncateText_2 : qI := q_const (0, 0) (q_ret 0)
noncomputable def P_L_truncateText : qP := [B_L_truncateText_0, B_L_truncateText_1, B_L_truncateText_2]
noncomputable def f_L_truncateText : List qV → qA → Option qR := qa_fn P_L_truncateText 4
def pc_L_truncateText : Nat → Nat := fun j => [0, 13, 15].getD j 0
set_option maxRecDepth 100000 in
set_option maxHeartbeats 4000000 in
theorem kon_L_truncateText (l : Launch) (hl : l.stackTraces = false) : qa_ConH l yL_truncateText cL_truncateText 4 (some .int) [(0, 9, 12, 18)] 10 163 f_L_truncateText :=
  qa_methodH (pcs := pc_L_truncateText) (by decide +kernel) rfl (fun C hr hn htab j f hj => by
    match j, hj with
    | 0, hj => obtain rfl := Option.some.inj hj; exact ok_aload_n C rfl dL_truncateText_0 (ok_iconst C (by decide) dL_truncateText_1 (ok_aload_n C rfl dL_truncateText_2 (ok_iload_n C rfl dL_truncateText_3 (ok_callh C htab rfl (by decide) (kon_X11_truncateText l hl) (List.forall_mem_cons.mpr ⟨⟨[], ⟨0, 9, 12, 18⟩, [], rfl, fun z hz => nomatch hz, by decide, by decide, wd_1008, by decide +kernel, by decide, Or.inl ⟨3, dL_truncateText_12, rfl, rfl⟩⟩, fun _ h => absurd h List.not_mem_nil⟩) (qa_wl [1009, 1010, 1011, 72, 1012] (by decide +kernel) (by decide +kernel)) ⟨rfl, by decide +kernel, by decide +kernel, by decide +kernel⟩ ⟨Nat.le_of_ble_eq_true rfl, Nat.le_of_ble_eq_true rfl⟩ dL_truncateText_4 (ok_i2l C dL_truncateText_7 (ok_lastore C dL_truncateText_8 (ok_goto C dL_truncateText_9 (by decide))))))))
    | 1, hj => obtain rfl := Option.some.inj hj; exact ok_iconst C (by decide) dL_truncateText_13 (ok_iret C hr dL_truncateText_14)
    | 2, hj => obtain rfl := Option.some.inj hj; exact ok_iconst C (by decide) dL_truncateText_15 (ok_iret C hr dL_truncateText_16)
    | (_ + 3), hj => exact nomatch hj)
noncomputable def B_L_set_0 : qI := q_load 1 3 (q_const (0, 0) (q_load 1 0 (q_load 0 1 (q_load 0 2 (q_callh 13 f_X11_set 3 [(2, 1, 4)] (q_i2l (q_ast 105 2 (q_goto 2))))))))
noncomputable def B_L_set_1 : qI := q_const (0, 1) (q_ret 0)
noncomputable def B_L_set_2 : qI := q_const (0, 0) (q_ret 0)
noncomputable def P_L_set : qP := [B_L_set_0, B_L_set_1, B_L_set_2]
noncomputable def f_L_set : List qV → qA → Option qR := qa_fn P_L_set 5
def pc_L_set : Nat → Nat := fun j => [0, 15, 17].getD j 0
set_option maxRecDepth 100000 in
set_option maxHeartbeats 4000000 in
theorem kon_L_set (l : Launch) (hl : l.stackTraces = false) : qa_ConH l yL_set cL_set 5 (some .int) [(0, 10, 13, 18)] 10 165 f_L_set :=
  qa_methodH (pcs := pc_L_set) (by decide +kernel) rfl (fun C hr hn htab j f hj => by
    match j, hj with
    | 0, hj => obtain rfl := Option.some.inj hj; exact ok_aload_n C rfl dL_set_0 (ok_iconst C (by decide) dL_set_1 (ok_aload_n C rfl dL_set_2 (ok_iload_n C rfl dL_set_3 (ok_iload_n C rfl dL_set_4 (ok_callh C htab rfl (by decide) (kon_X11_set l hl) (List.forall_mem_cons.mpr ⟨⟨[], ⟨0, 10, 13, 18⟩, [], rfl, fun z hz => nomatch hz, by decide, by decide, wd_1008, by decide +kernel, by decide, Or.inr ⟨dL_set_13, rfl⟩⟩, fun _ h => absurd h List.not_mem_nil⟩) (qa_wl [1016, 1017, 1018, 72, 1019] (by decide +kernel) (by decide +kernel)) ⟨rfl, by decide +kernel, by decide +kernel, by decide +kernel⟩ ⟨Nat.le_of_ble_eq_true rfl, Nat.le_of_ble_eq_true rfl⟩ dL_set_5 (ok_i2l C dL_set_8 (ok_lastore C dL_set_9 (ok_goto C dL_set_10 (by decide)))))))))
    | 1, hj => obtain rfl := Option.some.inj hj; exact ok_iconst C (by decide) dL_set_15 (ok_iret C hr dL_set_16)
    | 2, hj => obtain rfl := Option.some.inj hj; exact ok_iconst C (by decide) dL_set_17 (ok_iret C hr dL_set_18)
    | (_ + 3), hj => exact nomatch hj)
noncomputable def B_L_count_0 : qI := q_load 1 2 (q_const (0, 0) (q_load 1 0 (q_load 0 1 (q_callh 13 f_X11_count 2 [(2, 1, 3)] (q_i2l (q_ast 105 2 (q_goto 2)))))))
noncomputable def B_L_count_1 : qI := q_const (0, 1) (q_ret 0)
noncomputable def B_L_count_2 : qI := q_const (0, 0) (q_ret 0)
noncomputable def P_L_count : qP := [B_L_count_0, B_L_count_1, B_L_count_2]
noncomputable def f_L_count : List qV → qA → Option qR := qa_fn P_L_count 4
def pc_L_count : Nat → Nat := fun j => [0, 13, 15].getD j 0
set_option maxRecDepth 100000 in
set_option maxHeartbeats 4000000 in
theorem kon_L_count (l : Launch) (hl : l.stackTraces = false) : qa_ConH l yL_count cL_count 4 (some .int) [(0, 9, 12, 18)] 10 163 f_L_count :=
  qa_methodH (pcs := pc_L_count) (by decide +kernel) rfl (fun C hr hn htab j f hj => by
    match j, hj with
    | 0, hj => obtain rfl := Option.some.inj hj; exact ok_aload_n C rfl dL_count_0 (ok_iconst C (by decide) dL_count_1 (ok_aload_n C rfl dL_count_2 (ok_iload_n C rfl dL_count_3 (ok_callh C htab rfl (by decide) (kon_X11_count l hl) (List.forall_mem_cons.mpr ⟨⟨[], ⟨0, 9, 12, 18⟩, [], rfl, fun z hz => nomatch hz, by decide, by decide, wd_1008, by decide +kernel, by decide, Or.inl ⟨3, dL_count_12, rfl, rfl⟩⟩, fun _ h => absurd h List.not_mem_nil⟩) (qa_wl [1039, 1040, 1041, 72, 1042] (by decide +kernel) (by decide +kernel)) ⟨rfl, by decide +kernel, by decide +kernel, by decide +kernel⟩ ⟨Nat.le_of_ble_eq_true rfl, Nat.le_of_ble_eq_true rfl⟩ dL_count_4 (ok_i2l C dL_count_7 (ok_lastore C dL_count_8 (ok_goto C dL_count_9 (by decide))))))))
    | 1, hj => obtain rfl := Option.some.inj hj; exact ok_iconst C (by decide) dL_count_13 (ok_iret C hr dL_count_14)
    | 2, hj => obtain rfl := Option.some.inj hj; exact ok_iconst C (by decide) dL_count_15 (ok_iret C hr dL_count_16)
    | (_ + 3), hj => exact nomatch hj)
noncomputable def B_L_branch_0 : qI := q_load 1 3 (q_const (0, 0) (q_load 1 0 (q_load 0 1 (q_load 0 2 (q_callh 13 f_X11_branch 3 [(1, 1, 4), (2, 2, 4)] (q_i2l (q_ast 105 2 (q_goto 3))))))))
noncomputable def B_L_branch_1 : qI := q_const (0, 1) (q_ret 0)
noncomputable def B_L_branch_2 : qI := q_const (0, 2) (q_ret 0)
noncomputable def B_L_branch_3 : qI := q_const (0, 0) (q_ret 0)
noncomputable def P_L_branch : qP := [B_L_branch_0, B_L_branch_1, B_L_branch_2, B_L_branch_3]
noncomputable def f_L_branch : List qV → qA → Option qR := qa_fn P_L_branch 5
def pc_L_branch : Nat → Nat := fun j => [0, 15, 19, 21].getD j 0
set_option maxRecDepth 100000 in
set_option maxHeartbeats 4000000 in
theorem kon_L_branch (l : Launch) (hl : l.stackTraces = false) : qa_ConH l yL_branch cL_branch 5 (some .int) [(0, 10, 13, 30), (0, 10, 17, 18)] 10 165 f_L_branch :=
  qa_methodH (pcs := pc_L_branch) (by decide +kernel) rfl (fun C hr hn htab j f hj => by
    match j, hj with
    | 0, hj => obtain rfl := Option.some.inj hj; exact ok_aload_n C rfl dL_branch_0 (ok_iconst C (by decide) dL_branch_1 (ok_aload_n C rfl dL_branch_2 (ok_iload_n C rfl dL_branch_3 (ok_iload_n C rfl dL_branch_4 (ok_callh C htab rfl (by decide) (kon_X11_branch l hl) (List.forall_mem_cons.mpr ⟨⟨[], ⟨0, 10, 13, 30⟩, [⟨0, 10, 17, 18⟩], rfl, fun z hz => nomatch hz, by decide, by decide, wd_1058, by decide +kernel, by decide, Or.inr ⟨dL_branch_13, rfl⟩⟩, List.forall_mem_cons.mpr ⟨⟨[⟨0, 10, 13, 30⟩], ⟨0, 10, 17, 18⟩, [], rfl, fun z hz => (List.mem_singleton.mp hz) ▸ ⟨by decide, "java/lang/IndexOutOfBoundsException", wd_1058, by decide +kernel⟩, by decide, by decide, wd_1008, by decide +kernel, by decide, Or.inr ⟨dL_branch_17, rfl⟩⟩, fun _ h => absurd h List.not_mem_nil⟩⟩) (qa_wl [1059, 1060, 1061, 72, 1062] (by decide +kernel) (by decide +kernel)) ⟨rfl, by decide +kernel, by decide +kernel, by decide +kernel⟩ ⟨Nat.le_of_ble_eq_true rfl, Nat.le_of_ble_eq_true rfl⟩ dL_branch_5 (ok_i2l C dL_branch_8 (ok_lastore C dL_branch_9 (ok_goto C dL_branch_10 (by decide)))))))))
    | 1, hj => obtain rfl := Option.some.inj hj; exact ok_iconst C (by decide) dL_branch_15 (ok_iret C hr dL_branch_16)
    | 2, hj => obtain rfl := Option.some.inj hj; exact ok_iconst C (by decide) dL_branch_19 (ok_iret C hr dL_branch_20)
    | 3, hj => obtain rfl := Option.some.inj hj; exact ok_iconst C (by decide) dL_branch_21 (ok_iret C hr dL_branch_22)
    | (_ + 4), hj => exact nomatch hj)
noncomputable def B_L_entry_0 : qI := q_load 1 4 (q_const (0, 0) (q_load 1 0 (q_load 0 1 (q_load 0 2 (q_load 0 3 (q_callh 13 f_X11_entry 4 [(1, 1, 5), (2, 2, 5)] (q_i2l (q_ast 105 2 (q_goto 3)))))))))
noncomputable def B_L_entry_1 : qI := q_const (0, 1) (q_ret 0)
noncomputable def B_L_entry_2 : qI := q_const (0, 2) (q_ret 0)
noncomputable def B_L_entry_3 : qI := q_const (0, 0) (q_ret 0)
noncomputable def P_L_entry : qP := [B_L_entry_0, B_L_entry_1, B_L_entry_2, B_L_entry_3]
noncomputable def f_L_entry : List qV → qA → Option qR := qa_fn P_L_entry 6
def pc_L_entry : Nat → Nat := fun j => [0, 17, 21, 23].getD j 0
set_option maxRecDepth 100000 in
set_option maxHeartbeats 4000000 in
theorem kon_L_entry (l : Launch) (hl : l.stackTraces = false) : qa_ConH l yL_entry cL_entry 6 (some .int) [(0, 12, 15, 30), (0, 12, 19, 18)] 10 167 f_L_entry :=
  qa_methodH (pcs := pc_L_entry) (by decide +kernel) rfl (fun C hr hn htab j f hj => by
    match j, hj with
    | 0, hj => obtain rfl := Option.some.inj hj; exact ok_aload C dL_entry_0 (ok_iconst C (by decide) dL_entry_2 (ok_aload_n C rfl dL_entry_3 (ok_iload_n C rfl dL_entry_4 (ok_iload_n C rfl dL_entry_5 (ok_iload_n C rfl dL_entry_6 (ok_callh C htab rfl (by decide) (kon_X11_entry l hl) (List.forall_mem_cons.mpr ⟨⟨[], ⟨0, 12, 15, 30⟩, [⟨0, 12, 19, 18⟩], rfl, fun z hz => nomatch hz, by decide, by decide, wd_1058, by decide +kernel, by decide, Or.inr ⟨dL_entry_15, rfl⟩⟩, List.forall_mem_cons.mpr ⟨⟨[⟨0, 12, 15, 30⟩], ⟨0, 12, 19, 18⟩, [], rfl, fun z hz => (List.mem_singleton.mp hz) ▸ ⟨by decide, "java/lang/IndexOutOfBoundsException", wd_1058, by decide +kernel⟩, by decide, by decide, wd_1008, by decide +kernel, by decide, Or.inr ⟨dL_entry_19, rfl⟩⟩, fun _ h => absurd h List.not_mem_nil⟩⟩) (qa_wl [1066, 1067, 1068, 72, 1069] (by decide +kernel) (by decide +kernel)) ⟨rfl, by decide +kernel, by decide +kernel, by decide +kernel⟩ ⟨Nat.le_of_ble_eq_true rfl, Nat.le_of_ble_eq_true rfl⟩ dL_entry_7 (ok_i2l C dL_entry_10 (ok_lastore C dL_entry_11 (ok_goto C dL_entry_12 (by decide))))))))))
    | 1, hj => obtain rfl := Option.some.inj hj; exact ok_iconst C (by decide) dL_entry_17 (ok_iret C hr dL_entry_18)
    | 2, hj => obtain rfl := Option.some.inj hj; exact ok_iconst C (by decide) dL_entry_21 (ok_iret C hr dL_entry_22)
    | 3, hj => obtain rfl := Option.some.inj hj; exact ok_iconst C (by decide) dL_entry_23 (ok_iret C hr dL_entry_24)
    | (_ + 4), hj => exact nomatch hj)
noncomputable def B_L_reader_0 : qI := q_load 1 3 (q_const (0, 0) (q_load 1 0 (q_load 0 1 (q_load 0 2 (q_callh 13 f_X11_reader 3 [(1, 1, 4), (2, 2, 4)] (q_i2l (q_ast 105 2 (q_goto 3))))))))
noncomputable def B_L_reader_1 : qI := q_const (0, 1) (q_ret 0)
noncomputable def B_L_reader_2 : qI := q_const (0, 2) (q_ret 0)
noncomputable def B_L_reader_3 : qI := q_const (0, 0) (q_ret 0)
noncomputable def P_L_reader : qP := [B_L_reader_0, B_L_reader_1, B_L_reader_2, B_L_reader_3]
noncomputable def f_L_reader : List qV → qA → Option qR := qa_fn P_L_reader 5
def pc_L_reader : Nat → Nat := fun j => [0, 15, 19, 21].getD j 0
set_option maxRecDepth 100000 in
set_option maxHeartbeats 4000000 in
theorem kon_L_reader (l : Launch) (hl : l.stackTraces = false) : qa_ConH l yL_reader cL_reader 5 (some .int) [(0, 10, 13, 30), (0, 10, 17, 18)] 10 166 f_L_reader :=
  qa_methodH (pcs := pc_L_reader) (by decide +kernel) rfl (fun C hr hn htab j f hj => by
    match j, hj with
    | 0, hj => obtain rfl := Option.some.inj hj; exact ok_aload_n C rfl dL_reader_0 (ok_iconst C (by decide) dL_reader_1 (ok_aload_n C rfl dL_reader_2 (ok_iload_n C rfl dL_reader_3 (ok_iload_n C rfl dL_reader_4 (ok_callh C htab rfl (by decide) (kon_X11_reader l hl) (List.forall_mem_cons.mpr ⟨⟨[], ⟨0, 10, 13, 30⟩, [⟨0, 10, 17, 18⟩], rfl, fun z hz => nomatch hz, by decide, by decide, wd_1058, by decide +kernel, by decide, Or.inr ⟨dL_reader_13, rfl⟩⟩, List.forall_mem_cons.mpr ⟨⟨[⟨0, 10, 13, 30⟩], ⟨0, 10, 17, 18⟩, [], rfl, fun z hz => (List.mem_singleton.mp hz) ▸ ⟨by decide, "java/lang/IndexOutOfBoundsException", wd_1058, by decide +kernel⟩, by decide, by decide, wd_1008, by decide +kernel, by decide, Or.inr ⟨dL_reader_17, rfl⟩⟩, fun _ h => absurd h List.not_mem_nil⟩⟩) (qa_wl [1074, 1075, 1076, 72, 1077] (by decide +kernel) (by decide +kernel)) ⟨rfl, by decide +kernel, by decide +kernel, by decide +kernel⟩ ⟨Nat.le_of_ble_eq_true rfl, Nat.le_of_ble_eq_true rfl⟩ dL_reader_5 (ok_i2l C dL_reader_8 (ok_lastore C dL_reader_9 (ok_goto C dL_reader_10 (by decide)))))))))
    | 1, hj => obtain rfl := Option.some.inj hj; exact ok_iconst C (by decide) dL_reader_15 (ok_iret C hr dL_reader_16)
    | 2, hj => obtain rfl := Option.some.inj hj; exact ok_iconst C (by decide) dL_reader_19 (ok_iret C hr dL_reader_20)
    | 3, hj => obtain rfl := Option.some.inj hj; exact ok_iconst C (by decide) dL_reader_21 (ok_iret C hr dL_reader_22)
    | (_ + 4), hj => exact nomatch hj)
noncomputable def B_L_debt_0 : qI := q_load 1 3 (q_const (0, 0) (q_load 1 0 (q_load 0 1 (q_load 0 2 (q_callh 13 f_X11_debt 3 [(1, 1, 4), (2, 2, 4)] (q_i2l (q_ast 105 2 (q_goto 3))))))))
noncomputable def B_L_debt_1 : qI := q_const (0, 1) (q_ret 0)
noncomputable def B_L_debt_2 : qI := q_const (0, 2) (q_ret 0)
noncomputable def B_L_debt_3 : qI := q_const (0, 0) (q_ret 0)
noncomputable def P_L_debt : qP := [B_L_debt_0, B_L_debt_1, B_L_debt_2, B_L_debt_3]
noncomputable def f_L_debt : List qV → qA → Option qR := qa_fn P_L_debt 5
def pc_L_debt : Nat → Nat := fun j => [0, 15, 19, 21].getD j 0
set_option maxRecDepth 100000 in
set_option maxHeartbeats 4000000 in
theorem kon_L_debt (l : Launch) (hl : l.stackTraces = false) : qa_ConH l yL_debt cL_debt 5 (some .int) [(0, 10, 13, 30), (0, 10, 17, 18)] 10 165 f_L_debt :=
  qa_methodH (pcs := pc_L_debt) (by decide +kernel) rfl (fun C hr hn htab j f hj => by
    match j, hj with
    | 0, hj => obtain rfl := Option.some.inj hj; exact ok_aload_n C rfl dL_debt_0 (ok_iconst C (by decide) dL_debt_1 (ok_aload_n C rfl dL_debt_2 (ok_iload_n C rfl dL_debt_3 (ok_iload_n C rfl dL_debt_4 (ok_callh C htab rfl (by decide) (kon_X11_debt l hl) (List.forall_mem_cons.mpr ⟨⟨[], ⟨0, 10, 13, 30⟩, [⟨0, 10, 17, 18⟩], rfl, fun z hz => nomatch hz, by decide, by decide, wd_1058, by decide +kernel, by decide, Or.inr ⟨dL_debt_13, rfl⟩⟩, List.forall_mem_cons.mpr ⟨⟨[⟨0, 10, 13, 30⟩], ⟨0, 10, 17, 18⟩, [], rfl, fun z hz => (List.mem_singleton.mp hz) ▸ ⟨by decide, "java/lang/IndexOutOfBoundsException", wd_1058, by decide +kernel⟩, by decide, by decide, wd_1008, by decide +kernel, by decide, Or.inr ⟨dL_debt_17, rfl⟩⟩, fun _ h => absurd h List.not_mem_nil⟩⟩) (qa_wl [1087, 1088, 1089, 72, 1090] (by decide +kernel) (by decide +kernel)) ⟨rfl, by decide +kernel, by decide +kernel, by decide +kernel⟩ ⟨Nat.le_of_ble_eq_true rfl, Nat.le_of_ble_eq_true rfl⟩ dL_debt_5 (ok_i2l C dL_debt_8 (ok_lastore C dL_debt_9 (ok_goto C dL_debt_10 (by decide)))))))))
    | 1, hj => obtain rfl := Option.some.inj hj; exact ok_iconst C (by decide) dL_debt_15 (ok_iret C hr dL_debt_16)
    | 2, hj => obtain rfl := Option.some.inj hj; exact ok_iconst C (by decide) dL_debt_19 (ok_iret C hr dL_debt_20)
    | 3, hj => obtain rfl := Option.some.inj hj; exact ok_iconst C (by decide) dL_debt_21 (ok_iret C hr dL_debt_22)
    | (_ + 4), hj => exact nomatch hj)
noncomputable def B_L_debtOf_0 : qI := q_load 1 3 (q_const (0, 0) (q_load 1 0 (q_load 0 1 (q_load 0 2 (q_callh 13 f_X11_debtOf 3 [(1, 1, 4), (2, 2, 4)] (q_i2l (q_ast 105 2 (q_goto 3))))))))
noncomputable def B_L_debtOf_1 : qI := q_const (0, 1) (q_ret 0)
noncomputable def B_L_debtOf_2 : qI := q_const (0, 2) (q_ret 0)
noncomputable def B_L_debtOf_3 : qI := q_const (0, 0) (q_ret 0)
noncomputable def P_L_debtOf : qP := [B_L_debtOf_0, B_L_debtOf_1, B_L_debtOf_2, B_L_debtOf_3]
noncomputable def f_L_debtOf : List qV → qA → Option qR := qa_fn P_L_debtOf 5
def pc_L_debtOf : Nat → Nat := fun j => [0, 15, 19, 21].getD j 0
set_option maxRecDepth 100000 in
set_option maxHeartbeats 4000000 in
theorem kon_L_debtOf (l : Launch) (hl : l.stackTraces = false) : qa_ConH l yL_debtOf cL_debtOf 5 (some .int) [(0, 10, 13, 30), (0, 10, 17, 18)] 10 165 f_L_debtOf :=
  qa_methodH (pcs := pc_L_debtOf) (by decide +kernel) rfl (fun C hr hn htab j f hj => by
    match j, hj with
    | 0, hj => obtain rfl := Option.some.inj hj; exact ok_aload_n C rfl dL_debtOf_0 (ok_iconst C (by decide) dL_debtOf_1 (ok_aload_n C rfl dL_debtOf_2 (ok_iload_n C rfl dL_debtOf_3 (ok_iload_n C rfl dL_debtOf_4 (ok_callh C htab rfl (by decide) (kon_X11_debtOf l hl) (List.forall_mem_cons.mpr ⟨⟨[], ⟨0, 10, 13, 30⟩, [⟨0, 10, 17, 18⟩], rfl, fun z hz => nomatch hz, by decide, by decide, wd_1058, by decide +kernel, by decide, Or.inr ⟨dL_debtOf_13, rfl⟩⟩, List.forall_mem_cons.mpr ⟨⟨[⟨0, 10, 13, 30⟩], ⟨0, 10, 17, 18⟩, [], rfl, fun z hz => (List.mem_singleton.mp hz) ▸ ⟨by decide, "java/lang/IndexOutOfBoundsException", wd_1058, by decide +kernel⟩, by decide, by decide, wd_1008, by decide +kernel, by decide, Or.inr ⟨dL_debtOf_17, rfl⟩⟩, fun _ h => absurd h List.not_mem_nil⟩⟩) (qa_wl [1098, 1099, 1100, 72, 1101] (by decide +kernel) (by decide +kernel)) ⟨rfl, by decide +kernel, by decide +kernel, by decide +kernel⟩ ⟨Nat.le_of_ble_eq_true rfl, Nat.le_of_ble_eq_true rfl⟩ dL_debtOf_5 (ok_i2l C dL_debtOf_8 (ok_lastore C dL_debtOf_9 (ok_goto C dL_debtOf_10 (by decide)))))))))
    | 1, hj => obtain rfl := Option.some.inj hj; exact ok_iconst C (by decide) dL_debtOf_15 (ok_iret C hr dL_debtOf_16)
    | 2, hj => obtain rfl := Option.some.inj hj; exact ok_iconst C (by decide) dL_debtOf_19 (ok_iret C hr dL_debtOf_20)
    | 3, hj => obtain rfl := Option.some.inj hj; exact ok_iconst C (by decide) dL_debtOf_21 (ok_iret C hr dL_debtOf_22)
    | (_ + 4), hj => exact nomatch hj)
noncomputable def B_L_item_0 : qI := q_load 1 3 (q_const (0, 0) (q_load 1 0 (q_load 0 1 (q_load 0 2 (q_callh 13 f_X11_item 3 [(1, 1, 4), (2, 2, 4)] (q_i2l (q_ast 105 2 (q_goto 3))))))))
noncomputable def B_L_item_1 : qI := q_const (0, 1) (q_ret 0)
noncomputable def B_L_item_2 : qI := q_const (0, 2) (q_ret 0)
noncomputable def B_L_item_3 : qI := q_const (0, 0) (q_ret 0)
noncomputable def P_L_item : qP := [B_L_item_0, B_L_item_1, B_L_item_2, B_L_item_3]
noncomputable def f_L_item : List qV → qA → Option qR := qa_fn P_L_item 5
def pc_L_item : Nat → Nat := fun j => [0, 15, 19, 21].getD j 0
set_option maxRecDepth 100000 in
set_option maxHeartbeats 4000000 in
theorem kon_L_item (l : Launch) (hl : l.stackTraces = false) : qa_ConH l yL_item cL_item 5 (some .int) [(0, 10, 13, 30), (0, 10, 17, 18)] 10 164 f_L_item :=
  qa_methodH (pcs := pc_L_item) (by decide +kernel) rfl (fun C hr hn htab j f hj => by
    match j, hj with
    | 0, hj => obtain rfl := Option.some.inj hj; exact ok_aload_n C rfl dL_item_0 (ok_iconst C (by decide) dL_item_1 (ok_aload_n C rfl dL_item_2 (ok_iload_n C rfl dL_item_3 (ok_iload_n C rfl dL_item_4 (ok_callh C htab rfl (by decide) (kon_X11_item l hl) (List.forall_mem_cons.mpr ⟨⟨[], ⟨0, 10, 13, 30⟩, [⟨0, 10, 17, 18⟩], rfl, fun z hz => nomatch hz, by decide, by decide, wd_1058, by decide +kernel, by decide, Or.inr ⟨dL_item_13, rfl⟩⟩, List.forall_mem_cons.mpr ⟨⟨[⟨0, 10, 13, 30⟩], ⟨0, 10, 17, 18⟩, [], rfl, fun z hz => (List.mem_singleton.mp hz) ▸ ⟨by decide, "java/lang/IndexOutOfBoundsException", wd_1058, by decide +kernel⟩, by decide, by decide, wd_1008, by decide +kernel, by decide, Or.inr ⟨dL_item_17, rfl⟩⟩, fun _ h => absurd h List.not_mem_nil⟩⟩) (qa_wl [1109, 1110, 1111, 72, 1112] (by decide +kernel) (by decide +kernel)) ⟨rfl, by decide +kernel, by decide +kernel, by decide +kernel⟩ ⟨Nat.le_of_ble_eq_true rfl, Nat.le_of_ble_eq_true rfl⟩ dL_item_5 (ok_i2l C dL_item_8 (ok_lastore C dL_item_9 (ok_goto C dL_item_10 (by decide)))))))))
    | 1, hj => obtain rfl := Option.some.inj hj; exact ok_iconst C (by decide) dL_item_15 (ok_iret C hr dL_item_16)
    | 2, hj => obtain rfl := Option.some.inj hj; exact ok_iconst C (by decide) dL_item_19 (ok_iret C hr dL_item_20)
    | 3, hj => obtain rfl := Option.some.inj hj; exact ok_iconst C (by decide) dL_item_21 (ok_iret C hr dL_item_22)
    | (_ + 4), hj => exact nomatch hj)
noncomputable def B_L_account_0 : qI := q_load 1 2 (q_const (0, 0) (q_load 1 0 (q_load 0 1 (q_callh 13 f_X11_account 2 [(2, 1, 3)] (q_i2l (q_ast 105 2 (q_goto 2)))))))
noncomputable def B_L_account_1 : qI := q_const (0, 1) (q_ret 0)
noncomputable def B_L_account_2 : qI := q_const (0, 0) (q_ret 0)
noncomputable def P_L_account : qP := [B_L_account_0, B_L_account_1, B_L_account_2]
noncomputable def f_L_account : List qV → qA → Option qR := qa_fn P_L_account 4
def pc_L_account : Nat → Nat := fun j => [0, 13, 15].getD j 0
set_option maxRecDepth 100000 in
set_option maxHeartbeats 4000000 in
theorem kon_L_account (l : Launch) (hl : l.stackTraces = false) : qa_ConH l yL_account cL_account 4 (some .int) [(0, 9, 12, 18)] 10 163 f_L_account :=
  qa_methodH (pcs := pc_L_account) (by decide +kernel) rfl (fun C hr hn htab j f hj => by
    match j, hj with
    | 0, hj => obtain rfl := Option.some.inj hj; exact ok_aload_n C rfl dL_account_0 (ok_iconst C (by decide) dL_account_1 (ok_aload_n C rfl dL_account_2 (ok_iload_n C rfl dL_account_3 (ok_callh C htab rfl (by decide) (kon_X11_account l hl) (List.forall_mem_cons.mpr ⟨⟨[], ⟨0, 9, 12, 18⟩, [], rfl, fun z hz => nomatch hz, by decide, by decide, wd_1008, by decide +kernel, by decide, Or.inl ⟨3, dL_account_12, rfl, rfl⟩⟩, fun _ h => absurd h List.not_mem_nil⟩) (qa_wl [1121, 1122, 1123, 72, 1124] (by decide +kernel) (by decide +kernel)) ⟨rfl, by decide +kernel, by decide +kernel, by decide +kernel⟩ ⟨Nat.le_of_ble_eq_true rfl, Nat.le_of_ble_eq_true rfl⟩ dL_account_4 (ok_i2l C dL_account_7 (ok_lastore C dL_account_8 (ok_goto C dL_account_9 (by decide))))))))
    | 1, hj => obtain rfl := Option.some.inj hj; exact ok_iconst C (by decide) dL_account_13 (ok_iret C hr dL_account_14)
    | 2, hj => obtain rfl := Option.some.inj hj; exact ok_iconst C (by decide) dL_account_15 (ok_iret C hr dL_account_16)
    | (_ + 3), hj => exact nomatch hj)
noncomputable def B_L_append_0 : qI := q_load 1 5 (q_const (0, 0) (q_load 1 0 (q_load 0 1 (q_load 0 2 (q_load 0 3 (q_load 0 4 (q_callh 13 f_X11_append 5 [(1, 1, 6), (2, 2, 6)] (q_i2l (q_ast 105 2 (q_goto 3))))))))))
noncomputable def B_L_append_1 : qI := q_const (0, 1) (q_ret 0)
noncomputable def B_L_append_2 : qI := q_const (0, 2) (q_ret 0)
noncomputable def B_L_append_3 : qI := q_const (0, 0) (q_ret 0)
noncomputable def P_L_append : qP := [B_L_append_0, B_L_append_1, B_L_append_2, B_L_append_3]
noncomputable def f_L_append : List qV → qA → Option qR := qa_fn P_L_append 7
def pc_L_append : Nat → Nat := fun j => [0, 19, 23, 25].getD j 0
set_option maxRecDepth 100000 in
set_option maxHeartbeats 4000000 in
theorem kon_L_append (l : Launch) (hl : l.stackTraces = false) : qa_ConH l yL_append cL_append 7 (some .int) [(0, 14, 17, 30), (0, 14, 21, 18)] 10 232 f_L_append :=
  qa_methodH (pcs := pc_L_append) (by decide +kernel) rfl (fun C hr hn htab j f hj => by
    match j, hj with
    | 0, hj => obtain rfl := Option.some.inj hj; exact ok_aload C dL_append_0 (ok_iconst C (by decide) dL_append_2 (ok_aload_n C rfl dL_append_3 (ok_iload_n C rfl dL_append_4 (ok_iload_n C rfl dL_append_5 (ok_iload_n C rfl dL_append_6 (ok_iload C dL_append_7 (ok_callh C htab rfl (by decide) (kon_X11_append l hl) (List.forall_mem_cons.mpr ⟨⟨[], ⟨0, 14, 17, 30⟩, [⟨0, 14, 21, 18⟩], rfl, fun z hz => nomatch hz, by decide, by decide, wd_1058, by decide +kernel, by decide, Or.inr ⟨dL_append_17, rfl⟩⟩, List.forall_mem_cons.mpr ⟨⟨[⟨0, 14, 17, 30⟩], ⟨0, 14, 21, 18⟩, [], rfl, fun z hz => (List.mem_singleton.mp hz) ▸ ⟨by decide, "java/lang/IndexOutOfBoundsException", wd_1058, by decide +kernel⟩, by decide, by decide, wd_1008, by decide +kernel, by decide, Or.inr ⟨dL_append_21, rfl⟩⟩, fun _ h => absurd h List.not_mem_nil⟩⟩) (qa_wl [1132, 583, 584, 72, 585] (by decide +kernel) (by decide +kernel)) ⟨rfl, by decide +kernel, by decide +kernel, by decide +kernel⟩ ⟨Nat.le_of_ble_eq_true rfl, Nat.le_of_ble_eq_true rfl⟩ dL_append_9 (ok_i2l C dL_append_12 (ok_lastore C dL_append_13 (ok_goto C dL_append_14 (by decide)))))))))))
    | 1, hj => obtain rfl := Option.some.inj hj; exact ok_iconst C (by decide) dL_append_19 (ok_iret C hr dL_append_20)
    | 2, hj => obtain rfl := Option.some.inj hj; exact ok_iconst C (by decide) dL_append_23 (ok_iret C hr dL_append_24)
    | 3, hj => obtain rfl := Option.some.inj hj; exact ok_iconst C (by decide) dL_append_25 (ok_iret C hr dL_append_26)
    | (_ + 4), hj => exact nomatch hj)
noncomputable def B_L_join_0 : qI := q_load 1 3 (q_const (0, 0) (q_load 1 0 (q_load 0 1 (q_load 0 2 (q_callh 13 f_X11_join 3 [(1, 1, 4)] (q_i2l (q_ast 105 2 (q_goto 2))))))))
noncomputable def B_L_join_1 : qI := q_const (0, 1) (q_ret 0)
noncomputable def B_L_join_2 : qI := q_const (0, 0) (q_ret 0)
noncomputable def P_L_join : qP := [B_L_join_0, B_L_join_1, B_L_join_2]
noncomputable def f_L_join : List qV → qA → Option qR := qa_fn P_L_join 5
def pc_L_join : Nat → Nat := fun j => [0, 15, 17].getD j 0
set_option maxRecDepth 100000 in
set_option maxHeartbeats 4000000 in
theorem kon_L_join (l : Launch) (hl : l.stackTraces = false) : qa_ConH l yL_join cL_join 5 (some .int) [(0, 10, 13, 30)] 10 230 f_L_join :=
  qa_methodH (pcs := pc_L_join) (by decide +kernel) rfl (fun C hr hn htab j f hj => by
    match j, hj with
    | 0, hj => obtain rfl := Option.some.inj hj; exact ok_aload_n C rfl dL_join_0 (ok_iconst C (by decide) dL_join_1 (ok_aload_n C rfl dL_join_2 (ok_iload_n C rfl dL_join_3 (ok_iload_n C rfl dL_join_4 (ok_callh C htab rfl (by decide) (kon_X11_join l hl) (List.forall_mem_cons.mpr ⟨⟨[], ⟨0, 10, 13, 30⟩, [], rfl, fun z hz => nomatch hz, by decide, by decide, wd_1058, by decide +kernel, by decide, Or.inr ⟨dL_join_13, rfl⟩⟩, fun _ h => absurd h List.not_mem_nil⟩) (qa_wl [1136, 786, 787, 72, 788] (by decide +kernel) (by decide +kernel)) ⟨rfl, by decide +kernel, by decide +kernel, by decide +kernel⟩ ⟨Nat.le_of_ble_eq_true rfl, Nat.le_of_ble_eq_true rfl⟩ dL_join_5 (ok_i2l C dL_join_8 (ok_lastore C dL_join_9 (ok_goto C dL_join_10 (by decide)))))))))
    | 1, hj => obtain rfl := Option.some.inj hj; exact ok_iconst C (by decide) dL_join_15 (ok_iret C hr dL_join_16)
    | 2, hj => obtain rfl := Option.some.inj hj; exact ok_iconst C (by decide) dL_join_17 (ok_iret C hr dL_join_18)
    | (_ + 3), hj => exact nomatch hj)
noncomputable def B_L_leave_0 : qI := q_load 1 2 (q_const (0, 0) (q_load 1 0 (q_load 0 1 (q_callh 13 f_X11_leave 2 [(1, 1, 3)] (q_i2l (q_ast 105 2 (q_goto 2)))))))
noncomputable def B_L_leave_1 : qI := q_const (0, 1) (q_ret 0)
noncomputable def B_L_leave_2 : qI := q_const (0, 0) (q_ret 0)
noncomputable def P_L_leave : qP := [B_L_leave_0, B_L_leave_1, B_L_leave_2]
noncomputable def f_L_leave : List qV → qA → Option qR := qa_fn P_L_leave 4
def pc_L_leave : Nat → Nat := fun j => [0, 13, 15].getD j 0
set_option maxRecDepth 100000 in
set_option maxHeartbeats 4000000 in
theorem kon_L_leave (l : Launch) (hl : l.stackTraces = false) : qa_ConH l yL_leave cL_leave 4 (some .int) [(0, 9, 12, 30)] 10 228 f_L_leave :=
  qa_methodH (pcs := pc_L_leave) (by decide +kernel) rfl (fun C hr hn htab j f hj => by
    match j, hj with
    | 0, hj => obtain rfl := Option.some.inj hj; exact ok_aload_n C rfl dL_leave_0 (ok_iconst C (by decide) dL_leave_1 (ok_aload_n C rfl dL_leave_2 (ok_iload_n C rfl dL_leave_3 (ok_callh C htab rfl (by decide) (kon_X11_leave l hl) (List.forall_mem_cons.mpr ⟨⟨[], ⟨0, 9, 12, 30⟩, [], rfl, fun z hz => nomatch hz, by decide, by decide, wd_1058, by decide +kernel, by decide, Or.inl ⟨3, dL_leave_12, rfl, rfl⟩⟩, fun _ h => absurd h List.not_mem_nil⟩) (qa_wl [1140, 868, 869, 72, 870] (by decide +kernel) (by decide +kernel)) ⟨rfl, by decide +kernel, by decide +kernel, by decide +kernel⟩ ⟨Nat.le_of_ble_eq_true rfl, Nat.le_of_ble_eq_true rfl⟩ dL_leave_4 (ok_i2l C dL_leave_7 (ok_lastore C dL_leave_8 (ok_goto C dL_leave_9 (by decide))))))))
    | 1, hj => obtain rfl := Option.some.inj hj; exact ok_iconst C (by decide) dL_leave_13 (ok_iret C hr dL_leave_14)
    | 2, hj => obtain rfl := Option.some.inj hj; exact ok_iconst C (by decide) dL_leave_15 (ok_iret C hr dL_leave_16)
    | (_ + 3), hj => exact nomatch hj)
noncomputable def B_L_read_0 : qI := q_load 1 3 (q_const (0, 0) (q_load 1 0 (q_load 0 1 (q_load 0 2 (q_callh 13 f_X11_read 3 [(1, 1, 4), (2, 2, 4)] (q_i2l (q_ast 105 2 (q_goto 3))))))))
noncomputable def B_L_read_1 : qI := q_const (0, 1) (q_ret 0)
noncomputable def B_L_read_2 : qI := q_const (0, 2) (q_ret 0)
noncomputable def B_L_read_3 : qI := q_const (0, 0) (q_ret 0)
noncomputable def P_L_read : qP := [B_L_read_0, B_L_read_1, B_L_read_2, B_L_read_3]
noncomputable def f_L_read : List qV → qA → Option qR := qa_fn P_L_read 5
def pc_L_read : Nat → Nat := fun j => [0, 15, 19, 21].getD j 0
set_option maxRecDepth 100000 in
set_option maxHeartbeats 4000000 in
theorem kon_L_read (l : Launch) (hl : l.stackTraces = false) : qa_ConH l yL_read cL_read 5 (some .int) [(0, 10, 13, 30), (0, 10, 17, 18)] 10 230 f_L_read :=
  qa_methodH (pcs := pc_L_read) (by decide +kernel) rfl (fun C hr hn htab j f hj => by
    match j, hj with
    | 0, hj => obtain rfl := Option.some.inj hj; exact ok_aload_n C rfl dL_read_0 (ok_iconst C (by decide) dL_read_1 (ok_aload_n C rfl dL_read_2 (ok_iload_n C rfl dL_read_3 (ok_iload_n C rfl dL_read_4 (ok_callh C htab rfl (by decide) (kon_X11_read l hl) (List.forall_mem_cons.mpr ⟨⟨[], ⟨0, 10, 13, 30⟩, [⟨0, 10, 17, 18⟩], rfl, fun z hz => nomatch hz, by decide, by decide, wd_1058, by decide +kernel, by decide, Or.inr ⟨dL_read_13, rfl⟩⟩, List.forall_mem_cons.mpr ⟨⟨[⟨0, 10, 13, 30⟩], ⟨0, 10, 17, 18⟩, [], rfl, fun z hz => (List.mem_singleton.mp hz) ▸ ⟨by decide, "java/lang/IndexOutOfBoundsException", wd_1058, by decide +kernel⟩, by decide, by decide, wd_1008, by decide +kernel, by decide, Or.inr ⟨dL_read_17, rfl⟩⟩, fun _ h => absurd h List.not_mem_nil⟩⟩) (qa_wl [1144, 810, 811, 72, 812] (by decide +kernel) (by decide +kernel)) ⟨rfl, by decide +kernel, by decide +kernel, by decide +kernel⟩ ⟨Nat.le_of_ble_eq_true rfl, Nat.le_of_ble_eq_true rfl⟩ dL_read_5 (ok_i2l C dL_read_8 (ok_lastore C dL_read_9 (ok_goto C dL_read_10 (by decide)))))))))
    | 1, hj => obtain rfl := Option.some.inj hj; exact ok_iconst C (by decide) dL_read_15 (ok_iret C hr dL_read_16)
    | 2, hj => obtain rfl := Option.some.inj hj; exact ok_iconst C (by decide) dL_read_19 (ok_iret C hr dL_read_20)
    | 3, hj => obtain rfl := Option.some.inj hj; exact ok_iconst C (by decide) dL_read_21 (ok_iret C hr dL_read_22)
    | (_ + 4), hj => exact nomatch hj)
noncomputable def B_L_promise_0 : qI := q_load 1 3 (q_const (0, 0) (q_load 1 0 (q_load 0 1 (q_load 0 2 (q_callh 13 f_X11_promise 3 [(1, 1, 4), (2, 2, 4)] (q_i2l (q_ast 105 2 (q_goto 3))))))))
noncomputable def B_L_promise_1 : qI := q_const (0, 1) (q_ret 0)
noncomputable def B_L_promise_2 : qI := q_const (0, 2) (q_ret 0)
noncomputable def B_L_promise_3 : qI := q_const (0, 0) (q_ret 0)
noncomputable def P_L_promise : qP := [B_L_promise_0, B_L_promise_1, B_L_promise_2, B_L_promise_3]
noncomputable def f_L_promise : List qV → qA → Option qR := qa_fn P_L_promise 5
def pc_L_promise : Nat → Nat := fun j => [0, 15, 19, 21].getD j 0
set_option maxRecDepth 100000 in
set_option maxHeartbeats 4000000 in
theorem kon_L_promise (l : Launch) (hl : l.stackTraces = false) : qa_ConH l yL_promise cL_promise 5 (some .int) [(0, 10, 13, 30), (0, 10, 17, 18)] 10 229 f_L_promise :=
  qa_methodH (pcs := pc_L_promise) (by decide +kernel) rfl (fun C hr hn htab j f hj => by
    match j, hj with
    | 0, hj => obtain rfl := Option.some.inj hj; exact ok_aload_n C rfl dL_promise_0 (ok_iconst C (by decide) dL_promise_1 (ok_aload_n C rfl dL_promise_2 (ok_iload_n C rfl dL_promise_3 (ok_iload_n C rfl dL_promise_4 (ok_callh C htab rfl (by decide) (kon_X11_promise l hl) (List.forall_mem_cons.mpr ⟨⟨[], ⟨0, 10, 13, 30⟩, [⟨0, 10, 17, 18⟩], rfl, fun z hz => nomatch hz, by decide, by decide, wd_1058, by decide +kernel, by decide, Or.inr ⟨dL_promise_13, rfl⟩⟩, List.forall_mem_cons.mpr ⟨⟨[⟨0, 10, 13, 30⟩], ⟨0, 10, 17, 18⟩, [], rfl, fun z hz => (List.mem_singleton.mp hz) ▸ ⟨by decide, "java/lang/IndexOutOfBoundsException", wd_1058, by decide +kernel⟩, by decide, by decide, wd_1008, by decide +kernel, by decide, Or.inr ⟨dL_promise_17, rfl⟩⟩, fun _ h => absurd h List.not_mem_nil⟩⟩) (qa_wl [1148, 842, 843, 72, 844] (by decide +kernel) (by decide +kernel)) ⟨rfl, by decide +kernel, by decide +kernel, by decide +kernel⟩ ⟨Nat.le_of_ble_eq_true rfl, Nat.le_of_ble_eq_true rfl⟩ dL_promise_5 (ok_i2l C dL_promise_8 (ok_lastore C dL_promise_9 (ok_goto C dL_promise_10 (by decide)))))))))
    | 1, hj => obtain rfl := Option.some.inj hj; exact ok_iconst C (by decide) dL_promise_15 (ok_iret C hr dL_promise_16)
    | 2, hj => obtain rfl := Option.some.inj hj; exact ok_iconst C (by decide) dL_promise_19 (ok_iret C hr dL_promise_20)
    | 3, hj => obtain rfl := Option.some.inj hj; exact ok_iconst C (by decide) dL_promise_21 (ok_iret C hr dL_promise_22)
    | (_ + 4), hj => exact nomatch hj)
noncomputable def B_L_move_0 : qI := q_load 1 3 (q_const (0, 0) (q_load 1 0 (q_load 0 1 (q_load 0 2 (q_callh 13 f_X11_move 3 [(1, 1, 4)] (q_i2l (q_ast 105 2 (q_goto 2))))))))
noncomputable def B_L_move_1 : qI := q_const (0, 1) (q_ret 0)
noncomputable def B_L_move_2 : qI := q_const (0, 0) (q_ret 0)
noncomputable def P_L_move : qP := [B_L_move_0, B_L_move_1, B_L_move_2]
noncomputable def f_L_move : List qV → qA → Option qR := qa_fn P_L_move 5
def pc_L_move : Nat → Nat := fun j => [0, 15, 17].getD j 0
set_option maxRecDepth 100000 in
set_option maxHeartbeats 4000000 in
theorem kon_L_move (l : Launch) (hl : l.stackTraces = false) : qa_ConH l yL_move cL_move 5 (some .int) [(0, 10, 13, 30)] 10 231 f_L_move :=
  qa_methodH (pcs := pc_L_move) (by decide +kernel) rfl (fun C hr hn htab j f hj => by
    match j, hj with
    | 0, hj => obtain rfl := Option.some.inj hj; exact ok_aload_n C rfl dL_move_0 (ok_iconst C (by decide) dL_move_1 (ok_aload_n C rfl dL_move_2 (ok_iload_n C rfl dL_move_3 (ok_iload_n C rfl dL_move_4 (ok_callh C htab rfl (by decide) (kon_X11_move l hl) (List.forall_mem_cons.mpr ⟨⟨[], ⟨0, 10, 13, 30⟩, [], rfl, fun z hz => nomatch hz, by decide, by decide, wd_1058, by decide +kernel, by decide, Or.inr ⟨dL_move_13, rfl⟩⟩, fun _ h => absurd h List.not_mem_nil⟩) (qa_wl [1152, 846, 847, 72, 848] (by decide +kernel) (by decide +kernel)) ⟨rfl, by decide +kernel, by decide +kernel, by decide +kernel⟩ ⟨Nat.le_of_ble_eq_true rfl, Nat.le_of_ble_eq_true rfl⟩ dL_move_5 (ok_i2l C dL_move_8 (ok_lastore C dL_move_9 (ok_goto C dL_move_10 (by decide)))))))))
    | 1, hj => obtain rfl := Option.some.inj hj; exact ok_iconst C (by decide) dL_move_15 (ok_iret C hr dL_move_16)
    | 2, hj => obtain rfl := Option.some.inj hj; exact ok_iconst C (by decide) dL_move_17 (ok_iret C hr dL_move_18)
    | (_ + 3), hj => exact nomatch hj)
noncomputable def B_L_fork_0 : qI := q_load 1 2 (q_const (0, 0) (q_load 1 0 (q_load 0 1 (q_callh 13 f_X11_fork 2 [(1, 1, 3)] (q_i2l (q_ast 105 2 (q_goto 2)))))))
noncomputable def B_L_fork_1 : qI := q_const (0, 1) (q_ret 0)
noncomputable def B_L_fork_2 : qI := q_const (0, 0) (q_ret 0)
noncomputable def P_L_fork : qP := [B_L_fork_0, B_L_fork_1, B_L_fork_2]
noncomputable def f_L_fork : List qV → qA → Option qR := qa_fn P_L_fork 4
def pc_L_fork : Nat → Nat := fun j => [0, 13, 15].getD j 0
set_option maxRecDepth 100000 in
set_option maxHeartbeats 4000000 in
theorem kon_L_fork (l : Launch) (hl : l.stackTraces = false) : qa_ConH l yL_fork cL_fork 4 (some .int) [(0, 9, 12, 30)] 10 229 f_L_fork :=
  qa_methodH (pcs := pc_L_fork) (by decide +kernel) rfl (fun C hr hn htab j f hj => by
    match j, hj with
    | 0, hj => obtain rfl := Option.some.inj hj; exact ok_aload_n C rfl dL_fork_0 (ok_iconst C (by decide) dL_fork_1 (ok_aload_n C rfl dL_fork_2 (ok_iload_n C rfl dL_fork_3 (ok_callh C htab rfl (by decide) (kon_X11_fork l hl) (List.forall_mem_cons.mpr ⟨⟨[], ⟨0, 9, 12, 30⟩, [], rfl, fun z hz => nomatch hz, by decide, by decide, wd_1058, by decide +kernel, by decide, Or.inl ⟨3, dL_fork_12, rfl, rfl⟩⟩, fun _ h => absurd h List.not_mem_nil⟩) (qa_wl [1156, 876, 877, 72, 878] (by decide +kernel) (by decide +kernel)) ⟨rfl, by decide +kernel, by decide +kernel, by decide +kernel⟩ ⟨Nat.le_of_ble_eq_true rfl, Nat.le_of_ble_eq_true rfl⟩ dL_fork_4 (ok_i2l C dL_fork_7 (ok_lastore C dL_fork_8 (ok_goto C dL_fork_9 (by decide))))))))
    | 1, hj => obtain rfl := Option.some.inj hj; exact ok_iconst C (by decide) dL_fork_13 (ok_iret C hr dL_fork_14)
    | 2, hj => obtain rfl := Option.some.inj hj; exact ok_iconst C (by decide) dL_fork_15 (ok_iret C hr dL_fork_16)
    | (_ + 3), hj => exact nomatch hj)
noncomputable def B_L_merge_0 : qI := q_load 1 2 (q_const (0, 0) (q_load 1 0 (q_load 0 1 (q_callh 13 f_X11_merge 2 [(1, 1, 3)] (q_i2l (q_ast 105 2 (q_goto 2)))))))
noncomputable def B_L_merge_1 : qI := q_const (0, 1) (q_ret 0)
noncomputable def B_L_merge_2 : qI := q_const (0, 0) (q_ret 0)
noncomputable def P_L_merge : qP := [B_L_merge_0, B_L_merge_1, B_L_merge_2]
noncomputable def f_L_merge : List qV → qA → Option qR := qa_fn P_L_merge 4
def pc_L_merge : Nat → Nat := fun j => [0, 13, 15].getD j 0
set_option maxRecDepth 100000 in
set_option maxHeartbeats 4000000 in
theorem kon_L_merge (l : Launch) (hl : l.stackTraces = false) : qa_ConH l yL_merge cL_merge 4 (some .int) [(0, 9, 12, 30)] 10 229 f_L_merge :=
  qa_methodH (pcs := pc_L_merge) (by decide +kernel) rfl (fun C hr hn htab j f hj => by
    match j, hj with
    | 0, hj => obtain rfl := Option.some.inj hj; exact ok_aload_n C rfl dL_merge_0 (ok_iconst C (by decide) dL_merge_1 (ok_aload_n C rfl dL_merge_2 (ok_iload_n C rfl dL_merge_3 (ok_callh C htab rfl (by decide) (kon_X11_merge l hl) (List.forall_mem_cons.mpr ⟨⟨[], ⟨0, 9, 12, 30⟩, [], rfl, fun z hz => nomatch hz, by decide, by decide, wd_1058, by decide +kernel, by decide, Or.inl ⟨3, dL_merge_12, rfl, rfl⟩⟩, fun _ h => absurd h List.not_mem_nil⟩) (qa_wl [1160, 889, 890, 72, 891] (by decide +kernel) (by decide +kernel)) ⟨rfl, by decide +kernel, by decide +kernel, by decide +kernel⟩ ⟨Nat.le_of_ble_eq_true rfl, Nat.le_of_ble_eq_true rfl⟩ dL_merge_4 (ok_i2l C dL_merge_7 (ok_lastore C dL_merge_8 (ok_goto C dL_merge_9 (by decide))))))))
    | 1, hj => obtain rfl := Option.some.inj hj; exact ok_iconst C (by decide) dL_merge_13 (ok_iret C hr dL_merge_14)
    | 2, hj => obtain rfl := Option.some.inj hj; exact ok_iconst C (by decide) dL_merge_15 (ok_iret C hr dL_merge_16)
    | (_ + 3), hj => exact nomatch hj)
noncomputable def B_L_drop_0 : qI := q_load 1 2 (q_const (0, 0) (q_load 1 0 (q_load 0 1 (q_callh 13 f_X11_drop 2 [(1, 1, 3)] (q_i2l (q_ast 105 2 (q_goto 2)))))))
noncomputable def B_L_drop_1 : qI := q_const (0, 1) (q_ret 0)
noncomputable def B_L_drop_2 : qI := q_const (0, 0) (q_ret 0)
noncomputable def P_L_drop : qP := [B_L_drop_0, B_L_drop_1, B_L_drop_2]
noncomputable def f_L_drop : List qV → qA → Option qR := qa_fn P_L_drop 4
def pc_L_drop : Nat → Nat := fun j => [0, 13, 15].getD j 0
set_option maxRecDepth 100000 in
set_option maxHeartbeats 4000000 in
theorem kon_L_drop (l : Launch) (hl : l.stackTraces = false) : qa_ConH l yL_drop cL_drop 4 (some .int) [(0, 9, 12, 30)] 10 229 f_L_drop :=
  qa_methodH (pcs := pc_L_drop) (by decide +kernel) rfl (fun C hr hn htab j f hj => by
    match j, hj with
    | 0, hj => obtain rfl := Option.some.inj hj; exact ok_aload_n C rfl dL_drop_0 (ok_iconst C (by decide) dL_drop_1 (ok_aload_n C rfl dL_drop_2 (ok_iload_n C rfl dL_drop_3 (ok_callh C htab rfl (by decide) (kon_X11_drop l hl) (List.forall_mem_cons.mpr ⟨⟨[], ⟨0, 9, 12, 30⟩, [], rfl, fun z hz => nomatch hz, by decide, by decide, wd_1058, by decide +kernel, by decide, Or.inl ⟨3, dL_drop_12, rfl, rfl⟩⟩, fun _ h => absurd h List.not_mem_nil⟩) (qa_wl [1164, 914, 915, 72, 916] (by decide +kernel) (by decide +kernel)) ⟨rfl, by decide +kernel, by decide +kernel, by decide +kernel⟩ ⟨Nat.le_of_ble_eq_true rfl, Nat.le_of_ble_eq_true rfl⟩ dL_drop_4 (ok_i2l C dL_drop_7 (ok_lastore C dL_drop_8 (ok_goto C dL_drop_9 (by decide))))))))
    | 1, hj => obtain rfl := Option.some.inj hj; exact ok_iconst C (by decide) dL_drop_13 (ok_iret C hr dL_drop_14)
    | 2, hj => obtain rfl := Option.some.inj hj; exact ok_iconst C (by decide) dL_drop_15 (ok_iret C hr dL_drop_16)
    | (_ + 3), hj => exact nomatch hj)
noncomputable def B_L_pass_0 : qI := q_load 1 2 (q_const (0, 0) (q_load 1 0 (q_load 0 1 (q_callh 13 f_X11_pass 2 [(2, 1, 3)] (q_i2l (q_ast 105 2 (q_goto 2)))))))
noncomputable def B_L_pass_1 : qI := q_const (0, 1) (q_ret 0)
noncomputable def B_L_pass_2 : qI := q_const (0, 0) (q_ret 0)
noncomputable def P_L_pass : qP := [B_L_pass_0, B_L_pass_1, B_L_pass_2]
noncomputable def f_L_pass : List qV → qA → Option qR := qa_fn P_L_pass 4
def pc_L_pass : Nat → Nat := fun j => [0, 13, 15].getD j 0
set_option maxRecDepth 100000 in
set_option maxHeartbeats 4000000 in
theorem kon_L_pass (l : Launch) (hl : l.stackTraces = false) : qa_ConH l yL_pass cL_pass 4 (some .int) [(0, 9, 12, 18)] 10 229 f_L_pass :=
  qa_methodH (pcs := pc_L_pass) (by decide +kernel) rfl (fun C hr hn htab j f hj => by
    match j, hj with
    | 0, hj => obtain rfl := Option.some.inj hj; exact ok_aload_n C rfl dL_pass_0 (ok_iconst C (by decide) dL_pass_1 (ok_aload_n C rfl dL_pass_2 (ok_iload_n C rfl dL_pass_3 (ok_callh C htab rfl (by decide) (kon_X11_pass l hl) (List.forall_mem_cons.mpr ⟨⟨[], ⟨0, 9, 12, 18⟩, [], rfl, fun z hz => nomatch hz, by decide, by decide, wd_1008, by decide +kernel, by decide, Or.inl ⟨3, dL_pass_12, rfl, rfl⟩⟩, fun _ h => absurd h List.not_mem_nil⟩) (qa_wl [1168, 922, 923, 72, 924] (by decide +kernel) (by decide +kernel)) ⟨rfl, by decide +kernel, by decide +kernel, by decide +kernel⟩ ⟨Nat.le_of_ble_eq_true rfl, Nat.le_of_ble_eq_true rfl⟩ dL_pass_4 (ok_i2l C dL_pass_7 (ok_lastore C dL_pass_8 (ok_goto C dL_pass_9 (by decide))))))))
    | 1, hj => obtain rfl := Option.some.inj hj; exact ok_iconst C (by decide) dL_pass_13 (ok_iret C hr dL_pass_14)
    | 2, hj => obtain rfl := Option.some.inj hj; exact ok_iconst C (by decide) dL_pass_15 (ok_iret C hr dL_pass_16)
    | (_ + 3), hj => exact nomatch hj)
noncomputable def B_L_common_0 : qI := q_load 1 3 (q_const (0, 0) (q_load 1 0 (q_load 0 1 (q_load 0 2 (q_callh 13 f_X11_common 3 [(1, 1, 4)] (q_i2l (q_ast 105 2 (q_goto 2))))))))
noncomputable def B_L_common_1 : qI := q_const (0, 1) (q_ret 0)
noncomputable def B_L_common_2 : qI := q_const (0, 0) (q_ret 0)
noncomputable def P_L_common : qP := [B_L_common_0, B_L_common_1, B_L_common_2]
noncomputable def f_L_common : List qV → qA → Option qR := qa_fn P_L_common 5
def pc_L_common : Nat → Nat := fun j => [0, 15, 17].getD j 0
set_option maxRecDepth 100000 in
set_option maxHeartbeats 4000000 in
theorem kon_L_common (l : Launch) (hl : l.stackTraces = false) : qa_ConH l yL_common cL_common 5 (some .int) [(0, 10, 13, 30)] 10 166 f_L_common :=
  qa_methodH (pcs := pc_L_common) (by decide +kernel) rfl (fun C hr hn htab j f hj => by
    match j, hj with
    | 0, hj => obtain rfl := Option.some.inj hj; exact ok_aload_n C rfl dL_common_0 (ok_iconst C (by decide) dL_common_1 (ok_aload_n C rfl dL_common_2 (ok_iload_n C rfl dL_common_3 (ok_iload_n C rfl dL_common_4 (ok_callh C htab rfl (by decide) (kon_X11_common l hl) (List.forall_mem_cons.mpr ⟨⟨[], ⟨0, 10, 13, 30⟩, [], rfl, fun z hz => nomatch hz, by decide, by decide, wd_1058, by decide +kernel, by decide, Or.inr ⟨dL_common_13, rfl⟩⟩, fun _ h => absurd h List.not_mem_nil⟩) (qa_wl [1172, 1173, 1174, 72, 1175] (by decide +kernel) (by decide +kernel)) ⟨rfl, by decide +kernel, by decide +kernel, by decide +kernel⟩ ⟨Nat.le_of_ble_eq_true rfl, Nat.le_of_ble_eq_true rfl⟩ dL_common_5 (ok_i2l C dL_common_8 (ok_lastore C dL_common_9 (ok_goto C dL_common_10 (by decide)))))))))
    | 1, hj => obtain rfl := Option.some.inj hj; exact ok_iconst C (by decide) dL_common_15 (ok_iret C hr dL_common_16)
    | 2, hj => obtain rfl := Option.some.inj hj; exact ok_iconst C (by decide) dL_common_17 (ok_iret C hr dL_common_18)
    | (_ + 3), hj => exact nomatch hj)
noncomputable def B_L_holder_0 : qI := q_load 1 2 (q_const (0, 0) (q_load 1 0 (q_load 0 1 (q_callh 13 f_X11_holder 2 [(1, 1, 3)] (q_i2l (q_ast 105 2 (q_goto 2)))))))
noncomputable def B_L_holder_1 : qI := q_const (0, 1) (q_ret 0)
noncomputable def B_L_holder_2 : qI := q_const (0, 0) (q_ret 0)
noncomputable def P_L_holder : qP := [B_L_holder_0, B_L_holder_1, B_L_holder_2]
noncomputable def f_L_holder : List qV → qA → Option qR := qa_fn P_L_holder 4
def pc_L_holder : Nat → Nat := fun j => [0, 13, 15].getD j 0
set_option maxRecDepth 100000 in
set_option maxHeartbeats 4000000 in
theorem kon_L_holder (l : Launch) (hl : l.stackTraces = false) : qa_ConH l yL_holder cL_holder 4 (some .int) [(0, 9, 12, 30)] 10 163 f_L_holder :=
  qa_methodH (pcs := pc_L_holder) (by decide +kernel) rfl (fun C hr hn htab j f hj => by
    match j, hj with
    | 0, hj => obtain rfl := Option.some.inj hj; exact ok_aload_n C rfl dL_holder_0 (ok_iconst C (by decide) dL_holder_1 (ok_aload_n C rfl dL_holder_2 (ok_iload_n C rfl dL_holder_3 (ok_callh C htab rfl (by decide) (kon_X11_holder l hl) (List.forall_mem_cons.mpr ⟨⟨[], ⟨0, 9, 12, 30⟩, [], rfl, fun z hz => nomatch hz, by decide, by decide, wd_1058, by decide +kernel, by decide, Or.inl ⟨3, dL_holder_12, rfl, rfl⟩⟩, fun _ h => absurd h List.not_mem_nil⟩) (qa_wl [1179, 1180, 1181, 72, 1182] (by decide +kernel) (by decide +kernel)) ⟨rfl, by decide +kernel, by decide +kernel, by decide +kernel⟩ ⟨Nat.le_of_ble_eq_true rfl, Nat.le_of_ble_eq_true rfl⟩ dL_holder_4 (ok_i2l C dL_holder_7 (ok_lastore C dL_holder_8 (ok_goto C dL_holder_9 (by decide))))))))
    | 1, hj => obtain rfl := Option.some.inj hj; exact ok_iconst C (by decide) dL_holder_13 (ok_iret C hr dL_holder_14)
    | 2, hj => obtain rfl := Option.some.inj hj; exact ok_iconst C (by decide) dL_holder_15 (ok_iret C hr dL_holder_16)
    | (_ + 3), hj => exact nomatch hj)
noncomputable def B_L_slowest_0 : qI := q_load 1 2 (q_const (0, 0) (q_load 1 0 (q_load 0 1 (q_callh 13 f_X11_slowest 2 [(1, 1, 3)] (q_i2l (q_ast 105 2 (q_goto 2)))))))
noncomputable def B_L_slowest_1 : qI := q_const (0, 1) (q_ret 0)
noncomputable def B_L_slowest_2 : qI := q_const (0, 0) (q_ret 0)
noncomputable def P_L_slowest : qP := [B_L_slowest_0, B_L_slowest_1, B_L_slowest_2]
noncomputable def f_L_slowest : List qV → qA → Option qR := qa_fn P_L_slowest 4
def pc_L_slowest : Nat → Nat := fun j => [0, 13, 15].getD j 0
set_option maxRecDepth 100000 in
set_option maxHeartbeats 4000000 in
theorem kon_L_slowest (l : Launch) (hl : l.stackTraces = false) : qa_ConH l yL_slowest cL_slowest 4 (some .int) [(0, 9, 12, 30)] 10 163 f_L_slowest :=
  qa_methodH (pcs := pc_L_slowest) (by decide +kernel) rfl (fun C hr hn htab j f hj => by
    match j, hj with
    | 0, hj => obtain rfl := Option.some.inj hj; exact ok_aload_n C rfl dL_slowest_0 (ok_iconst C (by decide) dL_slowest_1 (ok_aload_n C rfl dL_slowest_2 (ok_iload_n C rfl dL_slowest_3 (ok_callh C htab rfl (by decide) (kon_X11_slowest l hl) (List.forall_mem_cons.mpr ⟨⟨[], ⟨0, 9, 12, 30⟩, [], rfl, fun z hz => nomatch hz, by decide, by decide, wd_1058, by decide +kernel, by decide, Or.inl ⟨3, dL_slowest_12, rfl, rfl⟩⟩, fun _ h => absurd h List.not_mem_nil⟩) (qa_wl [1187, 1188, 1189, 72, 1190] (by decide +kernel) (by decide +kernel)) ⟨rfl, by decide +kernel, by decide +kernel, by decide +kernel⟩ ⟨Nat.le_of_ble_eq_true rfl, Nat.le_of_ble_eq_true rfl⟩ dL_slowest_4 (ok_i2l C dL_slowest_7 (ok_lastore C dL_slowest_8 (ok_goto C dL_slowest_9 (by decide))))))))
    | 1, hj => obtain rfl := Option.some.inj hj; exact ok_iconst C (by decide) dL_slowest_13 (ok_iret C hr dL_slowest_14)
    | 2, hj => obtain rfl := Option.some.inj hj; exact ok_iconst C (by decide) dL_slowest_15 (ok_iret C hr dL_slowest_16)
    | (_ + 3), hj => exact nomatch hj)
noncomputable def B_L_cause_0 : qI := q_load 1 2 (q_const (0, 0) (q_load 1 0 (q_load 0 1 (q_callh 13 f_X11_cause 2 [(1, 1, 3)] (q_i2l (q_ast 105 2 (q_goto 2)))))))
noncomputable def B_L_cause_1 : qI := q_const (0, 1) (q_ret 0)
noncomputable def B_L_cause_2 : qI := q_const (0, 0) (q_ret 0)
noncomputable def P_L_cause : qP := [B_L_cause_0, B_L_cause_1, B_L_cause_2]
noncomputable def f_L_cause : List qV → qA → Option qR := qa_fn P_L_cause 4
def pc_L_cause : Nat → Nat := fun j => [0, 13, 15].getD j 0
set_option maxRecDepth 100000 in
set_option maxHeartbeats 4000000 in
theorem kon_L_cause (l : Launch) (hl : l.stackTraces = false) : qa_ConH l yL_cause cL_cause 4 (some .int) [(0, 9, 12, 30)] 10 163 f_L_cause :=
  qa_methodH (pcs := pc_L_cause) (by decide +kernel) rfl (fun C hr hn htab j f hj => by
    match j, hj with
    | 0, hj => obtain rfl := Option.some.inj hj; exact ok_aload_n C rfl dL_cause_0 (ok_iconst C (by decide) dL_cause_1 (ok_aload_n C rfl dL_cause_2 (ok_iload_n C rfl dL_cause_3 (ok_callh C htab rfl (by decide) (kon_X11_cause l hl) (List.forall_mem_cons.mpr ⟨⟨[], ⟨0, 9, 12, 30⟩, [], rfl, fun z hz => nomatch hz, by decide, by decide, wd_1058, by decide +kernel, by decide, Or.inl ⟨3, dL_cause_12, rfl, rfl⟩⟩, fun _ h => absurd h List.not_mem_nil⟩) (qa_wl [1198, 1199, 1200, 72, 1201] (by decide +kernel) (by decide +kernel)) ⟨rfl, by decide +kernel, by decide +kernel, by decide +kernel⟩ ⟨Nat.le_of_ble_eq_true rfl, Nat.le_of_ble_eq_true rfl⟩ dL_cause_4 (ok_i2l C dL_cause_7 (ok_lastore C dL_cause_8 (ok_goto C dL_cause_9 (by decide))))))))
    | 1, hj => obtain rfl := Option.some.inj hj; exact ok_iconst C (by decide) dL_cause_13 (ok_iret C hr dL_cause_14)
    | 2, hj => obtain rfl := Option.some.inj hj; exact ok_iconst C (by decide) dL_cause_15 (ok_iret C hr dL_cause_16)
    | (_ + 3), hj => exact nomatch hj)
noncomputable def B_L_latest_0 : qI := q_load 1 3 (q_const (0, 0) (q_load 1 0 (q_load 0 1 (q_load 0 2 (q_callh 13 f_X11_latest 3 [(1, 1, 4), (2, 2, 4)] (q_i2l (q_ast 105 2 (q_goto 3))))))))
noncomputable def B_L_latest_1 : qI := q_const (0, 1) (q_ret 0)
noncomputable def B_L_latest_2 : qI := q_const (0, 2) (q_ret 0)
noncomputable def B_L_latest_3 : qI := q_const (0, 0) (q_ret 0)
noncomputable def P_L_latest : qP := [B_L_latest_0, B_L_latest_1, B_L_latest_2, B_L_latest_3]
noncomputable def f_L_latest : List qV → qA → Option qR := qa_fn P_L_latest 5
def pc_L_latest : Nat → Nat := fun j => [0, 15, 19, 21].getD j 0
set_option maxRecDepth 100000 in
set_option maxHeartbeats 4000000 in
theorem kon_L_latest (l : Launch) (hl : l.stackTraces = false) : qa_ConH l yL_latest cL_latest 5 (some .int) [(0, 10, 13, 30), (0, 10, 17, 18)] 10 165 f_L_latest :=
  qa_methodH (pcs := pc_L_latest) (by decide +kernel) rfl (fun C hr hn htab j f hj => by
    match j, hj with
    | 0, hj => obtain rfl := Option.some.inj hj; exact ok_aload_n C rfl dL_latest_0 (ok_iconst C (by decide) dL_latest_1 (ok_aload_n C rfl dL_latest_2 (ok_iload_n C rfl dL_latest_3 (ok_iload_n C rfl dL_latest_4 (ok_callh C htab rfl (by decide) (kon_X11_latest l hl) (List.forall_mem_cons.mpr ⟨⟨[], ⟨0, 10, 13, 30⟩, [⟨0, 10, 17, 18⟩], rfl, fun z hz => nomatch hz, by decide, by decide, wd_1058, by decide +kernel, by decide, Or.inr ⟨dL_latest_13, rfl⟩⟩, List.forall_mem_cons.mpr ⟨⟨[⟨0, 10, 13, 30⟩], ⟨0, 10, 17, 18⟩, [], rfl, fun z hz => (List.mem_singleton.mp hz) ▸ ⟨by decide, "java/lang/IndexOutOfBoundsException", wd_1058, by decide +kernel⟩, by decide, by decide, wd_1008, by decide +kernel, by decide, Or.inr ⟨dL_latest_17, rfl⟩⟩, fun _ h => absurd h List.not_mem_nil⟩⟩) (qa_wl [1206, 1207, 1208, 72, 1209] (by decide +kernel) (by decide +kernel)) ⟨rfl, by decide +kernel, by decide +kernel, by decide +kernel⟩ ⟨Nat.le_of_ble_eq_true rfl, Nat.le_of_ble_eq_true rfl⟩ dL_latest_5 (ok_i2l C dL_latest_8 (ok_lastore C dL_latest_9 (ok_goto C dL_latest_10 (by decide)))))))))
    | 1, hj => obtain rfl := Option.some.inj hj; exact ok_iconst C (by decide) dL_latest_15 (ok_iret C hr dL_latest_16)
    | 2, hj => obtain rfl := Option.some.inj hj; exact ok_iconst C (by decide) dL_latest_19 (ok_iret C hr dL_latest_20)
    | 3, hj => obtain rfl := Option.some.inj hj; exact ok_iconst C (by decide) dL_latest_21 (ok_iret C hr dL_latest_22)
    | (_ + 4), hj => exact nomatch hj)
noncomputable def B_L_mean_0 : qI := q_load 1 2 (q_const (0, 0) (q_load 1 0 (q_load 0 1 (q_callh 13 f_X11_mean 2 [(1, 1, 3)] (q_ast 107 4 (q_goto 2))))))
noncomputable def B_L_mean_1 : qI := q_const (0, 1) (q_ret 0)
noncomputable def B_L_mean_2 : qI := q_const (0, 0) (q_ret 0)
noncomputable def P_L_mean : qP := [B_L_mean_0, B_L_mean_1, B_L_mean_2]
noncomputable def f_L_mean : List qV → qA → Option qR := qa_fn P_L_mean 4
def pc_L_mean : Nat → Nat := fun j => [0, 12, 14].getD j 0
set_option maxRecDepth 100000 in
set_option maxHeartbeats 4000000 in
theorem kon_L_mean (l : Launch) (hl : l.stackTraces = false) : qa_ConH l yL_mean cL_mean 4 (some .int) [(0, 8, 11, 30)] 10 165 f_L_mean :=
  qa_methodH (pcs := pc_L_mean) (by decide +kernel) rfl (fun C hr hn htab j f hj => by
    match j, hj with
    | 0, hj => obtain rfl := Option.some.inj hj; exact ok_aload_n C rfl dL_mean_0 (ok_iconst C (by decide) dL_mean_1 (ok_aload_n C rfl dL_mean_2 (ok_iload_n C rfl dL_mean_3 (ok_callh C htab rfl (by decide) (kon_X11_mean l hl) (List.forall_mem_cons.mpr ⟨⟨[], ⟨0, 8, 11, 30⟩, [], rfl, fun z hz => nomatch hz, by decide, by decide, wd_1058, by decide +kernel, by decide, Or.inl ⟨3, dL_mean_11, rfl, rfl⟩⟩, fun _ h => absurd h List.not_mem_nil⟩) (qa_wl [1217, 1218, 1219, 72, 1220] (by decide +kernel) (by decide +kernel)) ⟨rfl, by decide +kernel, by decide +kernel, by decide +kernel⟩ ⟨Nat.le_of_ble_eq_true rfl, Nat.le_of_ble_eq_true rfl⟩ dL_mean_4 (ok_dastore C dL_mean_7 (ok_goto C dL_mean_8 (by decide)))))))
    | 1, hj => obtain rfl := Option.some.inj hj; exact ok_iconst C (by decide) dL_mean_12 (ok_iret C hr dL_mean_13)
    | 2, hj => obtain rfl := Option.some.inj hj; exact ok_iconst C (by decide) dL_mean_14 (ok_iret C hr dL_mean_15)
    | (_ + 3), hj => exact nomatch hj)
noncomputable def B_L_trust_0 : qI := q_load 1 2 (q_const (0, 0) (q_load 1 0 (q_load 0 1 (q_callh 13 f_X11_trust 2 [(1, 1, 3)] (q_f2d (q_ast 107 4 (q_goto 2)))))))
noncomputable def B_L_trust_1 : qI := q_const (0, 1) (q_ret 0)
noncomputable def B_L_trust_2 : qI := q_const (0, 0) (q_ret 0)
noncomputable def P_L_trust : qP := [B_L_trust_0, B_L_trust_1, B_L_trust_2]
noncomputable def f_L_trust : List qV → qA → Option qR := qa_fn P_L_trust 4
def pc_L_trust : Nat → Nat := fun j => [0, 13, 15].getD j 0
set_option maxRecDepth 100000 in
set_option maxHeartbeats 4000000 in
theorem kon_L_trust (l : Launch) (hl : l.stackTraces = false) : qa_ConH l yL_trust cL_trust 4 (some .int) [(0, 9, 12, 30)] 10 165 f_L_trust :=
  qa_methodH (pcs := pc_L_trust) (by decide +kernel) rfl (fun C hr hn htab j f hj => by
    match j, hj with
    | 0, hj => obtain rfl := Option.some.inj hj; exact ok_aload_n C rfl dL_trust_0 (ok_iconst C (by decide) dL_trust_1 (ok_aload_n C rfl dL_trust_2 (ok_iload_n C rfl dL_trust_3 (ok_callh C htab rfl (by decide) (kon_X11_trust l hl) (List.forall_mem_cons.mpr ⟨⟨[], ⟨0, 9, 12, 30⟩, [], rfl, fun z hz => nomatch hz, by decide, by decide, wd_1058, by decide +kernel, by decide, Or.inl ⟨3, dL_trust_12, rfl, rfl⟩⟩, fun _ h => absurd h List.not_mem_nil⟩) (qa_wl [1228, 1229, 1230, 72, 1231] (by decide +kernel) (by decide +kernel)) ⟨rfl, by decide +kernel, by decide +kernel, by decide +kernel⟩ ⟨Nat.le_of_ble_eq_true rfl, Nat.le_of_ble_eq_true rfl⟩ dL_trust_4 (ok_f2d C dL_trust_7 (ok_dastore C dL_trust_8 (ok_goto C dL_trust_9 (by decide))))))))
    | 1, hj => obtain rfl := Option.some.inj hj; exact ok_iconst C (by decide) dL_trust_13 (ok_iret C hr dL_trust_14)
    | 2, hj => obtain rfl := Option.some.inj hj; exact ok_iconst C (by decide) dL_trust_15 (ok_iret C hr dL_trust_16)
    | (_ + 3), hj => exact nomatch hj)
noncomputable def B_L_ahead_0 : qI := q_load 1 3 (q_const (0, 0) (q_load 1 0 (q_load 0 1 (q_load 0 2 (q_callh 13 f_X11_ahead 3 [(2, 1, 4)] (q_i2l (q_ast 105 2 (q_goto 2))))))))
noncomputable def B_L_ahead_1 : qI := q_const (0, 1) (q_ret 0)
noncomputable def B_L_ahead_2 : qI := q_const (0, 0) (q_ret 0)
noncomputable def P_L_ahead : qP := [B_L_ahead_0, B_L_ahead_1, B_L_ahead_2]
noncomputable def f_L_ahead : List qV → qA → Option qR := qa_fn P_L_ahead 5
def pc_L_ahead : Nat → Nat := fun j => [0, 15, 17].getD j 0
set_option maxRecDepth 100000 in
set_option maxHeartbeats 4000000 in
theorem kon_L_ahead (l : Launch) (hl : l.stackTraces = false) : qa_ConH l yL_ahead cL_ahead 5 (some .int) [(0, 10, 13, 18)] 10 208 f_L_ahead :=
  qa_methodH (pcs := pc_L_ahead) (by decide +kernel) rfl (fun C hr hn htab j f hj => by
    match j, hj with
    | 0, hj => obtain rfl := Option.some.inj hj; exact ok_aload_n C rfl dL_ahead_0 (ok_iconst C (by decide) dL_ahead_1 (ok_aload_n C rfl dL_ahead_2 (ok_iload_n C rfl dL_ahead_3 (ok_iload_n C rfl dL_ahead_4 (ok_callh C htab rfl (by decide) (kon_X11_ahead l hl) (List.forall_mem_cons.mpr ⟨⟨[], ⟨0, 10, 13, 18⟩, [], rfl, fun z hz => nomatch hz, by decide, by decide, wd_1008, by decide +kernel, by decide, Or.inr ⟨dL_ahead_13, rfl⟩⟩, fun _ h => absurd h List.not_mem_nil⟩) (qa_wl [1235, 1236, 1237, 72, 1238] (by decide +kernel) (by decide +kernel)) ⟨rfl, by decide +kernel, by decide +kernel, by decide +kernel⟩ ⟨Nat.le_of_ble_eq_true rfl, Nat.le_of_ble_eq_true rfl⟩ dL_ahead_5 (ok_i2l C dL_ahead_8 (ok_lastore C dL_ahead_9 (ok_goto C dL_ahead_10 (by decide)))))))))
    | 1, hj => obtain rfl := Option.some.inj hj; exact ok_iconst C (by decide) dL_ahead_15 (ok_iret C hr dL_ahead_16)
    | 2, hj => obtain rfl := Option.some.inj hj; exact ok_iconst C (by decide) dL_ahead_17 (ok_iret C hr dL_ahead_18)
    | (_ + 3), hj => exact nomatch hj)
noncomputable def B_L_losesIn_0 : qI := q_load 1 3 (q_const (0, 0) (q_load 1 0 (q_load 0 1 (q_load 0 2 (q_callh 13 f_X11_losesIn 3 [(1, 1, 4), (2, 2, 4)] (q_i2l (q_ast 105 2 (q_goto 3))))))))
noncomputable def B_L_losesIn_1 : qI := q_const (0, 1) (q_ret 0)
noncomputable def B_L_losesIn_2 : qI := q_const (0, 2) (q_ret 0)
noncomputable def B_L_losesIn_3 : qI := q_const (0, 0) (q_ret 0)
noncomputable def P_L_losesIn : qP := [B_L_losesIn_0, B_L_losesIn_1, B_L_losesIn_2, B_L_losesIn_3]
noncomputable def f_L_losesIn : List qV → qA → Option qR := qa_fn P_L_losesIn 5
def pc_L_losesIn : Nat → Nat := fun j => [0, 15, 19, 21].getD j 0
set_option maxRecDepth 100000 in
set_option maxHeartbeats 4000000 in
theorem kon_L_losesIn (l : Launch) (hl : l.stackTraces = false) : qa_ConH l yL_losesIn cL_losesIn 5 (some .int) [(0, 10, 13, 30), (0, 10, 17, 18)] 10 208 f_L_losesIn :=
  qa_methodH (pcs := pc_L_losesIn) (by decide +kernel) rfl (fun C hr hn htab j f hj => by
    match j, hj with
    | 0, hj => obtain rfl := Option.some.inj hj; exact ok_aload_n C rfl dL_losesIn_0 (ok_iconst C (by decide) dL_losesIn_1 (ok_aload_n C rfl dL_losesIn_2 (ok_iload_n C rfl dL_losesIn_3 (ok_iload_n C rfl dL_losesIn_4 (ok_callh C htab rfl (by decide) (kon_X11_losesIn l hl) (List.forall_mem_cons.mpr ⟨⟨[], ⟨0, 10, 13, 30⟩, [⟨0, 10, 17, 18⟩], rfl, fun z hz => nomatch hz, by decide, by decide, wd_1058, by decide +kernel, by decide, Or.inr ⟨dL_losesIn_13, rfl⟩⟩, List.forall_mem_cons.mpr ⟨⟨[⟨0, 10, 13, 30⟩], ⟨0, 10, 17, 18⟩, [], rfl, fun z hz => (List.mem_singleton.mp hz) ▸ ⟨by decide, "java/lang/IndexOutOfBoundsException", wd_1058, by decide +kernel⟩, by decide, by decide, wd_1008, by decide +kernel, by decide, Or.inr ⟨dL_losesIn_17, rfl⟩⟩, fun _ h => absurd h List.not_mem_nil⟩⟩) (qa_wl [1255, 1256, 1257, 72, 1258] (by decide +kernel) (by decide +kernel)) ⟨rfl, by decide +kernel, by decide +kernel, by decide +kernel⟩ ⟨Nat.le_of_ble_eq_true rfl, Nat.le_of_ble_eq_true rfl⟩ dL_losesIn_5 (ok_i2l C dL_losesIn_8 (ok_lastore C dL_losesIn_9 (ok_goto C dL_losesIn_10 (by decide)))))))))
    | 1, hj => obtain rfl := Option.some.inj hj; exact ok_iconst C (by decide) dL_losesIn_15 (ok_iret C hr dL_losesIn_16)
    | 2, hj => obtain rfl := Option.some.inj hj; exact ok_iconst C (by decide) dL_losesIn_19 (ok_iret C hr dL_losesIn_20)
    | 3, hj => obtain rfl := Option.some.inj hj; exact ok_iconst C (by decide) dL_losesIn_21 (ok_iret C hr dL_losesIn_22)
    | (_ + 4), hj => exact nomatch hj)
noncomputable def B_L_wouldCut_0 : qI := q_load 1 3 (q_const (0, 0) (q_load 1 0 (q_load 0 1 (q_load 0 2 (q_callh 13 f_X11_wouldCut 3 [(1, 1, 4), (2, 2, 4)] (q_i2l (q_ast 105 2 (q_goto 3))))))))
noncomputable def B_L_wouldCut_1 : qI := q_const (0, 1) (q_ret 0)
noncomputable def B_L_wouldCut_2 : qI := q_const (0, 2) (q_ret 0)
noncomputable def B_L_wouldCut_3 : qI := q_const (0, 0) (q_ret 0)
noncomputable def P_L_wouldCut : qP := [B_L_wouldCut_0, B_L_wouldCut_1, B_L_wouldCut_2, B_L_wouldCut_3]
noncomputable def f_L_wouldCut : List qV → qA → Option qR := qa_fn P_L_wouldCut 5
def pc_L_wouldCut : Nat → Nat := fun j => [0, 15, 19, 21].getD j 0
set_option maxRecDepth 100000 in
set_option maxHeartbeats 4000000 in
theorem kon_L_wouldCut (l : Launch) (hl : l.stackTraces = false) : qa_ConH l yL_wouldCut cL_wouldCut 5 (some .int) [(0, 10, 13, 30), (0, 10, 17, 18)] 10 207 f_L_wouldCut :=
  qa_methodH (pcs := pc_L_wouldCut) (by decide +kernel) rfl (fun C hr hn htab j f hj => by
    match j, hj with
    | 0, hj => obtain rfl := Option.some.inj hj; exact ok_aload_n C rfl dL_wouldCut_0 (ok_iconst C (by decide) dL_wouldCut_1 (ok_aload_n C rfl dL_wouldCut_2 (ok_iload_n C rfl dL_wouldCut_3 (ok_iload_n C rfl dL_wouldCut_4 (ok_callh C htab rfl (by decide) (kon_X11_wouldCut l hl) (List.forall_mem_cons.mpr ⟨⟨[], ⟨0, 10, 13, 30⟩, [⟨0, 10, 17, 18⟩], rfl, fun z hz => nomatch hz, by decide, by decide, wd_1058, by decide +kernel, by decide, Or.inr ⟨dL_wouldCut_13, rfl⟩⟩, List.forall_mem_cons.mpr ⟨⟨[⟨0, 10, 13, 30⟩], ⟨0, 10, 17, 18⟩, [], rfl, fun z hz => (List.mem_singleton.mp hz) ▸ ⟨by decide, "java/lang/IndexOutOfBoundsException", wd_1058, by decide +kernel⟩, by decide, by decide, wd_1008, by decide +kernel, by decide, Or.inr ⟨dL_wouldCut_17, rfl⟩⟩, fun _ h => absurd h List.not_mem_nil⟩⟩) (qa_wl [1267, 1268, 1269, 72, 1270] (by decide +kernel) (by decide +kernel)) ⟨rfl, by decide +kernel, by decide +kernel, by decide +kernel⟩ ⟨Nat.le_of_ble_eq_true rfl, Nat.le_of_ble_eq_true rfl⟩ dL_wouldCut_5 (ok_i2l C dL_wouldCut_8 (ok_lastore C dL_wouldCut_9 (ok_goto C dL_wouldCut_10 (by decide)))))))))
    | 1, hj => obtain rfl := Option.some.inj hj; exact ok_iconst C (by decide) dL_wouldCut_15 (ok_iret C hr dL_wouldCut_16)
    | 2, hj => obtain rfl := Option.some.inj hj; exact ok_iconst C (by decide) dL_wouldCut_19 (ok_iret C hr dL_wouldCut_20)
    | 3, hj => obtain rfl := Option.some.inj hj; exact ok_iconst C (by decide) dL_wouldCut_21 (ok_iret C hr dL_wouldCut_22)
    | (_ + 4), hj => exact nomatch hj)
noncomputable def B_L_unread_0 : qI := q_load 1 3 (q_const (0, 0) (q_load 1 0 (q_load 0 1 (q_load 0 2 (q_callh 13 f_X11_unread 3 [(1, 1, 4), (2, 2, 4)] (q_i2l (q_ast 105 2 (q_goto 3))))))))
noncomputable def B_L_unread_1 : qI := q_const (0, 1) (q_ret 0)
noncomputable def B_L_unread_2 : qI := q_const (0, 2) (q_ret 0)
noncomputable def B_L_unread_3 : qI := q_const (0, 0) (q_ret 0)
noncomputable def P_L_unread : qP := [B_L_unread_0, B_L_unread_1, B_L_unread_2, B_L_unread_3]
noncomputable def f_L_unread : List qV → qA → Option qR := qa_fn P_L_unread 5
def pc_L_unread : Nat → Nat := fun j => [0, 15, 19, 21].getD j 0
set_option maxRecDepth 100000 in
set_option maxHeartbeats 4000000 in
theorem kon_L_unread (l : Launch) (hl : l.stackTraces = false) : qa_ConH l yL_unread cL_unread 5 (some .int) [(0, 10, 13, 30), (0, 10, 17, 18)] 10 165 f_L_unread :=
  qa_methodH (pcs := pc_L_unread) (by decide +kernel) rfl (fun C hr hn htab j f hj => by
    match j, hj with
    | 0, hj => obtain rfl := Option.some.inj hj; exact ok_aload_n C rfl dL_unread_0 (ok_iconst C (by decide) dL_unread_1 (ok_aload_n C rfl dL_unread_2 (ok_iload_n C rfl dL_unread_3 (ok_iload_n C rfl dL_unread_4 (ok_callh C htab rfl (by decide) (kon_X11_unread l hl) (List.forall_mem_cons.mpr ⟨⟨[], ⟨0, 10, 13, 30⟩, [⟨0, 10, 17, 18⟩], rfl, fun z hz => nomatch hz, by decide, by decide, wd_1058, by decide +kernel, by decide, Or.inr ⟨dL_unread_13, rfl⟩⟩, List.forall_mem_cons.mpr ⟨⟨[⟨0, 10, 13, 30⟩], ⟨0, 10, 17, 18⟩, [], rfl, fun z hz => (List.mem_singleton.mp hz) ▸ ⟨by decide, "java/lang/IndexOutOfBoundsException", wd_1058, by decide +kernel⟩, by decide, by decide, wd_1008, by decide +kernel, by decide, Or.inr ⟨dL_unread_17, rfl⟩⟩, fun _ h => absurd h List.not_mem_nil⟩⟩) (qa_wl [1274, 1275, 1276, 72, 1277] (by decide +kernel) (by decide +kernel)) ⟨rfl, by decide +kernel, by decide +kernel, by decide +kernel⟩ ⟨Nat.le_of_ble_eq_true rfl, Nat.le_of_ble_eq_true rfl⟩ dL_unread_5 (ok_i2l C dL_unread_8 (ok_lastore C dL_unread_9 (ok_goto C dL_unread_10 (by decide)))))))))
    | 1, hj => obtain rfl := Option.some.inj hj; exact ok_iconst C (by decide) dL_unread_15 (ok_iret C hr dL_unread_16)
    | 2, hj => obtain rfl := Option.some.inj hj; exact ok_iconst C (by decide) dL_unread_19 (ok_iret C hr dL_unread_20)
    | 3, hj => obtain rfl := Option.some.inj hj; exact ok_iconst C (by decide) dL_unread_21 (ok_iret C hr dL_unread_22)
    | (_ + 4), hj => exact nomatch hj)
noncomputable def B_L_promised_0 : qI := q_load 1 2 (q_const (0, 0) (q_load 1 0 (q_load 0 1 (q_callh 13 f_X11_promised 2 [(1, 1, 3)] (q_i2l (q_ast 105 2 (q_goto 2)))))))
noncomputable def B_L_promised_1 : qI := q_const (0, 1) (q_ret 0)
noncomputable def B_L_promised_2 : qI := q_const (0, 0) (q_ret 0)
noncomputable def P_L_promised : qP := [B_L_promised_0, B_L_promised_1, B_L_promised_2]
noncomputable def f_L_promised : List qV → qA → Option qR := qa_fn P_L_promised 4
def pc_L_promised : Nat → Nat := fun j => [0, 13, 15].getD j 0
set_option maxRecDepth 100000 in
set_option maxHeartbeats 4000000 in
theorem kon_L_promised (l : Launch) (hl : l.stackTraces = false) : qa_ConH l yL_promised cL_promised 4 (some .int) [(0, 9, 12, 30)] 9 141 f_L_promised :=
  qa_methodH (pcs := pc_L_promised) (by decide +kernel) rfl (fun C hr hn htab j f hj => by
    match j, hj with
    | 0, hj => obtain rfl := Option.some.inj hj; exact ok_aload_n C rfl dL_promised_0 (ok_iconst C (by decide) dL_promised_1 (ok_aload_n C rfl dL_promised_2 (ok_iload_n C rfl dL_promised_3 (ok_callh C htab rfl (by decide) (kon_X11_promised l hl) (List.forall_mem_cons.mpr ⟨⟨[], ⟨0, 9, 12, 30⟩, [], rfl, fun z hz => nomatch hz, by decide, by decide, wd_1058, by decide +kernel, by decide, Or.inl ⟨3, dL_promised_12, rfl, rfl⟩⟩, fun _ h => absurd h List.not_mem_nil⟩) (qa_wl [1285, 1286, 1287, 72, 1288] (by decide +kernel) (by decide +kernel)) ⟨rfl, by decide +kernel, by decide +kernel, by decide +kernel⟩ ⟨Nat.le_of_ble_eq_true rfl, Nat.le_of_ble_eq_true rfl⟩ dL_promised_4 (ok_i2l C dL_promised_7 (ok_lastore C dL_promised_8 (ok_goto C dL_promised_9 (by decide))))))))
    | 1, hj => obtain rfl := Option.some.inj hj; exact ok_iconst C (by decide) dL_promised_13 (ok_iret C hr dL_promised_14)
    | 2, hj => obtain rfl := Option.some.inj hj; exact ok_iconst C (by decide) dL_promised_15 (ok_iret C hr dL_promised_16)
    | (_ + 3), hj => exact nomatch hj)
noncomputable def B_L_age_0 : qI := q_load 1 2 (q_const (0, 0) (q_load 1 0 (q_load 0 1 (q_callh 13 f_X11_age 2 [(1, 1, 3)] (q_i2l (q_ast 105 2 (q_goto 2)))))))
noncomputable def B_L_age_1 : qI := q_const (0, 1) (q_ret 0)
noncomputable def B_L_age_2 : qI := q_const (0, 0) (q_ret 0)
noncomputable def P_L_age : qP := [B_L_age_0, B_L_age_1, B_L_age_2]
noncomputable def f_L_age : List qV → qA → Option qR := qa_fn P_L_age 4
def pc_L_age : Nat → Nat := fun j => [0, 13, 15].getD j 0
set_option maxRecDepth 100000 in
set_option maxHeartbeats 4000000 in
theorem kon_L_age (l : Launch) (hl : l.stackTraces = false) : qa_ConH l yL_age cL_age 4 (some .int) [(0, 9, 12, 30)] 10 165 f_L_age :=
  qa_methodH (pcs := pc_L_age) (by decide +kernel) rfl (fun C hr hn htab j f hj => by
    match j, hj with
    | 0, hj => obtain rfl := Option.some.inj hj; exact ok_aload_n C rfl dL_age_0 (ok_iconst C (by decide) dL_age_1 (ok_aload_n C rfl dL_age_2 (ok_iload_n C rfl dL_age_3 (ok_callh C htab rfl (by decide) (kon_X11_age l hl) (List.forall_mem_cons.mpr ⟨⟨[], ⟨0, 9, 12, 30⟩, [], rfl, fun z hz => nomatch hz, by decide, by decide, wd_1058, by decide +kernel, by decide, Or.inl ⟨3, dL_age_12, rfl, rfl⟩⟩, fun _ h => absurd h List.not_mem_nil⟩) (qa_wl [1301, 1302, 1303, 72, 1304] (by decide +kernel) (by decide +kernel)) ⟨rfl, by decide +kernel, by decide +kernel, by decide +kernel⟩ ⟨Nat.le_of_ble_eq_true rfl, Nat.le_of_ble_eq_true rfl⟩ dL_age_4 (ok_i2l C dL_age_7 (ok_lastore C dL_age_8 (ok_goto C dL_age_9 (by decide))))))))
    | 1, hj => obtain rfl := Option.some.inj hj; exact ok_iconst C (by decide) dL_age_13 (ok_iret C hr dL_age_14)
    | 2, hj => obtain rfl := Option.some.inj hj; exact ok_iconst C (by decide) dL_age_15 (ok_iret C hr dL_age_16)
    | (_ + 3), hj => exact nomatch hj)
noncomputable def B_L_write_0 : qI := q_load 1 2 (q_const (0, 0) (q_load 1 0 (q_load 0 1 (q_callh 13 f_X11_write 2 [(1, 1, 3)] (q_i2l (q_ast 105 2 (q_goto 2)))))))
noncomputable def B_L_write_1 : qI := q_const (0, 1) (q_ret 0)
noncomputable def B_L_write_2 : qI := q_const (0, 0) (q_ret 0)
noncomputable def P_L_write : qP := [B_L_write_0, B_L_write_1, B_L_write_2]
noncomputable def f_L_write : List qV → qA → Option qR := qa_fn P_L_write 4
def pc_L_write : Nat → Nat := fun j => [0, 13, 15].getD j 0
set_option maxRecDepth 100000 in
set_option maxHeartbeats 4000000 in
theorem kon_L_write (l : Launch) (hl : l.stackTraces = false) : qa_ConH l yL_write cL_write 4 (some .int) [(0, 9, 12, 30)] 10 254 f_L_write :=
  qa_methodH (pcs := pc_L_write) (by decide +kernel) rfl (fun C hr hn htab j f hj => by
    match j, hj with
    | 0, hj => obtain rfl := Option.some.inj hj; exact ok_aload_n C rfl dL_write_0 (ok_iconst C (by decide) dL_write_1 (ok_aload_n C rfl dL_write_2 (ok_iload_n C rfl dL_write_3 (ok_callh C htab rfl (by decide) (kon_X11_write l hl) (List.forall_mem_cons.mpr ⟨⟨[], ⟨0, 9, 12, 30⟩, [], rfl, fun z hz => nomatch hz, by decide, by decide, wd_1058, by decide +kernel, by decide, Or.inl ⟨3, dL_write_12, rfl, rfl⟩⟩, fun _ h => absurd h List.not_mem_nil⟩) (qa_wl [1308, 1309, 1310, 72, 1311] (by decide +kernel) (by decide +kernel)) ⟨rfl, by decide +kernel, by decide +kernel, by decide +kernel⟩ ⟨Nat.le_of_ble_eq_true rfl, Nat.le_of_ble_eq_true rfl⟩ dL_write_4 (ok_i2l C dL_write_7 (ok_lastore C dL_write_8 (ok_goto C dL_write_9 (by decide))))))))
    | 1, hj => obtain rfl := Option.some.inj hj; exact ok_iconst C (by decide) dL_write_13 (ok_iret C hr dL_write_14)
    | 2, hj => obtain rfl := Option.some.inj hj; exact ok_iconst C (by decide) dL_write_15 (ok_iret C hr dL_write_16)
    | (_ + 3), hj => exact nomatch hj)
noncomputable def B_L_save_0 : qI := q_load 1 0 (q_load 0 1 (q_callh 13 f_X11_save 2 [(2, 1, 2)] (q_goto 2)))
noncomputable def B_L_save_1 : qI := q_const (0, 1) (q_ret 0)
noncomputable def B_L_save_2 : qI := q_const (0, 0) (q_ret 0)
noncomputable def P_L_save : qP := [B_L_save_0, B_L_save_1, B_L_save_2]
noncomputable def f_L_save : List qV → qA → Option qR := qa_fn P_L_save 3
def pc_L_save : Nat → Nat := fun j => [0, 9, 11].getD j 0
set_option maxRecDepth 100000 in
set_option maxHeartbeats 4000000 in
theorem kon_L_save (l : Launch) (hl : l.stackTraces = false) : qa_ConH l yL_save cL_save 3 (some .int) [(0, 5, 8, 18)] 10 206 f_L_save :=
  qa_methodH (pcs := pc_L_save) (by decide +kernel) rfl (fun C hr hn htab j f hj => by
    match j, hj with
    | 0, hj => obtain rfl := Option.some.inj hj; exact ok_aload_n C rfl dL_save_0 (ok_iload_n C rfl dL_save_1 (ok_callh C htab rfl (by decide) (kon_X11_save l hl) (List.forall_mem_cons.mpr ⟨⟨[], ⟨0, 5, 8, 18⟩, [], rfl, fun z hz => nomatch hz, by decide, by decide, wd_1008, by decide +kernel, by decide, Or.inl ⟨2, dL_save_8, rfl, rfl⟩⟩, fun _ h => absurd h List.not_mem_nil⟩) (qa_wl [1588, 1589, 1590, 72, 1591] (by decide +kernel) (by decide +kernel)) ⟨rfl, by decide +kernel, by decide +kernel, by decide +kernel⟩ ⟨Nat.le_of_ble_eq_true rfl, Nat.le_of_ble_eq_true rfl⟩ dL_save_2 (ok_goto C dL_save_5 (by decide))))
    | 1, hj => obtain rfl := Option.some.inj hj; exact ok_iconst C (by decide) dL_save_9 (ok_iret C hr dL_save_10)
    | 2, hj => obtain rfl := Option.some.inj hj; exact ok_iconst C (by decide) dL_save_11 (ok_iret C hr dL_save_12)
    | (_ + 3), hj => exact nomatch hj)
noncomputable def B_L_restore_0 : qI := q_load 1 0 (q_load 0 1 (q_callh 13 f_X11_restore 2 [(2, 1, 2), (3, 2, 2)] (q_goto 3)))
noncomputable def B_L_restore_1 : qI := q_const (0, 1) (q_ret 0)
noncomputable def B_L_restore_2 : qI := q_const (0, 2) (q_ret 0)
noncomputable def B_L_restore_3 : qI := q_const (0, 0) (q_ret 0)
noncomputable def P_L_restore : qP := [B_L_restore_0, B_L_restore_1, B_L_restore_2, B_L_restore_3]
noncomputable def f_L_restore : List qV → qA → Option qR := qa_fn P_L_restore 3
def pc_L_restore : Nat → Nat := fun j => [0, 9, 12, 14].getD j 0
set_option maxRecDepth 100000 in
set_option maxHeartbeats 4000000 in
theorem kon_L_restore (l : Launch) (hl : l.stackTraces = false) : qa_ConH l yL_restore cL_restore 3 (some .int) [(0, 5, 8, 18), (0, 5, 11, 13)] 10 206 f_L_restore :=
  qa_methodH (pcs := pc_L_restore) (by decide +kernel) rfl (fun C hr hn htab j f hj => by
    match j, hj with
    | 0, hj => obtain rfl := Option.some.inj hj; exact ok_aload_n C rfl dL_restore_0 (ok_iload_n C rfl dL_restore_1 (ok_callh C htab rfl (by decide) (kon_X11_restore l hl) (List.forall_mem_cons.mpr ⟨⟨[], ⟨0, 5, 8, 18⟩, [⟨0, 5, 11, 13⟩], rfl, fun z hz => nomatch hz, by decide, by decide, wd_1008, by decide +kernel, by decide, Or.inl ⟨2, dL_restore_8, rfl, rfl⟩⟩, List.forall_mem_cons.mpr ⟨⟨[⟨0, 5, 8, 18⟩], ⟨0, 5, 11, 13⟩, [], rfl, fun z hz => (List.mem_singleton.mp hz) ▸ ⟨by decide, "java/lang/IllegalArgumentException", wd_1008, by decide +kernel⟩, by decide, by decide, wd_977, by decide +kernel, by decide, Or.inl ⟨2, dL_restore_11, rfl, rfl⟩⟩, fun _ h => absurd h List.not_mem_nil⟩⟩) (qa_wl [1595, 1596, 1597, 72, 1598] (by decide +kernel) (by decide +kernel)) ⟨rfl, by decide +kernel, by decide +kernel, by decide +kernel⟩ ⟨Nat.le_of_ble_eq_true rfl, Nat.le_of_ble_eq_true rfl⟩ dL_restore_2 (ok_goto C dL_restore_5 (by decide))))
    | 1, hj => obtain rfl := Option.some.inj hj; exact ok_iconst C (by decide) dL_restore_9 (ok_iret C hr dL_restore_10)
    | 2, hj => obtain rfl := Option.some.inj hj; exact ok_iconst C (by decide) dL_restore_12 (ok_iret C hr dL_restore_13)
    | 3, hj => obtain rfl := Option.some.inj hj; exact ok_iconst C (by decide) dL_restore_14 (ok_iret C hr dL_restore_15)
    | (_ + 4), hj => exact nomatch hj)
noncomputable def B_L_law_0 (L : Nat) (xs : Nat → Int32) : qI := q_new 13 8 z_X11 (q_dup (q_callv 13 f_X11_init 1 (q_store 1 1 (q_new 14 28 z_X12 (q_dup (q_callv 14 f_X12_init 1 (q_store 1 2 (q_const (0, 1) (q_newa 105 0 (q_store 1 3 (q_const (0, 1) (q_newa 107 0 (q_store 1 4 (q_const (0, 0) (q_store 0 5 (q_goto 1))))))))))))))))
noncomputable def B_L_law_1 (L : Nat) (xs : Nat → Int32) : qI := q_load 0 5 (q_load 1 0 (q_xlen L (q_const (0, 5) (q_isub (q_cmpgt 140 (q_load 1 0 (q_load 0 5 (q_xld L xs (q_const (0, 63) (q_iand (q_switch (0) [2, 5, 8, 9, 10, 11, 15, 18, 22, 26, 30, 34, 38, 42, 45, 49, 56, 59, 63, 67, 71, 74, 77, 80, 83, 87, 90, 93, 96, 100, 104, 108, 112, 116, 120, 124, 127, 130, 133, 134, 135, 137] 139)))))))))))
noncomputable def B_L_law_2 (L : Nat) (xs : Nat → Int32) : qI := q_load 1 1 (q_load 1 0 (q_load 0 5 (q_const (0, 1) (q_iadd (q_xld L xs (q_load 1 3 (q_call f_L_appendText 3 (q_store 0 6 (q_load 1 2 (q_load 1 0 (q_load 0 5 (q_const (0, 1) (q_iadd (q_xld L xs (q_callv 14 f_X12_appendText 2 (q_store 0 7 (q_load 1 2 (q_callv 14 f_X12_thrown 1 (q_load 0 6 (q_cmpeq 3 (q_const (0, 0) (q_retz))))))))))))))))))))))
noncomputable def B_L_law_3 (L : Nat) (xs : Nat → Int32) : qI := q_load 0 6 (q_ifne 4 (q_load 1 3 (q_const (0, 0) (q_ald 105 2 (q_load 0 7 (q_i2l (q_lcmp (q_ifeq 4 (q_const (0, 0) (q_retz))))))))))
noncomputable def B_L_law_4 (L : Nat) (xs : Nat → Int32) : qI := q_goto 139
noncomputable def B_L_law_5 (L : Nat) (xs : Nat → Int32) : qI := q_load 1 1 (q_load 1 0 (q_load 0 5 (q_const (0, 1) (q_iadd (q_xld L xs (q_load 1 3 (q_call f_L_truncateText 3 (q_store 0 6 (q_load 1 2 (q_load 1 0 (q_load 0 5 (q_const (0, 1) (q_iadd (q_xld L xs (q_callv 14 f_X12_truncateText 2 (q_store 0 7 (q_load 1 2 (q_callv 14 f_X12_thrown 1 (q_load 0 6 (q_cmpeq 6 (q_const (0, 0) (q_retz))))))))))))))))))))))
noncomputable def B_L_law_6 (L : Nat) (xs : Nat → Int32) : qI := q_load 0 6 (q_ifne 7 (q_load 1 3 (q_const (0, 0) (q_ald 105 2 (q_load 0 7 (q_i2l (q_lcmp (q_ifeq 7 (q_const (0, 0) (q_retz))))))))))
noncomputable def B_L_law_7 (L : Nat) (xs : Nat → Int32) : qI := q_goto 139
noncomputable def B_L_law_8 (L : Nat) (xs : Nat → Int32) : qI := q_load 1 1 (q_callv 13 f_X11_runScript 1 (q_load 1 2 (q_callv 14 f_X12_runScript 1 (q_cmpeq 139 (q_const (0, 0) (q_retz))))))
noncomputable def B_L_law_9 (L : Nat) (xs : Nat → Int32) : qI := q_load 1 1 (q_callv 13 f_X11_errorCode 1 (q_load 1 2 (q_callv 14 f_X12_errorCode 1 (q_cmpeq 139 (q_const (0, 0) (q_retz))))))
noncomputable def B_L_law_10 (L : Nat) (xs : Nat → Int32) : qI := q_load 1 1 (q_callv 13 f_X11_errorPosition 1 (q_load 1 2 (q_callv 14 f_X12_errorPosition 1 (q_cmpeq 139 (q_const (0, 0) (q_retz))))))
noncomputable def B_L_law_11 (L : Nat) (xs : Nat → Int32) : qI := q_load 1 1 (q_load 1 0 (q_load 0 5 (q_const (0, 1) (q_iadd (q_xld L xs (q_load 1 0 (q_load 0 5 (q_const (0, 2) (q_iadd (q_xld L xs (q_load 1 3 (q_call f_L_set 4 (q_store 0 6 (q_load 1 2 (q_load 1 0 (q_load 0 5 (q_const (0, 1) (q_iadd (q_xld L xs (q_load 1 0 (q_load 0 5 (q_const (0, 2) (q_iadd (q_xld L xs (q_callv 14 f_X12_set 3 (q_store 0 7 (q_load 1 2 (q_callv 14 f_X12_thrown 1 (q_load 0 6 (q_goto 12))))))))))))))))))))))))))))))
noncomputable def B_L_law_12 (L : Nat) (xs : Nat → Int32) : qI := q_cmpeq 13 (q_const (0, 0) (q_retz))
noncomputable def B_L_law_13 (L : Nat) (xs : Nat → Int32) : qI := q_load 0 6 (q_ifne 14 (q_load 1 3 (q_const (0, 0) (q_ald 105 2 (q_load 0 7 (q_i2l (q_lcmp (q_ifeq 14 (q_const (0, 0) (q_retz))))))))))
noncomputable def B_L_law_14 (L : Nat) (xs : Nat → Int32) : qI := q_goto 139
noncomputable def B_L_law_15 (L : Nat) (xs : Nat → Int32) : qI := q_load 1 1 (q_load 1 0 (q_load 0 5 (q_const (0, 1) (q_iadd (q_xld L xs (q_load 1 3 (q_call f_L_count 3 (q_store 0 6 (q_load 1 2 (q_load 1 0 (q_load 0 5 (q_const (0, 1) (q_iadd (q_xld L xs (q_callv 14 f_X12_count 2 (q_store 0 7 (q_load 1 2 (q_callv 14 f_X12_thrown 1 (q_load 0 6 (q_cmpeq 16 (q_const (0, 0) (q_retz))))))))))))))))))))))
noncomputable def B_L_law_16 (L : Nat) (xs : Nat → Int32) : qI := q_load 0 6 (q_ifne 17 (q_load 1 3 (q_const (0, 0) (q_ald 105 2 (q_load 0 7 (q_i2l (q_lcmp (q_ifeq 17 (q_const (0, 0) (q_retz))))))))))
noncomputable def B_L_law_17 (L : Nat) (xs : Nat → Int32) : qI := q_goto 139
noncomputable def B_L_law_18 (L : Nat) (xs : Nat → Int32) : qI := q_load 1 1 (q_load 1 0 (q_load 0 5 (q_const (0, 1) (q_iadd (q_xld L xs (q_load 1 0 (q_load 0 5 (q_const (0, 2) (q_iadd (q_xld L xs (q_load 1 3 (q_call f_L_branch 4 (q_store 0 6 (q_load 1 2 (q_load 1 0 (q_load 0 5 (q_const (0, 1) (q_iadd (q_xld L xs (q_load 1 0 (q_load 0 5 (q_const (0, 2) (q_iadd (q_xld L xs (q_callv 14 f_X12_branch 3 (q_store 0 7 (q_load 1 2 (q_callv 14 f_X12_thrown 1 (q_load 0 6 (q_goto 19))))))))))))))))))))))))))))))
noncomputable def B_L_law_19 (L : Nat) (xs : Nat → Int32) : qI := q_cmpeq 20 (q_const (0, 0) (q_retz))
noncomputable def B_L_law_20 (L : Nat) (xs : Nat → Int32) : qI := q_load 0 6 (q_ifne 21 (q_load 1 3 (q_const (0, 0) (q_ald 105 2 (q_load 0 7 (q_i2l (q_lcmp (q_ifeq 21 (q_const (0, 0) (q_retz))))))))))
noncomputable def B_L_law_21 (L : Nat) (xs : Nat → Int32) : qI := q_goto 139
noncomputable def B_L_law_22 (L : Nat) (xs : Nat → Int32) : qI := q_load 1 1 (q_load 1 0 (q_load 0 5 (q_const (0, 1) (q_iadd (q_xld L xs (q_load 1 0 (q_load 0 5 (q_const (0, 2) (q_iadd (q_xld L xs (q_load 1 0 (q_load 0 5 (q_const (0, 3) (q_iadd (q_xld L xs (q_load 1 3 (q_call f_L_entry 5 (q_store 0 6 (q_load 1 2 (q_load 1 0 (q_load 0 5 (q_const (0, 1) (q_iadd (q_xld L xs (q_load 1 0 (q_load 0 5 (q_const (0, 2) (q_iadd (q_xld L xs (q_goto 23))))))))))))))))))))))))))))))
noncomputable def B_L_law_23 (L : Nat) (xs : Nat → Int32) : qI := q_load 1 0 (q_load 0 5 (q_const (0, 3) (q_iadd (q_xld L xs (q_callv 14 f_X12_entry 4 (q_store 0 7 (q_load 1 2 (q_callv 14 f_X12_thrown 1 (q_load 0 6 (q_cmpeq 24 (q_const (0, 0) (q_retz))))))))))))
noncomputable def B_L_law_24 (L : Nat) (xs : Nat → Int32) : qI := q_load 0 6 (q_ifne 25 (q_load 1 3 (q_const (0, 0) (q_ald 105 2 (q_load 0 7 (q_i2l (q_lcmp (q_ifeq 25 (q_const (0, 0) (q_retz))))))))))
noncomputable def B_L_law_25 (L : Nat) (xs : Nat → Int32) : qI := q_goto 139
noncomputable def B_L_law_26 (L : Nat) (xs : Nat → Int32) : qI := q_load 1 1 (q_load 1 0 (q_load 0 5 (q_const (0, 1) (q_iadd (q_xld L xs (q_load 1 0 (q_load 0 5 (q_const (0, 2) (q_iadd (q_xld L xs (q_load 1 3 (q_call f_L_reader 4 (q_store 0 6 (q_load 1 2 (q_load 1 0 (q_load 0 5 (q_const (0, 1) (q_iadd (q_xld L xs (q_load 1 0 (q_load 0 5 (q_const (0, 2) (q_iadd (q_xld L xs (q_callv 14 f_X12_reader 3 (q_store 0 7 (q_load 1 2 (q_callv 14 f_X12_thrown 1 (q_load 0 6 (q_goto 27))))))))))))))))))))))))))))))
noncomputable def B_L_law_27 (L : Nat) (xs : Nat → Int32) : qI := q_cmpeq 28 (q_const (0, 0) (q_retz))
noncomputable def B_L_law_28 (L : Nat) (xs : Nat → Int32) : qI := q_load 0 6 (q_ifne 29 (q_load 1 3 (q_const (0, 0) (q_ald 105 2 (q_load 0 7 (q_i2l (q_lcmp (q_ifeq 29 (q_const (0, 0) (q_retz))))))))))
noncomputable def B_L_law_29 (L : Nat) (xs : Nat → Int32) : qI := q_goto 139
noncomputable def B_L_law_30 (L : Nat) (xs : Nat → Int32) : qI := q_load 1 1 (q_load 1 0 (q_load 0 5 (q_const (0, 1) (q_iadd (q_xld L xs (q_load 1 0 (q_load 0 5 (q_const (0, 2) (q_iadd (q_xld L xs (q_load 1 3 (q_call f_L_debt 4 (q_store 0 6 (q_load 1 2 (q_load 1 0 (q_load 0 5 (q_const (0, 1) (q_iadd (q_xld L xs (q_load 1 0 (q_load 0 5 (q_const (0, 2) (q_iadd (q_xld L xs (q_callv 14 f_X12_debt 3 (q_store 0 7 (q_load 1 2 (q_callv 14 f_X12_thrown 1 (q_load 0 6 (q_goto 31))))))))))))))))))))))))))))))
noncomputable def B_L_law_31 (L : Nat) (xs : Nat → Int32) : qI := q_cmpeq 32 (q_const (0, 0) (q_retz))
noncomputable def B_L_law_32 (L : Nat) (xs : Nat → Int32) : qI := q_load 0 6 (q_ifne 33 (q_load 1 3 (q_const (0, 0) (q_ald 105 2 (q_load 0 7 (q_i2l (q_lcmp (q_ifeq 33 (q_const (0, 0) (q_retz))))))))))
noncomputable def B_L_law_33 (L : Nat) (xs : Nat → Int32) : qI := q_goto 139
noncomputable def B_L_law_34 (L : Nat) (xs : Nat → Int32) : qI := q_load 1 1 (q_load 1 0 (q_load 0 5 (q_const (0, 1) (q_iadd (q_xld L xs (q_load 1 0 (q_load 0 5 (q_const (0, 2) (q_iadd (q_xld L xs (q_load 1 3 (q_call f_L_debtOf 4 (q_store 0 6 (q_load 1 2 (q_load 1 0 (q_load 0 5 (q_const (0, 1) (q_iadd (q_xld L xs (q_load 1 0 (q_load 0 5 (q_const (0, 2) (q_iadd (q_xld L xs (q_callv 14 f_X12_debtOf 3 (q_store 0 7 (q_load 1 2 (q_callv 14 f_X12_thrown 1 (q_load 0 6 (q_goto 35))))))))))))))))))))))))))))))
noncomputable def B_L_law_35 (L : Nat) (xs : Nat → Int32) : qI := q_cmpeq 36 (q_const (0, 0) (q_retz))
noncomputable def B_L_law_36 (L : Nat) (xs : Nat → Int32) : qI := q_load 0 6 (q_ifne 37 (q_load 1 3 (q_const (0, 0) (q_ald 105 2 (q_load 0 7 (q_i2l (q_lcmp (q_ifeq 37 (q_const (0, 0) (q_retz))))))))))
noncomputable def B_L_law_37 (L : Nat) (xs : Nat → Int32) : qI := q_goto 139
noncomputable def B_L_law_38 (L : Nat) (xs : Nat → Int32) : qI := q_load 1 1 (q_load 1 0 (q_load 0 5 (q_const (0, 1) (q_iadd (q_xld L xs (q_load 1 0 (q_load 0 5 (q_const (0, 2) (q_iadd (q_xld L xs (q_load 1 3 (q_call f_L_item 4 (q_store 0 6 (q_load 1 2 (q_load 1 0 (q_load 0 5 (q_const (0, 1) (q_iadd (q_xld L xs (q_load 1 0 (q_load 0 5 (q_const (0, 2) (q_iadd (q_xld L xs (q_callv 14 f_X12_item 3 (q_store 0 7 (q_load 1 2 (q_callv 14 f_X12_thrown 1 (q_load 0 6 (q_goto 39))))))))))))))))))))))))))))))
noncomputable def B_L_law_39 (L : Nat) (xs : Nat → Int32) : qI := q_cmpeq 40 (q_const (0, 0) (q_retz))
noncomputable def B_L_law_40 (L : Nat) (xs : Nat → Int32) : qI := q_load 0 6 (q_ifne 41 (q_load 1 3 (q_const (0, 0) (q_ald 105 2 (q_load 0 7 (q_i2l (q_lcmp (q_ifeq 41 (q_const (0, 0) (q_retz))))))))))
noncomputable def B_L_law_41 (L : Nat) (xs : Nat → Int32) : qI := q_goto 139
noncomputable def B_L_law_42 (L : Nat) (xs : Nat → Int32) : qI := q_load 1 1 (q_load 1 0 (q_load 0 5 (q_const (0, 1) (q_iadd (q_xld L xs (q_load 1 3 (q_call f_L_account 3 (q_store 0 6 (q_load 1 2 (q_load 1 0 (q_load 0 5 (q_const (0, 1) (q_iadd (q_xld L xs (q_callv 14 f_X12_account 2 (q_store 0 7 (q_load 1 2 (q_callv 14 f_X12_thrown 1 (q_load 0 6 (q_cmpeq 43 (q_const (0, 0) (q_retz))))))))))))))))))))))
noncomputable def B_L_law_43 (L : Nat) (xs : Nat → Int32) : qI := q_load 0 6 (q_ifne 44 (q_load 1 3 (q_const (0, 0) (q_ald 105 2 (q_load 0 7 (q_i2l (q_lcmp (q_ifeq 44 (q_const (0, 0) (q_retz))))))))))
noncomputable def B_L_law_44 (L : Nat) (xs : Nat → Int32) : qI := q_goto 139
noncomputable def B_L_law_45 (L : Nat) (xs : Nat → Int32) : qI := q_load 1 1 (q_load 1 0 (q_load 0 5 (q_const (0, 1) (q_iadd (q_xld L xs (q_load 1 0 (q_load 0 5 (q_const (0, 2) (q_iadd (q_xld L xs (q_load 1 0 (q_load 0 5 (q_const (0, 3) (q_iadd (q_xld L xs (q_load 1 0 (q_load 0 5 (q_const (0, 4) (q_iadd (q_xld L xs (q_load 1 3 (q_call f_L_append 6 (q_store 0 6 (q_load 1 2 (q_load 1 0 (q_load 0 5 (q_const (0, 1) (q_iadd (q_xld L xs (q_goto 46))))))))))))))))))))))))))))))
noncomputable def B_L_law_46 (L : Nat) (xs : Nat → Int32) : qI := q_load 1 0 (q_load 0 5 (q_const (0, 2) (q_iadd (q_xld L xs (q_load 1 0 (q_load 0 5 (q_const (0, 3) (q_iadd (q_xld L xs (q_load 1 0 (q_load 0 5 (q_const (0, 4) (q_iadd (q_xld L xs (q_callv 14 f_X12_append 5 (q_store 0 7 (q_load 1 2 (q_callv 14 f_X12_thrown 1 (q_load 0 6 (q_cmpeq 47 (q_const (0, 0) (q_retz))))))))))))))))))))))
noncomputable def B_L_law_47 (L : Nat) (xs : Nat → Int32) : qI := q_load 0 6 (q_ifne 48 (q_load 1 3 (q_const (0, 0) (q_ald 105 2 (q_load 0 7 (q_i2l (q_lcmp (q_ifeq 48 (q_const (0, 0) (q_retz))))))))))
noncomputable def B_L_law_48 (L : Nat) (xs : Nat → Int32) : qI := q_goto 139
noncomputable def B_L_law_49 (L : Nat) (xs : Nat → Int32) : qI := q_load 1 1 (q_load 1 0 (q_load 0 5 (q_const (0, 1) (q_iadd (q_xld L xs (q_load 1 0 (q_load 0 5 (q_const (0, 2) (q_iadd (q_xld L xs (q_ifeq 50 (q_const (0, 1) (q_goto 51)))))))))))))
noncomputable def B_L_law_50 (L : Nat) (xs : Nat → Int32) : qI := q_const (0, 0) (q_goto 51)
noncomputable def B_L_law_51 (L : Nat) (xs : Nat → Int32) : qI := q_load 1 3 (q_call f_L_join 4 (q_store 0 6 (q_load 1 2 (q_load 1 0 (q_load 0 5 (q_const (0, 1) (q_iadd (q_xld L xs (q_load 1 0 (q_load 0 5 (q_const (0, 2) (q_iadd (q_xld L xs (q_ifeq 52 (q_const (0, 1) (q_goto 53))))))))))))))))
noncomputable def B_L_law_52 (L : Nat) (xs : Nat → Int32) : qI := q_const (0, 0) (q_goto 53)
noncomputable def B_L_law_53 (L : Nat) (xs : Nat → Int32) : qI := q_callv 14 f_X12_join 3 (q_store 0 7 (q_load 1 2 (q_callv 14 f_X12_thrown 1 (q_load 0 6 (q_cmpeq 54 (q_const (0, 0) (q_retz)))))))
noncomputable def B_L_law_54 (L : Nat) (xs : Nat → Int32) : qI := q_load 0 6 (q_ifne 55 (q_load 1 3 (q_const (0, 0) (q_ald 105 2 (q_load 0 7 (q_i2l (q_lcmp (q_ifeq 55 (q_const (0, 0) (q_retz))))))))))
noncomputable def B_L_law_55 (L : Nat) (xs : Nat → Int32) : qI := q_goto 139
noncomputable def B_L_law_56 (L : Nat) (xs : Nat → Int32) : qI := q_load 1 1 (q_load 1 0 (q_load 0 5 (q_const (0, 1) (q_iadd (q_xld L xs (q_load 1 3 (q_call f_L_leave 3 (q_store 0 6 (q_load 1 2 (q_load 1 0 (q_load 0 5 (q_const (0, 1) (q_iadd (q_xld L xs (q_callv 14 f_X12_leave 2 (q_store 0 7 (q_load 1 2 (q_callv 14 f_X12_thrown 1 (q_load 0 6 (q_cmpeq 57 (q_const (0, 0) (q_retz))))))))))))))))))))))
noncomputable def B_L_law_57 (L : Nat) (xs : Nat → Int32) : qI := q_load 0 6 (q_ifne 58 (q_load 1 3 (q_const (0, 0) (q_ald 105 2 (q_load 0 7 (q_i2l (q_lcmp (q_ifeq 58 (q_const (0, 0) (q_retz))))))))))
noncomputable def B_L_law_58 (L : Nat) (xs : Nat → Int32) : qI := q_goto 139
noncomputable def B_L_law_59 (L : Nat) (xs : Nat → Int32) : qI := q_load 1 1 (q_load 1 0 (q_load 0 5 (q_const (0, 1) (q_iadd (q_xld L xs (q_load 1 0 (q_load 0 5 (q_const (0, 2) (q_iadd (q_xld L xs (q_load 1 3 (q_call f_L_read 4 (q_store 0 6 (q_load 1 2 (q_load 1 0 (q_load 0 5 (q_const (0, 1) (q_iadd (q_xld L xs (q_load 1 0 (q_load 0 5 (q_const (0, 2) (q_iadd (q_xld L xs (q_callv 14 f_X12_read 3 (q_store 0 7 (q_load 1 2 (q_callv 14 f_X12_thrown 1 (q_load 0 6 (q_goto 60))))))))))))))))))))))))))))))
noncomputable def B_L_law_60 (L : Nat) (xs : Nat → Int32) : qI := q_cmpeq 61 (q_const (0, 0) (q_retz))
noncomputable def B_L_law_61 (L : Nat) (xs : Nat → Int32) : qI := q_load 0 6 (q_ifne 62 (q_load 1 3 (q_const (0, 0) (q_ald 105 2 (q_load 0 7 (q_i2l (q_lcmp (q_ifeq 62 (q_const (0, 0) (q_retz))))))))))
noncomputable def B_L_law_62 (L : Nat) (xs : Nat → Int32) : qI := q_goto 139
noncomputable def B_L_law_63 (L : Nat) (xs : Nat → Int32) : qI := q_load 1 1 (q_load 1 0 (q_load 0 5 (q_const (0, 1) (q_iadd (q_xld L xs (q_load 1 0 (q_load 0 5 (q_const (0, 2) (q_iadd (q_xld L xs (q_load 1 3 (q_call f_L_promise 4 (q_store 0 6 (q_load 1 2 (q_load 1 0 (q_load 0 5 (q_const (0, 1) (q_iadd (q_xld L xs (q_load 1 0 (q_load 0 5 (q_const (0, 2) (q_iadd (q_xld L xs (q_callv 14 f_X12_promise 3 (q_store 0 7 (q_load 1 2 (q_callv 14 f_X12_thrown 1 (q_load 0 6 (q_goto 64))))))))))))))))))))))))))))))
noncomputable def B_L_law_64 (L : Nat) (xs : Nat → Int32) : qI := q_cmpeq 65 (q_const (0, 0) (q_retz))
noncomputable def B_L_law_65 (L : Nat) (xs : Nat → Int32) : qI := q_load 0 6 (q_ifne 66 (q_load 1 3 (q_const (0, 0) (q_ald 105 2 (q_load 0 7 (q_i2l (q_lcmp (q_ifeq 66 (q_const (0, 0) (q_retz))))))))))
noncomputable def B_L_law_66 (L : Nat) (xs : Nat → Int32) : qI := q_goto 139
noncomputable def B_L_law_67 (L : Nat) (xs : Nat → Int32) : qI := q_load 1 1 (q_load 1 0 (q_load 0 5 (q_const (0, 1) (q_iadd (q_xld L xs (q_load 1 0 (q_load 0 5 (q_const (0, 2) (q_iadd (q_xld L xs (q_load 1 3 (q_call f_L_move 4 (q_store 0 6 (q_load 1 2 (q_load 1 0 (q_load 0 5 (q_const (0, 1) (q_iadd (q_xld L xs (q_load 1 0 (q_load 0 5 (q_const (0, 2) (q_iadd (q_xld L xs (q_callv 14 f_X12_move 3 (q_store 0 7 (q_load 1 2 (q_callv 14 f_X12_thrown 1 (q_load 0 6 (q_goto 68))))))))))))))))))))))))))))))
noncomputable def B_L_law_68 (L : Nat) (xs : Nat → Int32) : qI := q_cmpeq 69 (q_const (0, 0) (q_retz))
noncomputable def B_L_law_69 (L : Nat) (xs : Nat → Int32) : qI := q_load 0 6 (q_ifne 70 (q_load 1 3 (q_const (0, 0) (q_ald 105 2 (q_load 0 7 (q_i2l (q_lcmp (q_ifeq 70 (q_const (0, 0) (q_retz))))))))))
noncomputable def B_L_law_70 (L : Nat) (xs : Nat → Int32) : qI := q_goto 139
noncomputable def B_L_law_71 (L : Nat) (xs : Nat → Int32) : qI := q_load 1 1 (q_load 1 0 (q_load 0 5 (q_const (0, 1) (q_iadd (q_xld L xs (q_load 1 3 (q_call f_L_fork 3 (q_store 0 6 (q_load 1 2 (q_load 1 0 (q_load 0 5 (q_const (0, 1) (q_iadd (q_xld L xs (q_callv 14 f_X12_fork 2 (q_store 0 7 (q_load 1 2 (q_callv 14 f_X12_thrown 1 (q_load 0 6 (q_cmpeq 72 (q_const (0, 0) (q_retz))))))))))))))))))))))
noncomputable def B_L_law_72 (L : Nat) (xs : Nat → Int32) : qI := q_load 0 6 (q_ifne 73 (q_load 1 3 (q_const (0, 0) (q_ald 105 2 (q_load 0 7 (q_i2l (q_lcmp (q_ifeq 73 (q_const (0, 0) (q_retz))))))))))
noncomputable def B_L_law_73 (L : Nat) (xs : Nat → Int32) : qI := q_goto 139
noncomputable def B_L_law_74 (L : Nat) (xs : Nat → Int32) : qI := q_load 1 1 (q_load 1 0 (q_load 0 5 (q_const (0, 1) (q_iadd (q_xld L xs (q_load 1 3 (q_call f_L_merge 3 (q_store 0 6 (q_load 1 2 (q_load 1 0 (q_load 0 5 (q_const (0, 1) (q_iadd (q_xld L xs (q_callv 14 f_X12_merge 2 (q_store 0 7 (q_load 1 2 (q_callv 14 f_X12_thrown 1 (q_load 0 6 (q_cmpeq 75 (q_const (0, 0) (q_retz))))))))))))))))))))))
noncomputable def B_L_law_75 (L : Nat) (xs : Nat → Int32) : qI := q_load 0 6 (q_ifne 76 (q_load 1 3 (q_const (0, 0) (q_ald 105 2 (q_load 0 7 (q_i2l (q_lcmp (q_ifeq 76 (q_const (0, 0) (q_retz))))))))))
noncomputable def B_L_law_76 (L : Nat) (xs : Nat → Int32) : qI := q_goto 139
noncomputable def B_L_law_77 (L : Nat) (xs : Nat → Int32) : qI := q_load 1 1 (q_load 1 0 (q_load 0 5 (q_const (0, 1) (q_iadd (q_xld L xs (q_load 1 3 (q_call f_L_drop 3 (q_store 0 6 (q_load 1 2 (q_load 1 0 (q_load 0 5 (q_const (0, 1) (q_iadd (q_xld L xs (q_callv 14 f_X12_drop 2 (q_store 0 7 (q_load 1 2 (q_callv 14 f_X12_thrown 1 (q_load 0 6 (q_cmpeq 78 (q_const (0, 0) (q_retz))))))))))))))))))))))
noncomputable def B_L_law_78 (L : Nat) (xs : Nat → Int32) : qI := q_load 0 6 (q_ifne 79 (q_load 1 3 (q_const (0, 0) (q_ald 105 2 (q_load 0 7 (q_i2l (q_lcmp (q_ifeq 79 (q_const (0, 0) (q_retz))))))))))
noncomputable def B_L_law_79 (L : Nat) (xs : Nat → Int32) : qI := q_goto 139
noncomputable def B_L_law_80 (L : Nat) (xs : Nat → Int32) : qI := q_load 1 1 (q_load 1 0 (q_load 0 5 (q_const (0, 1) (q_iadd (q_xld L xs (q_load 1 3 (q_call f_L_pass 3 (q_store 0 6 (q_load 1 2 (q_load 1 0 (q_load 0 5 (q_const (0, 1) (q_iadd (q_xld L xs (q_callv 14 f_X12_pass 2 (q_store 0 7 (q_load 1 2 (q_callv 14 f_X12_thrown 1 (q_load 0 6 (q_cmpeq 81 (q_const (0, 0) (q_retz))))))))))))))))))))))
noncomputable def B_L_law_81 (L : Nat) (xs : Nat → Int32) : qI := q_load 0 6 (q_ifne 82 (q_load 1 3 (q_const (0, 0) (q_ald 105 2 (q_load 0 7 (q_i2l (q_lcmp (q_ifeq 82 (q_const (0, 0) (q_retz))))))))))
noncomputable def B_L_law_82 (L : Nat) (xs : Nat → Int32) : qI := q_goto 139
noncomputable def B_L_law_83 (L : Nat) (xs : Nat → Int32) : qI := q_load 1 1 (q_load 1 0 (q_load 0 5 (q_const (0, 1) (q_iadd (q_xld L xs (q_load 1 0 (q_load 0 5 (q_const (0, 2) (q_iadd (q_xld L xs (q_load 1 3 (q_call f_L_common 4 (q_store 0 6 (q_load 1 2 (q_load 1 0 (q_load 0 5 (q_const (0, 1) (q_iadd (q_xld L xs (q_load 1 0 (q_load 0 5 (q_const (0, 2) (q_iadd (q_xld L xs (q_callv 14 f_X12_common 3 (q_store 0 7 (q_load 1 2 (q_callv 14 f_X12_thrown 1 (q_load 0 6 (q_goto 84))))))))))))))))))))))))))))))
noncomputable def B_L_law_84 (L : Nat) (xs : Nat → Int32) : qI := q_cmpeq 85 (q_const (0, 0) (q_retz))
noncomputable def B_L_law_85 (L : Nat) (xs : Nat → Int32) : qI := q_load 0 6 (q_ifne 86 (q_load 1 3 (q_const (0, 0) (q_ald 105 2 (q_load 0 7 (q_i2l (q_lcmp (q_ifeq 86 (q_const (0, 0) (q_retz))))))))))
noncomputable def B_L_law_86 (L : Nat) (xs : Nat → Int32) : qI := q_goto 139
noncomputable def B_L_law_87 (L : Nat) (xs : Nat → Int32) : qI := q_load 1 1 (q_load 1 0 (q_load 0 5 (q_const (0, 1) (q_iadd (q_xld L xs (q_load 1 3 (q_call f_L_holder 3 (q_store 0 6 (q_load 1 2 (q_load 1 0 (q_load 0 5 (q_const (0, 1) (q_iadd (q_xld L xs (q_callv 14 f_X12_holder 2 (q_store 0 7 (q_load 1 2 (q_callv 14 f_X12_thrown 1 (q_load 0 6 (q_cmpeq 88 (q_const (0, 0) (q_retz))))))))))))))))))))))
noncomputable def B_L_law_88 (L : Nat) (xs : Nat → Int32) : qI := q_load 0 6 (q_ifne 89 (q_load 1 3 (q_const (0, 0) (q_ald 105 2 (q_load 0 7 (q_i2l (q_lcmp (q_ifeq 89 (q_const (0, 0) (q_retz))))))))))
noncomputable def B_L_law_89 (L : Nat) (xs : Nat → Int32) : qI := q_goto 139
noncomputable def B_L_law_90 (L : Nat) (xs : Nat → Int32) : qI := q_load 1 1 (q_load 1 0 (q_load 0 5 (q_const (0, 1) (q_iadd (q_xld L xs (q_load 1 3 (q_call f_L_slowest 3 (q_store 0 6 (q_load 1 2 (q_load 1 0 (q_load 0 5 (q_const (0, 1) (q_iadd (q_xld L xs (q_callv 14 f_X12_slowest 2 (q_store 0 7 (q_load 1 2 (q_callv 14 f_X12_thrown 1 (q_load 0 6 (q_cmpeq 91 (q_const (0, 0) (q_retz))))))))))))))))))))))
noncomputable def B_L_law_91 (L : Nat) (xs : Nat → Int32) : qI := q_load 0 6 (q_ifne 92 (q_load 1 3 (q_const (0, 0) (q_ald 105 2 (q_load 0 7 (q_i2l (q_lcmp (q_ifeq 92 (q_const (0, 0) (q_retz))))))))))
noncomputable def B_L_law_92 (L : Nat) (xs : Nat → Int32) : qI := q_goto 139
noncomputable def B_L_law_93 (L : Nat) (xs : Nat → Int32) : qI := q_load 1 1 (q_load 1 0 (q_load 0 5 (q_const (0, 1) (q_iadd (q_xld L xs (q_load 1 3 (q_call f_L_cause 3 (q_store 0 6 (q_load 1 2 (q_load 1 0 (q_load 0 5 (q_const (0, 1) (q_iadd (q_xld L xs (q_callv 14 f_X12_cause 2 (q_store 0 7 (q_load 1 2 (q_callv 14 f_X12_thrown 1 (q_load 0 6 (q_cmpeq 94 (q_const (0, 0) (q_retz))))))))))))))))))))))
noncomputable def B_L_law_94 (L : Nat) (xs : Nat → Int32) : qI := q_load 0 6 (q_ifne 95 (q_load 1 3 (q_const (0, 0) (q_ald 105 2 (q_load 0 7 (q_i2l (q_lcmp (q_ifeq 95 (q_const (0, 0) (q_retz))))))))))
noncomputable def B_L_law_95 (L : Nat) (xs : Nat → Int32) : qI := q_goto 139
noncomputable def B_L_law_96 (L : Nat) (xs : Nat → Int32) : qI := q_load 1 1 (q_load 1 0 (q_load 0 5 (q_const (0, 1) (q_iadd (q_xld L xs (q_load 1 0 (q_load 0 5 (q_const (0, 2) (q_iadd (q_xld L xs (q_load 1 3 (q_call f_L_latest 4 (q_store 0 6 (q_load 1 2 (q_load 1 0 (q_load 0 5 (q_const (0, 1) (q_iadd (q_xld L xs (q_load 1 0 (q_load 0 5 (q_const (0, 2) (q_iadd (q_xld L xs (q_callv 14 f_X12_latest 3 (q_store 0 7 (q_load 1 2 (q_callv 14 f_X12_thrown 1 (q_load 0 6 (q_goto 97))))))))))))))))))))))))))))))
noncomputable def B_L_law_97 (L : Nat) (xs : Nat → Int32) : qI := q_cmpeq 98 (q_const (0, 0) (q_retz))
noncomputable def B_L_law_98 (L : Nat) (xs : Nat → Int32) : qI := q_load 0 6 (q_ifne 99 (q_load 1 3 (q_const (0, 0) (q_ald 105 2 (q_load 0 7 (q_i2l (q_lcmp (q_ifeq 99 (q_const (0, 0) (q_retz))))))))))
noncomputable def B_L_law_99 (L : Nat) (xs : Nat → Int32) : qI := q_goto 139
noncomputable def B_L_law_100 (L : Nat) (xs : Nat → Int32) : qI := q_load 1 1 (q_load 1 0 (q_load 0 5 (q_const (0, 1) (q_iadd (q_xld L xs (q_load 1 4 (q_call f_L_mean 3 (q_store 0 6 (q_load 1 2 (q_load 1 0 (q_load 0 5 (q_const (0, 1) (q_iadd (q_xld L xs (q_callv 14 f_X12_mean 2 (q_dstore 7 (q_load 1 2 (q_callv 14 f_X12_thrown 1 (q_load 0 6 (q_cmpeq 101 (q_const (0, 0) (q_retz))))))))))))))))))))))
noncomputable def B_L_law_101 (L : Nat) (xs : Nat → Int32) : qI := q_load 0 6 (q_ifne 103 (q_load 1 4 (q_const (0, 0) (q_ald 107 4 (q_load 4 7 (q_dcmpl (q_ifeq 103 (q_load 1 4 (q_const (0, 0) (q_ald 107 4 (q_load 1 4 (q_const (0, 0) (q_ald 107 4 (q_dcmpl (q_ifeq 102 (q_load 4 7 (q_load 4 7 (q_dcmpl (q_ifne 103 (q_goto 102))))))))))))))))))))
noncomputable def B_L_law_102 (L : Nat) (xs : Nat → Int32) : qI := q_const (0, 0) (q_retz)
noncomputable def B_L_law_103 (L : Nat) (xs : Nat → Int32) : qI := q_goto 139
noncomputable def B_L_law_104 (L : Nat) (xs : Nat → Int32) : qI := q_load 1 1 (q_load 1 0 (q_load 0 5 (q_const (0, 1) (q_iadd (q_xld L xs (q_load 1 4 (q_call f_L_trust 3 (q_store 0 6 (q_load 1 2 (q_load 1 0 (q_load 0 5 (q_const (0, 1) (q_iadd (q_xld L xs (q_callv 14 f_X12_trust 2 (q_store 3 7 (q_load 1 2 (q_callv 14 f_X12_thrown 1 (q_load 0 6 (q_cmpeq 105 (q_const (0, 0) (q_retz))))))))))))))))))))))
noncomputable def B_L_law_105 (L : Nat) (xs : Nat → Int32) : qI := q_load 0 6 (q_ifne 107 (q_load 1 4 (q_const (0, 0) (q_ald 107 4 (q_load 3 7 (q_f2d (q_dcmpl (q_ifeq 107 (q_load 1 4 (q_const (0, 0) (q_ald 107 4 (q_load 1 4 (q_const (0, 0) (q_ald 107 4 (q_dcmpl (q_ifeq 106 (q_load 3 7 (q_load 3 7 (fun _ _ _ => none)))))))))))))))))))
noncomputable def B_L_law_106 (L : Nat) (xs : Nat → Int32) : qI := q_const (0, 0) (q_retz)
noncomputable def B_L_law_107 (L : Nat) (xs : Nat → Int32) : qI := q_goto 139
noncomputable def B_L_law_108 (L : Nat) (xs : Nat → Int32) : qI := q_load 1 1 (q_load 1 0 (q_load 0 5 (q_const (0, 1) (q_iadd (q_xld L xs (q_load 1 0 (q_load 0 5 (q_const (0, 2) (q_iadd (q_xld L xs (q_load 1 3 (q_call f_L_ahead 4 (q_store 0 6 (q_load 1 2 (q_load 1 0 (q_load 0 5 (q_const (0, 1) (q_iadd (q_xld L xs (q_load 1 0 (q_load 0 5 (q_const (0, 2) (q_iadd (q_xld L xs (q_callv 14 f_X12_ahead 3 (q_store 0 7 (q_load 1 2 (q_callv 14 f_X12_thrown 1 (q_load 0 6 (q_goto 109))))))))))))))))))))))))))))))
noncomputable def B_L_law_109 (L : Nat) (xs : Nat → Int32) : qI := q_cmpeq 110 (q_const (0, 0) (q_retz))
noncomputable def B_L_law_110 (L : Nat) (xs : Nat → Int32) : qI := q_load 0 6 (q_ifne 111 (q_load 1 3 (q_const (0, 0) (q_ald 105 2 (q_load 0 7 (q_i2l (q_lcmp (q_ifeq 111 (q_const (0, 0) (q_retz))))))))))
noncomputable def B_L_law_111 (L : Nat) (xs : Nat → Int32) : qI := q_goto 139
noncomputable def B_L_law_112 (L : Nat) (xs : Nat → Int32) : qI := q_load 1 1 (q_load 1 0 (q_load 0 5 (q_const (0, 1) (q_iadd (q_xld L xs (q_load 1 0 (q_load 0 5 (q_const (0, 2) (q_iadd (q_xld L xs (q_load 1 3 (q_call f_L_losesIn 4 (q_store 0 6 (q_load 1 2 (q_load 1 0 (q_load 0 5 (q_const (0, 1) (q_iadd (q_xld L xs (q_load 1 0 (q_load 0 5 (q_const (0, 2) (q_iadd (q_xld L xs (q_callv 14 f_X12_losesIn 3 (q_store 0 7 (q_load 1 2 (q_callv 14 f_X12_thrown 1 (q_load 0 6 (q_goto 113))))))))))))))))))))))))))))))
noncomputable def B_L_law_113 (L : Nat) (xs : Nat → Int32) : qI := q_cmpeq 114 (q_const (0, 0) (q_retz))
noncomputable def B_L_law_114 (L : Nat) (xs : Nat → Int32) : qI := q_load 0 6 (q_ifne 115 (q_load 1 3 (q_const (0, 0) (q_ald 105 2 (q_load 0 7 (q_i2l (q_lcmp (q_ifeq 115 (q_const (0, 0) (q_retz))))))))))
noncomputable def B_L_law_115 (L : Nat) (xs : Nat → Int32) : qI := q_goto 139
noncomputable def B_L_law_116 (L : Nat) (xs : Nat → Int32) : qI := q_load 1 1 (q_load 1 0 (q_load 0 5 (q_const (0, 1) (q_iadd (q_xld L xs (q_load 1 0 (q_load 0 5 (q_const (0, 2) (q_iadd (q_xld L xs (q_load 1 3 (q_call f_L_wouldCut 4 (q_store 0 6 (q_load 1 2 (q_load 1 0 (q_load 0 5 (q_const (0, 1) (q_iadd (q_xld L xs (q_load 1 0 (q_load 0 5 (q_const (0, 2) (q_iadd (q_xld L xs (q_callv 14 f_X12_wouldCut 3 (q_store 0 7 (q_load 1 2 (q_callv 14 f_X12_thrown 1 (q_load 0 6 (q_goto 117))))))))))))))))))))))))))))))
noncomputable def B_L_law_117 (L : Nat) (xs : Nat → Int32) : qI := q_cmpeq 118 (q_const (0, 0) (q_retz))
noncomputable def B_L_law_118 (L : Nat) (xs : Nat → Int32) : qI := q_load 0 6 (q_ifne 119 (q_load 1 3 (q_const (0, 0) (q_ald 105 2 (q_load 0 7 (q_i2l (q_lcmp (q_ifeq 119 (q_const (0, 0) (q_retz))))))))))
noncomputable def B_L_law_119 (L : Nat) (xs : Nat → Int32) : qI := q_goto 139
noncomputable def B_L_law_120 (L : Nat) (xs : Nat → Int32) : qI := q_load 1 1 (q_load 1 0 (q_load 0 5 (q_const (0, 1) (q_iadd (q_xld L xs (q_load 1 0 (q_load 0 5 (q_const (0, 2) (q_iadd (q_xld L xs (q_load 1 3 (q_call f_L_unread 4 (q_store 0 6 (q_load 1 2 (q_load 1 0 (q_load 0 5 (q_const (0, 1) (q_iadd (q_xld L xs (q_load 1 0 (q_load 0 5 (q_const (0, 2) (q_iadd (q_xld L xs (q_callv 14 f_X12_unread 3 (q_store 0 7 (q_load 1 2 (q_callv 14 f_X12_thrown 1 (q_load 0 6 (q_goto 121))))))))))))))))))))))))))))))
noncomputable def B_L_law_121 (L : Nat) (xs : Nat → Int32) : qI := q_cmpeq 122 (q_const (0, 0) (q_retz))
noncomputable def B_L_law_122 (L : Nat) (xs : Nat → Int32) : qI := q_load 0 6 (q_ifne 123 (q_load 1 3 (q_const (0, 0) (q_ald 105 2 (q_load 0 7 (q_i2l (q_lcmp (q_ifeq 123 (q_const (0, 0) (q_retz))))))))))
noncomputable def B_L_law_123 (L : Nat) (xs : Nat → Int32) : qI := q_goto 139
noncomputable def B_L_law_124 (L : Nat) (xs : Nat → Int32) : qI := q_load 1 1 (q_load 1 0 (q_load 0 5 (q_const (0, 1) (q_iadd (q_xld L xs (q_load 1 3 (q_call f_L_promised 3 (q_store 0 6 (q_load 1 2 (q_load 1 0 (q_load 0 5 (q_const (0, 1) (q_iadd (q_xld L xs (q_callv 14 f_X12_promised 2 (q_store 0 7 (q_load 1 2 (q_callv 14 f_X12_thrown 1 (q_load 0 6 (q_cmpeq 125 (q_const (0, 0) (q_retz))))))))))))))))))))))
noncomputable def B_L_law_125 (L : Nat) (xs : Nat → Int32) : qI := q_load 0 6 (q_ifne 126 (q_load 1 3 (q_const (0, 0) (q_ald 105 2 (q_load 0 7 (q_i2l (q_lcmp (q_ifeq 126 (q_const (0, 0) (q_retz))))))))))
noncomputable def B_L_law_126 (L : Nat) (xs : Nat → Int32) : qI := q_goto 139
noncomputable def B_L_law_127 (L : Nat) (xs : Nat → Int32) : qI := q_load 1 1 (q_load 1 0 (q_load 0 5 (q_const (0, 1) (q_iadd (q_xld L xs (q_load 1 3 (q_call f_L_age 3 (q_store 0 6 (q_load 1 2 (q_load 1 0 (q_load 0 5 (q_const (0, 1) (q_iadd (q_xld L xs (q_callv 14 f_X12_age 2 (q_store 0 7 (q_load 1 2 (q_callv 14 f_X12_thrown 1 (q_load 0 6 (q_cmpeq 128 (q_const (0, 0) (q_retz))))))))))))))))))))))
noncomputable def B_L_law_128 (L : Nat) (xs : Nat → Int32) : qI := q_load 0 6 (q_ifne 129 (q_load 1 3 (q_const (0, 0) (q_ald 105 2 (q_load 0 7 (q_i2l (q_lcmp (q_ifeq 129 (q_const (0, 0) (q_retz))))))))))
noncomputable def B_L_law_129 (L : Nat) (xs : Nat → Int32) : qI := q_goto 139
noncomputable def B_L_law_130 (L : Nat) (xs : Nat → Int32) : qI := q_load 1 1 (q_load 1 0 (q_load 0 5 (q_const (0, 1) (q_iadd (q_xld L xs (q_load 1 3 (q_call f_L_write 3 (q_store 0 6 (q_load 1 2 (q_load 1 0 (q_load 0 5 (q_const (0, 1) (q_iadd (q_xld L xs (q_callv 14 f_X12_write 2 (q_store 0 7 (q_load 1 2 (q_callv 14 f_X12_thrown 1 (q_load 0 6 (q_cmpeq 131 (q_const (0, 0) (q_retz))))))))))))))))))))))
noncomputable def B_L_law_131 (L : Nat) (xs : Nat → Int32) : qI := q_load 0 6 (q_ifne 132 (q_load 1 3 (q_const (0, 0) (q_ald 105 2 (q_load 0 7 (q_i2l (q_lcmp (q_ifeq 132 (q_const (0, 0) (q_retz))))))))))
noncomputable def B_L_law_132 (L : Nat) (xs : Nat → Int32) : qI := q_goto 139
noncomputable def B_L_law_133 (L : Nat) (xs : Nat → Int32) : qI := q_load 1 1 (q_load 1 0 (q_load 0 5 (q_const (0, 1) (q_iadd (q_xld L xs (q_callv 13 f_X11_output 2 (q_load 1 2 (q_load 1 0 (q_load 0 5 (q_const (0, 1) (q_iadd (q_xld L xs (q_callv 14 f_X12_output 2 (q_cmpeq 139 (q_const (0, 0) (q_retz))))))))))))))))
noncomputable def B_L_law_134 (L : Nat) (xs : Nat → Int32) : qI := q_load 1 1 (q_callv 13 f_X11_undo 1 (q_load 1 2 (q_callv 14 f_X12_undo 1 (q_cmpeq 139 (q_const (0, 0) (q_retz))))))
noncomputable def B_L_law_135 (L : Nat) (xs : Nat → Int32) : qI := q_load 1 1 (q_load 1 0 (q_load 0 5 (q_const (0, 1) (q_iadd (q_xld L xs (q_call f_L_save 2 (q_store 0 6 (q_load 1 2 (q_load 1 0 (q_load 0 5 (q_const (0, 1) (q_iadd (q_xld L xs (q_callv 14 f_X12_save 2 (q_load 1 2 (q_callv 14 f_X12_thrown 1 (q_load 0 6 (q_cmpeq 136 (q_const (0, 0) (q_retz))))))))))))))))))))
noncomputable def B_L_law_136 (L : Nat) (xs : Nat → Int32) : qI := q_goto 139
noncomputable def B_L_law_137 (L : Nat) (xs : Nat → Int32) : qI := q_load 1 1 (q_load 1 0 (q_load 0 5 (q_const (0, 1) (q_iadd (q_xld L xs (q_call f_L_restore 2 (q_store 0 6 (q_load 1 2 (q_load 1 0 (q_load 0 5 (q_const (0, 1) (q_iadd (q_xld L xs (q_callv 14 f_X12_restore 2 (q_load 1 2 (q_callv 14 f_X12_thrown 1 (q_load 0 6 (q_cmpeq 138 (q_const (0, 0) (q_retz))))))))))))))))))))
noncomputable def B_L_law_138 (L : Nat) (xs : Nat → Int32) : qI := q_goto 139
noncomputable def B_L_law_139 (L : Nat) (xs : Nat → Int32) : qI := q_iinc 5 (5) (q_goto 1)
noncomputable def B_L_law_140 (L : Nat) (xs : Nat → Int32) : qI := q_const (0, 1) (q_retz)
noncomputable def P_L_law (L : Nat) (xs : Nat → Int32) : qP := [B_L_law_0 L xs, B_L_law_1 L xs, B_L_law_2 L xs, B_L_law_3 L xs, B_L_law_4 L xs, B_L_law_5 L xs, B_L_law_6 L xs, B_L_law_7 L xs, B_L_law_8 L xs, B_L_law_9 L xs, B_L_law_10 L xs, B_L_law_11 L xs, B_L_law_12 L xs, B_L_law_13 L xs, B_L_law_14 L xs, B_L_law_15 L xs, B_L_law_16 L xs, B_L_law_17 L xs, B_L_law_18 L xs, B_L_law_19 L xs, B_L_law_20 L xs, B_L_law_21 L xs, B_L_law_22 L xs, B_L_law_23 L xs, B_L_law_24 L xs, B_L_law_25 L xs, B_L_law_26 L xs, B_L_law_27 L xs, B_L_law_28 L xs, B_L_law_29 L xs, B_L_law_30 L xs, B_L_law_31 L xs, B_L_law_32 L xs, B_L_law_33 L xs, B_L_law_34 L xs, B_L_law_35 L xs, B_L_law_36 L xs, B_L_law_37 L xs, B_L_law_38 L xs, B_L_law_39 L xs, B_L_law_40 L xs, B_L_law_41 L xs, B_L_law_42 L xs, B_L_law_43 L xs, B_L_law_44 L xs, B_L_law_45 L xs, B_L_law_46 L xs, B_L_law_47 L xs, B_L_law_48 L xs, B_L_law_49 L xs, B_L_law_50 L xs, B_L_law_51 L xs, B_L_law_52 L xs, B_L_law_53 L xs, B_L_law_54 L xs, B_L_law_55 L xs, B_L_law_56 L xs, B_L_law_57 L xs, B_L_law_58 L xs, B_L_law_59 L xs, B_L_law_60 L xs, B_L_law_61 L xs, B_L_law_62 L xs, B_L_law_63 L xs, B_L_law_64 L xs, B_L_law_65 L xs, B_L_law_66 L xs, B_L_law_67 L xs, B_L_law_68 L xs, B_L_law_69 L xs, B_L_law_70 L xs, B_L_law_71 L xs, B_L_law_72 L xs, B_L_law_73 L xs, B_L_law_74 L xs, B_L_law_75 L xs, B_L_law_76 L xs, B_L_law_77 L xs, B_L_law_78 L xs, B_L_law_79 L xs, B_L_law_80 L xs, B_L_law_81 L xs, B_L_law_82 L xs, B_L_law_83 L xs, B_L_law_84 L xs, B_L_law_85 L xs, B_L_law_86 L xs, B_L_law_87 L xs, B_L_law_88 L xs, B_L_law_89 L xs, B_L_law_90 L xs, B_L_law_91 L xs, B_L_law_92 L xs, B_L_law_93 L xs, B_L_law_94 L xs, B_L_law_95 L xs, B_L_law_96 L xs, B_L_law_97 L xs, B_L_law_98 L xs, B_L_law_99 L xs, B_L_law_100 L xs, B_L_law_101 L xs, B_L_law_102 L xs, B_L_law_103 L xs, B_L_law_104 L xs, B_L_law_105 L xs, B_L_law_106 L xs, B_L_law_107 L xs, B_L_law_108 L xs, B_L_law_109 L xs, B_L_law_110 L xs, B_L_law_111 L xs, B_L_law_112 L xs, B_L_law_113 L xs, B_L_law_114 L xs, B_L_law_115 L xs, B_L_law_116 L xs, B_L_law_117 L xs, B_L_law_118 L xs, B_L_law_119 L xs, B_L_law_120 L xs, B_L_law_121 L xs, B_L_law_122 L xs, B_L_law_123 L xs, B_L_law_124 L xs, B_L_law_125 L xs, B_L_law_126 L xs, B_L_law_127 L xs, B_L_law_128 L xs, B_L_law_129 L xs, B_L_law_130 L xs, B_L_law_131 L xs, B_L_law_132 L xs, B_L_law_133 L xs, B_L_law_134 L xs, B_L_law_135 L xs, B_L_law_136 L xs, B_L_law_137 L xs, B_L_law_138 L xs, B_L_law_139 L xs, B_L_law_140 L xs]
def pc_L_law : Nat → Nat := fun j => [0, 28, 228, 264, 281, 284, 320, 337, 340, 353, 366, 379, 422, 427, 444, 447, 483, 500, 503, 546, 551, 568, 571, 609, 631, 648, 651, 694, 699, 716, 719, 762, 767, 784, 787, 830, 835, 852, 855, 898, 903, 920, 923, 959, 976, 979, 1017, 1051, 1068, 1071, 1091, 1092, 1118, 1119, 1135, 1152, 1155, 1191, 1208, 1211, 1254, 1259, 1276, 1279, 1322, 1327, 1344, 1347, 1390, 1395, 1412, 1415, 1451, 1468, 1471, 1507, 1524, 1527, 1563, 1580, 1583, 1619, 1636, 1639, 1682, 1687, 1704, 1707, 1743, 1760, 1763, 1799, 1816, 1819, 1855, 1872, 1875, 1918, 1923, 1940, 1943, 1980, 2015, 2017, 2020, 2057, 2093, 2095, 2098, 2141, 2146, 2163, 2166, 2209, 2214, 2231, 2234, 2277, 2282, 2299, 2302, 2345, 2350, 2367, 2370, 2406, 2423, 2426, 2462, 2479, 2482, 2518, 2535, 2538, 2563, 2576, 2609, 2612, 2645, 2648, 2654].getD j 0
abbrev fr_law : Nat := 13
abbrev lo_law : Nat := 284
section LB
variable {p : Program} {l : Launch} {e : Env} {s : State} {m : MethodId} {args : Array Value} {below : List Frame} {meth : Method} {c : Code} {D : va_G} {A0 : Nat → Prop} {Ai : Int → Nat} {a0 : qA} {r : qR} {L : Nat} {xs : Nat → Int32}
set_option maxRecDepth 100000 in
set_option maxHeartbeats 4000000 in
theorem lawb_0 (C : qa_C true Ai p s m args meth c cL_law 9 RL A0 (qa_rm fr_law lo_law a0 r) a0.2.2.2.1 a0.2.2.2.2 r) (hr : meth.sig.returnType = some .boolean) (hl : l.stackTraces = false) (hL : L < 2147483648) (hX : va_X (Ai (-17)) L xs s s.heap ∧ Ai (-17) < s.heap.size ∧ ¬ A0 (Ai (-17))) : qa_OK p l e (qa_rm fr_law lo_law a0 r) s m args below meth c (qa_Q below D Ai a0 r A0 args s) D A0 Ai a0.2.2.1 9 a0.2.2.2.1 a0.2.2.2.2 r pc_L_law (pc_L_law 0) (B_L_law_0 L xs) :=
  ok_new C kc_X11 (qa_wl [103, 104, 72] (by decide +kernel) (by decide +kernel)) (zz_X11).1 (zz_X11).2 dL_law_0 (ok_dup C dL_law_3 (ok_calli C (kon_X11_init l hl) (by decide) (qa_wl [105, 106, 72, 107] (by decide +kernel) (by decide +kernel)) rfl ⟨by decide +kernel, by decide +kernel, by decide +kernel⟩ ⟨Nat.le_of_ble_eq_true rfl, Nat.le_of_ble_eq_true rfl⟩ dL_law_4 (ok_astore_n C rfl (by decide) dL_law_7 (ok_new C kc_X12 (qa_wl [1599, 1600, 85] (by decide +kernel) (by decide +kernel)) (zz_X12).1 (zz_X12).2 dL_law_8 (ok_dup C dL_law_11 (ok_calli C (kon_X12_init l hl) (by decide) (qa_wl [1601, 1602, 85, 1603] (by decide +kernel) (by decide +kernel)) rfl ⟨by decide +kernel, by decide +kernel, by decide +kernel⟩ ⟨Nat.le_of_ble_eq_true rfl, Nat.le_of_ble_eq_true rfl⟩ dL_law_12 (ok_astore_n C rfl (by decide) dL_law_15 (ok_iconst C (by decide) dL_law_16 (ok_newlong C wd_2155 dL_law_17 (ok_astore_n C rfl (by decide) dL_law_19 (ok_iconst C (by decide) dL_law_20 (ok_newdouble C wd_2156 dL_law_21 (ok_astore C (by decide) dL_law_23 (ok_iconst C (by decide) dL_law_25 (ok_istore C (by decide) dL_law_26 (ok_fall rfl))))))))))))))))
set_option maxRecDepth 100000 in
set_option maxHeartbeats 4000000 in
theorem lawb_1 (C : qa_C true Ai p s m args meth c cL_law 9 RL A0 (qa_rm fr_law lo_law a0 r) a0.2.2.2.1 a0.2.2.2.2 r) (hr : meth.sig.returnType = some .boolean) (hl : l.stackTraces = false) (hL : L < 2147483648) (hX : va_X (Ai (-17)) L xs s s.heap ∧ Ai (-17) < s.heap.size ∧ ¬ A0 (Ai (-17))) : qa_OK p l e (qa_rm fr_law lo_law a0 r) s m args below meth c (qa_Q below D Ai a0 r A0 args s) D A0 Ai a0.2.2.1 9 a0.2.2.2.1 a0.2.2.2.2 r pc_L_law (pc_L_law 1) (B_L_law_1 L xs) :=
  ok_iload C dL_law_28 (ok_aload_n C rfl dL_law_30 (ok_xlen C hL hX dL_law_31 (ok_iconst C (by decide) dL_law_32 (ok_isub C dL_law_33 (ok_cmpgt C (T := 140) dL_law_34 (by decide) (ok_aload_n C rfl dL_law_37 (ok_iload C dL_law_38 (ok_xld C hX dL_law_40 (ok_bipush C (by decide) dL_law_41 (ok_iand C dL_law_43 (ok_switch C (by decide) (by decide) (by decide) dL_law_44)))))))))))
set_option maxRecDepth 100000 in
set_option maxHeartbeats 4000000 in
theorem lawb_2 (C : qa_C true Ai p s m args meth c cL_law 9 RL A0 (qa_rm fr_law lo_law a0 r) a0.2.2.2.1 a0.2.2.2.2 r) (hr : meth.sig.returnType = some .boolean) (hl : l.stackTraces = false) (hL : L < 2147483648) (hX : va_X (Ai (-17)) L xs s s.heap ∧ Ai (-17) < s.heap.size ∧ ¬ A0 (Ai (-17))) : qa_OK p l e (qa_rm fr_law lo_law a0 r) s m args below meth c (qa_Q below D Ai a0 r A0 args s) D A0 Ai a0.2.2.1 9 a0.2.2.2.1 a0.2.2.2.2 r pc_L_law (pc_L_law 2) (B_L_law_2 L xs) :=
  ok_aload_n C rfl dL_law_228 (ok_aload_n C rfl dL_law_229 (ok_iload C dL_law_230 (ok_iconst C (by decide) dL_law_232 (ok_iadd C dL_law_233 (ok_xld C hX dL_law_234 (ok_aload_n C rfl dL_law_235 (ok_callsx C (kon_L_appendText l hl) (qa_wl [974, 975, 71, 976] (by decide +kernel) (by decide +kernel)) ⟨by decide +kernel, by decide +kernel, by decide +kernel⟩ ⟨Nat.le_of_ble_eq_true rfl, Nat.le_of_ble_eq_true rfl⟩ dL_law_236 (ok_istore C (by decide) dL_law_239 (ok_aload_n C rfl dL_law_241 (ok_aload_n C rfl dL_law_242 (ok_iload C dL_law_243 (ok_iconst C (by decide) dL_law_245 (ok_iadd C dL_law_246 (ok_xld C hX dL_law_247 (ok_callv C rfl (by decide) (kon_X12_appendText l hl) (qa_wl [2052, 2053, 2054, 85, 2055] (by decide +kernel) (by decide +kernel)) ⟨rfl, by decide +kernel, by decide +kernel, by decide +kernel⟩ ⟨Nat.le_of_ble_eq_true rfl, Nat.le_of_ble_eq_true rfl⟩ dL_law_248 (ok_istore C (by decide) dL_law_251 (ok_aload_n C rfl dL_law_253 (ok_callv C rfl (by decide) (kon_X12_thrown l hl) (qa_wl [1695, 1696, 1697, 85, 1698] (by decide +kernel) (by decide +kernel)) ⟨rfl, by decide +kernel, by decide +kernel, by decide +kernel⟩ ⟨Nat.le_of_ble_eq_true rfl, Nat.le_of_ble_eq_true rfl⟩ dL_law_254 (ok_iload C dL_law_257 (ok_cmpeq C (T := 3) dL_law_259 (by decide) (ok_iconst C (by decide) dL_law_262 (ok_zret C hr dL_law_263))))))))))))))))))))))
set_option maxRecDepth 100000 in
set_option maxHeartbeats 4000000 in
theorem lawb_3 (C : qa_C true Ai p s m args meth c cL_law 9 RL A0 (qa_rm fr_law lo_law a0 r) a0.2.2.2.1 a0.2.2.2.2 r) (hr : meth.sig.returnType = some .boolean) (hl : l.stackTraces = false) (hL : L < 2147483648) (hX : va_X (Ai (-17)) L xs s s.heap ∧ Ai (-17) < s.heap.size ∧ ¬ A0 (Ai (-17))) : qa_OK p l e (qa_rm fr_law lo_law a0 r) s m args below meth c (qa_Q below D Ai a0 r A0 args s) D A0 Ai a0.2.2.1 9 a0.2.2.2.1 a0.2.2.2.2 r pc_L_law (pc_L_law 3) (B_L_law_3 L xs) :=
  ok_iload C dL_law_264 (ok_ifne C (T := 4) dL_law_266 (by decide) (ok_aload_n C rfl dL_law_269 (ok_iconst C (by decide) dL_law_270 (ok_laload C dL_law_271 (ok_iload C dL_law_272 (ok_i2l C dL_law_274 (ok_lcmp C dL_law_275 (ok_ifeq C (T := 4) dL_law_276 (by decide) (ok_iconst C (by decide) dL_law_279 (ok_zret C hr dL_law_280))))))))))
set_option maxRecDepth 100000 in
set_option maxHeartbeats 4000000 in
theorem lawb_4 (C : qa_C true Ai p s m args meth c cL_law 9 RL A0 (qa_rm fr_law lo_law a0 r) a0.2.2.2.1 a0.2.2.2.2 r) (hr : meth.sig.returnType = some .boolean) (hl : l.stackTraces = false) (hL : L < 2147483648) (hX : va_X (Ai (-17)) L xs s s.heap ∧ Ai (-17) < s.heap.size ∧ ¬ A0 (Ai (-17))) : qa_OK p l e (qa_rm fr_law lo_law a0 r) s m args below meth c (qa_Q below D Ai a0 r A0 args s) D A0 Ai a0.2.2.1 9 a0.2.2.2.1 a0.2.2.2.2 r pc_L_law (pc_L_law 4) (B_L_law_4 L xs) :=
  ok_goto C dL_law_281 (by decide)
set_option maxRecDepth 100000 in
set_option maxHeartbeats 4000000 in
theorem lawb_5 (C : qa_C true Ai p s m args meth c cL_law 9 RL A0 (qa_rm fr_law lo_law a0 r) a0.2.2.2.1 a0.2.2.2.2 r) (hr : meth.sig.returnType = some .boolean) (hl : l.stackTraces = false) (hL : L < 2147483648) (hX : va_X (Ai (-17)) L xs s s.heap ∧ Ai (-17) < s.heap.size ∧ ¬ A0 (Ai (-17))) : qa_OK p l e (qa_rm fr_law lo_law a0 r) s m args below meth c (qa_Q below D Ai a0 r A0 args s) D A0 Ai a0.2.2.1 9 a0.2.2.2.1 a0.2.2.2.2 r pc_L_law (pc_L_law 5) (B_L_law_5 L xs) :=
  ok_aload_n C rfl dL_law_284 (ok_aload_n C rfl dL_law_285 (ok_iload C dL_law_286 (ok_iconst C (by decide) dL_law_288 (ok_iadd C dL_law_289 (ok_xld C hX dL_law_290 (ok_aload_n C rfl dL_law_291 (ok_callsx C (kon_L_truncateText l hl) (qa_wl [1005, 1006, 71, 1007] (by decide +kernel) (by decide +kernel)) ⟨by decide +kernel, by decide +kernel, by decide +kernel⟩ ⟨Nat.le_of_ble_eq_true rfl, Nat.le_of_ble_eq_true rfl⟩ dL_law_292 (ok_istore C (by decide) dL_law_295 (ok_aload_n C rfl dL_law_297 (ok_aload_n C rfl dL_law_298 (ok_iload C dL_law_299 (ok_iconst C (by decide) dL_law_301 (ok_iadd C dL_law_302 (ok_xld C hX dL_law_303 (ok_callv C rfl (by decide) (kon_X12_truncateText l hl) (qa_wl [2056, 2057, 2058, 85, 2059] (by decide +kernel) (by decide +kernel)) ⟨rfl, by decide +kernel, by decide +kernel, by decide +kernel⟩ ⟨Nat.le_of_ble_eq_true rfl, Nat.le_of_ble_eq_true rfl⟩ dL_law_304 (ok_istore C (by decide) dL_law_307 (ok_aload_n C rfl dL_law_309 (ok_callv C rfl (by decide) (kon_X12_thrown l hl) (qa_wl [1695, 1696, 1697, 85, 1698] (by decide +kernel) (by decide +kernel)) ⟨rfl, by decide +kernel, by decide +kernel, by decide +kernel⟩ ⟨Nat.le_of_ble_eq_true rfl, Nat.le_of_ble_eq_true rfl⟩ dL_law_310 (ok_iload C dL_law_313 (ok_cmpeq C (T := 6) dL_law_315 (by decide) (ok_iconst C (by decide) dL_law_318 (ok_zret C hr dL_law_319))))))))))))))))))))))
set_option maxRecDepth 100000 in
set_option maxHeartbeats 4000000 in
theorem lawb_6 (C : qa_C true Ai p s m args meth c cL_law 9 RL A0 (qa_rm fr_law lo_law a0 r) a0.2.2.2.1 a0.2.2.2.2 r) (hr : meth.sig.returnType = some .boolean) (hl : l.stackTraces = false) (hL : L < 2147483648) (hX : va_X (Ai (-17)) L xs s s.heap ∧ Ai (-17) < s.heap.size ∧ ¬ A0 (Ai (-17))) : qa_OK p l e (qa_rm fr_law lo_law a0 r) s m args below meth c (qa_Q below D Ai a0 r A0 args s) D A0 Ai a0.2.2.1 9 a0.2.2.2.1 a0.2.2.2.2 r pc_L_law (pc_L_law 6) (B_L_law_6 L xs) :=
  ok_iload C dL_law_320 (ok_ifne C (T := 7) dL_law_322 (by decide) (ok_aload_n C rfl dL_law_325 (ok_iconst C (by decide) dL_law_326 (ok_laload C dL_law_327 (ok_iload C dL_law_328 (ok_i2l C dL_law_330 (ok_lcmp C dL_law_331 (ok_ifeq C (T := 7) dL_law_332 (by decide) (ok_iconst C (by decide) dL_law_335 (ok_zret C hr dL_law_336))))))))))
set_option maxRecDepth 100000 in
set_option maxHeartbeats 4000000 in
theorem lawb_7 (C : qa_C true Ai p s m args meth c cL_law 9 RL A0 (qa_rm fr_law lo_law a0 r) a0.2.2.2.1 a0.2.2.2.2 r) (hr : meth.sig.returnType = some .boolean) (hl : l.stackTraces = false) (hL : L < 2147483648) (hX : va_X (Ai (-17)) L xs s s.heap ∧ Ai (-17) < s.heap.size ∧ ¬ A0 (Ai (-17))) : qa_OK p l e (qa_rm fr_law lo_law a0 r) s m args below meth c (qa_Q below D Ai a0 r A0 args s) D A0 Ai a0.2.2.1 9 a0.2.2.2.1 a0.2.2.2.2 r pc_L_law (pc_L_law 7) (B_L_law_7 L xs) :=
  ok_goto C dL_law_337 (by decide)
set_option maxRecDepth 100000 in
set_option maxHeartbeats 4000000 in
theorem lawb_8 (C : qa_C true Ai p s m args meth c cL_law 9 RL A0 (qa_rm fr_law lo_law a0 r) a0.2.2.2.1 a0.2.2.2.2 r) (hr : meth.sig.returnType = some .boolean) (hl : l.stackTraces = false) (hL : L < 2147483648) (hX : va_X (Ai (-17)) L xs s s.heap ∧ Ai (-17) < s.heap.size ∧ ¬ A0 (Ai (-17))) : qa_OK p l e (qa_rm fr_law lo_law a0 r) s m args below meth c (qa_Q below D Ai a0 r A0 args s) D A0 Ai a0.2.2.1 9 a0.2.2.2.1 a0.2.2.2.2 r pc_L_law (pc_L_law 8) (B_L_law_8 L xs) :=
  ok_aload_n C rfl dL_law_340 (ok_callv C rfl (by decide) (kon_X11_runScript l hl) (qa_wl [441, 442, 443, 72, 444] (by decide +kernel) (by decide +kernel)) ⟨rfl, by decide +kernel, by decide +kernel, by decide +kernel⟩ ⟨Nat.le_of_ble_eq_true rfl, Nat.le_of_ble_eq_true rfl⟩ dL_law_341 (ok_aload_n C rfl dL_law_344 (ok_callv C rfl (by decide) (kon_X12_runScript l hl) (qa_wl [2060, 2061, 2062, 85, 2063] (by decide +kernel) (by decide +kernel)) ⟨rfl, by decide +kernel, by decide +kernel, by decide +kernel⟩ ⟨Nat.le_of_ble_eq_true rfl, Nat.le_of_ble_eq_true rfl⟩ dL_law_345 (ok_cmpeq C (T := 139) dL_law_348 (by decide) (ok_iconst C (by decide) dL_law_351 (ok_zret C hr dL_law_352))))))
set_option maxRecDepth 100000 in
set_option maxHeartbeats 4000000 in
theorem lawb_9 (C : qa_C true Ai p s m args meth c cL_law 9 RL A0 (qa_rm fr_law lo_law a0 r) a0.2.2.2.1 a0.2.2.2.2 r) (hr : meth.sig.returnType = some .boolean) (hl : l.stackTraces = false) (hL : L < 2147483648) (hX : va_X (Ai (-17)) L xs s s.heap ∧ Ai (-17) < s.heap.size ∧ ¬ A0 (Ai (-17))) : qa_OK p l e (qa_rm fr_law lo_law a0 r) s m args below meth c (qa_Q below D Ai a0 r A0 args s) D A0 Ai a0.2.2.1 9 a0.2.2.2.1 a0.2.2.2.2 r pc_L_law (pc_L_law 9) (B_L_law_9 L xs) :=
  ok_aload_n C rfl dL_law_353 (ok_callv C rfl (by decide) (kon_X11_errorCode l hl) (qa_wl [937, 938, 939, 72, 940] (by decide +kernel) (by decide +kernel)) ⟨rfl, by decide +kernel, by decide +kernel, by decide +kernel⟩ ⟨Nat.le_of_ble_eq_true rfl, Nat.le_of_ble_eq_true rfl⟩ dL_law_354 (ok_aload_n C rfl dL_law_357 (ok_callv C rfl (by decide) (kon_X12_errorCode l hl) (qa_wl [2115, 2116, 2117, 85, 2118] (by decide +kernel) (by decide +kernel)) ⟨rfl, by decide +kernel, by decide +kernel, by decide +kernel⟩ ⟨Nat.le_of_ble_eq_true rfl, Nat.le_of_ble_eq_true rfl⟩ dL_law_358 (ok_cmpeq C (T := 139) dL_law_361 (by decide) (ok_iconst C (by decide) dL_law_364 (ok_zret C hr dL_law_365))))))
set_option maxRecDepth 100000 in
set_option maxHeartbeats 4000000 in
theorem lawb_10 (C : qa_C true Ai p s m args meth c cL_law 9 RL A0 (qa_rm fr_law lo_law a0 r) a0.2.2.2.1 a0.2.2.2.2 r) (hr : meth.sig.returnType = some .boolean) (hl : l.stackTraces = false) (hL : L < 2147483648) (hX : va_X (Ai (-17)) L xs s s.heap ∧ Ai (-17) < s.heap.size ∧ ¬ A0 (Ai (-17))) : qa_OK p l e (qa_rm fr_law lo_law a0 r) s m args below meth c (qa_Q below D Ai a0 r A0 args s) D A0 Ai a0.2.2.1 9 a0.2.2.2.1 a0.2.2.2.2 r pc_L_law (pc_L_law 10) (B_L_law_10 L xs) :=
  ok_aload_n C rfl dL_law_366 (ok_callv C rfl (by decide) (kon_X11_errorPosition l hl) (qa_wl [941, 942, 943, 72, 944] (by decide +kernel) (by decide +kernel)) ⟨rfl, by decide +kernel, by decide +kernel, by decide +kernel⟩ ⟨Nat.le_of_ble_eq_true rfl, Nat.le_of_ble_eq_true rfl⟩ dL_law_367 (ok_aload_n C rfl dL_law_370 (ok_callv C rfl (by decide) (kon_X12_errorPosition l hl) (qa_wl [2119, 2120, 2121, 85, 2122] (by decide +kernel) (by decide +kernel)) ⟨rfl, by decide +kernel, by decide +kernel, by decide +kernel⟩ ⟨Nat.le_of_ble_eq_true rfl, Nat.le_of_ble_eq_true rfl⟩ dL_law_371 (ok_cmpeq C (T := 139) dL_law_374 (by decide) (ok_iconst C (by decide) dL_law_377 (ok_zret C hr dL_law_378))))))
set_option maxRecDepth 100000 in
set_option maxHeartbeats 4000000 in
theorem lawb_11 (C : qa_C true Ai p s m args meth c cL_law 9 RL A0 (qa_rm fr_law lo_law a0 r) a0.2.2.2.1 a0.2.2.2.2 r) (hr : meth.sig.returnType = some .boolean) (hl : l.stackTraces = false) (hL : L < 2147483648) (hX : va_X (Ai (-17)) L xs s s.heap ∧ Ai (-17) < s.heap.size ∧ ¬ A0 (Ai (-17))) : qa_OK p l e (qa_rm fr_law lo_law a0 r) s m args below meth c (qa_Q below D Ai a0 r A0 args s) D A0 Ai a0.2.2.1 9 a0.2.2.2.1 a0.2.2.2.2 r pc_L_law (pc_L_law 11) (B_L_law_11 L xs) :=
  ok_aload_n C rfl dL_law_379 (ok_aload_n C rfl dL_law_380 (ok_iload C dL_law_381 (ok_iconst C (by decide) dL_law_383 (ok_iadd C dL_law_384 (ok_xld C hX dL_law_385 (ok_aload_n C rfl dL_law_386 (ok_iload C dL_law_387 (ok_iconst C (by decide) dL_law_389 (ok_iadd C dL_law_390 (ok_xld C hX dL_law_391 (ok_aload_n C rfl dL_law_392 (ok_callsx C (kon_L_set l hl) (qa_wl [1013, 1014, 71, 1015] (by decide +kernel) (by decide +kernel)) ⟨by decide +kernel, by decide +kernel, by decide +kernel⟩ ⟨Nat.le_of_ble_eq_true rfl, Nat.le_of_ble_eq_true rfl⟩ dL_law_393 (ok_istore C (by decide) dL_law_396 (ok_aload_n C rfl dL_law_398 (ok_aload_n C rfl dL_law_399 (ok_iload C dL_law_400 (ok_iconst C (by decide) dL_law_402 (ok_iadd C dL_law_403 (ok_xld C hX dL_law_404 (ok_aload_n C rfl dL_law_405 (ok_iload C dL_law_406 (ok_iconst C (by decide) dL_law_408 (ok_iadd C dL_law_409 (ok_xld C hX dL_law_410 (ok_callv C rfl (by decide) (kon_X12_set l hl) (qa_wl [1699, 1700, 1701, 85, 1702] (by decide +kernel) (by decide +kernel)) ⟨rfl, by decide +kernel, by decide +kernel, by decide +kernel⟩ ⟨Nat.le_of_ble_eq_true rfl, Nat.le_of_ble_eq_true rfl⟩ dL_law_411 (ok_istore C (by decide) dL_law_414 (ok_aload_n C rfl dL_law_416 (ok_callv C rfl (by decide) (kon_X12_thrown l hl) (qa_wl [1695, 1696, 1697, 85, 1698] (by decide +kernel) (by decide +kernel)) ⟨rfl, by decide +kernel, by decide +kernel, by decide +kernel⟩ ⟨Nat.le_of_ble_eq_true rfl, Nat.le_of_ble_eq_true rfl⟩ dL_law_417 (ok_iload C dL_law_420 (ok_fall rfl))))))))))))))))))))))))))))))
set_option maxRecDepth 100000 in
set_option maxHeartbeats 4000000 in
theorem lawb_12 (C : qa_C true Ai p s m args meth c cL_law 9 RL A0 (qa_rm fr_law lo_law a0 r) a0.2.2.2.1 a0.2.2.2.2 r) (hr : meth.sig.returnType = some .boolean) (hl : l.stackTraces = false) (hL : L < 2147483648) (hX : va_X (Ai (-17)) L xs s s.heap ∧ Ai (-17) < s.heap.size ∧ ¬ A0 (Ai (-17))) : qa_OK p l e (qa_rm fr_law lo_law a0 r) s m args below meth c (qa_Q below D Ai a0 r A0 args s) D A0 Ai a0.2.2.1 9 a0.2.2.2.1 a0.2.2.2.2 r pc_L_law (pc_L_law 12) (B_L_law_12 L xs) :=
  ok_cmpeq C (T := 13) dL_law_422 (by decide) (ok_iconst C (by decide) dL_law_425 (ok_zret C hr dL_law_426))
set_option maxRecDepth 100000 in
set_option maxHeartbeats 4000000 in
theorem lawb_13 (C : qa_C true Ai p s m args meth c cL_law 9 RL A0 (qa_rm fr_law lo_law a0 r) a0.2.2.2.1 a0.2.2.2.2 r) (hr : meth.sig.returnType = some .boolean) (hl : l.stackTraces = false) (hL : L < 2147483648) (hX : va_X (Ai (-17)) L xs s s.heap ∧ Ai (-17) < s.heap.size ∧ ¬ A0 (Ai (-17))) : qa_OK p l e (qa_rm fr_law lo_law a0 r) s m args below meth c (qa_Q below D Ai a0 r A0 args s) D A0 Ai a0.2.2.1 9 a0.2.2.2.1 a0.2.2.2.2 r pc_L_law (pc_L_law 13) (B_L_law_13 L xs) :=
  ok_iload C dL_law_427 (ok_ifne C (T := 14) dL_law_429 (by decide) (ok_aload_n C rfl dL_law_432 (ok_iconst C (by decide) dL_law_433 (ok_laload C dL_law_434 (ok_iload C dL_law_435 (ok_i2l C dL_law_437 (ok_lcmp C dL_law_438 (ok_ifeq C (T := 14) dL_law_439 (by decide) (ok_iconst C (by decide) dL_law_442 (ok_zret C hr dL_law_443))))))))))
set_option maxRecDepth 100000 in
set_option maxHeartbeats 4000000 in
theorem lawb_14 (C : qa_C true Ai p s m args meth c cL_law 9 RL A0 (qa_rm fr_law lo_law a0 r) a0.2.2.2.1 a0.2.2.2.2 r) (hr : meth.sig.returnType = some .boolean) (hl : l.stackTraces = false) (hL : L < 2147483648) (hX : va_X (Ai (-17)) L xs s s.heap ∧ Ai (-17) < s.heap.size ∧ ¬ A0 (Ai (-17))) : qa_OK p l e (qa_rm fr_law lo_law a0 r) s m args below meth c (qa_Q below D Ai a0 r A0 args s) D A0 Ai a0.2.2.1 9 a0.2.2.2.1 a0.2.2.2.2 r pc_L_law (pc_L_law 14) (B_L_law_14 L xs) :=
  ok_goto C dL_law_444 (by decide)
set_option maxRecDepth 100000 in
set_option maxHeartbeats 4000000 in
theorem lawb_15 (C : qa_C true Ai p s m args meth c cL_law 9 RL A0 (qa_rm fr_law lo_law a0 r) a0.2.2.2.1 a0.2.2.2.2 r) (hr : meth.sig.returnType = some .boolean) (hl : l.stackTraces = false) (hL : L < 2147483648) (hX : va_X (Ai (-17)) L xs s s.heap ∧ Ai (-17) < s.heap.size ∧ ¬ A0 (Ai (-17))) : qa_OK p l e (qa_rm fr_law lo_law a0 r) s m args below meth c (qa_Q below D Ai a0 r A0 args s) D A0 Ai a0.2.2.1 9 a0.2.2.2.1 a0.2.2.2.2 r pc_L_law (pc_L_law 15) (B_L_law_15 L xs) :=
  ok_aload_n C rfl dL_law_447 (ok_aload_n C rfl dL_law_448 (ok_iload C dL_law_449 (ok_iconst C (by decide) dL_law_451 (ok_iadd C dL_law_452 (ok_xld C hX dL_law_453 (ok_aload_n C rfl dL_law_454 (ok_callsx C (kon_L_count l hl) (qa_wl [1036, 1037, 71, 1038] (by decide +kernel) (by decide +kernel)) ⟨by decide +kernel, by decide +kernel, by decide +kernel⟩ ⟨Nat.le_of_ble_eq_true rfl, Nat.le_of_ble_eq_true rfl⟩ dL_law_455 (ok_istore C (by decide) dL_law_458 (ok_aload_n C rfl dL_law_460 (ok_aload_n C rfl dL_law_461 (ok_iload C dL_law_462 (ok_iconst C (by decide) dL_law_464 (ok_iadd C dL_law_465 (ok_xld C hX dL_law_466 (ok_callv C rfl (by decide) (kon_X12_count l hl) (qa_wl [1712, 1713, 1714, 85, 1715] (by decide +kernel) (by decide +kernel)) ⟨rfl, by decide +kernel, by decide +kernel, by decide +kernel⟩ ⟨Nat.le_of_ble_eq_true rfl, Nat.le_of_ble_eq_true rfl⟩ dL_law_467 (ok_istore C (by decide) dL_law_470 (ok_aload_n C rfl dL_law_472 (ok_callv C rfl (by decide) (kon_X12_thrown l hl) (qa_wl [1695, 1696, 1697, 85, 1698] (by decide +kernel) (by decide +kernel)) ⟨rfl, by decide +kernel, by decide +kernel, by decide +kernel⟩ ⟨Nat.le_of_ble_eq_true rfl, Nat.le_of_ble_eq_true rfl⟩ dL_law_473 (ok_iload C dL_law_476 (ok_cmpeq C (T := 16) dL_law_478 (by decide) (ok_iconst C (by decide) dL_law_481 (ok_zret C hr dL_law_482))))))))))))))))))))))
set_option maxRecDepth 100000 in
set_option maxHeartbeats 4000000 in
theorem lawb_16 (C : qa_C true Ai p s m args meth c cL_law 9 RL A0 (qa_rm fr_law lo_law a0 r) a0.2.2.2.1 a0.2.2.2.2 r) (hr : meth.sig.returnType = some .boolean) (hl : l.stackTraces = false) (hL : L < 2147483648) (hX : va_X (Ai (-17)) L xs s s.heap ∧ Ai (-17) < s.heap.size ∧ ¬ A0 (Ai (-17))) : qa_OK p l e (qa_rm fr_law lo_law a0 r) s m args below meth c (qa_Q below D Ai a0 r A0 args s) D A0 Ai a0.2.2.1 9 a0.2.2.2.1 a0.2.2.2.2 r pc_L_law (pc_L_law 16) (B_L_law_16 L xs) :=
  ok_iload C dL_law_483 (ok_ifne C (T := 17) dL_law_485 (by decide) (ok_aload_n C rfl dL_law_488 (ok_iconst C (by decide) dL_law_489 (ok_laload C dL_law_490 (ok_iload C dL_law_491 (ok_i2l C dL_law_493 (ok_lcmp C dL_law_494 (ok_ifeq C (T := 17) dL_law_495 (by decide) (ok_iconst C (by decide) dL_law_498 (ok_zret C hr dL_law_499))))))))))
set_option maxRecDepth 100000 in
set_option maxHeartbeats 4000000 in
theorem lawb_17 (C : qa_C true Ai p s m args meth c cL_law 9 RL A0 (qa_rm fr_law lo_law a0 r) a0.2.2.2.1 a0.2.2.2.2 r) (hr : meth.sig.returnType = some .boolean) (hl : l.stackTraces = false) (hL : L < 2147483648) (hX : va_X (Ai (-17)) L xs s s.heap ∧ Ai (-17) < s.heap.size ∧ ¬ A0 (Ai (-17))) : qa_OK p l e (qa_rm fr_law lo_law a0 r) s m args below meth c (qa_Q below D Ai a0 r A0 args s) D A0 Ai a0.2.2.1 9 a0.2.2.2.1 a0.2.2.2.2 r pc_L_law (pc_L_law 17) (B_L_law_17 L xs) :=
  ok_goto C dL_law_500 (by decide)
set_option maxRecDepth 100000 in
set_option maxHeartbeats 4000000 in
theorem lawb_18 (C : qa_C true Ai p s m args meth c cL_law 9 RL A0 (qa_rm fr_law lo_law a0 r) a0.2.2.2.1 a0.2.2.2.2 r) (hr : meth.sig.returnType = some .boolean) (hl : l.stackTraces = false) (hL : L < 2147483648) (hX : va_X (Ai (-17)) L xs s s.heap ∧ Ai (-17) < s.heap.size ∧ ¬ A0 (Ai (-17))) : qa_OK p l e (qa_rm fr_law lo_law a0 r) s m args below meth c (qa_Q below D Ai a0 r A0 args s) D A0 Ai a0.2.2.1 9 a0.2.2.2.1 a0.2.2.2.2 r pc_L_law (pc_L_law 18) (B_L_law_18 L xs) :=
  ok_aload_n C rfl dL_law_503 (ok_aload_n C rfl dL_law_504 (ok_iload C dL_law_505 (ok_iconst C (by decide) dL_law_507 (ok_iadd C dL_law_508 (ok_xld C hX dL_law_509 (ok_aload_n C rfl dL_law_510 (ok_iload C dL_law_511 (ok_iconst C (by decide) dL_law_513 (ok_iadd C dL_law_514 (ok_xld C hX dL_law_515 (ok_aload_n C rfl dL_law_516 (ok_callsx C (kon_L_branch l hl) (qa_wl [1055, 1056, 71, 1057] (by decide +kernel) (by decide +kernel)) ⟨by decide +kernel, by decide +kernel, by decide +kernel⟩ ⟨Nat.le_of_ble_eq_true rfl, Nat.le_of_ble_eq_true rfl⟩ dL_law_517 (ok_istore C (by decide) dL_law_520 (ok_aload_n C rfl dL_law_522 (ok_aload_n C rfl dL_law_523 (ok_iload C dL_law_524 (ok_iconst C (by decide) dL_law_526 (ok_iadd C dL_law_527 (ok_xld C hX dL_law_528 (ok_aload_n C rfl dL_law_529 (ok_iload C dL_law_530 (ok_iconst C (by decide) dL_law_532 (ok_iadd C dL_law_533 (ok_xld C hX dL_law_534 (ok_callv C rfl (by decide) (kon_X12_branch l hl) (qa_wl [1747, 1748, 1749, 85, 1750] (by decide +kernel) (by decide +kernel)) ⟨rfl, by decide +kernel, by decide +kernel, by decide +kernel⟩ ⟨Nat.le_of_ble_eq_true rfl, Nat.le_of_ble_eq_true rfl⟩ dL_law_535 (ok_istore C (by decide) dL_law_538 (ok_aload_n C rfl dL_law_540 (ok_callv C rfl (by decide) (kon_X12_thrown l hl) (qa_wl [1695, 1696, 1697, 85, 1698] (by decide +kernel) (by decide +kernel)) ⟨rfl, by decide +kernel, by decide +kernel, by decide +kernel⟩ ⟨Nat.le_of_ble_eq_true rfl, Nat.le_of_ble_eq_true rfl⟩ dL_law_541 (ok_iload C dL_law_544 (ok_fall rfl))))))))))))))))))))))))))))))
set_option maxRecDepth 100000 in
set_option maxHeartbeats 4000000 in
theorem lawb_19 (C : qa_C true Ai p s m args meth c cL_law 9 RL A0 (qa_rm fr_law lo_law a0 r) a0.2.2.2.1 a0.2.2.2.2 r) (hr : meth.sig.returnType = some .boolean) (hl : l.stackTraces = false) (hL : L < 2147483648) (hX : va_X (Ai (-17)) L xs s s.heap ∧ Ai (-17) < s.heap.size ∧ ¬ A0 (Ai (-17))) : qa_OK p l e (qa_rm fr_law lo_law a0 r) s m args below meth c (qa_Q below D Ai a0 r A0 args s) D A0 Ai a0.2.2.1 9 a0.2.2.2.1 a0.2.2.2.2 r pc_L_law (pc_L_law 19) (B_L_law_19 L xs) :=
  ok_cmpeq C (T := 20) dL_law_546 (by decide) (ok_iconst C (by decide) dL_law_549 (ok_zret C hr dL_law_550))
set_option maxRecDepth 100000 in
set_option maxHeartbeats 4000000 in
theorem lawb_20 (C : qa_C true Ai p s m args meth c cL_law 9 RL A0 (qa_rm fr_law lo_law a0 r) a0.2.2.2.1 a0.2.2.2.2 r) (hr : meth.sig.returnType = some .boolean) (hl : l.stackTraces = false) (hL : L < 2147483648) (hX : va_X (Ai (-17)) L xs s s.heap ∧ Ai (-17) < s.heap.size ∧ ¬ A0 (Ai (-17))) : qa_OK p l e (qa_rm fr_law lo_law a0 r) s m args below meth c (qa_Q below D Ai a0 r A0 args s) D A0 Ai a0.2.2.1 9 a0.2.2.2.1 a0.2.2.2.2 r pc_L_law (pc_L_law 20) (B_L_law_20 L xs) :=
  ok_iload C dL_law_551 (ok_ifne C (T := 21) dL_law_553 (by decide) (ok_aload_n C rfl dL_law_556 (ok_iconst C (by decide) dL_law_557 (ok_laload C dL_law_558 (ok_iload C dL_law_559 (ok_i2l C dL_law_561 (ok_lcmp C dL_law_562 (ok_ifeq C (T := 21) dL_law_563 (by decide) (ok_iconst C (by decide) dL_law_566 (ok_zret C hr dL_law_567))))))))))
set_option maxRecDepth 100000 in
set_option maxHeartbeats 4000000 in
theorem lawb_21 (C : qa_C true Ai p s m args meth c cL_law 9 RL A0 (qa_rm fr_law lo_law a0 r) a0.2.2.2.1 a0.2.2.2.2 r) (hr : meth.sig.returnType = some .boolean) (hl : l.stackTraces = false) (hL : L < 2147483648) (hX : va_X (Ai (-17)) L xs s s.heap ∧ Ai (-17) < s.heap.size ∧ ¬ A0 (Ai (-17))) : qa_OK p l e (qa_rm fr_law lo_law a0 r) s m args below meth c (qa_Q below D Ai a0 r A0 args s) D A0 Ai a0.2.2.1 9 a0.2.2.2.1 a0.2.2.2.2 r pc_L_law (pc_L_law 21) (B_L_law_21 L xs) :=
  ok_goto C dL_law_568 (by decide)
set_option maxRecDepth 100000 in
set_option maxHeartbeats 4000000 in
theorem lawb_22 (C : qa_C true Ai p s m args meth c cL_law 9 RL A0 (qa_rm fr_law lo_law a0 r) a0.2.2.2.1 a0.2.2.2.2 r) (hr : meth.sig.returnType = some .boolean) (hl : l.stackTraces = false) (hL : L < 2147483648) (hX : va_X (Ai (-17)) L xs s s.heap ∧ Ai (-17) < s.heap.size ∧ ¬ A0 (Ai (-17))) : qa_OK p l e (qa_rm fr_law lo_law a0 r) s m args below meth c (qa_Q below D Ai a0 r A0 args s) D A0 Ai a0.2.2.1 9 a0.2.2.2.1 a0.2.2.2.2 r pc_L_law (pc_L_law 22) (B_L_law_22 L xs) :=
  ok_aload_n C rfl dL_law_571 (ok_aload_n C rfl dL_law_572 (ok_iload C dL_law_573 (ok_iconst C (by decide) dL_law_575 (ok_iadd C dL_law_576 (ok_xld C hX dL_law_577 (ok_aload_n C rfl dL_law_578 (ok_iload C dL_law_579 (ok_iconst C (by decide) dL_law_581 (ok_iadd C dL_law_582 (ok_xld C hX dL_law_583 (ok_aload_n C rfl dL_law_584 (ok_iload C dL_law_585 (ok_iconst C (by decide) dL_law_587 (ok_iadd C dL_law_588 (ok_xld C hX dL_law_589 (ok_aload_n C rfl dL_law_590 (ok_callsx C (kon_L_entry l hl) (qa_wl [1063, 1064, 71, 1065] (by decide +kernel) (by decide +kernel)) ⟨by decide +kernel, by decide +kernel, by decide +kernel⟩ ⟨Nat.le_of_ble_eq_true rfl, Nat.le_of_ble_eq_true rfl⟩ dL_law_591 (ok_istore C (by decide) dL_law_594 (ok_aload_n C rfl dL_law_596 (ok_aload_n C rfl dL_law_597 (ok_iload C dL_law_598 (ok_iconst C (by decide) dL_law_600 (ok_iadd C dL_law_601 (ok_xld C hX dL_law_602 (ok_aload_n C rfl dL_law_603 (ok_iload C dL_law_604 (ok_iconst C (by decide) dL_law_606 (ok_iadd C dL_law_607 (ok_xld C hX dL_law_608 (ok_fall rfl))))))))))))))))))))))))))))))
set_option maxRecDepth 100000 in
set_option maxHeartbeats 4000000 in
theorem lawb_23 (C : qa_C true Ai p s m args meth c cL_law 9 RL A0 (qa_rm fr_law lo_law a0 r) a0.2.2.2.1 a0.2.2.2.2 r) (hr : meth.sig.returnType = some .boolean) (hl : l.stackTraces = false) (hL : L < 2147483648) (hX : va_X (Ai (-17)) L xs s s.heap ∧ Ai (-17) < s.heap.size ∧ ¬ A0 (Ai (-17))) : qa_OK p l e (qa_rm fr_law lo_law a0 r) s m args below meth c (qa_Q below D Ai a0 r A0 args s) D A0 Ai a0.2.2.1 9 a0.2.2.2.1 a0.2.2.2.2 r pc_L_law (pc_L_law 23) (B_L_law_23 L xs) :=
  ok_aload_n C rfl dL_law_609 (ok_iload C dL_law_610 (ok_iconst C (by decide) dL_law_612 (ok_iadd C dL_law_613 (ok_xld C hX dL_law_614 (ok_callv C rfl (by decide) (kon_X12_entry l hl) (qa_wl [1767, 1768, 1769, 85, 1770] (by decide +kernel) (by decide +kernel)) ⟨rfl, by decide +kernel, by decide +kernel, by decide +kernel⟩ ⟨Nat.le_of_ble_eq_true rfl, Nat.le_of_ble_eq_true rfl⟩ dL_law_615 (ok_istore C (by decide) dL_law_618 (ok_aload_n C rfl dL_law_620 (ok_callv C rfl (by decide) (kon_X12_thrown l hl) (qa_wl [1695, 1696, 1697, 85, 1698] (by decide +kernel) (by decide +kernel)) ⟨rfl, by decide +kernel, by decide +kernel, by decide +kernel⟩ ⟨Nat.le_of_ble_eq_true rfl, Nat.le_of_ble_eq_true rfl⟩ dL_law_621 (ok_iload C dL_law_624 (ok_cmpeq C (T := 24) dL_law_626 (by decide) (ok_iconst C (by decide) dL_law_629 (ok_zret C hr dL_law_630))))))))))))
set_option maxRecDepth 100000 in
set_option maxHeartbeats 4000000 in
theorem lawb_24 (C : qa_C true Ai p s m args meth c cL_law 9 RL A0 (qa_rm fr_law lo_law a0 r) a0.2.2.2.1 a0.2.2.2.2 r) (hr : meth.sig.returnType = some .boolean) (hl : l.stackTraces = false) (hL : L < 2147483648) (hX : va_X (Ai (-17)) L xs s s.heap ∧ Ai (-17) < s.heap.size ∧ ¬ A0 (Ai (-17))) : qa_OK p l e (qa_rm fr_law lo_law a0 r) s m args below meth c (qa_Q below D Ai a0 r A0 args s) D A0 Ai a0.2.2.1 9 a0.2.2.2.1 a0.2.2.2.2 r pc_L_law (pc_L_law 24) (B_L_law_24 L xs) :=
  ok_iload C dL_law_631 (ok_ifne C (T := 25) dL_law_633 (by decide) (ok_aload_n C rfl dL_law_636 (ok_iconst C (by decide) dL_law_637 (ok_laload C dL_law_638 (ok_iload C dL_law_639 (ok_i2l C dL_law_641 (ok_lcmp C dL_law_642 (ok_ifeq C (T := 25) dL_law_643 (by decide) (ok_iconst C (by decide) dL_law_646 (ok_zret C hr dL_law_647))))))))))
set_option maxRecDepth 100000 in
set_option maxHeartbeats 4000000 in
theorem lawb_25 (C : qa_C true Ai p s m args meth c cL_law 9 RL A0 (qa_rm fr_law lo_law a0 r) a0.2.2.2.1 a0.2.2.2.2 r) (hr : meth.sig.returnType = some .boolean) (hl : l.stackTraces = false) (hL : L < 2147483648) (hX : va_X (Ai (-17)) L xs s s.heap ∧ Ai (-17) < s.heap.size ∧ ¬ A0 (Ai (-17))) : qa_OK p l e (qa_rm fr_law lo_law a0 r) s m args below meth c (qa_Q below D Ai a0 r A0 args s) D A0 Ai a0.2.2.1 9 a0.2.2.2.1 a0.2.2.2.2 r pc_L_law (pc_L_law 25) (B_L_law_25 L xs) :=
  ok_goto C dL_law_648 (by decide)
set_option maxRecDepth 100000 in
set_option maxHeartbeats 4000000 in
theorem lawb_26 (C : qa_C true Ai p s m args meth c cL_law 9 RL A0 (qa_rm fr_law lo_law a0 r) a0.2.2.2.1 a0.2.2.2.2 r) (hr : meth.sig.returnType = some .boolean) (hl : l.stackTraces = false) (hL : L < 2147483648) (hX : va_X (Ai (-17)) L xs s s.heap ∧ Ai (-17) < s.heap.size ∧ ¬ A0 (Ai (-17))) : qa_OK p l e (qa_rm fr_law lo_law a0 r) s m args below meth c (qa_Q below D Ai a0 r A0 args s) D A0 Ai a0.2.2.1 9 a0.2.2.2.1 a0.2.2.2.2 r pc_L_law (pc_L_law 26) (B_L_law_26 L xs) :=
  ok_aload_n C rfl dL_law_651 (ok_aload_n C rfl dL_law_652 (ok_iload C dL_law_653 (ok_iconst C (by decide) dL_law_655 (ok_iadd C dL_law_656 (ok_xld C hX dL_law_657 (ok_aload_n C rfl dL_law_658 (ok_iload C dL_law_659 (ok_iconst C (by decide) dL_law_661 (ok_iadd C dL_law_662 (ok_xld C hX dL_law_663 (ok_aload_n C rfl dL_law_664 (ok_callsx C (kon_L_reader l hl) (qa_wl [1071, 1072, 71, 1073] (by decide +kernel) (by decide +kernel)) ⟨by decide +kernel, by decide +kernel, by decide +kernel⟩ ⟨Nat.le_of_ble_eq_true rfl, Nat.le_of_ble_eq_true rfl⟩ dL_law_665 (ok_istore C (by decide) dL_law_668 (ok_aload_n C rfl dL_law_670 (ok_aload_n C rfl dL_law_671 (ok_iload C dL_law_672 (ok_iconst C (by decide) dL_law_674 (ok_iadd C dL_law_675 (ok_xld C hX dL_law_676 (ok_aload_n C rfl dL_law_677 (ok_iload C dL_law_678 (ok_iconst C (by decide) dL_law_680 (ok_iadd C dL_law_681 (ok_xld C hX dL_law_682 (ok_callv C rfl (by decide) (kon_X12_reader l hl) (qa_wl [1794, 1795, 1796, 85, 1797] (by decide +kernel) (by decide +kernel)) ⟨rfl, by decide +kernel, by decide +kernel, by decide +kernel⟩ ⟨Nat.le_of_ble_eq_true rfl, Nat.le_of_ble_eq_true rfl⟩ dL_law_683 (ok_istore C (by decide) dL_law_686 (ok_aload_n C rfl dL_law_688 (ok_callv C rfl (by decide) (kon_X12_thrown l hl) (qa_wl [1695, 1696, 1697, 85, 1698] (by decide +kernel) (by decide +kernel)) ⟨rfl, by decide +kernel, by decide +kernel, by decide +kernel⟩ ⟨Nat.le_of_ble_eq_true rfl, Nat.le_of_ble_eq_true rfl⟩ dL_law_689 (ok_iload C dL_law_692 (ok_fall rfl))))))))))))))))))))))))))))))
set_option maxRecDepth 100000 in
set_option maxHeartbeats 4000000 in
theorem lawb_27 (C : qa_C true Ai p s m args meth c cL_law 9 RL A0 (qa_rm fr_law lo_law a0 r) a0.2.2.2.1 a0.2.2.2.2 r) (hr : meth.sig.returnType = some .boolean) (hl : l.stackTraces = false) (hL : L < 2147483648) (hX : va_X (Ai (-17)) L xs s s.heap ∧ Ai (-17) < s.heap.size ∧ ¬ A0 (Ai (-17))) : qa_OK p l e (qa_rm fr_law lo_law a0 r) s m args below meth c (qa_Q below D Ai a0 r A0 args s) D A0 Ai a0.2.2.1 9 a0.2.2.2.1 a0.2.2.2.2 r pc_L_law (pc_L_law 27) (B_L_law_27 L xs) :=
  ok_cmpeq C (T := 28) dL_law_694 (by decide) (ok_iconst C (by decide) dL_law_697 (ok_zret C hr dL_law_698))
set_option maxRecDepth 100000 in
set_option maxHeartbeats 4000000 in
theorem lawb_28 (C : qa_C true Ai p s m args meth c cL_law 9 RL A0 (qa_rm fr_law lo_law a0 r) a0.2.2.2.1 a0.2.2.2.2 r) (hr : meth.sig.returnType = some .boolean) (hl : l.stackTraces = false) (hL : L < 2147483648) (hX : va_X (Ai (-17)) L xs s s.heap ∧ Ai (-17) < s.heap.size ∧ ¬ A0 (Ai (-17))) : qa_OK p l e (qa_rm fr_law lo_law a0 r) s m args below meth c (qa_Q below D Ai a0 r A0 args s) D A0 Ai a0.2.2.1 9 a0.2.2.2.1 a0.2.2.2.2 r pc_L_law (pc_L_law 28) (B_L_law_28 L xs) :=
  ok_iload C dL_law_699 (ok_ifne C (T := 29) dL_law_701 (by decide) (ok_aload_n C rfl dL_law_704 (ok_iconst C (by decide) dL_law_705 (ok_laload C dL_law_706 (ok_iload C dL_law_707 (ok_i2l C dL_law_709 (ok_lcmp C dL_law_710 (ok_ifeq C (T := 29) dL_law_711 (by decide) (ok_iconst C (by decide) dL_law_714 (ok_zret C hr dL_law_715))))))))))
set_option maxRecDepth 100000 in
set_option maxHeartbeats 4000000 in
theorem lawb_29 (C : qa_C true Ai p s m args meth c cL_law 9 RL A0 (qa_rm fr_law lo_law a0 r) a0.2.2.2.1 a0.2.2.2.2 r) (hr : meth.sig.returnType = some .boolean) (hl : l.stackTraces = false) (hL : L < 2147483648) (hX : va_X (Ai (-17)) L xs s s.heap ∧ Ai (-17) < s.heap.size ∧ ¬ A0 (Ai (-17))) : qa_OK p l e (qa_rm fr_law lo_law a0 r) s m args below meth c (qa_Q below D Ai a0 r A0 args s) D A0 Ai a0.2.2.1 9 a0.2.2.2.1 a0.2.2.2.2 r pc_L_law (pc_L_law 29) (B_L_law_29 L xs) :=
  ok_goto C dL_law_716 (by decide)
set_option maxRecDepth 100000 in
set_option maxHeartbeats 4000000 in
theorem lawb_30 (C : qa_C true Ai p s m args meth c cL_law 9 RL A0 (qa_rm fr_law lo_law a0 r) a0.2.2.2.1 a0.2.2.2.2 r) (hr : meth.sig.returnType = some .boolean) (hl : l.stackTraces = false) (hL : L < 2147483648) (hX : va_X (Ai (-17)) L xs s s.heap ∧ Ai (-17) < s.heap.size ∧ ¬ A0 (Ai (-17))) : qa_OK p l e (qa_rm fr_law lo_law a0 r) s m args below meth c (qa_Q below D Ai a0 r A0 args s) D A0 Ai a0.2.2.1 9 a0.2.2.2.1 a0.2.2.2.2 r pc_L_law (pc_L_law 30) (B_L_law_30 L xs) :=
  ok_aload_n C rfl dL_law_719 (ok_aload_n C rfl dL_law_720 (ok_iload C dL_law_721 (ok_iconst C (by decide) dL_law_723 (ok_iadd C dL_law_724 (ok_xld C hX dL_law_725 (ok_aload_n C rfl dL_law_726 (ok_iload C dL_law_727 (ok_iconst C (by decide) dL_law_729 (ok_iadd C dL_law_730 (ok_xld C hX dL_law_731 (ok_aload_n C rfl dL_law_732 (ok_callsx C (kon_L_debt l hl) (qa_wl [1084, 1085, 71, 1086] (by decide +kernel) (by decide +kernel)) ⟨by decide +kernel, by decide +kernel, by decide +kernel⟩ ⟨Nat.le_of_ble_eq_true rfl, Nat.le_of_ble_eq_true rfl⟩ dL_law_733 (ok_istore C (by decide) dL_law_736 (ok_aload_n C rfl dL_law_738 (ok_aload_n C rfl dL_law_739 (ok_iload C dL_law_740 (ok_iconst C (by decide) dL_law_742 (ok_iadd C dL_law_743 (ok_xld C hX dL_law_744 (ok_aload_n C rfl dL_law_745 (ok_iload C dL_law_746 (ok_iconst C (by decide) dL_law_748 (ok_iadd C dL_law_749 (ok_xld C hX dL_law_750 (ok_callv C rfl (by decide) (kon_X12_debt l hl) (qa_wl [1806, 1807, 1808, 85, 1809] (by decide +kernel) (by decide +kernel)) ⟨rfl, by decide +kernel, by decide +kernel, by decide +kernel⟩ ⟨Nat.le_of_ble_eq_true rfl, Nat.le_of_ble_eq_true rfl⟩ dL_law_751 (ok_istore C (by decide) dL_law_754 (ok_aload_n C rfl dL_law_756 (ok_callv C rfl (by decide) (kon_X12_thrown l hl) (qa_wl [1695, 1696, 1697, 85, 1698] (by decide +kernel) (by decide +kernel)) ⟨rfl, by decide +kernel, by decide +kernel, by decide +kernel⟩ ⟨Nat.le_of_ble_eq_true rfl, Nat.le_of_ble_eq_true rfl⟩ dL_law_757 (ok_iload C dL_law_760 (ok_fall rfl))))))))))))))))))))))))))))))
set_option maxRecDepth 100000 in
set_option maxHeartbeats 4000000 in
theorem lawb_31 (C : qa_C true Ai p s m args meth c cL_law 9 RL A0 (qa_rm fr_law lo_law a0 r) a0.2.2.2.1 a0.2.2.2.2 r) (hr : meth.sig.returnType = some .boolean) (hl : l.stackTraces = false) (hL : L < 2147483648) (hX : va_X (Ai (-17)) L xs s s.heap ∧ Ai (-17) < s.heap.size ∧ ¬ A0 (Ai (-17))) : qa_OK p l e (qa_rm fr_law lo_law a0 r) s m args below meth c (qa_Q below D Ai a0 r A0 args s) D A0 Ai a0.2.2.1 9 a0.2.2.2.1 a0.2.2.2.2 r pc_L_law (pc_L_law 31) (B_L_law_31 L xs) :=
  ok_cmpeq C (T := 32) dL_law_762 (by decide) (ok_iconst C (by decide) dL_law_765 (ok_zret C hr dL_law_766))
set_option maxRecDepth 100000 in
set_option maxHeartbeats 4000000 in
theorem lawb_32 (C : qa_C true Ai p s m args meth c cL_law 9 RL A0 (qa_rm fr_law lo_law a0 r) a0.2.2.2.1 a0.2.2.2.2 r) (hr : meth.sig.returnType = some .boolean) (hl : l.stackTraces = false) (hL : L < 2147483648) (hX : va_X (Ai (-17)) L xs s s.heap ∧ Ai (-17) < s.heap.size ∧ ¬ A0 (Ai (-17))) : qa_OK p l e (qa_rm fr_law lo_law a0 r) s m args below meth c (qa_Q below D Ai a0 r A0 args s) D A0 Ai a0.2.2.1 9 a0.2.2.2.1 a0.2.2.2.2 r pc_L_law (pc_L_law 32) (B_L_law_32 L xs) :=
  ok_iload C dL_law_767 (ok_ifne C (T := 33) dL_law_769 (by decide) (ok_aload_n C rfl dL_law_772 (ok_iconst C (by decide) dL_law_773 (ok_laload C dL_law_774 (ok_iload C dL_law_775 (ok_i2l C dL_law_777 (ok_lcmp C dL_law_778 (ok_ifeq C (T := 33) dL_law_779 (by decide) (ok_iconst C (by decide) dL_law_782 (ok_zret C hr dL_law_783))))))))))
set_option maxRecDepth 100000 in
set_option maxHeartbeats 4000000 in
theorem lawb_33 (C : qa_C true Ai p s m args meth c cL_law 9 RL A0 (qa_rm fr_law lo_law a0 r) a0.2.2.2.1 a0.2.2.2.2 r) (hr : meth.sig.returnType = some .boolean) (hl : l.stackTraces = false) (hL : L < 2147483648) (hX : va_X (Ai (-17)) L xs s s.heap ∧ Ai (-17) < s.heap.size ∧ ¬ A0 (Ai (-17))) : qa_OK p l e (qa_rm fr_law lo_law a0 r) s m args below meth c (qa_Q below D Ai a0 r A0 args s) D A0 Ai a0.2.2.1 9 a0.2.2.2.1 a0.2.2.2.2 r pc_L_law (pc_L_law 33) (B_L_law_33 L xs) :=
  ok_goto C dL_law_784 (by decide)
set_option maxRecDepth 100000 in
set_option maxHeartbeats 4000000 in
theorem lawb_34 (C : qa_C true Ai p s m args meth c cL_law 9 RL A0 (qa_rm fr_law lo_law a0 r) a0.2.2.2.1 a0.2.2.2.2 r) (hr : meth.sig.returnType = some .boolean) (hl : l.stackTraces = false) (hL : L < 2147483648) (hX : va_X (Ai (-17)) L xs s s.heap ∧ Ai (-17) < s.heap.size ∧ ¬ A0 (Ai (-17))) : qa_OK p l e (qa_rm fr_law lo_law a0 r) s m args below meth c (qa_Q below D Ai a0 r A0 args s) D A0 Ai a0.2.2.1 9 a0.2.2.2.1 a0.2.2.2.2 r pc_L_law (pc_L_law 34) (B_L_law_34 L xs) :=
  ok_aload_n C rfl dL_law_787 (ok_aload_n C rfl dL_law_788 (ok_iload C dL_law_789 (ok_iconst C (by decide) dL_law_791 (ok_iadd C dL_law_792 (ok_xld C hX dL_law_793 (ok_aload_n C rfl dL_law_794 (ok_iload C dL_law_795 (ok_iconst C (by decide) dL_law_797 (ok_iadd C dL_law_798 (ok_xld C hX dL_law_799 (ok_aload_n C rfl dL_law_800 (ok_callsx C (kon_L_debtOf l hl) (qa_wl [1095, 1096, 71, 1097] (by decide +kernel) (by decide +kernel)) ⟨by decide +kernel, by decide +kernel, by decide +kernel⟩ ⟨Nat.le_of_ble_eq_true rfl, Nat.le_of_ble_eq_true rfl⟩ dL_law_801 (ok_istore C (by decide) dL_law_804 (ok_aload_n C rfl dL_law_806 (ok_aload_n C rfl dL_law_807 (ok_iload C dL_law_808 (ok_iconst C (by decide) dL_law_810 (ok_iadd C dL_law_811 (ok_xld C hX dL_law_812 (ok_aload_n C rfl dL_law_813 (ok_iload C dL_law_814 (ok_iconst C (by decide) dL_law_816 (ok_iadd C dL_law_817 (ok_xld C hX dL_law_818 (ok_callv C rfl (by decide) (kon_X12_debtOf l hl) (qa_wl [1810, 1811, 1812, 85, 1813] (by decide +kernel) (by decide +kernel)) ⟨rfl, by decide +kernel, by decide +kernel, by decide +kernel⟩ ⟨Nat.le_of_ble_eq_true rfl, Nat.le_of_ble_eq_true rfl⟩ dL_law_819 (ok_istore C (by decide) dL_law_822 (ok_aload_n C rfl dL_law_824 (ok_callv C rfl (by decide) (kon_X12_thrown l hl) (qa_wl [1695, 1696, 1697, 85, 1698] (by decide +kernel) (by decide +kernel)) ⟨rfl, by decide +kernel, by decide +kernel, by decide +kernel⟩ ⟨Nat.le_of_ble_eq_true rfl, Nat.le_of_ble_eq_true rfl⟩ dL_law_825 (ok_iload C dL_law_828 (ok_fall rfl))))))))))))))))))))))))))))))
set_option maxRecDepth 100000 in
set_option maxHeartbeats 4000000 in
theorem lawb_35 (C : qa_C true Ai p s m args meth c cL_law 9 RL A0 (qa_rm fr_law lo_law a0 r) a0.2.2.2.1 a0.2.2.2.2 r) (hr : meth.sig.returnType = some .boolean) (hl : l.stackTraces = false) (hL : L < 2147483648) (hX : va_X (Ai (-17)) L xs s s.heap ∧ Ai (-17) < s.heap.size ∧ ¬ A0 (Ai (-17))) : qa_OK p l e (qa_rm fr_law lo_law a0 r) s m args below meth c (qa_Q below D Ai a0 r A0 args s) D A0 Ai a0.2.2.1 9 a0.2.2.2.1 a0.2.2.2.2 r pc_L_law (pc_L_law 35) (B_L_law_35 L xs) :=
  ok_cmpeq C (T := 36) dL_law_830 (by decide) (ok_iconst C (by decide) dL_law_833 (ok_zret C hr dL_law_834))
set_option maxRecDepth 100000 in
set_option maxHeartbeats 4000000 in
theorem lawb_36 (C : qa_C true Ai p s m args meth c cL_law 9 RL A0 (qa_rm fr_law lo_law a0 r) a0.2.2.2.1 a0.2.2.2.2 r) (hr : meth.sig.returnType = some .boolean) (hl : l.stackTraces = false) (hL : L < 2147483648) (hX : va_X (Ai (-17)) L xs s s.heap ∧ Ai (-17) < s.heap.size ∧ ¬ A0 (Ai (-17))) : qa_OK p l e (qa_rm fr_law lo_law a0 r) s m args below meth c (qa_Q below D Ai a0 r A0 args s) D A0 Ai a0.2.2.1 9 a0.2.2.2.1 a0.2.2.2.2 r pc_L_law (pc_L_law 36) (B_L_law_36 L xs) :=
  ok_iload C dL_law_835 (ok_ifne C (T := 37) dL_law_837 (by decide) (ok_aload_n C rfl dL_law_840 (ok_iconst C (by decide) dL_law_841 (ok_laload C dL_law_842 (ok_iload C dL_law_843 (ok_i2l C dL_law_845 (ok_lcmp C dL_law_846 (ok_ifeq C (T := 37) dL_law_847 (by decide) (ok_iconst C (by decide) dL_law_850 (ok_zret C hr dL_law_851))))))))))
set_option maxRecDepth 100000 in
set_option maxHeartbeats 4000000 in
theorem lawb_37 (C : qa_C true Ai p s m args meth c cL_law 9 RL A0 (qa_rm fr_law lo_law a0 r) a0.2.2.2.1 a0.2.2.2.2 r) (hr : meth.sig.returnType = some .boolean) (hl : l.stackTraces = false) (hL : L < 2147483648) (hX : va_X (Ai (-17)) L xs s s.heap ∧ Ai (-17) < s.heap.size ∧ ¬ A0 (Ai (-17))) : qa_OK p l e (qa_rm fr_law lo_law a0 r) s m args below meth c (qa_Q below D Ai a0 r A0 args s) D A0 Ai a0.2.2.1 9 a0.2.2.2.1 a0.2.2.2.2 r pc_L_law (pc_L_law 37) (B_L_law_37 L xs) :=
  ok_goto C dL_law_852 (by decide)
set_option maxRecDepth 100000 in
set_option maxHeartbeats 4000000 in
theorem lawb_38 (C : qa_C true Ai p s m args meth c cL_law 9 RL A0 (qa_rm fr_law lo_law a0 r) a0.2.2.2.1 a0.2.2.2.2 r) (hr : meth.sig.returnType = some .boolean) (hl : l.stackTraces = false) (hL : L < 2147483648) (hX : va_X (Ai (-17)) L xs s s.heap ∧ Ai (-17) < s.heap.size ∧ ¬ A0 (Ai (-17))) : qa_OK p l e (qa_rm fr_law lo_law a0 r) s m args below meth c (qa_Q below D Ai a0 r A0 args s) D A0 Ai a0.2.2.1 9 a0.2.2.2.1 a0.2.2.2.2 r pc_L_law (pc_L_law 38) (B_L_law_38 L xs) :=
  ok_aload_n C rfl dL_law_855 (ok_aload_n C rfl dL_law_856 (ok_iload C dL_law_857 (ok_iconst C (by decide) dL_law_859 (ok_iadd C dL_law_860 (ok_xld C hX dL_law_861 (ok_aload_n C rfl dL_law_862 (ok_iload C dL_law_863 (ok_iconst C (by decide) dL_law_865 (ok_iadd C dL_law_866 (ok_xld C hX dL_law_867 (ok_aload_n C rfl dL_law_868 (ok_callsx C (kon_L_item l hl) (qa_wl [1106, 1107, 71, 1108] (by decide +kernel) (by decide +kernel)) ⟨by decide +kernel, by decide +kernel, by decide +kernel⟩ ⟨Nat.le_of_ble_eq_true rfl, Nat.le_of_ble_eq_true rfl⟩ dL_law_869 (ok_istore C (by decide) dL_law_872 (ok_aload_n C rfl dL_law_874 (ok_aload_n C rfl dL_law_875 (ok_iload C dL_law_876 (ok_iconst C (by decide) dL_law_878 (ok_iadd C dL_law_879 (ok_xld C hX dL_law_880 (ok_aload_n C rfl dL_law_881 (ok_iload C dL_law_882 (ok_iconst C (by decide) dL_law_884 (ok_iadd C dL_law_885 (ok_xld C hX dL_law_886 (ok_callv C rfl (by decide) (kon_X12_item l hl) (qa_wl [1814, 1815, 1816, 85, 1817] (by decide +kernel) (by decide +kernel)) ⟨rfl, by decide +kernel, by decide +kernel, by decide +kernel⟩ ⟨Nat.le_of_ble_eq_true rfl, Nat.le_of_ble_eq_true rfl⟩ dL_law_887 (ok_istore C (by decide) dL_law_890 (ok_aload_n C rfl dL_law_892 (ok_callv C rfl (by decide) (kon_X12_thrown l hl) (qa_wl [1695, 1696, 1697, 85, 1698] (by decide +kernel) (by decide +kernel)) ⟨rfl, by decide +kernel, by decide +kernel, by decide +kernel⟩ ⟨Nat.le_of_ble_eq_true rfl, Nat.le_of_ble_eq_true rfl⟩ dL_law_893 (ok_iload C dL_law_896 (ok_fall rfl))))))))))))))))))))))))))))))
set_option maxRecDepth 100000 in
set_option maxHeartbeats 4000000 in
theorem lawb_39 (C : qa_C true Ai p s m args meth c cL_law 9 RL A0 (qa_rm fr_law lo_law a0 r) a0.2.2.2.1 a0.2.2.2.2 r) (hr : meth.sig.returnType = some .boolean) (hl : l.stackTraces = false) (hL : L < 2147483648) (hX : va_X (Ai (-17)) L xs s s.heap ∧ Ai (-17) < s.heap.size ∧ ¬ A0 (Ai (-17))) : qa_OK p l e (qa_rm fr_law lo_law a0 r) s m args below meth c (qa_Q below D Ai a0 r A0 args s) D A0 Ai a0.2.2.1 9 a0.2.2.2.1 a0.2.2.2.2 r pc_L_law (pc_L_law 39) (B_L_law_39 L xs) :=
  ok_cmpeq C (T := 40) dL_law_898 (by decide) (ok_iconst C (by decide) dL_law_901 (ok_zret C hr dL_law_902))
set_option maxRecDepth 100000 in
set_option maxHeartbeats 4000000 in
theorem lawb_40 (C : qa_C true Ai p s m args meth c cL_law 9 RL A0 (qa_rm fr_law lo_law a0 r) a0.2.2.2.1 a0.2.2.2.2 r) (hr : meth.sig.returnType = some .boolean) (hl : l.stackTraces = false) (hL : L < 2147483648) (hX : va_X (Ai (-17)) L xs s s.heap ∧ Ai (-17) < s.heap.size ∧ ¬ A0 (Ai (-17))) : qa_OK p l e (qa_rm fr_law lo_law a0 r) s m args below meth c (qa_Q below D Ai a0 r A0 args s) D A0 Ai a0.2.2.1 9 a0.2.2.2.1 a0.2.2.2.2 r pc_L_law (pc_L_law 40) (B_L_law_40 L xs) :=
  ok_iload C dL_law_903 (ok_ifne C (T := 41) dL_law_905 (by decide) (ok_aload_n C rfl dL_law_908 (ok_iconst C (by decide) dL_law_909 (ok_laload C dL_law_910 (ok_iload C dL_law_911 (ok_i2l C dL_law_913 (ok_lcmp C dL_law_914 (ok_ifeq C (T := 41) dL_law_915 (by decide) (ok_iconst C (by decide) dL_law_918 (ok_zret C hr dL_law_919))))))))))
set_option maxRecDepth 100000 in
set_option maxHeartbeats 4000000 in
theorem lawb_41 (C : qa_C true Ai p s m args meth c cL_law 9 RL A0 (qa_rm fr_law lo_law a0 r) a0.2.2.2.1 a0.2.2.2.2 r) (hr : meth.sig.returnType = some .boolean) (hl : l.stackTraces = false) (hL : L < 2147483648) (hX : va_X (Ai (-17)) L xs s s.heap ∧ Ai (-17) < s.heap.size ∧ ¬ A0 (Ai (-17))) : qa_OK p l e (qa_rm fr_law lo_law a0 r) s m args below meth c (qa_Q below D Ai a0 r A0 args s) D A0 Ai a0.2.2.1 9 a0.2.2.2.1 a0.2.2.2.2 r pc_L_law (pc_L_law 41) (B_L_law_41 L xs) :=
  ok_goto C dL_law_920 (by decide)
set_option maxRecDepth 100000 in
set_option maxHeartbeats 4000000 in
theorem lawb_42 (C : qa_C true Ai p s m args meth c cL_law 9 RL A0 (qa_rm fr_law lo_law a0 r) a0.2.2.2.1 a0.2.2.2.2 r) (hr : meth.sig.returnType = some .boolean) (hl : l.stackTraces = false) (hL : L < 2147483648) (hX : va_X (Ai (-17)) L xs s s.heap ∧ Ai (-17) < s.heap.size ∧ ¬ A0 (Ai (-17))) : qa_OK p l e (qa_rm fr_law lo_law a0 r) s m args below meth c (qa_Q below D Ai a0 r A0 args s) D A0 Ai a0.2.2.1 9 a0.2.2.2.1 a0.2.2.2.2 r pc_L_law (pc_L_law 42) (B_L_law_42 L xs) :=
  ok_aload_n C rfl dL_law_923 (ok_aload_n C rfl dL_law_924 (ok_iload C dL_law_925 (ok_iconst C (by decide) dL_law_927 (ok_iadd C dL_law_928 (ok_xld C hX dL_law_929 (ok_aload_n C rfl dL_law_930 (ok_callsx C (kon_L_account l hl) (qa_wl [1118, 1119, 71, 1120] (by decide +kernel) (by decide +kernel)) ⟨by decide +kernel, by decide +kernel, by decide +kernel⟩ ⟨Nat.le_of_ble_eq_true rfl, Nat.le_of_ble_eq_true rfl⟩ dL_law_931 (ok_istore C (by decide) dL_law_934 (ok_aload_n C rfl dL_law_936 (ok_aload_n C rfl dL_law_937 (ok_iload C dL_law_938 (ok_iconst C (by decide) dL_law_940 (ok_iadd C dL_law_941 (ok_xld C hX dL_law_942 (ok_callv C rfl (by decide) (kon_X12_account l hl) (qa_wl [1818, 1819, 1820, 85, 1821] (by decide +kernel) (by decide +kernel)) ⟨rfl, by decide +kernel, by decide +kernel, by decide +kernel⟩ ⟨Nat.le_of_ble_eq_true rfl, Nat.le_of_ble_eq_true rfl⟩ dL_law_943 (ok_istore C (by decide) dL_law_946 (ok_aload_n C rfl dL_law_948 (ok_callv C rfl (by decide) (kon_X12_thrown l hl) (qa_wl [1695, 1696, 1697, 85, 1698] (by decide +kernel) (by decide +kernel)) ⟨rfl, by decide +kernel, by decide +kernel, by decide +kernel⟩ ⟨Nat.le_of_ble_eq_true rfl, Nat.le_of_ble_eq_true rfl⟩ dL_law_949 (ok_iload C dL_law_952 (ok_cmpeq C (T := 43) dL_law_954 (by decide) (ok_iconst C (by decide) dL_law_957 (ok_zret C hr dL_law_958))))))))))))))))))))))
set_option maxRecDepth 100000 in
set_option maxHeartbeats 4000000 in
theorem lawb_43 (C : qa_C true Ai p s m args meth c cL_law 9 RL A0 (qa_rm fr_law lo_law a0 r) a0.2.2.2.1 a0.2.2.2.2 r) (hr : meth.sig.returnType = some .boolean) (hl : l.stackTraces = false) (hL : L < 2147483648) (hX : va_X (Ai (-17)) L xs s s.heap ∧ Ai (-17) < s.heap.size ∧ ¬ A0 (Ai (-17))) : qa_OK p l e (qa_rm fr_law lo_law a0 r) s m args below meth c (qa_Q below D Ai a0 r A0 args s) D A0 Ai a0.2.2.1 9 a0.2.2.2.1 a0.2.2.2.2 r pc_L_law (pc_L_law 43) (B_L_law_43 L xs) :=
  ok_iload C dL_law_959 (ok_ifne C (T := 44) dL_law_961 (by decide) (ok_aload_n C rfl dL_law_964 (ok_iconst C (by decide) dL_law_965 (ok_laload C dL_law_966 (ok_iload C dL_law_967 (ok_i2l C dL_law_969 (ok_lcmp C dL_law_970 (ok_ifeq C (T := 44) dL_law_971 (by decide) (ok_iconst C (by decide) dL_law_974 (ok_zret C hr dL_law_975))))))))))
set_option maxRecDepth 100000 in
set_option maxHeartbeats 4000000 in
theorem lawb_44 (C : qa_C true Ai p s m args meth c cL_law 9 RL A0 (qa_rm fr_law lo_law a0 r) a0.2.2.2.1 a0.2.2.2.2 r) (hr : meth.sig.returnType = some .boolean) (hl : l.stackTraces = false) (hL : L < 2147483648) (hX : va_X (Ai (-17)) L xs s s.heap ∧ Ai (-17) < s.heap.size ∧ ¬ A0 (Ai (-17))) : qa_OK p l e (qa_rm fr_law lo_law a0 r) s m args below meth c (qa_Q below D Ai a0 r A0 args s) D A0 Ai a0.2.2.1 9 a0.2.2.2.1 a0.2.2.2.2 r pc_L_law (pc_L_law 44) (B_L_law_44 L xs) :=
  ok_goto C dL_law_976 (by decide)
set_option maxRecDepth 100000 in
set_option maxHeartbeats 4000000 in
theorem lawb_45 (C : qa_C true Ai p s m args meth c cL_law 9 RL A0 (qa_rm fr_law lo_law a0 r) a0.2.2.2.1 a0.2.2.2.2 r) (hr : meth.sig.returnType = some .boolean) (hl : l.stackTraces = false) (hL : L < 2147483648) (hX : va_X (Ai (-17)) L xs s s.heap ∧ Ai (-17) < s.heap.size ∧ ¬ A0 (Ai (-17))) : qa_OK p l e (qa_rm fr_law lo_law a0 r) s m args below meth c (qa_Q below D Ai a0 r A0 args s) D A0 Ai a0.2.2.1 9 a0.2.2.2.1 a0.2.2.2.2 r pc_L_law (pc_L_law 45) (B_L_law_45 L xs) :=
  ok_aload_n C rfl dL_law_979 (ok_aload_n C rfl dL_law_980 (ok_iload C dL_law_981 (ok_iconst C (by decide) dL_law_983 (ok_iadd C dL_law_984 (ok_xld C hX dL_law_985 (ok_aload_n C rfl dL_law_986 (ok_iload C dL_law_987 (ok_iconst C (by decide) dL_law_989 (ok_iadd C dL_law_990 (ok_xld C hX dL_law_991 (ok_aload_n C rfl dL_law_992 (ok_iload C dL_law_993 (ok_iconst C (by decide) dL_law_995 (ok_iadd C dL_law_996 (ok_xld C hX dL_law_997 (ok_aload_n C rfl dL_law_998 (ok_iload C dL_law_999 (ok_iconst C (by decide) dL_law_1001 (ok_iadd C dL_law_1002 (ok_xld C hX dL_law_1003 (ok_aload_n C rfl dL_law_1004 (ok_callsx C (kon_L_append l hl) (qa_wl [1129, 1130, 71, 1131] (by decide +kernel) (by decide +kernel)) ⟨by decide +kernel, by decide +kernel, by decide +kernel⟩ ⟨Nat.le_of_ble_eq_true rfl, Nat.le_of_ble_eq_true rfl⟩ dL_law_1005 (ok_istore C (by decide) dL_law_1008 (ok_aload_n C rfl dL_law_1010 (ok_aload_n C rfl dL_law_1011 (ok_iload C dL_law_1012 (ok_iconst C (by decide) dL_law_1014 (ok_iadd C dL_law_1015 (ok_xld C hX dL_law_1016 (ok_fall rfl))))))))))))))))))))))))))))))
set_option maxRecDepth 100000 in
set_option maxHeartbeats 4000000 in
theorem lawb_46 (C : qa_C true Ai p s m args meth c cL_law 9 RL A0 (qa_rm fr_law lo_law a0 r) a0.2.2.2.1 a0.2.2.2.2 r) (hr : meth.sig.returnType = some .boolean) (hl : l.stackTraces = false) (hL : L < 2147483648) (hX : va_X (Ai (-17)) L xs s s.heap ∧ Ai (-17) < s.heap.size ∧ ¬ A0 (Ai (-17))) : qa_OK p l e (qa_rm fr_law lo_law a0 r) s m args below meth c (qa_Q below D Ai a0 r A0 args s) D A0 Ai a0.2.2.1 9 a0.2.2.2.1 a0.2.2.2.2 r pc_L_law (pc_L_law 46) (B_L_law_46 L xs) :=
  ok_aload_n C rfl dL_law_1017 (ok_iload C dL_law_1018 (ok_iconst C (by decide) dL_law_1020 (ok_iadd C dL_law_1021 (ok_xld C hX dL_law_1022 (ok_aload_n C rfl dL_law_1023 (ok_iload C dL_law_1024 (ok_iconst C (by decide) dL_law_1026 (ok_iadd C dL_law_1027 (ok_xld C hX dL_law_1028 (ok_aload_n C rfl dL_law_1029 (ok_iload C dL_law_1030 (ok_iconst C (by decide) dL_law_1032 (ok_iadd C dL_law_1033 (ok_xld C hX dL_law_1034 (ok_callv C rfl (by decide) (kon_X12_append l hl) (qa_wl [1822, 1823, 1824, 85, 1825] (by decide +kernel) (by decide +kernel)) ⟨rfl, by decide +kernel, by decide +kernel, by decide +kernel⟩ ⟨Nat.le_of_ble_eq_true rfl, Nat.le_of_ble_eq_true rfl⟩ dL_law_1035 (ok_istore C (by decide) dL_law_1038 (ok_aload_n C rfl dL_law_1040 (ok_callv C rfl (by decide) (kon_X12_thrown l hl) (qa_wl [1695, 1696, 1697, 85, 1698] (by decide +kernel) (by decide +kernel)) ⟨rfl, by decide +kernel, by decide +kernel, by decide +kernel⟩ ⟨Nat.le_of_ble_eq_true rfl, Nat.le_of_ble_eq_true rfl⟩ dL_law_1041 (ok_iload C dL_law_1044 (ok_cmpeq C (T := 47) dL_law_1046 (by decide) (ok_iconst C (by decide) dL_law_1049 (ok_zret C hr dL_law_1050))))))))))))))))))))))
set_option maxRecDepth 100000 in
set_option maxHeartbeats 4000000 in
theorem lawb_47 (C : qa_C true Ai p s m args meth c cL_law 9 RL A0 (qa_rm fr_law lo_law a0 r) a0.2.2.2.1 a0.2.2.2.2 r) (hr : meth.sig.returnType = some .boolean) (hl : l.stackTraces = false) (hL : L < 2147483648) (hX : va_X (Ai (-17)) L xs s s.heap ∧ Ai (-17) < s.heap.size ∧ ¬ A0 (Ai (-17))) : qa_OK p l e (qa_rm fr_law lo_law a0 r) s m args below meth c (qa_Q below D Ai a0 r A0 args s) D A0 Ai a0.2.2.1 9 a0.2.2.2.1 a0.2.2.2.2 r pc_L_law (pc_L_law 47) (B_L_law_47 L xs) :=
  ok_iload C dL_law_1051 (ok_ifne C (T := 48) dL_law_1053 (by decide) (ok_aload_n C rfl dL_law_1056 (ok_iconst C (by decide) dL_law_1057 (ok_laload C dL_law_1058 (ok_iload C dL_law_1059 (ok_i2l C dL_law_1061 (ok_lcmp C dL_law_1062 (ok_ifeq C (T := 48) dL_law_1063 (by decide) (ok_iconst C (by decide) dL_law_1066 (ok_zret C hr dL_law_1067))))))))))
set_option maxRecDepth 100000 in
set_option maxHeartbeats 4000000 in
theorem lawb_48 (C : qa_C true Ai p s m args meth c cL_law 9 RL A0 (qa_rm fr_law lo_law a0 r) a0.2.2.2.1 a0.2.2.2.2 r) (hr : meth.sig.returnType = some .boolean) (hl : l.stackTraces = false) (hL : L < 2147483648) (hX : va_X (Ai (-17)) L xs s s.heap ∧ Ai (-17) < s.heap.size ∧ ¬ A0 (Ai (-17))) : qa_OK p l e (qa_rm fr_law lo_law a0 r) s m args below meth c (qa_Q below D Ai a0 r A0 args s) D A0 Ai a0.2.2.1 9 a0.2.2.2.1 a0.2.2.2.2 r pc_L_law (pc_L_law 48) (B_L_law_48 L xs) :=
  ok_goto C dL_law_1068 (by decide)
set_option maxRecDepth 100000 in
set_option maxHeartbeats 4000000 in
theorem lawb_49 (C : qa_C true Ai p s m args meth c cL_law 9 RL A0 (qa_rm fr_law lo_law a0 r) a0.2.2.2.1 a0.2.2.2.2 r) (hr : meth.sig.returnType = some .boolean) (hl : l.stackTraces = false) (hL : L < 2147483648) (hX : va_X (Ai (-17)) L xs s s.heap ∧ Ai (-17) < s.heap.size ∧ ¬ A0 (Ai (-17))) : qa_OK p l e (qa_rm fr_law lo_law a0 r) s m args below meth c (qa_Q below D Ai a0 r A0 args s) D A0 Ai a0.2.2.1 9 a0.2.2.2.1 a0.2.2.2.2 r pc_L_law (pc_L_law 49) (B_L_law_49 L xs) :=
  ok_aload_n C rfl dL_law_1071 (ok_aload_n C rfl dL_law_1072 (ok_iload C dL_law_1073 (ok_iconst C (by decide) dL_law_1075 (ok_iadd C dL_law_1076 (ok_xld C hX dL_law_1077 (ok_aload_n C rfl dL_law_1078 (ok_iload C dL_law_1079 (ok_iconst C (by decide) dL_law_1081 (ok_iadd C dL_law_1082 (ok_xld C hX dL_law_1083 (ok_ifeq C (T := 50) dL_law_1084 (by decide) (ok_iconst C (by decide) dL_law_1087 (ok_goto C dL_law_1088 (by decide))))))))))))))
set_option maxRecDepth 100000 in
set_option maxHeartbeats 4000000 in
theorem lawb_50 (C : qa_C true Ai p s m args meth c cL_law 9 RL A0 (qa_rm fr_law lo_law a0 r) a0.2.2.2.1 a0.2.2.2.2 r) (hr : meth.sig.returnType = some .boolean) (hl : l.stackTraces = false) (hL : L < 2147483648) (hX : va_X (Ai (-17)) L xs s s.heap ∧ Ai (-17) < s.heap.size ∧ ¬ A0 (Ai (-17))) : qa_OK p l e (qa_rm fr_law lo_law a0 r) s m args below meth c (qa_Q below D Ai a0 r A0 args s) D A0 Ai a0.2.2.1 9 a0.2.2.2.1 a0.2.2.2.2 r pc_L_law (pc_L_law 50) (B_L_law_50 L xs) :=
  ok_iconst C (by decide) dL_law_1091 (ok_fall rfl)
set_option maxRecDepth 100000 in
set_option maxHeartbeats 4000000 in
theorem lawb_51 (C : qa_C true Ai p s m args meth c cL_law 9 RL A0 (qa_rm fr_law lo_law a0 r) a0.2.2.2.1 a0.2.2.2.2 r) (hr : meth.sig.returnType = some .boolean) (hl : l.stackTraces = false) (hL : L < 2147483648) (hX : va_X (Ai (-17)) L xs s s.heap ∧ Ai (-17) < s.heap.size ∧ ¬ A0 (Ai (-17))) : qa_OK p l e (qa_rm fr_law lo_law a0 r) s m args below meth c (qa_Q below D Ai a0 r A0 args s) D A0 Ai a0.2.2.1 9 a0.2.2.2.1 a0.2.2.2.2 r pc_L_law (pc_L_law 51) (B_L_law_51 L xs) :=
  ok_aload_n C rfl dL_law_1092 (ok_callsx C (kon_L_join l hl) (qa_wl [1133, 1134, 71, 1135] (by decide +kernel) (by decide +kernel)) ⟨by decide +kernel, by decide +kernel, by decide +kernel⟩ ⟨Nat.le_of_ble_eq_true rfl, Nat.le_of_ble_eq_true rfl⟩ dL_law_1093 (ok_istore C (by decide) dL_law_1096 (ok_aload_n C rfl dL_law_1098 (ok_aload_n C rfl dL_law_1099 (ok_iload C dL_law_1100 (ok_iconst C (by decide) dL_law_1102 (ok_iadd C dL_law_1103 (ok_xld C hX dL_law_1104 (ok_aload_n C rfl dL_law_1105 (ok_iload C dL_law_1106 (ok_iconst C (by decide) dL_law_1108 (ok_iadd C dL_law_1109 (ok_xld C hX dL_law_1110 (ok_ifeq C (T := 52) dL_law_1111 (by decide) (ok_iconst C (by decide) dL_law_1114 (ok_goto C dL_law_1115 (by decide)))))))))))))))))
set_option maxRecDepth 100000 in
set_option maxHeartbeats 4000000 in
theorem lawb_52 (C : qa_C true Ai p s m args meth c cL_law 9 RL A0 (qa_rm fr_law lo_law a0 r) a0.2.2.2.1 a0.2.2.2.2 r) (hr : meth.sig.returnType = some .boolean) (hl : l.stackTraces = false) (hL : L < 2147483648) (hX : va_X (Ai (-17)) L xs s s.heap ∧ Ai (-17) < s.heap.size ∧ ¬ A0 (Ai (-17))) : qa_OK p l e (qa_rm fr_law lo_law a0 r) s m args below meth c (qa_Q below D Ai a0 r A0 args s) D A0 Ai a0.2.2.1 9 a0.2.2.2.1 a0.2.2.2.2 r pc_L_law (pc_L_law 52) (B_L_law_52 L xs) :=
  ok_iconst C (by decide) dL_law_1118 (ok_fall rfl)
set_option maxRecDepth 100000 in
set_option maxHeartbeats 4000000 in
theorem lawb_53 (C : qa_C true Ai p s m args meth c cL_law 9 RL A0 (qa_rm fr_law lo_law a0 r) a0.2.2.2.1 a0.2.2.2.2 r) (hr : meth.sig.returnType = some .boolean) (hl : l.stackTraces = false) (hL : L < 2147483648) (hX : va_X (Ai (-17)) L xs s s.heap ∧ Ai (-17) < s.heap.size ∧ ¬ A0 (Ai (-17))) : qa_OK p l e (qa_rm fr_law lo_law a0 r) s m args below meth c (qa_Q below D Ai a0 r A0 args s) D A0 Ai a0.2.2.1 9 a0.2.2.2.1 a0.2.2.2.2 r pc_L_law (pc_L_law 53) (B_L_law_53 L xs) :=
  ok_callv C rfl (by decide) (kon_X12_join l hl) (qa_wl [1876, 1877, 1878, 85, 1879] (by decide +kernel) (by decide +kernel)) ⟨rfl, by decide +kernel, by decide +kernel, by decide +kernel⟩ ⟨Nat.le_of_ble_eq_true rfl, Nat.le_of_ble_eq_true rfl⟩ dL_law_1119 (ok_istore C (by decide) dL_law_1122 (ok_aload_n C rfl dL_law_1124 (ok_callv C rfl (by decide) (kon_X12_thrown l hl) (qa_wl [1695, 1696, 1697, 85, 1698] (by decide +kernel) (by decide +kernel)) ⟨rfl, by decide +kernel, by decide +kernel, by decide +kernel⟩ ⟨Nat.le_of_ble_eq_true rfl, Nat.le_of_ble_eq_true rfl⟩ dL_law_1125 (ok_iload C dL_law_1128 (ok_cmpeq C (T := 54) dL_law_1130 (by decide) (ok_iconst C (by decide) dL_law_1133 (ok_zret C hr dL_law_1134)))))))
set_option maxRecDepth 100000 in
set_option maxHeartbeats 4000000 in
theorem lawb_54 (C : qa_C true Ai p s m args meth c cL_law 9 RL A0 (qa_rm fr_law lo_law a0 r) a0.2.2.2.1 a0.2.2.2.2 r) (hr : meth.sig.returnType = some .boolean) (hl : l.stackTraces = false) (hL : L < 2147483648) (hX : va_X (Ai (-17)) L xs s s.heap ∧ Ai (-17) < s.heap.size ∧ ¬ A0 (Ai (-17))) : qa_OK p l e (qa_rm fr_law lo_law a0 r) s m args below meth c (qa_Q below D Ai a0 r A0 args s) D A0 Ai a0.2.2.1 9 a0.2.2.2.1 a0.2.2.2.2 r pc_L_law (pc_L_law 54) (B_L_law_54 L xs) :=
  ok_iload C dL_law_1135 (ok_ifne C (T := 55) dL_law_1137 (by decide) (ok_aload_n C rfl dL_law_1140 (ok_iconst C (by decide) dL_law_1141 (ok_laload C dL_law_1142 (ok_iload C dL_law_1143 (ok_i2l C dL_law_1145 (ok_lcmp C dL_law_1146 (ok_ifeq C (T := 55) dL_law_1147 (by decide) (ok_iconst C (by decide) dL_law_1150 (ok_zret C hr dL_law_1151))))))))))
set_option maxRecDepth 100000 in
set_option maxHeartbeats 4000000 in
theorem lawb_55 (C : qa_C true Ai p s m args meth c cL_law 9 RL A0 (qa_rm fr_law lo_law a0 r) a0.2.2.2.1 a0.2.2.2.2 r) (hr : meth.sig.returnType = some .boolean) (hl : l.stackTraces = false) (hL : L < 2147483648) (hX : va_X (Ai (-17)) L xs s s.heap ∧ Ai (-17) < s.heap.size ∧ ¬ A0 (Ai (-17))) : qa_OK p l e (qa_rm fr_law lo_law a0 r) s m args below meth c (qa_Q below D Ai a0 r A0 args s) D A0 Ai a0.2.2.1 9 a0.2.2.2.1 a0.2.2.2.2 r pc_L_law (pc_L_law 55) (B_L_law_55 L xs) :=
  ok_goto C dL_law_1152 (by decide)
set_option maxRecDepth 100000 in
set_option maxHeartbeats 4000000 in
theorem lawb_56 (C : qa_C true Ai p s m args meth c cL_law 9 RL A0 (qa_rm fr_law lo_law a0 r) a0.2.2.2.1 a0.2.2.2.2 r) (hr : meth.sig.returnType = some .boolean) (hl : l.stackTraces = false) (hL : L < 2147483648) (hX : va_X (Ai (-17)) L xs s s.heap ∧ Ai (-17) < s.heap.size ∧ ¬ A0 (Ai (-17))) : qa_OK p l e (qa_rm fr_law lo_law a0 r) s m args below meth c (qa_Q below D Ai a0 r A0 args s) D A0 Ai a0.2.2.1 9 a0.2.2.2.1 a0.2.2.2.2 r pc_L_law (pc_L_law 56) (B_L_law_56 L xs) :=
  ok_aload_n C rfl dL_law_1155 (ok_aload_n C rfl dL_law_1156 (ok_iload C dL_law_1157 (ok_iconst C (by decide) dL_law_1159 (ok_iadd C dL_law_1160 (ok_xld C hX dL_law_1161 (ok_aload_n C rfl dL_law_1162 (ok_callsx C (kon_L_leave l hl) (qa_wl [1137, 1138, 71, 1139] (by decide +kernel) (by decide +kernel)) ⟨by decide +kernel, by decide +kernel, by decide +kernel⟩ ⟨Nat.le_of_ble_eq_true rfl, Nat.le_of_ble_eq_true rfl⟩ dL_law_1163 (ok_istore C (by decide) dL_law_1166 (ok_aload_n C rfl dL_law_1168 (ok_aload_n C rfl dL_law_1169 (ok_iload C dL_law_1170 (ok_iconst C (by decide) dL_law_1172 (ok_iadd C dL_law_1173 (ok_xld C hX dL_law_1174 (ok_callv C rfl (by decide) (kon_X12_leave l hl) (qa_wl [1888, 1889, 1890, 85, 1891] (by decide +kernel) (by decide +kernel)) ⟨rfl, by decide +kernel, by decide +kernel, by decide +kernel⟩ ⟨Nat.le_of_ble_eq_true rfl, Nat.le_of_ble_eq_true rfl⟩ dL_law_1175 (ok_istore C (by decide) dL_law_1178 (ok_aload_n C rfl dL_law_1180 (ok_callv C rfl (by decide) (kon_X12_thrown l hl) (qa_wl [1695, 1696, 1697, 85, 1698] (by decide +kernel) (by decide +kernel)) ⟨rfl, by decide +kernel, by decide +kernel, by decide +kernel⟩ ⟨Nat.le_of_ble_eq_true rfl, Nat.le_of_ble_eq_true rfl⟩ dL_law_1181 (ok_iload C dL_law_1184 (ok_cmpeq C (T := 57) dL_law_1186 (by decide) (ok_iconst C (by decide) dL_law_1189 (ok_zret C hr dL_law_1190))))))))))))))))))))))
set_option maxRecDepth 100000 in
set_option maxHeartbeats 4000000 in
theorem lawb_57 (C : qa_C true Ai p s m args meth c cL_law 9 RL A0 (qa_rm fr_law lo_law a0 r) a0.2.2.2.1 a0.2.2.2.2 r) (hr : meth.sig.returnType = some .boolean) (hl : l.stackTraces = false) (hL : L < 2147483648) (hX : va_X (Ai (-17)) L xs s s.heap ∧ Ai (-17) < s.heap.size ∧ ¬ A0 (Ai (-17))) : qa_OK p l e (qa_rm fr_law lo_law a0 r) s m args below meth c (qa_Q below D Ai a0 r A0 args s) D A0 Ai a0.2.2.1 9 a0.2.2.2.1 a0.2.2.2.2 r pc_L_law (pc_L_law 57) (B_L_law_57 L xs) :=
  ok_iload C dL_law_1191 (ok_ifne C (T := 58) dL_law_1193 (by decide) (ok_aload_n C rfl dL_law_1196 (ok_iconst C (by decide) dL_law_1197 (ok_laload C dL_law_1198 (ok_iload C dL_law_1199 (ok_i2l C dL_law_1201 (ok_lcmp C dL_law_1202 (ok_ifeq C (T := 58) dL_law_1203 (by decide) (ok_iconst C (by decide) dL_law_1206 (ok_zret C hr dL_law_1207))))))))))
set_option maxRecDepth 100000 in
set_option maxHeartbeats 4000000 in
theorem lawb_58 (C : qa_C true Ai p s m args meth c cL_law 9 RL A0 (qa_rm fr_law lo_law a0 r) a0.2.2.2.1 a0.2.2.2.2 r) (hr : meth.sig.returnType = some .boolean) (hl : l.stackTraces = false) (hL : L < 2147483648) (hX : va_X (Ai (-17)) L xs s s.heap ∧ Ai (-17) < s.heap.size ∧ ¬ A0 (Ai (-17))) : qa_OK p l e (qa_rm fr_law lo_law a0 r) s m args below meth c (qa_Q below D Ai a0 r A0 args s) D A0 Ai a0.2.2.1 9 a0.2.2.2.1 a0.2.2.2.2 r pc_L_law (pc_L_law 58) (B_L_law_58 L xs) :=
  ok_goto C dL_law_1208 (by decide)
set_option maxRecDepth 100000 in
set_option maxHeartbeats 4000000 in
theorem lawb_59 (C : qa_C true Ai p s m args meth c cL_law 9 RL A0 (qa_rm fr_law lo_law a0 r) a0.2.2.2.1 a0.2.2.2.2 r) (hr : meth.sig.returnType = some .boolean) (hl : l.stackTraces = false) (hL : L < 2147483648) (hX : va_X (Ai (-17)) L xs s s.heap ∧ Ai (-17) < s.heap.size ∧ ¬ A0 (Ai (-17))) : qa_OK p l e (qa_rm fr_law lo_law a0 r) s m args below meth c (qa_Q below D Ai a0 r A0 args s) D A0 Ai a0.2.2.1 9 a0.2.2.2.1 a0.2.2.2.2 r pc_L_law (pc_L_law 59) (B_L_law_59 L xs) :=
  ok_aload_n C rfl dL_law_1211 (ok_aload_n C rfl dL_law_1212 (ok_iload C dL_law_1213 (ok_iconst C (by decide) dL_law_1215 (ok_iadd C dL_law_1216 (ok_xld C hX dL_law_1217 (ok_aload_n C rfl dL_law_1218 (ok_iload C dL_law_1219 (ok_iconst C (by decide) dL_law_1221 (ok_iadd C dL_law_1222 (ok_xld C hX dL_law_1223 (ok_aload_n C rfl dL_law_1224 (ok_callsx C (kon_L_read l hl) (qa_wl [1141, 1142, 71, 1143] (by decide +kernel) (by decide +kernel)) ⟨by decide +kernel, by decide +kernel, by decide +kernel⟩ ⟨Nat.le_of_ble_eq_true rfl, Nat.le_of_ble_eq_true rfl⟩ dL_law_1225 (ok_istore C (by decide) dL_law_1228 (ok_aload_n C rfl dL_law_1230 (ok_aload_n C rfl dL_law_1231 (ok_iload C dL_law_1232 (ok_iconst C (by decide) dL_law_1234 (ok_iadd C dL_law_1235 (ok_xld C hX dL_law_1236 (ok_aload_n C rfl dL_law_1237 (ok_iload C dL_law_1238 (ok_iconst C (by decide) dL_law_1240 (ok_iadd C dL_law_1241 (ok_xld C hX dL_law_1242 (ok_callv C rfl (by decide) (kon_X12_read l hl) (qa_wl [1896, 1897, 1898, 85, 1899] (by decide +kernel) (by decide +kernel)) ⟨rfl, by decide +kernel, by decide +kernel, by decide +kernel⟩ ⟨Nat.le_of_ble_eq_true rfl, Nat.le_of_ble_eq_true rfl⟩ dL_law_1243 (ok_istore C (by decide) dL_law_1246 (ok_aload_n C rfl dL_law_1248 (ok_callv C rfl (by decide) (kon_X12_thrown l hl) (qa_wl [1695, 1696, 1697, 85, 1698] (by decide +kernel) (by decide +kernel)) ⟨rfl, by decide +kernel, by decide +kernel, by decide +kernel⟩ ⟨Nat.le_of_ble_eq_true rfl, Nat.le_of_ble_eq_true rfl⟩ dL_law_1249 (ok_iload C dL_law_1252 (ok_fall rfl))))))))))))))))))))))))))))))
set_option maxRecDepth 100000 in
set_option maxHeartbeats 4000000 in
theorem lawb_60 (C : qa_C true Ai p s m args meth c cL_law 9 RL A0 (qa_rm fr_law lo_law a0 r) a0.2.2.2.1 a0.2.2.2.2 r) (hr : meth.sig.returnType = some .boolean) (hl : l.stackTraces = false) (hL : L < 2147483648) (hX : va_X (Ai (-17)) L xs s s.heap ∧ Ai (-17) < s.heap.size ∧ ¬ A0 (Ai (-17))) : qa_OK p l e (qa_rm fr_law lo_law a0 r) s m args below meth c (qa_Q below D Ai a0 r A0 args s) D A0 Ai a0.2.2.1 9 a0.2.2.2.1 a0.2.2.2.2 r pc_L_law (pc_L_law 60) (B_L_law_60 L xs) :=
  ok_cmpeq C (T := 61) dL_law_1254 (by decide) (ok_iconst C (by decide) dL_law_1257 (ok_zret C hr dL_law_1258))
set_option maxRecDepth 100000 in
set_option maxHeartbeats 4000000 in
theorem lawb_61 (C : qa_C true Ai p s m args meth c cL_law 9 RL A0 (qa_rm fr_law lo_law a0 r) a0.2.2.2.1 a0.2.2.2.2 r) (hr : meth.sig.returnType = some .boolean) (hl : l.stackTraces = false) (hL : L < 2147483648) (hX : va_X (Ai (-17)) L xs s s.heap ∧ Ai (-17) < s.heap.size ∧ ¬ A0 (Ai (-17))) : qa_OK p l e (qa_rm fr_law lo_law a0 r) s m args below meth c (qa_Q below D Ai a0 r A0 args s) D A0 Ai a0.2.2.1 9 a0.2.2.2.1 a0.2.2.2.2 r pc_L_law (pc_L_law 61) (B_L_law_61 L xs) :=
  ok_iload C dL_law_1259 (ok_ifne C (T := 62) dL_law_1261 (by decide) (ok_aload_n C rfl dL_law_1264 (ok_iconst C (by decide) dL_law_1265 (ok_laload C dL_law_1266 (ok_iload C dL_law_1267 (ok_i2l C dL_law_1269 (ok_lcmp C dL_law_1270 (ok_ifeq C (T := 62) dL_law_1271 (by decide) (ok_iconst C (by decide) dL_law_1274 (ok_zret C hr dL_law_1275))))))))))
set_option maxRecDepth 100000 in
set_option maxHeartbeats 4000000 in
theorem lawb_62 (C : qa_C true Ai p s m args meth c cL_law 9 RL A0 (qa_rm fr_law lo_law a0 r) a0.2.2.2.1 a0.2.2.2.2 r) (hr : meth.sig.returnType = some .boolean) (hl : l.stackTraces = false) (hL : L < 2147483648) (hX : va_X (Ai (-17)) L xs s s.heap ∧ Ai (-17) < s.heap.size ∧ ¬ A0 (Ai (-17))) : qa_OK p l e (qa_rm fr_law lo_law a0 r) s m args below meth c (qa_Q below D Ai a0 r A0 args s) D A0 Ai a0.2.2.1 9 a0.2.2.2.1 a0.2.2.2.2 r pc_L_law (pc_L_law 62) (B_L_law_62 L xs) :=
  ok_goto C dL_law_1276 (by decide)
set_option maxRecDepth 100000 in
set_option maxHeartbeats 4000000 in
theorem lawb_63 (C : qa_C true Ai p s m args meth c cL_law 9 RL A0 (qa_rm fr_law lo_law a0 r) a0.2.2.2.1 a0.2.2.2.2 r) (hr : meth.sig.returnType = some .boolean) (hl : l.stackTraces = false) (hL : L < 2147483648) (hX : va_X (Ai (-17)) L xs s s.heap ∧ Ai (-17) < s.heap.size ∧ ¬ A0 (Ai (-17))) : qa_OK p l e (qa_rm fr_law lo_law a0 r) s m args below meth c (qa_Q below D Ai a0 r A0 args s) D A0 Ai a0.2.2.1 9 a0.2.2.2.1 a0.2.2.2.2 r pc_L_law (pc_L_law 63) (B_L_law_63 L xs) :=
  ok_aload_n C rfl dL_law_1279 (ok_aload_n C rfl dL_law_1280 (ok_iload C dL_law_1281 (ok_iconst C (by decide) dL_law_1283 (ok_iadd C dL_law_1284 (ok_xld C hX dL_law_1285 (ok_aload_n C rfl dL_law_1286 (ok_iload C dL_law_1287 (ok_iconst C (by decide) dL_law_1289 (ok_iadd C dL_law_1290 (ok_xld C hX dL_law_1291 (ok_aload_n C rfl dL_law_1292 (ok_callsx C (kon_L_promise l hl) (qa_wl [1145, 1146, 71, 1147] (by decide +kernel) (by decide +kernel)) ⟨by decide +kernel, by decide +kernel, by decide +kernel⟩ ⟨Nat.le_of_ble_eq_true rfl, Nat.le_of_ble_eq_true rfl⟩ dL_law_1293 (ok_istore C (by decide) dL_law_1296 (ok_aload_n C rfl dL_law_1298 (ok_aload_n C rfl dL_law_1299 (ok_iload C dL_law_1300 (ok_iconst C (by decide) dL_law_1302 (ok_iadd C dL_law_1303 (ok_xld C hX dL_law_1304 (ok_aload_n C rfl dL_law_1305 (ok_iload C dL_law_1306 (ok_iconst C (by decide) dL_law_1308 (ok_iadd C dL_law_1309 (ok_xld C hX dL_law_1310 (ok_callv C rfl (by decide) (kon_X12_promise l hl) (qa_wl [1916, 1917, 1918, 85, 1919] (by decide +kernel) (by decide +kernel)) ⟨rfl, by decide +kernel, by decide +kernel, by decide +kernel⟩ ⟨Nat.le_of_ble_eq_true rfl, Nat.le_of_ble_eq_true rfl⟩ dL_law_1311 (ok_istore C (by decide) dL_law_1314 (ok_aload_n C rfl dL_law_1316 (ok_callv C rfl (by decide) (kon_X12_thrown l hl) (qa_wl [1695, 1696, 1697, 85, 1698] (by decide +kernel) (by decide +kernel)) ⟨rfl, by decide +kernel, by decide +kernel, by decide +kernel⟩ ⟨Nat.le_of_ble_eq_true rfl, Nat.le_of_ble_eq_true rfl⟩ dL_law_1317 (ok_iload C dL_law_1320 (ok_fall rfl))))))))))))))))))))))))))))))
set_option maxRecDepth 100000 in
set_option maxHeartbeats 4000000 in
theorem lawb_64 (C : qa_C true Ai p s m args meth c cL_law 9 RL A0 (qa_rm fr_law lo_law a0 r) a0.2.2.2.1 a0.2.2.2.2 r) (hr : meth.sig.returnType = some .boolean) (hl : l.stackTraces = false) (hL : L < 2147483648) (hX : va_X (Ai (-17)) L xs s s.heap ∧ Ai (-17) < s.heap.size ∧ ¬ A0 (Ai (-17))) : qa_OK p l e (qa_rm fr_law lo_law a0 r) s m args below meth c (qa_Q below D Ai a0 r A0 args s) D A0 Ai a0.2.2.1 9 a0.2.2.2.1 a0.2.2.2.2 r pc_L_law (pc_L_law 64) (B_L_law_64 L xs) :=
  ok_cmpeq C (T := 65) dL_law_1322 (by decide) (ok_iconst C (by decide) dL_law_1325 (ok_zret C hr dL_law_1326))
set_option maxRecDepth 100000 in
set_option maxHeartbeats 4000000 in
theorem lawb_65 (C : qa_C true Ai p s m args meth c cL_law 9 RL A0 (qa_rm fr_law lo_law a0 r) a0.2.2.2.1 a0.2.2.2.2 r) (hr : meth.sig.returnType = some .boolean) (hl : l.stackTraces = false) (hL : L < 2147483648) (hX : va_X (Ai (-17)) L xs s s.heap ∧ Ai (-17) < s.heap.size ∧ ¬ A0 (Ai (-17))) : qa_OK p l e (qa_rm fr_law lo_law a0 r) s m args below meth c (qa_Q below D Ai a0 r A0 args s) D A0 Ai a0.2.2.1 9 a0.2.2.2.1 a0.2.2.2.2 r pc_L_law (pc_L_law 65) (B_L_law_65 L xs) :=
  ok_iload C dL_law_1327 (ok_ifne C (T := 66) dL_law_1329 (by decide) (ok_aload_n C rfl dL_law_1332 (ok_iconst C (by decide) dL_law_1333 (ok_laload C dL_law_1334 (ok_iload C dL_law_1335 (ok_i2l C dL_law_1337 (ok_lcmp C dL_law_1338 (ok_ifeq C (T := 66) dL_law_1339 (by decide) (ok_iconst C (by decide) dL_law_1342 (ok_zret C hr dL_law_1343))))))))))
set_option maxRecDepth 100000 in
set_option maxHeartbeats 4000000 in
theorem lawb_66 (C : qa_C true Ai p s m args meth c cL_law 9 RL A0 (qa_rm fr_law lo_law a0 r) a0.2.2.2.1 a0.2.2.2.2 r) (hr : meth.sig.returnType = some .boolean) (hl : l.stackTraces = false) (hL : L < 2147483648) (hX : va_X (Ai (-17)) L xs s s.heap ∧ Ai (-17) < s.heap.size ∧ ¬ A0 (Ai (-17))) : qa_OK p l e (qa_rm fr_law lo_law a0 r) s m args below meth c (qa_Q below D Ai a0 r A0 args s) D A0 Ai a0.2.2.1 9 a0.2.2.2.1 a0.2.2.2.2 r pc_L_law (pc_L_law 66) (B_L_law_66 L xs) :=
  ok_goto C dL_law_1344 (by decide)
set_option maxRecDepth 100000 in
set_option maxHeartbeats 4000000 in
theorem lawb_67 (C : qa_C true Ai p s m args meth c cL_law 9 RL A0 (qa_rm fr_law lo_law a0 r) a0.2.2.2.1 a0.2.2.2.2 r) (hr : meth.sig.returnType = some .boolean) (hl : l.stackTraces = false) (hL : L < 2147483648) (hX : va_X (Ai (-17)) L xs s s.heap ∧ Ai (-17) < s.heap.size ∧ ¬ A0 (Ai (-17))) : qa_OK p l e (qa_rm fr_law lo_law a0 r) s m args below meth c (qa_Q below D Ai a0 r A0 args s) D A0 Ai a0.2.2.1 9 a0.2.2.2.1 a0.2.2.2.2 r pc_L_law (pc_L_law 67) (B_L_law_67 L xs) :=
  ok_aload_n C rfl dL_law_1347 (ok_aload_n C rfl dL_law_1348 (ok_iload C dL_law_1349 (ok_iconst C (by decide) dL_law_1351 (ok_iadd C dL_law_1352 (ok_xld C hX dL_law_1353 (ok_aload_n C rfl dL_law_1354 (ok_iload C dL_law_1355 (ok_iconst C (by decide) dL_law_1357 (ok_iadd C dL_law_1358 (ok_xld C hX dL_law_1359 (ok_aload_n C rfl dL_law_1360 (ok_callsx C (kon_L_move l hl) (qa_wl [1149, 1150, 71, 1151] (by decide +kernel) (by decide +kernel)) ⟨by decide +kernel, by decide +kernel, by decide +kernel⟩ ⟨Nat.le_of_ble_eq_true rfl, Nat.le_of_ble_eq_true rfl⟩ dL_law_1361 (ok_istore C (by decide) dL_law_1364 (ok_aload_n C rfl dL_law_1366 (ok_aload_n C rfl dL_law_1367 (ok_iload C dL_law_1368 (ok_iconst C (by decide) dL_law_1370 (ok_iadd C dL_law_1371 (ok_xld C hX dL_law_1372 (ok_aload_n C rfl dL_law_1373 (ok_iload C dL_law_1374 (ok_iconst C (by decide) dL_law_1376 (ok_iadd C dL_law_1377 (ok_xld C hX dL_law_1378 (ok_callv C rfl (by decide) (kon_X12_move l hl) (qa_wl [1924, 1925, 1926, 85, 1927] (by decide +kernel) (by decide +kernel)) ⟨rfl, by decide +kernel, by decide +kernel, by decide +kernel⟩ ⟨Nat.le_of_ble_eq_true rfl, Nat.le_of_ble_eq_true rfl⟩ dL_law_1379 (ok_istore C (by decide) dL_law_1382 (ok_aload_n C rfl dL_law_1384 (ok_callv C rfl (by decide) (kon_X12_thrown l hl) (qa_wl [1695, 1696, 1697, 85, 1698] (by decide +kernel) (by decide +kernel)) ⟨rfl, by decide +kernel, by decide +kernel, by decide +kernel⟩ ⟨Nat.le_of_ble_eq_true rfl, Nat.le_of_ble_eq_true rfl⟩ dL_law_1385 (ok_iload C dL_law_1388 (ok_fall rfl))))))))))))))))))))))))))))))
set_option maxRecDepth 100000 in
set_option maxHeartbeats 4000000 in
theorem lawb_68 (C : qa_C true Ai p s m args meth c cL_law 9 RL A0 (qa_rm fr_law lo_law a0 r) a0.2.2.2.1 a0.2.2.2.2 r) (hr : meth.sig.returnType = some .boolean) (hl : l.stackTraces = false) (hL : L < 2147483648) (hX : va_X (Ai (-17)) L xs s s.heap ∧ Ai (-17) < s.heap.size ∧ ¬ A0 (Ai (-17))) : qa_OK p l e (qa_rm fr_law lo_law a0 r) s m args below meth c (qa_Q below D Ai a0 r A0 args s) D A0 Ai a0.2.2.1 9 a0.2.2.2.1 a0.2.2.2.2 r pc_L_law (pc_L_law 68) (B_L_law_68 L xs) :=
  ok_cmpeq C (T := 69) dL_law_1390 (by decide) (ok_iconst C (by decide) dL_law_1393 (ok_zret C hr dL_law_1394))
set_option maxRecDepth 100000 in
set_option maxHeartbeats 4000000 in
theorem lawb_69 (C : qa_C true Ai p s m args meth c cL_law 9 RL A0 (qa_rm fr_law lo_law a0 r) a0.2.2.2.1 a0.2.2.2.2 r) (hr : meth.sig.returnType = some .boolean) (hl : l.stackTraces = false) (hL : L < 2147483648) (hX : va_X (Ai (-17)) L xs s s.heap ∧ Ai (-17) < s.heap.size ∧ ¬ A0 (Ai (-17))) : qa_OK p l e (qa_rm fr_law lo_law a0 r) s m args below meth c (qa_Q below D Ai a0 r A0 args s) D A0 Ai a0.2.2.1 9 a0.2.2.2.1 a0.2.2.2.2 r pc_L_law (pc_L_law 69) (B_L_law_69 L xs) :=
  ok_iload C dL_law_1395 (ok_ifne C (T := 70) dL_law_1397 (by decide) (ok_aload_n C rfl dL_law_1400 (ok_iconst C (by decide) dL_law_1401 (ok_laload C dL_law_1402 (ok_iload C dL_law_1403 (ok_i2l C dL_law_1405 (ok_lcmp C dL_law_1406 (ok_ifeq C (T := 70) dL_law_1407 (by decide) (ok_iconst C (by decide) dL_law_1410 (ok_zret C hr dL_law_1411))))))))))
set_option maxRecDepth 100000 in
set_option maxHeartbeats 4000000 in
theorem lawb_70 (C : qa_C true Ai p s m args meth c cL_law 9 RL A0 (qa_rm fr_law lo_law a0 r) a0.2.2.2.1 a0.2.2.2.2 r) (hr : meth.sig.returnType = some .boolean) (hl : l.stackTraces = false) (hL : L < 2147483648) (hX : va_X (Ai (-17)) L xs s s.heap ∧ Ai (-17) < s.heap.size ∧ ¬ A0 (Ai (-17))) : qa_OK p l e (qa_rm fr_law lo_law a0 r) s m args below meth c (qa_Q below D Ai a0 r A0 args s) D A0 Ai a0.2.2.1 9 a0.2.2.2.1 a0.2.2.2.2 r pc_L_law (pc_L_law 70) (B_L_law_70 L xs) :=
  ok_goto C dL_law_1412 (by decide)
set_option maxRecDepth 100000 in
set_option maxHeartbeats 4000000 in
theorem lawb_71 (C : qa_C true Ai p s m args meth c cL_law 9 RL A0 (qa_rm fr_law lo_law a0 r) a0.2.2.2.1 a0.2.2.2.2 r) (hr : meth.sig.returnType = some .boolean) (hl : l.stackTraces = false) (hL : L < 2147483648) (hX : va_X (Ai (-17)) L xs s s.heap ∧ Ai (-17) < s.heap.size ∧ ¬ A0 (Ai (-17))) : qa_OK p l e (qa_rm fr_law lo_law a0 r) s m args below meth c (qa_Q below D Ai a0 r A0 args s) D A0 Ai a0.2.2.1 9 a0.2.2.2.1 a0.2.2.2.2 r pc_L_law (pc_L_law 71) (B_L_law_71 L xs) :=
  ok_aload_n C rfl dL_law_1415 (ok_aload_n C rfl dL_law_1416 (ok_iload C dL_law_1417 (ok_iconst C (by decide) dL_law_1419 (ok_iadd C dL_law_1420 (ok_xld C hX dL_law_1421 (ok_aload_n C rfl dL_law_1422 (ok_callsx C (kon_L_fork l hl) (qa_wl [1153, 1154, 71, 1155] (by decide +kernel) (by decide +kernel)) ⟨by decide +kernel, by decide +kernel, by decide +kernel⟩ ⟨Nat.le_of_ble_eq_true rfl, Nat.le_of_ble_eq_true rfl⟩ dL_law_1423 (ok_istore C (by decide) dL_law_1426 (ok_aload_n C rfl dL_law_1428 (ok_aload_n C rfl dL_law_1429 (ok_iload C dL_law_1430 (ok_iconst C (by decide) dL_law_1432 (ok_iadd C dL_law_1433 (ok_xld C hX dL_law_1434 (ok_callv C rfl (by decide) (kon_X12_fork l hl) (qa_wl [1940, 1941, 1942, 85, 1943] (by decide +kernel) (by decide +kernel)) ⟨rfl, by decide +kernel, by decide +kernel, by decide +kernel⟩ ⟨Nat.le_of_ble_eq_true rfl, Nat.le_of_ble_eq_true rfl⟩ dL_law_1435 (ok_istore C (by decide) dL_law_1438 (ok_aload_n C rfl dL_law_1440 (ok_callv C rfl (by decide) (kon_X12_thrown l hl) (qa_wl [1695, 1696, 1697, 85, 1698] (by decide +kernel) (by decide +kernel)) ⟨rfl, by decide +kernel, by decide +kernel, by decide +kernel⟩ ⟨Nat.le_of_ble_eq_true rfl, Nat.le_of_ble_eq_true rfl⟩ dL_law_1441 (ok_iload C dL_law_1444 (ok_cmpeq C (T := 72) dL_law_1446 (by decide) (ok_iconst C (by decide) dL_law_1449 (ok_zret C hr dL_law_1450))))))))))))))))))))))
set_option maxRecDepth 100000 in
set_option maxHeartbeats 4000000 in
theorem lawb_72 (C : qa_C true Ai p s m args meth c cL_law 9 RL A0 (qa_rm fr_law lo_law a0 r) a0.2.2.2.1 a0.2.2.2.2 r) (hr : meth.sig.returnType = some .boolean) (hl : l.stackTraces = false) (hL : L < 2147483648) (hX : va_X (Ai (-17)) L xs s s.heap ∧ Ai (-17) < s.heap.size ∧ ¬ A0 (Ai (-17))) : qa_OK p l e (qa_rm fr_law lo_law a0 r) s m args below meth c (qa_Q below D Ai a0 r A0 args s) D A0 Ai a0.2.2.1 9 a0.2.2.2.1 a0.2.2.2.2 r pc_L_law (pc_L_law 72) (B_L_law_72 L xs) :=
  ok_iload C dL_law_1451 (ok_ifne C (T := 73) dL_law_1453 (by decide) (ok_aload_n C rfl dL_law_1456 (ok_iconst C (by decide) dL_law_1457 (ok_laload C dL_law_1458 (ok_iload C dL_law_1459 (ok_i2l C dL_law_1461 (ok_lcmp C dL_law_1462 (ok_ifeq C (T := 73) dL_law_1463 (by decide) (ok_iconst C (by decide) dL_law_1466 (ok_zret C hr dL_law_1467))))))))))
set_option maxRecDepth 100000 in
set_option maxHeartbeats 4000000 in
theorem lawb_73 (C : qa_C true Ai p s m args meth c cL_law 9 RL A0 (qa_rm fr_law lo_law a0 r) a0.2.2.2.1 a0.2.2.2.2 r) (hr : meth.sig.returnType = some .boolean) (hl : l.stackTraces = false) (hL : L < 2147483648) (hX : va_X (Ai (-17)) L xs s s.heap ∧ Ai (-17) < s.heap.size ∧ ¬ A0 (Ai (-17))) : qa_OK p l e (qa_rm fr_law lo_law a0 r) s m args below meth c (qa_Q below D Ai a0 r A0 args s) D A0 Ai a0.2.2.1 9 a0.2.2.2.1 a0.2.2.2.2 r pc_L_law (pc_L_law 73) (B_L_law_73 L xs) :=
  ok_goto C dL_law_1468 (by decide)
set_option maxRecDepth 100000 in
set_option maxHeartbeats 4000000 in
theorem lawb_74 (C : qa_C true Ai p s m args meth c cL_law 9 RL A0 (qa_rm fr_law lo_law a0 r) a0.2.2.2.1 a0.2.2.2.2 r) (hr : meth.sig.returnType = some .boolean) (hl : l.stackTraces = false) (hL : L < 2147483648) (hX : va_X (Ai (-17)) L xs s s.heap ∧ Ai (-17) < s.heap.size ∧ ¬ A0 (Ai (-17))) : qa_OK p l e (qa_rm fr_law lo_law a0 r) s m args below meth c (qa_Q below D Ai a0 r A0 args s) D A0 Ai a0.2.2.1 9 a0.2.2.2.1 a0.2.2.2.2 r pc_L_law (pc_L_law 74) (B_L_law_74 L xs) :=
  ok_aload_n C rfl dL_law_1471 (ok_aload_n C rfl dL_law_1472 (ok_iload C dL_law_1473 (ok_iconst C (by decide) dL_law_1475 (ok_iadd C dL_law_1476 (ok_xld C hX dL_law_1477 (ok_aload_n C rfl dL_law_1478 (ok_callsx C (kon_L_merge l hl) (qa_wl [1157, 1158, 71, 1159] (by decide +kernel) (by decide +kernel)) ⟨by decide +kernel, by decide +kernel, by decide +kernel⟩ ⟨Nat.le_of_ble_eq_true rfl, Nat.le_of_ble_eq_true rfl⟩ dL_law_1479 (ok_istore C (by decide) dL_law_1482 (ok_aload_n C rfl dL_law_1484 (ok_aload_n C rfl dL_law_1485 (ok_iload C dL_law_1486 (ok_iconst C (by decide) dL_law_1488 (ok_iadd C dL_law_1489 (ok_xld C hX dL_law_1490 (ok_callv C rfl (by decide) (kon_X12_merge l hl) (qa_wl [1948, 1949, 1950, 85, 1951] (by decide +kernel) (by decide +kernel)) ⟨rfl, by decide +kernel, by decide +kernel, by decide +kernel⟩ ⟨Nat.le_of_ble_eq_true rfl, Nat.le_of_ble_eq_true rfl⟩ dL_law_1491 (ok_istore C (by decide) dL_law_1494 (ok_aload_n C rfl dL_law_1496 (ok_callv C rfl (by decide) (kon_X12_thrown l hl) (qa_wl [1695, 1696, 1697, 85, 1698] (by decide +kernel) (by decide +kernel)) ⟨rfl, by decide +kernel, by decide +kernel, by decide +kernel⟩ ⟨Nat.le_of_ble_eq_true rfl, Nat.le_of_ble_eq_true rfl⟩ dL_law_1497 (ok_iload C dL_law_1500 (ok_cmpeq C (T := 75) dL_law_1502 (by decide) (ok_iconst C (by decide) dL_law_1505 (ok_zret C hr dL_law_1506))))))))))))))))))))))
set_option maxRecDepth 100000 in
set_option maxHeartbeats 4000000 in
theorem lawb_75 (C : qa_C true Ai p s m args meth c cL_law 9 RL A0 (qa_rm fr_law lo_law a0 r) a0.2.2.2.1 a0.2.2.2.2 r) (hr : meth.sig.returnType = some .boolean) (hl : l.stackTraces = false) (hL : L < 2147483648) (hX : va_X (Ai (-17)) L xs s s.heap ∧ Ai (-17) < s.heap.size ∧ ¬ A0 (Ai (-17))) : qa_OK p l e (qa_rm fr_law lo_law a0 r) s m args below meth c (qa_Q below D Ai a0 r A0 args s) D A0 Ai a0.2.2.1 9 a0.2.2.2.1 a0.2.2.2.2 r pc_L_law (pc_L_law 75) (B_L_law_75 L xs) :=
  ok_iload C dL_law_1507 (ok_ifne C (T := 76) dL_law_1509 (by decide) (ok_aload_n C rfl dL_law_1512 (ok_iconst C (by decide) dL_law_1513 (ok_laload C dL_law_1514 (ok_iload C dL_law_1515 (ok_i2l C dL_law_1517 (ok_lcmp C dL_law_1518 (ok_ifeq C (T := 76) dL_law_1519 (by decide) (ok_iconst C (by decide) dL_law_1522 (ok_zret C hr dL_law_1523))))))))))
set_option maxRecDepth 100000 in
set_option maxHeartbeats 4000000 in
theorem lawb_76 (C : qa_C true Ai p s m args meth c cL_law 9 RL A0 (qa_rm fr_law lo_law a0 r) a0.2.2.2.1 a0.2.2.2.2 r) (hr : meth.sig.returnType = some .boolean) (hl : l.stackTraces = false) (hL : L < 2147483648) (hX : va_X (Ai (-17)) L xs s s.heap ∧ Ai (-17) < s.heap.size ∧ ¬ A0 (Ai (-17))) : qa_OK p l e (qa_rm fr_law lo_law a0 r) s m args below meth c (qa_Q below D Ai a0 r A0 args s) D A0 Ai a0.2.2.1 9 a0.2.2.2.1 a0.2.2.2.2 r pc_L_law (pc_L_law 76) (B_L_law_76 L xs) :=
  ok_goto C dL_law_1524 (by decide)
set_option maxRecDepth 100000 in
set_option maxHeartbeats 4000000 in
theorem lawb_77 (C : qa_C true Ai p s m args meth c cL_law 9 RL A0 (qa_rm fr_law lo_law a0 r) a0.2.2.2.1 a0.2.2.2.2 r) (hr : meth.sig.returnType = some .boolean) (hl : l.stackTraces = false) (hL : L < 2147483648) (hX : va_X (Ai (-17)) L xs s s.heap ∧ Ai (-17) < s.heap.size ∧ ¬ A0 (Ai (-17))) : qa_OK p l e (qa_rm fr_law lo_law a0 r) s m args below meth c (qa_Q below D Ai a0 r A0 args s) D A0 Ai a0.2.2.1 9 a0.2.2.2.1 a0.2.2.2.2 r pc_L_law (pc_L_law 77) (B_L_law_77 L xs) :=
  ok_aload_n C rfl dL_law_1527 (ok_aload_n C rfl dL_law_1528 (ok_iload C dL_law_1529 (ok_iconst C (by decide) dL_law_1531 (ok_iadd C dL_law_1532 (ok_xld C hX dL_law_1533 (ok_aload_n C rfl dL_law_1534 (ok_callsx C (kon_L_drop l hl) (qa_wl [1161, 1162, 71, 1163] (by decide +kernel) (by decide +kernel)) ⟨by decide +kernel, by decide +kernel, by decide +kernel⟩ ⟨Nat.le_of_ble_eq_true rfl, Nat.le_of_ble_eq_true rfl⟩ dL_law_1535 (ok_istore C (by decide) dL_law_1538 (ok_aload_n C rfl dL_law_1540 (ok_aload_n C rfl dL_law_1541 (ok_iload C dL_law_1542 (ok_iconst C (by decide) dL_law_1544 (ok_iadd C dL_law_1545 (ok_xld C hX dL_law_1546 (ok_callv C rfl (by decide) (kon_X12_drop l hl) (qa_wl [1964, 1965, 1966, 85, 1967] (by decide +kernel) (by decide +kernel)) ⟨rfl, by decide +kernel, by decide +kernel, by decide +kernel⟩ ⟨Nat.le_of_ble_eq_true rfl, Nat.le_of_ble_eq_true rfl⟩ dL_law_1547 (ok_istore C (by decide) dL_law_1550 (ok_aload_n C rfl dL_law_1552 (ok_callv C rfl (by decide) (kon_X12_thrown l hl) (qa_wl [1695, 1696, 1697, 85, 1698] (by decide +kernel) (by decide +kernel)) ⟨rfl, by decide +kernel, by decide +kernel, by decide +kernel⟩ ⟨Nat.le_of_ble_eq_true rfl, Nat.le_of_ble_eq_true rfl⟩ dL_law_1553 (ok_iload C dL_law_1556 (ok_cmpeq C (T := 78) dL_law_1558 (by decide) (ok_iconst C (by decide) dL_law_1561 (ok_zret C hr dL_law_1562))))))))))))))))))))))
set_option maxRecDepth 100000 in
set_option maxHeartbeats 4000000 in
theorem lawb_78 (C : qa_C true Ai p s m args meth c cL_law 9 RL A0 (qa_rm fr_law lo_law a0 r) a0.2.2.2.1 a0.2.2.2.2 r) (hr : meth.sig.returnType = some .boolean) (hl : l.stackTraces = false) (hL : L < 2147483648) (hX : va_X (Ai (-17)) L xs s s.heap ∧ Ai (-17) < s.heap.size ∧ ¬ A0 (Ai (-17))) : qa_OK p l e (qa_rm fr_law lo_law a0 r) s m args below meth c (qa_Q below D Ai a0 r A0 args s) D A0 Ai a0.2.2.1 9 a0.2.2.2.1 a0.2.2.2.2 r pc_L_law (pc_L_law 78) (B_L_law_78 L xs) :=
  ok_iload C dL_law_1563 (ok_ifne C (T := 79) dL_law_1565 (by decide) (ok_aload_n C rfl dL_law_1568 (ok_iconst C (by decide) dL_law_1569 (ok_laload C dL_law_1570 (ok_iload C dL_law_1571 (ok_i2l C dL_law_1573 (ok_lcmp C dL_law_1574 (ok_ifeq C (T := 79) dL_law_1575 (by decide) (ok_iconst C (by decide) dL_law_1578 (ok_zret C hr dL_law_1579))))))))))
set_option maxRecDepth 100000 in
set_option maxHeartbeats 4000000 in
theorem lawb_79 (C : qa_C true Ai p s m args meth c cL_law 9 RL A0 (qa_rm fr_law lo_law a0 r) a0.2.2.2.1 a0.2.2.2.2 r) (hr : meth.sig.returnType = some .boolean) (hl : l.stackTraces = false) (hL : L < 2147483648) (hX : va_X (Ai (-17)) L xs s s.heap ∧ Ai (-17) < s.heap.size ∧ ¬ A0 (Ai (-17))) : qa_OK p l e (qa_rm fr_law lo_law a0 r) s m args below meth c (qa_Q below D Ai a0 r A0 args s) D A0 Ai a0.2.2.1 9 a0.2.2.2.1 a0.2.2.2.2 r pc_L_law (pc_L_law 79) (B_L_law_79 L xs) :=
  ok_goto C dL_law_1580 (by decide)
set_option maxRecDepth 100000 in
set_option maxHeartbeats 4000000 in
theorem lawb_80 (C : qa_C true Ai p s m args meth c cL_law 9 RL A0 (qa_rm fr_law lo_law a0 r) a0.2.2.2.1 a0.2.2.2.2 r) (hr : meth.sig.returnType = some .boolean) (hl : l.stackTraces = false) (hL : L < 2147483648) (hX : va_X (Ai (-17)) L xs s s.heap ∧ Ai (-17) < s.heap.size ∧ ¬ A0 (Ai (-17))) : qa_OK p l e (qa_rm fr_law lo_law a0 r) s m args below meth c (qa_Q below D Ai a0 r A0 args s) D A0 Ai a0.2.2.1 9 a0.2.2.2.1 a0.2.2.2.2 r pc_L_law (pc_L_law 80) (B_L_law_80 L xs) :=
  ok_aload_n C rfl dL_law_1583 (ok_aload_n C rfl dL_law_1584 (ok_iload C dL_law_1585 (ok_iconst C (by decide) dL_law_1587 (ok_iadd C dL_law_1588 (ok_xld C hX dL_law_1589 (ok_aload_n C rfl dL_law_1590 (ok_callsx C (kon_L_pass l hl) (qa_wl [1165, 1166, 71, 1167] (by decide +kernel) (by decide +kernel)) ⟨by decide +kernel, by decide +kernel, by decide +kernel⟩ ⟨Nat.le_of_ble_eq_true rfl, Nat.le_of_ble_eq_true rfl⟩ dL_law_1591 (ok_istore C (by decide) dL_law_1594 (ok_aload_n C rfl dL_law_1596 (ok_aload_n C rfl dL_law_1597 (ok_iload C dL_law_1598 (ok_iconst C (by decide) dL_law_1600 (ok_iadd C dL_law_1601 (ok_xld C hX dL_law_1602 (ok_callv C rfl (by decide) (kon_X12_pass l hl) (qa_wl [1972, 1973, 1974, 85, 1975] (by decide +kernel) (by decide +kernel)) ⟨rfl, by decide +kernel, by decide +kernel, by decide +kernel⟩ ⟨Nat.le_of_ble_eq_true rfl, Nat.le_of_ble_eq_true rfl⟩ dL_law_1603 (ok_istore C (by decide) dL_law_1606 (ok_aload_n C rfl dL_law_1608 (ok_callv C rfl (by decide) (kon_X12_thrown l hl) (qa_wl [1695, 1696, 1697, 85, 1698] (by decide +kernel) (by decide +kernel)) ⟨rfl, by decide +kernel, by decide +kernel, by decide +kernel⟩ ⟨Nat.le_of_ble_eq_true rfl, Nat.le_of_ble_eq_true rfl⟩ dL_law_1609 (ok_iload C dL_law_1612 (ok_cmpeq C (T := 81) dL_law_1614 (by decide) (ok_iconst C (by decide) dL_law_1617 (ok_zret C hr dL_law_1618))))))))))))))))))))))
set_option maxRecDepth 100000 in
set_option maxHeartbeats 4000000 in
theorem lawb_81 (C : qa_C true Ai p s m args meth c cL_law 9 RL A0 (qa_rm fr_law lo_law a0 r) a0.2.2.2.1 a0.2.2.2.2 r) (hr : meth.sig.returnType = some .boolean) (hl : l.stackTraces = false) (hL : L < 2147483648) (hX : va_X (Ai (-17)) L xs s s.heap ∧ Ai (-17) < s.heap.size ∧ ¬ A0 (Ai (-17))) : qa_OK p l e (qa_rm fr_law lo_law a0 r) s m args below meth c (qa_Q below D Ai a0 r A0 args s) D A0 Ai a0.2.2.1 9 a0.2.2.2.1 a0.2.2.2.2 r pc_L_law (pc_L_law 81) (B_L_law_81 L xs) :=
  ok_iload C dL_law_1619 (ok_ifne C (T := 82) dL_law_1621 (by decide) (ok_aload_n C rfl dL_law_1624 (ok_iconst C (by decide) dL_law_1625 (ok_laload C dL_law_1626 (ok_iload C dL_law_1627 (ok_i2l C dL_law_1629 (ok_lcmp C dL_law_1630 (ok_ifeq C (T := 82) dL_law_1631 (by decide) (ok_iconst C (by decide) dL_law_1634 (ok_zret C hr dL_law_1635))))))))))
set_option maxRecDepth 100000 in
set_option maxHeartbeats 4000000 in
theorem lawb_82 (C : qa_C true Ai p s m args meth c cL_law 9 RL A0 (qa_rm fr_law lo_law a0 r) a0.2.2.2.1 a0.2.2.2.2 r) (hr : meth.sig.returnType = some .boolean) (hl : l.stackTraces = false) (hL : L < 2147483648) (hX : va_X (Ai (-17)) L xs s s.heap ∧ Ai (-17) < s.heap.size ∧ ¬ A0 (Ai (-17))) : qa_OK p l e (qa_rm fr_law lo_law a0 r) s m args below meth c (qa_Q below D Ai a0 r A0 args s) D A0 Ai a0.2.2.1 9 a0.2.2.2.1 a0.2.2.2.2 r pc_L_law (pc_L_law 82) (B_L_law_82 L xs) :=
  ok_goto C dL_law_1636 (by decide)
set_option maxRecDepth 100000 in
set_option maxHeartbeats 4000000 in
theorem lawb_83 (C : qa_C true Ai p s m args meth c cL_law 9 RL A0 (qa_rm fr_law lo_law a0 r) a0.2.2.2.1 a0.2.2.2.2 r) (hr : meth.sig.returnType = some .boolean) (hl : l.stackTraces = false) (hL : L < 2147483648) (hX : va_X (Ai (-17)) L xs s s.heap ∧ Ai (-17) < s.heap.size ∧ ¬ A0 (Ai (-17))) : qa_OK p l e (qa_rm fr_law lo_law a0 r) s m args below meth c (qa_Q below D Ai a0 r A0 args s) D A0 Ai a0.2.2.1 9 a0.2.2.2.1 a0.2.2.2.2 r pc_L_law (pc_L_law 83) (B_L_law_83 L xs) :=
  ok_aload_n C rfl dL_law_1639 (ok_aload_n C rfl dL_law_1640 (ok_iload C dL_law_1641 (ok_iconst C (by decide) dL_law_1643 (ok_iadd C dL_law_1644 (ok_xld C hX dL_law_1645 (ok_aload_n C rfl dL_law_1646 (ok_iload C dL_law_1647 (ok_iconst C (by decide) dL_law_1649 (ok_iadd C dL_law_1650 (ok_xld C hX dL_law_1651 (ok_aload_n C rfl dL_law_1652 (ok_callsx C (kon_L_common l hl) (qa_wl [1169, 1170, 71, 1171] (by decide +kernel) (by decide +kernel)) ⟨by decide +kernel, by decide +kernel, by decide +kernel⟩ ⟨Nat.le_of_ble_eq_true rfl, Nat.le_of_ble_eq_true rfl⟩ dL_law_1653 (ok_istore C (by decide) dL_law_1656 (ok_aload_n C rfl dL_law_1658 (ok_aload_n C rfl dL_law_1659 (ok_iload C dL_law_1660 (ok_iconst C (by decide) dL_law_1662 (ok_iadd C dL_law_1663 (ok_xld C hX dL_law_1664 (ok_aload_n C rfl dL_law_1665 (ok_iload C dL_law_1666 (ok_iconst C (by decide) dL_law_1668 (ok_iadd C dL_law_1669 (ok_xld C hX dL_law_1670 (ok_callv C rfl (by decide) (kon_X12_common l hl) (qa_wl [1988, 1989, 1990, 85, 1991] (by decide +kernel) (by decide +kernel)) ⟨rfl, by decide +kernel, by decide +kernel, by decide +kernel⟩ ⟨Nat.le_of_ble_eq_true rfl, Nat.le_of_ble_eq_true rfl⟩ dL_law_1671 (ok_istore C (by decide) dL_law_1674 (ok_aload_n C rfl dL_law_1676 (ok_callv C rfl (by decide) (kon_X12_thrown l hl) (qa_wl [1695, 1696, 1697, 85, 1698] (by decide +kernel) (by decide +kernel)) ⟨rfl, by decide +kernel, by decide +kernel, by decide +kernel⟩ ⟨Nat.le_of_ble_eq_true rfl, Nat.le_of_ble_eq_true rfl⟩ dL_law_1677 (ok_iload C dL_law_1680 (ok_fall rfl))))))))))))))))))))))))))))))
set_option maxRecDepth 100000 in
set_option maxHeartbeats 4000000 in
theorem lawb_84 (C : qa_C true Ai p s m args meth c cL_law 9 RL A0 (qa_rm fr_law lo_law a0 r) a0.2.2.2.1 a0.2.2.2.2 r) (hr : meth.sig.returnType = some .boolean) (hl : l.stackTraces = false) (hL : L < 2147483648) (hX : va_X (Ai (-17)) L xs s s.heap ∧ Ai (-17) < s.heap.size ∧ ¬ A0 (Ai (-17))) : qa_OK p l e (qa_rm fr_law lo_law a0 r) s m args below meth c (qa_Q below D Ai a0 r A0 args s) D A0 Ai a0.2.2.1 9 a0.2.2.2.1 a0.2.2.2.2 r pc_L_law (pc_L_law 84) (B_L_law_84 L xs) :=
  ok_cmpeq C (T := 85) dL_law_1682 (by decide) (ok_iconst C (by decide) dL_law_1685 (ok_zret C hr dL_law_1686))
set_option maxRecDepth 100000 in
set_option maxHeartbeats 4000000 in
theorem lawb_85 (C : qa_C true Ai p s m args meth c cL_law 9 RL A0 (qa_rm fr_law lo_law a0 r) a0.2.2.2.1 a0.2.2.2.2 r) (hr : meth.sig.returnType = some .boolean) (hl : l.stackTraces = false) (hL : L < 2147483648) (hX : va_X (Ai (-17)) L xs s s.heap ∧ Ai (-17) < s.heap.size ∧ ¬ A0 (Ai (-17))) : qa_OK p l e (qa_rm fr_law lo_law a0 r) s m args below meth c (qa_Q below D Ai a0 r A0 args s) D A0 Ai a0.2.2.1 9 a0.2.2.2.1 a0.2.2.2.2 r pc_L_law (pc_L_law 85) (B_L_law_85 L xs) :=
  ok_iload C dL_law_1687 (ok_ifne C (T := 86) dL_law_1689 (by decide) (ok_aload_n C rfl dL_law_1692 (ok_iconst C (by decide) dL_law_1693 (ok_laload C dL_law_1694 (ok_iload C dL_law_1695 (ok_i2l C dL_law_1697 (ok_lcmp C dL_law_1698 (ok_ifeq C (T := 86) dL_law_1699 (by decide) (ok_iconst C (by decide) dL_law_1702 (ok_zret C hr dL_law_1703))))))))))
set_option maxRecDepth 100000 in
set_option maxHeartbeats 4000000 in
theorem lawb_86 (C : qa_C true Ai p s m args meth c cL_law 9 RL A0 (qa_rm fr_law lo_law a0 r) a0.2.2.2.1 a0.2.2.2.2 r) (hr : meth.sig.returnType = some .boolean) (hl : l.stackTraces = false) (hL : L < 2147483648) (hX : va_X (Ai (-17)) L xs s s.heap ∧ Ai (-17) < s.heap.size ∧ ¬ A0 (Ai (-17))) : qa_OK p l e (qa_rm fr_law lo_law a0 r) s m args below meth c (qa_Q below D Ai a0 r A0 args s) D A0 Ai a0.2.2.1 9 a0.2.2.2.1 a0.2.2.2.2 r pc_L_law (pc_L_law 86) (B_L_law_86 L xs) :=
  ok_goto C dL_law_1704 (by decide)
set_option maxRecDepth 100000 in
set_option maxHeartbeats 4000000 in
theorem lawb_87 (C : qa_C true Ai p s m args meth c cL_law 9 RL A0 (qa_rm fr_law lo_law a0 r) a0.2.2.2.1 a0.2.2.2.2 r) (hr : meth.sig.returnType = some .boolean) (hl : l.stackTraces = false) (hL : L < 2147483648) (hX : va_X (Ai (-17)) L xs s s.heap ∧ Ai (-17) < s.heap.size ∧ ¬ A0 (Ai (-17))) : qa_OK p l e (qa_rm fr_law lo_law a0 r) s m args below meth c (qa_Q below D Ai a0 r A0 args s) D A0 Ai a0.2.2.1 9 a0.2.2.2.1 a0.2.2.2.2 r pc_L_law (pc_L_law 87) (B_L_law_87 L xs) :=
  ok_aload_n C rfl dL_law_1707 (ok_aload_n C rfl dL_law_1708 (ok_iload C dL_law_1709 (ok_iconst C (by decide) dL_law_1711 (ok_iadd C dL_law_1712 (ok_xld C hX dL_law_1713 (ok_aload_n C rfl dL_law_1714 (ok_callsx C (kon_L_holder l hl) (qa_wl [1176, 1177, 71, 1178] (by decide +kernel) (by decide +kernel)) ⟨by decide +kernel, by decide +kernel, by decide +kernel⟩ ⟨Nat.le_of_ble_eq_true rfl, Nat.le_of_ble_eq_true rfl⟩ dL_law_1715 (ok_istore C (by decide) dL_law_1718 (ok_aload_n C rfl dL_law_1720 (ok_aload_n C rfl dL_law_1721 (ok_iload C dL_law_1722 (ok_iconst C (by decide) dL_law_1724 (ok_iadd C dL_law_1725 (ok_xld C hX dL_law_1726 (ok_callv C rfl (by decide) (kon_X12_holder l hl) (qa_wl [1992, 1993, 1994, 85, 1995] (by decide +kernel) (by decide +kernel)) ⟨rfl, by decide +kernel, by decide +kernel, by decide +kernel⟩ ⟨Nat.le_of_ble_eq_true rfl, Nat.le_of_ble_eq_true rfl⟩ dL_law_1727 (ok_istore C (by decide) dL_law_1730 (ok_aload_n C rfl dL_law_1732 (ok_callv C rfl (by decide) (kon_X12_thrown l hl) (qa_wl [1695, 1696, 1697, 85, 1698] (by decide +kernel) (by decide +kernel)) ⟨rfl, by decide +kernel, by decide +kernel, by decide +kernel⟩ ⟨Nat.le_of_ble_eq_true rfl, Nat.le_of_ble_eq_true rfl⟩ dL_law_1733 (ok_iload C dL_law_1736 (ok_cmpeq C (T := 88) dL_law_1738 (by decide) (ok_iconst C (by decide) dL_law_1741 (ok_zret C hr dL_law_1742))))))))))))))))))))))
set_option maxRecDepth 100000 in
set_option maxHeartbeats 4000000 in
theorem lawb_88 (C : qa_C true Ai p s m args meth c cL_law 9 RL A0 (qa_rm fr_law lo_law a0 r) a0.2.2.2.1 a0.2.2.2.2 r) (hr : meth.sig.returnType = some .boolean) (hl : l.stackTraces = false) (hL : L < 2147483648) (hX : va_X (Ai (-17)) L xs s s.heap ∧ Ai (-17) < s.heap.size ∧ ¬ A0 (Ai (-17))) : qa_OK p l e (qa_rm fr_law lo_law a0 r) s m args below meth c (qa_Q below D Ai a0 r A0 args s) D A0 Ai a0.2.2.1 9 a0.2.2.2.1 a0.2.2.2.2 r pc_L_law (pc_L_law 88) (B_L_law_88 L xs) :=
  ok_iload C dL_law_1743 (ok_ifne C (T := 89) dL_law_1745 (by decide) (ok_aload_n C rfl dL_law_1748 (ok_iconst C (by decide) dL_law_1749 (ok_laload C dL_law_1750 (ok_iload C dL_law_1751 (ok_i2l C dL_law_1753 (ok_lcmp C dL_law_1754 (ok_ifeq C (T := 89) dL_law_1755 (by decide) (ok_iconst C (by decide) dL_law_1758 (ok_zret C hr dL_law_1759))))))))))
set_option maxRecDepth 100000 in
set_option maxHeartbeats 4000000 in
theorem lawb_89 (C : qa_C true Ai p s m args meth c cL_law 9 RL A0 (qa_rm fr_law lo_law a0 r) a0.2.2.2.1 a0.2.2.2.2 r) (hr : meth.sig.returnType = some .boolean) (hl : l.stackTraces = false) (hL : L < 2147483648) (hX : va_X (Ai (-17)) L xs s s.heap ∧ Ai (-17) < s.heap.size ∧ ¬ A0 (Ai (-17))) : qa_OK p l e (qa_rm fr_law lo_law a0 r) s m args below meth c (qa_Q below D Ai a0 r A0 args s) D A0 Ai a0.2.2.1 9 a0.2.2.2.1 a0.2.2.2.2 r pc_L_law (pc_L_law 89) (B_L_law_89 L xs) :=
  ok_goto C dL_law_1760 (by decide)
set_option maxRecDepth 100000 in
set_option maxHeartbeats 4000000 in
theorem lawb_90 (C : qa_C true Ai p s m args meth c cL_law 9 RL A0 (qa_rm fr_law lo_law a0 r) a0.2.2.2.1 a0.2.2.2.2 r) (hr : meth.sig.returnType = some .boolean) (hl : l.stackTraces = false) (hL : L < 2147483648) (hX : va_X (Ai (-17)) L xs s s.heap ∧ Ai (-17) < s.heap.size ∧ ¬ A0 (Ai (-17))) : qa_OK p l e (qa_rm fr_law lo_law a0 r) s m args below meth c (qa_Q below D Ai a0 r A0 args s) D A0 Ai a0.2.2.1 9 a0.2.2.2.1 a0.2.2.2.2 r pc_L_law (pc_L_law 90) (B_L_law_90 L xs) :=
  ok_aload_n C rfl dL_law_1763 (ok_aload_n C rfl dL_law_1764 (ok_iload C dL_law_1765 (ok_iconst C (by decide) dL_law_1767 (ok_iadd C dL_law_1768 (ok_xld C hX dL_law_1769 (ok_aload_n C rfl dL_law_1770 (ok_callsx C (kon_L_slowest l hl) (qa_wl [1184, 1185, 71, 1186] (by decide +kernel) (by decide +kernel)) ⟨by decide +kernel, by decide +kernel, by decide +kernel⟩ ⟨Nat.le_of_ble_eq_true rfl, Nat.le_of_ble_eq_true rfl⟩ dL_law_1771 (ok_istore C (by decide) dL_law_1774 (ok_aload_n C rfl dL_law_1776 (ok_aload_n C rfl dL_law_1777 (ok_iload C dL_law_1778 (ok_iconst C (by decide) dL_law_1780 (ok_iadd C dL_law_1781 (ok_xld C hX dL_law_1782 (ok_callv C rfl (by decide) (kon_X12_slowest l hl) (qa_wl [1996, 1997, 1998, 85, 1999] (by decide +kernel) (by decide +kernel)) ⟨rfl, by decide +kernel, by decide +kernel, by decide +kernel⟩ ⟨Nat.le_of_ble_eq_true rfl, Nat.le_of_ble_eq_true rfl⟩ dL_law_1783 (ok_istore C (by decide) dL_law_1786 (ok_aload_n C rfl dL_law_1788 (ok_callv C rfl (by decide) (kon_X12_thrown l hl) (qa_wl [1695, 1696, 1697, 85, 1698] (by decide +kernel) (by decide +kernel)) ⟨rfl, by decide +kernel, by decide +kernel, by decide +kernel⟩ ⟨Nat.le_of_ble_eq_true rfl, Nat.le_of_ble_eq_true rfl⟩ dL_law_1789 (ok_iload C dL_law_1792 (ok_cmpeq C (T := 91) dL_law_1794 (by decide) (ok_iconst C (by decide) dL_law_1797 (ok_zret C hr dL_law_1798))))))))))))))))))))))
set_option maxRecDepth 100000 in
set_option maxHeartbeats 4000000 in
theorem lawb_91 (C : qa_C true Ai p s m args meth c cL_law 9 RL A0 (qa_rm fr_law lo_law a0 r) a0.2.2.2.1 a0.2.2.2.2 r) (hr : meth.sig.returnType = some .boolean) (hl : l.stackTraces = false) (hL : L < 2147483648) (hX : va_X (Ai (-17)) L xs s s.heap ∧ Ai (-17) < s.heap.size ∧ ¬ A0 (Ai (-17))) : qa_OK p l e (qa_rm fr_law lo_law a0 r) s m args below meth c (qa_Q below D Ai a0 r A0 args s) D A0 Ai a0.2.2.1 9 a0.2.2.2.1 a0.2.2.2.2 r pc_L_law (pc_L_law 91) (B_L_law_91 L xs) :=
  ok_iload C dL_law_1799 (ok_ifne C (T := 92) dL_law_1801 (by decide) (ok_aload_n C rfl dL_law_1804 (ok_iconst C (by decide) dL_law_1805 (ok_laload C dL_law_1806 (ok_iload C dL_law_1807 (ok_i2l C dL_law_1809 (ok_lcmp C dL_law_1810 (ok_ifeq C (T := 92) dL_law_1811 (by decide) (ok_iconst C (by decide) dL_law_1814 (ok_zret C hr dL_law_1815))))))))))
set_option maxRecDepth 100000 in
set_option maxHeartbeats 4000000 in
theorem lawb_92 (C : qa_C true Ai p s m args meth c cL_law 9 RL A0 (qa_rm fr_law lo_law a0 r) a0.2.2.2.1 a0.2.2.2.2 r) (hr : meth.sig.returnType = some .boolean) (hl : l.stackTraces = false) (hL : L < 2147483648) (hX : va_X (Ai (-17)) L xs s s.heap ∧ Ai (-17) < s.heap.size ∧ ¬ A0 (Ai (-17))) : qa_OK p l e (qa_rm fr_law lo_law a0 r) s m args below meth c (qa_Q below D Ai a0 r A0 args s) D A0 Ai a0.2.2.1 9 a0.2.2.2.1 a0.2.2.2.2 r pc_L_law (pc_L_law 92) (B_L_law_92 L xs) :=
  ok_goto C dL_law_1816 (by decide)
set_option maxRecDepth 100000 in
set_option maxHeartbeats 4000000 in
theorem lawb_93 (C : qa_C true Ai p s m args meth c cL_law 9 RL A0 (qa_rm fr_law lo_law a0 r) a0.2.2.2.1 a0.2.2.2.2 r) (hr : meth.sig.returnType = some .boolean) (hl : l.stackTraces = false) (hL : L < 2147483648) (hX : va_X (Ai (-17)) L xs s s.heap ∧ Ai (-17) < s.heap.size ∧ ¬ A0 (Ai (-17))) : qa_OK p l e (qa_rm fr_law lo_law a0 r) s m args below meth c (qa_Q below D Ai a0 r A0 args s) D A0 Ai a0.2.2.1 9 a0.2.2.2.1 a0.2.2.2.2 r pc_L_law (pc_L_law 93) (B_L_law_93 L xs) :=
  ok_aload_n C rfl dL_law_1819 (ok_aload_n C rfl dL_law_1820 (ok_iload C dL_law_1821 (ok_iconst C (by decide) dL_law_1823 (ok_iadd C dL_law_1824 (ok_xld C hX dL_law_1825 (ok_aload_n C rfl dL_law_1826 (ok_callsx C (kon_L_cause l hl) (qa_wl [1195, 1196, 71, 1197] (by decide +kernel) (by decide +kernel)) ⟨by decide +kernel, by decide +kernel, by decide +kernel⟩ ⟨Nat.le_of_ble_eq_true rfl, Nat.le_of_ble_eq_true rfl⟩ dL_law_1827 (ok_istore C (by decide) dL_law_1830 (ok_aload_n C rfl dL_law_1832 (ok_aload_n C rfl dL_law_1833 (ok_iload C dL_law_1834 (ok_iconst C (by decide) dL_law_1836 (ok_iadd C dL_law_1837 (ok_xld C hX dL_law_1838 (ok_callv C rfl (by decide) (kon_X12_cause l hl) (qa_wl [2000, 2001, 2002, 85, 2003] (by decide +kernel) (by decide +kernel)) ⟨rfl, by decide +kernel, by decide +kernel, by decide +kernel⟩ ⟨Nat.le_of_ble_eq_true rfl, Nat.le_of_ble_eq_true rfl⟩ dL_law_1839 (ok_istore C (by decide) dL_law_1842 (ok_aload_n C rfl dL_law_1844 (ok_callv C rfl (by decide) (kon_X12_thrown l hl) (qa_wl [1695, 1696, 1697, 85, 1698] (by decide +kernel) (by decide +kernel)) ⟨rfl, by decide +kernel, by decide +kernel, by decide +kernel⟩ ⟨Nat.le_of_ble_eq_true rfl, Nat.le_of_ble_eq_true rfl⟩ dL_law_1845 (ok_iload C dL_law_1848 (ok_cmpeq C (T := 94) dL_law_1850 (by decide) (ok_iconst C (by decide) dL_law_1853 (ok_zret C hr dL_law_1854))))))))))))))))))))))
set_option maxRecDepth 100000 in
set_option maxHeartbeats 4000000 in
theorem lawb_94 (C : qa_C true Ai p s m args meth c cL_law 9 RL A0 (qa_rm fr_law lo_law a0 r) a0.2.2.2.1 a0.2.2.2.2 r) (hr : meth.sig.returnType = some .boolean) (hl : l.stackTraces = false) (hL : L < 2147483648) (hX : va_X (Ai (-17)) L xs s s.heap ∧ Ai (-17) < s.heap.size ∧ ¬ A0 (Ai (-17))) : qa_OK p l e (qa_rm fr_law lo_law a0 r) s m args below meth c (qa_Q below D Ai a0 r A0 args s) D A0 Ai a0.2.2.1 9 a0.2.2.2.1 a0.2.2.2.2 r pc_L_law (pc_L_law 94) (B_L_law_94 L xs) :=
  ok_iload C dL_law_1855 (ok_ifne C (T := 95) dL_law_1857 (by decide) (ok_aload_n C rfl dL_law_1860 (ok_iconst C (by decide) dL_law_1861 (ok_laload C dL_law_1862 (ok_iload C dL_law_1863 (ok_i2l C dL_law_1865 (ok_lcmp C dL_law_1866 (ok_ifeq C (T := 95) dL_law_1867 (by decide) (ok_iconst C (by decide) dL_law_1870 (ok_zret C hr dL_law_1871))))))))))
set_option maxRecDepth 100000 in
set_option maxHeartbeats 4000000 in
theorem lawb_95 (C : qa_C true Ai p s m args meth c cL_law 9 RL A0 (qa_rm fr_law lo_law a0 r) a0.2.2.2.1 a0.2.2.2.2 r) (hr : meth.sig.returnType = some .boolean) (hl : l.stackTraces = false) (hL : L < 2147483648) (hX : va_X (Ai (-17)) L xs s s.heap ∧ Ai (-17) < s.heap.size ∧ ¬ A0 (Ai (-17))) : qa_OK p l e (qa_rm fr_law lo_law a0 r) s m args below meth c (qa_Q below D Ai a0 r A0 args s) D A0 Ai a0.2.2.1 9 a0.2.2.2.1 a0.2.2.2.2 r pc_L_law (pc_L_law 95) (B_L_law_95 L xs) :=
  ok_goto C dL_law_1872 (by decide)
set_option maxRecDepth 100000 in
set_option maxHeartbeats 4000000 in
theorem lawb_96 (C : qa_C true Ai p s m args meth c cL_law 9 RL A0 (qa_rm fr_law lo_law a0 r) a0.2.2.2.1 a0.2.2.2.2 r) (hr : meth.sig.returnType = some .boolean) (hl : l.stackTraces = false) (hL : L < 2147483648) (hX : va_X (Ai (-17)) L xs s s.heap ∧ Ai (-17) < s.heap.size ∧ ¬ A0 (Ai (-17))) : qa_OK p l e (qa_rm fr_law lo_law a0 r) s m args below meth c (qa_Q below D Ai a0 r A0 args s) D A0 Ai a0.2.2.1 9 a0.2.2.2.1 a0.2.2.2.2 r pc_L_law (pc_L_law 96) (B_L_law_96 L xs) :=
  ok_aload_n C rfl dL_law_1875 (ok_aload_n C rfl dL_law_1876 (ok_iload C dL_law_1877 (ok_iconst C (by decide) dL_law_1879 (ok_iadd C dL_law_1880 (ok_xld C hX dL_law_1881 (ok_aload_n C rfl dL_law_1882 (ok_iload C dL_law_1883 (ok_iconst C (by decide) dL_law_1885 (ok_iadd C dL_law_1886 (ok_xld C hX dL_law_1887 (ok_aload_n C rfl dL_law_1888 (ok_callsx C (kon_L_latest l hl) (qa_wl [1203, 1204, 71, 1205] (by decide +kernel) (by decide +kernel)) ⟨by decide +kernel, by decide +kernel, by decide +kernel⟩ ⟨Nat.le_of_ble_eq_true rfl, Nat.le_of_ble_eq_true rfl⟩ dL_law_1889 (ok_istore C (by decide) dL_law_1892 (ok_aload_n C rfl dL_law_1894 (ok_aload_n C rfl dL_law_1895 (ok_iload C dL_law_1896 (ok_iconst C (by decide) dL_law_1898 (ok_iadd C dL_law_1899 (ok_xld C hX dL_law_1900 (ok_aload_n C rfl dL_law_1901 (ok_iload C dL_law_1902 (ok_iconst C (by decide) dL_law_1904 (ok_iadd C dL_law_1905 (ok_xld C hX dL_law_1906 (ok_callv C rfl (by decide) (kon_X12_latest l hl) (qa_wl [2004, 2005, 2006, 85, 2007] (by decide +kernel) (by decide +kernel)) ⟨rfl, by decide +kernel, by decide +kernel, by decide +kernel⟩ ⟨Nat.le_of_ble_eq_true rfl, Nat.le_of_ble_eq_true rfl⟩ dL_law_1907 (ok_istore C (by decide) dL_law_1910 (ok_aload_n C rfl dL_law_1912 (ok_callv C rfl (by decide) (kon_X12_thrown l hl) (qa_wl [1695, 1696, 1697, 85, 1698] (by decide +kernel) (by decide +kernel)) ⟨rfl, by decide +kernel, by decide +kernel, by decide +kernel⟩ ⟨Nat.le_of_ble_eq_true rfl, Nat.le_of_ble_eq_true rfl⟩ dL_law_1913 (ok_iload C dL_law_1916 (ok_fall rfl))))))))))))))))))))))))))))))
set_option maxRecDepth 100000 in
set_option maxHeartbeats 4000000 in
theorem lawb_97 (C : qa_C true Ai p s m args meth c cL_law 9 RL A0 (qa_rm fr_law lo_law a0 r) a0.2.2.2.1 a0.2.2.2.2 r) (hr : meth.sig.returnType = some .boolean) (hl : l.stackTraces = false) (hL : L < 2147483648) (hX : va_X (Ai (-17)) L xs s s.heap ∧ Ai (-17) < s.heap.size ∧ ¬ A0 (Ai (-17))) : qa_OK p l e (qa_rm fr_law lo_law a0 r) s m args below meth c (qa_Q below D Ai a0 r A0 args s) D A0 Ai a0.2.2.1 9 a0.2.2.2.1 a0.2.2.2.2 r pc_L_law (pc_L_law 97) (B_L_law_97 L xs) :=
  ok_cmpeq C (T := 98) dL_law_1918 (by decide) (ok_iconst C (by decide) dL_law_1921 (ok_zret C hr dL_law_1922))
set_option maxRecDepth 100000 in
set_option maxHeartbeats 4000000 in
theorem lawb_98 (C : qa_C true Ai p s m args meth c cL_law 9 RL A0 (qa_rm fr_law lo_law a0 r) a0.2.2.2.1 a0.2.2.2.2 r) (hr : meth.sig.returnType = some .boolean) (hl : l.stackTraces = false) (hL : L < 2147483648) (hX : va_X (Ai (-17)) L xs s s.heap ∧ Ai (-17) < s.heap.size ∧ ¬ A0 (Ai (-17))) : qa_OK p l e (qa_rm fr_law lo_law a0 r) s m args below meth c (qa_Q below D Ai a0 r A0 args s) D A0 Ai a0.2.2.1 9 a0.2.2.2.1 a0.2.2.2.2 r pc_L_law (pc_L_law 98) (B_L_law_98 L xs) :=
  ok_iload C dL_law_1923 (ok_ifne C (T := 99) dL_law_1925 (by decide) (ok_aload_n C rfl dL_law_1928 (ok_iconst C (by decide) dL_law_1929 (ok_laload C dL_law_1930 (ok_iload C dL_law_1931 (ok_i2l C dL_law_1933 (ok_lcmp C dL_law_1934 (ok_ifeq C (T := 99) dL_law_1935 (by decide) (ok_iconst C (by decide) dL_law_1938 (ok_zret C hr dL_law_1939))))))))))
set_option maxRecDepth 100000 in
set_option maxHeartbeats 4000000 in
theorem lawb_99 (C : qa_C true Ai p s m args meth c cL_law 9 RL A0 (qa_rm fr_law lo_law a0 r) a0.2.2.2.1 a0.2.2.2.2 r) (hr : meth.sig.returnType = some .boolean) (hl : l.stackTraces = false) (hL : L < 2147483648) (hX : va_X (Ai (-17)) L xs s s.heap ∧ Ai (-17) < s.heap.size ∧ ¬ A0 (Ai (-17))) : qa_OK p l e (qa_rm fr_law lo_law a0 r) s m args below meth c (qa_Q below D Ai a0 r A0 args s) D A0 Ai a0.2.2.1 9 a0.2.2.2.1 a0.2.2.2.2 r pc_L_law (pc_L_law 99) (B_L_law_99 L xs) :=
  ok_goto C dL_law_1940 (by decide)
set_option maxRecDepth 100000 in
set_option maxHeartbeats 4000000 in
theorem lawb_100 (C : qa_C true Ai p s m args meth c cL_law 9 RL A0 (qa_rm fr_law lo_law a0 r) a0.2.2.2.1 a0.2.2.2.2 r) (hr : meth.sig.returnType = some .boolean) (hl : l.stackTraces = false) (hL : L < 2147483648) (hX : va_X (Ai (-17)) L xs s s.heap ∧ Ai (-17) < s.heap.size ∧ ¬ A0 (Ai (-17))) : qa_OK p l e (qa_rm fr_law lo_law a0 r) s m args below meth c (qa_Q below D Ai a0 r A0 args s) D A0 Ai a0.2.2.1 9 a0.2.2.2.1 a0.2.2.2.2 r pc_L_law (pc_L_law 100) (B_L_law_100 L xs) :=
  ok_aload_n C rfl dL_law_1943 (ok_aload_n C rfl dL_law_1944 (ok_iload C dL_law_1945 (ok_iconst C (by decide) dL_law_1947 (ok_iadd C dL_law_1948 (ok_xld C hX dL_law_1949 (ok_aload C dL_law_1950 (ok_callsx C (kon_L_mean l hl) (qa_wl [1214, 1215, 71, 1216] (by decide +kernel) (by decide +kernel)) ⟨by decide +kernel, by decide +kernel, by decide +kernel⟩ ⟨Nat.le_of_ble_eq_true rfl, Nat.le_of_ble_eq_true rfl⟩ dL_law_1952 (ok_istore C (by decide) dL_law_1955 (ok_aload_n C rfl dL_law_1957 (ok_aload_n C rfl dL_law_1958 (ok_iload C dL_law_1959 (ok_iconst C (by decide) dL_law_1961 (ok_iadd C dL_law_1962 (ok_xld C hX dL_law_1963 (ok_callv C rfl (by decide) (kon_X12_mean l hl) (qa_wl [2032, 2033, 2034, 85, 2035] (by decide +kernel) (by decide +kernel)) ⟨rfl, by decide +kernel, by decide +kernel, by decide +kernel⟩ ⟨Nat.le_of_ble_eq_true rfl, Nat.le_of_ble_eq_true rfl⟩ dL_law_1964 (ok_dstore C (by decide) dL_law_1967 (ok_aload_n C rfl dL_law_1969 (ok_callv C rfl (by decide) (kon_X12_thrown l hl) (qa_wl [1695, 1696, 1697, 85, 1698] (by decide +kernel) (by decide +kernel)) ⟨rfl, by decide +kernel, by decide +kernel, by decide +kernel⟩ ⟨Nat.le_of_ble_eq_true rfl, Nat.le_of_ble_eq_true rfl⟩ dL_law_1970 (ok_iload C dL_law_1973 (ok_cmpeq C (T := 101) dL_law_1975 (by decide) (ok_iconst C (by decide) dL_law_1978 (ok_zret C hr dL_law_1979))))))))))))))))))))))
set_option maxRecDepth 100000 in
set_option maxHeartbeats 4000000 in
theorem lawb_101 (C : qa_C true Ai p s m args meth c cL_law 9 RL A0 (qa_rm fr_law lo_law a0 r) a0.2.2.2.1 a0.2.2.2.2 r) (hr : meth.sig.returnType = some .boolean) (hl : l.stackTraces = false) (hL : L < 2147483648) (hX : va_X (Ai (-17)) L xs s s.heap ∧ Ai (-17) < s.heap.size ∧ ¬ A0 (Ai (-17))) : qa_OK p l e (qa_rm fr_law lo_law a0 r) s m args below meth c (qa_Q below D Ai a0 r A0 args s) D A0 Ai a0.2.2.1 9 a0.2.2.2.1 a0.2.2.2.2 r pc_L_law (pc_L_law 101) (B_L_law_101 L xs) :=
  ok_iload C dL_law_1980 (ok_ifne C (T := 103) dL_law_1982 (by decide) (ok_aload C dL_law_1985 (ok_iconst C (by decide) dL_law_1987 (ok_daload C dL_law_1988 (ok_dload C dL_law_1989 (ok_dcmpl C dL_law_1991 (ok_ifeq C (T := 103) dL_law_1992 (by decide) (ok_aload C dL_law_1995 (ok_iconst C (by decide) dL_law_1997 (ok_daload C dL_law_1998 (ok_aload C dL_law_1999 (ok_iconst C (by decide) dL_law_2001 (ok_daload C dL_law_2002 (ok_dcmpl C dL_law_2003 (ok_ifeq C (T := 102) dL_law_2004 (by decide) (ok_dload C dL_law_2007 (ok_dload C dL_law_2009 (ok_dcmpl C dL_law_2011 (ok_ifne C (T := 103) dL_law_2012 (by decide) (ok_fall rfl))))))))))))))))))))
set_option maxRecDepth 100000 in
set_option maxHeartbeats 4000000 in
theorem lawb_102 (C : qa_C true Ai p s m args meth c cL_law 9 RL A0 (qa_rm fr_law lo_law a0 r) a0.2.2.2.1 a0.2.2.2.2 r) (hr : meth.sig.returnType = some .boolean) (hl : l.stackTraces = false) (hL : L < 2147483648) (hX : va_X (Ai (-17)) L xs s s.heap ∧ Ai (-17) < s.heap.size ∧ ¬ A0 (Ai (-17))) : qa_OK p l e (qa_rm fr_law lo_law a0 r) s m args below meth c (qa_Q below D Ai a0 r A0 args s) D A0 Ai a0.2.2.1 9 a0.2.2.2.1 a0.2.2.2.2 r pc_L_law (pc_L_law 102) (B_L_law_102 L xs) :=
  ok_iconst C (by decide) dL_law_2015 (ok_zret C hr dL_law_2016)
set_option maxRecDepth 100000 in
set_option maxHeartbeats 4000000 in
theorem lawb_103 (C : qa_C true Ai p s m args meth c cL_law 9 RL A0 (qa_rm fr_law lo_law a0 r) a0.2.2.2.1 a0.2.2.2.2 r) (hr : meth.sig.returnType = some .boolean) (hl : l.stackTraces = false) (hL : L < 2147483648) (hX : va_X (Ai (-17)) L xs s s.heap ∧ Ai (-17) < s.heap.size ∧ ¬ A0 (Ai (-17))) : qa_OK p l e (qa_rm fr_law lo_law a0 r) s m args below meth c (qa_Q below D Ai a0 r A0 args s) D A0 Ai a0.2.2.1 9 a0.2.2.2.1 a0.2.2.2.2 r pc_L_law (pc_L_law 103) (B_L_law_103 L xs) :=
  ok_goto C dL_law_2017 (by decide)
set_option maxRecDepth 100000 in
set_option maxHeartbeats 4000000 in
theorem lawb_104 (C : qa_C true Ai p s m args meth c cL_law 9 RL A0 (qa_rm fr_law lo_law a0 r) a0.2.2.2.1 a0.2.2.2.2 r) (hr : meth.sig.returnType = some .boolean) (hl : l.stackTraces = false) (hL : L < 2147483648) (hX : va_X (Ai (-17)) L xs s s.heap ∧ Ai (-17) < s.heap.size ∧ ¬ A0 (Ai (-17))) : qa_OK p l e (qa_rm fr_law lo_law a0 r) s m args below meth c (qa_Q below D Ai a0 r A0 args s) D A0 Ai a0.2.2.1 9 a0.2.2.2.1 a0.2.2.2.2 r pc_L_law (pc_L_law 104) (B_L_law_104 L xs) :=
  ok_aload_n C rfl dL_law_2020 (ok_aload_n C rfl dL_law_2021 (ok_iload C dL_law_2022 (ok_iconst C (by decide) dL_law_2024 (ok_iadd C dL_law_2025 (ok_xld C hX dL_law_2026 (ok_aload C dL_law_2027 (ok_callsx C (kon_L_trust l hl) (qa_wl [1225, 1226, 71, 1227] (by decide +kernel) (by decide +kernel)) ⟨by decide +kernel, by decide +kernel, by decide +kernel⟩ ⟨Nat.le_of_ble_eq_true rfl, Nat.le_of_ble_eq_true rfl⟩ dL_law_2029 (ok_istore C (by decide) dL_law_2032 (ok_aload_n C rfl dL_law_2034 (ok_aload_n C rfl dL_law_2035 (ok_iload C dL_law_2036 (ok_iconst C (by decide) dL_law_2038 (ok_iadd C dL_law_2039 (ok_xld C hX dL_law_2040 (ok_callv C rfl (by decide) (kon_X12_trust l hl) (qa_wl [2036, 2037, 2038, 85, 2039] (by decide +kernel) (by decide +kernel)) ⟨rfl, by decide +kernel, by decide +kernel, by decide +kernel⟩ ⟨Nat.le_of_ble_eq_true rfl, Nat.le_of_ble_eq_true rfl⟩ dL_law_2041 (ok_fstore C (by decide) dL_law_2044 (ok_aload_n C rfl dL_law_2046 (ok_callv C rfl (by decide) (kon_X12_thrown l hl) (qa_wl [1695, 1696, 1697, 85, 1698] (by decide +kernel) (by decide +kernel)) ⟨rfl, by decide +kernel, by decide +kernel, by decide +kernel⟩ ⟨Nat.le_of_ble_eq_true rfl, Nat.le_of_ble_eq_true rfl⟩ dL_law_2047 (ok_iload C dL_law_2050 (ok_cmpeq C (T := 105) dL_law_2052 (by decide) (ok_iconst C (by decide) dL_law_2055 (ok_zret C hr dL_law_2056))))))))))))))))))))))
set_option maxRecDepth 100000 in
set_option maxHeartbeats 4000000 in
theorem lawb_105 (C : qa_C true Ai p s m args meth c cL_law 9 RL A0 (qa_rm fr_law lo_law a0 r) a0.2.2.2.1 a0.2.2.2.2 r) (hr : meth.sig.returnType = some .boolean) (hl : l.stackTraces = false) (hL : L < 2147483648) (hX : va_X (Ai (-17)) L xs s s.heap ∧ Ai (-17) < s.heap.size ∧ ¬ A0 (Ai (-17))) : qa_OK p l e (qa_rm fr_law lo_law a0 r) s m args below meth c (qa_Q below D Ai a0 r A0 args s) D A0 Ai a0.2.2.1 9 a0.2.2.2.1 a0.2.2.2.2 r pc_L_law (pc_L_law 105) (B_L_law_105 L xs) :=
  ok_iload C dL_law_2057 (ok_ifne C (T := 107) dL_law_2059 (by decide) (ok_aload C dL_law_2062 (ok_iconst C (by decide) dL_law_2064 (ok_daload C dL_law_2065 (ok_fload C dL_law_2066 (ok_f2d C dL_law_2068 (ok_dcmpl C dL_law_2069 (ok_ifeq C (T := 107) dL_law_2070 (by decide) (ok_aload C dL_law_2073 (ok_iconst C (by decide) dL_law_2075 (ok_daload C dL_law_2076 (ok_aload C dL_law_2077 (ok_iconst C (by decide) dL_law_2079 (ok_daload C dL_law_2080 (ok_dcmpl C dL_law_2081 (ok_ifeq C (T := 106) dL_law_2082 (by decide) (ok_fload C dL_law_2085 (ok_fload C dL_law_2087 (qa_dead)))))))))))))))))))
set_option maxRecDepth 100000 in
set_option maxHeartbeats 4000000 in
theorem lawb_106 (C : qa_C true Ai p s m args meth c cL_law 9 RL A0 (qa_rm fr_law lo_law a0 r) a0.2.2.2.1 a0.2.2.2.2 r) (hr : meth.sig.returnType = some .boolean) (hl : l.stackTraces = false) (hL : L < 2147483648) (hX : va_X (Ai (-17)) L xs s s.heap ∧ Ai (-17) < s.heap.size ∧ ¬ A0 (Ai (-17))) : qa_OK p l e (qa_rm fr_law lo_law a0 r) s m args below meth c (qa_Q below D Ai a0 r A0 args s) D A0 Ai a0.2.2.1 9 a0.2.2.2.1 a0.2.2.2.2 r pc_L_law (pc_L_law 106) (B_L_law_106 L xs) :=
  ok_iconst C (by decide) dL_law_2093 (ok_zret C hr dL_law_2094)
set_option maxRecDepth 100000 in
set_option maxHeartbeats 4000000 in
theorem lawb_107 (C : qa_C true Ai p s m args meth c cL_law 9 RL A0 (qa_rm fr_law lo_law a0 r) a0.2.2.2.1 a0.2.2.2.2 r) (hr : meth.sig.returnType = some .boolean) (hl : l.stackTraces = false) (hL : L < 2147483648) (hX : va_X (Ai (-17)) L xs s s.heap ∧ Ai (-17) < s.heap.size ∧ ¬ A0 (Ai (-17))) : qa_OK p l e (qa_rm fr_law lo_law a0 r) s m args below meth c (qa_Q below D Ai a0 r A0 args s) D A0 Ai a0.2.2.1 9 a0.2.2.2.1 a0.2.2.2.2 r pc_L_law (pc_L_law 107) (B_L_law_107 L xs) :=
  ok_goto C dL_law_2095 (by decide)
set_option maxRecDepth 100000 in
set_option maxHeartbeats 4000000 in
theorem lawb_108 (C : qa_C true Ai p s m args meth c cL_law 9 RL A0 (qa_rm fr_law lo_law a0 r) a0.2.2.2.1 a0.2.2.2.2 r) (hr : meth.sig.returnType = some .boolean) (hl : l.stackTraces = false) (hL : L < 2147483648) (hX : va_X (Ai (-17)) L xs s s.heap ∧ Ai (-17) < s.heap.size ∧ ¬ A0 (Ai (-17))) : qa_OK p l e (qa_rm fr_law lo_law a0 r) s m args below meth c (qa_Q below D Ai a0 r A0 args s) D A0 Ai a0.2.2.1 9 a0.2.2.2.1 a0.2.2.2.2 r pc_L_law (pc_L_law 108) (B_L_law_108 L xs) :=
  ok_aload_n C rfl dL_law_2098 (ok_aload_n C rfl dL_law_2099 (ok_iload C dL_law_2100 (ok_iconst C (by decide) dL_law_2102 (ok_iadd C dL_law_2103 (ok_xld C hX dL_law_2104 (ok_aload_n C rfl dL_law_2105 (ok_iload C dL_law_2106 (ok_iconst C (by decide) dL_law_2108 (ok_iadd C dL_law_2109 (ok_xld C hX dL_law_2110 (ok_aload_n C rfl dL_law_2111 (ok_callsx C (kon_L_ahead l hl) (qa_wl [1232, 1233, 71, 1234] (by decide +kernel) (by decide +kernel)) ⟨by decide +kernel, by decide +kernel, by decide +kernel⟩ ⟨Nat.le_of_ble_eq_true rfl, Nat.le_of_ble_eq_true rfl⟩ dL_law_2112 (ok_istore C (by decide) dL_law_2115 (ok_aload_n C rfl dL_law_2117 (ok_aload_n C rfl dL_law_2118 (ok_iload C dL_law_2119 (ok_iconst C (by decide) dL_law_2121 (ok_iadd C dL_law_2122 (ok_xld C hX dL_law_2123 (ok_aload_n C rfl dL_law_2124 (ok_iload C dL_law_2125 (ok_iconst C (by decide) dL_law_2127 (ok_iadd C dL_law_2128 (ok_xld C hX dL_law_2129 (ok_callv C rfl (by decide) (kon_X12_ahead l hl) (qa_wl [2040, 2041, 2042, 85, 2043] (by decide +kernel) (by decide +kernel)) ⟨rfl, by decide +kernel, by decide +kernel, by decide +kernel⟩ ⟨Nat.le_of_ble_eq_true rfl, Nat.le_of_ble_eq_true rfl⟩ dL_law_2130 (ok_istore C (by decide) dL_law_2133 (ok_aload_n C rfl dL_law_2135 (ok_callv C rfl (by decide) (kon_X12_thrown l hl) (qa_wl [1695, 1696, 1697, 85, 1698] (by decide +kernel) (by decide +kernel)) ⟨rfl, by decide +kernel, by decide +kernel, by decide +kernel⟩ ⟨Nat.le_of_ble_eq_true rfl, Nat.le_of_ble_eq_true rfl⟩ dL_law_2136 (ok_iload C dL_law_2139 (ok_fall rfl))))))))))))))))))))))))))))))
set_option maxRecDepth 100000 in
set_option maxHeartbeats 4000000 in
theorem lawb_109 (C : qa_C true Ai p s m args meth c cL_law 9 RL A0 (qa_rm fr_law lo_law a0 r) a0.2.2.2.1 a0.2.2.2.2 r) (hr : meth.sig.returnType = some .boolean) (hl : l.stackTraces = false) (hL : L < 2147483648) (hX : va_X (Ai (-17)) L xs s s.heap ∧ Ai (-17) < s.heap.size ∧ ¬ A0 (Ai (-17))) : qa_OK p l e (qa_rm fr_law lo_law a0 r) s m args below meth c (qa_Q below D Ai a0 r A0 args s) D A0 Ai a0.2.2.1 9 a0.2.2.2.1 a0.2.2.2.2 r pc_L_law (pc_L_law 109) (B_L_law_109 L xs) :=
  ok_cmpeq C (T := 110) dL_law_2141 (by decide) (ok_iconst C (by decide) dL_law_2144 (ok_zret C hr dL_law_2145))
set_option maxRecDepth 100000 in
set_option maxHeartbeats 4000000 in
theorem lawb_110 (C : qa_C true Ai p s m args meth c cL_law 9 RL A0 (qa_rm fr_law lo_law a0 r) a0.2.2.2.1 a0.2.2.2.2 r) (hr : meth.sig.returnType = some .boolean) (hl : l.stackTraces = false) (hL : L < 2147483648) (hX : va_X (Ai (-17)) L xs s s.heap ∧ Ai (-17) < s.heap.size ∧ ¬ A0 (Ai (-17))) : qa_OK p l e (qa_rm fr_law lo_law a0 r) s m args below meth c (qa_Q below D Ai a0 r A0 args s) D A0 Ai a0.2.2.1 9 a0.2.2.2.1 a0.2.2.2.2 r pc_L_law (pc_L_law 110) (B_L_law_110 L xs) :=
  ok_iload C dL_law_2146 (ok_ifne C (T := 111) dL_law_2148 (by decide) (ok_aload_n C rfl dL_law_2151 (ok_iconst C (by decide) dL_law_2152 (ok_laload C dL_law_2153 (ok_iload C dL_law_2154 (ok_i2l C dL_law_2156 (ok_lcmp C dL_law_2157 (ok_ifeq C (T := 111) dL_law_2158 (by decide) (ok_iconst C (by decide) dL_law_2161 (ok_zret C hr dL_law_2162))))))))))
set_option maxRecDepth 100000 in
set_option maxHeartbeats 4000000 in
theorem lawb_111 (C : qa_C true Ai p s m args meth c cL_law 9 RL A0 (qa_rm fr_law lo_law a0 r) a0.2.2.2.1 a0.2.2.2.2 r) (hr : meth.sig.returnType = some .boolean) (hl : l.stackTraces = false) (hL : L < 2147483648) (hX : va_X (Ai (-17)) L xs s s.heap ∧ Ai (-17) < s.heap.size ∧ ¬ A0 (Ai (-17))) : qa_OK p l e (qa_rm fr_law lo_law a0 r) s m args below meth c (qa_Q below D Ai a0 r A0 args s) D A0 Ai a0.2.2.1 9 a0.2.2.2.1 a0.2.2.2.2 r pc_L_law (pc_L_law 111) (B_L_law_111 L xs) :=
  ok_goto C dL_law_2163 (by decide)
set_option maxRecDepth 100000 in
set_option maxHeartbeats 4000000 in
theorem lawb_112 (C : qa_C true Ai p s m args meth c cL_law 9 RL A0 (qa_rm fr_law lo_law a0 r) a0.2.2.2.1 a0.2.2.2.2 r) (hr : meth.sig.returnType = some .boolean) (hl : l.stackTraces = false) (hL : L < 2147483648) (hX : va_X (Ai (-17)) L xs s s.heap ∧ Ai (-17) < s.heap.size ∧ ¬ A0 (Ai (-17))) : qa_OK p l e (qa_rm fr_law lo_law a0 r) s m args below meth c (qa_Q below D Ai a0 r A0 args s) D A0 Ai a0.2.2.1 9 a0.2.2.2.1 a0.2.2.2.2 r pc_L_law (pc_L_law 112) (B_L_law_112 L xs) :=
  ok_aload_n C rfl dL_law_2166 (ok_aload_n C rfl dL_law_2167 (ok_iload C dL_law_2168 (ok_iconst C (by decide) dL_law_2170 (ok_iadd C dL_law_2171 (ok_xld C hX dL_law_2172 (ok_aload_n C rfl dL_law_2173 (ok_iload C dL_law_2174 (ok_iconst C (by decide) dL_law_2176 (ok_iadd C dL_law_2177 (ok_xld C hX dL_law_2178 (ok_aload_n C rfl dL_law_2179 (ok_callsx C (kon_L_losesIn l hl) (qa_wl [1252, 1253, 71, 1254] (by decide +kernel) (by decide +kernel)) ⟨by decide +kernel, by decide +kernel, by decide +kernel⟩ ⟨Nat.le_of_ble_eq_true rfl, Nat.le_of_ble_eq_true rfl⟩ dL_law_2180 (ok_istore C (by decide) dL_law_2183 (ok_aload_n C rfl dL_law_2185 (ok_aload_n C rfl dL_law_2186 (ok_iload C dL_law_2187 (ok_iconst C (by decide) dL_law_2189 (ok_iadd C dL_law_2190 (ok_xld C hX dL_law_2191 (ok_aload_n C rfl dL_law_2192 (ok_iload C dL_law_2193 (ok_iconst C (by decide) dL_law_2195 (ok_iadd C dL_law_2196 (ok_xld C hX dL_law_2197 (ok_callv C rfl (by decide) (kon_X12_losesIn l hl) (qa_wl [2048, 2049, 2050, 85, 2051] (by decide +kernel) (by decide +kernel)) ⟨rfl, by decide +kernel, by decide +kernel, by decide +kernel⟩ ⟨Nat.le_of_ble_eq_true rfl, Nat.le_of_ble_eq_true rfl⟩ dL_law_2198 (ok_istore C (by decide) dL_law_2201 (ok_aload_n C rfl dL_law_2203 (ok_callv C rfl (by decide) (kon_X12_thrown l hl) (qa_wl [1695, 1696, 1697, 85, 1698] (by decide +kernel) (by decide +kernel)) ⟨rfl, by decide +kernel, by decide +kernel, by decide +kernel⟩ ⟨Nat.le_of_ble_eq_true rfl, Nat.le_of_ble_eq_true rfl⟩ dL_law_2204 (ok_iload C dL_law_2207 (ok_fall rfl))))))))))))))))))))))))))))))
set_option maxRecDepth 100000 in
set_option maxHeartbeats 4000000 in
theorem lawb_113 (C : qa_C true Ai p s m args meth c cL_law 9 RL A0 (qa_rm fr_law lo_law a0 r) a0.2.2.2.1 a0.2.2.2.2 r) (hr : meth.sig.returnType = some .boolean) (hl : l.stackTraces = false) (hL : L < 2147483648) (hX : va_X (Ai (-17)) L xs s s.heap ∧ Ai (-17) < s.heap.size ∧ ¬ A0 (Ai (-17))) : qa_OK p l e (qa_rm fr_law lo_law a0 r) s m args below meth c (qa_Q below D Ai a0 r A0 args s) D A0 Ai a0.2.2.1 9 a0.2.2.2.1 a0.2.2.2.2 r pc_L_law (pc_L_law 113) (B_L_law_113 L xs) :=
  ok_cmpeq C (T := 114) dL_law_2209 (by decide) (ok_iconst C (by decide) dL_law_2212 (ok_zret C hr dL_law_2213))
set_option maxRecDepth 100000 in
set_option maxHeartbeats 4000000 in
theorem lawb_114 (C : qa_C true Ai p s m args meth c cL_law 9 RL A0 (qa_rm fr_law lo_law a0 r) a0.2.2.2.1 a0.2.2.2.2 r) (hr : meth.sig.returnType = some .boolean) (hl : l.stackTraces = false) (hL : L < 2147483648) (hX : va_X (Ai (-17)) L xs s s.heap ∧ Ai (-17) < s.heap.size ∧ ¬ A0 (Ai (-17))) : qa_OK p l e (qa_rm fr_law lo_law a0 r) s m args below meth c (qa_Q below D Ai a0 r A0 args s) D A0 Ai a0.2.2.1 9 a0.2.2.2.1 a0.2.2.2.2 r pc_L_law (pc_L_law 114) (B_L_law_114 L xs) :=
  ok_iload C dL_law_2214 (ok_ifne C (T := 115) dL_law_2216 (by decide) (ok_aload_n C rfl dL_law_2219 (ok_iconst C (by decide) dL_law_2220 (ok_laload C dL_law_2221 (ok_iload C dL_law_2222 (ok_i2l C dL_law_2224 (ok_lcmp C dL_law_2225 (ok_ifeq C (T := 115) dL_law_2226 (by decide) (ok_iconst C (by decide) dL_law_2229 (ok_zret C hr dL_law_2230))))))))))
set_option maxRecDepth 100000 in
set_option maxHeartbeats 4000000 in
theorem lawb_115 (C : qa_C true Ai p s m args meth c cL_law 9 RL A0 (qa_rm fr_law lo_law a0 r) a0.2.2.2.1 a0.2.2.2.2 r) (hr : meth.sig.returnType = some .boolean) (hl : l.stackTraces = false) (hL : L < 2147483648) (hX : va_X (Ai (-17)) L xs s s.heap ∧ Ai (-17) < s.heap.size ∧ ¬ A0 (Ai (-17))) : qa_OK p l e (qa_rm fr_law lo_law a0 r) s m args below meth c (qa_Q below D Ai a0 r A0 args s) D A0 Ai a0.2.2.1 9 a0.2.2.2.1 a0.2.2.2.2 r pc_L_law (pc_L_law 115) (B_L_law_115 L xs) :=
  ok_goto C dL_law_2231 (by decide)
set_option maxRecDepth 100000 in
set_option maxHeartbeats 4000000 in
theorem lawb_116 (C : qa_C true Ai p s m args meth c cL_law 9 RL A0 (qa_rm fr_law lo_law a0 r) a0.2.2.2.1 a0.2.2.2.2 r) (hr : meth.sig.returnType = some .boolean) (hl : l.stackTraces = false) (hL : L < 2147483648) (hX : va_X (Ai (-17)) L xs s s.heap ∧ Ai (-17) < s.heap.size ∧ ¬ A0 (Ai (-17))) : qa_OK p l e (qa_rm fr_law lo_law a0 r) s m args below meth c (qa_Q below D Ai a0 r A0 args s) D A0 Ai a0.2.2.1 9 a0.2.2.2.1 a0.2.2.2.2 r pc_L_law (pc_L_law 116) (B_L_law_116 L xs) :=
  ok_aload_n C rfl dL_law_2234 (ok_aload_n C rfl dL_law_2235 (ok_iload C dL_law_2236 (ok_iconst C (by decide) dL_law_2238 (ok_iadd C dL_law_2239 (ok_xld C hX dL_law_2240 (ok_aload_n C rfl dL_law_2241 (ok_iload C dL_law_2242 (ok_iconst C (by decide) dL_law_2244 (ok_iadd C dL_law_2245 (ok_xld C hX dL_law_2246 (ok_aload_n C rfl dL_law_2247 (ok_callsx C (kon_L_wouldCut l hl) (qa_wl [1264, 1265, 71, 1266] (by decide +kernel) (by decide +kernel)) ⟨by decide +kernel, by decide +kernel, by decide +kernel⟩ ⟨Nat.le_of_ble_eq_true rfl, Nat.le_of_ble_eq_true rfl⟩ dL_law_2248 (ok_istore C (by decide) dL_law_2251 (ok_aload_n C rfl dL_law_2253 (ok_aload_n C rfl dL_law_2254 (ok_iload C dL_law_2255 (ok_iconst C (by decide) dL_law_2257 (ok_iadd C dL_law_2258 (ok_xld C hX dL_law_2259 (ok_aload_n C rfl dL_law_2260 (ok_iload C dL_law_2261 (ok_iconst C (by decide) dL_law_2263 (ok_iadd C dL_law_2264 (ok_xld C hX dL_law_2265 (ok_callv C rfl (by decide) (kon_X12_wouldCut l hl) (qa_wl [2008, 2009, 2010, 85, 2011] (by decide +kernel) (by decide +kernel)) ⟨rfl, by decide +kernel, by decide +kernel, by decide +kernel⟩ ⟨Nat.le_of_ble_eq_true rfl, Nat.le_of_ble_eq_true rfl⟩ dL_law_2266 (ok_istore C (by decide) dL_law_2269 (ok_aload_n C rfl dL_law_2271 (ok_callv C rfl (by decide) (kon_X12_thrown l hl) (qa_wl [1695, 1696, 1697, 85, 1698] (by decide +kernel) (by decide +kernel)) ⟨rfl, by decide +kernel, by decide +kernel, by decide +kernel⟩ ⟨Nat.le_of_ble_eq_true rfl, Nat.le_of_ble_eq_true rfl⟩ dL_law_2272 (ok_iload C dL_law_2275 (ok_fall rfl))))))))))))))))))))))))))))))
set_option maxRecDepth 100000 in
set_option maxHeartbeats 4000000 in
theorem lawb_117 (C : qa_C true Ai p s m args meth c cL_law 9 RL A0 (qa_rm fr_law lo_law a0 r) a0.2.2.2.1 a0.2.2.2.2 r) (hr : meth.sig.returnType = some .boolean) (hl : l.stackTraces = false) (hL : L < 2147483648) (hX : va_X (Ai (-17)) L xs s s.heap ∧ Ai (-17) < s.heap.size ∧ ¬ A0 (Ai (-17))) : qa_OK p l e (qa_rm fr_law lo_law a0 r) s m args below meth c (qa_Q below D Ai a0 r A0 args s) D A0 Ai a0.2.2.1 9 a0.2.2.2.1 a0.2.2.2.2 r pc_L_law (pc_L_law 117) (B_L_law_117 L xs) :=
  ok_cmpeq C (T := 118) dL_law_2277 (by decide) (ok_iconst C (by decide) dL_law_2280 (ok_zret C hr dL_law_2281))
set_option maxRecDepth 100000 in
set_option maxHeartbeats 4000000 in
theorem lawb_118 (C : qa_C true Ai p s m args meth c cL_law 9 RL A0 (qa_rm fr_law lo_law a0 r) a0.2.2.2.1 a0.2.2.2.2 r) (hr : meth.sig.returnType = some .boolean) (hl : l.stackTraces = false) (hL : L < 2147483648) (hX : va_X (Ai (-17)) L xs s s.heap ∧ Ai (-17) < s.heap.size ∧ ¬ A0 (Ai (-17))) : qa_OK p l e (qa_rm fr_law lo_law a0 r) s m args below meth c (qa_Q below D Ai a0 r A0 args s) D A0 Ai a0.2.2.1 9 a0.2.2.2.1 a0.2.2.2.2 r pc_L_law (pc_L_law 118) (B_L_law_118 L xs) :=
  ok_iload C dL_law_2282 (ok_ifne C (T := 119) dL_law_2284 (by decide) (ok_aload_n C rfl dL_law_2287 (ok_iconst C (by decide) dL_law_2288 (ok_laload C dL_law_2289 (ok_iload C dL_law_2290 (ok_i2l C dL_law_2292 (ok_lcmp C dL_law_2293 (ok_ifeq C (T := 119) dL_law_2294 (by decide) (ok_iconst C (by decide) dL_law_2297 (ok_zret C hr dL_law_2298))))))))))
set_option maxRecDepth 100000 in
set_option maxHeartbeats 4000000 in
theorem lawb_119 (C : qa_C true Ai p s m args meth c cL_law 9 RL A0 (qa_rm fr_law lo_law a0 r) a0.2.2.2.1 a0.2.2.2.2 r) (hr : meth.sig.returnType = some .boolean) (hl : l.stackTraces = false) (hL : L < 2147483648) (hX : va_X (Ai (-17)) L xs s s.heap ∧ Ai (-17) < s.heap.size ∧ ¬ A0 (Ai (-17))) : qa_OK p l e (qa_rm fr_law lo_law a0 r) s m args below meth c (qa_Q below D Ai a0 r A0 args s) D A0 Ai a0.2.2.1 9 a0.2.2.2.1 a0.2.2.2.2 r pc_L_law (pc_L_law 119) (B_L_law_119 L xs) :=
  ok_goto C dL_law_2299 (by decide)
set_option maxRecDepth 100000 in
set_option maxHeartbeats 4000000 in
theorem lawb_120 (C : qa_C true Ai p s m args meth c cL_law 9 RL A0 (qa_rm fr_law lo_law a0 r) a0.2.2.2.1 a0.2.2.2.2 r) (hr : meth.sig.returnType = some .boolean) (hl : l.stackTraces = false) (hL : L < 2147483648) (hX : va_X (Ai (-17)) L xs s s.heap ∧ Ai (-17) < s.heap.size ∧ ¬ A0 (Ai (-17))) : qa_OK p l e (qa_rm fr_law lo_law a0 r) s m args below meth c (qa_Q below D Ai a0 r A0 args s) D A0 Ai a0.2.2.1 9 a0.2.2.2.1 a0.2.2.2.2 r pc_L_law (pc_L_law 120) (B_L_law_120 L xs) :=
  ok_aload_n C rfl dL_law_2302 (ok_aload_n C rfl dL_law_2303 (ok_iload C dL_law_2304 (ok_iconst C (by decide) dL_law_2306 (ok_iadd C dL_law_2307 (ok_xld C hX dL_law_2308 (ok_aload_n C rfl dL_law_2309 (ok_iload C dL_law_2310 (ok_iconst C (by decide) dL_law_2312 (ok_iadd C dL_law_2313 (ok_xld C hX dL_law_2314 (ok_aload_n C rfl dL_law_2315 (ok_callsx C (kon_L_unread l hl) (qa_wl [1271, 1272, 71, 1273] (by decide +kernel) (by decide +kernel)) ⟨by decide +kernel, by decide +kernel, by decide +kernel⟩ ⟨Nat.le_of_ble_eq_true rfl, Nat.le_of_ble_eq_true rfl⟩ dL_law_2316 (ok_istore C (by decide) dL_law_2319 (ok_aload_n C rfl dL_law_2321 (ok_aload_n C rfl dL_law_2322 (ok_iload C dL_law_2323 (ok_iconst C (by decide) dL_law_2325 (ok_iadd C dL_law_2326 (ok_xld C hX dL_law_2327 (ok_aload_n C rfl dL_law_2328 (ok_iload C dL_law_2329 (ok_iconst C (by decide) dL_law_2331 (ok_iadd C dL_law_2332 (ok_xld C hX dL_law_2333 (ok_callv C rfl (by decide) (kon_X12_unread l hl) (qa_wl [2012, 2013, 2014, 85, 2015] (by decide +kernel) (by decide +kernel)) ⟨rfl, by decide +kernel, by decide +kernel, by decide +kernel⟩ ⟨Nat.le_of_ble_eq_true rfl, Nat.le_of_ble_eq_true rfl⟩ dL_law_2334 (ok_istore C (by decide) dL_law_2337 (ok_aload_n C rfl dL_law_2339 (ok_callv C rfl (by decide) (kon_X12_thrown l hl) (qa_wl [1695, 1696, 1697, 85, 1698] (by decide +kernel) (by decide +kernel)) ⟨rfl, by decide +kernel, by decide +kernel, by decide +kernel⟩ ⟨Nat.le_of_ble_eq_true rfl, Nat.le_of_ble_eq_true rfl⟩ dL_law_2340 (ok_iload C dL_law_2343 (ok_fall rfl))))))))))))))))))))))))))))))
set_option maxRecDepth 100000 in
set_option maxHeartbeats 4000000 in
theorem lawb_121 (C : qa_C true Ai p s m args meth c cL_law 9 RL A0 (qa_rm fr_law lo_law a0 r) a0.2.2.2.1 a0.2.2.2.2 r) (hr : meth.sig.returnType = some .boolean) (hl : l.stackTraces = false) (hL : L < 2147483648) (hX : va_X (Ai (-17)) L xs s s.heap ∧ Ai (-17) < s.heap.size ∧ ¬ A0 (Ai (-17))) : qa_OK p l e (qa_rm fr_law lo_law a0 r) s m args below meth c (qa_Q below D Ai a0 r A0 args s) D A0 Ai a0.2.2.1 9 a0.2.2.2.1 a0.2.2.2.2 r pc_L_law (pc_L_law 121) (B_L_law_121 L xs) :=
  ok_cmpeq C (T := 122) dL_law_2345 (by decide) (ok_iconst C (by decide) dL_law_2348 (ok_zret C hr dL_law_2349))
set_option maxRecDepth 100000 in
set_option maxHeartbeats 4000000 in
theorem lawb_122 (C : qa_C true Ai p s m args meth c cL_law 9 RL A0 (qa_rm fr_law lo_law a0 r) a0.2.2.2.1 a0.2.2.2.2 r) (hr : meth.sig.returnType = some .boolean) (hl : l.stackTraces = false) (hL : L < 2147483648) (hX : va_X (Ai (-17)) L xs s s.heap ∧ Ai (-17) < s.heap.size ∧ ¬ A0 (Ai (-17))) : qa_OK p l e (qa_rm fr_law lo_law a0 r) s m args below meth c (qa_Q below D Ai a0 r A0 args s) D A0 Ai a0.2.2.1 9 a0.2.2.2.1 a0.2.2.2.2 r pc_L_law (pc_L_law 122) (B_L_law_122 L xs) :=
  ok_iload C dL_law_2350 (ok_ifne C (T := 123) dL_law_2352 (by decide) (ok_aload_n C rfl dL_law_2355 (ok_iconst C (by decide) dL_law_2356 (ok_laload C dL_law_2357 (ok_iload C dL_law_2358 (ok_i2l C dL_law_2360 (ok_lcmp C dL_law_2361 (ok_ifeq C (T := 123) dL_law_2362 (by decide) (ok_iconst C (by decide) dL_law_2365 (ok_zret C hr dL_law_2366))))))))))
set_option maxRecDepth 100000 in
set_option maxHeartbeats 4000000 in
theorem lawb_123 (C : qa_C true Ai p s m args meth c cL_law 9 RL A0 (qa_rm fr_law lo_law a0 r) a0.2.2.2.1 a0.2.2.2.2 r) (hr : meth.sig.returnType = some .boolean) (hl : l.stackTraces = false) (hL : L < 2147483648) (hX : va_X (Ai (-17)) L xs s s.heap ∧ Ai (-17) < s.heap.size ∧ ¬ A0 (Ai (-17))) : qa_OK p l e (qa_rm fr_law lo_law a0 r) s m args below meth c (qa_Q below D Ai a0 r A0 args s) D A0 Ai a0.2.2.1 9 a0.2.2.2.1 a0.2.2.2.2 r pc_L_law (pc_L_law 123) (B_L_law_123 L xs) :=
  ok_goto C dL_law_2367 (by decide)
set_option maxRecDepth 100000 in
set_option maxHeartbeats 4000000 in
theorem lawb_124 (C : qa_C true Ai p s m args meth c cL_law 9 RL A0 (qa_rm fr_law lo_law a0 r) a0.2.2.2.1 a0.2.2.2.2 r) (hr : meth.sig.returnType = some .boolean) (hl : l.stackTraces = false) (hL : L < 2147483648) (hX : va_X (Ai (-17)) L xs s s.heap ∧ Ai (-17) < s.heap.size ∧ ¬ A0 (Ai (-17))) : qa_OK p l e (qa_rm fr_law lo_law a0 r) s m args below meth c (qa_Q below D Ai a0 r A0 args s) D A0 Ai a0.2.2.1 9 a0.2.2.2.1 a0.2.2.2.2 r pc_L_law (pc_L_law 124) (B_L_law_124 L xs) :=
  ok_aload_n C rfl dL_law_2370 (ok_aload_n C rfl dL_law_2371 (ok_iload C dL_law_2372 (ok_iconst C (by decide) dL_law_2374 (ok_iadd C dL_law_2375 (ok_xld C hX dL_law_2376 (ok_aload_n C rfl dL_law_2377 (ok_callsx C (kon_L_promised l hl) (qa_wl [1282, 1283, 71, 1284] (by decide +kernel) (by decide +kernel)) ⟨by decide +kernel, by decide +kernel, by decide +kernel⟩ ⟨Nat.le_of_ble_eq_true rfl, Nat.le_of_ble_eq_true rfl⟩ dL_law_2378 (ok_istore C (by decide) dL_law_2381 (ok_aload_n C rfl dL_law_2383 (ok_aload_n C rfl dL_law_2384 (ok_iload C dL_law_2385 (ok_iconst C (by decide) dL_law_2387 (ok_iadd C dL_law_2388 (ok_xld C hX dL_law_2389 (ok_callv C rfl (by decide) (kon_X12_promised l hl) (qa_wl [2016, 2017, 2018, 85, 2019] (by decide +kernel) (by decide +kernel)) ⟨rfl, by decide +kernel, by decide +kernel, by decide +kernel⟩ ⟨Nat.le_of_ble_eq_true rfl, Nat.le_of_ble_eq_true rfl⟩ dL_law_2390 (ok_istore C (by decide) dL_law_2393 (ok_aload_n C rfl dL_law_2395 (ok_callv C rfl (by decide) (kon_X12_thrown l hl) (qa_wl [1695, 1696, 1697, 85, 1698] (by decide +kernel) (by decide +kernel)) ⟨rfl, by decide +kernel, by decide +kernel, by decide +kernel⟩ ⟨Nat.le_of_ble_eq_true rfl, Nat.le_of_ble_eq_true rfl⟩ dL_law_2396 (ok_iload C dL_law_2399 (ok_cmpeq C (T := 125) dL_law_2401 (by decide) (ok_iconst C (by decide) dL_law_2404 (ok_zret C hr dL_law_2405))))))))))))))))))))))
set_option maxRecDepth 100000 in
set_option maxHeartbeats 4000000 in
theorem lawb_125 (C : qa_C true Ai p s m args meth c cL_law 9 RL A0 (qa_rm fr_law lo_law a0 r) a0.2.2.2.1 a0.2.2.2.2 r) (hr : meth.sig.returnType = some .boolean) (hl : l.stackTraces = false) (hL : L < 2147483648) (hX : va_X (Ai (-17)) L xs s s.heap ∧ Ai (-17) < s.heap.size ∧ ¬ A0 (Ai (-17))) : qa_OK p l e (qa_rm fr_law lo_law a0 r) s m args below meth c (qa_Q below D Ai a0 r A0 args s) D A0 Ai a0.2.2.1 9 a0.2.2.2.1 a0.2.2.2.2 r pc_L_law (pc_L_law 125) (B_L_law_125 L xs) :=
  ok_iload C dL_law_2406 (ok_ifne C (T := 126) dL_law_2408 (by decide) (ok_aload_n C rfl dL_law_2411 (ok_iconst C (by decide) dL_law_2412 (ok_laload C dL_law_2413 (ok_iload C dL_law_2414 (ok_i2l C dL_law_2416 (ok_lcmp C dL_law_2417 (ok_ifeq C (T := 126) dL_law_2418 (by decide) (ok_iconst C (by decide) dL_law_2421 (ok_zret C hr dL_law_2422))))))))))
set_option maxRecDepth 100000 in
set_option maxHeartbeats 4000000 in
theorem lawb_126 (C : qa_C true Ai p s m args meth c cL_law 9 RL A0 (qa_rm fr_law lo_law a0 r) a0.2.2.2.1 a0.2.2.2.2 r) (hr : meth.sig.returnType = some .boolean) (hl : l.stackTraces = false) (hL : L < 2147483648) (hX : va_X (Ai (-17)) L xs s s.heap ∧ Ai (-17) < s.heap.size ∧ ¬ A0 (Ai (-17))) : qa_OK p l e (qa_rm fr_law lo_law a0 r) s m args below meth c (qa_Q below D Ai a0 r A0 args s) D A0 Ai a0.2.2.1 9 a0.2.2.2.1 a0.2.2.2.2 r pc_L_law (pc_L_law 126) (B_L_law_126 L xs) :=
  ok_goto C dL_law_2423 (by decide)
set_option maxRecDepth 100000 in
set_option maxHeartbeats 4000000 in
theorem lawb_127 (C : qa_C true Ai p s m args meth c cL_law 9 RL A0 (qa_rm fr_law lo_law a0 r) a0.2.2.2.1 a0.2.2.2.2 r) (hr : meth.sig.returnType = some .boolean) (hl : l.stackTraces = false) (hL : L < 2147483648) (hX : va_X (Ai (-17)) L xs s s.heap ∧ Ai (-17) < s.heap.size ∧ ¬ A0 (Ai (-17))) : qa_OK p l e (qa_rm fr_law lo_law a0 r) s m args below meth c (qa_Q below D Ai a0 r A0 args s) D A0 Ai a0.2.2.1 9 a0.2.2.2.1 a0.2.2.2.2 r pc_L_law (pc_L_law 127) (B_L_law_127 L xs) :=
  ok_aload_n C rfl dL_law_2426 (ok_aload_n C rfl dL_law_2427 (ok_iload C dL_law_2428 (ok_iconst C (by decide) dL_law_2430 (ok_iadd C dL_law_2431 (ok_xld C hX dL_law_2432 (ok_aload_n C rfl dL_law_2433 (ok_callsx C (kon_L_age l hl) (qa_wl [1298, 1299, 71, 1300] (by decide +kernel) (by decide +kernel)) ⟨by decide +kernel, by decide +kernel, by decide +kernel⟩ ⟨Nat.le_of_ble_eq_true rfl, Nat.le_of_ble_eq_true rfl⟩ dL_law_2434 (ok_istore C (by decide) dL_law_2437 (ok_aload_n C rfl dL_law_2439 (ok_aload_n C rfl dL_law_2440 (ok_iload C dL_law_2441 (ok_iconst C (by decide) dL_law_2443 (ok_iadd C dL_law_2444 (ok_xld C hX dL_law_2445 (ok_callv C rfl (by decide) (kon_X12_age l hl) (qa_wl [2028, 2029, 2030, 85, 2031] (by decide +kernel) (by decide +kernel)) ⟨rfl, by decide +kernel, by decide +kernel, by decide +kernel⟩ ⟨Nat.le_of_ble_eq_true rfl, Nat.le_of_ble_eq_true rfl⟩ dL_law_2446 (ok_istore C (by decide) dL_law_2449 (ok_aload_n C rfl dL_law_2451 (ok_callv C rfl (by decide) (kon_X12_thrown l hl) (qa_wl [1695, 1696, 1697, 85, 1698] (by decide +kernel) (by decide +kernel)) ⟨rfl, by decide +kernel, by decide +kernel, by decide +kernel⟩ ⟨Nat.le_of_ble_eq_true rfl, Nat.le_of_ble_eq_true rfl⟩ dL_law_2452 (ok_iload C dL_law_2455 (ok_cmpeq C (T := 128) dL_law_2457 (by decide) (ok_iconst C (by decide) dL_law_2460 (ok_zret C hr dL_law_2461))))))))))))))))))))))
set_option maxRecDepth 100000 in
set_option maxHeartbeats 4000000 in
theorem lawb_128 (C : qa_C true Ai p s m args meth c cL_law 9 RL A0 (qa_rm fr_law lo_law a0 r) a0.2.2.2.1 a0.2.2.2.2 r) (hr : meth.sig.returnType = some .boolean) (hl : l.stackTraces = false) (hL : L < 2147483648) (hX : va_X (Ai (-17)) L xs s s.heap ∧ Ai (-17) < s.heap.size ∧ ¬ A0 (Ai (-17))) : qa_OK p l e (qa_rm fr_law lo_law a0 r) s m args below meth c (qa_Q below D Ai a0 r A0 args s) D A0 Ai a0.2.2.1 9 a0.2.2.2.1 a0.2.2.2.2 r pc_L_law (pc_L_law 128) (B_L_law_128 L xs) :=
  ok_iload C dL_law_2462 (ok_ifne C (T := 129) dL_law_2464 (by decide) (ok_aload_n C rfl dL_law_2467 (ok_iconst C (by decide) dL_law_2468 (ok_laload C dL_law_2469 (ok_iload C dL_law_2470 (ok_i2l C dL_law_2472 (ok_lcmp C dL_law_2473 (ok_ifeq C (T := 129) dL_law_2474 (by decide) (ok_iconst C (by decide) dL_law_2477 (ok_zret C hr dL_law_2478))))))))))
set_option maxRecDepth 100000 in
set_option maxHeartbeats 4000000 in
theorem lawb_129 (C : qa_C true Ai p s m args meth c cL_law 9 RL A0 (qa_rm fr_law lo_law a0 r) a0.2.2.2.1 a0.2.2.2.2 r) (hr : meth.sig.returnType = some .boolean) (hl : l.stackTraces = false) (hL : L < 2147483648) (hX : va_X (Ai (-17)) L xs s s.heap ∧ Ai (-17) < s.heap.size ∧ ¬ A0 (Ai (-17))) : qa_OK p l e (qa_rm fr_law lo_law a0 r) s m args below meth c (qa_Q below D Ai a0 r A0 args s) D A0 Ai a0.2.2.1 9 a0.2.2.2.1 a0.2.2.2.2 r pc_L_law (pc_L_law 129) (B_L_law_129 L xs) :=
  ok_goto C dL_law_2479 (by decide)
set_option maxRecDepth 100000 in
set_option maxHeartbeats 4000000 in
theorem lawb_130 (C : qa_C true Ai p s m args meth c cL_law 9 RL A0 (qa_rm fr_law lo_law a0 r) a0.2.2.2.1 a0.2.2.2.2 r) (hr : meth.sig.returnType = some .boolean) (hl : l.stackTraces = false) (hL : L < 2147483648) (hX : va_X (Ai (-17)) L xs s s.heap ∧ Ai (-17) < s.heap.size ∧ ¬ A0 (Ai (-17))) : qa_OK p l e (qa_rm fr_law lo_law a0 r) s m args below meth c (qa_Q below D Ai a0 r A0 args s) D A0 Ai a0.2.2.1 9 a0.2.2.2.1 a0.2.2.2.2 r pc_L_law (pc_L_law 130) (B_L_law_130 L xs) :=
  ok_aload_n C rfl dL_law_2482 (ok_aload_n C rfl dL_law_2483 (ok_iload C dL_law_2484 (ok_iconst C (by decide) dL_law_2486 (ok_iadd C dL_law_2487 (ok_xld C hX dL_law_2488 (ok_aload_n C rfl dL_law_2489 (ok_callsx C (kon_L_write l hl) (qa_wl [1305, 1306, 71, 1307] (by decide +kernel) (by decide +kernel)) ⟨by decide +kernel, by decide +kernel, by decide +kernel⟩ ⟨Nat.le_of_ble_eq_true rfl, Nat.le_of_ble_eq_true rfl⟩ dL_law_2490 (ok_istore C (by decide) dL_law_2493 (ok_aload_n C rfl dL_law_2495 (ok_aload_n C rfl dL_law_2496 (ok_iload C dL_law_2497 (ok_iconst C (by decide) dL_law_2499 (ok_iadd C dL_law_2500 (ok_xld C hX dL_law_2501 (ok_callv C rfl (by decide) (kon_X12_write l hl) (qa_wl [2123, 2124, 2125, 85, 2126] (by decide +kernel) (by decide +kernel)) ⟨rfl, by decide +kernel, by decide +kernel, by decide +kernel⟩ ⟨Nat.le_of_ble_eq_true rfl, Nat.le_of_ble_eq_true rfl⟩ dL_law_2502 (ok_istore C (by decide) dL_law_2505 (ok_aload_n C rfl dL_law_2507 (ok_callv C rfl (by decide) (kon_X12_thrown l hl) (qa_wl [1695, 1696, 1697, 85, 1698] (by decide +kernel) (by decide +kernel)) ⟨rfl, by decide +kernel, by decide +kernel, by decide +kernel⟩ ⟨Nat.le_of_ble_eq_true rfl, Nat.le_of_ble_eq_true rfl⟩ dL_law_2508 (ok_iload C dL_law_2511 (ok_cmpeq C (T := 131) dL_law_2513 (by decide) (ok_iconst C (by decide) dL_law_2516 (ok_zret C hr dL_law_2517))))))))))))))))))))))
set_option maxRecDepth 100000 in
set_option maxHeartbeats 4000000 in
theorem lawb_131 (C : qa_C true Ai p s m args meth c cL_law 9 RL A0 (qa_rm fr_law lo_law a0 r) a0.2.2.2.1 a0.2.2.2.2 r) (hr : meth.sig.returnType = some .boolean) (hl : l.stackTraces = false) (hL : L < 2147483648) (hX : va_X (Ai (-17)) L xs s s.heap ∧ Ai (-17) < s.heap.size ∧ ¬ A0 (Ai (-17))) : qa_OK p l e (qa_rm fr_law lo_law a0 r) s m args below meth c (qa_Q below D Ai a0 r A0 args s) D A0 Ai a0.2.2.1 9 a0.2.2.2.1 a0.2.2.2.2 r pc_L_law (pc_L_law 131) (B_L_law_131 L xs) :=
  ok_iload C dL_law_2518 (ok_ifne C (T := 132) dL_law_2520 (by decide) (ok_aload_n C rfl dL_law_2523 (ok_iconst C (by decide) dL_law_2524 (ok_laload C dL_law_2525 (ok_iload C dL_law_2526 (ok_i2l C dL_law_2528 (ok_lcmp C dL_law_2529 (ok_ifeq C (T := 132) dL_law_2530 (by decide) (ok_iconst C (by decide) dL_law_2533 (ok_zret C hr dL_law_2534))))))))))
set_option maxRecDepth 100000 in
set_option maxHeartbeats 4000000 in
theorem lawb_132 (C : qa_C true Ai p s m args meth c cL_law 9 RL A0 (qa_rm fr_law lo_law a0 r) a0.2.2.2.1 a0.2.2.2.2 r) (hr : meth.sig.returnType = some .boolean) (hl : l.stackTraces = false) (hL : L < 2147483648) (hX : va_X (Ai (-17)) L xs s s.heap ∧ Ai (-17) < s.heap.size ∧ ¬ A0 (Ai (-17))) : qa_OK p l e (qa_rm fr_law lo_law a0 r) s m args below meth c (qa_Q below D Ai a0 r A0 args s) D A0 Ai a0.2.2.1 9 a0.2.2.2.1 a0.2.2.2.2 r pc_L_law (pc_L_law 132) (B_L_law_132 L xs) :=
  ok_goto C dL_law_2535 (by decide)
set_option maxRecDepth 100000 in
set_option maxHeartbeats 4000000 in
theorem lawb_133 (C : qa_C true Ai p s m args meth c cL_law 9 RL A0 (qa_rm fr_law lo_law a0 r) a0.2.2.2.1 a0.2.2.2.2 r) (hr : meth.sig.returnType = some .boolean) (hl : l.stackTraces = false) (hL : L < 2147483648) (hX : va_X (Ai (-17)) L xs s s.heap ∧ Ai (-17) < s.heap.size ∧ ¬ A0 (Ai (-17))) : qa_OK p l e (qa_rm fr_law lo_law a0 r) s m args below meth c (qa_Q below D Ai a0 r A0 args s) D A0 Ai a0.2.2.1 9 a0.2.2.2.1 a0.2.2.2.2 r pc_L_law (pc_L_law 133) (B_L_law_133 L xs) :=
  ok_aload_n C rfl dL_law_2538 (ok_aload_n C rfl dL_law_2539 (ok_iload C dL_law_2540 (ok_iconst C (by decide) dL_law_2542 (ok_iadd C dL_law_2543 (ok_xld C hX dL_law_2544 (ok_callv C rfl (by decide) (kon_X11_output l hl) (qa_wl [945, 946, 947, 72, 948] (by decide +kernel) (by decide +kernel)) ⟨rfl, by decide +kernel, by decide +kernel, by decide +kernel⟩ ⟨Nat.le_of_ble_eq_true rfl, Nat.le_of_ble_eq_true rfl⟩ dL_law_2545 (ok_aload_n C rfl dL_law_2548 (ok_aload_n C rfl dL_law_2549 (ok_iload C dL_law_2550 (ok_iconst C (by decide) dL_law_2552 (ok_iadd C dL_law_2553 (ok_xld C hX dL_law_2554 (ok_callv C rfl (by decide) (kon_X12_output l hl) (qa_wl [2139, 2140, 2141, 85, 2142] (by decide +kernel) (by decide +kernel)) ⟨rfl, by decide +kernel, by decide +kernel, by decide +kernel⟩ ⟨Nat.le_of_ble_eq_true rfl, Nat.le_of_ble_eq_true rfl⟩ dL_law_2555 (ok_cmpeq C (T := 139) dL_law_2558 (by decide) (ok_iconst C (by decide) dL_law_2561 (ok_zret C hr dL_law_2562))))))))))))))))
set_option maxRecDepth 100000 in
set_option maxHeartbeats 4000000 in
theorem lawb_134 (C : qa_C true Ai p s m args meth c cL_law 9 RL A0 (qa_rm fr_law lo_law a0 r) a0.2.2.2.1 a0.2.2.2.2 r) (hr : meth.sig.returnType = some .boolean) (hl : l.stackTraces = false) (hL : L < 2147483648) (hX : va_X (Ai (-17)) L xs s s.heap ∧ Ai (-17) < s.heap.size ∧ ¬ A0 (Ai (-17))) : qa_OK p l e (qa_rm fr_law lo_law a0 r) s m args below meth c (qa_Q below D Ai a0 r A0 args s) D A0 Ai a0.2.2.1 9 a0.2.2.2.1 a0.2.2.2.2 r pc_L_law (pc_L_law 134) (B_L_law_134 L xs) :=
  ok_aload_n C rfl dL_law_2563 (ok_callv C rfl (by decide) (kon_X11_undo l hl) (qa_wl [966, 967, 968, 72, 969] (by decide +kernel) (by decide +kernel)) ⟨rfl, by decide +kernel, by decide +kernel, by decide +kernel⟩ ⟨Nat.le_of_ble_eq_true rfl, Nat.le_of_ble_eq_true rfl⟩ dL_law_2564 (ok_aload_n C rfl dL_law_2567 (ok_callv C rfl (by decide) (kon_X12_undo l hl) (qa_wl [2143, 2144, 2145, 85, 2146] (by decide +kernel) (by decide +kernel)) ⟨rfl, by decide +kernel, by decide +kernel, by decide +kernel⟩ ⟨Nat.le_of_ble_eq_true rfl, Nat.le_of_ble_eq_true rfl⟩ dL_law_2568 (ok_cmpeq C (T := 139) dL_law_2571 (by decide) (ok_iconst C (by decide) dL_law_2574 (ok_zret C hr dL_law_2575))))))
set_option maxRecDepth 100000 in
set_option maxHeartbeats 4000000 in
theorem lawb_135 (C : qa_C true Ai p s m args meth c cL_law 9 RL A0 (qa_rm fr_law lo_law a0 r) a0.2.2.2.1 a0.2.2.2.2 r) (hr : meth.sig.returnType = some .boolean) (hl : l.stackTraces = false) (hL : L < 2147483648) (hX : va_X (Ai (-17)) L xs s s.heap ∧ Ai (-17) < s.heap.size ∧ ¬ A0 (Ai (-17))) : qa_OK p l e (qa_rm fr_law lo_law a0 r) s m args below meth c (qa_Q below D Ai a0 r A0 args s) D A0 Ai a0.2.2.1 9 a0.2.2.2.1 a0.2.2.2.2 r pc_L_law (pc_L_law 135) (B_L_law_135 L xs) :=
  ok_aload_n C rfl dL_law_2576 (ok_aload_n C rfl dL_law_2577 (ok_iload C dL_law_2578 (ok_iconst C (by decide) dL_law_2580 (ok_iadd C dL_law_2581 (ok_xld C hX dL_law_2582 (ok_callsx C (kon_L_save l hl) (qa_wl [1585, 1586, 71, 1587] (by decide +kernel) (by decide +kernel)) ⟨by decide +kernel, by decide +kernel, by decide +kernel⟩ ⟨Nat.le_of_ble_eq_true rfl, Nat.le_of_ble_eq_true rfl⟩ dL_law_2583 (ok_istore C (by decide) dL_law_2586 (ok_aload_n C rfl dL_law_2588 (ok_aload_n C rfl dL_law_2589 (ok_iload C dL_law_2590 (ok_iconst C (by decide) dL_law_2592 (ok_iadd C dL_law_2593 (ok_xld C hX dL_law_2594 (ok_callv C rfl (by decide) (kon_X12_save l hl) (qa_wl [2147, 2148, 2149, 85, 2150] (by decide +kernel) (by decide +kernel)) ⟨rfl, by decide +kernel, by decide +kernel, by decide +kernel⟩ ⟨Nat.le_of_ble_eq_true rfl, Nat.le_of_ble_eq_true rfl⟩ dL_law_2595 (ok_aload_n C rfl dL_law_2598 (ok_callv C rfl (by decide) (kon_X12_thrown l hl) (qa_wl [1695, 1696, 1697, 85, 1698] (by decide +kernel) (by decide +kernel)) ⟨rfl, by decide +kernel, by decide +kernel, by decide +kernel⟩ ⟨Nat.le_of_ble_eq_true rfl, Nat.le_of_ble_eq_true rfl⟩ dL_law_2599 (ok_iload C dL_law_2602 (ok_cmpeq C (T := 136) dL_law_2604 (by decide) (ok_iconst C (by decide) dL_law_2607 (ok_zret C hr dL_law_2608))))))))))))))))))))
set_option maxRecDepth 100000 in
set_option maxHeartbeats 4000000 in
theorem lawb_136 (C : qa_C true Ai p s m args meth c cL_law 9 RL A0 (qa_rm fr_law lo_law a0 r) a0.2.2.2.1 a0.2.2.2.2 r) (hr : meth.sig.returnType = some .boolean) (hl : l.stackTraces = false) (hL : L < 2147483648) (hX : va_X (Ai (-17)) L xs s s.heap ∧ Ai (-17) < s.heap.size ∧ ¬ A0 (Ai (-17))) : qa_OK p l e (qa_rm fr_law lo_law a0 r) s m args below meth c (qa_Q below D Ai a0 r A0 args s) D A0 Ai a0.2.2.1 9 a0.2.2.2.1 a0.2.2.2.2 r pc_L_law (pc_L_law 136) (B_L_law_136 L xs) :=
  ok_goto C dL_law_2609 (by decide)
set_option maxRecDepth 100000 in
set_option maxHeartbeats 4000000 in
theorem lawb_137 (C : qa_C true Ai p s m args meth c cL_law 9 RL A0 (qa_rm fr_law lo_law a0 r) a0.2.2.2.1 a0.2.2.2.2 r) (hr : meth.sig.returnType = some .boolean) (hl : l.stackTraces = false) (hL : L < 2147483648) (hX : va_X (Ai (-17)) L xs s s.heap ∧ Ai (-17) < s.heap.size ∧ ¬ A0 (Ai (-17))) : qa_OK p l e (qa_rm fr_law lo_law a0 r) s m args below meth c (qa_Q below D Ai a0 r A0 args s) D A0 Ai a0.2.2.1 9 a0.2.2.2.1 a0.2.2.2.2 r pc_L_law (pc_L_law 137) (B_L_law_137 L xs) :=
  ok_aload_n C rfl dL_law_2612 (ok_aload_n C rfl dL_law_2613 (ok_iload C dL_law_2614 (ok_iconst C (by decide) dL_law_2616 (ok_iadd C dL_law_2617 (ok_xld C hX dL_law_2618 (ok_callsx C (kon_L_restore l hl) (qa_wl [1592, 1593, 71, 1594] (by decide +kernel) (by decide +kernel)) ⟨by decide +kernel, by decide +kernel, by decide +kernel⟩ ⟨Nat.le_of_ble_eq_true rfl, Nat.le_of_ble_eq_true rfl⟩ dL_law_2619 (ok_istore C (by decide) dL_law_2622 (ok_aload_n C rfl dL_law_2624 (ok_aload_n C rfl dL_law_2625 (ok_iload C dL_law_2626 (ok_iconst C (by decide) dL_law_2628 (ok_iadd C dL_law_2629 (ok_xld C hX dL_law_2630 (ok_callv C rfl (by decide) (kon_X12_restore l hl) (qa_wl [2151, 2152, 2153, 85, 2154] (by decide +kernel) (by decide +kernel)) ⟨rfl, by decide +kernel, by decide +kernel, by decide +kernel⟩ ⟨Nat.le_of_ble_eq_true rfl, Nat.le_of_ble_eq_true rfl⟩ dL_law_2631 (ok_aload_n C rfl dL_law_2634 (ok_callv C rfl (by decide) (kon_X12_thrown l hl) (qa_wl [1695, 1696, 1697, 85, 1698] (by decide +kernel) (by decide +kernel)) ⟨rfl, by decide +kernel, by decide +kernel, by decide +kernel⟩ ⟨Nat.le_of_ble_eq_true rfl, Nat.le_of_ble_eq_true rfl⟩ dL_law_2635 (ok_iload C dL_law_2638 (ok_cmpeq C (T := 138) dL_law_2640 (by decide) (ok_iconst C (by decide) dL_law_2643 (ok_zret C hr dL_law_2644))))))))))))))))))))
set_option maxRecDepth 100000 in
set_option maxHeartbeats 4000000 in
theorem lawb_138 (C : qa_C true Ai p s m args meth c cL_law 9 RL A0 (qa_rm fr_law lo_law a0 r) a0.2.2.2.1 a0.2.2.2.2 r) (hr : meth.sig.returnType = some .boolean) (hl : l.stackTraces = false) (hL : L < 2147483648) (hX : va_X (Ai (-17)) L xs s s.heap ∧ Ai (-17) < s.heap.size ∧ ¬ A0 (Ai (-17))) : qa_OK p l e (qa_rm fr_law lo_law a0 r) s m args below meth c (qa_Q below D Ai a0 r A0 args s) D A0 Ai a0.2.2.1 9 a0.2.2.2.1 a0.2.2.2.2 r pc_L_law (pc_L_law 138) (B_L_law_138 L xs) :=
  ok_goto C dL_law_2645 (by decide)
set_option maxRecDepth 100000 in
set_option maxHeartbeats 4000000 in
theorem lawb_139 (C : qa_C true Ai p s m args meth c cL_law 9 RL A0 (qa_rm fr_law lo_law a0 r) a0.2.2.2.1 a0.2.2.2.2 r) (hr : meth.sig.returnType = some .boolean) (hl : l.stackTraces = false) (hL : L < 2147483648) (hX : va_X (Ai (-17)) L xs s s.heap ∧ Ai (-17) < s.heap.size ∧ ¬ A0 (Ai (-17))) : qa_OK p l e (qa_rm fr_law lo_law a0 r) s m args below meth c (qa_Q below D Ai a0 r A0 args s) D A0 Ai a0.2.2.1 9 a0.2.2.2.1 a0.2.2.2.2 r pc_L_law (pc_L_law 139) (B_L_law_139 L xs) :=
  ok_iinc C (by decide) (by decide) dL_law_2648 (ok_goto C dL_law_2651 (by decide))
set_option maxRecDepth 100000 in
set_option maxHeartbeats 4000000 in
theorem lawb_140 (C : qa_C true Ai p s m args meth c cL_law 9 RL A0 (qa_rm fr_law lo_law a0 r) a0.2.2.2.1 a0.2.2.2.2 r) (hr : meth.sig.returnType = some .boolean) (hl : l.stackTraces = false) (hL : L < 2147483648) (hX : va_X (Ai (-17)) L xs s s.heap ∧ Ai (-17) < s.heap.size ∧ ¬ A0 (Ai (-17))) : qa_OK p l e (qa_rm fr_law lo_law a0 r) s m args below meth c (qa_Q below D Ai a0 r A0 args s) D A0 Ai a0.2.2.1 9 a0.2.2.2.1 a0.2.2.2.2 r pc_L_law (pc_L_law 140) (B_L_law_140 L xs) :=
  ok_iconst C (by decide) dL_law_2654 (ok_zret C hr dL_law_2655)
theorem lawb (C : qa_C true Ai p s m args meth c cL_law 9 RL A0 (qa_rm fr_law lo_law a0 r) a0.2.2.2.1 a0.2.2.2.2 r) (hr : meth.sig.returnType = some .boolean) (hl : l.stackTraces = false) (hL : L < 2147483648) (hX : va_X (Ai (-17)) L xs s s.heap ∧ Ai (-17) < s.heap.size ∧ ¬ A0 (Ai (-17))) : ∀ (j : Nat) (f : qI), (P_L_law L xs)[j]? = some f → qa_OK p l e (qa_rm fr_law lo_law a0 r) s m args below meth c (qa_Q below D Ai a0 r A0 args s) D A0 Ai a0.2.2.1 9 a0.2.2.2.1 a0.2.2.2.2 r pc_L_law (pc_L_law j) f := fun j f hj => by
  match j, hj with
  | 0, hj => obtain rfl := Option.some.inj hj; exact lawb_0 C hr hl hL hX
  | 1, hj => obtain rfl := Option.some.inj hj; exact lawb_1 C hr hl hL hX
  | 2, hj => obtain rfl := Option.some.inj hj; exact lawb_2 C hr hl hL hX
  | 3, hj => obtain rfl := Option.some.inj hj; exact lawb_3 C hr hl hL hX
  | 4, hj => obtain rfl := Option.some.inj hj; exact lawb_4 C hr hl hL hX
  | 5, hj => obtain rfl := Option.some.inj hj; exact lawb_5 C hr hl hL hX
  | 6, hj => obtain rfl := Option.some.inj hj; exact lawb_6 C hr hl hL hX
  | 7, hj => obtain rfl := Option.some.inj hj; exact lawb_7 C hr hl hL hX
  | 8, hj => obtain rfl := Option.some.inj hj; exact lawb_8 C hr hl hL hX
  | 9, hj => obtain rfl := Option.some.inj hj; exact lawb_9 C hr hl hL hX
  | 10, hj => obtain rfl := Option.some.inj hj; exact lawb_10 C hr hl hL hX
  | 11, hj => obtain rfl := Option.some.inj hj; exact lawb_11 C hr hl hL hX
  | 12, hj => obtain rfl := Option.some.inj hj; exact lawb_12 C hr hl hL hX
  | 13, hj => obtain rfl := Option.some.inj hj; exact lawb_13 C hr hl hL hX
  | 14, hj => obtain rfl := Option.some.inj hj; exact lawb_14 C hr hl hL hX
  | 15, hj => obtain rfl := Option.some.inj hj; exact lawb_15 C hr hl hL hX
  | 16, hj => obtain rfl := Option.some.inj hj; exact lawb_16 C hr hl hL hX
  | 17, hj => obtain rfl := Option.some.inj hj; exact lawb_17 C hr hl hL hX
  | 18, hj => obtain rfl := Option.some.inj hj; exact lawb_18 C hr hl hL hX
  | 19, hj => obtain rfl := Option.some.inj hj; exact lawb_19 C hr hl hL hX
  | 20, hj => obtain rfl := Option.some.inj hj; exact lawb_20 C hr hl hL hX
  | 21, hj => obtain rfl := Option.some.inj hj; exact lawb_21 C hr hl hL hX
  | 22, hj => obtain rfl := Option.some.inj hj; exact lawb_22 C hr hl hL hX
  | 23, hj => obtain rfl := Option.some.inj hj; exact lawb_23 C hr hl hL hX
  | 24, hj => obtain rfl := Option.some.inj hj; exact lawb_24 C hr hl hL hX
  | 25, hj => obtain rfl := Option.some.inj hj; exact lawb_25 C hr hl hL hX
  | 26, hj => obtain rfl := Option.some.inj hj; exact lawb_26 C hr hl hL hX
  | 27, hj => obtain rfl := Option.some.inj hj; exact lawb_27 C hr hl hL hX
  | 28, hj => obtain rfl := Option.some.inj hj; exact lawb_28 C hr hl hL hX
  | 29, hj => obtain rfl := Option.some.inj hj; exact lawb_29 C hr hl hL hX
  | 30, hj => obtain rfl := Option.some.inj hj; exact lawb_30 C hr hl hL hX
  | 31, hj => obtain rfl := Option.some.inj hj; exact lawb_31 C hr hl hL hX
  | 32, hj => obtain rfl := Option.some.inj hj; exact lawb_32 C hr hl hL hX
  | 33, hj => obtain rfl := Option.some.inj hj; exact lawb_33 C hr hl hL hX
  | 34, hj => obtain rfl := Option.some.inj hj; exact lawb_34 C hr hl hL hX
  | 35, hj => obtain rfl := Option.some.inj hj; exact lawb_35 C hr hl hL hX
  | 36, hj => obtain rfl := Option.some.inj hj; exact lawb_36 C hr hl hL hX
  | 37, hj => obtain rfl := Option.some.inj hj; exact lawb_37 C hr hl hL hX
  | 38, hj => obtain rfl := Option.some.inj hj; exact lawb_38 C hr hl hL hX
  | 39, hj => obtain rfl := Option.some.inj hj; exact lawb_39 C hr hl hL hX
  | 40, hj => obtain rfl := Option.some.inj hj; exact lawb_40 C hr hl hL hX
  | 41, hj => obtain rfl := Option.some.inj hj; exact lawb_41 C hr hl hL hX
  | 42, hj => obtain rfl := Option.some.inj hj; exact lawb_42 C hr hl hL hX
  | 43, hj => obtain rfl := Option.some.inj hj; exact lawb_43 C hr hl hL hX
  | 44, hj => obtain rfl := Option.some.inj hj; exact lawb_44 C hr hl hL hX
  | 45, hj => obtain rfl := Option.some.inj hj; exact lawb_45 C hr hl hL hX
  | 46, hj => obtain rfl := Option.some.inj hj; exact lawb_46 C hr hl hL hX
  | 47, hj => obtain rfl := Option.some.inj hj; exact lawb_47 C hr hl hL hX
  | 48, hj => obtain rfl := Option.some.inj hj; exact lawb_48 C hr hl hL hX
  | 49, hj => obtain rfl := Option.some.inj hj; exact lawb_49 C hr hl hL hX
  | 50, hj => obtain rfl := Option.some.inj hj; exact lawb_50 C hr hl hL hX
  | 51, hj => obtain rfl := Option.some.inj hj; exact lawb_51 C hr hl hL hX
  | 52, hj => obtain rfl := Option.some.inj hj; exact lawb_52 C hr hl hL hX
  | 53, hj => obtain rfl := Option.some.inj hj; exact lawb_53 C hr hl hL hX
  | 54, hj => obtain rfl := Option.some.inj hj; exact lawb_54 C hr hl hL hX
  | 55, hj => obtain rfl := Option.some.inj hj; exact lawb_55 C hr hl hL hX
  | 56, hj => obtain rfl := Option.some.inj hj; exact lawb_56 C hr hl hL hX
  | 57, hj => obtain rfl := Option.some.inj hj; exact lawb_57 C hr hl hL hX
  | 58, hj => obtain rfl := Option.some.inj hj; exact lawb_58 C hr hl hL hX
  | 59, hj => obtain rfl := Option.some.inj hj; exact lawb_59 C hr hl hL hX
  | 60, hj => obtain rfl := Option.some.inj hj; exact lawb_60 C hr hl hL hX
  | 61, hj => obtain rfl := Option.some.inj hj; exact lawb_61 C hr hl hL hX
  | 62, hj => obtain rfl := Option.some.inj hj; exact lawb_62 C hr hl hL hX
  | 63, hj => obtain rfl := Option.some.inj hj; exact lawb_63 C hr hl hL hX
  | 64, hj => obtain rfl := Option.some.inj hj; exact lawb_64 C hr hl hL hX
  | 65, hj => obtain rfl := Option.some.inj hj; exact lawb_65 C hr hl hL hX
  | 66, hj => obtain rfl := Option.some.inj hj; exact lawb_66 C hr hl hL hX
  | 67, hj => obtain rfl := Option.some.inj hj; exact lawb_67 C hr hl hL hX
  | 68, hj => obtain rfl := Option.some.inj hj; exact lawb_68 C hr hl hL hX
  | 69, hj => obtain rfl := Option.some.inj hj; exact lawb_69 C hr hl hL hX
  | 70, hj => obtain rfl := Option.some.inj hj; exact lawb_70 C hr hl hL hX
  | 71, hj => obtain rfl := Option.some.inj hj; exact lawb_71 C hr hl hL hX
  | 72, hj => obtain rfl := Option.some.inj hj; exact lawb_72 C hr hl hL hX
  | 73, hj => obtain rfl := Option.some.inj hj; exact lawb_73 C hr hl hL hX
  | 74, hj => obtain rfl := Option.some.inj hj; exact lawb_74 C hr hl hL hX
  | 75, hj => obtain rfl := Option.some.inj hj; exact lawb_75 C hr hl hL hX
  | 76, hj => obtain rfl := Option.some.inj hj; exact lawb_76 C hr hl hL hX
  | 77, hj => obtain rfl := Option.some.inj hj; exact lawb_77 C hr hl hL hX
  | 78, hj => obtain rfl := Option.some.inj hj; exact lawb_78 C hr hl hL hX
  | 79, hj => obtain rfl := Option.some.inj hj; exact lawb_79 C hr hl hL hX
  | 80, hj => obtain rfl := Option.some.inj hj; exact lawb_80 C hr hl hL hX
  | 81, hj => obtain rfl := Option.some.inj hj; exact lawb_81 C hr hl hL hX
  | 82, hj => obtain rfl := Option.some.inj hj; exact lawb_82 C hr hl hL hX
  | 83, hj => obtain rfl := Option.some.inj hj; exact lawb_83 C hr hl hL hX
  | 84, hj => obtain rfl := Option.some.inj hj; exact lawb_84 C hr hl hL hX
  | 85, hj => obtain rfl := Option.some.inj hj; exact lawb_85 C hr hl hL hX
  | 86, hj => obtain rfl := Option.some.inj hj; exact lawb_86 C hr hl hL hX
  | 87, hj => obtain rfl := Option.some.inj hj; exact lawb_87 C hr hl hL hX
  | 88, hj => obtain rfl := Option.some.inj hj; exact lawb_88 C hr hl hL hX
  | 89, hj => obtain rfl := Option.some.inj hj; exact lawb_89 C hr hl hL hX
  | 90, hj => obtain rfl := Option.some.inj hj; exact lawb_90 C hr hl hL hX
  | 91, hj => obtain rfl := Option.some.inj hj; exact lawb_91 C hr hl hL hX
  | 92, hj => obtain rfl := Option.some.inj hj; exact lawb_92 C hr hl hL hX
  | 93, hj => obtain rfl := Option.some.inj hj; exact lawb_93 C hr hl hL hX
  | 94, hj => obtain rfl := Option.some.inj hj; exact lawb_94 C hr hl hL hX
  | 95, hj => obtain rfl := Option.some.inj hj; exact lawb_95 C hr hl hL hX
  | 96, hj => obtain rfl := Option.some.inj hj; exact lawb_96 C hr hl hL hX
  | 97, hj => obtain rfl := Option.some.inj hj; exact lawb_97 C hr hl hL hX
  | 98, hj => obtain rfl := Option.some.inj hj; exact lawb_98 C hr hl hL hX
  | 99, hj => obtain rfl := Option.some.inj hj; exact lawb_99 C hr hl hL hX
  | 100, hj => obtain rfl := Option.some.inj hj; exact lawb_100 C hr hl hL hX
  | 101, hj => obtain rfl := Option.some.inj hj; exact lawb_101 C hr hl hL hX
  | 102, hj => obtain rfl := Option.some.inj hj; exact lawb_102 C hr hl hL hX
  | 103, hj => obtain rfl := Option.some.inj hj; exact lawb_103 C hr hl hL hX
  | 104, hj => obtain rfl := Option.some.inj hj; exact lawb_104 C hr hl hL hX
  | 105, hj => obtain rfl := Option.some.inj hj; exact lawb_105 C hr hl hL hX
  | 106, hj => obtain rfl := Option.some.inj hj; exact lawb_106 C hr hl hL hX
  | 107, hj => obtain rfl := Option.some.inj hj; exact lawb_107 C hr hl hL hX
  | 108, hj => obtain rfl := Option.some.inj hj; exact lawb_108 C hr hl hL hX
  | 109, hj => obtain rfl := Option.some.inj hj; exact lawb_109 C hr hl hL hX
  | 110, hj => obtain rfl := Option.some.inj hj; exact lawb_110 C hr hl hL hX
  | 111, hj => obtain rfl := Option.some.inj hj; exact lawb_111 C hr hl hL hX
  | 112, hj => obtain rfl := Option.some.inj hj; exact lawb_112 C hr hl hL hX
  | 113, hj => obtain rfl := Option.some.inj hj; exact lawb_113 C hr hl hL hX
  | 114, hj => obtain rfl := Option.some.inj hj; exact lawb_114 C hr hl hL hX
  | 115, hj => obtain rfl := Option.some.inj hj; exact lawb_115 C hr hl hL hX
  | 116, hj => obtain rfl := Option.some.inj hj; exact lawb_116 C hr hl hL hX
  | 117, hj => obtain rfl := Option.some.inj hj; exact lawb_117 C hr hl hL hX
  | 118, hj => obtain rfl := Option.some.inj hj; exact lawb_118 C hr hl hL hX
  | 119, hj => obtain rfl := Option.some.inj hj; exact lawb_119 C hr hl hL hX
  | 120, hj => obtain rfl := Option.some.inj hj; exact lawb_120 C hr hl hL hX
  | 121, hj => obtain rfl := Option.some.inj hj; exact lawb_121 C hr hl hL hX
  | 122, hj => obtain rfl := Option.some.inj hj; exact lawb_122 C hr hl hL hX
  | 123, hj => obtain rfl := Option.some.inj hj; exact lawb_123 C hr hl hL hX
  | 124, hj => obtain rfl := Option.some.inj hj; exact lawb_124 C hr hl hL hX
  | 125, hj => obtain rfl := Option.some.inj hj; exact lawb_125 C hr hl hL hX
  | 126, hj => obtain rfl := Option.some.inj hj; exact lawb_126 C hr hl hL hX
  | 127, hj => obtain rfl := Option.some.inj hj; exact lawb_127 C hr hl hL hX
  | 128, hj => obtain rfl := Option.some.inj hj; exact lawb_128 C hr hl hL hX
  | 129, hj => obtain rfl := Option.some.inj hj; exact lawb_129 C hr hl hL hX
  | 130, hj => obtain rfl := Option.some.inj hj; exact lawb_130 C hr hl hL hX
  | 131, hj => obtain rfl := Option.some.inj hj; exact lawb_131 C hr hl hL hX
  | 132, hj => obtain rfl := Option.some.inj hj; exact lawb_132 C hr hl hL hX
  | 133, hj => obtain rfl := Option.some.inj hj; exact lawb_133 C hr hl hL hX
  | 134, hj => obtain rfl := Option.some.inj hj; exact lawb_134 C hr hl hL hX
  | 135, hj => obtain rfl := Option.some.inj hj; exact lawb_135 C hr hl hL hX
  | 136, hj => obtain rfl := Option.some.inj hj; exact lawb_136 C hr hl hL hX
  | 137, hj => obtain rfl := Option.some.inj hj; exact lawb_137 C hr hl hL hX
  | 138, hj => obtain rfl := Option.some.inj hj; exact lawb_138 C hr hl hL hX
  | 139, hj => obtain rfl := Option.some.inj hj; exact lawb_139 C hr hl hL hX
  | 140, hj => obtain rfl := Option.some.inj hj; exact lawb_140 C hr hl hL hX
  | (_ + 141), hj => exact nomatch hj
end LB
