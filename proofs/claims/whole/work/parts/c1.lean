theorem x_putb (ci f : Nat) (k : qI) (ls r : List qV) (o v : Int) (m : Int → Int → Int) (kd : Int → Nat × Int) (w : Nat × Nat × Nat) (h : (kd o).1 = ci + 1) (hv : -128 ≤ v ∧ v < 128) : q_putb ci f k ls ((0, v) :: (1, o) :: r) (m, kd, w) = k ls r (qa_up m o f v, kd, w) := by
  have hb : qa_b v = v := qa_b_id hv
  simp [q_putb, h, hb, hv.1, hv.2]
def zst0 : Int → Int := fun i => if i = 0 then 60 else if i = 1 then 120 else if i = 3 then 5 else if i = 4 then 2 else if i = 5 then 20 else 0
theorem c_init7 {m : Int → Int → Int} {kd : Int → Nat × Int} {n c s : Nat} {y : Int} (h1 : kd y = (11, 0)) (hy : y ≠ -1) (hn : y < n) : ∃ m', f_X7_init [(1, y)] (m, kd, n, c, s) = some (.inl none, (m', nk kd n (101, 7), n + 1, c + 1, s + 7)) ∧ (∀ x, x ≠ y → x ≠ n → m' x = m x) ∧ m' y 0 = n ∧ ∀ i, 0 ≤ i → i < 7 → m' n i = zst0 i := by
  have hyn : y ≠ (n : Int) := by omega
  have ky : nk kd n (101, 7) y = (11, 0) := by rw [nk_no _ _ hyn]; exact h1
  refine ⟨qa_up (qa_up (qa_up (qa_up (qa_up (qa_up (qa_up (qa_up (nm m n (fun _ => 0)) n 0 60) n 1 120) n 2 0) n 3 5) n 4 2) n 5 20) n 6 0) y 0 n, ?_, fun x x1 x2 => ?_, qa_up_hit _ _ _ _, fun i i1 i2 => ?_⟩
  · unfold f_X7_init
    refine qa_fn_eq ?_ (by simp)
    simp (disch := omega) [ev_X7_init_0, ev_X7_init_1, B_X7_init_0, B_X7_init_1, x_const, x_iadd, x_isub, x_imul, x_idiv, x_irem, x_ineg, x_dup, x_dup_x1, x_dup2, x_pop, x_goto, x_ifeq, x_ifne, x_iflt, x_ifge, x_ifgt, x_ifle, x_cmpeq, x_cmpne, x_cmplt, x_cmpge, x_cmpgt, x_cmple, x_null, x_nonnull, x_acmpeq, x_acmpne, x_get, x_put, x_putz, x_ald, x_ast, x_bast, x_zast, x_aast, x_alen, x_obj, x_ret, x_retz, x_vret, x_max, x_min, x_copy, x_i2l, qg_none, qg_inl, qg_inr, qg_ite, xr1, xr0, xrE, xri, xl0, xl1, xl2, xl3, xl4, xl5, xl6, xl7, xl8, xl9, xl10, xs0, xs1, xs2, xs3, xs4, xs5, xs6, xs7, xs8, xs9, xs10, xi0, xi1, xi2, xi3, xi4, xi5, xi6, xi7, xi8, xi9, xi10, xc0, xc1, xc2, xc3, xc4, xc5, xc6, xc7, xv1, xv2, xv3, xv4, xv5, xv6, xv7, dT_le, dF_le, dT_lt, dF_lt, x_newa, nk_hit, h1, hy, ky]
  · funext i
    rw [qa_up_no _ (fun z => x1 z.1), qa_up_no _ (fun z => x2 z.1), qa_up_no _ (fun z => x2 z.1), qa_up_no _ (fun z => x2 z.1), qa_up_no _ (fun z => x2 z.1), qa_up_no _ (fun z => x2 z.1), qa_up_no _ (fun z => x2 z.1), qa_up_no _ (fun z => x2 z.1), nm_no _ _ _ x2]
  · have : i = 0 ∨ i = 1 ∨ i = 2 ∨ i = 3 ∨ i = 4 ∨ i = 5 ∨ i = 6 := by omega
    rcases this with rfl | rfl | rfl | rfl | rfl | rfl | rfl <;> simp [qa_up, hyn.symm, zst0]
theorem c_init1 {m : Int → Int → Int} {kd : Int → Nat × Int} {c s : Nat} (h1 : kd 64 = (5, 0)) : f_X1_init [(1, 64)] (m, kd, 65, c, s) = some (.inl none, (qa_up (nm (qa_up (nm m 65 (fun _ => 0)) 64 0 65) 66 (fun _ => -1)) 64 1 66, nk (nk kd 65 (101, 11)) 66 (123, 8), 67, c + 1 + 1, s + 11 + 8)) := by
  have k1 : nk kd 65 (101, 11) 64 = (5, 0) := by simp [nk, h1]
  have k2 : nk (nk kd 65 (101, 11)) 66 (123, 8) 64 = (5, 0) := by simp [nk, h1]
  unfold f_X1_init
  refine qa_fn_eq ?_ (by simp; omega)
  simp (disch := omega) [ev_X1_init_0, B_X1_init_0, x_const, x_iadd, x_isub, x_imul, x_idiv, x_irem, x_ineg, x_dup, x_dup_x1, x_dup2, x_pop, x_goto, x_ifeq, x_ifne, x_iflt, x_ifge, x_ifgt, x_ifle, x_cmpeq, x_cmpne, x_cmplt, x_cmpge, x_cmpgt, x_cmple, x_null, x_nonnull, x_acmpeq, x_acmpne, x_get, x_put, x_putz, x_ald, x_ast, x_bast, x_zast, x_aast, x_alen, x_obj, x_ret, x_retz, x_vret, x_max, x_min, x_copy, x_i2l, qg_none, qg_inl, qg_inr, qg_ite, xr1, xr0, xrE, xri, xl0, xl1, xl2, xl3, xl4, xl5, xl6, xl7, xl8, xl9, xl10, xs0, xs1, xs2, xs3, xs4, xs5, xs6, xs7, xs8, xs9, xs10, xi0, xi1, xi2, xi3, xi4, xi5, xi6, xi7, xi8, xi9, xi10, xc0, xc1, xc2, xc3, xc4, xc5, xc6, xc7, xv1, xv2, xv3, xv4, xv5, xv6, xv7, dT_le, dF_le, dT_lt, dF_lt, x_newa, h1, k1, k2]
theorem c_init4 {m : Int → Int → Int} {kd : Int → Nat × Int} {c s : Nat} (h1 : kd 67 = (8, 0)) : ∃ m', f_X4_init [(1, 67)] (m, kd, 68, c, s) = some (.inl none, (m', nk (nk (nk kd 68 (7, 0)) 69 (101, 10)) 70 (119, 99), 71, c + 3, s + 117)) ∧ (∀ x, x < 67 → m' x = m x) ∧ m' 67 1 = 68 ∧ m' 67 4 = 70 ∧ m' 68 7 = 69 ∧ (∀ j, j ≠ 1 → j ≠ 4 → m' 67 j = m 67 j) := by
  obtain ⟨m1, e1, o1, a1, a2, a3⟩ := c_initD (m := nm m 68 z_X3) (kd := nk kd 68 (7, 0)) (n := 69) (c := c + 1) (s := s + 8) (D := 68) (by simp [nk]) (by decide) (by decide)
  have k1 : nk kd 68 (7, 0) 67 = (8, 0) := by simp [nk, h1]
  have k1' : nk kd 68 (7, 0) 68 = (7, 0) := by simp [nk]
  have k2 : nk (nk kd 68 (7, 0)) 69 (101, 10) 67 = (8, 0) := by simp [nk, h1]
  have k3 : nk (nk (nk kd 68 (7, 0)) 69 (101, 10)) 70 (119, 99) 67 = (8, 0) := by simp [nk, h1]
  simp at e1 a1
  refine ⟨qa_up (nm (qa_up m1 67 1 68) 70 (fun _ => -1)) 67 4 70, ?_, fun x hx => ?_, ?_, qa_up_hit _ _ _ _, ?_, fun j j1 j4 => ?_⟩
  · unfold f_X4_init
    refine qa_fn_eq ?_ (by simp)
    simp (disch := omega) [ev_X4_init_0, B_X4_init_0, x_const, x_iadd, x_isub, x_imul, x_idiv, x_irem, x_ineg, x_dup, x_dup_x1, x_dup2, x_pop, x_goto, x_ifeq, x_ifne, x_iflt, x_ifge, x_ifgt, x_ifle, x_cmpeq, x_cmpne, x_cmplt, x_cmpge, x_cmpgt, x_cmple, x_null, x_nonnull, x_acmpeq, x_acmpne, x_get, x_put, x_putz, x_ald, x_ast, x_bast, x_zast, x_aast, x_alen, x_obj, x_ret, x_retz, x_vret, x_max, x_min, x_copy, x_i2l, qg_none, qg_inl, qg_inr, qg_ite, xr1, xr0, xrE, xri, xl0, xl1, xl2, xl3, xl4, xl5, xl6, xl7, xl8, xl9, xl10, xs0, xs1, xs2, xs3, xs4, xs5, xs6, xs7, xs8, xs9, xs10, xi0, xi1, xi2, xi3, xi4, xi5, xi6, xi7, xi8, xi9, xi10, xc0, xc1, xc2, xc3, xc4, xc5, xc6, xc7, xv1, xv2, xv3, xv4, xv5, xv6, xv7, dT_le, dF_le, dT_lt, dF_lt, x_new, x_newa, h1, k1, k1', k2, k3, e1]
  · funext i
    rw [qa_up_no _ (by omega), nm_no _ _ _ (by omega), qa_up_no _ (by omega), o1 x (by omega) (by simp; omega), nm_no _ _ _ (by omega)]
  · rw [qa_up_no _ (by omega), nm_no _ _ _ (by omega), qa_up_hit]
  · rw [qa_up_no _ (by omega), nm_no _ _ _ (by omega), qa_up_no _ (by omega)]; exact a1
  · rw [qa_up_no _ (by omega), nm_no _ _ _ (by omega), qa_up_no _ (by omega), o1 67 (by omega) (by simp), nm_no _ _ _ (by omega)]
theorem c_init8 {m : Int → Int → Int} {kd : Int → Nat × Int} {c s : Nat} (h1 : kd 71 = (12, 0)) : f_X8_init [(1, 71)] (m, kd, 72, c, s) = some (.inl none, (qa_up (qa_up (nm (qa_up (nm (qa_up (nm m 72 (fun _ => 0)) 71 0 72) 73 (fun _ => -1)) 71 2 73) 74 (fun _ => 0)) 71 3 74) 71 6 (-1), nk (nk (nk kd 72 (102, 700)) 73 (110, 60)) 74 (101, 240), 75, c + 1 + 1 + 1, s + 700 + 60 + 240)) := by
  have k1 : nk kd 72 (102, 700) 71 = (12, 0) := by simp [nk, h1]
  have k2 : nk (nk kd 72 (102, 700)) 73 (110, 60) 71 = (12, 0) := by simp [nk, h1]
  have k3 : nk (nk (nk kd 72 (102, 700)) 73 (110, 60)) 74 (101, 240) 71 = (12, 0) := by simp [nk, h1]
  unfold f_X8_init
  refine qa_fn_eq ?_ (by simp; omega)
  simp (disch := omega) [ev_X8_init_0, B_X8_init_0, x_const, x_iadd, x_isub, x_imul, x_idiv, x_irem, x_ineg, x_dup, x_dup_x1, x_dup2, x_pop, x_goto, x_ifeq, x_ifne, x_iflt, x_ifge, x_ifgt, x_ifle, x_cmpeq, x_cmpne, x_cmplt, x_cmpge, x_cmpgt, x_cmple, x_null, x_nonnull, x_acmpeq, x_acmpne, x_get, x_put, x_putz, x_ald, x_ast, x_bast, x_zast, x_aast, x_alen, x_obj, x_ret, x_retz, x_vret, x_max, x_min, x_copy, x_i2l, qg_none, qg_inl, qg_inr, qg_ite, xr1, xr0, xrE, xri, xl0, xl1, xl2, xl3, xl4, xl5, xl6, xl7, xl8, xl9, xl10, xs0, xs1, xs2, xs3, xs4, xs5, xs6, xs7, xs8, xs9, xs10, xi0, xi1, xi2, xi3, xi4, xi5, xi6, xi7, xi8, xi9, xi10, xc0, xc1, xc2, xc3, xc4, xc5, xc6, xc7, xv1, xv2, xv3, xv4, xv5, xv6, xv7, dT_le, dF_le, dT_lt, dF_lt, x_newa, h1, k1, k2, k3]
theorem c_initP {m : Int → Int → Int} {kd : Int → Nat × Int} {c s : Nat} (h1 : kd 75 = (2, 0)) : f_J4_init_da8c8 [(1, 75)] (m, kd, 76, c, s) = some (.inl none, (qa_up (qa_up (nm m 76 (fun _ => 0)) 75 0 76) 75 1 0, nk kd 76 (102, 16), 77, c + 1, s + 16)) := by
  have k1 : nk kd 76 (102, 16) 75 = (2, 0) := by simp [nk, h1]
  have k1' : (nk kd 76 (102, 16) 75).1 = 1 + 1 := by rw [k1]
  have pb := fun (k : qI) (ls r : List qV) => x_putb 1 1 k ls r 75 0 (qa_up (nm m 76 (fun _ => 0)) 75 0 76) (nk kd 76 (102, 16)) (77, c + 1, s + 16) k1' (by decide)
  have e5 : f_J5_init_d00df [(1, 75), (0, 16)] (m, kd, 76, c, s) = some (.inl none, (qa_up (qa_up (nm m 76 (fun _ => 0)) 75 0 76) 75 1 0, nk kd 76 (102, 16), 77, c + 1, s + 16)) := by
    unfold f_J5_init_d00df
    refine qa_fn_eq ?_ (by simp)
    simp (disch := omega) [ev_J5_init_d00df_0, ev_J5_init_d00df_1, ev_J5_init_d00df_2, B_J5_init_d00df_0, B_J5_init_d00df_1, B_J5_init_d00df_2, x_const, x_iadd, x_isub, x_imul, x_idiv, x_irem, x_ineg, x_dup, x_dup_x1, x_dup2, x_pop, x_goto, x_ifeq, x_ifne, x_iflt, x_ifge, x_ifgt, x_ifle, x_cmpeq, x_cmpne, x_cmplt, x_cmpge, x_cmpgt, x_cmple, x_null, x_nonnull, x_acmpeq, x_acmpne, x_get, x_put, x_putz, x_ald, x_ast, x_bast, x_zast, x_aast, x_alen, x_obj, x_ret, x_retz, x_vret, x_max, x_min, x_copy, x_i2l, qg_none, qg_inl, qg_inr, qg_ite, xr1, xr0, xrE, xri, xl0, xl1, xl2, xl3, xl4, xl5, xl6, xl7, xl8, xl9, xl10, xs0, xs1, xs2, xs3, xs4, xs5, xs6, xs7, xs8, xs9, xs10, xi0, xi1, xi2, xi3, xi4, xi5, xi6, xi7, xi8, xi9, xi10, xc0, xc1, xc2, xc3, xc4, xc5, xc6, xc7, xv1, xv2, xv3, xv4, xv5, xv6, xv7, dT_le, dF_le, dT_lt, dF_lt, dF_eq, x_newa, h1, k1, pb]
  unfold f_J4_init_da8c8
  refine qa_fn_eq ?_ (by simp)
  simp (disch := omega) [ev_J4_init_da8c8_0, B_J4_init_da8c8_0, x_const, x_iadd, x_isub, x_imul, x_idiv, x_irem, x_ineg, x_dup, x_dup_x1, x_dup2, x_pop, x_goto, x_ifeq, x_ifne, x_iflt, x_ifge, x_ifgt, x_ifle, x_cmpeq, x_cmpne, x_cmplt, x_cmpge, x_cmpgt, x_cmple, x_null, x_nonnull, x_acmpeq, x_acmpne, x_get, x_put, x_putz, x_ald, x_ast, x_bast, x_zast, x_aast, x_alen, x_obj, x_ret, x_retz, x_vret, x_max, x_min, x_copy, x_i2l, qg_none, qg_inl, qg_inr, qg_ite, xr1, xr0, xrE, xri, xl0, xl1, xl2, xl3, xl4, xl5, xl6, xl7, xl8, xl9, xl10, xs0, xs1, xs2, xs3, xs4, xs5, xs6, xs7, xs8, xs9, xs10, xi0, xi1, xi2, xi3, xi4, xi5, xi6, xi7, xi8, xi9, xi10, xc0, xc1, xc2, xc3, xc4, xc5, xc6, xc7, xv1, xv2, xv3, xv4, xv5, xv6, xv7, dT_le, dF_le, dT_lt, dF_lt, h1, e5]
theorem c_begin9 {m : Int → Int → Int} {kd : Int → Nat × Int} {w : Nat × Nat × Nat} (k3 : kd 3 = (13, 0)) (k5 : kd 5 = (116, 4)) (k7 : kd 7 = (6, 0)) (h3 : m 3 3 = 5) (h5 : m 5 0 = 7) : f_X9_begin [(1, 3)] (m, kd, w) = some (.inl none, (qa_up m 7 1 1, kd, w)) := by
  unfold f_X9_begin
  refine qa_fn_eq ?_ (by simp)
  simp (disch := omega) [ev_X9_begin_0, B_X9_begin_0, x_const, x_iadd, x_isub, x_imul, x_idiv, x_irem, x_ineg, x_dup, x_dup_x1, x_dup2, x_pop, x_goto, x_ifeq, x_ifne, x_iflt, x_ifge, x_ifgt, x_ifle, x_cmpeq, x_cmpne, x_cmplt, x_cmpge, x_cmpgt, x_cmple, x_null, x_nonnull, x_acmpeq, x_acmpne, x_get, x_put, x_putz, x_ald, x_ast, x_bast, x_zast, x_aast, x_alen, x_obj, x_ret, x_retz, x_vret, x_max, x_min, x_copy, x_i2l, qg_none, qg_inl, qg_inr, qg_ite, xr1, xr0, xrE, xri, xl0, xl1, xl2, xl3, xl4, xl5, xl6, xl7, xl8, xl9, xl10, xs0, xs1, xs2, xs3, xs4, xs5, xs6, xs7, xs8, xs9, xs10, xi0, xi1, xi2, xi3, xi4, xi5, xi6, xi7, xi8, xi9, xi10, xc0, xc1, xc2, xc3, xc4, xc5, xc6, xc7, xv1, xv2, xv3, xv4, xv5, xv6, xv7, dT_le, dF_le, dT_lt, dF_lt, k3, k5, k7, h3, h5]
