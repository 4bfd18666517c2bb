def zwd (M : Int → Int → Int) (k : Int) : Int → Int → Int := fun s i => if s = 88 ∧ 0 ≤ i ∧ i < k then tWbs.getD i.toNat 0 else M s i
theorem zwd_up {M : Int → Int → Int} (k k' v : Int) (hk : 0 ≤ k) (hk' : k' = k + 1) (hv : tWbs.getD k.toNat 0 = v) : qa_up (zwd M k) 88 k v = zwd M k' := by
  funext s i
  unfold qa_up zwd
  by_cases hs : s = 88
  · by_cases hi : i = k
    · rw [if_pos ⟨hs, hi⟩, if_pos ⟨hs, by omega, by omega⟩, hi, hv]
    · rw [if_neg (fun z => hi z.2)]
      by_cases h : 0 ≤ i ∧ i < k
      · rw [if_pos ⟨hs, h⟩, if_pos ⟨hs, by omega, by omega⟩]
      · rw [if_neg (fun z => h z.2), if_neg (by omega)]
  · rw [if_neg (fun z => hs z.1), if_neg (fun z => hs z.1), if_neg (fun z => hs z.1)]
def zMA (m : Int → Int → Int) : Int → Int → Int := (qa_up (qa_up (qa_up (nm (qa_up (qa_up (nm (qa_up (nm (qa_up (nm (qa_up (nm (qa_up (nm (qa_up (nm (qa_up (nm (qa_up (nm (qa_up (nm (qa_up (qa_up (qa_up (qa_up (qa_up (qa_up (qa_up (qa_up (nm m 78 (fun _ => 0)) 78 0 60) 78 1 120) 78 2 0) 78 3 5) 78 4 2) 78 5 20) 78 6 0) 77 1 78) 79 (fun _ => 0)) 77 2 79) 80 (fun _ => 0)) 77 3 80) 81 (fun _ => 0)) 77 4 81) 82 (fun _ => 0)) 77 6 82) 83 (fun _ => 0)) 77 7 83) 84 (fun _ => 0)) 77 8 84) 85 (fun _ => 0)) 77 12 85) 86 (fun _ => 0)) 77 13 86) 87 (fun _ => 0)) 77 15 87) 77 22 (-1)) 88 (fun _ => 0)) 88 0 97) 88 1 112) 88 2 112)
def zKA (kd : Int → Nat × Int) : Int → Nat × Int := (nk (nk (nk (nk (nk (nk (nk (nk (nk (nk (nk kd 78 (101, 7)) 79 (101, 14622)) 80 (101, 14622)) 81 (101, 116976)) 82 (101, 29244)) 83 (103, 2)) 84 (101, 11)) 85 (101, 6)) 86 (101, 792)) 87 (102, 700)) 88 (102, 62))
theorem m_e12a {m : Int → Int → Int} {kd : Int → Nat × Int} {c s : Nat} (k77 : kd 77 = (15, 0)) : qa_ev P_X12_init 0 [(1, 77)] [] (m, kd, 78, c, s) = qa_ev P_X12_init 3 [(1, 77)] [(0, 3), (1, 88), (1, 88), (1, 77)] (zMA m, zKA kd, 89, c + 1 + 1 + 1 + 1 + 1 + 1 + 1 + 1 + 1 + 1 + 1, s + 7 + 14622 + 14622 + 116976 + 29244 + 2 + 11 + 6 + 792 + 700 + 62) := by
  unfold zMA zKA
  simp (disch := omega) [ev_X12_init_0, B_X12_init_0, ev_X12_init_1, B_X12_init_1, ev_X12_init_2, B_X12_init_2, x_const, x_iadd, x_isub, x_imul, x_idiv, x_irem, x_ineg, x_dup, x_dup_x1, x_dup2, x_pop, x_goto, x_ifeq, x_ifne, x_iflt, x_ifge, x_ifgt, x_ifle, x_cmpeq, x_cmpne, x_cmplt, x_cmpge, x_cmpgt, x_cmple, x_null, x_nonnull, x_acmpeq, x_acmpne, x_get, x_put, x_putz, x_ald, x_ast, x_bast, x_zast, x_aast, x_alen, x_obj, x_ret, x_retz, x_vret, x_max, x_min, x_copy, x_i2l, qg_none, qg_inl, qg_inr, qg_ite, xr1, xr0, xrE, xri, xl0, xl1, xl2, xl3, xl4, xl5, xl6, xl7, xl8, xl9, xl10, xs0, xs1, xs2, xs3, xs4, xs5, xs6, xs7, xs8, xs9, xs10, xi0, xi1, xi2, xi3, xi4, xi5, xi6, xi7, xi8, xi9, xi10, xc0, xc1, xc2, xc3, xc4, xc5, xc6, xc7, xv1, xv2, xv3, xv4, xv5, xv6, xv7, dT_le, dF_le, dT_lt, dF_lt, x_newa, nk_hit, nk_no, k77, qa_b]
theorem m_e12_3 {M : Int → Int → Int} {kd : Int → Nat × Int} {w : Nat × Nat × Nat} (k88 : kd 88 = (102, 62)) : qa_ev P_X12_init 3 [(1, 77)] [(0, 3), (1, 88), (1, 88), (1, 77)] (zwd M 3, kd, w) = qa_ev P_X12_init 4 [(1, 77)] [(1, 88), (1, 88), (1, 77)] (zwd M 11, kd, w) := by
  have u3 := zwd_up (M := M) 3 4 101 (by decide) rfl rfl
  have u4 := zwd_up (M := M) 4 5 110 (by decide) rfl rfl
  have u5 := zwd_up (M := M) 5 6 100 (by decide) rfl rfl
  have u6 := zwd_up (M := M) 6 7 32 (by decide) rfl rfl
  have u7 := zwd_up (M := M) 7 8 106 (by decide) rfl rfl
  have u8 := zwd_up (M := M) 8 9 111 (by decide) rfl rfl
  have u9 := zwd_up (M := M) 9 10 105 (by decide) rfl rfl
  have u10 := zwd_up (M := M) 10 11 110 (by decide) rfl rfl
  simp (disch := omega) [ev_X12_init_3, B_X12_init_3, x_const, x_iadd, x_isub, x_imul, x_idiv, x_irem, x_ineg, x_dup, x_dup_x1, x_dup2, x_pop, x_goto, x_ifeq, x_ifne, x_iflt, x_ifge, x_ifgt, x_ifle, x_cmpeq, x_cmpne, x_cmplt, x_cmpge, x_cmpgt, x_cmple, x_null, x_nonnull, x_acmpeq, x_acmpne, x_get, x_put, x_putz, x_ald, x_ast, x_bast, x_zast, x_aast, x_alen, x_obj, x_ret, x_retz, x_vret, x_max, x_min, x_copy, x_i2l, qg_none, qg_inl, qg_inr, qg_ite, xr1, xr0, xrE, xri, xl0, xl1, xl2, xl3, xl4, xl5, xl6, xl7, xl8, xl9, xl10, xs0, xs1, xs2, xs3, xs4, xs5, xs6, xs7, xs8, xs9, xs10, xi0, xi1, xi2, xi3, xi4, xi5, xi6, xi7, xi8, xi9, xi10, xc0, xc1, xc2, xc3, xc4, xc5, xc6, xc7, xv1, xv2, xv3, xv4, xv5, xv6, xv7, dT_le, dF_le, dT_lt, dF_lt, k88, qa_b, u3, u4, u5, u6, u7, u8, u9, u10]
theorem m_e12_4 {M : Int → Int → Int} {kd : Int → Nat × Int} {w : Nat × Nat × Nat} (k88 : kd 88 = (102, 62)) : qa_ev P_X12_init 4 [(1, 77)] [(1, 88), (1, 88), (1, 77)] (zwd M 11, kd, w) = qa_ev P_X12_init 5 [(1, 77)] [(0, 114), (0, 18), (1, 88), (1, 88), (1, 77)] (zwd M 18, kd, w) := by
  have u11 := zwd_up (M := M) 11 12 32 (by decide) rfl rfl
  have u12 := zwd_up (M := M) 12 13 114 (by decide) rfl rfl
  have u13 := zwd_up (M := M) 13 14 101 (by decide) rfl rfl
  have u14 := zwd_up (M := M) 14 15 97 (by decide) rfl rfl
  have u15 := zwd_up (M := M) 15 16 100 (by decide) rfl rfl
  have u16 := zwd_up (M := M) 16 17 32 (by decide) rfl rfl
  have u17 := zwd_up (M := M) 17 18 112 (by decide) rfl rfl
  simp (disch := omega) [ev_X12_init_4, B_X12_init_4, x_const, x_iadd, x_isub, x_imul, x_idiv, x_irem, x_ineg, x_dup, x_dup_x1, x_dup2, x_pop, x_goto, x_ifeq, x_ifne, x_iflt, x_ifge, x_ifgt, x_ifle, x_cmpeq, x_cmpne, x_cmplt, x_cmpge, x_cmpgt, x_cmple, x_null, x_nonnull, x_acmpeq, x_acmpne, x_get, x_put, x_putz, x_ald, x_ast, x_bast, x_zast, x_aast, x_alen, x_obj, x_ret, x_retz, x_vret, x_max, x_min, x_copy, x_i2l, qg_none, qg_inl, qg_inr, qg_ite, xr1, xr0, xrE, xri, xl0, xl1, xl2, xl3, xl4, xl5, xl6, xl7, xl8, xl9, xl10, xs0, xs1, xs2, xs3, xs4, xs5, xs6, xs7, xs8, xs9, xs10, xi0, xi1, xi2, xi3, xi4, xi5, xi6, xi7, xi8, xi9, xi10, xc0, xc1, xc2, xc3, xc4, xc5, xc6, xc7, xv1, xv2, xv3, xv4, xv5, xv6, xv7, dT_le, dF_le, dT_lt, dF_lt, k88, qa_b, u11, u12, u13, u14, u15, u16, u17]
theorem m_e12_5 {M : Int → Int → Int} {kd : Int → Nat × Int} {w : Nat × Nat × Nat} (k88 : kd 88 = (102, 62)) : qa_ev P_X12_init 5 [(1, 77)] [(0, 114), (0, 18), (1, 88), (1, 88), (1, 77)] (zwd M 18, kd, w) = qa_ev P_X12_init 6 [(1, 77)] [(1, 88), (1, 88), (1, 77)] (zwd M 26, kd, w) := by
  have u18 := zwd_up (M := M) 18 19 114 (by decide) rfl rfl
  have u19 := zwd_up (M := M) 19 20 111 (by decide) rfl rfl
  have u20 := zwd_up (M := M) 20 21 109 (by decide) rfl rfl
  have u21 := zwd_up (M := M) 21 22 105 (by decide) rfl rfl
  have u22 := zwd_up (M := M) 22 23 115 (by decide) rfl rfl
  have u23 := zwd_up (M := M) 23 24 101 (by decide) rfl rfl
  have u24 := zwd_up (M := M) 24 25 32 (by decide) rfl rfl
  have u25 := zwd_up (M := M) 25 26 109 (by decide) rfl rfl
  simp (disch := omega) [ev_X12_init_5, B_X12_init_5, x_const, x_iadd, x_isub, x_imul, x_idiv, x_irem, x_ineg, x_dup, x_dup_x1, x_dup2, x_pop, x_goto, x_ifeq, x_ifne, x_iflt, x_ifge, x_ifgt, x_ifle, x_cmpeq, x_cmpne, x_cmplt, x_cmpge, x_cmpgt, x_cmple, x_null, x_nonnull, x_acmpeq, x_acmpne, x_get, x_put, x_putz, x_ald, x_ast, x_bast, x_zast, x_aast, x_alen, x_obj, x_ret, x_retz, x_vret, x_max, x_min, x_copy, x_i2l, qg_none, qg_inl, qg_inr, qg_ite, xr1, xr0, xrE, xri, xl0, xl1, xl2, xl3, xl4, xl5, xl6, xl7, xl8, xl9, xl10, xs0, xs1, xs2, xs3, xs4, xs5, xs6, xs7, xs8, xs9, xs10, xi0, xi1, xi2, xi3, xi4, xi5, xi6, xi7, xi8, xi9, xi10, xc0, xc1, xc2, xc3, xc4, xc5, xc6, xc7, xv1, xv2, xv3, xv4, xv5, xv6, xv7, dT_le, dF_le, dT_lt, dF_lt, k88, qa_b, u18, u19, u20, u21, u22, u23, u24, u25]
theorem m_e12_6 {M : Int → Int → Int} {kd : Int → Nat × Int} {w : Nat × Nat × Nat} (k88 : kd 88 = (102, 62)) : qa_ev P_X12_init 6 [(1, 77)] [(1, 88), (1, 88), (1, 77)] (zwd M 26, kd, w) = qa_ev P_X12_init 7 [(1, 77)] [(0, 118), (0, 33), (1, 88), (1, 88), (1, 77)] (zwd M 33, kd, w) := by
  have u26 := zwd_up (M := M) 26 27 111 (by decide) rfl rfl
  have u27 := zwd_up (M := M) 27 28 118 (by decide) rfl rfl
  have u28 := zwd_up (M := M) 28 29 101 (by decide) rfl rfl
  have u29 := zwd_up (M := M) 29 30 32 (by decide) rfl rfl
  have u30 := zwd_up (M := M) 30 31 108 (by decide) rfl rfl
  have u31 := zwd_up (M := M) 31 32 101 (by decide) rfl rfl
  have u32 := zwd_up (M := M) 32 33 97 (by decide) rfl rfl
  simp (disch := omega) [ev_X12_init_6, B_X12_init_6, x_const, x_iadd, x_isub, x_imul, x_idiv, x_irem, x_ineg, x_dup, x_dup_x1, x_dup2, x_pop, x_goto, x_ifeq, x_ifne, x_iflt, x_ifge, x_ifgt, x_ifle, x_cmpeq, x_cmpne, x_cmplt, x_cmpge, x_cmpgt, x_cmple, x_null, x_nonnull, x_acmpeq, x_acmpne, x_get, x_put, x_putz, x_ald, x_ast, x_bast, x_zast, x_aast, x_alen, x_obj, x_ret, x_retz, x_vret, x_max, x_min, x_copy, x_i2l, qg_none, qg_inl, qg_inr, qg_ite, xr1, xr0, xrE, xri, xl0, xl1, xl2, xl3, xl4, xl5, xl6, xl7, xl8, xl9, xl10, xs0, xs1, xs2, xs3, xs4, xs5, xs6, xs7, xs8, xs9, xs10, xi0, xi1, xi2, xi3, xi4, xi5, xi6, xi7, xi8, xi9, xi10, xc0, xc1, xc2, xc3, xc4, xc5, xc6, xc7, xv1, xv2, xv3, xv4, xv5, xv6, xv7, dT_le, dF_le, dT_lt, dF_lt, k88, qa_b, u26, u27, u28, u29, u30, u31, u32]
theorem m_e12_7 {M : Int → Int → Int} {kd : Int → Nat × Int} {w : Nat × Nat × Nat} (k88 : kd 88 = (102, 62)) : qa_ev P_X12_init 7 [(1, 77)] [(0, 118), (0, 33), (1, 88), (1, 88), (1, 77)] (zwd M 33, kd, w) = qa_ev P_X12_init 8 [(1, 77)] [(1, 88), (1, 88), (1, 77)] (zwd M 41, kd, w) := by
  have u33 := zwd_up (M := M) 33 34 118 (by decide) rfl rfl
  have u34 := zwd_up (M := M) 34 35 101 (by decide) rfl rfl
  have u35 := zwd_up (M := M) 35 36 32 (by decide) rfl rfl
  have u36 := zwd_up (M := M) 36 37 102 (by decide) rfl rfl
  have u37 := zwd_up (M := M) 37 38 111 (by decide) rfl rfl
  have u38 := zwd_up (M := M) 38 39 114 (by decide) rfl rfl
  have u39 := zwd_up (M := M) 39 40 107 (by decide) rfl rfl
  have u40 := zwd_up (M := M) 40 41 32 (by decide) rfl rfl
  simp (disch := omega) [ev_X12_init_7, B_X12_init_7, x_const, x_iadd, x_isub, x_imul, x_idiv, x_irem, x_ineg, x_dup, x_dup_x1, x_dup2, x_pop, x_goto, x_ifeq, x_ifne, x_iflt, x_ifge, x_ifgt, x_ifle, x_cmpeq, x_cmpne, x_cmplt, x_cmpge, x_cmpgt, x_cmple, x_null, x_nonnull, x_acmpeq, x_acmpne, x_get, x_put, x_putz, x_ald, x_ast, x_bast, x_zast, x_aast, x_alen, x_obj, x_ret, x_retz, x_vret, x_max, x_min, x_copy, x_i2l, qg_none, qg_inl, qg_inr, qg_ite, xr1, xr0, xrE, xri, xl0, xl1, xl2, xl3, xl4, xl5, xl6, xl7, xl8, xl9, xl10, xs0, xs1, xs2, xs3, xs4, xs5, xs6, xs7, xs8, xs9, xs10, xi0, xi1, xi2, xi3, xi4, xi5, xi6, xi7, xi8, xi9, xi10, xc0, xc1, xc2, xc3, xc4, xc5, xc6, xc7, xv1, xv2, xv3, xv4, xv5, xv6, xv7, dT_le, dF_le, dT_lt, dF_lt, k88, qa_b, u33, u34, u35, u36, u37, u38, u39, u40]
theorem m_e12_8 {M : Int → Int → Int} {kd : Int → Nat × Int} {w : Nat × Nat × Nat} (k88 : kd 88 = (102, 62)) : qa_ev P_X12_init 8 [(1, 77)] [(1, 88), (1, 88), (1, 77)] (zwd M 41, kd, w) = qa_ev P_X12_init 9 [(1, 77)] [(0, 114), (0, 48), (1, 88), (1, 88), (1, 77)] (zwd M 48, kd, w) := by
  have u41 := zwd_up (M := M) 41 42 109 (by decide) rfl rfl
  have u42 := zwd_up (M := M) 42 43 101 (by decide) rfl rfl
  have u43 := zwd_up (M := M) 43 44 114 (by decide) rfl rfl
  have u44 := zwd_up (M := M) 44 45 103 (by decide) rfl rfl
  have u45 := zwd_up (M := M) 45 46 101 (by decide) rfl rfl
  have u46 := zwd_up (M := M) 46 47 32 (by decide) rfl rfl
  have u47 := zwd_up (M := M) 47 48 100 (by decide) rfl rfl
  simp (disch := omega) [ev_X12_init_8, B_X12_init_8, x_const, x_iadd, x_isub, x_imul, x_idiv, x_irem, x_ineg, x_dup, x_dup_x1, x_dup2, x_pop, x_goto, x_ifeq, x_ifne, x_iflt, x_ifge, x_ifgt, x_ifle, x_cmpeq, x_cmpne, x_cmplt, x_cmpge, x_cmpgt, x_cmple, x_null, x_nonnull, x_acmpeq, x_acmpne, x_get, x_put, x_putz, x_ald, x_ast, x_bast, x_zast, x_aast, x_alen, x_obj, x_ret, x_retz, x_vret, x_max, x_min, x_copy, x_i2l, qg_none, qg_inl, qg_inr, qg_ite, xr1, xr0, xrE, xri, xl0, xl1, xl2, xl3, xl4, xl5, xl6, xl7, xl8, xl9, xl10, xs0, xs1, xs2, xs3, xs4, xs5, xs6, xs7, xs8, xs9, xs10, xi0, xi1, xi2, xi3, xi4, xi5, xi6, xi7, xi8, xi9, xi10, xc0, xc1, xc2, xc3, xc4, xc5, xc6, xc7, xv1, xv2, xv3, xv4, xv5, xv6, xv7, dT_le, dF_le, dT_lt, dF_lt, k88, qa_b, u41, u42, u43, u44, u45, u46, u47]
theorem m_e12_9 {M : Int → Int → Int} {kd : Int → Nat × Int} {w : Nat × Nat × Nat} (k88 : kd 88 = (102, 62)) : qa_ev P_X12_init 9 [(1, 77)] [(0, 114), (0, 48), (1, 88), (1, 88), (1, 77)] (zwd M 48, kd, w) = qa_ev P_X12_init 10 [(1, 77)] [(1, 88), (1, 88), (1, 77)] (zwd M 56, kd, w) := by
  have u48 := zwd_up (M := M) 48 49 114 (by decide) rfl rfl
  have u49 := zwd_up (M := M) 49 50 111 (by decide) rfl rfl
  have u50 := zwd_up (M := M) 50 51 112 (by decide) rfl rfl
  have u51 := zwd_up (M := M) 51 52 32 (by decide) rfl rfl
  have u52 := zwd_up (M := M) 52 53 116 (by decide) rfl rfl
  have u53 := zwd_up (M := M) 53 54 105 (by decide) rfl rfl
  have u54 := zwd_up (M := M) 54 55 99 (by decide) rfl rfl
  have u55 := zwd_up (M := M) 55 56 107 (by decide) rfl rfl
  simp (disch := omega) [ev_X12_init_9, B_X12_init_9, x_const, x_iadd, x_isub, x_imul, x_idiv, x_irem, x_ineg, x_dup, x_dup_x1, x_dup2, x_pop, x_goto, x_ifeq, x_ifne, x_iflt, x_ifge, x_ifgt, x_ifle, x_cmpeq, x_cmpne, x_cmplt, x_cmpge, x_cmpgt, x_cmple, x_null, x_nonnull, x_acmpeq, x_acmpne, x_get, x_put, x_putz, x_ald, x_ast, x_bast, x_zast, x_aast, x_alen, x_obj, x_ret, x_retz, x_vret, x_max, x_min, x_copy, x_i2l, qg_none, qg_inl, qg_inr, qg_ite, xr1, xr0, xrE, xri, xl0, xl1, xl2, xl3, xl4, xl5, xl6, xl7, xl8, xl9, xl10, xs0, xs1, xs2, xs3, xs4, xs5, xs6, xs7, xs8, xs9, xs10, xi0, xi1, xi2, xi3, xi4, xi5, xi6, xi7, xi8, xi9, xi10, xc0, xc1, xc2, xc3, xc4, xc5, xc6, xc7, xv1, xv2, xv3, xv4, xv5, xv6, xv7, dT_le, dF_le, dT_lt, dF_lt, k88, qa_b, u48, u49, u50, u51, u52, u53, u54, u55]
theorem m_e12_10 {M : Int → Int → Int} {kd : Int → Nat × Int} {c s : Nat} (k77 : kd 77 = (15, 0)) (k88 : kd 88 = (102, 62)) : qa_ev P_X12_init 10 [(1, 77)] [(1, 88), (1, 88), (1, 77)] (zwd M 56, kd, 89, c, s) = qa_ev P_X12_init 11 [(1, 77)] [(0, 200), (1, 77)] (qa_up (nm (qa_up (zwd M 62) 77 23 88) 89 (fun _ => 0)) 77 25 89, nk kd 89 (101, 305), 90, c + 1, s + 305) := by
  have u56 := zwd_up (M := M) 56 57 115 (by decide) rfl rfl
  have u57 := zwd_up (M := M) 57 58 32 (by decide) rfl rfl
  have u58 := zwd_up (M := M) 58 59 101 (by decide) rfl rfl
  have u59 := zwd_up (M := M) 59 60 110 (by decide) rfl rfl
  have u60 := zwd_up (M := M) 60 61 100 (by decide) rfl rfl
  have u61 := zwd_up (M := M) 61 62 32 (by decide) rfl rfl
  simp (disch := omega) [ev_X12_init_10, B_X12_init_10, x_const, x_iadd, x_isub, x_imul, x_idiv, x_irem, x_ineg, x_dup, x_dup_x1, x_dup2, x_pop, x_goto, x_ifeq, x_ifne, x_iflt, x_ifge, x_ifgt, x_ifle, x_cmpeq, x_cmpne, x_cmplt, x_cmpge, x_cmpgt, x_cmple, x_null, x_nonnull, x_acmpeq, x_acmpne, x_get, x_put, x_putz, x_ald, x_ast, x_bast, x_zast, x_aast, x_alen, x_obj, x_ret, x_retz, x_vret, x_max, x_min, x_copy, x_i2l, qg_none, qg_inl, qg_inr, qg_ite, xr1, xr0, xrE, xri, xl0, xl1, xl2, xl3, xl4, xl5, xl6, xl7, xl8, xl9, xl10, xs0, xs1, xs2, xs3, xs4, xs5, xs6, xs7, xs8, xs9, xs10, xi0, xi1, xi2, xi3, xi4, xi5, xi6, xi7, xi8, xi9, xi10, xc0, xc1, xc2, xc3, xc4, xc5, xc6, xc7, xv1, xv2, xv3, xv4, xv5, xv6, xv7, dT_le, dF_le, dT_lt, dF_lt, x_newa, nk_hit, nk_no, k77, k88, qa_b, u56, u57, u58, u59, u60, u61]
theorem m_e12z {M : Int → Int → Int} {kd : Int → Nat × Int} {c s : Nat} (k77 : kd 77 = (15, 0)) (k79 : kd 79 = (101, 14622)) (h2 : M 77 2 = 79) : qa_ev P_X12_init 11 [(1, 77)] [(0, 200), (1, 77)] (M, kd, 90, c, s) = some (.inl none, (qa_up (qa_up (qa_up (qa_up (nm M 90 (fun _ => 0)) 77 26 90) 79 6 1) 79 10 (-1)) 79 11 (-1), nk kd 90 (102, 200), 91, c + 1, s + 200)) := by
  have ba : ∀ (m' : Int → Int → Int) (kd' : Int → Nat × Int) (w' : Nat × Nat × Nat), f_X12_branchAt [(0, 0)] (m', kd', w') = some (.inl (some (0, 6)), (m', kd', w')) := fun m' kd' w' => by
    unfold f_X12_branchAt
    refine qa_fn_eq ?_ (by simp)
    simp (disch := omega) [ev_X12_branchAt_0, B_X12_branchAt_0, x_const, x_iadd, x_isub, x_imul, x_idiv, x_irem, x_ineg, x_dup, x_dup_x1, x_dup2, x_pop, x_goto, x_ifeq, x_ifne, x_iflt, x_ifge, x_ifgt, x_ifle, x_cmpeq, x_cmpne, x_cmplt, x_cmpge, x_cmpgt, x_cmple, x_null, x_nonnull, x_acmpeq, x_acmpne, x_get, x_put, x_putz, x_ald, x_ast, x_bast, x_zast, x_aast, x_alen, x_obj, x_ret, x_retz, x_vret, x_max, x_min, x_copy, x_i2l, qg_none, qg_inl, qg_inr, qg_ite, xr1, xr0, xrE, xri, xl0, xl1, xl2, xl3, xl4, xl5, xl6, xl7, xl8, xl9, xl10, xs0, xs1, xs2, xs3, xs4, xs5, xs6, xs7, xs8, xs9, xs10, xi0, xi1, xi2, xi3, xi4, xi5, xi6, xi7, xi8, xi9, xi10, xc0, xc1, xc2, xc3, xc4, xc5, xc6, xc7, xv1, xv2, xv3, xv4, xv5, xv6, xv7, dT_le, dF_le, dT_lt, dF_lt]
  have n2 : nm M 90 (fun _ => 0) 77 2 = 79 := by rw [nm_no _ _ _ (by decide)]; exact h2
  simp (disch := omega) [ev_X12_init_11, B_X12_init_11, x_const, x_iadd, x_isub, x_imul, x_idiv, x_irem, x_ineg, x_dup, x_dup_x1, x_dup2, x_pop, x_goto, x_ifeq, x_ifne, x_iflt, x_ifge, x_ifgt, x_ifle, x_cmpeq, x_cmpne, x_cmplt, x_cmpge, x_cmpgt, x_cmple, x_null, x_nonnull, x_acmpeq, x_acmpne, x_get, x_put, x_putz, x_ald, x_ast, x_bast, x_zast, x_aast, x_alen, x_obj, x_ret, x_retz, x_vret, x_max, x_min, x_copy, x_i2l, qg_none, qg_inl, qg_inr, qg_ite, xr1, xr0, xrE, xri, xl0, xl1, xl2, xl3, xl4, xl5, xl6, xl7, xl8, xl9, xl10, xs0, xs1, xs2, xs3, xs4, xs5, xs6, xs7, xs8, xs9, xs10, xi0, xi1, xi2, xi3, xi4, xi5, xi6, xi7, xi8, xi9, xi10, xc0, xc1, xc2, xc3, xc4, xc5, xc6, xc7, xv1, xv2, xv3, xv4, xv5, xv6, xv7, dT_le, dF_le, dT_lt, dF_lt, dT_eq, dF_eq, qa_up_hit, qa_up_no, x_newa, nk_hit, nk_no, k77, k79, n2, ba]
