def nm (m : Int → Int → Int) (n : Int) (z : Int → Int) : Int → Int → Int := fun s i => if s = n then z i else m s i
def nk (kd : Int → Nat × Int) (n : Int) (k : Nat × Int) : Int → Nat × Int := fun s => if s = n then k else kd s
theorem nm_hit (m : Int → Int → Int) (n : Int) (z : Int → Int) (i : Int) : nm m n z n i = z i := if_pos rfl
theorem nm_no (m : Int → Int → Int) {n s : Int} (z : Int → Int) (i : Int) (h : s ≠ n) : nm m n z s i = m s i := if_neg h
theorem nm_nof (m : Int → Int → Int) {n s : Int} (z : Int → Int) (h : s ≠ n) : nm m n z s = m s := by
  funext i; exact if_neg h
theorem nk_hit (kd : Int → Nat × Int) (n : Int) (k : Nat × Int) : nk kd n k n = k := if_pos rfl
theorem nk_no (kd : Int → Nat × Int) {n s : Int} (k : Nat × Int) (h : s ≠ n) : nk kd n k s = kd s := if_neg h
theorem x_new (ci w : Nat) (z : Int → Int) (k : qI) (ls st : List qV) (m : Int → Int → Int) (kd : Int → Nat × Int) (n c s : Nat) : q_new ci w z k ls st (m, kd, n, c, s) = k ls ((1, (n : Int)) :: st) (nm m n z, nk kd n (ci + 1, 0), n + 1, c + 1, s + w) := rfl
theorem x_newa (ty : Nat) (z : Int) (k : qI) (ls r : List qV) (x : Int) (m : Int → Int → Int) (kd : Int → Nat × Int) (n c s : Nat) : q_newa ty z k ls ((0, x) :: r) (m, kd, n, c, s) = if 0 ≤ x ∧ x ≤ 60000000 then k ls ((1, (n : Int)) :: r) (nm m n (fun _ => z), nk kd n (ty, x), n + 1, c + 1, s + x.toNat) else none := by
  simp [q_newa, qa_new]
  rfl
def zfd (m : Int → Int → Int) (n k v : Int) : Int → Int → Int := fun x i => if x = n ∧ 0 ≤ i ∧ i < k then v else m x i
theorem zfd_no {m : Int → Int → Int} {n k v x i : Int} (h : x ≠ n ∨ i < 0 ∨ k ≤ i) : zfd m n k v x i = m x i := if_neg (by omega)
theorem zfd_0 {m : Int → Int → Int} {n v : Int} : zfd m n 0 v = m := by
  funext x i
  exact zfd_no (by omega)
theorem zfd_up {m : Int → Int → Int} {n k v : Int} (hk : 0 ≤ k) : qa_up (zfd m n k v) n k v = zfd m n (k + 1) v := by
  funext x i
  unfold qa_up zfd
  by_cases hx : x = n
  · by_cases hi : i = k
    · rw [if_pos ⟨hx, hi⟩, if_pos ⟨hx, by omega, by omega⟩]
    · rw [if_neg (fun z => hi z.2)]
      by_cases hh : 0 ≤ i ∧ i < k
      · rw [if_pos ⟨hx, hh⟩, if_pos ⟨hx, by omega, by omega⟩]
      · rw [if_neg (fun z => hh z.2), if_neg (by omega)]
  · rw [if_neg (fun z => hx z.1), if_neg (fun z => hx z.1), if_neg (fun z => hx z.1)]
theorem c_initD {m : Int → Int → Int} {kd : Int → Nat × Int} {n c s : Nat} {D : Int} (h1 : kd D = (7, 0)) (hD : D ≠ -1) (hn : D < n) : ∃ m', f_X3_init [(1, D)] (m, kd, n, c, s) = some (.inl none, (m', nk kd n (101, 10), n + 1, c + 1, s + 10)) ∧ (∀ x, x ≠ D → x ≠ n → m' x = m x) ∧ m' D 7 = n ∧ (∀ j, 0 ≤ j → j ≤ 6 → m' D j = if j = 3 ∨ j = 4 then -1000 else if j = 5 ∨ j = 6 then -1 else m D j) ∧ ∀ j, 0 ≤ j → j < 10 → m' n j = -1000 := by
  have hne : ¬ (n : Int) = D := by omega
  have hne' : ¬ D = (n : Int) := by omega
  generalize hm1 : qa_up (nm (qa_up (qa_up (qa_up (qa_up m D 3 (-1000)) D 4 (-1000)) D 5 (-1)) D 6 (-1)) n (fun _ => 0)) D 7 n = m1
  have loop : ∀ (q : Nat) (k : Int), 0 ≤ k → k + q = 10 → qa_ev P_X3_init 1 [(1, D), (0, k)] [] (zfd m1 n k (-1000), nk kd n (101, 10), n + 1, c + 1, s + 10) = some (.inl none, (zfd m1 n 10 (-1000), nk kd n (101, 10), n + 1, c + 1, s + 10)) := by
    intro q
    induction q with
    | zero =>
      intro k h1' h2
      obtain rfl : k = 10 := by omega
      have t7 : m1 D 7 = n := by rw [← hm1, qa_up_hit]
      have t8 : zfd m1 n 10 (-1000) D 7 = n := by rw [zfd_no (Or.inl hne')]; exact t7
      rw [ev_X3_init_1]
      simp (disch := omega) [ev_X3_init_0, ev_X3_init_2, B_X3_init_0, B_X3_init_1, B_X3_init_2, x_const, x_iadd, x_isub, x_imul, x_idiv, x_irem, x_ineg, x_dup, x_dup_x1, x_dup2, x_pop, x_goto, x_ifeq, x_ifne, x_iflt, x_ifge, x_ifgt, x_ifle, x_cmpeq, x_cmpne, x_cmplt, x_cmpge, x_cmpgt, x_cmple, x_null, x_nonnull, x_acmpeq, x_acmpne, x_get, x_put, x_putz, x_ald, x_ast, x_bast, x_zast, x_aast, x_alen, x_obj, x_ret, x_retz, x_vret, x_max, x_min, x_copy, x_i2l, qg_none, qg_inl, qg_inr, qg_ite, xr1, xr0, xrE, xri, xl0, xl1, xl2, xl3, xl4, xl5, xl6, xl7, xl8, xl9, xl10, xs0, xs1, xs2, xs3, xs4, xs5, xs6, xs7, xs8, xs9, xs10, xi0, xi1, xi2, xi3, xi4, xi5, xi6, xi7, xi8, xi9, xi10, xc0, xc1, xc2, xc3, xc4, xc5, xc6, xc7, xv1, xv2, xv3, xv4, xv5, xv6, xv7, dT_le, dF_le, dT_lt, dF_lt, nk_no, nk_hit, h1, hne', t8]
    | succ q ih =>
      intro k h1' h2
      have ih' := ih (k + 1) (by omega) (by omega)
      have t7 : m1 D 7 = n := by rw [← hm1, qa_up_hit]
      have e := zfd_up (m := m1) (n := n) (k := k) (v := -1000) h1'
      have t8 : zfd m1 n k (-1000) D 7 = n := by rw [zfd_no (Or.inl hne')]; exact t7
      rw [ev_X3_init_1]
      simp (disch := omega) [ev_X3_init_0, ev_X3_init_2, B_X3_init_0, B_X3_init_1, B_X3_init_2, x_const, x_iadd, x_isub, x_imul, x_idiv, x_irem, x_ineg, x_dup, x_dup_x1, x_dup2, x_pop, x_goto, x_ifeq, x_ifne, x_iflt, x_ifge, x_ifgt, x_ifle, x_cmpeq, x_cmpne, x_cmplt, x_cmpge, x_cmpgt, x_cmple, x_null, x_nonnull, x_acmpeq, x_acmpne, x_get, x_put, x_putz, x_ald, x_ast, x_bast, x_zast, x_aast, x_alen, x_obj, x_ret, x_retz, x_vret, x_max, x_min, x_copy, x_i2l, qg_none, qg_inl, qg_inr, qg_ite, xr1, xr0, xrE, xri, xl0, xl1, xl2, xl3, xl4, xl5, xl6, xl7, xl8, xl9, xl10, xs0, xs1, xs2, xs3, xs4, xs5, xs6, xs7, xs8, xs9, xs10, xi0, xi1, xi2, xi3, xi4, xi5, xi6, xi7, xi8, xi9, xi10, xc0, xc1, xc2, xc3, xc4, xc5, xc6, xc7, xv1, xv2, xv3, xv4, xv5, xv6, xv7, dT_le, dF_le, dT_lt, dF_lt, nk_no, nk_hit, h1, hne', t8, e, ih']
  have lp := loop 10 0 (by decide) (by decide)
  rw [zfd_0] at lp
  refine ⟨zfd m1 n 10 (-1000), ?_, ?_, ?_, ?_, ?_⟩
  · rw [← hm1] at lp
    unfold f_X3_init
    refine qa_fn_eq ?_ (by simp)
    simp (disch := omega) [ev_X3_init_0, ev_X3_init_2, B_X3_init_0, B_X3_init_1, B_X3_init_2, x_const, x_iadd, x_isub, x_imul, x_idiv, x_irem, x_ineg, x_dup, x_dup_x1, x_dup2, x_pop, x_goto, x_ifeq, x_ifne, x_iflt, x_ifge, x_ifgt, x_ifle, x_cmpeq, x_cmpne, x_cmplt, x_cmpge, x_cmpgt, x_cmple, x_null, x_nonnull, x_acmpeq, x_acmpne, x_get, x_put, x_putz, x_ald, x_ast, x_bast, x_zast, x_aast, x_alen, x_obj, x_ret, x_retz, x_vret, x_max, x_min, x_copy, x_i2l, qg_none, qg_inl, qg_inr, qg_ite, xr1, xr0, xrE, xri, xl0, xl1, xl2, xl3, xl4, xl5, xl6, xl7, xl8, xl9, xl10, xs0, xs1, xs2, xs3, xs4, xs5, xs6, xs7, xs8, xs9, xs10, xi0, xi1, xi2, xi3, xi4, xi5, xi6, xi7, xi8, xi9, xi10, xc0, xc1, xc2, xc3, xc4, xc5, xc6, xc7, xv1, xv2, xv3, xv4, xv5, xv6, xv7, dT_le, dF_le, dT_lt, dF_lt, dT_eq, dF_eq, qa_up_hit, qa_up_no, x_newa, nk_no, nk_hit, h1, hne', hD, lp]
    rw [hm1]
  · intro x x1 x2
    funext i
    rw [zfd_no (Or.inl x2), ← hm1, qa_up_no _ (fun z => x1 z.1), nm_no _ _ _ x2, qa_up_no _ (fun z => x1 z.1), qa_up_no _ (fun z => x1 z.1), qa_up_no _ (fun z => x1 z.1), qa_up_no _ (fun z => x1 z.1)]
  · rw [zfd_no (Or.inl hne'), ← hm1, qa_up_hit]
  · intro j j1 j2
    rw [zfd_no (Or.inl hne'), ← hm1, qa_up_no _ (by omega), nm_no _ _ _ hne']
    unfold qa_up
    have : j = 0 ∨ j = 1 ∨ j = 2 ∨ j = 3 ∨ j = 4 ∨ j = 5 ∨ j = 6 := by omega
    rcases this with rfl | rfl | rfl | rfl | rfl | rfl | rfl <;> simp
  · intro j j1 j2
    exact if_pos ⟨rfl, j1, j2⟩
theorem c_initR {m : Int → Int → Int} {kd : Int → Nat × Int} {n c s : Nat} {R : Int} (h1 : kd R = (10, 0)) (hR : R ≠ -1) (hn : R < n) : ∃ m', f_X6_init [(1, R)] (m, kd, n, c, s) = some (.inl none, (m', nk (nk kd n (7, 0)) (n + 1) (101, 10), n + 2, c + 2, s + 18)) ∧ (∀ x, x ≠ R → x ≠ n → x ≠ n + 1 → m' x = m x) ∧ m' R 9 = n ∧ m' R 4 = -1 ∧ (∀ j, j ≠ 4 → j ≠ 9 → m' R j = m R j) ∧ m' n 7 = n + 1 := by
  have hne' : ¬ R = (n : Int) := by omega
  obtain ⟨m', i1, i2, i3, i4, i5⟩ := c_initD (m := nm (qa_up m R 4 (-1)) n z_X3) (kd := nk kd n (7, 0)) (n := n + 1) (c := c + 1) (s := s + 8) (D := n) (nk_hit _ _ _) (by omega) (by push_cast; omega)
  push_cast at i1 i2 i3
  refine ⟨qa_up m' R 9 n, ?_, ?_, ?_, ?_, ?_, ?_⟩
  · unfold f_X6_init
    refine qa_fn_eq ?_ (by simp)
    simp (disch := omega) [ev_X6_init_0, B_X6_init_0, x_const, x_iadd, x_isub, x_imul, x_idiv, x_irem, x_ineg, x_dup, x_dup_x1, x_dup2, x_pop, x_goto, x_ifeq, x_ifne, x_iflt, x_ifge, x_ifgt, x_ifle, x_cmpeq, x_cmpne, x_cmplt, x_cmpge, x_cmpgt, x_cmple, x_null, x_nonnull, x_acmpeq, x_acmpne, x_get, x_put, x_putz, x_ald, x_ast, x_bast, x_zast, x_aast, x_alen, x_obj, x_ret, x_retz, x_vret, x_max, x_min, x_copy, x_i2l, qg_none, qg_inl, qg_inr, qg_ite, xr1, xr0, xrE, xri, xl0, xl1, xl2, xl3, xl4, xl5, xl6, xl7, xl8, xl9, xl10, xs0, xs1, xs2, xs3, xs4, xs5, xs6, xs7, xs8, xs9, xs10, xi0, xi1, xi2, xi3, xi4, xi5, xi6, xi7, xi8, xi9, xi10, xc0, xc1, xc2, xc3, xc4, xc5, xc6, xc7, xv1, xv2, xv3, xv4, xv5, xv6, xv7, dT_le, dF_le, dT_lt, dF_lt, x_new, nk_no, nk_hit, h1, hne', hR, i1]
  · intro x x1 x2 x3
    funext i
    rw [qa_up_no _ (fun z => x1 z.1), i2 x x2 x3, nm_no _ _ _ x2, qa_up_no _ (fun z => x1 z.1)]
  · rw [qa_up_hit]
  · rw [qa_up_no _ (by omega), i2 R hne' (by omega), nm_no _ _ _ hne', qa_up_hit]
  · intro j j1 j2
    rw [qa_up_no _ (by omega), i2 R hne' (by omega), nm_no _ _ _ hne', qa_up_no _ (by omega)]
  · rw [qa_up_no _ (by omega)]
    exact i3
theorem c_initB {m : Int → Int → Int} {kd : Int → Nat × Int} {n c s : Nat} {H b : Int} (h1 : kd H = (6, 0)) (hH : H ≠ -1) (hn : H < n) : f_X2_init [(1, H), (0, b)] (m, kd, n, c, s) = some (.inl none, (qa_up (qa_up (nm (qa_up (qa_up m H 2 (-1)) H 3 (-1)) n (fun _ => -1)) H 8 n) H 0 b, nk kd n (119, 512), n + 1, c + 1, s + 512)) := by
  have hne' : ¬ H = (n : Int) := by omega
  unfold f_X2_init
  refine qa_fn_eq ?_ (by simp)
  simp (disch := omega) [ev_X2_init_0, B_X2_init_0, x_const, x_iadd, x_isub, x_imul, x_idiv, x_irem, x_ineg, x_dup, x_dup_x1, x_dup2, x_pop, x_goto, x_ifeq, x_ifne, x_iflt, x_ifge, x_ifgt, x_ifle, x_cmpeq, x_cmpne, x_cmplt, x_cmpge, x_cmpgt, x_cmple, x_null, x_nonnull, x_acmpeq, x_acmpne, x_get, x_put, x_putz, x_ald, x_ast, x_bast, x_zast, x_aast, x_alen, x_obj, x_ret, x_retz, x_vret, x_max, x_min, x_copy, x_i2l, qg_none, qg_inl, qg_inr, qg_ite, xr1, xr0, xrE, xri, xl0, xl1, xl2, xl3, xl4, xl5, xl6, xl7, xl8, xl9, xl10, xs0, xs1, xs2, xs3, xs4, xs5, xs6, xs7, xs8, xs9, xs10, xi0, xi1, xi2, xi3, xi4, xi5, xi6, xi7, xi8, xi9, xi10, xc0, xc1, xc2, xc3, xc4, xc5, xc6, xc7, xv1, xv2, xv3, xv4, xv5, xv6, xv7, dT_le, dF_le, dT_lt, dF_lt, x_newa, nk_no, nk_hit, h1, hne', hH]
