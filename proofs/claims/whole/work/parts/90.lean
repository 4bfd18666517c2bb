def vLoses (A : zA) (st : Int → Int) (r most : Int) : Int := zff (fun n => zd1 (zTicks st n.toNat A) r ≠ zd1 A r) 1 most.toNat
theorem c_losesS {kd : Int → Nat × Int} {w : Nat × Nat × Nat} {m' m2 : Int → Int → Int} {r most kk R D v d g : Int} (hx : kd 0 = (14, 0)) (k33 : kd 33 = (13, 0)) (h00 : m' 0 0 = 1) (h02 : m' 0 2 = 33) (a1 : f_X9_tick [(1, 33), (1, 1)] (m', kd, w) = some (.inl (some (0, g)), (m2, kd, w))) (g02 : m2 0 2 = 33) (ow : f_X9_owedTo [(1, 33), (0, r)] (m2, kd, w) = some (.inl (some (0, v)), (m2, kd, w))) (kR : kd R = (10, 0)) (kD : kd D = (7, 0)) (e9 : m2 R 9 = D) (e0 : m2 D 0 = d) (h1 : 0 ≤ kk ∧ kk < most) (ht : most ≤ 200) : qa_ev P_X11_losesIn 1 [(1, 0), (0, r), (0, most), (1, R), (0, kk + 1)] [] (m', kd, w) = if v = d then qa_ev P_X11_losesIn 1 [(1, 0), (0, r), (0, most), (1, R), (0, kk + 1 + 1)] [] (m2, kd, w) else some (.inl (some (0, kk + 1)), (m2, kd, w)) := by
  rw [ev_X11_losesIn_1]
  by_cases h : v = d
  · simp (disch := omega) [ev_X11_losesIn_0, ev_X11_losesIn_2, ev_X11_losesIn_3, B_X11_losesIn_0, B_X11_losesIn_1, B_X11_losesIn_2, B_X11_losesIn_3, x_const, x_iadd, x_isub, x_imul, x_idiv, x_irem, x_ineg, x_dup, x_dup_x1, x_dup2, x_pop, x_goto, x_ifeq, x_ifne, x_iflt, x_ifge, x_ifgt, x_ifle, x_cmpeq, x_cmpne, x_cmplt, x_cmpge, x_cmpgt, x_cmple, x_null, x_nonnull, x_acmpeq, x_acmpne, x_get, x_put, x_putz, x_ald, x_ast, x_bast, x_zast, x_aast, x_alen, x_obj, x_ret, x_retz, x_vret, x_max, x_min, x_copy, x_i2l, qg_none, qg_inl, qg_inr, qg_ite, xr1, xr0, xrE, xri, xl0, xl1, xl2, xl3, xl4, xl5, xl6, xl7, xl8, xl9, xl10, xs0, xs1, xs2, xs3, xs4, xs5, xs6, xs7, xs8, xs9, xs10, xi0, xi1, xi2, xi3, xi4, xi5, xi6, xi7, xi8, xi9, xi10, xc0, xc1, xc2, xc3, xc4, xc5, xc6, xc7, xv1, xv2, xv3, xv4, xv5, xv6, xv7, dT_le, dF_le, dT_lt, dF_lt, hx, k33, h00, h02, a1, g02, ow, kR, kD, e9, e0, h]
  · simp (disch := omega) [ev_X11_losesIn_0, ev_X11_losesIn_2, ev_X11_losesIn_3, B_X11_losesIn_0, B_X11_losesIn_1, B_X11_losesIn_2, B_X11_losesIn_3, x_const, x_iadd, x_isub, x_imul, x_idiv, x_irem, x_ineg, x_dup, x_dup_x1, x_dup2, x_pop, x_goto, x_ifeq, x_ifne, x_iflt, x_ifge, x_ifgt, x_ifle, x_cmpeq, x_cmpne, x_cmplt, x_cmpge, x_cmpgt, x_cmple, x_null, x_nonnull, x_acmpeq, x_acmpne, x_get, x_put, x_putz, x_ald, x_ast, x_bast, x_zast, x_aast, x_alen, x_obj, x_ret, x_retz, x_vret, x_max, x_min, x_copy, x_i2l, qg_none, qg_inl, qg_inr, qg_ite, xr1, xr0, xrE, xri, xl0, xl1, xl2, xl3, xl4, xl5, xl6, xl7, xl8, xl9, xl10, xs0, xs1, xs2, xs3, xs4, xs5, xs6, xs7, xs8, xs9, xs10, xi0, xi1, xi2, xi3, xi4, xi5, xi6, xi7, xi8, xi9, xi10, xc0, xc1, xc2, xc3, xc4, xc5, xc6, xc7, xv1, xv2, xv3, xv4, xv5, xv6, xv7, dT_le, dF_le, dT_lt, dF_lt, dF_eq, hx, k33, h00, h02, a1, g02, ow, kR, kD, e9, e0, h]
theorem c_losesE {kd : Int → Nat × Int} {w : Nat × Nat × Nat} {m' : Int → Int → Int} {r most R : Int} : qa_ev P_X11_losesIn 1 [(1, 0), (0, r), (0, most), (1, R), (0, most + 1)] [] (m', kd, w) = some (.inl (some (0, -1)), (m', kd, w)) := by
  rw [ev_X11_losesIn_1]
  simp (disch := omega) [ev_X11_losesIn_0, ev_X11_losesIn_2, ev_X11_losesIn_3, B_X11_losesIn_0, B_X11_losesIn_1, B_X11_losesIn_2, B_X11_losesIn_3, x_const, x_iadd, x_isub, x_imul, x_idiv, x_irem, x_ineg, x_dup, x_dup_x1, x_dup2, x_pop, x_goto, x_ifeq, x_ifne, x_iflt, x_ifge, x_ifgt, x_ifle, x_cmpeq, x_cmpne, x_cmplt, x_cmpge, x_cmpgt, x_cmple, x_null, x_nonnull, x_acmpeq, x_acmpne, x_get, x_put, x_putz, x_ald, x_ast, x_bast, x_zast, x_aast, x_alen, x_obj, x_ret, x_retz, x_vret, x_max, x_min, x_copy, x_i2l, qg_none, qg_inl, qg_inr, qg_ite, xr1, xr0, xrE, xri, xl0, xl1, xl2, xl3, xl4, xl5, xl6, xl7, xl8, xl9, xl10, xs0, xs1, xs2, xs3, xs4, xs5, xs6, xs7, xs8, xs9, xs10, xi0, xi1, xi2, xi3, xi4, xi5, xi6, xi7, xi8, xi9, xi10, xc0, xc1, xc2, xc3, xc4, xc5, xc6, xc7, xv1, xv2, xv3, xv4, xv5, xv6, xv7, dT_le, dF_le, dT_lt, dF_lt]
theorem ca_losesIn {m : Int → Int → Int} {kd : Int → Nat × Int} {n c s : Nat} {um S : Int} {U SV : Int → zA} {A : zA} {M : Int} (hS : CS um U SV A m kd n S) (hW : zW M A) (ha : ∀ i, 0 ≤ i → i ≤ 10 → 0 ≤ m 65 i ∧ m 65 i < 100000000) {st : Int → Int} (hcr : CR st m kd 1 2) (hs : zS st) {r most : Int} (hr : zRl A r) (ht : 1 ≤ most ∧ most ≤ 200) (hM : M < 500000) (h0 : A.1 0 + 200 ≤ 1000000) : cTry um U SV A (vLoses A st r most) m kd n c s S (f_X11_losesIn [(1, 0), (0, r), (0, most)] (m, kd, n, c, s)) := by
  obtain ⟨hK, hC, hx, hn, h4, k64, h00, k1, x640, x65⟩ := hS.f
  have hS3 := hS.1
  have rg := c_needRange (m := m) (kd := kd) (w := (n, c, s)) most 1 200
  rw [if_pos ht] at rg
  have ne := c_needReader (w := (n, c, s)) hK hC hW hx hn r
  rw [if_pos hr] at ne
  obtain ⟨r1, r2, r3⟩ := id hr
  obtain ⟨m1, i1, i2, i3⟩ := c_trial (w := (n, c, s)) hS hW
  have k33 : KS kd 33 := hS.2.1.2.2.2.2.1
  have h02 : m 0 2 = 33 := hS.2.1.1.2.2.2.1
  have kS := hK.2.1
  have kS33 := k33.2.1
  have kr := hK.2.2.2.2.2.2.2.1 r r1 r2
  have kdd := hK.2.2.2.2.2.2.2.2.1 r r1 r2
  have g9 := hC.1.2.2.2.2.2.2.2.1 r r1 r2
  have d9 : m (S + 13 + 3 * r) 0 = A.2.2.1 r 9 := hC.2.2.2.2.2.2.1 r 0 r1 r2 r3 (by decide) (by decide)
  have zA1 : zd1 A r = A.2.2.1 r 9 := if_pos r3
  have loop : ∀ (q k : Nat) (m' : Int → Int → Int), (k : Int) + q = most → RC (zTicks st k A) m' kd 33 → zfr m m' 33 → ∃ m'', qa_ev P_X11_losesIn 1 [(1, 0), (0, r), (0, most), (1, S + 12 + 3 * r), (0, (k : Int) + 1)] [] (m', kd, n, c, s) = some (.inl (some (0, zff (fun n => zd1 (zTicks st n.toNat A) r ≠ zd1 A r) ((k : Int) + 1) q)), (m'', kd, n, c, s)) ∧ MS m'' 33 ∧ zfr m m'' 33 := by
    intro q
    induction q with
    | zero =>
      intro k m' h1 hC' hf
      have et : (k : Int) = most := by omega
      refine ⟨m', ?_, hC'.1, hf⟩
      rw [et]
      exact c_losesE
    | succ q ih =>
      intro k m' h1 hC' hf
      obtain ⟨w1, w2, w3⟩ := zW_ticks st hW k (by omega)
      have hcr' : CR st m' kd 1 2 := by
        obtain ⟨y1, y2, y3, y4⟩ := hcr
        exact ⟨y1, by rw [hf 1 (by omega)]; exact y2, y3, fun i q1 q2 => by rw [hf 2 (by omega)]; exact y4 i q1 q2⟩
      obtain ⟨m2, j1, j2, j3⟩ := c_tick (w := (n, c, s)) k33 hC' w1 hM (by rw [w3]; omega) hcr' hs ⟨Or.inl (by omega), Or.inl (by omega)⟩
      obtain ⟨v1, v2, v3⟩ := zW_ticks st hW (k + 1) (by omega)
      have j2' : RC (zTicks st (k + 1) A) m2 kd 33 := j2
      have hf2 := hf.trans j3
      have ow := c_owedTo (w := (n, c, s)) k33 j2' v1 (v2.rl.mpr hr)
      have h00' : m' 0 0 = 1 := by rw [hf 0 (by omega)]; exact h00
      have h02' : m' 0 2 = 33 := by rw [hf 0 (by omega)]; exact h02
      have g02 : m2 0 2 = 33 := by rw [hf2 0 (by omega)]; exact h02
      have s1 := c_losesS (R := S + 12 + 3 * r) (D := S + 13 + 3 * r) (d := A.2.2.1 r 9) hx kS33 h00' h02' j1 g02 ow kr kdd (by rw [hf2 _ (by omega)]; exact g9) (by rw [hf2 _ (by omega)]; exact d9) (most := most) (kk := (k : Int)) ⟨by omega, by omega⟩ ht.2
      have z1 : zd1 (zTicks st (k + 1) A) r = (zTicks st (k + 1) A).2.2.1 r 9 := if_pos (v2.rl.mpr hr).2.2
      have ek : ((k : Int) + 1).toNat = k + 1 := by omega
      by_cases he : (zTicks st (k + 1) A).2.2.1 r 9 = A.2.2.1 r 9
      · rw [if_pos he] at s1
        obtain ⟨m3, g1, g2, g3⟩ := ih (k + 1) m2 (by omega) j2' hf2
        refine ⟨m3, ?_, g2, g3⟩
        rw [s1]
        have e2 : ((k + 1 : Nat) : Int) = (k : Int) + 1 := by omega
        rw [e2] at g1
        rw [g1]
        simp only [zff]
        rw [if_neg]
        intro z
        rw [ek, z1, zA1] at z
        exact z he
      · rw [if_neg he] at s1
        refine ⟨m2, ?_, j2'.1, hf2⟩
        rw [s1]
        simp only [zff]
        rw [if_pos]
        rw [ek, z1, zA1]
        exact he
  obtain ⟨m2, j1, j2, j3⟩ := loop most.toNat 0 m1 (by omega) i2 i3
  obtain ⟨g1, g2, g3, g4⟩ := CS_try hS j3 j2
  simp only [Int.natCast_zero, Int.zero_add] at j1
  refine ⟨m2, kd, n, c, s, ?_, g1, g2, g3, by rw [g4]; omega, by rw [g4]; omega, Nat.le_refl _, Nat.le_refl _, Nat.le_refl _⟩
  unfold f_X11_losesIn
  refine qa_fn_eq ?_ (by simp)
  simp (disch := omega) [ev_X11_losesIn_0, ev_X11_losesIn_2, ev_X11_losesIn_3, B_X11_losesIn_0, B_X11_losesIn_1, B_X11_losesIn_2, B_X11_losesIn_3, x_const, x_iadd, x_isub, x_imul, x_idiv, x_irem, x_ineg, x_dup, x_dup_x1, x_dup2, x_pop, x_goto, x_ifeq, x_ifne, x_iflt, x_ifge, x_ifgt, x_ifle, x_cmpeq, x_cmpne, x_cmplt, x_cmpge, x_cmpgt, x_cmple, x_null, x_nonnull, x_acmpeq, x_acmpne, x_get, x_put, x_putz, x_ald, x_ast, x_bast, x_zast, x_aast, x_alen, x_obj, x_ret, x_retz, x_vret, x_max, x_min, x_copy, x_i2l, qg_none, qg_inl, qg_inr, qg_ite, xr1, xr0, xrE, xri, xl0, xl1, xl2, xl3, xl4, xl5, xl6, xl7, xl8, xl9, xl10, xs0, xs1, xs2, xs3, xs4, xs5, xs6, xs7, xs8, xs9, xs10, xi0, xi1, xi2, xi3, xi4, xi5, xi6, xi7, xi8, xi9, xi10, xc0, xc1, xc2, xc3, xc4, xc5, xc6, xc7, xv1, xv2, xv3, xv4, xv5, xv6, xv7, dT_le, dF_le, dT_lt, dF_lt, hx, hn, h02, kS, kS33, ne, rg, i1, j1, vLoses]
theorem ca_losesX1 {m : Int → Int → Int} {kd : Int → Nat × Int} {n c s : Nat} {um S : Int} {U SV : Int → zA} {A : zA} {M : Int} (hS : CS um U SV A m kd n S) (hW : zW M A) (ha : ∀ i, 0 ≤ i → i ≤ 10 → 0 ≤ m 65 i ∧ m 65 i < 100000000) {r most : Int} (hr : ¬ zRl A r) : f_X11_losesIn [(1, 0), (0, r), (0, most)] (m, kd, n, c, s) = some (.inr 1, (m, kd, n, c + 1, s + 6)) := by
  obtain ⟨hK, hC, hx, hn, -⟩ := hS.f
  have ne := c_needReader (w := (n, c, s)) hK hC hW hx hn r
  rw [if_neg hr] at ne
  unfold f_X11_losesIn
  refine qa_fn_eq ?_ (by simp)
  simp (disch := omega) [ev_X11_losesIn_0, ev_X11_losesIn_2, ev_X11_losesIn_3, B_X11_losesIn_0, B_X11_losesIn_1, B_X11_losesIn_2, B_X11_losesIn_3, x_const, x_iadd, x_isub, x_imul, x_idiv, x_irem, x_ineg, x_dup, x_dup_x1, x_dup2, x_pop, x_goto, x_ifeq, x_ifne, x_iflt, x_ifge, x_ifgt, x_ifle, x_cmpeq, x_cmpne, x_cmplt, x_cmpge, x_cmpgt, x_cmple, x_null, x_nonnull, x_acmpeq, x_acmpne, x_get, x_put, x_putz, x_ald, x_ast, x_bast, x_zast, x_aast, x_alen, x_obj, x_ret, x_retz, x_vret, x_max, x_min, x_copy, x_i2l, qg_none, qg_inl, qg_inr, qg_ite, xr1, xr0, xrE, xri, xl0, xl1, xl2, xl3, xl4, xl5, xl6, xl7, xl8, xl9, xl10, xs0, xs1, xs2, xs3, xs4, xs5, xs6, xs7, xs8, xs9, xs10, xi0, xi1, xi2, xi3, xi4, xi5, xi6, xi7, xi8, xi9, xi10, xc0, xc1, xc2, xc3, xc4, xc5, xc6, xc7, xv1, xv2, xv3, xv4, xv5, xv6, xv7, dT_le, dF_le, dT_lt, dF_lt, hx, ne]
theorem ca_losesX2 {m : Int → Int → Int} {kd : Int → Nat × Int} {n c s : Nat} {um S : Int} {U SV : Int → zA} {A : zA} {M : Int} (hS : CS um U SV A m kd n S) (hW : zW M A) (ha : ∀ i, 0 ≤ i → i ≤ 10 → 0 ≤ m 65 i ∧ m 65 i < 100000000) {r most : Int} (hr : zRl A r) (ht : ¬ (1 ≤ most ∧ most ≤ 200)) : f_X11_losesIn [(1, 0), (0, r), (0, most)] (m, kd, n, c, s) = some (.inr 2, (m, kd, n, c + 1, s + 6)) := by
  obtain ⟨hK, hC, hx, hn, -⟩ := hS.f
  have ne := c_needReader (w := (n, c, s)) hK hC hW hx hn r
  rw [if_pos hr] at ne
  have rg := c_needRange (m := m) (kd := kd) (w := (n, c, s)) most 1 200
  rw [if_neg ht] at rg
  unfold f_X11_losesIn
  refine qa_fn_eq ?_ (by simp)
  simp (disch := omega) [ev_X11_losesIn_0, ev_X11_losesIn_2, ev_X11_losesIn_3, B_X11_losesIn_0, B_X11_losesIn_1, B_X11_losesIn_2, B_X11_losesIn_3, x_const, x_iadd, x_isub, x_imul, x_idiv, x_irem, x_ineg, x_dup, x_dup_x1, x_dup2, x_pop, x_goto, x_ifeq, x_ifne, x_iflt, x_ifge, x_ifgt, x_ifle, x_cmpeq, x_cmpne, x_cmplt, x_cmpge, x_cmpgt, x_cmple, x_null, x_nonnull, x_acmpeq, x_acmpne, x_get, x_put, x_putz, x_ald, x_ast, x_bast, x_zast, x_aast, x_alen, x_obj, x_ret, x_retz, x_vret, x_max, x_min, x_copy, x_i2l, qg_none, qg_inl, qg_inr, qg_ite, xr1, xr0, xrE, xri, xl0, xl1, xl2, xl3, xl4, xl5, xl6, xl7, xl8, xl9, xl10, xs0, xs1, xs2, xs3, xs4, xs5, xs6, xs7, xs8, xs9, xs10, xi0, xi1, xi2, xi3, xi4, xi5, xi6, xi7, xi8, xi9, xi10, xc0, xc1, xc2, xc3, xc4, xc5, xc6, xc7, xv1, xv2, xv3, xv4, xv5, xv6, xv7, dT_le, dF_le, dT_lt, dF_lt, hx, ne, rg]
theorem m_losesS {kd : Int → Nat × Int} {w : Nat × Nat × Nat} {m' m3 : Int → Int → Int} {r most kk : Int} (k77 : kd 77 = (15, 0)) (k85 : kd 85 = (101, 6)) (r1 : 0 ≤ r) (r2 : r < 6) (t12 : m' 77 12 = 85) (e : m' 85 r = 0) (a1 : f_X12_ticks [(1, 77)] (m', kd, w) = some (.inl none, (m3, kd, w))) (h1 : 0 ≤ kk ∧ kk < most) (ht : most ≤ 200) : qa_ev P_X12_losesIn 5 [(1, 77), (0, r), (0, most), (0, kk)] [] (m', kd, w) = qa_ev P_X12_losesIn 5 [(1, 77), (0, r), (0, most), (0, kk + 1)] [] (m3, kd, w) := by
  rw [ev_X12_losesIn_5]
  simp (disch := omega) [ev_X12_losesIn_0, ev_X12_losesIn_1, ev_X12_losesIn_2, ev_X12_losesIn_3, ev_X12_losesIn_4, ev_X12_losesIn_7, ev_X12_losesIn_8, B_X12_losesIn_0, B_X12_losesIn_1, B_X12_losesIn_2, B_X12_losesIn_3, B_X12_losesIn_4, B_X12_losesIn_5, B_X12_losesIn_6, B_X12_losesIn_7, B_X12_losesIn_8, x_const, x_iadd, x_isub, x_imul, x_idiv, x_irem, x_ineg, x_dup, x_dup_x1, x_dup2, x_pop, x_goto, x_ifeq, x_ifne, x_iflt, x_ifge, x_ifgt, x_ifle, x_cmpeq, x_cmpne, x_cmplt, x_cmpge, x_cmpgt, x_cmple, x_null, x_nonnull, x_acmpeq, x_acmpne, x_get, x_put, x_putz, x_ald, x_ast, x_bast, x_zast, x_aast, x_alen, x_obj, x_ret, x_retz, x_vret, x_max, x_min, x_copy, x_i2l, qg_none, qg_inl, qg_inr, qg_ite, xr1, xr0, xrE, xri, xl0, xl1, xl2, xl3, xl4, xl5, xl6, xl7, xl8, xl9, xl10, xs0, xs1, xs2, xs3, xs4, xs5, xs6, xs7, xs8, xs9, xs10, xi0, xi1, xi2, xi3, xi4, xi5, xi6, xi7, xi8, xi9, xi10, xc0, xc1, xc2, xc3, xc4, xc5, xc6, xc7, xv1, xv2, xv3, xv4, xv5, xv6, xv7, dT_le, dF_le, dT_lt, dF_lt, k77, k85, t12, e, a1]
theorem m_losesE {kd : Int → Nat × Int} {w : Nat × Nat × Nat} {m' : Int → Int → Int} {r most kk v : Int} (k77 : kd 77 = (15, 0)) (k85 : kd 85 = (101, 6)) (r1 : 0 ≤ r) (r2 : r < 6) (t12 : m' 77 12 = 85) (e : m' 85 r = v) (h : most ≤ kk ∨ v ≠ 0) : qa_ev P_X12_losesIn 5 [(1, 77), (0, r), (0, most), (0, kk)] [] (m', kd, w) = qa_ev P_X12_losesIn 6 [(1, 77), (0, r), (0, most), (0, kk)] [] (m', kd, w) := by
  rw [ev_X12_losesIn_5]
  by_cases h1 : most ≤ kk
  · simp (disch := omega) [ev_X12_losesIn_0, ev_X12_losesIn_1, ev_X12_losesIn_2, ev_X12_losesIn_3, ev_X12_losesIn_4, ev_X12_losesIn_7, ev_X12_losesIn_8, B_X12_losesIn_0, B_X12_losesIn_1, B_X12_losesIn_2, B_X12_losesIn_3, B_X12_losesIn_4, B_X12_losesIn_5, B_X12_losesIn_6, B_X12_losesIn_7, B_X12_losesIn_8, x_const, x_iadd, x_isub, x_imul, x_idiv, x_irem, x_ineg, x_dup, x_dup_x1, x_dup2, x_pop, x_goto, x_ifeq, x_ifne, x_iflt, x_ifge, x_ifgt, x_ifle, x_cmpeq, x_cmpne, x_cmplt, x_cmpge, x_cmpgt, x_cmple, x_null, x_nonnull, x_acmpeq, x_acmpne, x_get, x_put, x_putz, x_ald, x_ast, x_bast, x_zast, x_aast, x_alen, x_obj, x_ret, x_retz, x_vret, x_max, x_min, x_copy, x_i2l, qg_none, qg_inl, qg_inr, qg_ite, xr1, xr0, xrE, xri, xl0, xl1, xl2, xl3, xl4, xl5, xl6, xl7, xl8, xl9, xl10, xs0, xs1, xs2, xs3, xs4, xs5, xs6, xs7, xs8, xs9, xs10, xi0, xi1, xi2, xi3, xi4, xi5, xi6, xi7, xi8, xi9, xi10, xc0, xc1, xc2, xc3, xc4, xc5, xc6, xc7, xv1, xv2, xv3, xv4, xv5, xv6, xv7, dT_le, dF_le, dT_lt, dF_lt, h1]
  · have h2 : ¬ v = 0 := by omega
    simp (disch := omega) [ev_X12_losesIn_0, ev_X12_losesIn_1, ev_X12_losesIn_2, ev_X12_losesIn_3, ev_X12_losesIn_4, ev_X12_losesIn_7, ev_X12_losesIn_8, B_X12_losesIn_0, B_X12_losesIn_1, B_X12_losesIn_2, B_X12_losesIn_3, B_X12_losesIn_4, B_X12_losesIn_5, B_X12_losesIn_6, B_X12_losesIn_7, B_X12_losesIn_8, x_const, x_iadd, x_isub, x_imul, x_idiv, x_irem, x_ineg, x_dup, x_dup_x1, x_dup2, x_pop, x_goto, x_ifeq, x_ifne, x_iflt, x_ifge, x_ifgt, x_ifle, x_cmpeq, x_cmpne, x_cmplt, x_cmpge, x_cmpgt, x_cmple, x_null, x_nonnull, x_acmpeq, x_acmpne, x_get, x_put, x_putz, x_ald, x_ast, x_bast, x_zast, x_aast, x_alen, x_obj, x_ret, x_retz, x_vret, x_max, x_min, x_copy, x_i2l, qg_none, qg_inl, qg_inr, qg_ite, xr1, xr0, xrE, xri, xl0, xl1, xl2, xl3, xl4, xl5, xl6, xl7, xl8, xl9, xl10, xs0, xs1, xs2, xs3, xs4, xs5, xs6, xs7, xs8, xs9, xs10, xi0, xi1, xi2, xi3, xi4, xi5, xi6, xi7, xi8, xi9, xi10, xc0, xc1, xc2, xc3, xc4, xc5, xc6, xc7, xv1, xv2, xv3, xv4, xv5, xv6, xv7, dT_le, dF_le, dT_lt, dF_lt, dF_eq, k77, k85, t12, e, h2]
theorem m_losesF {kd : Int → Nat × Int} {w : Nat × Nat × Nat} {m' m4 : Int → Int → Int} {r most kk v : Int} (k77 : kd 77 = (15, 0)) (k85 : kd 85 = (101, 6)) (r1 : 0 ≤ r) (r2 : r < 6) (t2 : m' 77 2 = 79) (t3 : m' 77 3 = 80) (cp : f_X12_copies [(1, 80), (0, 0), (1, 79), (0, 0)] (m', kd, w) = some (.inl none, (m4, kd, w))) (t12 : m4 77 12 = 85) (e : m4 85 r = v) : qa_ev P_X12_losesIn 6 [(1, 77), (0, r), (0, most), (0, kk)] [] (m', kd, w) = some (.inl (some (0, if 0 < v then kk else -1)), (m4, kd, w)) := by
  by_cases h : 0 < v
  · simp (disch := omega) [ev_X12_losesIn_0, ev_X12_losesIn_1, ev_X12_losesIn_2, ev_X12_losesIn_3, ev_X12_losesIn_4, ev_X12_losesIn_6, ev_X12_losesIn_7, ev_X12_losesIn_8, B_X12_losesIn_0, B_X12_losesIn_1, B_X12_losesIn_2, B_X12_losesIn_3, B_X12_losesIn_4, B_X12_losesIn_5, B_X12_losesIn_6, B_X12_losesIn_7, B_X12_losesIn_8, x_const, x_iadd, x_isub, x_imul, x_idiv, x_irem, x_ineg, x_dup, x_dup_x1, x_dup2, x_pop, x_goto, x_ifeq, x_ifne, x_iflt, x_ifge, x_ifgt, x_ifle, x_cmpeq, x_cmpne, x_cmplt, x_cmpge, x_cmpgt, x_cmple, x_null, x_nonnull, x_acmpeq, x_acmpne, x_get, x_put, x_putz, x_ald, x_ast, x_bast, x_zast, x_aast, x_alen, x_obj, x_ret, x_retz, x_vret, x_max, x_min, x_copy, x_i2l, qg_none, qg_inl, qg_inr, qg_ite, xr1, xr0, xrE, xri, xl0, xl1, xl2, xl3, xl4, xl5, xl6, xl7, xl8, xl9, xl10, xs0, xs1, xs2, xs3, xs4, xs5, xs6, xs7, xs8, xs9, xs10, xi0, xi1, xi2, xi3, xi4, xi5, xi6, xi7, xi8, xi9, xi10, xc0, xc1, xc2, xc3, xc4, xc5, xc6, xc7, xv1, xv2, xv3, xv4, xv5, xv6, xv7, dT_le, dF_le, dT_lt, dF_lt, k77, k85, t2, t3, cp, t12, e, h]
  · simp (disch := omega) [ev_X12_losesIn_0, ev_X12_losesIn_1, ev_X12_losesIn_2, ev_X12_losesIn_3, ev_X12_losesIn_4, ev_X12_losesIn_6, ev_X12_losesIn_7, ev_X12_losesIn_8, B_X12_losesIn_0, B_X12_losesIn_1, B_X12_losesIn_2, B_X12_losesIn_3, B_X12_losesIn_4, B_X12_losesIn_5, B_X12_losesIn_6, B_X12_losesIn_7, B_X12_losesIn_8, x_const, x_iadd, x_isub, x_imul, x_idiv, x_irem, x_ineg, x_dup, x_dup_x1, x_dup2, x_pop, x_goto, x_ifeq, x_ifne, x_iflt, x_ifge, x_ifgt, x_ifle, x_cmpeq, x_cmpne, x_cmplt, x_cmpge, x_cmpgt, x_cmple, x_null, x_nonnull, x_acmpeq, x_acmpne, x_get, x_put, x_putz, x_ald, x_ast, x_bast, x_zast, x_aast, x_alen, x_obj, x_ret, x_retz, x_vret, x_max, x_min, x_copy, x_i2l, qg_none, qg_inl, qg_inr, qg_ite, xr1, xr0, xrE, xri, xl0, xl1, xl2, xl3, xl4, xl5, xl6, xl7, xl8, xl9, xl10, xs0, xs1, xs2, xs3, xs4, xs5, xs6, xs7, xs8, xs9, xs10, xi0, xi1, xi2, xi3, xi4, xi5, xi6, xi7, xi8, xi9, xi10, xc0, xc1, xc2, xc3, xc4, xc5, xc6, xc7, xv1, xv2, xv3, xv4, xv5, xv6, xv7, dT_le, dF_le, dT_lt, dF_lt, k77, k85, t2, t3, cp, t12, e, h]
theorem ma_losesIn {m : Int → Int → Int} {kd : Int → Nat × Int} {w : Nat × Nat × Nat} {A : zA} (hK : KM kd) (hR : RM m) (hQ : QR A (m 79)) {M : Int} (hW : zW M A) {um : Int} {U : Int → zA} (hU : MU um U m) (hUW : ∀ k, 0 ≤ k → k < um → zW M (U k)) (ha : ∀ i, 0 ≤ i → i ≤ 10 → 0 ≤ m 84 i ∧ m 84 i < 100000000) {st : Int → Int} (hS : QS st m) (hs : zS st) {r most : Int} (hr : zRl A r) (ht : 1 ≤ most ∧ most ≤ 200) (h0 : A.1 0 + 200 ≤ 1000000) : mTry um U A (vLoses A st r most) m kd w (f_X12_losesIn [(1, 77), (0, r), (0, most)] (m, kd, w)) := by
  have ni := m_isReader (w := w) hK hR hQ r
  rw [if_pos hr] at ni
  have rg2 := m_in (m := m) (kd := kd) (w := w) most 1 200
  rw [if_pos ht] at rg2
  obtain ⟨r1, r2, r3⟩ := id hr
  obtain ⟨m1, m2, i1, i2, hR1, hR2, hQ2, i4, i80, ⟨j9, j10, j11, j85⟩, io, ip, i0⟩ := m_tryIn (w := w) hK hR hQ
  have k77 := hK.1
  have k79 := hK.2.2.1
  have k85 := hK.2.2.2.2.2.2.2.2.1
  have hS2 : QS st m2 := fun i q1 q2 => by
    rw [io 78 (by decide) (by decide) (by decide) (by decide)]
    exact hS i q1 q2
  have hz2 := zcb_0 j9 j10 j11 j85
  have loop : ∀ (q k : Nat) (m' : Int → Int → Int), (k : Int) + q = most → QR (zTicks st k A) (m' 79) → zfm m2 m' → zcn m2 A m' (zTicks st k A) → zd1 (zTicks st k A) r = zd1 A r → ∃ (m'' : Int → Int → Int) (j : Nat), qa_ev P_X12_losesIn 5 [(1, 77), (0, r), (0, most), (0, k)] [] (m', kd, w) = qa_ev P_X12_losesIn 6 [(1, 77), (0, r), (0, most), (0, j)] [] (m'', kd, w) ∧ (j : Int) ≤ most ∧ QR (zTicks st j A) (m'' 79) ∧ zfm m2 m'' ∧ zcn m2 A m'' (zTicks st j A) ∧ (if 0 < zd1 (zTicks st j A) r - zd1 A r then (j : Int) else -1) = zff (fun n => zd1 (zTicks st n.toNat A) r ≠ zd1 A r) ((k : Int) + 1) q := by
    intro q
    induction q with
    | zero =>
      intro k m' h1 hQ' hf hn hz
      have hR' := zfm_RM hf hR2
      refine ⟨m', k, m_losesE (v := m' 85 r) k77 k85 r1 r2 hR'.2.2.2.2.2.2.2.1 rfl (Or.inl (by omega)), by omega, hQ', hf, hn, ?_⟩
      rw [if_neg (by omega)]
      rfl
    | succ q ih =>
      intro k m' h1 hQ' hf hn hz
      obtain ⟨w1, w2, w3⟩ := zW_ticks st hW k (by omega)
      have hR' := zfm_RM hf hR2
      have hX' : zcb m' 60000000 := zcb_mono (zcb_lt hz2 hn hW w1 (zlt_ticks st hW k (by omega)) ⟨by omega, by omega⟩) (by omega)
      obtain ⟨m3, a1, a2, a3, a4⟩ := m_ticks (w := w) hK hR' hQ' w1 (by rw [w3]; omega) (hS2.fm hf) hs hX'
      have e0 : m' 85 r = 0 := by have := hn.2.2.2 r r1 r2; rw [j85 r r1 r2] at this; omega
      have s1 := m_losesS (most := most) (kk := (k : Int)) k77 k85 r1 r2 hR'.2.2.2.2.2.2.2.1 e0 a1 ⟨by omega, by omega⟩ ht.2
      have a2' : QR (zTicks st (k + 1) A) (m3 79) := a2
      have n3 : zcn m2 A m3 (zTicks st (k + 1) A) := hn.trans a4
      have f3 := hf.trans a3
      have ek : ((k : Int) + 1).toNat = k + 1 := by omega
      have ec : ((k + 1 : Nat) : Int) = (k : Int) + 1 := by omega
      by_cases he : zd1 (zTicks st (k + 1) A) r = zd1 A r
      · obtain ⟨m4, j, g1, g2, g3, g4, g5, g6⟩ := ih (k + 1) m3 (by omega) a2' f3 n3 he
        rw [ec] at g1 g6
        refine ⟨m4, j, s1.trans g1, g2, g3, g4, g5, ?_⟩
        rw [g6]
        simp only [zff]
        rw [if_neg]
        intro z
        rw [ek] at z
        exact z he
      · have hR3 := zfm_RM f3 hR2
        have hl := (zlt_ticks st hW (k + 1) (by omega)).2.2.1 r r1 r2
        have e3 : m3 85 r = zd1 (zTicks st (k + 1) A) r - zd1 A r := by have := n3.2.2.2 r r1 r2; rw [j85 r r1 r2] at this; omega
        have s2 := m_losesE (w := w) (most := most) (kk := (k : Int) + 1) k77 k85 r1 r2 hR3.2.2.2.2.2.2.2.1 e3 (Or.inr (by omega))
        refine ⟨m3, k + 1, ?_, by omega, a2', f3, n3, ?_⟩
        · rw [ec]; exact s1.trans s2
        · rw [if_pos (by omega)]
          simp only [zff]
          rw [if_pos (by rw [ek]; exact he)]
          omega
  obtain ⟨m3, j, a1, a0, a2, a3, a4, a5⟩ := loop most.toNat 0 m2 (by omega) hQ2 (zfm.refl _) (zcn.refl _ _) rfl
  obtain ⟨w1, w2, w3⟩ := zW_ticks st hW j (by omega)
  have hX3 : zcb m3 13000 := zcb_mono (zcb_lt hz2 a4 hW w1 (zlt_ticks st hW j (by omega)) ⟨by omega, by omega⟩) (by omega)
  obtain ⟨m4, o1, o2, o3, o4, o5, o6, o7, o8, o9, o10, o11⟩ := m_tryOut (w := w) hK hR hQ hW hU i80 io ip i0 a3 hX3
  have hR3 := zfm_RM a3 hR2
  have e3 : m4 85 r = zd1 (zTicks st j A) r - zd1 A r := by rw [o3]; have := a4.2.2.2 r r1 r2; rw [j85 r r1 r2] at this; omega
  have F := m_losesF (most := most) (kk := (j : Int)) k77 k85 r1 r2 hR3.2.1 hR3.2.2.1 o1 (by rw [o2]; exact hR3.2.2.2.2.2.2.2.1) e3
  rw [a5] at F
  simp only [Int.natCast_zero, Int.zero_add] at a1 F
  rw [F] at a1
  have t2 : m 77 2 = 79 := hR.2.1
  have t3 : m 77 3 = 80 := hR.2.2.1
  refine ⟨m4, ?_, o4, o5, o6, o7, o8, o9, o10, o11⟩
  unfold f_X12_losesIn
  refine qa_fn_eq ?_ (by simp)
  simp (disch := omega) [ev_X12_losesIn_0, ev_X12_losesIn_1, ev_X12_losesIn_2, ev_X12_losesIn_3, ev_X12_losesIn_4, ev_X12_losesIn_6, ev_X12_losesIn_7, ev_X12_losesIn_8, B_X12_losesIn_0, B_X12_losesIn_1, B_X12_losesIn_2, B_X12_losesIn_3, B_X12_losesIn_4, B_X12_losesIn_5, B_X12_losesIn_6, B_X12_losesIn_7, B_X12_losesIn_8, x_const, x_iadd, x_isub, x_imul, x_idiv, x_irem, x_ineg, x_dup, x_dup_x1, x_dup2, x_pop, x_goto, x_ifeq, x_ifne, x_iflt, x_ifge, x_ifgt, x_ifle, x_cmpeq, x_cmpne, x_cmplt, x_cmpge, x_cmpgt, x_cmple, x_null, x_nonnull, x_acmpeq, x_acmpne, x_get, x_put, x_putz, x_ald, x_ast, x_bast, x_zast, x_aast, x_alen, x_obj, x_ret, x_retz, x_vret, x_max, x_min, x_copy, x_i2l, qg_none, qg_inl, qg_inr, qg_ite, xr1, xr0, xrE, xri, xl0, xl1, xl2, xl3, xl4, xl5, xl6, xl7, xl8, xl9, xl10, xs0, xs1, xs2, xs3, xs4, xs5, xs6, xs7, xs8, xs9, xs10, xi0, xi1, xi2, xi3, xi4, xi5, xi6, xi7, xi8, xi9, xi10, xc0, xc1, xc2, xc3, xc4, xc5, xc6, xc7, xv1, xv2, xv3, xv4, xv5, xv6, xv7, dT_le, dF_le, dT_lt, dF_lt, dT_eq, dF_eq, qa_up_hit, qa_up_no, k77, k79, ni, rg2, t2, t3, i1, i2, a1, vLoses]
theorem ma_losesX1 {m : Int → Int → Int} {kd : Int → Nat × Int} {w : Nat × Nat × Nat} {A : zA} (hK : KM kd) (hR : RM m) (hQ : QR A (m 79)) {r most : Int} (hr : ¬ zRl A r) : f_X12_losesIn [(1, 77), (0, r), (0, most)] (m, kd, w) = mAns (1, 0) m kd w := by
  have ni := m_isReader (w := w) hK hR hQ r
  rw [if_neg hr] at ni
  have k77 := hK.1
  rw [mAns_e]
  unfold f_X12_losesIn
  refine qa_fn_eq ?_ (by simp)
  simp (disch := omega) [ev_X12_losesIn_0, ev_X12_losesIn_1, ev_X12_losesIn_2, ev_X12_losesIn_3, ev_X12_losesIn_4, ev_X12_losesIn_6, ev_X12_losesIn_7, ev_X12_losesIn_8, B_X12_losesIn_0, B_X12_losesIn_1, B_X12_losesIn_2, B_X12_losesIn_3, B_X12_losesIn_4, B_X12_losesIn_5, B_X12_losesIn_6, B_X12_losesIn_7, B_X12_losesIn_8, x_const, x_iadd, x_isub, x_imul, x_idiv, x_irem, x_ineg, x_dup, x_dup_x1, x_dup2, x_pop, x_goto, x_ifeq, x_ifne, x_iflt, x_ifge, x_ifgt, x_ifle, x_cmpeq, x_cmpne, x_cmplt, x_cmpge, x_cmpgt, x_cmple, x_null, x_nonnull, x_acmpeq, x_acmpne, x_get, x_put, x_putz, x_ald, x_ast, x_bast, x_zast, x_aast, x_alen, x_obj, x_ret, x_retz, x_vret, x_max, x_min, x_copy, x_i2l, qg_none, qg_inl, qg_inr, qg_ite, xr1, xr0, xrE, xri, xl0, xl1, xl2, xl3, xl4, xl5, xl6, xl7, xl8, xl9, xl10, xs0, xs1, xs2, xs3, xs4, xs5, xs6, xs7, xs8, xs9, xs10, xi0, xi1, xi2, xi3, xi4, xi5, xi6, xi7, xi8, xi9, xi10, xc0, xc1, xc2, xc3, xc4, xc5, xc6, xc7, xv1, xv2, xv3, xv4, xv5, xv6, xv7, dT_le, dF_le, dT_lt, dF_lt, dT_eq, dF_eq, qa_up_hit, qa_up_no, k77, ni]
theorem ma_losesX2 {m : Int → Int → Int} {kd : Int → Nat × Int} {w : Nat × Nat × Nat} {A : zA} (hK : KM kd) (hR : RM m) (hQ : QR A (m 79)) {r most : Int} (hr : zRl A r) (ht : ¬ (1 ≤ most ∧ most ≤ 200)) : f_X12_losesIn [(1, 77), (0, r), (0, most)] (m, kd, w) = mAns (2, 0) m kd w := by
  have ni := m_isReader (w := w) hK hR hQ r
  rw [if_pos hr] at ni
  have rg2 := m_in (m := m) (kd := kd) (w := w) most 1 200
  rw [if_neg ht] at rg2
  have k77 := hK.1
  rw [mAns_e]
  unfold f_X12_losesIn
  refine qa_fn_eq ?_ (by simp)
  simp (disch := omega) [ev_X12_losesIn_0, ev_X12_losesIn_1, ev_X12_losesIn_2, ev_X12_losesIn_3, ev_X12_losesIn_4, ev_X12_losesIn_6, ev_X12_losesIn_7, ev_X12_losesIn_8, B_X12_losesIn_0, B_X12_losesIn_1, B_X12_losesIn_2, B_X12_losesIn_3, B_X12_losesIn_4, B_X12_losesIn_5, B_X12_losesIn_6, B_X12_losesIn_7, B_X12_losesIn_8, x_const, x_iadd, x_isub, x_imul, x_idiv, x_irem, x_ineg, x_dup, x_dup_x1, x_dup2, x_pop, x_goto, x_ifeq, x_ifne, x_iflt, x_ifge, x_ifgt, x_ifle, x_cmpeq, x_cmpne, x_cmplt, x_cmpge, x_cmpgt, x_cmple, x_null, x_nonnull, x_acmpeq, x_acmpne, x_get, x_put, x_putz, x_ald, x_ast, x_bast, x_zast, x_aast, x_alen, x_obj, x_ret, x_retz, x_vret, x_max, x_min, x_copy, x_i2l, qg_none, qg_inl, qg_inr, qg_ite, xr1, xr0, xrE, xri, xl0, xl1, xl2, xl3, xl4, xl5, xl6, xl7, xl8, xl9, xl10, xs0, xs1, xs2, xs3, xs4, xs5, xs6, xs7, xs8, xs9, xs10, xi0, xi1, xi2, xi3, xi4, xi5, xi6, xi7, xi8, xi9, xi10, xc0, xc1, xc2, xc3, xc4, xc5, xc6, xc7, xv1, xv2, xv3, xv4, xv5, xv6, xv7, dT_le, dF_le, dT_lt, dF_lt, dT_eq, dF_eq, qa_up_hit, qa_up_no, k77, ni, rg2]
