def zRg (A : zA) (r k : Int) : zA := (A.1, A.2.1, fun r' j => if r' = r then (if j = 2 then A.2.2.1 r 2 + k else if j = 7 then A.2.2.1 r 7 + k else if j = 8 then A.2.2.1 r 8 + zHas A r else if 9 ≤ j then zSeat 0 0 0 j else A.2.2.1 r j) else A.2.2.1 r' j, A.2.2.2)
theorem zRg_r (A : zA) (r k j : Int) : (zRg A r k).2.2.1 r j = if j = 2 then A.2.2.1 r 2 + k else if j = 7 then A.2.2.1 r 7 + k else if j = 8 then A.2.2.1 r 8 + zHas A r else if 9 ≤ j then zSeat 0 0 0 j else A.2.2.1 r j := if_pos rfl
theorem zRg_o (A : zA) {r k r' : Int} (j : Int) (h : r' ≠ r) : (zRg A r k).2.2.1 r' j = A.2.2.1 r' j := if_neg h
theorem zRg_hi (A : zA) {r k j : Int} (h : 9 ≤ j) : (zRg A r k).2.2.1 r j = zSeat 0 0 0 j := by
  rw [zRg_r]
  simp (disch := omega) only [if_neg, if_pos]
theorem zRg_2 (A : zA) (r k : Int) : (zRg A r k).2.2.1 r 2 = A.2.2.1 r 2 + k := by rw [zRg_r]; rfl
theorem zRg_7 (A : zA) (r k : Int) : (zRg A r k).2.2.1 r 7 = A.2.2.1 r 7 + k := by rw [zRg_r]; rfl
theorem zRg_lo (A : zA) {r k j : Int} (h2 : j ≠ 2) (h : j < 7) : (zRg A r k).2.2.1 r j = A.2.2.1 r j := by
  rw [zRg_r]
  simp (disch := omega) only [if_neg]
theorem zW_rg {M : Int} {A : zA} (hW : zW M A) (hM : M + 100 ≤ 500000) {r k : Int} (hr : zRl A r) (hk : 0 ≤ k ∧ k ≤ 99 ∧ A.2.2.1 r 2 + k ≤ A.2.1 (A.2.2.1 r 1) 5) : zW (M + 100) (zRg A r k) := by
  have hh := zHas_01 A r
  obtain ⟨⟨w0, w1, w2, w3, w4, w5⟩, w6, w7, w8, w9, wB, wE, wR, wD⟩ := id hW
  have hwr := wR r hr.1 hr.2.1 hr.2.2
  unfold zWr at hwr
  obtain ⟨q1, q2, q3, q4, q5, q6, q7, q8, q9, q10, q11, q12, q13, q14, q15⟩ := hwr
  have e0 : (zRg A r k).2.2.1 r 0 = A.2.2.1 r 0 := zRg_lo A (by decide) (by decide)
  have e1 : (zRg A r k).2.2.1 r 1 = A.2.2.1 r 1 := zRg_lo A (by decide) (by decide)
  have e2 : (zRg A r k).2.2.1 r 2 = A.2.2.1 r 2 + k := zRg_2 A r k
  have e3 : (zRg A r k).2.2.1 r 3 = A.2.2.1 r 3 := zRg_lo A (by decide) (by decide)
  have e4 : (zRg A r k).2.2.1 r 4 = A.2.2.1 r 4 := zRg_lo A (by decide) (by decide)
  have e5 : (zRg A r k).2.2.1 r 5 = A.2.2.1 r 5 := zRg_lo A (by decide) (by decide)
  have e6 : (zRg A r k).2.2.1 r 6 = A.2.2.1 r 6 := zRg_lo A (by decide) (by decide)
  have e7 : (zRg A r k).2.2.1 r 7 = A.2.2.1 r 7 + k := zRg_7 A r k
  have e8 : (zRg A r k).2.2.1 r 8 = A.2.2.1 r 8 + zHas A r := by rw [zRg_r]; rfl
  refine zW_rd hW ⟨by omega, hM⟩ (k := r) (R' := (zRg A r k).2.2.1) (fun r' j h => zRg_o A j h) (Or.inr (by rw [e0]; exact hr.2.2)) (fun _ => ⟨?_, ?_⟩)
  · unfold zWr
    show zBl A ((zRg A r k).2.2.1 r 1) ∧ A.2.1 ((zRg A r k).2.2.1 r 1) 4 ≤ (zRg A r k).2.2.1 r 2 ∧ (zRg A r k).2.2.1 r 2 ≤ A.2.1 ((zRg A r k).2.2.1 r 1) 5 ∧ 0 ≤ (zRg A r k).2.2.1 r 3 ∧ (zRg A r k).2.2.1 r 3 ≤ A.1 0 ∧ -1 ≤ (zRg A r k).2.2.1 r 4 ∧ (zRg A r k).2.2.1 r 4 ≤ A.1 0 + 60 ∧ 0 ≤ (zRg A r k).2.2.1 r 5 ∧ (zRg A r k).2.2.1 r 5 ≤ M + 100 ∧ 0 ≤ (zRg A r k).2.2.1 r 6 ∧ (zRg A r k).2.2.1 r 6 ≤ A.1 0 ∧ 0 ≤ (zRg A r k).2.2.1 r 7 ∧ (zRg A r k).2.2.1 r 7 ≤ M + 100 ∧ 0 ≤ (zRg A r k).2.2.1 r 8 ∧ (zRg A r k).2.2.1 r 8 ≤ M + 100
    rw [e1, e2, e3, e4, e5, e6, e7, e8]
    exact ⟨q1, by omega, by omega, q4, q5, q6, q7, q8, by omega, q10, q11, by omega, by omega, by omega, by omega⟩
  · have dg : 0 ≤ zgs A := hW.gs.1
    unfold zWd
    show 0 ≤ (zRg A r k).2.2.1 r 9 ∧ (zRg A r k).2.2.1 r 9 ≤ zgs A ∧ _
    rw [zRg_hi A (j := 9) (by decide), zRg_hi A (j := 10) (by decide), zRg_hi A (j := 11) (by decide), zRg_hi A (j := 12) (by decide), zRg_hi A (j := 13) (by decide), zRg_hi A (j := 14) (by decide), zRg_hi A (j := 15) (by decide)]
    refine ⟨by simp [zSeat], by simp [zSeat]; exact dg, by simp [zSeat], by simp [zSeat], by simp [zSeat], by simp [zSeat], fun _ => ⟨by simp [zSeat], by simp [zSeat], by simp [zSeat], by simp [zSeat], by simp [zSeat], by simp [zSeat], fun k k1 k2 => ?_⟩⟩
    rw [zRg_hi A (by omega)]
    unfold zSeat
    simp (disch := omega) only [if_neg]
theorem m_rdS {kd : Int → Nat × Int} {w : Nat × Nat × Nat} {m' m2 : Int → Int → Int} {r it b pl en q v7 x : Int} (k77 : kd 77 = (15, 0)) (k79 : kd 79 = (101, 14622)) (r1 : 0 ≤ r) (r2 : r < 6) (t2 : m' 77 2 = 79) (t14 : m' 77 14 = q) (hq : q < it) (ep : m' 79 (34 + 26 * r + 2) = pl) (eb : m' 79 (34 + 26 * r + 1) = b) (eo : f_X12_endOf [(1, 77), (0, b)] (m', kd, w) = some (.inl (some (0, en)), (m', kd, w))) (hp : pl < en) (bp : 0 ≤ pl ∧ en ≤ 512) (de : f_X12_deliversEntry [(1, 77), (0, r)] (m', kd, w) = some (.inl none, (m2, kd, w))) (u2 : m2 77 2 = 79) (p2 : m2 79 (34 + 26 * r + 2) = pl) (p7 : m2 79 (34 + 26 * r + 7) = v7) (b7 : 0 ≤ v7 ∧ v7 ≤ 1000000) : qa_ev P_X12_reads 4 [(1, 77), (0, r), (0, it), (0, 34 + 26 * r), (0, x)] [] (m', kd, w) = qa_ev P_X12_reads 4 [(1, 77), (0, r), (0, it), (0, 34 + 26 * r), (0, x)] [] (qa_up (qa_up m2 79 (34 + 26 * r + 2) (pl + 1)) 79 (34 + 26 * r + 7) (v7 + 1), kd, w) := by
  rw [ev_X12_reads_4]
  simp (disch := omega) [ev_X12_reads_0, ev_X12_reads_1, ev_X12_reads_2, ev_X12_reads_3, ev_X12_reads_5, ev_X12_reads_6, ev_X12_reads_7, ev_X12_reads_8, B_X12_reads_0, B_X12_reads_1, B_X12_reads_2, B_X12_reads_3, B_X12_reads_4, B_X12_reads_5, B_X12_reads_6, B_X12_reads_7, B_X12_reads_8, x_const, x_iadd, x_isub, x_imul, x_idiv, x_irem, x_ineg, x_dup, x_dup_x1, x_dup2, x_pop, x_goto, x_ifeq, x_ifne, x_iflt, x_ifge, x_ifgt, x_ifle, x_cmpeq, x_cmpne, x_cmplt, x_cmpge, x_cmpgt, x_cmple, x_null, x_nonnull, x_acmpeq, x_acmpne, x_get, x_put, x_putz, x_ald, x_ast, x_bast, x_zast, x_aast, x_alen, x_obj, x_ret, x_retz, x_vret, x_max, x_min, x_copy, x_i2l, qg_none, qg_inl, qg_inr, qg_ite, xr1, xr0, xrE, xri, xl0, xl1, xl2, xl3, xl4, xl5, xl6, xl7, xl8, xl9, xl10, xs0, xs1, xs2, xs3, xs4, xs5, xs6, xs7, xs8, xs9, xs10, xi0, xi1, xi2, xi3, xi4, xi5, xi6, xi7, xi8, xi9, xi10, xc0, xc1, xc2, xc3, xc4, xc5, xc6, xc7, xv1, xv2, xv3, xv4, xv5, xv6, xv7, dT_le, dF_le, dT_lt, dF_lt, dT_eq, dF_eq, qa_up_hit, qa_up_no, k77, k79, t2, t14, ep, eb, eo, de, u2, p2, p7]
theorem m_rdE {kd : Int → Nat × Int} {w : Nat × Nat × Nat} {m' : Int → Int → Int} {r it b pl en q x : Int} (k77 : kd 77 = (15, 0)) (k79 : kd 79 = (101, 14622)) (r1 : 0 ≤ r) (r2 : r < 6) (t2 : m' 77 2 = 79) (t14 : m' 77 14 = q) (ep : m' 79 (34 + 26 * r + 2) = pl) (eb : m' 79 (34 + 26 * r + 1) = b) (eo : f_X12_endOf [(1, 77), (0, b)] (m', kd, w) = some (.inl (some (0, en)), (m', kd, w))) (hp : it ≤ q ∨ en ≤ pl) : qa_ev P_X12_reads 4 [(1, 77), (0, r), (0, it), (0, 34 + 26 * r), (0, x)] [] (m', kd, w) = qa_ev P_X12_reads 6 [(1, 77), (0, r), (0, it), (0, 34 + 26 * r), (0, x)] [] (m', kd, w) := by
  rw [ev_X12_reads_4]
  by_cases h : it ≤ q
  · simp (disch := omega) [ev_X12_reads_0, ev_X12_reads_1, ev_X12_reads_2, ev_X12_reads_3, ev_X12_reads_5, ev_X12_reads_7, ev_X12_reads_8, B_X12_reads_0, B_X12_reads_1, B_X12_reads_2, B_X12_reads_3, B_X12_reads_4, B_X12_reads_5, B_X12_reads_6, B_X12_reads_7, B_X12_reads_8, x_const, x_iadd, x_isub, x_imul, x_idiv, x_irem, x_ineg, x_dup, x_dup_x1, x_dup2, x_pop, x_goto, x_ifeq, x_ifne, x_iflt, x_ifge, x_ifgt, x_ifle, x_cmpeq, x_cmpne, x_cmplt, x_cmpge, x_cmpgt, x_cmple, x_null, x_nonnull, x_acmpeq, x_acmpne, x_get, x_put, x_putz, x_ald, x_ast, x_bast, x_zast, x_aast, x_alen, x_obj, x_ret, x_retz, x_vret, x_max, x_min, x_copy, x_i2l, qg_none, qg_inl, qg_inr, qg_ite, xr1, xr0, xrE, xri, xl0, xl1, xl2, xl3, xl4, xl5, xl6, xl7, xl8, xl9, xl10, xs0, xs1, xs2, xs3, xs4, xs5, xs6, xs7, xs8, xs9, xs10, xi0, xi1, xi2, xi3, xi4, xi5, xi6, xi7, xi8, xi9, xi10, xc0, xc1, xc2, xc3, xc4, xc5, xc6, xc7, xv1, xv2, xv3, xv4, xv5, xv6, xv7, dT_le, dF_le, dT_lt, dF_lt, k77, t14, h]
  · have h' : en ≤ pl := by omega
    simp (disch := omega) [ev_X12_reads_0, ev_X12_reads_1, ev_X12_reads_2, ev_X12_reads_3, ev_X12_reads_5, ev_X12_reads_7, ev_X12_reads_8, B_X12_reads_0, B_X12_reads_1, B_X12_reads_2, B_X12_reads_3, B_X12_reads_4, B_X12_reads_5, B_X12_reads_6, B_X12_reads_7, B_X12_reads_8, x_const, x_iadd, x_isub, x_imul, x_idiv, x_irem, x_ineg, x_dup, x_dup_x1, x_dup2, x_pop, x_goto, x_ifeq, x_ifne, x_iflt, x_ifge, x_ifgt, x_ifle, x_cmpeq, x_cmpne, x_cmplt, x_cmpge, x_cmpgt, x_cmple, x_null, x_nonnull, x_acmpeq, x_acmpne, x_get, x_put, x_putz, x_ald, x_ast, x_bast, x_zast, x_aast, x_alen, x_obj, x_ret, x_retz, x_vret, x_max, x_min, x_copy, x_i2l, qg_none, qg_inl, qg_inr, qg_ite, xr1, xr0, xrE, xri, xl0, xl1, xl2, xl3, xl4, xl5, xl6, xl7, xl8, xl9, xl10, xs0, xs1, xs2, xs3, xs4, xs5, xs6, xs7, xs8, xs9, xs10, xi0, xi1, xi2, xi3, xi4, xi5, xi6, xi7, xi8, xi9, xi10, xc0, xc1, xc2, xc3, xc4, xc5, xc6, xc7, xv1, xv2, xv3, xv4, xv5, xv6, xv7, dT_le, dF_le, dT_lt, dF_lt, k77, k79, t2, t14, ep, eb, eo]
theorem m_rdF {kd : Int → Nat × Int} {w : Nat × Nat × Nat} {m' : Int → Int → Int} {r it t v4 v5 q x : Int} (k77 : kd 77 = (15, 0)) (k79 : kd 79 = (101, 14622)) (r1 : 0 ≤ r) (r2 : r < 6) (t2 : m' 77 2 = 79) (t14 : m' 77 14 = q) (e0 : m' 79 0 = t) (e4 : m' 79 (34 + 26 * r + 4) = v4) (e5 : m' 79 (34 + 26 * r + 5) = v5) (b5 : 0 ≤ v5 ∧ v5 ≤ 1000000) : qa_ev P_X12_reads 6 [(1, 77), (0, r), (0, it), (0, 34 + 26 * r), (0, x)] [] (m', kd, w) = some (.inl (some (0, q)), (qa_up (qa_up (qa_up m' 79 (34 + 26 * r + 3) t) 79 (34 + 26 * r + 5) (v5 + (if v4 = -1 then 0 else 1))) 79 (34 + 26 * r + 4) (-1), kd, w)) := by
  by_cases h : v4 = -1
  · simp (disch := omega) [ev_X12_reads_0, ev_X12_reads_1, ev_X12_reads_2, ev_X12_reads_3, ev_X12_reads_5, ev_X12_reads_6, ev_X12_reads_7, ev_X12_reads_8, B_X12_reads_0, B_X12_reads_1, B_X12_reads_2, B_X12_reads_3, B_X12_reads_4, B_X12_reads_5, B_X12_reads_6, B_X12_reads_7, B_X12_reads_8, x_const, x_iadd, x_isub, x_imul, x_idiv, x_irem, x_ineg, x_dup, x_dup_x1, x_dup2, x_pop, x_goto, x_ifeq, x_ifne, x_iflt, x_ifge, x_ifgt, x_ifle, x_cmpeq, x_cmpne, x_cmplt, x_cmpge, x_cmpgt, x_cmple, x_null, x_nonnull, x_acmpeq, x_acmpne, x_get, x_put, x_putz, x_ald, x_ast, x_bast, x_zast, x_aast, x_alen, x_obj, x_ret, x_retz, x_vret, x_max, x_min, x_copy, x_i2l, qg_none, qg_inl, qg_inr, qg_ite, xr1, xr0, xrE, xri, xl0, xl1, xl2, xl3, xl4, xl5, xl6, xl7, xl8, xl9, xl10, xs0, xs1, xs2, xs3, xs4, xs5, xs6, xs7, xs8, xs9, xs10, xi0, xi1, xi2, xi3, xi4, xi5, xi6, xi7, xi8, xi9, xi10, xc0, xc1, xc2, xc3, xc4, xc5, xc6, xc7, xv1, xv2, xv3, xv4, xv5, xv6, xv7, dT_le, dF_le, dT_lt, dF_lt, dT_eq, dF_eq, qa_up_hit, qa_up_no, k77, k79, t2, t14, e0, e4, e5, h]
  · simp (disch := omega) [ev_X12_reads_0, ev_X12_reads_1, ev_X12_reads_2, ev_X12_reads_3, ev_X12_reads_5, ev_X12_reads_6, ev_X12_reads_7, ev_X12_reads_8, B_X12_reads_0, B_X12_reads_1, B_X12_reads_2, B_X12_reads_3, B_X12_reads_4, B_X12_reads_5, B_X12_reads_6, B_X12_reads_7, B_X12_reads_8, x_const, x_iadd, x_isub, x_imul, x_idiv, x_irem, x_ineg, x_dup, x_dup_x1, x_dup2, x_pop, x_goto, x_ifeq, x_ifne, x_iflt, x_ifge, x_ifgt, x_ifle, x_cmpeq, x_cmpne, x_cmplt, x_cmpge, x_cmpgt, x_cmple, x_null, x_nonnull, x_acmpeq, x_acmpne, x_get, x_put, x_putz, x_ald, x_ast, x_bast, x_zast, x_aast, x_alen, x_obj, x_ret, x_retz, x_vret, x_max, x_min, x_copy, x_i2l, qg_none, qg_inl, qg_inr, qg_ite, xr1, xr0, xrE, xri, xl0, xl1, xl2, xl3, xl4, xl5, xl6, xl7, xl8, xl9, xl10, xs0, xs1, xs2, xs3, xs4, xs5, xs6, xs7, xs8, xs9, xs10, xi0, xi1, xi2, xi3, xi4, xi5, xi6, xi7, xi8, xi9, xi10, xc0, xc1, xc2, xc3, xc4, xc5, xc6, xc7, xv1, xv2, xv3, xv4, xv5, xv6, xv7, dT_le, dF_le, dT_lt, dF_lt, dT_eq, dF_eq, qa_up_hit, qa_up_no, k77, k79, t2, t14, e0, e4, e5, h]
theorem QD_same {h p cn : Int} {sm : Int → Int} {en : Int → Int → Int} {m m' : Int → Int → Int} (hD : QD h p cn sm en m) (h86 : m' 86 = m 86) (h14 : m' 77 14 = m 77 14) : QD h p cn sm en m' := by
  unfold QD at hD ⊢
  rw [h86, h14]
  exact hD
theorem QD_zit {h p k q : Int} {sm : Int → Int} {en : Int → Int → Int} {m : Int → Int → Int} (hD : QD h p k sm en m) (h01 : h = 0 ∨ h = 1) (hk : 0 ≤ k) (e : q = h + k) : QD h p (k + 1) sm en (zit m q (p + k) (en k 1) (en k 2) (en k 3)) := by
  obtain ⟨d1, d2, d3⟩ := hD
  subst e
  have lo : ∀ i, i < 8 * (h + k) → zit m (h + k) (p + k) (en k 1) (en k 2) (en k 3) 86 i = m 86 i := fun i hi => by
    unfold zit
    rw [if_neg (by omega), if_neg (by omega)]
  refine ⟨?_, fun h1 => ?_, fun i i1 i2 => ?_⟩
  · unfold zit
    rw [if_neg (by omega), if_pos ⟨rfl, rfl⟩]
    omega
  · obtain ⟨a1, a2⟩ := d2 h1
    exact ⟨by rw [lo 0 (by omega)]; exact a1, fun j j1 j2 => by rw [lo _ (by omega)]; exact a2 j j1 j2⟩
  · by_cases hi : i = k
    · subst hi
      have at_ : ∀ j, 0 ≤ j → j < 8 → zit m (h + i) (p + i) (en i 1) (en i 2) (en i 3) 86 (8 * (h + i) + j) = if j = 0 then 0 else if j = 1 then p + i else if j = 2 then en i 1 else if j = 3 then en i 2 else if j = 4 then en i 3 else -1 := fun j j1 j2 => by
        unfold zit
        rw [if_pos ⟨rfl, by omega, by omega⟩]
        have : j = 0 ∨ j = 1 ∨ j = 2 ∨ j = 3 ∨ j = 4 ∨ j = 5 ∨ j = 6 ∨ j = 7 := by omega
        rcases this with rfl | rfl | rfl | rfl | rfl | rfl | rfl | rfl <;> simp <;> omega
      have a0 := at_ 0 (by decide) (by decide)
      rw [Int.add_zero] at a0
      refine ⟨a0, at_ 1 (by decide) (by decide), at_ 2 (by decide) (by decide), at_ 3 (by decide) (by decide), at_ 4 (by decide) (by decide), fun j j1 j2 => ?_⟩
      rw [at_ j (by omega) (by omega)]
      simp (disch := omega) only [if_neg]
    · obtain ⟨a0, a1, a2, a3, a4, a5⟩ := d3 i i1 (by omega)
      rw [lo _ (by omega), lo _ (by omega), lo _ (by omega), lo _ (by omega), lo _ (by omega)]
      exact ⟨a0, a1, a2, a3, a4, fun j j1 j2 => by rw [lo _ (by omega)]; exact a5 j j1 j2⟩
theorem zRg_up {A : zA} {ρ ρ' : Int → Int} {r k : Int} (r1 : 0 ≤ r) (r2 : r < 6) (r3 : A.2.2.1 r 0 = 1) (hQ : QR (zRg A r k) ρ) (h2 : ρ' (34 + 26 * r + 2) = A.2.2.1 r 2 + k + 1) (h7 : ρ' (34 + 26 * r + 7) = A.2.2.1 r 7 + k + 1) (hf : ∀ i, i ≠ 34 + 26 * r + 2 → i ≠ 34 + 26 * r + 7 → ρ' i = ρ i) : QR (zRg A r (k + 1)) ρ' := by
  have e0 : (zRg A r k).2.2.1 r 0 = 1 := by rw [zRg_lo A (by decide) (by decide)]; exact r3
  refine QR_rd hQ (k := r) (R' := (zRg A r (k + 1)).2.2.1) r1 r2 (fun i hi => hf i (by omega) (by omega)) (fun r' j h => by rw [zRg_o A j h, zRg_o A j h]) ?_ (fun _ j j1 j2 => ?_) (fun _ z => absurd ?_ z)
  · rw [hf _ (by omega) (by omega), zRg_lo A (by decide) (by decide)]
    exact (hQ.2.2.2.2.2.1 r r1 r2).trans (zRg_lo A (by decide) (by decide))
  · by_cases q2 : j = 2
    · subst q2; rw [h2, zRg_2]; omega
    · by_cases q7 : j = 7
      · subst q7; rw [h7, zRg_7]; omega
      · rw [hf _ (by omega) (by omega), hQ.2.2.2.2.2.2.1 r j r1 r2 e0 j1 j2, zRg_r, zRg_r, if_neg q2, if_neg q2, if_neg q7, if_neg q7]
  · rw [zRg_hi A (by decide)]; rfl
theorem m_rdL {kd : Int → Nat × Int} {w : Nat × Nat × Nat} {A : zA} {M : Int} (hK : KM kd) (hW : zW M A) (hM : M + 100 ≤ 500000) {r it x : Int} {sm : Int → Int} (hr : zRl A r) (hi : 1 ≤ it ∧ it ≤ 99) : ∀ (n : Nat) (k : Int) (m' : Int → Int → Int), 0 ≤ k → k + n = zTk A r it → RM m' → QR (zRg A r k) (m' 79) → QD (zHas A r) (A.2.2.1 r 2) k sm (fun i j => A.2.2.2 (A.2.2.1 r 1) (A.2.2.1 r 2 + i) j) m' → ∃ m'', qa_ev P_X12_reads 4 [(1, 77), (0, r), (0, it), (0, 34 + 26 * r), (0, x)] [] (m', kd, w) = qa_ev P_X12_reads 6 [(1, 77), (0, r), (0, it), (0, 34 + 26 * r), (0, x)] [] (m'', kd, w) ∧ QR (zRg A r (zTk A r it)) (m'' 79) ∧ QD (zHas A r) (A.2.2.1 r 2) (zTk A r it) sm (fun i j => A.2.2.2 (A.2.2.1 r 1) (A.2.2.1 r 2 + i) j) m'' ∧ (∀ c, c ≠ 77 → c ≠ 79 → c ≠ 86 → m'' c = m' c) ∧ ∀ i, i ≠ 14 → m'' 77 i = m' 77 i := by
  have htk := zTk_b hW hr hi
  have hh := zHas_01 A r
  obtain ⟨r1, r2, r3⟩ := id hr
  have hwr := hW.2.2.2.2.2.2.2.1 r r1 r2 r3
  unfold zWr at hwr
  have hbn := hW.bn hwr.1
  have k77 := hK.1
  have k79 := hK.2.2.1
  have hrn := hW.rn hr
  have htd : zTk A r it = it - zHas A r ∨ zTk A r it = A.2.1 (A.2.2.1 r 1) 5 - A.2.2.1 r 2 := by unfold zTk; split <;> omega
  have htl : zTk A r it ≤ it - zHas A r := by unfold zTk; split <;> omega
  intro n
  induction n with
  | zero =>
    intro k m' h1 h2 hR hQ hD
    have e0 : (zRg A r k).2.2.1 r 0 = 1 := by rw [zRg_lo A (by decide) (by decide)]; exact r3
    have ep : m' 79 (34 + 26 * r + 2) = A.2.2.1 r 2 + k := (hQ.2.2.2.2.2.2.1 r 2 r1 r2 e0 (by decide) (by decide)).trans (zRg_2 A r k)
    have eb : m' 79 (34 + 26 * r + 1) = A.2.2.1 r 1 := (hQ.2.2.2.2.2.2.1 r 1 r1 r2 e0 (by decide) (by decide)).trans (zRg_lo A (by decide) (by decide))
    have eo := m_endOf (w := w) (b := A.2.2.1 r 1) hK hR hQ hwr.1 ⟨hbn.1, hbn.2.1, hbn.2.2.1⟩
    have ek : k = zTk A r it := by omega
    rw [ek] at hQ hD ep
    refine ⟨m', m_rdE k77 k79 r1 r2 hR.2.1 hD.1 ep eb eo (by show _ ∨ A.2.1 (A.2.2.1 r 1) 5 ≤ _; omega), hQ, hD, fun _ _ _ _ => rfl, fun _ _ => rfl⟩
  | succ n ih =>
    intro k m' h1 h2 hR hQ hD
    have e0 : (zRg A r k).2.2.1 r 0 = 1 := by rw [zRg_lo A (by decide) (by decide)]; exact r3
    have x1 : (zRg A r k).2.2.1 r 1 = A.2.2.1 r 1 := zRg_lo A (by decide) (by decide)
    have x2 : (zRg A r k).2.2.1 r 2 = A.2.2.1 r 2 + k := zRg_2 A r k
    have ep : m' 79 (34 + 26 * r + 2) = A.2.2.1 r 2 + k := (hQ.2.2.2.2.2.2.1 r 2 r1 r2 e0 (by decide) (by decide)).trans x2
    have ep7 : m' 79 (34 + 26 * r + 7) = A.2.2.1 r 7 + k := (hQ.2.2.2.2.2.2.1 r 7 r1 r2 e0 (by decide) (by decide)).trans (zRg_7 A r k)
    have eb : m' 79 (34 + 26 * r + 1) = A.2.2.1 r 1 := (hQ.2.2.2.2.2.2.1 r 1 r1 r2 e0 (by decide) (by decide)).trans x1
    have eo := m_endOf (w := w) (b := A.2.2.1 r 1) hK hR hQ hwr.1 ⟨hbn.1, hbn.2.1, hbn.2.2.1⟩
    have hWk := zW_rg hW hM hr (k := k) ⟨h1, by omega, by omega⟩
    have de := m_deliversEntry (w := w) (r := r) (q := zHas A r + k) hK hR hQ hWk ⟨r1, r2, e0⟩ (by rw [x1, x2]; show A.2.1 (A.2.2.1 r 1) 4 ≤ _ ∧ _ < A.2.1 (A.2.2.1 r 1) 5; omega) hD.1 (by omega)
    rw [x1, x2] at de
    have hD2 := QD_zit hD hh h1 rfl
    generalize hm2 : zit m' (zHas A r + k) (A.2.2.1 r 2 + k) ((zRg A r k).2.2.2 (A.2.2.1 r 1) (A.2.2.1 r 2 + k) 1) ((zRg A r k).2.2.2 (A.2.2.1 r 1) (A.2.2.1 r 2 + k) 2) ((zRg A r k).2.2.2 (A.2.2.1 r 1) (A.2.2.1 r 2 + k) 3) = m2 at de
    have hD3 : QD (zHas A r) (A.2.2.1 r 2) (k + 1) sm (fun i j => A.2.2.2 (A.2.2.1 r 1) (A.2.2.1 r 2 + i) j) m2 := by rw [← hm2]; exact hD2
    have o2 : ∀ c i, c ≠ 86 → (c ≠ 77 ∨ i ≠ 14) → m2 c i = m' c i := fun c i c1 c2 => by
      rw [← hm2]
      unfold zit
      rw [if_neg (fun z => c1 z.1), if_neg (by omega)]
    have o79 : m2 79 = m' 79 := by funext i; exact o2 79 i (by decide) (Or.inl (by decide))
    generalize hm3 : qa_up (qa_up m2 79 (34 + 26 * r + 2) (A.2.2.1 r 2 + k + 1)) 79 (34 + 26 * r + 7) (A.2.2.1 r 7 + k + 1) = m3
    have st := m_rdS (it := it) (x := x) (v7 := A.2.2.1 r 7 + k) k77 k79 r1 r2 hR.2.1 hD.1 (by omega) ep eb eo (by show _ < A.2.1 (A.2.2.1 r 1) 5; omega) ⟨by omega, hbn.2.2.1⟩ de (by rw [o2 77 2 (by decide) (Or.inr (by decide))]; exact hR.2.1) (by rw [o79]; exact ep) (by rw [o79]; exact ep7) (by omega)
    rw [hm3] at st
    have o3 : ∀ c, c ≠ 79 → m3 c = m2 c := fun c hc => by
      rw [← hm3]
      funext i
      rw [qa_up_no _ (fun z => hc z.1), qa_up_no _ (fun z => hc z.1)]
    have hR3 : RM m3 := RM_7 (fun i hi => by rw [o3 77 (by decide), o2 77 i (by decide) (Or.inr hi)]) hR
    have hQ3 : QR (zRg A r (k + 1)) (m3 79) := zRg_up r1 r2 r3 hQ (by rw [← hm3, qa_up_no _ (by omega), qa_up_hit]) (by rw [← hm3, qa_up_hit]) (fun i i1 i2 => by rw [← hm3, qa_up_no _ (by omega), qa_up_no _ (by omega), o79])
    obtain ⟨m4, g1, g2, g3, g4, g5⟩ := ih (k + 1) m3 (by omega) (by omega) hR3 hQ3 (QD_same hD3 (o3 86 (by decide)) (by rw [o3 77 (by decide)]))
    refine ⟨m4, st.trans g1, g2, g3, fun c c1 c2 c3 => ?_, fun i hi => ?_⟩
    · rw [g4 c c1 c2 c3, o3 c c2]
      funext i
      exact o2 c i c3 (Or.inl c1)
    · rw [g5 i hi, o3 77 (by decide), o2 77 i (by decide) (Or.inr hi)]
