def vWould (A : zA) (st : Int → Int) (b sz : Int) : Int := zgs (zCutB st b (zAdd A b (A.1 0) 0 sz 0)) - zgs A
theorem ca_wouldCut {m : Int → Int → Int} {kd : Int → Nat × Int} {n c s : Nat} {um S : Int} {U SV : Int → zA} {A : zA} {M : Int} (hS : CS um U SV A m kd n S) (hW : zW M A) (ha : ∀ i, 0 ≤ i → i ≤ 10 → 0 ≤ m 65 i ∧ m 65 i < 100000000) {st : Int → Int} (hcr : CR st m kd 1 2) (hs : zS st) {b sz : Int} (hb : zBl A b) (hz : 1 ≤ sz ∧ sz ≤ 9) (hM : M + 1 < 500000) (h5 : A.2.1 b 5 < 512) : cTry um U SV A (vWould A st b sz) m kd n c s S (f_X11_wouldCut [(1, 0), (0, b), (0, sz)] (m, kd, n, c, s)) := by
  obtain ⟨hK, hC, hx, hn, h4, k64, h00, k1, x640, x65⟩ := hS.f
  have hS3 := hS.1
  have rg := c_needRange (m := m) (kd := kd) (w := (n, c, s)) sz 1 9
  rw [if_pos hz] at rg
  have nb := c_needBranch (w := (n, c, s)) hK hC hW hx hn b
  rw [if_pos hb] at nb
  obtain ⟨b1, b2, b3⟩ := id hb
  obtain ⟨m1, i1, i2, i3⟩ := c_trial (w := (n, c, s)) hS hW
  obtain ⟨g1, g2, g3, g4⟩ := CS_try hS i3 i2.1
  have k33 : KS kd 33 := hS.2.1.2.2.2.2.1
  have h02 : m 0 2 = 33 := hS.2.1.1.2.2.2.1
  have kS := hK.2.1
  have kS33 := k33.2.1
  have ba := c_branchAt (w := (n, c, s)) k33 i2 hW b
  rw [if_pos hb] at ba
  have tn := hW.tn
  have hn93 : 93 ≤ (n : Int) := hS.2.2.1.2.2.2.2.2.1
  have hn0 : ∀ x : Int, n ≤ x → kd x = (0, 0) := hS.2.2.1.2.2.2.2.2.2
  obtain ⟨l1, l2, l3, l4⟩ := CS_new (z := zE z_X5 (A.1 0) 0 sz 0) g1
  obtain ⟨hK2, hC2, hx2, hn2, h42, k642, h002, k12, -⟩ := l1.f
  have ke : nk kd n (9, 0) n = (9, 0) := nk_hit _ _ _
  have kne : (n : Int) ≠ -1 := by omega
  have ie := c_initE (m := m1) (kd := nk kd n (9, 0)) (w := (n + 1, c + 1, s + 4)) (e := n) (t := A.1 0) (k := 0) (s := sz) (v := 0) (z := z_X5) ke kne
  have k33' : KS (nk kd n (9, 0)) 33 := KS_keep k33 (fun x x1 x2 => nk_no _ _ (by omega)) (by rw [nk_no _ _ (by omega)]; exact hK.1)
  have hC33 : RC A (nm m1 n (zE z_X5 (A.1 0) 0 sz 0)) (nk kd n (9, 0)) 33 := RC_keep i2 (fun x x1 x2 => nm_nof _ _ (by omega)) (fun e he => by
    have : e ≠ n := fun z => by rw [z, hn0 _ (Int.le_refl _)] at he; exact absurd he (by decide)
    exact ⟨nm_nof _ _ this, nk_no _ _ this⟩)
  obtain ⟨m3, j1, j2, j3⟩ := c_addB (w := (n + 1, c + 1, s + 4)) (t := A.1 0) (k := 0) (s := sz) (v := 0) (e := n) k33' hC33 hW hb h5 ke (fun j q1 q2 => by
    rw [nm_hit]
    unfold zE
    have : j = 0 ∨ j = 1 ∨ j = 2 ∨ j = 3 := by omega
    rcases this with rfl | rfl | rfl | rfl <;> simp) hz
  have hW3 := zW_add hW hb h5 (by omega) ⟨tn.1, Int.le_refl _⟩ (k := 0) (by decide) hz (v := 0) (by decide)
  have hb3 : zBl (zAdd A b (A.1 0) 0 sz 0) b := zAdd_bl.mpr hb
  have hcr3 : CR st m3 (nk kd n (9, 0)) 1 2 := by
    obtain ⟨y1, y2, y3, y4⟩ := zfx_CR (g2.trans l2) hcr
    exact ⟨y1, by rw [j3 1 (by omega)]; exact y2, y3, fun i q1 q2 => by rw [j3 2 (by omega)]; exact y4 i q1 q2⟩
  obtain ⟨m5, p1, p2, p3⟩ := c_cutBehind (w := (n + 1, c + 1, s + 4)) k33' j2 hW3 hM hcr3 hs ⟨Or.inl (by omega), Or.inl (by omega)⟩ hb3
  rw [zCutB_gs st hW3 hb3] at p1
  obtain ⟨e1, e2, e3, e4⟩ := CS_try l1 (j3.trans p3) p2.1
  have kb33 := k33'.2.2.2.2.2.1 b b1 b2
  have h01 : nm m1 n z_X5 0 1 = S := by rw [nm_no _ _ _ (by omega), i3 0 (by omega)]; exact hn
  have t0 : nm m1 n z_X5 S 0 = A.1 0 := by rw [nm_no _ _ _ (by omega), i3 S (by omega)]; exact hC.2.1
  have m30 : m3 0 2 = 33 := by rw [j3 0 (by omega), nm_nof _ _ (by omega), i3 0 (by omega)]; exact h02
  have m300 : m3 0 0 = 1 := by rw [j3 0 (by omega), nm_nof _ _ (by omega), i3 0 (by omega)]; exact h00
  have m102 : m1 0 2 = 33 := by rw [i3 0 (by omega)]; exact h02
  have kS2 := hK2.2.1
  have kS33' := k33'.2.1
  have hbne : 33 + 4 + 2 * b ≠ -1 := by omega
  refine ⟨m5, nk kd n (9, 0), n + 1, c + 1, s + 4, ?_, e1, (g2.trans l2).trans e2, by rw [e3, l3, g3], by rw [e4, l4, g4]; omega, by rw [e4, l4, g4]; omega, by omega, by omega, by omega⟩
  have ev : zgs (zCutB st b (zAdd A b (A.1 0) 0 sz 0)) - zgs (zAdd A b (A.1 0) 0 sz 0) = vWould A st b sz := rfl
  rw [ev] at p1
  have e37 : (33 : Int) + 4 + 2 * b = 37 + 2 * b := by omega
  rw [e37] at ba j1 p1 kb33 hbne
  unfold f_X11_wouldCut
  refine qa_fn_eq ?_ (by simp)
  simp (disch := omega) [ev_X11_wouldCut_0, ev_X11_wouldCut_1, B_X11_wouldCut_0, B_X11_wouldCut_1, x_const, x_iadd, x_isub, x_imul, x_idiv, x_irem, x_ineg, x_dup, x_dup_x1, x_dup2, x_pop, x_goto, x_ifeq, x_ifne, x_iflt, x_ifge, x_ifgt, x_ifle, x_cmpeq, x_cmpne, x_cmplt, x_cmpge, x_cmpgt, x_cmple, x_null, x_nonnull, x_acmpeq, x_acmpne, x_get, x_put, x_putz, x_ald, x_ast, x_bast, x_zast, x_aast, x_alen, x_obj, x_ret, x_retz, x_vret, x_max, x_min, x_copy, x_i2l, qg_none, qg_inl, qg_inr, qg_ite, xr1, xr0, xrE, xri, xl0, xl1, xl2, xl3, xl4, xl5, xl6, xl7, xl8, xl9, xl10, xs0, xs1, xs2, xs3, xs4, xs5, xs6, xs7, xs8, xs9, xs10, xi0, xi1, xi2, xi3, xi4, xi5, xi6, xi7, xi8, xi9, xi10, xc0, xc1, xc2, xc3, xc4, xc5, xc6, xc7, xv1, xv2, xv3, xv4, xv5, xv6, xv7, dT_le, dF_le, dT_lt, dF_lt, dT_eq, dF_eq, qa_up_hit, qa_up_no, x_new, hx, hn, h02, m102, nb, rg, i1, kS, kS33, ba, hx2, h01, kS2, t0, ie, j1, m30, m300, kS33', p1, ke, kb33, hbne]
theorem ca_wouldX1 {m : Int → Int → Int} {kd : Int → Nat × Int} {n c s : Nat} {um S : Int} {U SV : Int → zA} {A : zA} {M : Int} (hS : CS um U SV A m kd n S) (hW : zW M A) (ha : ∀ i, 0 ≤ i → i ≤ 10 → 0 ≤ m 65 i ∧ m 65 i < 100000000) {b sz : Int} (hr : ¬ zBl A b) : f_X11_wouldCut [(1, 0), (0, b), (0, sz)] (m, kd, n, c, s) = some (.inr 1, (m, kd, n, c + 1, s + 6)) := by
  obtain ⟨hK, hC, hx, hn, -⟩ := hS.f
  have ne := c_needBranch (w := (n, c, s)) hK hC hW hx hn b
  rw [if_neg hr] at ne
  unfold f_X11_wouldCut
  refine qa_fn_eq ?_ (by simp)
  simp (disch := omega) [ev_X11_wouldCut_0, ev_X11_wouldCut_1, B_X11_wouldCut_0, B_X11_wouldCut_1, x_const, x_iadd, x_isub, x_imul, x_idiv, x_irem, x_ineg, x_dup, x_dup_x1, x_dup2, x_pop, x_goto, x_ifeq, x_ifne, x_iflt, x_ifge, x_ifgt, x_ifle, x_cmpeq, x_cmpne, x_cmplt, x_cmpge, x_cmpgt, x_cmple, x_null, x_nonnull, x_acmpeq, x_acmpne, x_get, x_put, x_putz, x_ald, x_ast, x_bast, x_zast, x_aast, x_alen, x_obj, x_ret, x_retz, x_vret, x_max, x_min, x_copy, x_i2l, qg_none, qg_inl, qg_inr, qg_ite, xr1, xr0, xrE, xri, xl0, xl1, xl2, xl3, xl4, xl5, xl6, xl7, xl8, xl9, xl10, xs0, xs1, xs2, xs3, xs4, xs5, xs6, xs7, xs8, xs9, xs10, xi0, xi1, xi2, xi3, xi4, xi5, xi6, xi7, xi8, xi9, xi10, xc0, xc1, xc2, xc3, xc4, xc5, xc6, xc7, xv1, xv2, xv3, xv4, xv5, xv6, xv7, dT_le, dF_le, dT_lt, dF_lt, hx, ne]
theorem ca_wouldX2 {m : Int → Int → Int} {kd : Int → Nat × Int} {n c s : Nat} {um S : Int} {U SV : Int → zA} {A : zA} {M : Int} (hS : CS um U SV A m kd n S) (hW : zW M A) (ha : ∀ i, 0 ≤ i → i ≤ 10 → 0 ≤ m 65 i ∧ m 65 i < 100000000) {b sz : Int} (hr : zBl A b) (ht : ¬ (1 ≤ sz ∧ sz ≤ 9)) : f_X11_wouldCut [(1, 0), (0, b), (0, sz)] (m, kd, n, c, s) = some (.inr 2, (m, kd, n, c + 1, s + 6)) := by
  obtain ⟨hK, hC, hx, hn, -⟩ := hS.f
  have ne := c_needBranch (w := (n, c, s)) hK hC hW hx hn b
  rw [if_pos hr] at ne
  have rg := c_needRange (m := m) (kd := kd) (w := (n, c, s)) sz 1 9
  rw [if_neg ht] at rg
  unfold f_X11_wouldCut
  refine qa_fn_eq ?_ (by simp)
  simp (disch := omega) [ev_X11_wouldCut_0, ev_X11_wouldCut_1, B_X11_wouldCut_0, B_X11_wouldCut_1, x_const, x_iadd, x_isub, x_imul, x_idiv, x_irem, x_ineg, x_dup, x_dup_x1, x_dup2, x_pop, x_goto, x_ifeq, x_ifne, x_iflt, x_ifge, x_ifgt, x_ifle, x_cmpeq, x_cmpne, x_cmplt, x_cmpge, x_cmpgt, x_cmple, x_null, x_nonnull, x_acmpeq, x_acmpne, x_get, x_put, x_putz, x_ald, x_ast, x_bast, x_zast, x_aast, x_alen, x_obj, x_ret, x_retz, x_vret, x_max, x_min, x_copy, x_i2l, qg_none, qg_inl, qg_inr, qg_ite, xr1, xr0, xrE, xri, xl0, xl1, xl2, xl3, xl4, xl5, xl6, xl7, xl8, xl9, xl10, xs0, xs1, xs2, xs3, xs4, xs5, xs6, xs7, xs8, xs9, xs10, xi0, xi1, xi2, xi3, xi4, xi5, xi6, xi7, xi8, xi9, xi10, xc0, xc1, xc2, xc3, xc4, xc5, xc6, xc7, xv1, xv2, xv3, xv4, xv5, xv6, xv7, dT_le, dF_le, dT_lt, dF_lt, hx, ne, rg]
theorem ma_wouldCut {m : Int → Int → Int} {kd : Int → Nat × Int} {w : Nat × Nat × Nat} {A : zA} (hK : KM kd) (hR : RM m) (hQ : QR A (m 79)) {M : Int} (hW : zW M A) {um : Int} {U : Int → zA} (hU : MU um U m) (hUW : ∀ k, 0 ≤ k → k < um → zW M (U k)) (ha : ∀ i, 0 ≤ i → i ≤ 10 → 0 ≤ m 84 i ∧ m 84 i < 100000000) {st : Int → Int} (hS : QS st m) (hs : zS st) {b sz : Int} (hb : zBl A b) (hz : 1 ≤ sz ∧ sz ≤ 9) (hM : M + 1 < 500000) (h5 : A.2.1 b 5 < 512) : mTry um U A (vWould A st b sz) m kd w (f_X12_wouldCut [(1, 77), (0, b), (0, sz)] (m, kd, w)) := by
  have ni := m_isBranch (w := w) hK hR hQ b
  rw [if_pos hb] at ni
  have rg2 := m_in (m := m) (kd := kd) (w := w) sz 1 9
  rw [if_pos hz] at rg2
  obtain ⟨m1, m2, i1, i2, hR1, hR2, hQ2, i4, i80, ⟨j9, j10, j11, j85⟩, io, ip, i0⟩ := m_tryIn (w := w) hK hR hQ
  have k77 := hK.1
  have k79 := hK.2.2.1
  have tn := hW.tn
  obtain ⟨m3, a1, a2, a3⟩ := m_adds (w := w) (t := A.1 0) (k := 0) (s := sz) (v := 0) hK hR2 hQ2 hW hb h5 (by decide) hz (by decide)
  have pk := m_packed (m := m2) (kd := kd) (w := w) (k := 0) (s := sz) (v := 0) (by decide) hz (by decide)
  generalize hrest : ((0 : Int) * 10 + sz) * 200 + 0 + 99 = rest at a1 pk
  have hR3 : RM m3 := RM_7 (fun i _ => by rw [a3 77 (by decide)]) hR2
  have hW3 := zW_add hW hb h5 (by omega) ⟨tn.1, Int.le_refl _⟩ (k := 0) (by decide) hz (v := 0) (by decide)
  have hb3 : zBl (zAdd A b (A.1 0) 0 sz 0) b := zAdd_bl.mpr hb
  have hS3 : QS st m3 := fun i q1 q2 => by
    rw [a3 78 (by decide), io 78 (by decide) (by decide) (by decide) (by decide)]
    exact hS i q1 q2
  have hz2 := zcb_0 j9 j10 j11 j85
  have hz3 : zcb m3 0 := zcb_eq hz2 (fun i _ => by rw [a3 77 (by decide)]) (a3 85 (by decide))
  obtain ⟨m5, l1, l2, l3, l4⟩ := m_cuts (w := w) hK hR3 a2 hW3 hS3 hs hb3 (zcb_mono hz3 (by decide))
  have hX5 : zcb m5 13000 := zcb_mono (zcb_lt hz3 l4 hW3 (zW_cutB st hW3 hb3).1 (zle_cutB st hW3 hb3).lt (by decide)) (by decide)
  have hf : zfm m2 m5 := (zfm_o a3).trans l3
  obtain ⟨m4, o1, o2, o3, o4, o5, o6, o7, o8, o9, o10, o11⟩ := m_tryOut (w := w) hK hR hQ hW hU i80 io ip i0 hf hX5
  have e9 : m4 77 9 = vWould A st b sz := by
    have h1 := l4.1
    have h2 : m3 77 9 = 0 := by rw [a3 77 (by decide)]; exact j9
    have h3 : zgs (zAdd A b (A.1 0) 0 sz 0) = zgs A := rfl
    rw [o2]
    unfold vWould
    omega
  have t2 : m 77 2 = 79 := hR.2.1
  have t3 : m 77 3 = 80 := hR.2.2.1
  have t22 : m2 77 2 = 79 := hR2.2.1
  have hR5 := zfm_RM hf hR2
  have t52 : m5 77 2 = 79 := hR5.2.1
  have t53 : m5 77 3 = 80 := hR5.2.2.1
  have e0 : m2 79 0 = A.1 0 := hQ2.1
  refine ⟨m4, ?_, o4, o5, o6, o7, o8, o9, o10, o11⟩
  unfold f_X12_wouldCut
  refine qa_fn_eq ?_ (by simp)
  simp (disch := omega) [ev_X12_wouldCut_0, ev_X12_wouldCut_1, ev_X12_wouldCut_2, ev_X12_wouldCut_3, ev_X12_wouldCut_4, ev_X12_wouldCut_5, B_X12_wouldCut_0, B_X12_wouldCut_1, B_X12_wouldCut_2, B_X12_wouldCut_3, B_X12_wouldCut_4, B_X12_wouldCut_5, x_const, x_iadd, x_isub, x_imul, x_idiv, x_irem, x_ineg, x_dup, x_dup_x1, x_dup2, x_pop, x_goto, x_ifeq, x_ifne, x_iflt, x_ifge, x_ifgt, x_ifle, x_cmpeq, x_cmpne, x_cmplt, x_cmpge, x_cmpgt, x_cmple, x_null, x_nonnull, x_acmpeq, x_acmpne, x_get, x_put, x_putz, x_ald, x_ast, x_bast, x_zast, x_aast, x_alen, x_obj, x_ret, x_retz, x_vret, x_max, x_min, x_copy, x_i2l, qg_none, qg_inl, qg_inr, qg_ite, xr1, xr0, xrE, xri, xl0, xl1, xl2, xl3, xl4, xl5, xl6, xl7, xl8, xl9, xl10, xs0, xs1, xs2, xs3, xs4, xs5, xs6, xs7, xs8, xs9, xs10, xi0, xi1, xi2, xi3, xi4, xi5, xi6, xi7, xi8, xi9, xi10, xc0, xc1, xc2, xc3, xc4, xc5, xc6, xc7, xv1, xv2, xv3, xv4, xv5, xv6, xv7, dT_le, dF_le, dT_lt, dF_lt, dT_eq, dF_eq, qa_up_hit, qa_up_no, k77, k79, ni, rg2, t2, t3, t22, t52, t53, e0, i1, i2, pk, a1, l1, o1, e9]
theorem ma_wouldX1 {m : Int → Int → Int} {kd : Int → Nat × Int} {w : Nat × Nat × Nat} {A : zA} (hK : KM kd) (hR : RM m) (hQ : QR A (m 79)) {b sz : Int} (hr : ¬ zBl A b) : f_X12_wouldCut [(1, 77), (0, b), (0, sz)] (m, kd, w) = mAns (1, 0) m kd w := by
  have ni := m_isBranch (w := w) hK hR hQ b
  rw [if_neg hr] at ni
  have k77 := hK.1
  rw [mAns_e]
  unfold f_X12_wouldCut
  refine qa_fn_eq ?_ (by simp)
  simp (disch := omega) [ev_X12_wouldCut_0, ev_X12_wouldCut_1, ev_X12_wouldCut_2, ev_X12_wouldCut_3, ev_X12_wouldCut_4, ev_X12_wouldCut_5, B_X12_wouldCut_0, B_X12_wouldCut_1, B_X12_wouldCut_2, B_X12_wouldCut_3, B_X12_wouldCut_4, B_X12_wouldCut_5, x_const, x_iadd, x_isub, x_imul, x_idiv, x_irem, x_ineg, x_dup, x_dup_x1, x_dup2, x_pop, x_goto, x_ifeq, x_ifne, x_iflt, x_ifge, x_ifgt, x_ifle, x_cmpeq, x_cmpne, x_cmplt, x_cmpge, x_cmpgt, x_cmple, x_null, x_nonnull, x_acmpeq, x_acmpne, x_get, x_put, x_putz, x_ald, x_ast, x_bast, x_zast, x_aast, x_alen, x_obj, x_ret, x_retz, x_vret, x_max, x_min, x_copy, x_i2l, qg_none, qg_inl, qg_inr, qg_ite, xr1, xr0, xrE, xri, xl0, xl1, xl2, xl3, xl4, xl5, xl6, xl7, xl8, xl9, xl10, xs0, xs1, xs2, xs3, xs4, xs5, xs6, xs7, xs8, xs9, xs10, xi0, xi1, xi2, xi3, xi4, xi5, xi6, xi7, xi8, xi9, xi10, xc0, xc1, xc2, xc3, xc4, xc5, xc6, xc7, xv1, xv2, xv3, xv4, xv5, xv6, xv7, dT_le, dF_le, dT_lt, dF_lt, dT_eq, dF_eq, qa_up_hit, qa_up_no, k77, ni]
theorem ma_wouldX2 {m : Int → Int → Int} {kd : Int → Nat × Int} {w : Nat × Nat × Nat} {A : zA} (hK : KM kd) (hR : RM m) (hQ : QR A (m 79)) {b sz : Int} (hr : zBl A b) (ht : ¬ (1 ≤ sz ∧ sz ≤ 9)) : f_X12_wouldCut [(1, 77), (0, b), (0, sz)] (m, kd, w) = mAns (2, 0) m kd w := by
  have ni := m_isBranch (w := w) hK hR hQ b
  rw [if_pos hr] at ni
  have rg2 := m_in (m := m) (kd := kd) (w := w) sz 1 9
  rw [if_neg ht] at rg2
  have k77 := hK.1
  rw [mAns_e]
  unfold f_X12_wouldCut
  refine qa_fn_eq ?_ (by simp)
  simp (disch := omega) [ev_X12_wouldCut_0, ev_X12_wouldCut_1, ev_X12_wouldCut_2, ev_X12_wouldCut_3, ev_X12_wouldCut_4, ev_X12_wouldCut_5, B_X12_wouldCut_0, B_X12_wouldCut_1, B_X12_wouldCut_2, B_X12_wouldCut_3, B_X12_wouldCut_4, B_X12_wouldCut_5, x_const, x_iadd, x_isub, x_imul, x_idiv, x_irem, x_ineg, x_dup, x_dup_x1, x_dup2, x_pop, x_goto, x_ifeq, x_ifne, x_iflt, x_ifge, x_ifgt, x_ifle, x_cmpeq, x_cmpne, x_cmplt, x_cmpge, x_cmpgt, x_cmple, x_null, x_nonnull, x_acmpeq, x_acmpne, x_get, x_put, x_putz, x_ald, x_ast, x_bast, x_zast, x_aast, x_alen, x_obj, x_ret, x_retz, x_vret, x_max, x_min, x_copy, x_i2l, qg_none, qg_inl, qg_inr, qg_ite, xr1, xr0, xrE, xri, xl0, xl1, xl2, xl3, xl4, xl5, xl6, xl7, xl8, xl9, xl10, xs0, xs1, xs2, xs3, xs4, xs5, xs6, xs7, xs8, xs9, xs10, xi0, xi1, xi2, xi3, xi4, xi5, xi6, xi7, xi8, xi9, xi10, xc0, xc1, xc2, xc3, xc4, xc5, xc6, xc7, xv1, xv2, xv3, xv4, xv5, xv6, xv7, dT_le, dF_le, dT_lt, dF_lt, dT_eq, dF_eq, qa_up_hit, qa_up_no, k77, ni, rg2]
