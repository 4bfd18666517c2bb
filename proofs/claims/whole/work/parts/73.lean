theorem m_countsAnew {m : Int → Int → Int} {kd : Int → Nat × Int} {w : Nat × Nat × Nat} (hK : KM kd) (hR : RM m) : ∃ m', f_X12_countsAnew [(1, 77)] (m, kd, w) = some (.inl none, (m', kd, w)) ∧ zfm m m' ∧ m' 79 = m 79 ∧ m' 77 9 = 0 ∧ m' 77 10 = 0 ∧ m' 77 11 = 0 ∧ ∀ r, 0 ≤ r → r < 6 → m' 85 r = 0 := by
  obtain ⟨k77, k78, k79, k80, k81, k82, k83, k84, k85, k86, k87, k88, k89, k90⟩ := id hK
  obtain ⟨r1, r2, r3, r4, r6, r7, r8, r12, r13, r15, r23, r25, r26⟩ := id hR
  generalize hm1 : qa_up (qa_up (qa_up m 77 9 0) 77 10 0) 77 11 0 = m1
  have t12 : m1 77 12 = 85 := by rw [← hm1, qa_up_no _ (by omega), qa_up_no _ (by omega), qa_up_no _ (by omega)]; exact r12
  have loop : ∀ (q : Nat) (k : Int), 0 ≤ k → k + q = 6 → qa_ev P_X12_countsAnew 1 [(1, 77), (0, k)] [] (zfd m1 85 k 0, kd, w) = some (.inl none, (zfd m1 85 6 0, kd, w)) := by
    intro q
    induction q with
    | zero =>
      intro k h1 h2
      obtain rfl : k = 6 := by omega
      rw [ev_X12_countsAnew_1]
      simp (disch := omega) [ev_X12_countsAnew_0, ev_X12_countsAnew_2, B_X12_countsAnew_0, B_X12_countsAnew_1, B_X12_countsAnew_2, x_const, x_iadd, x_isub, x_imul, x_idiv, x_irem, x_ineg, x_dup, x_dup_x1, x_dup2, x_pop, x_goto, x_ifeq, x_ifne, x_iflt, x_ifge, x_ifgt, x_ifle, x_cmpeq, x_cmpne, x_cmplt, x_cmpge, x_cmpgt, x_cmple, x_null, x_nonnull, x_acmpeq, x_acmpne, x_get, x_put, x_putz, x_ald, x_ast, x_bast, x_zast, x_aast, x_alen, x_obj, x_ret, x_retz, x_vret, x_max, x_min, x_copy, x_i2l, qg_none, qg_inl, qg_inr, qg_ite, xr1, xr0, xrE, xri, xl0, xl1, xl2, xl3, xl4, xl5, xl6, xl7, xl8, xl9, xl10, xs0, xs1, xs2, xs3, xs4, xs5, xs6, xs7, xs8, xs9, xs10, xi0, xi1, xi2, xi3, xi4, xi5, xi6, xi7, xi8, xi9, xi10, xc0, xc1, xc2, xc3, xc4, xc5, xc6, xc7, xv1, xv2, xv3, xv4, xv5, xv6, xv7, dT_le, dF_le, dT_lt, dF_lt]
    | succ q ih =>
      intro k h1 h2
      have ih' := ih (k + 1) (by omega) (by omega)
      have e := zfd_up (m := m1) (n := 85) (k := k) (v := 0) h1
      have t8 : zfd m1 85 k 0 77 12 = 85 := by rw [zfd_no (Or.inl (by decide))]; exact t12
      rw [ev_X12_countsAnew_1]
      simp (disch := omega) [ev_X12_countsAnew_0, ev_X12_countsAnew_2, B_X12_countsAnew_0, B_X12_countsAnew_1, B_X12_countsAnew_2, x_const, x_iadd, x_isub, x_imul, x_idiv, x_irem, x_ineg, x_dup, x_dup_x1, x_dup2, x_pop, x_goto, x_ifeq, x_ifne, x_iflt, x_ifge, x_ifgt, x_ifle, x_cmpeq, x_cmpne, x_cmplt, x_cmpge, x_cmpgt, x_cmple, x_null, x_nonnull, x_acmpeq, x_acmpne, x_get, x_put, x_putz, x_ald, x_ast, x_bast, x_zast, x_aast, x_alen, x_obj, x_ret, x_retz, x_vret, x_max, x_min, x_copy, x_i2l, qg_none, qg_inl, qg_inr, qg_ite, xr1, xr0, xrE, xri, xl0, xl1, xl2, xl3, xl4, xl5, xl6, xl7, xl8, xl9, xl10, xs0, xs1, xs2, xs3, xs4, xs5, xs6, xs7, xs8, xs9, xs10, xi0, xi1, xi2, xi3, xi4, xi5, xi6, xi7, xi8, xi9, xi10, xc0, xc1, xc2, xc3, xc4, xc5, xc6, xc7, xv1, xv2, xv3, xv4, xv5, xv6, xv7, dT_le, dF_le, dT_lt, dF_lt, k77, k85, t8, e, ih']
  have lp := loop 6 0 (by decide) (by decide)
  rw [zfd_0] at lp
  have n77 : ∀ i, zfd m1 85 6 0 77 i = m1 77 i := fun i => zfd_no (Or.inl (by decide))
  refine ⟨zfd m1 85 6 0, ?_, ⟨fun c c1 c2 c3 => ?_, fun i x1 x2 x3 => ?_⟩, ?_, ?_, ?_, ?_, fun r a1 a2 => ?_⟩
  · unfold f_X12_countsAnew
    refine qa_fn_eq ?_ (by simp)
    simp (disch := omega) [ev_X12_countsAnew_0, ev_X12_countsAnew_2, B_X12_countsAnew_0, B_X12_countsAnew_1, B_X12_countsAnew_2, x_const, x_iadd, x_isub, x_imul, x_idiv, x_irem, x_ineg, x_dup, x_dup_x1, x_dup2, x_pop, x_goto, x_ifeq, x_ifne, x_iflt, x_ifge, x_ifgt, x_ifle, x_cmpeq, x_cmpne, x_cmplt, x_cmpge, x_cmpgt, x_cmple, x_null, x_nonnull, x_acmpeq, x_acmpne, x_get, x_put, x_putz, x_ald, x_ast, x_bast, x_zast, x_aast, x_alen, x_obj, x_ret, x_retz, x_vret, x_max, x_min, x_copy, x_i2l, qg_none, qg_inl, qg_inr, qg_ite, xr1, xr0, xrE, xri, xl0, xl1, xl2, xl3, xl4, xl5, xl6, xl7, xl8, xl9, xl10, xs0, xs1, xs2, xs3, xs4, xs5, xs6, xs7, xs8, xs9, xs10, xi0, xi1, xi2, xi3, xi4, xi5, xi6, xi7, xi8, xi9, xi10, xc0, xc1, xc2, xc3, xc4, xc5, xc6, xc7, xv1, xv2, xv3, xv4, xv5, xv6, xv7, dT_le, dF_le, dT_lt, dF_lt, k77, hm1, lp]
  · funext i
    rw [zfd_no (Or.inl c3), ← hm1, qa_up_no _ (by omega), qa_up_no _ (by omega), qa_up_no _ (by omega)]
  · rw [n77, ← hm1, qa_up_no _ (by omega), qa_up_no _ (by omega), qa_up_no _ (by omega)]
  · funext i
    rw [zfd_no (Or.inl (by decide)), ← hm1, qa_up_no _ (by omega), qa_up_no _ (by omega), qa_up_no _ (by omega)]
  · rw [n77, ← hm1, qa_up_no _ (by omega), qa_up_no _ (by omega), qa_up_hit]
  · rw [n77, ← hm1, qa_up_no _ (by omega), qa_up_hit]
  · rw [n77, ← hm1, qa_up_hit]
  · exact if_pos ⟨rfl, a1, a2⟩
theorem zcb_0 {m : Int → Int → Int} (h9 : m 77 9 = 0) (h10 : m 77 10 = 0) (h11 : m 77 11 = 0) (h : ∀ r, 0 ≤ r → r < 6 → m 85 r = 0) : zcb m 0 := by
  unfold zcb
  rw [h9, h10, h11]
  exact ⟨by omega, by omega, by omega, fun r r1 r2 => by rw [h r r1 r2]; omega⟩
theorem m_passS {kd : Int → Nat × Int} {w : Nat × Nat × Nat} {m' m3 : Int → Int → Int} {t kk : Int} (k77 : kd 77 = (15, 0)) (a1 : f_X12_ticks [(1, 77)] (m', kd, w) = some (.inl none, (m3, kd, w))) (h1 : 0 ≤ kk ∧ kk < t) (ht : t ≤ 99) : qa_ev P_X12_passes 1 [(1, 77), (0, t), (0, kk)] [] (m', kd, w) = qa_ev P_X12_passes 1 [(1, 77), (0, t), (0, kk + 1)] [] (m3, kd, w) := by
  rw [ev_X12_passes_1]
  simp (disch := omega) [ev_X12_passes_0, ev_X12_passes_2, B_X12_passes_0, B_X12_passes_1, B_X12_passes_2, x_const, x_iadd, x_isub, x_imul, x_idiv, x_irem, x_ineg, x_dup, x_dup_x1, x_dup2, x_pop, x_goto, x_ifeq, x_ifne, x_iflt, x_ifge, x_ifgt, x_ifle, x_cmpeq, x_cmpne, x_cmplt, x_cmpge, x_cmpgt, x_cmple, x_null, x_nonnull, x_acmpeq, x_acmpne, x_get, x_put, x_putz, x_ald, x_ast, x_bast, x_zast, x_aast, x_alen, x_obj, x_ret, x_retz, x_vret, x_max, x_min, x_copy, x_i2l, qg_none, qg_inl, qg_inr, qg_ite, xr1, xr0, xrE, xri, xl0, xl1, xl2, xl3, xl4, xl5, xl6, xl7, xl8, xl9, xl10, xs0, xs1, xs2, xs3, xs4, xs5, xs6, xs7, xs8, xs9, xs10, xi0, xi1, xi2, xi3, xi4, xi5, xi6, xi7, xi8, xi9, xi10, xc0, xc1, xc2, xc3, xc4, xc5, xc6, xc7, xv1, xv2, xv3, xv4, xv5, xv6, xv7, dT_le, dF_le, dT_lt, dF_lt, k77, a1]
theorem m_passE {kd : Int → Nat × Int} {w : Nat × Nat × Nat} {m' : Int → Int → Int} {t : Int} (k77 : kd 77 = (15, 0)) : qa_ev P_X12_passes 1 [(1, 77), (0, t), (0, t)] [] (m', kd, w) = some (.inl (some (0, m' 77 9)), (m', kd, w)) := by
  rw [ev_X12_passes_1]
  simp (disch := omega) [ev_X12_passes_0, ev_X12_passes_2, B_X12_passes_0, B_X12_passes_1, B_X12_passes_2, x_const, x_iadd, x_isub, x_imul, x_idiv, x_irem, x_ineg, x_dup, x_dup_x1, x_dup2, x_pop, x_goto, x_ifeq, x_ifne, x_iflt, x_ifge, x_ifgt, x_ifle, x_cmpeq, x_cmpne, x_cmplt, x_cmpge, x_cmpgt, x_cmple, x_null, x_nonnull, x_acmpeq, x_acmpne, x_get, x_put, x_putz, x_ald, x_ast, x_bast, x_zast, x_aast, x_alen, x_obj, x_ret, x_retz, x_vret, x_max, x_min, x_copy, x_i2l, qg_none, qg_inl, qg_inr, qg_ite, xr1, xr0, xrE, xri, xl0, xl1, xl2, xl3, xl4, xl5, xl6, xl7, xl8, xl9, xl10, xs0, xs1, xs2, xs3, xs4, xs5, xs6, xs7, xs8, xs9, xs10, xi0, xi1, xi2, xi3, xi4, xi5, xi6, xi7, xi8, xi9, xi10, xc0, xc1, xc2, xc3, xc4, xc5, xc6, xc7, xv1, xv2, xv3, xv4, xv5, xv6, xv7, dT_le, dF_le, dT_lt, dF_lt, k77]
theorem ma_pass {m : Int → Int → Int} {kd : Int → Nat × Int} {w : Nat × Nat × Nat} {A : zA} (hK : KM kd) (hR : RM m) (hQ : QR A (m 79)) {M : Int} (hW : zW M A) {um : Int} {U : Int → zA} (hU : MU um U m) (hUW : ∀ k, 0 ≤ k → k < um → zW M (U k)) (ha : ∀ i, 0 ≤ i → i ≤ 10 → 0 ≤ m 84 i ∧ m 84 i < 100000000) {st : Int → Int} (hS : QS st m) (hs : zS st) {t : Int} (ht : 1 ≤ t ∧ t ≤ 99) (hM : M < 500000) (h0 : A.1 0 + 99 ≤ 1000000) : mDone um U A (zTicks st t.toNat A) (zgs (zTicks st t.toNat A) - zgs A) m kd w (f_X12_passes [(1, 77), (0, t)] (m, kd, w)) := by
  obtain ⟨m1, i1, i2, i3, i4, i5, i6, i7, i8⟩ := m_keeps (w := w) hK hR hQ hW hU hUW (ha 0 (by decide) (by decide))
  have hR1 := zfk_RM i3 hR
  have hQ1 : QR A (m1 79) := by rw [i4]; exact hQ
  have k77 := hK.1
  obtain ⟨m2, j1, j2, j3, j9, j10, j11, j85⟩ := m_countsAnew (w := w) hK hR1
  have hR2 := zfm_RM j2 hR1
  have hQ2 : QR A (m2 79) := by rw [j3]; exact hQ1
  have hS2 : QS st m2 := fun i q1 q2 => by
    rw [j2.1 78 (by decide) (by decide) (by decide), i3.1 78 (by decide) (by decide) (by decide) (by decide) (by decide) (by decide) (by decide)]
    exact hS i q1 q2
  have hz2 := zcb_0 j9 j10 j11 j85
  have loop : ∀ (q k : Nat) (m' : Int → Int → Int), (k : Int) + q = t → QR (zTicks st k A) (m' 79) → zfm m2 m' → zcn m2 A m' (zTicks st k A) → ∃ m'', qa_ev P_X12_passes 1 [(1, 77), (0, t), (0, k)] [] (m', kd, w) = some (.inl (some (0, m'' 77 9)), (m'', kd, w)) ∧ QR (zTicks st t.toNat A) (m'' 79) ∧ zfm m2 m'' ∧ zcn m2 A m'' (zTicks st t.toNat A) := by
    intro q
    induction q with
    | zero =>
      intro k m' h1 hQ' hf hn
      have ek : t.toNat = k := by omega
      rw [ek]
      have et : t = (k : Int) := by omega
      refine ⟨m', ?_, hQ', hf, hn⟩
      rw [et]
      exact m_passE k77
    | succ q ih =>
      intro k m' h1 hQ' hf hn
      obtain ⟨w1, w2, w3⟩ := zW_ticks st hW k (by omega)
      have hR' := zfm_RM hf hR2
      have hX' : zcb m' 60000000 := zcb_mono (zcb_lt hz2 hn hW w1 (zlt_ticks st hW k (by omega)) ⟨by omega, by omega⟩) (by omega)
      obtain ⟨m3, a1, a2, a3, a4⟩ := m_ticks (w := w) hK hR' hQ' w1 (by rw [w3]; omega) (hS2.fm hf) hs hX'
      obtain ⟨m4, g1, g2, g3, g4⟩ := ih (k + 1) m3 (by omega) a2 (hf.trans a3) (hn.trans a4)
      refine ⟨m4, ?_, g2, g3, g4⟩
      have ek : ((k + 1 : Nat) : Int) = (k : Int) + 1 := by omega
      rw [ek] at g1
      rw [m_passS k77 a1 ⟨by omega, by omega⟩ ht.2]
      exact g1
  obtain ⟨m3, a1, a2, a3, a4⟩ := loop t.toNat 0 m2 (by omega) hQ2 (zfm.refl _) (zcn.refl _ _)
  have e9 : m3 77 9 = zgs (zTicks st t.toNat A) - zgs A := by have := a4.1; rw [j9] at this; omega
  rw [e9] at a1
  simp only [Int.natCast_zero] at a1
  refine mDone_of (m1 := m1) (m2 := m3) ?_ i2 i3 i5 i6 i7 i8 (j2.trans a3) a2 (fun X h1 h2 => ?_)
  · unfold f_X12_passes
    refine qa_fn_eq ?_ (by simp)
    simp (disch := omega) [ev_X12_passes_0, ev_X12_passes_2, B_X12_passes_0, B_X12_passes_1, B_X12_passes_2, x_const, x_iadd, x_isub, x_imul, x_idiv, x_irem, x_ineg, x_dup, x_dup_x1, x_dup2, x_pop, x_goto, x_ifeq, x_ifne, x_iflt, x_ifge, x_ifgt, x_ifle, x_cmpeq, x_cmpne, x_cmplt, x_cmpge, x_cmpgt, x_cmple, x_null, x_nonnull, x_acmpeq, x_acmpne, x_get, x_put, x_putz, x_ald, x_ast, x_bast, x_zast, x_aast, x_alen, x_obj, x_ret, x_retz, x_vret, x_max, x_min, x_copy, x_i2l, qg_none, qg_inl, qg_inr, qg_ite, xr1, xr0, xrE, xri, xl0, xl1, xl2, xl3, xl4, xl5, xl6, xl7, xl8, xl9, xl10, xs0, xs1, xs2, xs3, xs4, xs5, xs6, xs7, xs8, xs9, xs10, xi0, xi1, xi2, xi3, xi4, xi5, xi6, xi7, xi8, xi9, xi10, xc0, xc1, xc2, xc3, xc4, xc5, xc6, xc7, xv1, xv2, xv3, xv4, xv5, xv6, xv7, dT_le, dF_le, dT_lt, dF_lt, k77, i1, j1, a1]
  · have hX0 : 0 ≤ X := by have := h2.1; omega
    obtain ⟨w1, w2, w3⟩ := zW_ticks st hW t.toNat (by omega)
    exact zcb_mono (zcb_lt hz2 a4 hW w1 (zlt_ticks st hW t.toNat (by omega)) ⟨by omega, by omega⟩) (by omega)
