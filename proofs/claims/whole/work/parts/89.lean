def zfj (m m' : Int → Int → Int) : Prop := (∀ c, c ≠ 77 → c ≠ 79 → c ≠ 80 → c ≠ 81 → c ≠ 84 → c ≠ 85 → c ≠ 86 → m' c = m c) ∧ ∀ i, i ≠ 0 → i ≠ 5 → i ≠ 9 → i ≠ 10 → i ≠ 11 → i ≠ 14 → m' 77 i = m 77 i
def mTry (um : Int) (U : Int → zA) (A : zA) (ans : Int) (m : Int → Int → Int) (kd : Int → Nat × Int) (w : Nat × Nat × Nat) (res : Option qR) : Prop := ∃ m', res = some (.inl (some (0, ans)), (m', kd, w)) ∧ MU um U m' ∧ QR A (m' 79) ∧ zfj m m' ∧ m' 84 = m 84 ∧ m' 86 = m 86 ∧ m' 77 14 = m 77 14 ∧ m' 77 0 = 0 ∧ ∀ X, X ≤ 50000000 → zcb m X → zcb m' (X + 13000)
theorem RM_0 {m m' : Int → Int → Int} (h : ∀ i, i ≠ 0 → i ≠ 5 → i ≠ 9 → i ≠ 10 → i ≠ 11 → i ≠ 14 → m' 77 i = m 77 i) (hR : RM m) : RM m' := by
  unfold RM at hR ⊢
  rw [h 1 (by decide) (by decide) (by decide) (by decide) (by decide) (by decide), h 2 (by decide) (by decide) (by decide) (by decide) (by decide) (by decide), h 3 (by decide) (by decide) (by decide) (by decide) (by decide) (by decide), h 4 (by decide) (by decide) (by decide) (by decide) (by decide) (by decide), h 6 (by decide) (by decide) (by decide) (by decide) (by decide) (by decide), h 7 (by decide) (by decide) (by decide) (by decide) (by decide) (by decide), h 8 (by decide) (by decide) (by decide) (by decide) (by decide) (by decide), h 12 (by decide) (by decide) (by decide) (by decide) (by decide) (by decide), h 13 (by decide) (by decide) (by decide) (by decide) (by decide) (by decide), h 15 (by decide) (by decide) (by decide) (by decide) (by decide) (by decide), h 23 (by decide) (by decide) (by decide) (by decide) (by decide) (by decide), h 25 (by decide) (by decide) (by decide) (by decide) (by decide) (by decide), h 26 (by decide) (by decide) (by decide) (by decide) (by decide) (by decide)]
  exact hR
theorem m_tryIn {m : Int → Int → Int} {kd : Int → Nat × Int} {w : Nat × Nat × Nat} {A : zA} (hK : KM kd) (hR : RM m) (hQ : QR A (m 79)) : ∃ m1 m2, f_X12_copies [(1, 79), (0, 0), (1, 80), (0, 0)] (qa_up m 77 0 0, kd, w) = some (.inl none, (m1, kd, w)) ∧ f_X12_countsAnew [(1, 77)] (m1, kd, w) = some (.inl none, (m2, kd, w)) ∧ RM m1 ∧ RM m2 ∧ QR A (m2 79) ∧ m2 79 = m 79 ∧ (∀ i, 0 ≤ i → i < 14622 → m2 80 i = m 79 i) ∧ (m2 77 9 = 0 ∧ m2 77 10 = 0 ∧ m2 77 11 = 0 ∧ ∀ r, 0 ≤ r → r < 6 → m2 85 r = 0) ∧ (∀ c, c ≠ 77 → c ≠ 79 → c ≠ 80 → c ≠ 85 → m2 c = m c) ∧ (∀ i, i ≠ 0 → i ≠ 9 → i ≠ 10 → i ≠ 11 → m2 77 i = m 77 i) ∧ m2 77 0 = 0 := by
  have k79 := hK.2.2.1
  have k80 := hK.2.2.2.1
  have cp := m_copies (m := qa_up m 77 0 0) (w := w) (t := 0) (h := 0) k79 k80 (by decide) (by decide) (by decide) (by decide)
  generalize hm1 : qa_cp (qa_up m 77 0 0) 79 0 80 0 14622 = m1 at cp
  have o1 : ∀ c i, c ≠ 80 → m1 c i = qa_up m 77 0 0 c i := fun c i hc => by rw [← hm1, qa_cp_no (Or.inl hc)]
  have hR1 : RM m1 := RM_0 (fun i h0 _ _ _ _ _ => by rw [o1 77 i (by decide), qa_up_no _ (fun z => h0 z.2)]) hR
  obtain ⟨m2, j1, j2, j3, j9, j10, j11, j85⟩ := m_countsAnew (w := w) hK hR1
  have e79 : m2 79 = m 79 := by
    rw [j3]
    funext i
    rw [o1 79 i (by decide), qa_up_no _ (by omega)]
  refine ⟨m1, m2, cp, j1, hR1, zfm_RM j2 hR1, by rw [e79]; exact hQ, e79, fun i i1 i2 => ?_, ⟨j9, j10, j11, j85⟩, fun c c1 c2 c3 c4 => ?_, fun i i1 i2 i3 i4 => ?_, ?_⟩
  · rw [j2.1 80 (by decide) (by decide) (by decide), ← hm1, qa_cp_y i1 (by omega), qa_up_no _ (by omega)]
    congr 1
    omega
  · rw [j2.1 c c1 c2 c4]
    funext i
    rw [o1 c i c3, qa_up_no _ (fun z => c1 z.1)]
  · rw [j2.2 i i2 i3 i4, o1 77 i (by decide), qa_up_no _ (fun z => i1 z.2)]
  · rw [j2.2 0 (by decide) (by decide) (by decide), o1 77 0 (by decide), qa_up_hit]
theorem m_tryOut {m : Int → Int → Int} {kd : Int → Nat × Int} {w : Nat × Nat × Nat} {A : zA} (hK : KM kd) (hR : RM m) (hQ : QR A (m 79)) {M : Int} (hW : zW M A) {um : Int} {U : Int → zA} (hU : MU um U m) {m2 m3 : Int → Int → Int} (h80 : ∀ i, 0 ≤ i → i < 14622 → m2 80 i = m 79 i) (ho : ∀ c, c ≠ 77 → c ≠ 79 → c ≠ 80 → c ≠ 85 → m2 c = m c) (hp : ∀ i, i ≠ 0 → i ≠ 9 → i ≠ 10 → i ≠ 11 → m2 77 i = m 77 i) (h0 : m2 77 0 = 0) (hf : zfm m2 m3) (hX : zcb m3 13000) : ∃ m4, f_X12_copies [(1, 80), (0, 0), (1, 79), (0, 0)] (m3, kd, w) = some (.inl none, (m4, kd, w)) ∧ m4 77 = m3 77 ∧ m4 85 = m3 85 ∧ MU um U m4 ∧ QR A (m4 79) ∧ zfj m m4 ∧ m4 84 = m 84 ∧ m4 86 = m 86 ∧ m4 77 14 = m 77 14 ∧ m4 77 0 = 0 ∧ ∀ X, X ≤ 50000000 → zcb m X → zcb m4 (X + 13000) := by
  have k79 := hK.2.2.1
  have k80 := hK.2.2.2.1
  have cp := m_copies (m := m3) (w := w) (t := 0) (h := 0) k80 k79 (by decide) (by decide) (by decide) (by decide)
  generalize hm4 : qa_cp m3 80 0 79 0 14622 = m4 at cp
  have o4 : ∀ c, c ≠ 79 → m4 c = m3 c := fun c hc => by
    funext i
    rw [← hm4, qa_cp_no (Or.inl hc)]
  have q7 : ∀ i, i ≠ 0 → i ≠ 9 → i ≠ 10 → i ≠ 11 → m4 77 i = m 77 i := fun i a b c d => by rw [o4 77 (by decide), hf.2 i b c d, hp i a b c d]
  have oc : ∀ c, c ≠ 77 → c ≠ 79 → c ≠ 80 → c ≠ 85 → m4 c = m c := fun c c1 c2 c3 c4 => by rw [o4 c c2, hf.1 c c1 c2 c4, ho c c1 c2 c3 c4]
  refine ⟨m4, cp, o4 77 (by decide), o4 85 (by decide), MU_x hU (q7 5 (by decide) (by decide) (by decide) (by decide)) (oc 81 (by decide) (by decide) (by decide) (by decide)), ?_, ⟨fun c c1 c2 c3 _ _ c6 _ => oc c c1 c2 c3 c6, fun i i1 _ i2 i3 i4 _ => q7 i i1 i2 i3 i4⟩, oc 84 (by decide) (by decide) (by decide) (by decide), oc 86 (by decide) (by decide) (by decide) (by decide), q7 14 (by decide) (by decide) (by decide) (by decide), ?_, fun X _ h => ?_⟩
  · refine QR_congr hW hQ (fun i i1 i2 => ?_)
    rw [← hm4, qa_cp_y i1 (by omega), hf.1 80 (by decide) (by decide) (by decide), h80 _ (by omega) (by omega)]
    congr 1
    omega
  · rw [o4 77 (by decide), hf.2 0 (by decide) (by decide) (by decide)]; exact h0
  · have hX0 : 0 ≤ X := by have := h.1; omega
    exact zcb_mono (zcb_eq hX (fun i _ => by rw [o4 77 (by decide)]) (o4 85 (by decide))) (by omega)
theorem m_aheadS {kd : Int → Nat × Int} {w : Nat × Nat × Nat} {m' m3 : Int → Int → Int} {t what kk : Int} (k77 : kd 77 = (15, 0)) (a1 : f_X12_ticks [(1, 77)] (m', kd, w) = some (.inl none, (m3, kd, w))) (h1 : 0 ≤ kk ∧ kk < t) (ht : t ≤ 99) : qa_ev P_X12_ahead 4 [(1, 77), (0, t), (0, what), (0, kk)] [] (m', kd, w) = qa_ev P_X12_ahead 4 [(1, 77), (0, t), (0, what), (0, kk + 1)] [] (m3, kd, w) := by
  rw [ev_X12_ahead_4]
  simp (disch := omega) [ev_X12_ahead_0, ev_X12_ahead_1, ev_X12_ahead_2, ev_X12_ahead_3, ev_X12_ahead_5, ev_X12_ahead_6, ev_X12_ahead_7, ev_X12_ahead_8, ev_X12_ahead_9, B_X12_ahead_0, B_X12_ahead_1, B_X12_ahead_2, B_X12_ahead_3, B_X12_ahead_4, B_X12_ahead_5, B_X12_ahead_6, B_X12_ahead_7, B_X12_ahead_8, B_X12_ahead_9, x_const, x_iadd, x_isub, x_imul, x_idiv, x_irem, x_ineg, x_dup, x_dup_x1, x_dup2, x_pop, x_goto, x_ifeq, x_ifne, x_iflt, x_ifge, x_ifgt, x_ifle, x_cmpeq, x_cmpne, x_cmplt, x_cmpge, x_cmpgt, x_cmple, x_null, x_nonnull, x_acmpeq, x_acmpne, x_get, x_put, x_putz, x_ald, x_ast, x_bast, x_zast, x_aast, x_alen, x_obj, x_ret, x_retz, x_vret, x_max, x_min, x_copy, x_i2l, qg_none, qg_inl, qg_inr, qg_ite, xr1, xr0, xrE, xri, xl0, xl1, xl2, xl3, xl4, xl5, xl6, xl7, xl8, xl9, xl10, xs0, xs1, xs2, xs3, xs4, xs5, xs6, xs7, xs8, xs9, xs10, xi0, xi1, xi2, xi3, xi4, xi5, xi6, xi7, xi8, xi9, xi10, xc0, xc1, xc2, xc3, xc4, xc5, xc6, xc7, xv1, xv2, xv3, xv4, xv5, xv6, xv7, dT_le, dF_le, dT_lt, dF_lt, k77, a1]
theorem m_aheadE {kd : Int → Nat × Int} {w : Nat × Nat × Nat} {m' m4 : Int → Int → Int} {t what v9 v10 v11 vg : Int} (k77 : kd 77 = (15, 0)) (k79 : kd 79 = (101, 14622)) (r2 : m' 77 2 = 79) (r3 : m' 77 3 = 80) (e9 : m' 77 9 = v9) (e10 : m' 77 10 = v10) (e11 : m' 77 11 = v11) (gt : f_X12_greatestTotal [(1, 77)] (m', kd, w) = some (.inl (some (0, vg)), (m', kd, w))) (cp : f_X12_copies [(1, 80), (0, 0), (1, 79), (0, 0)] (m', kd, w) = some (.inl none, (m4, kd, w))) (hw : 0 ≤ what ∧ what ≤ 3) : qa_ev P_X12_ahead 4 [(1, 77), (0, t), (0, what), (0, t)] [] (m', kd, w) = some (.inl (some (0, if what = 0 then v9 else if what = 1 then v10 else if what = 2 then v11 else vg)), (m4, kd, w)) := by
  rw [ev_X12_ahead_4]
  have hq : what = 0 ∨ what = 1 ∨ what = 2 ∨ what = 3 := by omega
  rcases hq with rfl | rfl | rfl | rfl <;>
  · simp (disch := omega) [ev_X12_ahead_0, ev_X12_ahead_1, ev_X12_ahead_2, ev_X12_ahead_3, ev_X12_ahead_5, ev_X12_ahead_6, ev_X12_ahead_7, ev_X12_ahead_8, ev_X12_ahead_9, B_X12_ahead_0, B_X12_ahead_1, B_X12_ahead_2, B_X12_ahead_3, B_X12_ahead_4, B_X12_ahead_5, B_X12_ahead_6, B_X12_ahead_7, B_X12_ahead_8, B_X12_ahead_9, x_const, x_iadd, x_isub, x_imul, x_idiv, x_irem, x_ineg, x_dup, x_dup_x1, x_dup2, x_pop, x_goto, x_ifeq, x_ifne, x_iflt, x_ifge, x_ifgt, x_ifle, x_cmpeq, x_cmpne, x_cmplt, x_cmpge, x_cmpgt, x_cmple, x_null, x_nonnull, x_acmpeq, x_acmpne, x_get, x_put, x_putz, x_ald, x_ast, x_bast, x_zast, x_aast, x_alen, x_obj, x_ret, x_retz, x_vret, x_max, x_min, x_copy, x_i2l, qg_none, qg_inl, qg_inr, qg_ite, xr1, xr0, xrE, xri, xl0, xl1, xl2, xl3, xl4, xl5, xl6, xl7, xl8, xl9, xl10, xs0, xs1, xs2, xs3, xs4, xs5, xs6, xs7, xs8, xs9, xs10, xi0, xi1, xi2, xi3, xi4, xi5, xi6, xi7, xi8, xi9, xi10, xc0, xc1, xc2, xc3, xc4, xc5, xc6, xc7, xv1, xv2, xv3, xv4, xv5, xv6, xv7, dT_le, dF_le, dT_lt, dF_lt, k77, k79, r2, r3, e9, e10, e11, gt, cp]
theorem ma_ahead {m : Int → Int → Int} {kd : Int → Nat × Int} {w : Nat × Nat × Nat} {A : zA} (hK : KM kd) (hR : RM m) (hQ : QR A (m 79)) {M : Int} (hW : zW M A) {um : Int} {U : Int → zA} (hU : MU um U m) (hUW : ∀ k, 0 ≤ k → k < um → zW M (U k)) (ha : ∀ i, 0 ≤ i → i ≤ 10 → 0 ≤ m 84 i ∧ m 84 i < 100000000) {st : Int → Int} (hS : QS st m) (hs : zS st) {t what : Int} (ht : 1 ≤ t ∧ t ≤ 99) (hw : 0 ≤ what ∧ what ≤ 3) (h0 : A.1 0 + 99 ≤ 1000000) : mTry um U A (vAhead A st t what) m kd w (f_X12_ahead [(1, 77), (0, t), (0, what)] (m, kd, w)) := by
  have rg := m_in (m := m) (kd := kd) (w := w) t 1 99
  rw [if_pos ht] at rg
  have rg2 := m_in (m := m) (kd := kd) (w := w) what 0 3
  rw [if_pos hw] at rg2
  obtain ⟨m1, m2, i1, i2, hR1, hR2, hQ2, i4, i80, ⟨j9, j10, j11, j85⟩, io, ip, i0⟩ := m_tryIn (w := w) hK hR hQ
  have k77 := hK.1
  have k79 := hK.2.2.1
  have hS2 : QS st m2 := fun i q1 q2 => by
    rw [io 78 (by decide) (by decide) (by decide) (by decide)]
    exact hS i q1 q2
  have hz2 := zcb_0 j9 j10 j11 j85
  have loop : ∀ (q k : Nat) (m' : Int → Int → Int), (k : Int) + q = t → QR (zTicks st k A) (m' 79) → zfm m2 m' → zcn m2 A m' (zTicks st k A) → ∃ m'', qa_ev P_X12_ahead 4 [(1, 77), (0, t), (0, what), (0, k)] [] (m', kd, w) = qa_ev P_X12_ahead 4 [(1, 77), (0, t), (0, what), (0, t)] [] (m'', kd, w) ∧ QR (zTicks st t.toNat A) (m'' 79) ∧ zfm m2 m'' ∧ zcn m2 A m'' (zTicks st t.toNat A) := by
    intro q
    induction q with
    | zero =>
      intro k m' h1 hQ' hf hn
      have ek : t.toNat = k := by omega
      rw [ek]
      have et : t = (k : Int) := by omega
      exact ⟨m', by rw [et], hQ', hf, hn⟩
    | succ q ih =>
      intro k m' h1 hQ' hf hn
      obtain ⟨w1, w2, w3⟩ := zW_ticks st hW k (by omega)
      have hR' := zfm_RM hf hR2
      have hX' : zcb m' 60000000 := zcb_mono (zcb_lt hz2 hn hW w1 (zlt_ticks st hW k (by omega)) ⟨by omega, by omega⟩) (by omega)
      obtain ⟨m3, a1, a2, a3, a4⟩ := m_ticks (w := w) hK hR' hQ' w1 (by rw [w3]; omega) (hS2.fm hf) hs hX'
      obtain ⟨m4, g1, g2, g3, g4⟩ := ih (k + 1) m3 (by omega) a2 (hf.trans a3) (hn.trans a4)
      refine ⟨m4, ?_, g2, g3, g4⟩
      have ek : ((k + 1 : Nat) : Int) = (k : Int) + 1 := by omega
      rw [ek] at g1
      rw [m_aheadS k77 a1 ⟨by omega, by omega⟩ ht.2]
      exact g1
  obtain ⟨m3, a1, a2, a3, a4⟩ := loop t.toNat 0 m2 (by omega) hQ2 (zfm.refl _) (zcn.refl _ _)
  obtain ⟨w1, w2, w3⟩ := zW_ticks st hW t.toNat (by omega)
  have hX3 : zcb m3 13000 := zcb_mono (zcb_lt hz2 a4 hW w1 (zlt_ticks st hW t.toNat (by omega)) ⟨by omega, by omega⟩) (by omega)
  obtain ⟨m4, o1, o2, o3, o4, o5, o6, o7, o8, o9, o10, o11⟩ := m_tryOut (w := w) hK hR hQ hW hU i80 io ip i0 a3 hX3
  have hR3 := zfm_RM a3 hR2
  have gt := m_greatestTotal (w := w) hK hR3 a2
  have e9 : m3 77 9 = zgs (zTicks st t.toNat A) - zgs A := by have := a4.1; rw [j9] at this; omega
  have e10 : m3 77 10 = zbs (zTicks st t.toNat A) - zbs A := by have := a4.2.1; rw [j10] at this; omega
  have e11 : m3 77 11 = zds (zTicks st t.toNat A) - zds A := by have := a4.2.2.1; rw [j11] at this; omega
  have ee := m_aheadE (t := t) (what := what) k77 k79 hR3.2.1 hR3.2.2.1 e9 e10 e11 gt o1 hw
  simp only [Int.natCast_zero] at a1
  rw [ee] at a1
  have r2 : m 77 2 = 79 := hR.2.1
  have r3 : m 77 3 = 80 := hR.2.2.1
  refine ⟨m4, ?_, o4, o5, o6, o7, o8, o9, o10, o11⟩
  unfold f_X12_ahead
  refine qa_fn_eq ?_ (by simp)
  simp (disch := omega) [ev_X12_ahead_0, ev_X12_ahead_1, ev_X12_ahead_2, ev_X12_ahead_3, ev_X12_ahead_5, ev_X12_ahead_6, ev_X12_ahead_7, ev_X12_ahead_8, ev_X12_ahead_9, B_X12_ahead_0, B_X12_ahead_1, B_X12_ahead_2, B_X12_ahead_3, B_X12_ahead_4, B_X12_ahead_5, B_X12_ahead_6, B_X12_ahead_7, B_X12_ahead_8, B_X12_ahead_9, x_const, x_iadd, x_isub, x_imul, x_idiv, x_irem, x_ineg, x_dup, x_dup_x1, x_dup2, x_pop, x_goto, x_ifeq, x_ifne, x_iflt, x_ifge, x_ifgt, x_ifle, x_cmpeq, x_cmpne, x_cmplt, x_cmpge, x_cmpgt, x_cmple, x_null, x_nonnull, x_acmpeq, x_acmpne, x_get, x_put, x_putz, x_ald, x_ast, x_bast, x_zast, x_aast, x_alen, x_obj, x_ret, x_retz, x_vret, x_max, x_min, x_copy, x_i2l, qg_none, qg_inl, qg_inr, qg_ite, xr1, xr0, xrE, xri, xl0, xl1, xl2, xl3, xl4, xl5, xl6, xl7, xl8, xl9, xl10, xs0, xs1, xs2, xs3, xs4, xs5, xs6, xs7, xs8, xs9, xs10, xi0, xi1, xi2, xi3, xi4, xi5, xi6, xi7, xi8, xi9, xi10, xc0, xc1, xc2, xc3, xc4, xc5, xc6, xc7, xv1, xv2, xv3, xv4, xv5, xv6, xv7, dT_le, dF_le, dT_lt, dF_lt, dT_eq, dF_eq, qa_up_hit, qa_up_no, k77, k79, rg, rg2, r2, r3, i1, i2, a1, vAhead]
theorem ma_aheadX {m : Int → Int → Int} {kd : Int → Nat × Int} {w : Nat × Nat × Nat} (hK : KM kd) (hR : RM m) {t what : Int} (h : ¬ ((1 ≤ t ∧ t ≤ 99) ∧ 0 ≤ what ∧ what ≤ 3)) : f_X12_ahead [(1, 77), (0, t), (0, what)] (m, kd, w) = mAns (1, 0) m kd w := by
  have rg := m_in (m := m) (kd := kd) (w := w) t 1 99
  have rg2 := m_in (m := m) (kd := kd) (w := w) what 0 3
  have k77 := hK.1
  rw [mAns_e]
  by_cases ht : 1 ≤ t ∧ t ≤ 99
  · rw [if_pos ht] at rg
    rw [if_neg (fun z => h ⟨ht, z⟩)] at rg2
    unfold f_X12_ahead
    refine qa_fn_eq ?_ (by simp)
    simp (disch := omega) [ev_X12_ahead_0, ev_X12_ahead_1, ev_X12_ahead_2, ev_X12_ahead_3, ev_X12_ahead_5, ev_X12_ahead_6, ev_X12_ahead_7, ev_X12_ahead_8, ev_X12_ahead_9, B_X12_ahead_0, B_X12_ahead_1, B_X12_ahead_2, B_X12_ahead_3, B_X12_ahead_4, B_X12_ahead_5, B_X12_ahead_6, B_X12_ahead_7, B_X12_ahead_8, B_X12_ahead_9, x_const, x_iadd, x_isub, x_imul, x_idiv, x_irem, x_ineg, x_dup, x_dup_x1, x_dup2, x_pop, x_goto, x_ifeq, x_ifne, x_iflt, x_ifge, x_ifgt, x_ifle, x_cmpeq, x_cmpne, x_cmplt, x_cmpge, x_cmpgt, x_cmple, x_null, x_nonnull, x_acmpeq, x_acmpne, x_get, x_put, x_putz, x_ald, x_ast, x_bast, x_zast, x_aast, x_alen, x_obj, x_ret, x_retz, x_vret, x_max, x_min, x_copy, x_i2l, qg_none, qg_inl, qg_inr, qg_ite, xr1, xr0, xrE, xri, xl0, xl1, xl2, xl3, xl4, xl5, xl6, xl7, xl8, xl9, xl10, xs0, xs1, xs2, xs3, xs4, xs5, xs6, xs7, xs8, xs9, xs10, xi0, xi1, xi2, xi3, xi4, xi5, xi6, xi7, xi8, xi9, xi10, xc0, xc1, xc2, xc3, xc4, xc5, xc6, xc7, xv1, xv2, xv3, xv4, xv5, xv6, xv7, dT_le, dF_le, dT_lt, dF_lt, dT_eq, dF_eq, qa_up_hit, qa_up_no, k77, rg, rg2]
  · rw [if_neg ht] at rg
    unfold f_X12_ahead
    refine qa_fn_eq ?_ (by simp)
    simp (disch := omega) [ev_X12_ahead_0, ev_X12_ahead_1, ev_X12_ahead_2, ev_X12_ahead_3, ev_X12_ahead_5, ev_X12_ahead_6, ev_X12_ahead_7, ev_X12_ahead_8, ev_X12_ahead_9, B_X12_ahead_0, B_X12_ahead_1, B_X12_ahead_2, B_X12_ahead_3, B_X12_ahead_4, B_X12_ahead_5, B_X12_ahead_6, B_X12_ahead_7, B_X12_ahead_8, B_X12_ahead_9, x_const, x_iadd, x_isub, x_imul, x_idiv, x_irem, x_ineg, x_dup, x_dup_x1, x_dup2, x_pop, x_goto, x_ifeq, x_ifne, x_iflt, x_ifge, x_ifgt, x_ifle, x_cmpeq, x_cmpne, x_cmplt, x_cmpge, x_cmpgt, x_cmple, x_null, x_nonnull, x_acmpeq, x_acmpne, x_get, x_put, x_putz, x_ald, x_ast, x_bast, x_zast, x_aast, x_alen, x_obj, x_ret, x_retz, x_vret, x_max, x_min, x_copy, x_i2l, qg_none, qg_inl, qg_inr, qg_ite, xr1, xr0, xrE, xri, xl0, xl1, xl2, xl3, xl4, xl5, xl6, xl7, xl8, xl9, xl10, xs0, xs1, xs2, xs3, xs4, xs5, xs6, xs7, xs8, xs9, xs10, xi0, xi1, xi2, xi3, xi4, xi5, xi6, xi7, xi8, xi9, xi10, xc0, xc1, xc2, xc3, xc4, xc5, xc6, xc7, xv1, xv2, xv3, xv4, xv5, xv6, xv7, dT_le, dF_le, dT_lt, dF_lt, dT_eq, dF_eq, qa_up_hit, qa_up_no, k77, rg]
