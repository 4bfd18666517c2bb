theorem QR_one {A : zA} {ρ ρ' : Int → Int} (hQ : QR A ρ) (hf : ∀ i, i ≠ 1 → ρ' i = ρ i) (h1 : ρ' 1 = A.1 1 + 1) : QR (zOne A) ρ' := by
  obtain ⟨g0, g1, gC, gI, gB, gJ, gR, gD, gE⟩ := id hQ
  have gi : ∀ i, i ≠ 1 → (zOne A).1 i = A.1 i := fun i hi => if_neg hi
  refine ⟨by rw [hf _ (by omega)]; exact g0, h1, fun i i1 i2 => by rw [hf _ (by omega), gi _ (by omega)]; exact gC i i1 i2, fun b b1 b2 => by rw [hf _ (by omega)]; exact gI b b1 b2, fun b b1 b2 b3 => ?_, fun r r1 r2 => by rw [hf _ (by omega)]; exact gJ r r1 r2, fun r j r1 r2 r3 j1 j2 => by rw [hf _ (by omega)]; exact gR r j r1 r2 r3 j1 j2, fun r j r1 r2 r3 r9 j1 j2 => by rw [hf _ (by omega)]; exact gD r j r1 r2 r3 r9 j1 j2, fun b p b1 b2 b3 p1 p2 => ?_⟩
  · rw [hf _ (by omega), hf _ (by omega), hf _ (by omega), hf _ (by omega), hf _ (by omega), hf _ (by omega)]
    exact gB b b1 b2 b3
  · rw [hf _ (by omega), hf _ (by omega)]
    exact gE b p b1 b2 b3 p1 p2
theorem zcb_eq {m m' : Int → Int → Int} {X : Int} (h : zcb m X) (h77 : ∀ i, i = 9 ∨ i = 10 ∨ i = 11 → m' 77 i = m 77 i) (h85 : m' 85 = m 85) : zcb m' X := by
  unfold zcb at h ⊢
  rw [h77 9 (by decide), h77 10 (by decide), h77 11 (by decide), h85]
  exact h
theorem zcb_mono {m : Int → Int → Int} {X Y : Int} (h : zcb m X) (hXY : X ≤ Y) : zcb m Y := by
  obtain ⟨x1, x2, x3, x4⟩ := h
  exact ⟨by omega, by omega, by omega, fun r r1 r2 => by have := x4 r r1 r2; omega⟩
theorem MU_fm {um : Int} {U : Int → zA} {m m' : Int → Int → Int} (h : MU um U m) (hf : zfm m m') : MU um U m' := by
  obtain ⟨h1, h2, h3, h4⟩ := h
  refine ⟨by rw [hf.2 5 (by decide) (by decide) (by decide)]; exact h1, h2, h3, fun k k1 k2 => ?_⟩
  rw [hf.1 81 (by decide) (by decide) (by decide)]
  exact h4 k k1 k2
theorem MU_o {um : Int} {U : Int → zA} {m m' : Int → Int → Int} (h : MU um U m) (hf : ∀ c, c ≠ 79 → m' c = m c) : MU um U m' := by
  obtain ⟨h1, h2, h3, h4⟩ := h
  refine ⟨by rw [hf 77 (by decide)]; exact h1, h2, h3, fun k k1 k2 => ?_⟩
  rw [hf 81 (by decide)]
  exact h4 k k1 k2
theorem zfm_o {m m' : Int → Int → Int} (hf : ∀ c, c ≠ 79 → m' c = m c) : zfm m m' := ⟨fun c _ c2 _ => hf c c2, fun i _ _ _ => by rw [hf 77 (by decide)]⟩
theorem zfm_79 {m m' : Int → Int → Int} {i v : Int} (h : zfm m m') : zfm m (qa_up m' 79 i v) := h.trans (zfm_o (fun c hc => by funext j; exact qa_up_no _ (fun z => hc z.1)))
theorem zfm_85 {m m' : Int → Int → Int} (h : ∀ c, c ≠ 79 → m' c = m c) : m' 85 = m 85 := h 85 (by decide)
theorem m_packed {m : Int → Int → Int} {kd : Int → Nat × Int} {w : Nat × Nat × Nat} {k s v : Int} (hk : 0 ≤ k ∧ k ≤ 9) (hs : 1 ≤ s ∧ s ≤ 9) (hv : -99 ≤ v ∧ v ≤ 99) : f_X12_packed [(0, k), (0, s), (0, v)] (m, kd, w) = some (.inl (some (0, (k * 10 + s) * 200 + v + 99)), (m, kd, w)) := by
  unfold f_X12_packed
  refine qa_fn_eq ?_ (by simp)
  simp (disch := omega) [ev_X12_packed_0, B_X12_packed_0, x_const, x_iadd, x_isub, x_imul, x_idiv, x_irem, x_ineg, x_dup, x_dup_x1, x_dup2, x_pop, x_goto, x_ifeq, x_ifne, x_iflt, x_ifge, x_ifgt, x_ifle, x_cmpeq, x_cmpne, x_cmplt, x_cmpge, x_cmpgt, x_cmple, x_null, x_nonnull, x_acmpeq, x_acmpne, x_get, x_put, x_putz, x_ald, x_ast, x_bast, x_zast, x_aast, x_alen, x_obj, x_ret, x_retz, x_vret, x_max, x_min, x_copy, x_i2l, qg_none, qg_inl, qg_inr, qg_ite, xr1, xr0, xrE, xri, xl0, xl1, xl2, xl3, xl4, xl5, xl6, xl7, xl8, xl9, xl10, xs0, xs1, xs2, xs3, xs4, xs5, xs6, xs7, xs8, xs9, xs10, xi0, xi1, xi2, xi3, xi4, xi5, xi6, xi7, xi8, xi9, xi10, xc0, xc1, xc2, xc3, xc4, xc5, xc6, xc7, xv1, xv2, xv3, xv4, xv5, xv6, xv7, dT_le, dF_le, dT_lt, dF_lt]
theorem mDone_of {um : Int} {U : Int → zA} {A A' : zA} {ans : Int} {m m1 m2 : Int → Int → Int} {kd : Int → Nat × Int} {w : Nat × Nat × Nat} {res : Option qR} (h : res = some (.inl (some (0, ans)), (m2, kd, w))) (i2 : MU (zpu um) (zpU um U A) m1) (i3 : zfk m m1) (i5 : m1 85 = m 85) (i6 : m1 86 = m 86) (i7 : ∀ i, i ≠ 5 → m1 77 i = m 77 i) (i8 : ∀ i, m1 84 i = if i = 0 then m 84 0 + 1 else m 84 i) (hf : zfm m1 m2) (hQ : QR A' (m2 79)) (hX : ∀ X, X ≤ 50000000 → zcb m1 X → zcb m2 (X + 13000)) : mDone um U A A' ans m kd w res := by
  refine ⟨m2, h, MU_fm i2 hf, hQ, i3.trans hf.k, fun i => ?_, ?_, ?_, fun X h1 h2 => hX X h1 (zcb_eq h2 (fun i hi => i7 i (by omega)) i5)⟩
  · rw [hf.1 84 (by decide) (by decide) (by decide)]; exact i8 i
  · rw [hf.1 86 (by decide) (by decide) (by decide)]; exact i6
  · rw [hf.2 14 (by decide) (by decide) (by decide)]; exact i7 14 (by decide)
theorem ma_append {m : Int → Int → Int} {kd : Int → Nat × Int} {w : Nat × Nat × Nat} {A : zA} (hK : KM kd) (hR : RM m) (hQ : QR A (m 79)) {M : Int} (hW : zW M A) {um : Int} {U : Int → zA} (hU : MU um U m) (hUW : ∀ k, 0 ≤ k → k < um → zW M (U k)) (ha : ∀ i, 0 ≤ i → i ≤ 10 → 0 ≤ m 84 i ∧ m 84 i < 100000000) (hX : zcb m 50000000) {st : Int → Int} (hS : QS st m) (hs : zS st) {b ky sz vv : Int} (hb : zBl A b) (h5 : A.2.1 b 5 < 512) (hM : M + 1 < 500000) (h1 : A.1 1 < 1000) (hk : 0 ≤ ky ∧ ky ≤ 9) (hz : 1 ≤ sz ∧ sz ≤ 9) (hv : -99 ≤ vv ∧ vv ≤ 99) : mDone um U A (zApp st A b ky sz vv) (A.2.1 b 5) m kd w (f_X12_appends [(1, 77), (0, b), (0, ky), (0, sz), (0, vv)] (m, kd, w)) := by
  obtain ⟨m1, i1, i2, i3, i4, i5, i6, i7, i8⟩ := m_keeps (w := w) hK hR hQ hW hU hUW (ha 0 (by decide) (by decide))
  have hR1 := zfk_RM i3 hR
  have hQ1 : QR A (m1 79) := by rw [i4]; exact hQ
  have hbn := hW.bn hb
  have hen := m_endOf (w := w) hK hR1 hQ1 hb ⟨hbn.1, hbn.2.1, hbn.2.2.1⟩
  obtain ⟨m2, j1, j2, j3⟩ := m_adds (w := w) (t := A.1 0) hK hR1 hQ1 hW hb h5 hk hz hv
  have pk := m_packed (m := m1) (kd := kd) (w := w) hk hz hv
  have t1 : m2 79 1 = A.1 1 := j2.2.1
  have t0 : m1 79 0 = A.1 0 := hQ1.1
  have hf2 : ∀ c, c ≠ 79 → qa_up m2 79 1 (A.1 1 + 1) c = m1 c := fun c hc => by
    rw [← j3 c hc]
    funext i
    exact qa_up_no _ (fun z => hc z.1)
  have hR3 : RM (qa_up m2 79 1 (A.1 1 + 1)) := zfm_RM (zfm_o hf2) hR1
  have hQ3 : QR (zOne (zAdd A b (A.1 0) ky sz vv)) ((qa_up m2 79 1 (A.1 1 + 1)) 79) := QR_one j2 (fun i hi => qa_up_no _ (fun z => hi z.2)) (qa_up_hit _ _ _ _)
  obtain ⟨a1, a2, a3⟩ := zW_app st hW hb h5 hM h1 hk hz hv
  have hS3 : QS st (qa_up m2 79 1 (A.1 1 + 1)) := fun i q1 q2 => by
    rw [hf2 78 (by decide), i3.1 78 (by decide) (by decide) (by decide) (by decide) (by decide) (by decide) (by decide)]
    exact hS i q1 q2
  have hX1 : ∀ X, zcb m1 X → zcb (qa_up m2 79 1 (A.1 1 + 1)) X := fun X h => zcb_eq h (fun i hi => by rw [hf2 77 (by decide)]) (hf2 85 (by decide))
  have hX3 : zcb (qa_up m2 79 1 (A.1 1 + 1)) 50000000 := hX1 _ (zcb_eq hX (fun i hi => i7 i (by omega)) i5)
  obtain ⟨m4, l1, l2, l3, l4⟩ := m_cuts (w := w) hK hR3 hQ3 a1 hS3 hs a2 (zcb_mono hX3 (by decide))
  have wn := hW.1.2.2.2.2
  obtain ⟨k77, k78, k79, k80, k81, k82, k83, k84, k85, k86, k87, k88, k89, k90⟩ := id hK
  have r2 := hR1.2.1
  have r2' : m2 77 2 = 79 := by rw [j3 77 (by decide)]; exact r2
  refine mDone_of (m1 := m1) (m2 := m4) ?_ i2 i3 i5 i6 i7 i8 ((zfm_o hf2).trans l3) l2 (fun X h1 h2 => zcb_lt (hX1 X h2) l4 a1 a3 (zle_cutB st a1 a2).lt (by decide))
  unfold f_X12_appends
  refine qa_fn_eq ?_ (by simp)
  simp (disch := omega) [ev_X12_appends_0, B_X12_appends_0, x_const, x_iadd, x_isub, x_imul, x_idiv, x_irem, x_ineg, x_dup, x_dup_x1, x_dup2, x_pop, x_goto, x_ifeq, x_ifne, x_iflt, x_ifge, x_ifgt, x_ifle, x_cmpeq, x_cmpne, x_cmplt, x_cmpge, x_cmpgt, x_cmple, x_null, x_nonnull, x_acmpeq, x_acmpne, x_get, x_put, x_putz, x_ald, x_ast, x_bast, x_zast, x_aast, x_alen, x_obj, x_ret, x_retz, x_vret, x_max, x_min, x_copy, x_i2l, qg_none, qg_inl, qg_inr, qg_ite, xr1, xr0, xrE, xri, xl0, xl1, xl2, xl3, xl4, xl5, xl6, xl7, xl8, xl9, xl10, xs0, xs1, xs2, xs3, xs4, xs5, xs6, xs7, xs8, xs9, xs10, xi0, xi1, xi2, xi3, xi4, xi5, xi6, xi7, xi8, xi9, xi10, xc0, xc1, xc2, xc3, xc4, xc5, xc6, xc7, xv1, xv2, xv3, xv4, xv5, xv6, xv7, dT_le, dF_le, dT_lt, dF_lt, dT_eq, dF_eq, qa_up_hit, qa_up_no, k77, k79, i1, hen, t0, pk, r2, r2', j1, t1, l1]
