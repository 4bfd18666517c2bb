theorem m_copies {m : Int → Int → Int} {kd : Int → Nat × Int} {w : Nat × Nat × Nat} {s t d h Ls Ld : Int} (k1 : kd s = (101, Ls)) (k2 : kd d = (101, Ld)) (hne : s ≠ d) (b1 : 0 ≤ t ∧ t + 14622 ≤ Ls) (b2 : 0 ≤ h ∧ h + 14622 ≤ Ld) (b3 : Ls < 1000000 ∧ Ld < 1000000) : f_X12_copies [(1, s), (0, t), (1, d), (0, h)] (m, kd, w) = some (.inl none, (qa_cp m s t d h 14622, kd, w)) := by
  have up : ∀ k, 0 ≤ k → qa_up (qa_cp m s t d h k) d (h + k) (m s (t + k)) = qa_cp m s t d h (k + 1) := fun k hk => by
    funext c i
    unfold qa_up qa_cp
    by_cases hc : c = d
    · by_cases hi : i = h + k
      · rw [if_pos ⟨hc, hi⟩, if_pos ⟨hc, by omega, by omega⟩, hi, show h + k - h = k by omega]
      · rw [if_neg (fun z => hi z.2)]
        by_cases hh : h ≤ i ∧ i < h + k
        · rw [if_pos ⟨hc, hh⟩, if_pos ⟨hc, by omega, by omega⟩]
        · rw [if_neg (fun z => hh z.2), if_neg (by omega)]
    · rw [if_neg (fun z => hc z.1), if_neg (fun z => hc z.1), if_neg (fun z => hc z.1)]
  have loop : ∀ (n : Nat) (k : Int), 0 ≤ k → k + n = 14622 → qa_ev P_X12_copies 1 [(1, s), (0, t), (1, d), (0, h), (0, k)] [] (qa_cp m s t d h k, kd, w) = some (.inl none, (qa_cp m s t d h 14622, kd, w)) := by
    intro n
    induction n with
    | zero =>
      intro k h1 h2
      obtain rfl : k = 14622 := by omega
      rw [ev_X12_copies_1]
      simp (disch := omega) [ev_X12_copies_0, ev_X12_copies_2, B_X12_copies_0, B_X12_copies_1, B_X12_copies_2, x_const, x_iadd, x_isub, x_imul, x_idiv, x_irem, x_ineg, x_dup, x_dup_x1, x_dup2, x_pop, x_goto, x_ifeq, x_ifne, x_iflt, x_ifge, x_ifgt, x_ifle, x_cmpeq, x_cmpne, x_cmplt, x_cmpge, x_cmpgt, x_cmple, x_null, x_nonnull, x_acmpeq, x_acmpne, x_get, x_put, x_putz, x_ald, x_ast, x_bast, x_zast, x_aast, x_alen, x_obj, x_ret, x_retz, x_vret, x_max, x_min, x_copy, x_i2l, qg_none, qg_inl, qg_inr, qg_ite, xr1, xr0, xrE, xri, xl0, xl1, xl2, xl3, xl4, xl5, xl6, xl7, xl8, xl9, xl10, xs0, xs1, xs2, xs3, xs4, xs5, xs6, xs7, xs8, xs9, xs10, xi0, xi1, xi2, xi3, xi4, xi5, xi6, xi7, xi8, xi9, xi10, xc0, xc1, xc2, xc3, xc4, xc5, xc6, xc7, xv1, xv2, xv3, xv4, xv5, xv6, xv7, dT_le, dF_le, dT_lt, dF_lt]
    | succ n ih =>
      intro k h1 h2
      have ih' := ih (k + 1) (by omega) (by omega)
      have r : qa_cp m s t d h k s (t + k) = m s (t + k) := if_neg (fun z => hne z.1)
      rw [ev_X12_copies_1]
      simp (disch := omega) [ev_X12_copies_0, ev_X12_copies_2, B_X12_copies_0, B_X12_copies_1, B_X12_copies_2, x_const, x_iadd, x_isub, x_imul, x_idiv, x_irem, x_ineg, x_dup, x_dup_x1, x_dup2, x_pop, x_goto, x_ifeq, x_ifne, x_iflt, x_ifge, x_ifgt, x_ifle, x_cmpeq, x_cmpne, x_cmplt, x_cmpge, x_cmpgt, x_cmple, x_null, x_nonnull, x_acmpeq, x_acmpne, x_get, x_put, x_putz, x_ald, x_ast, x_bast, x_zast, x_aast, x_alen, x_obj, x_ret, x_retz, x_vret, x_max, x_min, x_copy, x_i2l, qg_none, qg_inl, qg_inr, qg_ite, xr1, xr0, xrE, xri, xl0, xl1, xl2, xl3, xl4, xl5, xl6, xl7, xl8, xl9, xl10, xs0, xs1, xs2, xs3, xs4, xs5, xs6, xs7, xs8, xs9, xs10, xi0, xi1, xi2, xi3, xi4, xi5, xi6, xi7, xi8, xi9, xi10, xc0, xc1, xc2, xc3, xc4, xc5, xc6, xc7, xv1, xv2, xv3, xv4, xv5, xv6, xv7, dT_le, dF_le, dT_lt, dF_lt, k1, k2, r, up k h1, ih']
  have lp := loop 14622 0 (by decide) (by decide)
  have e0 : qa_cp m s t d h 0 = m := by
    funext c i
    unfold qa_cp
    rw [if_neg (by omega)]
  rw [e0] at lp
  unfold f_X12_copies
  refine qa_fn_eq ?_ (by simp)
  simp (disch := omega) [ev_X12_copies_0, ev_X12_copies_2, B_X12_copies_0, B_X12_copies_1, B_X12_copies_2, x_const, x_iadd, x_isub, x_imul, x_idiv, x_irem, x_ineg, x_dup, x_dup_x1, x_dup2, x_pop, x_goto, x_ifeq, x_ifne, x_iflt, x_ifge, x_ifgt, x_ifle, x_cmpeq, x_cmpne, x_cmplt, x_cmpge, x_cmpgt, x_cmple, x_null, x_nonnull, x_acmpeq, x_acmpne, x_get, x_put, x_putz, x_ald, x_ast, x_bast, x_zast, x_aast, x_alen, x_obj, x_ret, x_retz, x_vret, x_max, x_min, x_copy, x_i2l, qg_none, qg_inl, qg_inr, qg_ite, xr1, xr0, xrE, xri, xl0, xl1, xl2, xl3, xl4, xl5, xl6, xl7, xl8, xl9, xl10, xs0, xs1, xs2, xs3, xs4, xs5, xs6, xs7, xs8, xs9, xs10, xi0, xi1, xi2, xi3, xi4, xi5, xi6, xi7, xi8, xi9, xi10, xc0, xc1, xc2, xc3, xc4, xc5, xc6, xc7, xv1, xv2, xv3, xv4, xv5, xv6, xv7, dT_le, dF_le, dT_lt, dF_lt, lp]
theorem QR_congr {A : zA} {ρ ρ' : Int → Int} {M : Int} (hW : zW M A) (hQ : QR A ρ) (h : ∀ i, 0 ≤ i → i < 14622 → ρ' i = ρ i) : QR A ρ' := by
  obtain ⟨g0, g1, gC, gI, gB, gJ, gR, gD, gE⟩ := id hQ
  refine ⟨by rw [h _ (by omega) (by omega)]; exact g0, by rw [h _ (by omega) (by omega)]; exact g1, fun i i1 i2 => by rw [h _ (by omega) (by omega)]; exact gC i i1 i2, fun b b1 b2 => by rw [h _ (by omega) (by omega)]; exact gI b b1 b2, fun b b1 b2 b3 => ?_, fun r r1 r2 => by rw [h _ (by omega) (by omega)]; exact gJ r r1 r2, fun r j r1 r2 r3 j1 j2 => by rw [h _ (by omega) (by omega)]; exact gR r j r1 r2 r3 j1 j2, fun r j r1 r2 r3 r9 j1 j2 => by rw [h _ (by omega) (by omega)]; exact gD r j r1 r2 r3 r9 j1 j2, fun b p b1 b2 b3 p1 p2 => ?_⟩
  · rw [h _ (by omega) (by omega), h _ (by omega) (by omega), h _ (by omega) (by omega), h _ (by omega) (by omega), h _ (by omega) (by omega), h _ (by omega) (by omega)]
    exact gB b b1 b2 b3
  · have hbn := hW.bn ⟨b1, b2, b3⟩
    rw [h _ (by omega) (by omega), h _ (by omega) (by omega)]
    exact gE b p b1 b2 b3 p1 p2
def MU (um : Int) (U : Int → zA) (m : Int → Int → Int) : Prop := m 77 5 = um ∧ 0 ≤ um ∧ um ≤ 8 ∧ ∀ k, 0 ≤ k → k < um → QR (U k) (fun j => m 81 (14622 * k + j))
def zks (m : Int → Int → Int) (k : Int) : Int → Int → Int := fun c i => if c = 81 ∧ 0 ≤ i ∧ i < k then m 81 (i + 14622) else m c i
theorem zks_no {m : Int → Int → Int} {k c i : Int} (h : c ≠ 81 ∨ i < 0 ∨ k ≤ i) : zks m k c i = m c i := if_neg (by omega)
theorem zks_up {m : Int → Int → Int} {k : Int} (hk : 0 ≤ k) : qa_up (zks m k) 81 k (m 81 (k + 14622)) = zks m (k + 1) := by
  funext c i
  by_cases hc : c = 81
  · by_cases hi : i = k
    · rw [qa_up_at _ ⟨hc, hi⟩]
      unfold zks
      rw [if_pos (by omega), hi]
    · rw [qa_up_no _ (fun z => hi z.2)]
      unfold zks
      by_cases hh : 0 ≤ i ∧ i < k
      · rw [if_pos ⟨hc, hh⟩, if_pos (by omega)]
      · rw [if_neg (fun z => hh z.2), if_neg (by omega)]
  · rw [qa_up_no _ (fun z => hc z.1), zks_no (Or.inl hc), zks_no (Or.inl hc)]
def zfk (m m' : Int → Int → Int) : Prop := (∀ c, c ≠ 77 → c ≠ 79 → c ≠ 80 → c ≠ 81 → c ≠ 84 → c ≠ 85 → c ≠ 86 → m' c = m c) ∧ ∀ i, i ≠ 5 → i ≠ 9 → i ≠ 10 → i ≠ 11 → i ≠ 14 → m' 77 i = m 77 i
theorem zfk.refl (m : Int → Int → Int) : zfk m m := ⟨fun _ _ _ _ _ _ _ _ => rfl, fun _ _ _ _ _ _ => rfl⟩
theorem zfk.trans {m m' m'' : Int → Int → Int} (h : zfk m m') (k : zfk m' m'') : zfk m m'' := ⟨fun c c1 c2 c3 c4 c5 c6 c7 => (k.1 c c1 c2 c3 c4 c5 c6 c7).trans (h.1 c c1 c2 c3 c4 c5 c6 c7), fun i i1 i2 i3 i4 i5 => (k.2 i i1 i2 i3 i4 i5).trans (h.2 i i1 i2 i3 i4 i5)⟩
theorem zfm.k {m m' : Int → Int → Int} (h : zfm m m') : zfk m m' := ⟨fun c c1 c2 _ _ _ c6 _ => h.1 c c1 c2 c6, fun i _ i2 i3 i4 _ => h.2 i i2 i3 i4⟩
theorem zfk_RM {m m' : Int → Int → Int} (h : zfk m m') (hR : RM m) : RM m' := by
  unfold RM at hR ⊢
  have e := fun i => h.2 i
  rw [e 1 (by decide) (by decide) (by decide) (by decide) (by decide), e 2 (by decide) (by decide) (by decide) (by decide) (by decide), e 3 (by decide) (by decide) (by decide) (by decide) (by decide), e 4 (by decide) (by decide) (by decide) (by decide) (by decide), e 6 (by decide) (by decide) (by decide) (by decide) (by decide), e 7 (by decide) (by decide) (by decide) (by decide) (by decide), e 8 (by decide) (by decide) (by decide) (by decide) (by decide), e 12 (by decide) (by decide) (by decide) (by decide) (by decide), e 13 (by decide) (by decide) (by decide) (by decide) (by decide), e 15 (by decide) (by decide) (by decide) (by decide) (by decide), e 23 (by decide) (by decide) (by decide) (by decide) (by decide), e 25 (by decide) (by decide) (by decide) (by decide) (by decide), e 26 (by decide) (by decide) (by decide) (by decide) (by decide)]
  exact hR
theorem m_keeps {m : Int → Int → Int} {kd : Int → Nat × Int} {w : Nat × Nat × Nat} {A : zA} (hK : KM kd) (hR : RM m) (hQ : QR A (m 79)) {M : Int} (hW : zW M A) {um : Int} {U : Int → zA} (hU : MU um U m) (hUW : ∀ k, 0 ≤ k → k < um → zW M (U k)) (ha : 0 ≤ m 84 0 ∧ m 84 0 < 100000000) : ∃ m', f_X12_keeps [(1, 77)] (m, kd, w) = some (.inl none, (m', kd, w)) ∧ MU (zpu um) (zpU um U A) m' ∧ zfk m m' ∧ m' 79 = m 79 ∧ m' 85 = m 85 ∧ m' 86 = m 86 ∧ (∀ i, i ≠ 5 → m' 77 i = m 77 i) ∧ ∀ i, m' 84 i = if i = 0 then m 84 0 + 1 else m 84 i := by
  have tail : ∀ (m1 : Int → Int → Int) (u1 : Int) (U1 : Int → zA) (l1 : qV), MU u1 U1 m1 → u1 ≤ 7 → (∀ k, 0 ≤ k → k < u1 → zW M (U1 k)) → (∀ c, c ≠ 81 → c ≠ 77 → m1 c = m c) → (∀ i, i ≠ 5 → m1 77 i = m 77 i) → ∃ m', qa_ev P_X12_keeps 3 [(1, 77), l1] [] (m1, kd, w) = some (.inl none, (m', kd, w)) ∧ MU (u1 + 1) (fun k => if k = u1 then A else U1 k) m' ∧ zfk m m' ∧ m' 79 = m 79 ∧ m' 85 = m 85 ∧ m' 86 = m 86 ∧ (∀ i, i ≠ 5 → m' 77 i = m 77 i) ∧ ∀ i, m' 84 i = if i = 0 then m 84 0 + 1 else m 84 i := by
    intro m1 u1 U1 l1 hU1 hu7 hUW1 h81 h77
    obtain ⟨v1, v2, v3, v4⟩ := id hU1
    have hR1 : RM m1 := by
      unfold RM at hR ⊢
      rw [h77 1 (by decide), h77 2 (by decide), h77 3 (by decide), h77 4 (by decide), h77 6 (by decide), h77 7 (by decide), h77 8 (by decide), h77 12 (by decide), h77 13 (by decide), h77 15 (by decide), h77 23 (by decide), h77 25 (by decide), h77 26 (by decide)]
      exact hR
    obtain ⟨k77, k78, k79, k80, k81, k82, k83, k84, k85, k86, k87, k88, k89, k90⟩ := id hK
    obtain ⟨r1, r2, r3, r4, r6, r7, r8, r12, r13, r15, r23, r25, r26⟩ := id hR1
    have hcp := m_copies (m := m1) (w := w) (s := 79) (t := 0) (d := 81) (h := 14622 * u1) k79 k81 (by decide) (by decide) (by omega) (by decide)
    have a84 : m1 84 0 = m 84 0 := by rw [h81 84 (by decide) (by decide)]
    refine ⟨qa_up (qa_up (qa_cp m1 79 0 81 (14622 * u1) 14622) 77 5 (u1 + 1)) 84 0 (m 84 0 + 1), ?_, ?_, ?_, ?_, ?_, ?_, ?_, ?_⟩
    · rw [ev_X12_keeps_3]
      have c1 : ∀ c i, c ≠ 81 → qa_cp m1 79 0 81 (14622 * u1) 14622 c i = m1 c i := fun c i hc => if_neg (fun z => hc z.1)
      have c2 := c1 77
      simp (disch := omega) [ev_X12_keeps_0, ev_X12_keeps_2, B_X12_keeps_0, B_X12_keeps_1, B_X12_keeps_2, B_X12_keeps_3, x_const, x_iadd, x_isub, x_imul, x_idiv, x_irem, x_ineg, x_dup, x_dup_x1, x_dup2, x_pop, x_goto, x_ifeq, x_ifne, x_iflt, x_ifge, x_ifgt, x_ifle, x_cmpeq, x_cmpne, x_cmplt, x_cmpge, x_cmpgt, x_cmple, x_null, x_nonnull, x_acmpeq, x_acmpne, x_get, x_put, x_putz, x_ald, x_ast, x_bast, x_zast, x_aast, x_alen, x_obj, x_ret, x_retz, x_vret, x_max, x_min, x_copy, x_i2l, qg_none, qg_inl, qg_inr, qg_ite, xr1, xr0, xrE, xri, xl0, xl1, xl2, xl3, xl4, xl5, xl6, xl7, xl8, xl9, xl10, xs0, xs1, xs2, xs3, xs4, xs5, xs6, xs7, xs8, xs9, xs10, xi0, xi1, xi2, xi3, xi4, xi5, xi6, xi7, xi8, xi9, xi10, xc0, xc1, xc2, xc3, xc4, xc5, xc6, xc7, xv1, xv2, xv3, xv4, xv5, xv6, xv7, dT_le, dF_le, dT_lt, dF_lt, dT_eq, dF_eq, qa_up_hit, qa_up_no, k77, k79, k81, k84, r2, r4, r8, v1, hcp, c1, a84]
    · refine ⟨by rw [qa_up_no _ (by omega), qa_up_hit], by omega, by omega, fun k k1 k2 => ?_⟩
      show QR (if k = u1 then A else U1 k) _
      by_cases e : k = u1
      · rw [if_pos e]
        subst e
        refine QR_congr hW hQ (fun i i1 i2 => ?_)
        rw [qa_up_no _ (by omega), qa_up_no _ (by omega)]
        unfold qa_cp
        rw [if_pos ⟨rfl, by omega, by omega⟩, h81 79 (by decide) (by decide)]
        congr 1
        omega
      · rw [if_neg e]
        refine QR_congr (hUW1 k k1 (by omega)) (v4 k k1 (by omega)) (fun i i1 i2 => ?_)
        rw [qa_up_no _ (by omega), qa_up_no _ (by omega)]
        unfold qa_cp
        rw [if_neg (by omega)]
    · refine ⟨fun c c1 c2 c3 c4 c5 c6 c7 => ?_, fun i i1 _ _ _ _ => ?_⟩
      · funext i
        rw [qa_up_no _ (fun z => c5 z.1), qa_up_no _ (fun z => c1 z.1)]
        unfold qa_cp
        rw [if_neg (fun z => c4 z.1), h81 c c4 c1]
      · rw [qa_up_no _ (by omega), qa_up_no _ (by omega)]
        unfold qa_cp
        rw [if_neg (by omega)]
        exact h77 i i1
    · funext i
      rw [qa_up_no _ (by omega), qa_up_no _ (by omega)]
      unfold qa_cp
      rw [if_neg (by omega), h81 79 (by decide) (by decide)]
    · funext i
      rw [qa_up_no _ (by omega), qa_up_no _ (by omega)]
      unfold qa_cp
      rw [if_neg (by omega), h81 85 (by decide) (by decide)]
    · funext i
      rw [qa_up_no _ (by omega), qa_up_no _ (by omega)]
      unfold qa_cp
      rw [if_neg (by omega), h81 86 (by decide) (by decide)]
    · intro i hi
      rw [qa_up_no _ (by omega), qa_up_no _ (by omega)]
      unfold qa_cp
      rw [if_neg (by omega)]
      exact h77 i hi
    · intro i
      by_cases e : i = 0
      · rw [if_pos e, e, qa_up_hit]
      · rw [if_neg e, qa_up_no _ (by omega), qa_up_no _ (by omega)]
        unfold qa_cp
        rw [if_neg (by omega), h81 84 (by decide) (by decide)]
  obtain ⟨v1, v2, v3, v4⟩ := id hU
  obtain ⟨k77, k78, k79, k80, k81, k82, k83, k84, k85, k86, k87, k88, k89, k90⟩ := id hK
  obtain ⟨r1, r2, r3, r4, r6, r7, r8, r12, r13, r15, r23, r25, r26⟩ := id hR
  by_cases h8 : um = 8
  · subst h8
    have loop : ∀ (n : Nat) (k : Int), 0 ≤ k → k + n = 102354 → qa_ev P_X12_keeps 1 [(1, 77), (0, k)] [] (zks m k, kd, w) = qa_ev P_X12_keeps 2 [(1, 77), (0, 102354)] [] (zks m 102354, kd, w) := by
      intro n
      induction n with
      | zero =>
        intro k h1 h2
        obtain rfl : k = 102354 := by omega
        rw [ev_X12_keeps_1]
        simp (disch := omega) [B_X12_keeps_1, x_const, x_iadd, x_isub, x_imul, x_idiv, x_irem, x_ineg, x_dup, x_dup_x1, x_dup2, x_pop, x_goto, x_ifeq, x_ifne, x_iflt, x_ifge, x_ifgt, x_ifle, x_cmpeq, x_cmpne, x_cmplt, x_cmpge, x_cmpgt, x_cmple, x_null, x_nonnull, x_acmpeq, x_acmpne, x_get, x_put, x_putz, x_ald, x_ast, x_bast, x_zast, x_aast, x_alen, x_obj, x_ret, x_retz, x_vret, x_max, x_min, x_copy, x_i2l, qg_none, qg_inl, qg_inr, qg_ite, xr1, xr0, xrE, xri, xl0, xl1, xl2, xl3, xl4, xl5, xl6, xl7, xl8, xl9, xl10, xs0, xs1, xs2, xs3, xs4, xs5, xs6, xs7, xs8, xs9, xs10, xi0, xi1, xi2, xi3, xi4, xi5, xi6, xi7, xi8, xi9, xi10, xc0, xc1, xc2, xc3, xc4, xc5, xc6, xc7, xv1, xv2, xv3, xv4, xv5, xv6, xv7, dT_le, dF_le, dT_lt, dF_lt]
      | succ n ih =>
        intro k h1 h2
        have ih' := ih (k + 1) (by omega) (by omega)
        have t4 : zks m k 77 4 = 81 := by rw [zks_no (by omega)]; exact r4
        have t5 : zks m k 81 (k + 14622) = m 81 (k + 14622) := zks_no (by omega)
        rw [ev_X12_keeps_1]
        simp (disch := omega) [B_X12_keeps_1, x_const, x_iadd, x_isub, x_imul, x_idiv, x_irem, x_ineg, x_dup, x_dup_x1, x_dup2, x_pop, x_goto, x_ifeq, x_ifne, x_iflt, x_ifge, x_ifgt, x_ifle, x_cmpeq, x_cmpne, x_cmplt, x_cmpge, x_cmpgt, x_cmple, x_null, x_nonnull, x_acmpeq, x_acmpne, x_get, x_put, x_putz, x_ald, x_ast, x_bast, x_zast, x_aast, x_alen, x_obj, x_ret, x_retz, x_vret, x_max, x_min, x_copy, x_i2l, qg_none, qg_inl, qg_inr, qg_ite, xr1, xr0, xrE, xri, xl0, xl1, xl2, xl3, xl4, xl5, xl6, xl7, xl8, xl9, xl10, xs0, xs1, xs2, xs3, xs4, xs5, xs6, xs7, xs8, xs9, xs10, xi0, xi1, xi2, xi3, xi4, xi5, xi6, xi7, xi8, xi9, xi10, xc0, xc1, xc2, xc3, xc4, xc5, xc6, xc7, xv1, xv2, xv3, xv4, xv5, xv6, xv7, dT_le, dF_le, dT_lt, dF_lt, k77, k81, t4, t5, zks_up h1, ih']
    have lp := loop 102354 0 (by decide) (by decide)
    have e0 : zks m 0 = m := by
      funext c i
      exact zks_no (by omega)
    rw [e0] at lp
    have t5 : zks m 102354 77 5 = 8 := by rw [zks_no (by omega)]; exact v1
    obtain ⟨m', i1, i2, i3⟩ := tail (qa_up (zks m 102354) 77 5 7) 7 (fun k => U (k + 1)) (0, 102354) (by
      refine ⟨qa_up_hit _ _ _ _, by decide, by decide, fun k k1 k2 => ?_⟩
      refine QR_congr (hUW (k + 1) (by omega) (by omega)) (v4 (k + 1) (by omega) (by omega)) (fun i i1 i2 => ?_)
      rw [qa_up_no _ (by omega)]
      unfold zks
      rw [if_pos ⟨rfl, by omega, by omega⟩]
      congr 1
      omega) (by decide) (fun k k1 k2 => hUW (k + 1) (by omega) (by omega)) (fun c c1 c2 => by
      funext i
      rw [qa_up_no _ (fun z => c2 z.1), zks_no (Or.inl c1)]) (fun i hi => by
      rw [qa_up_no _ (fun z => hi z.2), zks_no (by omega)])
    refine ⟨m', ?_, ?_, i3⟩
    · unfold f_X12_keeps
      refine qa_fn_eq ?_ (by simp)
      simp (disch := omega) [ev_X12_keeps_0, B_X12_keeps_0, B_X12_keeps_1, B_X12_keeps_2, B_X12_keeps_3, x_const, x_iadd, x_isub, x_imul, x_idiv, x_irem, x_ineg, x_dup, x_dup_x1, x_dup2, x_pop, x_goto, x_ifeq, x_ifne, x_iflt, x_ifge, x_ifgt, x_ifle, x_cmpeq, x_cmpne, x_cmplt, x_cmpge, x_cmpgt, x_cmple, x_null, x_nonnull, x_acmpeq, x_acmpne, x_get, x_put, x_putz, x_ald, x_ast, x_bast, x_zast, x_aast, x_alen, x_obj, x_ret, x_retz, x_vret, x_max, x_min, x_copy, x_i2l, qg_none, qg_inl, qg_inr, qg_ite, xr1, xr0, xrE, xri, xl0, xl1, xl2, xl3, xl4, xl5, xl6, xl7, xl8, xl9, xl10, xs0, xs1, xs2, xs3, xs4, xs5, xs6, xs7, xs8, xs9, xs10, xi0, xi1, xi2, xi3, xi4, xi5, xi6, xi7, xi8, xi9, xi10, xc0, xc1, xc2, xc3, xc4, xc5, xc6, xc7, xv1, xv2, xv3, xv4, xv5, xv6, xv7, dT_le, dF_le, dT_lt, dF_lt, k77, v1, lp]
      rw [ev_X12_keeps_2]
      simp (disch := omega) [ev_X12_keeps_0, B_X12_keeps_0, B_X12_keeps_1, B_X12_keeps_2, B_X12_keeps_3, x_const, x_iadd, x_isub, x_imul, x_idiv, x_irem, x_ineg, x_dup, x_dup_x1, x_dup2, x_pop, x_goto, x_ifeq, x_ifne, x_iflt, x_ifge, x_ifgt, x_ifle, x_cmpeq, x_cmpne, x_cmplt, x_cmpge, x_cmpgt, x_cmple, x_null, x_nonnull, x_acmpeq, x_acmpne, x_get, x_put, x_putz, x_ald, x_ast, x_bast, x_zast, x_aast, x_alen, x_obj, x_ret, x_retz, x_vret, x_max, x_min, x_copy, x_i2l, qg_none, qg_inl, qg_inr, qg_ite, xr1, xr0, xrE, xri, xl0, xl1, xl2, xl3, xl4, xl5, xl6, xl7, xl8, xl9, xl10, xs0, xs1, xs2, xs3, xs4, xs5, xs6, xs7, xs8, xs9, xs10, xi0, xi1, xi2, xi3, xi4, xi5, xi6, xi7, xi8, xi9, xi10, xc0, xc1, xc2, xc3, xc4, xc5, xc6, xc7, xv1, xv2, xv3, xv4, xv5, xv6, xv7, dT_le, dF_le, dT_lt, dF_lt, k77, t5, i1]
    · have e : zpU 8 U A = fun k => if k = 7 then A else (fun k => U (k + 1)) k := by
        funext k
        unfold zpU
        rw [if_pos rfl]
      have e2 : zpu 8 = 7 + 1 := rfl
      rw [e, e2]
      exact i2
  · obtain ⟨m', i1, i2, i3⟩ := tail m um U (9, 0) hU (by omega) hUW (fun _ _ _ => rfl) (fun _ _ => rfl)
    refine ⟨m', ?_, ?_, i3⟩
    · unfold f_X12_keeps
      refine qa_fn_eq ?_ (by simp)
      simp (disch := omega) [ev_X12_keeps_0, B_X12_keeps_0, B_X12_keeps_1, B_X12_keeps_2, B_X12_keeps_3, x_const, x_iadd, x_isub, x_imul, x_idiv, x_irem, x_ineg, x_dup, x_dup_x1, x_dup2, x_pop, x_goto, x_ifeq, x_ifne, x_iflt, x_ifge, x_ifgt, x_ifle, x_cmpeq, x_cmpne, x_cmplt, x_cmpge, x_cmpgt, x_cmple, x_null, x_nonnull, x_acmpeq, x_acmpne, x_get, x_put, x_putz, x_ald, x_ast, x_bast, x_zast, x_aast, x_alen, x_obj, x_ret, x_retz, x_vret, x_max, x_min, x_copy, x_i2l, qg_none, qg_inl, qg_inr, qg_ite, xr1, xr0, xrE, xri, xl0, xl1, xl2, xl3, xl4, xl5, xl6, xl7, xl8, xl9, xl10, xs0, xs1, xs2, xs3, xs4, xs5, xs6, xs7, xs8, xs9, xs10, xi0, xi1, xi2, xi3, xi4, xi5, xi6, xi7, xi8, xi9, xi10, xc0, xc1, xc2, xc3, xc4, xc5, xc6, xc7, xv1, xv2, xv3, xv4, xv5, xv6, xv7, dT_le, dF_le, dT_lt, dF_lt, k77, v1, dF_eq, i1]
    · have e : zpU um U A = fun k => if k = um then A else U k := by
        funext k
        unfold zpU
        rw [if_neg h8]
      have e2 : zpu um = um + 1 := if_neg h8
      rw [e, e2]
      exact i2
