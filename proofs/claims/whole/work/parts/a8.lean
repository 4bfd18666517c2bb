theorem c_rsS {m m' : Int → Int → Int} {kd kd' : Int → Nat × Int} {w w' : Nat × Nat × Nat} {k K a : Int} (hx : kd 0 = (14, 0)) (h06 : m 0 6 = 71) (k71 : kd 71 = (12, 0)) (m4 : m 71 4 = K) (hk : 0 ≤ k ∧ k < K ∧ K ≤ 60) (pf : f_X11_perform [(1, 0), (0, k)] (m, kd, w) = some (.inl (some (0, a)), (m', kd', w'))) (ha : 0 ≤ a) : qa_ev P_X11_runScript 2 [(1, 0), (0, 1), (0, k)] [] (m, kd, w) = qa_ev P_X11_runScript 2 [(1, 0), (0, 1), (0, k + 1)] [] (m', kd', w') := by
  rw [ev_X11_runScript_2]
  simp (disch := omega) [B_X11_runScript_2, x_const, x_iadd, x_isub, x_imul, x_idiv, x_irem, x_ineg, x_dup, x_dup_x1, x_dup2, x_pop, x_goto, x_ifeq, x_ifne, x_iflt, x_ifge, x_ifgt, x_ifle, x_cmpeq, x_cmpne, x_cmplt, x_cmpge, x_cmpgt, x_cmple, x_null, x_nonnull, x_acmpeq, x_acmpne, x_get, x_put, x_putz, x_ald, x_ast, x_bast, x_zast, x_aast, x_alen, x_obj, x_ret, x_retz, x_vret, x_max, x_min, x_copy, x_i2l, qg_none, qg_inl, qg_inr, qg_ite, xr1, xr0, xrE, xri, xl0, xl1, xl2, xl3, xl4, xl5, xl6, xl7, xl8, xl9, xl10, xs0, xs1, xs2, xs3, xs4, xs5, xs6, xs7, xs8, xs9, xs10, xi0, xi1, xi2, xi3, xi4, xi5, xi6, xi7, xi8, xi9, xi10, xc0, xc1, xc2, xc3, xc4, xc5, xc6, xc7, xv1, xv2, xv3, xv4, xv5, xv6, xv7, dT_le, dF_le, dT_lt, dF_lt, hx, h06, k71, m4, pf]
theorem c_rsX {m m' : Int → Int → Int} {kd kd' : Int → Nat × Int} {w w' : Nat × Nat × Nat} {k K a : Int} (hx : kd 0 = (14, 0)) (h06 : m 0 6 = 71) (k71 : kd 71 = (12, 0)) (m4 : m 71 4 = K) (hk : 0 ≤ k ∧ k < K ∧ K ≤ 60) (pf : f_X11_perform [(1, 0), (0, k)] (m, kd, w) = some (.inl (some (0, a)), (m', kd', w'))) (ha : a < 0) : qa_ev P_X11_runScript 2 [(1, 0), (0, 1), (0, k)] [] (m, kd, w) = some (.inl (some (0, k)), (m', kd', w')) := by
  rw [ev_X11_runScript_2]
  simp (disch := omega) [B_X11_runScript_2, ev_X11_runScript_3, B_X11_runScript_3, x_const, x_iadd, x_isub, x_imul, x_idiv, x_irem, x_ineg, x_dup, x_dup_x1, x_dup2, x_pop, x_goto, x_ifeq, x_ifne, x_iflt, x_ifge, x_ifgt, x_ifle, x_cmpeq, x_cmpne, x_cmplt, x_cmpge, x_cmpgt, x_cmple, x_null, x_nonnull, x_acmpeq, x_acmpne, x_get, x_put, x_putz, x_ald, x_ast, x_bast, x_zast, x_aast, x_alen, x_obj, x_ret, x_retz, x_vret, x_max, x_min, x_copy, x_i2l, qg_none, qg_inl, qg_inr, qg_ite, xr1, xr0, xrE, xri, xl0, xl1, xl2, xl3, xl4, xl5, xl6, xl7, xl8, xl9, xl10, xs0, xs1, xs2, xs3, xs4, xs5, xs6, xs7, xs8, xs9, xs10, xi0, xi1, xi2, xi3, xi4, xi5, xi6, xi7, xi8, xi9, xi10, xc0, xc1, xc2, xc3, xc4, xc5, xc6, xc7, xv1, xv2, xv3, xv4, xv5, xv6, xv7, dT_le, dF_le, dT_lt, dF_lt, hx, h06, k71, m4, pf]
theorem c_rsE {m : Int → Int → Int} {kd : Int → Nat × Int} {w : Nat × Nat × Nat} {k K : Int} (hx : kd 0 = (14, 0)) (h06 : m 0 6 = 71) (k71 : kd 71 = (12, 0)) (m4 : m 71 4 = K) (hk : K ≤ k) : qa_ev P_X11_runScript 2 [(1, 0), (0, 1), (0, k)] [] (m, kd, w) = some (.inl (some (0, k)), (m, kd, w)) := by
  rw [ev_X11_runScript_2]
  simp (disch := omega) [B_X11_runScript_2, ev_X11_runScript_3, B_X11_runScript_3, x_const, x_iadd, x_isub, x_imul, x_idiv, x_irem, x_ineg, x_dup, x_dup_x1, x_dup2, x_pop, x_goto, x_ifeq, x_ifne, x_iflt, x_ifge, x_ifgt, x_ifle, x_cmpeq, x_cmpne, x_cmplt, x_cmpge, x_cmpgt, x_cmple, x_null, x_nonnull, x_acmpeq, x_acmpne, x_get, x_put, x_putz, x_ald, x_ast, x_bast, x_zast, x_aast, x_alen, x_obj, x_ret, x_retz, x_vret, x_max, x_min, x_copy, x_i2l, qg_none, qg_inl, qg_inr, qg_ite, xr1, xr0, xrE, xri, xl0, xl1, xl2, xl3, xl4, xl5, xl6, xl7, xl8, xl9, xl10, xs0, xs1, xs2, xs3, xs4, xs5, xs6, xs7, xs8, xs9, xs10, xi0, xi1, xi2, xi3, xi4, xi5, xi6, xi7, xi8, xi9, xi10, xc0, xc1, xc2, xc3, xc4, xc5, xc6, xc7, xv1, xv2, xv3, xv4, xv5, xv6, xv7, dT_le, dF_le, dT_lt, dF_lt, hx, h06, k71, m4]
theorem m_rsS {m m' : Int → Int → Int} {kd kd' : Int → Nat × Int} {w w' : Nat × Nat × Nat} {k K : Int} (k77 : kd 77 = (15, 0)) (m4 : m 77 24 = K) (hk : 0 ≤ k ∧ k < K ∧ K ≤ 60) (pf : f_X12_isDone [(1, 77), (0, 5 * k)] (m, kd, w) = some (.inl (some (0, 1)), (m', kd', w'))) : qa_ev P_X12_runScript 4 [(1, 77), (0, k)] [] (m, kd, w) = qa_ev P_X12_runScript 4 [(1, 77), (0, k + 1)] [] (m', kd', w') := by
  rw [ev_X12_runScript_4]
  simp (disch := omega) [B_X12_runScript_4, x_const, x_iadd, x_isub, x_imul, x_idiv, x_irem, x_ineg, x_dup, x_dup_x1, x_dup2, x_pop, x_goto, x_ifeq, x_ifne, x_iflt, x_ifge, x_ifgt, x_ifle, x_cmpeq, x_cmpne, x_cmplt, x_cmpge, x_cmpgt, x_cmple, x_null, x_nonnull, x_acmpeq, x_acmpne, x_get, x_put, x_putz, x_ald, x_ast, x_bast, x_zast, x_aast, x_alen, x_obj, x_ret, x_retz, x_vret, x_max, x_min, x_copy, x_i2l, qg_none, qg_inl, qg_inr, qg_ite, xr1, xr0, xrE, xri, xl0, xl1, xl2, xl3, xl4, xl5, xl6, xl7, xl8, xl9, xl10, xs0, xs1, xs2, xs3, xs4, xs5, xs6, xs7, xs8, xs9, xs10, xi0, xi1, xi2, xi3, xi4, xi5, xi6, xi7, xi8, xi9, xi10, xc0, xc1, xc2, xc3, xc4, xc5, xc6, xc7, xv1, xv2, xv3, xv4, xv5, xv6, xv7, dT_le, dF_le, dT_lt, dF_lt, k77, m4, pf]
theorem m_rsX {m m' : Int → Int → Int} {kd kd' : Int → Nat × Int} {w w' : Nat × Nat × Nat} {k K : Int} (k77 : kd 77 = (15, 0)) (m4 : m 77 24 = K) (hk : 0 ≤ k ∧ k < K ∧ K ≤ 60) (pf : f_X12_isDone [(1, 77), (0, 5 * k)] (m, kd, w) = some (.inl (some (0, 0)), (m', kd', w'))) : qa_ev P_X12_runScript 4 [(1, 77), (0, k)] [] (m, kd, w) = some (.inl (some (0, k)), (m', kd', w')) := by
  rw [ev_X12_runScript_4]
  simp (disch := omega) [B_X12_runScript_4, ev_X12_runScript_5, B_X12_runScript_5, x_const, x_iadd, x_isub, x_imul, x_idiv, x_irem, x_ineg, x_dup, x_dup_x1, x_dup2, x_pop, x_goto, x_ifeq, x_ifne, x_iflt, x_ifge, x_ifgt, x_ifle, x_cmpeq, x_cmpne, x_cmplt, x_cmpge, x_cmpgt, x_cmple, x_null, x_nonnull, x_acmpeq, x_acmpne, x_get, x_put, x_putz, x_ald, x_ast, x_bast, x_zast, x_aast, x_alen, x_obj, x_ret, x_retz, x_vret, x_max, x_min, x_copy, x_i2l, qg_none, qg_inl, qg_inr, qg_ite, xr1, xr0, xrE, xri, xl0, xl1, xl2, xl3, xl4, xl5, xl6, xl7, xl8, xl9, xl10, xs0, xs1, xs2, xs3, xs4, xs5, xs6, xs7, xs8, xs9, xs10, xi0, xi1, xi2, xi3, xi4, xi5, xi6, xi7, xi8, xi9, xi10, xc0, xc1, xc2, xc3, xc4, xc5, xc6, xc7, xv1, xv2, xv3, xv4, xv5, xv6, xv7, dT_le, dF_le, dT_lt, dF_lt, k77, m4, pf]
theorem m_rsE {m : Int → Int → Int} {kd : Int → Nat × Int} {w : Nat × Nat × Nat} {k K : Int} (k77 : kd 77 = (15, 0)) (m4 : m 77 24 = K) (hk : K ≤ k) : qa_ev P_X12_runScript 4 [(1, 77), (0, k)] [] (m, kd, w) = some (.inl (some (0, k)), (m, kd, w)) := by
  rw [ev_X12_runScript_4]
  simp (disch := omega) [B_X12_runScript_4, ev_X12_runScript_5, B_X12_runScript_5, x_const, x_iadd, x_isub, x_imul, x_idiv, x_irem, x_ineg, x_dup, x_dup_x1, x_dup2, x_pop, x_goto, x_ifeq, x_ifne, x_iflt, x_ifge, x_ifgt, x_ifle, x_cmpeq, x_cmpne, x_cmplt, x_cmpge, x_cmpgt, x_cmple, x_null, x_nonnull, x_acmpeq, x_acmpne, x_get, x_put, x_putz, x_ald, x_ast, x_bast, x_zast, x_aast, x_alen, x_obj, x_ret, x_retz, x_vret, x_max, x_min, x_copy, x_i2l, qg_none, qg_inl, qg_inr, qg_ite, xr1, xr0, xrE, xri, xl0, xl1, xl2, xl3, xl4, xl5, xl6, xl7, xl8, xl9, xl10, xs0, xs1, xs2, xs3, xs4, xs5, xs6, xs7, xs8, xs9, xs10, xi0, xi1, xi2, xi3, xi4, xi5, xi6, xi7, xi8, xi9, xi10, xc0, xc1, xc2, xc3, xc4, xc5, xc6, xc7, xv1, xv2, xv3, xv4, xv5, xv6, xv7, dT_le, dF_le, dT_lt, dF_lt, k77, m4]
theorem t_loop {T : Int → Int} {tn K : Int} (ok : ∀ i : Nat, (i : Int) < K → tOk T tn i) (hK : K ≤ 60) : ∀ (q k : Nat) (g : zG) (N : Int), (k : Int) + q = K → GI N g → N + q ≤ 512 → ∃ g' a, GI (N + q) g' ∧ g'.2.2.2.2.2.2.2.2 = g.2.2.2.2.2.2.2.2 ∧ (∀ m kd n c s, CI N g m kd n c s → CCm T tn K m → m 71 4 = K → ∃ m' kd' n' c' s', qa_ev P_X11_runScript 2 [(1, 0), (0, 1), (0, (k : Int))] [] (m, kd, n, c, s) = some (.inl (some (0, a)), (m', kd', n', c', s')) ∧ CI (N + q) g' m' kd' n' c' s' ∧ (∀ x, 71 ≤ x → x ≤ 92 → m' x = m x ∧ kd' x = kd x) ∧ n ≤ n' ∧ c ≤ c' ∧ s ≤ s') ∧ (∀ m kd w, MI N g m kd → MCm T tn K m → m 77 24 = K → ∃ m', qa_ev P_X12_runScript 4 [(1, 77), (0, (k : Int))] [] (m, kd, w) = some (.inl (some (0, a)), (m', kd, w)) ∧ MI (N + q) g' m' kd ∧ m' 77 0 = m 77 0 ∧ ∀ x, x < 77 ∨ 90 < x → m' x = m x) := by
  intro q
  induction q with
  | zero =>
    intro k g N hk hG hN
    have e0 : N + ((0 : Nat) : Int) = N := by omega
    rw [e0]
    refine ⟨g, k, hG, rfl, fun m kd n c s h hC m4 => ?_, fun m kd w h hM m4 => ?_⟩
    · obtain ⟨hx, h00, k1, h01, k3, h06, k71, -⟩ := h.k
      exact ⟨m, kd, n, c, s, c_rsE hx h06 k71 m4 (by omega), h, fun x _ _ => ⟨rfl, rfl⟩, Nat.le_refl _, Nat.le_refl _, Nat.le_refl _⟩
    · exact ⟨m, m_rsE h.1.1 m4 (by omega), h, rfl, fun x _ => rfl⟩
  | succ q ih =>
    intro k g N hk hG hN
    obtain ⟨g1, a, G1, X1, C1, M1⟩ := t_cmd (K := K) hG (by omega) (ok k (by omega)) ⟨by omega, hK⟩
    by_cases ha : a < 0
    · refine ⟨g1, k, GI_mono G1 (by omega), X1, fun m kd n c s h hC m4 => ?_, fun m kd w h hM m4 => ?_⟩
      · obtain ⟨hx, h00, k1, h01, k3, h06, k71, -⟩ := h.k
        obtain ⟨m', kd', n', c', s', e, i1, i2, i3⟩ := C1 m kd n c s h hC m4
        exact ⟨m', kd', n', c', s', c_rsX hx h06 k71 m4 ⟨by omega, by omega, hK⟩ e ha, CI_mono i1 (by omega), i2, i3⟩
      · obtain ⟨m', e, i1, i2, i3, i4, i5⟩ := M1 m kd w h hM
        rw [if_pos ha] at e
        exact ⟨m', m_rsX h.1.1 m4 ⟨by omega, by omega, hK⟩ e, MI_mono i1 (by omega), i2, i5⟩
    · obtain ⟨g2, b, G2, X2, C2, M2⟩ := ih (k + 1) g1 (N + 1) (by omega) G1 (by omega)
      have eN : N + ((q + 1 : Nat) : Int) = N + 1 + q := by omega
      have ek : ((k + 1 : Nat) : Int) = (k : Int) + 1 := by omega
      rw [eN]
      rw [ek] at C2 M2
      refine ⟨g2, b, G2, X2.trans X1, fun m kd n c s h hC m4 => ?_, fun m kd w h hM m4 => ?_⟩
      · obtain ⟨hx, h00, k1, h01, k3, h06, k71, -⟩ := h.k
        obtain ⟨m', kd', n', c', s', e, i1, i2, i3, i4, i5⟩ := C1 m kd n c s h hC m4
        have o73 := (i2 73 (by decide) (by decide)).1
        have o74 := (i2 74 (by decide) (by decide)).1
        have o71 := (i2 71 (by decide) (by decide)).1
        obtain ⟨m2, kd2, n2, c2, s2, f, j1, j2, j3, j4, j5⟩ := C2 m' kd' n' c' s' i1 (by unfold CCm at hC ⊢; rw [o73, o74]; exact hC) (by rw [o71]; exact m4)
        exact ⟨m2, kd2, n2, c2, s2, (c_rsS hx h06 k71 m4 ⟨by omega, by omega, hK⟩ e (by omega)).trans f, j1, fun x a b => ⟨(j2 x a b).1.trans (i2 x a b).1, (j2 x a b).2.trans (i2 x a b).2⟩, by omega, by omega, by omega⟩
      · obtain ⟨m', e, i1, i2, i3, i4, i5⟩ := M1 m kd w h hM
        rw [if_neg ha] at e
        obtain ⟨m2, f, j1, j2, j3⟩ := M2 m' kd w i1 (by unfold MCm at hM ⊢; rw [i4]; exact hM) (by rw [i3]; exact m4)
        exact ⟨m2, (m_rsS h.1.1 m4 ⟨by omega, by omega, hK⟩ e).trans f, j1, j2.trans i2, fun x hx => (j3 x hx).trans (i5 x hx)⟩
def gX (g : zG) (X' : zX) : zG := (g.1, g.2.1, g.2.2.1, g.2.2.2.1, g.2.2.2.2.1, g.2.2.2.2.2.1, g.2.2.2.2.2.2.1, g.2.2.2.2.2.2.2.1, X', g.2.2.2.2.2.2.2.2.2)
theorem GI_X {N : Int} {g : zG} (h : GI N g) {X' : zX} (h0 : 0 ≤ X'.2.1 ∧ X'.2.1 ≤ 700) (h8 : tT8 X'.1) : GI N (gX g X') := by
  obtain ⟨h1, h2, h3, h4, h5, h6, h7, h9, h10⟩ := h
  exact ⟨h1, h2, h3, h4, h5, h6, h7, ⟨h0, h8⟩, h10⟩
theorem CI_X {N : Int} {g : zG} {m m' : Int → Int → Int} {kd : Int → Nat × Int} {n c s : Nat} (h : CI N g m kd n c s) {X' : zX} (ho : ∀ x, x ≠ 71 → x ≠ 72 → x ≠ 73 → x ≠ 74 → m' x = m x) (hM : MSc X'.1 X'.2.1 m') (h5 : m' 71 5 = X'.2.2.1) (h6 : m' 71 6 = X'.2.2.2) : CI N (gX g X') m' kd n c s := by
  obtain ⟨i1, i2, i3, i4, i5, i6, i7, i8, i9, V, cap, P, p1, p2⟩ := h
  have z := i1.z
  obtain ⟨o1, o2, o3⟩ := CS_out (m' := m') i1 (fun c hc => ho c (by omega) (by omega) (by omega) (by omega)) i9
  refine ⟨o1, ?_, CD_page i3 (fun x a b => ⟨ho x (by omega) (by omega) (by omega) (by omega), rfl⟩) (fun e he => ?_), i4, hM, ⟨h5, h6⟩, by rw [o2]; exact i7, by rw [ho 63 (by decide) (by decide) (by decide) (by decide)]; exact i8, i9, V, cap, Pg_fr P (fun x hx => ⟨ho x (by omega) (by omega) (by omega) (by omega), rfl⟩) (Nat.le_refl _) z.2.1, by rw [o3]; exact p1, by rw [o3]; exact p2⟩
  · obtain ⟨y1, y2, y3, y4⟩ := i2
    exact ⟨y1, by rw [ho 1 (by decide) (by decide) (by decide) (by decide)]; exact y2, y3, by rw [ho 2 (by decide) (by decide) (by decide) (by decide)]; exact y4⟩
  · have q := fun x (a : 67 ≤ x) (b : x ≤ 92) (e' : e = x) => i9 x a b (by rw [← e']; exact he)
    exact ⟨ho e (fun z => q 71 (by decide) (by decide) z) (fun z => q 72 (by decide) (by decide) z) (fun z => q 73 (by decide) (by decide) z) (fun z => q 74 (by decide) (by decide) z), rfl⟩
theorem MI_X {N : Int} {g : zG} {m m' : Int → Int → Int} {kd : Int → Nat × Int} (h : MI N g m kd) {X' : zX} (ho : ∀ x, x ≠ 77 → x ≠ 87 → x ≠ 89 → m' x = m x) (h77 : ∀ i, (1 ≤ i ∧ i ≤ 15) ∨ i = 23 ∨ 25 ≤ i → m' 77 i = m 77 i) (hT : MTx X'.1 X'.2.1 m') (h21 : m' 77 21 = X'.2.2.1) (h22 : m' 77 22 = X'.2.2.2) : MI N (gX g X') m' kd := by
  obtain ⟨i1, i2, i3, i4, i5, i6, i7, i8, i9, i10, i11, i12, i13, i14⟩ := h
  have o := fun x (a : x ≠ 77 ∧ x ≠ 87 ∧ x ≠ 89) => ho x a.1 a.2.1 a.2.2
  refine ⟨i1, ?_, by rw [o 79 (by decide)]; exact i3, ?_, MV_fr i5 (o 82 (by decide)) (o 83 (by decide)), by rw [o 83 (by decide)]; exact i6, QS_fr i7 (o 78 (by decide)), by rw [o 84 (by decide)]; exact i8, QD_fr i9 (h77 14 (by decide)) (o 86 (by decide)), hT, ⟨h21, h22⟩, fun i a b => by rw [o 88 (by decide)]; exact i12 i a b, Po_fr i13 (h77 27 (by decide)) (o 90 (by decide)), ?_⟩
  · unfold RM at i2 ⊢
    simp only [h77 1 (by decide), h77 2 (by decide), h77 3 (by decide), h77 4 (by decide), h77 6 (by decide), h77 7 (by decide), h77 8 (by decide), h77 12 (by decide), h77 13 (by decide), h77 15 (by decide), h77 23 (by decide), h77 25 (by decide), h77 26 (by decide)]
    exact i2
  · unfold MU at i4 ⊢
    rw [h77 5 (by decide), o 81 (by decide)]
    exact i4
  · unfold zcb at i14 ⊢
    rw [h77 9 (by decide), h77 10 (by decide), h77 11 (by decide), o 85 (by decide)]
    exact i14
