def MCm (T : Int → Int) (n : Int) (K : Int) (m : Int → Int → Int) : Prop := ∀ k : Nat, (k : Int) < K → m 89 (5 * (k : Int)) = tVb T n (tPos T n k) ∧ ∀ j : Nat, j < (tLe (tVb T n (tPos T n k))).length → m 89 (5 * (k : Int) + 1 + j) = tOv T n (tAk T n (tLe (tVb T n (tPos T n k))) (tBe T n (tPos T n k)) j) ((tLe (tVb T n (tPos T n k))).getD j 0)
theorem m_pS {kd : Int → Nat × Int} {w : Nat × Nat × Nat} {m m' : Int → Int → Int} {t : Int} (k77 : kd 77 = (15, 0)) (h21 : m 77 21 = 0) (h19 : m 77 19 = t) (ht : t ≠ 0) (rc : f_X12_readCommand [(1, 77)] (m, kd, w) = some (.inl none, (m', kd, w))) : qa_ev P_X12_runScript 1 [(1, 77), (9, 0)] [] (m, kd, w) = qa_ev P_X12_runScript 1 [(1, 77), (9, 0)] [] (m', kd, w) := by
  rw [ev_X12_runScript_1]
  simp (disch := omega) [ev_X12_runScript_0, ev_X12_runScript_3, ev_X12_runScript_5, B_X12_runScript_0, B_X12_runScript_1, B_X12_runScript_2, B_X12_runScript_3, B_X12_runScript_4, B_X12_runScript_5, x_const, x_iadd, x_isub, x_imul, x_idiv, x_irem, x_ineg, x_dup, x_dup_x1, x_dup2, x_pop, x_goto, x_ifeq, x_ifne, x_iflt, x_ifge, x_ifgt, x_ifle, x_cmpeq, x_cmpne, x_cmplt, x_cmpge, x_cmpgt, x_cmple, x_null, x_nonnull, x_acmpeq, x_acmpne, x_get, x_put, x_putz, x_ald, x_ast, x_bast, x_zast, x_aast, x_alen, x_obj, x_ret, x_retz, x_vret, x_max, x_min, x_copy, x_i2l, qg_none, qg_inl, qg_inr, qg_ite, xr1, xr0, xrE, xri, xl0, xl1, xl2, xl3, xl4, xl5, xl6, xl7, xl8, xl9, xl10, xs0, xs1, xs2, xs3, xs4, xs5, xs6, xs7, xs8, xs9, xs10, xi0, xi1, xi2, xi3, xi4, xi5, xi6, xi7, xi8, xi9, xi10, xc0, xc1, xc2, xc3, xc4, xc5, xc6, xc7, xv1, xv2, xv3, xv4, xv5, xv6, xv7, dT_le, dF_le, dT_lt, dF_lt, dF_eq, k77, h21, h19, ht, rc]
theorem m_pE {kd : Int → Nat × Int} {w : Nat × Nat × Nat} {m : Int → Int → Int} {e t : Int} (k77 : kd 77 = (15, 0)) (h21 : m 77 21 = e) (h19 : m 77 19 = t) (h : e ≠ 0 ∨ t = 0) : qa_ev P_X12_runScript 1 [(1, 77), (9, 0)] [] (m, kd, w) = qa_ev P_X12_runScript 2 [(1, 77), (9, 0)] [] (m, kd, w) := by
  rw [ev_X12_runScript_1]
  by_cases c : e = 0
  · have h0 : t = 0 := by omega
    simp (disch := omega) [ev_X12_runScript_0, ev_X12_runScript_3, ev_X12_runScript_5, B_X12_runScript_0, B_X12_runScript_1, B_X12_runScript_2, B_X12_runScript_3, B_X12_runScript_4, B_X12_runScript_5, x_const, x_iadd, x_isub, x_imul, x_idiv, x_irem, x_ineg, x_dup, x_dup_x1, x_dup2, x_pop, x_goto, x_ifeq, x_ifne, x_iflt, x_ifge, x_ifgt, x_ifle, x_cmpeq, x_cmpne, x_cmplt, x_cmpge, x_cmpgt, x_cmple, x_null, x_nonnull, x_acmpeq, x_acmpne, x_get, x_put, x_putz, x_ald, x_ast, x_bast, x_zast, x_aast, x_alen, x_obj, x_ret, x_retz, x_vret, x_max, x_min, x_copy, x_i2l, qg_none, qg_inl, qg_inr, qg_ite, xr1, xr0, xrE, xri, xl0, xl1, xl2, xl3, xl4, xl5, xl6, xl7, xl8, xl9, xl10, xs0, xs1, xs2, xs3, xs4, xs5, xs6, xs7, xs8, xs9, xs10, xi0, xi1, xi2, xi3, xi4, xi5, xi6, xi7, xi8, xi9, xi10, xc0, xc1, xc2, xc3, xc4, xc5, xc6, xc7, xv1, xv2, xv3, xv4, xv5, xv6, xv7, dT_le, dF_le, dT_lt, dF_lt, k77, h21, h19, c, h0]
  · simp (disch := omega) [ev_X12_runScript_0, ev_X12_runScript_3, ev_X12_runScript_5, B_X12_runScript_0, B_X12_runScript_1, B_X12_runScript_2, B_X12_runScript_3, B_X12_runScript_4, B_X12_runScript_5, x_const, x_iadd, x_isub, x_imul, x_idiv, x_irem, x_ineg, x_dup, x_dup_x1, x_dup2, x_pop, x_goto, x_ifeq, x_ifne, x_iflt, x_ifge, x_ifgt, x_ifle, x_cmpeq, x_cmpne, x_cmplt, x_cmpge, x_cmpgt, x_cmple, x_null, x_nonnull, x_acmpeq, x_acmpne, x_get, x_put, x_putz, x_ald, x_ast, x_bast, x_zast, x_aast, x_alen, x_obj, x_ret, x_retz, x_vret, x_max, x_min, x_copy, x_i2l, qg_none, qg_inl, qg_inr, qg_ite, xr1, xr0, xrE, xri, xl0, xl1, xl2, xl3, xl4, xl5, xl6, xl7, xl8, xl9, xl10, xs0, xs1, xs2, xs3, xs4, xs5, xs6, xs7, xs8, xs9, xs10, xi0, xi1, xi2, xi3, xi4, xi5, xi6, xi7, xi8, xi9, xi10, xc0, xc1, xc2, xc3, xc4, xc5, xc6, xc7, xv1, xv2, xv3, xv4, xv5, xv6, xv7, dT_le, dF_le, dT_lt, dF_lt, dF_eq, k77, h21, c]
theorem m_parse {m : Int → Int → Int} {kd : Int → Nat × Int} {w : Nat × Nat × Nat} (hK : KM kd) (hR : RM m) {T : Int → Int} {n : Int} (hT : MTx T n m) (hW : MWo m) : ∃ m', qa_ev P_X12_runScript 0 [(1, 77), (9, 0)] [] (m, kd, w) = qa_ev P_X12_runScript 2 [(1, 77), (9, 0)] [] (m', kd, w) ∧ (∀ c, c ≠ 77 → c ≠ 89 → m' c = m c) ∧ (∀ i, (i < 17 ∨ i = 23 ∨ 24 < i) → m' 77 i = m 77 i) ∧ m' 77 21 = (tP T n 61 0 0).1 ∧ m' 77 22 = (tP T n 61 0 0).2.1 ∧ ((tP T n 61 0 0).1 = 0 → m' 77 24 = (tP T n 61 0 0).2.2 ∧ MCm T n (tP T n 61 0 0).2.2 m') := by
  have k77 := hK.1
  have hn0 : 0 ≤ n := hT.2.1.1
  have loop : ∀ (q k : Nat) (a : Int) (m1 : Int → Int → Int), k + q = 61 → 1 ≤ q → a = tPos T n k → 0 ≤ a ∧ a ≤ n → RM m1 → MTx T n m1 → MWo m1 → MSt T n (0, a) m1 → m1 77 24 = k → (∀ c, c ≠ 77 → c ≠ 89 → m1 c = m c) → (∀ i, (i < 17 ∨ i = 23 ∨ 24 < i) → m1 77 i = m 77 i) → MCm T n k m1 → ∃ m', qa_ev P_X12_runScript 1 [(1, 77), (9, 0)] [] (m1, kd, w) = qa_ev P_X12_runScript 2 [(1, 77), (9, 0)] [] (m', kd, w) ∧ (∀ c, c ≠ 77 → c ≠ 89 → m' c = m c) ∧ (∀ i, (i < 17 ∨ i = 23 ∨ 24 < i) → m' 77 i = m 77 i) ∧ m' 77 21 = (tP T n q k a).1 ∧ m' 77 22 = (tP T n q k a).2.1 ∧ ((tP T n q k a).1 = 0 → m' 77 24 = (tP T n q k a).2.2 ∧ MCm T n (tP T n q k a).2.2 m') := by
    intro q
    induction q with
    | zero => intro k a m1 h1 h2; omega
    | succ q ih =>
      intro k a m1 h1 h2 hp ha hR1 hT1 hW1 hs1 m4 o p hC
      obtain ⟨s1, s2, -⟩ := id hs1
      obtain ⟨⟨l17, l18, l19, l20⟩, h22⟩ := s2 rfl
      by_cases c0 : tKi T n a = 0
      · have e : tP T n (q + 1) k a = (0, -1, (k : Int)) := if_pos c0
        rw [e]
        exact ⟨m1, m_pE k77 s1 l19 (Or.inr (trk_2.2.2.2.mpr c0)), o, p, s1, h22, fun _ => ⟨m4, hC⟩⟩
      · obtain ⟨m2, g1, g2, g3, g4, g5, g6⟩ := m_readCommand (w := w) hK hR1 hT1 hW1 hs1 ha m4 ⟨by omega, by omega⟩
        have st := m_pS k77 s1 l19 (fun z => c0 (trk_2.2.2.2.mp z)) g1
        have hcb := tCk_b T (k := (k : Int)) ha
        by_cases c1 : (tCk T n k a).1 = 0
        · have e : tP T n (q + 1) k a = tP T n q (k + 1) (tCk T n k a).2 := by
            show (if _ then _ else if _ then _ else _) = _
            rw [if_neg c0, if_pos c1]
          rw [e]
          obtain ⟨h1', h2', h3⟩ := g6 c1
          obtain ⟨b1, b2, b3, b4⟩ := hcb.2.2 c1
          have ec : ((k + 1 : Nat) : Int) = (k : Int) + 1 := by omega
          have ep : (tCk T n k a).2 = tPos T n (k + 1) := by
            show _ = (tCk T n 0 (tPos T n k)).2
            rw [← hp, tCk_k T n a b2]
          have es : tCk T n k a = (0, (tCk T n k a).2) := by rw [← c1]
          rw [es] at g4
          obtain ⟨m3, f1, f2⟩ := ih (k + 1) (tCk T n k a).2 m2 (by omega) (by omega) ep ⟨hcb.1, hcb.2.1⟩ (RM_17 hR1 (fun i hi => g3 i (by omega))) (MTx_77 hT1 (g3 16 (by omega)) (g2 87 (by decide) (by decide))) (fun i a b => by rw [g2 88 (by decide) (by decide)]; exact hW1 i a b) g4 (by rw [h1', ec]) (fun c c1 c2 => by rw [g2 c c1 c2, o c c1 c2]) (fun i hi => by rw [g3 i hi, p i hi]) (fun i hi => by
            by_cases e : i = k
            · subst e
              rw [← hp]
              exact ⟨h2', h3⟩
            · obtain ⟨x1, x2⟩ := hC i (by omega)
              have hvb := (tVb_b T n (tPos T n i))
              refine ⟨by rw [g5 _ (by omega), x1], fun j hj => ?_⟩
              have hlen : (tLe (tVb T n (tPos T n i))).length ≤ 4 := by
                rcases hvb with hv | hv
                · rw [hv]; decide
                · exact (tLe_lt hv).2.1
              rw [g5 _ (by omega)]
              exact x2 j hj)
          exact ⟨m3, st.trans f1, f2⟩
        · have e : tP T n (q + 1) k a = ((tCk T n k a).1, (tCk T n k a).2, (k : Int)) := by
            show (if _ then _ else if _ then _ else _) = _
            rw [if_neg c0, if_neg c1]
          rw [e]
          exact ⟨m2, st.trans (m_pE k77 g4.1 rfl (Or.inl c1)), fun c c1 c2 => by rw [g2 c c1 c2, o c c1 c2], fun i hi => by rw [g3 i hi, p i hi], g4.1, g4.2.2 c1, fun z => absurd z c1⟩
  generalize hm1 : qa_up (qa_up (qa_up (qa_up m 77 17 0) 77 21 0) 77 22 (-1)) 77 24 0 = m1
  have o1 : ∀ c j, (c ≠ 77 ∨ (j ≠ 17 ∧ j ≠ 21 ∧ j ≠ 22 ∧ j ≠ 24)) → m1 c j = m c j := fun c j h => by
    rw [← hm1, qa_up_no _ (by omega), qa_up_no _ (by omega), qa_up_no _ (by omega), qa_up_no _ (by omega)]
  have hR1 : RM m1 := RM_17 hR (fun i hi => o1 77 i (by omega))
  have hT1 : MTx T n m1 := MTx_77 hT (o1 77 16 (by omega)) (by funext j; exact o1 87 j (by omega))
  have x17 : m1 77 17 = 0 := by rw [← hm1, qa_up_no _ (by omega), qa_up_no _ (by omega), qa_up_no _ (by omega), qa_up_hit]
  have x21 : m1 77 21 = 0 := by rw [← hm1, qa_up_no _ (by omega), qa_up_no _ (by omega), qa_up_hit]
  have x22 : m1 77 22 = -1 := by rw [← hm1, qa_up_no _ (by omega), qa_up_hit]
  have x24 : m1 77 24 = 0 := by rw [← hm1, qa_up_hit]
  have go := m_goesOn (w := w) hK hR1 hT1 x17 ⟨by decide, hn0⟩
  have zf := zfp_Gx m1 (tBe T n 0) (tSt T n 0) (trk (tKi T n 0)) (tRm T n 0)
  have ML := MLx_Gx T n 0 m1
  have q21 : tGx m1 (tBe T n 0) (tSt T n 0) (trk (tKi T n 0)) (tRm T n 0) 77 21 = 0 := by rw [tGx_no (by omega)]; exact x21
  have q22 : tGx m1 (tBe T n 0) (tSt T n 0) (trk (tKi T n 0)) (tRm T n 0) 77 22 = -1 := by rw [tGx_no (by omega)]; exact x22
  generalize tGx m1 (tBe T n 0) (tSt T n 0) (trk (tKi T n 0)) (tRm T n 0) = mg at go zf ML q21 q22
  obtain ⟨m', f1, f2⟩ := loop 61 0 0 mg rfl (by decide) rfl ⟨by decide, hn0⟩ (zfp_RM zf hR1) (zfp_T zf hT1) (zfp_W zf (fun i a b => by rw [o1 88 i (by omega)]; exact hW i a b)) ⟨q21, fun _ => ⟨ML, q22⟩, fun z => absurd rfl z⟩ (by rw [zf.2 24 (by omega), x24]; rfl) (fun c c1 c2 => by
    rw [zf.1 c c1]
    funext j
    exact o1 c j (Or.inl c1)) (fun i hi => by rw [zf.2 i (by omega), o1 77 i (by omega)]) (fun k hk => by omega)
  refine ⟨m', ?_, f2⟩
  rw [← f1, ev_X12_runScript_0]
  simp (disch := omega) [ev_X12_runScript_3, ev_X12_runScript_5, B_X12_runScript_0, B_X12_runScript_1, B_X12_runScript_2, B_X12_runScript_3, B_X12_runScript_4, B_X12_runScript_5, x_const, x_iadd, x_isub, x_imul, x_idiv, x_irem, x_ineg, x_dup, x_dup_x1, x_dup2, x_pop, x_goto, x_ifeq, x_ifne, x_iflt, x_ifge, x_ifgt, x_ifle, x_cmpeq, x_cmpne, x_cmplt, x_cmpge, x_cmpgt, x_cmple, x_null, x_nonnull, x_acmpeq, x_acmpne, x_get, x_put, x_putz, x_ald, x_ast, x_bast, x_zast, x_aast, x_alen, x_obj, x_ret, x_retz, x_vret, x_max, x_min, x_copy, x_i2l, qg_none, qg_inl, qg_inr, qg_ite, xr1, xr0, xrE, xri, xl0, xl1, xl2, xl3, xl4, xl5, xl6, xl7, xl8, xl9, xl10, xs0, xs1, xs2, xs3, xs4, xs5, xs6, xs7, xs8, xs9, xs10, xi0, xi1, xi2, xi3, xi4, xi5, xi6, xi7, xi8, xi9, xi10, xc0, xc1, xc2, xc3, xc4, xc5, xc6, xc7, xv1, xv2, xv3, xv4, xv5, xv6, xv7, dT_le, dF_le, dT_lt, dF_lt, k77, hm1, go]
theorem tP_ok (T : Int → Int) {n : Int} : ∀ (q k : Nat) (a : Int), k + q = 61 → 1 ≤ q → a = tPos T n k → 0 ≤ a ∧ a ≤ n → 4 * (k : Int) ≤ a → (tP T n q k a).1 = 0 → (k : Int) ≤ (tP T n q k a).2.2 ∧ (tP T n q k a).2.2 ≤ 60 ∧ 4 * (tP T n q k a).2.2 ≤ n ∧ ∀ i : Nat, k ≤ i → (i : Int) < (tP T n q k a).2.2 → (tCk T n 0 (tPos T n i)).1 = 0 ∧ 0 ≤ tPos T n i ∧ tPos T n i ≤ n := by
  intro q
  induction q with
  | zero => intro k a _ h; omega
  | succ q ih =>
    intro k a h1 h2 hp ha h4 hz
    by_cases c0 : tKi T n a = 0
    · have e : tP T n (q + 1) k a = (0, -1, (k : Int)) := if_pos c0
      rw [e]
      exact ⟨Int.le_refl _, by dsimp only; omega, by dsimp only; omega, fun i hi hj => by dsimp only at hj; omega⟩
    · by_cases c1 : (tCk T n k a).1 = 0
      · have e : tP T n (q + 1) k a = tP T n q (k + 1) (tCk T n k a).2 := by
          show (if _ then _ else if _ then _ else _) = _
          rw [if_neg c0, if_pos c1]
        rw [e] at hz ⊢
        have hcb := tCk_b T (k := (k : Int)) ha
        obtain ⟨b1, b2, b3, b4⟩ := hcb.2.2 c1
        have ep : (tCk T n k a).2 = tPos T n (k + 1) := by
          show _ = (tCk T n 0 (tPos T n k)).2
          rw [← hp, tCk_k T n a b2]
        obtain ⟨x1, x2, x3, x4⟩ := ih (k + 1) (tCk T n k a).2 (by omega) (by omega) ep ⟨hcb.1, hcb.2.1⟩ (by push_cast; omega) hz
        refine ⟨by push_cast at x1; omega, x2, x3, fun i hi hj => ?_⟩
        by_cases ei : i = k
        · subst ei
          rw [← hp, ← tCk_k T n a b2]
          exact ⟨c1, ha⟩
        · exact x4 i (by omega) hj
      · have e : tP T n (q + 1) k a = ((tCk T n k a).1, (tCk T n k a).2, (k : Int)) := by
          show (if _ then _ else if _ then _ else _) = _
          rw [if_neg c0, if_neg c1]
        rw [e] at hz
        exact absurd hz c1
theorem tRc_ok (T : Int → Int) (n : Int) (ls : List Int) (a0 : Int) : ∀ (q i : Nat), (tRc T n ls q i (tAk T n ls a0 i)).1 = 0 → ∀ j, i ≤ j → j < i + q → tOc T n (tAk T n ls a0 j) (ls.getD j 0) = 0 := by
  intro q
  induction q with
  | zero => intro i _ j h1 h2; omega
  | succ q ih =>
    intro i h j h1 h2
    by_cases c : tOc T n (tAk T n ls a0 i) (ls.getD i 0) = 0
    · rw [tRc_1 T n ls q i _ c] at h
      by_cases e : j = i
      · rw [e]; exact c
      · exact ih (i + 1) h j (by omega) (by omega)
    · rw [tRc_2 T n ls q i _ c] at h
      exact absurd h c
def tRg (l v : Int) : Prop := if l = 118 then -99 ≤ v ∧ v ≤ 99 else if l = 101 then v = 0 ∨ v = 1 else tLo l ≤ v ∧ v ≤ tHi l
theorem tOv_r {T : Int → Int} {n a l : Int} (ha : 0 ≤ a ∧ a ≤ n) (hl : tLt l) (h : tOc T n a l = 0) : tRg l (tOv T n a l) := by
  unfold tRg
  by_cases he : l = 101
  · subst he
    rw [if_neg (by decide), if_pos rfl]
    have : tOv T n a 101 = tIs T n a (tWl 10) := if_pos rfl
    rw [this]
    exact tIs_01 _ _ _ _
  · have hb := tNa_a T l ha
    unfold tOc at h
    rw [if_neg he] at h
    by_cases c1 : tKi T n (tNa T n a l) ≠ 2
    · rw [if_pos c1] at h; omega
    · rw [if_neg c1] at h
      by_cases c2 : tNm T n (tNa T n a l) < tLo l ∨ tHi l < tNm T n (tNa T n a l)
      · rw [if_pos c2] at h; omega
      · have h0 := (tNr_le (tNr_a ⟨hb.1, hb.2.1⟩ (Classical.not_not.mp c1)) (lo := 0) (hi := 99) (by decide)).2.2.1
        unfold tOv
        rw [if_neg he]
        by_cases h118 : l = 118
        · subst h118
          rw [if_pos rfl]
          have e1 : tLo 118 = 0 := rfl
          have e2 : tHi 118 = 99 := rfl
          rw [e1, e2] at c2
          split <;> omega
        · rw [if_neg h118, if_neg he, if_neg (fun z => h118 z.1)]
          omega
def tCv (T : Int → Int) (n : Int) (k : Nat) : Int := tVb T n (tPos T n k)
def tCo (T : Int → Int) (n : Int) (k j : Nat) : Int := tOv T n (tAk T n (tLe (tCv T n k)) (tBe T n (tPos T n k)) j) ((tLe (tCv T n k)).getD j 0)
theorem tCmd_r {T : Int → Int} {n : Int} {k : Nat} (h : (tCk T n 0 (tPos T n k)).1 = 0) (ha : 0 ≤ tPos T n k ∧ tPos T n k ≤ n) : (0 ≤ tCv T n k ∧ tCv T n k ≤ 9) ∧ ∀ j, j < (tLe (tCv T n k)).length → tRg ((tLe (tCv T n k)).getD j 0) (tCo T n k j) := by
  have hb := tCk_b T (k := 0) ha
  obtain ⟨-, -, b3, b4⟩ := hb.2.2 h
  refine ⟨⟨b3, b4⟩, fun j hj => ?_⟩
  have hl := (tLe_lt ⟨b3, b4⟩).2.2 j hj
  have h1 : tVb T n (tPos T n k) ≠ -1 := by omega
  unfold tCk at h
  rw [if_neg h1, if_neg (by decide)] at h
  have hbe := tBe_a T ha
  have hok := tRc_ok T n (tLe (tVb T n (tPos T n k))) (tBe T n (tPos T n k)) _ 0 h j (by omega) (by show j < 0 + _; rw [Nat.zero_add]; exact hj)
  have hA := tAk_a T (tLe (tVb T n (tPos T n k))) ⟨hbe.1, hbe.2.1⟩ j
  exact tOv_r ⟨hA.1, hA.2.1⟩ hl hok
