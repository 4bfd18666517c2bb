def tPos (T : Int → Int) (n : Int) : Nat → Int
  | 0 => 0
  | k + 1 => (tCk T n 0 (tPos T n k)).2
def tP (T : Int → Int) (n : Int) : Nat → Nat → Int → Int × Int × Int
  | 0, k, _ => (0, -1, (k : Int))
  | q + 1, k, a => if tKi T n a = 0 then (0, -1, (k : Int)) else if (tCk T n k a).1 = 0 then tP T n q (k + 1) (tCk T n k a).2 else ((tCk T n k a).1, (tCk T n k a).2, (k : Int))
theorem tRc_b (T : Int → Int) {n : Int} (ls : List Int) : ∀ (q i : Nat) (a : Int), 0 ≤ a ∧ a ≤ n → a ≤ (tRc T n ls q i a).2 ∧ (tRc T n ls q i a).2 ≤ n := by
  intro q
  induction q with
  | zero =>
    intro i a ha
    have h := tBe_a T ha
    have h2 := tSt_b T ha.2
    simp only [tRc]
    split <;> (dsimp only; omega)
  | succ q ih =>
    intro i a ha
    have h := tOa_a T (ls.getD i 0) ha
    have h2 := tNa_a T (ls.getD i 0) ha
    have h3 := tSt_b T h2.2.1
    have := ih (i + 1) (tOa T n a (ls.getD i 0)) ⟨h.1, h.2.1⟩
    simp only [tRc]
    split
    · omega
    · dsimp only; omega
theorem tCk_b (T : Int → Int) {n k a : Int} (ha : 0 ≤ a ∧ a ≤ n) : 0 ≤ (tCk T n k a).2 ∧ (tCk T n k a).2 ≤ n ∧ ((tCk T n k a).1 = 0 → a + 4 ≤ (tCk T n k a).2 ∧ k < 60 ∧ 0 ≤ tVb T n a ∧ tVb T n a ≤ 9) := by
  have hs := tSt_b T ha.2
  unfold tCk
  by_cases h1 : tVb T n a = -1
  · rw [if_pos h1]
    exact ⟨by dsimp only; omega, by dsimp only; omega, fun z => absurd z (show ¬ (1 : Int) = 0 by decide)⟩
  · rw [if_neg h1]
    by_cases h2 : 60 ≤ k
    · rw [if_pos h2]
      exact ⟨by dsimp only; omega, by dsimp only; omega, fun z => absurd z (show ¬ (3 : Int) = 0 by decide)⟩
    · rw [if_neg h2]
      have hb := tBe_a T ha
      have hv := (tVb_b T n a).resolve_left h1
      have hr := tRc_b T (tLe (tVb T n a)) (tLe (tVb T n a)).length 0 (tBe T n a) ⟨hb.1, hb.2.1⟩
      have hw : tIs T n a (tWl (tVb T n a)) = 1 := by
        have h := tvf_b T n a 10 0 (by decide)
        have e : tvf T n a 10 0 = tVb T n a := rfl
        rw [e] at h
        rcases h with h | ⟨-, -, h3⟩
        · exact absurd h h1
        · exact h3
      have hl := tIs_len hw
      have h4 := (tWl_b (k := tVb T n a) ⟨hv.1, by omega⟩).2.2.2.2.2.1 hv.2
      exact ⟨by omega, hr.2, fun _ => ⟨by omega, by omega, hv.1, hv.2⟩⟩
theorem tCk_k (T : Int → Int) (n a : Int) {k : Int} (hk : k < 60) : tCk T n k a = tCk T n 0 a := by
  unfold tCk
  rw [if_neg (show ¬ 60 ≤ k by omega), if_neg (show ¬ (60 : Int) ≤ 0 by decide)]
theorem c_pS {kd : Int → Nat × Int} {w : Nat × Nat × Nat} {m m' : Int → Int → Int} {k t c : Int} (k1 : kd 71 = (12, 0)) (h7 : m 71 7 = t) (ht : t ≠ 0) (hk : 0 ≤ k ∧ k ≤ 60) (pc : f_X8_parseCommand [(1, 71)] (m, kd, w) = some (.inl (some (0, c)), (m', kd, w))) : qa_ev P_X8_parse 1 [(1, 71), (0, 1), (0, k)] [] (m, kd, w) = qa_ev P_X8_parse 1 [(1, 71), (0, c), (0, k + 1)] [] (m', kd, w) := by
  rw [ev_X8_parse_1]
  simp (disch := omega) [ev_X8_parse_0, ev_X8_parse_2, B_X8_parse_0, B_X8_parse_1, B_X8_parse_2, x_const, x_iadd, x_isub, x_imul, x_idiv, x_irem, x_ineg, x_dup, x_dup_x1, x_dup2, x_pop, x_goto, x_ifeq, x_ifne, x_iflt, x_ifge, x_ifgt, x_ifle, x_cmpeq, x_cmpne, x_cmplt, x_cmpge, x_cmpgt, x_cmple, x_null, x_nonnull, x_acmpeq, x_acmpne, x_get, x_put, x_putz, x_ald, x_ast, x_bast, x_zast, x_aast, x_alen, x_obj, x_ret, x_retz, x_vret, x_max, x_min, x_copy, x_i2l, qg_none, qg_inl, qg_inr, qg_ite, xr1, xr0, xrE, xri, xl0, xl1, xl2, xl3, xl4, xl5, xl6, xl7, xl8, xl9, xl10, xs0, xs1, xs2, xs3, xs4, xs5, xs6, xs7, xs8, xs9, xs10, xi0, xi1, xi2, xi3, xi4, xi5, xi6, xi7, xi8, xi9, xi10, xc0, xc1, xc2, xc3, xc4, xc5, xc6, xc7, xv1, xv2, xv3, xv4, xv5, xv6, xv7, dT_le, dF_le, dT_lt, dF_lt, dF_eq, k1, h7, ht, pc]
theorem c_pE {kd : Int → Nat × Int} {w : Nat × Nat × Nat} {m : Int → Int → Int} {k t c : Int} (k1 : kd 71 = (12, 0)) (h7 : m 71 7 = t) (hc : c = 0 ∨ c = 1) (ht : t = 0 ∨ c = 0) : qa_ev P_X8_parse 1 [(1, 71), (0, c), (0, k)] [] (m, kd, w) = some (.inl (some (0, c)), (m, kd, w)) := by
  rw [ev_X8_parse_1]
  by_cases hk : 60 < k
  · rcases hc with rfl | rfl
    · simp (disch := omega) [ev_X8_parse_0, ev_X8_parse_2, B_X8_parse_0, B_X8_parse_1, B_X8_parse_2, x_const, x_iadd, x_isub, x_imul, x_idiv, x_irem, x_ineg, x_dup, x_dup_x1, x_dup2, x_pop, x_goto, x_ifeq, x_ifne, x_iflt, x_ifge, x_ifgt, x_ifle, x_cmpeq, x_cmpne, x_cmplt, x_cmpge, x_cmpgt, x_cmple, x_null, x_nonnull, x_acmpeq, x_acmpne, x_get, x_put, x_putz, x_ald, x_ast, x_bast, x_zast, x_aast, x_alen, x_obj, x_ret, x_retz, x_vret, x_max, x_min, x_copy, x_i2l, qg_none, qg_inl, qg_inr, qg_ite, xr1, xr0, xrE, xri, xl0, xl1, xl2, xl3, xl4, xl5, xl6, xl7, xl8, xl9, xl10, xs0, xs1, xs2, xs3, xs4, xs5, xs6, xs7, xs8, xs9, xs10, xi0, xi1, xi2, xi3, xi4, xi5, xi6, xi7, xi8, xi9, xi10, xc0, xc1, xc2, xc3, xc4, xc5, xc6, xc7, xv1, xv2, xv3, xv4, xv5, xv6, xv7, dT_le, dF_le, dT_lt, dF_lt, hk]
    · simp (disch := omega) [ev_X8_parse_0, ev_X8_parse_2, B_X8_parse_0, B_X8_parse_1, B_X8_parse_2, x_const, x_iadd, x_isub, x_imul, x_idiv, x_irem, x_ineg, x_dup, x_dup_x1, x_dup2, x_pop, x_goto, x_ifeq, x_ifne, x_iflt, x_ifge, x_ifgt, x_ifle, x_cmpeq, x_cmpne, x_cmplt, x_cmpge, x_cmpgt, x_cmple, x_null, x_nonnull, x_acmpeq, x_acmpne, x_get, x_put, x_putz, x_ald, x_ast, x_bast, x_zast, x_aast, x_alen, x_obj, x_ret, x_retz, x_vret, x_max, x_min, x_copy, x_i2l, qg_none, qg_inl, qg_inr, qg_ite, xr1, xr0, xrE, xri, xl0, xl1, xl2, xl3, xl4, xl5, xl6, xl7, xl8, xl9, xl10, xs0, xs1, xs2, xs3, xs4, xs5, xs6, xs7, xs8, xs9, xs10, xi0, xi1, xi2, xi3, xi4, xi5, xi6, xi7, xi8, xi9, xi10, xc0, xc1, xc2, xc3, xc4, xc5, xc6, xc7, xv1, xv2, xv3, xv4, xv5, xv6, xv7, dT_le, dF_le, dT_lt, dF_lt, hk]
  · rcases hc with rfl | rfl
    · simp (disch := omega) [ev_X8_parse_0, ev_X8_parse_2, B_X8_parse_0, B_X8_parse_1, B_X8_parse_2, x_const, x_iadd, x_isub, x_imul, x_idiv, x_irem, x_ineg, x_dup, x_dup_x1, x_dup2, x_pop, x_goto, x_ifeq, x_ifne, x_iflt, x_ifge, x_ifgt, x_ifle, x_cmpeq, x_cmpne, x_cmplt, x_cmpge, x_cmpgt, x_cmple, x_null, x_nonnull, x_acmpeq, x_acmpne, x_get, x_put, x_putz, x_ald, x_ast, x_bast, x_zast, x_aast, x_alen, x_obj, x_ret, x_retz, x_vret, x_max, x_min, x_copy, x_i2l, qg_none, qg_inl, qg_inr, qg_ite, xr1, xr0, xrE, xri, xl0, xl1, xl2, xl3, xl4, xl5, xl6, xl7, xl8, xl9, xl10, xs0, xs1, xs2, xs3, xs4, xs5, xs6, xs7, xs8, xs9, xs10, xi0, xi1, xi2, xi3, xi4, xi5, xi6, xi7, xi8, xi9, xi10, xc0, xc1, xc2, xc3, xc4, xc5, xc6, xc7, xv1, xv2, xv3, xv4, xv5, xv6, xv7, dT_le, dF_le, dT_lt, dF_lt, hk]
    · have h0 : m 71 7 = 0 := by omega
      simp (disch := omega) [ev_X8_parse_0, ev_X8_parse_2, B_X8_parse_0, B_X8_parse_1, B_X8_parse_2, x_const, x_iadd, x_isub, x_imul, x_idiv, x_irem, x_ineg, x_dup, x_dup_x1, x_dup2, x_pop, x_goto, x_ifeq, x_ifne, x_iflt, x_ifge, x_ifgt, x_ifle, x_cmpeq, x_cmpne, x_cmplt, x_cmpge, x_cmpgt, x_cmple, x_null, x_nonnull, x_acmpeq, x_acmpne, x_get, x_put, x_putz, x_ald, x_ast, x_bast, x_zast, x_aast, x_alen, x_obj, x_ret, x_retz, x_vret, x_max, x_min, x_copy, x_i2l, qg_none, qg_inl, qg_inr, qg_ite, xr1, xr0, xrE, xri, xl0, xl1, xl2, xl3, xl4, xl5, xl6, xl7, xl8, xl9, xl10, xs0, xs1, xs2, xs3, xs4, xs5, xs6, xs7, xs8, xs9, xs10, xi0, xi1, xi2, xi3, xi4, xi5, xi6, xi7, xi8, xi9, xi10, xc0, xc1, xc2, xc3, xc4, xc5, xc6, xc7, xv1, xv2, xv3, xv4, xv5, xv6, xv7, dT_le, dF_le, dT_lt, dF_lt, hk, k1, h0]
def CCm (T : Int → Int) (n : Int) (K : Int) (m : Int → Int → Int) : Prop := ∀ k : Nat, (k : Int) < K → (0 ≤ tVb T n (tPos T n k) ∧ tVb T n (tPos T n k) ≤ 9) ∧ m 73 k = -20 - tVb T n (tPos T n k) ∧ ∀ j : Nat, j < (tLe (tVb T n (tPos T n k))).length → m 74 ((k : Int) * 4 + j) = tOv T n (tAk T n (tLe (tVb T n (tPos T n k))) (tBe T n (tPos T n k)) j) ((tLe (tVb T n (tPos T n k))).getD j 0)
theorem c_parse {m : Int → Int → Int} {kd : Int → Nat × Int} {w : Nat × Nat × Nat} {T : Int → Int} {n : Int} (hK : KSc kd) (hM : MSc T n m) : ∃ m', f_X8_parse [(1, 71)] (m, kd, w) = some (.inl (some (0, if (tP T n 61 0 0).1 = 0 then 1 else 0)), (m', kd, w)) ∧ (∀ c, c ≠ 71 → c ≠ 73 → c ≠ 74 → m' c = m c) ∧ (∀ j, j ≤ 3 → m' 71 j = m 71 j) ∧ m' 71 5 = (tP T n 61 0 0).1 ∧ m' 71 6 = (tP T n 61 0 0).2.1 ∧ ((tP T n 61 0 0).1 = 0 → m' 71 4 = (tP T n 61 0 0).2.2 ∧ CCm T n (tP T n 61 0 0).2.2 m') := by
  have k1 := hK.1
  have hn0 : 0 ≤ n := hM.2.2.2.2.1.1
  have loop : ∀ (q k : Nat) (a : Int) (m1 : Int → Int → Int), k + q = 61 → 1 ≤ q → a = tPos T n k → 0 ≤ a ∧ a ≤ n → MSc T n m1 → CLx T n a m1 → m1 71 4 = k → m1 71 5 = 0 → m1 71 6 = -1 → (∀ c, c ≠ 71 → c ≠ 73 → c ≠ 74 → m1 c = m c) → (∀ j, j ≤ 3 → m1 71 j = m 71 j) → CCm T n k m1 → ∃ m', qa_ev P_X8_parse 1 [(1, 71), (0, 1), (0, (k : Int))] [] (m1, kd, w) = some (.inl (some (0, if (tP T n q k a).1 = 0 then 1 else 0)), (m', kd, w)) ∧ (∀ c, c ≠ 71 → c ≠ 73 → c ≠ 74 → m' c = m c) ∧ (∀ j, j ≤ 3 → m' 71 j = m 71 j) ∧ m' 71 5 = (tP T n q k a).1 ∧ m' 71 6 = (tP T n q k a).2.1 ∧ ((tP T n q k a).1 = 0 → m' 71 4 = (tP T n q k a).2.2 ∧ CCm T n (tP T n q k a).2.2 m') := by
    intro q
    induction q with
    | zero => intro k a m1 h1 h2; omega
    | succ q ih =>
      intro k a m1 h1 h2 hp ha hM1 hL1 m4 m5 m6 o p hC
      obtain ⟨l7, l8, l9⟩ := id hL1
      by_cases c0 : tKi T n a = 0
      · have e : tP T n (q + 1) k a = (0, -1, (k : Int)) := if_pos c0
        rw [e]
        exact ⟨m1, c_pE k1 l7 (Or.inr rfl) (Or.inl c0), o, p, m5, m6, fun _ => ⟨m4, hC⟩⟩
      · obtain ⟨m2, g1, g2, g3, g4, g5⟩ := c_parseCommand (w := w) hK hM1 hL1 ha m4 ⟨by omega, by omega⟩
        have st := c_pS k1 l7 c0 (k := (k : Int)) ⟨by omega, by omega⟩ g1
        have hcb := tCk_b T (k := (k : Int)) ha
        by_cases c1 : (tCk T n k a).1 = 0
        · have e : tP T n (q + 1) k a = tP T n q (k + 1) (tCk T n k a).2 := by
            show (if _ then _ else if _ then _ else _) = _
            rw [if_neg c0, if_pos c1]
          rw [e]
          rw [if_pos c1] at st
          obtain ⟨h1', h2', h3, h4, h5, h6, h7⟩ := g4 c1
          obtain ⟨b1, b2, b3, b4⟩ := hcb.2.2 c1
          have ec : ((k + 1 : Nat) : Int) = (k : Int) + 1 := by omega
          have ep : (tCk T n k a).2 = tPos T n (k + 1) := by
            show _ = (tCk T n 0 (tPos T n k)).2
            rw [← hp, tCk_k T n a b2]
          have hM2 : MSc T n m2 := MSc_71 hM1 (g2 72 (by decide) (by decide) (by decide)) (fun j _ hj => g3 j hj)
          obtain ⟨m3, f1, f2⟩ := ih (k + 1) (tCk T n k a).2 m2 (by omega) (by omega) ep ⟨hcb.1, hcb.2.1⟩ hM2 h1' (by rw [h2', ec]) (by rw [h3, m5]) (by rw [h4, m6]) (fun c c1 c2 c3 => by rw [g2 c c1 c2 c3, o c c1 c2 c3]) (fun j hj => by rw [g3 j hj, p j hj]) (fun i hi => by
            by_cases e : i = k
            · subst e
              rw [← hp]
              exact ⟨⟨b3, b4⟩, by rw [h5, if_pos rfl], h7⟩
            · obtain ⟨x1, x2, x3⟩ := hC i (by omega)
              have hlen := (tLe_lt x1).2.1
              exact ⟨x1, by rw [h5, if_neg (by omega), x2], fun j hj => by rw [h6 _ (by omega)]; exact x3 j hj⟩)
          rw [ec] at f1
          exact ⟨m3, st.trans f1, f2⟩
        · have e : tP T n (q + 1) k a = ((tCk T n k a).1, (tCk T n k a).2, (k : Int)) := by
            show (if _ then _ else if _ then _ else _) = _
            rw [if_neg c0, if_neg c1]
          rw [e]
          rw [if_neg c1] at st
          obtain ⟨x5, x6⟩ := g5 c1
          refine ⟨m2, ?_, fun c c1 c2 c3 => by rw [g2 c c1 c2 c3, o c c1 c2 c3], fun j hj => by rw [g3 j hj, p j hj], x5, x6, fun z => absurd z c1⟩
          rw [st, if_neg c1]
          exact c_pE k1 rfl (Or.inl rfl) (Or.inr rfl)
  generalize hm1 : qa_up (qa_up (qa_up (qa_up m 71 4 0) 71 5 0) 71 6 (-1)) 71 9 0 = m1
  have o1 : ∀ c j, (c ≠ 71 ∨ (j ≠ 4 ∧ j ≠ 5 ∧ j ≠ 6 ∧ j ≠ 9)) → m1 c j = m c j := fun c j h => by
    rw [← hm1, qa_up_no _ (by omega), qa_up_no _ (by omega), qa_up_no _ (by omega), qa_up_no _ (by omega)]
  have hM1 : MSc T n m1 := MSc_71 hM (by funext j; exact o1 72 j (by omega)) (fun j _ _ => o1 71 j (by omega))
  have nx := c_next (w := w) (a := 0) hK hM1 (by rw [← hm1, qa_up_hit]) ⟨by decide, hn0⟩
  have x4 : m1 71 4 = 0 := by rw [← hm1, qa_up_no _ (by omega), qa_up_no _ (by omega), qa_up_no _ (by omega), qa_up_hit]
  have x5 : m1 71 5 = 0 := by rw [← hm1, qa_up_no _ (by omega), qa_up_no _ (by omega), qa_up_hit]
  have x6 : m1 71 6 = -1 := by rw [← hm1, qa_up_no _ (by omega), qa_up_hit]
  obtain ⟨m', f1, f2⟩ := loop 61 0 0 (tNx m1 (tKi T n 0) (tSt T n 0) (tBe T n 0)) rfl (by decide) rfl ⟨by decide, hn0⟩ (MSc_Nx hM1) (CLx_Nx T n 0 m1) (by rw [tNx_no (by omega), x4]; rfl) (by rw [tNx_no (by omega), x5]) (by rw [tNx_no (by omega), x6]) (fun c c1 _ _ => by funext j; rw [tNx_no (Or.inl c1), o1 c j (Or.inl c1)]) (fun j hj => by rw [tNx_no (by omega), o1 71 j (by omega)]) (fun k hk => by omega)
  simp only [Int.natCast_zero] at f1
  refine ⟨m', ?_, f2⟩
  unfold f_X8_parse
  refine qa_fn_eq ?_ (by simp)
  simp (disch := omega) [ev_X8_parse_0, ev_X8_parse_2, B_X8_parse_0, B_X8_parse_1, B_X8_parse_2, x_const, x_iadd, x_isub, x_imul, x_idiv, x_irem, x_ineg, x_dup, x_dup_x1, x_dup2, x_pop, x_goto, x_ifeq, x_ifne, x_iflt, x_ifge, x_ifgt, x_ifle, x_cmpeq, x_cmpne, x_cmplt, x_cmpge, x_cmpgt, x_cmple, x_null, x_nonnull, x_acmpeq, x_acmpne, x_get, x_put, x_putz, x_ald, x_ast, x_bast, x_zast, x_aast, x_alen, x_obj, x_ret, x_retz, x_vret, x_max, x_min, x_copy, x_i2l, qg_none, qg_inl, qg_inr, qg_ite, xr1, xr0, xrE, xri, xl0, xl1, xl2, xl3, xl4, xl5, xl6, xl7, xl8, xl9, xl10, xs0, xs1, xs2, xs3, xs4, xs5, xs6, xs7, xs8, xs9, xs10, xi0, xi1, xi2, xi3, xi4, xi5, xi6, xi7, xi8, xi9, xi10, xc0, xc1, xc2, xc3, xc4, xc5, xc6, xc7, xv1, xv2, xv3, xv4, xv5, xv6, xv7, dT_le, dF_le, dT_lt, dF_lt, k1, hm1, nx]
  exact f1
