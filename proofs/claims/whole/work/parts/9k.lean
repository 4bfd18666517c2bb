theorem m_readRest {m : Int → Int → Int} {kd : Int → Nat × Int} {w : Nat × Nat × Nat} (hK : KM kd) (hR : RM m) {T : Int → Int} {n its a v : Int} (hT : MTx T n m) (hW : MWo m) (hs : MSt T n (0, a) m) (ha : 0 ≤ a ∧ a ≤ n) (hi : 0 ≤ its ∧ its ≤ 295) (hv : 0 ≤ v ∧ v ≤ 9) : mRst T n v its a m kd w (f_X12_readRest [(1, 77), (0, its), (0, v)] (m, kd, w)) := by
  have : v = 0 ∨ v = 1 ∨ v = 2 ∨ v = 3 ∨ v = 4 ∨ v = 5 ∨ v = 6 ∨ v = 7 ∨ v = 8 ∨ v = 9 := by omega
  rcases this with rfl | rfl | rfl | rfl | rfl | rfl | rfl | rfl | rfl | rfl
  · exact m_readRest0 hK hR hT hW hs ha hi
  · exact m_readRest1 hK hR hT hW hs ha hi
  · exact m_readRest2 hK hR hT hW hs ha hi
  · exact m_readRest3 hK hR hT hW hs ha hi
  · exact m_readRest4 hK hR hT hW hs ha hi
  · exact m_readRest5 hK hR hT hW hs ha hi
  · exact m_readRest6 hK hR hT hW hs ha hi
  · exact m_readRest7 hK hR hT hW hs ha hi
  · exact m_readRest8 hK hR hT hW hs ha hi
  · exact m_readRest9 hK hR hT hW hs ha hi
theorem tFo_err (T : Int → Int) (n : Int) (ls : List Int) : ∀ (q i : Nat) (s : Int × Int), s.1 ≠ 0 → tFo T n ls q i s = s := by
  intro q
  induction q with
  | zero => intro i s _; rfl
  | succ q ih =>
    intro i s h
    have e : tOp T n (ls.getD i 0) s = s := if_pos h
    show tFo T n ls q (i + 1) (tOp T n (ls.getD i 0) s) = s
    rw [e]
    exact ih (i + 1) s h
theorem tFo_S (T : Int → Int) (n : Int) (ls : List Int) : ∀ (q i : Nat) (s : Int × Int), tTS n s → tTS n (tFo T n ls q i s) := by
  intro q
  induction q with
  | zero => intro i s h; exact h
  | succ q ih => intro i s h; exact ih (i + 1) _ (tOp_S h)
theorem tRc_tFo (T : Int → Int) (n : Int) (ls : List Int) : ∀ (q i : Nat) (a : Int), tRc T n ls q i a = if (tFo T n ls q i (0, a)).1 = 0 then (if tKi T n (tFo T n ls q i (0, a)).2 = 4 then (0, tBe T n (tFo T n ls q i (0, a)).2) else (1, tSt T n (tFo T n ls q i (0, a)).2)) else tFo T n ls q i (0, a) := by
  intro q
  induction q with
  | zero =>
    intro i a
    show (if tKi T n a = 4 then (0, tBe T n a) else (1, tSt T n a)) = _
    have e : tFo T n ls 0 i (0, a) = (0, a) := rfl
    rw [e, if_pos rfl]
  | succ q ih =>
    intro i a
    have e : tFo T n ls (q + 1) i (0, a) = tFo T n ls q (i + 1) (tOp T n (ls.getD i 0) (0, a)) := rfl
    rw [e]
    by_cases c : tOc T n a (ls.getD i 0) = 0
    · have e2 : tOp T n (ls.getD i 0) (0, a) = (0, tOa T n a (ls.getD i 0)) := by
        unfold tOp
        rw [if_neg (fun z => z rfl), if_pos c]
      rw [tRc_1 T n ls q i a c, e2]
      exact ih (i + 1) _
    · have e2 : tOp T n (ls.getD i 0) (0, a) = (tOc T n a (ls.getD i 0), tSt T n (tNa T n a (ls.getD i 0))) := by
        unfold tOp
        rw [if_neg (fun z => z rfl), if_neg c]
      have e3 := tFo_err T n ls q (i + 1) (tOc T n a (ls.getD i 0), tSt T n (tNa T n a (ls.getD i 0))) c
      rw [tRc_2 T n ls q i a c, e2, e3, if_neg c]
theorem m_rcE {kd : Int → Nat × Int} {w : Nat × Nat × Nat} {m m1 : Int → Int → Int} {wd its t e s k is : Int} (k77 : kd 77 = (15, 0)) (h19 : m 77 19 = t) (hi : (is = 1 ∧ t = 3) ∨ (is = 0 ∧ t ≠ 3)) (h21 : m 77 21 = e) (mu : f_X12_must [(1, 77), (0, is), (0, 1)] (m, kd, w) = some (.inl none, (m1, kd, w))) (h21' : m1 77 21 = s) (hs : s ≠ 0) : qa_go P_X12_readCommand (q_load 1 0 (q_load 1 0 (q_get 14 19 0 (q_const (0, 3) (q_cmpne 4 (q_const (0, 1) (q_goto 5)))))) [(1, 77), (0, wd), (0, its)] [] (m, kd, w)) = some (.inl none, (m1, kd, w)) := by
  rcases hi with ⟨rfl, rfl⟩ | ⟨rfl, ht⟩
  · simp (disch := omega) [ev_X12_readCommand_0, ev_X12_readCommand_1, ev_X12_readCommand_2, ev_X12_readCommand_3, ev_X12_readCommand_4, ev_X12_readCommand_5, ev_X12_readCommand_6, B_X12_readCommand_0, B_X12_readCommand_1, B_X12_readCommand_2, B_X12_readCommand_3, B_X12_readCommand_4, B_X12_readCommand_5, B_X12_readCommand_6, x_const, x_iadd, x_isub, x_imul, x_idiv, x_irem, x_ineg, x_dup, x_dup_x1, x_dup2, x_pop, x_goto, x_ifeq, x_ifne, x_iflt, x_ifge, x_ifgt, x_ifle, x_cmpeq, x_cmpne, x_cmplt, x_cmpge, x_cmpgt, x_cmple, x_null, x_nonnull, x_acmpeq, x_acmpne, x_get, x_put, x_putz, x_ald, x_ast, x_bast, x_zast, x_aast, x_alen, x_obj, x_ret, x_retz, x_vret, x_max, x_min, x_copy, x_i2l, qg_none, qg_inl, qg_inr, qg_ite, xr1, xr0, xrE, xri, xl0, xl1, xl2, xl3, xl4, xl5, xl6, xl7, xl8, xl9, xl10, xs0, xs1, xs2, xs3, xs4, xs5, xs6, xs7, xs8, xs9, xs10, xi0, xi1, xi2, xi3, xi4, xi5, xi6, xi7, xi8, xi9, xi10, xc0, xc1, xc2, xc3, xc4, xc5, xc6, xc7, xv1, xv2, xv3, xv4, xv5, xv6, xv7, dT_le, dF_le, dT_lt, dF_lt, dF_eq, k77, h19, mu, h21', hs]
  · simp (disch := omega) [ev_X12_readCommand_0, ev_X12_readCommand_1, ev_X12_readCommand_2, ev_X12_readCommand_3, ev_X12_readCommand_4, ev_X12_readCommand_5, ev_X12_readCommand_6, B_X12_readCommand_0, B_X12_readCommand_1, B_X12_readCommand_2, B_X12_readCommand_3, B_X12_readCommand_4, B_X12_readCommand_5, B_X12_readCommand_6, x_const, x_iadd, x_isub, x_imul, x_idiv, x_irem, x_ineg, x_dup, x_dup_x1, x_dup2, x_pop, x_goto, x_ifeq, x_ifne, x_iflt, x_ifge, x_ifgt, x_ifle, x_cmpeq, x_cmpne, x_cmplt, x_cmpge, x_cmpgt, x_cmple, x_null, x_nonnull, x_acmpeq, x_acmpne, x_get, x_put, x_putz, x_ald, x_ast, x_bast, x_zast, x_aast, x_alen, x_obj, x_ret, x_retz, x_vret, x_max, x_min, x_copy, x_i2l, qg_none, qg_inl, qg_inr, qg_ite, xr1, xr0, xrE, xri, xl0, xl1, xl2, xl3, xl4, xl5, xl6, xl7, xl8, xl9, xl10, xs0, xs1, xs2, xs3, xs4, xs5, xs6, xs7, xs8, xs9, xs10, xi0, xi1, xi2, xi3, xi4, xi5, xi6, xi7, xi8, xi9, xi10, xc0, xc1, xc2, xc3, xc4, xc5, xc6, xc7, xv1, xv2, xv3, xv4, xv5, xv6, xv7, dT_le, dF_le, dT_lt, dF_lt, dF_eq, k77, h19, ht, mu, h21', hs]
theorem m_rcO {kd : Int → Nat × Int} {w : Nat × Nat × Nat} {m m1 : Int → Int → Int} {wd its k : Int} (k77 : kd 77 = (15, 0)) (h19 : m 77 19 = 3) (h21 : m 77 21 = 0) (mu : f_X12_must [(1, 77), (0, 1), (0, 1)] (m, kd, w) = some (.inl none, (m, kd, w))) (go : f_X12_goesOn [(1, 77)] (m, kd, w) = some (.inl none, (m1, kd, w))) (h24 : m1 77 24 = k) (hk : 0 ≤ k ∧ k ≤ 60) : qa_go P_X12_readCommand (q_load 1 0 (q_load 1 0 (q_get 14 19 0 (q_const (0, 3) (q_cmpne 4 (q_const (0, 1) (q_goto 5)))))) [(1, 77), (0, wd), (0, its)] [] (m, kd, w)) = some (.inl none, (qa_up m1 77 24 (k + 1), kd, w)) := by
  simp (disch := omega) [ev_X12_readCommand_0, ev_X12_readCommand_1, ev_X12_readCommand_2, ev_X12_readCommand_3, ev_X12_readCommand_4, ev_X12_readCommand_5, ev_X12_readCommand_6, B_X12_readCommand_0, B_X12_readCommand_1, B_X12_readCommand_2, B_X12_readCommand_3, B_X12_readCommand_4, B_X12_readCommand_5, B_X12_readCommand_6, x_const, x_iadd, x_isub, x_imul, x_idiv, x_irem, x_ineg, x_dup, x_dup_x1, x_dup2, x_pop, x_goto, x_ifeq, x_ifne, x_iflt, x_ifge, x_ifgt, x_ifle, x_cmpeq, x_cmpne, x_cmplt, x_cmpge, x_cmpgt, x_cmple, x_null, x_nonnull, x_acmpeq, x_acmpne, x_get, x_put, x_putz, x_ald, x_ast, x_bast, x_zast, x_aast, x_alen, x_obj, x_ret, x_retz, x_vret, x_max, x_min, x_copy, x_i2l, qg_none, qg_inl, qg_inr, qg_ite, xr1, xr0, xrE, xri, xl0, xl1, xl2, xl3, xl4, xl5, xl6, xl7, xl8, xl9, xl10, xs0, xs1, xs2, xs3, xs4, xs5, xs6, xs7, xs8, xs9, xs10, xi0, xi1, xi2, xi3, xi4, xi5, xi6, xi7, xi8, xi9, xi10, xc0, xc1, xc2, xc3, xc4, xc5, xc6, xc7, xv1, xv2, xv3, xv4, xv5, xv6, xv7, dT_le, dF_le, dT_lt, dF_lt, k77, h19, mu, h21, go, h24]
theorem m_readCommand {m : Int → Int → Int} {kd : Int → Nat × Int} {w : Nat × Nat × Nat} (hK : KM kd) (hR : RM m) {T : Int → Int} {n a k : Int} (hT : MTx T n m) (hW : MWo m) (hs : MSt T n (0, a) m) (ha : 0 ≤ a ∧ a ≤ n) (h24 : m 77 24 = k) (hk : 0 ≤ k ∧ k ≤ 60) : ∃ m', f_X12_readCommand [(1, 77)] (m, kd, w) = some (.inl none, (m', kd, w)) ∧ (∀ c, c ≠ 77 → c ≠ 89 → m' c = m c) ∧ (∀ i, (i < 17 ∨ i = 23 ∨ 24 < i) → m' 77 i = m 77 i) ∧ MSt T n (tCk T n k a) m' ∧ (∀ j, j < 5 * k → m' 89 j = m 89 j) ∧ ((tCk T n k a).1 = 0 → m' 77 24 = k + 1 ∧ m' 89 (5 * k) = tVb T n a ∧ ∀ j : Nat, j < (tLe (tVb T n a)).length → m' 89 (5 * k + 1 + j) = tOv T n (tAk T n (tLe (tVb T n a)) (tBe T n a) j) ((tLe (tVb T n a)).getD j 0)) := by
  have k77 := hK.1
  have k89 := hK.2.2.2.2.2.2.2.2.2.2.2.2.1
  have r25 : m 77 25 = 89 := hR.2.2.2.2.2.2.2.2.2.2.2.1
  obtain ⟨s1, s2, -⟩ := id hs
  obtain ⟨hL, h22⟩ := s2 rfl
  have h21 : m 77 21 = 0 := s1
  obtain ⟨l17, l18, l19, l20⟩ := id hL
  have wh := m_wordHere (w := w) hK hR hT hW hL ha
  obtain ⟨-, w2, w3⟩ := tvf_11 T n a
  have rg := m_in (m := m) (kd := kd) (w := w) (tvf T n a 11 0) 0 9
  unfold tCk
  by_cases h1 : tVb T n a = -1
  · rw [if_neg (by have := w3 h1; omega)] at rg
    rw [if_pos h1]
    have mu := m_must (w := w) (is := 0) (code := 1) k77 h21 l18 (Or.inl rfl)
    rw [if_pos ⟨rfl, rfl⟩] at mu
    generalize hm1 : qa_up (qa_up m 77 21 1) 77 22 (tSt T n a) = m1 at mu
    have o1 : ∀ c i, (c ≠ 77 ∨ (i ≠ 21 ∧ i ≠ 22)) → m1 c i = m c i := fun c i h => by rw [← hm1, qa_up_no _ (by omega), qa_up_no _ (by omega)]
    have e21 : m1 77 21 = 1 := by rw [← hm1, qa_up_no _ (by omega), qa_up_hit]
    have e24 : m1 77 24 = k := by rw [o1 77 24 (by omega)]; exact h24
    have mu2 := fun is (h : is = 0 ∨ is = 1) => m_must (w := w) (is := is) (code := 3) k77 e21 rfl h
    have mu20 := mu2 0 (Or.inl rfl)
    have mu21 := mu2 1 (Or.inr rfl)
    rw [if_neg (by omega)] at mu20 mu21
    refine ⟨m1, ?_, fun c c1 _ => by funext i; exact o1 c i (Or.inl c1), fun i hi => o1 77 i (by omega), by rw [← hm1]; exact MSt_err T n m (by decide), fun j _ => by rw [o1 89 j (by omega)], fun z => absurd z (show ¬ (1 : Int) = 0 by decide)⟩
    by_cases c : 60 ≤ k
    · unfold f_X12_readCommand
      refine qa_fn_eq ?_ (by simp)
      simp (disch := omega) [ev_X12_readCommand_0, ev_X12_readCommand_1, ev_X12_readCommand_2, ev_X12_readCommand_3, ev_X12_readCommand_4, ev_X12_readCommand_5, ev_X12_readCommand_6, B_X12_readCommand_0, B_X12_readCommand_1, B_X12_readCommand_2, B_X12_readCommand_3, B_X12_readCommand_4, B_X12_readCommand_5, B_X12_readCommand_6, x_const, x_iadd, x_isub, x_imul, x_idiv, x_irem, x_ineg, x_dup, x_dup_x1, x_dup2, x_pop, x_goto, x_ifeq, x_ifne, x_iflt, x_ifge, x_ifgt, x_ifle, x_cmpeq, x_cmpne, x_cmplt, x_cmpge, x_cmpgt, x_cmple, x_null, x_nonnull, x_acmpeq, x_acmpne, x_get, x_put, x_putz, x_ald, x_ast, x_bast, x_zast, x_aast, x_alen, x_obj, x_ret, x_retz, x_vret, x_max, x_min, x_copy, x_i2l, qg_none, qg_inl, qg_inr, qg_ite, xr1, xr0, xrE, xri, xl0, xl1, xl2, xl3, xl4, xl5, xl6, xl7, xl8, xl9, xl10, xs0, xs1, xs2, xs3, xs4, xs5, xs6, xs7, xs8, xs9, xs10, xi0, xi1, xi2, xi3, xi4, xi5, xi6, xi7, xi8, xi9, xi10, xc0, xc1, xc2, xc3, xc4, xc5, xc6, xc7, xv1, xv2, xv3, xv4, xv5, xv6, xv7, dT_le, dF_le, dT_lt, dF_lt, k77, wh, rg, mu, e24, mu20, e21]
    · unfold f_X12_readCommand
      refine qa_fn_eq ?_ (by simp)
      simp (disch := omega) [ev_X12_readCommand_0, ev_X12_readCommand_1, ev_X12_readCommand_2, ev_X12_readCommand_3, ev_X12_readCommand_4, ev_X12_readCommand_5, ev_X12_readCommand_6, B_X12_readCommand_0, B_X12_readCommand_1, B_X12_readCommand_2, B_X12_readCommand_3, B_X12_readCommand_4, B_X12_readCommand_5, B_X12_readCommand_6, x_const, x_iadd, x_isub, x_imul, x_idiv, x_irem, x_ineg, x_dup, x_dup_x1, x_dup2, x_pop, x_goto, x_ifeq, x_ifne, x_iflt, x_ifge, x_ifgt, x_ifle, x_cmpeq, x_cmpne, x_cmplt, x_cmpge, x_cmpgt, x_cmple, x_null, x_nonnull, x_acmpeq, x_acmpne, x_get, x_put, x_putz, x_ald, x_ast, x_bast, x_zast, x_aast, x_alen, x_obj, x_ret, x_retz, x_vret, x_max, x_min, x_copy, x_i2l, qg_none, qg_inl, qg_inr, qg_ite, xr1, xr0, xrE, xri, xl0, xl1, xl2, xl3, xl4, xl5, xl6, xl7, xl8, xl9, xl10, xs0, xs1, xs2, xs3, xs4, xs5, xs6, xs7, xs8, xs9, xs10, xi0, xi1, xi2, xi3, xi4, xi5, xi6, xi7, xi8, xi9, xi10, xc0, xc1, xc2, xc3, xc4, xc5, xc6, xc7, xv1, xv2, xv3, xv4, xv5, xv6, xv7, dT_le, dF_le, dT_lt, dF_lt, k77, wh, rg, mu, e24, mu21, e21]
  · rw [if_neg h1]
    have hv : 0 ≤ tVb T n a ∧ tVb T n a ≤ 9 := (tVb_b T n a).resolve_left h1
    have hw := w2 h1
    rw [hw] at wh rg
    rw [if_pos hv] at rg
    have mu := m_must (w := w) (is := 1) (code := 1) k77 h21 l18 (Or.inr rfl)
    rw [if_neg (by omega)] at mu
    generalize tVb T n a = v at h1 wh rg hv ⊢
    by_cases h2 : 60 ≤ k
    · rw [if_pos h2]
      have mu3 := m_must (w := w) (is := 0) (code := 3) k77 h21 l18 (Or.inl rfl)
      rw [if_pos ⟨rfl, rfl⟩] at mu3
      generalize hm1 : qa_up (qa_up m 77 21 3) 77 22 (tSt T n a) = m1 at mu3
      have o1 : ∀ c i, (c ≠ 77 ∨ (i ≠ 21 ∧ i ≠ 22)) → m1 c i = m c i := fun c i h => by rw [← hm1, qa_up_no _ (by omega), qa_up_no _ (by omega)]
      have e21 : m1 77 21 = 3 := by rw [← hm1, qa_up_no _ (by omega), qa_up_hit]
      refine ⟨m1, ?_, fun c c1 _ => by funext i; exact o1 c i (Or.inl c1), fun i hi => o1 77 i (by omega), by rw [← hm1]; exact MSt_err T n m (by decide), fun j _ => by rw [o1 89 j (by omega)], fun z => absurd z (show ¬ (3 : Int) = 0 by decide)⟩
      unfold f_X12_readCommand
      refine qa_fn_eq ?_ (by simp)
      simp (disch := omega) [ev_X12_readCommand_0, ev_X12_readCommand_1, ev_X12_readCommand_2, ev_X12_readCommand_3, ev_X12_readCommand_4, ev_X12_readCommand_5, ev_X12_readCommand_6, B_X12_readCommand_0, B_X12_readCommand_1, B_X12_readCommand_2, B_X12_readCommand_3, B_X12_readCommand_4, B_X12_readCommand_5, B_X12_readCommand_6, x_const, x_iadd, x_isub, x_imul, x_idiv, x_irem, x_ineg, x_dup, x_dup_x1, x_dup2, x_pop, x_goto, x_ifeq, x_ifne, x_iflt, x_ifge, x_ifgt, x_ifle, x_cmpeq, x_cmpne, x_cmplt, x_cmpge, x_cmpgt, x_cmple, x_null, x_nonnull, x_acmpeq, x_acmpne, x_get, x_put, x_putz, x_ald, x_ast, x_bast, x_zast, x_aast, x_alen, x_obj, x_ret, x_retz, x_vret, x_max, x_min, x_copy, x_i2l, qg_none, qg_inl, qg_inr, qg_ite, xr1, xr0, xrE, xri, xl0, xl1, xl2, xl3, xl4, xl5, xl6, xl7, xl8, xl9, xl10, xs0, xs1, xs2, xs3, xs4, xs5, xs6, xs7, xs8, xs9, xs10, xi0, xi1, xi2, xi3, xi4, xi5, xi6, xi7, xi8, xi9, xi10, xc0, xc1, xc2, xc3, xc4, xc5, xc6, xc7, xv1, xv2, xv3, xv4, xv5, xv6, xv7, dT_le, dF_le, dT_lt, dF_lt, k77, wh, rg, mu, h24, mu3, e21]
    · rw [if_neg h2]
      have mu3 := m_must (w := w) (is := 1) (code := 3) k77 h21 l18 (Or.inr rfl)
      rw [if_neg (by omega)] at mu3
      have hb := tBe_a T ha
      have go := m_goesL (w := w) hK hR hT hL ha
      have zf := zfp_Gx m (tBe T n (tBe T n a)) (tSt T n (tBe T n a)) (trk (tKi T n (tBe T n a))) (tRm T n (tBe T n a))
      have ML := MLx_Gx T n (tBe T n a) m
      have g21 : tGx m (tBe T n (tBe T n a)) (tSt T n (tBe T n a)) (trk (tKi T n (tBe T n a))) (tRm T n (tBe T n a)) 77 21 = 0 := by rw [tGx_no (by omega)]; exact h21
      have g22 : tGx m (tBe T n (tBe T n a)) (tSt T n (tBe T n a)) (trk (tKi T n (tBe T n a))) (tRm T n (tBe T n a)) 77 22 = -1 := by rw [tGx_no (by omega)]; exact h22
      generalize hmg : tGx m (tBe T n (tBe T n a)) (tSt T n (tBe T n a)) (trk (tKi T n (tBe T n a))) (tRm T n (tBe T n a)) = mg at go zf ML g21 g22
      have g24 : mg 77 24 = k := by rw [zf.2 24 (by omega)]; exact h24
      have g25 : mg 77 25 = 89 := by rw [zf.2 25 (by omega)]; exact r25
      have hsg : MSt T n (0, tBe T n a) mg := ⟨g21, fun _ => ⟨ML, g22⟩, fun z => absurd rfl z⟩
      obtain ⟨hRp, hTp, hWp, hsp, op, pp, cp⟩ := m_stage (p := 5 * k) (v := v) hR hT hW zf hsg
      generalize hmp : qa_up mg 89 (5 * k) v = mp at hRp hTp hWp hsp op pp cp
      obtain ⟨m3, rr, o3, p3, x3, b3, v3⟩ := m_readRest (w := w) hK hRp hTp hWp hsp ⟨hb.1, hb.2.1⟩ (its := 5 * k) ⟨by omega, by omega⟩ hv
      have e24 : m3 77 24 = k := by rw [p3 24 (by omega), pp 24 (by omega)]; exact h24
      have hTS := tFo_S T n (tLe v) (tLe v).length 0 (0, tBe T n a) ⟨fun _ => ⟨hb.1, hb.2.1⟩, show (0 : Int) ≤ 0 by decide, show (0 : Int) ≤ 3 by decide⟩
      have hR3 : RM m3 := RM_17 hRp (fun i hi => p3 i (by omega))
      have hT3 : MTx T n m3 := MTx_77 hTp (p3 16 (by omega)) (o3 87 (by decide) (by decide))
      rw [tRc_tFo]
      generalize tFo T n (tLe v) (tLe v).length 0 (0, tBe T n a) = s at x3 v3 hTS ⊢
      obtain ⟨y1, y2, y3⟩ := id x3
      have lo : ∀ j, j < 5 * k → m3 89 j = m 89 j := fun j hj => by rw [b3 j (by omega), cp, if_neg (by omega)]
      have head : ∀ R, qa_go P_X12_readCommand (q_load 1 0 (q_load 1 0 (q_get 14 19 0 (q_const (0, 3) (q_cmpne 4 (q_const (0, 1) (q_goto 5)))))) [(1, 77), (0, v), (0, 5 * k)] [] (m3, kd, w)) = R → qa_ev P_X12_readCommand 0 [(1, 77), (9, 0), (9, 0)] [] (m, kd, w) = R := fun R hR' => by
        rw [← hR']
        simp (disch := omega) [ev_X12_readCommand_0, ev_X12_readCommand_1, ev_X12_readCommand_2, ev_X12_readCommand_3, B_X12_readCommand_0, B_X12_readCommand_1, B_X12_readCommand_2, B_X12_readCommand_3, B_X12_readCommand_4, B_X12_readCommand_5, B_X12_readCommand_6, x_const, x_iadd, x_isub, x_imul, x_idiv, x_irem, x_ineg, x_dup, x_dup_x1, x_dup2, x_pop, x_goto, x_ifeq, x_ifne, x_iflt, x_ifge, x_ifgt, x_ifle, x_cmpeq, x_cmpne, x_cmplt, x_cmpge, x_cmpgt, x_cmple, x_null, x_nonnull, x_acmpeq, x_acmpne, x_get, x_put, x_putz, x_ald, x_ast, x_bast, x_zast, x_aast, x_alen, x_obj, x_ret, x_retz, x_vret, x_max, x_min, x_copy, x_i2l, qg_none, qg_inl, qg_inr, qg_ite, xr1, xr0, xrE, xri, xl0, xl1, xl2, xl3, xl4, xl5, xl6, xl7, xl8, xl9, xl10, xs0, xs1, xs2, xs3, xs4, xs5, xs6, xs7, xs8, xs9, xs10, xi0, xi1, xi2, xi3, xi4, xi5, xi6, xi7, xi8, xi9, xi10, xc0, xc1, xc2, xc3, xc4, xc5, xc6, xc7, xv1, xv2, xv3, xv4, xv5, xv6, xv7, dT_le, dF_le, dT_lt, dF_lt, k77, k89, wh, rg, mu, h24, mu3, h21, go, g24, g25, hmp, rr]
      by_cases c0 : s.1 = 0
      · rw [if_pos c0]
        obtain ⟨hL3, h322⟩ := y2 c0
        have ha3 := hTS.1 c0
        have l319 := hL3.2.2.1
        by_cases c4 : tKi T n s.2 = 4
        · rw [if_pos c4]
          have mu4 := m_must (w := w) (is := 1) (code := 1) k77 y1 hL3.2.1 (Or.inr rfl)
          rw [if_neg (by omega)] at mu4
          have go3 := m_goesL (w := w) hK hR3 hT3 hL3 ha3
          have zf3 := zfp_Gx m3 (tBe T n (tBe T n s.2)) (tSt T n (tBe T n s.2)) (trk (tKi T n (tBe T n s.2))) (tRm T n (tBe T n s.2))
          have ML3 := MLx_Gx T n (tBe T n s.2) m3
          have q21 : tGx m3 (tBe T n (tBe T n s.2)) (tSt T n (tBe T n s.2)) (trk (tKi T n (tBe T n s.2))) (tRm T n (tBe T n s.2)) 77 21 = 0 := by rw [tGx_no (by omega), y1]; exact c0
          have q22 : tGx m3 (tBe T n (tBe T n s.2)) (tSt T n (tBe T n s.2)) (trk (tKi T n (tBe T n s.2))) (tRm T n (tBe T n s.2)) 77 22 = -1 := by rw [tGx_no (by omega)]; exact h322
          generalize tGx m3 (tBe T n (tBe T n s.2)) (tSt T n (tBe T n s.2)) (trk (tKi T n (tBe T n s.2))) (tRm T n (tBe T n s.2)) = m4 at go3 zf3 ML3 q21 q22
          have e4 := m_rcO (wd := v) (its := 5 * k) k77 (by rw [l319]; exact trk_2.2.2.1.mpr c4) (by rw [y1]; exact c0) mu4 go3 (by rw [zf3.2 24 (by omega)]; exact e24) hk
          have n4 : ∀ c i, (c ≠ 77 ∨ i ≠ 24) → qa_up m4 77 24 (k + 1) c i = m4 c i := fun c i h => qa_up_no _ (by omega)
          refine ⟨qa_up m4 77 24 (k + 1), ?_, fun c c1 c2 => ?_, fun i hi => ?_, MSt_o ⟨q21, fun _ => ⟨ML3, q22⟩, fun z => absurd rfl z⟩ (fun i _ _ => n4 77 i (by omega)), fun j hj => ?_, fun _ => ⟨qa_up_hit _ _ _ _, ?_, fun j hj => ?_⟩⟩
          · unfold f_X12_readCommand
            refine qa_fn_eq ?_ (by simp)
            exact head _ e4
          · funext i
            rw [n4 c i (Or.inl c1), zf3.1 c c1, o3 c c1 c2, op c c1 c2]
          · rw [n4 77 i (by omega), zf3.2 i (by omega), p3 i (by omega), pp i (by omega)]
          · rw [n4 89 j (by omega), zf3.1 89 (by decide)]; exact lo j hj
          · rw [n4 89 _ (by omega), zf3.1 89 (by decide), b3 _ (by omega), cp, if_pos rfl]
          · rw [n4 89 _ (by omega), zf3.1 89 (by decide)]
            exact v3 c0 j hj
        · rw [if_neg c4]
          have mu4 := m_must (w := w) (is := 0) (code := 1) k77 y1 hL3.2.1 (Or.inl rfl)
          rw [if_pos ⟨rfl, c0⟩] at mu4
          have e4 := m_rcE (wd := v) (its := 5 * k) (k := k) (is := 0) (s := 1) k77 l319 (Or.inr ⟨rfl, fun z => c4 (trk_2.2.2.1.mp z)⟩) y1 mu4 (by rw [qa_up_no _ (by omega), qa_up_hit]) (by decide)
          have n4 : ∀ c i, (c ≠ 77 ∨ (i ≠ 21 ∧ i ≠ 22)) → qa_up (qa_up m3 77 21 1) 77 22 (tSt T n s.2) c i = m3 c i := fun c i h => by rw [qa_up_no _ (by omega), qa_up_no _ (by omega)]
          refine ⟨_, ?_, fun c c1 c2 => ?_, fun i hi => ?_, MSt_err T n m3 (by decide), fun j hj => ?_, fun z => absurd z (show ¬ (1 : Int) = 0 by decide)⟩
          · unfold f_X12_readCommand
            refine qa_fn_eq ?_ (by simp)
            exact head _ e4
          · funext i
            rw [n4 c i (Or.inl c1), o3 c c1 c2, op c c1 c2]
          · rw [n4 77 i (by omega), p3 i (by omega), pp i (by omega)]
          · rw [n4 89 j (by omega)]; exact lo j hj
      · rw [if_neg c0]
        have e21 : m3 77 21 = s.1 := y1
        refine ⟨m3, ?_, fun c c1 c2 => by rw [o3 c c1 c2, op c c1 c2], fun i hi => by rw [p3 i (by omega), pp i (by omega)], x3, lo, fun z => absurd z c0⟩
        by_cases c3 : m3 77 19 = 3
        · have mu4 := m_must (w := w) (is := 1) (code := 1) k77 y1 rfl (Or.inr rfl)
          rw [if_neg (by omega)] at mu4
          have e4 := m_rcE (wd := v) (its := 5 * k) (k := k) (is := 1) k77 rfl (Or.inl ⟨rfl, c3⟩) y1 mu4 y1 c0
          unfold f_X12_readCommand
          refine qa_fn_eq ?_ (by simp)
          exact head _ e4
        · have mu4 := m_must (w := w) (is := 0) (code := 1) k77 y1 rfl (Or.inl rfl)
          rw [if_neg (fun z => c0 z.2)] at mu4
          have e4 := m_rcE (wd := v) (its := 5 * k) (k := k) (is := 0) k77 rfl (Or.inr ⟨rfl, c3⟩) y1 mu4 y1 c0
          unfold f_X12_readCommand
          refine qa_fn_eq ?_ (by simp)
          exact head _ e4
