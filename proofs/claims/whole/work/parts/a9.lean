theorem tOc_c (T : Int → Int) (n a l : Int) : 0 ≤ tOc T n a l ∧ tOc T n a l ≤ 2 := by
  unfold tOc
  split
  · omega
  · split
    · omega
    · split <;> omega
theorem tRc_c (T : Int → Int) (n : Int) (ls : List Int) : ∀ (q i : Nat) (a : Int), 0 ≤ (tRc T n ls q i a).1 ∧ (tRc T n ls q i a).1 ≤ 3 := by
  intro q
  induction q with
  | zero =>
    intro i a
    simp only [tRc]
    split <;> (dsimp only; omega)
  | succ q ih =>
    intro i a
    have h := tOc_c T n a (ls.getD i 0)
    simp only [tRc]
    split
    · exact ih _ _
    · dsimp only; omega
theorem tCk_c (T : Int → Int) (n k a : Int) : 0 ≤ (tCk T n k a).1 ∧ (tCk T n k a).1 ≤ 3 := by
  unfold tCk
  split
  · dsimp only; omega
  · split
    · dsimp only; omega
    · exact tRc_c _ _ _ _ _ _
theorem tP_c (T : Int → Int) (n : Int) : ∀ (q k : Nat) (a : Int), 0 ≤ (tP T n q k a).1 ∧ (tP T n q k a).1 ≤ 3 := by
  intro q
  induction q with
  | zero => intro k a; simp only [tP]; omega
  | succ q ih =>
    intro k a
    have h := tCk_c T n k a
    simp only [tP]
    split
    · dsimp only; omega
    · split
      · exact ih _ _
      · exact h
theorem c_rs0 {m m1 : Int → Int → Int} {kd : Int → Nat × Int} {w : Nat × Nat × Nat} {c : Int} (hx : kd 0 = (14, 0)) (h06 : m 0 6 = 71) (k71 : kd 71 = (12, 0)) (h06' : m1 0 6 = 71) (pa : f_X8_parse [(1, 71)] (m, kd, w) = some (.inl (some (0, c)), (m1, kd, w))) (hc : c = 0 ∨ c = 1) : qa_ev P_X11_runScript 0 [(1, 0), (9, 0), (9, 0)] [] (m, kd, w) = if c = 0 then some (.inl (some (0, -1)), (qa_up m1 71 1 0, kd, w)) else qa_ev P_X11_runScript 2 [(1, 0), (0, 1), (0, 0)] [] (qa_up m1 71 1 0, kd, w) := by
  rcases hc with rfl | rfl
  · simp (disch := omega) [ev_X11_runScript_0, B_X11_runScript_0, ev_X11_runScript_1, B_X11_runScript_1, x_const, x_iadd, x_isub, x_imul, x_idiv, x_irem, x_ineg, x_dup, x_dup_x1, x_dup2, x_pop, x_goto, x_ifeq, x_ifne, x_iflt, x_ifge, x_ifgt, x_ifle, x_cmpeq, x_cmpne, x_cmplt, x_cmpge, x_cmpgt, x_cmple, x_null, x_nonnull, x_acmpeq, x_acmpne, x_get, x_put, x_putz, x_ald, x_ast, x_bast, x_zast, x_aast, x_alen, x_obj, x_ret, x_retz, x_vret, x_max, x_min, x_copy, x_i2l, qg_none, qg_inl, qg_inr, qg_ite, xr1, xr0, xrE, xri, xl0, xl1, xl2, xl3, xl4, xl5, xl6, xl7, xl8, xl9, xl10, xs0, xs1, xs2, xs3, xs4, xs5, xs6, xs7, xs8, xs9, xs10, xi0, xi1, xi2, xi3, xi4, xi5, xi6, xi7, xi8, xi9, xi10, xc0, xc1, xc2, xc3, xc4, xc5, xc6, xc7, xv1, xv2, xv3, xv4, xv5, xv6, xv7, dT_le, dF_le, dT_lt, dF_lt, hx, h06, k71, h06', pa]
  · simp (disch := omega) [ev_X11_runScript_0, B_X11_runScript_0, ev_X11_runScript_1, B_X11_runScript_1, x_const, x_iadd, x_isub, x_imul, x_idiv, x_irem, x_ineg, x_dup, x_dup_x1, x_dup2, x_pop, x_goto, x_ifeq, x_ifne, x_iflt, x_ifge, x_ifgt, x_ifle, x_cmpeq, x_cmpne, x_cmplt, x_cmpge, x_cmpgt, x_cmple, x_null, x_nonnull, x_acmpeq, x_acmpne, x_get, x_put, x_putz, x_ald, x_ast, x_bast, x_zast, x_aast, x_alen, x_obj, x_ret, x_retz, x_vret, x_max, x_min, x_copy, x_i2l, qg_none, qg_inl, qg_inr, qg_ite, xr1, xr0, xrE, xri, xl0, xl1, xl2, xl3, xl4, xl5, xl6, xl7, xl8, xl9, xl10, xs0, xs1, xs2, xs3, xs4, xs5, xs6, xs7, xs8, xs9, xs10, xi0, xi1, xi2, xi3, xi4, xi5, xi6, xi7, xi8, xi9, xi10, xc0, xc1, xc2, xc3, xc4, xc5, xc6, xc7, xv1, xv2, xv3, xv4, xv5, xv6, xv7, dT_le, dF_le, dT_lt, dF_lt, dF_eq, hx, h06, k71, h06', pa]
theorem m_rs0 {m : Int → Int → Int} {kd : Int → Nat × Int} {w : Nat × Nat × Nat} {c : Int} (k77 : kd 77 = (15, 0)) (h21 : m 77 21 = c) (hc : 0 ≤ c ∧ c ≤ 3) : qa_ev P_X12_runScript 2 [(1, 77), (9, 0)] [] (m, kd, w) = if c = 0 then qa_ev P_X12_runScript 4 [(1, 77), (0, 0)] [] (qa_up (qa_up m 77 16 0) 77 0 0, kd, w) else some (.inl (some (0, -1)), (qa_up (qa_up m 77 16 0) 77 0 0, kd, w)) := by
  rw [ev_X12_runScript_2]
  by_cases h : c = 0
  · simp (disch := omega) [B_X12_runScript_2, ev_X12_runScript_3, B_X12_runScript_3, x_const, x_iadd, x_isub, x_imul, x_idiv, x_irem, x_ineg, x_dup, x_dup_x1, x_dup2, x_pop, x_goto, x_ifeq, x_ifne, x_iflt, x_ifge, x_ifgt, x_ifle, x_cmpeq, x_cmpne, x_cmplt, x_cmpge, x_cmpgt, x_cmple, x_null, x_nonnull, x_acmpeq, x_acmpne, x_get, x_put, x_putz, x_ald, x_ast, x_bast, x_zast, x_aast, x_alen, x_obj, x_ret, x_retz, x_vret, x_max, x_min, x_copy, x_i2l, qg_none, qg_inl, qg_inr, qg_ite, xr1, xr0, xrE, xri, xl0, xl1, xl2, xl3, xl4, xl5, xl6, xl7, xl8, xl9, xl10, xs0, xs1, xs2, xs3, xs4, xs5, xs6, xs7, xs8, xs9, xs10, xi0, xi1, xi2, xi3, xi4, xi5, xi6, xi7, xi8, xi9, xi10, xc0, xc1, xc2, xc3, xc4, xc5, xc6, xc7, xv1, xv2, xv3, xv4, xv5, xv6, xv7, dT_le, dF_le, dT_lt, dF_lt, dT_eq, dF_eq, qa_up_hit, qa_up_no, k77, h21, h]
  · simp (disch := omega) [B_X12_runScript_2, x_const, x_iadd, x_isub, x_imul, x_idiv, x_irem, x_ineg, x_dup, x_dup_x1, x_dup2, x_pop, x_goto, x_ifeq, x_ifne, x_iflt, x_ifge, x_ifgt, x_ifle, x_cmpeq, x_cmpne, x_cmplt, x_cmpge, x_cmpgt, x_cmple, x_null, x_nonnull, x_acmpeq, x_acmpne, x_get, x_put, x_putz, x_ald, x_ast, x_bast, x_zast, x_aast, x_alen, x_obj, x_ret, x_retz, x_vret, x_max, x_min, x_copy, x_i2l, qg_none, qg_inl, qg_inr, qg_ite, xr1, xr0, xrE, xri, xl0, xl1, xl2, xl3, xl4, xl5, xl6, xl7, xl8, xl9, xl10, xs0, xs1, xs2, xs3, xs4, xs5, xs6, xs7, xs8, xs9, xs10, xi0, xi1, xi2, xi3, xi4, xi5, xi6, xi7, xi8, xi9, xi10, xc0, xc1, xc2, xc3, xc4, xc5, xc6, xc7, xv1, xv2, xv3, xv4, xv5, xv6, xv7, dT_le, dF_le, dT_lt, dF_lt, dT_eq, dF_eq, qa_up_hit, qa_up_no, dF_eq, k77, h21, h]
theorem t_runScript {N : Int} {g : zG} (hG : GI N g) (hN : 4 * N + g.2.2.2.2.2.2.2.2.1.2.1 ≤ 2044) : ∃ g' a N', GI N' g' ∧ N ≤ N' ∧ 4 * N' ≤ 4 * N + g.2.2.2.2.2.2.2.2.1.2.1 ∧ g'.2.2.2.2.2.2.2.2.1.2.1 = 0 ∧ (∀ m kd n c s, CI N g m kd n c s → ∃ m' kd' n' c' s', f_X11_runScript [(1, 0)] (m, kd, n, c, s) = some (.inl (some (0, a)), (m', kd', n', c', s')) ∧ CI N' g' m' kd' n' c' s' ∧ (∀ x, 77 ≤ x → x ≤ 92 → m' x = m x ∧ kd' x = kd x) ∧ n ≤ n' ∧ c ≤ c' ∧ s ≤ s') ∧ (∀ m kd w, MI N g m kd → ∃ m', f_X12_runScript [(1, 77)] (m, kd, w) = some (.inl (some (0, a)), (m', kd, w)) ∧ MI N' g' m' kd ∧ m' 77 0 = 0 ∧ ∀ x, x < 77 ∨ 90 < x → m' x = m x) := by
  generalize hT : g.2.2.2.2.2.2.2.2.1.1 = T at *
  generalize htn : g.2.2.2.2.2.2.2.2.1.2.1 = tn at *
  have h8 : tT8 T := by rw [← hT]; exact hG.2.2.2.2.2.2.2.1.2
  have h700 : 0 ≤ tn ∧ tn ≤ 700 := by rw [← htn]; exact hG.2.2.2.2.2.2.2.1.1
  have hc := tP_c T tn 61 0 0
  have e0 := zI_0 hG.1
  have G1 : GI N (gX g (T, 0, (tP T tn 61 0 0).1, (tP T tn 61 0 0).2.1)) := GI_X hG ⟨Int.le_refl _, (show (0 : Int) ≤ 700 by decide)⟩ h8
  have CA : ∀ m kd n c s, CI N g m kd n c s → ∃ m1, qa_ev P_X11_runScript 0 [(1, 0), (9, 0), (9, 0)] [] (m, kd, n, c, s) = (if (tP T tn 61 0 0).1 = 0 then qa_ev P_X11_runScript 2 [(1, 0), (0, 1), (0, 0)] [] (m1, kd, n, c, s) else some (.inl (some (0, -1)), (m1, kd, n, c, s))) ∧ CI N (gX g (T, 0, (tP T tn 61 0 0).1, (tP T tn 61 0 0).2.1)) m1 kd n c s ∧ (∀ x, 77 ≤ x → x ≤ 92 → m1 x = m x) ∧ ((tP T tn 61 0 0).1 = 0 → m1 71 4 = (tP T tn 61 0 0).2.2 ∧ CCm T tn (tP T tn 61 0 0).2.2 m1) := by
    intro m kd n c s h
    obtain ⟨hx, h00, k1, h01, k3, h06, k71, -⟩ := h.k
    have hM : MSc T tn m := by
      have := h.2.2.2.2.1
      rw [hT, htn] at this
      exact this
    obtain ⟨m1, p1, p2, p3, p4, p5, p6⟩ := c_parse (w := (n, c, s)) h.2.2.2.1 hM
    obtain ⟨q0, q1, q2, q3, q4, q5, q6⟩ := id hM
    have E := c_rs0 hx h06 k71 (by rw [p2 0 (by decide) (by decide) (by decide)]; exact h06) p1 (by split <;> simp)
    refine ⟨qa_up m1 71 1 0, ?_, CI_X h (fun x x1 x2 x3 x4 => ?_) ⟨?_, qa_up_hit _ _ _ _, ?_, ?_, ⟨Int.le_refl _, (show (0 : Int) ≤ 700 by decide)⟩, h8, fun i a b => by dsimp only at b; omega⟩ ?_ ?_, fun x a b => ?_, fun z => ⟨?_, ?_⟩⟩
    · rw [E]
      by_cases z : (tP T tn 61 0 0).1 = 0
      · rw [if_pos z, if_pos z, if_neg (by decide)]
      · rw [if_neg z, if_neg z, if_pos rfl]
    · funext i
      rw [qa_up_no _ (by omega), p2 x x1 x3 x4]
    · rw [qa_up_no _ (by omega), p3 0 (by decide)]; exact q0
    · rw [qa_up_no _ (by omega), p3 2 (by decide)]; exact q2
    · rw [qa_up_no _ (by omega), p3 3 (by decide)]; exact q3
    · rw [qa_up_no _ (by omega)]; exact p4
    · rw [qa_up_no _ (by omega)]; exact p5
    · funext i
      rw [qa_up_no _ (by omega), p2 x (by omega) (by omega) (by omega)]
    · rw [qa_up_no _ (by omega)]; exact (p6 z).1
    · intro k hk
      have := (p6 z).2 k hk
      rw [qa_up_no _ (by omega)]
      refine ⟨this.1, this.2.1, fun j hj => ?_⟩
      rw [qa_up_no _ (by omega)]
      exact this.2.2 j hj
  have MA : ∀ m kd w, MI N g m kd → ∃ m1, qa_ev P_X12_runScript 0 [(1, 77), (9, 0)] [] (m, kd, w) = (if (tP T tn 61 0 0).1 = 0 then qa_ev P_X12_runScript 4 [(1, 77), (0, 0)] [] (m1, kd, w) else some (.inl (some (0, -1)), (m1, kd, w))) ∧ MI N (gX g (T, 0, (tP T tn 61 0 0).1, (tP T tn 61 0 0).2.1)) m1 kd ∧ m1 77 0 = 0 ∧ (∀ x, x < 77 ∨ 90 < x → m1 x = m x) ∧ ((tP T tn 61 0 0).1 = 0 → m1 77 24 = (tP T tn 61 0 0).2.2 ∧ MCm T tn (tP T tn 61 0 0).2.2 m1) := by
    intro m kd w h
    have hM : MTx T tn m := by
      have := h.2.2.2.2.2.2.2.2.2.1
      rw [hT, htn] at this
      exact this
    obtain ⟨m1, p1, p2, p3, p4, p5, p6⟩ := m_parse (w := w) h.1 h.2.1 hM h.2.2.2.2.2.2.2.2.2.2.2.1
    have E := m_rs0 (w := w) h.1.1 p4 hc
    have n4 : ∀ x i, (x ≠ 77 ∨ (i ≠ 16 ∧ i ≠ 0)) → qa_up (qa_up m1 77 16 0) 77 0 0 x i = m1 x i := fun x i hh => by rw [qa_up_no _ (by omega), qa_up_no _ (by omega)]
    refine ⟨qa_up (qa_up m1 77 16 0) 77 0 0, p1.trans E, MI_X h (fun x x1 x2 x3 => ?_) (fun i hi => ?_) ⟨?_, ⟨Int.le_refl _, (show (0 : Int) ≤ 700 by decide)⟩, h8, fun i a b => by dsimp only at b; omega⟩ ?_ ?_, qa_up_hit _ _ _ _, fun x hx => ?_, fun z => ⟨?_, ?_⟩⟩
    · funext i
      rw [n4 x i (Or.inl x1), p2 x x1 x3]
    · rw [n4 77 i (by omega), p3 i (by omega)]
    · rw [qa_up_no _ (by omega), qa_up_hit]
    · rw [n4 77 21 (by omega)]; exact p4
    · rw [n4 77 22 (by omega)]; exact p5
    · funext i
      rw [n4 x i (by omega), p2 x (by omega) (by omega)]
    · rw [n4 77 24 (by omega)]; exact (p6 z).1
    · intro k hk
      have := (p6 z).2 k hk
      rw [n4 89 _ (by omega)]
      refine ⟨this.1, fun j hj => ?_⟩
      rw [n4 89 _ (by omega)]
      exact this.2 j hj
  by_cases z : (tP T tn 61 0 0).1 = 0
  · have hok := tP_ok T 61 0 0 rfl (by decide) rfl ⟨Int.le_refl _, h700.1⟩ (by omega) z
    generalize hK : (tP T tn 61 0 0).2.2 = K at *
    obtain ⟨o1, o2, o3, o4⟩ := hok
    have ok : ∀ i : Nat, (i : Int) < K → tOk T tn i := fun i hi => by
      obtain ⟨y1, y2⟩ := o4 i (by omega) hi
      exact tCmd_r y1 y2
    obtain ⟨g', a, G', X', C, M⟩ := t_loop ok o2 K.toNat 0 _ N (by omega) G1 (by omega)
    refine ⟨g', a, N + K.toNat, G', by omega, by omega, by rw [X']; rfl, fun m kd n c s h => ?_, fun m kd w h => ?_⟩
    · obtain ⟨m1, a1, a2, a3, a4⟩ := CA m kd n c s h
      obtain ⟨m', kd', n', c', s', b1, b2, b3, b4, b5, b6⟩ := C m1 kd n c s a2 (a4 z).2 (a4 z).1
      rw [if_pos z] at a1
      refine ⟨m', kd', n', c', s', qa_fn_eq (a1.trans b1) (by simp; omega), b2, fun x x1 x2 => ⟨(b3 x (by omega) x2).1.trans (a3 x x1 x2), (b3 x (by omega) x2).2⟩, b4, b5, b6⟩
    · obtain ⟨m1, a1, a2, a3, a4, a5⟩ := MA m kd w h
      obtain ⟨m', b1, b2, b3, b4⟩ := M m1 kd w a2 (a5 z).2 (a5 z).1
      rw [if_pos z] at a1
      exact ⟨m', qa_fn_eq (a1.trans b1) (by simp), b2, b3.trans a3, fun x hx => (b4 x hx).trans (a4 x hx)⟩
  · refine ⟨_, -1, N, G1, Int.le_refl _, by omega, rfl, fun m kd n c s h => ?_, fun m kd w h => ?_⟩
    · obtain ⟨m1, a1, a2, a3, a4⟩ := CA m kd n c s h
      rw [if_neg z] at a1
      exact ⟨m1, kd, n, c, s, qa_fn_eq a1 (by simp), a2, fun x x1 x2 => ⟨a3 x x1 x2, rfl⟩, Nat.le_refl _, Nat.le_refl _, Nat.le_refl _⟩
    · obtain ⟨m1, a1, a2, a3, a4, a5⟩ := MA m kd w h
      rw [if_neg z] at a1
      exact ⟨m1, qa_fn_eq a1 (by simp), a2, a3, a4⟩
