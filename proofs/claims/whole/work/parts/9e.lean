theorem c_operand {m : Int → Int → Int} {kd : Int → Nat × Int} {w : Nat × Nat × Nat} {T : Int → Int} {n a l p : Int} (hK : KSc kd) (hM : MSc T n m) (hL : CLx T n a m) (ha : 0 ≤ a ∧ a ≤ n) (hl : tLt l) (hp : 0 ≤ p ∧ p < 240) : ∃ m', f_X8_parseOperand [(1, 71), (0, l), (0, p)] (m, kd, w) = some (.inl (some (0, if tOc T n a l = 0 then 1 else 0)), (m', kd, w)) ∧ (∀ c, c ≠ 71 → c ≠ 74 → m' c = m c) ∧ (∀ i, i ≤ 4 → m' 71 i = m 71 i) ∧ (tOc T n a l = 0 → CLx T n (tOa T n a l) m' ∧ m' 71 5 = m 71 5 ∧ m' 71 6 = m 71 6 ∧ ∀ i, m' 74 i = if i = p then tOv T n a l else m 74 i) ∧ (tOc T n a l ≠ 0 → m' 71 5 = tOc T n a l ∧ m' 71 6 = tSt T n (tNa T n a l)) := by
  have k1 := hK.1
  obtain ⟨l7, l8, l9⟩ := id hL
  by_cases he : l = 101
  · subst he
    have e0 : tOc T n a 101 = 0 := if_pos rfl
    obtain ⟨m', g1, g2, g3, g4, g5⟩ := c_parseEnd (w := w) hK hM hL ha hp
    rw [e0, if_pos rfl]
    refine ⟨m', ?_, g2, fun i hi => g3 i (by omega), fun _ => ⟨g4, g3 5 (by decide), g3 6 (by decide), g5⟩, fun z => absurd rfl z⟩
    unfold f_X8_parseOperand
    refine qa_fn_eq ?_ (by simp)
    simp (disch := omega) [ev_X8_parseOperand_0, ev_X8_parseOperand_1, ev_X8_parseOperand_2, ev_X8_parseOperand_3, ev_X8_parseOperand_5, ev_X8_parseOperand_6, ev_X8_parseOperand_7, ev_X8_parseOperand_8, ev_X8_parseOperand_9, B_X8_parseOperand_0, B_X8_parseOperand_1, B_X8_parseOperand_2, B_X8_parseOperand_3, B_X8_parseOperand_4, B_X8_parseOperand_5, B_X8_parseOperand_6, B_X8_parseOperand_7, B_X8_parseOperand_8, B_X8_parseOperand_9, x_const, x_iadd, x_isub, x_imul, x_idiv, x_irem, x_ineg, x_dup, x_dup_x1, x_dup2, x_pop, x_goto, x_ifeq, x_ifne, x_iflt, x_ifge, x_ifgt, x_ifle, x_cmpeq, x_cmpne, x_cmplt, x_cmpge, x_cmpgt, x_cmple, x_null, x_nonnull, x_acmpeq, x_acmpne, x_get, x_put, x_putz, x_ald, x_ast, x_bast, x_zast, x_aast, x_alen, x_obj, x_ret, x_retz, x_vret, x_max, x_min, x_copy, x_i2l, qg_none, qg_inl, qg_inr, qg_ite, xr1, xr0, xrE, xri, xl0, xl1, xl2, xl3, xl4, xl5, xl6, xl7, xl8, xl9, xl10, xs0, xs1, xs2, xs3, xs4, xs5, xs6, xs7, xs8, xs9, xs10, xi0, xi1, xi2, xi3, xi4, xi5, xi6, xi7, xi8, xi9, xi10, xc0, xc1, xc2, xc3, xc4, xc5, xc6, xc7, xv1, xv2, xv3, xv4, xv5, xv6, xv7, dT_le, dF_le, dT_lt, dF_lt, k1, g1]
  ·
    have fin : ∀ (s : Int) (mb : Int → Int → Int), (s = 0 ∨ s = 1) → MSc T n mb → CLx T n (tNa T n a l) mb → (∀ c, c ≠ 71 → mb c = m c) → (∀ i, i ≤ 6 → mb 71 i = m 71 i) → (s = 1 ↔ (l = 118 ∧ tKi T n a = 3)) → ∀ l4 : qV, ∃ m', qa_ev P_X8_parseOperand 4 [(1, 71), (0, l), (0, p), (0, s), l4] [] (mb, kd, w) = some (.inl (some (0, if tOc T n a l = 0 then 1 else 0)), (m', kd, w)) ∧ (∀ c, c ≠ 71 → c ≠ 74 → m' c = m c) ∧ (∀ i, i ≤ 4 → m' 71 i = m 71 i) ∧ (tOc T n a l = 0 → CLx T n (tOa T n a l) m' ∧ m' 71 5 = m 71 5 ∧ m' 71 6 = m 71 6 ∧ ∀ i, m' 74 i = if i = p then tOv T n a l else m 74 i) ∧ (tOc T n a l ≠ 0 → m' 71 5 = tOc T n a l ∧ m' 71 6 = tSt T n (tNa T n a l)) := by
      intro s mb hs hMb hLb ob pb hsi l4
      have hb := tNa_a T l ha
      obtain ⟨o1, o2, o3⟩ := c_operandN (w := w) hK hMb hLb ⟨hb.1, hb.2.1⟩ hl hp hs l4
      have ec : tOc T n a l = if tKi T n (tNa T n a l) ≠ 2 then 1 else if tNm T n (tNa T n a l) < tLo l ∨ tHi l < tNm T n (tNa T n a l) then 2 else 0 := if_neg he
      have ea : tOa T n a l = tBe T n (tNa T n a l) := if_neg he
      by_cases c1 : tKi T n (tNa T n a l) ≠ 2
      · rw [if_pos c1] at ec
        rw [ec, if_neg (by decide)]
        refine ⟨_, o1 c1, fun c d1 d2 => ?_, fun i hi => ?_, fun z => absurd z (by decide), fun _ => ⟨?_, ?_⟩⟩
        · rw [← ob c d1]
          funext i
          rw [qa_up_no _ (fun z => d1 z.1), qa_up_no _ (fun z => d1 z.1)]
        · rw [qa_up_no _ (by omega), qa_up_no _ (by omega), pb i (by omega)]
        · rw [qa_up_no _ (by omega), qa_up_hit]
        · rw [qa_up_hit]
      · rw [if_neg c1] at ec
        have c1' : tKi T n (tNa T n a l) = 2 := Classical.not_not.mp c1
        by_cases c2 : tNm T n (tNa T n a l) < tLo l ∨ tHi l < tNm T n (tNa T n a l)
        · rw [if_pos c2] at ec
          rw [ec, if_neg (by decide)]
          refine ⟨_, o2 c1' c2, fun c d1 d2 => ?_, fun i hi => ?_, fun z => absurd z (by decide), fun _ => ⟨?_, ?_⟩⟩
          · rw [← ob c d1]
            funext i
            rw [qa_up_no _ (fun z => d1 z.1), qa_up_no _ (fun z => d1 z.1)]
          · rw [qa_up_no _ (by omega), qa_up_no _ (by omega), pb i (by omega)]
          · rw [qa_up_no _ (by omega), qa_up_hit]
          · rw [qa_up_hit]
        · rw [if_neg c2] at ec
          rw [ec, if_pos rfl, ea]
          have ev : tOv T n a l = if s = 1 then -tNm T n (tNa T n a l) else tNm T n (tNa T n a l) := by
            unfold tOv
            rw [if_neg he]
            by_cases hs1 : s = 1
            · rw [if_pos hs1, if_pos (hsi.mp hs1)]
            · rw [if_neg hs1, if_neg (fun z => hs1 (hsi.mpr z))]
          refine ⟨_, o3 c1' c2, fun c d1 d2 => ?_, fun i hi => ?_, fun _ => ⟨CLx_Nx T n _ _, ?_, ?_, fun i => ?_⟩, fun z => absurd rfl z⟩
          · rw [← ob c d1]
            funext i
            rw [tNx_no (Or.inl d1), qa_up_no _ (fun z => d2 z.1)]
          · rw [tNx_no (by omega), qa_up_no _ (by omega), pb i (by omega)]
          · rw [tNx_no (by omega), qa_up_no _ (by omega), pb 5 (by decide)]
          · rw [tNx_no (by omega), qa_up_no _ (by omega), pb 6 (by decide)]
          · rw [tNx_no (by omega), ev]
            by_cases e : i = p
            · rw [if_pos e, e, qa_up_hit]
            · rw [if_neg e, qa_up_no _ (fun z => e z.2), ob 74 (by decide)]
    by_cases hm : l = 118 ∧ tKi T n a = 3
    · have en : tNa T n a l = tBe T n a := if_pos hm
      have nx := c_nextL (w := w) hK hM hL ha
      have LB := CLx_Nx T n (tBe T n a) m
      rw [← en] at LB
      obtain ⟨m', g1, g2⟩ := fin 1 _ (Or.inr rfl) (MSc_Nx hM) LB (fun c hc => by funext i; exact tNx_no (Or.inl hc)) (fun i hi => tNx_no (by omega)) ⟨fun _ => hm, fun _ => rfl⟩ (9, 0)
      rw [en] at g1
      refine ⟨m', ?_, g2⟩
      obtain ⟨h118, h3⟩ := hm
      subst h118
      unfold f_X8_parseOperand
      refine qa_fn_eq ?_ (by simp)
      simp (disch := omega) [ev_X8_parseOperand_0, ev_X8_parseOperand_1, ev_X8_parseOperand_2, ev_X8_parseOperand_3, ev_X8_parseOperand_5, ev_X8_parseOperand_6, ev_X8_parseOperand_7, ev_X8_parseOperand_8, ev_X8_parseOperand_9, B_X8_parseOperand_0, B_X8_parseOperand_1, B_X8_parseOperand_2, B_X8_parseOperand_3, B_X8_parseOperand_4, B_X8_parseOperand_5, B_X8_parseOperand_6, B_X8_parseOperand_7, B_X8_parseOperand_8, B_X8_parseOperand_9, x_const, x_iadd, x_isub, x_imul, x_idiv, x_irem, x_ineg, x_dup, x_dup_x1, x_dup2, x_pop, x_goto, x_ifeq, x_ifne, x_iflt, x_ifge, x_ifgt, x_ifle, x_cmpeq, x_cmpne, x_cmplt, x_cmpge, x_cmpgt, x_cmple, x_null, x_nonnull, x_acmpeq, x_acmpne, x_get, x_put, x_putz, x_ald, x_ast, x_bast, x_zast, x_aast, x_alen, x_obj, x_ret, x_retz, x_vret, x_max, x_min, x_copy, x_i2l, qg_none, qg_inl, qg_inr, qg_ite, xr1, xr0, xrE, xri, xl0, xl1, xl2, xl3, xl4, xl5, xl6, xl7, xl8, xl9, xl10, xs0, xs1, xs2, xs3, xs4, xs5, xs6, xs7, xs8, xs9, xs10, xi0, xi1, xi2, xi3, xi4, xi5, xi6, xi7, xi8, xi9, xi10, xc0, xc1, xc2, xc3, xc4, xc5, xc6, xc7, xv1, xv2, xv3, xv4, xv5, xv6, xv7, dT_le, dF_le, dT_lt, dF_lt, dF_eq, k1, l7, h3, nx, g1]
    · have en : tNa T n a l = a := if_neg hm
      obtain ⟨m', g1, g2⟩ := fin 0 m (Or.inl rfl) hM (by rw [en]; exact hL) (fun c hc => rfl) (fun i hi => rfl) ⟨fun z => absurd z (by decide), fun z => absurd z hm⟩ (9, 0)
      refine ⟨m', ?_, g2⟩
      by_cases h118 : l = 118
      · have h3 : ¬ tKi T n a = 3 := fun z => hm ⟨h118, z⟩
        subst h118
        unfold f_X8_parseOperand
        refine qa_fn_eq ?_ (by simp)
        simp (disch := omega) [ev_X8_parseOperand_0, ev_X8_parseOperand_1, ev_X8_parseOperand_2, ev_X8_parseOperand_3, ev_X8_parseOperand_5, ev_X8_parseOperand_6, ev_X8_parseOperand_7, ev_X8_parseOperand_8, ev_X8_parseOperand_9, B_X8_parseOperand_0, B_X8_parseOperand_1, B_X8_parseOperand_2, B_X8_parseOperand_3, B_X8_parseOperand_4, B_X8_parseOperand_5, B_X8_parseOperand_6, B_X8_parseOperand_7, B_X8_parseOperand_8, B_X8_parseOperand_9, x_const, x_iadd, x_isub, x_imul, x_idiv, x_irem, x_ineg, x_dup, x_dup_x1, x_dup2, x_pop, x_goto, x_ifeq, x_ifne, x_iflt, x_ifge, x_ifgt, x_ifle, x_cmpeq, x_cmpne, x_cmplt, x_cmpge, x_cmpgt, x_cmple, x_null, x_nonnull, x_acmpeq, x_acmpne, x_get, x_put, x_putz, x_ald, x_ast, x_bast, x_zast, x_aast, x_alen, x_obj, x_ret, x_retz, x_vret, x_max, x_min, x_copy, x_i2l, qg_none, qg_inl, qg_inr, qg_ite, xr1, xr0, xrE, xri, xl0, xl1, xl2, xl3, xl4, xl5, xl6, xl7, xl8, xl9, xl10, xs0, xs1, xs2, xs3, xs4, xs5, xs6, xs7, xs8, xs9, xs10, xi0, xi1, xi2, xi3, xi4, xi5, xi6, xi7, xi8, xi9, xi10, xc0, xc1, xc2, xc3, xc4, xc5, xc6, xc7, xv1, xv2, xv3, xv4, xv5, xv6, xv7, dT_le, dF_le, dT_lt, dF_lt, dF_eq, k1, l7, h3, g1]
      · unfold f_X8_parseOperand
        refine qa_fn_eq ?_ (by simp)
        simp (disch := omega) [ev_X8_parseOperand_0, ev_X8_parseOperand_1, ev_X8_parseOperand_2, ev_X8_parseOperand_3, ev_X8_parseOperand_5, ev_X8_parseOperand_6, ev_X8_parseOperand_7, ev_X8_parseOperand_8, ev_X8_parseOperand_9, B_X8_parseOperand_0, B_X8_parseOperand_1, B_X8_parseOperand_2, B_X8_parseOperand_3, B_X8_parseOperand_4, B_X8_parseOperand_5, B_X8_parseOperand_6, B_X8_parseOperand_7, B_X8_parseOperand_8, B_X8_parseOperand_9, x_const, x_iadd, x_isub, x_imul, x_idiv, x_irem, x_ineg, x_dup, x_dup_x1, x_dup2, x_pop, x_goto, x_ifeq, x_ifne, x_iflt, x_ifge, x_ifgt, x_ifle, x_cmpeq, x_cmpne, x_cmplt, x_cmpge, x_cmpgt, x_cmple, x_null, x_nonnull, x_acmpeq, x_acmpne, x_get, x_put, x_putz, x_ald, x_ast, x_bast, x_zast, x_aast, x_alen, x_obj, x_ret, x_retz, x_vret, x_max, x_min, x_copy, x_i2l, qg_none, qg_inl, qg_inr, qg_ite, xr1, xr0, xrE, xri, xl0, xl1, xl2, xl3, xl4, xl5, xl6, xl7, xl8, xl9, xl10, xs0, xs1, xs2, xs3, xs4, xs5, xs6, xs7, xs8, xs9, xs10, xi0, xi1, xi2, xi3, xi4, xi5, xi6, xi7, xi8, xi9, xi10, xc0, xc1, xc2, xc3, xc4, xc5, xc6, xc7, xv1, xv2, xv3, xv4, xv5, xv6, xv7, dT_le, dF_le, dT_lt, dF_lt, dF_eq, k1, he, h118, g1]
def tAk (T : Int → Int) (n : Int) (ls : List Int) (a : Int) : Nat → Int
  | 0 => a
  | k + 1 => tOa T n (tAk T n ls a k) (ls.getD k 0)
def tRc (T : Int → Int) (n : Int) (ls : List Int) : Nat → Nat → Int → Int × Int
  | 0, _, a => if tKi T n a = 4 then (0, tBe T n a) else (1, tSt T n a)
  | q + 1, i, a => if tOc T n a (ls.getD i 0) = 0 then tRc T n ls q (i + 1) (tOa T n a (ls.getD i 0)) else (tOc T n a (ls.getD i 0), tSt T n (tNa T n a (ls.getD i 0)))
theorem tAk_a (T : Int → Int) {n : Int} (ls : List Int) {a : Int} (ha : 0 ≤ a ∧ a ≤ n) : ∀ k, 0 ≤ tAk T n ls a k ∧ tAk T n ls a k ≤ n ∧ a ≤ tAk T n ls a k := by
  intro k
  induction k with
  | zero => exact ⟨ha.1, ha.2, Int.le_refl _⟩
  | succ k ih =>
    have := tOa_a T (n := n) (a := tAk T n ls a k) (ls.getD k 0) ⟨ih.1, ih.2.1⟩
    simp only [tAk]
    omega
theorem tLe_lt {v : Int} (h : 0 ≤ v ∧ v ≤ 9) : 1 ≤ (tLe v).length ∧ (tLe v).length ≤ 4 ∧ ∀ i, i < (tLe v).length → tLt ((tLe v).getD i 0) := by
  have : v = 0 ∨ v = 1 ∨ v = 2 ∨ v = 3 ∨ v = 4 ∨ v = 5 ∨ v = 6 ∨ v = 7 ∨ v = 8 ∨ v = 9 := by omega
  unfold tLt
  rcases this with rfl | rfl | rfl | rfl | rfl | rfl | rfl | rfl | rfl | rfl <;> decide +kernel
theorem c_opS {kd : Int → Nat × Int} {w : Nat × Nat × Nat} {m m' : Int → Int → Int} {vb sid ii L l k c : Int} (k1 : kd 71 = (12, 0)) (sf : qa_sF vb "operands" = some (1, sid)) (hsc : (sid, "java/lang/String") ∈ qa_SC) (hlen : f_J0_length_8abf5 [(1, sid)] (m, kd, w) = some (.inl (some (0, L)), (m, kd, w))) (hi : 0 ≤ ii ∧ ii < L) (hL : L ≤ 4) (ch : f_J0_charAt_5068e [(1, sid), (0, ii)] (m, kd, w) = some (.inl (some (0, l)), (m, kd, w))) (m4 : m 71 4 = k) (hk : 0 ≤ k ∧ k < 60) (op : f_X8_parseOperand [(1, 71), (0, l), (0, k * 4 + ii)] (m, kd, w) = some (.inl (some (0, c)), (m', kd, w))) : qa_ev P_X8_parseCommand 4 [(1, 71), (1, vb), (0, ii)] [] (m, kd, w) = if c = 0 then some (.inl (some (0, 0)), (m', kd, w)) else qa_ev P_X8_parseCommand 4 [(1, 71), (1, vb), (0, ii + 1)] [] (m', kd, w) := by
  rw [ev_X8_parseCommand_4]
  by_cases h : c = 0
  · simp (disch := omega) [ev_X8_parseCommand_0, ev_X8_parseCommand_1, ev_X8_parseCommand_2, ev_X8_parseCommand_3, ev_X8_parseCommand_5, ev_X8_parseCommand_6, ev_X8_parseCommand_7, B_X8_parseCommand_0, B_X8_parseCommand_1, B_X8_parseCommand_2, B_X8_parseCommand_3, B_X8_parseCommand_4, B_X8_parseCommand_5, B_X8_parseCommand_6, B_X8_parseCommand_7, x_const, x_iadd, x_isub, x_imul, x_idiv, x_irem, x_ineg, x_dup, x_dup_x1, x_dup2, x_pop, x_goto, x_ifeq, x_ifne, x_iflt, x_ifge, x_ifgt, x_ifle, x_cmpeq, x_cmpne, x_cmplt, x_cmpge, x_cmpgt, x_cmple, x_null, x_nonnull, x_acmpeq, x_acmpne, x_get, x_put, x_putz, x_ald, x_ast, x_bast, x_zast, x_aast, x_alen, x_obj, x_ret, x_retz, x_vret, x_max, x_min, x_copy, x_i2l, qg_none, qg_inl, qg_inr, qg_ite, xr1, xr0, xrE, xri, xl0, xl1, xl2, xl3, xl4, xl5, xl6, xl7, xl8, xl9, xl10, xs0, xs1, xs2, xs3, xs4, xs5, xs6, xs7, xs8, xs9, xs10, xi0, xi1, xi2, xi3, xi4, xi5, xi6, xi7, xi8, xi9, xi10, xc0, xc1, xc2, xc3, xc4, xc5, xc6, xc7, xv1, xv2, xv3, xv4, xv5, xv6, xv7, dT_le, dF_le, dT_lt, dF_lt, k1, x_sget _ _ _ _ sf, x_calls1 _ _ _ _ _ hsc, x_calls2 _ _ _ _ _ hsc, hlen, ch, m4, op, h]
  · simp (disch := omega) [ev_X8_parseCommand_0, ev_X8_parseCommand_1, ev_X8_parseCommand_2, ev_X8_parseCommand_3, ev_X8_parseCommand_5, ev_X8_parseCommand_6, ev_X8_parseCommand_7, B_X8_parseCommand_0, B_X8_parseCommand_1, B_X8_parseCommand_2, B_X8_parseCommand_3, B_X8_parseCommand_4, B_X8_parseCommand_5, B_X8_parseCommand_6, B_X8_parseCommand_7, x_const, x_iadd, x_isub, x_imul, x_idiv, x_irem, x_ineg, x_dup, x_dup_x1, x_dup2, x_pop, x_goto, x_ifeq, x_ifne, x_iflt, x_ifge, x_ifgt, x_ifle, x_cmpeq, x_cmpne, x_cmplt, x_cmpge, x_cmpgt, x_cmple, x_null, x_nonnull, x_acmpeq, x_acmpne, x_get, x_put, x_putz, x_ald, x_ast, x_bast, x_zast, x_aast, x_alen, x_obj, x_ret, x_retz, x_vret, x_max, x_min, x_copy, x_i2l, qg_none, qg_inl, qg_inr, qg_ite, xr1, xr0, xrE, xri, xl0, xl1, xl2, xl3, xl4, xl5, xl6, xl7, xl8, xl9, xl10, xs0, xs1, xs2, xs3, xs4, xs5, xs6, xs7, xs8, xs9, xs10, xi0, xi1, xi2, xi3, xi4, xi5, xi6, xi7, xi8, xi9, xi10, xc0, xc1, xc2, xc3, xc4, xc5, xc6, xc7, xv1, xv2, xv3, xv4, xv5, xv6, xv7, dT_le, dF_le, dT_lt, dF_lt, k1, x_sget _ _ _ _ sf, x_calls1 _ _ _ _ _ hsc, x_calls2 _ _ _ _ _ hsc, hlen, ch, m4, op, h]
theorem c_opE {kd : Int → Nat × Int} {w : Nat × Nat × Nat} {m : Int → Int → Int} {T : Int → Int} {n a vb sid L k : Int} (hK : KSc kd) (hM : MSc T n m) (hLx : CLx T n a m) (ha : 0 ≤ a ∧ a ≤ n) (sf : qa_sF vb "operands" = some (1, sid)) (hsc : (sid, "java/lang/String") ∈ qa_SC) (hlen : f_J0_length_8abf5 [(1, sid)] (m, kd, w) = some (.inl (some (0, L)), (m, kd, w))) (hL : 0 ≤ L ∧ L ≤ 4) (m4 : m 71 4 = k) (hk : 0 ≤ k ∧ k < 60) : (tKi T n a ≠ 4 → qa_ev P_X8_parseCommand 4 [(1, 71), (1, vb), (0, L)] [] (m, kd, w) = some (.inl (some (0, 0)), (qa_up (qa_up m 71 5 1) 71 6 (tSt T n a), kd, w))) ∧ (tKi T n a = 4 → qa_ev P_X8_parseCommand 4 [(1, 71), (1, vb), (0, L)] [] (m, kd, w) = some (.inl (some (0, 1)), (tNx (qa_up m 71 4 (k + 1)) (tKi T n (tBe T n a)) (tSt T n (tBe T n a)) (tBe T n (tBe T n a)), kd, w))) := by
  have k1 := hK.1
  obtain ⟨l7, l8, l9⟩ := id hLx
  have fl := c_fail (w := w) (code := 1) hK l8
  refine ⟨fun h => ?_, fun h => ?_⟩
  · rw [ev_X8_parseCommand_4]
    simp (disch := omega) [ev_X8_parseCommand_0, ev_X8_parseCommand_1, ev_X8_parseCommand_2, ev_X8_parseCommand_3, ev_X8_parseCommand_5, ev_X8_parseCommand_6, ev_X8_parseCommand_7, B_X8_parseCommand_0, B_X8_parseCommand_1, B_X8_parseCommand_2, B_X8_parseCommand_3, B_X8_parseCommand_4, B_X8_parseCommand_5, B_X8_parseCommand_6, B_X8_parseCommand_7, x_const, x_iadd, x_isub, x_imul, x_idiv, x_irem, x_ineg, x_dup, x_dup_x1, x_dup2, x_pop, x_goto, x_ifeq, x_ifne, x_iflt, x_ifge, x_ifgt, x_ifle, x_cmpeq, x_cmpne, x_cmplt, x_cmpge, x_cmpgt, x_cmple, x_null, x_nonnull, x_acmpeq, x_acmpne, x_get, x_put, x_putz, x_ald, x_ast, x_bast, x_zast, x_aast, x_alen, x_obj, x_ret, x_retz, x_vret, x_max, x_min, x_copy, x_i2l, qg_none, qg_inl, qg_inr, qg_ite, xr1, xr0, xrE, xri, xl0, xl1, xl2, xl3, xl4, xl5, xl6, xl7, xl8, xl9, xl10, xs0, xs1, xs2, xs3, xs4, xs5, xs6, xs7, xs8, xs9, xs10, xi0, xi1, xi2, xi3, xi4, xi5, xi6, xi7, xi8, xi9, xi10, xc0, xc1, xc2, xc3, xc4, xc5, xc6, xc7, xv1, xv2, xv3, xv4, xv5, xv6, xv7, dT_le, dF_le, dT_lt, dF_lt, dF_eq, k1, x_sget _ _ _ _ sf, x_calls1 _ _ _ _ _ hsc, hlen, l7, h, fl]
  · have nx := c_nextL (w := w) hK (MSc_71 (m' := qa_up m 71 4 (k + 1)) hM (by funext i; exact qa_up_no _ (by omega)) (fun i _ _ => qa_up_no _ (by omega))) (CLx_o hLx (fun i _ _ => qa_up_no _ (by omega))) ha
    rw [ev_X8_parseCommand_4]
    simp (disch := omega) [ev_X8_parseCommand_0, ev_X8_parseCommand_1, ev_X8_parseCommand_2, ev_X8_parseCommand_3, ev_X8_parseCommand_5, ev_X8_parseCommand_6, ev_X8_parseCommand_7, B_X8_parseCommand_0, B_X8_parseCommand_1, B_X8_parseCommand_2, B_X8_parseCommand_3, B_X8_parseCommand_4, B_X8_parseCommand_5, B_X8_parseCommand_6, B_X8_parseCommand_7, x_const, x_iadd, x_isub, x_imul, x_idiv, x_irem, x_ineg, x_dup, x_dup_x1, x_dup2, x_pop, x_goto, x_ifeq, x_ifne, x_iflt, x_ifge, x_ifgt, x_ifle, x_cmpeq, x_cmpne, x_cmplt, x_cmpge, x_cmpgt, x_cmple, x_null, x_nonnull, x_acmpeq, x_acmpne, x_get, x_put, x_putz, x_ald, x_ast, x_bast, x_zast, x_aast, x_alen, x_obj, x_ret, x_retz, x_vret, x_max, x_min, x_copy, x_i2l, qg_none, qg_inl, qg_inr, qg_ite, xr1, xr0, xrE, xri, xl0, xl1, xl2, xl3, xl4, xl5, xl6, xl7, xl8, xl9, xl10, xs0, xs1, xs2, xs3, xs4, xs5, xs6, xs7, xs8, xs9, xs10, xi0, xi1, xi2, xi3, xi4, xi5, xi6, xi7, xi8, xi9, xi10, xc0, xc1, xc2, xc3, xc4, xc5, xc6, xc7, xv1, xv2, xv3, xv4, xv5, xv6, xv7, dT_le, dF_le, dT_lt, dF_lt, k1, x_sget _ _ _ _ sf, x_calls1 _ _ _ _ _ hsc, hlen, l7, h, m4, nx]
