def tLo (l : Int) : Int := if l = 115 ∨ l = 105 ∨ l = 116 ∨ l = 110 then 1 else 0
def tHi (l : Int) : Int := if l = 98 then 3 else if l = 114 then 5 else if l = 107 then 9 else if l = 115 then 9 else if l = 116 then 60 else 99
def tNa (T : Int → Int) (n a l : Int) : Int := if l = 118 ∧ tKi T n a = 3 then tBe T n a else a
def tOc (T : Int → Int) (n a l : Int) : Int := if l = 101 then 0 else if tKi T n (tNa T n a l) ≠ 2 then 1 else if tNm T n (tNa T n a l) < tLo l ∨ tHi l < tNm T n (tNa T n a l) then 2 else 0
def tOv (T : Int → Int) (n a l : Int) : Int := if l = 101 then tIs T n a (tWl 10) else if l = 118 ∧ tKi T n a = 3 then -tNm T n (tNa T n a l) else tNm T n (tNa T n a l)
def tOa (T : Int → Int) (n a l : Int) : Int := if l = 101 then (if tIs T n a (tWl 10) = 1 then tBe T n a else a) else tBe T n (tNa T n a l)
def tLt (l : Int) : Prop := l = 98 ∨ l = 107 ∨ l = 115 ∨ l = 118 ∨ l = 101 ∨ l = 114 ∨ l = 105 ∨ l = 116 ∨ l = 110
theorem tBe_a (T : Int → Int) {n a : Int} (ha : 0 ≤ a ∧ a ≤ n) : 0 ≤ tBe T n a ∧ tBe T n a ≤ n ∧ a ≤ tBe T n a := by
  have h1 := tSt_b T ha.2
  have h2 := tBe_b T ha.2
  omega
theorem tNa_a (T : Int → Int) {n a : Int} (l : Int) (ha : 0 ≤ a ∧ a ≤ n) : 0 ≤ tNa T n a l ∧ tNa T n a l ≤ n ∧ a ≤ tNa T n a l := by
  have h := tBe_a T ha
  unfold tNa
  split <;> omega
theorem tOa_a (T : Int → Int) {n a : Int} (l : Int) (ha : 0 ≤ a ∧ a ≤ n) : 0 ≤ tOa T n a l ∧ tOa T n a l ≤ n ∧ a ≤ tOa T n a l := by
  have h := tBe_a T ha
  have h2 := tNa_a T l ha
  have h3 := tBe_a T ⟨h2.1, h2.2.1⟩
  unfold tOa
  split
  · split <;> omega
  · omega
theorem CLx_Nx (T : Int → Int) (n a : Int) (m : Int → Int → Int) : CLx T n a (tNx m (tKi T n a) (tSt T n a) (tBe T n a)) := ⟨tNx_7 _ _ _ _, tNx_8 _ _ _ _, tNx_9 _ _ _ _⟩
theorem CLx_o {T : Int → Int} {n a : Int} {m m' : Int → Int → Int} (h : CLx T n a m) (ho : ∀ i, 7 ≤ i → i ≤ 9 → m' 71 i = m 71 i) : CLx T n a m' := ⟨by rw [ho 7 (by decide) (by decide)]; exact h.1, by rw [ho 8 (by decide) (by decide)]; exact h.2.1, by rw [ho 9 (by decide) (by decide)]; exact h.2.2⟩
theorem c_nextL {m : Int → Int → Int} {kd : Int → Nat × Int} {w : Nat × Nat × Nat} {T : Int → Int} {n a : Int} (hK : KSc kd) (hM : MSc T n m) (hL : CLx T n a m) (ha : 0 ≤ a ∧ a ≤ n) : f_X8_next [(1, 71)] (m, kd, w) = some (.inl none, (tNx m (tKi T n (tBe T n a)) (tSt T n (tBe T n a)) (tBe T n (tBe T n a)), kd, w)) := by
  have h := tBe_a T ha
  exact c_next hK hM hL.2.2 ⟨h.1, h.2.1⟩
theorem c_fail {m : Int → Int → Int} {kd : Int → Nat × Int} {w : Nat × Nat × Nat} {code s : Int} (hK : KSc kd) (h8 : m 71 8 = s) : f_X8_fail [(1, 71), (0, code)] (m, kd, w) = some (.inl (some (0, 0)), (qa_up (qa_up m 71 5 code) 71 6 s, kd, w)) := by
  have k1 := hK.1
  unfold f_X8_fail
  refine qa_fn_eq ?_ (by simp)
  simp (disch := omega) [ev_X8_fail_0, B_X8_fail_0, x_const, x_iadd, x_isub, x_imul, x_idiv, x_irem, x_ineg, x_dup, x_dup_x1, x_dup2, x_pop, x_goto, x_ifeq, x_ifne, x_iflt, x_ifge, x_ifgt, x_ifle, x_cmpeq, x_cmpne, x_cmplt, x_cmpge, x_cmpgt, x_cmple, x_null, x_nonnull, x_acmpeq, x_acmpne, x_get, x_put, x_putz, x_ald, x_ast, x_bast, x_zast, x_aast, x_alen, x_obj, x_ret, x_retz, x_vret, x_max, x_min, x_copy, x_i2l, qg_none, qg_inl, qg_inr, qg_ite, xr1, xr0, xrE, xri, xl0, xl1, xl2, xl3, xl4, xl5, xl6, xl7, xl8, xl9, xl10, xs0, xs1, xs2, xs3, xs4, xs5, xs6, xs7, xs8, xs9, xs10, xi0, xi1, xi2, xi3, xi4, xi5, xi6, xi7, xi8, xi9, xi10, xc0, xc1, xc2, xc3, xc4, xc5, xc6, xc7, xv1, xv2, xv3, xv4, xv5, xv6, xv7, dT_le, dF_le, dT_lt, dF_lt, dT_eq, dF_eq, qa_up_hit, qa_up_no, k1, h8]
theorem c_keep {m : Int → Int → Int} {kd : Int → Nat × Int} {w : Nat × Nat × Nat} {T : Int → Int} {n p v : Int} (hK : KSc kd) (hM : MSc T n m) (hp : 0 ≤ p ∧ p < 240) : f_X8_keep [(1, 71), (0, p), (0, v)] (m, kd, w) = some (.inl none, (qa_up m 74 p v, kd, w)) := by
  obtain ⟨k1, k2, k3, k4⟩ := hK
  have m3 := hM.2.2.2.1
  unfold f_X8_keep
  refine qa_fn_eq ?_ (by simp)
  simp (disch := omega) [ev_X8_keep_0, ev_X8_keep_1, B_X8_keep_0, B_X8_keep_1, x_const, x_iadd, x_isub, x_imul, x_idiv, x_irem, x_ineg, x_dup, x_dup_x1, x_dup2, x_pop, x_goto, x_ifeq, x_ifne, x_iflt, x_ifge, x_ifgt, x_ifle, x_cmpeq, x_cmpne, x_cmplt, x_cmpge, x_cmpgt, x_cmple, x_null, x_nonnull, x_acmpeq, x_acmpne, x_get, x_put, x_putz, x_ald, x_ast, x_bast, x_zast, x_aast, x_alen, x_obj, x_ret, x_retz, x_vret, x_max, x_min, x_copy, x_i2l, qg_none, qg_inl, qg_inr, qg_ite, xr1, xr0, xrE, xri, xl0, xl1, xl2, xl3, xl4, xl5, xl6, xl7, xl8, xl9, xl10, xs0, xs1, xs2, xs3, xs4, xs5, xs6, xs7, xs8, xs9, xs10, xi0, xi1, xi2, xi3, xi4, xi5, xi6, xi7, xi8, xi9, xi10, xc0, xc1, xc2, xc3, xc4, xc5, xc6, xc7, xv1, xv2, xv3, xv4, xv5, xv6, xv7, dT_le, dF_le, dT_lt, dF_lt, k1, k4, m3]
def tlk (d : Nat) : List (Int × Nat) → Int → Nat
  | [], _ => d
  | q :: r, x => if q.1 = x then q.2 else tlk d r x
theorem tlk_eq (d : Nat) (x : Int) : ∀ ks : List (Int × Nat), ((ks.find? (fun q => q.1 == x)).map (fun q => q.2)).getD d = tlk d ks x := by
  intro ks
  induction ks with
  | nil => rfl
  | cons q r ih =>
    simp only [List.find?, tlk]
    by_cases h : q.1 = x
    · have e : (q.1 == x) = true := by rw [h]; exact beq_self_eq_true x
      rw [e, if_pos h]
      rfl
    · have e : (q.1 == x) = false := beq_false_of_ne h
      rw [e, if_neg h]
      exact ih
theorem x_lookup (ks : List (Int × Nat)) (dT : Nat) (ls r : List qV) (x : Int) (a : qA) : q_lookup ks dT ls ((0, x) :: r) a = some (.inl (tlk dT ks x, ls, r, a)) := by
  rw [← tlk_eq]
  simp [q_lookup]
theorem c_leastOfL {m : Int → Int → Int} {kd : Int → Nat × Int} {w : Nat × Nat × Nat} {l : Int} (h : tLt l) : f_X8_leastOf [(0, l)] (m, kd, w) = some (.inl (some (0, tLo l)), (m, kd, w)) := by
  rcases h with rfl | rfl | rfl | rfl | rfl | rfl | rfl | rfl | rfl <;>
  · unfold f_X8_leastOf
    refine qa_fn_eq ?_ (by simp)
    simp (disch := omega) [ev_X8_leastOf_0, ev_X8_leastOf_1, ev_X8_leastOf_2, ev_X8_leastOf_3, B_X8_leastOf_0, B_X8_leastOf_1, B_X8_leastOf_2, B_X8_leastOf_3, x_const, x_iadd, x_isub, x_imul, x_idiv, x_irem, x_ineg, x_dup, x_dup_x1, x_dup2, x_pop, x_goto, x_ifeq, x_ifne, x_iflt, x_ifge, x_ifgt, x_ifle, x_cmpeq, x_cmpne, x_cmplt, x_cmpge, x_cmpgt, x_cmple, x_null, x_nonnull, x_acmpeq, x_acmpne, x_get, x_put, x_putz, x_ald, x_ast, x_bast, x_zast, x_aast, x_alen, x_obj, x_ret, x_retz, x_vret, x_max, x_min, x_copy, x_i2l, qg_none, qg_inl, qg_inr, qg_ite, xr1, xr0, xrE, xri, xl0, xl1, xl2, xl3, xl4, xl5, xl6, xl7, xl8, xl9, xl10, xs0, xs1, xs2, xs3, xs4, xs5, xs6, xs7, xs8, xs9, xs10, xi0, xi1, xi2, xi3, xi4, xi5, xi6, xi7, xi8, xi9, xi10, xc0, xc1, xc2, xc3, xc4, xc5, xc6, xc7, xv1, xv2, xv3, xv4, xv5, xv6, xv7, dT_le, dF_le, dT_lt, dF_lt, tLo]
theorem c_mostOfL {m : Int → Int → Int} {kd : Int → Nat × Int} {w : Nat × Nat × Nat} {l : Int} (h : tLt l) : f_X8_mostOf [(0, l)] (m, kd, w) = some (.inl (some (0, tHi l)), (m, kd, w)) := by
  rcases h with rfl | rfl | rfl | rfl | rfl | rfl | rfl | rfl | rfl <;>
  · unfold f_X8_mostOf
    refine qa_fn_eq ?_ (by simp)
    simp (disch := omega) [ev_X8_mostOf_0, ev_X8_mostOf_1, ev_X8_mostOf_2, ev_X8_mostOf_3, ev_X8_mostOf_4, ev_X8_mostOf_5, ev_X8_mostOf_6, B_X8_mostOf_0, B_X8_mostOf_1, B_X8_mostOf_2, B_X8_mostOf_3, B_X8_mostOf_4, B_X8_mostOf_5, B_X8_mostOf_6, x_const, x_iadd, x_isub, x_imul, x_idiv, x_irem, x_ineg, x_dup, x_dup_x1, x_dup2, x_pop, x_goto, x_ifeq, x_ifne, x_iflt, x_ifge, x_ifgt, x_ifle, x_cmpeq, x_cmpne, x_cmplt, x_cmpge, x_cmpgt, x_cmple, x_null, x_nonnull, x_acmpeq, x_acmpne, x_get, x_put, x_putz, x_ald, x_ast, x_bast, x_zast, x_aast, x_alen, x_obj, x_ret, x_retz, x_vret, x_max, x_min, x_copy, x_i2l, qg_none, qg_inl, qg_inr, qg_ite, xr1, xr0, xrE, xri, xl0, xl1, xl2, xl3, xl4, xl5, xl6, xl7, xl8, xl9, xl10, xs0, xs1, xs2, xs3, xs4, xs5, xs6, xs7, xs8, xs9, xs10, xi0, xi1, xi2, xi3, xi4, xi5, xi6, xi7, xi8, xi9, xi10, xc0, xc1, xc2, xc3, xc4, xc5, xc6, xc7, xv1, xv2, xv3, xv4, xv5, xv6, xv7, dT_le, dF_le, dT_lt, dF_lt, x_lookup, tlk, tHi]
theorem c_parseEnd {m : Int → Int → Int} {kd : Int → Nat × Int} {w : Nat × Nat × Nat} {T : Int → Int} {n a p : Int} (hK : KSc kd) (hM : MSc T n m) (hL : CLx T n a m) (ha : 0 ≤ a ∧ a ≤ n) (hp : 0 ≤ p ∧ p < 240) : ∃ m', f_X8_parseEnd [(1, 71), (0, p)] (m, kd, w) = some (.inl (some (0, 1)), (m', kd, w)) ∧ (∀ c, c ≠ 71 → c ≠ 74 → m' c = m c) ∧ (∀ i, i ≤ 6 → m' 71 i = m 71 i) ∧ CLx T n (tOa T n a 101) m' ∧ ∀ i, m' 74 i = if i = p then tOv T n a 101 else m 74 i := by
  have k1 := hK.1
  have iw := c_isWord (w := w) hK hM hL ha tStr_e
  have ov : tOv T n a 101 = tIs T n a (tWl 10) := if_pos rfl
  have oa : tOa T n a 101 = if tIs T n a (tWl 10) = 1 then tBe T n a else a := if_pos rfl
  rw [ov, oa]
  have hk := fun v => c_keep (w := w) (v := v) hK hM hp
  have up74 : ∀ v i, qa_up m 74 p v 74 i = if i = p then v else m 74 i := fun v i => by
    by_cases e : i = p
    · rw [if_pos e, e, qa_up_hit]
    · rw [if_neg e, qa_up_no _ (fun z => e z.2)]
  rcases tIs_01 T n a (tWl 10) with hc | hc
  · rw [hc] at iw ⊢
    rw [if_neg (by decide)]
    refine ⟨qa_up m 74 p 0, ?_, fun c c1 c2 => by funext i; exact qa_up_no _ (fun z => c2 z.1), fun i _ => qa_up_no _ (by omega), CLx_o hL (fun i _ _ => qa_up_no _ (by omega)), up74 0⟩
    unfold f_X8_parseEnd
    refine qa_fn_eq ?_ (by simp)
    simp (disch := omega) [ev_X8_parseEnd_0, ev_X8_parseEnd_1, ev_X8_parseEnd_2, ev_X8_parseEnd_3, B_X8_parseEnd_0, B_X8_parseEnd_1, B_X8_parseEnd_2, B_X8_parseEnd_3, x_const, x_iadd, x_isub, x_imul, x_idiv, x_irem, x_ineg, x_dup, x_dup_x1, x_dup2, x_pop, x_goto, x_ifeq, x_ifne, x_iflt, x_ifge, x_ifgt, x_ifle, x_cmpeq, x_cmpne, x_cmplt, x_cmpge, x_cmpgt, x_cmple, x_null, x_nonnull, x_acmpeq, x_acmpne, x_get, x_put, x_putz, x_ald, x_ast, x_bast, x_zast, x_aast, x_alen, x_obj, x_ret, x_retz, x_vret, x_max, x_min, x_copy, x_i2l, qg_none, qg_inl, qg_inr, qg_ite, xr1, xr0, xrE, xri, xl0, xl1, xl2, xl3, xl4, xl5, xl6, xl7, xl8, xl9, xl10, xs0, xs1, xs2, xs3, xs4, xs5, xs6, xs7, xs8, xs9, xs10, xi0, xi1, xi2, xi3, xi4, xi5, xi6, xi7, xi8, xi9, xi10, xc0, xc1, xc2, xc3, xc4, xc5, xc6, xc7, xv1, xv2, xv3, xv4, xv5, xv6, xv7, dT_le, dF_le, dT_lt, dF_lt, k1, iw, hk]
  · rw [hc] at iw ⊢
    rw [if_pos rfl]
    have nx := c_nextL (w := w) hK (MSc_71 (m' := qa_up m 74 p 1) hM (by funext i; exact qa_up_no _ (by omega)) (fun i _ _ => qa_up_no _ (by omega))) (CLx_o hL (fun i _ _ => qa_up_no _ (by omega))) ha
    refine ⟨_, ?_, fun c c1 c2 => ?_, fun i hi => ?_, CLx_Nx T n (tBe T n a) (qa_up m 74 p 1), fun i => ?_⟩
    · unfold f_X8_parseEnd
      refine qa_fn_eq ?_ (by simp)
      simp (disch := omega) [ev_X8_parseEnd_0, ev_X8_parseEnd_1, ev_X8_parseEnd_2, ev_X8_parseEnd_3, B_X8_parseEnd_0, B_X8_parseEnd_1, B_X8_parseEnd_2, B_X8_parseEnd_3, x_const, x_iadd, x_isub, x_imul, x_idiv, x_irem, x_ineg, x_dup, x_dup_x1, x_dup2, x_pop, x_goto, x_ifeq, x_ifne, x_iflt, x_ifge, x_ifgt, x_ifle, x_cmpeq, x_cmpne, x_cmplt, x_cmpge, x_cmpgt, x_cmple, x_null, x_nonnull, x_acmpeq, x_acmpne, x_get, x_put, x_putz, x_ald, x_ast, x_bast, x_zast, x_aast, x_alen, x_obj, x_ret, x_retz, x_vret, x_max, x_min, x_copy, x_i2l, qg_none, qg_inl, qg_inr, qg_ite, xr1, xr0, xrE, xri, xl0, xl1, xl2, xl3, xl4, xl5, xl6, xl7, xl8, xl9, xl10, xs0, xs1, xs2, xs3, xs4, xs5, xs6, xs7, xs8, xs9, xs10, xi0, xi1, xi2, xi3, xi4, xi5, xi6, xi7, xi8, xi9, xi10, xc0, xc1, xc2, xc3, xc4, xc5, xc6, xc7, xv1, xv2, xv3, xv4, xv5, xv6, xv7, dT_le, dF_le, dT_lt, dF_lt, k1, iw, hk, nx]
    · funext i
      rw [tNx_no (Or.inl c1), qa_up_no _ (fun z => c2 z.1)]
    · rw [tNx_no (by omega), qa_up_no _ (by omega)]
    · rw [tNx_no (by omega), up74]
theorem c_operandN {m : Int → Int → Int} {kd : Int → Nat × Int} {w : Nat × Nat × Nat} {T : Int → Int} {n b l p s : Int} (hK : KSc kd) (hM : MSc T n m) (hL : CLx T n b m) (hb : 0 ≤ b ∧ b ≤ n) (hl : tLt l) (hp : 0 ≤ p ∧ p < 240) (hs : s = 0 ∨ s = 1) (l4 : qV) : (tKi T n b ≠ 2 → qa_ev P_X8_parseOperand 4 [(1, 71), (0, l), (0, p), (0, s), l4] [] (m, kd, w) = some (.inl (some (0, 0)), (qa_up (qa_up m 71 5 1) 71 6 (tSt T n b), kd, w))) ∧ (tKi T n b = 2 → (tNm T n b < tLo l ∨ tHi l < tNm T n b) → qa_ev P_X8_parseOperand 4 [(1, 71), (0, l), (0, p), (0, s), l4] [] (m, kd, w) = some (.inl (some (0, 0)), (qa_up (qa_up m 71 5 2) 71 6 (tSt T n b), kd, w))) ∧ (tKi T n b = 2 → ¬ (tNm T n b < tLo l ∨ tHi l < tNm T n b) → qa_ev P_X8_parseOperand 4 [(1, 71), (0, l), (0, p), (0, s), l4] [] (m, kd, w) = some (.inl (some (0, 1)), (tNx (qa_up m 74 p (if s = 1 then -tNm T n b else tNm T n b)) (tKi T n (tBe T n b)) (tSt T n (tBe T n b)) (tBe T n (tBe T n b)), kd, w))) := by
  have k1 := hK.1
  obtain ⟨l7, l8, l9⟩ := id hL
  have fl := fun code => c_fail (w := w) (code := code) hK l8
  refine ⟨fun h => ?_, fun h h' => ?_, fun h h' => ?_⟩
  · rw [ev_X8_parseOperand_4]
    simp (disch := omega) [ev_X8_parseOperand_0, ev_X8_parseOperand_1, ev_X8_parseOperand_2, ev_X8_parseOperand_3, ev_X8_parseOperand_5, ev_X8_parseOperand_6, ev_X8_parseOperand_7, ev_X8_parseOperand_8, ev_X8_parseOperand_9, B_X8_parseOperand_0, B_X8_parseOperand_1, B_X8_parseOperand_2, B_X8_parseOperand_3, B_X8_parseOperand_4, B_X8_parseOperand_5, B_X8_parseOperand_6, B_X8_parseOperand_7, B_X8_parseOperand_8, B_X8_parseOperand_9, x_const, x_iadd, x_isub, x_imul, x_idiv, x_irem, x_ineg, x_dup, x_dup_x1, x_dup2, x_pop, x_goto, x_ifeq, x_ifne, x_iflt, x_ifge, x_ifgt, x_ifle, x_cmpeq, x_cmpne, x_cmplt, x_cmpge, x_cmpgt, x_cmple, x_null, x_nonnull, x_acmpeq, x_acmpne, x_get, x_put, x_putz, x_ald, x_ast, x_bast, x_zast, x_aast, x_alen, x_obj, x_ret, x_retz, x_vret, x_max, x_min, x_copy, x_i2l, qg_none, qg_inl, qg_inr, qg_ite, xr1, xr0, xrE, xri, xl0, xl1, xl2, xl3, xl4, xl5, xl6, xl7, xl8, xl9, xl10, xs0, xs1, xs2, xs3, xs4, xs5, xs6, xs7, xs8, xs9, xs10, xi0, xi1, xi2, xi3, xi4, xi5, xi6, xi7, xi8, xi9, xi10, xc0, xc1, xc2, xc3, xc4, xc5, xc6, xc7, xv1, xv2, xv3, xv4, xv5, xv6, xv7, dT_le, dF_le, dT_lt, dF_lt, dF_eq, k1, l7, h, fl]
  · have nh := c_numberHere (w := w) hK hM hL hb h
    have le := c_leastOfL (m := m) (kd := kd) (w := w) hl
    have mo := c_mostOfL (m := m) (kd := kd) (w := w) hl
    rw [ev_X8_parseOperand_4]
    by_cases c1 : tNm T n b < tLo l
    · simp (disch := omega) [ev_X8_parseOperand_0, ev_X8_parseOperand_1, ev_X8_parseOperand_2, ev_X8_parseOperand_3, ev_X8_parseOperand_5, ev_X8_parseOperand_6, ev_X8_parseOperand_7, ev_X8_parseOperand_8, ev_X8_parseOperand_9, B_X8_parseOperand_0, B_X8_parseOperand_1, B_X8_parseOperand_2, B_X8_parseOperand_3, B_X8_parseOperand_4, B_X8_parseOperand_5, B_X8_parseOperand_6, B_X8_parseOperand_7, B_X8_parseOperand_8, B_X8_parseOperand_9, x_const, x_iadd, x_isub, x_imul, x_idiv, x_irem, x_ineg, x_dup, x_dup_x1, x_dup2, x_pop, x_goto, x_ifeq, x_ifne, x_iflt, x_ifge, x_ifgt, x_ifle, x_cmpeq, x_cmpne, x_cmplt, x_cmpge, x_cmpgt, x_cmple, x_null, x_nonnull, x_acmpeq, x_acmpne, x_get, x_put, x_putz, x_ald, x_ast, x_bast, x_zast, x_aast, x_alen, x_obj, x_ret, x_retz, x_vret, x_max, x_min, x_copy, x_i2l, qg_none, qg_inl, qg_inr, qg_ite, xr1, xr0, xrE, xri, xl0, xl1, xl2, xl3, xl4, xl5, xl6, xl7, xl8, xl9, xl10, xs0, xs1, xs2, xs3, xs4, xs5, xs6, xs7, xs8, xs9, xs10, xi0, xi1, xi2, xi3, xi4, xi5, xi6, xi7, xi8, xi9, xi10, xc0, xc1, xc2, xc3, xc4, xc5, xc6, xc7, xv1, xv2, xv3, xv4, xv5, xv6, xv7, dT_le, dF_le, dT_lt, dF_lt, k1, l7, h, nh, le, c1, fl]
    · have c2 : tHi l < tNm T n b := by omega
      simp (disch := omega) [ev_X8_parseOperand_0, ev_X8_parseOperand_1, ev_X8_parseOperand_2, ev_X8_parseOperand_3, ev_X8_parseOperand_5, ev_X8_parseOperand_6, ev_X8_parseOperand_7, ev_X8_parseOperand_8, ev_X8_parseOperand_9, B_X8_parseOperand_0, B_X8_parseOperand_1, B_X8_parseOperand_2, B_X8_parseOperand_3, B_X8_parseOperand_4, B_X8_parseOperand_5, B_X8_parseOperand_6, B_X8_parseOperand_7, B_X8_parseOperand_8, B_X8_parseOperand_9, x_const, x_iadd, x_isub, x_imul, x_idiv, x_irem, x_ineg, x_dup, x_dup_x1, x_dup2, x_pop, x_goto, x_ifeq, x_ifne, x_iflt, x_ifge, x_ifgt, x_ifle, x_cmpeq, x_cmpne, x_cmplt, x_cmpge, x_cmpgt, x_cmple, x_null, x_nonnull, x_acmpeq, x_acmpne, x_get, x_put, x_putz, x_ald, x_ast, x_bast, x_zast, x_aast, x_alen, x_obj, x_ret, x_retz, x_vret, x_max, x_min, x_copy, x_i2l, qg_none, qg_inl, qg_inr, qg_ite, xr1, xr0, xrE, xri, xl0, xl1, xl2, xl3, xl4, xl5, xl6, xl7, xl8, xl9, xl10, xs0, xs1, xs2, xs3, xs4, xs5, xs6, xs7, xs8, xs9, xs10, xi0, xi1, xi2, xi3, xi4, xi5, xi6, xi7, xi8, xi9, xi10, xc0, xc1, xc2, xc3, xc4, xc5, xc6, xc7, xv1, xv2, xv3, xv4, xv5, xv6, xv7, dT_le, dF_le, dT_lt, dF_lt, k1, l7, h, nh, le, mo, c1, c2, fl]
  · have nh := c_numberHere (w := w) hK hM hL hb h
    have le := c_leastOfL (m := m) (kd := kd) (w := w) hl
    have mo := c_mostOfL (m := m) (kd := kd) (w := w) hl
    have hh : tHi l ≤ 99 := by
      rcases hl with rfl | rfl | rfl | rfl | rfl | rfl | rfl | rfl | rfl <;> decide
    have h0 : 0 ≤ tLo l := by unfold tLo; split <;> decide
    have kp := fun v => c_keep (w := w) (v := v) hK hM hp
    have nx := fun v => c_nextL (w := w) hK (MSc_71 (m' := qa_up m 74 p v) hM (by funext i; exact qa_up_no _ (by omega)) (fun i _ _ => qa_up_no _ (by omega))) (CLx_o hL (fun i _ _ => qa_up_no _ (by omega))) hb
    have c1 : ¬ tNm T n b < tLo l := fun z => h' (Or.inl z)
    have c2 : ¬ tHi l < tNm T n b := fun z => h' (Or.inr z)
    rw [ev_X8_parseOperand_4]
    rcases hs with rfl | rfl
    · simp (disch := omega) [ev_X8_parseOperand_0, ev_X8_parseOperand_1, ev_X8_parseOperand_2, ev_X8_parseOperand_3, ev_X8_parseOperand_5, ev_X8_parseOperand_6, ev_X8_parseOperand_7, ev_X8_parseOperand_8, ev_X8_parseOperand_9, B_X8_parseOperand_0, B_X8_parseOperand_1, B_X8_parseOperand_2, B_X8_parseOperand_3, B_X8_parseOperand_4, B_X8_parseOperand_5, B_X8_parseOperand_6, B_X8_parseOperand_7, B_X8_parseOperand_8, B_X8_parseOperand_9, x_const, x_iadd, x_isub, x_imul, x_idiv, x_irem, x_ineg, x_dup, x_dup_x1, x_dup2, x_pop, x_goto, x_ifeq, x_ifne, x_iflt, x_ifge, x_ifgt, x_ifle, x_cmpeq, x_cmpne, x_cmplt, x_cmpge, x_cmpgt, x_cmple, x_null, x_nonnull, x_acmpeq, x_acmpne, x_get, x_put, x_putz, x_ald, x_ast, x_bast, x_zast, x_aast, x_alen, x_obj, x_ret, x_retz, x_vret, x_max, x_min, x_copy, x_i2l, qg_none, qg_inl, qg_inr, qg_ite, xr1, xr0, xrE, xri, xl0, xl1, xl2, xl3, xl4, xl5, xl6, xl7, xl8, xl9, xl10, xs0, xs1, xs2, xs3, xs4, xs5, xs6, xs7, xs8, xs9, xs10, xi0, xi1, xi2, xi3, xi4, xi5, xi6, xi7, xi8, xi9, xi10, xc0, xc1, xc2, xc3, xc4, xc5, xc6, xc7, xv1, xv2, xv3, xv4, xv5, xv6, xv7, dT_le, dF_le, dT_lt, dF_lt, k1, l7, h, nh, le, mo, c1, c2, kp, nx]
    · simp (disch := omega) [ev_X8_parseOperand_0, ev_X8_parseOperand_1, ev_X8_parseOperand_2, ev_X8_parseOperand_3, ev_X8_parseOperand_5, ev_X8_parseOperand_6, ev_X8_parseOperand_7, ev_X8_parseOperand_8, ev_X8_parseOperand_9, B_X8_parseOperand_0, B_X8_parseOperand_1, B_X8_parseOperand_2, B_X8_parseOperand_3, B_X8_parseOperand_4, B_X8_parseOperand_5, B_X8_parseOperand_6, B_X8_parseOperand_7, B_X8_parseOperand_8, B_X8_parseOperand_9, x_const, x_iadd, x_isub, x_imul, x_idiv, x_irem, x_ineg, x_dup, x_dup_x1, x_dup2, x_pop, x_goto, x_ifeq, x_ifne, x_iflt, x_ifge, x_ifgt, x_ifle, x_cmpeq, x_cmpne, x_cmplt, x_cmpge, x_cmpgt, x_cmple, x_null, x_nonnull, x_acmpeq, x_acmpne, x_get, x_put, x_putz, x_ald, x_ast, x_bast, x_zast, x_aast, x_alen, x_obj, x_ret, x_retz, x_vret, x_max, x_min, x_copy, x_i2l, qg_none, qg_inl, qg_inr, qg_ite, xr1, xr0, xrE, xri, xl0, xl1, xl2, xl3, xl4, xl5, xl6, xl7, xl8, xl9, xl10, xs0, xs1, xs2, xs3, xs4, xs5, xs6, xs7, xs8, xs9, xs10, xi0, xi1, xi2, xi3, xi4, xi5, xi6, xi7, xi8, xi9, xi10, xc0, xc1, xc2, xc3, xc4, xc5, xc6, xc7, xv1, xv2, xv3, xv4, xv5, xv6, xv7, dT_le, dF_le, dT_lt, dF_lt, k1, l7, h, nh, le, mo, c1, c2, kp, nx]
