def Po (l : List Int) (m : Int → Int → Int) : Prop := m 77 27 = (l.length : Int) ∧ ∀ i : Nat, i < l.length → m 90 i = l.getD i 0
def zfq (m m' : Int → Int → Int) : Prop := (∀ c, c ≠ 77 → c ≠ 90 → m' c = m c) ∧ ∀ i, i ≠ 27 → m' 77 i = m 77 i
theorem zfq.refl (m : Int → Int → Int) : zfq m m := ⟨fun _ _ _ => rfl, fun _ _ => rfl⟩
theorem zfq.trans {m m' m'' : Int → Int → Int} (h : zfq m m') (k : zfq m' m'') : zfq m m'' := ⟨fun c c1 c2 => (k.1 c c1 c2).trans (h.1 c c1 c2), fun i i1 => (k.2 i i1).trans (h.2 i i1)⟩
theorem zfq_RM {m m' : Int → Int → Int} (h : zfq m m') (hR : RM m) : RM m' := by
  unfold RM at hR ⊢
  simp only [h.2 1 (by decide), h.2 2 (by decide), h.2 3 (by decide), h.2 4 (by decide), h.2 6 (by decide), h.2 7 (by decide), h.2 8 (by decide), h.2 12 (by decide), h.2 13 (by decide), h.2 15 (by decide), h.2 23 (by decide), h.2 25 (by decide), h.2 26 (by decide)]
  exact hR
theorem m_printsS {m : Int → Int → Int} {kd : Int → Nat × Int} {w : Nat × Nat × Nat} (hK : KM kd) (hR : RM m) {L ch : Int} (p1 : m 77 27 = L) (hL : 0 ≤ L ∧ L < 200) (hc : 0 ≤ ch ∧ ch ≤ 127) : f_X12_prints [(1, 77), (0, ch)] (m, kd, w) = some (.inl none, (qa_up (qa_up m 90 L ch) 77 27 (L + 1), kd, w)) := by
  obtain ⟨k77, k78, k79, k80, k81, k82, k83, k84, k85, k86, k87, k88, k89, k90⟩ := id hK
  obtain ⟨r1, r2, r3, r4, r6, r7, r8, r12, r13, r15, r23, r25, r26⟩ := id hR
  have hb : qa_b ch = ch := qa_b_id (by omega)
  unfold f_X12_prints
  refine qa_fn_eq ?_ (by simp)
  simp (disch := omega) [ev_X12_prints_0, B_X12_prints_0, x_const, x_iadd, x_isub, x_imul, x_idiv, x_irem, x_ineg, x_dup, x_dup_x1, x_dup2, x_pop, x_goto, x_ifeq, x_ifne, x_iflt, x_ifge, x_ifgt, x_ifle, x_cmpeq, x_cmpne, x_cmplt, x_cmpge, x_cmpgt, x_cmple, x_null, x_nonnull, x_acmpeq, x_acmpne, x_get, x_put, x_putz, x_ald, x_ast, x_bast, x_zast, x_aast, x_alen, x_obj, x_ret, x_retz, x_vret, x_max, x_min, x_copy, x_i2l, qg_none, qg_inl, qg_inr, qg_ite, xr1, xr0, xrE, xri, xl0, xl1, xl2, xl3, xl4, xl5, xl6, xl7, xl8, xl9, xl10, xs0, xs1, xs2, xs3, xs4, xs5, xs6, xs7, xs8, xs9, xs10, xi0, xi1, xi2, xi3, xi4, xi5, xi6, xi7, xi8, xi9, xi10, xc0, xc1, xc2, xc3, xc4, xc5, xc6, xc7, xv1, xv2, xv3, xv4, xv5, xv6, xv7, dT_le, dF_le, dT_lt, dF_lt, dT_eq, dF_eq, qa_up_hit, qa_up_no, k77, k90, r26, p1, x_i2b, hb]
theorem m_prints {m : Int → Int → Int} {kd : Int → Nat × Int} {w : Nat × Nat × Nat} (hK : KM kd) (hR : RM m) {l : List Int} (hP : Po l m) {ch : Int} (hc : 0 ≤ ch ∧ ch ≤ 127) (hl : l.length < 200) : ∃ m', f_X12_prints [(1, 77), (0, ch)] (m, kd, w) = some (.inl none, (m', kd, w)) ∧ Po (l ++ [ch]) m' ∧ zfq m m' := by
  obtain ⟨p1, p2⟩ := id hP
  refine ⟨qa_up (qa_up m 90 l.length ch) 77 27 ((l.length : Int) + 1), ?_, ⟨?_, fun i hi => ?_⟩, fun c c1 c2 => ?_, fun i hi => ?_⟩
  · exact m_printsS hK hR p1 ⟨by omega, by omega⟩ hc
  · rw [qa_up_hit]; simp
  · rw [List.length_append] at hi
    rw [qa_up_no _ (by omega)]
    by_cases e : i < l.length
    · rw [qa_up_no _ (by omega), getD_app1 l _ i e]; exact p2 i e
    · have : i = l.length := by simp at hi; omega
      rw [this, qa_up_hit, getD_app2 l _ _ (by omega), Nat.sub_self]; rfl
  · funext i
    rw [qa_up_no _ (fun z => c1 z.1), qa_up_no _ (fun z => c2 z.1)]
  · rw [qa_up_no _ (fun z => hi z.2), qa_up_no _ (by omega)]
def tpw : Nat → Int
  | 0 => 0
  | 1 => 1
  | n + 2 => 10 * tpw (n + 1)
def tds (v : Int) : Nat → List Int
  | 0 => []
  | n + 1 => (48 + v / tpw (n + 1) % 10) :: tds v n
theorem m_pnS {m : Int → Int → Int} {kd : Int → Nat × Int} {w : Nat × Nat × Nat} (hK : KM kd) (hR : RM m) {m' : Int → Int → Int} {v p q : Int} (hv : 0 ≤ v ∧ v < 100000) (hp : 0 < p ∧ p ≤ 10000) (hq : v / p = q) (hq0 : 0 ≤ q) (e : f_X12_prints [(1, 77), (0, 48 + q % 10)] (m, kd, w) = some (.inl none, (m', kd, w))) : qa_ev P_X12_printsNumber 2 [(1, 77), (0, v), (0, p)] [] (m, kd, w) = qa_ev P_X12_printsNumber 2 [(1, 77), (0, v), (0, p / 10)] [] (m', kd, w) := by
  have k77 := hK.1
  rw [ev_X12_printsNumber_2]
  simp (disch := omega) [B_X12_printsNumber_2, x_const, x_iadd, x_isub, x_imul, x_idiv, x_irem, x_ineg, x_dup, x_dup_x1, x_dup2, x_pop, x_goto, x_ifeq, x_ifne, x_iflt, x_ifge, x_ifgt, x_ifle, x_cmpeq, x_cmpne, x_cmplt, x_cmpge, x_cmpgt, x_cmple, x_null, x_nonnull, x_acmpeq, x_acmpne, x_get, x_put, x_putz, x_ald, x_ast, x_bast, x_zast, x_aast, x_alen, x_obj, x_ret, x_retz, x_vret, x_max, x_min, x_copy, x_i2l, qg_none, qg_inl, qg_inr, qg_ite, xr1, xr0, xrE, xri, xl0, xl1, xl2, xl3, xl4, xl5, xl6, xl7, xl8, xl9, xl10, xs0, xs1, xs2, xs3, xs4, xs5, xs6, xs7, xs8, xs9, xs10, xi0, xi1, xi2, xi3, xi4, xi5, xi6, xi7, xi8, xi9, xi10, xc0, xc1, xc2, xc3, xc4, xc5, xc6, xc7, xv1, xv2, xv3, xv4, xv5, xv6, xv7, dT_le, dF_le, dT_lt, dF_lt, k77, hq, e]
theorem m_pn2 {kd : Int → Nat × Int} {w : Nat × Nat × Nat} (hK : KM kd) {v : Int} (hv : 0 ≤ v ∧ v < 100000) : ∀ (k : Nat) (l : List Int) (m : Int → Int → Int), k ≤ 5 → RM m → Po l m → l.length + k < 200 → ∃ m', qa_ev P_X12_printsNumber 2 [(1, 77), (0, v), (0, tpw k)] [] (m, kd, w) = some (.inl none, (m', kd, w)) ∧ Po (l ++ tds v k) m' ∧ zfq m m' := by
  intro k
  induction k with
  | zero =>
    intro l m hk hR hP hl
    refine ⟨m, ?_, by simp only [tds, List.append_nil]; exact hP, zfq.refl m⟩
    rw [ev_X12_printsNumber_2]
    simp (disch := omega) [B_X12_printsNumber_2, ev_X12_printsNumber_3, B_X12_printsNumber_3, x_const, x_iadd, x_isub, x_imul, x_idiv, x_irem, x_ineg, x_dup, x_dup_x1, x_dup2, x_pop, x_goto, x_ifeq, x_ifne, x_iflt, x_ifge, x_ifgt, x_ifle, x_cmpeq, x_cmpne, x_cmplt, x_cmpge, x_cmpgt, x_cmple, x_null, x_nonnull, x_acmpeq, x_acmpne, x_get, x_put, x_putz, x_ald, x_ast, x_bast, x_zast, x_aast, x_alen, x_obj, x_ret, x_retz, x_vret, x_max, x_min, x_copy, x_i2l, qg_none, qg_inl, qg_inr, qg_ite, xr1, xr0, xrE, xri, xl0, xl1, xl2, xl3, xl4, xl5, xl6, xl7, xl8, xl9, xl10, xs0, xs1, xs2, xs3, xs4, xs5, xs6, xs7, xs8, xs9, xs10, xi0, xi1, xi2, xi3, xi4, xi5, xi6, xi7, xi8, xi9, xi10, xc0, xc1, xc2, xc3, xc4, xc5, xc6, xc7, xv1, xv2, xv3, xv4, xv5, xv6, xv7, dT_le, dF_le, dT_lt, dF_lt, tpw]
  | succ k ih =>
    intro l m hk hR hP hl
    have hp : 0 < tpw (k + 1) ∧ tpw (k + 1) ≤ 10000 ∧ tpw (k + 1) / 10 = tpw k := by
      have : k = 0 ∨ k = 1 ∨ k = 2 ∨ k = 3 ∨ k = 4 := by omega
      rcases this with rfl | rfl | rfl | rfl | rfl <;> decide
    have hq0 : 0 ≤ v / tpw (k + 1) := Int.ediv_nonneg hv.1 (by omega)
    obtain ⟨m1, e1, P1, F1⟩ := m_prints (w := w) hK hR hP (ch := 48 + v / tpw (k + 1) % 10) (by omega) (by omega)
    have S := m_pnS hK hR hv ⟨hp.1, hp.2.1⟩ rfl hq0 e1
    rw [hp.2.2] at S
    obtain ⟨m2, e2, P2, F2⟩ := ih (l ++ [48 + v / tpw (k + 1) % 10]) m1 (by omega) (zfq_RM F1 hR) P1 (by simp; omega)
    refine ⟨m2, S.trans e2, ?_, F1.trans F2⟩
    simp only [tds]
    simpa using P2
theorem tds_g {v : Int} (h : 0 ≤ v ∧ v < 100000) : tds v (tdg v).length = tdg v := by
  unfold tdg
  by_cases h1 : v < 10
  · rw [if_pos h1]
    simp only [List.length_cons, List.length_nil, tds, tpw, Nat.zero_add]
    congr 1; omega
  · rw [if_neg h1]
    by_cases h2 : v < 100
    · rw [if_pos h2]
      simp only [List.length_cons, List.length_nil, tds, tpw, Nat.zero_add, Nat.reduceAdd, Int.reduceMul]
      rw [show v / 10 % 10 = v / 10 by omega, show v / 1 % 10 = v % 10 by omega]
    · rw [if_neg h2]
      by_cases h3 : v < 1000
      · rw [if_pos h3]
        simp only [List.length_cons, List.length_nil, tds, tpw, Nat.zero_add, Nat.reduceAdd, Int.reduceMul]
        rw [show v / 100 % 10 = v / 100 by omega, show v / 1 % 10 = v % 10 by omega]
      · rw [if_neg h3]
        by_cases h4 : v < 10000
        · rw [if_pos h4]
          simp only [List.length_cons, List.length_nil, tds, tpw, Nat.zero_add, Nat.reduceAdd, Int.reduceMul]
          rw [show v / 1000 % 10 = v / 1000 by omega, show v / 1 % 10 = v % 10 by omega]
        · rw [if_neg h4]
          simp only [List.length_cons, List.length_nil, tds, tpw, Nat.zero_add, Nat.reduceAdd, Int.reduceMul]
          rw [show v / 10000 % 10 = v / 10000 by omega, show v / 1 % 10 = v % 10 by omega]
theorem m_pnT {m : Int → Int → Int} {kd : Int → Nat × Int} {w : Nat × Nat × Nat} {v p q : Int} (hv : 0 ≤ v ∧ v < 100000) (hp : 0 < p ∧ p ≤ 10000) (hq : v / p = q) (h : 10 ≤ q) : qa_ev P_X12_printsNumber 1 [(1, 77), (0, v), (0, p)] [] (m, kd, w) = qa_ev P_X12_printsNumber 1 [(1, 77), (0, v), (0, p * 10)] [] (m, kd, w) := by
  rw [ev_X12_printsNumber_1]
  simp (disch := omega) [B_X12_printsNumber_1, x_const, x_iadd, x_isub, x_imul, x_idiv, x_irem, x_ineg, x_dup, x_dup_x1, x_dup2, x_pop, x_goto, x_ifeq, x_ifne, x_iflt, x_ifge, x_ifgt, x_ifle, x_cmpeq, x_cmpne, x_cmplt, x_cmpge, x_cmpgt, x_cmple, x_null, x_nonnull, x_acmpeq, x_acmpne, x_get, x_put, x_putz, x_ald, x_ast, x_bast, x_zast, x_aast, x_alen, x_obj, x_ret, x_retz, x_vret, x_max, x_min, x_copy, x_i2l, qg_none, qg_inl, qg_inr, qg_ite, xr1, xr0, xrE, xri, xl0, xl1, xl2, xl3, xl4, xl5, xl6, xl7, xl8, xl9, xl10, xs0, xs1, xs2, xs3, xs4, xs5, xs6, xs7, xs8, xs9, xs10, xi0, xi1, xi2, xi3, xi4, xi5, xi6, xi7, xi8, xi9, xi10, xc0, xc1, xc2, xc3, xc4, xc5, xc6, xc7, xv1, xv2, xv3, xv4, xv5, xv6, xv7, dT_le, dF_le, dT_lt, dF_lt, hq]
theorem m_pnE {m : Int → Int → Int} {kd : Int → Nat × Int} {w : Nat × Nat × Nat} {v p q : Int} (hv : 0 ≤ v ∧ v < 100000) (hp : 0 < p ∧ p ≤ 10000) (hq : v / p = q) (h : q < 10) : qa_ev P_X12_printsNumber 1 [(1, 77), (0, v), (0, p)] [] (m, kd, w) = qa_ev P_X12_printsNumber 2 [(1, 77), (0, v), (0, p)] [] (m, kd, w) := by
  rw [ev_X12_printsNumber_1]
  simp (disch := omega) [B_X12_printsNumber_1, x_const, x_iadd, x_isub, x_imul, x_idiv, x_irem, x_ineg, x_dup, x_dup_x1, x_dup2, x_pop, x_goto, x_ifeq, x_ifne, x_iflt, x_ifge, x_ifgt, x_ifle, x_cmpeq, x_cmpne, x_cmplt, x_cmpge, x_cmpgt, x_cmple, x_null, x_nonnull, x_acmpeq, x_acmpne, x_get, x_put, x_putz, x_ald, x_ast, x_bast, x_zast, x_aast, x_alen, x_obj, x_ret, x_retz, x_vret, x_max, x_min, x_copy, x_i2l, qg_none, qg_inl, qg_inr, qg_ite, xr1, xr0, xrE, xri, xl0, xl1, xl2, xl3, xl4, xl5, xl6, xl7, xl8, xl9, xl10, xs0, xs1, xs2, xs3, xs4, xs5, xs6, xs7, xs8, xs9, xs10, xi0, xi1, xi2, xi3, xi4, xi5, xi6, xi7, xi8, xi9, xi10, xc0, xc1, xc2, xc3, xc4, xc5, xc6, xc7, xv1, xv2, xv3, xv4, xv5, xv6, xv7, dT_le, dF_le, dT_lt, dF_lt, hq]
theorem m_pn1 {m : Int → Int → Int} {kd : Int → Nat × Int} {w : Nat × Nat × Nat} {v : Int} (hv : 0 ≤ v ∧ v < 100000) : qa_ev P_X12_printsNumber 1 [(1, 77), (0, v), (0, 1)] [] (m, kd, w) = qa_ev P_X12_printsNumber 2 [(1, 77), (0, v), (0, tpw (tdg v).length)] [] (m, kd, w) := by
  have T := fun (p : Int) (hp : 0 < p ∧ p ≤ 10000) (h : 10 ≤ v / p) => m_pnT (m := m) (kd := kd) (w := w) hv hp rfl h
  have E := fun (p : Int) (hp : 0 < p ∧ p ≤ 10000) (h : v / p < 10) => m_pnE (m := m) (kd := kd) (w := w) hv hp rfl h
  unfold tdg
  by_cases h1 : v < 10
  · rw [if_pos h1, E 1 (by decide) (by omega)]; rfl
  · rw [if_neg h1, T 1 (by decide) (by omega)]
    by_cases h2 : v < 100
    · rw [if_pos h2, E (1 * 10) (by decide) (by omega)]; rfl
    · rw [if_neg h2, T (1 * 10) (by decide) (by omega)]
      by_cases h3 : v < 1000
      · rw [if_pos h3, E (1 * 10 * 10) (by decide) (by omega)]; rfl
      · rw [if_neg h3, T (1 * 10 * 10) (by decide) (by omega)]
        by_cases h4 : v < 10000
        · rw [if_pos h4, E (1 * 10 * 10 * 10) (by decide) (by omega)]; rfl
        · rw [if_neg h4, T (1 * 10 * 10 * 10) (by decide) (by omega), E (1 * 10 * 10 * 10 * 10) (by decide) (by omega)]; rfl
theorem m_printsNumber {m : Int → Int → Int} {kd : Int → Nat × Int} {w : Nat × Nat × Nat} (hK : KM kd) (hR : RM m) {l : List Int} (hP : Po l m) {v : Int} (hv : 0 ≤ v ∧ v < 100000) (hl : l.length + 5 < 200) : ∃ m', f_X12_printsNumber [(1, 77), (0, v)] (m, kd, w) = some (.inl none, (m', kd, w)) ∧ Po (l ++ tdg v) m' ∧ zfq m m' := by
  have hd := (tdg_r hv).1
  obtain ⟨m', e, P, F⟩ := m_pn2 (w := w) hK hv (tdg v).length l m hd.2 hR hP (by omega)
  rw [tds_g hv] at P
  refine ⟨m', ?_, P, F⟩
  unfold f_X12_printsNumber
  refine qa_fn_eq ?_ (by simp)
  refine Eq.trans ?_ ((m_pn1 hv).trans e)
  simp (disch := omega) [ev_X12_printsNumber_0, B_X12_printsNumber_0, x_const, x_iadd, x_isub, x_imul, x_idiv, x_irem, x_ineg, x_dup, x_dup_x1, x_dup2, x_pop, x_goto, x_ifeq, x_ifne, x_iflt, x_ifge, x_ifgt, x_ifle, x_cmpeq, x_cmpne, x_cmplt, x_cmpge, x_cmpgt, x_cmple, x_null, x_nonnull, x_acmpeq, x_acmpne, x_get, x_put, x_putz, x_ald, x_ast, x_bast, x_zast, x_aast, x_alen, x_obj, x_ret, x_retz, x_vret, x_max, x_min, x_copy, x_i2l, qg_none, qg_inl, qg_inr, qg_ite, xr1, xr0, xrE, xri, xl0, xl1, xl2, xl3, xl4, xl5, xl6, xl7, xl8, xl9, xl10, xs0, xs1, xs2, xs3, xs4, xs5, xs6, xs7, xs8, xs9, xs10, xi0, xi1, xi2, xi3, xi4, xi5, xi6, xi7, xi8, xi9, xi10, xc0, xc1, xc2, xc3, xc4, xc5, xc6, xc7, xv1, xv2, xv3, xv4, xv5, xv6, xv7, dT_le, dF_le, dT_lt, dF_lt]
