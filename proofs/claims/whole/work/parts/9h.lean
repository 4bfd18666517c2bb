def zfp (m m' : Int → Int → Int) : Prop := (∀ c, c ≠ 77 → m' c = m c) ∧ ∀ i, (i < 17 ∨ 22 < i) → m' 77 i = m 77 i
theorem zfp.refl (m : Int → Int → Int) : zfp m m := ⟨fun _ _ => rfl, fun _ _ => rfl⟩
theorem zfp.trans {m m' m'' : Int → Int → Int} (h : zfp m m') (k : zfp m' m'') : zfp m m'' := ⟨fun c hc => (k.1 c hc).trans (h.1 c hc), fun i hi => (k.2 i hi).trans (h.2 i hi)⟩
theorem zfp_RM {m m' : Int → Int → Int} (h : zfp m m') (hR : RM m) : RM m' := RM_17 hR (fun i hi => h.2 i (by omega))
theorem zfp_T {T : Int → Int} {n : Int} {m m' : Int → Int → Int} (h : zfp m m') (hT : MTx T n m) : MTx T n m' := MTx_77 hT (h.2 16 (by decide)) (h.1 87 (by decide))
theorem zfp_W {m m' : Int → Int → Int} (h : zfp m m') (hW : MWo m) : MWo m' := fun i a b => by rw [h.1 88 (by decide)]; exact hW i a b
def MSt (T : Int → Int) (n : Int) (s : Int × Int) (m : Int → Int → Int) : Prop := m 77 21 = s.1 ∧ (s.1 = 0 → MLx T n s.2 m ∧ m 77 22 = -1) ∧ (s.1 ≠ 0 → m 77 22 = s.2)
def tOp (T : Int → Int) (n l : Int) (s : Int × Int) : Int × Int := if s.1 ≠ 0 then s else if tOc T n s.2 l = 0 then (0, tOa T n s.2 l) else (tOc T n s.2 l, tSt T n (tNa T n s.2 l))
theorem MSt_o {T : Int → Int} {n : Int} {s : Int × Int} {m m' : Int → Int → Int} (h : MSt T n s m) (ho : ∀ i, 17 ≤ i → i ≤ 22 → m' 77 i = m 77 i) : MSt T n s m' := by
  obtain ⟨h1, h2, h3⟩ := h
  refine ⟨by rw [ho 21 (by decide) (by decide)]; exact h1, fun z => ?_, fun z => by rw [ho 22 (by decide) (by decide)]; exact h3 z⟩
  obtain ⟨⟨a, b, c, d⟩, e⟩ := h2 z
  exact ⟨⟨by rw [ho 17 (by decide) (by decide)]; exact a, by rw [ho 18 (by decide) (by decide)]; exact b, by rw [ho 19 (by decide) (by decide)]; exact c, by rw [ho 20 (by decide) (by decide)]; exact d⟩, by rw [ho 22 (by decide) (by decide)]; exact e⟩
theorem m_must {m : Int → Int → Int} {kd : Int → Nat × Int} {w : Nat × Nat × Nat} {is code e s : Int} (k77 : kd 77 = (15, 0)) (h21 : m 77 21 = e) (h18 : m 77 18 = s) (hs : is = 0 ∨ is = 1) : f_X12_must [(1, 77), (0, is), (0, code)] (m, kd, w) = some (.inl none, (if is = 0 ∧ e = 0 then qa_up (qa_up m 77 21 code) 77 22 s else m, kd, w)) := by
  rcases hs with rfl | rfl
  · by_cases he : e = 0
    · rw [if_pos ⟨rfl, he⟩]
      unfold f_X12_must
      refine qa_fn_eq ?_ (by simp)
      simp (disch := omega) [ev_X12_must_0, ev_X12_must_1, B_X12_must_0, B_X12_must_1, x_const, x_iadd, x_isub, x_imul, x_idiv, x_irem, x_ineg, x_dup, x_dup_x1, x_dup2, x_pop, x_goto, x_ifeq, x_ifne, x_iflt, x_ifge, x_ifgt, x_ifle, x_cmpeq, x_cmpne, x_cmplt, x_cmpge, x_cmpgt, x_cmple, x_null, x_nonnull, x_acmpeq, x_acmpne, x_get, x_put, x_putz, x_ald, x_ast, x_bast, x_zast, x_aast, x_alen, x_obj, x_ret, x_retz, x_vret, x_max, x_min, x_copy, x_i2l, qg_none, qg_inl, qg_inr, qg_ite, xr1, xr0, xrE, xri, xl0, xl1, xl2, xl3, xl4, xl5, xl6, xl7, xl8, xl9, xl10, xs0, xs1, xs2, xs3, xs4, xs5, xs6, xs7, xs8, xs9, xs10, xi0, xi1, xi2, xi3, xi4, xi5, xi6, xi7, xi8, xi9, xi10, xc0, xc1, xc2, xc3, xc4, xc5, xc6, xc7, xv1, xv2, xv3, xv4, xv5, xv6, xv7, dT_le, dF_le, dT_lt, dF_lt, dT_eq, dF_eq, qa_up_hit, qa_up_no, k77, h21, h18, he]
    · rw [if_neg (fun z => he z.2)]
      unfold f_X12_must
      refine qa_fn_eq ?_ (by simp)
      simp (disch := omega) [ev_X12_must_0, ev_X12_must_1, B_X12_must_0, B_X12_must_1, x_const, x_iadd, x_isub, x_imul, x_idiv, x_irem, x_ineg, x_dup, x_dup_x1, x_dup2, x_pop, x_goto, x_ifeq, x_ifne, x_iflt, x_ifge, x_ifgt, x_ifle, x_cmpeq, x_cmpne, x_cmplt, x_cmpge, x_cmpgt, x_cmple, x_null, x_nonnull, x_acmpeq, x_acmpne, x_get, x_put, x_putz, x_ald, x_ast, x_bast, x_zast, x_aast, x_alen, x_obj, x_ret, x_retz, x_vret, x_max, x_min, x_copy, x_i2l, qg_none, qg_inl, qg_inr, qg_ite, xr1, xr0, xrE, xri, xl0, xl1, xl2, xl3, xl4, xl5, xl6, xl7, xl8, xl9, xl10, xs0, xs1, xs2, xs3, xs4, xs5, xs6, xs7, xs8, xs9, xs10, xi0, xi1, xi2, xi3, xi4, xi5, xi6, xi7, xi8, xi9, xi10, xc0, xc1, xc2, xc3, xc4, xc5, xc6, xc7, xv1, xv2, xv3, xv4, xv5, xv6, xv7, dT_le, dF_le, dT_lt, dF_lt, dF_eq, k77, h21, he]
  · rw [if_neg (by omega)]
    unfold f_X12_must
    refine qa_fn_eq ?_ (by simp)
    simp (disch := omega) [ev_X12_must_0, ev_X12_must_1, B_X12_must_0, B_X12_must_1, x_const, x_iadd, x_isub, x_imul, x_idiv, x_irem, x_ineg, x_dup, x_dup_x1, x_dup2, x_pop, x_goto, x_ifeq, x_ifne, x_iflt, x_ifge, x_ifgt, x_ifle, x_cmpeq, x_cmpne, x_cmplt, x_cmpge, x_cmpgt, x_cmple, x_null, x_nonnull, x_acmpeq, x_acmpne, x_get, x_put, x_putz, x_ald, x_ast, x_bast, x_zast, x_aast, x_alen, x_obj, x_ret, x_retz, x_vret, x_max, x_min, x_copy, x_i2l, qg_none, qg_inl, qg_inr, qg_ite, xr1, xr0, xrE, xri, xl0, xl1, xl2, xl3, xl4, xl5, xl6, xl7, xl8, xl9, xl10, xs0, xs1, xs2, xs3, xs4, xs5, xs6, xs7, xs8, xs9, xs10, xi0, xi1, xi2, xi3, xi4, xi5, xi6, xi7, xi8, xi9, xi10, xc0, xc1, xc2, xc3, xc4, xc5, xc6, xc7, xv1, xv2, xv3, xv4, xv5, xv6, xv7, dT_le, dF_le, dT_lt, dF_lt]
theorem m_goesL {m : Int → Int → Int} {kd : Int → Nat × Int} {w : Nat × Nat × Nat} (hK : KM kd) (hR : RM m) {T : Int → Int} {n a : Int} (hT : MTx T n m) (hL : MLx T n a m) (ha : 0 ≤ a ∧ a ≤ n) : f_X12_goesOn [(1, 77)] (m, kd, w) = some (.inl none, (tGx m (tBe T n (tBe T n a)) (tSt T n (tBe T n a)) (trk (tKi T n (tBe T n a))) (tRm T n (tBe T n a)), kd, w)) := by
  have h := tBe_a T ha
  exact m_goesOn hK hR hT hL.1 ⟨h.1, h.2.1⟩
theorem MLx_Gx (T : Int → Int) (n a : Int) (m : Int → Int → Int) : MLx T n a (tGx m (tBe T n a) (tSt T n a) (trk (tKi T n a)) (tRm T n a)) := ⟨tGx_17 _ _ _ _ _, tGx_18 _ _ _ _ _, tGx_19 _ _ _ _ _, tGx_20 _ _ _ _ _⟩
theorem zfp_Gx (m : Int → Int → Int) (b s t v : Int) : zfp m (tGx m b s t v) := ⟨fun c hc => by funext i; exact tGx_no (Or.inl hc), fun i hi => tGx_no (by omega)⟩
theorem zfp_err (m : Int → Int → Int) (e s : Int) : zfp m (qa_up (qa_up m 77 21 e) 77 22 s) := ⟨fun c hc => by funext i; rw [qa_up_no _ (fun z => hc z.1), qa_up_no _ (fun z => hc z.1)], fun i hi => by rw [qa_up_no _ (by omega), qa_up_no _ (by omega)]⟩
theorem MSt_err (T : Int → Int) (n : Int) (m : Int → Int → Int) {e s : Int} (he : e ≠ 0) : MSt T n (e, s) (qa_up (qa_up m 77 21 e) 77 22 s) := ⟨by rw [qa_up_no _ (by omega), qa_up_hit], fun z => absurd z he, fun _ => qa_up_hit _ _ _ _⟩
theorem trk_2 {k : Int} : (trk k = 2 ↔ k = 2) ∧ (trk k = 4 ↔ k = 3) ∧ (trk k = 3 ↔ k = 4) ∧ (trk k = 0 ↔ k = 0) := by
  unfold trk
  refine ⟨⟨?_, ?_⟩, ⟨?_, ?_⟩, ⟨?_, ?_⟩, ⟨?_, ?_⟩⟩
  all_goals
    intro h
    split at * <;> first | omega | (split at * <;> omega)
theorem m_reads2 {m : Int → Int → Int} {kd : Int → Nat × Int} {w : Nat × Nat × Nat} (hK : KM kd) (hR : RM m) {T : Int → Int} {n b x lo hi : Int} (hT : MTx T n m) (h21 : m 77 21 = 0) (h22 : m 77 22 = -1) (hL : MLx T n b m) (hb : 0 ≤ b ∧ b ≤ n) : (tKi T n b ≠ 2 → f_X12_reads2 [(1, 77), (0, x), (0, lo), (0, hi)] (m, kd, w) = some (.inl (some (0, lo)), (qa_up (qa_up m 77 21 1) 77 22 (tSt T n b), kd, w))) ∧ (tKi T n b = 2 → ¬ (lo ≤ x ∧ x ≤ hi) → f_X12_reads2 [(1, 77), (0, x), (0, lo), (0, hi)] (m, kd, w) = some (.inl (some (0, lo)), (qa_up (qa_up m 77 21 2) 77 22 (tSt T n b), kd, w))) ∧ (tKi T n b = 2 → (lo ≤ x ∧ x ≤ hi) → f_X12_reads2 [(1, 77), (0, x), (0, lo), (0, hi)] (m, kd, w) = some (.inl (some (0, x)), (tGx m (tBe T n (tBe T n b)) (tSt T n (tBe T n b)) (trk (tKi T n (tBe T n b))) (tRm T n (tBe T n b)), kd, w))) := by
  have k77 := hK.1
  obtain ⟨l17, l18, l19, l20⟩ := id hL
  have rg := m_in (m := m) (kd := kd) (w := w) x lo hi
  refine ⟨fun h => ?_, fun h h' => ?_, fun h h' => ?_⟩
  · have hk : ¬ trk (tKi T n b) = 2 := fun z => h (trk_2.1.mp z)
    have mu := m_must (w := w) (is := 0) (code := 1) k77 h21 l18 (Or.inl rfl)
    rw [if_pos ⟨rfl, rfl⟩] at mu
    generalize hm1 : qa_up (qa_up m 77 21 1) 77 22 (tSt T n b) = m1 at mu ⊢
    have e1 : m1 77 21 = 1 := by rw [← hm1, qa_up_no _ (by omega), qa_up_hit]
    have e18 : m1 77 18 = tSt T n b := by rw [← hm1, qa_up_no _ (by omega), qa_up_no _ (by omega)]; exact l18
    have mu2 := m_must (w := w) (is := 1) (code := 2) k77 e1 e18 (Or.inr rfl)
    rw [if_neg (by omega)] at mu2
    unfold f_X12_reads2
    refine qa_fn_eq ?_ (by simp)
    simp (disch := omega) [ev_X12_reads2_0, ev_X12_reads2_1, ev_X12_reads2_2, ev_X12_reads2_3, ev_X12_reads2_4, ev_X12_reads2_5, ev_X12_reads2_6, B_X12_reads2_0, B_X12_reads2_1, B_X12_reads2_2, B_X12_reads2_3, B_X12_reads2_4, B_X12_reads2_5, B_X12_reads2_6, x_const, x_iadd, x_isub, x_imul, x_idiv, x_irem, x_ineg, x_dup, x_dup_x1, x_dup2, x_pop, x_goto, x_ifeq, x_ifne, x_iflt, x_ifge, x_ifgt, x_ifle, x_cmpeq, x_cmpne, x_cmplt, x_cmpge, x_cmpgt, x_cmple, x_null, x_nonnull, x_acmpeq, x_acmpne, x_get, x_put, x_putz, x_ald, x_ast, x_bast, x_zast, x_aast, x_alen, x_obj, x_ret, x_retz, x_vret, x_max, x_min, x_copy, x_i2l, qg_none, qg_inl, qg_inr, qg_ite, xr1, xr0, xrE, xri, xl0, xl1, xl2, xl3, xl4, xl5, xl6, xl7, xl8, xl9, xl10, xs0, xs1, xs2, xs3, xs4, xs5, xs6, xs7, xs8, xs9, xs10, xi0, xi1, xi2, xi3, xi4, xi5, xi6, xi7, xi8, xi9, xi10, xc0, xc1, xc2, xc3, xc4, xc5, xc6, xc7, xv1, xv2, xv3, xv4, xv5, xv6, xv7, dT_le, dF_le, dT_lt, dF_lt, dF_eq, k77, l19, hk, mu, e1, mu2]
  · have hk : trk (tKi T n b) = 2 := trk_2.1.mpr h
    have mu := m_must (w := w) (is := 1) (code := 1) k77 h21 l18 (Or.inr rfl)
    rw [if_neg (by omega)] at mu
    rw [if_neg h'] at rg
    have mu2 := m_must (w := w) (is := 0) (code := 2) k77 h21 l18 (Or.inl rfl)
    rw [if_pos ⟨rfl, rfl⟩] at mu2
    generalize hm1 : qa_up (qa_up m 77 21 2) 77 22 (tSt T n b) = m1 at mu2 ⊢
    have e1 : m1 77 21 = 2 := by rw [← hm1, qa_up_no _ (by omega), qa_up_hit]
    unfold f_X12_reads2
    refine qa_fn_eq ?_ (by simp)
    simp (disch := omega) [ev_X12_reads2_0, ev_X12_reads2_1, ev_X12_reads2_2, ev_X12_reads2_3, ev_X12_reads2_4, ev_X12_reads2_5, ev_X12_reads2_6, B_X12_reads2_0, B_X12_reads2_1, B_X12_reads2_2, B_X12_reads2_3, B_X12_reads2_4, B_X12_reads2_5, B_X12_reads2_6, x_const, x_iadd, x_isub, x_imul, x_idiv, x_irem, x_ineg, x_dup, x_dup_x1, x_dup2, x_pop, x_goto, x_ifeq, x_ifne, x_iflt, x_ifge, x_ifgt, x_ifle, x_cmpeq, x_cmpne, x_cmplt, x_cmpge, x_cmpgt, x_cmple, x_null, x_nonnull, x_acmpeq, x_acmpne, x_get, x_put, x_putz, x_ald, x_ast, x_bast, x_zast, x_aast, x_alen, x_obj, x_ret, x_retz, x_vret, x_max, x_min, x_copy, x_i2l, qg_none, qg_inl, qg_inr, qg_ite, xr1, xr0, xrE, xri, xl0, xl1, xl2, xl3, xl4, xl5, xl6, xl7, xl8, xl9, xl10, xs0, xs1, xs2, xs3, xs4, xs5, xs6, xs7, xs8, xs9, xs10, xi0, xi1, xi2, xi3, xi4, xi5, xi6, xi7, xi8, xi9, xi10, xc0, xc1, xc2, xc3, xc4, xc5, xc6, xc7, xv1, xv2, xv3, xv4, xv5, xv6, xv7, dT_le, dF_le, dT_lt, dF_lt, k77, l19, hk, mu, h21, rg, mu2, e1]
  · have hk : trk (tKi T n b) = 2 := trk_2.1.mpr h
    have mu := m_must (w := w) (is := 1) (code := 1) k77 h21 l18 (Or.inr rfl)
    rw [if_neg (by omega)] at mu
    rw [if_pos h'] at rg
    have mu2 := m_must (w := w) (is := 1) (code := 2) k77 h21 l18 (Or.inr rfl)
    rw [if_neg (by omega)] at mu2
    have go := m_goesL (w := w) hK hR hT hL hb
    unfold f_X12_reads2
    refine qa_fn_eq ?_ (by simp)
    simp (disch := omega) [ev_X12_reads2_0, ev_X12_reads2_1, ev_X12_reads2_2, ev_X12_reads2_3, ev_X12_reads2_4, ev_X12_reads2_5, ev_X12_reads2_6, B_X12_reads2_0, B_X12_reads2_1, B_X12_reads2_2, B_X12_reads2_3, B_X12_reads2_4, B_X12_reads2_5, B_X12_reads2_6, x_const, x_iadd, x_isub, x_imul, x_idiv, x_irem, x_ineg, x_dup, x_dup_x1, x_dup2, x_pop, x_goto, x_ifeq, x_ifne, x_iflt, x_ifge, x_ifgt, x_ifle, x_cmpeq, x_cmpne, x_cmplt, x_cmpge, x_cmpgt, x_cmple, x_null, x_nonnull, x_acmpeq, x_acmpne, x_get, x_put, x_putz, x_ald, x_ast, x_bast, x_zast, x_aast, x_alen, x_obj, x_ret, x_retz, x_vret, x_max, x_min, x_copy, x_i2l, qg_none, qg_inl, qg_inr, qg_ite, xr1, xr0, xrE, xri, xl0, xl1, xl2, xl3, xl4, xl5, xl6, xl7, xl8, xl9, xl10, xs0, xs1, xs2, xs3, xs4, xs5, xs6, xs7, xs8, xs9, xs10, xi0, xi1, xi2, xi3, xi4, xi5, xi6, xi7, xi8, xi9, xi10, xc0, xc1, xc2, xc3, xc4, xc5, xc6, xc7, xv1, xv2, xv3, xv4, xv5, xv6, xv7, dT_le, dF_le, dT_lt, dF_lt, k77, l19, hk, mu, h21, rg, mu2, go]
theorem m_reads2e {m : Int → Int → Int} {kd : Int → Nat × Int} {w : Nat × Nat × Nat} {e x lo hi : Int} (k77 : kd 77 = (15, 0)) (h21 : m 77 21 = e) (he : 1 ≤ e ∧ e ≤ 3) : f_X12_reads2 [(1, 77), (0, x), (0, lo), (0, hi)] (m, kd, w) = some (.inl (some (0, lo)), (m, kd, w)) := by
  have mu := fun is code (h : is = 0 ∨ is = 1) => m_must (w := w) (is := is) (code := code) k77 h21 rfl h
  have mu0 := mu 0 1 (Or.inl rfl)
  have mu1 := mu 1 1 (Or.inr rfl)
  have mu2 := mu 1 2 (Or.inr rfl)
  rw [if_neg (by omega)] at mu0 mu1 mu2
  generalize h19 : m 77 19 = t
  by_cases c : t = 2
  · subst c
    unfold f_X12_reads2
    refine qa_fn_eq ?_ (by simp)
    simp (disch := omega) [ev_X12_reads2_0, ev_X12_reads2_1, ev_X12_reads2_2, ev_X12_reads2_3, ev_X12_reads2_4, ev_X12_reads2_5, ev_X12_reads2_6, B_X12_reads2_0, B_X12_reads2_1, B_X12_reads2_2, B_X12_reads2_3, B_X12_reads2_4, B_X12_reads2_5, B_X12_reads2_6, x_const, x_iadd, x_isub, x_imul, x_idiv, x_irem, x_ineg, x_dup, x_dup_x1, x_dup2, x_pop, x_goto, x_ifeq, x_ifne, x_iflt, x_ifge, x_ifgt, x_ifle, x_cmpeq, x_cmpne, x_cmplt, x_cmpge, x_cmpgt, x_cmple, x_null, x_nonnull, x_acmpeq, x_acmpne, x_get, x_put, x_putz, x_ald, x_ast, x_bast, x_zast, x_aast, x_alen, x_obj, x_ret, x_retz, x_vret, x_max, x_min, x_copy, x_i2l, qg_none, qg_inl, qg_inr, qg_ite, xr1, xr0, xrE, xri, xl0, xl1, xl2, xl3, xl4, xl5, xl6, xl7, xl8, xl9, xl10, xs0, xs1, xs2, xs3, xs4, xs5, xs6, xs7, xs8, xs9, xs10, xi0, xi1, xi2, xi3, xi4, xi5, xi6, xi7, xi8, xi9, xi10, xc0, xc1, xc2, xc3, xc4, xc5, xc6, xc7, xv1, xv2, xv3, xv4, xv5, xv6, xv7, dT_le, dF_le, dT_lt, dF_lt, k77, h19, mu1, h21, mu2]
  · unfold f_X12_reads2
    refine qa_fn_eq ?_ (by simp)
    simp (disch := omega) [ev_X12_reads2_0, ev_X12_reads2_1, ev_X12_reads2_2, ev_X12_reads2_3, ev_X12_reads2_4, ev_X12_reads2_5, ev_X12_reads2_6, B_X12_reads2_0, B_X12_reads2_1, B_X12_reads2_2, B_X12_reads2_3, B_X12_reads2_4, B_X12_reads2_5, B_X12_reads2_6, x_const, x_iadd, x_isub, x_imul, x_idiv, x_irem, x_ineg, x_dup, x_dup_x1, x_dup2, x_pop, x_goto, x_ifeq, x_ifne, x_iflt, x_ifge, x_ifgt, x_ifle, x_cmpeq, x_cmpne, x_cmplt, x_cmpge, x_cmpgt, x_cmple, x_null, x_nonnull, x_acmpeq, x_acmpne, x_get, x_put, x_putz, x_ald, x_ast, x_bast, x_zast, x_aast, x_alen, x_obj, x_ret, x_retz, x_vret, x_max, x_min, x_copy, x_i2l, qg_none, qg_inl, qg_inr, qg_ite, xr1, xr0, xrE, xri, xl0, xl1, xl2, xl3, xl4, xl5, xl6, xl7, xl8, xl9, xl10, xs0, xs1, xs2, xs3, xs4, xs5, xs6, xs7, xs8, xs9, xs10, xi0, xi1, xi2, xi3, xi4, xi5, xi6, xi7, xi8, xi9, xi10, xc0, xc1, xc2, xc3, xc4, xc5, xc6, xc7, xv1, xv2, xv3, xv4, xv5, xv6, xv7, dT_le, dF_le, dT_lt, dF_lt, dF_eq, k77, h19, c, mu0, h21, mu2]
theorem m_takes {m : Int → Int → Int} {kd : Int → Nat × Int} {w : Nat × Nat × Nat} (hK : KM kd) (hR : RM m) {T : Int → Int} {n l : Int} {s : Int × Int} (hT : MTx T n m) (hs : MSt T n s m) (ha : s.1 = 0 → 0 ≤ s.2 ∧ s.2 ≤ n) (he : 0 ≤ s.1 ∧ s.1 ≤ 3) (hl : tLt l) (h1 : l ≠ 101) (h2 : l ≠ 118) : ∃ m' v, f_X12_takes [(1, 77), (0, tLo l), (0, tHi l)] (m, kd, w) = some (.inl (some (0, v)), (m', kd, w)) ∧ zfp m m' ∧ MSt T n (tOp T n l s) m' ∧ ((tOp T n l s).1 = 0 → v = tOv T n s.2 l) ∧ (-99 ≤ v ∧ v ≤ 99) := by
  have k77 := hK.1
  have hh : tHi l ≤ 99 := by
    rcases hl with rfl | rfl | rfl | rfl | rfl | rfl | rfl | rfl | rfl <;> decide
  have hlo : 0 ≤ tLo l ∧ tLo l ≤ 1 := by unfold tLo; split <;> decide
  obtain ⟨s1, s2, s3⟩ := id hs
  unfold tOp
  by_cases c0 : s.1 = 0
  · rw [if_neg (fun z => z c0)]
    obtain ⟨hL, h22⟩ := s2 c0
    have ha' := ha c0
    have h21 : m 77 21 = 0 := by rw [s1, c0]
    have en : tNa T n s.2 l = s.2 := if_neg (fun z => h2 z.1)
    have ec : tOc T n s.2 l = if tKi T n s.2 ≠ 2 then 1 else if tNm T n s.2 < tLo l ∨ tHi l < tNm T n s.2 then 2 else 0 := by
      unfold tOc
      rw [if_neg h1, en]
    have ea : tOa T n s.2 l = tBe T n s.2 := by
      unfold tOa
      rw [if_neg h1, en]
    have ev : tOv T n s.2 l = tNm T n s.2 := by
      unfold tOv
      rw [if_neg h1, if_neg (fun z => h2 z.1), en]
    rw [en, ea, ev]
    obtain ⟨r1, r2, r3⟩ := m_reads2 (w := w) (x := tRm T n s.2) (lo := tLo l) (hi := tHi l) hK hR hT h21 h22 hL ha'
    have l20 := hL.2.2.2
    by_cases c1 : tKi T n s.2 ≠ 2
    · rw [if_pos c1] at ec
      rw [ec, if_neg (by decide)]
      have r := r1 c1
      refine ⟨_, tLo l, ?_, zfp_err m 1 (tSt T n s.2), MSt_err T n m (by decide), fun z => absurd z (show ¬ (1 : Int) = 0 by decide), by omega⟩
      unfold f_X12_takes
      refine qa_fn_eq ?_ (by simp)
      simp (disch := omega) [ev_X12_takes_0, B_X12_takes_0, x_const, x_iadd, x_isub, x_imul, x_idiv, x_irem, x_ineg, x_dup, x_dup_x1, x_dup2, x_pop, x_goto, x_ifeq, x_ifne, x_iflt, x_ifge, x_ifgt, x_ifle, x_cmpeq, x_cmpne, x_cmplt, x_cmpge, x_cmpgt, x_cmple, x_null, x_nonnull, x_acmpeq, x_acmpne, x_get, x_put, x_putz, x_ald, x_ast, x_bast, x_zast, x_aast, x_alen, x_obj, x_ret, x_retz, x_vret, x_max, x_min, x_copy, x_i2l, qg_none, qg_inl, qg_inr, qg_ite, xr1, xr0, xrE, xri, xl0, xl1, xl2, xl3, xl4, xl5, xl6, xl7, xl8, xl9, xl10, xs0, xs1, xs2, xs3, xs4, xs5, xs6, xs7, xs8, xs9, xs10, xi0, xi1, xi2, xi3, xi4, xi5, xi6, xi7, xi8, xi9, xi10, xc0, xc1, xc2, xc3, xc4, xc5, xc6, xc7, xv1, xv2, xv3, xv4, xv5, xv6, xv7, dT_le, dF_le, dT_lt, dF_lt, k77, l20, r]
    · rw [if_neg c1] at ec
      have c1' : tKi T n s.2 = 2 := Classical.not_not.mp c1
      obtain ⟨q1, q2, q3, q4⟩ := tNr_le (tNr_a ha' c1') (lo := tLo l) (hi := tHi l) hh
      by_cases c2 : tNm T n s.2 < tLo l ∨ tHi l < tNm T n s.2
      · rw [if_pos c2] at ec
        rw [ec, if_neg (by decide)]
        have r := r2 c1' (fun z => (q1.mp z) c2)
        refine ⟨_, tLo l, ?_, zfp_err m 2 (tSt T n s.2), MSt_err T n m (by decide), fun z => absurd z (show ¬ (2 : Int) = 0 by decide), by omega⟩
        unfold f_X12_takes
        refine qa_fn_eq ?_ (by simp)
        simp (disch := omega) [ev_X12_takes_0, B_X12_takes_0, x_const, x_iadd, x_isub, x_imul, x_idiv, x_irem, x_ineg, x_dup, x_dup_x1, x_dup2, x_pop, x_goto, x_ifeq, x_ifne, x_iflt, x_ifge, x_ifgt, x_ifle, x_cmpeq, x_cmpne, x_cmplt, x_cmpge, x_cmpgt, x_cmple, x_null, x_nonnull, x_acmpeq, x_acmpne, x_get, x_put, x_putz, x_ald, x_ast, x_bast, x_zast, x_aast, x_alen, x_obj, x_ret, x_retz, x_vret, x_max, x_min, x_copy, x_i2l, qg_none, qg_inl, qg_inr, qg_ite, xr1, xr0, xrE, xri, xl0, xl1, xl2, xl3, xl4, xl5, xl6, xl7, xl8, xl9, xl10, xs0, xs1, xs2, xs3, xs4, xs5, xs6, xs7, xs8, xs9, xs10, xi0, xi1, xi2, xi3, xi4, xi5, xi6, xi7, xi8, xi9, xi10, xc0, xc1, xc2, xc3, xc4, xc5, xc6, xc7, xv1, xv2, xv3, xv4, xv5, xv6, xv7, dT_le, dF_le, dT_lt, dF_lt, k77, l20, r]
      · rw [if_neg c2] at ec
        rw [ec, if_pos rfl]
        have r := r3 c1' (q1.mpr c2)
        have hq := q1.mpr c2
        refine ⟨_, tRm T n s.2, ?_, zfp_Gx m _ _ _ _, ⟨?_, fun _ => ⟨MLx_Gx T n _ m, ?_⟩, fun z => absurd rfl z⟩, fun _ => q2 (by omega), by omega⟩
        · unfold f_X12_takes
          refine qa_fn_eq ?_ (by simp)
          simp (disch := omega) [ev_X12_takes_0, B_X12_takes_0, x_const, x_iadd, x_isub, x_imul, x_idiv, x_irem, x_ineg, x_dup, x_dup_x1, x_dup2, x_pop, x_goto, x_ifeq, x_ifne, x_iflt, x_ifge, x_ifgt, x_ifle, x_cmpeq, x_cmpne, x_cmplt, x_cmpge, x_cmpgt, x_cmple, x_null, x_nonnull, x_acmpeq, x_acmpne, x_get, x_put, x_putz, x_ald, x_ast, x_bast, x_zast, x_aast, x_alen, x_obj, x_ret, x_retz, x_vret, x_max, x_min, x_copy, x_i2l, qg_none, qg_inl, qg_inr, qg_ite, xr1, xr0, xrE, xri, xl0, xl1, xl2, xl3, xl4, xl5, xl6, xl7, xl8, xl9, xl10, xs0, xs1, xs2, xs3, xs4, xs5, xs6, xs7, xs8, xs9, xs10, xi0, xi1, xi2, xi3, xi4, xi5, xi6, xi7, xi8, xi9, xi10, xc0, xc1, xc2, xc3, xc4, xc5, xc6, xc7, xv1, xv2, xv3, xv4, xv5, xv6, xv7, dT_le, dF_le, dT_lt, dF_lt, k77, l20, r]
        · rw [tGx_no (by omega)]; exact h21
        · rw [tGx_no (by omega)]; exact h22
  · rw [if_pos c0]
    have r := m_reads2e (w := w) (x := m 77 20) (lo := tLo l) (hi := tHi l) k77 s1 (by omega)
    refine ⟨m, tLo l, ?_, zfp.refl m, hs, fun z => absurd z c0, by omega⟩
    unfold f_X12_takes
    refine qa_fn_eq ?_ (by simp)
    simp (disch := omega) [ev_X12_takes_0, B_X12_takes_0, x_const, x_iadd, x_isub, x_imul, x_idiv, x_irem, x_ineg, x_dup, x_dup_x1, x_dup2, x_pop, x_goto, x_ifeq, x_ifne, x_iflt, x_ifge, x_ifgt, x_ifle, x_cmpeq, x_cmpne, x_cmplt, x_cmpge, x_cmpgt, x_cmple, x_null, x_nonnull, x_acmpeq, x_acmpne, x_get, x_put, x_putz, x_ald, x_ast, x_bast, x_zast, x_aast, x_alen, x_obj, x_ret, x_retz, x_vret, x_max, x_min, x_copy, x_i2l, qg_none, qg_inl, qg_inr, qg_ite, xr1, xr0, xrE, xri, xl0, xl1, xl2, xl3, xl4, xl5, xl6, xl7, xl8, xl9, xl10, xs0, xs1, xs2, xs3, xs4, xs5, xs6, xs7, xs8, xs9, xs10, xi0, xi1, xi2, xi3, xi4, xi5, xi6, xi7, xi8, xi9, xi10, xc0, xc1, xc2, xc3, xc4, xc5, xc6, xc7, xv1, xv2, xv3, xv4, xv5, xv6, xv7, dT_le, dF_le, dT_lt, dF_lt, k77, r]
