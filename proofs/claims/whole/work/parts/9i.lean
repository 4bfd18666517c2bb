theorem trf_b (T : Int → Int) : ∀ (q : Nat) (p r : Int), 0 ≤ r ∧ r ≤ 100009 → (∀ i, p ≤ i → i < p + q → 48 ≤ T i ∧ T i ≤ 57) → 0 ≤ trf T q p r ∧ trf T q p r ≤ 100009 := by
  intro q
  induction q with
  | zero => intro p r h _; exact h
  | succ q ih =>
    intro p r h hd
    have d := hd p (by omega) (by omega)
    simp only [trf]
    refine ih (p + 1) _ ?_ (fun i a b => hd i (by omega) (by omega))
    split <;> omega
theorem tRm_b {T : Int → Int} {n a : Int} (ha : 0 ≤ a ∧ a ≤ n) : 0 ≤ tRm T n a ∧ tRm T n a ≤ 100009 := by
  have hb := tBe_b T ha.2
  unfold tRm
  split
  · rename_i h
    exact trf_b T _ _ 0 (by decide) (fun i h1 h2 => by
      obtain ⟨d1, d2, -⟩ := tDig ha h (p := i) h1 (by omega)
      exact ⟨d1, d2⟩)
  · decide
def tTS (n : Int) (s : Int × Int) : Prop := (s.1 = 0 → 0 ≤ s.2 ∧ s.2 ≤ n) ∧ 0 ≤ s.1 ∧ s.1 ≤ 3
theorem tOc_b (T : Int → Int) (n a l : Int) : 0 ≤ tOc T n a l ∧ tOc T n a l ≤ 2 := by
  unfold tOc
  split
  · decide
  · split
    · decide
    · split <;> decide
theorem tOp_S {T : Int → Int} {n l : Int} {s : Int × Int} (h : tTS n s) : tTS n (tOp T n l s) := by
  have hc := tOc_b T n s.2 l
  unfold tOp
  by_cases c : s.1 = 0
  · rw [if_neg (fun z => z c)]
    by_cases c1 : tOc T n s.2 l = 0
    · rw [if_pos c1]
      have := tOa_a T l (h.1 c)
      exact ⟨fun _ => ⟨this.1, this.2.1⟩, show (0 : Int) ≤ 0 by decide, show (0 : Int) ≤ 3 by decide⟩
    · rw [if_neg c1]
      exact ⟨fun z => absurd z c1, by dsimp only; omega, by dsimp only; omega⟩
  · rw [if_pos c]; exact h
theorem tOp_0 {T : Int → Int} {n l : Int} {s : Int × Int} (h : (tOp T n l s).1 = 0) : s.1 = 0 ∧ tOc T n s.2 l = 0 ∧ tOp T n l s = (0, tOa T n s.2 l) := by
  unfold tOp at h ⊢
  by_cases c : s.1 = 0
  · rw [if_neg (fun z => z c)] at h ⊢
    by_cases c1 : tOc T n s.2 l = 0
    · rw [if_pos c1]; exact ⟨c, c1, rfl⟩
    · rw [if_neg c1] at h; exact absurd h c1
  · rw [if_pos c] at h; exact absurd h c
def tFo (T : Int → Int) (n : Int) (ls : List Int) : Nat → Nat → Int × Int → Int × Int
  | 0, _, s => s
  | q + 1, i, s => tFo T n ls q (i + 1) (tOp T n (ls.getD i 0) s)
theorem m_takesInt {m : Int → Int → Int} {kd : Int → Nat × Int} {w : Nat × Nat × Nat} (hK : KM kd) (hR : RM m) {T : Int → Int} {n : Int} {s : Int × Int} (hT : MTx T n m) (hs : MSt T n s m) (ht : tTS n s) : ∃ m' v, f_X12_takesInt [(1, 77)] (m, kd, w) = some (.inl (some (0, v)), (m', kd, w)) ∧ zfp m m' ∧ MSt T n (tOp T n 118 s) m' ∧ ((tOp T n 118 s).1 = 0 → v = tOv T n s.2 118) ∧ (-99 ≤ v ∧ v ≤ 99) := by
  have k77 := hK.1
  obtain ⟨s1, s2, s3⟩ := id hs
  unfold tOp
  by_cases c0 : s.1 = 0
  · rw [if_neg (fun z => z c0)]
    obtain ⟨hL, h22⟩ := s2 c0
    have ha := ht.1 c0
    have h21 : m 77 21 = 0 := by rw [s1, c0]
    have fin : ∀ (mb : Int → Int → Int) (b sg : Int), RM mb → MTx T n mb → mb 77 21 = 0 → mb 77 22 = -1 → MLx T n b mb → 0 ≤ b ∧ b ≤ n → zfp m mb → tNa T n s.2 118 = b → (sg = 1 ∨ sg = -1) → (sg = -1 ↔ ((118 : Int) = 118 ∧ tKi T n s.2 = 3)) → ∃ m' v, f_X12_reads2 [(1, 77), (0, sg * tRm T n b), (0, -99), (0, 99)] (mb, kd, w) = some (.inl (some (0, v)), (m', kd, w)) ∧ zfp m m' ∧ MSt T n (if tOc T n s.2 118 = 0 then (0, tOa T n s.2 118) else (tOc T n s.2 118, tSt T n (tNa T n s.2 118))) m' ∧ ((if tOc T n s.2 118 = 0 then ((0 : Int), tOa T n s.2 118) else (tOc T n s.2 118, tSt T n (tNa T n s.2 118))).1 = 0 → v = tOv T n s.2 118) ∧ (-99 ≤ v ∧ v ≤ 99) := by
      intro mb b sg hRb hTb b21 b22 hLb hb hf en hsg hsi
      obtain ⟨r1, r2, r3⟩ := m_reads2 (w := w) (x := sg * tRm T n b) (lo := -99) (hi := 99) hK hRb hTb b21 b22 hLb hb
      have ec : tOc T n s.2 118 = if tKi T n b ≠ 2 then 1 else if tNm T n b < 0 ∨ 99 < tNm T n b then 2 else 0 := by
        unfold tOc
        rw [if_neg (by decide), en]
        rfl
      have ea : tOa T n s.2 118 = tBe T n b := by
        unfold tOa
        rw [if_neg (by decide), en]
      have ev : tOv T n s.2 118 = if sg = -1 then -tNm T n b else tNm T n b := by
        unfold tOv
        rw [if_neg (by decide), en]
        by_cases c : sg = -1
        · rw [if_pos c, if_pos (hsi.mp c)]
        · rw [if_neg c, if_neg (fun z => c (hsi.mpr z))]
      rw [en, ea, ev]
      by_cases c1 : tKi T n b ≠ 2
      · rw [if_pos c1] at ec
        rw [ec, if_neg (by decide)]
        exact ⟨_, -99, r1 c1, hf.trans (zfp_err mb 1 (tSt T n b)), MSt_err T n mb (by decide), fun z => absurd z (show ¬ (1 : Int) = 0 by decide), by decide⟩
      · rw [if_neg c1] at ec
        have c1' : tKi T n b = 2 := Classical.not_not.mp c1
        obtain ⟨q1, q2, q3, q4⟩ := tNr_le (tNr_a hb c1') (lo := 0) (hi := 99) (by decide)
        have hx : (-99 ≤ sg * tRm T n b ∧ sg * tRm T n b ≤ 99) ↔ ¬ (tNm T n b < 0 ∨ 99 < tNm T n b) := by
          rw [← q1]
          rcases hsg with rfl | rfl <;> omega
        by_cases c2 : tNm T n b < 0 ∨ 99 < tNm T n b
        · rw [if_pos c2] at ec
          rw [ec, if_neg (by decide)]
          exact ⟨_, -99, r2 c1' (fun z => (hx.mp z) c2), hf.trans (zfp_err mb 2 (tSt T n b)), MSt_err T n mb (by decide), fun z => absurd z (show ¬ (2 : Int) = 0 by decide), by decide⟩
        · rw [if_neg c2] at ec
          rw [ec, if_pos rfl]
          have hq := hx.mpr c2
          refine ⟨_, _, r3 c1' hq, hf.trans (zfp_Gx mb _ _ _ _), ⟨?_, fun _ => ⟨MLx_Gx T n _ mb, ?_⟩, fun z => absurd rfl z⟩, fun _ => ?_, hq⟩
          · rw [tGx_no (by omega)]; exact b21
          · rw [tGx_no (by omega)]; exact b22
          · have := q2 (by omega)
            rcases hsg with rfl | rfl
            · rw [if_neg (by decide)]; omega
            · rw [if_pos rfl]; omega
    obtain ⟨l17, l18, l19, l20⟩ := id hL
    by_cases hm : tKi T n s.2 = 3
    · have en : tNa T n s.2 118 = tBe T n s.2 := if_pos ⟨rfl, hm⟩
      have hb := tBe_a T ha
      have go := m_goesL (w := w) hK hR hT hL ha
      have hrb := tRm_b (T := T) (n := n) (a := tBe T n s.2) ⟨hb.1, hb.2.1⟩
      have zf := zfp_Gx m (tBe T n (tBe T n s.2)) (tSt T n (tBe T n s.2)) (trk (tKi T n (tBe T n s.2))) (tRm T n (tBe T n s.2))
      have e20 := tGx_20 m (tBe T n (tBe T n s.2)) (tSt T n (tBe T n s.2)) (trk (tKi T n (tBe T n s.2))) (tRm T n (tBe T n s.2))
      obtain ⟨m', v, g1, g2⟩ := fin _ (tBe T n s.2) (-1) (zfp_RM zf hR) (zfp_T zf hT) (by rw [tGx_no (by omega)]; exact h21) (by rw [tGx_no (by omega)]; exact h22) (MLx_Gx T n _ m) ⟨hb.1, hb.2.1⟩ zf en (Or.inr rfl) ⟨fun _ => ⟨rfl, hm⟩, fun _ => rfl⟩
      refine ⟨m', v, ?_, g2⟩
      have hk : trk (tKi T n s.2) = 4 := trk_2.2.1.mpr hm
      have e1 : -1 * tRm T n (tBe T n s.2) = -tRm T n (tBe T n s.2) := by omega
      rw [e1] at g1
      unfold f_X12_takesInt
      refine qa_fn_eq ?_ (by simp)
      simp (disch := omega) [ev_X12_takesInt_0, ev_X12_takesInt_1, ev_X12_takesInt_2, ev_X12_takesInt_3, ev_X12_takesInt_4, ev_X12_takesInt_5, B_X12_takesInt_0, B_X12_takesInt_1, B_X12_takesInt_2, B_X12_takesInt_3, B_X12_takesInt_4, B_X12_takesInt_5, x_const, x_iadd, x_isub, x_imul, x_idiv, x_irem, x_ineg, x_dup, x_dup_x1, x_dup2, x_pop, x_goto, x_ifeq, x_ifne, x_iflt, x_ifge, x_ifgt, x_ifle, x_cmpeq, x_cmpne, x_cmplt, x_cmpge, x_cmpgt, x_cmple, x_null, x_nonnull, x_acmpeq, x_acmpne, x_get, x_put, x_putz, x_ald, x_ast, x_bast, x_zast, x_aast, x_alen, x_obj, x_ret, x_retz, x_vret, x_max, x_min, x_copy, x_i2l, qg_none, qg_inl, qg_inr, qg_ite, xr1, xr0, xrE, xri, xl0, xl1, xl2, xl3, xl4, xl5, xl6, xl7, xl8, xl9, xl10, xs0, xs1, xs2, xs3, xs4, xs5, xs6, xs7, xs8, xs9, xs10, xi0, xi1, xi2, xi3, xi4, xi5, xi6, xi7, xi8, xi9, xi10, xc0, xc1, xc2, xc3, xc4, xc5, xc6, xc7, xv1, xv2, xv3, xv4, xv5, xv6, xv7, dT_le, dF_le, dT_lt, dF_lt, k77, h21, l19, hk, go, e20, g1]
    · have en : tNa T n s.2 118 = s.2 := if_neg (fun z => hm z.2)
      obtain ⟨m', v, g1, g2⟩ := fin m s.2 1 hR hT h21 h22 hL ha (zfp.refl m) en (Or.inl rfl) ⟨fun z => absurd z (by decide), fun z => absurd z.2 hm⟩
      refine ⟨m', v, ?_, g2⟩
      have hk : ¬ trk (tKi T n s.2) = 4 := fun z => hm (trk_2.2.1.mp z)
      rw [Int.one_mul] at g1
      unfold f_X12_takesInt
      refine qa_fn_eq ?_ (by simp)
      simp (disch := omega) [ev_X12_takesInt_0, ev_X12_takesInt_1, ev_X12_takesInt_2, ev_X12_takesInt_3, ev_X12_takesInt_4, ev_X12_takesInt_5, B_X12_takesInt_0, B_X12_takesInt_1, B_X12_takesInt_2, B_X12_takesInt_3, B_X12_takesInt_4, B_X12_takesInt_5, x_const, x_iadd, x_isub, x_imul, x_idiv, x_irem, x_ineg, x_dup, x_dup_x1, x_dup2, x_pop, x_goto, x_ifeq, x_ifne, x_iflt, x_ifge, x_ifgt, x_ifle, x_cmpeq, x_cmpne, x_cmplt, x_cmpge, x_cmpgt, x_cmple, x_null, x_nonnull, x_acmpeq, x_acmpne, x_get, x_put, x_putz, x_ald, x_ast, x_bast, x_zast, x_aast, x_alen, x_obj, x_ret, x_retz, x_vret, x_max, x_min, x_copy, x_i2l, qg_none, qg_inl, qg_inr, qg_ite, xr1, xr0, xrE, xri, xl0, xl1, xl2, xl3, xl4, xl5, xl6, xl7, xl8, xl9, xl10, xs0, xs1, xs2, xs3, xs4, xs5, xs6, xs7, xs8, xs9, xs10, xi0, xi1, xi2, xi3, xi4, xi5, xi6, xi7, xi8, xi9, xi10, xc0, xc1, xc2, xc3, xc4, xc5, xc6, xc7, xv1, xv2, xv3, xv4, xv5, xv6, xv7, dT_le, dF_le, dT_lt, dF_lt, dF_eq, k77, h21, l19, hk, l20, g1]
  · rw [if_pos c0]
    have r := m_reads2e (w := w) (x := m 77 20) (lo := -99) (hi := 99) k77 s1 (by have := ht.2; omega)
    refine ⟨m, -99, ?_, zfp.refl m, hs, fun z => absurd z c0, by decide⟩
    unfold f_X12_takesInt
    refine qa_fn_eq ?_ (by simp)
    simp (disch := omega) [ev_X12_takesInt_0, ev_X12_takesInt_1, ev_X12_takesInt_2, ev_X12_takesInt_3, ev_X12_takesInt_4, ev_X12_takesInt_5, B_X12_takesInt_0, B_X12_takesInt_1, B_X12_takesInt_2, B_X12_takesInt_3, B_X12_takesInt_4, B_X12_takesInt_5, x_const, x_iadd, x_isub, x_imul, x_idiv, x_irem, x_ineg, x_dup, x_dup_x1, x_dup2, x_pop, x_goto, x_ifeq, x_ifne, x_iflt, x_ifge, x_ifgt, x_ifle, x_cmpeq, x_cmpne, x_cmplt, x_cmpge, x_cmpgt, x_cmple, x_null, x_nonnull, x_acmpeq, x_acmpne, x_get, x_put, x_putz, x_ald, x_ast, x_bast, x_zast, x_aast, x_alen, x_obj, x_ret, x_retz, x_vret, x_max, x_min, x_copy, x_i2l, qg_none, qg_inl, qg_inr, qg_ite, xr1, xr0, xrE, xri, xl0, xl1, xl2, xl3, xl4, xl5, xl6, xl7, xl8, xl9, xl10, xs0, xs1, xs2, xs3, xs4, xs5, xs6, xs7, xs8, xs9, xs10, xi0, xi1, xi2, xi3, xi4, xi5, xi6, xi7, xi8, xi9, xi10, xc0, xc1, xc2, xc3, xc4, xc5, xc6, xc7, xv1, xv2, xv3, xv4, xv5, xv6, xv7, dT_le, dF_le, dT_lt, dF_lt, dF_eq, k77, s1, c0, r]
theorem m_stage {T : Int → Int} {n p v : Int} {s : Int × Int} {m m1 : Int → Int → Int} (hR : RM m) (hT : MTx T n m) (hW : MWo m) (hf : zfp m m1) (hs : MSt T n s m1) : RM (qa_up m1 89 p v) ∧ MTx T n (qa_up m1 89 p v) ∧ MWo (qa_up m1 89 p v) ∧ MSt T n s (qa_up m1 89 p v) ∧ (∀ c, c ≠ 77 → c ≠ 89 → qa_up m1 89 p v c = m c) ∧ (∀ i, (i < 17 ∨ 22 < i) → qa_up m1 89 p v 77 i = m 77 i) ∧ ∀ i, qa_up m1 89 p v 89 i = if i = p then v else m 89 i := by
  have n77 : ∀ i, qa_up m1 89 p v 77 i = m1 77 i := fun i => qa_up_no _ (by omega)
  have nc : ∀ c, c ≠ 89 → qa_up m1 89 p v c = m1 c := fun c hc => by funext i; exact qa_up_no _ (fun z => hc z.1)
  refine ⟨RM_17 (zfp_RM hf hR) (fun i _ => n77 i), MTx_77 (zfp_T hf hT) (n77 16) (nc 87 (by decide)), fun i a b => by rw [nc 88 (by decide)]; exact zfp_W hf hW i a b, MSt_o hs (fun i _ _ => n77 i), fun c c1 c2 => by rw [nc c c2, hf.1 c c1], fun i hi => by rw [n77, hf.2 i hi], fun i => ?_⟩
  by_cases e : i = p
  · rw [if_pos e, e, qa_up_hit]
  · rw [if_neg e, qa_up_no _ (fun z => e z.2), hf.1 89 (by decide)]
def mRst (T : Int → Int) (n v its a : Int) (m : Int → Int → Int) (kd : Int → Nat × Int) (w : Nat × Nat × Nat) (res : Option qR) : Prop := ∃ m', res = some (.inl none, (m', kd, w)) ∧ (∀ c, c ≠ 77 → c ≠ 89 → m' c = m c) ∧ (∀ i, (i < 17 ∨ 22 < i) → m' 77 i = m 77 i) ∧ MSt T n (tFo T n (tLe v) (tLe v).length 0 (0, a)) m' ∧ (∀ j, j < its + 1 → m' 89 j = m 89 j) ∧ ((tFo T n (tLe v) (tLe v).length 0 (0, a)).1 = 0 → ∀ j : Nat, j < (tLe v).length → m' 89 (its + 1 + j) = tOv T n (tAk T n (tLe v) a j) ((tLe v).getD j 0))
theorem m_readRest0 {m : Int → Int → Int} {kd : Int → Nat × Int} {w : Nat × Nat × Nat} (hK : KM kd) (hR : RM m) {T : Int → Int} {n its a : Int} (hT : MTx T n m) (hW : MWo m) (hs : MSt T n (0, a) m) (ha : 0 ≤ a ∧ a ≤ n) (hi : 0 ≤ its ∧ its ≤ 295) : mRst T n 0 its a m kd w (f_X12_readRest [(1, 77), (0, its), (0, 0)] (m, kd, w)) := by
  have k77 := hK.1
  have k89 := hK.2.2.2.2.2.2.2.2.2.2.2.2.1
  have t0 : tTS n (0, a) := ⟨fun _ => ha, show (0 : Int) ≤ 0 by decide, show (0 : Int) ≤ 3 by decide⟩
  obtain ⟨mp1, v0, g0, f0, x0, y0, z0⟩ := m_takes (w := w) (l := 98) hK hR hT hs t0.1 t0.2 (by unfold tLt; decide) (by decide) (by decide)
  simp only [show tLo 98 = 0 from rfl, show tHi 98 = 3 from rfl] at g0
  have t1 := tOp_S (T := T) (l := 98) t0
  have r25_0 : m 77 25 = 89 := hR.2.2.2.2.2.2.2.2.2.2.2.1
  obtain ⟨hR1, hT1, hW1, hs1, o1, p1, c1⟩ := m_stage (p := its + 1) (v := v0) hR hT hW f0 x0
  generalize hq1 : qa_up mp1 89 (its + 1) v0 = mq1 at hR1 hT1 hW1 hs1 o1 p1 c1
  obtain ⟨mp2, v1, g1, f1, x1, y1, z1⟩ := m_takes (w := w) (l := 107) hK hR1 hT1 hs1 t1.1 t1.2 (by unfold tLt; decide) (by decide) (by decide)
  simp only [show tLo 107 = 0 from rfl, show tHi 107 = 9 from rfl] at g1
  have t2 := tOp_S (T := T) (l := 107) t1
  have r25_1 : mq1 77 25 = 89 := hR1.2.2.2.2.2.2.2.2.2.2.2.1
  obtain ⟨hR2, hT2, hW2, hs2, o2, p2, c2⟩ := m_stage (p := its + 2) (v := v1) hR1 hT1 hW1 f1 x1
  generalize hq2 : qa_up mp2 89 (its + 2) v1 = mq2 at hR2 hT2 hW2 hs2 o2 p2 c2
  obtain ⟨mp3, v2, g2, f2, x2, y2, z2⟩ := m_takes (w := w) (l := 115) hK hR2 hT2 hs2 t2.1 t2.2 (by unfold tLt; decide) (by decide) (by decide)
  simp only [show tLo 115 = 1 from rfl, show tHi 115 = 9 from rfl] at g2
  have t3 := tOp_S (T := T) (l := 115) t2
  have r25_2 : mq2 77 25 = 89 := hR2.2.2.2.2.2.2.2.2.2.2.2.1
  obtain ⟨hR3, hT3, hW3, hs3, o3, p3, c3⟩ := m_stage (p := its + 3) (v := v2) hR2 hT2 hW2 f2 x2
  generalize hq3 : qa_up mp3 89 (its + 3) v2 = mq3 at hR3 hT3 hW3 hs3 o3 p3 c3
  obtain ⟨mp4, v3, g3, f3, x3, y3, z3⟩ := m_takesInt (w := w) hK hR3 hT3 hs3 t3
  have t4 := tOp_S (T := T) (l := 118) t3
  have r25_3 : mq3 77 25 = 89 := hR3.2.2.2.2.2.2.2.2.2.2.2.1
  obtain ⟨hR4, hT4, hW4, hs4, o4, p4, c4⟩ := m_stage (p := its + 4) (v := v3) hR3 hT3 hW3 f3 x3
  generalize hq4 : qa_up mp4 89 (its + 4) v3 = mq4 at hR4 hT4 hW4 hs4 o4 p4 c4
  refine ⟨mq4, ?_, fun c c1 c2 => by rw [o4 c c1 c2, o3 c c1 c2, o2 c c1 c2, o1 c c1 c2], fun i hi => by rw [p4 i hi, p3 i hi, p2 i hi, p1 i hi], hs4, fun j hj => by rw [c4, if_neg (by omega), c3, if_neg (by omega), c2, if_neg (by omega), c1, if_neg (by omega)], fun hz => ?_⟩
  · unfold f_X12_readRest
    refine qa_fn_eq ?_ (by simp)
    simp (disch := omega) [ev_X12_readRest_0, ev_X12_readRest_1, ev_X12_readRest_2, ev_X12_readRest_3, ev_X12_readRest_4, ev_X12_readRest_5, ev_X12_readRest_6, ev_X12_readRest_7, ev_X12_readRest_8, ev_X12_readRest_9, ev_X12_readRest_10, ev_X12_readRest_11, ev_X12_readRest_12, ev_X12_readRest_13, ev_X12_readRest_14, B_X12_readRest_0, B_X12_readRest_1, B_X12_readRest_2, B_X12_readRest_3, B_X12_readRest_4, B_X12_readRest_5, B_X12_readRest_6, B_X12_readRest_7, B_X12_readRest_8, B_X12_readRest_9, B_X12_readRest_10, B_X12_readRest_11, B_X12_readRest_12, B_X12_readRest_13, B_X12_readRest_14, x_const, x_iadd, x_isub, x_imul, x_idiv, x_irem, x_ineg, x_dup, x_dup_x1, x_dup2, x_pop, x_goto, x_ifeq, x_ifne, x_iflt, x_ifge, x_ifgt, x_ifle, x_cmpeq, x_cmpne, x_cmplt, x_cmpge, x_cmpgt, x_cmple, x_null, x_nonnull, x_acmpeq, x_acmpne, x_get, x_put, x_putz, x_ald, x_ast, x_bast, x_zast, x_aast, x_alen, x_obj, x_ret, x_retz, x_vret, x_max, x_min, x_copy, x_i2l, qg_none, qg_inl, qg_inr, qg_ite, xr1, xr0, xrE, xri, xl0, xl1, xl2, xl3, xl4, xl5, xl6, xl7, xl8, xl9, xl10, xs0, xs1, xs2, xs3, xs4, xs5, xs6, xs7, xs8, xs9, xs10, xi0, xi1, xi2, xi3, xi4, xi5, xi6, xi7, xi8, xi9, xi10, xc0, xc1, xc2, xc3, xc4, xc5, xc6, xc7, xv1, xv2, xv3, xv4, xv5, xv6, xv7, dT_le, dF_le, dT_lt, dF_lt, dF_eq, x_switch, zsw, k77, k89, r25_0, g0, hq1, r25_1, g1, hq2, r25_2, g2, hq3, r25_3, g3, hq4]
  · intro j hj
    have hz : (tOp T n 118 (tOp T n 115 (tOp T n 107 (tOp T n 98 ((0 : Int), a))))).1 = 0 := hz
    obtain ⟨e3, -, q3⟩ := tOp_0 hz
    obtain ⟨e2, -, q2⟩ := tOp_0 e3
    obtain ⟨e1, -, q1⟩ := tOp_0 e2
    obtain ⟨e0, -, q0⟩ := tOp_0 e1
    have w0 := y0 e1
    have w1 := y1 e2
    have w2 := y2 e3
    have w3 := y3 hz
    rw [q0] at w1
    rw [q1, q0] at w2
    rw [q2, q1, q0] at w3
    have hj2 : j = 0 ∨ j = 1 ∨ j = 2 ∨ j = 3 := by have : (tLe 0).length = 4 := rfl; omega
    rcases hj2 with rfl | rfl | rfl | rfl
    · rw [c4, if_neg (by omega), c3, if_neg (by omega), c2, if_neg (by omega), c1, if_pos (by omega)]; exact w0
    · rw [c4, if_neg (by omega), c3, if_neg (by omega), c2, if_pos (by omega)]; exact w1
    · rw [c4, if_neg (by omega), c3, if_pos (by omega)]; exact w2
    · rw [c4, if_pos (by omega)]; exact w3
theorem m_readRest2 {m : Int → Int → Int} {kd : Int → Nat × Int} {w : Nat × Nat × Nat} (hK : KM kd) (hR : RM m) {T : Int → Int} {n its a : Int} (hT : MTx T n m) (hW : MWo m) (hs : MSt T n (0, a) m) (ha : 0 ≤ a ∧ a ≤ n) (hi : 0 ≤ its ∧ its ≤ 295) : mRst T n 2 its a m kd w (f_X12_readRest [(1, 77), (0, its), (0, 2)] (m, kd, w)) := by
  have k77 := hK.1
  have k89 := hK.2.2.2.2.2.2.2.2.2.2.2.2.1
  have t0 : tTS n (0, a) := ⟨fun _ => ha, show (0 : Int) ≤ 0 by decide, show (0 : Int) ≤ 3 by decide⟩
  obtain ⟨mp1, v0, g0, f0, x0, y0, z0⟩ := m_takes (w := w) (l := 114) hK hR hT hs t0.1 t0.2 (by unfold tLt; decide) (by decide) (by decide)
  simp only [show tLo 114 = 0 from rfl, show tHi 114 = 5 from rfl] at g0
  have t1 := tOp_S (T := T) (l := 114) t0
  have r25_0 : m 77 25 = 89 := hR.2.2.2.2.2.2.2.2.2.2.2.1
  obtain ⟨hR1, hT1, hW1, hs1, o1, p1, c1⟩ := m_stage (p := its + 1) (v := v0) hR hT hW f0 x0
  generalize hq1 : qa_up mp1 89 (its + 1) v0 = mq1 at hR1 hT1 hW1 hs1 o1 p1 c1
  obtain ⟨mp2, v1, g1, f1, x1, y1, z1⟩ := m_takes (w := w) (l := 105) hK hR1 hT1 hs1 t1.1 t1.2 (by unfold tLt; decide) (by decide) (by decide)
  simp only [show tLo 105 = 1 from rfl, show tHi 105 = 99 from rfl] at g1
  have t2 := tOp_S (T := T) (l := 105) t1
  have r25_1 : mq1 77 25 = 89 := hR1.2.2.2.2.2.2.2.2.2.2.2.1
  obtain ⟨hR2, hT2, hW2, hs2, o2, p2, c2⟩ := m_stage (p := its + 2) (v := v1) hR1 hT1 hW1 f1 x1
  generalize hq2 : qa_up mp2 89 (its + 2) v1 = mq2 at hR2 hT2 hW2 hs2 o2 p2 c2
  refine ⟨mq2, ?_, fun c c1 c2 => by rw [o2 c c1 c2, o1 c c1 c2], fun i hi => by rw [p2 i hi, p1 i hi], hs2, fun j hj => by rw [c2, if_neg (by omega), c1, if_neg (by omega)], fun hz => ?_⟩
  · unfold f_X12_readRest
    refine qa_fn_eq ?_ (by simp)
    simp (disch := omega) [ev_X12_readRest_0, ev_X12_readRest_1, ev_X12_readRest_2, ev_X12_readRest_3, ev_X12_readRest_4, ev_X12_readRest_5, ev_X12_readRest_6, ev_X12_readRest_7, ev_X12_readRest_8, ev_X12_readRest_9, ev_X12_readRest_10, ev_X12_readRest_11, ev_X12_readRest_12, ev_X12_readRest_13, ev_X12_readRest_14, B_X12_readRest_0, B_X12_readRest_1, B_X12_readRest_2, B_X12_readRest_3, B_X12_readRest_4, B_X12_readRest_5, B_X12_readRest_6, B_X12_readRest_7, B_X12_readRest_8, B_X12_readRest_9, B_X12_readRest_10, B_X12_readRest_11, B_X12_readRest_12, B_X12_readRest_13, B_X12_readRest_14, x_const, x_iadd, x_isub, x_imul, x_idiv, x_irem, x_ineg, x_dup, x_dup_x1, x_dup2, x_pop, x_goto, x_ifeq, x_ifne, x_iflt, x_ifge, x_ifgt, x_ifle, x_cmpeq, x_cmpne, x_cmplt, x_cmpge, x_cmpgt, x_cmple, x_null, x_nonnull, x_acmpeq, x_acmpne, x_get, x_put, x_putz, x_ald, x_ast, x_bast, x_zast, x_aast, x_alen, x_obj, x_ret, x_retz, x_vret, x_max, x_min, x_copy, x_i2l, qg_none, qg_inl, qg_inr, qg_ite, xr1, xr0, xrE, xri, xl0, xl1, xl2, xl3, xl4, xl5, xl6, xl7, xl8, xl9, xl10, xs0, xs1, xs2, xs3, xs4, xs5, xs6, xs7, xs8, xs9, xs10, xi0, xi1, xi2, xi3, xi4, xi5, xi6, xi7, xi8, xi9, xi10, xc0, xc1, xc2, xc3, xc4, xc5, xc6, xc7, xv1, xv2, xv3, xv4, xv5, xv6, xv7, dT_le, dF_le, dT_lt, dF_lt, dF_eq, x_switch, zsw, k77, k89, r25_0, g0, hq1, r25_1, g1, hq2]
  · intro j hj
    have hz : (tOp T n 105 (tOp T n 114 ((0 : Int), a))).1 = 0 := hz
    obtain ⟨e1, -, q1⟩ := tOp_0 hz
    obtain ⟨e0, -, q0⟩ := tOp_0 e1
    have w0 := y0 e1
    have w1 := y1 hz
    rw [q0] at w1
    have hj2 : j = 0 ∨ j = 1 := by have : (tLe 2).length = 2 := rfl; omega
    rcases hj2 with rfl | rfl
    · rw [c2, if_neg (by omega), c1, if_pos (by omega)]; exact w0
    · rw [c2, if_pos (by omega)]; exact w1
theorem m_readRest3 {m : Int → Int → Int} {kd : Int → Nat × Int} {w : Nat × Nat × Nat} (hK : KM kd) (hR : RM m) {T : Int → Int} {n its a : Int} (hT : MTx T n m) (hW : MWo m) (hs : MSt T n (0, a) m) (ha : 0 ≤ a ∧ a ≤ n) (hi : 0 ≤ its ∧ its ≤ 295) : mRst T n 3 its a m kd w (f_X12_readRest [(1, 77), (0, its), (0, 3)] (m, kd, w)) := by
  have k77 := hK.1
  have k89 := hK.2.2.2.2.2.2.2.2.2.2.2.2.1
  have t0 : tTS n (0, a) := ⟨fun _ => ha, show (0 : Int) ≤ 0 by decide, show (0 : Int) ≤ 3 by decide⟩
  obtain ⟨mp1, v0, g0, f0, x0, y0, z0⟩ := m_takes (w := w) (l := 114) hK hR hT hs t0.1 t0.2 (by unfold tLt; decide) (by decide) (by decide)
  simp only [show tLo 114 = 0 from rfl, show tHi 114 = 5 from rfl] at g0
  have t1 := tOp_S (T := T) (l := 114) t0
  have r25_0 : m 77 25 = 89 := hR.2.2.2.2.2.2.2.2.2.2.2.1
  obtain ⟨hR1, hT1, hW1, hs1, o1, p1, c1⟩ := m_stage (p := its + 1) (v := v0) hR hT hW f0 x0
  generalize hq1 : qa_up mp1 89 (its + 1) v0 = mq1 at hR1 hT1 hW1 hs1 o1 p1 c1
  obtain ⟨mp2, v1, g1, f1, x1, y1, z1⟩ := m_takes (w := w) (l := 116) hK hR1 hT1 hs1 t1.1 t1.2 (by unfold tLt; decide) (by decide) (by decide)
  simp only [show tLo 116 = 1 from rfl, show tHi 116 = 60 from rfl] at g1
  have t2 := tOp_S (T := T) (l := 116) t1
  have r25_1 : mq1 77 25 = 89 := hR1.2.2.2.2.2.2.2.2.2.2.2.1
  obtain ⟨hR2, hT2, hW2, hs2, o2, p2, c2⟩ := m_stage (p := its + 2) (v := v1) hR1 hT1 hW1 f1 x1
  generalize hq2 : qa_up mp2 89 (its + 2) v1 = mq2 at hR2 hT2 hW2 hs2 o2 p2 c2
  refine ⟨mq2, ?_, fun c c1 c2 => by rw [o2 c c1 c2, o1 c c1 c2], fun i hi => by rw [p2 i hi, p1 i hi], hs2, fun j hj => by rw [c2, if_neg (by omega), c1, if_neg (by omega)], fun hz => ?_⟩
  · unfold f_X12_readRest
    refine qa_fn_eq ?_ (by simp)
    simp (disch := omega) [ev_X12_readRest_0, ev_X12_readRest_1, ev_X12_readRest_2, ev_X12_readRest_3, ev_X12_readRest_4, ev_X12_readRest_5, ev_X12_readRest_6, ev_X12_readRest_7, ev_X12_readRest_8, ev_X12_readRest_9, ev_X12_readRest_10, ev_X12_readRest_11, ev_X12_readRest_12, ev_X12_readRest_13, ev_X12_readRest_14, B_X12_readRest_0, B_X12_readRest_1, B_X12_readRest_2, B_X12_readRest_3, B_X12_readRest_4, B_X12_readRest_5, B_X12_readRest_6, B_X12_readRest_7, B_X12_readRest_8, B_X12_readRest_9, B_X12_readRest_10, B_X12_readRest_11, B_X12_readRest_12, B_X12_readRest_13, B_X12_readRest_14, x_const, x_iadd, x_isub, x_imul, x_idiv, x_irem, x_ineg, x_dup, x_dup_x1, x_dup2, x_pop, x_goto, x_ifeq, x_ifne, x_iflt, x_ifge, x_ifgt, x_ifle, x_cmpeq, x_cmpne, x_cmplt, x_cmpge, x_cmpgt, x_cmple, x_null, x_nonnull, x_acmpeq, x_acmpne, x_get, x_put, x_putz, x_ald, x_ast, x_bast, x_zast, x_aast, x_alen, x_obj, x_ret, x_retz, x_vret, x_max, x_min, x_copy, x_i2l, qg_none, qg_inl, qg_inr, qg_ite, xr1, xr0, xrE, xri, xl0, xl1, xl2, xl3, xl4, xl5, xl6, xl7, xl8, xl9, xl10, xs0, xs1, xs2, xs3, xs4, xs5, xs6, xs7, xs8, xs9, xs10, xi0, xi1, xi2, xi3, xi4, xi5, xi6, xi7, xi8, xi9, xi10, xc0, xc1, xc2, xc3, xc4, xc5, xc6, xc7, xv1, xv2, xv3, xv4, xv5, xv6, xv7, dT_le, dF_le, dT_lt, dF_lt, dF_eq, x_switch, zsw, k77, k89, r25_0, g0, hq1, r25_1, g1, hq2]
  · intro j hj
    have hz : (tOp T n 116 (tOp T n 114 ((0 : Int), a))).1 = 0 := hz
    obtain ⟨e1, -, q1⟩ := tOp_0 hz
    obtain ⟨e0, -, q0⟩ := tOp_0 e1
    have w0 := y0 e1
    have w1 := y1 hz
    rw [q0] at w1
    have hj2 : j = 0 ∨ j = 1 := by have : (tLe 3).length = 2 := rfl; omega
    rcases hj2 with rfl | rfl
    · rw [c2, if_neg (by omega), c1, if_pos (by omega)]; exact w0
    · rw [c2, if_pos (by omega)]; exact w1
theorem m_readRest4 {m : Int → Int → Int} {kd : Int → Nat × Int} {w : Nat × Nat × Nat} (hK : KM kd) (hR : RM m) {T : Int → Int} {n its a : Int} (hT : MTx T n m) (hW : MWo m) (hs : MSt T n (0, a) m) (ha : 0 ≤ a ∧ a ≤ n) (hi : 0 ≤ its ∧ its ≤ 295) : mRst T n 4 its a m kd w (f_X12_readRest [(1, 77), (0, its), (0, 4)] (m, kd, w)) := by
  have k77 := hK.1
  have k89 := hK.2.2.2.2.2.2.2.2.2.2.2.2.1
  have t0 : tTS n (0, a) := ⟨fun _ => ha, show (0 : Int) ≤ 0 by decide, show (0 : Int) ≤ 3 by decide⟩
  obtain ⟨mp1, v0, g0, f0, x0, y0, z0⟩ := m_takes (w := w) (l := 114) hK hR hT hs t0.1 t0.2 (by unfold tLt; decide) (by decide) (by decide)
  simp only [show tLo 114 = 0 from rfl, show tHi 114 = 5 from rfl] at g0
  have t1 := tOp_S (T := T) (l := 114) t0
  have r25_0 : m 77 25 = 89 := hR.2.2.2.2.2.2.2.2.2.2.2.1
  obtain ⟨hR1, hT1, hW1, hs1, o1, p1, c1⟩ := m_stage (p := its + 1) (v := v0) hR hT hW f0 x0
  generalize hq1 : qa_up mp1 89 (its + 1) v0 = mq1 at hR1 hT1 hW1 hs1 o1 p1 c1
  obtain ⟨mp2, v1, g1, f1, x1, y1, z1⟩ := m_takes (w := w) (l := 98) hK hR1 hT1 hs1 t1.1 t1.2 (by unfold tLt; decide) (by decide) (by decide)
  simp only [show tLo 98 = 0 from rfl, show tHi 98 = 3 from rfl] at g1
  have t2 := tOp_S (T := T) (l := 98) t1
  have r25_1 : mq1 77 25 = 89 := hR1.2.2.2.2.2.2.2.2.2.2.2.1
  obtain ⟨hR2, hT2, hW2, hs2, o2, p2, c2⟩ := m_stage (p := its + 2) (v := v1) hR1 hT1 hW1 f1 x1
  generalize hq2 : qa_up mp2 89 (its + 2) v1 = mq2 at hR2 hT2 hW2 hs2 o2 p2 c2
  refine ⟨mq2, ?_, fun c c1 c2 => by rw [o2 c c1 c2, o1 c c1 c2], fun i hi => by rw [p2 i hi, p1 i hi], hs2, fun j hj => by rw [c2, if_neg (by omega), c1, if_neg (by omega)], fun hz => ?_⟩
  · unfold f_X12_readRest
    refine qa_fn_eq ?_ (by simp)
    simp (disch := omega) [ev_X12_readRest_0, ev_X12_readRest_1, ev_X12_readRest_2, ev_X12_readRest_3, ev_X12_readRest_4, ev_X12_readRest_5, ev_X12_readRest_6, ev_X12_readRest_7, ev_X12_readRest_8, ev_X12_readRest_9, ev_X12_readRest_10, ev_X12_readRest_11, ev_X12_readRest_12, ev_X12_readRest_13, ev_X12_readRest_14, B_X12_readRest_0, B_X12_readRest_1, B_X12_readRest_2, B_X12_readRest_3, B_X12_readRest_4, B_X12_readRest_5, B_X12_readRest_6, B_X12_readRest_7, B_X12_readRest_8, B_X12_readRest_9, B_X12_readRest_10, B_X12_readRest_11, B_X12_readRest_12, B_X12_readRest_13, B_X12_readRest_14, x_const, x_iadd, x_isub, x_imul, x_idiv, x_irem, x_ineg, x_dup, x_dup_x1, x_dup2, x_pop, x_goto, x_ifeq, x_ifne, x_iflt, x_ifge, x_ifgt, x_ifle, x_cmpeq, x_cmpne, x_cmplt, x_cmpge, x_cmpgt, x_cmple, x_null, x_nonnull, x_acmpeq, x_acmpne, x_get, x_put, x_putz, x_ald, x_ast, x_bast, x_zast, x_aast, x_alen, x_obj, x_ret, x_retz, x_vret, x_max, x_min, x_copy, x_i2l, qg_none, qg_inl, qg_inr, qg_ite, xr1, xr0, xrE, xri, xl0, xl1, xl2, xl3, xl4, xl5, xl6, xl7, xl8, xl9, xl10, xs0, xs1, xs2, xs3, xs4, xs5, xs6, xs7, xs8, xs9, xs10, xi0, xi1, xi2, xi3, xi4, xi5, xi6, xi7, xi8, xi9, xi10, xc0, xc1, xc2, xc3, xc4, xc5, xc6, xc7, xv1, xv2, xv3, xv4, xv5, xv6, xv7, dT_le, dF_le, dT_lt, dF_lt, dF_eq, x_switch, zsw, k77, k89, r25_0, g0, hq1, r25_1, g1, hq2]
  · intro j hj
    have hz : (tOp T n 98 (tOp T n 114 ((0 : Int), a))).1 = 0 := hz
    obtain ⟨e1, -, q1⟩ := tOp_0 hz
    obtain ⟨e0, -, q0⟩ := tOp_0 e1
    have w0 := y0 e1
    have w1 := y1 hz
    rw [q0] at w1
    have hj2 : j = 0 ∨ j = 1 := by have : (tLe 4).length = 2 := rfl; omega
    rcases hj2 with rfl | rfl
    · rw [c2, if_neg (by omega), c1, if_pos (by omega)]; exact w0
    · rw [c2, if_pos (by omega)]; exact w1
theorem m_readRest5 {m : Int → Int → Int} {kd : Int → Nat × Int} {w : Nat × Nat × Nat} (hK : KM kd) (hR : RM m) {T : Int → Int} {n its a : Int} (hT : MTx T n m) (hW : MWo m) (hs : MSt T n (0, a) m) (ha : 0 ≤ a ∧ a ≤ n) (hi : 0 ≤ its ∧ its ≤ 295) : mRst T n 5 its a m kd w (f_X12_readRest [(1, 77), (0, its), (0, 5)] (m, kd, w)) := by
  have k77 := hK.1
  have k89 := hK.2.2.2.2.2.2.2.2.2.2.2.2.1
  have t0 : tTS n (0, a) := ⟨fun _ => ha, show (0 : Int) ≤ 0 by decide, show (0 : Int) ≤ 3 by decide⟩
  obtain ⟨mp1, v0, g0, f0, x0, y0, z0⟩ := m_takes (w := w) (l := 114) hK hR hT hs t0.1 t0.2 (by unfold tLt; decide) (by decide) (by decide)
  simp only [show tLo 114 = 0 from rfl, show tHi 114 = 5 from rfl] at g0
  have t1 := tOp_S (T := T) (l := 114) t0
  have r25_0 : m 77 25 = 89 := hR.2.2.2.2.2.2.2.2.2.2.2.1
  obtain ⟨hR1, hT1, hW1, hs1, o1, p1, c1⟩ := m_stage (p := its + 1) (v := v0) hR hT hW f0 x0
  generalize hq1 : qa_up mp1 89 (its + 1) v0 = mq1 at hR1 hT1 hW1 hs1 o1 p1 c1
  refine ⟨mq1, ?_, fun c c1 c2 => by rw [o1 c c1 c2], fun i hi => by rw [p1 i hi], hs1, fun j hj => by rw [c1, if_neg (by omega)], fun hz => ?_⟩
  · unfold f_X12_readRest
    refine qa_fn_eq ?_ (by simp)
    simp (disch := omega) [ev_X12_readRest_0, ev_X12_readRest_1, ev_X12_readRest_2, ev_X12_readRest_3, ev_X12_readRest_4, ev_X12_readRest_5, ev_X12_readRest_6, ev_X12_readRest_7, ev_X12_readRest_8, ev_X12_readRest_9, ev_X12_readRest_10, ev_X12_readRest_11, ev_X12_readRest_12, ev_X12_readRest_13, ev_X12_readRest_14, B_X12_readRest_0, B_X12_readRest_1, B_X12_readRest_2, B_X12_readRest_3, B_X12_readRest_4, B_X12_readRest_5, B_X12_readRest_6, B_X12_readRest_7, B_X12_readRest_8, B_X12_readRest_9, B_X12_readRest_10, B_X12_readRest_11, B_X12_readRest_12, B_X12_readRest_13, B_X12_readRest_14, x_const, x_iadd, x_isub, x_imul, x_idiv, x_irem, x_ineg, x_dup, x_dup_x1, x_dup2, x_pop, x_goto, x_ifeq, x_ifne, x_iflt, x_ifge, x_ifgt, x_ifle, x_cmpeq, x_cmpne, x_cmplt, x_cmpge, x_cmpgt, x_cmple, x_null, x_nonnull, x_acmpeq, x_acmpne, x_get, x_put, x_putz, x_ald, x_ast, x_bast, x_zast, x_aast, x_alen, x_obj, x_ret, x_retz, x_vret, x_max, x_min, x_copy, x_i2l, qg_none, qg_inl, qg_inr, qg_ite, xr1, xr0, xrE, xri, xl0, xl1, xl2, xl3, xl4, xl5, xl6, xl7, xl8, xl9, xl10, xs0, xs1, xs2, xs3, xs4, xs5, xs6, xs7, xs8, xs9, xs10, xi0, xi1, xi2, xi3, xi4, xi5, xi6, xi7, xi8, xi9, xi10, xc0, xc1, xc2, xc3, xc4, xc5, xc6, xc7, xv1, xv2, xv3, xv4, xv5, xv6, xv7, dT_le, dF_le, dT_lt, dF_lt, dF_eq, x_switch, zsw, k77, k89, r25_0, g0, hq1]
  · intro j hj
    have hz : (tOp T n 114 ((0 : Int), a)).1 = 0 := hz
    obtain ⟨e0, -, q0⟩ := tOp_0 hz
    have w0 := y0 hz
    have hj2 : j = 0 := by have : (tLe 5).length = 1 := rfl; omega
    obtain rfl := hj2
    · rw [c1, if_pos (by omega)]; exact w0
theorem m_readRest6 {m : Int → Int → Int} {kd : Int → Nat × Int} {w : Nat × Nat × Nat} (hK : KM kd) (hR : RM m) {T : Int → Int} {n its a : Int} (hT : MTx T n m) (hW : MWo m) (hs : MSt T n (0, a) m) (ha : 0 ≤ a ∧ a ≤ n) (hi : 0 ≤ its ∧ its ≤ 295) : mRst T n 6 its a m kd w (f_X12_readRest [(1, 77), (0, its), (0, 6)] (m, kd, w)) := by
  have k77 := hK.1
  have k89 := hK.2.2.2.2.2.2.2.2.2.2.2.2.1
  have t0 : tTS n (0, a) := ⟨fun _ => ha, show (0 : Int) ≤ 0 by decide, show (0 : Int) ≤ 3 by decide⟩
  obtain ⟨mp1, v0, g0, f0, x0, y0, z0⟩ := m_takes (w := w) (l := 98) hK hR hT hs t0.1 t0.2 (by unfold tLt; decide) (by decide) (by decide)
  simp only [show tLo 98 = 0 from rfl, show tHi 98 = 3 from rfl] at g0
  have t1 := tOp_S (T := T) (l := 98) t0
  have r25_0 : m 77 25 = 89 := hR.2.2.2.2.2.2.2.2.2.2.2.1
  obtain ⟨hR1, hT1, hW1, hs1, o1, p1, c1⟩ := m_stage (p := its + 1) (v := v0) hR hT hW f0 x0
  generalize hq1 : qa_up mp1 89 (its + 1) v0 = mq1 at hR1 hT1 hW1 hs1 o1 p1 c1
  refine ⟨mq1, ?_, fun c c1 c2 => by rw [o1 c c1 c2], fun i hi => by rw [p1 i hi], hs1, fun j hj => by rw [c1, if_neg (by omega)], fun hz => ?_⟩
  · unfold f_X12_readRest
    refine qa_fn_eq ?_ (by simp)
    simp (disch := omega) [ev_X12_readRest_0, ev_X12_readRest_1, ev_X12_readRest_2, ev_X12_readRest_3, ev_X12_readRest_4, ev_X12_readRest_5, ev_X12_readRest_6, ev_X12_readRest_7, ev_X12_readRest_8, ev_X12_readRest_9, ev_X12_readRest_10, ev_X12_readRest_11, ev_X12_readRest_12, ev_X12_readRest_13, ev_X12_readRest_14, B_X12_readRest_0, B_X12_readRest_1, B_X12_readRest_2, B_X12_readRest_3, B_X12_readRest_4, B_X12_readRest_5, B_X12_readRest_6, B_X12_readRest_7, B_X12_readRest_8, B_X12_readRest_9, B_X12_readRest_10, B_X12_readRest_11, B_X12_readRest_12, B_X12_readRest_13, B_X12_readRest_14, x_const, x_iadd, x_isub, x_imul, x_idiv, x_irem, x_ineg, x_dup, x_dup_x1, x_dup2, x_pop, x_goto, x_ifeq, x_ifne, x_iflt, x_ifge, x_ifgt, x_ifle, x_cmpeq, x_cmpne, x_cmplt, x_cmpge, x_cmpgt, x_cmple, x_null, x_nonnull, x_acmpeq, x_acmpne, x_get, x_put, x_putz, x_ald, x_ast, x_bast, x_zast, x_aast, x_alen, x_obj, x_ret, x_retz, x_vret, x_max, x_min, x_copy, x_i2l, qg_none, qg_inl, qg_inr, qg_ite, xr1, xr0, xrE, xri, xl0, xl1, xl2, xl3, xl4, xl5, xl6, xl7, xl8, xl9, xl10, xs0, xs1, xs2, xs3, xs4, xs5, xs6, xs7, xs8, xs9, xs10, xi0, xi1, xi2, xi3, xi4, xi5, xi6, xi7, xi8, xi9, xi10, xc0, xc1, xc2, xc3, xc4, xc5, xc6, xc7, xv1, xv2, xv3, xv4, xv5, xv6, xv7, dT_le, dF_le, dT_lt, dF_lt, dF_eq, x_switch, zsw, k77, k89, r25_0, g0, hq1]
  · intro j hj
    have hz : (tOp T n 98 ((0 : Int), a)).1 = 0 := hz
    obtain ⟨e0, -, q0⟩ := tOp_0 hz
    have w0 := y0 hz
    have hj2 : j = 0 := by have : (tLe 6).length = 1 := rfl; omega
    obtain rfl := hj2
    · rw [c1, if_pos (by omega)]; exact w0
theorem m_readRest7 {m : Int → Int → Int} {kd : Int → Nat × Int} {w : Nat × Nat × Nat} (hK : KM kd) (hR : RM m) {T : Int → Int} {n its a : Int} (hT : MTx T n m) (hW : MWo m) (hs : MSt T n (0, a) m) (ha : 0 ≤ a ∧ a ≤ n) (hi : 0 ≤ its ∧ its ≤ 295) : mRst T n 7 its a m kd w (f_X12_readRest [(1, 77), (0, its), (0, 7)] (m, kd, w)) := by
  have k77 := hK.1
  have k89 := hK.2.2.2.2.2.2.2.2.2.2.2.2.1
  have t0 : tTS n (0, a) := ⟨fun _ => ha, show (0 : Int) ≤ 0 by decide, show (0 : Int) ≤ 3 by decide⟩
  obtain ⟨mp1, v0, g0, f0, x0, y0, z0⟩ := m_takes (w := w) (l := 98) hK hR hT hs t0.1 t0.2 (by unfold tLt; decide) (by decide) (by decide)
  simp only [show tLo 98 = 0 from rfl, show tHi 98 = 3 from rfl] at g0
  have t1 := tOp_S (T := T) (l := 98) t0
  have r25_0 : m 77 25 = 89 := hR.2.2.2.2.2.2.2.2.2.2.2.1
  obtain ⟨hR1, hT1, hW1, hs1, o1, p1, c1⟩ := m_stage (p := its + 1) (v := v0) hR hT hW f0 x0
  generalize hq1 : qa_up mp1 89 (its + 1) v0 = mq1 at hR1 hT1 hW1 hs1 o1 p1 c1
  refine ⟨mq1, ?_, fun c c1 c2 => by rw [o1 c c1 c2], fun i hi => by rw [p1 i hi], hs1, fun j hj => by rw [c1, if_neg (by omega)], fun hz => ?_⟩
  · unfold f_X12_readRest
    refine qa_fn_eq ?_ (by simp)
    simp (disch := omega) [ev_X12_readRest_0, ev_X12_readRest_1, ev_X12_readRest_2, ev_X12_readRest_3, ev_X12_readRest_4, ev_X12_readRest_5, ev_X12_readRest_6, ev_X12_readRest_7, ev_X12_readRest_8, ev_X12_readRest_9, ev_X12_readRest_10, ev_X12_readRest_11, ev_X12_readRest_12, ev_X12_readRest_13, ev_X12_readRest_14, B_X12_readRest_0, B_X12_readRest_1, B_X12_readRest_2, B_X12_readRest_3, B_X12_readRest_4, B_X12_readRest_5, B_X12_readRest_6, B_X12_readRest_7, B_X12_readRest_8, B_X12_readRest_9, B_X12_readRest_10, B_X12_readRest_11, B_X12_readRest_12, B_X12_readRest_13, B_X12_readRest_14, x_const, x_iadd, x_isub, x_imul, x_idiv, x_irem, x_ineg, x_dup, x_dup_x1, x_dup2, x_pop, x_goto, x_ifeq, x_ifne, x_iflt, x_ifge, x_ifgt, x_ifle, x_cmpeq, x_cmpne, x_cmplt, x_cmpge, x_cmpgt, x_cmple, x_null, x_nonnull, x_acmpeq, x_acmpne, x_get, x_put, x_putz, x_ald, x_ast, x_bast, x_zast, x_aast, x_alen, x_obj, x_ret, x_retz, x_vret, x_max, x_min, x_copy, x_i2l, qg_none, qg_inl, qg_inr, qg_ite, xr1, xr0, xrE, xri, xl0, xl1, xl2, xl3, xl4, xl5, xl6, xl7, xl8, xl9, xl10, xs0, xs1, xs2, xs3, xs4, xs5, xs6, xs7, xs8, xs9, xs10, xi0, xi1, xi2, xi3, xi4, xi5, xi6, xi7, xi8, xi9, xi10, xc0, xc1, xc2, xc3, xc4, xc5, xc6, xc7, xv1, xv2, xv3, xv4, xv5, xv6, xv7, dT_le, dF_le, dT_lt, dF_lt, dF_eq, x_switch, zsw, k77, k89, r25_0, g0, hq1]
  · intro j hj
    have hz : (tOp T n 98 ((0 : Int), a)).1 = 0 := hz
    obtain ⟨e0, -, q0⟩ := tOp_0 hz
    have w0 := y0 hz
    have hj2 : j = 0 := by have : (tLe 7).length = 1 := rfl; omega
    obtain rfl := hj2
    · rw [c1, if_pos (by omega)]; exact w0
theorem m_readRest8 {m : Int → Int → Int} {kd : Int → Nat × Int} {w : Nat × Nat × Nat} (hK : KM kd) (hR : RM m) {T : Int → Int} {n its a : Int} (hT : MTx T n m) (hW : MWo m) (hs : MSt T n (0, a) m) (ha : 0 ≤ a ∧ a ≤ n) (hi : 0 ≤ its ∧ its ≤ 295) : mRst T n 8 its a m kd w (f_X12_readRest [(1, 77), (0, its), (0, 8)] (m, kd, w)) := by
  have k77 := hK.1
  have k89 := hK.2.2.2.2.2.2.2.2.2.2.2.2.1
  have t0 : tTS n (0, a) := ⟨fun _ => ha, show (0 : Int) ≤ 0 by decide, show (0 : Int) ≤ 3 by decide⟩
  obtain ⟨mp1, v0, g0, f0, x0, y0, z0⟩ := m_takes (w := w) (l := 98) hK hR hT hs t0.1 t0.2 (by unfold tLt; decide) (by decide) (by decide)
  simp only [show tLo 98 = 0 from rfl, show tHi 98 = 3 from rfl] at g0
  have t1 := tOp_S (T := T) (l := 98) t0
  have r25_0 : m 77 25 = 89 := hR.2.2.2.2.2.2.2.2.2.2.2.1
  obtain ⟨hR1, hT1, hW1, hs1, o1, p1, c1⟩ := m_stage (p := its + 1) (v := v0) hR hT hW f0 x0
  generalize hq1 : qa_up mp1 89 (its + 1) v0 = mq1 at hR1 hT1 hW1 hs1 o1 p1 c1
  refine ⟨mq1, ?_, fun c c1 c2 => by rw [o1 c c1 c2], fun i hi => by rw [p1 i hi], hs1, fun j hj => by rw [c1, if_neg (by omega)], fun hz => ?_⟩
  · unfold f_X12_readRest
    refine qa_fn_eq ?_ (by simp)
    simp (disch := omega) [ev_X12_readRest_0, ev_X12_readRest_1, ev_X12_readRest_2, ev_X12_readRest_3, ev_X12_readRest_4, ev_X12_readRest_5, ev_X12_readRest_6, ev_X12_readRest_7, ev_X12_readRest_8, ev_X12_readRest_9, ev_X12_readRest_10, ev_X12_readRest_11, ev_X12_readRest_12, ev_X12_readRest_13, ev_X12_readRest_14, B_X12_readRest_0, B_X12_readRest_1, B_X12_readRest_2, B_X12_readRest_3, B_X12_readRest_4, B_X12_readRest_5, B_X12_readRest_6, B_X12_readRest_7, B_X12_readRest_8, B_X12_readRest_9, B_X12_readRest_10, B_X12_readRest_11, B_X12_readRest_12, B_X12_readRest_13, B_X12_readRest_14, x_const, x_iadd, x_isub, x_imul, x_idiv, x_irem, x_ineg, x_dup, x_dup_x1, x_dup2, x_pop, x_goto, x_ifeq, x_ifne, x_iflt, x_ifge, x_ifgt, x_ifle, x_cmpeq, x_cmpne, x_cmplt, x_cmpge, x_cmpgt, x_cmple, x_null, x_nonnull, x_acmpeq, x_acmpne, x_get, x_put, x_putz, x_ald, x_ast, x_bast, x_zast, x_aast, x_alen, x_obj, x_ret, x_retz, x_vret, x_max, x_min, x_copy, x_i2l, qg_none, qg_inl, qg_inr, qg_ite, xr1, xr0, xrE, xri, xl0, xl1, xl2, xl3, xl4, xl5, xl6, xl7, xl8, xl9, xl10, xs0, xs1, xs2, xs3, xs4, xs5, xs6, xs7, xs8, xs9, xs10, xi0, xi1, xi2, xi3, xi4, xi5, xi6, xi7, xi8, xi9, xi10, xc0, xc1, xc2, xc3, xc4, xc5, xc6, xc7, xv1, xv2, xv3, xv4, xv5, xv6, xv7, dT_le, dF_le, dT_lt, dF_lt, dF_eq, x_switch, zsw, k77, k89, r25_0, g0, hq1]
  · intro j hj
    have hz : (tOp T n 98 ((0 : Int), a)).1 = 0 := hz
    obtain ⟨e0, -, q0⟩ := tOp_0 hz
    have w0 := y0 hz
    have hj2 : j = 0 := by have : (tLe 8).length = 1 := rfl; omega
    obtain rfl := hj2
    · rw [c1, if_pos (by omega)]; exact w0
theorem m_readRest9 {m : Int → Int → Int} {kd : Int → Nat × Int} {w : Nat × Nat × Nat} (hK : KM kd) (hR : RM m) {T : Int → Int} {n its a : Int} (hT : MTx T n m) (hW : MWo m) (hs : MSt T n (0, a) m) (ha : 0 ≤ a ∧ a ≤ n) (hi : 0 ≤ its ∧ its ≤ 295) : mRst T n 9 its a m kd w (f_X12_readRest [(1, 77), (0, its), (0, 9)] (m, kd, w)) := by
  have k77 := hK.1
  have k89 := hK.2.2.2.2.2.2.2.2.2.2.2.2.1
  have t0 : tTS n (0, a) := ⟨fun _ => ha, show (0 : Int) ≤ 0 by decide, show (0 : Int) ≤ 3 by decide⟩
  obtain ⟨mp1, v0, g0, f0, x0, y0, z0⟩ := m_takes (w := w) (l := 110) hK hR hT hs t0.1 t0.2 (by unfold tLt; decide) (by decide) (by decide)
  simp only [show tLo 110 = 1 from rfl, show tHi 110 = 99 from rfl] at g0
  have t1 := tOp_S (T := T) (l := 110) t0
  have r25_0 : m 77 25 = 89 := hR.2.2.2.2.2.2.2.2.2.2.2.1
  obtain ⟨hR1, hT1, hW1, hs1, o1, p1, c1⟩ := m_stage (p := its + 1) (v := v0) hR hT hW f0 x0
  generalize hq1 : qa_up mp1 89 (its + 1) v0 = mq1 at hR1 hT1 hW1 hs1 o1 p1 c1
  refine ⟨mq1, ?_, fun c c1 c2 => by rw [o1 c c1 c2], fun i hi => by rw [p1 i hi], hs1, fun j hj => by rw [c1, if_neg (by omega)], fun hz => ?_⟩
  · unfold f_X12_readRest
    refine qa_fn_eq ?_ (by simp)
    simp (disch := omega) [ev_X12_readRest_0, ev_X12_readRest_1, ev_X12_readRest_2, ev_X12_readRest_3, ev_X12_readRest_4, ev_X12_readRest_5, ev_X12_readRest_6, ev_X12_readRest_7, ev_X12_readRest_8, ev_X12_readRest_9, ev_X12_readRest_10, ev_X12_readRest_11, ev_X12_readRest_12, ev_X12_readRest_13, ev_X12_readRest_14, B_X12_readRest_0, B_X12_readRest_1, B_X12_readRest_2, B_X12_readRest_3, B_X12_readRest_4, B_X12_readRest_5, B_X12_readRest_6, B_X12_readRest_7, B_X12_readRest_8, B_X12_readRest_9, B_X12_readRest_10, B_X12_readRest_11, B_X12_readRest_12, B_X12_readRest_13, B_X12_readRest_14, x_const, x_iadd, x_isub, x_imul, x_idiv, x_irem, x_ineg, x_dup, x_dup_x1, x_dup2, x_pop, x_goto, x_ifeq, x_ifne, x_iflt, x_ifge, x_ifgt, x_ifle, x_cmpeq, x_cmpne, x_cmplt, x_cmpge, x_cmpgt, x_cmple, x_null, x_nonnull, x_acmpeq, x_acmpne, x_get, x_put, x_putz, x_ald, x_ast, x_bast, x_zast, x_aast, x_alen, x_obj, x_ret, x_retz, x_vret, x_max, x_min, x_copy, x_i2l, qg_none, qg_inl, qg_inr, qg_ite, xr1, xr0, xrE, xri, xl0, xl1, xl2, xl3, xl4, xl5, xl6, xl7, xl8, xl9, xl10, xs0, xs1, xs2, xs3, xs4, xs5, xs6, xs7, xs8, xs9, xs10, xi0, xi1, xi2, xi3, xi4, xi5, xi6, xi7, xi8, xi9, xi10, xc0, xc1, xc2, xc3, xc4, xc5, xc6, xc7, xv1, xv2, xv3, xv4, xv5, xv6, xv7, dT_le, dF_le, dT_lt, dF_lt, dF_eq, x_switch, zsw, k77, k89, r25_0, g0, hq1]
  · intro j hj
    have hz : (tOp T n 110 ((0 : Int), a)).1 = 0 := hz
    obtain ⟨e0, -, q0⟩ := tOp_0 hz
    have w0 := y0 hz
    have hj2 : j = 0 := by have : (tLe 9).length = 1 := rfl; omega
    obtain rfl := hj2
    · rw [c1, if_pos (by omega)]; exact w0
