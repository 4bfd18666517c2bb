theorem x_vast (k : qI) (ls r : List qV) (o i v : Int) (m : Int → Int → Int) (kd : Int → Nat × Int) (w : Nat × Nat × Nat) (h : (v, "PromiseLog$Verb") ∈ qa_SC) : q_vast k ls ((1, v) :: (0, i) :: (1, o) :: r) (m, kd, w) = if (kd o).1 = 110 ∧ 0 ≤ i ∧ i < (kd o).2 then k ls r (qa_up m o i v, kd, w) else none := by simp [q_vast, h]
theorem tRc_1 (T : Int → Int) (n : Int) (ls : List Int) (q i : Nat) (a : Int) (h : tOc T n a (ls.getD i 0) = 0) : tRc T n ls (q + 1) i a = tRc T n ls q (i + 1) (tOa T n a (ls.getD i 0)) := if_pos h
theorem tRc_2 (T : Int → Int) (n : Int) (ls : List Int) (q i : Nat) (a : Int) (h : tOc T n a (ls.getD i 0) ≠ 0) : tRc T n ls (q + 1) i a = (tOc T n a (ls.getD i 0), tSt T n (tNa T n a (ls.getD i 0))) := if_neg h
theorem tRc_3 (T : Int → Int) (n : Int) (ls : List Int) (i : Nat) (a : Int) (h : tKi T n a = 4) : tRc T n ls 0 i a = (0, tBe T n a) := if_pos h
theorem tRc_4 (T : Int → Int) (n : Int) (ls : List Int) (i : Nat) (a : Int) (h : tKi T n a ≠ 4) : tRc T n ls 0 i a = (1, tSt T n a) := if_neg h
theorem c_ops {m : Int → Int → Int} {kd : Int → Nat × Int} {w : Nat × Nat × Nat} {T : Int → Int} {n a0 v k : Int} (hK : KSc kd) (hv : 0 ≤ v ∧ v ≤ 9) (ha0 : 0 ≤ a0 ∧ a0 ≤ n) (hk : 0 ≤ k ∧ k < 60) : ∀ (q i : Nat) (m' : Int → Int → Int), i + q = (tLe v).length → MSc T n m' → CLx T n (tAk T n (tLe v) a0 i) m' → m' 71 4 = k → (∀ c, c ≠ 71 → c ≠ 74 → m' c = m c) → (∀ j, j ≤ 3 → m' 71 j = m 71 j) → m' 71 5 = m 71 5 → m' 71 6 = m 71 6 → (∀ j, j < k * 4 → m' 74 j = m 74 j) → (∀ j : Nat, j < i → m' 74 (k * 4 + j) = tOv T n (tAk T n (tLe v) a0 j) ((tLe v).getD j 0)) →
    ∃ m'', qa_ev P_X8_parseCommand 4 [(1, 71), (1, -20 - v), (0, (i : Int))] [] (m', kd, w) = some (.inl (some (0, if (tRc T n (tLe v) q i (tAk T n (tLe v) a0 i)).1 = 0 then 1 else 0)), (m'', kd, w)) ∧ (∀ c, c ≠ 71 → c ≠ 74 → m'' c = m c) ∧ (∀ j, j ≤ 3 → m'' 71 j = m 71 j) ∧ ((tRc T n (tLe v) q i (tAk T n (tLe v) a0 i)).1 = 0 → CLx T n (tRc T n (tLe v) q i (tAk T n (tLe v) a0 i)).2 m'' ∧ m'' 71 4 = k + 1 ∧ m'' 71 5 = m 71 5 ∧ m'' 71 6 = m 71 6 ∧ (∀ j, j < k * 4 → m'' 74 j = m 74 j) ∧ ∀ j : Nat, j < (tLe v).length → m'' 74 (k * 4 + j) = tOv T n (tAk T n (tLe v) a0 j) ((tLe v).getD j 0)) ∧ ((tRc T n (tLe v) q i (tAk T n (tLe v) a0 i)).1 ≠ 0 → m'' 71 5 = (tRc T n (tLe v) q i (tAk T n (tLe v) a0 i)).1 ∧ m'' 71 6 = (tRc T n (tLe v) q i (tAk T n (tLe v) a0 i)).2) := by
  obtain ⟨b1, b2, b3⟩ := tLe_lt hv
  have k1 := hK.1
  have sf := (sF_w hv).2.1
  have hst := tStr_l hv
  have hsc : (-60 - v, "java/lang/String") ∈ qa_SC := by obtain ⟨_, _, _, _, h, _⟩ := hst; exact h
  intro q
  induction q with
  | zero =>
    intro i m' hi hM hL m4 o p p5 p6 v0 v1
    have hlen := c_len (m := m') (kd := kd) (w := w) hst
    have ei : (i : Int) = ((tLe v).length : Int) := by omega
    have hA := tAk_a T (tLe v) ha0 i
    obtain ⟨e1, e2⟩ := c_opE (w := w) hK hM hL ⟨hA.1, hA.2.1⟩ sf hsc hlen ⟨by omega, by omega⟩ m4 hk
    rw [← ei] at e1 e2
    generalize hx : tAk T n (tLe v) a0 i = x at hL e1 e2 ⊢
    by_cases hc : tKi T n x = 4
    · rw [tRc_3 T n (tLe v) i x hc]
      refine ⟨_, e2 hc, fun c c1 c2 => ?_, fun j hj => ?_, fun _ => ⟨CLx_Nx T n _ _, ?_, ?_, ?_, fun j hj => ?_, fun j hj => ?_⟩, fun z => absurd rfl z⟩
      · rw [← o c c1 c2]
        funext j
        rw [tNx_no (Or.inl c1), qa_up_no _ (fun z => c1 z.1)]
      · rw [tNx_no (by omega), qa_up_no _ (by omega), p j hj]
      · rw [tNx_no (by omega), qa_up_hit]
      · rw [tNx_no (by omega), qa_up_no _ (by omega), p5]
      · rw [tNx_no (by omega), qa_up_no _ (by omega), p6]
      · rw [tNx_no (by omega), qa_up_no _ (by omega), v0 j hj]
      · rw [tNx_no (by omega), qa_up_no _ (by omega)]
        exact v1 j (by omega)
    · rw [tRc_4 T n (tLe v) i x hc]
      refine ⟨_, e1 hc, fun c c1 c2 => ?_, fun j hj => ?_, fun z => absurd z (show ¬ (1 : Int) = 0 by decide), fun _ => ⟨?_, ?_⟩⟩
      · rw [← o c c1 c2]
        funext j
        rw [qa_up_no _ (fun z => c1 z.1), qa_up_no _ (fun z => c1 z.1)]
      · rw [qa_up_no _ (by omega), qa_up_no _ (by omega), p j hj]
      · rw [qa_up_no _ (by omega), qa_up_hit]
      · rw [qa_up_hit]
  | succ q ih =>
    intro i m' hi hM hL m4 o p p5 p6 v0 v1
    have hlen := c_len (m := m') (kd := kd) (w := w) hst
    have hA := tAk_a T (tLe v) ha0 i
    have ch := c_charAt (m := m') (kd := kd) (w := w) (i := (i : Int)) hst ⟨by omega, by omega⟩
    have ei : ((i : Int)).toNat = i := by omega
    rw [ei] at ch
    have hl := b3 i (by omega)
    obtain ⟨m2, g1, g2, g3, g4, g5⟩ := c_operand (w := w) (p := k * 4 + i) hK hM hL ⟨hA.1, hA.2.1⟩ hl ⟨by omega, by omega⟩
    have st := c_opS k1 sf hsc hlen (ii := (i : Int)) ⟨by omega, by omega⟩ (by omega) ch m4 hk g1
    have eA : tAk T n (tLe v) a0 (i + 1) = tOa T n (tAk T n (tLe v) a0 i) ((tLe v).getD i 0) := rfl
    by_cases hc : tOc T n (tAk T n (tLe v) a0 i) ((tLe v).getD i 0) = 0
    · rw [tRc_1 T n (tLe v) q i _ hc]
      obtain ⟨h1, h2, h3, h4⟩ := g4 hc
      rw [if_pos hc, if_neg (by decide)] at st
      have hM2 : MSc T n m2 := MSc_71 hM (g2 72 (by decide) (by decide)) (fun j _ hj => g3 j (by omega))
      rw [← eA] at h1 ⊢
      have ec : ((i + 1 : Nat) : Int) = (i : Int) + 1 := by omega
      obtain ⟨m3, f1, f2⟩ := ih (i + 1) m2 (by omega) hM2 h1 (by rw [g3 4 (by decide)]; exact m4) (fun c c1 c2 => by rw [g2 c c1 c2, o c c1 c2]) (fun j hj => by rw [g3 j (by omega), p j hj]) (by rw [h2, p5]) (by rw [h3, p6]) (fun j hj => by rw [h4, if_neg (by omega), v0 j hj]) (fun j hj => by
        rw [h4]
        by_cases e : j = i
        · rw [if_pos (by omega), e]
        · rw [if_neg (by omega)]
          exact v1 j (by omega))
      rw [ec] at f1
      exact ⟨m3, st.trans f1, f2⟩
    · rw [tRc_2 T n (tLe v) q i _ hc]
      obtain ⟨h1, h2⟩ := g5 hc
      rw [if_neg hc, if_pos rfl] at st
      refine ⟨m2, ?_, fun c c1 c2 => by rw [g2 c c1 c2, o c c1 c2], fun j hj => by rw [g3 j (by omega), p j hj], fun z => absurd z hc, fun _ => ⟨h1, h2⟩⟩
      rw [st, if_neg hc]
def tCk (T : Int → Int) (n k a : Int) : Int × Int := if tVb T n a = -1 then (1, tSt T n a) else if 60 ≤ k then (3, tSt T n a) else tRc T n (tLe (tVb T n a)) (tLe (tVb T n a)).length 0 (tBe T n a)
theorem tVb_b (T : Int → Int) (n a : Int) : tVb T n a = -1 ∨ (0 ≤ tVb T n a ∧ tVb T n a ≤ 9) := by
  have h := tvf_b T n a 10 0 (by decide)
  have e : tvf T n a 10 0 = tVb T n a := rfl
  rw [e] at h
  rcases h with h | ⟨h1, h2, -⟩
  · exact Or.inl h
  · exact Or.inr ⟨h1, by omega⟩
theorem c_parseCommand {m : Int → Int → Int} {kd : Int → Nat × Int} {w : Nat × Nat × Nat} {T : Int → Int} {n a k : Int} (hK : KSc kd) (hM : MSc T n m) (hL : CLx T n a m) (ha : 0 ≤ a ∧ a ≤ n) (m4 : m 71 4 = k) (hk : 0 ≤ k ∧ k ≤ 60) : ∃ m', f_X8_parseCommand [(1, 71)] (m, kd, w) = some (.inl (some (0, if (tCk T n k a).1 = 0 then 1 else 0)), (m', kd, w)) ∧ (∀ c, c ≠ 71 → c ≠ 73 → c ≠ 74 → m' c = m c) ∧ (∀ j, j ≤ 3 → m' 71 j = m 71 j) ∧ ((tCk T n k a).1 = 0 → CLx T n (tCk T n k a).2 m' ∧ m' 71 4 = k + 1 ∧ m' 71 5 = m 71 5 ∧ m' 71 6 = m 71 6 ∧ (∀ j, m' 73 j = if j = k then -20 - tVb T n a else m 73 j) ∧ (∀ j, j < k * 4 → m' 74 j = m 74 j) ∧ ∀ j : Nat, j < (tLe (tVb T n a)).length → m' 74 (k * 4 + j) = tOv T n (tAk T n (tLe (tVb T n a)) (tBe T n a) j) ((tLe (tVb T n a)).getD j 0)) ∧ ((tCk T n k a).1 ≠ 0 → m' 71 5 = (tCk T n k a).1 ∧ m' 71 6 = (tCk T n k a).2) := by
  obtain ⟨k1, k2, k3, k4⟩ := id hK
  have m2 := hM.2.2.1
  obtain ⟨l7, l8, l9⟩ := id hL
  have vh := c_verbHere (w := w) hK hM hL ha
  have fl := fun code => c_fail (w := w) (code := code) hK l8
  unfold tCk
  by_cases h1 : tVb T n a = -1
  · rw [if_pos h1] at vh ⊢
    rw [if_neg (show ¬ (1 : Int) = 0 by decide)]
    refine ⟨qa_up (qa_up m 71 5 1) 71 6 (tSt T n a), ?_, fun c c1 _ _ => ?_, fun j hj => ?_, fun z => absurd z (show ¬ (1 : Int) = 0 by decide), fun _ => ⟨?_, ?_⟩⟩
    · unfold f_X8_parseCommand
      refine qa_fn_eq ?_ (by simp)
      simp (disch := omega) [ev_X8_parseCommand_0, ev_X8_parseCommand_1, ev_X8_parseCommand_2, ev_X8_parseCommand_3, ev_X8_parseCommand_5, ev_X8_parseCommand_6, ev_X8_parseCommand_7, B_X8_parseCommand_0, B_X8_parseCommand_1, B_X8_parseCommand_2, B_X8_parseCommand_3, B_X8_parseCommand_4, B_X8_parseCommand_5, B_X8_parseCommand_6, B_X8_parseCommand_7, x_const, x_iadd, x_isub, x_imul, x_idiv, x_irem, x_ineg, x_dup, x_dup_x1, x_dup2, x_pop, x_goto, x_ifeq, x_ifne, x_iflt, x_ifge, x_ifgt, x_ifle, x_cmpeq, x_cmpne, x_cmplt, x_cmpge, x_cmpgt, x_cmple, x_null, x_nonnull, x_acmpeq, x_acmpne, x_get, x_put, x_putz, x_ald, x_ast, x_bast, x_zast, x_aast, x_alen, x_obj, x_ret, x_retz, x_vret, x_max, x_min, x_copy, x_i2l, qg_none, qg_inl, qg_inr, qg_ite, xr1, xr0, xrE, xri, xl0, xl1, xl2, xl3, xl4, xl5, xl6, xl7, xl8, xl9, xl10, xs0, xs1, xs2, xs3, xs4, xs5, xs6, xs7, xs8, xs9, xs10, xi0, xi1, xi2, xi3, xi4, xi5, xi6, xi7, xi8, xi9, xi10, xc0, xc1, xc2, xc3, xc4, xc5, xc6, xc7, xv1, xv2, xv3, xv4, xv5, xv6, xv7, dT_le, dF_le, dT_lt, dF_lt, k1, vh, fl]
    · funext j
      rw [qa_up_no _ (fun z => c1 z.1), qa_up_no _ (fun z => c1 z.1)]
    · rw [qa_up_no _ (by omega), qa_up_no _ (by omega)]
    · rw [qa_up_no _ (by omega), qa_up_hit]
    · rw [qa_up_hit]
  · rw [if_neg h1] at vh
    rw [if_neg h1]
    have hv : 0 ≤ tVb T n a ∧ tVb T n a ≤ 9 := (tVb_b T n a).resolve_left h1
    generalize tVb T n a = v at h1 vh hv ⊢
    have hvn : ¬ (-20 - v = -1) := by omega
    by_cases h2 : 60 ≤ k
    · rw [if_pos h2]
      rw [if_neg (show ¬ (3 : Int) = 0 by decide)]
      have ek : k = 60 := by omega
      refine ⟨qa_up (qa_up m 71 5 3) 71 6 (tSt T n a), ?_, fun c c1 _ _ => ?_, fun j hj => ?_, fun z => absurd z (show ¬ (3 : Int) = 0 by decide), fun _ => ⟨?_, ?_⟩⟩
      · unfold f_X8_parseCommand
        refine qa_fn_eq ?_ (by simp)
        simp (disch := omega) [ev_X8_parseCommand_0, ev_X8_parseCommand_1, ev_X8_parseCommand_2, ev_X8_parseCommand_3, ev_X8_parseCommand_5, ev_X8_parseCommand_6, ev_X8_parseCommand_7, B_X8_parseCommand_0, B_X8_parseCommand_1, B_X8_parseCommand_2, B_X8_parseCommand_3, B_X8_parseCommand_4, B_X8_parseCommand_5, B_X8_parseCommand_6, B_X8_parseCommand_7, x_const, x_iadd, x_isub, x_imul, x_idiv, x_irem, x_ineg, x_dup, x_dup_x1, x_dup2, x_pop, x_goto, x_ifeq, x_ifne, x_iflt, x_ifge, x_ifgt, x_ifle, x_cmpeq, x_cmpne, x_cmplt, x_cmpge, x_cmpgt, x_cmple, x_null, x_nonnull, x_acmpeq, x_acmpne, x_get, x_put, x_putz, x_ald, x_ast, x_bast, x_zast, x_aast, x_alen, x_obj, x_ret, x_retz, x_vret, x_max, x_min, x_copy, x_i2l, qg_none, qg_inl, qg_inr, qg_ite, xr1, xr0, xrE, xri, xl0, xl1, xl2, xl3, xl4, xl5, xl6, xl7, xl8, xl9, xl10, xs0, xs1, xs2, xs3, xs4, xs5, xs6, xs7, xs8, xs9, xs10, xi0, xi1, xi2, xi3, xi4, xi5, xi6, xi7, xi8, xi9, xi10, xc0, xc1, xc2, xc3, xc4, xc5, xc6, xc7, xv1, xv2, xv3, xv4, xv5, xv6, xv7, dT_le, dF_le, dT_lt, dF_lt, dF_eq, k1, k3, m2, m4, ek, vh, hvn, fl]
      · funext j
        rw [qa_up_no _ (fun z => c1 z.1), qa_up_no _ (fun z => c1 z.1)]
      · rw [qa_up_no _ (by omega), qa_up_no _ (by omega)]
      · rw [qa_up_no _ (by omega), qa_up_hit]
      · rw [qa_up_hit]
    · rw [if_neg h2]
      have hb := tBe_a T ha
      have sc := (sF_w hv).2.2
      have hM1 : MSc T n (qa_up m 73 k (-20 - v)) := MSc_71 hM (by funext j; exact qa_up_no _ (by omega)) (fun j _ _ => qa_up_no _ (by omega))
      have nx := c_nextL (w := w) hK hM1 (CLx_o hL (fun j _ _ => qa_up_no _ (by omega))) ha
      generalize hmN : tNx (qa_up m 73 k (-20 - v)) (tKi T n (tBe T n a)) (tSt T n (tBe T n a)) (tBe T n (tBe T n a)) = mN at nx
      have n1 : ∀ c j, (c ≠ 71 ∨ (j ≠ 7 ∧ j ≠ 8 ∧ j ≠ 9)) → (c ≠ 73) → mN c j = m c j := fun c j h h' => by rw [← hmN, tNx_no h, qa_up_no _ (fun z => h' z.1)]
      have n73 : ∀ j, mN 73 j = if j = k then -20 - v else m 73 j := fun j => by
        rw [← hmN, tNx_no (by omega)]
        by_cases e : j = k
        · rw [if_pos e, e, qa_up_hit]
        · rw [if_neg e, qa_up_no _ (fun z => e z.2)]
      have hLN : CLx T n (tBe T n a) mN := by rw [← hmN]; exact CLx_Nx T n _ _
      have hMN : MSc T n mN := by rw [← hmN]; exact MSc_Nx hM1
      obtain ⟨m3, f1, f2, f3, f4, f5⟩ := c_ops (m := mN) (w := w) hK hv ⟨hb.1, hb.2.1⟩ ⟨hk.1, by omega⟩ (tLe v).length 0 mN (by omega) hMN hLN (by rw [n1 71 4 (by omega) (by decide)]; exact m4) (fun c _ _ => rfl) (fun j _ => rfl) rfl rfl (fun j _ => rfl) (fun j hj => absurd hj (by omega))
      have eA : tAk T n (tLe v) (tBe T n a) 0 = tBe T n a := rfl
      rw [eA] at f1 f4 f5
      refine ⟨m3, ?_, fun c c1 c2 c3 => ?_, fun j hj => by rw [f3 j hj, n1 71 j (by omega) (by decide)], fun hc => ?_, f5⟩
      · unfold f_X8_parseCommand
        refine qa_fn_eq ?_ (by simp)
        simp (disch := omega) [ev_X8_parseCommand_0, ev_X8_parseCommand_1, ev_X8_parseCommand_2, ev_X8_parseCommand_3, ev_X8_parseCommand_5, ev_X8_parseCommand_6, ev_X8_parseCommand_7, B_X8_parseCommand_0, B_X8_parseCommand_1, B_X8_parseCommand_2, B_X8_parseCommand_3, B_X8_parseCommand_4, B_X8_parseCommand_5, B_X8_parseCommand_6, B_X8_parseCommand_7, x_const, x_iadd, x_isub, x_imul, x_idiv, x_irem, x_ineg, x_dup, x_dup_x1, x_dup2, x_pop, x_goto, x_ifeq, x_ifne, x_iflt, x_ifge, x_ifgt, x_ifle, x_cmpeq, x_cmpne, x_cmplt, x_cmpge, x_cmpgt, x_cmple, x_null, x_nonnull, x_acmpeq, x_acmpne, x_get, x_put, x_putz, x_ald, x_ast, x_bast, x_zast, x_aast, x_alen, x_obj, x_ret, x_retz, x_vret, x_max, x_min, x_copy, x_i2l, qg_none, qg_inl, qg_inr, qg_ite, xr1, xr0, xrE, xri, xl0, xl1, xl2, xl3, xl4, xl5, xl6, xl7, xl8, xl9, xl10, xs0, xs1, xs2, xs3, xs4, xs5, xs6, xs7, xs8, xs9, xs10, xi0, xi1, xi2, xi3, xi4, xi5, xi6, xi7, xi8, xi9, xi10, xc0, xc1, xc2, xc3, xc4, xc5, xc6, xc7, xv1, xv2, xv3, xv4, xv5, xv6, xv7, dT_le, dF_le, dT_lt, dF_lt, dF_eq, k1, k3, m2, m4, vh, hvn, x_vast _ _ _ _ _ _ _ _ _ sc, nx]
        exact f1
      · rw [f2 c c1 c3]
        funext j
        exact n1 c j (Or.inl c1) c2
      · obtain ⟨h1', h2', h3, h4, h5, h6⟩ := f4 hc
        refine ⟨h1', h2', by rw [h3, n1 71 5 (by omega) (by decide)], by rw [h4, n1 71 6 (by omega) (by decide)], fun j => by rw [f2 73 (by decide) (by decide)]; exact n73 j, fun j hj => by rw [h5 j hj, n1 74 j (by omega) (by decide)], h6⟩
