def KDl (kd : Int → Nat × Int) : Prop := kd 67 = (8, 0) ∧ kd 68 = (7, 0) ∧ kd 69 = (101, 10) ∧ kd 70 = (119, 99)
def MDl (m : Int → Int → Int) : Prop := m 67 1 = 68 ∧ m 67 4 = 70 ∧ m 68 7 = 69
def zte (m : Int → Int → Int) (X p k : Int) : Int → Int → Int := fun c i => if c = 70 ∧ 0 ≤ i ∧ i < k then m X (p + i) else if c = 67 ∧ i = 2 then p else if c = 67 ∧ i = 3 then k else m c i
theorem zte_c {m : Int → Int → Int} {X p k c : Int} (h7 : c ≠ 70) (h6 : c ≠ 67) : zte m X p k c = m c := by
  funext i
  unfold zte
  rw [if_neg (fun z => h7 z.1), if_neg (fun z => h6 z.1), if_neg (fun z => h6 z.1)]
theorem zte_7 {m : Int → Int → Int} {X p k i : Int} (h2 : i ≠ 2) (h3 : i ≠ 3) : zte m X p k 67 i = m 67 i := by
  unfold zte
  rw [if_neg (by omega), if_neg (fun z => h2 z.2), if_neg (fun z => h3 z.2)]
theorem zte_3 {m : Int → Int → Int} {X p k : Int} : zte m X p k 67 3 = k := by
  unfold zte
  rw [if_neg (by omega), if_neg (by omega), if_pos ⟨rfl, rfl⟩]
theorem zte_0 {m : Int → Int → Int} {X p : Int} : qa_up (qa_up m 67 2 p) 67 3 0 = zte m X p 0 := by
  funext c i
  unfold qa_up zte
  by_cases h : c = 67
  · by_cases h3 : i = 3
    · subst h3; simp [h]
    · by_cases h2 : i = 2
      · subst h2; simp [h]
      · rw [if_neg (fun z => h3 z.2), if_neg (fun z => h2 z.2), if_neg (by omega), if_neg (fun z => h2 z.2), if_neg (fun z => h3 z.2)]
  · rw [if_neg (fun z => h z.1), if_neg (fun z => h z.1), if_neg (by omega), if_neg (fun z => h z.1), if_neg (fun z => h z.1)]
theorem zte_up {m : Int → Int → Int} {X p k : Int} (hk : 0 ≤ k) : qa_up (qa_up (zte m X p k) 70 k (m X (p + k))) 67 3 (k + 1) = zte m X p (k + 1) := by
  funext c i
  by_cases h : c = 67
  · subst h
    by_cases h3 : i = 3
    · subst h3; rw [qa_up_hit, zte_3]
    · rw [qa_up_no _ (fun z => h3 z.2), qa_up_no _ (by omega)]
      unfold zte
      rw [if_neg (by omega), if_neg (show ¬ ((67 : Int) = 70 ∧ 0 ≤ i ∧ i < k + 1) by omega)]
      by_cases h2 : i = 2
      · rw [if_pos ⟨rfl, h2⟩, if_pos ⟨rfl, h2⟩]
      · rw [if_neg (fun z => h2 z.2), if_neg (fun z => h3 z.2), if_neg (fun z => h2 z.2), if_neg (fun z => h3 z.2)]
  · rw [qa_up_no _ (fun z => h z.1)]
    by_cases h7 : c = 70
    · subst h7
      by_cases hi : i = k
      · subst hi
        rw [qa_up_hit]
        exact (if_pos ⟨rfl, hk, by omega⟩).symm
      · rw [qa_up_no _ (fun z => hi z.2)]
        unfold zte
        by_cases hh : 0 ≤ i ∧ i < k
        · rw [if_pos ⟨rfl, hh⟩, if_pos ⟨rfl, by omega, by omega⟩]
        · have n1 : ¬ ((70 : Int) = 70 ∧ 0 ≤ i ∧ i < k) := fun z => hh z.2
          have n2 : ¬ ((70 : Int) = 70 ∧ 0 ≤ i ∧ i < k + 1) := by omega
          rw [if_neg n1, if_neg n2, if_neg (by omega), if_neg (by omega), if_neg (by omega), if_neg (by omega)]
    · rw [qa_up_no _ (fun z => h7 z.1), zte_c h7 h, zte_c h7 h]
theorem c_takeEntries {m : Int → Int → Int} {kd : Int → Nat × Int} {w : Nat × Nat × Nat} {A : zA} {S : Int} (hK : KS kd S) (hC : RC A m kd S) {M : Int} (hW : zW M A) (hS3 : S = 3) (hKD : KDl kd) (hMD : MDl m) {b p mx : Int} (hb : zBl A b) (hp : A.2.1 b 4 ≤ p ∧ p ≤ A.2.1 b 5) (hx : 0 ≤ mx ∧ mx ≤ 99) : f_X4_takeEntries [(1, 67), (1, S + 4 + 2 * b), (0, p), (0, mx)] (m, kd, w) = some (.inl none, (zte m (S + 5 + 2 * b) p (if mx ≤ A.2.1 b 5 - p then mx else A.2.1 b 5 - p), kd, w)) := by
  obtain ⟨kd67, kd68, kd69, kd70⟩ := hKD
  obtain ⟨m1, m4, m7⟩ := hMD
  obtain ⟨b1, b2, b3⟩ := id hb
  have hbn := hW.bn hb
  have kb := hK.2.2.2.2.2.1 b b1 b2
  generalize hcnt : (if mx ≤ A.2.1 b 5 - p then mx else A.2.1 b 5 - p) = cnt
  have hc : cnt ≤ mx ∧ cnt ≤ A.2.1 b 5 - p ∧ (cnt = mx ∨ cnt = A.2.1 b 5 - p) ∧ 0 ≤ cnt := by rw [← hcnt]; split <;> omega
  have loop : ∀ (n : Nat) (k : Int) (l : qV), 0 ≤ k → k + n = cnt → qa_ev P_X4_takeEntries 1 [(1, 67), (1, S + 4 + 2 * b), (0, p), (0, mx), (0, k), l] [] (zte m (S + 5 + 2 * b) p k, kd, w) = some (.inl none, (zte m (S + 5 + 2 * b) p cnt, kd, w)) := by
    intro n
    induction n with
    | zero =>
      intro k l h1 h2
      obtain rfl : k = cnt := by omega
      have hCk : RC A (zte m (S + 5 + 2 * b) p k) kd S := RC_keep hC (fun c c1 c2 => zte_c (by omega) (by omega)) (fun e he => ⟨zte_c (fun z => by rw [z, kd70] at he; cases he) (fun z => by rw [z, kd67] at he; cases he), rfl⟩)
      obtain ⟨e, he1, -, he2⟩ := c_entryAt (w := w) (p := p + k) hK hCk hW hb
      have t4 : zte m (S + 5 + 2 * b) p k 67 4 = 70 := by rw [zte_7 (by decide) (by decide)]; exact m4
      rw [ev_X4_takeEntries_1]
      by_cases h : k = mx
      · simp (disch := omega) [ev_X4_takeEntries_0, ev_X4_takeEntries_2, ev_X4_takeEntries_3, B_X4_takeEntries_0, B_X4_takeEntries_1, B_X4_takeEntries_2, B_X4_takeEntries_3, x_const, x_iadd, x_isub, x_imul, x_idiv, x_irem, x_ineg, x_dup, x_dup_x1, x_dup2, x_pop, x_goto, x_ifeq, x_ifne, x_iflt, x_ifge, x_ifgt, x_ifle, x_cmpeq, x_cmpne, x_cmplt, x_cmpge, x_cmpgt, x_cmple, x_null, x_nonnull, x_acmpeq, x_acmpne, x_get, x_put, x_putz, x_ald, x_ast, x_bast, x_zast, x_aast, x_alen, x_obj, x_ret, x_retz, x_vret, x_max, x_min, x_copy, x_i2l, qg_none, qg_inl, qg_inr, qg_ite, xr1, xr0, xrE, xri, xl0, xl1, xl2, xl3, xl4, xl5, xl6, xl7, xl8, xl9, xl10, xs0, xs1, xs2, xs3, xs4, xs5, xs6, xs7, xs8, xs9, xs10, xi0, xi1, xi2, xi3, xi4, xi5, xi6, xi7, xi8, xi9, xi10, xc0, xc1, xc2, xc3, xc4, xc5, xc6, xc7, xv1, xv2, xv3, xv4, xv5, xv6, xv7, dT_le, dF_le, dT_lt, dF_lt, h]
      · have hen := he2 (by omega)
        rw [hen] at he1
        simp (disch := omega) [ev_X4_takeEntries_0, ev_X4_takeEntries_2, ev_X4_takeEntries_3, B_X4_takeEntries_0, B_X4_takeEntries_1, B_X4_takeEntries_2, B_X4_takeEntries_3, x_const, x_iadd, x_isub, x_imul, x_idiv, x_irem, x_ineg, x_dup, x_dup_x1, x_dup2, x_pop, x_goto, x_ifeq, x_ifne, x_iflt, x_ifge, x_ifgt, x_ifle, x_cmpeq, x_cmpne, x_cmplt, x_cmpge, x_cmpgt, x_cmple, x_null, x_nonnull, x_acmpeq, x_acmpne, x_get, x_put, x_putz, x_ald, x_ast, x_bast, x_zast, x_aast, x_alen, x_obj, x_ret, x_retz, x_vret, x_max, x_min, x_copy, x_i2l, qg_none, qg_inl, qg_inr, qg_ite, xr1, xr0, xrE, xri, xl0, xl1, xl2, xl3, xl4, xl5, xl6, xl7, xl8, xl9, xl10, xs0, xs1, xs2, xs3, xs4, xs5, xs6, xs7, xs8, xs9, xs10, xi0, xi1, xi2, xi3, xi4, xi5, xi6, xi7, xi8, xi9, xi10, xc0, xc1, xc2, xc3, xc4, xc5, xc6, xc7, xv1, xv2, xv3, xv4, xv5, xv6, xv7, dT_le, dF_le, dT_lt, dF_lt, kd67, kd70, kb, t4, he1]
    | succ n ih =>
      intro k l h1 h2
      have hCk : RC A (zte m (S + 5 + 2 * b) p k) kd S := RC_keep hC (fun c c1 c2 => zte_c (by omega) (by omega)) (fun e he => ⟨zte_c (fun z => by rw [z, kd70] at he; cases he) (fun z => by rw [z, kd67] at he; cases he), rfl⟩)
      have hat := c_at (m := zte m (S + 5 + 2 * b) p k) (w := w) (p := p + k) kb (hCk.1.2.2.2.2.2.2.1 b b1 b2) (hK.2.2.2.2.2.2.1 b b1 b2)
      rw [hCk.2.2.2.2.1 b 4 b1 b2 (by decide) (by decide), hCk.2.2.2.2.1 b 5 b1 b2 (by decide) (by decide), if_pos ⟨by omega, by omega, by omega, by omega⟩, zte_c (by omega) (by omega)] at hat
      have hE := hC.2.2.2.2.2.2.2.2 b (p + k) b1 b2 b3 (by omega) (by omega)
      have hne := hK.ne1 hE.1
      have ke := hE.1
      have t4 : zte m (S + 5 + 2 * b) p k 67 4 = 70 := by rw [zte_7 (by decide) (by decide)]; exact m4
      have t3 : zte m (S + 5 + 2 * b) p k 67 3 = k := zte_3
      have up := zte_up (m := m) (X := S + 5 + 2 * b) (p := p) h1
      have ih' := fun l => ih (k + 1) l (by omega) (by omega)
      rw [ev_X4_takeEntries_1]
      simp (disch := omega) [ev_X4_takeEntries_0, ev_X4_takeEntries_2, ev_X4_takeEntries_3, B_X4_takeEntries_0, B_X4_takeEntries_1, B_X4_takeEntries_2, B_X4_takeEntries_3, x_const, x_iadd, x_isub, x_imul, x_idiv, x_irem, x_ineg, x_dup, x_dup_x1, x_dup2, x_pop, x_goto, x_ifeq, x_ifne, x_iflt, x_ifge, x_ifgt, x_ifle, x_cmpeq, x_cmpne, x_cmplt, x_cmpge, x_cmpgt, x_cmple, x_null, x_nonnull, x_acmpeq, x_acmpne, x_get, x_put, x_putz, x_ald, x_ast, x_bast, x_zast, x_aast, x_alen, x_obj, x_ret, x_retz, x_vret, x_max, x_min, x_copy, x_i2l, qg_none, qg_inl, qg_inr, qg_ite, xr1, xr0, xrE, xri, xl0, xl1, xl2, xl3, xl4, xl5, xl6, xl7, xl8, xl9, xl10, xs0, xs1, xs2, xs3, xs4, xs5, xs6, xs7, xs8, xs9, xs10, xi0, xi1, xi2, xi3, xi4, xi5, xi6, xi7, xi8, xi9, xi10, xc0, xc1, xc2, xc3, xc4, xc5, xc6, xc7, xv1, xv2, xv3, xv4, xv5, xv6, xv7, dT_le, dF_le, dT_lt, dF_lt, dT_eq, dF_eq, qa_up_hit, qa_up_no, kd67, kd70, kb, ke, hne, t4, t3, hat, up, ih']
  have lp := fun l => loop cnt.toNat 0 l (by decide) (by omega)
  rw [← zte_0] at lp
  unfold f_X4_takeEntries
  refine qa_fn_eq ?_ (by simp)
  simp (disch := omega) [ev_X4_takeEntries_0, ev_X4_takeEntries_2, ev_X4_takeEntries_3, B_X4_takeEntries_0, B_X4_takeEntries_1, B_X4_takeEntries_2, B_X4_takeEntries_3, x_const, x_iadd, x_isub, x_imul, x_idiv, x_irem, x_ineg, x_dup, x_dup_x1, x_dup2, x_pop, x_goto, x_ifeq, x_ifne, x_iflt, x_ifge, x_ifgt, x_ifle, x_cmpeq, x_cmpne, x_cmplt, x_cmpge, x_cmpgt, x_cmple, x_null, x_nonnull, x_acmpeq, x_acmpne, x_get, x_put, x_putz, x_ald, x_ast, x_bast, x_zast, x_aast, x_alen, x_obj, x_ret, x_retz, x_vret, x_max, x_min, x_copy, x_i2l, qg_none, qg_inl, qg_inr, qg_ite, xr1, xr0, xrE, xri, xl0, xl1, xl2, xl3, xl4, xl5, xl6, xl7, xl8, xl9, xl10, xs0, xs1, xs2, xs3, xs4, xs5, xs6, xs7, xs8, xs9, xs10, xi0, xi1, xi2, xi3, xi4, xi5, xi6, xi7, xi8, xi9, xi10, xc0, xc1, xc2, xc3, xc4, xc5, xc6, xc7, xv1, xv2, xv3, xv4, xv5, xv6, xv7, dT_le, dF_le, dT_lt, dF_lt, kd67, lp]
