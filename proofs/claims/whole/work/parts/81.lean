def zit (m : Int → Int → Int) (q p k s v : Int) : Int → Int → Int := fun c i => if c = 86 ∧ 8 * q ≤ i ∧ i < 8 * q + 8 then (if i = 8 * q then 0 else if i = 8 * q + 1 then p else if i = 8 * q + 2 then k else if i = 8 * q + 3 then s else if i = 8 * q + 4 then v else -1) else if c = 77 ∧ i = 14 then q + 1 else m c i
theorem zit_eq {m : Int → Int → Int} {q p k s v : Int} : qa_up (qa_up (qa_up (qa_up (qa_up (qa_up (qa_up (qa_up (qa_up m 86 (8 * q) 0) 86 (8 * q + 1) p) 86 (8 * q + 2) k) 86 (8 * q + 3) s) 86 (8 * q + 4) v) 86 (8 * q + 5) (-1)) 86 (8 * q + 6) (-1)) 86 (8 * q + 7) (-1)) 77 14 (q + 1) = zit m q p k s v := by
  funext c i
  unfold qa_up zit
  by_cases hc : c = 86
  · subst hc
    by_cases hi : 8 * q ≤ i ∧ i < 8 * q + 8
    · rw [if_pos (show (86 : Int) = 86 ∧ 8 * q ≤ i ∧ i < 8 * q + 8 from ⟨rfl, hi⟩)]
      have : i = 8 * q ∨ i = 8 * q + 1 ∨ i = 8 * q + 2 ∨ i = 8 * q + 3 ∨ i = 8 * q + 4 ∨ i = 8 * q + 5 ∨ i = 8 * q + 6 ∨ i = 8 * q + 7 := by omega
      rcases this with h | h | h | h | h | h | h | h <;> simp [h] <;> omega
    · rw [if_neg (show ¬ ((86 : Int) = 86 ∧ 8 * q ≤ i ∧ i < 8 * q + 8) from fun z => hi z.2)]
      have n0 : ¬ i = 8 * q := by omega
      have n1 : ¬ i = 8 * q + 1 := by omega
      have n2 : ¬ i = 8 * q + 2 := by omega
      have n3 : ¬ i = 8 * q + 3 := by omega
      have n4 : ¬ i = 8 * q + 4 := by omega
      have n5 : ¬ i = 8 * q + 5 := by omega
      have n6 : ¬ i = 8 * q + 6 := by omega
      have n7 : ¬ i = 8 * q + 7 := by omega
      simp [n0, n1, n2, n3, n4, n5, n6, n7]
  · simp [hc]
theorem m_deliversEntry {m : Int → Int → Int} {kd : Int → Nat × Int} {w : Nat × Nat × Nat} {A : zA} (hK : KM kd) (hR : RM m) (hQ : QR A (m 79)) {M : Int} (hW : zW M A) {r q : Int} (hr : zRl A r) (hp : A.2.1 (A.2.2.1 r 1) 4 ≤ A.2.2.1 r 2 ∧ A.2.2.1 r 2 < A.2.1 (A.2.2.1 r 1) 5) (h14 : m 77 14 = q) (hq : 0 ≤ q ∧ q < 99) : f_X12_deliversEntry [(1, 77), (0, r)] (m, kd, w) = some (.inl none, (zit m q (A.2.2.1 r 2) (A.2.2.2 (A.2.2.1 r 1) (A.2.2.1 r 2) 1) (A.2.2.2 (A.2.2.1 r 1) (A.2.2.1 r 2) 2) (A.2.2.2 (A.2.2.1 r 1) (A.2.2.1 r 2) 3), kd, w)) := by
  obtain ⟨q1, q2, q3⟩ := id hr
  obtain ⟨t1, t2, t3, t4⟩ := hW.rn hr
  have hb : zBl A (A.2.2.1 r 1) := ⟨t1, t2, t3⟩
  have hbn := hW.bn hb
  have k77 := hK.1
  have k86 := hK.2.2.2.2.2.2.2.2.2.1
  have r13 : m 77 13 = 86 := hR.2.2.2.2.2.2.2.2.1
  have e1 : m 79 (34 + 26 * r + 1) = A.2.2.1 r 1 := hQ.2.2.2.2.2.2.1 r 1 q1 q2 q3 (by decide) (by decide)
  have e2 : m 79 (34 + 26 * r + 2) = A.2.2.1 r 2 := hQ.2.2.2.2.2.2.1 r 2 q1 q2 q3 (by decide) (by decide)
  have u1 := (hQ.2.2.2.2.1 _ t1 t2 t3).1
  have he := hW.2.2.2.2.2.2.1 _ (A.2.2.1 r 2) t1 t2 t3 hp.1 hp.2
  have hne : ∀ m' : Int → Int → Int, (∀ c, c ≠ 86 → m' c = m c) → RM m' ∧ QR A (m' 79) := fun m' h => ⟨RM_7 (fun i _ => by rw [h 77 (by decide)]) hR, by rw [h 79 (by decide)]; exact hQ⟩
  have ek : A.2.1 (A.2.2.1 r 1) 4 + (A.2.2.1 r 2 - A.2.1 (A.2.2.1 r 1) 4) = A.2.2.1 r 2 := by omega
  have kk := fun (m' : Int → Int → Int) (h : ∀ c, c ≠ 86 → m' c = m c) => m_keyOf (w := w) (b := A.2.2.1 r 1) (k := A.2.2.1 r 2 - A.2.1 (A.2.2.1 r 1) 4) hK (hne m' h).1 (hne m' h).2 hb (by omega) (by omega) (by omega) (by rw [ek]; exact he)
  have ks := fun (m' : Int → Int → Int) (h : ∀ c, c ≠ 86 → m' c = m c) => m_sizeOf (w := w) (b := A.2.2.1 r 1) (k := A.2.2.1 r 2 - A.2.1 (A.2.2.1 r 1) 4) hK (hne m' h).1 (hne m' h).2 hb (by omega) (by omega) (by omega) (by rw [ek]; exact he)
  have kv := fun (m' : Int → Int → Int) (h : ∀ c, c ≠ 86 → m' c = m c) => m_valueOf (w := w) (b := A.2.2.1 r 1) (k := A.2.2.1 r 2 - A.2.1 (A.2.2.1 r 1) 4) hK (hne m' h).1 (hne m' h).2 hb (by omega) (by omega) (by omega) (by rw [ek]; exact he)
  rw [ek] at kk ks kv
  rw [← zit_eq]
  have ho := m_ofBranch (w := w) (b := A.2.2.1 r 1) (f := 1) hK hR t1 t2 (by decide) (by decide)
  rw [u1] at ho
  have or1 := m_ofReader (w := w) (r := r) (f := 1) hK hR q1 q2 (by decide) (by decide)
  have or2 := m_ofReader (w := w) (r := r) (f := 2) hK hR q1 q2 (by decide) (by decide)
  rw [e1] at or1
  rw [e2] at or2
  generalize A.2.2.2 (A.2.2.1 r 1) (A.2.2.1 r 2) 1 = x1 at kk ⊢
  generalize A.2.2.2 (A.2.2.1 r 1) (A.2.2.1 r 2) 2 = x2 at ks ⊢
  generalize A.2.2.2 (A.2.2.1 r 1) (A.2.2.1 r 2) 3 = x3 at kv ⊢
  have up : ∀ (m' : Int → Int → Int) (i v : Int), (∀ c, c ≠ 86 → m' c = m c) → ∀ c, c ≠ 86 → qa_up m' 86 i v c = m c := fun m' i v h c hc => by
    rw [← h c hc]
    funext j
    exact qa_up_no _ (fun z => hc z.1)
  have h0 : ∀ c, c ≠ 86 → m c = m c := fun _ _ => rfl
  have g2 := kk _ (up _ (8 * q + 1) (A.2.2.1 r 2) (up m (8 * q) 0 h0))
  have g3 := ks _ (up _ (8 * q + 2) x1 (up _ (8 * q + 1) (A.2.2.1 r 2) (up m (8 * q) 0 h0)))
  have g4 := kv _ (up _ (8 * q + 3) x2 (up _ (8 * q + 2) x1 (up _ (8 * q + 1) (A.2.2.1 r 2) (up m (8 * q) 0 h0))))
  unfold f_X12_deliversEntry
  refine qa_fn_eq ?_ (by simp)
  simp (disch := omega) [ev_X12_deliversEntry_0, ev_X12_deliversEntry_1, ev_X12_deliversEntry_2, ev_X12_deliversEntry_3, ev_X12_deliversEntry_4, B_X12_deliversEntry_0, B_X12_deliversEntry_1, B_X12_deliversEntry_2, B_X12_deliversEntry_3, B_X12_deliversEntry_4, x_const, x_iadd, x_isub, x_imul, x_idiv, x_irem, x_ineg, x_dup, x_dup_x1, x_dup2, x_pop, x_goto, x_ifeq, x_ifne, x_iflt, x_ifge, x_ifgt, x_ifle, x_cmpeq, x_cmpne, x_cmplt, x_cmpge, x_cmpgt, x_cmple, x_null, x_nonnull, x_acmpeq, x_acmpne, x_get, x_put, x_putz, x_ald, x_ast, x_bast, x_zast, x_aast, x_alen, x_obj, x_ret, x_retz, x_vret, x_max, x_min, x_copy, x_i2l, qg_none, qg_inl, qg_inr, qg_ite, xr1, xr0, xrE, xri, xl0, xl1, xl2, xl3, xl4, xl5, xl6, xl7, xl8, xl9, xl10, xs0, xs1, xs2, xs3, xs4, xs5, xs6, xs7, xs8, xs9, xs10, xi0, xi1, xi2, xi3, xi4, xi5, xi6, xi7, xi8, xi9, xi10, xc0, xc1, xc2, xc3, xc4, xc5, xc6, xc7, xv1, xv2, xv3, xv4, xv5, xv6, xv7, dT_le, dF_le, dT_lt, dF_lt, dT_eq, dF_eq, qa_up_hit, qa_up_no, k77, k86, r13, or1, or2, ho, h14, g2, g3, g4]
