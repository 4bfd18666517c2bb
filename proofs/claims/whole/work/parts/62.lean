def zAdd (A : zA) (b t k s v : Int) : zA := (A.1, fun b' j => if b' = b ∧ j = 5 then A.2.1 b 5 + 1 else if b' = b ∧ j = 6 then A.2.1 b 6 + s else A.2.1 b' j, A.2.2.1, fun b' p j => if b' = b ∧ p = A.2.1 b 5 then (if j = 0 then t else if j = 1 then k else if j = 2 then s else v) else A.2.2.2 b' p j)
theorem zAdd_B (A : zA) (b t k s v b' j : Int) : (zAdd A b t k s v).2.1 b' j = if b' = b ∧ j = 5 then A.2.1 b 5 + 1 else if b' = b ∧ j = 6 then A.2.1 b 6 + s else A.2.1 b' j := rfl
theorem zAdd_j (A : zA) (b t k s v b' : Int) {j : Int} (h5 : j ≠ 5) (h6 : j ≠ 6) : (zAdd A b t k s v).2.1 b' j = A.2.1 b' j := by
  rw [zAdd_B, if_neg (fun z => h5 z.2), if_neg (fun z => h6 z.2)]
theorem zAdd_o (A : zA) {b t k s v b' : Int} (j : Int) (h : b' ≠ b) : (zAdd A b t k s v).2.1 b' j = A.2.1 b' j := by
  rw [zAdd_B, if_neg (fun z => h z.1), if_neg (fun z => h z.1)]
theorem zAdd_5 (A : zA) (b t k s v : Int) : (zAdd A b t k s v).2.1 b 5 = A.2.1 b 5 + 1 := if_pos ⟨rfl, rfl⟩
theorem zAdd_6 (A : zA) (b t k s v : Int) : (zAdd A b t k s v).2.1 b 6 = A.2.1 b 6 + s := by
  rw [zAdd_B, if_neg (by omega), if_pos ⟨rfl, rfl⟩]
theorem zAdd_n (A : zA) {b t k s v b' p : Int} (j : Int) (h : ¬ (b' = b ∧ p = A.2.1 b 5)) : (zAdd A b t k s v).2.2.2 b' p j = A.2.2.2 b' p j := if_neg h
theorem zAdd_y (A : zA) (b t k s v j : Int) : (zAdd A b t k s v).2.2.2 b (A.2.1 b 5) j = if j = 0 then t else if j = 1 then k else if j = 2 then s else v := if_pos ⟨rfl, rfl⟩
theorem zAdd_bl {A : zA} {b t k s v b' : Int} : zBl (zAdd A b t k s v) b' ↔ zBl A b' := by
  unfold zBl
  rw [zAdd_j A b t k s v b' (by decide) (by decide)]
theorem zlive_add {A : zA} {b t k s v : Int} (hb : zBl A b) : zlive (zAdd A b t k s v) = zlive A + 1 := by
  obtain ⟨b1, b2, b3⟩ := hb
  rw [zlive_4, zlive_4]
  simp only [zAdd_B]
  have : b = 0 ∨ b = 1 ∨ b = 2 ∨ b = 3 := by omega
  rcases this with rfl | rfl | rfl | rfl <;> simp [b3] <;> omega
theorem zW_add {M : Int} {A : zA} (hW : zW M A) {b t k s v : Int} (hb : zBl A b) (h5 : A.2.1 b 5 < 512) (hM : M < 500000) (ht : 0 ≤ t ∧ t ≤ A.1 0) (hk : 0 ≤ k ∧ k ≤ 9) (hs : 1 ≤ s ∧ s ≤ 9) (hv : -99 ≤ v ∧ v ≤ 99) : zW (M + 1) (zAdd A b t k s v) := by
  obtain ⟨⟨w0, w1, w2, w3, w4, w5⟩, w6, w7, w8, w9, wB, wE, wR, wD⟩ := id hW
  have hl := zlive_add (t := t) (k := k) (s := s) (v := v) hb
  have hg : zgs (zAdd A b t k s v) = zgs A := rfl
  have hj := fun b' => @zAdd_j A b t k s v b'
  refine ⟨⟨by omega, by omega, w2, w3, w4, w5⟩, w6, by rw [hl, hg]; omega, fun b' b1 b2 => by rw [hj b' (by decide) (by decide)]; exact w8 b' b1 b2, w9, fun b' b1 b2 b3 => ?_, fun b' p b1 b2 b3 p1 p2 => ?_, fun r r1 r2 r3 => ?_, wD⟩
  · rw [hj b' (by decide) (by decide)] at b3
    have hz := wB b' b1 b2 b3
    unfold zWb at hz ⊢
    rw [hj b' (j := 4) (by decide) (by decide), hj b' (j := 7) (by decide) (by decide)]
    obtain ⟨q1, q2, q3, q4, q5, q6⟩ := hz
    by_cases e : b' = b
    · subst e
      rw [zAdd_5, zAdd_6]
      refine ⟨q1, by omega, by omega, q4, q5, ?_⟩
      have en : (A.2.1 b' 5 + 1 - A.2.1 b' 4).toNat = (A.2.1 b' 5 - A.2.1 b' 4).toNat + 1 := by omega
      rw [en, zsz_add, q6]
      have e2 : A.2.1 b' 4 + ((A.2.1 b' 5 - A.2.1 b' 4).toNat : Int) = A.2.1 b' 5 := by omega
      rw [e2, zAdd_y]
      have e3 := zsz_congr (f := fun p => (zAdd A b' t k s v).2.2.2 b' p 2) (g := fun p => A.2.2.2 b' p 2) (A.2.1 b' 5 - A.2.1 b' 4).toNat (A.2.1 b' 4) (fun q a1 a2 => zAdd_n A 2 (by omega))
      rw [e3]
      rfl
    · rw [zAdd_o A 5 e, zAdd_o A 6 e]
      refine ⟨q1, q2, q3, q4, q5, ?_⟩
      rw [q6]
      exact (zsz_congr _ _ (fun q _ _ => zAdd_n A 2 (fun z => e z.1))).symm
  · rw [hj b' (by decide) (by decide)] at b3 p1
    by_cases e : b' = b ∧ p = A.2.1 b 5
    · obtain ⟨e1, e2⟩ := e
      subst e1
      subst e2
      unfold zWe
      simp only [zAdd_y]
      simp
      exact ⟨ht.1, ht.2, hk.1, hk.2, hs.1, hs.2, hv.1, hv.2⟩
    · have p2' : p < A.2.1 b' 5 := by
        by_cases e' : b' = b
        · subst e'
          rw [zAdd_5] at p2
          have : p ≠ A.2.1 b' 5 := fun z => e ⟨rfl, z⟩
          omega
        · rw [zAdd_o A 5 e'] at p2
          exact p2
      have := wE b' p b1 b2 b3 p1 p2'
      unfold zWe at this ⊢
      simp only [zAdd_n A _ e]
      exact this
  · have := wR r r1 r2 r3
    unfold zWr at this ⊢
    show zBl (zAdd A b t k s v) (A.2.2.1 r 1) ∧ (zAdd A b t k s v).2.1 (A.2.2.1 r 1) 4 ≤ A.2.2.1 r 2 ∧ A.2.2.1 r 2 ≤ (zAdd A b t k s v).2.1 (A.2.2.1 r 1) 5 ∧ _
    obtain ⟨q1, q2, q3, q4, q5, q6, q7, q8, q9, q10, q11, q12, q13, q14, q15⟩ := this
    refine ⟨zAdd_bl.mpr q1, by rw [hj _ (by decide) (by decide)]; exact q2, ?_, q4, q5, q6, q7, q8, Int.le_trans q9 (by omega), q10, q11, q12, Int.le_trans q13 (by omega), q14, Int.le_trans q15 (by omega)⟩
    by_cases e : A.2.2.1 r 1 = b
    · rw [e, zAdd_5]; rw [e] at q3; omega
    · rw [zAdd_o A 5 e]; exact q3
theorem RC_add {A : zA} {m m' : Int → Int → Int} {kd : Int → Nat × Int} {S b t k s v e : Int} (hK : KS kd S) (hC : RC A m kd S) (hb : zBl A b) (h45 : A.2.1 b 4 ≤ A.2.1 b 5) (ke : kd e = (9, 0)) (he : ∀ j, 0 ≤ j → j < 4 → m e j = if j = 0 then t else if j = 1 then k else if j = 2 then s else v) (hf : ∀ c, c ≠ S + 4 + 2 * b → c ≠ S + 5 + 2 * b → m' c = m c) (h4 : ∀ j, m' (S + 4 + 2 * b) j = if j = 5 then A.2.1 b 5 + 1 else if j = 6 then A.2.1 b 6 + s else m (S + 4 + 2 * b) j) (h5 : ∀ p, m' (S + 5 + 2 * b) p = if p = A.2.1 b 5 then e else m (S + 5 + 2 * b) p) : RC (zAdd A b t k s v) m' kd S := by
  obtain ⟨⟨f2, f3, f4, fV, fW, f0, f8, f9, f7⟩, e0, e1, eC, eB, eR, eD, eL, eE⟩ := id hC
  obtain ⟨kN, kS, kC, kV, kW, kB, kE, kR, kD, kL⟩ := id hK
  obtain ⟨b1, b2, b3⟩ := hb
  refine ⟨⟨by rw [hf S (by omega) (by omega)]; exact f2, by rw [hf S (by omega) (by omega)]; exact f3, by rw [hf S (by omega) (by omega)]; exact f4, fun b' a1 a2 => ?_, fun r a1 a2 => ?_, fun b' a1 a2 => ?_, fun b' a1 a2 => ?_, fun r a1 a2 => ?_, fun r a1 a2 => ?_⟩, ?_, ?_, fun i i1 i2 => ?_, fun b' j a1 a2 j1 j2 => ?_, fun r j a1 a2 j1 j2 => ?_, fun r j a1 a2 rt j1 j2 => ?_, fun r j a1 a2 rt j1 j2 => ?_, fun b' p a1 a2 bt p1 p2 => ?_⟩
  · rw [hf _ (by omega) (by omega)]; exact fV b' a1 a2
  · rw [hf _ (by omega) (by omega)]; exact fW r a1 a2
  · by_cases h : b' = b
    · rw [h, h4, if_neg (by decide), if_neg (by decide)]; exact f0 b b1 b2
    · rw [hf _ (by omega) (by omega)]; exact f0 b' a1 a2
  · by_cases h : b' = b
    · rw [h, h4, if_neg (by decide), if_neg (by decide)]; exact f8 b b1 b2
    · rw [hf _ (by omega) (by omega)]; exact f8 b' a1 a2
  · rw [hf _ (by omega) (by omega)]; exact f9 r a1 a2
  · rw [hf _ (by omega) (by omega)]; exact f7 r a1 a2
  · rw [hf _ (by omega) (by omega)]; exact e0
  · rw [hf _ (by omega) (by omega)]; exact e1
  · rw [hf _ (by omega) (by omega)]; exact eC i i1 i2
  · by_cases h : b' = b
    · subst h
      rw [h4, zAdd_B]
      by_cases h5' : j = 5
      · rw [if_pos h5', if_pos ⟨rfl, h5'⟩]
      · have h5n : ¬ (b' = b' ∧ j = 5) := fun z => h5' z.2
        rw [if_neg h5', if_neg h5n]
        by_cases h6' : j = 6
        · rw [if_pos h6', if_pos ⟨rfl, h6'⟩]
        · have h6n : ¬ (b' = b' ∧ j = 6) := fun z => h6' z.2
          rw [if_neg h6', if_neg h6n]
          exact eB b' j a1 a2 j1 j2
    · rw [hf _ (by omega) (by omega), zAdd_o A j h]; exact eB b' j a1 a2 j1 j2
  · rw [hf _ (by omega) (by omega)]; exact eR r j a1 a2 j1 j2
  · rw [hf _ (by omega) (by omega)]; exact eD r j a1 a2 rt j1 j2
  · rw [hf _ (by omega) (by omega)]; exact eL r j a1 a2 rt j1 j2
  · have fe : ∀ x, kd x = (9, 0) → m' x = m x := fun x hx => by
      have := hK.entry hx
      exact hf x (by omega) (by omega)
    by_cases h : b' = b ∧ p = A.2.1 b 5
    · obtain ⟨h1, h2⟩ := h
      subst h1
      subst h2
      rw [h5, if_pos rfl]
      refine ⟨ke, fun j j1 j2 => ?_⟩
      rw [fe e ke, he j j1 j2, zAdd_y]
    · have bt' : A.2.1 b' 1 = 1 := by rw [zAdd_j A b t k s v b' (by decide) (by decide)] at bt; exact bt
      have p1' : A.2.1 b' 4 ≤ p := by rw [zAdd_j A b t k s v b' (by decide) (by decide)] at p1; exact p1
      have p2' : p < A.2.1 b' 5 := by
        by_cases e' : b' = b
        · subst e'
          rw [zAdd_5] at p2
          have : p ≠ A.2.1 b' 5 := fun z => h ⟨rfl, z⟩
          omega
        · rw [zAdd_o A 5 e'] at p2
          exact p2
      have hm : m' (S + 5 + 2 * b') p = m (S + 5 + 2 * b') p := by
        by_cases e' : b' = b
        · subst e'
          rw [h5, if_neg (fun z => h ⟨rfl, z⟩)]
        · rw [hf _ (by omega) (by omega)]
      have := eE b' p a1 a2 bt' p1' p2'
      rw [hm]
      refine ⟨this.1, fun j j1 j2 => ?_⟩
      rw [fe _ this.1, zAdd_n A j h]
      exact this.2 j j1 j2
theorem c_addB {m : Int → Int → Int} {kd : Int → Nat × Int} {w : Nat × Nat × Nat} {A : zA} {S : Int} (hK : KS kd S) (hC : RC A m kd S) {M : Int} (hW : zW M A) {b t k s v e : Int} (hb : zBl A b) (h5 : A.2.1 b 5 < 512) (ke : kd e = (9, 0)) (he : ∀ j, 0 ≤ j → j < 4 → m e j = if j = 0 then t else if j = 1 then k else if j = 2 then s else v) (hs : 1 ≤ s ∧ s ≤ 9) : ∃ m', f_X2_add [(1, S + 4 + 2 * b), (1, e)] (m, kd, w) = some (.inl none, (m', kd, w)) ∧ RC (zAdd A b t k s v) m' kd S ∧ zfr m m' S := by
  obtain ⟨⟨f2, f3, f4, fV, fW, f0, f8, f9, f7⟩, e0, e1, eC, eB, eR, eD, eL, eE⟩ := id hC
  obtain ⟨kN, kS, kC, kV, kW, kB, kE, kR, kD, kL⟩ := id hK
  obtain ⟨b1, b2, b3⟩ := id hb
  obtain ⟨n1, n2, n3, n4, n5, n6, n7⟩ := hW.bn hb
  have k6 := kB b b1 b2
  have k8 := kE b b1 b2
  have t5 : m (S + 4 + 2 * b) 5 = A.2.1 b 5 := eB b 5 b1 b2 (by decide) (by decide)
  have t6 : m (S + 4 + 2 * b) 6 = A.2.1 b 6 := eB b 6 b1 b2 (by decide) (by decide)
  have t8 := f8 b b1 b2
  have t2 : m e 2 = s := he 2 (by decide) (by decide)
  have hne := hK.neg ke (by decide)
  have hen := hK.entry ke
  refine ⟨qa_up (qa_up (qa_up m (S + 5 + 2 * b) (A.2.1 b 5) e) (S + 4 + 2 * b) 5 (A.2.1 b 5 + 1)) (S + 4 + 2 * b) 6 (A.2.1 b 6 + s), ?_, RC_add hK hC hb n2 ke he ?_ ?_ ?_, fun c hc => ?_⟩
  · unfold f_X2_add
    refine qa_fn_eq ?_ (by simp)
    simp (disch := omega) [ev_X2_add_0, ev_X2_add_1, B_X2_add_0, B_X2_add_1, x_const, x_iadd, x_isub, x_imul, x_idiv, x_irem, x_ineg, x_dup, x_dup_x1, x_dup2, x_pop, x_goto, x_ifeq, x_ifne, x_iflt, x_ifge, x_ifgt, x_ifle, x_cmpeq, x_cmpne, x_cmplt, x_cmpge, x_cmpgt, x_cmple, x_null, x_nonnull, x_acmpeq, x_acmpne, x_get, x_put, x_putz, x_ald, x_ast, x_bast, x_zast, x_aast, x_alen, x_obj, x_ret, x_retz, x_vret, x_max, x_min, x_copy, x_i2l, qg_none, qg_inl, qg_inr, qg_ite, xr1, xr0, xrE, xri, xl0, xl1, xl2, xl3, xl4, xl5, xl6, xl7, xl8, xl9, xl10, xs0, xs1, xs2, xs3, xs4, xs5, xs6, xs7, xs8, xs9, xs10, xi0, xi1, xi2, xi3, xi4, xi5, xi6, xi7, xi8, xi9, xi10, xc0, xc1, xc2, xc3, xc4, xc5, xc6, xc7, xv1, xv2, xv3, xv4, xv5, xv6, xv7, dT_le, dF_le, dT_lt, dF_lt, dT_eq, dF_eq, qa_up_hit, qa_up_no, k6, k8, ke, t5, t6, t8, t2, hne]
  · intro c c1 c2
    funext i
    rw [qa_up_no _ (fun z => c1 z.1), qa_up_no _ (fun z => c1 z.1), qa_up_no _ (fun z => c2 z.1)]
  · intro j
    unfold qa_up
    by_cases h5' : j = 5
    · subst h5'; simp
    · by_cases h6' : j = 6
      · subst h6'; simp
      · simp only [h5', h6', and_false, if_false]
        rw [if_neg (fun z => by omega)]
  · intro p
    rw [qa_up_no _ (by omega), qa_up_no _ (by omega)]
    unfold qa_up
    by_cases h : p = A.2.1 b 5
    · rw [if_pos ⟨rfl, h⟩, if_pos h]
    · rw [if_neg (fun z => h z.2), if_neg h]
  · funext i
    rw [qa_up_no _ (by omega), qa_up_no _ (by omega), qa_up_no _ (by omega)]
theorem m_adds {m : Int → Int → Int} {kd : Int → Nat × Int} {w : Nat × Nat × Nat} {A : zA} (hK : KM kd) (hR : RM m) (hQ : QR A (m 79)) {M : Int} (hW : zW M A) {b t k s v : Int} (hb : zBl A b) (h5 : A.2.1 b 5 < 512) (hk : 0 ≤ k ∧ k ≤ 9) (hs : 1 ≤ s ∧ s ≤ 9) (hv : -99 ≤ v ∧ v ≤ 99) : ∃ m', f_X12_adds [(1, 77), (0, b), (0, t), (0, (k * 10 + s) * 200 + v + 99)] (m, kd, w) = some (.inl none, (m', kd, w)) ∧ QR (zAdd A b t k s v) (m' 79) ∧ (∀ c, c ≠ 79 → m' c = m c) := by
  obtain ⟨b1, b2, b3⟩ := id hb
  obtain ⟨n1, n2, n3, n4, n5, n6, n7⟩ := hW.bn hb
  obtain ⟨k77, k78, k79, k80, k81, k82, k83, k84, k85, k86, k87, k88, k89, k90⟩ := id hK
  obtain ⟨r1, r2, r3, r4, r6, r7, r8, r12, r13, r15, r23, r25, r26⟩ := id hR
  obtain ⟨g0, g1, gC, gI, gB, gJ, gR, gD, gE⟩ := id hQ
  obtain ⟨u1, u2, u3, u4, u5, u6⟩ := gB b b1 b2 b3
  have hrs : ((k * 10 + s) * 200 + v + 99) / 200 % 10 = s := by omega
  generalize hrr : (k * 10 + s) * 200 + v + 99 = rest at hrs ⊢
  have hr0 : 0 ≤ rest := by omega
  refine ⟨qa_up (qa_up (qa_up (qa_up m 79 (190 + (1804 * b + (A.2.1 b 5 - A.2.1 b 4))) t) 79 (7406 + (1804 * b + (A.2.1 b 5 - A.2.1 b 4))) rest) 79 (6 + 7 * b + 2) (A.2.1 b 5 - A.2.1 b 4 + 1)) 79 (6 + 7 * b + 3) (A.2.1 b 6 + s), ?_, ?_, fun c hc => ?_⟩
  · unfold f_X12_adds
    refine qa_fn_eq ?_ (by simp)
    simp (disch := omega) [ev_X12_adds_0, ev_X12_adds_1, B_X12_adds_0, B_X12_adds_1, x_const, x_iadd, x_isub, x_imul, x_idiv, x_irem, x_ineg, x_dup, x_dup_x1, x_dup2, x_pop, x_goto, x_ifeq, x_ifne, x_iflt, x_ifge, x_ifgt, x_ifle, x_cmpeq, x_cmpne, x_cmplt, x_cmpge, x_cmpgt, x_cmple, x_null, x_nonnull, x_acmpeq, x_acmpne, x_get, x_put, x_putz, x_ald, x_ast, x_bast, x_zast, x_aast, x_alen, x_obj, x_ret, x_retz, x_vret, x_max, x_min, x_copy, x_i2l, qg_none, qg_inl, qg_inr, qg_ite, xr1, xr0, xrE, xri, xl0, xl1, xl2, xl3, xl4, xl5, xl6, xl7, xl8, xl9, xl10, xs0, xs1, xs2, xs3, xs4, xs5, xs6, xs7, xs8, xs9, xs10, xi0, xi1, xi2, xi3, xi4, xi5, xi6, xi7, xi8, xi9, xi10, xc0, xc1, xc2, xc3, xc4, xc5, xc6, xc7, xv1, xv2, xv3, xv4, xv5, xv6, xv7, dT_le, dF_le, dT_lt, dF_lt, dT_eq, dF_eq, qa_up_hit, qa_up_no, k77, k79, r2, m_ofBranch hK hR, m_entryAt, m_branchAt, u2, u3, hrs]
  · have nn : ∀ i, i ≠ 190 + (1804 * b + (A.2.1 b 5 - A.2.1 b 4)) → i ≠ 7406 + (1804 * b + (A.2.1 b 5 - A.2.1 b 4)) → i ≠ 6 + 7 * b + 2 → i ≠ 6 + 7 * b + 3 → qa_up (qa_up (qa_up (qa_up m 79 (190 + (1804 * b + (A.2.1 b 5 - A.2.1 b 4))) t) 79 (7406 + (1804 * b + (A.2.1 b 5 - A.2.1 b 4))) rest) 79 (6 + 7 * b + 2) (A.2.1 b 5 - A.2.1 b 4 + 1)) 79 (6 + 7 * b + 3) (A.2.1 b 6 + s) 79 i = m 79 i := fun i i1 i2 i3 i4 => by
      rw [qa_up_no _ (fun z => i4 z.2), qa_up_no _ (fun z => i3 z.2), qa_up_no _ (fun z => i2 z.2), qa_up_no _ (fun z => i1 z.2)]
    refine QR_br hQ (k := b) (g' := A.1) (B' := (zAdd A b t k s v).2.1) (E' := (zAdd A b t k s v).2.2.2) b1 b2 (by rw [nn 0 (by omega) (by omega) (by omega) (by omega)]; exact g0) (by rw [nn 1 (by omega) (by omega) (by omega) (by omega)]; exact g1) (fun i i1 i2 => by rw [nn _ (by omega) (by omega) (by omega) (by omega)]; exact gC i i1 i2) (fun i i1 i2 => nn i (by omega) (by omega) (by omega) (by omega)) (fun b' i a1 a2 a3 i1 i2 => nn _ (by omega) (by omega) (by omega) (by omega)) (fun b' i a1 a2 a3 i1 i2 => ⟨nn _ (by omega) (by omega) (by omega) (by omega), nn _ (by omega) (by omega) (by omega) (by omega)⟩) (fun b' j h => zAdd_o A j h) (fun b' p j h => zAdd_n A j (fun z => h z.1)) (fun b' _ a1 a2 a3 => by have := hW.bn ⟨a1, a2, a3⟩; omega) ?_ (fun _ => ?_) (fun _ i i1 i2 => ?_)
    · rw [nn _ (by omega) (by omega) (by omega) (by omega), zAdd_j A b t k s v b (by decide) (by decide)]; exact gI b b1 b2
    · rw [zAdd_5, zAdd_6, zAdd_j A b t k s v b (j := 4) (by decide) (by decide), zAdd_j A b t k s v b (j := 2) (by decide) (by decide), zAdd_j A b t k s v b (j := 3) (by decide) (by decide), zAdd_j A b t k s v b (j := 7) (by decide) (by decide)]
      rw [nn _ (by omega) (by omega) (by omega) (by omega), nn (6 + 7 * b + 4) (by omega) (by omega) (by omega) (by omega), nn (6 + 7 * b + 5) (by omega) (by omega) (by omega) (by omega), nn (6 + 7 * b + 6) (by omega) (by omega) (by omega) (by omega)]
      refine ⟨u1, ?_, ?_, u4, u5, u6⟩
      · rw [qa_up_no _ (by omega), qa_up_hit]; omega
      · rw [qa_up_hit]
    · rw [zAdd_5, zAdd_j A b t k s v b (j := 4) (by decide) (by decide)] at i2
      rw [zAdd_j A b t k s v b (j := 4) (by decide) (by decide)]
      by_cases h : i = A.2.1 b 5 - A.2.1 b 4
      · have e5 : A.2.1 b 4 + i = A.2.1 b 5 := by omega
        rw [e5, zAdd_y, zAdd_y, zAdd_y, zAdd_y, h]
        refine ⟨?_, ?_⟩
        · rw [qa_up_no _ (by omega), qa_up_no _ (by omega), qa_up_no _ (by omega), qa_up_hit]; rfl
        · rw [qa_up_no _ (by omega), qa_up_no _ (by omega), qa_up_hit, ← hrr]; rfl
      · rw [zAdd_n A 0 (by omega), zAdd_n A 1 (by omega), zAdd_n A 2 (by omega), zAdd_n A 3 (by omega)]
        rw [nn _ (by omega) (by omega) (by omega) (by omega), nn _ (by omega) (by omega) (by omega) (by omega)]
        exact gE b i b1 b2 b3 i1 (by omega)
  · funext i
    rw [qa_up_no _ (fun z => hc z.1), qa_up_no _ (fun z => hc z.1), qa_up_no _ (fun z => hc z.1), qa_up_no _ (fun z => hc z.1)]
