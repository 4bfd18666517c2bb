def zKids (A : zA) (b : Int) : Int := zsum (fun k => if A.2.1 k 1 = 1 ∧ A.2.1 k 2 = b then 1 else 0) 4
def zWhy (A : zA) (b : Int) : Int := if b = 0 then 6 else if 0 < zKids A b then 7 else 0
theorem zKids_0 {A : zA} (b : Int) : 0 ≤ zKids A b ∧ zKids A b ≤ 4 := by
  have := zsf_01 (g := fun k => if A.2.1 k 1 = 1 ∧ A.2.1 k 2 = b then 1 else 0) (fun i => by split <;> omega) 4 0
  exact this
theorem zKids_n {A : zA} {b : Int} (h : zKids A b = 0) {x : Int} (hx : zBl A x) : A.2.1 x 2 ≠ b := by
  intro e
  obtain ⟨x1, x2, x3⟩ := hx
  have hg : ∀ i, 0 ≤ (if A.2.1 i 1 = 1 ∧ A.2.1 i 2 = b then 1 else 0 : Int) := fun i => by split <;> omega
  have h1 : (if A.2.1 x 1 = 1 ∧ A.2.1 x 2 = b then 1 else 0 : Int) = 1 := if_pos ⟨x3, e⟩
  unfold zKids at h
  simp only [zsf] at h
  have g0 := hg 0
  have g1 := hg (0 + 1)
  have g2 := hg (0 + 1 + 1)
  have g3 := hg (0 + 1 + 1 + 1)
  have : x = 0 ∨ x = 0 + 1 ∨ x = 0 + 1 + 1 ∨ x = 0 + 1 + 1 + 1 := by omega
  rcases this with q | q | q | q <;> rw [q] at h1 <;> omega
theorem zReaders_0 (A : zA) (b : Int) : 0 ≤ zReaders A b ∧ zReaders A b ≤ 6 := by
  have := zsf_01 (g := fun r => if zIn A r b then 1 else 0) (fun i => by split <;> omega) 6 0
  exact this
theorem zsum6_0 {g : Int → Int} (hg : ∀ i, 0 ≤ g i) (h : zsum g 6 = 0) {x : Int} (x1 : 0 ≤ x) (x2 : x < 6) : g x = 0 := by
  simp only [zsf] at h
  have g0 := hg 0
  have g1 := hg (0 + 1)
  have g2 := hg (0 + 1 + 1)
  have g3 := hg (0 + 1 + 1 + 1)
  have g4 := hg (0 + 1 + 1 + 1 + 1)
  have g5 := hg (0 + 1 + 1 + 1 + 1 + 1)
  have : x = 0 ∨ x = 0 + 1 ∨ x = 0 + 1 + 1 ∨ x = 0 + 1 + 1 + 1 ∨ x = 0 + 1 + 1 + 1 + 1 ∨ x = 0 + 1 + 1 + 1 + 1 + 1 := by omega
  rcases this with q | q | q | q | q | q <;> rw [q] <;> omega
theorem zReaders_n {A : zA} {b : Int} (h : zReaders A b = 0) (r : Int) : ¬ zIn A r b := by
  intro e
  have := zsum6_0 (g := fun r => if zIn A r b then 1 else 0) (fun i => by split <;> omega) h e.1.1 e.1.2.1
  rw [if_pos e] at this
  omega
theorem c_reason {m : Int → Int → Int} {kd : Int → Nat × Int} {w : Nat × Nat × Nat} {A : zA} {S : Int} (hK : KS kd S) (hC : RC A m kd S) {M : Int} (hW : zW M A) (hx : kd 0 = (14, 0)) (hn : m 0 1 = S) {b : Int} (hb : 0 ≤ b ∧ b < 4) : f_X11_reasonToStay [(1, 0), (1, S + 4 + 2 * b)] (m, kd, w) = some (.inl (some (0, if zWhy A b = 0 then -1 else zWhy A b)), (m, kd, w)) := by
  have ch := c_childrenOf (w := w) hK hC hW hb
  have k6 := hK.2.2.2.2.2.1 b hb.1 hb.2
  have t0 := hC.1.2.2.2.2.2.1 b hb.1 hb.2
  have kS := hK.2.1
  have hk := zKids_0 (A := A) b
  have ek : zsum (fun k => if A.2.1 k 1 = 1 ∧ A.2.1 k 2 = b then 1 else 0) 4 = zKids A b := rfl
  rw [ek] at ch
  unfold zWhy
  by_cases h0 : b = 0
  · rw [if_pos h0]
    have t0' : m (S + 4 + 2 * b) 0 = 0 := by rw [t0]; exact h0
    unfold f_X11_reasonToStay
    refine qa_fn_eq ?_ (by simp)
    simp (disch := omega) [ev_X11_reasonToStay_0, ev_X11_reasonToStay_1, ev_X11_reasonToStay_2, ev_X11_reasonToStay_3, B_X11_reasonToStay_0, B_X11_reasonToStay_1, B_X11_reasonToStay_2, B_X11_reasonToStay_3, x_const, x_iadd, x_isub, x_imul, x_idiv, x_irem, x_ineg, x_dup, x_dup_x1, x_dup2, x_pop, x_goto, x_ifeq, x_ifne, x_iflt, x_ifge, x_ifgt, x_ifle, x_cmpeq, x_cmpne, x_cmplt, x_cmpge, x_cmpgt, x_cmple, x_null, x_nonnull, x_acmpeq, x_acmpne, x_get, x_put, x_putz, x_ald, x_ast, x_bast, x_zast, x_aast, x_alen, x_obj, x_ret, x_retz, x_vret, x_max, x_min, x_copy, x_i2l, qg_none, qg_inl, qg_inr, qg_ite, xr1, xr0, xrE, xri, xl0, xl1, xl2, xl3, xl4, xl5, xl6, xl7, xl8, xl9, xl10, xs0, xs1, xs2, xs3, xs4, xs5, xs6, xs7, xs8, xs9, xs10, xi0, xi1, xi2, xi3, xi4, xi5, xi6, xi7, xi8, xi9, xi10, xc0, xc1, xc2, xc3, xc4, xc5, xc6, xc7, xv1, xv2, xv3, xv4, xv5, xv6, xv7, dT_le, dF_le, dT_lt, dF_lt, hx, hn, kS, k6, t0']
  · simp only [if_neg h0]
    by_cases h1 : 0 < zKids A b
    · simp only [if_pos h1]
      unfold f_X11_reasonToStay
      refine qa_fn_eq ?_ (by simp)
      simp (disch := omega) [ev_X11_reasonToStay_0, ev_X11_reasonToStay_1, ev_X11_reasonToStay_2, ev_X11_reasonToStay_3, B_X11_reasonToStay_0, B_X11_reasonToStay_1, B_X11_reasonToStay_2, B_X11_reasonToStay_3, x_const, x_iadd, x_isub, x_imul, x_idiv, x_irem, x_ineg, x_dup, x_dup_x1, x_dup2, x_pop, x_goto, x_ifeq, x_ifne, x_iflt, x_ifge, x_ifgt, x_ifle, x_cmpeq, x_cmpne, x_cmplt, x_cmpge, x_cmpgt, x_cmple, x_null, x_nonnull, x_acmpeq, x_acmpne, x_get, x_put, x_putz, x_ald, x_ast, x_bast, x_zast, x_aast, x_alen, x_obj, x_ret, x_retz, x_vret, x_max, x_min, x_copy, x_i2l, qg_none, qg_inl, qg_inr, qg_ite, xr1, xr0, xrE, xri, xl0, xl1, xl2, xl3, xl4, xl5, xl6, xl7, xl8, xl9, xl10, xs0, xs1, xs2, xs3, xs4, xs5, xs6, xs7, xs8, xs9, xs10, xi0, xi1, xi2, xi3, xi4, xi5, xi6, xi7, xi8, xi9, xi10, xc0, xc1, xc2, xc3, xc4, xc5, xc6, xc7, xv1, xv2, xv3, xv4, xv5, xv6, xv7, dT_le, dF_le, dT_lt, dF_lt, hx, hn, kS, k6, t0, h0, ch, h1]
    · simp only [if_neg h1, if_pos]
      unfold f_X11_reasonToStay
      refine qa_fn_eq ?_ (by simp)
      simp (disch := omega) [ev_X11_reasonToStay_0, ev_X11_reasonToStay_1, ev_X11_reasonToStay_2, ev_X11_reasonToStay_3, B_X11_reasonToStay_0, B_X11_reasonToStay_1, B_X11_reasonToStay_2, B_X11_reasonToStay_3, x_const, x_iadd, x_isub, x_imul, x_idiv, x_irem, x_ineg, x_dup, x_dup_x1, x_dup2, x_pop, x_goto, x_ifeq, x_ifne, x_iflt, x_ifge, x_ifgt, x_ifle, x_cmpeq, x_cmpne, x_cmplt, x_cmpge, x_cmpgt, x_cmple, x_null, x_nonnull, x_acmpeq, x_acmpne, x_get, x_put, x_putz, x_ald, x_ast, x_bast, x_zast, x_aast, x_alen, x_obj, x_ret, x_retz, x_vret, x_max, x_min, x_copy, x_i2l, qg_none, qg_inl, qg_inr, qg_ite, xr1, xr0, xrE, xri, xl0, xl1, xl2, xl3, xl4, xl5, xl6, xl7, xl8, xl9, xl10, xs0, xs1, xs2, xs3, xs4, xs5, xs6, xs7, xs8, xs9, xs10, xi0, xi1, xi2, xi3, xi4, xi5, xi6, xi7, xi8, xi9, xi10, xc0, xc1, xc2, xc3, xc4, xc5, xc6, xc7, xv1, xv2, xv3, xv4, xv5, xv6, xv7, dT_le, dF_le, dT_lt, dF_lt, hx, hn, kS, k6, t0, h0, ch, h1]
theorem m_whyStays {m : Int → Int → Int} {kd : Int → Nat × Int} {w : Nat × Nat × Nat} {A : zA} (hK : KM kd) (hR : RM m) (hQ : QR A (m 79)) {M : Int} (hW : zW M A) (b : Int) : f_X12_whyStays [(1, 77), (0, b)] (m, kd, w) = some (.inl (some (0, zWhy A b)), (m, kd, w)) := by
  have ch := m_childrenOf (w := w) hK hR hQ b
  have ek : zsum (fun k => if A.2.1 k 1 = 1 ∧ A.2.1 k 2 = b then 1 else 0) 4 = zKids A b := rfl
  rw [ek] at ch
  have hk := zKids_0 (A := A) b
  have k77 := hK.1
  unfold zWhy
  by_cases h0 : b = 0
  · simp only [if_pos h0]
    unfold f_X12_whyStays
    refine qa_fn_eq ?_ (by simp)
    simp (disch := omega) [ev_X12_whyStays_0, ev_X12_whyStays_1, ev_X12_whyStays_2, ev_X12_whyStays_3, B_X12_whyStays_0, B_X12_whyStays_1, B_X12_whyStays_2, B_X12_whyStays_3, x_const, x_iadd, x_isub, x_imul, x_idiv, x_irem, x_ineg, x_dup, x_dup_x1, x_dup2, x_pop, x_goto, x_ifeq, x_ifne, x_iflt, x_ifge, x_ifgt, x_ifle, x_cmpeq, x_cmpne, x_cmplt, x_cmpge, x_cmpgt, x_cmple, x_null, x_nonnull, x_acmpeq, x_acmpne, x_get, x_put, x_putz, x_ald, x_ast, x_bast, x_zast, x_aast, x_alen, x_obj, x_ret, x_retz, x_vret, x_max, x_min, x_copy, x_i2l, qg_none, qg_inl, qg_inr, qg_ite, xr1, xr0, xrE, xri, xl0, xl1, xl2, xl3, xl4, xl5, xl6, xl7, xl8, xl9, xl10, xs0, xs1, xs2, xs3, xs4, xs5, xs6, xs7, xs8, xs9, xs10, xi0, xi1, xi2, xi3, xi4, xi5, xi6, xi7, xi8, xi9, xi10, xc0, xc1, xc2, xc3, xc4, xc5, xc6, xc7, xv1, xv2, xv3, xv4, xv5, xv6, xv7, dT_le, dF_le, dT_lt, dF_lt, k77, h0]
  · simp only [if_neg h0]
    by_cases h1 : 0 < zKids A b
    · simp only [if_pos h1]
      unfold f_X12_whyStays
      refine qa_fn_eq ?_ (by simp)
      simp (disch := omega) [ev_X12_whyStays_0, ev_X12_whyStays_1, ev_X12_whyStays_2, ev_X12_whyStays_3, B_X12_whyStays_0, B_X12_whyStays_1, B_X12_whyStays_2, B_X12_whyStays_3, x_const, x_iadd, x_isub, x_imul, x_idiv, x_irem, x_ineg, x_dup, x_dup_x1, x_dup2, x_pop, x_goto, x_ifeq, x_ifne, x_iflt, x_ifge, x_ifgt, x_ifle, x_cmpeq, x_cmpne, x_cmplt, x_cmpge, x_cmpgt, x_cmple, x_null, x_nonnull, x_acmpeq, x_acmpne, x_get, x_put, x_putz, x_ald, x_ast, x_bast, x_zast, x_aast, x_alen, x_obj, x_ret, x_retz, x_vret, x_max, x_min, x_copy, x_i2l, qg_none, qg_inl, qg_inr, qg_ite, xr1, xr0, xrE, xri, xl0, xl1, xl2, xl3, xl4, xl5, xl6, xl7, xl8, xl9, xl10, xs0, xs1, xs2, xs3, xs4, xs5, xs6, xs7, xs8, xs9, xs10, xi0, xi1, xi2, xi3, xi4, xi5, xi6, xi7, xi8, xi9, xi10, xc0, xc1, xc2, xc3, xc4, xc5, xc6, xc7, xv1, xv2, xv3, xv4, xv5, xv6, xv7, dT_le, dF_le, dT_lt, dF_lt, k77, h0, ch, h1]
    · simp only [if_neg h1]
      unfold f_X12_whyStays
      refine qa_fn_eq ?_ (by simp)
      simp (disch := omega) [ev_X12_whyStays_0, ev_X12_whyStays_1, ev_X12_whyStays_2, ev_X12_whyStays_3, B_X12_whyStays_0, B_X12_whyStays_1, B_X12_whyStays_2, B_X12_whyStays_3, x_const, x_iadd, x_isub, x_imul, x_idiv, x_irem, x_ineg, x_dup, x_dup_x1, x_dup2, x_pop, x_goto, x_ifeq, x_ifne, x_iflt, x_ifge, x_ifgt, x_ifle, x_cmpeq, x_cmpne, x_cmplt, x_cmpge, x_cmpgt, x_cmple, x_null, x_nonnull, x_acmpeq, x_acmpne, x_get, x_put, x_putz, x_ald, x_ast, x_bast, x_zast, x_aast, x_alen, x_obj, x_ret, x_retz, x_vret, x_max, x_min, x_copy, x_i2l, qg_none, qg_inl, qg_inr, qg_ite, xr1, xr0, xrE, xri, xl0, xl1, xl2, xl3, xl4, xl5, xl6, xl7, xl8, xl9, xl10, xs0, xs1, xs2, xs3, xs4, xs5, xs6, xs7, xs8, xs9, xs10, xi0, xi1, xi2, xi3, xi4, xi5, xi6, xi7, xi8, xi9, xi10, xc0, xc1, xc2, xc3, xc4, xc5, xc6, xc7, xv1, xv2, xv3, xv4, xv5, xv6, xv7, dT_le, dF_le, dT_lt, dF_lt, k77, h0, ch, h1]
def zDrop (A : zA) (b : Int) : zA := (A.1, fun b' j => if b' = b ∧ j = 1 then 0 else A.2.1 b' j, A.2.2)
theorem zDrop_B (A : zA) (b b' j : Int) : (zDrop A b).2.1 b' j = if b' = b ∧ j = 1 then 0 else A.2.1 b' j := rfl
theorem zDrop_j (A : zA) {b b' j : Int} (h : j ≠ 1) : (zDrop A b).2.1 b' j = A.2.1 b' j := if_neg (fun z => h z.2)
theorem zDrop_o (A : zA) {b b' : Int} (j : Int) (h : b' ≠ b) : (zDrop A b).2.1 b' j = A.2.1 b' j := if_neg (fun z => h z.1)
theorem zDrop_b (A : zA) (b : Int) : (zDrop A b).2.1 b 1 = 0 := if_pos ⟨rfl, rfl⟩
theorem zDrop_bl {A : zA} {b b' : Int} : zBl (zDrop A b) b' ↔ zBl A b' ∧ b' ≠ b := by
  unfold zBl
  by_cases h : b' = b
  · subst h
    rw [zDrop_b]
    constructor
    · intro z; omega
    · intro z; exact absurd rfl z.2
  · rw [zDrop_o A 1 h]
    constructor
    · intro z; exact ⟨z, h⟩
    · intro z; exact z.1
theorem zW_drop {M : Int} {A : zA} (hW : zW M A) {b : Int} (hb : zBl A b) (hr : ∀ r, ¬ zIn A r b) : zW M (zDrop A b) := by
  have hbn := hW.bn hb
  have hl : zlive (zDrop A b) ≤ zlive A := by
    obtain ⟨b1, b2, b3⟩ := hb
    rw [zlive_4, zlive_4]
    simp only [zDrop_B]
    have : b = 0 ∨ b = 1 ∨ b = 2 ∨ b = 3 := by omega
    rcases this with rfl | rfl | rfl | rfl <;> simp [b3] <;> omega
  obtain ⟨⟨w0, w1, w2, w3, w4, w5⟩, w6, w7, w8, w9, wB, wE, wR, wD⟩ := id hW
  have al : ∀ b', (zDrop A b).2.1 b' 1 = 1 → b' ≠ b ∧ A.2.1 b' 1 = 1 := fun b' h => by
    by_cases e : b' = b
    · subst e; rw [zDrop_b] at h; omega
    · rw [zDrop_o A 1 e] at h; exact ⟨e, h⟩
  refine ⟨⟨w0, w1, w2, w3, w4, w5⟩, w6, by show zgs A + zlive (zDrop A b) ≤ M; omega, fun b' b1 b2 => ?_, w9, fun b' b1 b2 b3 => ?_, fun b' p b1 b2 b3 p1 p2 => ?_, fun r r1 r2 r3 => ?_, wD⟩
  · by_cases e : b' = b
    · rw [e, zDrop_b]; exact Or.inl rfl
    · rw [zDrop_o A 1 e]; exact w8 b' b1 b2
  · obtain ⟨e, h⟩ := al b' b3
    have := wB b' b1 b2 h
    unfold zWb at this ⊢
    simp only [zDrop_o A _ e]
    exact this
  · obtain ⟨e, h⟩ := al b' b3
    rw [zDrop_o A _ e] at p1 p2
    exact wE b' p b1 b2 h p1 p2
  · have := wR r r1 r2 r3
    unfold zWr at this ⊢
    have e : A.2.2.1 r 1 ≠ b := fun z => hr r ⟨⟨r1, r2, r3⟩, z⟩
    show zBl (zDrop A b) (A.2.2.1 r 1) ∧ (zDrop A b).2.1 (A.2.2.1 r 1) 4 ≤ A.2.2.1 r 2 ∧ A.2.2.1 r 2 ≤ (zDrop A b).2.1 (A.2.2.1 r 1) 5 ∧ _
    rw [zDrop_o A _ e, zDrop_o A _ e]
    exact ⟨zDrop_bl.mpr ⟨this.1, e⟩, this.2⟩
theorem RC_drop {A : zA} {m : Int → Int → Int} {kd : Int → Nat × Int} {S b : Int} (hK : KS kd S) (hC : RC A m kd S) (hb : 0 ≤ b ∧ b < 4) : RC (zDrop A b) (qa_up m (S + 4 + 2 * b) 1 0) kd S ∧ zfr m (qa_up m (S + 4 + 2 * b) 1 0) S := by
  obtain ⟨⟨f2, f3, f4, fV, fW, f0, f8, f9, f7⟩, e0, e1, eC, eB, eR, eD, eL, eE⟩ := id hC
  obtain ⟨kN, kS, kC, kV, kW, kB, kE, kR, kD, kL⟩ := id hK
  obtain ⟨b1, b2⟩ := hb
  refine ⟨RC_br hK hC (k := b) (B' := (zDrop A b).2.1) b1 b2 (fun c hc => ?_) ?_ ?_ (fun b' j h => zDrop_o A j h) (fun j j1 j2 => ?_) (fun h => ?_), fun c hc => ?_⟩
  · funext i; exact qa_up_no _ (fun z => hc z.1)
  · rw [qa_up_no _ (by omega)]; exact f0 b b1 b2
  · rw [qa_up_no _ (by omega)]; exact f8 b b1 b2
  · by_cases e : j = 1
    · subst e; rw [qa_up_hit, zDrop_b]
    · rw [qa_up_no _ (fun z => e z.2), zDrop_j A e]; exact eB b j b1 b2 j1 j2
  · rw [zDrop_b] at h; omega
  · funext i; exact qa_up_no _ (by omega)
theorem QR_drop {M : Int} {A : zA} {ρ ρ' : Int → Int} (hQ : QR A ρ) (hW : zW M A) {b : Int} (hb : 0 ≤ b ∧ b < 4) (h : ∀ i, i ≠ 6 + 7 * b → ρ' i = ρ i) (h0 : ρ' (6 + 7 * b) = 0) : QR (zDrop A b) ρ' := by
  obtain ⟨g0, g1, gC, gI, gB, gJ, gR, gD, gE⟩ := id hQ
  obtain ⟨b1, b2⟩ := hb
  refine QR_br hQ (k := b) (g' := A.1) (B' := (zDrop A b).2.1) (E' := A.2.2.2) b1 b2 (by rw [h _ (by omega)]; exact g0) (by rw [h _ (by omega)]; exact g1) (fun i i1 i2 => by rw [h _ (by omega)]; exact gC i i1 i2) (fun i i1 i2 => h _ (by omega)) (fun b' i a1 a2 a3 i1 i2 => h _ (by omega)) (fun b' i a1 a2 a3 i1 i2 => ⟨h _ (by omega), h _ (by omega)⟩) (fun b' j e => zDrop_o A j e) (fun _ _ _ _ => rfl) (fun b' _ a1 a2 a3 => by have := hW.bn ⟨a1, a2, a3⟩; omega) (by rw [h0, zDrop_b]) (fun z => ?_) (fun z => ?_)
  · rw [zDrop_b] at z; omega
  · rw [zDrop_b] at z; omega
def zWhyD (A : zA) (b : Int) : Int := if 0 < zWhy A b then zWhy A b else if 0 < zReaders A b then 8 else 0
theorem zWhy_0 (A : zA) (b : Int) : zWhy A b = 0 ∨ zWhy A b = 6 ∨ zWhy A b = 7 := by
  unfold zWhy
  split
  · exact Or.inr (Or.inl rfl)
  · split
    · exact Or.inr (Or.inr rfl)
    · exact Or.inl rfl
theorem zWhyD_0 (A : zA) (b : Int) : (zWhyD A b = zWhy A b ∧ (zWhy A b = 6 ∨ zWhy A b = 7)) ∨ (zWhy A b = 0 ∧ 0 < zReaders A b ∧ zWhyD A b = 8) ∨ (zWhy A b = 0 ∧ zReaders A b = 0 ∧ zWhyD A b = 0) := by
  have h := zWhy_0 A b
  have hr := zReaders_0 A b
  unfold zWhyD
  by_cases h0 : 0 < zWhy A b
  · rw [if_pos h0]; exact Or.inl ⟨rfl, by omega⟩
  · rw [if_neg h0]
    by_cases h1 : 0 < zReaders A b
    · rw [if_pos h1]; exact Or.inr (Or.inl ⟨by omega, h1, rfl⟩)
    · rw [if_neg h1]; exact Or.inr (Or.inr ⟨by omega, by omega, rfl⟩)
theorem ca_drop {m : Int → Int → Int} {kd : Int → Nat × Int} {n c s : Nat} {um S : Int} {U SV : Int → zA} {A : zA} {M : Int} (hS : CS um U SV A m kd n S) (hW : zW M A) (ha : ∀ i, 0 ≤ i → i ≤ 10 → 0 ≤ m 65 i ∧ m 65 i < 100000000) {b : Int} (hb : zBl A b) : (0 < zWhyD A b → cRef (zWhyD A b) m kd (n, c, s) (f_X11_drop [(1, 0), (0, b)] (m, kd, n, c, s))) ∧ (zWhyD A b = 0 → cDone um U SV A (zDrop A b) (A.2.1 b 5 - A.2.1 b 4) m kd n c s S (f_X11_drop [(1, 0), (0, b)] (m, kd, n, c, s))) := by
  obtain ⟨hK, hC, hx, hn, h4, k64, h00, k1, x640, x65⟩ := hS.f
  have nb := c_needBranch (w := (n, c, s)) hK hC hW hx hn b
  rw [if_pos hb] at nb
  obtain ⟨b1, b2, b3⟩ := id hb
  have hbn := hW.bn hb
  have kS := hK.2.1
  have rs := c_reason (w := (n, c, s)) hK hC hW hx hn ⟨b1, b2⟩
  have ri := c_readersIn (w := (n, c, s)) hK hC hW ⟨b1, b2⟩
  have hwy := zWhyD_0 A b
  refine ⟨fun h => ?_, fun h => ?_⟩
  · rcases hwy with ⟨y1, y2⟩ | ⟨y1, y2, y3⟩ | ⟨y1, y2, y3⟩
    · rw [y1] at h ⊢
      rw [if_neg (by omega)] at rs
      have rf := c_refuse (w := (n, c, s)) (r := zWhy A b) k64 x640 x65 (by omega) (ha _ (by omega) (by omega))
      refine ⟨by omega, by omega, ?_⟩
      generalize zWhy A b = y at y2 rs rf h ⊢
      unfold f_X11_drop
      refine qa_fn_eq ?_ (by simp)
      simp (disch := omega) [ev_X11_drop_0, ev_X11_drop_1, ev_X11_drop_2, B_X11_drop_0, B_X11_drop_1, B_X11_drop_2, x_const, x_iadd, x_isub, x_imul, x_idiv, x_irem, x_ineg, x_dup, x_dup_x1, x_dup2, x_pop, x_goto, x_ifeq, x_ifne, x_iflt, x_ifge, x_ifgt, x_ifle, x_cmpeq, x_cmpne, x_cmplt, x_cmpge, x_cmpgt, x_cmple, x_null, x_nonnull, x_acmpeq, x_acmpne, x_get, x_put, x_putz, x_ald, x_ast, x_bast, x_zast, x_aast, x_alen, x_obj, x_ret, x_retz, x_vret, x_max, x_min, x_copy, x_i2l, qg_none, qg_inl, qg_inr, qg_ite, xr1, xr0, xrE, xri, xl0, xl1, xl2, xl3, xl4, xl5, xl6, xl7, xl8, xl9, xl10, xs0, xs1, xs2, xs3, xs4, xs5, xs6, xs7, xs8, xs9, xs10, xi0, xi1, xi2, xi3, xi4, xi5, xi6, xi7, xi8, xi9, xi10, xc0, xc1, xc2, xc3, xc4, xc5, xc6, xc7, xv1, xv2, xv3, xv4, xv5, xv6, xv7, dT_le, dF_le, dT_lt, dF_lt, dF_eq, hx, hn, kS, h4, k64, nb, rs, rf]
    · rw [if_pos y1] at rs
      rw [y3] at h ⊢
      have rf := c_refuse (w := (n, c, s)) (r := 8) k64 x640 x65 (by omega) (ha _ (by omega) (by omega))
      refine ⟨by omega, by omega, ?_⟩
      unfold f_X11_drop
      refine qa_fn_eq ?_ (by simp)
      simp (disch := omega) [ev_X11_drop_0, ev_X11_drop_1, ev_X11_drop_2, B_X11_drop_0, B_X11_drop_1, B_X11_drop_2, x_const, x_iadd, x_isub, x_imul, x_idiv, x_irem, x_ineg, x_dup, x_dup_x1, x_dup2, x_pop, x_goto, x_ifeq, x_ifne, x_iflt, x_ifge, x_ifgt, x_ifle, x_cmpeq, x_cmpne, x_cmplt, x_cmpge, x_cmpgt, x_cmple, x_null, x_nonnull, x_acmpeq, x_acmpne, x_get, x_put, x_putz, x_ald, x_ast, x_bast, x_zast, x_aast, x_alen, x_obj, x_ret, x_retz, x_vret, x_max, x_min, x_copy, x_i2l, qg_none, qg_inl, qg_inr, qg_ite, xr1, xr0, xrE, xri, xl0, xl1, xl2, xl3, xl4, xl5, xl6, xl7, xl8, xl9, xl10, xs0, xs1, xs2, xs3, xs4, xs5, xs6, xs7, xs8, xs9, xs10, xi0, xi1, xi2, xi3, xi4, xi5, xi6, xi7, xi8, xi9, xi10, xc0, xc1, xc2, xc3, xc4, xc5, xc6, xc7, xv1, xv2, xv3, xv4, xv5, xv6, xv7, dT_le, dF_le, dT_lt, dF_lt, hx, hn, kS, h4, k64, nb, rs, ri, rf]
    · omega
  · rcases hwy with ⟨y1, y2⟩ | ⟨y1, y2, y3⟩ | ⟨y1, y2, y3⟩
    · omega
    · omega
    · rw [if_pos y1] at rs
      obtain ⟨m1, kd1, n1, c1, s1, i1, i2, i3, i4, i5, i6, i7, i8, i9⟩ := c_begS (c := c) (s := s) hS hW (ha 0 (by decide) (by decide))
      obtain ⟨hK1, hC1, hx1, hn1, h41, k641, h001, k11, -⟩ := i2.f
      obtain ⟨j1, j2⟩ := RC_drop (b := b) hK1 hC1 ⟨b1, b2⟩
      obtain ⟨g1, g2, g3, g4⟩ := CS_now i2 j2 j1
      have kb1 := hK1.2.2.2.2.2.1 b b1 b2
      have t4 := hC1.2.2.2.2.1 b 4 b1 b2 (by decide) (by decide)
      have t5 := hC1.2.2.2.2.1 b 5 b1 b2 (by decide) (by decide)
      refine ⟨_, kd1, n1, c1, s1, ?_, g1, i3.trans g2, fun i => by rw [g3]; exact i4 i, by rw [g4]; omega, by rw [g4]; omega, i7, i8, i9⟩
      unfold f_X11_drop
      refine qa_fn_eq ?_ (by simp; exact ⟨i7, i8, i9⟩)
      simp (disch := omega) [ev_X11_drop_0, ev_X11_drop_1, ev_X11_drop_2, B_X11_drop_0, B_X11_drop_1, B_X11_drop_2, x_const, x_iadd, x_isub, x_imul, x_idiv, x_irem, x_ineg, x_dup, x_dup_x1, x_dup2, x_pop, x_goto, x_ifeq, x_ifne, x_iflt, x_ifge, x_ifgt, x_ifle, x_cmpeq, x_cmpne, x_cmplt, x_cmpge, x_cmpgt, x_cmple, x_null, x_nonnull, x_acmpeq, x_acmpne, x_get, x_put, x_putz, x_ald, x_ast, x_bast, x_zast, x_aast, x_alen, x_obj, x_ret, x_retz, x_vret, x_max, x_min, x_copy, x_i2l, qg_none, qg_inl, qg_inr, qg_ite, xr1, xr0, xrE, xri, xl0, xl1, xl2, xl3, xl4, xl5, xl6, xl7, xl8, xl9, xl10, xs0, xs1, xs2, xs3, xs4, xs5, xs6, xs7, xs8, xs9, xs10, xi0, xi1, xi2, xi3, xi4, xi5, xi6, xi7, xi8, xi9, xi10, xc0, xc1, xc2, xc3, xc4, xc5, xc6, xc7, xv1, xv2, xv3, xv4, xv5, xv6, xv7, dT_le, dF_le, dT_lt, dF_lt, dT_eq, dF_eq, qa_up_hit, qa_up_no, hx, hn, h4, k64, kS, nb, rs, ri, i1, kb1, t4, t5, y2]
theorem ma_drop {m : Int → Int → Int} {kd : Int → Nat × Int} {w : Nat × Nat × Nat} {A : zA} (hK : KM kd) (hR : RM m) (hQ : QR A (m 79)) {M : Int} (hW : zW M A) {um : Int} {U : Int → zA} (hU : MU um U m) (hUW : ∀ k, 0 ≤ k → k < um → zW M (U k)) (ha : ∀ i, 0 ≤ i → i ≤ 10 → 0 ≤ m 84 i ∧ m 84 i < 100000000) {b : Int} (hb : zBl A b) : (0 < zWhyD A b → mRef (zWhyD A b) m kd w (f_X12_drops [(1, 77), (0, b)] (m, kd, w))) ∧ (zWhyD A b = 0 → mDone um U A (zDrop A b) (A.2.1 b 5 - A.2.1 b 4) m kd w (f_X12_drops [(1, 77), (0, b)] (m, kd, w))) := by
  obtain ⟨b1, b2, b3⟩ := id hb
  have hbn := hW.bn hb
  have k77 := hK.1
  have k79 := hK.2.2.1
  have rs := m_whyStays (w := w) hK hR hQ hW b
  have ri := m_readersIn (w := w) hK hR hQ b
  have hwy := zWhyD_0 A b
  refine ⟨fun h => ?_, fun h => ?_⟩
  · rcases hwy with ⟨y1, y2⟩ | ⟨y1, y2, y3⟩ | ⟨y1, y2, y3⟩
    · rw [y1] at h ⊢
      have rf := m_refuses (w := w) (r := zWhy A b) hK hR (by omega) (ha _ (by omega) (by omega))
      refine ⟨by omega, by omega, ?_⟩
      generalize zWhy A b = y at y2 rs rf h ⊢
      unfold f_X12_drops
      refine qa_fn_eq ?_ (by simp)
      simp (disch := omega) [ev_X12_drops_0, ev_X12_drops_1, ev_X12_drops_2, ev_X12_drops_3, ev_X12_drops_4, B_X12_drops_0, B_X12_drops_1, B_X12_drops_2, B_X12_drops_3, B_X12_drops_4, x_const, x_iadd, x_isub, x_imul, x_idiv, x_irem, x_ineg, x_dup, x_dup_x1, x_dup2, x_pop, x_goto, x_ifeq, x_ifne, x_iflt, x_ifge, x_ifgt, x_ifle, x_cmpeq, x_cmpne, x_cmplt, x_cmpge, x_cmpgt, x_cmple, x_null, x_nonnull, x_acmpeq, x_acmpne, x_get, x_put, x_putz, x_ald, x_ast, x_bast, x_zast, x_aast, x_alen, x_obj, x_ret, x_retz, x_vret, x_max, x_min, x_copy, x_i2l, qg_none, qg_inl, qg_inr, qg_ite, xr1, xr0, xrE, xri, xl0, xl1, xl2, xl3, xl4, xl5, xl6, xl7, xl8, xl9, xl10, xs0, xs1, xs2, xs3, xs4, xs5, xs6, xs7, xs8, xs9, xs10, xi0, xi1, xi2, xi3, xi4, xi5, xi6, xi7, xi8, xi9, xi10, xc0, xc1, xc2, xc3, xc4, xc5, xc6, xc7, xv1, xv2, xv3, xv4, xv5, xv6, xv7, dT_le, dF_le, dT_lt, dF_lt, k77, rs, rf]
    · rw [y3] at h ⊢
      have rf := m_refuses (w := w) (r := 8) hK hR (by omega) (ha _ (by omega) (by omega))
      refine ⟨by omega, by omega, ?_⟩
      unfold f_X12_drops
      refine qa_fn_eq ?_ (by simp)
      simp (disch := omega) [ev_X12_drops_0, ev_X12_drops_1, ev_X12_drops_2, ev_X12_drops_3, ev_X12_drops_4, B_X12_drops_0, B_X12_drops_1, B_X12_drops_2, B_X12_drops_3, B_X12_drops_4, x_const, x_iadd, x_isub, x_imul, x_idiv, x_irem, x_ineg, x_dup, x_dup_x1, x_dup2, x_pop, x_goto, x_ifeq, x_ifne, x_iflt, x_ifge, x_ifgt, x_ifle, x_cmpeq, x_cmpne, x_cmplt, x_cmpge, x_cmpgt, x_cmple, x_null, x_nonnull, x_acmpeq, x_acmpne, x_get, x_put, x_putz, x_ald, x_ast, x_bast, x_zast, x_aast, x_alen, x_obj, x_ret, x_retz, x_vret, x_max, x_min, x_copy, x_i2l, qg_none, qg_inl, qg_inr, qg_ite, xr1, xr0, xrE, xri, xl0, xl1, xl2, xl3, xl4, xl5, xl6, xl7, xl8, xl9, xl10, xs0, xs1, xs2, xs3, xs4, xs5, xs6, xs7, xs8, xs9, xs10, xi0, xi1, xi2, xi3, xi4, xi5, xi6, xi7, xi8, xi9, xi10, xc0, xc1, xc2, xc3, xc4, xc5, xc6, xc7, xv1, xv2, xv3, xv4, xv5, xv6, xv7, dT_le, dF_le, dT_lt, dF_lt, k77, rs, y1, ri, y2, rf]
    · omega
  · rcases hwy with ⟨y1, y2⟩ | ⟨y1, y2, y3⟩ | ⟨y1, y2, y3⟩
    · omega
    · omega
    · obtain ⟨m1, i1, i2, i3, i4, i5, i6, i7, i8⟩ := m_keeps (w := w) hK hR hQ hW hU hUW (ha 0 (by decide) (by decide))
      have hR1 := zfk_RM i3 hR
      have hQ1 : QR A (m1 79) := by rw [i4]; exact hQ
      have r2 := hR1.2.1
      have u2 : m1 79 (6 + 7 * b + 2) = A.2.1 b 5 - A.2.1 b 4 := (hQ1.2.2.2.2.1 b b1 b2 b3).2.1
      have hR2 : RM (qa_up m1 79 (6 + 7 * b) 0) := by rw [RM_u]; exact hR1
      have hf2 : ∀ c, c ≠ 79 → qa_up m1 79 (6 + 7 * b) 0 c = m1 c := fun c hc => by
        funext i
        exact qa_up_no _ (fun z => hc z.1)
      refine mDone_of (m1 := m1) (m2 := qa_up m1 79 (6 + 7 * b) 0) ?_ i2 i3 i5 i6 i7 i8 (zfm_o hf2) (QR_drop hQ1 hW ⟨b1, b2⟩ (fun i hi => qa_up_no _ (fun z => hi z.2)) (qa_up_hit _ _ _ _)) (fun X h1 h2 => zcb_same h2 (fun i hi => by rw [hf2 77 (by decide)]) (hf2 85 (by decide)))
      unfold f_X12_drops
      refine qa_fn_eq ?_ (by simp)
      simp (disch := omega) [ev_X12_drops_0, ev_X12_drops_1, ev_X12_drops_2, ev_X12_drops_3, ev_X12_drops_4, B_X12_drops_0, B_X12_drops_1, B_X12_drops_2, B_X12_drops_3, B_X12_drops_4, x_const, x_iadd, x_isub, x_imul, x_idiv, x_irem, x_ineg, x_dup, x_dup_x1, x_dup2, x_pop, x_goto, x_ifeq, x_ifne, x_iflt, x_ifge, x_ifgt, x_ifle, x_cmpeq, x_cmpne, x_cmplt, x_cmpge, x_cmpgt, x_cmple, x_null, x_nonnull, x_acmpeq, x_acmpne, x_get, x_put, x_putz, x_ald, x_ast, x_bast, x_zast, x_aast, x_alen, x_obj, x_ret, x_retz, x_vret, x_max, x_min, x_copy, x_i2l, qg_none, qg_inl, qg_inr, qg_ite, xr1, xr0, xrE, xri, xl0, xl1, xl2, xl3, xl4, xl5, xl6, xl7, xl8, xl9, xl10, xs0, xs1, xs2, xs3, xs4, xs5, xs6, xs7, xs8, xs9, xs10, xi0, xi1, xi2, xi3, xi4, xi5, xi6, xi7, xi8, xi9, xi10, xc0, xc1, xc2, xc3, xc4, xc5, xc6, xc7, xv1, xv2, xv3, xv4, xv5, xv6, xv7, dT_le, dF_le, dT_lt, dF_lt, dT_eq, dF_eq, qa_up_hit, qa_up_no, k77, k79, rs, y1, ri, y2, i1, r2, m_branchAt, m_ofBranch hK hR2, u2]
