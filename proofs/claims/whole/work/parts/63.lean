theorem nm_up {m : Int → Int → Int} {n i v : Int} {z : Int → Int} : qa_up (nm m n z) n i v = nm m n (fun j => if j = i then v else z j) := by
  funext c j
  unfold qa_up nm
  by_cases h : c = n
  · by_cases h' : j = i
    · rw [if_pos ⟨h, h'⟩, if_pos h]; exact (if_pos h').symm
    · rw [if_neg (fun q => h' q.2), if_pos h, if_pos h]; exact (if_neg h').symm
  · rw [if_neg (fun q => h q.1), if_neg h, if_neg h]
def zE (z : Int → Int) (t k s v : Int) : Int → Int := fun j => if j = 3 then v else if j = 2 then s else if j = 1 then k else if j = 0 then t else z j
theorem c_initE {m : Int → Int → Int} {kd : Int → Nat × Int} {w : Nat × Nat × Nat} {e t k s v : Int} {z : Int → Int} (ke : kd e = (9, 0)) (hne : e ≠ -1) : f_X5_init [(1, e), (0, t), (0, k), (0, s), (0, v)] (nm m e z, kd, w) = some (.inl none, (nm m e (zE z t k s v), kd, w)) := by
  unfold f_X5_init
  refine qa_fn_eq ?_ (by simp)
  simp (disch := omega) [ev_X5_init_0, B_X5_init_0, x_const, x_iadd, x_isub, x_imul, x_idiv, x_irem, x_ineg, x_dup, x_dup_x1, x_dup2, x_pop, x_goto, x_ifeq, x_ifne, x_iflt, x_ifge, x_ifgt, x_ifle, x_cmpeq, x_cmpne, x_cmplt, x_cmpge, x_cmpgt, x_cmple, x_null, x_nonnull, x_acmpeq, x_acmpne, x_get, x_put, x_putz, x_ald, x_ast, x_bast, x_zast, x_aast, x_alen, x_obj, x_ret, x_retz, x_vret, x_max, x_min, x_copy, x_i2l, qg_none, qg_inl, qg_inr, qg_ite, xr1, xr0, xrE, xri, xl0, xl1, xl2, xl3, xl4, xl5, xl6, xl7, xl8, xl9, xl10, xs0, xs1, xs2, xs3, xs4, xs5, xs6, xs7, xs8, xs9, xs10, xi0, xi1, xi2, xi3, xi4, xi5, xi6, xi7, xi8, xi9, xi10, xc0, xc1, xc2, xc3, xc4, xc5, xc6, xc7, xv1, xv2, xv3, xv4, xv5, xv6, xv7, dT_le, dF_le, dT_lt, dF_lt, nm_up, ke, hne]
  rfl
theorem zfx_CR {st : Int → Int} {m m' : Int → Int → Int} {kd kd' : Int → Nat × Int} (h : zfx m kd m' kd') (hy : CR st m kd 1 2) : CR st m' kd' 1 2 := by
  obtain ⟨y1, y2, y3, y4⟩ := hy
  obtain ⟨a1, a2⟩ := h 1 (Or.inl (by decide))
  obtain ⟨b1, b2⟩ := h 2 (Or.inl (by decide))
  exact ⟨by rw [a2]; exact y1, by rw [a1]; exact y2, by rw [b2]; exact y3, fun i i1 i2 => by rw [b1]; exact y4 i i1 i2⟩
def zOne (A : zA) : zA := (fun j => if j = 1 then A.1 1 + 1 else A.1 j, A.2)
theorem zW_one {M : Int} {A : zA} (hW : zW M A) (h : A.1 1 < 1000) : zW M (zOne A) := by
  obtain ⟨⟨w0, w1, w2, w3, w4, w5⟩, w6, w7, w8, w9, wB, wE, wR, wD⟩ := id hW
  have g0 : (zOne A).1 0 = A.1 0 := rfl
  have g1 : (zOne A).1 1 = A.1 1 + 1 := rfl
  have gi : ∀ i, i ≠ 1 → (zOne A).1 i = A.1 i := fun i hi => if_neg hi
  have gg : zgs (zOne A) = zgs A := rfl
  exact ⟨⟨w0, w1, w2, w3, by rw [g1]; omega, by rw [g1]; omega⟩, fun i i1 i2 => by rw [gi i (by omega)]; exact w6 i i1 i2, w7, w8, w9, wB, wE, wR, wD⟩
def zApp (st : Int → Int) (A : zA) (b k s v : Int) : zA := zCutB st b (zOne (zAdd A b (A.1 0) k s v))
theorem zW_app {M : Int} (st : Int → Int) {A : zA} (hW : zW M A) {b k s v : Int} (hb : zBl A b) (h5 : A.2.1 b 5 < 512) (hM : M + 1 < 500000) (h1 : A.1 1 < 1000) (hk : 0 ≤ k ∧ k ≤ 9) (hs : 1 ≤ s ∧ s ≤ 9) (hv : -99 ≤ v ∧ v ≤ 99) : zW (M + 1) (zOne (zAdd A b (A.1 0) k s v)) ∧ zBl (zOne (zAdd A b (A.1 0) k s v)) b ∧ zW (M + 1) (zApp st A b k s v) := by
  have tn := hW.tn
  have h := zW_one (zW_add hW hb h5 (by omega) ⟨tn.1, Int.le_refl _⟩ hk hs hv) (show A.1 1 < 1000 from h1)
  have hb' : zBl (zOne (zAdd A b (A.1 0) k s v)) b := zAdd_bl.mpr hb
  exact ⟨h, hb', (zW_cutB st h hb').1⟩
theorem ca_append {m : Int → Int → Int} {kd : Int → Nat × Int} {n c s : Nat} {um S : Int} {U SV : Int → zA} {A : zA} {M : Int} (hS : CS um U SV A m kd n S) (hW : zW M A) (ha : ∀ i, 0 ≤ i → i ≤ 10 → 0 ≤ m 65 i ∧ m 65 i < 100000000) {st : Int → Int} (hy : CR st m kd 1 2) (hs : zS st) {b ky sz vv : Int} (hb : zBl A b) (h5 : A.2.1 b 5 < 512) (hM : M + 1 < 500000) (h1 : A.1 1 < 1000) (hk : 0 ≤ ky ∧ ky ≤ 9) (hz : 1 ≤ sz ∧ sz ≤ 9) (hv : -99 ≤ vv ∧ vv ≤ 99) : cDone um U SV A (zApp st A b ky sz vv) (A.2.1 b 5) m kd n c s S (f_X11_append [(1, 0), (0, b), (0, ky), (0, sz), (0, vv)] (m, kd, n, c, s)) := by
  obtain ⟨hK, hC, hx, hn, h4, k64, h00, k1, x640, x65⟩ := hS.f
  have hS3 := hS.1
  have nb := c_needBranch (w := (n, c, s)) hK hC hW hx hn b
  rw [if_pos hb] at nb
  obtain ⟨b1, b2, b3⟩ := id hb
  have rg1 := c_needRange (m := m) (kd := kd) (w := (n, c, s)) ky 0 9
  have rg2 := c_needRange (m := m) (kd := kd) (w := (n, c, s)) sz 1 9
  have rg3 := c_needRange (m := m) (kd := kd) (w := (n, c, s)) vv (-99) 99
  rw [if_pos hk] at rg1
  rw [if_pos hz] at rg2
  rw [if_pos hv] at rg3
  obtain ⟨m1, kd1, n1, c1, s1, i1, i2, i3, i4, i5, i6, i7, i8, i9⟩ := c_begS (c := c) (s := s) hS hW (ha 0 (by decide) (by decide))
  obtain ⟨hK1, hC1, hx1, hn1, h41, k641, h001, k11, -⟩ := i2.f
  obtain ⟨a1, a2, a3⟩ := zW_app st hW hb h5 hM h1 hk hz hv
  obtain ⟨g1, g2, g3, g4⟩ := CS_new (z := zE z_X5 (A.1 0) ky sz vv) i2
  obtain ⟨hK2, hC2, hx2, hn2, h42, k642, h002, k12, -⟩ := g1.f
  have ke : nk kd1 n1 (9, 0) n1 = (9, 0) := nk_hit _ _ _
  have kne : (n1 : Int) ≠ -1 := by omega
  have ie := c_initE (m := m1) (kd := nk kd1 n1 (9, 0)) (w := (n1 + 1, c1 + 1, s1 + 4)) (e := n1) (t := A.1 0) (k := ky) (s := sz) (v := vv) (z := z_X5) ke kne
  obtain ⟨m3, j1, j2, j3⟩ := c_addB (w := (n1 + 1, c1 + 1, s1 + 4)) (t := A.1 0) (k := ky) (s := sz) (v := vv) (e := n1) hK2 hC2 hW hb h5 ke (fun j q1 q2 => by
    rw [nm_hit]
    unfold zE
    have : j = 0 ∨ j = 1 ∨ j = 2 ∨ j = 3 := by omega
    rcases this with rfl | rfl | rfl | rfl <;> simp) hz
  have hC4 := RC_num (s := S) (i := 1) (k := 1) (v := A.1 1 + 1) hK2 j2 (Or.inl ⟨rfl, rfl, by decide, by decide⟩)
  have hf4 : zfr m3 (qa_up m3 S 1 (A.1 1 + 1)) S := fun x hx => by
    funext i
    exact qa_up_no _ (by omega)
  have hnn : n1 ≥ S + 30 := by
    have := i2.2.2.1.2.2.2.2.2.1
    omega
  have hy2 : CR st (nm m1 n1 (zE z_X5 (A.1 0) ky sz vv)) (nk kd1 n1 (9, 0)) 1 2 := zfx_CR (i3.trans g2) hy
  have hy4 : CR st (qa_up m3 S 1 (A.1 1 + 1)) (nk kd1 n1 (9, 0)) 1 2 := by
    obtain ⟨y1, y2, y3, y4⟩ := hy2
    refine ⟨y1, ?_, y3, fun i q1 q2 => ?_⟩
    · rw [hf4 1 (by omega), j3 1 (by omega)]; exact y2
    · rw [hf4 2 (by omega), j3 2 (by omega)]; exact y4 i q1 q2
  obtain ⟨m5, l1, l2, l3⟩ := c_cutBehind (w := (n1 + 1, c1 + 1, s1 + 4)) hK2 hC4 a1 hM hy4 hs ⟨Or.inl (by omega), Or.inl (by omega)⟩ a2
  obtain ⟨e1, e2, e3, e4⟩ := CS_now g1 ((j3.trans hf4).trans l3) l2
  have kS := hK.2.1
  have kS1 := hK1.2.1
  have kS2 := hK2.2.1
  have kb1 := hK1.2.2.2.2.2.1 b b1 b2
  have kb2 := hK2.2.2.2.2.2.1 b b1 b2
  have t5 := hC1.2.2.2.2.1 b 5 b1 b2 (by decide) (by decide)
  have t0 : m1 S 0 = A.1 0 := hC1.2.1
  have t0' : nm m1 n1 z_X5 S 0 = A.1 0 := by rw [nm_no _ _ _ (by omega)]; exact t0
  have h01 : nm m1 n1 z_X5 0 1 = S := by rw [nm_no _ _ _ (by omega)]; exact hn1
  have t1 : m3 S 1 = A.1 1 := j2.2.2.1
  have m30 : m3 0 1 = S := by rw [j3 0 (by omega)]; exact hn2
  have m300 : m3 0 0 = 1 := by rw [j3 0 (by omega)]; exact h002
  have n2 : n1 ≠ S := by omega
  have n3 : S ≠ n1 := by omega
  have n4 : (n1 : Int) ≠ 0 := by omega
  have wn := hW.1.2.2.2.2
  refine ⟨m5, nk kd1 n1 (9, 0), n1 + 1, c1 + 1, s1 + 4, ?_, e1, (i3.trans g2).trans e2, fun i => by rw [e3, g3]; exact i4 i, by rw [e4, g4]; omega, by rw [e4, g4]; omega, by omega, by omega, by omega⟩
  unfold f_X11_append
  refine qa_fn_eq ?_ (by simp; exact ⟨by omega, by omega, by omega⟩)
  simp (disch := omega) [ev_X11_append_0, ev_X11_append_1, B_X11_append_0, B_X11_append_1, x_const, x_iadd, x_isub, x_imul, x_idiv, x_irem, x_ineg, x_dup, x_dup_x1, x_dup2, x_pop, x_goto, x_ifeq, x_ifne, x_iflt, x_ifge, x_ifgt, x_ifle, x_cmpeq, x_cmpne, x_cmplt, x_cmpge, x_cmpgt, x_cmple, x_null, x_nonnull, x_acmpeq, x_acmpne, x_get, x_put, x_putz, x_ald, x_ast, x_bast, x_zast, x_aast, x_alen, x_obj, x_ret, x_retz, x_vret, x_max, x_min, x_copy, x_i2l, qg_none, qg_inl, qg_inr, qg_ite, xr1, xr0, xrE, xri, xl0, xl1, xl2, xl3, xl4, xl5, xl6, xl7, xl8, xl9, xl10, xs0, xs1, xs2, xs3, xs4, xs5, xs6, xs7, xs8, xs9, xs10, xi0, xi1, xi2, xi3, xi4, xi5, xi6, xi7, xi8, xi9, xi10, xc0, xc1, xc2, xc3, xc4, xc5, xc6, xc7, xv1, xv2, xv3, xv4, xv5, xv6, xv7, dT_le, dF_le, dT_lt, dF_lt, dT_eq, dF_eq, qa_up_hit, qa_up_no, x_new, hx, hn, h4, k64, hx1, hn1, hx2, nb, rg1, rg2, rg3, i1, kS, kS1, kS2, kb1, t5, t0', h01, ie, j1, t1, m30, m300, l1, ke, kb2]
