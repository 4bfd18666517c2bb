def zAns (e1 e2 : Nat) (q : Int × Int) (m : Int → Int → Int) (kd : Int → Nat × Int) (w : Nat × Nat × Nat) : Option qR := if q.1 = 0 then some (.inl (some (0, q.2)), (m, kd, w)) else some (.inr (if q.1 = 1 then e1 else e2), (m, kd, w.1, w.2.1 + 1, w.2.2 + 6))
theorem KS.neg {kd : Int → Nat × Int} {S c : Int} {t : Nat} {x : Int} (hK : KS kd S) (h : kd c = (t, x)) (ht : t ≠ 0) : c ≠ -1 := fun z => by
  rw [z, hK.1] at h
  cases h
  exact ht rfl
theorem c_needBranch {m : Int → Int → Int} {kd : Int → Nat × Int} {w : Nat × Nat × Nat} {A : zA} {S : Int} (hK : KS kd S) (hC : RC A m kd S) {M : Int} (hW : zW M A) (hx : kd 0 = (14, 0)) (hn : m 0 1 = S) (b : Int) : f_X11_needBranch [(1, 0), (0, b)] (m, kd, w) = if zBl A b then some (.inl (some (1, S + 4 + 2 * b)), (m, kd, w)) else some (.inr 1, (m, kd, w.1, w.2.1 + 1, w.2.2 + 6)) := by
  have e := c_branchAt (w := w) hK hC hW b
  obtain ⟨⟨f2, f3, f4, fV, fW, f0, f8, f9, f7⟩, e0, e1, eC, eB, eR, eD, eL, eE⟩ := id hC
  obtain ⟨kN, kS, kC, kV, kW, kB, kE, kR, kD, kL⟩ := id hK
  by_cases h : zBl A b
  · rw [if_pos h] at e ⊢
    have hne := hK.neg (kB b h.1 h.2.1) (by decide)
    unfold f_X11_needBranch
    refine qa_fn_eq ?_ (by simp)
    simp (disch := omega) [ev_X11_needBranch_0, ev_X11_needBranch_1, B_X11_needBranch_0, B_X11_needBranch_1, x_const, x_iadd, x_isub, x_imul, x_idiv, x_irem, x_ineg, x_dup, x_dup_x1, x_dup2, x_pop, x_goto, x_ifeq, x_ifne, x_iflt, x_ifge, x_ifgt, x_ifle, x_cmpeq, x_cmpne, x_cmplt, x_cmpge, x_cmpgt, x_cmple, x_null, x_nonnull, x_acmpeq, x_acmpne, x_get, x_put, x_putz, x_ald, x_ast, x_bast, x_zast, x_aast, x_alen, x_obj, x_ret, x_retz, x_vret, x_max, x_min, x_copy, x_i2l, qg_none, qg_inl, qg_inr, qg_ite, xr1, xr0, xrE, xri, xl0, xl1, xl2, xl3, xl4, xl5, xl6, xl7, xl8, xl9, xl10, xs0, xs1, xs2, xs3, xs4, xs5, xs6, xs7, xs8, xs9, xs10, xi0, xi1, xi2, xi3, xi4, xi5, xi6, xi7, xi8, xi9, xi10, xc0, xc1, xc2, xc3, xc4, xc5, xc6, xc7, xv1, xv2, xv3, xv4, xv5, xv6, xv7, dT_le, dF_le, dT_lt, dF_lt, hx, hn, kS, e, hne]
  · rw [if_neg h] at e ⊢
    unfold f_X11_needBranch
    refine qa_fn_eq ?_ (by simp)
    simp (disch := omega) [ev_X11_needBranch_0, ev_X11_needBranch_1, B_X11_needBranch_0, B_X11_needBranch_1, x_const, x_iadd, x_isub, x_imul, x_idiv, x_irem, x_ineg, x_dup, x_dup_x1, x_dup2, x_pop, x_goto, x_ifeq, x_ifne, x_iflt, x_ifge, x_ifgt, x_ifle, x_cmpeq, x_cmpne, x_cmplt, x_cmpge, x_cmpgt, x_cmple, x_null, x_nonnull, x_acmpeq, x_acmpne, x_get, x_put, x_putz, x_ald, x_ast, x_bast, x_zast, x_aast, x_alen, x_obj, x_ret, x_retz, x_vret, x_max, x_min, x_copy, x_i2l, qg_none, qg_inl, qg_inr, qg_ite, xr1, xr0, xrE, xri, xl0, xl1, xl2, xl3, xl4, xl5, xl6, xl7, xl8, xl9, xl10, xs0, xs1, xs2, xs3, xs4, xs5, xs6, xs7, xs8, xs9, xs10, xi0, xi1, xi2, xi3, xi4, xi5, xi6, xi7, xi8, xi9, xi10, xc0, xc1, xc2, xc3, xc4, xc5, xc6, xc7, xv1, xv2, xv3, xv4, xv5, xv6, xv7, dT_le, dF_le, dT_lt, dF_lt, hx, hn, kS, e, x_thr]
theorem c_needReader {m : Int → Int → Int} {kd : Int → Nat × Int} {w : Nat × Nat × Nat} {A : zA} {S : Int} (hK : KS kd S) (hC : RC A m kd S) {M : Int} (hW : zW M A) (hx : kd 0 = (14, 0)) (hn : m 0 1 = S) (r : Int) : f_X11_needReader [(1, 0), (0, r)] (m, kd, w) = if zRl A r then some (.inl (some (1, S + 12 + 3 * r)), (m, kd, w)) else some (.inr 1, (m, kd, w.1, w.2.1 + 1, w.2.2 + 6)) := by
  have e := c_readerAt (w := w) hK hC hW r
  obtain ⟨⟨f2, f3, f4, fV, fW, f0, f8, f9, f7⟩, e0, e1, eC, eB, eR, eD, eL, eE⟩ := id hC
  obtain ⟨kN, kS, kC, kV, kW, kB, kE, kR, kD, kL⟩ := id hK
  by_cases h : zRl A r
  · rw [if_pos h] at e ⊢
    have hne := hK.neg (kR r h.1 h.2.1) (by decide)
    unfold f_X11_needReader
    refine qa_fn_eq ?_ (by simp)
    simp (disch := omega) [ev_X11_needReader_0, ev_X11_needReader_1, B_X11_needReader_0, B_X11_needReader_1, x_const, x_iadd, x_isub, x_imul, x_idiv, x_irem, x_ineg, x_dup, x_dup_x1, x_dup2, x_pop, x_goto, x_ifeq, x_ifne, x_iflt, x_ifge, x_ifgt, x_ifle, x_cmpeq, x_cmpne, x_cmplt, x_cmpge, x_cmpgt, x_cmple, x_null, x_nonnull, x_acmpeq, x_acmpne, x_get, x_put, x_putz, x_ald, x_ast, x_bast, x_zast, x_aast, x_alen, x_obj, x_ret, x_retz, x_vret, x_max, x_min, x_copy, x_i2l, qg_none, qg_inl, qg_inr, qg_ite, xr1, xr0, xrE, xri, xl0, xl1, xl2, xl3, xl4, xl5, xl6, xl7, xl8, xl9, xl10, xs0, xs1, xs2, xs3, xs4, xs5, xs6, xs7, xs8, xs9, xs10, xi0, xi1, xi2, xi3, xi4, xi5, xi6, xi7, xi8, xi9, xi10, xc0, xc1, xc2, xc3, xc4, xc5, xc6, xc7, xv1, xv2, xv3, xv4, xv5, xv6, xv7, dT_le, dF_le, dT_lt, dF_lt, hx, hn, kS, e, hne]
  · rw [if_neg h] at e ⊢
    unfold f_X11_needReader
    refine qa_fn_eq ?_ (by simp)
    simp (disch := omega) [ev_X11_needReader_0, ev_X11_needReader_1, B_X11_needReader_0, B_X11_needReader_1, x_const, x_iadd, x_isub, x_imul, x_idiv, x_irem, x_ineg, x_dup, x_dup_x1, x_dup2, x_pop, x_goto, x_ifeq, x_ifne, x_iflt, x_ifge, x_ifgt, x_ifle, x_cmpeq, x_cmpne, x_cmplt, x_cmpge, x_cmpgt, x_cmple, x_null, x_nonnull, x_acmpeq, x_acmpne, x_get, x_put, x_putz, x_ald, x_ast, x_bast, x_zast, x_aast, x_alen, x_obj, x_ret, x_retz, x_vret, x_max, x_min, x_copy, x_i2l, qg_none, qg_inl, qg_inr, qg_ite, xr1, xr0, xrE, xri, xl0, xl1, xl2, xl3, xl4, xl5, xl6, xl7, xl8, xl9, xl10, xs0, xs1, xs2, xs3, xs4, xs5, xs6, xs7, xs8, xs9, xs10, xi0, xi1, xi2, xi3, xi4, xi5, xi6, xi7, xi8, xi9, xi10, xc0, xc1, xc2, xc3, xc4, xc5, xc6, xc7, xv1, xv2, xv3, xv4, xv5, xv6, xv7, dT_le, dF_le, dT_lt, dF_lt, hx, hn, kS, e, x_thr]
def zA2 (P Q : Prop) [Decidable P] [Decidable Q] (v : Int) : Int × Int := if P then (if Q then (0, v) else (2, 0)) else (1, 0)
def zA1 (P : Prop) [Decidable P] (v : Int) : Int × Int := if P then (0, v) else (1, 0)
theorem zA2_v {P Q : Prop} [Decidable P] [Decidable Q] {v : Int} (h : P) (q : Q) : zA2 P Q v = (0, v) := by unfold zA2; rw [if_pos h, if_pos q]
theorem zA2_2 {P Q : Prop} [Decidable P] [Decidable Q] {v : Int} (h : P) (q : ¬ Q) : zA2 P Q v = (2, 0) := by unfold zA2; rw [if_pos h, if_neg q]
theorem zA2_1 {P Q : Prop} [Decidable P] [Decidable Q] {v : Int} (h : ¬ P) : zA2 P Q v = (1, 0) := by unfold zA2; rw [if_neg h]
theorem zA1_v {P : Prop} [Decidable P] {v : Int} (h : P) : zA1 P v = (0, v) := if_pos h
theorem zA1_1 {P : Prop} [Decidable P] {v : Int} (h : ¬ P) : zA1 P v = (1, 0) := if_neg h
theorem zAns_0 (e1 e2 : Nat) (v : Int) (m : Int → Int → Int) (kd : Int → Nat × Int) (w : Nat × Nat × Nat) : zAns e1 e2 (0, v) m kd w = some (.inl (some (0, v)), (m, kd, w)) := rfl
theorem zAns_1 (e1 e2 : Nat) (v : Int) (m : Int → Int → Int) (kd : Int → Nat × Int) (w : Nat × Nat × Nat) : zAns e1 e2 (1, v) m kd w = some (.inr e1, (m, kd, w.1, w.2.1 + 1, w.2.2 + 6)) := rfl
theorem zAns_2 (e1 e2 : Nat) (v : Int) (m : Int → Int → Int) (kd : Int → Nat × Int) (w : Nat × Nat × Nat) : zAns e1 e2 (2, v) m kd w = some (.inr e2, (m, kd, w.1, w.2.1 + 1, w.2.2 + 6)) := rfl
def mAns (q : Int × Int) (m : Int → Int → Int) (kd : Int → Nat × Int) (w : Nat × Nat × Nat) : Option qR := some (.inl (some (0, q.2)), (qa_up m 77 0 q.1, kd, w))
theorem mAns_e (t v : Int) (m : Int → Int → Int) (kd : Int → Nat × Int) (w : Nat × Nat × Nat) : mAns (t, v) m kd w = some (.inl (some (0, v)), (qa_up m 77 0 t, kd, w)) := rfl
def vBranch (A : zA) (b what : Int) : Int := if what = 0 then A.2.1 b 4 else if what = 1 then A.2.1 b 5 else if what = 2 then A.2.1 b 6 else if what = 3 then A.2.1 b 2 else if what = 4 then A.2.1 b 3 else if what = 5 then zReaders A b else if what = 6 then zsum (fun k => if A.2.1 k 1 = 1 ∧ A.2.1 k 2 = b then 1 else 0) 4 else A.2.1 b 7
theorem cq_branch {m : Int → Int → Int} {kd : Int → Nat × Int} {w : Nat × Nat × Nat} {A : zA} {S : Int} (hK : KS kd S) (hC : RC A m kd S) {M : Int} (hW : zW M A) (hx : kd 0 = (14, 0)) (hn : m 0 1 = S) (b what : Int) : f_X11_branch [(1, 0), (0, b), (0, what)] (m, kd, w) = zAns 1 2 (zA2 (zBl A b) (0 ≤ what ∧ what ≤ 7) (vBranch A b what)) m kd w := by
  have ne := c_needBranch (w := w) hK hC hW hx hn b
  have rg := c_needRange (m := m) (kd := kd) (w := w) what 0 7
  obtain ⟨⟨f2, f3, f4, fV, fW, f0, f8, f9, f7⟩, e0, e1, eC, eB, eR, eD, eL, eE⟩ := id hC
  obtain ⟨kN, kS, kC, kV, kW, kB, kE, kR, kD, kL⟩ := id hK
  by_cases h : zBl A b
  · rw [if_pos h] at ne
    by_cases h2 : 0 ≤ what ∧ what ≤ 7
    · rw [if_pos h2] at rg
      rw [zA2_v h h2, zAns_0]
      have ra := c_readersIn (w := w) hK hC hW ⟨h.1, h.2.1⟩
      have rb := c_childrenOf (w := w) hK hC hW ⟨h.1, h.2.1⟩
      obtain ⟨b1, b2, b3⟩ := id h
      have hw : what = 0 ∨ what = 1 ∨ what = 2 ∨ what = 3 ∨ what = 4 ∨ what = 5 ∨ what = 6 ∨ what = 7 := by omega
      rcases hw with rfl | rfl | rfl | rfl | rfl | rfl | rfl | rfl <;>
      · unfold f_X11_branch
        refine qa_fn_eq ?_ (by simp)
        simp (disch := omega) [ev_X11_branch_0, ev_X11_branch_1, ev_X11_branch_2, ev_X11_branch_3, ev_X11_branch_4, ev_X11_branch_5, ev_X11_branch_6, ev_X11_branch_7, ev_X11_branch_8, B_X11_branch_0, B_X11_branch_1, B_X11_branch_2, B_X11_branch_3, B_X11_branch_4, B_X11_branch_5, B_X11_branch_6, B_X11_branch_7, B_X11_branch_8, x_const, x_iadd, x_isub, x_imul, x_idiv, x_irem, x_ineg, x_dup, x_dup_x1, x_dup2, x_pop, x_goto, x_ifeq, x_ifne, x_iflt, x_ifge, x_ifgt, x_ifle, x_cmpeq, x_cmpne, x_cmplt, x_cmpge, x_cmpgt, x_cmple, x_null, x_nonnull, x_acmpeq, x_acmpne, x_get, x_put, x_putz, x_ald, x_ast, x_bast, x_zast, x_aast, x_alen, x_obj, x_ret, x_retz, x_vret, x_max, x_min, x_copy, x_i2l, qg_none, qg_inl, qg_inr, qg_ite, xr1, xr0, xrE, xri, xl0, xl1, xl2, xl3, xl4, xl5, xl6, xl7, xl8, xl9, xl10, xs0, xs1, xs2, xs3, xs4, xs5, xs6, xs7, xs8, xs9, xs10, xi0, xi1, xi2, xi3, xi4, xi5, xi6, xi7, xi8, xi9, xi10, xc0, xc1, xc2, xc3, xc4, xc5, xc6, xc7, xv1, xv2, xv3, xv4, xv5, xv6, xv7, dT_le, dF_le, dT_lt, dF_lt, f2, f3, f4, fV, fW, f0, f8, f9, f7, e0, e1, eC, eB, eR, kS, kC, kV, kW, kB, kE, kR, kD, kL, hx, hn, x_switch, zsw, ne, rg, vBranch, ra, rb]
    · rw [if_neg h2] at rg
      rw [zA2_2 h h2, zAns_2]
      unfold f_X11_branch
      refine qa_fn_eq ?_ (by simp)
      simp (disch := omega) [ev_X11_branch_0, ev_X11_branch_1, ev_X11_branch_2, ev_X11_branch_3, ev_X11_branch_4, ev_X11_branch_5, ev_X11_branch_6, ev_X11_branch_7, ev_X11_branch_8, B_X11_branch_0, B_X11_branch_1, B_X11_branch_2, B_X11_branch_3, B_X11_branch_4, B_X11_branch_5, B_X11_branch_6, B_X11_branch_7, B_X11_branch_8, x_const, x_iadd, x_isub, x_imul, x_idiv, x_irem, x_ineg, x_dup, x_dup_x1, x_dup2, x_pop, x_goto, x_ifeq, x_ifne, x_iflt, x_ifge, x_ifgt, x_ifle, x_cmpeq, x_cmpne, x_cmplt, x_cmpge, x_cmpgt, x_cmple, x_null, x_nonnull, x_acmpeq, x_acmpne, x_get, x_put, x_putz, x_ald, x_ast, x_bast, x_zast, x_aast, x_alen, x_obj, x_ret, x_retz, x_vret, x_max, x_min, x_copy, x_i2l, qg_none, qg_inl, qg_inr, qg_ite, xr1, xr0, xrE, xri, xl0, xl1, xl2, xl3, xl4, xl5, xl6, xl7, xl8, xl9, xl10, xs0, xs1, xs2, xs3, xs4, xs5, xs6, xs7, xs8, xs9, xs10, xi0, xi1, xi2, xi3, xi4, xi5, xi6, xi7, xi8, xi9, xi10, xc0, xc1, xc2, xc3, xc4, xc5, xc6, xc7, xv1, xv2, xv3, xv4, xv5, xv6, xv7, dT_le, dF_le, dT_lt, dF_lt, f2, f3, f4, fV, fW, f0, f8, f9, f7, e0, e1, eC, eB, eR, kS, kC, kV, kW, kB, kE, kR, kD, kL, hx, hn, ne, rg]
  · rw [if_neg h] at ne
    rw [zA2_1 h, zAns_1]
    unfold f_X11_branch
    refine qa_fn_eq ?_ (by simp)
    simp (disch := omega) [ev_X11_branch_0, ev_X11_branch_1, ev_X11_branch_2, ev_X11_branch_3, ev_X11_branch_4, ev_X11_branch_5, ev_X11_branch_6, ev_X11_branch_7, ev_X11_branch_8, B_X11_branch_0, B_X11_branch_1, B_X11_branch_2, B_X11_branch_3, B_X11_branch_4, B_X11_branch_5, B_X11_branch_6, B_X11_branch_7, B_X11_branch_8, x_const, x_iadd, x_isub, x_imul, x_idiv, x_irem, x_ineg, x_dup, x_dup_x1, x_dup2, x_pop, x_goto, x_ifeq, x_ifne, x_iflt, x_ifge, x_ifgt, x_ifle, x_cmpeq, x_cmpne, x_cmplt, x_cmpge, x_cmpgt, x_cmple, x_null, x_nonnull, x_acmpeq, x_acmpne, x_get, x_put, x_putz, x_ald, x_ast, x_bast, x_zast, x_aast, x_alen, x_obj, x_ret, x_retz, x_vret, x_max, x_min, x_copy, x_i2l, qg_none, qg_inl, qg_inr, qg_ite, xr1, xr0, xrE, xri, xl0, xl1, xl2, xl3, xl4, xl5, xl6, xl7, xl8, xl9, xl10, xs0, xs1, xs2, xs3, xs4, xs5, xs6, xs7, xs8, xs9, xs10, xi0, xi1, xi2, xi3, xi4, xi5, xi6, xi7, xi8, xi9, xi10, xc0, xc1, xc2, xc3, xc4, xc5, xc6, xc7, xv1, xv2, xv3, xv4, xv5, xv6, xv7, dT_le, dF_le, dT_lt, dF_lt, f2, f3, f4, fV, fW, f0, f8, f9, f7, e0, e1, eC, eB, eR, kS, kC, kV, kW, kB, kE, kR, kD, kL, hx, hn, x_thr, ne]
theorem mq_branch {m : Int → Int → Int} {kd : Int → Nat × Int} {w : Nat × Nat × Nat} {A : zA} (hK : KM kd) (hR : RM m) (hQ : QR A (m 79)) {M : Int} (hW : zW M A) (b what : Int) : f_X12_branch [(1, 77), (0, b), (0, what)] (m, kd, w) = mAns (zA2 (zBl A b) (0 ≤ what ∧ what ≤ 7) (vBranch A b what)) m kd w := by
  have ni := m_isBranch (w := w) hK hR hQ b
  have rg := m_in (m := m) (kd := kd) (w := w) what 0 7
  have hRt : ∀ t, RM (qa_up m 77 0 t) := fun t => by rw [RM_t]; exact hR
  have hQt : ∀ t, QR A ((qa_up m 77 0 t) 79) := fun t => hQ
  obtain ⟨k77, k78, k79, k80, k81, k82, k83, k84, k85, k86, k87, k88, k89, k90⟩ := id hK
  obtain ⟨r1, r2, r3, r4, r6, r7, r8, r12, r13, r15, r23, r25, r26⟩ := id hR
  obtain ⟨g0, g1, gC, gI, gB, gJ, gR, gD, gE⟩ := id hQ
  by_cases h : zBl A b
  · rw [if_pos h] at ni
    by_cases h2 : 0 ≤ what ∧ what ≤ 7
    · rw [if_pos h2] at rg
      rw [zA2_v h h2, mAns_e]
      have hbn := hW.bn h
      obtain ⟨b1, b2, b3⟩ := id h
      obtain ⟨u1, u2, u3, u4, u5, u6⟩ := gB b b1 b2 b3
      have ra := m_readersIn (w := w) hK (hRt 0) (hQt 0) b
      have rb := m_childrenOf (w := w) hK (hRt 0) (hQt 0) b
      have rc := m_endOf (w := w) hK (hRt 0) (hQt 0) h ⟨hbn.1, hbn.2.1, hbn.2.2.1⟩
      have hw : what = 0 ∨ what = 1 ∨ what = 2 ∨ what = 3 ∨ what = 4 ∨ what = 5 ∨ what = 6 ∨ what = 7 := by omega
      rcases hw with rfl | rfl | rfl | rfl | rfl | rfl | rfl | rfl <;>
      · unfold f_X12_branch
        refine qa_fn_eq ?_ (by simp)
        simp (disch := omega) [ev_X12_branch_0, ev_X12_branch_1, ev_X12_branch_2, ev_X12_branch_3, ev_X12_branch_4, ev_X12_branch_5, ev_X12_branch_6, ev_X12_branch_7, ev_X12_branch_8, ev_X12_branch_9, ev_X12_branch_10, ev_X12_branch_11, ev_X12_branch_12, ev_X12_branch_13, ev_X12_branch_14, B_X12_branch_0, B_X12_branch_1, B_X12_branch_2, B_X12_branch_3, B_X12_branch_4, B_X12_branch_5, B_X12_branch_6, B_X12_branch_7, B_X12_branch_8, B_X12_branch_9, B_X12_branch_10, B_X12_branch_11, B_X12_branch_12, B_X12_branch_13, B_X12_branch_14, x_const, x_iadd, x_isub, x_imul, x_idiv, x_irem, x_ineg, x_dup, x_dup_x1, x_dup2, x_pop, x_goto, x_ifeq, x_ifne, x_iflt, x_ifge, x_ifgt, x_ifle, x_cmpeq, x_cmpne, x_cmplt, x_cmpge, x_cmpgt, x_cmple, x_null, x_nonnull, x_acmpeq, x_acmpne, x_get, x_put, x_putz, x_ald, x_ast, x_bast, x_zast, x_aast, x_alen, x_obj, x_ret, x_retz, x_vret, x_max, x_min, x_copy, x_i2l, qg_none, qg_inl, qg_inr, qg_ite, xr1, xr0, xrE, xri, xl0, xl1, xl2, xl3, xl4, xl5, xl6, xl7, xl8, xl9, xl10, xs0, xs1, xs2, xs3, xs4, xs5, xs6, xs7, xs8, xs9, xs10, xi0, xi1, xi2, xi3, xi4, xi5, xi6, xi7, xi8, xi9, xi10, xc0, xc1, xc2, xc3, xc4, xc5, xc6, xc7, xv1, xv2, xv3, xv4, xv5, xv6, xv7, dT_le, dF_le, dT_lt, dF_lt, dT_eq, dF_eq, qa_up_hit, qa_up_no, k77, k78, k79, r1, r2, x_switch, zsw, ni, rg, vBranch, ra, rb, rc, m_ofBranch hK (hRt 0), u1, u2, u3, u4, u5, u6]
    · rw [if_neg h2] at rg
      rw [zA2_2 h h2, mAns_e]
      unfold f_X12_branch
      refine qa_fn_eq ?_ (by simp)
      simp (disch := omega) [ev_X12_branch_0, ev_X12_branch_1, ev_X12_branch_2, ev_X12_branch_3, ev_X12_branch_4, ev_X12_branch_5, ev_X12_branch_6, ev_X12_branch_7, ev_X12_branch_8, ev_X12_branch_9, ev_X12_branch_10, ev_X12_branch_11, ev_X12_branch_12, ev_X12_branch_13, ev_X12_branch_14, B_X12_branch_0, B_X12_branch_1, B_X12_branch_2, B_X12_branch_3, B_X12_branch_4, B_X12_branch_5, B_X12_branch_6, B_X12_branch_7, B_X12_branch_8, B_X12_branch_9, B_X12_branch_10, B_X12_branch_11, B_X12_branch_12, B_X12_branch_13, B_X12_branch_14, x_const, x_iadd, x_isub, x_imul, x_idiv, x_irem, x_ineg, x_dup, x_dup_x1, x_dup2, x_pop, x_goto, x_ifeq, x_ifne, x_iflt, x_ifge, x_ifgt, x_ifle, x_cmpeq, x_cmpne, x_cmplt, x_cmpge, x_cmpgt, x_cmple, x_null, x_nonnull, x_acmpeq, x_acmpne, x_get, x_put, x_putz, x_ald, x_ast, x_bast, x_zast, x_aast, x_alen, x_obj, x_ret, x_retz, x_vret, x_max, x_min, x_copy, x_i2l, qg_none, qg_inl, qg_inr, qg_ite, xr1, xr0, xrE, xri, xl0, xl1, xl2, xl3, xl4, xl5, xl6, xl7, xl8, xl9, xl10, xs0, xs1, xs2, xs3, xs4, xs5, xs6, xs7, xs8, xs9, xs10, xi0, xi1, xi2, xi3, xi4, xi5, xi6, xi7, xi8, xi9, xi10, xc0, xc1, xc2, xc3, xc4, xc5, xc6, xc7, xv1, xv2, xv3, xv4, xv5, xv6, xv7, dT_le, dF_le, dT_lt, dF_lt, dT_eq, dF_eq, qa_up_hit, qa_up_no, k77, k78, k79, r1, r2, x_switch, zsw, ni, rg]
  · rw [if_neg h] at ni
    rw [zA2_1 h, mAns_e]
    unfold f_X12_branch
    refine qa_fn_eq ?_ (by simp)
    simp (disch := omega) [ev_X12_branch_0, ev_X12_branch_1, ev_X12_branch_2, ev_X12_branch_3, ev_X12_branch_4, ev_X12_branch_5, ev_X12_branch_6, ev_X12_branch_7, ev_X12_branch_8, ev_X12_branch_9, ev_X12_branch_10, ev_X12_branch_11, ev_X12_branch_12, ev_X12_branch_13, ev_X12_branch_14, B_X12_branch_0, B_X12_branch_1, B_X12_branch_2, B_X12_branch_3, B_X12_branch_4, B_X12_branch_5, B_X12_branch_6, B_X12_branch_7, B_X12_branch_8, B_X12_branch_9, B_X12_branch_10, B_X12_branch_11, B_X12_branch_12, B_X12_branch_13, B_X12_branch_14, x_const, x_iadd, x_isub, x_imul, x_idiv, x_irem, x_ineg, x_dup, x_dup_x1, x_dup2, x_pop, x_goto, x_ifeq, x_ifne, x_iflt, x_ifge, x_ifgt, x_ifle, x_cmpeq, x_cmpne, x_cmplt, x_cmpge, x_cmpgt, x_cmple, x_null, x_nonnull, x_acmpeq, x_acmpne, x_get, x_put, x_putz, x_ald, x_ast, x_bast, x_zast, x_aast, x_alen, x_obj, x_ret, x_retz, x_vret, x_max, x_min, x_copy, x_i2l, qg_none, qg_inl, qg_inr, qg_ite, xr1, xr0, xrE, xri, xl0, xl1, xl2, xl3, xl4, xl5, xl6, xl7, xl8, xl9, xl10, xs0, xs1, xs2, xs3, xs4, xs5, xs6, xs7, xs8, xs9, xs10, xi0, xi1, xi2, xi3, xi4, xi5, xi6, xi7, xi8, xi9, xi10, xc0, xc1, xc2, xc3, xc4, xc5, xc6, xc7, xv1, xv2, xv3, xv4, xv5, xv6, xv7, dT_le, dF_le, dT_lt, dF_lt, dT_eq, dF_eq, qa_up_hit, qa_up_no, k77, k78, k79, r1, r2, x_switch, zsw, ni]
theorem cq_latest {m : Int → Int → Int} {kd : Int → Nat × Int} {w : Nat × Nat × Nat} {A : zA} {S : Int} (hK : KS kd S) (hC : RC A m kd S) {M : Int} (hW : zW M A) (hx : kd 0 = (14, 0)) (hn : m 0 1 = S) (b key : Int) : f_X11_latest [(1, 0), (0, b), (0, key)] (m, kd, w) = zAns 1 2 (zA2 (zBl A b) (0 ≤ key ∧ key ≤ 9) (zback A b key (A.2.1 b 4) (A.2.1 b 5 - A.2.1 b 4).toNat)) m kd w := by
  have ne := c_needBranch (w := w) hK hC hW hx hn b
  have rg := c_needRange (m := m) (kd := kd) (w := w) key 0 9
  obtain ⟨⟨f2, f3, f4, fV, fW, f0, f8, f9, f7⟩, e0, e1, eC, eB, eR, eD, eL, eE⟩ := id hC
  obtain ⟨kN, kS, kC, kV, kW, kB, kE, kR, kD, kL⟩ := id hK
  by_cases h : zBl A b
  · rw [if_pos h] at ne
    by_cases h2 : 0 ≤ key ∧ key ≤ 9
    · rw [if_pos h2] at rg
      rw [zA2_v h h2, zAns_0]
      have ra := c_latestWith (w := w) (key := key) hK hC hW h
      obtain ⟨b1, b2, b3⟩ := id h
      · unfold f_X11_latest
        refine qa_fn_eq ?_ (by simp)
        simp (disch := omega) [ev_X11_latest_0, B_X11_latest_0, x_const, x_iadd, x_isub, x_imul, x_idiv, x_irem, x_ineg, x_dup, x_dup_x1, x_dup2, x_pop, x_goto, x_ifeq, x_ifne, x_iflt, x_ifge, x_ifgt, x_ifle, x_cmpeq, x_cmpne, x_cmplt, x_cmpge, x_cmpgt, x_cmple, x_null, x_nonnull, x_acmpeq, x_acmpne, x_get, x_put, x_putz, x_ald, x_ast, x_bast, x_zast, x_aast, x_alen, x_obj, x_ret, x_retz, x_vret, x_max, x_min, x_copy, x_i2l, qg_none, qg_inl, qg_inr, qg_ite, xr1, xr0, xrE, xri, xl0, xl1, xl2, xl3, xl4, xl5, xl6, xl7, xl8, xl9, xl10, xs0, xs1, xs2, xs3, xs4, xs5, xs6, xs7, xs8, xs9, xs10, xi0, xi1, xi2, xi3, xi4, xi5, xi6, xi7, xi8, xi9, xi10, xc0, xc1, xc2, xc3, xc4, xc5, xc6, xc7, xv1, xv2, xv3, xv4, xv5, xv6, xv7, dT_le, dF_le, dT_lt, dF_lt, f2, f3, f4, fV, fW, f0, f8, f9, f7, e0, e1, eC, eB, eR, kS, kC, kV, kW, kB, kE, kR, kD, kL, hx, hn, x_switch, zsw, ne, rg, ra]
    · rw [if_neg h2] at rg
      rw [zA2_2 h h2, zAns_2]
      unfold f_X11_latest
      refine qa_fn_eq ?_ (by simp)
      simp (disch := omega) [ev_X11_latest_0, B_X11_latest_0, x_const, x_iadd, x_isub, x_imul, x_idiv, x_irem, x_ineg, x_dup, x_dup_x1, x_dup2, x_pop, x_goto, x_ifeq, x_ifne, x_iflt, x_ifge, x_ifgt, x_ifle, x_cmpeq, x_cmpne, x_cmplt, x_cmpge, x_cmpgt, x_cmple, x_null, x_nonnull, x_acmpeq, x_acmpne, x_get, x_put, x_putz, x_ald, x_ast, x_bast, x_zast, x_aast, x_alen, x_obj, x_ret, x_retz, x_vret, x_max, x_min, x_copy, x_i2l, qg_none, qg_inl, qg_inr, qg_ite, xr1, xr0, xrE, xri, xl0, xl1, xl2, xl3, xl4, xl5, xl6, xl7, xl8, xl9, xl10, xs0, xs1, xs2, xs3, xs4, xs5, xs6, xs7, xs8, xs9, xs10, xi0, xi1, xi2, xi3, xi4, xi5, xi6, xi7, xi8, xi9, xi10, xc0, xc1, xc2, xc3, xc4, xc5, xc6, xc7, xv1, xv2, xv3, xv4, xv5, xv6, xv7, dT_le, dF_le, dT_lt, dF_lt, f2, f3, f4, fV, fW, f0, f8, f9, f7, e0, e1, eC, eB, eR, kS, kC, kV, kW, kB, kE, kR, kD, kL, hx, hn, ne, rg]
  · rw [if_neg h] at ne
    rw [zA2_1 h, zAns_1]
    unfold f_X11_latest
    refine qa_fn_eq ?_ (by simp)
    simp (disch := omega) [ev_X11_latest_0, B_X11_latest_0, x_const, x_iadd, x_isub, x_imul, x_idiv, x_irem, x_ineg, x_dup, x_dup_x1, x_dup2, x_pop, x_goto, x_ifeq, x_ifne, x_iflt, x_ifge, x_ifgt, x_ifle, x_cmpeq, x_cmpne, x_cmplt, x_cmpge, x_cmpgt, x_cmple, x_null, x_nonnull, x_acmpeq, x_acmpne, x_get, x_put, x_putz, x_ald, x_ast, x_bast, x_zast, x_aast, x_alen, x_obj, x_ret, x_retz, x_vret, x_max, x_min, x_copy, x_i2l, qg_none, qg_inl, qg_inr, qg_ite, xr1, xr0, xrE, xri, xl0, xl1, xl2, xl3, xl4, xl5, xl6, xl7, xl8, xl9, xl10, xs0, xs1, xs2, xs3, xs4, xs5, xs6, xs7, xs8, xs9, xs10, xi0, xi1, xi2, xi3, xi4, xi5, xi6, xi7, xi8, xi9, xi10, xc0, xc1, xc2, xc3, xc4, xc5, xc6, xc7, xv1, xv2, xv3, xv4, xv5, xv6, xv7, dT_le, dF_le, dT_lt, dF_lt, f2, f3, f4, fV, fW, f0, f8, f9, f7, e0, e1, eC, eB, eR, kS, kC, kV, kW, kB, kE, kR, kD, kL, hx, hn, x_thr, ne]
theorem cq_holder {m : Int → Int → Int} {kd : Int → Nat × Int} {w : Nat × Nat × Nat} {A : zA} {S : Int} (hK : KS kd S) (hC : RC A m kd S) {M : Int} (hW : zW M A) (hx : kd 0 = (14, 0)) (hn : m 0 1 = S) {st : Int → Int} {y z : Int} (hy : CR st m kd y z) (hs : zS st) (hr0 : m 0 0 = y) (b : Int) : f_X11_holder [(1, 0), (0, b)] (m, kd, w) = zAns 1 2 (zA1 (zBl A b) (zHolder A st b)) m kd w := by
  have ne := c_needBranch (w := w) hK hC hW hx hn b
  obtain ⟨⟨f2, f3, f4, fV, fW, f0, f8, f9, f7⟩, e0, e1, eC, eB, eR, eD, eL, eE⟩ := id hC
  obtain ⟨kN, kS, kC, kV, kW, kB, kE, kR, kD, kL⟩ := id hK
  have y1 := hy.1
  by_cases h : zBl A b
  · rw [if_pos h] at ne
    rw [zA1_v h, zAns_0]
    have ra := c_holderOf (w := w) hK hC hW hy hs h
    obtain ⟨b1, b2, b3⟩ := id h
    unfold f_X11_holder
    refine qa_fn_eq ?_ (by simp)
    simp (disch := omega) [ev_X11_holder_0, B_X11_holder_0, x_const, x_iadd, x_isub, x_imul, x_idiv, x_irem, x_ineg, x_dup, x_dup_x1, x_dup2, x_pop, x_goto, x_ifeq, x_ifne, x_iflt, x_ifge, x_ifgt, x_ifle, x_cmpeq, x_cmpne, x_cmplt, x_cmpge, x_cmpgt, x_cmple, x_null, x_nonnull, x_acmpeq, x_acmpne, x_get, x_put, x_putz, x_ald, x_ast, x_bast, x_zast, x_aast, x_alen, x_obj, x_ret, x_retz, x_vret, x_max, x_min, x_copy, x_i2l, qg_none, qg_inl, qg_inr, qg_ite, xr1, xr0, xrE, xri, xl0, xl1, xl2, xl3, xl4, xl5, xl6, xl7, xl8, xl9, xl10, xs0, xs1, xs2, xs3, xs4, xs5, xs6, xs7, xs8, xs9, xs10, xi0, xi1, xi2, xi3, xi4, xi5, xi6, xi7, xi8, xi9, xi10, xc0, xc1, xc2, xc3, xc4, xc5, xc6, xc7, xv1, xv2, xv3, xv4, xv5, xv6, xv7, dT_le, dF_le, dT_lt, dF_lt, f2, f3, f4, fV, fW, f0, f8, f9, f7, e0, e1, eC, eB, eR, kS, kC, kV, kW, kB, kE, kR, kD, kL, hx, hn, x_switch, zsw, ne, hr0, ra, y1]
  · rw [if_neg h] at ne
    rw [zA1_1 h, zAns_1]
    unfold f_X11_holder
    refine qa_fn_eq ?_ (by simp)
    simp (disch := omega) [ev_X11_holder_0, B_X11_holder_0, x_const, x_iadd, x_isub, x_imul, x_idiv, x_irem, x_ineg, x_dup, x_dup_x1, x_dup2, x_pop, x_goto, x_ifeq, x_ifne, x_iflt, x_ifge, x_ifgt, x_ifle, x_cmpeq, x_cmpne, x_cmplt, x_cmpge, x_cmpgt, x_cmple, x_null, x_nonnull, x_acmpeq, x_acmpne, x_get, x_put, x_putz, x_ald, x_ast, x_bast, x_zast, x_aast, x_alen, x_obj, x_ret, x_retz, x_vret, x_max, x_min, x_copy, x_i2l, qg_none, qg_inl, qg_inr, qg_ite, xr1, xr0, xrE, xri, xl0, xl1, xl2, xl3, xl4, xl5, xl6, xl7, xl8, xl9, xl10, xs0, xs1, xs2, xs3, xs4, xs5, xs6, xs7, xs8, xs9, xs10, xi0, xi1, xi2, xi3, xi4, xi5, xi6, xi7, xi8, xi9, xi10, xc0, xc1, xc2, xc3, xc4, xc5, xc6, xc7, xv1, xv2, xv3, xv4, xv5, xv6, xv7, dT_le, dF_le, dT_lt, dF_lt, f2, f3, f4, fV, fW, f0, f8, f9, f7, e0, e1, eC, eB, eR, kS, kC, kV, kW, kB, kE, kR, kD, kL, hx, hn, x_thr, ne]
theorem mq_holder {m : Int → Int → Int} {kd : Int → Nat × Int} {w : Nat × Nat × Nat} {A : zA} (hK : KM kd) (hR : RM m) (hQ : QR A (m 79)) {M : Int} (hW : zW M A) {st : Int → Int} (hS : QS st m) (b : Int) : f_X12_holder [(1, 77), (0, b)] (m, kd, w) = mAns (zA1 (zBl A b) (zHolder A st b)) m kd w := by
  have ni := m_isBranch (w := w) hK hR hQ b
  have hRt : ∀ t, RM (qa_up m 77 0 t) := fun t => by rw [RM_t]; exact hR
  have hQt : ∀ t, QR A ((qa_up m 77 0 t) 79) := fun t => hQ
  obtain ⟨k77, k78, k79, k80, k81, k82, k83, k84, k85, k86, k87, k88, k89, k90⟩ := id hK
  obtain ⟨r1, r2, r3, r4, r6, r7, r8, r12, r13, r15, r23, r25, r26⟩ := id hR
  obtain ⟨g0, g1, gC, gI, gB, gJ, gR, gD, gE⟩ := id hQ
  by_cases h : zBl A b
  · rw [if_pos h] at ni
    rw [zA1_v h, mAns_e]
    have ra := m_holderOf (w := w) hK (hRt 0) (hQt 0) hW (st := st) (fun i i1 i2 => by rw [show (qa_up m 77 0 0) 78 i = m 78 i from qa_up_no _ (by omega)]; exact hS i i1 i2) h
    unfold f_X12_holder
    refine qa_fn_eq ?_ (by simp)
    simp (disch := omega) [ev_X12_holder_0, ev_X12_holder_1, ev_X12_holder_2, ev_X12_holder_3, ev_X12_holder_4, B_X12_holder_0, B_X12_holder_1, B_X12_holder_2, B_X12_holder_3, B_X12_holder_4, x_const, x_iadd, x_isub, x_imul, x_idiv, x_irem, x_ineg, x_dup, x_dup_x1, x_dup2, x_pop, x_goto, x_ifeq, x_ifne, x_iflt, x_ifge, x_ifgt, x_ifle, x_cmpeq, x_cmpne, x_cmplt, x_cmpge, x_cmpgt, x_cmple, x_null, x_nonnull, x_acmpeq, x_acmpne, x_get, x_put, x_putz, x_ald, x_ast, x_bast, x_zast, x_aast, x_alen, x_obj, x_ret, x_retz, x_vret, x_max, x_min, x_copy, x_i2l, qg_none, qg_inl, qg_inr, qg_ite, xr1, xr0, xrE, xri, xl0, xl1, xl2, xl3, xl4, xl5, xl6, xl7, xl8, xl9, xl10, xs0, xs1, xs2, xs3, xs4, xs5, xs6, xs7, xs8, xs9, xs10, xi0, xi1, xi2, xi3, xi4, xi5, xi6, xi7, xi8, xi9, xi10, xc0, xc1, xc2, xc3, xc4, xc5, xc6, xc7, xv1, xv2, xv3, xv4, xv5, xv6, xv7, dT_le, dF_le, dT_lt, dF_lt, dT_eq, dF_eq, qa_up_hit, qa_up_no, k77, k78, k79, r1, r2, x_switch, zsw, ni, ra]
  · rw [if_neg h] at ni
    rw [zA1_1 h, mAns_e]
    unfold f_X12_holder
    refine qa_fn_eq ?_ (by simp)
    simp (disch := omega) [ev_X12_holder_0, ev_X12_holder_1, ev_X12_holder_2, ev_X12_holder_3, ev_X12_holder_4, B_X12_holder_0, B_X12_holder_1, B_X12_holder_2, B_X12_holder_3, B_X12_holder_4, x_const, x_iadd, x_isub, x_imul, x_idiv, x_irem, x_ineg, x_dup, x_dup_x1, x_dup2, x_pop, x_goto, x_ifeq, x_ifne, x_iflt, x_ifge, x_ifgt, x_ifle, x_cmpeq, x_cmpne, x_cmplt, x_cmpge, x_cmpgt, x_cmple, x_null, x_nonnull, x_acmpeq, x_acmpne, x_get, x_put, x_putz, x_ald, x_ast, x_bast, x_zast, x_aast, x_alen, x_obj, x_ret, x_retz, x_vret, x_max, x_min, x_copy, x_i2l, qg_none, qg_inl, qg_inr, qg_ite, xr1, xr0, xrE, xri, xl0, xl1, xl2, xl3, xl4, xl5, xl6, xl7, xl8, xl9, xl10, xs0, xs1, xs2, xs3, xs4, xs5, xs6, xs7, xs8, xs9, xs10, xi0, xi1, xi2, xi3, xi4, xi5, xi6, xi7, xi8, xi9, xi10, xc0, xc1, xc2, xc3, xc4, xc5, xc6, xc7, xv1, xv2, xv3, xv4, xv5, xv6, xv7, dT_le, dF_le, dT_lt, dF_lt, dT_eq, dF_eq, qa_up_hit, qa_up_no, k77, k78, k79, r1, r2, x_switch, zsw, ni]
theorem cq_cause {m : Int → Int → Int} {kd : Int → Nat × Int} {w : Nat × Nat × Nat} {A : zA} {S : Int} (hK : KS kd S) (hC : RC A m kd S) {M : Int} (hW : zW M A) (hx : kd 0 = (14, 0)) (hn : m 0 1 = S) {st : Int → Int} {y z : Int} (hy : CR st m kd y z) (hs : zS st) (hr0 : m 0 0 = y) (b : Int) : f_X11_cause [(1, 0), (0, b)] (m, kd, w) = zAns 1 2 (zA1 (zBl A b) (zCause A st b)) m kd w := by
  have ne := c_needBranch (w := w) hK hC hW hx hn b
  obtain ⟨⟨f2, f3, f4, fV, fW, f0, f8, f9, f7⟩, e0, e1, eC, eB, eR, eD, eL, eE⟩ := id hC
  obtain ⟨kN, kS, kC, kV, kW, kB, kE, kR, kD, kL⟩ := id hK
  have y1 := hy.1
  by_cases h : zBl A b
  · rw [if_pos h] at ne
    rw [zA1_v h, zAns_0]
    have ra := c_causeFor (w := w) hK hC hW hy hs h
    obtain ⟨b1, b2, b3⟩ := id h
    unfold f_X11_cause
    refine qa_fn_eq ?_ (by simp)
    simp (disch := omega) [ev_X11_cause_0, B_X11_cause_0, x_const, x_iadd, x_isub, x_imul, x_idiv, x_irem, x_ineg, x_dup, x_dup_x1, x_dup2, x_pop, x_goto, x_ifeq, x_ifne, x_iflt, x_ifge, x_ifgt, x_ifle, x_cmpeq, x_cmpne, x_cmplt, x_cmpge, x_cmpgt, x_cmple, x_null, x_nonnull, x_acmpeq, x_acmpne, x_get, x_put, x_putz, x_ald, x_ast, x_bast, x_zast, x_aast, x_alen, x_obj, x_ret, x_retz, x_vret, x_max, x_min, x_copy, x_i2l, qg_none, qg_inl, qg_inr, qg_ite, xr1, xr0, xrE, xri, xl0, xl1, xl2, xl3, xl4, xl5, xl6, xl7, xl8, xl9, xl10, xs0, xs1, xs2, xs3, xs4, xs5, xs6, xs7, xs8, xs9, xs10, xi0, xi1, xi2, xi3, xi4, xi5, xi6, xi7, xi8, xi9, xi10, xc0, xc1, xc2, xc3, xc4, xc5, xc6, xc7, xv1, xv2, xv3, xv4, xv5, xv6, xv7, dT_le, dF_le, dT_lt, dF_lt, f2, f3, f4, fV, fW, f0, f8, f9, f7, e0, e1, eC, eB, eR, kS, kC, kV, kW, kB, kE, kR, kD, kL, hx, hn, x_switch, zsw, ne, hr0, ra, y1]
  · rw [if_neg h] at ne
    rw [zA1_1 h, zAns_1]
    unfold f_X11_cause
    refine qa_fn_eq ?_ (by simp)
    simp (disch := omega) [ev_X11_cause_0, B_X11_cause_0, x_const, x_iadd, x_isub, x_imul, x_idiv, x_irem, x_ineg, x_dup, x_dup_x1, x_dup2, x_pop, x_goto, x_ifeq, x_ifne, x_iflt, x_ifge, x_ifgt, x_ifle, x_cmpeq, x_cmpne, x_cmplt, x_cmpge, x_cmpgt, x_cmple, x_null, x_nonnull, x_acmpeq, x_acmpne, x_get, x_put, x_putz, x_ald, x_ast, x_bast, x_zast, x_aast, x_alen, x_obj, x_ret, x_retz, x_vret, x_max, x_min, x_copy, x_i2l, qg_none, qg_inl, qg_inr, qg_ite, xr1, xr0, xrE, xri, xl0, xl1, xl2, xl3, xl4, xl5, xl6, xl7, xl8, xl9, xl10, xs0, xs1, xs2, xs3, xs4, xs5, xs6, xs7, xs8, xs9, xs10, xi0, xi1, xi2, xi3, xi4, xi5, xi6, xi7, xi8, xi9, xi10, xc0, xc1, xc2, xc3, xc4, xc5, xc6, xc7, xv1, xv2, xv3, xv4, xv5, xv6, xv7, dT_le, dF_le, dT_lt, dF_lt, f2, f3, f4, fV, fW, f0, f8, f9, f7, e0, e1, eC, eB, eR, kS, kC, kV, kW, kB, kE, kR, kD, kL, hx, hn, x_thr, ne]
theorem mq_cause {m : Int → Int → Int} {kd : Int → Nat × Int} {w : Nat × Nat × Nat} {A : zA} (hK : KM kd) (hR : RM m) (hQ : QR A (m 79)) {M : Int} (hW : zW M A) {st : Int → Int} (hS : QS st m) (hs : zS st) (b : Int) : f_X12_cause [(1, 77), (0, b)] (m, kd, w) = mAns (zA1 (zBl A b) (zCause A st b)) m kd w := by
  have ni := m_isBranch (w := w) hK hR hQ b
  have hRt : ∀ t, RM (qa_up m 77 0 t) := fun t => by rw [RM_t]; exact hR
  have hQt : ∀ t, QR A ((qa_up m 77 0 t) 79) := fun t => hQ
  obtain ⟨k77, k78, k79, k80, k81, k82, k83, k84, k85, k86, k87, k88, k89, k90⟩ := id hK
  obtain ⟨r1, r2, r3, r4, r6, r7, r8, r12, r13, r15, r23, r25, r26⟩ := id hR
  obtain ⟨g0, g1, gC, gI, gB, gJ, gR, gD, gE⟩ := id hQ
  by_cases h : zBl A b
  · rw [if_pos h] at ni
    rw [zA1_v h, mAns_e]
    have ra := m_causeOf (w := w) hK (hRt 0) (hQt 0) hW (st := st) (fun i i1 i2 => by rw [show (qa_up m 77 0 0) 78 i = m 78 i from qa_up_no _ (by omega)]; exact hS i i1 i2) hs h
    unfold f_X12_cause
    refine qa_fn_eq ?_ (by simp)
    simp (disch := omega) [ev_X12_cause_0, ev_X12_cause_1, ev_X12_cause_2, ev_X12_cause_3, ev_X12_cause_4, B_X12_cause_0, B_X12_cause_1, B_X12_cause_2, B_X12_cause_3, B_X12_cause_4, x_const, x_iadd, x_isub, x_imul, x_idiv, x_irem, x_ineg, x_dup, x_dup_x1, x_dup2, x_pop, x_goto, x_ifeq, x_ifne, x_iflt, x_ifge, x_ifgt, x_ifle, x_cmpeq, x_cmpne, x_cmplt, x_cmpge, x_cmpgt, x_cmple, x_null, x_nonnull, x_acmpeq, x_acmpne, x_get, x_put, x_putz, x_ald, x_ast, x_bast, x_zast, x_aast, x_alen, x_obj, x_ret, x_retz, x_vret, x_max, x_min, x_copy, x_i2l, qg_none, qg_inl, qg_inr, qg_ite, xr1, xr0, xrE, xri, xl0, xl1, xl2, xl3, xl4, xl5, xl6, xl7, xl8, xl9, xl10, xs0, xs1, xs2, xs3, xs4, xs5, xs6, xs7, xs8, xs9, xs10, xi0, xi1, xi2, xi3, xi4, xi5, xi6, xi7, xi8, xi9, xi10, xc0, xc1, xc2, xc3, xc4, xc5, xc6, xc7, xv1, xv2, xv3, xv4, xv5, xv6, xv7, dT_le, dF_le, dT_lt, dF_lt, dT_eq, dF_eq, qa_up_hit, qa_up_no, k77, k78, k79, r1, r2, x_switch, zsw, ni, ra]
  · rw [if_neg h] at ni
    rw [zA1_1 h, mAns_e]
    unfold f_X12_cause
    refine qa_fn_eq ?_ (by simp)
    simp (disch := omega) [ev_X12_cause_0, ev_X12_cause_1, ev_X12_cause_2, ev_X12_cause_3, ev_X12_cause_4, B_X12_cause_0, B_X12_cause_1, B_X12_cause_2, B_X12_cause_3, B_X12_cause_4, x_const, x_iadd, x_isub, x_imul, x_idiv, x_irem, x_ineg, x_dup, x_dup_x1, x_dup2, x_pop, x_goto, x_ifeq, x_ifne, x_iflt, x_ifge, x_ifgt, x_ifle, x_cmpeq, x_cmpne, x_cmplt, x_cmpge, x_cmpgt, x_cmple, x_null, x_nonnull, x_acmpeq, x_acmpne, x_get, x_put, x_putz, x_ald, x_ast, x_bast, x_zast, x_aast, x_alen, x_obj, x_ret, x_retz, x_vret, x_max, x_min, x_copy, x_i2l, qg_none, qg_inl, qg_inr, qg_ite, xr1, xr0, xrE, xri, xl0, xl1, xl2, xl3, xl4, xl5, xl6, xl7, xl8, xl9, xl10, xs0, xs1, xs2, xs3, xs4, xs5, xs6, xs7, xs8, xs9, xs10, xi0, xi1, xi2, xi3, xi4, xi5, xi6, xi7, xi8, xi9, xi10, xc0, xc1, xc2, xc3, xc4, xc5, xc6, xc7, xv1, xv2, xv3, xv4, xv5, xv6, xv7, dT_le, dF_le, dT_lt, dF_lt, dT_eq, dF_eq, qa_up_hit, qa_up_no, k77, k78, k79, r1, r2, x_switch, zsw, ni]
theorem cq_slowest {m : Int → Int → Int} {kd : Int → Nat × Int} {w : Nat × Nat × Nat} {A : zA} {S : Int} (hK : KS kd S) (hC : RC A m kd S) {M : Int} (hW : zW M A) (hx : kd 0 = (14, 0)) (hn : m 0 1 = S) (b : Int) : f_X11_slowest [(1, 0), (0, b)] (m, kd, w) = zAns 1 2 (zA1 (zBl A b) (zslow A b (-1) 0 6)) m kd w := by
  have ne := c_needBranch (w := w) hK hC hW hx hn b
  obtain ⟨⟨f2, f3, f4, fV, fW, f0, f8, f9, f7⟩, e0, e1, eC, eB, eR, eD, eL, eE⟩ := id hC
  obtain ⟨kN, kS, kC, kV, kW, kB, kE, kR, kD, kL⟩ := id hK
  by_cases h : zBl A b
  · rw [if_pos h] at ne
    rw [zA1_v h, zAns_0]
    have ra := c_slowestIn (w := w) hK hC hW ⟨h.1, h.2.1⟩
    obtain ⟨b1, b2, b3⟩ := id h
    unfold f_X11_slowest
    refine qa_fn_eq ?_ (by simp)
    simp (disch := omega) [ev_X11_slowest_0, B_X11_slowest_0, x_const, x_iadd, x_isub, x_imul, x_idiv, x_irem, x_ineg, x_dup, x_dup_x1, x_dup2, x_pop, x_goto, x_ifeq, x_ifne, x_iflt, x_ifge, x_ifgt, x_ifle, x_cmpeq, x_cmpne, x_cmplt, x_cmpge, x_cmpgt, x_cmple, x_null, x_nonnull, x_acmpeq, x_acmpne, x_get, x_put, x_putz, x_ald, x_ast, x_bast, x_zast, x_aast, x_alen, x_obj, x_ret, x_retz, x_vret, x_max, x_min, x_copy, x_i2l, qg_none, qg_inl, qg_inr, qg_ite, xr1, xr0, xrE, xri, xl0, xl1, xl2, xl3, xl4, xl5, xl6, xl7, xl8, xl9, xl10, xs0, xs1, xs2, xs3, xs4, xs5, xs6, xs7, xs8, xs9, xs10, xi0, xi1, xi2, xi3, xi4, xi5, xi6, xi7, xi8, xi9, xi10, xc0, xc1, xc2, xc3, xc4, xc5, xc6, xc7, xv1, xv2, xv3, xv4, xv5, xv6, xv7, dT_le, dF_le, dT_lt, dF_lt, f2, f3, f4, fV, fW, f0, f8, f9, f7, e0, e1, eC, eB, eR, kS, kC, kV, kW, kB, kE, kR, kD, kL, hx, hn, x_switch, zsw, ne, ra]
  · rw [if_neg h] at ne
    rw [zA1_1 h, zAns_1]
    unfold f_X11_slowest
    refine qa_fn_eq ?_ (by simp)
    simp (disch := omega) [ev_X11_slowest_0, B_X11_slowest_0, x_const, x_iadd, x_isub, x_imul, x_idiv, x_irem, x_ineg, x_dup, x_dup_x1, x_dup2, x_pop, x_goto, x_ifeq, x_ifne, x_iflt, x_ifge, x_ifgt, x_ifle, x_cmpeq, x_cmpne, x_cmplt, x_cmpge, x_cmpgt, x_cmple, x_null, x_nonnull, x_acmpeq, x_acmpne, x_get, x_put, x_putz, x_ald, x_ast, x_bast, x_zast, x_aast, x_alen, x_obj, x_ret, x_retz, x_vret, x_max, x_min, x_copy, x_i2l, qg_none, qg_inl, qg_inr, qg_ite, xr1, xr0, xrE, xri, xl0, xl1, xl2, xl3, xl4, xl5, xl6, xl7, xl8, xl9, xl10, xs0, xs1, xs2, xs3, xs4, xs5, xs6, xs7, xs8, xs9, xs10, xi0, xi1, xi2, xi3, xi4, xi5, xi6, xi7, xi8, xi9, xi10, xc0, xc1, xc2, xc3, xc4, xc5, xc6, xc7, xv1, xv2, xv3, xv4, xv5, xv6, xv7, dT_le, dF_le, dT_lt, dF_lt, f2, f3, f4, fV, fW, f0, f8, f9, f7, e0, e1, eC, eB, eR, kS, kC, kV, kW, kB, kE, kR, kD, kL, hx, hn, x_thr, ne]
theorem cq_age {m : Int → Int → Int} {kd : Int → Nat × Int} {w : Nat × Nat × Nat} {A : zA} {S : Int} (hK : KS kd S) (hC : RC A m kd S) {M : Int} (hW : zW M A) (hx : kd 0 = (14, 0)) (hn : m 0 1 = S) (b : Int) : f_X11_age [(1, 0), (0, b)] (m, kd, w) = zAns 1 2 (zA1 (zBl A b) (if A.2.1 b 5 ≤ A.2.1 b 4 then -1 else A.1 0 - A.2.2.2 b (A.2.1 b 4) 0)) m kd w := by
  have ne := c_needBranch (w := w) hK hC hW hx hn b
  obtain ⟨⟨f2, f3, f4, fV, fW, f0, f8, f9, f7⟩, e0, e1, eC, eB, eR, eD, eL, eE⟩ := id hC
  obtain ⟨kN, kS, kC, kV, kW, kB, kE, kR, kD, kL⟩ := id hK
  by_cases h : zBl A b
  · rw [if_pos h] at ne
    rw [zA1_v h, zAns_0]
    obtain ⟨b1, b2, b3⟩ := id h
    have tn := hW.tn
    obtain ⟨e, he1, he2, he3⟩ := c_entryAt (w := w) (p := A.2.1 b 4) hK hC hW h
    have key : (A.2.1 b 5 ≤ A.2.1 b 4 ∧ e = -1) ∨ (A.2.1 b 4 < A.2.1 b 5 ∧ kd e = (9, 0) ∧ e ≠ -1 ∧ m e 0 = A.2.2.2 b (A.2.1 b 4) 0 ∧ 0 ≤ A.2.2.2 b (A.2.1 b 4) 0 ∧ A.2.2.2 b (A.2.1 b 4) 0 ≤ A.1 0) := by
      by_cases hp : A.2.1 b 5 ≤ A.2.1 b 4
      · exact Or.inl ⟨hp, he3 (by omega)⟩
      · have q := he2 ⟨Int.le_refl _, by omega⟩
        have v := hW.2.2.2.2.2.2.1 b _ b1 b2 b3 (Int.le_refl _) (by omega)
        exact Or.inr ⟨by omega, q.1, q.2.1, q.2.2 0 (by decide) (by decide), v.1, v.2.1⟩
    rcases key with ⟨hp, he⟩ | ⟨hp, q1, q2, q3, q4, q5⟩
    · rw [if_pos hp]
      subst he
      unfold f_X11_age
      refine qa_fn_eq ?_ (by simp)
      simp (disch := omega) [ev_X11_age_0, ev_X11_age_1, ev_X11_age_2, B_X11_age_0, B_X11_age_1, B_X11_age_2, x_const, x_iadd, x_isub, x_imul, x_idiv, x_irem, x_ineg, x_dup, x_dup_x1, x_dup2, x_pop, x_goto, x_ifeq, x_ifne, x_iflt, x_ifge, x_ifgt, x_ifle, x_cmpeq, x_cmpne, x_cmplt, x_cmpge, x_cmpgt, x_cmple, x_null, x_nonnull, x_acmpeq, x_acmpne, x_get, x_put, x_putz, x_ald, x_ast, x_bast, x_zast, x_aast, x_alen, x_obj, x_ret, x_retz, x_vret, x_max, x_min, x_copy, x_i2l, qg_none, qg_inl, qg_inr, qg_ite, xr1, xr0, xrE, xri, xl0, xl1, xl2, xl3, xl4, xl5, xl6, xl7, xl8, xl9, xl10, xs0, xs1, xs2, xs3, xs4, xs5, xs6, xs7, xs8, xs9, xs10, xi0, xi1, xi2, xi3, xi4, xi5, xi6, xi7, xi8, xi9, xi10, xc0, xc1, xc2, xc3, xc4, xc5, xc6, xc7, xv1, xv2, xv3, xv4, xv5, xv6, xv7, dT_le, dF_le, dT_lt, dF_lt, f2, f3, f4, fV, fW, f0, f8, f9, f7, e0, e1, eC, eB, eR, kS, kC, kV, kW, kB, kE, kR, kD, kL, hx, hn, ne, he1]
    rw [if_neg (by omega)]
    unfold f_X11_age
    refine qa_fn_eq ?_ (by simp)
    simp (disch := omega) [ev_X11_age_0, ev_X11_age_1, ev_X11_age_2, B_X11_age_0, B_X11_age_1, B_X11_age_2, x_const, x_iadd, x_isub, x_imul, x_idiv, x_irem, x_ineg, x_dup, x_dup_x1, x_dup2, x_pop, x_goto, x_ifeq, x_ifne, x_iflt, x_ifge, x_ifgt, x_ifle, x_cmpeq, x_cmpne, x_cmplt, x_cmpge, x_cmpgt, x_cmple, x_null, x_nonnull, x_acmpeq, x_acmpne, x_get, x_put, x_putz, x_ald, x_ast, x_bast, x_zast, x_aast, x_alen, x_obj, x_ret, x_retz, x_vret, x_max, x_min, x_copy, x_i2l, qg_none, qg_inl, qg_inr, qg_ite, xr1, xr0, xrE, xri, xl0, xl1, xl2, xl3, xl4, xl5, xl6, xl7, xl8, xl9, xl10, xs0, xs1, xs2, xs3, xs4, xs5, xs6, xs7, xs8, xs9, xs10, xi0, xi1, xi2, xi3, xi4, xi5, xi6, xi7, xi8, xi9, xi10, xc0, xc1, xc2, xc3, xc4, xc5, xc6, xc7, xv1, xv2, xv3, xv4, xv5, xv6, xv7, dT_le, dF_le, dT_lt, dF_lt, f2, f3, f4, fV, fW, f0, f8, f9, f7, e0, e1, eC, eB, eR, kS, kC, kV, kW, kB, kE, kR, kD, kL, hx, hn, x_switch, zsw, ne, he1, q1, q2, q3]
  · rw [if_neg h] at ne
    rw [zA1_1 h, zAns_1]
    unfold f_X11_age
    refine qa_fn_eq ?_ (by simp)
    simp (disch := omega) [ev_X11_age_0, ev_X11_age_1, ev_X11_age_2, B_X11_age_0, B_X11_age_1, B_X11_age_2, x_const, x_iadd, x_isub, x_imul, x_idiv, x_irem, x_ineg, x_dup, x_dup_x1, x_dup2, x_pop, x_goto, x_ifeq, x_ifne, x_iflt, x_ifge, x_ifgt, x_ifle, x_cmpeq, x_cmpne, x_cmplt, x_cmpge, x_cmpgt, x_cmple, x_null, x_nonnull, x_acmpeq, x_acmpne, x_get, x_put, x_putz, x_ald, x_ast, x_bast, x_zast, x_aast, x_alen, x_obj, x_ret, x_retz, x_vret, x_max, x_min, x_copy, x_i2l, qg_none, qg_inl, qg_inr, qg_ite, xr1, xr0, xrE, xri, xl0, xl1, xl2, xl3, xl4, xl5, xl6, xl7, xl8, xl9, xl10, xs0, xs1, xs2, xs3, xs4, xs5, xs6, xs7, xs8, xs9, xs10, xi0, xi1, xi2, xi3, xi4, xi5, xi6, xi7, xi8, xi9, xi10, xc0, xc1, xc2, xc3, xc4, xc5, xc6, xc7, xv1, xv2, xv3, xv4, xv5, xv6, xv7, dT_le, dF_le, dT_lt, dF_lt, f2, f3, f4, fV, fW, f0, f8, f9, f7, e0, e1, eC, eB, eR, kS, kC, kV, kW, kB, kE, kR, kD, kL, hx, hn, x_thr, ne]
theorem mq_age {m : Int → Int → Int} {kd : Int → Nat × Int} {w : Nat × Nat × Nat} {A : zA} (hK : KM kd) (hR : RM m) (hQ : QR A (m 79)) {M : Int} (hW : zW M A) (b : Int) : f_X12_age [(1, 77), (0, b)] (m, kd, w) = mAns (zA1 (zBl A b) (if A.2.1 b 5 ≤ A.2.1 b 4 then -1 else A.1 0 - A.2.2.2 b (A.2.1 b 4) 0)) m kd w := by
  have ni := m_isBranch (w := w) hK hR hQ b
  have hRt : ∀ t, RM (qa_up m 77 0 t) := fun t => by rw [RM_t]; exact hR
  have hQt : ∀ t, QR A ((qa_up m 77 0 t) 79) := fun t => hQ
  obtain ⟨k77, k78, k79, k80, k81, k82, k83, k84, k85, k86, k87, k88, k89, k90⟩ := id hK
  obtain ⟨r1, r2, r3, r4, r6, r7, r8, r12, r13, r15, r23, r25, r26⟩ := id hR
  obtain ⟨g0, g1, gC, gI, gB, gJ, gR, gD, gE⟩ := id hQ
  by_cases h : zBl A b
  · rw [if_pos h] at ni
    rw [zA1_v h, mAns_e]
    obtain ⟨b1, b2, b3⟩ := id h
    have tn := hW.tn
    have hbn := hW.bn h
    obtain ⟨u1, u2, u3⟩ := gB b b1 b2 b3
    by_cases hp : A.2.1 b 5 ≤ A.2.1 b 4
    · rw [if_pos hp]
      have u20 : m 79 (6 + 7 * b + 2) = 0 := by omega
      unfold f_X12_age
      refine qa_fn_eq ?_ (by simp)
      simp (disch := omega) [ev_X12_age_0, ev_X12_age_1, ev_X12_age_2, ev_X12_age_3, ev_X12_age_4, ev_X12_age_5, B_X12_age_0, B_X12_age_1, B_X12_age_2, B_X12_age_3, B_X12_age_4, B_X12_age_5, x_const, x_iadd, x_isub, x_imul, x_idiv, x_irem, x_ineg, x_dup, x_dup_x1, x_dup2, x_pop, x_goto, x_ifeq, x_ifne, x_iflt, x_ifge, x_ifgt, x_ifle, x_cmpeq, x_cmpne, x_cmplt, x_cmpge, x_cmpgt, x_cmple, x_null, x_nonnull, x_acmpeq, x_acmpne, x_get, x_put, x_putz, x_ald, x_ast, x_bast, x_zast, x_aast, x_alen, x_obj, x_ret, x_retz, x_vret, x_max, x_min, x_copy, x_i2l, qg_none, qg_inl, qg_inr, qg_ite, xr1, xr0, xrE, xri, xl0, xl1, xl2, xl3, xl4, xl5, xl6, xl7, xl8, xl9, xl10, xs0, xs1, xs2, xs3, xs4, xs5, xs6, xs7, xs8, xs9, xs10, xi0, xi1, xi2, xi3, xi4, xi5, xi6, xi7, xi8, xi9, xi10, xc0, xc1, xc2, xc3, xc4, xc5, xc6, xc7, xv1, xv2, xv3, xv4, xv5, xv6, xv7, dT_le, dF_le, dT_lt, dF_lt, dT_eq, dF_eq, qa_up_hit, qa_up_no, k77, k79, r2, ni, m_ofBranch hK (hRt 0), u20]
    rw [if_neg hp]
    have u20 : ¬ A.2.1 b 5 - A.2.1 b 4 = 0 := by omega
    have v := hW.2.2.2.2.2.2.1 b _ b1 b2 b3 (Int.le_refl _) (by omega)
    obtain ⟨v1, v2, v3⟩ := id v
    have ra := m_timeOf (w := w) hK (hRt 0) (hQt 0) (k := 0) h (by omega) (by decide) (by omega)
    rw [Int.add_zero] at ra
    unfold f_X12_age
    refine qa_fn_eq ?_ (by simp)
    simp (disch := omega) [ev_X12_age_0, ev_X12_age_1, ev_X12_age_2, ev_X12_age_3, ev_X12_age_4, ev_X12_age_5, B_X12_age_0, B_X12_age_1, B_X12_age_2, B_X12_age_3, B_X12_age_4, B_X12_age_5, x_const, x_iadd, x_isub, x_imul, x_idiv, x_irem, x_ineg, x_dup, x_dup_x1, x_dup2, x_pop, x_goto, x_ifeq, x_ifne, x_iflt, x_ifge, x_ifgt, x_ifle, x_cmpeq, x_cmpne, x_cmplt, x_cmpge, x_cmpgt, x_cmple, x_null, x_nonnull, x_acmpeq, x_acmpne, x_get, x_put, x_putz, x_ald, x_ast, x_bast, x_zast, x_aast, x_alen, x_obj, x_ret, x_retz, x_vret, x_max, x_min, x_copy, x_i2l, qg_none, qg_inl, qg_inr, qg_ite, xr1, xr0, xrE, xri, xl0, xl1, xl2, xl3, xl4, xl5, xl6, xl7, xl8, xl9, xl10, xs0, xs1, xs2, xs3, xs4, xs5, xs6, xs7, xs8, xs9, xs10, xi0, xi1, xi2, xi3, xi4, xi5, xi6, xi7, xi8, xi9, xi10, xc0, xc1, xc2, xc3, xc4, xc5, xc6, xc7, xv1, xv2, xv3, xv4, xv5, xv6, xv7, dT_le, dF_le, dT_lt, dF_lt, dT_eq, dF_eq, qa_up_hit, qa_up_no, k77, k78, k79, r1, r2, x_switch, zsw, ni, m_ofBranch hK (hRt 0), u2, u20, ra, g0]
  · rw [if_neg h] at ni
    rw [zA1_1 h, mAns_e]
    unfold f_X12_age
    refine qa_fn_eq ?_ (by simp)
    simp (disch := omega) [ev_X12_age_0, ev_X12_age_1, ev_X12_age_2, ev_X12_age_3, ev_X12_age_4, ev_X12_age_5, B_X12_age_0, B_X12_age_1, B_X12_age_2, B_X12_age_3, B_X12_age_4, B_X12_age_5, x_const, x_iadd, x_isub, x_imul, x_idiv, x_irem, x_ineg, x_dup, x_dup_x1, x_dup2, x_pop, x_goto, x_ifeq, x_ifne, x_iflt, x_ifge, x_ifgt, x_ifle, x_cmpeq, x_cmpne, x_cmplt, x_cmpge, x_cmpgt, x_cmple, x_null, x_nonnull, x_acmpeq, x_acmpne, x_get, x_put, x_putz, x_ald, x_ast, x_bast, x_zast, x_aast, x_alen, x_obj, x_ret, x_retz, x_vret, x_max, x_min, x_copy, x_i2l, qg_none, qg_inl, qg_inr, qg_ite, xr1, xr0, xrE, xri, xl0, xl1, xl2, xl3, xl4, xl5, xl6, xl7, xl8, xl9, xl10, xs0, xs1, xs2, xs3, xs4, xs5, xs6, xs7, xs8, xs9, xs10, xi0, xi1, xi2, xi3, xi4, xi5, xi6, xi7, xi8, xi9, xi10, xc0, xc1, xc2, xc3, xc4, xc5, xc6, xc7, xv1, xv2, xv3, xv4, xv5, xv6, xv7, dT_le, dF_le, dT_lt, dF_lt, dT_eq, dF_eq, qa_up_hit, qa_up_no, k77, k78, k79, r1, r2, x_switch, zsw, ni]
