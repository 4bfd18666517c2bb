def MV (SV : Int → zA) (m : Int → Int → Int) : Prop := ∀ i, 0 ≤ i → i < 2 → (m 83 i = 0 ∨ m 83 i = 1) ∧ (m 83 i = 1 → QR (SV i) (fun j => m 82 (14622 * i + j)))
def zf7 (m m' : Int → Int → Int) : Prop := (∀ c, c ≠ 77 → c ≠ 79 → m' c = m c) ∧ (∀ i, i ≠ 0 → i ≠ 5 → m' 77 i = m 77 i) ∧ m' 77 0 = 0
theorem ma_undo {m : Int → Int → Int} {kd : Int → Nat × Int} {w : Nat × Nat × Nat} (hK : KM kd) (hR : RM m) {M um : Int} {U : Int → zA} (hU : MU um U m) (hUW : ∀ k, 0 ≤ k → k < um → zW M (U k)) : (um = 0 → f_X12_undo [(1, 77)] (m, kd, w) = some (.inl (some (0, -1)), (qa_up m 77 0 0, kd, w))) ∧ (0 < um → ∃ m', f_X12_undo [(1, 77)] (m, kd, w) = some (.inl (some (0, um - 1)), (m', kd, w)) ∧ MU (um - 1) U m' ∧ QR (U (um - 1)) (m' 79) ∧ zf7 m m') := by
  have k77 := hK.1
  have k79 := hK.2.2.1
  have k81 := hK.2.2.2.2.1
  have r2 : m 77 2 = 79 := hR.2.1
  have r4 : m 77 4 = 81 := hR.2.2.2.1
  obtain ⟨u1, u2, u3, u4⟩ := hU
  refine ⟨fun h => ?_, fun h => ?_⟩
  · have u1' : m 77 5 = 0 := by omega
    unfold f_X12_undo
    refine qa_fn_eq ?_ (by simp)
    simp (disch := omega) [ev_X12_undo_0, ev_X12_undo_1, B_X12_undo_0, B_X12_undo_1, x_const, x_iadd, x_isub, x_imul, x_idiv, x_irem, x_ineg, x_dup, x_dup_x1, x_dup2, x_pop, x_goto, x_ifeq, x_ifne, x_iflt, x_ifge, x_ifgt, x_ifle, x_cmpeq, x_cmpne, x_cmplt, x_cmpge, x_cmpgt, x_cmple, x_null, x_nonnull, x_acmpeq, x_acmpne, x_get, x_put, x_putz, x_ald, x_ast, x_bast, x_zast, x_aast, x_alen, x_obj, x_ret, x_retz, x_vret, x_max, x_min, x_copy, x_i2l, qg_none, qg_inl, qg_inr, qg_ite, xr1, xr0, xrE, xri, xl0, xl1, xl2, xl3, xl4, xl5, xl6, xl7, xl8, xl9, xl10, xs0, xs1, xs2, xs3, xs4, xs5, xs6, xs7, xs8, xs9, xs10, xi0, xi1, xi2, xi3, xi4, xi5, xi6, xi7, xi8, xi9, xi10, xc0, xc1, xc2, xc3, xc4, xc5, xc6, xc7, xv1, xv2, xv3, xv4, xv5, xv6, xv7, dT_le, dF_le, dT_lt, dF_lt, dT_eq, dF_eq, qa_up_hit, qa_up_no, k77, u1']
  · generalize hm1 : qa_up (qa_up m 77 0 0) 77 5 (um - 1) = m1
    have o1 : ∀ c i, (c ≠ 77 ∨ (i ≠ 0 ∧ i ≠ 5)) → m1 c i = m c i := fun c i hc => by rw [← hm1, qa_up_no _ (by omega), qa_up_no _ (by omega)]
    have cp := m_copies (m := m1) (w := w) (s := 81) (d := 79) (t := 14622 * (um - 1)) (h := 0) k81 k79 (by decide) (by omega) (by decide) (by decide)
    generalize hm2 : qa_cp m1 81 (14622 * (um - 1)) 79 0 14622 = m2 at cp
    have o2 : ∀ c i, c ≠ 79 → m2 c i = m1 c i := fun c i hc => by rw [← hm2, qa_cp_no (Or.inl hc)]
    have e5 : m1 77 5 = um - 1 := by rw [← hm1, qa_up_hit]
    have e52 : m2 77 5 = um - 1 := by rw [o2 77 5 (by decide)]; exact e5
    have e2 : m1 77 2 = 79 := by rw [o1 77 2 (by omega)]; exact r2
    have e4 : m1 77 4 = 81 := by rw [o1 77 4 (by omega)]; exact r4
    refine ⟨m2, ?_, ⟨e52, by omega, by omega, fun k a b => ?_⟩, ?_, fun c c1 c2 => ?_, fun i i1 i2 => ?_, ?_⟩
    · have hne : ¬ um = 0 := by omega
      unfold f_X12_undo
      refine qa_fn_eq ?_ (by simp)
      simp (disch := omega) [ev_X12_undo_0, ev_X12_undo_1, B_X12_undo_0, B_X12_undo_1, x_const, x_iadd, x_isub, x_imul, x_idiv, x_irem, x_ineg, x_dup, x_dup_x1, x_dup2, x_pop, x_goto, x_ifeq, x_ifne, x_iflt, x_ifge, x_ifgt, x_ifle, x_cmpeq, x_cmpne, x_cmplt, x_cmpge, x_cmpgt, x_cmple, x_null, x_nonnull, x_acmpeq, x_acmpne, x_get, x_put, x_putz, x_ald, x_ast, x_bast, x_zast, x_aast, x_alen, x_obj, x_ret, x_retz, x_vret, x_max, x_min, x_copy, x_i2l, qg_none, qg_inl, qg_inr, qg_ite, xr1, xr0, xrE, xri, xl0, xl1, xl2, xl3, xl4, xl5, xl6, xl7, xl8, xl9, xl10, xs0, xs1, xs2, xs3, xs4, xs5, xs6, xs7, xs8, xs9, xs10, xi0, xi1, xi2, xi3, xi4, xi5, xi6, xi7, xi8, xi9, xi10, xc0, xc1, xc2, xc3, xc4, xc5, xc6, xc7, xv1, xv2, xv3, xv4, xv5, xv6, xv7, dT_le, dF_le, dT_lt, dF_lt, dT_eq, dF_eq, qa_up_hit, qa_up_no, dF_eq, k77, u1, hne, hm1, e5, e2, e4, cp, e52]
    · have e81 : m2 81 = m 81 := by funext j; rw [o2 81 j (by decide), o1 81 j (by omega)]
      rw [e81]
      exact u4 k a (by omega)
    · refine QR_congr (hUW _ (by omega) (by omega)) (u4 (um - 1) (by omega) (by omega)) (fun j j1 j2 => ?_)
      rw [← hm2, qa_cp_y j1 (by omega), o1 _ _ (by omega)]
      congr 1
      omega
    · funext i
      rw [o2 c i c2, o1 c i (by omega)]
    · rw [o2 77 i (by decide), o1 77 i (by omega)]
    · rw [o2 77 0 (by decide), ← hm1, qa_up_no _ (by omega), qa_up_hit]
theorem ma_restore {m : Int → Int → Int} {kd : Int → Nat × Int} {w : Nat × Nat × Nat} (hK : KM kd) (hR : RM m) {M : Int} {U SV : Int → zA} (hV : MV SV m) {i : Int} (hSW : 0 ≤ i → i < 2 → m 83 i = 1 → zW M (SV i)) : (¬ (0 ≤ i ∧ i ≤ 1) → f_X12_restore [(1, 77), (0, i)] (m, kd, w) = some (.inl none, (qa_up m 77 0 1, kd, w))) ∧ ((0 ≤ i ∧ i ≤ 1) → m 83 i = 0 → f_X12_restore [(1, 77), (0, i)] (m, kd, w) = some (.inl none, (qa_up m 77 0 2, kd, w))) ∧ ((0 ≤ i ∧ i ≤ 1) → m 83 i = 1 → ∃ m', f_X12_restore [(1, 77), (0, i)] (m, kd, w) = some (.inl none, (m', kd, w)) ∧ MU 0 U m' ∧ QR (SV i) (m' 79) ∧ zf7 m m') := by
  have k77 := hK.1
  have k79 := hK.2.2.1
  have k82 := hK.2.2.2.2.2.1
  have k83 := hK.2.2.2.2.2.2.1
  have r2 : m 77 2 = 79 := hR.2.1
  have r6 : m 77 6 = 82 := hR.2.2.2.2.1
  have r7 : m 77 7 = 83 := hR.2.2.2.2.2.1
  have rg := m_in (m := m) (kd := kd) (w := w) i 0 1
  refine ⟨fun h => ?_, fun h hz => ?_, fun h hz => ?_⟩
  · rw [if_neg h] at rg
    unfold f_X12_restore
    refine qa_fn_eq ?_ (by simp)
    simp (disch := omega) [ev_X12_restore_0, ev_X12_restore_1, ev_X12_restore_2, ev_X12_restore_3, ev_X12_restore_4, B_X12_restore_0, B_X12_restore_1, B_X12_restore_2, B_X12_restore_3, B_X12_restore_4, x_const, x_iadd, x_isub, x_imul, x_idiv, x_irem, x_ineg, x_dup, x_dup_x1, x_dup2, x_pop, x_goto, x_ifeq, x_ifne, x_iflt, x_ifge, x_ifgt, x_ifle, x_cmpeq, x_cmpne, x_cmplt, x_cmpge, x_cmpgt, x_cmple, x_null, x_nonnull, x_acmpeq, x_acmpne, x_get, x_put, x_putz, x_ald, x_ast, x_bast, x_zast, x_aast, x_alen, x_obj, x_ret, x_retz, x_vret, x_max, x_min, x_copy, x_i2l, qg_none, qg_inl, qg_inr, qg_ite, xr1, xr0, xrE, xri, xl0, xl1, xl2, xl3, xl4, xl5, xl6, xl7, xl8, xl9, xl10, xs0, xs1, xs2, xs3, xs4, xs5, xs6, xs7, xs8, xs9, xs10, xi0, xi1, xi2, xi3, xi4, xi5, xi6, xi7, xi8, xi9, xi10, xc0, xc1, xc2, xc3, xc4, xc5, xc6, xc7, xv1, xv2, xv3, xv4, xv5, xv6, xv7, dT_le, dF_le, dT_lt, dF_lt, dT_eq, dF_eq, qa_up_hit, qa_up_no, k77, rg]
  · rw [if_pos h] at rg
    unfold f_X12_restore
    refine qa_fn_eq ?_ (by simp)
    simp (disch := omega) [ev_X12_restore_0, ev_X12_restore_1, ev_X12_restore_2, ev_X12_restore_3, ev_X12_restore_4, B_X12_restore_0, B_X12_restore_1, B_X12_restore_2, B_X12_restore_3, B_X12_restore_4, x_const, x_iadd, x_isub, x_imul, x_idiv, x_irem, x_ineg, x_dup, x_dup_x1, x_dup2, x_pop, x_goto, x_ifeq, x_ifne, x_iflt, x_ifge, x_ifgt, x_ifle, x_cmpeq, x_cmpne, x_cmplt, x_cmpge, x_cmpgt, x_cmple, x_null, x_nonnull, x_acmpeq, x_acmpne, x_get, x_put, x_putz, x_ald, x_ast, x_bast, x_zast, x_aast, x_alen, x_obj, x_ret, x_retz, x_vret, x_max, x_min, x_copy, x_i2l, qg_none, qg_inl, qg_inr, qg_ite, xr1, xr0, xrE, xri, xl0, xl1, xl2, xl3, xl4, xl5, xl6, xl7, xl8, xl9, xl10, xs0, xs1, xs2, xs3, xs4, xs5, xs6, xs7, xs8, xs9, xs10, xi0, xi1, xi2, xi3, xi4, xi5, xi6, xi7, xi8, xi9, xi10, xc0, xc1, xc2, xc3, xc4, xc5, xc6, xc7, xv1, xv2, xv3, xv4, xv5, xv6, xv7, dT_le, dF_le, dT_lt, dF_lt, dT_eq, dF_eq, qa_up_hit, qa_up_no, k77, k83, r7, rg, hz]
  · rw [if_pos h] at rg
    generalize hm1 : qa_up m 77 0 0 = m1
    have o1 : ∀ c i, (c ≠ 77 ∨ i ≠ 0) → m1 c i = m c i := fun c i hc => by rw [← hm1, qa_up_no _ (by omega)]
    have cp := m_copies (m := m1) (w := w) (s := 82) (d := 79) (t := 14622 * i) (h := 0) k82 k79 (by decide) (by omega) (by decide) (by decide)
    generalize hm2 : qa_cp m1 82 (14622 * i) 79 0 14622 = m2 at cp
    have o2 : ∀ c i, c ≠ 79 → m2 c i = m1 c i := fun c i hc => by rw [← hm2, qa_cp_no (Or.inl hc)]
    have e2 : m1 77 2 = 79 := by rw [o1 77 2 (by omega)]; exact r2
    have e6 : m1 77 6 = 82 := by rw [o1 77 6 (by omega)]; exact r6
    have e0 : m1 77 0 = 0 := by rw [← hm1, qa_up_hit]
    have n0 : ∀ c i, (c ≠ 77 ∨ i ≠ 5) → qa_up m2 77 5 0 c i = m2 c i := fun c i hc => qa_up_no _ (by omega)
    refine ⟨qa_up m2 77 5 0, ?_, ⟨qa_up_hit _ _ _ _, by decide, by decide, fun k a b => by omega⟩, ?_, fun c c1 c2 => ?_, fun j i1 i2 => ?_, ?_⟩
    · unfold f_X12_restore
      refine qa_fn_eq ?_ (by simp)
      simp (disch := omega) [ev_X12_restore_0, ev_X12_restore_1, ev_X12_restore_2, ev_X12_restore_3, ev_X12_restore_4, B_X12_restore_0, B_X12_restore_1, B_X12_restore_2, B_X12_restore_3, B_X12_restore_4, x_const, x_iadd, x_isub, x_imul, x_idiv, x_irem, x_ineg, x_dup, x_dup_x1, x_dup2, x_pop, x_goto, x_ifeq, x_ifne, x_iflt, x_ifge, x_ifgt, x_ifle, x_cmpeq, x_cmpne, x_cmplt, x_cmpge, x_cmpgt, x_cmple, x_null, x_nonnull, x_acmpeq, x_acmpne, x_get, x_put, x_putz, x_ald, x_ast, x_bast, x_zast, x_aast, x_alen, x_obj, x_ret, x_retz, x_vret, x_max, x_min, x_copy, x_i2l, qg_none, qg_inl, qg_inr, qg_ite, xr1, xr0, xrE, xri, xl0, xl1, xl2, xl3, xl4, xl5, xl6, xl7, xl8, xl9, xl10, xs0, xs1, xs2, xs3, xs4, xs5, xs6, xs7, xs8, xs9, xs10, xi0, xi1, xi2, xi3, xi4, xi5, xi6, xi7, xi8, xi9, xi10, xc0, xc1, xc2, xc3, xc4, xc5, xc6, xc7, xv1, xv2, xv3, xv4, xv5, xv6, xv7, dT_le, dF_le, dT_lt, dF_lt, dT_eq, dF_eq, qa_up_hit, qa_up_no, dF_eq, k77, k83, r7, rg, hz, hm1, e0, e2, e6, cp]
    · refine QR_congr (hSW (by omega) (by omega) hz) ((hV i (by omega) (by omega)).2 hz) (fun j j1 j2 => ?_)
      rw [n0 _ _ (by omega), ← hm2, qa_cp_y j1 (by omega), o1 _ _ (by omega)]
      congr 1
      omega
    · funext j
      rw [n0 _ _ (by omega), o2 c j c2, o1 c j (by omega)]
    · rw [n0 _ _ (by omega), o2 77 j (by decide), o1 77 j (by omega)]
    · rw [n0 _ _ (by omega), o2 77 0 (by decide)]; exact e0
def zSv (SV : Int → zA) (i : Int) (A : zA) : Int → zA := fun k => if k = i then A else SV k
theorem ma_save {m : Int → Int → Int} {kd : Int → Nat × Int} {w : Nat × Nat × Nat} {A : zA} (hK : KM kd) (hR : RM m) (hQ : QR A (m 79)) {M : Int} (hW : zW M A) {SV : Int → zA} (hV : MV SV m) (hSW : ∀ k, 0 ≤ k → k < 2 → m 83 k = 1 → zW M (SV k)) {i : Int} : (¬ (0 ≤ i ∧ i ≤ 1) → f_X12_save [(1, 77), (0, i)] (m, kd, w) = some (.inl none, (qa_up m 77 0 1, kd, w))) ∧ ((0 ≤ i ∧ i ≤ 1) → ∃ m', f_X12_save [(1, 77), (0, i)] (m, kd, w) = some (.inl none, (m', kd, w)) ∧ MV (zSv SV i A) m' ∧ (∀ c, c ≠ 77 → c ≠ 82 → c ≠ 83 → m' c = m c) ∧ (∀ j, j ≠ 0 → m' 77 j = m 77 j) ∧ m' 77 0 = 0 ∧ ∀ j, m' 83 j = if j = i then 1 else m 83 j) := by
  have k77 := hK.1
  have k79 := hK.2.2.1
  have k82 := hK.2.2.2.2.2.1
  have k83 := hK.2.2.2.2.2.2.1
  have r2 : m 77 2 = 79 := hR.2.1
  have r6 : m 77 6 = 82 := hR.2.2.2.2.1
  have r7 : m 77 7 = 83 := hR.2.2.2.2.2.1
  have rg := m_in (m := m) (kd := kd) (w := w) i 0 1
  refine ⟨fun h => ?_, fun h => ?_⟩
  · rw [if_neg h] at rg
    unfold f_X12_save
    refine qa_fn_eq ?_ (by simp)
    simp (disch := omega) [ev_X12_save_0, ev_X12_save_1, ev_X12_save_2, ev_X12_save_3, B_X12_save_0, B_X12_save_1, B_X12_save_2, B_X12_save_3, x_const, x_iadd, x_isub, x_imul, x_idiv, x_irem, x_ineg, x_dup, x_dup_x1, x_dup2, x_pop, x_goto, x_ifeq, x_ifne, x_iflt, x_ifge, x_ifgt, x_ifle, x_cmpeq, x_cmpne, x_cmplt, x_cmpge, x_cmpgt, x_cmple, x_null, x_nonnull, x_acmpeq, x_acmpne, x_get, x_put, x_putz, x_ald, x_ast, x_bast, x_zast, x_aast, x_alen, x_obj, x_ret, x_retz, x_vret, x_max, x_min, x_copy, x_i2l, qg_none, qg_inl, qg_inr, qg_ite, xr1, xr0, xrE, xri, xl0, xl1, xl2, xl3, xl4, xl5, xl6, xl7, xl8, xl9, xl10, xs0, xs1, xs2, xs3, xs4, xs5, xs6, xs7, xs8, xs9, xs10, xi0, xi1, xi2, xi3, xi4, xi5, xi6, xi7, xi8, xi9, xi10, xc0, xc1, xc2, xc3, xc4, xc5, xc6, xc7, xv1, xv2, xv3, xv4, xv5, xv6, xv7, dT_le, dF_le, dT_lt, dF_lt, dT_eq, dF_eq, qa_up_hit, qa_up_no, k77, rg]
  · rw [if_pos h] at rg
    generalize hm1 : qa_up m 77 0 0 = m1
    have o1 : ∀ c i, (c ≠ 77 ∨ i ≠ 0) → m1 c i = m c i := fun c i hc => by rw [← hm1, qa_up_no _ (by omega)]
    have cp := m_copies (m := m1) (w := w) (s := 79) (d := 82) (t := 0) (h := 14622 * i) k79 k82 (by decide) (by decide) (by omega) (by decide)
    generalize hm2 : qa_cp m1 79 0 82 (14622 * i) 14622 = m2 at cp
    have o2 : ∀ c i, c ≠ 82 → m2 c i = m1 c i := fun c i hc => by rw [← hm2, qa_cp_no (Or.inl hc)]
    have e2 : m1 77 2 = 79 := by rw [o1 77 2 (by omega)]; exact r2
    have e6 : m1 77 6 = 82 := by rw [o1 77 6 (by omega)]; exact r6
    have e7 : m2 77 7 = 83 := by rw [o2 77 7 (by decide), o1 77 7 (by omega)]; exact r7
    have e0 : m1 77 0 = 0 := by rw [← hm1, qa_up_hit]
    have n0 : ∀ c j, (c ≠ 83 ∨ j ≠ i) → qa_up m2 83 i 1 c j = m2 c j := fun c j hc => qa_up_no _ (by omega)
    have n83 : ∀ j, qa_up m2 83 i 1 83 j = if j = i then 1 else m 83 j := fun j => by
      by_cases e : j = i
      · rw [if_pos e, e, qa_up_hit]
      · rw [if_neg e, n0 _ _ (Or.inr e), o2 83 j (by decide), o1 83 j (by omega)]
    refine ⟨qa_up m2 83 i 1, ?_, fun k a b => ⟨?_, fun hk => ?_⟩, fun c c1 c2 c3 => ?_, fun j i1 => ?_, ?_, n83⟩
    · unfold f_X12_save
      refine qa_fn_eq ?_ (by simp)
      simp (disch := omega) [ev_X12_save_0, ev_X12_save_1, ev_X12_save_2, ev_X12_save_3, B_X12_save_0, B_X12_save_1, B_X12_save_2, B_X12_save_3, x_const, x_iadd, x_isub, x_imul, x_idiv, x_irem, x_ineg, x_dup, x_dup_x1, x_dup2, x_pop, x_goto, x_ifeq, x_ifne, x_iflt, x_ifge, x_ifgt, x_ifle, x_cmpeq, x_cmpne, x_cmplt, x_cmpge, x_cmpgt, x_cmple, x_null, x_nonnull, x_acmpeq, x_acmpne, x_get, x_put, x_putz, x_ald, x_ast, x_bast, x_zast, x_aast, x_alen, x_obj, x_ret, x_retz, x_vret, x_max, x_min, x_copy, x_i2l, qg_none, qg_inl, qg_inr, qg_ite, xr1, xr0, xrE, xri, xl0, xl1, xl2, xl3, xl4, xl5, xl6, xl7, xl8, xl9, xl10, xs0, xs1, xs2, xs3, xs4, xs5, xs6, xs7, xs8, xs9, xs10, xi0, xi1, xi2, xi3, xi4, xi5, xi6, xi7, xi8, xi9, xi10, xc0, xc1, xc2, xc3, xc4, xc5, xc6, xc7, xv1, xv2, xv3, xv4, xv5, xv6, xv7, dT_le, dF_le, dT_lt, dF_lt, dT_eq, dF_eq, qa_up_hit, qa_up_no, k77, k83, rg, hm1, e0, e2, e6, cp, e7]
    · rw [n83]
      split
      · exact Or.inr rfl
      · exact (hV k a b).1
    · show QR (if k = i then A else SV k) _
      by_cases e : k = i
      · rw [if_pos e]
        refine QR_congr hW hQ (fun j j1 j2 => ?_)
        rw [e, n0 _ _ (Or.inl (by decide)), ← hm2, qa_cp_y (by omega) (by omega), o1 _ _ (by omega)]
        congr 1
        omega
      · rw [if_neg e]
        rw [n83, if_neg e] at hk
        have := (hV k a b).2 hk
        have e82 : ∀ j, 0 ≤ j → j < 14622 → qa_up m2 83 i 1 82 (14622 * k + j) = m 82 (14622 * k + j) := fun j j1 j2 => by
          rw [n0 _ _ (Or.inl (by decide)), ← hm2, qa_cp_no (by omega), o1 _ _ (by omega)]
        exact QR_congr (hSW k a b hk) this e82
    · funext j
      rw [n0 _ _ (Or.inl c3), o2 c j c2, o1 c j (by omega)]
    · rw [n0 _ _ (by omega), o2 77 j (by decide), o1 77 j (by omega)]
    · rw [n0 _ _ (by omega), o2 77 0 (by decide)]; exact e0
