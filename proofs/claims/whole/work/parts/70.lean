theorem qa_cp_up {m : Int → Int → Int} {s t d h k : Int} (hk : 0 ≤ k) : qa_up (qa_cp m s t d h k) d (h + k) (m s (t + k)) = qa_cp m s t d h (k + 1) := by
  funext c i
  unfold qa_up qa_cp
  by_cases hc : c = d
  · by_cases hi : i = h + k
    · rw [if_pos ⟨hc, hi⟩, if_pos ⟨hc, by omega, by omega⟩, hi, show h + k - h = k by omega]
    · rw [if_neg (fun z => hi z.2)]
      by_cases hh : h ≤ i ∧ i < h + k
      · rw [if_pos ⟨hc, hh⟩, if_pos ⟨hc, by omega, by omega⟩]
      · rw [if_neg (fun z => hh z.2), if_neg (by omega)]
  · rw [if_neg (fun z => hc z.1), if_neg (fun z => hc z.1), if_neg (fun z => hc z.1)]
theorem qa_cp_0 {m : Int → Int → Int} {s t d h : Int} : qa_cp m s t d h 0 = m := by
  funext c i
  unfold qa_cp
  rw [if_neg (by omega)]
theorem qa_cp_no {m : Int → Int → Int} {s t d h k c i : Int} (hn : c ≠ d ∨ i < h ∨ h + k ≤ i) : qa_cp m s t d h k c i = m c i := if_neg (by omega)
theorem qa_cp_y {m : Int → Int → Int} {s t d h k i : Int} (h1 : h ≤ i) (h2 : i < h + k) : qa_cp m s t d h k d i = m s (t + (i - h)) := if_pos ⟨rfl, h1, h2⟩
def zce (m : Int → Int → Int) (f b k : Int) : Int → Int → Int := fun c i => if c = 79 ∧ 190 + 1804 * f ≤ i ∧ i < 190 + 1804 * f + k then m 79 (190 + 1804 * b + (i - (190 + 1804 * f))) else if c = 79 ∧ 7406 + 1804 * f ≤ i ∧ i < 7406 + 1804 * f + k then m 79 (7406 + 1804 * b + (i - (7406 + 1804 * f))) else m c i
theorem zce_no {m : Int → Int → Int} {f b k c i : Int} (h : c ≠ 79 ∨ ((i < 190 + 1804 * f ∨ 190 + 1804 * f + k ≤ i) ∧ (i < 7406 + 1804 * f ∨ 7406 + 1804 * f + k ≤ i))) : zce m f b k c i = m c i := by
  unfold zce
  rw [if_neg (by omega), if_neg (by omega)]
theorem zce_0 {m : Int → Int → Int} {f b : Int} : zce m f b 0 = m := by
  funext c i
  exact zce_no (by omega)
theorem zce_t {m : Int → Int → Int} {f b k i : Int} (h : 0 ≤ i ∧ i < k) : zce m f b k 79 (190 + (1804 * f + i)) = m 79 (190 + (1804 * b + i)) := by
  unfold zce
  rw [if_pos ⟨rfl, by omega, by omega⟩]
  congr 1
  omega
theorem zce_r {m : Int → Int → Int} {f b k i : Int} (hf : 0 ≤ f ∧ f < 4) (h : 0 ≤ i ∧ i < k) (hk : k ≤ 1804) : zce m f b k 79 (7406 + (1804 * f + i)) = m 79 (7406 + (1804 * b + i)) := by
  unfold zce
  rw [if_neg (by omega), if_pos ⟨rfl, by omega, by omega⟩]
  congr 1
  omega
theorem zce_up {m : Int → Int → Int} {f b k : Int} (hf : 0 ≤ f ∧ f < 4) (hk : 0 ≤ k ∧ k < 1804) : qa_up (qa_up (zce m f b k) 79 (190 + (1804 * f + k)) (m 79 (190 + (1804 * b + k)))) 79 (7406 + (1804 * f + k)) (m 79 (7406 + (1804 * b + k))) = zce m f b (k + 1) := by
  funext c i
  by_cases hc : c = 79
  · subst hc
    by_cases h1 : i = 7406 + (1804 * f + k)
    · subst h1
      rw [qa_up_hit, zce_r hf ⟨hk.1, by omega⟩ (by omega)]
    · rw [qa_up_no _ (fun z => h1 z.2)]
      by_cases h2 : i = 190 + (1804 * f + k)
      · subst h2
        rw [qa_up_hit, zce_t ⟨hk.1, by omega⟩]
      · rw [qa_up_no _ (fun z => h2 z.2)]
        unfold zce
        by_cases a : 190 + 1804 * f ≤ i ∧ i < 190 + 1804 * f + k
        · rw [if_pos ⟨rfl, a⟩, if_pos ⟨rfl, by omega, by omega⟩]
        · have n1 : ¬ ((79 : Int) = 79 ∧ 190 + 1804 * f ≤ i ∧ i < 190 + 1804 * f + k) := fun z => a z.2
          have n2 : ¬ ((79 : Int) = 79 ∧ 190 + 1804 * f ≤ i ∧ i < 190 + 1804 * f + (k + 1)) := by omega
          rw [if_neg n1, if_neg n2]
          by_cases a' : 7406 + 1804 * f ≤ i ∧ i < 7406 + 1804 * f + k
          · have p2 : (79 : Int) = 79 ∧ 7406 + 1804 * f ≤ i ∧ i < 7406 + 1804 * f + (k + 1) := by omega
            rw [if_pos ⟨rfl, a'⟩, if_pos p2]
          · have n3 : ¬ ((79 : Int) = 79 ∧ 7406 + 1804 * f ≤ i ∧ i < 7406 + 1804 * f + k) := fun z => a' z.2
            have n4 : ¬ ((79 : Int) = 79 ∧ 7406 + 1804 * f ≤ i ∧ i < 7406 + 1804 * f + (k + 1)) := by omega
            rw [if_neg n3, if_neg n4]
  · rw [qa_up_no _ (fun z => hc z.1), qa_up_no _ (fun z => hc z.1), zce_no (Or.inl hc), zce_no (Or.inl hc)]
theorem m_forks2 {kd : Int → Nat × Int} {w : Nat × Nat × Nat} {m : Int → Int → Int} {A : zA} {M : Int} (hK : KM kd) (hR : RM m) (hQ : QR A (m 79)) (hW : zW M A) {b : Int} : ∀ (n : Nat) (k : Int), 0 ≤ k → k + n = 4 → zff (fun b => A.2.1 b 1 = 0) k n ≠ -1 → qa_ev P_X12_forks 2 [(1, 77), (0, b), (0, k), (9, 0)] [] (m, kd, w) = qa_ev P_X12_forks 3 [(1, 77), (0, b), (0, zff (fun b => A.2.1 b 1 = 0) k n), (9, 0)] [] (m, kd, w) := by
  have k77 := hK.1
  intro n
  induction n with
  | zero => intro k h1 h2 h3; exact absurd rfl h3
  | succ n ih =>
    intro k h1 h2 h3
    have e1 := m_isBranch (w := w) hK hR hQ k
    have ez : zff (fun b => A.2.1 b 1 = 0) k (n + 1) = if A.2.1 k 1 = 0 then k else zff (fun b => A.2.1 b 1 = 0) (k + 1) n := rfl
    by_cases hk : A.2.1 k 1 = 0
    · rw [if_pos hk] at ez
      rw [if_neg (fun z => by have := z.2.2; omega)] at e1
      rw [ez, ev_X12_forks_2]
      simp (disch := omega) [ev_X12_forks_0, ev_X12_forks_1, ev_X12_forks_5, ev_X12_forks_7, ev_X12_forks_8, B_X12_forks_0, B_X12_forks_1, B_X12_forks_2, B_X12_forks_3, B_X12_forks_4, B_X12_forks_5, B_X12_forks_6, B_X12_forks_7, B_X12_forks_8, x_const, x_iadd, x_isub, x_imul, x_idiv, x_irem, x_ineg, x_dup, x_dup_x1, x_dup2, x_pop, x_goto, x_ifeq, x_ifne, x_iflt, x_ifge, x_ifgt, x_ifle, x_cmpeq, x_cmpne, x_cmplt, x_cmpge, x_cmpgt, x_cmple, x_null, x_nonnull, x_acmpeq, x_acmpne, x_get, x_put, x_putz, x_ald, x_ast, x_bast, x_zast, x_aast, x_alen, x_obj, x_ret, x_retz, x_vret, x_max, x_min, x_copy, x_i2l, qg_none, qg_inl, qg_inr, qg_ite, xr1, xr0, xrE, xri, xl0, xl1, xl2, xl3, xl4, xl5, xl6, xl7, xl8, xl9, xl10, xs0, xs1, xs2, xs3, xs4, xs5, xs6, xs7, xs8, xs9, xs10, xi0, xi1, xi2, xi3, xi4, xi5, xi6, xi7, xi8, xi9, xi10, xc0, xc1, xc2, xc3, xc4, xc5, xc6, xc7, xv1, xv2, xv3, xv4, xv5, xv6, xv7, dT_le, dF_le, dT_lt, dF_lt, k77, e1]
    · rw [if_neg hk] at ez
      rw [if_pos ⟨h1, by omega, by have := hW.bt h1 (by omega); omega⟩] at e1
      rw [ez] at h3 ⊢
      have ih' := ih (k + 1) (by omega) (by omega) h3
      rw [ev_X12_forks_2]
      simp (disch := omega) [ev_X12_forks_0, ev_X12_forks_1, ev_X12_forks_5, ev_X12_forks_7, ev_X12_forks_8, B_X12_forks_0, B_X12_forks_1, B_X12_forks_2, B_X12_forks_3, B_X12_forks_4, B_X12_forks_5, B_X12_forks_6, B_X12_forks_7, B_X12_forks_8, x_const, x_iadd, x_isub, x_imul, x_idiv, x_irem, x_ineg, x_dup, x_dup_x1, x_dup2, x_pop, x_goto, x_ifeq, x_ifne, x_iflt, x_ifge, x_ifgt, x_ifle, x_cmpeq, x_cmpne, x_cmplt, x_cmpge, x_cmpgt, x_cmple, x_null, x_nonnull, x_acmpeq, x_acmpne, x_get, x_put, x_putz, x_ald, x_ast, x_bast, x_zast, x_aast, x_alen, x_obj, x_ret, x_retz, x_vret, x_max, x_min, x_copy, x_i2l, qg_none, qg_inl, qg_inr, qg_ite, xr1, xr0, xrE, xri, xl0, xl1, xl2, xl3, xl4, xl5, xl6, xl7, xl8, xl9, xl10, xs0, xs1, xs2, xs3, xs4, xs5, xs6, xs7, xs8, xs9, xs10, xi0, xi1, xi2, xi3, xi4, xi5, xi6, xi7, xi8, xi9, xi10, xc0, xc1, xc2, xc3, xc4, xc5, xc6, xc7, xv1, xv2, xv3, xv4, xv5, xv6, xv7, dT_le, dF_le, dT_lt, dF_lt, k77, e1, ih']
theorem m_forks4 {kd : Int → Nat × Int} {w : Nat × Nat × Nat} {m : Int → Int → Int} (hK : KM kd) (hR : RM m) {b f : Int} (hb : 0 ≤ b ∧ b < 4) (hf : 0 ≤ f ∧ f < 4) (hne : b ≠ f) : ∀ (n : Nat) (k : Int), 0 ≤ k → k + n = 7 → qa_ev P_X12_forks 4 [(1, 77), (0, b), (0, f), (0, k)] [] (qa_cp m 79 (6 + 7 * b) 79 (6 + 7 * f) k, kd, w) = qa_ev P_X12_forks 5 [(1, 77), (0, b), (0, f), (0, 7)] [] (qa_cp m 79 (6 + 7 * b) 79 (6 + 7 * f) 7, kd, w) := by
  have k77 := hK.1
  have k79 := hK.2.2.1
  intro n
  induction n with
  | zero =>
    intro k h1 h2
    obtain rfl : k = 7 := by omega
    rw [ev_X12_forks_4]
    simp (disch := omega) [ev_X12_forks_0, ev_X12_forks_1, ev_X12_forks_3, ev_X12_forks_7, ev_X12_forks_8, B_X12_forks_0, B_X12_forks_1, B_X12_forks_2, B_X12_forks_3, B_X12_forks_4, B_X12_forks_5, B_X12_forks_6, B_X12_forks_7, B_X12_forks_8, x_const, x_iadd, x_isub, x_imul, x_idiv, x_irem, x_ineg, x_dup, x_dup_x1, x_dup2, x_pop, x_goto, x_ifeq, x_ifne, x_iflt, x_ifge, x_ifgt, x_ifle, x_cmpeq, x_cmpne, x_cmplt, x_cmpge, x_cmpgt, x_cmple, x_null, x_nonnull, x_acmpeq, x_acmpne, x_get, x_put, x_putz, x_ald, x_ast, x_bast, x_zast, x_aast, x_alen, x_obj, x_ret, x_retz, x_vret, x_max, x_min, x_copy, x_i2l, qg_none, qg_inl, qg_inr, qg_ite, xr1, xr0, xrE, xri, xl0, xl1, xl2, xl3, xl4, xl5, xl6, xl7, xl8, xl9, xl10, xs0, xs1, xs2, xs3, xs4, xs5, xs6, xs7, xs8, xs9, xs10, xi0, xi1, xi2, xi3, xi4, xi5, xi6, xi7, xi8, xi9, xi10, xc0, xc1, xc2, xc3, xc4, xc5, xc6, xc7, xv1, xv2, xv3, xv4, xv5, xv6, xv7, dT_le, dF_le, dT_lt, dF_lt]
  | succ n ih =>
    intro k h1 h2
    have ih' := ih (k + 1) (by omega) (by omega)
    have hRk : RM (qa_cp m 79 (6 + 7 * b) 79 (6 + 7 * f) k) := zfm_RM (zfm_o (fun c hc => by funext i; exact qa_cp_no (Or.inl hc))) hR
    have t2 : qa_cp m 79 (6 + 7 * b) 79 (6 + 7 * f) k 77 2 = 79 := by rw [qa_cp_no (Or.inl (by decide))]; exact hR.2.1
    have tv : qa_cp m 79 (6 + 7 * b) 79 (6 + 7 * f) k 79 (6 + 7 * b + k) = m 79 (6 + 7 * b + k) := qa_cp_no (by omega)
    have ob := m_ofBranch (w := w) (b := b) (f := k) hK hRk hb.1 hb.2 h1 (by omega)
    rw [tv] at ob
    have up := qa_cp_up (m := m) (s := 79) (t := 6 + 7 * b) (d := 79) (h := 6 + 7 * f) h1
    rw [ev_X12_forks_4]
    simp (disch := omega) [ev_X12_forks_0, ev_X12_forks_1, ev_X12_forks_3, ev_X12_forks_7, ev_X12_forks_8, B_X12_forks_0, B_X12_forks_1, B_X12_forks_2, B_X12_forks_3, B_X12_forks_4, B_X12_forks_5, B_X12_forks_6, B_X12_forks_7, B_X12_forks_8, x_const, x_iadd, x_isub, x_imul, x_idiv, x_irem, x_ineg, x_dup, x_dup_x1, x_dup2, x_pop, x_goto, x_ifeq, x_ifne, x_iflt, x_ifge, x_ifgt, x_ifle, x_cmpeq, x_cmpne, x_cmplt, x_cmpge, x_cmpgt, x_cmple, x_null, x_nonnull, x_acmpeq, x_acmpne, x_get, x_put, x_putz, x_ald, x_ast, x_bast, x_zast, x_aast, x_alen, x_obj, x_ret, x_retz, x_vret, x_max, x_min, x_copy, x_i2l, qg_none, qg_inl, qg_inr, qg_ite, xr1, xr0, xrE, xri, xl0, xl1, xl2, xl3, xl4, xl5, xl6, xl7, xl8, xl9, xl10, xs0, xs1, xs2, xs3, xs4, xs5, xs6, xs7, xs8, xs9, xs10, xi0, xi1, xi2, xi3, xi4, xi5, xi6, xi7, xi8, xi9, xi10, xc0, xc1, xc2, xc3, xc4, xc5, xc6, xc7, xv1, xv2, xv3, xv4, xv5, xv6, xv7, dT_le, dF_le, dT_lt, dF_lt, k77, k79, t2, m_branchAt, ob, up, ih']
theorem m_forks6 {kd : Int → Nat × Int} {w : Nat × Nat × Nat} {m : Int → Int → Int} (hK : KM kd) (hR : RM m) {b f cnt : Int} (hb : 0 ≤ b ∧ b < 4) (hf : 0 ≤ f ∧ f < 4) (hne : b ≠ f) (hc : m 79 (6 + 7 * b + 2) = cnt) (hcn : 0 ≤ cnt ∧ cnt ≤ 512) : ∀ (n : Nat) (k : Int), 0 ≤ k → k + n = cnt → qa_ev P_X12_forks 6 [(1, 77), (0, b), (0, f), (0, k)] [] (zce m f b k, kd, w) = some (.inl (some (0, f)), (zce m f b cnt, kd, w)) := by
  have k77 := hK.1
  have k79 := hK.2.2.1
  intro n
  induction n with
  | zero =>
    intro k h1 h2
    obtain rfl : k = cnt := by omega
    have hRk : RM (zce m f b k) := zfm_RM (zfm_o (fun c hc => by funext i; exact zce_no (Or.inl hc))) hR
    have ob := m_ofBranch (w := w) (b := b) (f := 2) hK hRk hb.1 hb.2 (by decide) (by decide)
    rw [zce_no (by omega), hc] at ob
    rw [ev_X12_forks_6]
    simp (disch := omega) [ev_X12_forks_0, ev_X12_forks_1, ev_X12_forks_3, ev_X12_forks_5, ev_X12_forks_7, ev_X12_forks_8, B_X12_forks_0, B_X12_forks_1, B_X12_forks_2, B_X12_forks_3, B_X12_forks_4, B_X12_forks_5, B_X12_forks_6, B_X12_forks_7, B_X12_forks_8, x_const, x_iadd, x_isub, x_imul, x_idiv, x_irem, x_ineg, x_dup, x_dup_x1, x_dup2, x_pop, x_goto, x_ifeq, x_ifne, x_iflt, x_ifge, x_ifgt, x_ifle, x_cmpeq, x_cmpne, x_cmplt, x_cmpge, x_cmpgt, x_cmple, x_null, x_nonnull, x_acmpeq, x_acmpne, x_get, x_put, x_putz, x_ald, x_ast, x_bast, x_zast, x_aast, x_alen, x_obj, x_ret, x_retz, x_vret, x_max, x_min, x_copy, x_i2l, qg_none, qg_inl, qg_inr, qg_ite, xr1, xr0, xrE, xri, xl0, xl1, xl2, xl3, xl4, xl5, xl6, xl7, xl8, xl9, xl10, xs0, xs1, xs2, xs3, xs4, xs5, xs6, xs7, xs8, xs9, xs10, xi0, xi1, xi2, xi3, xi4, xi5, xi6, xi7, xi8, xi9, xi10, xc0, xc1, xc2, xc3, xc4, xc5, xc6, xc7, xv1, xv2, xv3, xv4, xv5, xv6, xv7, dT_le, dF_le, dT_lt, dF_lt, k77, ob]
  | succ n ih =>
    intro k h1 h2
    have ih' := ih (k + 1) (by omega) (by omega)
    have hRk : RM (zce m f b k) := zfm_RM (zfm_o (fun c hc => by funext i; exact zce_no (Or.inl hc))) hR
    have ob := m_ofBranch (w := w) (b := b) (f := 2) hK hRk hb.1 hb.2 (by decide) (by decide)
    rw [zce_no (by omega), hc] at ob
    have t2 : zce m f b k 77 2 = 79 := hRk.2.1
    have ea := m_entryAt (m := zce m f b k) (kd := kd) (w := w) (b := b) (k := k) hb.1 hb.2 h1 (by omega)
    have ef := m_entryAt (m := zce m f b k) (kd := kd) (w := w) (b := f) (k := k) hf.1 hf.2 h1 (by omega)
    have v1 : zce m f b k 79 (190 + (1804 * b + k)) = m 79 (190 + (1804 * b + k)) := zce_no (by omega)
    have v2 : zce m f b k 79 (7406 + (1804 * b + k)) = m 79 (7406 + (1804 * b + k)) := zce_no (by omega)
    have up := zce_up (m := m) (b := b) hf (k := k) ⟨h1, by omega⟩
    rw [ev_X12_forks_6]
    simp (disch := omega) [ev_X12_forks_0, ev_X12_forks_1, ev_X12_forks_3, ev_X12_forks_5, ev_X12_forks_7, ev_X12_forks_8, B_X12_forks_0, B_X12_forks_1, B_X12_forks_2, B_X12_forks_3, B_X12_forks_4, B_X12_forks_5, B_X12_forks_6, B_X12_forks_7, B_X12_forks_8, x_const, x_iadd, x_isub, x_imul, x_idiv, x_irem, x_ineg, x_dup, x_dup_x1, x_dup2, x_pop, x_goto, x_ifeq, x_ifne, x_iflt, x_ifge, x_ifgt, x_ifle, x_cmpeq, x_cmpne, x_cmplt, x_cmpge, x_cmpgt, x_cmple, x_null, x_nonnull, x_acmpeq, x_acmpne, x_get, x_put, x_putz, x_ald, x_ast, x_bast, x_zast, x_aast, x_alen, x_obj, x_ret, x_retz, x_vret, x_max, x_min, x_copy, x_i2l, qg_none, qg_inl, qg_inr, qg_ite, xr1, xr0, xrE, xri, xl0, xl1, xl2, xl3, xl4, xl5, xl6, xl7, xl8, xl9, xl10, xs0, xs1, xs2, xs3, xs4, xs5, xs6, xs7, xs8, xs9, xs10, xi0, xi1, xi2, xi3, xi4, xi5, xi6, xi7, xi8, xi9, xi10, xc0, xc1, xc2, xc3, xc4, xc5, xc6, xc7, xv1, xv2, xv3, xv4, xv5, xv6, xv7, dT_le, dF_le, dT_lt, dF_lt, dT_eq, dF_eq, qa_up_hit, qa_up_no, k77, k79, ob, t2, m_entryAt, v1, v2, up, ih']
