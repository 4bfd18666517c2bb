theorem KS_102 {kd : Int → Nat × Int} {S c : Int} (hK : KS kd S) (h : (kd c).1 = 102) : c < S ∨ S + 30 ≤ c := by
  apply Classical.byContradiction
  intro hcc
  obtain ⟨kN, kS, kC, kV, kW, kB, kE, kR, kD, kL⟩ := id hK
  have h0 : c = S ∨ c = S + 1 ∨ c = S + 2 ∨ c = S + 3 ∨ (S + 4 ≤ c ∧ c < S + 12) ∨ (S + 12 ≤ c ∧ c < S + 30) := by omega
  rcases h0 with e | e | e | e | h0 | h0
  · rw [e, kS] at h; exact absurd h (by decide)
  · rw [e, kC] at h; exact absurd h (by decide)
  · rw [e, kV] at h; exact absurd h (by decide)
  · rw [e, kW] at h; exact absurd h (by decide)
  · have : c = S + 4 + 2 * ((c - S - 4) / 2) ∨ c = S + 5 + 2 * ((c - S - 4) / 2) := by omega
    rcases this with q | q <;> rw [q] at h
    · rw [kB _ (by omega) (by omega)] at h; exact absurd h (by decide)
    · rw [kE _ (by omega) (by omega)] at h; exact absurd h (by decide)
  · have : c = S + 12 + 3 * ((c - S - 12) / 3) ∨ c = S + 13 + 3 * ((c - S - 12) / 3) ∨ c = S + 14 + 3 * ((c - S - 12) / 3) := by omega
    rcases this with q | q | q <;> rw [q] at h
    · rw [kR _ (by omega) (by omega)] at h; exact absurd h (by decide)
    · rw [kD _ (by omega) (by omega)] at h; exact absurd h (by decide)
    · rw [kL _ (by omega) (by omega)] at h; exact absurd h (by decide)
theorem CS_try {um : Int} {U SV : Int → zA} {A : zA} {m m' : Int → Int → Int} {kd : Int → Nat × Int} {n S : Int} (hS : CS um U SV A m kd n S) (hf : zfr m m' 33) (hM : MS m' 33) : CS um U SV A m' kd n S ∧ zfx m kd m' kd ∧ m' 65 = m 65 ∧ znull m' = znull m := by
  obtain ⟨rfl, h2, h3, h4, h5, h6⟩ := hS
  obtain ⟨x0, x1, ⟨x63, x64, x640, x641, x65, x66⟩, x3, x33, xm33⟩ := id h2
  have lo : ∀ c, c < 33 ∨ 63 ≤ c → m' c = m c := fun c hc => hf c (by omega)
  have en : ∀ e, kd e = (9, 0) → m' e = m e := fun e he => hf e (x33.entry he)
  refine ⟨⟨rfl, ⟨?_, ?_, ⟨x63, x64, ?_, ?_, x65, x66⟩, x3, x33, hM⟩, ?_, ⟨?_, h4.2.1, h4.2.2.1, fun k k1 k2 => ?_⟩, fun i a b => ?_, ?_⟩, ?_, lo 65 (by decide), ?_⟩
  · rw [lo 0 (by decide)]; exact x0
  · rw [lo 1 (by decide)]; exact x1
  · rw [lo 64 (by decide)]; exact x640
  · rw [lo 64 (by decide)]; exact x641
  · exact JS_keep h3 (fun c hc => lo c (by omega)) (lo 66 (by decide)) (lo 63 (by decide))
  · rw [lo 64 (by decide)]; exact h4.1
  · rw [lo 66 (by decide)]
    obtain ⟨v1, v2⟩ := h4.2.2.2 k k1 k2
    rcases h3.1 k k1 (by have := h4.2.2.1; omega) with h | h
    · exact absurd h v1
    · exact ⟨v1, RC_93 v2 h (fun c hc => lo c (by omega)) en⟩
  · rw [lo 63 (by decide)]
    intro hne
    rcases h3.2.1 i a b with h | h
    · exact absurd h hne
    · exact RC_93 (h5 i a b hne) h (fun c hc => lo c (by omega)) en
  · exact RC_keep h6 (fun c a b => lo c (by omega)) (fun e he => ⟨en e he, rfl⟩)
  · intro c hc
    refine ⟨?_, rfl⟩
    rcases hc with h | h | h | h | h | h
    · exact lo c (by omega)
    · exact lo c (by omega)
    · exact lo c (by omega)
    · exact lo c (by omega)
    · exact en c h
    · exact hf c (KS_102 x33 h)
  · unfold znull
    rw [lo 66 (by decide), lo 63 (by decide)]
def cTry (um : Int) (U SV : Int → zA) (A : zA) (ans : Int) (m : Int → Int → Int) (kd : Int → Nat × Int) (n c s : Nat) (S : Int) (res : Option qR) : Prop := ∃ m' kd' n' c' s', res = some (.inl (some (0, ans)), (m', kd', n', c', s')) ∧ CS um U SV A m' kd' (n' : Nat) S ∧ zfx m kd m' kd' ∧ m' 65 = m 65 ∧ (c' : Int) + 30 * znull m' ≤ c + 30 * znull m + 2 ∧ (s' : Int) + 2271 * znull m' ≤ s + 2271 * znull m + 10 ∧ n ≤ n' ∧ c ≤ c' ∧ s ≤ s'
def vAhead (A : zA) (st : Int → Int) (t what : Int) : Int := if what = 0 then zgs (zTicks st t.toNat A) - zgs A else if what = 1 then zbs (zTicks st t.toNat A) - zbs A else if what = 2 then zds (zTicks st t.toNat A) - zds A else zmx (zTicks st t.toNat A) 0 0 4
theorem c_trial {m : Int → Int → Int} {kd : Int → Nat × Int} {w : Nat × Nat × Nat} {n um S : Int} {U SV : Int → zA} {A : zA} {M : Int} (hS : CS um U SV A m kd n S) (hW : zW M A) : ∃ m', f_X9_copyFrom [(1, 33), (1, S)] (m, kd, w) = some (.inl none, (m', kd, w)) ∧ RC A m' kd 33 ∧ zfr m m' 33 := by
  obtain ⟨rfl, h2, h3, h4, h5, h6⟩ := hS
  obtain ⟨x0, x1, ⟨x63, x64, x640, x641, x65, x66⟩, x3, x33, xm33⟩ := id h2
  exact c_copyS x33 xm33 x3 h6 hW (Or.inr (by decide))
theorem ca_ahead {m : Int → Int → Int} {kd : Int → Nat × Int} {n c s : Nat} {um S : Int} {U SV : Int → zA} {A : zA} {M : Int} (hS : CS um U SV A m kd n S) (hW : zW M A) (ha : ∀ i, 0 ≤ i → i ≤ 10 → 0 ≤ m 65 i ∧ m 65 i < 100000000) {st : Int → Int} (hcr : CR st m kd 1 2) (hs : zS st) {t what : Int} (ht : 1 ≤ t ∧ t ≤ 99) (hw : 0 ≤ what ∧ what ≤ 3) (hM : M < 500000) (h0 : A.1 0 + 99 ≤ 1000000) : cTry um U SV A (vAhead A st t what) m kd n c s S (f_X11_ahead [(1, 0), (0, t), (0, what)] (m, kd, n, c, s)) := by
  obtain ⟨hK, hC, hx, hn, h4, k64, h00, k1, x640, x65⟩ := hS.f
  have hS3 := hS.1
  have rg := c_needRange (m := m) (kd := kd) (w := (n, c, s)) t 1 99
  rw [if_pos ht] at rg
  have rg2 := c_needRange (m := m) (kd := kd) (w := (n, c, s)) what 0 3
  rw [if_pos hw] at rg2
  obtain ⟨m1, i1, i2, i3⟩ := c_trial (w := (n, c, s)) hS hW
  have k33 : KS kd 33 := hS.2.1.2.2.2.2.1
  have h02 : m 0 2 = 33 := hS.2.1.1.2.2.2.1
  have kS := hK.2.1
  have kS33 := k33.2.1
  have loop : ∀ (q k : Nat) (m' : Int → Int → Int), (k : Int) + q = t → RC (zTicks st k A) m' kd 33 → zfr m m' 33 → ∃ m'', qa_ev P_X11_ahead 1 [(1, 0), (0, t), (0, what), (0, zgs (zTicks st k A) - zgs A), (0, k)] [] (m', kd, n, c, s) = qa_ev P_X11_ahead 2 [(1, 0), (0, t), (0, what), (0, zgs (zTicks st t.toNat A) - zgs A), (0, t)] [] (m'', kd, n, c, s) ∧ RC (zTicks st t.toNat A) m'' kd 33 ∧ zfr m m'' 33 := by
    intro q
    induction q with
    | zero =>
      intro k m' h1 hC' hf
      have ek : t.toNat = k := by omega
      rw [ek]
      have et : t = (k : Int) := by omega
      refine ⟨m', ?_, hC', hf⟩
      rw [ev_X11_ahead_1, et]
      generalize (k : Int) = kk
      simp (disch := omega) [ev_X11_ahead_0, ev_X11_ahead_3, ev_X11_ahead_4, ev_X11_ahead_5, ev_X11_ahead_6, B_X11_ahead_0, B_X11_ahead_1, B_X11_ahead_2, B_X11_ahead_3, B_X11_ahead_4, B_X11_ahead_5, B_X11_ahead_6, x_const, x_iadd, x_isub, x_imul, x_idiv, x_irem, x_ineg, x_dup, x_dup_x1, x_dup2, x_pop, x_goto, x_ifeq, x_ifne, x_iflt, x_ifge, x_ifgt, x_ifle, x_cmpeq, x_cmpne, x_cmplt, x_cmpge, x_cmpgt, x_cmple, x_null, x_nonnull, x_acmpeq, x_acmpne, x_get, x_put, x_putz, x_ald, x_ast, x_bast, x_zast, x_aast, x_alen, x_obj, x_ret, x_retz, x_vret, x_max, x_min, x_copy, x_i2l, qg_none, qg_inl, qg_inr, qg_ite, xr1, xr0, xrE, xri, xl0, xl1, xl2, xl3, xl4, xl5, xl6, xl7, xl8, xl9, xl10, xs0, xs1, xs2, xs3, xs4, xs5, xs6, xs7, xs8, xs9, xs10, xi0, xi1, xi2, xi3, xi4, xi5, xi6, xi7, xi8, xi9, xi10, xc0, xc1, xc2, xc3, xc4, xc5, xc6, xc7, xv1, xv2, xv3, xv4, xv5, xv6, xv7, dT_le, dF_le, dT_lt, dF_lt]
    | succ q ih =>
      intro k m' h1 hC' hf
      obtain ⟨w1, w2, w3⟩ := zW_ticks st hW k (by omega)
      have hcr' : CR st m' kd 1 2 := by
        obtain ⟨y1, y2, y3, y4⟩ := hcr
        exact ⟨y1, by rw [hf 1 (by omega)]; exact y2, y3, fun i q1 q2 => by rw [hf 2 (by omega)]; exact y4 i q1 q2⟩
      obtain ⟨m2, j1, j2, j3⟩ := c_tick (w := (n, c, s)) k33 hC' w1 hM (by rw [w3]; omega) hcr' hs ⟨Or.inl (by omega), Or.inl (by omega)⟩
      obtain ⟨m3, g1, g2, g3⟩ := ih (k + 1) m2 (by omega) j2 (hf.trans j3)
      refine ⟨m3, ?_, g2, g3⟩
      have h00' : m' 0 0 = 1 := by rw [hf 0 (by omega)]; exact h00
      have h02' : m' 0 2 = 33 := by rw [hf 0 (by omega)]; exact h02
      have w4 := (zW_tick st w1 (by rw [w3]; omega)).1.gs
      have w1g := w1.gs
      have hgs := hW.gs
      have et : zTicks st (k + 1) A = zTick st (zTicks st k A) := rfl
      have ek : ((k + 1 : Nat) : Int) = (k : Int) + 1 := by omega
      rw [et, ek] at g1
      have hb1 : (k : Int) < t ∧ 0 ≤ (k : Int) := by omega
      generalize (k : Int) = kk at hb1 g1 ⊢
      generalize zgs (zTick st (zTicks st k A)) = ga at j1 g1 w4
      generalize zgs (zTicks st k A) = gb at j1 g1 w1g ⊢
      have es : ga - zgs A = gb - zgs A + (ga - gb) := by omega
      rw [es] at g1
      rw [ev_X11_ahead_1]
      simp (disch := omega) [ev_X11_ahead_0, ev_X11_ahead_3, ev_X11_ahead_4, ev_X11_ahead_5, ev_X11_ahead_6, B_X11_ahead_0, B_X11_ahead_1, B_X11_ahead_2, B_X11_ahead_3, B_X11_ahead_4, B_X11_ahead_5, B_X11_ahead_6, x_const, x_iadd, x_isub, x_imul, x_idiv, x_irem, x_ineg, x_dup, x_dup_x1, x_dup2, x_pop, x_goto, x_ifeq, x_ifne, x_iflt, x_ifge, x_ifgt, x_ifle, x_cmpeq, x_cmpne, x_cmplt, x_cmpge, x_cmpgt, x_cmple, x_null, x_nonnull, x_acmpeq, x_acmpne, x_get, x_put, x_putz, x_ald, x_ast, x_bast, x_zast, x_aast, x_alen, x_obj, x_ret, x_retz, x_vret, x_max, x_min, x_copy, x_i2l, qg_none, qg_inl, qg_inr, qg_ite, xr1, xr0, xrE, xri, xl0, xl1, xl2, xl3, xl4, xl5, xl6, xl7, xl8, xl9, xl10, xs0, xs1, xs2, xs3, xs4, xs5, xs6, xs7, xs8, xs9, xs10, xi0, xi1, xi2, xi3, xi4, xi5, xi6, xi7, xi8, xi9, xi10, xc0, xc1, xc2, xc3, xc4, xc5, xc6, xc7, xv1, xv2, xv3, xv4, xv5, xv6, xv7, dT_le, dF_le, dT_lt, dF_lt, hx, kS33, h00', h02', j1, g1]
  obtain ⟨m2, j1, j2, j3⟩ := loop t.toNat 0 m1 (by omega) i2 i3
  obtain ⟨g1, g2, g3, g4⟩ := CS_try hS j3 j2.1
  obtain ⟨-, hC2, hx2, hn2, -⟩ := g1.f
  have e0 : zgs (zTicks st 0 A) - zgs A = 0 := by show zgs A - zgs A = 0; omega
  rw [e0] at j1
  simp only [Int.natCast_zero] at j1
  obtain ⟨w1, w2, w3⟩ := zW_ticks st hW t.toNat (by omega)
  have cn1 := w1.cn
  have cn0 := hW.cn
  have b1 : f_X9_brokenCount [(1, 33)] (m2, kd, n, c, s) = some (.inl (some (0, zbs (zTicks st t.toNat A))), (m2, kd, n, c, s)) := c_brokenCount (w := (n, c, s)) k33 j2 w1
  have b0 : f_X9_brokenCount [(1, S)] (m2, kd, n, c, s) = some (.inl (some (0, zbs A)), (m2, kd, n, c, s)) := c_brokenCount (w := (n, c, s)) hK hC2 hW
  have d1 : f_X9_debtCount [(1, 33)] (m2, kd, n, c, s) = some (.inl (some (0, zds (zTicks st t.toNat A))), (m2, kd, n, c, s)) := c_debtCount (w := (n, c, s)) k33 j2 w1
  have d0 : f_X9_debtCount [(1, S)] (m2, kd, n, c, s) = some (.inl (some (0, zds A)), (m2, kd, n, c, s)) := c_debtCount (w := (n, c, s)) hK hC2 hW
  have gt := c_greatestTotal (w := (n, c, s)) k33 j2 w1
  have h02' : m2 0 2 = 33 := by rw [j3 0 (by omega)]; exact h02
  refine ⟨m2, kd, n, c, s, ?_, g1, g2, g3, by rw [g4]; omega, by rw [g4]; omega, Nat.le_refl _, Nat.le_refl _, Nat.le_refl _⟩
  have hq : what = 0 ∨ what = 1 ∨ what = 2 ∨ what = 3 := by omega
  rcases hq with rfl | rfl | rfl | rfl <;>
  · unfold f_X11_ahead
    refine qa_fn_eq ?_ (by simp)
    simp (disch := omega) [ev_X11_ahead_0, ev_X11_ahead_2, ev_X11_ahead_3, ev_X11_ahead_4, ev_X11_ahead_5, ev_X11_ahead_6, B_X11_ahead_0, B_X11_ahead_1, B_X11_ahead_2, B_X11_ahead_3, B_X11_ahead_4, B_X11_ahead_5, B_X11_ahead_6, x_const, x_iadd, x_isub, x_imul, x_idiv, x_irem, x_ineg, x_dup, x_dup_x1, x_dup2, x_pop, x_goto, x_ifeq, x_ifne, x_iflt, x_ifge, x_ifgt, x_ifle, x_cmpeq, x_cmpne, x_cmplt, x_cmpge, x_cmpgt, x_cmple, x_null, x_nonnull, x_acmpeq, x_acmpne, x_get, x_put, x_putz, x_ald, x_ast, x_bast, x_zast, x_aast, x_alen, x_obj, x_ret, x_retz, x_vret, x_max, x_min, x_copy, x_i2l, qg_none, qg_inl, qg_inr, qg_ite, xr1, xr0, xrE, xri, xl0, xl1, xl2, xl3, xl4, xl5, xl6, xl7, xl8, xl9, xl10, xs0, xs1, xs2, xs3, xs4, xs5, xs6, xs7, xs8, xs9, xs10, xi0, xi1, xi2, xi3, xi4, xi5, xi6, xi7, xi8, xi9, xi10, xc0, xc1, xc2, xc3, xc4, xc5, xc6, xc7, xv1, xv2, xv3, xv4, xv5, xv6, xv7, dT_le, dF_le, dT_lt, dF_lt, hx, hn, h02, kS, kS33, rg, rg2, i1, j1, x_switch, zsw, h02', hn2, b1, b0, d1, d0, gt, vAhead]
theorem ca_aheadX {m : Int → Int → Int} {kd : Int → Nat × Int} {w : Nat × Nat × Nat} {t what : Int} (h : ¬ ((1 ≤ t ∧ t ≤ 99) ∧ 0 ≤ what ∧ what ≤ 3)) : f_X11_ahead [(1, 0), (0, t), (0, what)] (m, kd, w) = some (.inr 2, (m, kd, w.1, w.2.1 + 1, w.2.2 + 6)) := by
  have rg := c_needRange (m := m) (kd := kd) (w := w) t 1 99
  have rg2 := c_needRange (m := m) (kd := kd) (w := w) what 0 3
  by_cases ht : 1 ≤ t ∧ t ≤ 99
  · rw [if_pos ht] at rg
    rw [if_neg (fun z => h ⟨ht, z⟩)] at rg2
    unfold f_X11_ahead
    refine qa_fn_eq ?_ (by simp)
    simp (disch := omega) [ev_X11_ahead_0, ev_X11_ahead_2, ev_X11_ahead_3, ev_X11_ahead_4, ev_X11_ahead_5, ev_X11_ahead_6, B_X11_ahead_0, B_X11_ahead_1, B_X11_ahead_2, B_X11_ahead_3, B_X11_ahead_4, B_X11_ahead_5, B_X11_ahead_6, x_const, x_iadd, x_isub, x_imul, x_idiv, x_irem, x_ineg, x_dup, x_dup_x1, x_dup2, x_pop, x_goto, x_ifeq, x_ifne, x_iflt, x_ifge, x_ifgt, x_ifle, x_cmpeq, x_cmpne, x_cmplt, x_cmpge, x_cmpgt, x_cmple, x_null, x_nonnull, x_acmpeq, x_acmpne, x_get, x_put, x_putz, x_ald, x_ast, x_bast, x_zast, x_aast, x_alen, x_obj, x_ret, x_retz, x_vret, x_max, x_min, x_copy, x_i2l, qg_none, qg_inl, qg_inr, qg_ite, xr1, xr0, xrE, xri, xl0, xl1, xl2, xl3, xl4, xl5, xl6, xl7, xl8, xl9, xl10, xs0, xs1, xs2, xs3, xs4, xs5, xs6, xs7, xs8, xs9, xs10, xi0, xi1, xi2, xi3, xi4, xi5, xi6, xi7, xi8, xi9, xi10, xc0, xc1, xc2, xc3, xc4, xc5, xc6, xc7, xv1, xv2, xv3, xv4, xv5, xv6, xv7, dT_le, dF_le, dT_lt, dF_lt, rg, rg2]
  · rw [if_neg ht] at rg
    unfold f_X11_ahead
    refine qa_fn_eq ?_ (by simp)
    simp (disch := omega) [ev_X11_ahead_0, ev_X11_ahead_2, ev_X11_ahead_3, ev_X11_ahead_4, ev_X11_ahead_5, ev_X11_ahead_6, B_X11_ahead_0, B_X11_ahead_1, B_X11_ahead_2, B_X11_ahead_3, B_X11_ahead_4, B_X11_ahead_5, B_X11_ahead_6, x_const, x_iadd, x_isub, x_imul, x_idiv, x_irem, x_ineg, x_dup, x_dup_x1, x_dup2, x_pop, x_goto, x_ifeq, x_ifne, x_iflt, x_ifge, x_ifgt, x_ifle, x_cmpeq, x_cmpne, x_cmplt, x_cmpge, x_cmpgt, x_cmple, x_null, x_nonnull, x_acmpeq, x_acmpne, x_get, x_put, x_putz, x_ald, x_ast, x_bast, x_zast, x_aast, x_alen, x_obj, x_ret, x_retz, x_vret, x_max, x_min, x_copy, x_i2l, qg_none, qg_inl, qg_inr, qg_ite, xr1, xr0, xrE, xri, xl0, xl1, xl2, xl3, xl4, xl5, xl6, xl7, xl8, xl9, xl10, xs0, xs1, xs2, xs3, xs4, xs5, xs6, xs7, xs8, xs9, xs10, xi0, xi1, xi2, xi3, xi4, xi5, xi6, xi7, xi8, xi9, xi10, xc0, xc1, xc2, xc3, xc4, xc5, xc6, xc7, xv1, xv2, xv3, xv4, xv5, xv6, xv7, dT_le, dF_le, dT_lt, dF_lt, rg]
