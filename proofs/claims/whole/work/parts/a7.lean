theorem CI.k {N : Int} {g : zG} {m : Int → Int → Int} {kd : Int → Nat × Int} {n c s : Nat} (h : CI N g m kd n c s) : kd 0 = (14, 0) ∧ m 0 0 = 1 ∧ kd 1 = (11, 0) ∧ m 0 1 = 3 ∧ kd 3 = (13, 0) ∧ m 0 6 = 71 ∧ kd 71 = (12, 0) ∧ kd 73 = (110, 60) ∧ kd 74 = (101, 240) ∧ m 71 2 = 73 ∧ m 71 3 = 74 := by
  obtain ⟨hK, hC, hx, hn, h4, k64, h00, k1, -⟩ := h.1.f
  have z := h.1.z
  have ks := h.2.2.2.1
  have ms := h.2.2.2.2.1
  exact ⟨hx, h00, k1, hn, hK.2.1, z.2.2.2.2.1, ks.1, ks.2.2.1, ks.2.2.2, ms.2.2.1, ms.2.2.2.1⟩
theorem c_pfB {N : Int} {g : zG} {T : Int → Int} {tn K : Int} {k : Nat} {m : Int → Int → Int} {kd : Int → Nat × Int} {n c s : Nat} (h : CI N g m kd n c s) (hG : GI N g) (hC : CCm T tn K m) (m4 : m 71 4 = K) (hk : (k : Int) < K ∧ K ≤ 60) : qa_ev P_X11_perform 0 [(1, 0), (0, (k : Int)), (9, 0), (9, 0), (9, 0), (9, 0), (9, 0)] [] (m, kd, n, c, s) = qa_ev P_X11_perform (zsw 35 [6, 9, 14, 17, 20, 23, 26, 29, 32] (tCv T tn k)) [(1, 0), (0, (k : Int)), (1, -20 - tCv T tn k), (0, tCo T tn k 0), (0, m 74 ((k : Int) * 4 + 1)), (0, if zBl g.1 (tCo T tn k 0) then 1 else 0), (0, if zRl g.1 (tCo T tn k 0) then 1 else 0)] [] (m, kd, n, c, s) := by
  obtain ⟨hx, h00, k1, h01, k3, h06, k71, k73, k74, m2, m3⟩ := h.k
  obtain ⟨hK, hCC, -⟩ := h.1.f
  obtain ⟨x1, x2, x3⟩ := hC k hk.1
  have vb := c_verbOf (m := m) (kd := kd) (w := (n, c, s)) (k := (k : Int)) k71 k73 m4 m2 ⟨by omega, hk.1, hk.2⟩ x2
  have p0 := c_operandOf (m := m) (kd := kd) (w := (n, c, s)) (k := (k : Int)) (j := 0) k71 k74 m3 ⟨by omega, by omega⟩ (by decide) (x3 0 (tLe_lt x1).1)
  have p1 := c_operandOf (m := m) (kd := kd) (w := (n, c, s)) (k := (k : Int)) (j := 1) k71 k74 m3 ⟨by omega, by omega⟩ (by decide) rfl
  have ba := c_branchAt (w := (n, c, s)) hK hCC hG.1.1 (tCo T tn k 0)
  have ra := c_readerAt (w := (n, c, s)) hK hCC hG.1.1 (tCo T tn k 0)
  exact c_pfA hx h06 h01 k71 k3 ⟨by omega, by omega⟩ x1 vb p0 p1 ba ra
theorem tRg_b {l v : Int} {lo hi : Int} (h : tRg l v) (h1 : l ≠ 118) (h2 : l ≠ 101) (e1 : tLo l = lo) (e2 : tHi l = hi) : lo ≤ v ∧ v ≤ hi := by
  unfold tRg at h
  rw [if_neg h1, if_neg h2, e1, e2] at h
  exact h
def tOk (T : Int → Int) (tn : Int) (k : Nat) : Prop := (0 ≤ tCv T tn k ∧ tCv T tn k ≤ 9) ∧ ∀ j, j < (tLe (tCv T tn k)).length → tRg ((tLe (tCv T tn k)).getD j 0) (tCo T tn k j)
def CCmd (T : Int → Int) (tn K : Int) (k : Nat) (N : Int) (g g' : zG) (a : Int) : Prop := ∀ m kd n c s, CI N g m kd n c s → CCm T tn K m → m 71 4 = K → ∃ m' kd' n' c' s', f_X11_perform [(1, 0), (0, (k : Int))] (m, kd, n, c, s) = some (.inl (some (0, a)), (m', kd', n', c', s')) ∧ CI (N + 1) g' m' kd' n' c' s' ∧ (∀ x, 71 ≤ x → x ≤ 92 → m' x = m x ∧ kd' x = kd x) ∧ n ≤ n' ∧ c ≤ c' ∧ s ≤ s'
def MCmd (T : Int → Int) (tn K : Int) (k : Nat) (N : Int) (g g' : zG) (a : Int) : Prop := ∀ m kd w, MI N g m kd → MCm T tn K m → ∃ m', f_X12_isDone [(1, 77), (0, 5 * (k : Int))] (m, kd, w) = some (.inl (some (0, if a < 0 then 0 else 1)), (m', kd, w)) ∧ MI (N + 1) g' m' kd ∧ m' 77 0 = m 77 0 ∧ m' 77 24 = m 77 24 ∧ m' 89 = m 89 ∧ ∀ x, x < 77 ∨ 90 < x → m' x = m x
theorem CCm_4 {T : Int → Int} {tn K : Int} {k : Nat} {m : Int → Int → Int} (hC : CCm T tn K m) (hk : (k : Int) < K) {j : Nat} (hj : j < (tLe (tCv T tn k)).length) : m 74 ((k : Int) * 4 + (j : Int)) = tCo T tn k j := (hC k hk).2.2 j hj
theorem MCm_4 {T : Int → Int} {tn K : Int} {k : Nat} {m : Int → Int → Int} (hC : MCm T tn K m) (hk : (k : Int) < K) {j : Nat} (hj : j < (tLe (tCv T tn k)).length) : m 89 (5 * (k : Int) + 1 + (j : Int)) = tCo T tn k j := (hC k hk).2 j hj
theorem m_idB {N : Int} {g : zG} {T : Int → Int} {tn K : Int} {k : Nat} {m : Int → Int → Int} {kd : Int → Nat × Int} {w : Nat × Nat × Nat} (h : MI N g m kd) (ok : tOk T tn k) (hC : MCm T tn K m) (hk : (k : Int) < K ∧ K ≤ 60) : qa_ev P_X12_isDone 0 [(1, 77), (0, 5 * (k : Int)), (9, 0), (9, 0)] [] (m, kd, w) = qa_ev P_X12_isDone (zsw 30 [1, 4, 9, 12, 15, 18, 21, 24, 27] (tCv T tn k)) [(1, 77), (0, 5 * (k : Int)), (0, tCo T tn k 0), (0, m 89 (5 * (k : Int) + 2))] [] (m, kd, w) := by
  have e0 := MCm_4 hC hk.1 (j := 0) (tLe_lt ok.1).1
  rw [show (5 : Int) * k + 1 + ((0 : Nat) : Int) = 5 * k + 1 by omega] at e0
  exact m_idA h.1 h.2.1 ⟨by omega, by omega⟩ ok.1 (hC k hk.1).1 e0 rfl
theorem t_cmd0 {N : Int} {g : zG} {T : Int → Int} {tn K : Int} {k : Nat} (hG : GI N g) (hN : N ≤ 511) (ok : tOk T tn k) (hk : (k : Int) < K ∧ K ≤ 60) (ev : tCv T tn k = 0) : ∃ g' a, GI (N + 1) g' ∧ g'.2.2.2.2.2.2.2.2 = g.2.2.2.2.2.2.2.2 ∧ CCmd T tn K k N g g' a ∧ MCmd T tn K k N g g' a := by
  have len : (tLe (tCv T tn k)).length = 4 := by rw [ev]; rfl
  have q0 := ok.2 0 (by rw [len]; decide)
  rw [ev, show (tLe 0).getD 0 0 = 98 from rfl] at q0
  have r0 := tRg_b (lo := 0) (hi := 3) q0 (by decide) (by decide) rfl rfl
  have q1 := ok.2 1 (by rw [len]; decide)
  rw [ev, show (tLe 0).getD 1 0 = 107 from rfl] at q1
  have r1 := tRg_b (lo := 0) (hi := 9) q1 (by decide) (by decide) rfl rfl
  have q2 := ok.2 2 (by rw [len]; decide)
  rw [ev, show (tLe 0).getD 2 0 = 115 from rfl] at q2
  have r2 := tRg_b (lo := 1) (hi := 9) q2 (by decide) (by decide) rfl rfl
  have q3 := ok.2 3 (by rw [len]; decide)
  rw [ev, show (tLe 0).getD 3 0 = 118 from rfl] at q3
  have r3 : -99 ≤ tCo T tn k 3 ∧ tCo T tn k 3 ≤ 99 := q3
  by_cases hb : zBl g.1 (tCo T tn k 0)
  · obtain ⟨g', a, G, X, C, M⟩ := t_append hG hN hb r1 r2 r3
    refine ⟨g', a, G, X, fun m kd n c s h hC m4 => ?_, fun m kd w h hM => ?_⟩
    · obtain ⟨m', kd', n', c', s', e, i1, i2, i3, i4, i5⟩ := C m kd n c s h
      refine ⟨m', kd', n', c', s', ?_, i1, i2, i3, i4, i5⟩
      obtain ⟨hx, h00, k1, h01, k3, h06, k71, k73, k74, m2, m3⟩ := h.k
      have A := c_pfB h hG hC m4 hk
      have e1 := CCm_4 hC hk.1 (j := 1) (by rw [len]; decide)
      rw [show (k : Int) * 4 + ((1 : Nat) : Int) = (k : Int) * 4 + 1 by omega] at e1
      rw [ev, if_pos hb, e1] at A
      have p2 := c_operandOf (m := m) (kd := kd) (w := (n, c, s)) (k := (k : Int)) (j := 2) k71 k74 m3 ⟨by omega, by omega⟩ (by decide) (CCm_4 hC hk.1 (j := 2) (by rw [len]; decide))
      have p3 := c_operandOf (m := m) (kd := kd) (w := (n, c, s)) (k := (k : Int)) (j := 3) k71 k74 m3 ⟨by omega, by omega⟩ (by decide) (CCm_4 hC hk.1 (j := 3) (by rw [len]; decide))
      exact qa_fn_eq (A.trans (c_pf0 hx h00 k1 h01 k3 h06 k71 p2 p3 e)) (by simp; omega)
    · obtain ⟨m', e, i1, i2⟩ := M m kd w h
      refine ⟨m', ?_, i1, i2⟩
      have A := m_idB (w := w) h ok hM hk
      have e1 := MCm_4 hM hk.1 (j := 1) (by rw [len]; decide)
      rw [show (5 : Int) * k + 1 + ((1 : Nat) : Int) = 5 * k + 2 by omega] at e1
      rw [ev, e1] at A
      have ib := m_isBranch (w := w) h.1 h.2.1 h.2.2.1 (tCo T tn k 0)
      rw [if_pos hb] at ib
      have k89 := h.1.2.2.2.2.2.2.2.2.2.2.2.2.1
      have r25 := h.2.1.2.2.2.2.2.2.2.2.2.2.2.1
      have d3 := MCm_4 hM hk.1 (j := 2) (by rw [len]; decide)
      rw [show (5 : Int) * k + 1 + ((2 : Nat) : Int) = 5 * k + 3 by omega] at d3
      have d4 := MCm_4 hM hk.1 (j := 3) (by rw [len]; decide)
      rw [show (5 : Int) * k + 1 + ((3 : Nat) : Int) = 5 * k + 4 by omega] at d4
      exact qa_fn_eq (A.trans (m_id0 h.1.1 ib k89 r25 ⟨by omega, by omega⟩ d3 d4 e)) (by simp)
  · refine ⟨g, -1, GI_mono hG (by omega), rfl, fun m kd n c s h hC m4 => ⟨m, kd, n, c, s, ?_, CI_mono h (by omega), fun x _ _ => ⟨rfl, rfl⟩, Nat.le_refl _, Nat.le_refl _, Nat.le_refl _⟩, fun m kd w h hM => ⟨m, ?_, MI_mono h (by omega), rfl, rfl, rfl, fun x _ => rfl⟩⟩
    · obtain ⟨hx, h00, k1, h01, k3, h06, k71, k73, k74, m2, m3⟩ := h.k
      have A := c_pfB h hG hC m4 hk
      have e1 := CCm_4 hC hk.1 (j := 1) (by rw [len]; decide)
      rw [show (k : Int) * 4 + ((1 : Nat) : Int) = (k : Int) * 4 + 1 by omega] at e1
      rw [ev, if_neg hb, e1] at A
      exact qa_fn_eq (A.trans (c_pn0)) (by simp)
    · have A := m_idB (w := w) h ok hM hk
      have e1 := MCm_4 hM hk.1 (j := 1) (by rw [len]; decide)
      rw [show (5 : Int) * k + 1 + ((1 : Nat) : Int) = 5 * k + 2 by omega] at e1
      rw [ev, e1] at A
      have ib := m_isBranch (w := w) h.1 h.2.1 h.2.2.1 (tCo T tn k 0)
      rw [if_neg hb] at ib
      exact qa_fn_eq (A.trans (m_in0 h.1.1 ib)) (by simp)
theorem t_cmd1 {N : Int} {g : zG} {T : Int → Int} {tn K : Int} {k : Nat} (hG : GI N g) (hN : N ≤ 511) (ok : tOk T tn k) (hk : (k : Int) < K ∧ K ≤ 60) (ev : tCv T tn k = 1) : ∃ g' a, GI (N + 1) g' ∧ g'.2.2.2.2.2.2.2.2 = g.2.2.2.2.2.2.2.2 ∧ CCmd T tn K k N g g' a ∧ MCmd T tn K k N g g' a := by
  have len : (tLe (tCv T tn k)).length = 2 := by rw [ev]; rfl
  have q0 := ok.2 0 (by rw [len]; decide)
  rw [ev, show (tLe 1).getD 0 0 = 98 from rfl] at q0
  have r0 := tRg_b (lo := 0) (hi := 3) q0 (by decide) (by decide) rfl rfl
  have q1 := ok.2 1 (by rw [len]; decide)
  rw [ev, show (tLe 1).getD 1 0 = 101 from rfl] at q1
  have r1 : tCo T tn k 1 = 0 ∨ tCo T tn k 1 = 1 := q1
  by_cases hb : zBl g.1 (tCo T tn k 0)
  · obtain ⟨g', a, G, X, C, M⟩ := t_join (e := tCo T tn k 1) hG hN hb
    refine ⟨g', a, G, X, fun m kd n c s h hC m4 => ?_, fun m kd w h hM => ?_⟩
    · obtain ⟨m', kd', n', c', s', e, i1, i2, i3, i4, i5⟩ := C m kd n c s h
      refine ⟨m', kd', n', c', s', ?_, i1, i2, i3, i4, i5⟩
      obtain ⟨hx, h00, k1, h01, k3, h06, k71, k73, k74, m2, m3⟩ := h.k
      have A := c_pfB h hG hC m4 hk
      have e1 := CCm_4 hC hk.1 (j := 1) (by rw [len]; decide)
      rw [show (k : Int) * 4 + ((1 : Nat) : Int) = (k : Int) * 4 + 1 by omega] at e1
      rw [ev, if_pos hb, e1] at A
      exact qa_fn_eq (A.trans (c_pf1 hx h00 k1 h01 k3 h06 k71 r1 e)) (by simp; omega)
    · obtain ⟨m', e, i1, i2⟩ := M m kd w h
      refine ⟨m', ?_, i1, i2⟩
      have A := m_idB (w := w) h ok hM hk
      have e1 := MCm_4 hM hk.1 (j := 1) (by rw [len]; decide)
      rw [show (5 : Int) * k + 1 + ((1 : Nat) : Int) = 5 * k + 2 by omega] at e1
      rw [ev, e1] at A
      have ib := m_isBranch (w := w) h.1 h.2.1 h.2.2.1 (tCo T tn k 0)
      rw [if_pos hb] at ib
      exact qa_fn_eq (A.trans (m_id1 h.1.1 ib r1 e)) (by simp)
  · refine ⟨g, -1, GI_mono hG (by omega), rfl, fun m kd n c s h hC m4 => ⟨m, kd, n, c, s, ?_, CI_mono h (by omega), fun x _ _ => ⟨rfl, rfl⟩, Nat.le_refl _, Nat.le_refl _, Nat.le_refl _⟩, fun m kd w h hM => ⟨m, ?_, MI_mono h (by omega), rfl, rfl, rfl, fun x _ => rfl⟩⟩
    · obtain ⟨hx, h00, k1, h01, k3, h06, k71, k73, k74, m2, m3⟩ := h.k
      have A := c_pfB h hG hC m4 hk
      have e1 := CCm_4 hC hk.1 (j := 1) (by rw [len]; decide)
      rw [show (k : Int) * 4 + ((1 : Nat) : Int) = (k : Int) * 4 + 1 by omega] at e1
      rw [ev, if_neg hb, e1] at A
      exact qa_fn_eq (A.trans (c_pn1)) (by simp)
    · have A := m_idB (w := w) h ok hM hk
      have e1 := MCm_4 hM hk.1 (j := 1) (by rw [len]; decide)
      rw [show (5 : Int) * k + 1 + ((1 : Nat) : Int) = 5 * k + 2 by omega] at e1
      rw [ev, e1] at A
      have ib := m_isBranch (w := w) h.1 h.2.1 h.2.2.1 (tCo T tn k 0)
      rw [if_neg hb] at ib
      exact qa_fn_eq (A.trans (m_in1 h.1.1 ib)) (by simp)
theorem t_cmd2 {N : Int} {g : zG} {T : Int → Int} {tn K : Int} {k : Nat} (hG : GI N g) (hN : N ≤ 511) (ok : tOk T tn k) (hk : (k : Int) < K ∧ K ≤ 60) (ev : tCv T tn k = 2) : ∃ g' a, GI (N + 1) g' ∧ g'.2.2.2.2.2.2.2.2 = g.2.2.2.2.2.2.2.2 ∧ CCmd T tn K k N g g' a ∧ MCmd T tn K k N g g' a := by
  have len : (tLe (tCv T tn k)).length = 2 := by rw [ev]; rfl
  have q0 := ok.2 0 (by rw [len]; decide)
  rw [ev, show (tLe 2).getD 0 0 = 114 from rfl] at q0
  have r0 := tRg_b (lo := 0) (hi := 5) q0 (by decide) (by decide) rfl rfl
  have q1 := ok.2 1 (by rw [len]; decide)
  rw [ev, show (tLe 2).getD 1 0 = 105 from rfl] at q1
  have r1 := tRg_b (lo := 1) (hi := 99) q1 (by decide) (by decide) rfl rfl
  by_cases hb : zRl g.1 (tCo T tn k 0)
  · obtain ⟨g', a, G, X, C, M⟩ := t_read hG hN hb r1
    refine ⟨g', a, G, X, fun m kd n c s h hC m4 => ?_, fun m kd w h hM => ?_⟩
    · obtain ⟨m', kd', n', c', s', e, i1, i2, i3, i4, i5⟩ := C m kd n c s h
      refine ⟨m', kd', n', c', s', ?_, i1, i2, i3, i4, i5⟩
      obtain ⟨hx, h00, k1, h01, k3, h06, k71, k73, k74, m2, m3⟩ := h.k
      have A := c_pfB h hG hC m4 hk
      have e1 := CCm_4 hC hk.1 (j := 1) (by rw [len]; decide)
      rw [show (k : Int) * 4 + ((1 : Nat) : Int) = (k : Int) * 4 + 1 by omega] at e1
      rw [ev, if_pos hb, e1] at A
      exact qa_fn_eq (A.trans (c_pf2 hx h00 k1 h01 k3 h06 k71 e)) (by simp; omega)
    · obtain ⟨m', e, i1, i2⟩ := M m kd w h
      refine ⟨m', ?_, i1, i2⟩
      have A := m_idB (w := w) h ok hM hk
      have e1 := MCm_4 hM hk.1 (j := 1) (by rw [len]; decide)
      rw [show (5 : Int) * k + 1 + ((1 : Nat) : Int) = 5 * k + 2 by omega] at e1
      rw [ev, e1] at A
      have ib := m_isReader (w := w) h.1 h.2.1 h.2.2.1 (tCo T tn k 0)
      rw [if_pos hb] at ib
      exact qa_fn_eq (A.trans (m_id2 h.1.1 ib e)) (by simp)
  · refine ⟨g, -1, GI_mono hG (by omega), rfl, fun m kd n c s h hC m4 => ⟨m, kd, n, c, s, ?_, CI_mono h (by omega), fun x _ _ => ⟨rfl, rfl⟩, Nat.le_refl _, Nat.le_refl _, Nat.le_refl _⟩, fun m kd w h hM => ⟨m, ?_, MI_mono h (by omega), rfl, rfl, rfl, fun x _ => rfl⟩⟩
    · obtain ⟨hx, h00, k1, h01, k3, h06, k71, k73, k74, m2, m3⟩ := h.k
      have A := c_pfB h hG hC m4 hk
      have e1 := CCm_4 hC hk.1 (j := 1) (by rw [len]; decide)
      rw [show (k : Int) * 4 + ((1 : Nat) : Int) = (k : Int) * 4 + 1 by omega] at e1
      rw [ev, if_neg hb, e1] at A
      exact qa_fn_eq (A.trans (c_pn2)) (by simp)
    · have A := m_idB (w := w) h ok hM hk
      have e1 := MCm_4 hM hk.1 (j := 1) (by rw [len]; decide)
      rw [show (5 : Int) * k + 1 + ((1 : Nat) : Int) = 5 * k + 2 by omega] at e1
      rw [ev, e1] at A
      have ib := m_isReader (w := w) h.1 h.2.1 h.2.2.1 (tCo T tn k 0)
      rw [if_neg hb] at ib
      exact qa_fn_eq (A.trans (m_in2 h.1.1 ib)) (by simp)
theorem t_cmd3 {N : Int} {g : zG} {T : Int → Int} {tn K : Int} {k : Nat} (hG : GI N g) (hN : N ≤ 511) (ok : tOk T tn k) (hk : (k : Int) < K ∧ K ≤ 60) (ev : tCv T tn k = 3) : ∃ g' a, GI (N + 1) g' ∧ g'.2.2.2.2.2.2.2.2 = g.2.2.2.2.2.2.2.2 ∧ CCmd T tn K k N g g' a ∧ MCmd T tn K k N g g' a := by
  have len : (tLe (tCv T tn k)).length = 2 := by rw [ev]; rfl
  have q0 := ok.2 0 (by rw [len]; decide)
  rw [ev, show (tLe 3).getD 0 0 = 114 from rfl] at q0
  have r0 := tRg_b (lo := 0) (hi := 5) q0 (by decide) (by decide) rfl rfl
  have q1 := ok.2 1 (by rw [len]; decide)
  rw [ev, show (tLe 3).getD 1 0 = 116 from rfl] at q1
  have r1 := tRg_b (lo := 1) (hi := 60) q1 (by decide) (by decide) rfl rfl
  by_cases hb : zRl g.1 (tCo T tn k 0)
  · by_cases ht : tCo T tn k 1 ≤ g.2.2.2.2.2.1 5
    · obtain ⟨g', a, G, X, C, M⟩ := t_promise hG hN hb ⟨r1.1, ht⟩
      refine ⟨g', a, G, X, fun m kd n c s h hC m4 => ?_, fun m kd w h hM => ?_⟩
      · obtain ⟨m', kd', n', c', s', e, i1, i2, i3, i4, i5⟩ := C m kd n c s h
        refine ⟨m', kd', n', c', s', ?_, i1, i2, i3, i4, i5⟩
        obtain ⟨hx, h00, k1, h01, k3, h06, k71, k73, k74, m2, m3⟩ := h.k
        have A := c_pfB h hG hC m4 hk
        have e1 := CCm_4 hC hk.1 (j := 1) (by rw [len]; decide)
        rw [show (k : Int) * 4 + ((1 : Nat) : Int) = (k : Int) * 4 + 1 by omega] at e1
        rw [ev, if_pos hb, e1] at A
        have v5 := c_valueOf (w := (n, c, s)) h.2.1 5 (by decide)
        exact qa_fn_eq (A.trans (c_pf3 hx h00 k1 h01 k3 h06 k71 v5 ht e)) (by simp; omega)
      · obtain ⟨m', e, i1, i2⟩ := M m kd w h
        refine ⟨m', ?_, i1, i2⟩
        have A := m_idB (w := w) h ok hM hk
        have e1 := MCm_4 hM hk.1 (j := 1) (by rw [len]; decide)
        rw [show (5 : Int) * k + 1 + ((1 : Nat) : Int) = 5 * k + 2 by omega] at e1
        rw [ev, e1] at A
        have ib := m_isReader (w := w) h.1 h.2.1 h.2.2.1 (tCo T tn k 0)
        rw [if_pos hb] at ib
        have k78 := h.1.2.1
        have r1' := h.2.1.1
        have v5 := h.2.2.2.2.2.2.1 5 (by decide) (by decide)
        exact qa_fn_eq (A.trans (m_id3 h.1.1 ib k78 r1' v5 ht e)) (by simp)
    · refine ⟨g, -1, GI_mono hG (by omega), rfl, fun m kd n c s h hC m4 => ⟨m, kd, n, c, s, ?_, CI_mono h (by omega), fun x _ _ => ⟨rfl, rfl⟩, Nat.le_refl _, Nat.le_refl _, Nat.le_refl _⟩, fun m kd w h hM => ⟨m, ?_, MI_mono h (by omega), rfl, rfl, rfl, fun x _ => rfl⟩⟩
      · obtain ⟨hx, h00, k1, h01, k3, h06, k71, k73, k74, m2, m3⟩ := h.k
        have A := c_pfB h hG hC m4 hk
        have e1 := CCm_4 hC hk.1 (j := 1) (by rw [len]; decide)
        rw [show (k : Int) * 4 + ((1 : Nat) : Int) = (k : Int) * 4 + 1 by omega] at e1
        rw [ev, if_pos hb, e1] at A
        have v5 := c_valueOf (w := (n, c, s)) h.2.1 5 (by decide)
        exact qa_fn_eq (A.trans (c_pt3 hx h00 k1 h01 k3 h06 k71 v5 (by omega))) (by simp)
      · have A := m_idB (w := w) h ok hM hk
        have e1 := MCm_4 hM hk.1 (j := 1) (by rw [len]; decide)
        rw [show (5 : Int) * k + 1 + ((1 : Nat) : Int) = 5 * k + 2 by omega] at e1
        rw [ev, e1] at A
        have ib := m_isReader (w := w) h.1 h.2.1 h.2.2.1 (tCo T tn k 0)
        rw [if_pos hb] at ib
        have k78 := h.1.2.1
        have r1' := h.2.1.1
        have v5 := h.2.2.2.2.2.2.1 5 (by decide) (by decide)
        exact qa_fn_eq (A.trans (m_it3 h.1.1 ib k78 r1' v5 (by omega))) (by simp)
  · refine ⟨g, -1, GI_mono hG (by omega), rfl, fun m kd n c s h hC m4 => ⟨m, kd, n, c, s, ?_, CI_mono h (by omega), fun x _ _ => ⟨rfl, rfl⟩, Nat.le_refl _, Nat.le_refl _, Nat.le_refl _⟩, fun m kd w h hM => ⟨m, ?_, MI_mono h (by omega), rfl, rfl, rfl, fun x _ => rfl⟩⟩
    · obtain ⟨hx, h00, k1, h01, k3, h06, k71, k73, k74, m2, m3⟩ := h.k
      have A := c_pfB h hG hC m4 hk
      have e1 := CCm_4 hC hk.1 (j := 1) (by rw [len]; decide)
      rw [show (k : Int) * 4 + ((1 : Nat) : Int) = (k : Int) * 4 + 1 by omega] at e1
      rw [ev, if_neg hb, e1] at A
      exact qa_fn_eq (A.trans (c_pn3)) (by simp)
    · have A := m_idB (w := w) h ok hM hk
      have e1 := MCm_4 hM hk.1 (j := 1) (by rw [len]; decide)
      rw [show (5 : Int) * k + 1 + ((1 : Nat) : Int) = 5 * k + 2 by omega] at e1
      rw [ev, e1] at A
      have ib := m_isReader (w := w) h.1 h.2.1 h.2.2.1 (tCo T tn k 0)
      rw [if_neg hb] at ib
      exact qa_fn_eq (A.trans (m_in3 h.1.1 ib)) (by simp)
theorem t_cmd4 {N : Int} {g : zG} {T : Int → Int} {tn K : Int} {k : Nat} (hG : GI N g) (hN : N ≤ 511) (ok : tOk T tn k) (hk : (k : Int) < K ∧ K ≤ 60) (ev : tCv T tn k = 4) : ∃ g' a, GI (N + 1) g' ∧ g'.2.2.2.2.2.2.2.2 = g.2.2.2.2.2.2.2.2 ∧ CCmd T tn K k N g g' a ∧ MCmd T tn K k N g g' a := by
  have len : (tLe (tCv T tn k)).length = 2 := by rw [ev]; rfl
  have q0 := ok.2 0 (by rw [len]; decide)
  rw [ev, show (tLe 4).getD 0 0 = 114 from rfl] at q0
  have r0 := tRg_b (lo := 0) (hi := 5) q0 (by decide) (by decide) rfl rfl
  have q1 := ok.2 1 (by rw [len]; decide)
  rw [ev, show (tLe 4).getD 1 0 = 98 from rfl] at q1
  have r1 := tRg_b (lo := 0) (hi := 3) q1 (by decide) (by decide) rfl rfl
  by_cases hb : zRl g.1 (tCo T tn k 0)
  · by_cases hb2 : zBl g.1 (tCo T tn k 1)
    · obtain ⟨g', a, G, X, C, M⟩ := t_move hG hN hb hb2
      refine ⟨g', a, G, X, fun m kd n c s h hC m4 => ?_, fun m kd w h hM => ?_⟩
      · obtain ⟨m', kd', n', c', s', e, i1, i2, i3, i4, i5⟩ := C m kd n c s h
        refine ⟨m', kd', n', c', s', ?_, i1, i2, i3, i4, i5⟩
        obtain ⟨hx, h00, k1, h01, k3, h06, k71, k73, k74, m2, m3⟩ := h.k
        have A := c_pfB h hG hC m4 hk
        have e1 := CCm_4 hC hk.1 (j := 1) (by rw [len]; decide)
        rw [show (k : Int) * 4 + ((1 : Nat) : Int) = (k : Int) * 4 + 1 by omega] at e1
        rw [ev, if_pos hb, e1] at A
        obtain ⟨hK, hCC, -⟩ := h.1.f
        have ba := c_branchAt (w := (n, c, s)) hK hCC hG.1.1 (tCo T tn k 1)
        rw [if_pos hb2] at ba
        exact qa_fn_eq (A.trans (c_pf4 hx h00 k1 h01 k3 h06 k71 ba (by have := hb2.1; omega) e)) (by simp; omega)
      · obtain ⟨m', e, i1, i2⟩ := M m kd w h
        refine ⟨m', ?_, i1, i2⟩
        have A := m_idB (w := w) h ok hM hk
        have e1 := MCm_4 hM hk.1 (j := 1) (by rw [len]; decide)
        rw [show (5 : Int) * k + 1 + ((1 : Nat) : Int) = 5 * k + 2 by omega] at e1
        rw [ev, e1] at A
        have ib := m_isReader (w := w) h.1 h.2.1 h.2.2.1 (tCo T tn k 0)
        rw [if_pos hb] at ib
        have ib2 := m_isBranch (w := w) h.1 h.2.1 h.2.2.1 (tCo T tn k 1)
        rw [if_pos hb2] at ib2
        exact qa_fn_eq (A.trans (m_id4 h.1.1 ib ib2 e)) (by simp)
    · refine ⟨g, -1, GI_mono hG (by omega), rfl, fun m kd n c s h hC m4 => ⟨m, kd, n, c, s, ?_, CI_mono h (by omega), fun x _ _ => ⟨rfl, rfl⟩, Nat.le_refl _, Nat.le_refl _, Nat.le_refl _⟩, fun m kd w h hM => ⟨m, ?_, MI_mono h (by omega), rfl, rfl, rfl, fun x _ => rfl⟩⟩
      · obtain ⟨hx, h00, k1, h01, k3, h06, k71, k73, k74, m2, m3⟩ := h.k
        have A := c_pfB h hG hC m4 hk
        have e1 := CCm_4 hC hk.1 (j := 1) (by rw [len]; decide)
        rw [show (k : Int) * 4 + ((1 : Nat) : Int) = (k : Int) * 4 + 1 by omega] at e1
        rw [ev, if_pos hb, e1] at A
        obtain ⟨hK, hCC, -⟩ := h.1.f
        have ba := c_branchAt (w := (n, c, s)) hK hCC hG.1.1 (tCo T tn k 1)
        rw [if_neg hb2] at ba
        exact qa_fn_eq (A.trans (c_pt4 hx h00 k1 h01 k3 h06 k71 ba)) (by simp)
      · have A := m_idB (w := w) h ok hM hk
        have e1 := MCm_4 hM hk.1 (j := 1) (by rw [len]; decide)
        rw [show (5 : Int) * k + 1 + ((1 : Nat) : Int) = 5 * k + 2 by omega] at e1
        rw [ev, e1] at A
        have ib := m_isReader (w := w) h.1 h.2.1 h.2.2.1 (tCo T tn k 0)
        rw [if_pos hb] at ib
        have ib2 := m_isBranch (w := w) h.1 h.2.1 h.2.2.1 (tCo T tn k 1)
        rw [if_neg hb2] at ib2
        exact qa_fn_eq (A.trans (m_it4 h.1.1 ib ib2)) (by simp)
  · refine ⟨g, -1, GI_mono hG (by omega), rfl, fun m kd n c s h hC m4 => ⟨m, kd, n, c, s, ?_, CI_mono h (by omega), fun x _ _ => ⟨rfl, rfl⟩, Nat.le_refl _, Nat.le_refl _, Nat.le_refl _⟩, fun m kd w h hM => ⟨m, ?_, MI_mono h (by omega), rfl, rfl, rfl, fun x _ => rfl⟩⟩
    · obtain ⟨hx, h00, k1, h01, k3, h06, k71, k73, k74, m2, m3⟩ := h.k
      have A := c_pfB h hG hC m4 hk
      have e1 := CCm_4 hC hk.1 (j := 1) (by rw [len]; decide)
      rw [show (k : Int) * 4 + ((1 : Nat) : Int) = (k : Int) * 4 + 1 by omega] at e1
      rw [ev, if_neg hb, e1] at A
      exact qa_fn_eq (A.trans (c_pn4)) (by simp)
    · have A := m_idB (w := w) h ok hM hk
      have e1 := MCm_4 hM hk.1 (j := 1) (by rw [len]; decide)
      rw [show (5 : Int) * k + 1 + ((1 : Nat) : Int) = 5 * k + 2 by omega] at e1
      rw [ev, e1] at A
      have ib := m_isReader (w := w) h.1 h.2.1 h.2.2.1 (tCo T tn k 0)
      rw [if_neg hb] at ib
      exact qa_fn_eq (A.trans (m_in4 h.1.1 ib)) (by simp)
theorem t_cmd5 {N : Int} {g : zG} {T : Int → Int} {tn K : Int} {k : Nat} (hG : GI N g) (hN : N ≤ 511) (ok : tOk T tn k) (hk : (k : Int) < K ∧ K ≤ 60) (ev : tCv T tn k = 5) : ∃ g' a, GI (N + 1) g' ∧ g'.2.2.2.2.2.2.2.2 = g.2.2.2.2.2.2.2.2 ∧ CCmd T tn K k N g g' a ∧ MCmd T tn K k N g g' a := by
  have len : (tLe (tCv T tn k)).length = 1 := by rw [ev]; rfl
  have q0 := ok.2 0 (by rw [len]; decide)
  rw [ev, show (tLe 5).getD 0 0 = 114 from rfl] at q0
  have r0 := tRg_b (lo := 0) (hi := 5) q0 (by decide) (by decide) rfl rfl
  by_cases hb : zRl g.1 (tCo T tn k 0)
  · obtain ⟨g', a, G, X, C, M⟩ := t_leave hG hN hb
    refine ⟨g', a, G, X, fun m kd n c s h hC m4 => ?_, fun m kd w h hM => ?_⟩
    · obtain ⟨m', kd', n', c', s', e, i1, i2, i3, i4, i5⟩ := C m kd n c s h
      refine ⟨m', kd', n', c', s', ?_, i1, i2, i3, i4, i5⟩
      obtain ⟨hx, h00, k1, h01, k3, h06, k71, k73, k74, m2, m3⟩ := h.k
      have A := c_pfB h hG hC m4 hk
      rw [ev, if_pos hb] at A
      exact qa_fn_eq (A.trans (c_pf5 hx h00 k1 h01 k3 h06 k71 e)) (by simp; omega)
    · obtain ⟨m', e, i1, i2⟩ := M m kd w h
      refine ⟨m', ?_, i1, i2⟩
      have A := m_idB (w := w) h ok hM hk
      rw [ev] at A
      have ib := m_isReader (w := w) h.1 h.2.1 h.2.2.1 (tCo T tn k 0)
      rw [if_pos hb] at ib
      exact qa_fn_eq (A.trans (m_id5 h.1.1 ib e)) (by simp)
  · refine ⟨g, -1, GI_mono hG (by omega), rfl, fun m kd n c s h hC m4 => ⟨m, kd, n, c, s, ?_, CI_mono h (by omega), fun x _ _ => ⟨rfl, rfl⟩, Nat.le_refl _, Nat.le_refl _, Nat.le_refl _⟩, fun m kd w h hM => ⟨m, ?_, MI_mono h (by omega), rfl, rfl, rfl, fun x _ => rfl⟩⟩
    · obtain ⟨hx, h00, k1, h01, k3, h06, k71, k73, k74, m2, m3⟩ := h.k
      have A := c_pfB h hG hC m4 hk
      rw [ev, if_neg hb] at A
      exact qa_fn_eq (A.trans (c_pn5)) (by simp)
    · have A := m_idB (w := w) h ok hM hk
      rw [ev] at A
      have ib := m_isReader (w := w) h.1 h.2.1 h.2.2.1 (tCo T tn k 0)
      rw [if_neg hb] at ib
      exact qa_fn_eq (A.trans (m_in5 h.1.1 ib)) (by simp)
theorem t_cmd6 {N : Int} {g : zG} {T : Int → Int} {tn K : Int} {k : Nat} (hG : GI N g) (hN : N ≤ 511) (ok : tOk T tn k) (hk : (k : Int) < K ∧ K ≤ 60) (ev : tCv T tn k = 6) : ∃ g' a, GI (N + 1) g' ∧ g'.2.2.2.2.2.2.2.2 = g.2.2.2.2.2.2.2.2 ∧ CCmd T tn K k N g g' a ∧ MCmd T tn K k N g g' a := by
  have len : (tLe (tCv T tn k)).length = 1 := by rw [ev]; rfl
  have q0 := ok.2 0 (by rw [len]; decide)
  rw [ev, show (tLe 6).getD 0 0 = 98 from rfl] at q0
  have r0 := tRg_b (lo := 0) (hi := 3) q0 (by decide) (by decide) rfl rfl
  by_cases hb : zBl g.1 (tCo T tn k 0)
  · obtain ⟨g', a, G, X, C, M⟩ := t_fork hG hN hb
    refine ⟨g', a, G, X, fun m kd n c s h hC m4 => ?_, fun m kd w h hM => ?_⟩
    · obtain ⟨m', kd', n', c', s', e, i1, i2, i3, i4, i5⟩ := C m kd n c s h
      refine ⟨m', kd', n', c', s', ?_, i1, i2, i3, i4, i5⟩
      obtain ⟨hx, h00, k1, h01, k3, h06, k71, k73, k74, m2, m3⟩ := h.k
      have A := c_pfB h hG hC m4 hk
      rw [ev, if_pos hb] at A
      exact qa_fn_eq (A.trans (c_pf6 hx h00 k1 h01 k3 h06 k71 e)) (by simp; omega)
    · obtain ⟨m', e, i1, i2⟩ := M m kd w h
      refine ⟨m', ?_, i1, i2⟩
      have A := m_idB (w := w) h ok hM hk
      rw [ev] at A
      have ib := m_isBranch (w := w) h.1 h.2.1 h.2.2.1 (tCo T tn k 0)
      rw [if_pos hb] at ib
      exact qa_fn_eq (A.trans (m_id6 h.1.1 ib e)) (by simp)
  · refine ⟨g, -1, GI_mono hG (by omega), rfl, fun m kd n c s h hC m4 => ⟨m, kd, n, c, s, ?_, CI_mono h (by omega), fun x _ _ => ⟨rfl, rfl⟩, Nat.le_refl _, Nat.le_refl _, Nat.le_refl _⟩, fun m kd w h hM => ⟨m, ?_, MI_mono h (by omega), rfl, rfl, rfl, fun x _ => rfl⟩⟩
    · obtain ⟨hx, h00, k1, h01, k3, h06, k71, k73, k74, m2, m3⟩ := h.k
      have A := c_pfB h hG hC m4 hk
      rw [ev, if_neg hb] at A
      exact qa_fn_eq (A.trans (c_pn6)) (by simp)
    · have A := m_idB (w := w) h ok hM hk
      rw [ev] at A
      have ib := m_isBranch (w := w) h.1 h.2.1 h.2.2.1 (tCo T tn k 0)
      rw [if_neg hb] at ib
      exact qa_fn_eq (A.trans (m_in6 h.1.1 ib)) (by simp)
theorem t_cmd7 {N : Int} {g : zG} {T : Int → Int} {tn K : Int} {k : Nat} (hG : GI N g) (hN : N ≤ 511) (ok : tOk T tn k) (hk : (k : Int) < K ∧ K ≤ 60) (ev : tCv T tn k = 7) : ∃ g' a, GI (N + 1) g' ∧ g'.2.2.2.2.2.2.2.2 = g.2.2.2.2.2.2.2.2 ∧ CCmd T tn K k N g g' a ∧ MCmd T tn K k N g g' a := by
  have len : (tLe (tCv T tn k)).length = 1 := by rw [ev]; rfl
  have q0 := ok.2 0 (by rw [len]; decide)
  rw [ev, show (tLe 7).getD 0 0 = 98 from rfl] at q0
  have r0 := tRg_b (lo := 0) (hi := 3) q0 (by decide) (by decide) rfl rfl
  by_cases hb : zBl g.1 (tCo T tn k 0)
  · obtain ⟨g', a, G, X, C, M⟩ := t_merge hG hN hb
    refine ⟨g', a, G, X, fun m kd n c s h hC m4 => ?_, fun m kd w h hM => ?_⟩
    · obtain ⟨m', kd', n', c', s', e, i1, i2, i3, i4, i5⟩ := C m kd n c s h
      refine ⟨m', kd', n', c', s', ?_, i1, i2, i3, i4, i5⟩
      obtain ⟨hx, h00, k1, h01, k3, h06, k71, k73, k74, m2, m3⟩ := h.k
      have A := c_pfB h hG hC m4 hk
      rw [ev, if_pos hb] at A
      exact qa_fn_eq (A.trans (c_pf7 hx h00 k1 h01 k3 h06 k71 e)) (by simp; omega)
    · obtain ⟨m', e, i1, i2⟩ := M m kd w h
      refine ⟨m', ?_, i1, i2⟩
      have A := m_idB (w := w) h ok hM hk
      rw [ev] at A
      have ib := m_isBranch (w := w) h.1 h.2.1 h.2.2.1 (tCo T tn k 0)
      rw [if_pos hb] at ib
      exact qa_fn_eq (A.trans (m_id7 h.1.1 ib e)) (by simp)
  · refine ⟨g, -1, GI_mono hG (by omega), rfl, fun m kd n c s h hC m4 => ⟨m, kd, n, c, s, ?_, CI_mono h (by omega), fun x _ _ => ⟨rfl, rfl⟩, Nat.le_refl _, Nat.le_refl _, Nat.le_refl _⟩, fun m kd w h hM => ⟨m, ?_, MI_mono h (by omega), rfl, rfl, rfl, fun x _ => rfl⟩⟩
    · obtain ⟨hx, h00, k1, h01, k3, h06, k71, k73, k74, m2, m3⟩ := h.k
      have A := c_pfB h hG hC m4 hk
      rw [ev, if_neg hb] at A
      exact qa_fn_eq (A.trans (c_pn7)) (by simp)
    · have A := m_idB (w := w) h ok hM hk
      rw [ev] at A
      have ib := m_isBranch (w := w) h.1 h.2.1 h.2.2.1 (tCo T tn k 0)
      rw [if_neg hb] at ib
      exact qa_fn_eq (A.trans (m_in7 h.1.1 ib)) (by simp)
theorem t_cmd8 {N : Int} {g : zG} {T : Int → Int} {tn K : Int} {k : Nat} (hG : GI N g) (hN : N ≤ 511) (ok : tOk T tn k) (hk : (k : Int) < K ∧ K ≤ 60) (ev : tCv T tn k = 8) : ∃ g' a, GI (N + 1) g' ∧ g'.2.2.2.2.2.2.2.2 = g.2.2.2.2.2.2.2.2 ∧ CCmd T tn K k N g g' a ∧ MCmd T tn K k N g g' a := by
  have len : (tLe (tCv T tn k)).length = 1 := by rw [ev]; rfl
  have q0 := ok.2 0 (by rw [len]; decide)
  rw [ev, show (tLe 8).getD 0 0 = 98 from rfl] at q0
  have r0 := tRg_b (lo := 0) (hi := 3) q0 (by decide) (by decide) rfl rfl
  by_cases hb : zBl g.1 (tCo T tn k 0)
  · obtain ⟨g', a, G, X, C, M⟩ := t_drop hG hN hb
    refine ⟨g', a, G, X, fun m kd n c s h hC m4 => ?_, fun m kd w h hM => ?_⟩
    · obtain ⟨m', kd', n', c', s', e, i1, i2, i3, i4, i5⟩ := C m kd n c s h
      refine ⟨m', kd', n', c', s', ?_, i1, i2, i3, i4, i5⟩
      obtain ⟨hx, h00, k1, h01, k3, h06, k71, k73, k74, m2, m3⟩ := h.k
      have A := c_pfB h hG hC m4 hk
      rw [ev, if_pos hb] at A
      exact qa_fn_eq (A.trans (c_pf8 hx h00 k1 h01 k3 h06 k71 e)) (by simp; omega)
    · obtain ⟨m', e, i1, i2⟩ := M m kd w h
      refine ⟨m', ?_, i1, i2⟩
      have A := m_idB (w := w) h ok hM hk
      rw [ev] at A
      have ib := m_isBranch (w := w) h.1 h.2.1 h.2.2.1 (tCo T tn k 0)
      rw [if_pos hb] at ib
      exact qa_fn_eq (A.trans (m_id8 h.1.1 ib e)) (by simp)
  · refine ⟨g, -1, GI_mono hG (by omega), rfl, fun m kd n c s h hC m4 => ⟨m, kd, n, c, s, ?_, CI_mono h (by omega), fun x _ _ => ⟨rfl, rfl⟩, Nat.le_refl _, Nat.le_refl _, Nat.le_refl _⟩, fun m kd w h hM => ⟨m, ?_, MI_mono h (by omega), rfl, rfl, rfl, fun x _ => rfl⟩⟩
    · obtain ⟨hx, h00, k1, h01, k3, h06, k71, k73, k74, m2, m3⟩ := h.k
      have A := c_pfB h hG hC m4 hk
      rw [ev, if_neg hb] at A
      exact qa_fn_eq (A.trans (c_pn8)) (by simp)
    · have A := m_idB (w := w) h ok hM hk
      rw [ev] at A
      have ib := m_isBranch (w := w) h.1 h.2.1 h.2.2.1 (tCo T tn k 0)
      rw [if_neg hb] at ib
      exact qa_fn_eq (A.trans (m_in8 h.1.1 ib)) (by simp)
theorem t_cmd9 {N : Int} {g : zG} {T : Int → Int} {tn K : Int} {k : Nat} (hG : GI N g) (hN : N ≤ 511) (ok : tOk T tn k) (hk : (k : Int) < K ∧ K ≤ 60) (ev : tCv T tn k = 9) : ∃ g' a, GI (N + 1) g' ∧ g'.2.2.2.2.2.2.2.2 = g.2.2.2.2.2.2.2.2 ∧ CCmd T tn K k N g g' a ∧ MCmd T tn K k N g g' a := by
  have len : (tLe (tCv T tn k)).length = 1 := by rw [ev]; rfl
  have q0 := ok.2 0 (by rw [len]; decide)
  rw [ev, show (tLe 9).getD 0 0 = 110 from rfl] at q0
  have r0 := tRg_b (lo := 1) (hi := 99) q0 (by decide) (by decide) rfl rfl
  obtain ⟨g', a, G, X, C, M⟩ := t_pass hG hN r0
  refine ⟨g', a, G, X, fun m kd n c s h hC m4 => ?_, fun m kd w h hM => ?_⟩
  · obtain ⟨m', kd', n', c', s', e, i1, i2, i3, i4, i5⟩ := C m kd n c s h
    refine ⟨m', kd', n', c', s', ?_, i1, i2, i3, i4, i5⟩
    obtain ⟨hx, h00, k1, h01, k3, h06, k71, k73, k74, m2, m3⟩ := h.k
    have A := c_pfB h hG hC m4 hk
    rw [ev] at A
    exact qa_fn_eq (A.trans (c_pf9 hx h00 k1 h01 k3 h06 k71 e)) (by simp; omega)
  · obtain ⟨m', e, i1, i2⟩ := M m kd w h
    refine ⟨m', ?_, i1, i2⟩
    have A := m_idB (w := w) h ok hM hk
    rw [ev] at A
    exact qa_fn_eq (A.trans (m_id9 h.1.1 e)) (by simp)
theorem t_cmd {N : Int} {g : zG} {T : Int → Int} {tn K : Int} {k : Nat} (hG : GI N g) (hN : N ≤ 511) (ok : tOk T tn k) (hk : (k : Int) < K ∧ K ≤ 60) : ∃ g' a, GI (N + 1) g' ∧ g'.2.2.2.2.2.2.2.2 = g.2.2.2.2.2.2.2.2 ∧ CCmd T tn K k N g g' a ∧ MCmd T tn K k N g g' a := by
  have hv := ok.1
  have : tCv T tn k = 0 ∨ tCv T tn k = 1 ∨ tCv T tn k = 2 ∨ tCv T tn k = 3 ∨ tCv T tn k = 4 ∨ tCv T tn k = 5 ∨ tCv T tn k = 6 ∨ tCv T tn k = 7 ∨ tCv T tn k = 8 ∨ tCv T tn k = 9 := by omega
  rcases this with e | e | e | e | e | e | e | e | e | e
  · exact t_cmd0 hG hN ok hk e
  · exact t_cmd1 hG hN ok hk e
  · exact t_cmd2 hG hN ok hk e
  · exact t_cmd3 hG hN ok hk e
  · exact t_cmd4 hG hN ok hk e
  · exact t_cmd5 hG hN ok hk e
  · exact t_cmd6 hG hN ok hk e
  · exact t_cmd7 hG hN ok hk e
  · exact t_cmd8 hG hN ok hk e
  · exact t_cmd9 hG hN ok hk e
