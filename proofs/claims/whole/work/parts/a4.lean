def CAct (f : List qV → qA → Option qR) (args : List qV) (N : Int) (g g' : zG) (ans : Int) : Prop := ∀ m kd n c s, CI N g m kd n c s → ∃ m' kd' n' c' s', f args (m, kd, n, c, s) = some (.inl (some (0, ans)), (m', kd', n', c', s')) ∧ CI (N + 1) g' m' kd' n' c' s' ∧ (∀ x, 71 ≤ x → x ≤ 92 → m' x = m x ∧ kd' x = kd x) ∧ n ≤ n' ∧ c ≤ c' ∧ s ≤ s'
def MAct (f : List qV → qA → Option qR) (args : List qV) (N : Int) (g g' : zG) (ans : Int) : Prop := ∀ m kd w, MI N g m kd → ∃ m', f args (m, kd, w) = some (.inl (some (0, ans)), (m', kd, w)) ∧ MI (N + 1) g' m' kd ∧ m' 77 0 = m 77 0 ∧ m' 77 24 = m 77 24 ∧ m' 89 = m 89 ∧ ∀ x, x < 77 ∨ 90 < x → m' x = m x
theorem CI.ha {N : Int} {g : zG} {m : Int → Int → Int} {kd : Int → Nat × Int} {n c s : Nat} (h : CI N g m kd n c s) (hG : GI N g) (hN : N ≤ 900) : ∀ i, 0 ≤ i → i ≤ 10 → 0 ≤ m 65 i ∧ m 65 i < 100000000 := fun i a b => by
  rw [h.2.2.2.2.2.2.1 i a b]
  have := hG.2.2.2.2.2.1 i a b
  omega
theorem MI.ha {N : Int} {g : zG} {m : Int → Int → Int} {kd : Int → Nat × Int} (h : MI N g m kd) (hG : GI N g) (hN : N ≤ 900) : ∀ i, 0 ≤ i → i ≤ 10 → 0 ≤ m 84 i ∧ m 84 i < 100000000 := fun i a b => by
  rw [h.2.2.2.2.2.2.2.1 i a b]
  have := hG.2.2.2.2.2.1 i a b
  omega
theorem GI.hU {N : Int} {g : zG} (hG : GI N g) : ∀ k, 0 ≤ k → k < g.2.1 → zW (512 * N) (g.2.2.1 k) := fun k a b => (hG.2.2.1 k a b).1
theorem MI.hX {N : Int} {g : zG} {m : Int → Int → Int} {kd : Int → Nat × Int} (h : MI N g m kd) (hN : N ≤ 900) : zcb m 50000000 := zcb_mono h.2.2.2.2.2.2.2.2.2.2.2.2.2 (by omega)
theorem t_append {N : Int} {g : zG} (hG : GI N g) (hN : N ≤ 511) {b k s v : Int} (hb : zBl g.1 b) (hk : 0 ≤ k ∧ k ≤ 9) (hs : 1 ≤ s ∧ s ≤ 9) (hv : -99 ≤ v ∧ v ≤ 99) : ∃ g' ans, GI (N + 1) g' ∧ g'.2.2.2.2.2.2.2.2 = g.2.2.2.2.2.2.2.2 ∧ CAct f_X11_append [(1, 0), (0, b), (0, k), (0, s), (0, v)] N g g' ans ∧ MAct f_X12_appends [(1, 77), (0, b), (0, k), (0, s), (0, v)] N g g' ans := by
  have e := zI_end hG.1 hb
  have e1 := hG.1.2.2.2.1
  have e0 := zI_0 hG.1
  refine ⟨_, _, GI_done hG (by omega) (zI_append hG.1 hN g.2.2.2.2.2.1 hb hk hs hv), rfl, fun m kd n c s' h => CI_done h (ca_append h.1 hG.1.1 (h.ha hG (by omega)) h.2.1 hG.2.2.2.2.1 hb (by omega) (by omega) (by omega) hk hs hv), fun m kd w h => MI_done h (by omega) (ma_append h.1 h.2.1 h.2.2.1 hG.1.1 h.2.2.2.1 hG.hU (h.ha hG (by omega)) (h.hX (by omega)) h.2.2.2.2.2.2.1 hG.2.2.2.2.1 hb (by omega) (by omega) (by omega) hk hs hv)⟩
theorem t_leave {N : Int} {g : zG} (hG : GI N g) (hN : N ≤ 511) {r : Int} (hr : zRl g.1 r) : ∃ g' ans, GI (N + 1) g' ∧ g'.2.2.2.2.2.2.2.2 = g.2.2.2.2.2.2.2.2 ∧ CAct f_X11_leave [(1, 0), (0, r)] N g g' ans ∧ MAct f_X12_leaves [(1, 77), (0, r)] N g g' ans := by
  refine ⟨_, _, GI_done hG (by omega) (zI_leave hG.1 (by omega) r), rfl, fun m kd n c s' h => CI_done h (ca_leave h.1 hG.1.1 (h.ha hG (by omega) 0 (by decide) (by decide)) hr), fun m kd w h => MI_done h (by omega) (ma_leave h.1 h.2.1 h.2.2.1 hG.1.1 h.2.2.2.1 hG.hU (h.ha hG (by omega) 0 (by decide) (by decide)) hr)⟩
theorem t_promise {N : Int} {g : zG} (hG : GI N g) (hN : N ≤ 511) {r t : Int} (hr : zRl g.1 r) (ht : 1 ≤ t ∧ t ≤ g.2.2.2.2.2.1 5) : ∃ g' ans, GI (N + 1) g' ∧ g'.2.2.2.2.2.2.2.2 = g.2.2.2.2.2.2.2.2 ∧ CAct f_X11_promise [(1, 0), (0, r), (0, t)] N g g' ans ∧ MAct f_X12_promises [(1, 77), (0, r), (0, t)] N g g' ans := by
  have h60 := hG.2.2.2.2.1
  unfold zS at h60
  have C := fun m kd n c s' (h : CI N g m kd n c s') => ca_promise (c := c) (s := s') h.1 hG.1.1 (h.ha hG (by omega)) h.2.1 hG.2.2.2.2.1 hr ht
  have D := fun m kd w (h : MI N g m kd) => ma_promise (w := w) h.1 h.2.1 h.2.2.1 hG.1.1 h.2.2.2.1 hG.hU (h.ha hG (by omega)) h.2.2.2.2.2.2.1 hG.2.2.2.2.1 hr ht
  by_cases q : g.2.2.2.2.2.1 4 ≤ g.1.2.2.1 r 6
  · exact ⟨_, _, GI_ref hG (by omega) 3, rfl, fun m kd n c s' h => CI_ref h ((C m kd n c s' h).1 q), fun m kd w h => MI_ref h ((D m kd w h).1 q)⟩
  · by_cases q4 : g.1.2.2.1 r 4 = -1
    · exact ⟨_, _, GI_done hG (by omega) (zI_promise hG.1 (by omega) ⟨ht.1, by omega⟩), rfl, fun m kd n c s' h => CI_done h ((C m kd n c s' h).2.2 (by omega) q4), fun m kd w h => MI_done h (by omega) ((D m kd w h).2.2 (by omega) q4)⟩
    · exact ⟨_, _, GI_ref hG (by omega) 4, rfl, fun m kd n c s' h => CI_ref h ((C m kd n c s' h).2.1 (by omega) q4), fun m kd w h => MI_ref h ((D m kd w h).2.1 (by omega) q4)⟩
theorem t_move {N : Int} {g : zG} (hG : GI N g) (hN : N ≤ 511) {r b : Int} (hr : zRl g.1 r) (hb : zBl g.1 b) : ∃ g' ans, GI (N + 1) g' ∧ g'.2.2.2.2.2.2.2.2 = g.2.2.2.2.2.2.2.2 ∧ CAct f_X11_move [(1, 0), (0, r), (0, b)] N g g' ans ∧ MAct f_X12_moves [(1, 77), (0, r), (0, b)] N g g' ans := by
  have C := fun m kd n c s' (h : CI N g m kd n c s') => ca_move (c := c) (s := s') h.1 hG.1.1 (h.ha hG (by omega)) hG.1.2.1 hr hb
  have D := fun m kd w (h : MI N g m kd) => ma_move (w := w) h.1 h.2.1 h.2.2.1 hG.1.1 h.2.2.2.1 hG.hU (h.ha hG (by omega)) hG.1.2.1 hr hb
  by_cases q : g.1.2.2.1 r 1 = b ∨ zcommon g.1 (g.1.2.2.1 r 1) b < g.1.2.2.1 r 2 ∨ g.1.2.2.1 r 2 < g.1.2.1 b 4
  · exact ⟨_, _, GI_ref hG (by omega) 5, rfl, fun m kd n c s' h => CI_ref h ((C m kd n c s' h).1 q), fun m kd w h => MI_ref h ((D m kd w h).1 q)⟩
  · exact ⟨_, _, GI_done hG (by omega) (zI_move hG.1 (by omega) hr hb q), rfl, fun m kd n c s' h => CI_done h ((C m kd n c s' h).2 q), fun m kd w h => MI_done h (by omega) ((D m kd w h).2 q)⟩
theorem t_join {N : Int} {g : zG} (hG : GI N g) (hN : N ≤ 511) {b e : Int} (hb : zBl g.1 b) : ∃ g' ans, GI (N + 1) g' ∧ g'.2.2.2.2.2.2.2.2 = g.2.2.2.2.2.2.2.2 ∧ CAct f_X11_join [(1, 0), (0, b), (0, e)] N g g' ans ∧ MAct f_X12_joins [(1, 77), (0, b), (0, e)] N g g' ans := by
  have C := fun m kd n c s' (h : CI N g m kd n c s') => ca_join (c := c) (s := s') (e := e) h.1 hG.1.1 (h.ha hG (by omega)) hb
  have D := fun m kd w (h : MI N g m kd) => m_joins (w := w) (e := e) h.1 h.2.1 h.2.2.1 hG.1.1 h.2.2.2.1 hG.hU (h.ha hG (by omega)) hb
  have hwb := hG.1.1.2.2.2.2.2.1 b hb.1 hb.2.1 hb.2.2
  unfold zWb at hwb
  by_cases q : zff (fun r => g.1.2.2.1 r 0 = 0) 0 6 = -1
  · exact ⟨_, _, GI_ref hG (by omega) 1, rfl, fun m kd n c s' h => CI_ref h ((C m kd n c s' h).1 q), fun m kd w h => MI_ref h ((D m kd w h).1 q)⟩
  · exact ⟨_, _, GI_done hG (by omega) (zI_join (p := if e = 0 then g.1.2.1 b 4 else g.1.2.1 b 5) hG.1 (by omega) hb (by split <;> omega)), rfl, fun m kd n c s' h => CI_done h ((C m kd n c s' h).2 q), fun m kd w h => MI_done h (by omega) ((D m kd w h).2 q)⟩
theorem t_fork {N : Int} {g : zG} (hG : GI N g) (hN : N ≤ 511) {b : Int} (hb : zBl g.1 b) : ∃ g' ans, GI (N + 1) g' ∧ g'.2.2.2.2.2.2.2.2 = g.2.2.2.2.2.2.2.2 ∧ CAct f_X11_fork [(1, 0), (0, b)] N g g' ans ∧ MAct f_X12_forks [(1, 77), (0, b)] N g g' ans := by
  have C := fun m kd n c s' (h : CI N g m kd n c s') => ca_fork (c := c) (s := s') h.1 hG.1.1 (h.ha hG (by omega)) hb
  have D := fun m kd w (h : MI N g m kd) => ma_fork (w := w) h.1 h.2.1 h.2.2.1 hG.1.1 h.2.2.2.1 hG.hU (h.ha hG (by omega)) hb
  by_cases q : zff (fun b => g.1.2.1 b 1 = 0) 0 4 = -1
  · exact ⟨_, _, GI_ref hG (by omega) 2, rfl, fun m kd n c s' h => CI_ref h ((C m kd n c s' h).1 q), fun m kd w h => MI_ref h ((D m kd w h).1 q)⟩
  · have z := (zff_le (p := fun b => g.1.2.1 b 1 = 0) 4 0).resolve_left q
    exact ⟨_, _, GI_done hG (by omega) (zI_fork hG.1 (by omega) hb ⟨z.1, by omega⟩ z.2.2), rfl, fun m kd n c s' h => CI_done h ((C m kd n c s' h).2 q), fun m kd w h => MI_done h (by omega) ((D m kd w h).2 q)⟩
theorem t_drop {N : Int} {g : zG} (hG : GI N g) (hN : N ≤ 511) {b : Int} (hb : zBl g.1 b) : ∃ g' ans, GI (N + 1) g' ∧ g'.2.2.2.2.2.2.2.2 = g.2.2.2.2.2.2.2.2 ∧ CAct f_X11_drop [(1, 0), (0, b)] N g g' ans ∧ MAct f_X12_drops [(1, 77), (0, b)] N g g' ans := by
  have C := fun m kd n c s' (h : CI N g m kd n c s') => ca_drop (c := c) (s := s') h.1 hG.1.1 (h.ha hG (by omega)) hb
  have D := fun m kd w (h : MI N g m kd) => ma_drop (w := w) h.1 h.2.1 h.2.2.1 hG.1.1 h.2.2.2.1 hG.hU (h.ha hG (by omega)) hb
  by_cases q : 0 < zWhyD g.1 b
  · exact ⟨_, _, GI_ref hG (by omega) (zWhyD g.1 b), rfl, fun m kd n c s' h => CI_ref h ((C m kd n c s' h).1 q), fun m kd w h => MI_ref h ((D m kd w h).1 q)⟩
  · have h8 := zWhyD_0 g.1 b
    have q0 : zWhyD g.1 b = 0 := by omega
    have y : zWhy g.1 b = 0 ∧ zReaders g.1 b = 0 := by omega
    have y1 := zWhy_n y.1
    exact ⟨_, _, GI_done hG (by omega) (zI_drop hG.1 (by omega) hb y1.1 y1.2 (zReaders_n y.2)), rfl, fun m kd n c s' h => CI_done h ((C m kd n c s' h).2 q0), fun m kd w h => MI_done h (by omega) ((D m kd w h).2 q0)⟩
theorem t_merge {N : Int} {g : zG} (hG : GI N g) (hN : N ≤ 511) {b : Int} (hb : zBl g.1 b) : ∃ g' ans, GI (N + 1) g' ∧ g'.2.2.2.2.2.2.2.2 = g.2.2.2.2.2.2.2.2 ∧ CAct f_X11_merge [(1, 0), (0, b)] N g g' ans ∧ MAct f_X12_merges [(1, 77), (0, b)] N g g' ans := by
  have e0 := zI_0 hG.1
  have en := zI_end hG.1 hb
  have h5 : zWhyM g.1 b = 0 → g.1.2.1 (g.1.2.1 b 2) 5 + (g.1.2.1 b 5 - zSt g.1 b) ≤ 512 := fun z => by
    have hn0 : b ≠ 0 ∧ zKids g.1 b = 0 := by
      rcases zWhyM_0 g.1 b with ⟨y1, y2⟩ | ⟨y1, y2, y3⟩ | ⟨y1, y2, y3⟩
      · omega
      · omega
      · exact zWhy_n y1
    have := en.2 hn0.1
    unfold zSt
    split <;> omega
  have C := fun m kd n c s' (h : CI N g m kd n c s') => ca_merge (c := c) (s := s') h.1 hG.1.1 (h.ha hG (by omega)) hG.1.2.1 h.2.1 hG.2.2.2.2.1 hb h5 (by omega)
  have D := fun m kd w (h : MI N g m kd) => ma_merge (w := w) h.1 h.2.1 h.2.2.1 hG.1.1 h.2.2.2.1 hG.hU (h.ha hG (by omega)) (h.hX (by omega)) hG.1.2.1 h.2.2.2.2.2.2.1 hG.2.2.2.2.1 hb h5 (by omega)
  have h8 := zWhyM_0 g.1 b
  by_cases q : 0 < zWhyM g.1 b
  · exact ⟨_, _, GI_ref hG (by omega) (zWhyM g.1 b), rfl, fun m kd n c s' h => CI_ref h ((C m kd n c s' h).1 q), fun m kd w h => MI_ref h ((D m kd w h).1 q)⟩
  · have q0 : zWhyM g.1 b = 0 := by omega
    exact ⟨_, _, GI_done hG (by omega) (zI_merge hG.1 hN g.2.2.2.2.2.1 hb q0), rfl, fun m kd n c s' h => CI_done h ((C m kd n c s' h).2 q0), fun m kd w h => MI_done h (by omega) ((D m kd w h).2 q0)⟩
theorem t_pass {N : Int} {g : zG} (hG : GI N g) (hN : N ≤ 511) {t : Int} (ht : 1 ≤ t ∧ t ≤ 99) : ∃ g' ans, GI (N + 1) g' ∧ g'.2.2.2.2.2.2.2.2 = g.2.2.2.2.2.2.2.2 ∧ CAct f_X11_pass [(1, 0), (0, t)] N g g' ans ∧ MAct f_X12_passes [(1, 77), (0, t)] N g g' ans := by
  have e0 := zI_0 hG.1
  have e9 := hG.1.2.2.2.2
  exact ⟨_, _, GI_done hG (by omega) (zI_pass hG.1 (by omega) g.2.2.2.2.2.1 ht), rfl, fun m kd n c s' h => CI_done h (ca_pass h.1 hG.1.1 (h.ha hG (by omega)) h.2.1 hG.2.2.2.2.1 ht (by omega) (by omega)), fun m kd w h => MI_done h (by omega) (ma_pass h.1 h.2.1 h.2.2.1 hG.1.1 h.2.2.2.1 hG.hU (h.ha hG (by omega)) h.2.2.2.2.2.2.1 hG.2.2.2.2.1 ht (by omega) (by omega))⟩
theorem t_read {N : Int} {g : zG} (hG : GI N g) (hN : N ≤ 511) {r it : Int} (hr : zRl g.1 r) (hi : 1 ≤ it ∧ it ≤ 99) : ∃ g' ans, GI (N + 1) g' ∧ g'.2.2.2.2.2.2.2.2 = g.2.2.2.2.2.2.2.2 ∧ CAct f_X11_read [(1, 0), (0, r), (0, it)] N g g' ans ∧ MAct f_X12_reads [(1, 77), (0, r), (0, it)] N g g' ans := by
  have e0 := zI_0 hG.1
  have z := zTk_b hG.1.1 hr hi
  have z1 := zHas_01 g.1 r
  have hwr := hG.1.1.2.2.2.2.2.2.2.1 r hr.1 hr.2.1 hr.2.2
  unfold zWr at hwr
  have hwb := hG.1.1.2.2.2.2.2.1 _ hwr.1.1 hwr.1.2.1 hwr.1.2.2
  unfold zWb at hwb
  have zi : zHas g.1 r + zTk g.1 r it ≤ 99 := by
    unfold zTk
    split <;> omega
  have C := fun m kd n c s' (h : CI N g m kd n c s') => ca_read (c := c) (s := s') h.1 hG.1.1 (h.ha hG (by omega)) h.2.2.1 h.2.2.2.2.2.2.2.2.1 h.1.z.2.2.2.1 (by omega) hr hi
  have D := fun m kd w (h : MI N g m kd) => ma_read (w := w) h.1 h.2.1 h.2.2.1 hG.1.1 h.2.2.2.1 hG.hU (h.ha hG (by omega)) (by omega) hr hi
  by_cases q : g.1.2.2.1 r 9 = 0 ∧ g.1.2.1 (g.1.2.2.1 r 1) 5 ≤ g.1.2.2.1 r 2
  · exact ⟨_, _, GI_ref hG (by omega) 10, rfl, fun m kd n c s' h => CI_ref h ((C m kd n c s' h).1 q), fun m kd w h => MI_ref h ((D m kd w h).1 q)⟩
  · exact ⟨_, _, GI_read (D' := (zHas g.1 r, g.1.2.2.1 r 2, zTk g.1 r it, (fun j => g.1.2.2.1 r (9 + j)), (fun i j => g.1.2.2.2 (g.1.2.2.1 r 1) (g.1.2.2.1 r 2 + i) j))) hG (by omega) (zI_read hG.1 (by omega) hr hi) ⟨z1, ⟨by show 0 ≤ g.1.2.2.1 r 2; omega, by show g.1.2.2.1 r 2 ≤ 1000; omega⟩, z.1, zi⟩, rfl, fun m kd n c s' h => CI_readD h ((C m kd n c s' h).2 q), fun m kd w h => MI_readD h (by omega) ((D m kd w h).2 q)⟩
