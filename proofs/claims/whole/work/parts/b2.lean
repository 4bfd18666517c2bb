theorem CS_cell2 {um : Int} {U SV : Int → zA} {A : zA} {m : Int → Int → Int} {kd : Int → Nat × Int} {n S r v : Int} (hS : CS um U SV A m kd n S) : CS um U SV A (qa_up m 2 r v) kd n S ∧ znull (qa_up m 2 r v) = znull m := by
  obtain ⟨rfl, h2, h3, h4, h5, h6⟩ := hS
  obtain ⟨x0, x1, ⟨x63, x64, x640, x641, x65, x66⟩, x3, x33, xm33⟩ := id h2
  have lo : ∀ c, c ≠ 2 → qa_up m 2 r v c = m c := fun c hc => by
    funext i
    exact qa_up_no _ (fun z => hc z.1)
  have e9 : ∀ e, kd e = (9, 0) → e ≠ 2 := fun e he z => by
    rw [z, x1.2.2] at he
    cases he
  refine ⟨⟨rfl, ⟨?_, ?_, ⟨x63, x64, ?_, ?_, x65, x66⟩, x3, x33, ?_⟩, ?_, ⟨?_, h4.2.1, h4.2.2.1, fun k k1 k2 => ?_⟩, fun i a b => ?_, ?_⟩, ?_⟩
  · rw [lo 0 (by decide)]; exact x0
  · rw [lo 1 (by decide)]; exact x1
  · rw [lo 64 (by decide)]; exact x640
  · rw [lo 64 (by decide)]; exact x641
  · exact MS_keep xm33 (fun c a b => lo c (by omega))
  · exact JS_keep h3 (fun c hc => lo c (by omega)) (lo 66 (by decide)) (lo 63 (by decide))
  · rw [lo 64 (by decide)]; exact h4.1
  · rw [lo 66 (by decide)]
    obtain ⟨v1, v2⟩ := h4.2.2.2 k k1 k2
    rcases h3.1 k k1 (by have := h4.2.2.1; omega) with h | h
    · exact absurd h v1
    · exact ⟨v1, RC_93 v2 h (fun c hc => lo c (by omega)) (fun e he => lo e (e9 e he))⟩
  · rw [lo 63 (by decide)]
    intro hne
    rcases h3.2.1 i a b with h | h
    · exact absurd h hne
    · exact RC_93 (h5 i a b hne) h (fun c hc => lo c (by omega)) (fun e he => lo e (e9 e he))
  · exact RC_keep h6 (fun c a b => lo c (by omega)) (fun e he => ⟨lo e (e9 e he), rfl⟩)
  · unfold znull
    rw [lo 66 (by decide), lo 63 (by decide)]
def gS (g : zG) (w v : Int) : zG := (g.1, g.2.1, g.2.2.1, g.2.2.2.1, g.2.2.2.2.1, (fun i => if i = w then v else g.2.2.2.2.2.1 i), g.2.2.2.2.2.2)
theorem zS_set {st : Int → Int} (h : zS st) {w v : Int} (hv : zSok w v) : zS (fun i => if i = w then v else st i) := by
  obtain ⟨⟨w0, w6⟩, h1, h2⟩ := hv
  unfold zS at h ⊢
  have : w = 0 ∨ w = 1 ∨ w = 2 ∨ w = 3 ∨ w = 4 ∨ w = 5 ∨ w = 6 := by omega
  rcases this with rfl | rfl | rfl | rfl | rfl | rfl | rfl <;> (simp [zLo, zHi] at h1 h2 ⊢; omega)
theorem p_set {N : Int} {g : zG} (hG : GI N g) (hN : N ≤ 511) (w v : Int) : PPub N g f_X11_set [(1, 0), (0, w), (0, v)] f_X12_set [(1, 77), (0, w), (0, v)] [(2, 1)] := by
  by_cases hv : zSok w v
  · refine ⟨gS g w v, N, 0, 0, g.2.2.2.2.2.1 w, ?_, Int.le_refl _, by unfold zpt; show 4 * N + g.2.2.2.2.2.2.2.2.1.2.1 ≤ _; omega, Or.inl ⟨rfl, rfl⟩, fun m kd n c s i => ?_, fun m kd w' i => ?_⟩
    · obtain ⟨h1, h2, h3, h4, h5, h6⟩ := hG
      exact ⟨h1, h2, h3, h4, zS_set h5 hv, h6⟩
    · have e := cs_set (w := (n, c, s)) i.2.1 i.q.2.2.1 i.q.2.2.2.2.1 w v
      rw [if_pos hv] at e
      have lo : ∀ c, c ≠ 2 → qa_up m 2 w v c = m c := fun c hc => by
        funext i
        exact qa_up_no _ (fun z => hc z.1)
      refine ⟨_, kd, n, c, s, e, ?_, fun x a b => ⟨lo x (by omega), rfl⟩, Nat.le_refl _, Nat.le_refl _, Nat.le_refl _⟩
      obtain ⟨i1, i2, i3, i4, i5, i6, i7, i8, i9, V, cap, P, p1, p2⟩ := i
      obtain ⟨o1, o3⟩ := CS_cell2 (r := w) (v := v) i1
      have z := i1.z
      have k2 := i2.2.2.1
      refine ⟨o1, ?_, CD_page i3 (fun x a b => ⟨lo x (by omega), rfl⟩) (fun e he => ⟨lo e (fun q => ?_), rfl⟩), i4, MSc_fr i5 (lo 71 (by decide)) (lo 72 (by decide)), by rw [lo 71 (by decide)]; exact i6, by rw [lo 65 (by decide)]; exact i7, by rw [lo 63 (by decide)]; exact i8, i9, V, cap, Pg_fr P (fun x hx => ⟨lo x (by omega), rfl⟩) (Nat.le_refl _) z.2.1, by rw [o3]; exact p1, by rw [o3]; exact p2⟩
      · obtain ⟨y1, y2, y3, y4⟩ := i2
        refine ⟨y1, by rw [lo 1 (by decide)]; exact y2, y3, fun j a b => ?_⟩
        show _ = if j = w then v else g.2.2.2.2.2.1 j
        by_cases q : j = w
        · rw [if_pos q, q, qa_up_hit]
        · rw [if_neg q, qa_up_no _ (fun z => q z.2)]; exact y4 j a b
      · rw [q, k2] at he
        cases he
    · have e := ms_set (w := w') i.1 i.2.1 i.2.2.2.2.2.2.1 w v
      rw [if_pos hv] at e
      refine ⟨_, e, ?_, by rw [qa_up_no _ (by omega), qa_up_hit], fun x hx => ?_⟩
      · have i0 := MI_thr i 0
        have o : ∀ x, x ≠ 78 → qa_up (qa_up m 77 0 0) 78 w v x = qa_up m 77 0 0 x := fun x hx => by
          funext j
          exact qa_up_no _ (fun z => hx z.1)
        generalize qa_up m 77 0 0 = m0 at i0 o
        obtain ⟨i1, i2, i3, i4, i5, i6, i7, i8, i9, i10, i11, i12, i13, i14⟩ := i0
        refine ⟨i1, ?_, by rw [o 79 (by decide)]; exact i3, ?_, MV_fr i5 (o 82 (by decide)) (o 83 (by decide)), by rw [o 83 (by decide)]; exact i6, fun j a b => ?_, by rw [o 84 (by decide)]; exact i8, QD_fr i9 (by rw [o 77 (by decide)]) (o 86 (by decide)), MTx_fr i10 (by rw [o 77 (by decide)]) (o 87 (by decide)), by rw [o 77 (by decide)]; exact i11, fun j a b => by rw [o 88 (by decide)]; exact i12 j a b, Po_fr i13 (by rw [o 77 (by decide)]) (o 90 (by decide)), ?_⟩
        · unfold RM at i2 ⊢
          rw [o 77 (by decide)]; exact i2
        · unfold MU at i4 ⊢
          rw [o 77 (by decide), o 81 (by decide)]; exact i4
        · show _ = if j = w then v else g.2.2.2.2.2.1 j
          by_cases q : j = w
          · rw [if_pos q, q, qa_up_hit]
          · rw [if_neg q, qa_up_no _ (fun z => q z.2)]; exact i7 j a b
        · unfold zcb at i14 ⊢
          rw [o 77 (by decide), o 85 (by decide)]; exact i14
      · funext j
        rw [qa_up_no _ (by omega), qa_up_no _ (by omega)]
  · refine p_thr (e := 2) (code := 1) hG hN (by decide) (by decide) (fun m kd n c s i => ?_) (fun m kd w' i => ?_)
    · have e := cs_set (w := (n, c, s)) i.2.1 i.q.2.2.1 i.q.2.2.2.2.1 w v
      rw [if_neg hv] at e
      exact e
    · have e := ms_set (w := w') i.1 i.2.1 i.2.2.2.2.2.2.1 w v
      rw [if_neg hv] at e
      exact e
theorem p_try {N : Int} {g : zG} (hG : GI N g) (hN : N ≤ 511) {f : List qV → qA → Option qR} {cargs : List qV} {h : List qV → qA → Option qR} {margs : List qV} {hs : List (Nat × Int)} {a : Int} (C : ∀ m kd n c s, CI N g m kd n c s → cTry g.2.1 g.2.2.1 g.2.2.2.2.1 g.1 a m kd n c s 3 (f cargs (m, kd, n, c, s))) (M : ∀ m kd w, MI N g m kd → mTry g.2.1 g.2.2.1 g.1 a m kd w (h margs (m, kd, w))) : PPub N g f cargs h margs hs := by
  refine ⟨g, N + 1, 0, 0, a, GI_mono hG (by omega), by omega, by unfold zpt; omega, Or.inl ⟨rfl, rfl⟩, fun m kd n c s i => ?_, fun m kd w i => ?_⟩
  · obtain ⟨m', kd', n', c', s', e, hS, hf, h65, p1, p2, p3, p4, p5⟩ := C m kd n c s i
    exact ⟨m', kd', n', c', s', e, CI_of i hS rfl rfl (by rw [h65]; exact i.2.2.2.2.2.2.1) (CD_fx i.2.2.1 hf) rfl (fun x hx => hf x (by omega)) (fun x a b => (hf x (by omega)).2) p3 (by omega) (by omega), fun x a b => hf x (by omega), p3, p4, p5⟩
  · obtain ⟨m', e, hU, hQ, hf, h84, h86, h14, h0, hX⟩ := M m kd w i
    have i0 := MI_thr i 0
    have hf' : zfk (qa_up m 77 0 0) m' := ⟨fun c c1 c2 c3 c4 c5 c6 c7 => by
      rw [hf.1 c c1 c2 c3 c4 c5 c6 c7]
      funext j
      rw [qa_up_no _ (fun z => c1 z.1)], fun j j1 j2 j3 j4 j5 => by
      by_cases e0 : j = 0
      · rw [e0, h0, qa_up_hit]
      · rw [hf.2 j e0 j1 j2 j3 j4 j5, qa_up_no _ (fun z => e0 z.2)]⟩
    refine ⟨m', e, MI_of i0 hQ hU hf' rfl rfl rfl (by rw [h84]; exact i.2.2.2.2.2.2.2.1) (QD_fr i.2.2.2.2.2.2.2.2.1 h14 h86) rfl ?_, h0, fun x hx => hf.1 x (by omega) (by omega) (by omega) (by omega) (by omega) (by omega) (by omega)⟩
    have := hX (13000 * N) (by omega) i.2.2.2.2.2.2.2.2.2.2.2.2.2
    rw [show 13000 * (N + 1) = 13000 * N + 13000 by omega]
    exact this
theorem p_ahead {N : Int} {g : zG} (hG : GI N g) (hN : N ≤ 511) (t w : Int) : PPub N g f_X11_ahead [(1, 0), (0, t), (0, w)] f_X12_ahead [(1, 77), (0, t), (0, w)] [(2, 1)] := by
  have e0 := zI_0 hG.1
  have e9 := hG.1.2.2.2.2
  by_cases h : (1 ≤ t ∧ t ≤ 99) ∧ 0 ≤ w ∧ w ≤ 3
  · exact p_try hG hN (fun m kd n c s i => ca_ahead i.1 hG.1.1 (i.ha hG (by omega)) i.2.1 hG.2.2.2.2.1 h.1 h.2 (by omega) (by omega)) (fun m kd w' i => ma_ahead i.1 i.2.1 i.2.2.1 hG.1.1 i.2.2.2.1 hG.hU (i.ha hG (by omega)) i.2.2.2.2.2.2.1 hG.2.2.2.2.1 h.1 h.2 (by omega))
  · exact p_thr (e := 2) (code := 1) hG hN (by decide) (by decide) (fun m kd n c s i => ca_aheadX (w := (n, c, s)) h) (fun m kd w' i => ma_aheadX (w := w') i.1 i.2.1 h)
theorem p_losesIn {N : Int} {g : zG} (hG : GI N g) (hN : N ≤ 511) (r t : Int) : PPub N g f_X11_losesIn [(1, 0), (0, r), (0, t)] f_X12_losesIn [(1, 77), (0, r), (0, t)] [(1, 1), (2, 2)] := by
  have e0 := zI_0 hG.1
  have e9 := hG.1.2.2.2.2
  by_cases hr : zRl g.1 r
  · by_cases ht : 1 ≤ t ∧ t ≤ 200
    · exact p_try hG hN (fun m kd n c s i => ca_losesIn i.1 hG.1.1 (i.ha hG (by omega)) i.2.1 hG.2.2.2.2.1 hr ht (by omega) (by omega)) (fun m kd w' i => ma_losesIn i.1 i.2.1 i.2.2.1 hG.1.1 i.2.2.2.1 hG.hU (i.ha hG (by omega)) i.2.2.2.2.2.2.1 hG.2.2.2.2.1 hr ht (by omega))
    · exact p_thr (e := 2) (code := 2) hG hN (by decide) (by decide) (fun m kd n c s i => ca_losesX2 i.1 hG.1.1 (i.ha hG (by omega)) hr ht) (fun m kd w' i => ma_losesX2 (w := w') i.1 i.2.1 i.2.2.1 hr ht)
  · exact p_thr (e := 1) (code := 1) hG hN (by decide) (by decide) (fun m kd n c s i => ca_losesX1 i.1 hG.1.1 (i.ha hG (by omega)) hr) (fun m kd w' i => ma_losesX1 (w := w') i.1 i.2.1 i.2.2.1 hr)
theorem p_wouldCut {N : Int} {g : zG} (hG : GI N g) (hN : N ≤ 511) (b t : Int) : PPub N g f_X11_wouldCut [(1, 0), (0, b), (0, t)] f_X12_wouldCut [(1, 77), (0, b), (0, t)] [(1, 1), (2, 2)] := by
  have e0 := zI_0 hG.1
  by_cases hb : zBl g.1 b
  · have e := zI_end hG.1 hb
    by_cases ht : 1 ≤ t ∧ t ≤ 9
    · exact p_try hG hN (fun m kd n c s i => ca_wouldCut i.1 hG.1.1 (i.ha hG (by omega)) i.2.1 hG.2.2.2.2.1 hb ht (by omega) (by omega)) (fun m kd w' i => ma_wouldCut i.1 i.2.1 i.2.2.1 hG.1.1 i.2.2.2.1 hG.hU (i.ha hG (by omega)) i.2.2.2.2.2.2.1 hG.2.2.2.2.1 hb ht (by omega) (by omega))
    · exact p_thr (e := 2) (code := 2) hG hN (by decide) (by decide) (fun m kd n c s i => ca_wouldX2 i.1 hG.1.1 (i.ha hG (by omega)) hb ht) (fun m kd w' i => ma_wouldX2 (w := w') i.1 i.2.1 i.2.2.1 hb ht)
  · exact p_thr (e := 1) (code := 1) hG hN (by decide) (by decide) (fun m kd n c s i => ca_wouldX1 i.1 hG.1.1 (i.ha hG (by omega)) hb) (fun m kd w' i => ma_wouldX1 (w := w') i.1 i.2.1 i.2.2.1 hb)
theorem p_appendText {N : Int} {g : zG} (hG : GI N g) (hN : N ≤ 511) (v : Int) : PPub N g f_X11_appendText [(1, 0), (0, v)] f_X12_appendText [(1, 77), (0, v)] [(3, 1)] := by
  have C := fun m kd n c s (i : CI N g m kd n c s) => ca_appendText (w := (n, c, s)) i.2.2.2.1 i.2.2.2.2.1 i.q.2.2.1 i.1.z.2.2.2.2.1 v
  have M := fun m kd w (i : MI N g m kd) => ma_appendText (w := w) i.1 i.2.1 i.2.2.2.2.2.2.2.2.2.1 v
  have hX := hG.2.2.2.2.2.2.2.1
  by_cases h : g.2.2.2.2.2.2.2.2.1.2.1 ≤ 696
  · refine ⟨gX g (tAp g.2.2.2.2.2.2.2.2.1.1 g.2.2.2.2.2.2.2.2.1.2.1 v, g.2.2.2.2.2.2.2.2.1.2.1 + 4, g.2.2.2.2.2.2.2.2.1.2.2.1, g.2.2.2.2.2.2.2.2.1.2.2.2), N, 0, 0, g.2.2.2.2.2.2.2.2.1.2.1 + 4, GI_X hG ⟨by show 0 ≤ g.2.2.2.2.2.2.2.2.1.2.1 + 4; omega, by show g.2.2.2.2.2.2.2.2.1.2.1 + 4 ≤ 700; omega⟩ (tAp_8 hX.2), Int.le_refl _, by unfold zpt; show 4 * N + (g.2.2.2.2.2.2.2.2.1.2.1 + 4) ≤ _; omega, Or.inl ⟨rfl, rfl⟩, fun m kd n c s i => ?_, fun m kd w i => ?_⟩
    · obtain ⟨m', e, a1, a2⟩ := (C m kd n c s i).1 h
      exact ⟨m', kd, n, c, s, e, CI_X i (fun x x1 x2 _ _ => a2.1 x x1 x2) a1 (by rw [a2.2 5 (by decide)]; exact i.2.2.2.2.2.1.1) (by rw [a2.2 6 (by decide)]; exact i.2.2.2.2.2.1.2), fun x a b => ⟨a2.1 x (by omega) (by omega), rfl⟩, Nat.le_refl _, Nat.le_refl _, Nat.le_refl _⟩
    · obtain ⟨m', e, a1, a2, a3⟩ := (M m kd w i).1 h
      exact ⟨m', e, MI_X i (fun x x1 x2 _ => a2.1 x x1 x2) (fun j hj => a2.2 j (by omega) (by omega)) a1 (by rw [a2.2 21 (by decide) (by decide)]; exact i.2.2.2.2.2.2.2.2.2.2.1.1) (by rw [a2.2 22 (by decide) (by decide)]; exact i.2.2.2.2.2.2.2.2.2.2.1.2), a3, fun x hx => a2.1 x (by omega) (by omega)⟩
  · exact p_thr (e := 3) (code := 1) hG hN (by decide) (by decide) (fun m kd n c s i => (C m kd n c s i).2 h) (fun m kd w i => (M m kd w i).2 h)
theorem p_truncateText {N : Int} {g : zG} (hG : GI N g) (hN : N ≤ 511) (v : Int) : PPub N g f_X11_truncateText [(1, 0), (0, v)] f_X12_truncateText [(1, 77), (0, v)] [(2, 1)] := by
  have C := fun m kd n c s (i : CI N g m kd n c s) => ca_truncateText (w := (n, c, s)) i.2.2.2.1 i.2.2.2.2.1 i.q.2.2.1 i.1.z.2.2.2.2.1 v
  have M := fun m kd w (i : MI N g m kd) => ma_truncateText (w := w) i.1 i.2.1 i.2.2.2.2.2.2.2.2.2.1 v
  have hX := hG.2.2.2.2.2.2.2.1
  by_cases h : 0 ≤ v ∧ v ≤ g.2.2.2.2.2.2.2.2.1.2.1
  · refine ⟨gX g (g.2.2.2.2.2.2.2.2.1.1, v, g.2.2.2.2.2.2.2.2.1.2.2.1, g.2.2.2.2.2.2.2.2.1.2.2.2), N, 0, 0, v, GI_X hG ⟨h.1, by show v ≤ 700; omega⟩ hX.2, Int.le_refl _, by unfold zpt; show 4 * N + v ≤ _; omega, Or.inl ⟨rfl, rfl⟩, fun m kd n c s i => ?_, fun m kd w i => ?_⟩
    · obtain ⟨e, a1, a2⟩ := (C m kd n c s i).1 h
      exact ⟨_, kd, n, c, s, e, CI_X i (fun x x1 x2 _ _ => a2.1 x x1 x2) a1 (by rw [a2.2 5 (by decide)]; exact i.2.2.2.2.2.1.1) (by rw [a2.2 6 (by decide)]; exact i.2.2.2.2.2.1.2), fun x a b => ⟨a2.1 x (by omega) (by omega), rfl⟩, Nat.le_refl _, Nat.le_refl _, Nat.le_refl _⟩
    · obtain ⟨m', e, a1, a2, a3⟩ := (M m kd w i).1 h
      exact ⟨m', e, MI_X i (fun x x1 x2 _ => a2.1 x x1 x2) (fun j hj => a2.2 j (by omega) (by omega)) a1 (by rw [a2.2 21 (by decide) (by decide)]; exact i.2.2.2.2.2.2.2.2.2.2.1.1) (by rw [a2.2 22 (by decide) (by decide)]; exact i.2.2.2.2.2.2.2.2.2.2.1.2), a3, fun x hx => a2.1 x (by omega) (by omega)⟩
  · exact p_thr (e := 2) (code := 1) hG hN (by decide) (by decide) (fun m kd n c s i => (C m kd n c s i).2 h) (fun m kd w i => (M m kd w i).2 h)
