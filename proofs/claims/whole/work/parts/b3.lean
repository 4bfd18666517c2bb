def gU (g : zG) (A' : zA) (um' : Int) : zG := (A', um', g.2.2)
theorem p_undo {N : Int} {g : zG} (hG : GI N g) (hN : N ≤ 511) : PPub N g f_X11_undo [(1, 0)] f_X12_undo [(1, 77)] [] := by
  have C := fun m kd n c s (i : CI N g m kd n c s) => ca_undo (w := (n, c, s)) i.1 hG.hU
  have M := fun m kd w (i : MI N g m kd) => ma_undo (w := w) i.1 i.2.1 i.2.2.2.1 hG.hU
  by_cases h : g.2.1 = 0
  · refine ⟨g, N, 0, 0, -1, hG, Int.le_refl _, by omega, Or.inl ⟨rfl, rfl⟩, fun m kd n c s i => ⟨m, kd, n, c, s, (C m kd n c s i).1 h, i, fun _ _ _ => ⟨rfl, rfl⟩, Nat.le_refl _, Nat.le_refl _, Nat.le_refl _⟩, fun m kd w i => ⟨_, (M m kd w i).1 h, MI_thr i 0, qa_up_hit _ _ _ _, fun x hx => ?_⟩⟩
    funext j
    exact qa_up_no _ (by omega)
  · have h0 : 0 < g.2.1 := by have := hG.2.1; omega
    obtain ⟨g1, g2, g3, g4⟩ := GI_mono (N' := N + 1) hG (by omega)
    refine ⟨gU g (g.2.2.1 (g.2.1 - 1)) (g.2.1 - 1), N + 1, 0, 0, g.2.1 - 1, ⟨g3 _ (by omega) (by omega), ⟨by show 0 ≤ g.2.1 - 1; omega, by show g.2.1 - 1 ≤ 8; omega⟩, fun k a b => g3 k a (by have : k < g.2.1 - 1 := b; omega), g4⟩, by omega, by unfold zpt; show 4 * (N + 1) + g.2.2.2.2.2.2.2.2.1.2.1 ≤ _; omega, Or.inl ⟨rfl, rfl⟩, fun m kd n c s i => ?_, fun m kd w i => ?_⟩
    · obtain ⟨m', e, hS, hf, h65, hz⟩ := (C m kd n c s i).2 h0
      exact ⟨m', kd, n, c, s, e, CI_of i hS rfl rfl (by rw [h65]; exact i.2.2.2.2.2.2.1) (CD_fx i.2.2.1 hf) rfl (fun x hx => hf x (by omega)) (fun x a b => rfl) (Nat.le_refl _) (by omega) (by omega), fun x a b => hf x (by omega), Nat.le_refl _, Nat.le_refl _, Nat.le_refl _⟩
    · obtain ⟨m', e, hU, hQ, hf⟩ := (M m kd w i).2 h0
      have i0 := MI_thr i 0
      have hf' : zfk (qa_up m 77 0 0) m' := ⟨fun c c1 c2 _ _ _ _ _ => by
        rw [hf.1 c c1 c2]
        funext j
        rw [qa_up_no _ (fun z => c1 z.1)], fun j j1 _ _ _ _ => by
        by_cases e0 : j = 0
        · rw [e0, hf.2.2, qa_up_hit]
        · rw [hf.2.1 j e0 j1, qa_up_no _ (fun z => e0 z.2)]⟩
      have i14 := i.2.2.2.2.2.2.2.2.2.2.2.2.2
      refine ⟨m', e, MI_of i0 hQ hU hf' rfl rfl rfl (by rw [hf.1 84 (by decide) (by decide)]; exact i.2.2.2.2.2.2.2.1) (QD_fr i.2.2.2.2.2.2.2.2.1 (hf.2.1 14 (by decide) (by decide)) (hf.1 86 (by decide) (by decide))) rfl ?_, hf.2.2, fun x hx => hf.1 x (by omega) (by omega)⟩
      refine zcb_mono (X := 13000 * N) ?_ (by omega)
      unfold zcb at i14 ⊢
      rw [hf.2.1 9 (by decide) (by decide), hf.2.1 10 (by decide) (by decide), hf.2.1 11 (by decide) (by decide), hf.1 85 (by decide) (by decide)]
      exact i14
def PPubV (N : Int) (g : zG) (f : List qV → qA → Option qR) (cargs : List qV) (h : List qV → qA → Option qR) (margs : List qV) (hs : List (Nat × Int)) : Prop := ∃ g' N' e code, GI N' g' ∧ N ≤ N' ∧ zpt N' g' ≤ zpt N g + 4 ∧ ((e = 0 ∧ code = 0) ∨ (e ≠ 0 ∧ (e, code) ∈ hs)) ∧ (∀ m kd n c s, CI N g m kd n c s → ∃ m' kd' n' c' s', f cargs (m, kd, n, c, s) = some ((if e = 0 then .inl none else .inr e), (m', kd', n', c', s')) ∧ CI N' g' m' kd' n' c' s' ∧ (∀ x, 77 ≤ x → x ≤ 92 → m' x = m x ∧ kd' x = kd x) ∧ n ≤ n' ∧ c ≤ c' ∧ s ≤ s') ∧ (∀ m kd w, MI N g m kd → ∃ m', h margs (m, kd, w) = some (.inl none, (m', kd, w)) ∧ MI N' g' m' kd ∧ m' 77 0 = code ∧ ∀ x, x < 77 ∨ 90 < x → m' x = m x)
theorem p_thrV {N : Int} {g : zG} (hG : GI N g) (hN : N ≤ 511) {f : List qV → qA → Option qR} {cargs : List qV} {h : List qV → qA → Option qR} {margs : List qV} {hs : List (Nat × Int)} {e : Nat} {code : Int} (he : e ≠ 0) (hh : (e, code) ∈ hs) (C : ∀ m kd n c s, CI N g m kd n c s → f cargs (m, kd, n, c, s) = some (.inr e, (m, kd, n, c + 1, s + 6))) (M : ∀ m kd w, MI N g m kd → h margs (m, kd, w) = some (.inl none, (qa_up m 77 0 code, kd, w))) : PPubV N g f cargs h margs hs := by
  refine ⟨g, N + 1, e, code, GI_mono hG (by omega), by omega, by unfold zpt; omega, Or.inr ⟨he, hh⟩, fun m kd n c s i => ?_, fun m kd w i => ?_⟩
  · rw [if_neg he]
    exact ⟨m, kd, n, c + 1, s + 6, C m kd n c s i, CI_thr i, fun _ _ _ => ⟨rfl, rfl⟩, Nat.le_refl _, by omega, by omega⟩
  · refine ⟨_, M m kd w i, MI_mono (MI_thr i code) (by omega), qa_up_hit _ _ _ _, fun x hx => ?_⟩
    funext j
    exact qa_up_no _ (by omega)
theorem p_restore {N : Int} {g : zG} (hG : GI N g) (hN : N ≤ 511) (i : Int) : PPubV N g f_X11_restore [(1, 0), (0, i)] f_X12_restore [(1, 77), (0, i)] [(2, 1), (3, 2)] := by
  have C := fun m kd n c s (h : CI N g m kd n c s) => ca_restore (w := (n, c, s)) (i := i) (M := 512 * N) h.1 (fun a b z => ((hG.2.2.2.1 i a b).2 ((h.2.2.2.2.2.2.2.1 i a b).mp z)).1)
  have M := fun m kd w (h : MI N g m kd) => ma_restore (w := w) (i := i) (M := 512 * N) (U := g.2.2.1) h.1 h.2.1 h.2.2.2.2.1 (fun a b z => ((hG.2.2.2.1 i a b).2 (by rw [← h.2.2.2.2.2.1 i a b]; exact z)).1)
  by_cases hi : 0 ≤ i ∧ i ≤ 1
  · obtain ⟨v01, vI⟩ := hG.2.2.2.1 i hi.1 (by omega)
    by_cases hv : g.2.2.2.1 i = 1
    · obtain ⟨g1, g2, g3, g4, g5⟩ := GI_mono (N' := N + 1) hG (by omega)
      refine ⟨gU g (g.2.2.2.2.1 i) 0, N + 1, 0, 0, ⟨(g4 i hi.1 (by omega)).2 hv, ⟨Int.le_refl _, (show (0 : Int) ≤ 8 by decide)⟩, fun k a b => by have : k < 0 := b; omega, g4, g5⟩, by omega, by unfold zpt; show 4 * (N + 1) + g.2.2.2.2.2.2.2.2.1.2.1 ≤ _; omega, Or.inl ⟨rfl, rfl⟩, fun m kd n c s h => ?_, fun m kd w h => ?_⟩
      · obtain ⟨m', e, hS, hf, h65, hz⟩ := (C m kd n c s h).2.2 hi ((h.2.2.2.2.2.2.2.1 i hi.1 (by omega)).mpr hv)
        exact ⟨m', kd, n, c, s, e, CI_of h hS rfl rfl (by rw [h65]; exact h.2.2.2.2.2.2.1) (CD_fx h.2.2.1 hf) rfl (fun x hx => hf x (by omega)) (fun x a b => rfl) (Nat.le_refl _) (by omega) (by omega), fun x a b => hf x (by omega), Nat.le_refl _, Nat.le_refl _, Nat.le_refl _⟩
      · obtain ⟨m', e, hU, hQ, hf⟩ := (M m kd w h).2.2 hi (by rw [h.2.2.2.2.2.1 i hi.1 (by omega)]; exact hv)
        have i0 := MI_thr h 0
        have hf' : zfk (qa_up m 77 0 0) m' := ⟨fun c c1 c2 _ _ _ _ _ => by
          rw [hf.1 c c1 c2]
          funext j
          rw [qa_up_no _ (fun z => c1 z.1)], fun j j1 _ _ _ _ => by
          by_cases e0 : j = 0
          · rw [e0, hf.2.2, qa_up_hit]
          · rw [hf.2.1 j e0 j1, qa_up_no _ (fun z => e0 z.2)]⟩
        have i14 := h.2.2.2.2.2.2.2.2.2.2.2.2.2
        refine ⟨m', e, MI_of i0 hQ hU hf' rfl rfl rfl (by rw [hf.1 84 (by decide) (by decide)]; exact h.2.2.2.2.2.2.2.1) (QD_fr h.2.2.2.2.2.2.2.2.1 (hf.2.1 14 (by decide) (by decide)) (hf.1 86 (by decide) (by decide))) rfl ?_, hf.2.2, fun x hx => hf.1 x (by omega) (by omega)⟩
        refine zcb_mono (X := 13000 * N) ?_ (by omega)
        unfold zcb at i14 ⊢
        rw [hf.2.1 9 (by decide) (by decide), hf.2.1 10 (by decide) (by decide), hf.2.1 11 (by decide) (by decide), hf.1 85 (by decide) (by decide)]
        exact i14
    · have hv0 : g.2.2.2.1 i = 0 := by omega
      exact p_thrV (e := 3) (code := 2) hG hN (by decide) (by decide) (fun m kd n c s h => (C m kd n c s h).2.1 hi (by
        apply Classical.byContradiction
        intro z
        exact hv ((h.2.2.2.2.2.2.2.1 i hi.1 (by omega)).mp z))) (fun m kd w h => (M m kd w h).2.1 hi (by rw [h.2.2.2.2.2.1 i hi.1 (by omega)]; exact hv0))
  · exact p_thrV (e := 2) (code := 1) hG hN (by decide) (by decide) (fun m kd n c s h => (C m kd n c s h).1 hi) (fun m kd w h => (M m kd w h).1 hi)
def gV (g : zG) (i : Int) : zG := (g.1, g.2.1, g.2.2.1, (fun j => if j = i then 1 else g.2.2.2.1 j), zSv g.2.2.2.2.1 i g.1, g.2.2.2.2.2)
theorem p_save {N : Int} {g : zG} (hG : GI N g) (hN : N ≤ 511) (i : Int) : PPubV N g f_X11_save [(1, 0), (0, i)] f_X12_save [(1, 77), (0, i)] [(2, 1)] := by
  have C := fun m kd n c s (h : CI N g m kd n c s) => ca_save (c := c) (s := s) (i := i) h.1 hG.1.1
  have M := fun m kd w (h : MI N g m kd) => ma_save (w := w) (i := i) h.1 h.2.1 h.2.2.1 hG.1.1 h.2.2.2.2.1 (fun k a b z => ((hG.2.2.2.1 k a b).2 (by rw [← h.2.2.2.2.2.1 k a b]; exact z)).1)
  by_cases hi : 0 ≤ i ∧ i ≤ 1
  · obtain ⟨g1, g2, g3, g4, g5⟩ := GI_mono (N' := N + 1) hG (by omega)
    refine ⟨gV g i, N + 1, 0, 0, ⟨g1, g2, g3, fun j a b => ?_, g5⟩, by omega, by unfold zpt; show 4 * (N + 1) + g.2.2.2.2.2.2.2.2.1.2.1 ≤ _; omega, Or.inl ⟨rfl, rfl⟩, fun m kd n c s h => ?_, fun m kd w h => ?_⟩
    · show ((if j = i then (1 : Int) else g.2.2.2.1 j) = 0 ∨ (if j = i then (1 : Int) else g.2.2.2.1 j) = 1) ∧ ((if j = i then (1 : Int) else g.2.2.2.1 j) = 1 → zI (N + 1) (if j = i then g.1 else g.2.2.2.2.1 j))
      by_cases e : j = i
      · rw [if_pos e, if_pos e]; exact ⟨Or.inr rfl, fun _ => g1⟩
      · rw [if_neg e, if_neg e]; exact g4 j a b
    · obtain ⟨m', kd', n', c', s', e, hS, hf, h65, p1, p2, p3, p4, p5, o63, h63⟩ := (C m kd n c s h).2 hi
      refine ⟨m', kd', n', c', s', e, ?_, fun x a b => hf x (by omega), p3, p4, p5⟩
      obtain ⟨i1, i2, i3, i4, i5, i6, i7, i8, i9, V, cap, P, q1, q2⟩ := h
      have z := hS.z
      refine ⟨hS, ?_, CD_page i3 (fun x a b => hf x (by omega)) (fun e he => hf e (by simp [he])), ?_, MSc_fr i5 (hf 71 (by omega)).1 (hf 72 (by omega)).1, by rw [(hf 71 (by omega)).1]; exact i6, by rw [h65]; exact i7, fun j a b => ?_, fun x a b => by rw [(hf x (by omega)).2]; exact i9 x a b, V, cap, Pg_fr P (fun x hx => hf x (by
        rcases hx with e | e | e
        · omega
        · omega
        · simp [e.2])) p3 z.2.1, by omega, by omega⟩
      · obtain ⟨y1, y2, y3, y4⟩ := i2
        obtain ⟨a1, b1⟩ := hf 1 (by omega)
        obtain ⟨a2, b2⟩ := hf 2 (by omega)
        exact ⟨by rw [b1]; exact y1, by rw [a1]; exact y2, by rw [b2]; exact y3, by rw [a2]; exact y4⟩
      · obtain ⟨k1, k2, k3, k4⟩ := i4
        exact ⟨by rw [(hf 71 (by omega)).2]; exact k1, by rw [(hf 72 (by omega)).2]; exact k2, by rw [(hf 73 (by omega)).2]; exact k3, by rw [(hf 74 (by omega)).2]; exact k4⟩
      · show m' 63 j ≠ -1 ↔ (if j = i then (1 : Int) else g.2.2.2.1 j) = 1
        by_cases e : j = i
        · rw [if_pos e, e]; exact ⟨fun _ => rfl, fun _ => h63⟩
        · rw [if_neg e, o63 j e]; exact i8 j a b
    · obtain ⟨m', e, hV, o, o77, h0, h83⟩ := (M m kd w h).2 hi
      refine ⟨m', e, MI_mono (N := N) ?_ (by omega), h0, fun x hx => o x (by omega) (by omega) (by omega)⟩
      obtain ⟨i1, i2, i3, i4, i5, i6, i7, i8, i9, i10, i11, i12, i13, i14⟩ := h
      have o' := fun x (a : x ≠ 77 ∧ x ≠ 82 ∧ x ≠ 83) => o x a.1 a.2.1 a.2.2
      refine ⟨i1, RM_16 i2 (fun i a _ => o77 i a), by rw [o' 79 (by decide)]; exact i3, ?_, hV, fun j a b => ?_, QS_fr i7 (o' 78 (by decide)), by rw [o' 84 (by decide)]; exact i8, QD_fr i9 (o77 14 (by decide)) (o' 86 (by decide)), MTx_fr i10 (o77 16 (by decide)) (o' 87 (by decide)), by rw [o77 21 (by decide), o77 22 (by decide)]; exact i11, fun i a b => by rw [o' 88 (by decide)]; exact i12 i a b, Po_fr i13 (o77 27 (by decide)) (o' 90 (by decide)), ?_⟩
      · unfold MU at i4 ⊢
        rw [o77 5 (by decide), o' 81 (by decide)]
        exact i4
      · rw [h83 j, i6 j a b]; rfl
      · unfold zcb at i14 ⊢
        rw [o77 9 (by decide), o77 10 (by decide), o77 11 (by decide), o' 85 (by decide)]
        exact i14
  · exact p_thrV (e := 2) (code := 1) hG hN (by decide) (by decide) (fun m kd n c s h => (C m kd n c s h).1 hi) (fun m kd w h => (M m kd w h).1 hi)
