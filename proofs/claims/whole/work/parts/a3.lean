theorem CI_readD {N : Int} {g : zG} {m : Int → Int → Int} {kd : Int → Nat × Int} {n c s : Nat} (h : CI N g m kd n c s) {r it : Int} {res : Option qR} (hd : cRead g.2.1 g.2.2.1 g.2.2.2.2.1 g.1 r it m kd n c s 3 res) : ∃ m' kd' n' c' s', res = some (.inl (some (0, zTk g.1 r it + zHas g.1 r)), (m', kd', n', c', s')) ∧ CI (N + 1) (gRead g (zRead g.1 r it) (zHas g.1 r, g.1.2.2.1 r 2, zTk g.1 r it, (fun j => g.1.2.2.1 r (9 + j)), (fun i j => g.1.2.2.2 (g.1.2.2.1 r 1) (g.1.2.2.1 r 2 + i) j))) m' kd' n' c' s' ∧ (∀ x, 71 ≤ x → x ≤ 92 → m' x = m x ∧ kd' x = kd x) ∧ n ≤ n' ∧ c ≤ c' ∧ s ≤ s' := by
  obtain ⟨m', kd', n', c', s', e, hS, hf, ha, p1, p2, p3, p4, p5, hD⟩ := hd
  have kold := h.2.2.1.1
  have knew := hD.1
  refine ⟨m', kd', n', c', s', e, CI_of h hS rfl rfl (fun i a b => ?_) hD rfl (fun x hx => hf x (by omega)) (fun x a b => ?_) p3 (by omega) (by omega), fun x a b => hf x (by omega), p3, p4, p5⟩
  · rw [ha]
    show _ = zac g.2.2.2.2.2.2.1 0 i
    unfold zac
    by_cases q : i = 0
    · rw [if_pos q, if_pos q, q, h.2.2.2.2.2.2.1 0 (by decide) (by decide)]
    · rw [if_neg q, if_neg q]; exact h.2.2.2.2.2.2.1 i a b
  · obtain ⟨o1, o2, o3, o4⟩ := kold
    obtain ⟨w1, w2, w3, w4⟩ := knew
    have : x = 67 ∨ x = 68 ∨ x = 69 ∨ x = 70 := by omega
    rcases this with rfl | rfl | rfl | rfl
    · rw [o1, w1]
    · rw [o2, w2]
    · rw [o3, w3]
    · rw [o4, w4]
theorem CI_mono {N N' : Int} {g : zG} {m : Int → Int → Int} {kd : Int → Nat × Int} {n c s : Nat} (h : CI N g m kd n c s) (hN : N ≤ N') : CI N' g m kd n c s := by
  obtain ⟨i1, i2, i3, i4, i5, i6, i7, i8, i9, V, cap, P, p1, p2⟩ := h
  exact ⟨i1, i2, i3, i4, i5, i6, i7, i8, i9, V, cap, P, by omega, by omega⟩
theorem CI_thr {N : Int} {g : zG} {m : Int → Int → Int} {kd : Int → Nat × Int} {n c s : Nat} (h : CI N g m kd n c s) : CI (N + 1) g m kd n (c + 1) (s + 6) := by
  obtain ⟨i1, i2, i3, i4, i5, i6, i7, i8, i9, V, cap, P, p1, p2⟩ := h
  exact ⟨i1, i2, i3, i4, i5, i6, i7, i8, i9, V, cap, P, by push_cast; omega, by push_cast; omega⟩
theorem CI_m {N : Int} {g : zG} {m m' : Int → Int → Int} {kd : Int → Nat × Int} {n c s : Nat} (h : CI N g m kd n c s) (hf : ∀ x, x < 77 ∨ 92 < x → m' x = m x) : CI N g m' kd n c s := by
  obtain ⟨i1, i2, i3, i4, i5, i6, i7, i8, i9, V, cap, P, p1, p2⟩ := h
  have z := i1.z
  obtain ⟨o1, o2, o3⟩ := CS_out (m' := m') i1 (fun c hc => hf c (by omega)) i9
  refine ⟨o1, ?_, CD_page i3 (fun x a b => ⟨hf x (by omega), rfl⟩) (fun e he => ⟨hf e ?_, rfl⟩), i4, MSc_fr i5 (hf 71 (by omega)) (hf 72 (by omega)), by rw [hf 71 (by omega)]; exact i6, by rw [hf 65 (by omega)]; exact i7, by rw [hf 63 (by omega)]; exact i8, i9, V, cap, Pg_fr P (fun x hx => ⟨hf x (by omega), rfl⟩) (Nat.le_refl _) z.2.1, by rw [o3]; exact p1, by rw [o3]; exact p2⟩
  · obtain ⟨y1, y2, y3, y4⟩ := i2
    exact ⟨y1, by rw [hf 1 (by omega)]; exact y2, y3, by rw [hf 2 (by omega)]; exact y4⟩
  · apply Classical.byContradiction
    intro hh
    exact i9 e (by omega) (by omega) he
theorem MV_fr {SV : Int → zA} {m m' : Int → Int → Int} (h : MV SV m) (h82 : m' 82 = m 82) (h83 : m' 83 = m 83) : MV SV m' := by
  unfold MV at h ⊢
  rw [h82, h83]
  exact h
theorem MTx_fr {T : Int → Int} {n : Int} {m m' : Int → Int → Int} (h : MTx T n m) (h77 : m' 77 16 = m 77 16) (h87 : m' 87 = m 87) : MTx T n m' := by
  unfold MTx at h ⊢
  rw [h77, h87]
  exact h
theorem Po_fr {l : List Int} {m m' : Int → Int → Int} (h : Po l m) (h77 : m' 77 27 = m 77 27) (h90 : m' 90 = m 90) : Po l m' := by
  unfold Po at h ⊢
  rw [h77, h90]
  exact h
theorem QD_fr {h p cn : Int} {sm : Int → Int} {en : Int → Int → Int} {m m' : Int → Int → Int} (hD : QD h p cn sm en m) (h77 : m' 77 14 = m 77 14) (h86 : m' 86 = m 86) : QD h p cn sm en m' := by
  unfold QD at hD ⊢
  rw [h77, h86]
  exact hD
theorem QS_fr {st : Int → Int} {m m' : Int → Int → Int} (h : QS st m) (h78 : m' 78 = m 78) : QS st m' := by
  unfold QS at h ⊢
  rw [h78]
  exact h
theorem zcb_mn2 {m : Int → Int → Int} {X Y : Int} (h : zcb m X) (hX : X ≤ Y) : zcb m Y := by
  obtain ⟨a, b, c, d⟩ := h
  exact ⟨by omega, by omega, by omega, fun r r1 r2 => by have := d r r1 r2; omega⟩
theorem MI_mono {N N' : Int} {g : zG} {m : Int → Int → Int} {kd : Int → Nat × Int} (h : MI N g m kd) (hN : N ≤ N') : MI N' g m kd := by
  obtain ⟨i1, i2, i3, i4, i5, i6, i7, i8, i9, i10, i11, i12, i13, i14⟩ := h
  exact ⟨i1, i2, i3, i4, i5, i6, i7, i8, i9, i10, i11, i12, i13, zcb_mn2 i14 (by omega)⟩
theorem MI_fr {N : Int} {g : zG} {m m' : Int → Int → Int} {kd kd' : Int → Nat × Int} (h : MI N g m kd) (hf : ∀ x, 78 ≤ x → x ≤ 90 → m' x = m x) (h77 : ∀ i, i ≠ 0 → m' 77 i = m 77 i) (hk : ∀ x, 77 ≤ x → x ≤ 90 → kd' x = kd x) : MI N g m' kd' := by
  obtain ⟨i1, i2, i3, i4, i5, i6, i7, i8, i9, i10, i11, i12, i13, i14⟩ := h
  obtain ⟨k77, k78, k79, k80, k81, k82, k83, k84, k85, k86, k87, k88, k89, k90⟩ := i1
  refine ⟨⟨by rw [hk _ (by decide) (by decide)]; exact k77, by rw [hk _ (by decide) (by decide)]; exact k78, by rw [hk _ (by decide) (by decide)]; exact k79, by rw [hk _ (by decide) (by decide)]; exact k80, by rw [hk _ (by decide) (by decide)]; exact k81, by rw [hk _ (by decide) (by decide)]; exact k82, by rw [hk _ (by decide) (by decide)]; exact k83, by rw [hk _ (by decide) (by decide)]; exact k84, by rw [hk _ (by decide) (by decide)]; exact k85, by rw [hk _ (by decide) (by decide)]; exact k86, by rw [hk _ (by decide) (by decide)]; exact k87, by rw [hk _ (by decide) (by decide)]; exact k88, by rw [hk _ (by decide) (by decide)]; exact k89, by rw [hk _ (by decide) (by decide)]; exact k90⟩, RM_16 i2 (fun i a _ => h77 i a), by rw [hf 79 (by decide) (by decide)]; exact i3, ?_, MV_fr i5 (hf 82 (by decide) (by decide)) (hf 83 (by decide) (by decide)), by rw [hf 83 (by decide) (by decide)]; exact i6, QS_fr i7 (hf 78 (by decide) (by decide)), by rw [hf 84 (by decide) (by decide)]; exact i8, QD_fr i9 (h77 14 (by decide)) (hf 86 (by decide) (by decide)), MTx_fr i10 (h77 16 (by decide)) (hf 87 (by decide) (by decide)), by rw [h77 21 (by decide), h77 22 (by decide)]; exact i11, fun i a b => by rw [hf 88 (by decide) (by decide)]; exact i12 i a b, Po_fr i13 (h77 27 (by decide)) (hf 90 (by decide) (by decide)), ?_⟩
  · unfold MU at i4 ⊢
    rw [h77 5 (by decide), hf 81 (by decide) (by decide)]
    exact i4
  · unfold zcb at i14 ⊢
    rw [h77 9 (by decide), h77 10 (by decide), h77 11 (by decide), hf 85 (by decide) (by decide)]
    exact i14
theorem MI_of {N : Int} {g g' : zG} {m m' : Int → Int → Int} {kd : Int → Nat × Int} (h : MI N g m kd) (hQ : QR g'.1 (m' 79)) (hU : MU g'.2.1 g'.2.2.1 m') (hf : zfk m m') (hsv : g'.2.2.2.1 = g.2.2.2.1) (hSV : g'.2.2.2.2.1 = g.2.2.2.2.1) (hst : g'.2.2.2.2.2.1 = g.2.2.2.2.2.1) (hac : ∀ i, 0 ≤ i → i ≤ 10 → m' 84 i = g'.2.2.2.2.2.2.1 i) (hD : QD g'.2.2.2.2.2.2.2.1.1 g'.2.2.2.2.2.2.2.1.2.1 g'.2.2.2.2.2.2.2.1.2.2.1 g'.2.2.2.2.2.2.2.1.2.2.2.1 g'.2.2.2.2.2.2.2.1.2.2.2.2 m') (hr : g'.2.2.2.2.2.2.2.2 = g.2.2.2.2.2.2.2.2) (hX : zcb m' (13000 * (N + 1))) : MI (N + 1) g' m' kd := by
  obtain ⟨i1, i2, i3, i4, i5, i6, i7, i8, i9, i10, i11, i12, i13, i14⟩ := h
  have o : ∀ x, x = 78 ∨ x = 82 ∨ x = 83 ∨ x = 87 ∨ x = 88 ∨ x = 90 → m' x = m x := fun x hx => hf.1 x (by omega) (by omega) (by omega) (by omega) (by omega) (by omega) (by omega)
  refine ⟨i1, zfk_RM hf i2, hQ, hU, ?_, ?_, ?_, hac, hD, ?_, ?_, fun i a b => by rw [o 88 (by decide)]; exact i12 i a b, ?_, hX⟩
  · rw [hSV]; exact MV_fr i5 (o 82 (by decide)) (o 83 (by decide))
  · rw [hsv, o 83 (by decide)]; exact i6
  · rw [hst]; exact QS_fr i7 (o 78 (by decide))
  · rw [hr]; exact MTx_fr i10 (hf.2 16 (by decide) (by decide) (by decide) (by decide) (by decide)) (o 87 (by decide))
  · rw [hr, hf.2 21 (by decide) (by decide) (by decide) (by decide) (by decide), hf.2 22 (by decide) (by decide) (by decide) (by decide) (by decide)]; exact i11
  · rw [hr]; exact Po_fr i13 (hf.2 27 (by decide) (by decide) (by decide) (by decide) (by decide)) (o 90 (by decide))
theorem MI_done {N : Int} {g : zG} {m : Int → Int → Int} {kd : Int → Nat × Int} {w : Nat × Nat × Nat} (h : MI N g m kd) (hN : N ≤ 900) {A' : zA} {ans : Int} {res : Option qR} (hd : mDone g.2.1 g.2.2.1 g.1 A' ans m kd w res) : ∃ m', res = some (.inl (some (0, ans)), (m', kd, w)) ∧ MI (N + 1) (gDone g A') m' kd ∧ m' 77 0 = m 77 0 ∧ m' 77 24 = m 77 24 ∧ m' 89 = m 89 ∧ ∀ x, x < 77 ∨ 90 < x → m' x = m x := by
  obtain ⟨m', e, hU, hQ, hf, ha, h86, h14, hX⟩ := hd
  refine ⟨m', e, MI_of h hQ hU hf rfl rfl rfl (fun i a b => ?_) (QD_fr h.2.2.2.2.2.2.2.2.1 h14 h86) rfl ?_, hf.2 0 (by decide) (by decide) (by decide) (by decide) (by decide), hf.2 24 (by decide) (by decide) (by decide) (by decide) (by decide), hf.1 89 (by decide) (by decide) (by decide) (by decide) (by decide) (by decide) (by decide), fun x hx => hf.1 x (by omega) (by omega) (by omega) (by omega) (by omega) (by omega) (by omega)⟩
  · rw [ha]
    show _ = zac g.2.2.2.2.2.2.1 0 i
    unfold zac
    by_cases q : i = 0
    · rw [if_pos q, if_pos q, q, h.2.2.2.2.2.2.2.1 0 (by decide) (by decide)]
    · rw [if_neg q, if_neg q]; exact h.2.2.2.2.2.2.2.1 i a b
  · have := hX (13000 * N) (by omega) h.2.2.2.2.2.2.2.2.2.2.2.2.2
    rw [show 13000 * (N + 1) = 13000 * N + 13000 by omega]
    exact this
theorem MI_readD {N : Int} {g : zG} {m : Int → Int → Int} {kd : Int → Nat × Int} {w : Nat × Nat × Nat} (h : MI N g m kd) (hN : N ≤ 900) {r it : Int} {res : Option qR} (hd : mRead g.2.1 g.2.2.1 g.1 r it m kd w res) : ∃ m', res = some (.inl (some (0, zTk g.1 r it + zHas g.1 r)), (m', kd, w)) ∧ MI (N + 1) (gRead g (zRead g.1 r it) (zHas g.1 r, g.1.2.2.1 r 2, zTk g.1 r it, (fun j => g.1.2.2.1 r (9 + j)), (fun i j => g.1.2.2.2 (g.1.2.2.1 r 1) (g.1.2.2.1 r 2 + i) j))) m' kd ∧ m' 77 0 = m 77 0 ∧ m' 77 24 = m 77 24 ∧ m' 89 = m 89 ∧ ∀ x, x < 77 ∨ 90 < x → m' x = m x := by
  obtain ⟨m', e, hU, hQ, hf, ha, hX, hD⟩ := hd
  refine ⟨m', e, MI_of h hQ hU hf rfl rfl rfl (fun i a b => ?_) hD rfl ?_, hf.2 0 (by decide) (by decide) (by decide) (by decide) (by decide), hf.2 24 (by decide) (by decide) (by decide) (by decide) (by decide), hf.1 89 (by decide) (by decide) (by decide) (by decide) (by decide) (by decide) (by decide), fun x hx => hf.1 x (by omega) (by omega) (by omega) (by omega) (by omega) (by omega) (by omega)⟩
  · rw [ha]
    show _ = zac g.2.2.2.2.2.2.1 0 i
    unfold zac
    by_cases q : i = 0
    · rw [if_pos q, if_pos q, q, h.2.2.2.2.2.2.2.1 0 (by decide) (by decide)]
    · rw [if_neg q, if_neg q]; exact h.2.2.2.2.2.2.2.1 i a b
  · have := hX (13000 * N) (by omega) h.2.2.2.2.2.2.2.2.2.2.2.2.2
    rw [show 13000 * (N + 1) = 13000 * N + 13000 by omega]
    exact this
theorem MI_ref {N : Int} {g : zG} {m : Int → Int → Int} {kd : Int → Nat × Int} {w : Nat × Nat × Nat} (h : MI N g m kd) {q : Int} {res : Option qR} (hd : mRef q m kd w res) : ∃ m', res = some (.inl (some (0, -10 - q)), (m', kd, w)) ∧ MI (N + 1) (gRef g q) m' kd ∧ m' 77 0 = m 77 0 ∧ m' 77 24 = m 77 24 ∧ m' 89 = m 89 ∧ ∀ x, x < 77 ∨ 90 < x → m' x = m x := by
  obtain ⟨q1, q2, e⟩ := hd
  have o : ∀ x, x ≠ 84 → qa_up m 84 q (m 84 q + 1) x = m x := fun x hx => by
    funext i
    exact qa_up_no _ (fun z => hx z.1)
  have hf : zfk m (qa_up m 84 q (m 84 q + 1)) := ⟨fun c _ _ _ _ c5 _ _ => o c c5, fun i _ _ _ _ _ => by rw [o 77 (by decide)]⟩
  have hU : MU g.2.1 g.2.2.1 (qa_up m 84 q (m 84 q + 1)) := by
    have := h.2.2.2.1
    unfold MU at this ⊢
    rw [o 77 (by decide), o 81 (by decide)]
    exact this
  refine ⟨_, e, MI_of h (by rw [o 79 (by decide)]; exact h.2.2.1) hU hf rfl rfl rfl (fun i a b => ?_) (QD_fr h.2.2.2.2.2.2.2.2.1 (by rw [o 77 (by decide)]) (o 86 (by decide))) rfl ?_, by rw [o 77 (by decide)], by rw [o 77 (by decide)], o 89 (by decide), fun x hx => o x (by omega)⟩
  · show _ = zac g.2.2.2.2.2.2.1 q i
    unfold zac
    by_cases e : i = q
    · rw [if_pos e, e, qa_up_hit, h.2.2.2.2.2.2.2.1 q (by omega) (by omega)]
    · rw [if_neg e, qa_up_no _ (fun z => e z.2)]; exact h.2.2.2.2.2.2.2.1 i a b
  · have := h.2.2.2.2.2.2.2.2.2.2.2.2.2
    unfold zcb at this ⊢
    rw [o 77 (by decide), o 85 (by decide)]
    obtain ⟨a, b, c, d⟩ := this
    exact ⟨by omega, by omega, by omega, fun r r1 r2 => by have := d r r1 r2; omega⟩
