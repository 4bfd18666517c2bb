abbrev zD : Type := Int × Int × Int × (Int → Int) × (Int → Int → Int)
abbrev zX : Type := (Int → Int) × Int × Int × Int
abbrev zG : Type := zA × Int × (Int → zA) × (Int → Int) × (Int → zA) × (Int → Int) × (Int → Int) × zD × zX × List Int
def GI (N : Int) (g : zG) : Prop := zI N g.1 ∧ (0 ≤ g.2.1 ∧ g.2.1 ≤ 8) ∧ (∀ k, 0 ≤ k → k < g.2.1 → zI N (g.2.2.1 k)) ∧ (∀ i, 0 ≤ i → i < 2 → (g.2.2.2.1 i = 0 ∨ g.2.2.2.1 i = 1) ∧ (g.2.2.2.1 i = 1 → zI N (g.2.2.2.2.1 i))) ∧ zS g.2.2.2.2.2.1 ∧ (∀ i, 0 ≤ i → i ≤ 10 → 0 ≤ g.2.2.2.2.2.2.1 i ∧ g.2.2.2.2.2.2.1 i ≤ N) ∧ ((g.2.2.2.2.2.2.2.1.1 = 0 ∨ g.2.2.2.2.2.2.2.1.1 = 1) ∧ (0 ≤ g.2.2.2.2.2.2.2.1.2.1 ∧ g.2.2.2.2.2.2.2.1.2.1 ≤ 1000) ∧ 0 ≤ g.2.2.2.2.2.2.2.1.2.2.1 ∧ g.2.2.2.2.2.2.2.1.1 + g.2.2.2.2.2.2.2.1.2.2.1 ≤ 99) ∧ ((0 ≤ g.2.2.2.2.2.2.2.2.1.2.1 ∧ g.2.2.2.2.2.2.2.2.1.2.1 ≤ 700) ∧ tT8 g.2.2.2.2.2.2.2.2.1.1) ∧ g.2.2.2.2.2.2.2.2.2.length ≤ 142
def CI (N : Int) (g : zG) (m : Int → Int → Int) (kd : Int → Nat × Int) (n c s : Nat) : Prop := CS g.2.1 g.2.2.1 g.2.2.2.2.1 g.1 m kd n 3 ∧ CR g.2.2.2.2.2.1 m kd 1 2 ∧ CD g.2.2.2.2.2.2.2.1.1 g.2.2.2.2.2.2.2.1.2.1 g.2.2.2.2.2.2.2.1.2.2.1 g.2.2.2.2.2.2.2.1.2.2.2.1 g.2.2.2.2.2.2.2.1.2.2.2.2 m kd ∧ KSc kd ∧ MSc g.2.2.2.2.2.2.2.2.1.1 g.2.2.2.2.2.2.2.2.1.2.1 m ∧ (m 71 5 = g.2.2.2.2.2.2.2.2.1.2.2.1 ∧ m 71 6 = g.2.2.2.2.2.2.2.2.1.2.2.2) ∧ (∀ i, 0 ≤ i → i ≤ 10 → m 65 i = g.2.2.2.2.2.2.1 i) ∧ (∀ i, 0 ≤ i → i < 2 → (m 63 i ≠ -1 ↔ g.2.2.2.1 i = 1)) ∧ (∀ x, 67 ≤ x → x ≤ 92 → kd x ≠ (9, 0)) ∧ ∃ V cap, Pg g.2.2.2.2.2.2.2.2.2 V cap m kd n ∧ (c : Int) + 30 * znull m + zpg cap ≤ 2000 + 4 * N ∧ (s : Int) + 2271 * znull m + 142 * zpg cap ≤ 1000000 + 20 * N
def MI (N : Int) (g : zG) (m : Int → Int → Int) (kd : Int → Nat × Int) : Prop := KM kd ∧ RM m ∧ QR g.1 (m 79) ∧ MU g.2.1 g.2.2.1 m ∧ MV g.2.2.2.2.1 m ∧ (∀ i, 0 ≤ i → i < 2 → m 83 i = g.2.2.2.1 i) ∧ QS g.2.2.2.2.2.1 m ∧ (∀ i, 0 ≤ i → i ≤ 10 → m 84 i = g.2.2.2.2.2.2.1 i) ∧ QD g.2.2.2.2.2.2.2.1.1 g.2.2.2.2.2.2.2.1.2.1 g.2.2.2.2.2.2.2.1.2.2.1 g.2.2.2.2.2.2.2.1.2.2.2.1 g.2.2.2.2.2.2.2.1.2.2.2.2 m ∧ MTx g.2.2.2.2.2.2.2.2.1.1 g.2.2.2.2.2.2.2.2.1.2.1 m ∧ (m 77 21 = g.2.2.2.2.2.2.2.2.1.2.2.1 ∧ m 77 22 = g.2.2.2.2.2.2.2.2.1.2.2.2) ∧ MWo m ∧ Po g.2.2.2.2.2.2.2.2.2 m ∧ zcb m (13000 * N)
def zac (ac : Int → Int) (q : Int) : Int → Int := fun i => if i = q then ac i + 1 else ac i
def gDone (g : zG) (A' : zA) : zG := (A', zpu g.2.1, zpU g.2.1 g.2.2.1 g.1, g.2.2.2.1, g.2.2.2.2.1, g.2.2.2.2.2.1, zac g.2.2.2.2.2.2.1 0, g.2.2.2.2.2.2.2)
def gRef (g : zG) (q : Int) : zG := (g.1, g.2.1, g.2.2.1, g.2.2.2.1, g.2.2.2.2.1, g.2.2.2.2.2.1, zac g.2.2.2.2.2.2.1 q, g.2.2.2.2.2.2.2)
def gRead (g : zG) (A' : zA) (D' : zD) : zG := (A', zpu g.2.1, zpU g.2.1 g.2.2.1 g.1, g.2.2.2.1, g.2.2.2.2.1, g.2.2.2.2.2.1, zac g.2.2.2.2.2.2.1 0, D', g.2.2.2.2.2.2.2.2)
theorem zac_r {ac : Int → Int} {N q : Int} (h : ∀ i, 0 ≤ i → i ≤ 10 → 0 ≤ ac i ∧ ac i ≤ N) : ∀ i, 0 ≤ i → i ≤ 10 → 0 ≤ zac ac q i ∧ zac ac q i ≤ N + 1 := fun i a b => by
  have := h i a b
  unfold zac
  split <;> omega
theorem zpu_r {um : Int} (h : 0 ≤ um ∧ um ≤ 8) : 0 ≤ zpu um ∧ zpu um ≤ 8 := by
  unfold zpu
  split <;> omega
theorem zpU_I {N um : Int} {U : Int → zA} {A : zA} (h0 : 0 ≤ um ∧ um ≤ 8) (hU : ∀ k, 0 ≤ k → k < um → zI N (U k)) (hA : zI N A) : ∀ k, 0 ≤ k → k < zpu um → zI N (zpU um U A k) := fun k k0 k1 => by
  unfold zpu at k1
  unfold zpU
  by_cases e : um = 8
  · rw [if_pos e] at k1 ⊢
    by_cases e7 : k = 7
    · rw [if_pos e7]; exact hA
    · rw [if_neg e7]; exact hU (k + 1) (by omega) (by omega)
  · rw [if_neg e] at k1 ⊢
    by_cases e7 : k = um
    · rw [if_pos e7]; exact hA
    · rw [if_neg e7]; exact hU k k0 (by omega)
theorem GI_mono {N N' : Int} {g : zG} (h : GI N g) (hN : N ≤ N' ∧ N' ≤ 900) : GI N' g := by
  obtain ⟨h1, h2, h3, h4, h5, h6, h7⟩ := h
  exact ⟨zI_mono h1 hN, h2, fun k a b => zI_mono (h3 k a b) hN, fun i a b => ⟨(h4 i a b).1, fun z => zI_mono ((h4 i a b).2 z) hN⟩, h5, fun i a b => by have := h6 i a b; omega, h7⟩
theorem GI_done {N : Int} {g : zG} (h : GI N g) (hN : N ≤ 600) {A' : zA} (hA : zI (N + 1) A') : GI (N + 1) (gDone g A') := by
  obtain ⟨h1, h2, h3, h4, h5, h6, h7⟩ := GI_mono (N' := N + 1) h (by omega)
  exact ⟨hA, zpu_r h2, zpU_I h2 h3 h1, h4, h5, zac_r h.2.2.2.2.2.1, h7⟩
theorem GI_ref {N : Int} {g : zG} (h : GI N g) (hN : N ≤ 600) (q : Int) : GI (N + 1) (gRef g q) := by
  obtain ⟨h1, h2, h3, h4, h5, h6, h7⟩ := GI_mono (N' := N + 1) h (by omega)
  exact ⟨h1, h2, h3, h4, h5, zac_r h.2.2.2.2.2.1, h7⟩
theorem GI_read {N : Int} {g : zG} (h : GI N g) (hN : N ≤ 600) {A' : zA} (hA : zI (N + 1) A') {D' : zD} (hD : (D'.1 = 0 ∨ D'.1 = 1) ∧ (0 ≤ D'.2.1 ∧ D'.2.1 ≤ 1000) ∧ 0 ≤ D'.2.2.1 ∧ D'.1 + D'.2.2.1 ≤ 99) : GI (N + 1) (gRead g A' D') := by
  obtain ⟨h1, h2, h3, h4, h5, h6, h7, h8⟩ := GI_mono (N' := N + 1) h (by omega)
  exact ⟨hA, zpu_r h2, zpU_I h2 h3 h1, h4, h5, zac_r h.2.2.2.2.2.1, hD, h8⟩
theorem znull_0 (m : Int → Int → Int) : 0 ≤ znull m := by
  unfold znull
  have h1 := (zsf_01 (g := fun i => if m 66 i = -1 then 1 else 0) (fun i => by split <;> omega) 8 0).1
  have h2 := (zsf_01 (g := fun i => if m 63 i = -1 then 1 else 0) (fun i => by split <;> omega) 2 0).1
  exact Int.add_nonneg h1 h2
theorem zpg_0 (cap : Int) : 0 ≤ zpg cap ∧ zpg cap ≤ 3 := by
  unfold zpg
  split
  · omega
  · split
    · omega
    · split <;> omega
theorem CS.z {um : Int} {U SV : Int → zA} {A : zA} {m : Int → Int → Int} {kd : Int → Nat × Int} {n S : Int} (h : CS um U SV A m kd n S) : 93 ≤ n ∧ (∀ x : Int, n ≤ x → kd x = (0, 0)) ∧ kd (-1) = (0, 0) ∧ m 0 5 = 67 ∧ m 0 6 = 71 ∧ m 0 7 = 75 := by
  obtain ⟨h1, h2, h3, h4, h5, h6⟩ := h
  obtain ⟨⟨x0, x00, x01, x02, x03, x04, x05, x06, x07⟩, -, -, x3, -, -⟩ := h2
  exact ⟨h3.2.2.2.2.2.1, h3.2.2.2.2.2.2, x3.1, x05, x06, x07⟩
theorem Pg_fr {l : List Int} {V cap : Int} {m m' : Int → Int → Int} {kd kd' : Int → Nat × Int} {n n' : Nat} (hP : Pg l V cap m kd n) (h : ∀ x, x = 75 ∨ x = 76 ∨ (93 ≤ x ∧ (kd x).1 = 102) → m' x = m x ∧ kd' x = kd x) (hn : n ≤ n') (hz : ∀ x : Int, n' ≤ x → kd' x = (0, 0)) : Pg l V cap m' kd' n' := by
  obtain ⟨p1, p2, p3, p4, p5, p6, p7, p8, p9, p10, p11, p12, p13⟩ := hP
  obtain ⟨a1, a2⟩ := h 75 (Or.inl rfl)
  obtain ⟨b1, b2⟩ := h V (by
    rcases p6 with e | e
    · exact Or.inr (Or.inl e)
    · exact Or.inr (Or.inr ⟨e.1, by rw [p5]⟩))
  exact ⟨by rw [a2]; exact p1, by rw [a1]; exact p2, by rw [a1]; exact p3, by rw [a1]; exact p4, by rw [b2]; exact p5, p6.imp id (fun z => by omega), p7, p8, by rw [b1]; exact p9, by rw [b1]; exact p10, p11, by omega, hz⟩
theorem MSc_fr {T : Int → Int} {n : Int} {m m' : Int → Int → Int} (h : MSc T n m) (h71 : m' 71 = m 71) (h72 : m' 72 = m 72) : MSc T n m' := by
  unfold MSc at h ⊢
  rw [h71, h72]
  exact h
theorem CI_of {N : Int} {g g' : zG} {m m' : Int → Int → Int} {kd kd' : Int → Nat × Int} {n c s n' c' s' : Nat} (h : CI N g m kd n c s) (hS : CS g'.2.1 g'.2.2.1 g'.2.2.2.2.1 g'.1 m' kd' n' 3) (hsv : g'.2.2.2.1 = g.2.2.2.1) (hst : g'.2.2.2.2.2.1 = g.2.2.2.2.2.1) (hac : ∀ i, 0 ≤ i → i ≤ 10 → m' 65 i = g'.2.2.2.2.2.2.1 i) (hD : CD g'.2.2.2.2.2.2.2.1.1 g'.2.2.2.2.2.2.2.1.2.1 g'.2.2.2.2.2.2.2.1.2.2.1 g'.2.2.2.2.2.2.2.1.2.2.2.1 g'.2.2.2.2.2.2.2.1.2.2.2.2 m' kd') (hr : g'.2.2.2.2.2.2.2.2 = g.2.2.2.2.2.2.2.2) (hf : ∀ x, (0 ≤ x ∧ x ≤ 2) ∨ x = 63 ∨ (71 ≤ x ∧ x ≤ 92) ∨ (kd x).1 = 102 → m' x = m x ∧ kd' x = kd x) (hk : ∀ x, 67 ≤ x → x ≤ 70 → kd' x = kd x) (hn : n ≤ n') (hc : (c' : Int) + 30 * znull m' ≤ c + 30 * znull m + 4) (hs : (s' : Int) + 2271 * znull m' ≤ s + 2271 * znull m + 20) : CI (N + 1) g' m' kd' n' c' s' := by
  obtain ⟨i1, i2, i3, i4, i5, i6, i7, i8, i9, V, cap, P, p1, p2⟩ := h
  have z := hS.z
  refine ⟨hS, ?_, hD, ?_, ?_, ?_, hac, fun i a b => ?_, fun x a b => ?_, V, cap, ?_, by omega, by omega⟩
  · rw [hst]
    obtain ⟨y1, y2, y3, y4⟩ := i2
    obtain ⟨a1, b1⟩ := hf 1 (by omega)
    obtain ⟨a2, b2⟩ := hf 2 (by omega)
    exact ⟨by rw [b1]; exact y1, by rw [a1]; exact y2, by rw [b2]; exact y3, by rw [a2]; exact y4⟩
  · obtain ⟨k1, k2, k3, k4⟩ := i4
    exact ⟨by rw [(hf 71 (by omega)).2]; exact k1, by rw [(hf 72 (by omega)).2]; exact k2, by rw [(hf 73 (by omega)).2]; exact k3, by rw [(hf 74 (by omega)).2]; exact k4⟩
  · rw [hr]
    exact MSc_fr i5 (hf 71 (by omega)).1 (hf 72 (by omega)).1
  · rw [hr, (hf 71 (by omega)).1]
    exact i6
  · rw [hsv, (hf 63 (by omega)).1]
    exact i8 i a b
  · by_cases e : x ≤ 70
    · rw [hk x a e]; exact i9 x a b
    · rw [(hf x (by omega)).2]; exact i9 x a b
  · rw [hr]
    exact Pg_fr P (fun x hx => hf x (by
      rcases hx with e | e | e
      · omega
      · omega
      · exact Or.inr (Or.inr (Or.inr e.2)))) hn z.2.1
theorem CI_done {N : Int} {g : zG} {m : Int → Int → Int} {kd : Int → Nat × Int} {n c s : Nat} (h : CI N g m kd n c s) {A' : zA} {ans : Int} {res : Option qR} (hd : cDone g.2.1 g.2.2.1 g.2.2.2.2.1 g.1 A' ans m kd n c s 3 res) : ∃ m' kd' n' c' s', res = some (.inl (some (0, ans)), (m', kd', n', c', s')) ∧ CI (N + 1) (gDone g A') m' kd' n' c' s' ∧ (∀ x, 71 ≤ x → x ≤ 92 → m' x = m x ∧ kd' x = kd x) ∧ n ≤ n' ∧ c ≤ c' ∧ s ≤ s' := by
  obtain ⟨m', kd', n', c', s', e, hS, hf, ha, p1, p2, p3, p4, p5⟩ := hd
  refine ⟨m', kd', n', c', s', e, CI_of h hS rfl rfl (fun i a b => ?_) (CD_fx h.2.2.1 hf) rfl (fun x hx => hf x (by omega)) (fun x a b => (hf x (by omega)).2) p3 (by omega) (by omega), fun x a b => hf x (by omega), p3, p4, p5⟩
  rw [ha]
  show _ = zac g.2.2.2.2.2.2.1 0 i
  unfold zac
  by_cases q : i = 0
  · rw [if_pos q, if_pos q, q, h.2.2.2.2.2.2.1 0 (by decide) (by decide)]
  · rw [if_neg q, if_neg q]; exact h.2.2.2.2.2.2.1 i a b
theorem CI_ref {N : Int} {g : zG} {m : Int → Int → Int} {kd : Int → Nat × Int} {n c s : Nat} (h : CI N g m kd n c s) {q : Int} {res : Option qR} (hd : cRef q m kd (n, c, s) res) : ∃ m' kd' n' c' s', res = some (.inl (some (0, -10 - q)), (m', kd', n', c', s')) ∧ CI (N + 1) (gRef g q) m' kd' n' c' s' ∧ (∀ x, 71 ≤ x → x ≤ 92 → m' x = m x ∧ kd' x = kd x) ∧ n ≤ n' ∧ c ≤ c' ∧ s ≤ s' := by
  obtain ⟨q1, q2, e⟩ := hd
  obtain ⟨g1, g2, g3⟩ := CS_refuse (r := q) (v := m 65 q + 1) h.1
  have hf : ∀ x, x ≠ 65 → qa_up m 65 q (m 65 q + 1) x = m x := fun x hx => by
    funext i
    exact qa_up_no _ (fun z => hx z.1)
  have k65 := h.1.f.2.2.2.2.2.2.2.2.2
  refine ⟨_, kd, n, c, s, e, CI_of h g1 rfl rfl (fun i a b => ?_) (CD_fx h.2.2.1 g2) rfl (fun x hx => ⟨hf x (fun z => ?_), rfl⟩) (fun x _ _ => rfl) (Nat.le_refl _) (by omega) (by omega), fun x a b => ⟨hf x (by omega), rfl⟩, Nat.le_refl _, Nat.le_refl _, Nat.le_refl _⟩
  · show _ = zac g.2.2.2.2.2.2.1 q i
    unfold zac
    by_cases e : i = q
    · rw [if_pos e, e, qa_up_hit, h.2.2.2.2.2.2.1 q (by omega) (by omega)]
    · rw [if_neg e, qa_up_no _ (fun z => e z.2)]; exact h.2.2.2.2.2.2.1 i a b
  · rw [z, k65] at hx
    rcases hx with hx | hx | hx | hx
    · omega
    · omega
    · omega
    · exact absurd hx (by decide)
