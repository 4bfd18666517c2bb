theorem KS_b {kd : Int → Nat × Int} {S : Int} (hK : KS kd S) {x : Int} (h1 : S ≤ x) (h2 : x < S + 30) : (kd x).1 ≠ 102 ∧ kd x ≠ (0, 0) := by
  obtain ⟨kN, kS, kC, kV, kW, kB, kE, kR, kD, kL⟩ := id hK
  have h0 : x = S ∨ x = S + 1 ∨ x = S + 2 ∨ x = S + 3 ∨ (S + 4 ≤ x ∧ x < S + 12) ∨ (S + 12 ≤ x ∧ x < S + 30) := by omega
  rcases h0 with e | e | e | e | h0 | h0
  · rw [e, kS]; decide
  · rw [e, kC]; exact ⟨by decide, fun z => by cases z⟩
  · rw [e, kV]; exact ⟨by decide, fun z => by cases z⟩
  · rw [e, kW]; exact ⟨by decide, fun z => by cases z⟩
  · have : x = S + 4 + 2 * ((x - S - 4) / 2) ∨ x = S + 5 + 2 * ((x - S - 4) / 2) := by omega
    rcases this with q | q <;> rw [q]
    · rw [kB _ (by omega) (by omega)]; exact ⟨by decide, fun z => by cases z⟩
    · rw [kE _ (by omega) (by omega)]; exact ⟨by decide, fun z => by cases z⟩
  · have : x = S + 12 + 3 * ((x - S - 12) / 3) ∨ x = S + 13 + 3 * ((x - S - 12) / 3) ∨ x = S + 14 + 3 * ((x - S - 12) / 3) := by omega
    rcases this with q | q | q <;> rw [q]
    · rw [kR _ (by omega) (by omega)]; exact ⟨by decide, fun z => by cases z⟩
    · rw [kD _ (by omega) (by omega)]; exact ⟨by decide, fun z => by cases z⟩
    · rw [kL _ (by omega) (by omega)]; exact ⟨by decide, fun z => by cases z⟩
theorem CS_page {um : Int} {U SV : Int → zA} {A : zA} {m m' : Int → Int → Int} {kd kd' : Int → Nat × Int} {n n' : Nat} {S : Int} (hS : CS um U SV A m kd n S) (hk9 : ∀ c, 67 ≤ c → c ≤ 92 → kd c ≠ (9, 0)) (hk : ∀ x : Int, x < n → kd' x = kd x) (hm : ∀ x : Int, x < n → x ≠ 75 → x ≠ 76 → (x < 93 ∨ (kd x).1 ≠ 102) → m' x = m x) (hn : n ≤ n') (hz : ∀ x : Int, n' ≤ x → kd' x = (0, 0)) : CS um U SV A m' kd' n' S ∧ m' 65 = m 65 ∧ znull m' = znull m := by
  obtain ⟨rfl, h2, h3, h4, h5, h6⟩ := hS
  obtain ⟨x0, x1, ⟨x63, x64, x640, x641, x65, x66⟩, x3, x33, xm33⟩ := id h2
  obtain ⟨j1, j2, j3, j4, j5, j6, j7⟩ := id h3
  have lo : ∀ x : Int, x < 75 → m' x = m x := fun x hx => hm x (by omega) (by omega) (by omega) (Or.inl (by omega))
  have kl : ∀ x : Int, x < 93 → kd' x = kd x := fun x hx => hk x (by omega)
  have lt : ∀ e, kd e ≠ (0, 0) → e < n := fun e he => by
    apply Classical.byContradiction
    intro hh
    exact he (j7 e (by omega))
  have en : ∀ e, kd e = (9, 0) → m' e = m e ∧ kd' e = kd e := fun e he => by
    have h := lt e (by rw [he]; decide)
    refine ⟨hm e h (fun z => hk9 e (by omega) (by omega) he) (fun z => hk9 e (by omega) (by omega) he) (Or.inr (by rw [he]; decide)), hk e h⟩
  have oo : ∀ S', JO m kd n S' → ∀ x, S' ≤ x → x < S' + 30 → m' x = m x := fun S' h x a b => hm x (by have := h.2.1; omega) (by have := h.1; omega) (by have := h.1; omega) (Or.inr (KS_b h.2.2.1 a b).1)
  have hO : ∀ S', JO m kd n S' → JO m' kd' n' S' := fun S' h => ⟨h.1, by have := h.2.1; omega, KS_keep h.2.2.1 (fun x a b => hk x (by have := h.2.1; omega)) (by rw [kl _ (by omega)]; exact x3.1), MS_keep h.2.2.2 (oo S' h)⟩
  have hR : ∀ (A' : zA) (S' : Int), RC A' m kd S' → JO m kd n S' → RC A' m' kd' S' := fun A' S' h ho => RC_keep h (oo S' ho) en
  refine ⟨⟨rfl, ⟨?_, ?_, ⟨?_, ?_, ?_, ?_, ?_, ?_⟩, ?_, ?_, ?_⟩, ⟨?_, ?_, ?_, ?_, ?_, by omega, hz⟩, ⟨?_, h4.2.1, h4.2.2.1, fun k k1 k2 => ?_⟩, fun i a b => ?_, RC_keep h6 (fun x a b => lo x (by omega)) en⟩, lo 65 (by omega), ?_⟩
  · rw [lo 0 (by omega), kl 0 (by omega)]; exact x0
  · rw [lo 1 (by omega), kl 1 (by omega), kl 2 (by omega)]; exact x1
  · rw [kl _ (by omega)]; exact x63
  · rw [kl _ (by omega)]; exact x64
  · rw [lo 64 (by omega)]; exact x640
  · rw [lo 64 (by omega)]; exact x641
  · rw [kl _ (by omega)]; exact x65
  · rw [kl _ (by omega)]; exact x66
  · exact KS_keep x3 (fun x a b => kl x (by omega)) (by rw [kl _ (by omega)]; exact x3.1)
  · exact KS_keep x33 (fun x a b => kl x (by omega)) (by rw [kl _ (by omega)]; exact x3.1)
  · exact MS_keep xm33 (fun x a b => lo x (by omega))
  · intro i a b
    rw [lo 66 (by omega)]; exact (j1 i a b).imp id (hO _)
  · intro i a b
    rw [lo 63 (by omega)]; exact (j2 i a b).imp id (hO _)
  · rw [lo 66 (by omega)]; exact j3
  · rw [lo 66 (by omega), lo 63 (by omega)]; exact j4
  · rw [lo 63 (by omega)]; exact j5
  · rw [lo 64 (by omega)]; exact h4.1
  · rw [lo 66 (by omega)]
    obtain ⟨v1, v2⟩ := h4.2.2.2 k k1 k2
    rcases j1 k k1 (by have := h4.2.2.1; omega) with h | h
    · exact absurd h v1
    · exact ⟨v1, hR _ _ v2 h⟩
  · rw [lo 63 (by omega)]
    intro hne
    rcases j2 i a b with h | h
    · exact absurd h hne
    · exact hR _ _ (h5 i a b hne) h
  · unfold znull
    rw [lo 66 (by omega), lo 63 (by omega)]
theorem CD_page {h p cn : Int} {sm : Int → Int} {en : Int → Int → Int} {m m' : Int → Int → Int} {kd kd' : Int → Nat × Int} (hD : CD h p cn sm en m kd) (h4 : ∀ x, 67 ≤ x → x ≤ 70 → m' x = m x ∧ kd' x = kd x) (h9 : ∀ e, kd e = (9, 0) → m' e = m e ∧ kd' e = kd e) : CD h p cn sm en m' kd' := by
  obtain ⟨⟨k1, k2, k3, k4⟩, ⟨a1, a2, a3⟩, d0, d1, d2, d3, d4, d5, d6⟩ := hD
  obtain ⟨x1, y1⟩ := h4 67 (by omega) (by omega)
  obtain ⟨x2, y2⟩ := h4 68 (by omega) (by omega)
  obtain ⟨x3, y3⟩ := h4 69 (by omega) (by omega)
  obtain ⟨x4, y4⟩ := h4 70 (by omega) (by omega)
  refine ⟨⟨by rw [y1]; exact k1, by rw [y2]; exact k2, by rw [y3]; exact k3, by rw [y4]; exact k4⟩, ⟨by rw [x1]; exact a1, by rw [x1]; exact a2, by rw [x2]; exact a3⟩, by rw [x1]; exact d0, d1, by rw [x1]; exact d2, by rw [x1]; exact d3, d4, by rw [x2]; exact d5, fun i i1 i2 => ?_⟩
  obtain ⟨e1, e2⟩ := d6 i i1 i2
  obtain ⟨z1, z2⟩ := h9 (m 70 i) e1
  rw [x4, z1, z2]
  exact ⟨e1, e2⟩
def tpr (A : zA) (r : Int) : List Int := (((([32] ++ [114]) ++ tdg r) ++ [61]) ++ tdg (A.2.2.1 r 2) ++ (if A.2.2.1 r 4 = -1 then [] else [112] ++ tdg (A.2.2.1 r 4))) ++ (if 0 < A.2.2.1 r 9 then [33] else [])
def tpf (A : zA) (b : Int) : Nat → Int → List Int
  | 0, _ => []
  | n + 1, k => (if zIn A k b then tpr A k else []) ++ tpf A b n (k + 1)
def tpg (A : zA) (b : Int) : List Int := ((((tdg b ++ [58]) ++ tdg (A.2.1 b 4)) ++ [45]) ++ tdg (A.2.1 b 5)) ++ tpf A b 6 0
theorem tdg_3 {v : Int} (h : v < 1000) : (tdg v).length ≤ 3 := by
  unfold tdg
  split
  · simp
  · split
    · simp
    · simp
theorem tdg_1 {v : Int} (h : v < 10) : (tdg v).length = 1 := by
  unfold tdg
  rw [if_pos h]; rfl
theorem tpr_l {A : zA} {r : Int} (h1 : r < 10) (h2 : A.2.2.1 r 2 < 1000) (h4 : 0 ≤ A.2.2.1 r 4 → A.2.2.1 r 4 < 100000) (h5 : -1 ≤ A.2.2.1 r 4) : (tpr A r).length ≤ 14 := by
  have a1 := tdg_1 h1
  have a2 := tdg_3 h2
  unfold tpr
  by_cases q : A.2.2.1 r 4 = -1
  · by_cases q' : 0 < A.2.2.1 r 9
    · simp [q, q', a1]; omega
    · simp [q, q', a1]; omega
  · have a3 := (tdg_r (v := A.2.2.1 r 4) ⟨by omega, h4 (by omega)⟩).1.2
    by_cases q' : 0 < A.2.2.1 r 9
    · simp [q, q', a1]; omega
    · simp [q, q', a1]; omega
def PgS (l : List Int) (g0 : Int) (m0 : Int → Int → Int) (kd0 : Int → Nat × Int) (n0 c0 s0 : Nat) (m : Int → Int → Int) (kd : Int → Nat × Int) (n c s : Nat) : Prop := ∃ V cap, Pg l V cap m kd n ∧ PgF g0 m0 kd0 n0 c0 s0 cap m kd n c s
theorem PgS.C {l : List Int} {g0 : Int} {m0 : Int → Int → Int} {kd0 : Int → Nat × Int} {n0 c0 s0 : Nat} {m : Int → Int → Int} {kd : Int → Nat × Int} {n c s : Nat} (h : PgS l g0 m0 kd0 n0 c0 s0 m kd n c s) {ch : Int} (hc : 0 ≤ ch ∧ ch ≤ 127) (hl : l.length + 1 ≤ 142) : ∃ m' kd' n' c' s', f_J4_append_cf468 [(1, 75), (0, ch)] (m, kd, n, c, s) = some (.inl (some (1, 75)), (m', kd', n', c', s')) ∧ PgS (l ++ [ch]) g0 m0 kd0 n0 c0 s0 m' kd' n' c' s' ∧ n ≤ n' ∧ c ≤ c' ∧ s ≤ s' := by
  obtain ⟨V, cap, hP, hF⟩ := h
  obtain ⟨V', cap', m', kd', n', c', s', e1, e2, e3, e4⟩ := c_appC hP hF hc (by omega)
  exact ⟨m', kd', n', c', s', e1, ⟨V', cap', e2, e3⟩, e4⟩
theorem PgS.I {l : List Int} {g0 : Int} {m0 : Int → Int → Int} {kd0 : Int → Nat × Int} {n0 c0 s0 : Nat} {m : Int → Int → Int} {kd : Int → Nat × Int} {n c s : Nat} (h : PgS l g0 m0 kd0 n0 c0 s0 m kd n c s) {v : Int} (hv : 0 ≤ v ∧ v < 100000) (hl : l.length + 5 ≤ 142) : ∃ m' kd' n' c' s', f_J4_append_bf812 [(1, 75), (0, v)] (m, kd, n, c, s) = some (.inl (some (1, 75)), (m', kd', n', c', s')) ∧ PgS (l ++ tdg v) g0 m0 kd0 n0 c0 s0 m' kd' n' c' s' ∧ n ≤ n' ∧ c ≤ c' ∧ s ≤ s' := by
  obtain ⟨V, cap, hP, hF⟩ := h
  obtain ⟨V', cap', m', kd', n', c', s', e1, e2, e3, e4⟩ := c_appI hP hF hv (by omega)
  exact ⟨m', kd', n', c', s', e1, ⟨V', cap', e2, e3⟩, e4⟩
theorem PgS.at {l : List Int} {g0 : Int} {m0 : Int → Int → Int} {kd0 : Int → Nat × Int} {n0 c0 s0 : Nat} {m : Int → Int → Int} {kd : Int → Nat × Int} {n c s : Nat} (h : PgS l g0 m0 kd0 n0 c0 s0 m kd n c s) {x : Int} (hx : x < 75) : m x = m0 x ∧ kd x = kd0 x := by
  obtain ⟨V, cap, hP, hF⟩ := h
  have := hF.2.2.2.2.2.2.2
  exact ⟨hF.2.1 x (by omega) (by omega) (by omega) (Or.inl (by omega)), hF.1 x (by omega)⟩
theorem PgS.k {l : List Int} {g0 : Int} {m0 : Int → Int → Int} {kd0 : Int → Nat × Int} {n0 c0 s0 : Nat} {m : Int → Int → Int} {kd : Int → Nat × Int} {n c s : Nat} (h : PgS l g0 m0 kd0 n0 c0 s0 m kd n c s) (hx : kd0 0 = (14, 0)) (h07 : m0 0 7 = 75) : kd 0 = (14, 0) ∧ m 0 7 = 75 ∧ kd 75 = (2, 0) := by
  obtain ⟨a1, a2⟩ := h.at (x := 0) (by decide)
  obtain ⟨V, cap, hP, hF⟩ := h
  exact ⟨by rw [a2]; exact hx, by rw [a1]; exact h07, hP.1⟩
