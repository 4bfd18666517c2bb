theorem zsz_le {f : Int → Int} : ∀ (n : Nat) (p : Int), (∀ q, p ≤ q → q < p + n → 1 ≤ f q ∧ f q ≤ 9) → n ≤ zsz f p n ∧ zsz f p n ≤ 9 * n := by
  intro n
  induction n with
  | zero => intro p _; simp [zsz]
  | succ n ih =>
    intro p h
    have h1 := ih (p + 1) (fun q h1 h2 => h q (by omega) (by omega))
    have h2 := h p (by omega) (by omega)
    simp only [zsz]
    omega
theorem zsz_congr {f g : Int → Int} : ∀ (n : Nat) (p : Int), (∀ q, p ≤ q → q < p + n → f q = g q) → zsz f p n = zsz g p n := by
  intro n
  induction n with
  | zero => intro p _; rfl
  | succ n ih =>
    intro p h
    simp only [zsz]
    rw [ih (p + 1) (fun q h1 h2 => h q (by omega) (by omega)), h p (by omega) (by omega)]
theorem zsz_add {f : Int → Int} : ∀ (n : Nat) (p : Int), zsz f p (n + 1) = zsz f p n + f (p + n) := by
  intro n
  induction n with
  | zero => intro p; simp [zsz]
  | succ n ih =>
    intro p
    rw [show zsz f p (n + 1 + 1) = f p + zsz f (p + 1) (n + 1) from rfl, ih (p + 1), show zsz f p (n + 1) = f p + zsz f (p + 1) n from rfl]
    have : p + 1 + (n : Int) = p + ((n + 1 : Nat) : Int) := by omega
    rw [this]
    omega
theorem zlive_4 (A : zA) : zlive A = (if A.2.1 0 1 = 1 then A.2.1 0 5 - A.2.1 0 4 else 0) + (if A.2.1 1 1 = 1 then A.2.1 1 5 - A.2.1 1 4 else 0) + (if A.2.1 2 1 = 1 then A.2.1 2 5 - A.2.1 2 4 else 0) + (if A.2.1 3 1 = 1 then A.2.1 3 5 - A.2.1 3 4 else 0) := by
  simp [zlive, zsf]
  omega
theorem zW_total {M : Int} {A : zA} (hW : zW M A) {b : Int} (hb : zBl A b) : 0 ≤ A.2.1 b 6 ∧ A.2.1 b 6 ≤ 4608 := by
  obtain ⟨⟨w0, w1, w2, w3, w4, w5⟩, w6, w7, w8, w9, wB, wE, wR, wD⟩ := id hW
  obtain ⟨h1, h2, h3, h4, h5, h6⟩ := wB b hb.1 hb.2.1 hb.2.2
  have := zsz_le (f := fun p => A.2.2.2 b p 2) (A.2.1 b 5 - A.2.1 b 4).toNat (A.2.1 b 4) (fun q q1 q2 => by
    have := wE b q hb.1 hb.2.1 hb.2.2 q1 (by omega)
    exact ⟨this.2.2.2.2.1, this.2.2.2.2.2.1⟩)
  omega
theorem zcause_le (A : zA) (st : Int → Int) (b : Int) : -1 ≤ zCause A st b ∧ zCause A st b ≤ 3 ∧ (zCause A st b ≠ -1 → A.2.1 b 4 < A.2.1 b 5) := by
  unfold zCause
  repeat' split
  all_goals omega
theorem zCut1_g (A : zA) (b c i : Int) : (zCut1 A b c).1 i = if i = 2 + c then A.1 i + 1 else A.1 i := rfl
theorem zCut1_B (A : zA) (b c b' j : Int) : (zCut1 A b c).2.1 b' j = if b' = b then (if j = 4 then A.2.1 b 4 + 1 else if j = 6 then A.2.1 b 6 - A.2.2.2 b (A.2.1 b 4) 2 else if j = 7 then A.2.1 b 7 + 1 else A.2.1 b j) else A.2.1 b' j := rfl
theorem zCut1_R (A : zA) (b c r j : Int) : (zCut1 A b c).2.2.1 r j = if zLow A r b then zOwe A b r j else A.2.2.1 r j := rfl
theorem zCut1_E (A : zA) (b c : Int) : (zCut1 A b c).2.2.2 = A.2.2.2 := rfl
theorem zOwe_lt {A : zA} {b r j : Int} (h : j < 9) (h2 : j ≠ 2) (hk : 0 ≤ A.2.2.2 b (A.2.1 b 4) 1) : zOwe A b r j = A.2.2.1 r j := by
  unfold zOwe
  rw [if_neg h2, if_neg (by omega), if_neg (by omega), if_neg (by omega), if_neg (by omega), if_neg (by omega), if_neg (by omega), if_neg (by omega), if_neg (by omega)]
theorem zOwe_2 (A : zA) (b r : Int) : zOwe A b r 2 = A.2.1 b 4 + 1 := by simp [zOwe]
theorem zCut1_B1 (A : zA) (b c b' : Int) {j : Int} (h4 : j ≠ 4) (h6 : j ≠ 6) (h7 : j ≠ 7) : (zCut1 A b c).2.1 b' j = A.2.1 b' j := by
  rw [zCut1_B]
  by_cases e : b' = b
  · rw [if_pos e, if_neg h4, if_neg h6, if_neg h7, e]
  · rw [if_neg e]
theorem zCut1_B4 (A : zA) (b c b' : Int) : (zCut1 A b c).2.1 b' 4 = if b' = b then A.2.1 b 4 + 1 else A.2.1 b' 4 := by simp [zCut1_B]
theorem zW_cut1 {M : Int} {A : zA} (hW : zW M A) {b c : Int} (hb : zBl A b) (hc : 0 ≤ c ∧ c ≤ 3) (hp : A.2.1 b 4 < A.2.1 b 5) : zW M (zCut1 A b c) := by
  obtain ⟨⟨w0, w1, w2, w3, w4, w5⟩, w6, w7, w8, w9, wB, wE, wR, wD⟩ := id hW
  obtain ⟨h1, h2, h3, h4, h5, h6⟩ := wB b hb.1 hb.2.1 hb.2.2
  obtain ⟨q1, q2, q3, q4, q5, q6, q7, q8⟩ := wE b _ hb.1 hb.2.1 hb.2.2 (Int.le_refl _) hp
  have hg : zgs (zCut1 A b c) = zgs A + 1 := by
    unfold zgs
    simp only [zCut1_g]
    have : c = 0 ∨ c = 1 ∨ c = 2 ∨ c = 3 := by omega
    rcases this with rfl | rfl | rfl | rfl <;> simp <;> omega
  have hl : zlive (zCut1 A b c) = zlive A - 1 := by
    obtain ⟨b1, b2, b3⟩ := hb
    rw [zlive_4, zlive_4]
    simp only [zCut1_B]
    have : b = 0 ∨ b = 1 ∨ b = 2 ∨ b = 3 := by omega
    rcases this with rfl | rfl | rfl | rfl <;> simp [b3] <;> omega
  have g0 : (zCut1 A b c).1 0 = A.1 0 := by rw [zCut1_g, if_neg (by omega)]
  have g1 : (zCut1 A b c).1 1 = A.1 1 := by rw [zCut1_g, if_neg (by omega)]
  have hR : ∀ r j, j < 9 → j ≠ 2 → (zCut1 A b c).2.2.1 r j = A.2.2.1 r j := fun r j j1 j2 => by
    rw [zCut1_R]
    split
    · exact zOwe_lt j1 j2 q3
    · rfl
  have hB := fun b' => @zCut1_B1 A b c b'
  refine ⟨⟨w0, w1, by rw [g0]; exact w2, by rw [g0]; exact w3, by rw [g1]; exact w4, by rw [g1]; exact w5⟩, ?_, by omega, ?_, ?_, ?_, ?_, ?_, ?_⟩
  · intro i i1 i2
    have := w6 i i1 i2
    rw [zCut1_g]; split <;> omega
  · intro b' i1 i2
    rw [hB b' (by decide) (by decide) (by decide)]
    exact w8 b' i1 i2
  · intro r i1 i2
    rw [hR r 0 (by decide) (by decide)]
    exact w9 r i1 i2
  · intro b' i1 i2 i3
    rw [hB b' (by decide) (by decide) (by decide)] at i3
    have hz := wB b' i1 i2 i3
    unfold zWb at hz ⊢
    rw [hB b' (j := 5) (by decide) (by decide) (by decide), zCut1_B4, zCut1_E]
    simp only [zCut1_B]
    by_cases hbb : b' = b
    · subst hbb
      obtain ⟨k, hk⟩ : ∃ k, (A.2.1 b' 5 - A.2.1 b' 4).toNat = k + 1 := ⟨(A.2.1 b' 5 - A.2.1 b' 4).toNat - 1, by omega⟩
      rw [hk] at h6
      simp only [zsz] at h6
      simp
      refine ⟨by omega, by omega, by omega, by omega, by omega, ?_⟩
      rw [show (A.2.1 b' 5 - (A.2.1 b' 4 + 1)).toNat = k by omega, h6]
      omega
    · simp only [if_neg hbb]
      exact hz
  · intro b' p i1 i2 i3 i4 i5
    rw [hB b' (by decide) (by decide) (by decide)] at i3 i5
    rw [zCut1_B4] at i4
    have key : zWe A b' p := wE b' p i1 i2 i3 (by split at i4 <;> rename_i e <;> (try subst e) <;> omega) i5
    unfold zWe at key ⊢
    rw [g0]
    exact key
  · intro r i1 i2 i3
    rw [hR r 0 (by decide) (by decide)] at i3
    obtain ⟨⟨r1, r2, r3⟩, r4, r5, r6⟩ := wR r i1 i2 i3
    unfold zWr
    rw [hR r 1 (by decide) (by decide), hR r 3 (by decide) (by decide), hR r 4 (by decide) (by decide), hR r 5 (by decide) (by decide), hR r 6 (by decide) (by decide), hR r 7 (by decide) (by decide), hR r 8 (by decide) (by decide), g0, zCut1_B4, hB _ (j := 5) (by decide) (by decide) (by decide), zCut1_R, zOwe_2]
    refine ⟨⟨r1, r2, by rw [hB _ (by decide) (by decide) (by decide)]; exact r3⟩, ?_, ?_, r6⟩
    · by_cases hl : zLow A r b
      · have e := hl.1.2
        rw [if_pos hl, if_pos e]
        omega
      · rw [if_neg hl]
        split
        · rename_i e
          have : ¬ A.2.2.1 r 2 ≤ A.2.1 b 4 := fun z => hl ⟨⟨⟨i1, i2, i3⟩, e⟩, z⟩
          omega
        · exact r4
    · split
      · rename_i e
        rw [e.1.2]
        omega
      · exact r5
  · intro r i1 i2 i3
    rw [hR r 0 (by decide) (by decide)] at i3
    obtain ⟨d1, d2, d3, d4, d5, d6, d7⟩ := wD r i1 i2 i3
    unfold zWd
    rw [hg]
    simp only [zCut1_R]
    by_cases hl : zLow A r b
    · simp only [if_pos hl]
      simp [zOwe]
      refine ⟨by omega, by omega, by omega, by omega, by omega, by omega, fun h => by omega⟩
    · simp only [if_neg hl]
      exact ⟨d1, by omega, d3, d4, d5, d6, d7⟩
theorem zW_inc {M : Int} {A : zA} (hW : zW M A) {c : Int} (hc : 0 ≤ c ∧ c ≤ 3) (hM : M < 500000) : zW (M + 1) (zInc A c) := by
  obtain ⟨⟨w0, w1, w2, w3, w4, w5⟩, w6, w7, w8, w9, wB, wE, wR, wD⟩ := id hW
  have hg : zgs (zInc A c) = zgs A + 1 := by
    unfold zgs zInc
    have : c = 0 ∨ c = 1 ∨ c = 2 ∨ c = 3 := by omega
    rcases this with rfl | rfl | rfl | rfl <;> simp <;> omega
  have g0 : (zInc A c).1 0 = A.1 0 := by unfold zInc; simp only; rw [if_neg (by omega)]
  have g1 : (zInc A c).1 1 = A.1 1 := by unfold zInc; simp only; rw [if_neg (by omega)]
  refine ⟨⟨by omega, by omega, by rw [g0]; exact w2, by rw [g0]; exact w3, by rw [g1]; exact w4, by rw [g1]; exact w5⟩, ?_, by rw [hg, show zlive (zInc A c) = zlive A from rfl]; omega, w8, w9, wB, ?_, ?_, ?_⟩
  · intro i i1 i2
    have := w6 i i1 i2
    unfold zInc; simp only; split <;> omega
  · intro b p i1 i2 i3 i4 i5
    have := wE b p i1 i2 i3 i4 i5
    unfold zWe at this ⊢
    rw [g0]; exact this
  · intro r i1 i2 i3
    have := wR r i1 i2 i3
    unfold zWr at this ⊢
    rw [g0]
    simp only [show (zInc A c).2 = A.2 from rfl]
    obtain ⟨r1, r2, r3, r4, r5, r6, r7, r8, r9, r10, r11, r12, r13, r14, r15⟩ := this
    exact ⟨r1, r2, r3, r4, r5, r6, r7, r8, by omega, r10, r11, r12, by omega, r14, by omega⟩
  · intro r i1 i2 i3
    have := wD r i1 i2 i3
    unfold zWd at this ⊢
    rw [hg]
    simp only [show (zInc A c).2 = A.2 from rfl]
    obtain ⟨d1, d2, d3⟩ := this
    exact ⟨d1, by omega, d3⟩
def zK0 (A A' : zA) : Prop := A'.1 0 = A.1 0 ∧ A'.1 1 = A.1 1 ∧ (∀ b j, j ≠ 4 → j ≠ 6 → j ≠ 7 → A'.2.1 b j = A.2.1 b j) ∧ (∀ r j, j < 9 → j ≠ 2 → A'.2.2.1 r j = A.2.2.1 r j) ∧ A'.2.2.2 = A.2.2.2
theorem zK0.refl (A : zA) : zK0 A A := ⟨rfl, rfl, fun _ _ _ _ _ => rfl, fun _ _ _ _ => rfl, rfl⟩
theorem zK0.trans {A B C : zA} (h : zK0 A B) (k : zK0 B C) : zK0 A C := ⟨k.1.trans h.1, k.2.1.trans h.2.1, fun b j x y z => (k.2.2.1 b j x y z).trans (h.2.2.1 b j x y z), fun r j x y => (k.2.2.2.1 r j x y).trans (h.2.2.2.1 r j x y), k.2.2.2.2.trans h.2.2.2.2⟩
theorem zK0.bl {A A' : zA} (h : zK0 A A') {b : Int} : zBl A' b ↔ zBl A b := by
  unfold zBl
  rw [h.2.2.1 b 1 (by decide) (by decide) (by decide)]
theorem zK0.rl {A A' : zA} (h : zK0 A A') {r : Int} : zRl A' r ↔ zRl A r := by
  unfold zRl
  rw [h.2.2.2.1 r 0 (by decide) (by decide)]
theorem zK0_cut1 {M : Int} {A : zA} (hW : zW M A) {b c : Int} (hb : zBl A b) (hc : 0 ≤ c ∧ c ≤ 3) (hp : A.2.1 b 4 < A.2.1 b 5) : zK0 A (zCut1 A b c) := by
  obtain ⟨⟨w0, w1, w2, w3, w4, w5⟩, w6, w7, w8, w9, wB, wE, wR, wD⟩ := id hW
  have q3 := (wE b _ hb.1 hb.2.1 hb.2.2 (Int.le_refl _) hp).2.2.1
  refine ⟨by rw [zCut1_g, if_neg (by omega)], by rw [zCut1_g, if_neg (by omega)], fun b' j j4 j6 j7 => zCut1_B1 A b c b' j4 j6 j7, fun r j j1 j2 => ?_, rfl⟩
  rw [zCut1_R]
  split
  · exact zOwe_lt j1 j2 q3
  · rfl
theorem zW_cut {M : Int} (st : Int → Int) (b : Int) : ∀ (n : Nat) (A : zA), zW M A → zBl A b → zW M (zCut st b n A) ∧ zK0 A (zCut st b n A) := by
  intro n
  induction n with
  | zero => intro A h hb; exact ⟨h, zK0.refl A⟩
  | succ n ih =>
    intro A h hb
    have hz := zcause_le A st b
    simp only [zCut]
    split
    · exact ⟨h, zK0.refl A⟩
    · rename_i hc
      have h1 := zW_cut1 (c := zCause A st b) h hb (by omega) (hz.2.2 hc)
      have h2 := zK0_cut1 (c := zCause A st b) h hb (by omega) (hz.2.2 hc)
      have h3 := ih _ h1 (h2.bl.mpr hb)
      exact ⟨h3.1, h2.trans h3.2⟩
theorem zW_cutB {M : Int} (st : Int → Int) {b : Int} {A : zA} (h : zW M A) (hb : zBl A b) : zW M (zCutB st b A) ∧ zK0 A (zCutB st b A) := zW_cut st b _ A h hb
theorem zW_cuts {M : Int} (st : Int → Int) {A : zA} (h : zW M A) : ∀ n : Nat, zW M (zCuts st n A) ∧ zK0 A (zCuts st n A) := by
  intro n
  induction n with
  | zero => exact ⟨h, zK0.refl A⟩
  | succ n ih =>
    simp only [zCuts]
    split
    · rename_i hb
      have := zW_cutB st ih.1 hb
      exact ⟨this.1, ih.2.trans this.2⟩
    · exact ih
def zK1 (A A' : zA) : Prop := A'.1 1 = A.1 1 ∧ (∀ b j, j ≠ 4 → j ≠ 6 → j ≠ 7 → A'.2.1 b j = A.2.1 b j) ∧ (∀ r j, j < 9 → j ≠ 2 → j ≠ 4 → j ≠ 6 → A'.2.2.1 r j = A.2.2.1 r j) ∧ A'.2.2.2 = A.2.2.2
theorem zK0.k1 {A A' : zA} (h : zK0 A A') : zK1 A A' := ⟨h.2.1, h.2.2.1, fun r j a b _ _ => h.2.2.2.1 r j a b, h.2.2.2.2⟩
theorem zK1.refl (A : zA) : zK1 A A := (zK0.refl A).k1
theorem zK1.trans {A B C : zA} (h : zK1 A B) (k : zK1 B C) : zK1 A C := ⟨k.1.trans h.1, fun b j x y z => (k.2.1 b j x y z).trans (h.2.1 b j x y z), fun r j x y z v => (k.2.2.1 r j x y z v).trans (h.2.2.1 r j x y z v), k.2.2.2.trans h.2.2.2⟩
theorem zK1.bl {A A' : zA} (h : zK1 A A') {b : Int} : zBl A' b ↔ zBl A b := by
  unfold zBl
  rw [h.2.1 b 1 (by decide) (by decide) (by decide)]
theorem zK1.rl {A A' : zA} (h : zK1 A A') {r : Int} : zRl A' r ↔ zRl A r := by
  unfold zRl
  rw [h.2.2.1 r 0 (by decide) (by decide) (by decide) (by decide)]
theorem zW_break {M : Int} {A : zA} (hW : zW M A) (ht : A.1 0 < 1000000) : zW M (zBreak A) ∧ zK1 A (zBreak A) := by
  obtain ⟨⟨w0, w1, w2, w3, w4, w5⟩, w6, w7, w8, w9, wB, wE, wR, wD⟩ := id hW
  have gR : ∀ r j, j ≠ 4 → j ≠ 6 → (zBreak A).2.2.1 r j = A.2.2.1 r j := fun r j j4 j6 => by
    simp only [zBreak, if_neg j4, if_neg j6, ite_self]
  have gg : ∀ i, i ≠ 0 → (zBreak A).1 i = A.1 i := fun i hi => if_neg hi
  have g0 : (zBreak A).1 0 = A.1 0 + 1 := by simp [zBreak]
  have hgs : zgs (zBreak A) = zgs A := by
    unfold zgs
    rw [gg 2 (by decide), gg 3 (by decide), gg 4 (by decide), gg 5 (by decide)]
  refine ⟨⟨⟨w0, w1, by omega, by omega, by rw [gg 1 (by decide)]; exact w4, by rw [gg 1 (by decide)]; exact w5⟩, ?_, ?_, w8, ?_, wB, ?_, ?_, ?_⟩, gg 1 (by decide), fun _ _ _ _ _ => rfl, fun r j _ _ j4 j6 => gR r j j4 j6, rfl⟩
  · intro i i1 i2
    rw [gg i (by omega)]
    exact w6 i i1 i2
  · rw [hgs]; exact w7
  · intro r i1 i2
    rw [gR r 0 (by decide) (by decide)]
    exact w9 r i1 i2
  · intro b p i1 i2 i3 i4 i5
    obtain ⟨q1, q2, q3⟩ := wE b p i1 i2 i3 i4 i5
    exact ⟨q1, by rw [g0]; have : (zBreak A).2.2.2 = A.2.2.2 := rfl; rw [this]; omega, q3⟩
  · intro r i1 i2 i3
    rw [gR r 0 (by decide) (by decide)] at i3
    obtain ⟨r1, r4, r5, r6, r7, r8, r9, r10, r11, r12, r13, r14⟩ := wR r i1 i2 i3
    unfold zWr
    rw [gR r 1 (by decide) (by decide), gR r 2 (by decide) (by decide), gR r 3 (by decide) (by decide), gR r 5 (by decide) (by decide), gR r 7 (by decide) (by decide), gR r 8 (by decide) (by decide), g0]
    refine ⟨r1, r4, r5, r6, by omega, ?_, ?_, r10, r11, ?_, ?_, r14⟩
    all_goals (simp only [zBreak]; split <;> first | omega | (simp; omega))
  · intro r i1 i2 i3
    rw [gR r 0 (by decide) (by decide)] at i3
    have hz := wD r i1 i2 i3
    unfold zWd at hz ⊢
    rw [hgs, gR r 9 (by decide) (by decide), gR r 10 (by decide) (by decide), gR r 11 (by decide) (by decide), gR r 12 (by decide) (by decide), gR r 13 (by decide) (by decide), gR r 14 (by decide) (by decide), gR r 15 (by decide) (by decide)]
    refine ⟨hz.1, hz.2.1, hz.2.2.1, hz.2.2.2.1, hz.2.2.2.2.1, hz.2.2.2.2.2.1, fun h => ?_⟩
    obtain ⟨a1, a2, a3, a4, a5, a6, a7⟩ := hz.2.2.2.2.2.2 h
    exact ⟨a1, a2, a3, a4, a5, a6, fun k k1 k2 => by rw [gR r k (by omega) (by omega)]; exact a7 k k1 k2⟩
theorem zW_tick {M : Int} (st : Int → Int) {A : zA} (hW : zW M A) (ht : A.1 0 < 1000000) : zW M (zTick st A) ∧ zK1 A (zTick st A) ∧ (zTick st A).1 0 = A.1 0 + 1 := by
  have h1 := zW_break hW ht
  have h2 := zW_cuts st h1.1 4
  exact ⟨h2.1, h1.2.trans h2.2.k1, h2.2.1⟩
theorem zW_ticks {M : Int} (st : Int → Int) {A : zA} (hW : zW M A) : ∀ n : Nat, A.1 0 + n ≤ 1000000 → zW M (zTicks st n A) ∧ zK1 A (zTicks st n A) ∧ (zTicks st n A).1 0 = A.1 0 + n := by
  intro n
  induction n with
  | zero => intro _; exact ⟨hW, zK1.refl A, by simp [zTicks]⟩
  | succ n ih =>
    intro hn
    obtain ⟨i1, i2, i3⟩ := ih (by omega)
    have := zW_tick st i1 (by omega)
    exact ⟨this.1, i2.trans this.2.1, by rw [zTicks, this.2.2, i3]; push_cast; omega⟩
