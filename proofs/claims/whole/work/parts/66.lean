def zMg (A : zA) (b p st : Int) : Nat → zA
  | 0 => A
  | n + 1 => zAdd (zMg A b p st n) p (A.2.2.2 b (st + n) 0) (A.2.2.2 b (st + n) 1) (A.2.2.2 b (st + n) 2) (A.2.2.2 b (st + n) 3)
theorem zMg_f {M : Int} {A : zA} (hW : zW M A) {b p st : Int} (hb : zBl A b) (hp : zBl A p) (hne : b ≠ p) (h4 : A.2.1 b 4 ≤ st) : ∀ n : Nat, st + n ≤ A.2.1 b 5 → A.2.1 p 5 + n ≤ 512 → M + n ≤ 500000 → zW (M + n) (zMg A b p st n) ∧ (∀ b', b' ≠ p → ∀ j, (zMg A b p st n).2.1 b' j = A.2.1 b' j) ∧ (∀ b', b' ≠ p → ∀ q j, (zMg A b p st n).2.2.2 b' q j = A.2.2.2 b' q j) ∧ (zMg A b p st n).2.1 p 5 = A.2.1 p 5 + n ∧ (∀ j, j ≠ 5 → j ≠ 6 → (zMg A b p st n).2.1 p j = A.2.1 p j) ∧ (zMg A b p st n).1 = A.1 ∧ (zMg A b p st n).2.2.1 = A.2.2.1 := by
  intro n
  induction n with
  | zero => intro _ _ _; exact ⟨by simpa [zMg] using hW, fun _ _ _ => rfl, fun _ _ _ _ => rfl, by simp [zMg], fun _ _ _ => rfl, rfl, rfl⟩
  | succ n ih =>
    intro h1 h2 h3
    obtain ⟨i1, i2, i3, i4, i5, i6, i7⟩ := ih (by omega) (by omega) (by omega)
    have he := hW.2.2.2.2.2.2.1 b (st + n) hb.1 hb.2.1 hb.2.2 (by omega) (by omega)
    unfold zWe at he
    obtain ⟨q1, q2, q3, q4, q5, q6, q7, q8⟩ := he
    have hp' : zBl (zMg A b p st n) p := ⟨hp.1, hp.2.1, by rw [i5 1 (by decide) (by decide)]; exact hp.2.2⟩
    have hw := zW_add i1 (t := A.2.2.2 b (st + n) 0) (k := A.2.2.2 b (st + n) 1) (s := A.2.2.2 b (st + n) 2) (v := A.2.2.2 b (st + n) 3) hp' (by rw [i4]; omega) (by omega) ⟨q1, by rw [i6]; exact q2⟩ ⟨q3, q4⟩ ⟨q5, q6⟩ ⟨q7, q8⟩
    refine ⟨?_, fun b' e j => ?_, fun b' e q j => ?_, ?_, fun j j5 j6 => ?_, i6, i7⟩
    · have e : M + ((n + 1 : Nat) : Int) = M + n + 1 := by omega
      rw [e]
      exact hw
    · unfold zMg
      rw [zAdd_o _ j e]; exact i2 b' e j
    · unfold zMg
      rw [zAdd_n _ j (fun z => e z.1)]; exact i3 b' e q j
    · unfold zMg
      rw [zAdd_5, i4]; omega
    · unfold zMg
      rw [zAdd_j _ _ _ _ _ _ _ j5 j6]; exact i5 j j5 j6
def zMv (A : zA) (b p sh k : Int) : zA := (A.1, A.2.1, fun r j => if r < k ∧ zIn A r b then (if j = 1 then p else if j = 2 then A.2.2.1 r 2 + sh else A.2.2.1 r j) else A.2.2.1 r j, A.2.2.2)
theorem zMv_R (A : zA) (b p sh k r j : Int) : (zMv A b p sh k).2.2.1 r j = if r < k ∧ zIn A r b then (if j = 1 then p else if j = 2 then A.2.2.1 r 2 + sh else A.2.2.1 r j) else A.2.2.1 r j := rfl
theorem zMv_j (A : zA) {b p sh k r j : Int} (h1 : j ≠ 1) (h2 : j ≠ 2) : (zMv A b p sh k).2.2.1 r j = A.2.2.1 r j := by
  rw [zMv_R, if_neg h1, if_neg h2]
  split <;> rfl
theorem zMv_o (A : zA) {b p sh k r : Int} (j : Int) (h : ¬ (r < k ∧ zIn A r b)) : (zMv A b p sh k).2.2.1 r j = A.2.2.1 r j := if_neg h
theorem zMv_y (A : zA) {b p sh k r : Int} (j : Int) (h : r < k ∧ zIn A r b) : (zMv A b p sh k).2.2.1 r j = if j = 1 then p else if j = 2 then A.2.2.1 r 2 + sh else A.2.2.1 r j := if_pos h
theorem zMv_0 (A : zA) (b p sh : Int) : zMv A b p sh 0 = A := by
  have : (zMv A b p sh 0).2.2.1 = A.2.2.1 := by
    funext r j
    exact zMv_o A j (fun z => by have := z.2.1.1; omega)
  show (A.1, A.2.1, (zMv A b p sh 0).2.2.1, A.2.2.2) = A
  rw [this]
theorem zMv_in {A : zA} {b p sh r : Int} (hne : b ≠ p) : ¬ zIn (zMv A b p sh 6) r b := by
  intro ⟨⟨z1, z2, z3⟩, z4⟩
  rw [zMv_j A (by decide) (by decide)] at z3
  by_cases h : r < 6 ∧ zIn A r b
  · rw [zMv_y A _ h, if_pos rfl] at z4
    exact hne z4.symm
  · rw [zMv_o A _ h] at z4
    exact h ⟨z2, ⟨z1, z2, z3⟩, z4⟩
theorem zW_mv {M : Int} {A : zA} (hW : zW M A) {b p sh : Int} (hp : zBl A p) (h : ∀ r, zIn A r b → A.2.1 p 4 ≤ A.2.2.1 r 2 + sh ∧ A.2.2.1 r 2 + sh ≤ A.2.1 p 5) : zW M (zMv A b p sh 6) := by
  obtain ⟨⟨w0, w1, w2, w3, w4, w5⟩, w6, w7, w8, w9, wB, wE, wR, wD⟩ := id hW
  refine ⟨⟨w0, w1, w2, w3, w4, w5⟩, w6, w7, w8, fun r r1 r2 => by rw [zMv_j A (by decide) (by decide)]; exact w9 r r1 r2, wB, wE, fun r r1 r2 r3 => ?_, fun r r1 r2 r3 => ?_⟩
  · rw [zMv_j A (by decide) (by decide)] at r3
    have := wR r r1 r2 r3
    unfold zWr at this ⊢
    rw [zMv_j A (j := 3) (by decide) (by decide), zMv_j A (j := 4) (by decide) (by decide), zMv_j A (j := 5) (by decide) (by decide), zMv_j A (j := 6) (by decide) (by decide), zMv_j A (j := 7) (by decide) (by decide), zMv_j A (j := 8) (by decide) (by decide)]
    by_cases e : r < 6 ∧ zIn A r b
    · have e1 : (zMv A b p sh 6).2.2.1 r 1 = p := by rw [zMv_y A _ e, if_pos rfl]
      have e2 : (zMv A b p sh 6).2.2.1 r 2 = A.2.2.1 r 2 + sh := by rw [zMv_y A _ e, if_neg (by decide), if_pos rfl]
      rw [e1, e2]
      have hh := h r e.2
      exact ⟨hp, hh.1, hh.2, this.2.2.2⟩
    · rw [zMv_o A _ e, zMv_o A _ e]
      exact this
  · rw [zMv_j A (by decide) (by decide)] at r3
    have := wD r r1 r2 r3
    unfold zWd at this ⊢
    rw [zMv_j A (j := 9) (by decide) (by decide), zMv_j A (j := 10) (by decide) (by decide), zMv_j A (j := 11) (by decide) (by decide), zMv_j A (j := 12) (by decide) (by decide), zMv_j A (j := 13) (by decide) (by decide), zMv_j A (j := 14) (by decide) (by decide), zMv_j A (j := 15) (by decide) (by decide)]
    obtain ⟨d1, d2, d3, d4, d5, d6, d7⟩ := this
    refine ⟨d1, d2, d3, d4, d5, d6, fun z => ?_⟩
    obtain ⟨e1, e2, e3, e4, e5, e6, e7⟩ := d7 z
    exact ⟨e1, e2, e3, e4, e5, e6, fun k k1 k2 => by rw [zMv_j A (by omega) (by omega)]; exact e7 k k1 k2⟩
def zSt (A : zA) (b : Int) : Int := if A.2.1 b 4 < A.2.1 b 3 then A.2.1 b 3 else A.2.1 b 4
def zMg1 (A : zA) (b : Int) : zA := zMg A b (A.2.1 b 2) (zSt A b) (A.2.1 b 5 - zSt A b).toNat
def zMg2 (A : zA) (b : Int) : zA := zMv (zMg1 A b) b (A.2.1 b 2) (A.2.1 (A.2.1 b 2) 5 - zSt A b) 6
def zMg3 (A : zA) (b : Int) : zA := zDrop (zMg2 A b) b
def zMrg (st : Int → Int) (A : zA) (b : Int) : zA := zCutB st (A.2.1 b 2) (zMg3 A b)
def zWhyM (A : zA) (b : Int) : Int := if 0 < zWhy A b then zWhy A b else if 0 < zNotBehind A b (A.2.1 b 3 - 1) then 9 else 0
theorem zNotBehind_0 (A : zA) (b p : Int) : 0 ≤ zNotBehind A b p ∧ zNotBehind A b p ≤ 6 := by
  have := zsf_01 (g := fun r => if zIn A r b ∧ A.2.2.1 r 2 ≤ p then 1 else 0) (fun i => by split <;> omega) 6 0
  exact this
theorem zNotBehind_n {A : zA} {b p : Int} (h : zNotBehind A b p = 0) {r : Int} (hr : zIn A r b) : p < A.2.2.1 r 2 := by
  have := zsum6_0 (g := fun r => if zIn A r b ∧ A.2.2.1 r 2 ≤ p then 1 else 0) (fun i => by split <;> omega) h hr.1.1 hr.1.2.1
  by_cases e : A.2.2.1 r 2 ≤ p
  · rw [if_pos ⟨hr, e⟩] at this
    omega
  · omega
theorem zWhyM_0 (A : zA) (b : Int) : (zWhyM A b = zWhy A b ∧ (zWhy A b = 6 ∨ zWhy A b = 7)) ∨ (zWhy A b = 0 ∧ 0 < zNotBehind A b (A.2.1 b 3 - 1) ∧ zWhyM A b = 9) ∨ (zWhy A b = 0 ∧ zNotBehind A b (A.2.1 b 3 - 1) = 0 ∧ zWhyM A b = 0) := by
  have h := zWhy_0 A b
  have hr := zNotBehind_0 A b (A.2.1 b 3 - 1)
  unfold zWhyM
  by_cases h0 : 0 < zWhy A b
  · rw [if_pos h0]; exact Or.inl ⟨rfl, by omega⟩
  · rw [if_neg h0]
    by_cases h1 : 0 < zNotBehind A b (A.2.1 b 3 - 1)
    · rw [if_pos h1]; exact Or.inr (Or.inl ⟨by omega, h1, rfl⟩)
    · rw [if_neg h1]; exact Or.inr (Or.inr ⟨by omega, by omega, rfl⟩)
theorem zWhy_n {A : zA} {b : Int} (h : zWhy A b = 0) : b ≠ 0 ∧ zKids A b = 0 := by
  unfold zWhy at h
  have := zKids_0 (A := A) b
  split at h
  · omega
  · split at h <;> omega
theorem zMrg_f {M : Int} (st : Int → Int) {A : zA} (hW : zW M A) (hT : zT A) {b : Int} (hb : zBl A b) (hy : zWhyM A b = 0) (h5 : A.2.1 (A.2.1 b 2) 5 + (A.2.1 b 5 - zSt A b) ≤ 512) (hM : M + 512 < 500000) : zBl A (A.2.1 b 2) ∧ b ≠ A.2.1 b 2 ∧ (0 ≤ A.2.1 b 3 ∧ A.2.1 b 4 ≤ zSt A b ∧ zSt A b ≤ A.2.1 b 5 ∧ A.2.1 b 3 ≤ zSt A b) ∧ (∀ r, zIn A r b → zSt A b ≤ A.2.2.1 r 2) ∧ zW (M + 512) (zMg1 A b) ∧ zW (M + 512) (zMg2 A b) ∧ zW (M + 512) (zMg3 A b) ∧ zBl (zMg3 A b) (A.2.1 b 2) ∧ zW (M + 512) (zMrg st A b) := by
  rcases zWhyM_0 A b with ⟨y1, y2⟩ | ⟨y1, y2, y3⟩ | ⟨y1, y2, y3⟩
  · omega
  · omega
  · obtain ⟨n0, nk⟩ := zWhy_n y1
    have hne : b ≠ A.2.1 b 2 := fun z => zKids_n nk hb z.symm
    rcases zpar hT hb with ⟨z, _⟩ | ⟨_, hp, f0, f1⟩
    · exact absurd z n0
    have hbn := hW.bn hb
    have hpn := hW.bn hp
    have hs : A.2.1 b 4 ≤ zSt A b ∧ zSt A b ≤ A.2.1 b 5 ∧ A.2.1 b 3 ≤ zSt A b := by unfold zSt; split <;> omega
    have hrd : ∀ r, zIn A r b → zSt A b ≤ A.2.2.1 r 2 ∧ A.2.2.1 r 2 ≤ A.2.1 b 5 := fun r hr => by
      have h1 := zNotBehind_n y2 hr
      have h2 := hW.2.2.2.2.2.2.2.1 r hr.1.1 hr.1.2.1 hr.1.2.2
      unfold zWr at h2
      obtain ⟨_, a2, a3, _⟩ := h2
      rw [hr.2] at a2 a3
      unfold zSt; split <;> omega
    obtain ⟨i1, i2, i3, i4, i5, i6, i7⟩ := zMg_f hW hb hp hne hs.1 (A.2.1 b 5 - zSt A b).toNat (by omega) (by omega) (by omega)
    have w1 : zW (M + 512) (zMg1 A b) := zW_mono i1 (by omega)
    have hp1 : zBl (zMg1 A b) (A.2.1 b 2) := ⟨hp.1, hp.2.1, by unfold zMg1; rw [i5 1 (by decide) (by decide)]; exact hp.2.2⟩
    have hb1 : zBl (zMg1 A b) b := ⟨hb.1, hb.2.1, by unfold zMg1; rw [i2 b hne]; exact hb.2.2⟩
    have hR1 : (zMg1 A b).2.2.1 = A.2.2.1 := i7
    have hin : ∀ r, zIn (zMg1 A b) r b ↔ zIn A r b := fun r => by
      unfold zIn zRl
      rw [hR1]
    have w2 : zW (M + 512) (zMg2 A b) := zW_mv w1 hp1 (fun r hr => by
      have := hrd r ((hin r).mp hr)
      have e4 : (zMg1 A b).2.1 (A.2.1 b 2) 4 = A.2.1 (A.2.1 b 2) 4 := i5 4 (by decide) (by decide)
      have e5 : (zMg1 A b).2.1 (A.2.1 b 2) 5 = A.2.1 (A.2.1 b 2) 5 + (A.2.1 b 5 - zSt A b).toNat := i4
      rw [hR1, e4, e5]
      omega)
    have w3 : zW (M + 512) (zMg3 A b) := zW_drop w2 hb1 (fun r => zMv_in hne)
    have hp3 : zBl (zMg3 A b) (A.2.1 b 2) := zDrop_bl.mpr ⟨hp1, fun z => hne z.symm⟩
    exact ⟨hp, hne, ⟨f0, hs⟩, fun r hr => (hrd r hr).1, w1, w2, w3, hp3, (zW_cutB st w3 hp3).1⟩
