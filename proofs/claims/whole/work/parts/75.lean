def zHas (A : zA) (r : Int) : Int := if 0 < A.2.2.1 r 9 then 1 else 0
def zTk (A : zA) (r it : Int) : Int := if it - zHas A r ≤ A.2.1 (A.2.2.1 r 1) 5 - A.2.2.1 r 2 then it - zHas A r else A.2.1 (A.2.2.1 r 1) 5 - A.2.2.1 r 2
theorem zHas_01 (A : zA) (r : Int) : zHas A r = 0 ∨ zHas A r = 1 := by unfold zHas; split <;> simp
theorem zTk_b {M : Int} {A : zA} (hW : zW M A) {r it : Int} (hr : zRl A r) (hi : 1 ≤ it ∧ it ≤ 99) : 0 ≤ zTk A r it ∧ zTk A r it ≤ 99 ∧ A.2.2.1 r 2 + zTk A r it ≤ A.2.1 (A.2.2.1 r 1) 5 := by
  have h := hW.2.2.2.2.2.2.2.1 r hr.1 hr.2.1 hr.2.2
  unfold zWr at h
  have h0 := zHas_01 A r
  unfold zTk
  split <;> omega
def zClr (A : zA) (r : Int) : zA := (A.1, A.2.1, fun r' j => if r' = r then (if j = 8 then A.2.2.1 r 8 + 1 else if 9 ≤ j then zSeat 0 0 0 j else A.2.2.1 r j) else A.2.2.1 r' j, A.2.2.2)
theorem zClr_r (A : zA) (r j : Int) : (zClr A r).2.2.1 r j = if j = 8 then A.2.2.1 r 8 + 1 else if 9 ≤ j then zSeat 0 0 0 j else A.2.2.1 r j := if_pos rfl
theorem zClr_o (A : zA) {r r' : Int} (j : Int) (h : r' ≠ r) : (zClr A r).2.2.1 r' j = A.2.2.1 r' j := if_neg h
theorem zClr_lo (A : zA) {r j : Int} (h : j < 8) : (zClr A r).2.2.1 r j = A.2.2.1 r j := by
  rw [zClr_r, if_neg (by omega), if_neg (by omega)]
theorem zClr_hi (A : zA) {r j : Int} (h : 9 ≤ j) : (zClr A r).2.2.1 r j = zSeat 0 0 0 j := by
  rw [zClr_r, if_neg (by omega), if_pos h]
theorem zW_clr {M : Int} {A : zA} (hW : zW M A) (hM : M + 1 ≤ 500000) {r : Int} (hr : zRl A r) : zW (M + 1) (zClr A r) := by
  obtain ⟨⟨w0, w1, w2, w3, w4, w5⟩, w6, w7, w8, w9, wB, wE, wR, wD⟩ := id hW
  have hwr := wR r hr.1 hr.2.1 hr.2.2
  unfold zWr at hwr
  obtain ⟨q1, q2, q3, q4, q5, q6, q7, q8, q9, q10, q11, q12, q13, q14, q15⟩ := hwr
  refine zW_rd hW ⟨by omega, hM⟩ (k := r) (R' := (zClr A r).2.2.1) (fun r' j h => zClr_o A j h) (Or.inr ?_) (fun _ => ⟨?_, ?_⟩)
  · rw [zClr_lo A (by decide)]; exact hr.2.2
  · unfold zWr
    show zBl A ((zClr A r).2.2.1 r 1) ∧ A.2.1 ((zClr A r).2.2.1 r 1) 4 ≤ (zClr A r).2.2.1 r 2 ∧ (zClr A r).2.2.1 r 2 ≤ A.2.1 ((zClr A r).2.2.1 r 1) 5 ∧ 0 ≤ (zClr A r).2.2.1 r 3 ∧ (zClr A r).2.2.1 r 3 ≤ A.1 0 ∧ -1 ≤ (zClr A r).2.2.1 r 4 ∧ (zClr A r).2.2.1 r 4 ≤ A.1 0 + 60 ∧ 0 ≤ (zClr A r).2.2.1 r 5 ∧ (zClr A r).2.2.1 r 5 ≤ M + 1 ∧ 0 ≤ (zClr A r).2.2.1 r 6 ∧ (zClr A r).2.2.1 r 6 ≤ A.1 0 ∧ 0 ≤ (zClr A r).2.2.1 r 7 ∧ (zClr A r).2.2.1 r 7 ≤ M + 1 ∧ 0 ≤ (zClr A r).2.2.1 r 8 ∧ (zClr A r).2.2.1 r 8 ≤ M + 1
    have e8 : (zClr A r).2.2.1 r 8 = A.2.2.1 r 8 + 1 := by rw [zClr_r, if_pos rfl]
    rw [zClr_lo A (j := 1) (by decide), zClr_lo A (j := 2) (by decide), zClr_lo A (j := 3) (by decide), zClr_lo A (j := 4) (by decide), zClr_lo A (j := 5) (by decide), zClr_lo A (j := 6) (by decide), zClr_lo A (j := 7) (by decide), e8]
    exact ⟨q1, q2, q3, q4, q5, q6, q7, q8, by omega, q10, q11, q12, by omega, by omega, by omega⟩
  · have dg : 0 ≤ zgs A := hW.gs.1
    unfold zWd
    show 0 ≤ (zClr A r).2.2.1 r 9 ∧ (zClr A r).2.2.1 r 9 ≤ zgs A ∧ _
    rw [zClr_hi A (j := 9) (by decide), zClr_hi A (j := 10) (by decide), zClr_hi A (j := 11) (by decide), zClr_hi A (j := 12) (by decide), zClr_hi A (j := 13) (by decide), zClr_hi A (j := 14) (by decide), zClr_hi A (j := 15) (by decide)]
    refine ⟨by simp [zSeat], by simp [zSeat]; exact dg, by simp [zSeat], by simp [zSeat], by simp [zSeat], by simp [zSeat], fun _ => ⟨by simp [zSeat], by simp [zSeat], by simp [zSeat], by simp [zSeat], by simp [zSeat], by simp [zSeat], fun k k1 k2 => ?_⟩⟩
    rw [zClr_hi A (by omega)]
    unfold zSeat
    simp (disch := omega) only [if_neg]
theorem c_take {m : Int → Int → Int} {kd : Int → Nat × Int} {w : Nat × Nat × Nat} {A : zA} {S : Int} (hK : KS kd S) (hC : RC A m kd S) {M : Int} (hW : zW M A) (hS3 : S = 3) (hKD : KDl kd) (hMD : MDl m) {r it : Int} (hM : M + 1 ≤ 500000) (hr : zRl A r) (hi : 1 ≤ it ∧ it ≤ 99) : ∃ m', f_X4_take [(1, 67), (1, S + 12 + 3 * r), (1, S + 4 + 2 * A.2.2.1 r 1), (0, it)] (m, kd, w) = some (.inl none, (m', kd, w)) ∧ (∀ c, c ≠ 67 → c ≠ 68 → c ≠ 69 → c ≠ 70 → c ≠ S + 12 + 3 * r → c ≠ S + 13 + 3 * r → c ≠ S + 14 + 3 * r → m' c = m c) ∧ MDl m' ∧ m' 67 0 = zHas A r ∧ m' 67 2 = A.2.2.1 r 2 ∧ m' 67 3 = zTk A r it ∧ (zHas A r = 1 → ∀ j, 0 ≤ j → j ≤ 6 → m' 68 j = A.2.2.1 r (9 + j)) ∧ (∀ i, 0 ≤ i → i < zTk A r it → m' 70 i = m (S + 5 + 2 * A.2.2.1 r 1) (A.2.2.1 r 2 + i)) ∧ (∀ j, j ≠ 2 → j ≠ 7 → j ≠ 8 → m' (S + 12 + 3 * r) j = m (S + 12 + 3 * r) j) ∧ m' (S + 12 + 3 * r) 2 = A.2.2.1 r 2 + zTk A r it ∧ m' (S + 12 + 3 * r) 7 = A.2.2.1 r 7 + zTk A r it ∧ m' (S + 12 + 3 * r) 8 = A.2.2.1 r 8 + zHas A r ∧ m' (S + 13 + 3 * r) 7 = S + 14 + 3 * r ∧ (∀ j, 0 ≤ j → j ≤ 6 → m' (S + 13 + 3 * r) j = zSeat 0 0 0 (9 + j)) ∧ ∀ j, 0 ≤ j → j < 10 → m' (S + 14 + 3 * r) j = -1000 := by
  obtain ⟨kd67, kd68, kd69, kd70⟩ := id hKD
  obtain ⟨m1, m4, m7⟩ := id hMD
  obtain ⟨q1, q2, q3⟩ := id hr
  have hrn := hW.rn hr
  have hwr := hW.2.2.2.2.2.2.2.1 r q1 q2 q3
  have hwd := hW.2.2.2.2.2.2.2.2 r q1 q2 q3
  unfold zWr at hwr
  unfold zWd at hwd
  have htk := zTk_b hW hr hi
  have hh := hwr.1
  obtain ⟨⟨f2, f3, f4, fV, fW, f0, f8, f9, f7⟩, e0, e1, eC, eB, eR, eD, eL, eE⟩ := id hC
  obtain ⟨kN, kS, kC, kV, kW, kB, kE, kR, kD, kL⟩ := id hK
  have kr := kR r q1 q2
  have kdd := kD r q1 q2
  have kll := kL r q1 q2
  have g9 := f9 r q1 q2
  have g7 := f7 r q1 q2
  have tR : ∀ j, 0 ≤ j → j ≤ 8 → m (S + 12 + 3 * r) j = A.2.2.1 r j := fun j a b => eR r j q1 q2 a b
  have tD : ∀ j, 0 ≤ j → j ≤ 6 → m (S + 13 + 3 * r) j = A.2.2.1 r (9 + j) := fun j a b => eD r j q1 q2 q3 a b
  have d9 : m (S + 13 + 3 * r) 0 = A.2.2.1 r 9 := tD 0 (by decide) (by decide)
  by_cases h9 : 0 < A.2.2.1 r 9
  · have e0' : zHas A r = 1 := if_pos h9
    obtain ⟨mA, a1, a2, a3, a4, a5⟩ := c_copyD (m := qa_up m 67 0 1) (w := w) (D := 68) (D0 := S + 13 + 3 * r) (L := 69) (L0 := S + 14 + 3 * r) kd68 kdd kd69 kll (by omega) (by rw [qa_up_no _ (by omega)]; exact m7) (by rw [qa_up_no _ (by omega)]; exact g7) (by omega)
    obtain ⟨mB, b1, b2, b3, b4, b5⟩ := c_clear (m := mA) (w := w) (D := S + 13 + 3 * r) (L := S + 14 + 3 * r) kdd (by rw [a2 _ (by omega) (by omega), qa_up_no _ (by omega)]; exact g7) kll
    have oB : ∀ c, c ≠ 67 → c ≠ 68 → c ≠ 69 → c ≠ S + 13 + 3 * r → c ≠ S + 14 + 3 * r → mB c = m c := fun c c1 c2 c3 c4 c5 => by
      rw [b2 c c4 c5, a2 c c2 c3]
      funext i
      exact qa_up_no _ (fun z => c1 z.1)
    have B67 : ∀ i, mB 67 i = if i = 0 then 1 else m 67 i := fun i => by
      rw [b2 67 (by omega) (by omega), a2 67 (by decide) (by decide)]
      unfold qa_up
      by_cases hi0 : i = 0
      · rw [if_pos ⟨rfl, hi0⟩, if_pos hi0]
      · rw [if_neg (fun z => hi0 z.2), if_neg hi0]
    generalize hm3 : qa_up mB (S + 12 + 3 * r) 8 (A.2.2.1 r 8 + 1) = m3
    have o3 : ∀ c, c ≠ S + 12 + 3 * r → m3 c = mB c := fun c hc => by
      rw [← hm3]
      funext i
      exact qa_up_no _ (fun z => hc z.1)
    have R3 : ∀ j, j ≠ 8 → m3 (S + 12 + 3 * r) j = m (S + 12 + 3 * r) j := fun j hj => by
      rw [← hm3, qa_up_no _ (fun z => hj z.2), oB _ (by omega) (by omega) (by omega) (by omega) (by omega)]
    have v8 : mB (S + 12 + 3 * r) 8 = A.2.2.1 r 8 := by rw [oB _ (by omega) (by omega) (by omega) (by omega) (by omega)]; exact tR 8 (by decide) (by decide)
    have hC0 : RC A (qa_up (qa_up m 67 0 1) 67 0 1) kd S := RC_keep hC (fun c c1 c2 => by funext i; rw [qa_up_no _ (by omega), qa_up_no _ (by omega)]) (fun e he => ⟨by funext i; rw [qa_up_no _ (fun z => by rw [z.1, kd67] at he; cases he), qa_up_no _ (fun z => by rw [z.1, kd67] at he; cases he)], rfl⟩)
    generalize hmm : (fun c i => if c = S + 12 + 3 * r ∨ c = S + 13 + 3 * r ∨ c = S + 14 + 3 * r then m c i else m3 c i : Int → Int → Int) = mm
    have mmy : ∀ c, c = S + 12 + 3 * r ∨ c = S + 13 + 3 * r ∨ c = S + 14 + 3 * r → mm c = m c := fun c hc => by
      funext i
      rw [← hmm]
      exact if_pos hc
    have mmn : ∀ c, ¬ (c = S + 12 + 3 * r ∨ c = S + 13 + 3 * r ∨ c = S + 14 + 3 * r) → mm c = m3 c := fun c hc => by
      funext i
      rw [← hmm]
      exact if_neg hc
    have hCm : RC A mm kd S := RC_keep hC (fun c c1 c2 => by
      by_cases hc : c = S + 12 + 3 * r ∨ c = S + 13 + 3 * r ∨ c = S + 14 + 3 * r
      · exact mmy c hc
      · rw [mmn c hc, o3 c (by omega), oB c (by omega) (by omega) (by omega) (by omega) (by omega)]) (fun e he => ⟨by
        have n9 := hK.entry he
        have e67 : e ≠ 67 := fun z => by rw [z, kd67] at he; cases he
        have e68 : e ≠ 68 := fun z => by rw [z, kd68] at he; cases he
        have e69 : e ≠ 69 := fun z => by rw [z, kd69] at he; cases he
        rw [mmn e (by omega), o3 e (by omega), oB e e67 e68 e69 (by omega) (by omega)], rfl⟩)
    have hC3 : RC (zClr A r) m3 kd S := by
      refine RC_rd hK hCm (k := r) (R' := (zClr A r).2.2.1) q1 q2 (fun c c1 c2 c3 => (mmn c (by omega)).symm) ?_ ?_ (fun r' j h => zClr_o A j h) (fun j j1 j2 => ?_) (fun _ j j1 j2 => ?_) (fun _ j j1 j2 => ?_)
      · rw [R3 9 (by decide)]; exact g9
      · rw [o3 _ (by omega)]; exact b3
      · by_cases h8 : j = 8
        · subst h8
          rw [← hm3, qa_up_hit, zClr_r, if_pos rfl]
        · rw [R3 j h8, zClr_lo A (by omega)]; exact tR j j1 j2
      · rw [o3 _ (by omega), b4 j j1 j2, zClr_hi A (by omega)]
        unfold zSeat
        have : j = 0 ∨ j = 1 ∨ j = 2 ∨ j = 3 ∨ j = 4 ∨ j = 5 ∨ j = 6 := by omega
        rcases this with rfl | rfl | rfl | rfl | rfl | rfl | rfl <;> simp
      · rw [o3 _ (by omega), b5 j j1 j2, zClr_hi A (by omega)]
        unfold zSeat
        simp (disch := omega) only [if_neg]
    have M3 : MDl m3 := ⟨by rw [o3 _ (by omega), B67, if_neg (by decide)]; exact m1, by rw [o3 _ (by omega), B67, if_neg (by decide)]; exact m4, by rw [o3 _ (by omega), b2 _ (by omega) (by omega)]; exact a4⟩
    have te := c_takeEntries (m := m3) (w := w) (p := A.2.2.1 r 2) (mx := it - 1) hK hC3 (zW_clr hW hM hr) hS3 hKD M3 (b := A.2.2.1 r 1) hh ⟨hwr.2.1, hwr.2.2.1⟩ ⟨by omega, by omega⟩
    have ecn : (if it - 1 ≤ (zClr A r).2.1 (A.2.2.1 r 1) 5 - A.2.2.1 r 2 then it - 1 else (zClr A r).2.1 (A.2.2.1 r 1) 5 - A.2.2.1 r 2) = zTk A r it := by unfold zTk; rw [e0']; rfl
    rw [ecn] at te
    generalize zTk A r it = cnt at htk te ⊢
    generalize hm2 : zte m3 (S + 5 + 2 * A.2.2.1 r 1) (A.2.2.1 r 2) cnt = m2 at te
    have o2 : ∀ c, c ≠ 67 → c ≠ 70 → m2 c = m3 c := fun c c1 c2 => by
      rw [← hm2, zte_c c2 c1]
    have s67 : ∀ i, i ≠ 2 → i ≠ 3 → m2 67 i = if i = 0 then 1 else m 67 i := fun i i2 i3 => by
      rw [← hm2, zte_7 i2 i3, o3 _ (by omega), B67]
    have z3 : m2 67 3 = cnt := by rw [← hm2, zte_3]
    have t2 : m3 (S + 12 + 3 * r) 2 = A.2.2.1 r 2 := by rw [R3 2 (by decide)]; exact tR 2 (by decide) (by decide)
    have t9 : mB (S + 12 + 3 * r) 9 = S + 13 + 3 * r := by rw [oB _ (by omega) (by omega) (by omega) (by omega) (by omega)]; exact g9
    have tA9 : mA (S + 12 + 3 * r) 9 = S + 13 + 3 * r := by rw [a2 _ (by omega) (by omega), qa_up_no _ (by omega)]; exact g9
    have t30 : m3 67 0 = 1 := by rw [o3 _ (by omega), B67, if_pos rfl]
    have u2 : m2 (S + 12 + 3 * r) 2 = A.2.2.1 r 2 := by rw [o2 _ (by omega) (by omega)]; exact t2
    have u7 : m2 (S + 12 + 3 * r) 7 = A.2.2.1 r 7 := by rw [o2 _ (by omega) (by omega), R3 7 (by decide)]; exact tR 7 (by decide) (by decide)
    refine ⟨qa_up (qa_up m2 (S + 12 + 3 * r) 2 (A.2.2.1 r 2 + cnt)) (S + 12 + 3 * r) 7 (A.2.2.1 r 7 + cnt), ?_, fun c c1 c2 c3 c4 c5 c6 c7 => ?_, ⟨?_, ?_, ?_⟩, ?_, ?_, ?_, fun _ j j1 j2 => ?_, fun i i1 i2 => ?_, fun j j2 j7 j8 => ?_, ?_, ?_, ?_, ?_, fun j j1 j2 => ?_, fun j j1 j2 => ?_⟩
    · unfold f_X4_take
      refine qa_fn_eq ?_ (by simp)
      simp (disch := omega) [ev_X4_take_0, ev_X4_take_1, ev_X4_take_2, ev_X4_take_3, ev_X4_take_4, ev_X4_take_5, B_X4_take_0, B_X4_take_1, B_X4_take_2, B_X4_take_3, B_X4_take_4, B_X4_take_5, x_const, x_iadd, x_isub, x_imul, x_idiv, x_irem, x_ineg, x_dup, x_dup_x1, x_dup2, x_pop, x_goto, x_ifeq, x_ifne, x_iflt, x_ifge, x_ifgt, x_ifle, x_cmpeq, x_cmpne, x_cmplt, x_cmpge, x_cmpgt, x_cmple, x_null, x_nonnull, x_acmpeq, x_acmpne, x_get, x_put, x_putz, x_ald, x_ast, x_bast, x_zast, x_aast, x_alen, x_obj, x_ret, x_retz, x_vret, x_max, x_min, x_copy, x_i2l, qg_none, qg_inl, qg_inr, qg_ite, xr1, xr0, xrE, xri, xl0, xl1, xl2, xl3, xl4, xl5, xl6, xl7, xl8, xl9, xl10, xs0, xs1, xs2, xs3, xs4, xs5, xs6, xs7, xs8, xs9, xs10, xi0, xi1, xi2, xi3, xi4, xi5, xi6, xi7, xi8, xi9, xi10, xc0, xc1, xc2, xc3, xc4, xc5, xc6, xc7, xv1, xv2, xv3, xv4, xv5, xv6, xv7, dT_le, dF_le, dT_lt, dF_lt, dT_eq, dF_eq, qa_up_hit, qa_up_no, kd67, kd68, kr, kdd, g9, d9, h9, m1, a1, tA9, b1, v8, hm3, t2, t30, te, z3, u2, u7]
    · rw [← oB c c1 c2 c3 c6 c7, ← o3 c c5, ← o2 c c1 c4]
      funext i
      rw [qa_up_no _ (fun z => c5 z.1), qa_up_no _ (fun z => c5 z.1)]
    · rw [qa_up_no _ (by omega), qa_up_no _ (by omega), s67 _ (by decide) (by decide), if_neg (by decide)]; exact m1
    · rw [qa_up_no _ (by omega), qa_up_no _ (by omega), s67 _ (by decide) (by decide), if_neg (by decide)]; exact m4
    · rw [qa_up_no _ (by omega), qa_up_no _ (by omega), o2 _ (by decide) (by decide)]; exact M3.2.2
    · rw [qa_up_no _ (by omega), qa_up_no _ (by omega), s67 _ (by decide) (by decide), if_pos rfl, e0']
    · rw [qa_up_no _ (by omega), qa_up_no _ (by omega), ← hm2]
      unfold zte
      rw [if_neg (by omega), if_pos ⟨rfl, rfl⟩]
    · rw [qa_up_no _ (by omega), qa_up_no _ (by omega), z3]
    · rw [qa_up_no _ (by omega), qa_up_no _ (by omega), o2 _ (by decide) (by decide), o3 _ (by omega), b2 _ (by omega) (by omega), a3 j j1 j2, qa_up_no _ (by omega)]
      exact tD j j1 j2
    · rw [qa_up_no _ (by omega), qa_up_no _ (by omega), ← hm2]
      unfold zte
      rw [if_pos ⟨rfl, i1, i2⟩, o3 _ (by omega), oB _ (by omega) (by omega) (by omega) (by omega) (by omega)]
    · rw [qa_up_no _ (fun z => j7 z.2), qa_up_no _ (fun z => j2 z.2), o2 _ (by omega) (by omega), R3 j j8]
    · rw [qa_up_no _ (by omega), qa_up_hit]
    · rw [qa_up_hit]
    · rw [qa_up_no _ (by omega), qa_up_no _ (by omega), o2 _ (by omega) (by omega), e0', ← hm3, qa_up_hit]
    · rw [qa_up_no _ (by omega), qa_up_no _ (by omega), o2 _ (by omega) (by omega), o3 _ (by omega)]; exact b3
    · rw [qa_up_no _ (by omega), qa_up_no _ (by omega), o2 _ (by omega) (by omega), o3 _ (by omega), b4 j j1 j2]
      unfold zSeat
      have : j = 0 ∨ j = 1 ∨ j = 2 ∨ j = 3 ∨ j = 4 ∨ j = 5 ∨ j = 6 := by omega
      rcases this with rfl | rfl | rfl | rfl | rfl | rfl | rfl <;> simp
    · rw [qa_up_no _ (by omega), qa_up_no _ (by omega), o2 _ (by omega) (by omega), o3 _ (by omega), b5 j j1 j2]
  · have e0 : zHas A r = 0 := if_neg h9
    have hC1 : RC A (qa_up m 67 0 0) kd S := RC_keep hC (fun c c1 c2 => by funext i; exact qa_up_no _ (by omega)) (fun e he => ⟨by funext i; exact qa_up_no _ (fun z => by rw [z.1, kd67] at he; cases he), rfl⟩)
    have te := c_takeEntries (m := qa_up m 67 0 0) (w := w) (mx := it) hK hC1 hW hS3 hKD ⟨by rw [qa_up_no _ (by omega)]; exact m1, by rw [qa_up_no _ (by omega)]; exact m4, by rw [qa_up_no _ (by omega)]; exact m7⟩ hh ⟨hwr.2.1, hwr.2.2.1⟩ ⟨by omega, by omega⟩
    have ecn : (if it ≤ A.2.1 (A.2.2.1 r 1) 5 - A.2.2.1 r 2 then it else A.2.1 (A.2.2.1 r 1) 5 - A.2.2.1 r 2) = zTk A r it := by unfold zTk; rw [e0, Int.sub_zero]
    rw [ecn] at te
    generalize zTk A r it = cnt at htk te ⊢
    generalize hm2 : zte (qa_up m 67 0 0) (S + 5 + 2 * A.2.2.1 r 1) (A.2.2.1 r 2) cnt = m2 at te
    have o2 : ∀ c, c ≠ 67 → c ≠ 70 → m2 c = m c := fun c c1 c2 => by
      rw [← hm2, zte_c c2 c1]
      funext i
      exact qa_up_no _ (fun z => c1 z.1)
    have z0 : m2 67 0 = 0 := by rw [← hm2, zte_7 (by decide) (by decide), qa_up_hit]
    have z3 : m2 67 3 = cnt := by rw [← hm2, zte_3]
    have u2 : m2 (S + 12 + 3 * r) 2 = A.2.2.1 r 2 := by rw [o2 _ (by omega) (by omega)]; exact tR 2 (by decide) (by decide)
    have u2' : m (S + 12 + 3 * r) 2 = A.2.2.1 r 2 := tR 2 (by decide) (by decide)
    have u7 : m2 (S + 12 + 3 * r) 7 = A.2.2.1 r 7 := by rw [o2 _ (by omega) (by omega)]; exact tR 7 (by decide) (by decide)
    have hd := hwd.2.2.2.2.2.2 (by omega)
    have n67 : ¬ (S + 12 + 3 * r = 67) := by omega
    refine ⟨qa_up (qa_up m2 (S + 12 + 3 * r) 2 (A.2.2.1 r 2 + cnt)) (S + 12 + 3 * r) 7 (A.2.2.1 r 7 + cnt), ?_, fun c c1 c2 c3 c4 c5 c6 c7 => ?_, ⟨?_, ?_, ?_⟩, ?_, ?_, ?_, fun z => by omega, fun i i1 i2 => ?_, fun j j2 j7 j8 => ?_, ?_, ?_, ?_, ?_, fun j j1 j2 => ?_, fun j j1 j2 => ?_⟩
    · unfold f_X4_take
      refine qa_fn_eq ?_ (by simp)
      simp (disch := omega) [ev_X4_take_0, ev_X4_take_1, ev_X4_take_2, ev_X4_take_3, ev_X4_take_4, ev_X4_take_5, B_X4_take_0, B_X4_take_1, B_X4_take_2, B_X4_take_3, B_X4_take_4, B_X4_take_5, x_const, x_iadd, x_isub, x_imul, x_idiv, x_irem, x_ineg, x_dup, x_dup_x1, x_dup2, x_pop, x_goto, x_ifeq, x_ifne, x_iflt, x_ifge, x_ifgt, x_ifle, x_cmpeq, x_cmpne, x_cmplt, x_cmpge, x_cmpgt, x_cmple, x_null, x_nonnull, x_acmpeq, x_acmpne, x_get, x_put, x_putz, x_ald, x_ast, x_bast, x_zast, x_aast, x_alen, x_obj, x_ret, x_retz, x_vret, x_max, x_min, x_copy, x_i2l, qg_none, qg_inl, qg_inr, qg_ite, xr1, xr0, xrE, xri, xl0, xl1, xl2, xl3, xl4, xl5, xl6, xl7, xl8, xl9, xl10, xs0, xs1, xs2, xs3, xs4, xs5, xs6, xs7, xs8, xs9, xs10, xi0, xi1, xi2, xi3, xi4, xi5, xi6, xi7, xi8, xi9, xi10, xc0, xc1, xc2, xc3, xc4, xc5, xc6, xc7, xv1, xv2, xv3, xv4, xv5, xv6, xv7, dT_le, dF_le, dT_lt, dF_lt, dT_eq, dF_eq, qa_up_hit, qa_up_no, kd67, kr, kdd, g9, d9, h9, u2', te, z3, u2, u7]
    · rw [← o2 c c1 c4]
      funext i
      rw [qa_up_no _ (fun z => c5 z.1), qa_up_no _ (fun z => c5 z.1)]
    · rw [qa_up_no _ (by omega), qa_up_no _ (by omega), ← hm2, zte_7 (by decide) (by decide), qa_up_no _ (by omega)]; exact m1
    · rw [qa_up_no _ (by omega), qa_up_no _ (by omega), ← hm2, zte_7 (by decide) (by decide), qa_up_no _ (by omega)]; exact m4
    · rw [qa_up_no _ (by omega), qa_up_no _ (by omega), o2 _ (by decide) (by decide)]; exact m7
    · rw [qa_up_no _ (by omega), qa_up_no _ (by omega), z0, e0]
    · rw [qa_up_no _ (by omega), qa_up_no _ (by omega), ← hm2]
      unfold zte
      rw [if_neg (by omega), if_pos ⟨rfl, rfl⟩]
    · rw [qa_up_no _ (by omega), qa_up_no _ (by omega), z3]
    · rw [qa_up_no _ (by omega), qa_up_no _ (by omega), ← hm2]
      unfold zte
      rw [if_pos ⟨rfl, i1, i2⟩, qa_up_no _ (by omega)]
    · rw [qa_up_no _ (fun z => j7 z.2), qa_up_no _ (fun z => j2 z.2), o2 _ (by omega) (by omega)]
    · rw [qa_up_no _ (by omega), qa_up_hit]
    · rw [qa_up_hit]
    · rw [qa_up_no _ (by omega), qa_up_no _ (by omega), o2 _ (by omega) (by omega), e0, tR 8 (by decide) (by decide), Int.add_zero]
    · rw [qa_up_no _ (by omega), qa_up_no _ (by omega), o2 _ (by omega) (by omega)]; exact g7
    · rw [qa_up_no _ (by omega), qa_up_no _ (by omega), o2 _ (by omega) (by omega), tD j j1 j2]
      obtain ⟨x10, x11, x12, x13, x14, x15, -⟩ := hd
      have x9 : A.2.2.1 r 9 = 0 := by omega
      have : j = 0 ∨ j = 1 ∨ j = 2 ∨ j = 3 ∨ j = 4 ∨ j = 5 ∨ j = 6 := by omega
      rcases this with rfl | rfl | rfl | rfl | rfl | rfl | rfl
      · exact x9
      · exact x10
      · exact x11
      · exact x12
      · exact x13
      · exact x14
      · exact x15
    · rw [qa_up_no _ (by omega), qa_up_no _ (by omega), o2 _ (by omega) (by omega), eL r j q1 q2 q3 j1 j2]
      exact hd.2.2.2.2.2.2 (16 + j) (by omega) (by omega)
