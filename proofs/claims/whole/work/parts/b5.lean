def PTrust (N : Int) (g : zG) (r : Int) : Prop := ∃ (e : Nat) (code va : Int), ((e = 0 ∧ code = 0) ∨ (e = 1 ∧ code = 1)) ∧ (e = 0 → N32 va) ∧ CPub f_X11_trust [(1, 0), (0, r)] N (N + 1) g g 3 e va ∧ ∀ m kd w, MI N g m kd → ∃ m' v, f_X12_trust [(1, 77), (0, r)] (m, kd, w) = some (.inl (some (3, v)), (m', kd, w)) ∧ N32 v ∧ (e = 0 → v = va) ∧ MI (N + 1) g m' kd ∧ m' 77 0 = code ∧ ∀ x, x < 77 ∨ 90 < x → m' x = m x
theorem p_trust {N : Int} {g : zG} (hG : GI N g) (r : Int) : PTrust N g r := by
  have C := fun m kd n c s (i : CI N g m kd n c s) => cq_trust (w := (n, c, s)) i.q.1 i.q.2.1 hG.1.1 i.q.2.2.1 i.q.2.2.2.1 r
  have M := fun m kd w (i : MI N g m kd) => mq_trust (w := w) i.1 i.2.1 i.2.2.1 hG.1.1 r
  by_cases hr : zRl g.1 r
  · simp only [zA1_v hr] at C M
    refine ⟨0, 0, vTrust g.1 r, Or.inl ⟨rfl, rfl⟩, fun _ => vTrust_N hG.1.1 hr, fun m kd n c s i => ⟨m, kd, n, c, s, C m kd n c s i, CI_mono i (by omega), fun _ _ _ => ⟨rfl, rfl⟩, Nat.le_refl _, Nat.le_refl _, Nat.le_refl _⟩, fun m kd w i => ?_⟩
    obtain ⟨v, e, hv, hz⟩ := M m kd w i
    refine ⟨_, v, e, hv, fun _ => hz hr, MI_mono (MI_thr i 0) (by omega), qa_up_hit _ _ _ _, fun x hx => ?_⟩
    funext j
    exact qa_up_no _ (by omega)
  · simp only [zA1_1 hr] at C M
    refine ⟨1, 1, 0, Or.inr ⟨rfl, rfl⟩, fun z => absurd z (by decide), fun m kd n c s i => ⟨m, kd, n, c + 1, s + 6, C m kd n c s i, CI_thr i, fun _ _ _ => ⟨rfl, rfl⟩, Nat.le_refl _, by omega, by omega⟩, fun m kd w i => ?_⟩
    obtain ⟨v, e, hv, hz⟩ := M m kd w i
    refine ⟨_, v, e, hv, fun z => absurd z (by decide), MI_mono (MI_thr i 1) (by omega), qa_up_hit _ _ _ _, fun x hx => ?_⟩
    funext j
    exact qa_up_no _ (by omega)
def q_hr (hs : List (Nat × Nat × Nat)) (k : qI) (ls r : List qV) (res : Option qR) : Option qO := match res with
  | some (.inl (some w), a') => k ls (w :: r) a'
  | some (.inl none, a') => k ls r a'
  | some (.inr E, a') => match hs.find? (fun q => q.1 == E) with
    | some q => if qa_free ls q.2.2 = true then some (.inl (q.2.1, ls.set q.2.2 (9, 0), [], a')) else none
    | none => none
  | none => none
theorem xhr1 (hs : List (Nat × Nat × Nat)) (k : qI) (ls r : List qV) (w : qV) (a : qA) : q_hr hs k ls r (some (.inl (some w), a)) = k ls (w :: r) a := rfl
theorem xhr0 (hs : List (Nat × Nat × Nat)) (k : qI) (ls r : List qV) (a : qA) : q_hr hs k ls r (some (.inl none, a)) = k ls r a := rfl
theorem xhrE1 (E b i : Nat) (hs : List (Nat × Nat × Nat)) (k : qI) (ls r : List qV) (a : qA) : q_hr ((E, b, i) :: hs) k ls r (some (.inr E, a)) = if qa_free ls i = true then some (.inl (b, ls.set i (9, 0), [], a)) else none := by
  simp [q_hr]
theorem xhrE2 (E E' b' i' b i : Nat) (h : E' ≠ E) (hs : List (Nat × Nat × Nat)) (k : qI) (ls r : List qV) (a : qA) : q_hr ((E', b', i') :: (E, b, i) :: hs) k ls r (some (.inr E, a)) = if qa_free ls i = true then some (.inl (b, ls.set i (9, 0), [], a)) else none := by
  simp [q_hr, h]
theorem xh_gen (ci : Nat) (f : List qV → qA → Option qR) (hs : List (Nat × Nat × Nat)) (k : qI) (ls : List qV) (o : Int) (nP : Nat) (st : List qV) (m : Int → Int → Int) (kd : Int → Nat × Int) (w : Nat × Nat × Nat) (hst : st[nP - 1]? = some (1, o)) (hl : 1 ≤ nP ∧ nP ≤ st.length) : q_callh ci f nP hs k ls st (m, kd, w) = if (kd o).1 = ci + 1 ∧ st.length ≤ nP + 4 then q_hr hs k ls (st.drop nP) (f (st.take nP).reverse (m, kd, w)) else none := by
  unfold q_callh
  rw [hst]
  dsimp only
  by_cases h : (kd o).1 = ci + 1 ∧ st.length ≤ nP + 4
  · rw [if_pos h, if_pos ⟨rfl, h.1, hl.1, hl.2, h.2⟩]
    rfl
  · rw [if_neg h, if_neg (fun z => h ⟨z.2.1, z.2.2.2.2⟩)]
theorem xh2 (ci : Nat) (f : List qV → qA → Option qR) (hs : List (Nat × Nat × Nat)) (k : qI) (ls : List qV) (o : Int) (v1 : qV) (r : List qV) (m : Int → Int → Int) (kd : Int → Nat × Int) (w : Nat × Nat × Nat) : q_callh ci f 2 hs k ls (v1 :: (1, o) :: r) (m, kd, w) = if (kd o).1 = ci + 1 ∧ r.length ≤ 4 then q_hr hs k ls r (f [(1, o), v1] (m, kd, w)) else none := by
  rw [xh_gen ci f hs k ls o 2 (v1 :: (1, o) :: r) m kd w rfl ⟨by decide, by simp⟩]
  by_cases h : (kd o).1 = ci + 1 ∧ r.length ≤ 4
  · rw [if_pos h, if_pos ⟨h.1, by simp; omega⟩]
    rfl
  · rw [if_neg h, if_neg (fun z => h ⟨z.1, by have := z.2; simp at this; omega⟩)]
theorem xh3 (ci : Nat) (f : List qV → qA → Option qR) (hs : List (Nat × Nat × Nat)) (k : qI) (ls : List qV) (o : Int) (v1 v2 : qV) (r : List qV) (m : Int → Int → Int) (kd : Int → Nat × Int) (w : Nat × Nat × Nat) : q_callh ci f 3 hs k ls (v2 :: v1 :: (1, o) :: r) (m, kd, w) = if (kd o).1 = ci + 1 ∧ r.length ≤ 4 then q_hr hs k ls r (f [(1, o), v1, v2] (m, kd, w)) else none := by
  rw [xh_gen ci f hs k ls o 3 (v2 :: v1 :: (1, o) :: r) m kd w rfl ⟨by decide, by simp⟩]
  by_cases h : (kd o).1 = ci + 1 ∧ r.length ≤ 4
  · rw [if_pos h, if_pos ⟨h.1, by simp; omega⟩]
    rfl
  · rw [if_neg h, if_neg (fun z => h ⟨z.1, by have := z.2; simp at this; omega⟩)]
theorem xh4 (ci : Nat) (f : List qV → qA → Option qR) (hs : List (Nat × Nat × Nat)) (k : qI) (ls : List qV) (o : Int) (v1 v2 v3 : qV) (r : List qV) (m : Int → Int → Int) (kd : Int → Nat × Int) (w : Nat × Nat × Nat) : q_callh ci f 4 hs k ls (v3 :: v2 :: v1 :: (1, o) :: r) (m, kd, w) = if (kd o).1 = ci + 1 ∧ r.length ≤ 4 then q_hr hs k ls r (f [(1, o), v1, v2, v3] (m, kd, w)) else none := by
  rw [xh_gen ci f hs k ls o 4 (v3 :: v2 :: v1 :: (1, o) :: r) m kd w rfl ⟨by decide, by simp⟩]
  by_cases h : (kd o).1 = ci + 1 ∧ r.length ≤ 4
  · rw [if_pos h, if_pos ⟨h.1, by simp; omega⟩]
    rfl
  · rw [if_neg h, if_neg (fun z => h ⟨z.1, by have := z.2; simp at this; omega⟩)]
theorem xh5 (ci : Nat) (f : List qV → qA → Option qR) (hs : List (Nat × Nat × Nat)) (k : qI) (ls : List qV) (o : Int) (v1 v2 v3 v4 : qV) (r : List qV) (m : Int → Int → Int) (kd : Int → Nat × Int) (w : Nat × Nat × Nat) : q_callh ci f 5 hs k ls (v4 :: v3 :: v2 :: v1 :: (1, o) :: r) (m, kd, w) = if (kd o).1 = ci + 1 ∧ r.length ≤ 4 then q_hr hs k ls r (f [(1, o), v1, v2, v3, v4] (m, kd, w)) else none := by
  rw [xh_gen ci f hs k ls o 5 (v4 :: v3 :: v2 :: v1 :: (1, o) :: r) m kd w rfl ⟨by decide, by simp⟩]
  by_cases h : (kd o).1 = ci + 1 ∧ r.length ≤ 4
  · rw [if_pos h, if_pos ⟨h.1, by simp; omega⟩]
    rfl
  · rw [if_neg h, if_neg (fun z => h ⟨z.1, by have := z.2; simp at this; omega⟩)]
