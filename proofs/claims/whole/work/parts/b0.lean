def CPub (f : List qV → qA → Option qR) (args : List qV) (N N' : Int) (g g' : zG) (t e : Nat) (ans : Int) : Prop := ∀ m kd n c s, CI N g m kd n c s → ∃ m' kd' n' c' s', f args (m, kd, n, c, s) = some ((if e = 0 then .inl (some (t, ans)) else .inr e), (m', kd', n', c', s')) ∧ CI N' g' m' kd' n' c' s' ∧ (∀ x, 77 ≤ x → x ≤ 92 → m' x = m x ∧ kd' x = kd x) ∧ n ≤ n' ∧ c ≤ c' ∧ s ≤ s'
def MPub (f : List qV → qA → Option qR) (args : List qV) (N N' : Int) (g g' : zG) (t : Nat) (code ans : Int) : Prop := ∀ m kd w, MI N g m kd → ∃ m', f args (m, kd, w) = some (.inl (some (t, ans)), (m', kd, w)) ∧ MI N' g' m' kd ∧ m' 77 0 = code ∧ ∀ x, x < 77 ∨ 90 < x → m' x = m x
def zpt (N : Int) (g : zG) : Int := 4 * N + g.2.2.2.2.2.2.2.2.1.2.1
def PPub (N : Int) (g : zG) (f : List qV → qA → Option qR) (cargs : List qV) (h : List qV → qA → Option qR) (margs : List qV) (hs : List (Nat × Int)) : Prop := ∃ g' N' e code ans, GI N' g' ∧ N ≤ N' ∧ zpt N' g' ≤ zpt N g + 4 ∧ ((e = 0 ∧ code = 0) ∨ (e ≠ 0 ∧ (e, code) ∈ hs)) ∧ CPub f cargs N N' g g' 0 e ans ∧ MPub h margs N N' g g' 0 code ans
theorem MI_thr {N : Int} {g : zG} {m : Int → Int → Int} {kd : Int → Nat × Int} (h : MI N g m kd) (t : Int) : MI N g (qa_up m 77 0 t) kd := MI_fr h (fun x a b => by
  funext i
  exact qa_up_no _ (by omega)) (fun i hi => qa_up_no _ (fun z => hi z.2)) (fun _ _ _ => rfl)
theorem p_query {N : Int} {g : zG} (hG : GI N g) (hN : N ≤ 511) {f : List qV → qA → Option qR} {cargs : List qV} {h : List qV → qA → Option qR} {margs : List qV} {e1 e2 : Nat} {q : Int × Int} (hq : q.1 = 0 ∨ q.1 = 1 ∨ q.1 = 2) (h1 : e1 ≠ 0) (h2 : e2 ≠ 0) {hs : List (Nat × Int)} (hh : (q.1 = 1 → (e1, 1) ∈ hs) ∧ (q.1 = 2 → (e2, 2) ∈ hs)) (C : ∀ m kd n c s, CI N g m kd n c s → f cargs (m, kd, n, c, s) = zAns e1 e2 q m kd (n, c, s)) (M : ∀ m kd w, MI N g m kd → h margs (m, kd, w) = mAns q m kd w) : PPub N g f cargs h margs hs := by
  have MM : MPub h margs N (N + 1) g g 0 q.1 q.2 := fun m kd w i => by
    refine ⟨qa_up m 77 0 q.1, M m kd w i, MI_mono (MI_thr i q.1) (by omega), qa_up_hit _ _ _ _, fun x hx => ?_⟩
    funext j
    exact qa_up_no _ (by omega)
  have zp : zpt (N + 1) g ≤ zpt N g + 4 := by unfold zpt; omega
  rcases hq with z | z | z
  · refine ⟨g, N + 1, 0, q.1, q.2, GI_mono hG (by omega), by omega, zp, Or.inl ⟨rfl, z⟩, fun m kd n c s i => ?_, MM⟩
    refine ⟨m, kd, n, c, s, ?_, CI_mono i (by omega), fun _ _ _ => ⟨rfl, rfl⟩, Nat.le_refl _, Nat.le_refl _, Nat.le_refl _⟩
    rw [C m kd n c s i]
    unfold zAns
    rw [if_pos z, if_pos rfl]
  · refine ⟨g, N + 1, e1, q.1, q.2, GI_mono hG (by omega), by omega, zp, Or.inr ⟨h1, by rw [z]; exact hh.1 z⟩, fun m kd n c s i => ?_, MM⟩
    refine ⟨m, kd, n, c + 1, s + 6, ?_, CI_thr i, fun _ _ _ => ⟨rfl, rfl⟩, Nat.le_refl _, by omega, by omega⟩
    rw [C m kd n c s i]
    unfold zAns
    rw [if_neg (show ¬ q.1 = 0 by omega), if_pos z, if_neg h1]
  · refine ⟨g, N + 1, e2, q.1, q.2, GI_mono hG (by omega), by omega, zp, Or.inr ⟨h2, by rw [z]; exact hh.2 z⟩, fun m kd n c s i => ?_, MM⟩
    refine ⟨m, kd, n, c + 1, s + 6, ?_, CI_thr i, fun _ _ _ => ⟨rfl, rfl⟩, Nat.le_refl _, by omega, by omega⟩
    rw [C m kd n c s i]
    unfold zAns
    rw [if_neg (show ¬ q.1 = 0 by omega), if_neg (show ¬ q.1 = 1 by omega), if_neg h2]
theorem zA2_c (P Q : Prop) [Decidable P] [Decidable Q] (v : Int) : (zA2 P Q v).1 = 0 ∨ (zA2 P Q v).1 = 1 ∨ (zA2 P Q v).1 = 2 := by
  unfold zA2
  split
  · split <;> simp
  · simp
theorem zA1_c (P : Prop) [Decidable P] (v : Int) : (zA1 P v).1 = 0 ∨ (zA1 P v).1 = 1 ∨ (zA1 P v).1 = 2 := by
  unfold zA1
  split <;> simp
theorem zA1_c2 (P : Prop) [Decidable P] (v : Int) : (zA1 P v).1 ≠ 2 := by
  unfold zA1
  split <;> simp
theorem CI.q {N : Int} {g : zG} {m : Int → Int → Int} {kd : Int → Nat × Int} {n c s : Nat} (h : CI N g m kd n c s) : KS kd 3 ∧ RC g.1 m kd 3 ∧ kd 0 = (14, 0) ∧ m 0 1 = 3 ∧ m 0 0 = 1 ∧ m 0 4 = 64 ∧ kd 64 = (5, 0) ∧ m 64 0 = 65 ∧ kd 65 = (101, 11) ∧ m 64 2 = g.2.1 ∧ m 0 5 = 67 ∧ kd 67 = (8, 0) := by
  obtain ⟨hK, hC, hx, hn, h4, k64, h00, k1, x640, x65⟩ := h.1.f
  exact ⟨hK, hC, hx, hn, h00, h4, k64, x640, x65, h.1.2.2.2.1.1, h.1.z.2.2.2.1, h.2.2.1.1.1⟩
theorem p_branch {N : Int} {g : zG} (hG : GI N g) (hN : N ≤ 511) (b w : Int) : PPub N g f_X11_branch [(1, 0), (0, b), (0, w)] f_X12_branch [(1, 77), (0, b), (0, w)] [(1, 1), (2, 2)] := p_query hG hN (zA2_c _ _ _) (by decide) (by decide) ⟨fun _ => by decide, fun _ => by decide⟩ (fun m kd n c s i => cq_branch i.q.1 i.q.2.1 hG.1.1 i.q.2.2.1 i.q.2.2.2.1 b w) (fun m kd w' i => mq_branch i.1 i.2.1 i.2.2.1 hG.1.1 b w)
theorem p_latest {N : Int} {g : zG} (hG : GI N g) (hN : N ≤ 511) (b w : Int) : PPub N g f_X11_latest [(1, 0), (0, b), (0, w)] f_X12_latest [(1, 77), (0, b), (0, w)] [(1, 1), (2, 2)] := p_query hG hN (zA2_c _ _ _) (by decide) (by decide) ⟨fun _ => by decide, fun _ => by decide⟩ (fun m kd n c s i => cq_latest i.q.1 i.q.2.1 hG.1.1 i.q.2.2.1 i.q.2.2.2.1 b w) (fun m kd w' i => mq_latest i.1 i.2.1 i.2.2.1 hG.1.1 b w)
theorem p_entry {N : Int} {g : zG} (hG : GI N g) (hN : N ≤ 511) (b p w : Int) : PPub N g f_X11_entry [(1, 0), (0, b), (0, p), (0, w)] f_X12_entry [(1, 77), (0, b), (0, p), (0, w)] [(1, 1), (2, 2)] := p_query hG hN (zA2_c _ _ _) (by decide) (by decide) ⟨fun _ => by decide, fun _ => by decide⟩ (fun m kd n c s i => cq_entry i.q.1 i.q.2.1 hG.1.1 i.q.2.2.1 i.q.2.2.2.1 b p w) (fun m kd w' i => mq_entry i.1 i.2.1 i.2.2.1 hG.1.1 b p w)
theorem p_reader {N : Int} {g : zG} (hG : GI N g) (hN : N ≤ 511) (r w : Int) : PPub N g f_X11_reader [(1, 0), (0, r), (0, w)] f_X12_reader [(1, 77), (0, r), (0, w)] [(1, 1), (2, 2)] := p_query hG hN (zA2_c _ _ _) (by decide) (by decide) ⟨fun _ => by decide, fun _ => by decide⟩ (fun m kd n c s i => cq_reader i.q.1 i.q.2.1 hG.1.1 i.q.2.2.1 i.q.2.2.2.1 i.2.1 i.q.2.2.2.2.1 r w) (fun m kd w' i => mq_reader i.1 i.2.1 i.2.2.1 hG.1.1 i.2.2.2.2.2.2.1 r w)
theorem p_debt {N : Int} {g : zG} (hG : GI N g) (hN : N ≤ 511) (r w : Int) : PPub N g f_X11_debt [(1, 0), (0, r), (0, w)] f_X12_debt [(1, 77), (0, r), (0, w)] [(1, 1), (2, 2)] := p_query hG hN (zA2_c _ _ _) (by decide) (by decide) ⟨fun _ => by decide, fun _ => by decide⟩ (fun m kd n c s i => cq_debt i.q.1 i.q.2.1 hG.1.1 i.q.2.2.1 i.q.2.2.2.1 r w) (fun m kd w' i => mq_debt i.1 i.2.1 i.2.2.1 hG.1.1 r w)
theorem p_debtOf {N : Int} {g : zG} (hG : GI N g) (hN : N ≤ 511) (r w : Int) : PPub N g f_X11_debtOf [(1, 0), (0, r), (0, w)] f_X12_debtOf [(1, 77), (0, r), (0, w)] [(1, 1), (2, 2)] := p_query hG hN (zA2_c _ _ _) (by decide) (by decide) ⟨fun _ => by decide, fun _ => by decide⟩ (fun m kd n c s i => cq_debtOf i.q.1 i.q.2.1 hG.1.1 i.q.2.2.1 i.q.2.2.2.1 r w) (fun m kd w' i => mq_debtOf i.1 i.2.1 i.2.2.1 hG.1.1 r w)
theorem p_unread {N : Int} {g : zG} (hG : GI N g) (hN : N ≤ 511) (r w : Int) : PPub N g f_X11_unread [(1, 0), (0, r), (0, w)] f_X12_unread [(1, 77), (0, r), (0, w)] [(1, 1), (2, 2)] := p_query hG hN (zA2_c _ _ _) (by decide) (by decide) ⟨fun _ => by decide, fun _ => by decide⟩ (fun m kd n c s i => cq_unread i.q.1 i.q.2.1 hG.1.1 i.q.2.2.1 i.q.2.2.2.1 r w) (fun m kd w' i => mq_unread i.1 i.2.1 i.2.2.1 hG.1.1 r w)
theorem p_item {N : Int} {g : zG} (hG : GI N g) (hN : N ≤ 511) (r w : Int) : PPub N g f_X11_item [(1, 0), (0, r), (0, w)] f_X12_item [(1, 77), (0, r), (0, w)] [(1, 1), (2, 2)] := p_query hG hN (zA2_c _ _ _) (by decide) (by decide) ⟨fun _ => by decide, fun _ => by decide⟩ (fun m kd n c s i => cq_item i.2.2.1 i.q.1.1 hG.2.2.2.2.2.2.1.2.1 i.q.2.2.1 i.q.2.2.2.2.2.2.2.2.2.2.1 r w) (fun m kd w' i => mq_item i.1 i.2.1 i.2.2.2.2.2.2.2.2.1 hG.2.2.2.2.2.2.1.1 hG.2.2.2.2.2.2.1.2.2 r w)
theorem p_holder {N : Int} {g : zG} (hG : GI N g) (hN : N ≤ 511) (b : Int) : PPub N g f_X11_holder [(1, 0), (0, b)] f_X12_holder [(1, 77), (0, b)] [(1, 1)] := p_query hG hN (zA1_c _ _) (by decide) (by decide) ⟨fun _ => by decide, fun z => absurd z (zA1_c2 _ _)⟩ (fun m kd n c s i => cq_holder i.q.1 i.q.2.1 hG.1.1 i.q.2.2.1 i.q.2.2.2.1 i.2.1 hG.2.2.2.2.1 i.q.2.2.2.2.1 b) (fun m kd w' i => mq_holder i.1 i.2.1 i.2.2.1 hG.1.1 i.2.2.2.2.2.2.1 b)
theorem p_cause {N : Int} {g : zG} (hG : GI N g) (hN : N ≤ 511) (b : Int) : PPub N g f_X11_cause [(1, 0), (0, b)] f_X12_cause [(1, 77), (0, b)] [(1, 1)] := p_query hG hN (zA1_c _ _) (by decide) (by decide) ⟨fun _ => by decide, fun z => absurd z (zA1_c2 _ _)⟩ (fun m kd n c s i => cq_cause i.q.1 i.q.2.1 hG.1.1 i.q.2.2.1 i.q.2.2.2.1 i.2.1 hG.2.2.2.2.1 i.q.2.2.2.2.1 b) (fun m kd w' i => mq_cause i.1 i.2.1 i.2.2.1 hG.1.1 i.2.2.2.2.2.2.1 hG.2.2.2.2.1 b)
theorem p_slowest {N : Int} {g : zG} (hG : GI N g) (hN : N ≤ 511) (b : Int) : PPub N g f_X11_slowest [(1, 0), (0, b)] f_X12_slowest [(1, 77), (0, b)] [(1, 1)] := p_query hG hN (zA1_c _ _) (by decide) (by decide) ⟨fun _ => by decide, fun z => absurd z (zA1_c2 _ _)⟩ (fun m kd n c s i => cq_slowest i.q.1 i.q.2.1 hG.1.1 i.q.2.2.1 i.q.2.2.2.1 b) (fun m kd w' i => mq_slowest i.1 i.2.1 i.2.2.1 hG.1.1 b)
theorem p_age {N : Int} {g : zG} (hG : GI N g) (hN : N ≤ 511) (b : Int) : PPub N g f_X11_age [(1, 0), (0, b)] f_X12_age [(1, 77), (0, b)] [(1, 1)] := p_query hG hN (zA1_c _ _) (by decide) (by decide) ⟨fun _ => by decide, fun z => absurd z (zA1_c2 _ _)⟩ (fun m kd n c s i => cq_age i.q.1 i.q.2.1 hG.1.1 i.q.2.2.1 i.q.2.2.2.1 b) (fun m kd w' i => mq_age i.1 i.2.1 i.2.2.1 hG.1.1 b)
theorem p_promised {N : Int} {g : zG} (hG : GI N g) (hN : N ≤ 511) (b : Int) : PPub N g f_X11_promised [(1, 0), (0, b)] f_X12_promised [(1, 77), (0, b)] [(1, 1)] := p_query hG hN (zA1_c _ _) (by decide) (by decide) ⟨fun _ => by decide, fun z => absurd z (zA1_c2 _ _)⟩ (fun m kd n c s i => cq_promised i.q.1 i.q.2.1 hG.1.1 i.q.2.2.1 i.q.2.2.2.1 b) (fun m kd w' i => mq_promised i.1 i.2.1 i.2.2.1 hG.1.1 b)
theorem p_common {N : Int} {g : zG} (hG : GI N g) (hN : N ≤ 511) (b o : Int) : PPub N g f_X11_common [(1, 0), (0, b), (0, o)] f_X12_common [(1, 77), (0, b), (0, o)] [(1, 1)] := p_query hG hN (zA1_c _ _) (by decide) (by decide) ⟨fun _ => by decide, fun z => absurd z (zA1_c2 _ _)⟩ (fun m kd n c s i => cq_common i.q.1 i.q.2.1 hG.1.1 i.q.2.2.1 i.q.2.2.2.1 hG.1.2.1 (by decide) b o) (fun m kd w' i => mq_common i.1 i.2.1 i.2.2.1 hG.1.1 hG.1.2.1 b o)
theorem p_account {N : Int} {g : zG} (hG : GI N g) (hN : N ≤ 511) (w : Int) : PPub N g f_X11_account [(1, 0), (0, w)] f_X12_account [(1, 77), (0, w)] [(2, 1)] := p_query (e1 := 2) (e2 := 2) (q := zA1 (0 ≤ w ∧ w ≤ 10) (g.2.2.2.2.2.2.1 w)) hG hN (zA1_c _ _) (by decide) (by decide) ⟨fun _ => by decide, fun z => absurd z (zA1_c2 _ _)⟩ (fun m kd n c s i => by
  have e := cq_account (w := (n, c, s)) i.q.2.2.1 i.q.2.2.2.2.2.1 i.q.2.2.2.2.2.2.1 i.q.2.2.2.2.2.2.2.1 i.q.2.2.2.2.2.2.2.2.1 w
  by_cases h : 0 ≤ w ∧ w ≤ 10
  · rw [i.2.2.2.2.2.2.1 w h.1 h.2] at e; exact e
  · rw [zA1_1 h] at e ⊢; exact e) (fun m kd w' i => by
  have e := mq_account (w := w') i.1 i.2.1 w
  by_cases h : 0 ≤ w ∧ w ≤ 10
  · rw [i.2.2.2.2.2.2.2.1 w h.1 h.2] at e; exact e
  · rw [zA1_1 h] at e ⊢; exact e)
theorem p_count {N : Int} {g : zG} (hG : GI N g) (hN : N ≤ 511) (w : Int) : PPub N g f_X11_count [(1, 0), (0, w)] f_X12_count [(1, 77), (0, w)] [(2, 1)] := p_query (e1 := 2) (e2 := 2) (q := zA1 (0 ≤ w ∧ w ≤ 17) (vCount g.1 g.2.2.2.2.2.1 g.2.1 (g.2.2.2.2.2.2.2.1.1 + g.2.2.2.2.2.2.2.1.2.2.1) w)) hG hN (zA1_c _ _) (by decide) (by decide) ⟨fun _ => by decide, fun z => absurd z (zA1_c2 _ _)⟩ (fun m kd n c s i => by
  have d := i.2.2.1
  have ic := c_itemCount (m := m) (kd := kd) (w := (n, c, s)) i.q.2.2.2.2.2.2.2.2.2.2.2 ⟨by rw [d.2.2.1]; exact d.2.2.2.1, by rw [d.2.2.2.2.2.1]; exact d.2.2.2.2.2.2.1.1, by rw [d.2.2.2.2.2.1]; exact d.2.2.2.2.2.2.1.2⟩
  rw [d.2.2.2.2.2.1, d.2.2.1, Int.add_comm] at ic
  exact cq_count i.q.1 i.q.2.1 hG.1.1 i.q.2.2.1 i.q.2.2.2.1 i.2.1 i.q.2.2.2.2.1 i.q.2.2.2.2.2.1 i.q.2.2.2.2.2.2.1 i.q.2.2.2.2.2.2.2.2.2.1 i.q.2.2.2.2.2.2.2.2.2.2.1 i.q.2.2.2.2.2.2.2.2.2.2.2 ic w) (fun m kd w' i => mq_count i.1 i.2.1 i.2.2.1 hG.1.1 i.2.2.2.2.2.2.1 i.2.2.2.1.1 i.2.2.2.2.2.2.2.2.1.1 w)
