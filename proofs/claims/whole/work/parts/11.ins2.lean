section QS
variable {p : Program} {l : Launch} {e : Env} {R : Room} {s : State} {m : MethodId} {args : Array Value} {below : List Frame} {meth : Method} {c : Code} {Q : State → Prop} {cc : ByteArray} {nL : Nat} {own : String} {D : va_G} {A0 : Nat → Prop} {Ai : Int → Nat} {xb : Bool} {n0 c0 s0 : Nat} {r : qR} {pcs : Nat → Nat}
theorem qa_eta {v : qV} {t : Nat} (h : v.1 = t) : v = (t, v.2) := by rw [← h]
theorem qa_bin {pc : Nat} {f k : qI} (K : qa_OK p l e R s m args below meth c Q D A0 Ai n0 nL c0 s0 r pcs (pc + 1) k) (g : Int → Int → Int)
    (hf : ∀ ls st a o, f ls st a = some o → ∃ x y rs, st = (0, y) :: (0, x) :: rs ∧ k ls ((0, g x y) :: rs) a = some o ∧ (qa_rg x → qa_rg y → qa_rg (g x y) ∧ ∀ H locs kc ks LS rest, W p l e R s m args below meth c H locs kc ks Q (F0 m (pc + 1) LS (.int (Int32.ofInt (g x y)) :: rest)) → W p l e R s m args below meth c H locs kc ks Q (F0 m pc LS (.int (Int32.ofInt y) :: .int (Int32.ofInt x) :: rest)))) : qa_OK p l e R s m args below meth c Q D A0 Ai n0 nL c0 s0 r pcs pc f := by
  refine qa_gen K (fun ls st a o ho => ?_)
  obtain ⟨x, y, rs, rfl, h1, h2⟩ := hf ls st a o ho
  refine ⟨ls, _, pc + 1, Or.inl ⟨h1, rfl⟩, fun N g1 g2 => ⟨g1, qa_okl_cons (qa_oki (h2 (qa_rgi (qa_okl_hd (qa_okl_tl g2)) rfl) (qa_rgi (qa_okl_hd g2) rfl)).1) (qa_okl_tl (qa_okl_tl g2))⟩, fun _ N g1 g2 A H locs kc ks LS hL kk => ?_⟩
  exact (h2 (qa_rgi (qa_okl_hd (qa_okl_tl g2)) rfl) (qa_rgi (qa_okl_hd g2) rfl)).2 H locs kc ks LS _ (kk LS hL)
theorem ok_iadd (C : qa_C xb Ai p s m args meth c cc nL own A0 R c0 s0 r) {pc : Nat} {k : qI} (d : decode cc pc = .ok (.iadd, 1)) (K : qa_OK p l e R s m args below meth c Q D A0 Ai n0 nL c0 s0 r pcs (pc + 1) k) : qa_OK p l e R s m args below meth c Q D A0 Ai n0 nL c0 s0 r pcs pc (q_iadd k) := by
  refine qa_bin K (fun x y => x + y) (fun ls st a o ho => ?_)
  unfold q_iadd at ho
  split at ho
  · rename_i y x rs
    split at ho
    · rename_i h
      refine ⟨x.2, y.2, rs, by rw [← qa_eta h.1, ← qa_eta h.2.1], ho, fun hx hy => ⟨h.2.2, fun H locs kc ks LS rest kk => ?_⟩⟩
      refine lv_iadd C.1 C.2.1 d ?_
      rw [q_add hx hy h.2.2]
      exact kk
    · cases ho
  · cases ho
theorem ok_isub (C : qa_C xb Ai p s m args meth c cc nL own A0 R c0 s0 r) {pc : Nat} {k : qI} (d : decode cc pc = .ok (.isub, 1)) (K : qa_OK p l e R s m args below meth c Q D A0 Ai n0 nL c0 s0 r pcs (pc + 1) k) : qa_OK p l e R s m args below meth c Q D A0 Ai n0 nL c0 s0 r pcs pc (q_isub k) := by
  refine qa_bin K (fun x y => x - y) (fun ls st a o ho => ?_)
  unfold q_isub at ho
  split at ho
  · rename_i y x rs
    split at ho
    · rename_i h
      refine ⟨x.2, y.2, rs, by rw [← qa_eta h.1, ← qa_eta h.2.1], ho, fun hx hy => ⟨h.2.2, fun H locs kc ks LS rest kk => ?_⟩⟩
      refine lv_isub C.1 C.2.1 d ?_
      rw [q_sub hx hy h.2.2]
      exact kk
    · cases ho
  · cases ho
theorem ok_imul (C : qa_C xb Ai p s m args meth c cc nL own A0 R c0 s0 r) {pc : Nat} {k : qI} (d : decode cc pc = .ok (.imul, 1)) (K : qa_OK p l e R s m args below meth c Q D A0 Ai n0 nL c0 s0 r pcs (pc + 1) k) : qa_OK p l e R s m args below meth c Q D A0 Ai n0 nL c0 s0 r pcs pc (q_imul k) := by
  refine qa_bin K (fun x y => x * y) (fun ls st a o ho => ?_)
  unfold q_imul at ho
  split at ho
  · rename_i y x rs
    split at ho
    · rename_i h
      refine ⟨x.2, y.2, rs, by rw [← qa_eta h.1, ← qa_eta h.2.1], ho, fun hx hy => ⟨h.2.2, fun H locs kc ks LS rest kk => ?_⟩⟩
      refine lv_imul C.1 C.2.1 d ?_
      rw [q_mul hx hy h.2.2]
      exact kk
    · cases ho
  · cases ho
theorem ok_idiv (C : qa_C xb Ai p s m args meth c cc nL own A0 R c0 s0 r) {pc : Nat} {k : qI} (d : decode cc pc = .ok (.idiv, 1)) (K : qa_OK p l e R s m args below meth c Q D A0 Ai n0 nL c0 s0 r pcs (pc + 1) k) : qa_OK p l e R s m args below meth c Q D A0 Ai n0 nL c0 s0 r pcs pc (q_idiv k) := by
  refine qa_bin K (fun x y => x / y) (fun ls st a o ho => ?_)
  unfold q_idiv at ho
  split at ho
  · rename_i y x rs
    split at ho
    · rename_i h
      refine ⟨x.2, y.2, rs, by rw [← qa_eta h.1, ← qa_eta h.2.1], ho, fun hx hy => ⟨(q_div hx hy h.2.2.1 h.2.2.2).2, fun H locs kc ks LS rest kk => ?_⟩⟩
      refine lv_idiv C.1 C.2.1 d (q_ne0 hy h.2.2.2) ?_
      rw [(q_div hx hy h.2.2.1 h.2.2.2).1]
      exact kk
    · cases ho
  · cases ho
theorem ok_irem (C : qa_C xb Ai p s m args meth c cc nL own A0 R c0 s0 r) {pc : Nat} {k : qI} (d : decode cc pc = .ok (.irem, 1)) (K : qa_OK p l e R s m args below meth c Q D A0 Ai n0 nL c0 s0 r pcs (pc + 1) k) : qa_OK p l e R s m args below meth c Q D A0 Ai n0 nL c0 s0 r pcs pc (q_irem k) := by
  refine qa_bin K (fun x y => x % y) (fun ls st a o ho => ?_)
  unfold q_irem at ho
  split at ho
  · rename_i y x rs
    split at ho
    · rename_i h
      refine ⟨x.2, y.2, rs, by rw [← qa_eta h.1, ← qa_eta h.2.1], ho, fun hx hy => ⟨(q_rem hx hy h.2.2.1 h.2.2.2).2, fun H locs kc ks LS rest kk => ?_⟩⟩
      refine lv_irem C.1 C.2.1 d (q_ne0 hy h.2.2.2) ?_
      rw [(q_rem hx hy h.2.2.1 h.2.2.2).1]
      exact kk
    · cases ho
  · cases ho
theorem ok_ineg (C : qa_C xb Ai p s m args meth c cc nL own A0 R c0 s0 r) {pc : Nat} {k : qI} (d : decode cc pc = .ok (.ineg, 1)) (K : qa_OK p l e R s m args below meth c Q D A0 Ai n0 nL c0 s0 r pcs (pc + 1) k) : qa_OK p l e R s m args below meth c Q D A0 Ai n0 nL c0 s0 r pcs pc (q_ineg k) := by
  refine qa_gen K (fun ls st a o ho => ?_)
  unfold q_ineg at ho
  split at ho
  · rename_i x rs
    split at ho
    · rename_i h
      refine ⟨ls, (0, -x.2) :: rs, pc + 1, Or.inl ⟨ho, rfl⟩, fun N g1 g2 => ⟨g1, qa_okl_cons (qa_oki h.2) (qa_okl_tl g2)⟩, fun _ N g1 g2 A H locs kc ks LS hL kk => ?_⟩
      rw [List.map_cons, qa_eta h.1]
      refine lv_ineg C.1 C.2.1 d ?_
      rw [q_neg (qa_rgi (qa_okl_hd g2) h.1) h.2]
      exact kk LS hL
    · cases ho
  · cases ho
theorem ok_dup (C : qa_C xb Ai p s m args meth c cc nL own A0 R c0 s0 r) {pc : Nat} {k : qI} (d : decode cc pc = .ok (.dup, 1)) (K : qa_OK p l e R s m args below meth c Q D A0 Ai n0 nL c0 s0 r pcs (pc + 1) k) : qa_OK p l e R s m args below meth c Q D A0 Ai n0 nL c0 s0 r pcs pc (q_dup k) := by
  refine qa_gen K (fun ls st a o ho => ?_)
  unfold q_dup at ho
  split at ho
  · rename_i x rs
    split at ho
    · rename_i h
      exact ⟨ls, x :: x :: rs, pc + 1, Or.inl ⟨ho, rfl⟩, fun N g1 g2 => ⟨g1, qa_okl_cons (qa_okl_hd g2) g2⟩, fun _ N g1 g2 A H locs kc ks LS hL kk => lv_dup C.1 C.2.1 d (qa_cat1 A h) (kk LS hL)⟩
    · cases ho
  · cases ho
theorem ok_dup_x1 (C : qa_C xb Ai p s m args meth c cc nL own A0 R c0 s0 r) {pc : Nat} {k : qI} (d : decode cc pc = .ok (.dup_x1, 1)) (K : qa_OK p l e R s m args below meth c Q D A0 Ai n0 nL c0 s0 r pcs (pc + 1) k) : qa_OK p l e R s m args below meth c Q D A0 Ai n0 nL c0 s0 r pcs pc (q_dup_x1 k) := by
  refine qa_gen K (fun ls st a o ho => ?_)
  unfold q_dup_x1 at ho
  split at ho
  · rename_i x y rs
    split at ho
    · rename_i h
      exact ⟨ls, x :: y :: x :: rs, pc + 1, Or.inl ⟨ho, rfl⟩, fun N g1 g2 => ⟨g1, qa_okl_cons (qa_okl_hd g2) (qa_okl_cons (qa_okl_hd (qa_okl_tl g2)) (qa_okl_cons (qa_okl_hd g2) (qa_okl_tl (qa_okl_tl g2))))⟩, fun _ N g1 g2 A H locs kc ks LS hL kk => lv_dup_x1 C.1 C.2.1 d (qa_cat1 A h.1) (qa_cat1 A h.2) (kk LS hL)⟩
    · cases ho
  · cases ho
theorem ok_dup2 (C : qa_C xb Ai p s m args meth c cc nL own A0 R c0 s0 r) {pc : Nat} {k : qI} (d : decode cc pc = .ok (.dup2, 1)) (K : qa_OK p l e R s m args below meth c Q D A0 Ai n0 nL c0 s0 r pcs (pc + 1) k) : qa_OK p l e R s m args below meth c Q D A0 Ai n0 nL c0 s0 r pcs pc (q_dup2 k) := by
  refine qa_gen K (fun ls st a o ho => ?_)
  unfold q_dup2 at ho
  split at ho
  · rename_i x y rs
    split at ho
    · rename_i h
      exact ⟨ls, x :: y :: x :: y :: rs, pc + 1, Or.inl ⟨ho, rfl⟩, fun N g1 g2 => ⟨g1, qa_okl_cons (qa_okl_hd g2) (qa_okl_cons (qa_okl_hd (qa_okl_tl g2)) g2)⟩, fun _ N g1 g2 A H locs kc ks LS hL kk => lv_dup2_11 C.1 C.2.1 d (qa_cat1 A h.1) (qa_cat1 A h.2) (kk LS hL)⟩
    · cases ho
  · cases ho
theorem ok_pop (C : qa_C xb Ai p s m args meth c cc nL own A0 R c0 s0 r) {pc : Nat} {k : qI} (d : decode cc pc = .ok (.pop, 1)) (K : qa_OK p l e R s m args below meth c Q D A0 Ai n0 nL c0 s0 r pcs (pc + 1) k) : qa_OK p l e R s m args below meth c Q D A0 Ai n0 nL c0 s0 r pcs pc (q_pop k) := by
  refine qa_gen K (fun ls st a o ho => ?_)
  unfold q_pop at ho
  split at ho
  · rename_i x rs
    split at ho
    · rename_i h
      exact ⟨ls, rs, pc + 1, Or.inl ⟨ho, rfl⟩, fun N g1 g2 => ⟨g1, qa_okl_tl g2⟩, fun _ N g1 g2 A H locs kc ks LS hL kk => lv_pop C.1 C.2.1 d (qa_cat1 A h) (kk LS hL)⟩
    · cases ho
  · cases ho
theorem ok_goto (C : qa_C xb Ai p s m args meth c cc nL own A0 R c0 s0 r) {pc T : Nat} {off : Int} (d : decode cc pc = .ok (.goto off, 3)) (ht : (pc : Int) + off = (pcs T : Int)) : qa_OK p l e R s m args below meth c Q D A0 Ai n0 nL c0 s0 r pcs pc (q_goto T) := by
  refine qa_gen (pc' := pc) (k := fun _ _ _ => none) qa_dead (fun ls st a o ho => ?_)
  exact ⟨ls, st, pcs T, Or.inr ⟨T, (Option.some.inj ho).symm, rfl⟩, fun N g1 g2 => ⟨g1, g2⟩, fun _ N g1 g2 A H locs kc ks LS hL kk => lv_goto C.1 C.2.1 d ht (kk LS hL)⟩
theorem ok_fall {pc T : Nat} (ht : pc = pcs T) : qa_OK p l e R s m args below meth c Q D A0 Ai n0 nL c0 s0 r pcs pc (q_goto T) := by
  refine qa_gen (pc' := pc) (k := fun _ _ _ => none) qa_dead (fun ls st a o ho => ?_)
  exact ⟨ls, st, pcs T, Or.inr ⟨T, (Option.some.inj ho).symm, rfl⟩, fun N g1 g2 => ⟨g1, g2⟩, fun _ N g1 g2 A H locs kc ks LS hL kk => ht ▸ kk LS hL⟩
theorem qa_br1 {pc T : Nat} {k : qI} (K : qa_OK p l e R s m args below meth c Q D A0 Ai n0 nL c0 s0 r pcs (pc + 3) k) (P : Int → Prop) {f : qI}
    (hf : ∀ ls st a o, f ls st a = some o → ∃ x rs, st = (0, x) :: rs ∧ ((P x ∧ o = .inl (T, ls, rs, a)) ∨ (¬ P x ∧ k ls rs a = some o)))
    (hw : ∀ x, qa_rg x → ∀ H locs kc ks LS rest, (P x → W p l e R s m args below meth c H locs kc ks Q (F0 m (pcs T) LS rest)) → (¬ P x → W p l e R s m args below meth c H locs kc ks Q (F0 m (pc + 3) LS rest)) → W p l e R s m args below meth c H locs kc ks Q (F0 m pc LS (.int (Int32.ofInt x) :: rest))) : qa_OK p l e R s m args below meth c Q D A0 Ai n0 nL c0 s0 r pcs pc f := by
  refine qa_gen K (fun ls st a o ho => ?_)
  obtain ⟨x, rs, rfl, ⟨h1, h2⟩ | ⟨h1, h2⟩⟩ := hf ls st a o ho
  · exact ⟨ls, rs, pcs T, Or.inr ⟨T, h2, rfl⟩, fun N g1 g2 => ⟨g1, qa_okl_tl g2⟩, fun _ N g1 g2 A H locs kc ks LS hL kk => hw x (qa_rgi (qa_okl_hd g2) rfl) H locs kc ks LS _ (fun _ => kk LS hL) (fun z => absurd h1 z)⟩
  · exact ⟨ls, rs, pc + 3, Or.inl ⟨h2, rfl⟩, fun N g1 g2 => ⟨g1, qa_okl_tl g2⟩, fun _ N g1 g2 A H locs kc ks LS hL kk => hw x (qa_rgi (qa_okl_hd g2) rfl) H locs kc ks LS _ (fun z => absurd z h1) (fun _ => kk LS hL)⟩
theorem qa_br2 {pc T : Nat} {k : qI} (K : qa_OK p l e R s m args below meth c Q D A0 Ai n0 nL c0 s0 r pcs (pc + 3) k) (P : Int → Int → Prop) {f : qI}
    (hf : ∀ ls st a o, f ls st a = some o → ∃ x y rs, st = (0, y) :: (0, x) :: rs ∧ ((P x y ∧ o = .inl (T, ls, rs, a)) ∨ (¬ P x y ∧ k ls rs a = some o)))
    (hw : ∀ x y, qa_rg x → qa_rg y → ∀ H locs kc ks LS rest, (P x y → W p l e R s m args below meth c H locs kc ks Q (F0 m (pcs T) LS rest)) → (¬ P x y → W p l e R s m args below meth c H locs kc ks Q (F0 m (pc + 3) LS rest)) → W p l e R s m args below meth c H locs kc ks Q (F0 m pc LS (.int (Int32.ofInt y) :: .int (Int32.ofInt x) :: rest))) : qa_OK p l e R s m args below meth c Q D A0 Ai n0 nL c0 s0 r pcs pc f := by
  refine qa_gen K (fun ls st a o ho => ?_)
  obtain ⟨x, y, rs, rfl, ⟨h1, h2⟩ | ⟨h1, h2⟩⟩ := hf ls st a o ho
  · exact ⟨ls, rs, pcs T, Or.inr ⟨T, h2, rfl⟩, fun N g1 g2 => ⟨g1, qa_okl_tl (qa_okl_tl g2)⟩, fun _ N g1 g2 A H locs kc ks LS hL kk => hw x y (qa_rgi (qa_okl_hd (qa_okl_tl g2)) rfl) (qa_rgi (qa_okl_hd g2) rfl) H locs kc ks LS _ (fun _ => kk LS hL) (fun z => absurd h1 z)⟩
  · exact ⟨ls, rs, pc + 3, Or.inl ⟨h2, rfl⟩, fun N g1 g2 => ⟨g1, qa_okl_tl (qa_okl_tl g2)⟩, fun _ N g1 g2 A H locs kc ks LS hL kk => hw x y (qa_rgi (qa_okl_hd (qa_okl_tl g2)) rfl) (qa_rgi (qa_okl_hd g2) rfl) H locs kc ks LS _ (fun z => absurd z h1) (fun _ => kk LS hL)⟩
theorem ok_ifeq (C : qa_C xb Ai p s m args meth c cc nL own A0 R c0 s0 r) {pc T : Nat} {off : Int} {k : qI} (d : decode cc pc = .ok (.ifCond .eq off, 3)) (ht : (pc : Int) + off = (pcs T : Int)) (K : qa_OK p l e R s m args below meth c Q D A0 Ai n0 nL c0 s0 r pcs (pc + 3) k) : qa_OK p l e R s m args below meth c Q D A0 Ai n0 nL c0 s0 r pcs pc (q_ifeq T k) := by
  refine qa_br1 (T := T) K (fun x => x = 0) (fun ls st a o ho => ?_) (fun x hx H locs kc ks LS rest k1 k2 => ?_)
  · unfold q_ifeq at ho
    split at ho
    · rename_i x rs
      split at ho
      · rename_i h
        split at ho
        · rename_i h2
          exact ⟨x.2, rs, by rw [← qa_eta h], Or.inl ⟨h2, (Option.some.inj ho).symm⟩⟩
        · rename_i h2
          exact ⟨x.2, rs, by rw [← qa_eta h], Or.inr ⟨h2, ho⟩⟩
      · cases ho
    · cases ho
  · exact lv_if_eq C.1 C.2.1 d ht (fun z => k1 (by first | exact (q_eq0 hx).mp z | (have := q_lt0 hx; have := q_0lt hx; have := q_eq0 hx; have z0 := z; simp only [Int32.not_lt, q_0le hx, q_le0 hx, q_eq0 hx, q_lt0 hx, q_0lt hx] at z0; omega))) (fun z => k2 (by first | exact fun w => z ((q_eq0 hx).mpr w) | (have z0 := z; simp only [Int32.not_lt, Int32.not_le, q_0le hx, q_le0 hx, q_eq0 hx, q_lt0 hx, q_0lt hx] at z0; omega)))
theorem ok_ifne (C : qa_C xb Ai p s m args meth c cc nL own A0 R c0 s0 r) {pc T : Nat} {off : Int} {k : qI} (d : decode cc pc = .ok (.ifCond .ne off, 3)) (ht : (pc : Int) + off = (pcs T : Int)) (K : qa_OK p l e R s m args below meth c Q D A0 Ai n0 nL c0 s0 r pcs (pc + 3) k) : qa_OK p l e R s m args below meth c Q D A0 Ai n0 nL c0 s0 r pcs pc (q_ifne T k) := by
  refine qa_br1 (T := T) K (fun x => ¬ x = 0) (fun ls st a o ho => ?_) (fun x hx H locs kc ks LS rest k1 k2 => ?_)
  · unfold q_ifne at ho
    split at ho
    · rename_i x rs
      split at ho
      · rename_i h
        split at ho
        · rename_i h2
          exact ⟨x.2, rs, by rw [← qa_eta h], Or.inr ⟨not_not_intro h2, ho⟩⟩
        · rename_i h2
          exact ⟨x.2, rs, by rw [← qa_eta h], Or.inl ⟨h2, (Option.some.inj ho).symm⟩⟩
      · cases ho
    · cases ho
  · exact lv_if_ne C.1 C.2.1 d ht (fun z => k1 (by first | exact (not_congr (q_eq0 hx)).mp z | (have := q_lt0 hx; have := q_0lt hx; have := q_eq0 hx; have z0 := z; simp only [Int32.not_lt, q_0le hx, q_le0 hx, q_eq0 hx, q_lt0 hx, q_0lt hx] at z0; omega))) (fun z => k2 (by first | exact fun w => z ((not_congr (q_eq0 hx)).mpr w) | (have z0 := z; simp only [Int32.not_lt, Int32.not_le, q_0le hx, q_le0 hx, q_eq0 hx, q_lt0 hx, q_0lt hx] at z0; omega)))
theorem ok_iflt (C : qa_C xb Ai p s m args meth c cc nL own A0 R c0 s0 r) {pc T : Nat} {off : Int} {k : qI} (d : decode cc pc = .ok (.ifCond .lt off, 3)) (ht : (pc : Int) + off = (pcs T : Int)) (K : qa_OK p l e R s m args below meth c Q D A0 Ai n0 nL c0 s0 r pcs (pc + 3) k) : qa_OK p l e R s m args below meth c Q D A0 Ai n0 nL c0 s0 r pcs pc (q_iflt T k) := by
  refine qa_br1 (T := T) K (fun x => x < 0) (fun ls st a o ho => ?_) (fun x hx H locs kc ks LS rest k1 k2 => ?_)
  · unfold q_iflt at ho
    split at ho
    · rename_i x rs
      split at ho
      · rename_i h
        split at ho
        · rename_i h2
          exact ⟨x.2, rs, by rw [← qa_eta h], Or.inl ⟨h2, (Option.some.inj ho).symm⟩⟩
        · rename_i h2
          exact ⟨x.2, rs, by rw [← qa_eta h], Or.inr ⟨h2, ho⟩⟩
      · cases ho
    · cases ho
  · exact lv_if_lt C.1 C.2.1 d ht (fun z => k1 (by first | exact (q_lt0 hx).mp z | (have := q_lt0 hx; have := q_0lt hx; have := q_eq0 hx; have z0 := z; simp only [Int32.not_lt, q_0le hx, q_le0 hx, q_eq0 hx, q_lt0 hx, q_0lt hx] at z0; omega))) (fun z => k2 (by first | exact fun w => z ((q_lt0 hx).mpr w) | (have z0 := z; simp only [Int32.not_lt, Int32.not_le, q_0le hx, q_le0 hx, q_eq0 hx, q_lt0 hx, q_0lt hx] at z0; omega)))
theorem ok_ifge (C : qa_C xb Ai p s m args meth c cc nL own A0 R c0 s0 r) {pc T : Nat} {off : Int} {k : qI} (d : decode cc pc = .ok (.ifCond .ge off, 3)) (ht : (pc : Int) + off = (pcs T : Int)) (K : qa_OK p l e R s m args below meth c Q D A0 Ai n0 nL c0 s0 r pcs (pc + 3) k) : qa_OK p l e R s m args below meth c Q D A0 Ai n0 nL c0 s0 r pcs pc (q_ifge T k) := by
  refine qa_br1 (T := T) K (fun x => ¬ x < 0) (fun ls st a o ho => ?_) (fun x hx H locs kc ks LS rest k1 k2 => ?_)
  · unfold q_ifge at ho
    split at ho
    · rename_i x rs
      split at ho
      · rename_i h
        split at ho
        · rename_i h2
          exact ⟨x.2, rs, by rw [← qa_eta h], Or.inr ⟨not_not_intro h2, ho⟩⟩
        · rename_i h2
          exact ⟨x.2, rs, by rw [← qa_eta h], Or.inl ⟨h2, (Option.some.inj ho).symm⟩⟩
      · cases ho
    · cases ho
  · exact lv_if_ge C.1 C.2.1 d ht (fun z => k1 (by first | exact (not_congr (q_lt0 hx)).mp z | (have := q_lt0 hx; have := q_0lt hx; have := q_eq0 hx; have z0 := z; simp only [Int32.not_lt, q_0le hx, q_le0 hx, q_eq0 hx, q_lt0 hx, q_0lt hx] at z0; omega))) (fun z => k2 (by first | exact fun w => z ((not_congr (q_lt0 hx)).mpr w) | (have z0 := z; simp only [Int32.not_lt, Int32.not_le, q_0le hx, q_le0 hx, q_eq0 hx, q_lt0 hx, q_0lt hx] at z0; omega)))
theorem ok_ifgt (C : qa_C xb Ai p s m args meth c cc nL own A0 R c0 s0 r) {pc T : Nat} {off : Int} {k : qI} (d : decode cc pc = .ok (.ifCond .gt off, 3)) (ht : (pc : Int) + off = (pcs T : Int)) (K : qa_OK p l e R s m args below meth c Q D A0 Ai n0 nL c0 s0 r pcs (pc + 3) k) : qa_OK p l e R s m args below meth c Q D A0 Ai n0 nL c0 s0 r pcs pc (q_ifgt T k) := by
  refine qa_br1 (T := T) K (fun x => 0 < x) (fun ls st a o ho => ?_) (fun x hx H locs kc ks LS rest k1 k2 => ?_)
  · unfold q_ifgt at ho
    split at ho
    · rename_i x rs
      split at ho
      · rename_i h
        split at ho
        · rename_i h2
          exact ⟨x.2, rs, by rw [← qa_eta h], Or.inl ⟨h2, (Option.some.inj ho).symm⟩⟩
        · rename_i h2
          exact ⟨x.2, rs, by rw [← qa_eta h], Or.inr ⟨h2, ho⟩⟩
      · cases ho
    · cases ho
  · exact lv_if_gt C.1 C.2.1 d ht (fun z => k1 (by first | exact (q_0lt hx).mp z | (have := q_lt0 hx; have := q_0lt hx; have := q_eq0 hx; have z0 := z; simp only [Int32.not_lt, q_0le hx, q_le0 hx, q_eq0 hx, q_lt0 hx, q_0lt hx] at z0; omega))) (fun z => k2 (by first | exact fun w => z ((q_0lt hx).mpr w) | (have z0 := z; simp only [Int32.not_lt, Int32.not_le, q_0le hx, q_le0 hx, q_eq0 hx, q_lt0 hx, q_0lt hx] at z0; omega)))
theorem ok_ifle (C : qa_C xb Ai p s m args meth c cc nL own A0 R c0 s0 r) {pc T : Nat} {off : Int} {k : qI} (d : decode cc pc = .ok (.ifCond .le off, 3)) (ht : (pc : Int) + off = (pcs T : Int)) (K : qa_OK p l e R s m args below meth c Q D A0 Ai n0 nL c0 s0 r pcs (pc + 3) k) : qa_OK p l e R s m args below meth c Q D A0 Ai n0 nL c0 s0 r pcs pc (q_ifle T k) := by
  refine qa_br1 (T := T) K (fun x => ¬ 0 < x) (fun ls st a o ho => ?_) (fun x hx H locs kc ks LS rest k1 k2 => ?_)
  · unfold q_ifle at ho
    split at ho
    · rename_i x rs
      split at ho
      · rename_i h
        split at ho
        · rename_i h2
          exact ⟨x.2, rs, by rw [← qa_eta h], Or.inr ⟨not_not_intro h2, ho⟩⟩
        · rename_i h2
          exact ⟨x.2, rs, by rw [← qa_eta h], Or.inl ⟨h2, (Option.some.inj ho).symm⟩⟩
      · cases ho
    · cases ho
  · exact lv_if_le C.1 C.2.1 d ht (fun z => k1 (by first | exact (not_congr (q_0lt hx)).mp z | (have := q_lt0 hx; have := q_0lt hx; have := q_eq0 hx; have z0 := z; simp only [Int32.not_lt, q_0le hx, q_le0 hx, q_eq0 hx, q_lt0 hx, q_0lt hx] at z0; omega))) (fun z => k2 (by first | exact fun w => z ((not_congr (q_0lt hx)).mpr w) | (have z0 := z; simp only [Int32.not_lt, Int32.not_le, q_0le hx, q_le0 hx, q_eq0 hx, q_lt0 hx, q_0lt hx] at z0; omega)))
theorem ok_cmpeq (C : qa_C xb Ai p s m args meth c cc nL own A0 R c0 s0 r) {pc T : Nat} {off : Int} {k : qI} (d : decode cc pc = .ok (.if_icmp .eq off, 3)) (ht : (pc : Int) + off = (pcs T : Int)) (K : qa_OK p l e R s m args below meth c Q D A0 Ai n0 nL c0 s0 r pcs (pc + 3) k) : qa_OK p l e R s m args below meth c Q D A0 Ai n0 nL c0 s0 r pcs pc (q_cmpeq T k) := by
  refine qa_br2 (T := T) K (fun x y => x = y) (fun ls st a o ho => ?_) (fun x y hx hy H locs kc ks LS rest k1 k2 => ?_)
  · unfold q_cmpeq at ho
    split at ho
    · rename_i y x rs
      split at ho
      · rename_i h
        split at ho
        · rename_i h2
          exact ⟨x.2, y.2, rs, by rw [← qa_eta h.1, ← qa_eta h.2], Or.inl ⟨h2, (Option.some.inj ho).symm⟩⟩
        · rename_i h2
          exact ⟨x.2, y.2, rs, by rw [← qa_eta h.1, ← qa_eta h.2], Or.inr ⟨h2, ho⟩⟩
      · cases ho
    · cases ho
  · exact lv_icmp_eq C.1 C.2.1 d ht (fun z => k1 (by first | exact (q_eq hx hy).mp z | (have z0 := z; simp only [Int32.not_lt, q_le hx hy, q_le hy hx, q_lt hx hy, q_lt hy hx, q_eq hx hy] at z0; omega))) (fun z => k2 (by first | exact fun w => z ((q_eq hx hy).mpr w) | (have z0 := z; simp only [Int32.not_lt, Int32.not_le, q_le hx hy, q_le hy hx, q_lt hx hy, q_lt hy hx, q_eq hx hy] at z0; omega)))
theorem ok_cmpne (C : qa_C xb Ai p s m args meth c cc nL own A0 R c0 s0 r) {pc T : Nat} {off : Int} {k : qI} (d : decode cc pc = .ok (.if_icmp .ne off, 3)) (ht : (pc : Int) + off = (pcs T : Int)) (K : qa_OK p l e R s m args below meth c Q D A0 Ai n0 nL c0 s0 r pcs (pc + 3) k) : qa_OK p l e R s m args below meth c Q D A0 Ai n0 nL c0 s0 r pcs pc (q_cmpne T k) := by
  refine qa_br2 (T := T) K (fun x y => ¬ x = y) (fun ls st a o ho => ?_) (fun x y hx hy H locs kc ks LS rest k1 k2 => ?_)
  · unfold q_cmpne at ho
    split at ho
    · rename_i y x rs
      split at ho
      · rename_i h
        split at ho
        · rename_i h2
          exact ⟨x.2, y.2, rs, by rw [← qa_eta h.1, ← qa_eta h.2], Or.inr ⟨not_not_intro h2, ho⟩⟩
        · rename_i h2
          exact ⟨x.2, y.2, rs, by rw [← qa_eta h.1, ← qa_eta h.2], Or.inl ⟨h2, (Option.some.inj ho).symm⟩⟩
      · cases ho
    · cases ho
  · exact lv_icmp_ne C.1 C.2.1 d ht (fun z => k1 (by first | exact (not_congr (q_eq hx hy)).mp z | (have z0 := z; simp only [Int32.not_lt, q_le hx hy, q_le hy hx, q_lt hx hy, q_lt hy hx, q_eq hx hy] at z0; omega))) (fun z => k2 (by first | exact fun w => z ((not_congr (q_eq hx hy)).mpr w) | (have z0 := z; simp only [Int32.not_lt, Int32.not_le, q_le hx hy, q_le hy hx, q_lt hx hy, q_lt hy hx, q_eq hx hy] at z0; omega)))
theorem ok_cmplt (C : qa_C xb Ai p s m args meth c cc nL own A0 R c0 s0 r) {pc T : Nat} {off : Int} {k : qI} (d : decode cc pc = .ok (.if_icmp .lt off, 3)) (ht : (pc : Int) + off = (pcs T : Int)) (K : qa_OK p l e R s m args below meth c Q D A0 Ai n0 nL c0 s0 r pcs (pc + 3) k) : qa_OK p l e R s m args below meth c Q D A0 Ai n0 nL c0 s0 r pcs pc (q_cmplt T k) := by
  refine qa_br2 (T := T) K (fun x y => x < y) (fun ls st a o ho => ?_) (fun x y hx hy H locs kc ks LS rest k1 k2 => ?_)
  · unfold q_cmplt at ho
    split at ho
    · rename_i y x rs
      split at ho
      · rename_i h
        split at ho
        · rename_i h2
          exact ⟨x.2, y.2, rs, by rw [← qa_eta h.1, ← qa_eta h.2], Or.inl ⟨h2, (Option.some.inj ho).symm⟩⟩
        · rename_i h2
          exact ⟨x.2, y.2, rs, by rw [← qa_eta h.1, ← qa_eta h.2], Or.inr ⟨h2, ho⟩⟩
      · cases ho
    · cases ho
  · exact lv_icmp_lt C.1 C.2.1 d ht (fun z => k1 (by first | exact (q_lt hx hy).mp z | (have z0 := z; simp only [Int32.not_lt, q_le hx hy, q_le hy hx, q_lt hx hy, q_lt hy hx, q_eq hx hy] at z0; omega))) (fun z => k2 (by first | exact fun w => z ((q_lt hx hy).mpr w) | (have z0 := z; simp only [Int32.not_lt, Int32.not_le, q_le hx hy, q_le hy hx, q_lt hx hy, q_lt hy hx, q_eq hx hy] at z0; omega)))
theorem ok_cmpge (C : qa_C xb Ai p s m args meth c cc nL own A0 R c0 s0 r) {pc T : Nat} {off : Int} {k : qI} (d : decode cc pc = .ok (.if_icmp .ge off, 3)) (ht : (pc : Int) + off = (pcs T : Int)) (K : qa_OK p l e R s m args below meth c Q D A0 Ai n0 nL c0 s0 r pcs (pc + 3) k) : qa_OK p l e R s m args below meth c Q D A0 Ai n0 nL c0 s0 r pcs pc (q_cmpge T k) := by
  refine qa_br2 (T := T) K (fun x y => ¬ x < y) (fun ls st a o ho => ?_) (fun x y hx hy H locs kc ks LS rest k1 k2 => ?_)
  · unfold q_cmpge at ho
    split at ho
    · rename_i y x rs
      split at ho
      · rename_i h
        split at ho
        · rename_i h2
          exact ⟨x.2, y.2, rs, by rw [← qa_eta h.1, ← qa_eta h.2], Or.inr ⟨not_not_intro h2, ho⟩⟩
        · rename_i h2
          exact ⟨x.2, y.2, rs, by rw [← qa_eta h.1, ← qa_eta h.2], Or.inl ⟨h2, (Option.some.inj ho).symm⟩⟩
      · cases ho
    · cases ho
  · exact lv_icmp_ge C.1 C.2.1 d ht (fun z => k1 (by first | exact (not_congr (q_lt hx hy)).mp z | (have z0 := z; simp only [Int32.not_lt, q_le hx hy, q_le hy hx, q_lt hx hy, q_lt hy hx, q_eq hx hy] at z0; omega))) (fun z => k2 (by first | exact fun w => z ((not_congr (q_lt hx hy)).mpr w) | (have z0 := z; simp only [Int32.not_lt, Int32.not_le, q_le hx hy, q_le hy hx, q_lt hx hy, q_lt hy hx, q_eq hx hy] at z0; omega)))
theorem ok_cmpgt (C : qa_C xb Ai p s m args meth c cc nL own A0 R c0 s0 r) {pc T : Nat} {off : Int} {k : qI} (d : decode cc pc = .ok (.if_icmp .gt off, 3)) (ht : (pc : Int) + off = (pcs T : Int)) (K : qa_OK p l e R s m args below meth c Q D A0 Ai n0 nL c0 s0 r pcs (pc + 3) k) : qa_OK p l e R s m args below meth c Q D A0 Ai n0 nL c0 s0 r pcs pc (q_cmpgt T k) := by
  refine qa_br2 (T := T) K (fun x y => y < x) (fun ls st a o ho => ?_) (fun x y hx hy H locs kc ks LS rest k1 k2 => ?_)
  · unfold q_cmpgt at ho
    split at ho
    · rename_i y x rs
      split at ho
      · rename_i h
        split at ho
        · rename_i h2
          exact ⟨x.2, y.2, rs, by rw [← qa_eta h.1, ← qa_eta h.2], Or.inl ⟨h2, (Option.some.inj ho).symm⟩⟩
        · rename_i h2
          exact ⟨x.2, y.2, rs, by rw [← qa_eta h.1, ← qa_eta h.2], Or.inr ⟨h2, ho⟩⟩
      · cases ho
    · cases ho
  · exact lv_icmp_gt C.1 C.2.1 d ht (fun z => k1 (by first | exact (q_lt hy hx).mp z | (have z0 := z; simp only [Int32.not_lt, q_le hx hy, q_le hy hx, q_lt hx hy, q_lt hy hx, q_eq hx hy] at z0; omega))) (fun z => k2 (by first | exact fun w => z ((q_lt hy hx).mpr w) | (have z0 := z; simp only [Int32.not_lt, Int32.not_le, q_le hx hy, q_le hy hx, q_lt hx hy, q_lt hy hx, q_eq hx hy] at z0; omega)))
theorem ok_cmple (C : qa_C xb Ai p s m args meth c cc nL own A0 R c0 s0 r) {pc T : Nat} {off : Int} {k : qI} (d : decode cc pc = .ok (.if_icmp .le off, 3)) (ht : (pc : Int) + off = (pcs T : Int)) (K : qa_OK p l e R s m args below meth c Q D A0 Ai n0 nL c0 s0 r pcs (pc + 3) k) : qa_OK p l e R s m args below meth c Q D A0 Ai n0 nL c0 s0 r pcs pc (q_cmple T k) := by
  refine qa_br2 (T := T) K (fun x y => ¬ y < x) (fun ls st a o ho => ?_) (fun x y hx hy H locs kc ks LS rest k1 k2 => ?_)
  · unfold q_cmple at ho
    split at ho
    · rename_i y x rs
      split at ho
      · rename_i h
        split at ho
        · rename_i h2
          exact ⟨x.2, y.2, rs, by rw [← qa_eta h.1, ← qa_eta h.2], Or.inr ⟨not_not_intro h2, ho⟩⟩
        · rename_i h2
          exact ⟨x.2, y.2, rs, by rw [← qa_eta h.1, ← qa_eta h.2], Or.inl ⟨h2, (Option.some.inj ho).symm⟩⟩
      · cases ho
    · cases ho
  · exact lv_icmp_le C.1 C.2.1 d ht (fun z => k1 (by first | exact (not_congr (q_lt hy hx)).mp z | (have z0 := z; simp only [Int32.not_lt, q_le hx hy, q_le hy hx, q_lt hx hy, q_lt hy hx, q_eq hx hy] at z0; omega))) (fun z => k2 (by first | exact fun w => z ((not_congr (q_lt hy hx)).mpr w) | (have z0 := z; simp only [Int32.not_lt, Int32.not_le, q_le hx hy, q_le hy hx, q_lt hx hy, q_lt hy hx, q_eq hx hy] at z0; omega)))
end QS
