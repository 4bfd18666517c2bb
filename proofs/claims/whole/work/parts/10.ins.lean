section QS
variable {p : Program} {l : Launch} {e : Env} {R : Room} {s : State} {m : MethodId} {args : Array Value} {below : List Frame} {meth : Method} {c : Code} {Q : State → Prop} {cc : ByteArray} {nL : Nat} {own : String} {D : va_G} {A0 : Nat → Prop} {Ai : Int → Nat} {xb : Bool} {n0 c0 s0 : Nat} {r : qR} {pcs : Nat → Nat}
theorem qa_gen {pc pc' : Nat} {f k : qI} (K : qa_OK p l e R s m args below meth c Q D A0 Ai n0 nL c0 s0 r pcs pc' k)
    (hf : ∀ (ls st : List qV) (a : qA) (o : qO), f ls st a = some o → ∃ (ls' st' : List qV) (px : Nat), ((k ls' st' a = some o ∧ px = pc') ∨ ∃ T, o = .inl (T, ls', st', a) ∧ px = pcs T) ∧
      (∀ n : Nat, qa_okl n ls → qa_okl n st → qa_okl n ls' ∧ qa_okl n st') ∧
      (qa_wf a → ∀ n : Nat, qa_okl n ls → qa_okl n st → ∀ (A : Int → Nat) (H : Heap) (locs : List Loc) (kc ks : Nat) (LS : Array Slot), lv_has LS nL (qa_lv A ls) → (∀ LS' : Array Slot, lv_has LS' nL (qa_lv A ls') → W p l e R s m args below meth c H locs kc ks Q (F0 m px LS' (st'.map (qa_val A)))) → W p l e R s m args below meth c H locs kc ks Q (F0 m pc LS (st.map (qa_val A))))) : qa_OK p l e R s m args below meth c Q D A0 Ai n0 nL c0 s0 r pcs pc f := by
  intro ls st a o ho
  obtain ⟨ls', st', px, hk, hok, hw⟩ := hf ls st a o ho
  refine ⟨?_, fun g => ?_⟩
  · rcases hk with ⟨h1, -⟩ | ⟨T, h1, -⟩
    · exact (K _ _ _ _ h1).1
    · subst h1
      exact ⟨Nat.le_refl _, Nat.le_refl _, Nat.le_refl _⟩
  · intro A H locs kc ks LS hW hwf hls hst hn hA hS hL hc hs
    obtain ⟨o1, o2⟩ := hok _ hls hst
    refine hw hwf _ hls hst A H locs kc ks LS hL (fun LS' hL' => ?_)
    rcases hk with ⟨h1, h2⟩ | ⟨T, h1, h2⟩
    · rw [h2]
      exact (K _ _ _ _ h1).2 g A H locs kc ks LS' hW hwf o1 o2 hn hA hS hL' hc hs
    · subst h1
      rw [h2]
      exact g.2.2 A H locs kc ks LS' hW hwf o1 o2 hn hA hS hL' hc hs
theorem qa_dead {pc : Nat} : qa_OK p l e R s m args below meth c Q D A0 Ai n0 nL c0 s0 r pcs pc (fun _ _ _ => none) := fun _ _ _ _ h => nomatch h
theorem qa_okl_cons {n : Nat} {v : qV} {st : List qV} (h : qa_okv n v) (hs : qa_okl n st) : qa_okl n (v :: st) := fun x hx => (List.mem_cons.mp hx).elim (fun e => e ▸ h) (hs x)
theorem qa_okl_tl {n : Nat} {v : qV} {st : List qV} (hs : qa_okl n (v :: st)) : qa_okl n st := fun x hx => hs x (List.mem_cons_of_mem _ hx)
theorem qa_okl_hd {n : Nat} {v : qV} {st : List qV} (hs : qa_okl n (v :: st)) : qa_okv n v := hs v List.mem_cons_self
theorem qa_oki {n : Nat} {x : Int} (h : qa_rg x) : qa_okv n (0, x) := ⟨fun _ => h, fun h => nomatch h⟩
theorem qa_rgi {n : Nat} {v : qV} (h : qa_okv n v) (ht : v.1 = 0) : qa_rg v.2 := h.1 (Or.inl ht)
theorem qa_okn {n : Nat} : qa_okv n (1, -1) := ⟨fun h => absurd h (by decide), fun _ => by show (-1 : Int) < (n : Int); omega⟩
theorem ok_iconst (C : qa_C xb Ai p s m args meth c cc nL own A0 R c0 s0 r) {pc : Nat} {n : Int} {k : qI} (hn : qa_rg n) (d : decode cc pc = .ok (.iconst n, 1)) (K : qa_OK p l e R s m args below meth c Q D A0 Ai n0 nL c0 s0 r pcs (pc + 1) k) : qa_OK p l e R s m args below meth c Q D A0 Ai n0 nL c0 s0 r pcs pc (q_const (0, n) k) := by
  refine qa_gen K (fun ls st a o ho => ⟨ls, (0, n) :: st, pc + 1, Or.inl ⟨ho, rfl⟩, fun N h1 h2 => ⟨h1, qa_okl_cons (qa_oki hn) h2⟩, fun _ N h1 h2 A H locs kc ks LS hL kk => ?_⟩)
  exact lv_iconst C.1 C.2.1 d rfl (kk LS hL)
theorem ok_bipush (C : qa_C xb Ai p s m args meth c cc nL own A0 R c0 s0 r) {pc : Nat} {n : Int} {k : qI} (hn : qa_rg n ∧ (Int8.ofInt n).toInt32 = Int32.ofInt n) (d : decode cc pc = .ok (.bipush n, 2)) (K : qa_OK p l e R s m args below meth c Q D A0 Ai n0 nL c0 s0 r pcs (pc + 2) k) : qa_OK p l e R s m args below meth c Q D A0 Ai n0 nL c0 s0 r pcs pc (q_const (0, n) k) := by
  refine qa_gen K (fun ls st a o ho => ⟨ls, (0, n) :: st, pc + 2, Or.inl ⟨ho, rfl⟩, fun N h1 h2 => ⟨h1, qa_okl_cons (qa_oki hn.1) h2⟩, fun _ N h1 h2 A H locs kc ks LS hL kk => ?_⟩)
  exact lv_bipush C.1 C.2.1 d hn.2 (kk LS hL)
theorem ok_sipush (C : qa_C xb Ai p s m args meth c cc nL own A0 R c0 s0 r) {pc : Nat} {n : Int} {k : qI} (hn : qa_rg n ∧ (Int16.ofInt n).toInt32 = Int32.ofInt n) (d : decode cc pc = .ok (.sipush n, 3)) (K : qa_OK p l e R s m args below meth c Q D A0 Ai n0 nL c0 s0 r pcs (pc + 3) k) : qa_OK p l e R s m args below meth c Q D A0 Ai n0 nL c0 s0 r pcs pc (q_const (0, n) k) := by
  refine qa_gen K (fun ls st a o ho => ⟨ls, (0, n) :: st, pc + 3, Or.inl ⟨ho, rfl⟩, fun N h1 h2 => ⟨h1, qa_okl_cons (qa_oki hn.1) h2⟩, fun _ N h1 h2 A H locs kc ks LS hL kk => ?_⟩)
  exact lv_sipush C.1 C.2.1 d hn.2 (kk LS hL)
theorem ok_null (C : qa_C xb Ai p s m args meth c cc nL own A0 R c0 s0 r) {pc : Nat} {k : qI} (d : decode cc pc = .ok (.aconst_null, 1)) (K : qa_OK p l e R s m args below meth c Q D A0 Ai n0 nL c0 s0 r pcs (pc + 1) k) : qa_OK p l e R s m args below meth c Q D A0 Ai n0 nL c0 s0 r pcs pc (q_const (1, -1) k) := by
  refine qa_gen K (fun ls st a o ho => ⟨ls, (1, -1) :: st, pc + 1, Or.inl ⟨ho, rfl⟩, fun N h1 h2 => ⟨h1, qa_okl_cons qa_okn h2⟩, fun _ N h1 h2 A H locs kc ks LS hL kk => ?_⟩)
  exact lv_null C.1 C.2.1 d (kk LS hL)
theorem qa_ld {pc pc' t i : Nat} {k : qI} (ht : t < 8) (K : qa_OK p l e R s m args below meth c Q D A0 Ai n0 nL c0 s0 r pcs pc' k) (hw : ∀ (A : Int → Nat) (H : Heap) (locs : List Loc) (kc ks : Nat) (LS : Array Slot) (x : Int) (rest : List Value), LS[i]? = some (.val (qa_val A (t, x))) → W p l e R s m args below meth c H locs kc ks Q (F0 m pc' LS (qa_val A (t, x) :: rest)) → W p l e R s m args below meth c H locs kc ks Q (F0 m pc LS rest)) : qa_OK p l e R s m args below meth c Q D A0 Ai n0 nL c0 s0 r pcs pc (q_load t i k) := by
  refine qa_gen K (fun ls st a o ho => ?_)
  unfold q_load at ho
  split at ho
  · rename_i v hv
    split at ho
    · rename_i h
      have hvm := List.mem_of_getElem? hv
      refine ⟨ls, (t, v.2) :: st, pc', Or.inl ⟨ho, rfl⟩, fun N h1 h2 => ⟨h1, qa_okl_cons (by rw [← h]; exact h1 v hvm) h2⟩, fun _ N h1 h2 A H locs kc ks LS hL kk => ?_⟩
      refine hw A H locs kc ks LS v.2 _ ?_ (kk LS hL)
      have := qa_lv_at hL hv (by rw [h]; exact ht)
      rw [this, ← h]
    · cases ho
  · cases ho
theorem ok_iload_n (C : qa_C xb Ai p s m args meth c cc nL own A0 R c0 s0 r) {pc i : Nat} {q : Fin 4} {k : qI} (hq : (q : Nat) = i) (d : decode cc pc = .ok (.iload_n q, 1)) (K : qa_OK p l e R s m args below meth c Q D A0 Ai n0 nL c0 s0 r pcs (pc + 1) k) : qa_OK p l e R s m args below meth c Q D A0 Ai n0 nL c0 s0 r pcs pc (q_load 0 i k) :=
  qa_ld (by decide) K (fun A H locs kc ks LS x rest h kk => lv_iload_n C.1 C.2.1 d hq h kk)
theorem ok_iload (C : qa_C xb Ai p s m args meth c cc nL own A0 R c0 s0 r) {pc i : Nat} {k : qI} (d : decode cc pc = .ok (.iload i, 2)) (K : qa_OK p l e R s m args below meth c Q D A0 Ai n0 nL c0 s0 r pcs (pc + 2) k) : qa_OK p l e R s m args below meth c Q D A0 Ai n0 nL c0 s0 r pcs pc (q_load 0 i k) :=
  qa_ld (by decide) K (fun A H locs kc ks LS x rest h kk => lv_iload C.1 C.2.1 d h kk)
theorem ok_aload_n (C : qa_C xb Ai p s m args meth c cc nL own A0 R c0 s0 r) {pc i : Nat} {q : Fin 4} {k : qI} (hq : (q : Nat) = i) (d : decode cc pc = .ok (.aload_n q, 1)) (K : qa_OK p l e R s m args below meth c Q D A0 Ai n0 nL c0 s0 r pcs (pc + 1) k) : qa_OK p l e R s m args below meth c Q D A0 Ai n0 nL c0 s0 r pcs pc (q_load 1 i k) :=
  qa_ld (by decide) K (fun A H locs kc ks LS x rest h kk => by
    rw [qa_v1] at h kk
    by_cases hx : x = -1
    · subst hx
      exact lv_aload_nN C.1 C.2.1 d hq h kk
    · rw [qa_rfr hx] at h kk
      exact lv_aload_n C.1 C.2.1 d hq h kk)
theorem ok_aload (C : qa_C xb Ai p s m args meth c cc nL own A0 R c0 s0 r) {pc i : Nat} {k : qI} (d : decode cc pc = .ok (.aload i, 2)) (K : qa_OK p l e R s m args below meth c Q D A0 Ai n0 nL c0 s0 r pcs (pc + 2) k) : qa_OK p l e R s m args below meth c Q D A0 Ai n0 nL c0 s0 r pcs pc (q_load 1 i k) :=
  qa_ld (by decide) K (fun A H locs kc ks LS x rest h kk => by
    rw [qa_v1] at h kk
    by_cases hx : x = -1
    · subst hx
      exact lv_aloadN C.1 C.2.1 d h kk
    · rw [qa_rfr hx] at h kk
      exact lv_aload C.1 C.2.1 d h kk)
theorem ok_dload_n (C : qa_C xb Ai p s m args meth c cc nL own A0 R c0 s0 r) {pc i : Nat} {q : Fin 4} {k : qI} (hq : (q : Nat) = i) (d : decode cc pc = .ok (.dload_n q, 1)) (K : qa_OK p l e R s m args below meth c Q D A0 Ai n0 nL c0 s0 r pcs (pc + 1) k) : qa_OK p l e R s m args below meth c Q D A0 Ai n0 nL c0 s0 r pcs pc (q_load 4 i k) :=
  qa_ld (by decide) K (fun A H locs kc ks LS x rest h kk => lv_dload_n C.1 C.2.1 d hq h kk)
theorem ok_dload (C : qa_C xb Ai p s m args meth c cc nL own A0 R c0 s0 r) {pc i : Nat} {k : qI} (d : decode cc pc = .ok (.dload i, 2)) (K : qa_OK p l e R s m args below meth c Q D A0 Ai n0 nL c0 s0 r pcs (pc + 2) k) : qa_OK p l e R s m args below meth c Q D A0 Ai n0 nL c0 s0 r pcs pc (q_load 4 i k) :=
  qa_ld (by decide) K (fun A H locs kc ks LS x rest h kk => lv_dload C.1 C.2.1 d h kk)
theorem ok_fload (C : qa_C xb Ai p s m args meth c cc nL own A0 R c0 s0 r) {pc i : Nat} {k : qI} (d : decode cc pc = .ok (.fload i, 2)) (K : qa_OK p l e R s m args below meth c Q D A0 Ai n0 nL c0 s0 r pcs (pc + 2) k) : qa_OK p l e R s m args below meth c Q D A0 Ai n0 nL c0 s0 r pcs pc (q_load 3 i k) :=
  qa_ld (by decide) K (fun A H locs kc ks LS x rest h kk => lv_fload C.1 C.2.1 d h kk)
theorem qa_lv_set {A : Int → Nat} {ls : List qV} {LS : Array Slot} {nL i : Nat} {v : qV} (hfree : qa_free ls i = true) (hv : v.1 < 2 ∨ v.1 = 3) (hL : lv_has LS nL ((i, qa_val A v) :: (qa_lv A ls).filter (fun q => !(q.1 == i) && !(q.1 + 1 == i && q.2.category == 2)))) : lv_has LS nL (qa_lv A (ls.set i v)) := by
  refine ⟨hL.1, hL.2.1, fun q hq => ?_⟩
  obtain ⟨w, hw1, hw2, hw3⟩ := qa_lv_mem hq
  by_cases hi : q.1 = i
  · have hlt : i < ls.length := by
      have := (List.getElem?_eq_some_iff.mp hw1).1
      rw [List.length_set] at this
      omega
    rw [hi, List.getElem?_set_self hlt] at hw1
    cases hw1
    have : q = (i, qa_val A v) := by rw [← hw3, ← hi]
    rw [this]
    exact hL.2.2 _ List.mem_cons_self
  · rw [List.getElem?_set_ne (fun z => hi z.symm)] at hw1
    refine hL.2.2 q (List.mem_cons_of_mem _ (List.mem_filter.mpr ⟨?_, ?_⟩))
    · have := qa_mem_lv (A := A) hw1 hw2
      rw [← hw3] at this
      exact this
    · simp only [Bool.and_eq_true, Bool.not_eq_true', beq_eq_false_iff_ne, ne_eq, Bool.and_eq_false_imp, beq_iff_eq]
      refine ⟨hi, fun h1 h2 => ?_⟩
      subst h1
      unfold qa_free at hfree
      dsimp only at hfree
      rw [hw1] at hfree
      simp only [Bool.not_eq_true', Bool.or_eq_false_iff, beq_eq_false_iff_ne, ne_eq] at hfree
      rw [hw3] at h2
      unfold qa_val at h2
      split at h2
      · cases h2
      · split at h2
        · unfold qa_rf at h2
          split at h2 <;> cases h2
        · split at h2
          · exact hfree.1 (by assumption)
          · split at h2
            · cases h2
            · split at h2
              · exact hfree.2 (by assumption)
              · cases h2
theorem qa_okl_set {n i : Nat} {v : qV} {ls : List qV} (hs : qa_okl n ls) (h : qa_okv n v) : qa_okl n (ls.set i v) := fun x hx => by
  rcases List.mem_or_eq_of_mem_set hx with h1 | h1
  · exact hs x h1
  · rw [h1]; exact h
theorem qa_st {pc pc' t i : Nat} {k : qI} (ht : t < 2 ∨ t = 3) (K : qa_OK p l e R s m args below meth c Q D A0 Ai n0 nL c0 s0 r pcs pc' k) (hw : ∀ (A : Int → Nat) (H : Heap) (locs : List Loc) (kc ks : Nat) (LS : Array Slot) (x : Int) (ls : List qV) (rest : List Value), lv_has LS nL (qa_lv A ls) → i < nL → (∀ LS', lv_has LS' nL ((i, qa_val A (t, x)) :: (qa_lv A ls).filter (fun q => !(q.1 == i) && !(q.1 + 1 == i && q.2.category == 2))) → W p l e R s m args below meth c H locs kc ks Q (F0 m pc' LS' rest)) → W p l e R s m args below meth c H locs kc ks Q (F0 m pc LS (qa_val A (t, x) :: rest))) (hi : i < nL) : qa_OK p l e R s m args below meth c Q D A0 Ai n0 nL c0 s0 r pcs pc (q_store t i k) := by
  refine qa_gen K (fun ls st a o ho => ?_)
  unfold q_store at ho
  split at ho
  · rename_i v rs
    split at ho
    · rename_i h
      obtain ⟨h1, h2, h3⟩ := h
      refine ⟨ls.set i (t, v.2), rs, pc', Or.inl ⟨ho, rfl⟩, fun N g1 g2 => ⟨qa_okl_set g1 (by rw [← h1]; exact qa_okl_hd g2), qa_okl_tl g2⟩, fun _ N g1 g2 A H locs kc ks LS hL kk => ?_⟩
      have hv : v = (t, v.2) := by rw [← h1]
      have := hw A H locs kc ks LS v.2 ls (rs.map (qa_val A)) hL hi (fun LS' hL' => kk LS' (qa_lv_set h2 ht hL'))
      rw [List.map_cons, hv]
      exact this
    · cases ho
  · cases ho
theorem ok_istore_n (C : qa_C xb Ai p s m args meth c cc nL own A0 R c0 s0 r) {pc i : Nat} {q : Fin 4} {k : qI} (hq : (q : Nat) = i) (hi : i < nL) (d : decode cc pc = .ok (.istore_n q, 1)) (K : qa_OK p l e R s m args below meth c Q D A0 Ai n0 nL c0 s0 r pcs (pc + 1) k) : qa_OK p l e R s m args below meth c Q D A0 Ai n0 nL c0 s0 r pcs pc (q_store 0 i k) :=
  qa_st (by decide) K (fun A H locs kc ks LS x ls rest hL hn kk => lv_istore_n C.1 C.2.1 d hq hL hn rfl (fun LS' hL' => kk LS' hL')) hi
theorem ok_istore (C : qa_C xb Ai p s m args meth c cc nL own A0 R c0 s0 r) {pc i : Nat} {k : qI} (hi : i < nL) (d : decode cc pc = .ok (.istore i, 2)) (K : qa_OK p l e R s m args below meth c Q D A0 Ai n0 nL c0 s0 r pcs (pc + 2) k) : qa_OK p l e R s m args below meth c Q D A0 Ai n0 nL c0 s0 r pcs pc (q_store 0 i k) :=
  qa_st (by decide) K (fun A H locs kc ks LS x ls rest hL hn kk => lv_istore C.1 C.2.1 d hL hn rfl (fun LS' hL' => kk LS' hL')) hi
theorem ok_astore_n (C : qa_C xb Ai p s m args meth c cc nL own A0 R c0 s0 r) {pc i : Nat} {q : Fin 4} {k : qI} (hq : (q : Nat) = i) (hi : i < nL) (d : decode cc pc = .ok (.astore_n q, 1)) (K : qa_OK p l e R s m args below meth c Q D A0 Ai n0 nL c0 s0 r pcs (pc + 1) k) : qa_OK p l e R s m args below meth c Q D A0 Ai n0 nL c0 s0 r pcs pc (q_store 1 i k) :=
  qa_st (by decide) K (fun A H locs kc ks LS x ls rest hL hn kk => by
    rw [qa_v1] at kk ⊢
    by_cases hx : x = -1
    · subst hx
      exact lv_astore_nN C.1 C.2.1 d hq hL hn rfl (fun LS' hL' => kk LS' hL')
    · rw [qa_rfr hx] at kk ⊢
      exact lv_astore_n C.1 C.2.1 d hq hL hn rfl (fun LS' hL' => kk LS' hL')) hi
theorem ok_astore (C : qa_C xb Ai p s m args meth c cc nL own A0 R c0 s0 r) {pc i : Nat} {k : qI} (hi : i < nL) (d : decode cc pc = .ok (.astore i, 2)) (K : qa_OK p l e R s m args below meth c Q D A0 Ai n0 nL c0 s0 r pcs (pc + 2) k) : qa_OK p l e R s m args below meth c Q D A0 Ai n0 nL c0 s0 r pcs pc (q_store 1 i k) :=
  qa_st (by decide) K (fun A H locs kc ks LS x ls rest hL hn kk => by
    rw [qa_v1] at kk ⊢
    by_cases hx : x = -1
    · subst hx
      exact lv_astoreN C.1 C.2.1 d hL hn rfl (fun LS' hL' => kk LS' hL')
    · rw [qa_rfr hx] at kk ⊢
      exact lv_astore C.1 C.2.1 d hL hn rfl (fun LS' hL' => kk LS' hL')) hi
theorem ok_iinc (C : qa_C xb Ai p s m args meth c cc nL own A0 R c0 s0 r) {pc i : Nat} {n : Int} {k : qI} (hn : qa_rg n) (hi : i < nL) (d : decode cc pc = .ok (.iinc i n, 3)) (K : qa_OK p l e R s m args below meth c Q D A0 Ai n0 nL c0 s0 r pcs (pc + 3) k) : qa_OK p l e R s m args below meth c Q D A0 Ai n0 nL c0 s0 r pcs pc (q_iinc i n k) := by
  refine qa_gen K (fun ls st a o ho => ?_)
  unfold q_iinc at ho
  split at ho
  · rename_i v hv
    split at ho
    · rename_i h
      obtain ⟨h1, h2, h3⟩ := h
      have hvm := List.mem_of_getElem? hv
      refine ⟨ls.set i (0, v.2 + n), st, pc + 3, Or.inl ⟨ho, rfl⟩, fun N g1 g2 => ⟨qa_okl_set g1 (qa_oki h2), g2⟩, fun _ N g1 g2 A H locs kc ks LS hL kk => ?_⟩
      have hm := qa_mem_lv (A := A) hv (by rw [h1]; decide)
      obtain ⟨j, hj⟩ := List.getElem?_of_mem hm
      have hrv := qa_rgi (g1 v hvm) h1
      refine lv_iinc (v := Int32.ofInt (v.2 + n)) (k := j) C.1 C.2.1 d hL (x := Int32.ofInt v.2) ?_ (q_add hrv hn h2) hi rfl (fun LS' hL' => kk LS' (qa_lv_set h3 (Or.inl (by show 0 < 2; decide)) hL'))
      rw [hj]
      obtain ⟨t, x⟩ := v
      have : t = 0 := h1
      subst this
      rfl
    · cases ho
  · cases ho
end QS
