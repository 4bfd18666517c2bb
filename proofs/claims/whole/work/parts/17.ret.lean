section QS
variable {p : Program} {l : Launch} {e : Env} {R : Room} {s : State} {m : MethodId} {args : Array Value} {below : List Frame} {meth : Method} {c : Code} {cc : ByteArray} {nL : Nat} {own : String} {D : va_G} {A0 : Nat → Prop} {Ai : Int → Nat} {xb : Bool} {a0 : qA} {r : qR} {pcs : Nat → Nat}
theorem qa_retg (C : qa_C xb Ai p s m args meth c cc nL own A0 R a0.2.2.2.1 a0.2.2.2.2 r) {pc : Nat} {f : qI} (hf : ∀ ls st a o, f ls st a = some o → ∃ rv : Option qV, st = rv.toList ∧ o = .inr (.inl rv, a) ∧ ∀ (A : Int → Nat) (H : Heap) (locs : List Loc) (kc ks : Nat) (LS : Array Slot), (∀ t : State, t.heap = H → s.WarmedH t.vm → qa_Post D Ai a0 r A0 args s (.returned (rv.map (qa_val A))) t) → (∀ q ∈ locs, A0 q.base) → W p l e R s m args below meth c H locs kc ks (MQ below (qa_Post D Ai a0 r A0) args s kc ks A0) (F0 m pc LS (st.map (qa_val A)))) : qa_OK p l e R s m args below meth c (qa_Q below D Ai a0 r A0 args s) D A0 Ai a0.2.2.1 nL a0.2.2.2.1 a0.2.2.2.2 r pcs pc f := by
  intro ls st a o ho
  obtain ⟨rv, rfl, rfl, hw⟩ := hf ls st a o ho
  refine ⟨⟨Nat.le_refl _, Nat.le_refl _, Nat.le_refl _⟩, fun g => ?_⟩
  have g : (.inl rv, a) = r := g
  intro A H locs kc ks LS hW hwf hls hst hn hA hS hL hc hs
  have e1 : kc = r.2.2.2.2.1 - a0.2.2.2.1 := by rw [← g]; dsimp only; omega
  have e2 : ks = r.2.2.2.2.2 - a0.2.2.2.2 := by rw [← g]; dsimp only; omega
  have hv : ∀ v, rv = some v → qa_okv a.2.2.1 v := fun v h => hst v (by rw [h]; exact List.mem_cons_self)
  refine vx_ret ?_
  rw [← e1, ← e2]
  exact hw A H locs kc ks LS (fun t ht hWm => ⟨⟨A, rv, by rw [← g], rfl, hA, by rw [← g, ht]; exact hW.moved hWm.alike, by rw [← g]; exact hwf, by rw [← g]; exact hv⟩, hS.F ht⟩) hS.2.2
theorem ok_iret (C : qa_C xb Ai p s m args meth c cc nL own A0 R a0.2.2.2.1 a0.2.2.2.2 r) (hr : meth.sig.returnType = some .int) {pc : Nat} (d : decode cc pc = .ok (.ireturn, 1)) : qa_OK p l e R s m args below meth c (qa_Q below D Ai a0 r A0 args s) D A0 Ai a0.2.2.1 nL a0.2.2.2.1 a0.2.2.2.2 r pcs pc (q_ret 0) := by
  refine qa_retg C (fun ls st a o ho => ?_)
  unfold q_ret at ho
  split at ho
  · rename_i v
    split at ho
    · rename_i h
      refine ⟨some v, rfl, by rw [← qa_eta h] at ho; exact (Option.some.inj ho).symm, fun A H locs kc ks LS hq hf => ?_⟩
      rw [qa_eta h] at hq ⊢
      exact W.iret C.1 C.2.1 hr hq hf d C.2.2.2.2.2.1
    · cases ho
  · cases ho
def q_retz : qI := fun _ st a => match st with
  | v :: [] => if v.1 = 0 ∧ (v.2 = 0 ∨ v.2 = 1) then some (.inr (.inl (some (0, v.2)), a)) else none
  | _ => none
theorem ok_zret (C : qa_C xb Ai p s m args meth c cc nL own A0 R a0.2.2.2.1 a0.2.2.2.2 r) (hr : meth.sig.returnType = some .boolean) {pc : Nat} (d : decode cc pc = .ok (.ireturn, 1)) : qa_OK p l e R s m args below meth c (qa_Q below D Ai a0 r A0 args s) D A0 Ai a0.2.2.1 nL a0.2.2.2.1 a0.2.2.2.2 r pcs pc q_retz := by
  refine qa_retg C (fun ls st a o ho => ?_)
  unfold q_retz at ho
  split at ho
  · rename_i v
    split at ho
    · rename_i h
      refine ⟨some v, rfl, by rw [← qa_eta h.1] at ho; exact (Option.some.inj ho).symm, fun A H locs kc ks LS hq hf => ?_⟩
      rw [qa_eta h.1] at hq ⊢
      refine W.zret C.1 C.2.1 hr ?_ hq hf d C.2.2.2.2.2.1
      rcases h.2 with e | e <;> (rw [e]; rfl)
    · cases ho
  · cases ho
theorem ok_vret (C : qa_C xb Ai p s m args meth c cc nL own A0 R a0.2.2.2.1 a0.2.2.2.2 r) (hr : meth.sig.returnType = none) {pc : Nat} (d : decode cc pc = .ok (.return_, 1)) : qa_OK p l e R s m args below meth c (qa_Q below D Ai a0 r A0 args s) D A0 Ai a0.2.2.1 nL a0.2.2.2.1 a0.2.2.2.2 r pcs pc q_vret := by
  refine qa_retg C (fun ls st a o ho => ?_)
  unfold q_vret at ho
  split at ho
  · exact ⟨none, rfl, (Option.some.inj ho).symm, fun A H locs kc ks LS hq hf => W.vret C.1 C.2.1 hr hq hf d C.2.2.2.2.2.1⟩
  · cases ho
theorem ok_aret (C : qa_C xb Ai p s m args meth c cc nL own A0 R a0.2.2.2.1 a0.2.2.2.2 r) {rt : FieldType} (hr : meth.sig.returnType = some rt) (hrt : (∃ n, rt = .object n) ∨ ∃ t, rt = .array t) {pc : Nat} (d : decode cc pc = .ok (.areturn, 1)) : qa_OK p l e R s m args below meth c (qa_Q below D Ai a0 r A0 args s) D A0 Ai a0.2.2.1 nL a0.2.2.2.1 a0.2.2.2.2 r pcs pc (q_ret 1) := by
  refine qa_retg C (fun ls st a o ho => ?_)
  unfold q_ret at ho
  split at ho
  · rename_i v
    split at ho
    · rename_i h
      refine ⟨some v, rfl, by rw [← qa_eta h] at ho; exact (Option.some.inj ho).symm, fun A H locs kc ks LS hq hf => ?_⟩
      rw [qa_eta h] at hq ⊢
      refine W.aret C.1 C.2.1 hr hrt ?_ hq hf d C.2.2.2.2.2.1
      rw [qa_v1]
      by_cases hx : v.2 = -1
      · rw [hx]; exact Or.inl rfl
      · rw [qa_rfr hx]; exact Or.inr ⟨_, rfl⟩
    · cases ho
  · cases ho
theorem ok_fret (C : qa_C xb Ai p s m args meth c cc nL own A0 R a0.2.2.2.1 a0.2.2.2.2 r) (hr : meth.sig.returnType = some .float) {pc : Nat} (d : decode cc pc = .ok (.freturn, 1)) : qa_OK p l e R s m args below meth c (qa_Q below D Ai a0 r A0 args s) D A0 Ai a0.2.2.1 nL a0.2.2.2.1 a0.2.2.2.2 r pcs pc (q_ret 3) := by
  refine qa_retg C (fun ls st a o ho => ?_)
  unfold q_ret at ho
  split at ho
  · rename_i v
    split at ho
    · rename_i h
      refine ⟨some v, rfl, by rw [← qa_eta h] at ho; exact (Option.some.inj ho).symm, fun A H locs kc ks LS hq hf => ?_⟩
      rw [qa_eta h] at hq ⊢
      exact W.fret C.1 C.2.1 hr hq hf d C.2.2.2.2.2.1
    · cases ho
  · cases ho
theorem ok_dret (C : qa_C xb Ai p s m args meth c cc nL own A0 R a0.2.2.2.1 a0.2.2.2.2 r) (hr : meth.sig.returnType = some .double) {pc : Nat} (d : decode cc pc = .ok (.dreturn, 1)) : qa_OK p l e R s m args below meth c (qa_Q below D Ai a0 r A0 args s) D A0 Ai a0.2.2.1 nL a0.2.2.2.1 a0.2.2.2.2 r pcs pc (q_ret 4) := by
  refine qa_retg C (fun ls st a o ho => ?_)
  unfold q_ret at ho
  split at ho
  · rename_i v
    split at ho
    · rename_i h
      refine ⟨some v, rfl, by rw [← qa_eta h] at ho; exact (Option.some.inj ho).symm, fun A H locs kc ks LS hq hf => ?_⟩
      rw [qa_eta h] at hq ⊢
      exact W.dret C.1 C.2.1 hr hq hf d C.2.2.2.2.2.1
    · cases ho
  · cases ho
theorem ok_throw (C : qa_C xb Ai p s m args meth c cc nL own A0 R a0.2.2.2.1 a0.2.2.2.2 r) (hl : l.stackTraces = false) {pc kE ik ic : Nat} {names : List String} (hcls : Bundle.fit (qa_en kE) = true) (hnames : ∀ n ∈ names, Bundle.fit n = true)
    (hw : ∀ w ∈ Cond.classLink own ik (qa_en kE) :: .initialized (qa_en kE) :: vx_at0 own ic (qa_en kE) names, (w ∈ qa_tb ∨ w ∈ qa_nest) ∧ vx_ot w = true)
    (d0 : decode cc pc = .ok (.new ik, 3)) (d3 : decode cc (pc + 3) = .ok (.dup, 1)) (d4 : decode cc (pc + 4) = .ok (.invokespecial ic, 3)) (d7 : decode cc (pc + 7) = .ok (.athrow, 1))
    (hRf : names.length + 3 < R.frames) (hRl : 8 + (13 * (names.length + 1) + 42) ≤ R.locals) (hh : xb = true := by rfl) : qa_OK p l e R s m args below meth c (qa_Q below D Ai a0 r A0 args s) D A0 Ai a0.2.2.1 nL a0.2.2.2.1 a0.2.2.2.2 r pcs pc (fun ls st a => if st.length ≤ 4 then q_throw kE ls st a else none) := by
  intro ls st a o ho
  dsimp only at ho
  split at ho
  · rename_i hlen
    unfold q_throw at ho
    obtain rfl := Option.some.inj ho
    refine ⟨⟨Nat.le_refl _, Nat.le_succ _, Nat.le_add_right _ _⟩, fun g => ?_⟩
    have g : (.inr kE, (a.1, a.2.1, a.2.2.1, a.2.2.2.1 + 1, a.2.2.2.2 + 6)) = r := g
    intro A H locs kc ks LS hW hwf hls hst hn hA hS hL hc hs
    have r1 : a0.2.2.2.1 + R.cells = r.2.2.2.2.1 := C.2.2.2.2.2.2.2.1
    have r2 : a0.2.2.2.2 + R.slots = r.2.2.2.2.2 := C.2.2.2.2.2.2.2.2.1
    have e1 : r.2.2.2.2.1 = a.2.2.2.1 + 1 := by rw [← g]
    have e2 : r.2.2.2.2.2 = a.2.2.2.2 + 6 := by rw [← g]
    have hSS := C.2.2.2.2.2.2.2.2.2.2
    have hts : ∀ w, (w ∈ qa_tb ∨ w ∈ qa_nest) → w.before args s = true := fun w h => h.elim (C.2.2.2.2.1 w) (fun h => hSS.word h)
    refine vx_throw0 C.1 C.2.1 hl (names := names) C.2.2.2.1 hcls hnames (hts _ (hw _ List.mem_cons_self).1) (hts _ (hw _ (List.mem_cons_of_mem _ List.mem_cons_self)).1) (fun w h => hts w (hw w (List.mem_cons_of_mem _ (List.mem_cons_of_mem _ h))).1) (fun w h => (hw w h).2) hSS.2.2.1 hSS.2.2.2.1 hS (hL.1.trans C.2.2.1.symm) d0 d3 d4 d7 (fun x hx => (C.2.2.2.2.2.2.2.2.2.1 hh x hx).elim) hRf ?_ (by omega) (by omega) C.2.2.2.2.2.1 (fun t hal hz hk => ?_) hS.2.2 (by omega) (by omega)
    · have := qa_cats A st hlen
      omega
    · obtain ⟨cA, tys, hP, hD, hK, hT⟩ := hW
      refine ⟨⟨A, kE, by rw [← g], rfl, hA, ?_, ?_⟩, ⟨Nat.le_trans hS.1 hz, fun q h1 h2 => by rw [hk q (Nat.lt_of_lt_of_le h1 hS.1)]; exact hS.2.1 q h1 h2⟩⟩
      · refine ⟨cA, tys, ?_, ?_, va_K.moved hal hK, ?_⟩
        · rw [← g]
          exact fun k q hq => (hP k q hq).kept (hk q.1 (hP k q hq).lt)
        · rw [← g]; exact hD
        · rw [← g]; exact hT
      · rw [← g]; exact hwf
  · cases ho
end QS
