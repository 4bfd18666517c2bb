def q_callh (ci : Nat) (f : List qV → qA → Option qR) (nP : Nat) (hs : List (Nat × Nat × Nat)) (k : qI) : qI := fun ls st a => match st[nP - 1]? with
  | some v => if v.1 = 1 ∧ (a.2.1 v.2).1 = ci + 1 ∧ 1 ≤ nP ∧ nP ≤ st.length ∧ st.length ≤ nP + 4 then
      match f (st.take nP).reverse a with
      | some (.inl (some w), a') => k ls (w :: st.drop nP) a'
      | some (.inl none, a') => k ls (st.drop nP) a'
      | some (.inr E, a') => match hs.find? (fun q => q.1 == E) with
        | some q => if qa_free ls q.2.2 = true then some (.inl (q.2.1, ls.set q.2.2 (9, 0), [], a')) else none
        | none => none
      | none => none
    else none
  | none => none
def q_xld (L : Nat) (xs : Nat → Int32) (k : qI) : qI := fun ls st a => match st with
  | i :: o :: r => if i.1 = 0 ∧ o = (1, -17) ∧ 0 ≤ i.2 ∧ i.2 < (L : Int) then k ls ((0, (xs i.2.toNat).toInt) :: r) a else none
  | _ => none
def q_xlen (L : Nat) (k : qI) : qI := fun ls st a => match st with
  | o :: r => if o = (1, -17) then k ls ((0, (L : Int)) :: r) a else none
  | _ => none
def q_dstore (i : Nat) (k : qI) : qI := fun ls st a => match st with
  | v :: r => if v.1 = 4 ∧ qa_free ls i = true ∧ i + 1 < ls.length then k ((ls.set i (4, v.2)).set (i + 1) (9, 0)) r a else none
  | _ => none
section QS
variable {p : Program} {l : Launch} {e : Env} {R : Room} {s : State} {m : MethodId} {args : Array Value} {below : List Frame} {meth : Method} {c : Code} {Q : State → Prop} {cc : ByteArray} {nL : Nat} {own : String} {D : va_G} {A0 : Nat → Prop} {Ai : Int → Nat} {xb : Bool} {n0 c0 s0 : Nat} {r : qR} {pcs : Nat → Nat}
theorem qa_lv_set9 {A : Int → Nat} {ls : List qV} {LS : Array Slot} {i : Nat} {w : Value} (hfree : qa_free ls i = true) (hL : lv_has LS nL ((i, w) :: (qa_lv A ls).filter (fun q => !(q.1 == i) && !(q.1 + 1 == i && q.2.category == 2)))) : lv_has LS nL (qa_lv A (ls.set i (9, 0))) := by
  refine ⟨hL.1, hL.2.1, fun q hq => ?_⟩
  obtain ⟨w, hw1, hw2, hw3⟩ := qa_lv_mem hq
  by_cases hi : q.1 = i
  · have hlt : i < ls.length := by
      have := (List.getElem?_eq_some_iff.mp hw1).1
      rw [List.length_set] at this
      omega
    rw [hi, List.getElem?_set_self hlt] at hw1
    cases hw1
    exact absurd hw2 (by decide)
  · rw [List.getElem?_set_ne (fun z => hi z.symm)] at hw1
    refine hL.2.2 q (List.mem_cons_of_mem _ (List.mem_filter.mpr ⟨?_, ?_⟩))
    · have := qa_mem_lv (A := A) hw1 hw2
      rw [← hw3] at this
      exact this
    · simp only [Bool.and_eq_true, Bool.not_eq_true', beq_eq_false_iff_ne, ne_eq, Bool.and_eq_false_imp, beq_iff_eq]
      refine ⟨hi, fun h1 h2 => ?_⟩
      subst h1
      unfold qa_free at hfree
      dsimp only at hfree
      rw [hw1] at hfree
      simp only [Bool.not_eq_true', Bool.or_eq_false_iff, beq_eq_false_iff_ne, ne_eq] at hfree
      rw [hw3] at h2
      unfold qa_val at h2
      split at h2
      · cases h2
      · split at h2
        · unfold qa_rf at h2
          split at h2 <;> cases h2
        · split at h2
          · exact hfree.1 (by assumption)
          · split at h2
            · cases h2
            · split at h2
              · exact hfree.2 (by assumption)
              · cases h2
theorem qa_calledG (C : qa_C xb Ai p s m args meth c cc nL own A0 R c0 s0 r) {pc : Nat} {ls st : List qV} {a : qA} {f : List qV → qA → Option qR} {nP : Nat} {r1 : qR} (hl2 : a.2.2.1 ≤ r1.2.2.2.1 ∧ a.2.2.2.1 ≤ r1.2.2.2.2.1 ∧ a.2.2.2.2 ≤ r1.2.2.2.2.2)
    (hret : ∀ rv : Option qV, r1.1 = .inl rv → qa_At p l e R s m args below meth c Q D A0 Ai n0 nL c0 s0 (pc + 3) ls (rv.toList ++ st.drop nP) r1.2)
    (hX : ∀ (A' : Int → Nat) (kE : Nat) (H1 : Heap) (locs1 : List Loc) (kc1 ks1 : Nat) (LS : Array Slot) (q : Addr) (ce : Cell), r1.1 = .inr kE → (∀ v : Int, v < (n0 : Int) → A' v = Ai v) → qa_W D s A0 A' r1.2 H1 → qa_wf r1.2 → qa_okl r1.2.2.2.1 ls → n0 ≤ r1.2.2.2.1 → va_S A0 s.heap H1 locs1 → lv_has LS nL (qa_lv A' ls) → c0 + kc1 = r1.2.2.2.2.1 → s0 + ks1 = r1.2.2.2.2.2 → H1[q]? = some ce → ce.vm = .none → s.vm.findClass (qa_en kE) = some ce.cls → vx_W p l e R s m args below meth c H1 locs1 kc1 ks1 Q (F0 m pc LS ((st.drop nP).map (qa_val A'))) q)
    {A : Int → Nat} {H : Heap} {locs : List Loc} {kc ks : Nat} {LS : Array Slot} (hW : qa_W D s A0 A a H) (hwf : qa_wf a) (hls : qa_okl a.2.2.1 ls) (hst : qa_okl a.2.2.1 st) (hn : n0 ≤ a.2.2.1) (hA : ∀ v : Int, v < (n0 : Int) → A v = Ai v) (hS : va_S A0 s.heap H locs) (hL : lv_has LS nL (qa_lv A ls)) (hc : c0 + kc = a.2.2.2.1) (hs : s0 + ks = a.2.2.2.2)
    (hrun : vx_Run p l e R s m args below meth c H locs kc ks (r1.2.2.2.2.1 - a.2.2.2.1) (r1.2.2.2.2.2 - a.2.2.2.2) (F0 m pc LS (st.map (qa_val A))) ((st.drop nP).map (qa_val A)) (qa_Post D A a r1 (qa_F A a H.size) (((st.take nP).reverse.map (qa_val A)).toArray)) (qa_PostX D A a r1 (qa_F A a H.size)) (qa_F A a H.size)) :
    W p l e R s m args below meth c H locs kc ks Q (F0 m pc LS (st.map (qa_val A))) := by
  have hF : ∀ q, qa_F A a H.size q → A0 q := by
    intro q hq
    obtain ⟨cA, tys, hP, hD, -, -⟩ := hW
    rcases hq with ⟨k, h1, h2, rfl⟩ | h
    · exact hD.2 k.toNat _ (qa_ws_get h1 h2)
    · exact C.2.2.2.2.2.2.1 q (Nat.le_trans hS.1 h)
  intro T hT X
  rcases hrun T hT X with ⟨v, st₀, t, T', L, h0, X', hL', e1, e2, ⟨⟨A', rv, g1, g2, g3, ⟨cA', tys', g4, g5, g6, g7⟩, g8, g9⟩, hFr⟩, hgo⟩ | ⟨q, st₀, t, T', L, E, ce, h0, X', hL', e1, e2, ⟨⟨A', kE, g1, g2, g3, ⟨cA', tys', g4, g5, g6, g7⟩, g8⟩, hFr⟩, hce, hcv, hcl, hgo⟩
  · obtain ⟨k1, k2, k3⟩ := vx_keep h0 e1 hS (fun q _ => hF q) hF hL' hFr
    have hal : s.vm.Alike t.vm := by rw [← e2]; exact X'.warmed.alike
    rw [← e1] at g4
    have hW1 : qa_W D s A0 A' r1.2 T'.heap := ⟨cA', tys', g4, g5.weaken (fun _ q _ h => hF _ h), va_K.moved hal.symm g6, g7⟩
    have hAn : ∀ v : Int, v < (n0 : Int) → A' v = Ai v := fun v hv => (g3 v (by omega)).trans (hA v hv)
    have eLS : qa_lv A' ls = qa_lv A ls := qa_lv_ext g3 hls
    have est : (st.drop nP).map (qa_val A') = (st.drop nP).map (qa_val A) := qa_map_ext g3 (fun v hv => hst v (List.mem_of_mem_drop hv))
    cases Outcome.returned.inj g2
    have okr : qa_okl r1.2.2.2.1 (rv.toList ++ st.drop nP) := by
      intro w hw
      rcases List.mem_append.mp hw with h | h
      · cases rv with
        | none => cases h
        | some z => exact (List.mem_singleton.mp h) ▸ g9 z rfl
      · exact qa_okl_mono (fun v hv => hst v (List.mem_of_mem_drop hv)) hl2.1 w h
    have := hret rv g1 A' T'.heap (locs ++ L) _ _ LS hW1 g8 (qa_okl_mono hls hl2.1) okr (Nat.le_trans hn hl2.1) hAn k3 (by rw [eLS]; exact hL) (by omega) (by omega) T' rfl X'
    rw [List.map_append, est] at this
    obtain ⟨t2, b1, b2⟩ := this
    refine ⟨t2, hgo t2 ?_, b2⟩
    cases rv with
    | none => exact b1
    | some z => exact b1
  · obtain ⟨k1, k2, k3⟩ := vx_keep h0 e1 hS (fun q _ => hF q) hF hL' hFr
    have hal : s.vm.Alike t.vm := by rw [← e2]; exact X'.warmed.alike
    rw [← e1] at g4 hce
    have hW1 : qa_W D s A0 A' r1.2 T'.heap := ⟨cA', tys', g4, g5.weaken (fun _ q _ h => hF _ h), va_K.moved hal.symm g6, g7⟩
    have hAn : ∀ v : Int, v < (n0 : Int) → A' v = Ai v := fun v hv => (g3 v (by omega)).trans (hA v hv)
    have eLS : qa_lv A' ls = qa_lv A ls := qa_lv_ext g3 hls
    have est : (st.drop nP).map (qa_val A') = (st.drop nP).map (qa_val A) := qa_map_ext g3 (fun v hv => hst v (List.mem_of_mem_drop hv))
    subst g2
    have := hX A' kE T'.heap (locs ++ L) _ _ LS q ce g1 hAn hW1 g8 (qa_okl_mono hls hl2.1) (Nat.le_trans hn hl2.1) k3 (by rw [eLS]; exact hL) (by omega) (by omega) hce hcv hcl T' rfl X'
    rw [est] at this
    obtain ⟨t2, b1, b2⟩ := this
    exact ⟨t2, hgo.trans b1, b2⟩
theorem ok_xld (C : qa_C xb Ai p s m args meth c cc nL own A0 R c0 s0 r) {L : Nat} {xs : Nat → Int32} (hX : va_X (Ai (-17)) L xs s s.heap ∧ Ai (-17) < s.heap.size ∧ ¬ A0 (Ai (-17))) {pc : Nat} {k : qI} (d : decode cc pc = .ok (.iaload, 1)) (K : qa_OK p l e R s m args below meth c Q D A0 Ai n0 nL c0 s0 r pcs (pc + 1) k) : qa_OK p l e R s m args below meth c Q D A0 Ai n0 nL c0 s0 r pcs pc (q_xld L xs k) := by
  refine qa_stat K (fun ls st a o ho => ?_)
  unfold q_xld at ho
  split at ho
  · rename_i i ob rs
    split at ho
    · rename_i h
      obtain ⟨h1, rfl, h3, h4⟩ := h
      have hrg : qa_rg (xs i.2.toNat).toInt := ⟨Int32.le_toInt _, by have := Int32.toInt_lt (xs i.2.toNat); omega⟩
      refine ⟨_, ho, fun n h => qa_okl_cons (qa_oki hrg) (qa_okl_tl (qa_okl_tl h)), fun n h A H locs kc ks LS hA hS kk => ?_⟩
      have hi := qa_rgi (qa_okl_hd h) h1
      rw [List.map_cons, qa_v0] at kk
      rw [List.map_cons, List.map_cons, qa_eta h1, qa_v0, qa_v1, qa_rfr (by decide), hA _ (by decide)]
      refine va_sld C.1 C.2.1 hX.1 hX.2.1 hX.2.2 hS (i := Int32.ofInt i.2) (fun z => by
        rcases z with z | z
        · rw [q_lt0 hi] at z; omega
        · rw [q_clamp hi] at z; omega) d ?_
      have e : (Int32.ofInt i.2).toNatClampNeg = i.2.toNat := q_clamp hi
      rw [e]
      have e2 : Int32.ofInt (xs i.2.toNat).toInt = xs i.2.toNat := Int32.ofInt_toInt _
      rw [e2] at kk
      exact kk
    · cases ho
  · cases ho
theorem ok_xlen (C : qa_C xb Ai p s m args meth c cc nL own A0 R c0 s0 r) {L : Nat} {xs : Nat → Int32} (hL31 : L < 2147483648) (hX : va_X (Ai (-17)) L xs s s.heap ∧ Ai (-17) < s.heap.size ∧ ¬ A0 (Ai (-17))) {pc : Nat} {k : qI} (d : decode cc pc = .ok (.arraylength, 1)) (K : qa_OK p l e R s m args below meth c Q D A0 Ai n0 nL c0 s0 r pcs (pc + 1) k) : qa_OK p l e R s m args below meth c Q D A0 Ai n0 nL c0 s0 r pcs pc (q_xlen L k) := by
  refine qa_stat K (fun ls st a o ho => ?_)
  unfold q_xlen at ho
  split at ho
  · rename_i ob rs
    split at ho
    · rename_i h
      subst h
      refine ⟨_, ho, fun n h => qa_okl_cons (qa_oki ⟨by omega, by omega⟩) (qa_okl_tl h), fun n h A H locs kc ks LS hA hS kk => ?_⟩
      rw [List.map_cons, qa_v0] at kk
      rw [List.map_cons, qa_v1, qa_rfr (by decide), hA _ (by decide)]
      refine va_slen C.1 C.2.1 hX.1 hX.2.1 hX.2.2 hS d ?_
      exact kk
    · cases ho
  · cases ho
theorem ok_fstore (C : qa_C xb Ai p s m args meth c cc nL own A0 R c0 s0 r) {pc i : Nat} {k : qI} (hi : i < nL) (d : decode cc pc = .ok (.fstore i, 2)) (K : qa_OK p l e R s m args below meth c Q D A0 Ai n0 nL c0 s0 r pcs (pc + 2) k) : qa_OK p l e R s m args below meth c Q D A0 Ai n0 nL c0 s0 r pcs pc (q_store 3 i k) :=
  qa_st (by decide) K (fun A H locs kc ks LS x ls rest hL hn kk => lv_fstore C.1 C.2.1 d hL hn rfl (fun LS' hL' => kk LS' hL')) hi
theorem ok_dstore (C : qa_C xb Ai p s m args meth c cc nL own A0 R c0 s0 r) {pc i : Nat} {k : qI} (hi : i + 1 < nL) (d : decode cc pc = .ok (.dstore i, 2)) (K : qa_OK p l e R s m args below meth c Q D A0 Ai n0 nL c0 s0 r pcs (pc + 2) k) : qa_OK p l e R s m args below meth c Q D A0 Ai n0 nL c0 s0 r pcs pc (q_dstore i k) := by
  refine qa_gen K (fun ls st a o ho => ?_)
  unfold q_dstore at ho
  split at ho
  · rename_i v rs
    split at ho
    · rename_i h
      obtain ⟨h1, h2, h3⟩ := h
      refine ⟨_, rs, pc + 2, Or.inl ⟨ho, rfl⟩, fun N g1 g2 => ⟨qa_okl_set (qa_okl_set g1 (by rw [← h1]; exact qa_okl_hd g2)) ⟨fun h => by rcases h with h | h <;> exact absurd h (by decide), fun h => absurd h (by decide)⟩, qa_okl_tl g2⟩, fun _ N g1 g2 A H locs kc ks LS hL kk => ?_⟩
      rw [List.map_cons, qa_eta h1]
      show W p l e R s m args below meth c H locs kc ks Q (F0 m pc LS (.double (UInt64.ofNat v.2.toNat) :: rs.map (qa_val A)))
      refine lv_dstore C.1 C.2.1 d hL hi rfl (fun LS' hL' => kk LS' ?_)
      refine ⟨hL'.1, hL'.2.1, fun q hq => ?_⟩
      obtain ⟨w, hw1, hw2, hw3⟩ := qa_lv_mem hq
      by_cases hq1 : q.1 = i + 1
      · rw [hq1, List.getElem?_set_self (by rw [List.length_set]; exact h3)] at hw1
        cases hw1
        exact absurd hw2 (by decide)
      · rw [List.getElem?_set_ne (fun z => hq1 z.symm)] at hw1
        by_cases hq2 : q.1 = i
        · rw [hq2, List.getElem?_set_self (by omega)] at hw1
          cases hw1
          have : q = (i, .double (UInt64.ofNat v.2.toNat)) := by rw [← hq2]; exact Prod.ext rfl hw3
          rw [this]
          exact hL'.2.2 _ List.mem_cons_self
        · rw [List.getElem?_set_ne (fun z => hq2 z.symm)] at hw1
          refine hL'.2.2 q (List.mem_cons_of_mem _ (List.mem_filter.mpr ⟨?_, ?_⟩))
          · have := qa_mem_lv (A := A) hw1 hw2
            rw [← hw3] at this
            exact this
          · simp only [Bool.and_eq_true, Bool.not_eq_true', beq_eq_false_iff_ne, ne_eq, Bool.and_eq_false_imp, beq_iff_eq]
            refine ⟨hq2, hq1, fun h1 h2' => ?_⟩
            subst h1
            unfold qa_free at h2
            dsimp only at h2
            rw [hw1] at h2
            simp only [Bool.not_eq_true', Bool.or_eq_false_iff, beq_eq_false_iff_ne, ne_eq] at h2
            rw [hw3] at h2'
            unfold qa_val at h2'
            split at h2'
            · cases h2'
            · split at h2'
              · unfold qa_rf at h2'
                split at h2' <;> cases h2'
              · split at h2'
                · exact h2.1 (by assumption)
                · split at h2'
                  · cases h2'
                  · split at h2'
                    · exact h2.2 (by assumption)
                    · cases h2'
    · cases ho
  · cases ho
end QS
section QS
variable {p : Program} {l : Launch} {e : Env} {R : Room} {s : State} {m : MethodId} {args : Array Value} {below : List Frame} {meth : Method} {c : Code} {cc : ByteArray} {nL : Nat} {own : String} {D : va_G} {A0 : Nat → Prop} {Ai : Int → Nat} {xb : Bool} {a0 : qA} {r : qR} {pcs : Nat → Nat}
def qa_hnd (hh : List (Nat × Nat × Nat × Nat)) (own : String) (cc : ByteArray) (nL : Nat) (pcs : Nat → Nat) (pc : Nat) (q : Nat × Nat × Nat) : Prop :=
  ∃ (pre : List ExceptionTableEntry) (x : ExceptionTableEntry) (suf : List ExceptionTableEntry), tableOf hh = pre ++ x :: suf ∧ (∀ z ∈ pre, z.catchType ≠ 0 ∧ ∃ nm : String, Cond.classLink own z.catchType nm ∈ qa_tb ∧ (qa_en q.1, nm) ∈ qa_nc) ∧ covers x pc = true ∧ x.catchType ≠ 0 ∧ Cond.classLink own x.catchType (qa_en q.1) ∈ qa_tb ∧ Cond.castable (qa_en q.1) (qa_en q.1) ∈ qa_nest ∧ q.2.2 < nL ∧
    ((∃ k : Fin 4, decode cc x.handlerPc = .ok (.astore_n k, 1) ∧ (k : Nat) = q.2.2 ∧ pcs q.2.1 = x.handlerPc + 1) ∨ (decode cc x.handlerPc = .ok (.astore q.2.2, 2) ∧ pcs q.2.1 = x.handlerPc + 2))
theorem ok_callh (C : qa_C xb Ai p s m args meth c cc nL own A0 R a0.2.2.2.1 a0.2.2.2.2 r) {hh : List (Nat × Nat × Nat × Nat)} (htab : c.exceptionTable.toList = tableOf hh) {hs : List (Nat × Nat × Nat)} {pc index ci nP maxL fr lo : Nat} {k : qI} {f : List qV → qA → Option qR} {y : MethodName} {bytes : ByteArray} {ret : Option FieldType} {rC : vw_C} (hci : vwCl[ci]? = some rC) (h99 : ci < 99) (hcon : qa_Con l y bytes maxL ret fr lo f)
    (hH : ∀ q ∈ hs, qa_hnd hh own cc nL pcs pc q)
    (hw : ∀ w ∈ [Cond.methodLink own index y, .instanceMethod y, .selects rC.1 y y, .initialized rC.1, .code y bytes maxL ret], w ∈ qa_tb)
    (hd : y.cls = rC.1 ∧ y.cls ≠ "java/lang/invoke/MethodHandle" ∧ y.cls ≠ "java/lang/invoke/VarHandle" ∧ (parseMethodDescriptor y.desc).map (fun d => d.parameters.length) = some (nP - 1)) (hR : fr + 1 ≤ R.frames ∧ 8 + (maxL + 11) + lo ≤ R.locals)
    (d : decode cc pc = .ok (.invokevirtual index, 3)) (K : qa_OK p l e R s m args below meth c (qa_Q below D Ai a0 r A0 args s) D A0 Ai a0.2.2.1 nL a0.2.2.2.1 a0.2.2.2.2 r pcs (pc + 3) k) : qa_OK p l e R s m args below meth c (qa_Q below D Ai a0 r A0 args s) D A0 Ai a0.2.2.1 nL a0.2.2.2.1 a0.2.2.2.2 r pcs pc (q_callh ci f nP hs k) := by
  intro ls st a o ho
  unfold q_callh at ho
  split at ho
  · rename_i v hv
    split at ho
    · rename_i h
      obtain ⟨h1, h2, h3, h4, h5⟩ := h
      cases hf : f (st.take nP).reverse a with
      | none => rw [hf] at ho; cases ho
      | some r1 =>
        obtain ⟨hl, hM⟩ := hcon _ _ _ hf
        have hl2 : a.2.2.1 ≤ r1.2.2.2.1 ∧ a.2.2.2.1 ≤ r1.2.2.2.2.1 ∧ a.2.2.2.2 ≤ r1.2.2.2.2.2 := hl
        rw [hf] at ho
        have key : ∃ o2 : qO, qa_le r1.2 o2 ∧ o = o2 ∧ (qa_good p l e R s m args below meth c (qa_Q below D Ai a0 r A0 args s) D A0 Ai a0.2.2.1 nL a0.2.2.2.1 a0.2.2.2.2 r pcs o2 → r1.2.2.2.2.1 ≤ r.2.2.2.2.1 ∧ r1.2.2.2.2.2 ≤ r.2.2.2.2.2) ∧
            (∀ rv : Option qV, r1.1 = .inl rv → qa_good p l e R s m args below meth c (qa_Q below D Ai a0 r A0 args s) D A0 Ai a0.2.2.1 nL a0.2.2.2.1 a0.2.2.2.2 r pcs o2 → qa_At p l e R s m args below meth c (qa_Q below D Ai a0 r A0 args s) D A0 Ai a0.2.2.1 nL a0.2.2.2.1 a0.2.2.2.2 (pc + 3) ls (rv.toList ++ st.drop nP) r1.2) ∧
            (∀ kE : Nat, r1.1 = .inr kE → ∃ q ∈ hs, q.1 = kE ∧ qa_free ls q.2.2 = true ∧ o2 = .inl (q.2.1, ls.set q.2.2 (9, 0), [], r1.2)) := by
          obtain ⟨rv1, a1⟩ := r1
          cases rv1 with
          | inl w =>
            cases w with
            | none =>
              have hk := K _ _ _ _ ho
              exact ⟨o, hk.1, rfl, fun g => qa_bud hk.1 g, fun rv e g => by cases e; exact hk.2 g, fun kE e => nomatch e⟩
            | some w =>
              have hk := K _ _ _ _ ho
              exact ⟨o, hk.1, rfl, fun g => qa_bud hk.1 g, fun rv e g => by cases e; exact hk.2 g, fun kE e => nomatch e⟩
          | inr E =>
            dsimp only at ho
            split at ho
            · rename_i q hq
              split at ho
              · rename_i hfr
                obtain rfl := Option.some.inj ho
                refine ⟨.inl (q.2.1, ls.set q.2.2 (9, 0), [], a1), ⟨Nat.le_refl _, Nat.le_refl _, Nat.le_refl _⟩, rfl, fun g => ⟨g.1, g.2.1⟩, (fun rv e => by cases e), fun kE e => ?_⟩
                cases e
                have := List.find?_some hq
                exact ⟨q, List.mem_of_find?_eq_some hq, by simpa using this, hfr, rfl⟩
              · cases ho
            · cases ho
        obtain ⟨o2, k1, rfl, k3, k4, k5⟩ := key
        refine ⟨?_, fun g => ?_⟩
        · cases o with
          | inl q => exact ⟨Nat.le_trans hl2.1 k1.1, Nat.le_trans hl2.2.1 k1.2.1, Nat.le_trans hl2.2.2 k1.2.2⟩
          | inr q => exact ⟨Nat.le_trans hl2.1 k1.1, Nat.le_trans hl2.2.1 k1.2.1, Nat.le_trans hl2.2.2 k1.2.2⟩
        · intro A H locs kc ks LS hW hwf hls hst hn hA hS hL hc hs'
          have hb := k3 g
          refine qa_calledG C (f := f) (nP := nP) hl2 (fun rv e => k4 rv e g) ?_ hW hwf hls hst hn hA hS hL hc hs' ?_
          · intro A' kE H1 locs1 kc1 ks1 LS1 q ce g1 hA' hW1 hwf1 hls1 hn1 hS1 hL1 hc1 hs1 hce hcv hcl
            obtain ⟨hq, hqm, hqE, hqf, rfl⟩ := k5 kE g1
            obtain ⟨pre, x, suf, t1, t2, t3, t4, t5, t6, t7, t8⟩ := hH hq hqm
            have g' : qa_At p l e R s m args below meth c (qa_Q below D Ai a0 r A0 args s) D A0 Ai a0.2.2.1 nL a0.2.2.2.1 a0.2.2.2.2 (pcs hq.2.1) (ls.set hq.2.2 (9, 0)) [] r1.2 := g.2.2
            rw [hqE] at t2 t5 t6
            have hSS := C.2.2.2.2.2.2.2.2.2.2
            refine vx_catch (name := qa_en kE) (E := qa_en kE) C.2.2.2.1 pre x suf (htab.trans t1) (fun z hz => Or.inr ?_) t3 t4 (C.2.2.2.2.1 _ t5) (hSS.word t6) hce hcv hcl ?_
            · obtain ⟨z1, nm, z2, z3⟩ := t2 z hz
              exact ⟨z1, nm, C.2.2.2.2.1 _ z2, hSS.2.2.2.2.2.2.1 _ z3⟩
            · have fin : ∀ LS', lv_has LS' nL ((hq.2.2, Value.ref q) :: (qa_lv A' ls).filter (fun z => !(z.1 == hq.2.2) && !(z.1 + 1 == hq.2.2 && z.2.category == 2))) → W p l e R s m args below meth c H1 locs1 kc1 ks1 (qa_Q below D Ai a0 r A0 args s) (F0 m (pcs hq.2.1) LS' []) := fun LS' hL' =>
                g' A' H1 locs1 kc1 ks1 LS' hW1 hwf1 (qa_okl_set hls1 ⟨fun h => by rcases h with h | h <;> exact absurd h (by decide), fun h => absurd h (by decide)⟩) (fun v hv => nomatch hv) hn1 hA' hS1 (qa_lv_set9 hqf hL') hc1 hs1
              rcases t8 with ⟨kk, u1, u2, u3⟩ | ⟨u1, u2⟩
              · rw [u3] at fin
                exact lv_astore_n C.1 C.2.1 u1 u2 hL1 t7 rfl fin
              · rw [u2] at fin
                exact lv_astore C.1 C.2.1 u1 hL1 t7 rfl fin
          · have hfst := qa_first h3 hv
            have hvb := hwf.2.1 v.2 (by rw [h2]; omega)
            have eb : qa_val A v = .ref (A v.2) := by rw [qa_eta h1, qa_v1, qa_rfr (by omega)]
            have hav : qa_okl a.2.2.1 (st.take nP).reverse := fun x hx => hst x (List.mem_of_mem_take (List.mem_reverse.mp hx))
            have hpre := qa_pre C hW hwf hav (fun x hx => hA x (by omega)) hS
            rw [qa_stk (st := st) (nP := nP)]
            have hM1 := hM D A H.size
            rw [hfst, List.map_cons, eb] at hM1 hpre ⊢
            refine vx_runV (As := ((st.take (nP - 1)).reverse).map (qa_val A)) (rest := (st.drop nP).map (qa_val A)) (Ts := qa_tb) (own := own) (C := rC.1) (b := A v.2) (nL := nL) ⟨C.1, C.2.1, C.2.2.1, C.2.2.2.1, C.2.2.2.2.1⟩ hM1 (cwV (ws' := qa_tb) (nP - 1) C.2.2.2.2.1 ?_ rfl rfl rfl ⟨hd.1, hd.2.1, hd.2.2.1, hd.2.2.2⟩ hR) ⟨qa_blind, qa_recv hW hwf h2 h99 hci, hpre⟩ rfl ?_ hL.1 ?_ ?_ d (qa_rm_le (fr := fr) (lo := lo) C hl hb hc hs')
            · refine qa_goodin (fun w hw' => ?_)
              unfold wsV at hw'
              rcases List.mem_append.mp hw' with h | h
              · exact hw w (by simp only [List.mem_cons, List.not_mem_nil, or_false] at h ⊢; rcases h with h | h | h | h <;> simp [h])
              · rcases List.mem_cons.mp h with h | h
                · exact hw w (by rw [h]; simp)
                · exact h
            · rw [List.length_map, List.length_reverse, List.length_take]; omega
            · rw [List.reverse_cons, List.append_assoc]; rfl
            · exact lv_room (qa_cats A _ (by rw [List.length_drop]; omega))
    · cases ho
  · cases ho
theorem ok_callsx (C : qa_C xb Ai p s m args meth c cc nL own A0 R a0.2.2.2.1 a0.2.2.2.2 r) {pc index nP maxL fr lo : Nat} {k : qI} {f : List qV → qA → Option qR} {y : MethodName} {bytes : ByteArray} {ret : Option FieldType} {hh : List (Nat × Nat × Nat × Nat)} (hcon : qa_ConH l y bytes maxL ret hh fr lo f)
    (hw : ∀ w ∈ [Cond.methodLink own index y, .static y, .initialized y.cls, .codeWith y bytes maxL ret hh], w ∈ qa_tb)
    (hd : y.cls ≠ "java/lang/invoke/MethodHandle" ∧ y.cls ≠ "java/lang/invoke/VarHandle" ∧ (parseMethodDescriptor y.desc).map (fun d => d.parameters.length) = some nP) (hR : fr + 1 ≤ R.frames ∧ 8 + (maxL + 11) + lo ≤ R.locals)
    (d : decode cc pc = .ok (.invokestatic index, 3)) (K : qa_OK p l e R s m args below meth c (qa_Q below D Ai a0 r A0 args s) D A0 Ai a0.2.2.1 nL a0.2.2.2.1 a0.2.2.2.2 r pcs (pc + 3) k) (hx1 : xb = true := by rfl) : qa_OK p l e R s m args below meth c (qa_Q below D Ai a0 r A0 args s) D A0 Ai a0.2.2.1 nL a0.2.2.2.1 a0.2.2.2.2 r pcs pc (q_call f nP k) := by
  intro ls st a o ho
  have hle : ∀ (av : List qV) (a : qA) (r : qR), f av a = some r → qa_le a (.inr r) := fun av a r h => (hcon av a r h).1
  refine ⟨qa_lecall hle ho (fun ls st a o h => (K ls st a o h).1), fun g => ?_⟩
  intro A H locs kc ks LS hW hwf hls hst hn hA hS hL hc hs
  refine qa_called C ho K g hle ?_ hW hwf hls hst hn hA hS hL hc hs ?_
  · intro r1 A1 A' kE H1 locs1 kc1 ks1 LS1 q ce hf g1 ho2 hA' hW1 hwf1 hS1 hL1 hc1 hs1 hce hcv hcl
    refine qa_thrown C hx1 (ls := ls) (st := st) g1 ?_ hA' hW1 hwf1 hS1 hc1 hs1 hce hcv hcl
    rw [ho2] at g
    exact g
  · intro r1 hf hb
    obtain ⟨hl, hM⟩ := hcon _ _ _ hf
    have hdeep := qa_deep ho
    have hav : qa_okl a.2.2.1 (st.take nP).reverse := fun x hx => hst x (List.mem_of_mem_take (List.mem_reverse.mp hx))
    have hpre := qa_pre C hW hwf hav (fun x hx => hA x (by omega)) hS
    rw [qa_stk (st := st) (nP := nP)]
    refine vx_runSX (As := ((st.take nP).reverse).map (qa_val A)) (rest := (st.drop nP).map (qa_val A)) (Ts := qa_tb) (own := own) (nL := nL) ⟨C.1, C.2.1, C.2.2.1, C.2.2.2.1, C.2.2.2.2.1⟩ (hM D A H.size) (vx_cwSW (ws' := qa_tb) nP C.2.2.2.2.1 ?_ rfl rfl rfl hd hR) ⟨qa_blind, hpre⟩ rfl ?_ hL.1 rfl ?_ d (qa_rm_le (fr := fr) (lo := lo) C hl hb hc hs)
    · refine qa_goodin (fun w hw' => ?_)
      unfold va_wsS at hw'
      rcases List.mem_append.mp hw' with h | h
      · exact hw w (by simp only [List.mem_cons, List.not_mem_nil, or_false] at h ⊢; rcases h with h | h | h <;> simp [h])
      · rcases List.mem_cons.mp h with h | h
        · exact hw w (by rw [h]; simp)
        · exact h
    · rw [List.length_map, List.length_reverse, List.length_take]; omega
    · exact lv_room (qa_catd A _ hdeep.2)
end QS
