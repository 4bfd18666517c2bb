section QS
variable {p : Program} {l : Launch} {e : Env} {R : Room} {s : State} {m : MethodId} {args : Array Value} {below : List Frame} {meth : Method} {c : Code} {cc : ByteArray} {nL : Nat} {own : String} {D : va_G} {A0 : Nat → Prop} {Ai : Int → Nat} {xb : Bool} {a0 : qA} {r : qR} {pcs : Nat → Nat}
def qa_Q (below : List Frame) (D : va_G) (Ai : Int → Nat) (a0 : qA) (r : qR) (A0 : Nat → Prop) (args : Array Value) (s : State) : State → Prop := vx_MQ below (qa_Post D Ai a0 r A0) (qa_PostX D Ai a0 r A0) args s (r.2.2.2.2.1 - a0.2.2.2.1) (r.2.2.2.2.2 - a0.2.2.2.2) A0
theorem qa_W.moved {D : va_G} {s t : State} {A0 : Nat → Prop} {A : Int → Nat} {a : qA} {H : Heap} (hal : s.vm.Alike t.vm) (h : qa_W D s A0 A a H) : qa_W D t A0 A a H := by
  obtain ⟨cA, tys, h1, h2, h3, h4⟩ := h
  exact ⟨cA, tys, h1, h2, va_K.moved hal h3, h4⟩
theorem qa_thrown (C : qa_C xb Ai p s m args meth c cc nL own A0 R a0.2.2.2.1 a0.2.2.2.2 r) (hh : xb = true) {pc : Nat} {ls st : List qV} {A' : Int → Nat} {kE : Nat} {H1 : Heap} {locs1 : List Loc} {kc1 ks1 : Nat} {LS : Array Slot} {q : Addr} {ce : Cell} {r1 : qR} (g1 : r1.1 = .inr kE) (gr : r1 = r) (hA : ∀ v : Int, v < (a0.2.2.1 : Int) → A' v = Ai v) (hW : qa_W D s A0 A' r1.2 H1) (hwf : qa_wf r1.2) (hS : va_S A0 s.heap H1 locs1) (hc : a0.2.2.2.1 + kc1 = r1.2.2.2.2.1) (hs : a0.2.2.2.2 + ks1 = r1.2.2.2.2.2) (hce : H1[q]? = some ce) (hcv : ce.vm = .none) (hcl : s.vm.findClass (qa_en kE) = some ce.cls) {rest : List Value} : vx_W p l e R s m args below meth c H1 locs1 kc1 ks1 (qa_Q below D Ai a0 r A0 args s) (F0 m pc LS rest) q := by
  subst gr
  exact vx_out (fun x hx => (C.2.2.2.2.2.2.2.2.2.1 hh x hx).elim) C.2.2.2.2.2.1 hce hcv hcl (fun t ht hal => ⟨⟨A', kE, g1, rfl, hA, by rw [ht]; exact hW.moved hal, hwf⟩, hS.F ht⟩) hS.2.2 (by omega) (by omega)
theorem qa_lecall {f : List qV → qA → Option qR} (hle : ∀ (av : List qV) (a : qA) (r : qR), f av a = some r → qa_le a (.inr r)) {nP : Nat} {k : qI} {ls st : List qV} {a : qA} {o : qO} (ho : q_call f nP k ls st a = some o) (K : ∀ ls st a o, k ls st a = some o → qa_le a o) : qa_le a o := by
  unfold q_call at ho
  split at ho
  · cases hf : f (st.take nP).reverse a with
    | none => rw [hf] at ho; cases ho
    | some r1 =>
      have hl := hle _ _ _ hf
      rw [hf] at ho
      obtain ⟨rv, a1⟩ := r1
      have hl2 : a.2.2.1 ≤ a1.2.2.1 ∧ a.2.2.2.1 ≤ a1.2.2.2.1 ∧ a.2.2.2.2 ≤ a1.2.2.2.2 := hl
      have tr : ∀ o, qa_le a1 o → qa_le a o := by
        intro o h
        cases o with
        | inl q => exact ⟨Nat.le_trans hl2.1 h.1, Nat.le_trans hl2.2.1 h.2.1, Nat.le_trans hl2.2.2 h.2.2⟩
        | inr q => exact ⟨Nat.le_trans hl2.1 h.1, Nat.le_trans hl2.2.1 h.2.1, Nat.le_trans hl2.2.2 h.2.2⟩
      cases rv with
      | inl v => cases v <;> exact tr _ (K _ _ _ _ ho)
      | inr E =>
        cases ho
        exact hl
  · cases ho
theorem qa_stk {st : List qV} {nP : Nat} {A : Int → Nat} : st.map (qa_val A) = (((st.take nP).reverse).map (qa_val A)).reverse ++ (st.drop nP).map (qa_val A) := by
  rw [List.map_reverse, List.reverse_reverse, ← List.map_append, List.take_append_drop]
theorem qa_deep {f : List qV → qA → Option qR} {nP : Nat} {k : qI} {ls st : List qV} {a : qA} {o : qO} (ho : q_call f nP k ls st a = some o) : nP ≤ st.length ∧ ((st.drop nP).length ≤ 4 ∨ ((st.drop nP).length ≤ 8 ∧ ∀ v ∈ st.drop nP, v.1 < 2)) := by
  unfold q_call at ho
  split at ho
  · rename_i h
    exact h
  · cases ho
theorem qa_cats (A : Int → Nat) (st : List qV) (h : st.length ≤ 4) : ((st.map (qa_val A)).map fun v => v.category).sum ≤ 8 := by
  have key : ∀ st : List qV, ((st.map (qa_val A)).map fun v => v.category).sum ≤ 2 * st.length := by
    intro st
    induction st with
    | nil => exact Nat.le_refl _
    | cons v t ih =>
      rw [List.map_cons, List.map_cons, List.sum_cons, List.length_cons]
      have : (qa_val A v).category ≤ 2 := by rcases lv_cat (qa_val A v) with h | h <;> omega
      omega
  have := key st
  omega
theorem qa_catd (A : Int → Nat) (st : List qV) (h : st.length ≤ 4 ∨ (st.length ≤ 8 ∧ ∀ v ∈ st, v.1 < 2)) : ((st.map (qa_val A)).map fun v => v.category).sum ≤ 8 := by
  rcases h with h | ⟨h, h2⟩
  · exact qa_cats A st h
  · have key : ∀ st : List qV, (∀ v ∈ st, v.1 < 2) → ((st.map (qa_val A)).map fun v => v.category).sum ≤ st.length := by
      intro st
      induction st with
      | nil => intro _; exact Nat.le_refl _
      | cons v t ih =>
        intro hv
        rw [List.map_cons, List.map_cons, List.sum_cons, List.length_cons]
        have := ih (fun x hx => hv x (List.mem_cons_of_mem _ hx))
        have h0 : v.1 < 2 := hv v (List.mem_cons_self ..)
        have : (qa_val A v).category ≤ 1 := by
          unfold qa_val
          have : v.1 = 0 ∨ v.1 = 1 := by omega
          rcases this with e | e
          · rw [if_pos e]; exact Nat.le_refl _
          · rw [if_neg (by omega), if_pos e]; unfold va_rf; split <;> exact Nat.le_refl _
        omega
    have := key st h2
    omega
theorem qa_rm_le {fr lo : Nat} {a : qA} {r1 : qR} {kc ks : Nat} (C : qa_C xb Ai p s m args meth c cc nL own A0 R a0.2.2.2.1 a0.2.2.2.2 r) (hl : qa_le a (.inr r1)) (hb : r1.2.2.2.2.1 ≤ r.2.2.2.2.1 ∧ r1.2.2.2.2.2 ≤ r.2.2.2.2.2) (hc : a0.2.2.2.1 + kc = a.2.2.2.1) (hs : a0.2.2.2.2 + ks = a.2.2.2.2) : kc + (r1.2.2.2.2.1 - a.2.2.2.1) ≤ R.cells ∧ ks + (r1.2.2.2.2.2 - a.2.2.2.2) ≤ R.slots := by
  have r1' : a0.2.2.2.1 + R.cells = r.2.2.2.2.1 := C.2.2.2.2.2.2.2.1
  have r2' : a0.2.2.2.2 + R.slots = r.2.2.2.2.2 := C.2.2.2.2.2.2.2.2.1
  have h1 : a.2.2.2.1 ≤ r1.2.2.2.2.1 := hl.2.1
  have h2 : a.2.2.2.2 ≤ r1.2.2.2.2.2 := hl.2.2
  exact ⟨by omega, by omega⟩
theorem qa_pre (C : qa_C xb Ai p s m args meth c cc nL own A0 R a0.2.2.2.1 a0.2.2.2.2 r) {A : Int → Nat} {a : qA} {H : Heap} {locs : List Loc} {av : List qV} (hW : qa_W D s A0 A a H) (hwf : qa_wf a) (hav : qa_okl a.2.2.1 av) (hn : ∀ v : Int, v < 0 → A v = Ai v) (hS : va_S A0 s.heap H locs) (U : State) (hU : U.heap = H) (hWm : s.WarmedH U.vm) : va_Pc (av.map (qa_val A)) (qa_Pre D A a av H.size) (av.map (qa_val A)).toArray U := by
  obtain ⟨cA, tys, hP, hD, hK, hT⟩ := hW
  refine ⟨rfl, by rw [hU], ⟨cA, tys, by rw [hU]; exact hP, hD.weaken (fun _ _ _ _ => trivial), va_K.moved hWm.alike hK, hT⟩, hwf, hav, ?_⟩
  refine (C.2.2.2.2.2.2.2.2.2.2).call hS hWm hU (fun q hq => ?_) hn
  rcases hq with ⟨k, h1, h2, rfl⟩ | h
  · exact hD.2 k.toNat _ (qa_ws_get h1 h2)
  · exact C.2.2.2.2.2.2.1 q (Nat.le_trans hS.1 h)
theorem qa_recv {A : Int → Nat} {a : qA} {H : Heap} {o : Int} {ci : Nat} {rC : vw_C} (hW : qa_W D s A0 A a H) (hwf : qa_wf a) (hk : (a.2.1 o).1 = ci + 1) (h99 : ci < 99) (hci : vwCl[ci]? = some rC) : ∃ cell : Cell, H[A o]? = some cell ∧ cell.vm.isStatics = false ∧ s.vm.findClass rC.1 = some cell.cls := by
  obtain ⟨cA, tys, hP, hD, hK, hT⟩ := hW
  have hb := hwf.2.1 o (by rw [hk]; omega)
  have he := qa_ws_get (A := A) (cA := cA) (a := a) hb.1 hb.2
  rw [qa_cls hk h99] at he
  exact va_recv hK hP hci he
theorem qa_first {st : List qV} {nP : Nat} {v : qV} (h1 : 1 ≤ nP) (h : st[nP - 1]? = some v) : (st.take nP).reverse = v :: (st.take (nP - 1)).reverse := by
  obtain ⟨n, rfl⟩ : ∃ n, nP = n + 1 := ⟨nP - 1, by omega⟩
  rw [Nat.add_sub_cancel] at h ⊢
  rw [List.take_add_one, h]
  simp
theorem ok_callv (C : qa_C xb Ai p s m args meth c cc nL own A0 R a0.2.2.2.1 a0.2.2.2.2 r) {pc index ci nP maxL fr lo : Nat} {k : qI} {f : List qV → qA → Option qR} {y : MethodName} {bytes : ByteArray} {ret : Option FieldType} {rC : vw_C} (hci : vwCl[ci]? = some rC) (h99 : ci < 99) (hcon : qa_Con l y bytes maxL ret fr lo f)
    (hw : ∀ w ∈ [Cond.methodLink own index y, .instanceMethod y, .selects rC.1 y y, .initialized rC.1, .code y bytes maxL ret], w ∈ qa_tb)
    (hd : y.cls = rC.1 ∧ y.cls ≠ "java/lang/invoke/MethodHandle" ∧ y.cls ≠ "java/lang/invoke/VarHandle" ∧ (parseMethodDescriptor y.desc).map (fun d => d.parameters.length) = some (nP - 1)) (hR : fr + 1 ≤ R.frames ∧ 8 + (maxL + 11) + lo ≤ R.locals)
    (d : decode cc pc = .ok (.invokevirtual index, 3)) (K : qa_OK p l e R s m args below meth c (qa_Q below D Ai a0 r A0 args s) D A0 Ai a0.2.2.1 nL a0.2.2.2.1 a0.2.2.2.2 r pcs (pc + 3) k) (hh : xb = true := by rfl) : qa_OK p l e R s m args below meth c (qa_Q below D Ai a0 r A0 args s) D A0 Ai a0.2.2.1 nL a0.2.2.2.1 a0.2.2.2.2 r pcs pc (q_callv ci f nP k) := by
  intro ls st a o ho
  unfold q_callv at ho
  split at ho
  · rename_i v hv
    split at ho
    · rename_i h
      obtain ⟨h1, h2, h3⟩ := h
      have hle : ∀ (av : List qV) (a : qA) (r : qR), f av a = some r → qa_le a (.inr r) := fun av a r h => (hcon av a r h).1
      refine ⟨qa_lecall hle ho (fun ls st a o h => (K ls st a o h).1), fun g => ?_⟩
      intro A H locs kc ks LS hW hwf hls hst hn hA hS hL hc hs
      refine qa_called C ho K g hle ?_ hW hwf hls hst hn hA hS hL hc hs ?_
      · intro r1 A1 A' kE H1 locs1 kc1 ks1 LS1 q ce hf g1 ho2 hA' hW1 hwf1 hS1 hL1 hc1 hs1 hce hcv hcl
        refine qa_thrown C hh (ls := ls) (st := st) g1 ?_ hA' hW1 hwf1 hS1 hc1 hs1 hce hcv hcl
        rw [ho2] at g
        exact g
      · intro r1 hf hb
        obtain ⟨hl, hM⟩ := hcon _ _ _ hf
        have hfst := qa_first h3 hv
        have hdeep := qa_deep ho
        have hvb := hwf.2.1 v.2 (by rw [h2]; omega)
        have eb : qa_val A v = .ref (A v.2) := by rw [qa_eta h1, qa_v1, qa_rfr (by omega)]
        have hav : qa_okl a.2.2.1 (st.take nP).reverse := fun x hx => hst x (List.mem_of_mem_take (List.mem_reverse.mp hx))
        have hpre := qa_pre C hW hwf hav (fun x hx => hA x (by omega)) hS
        rw [qa_stk (st := st) (nP := nP)]
        have hM1 := hM D A H.size
        rw [hfst, List.map_cons, eb] at hM1 hpre ⊢
        refine vx_runV (As := ((st.take (nP - 1)).reverse).map (qa_val A)) (rest := (st.drop nP).map (qa_val A)) (Ts := qa_tb) (own := own) (C := rC.1) (b := A v.2) (nL := nL) ⟨C.1, C.2.1, C.2.2.1, C.2.2.2.1, C.2.2.2.2.1⟩ hM1 (cwV (ws' := qa_tb) (nP - 1) C.2.2.2.2.1 ?_ rfl rfl rfl ⟨hd.1, hd.2.1, hd.2.2.1, hd.2.2.2⟩ hR) ⟨qa_blind, qa_recv hW hwf h2 h99 hci, hpre⟩ rfl ?_ hL.1 ?_ ?_ d (qa_rm_le (fr := fr) (lo := lo) C hl hb hc hs)
        · refine qa_goodin (fun w hw' => ?_)
          unfold wsV at hw'
          rcases List.mem_append.mp hw' with h | h
          · exact hw w (by simp only [List.mem_cons, List.not_mem_nil, or_false] at h ⊢; rcases h with h | h | h | h <;> simp [h])
          · rcases List.mem_cons.mp h with h | h
            · exact hw w (by rw [h]; simp)
            · exact h
        · rw [List.length_map, List.length_reverse, List.length_take]; omega
        · rw [List.reverse_cons, List.append_assoc]; rfl
        · exact lv_room (qa_catd A _ hdeep.2)
    · cases ho
  · cases ho
theorem ok_calls (C : qa_C xb Ai p s m args meth c cc nL own A0 R a0.2.2.2.1 a0.2.2.2.2 r) {pc index nP maxL fr lo : Nat} {k : qI} {f : List qV → qA → Option qR} {y : MethodName} {bytes : ByteArray} {ret : Option FieldType} (hcon : qa_Con l y bytes maxL ret fr lo f)
    (hw : ∀ w ∈ [Cond.methodLink own index y, .static y, .initialized y.cls, .code y bytes maxL ret], w ∈ qa_tb)
    (hd : y.cls ≠ "java/lang/invoke/MethodHandle" ∧ y.cls ≠ "java/lang/invoke/VarHandle" ∧ (parseMethodDescriptor y.desc).map (fun d => d.parameters.length) = some nP) (hR : fr + 1 ≤ R.frames ∧ 8 + (maxL + 11) + lo ≤ R.locals)
    (d : decode cc pc = .ok (.invokestatic index, 3)) (K : qa_OK p l e R s m args below meth c (qa_Q below D Ai a0 r A0 args s) D A0 Ai a0.2.2.1 nL a0.2.2.2.1 a0.2.2.2.2 r pcs (pc + 3) k) (hh : xb = true := by rfl) : qa_OK p l e R s m args below meth c (qa_Q below D Ai a0 r A0 args s) D A0 Ai a0.2.2.1 nL a0.2.2.2.1 a0.2.2.2.2 r pcs pc (q_call f nP k) := by
  intro ls st a o ho
  have hle : ∀ (av : List qV) (a : qA) (r : qR), f av a = some r → qa_le a (.inr r) := fun av a r h => (hcon av a r h).1
  refine ⟨qa_lecall hle ho (fun ls st a o h => (K ls st a o h).1), fun g => ?_⟩
  intro A H locs kc ks LS hW hwf hls hst hn hA hS hL hc hs
  refine qa_called C ho K g hle ?_ hW hwf hls hst hn hA hS hL hc hs ?_
  · intro r1 A1 A' kE H1 locs1 kc1 ks1 LS1 q ce hf g1 ho2 hA' hW1 hwf1 hS1 hL1 hc1 hs1 hce hcv hcl
    refine qa_thrown C hh (ls := ls) (st := st) g1 ?_ hA' hW1 hwf1 hS1 hc1 hs1 hce hcv hcl
    rw [ho2] at g
    exact g
  · intro r1 hf hb
    obtain ⟨hl, hM⟩ := hcon _ _ _ hf
    have hdeep := qa_deep ho
    have hav : qa_okl a.2.2.1 (st.take nP).reverse := fun x hx => hst x (List.mem_of_mem_take (List.mem_reverse.mp hx))
    have hpre := qa_pre C hW hwf hav (fun x hx => hA x (by omega)) hS
    rw [qa_stk (st := st) (nP := nP)]
    refine vx_runS (As := ((st.take nP).reverse).map (qa_val A)) (rest := (st.drop nP).map (qa_val A)) (Ts := qa_tb) (own := own) (nL := nL) ⟨C.1, C.2.1, C.2.2.1, C.2.2.2.1, C.2.2.2.2.1⟩ (hM D A H.size) (va_cwS (ws' := qa_tb) nP C.2.2.2.2.1 ?_ rfl rfl rfl hd hR) ⟨qa_blind, hpre⟩ rfl ?_ hL.1 rfl ?_ d (qa_rm_le (fr := fr) (lo := lo) C hl hb hc hs)
    · refine qa_goodin (fun w hw' => ?_)
      unfold va_wsS at hw'
      rcases List.mem_append.mp hw' with h | h
      · exact hw w (by simp only [List.mem_cons, List.not_mem_nil, or_false] at h ⊢; rcases h with h | h | h <;> simp [h])
      · rcases List.mem_cons.mp h with h | h
        · exact hw w (by rw [h]; simp)
        · exact h
    · rw [List.length_map, List.length_reverse, List.length_take]; omega
    · exact lv_room (qa_catd A _ hdeep.2)
theorem qa_callig (C : qa_C xb Ai p s m args meth c cc nL own A0 R a0.2.2.2.1 a0.2.2.2.2 r) {pc index ci nP maxL fr lo : Nat} {k : qI} {f : List qV → qA → Option qR} {y : MethodName} {bytes : ByteArray} (hcon : qa_Con l y bytes maxL none fr lo f) (h99 : ci < 99)
    (hrun : ∀ {A : Int → Nat} {a : qA} {H : Heap} {locs : List Loc} {kc ks : Nat} {LS : Array Slot} {b : Nat} {As : List qV} {rest : List Value} {r1 : qR} {av : List qV}, vx_Met l y (Cond.code y bytes maxL none :: qa_tb) (qa_rm fr lo a r1) (va_Pc (.ref b :: As.map (qa_val A)) (qa_Pre D A a av H.size)) (qa_Post D A a r1 (qa_F A a H.size)) (qa_PostX D A a r1 (qa_F A a H.size)) (r1.2.2.2.2.1 - a.2.2.2.1) (r1.2.2.2.2.2 - a.2.2.2.2) (qa_F A a H.size) →
      PreS s H (va_Pc (.ref b :: As.map (qa_val A)) (qa_Pre D A a av H.size)) (.ref b :: As.map (qa_val A)) → As.length = nP - 1 → LS.size = nL → (rest.map fun v => v.category).sum ≤ 8 → kc + (r1.2.2.2.2.1 - a.2.2.2.1) ≤ R.cells ∧ ks + (r1.2.2.2.2.2 - a.2.2.2.2) ≤ R.slots →
      vx_Run p l e R s m args below meth c H locs kc ks (r1.2.2.2.2.1 - a.2.2.2.1) (r1.2.2.2.2.2 - a.2.2.2.2) (F0 m pc LS ((As.map (qa_val A)).reverse ++ .ref b :: rest)) rest (qa_Post D A a r1 (qa_F A a H.size) (Value.ref b :: As.map (qa_val A)).toArray) (qa_PostX D A a r1 (qa_F A a H.size)) (qa_F A a H.size))
    (K : qa_OK p l e R s m args below meth c (qa_Q below D Ai a0 r A0 args s) D A0 Ai a0.2.2.1 nL a0.2.2.2.1 a0.2.2.2.2 r pcs (pc + 3) k) (hh : xb = true := by rfl) : qa_OK p l e R s m args below meth c (qa_Q below D Ai a0 r A0 args s) D A0 Ai a0.2.2.1 nL a0.2.2.2.1 a0.2.2.2.2 r pcs pc (q_callv ci f nP k) := by
  intro ls st a o ho
  unfold q_callv at ho
  split at ho
  · rename_i v hv
    split at ho
    · rename_i h
      obtain ⟨h1, h2, h3⟩ := h
      have hle : ∀ (av : List qV) (a : qA) (r : qR), f av a = some r → qa_le a (.inr r) := fun av a r h => (hcon av a r h).1
      refine ⟨qa_lecall hle ho (fun ls st a o h => (K ls st a o h).1), fun g => ?_⟩
      intro A H locs kc ks LS hW hwf hls hst hn hA hS hL hc hs
      refine qa_called C ho K g hle ?_ hW hwf hls hst hn hA hS hL hc hs ?_
      · intro r1 A1 A' kE H1 locs1 kc1 ks1 LS1 q ce hf g1 ho2 hA' hW1 hwf1 hS1 hL1 hc1 hs1 hce hcv hcl
        refine qa_thrown C hh (ls := ls) (st := st) g1 ?_ hA' hW1 hwf1 hS1 hc1 hs1 hce hcv hcl
        rw [ho2] at g
        exact g
      · intro r1 hf hb
        obtain ⟨hl, hM⟩ := hcon _ _ _ hf
        have hfst := qa_first h3 hv
        have hdeep := qa_deep ho
        have hvb := hwf.2.1 v.2 (by rw [h2]; omega)
        have eb : qa_val A v = .ref (A v.2) := by rw [qa_eta h1, qa_v1, qa_rfr (by omega)]
        have hav : qa_okl a.2.2.1 (st.take nP).reverse := fun x hx => hst x (List.mem_of_mem_take (List.mem_reverse.mp hx))
        have hpre := qa_pre C hW hwf hav (fun x hx => hA x (by omega)) hS
        rw [qa_stk (st := st) (nP := nP)]
        have hM1 := hM D A H.size
        rw [hfst, List.map_cons, eb] at hM1 hpre ⊢
        rw [List.reverse_cons, List.append_assoc]
        exact hrun hM1 ⟨qa_blind, hpre⟩ (by rw [List.length_reverse, List.length_take]; omega) hL.1 (qa_catd A _ hdeep.2) (qa_rm_le (fr := fr) (lo := lo) C hl hb hc hs)
    · cases ho
  · cases ho
theorem ok_calli (C : qa_C xb Ai p s m args meth c cc nL own A0 R a0.2.2.2.1 a0.2.2.2.2 r) {pc index ci nP maxL fr lo : Nat} {k : qI} {f : List qV → qA → Option qR} {y : MethodName} {bytes : ByteArray} (hcon : qa_Con l y bytes maxL none fr lo f) (h99 : ci < 99)
    (hw : ∀ w ∈ [Cond.methodLink own index y, .instanceMethod y, .initialized y.cls, .code y bytes maxL none], w ∈ qa_tb) (hy1 : y.name = "<init>")
    (hd : y.cls ≠ "java/lang/invoke/MethodHandle" ∧ y.cls ≠ "java/lang/invoke/VarHandle" ∧ (parseMethodDescriptor y.desc).map (fun d => d.parameters.length) = some (nP - 1)) (hR : fr + 1 ≤ R.frames ∧ 8 + (maxL + 11) + lo ≤ R.locals)
    (d : decode cc pc = .ok (.invokespecial index, 3)) (K : qa_OK p l e R s m args below meth c (qa_Q below D Ai a0 r A0 args s) D A0 Ai a0.2.2.1 nL a0.2.2.2.1 a0.2.2.2.2 r pcs (pc + 3) k) (hh : xb = true := by rfl) : qa_OK p l e R s m args below meth c (qa_Q below D Ai a0 r A0 args s) D A0 Ai a0.2.2.1 nL a0.2.2.2.1 a0.2.2.2.2 r pcs pc (q_callv ci f nP k) :=
  qa_callig (index := index) C hcon h99 (fun hM hp hn hsz hcat hbud => vx_runI (Ts := qa_tb) (own := own) (nL := nL) ⟨C.1, C.2.1, C.2.2.1, C.2.2.2.1, C.2.2.2.2.1⟩ hM (cwI (ws' := qa_tb) (nP - 1) C.2.2.2.2.1 (qa_goodc (hw _ (by simp))) rfl rfl rfl (C.2.2.2.2.1 _ (hw _ (by simp))) (C.2.2.2.2.1 _ (hw _ (by simp))) (C.2.2.2.2.1 _ (hw _ (by simp))) hy1 hd hR) hp rfl (by rw [List.length_map]; exact hn) hsz rfl (lv_room hcat) d hbud) K hh
theorem ok_callin (C : qa_C xb Ai p s m args meth c cc nL own A0 R a0.2.2.2.1 a0.2.2.2.2 r) {pc index ci nP maxL fr lo : Nat} {k : qI} {f : List qV → qA → Option qR} {y : MethodName} {bytes : ByteArray} {host : String} (hcon : qa_Con l y bytes maxL none fr lo f) (h99 : ci < 99) (hnest : Cond.methodLinkNest own index y host ∈ qa_nest)
    (hw : ∀ w ∈ [Cond.instanceMethod y, .initialized y.cls, .code y bytes maxL none], w ∈ qa_tb) (hy1 : y.name = "<init>")
    (hd : y.cls ≠ "java/lang/invoke/MethodHandle" ∧ y.cls ≠ "java/lang/invoke/VarHandle" ∧ (parseMethodDescriptor y.desc).map (fun d => d.parameters.length) = some (nP - 1)) (hR : fr + 1 ≤ R.frames ∧ 8 + (maxL + 11) + lo ≤ R.locals)
    (d : decode cc pc = .ok (.invokespecial index, 3)) (K : qa_OK p l e R s m args below meth c (qa_Q below D Ai a0 r A0 args s) D A0 Ai a0.2.2.1 nL a0.2.2.2.1 a0.2.2.2.2 r pcs (pc + 3) k) (hh : xb = true := by rfl) : qa_OK p l e R s m args below meth c (qa_Q below D Ai a0 r A0 args s) D A0 Ai a0.2.2.1 nL a0.2.2.2.1 a0.2.2.2.2 r pcs pc (q_callv ci f nP k) :=
  qa_callig (index := index) C hcon h99 (fun hM hp hn hsz hcat hbud => vx_runIN (Ts := qa_tb) (own := own) (host := host) (nL := nL) ⟨C.1, C.2.1, C.2.2.1, C.2.2.2.1, C.2.2.2.2.1⟩ hM ⟨va_cnB (ws' := qa_tb) (nP - 1) C.2.2.2.2.1 (qa_goodc (hw _ (by simp))) rfl rfl rfl (C.2.2.2.2.2.2.2.2.2.2.1 _ hnest) (C.2.2.2.2.1 _ (hw _ (by simp))) hd hR, hy1, C.2.2.2.2.1 _ (hw _ (by simp))⟩ hp rfl (by rw [List.length_map]; exact hn) hsz rfl (lv_room hcat) d hbud) K hh
end QS
