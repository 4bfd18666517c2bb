section QS
variable {p : Program} {l : Launch} {e : Env} {R : Room} {s : State} {m : MethodId} {args : Array Value} {below : List Frame} {meth : Method} {c : Code} {Q : State → Prop} {cc : ByteArray} {nL : Nat} {own : String} {D : va_G} {A0 : Nat → Prop} {Ai : Int → Nat} {xb : Bool} {n0 c0 s0 : Nat} {r : qR} {pcs : Nat → Nat}
def qa_F (A : Int → Nat) (a : qA) (sz : Nat) : Nat → Prop := fun q => (∃ k : Int, 0 ≤ k ∧ k < (a.2.2.1 : Int) ∧ q = A k) ∨ sz ≤ q
def qa_Pre (D : va_G) (A : Int → Nat) (a : qA) (av : List qV) (sz : Nat) : State → Prop := fun U => U.heap.size = sz ∧ qa_W D U (fun _ => True) A a U.heap ∧ qa_wf a ∧ qa_okl a.2.2.1 av ∧ qa_S A (qa_F A a sz) U U.heap
def qa_Post (D : va_G) (A : Int → Nat) (a : qA) (r : qR) (F : Nat → Prop) : Array Value → State → Outcome → State → Prop := fun _ st oc t =>
  (∃ (A' : Int → Nat) (rv : Option qV), r.1 = .inl rv ∧ oc = .returned (rv.map (qa_val A')) ∧ (∀ v : Int, v < (a.2.2.1 : Int) → A' v = A v) ∧ qa_W D t F A' r.2 t.heap ∧ qa_wf r.2 ∧ ∀ v, rv = some v → qa_okv r.2.2.2.1 v) ∧ va_F F st t
def qa_en (k : Nat) : String := if k = 1 then "java/lang/IndexOutOfBoundsException" else if k = 2 then "java/lang/IllegalArgumentException" else "java/lang/IllegalStateException"
def qa_PostX (D : va_G) (A : Int → Nat) (a : qA) (r : qR) (F : Nat → Prop) : String → State → State → Prop := fun E st t =>
  (∃ (A' : Int → Nat) (k : Nat), r.1 = .inr k ∧ E = qa_en k ∧ (∀ v : Int, v < (a.2.2.1 : Int) → A' v = A v) ∧ qa_W D t F A' r.2 t.heap ∧ qa_wf r.2) ∧ va_F F st t
def qa_rm (fr lo : Nat) (a : qA) (r : qR) : Room := { frames := fr, cells := r.2.2.2.2.1 - a.2.2.2.1, slots := r.2.2.2.2.2 - a.2.2.2.2, locals := lo }
def qa_Con (l : Launch) (y : MethodName) (bytes : ByteArray) (maxL : Nat) (ret : Option FieldType) (fr lo : Nat) (f : List qV → qA → Option qR) : Prop :=
  ∀ (av : List qV) (a : qA) (r : qR), f av a = some r → qa_le a (.inr r) ∧ ∀ (D : va_G) (A : Int → Nat) (sz : Nat),
    vx_Met l y (Cond.code y bytes maxL ret :: qa_tb) (qa_rm fr lo a r) (va_Pc (av.map (qa_val A)) (qa_Pre D A a av sz)) (qa_Post D A a r (qa_F A a sz)) (qa_PostX D A a r (qa_F A a sz)) (r.2.2.2.2.1 - a.2.2.2.1) (r.2.2.2.2.2 - a.2.2.2.2) (qa_F A a sz)
theorem qa_goodin {ws : List Cond} (h : ∀ w ∈ ws, w ∈ qa_tb) : GoodIn qa_tb ws := fun w hw => ⟨h w hw, good_of_word (List.mem_filter.mp (h w hw)).2⟩
theorem qa_goodc {w : Cond} (h : w ∈ qa_tb) : GoodIn qa_tb (w :: qa_tb) := qa_goodin (fun x hx => (List.mem_cons.mp hx).elim (fun e => e ▸ h) id)
theorem qa_blind {D : va_G} {A : Int → Nat} {a : qA} {av : List qV} {sz : Nat} {vs : List Value} : FrameBlind (va_Pc vs (qa_Pre D A a av sz)) := by
  intro x U g mk h
  obtain ⟨q0, q1, ⟨cA, tys, q2, q3, q4, q5⟩, q6, q7, q8⟩ := h
  exact ⟨q0, q1, ⟨cA, tys, q2, q3, va_K.moved (u := U) (U := U.calling g mk x) (Vm.Alike.refl U.vm) q4, q5⟩, q6, q7, show qa_S A (qa_F A a sz) (U.calling g mk x) U.heap from qa_S.same (s := U) (U := U.calling g mk x) (rfl : U.vm = (U.calling g mk x).vm) q8⟩
theorem qa_called (C : qa_C xb Ai p s m args meth c cc nL own A0 R c0 s0 r) {pc : Nat} {ls st : List qV} {a : qA} {f : List qV → qA → Option qR} {nP : Nat} {k : qI} {o : qO} (ho : q_call f nP k ls st a = some o) (K : qa_OK p l e R s m args below meth c Q D A0 Ai n0 nL c0 s0 r pcs (pc + 3) k) (g : qa_good p l e R s m args below meth c Q D A0 Ai n0 nL c0 s0 r pcs o)
    (hle : ∀ (av : List qV) (a : qA) (r : qR), f av a = some r → qa_le a (.inr r))
    (hX : ∀ (r1 : qR) (A : Int → Nat) (A' : Int → Nat) (kE : Nat) (H1 : Heap) (locs1 : List Loc) (kc1 ks1 : Nat) (LS : Array Slot) (q : Addr) (ce : Cell), f (st.take nP).reverse a = some r1 → r1.1 = .inr kE → o = .inr r1 → (∀ v : Int, v < (n0 : Int) → A' v = Ai v) → qa_W D s A0 A' r1.2 H1 → qa_wf r1.2 → va_S A0 s.heap H1 locs1 → lv_has LS nL (qa_lv A' ls) → c0 + kc1 = r1.2.2.2.2.1 → s0 + ks1 = r1.2.2.2.2.2 → H1[q]? = some ce → ce.vm = .none → s.vm.findClass (qa_en kE) = some ce.cls → vx_W p l e R s m args below meth c H1 locs1 kc1 ks1 Q (F0 m pc LS ((st.drop nP).map (qa_val A'))) q)
    {A : Int → Nat} {H : Heap} {locs : List Loc} {kc ks : Nat} {LS : Array Slot} (hW : qa_W D s A0 A a H) (hwf : qa_wf a) (hls : qa_okl a.2.2.1 ls) (hst : qa_okl a.2.2.1 st) (hn : n0 ≤ a.2.2.1) (hA : ∀ v : Int, v < (n0 : Int) → A v = Ai v) (hS : va_S A0 s.heap H locs) (hL : lv_has LS nL (qa_lv A ls)) (hc : c0 + kc = a.2.2.2.1) (hs : s0 + ks = a.2.2.2.2)
    (hrun : ∀ r1, f (st.take nP).reverse a = some r1 → r1.2.2.2.2.1 ≤ r.2.2.2.2.1 ∧ r1.2.2.2.2.2 ≤ r.2.2.2.2.2 → vx_Run p l e R s m args below meth c H locs kc ks (r1.2.2.2.2.1 - a.2.2.2.1) (r1.2.2.2.2.2 - a.2.2.2.2) (F0 m pc LS (st.map (qa_val A))) ((st.drop nP).map (qa_val A)) (qa_Post D A a r1 (qa_F A a H.size) (((st.take nP).reverse.map (qa_val A)).toArray)) (qa_PostX D A a r1 (qa_F A a H.size)) (qa_F A a H.size)) :
    W p l e R s m args below meth c H locs kc ks Q (F0 m pc LS (st.map (qa_val A))) := by
  unfold q_call at ho
  split at ho
  · have hF : ∀ q, qa_F A a H.size q → A0 q := by
      intro q hq
      obtain ⟨cA, tys, hP, hD, -, -⟩ := hW
      rcases hq with ⟨k, h1, h2, rfl⟩ | h
      · exact hD.2 k.toNat _ (qa_ws_get h1 h2)
      · exact C.2.2.2.2.2.2.1 q (Nat.le_trans hS.1 h)
    cases hf : f (st.take nP).reverse a with
    | none => rw [hf] at ho; cases ho
    | some r1 =>
      have hl := hle _ _ _ hf
      have hl2 : a.2.2.1 ≤ r1.2.2.2.1 ∧ a.2.2.2.1 ≤ r1.2.2.2.2.1 ∧ a.2.2.2.2 ≤ r1.2.2.2.2.2 := hl
      have hb : r1.2.2.2.2.1 ≤ r.2.2.2.2.1 ∧ r1.2.2.2.2.2 ≤ r.2.2.2.2.2 := by
        rw [hf] at ho
        obtain ⟨rv, a1⟩ := r1
        cases rv with
        | inl v =>
          cases v with
          | none => exact qa_bud (K _ _ _ _ ho).1 g
          | some v => exact qa_bud (K _ _ _ _ ho).1 g
        | inr E =>
          cases ho
          have : ((.inr E, a1) : qR) = r := g
          rw [← this]
          exact ⟨Nat.le_refl _, Nat.le_refl _⟩
      intro T hT X
      rcases hrun r1 hf hb T hT X with ⟨v, st₀, t, T', L, h0, X', hL', e1, e2, ⟨⟨A', rv, g1, g2, g3, ⟨cA', tys', g4, g5, g6, g7⟩, g8, g9⟩, hFr⟩, hgo⟩ | ⟨q, st₀, t, T', L, E, ce, h0, X', hL', e1, e2, ⟨⟨A', kE, g1, g2, g3, ⟨cA', tys', g4, g5, g6, g7⟩, g8⟩, hFr⟩, hce, hcv, hcl, hgo⟩
      · obtain ⟨k1, k2, k3⟩ := vx_keep h0 e1 hS (fun q _ => hF q) hF hL' hFr
        have hal : s.vm.Alike t.vm := by rw [← e2]; exact X'.warmed.alike
        rw [← e1] at g4
        have hW1 : qa_W D s A0 A' r1.2 T'.heap := ⟨cA', tys', g4, g5.weaken (fun _ q _ h => hF _ h), va_K.moved hal.symm g6, g7⟩
        have hAn : ∀ v : Int, v < (n0 : Int) → A' v = Ai v := fun v hv => (g3 v (by omega)).trans (hA v hv)
        rw [hf] at ho
        obtain ⟨rv1, a1⟩ := r1
        dsimp only at g1 hl2 hb
        subst g1
        dsimp only at hW1 g8 g9
        have eLS : qa_lv A' ls = qa_lv A ls := qa_lv_ext g3 hls
        have est : (st.drop nP).map (qa_val A') = (st.drop nP).map (qa_val A) := qa_map_ext g3 (fun v hv => hst v (List.mem_of_mem_drop hv))
        cases rv with
        | none =>
          cases Outcome.returned.inj g2
          have := (K _ _ _ _ ho).2 g A' T'.heap (locs ++ L) _ _ LS hW1 g8 (qa_okl_mono hls hl2.1) (qa_okl_mono (fun v hv => hst v (List.mem_of_mem_drop hv)) hl2.1) (Nat.le_trans hn hl2.1) hAn k3 (by rw [eLS]; exact hL) (by dsimp only; omega) (by dsimp only; omega) T' rfl X'
          rw [est] at this
          obtain ⟨t2, b1, b2⟩ := this
          exact ⟨t2, hgo t2 b1, b2⟩
        | some w =>
          cases Outcome.returned.inj g2
          have := (K _ _ _ _ ho).2 g A' T'.heap (locs ++ L) _ _ LS hW1 g8 (qa_okl_mono hls hl2.1) (qa_okl_cons (g9 w rfl) (qa_okl_mono (fun v hv => hst v (List.mem_of_mem_drop hv)) hl2.1)) (Nat.le_trans hn hl2.1) hAn k3 (by rw [eLS]; exact hL) (by dsimp only; omega) (by dsimp only; omega) T' rfl X'
          rw [List.map_cons, est] at this
          obtain ⟨t2, b1, b2⟩ := this
          exact ⟨t2, hgo t2 b1, b2⟩
      · obtain ⟨k1, k2, k3⟩ := vx_keep h0 e1 hS (fun q _ => hF q) hF hL' hFr
        have hal : s.vm.Alike t.vm := by rw [← e2]; exact X'.warmed.alike
        rw [← e1] at g4 hce
        have hW1 : qa_W D s A0 A' r1.2 T'.heap := ⟨cA', tys', g4, g5.weaken (fun _ q _ h => hF _ h), va_K.moved hal.symm g6, g7⟩
        have hAn : ∀ v : Int, v < (n0 : Int) → A' v = Ai v := fun v hv => (g3 v (by omega)).trans (hA v hv)
        have eLS : qa_lv A' ls = qa_lv A ls := qa_lv_ext g3 hls
        have est : (st.drop nP).map (qa_val A') = (st.drop nP).map (qa_val A) := qa_map_ext g3 (fun v hv => hst v (List.mem_of_mem_drop hv))
        have ho2 : o = .inr r1 := by
          rw [hf] at ho
          obtain ⟨rv1, a1⟩ := r1
          dsimp only at g1
          subst g1
          exact (Option.some.inj ho).symm
        subst g2
        have := hX r1 A A' kE T'.heap (locs ++ L) _ _ LS q ce hf g1 ho2 hAn hW1 g8 k3 (by rw [eLS]; exact hL) (by omega) (by omega) hce hcv hcl T' rfl X'
        rw [est] at this
        obtain ⟨t2, b1, b2⟩ := this
        exact ⟨t2, hgo.trans b1, b2⟩
  · cases ho
end QS
