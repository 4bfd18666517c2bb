def R_law : String := "PromiseLogLaw"
def lw_P (b : Addr) (xs : List Int32) (args : Array Value) (s : State) : Prop := args = #[.ref b] ∧ s.IntsAt b xs ∧ xs.length ≤ 2560 ∧ (Jvm.Cond.and given_1 narrow_1).before args s = true
theorem lw_closed {s t : State} {o : Outcome} {d0 : Drawn} {L : List Loc} {k n : Nat} (hd0 : s.drawn.sameBut d0 lw_cs) (hv : ∃ v, o = .returned v) (hW : (s.setDrawn d0).WarmedH t.vm) (hs : (s.setDrawn d0).sameButNew ({ t with vm := s.vm } : State) L k n) : State.butDraws s t lw_cs (fun t1 => Framed s o t1 L k n) := by
  have h2 : t.drawn = d0 := congrArg State.drawn hs.1
  refine ⟨⟨hv, hW, State.sameButNew.setDrawn hs s.drawn⟩, ?_, by decide⟩
  rw [h2]
  exact hd0
def lw_Q (_ : Array Value) (s : State) (o : Outcome) (t : State) : Prop := o = .returned (some (.int 1)) ∧ State.butDraws s t lw_cs (fun t1 => Framed s o t1 [] 601024 7293034)
def lw_Z (below : List Frame) (a : Array Value) (s : State) : State → Prop := fun t => ∃ o, t.status = .running ∧ Ended t below o ∧ lw_Q a s o t
theorem lw_ret {p : Program} {l : Launch} {e : Env} {s : State} {m : MethodId} {below : List Frame} {meth : Method} {c : Code} {b : Nat} {d0 : Drawn} (hd0 : s.drawn.sameBut d0 lw_cs) (hx : p.tables.exec = Jvm.exec) (hb : c.code = code) (hr : meth.sig.returnType = ret) (hlocks : meth.locks = false) {pc : Nat} {H : Heap} {ls : Array Slot} (hdg : decode code pc = .ok (.ireturn, 1)) : W p l e room_1 (s.setDrawn d0) m #[Value.ref b] below meth c H [] 601024 7293034 (lw_Z below #[Value.ref b] s) (F0 m pc ls [.int 1]) := by
  intro T hT X
  obtain ⟨fs, hret, hrun, hended, hW, hframe⟩ := X.leave (v := some (.int 1)) (hlocks := hlocks) (fun h => by rw [hr] at h; cases h)
  have hmeth' : T.vm.method? m = some meth := X.method'
  refine ⟨T.setFrames fs, ?_, .returned (some (.int 1)), hrun, hended, rfl, lw_closed hd0 ⟨_, rfl⟩ hW hframe⟩
  jvm_step X.here [X.here.top, hx, hb, hdg, hmeth', hr, ret, narrow_b1]
  (try refine ⟨rfl, ?_⟩); (try refine ⟨rfl, ?_⟩)
  first | (intro acts; rw [hret _ acts rfl rfl rfl]) | rw [hret _ _ rfl rfl rfl]
  exact Steps.refl _
def lw_At (p : Program) (s : State) (m : MethodId) (meth : Method) (c : Code) (b L : Nat) (xs : Nat → Int32) : Prop :=
  p.tables.exec = Jvm.exec ∧ c.code = code ∧ meth.sig.returnType = ret ∧ c.maxLocals = 9 ∧ s.vm.findClass R_law = some m.cls ∧ (∀ w ∈ lw_tbl, w.before #[Value.ref b] s = true) ∧ va_X b L xs s s.heap ∧ b < s.heap.size ∧ meth.locks = false ∧ (Jvm.Cond.and given_1 narrow_1).before #[Value.ref b] s = true
theorem e0_forget {s U : State} {L : List Loc} {k n k' n' : Nat} (h : s.sameButNew U L k n) (hL : ∀ q ∈ L, s.heap.size ≤ q.base) (hk : k ≤ k') (hn : n ≤ n') : s.sameButNew U [] k' n' := by
  obtain ⟨h1, h2, h3, h4, h5, h6⟩ := h
  refine ⟨h1, h2, Nat.le_trans h3 (Nat.add_le_add_left hk _), h4, Nat.le_trans h5 hn, fun a c hc => ?_⟩
  obtain ⟨c', q1, q2, q3, q4⟩ := h6 a c hc
  refine ⟨c', q1, q2, q3, fun i _ => q4 i (fun hm => ?_)⟩
  have h7 : s.heap.size ≤ a := hL _ hm
  have h8 := (Array.getElem?_eq_some_iff.mp hc).1
  omega
theorem e0_shrink {p : Program} {l : Launch} {e : Env} {R R' : Room} {s T : State} {m : MethodId} {args : Array Value} {below : List Frame} {meth : Method} {c : Code} {locs : List Loc} {cells slots : Nat} (X : Stand p l e R s m args below meth c T locs cells slots) (hf : R'.frames ≤ R.frames) (hl : R'.locals ≤ R.locals) (hc : R'.cells ≤ R.cells) (hs : R'.slots ≤ R.slots) : Stand p l e R' s m args below meth c T locs cells slots := by
  have hr : s.hasRoom e.platform R' = true := by
    have h := X.room
    simp only [State.hasRoom, Bool.and_eq_true, decide_eq_true_eq] at h ⊢
    obtain ⟨⟨⟨⟨h1, h2, h3, h4, h5, h6⟩, h7⟩, h8⟩, h9⟩ := h
    exact ⟨⟨⟨⟨by omega, by omega, by omega, by omega, by omega, h6⟩, by omega⟩, by omega⟩, h9⟩
  exact { X with room := hr }
theorem e0_tie {p : Program} {l : Launch} {e : Env} {s : State} {m : MethodId} {below : List Frame} {meth : Method} {c : Code} {b L fr lo : Nat} {xs : Nat → Int32} {P : qP} {pcs : Nat → Nat} {r : qR} (hp0 : pcs 0 = 0) (C0 : lw_At p s m meth c b L xs) (htab : ∀ z ∈ c.exceptionTable.toList, False)
    (body : ∀ (args : Array Value) (D : va_G) (A0 : Nat → Prop) (Ai : Int → Nat), qa_C true Ai p s m args meth c cL_law 9 RL A0 (qa_rm fr lo ((fun _ _ => 0), (fun _ => (0, 0)), 0, 0, 0) r) 0 0 r → va_X (Ai (-17)) L xs s s.heap ∧ Ai (-17) < s.heap.size ∧ ¬ A0 (Ai (-17)) →
      ∀ (j : Nat) (f : qI), P[j]? = some f → qa_OK p l e (qa_rm fr lo ((fun _ _ => 0), (fun _ => (0, 0)), 0, 0, 0) r) s m args below meth c (qa_Q below D Ai ((fun _ _ => 0), (fun _ => (0, 0)), 0, 0, 0) r A0 args s) D A0 Ai 0 9 0 0 r pcs (pcs j) f)
    (hfn : qa_fn P 9 [(1, -17)] ((fun _ _ => 0), (fun _ => (0, 0)), 0, 0, 0) = some r) (hval : r.1 = .inl (some (0, 1))) (hc : r.2.2.2.2.1 ≤ 5000) (hs : r.2.2.2.2.2 ≤ 1020000) (hfr : fr ≤ 2048) (hlo : lo ≤ 84000) :
    W p l e room_1 s m #[Value.ref b] below meth c s.heap [] 0 0 (lw_Z below #[Value.ref b] s) (entryFrame m ([Value.ref b] : List Value).toArray 9) := by
  obtain ⟨hx, hb, hret, hml, hown, hts, hX, hbl, hlocks, hgv⟩ := C0
  have hN := flat_of_before _ hgv
  obtain ⟨D, hD⟩ := e0_K hts
  unfold qa_fn at hfn
  split at hfn
  · rename_i r' hev
    split at hfn
    · rename_i hle
      have e9 : r' = r := Option.some.inj hfn
      rw [e9] at hev hle
      obtain ⟨l1, l2, l3, l4, l5⟩ := hle
      obtain ⟨N, hN9⟩ := qa_ev_some.mp hev
      have hA0 : ∀ a : Nat, a < s.heap.size → ¬ qa_F (e0_A #[Value.ref b] s) ((fun _ _ => 0), (fun _ => (0, 0)), 0, 0, 0) s.heap.size a := by
        rintro a ha (⟨k, h1, h2, -⟩ | h)
        · have h2 : k < ((0 : Nat) : Int) := h2
          omega
        · omega
      have hS := e0_S (F := qa_F (e0_A #[Value.ref b] s) ((fun _ _ => 0), (fun _ => (0, 0)), 0, 0, 0) s.heap.size) hN hts hA0
      have hb17 : e0_A #[Value.ref b] s (-17) = b := e0_b17
      have hargs : (([(1, -17)] : List qV).map (qa_val (e0_A #[Value.ref b] s))).toArray = #[Value.ref b] := by
        show #[va_rf (qa_rf (e0_A #[Value.ref b] s) (-17))] = #[Value.ref b]
        rw [qa_rfr (by decide), hb17]
      have C : qa_C true (e0_A #[Value.ref b] s) p s m #[Value.ref b] meth c cL_law 9 RL (qa_F (e0_A #[Value.ref b] s) ((fun _ _ => 0), (fun _ => (0, 0)), 0, 0, 0) s.heap.size) (qa_rm fr lo ((fun _ _ => 0), (fun _ => (0, 0)), 0, 0, 0) r) 0 0 r :=
        ⟨hx, hb, hml, hown, fun w hw => hts w (List.mem_filter.mp hw).1, hlocks, fun q hq => Or.inr hq, by show 0 + (r.2.2.2.2.1 - 0) = _; omega, by show 0 + (r.2.2.2.2.2 - 0) = _; omega, fun _ => htab, hS⟩
      have hW : qa_W D s (fun _ => True) (e0_A #[Value.ref b] s) ((fun _ _ => 0), (fun _ => (0, 0)), 0, 0, 0) s.heap := by
        refine ⟨fun _ => 0, [], fun k q h => ?_, ⟨fun i j p q h => ?_, fun k q h => ?_⟩, hD, fun k h => absurd (show 100 < 0 from h) (by decide)⟩
        · simp [qa_ws] at h
        · simp [qa_ws] at h
        · simp [qa_ws] at h
      have hwf : qa_wf ((fun _ _ => 0), (fun _ => (0, 0)), 0, 0, 0) := by
        refine ⟨fun k j => ?_, fun k h => absurd rfl h, fun k h => absurd (show 100 < 0 from h) (by decide)⟩
        exact ⟨fun h => by
          rcases h with h | h
          · exact absurd (show (9 : Nat) = 0 from h) (by decide)
          · exact absurd (show (9 : Nat) = 2 from h) (by decide), fun h => absurd (show (9 : Nat) = 1 from h) (by decide)⟩
      have hav : qa_okl 0 [(1, -17)] := by
        intro v hv
        rw [List.mem_singleton.mp hv]
        exact ⟨fun h => by rcases h with h | h <;> exact absurd h (by decide), fun _ => by decide⟩
      have hbX : va_X (e0_A #[Value.ref b] s (-17)) L xs s s.heap ∧ e0_A #[Value.ref b] s (-17) < s.heap.size ∧ ¬ qa_F (e0_A #[Value.ref b] s) ((fun _ _ => 0), (fun _ => (0, 0)), 0, 0, 0) s.heap.size (e0_A #[Value.ref b] s (-17)) := by
        rw [hb17]
        exact ⟨hX, hbl, hA0 b hbl⟩
      have key := qa_core (l := l) (p := p) (e := e) (s := s) (m := m) (below := below) (meth := meth) (c := c) (D := D) (A := e0_A #[Value.ref b] s) (a0 := ((fun _ _ => 0), (fun _ => (0, 0)), 0, 0, 0)) (r := r) (sz := s.heap.size) (R := qa_rm fr lo ((fun _ _ => 0), (fun _ => (0, 0)), 0, 0, 0) r) (Q := qa_Q below D (e0_A #[Value.ref b] s) ((fun _ _ => 0), (fun _ => (0, 0)), 0, 0, 0) r (qa_F (e0_A #[Value.ref b] s) ((fun _ _ => 0), (fun _ => (0, 0)), 0, 0, 0) s.heap.size) #[Value.ref b] s) (P := P) (pcs := pcs) (maxL := 9) (N := N) (av := [(1, -17)]) hp0 (by rw [hargs]; exact body #[Value.ref b] D _ _ C hbX) hN9 l4 l5 hW hwf hav
      rw [hargs] at key
      intro T hT X
      obtain ⟨t, a1, o, b1, b2, b3⟩ := key T hT (e0_shrink X (R' := qa_rm fr lo ((fun _ _ => 0), (fun _ => (0, 0)), 0, 0, 0) r) hfr hlo (Nat.le_trans (Nat.sub_le _ _) (Nat.le_trans hc (Nat.le_of_ble_eq_true rfl))) (Nat.le_trans (Nat.sub_le _ _) (Nat.le_trans hs (Nat.le_of_ble_eq_true rfl))))
      rcases b3 with ⟨⟨⟨A', rv, g1, g2, -⟩, -⟩, L9, hfe, hL9⟩ | ⟨q, -, E, ce, L9, ⟨⟨A', k, g1, -⟩, -⟩, -⟩
      · have e1 : rv = some (0, 1) := by
          rw [hval] at g1
          injection g1 with g1
          exact g1.symm
        have e2 : o = .returned (some (.int 1)) := by
          rw [g2, e1]
          rfl
        refine ⟨t, a1, o, b1, b2, e2, ?_⟩
        obtain ⟨f1, f2, f3⟩ := hfe
        have hsame : s.sameButNew ({ t with vm := s.vm } : State) [] 601024 7293034 := e0_forget f3 (fun q hq => by
          rcases hL9 q hq with ⟨k, h1, h2, -⟩ | h
          · have h2 : k < ((0 : Nat) : Int) := h2
            omega
          · exact h) (Nat.le_trans (Nat.sub_le _ _) (Nat.le_trans hc (Nat.le_of_ble_eq_true rfl))) (Nat.le_trans (Nat.sub_le _ _) (Nat.le_trans hs (Nat.le_of_ble_eq_true rfl)))
        exact lw_closed (d0 := s.drawn) (Drawn.sameBut.refl s.drawn lw_cs) ⟨_, e2⟩ f2 hsame
      · rw [hval] at g1
        cases g1
    · cases hfn
  · cases hfn
