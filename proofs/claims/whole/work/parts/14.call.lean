section QS
variable {p : Program} {l : Launch} {e : Env} {R : Room} {s : State} {m : MethodId} {args : Array Value} {below : List Frame} {meth : Method} {c : Code} {Q : State → Prop} {cc : ByteArray} {nL : Nat} {own : String} {D : va_G} {A0 : Nat → Prop} {Ai : Int → Nat} {xb : Bool} {n0 c0 s0 : Nat} {r : qR} {pcs : Nat → Nat}
theorem qa_okv_ext {A A' : Int → Nat} {n : Nat} {v : qV} (hA : ∀ x : Int, x < (n : Int) → A' x = A x) (h : qa_okv n v) : qa_val A' v = qa_val A v := qa_val_ext (fun h1 => hA _ (h.2 h1))
theorem qa_map_ext {A A' : Int → Nat} {n : Nat} {st : List qV} (hA : ∀ x : Int, x < (n : Int) → A' x = A x) (h : qa_okl n st) : st.map (qa_val A') = st.map (qa_val A) := List.map_congr_left (fun v hv => qa_okv_ext hA (h v hv))
theorem qa_lv_ext {A A' : Int → Nat} {n : Nat} {ls : List qV} (hA : ∀ x : Int, x < (n : Int) → A' x = A x) (h : qa_okl n ls) : qa_lv A' ls = qa_lv A ls := by
  unfold qa_lv
  congr 1
  funext i
  unfold qa_lvf
  cases hv : ls[i]? with
  | none => rfl
  | some v =>
    dsimp only
    rw [qa_okv_ext hA (h v (List.mem_of_getElem? hv))]
theorem qa_arr_ext {A A' : Int → Nat} {n : Nat} {ty : Nat} {f : Int → Int} (hA : ∀ x : Int, x < (n : Int) → A' x = A x) (h : ∀ j : Int, qa_okv n (qa_tag ty j, f j)) (hty : 100 ≤ ty) : qa_arr A' ty f = qa_arr A ty f := by
  unfold qa_arr
  by_cases h1 : ty = 105
  · simp only [if_pos h1]
  · by_cases h2 : ty = 106
    · simp only [if_neg h1, if_pos h2]
    · by_cases h3 : ty = 107
      · simp only [if_neg h1, if_neg h2, if_pos h3]
      · by_cases h4 : ty < 105
        · simp only [if_neg h1, if_neg h2, if_neg h3, if_pos h4]
        · simp only [if_neg h1, if_neg h2, if_neg h3, if_neg h4]
          have e : (fun i : Nat => qa_rf A' (f (i : Int))) = fun i : Nat => qa_rf A (f (i : Int)) := by
            funext i
            have := (h (i : Int)).2 (by unfold qa_tag; rw [if_neg (by omega), if_neg (by omega), if_neg h1, if_neg h2, if_neg h3, if_neg (by omega)])
            unfold qa_rf
            rw [hA _ this]
          rw [e]
theorem qa_cell_ext {A A' : Int → Nat} {cA cA' : Int → ClassId} {a : qA} {k : Int} (hA : ∀ x : Int, x < (a.2.2.1 : Int) → A' x = A x) (hc : cA' k = cA k) (hwf : qa_wf a) : qa_cell A' cA' a k = qa_cell A cA a k := by
  unfold qa_cell
  by_cases h : (a.2.1 k).1 < 100
  · rw [if_pos h, if_pos h]
    have e : (fun j : Nat => qa_val A' (qa_tag (a.2.1 k).1 (j : Int), a.1 k (j : Int))) = fun j : Nat => qa_val A (qa_tag (a.2.1 k).1 (j : Int), a.1 k (j : Int)) := by
      funext j
      exact qa_okv_ext hA (hwf.1 k j)
    rw [e]
  · rw [if_neg h, if_neg h, hc, qa_arr_ext hA (hwf.1 k) (by omega)]
theorem qa_cell_cong {A : Int → Nat} {cA : Int → ClassId} {a a' : qA} {k : Int} (h1 : a'.2.1 k = a.2.1 k) (h2 : a'.1 k = a.1 k) : qa_cell A cA a' k = qa_cell A cA a k := by
  unfold qa_cell
  rw [h1, h2]
theorem qa_ws_new {A : Int → Nat} {cA : Int → ClassId} {a : qA} {q : Nat} {cq : ClassId} {kd : Nat × Int} {z : Int → Int} {w : Nat} (hwf : qa_wf a) :
    qa_ws (fun v => if v = (a.2.2.1 : Int) then q else A v) (fun v => if v = (a.2.2.1 : Int) then cq else cA v) (qa_new a kd z w) = qa_ws A cA a ++ [(q, qa_cell (fun v => if v = (a.2.2.1 : Int) then q else A v) (fun v => if v = (a.2.2.1 : Int) then cq else cA v) (qa_new a kd z w) (a.2.2.1 : Int))] := by
  have hn : (qa_new a kd z w).2.2.1 = a.2.2.1 + 1 := rfl
  unfold qa_ws
  rw [hn, List.range_succ, List.map_append]
  congr 1
  · apply List.map_congr_left
    intro k hk
    have hlt : k < a.2.2.1 := List.mem_range.mp hk
    have hne : ¬ (k : Int) = (a.2.2.1 : Int) := by omega
    dsimp only
    rw [if_neg hne]
    congr 1
    rw [← qa_cell_ext (A := A) (A' := fun v => if v = (a.2.2.1 : Int) then q else A v) (cA' := fun v => if v = (a.2.2.1 : Int) then cq else cA v) (cA := cA) (a := a) (k := (k : Int)) (fun x hx => if_neg (by omega)) (if_neg hne) hwf]
    exact qa_cell_cong (show (if (k : Int) = (a.2.2.1 : Int) then kd else a.2.1 (k : Int)) = a.2.1 (k : Int) from if_neg hne) (show (fun i => if (k : Int) = (a.2.2.1 : Int) then z i else a.1 (k : Int) i) = a.1 (k : Int) from funext fun i => if_neg hne)
  · simp
theorem qa_wf_new {a : qA} {kd : Nat × Int} {z : Int → Int} {w : Nat} (h : qa_wf a) (hz : ∀ j, z j = 0 ∨ z j = -1) (h0 : kd.1 ≠ 0) (hl : 100 < kd.1 → 0 ≤ kd.2 ∧ kd.2 < 2147483648) : qa_wf (qa_new a kd z w) := by
  obtain ⟨h1, h2, h3⟩ := h
  refine ⟨fun k j => ?_, fun k hk => ?_, fun k hk => ?_⟩
  · show qa_okv (a.2.2.1 + 1) (qa_tag (if k = (a.2.2.1 : Int) then kd else a.2.1 k).1 j, if k = (a.2.2.1 : Int) then z j else a.1 k j)
    by_cases hk : k = (a.2.2.1 : Int)
    · rw [if_pos hk, if_pos hk]
      refine ⟨fun _ => ?_, fun _ => ?_⟩
      · rcases hz j with e | e <;> (dsimp only; rw [e]; exact ⟨by decide, by decide⟩)
      · rcases hz j with e | e <;> (dsimp only; rw [e]; omega)
    · rw [if_neg hk, if_neg hk]
      refine ⟨(h1 k j).1, fun ht => ?_⟩
      have := (h1 k j).2 ht
      dsimp only at this ⊢
      omega
  · show 0 ≤ k ∧ k < ((a.2.2.1 + 1 : Nat) : Int)
    by_cases hk2 : k = (a.2.2.1 : Int)
    · omega
    · have hk3 : (if k = (a.2.2.1 : Int) then kd else a.2.1 k).1 ≠ 0 := hk
      rw [if_neg hk2] at hk3
      have := h2 k hk3
      omega
  · have hk3 : 100 < (if k = (a.2.2.1 : Int) then kd else a.2.1 k).1 := hk
    show 0 ≤ (if k = (a.2.2.1 : Int) then kd else a.2.1 k).2 ∧ (if k = (a.2.2.1 : Int) then kd else a.2.1 k).2 < 2147483648
    by_cases hk2 : k = (a.2.2.1 : Int)
    · rw [if_pos hk2] at hk3 ⊢
      exact hl hk3
    · rw [if_neg hk2] at hk3 ⊢
      exact h3 k hk3
theorem qa_okl_mono {n n' : Nat} {st : List qV} (h : qa_okl n st) (hn : n ≤ n') : qa_okl n' st := fun v hv => ⟨(h v hv).1, fun ht => by have := (h v hv).2 ht; omega⟩
theorem qa_bud {a : qA} {o : qO} (h1 : qa_le a o) (h2 : qa_good p l e R s m args below meth c Q D A0 Ai n0 nL c0 s0 r pcs o) : a.2.2.2.1 ≤ r.2.2.2.2.1 ∧ a.2.2.2.2 ≤ r.2.2.2.2.2 := by
  cases o with
  | inl q => exact ⟨Nat.le_trans h1.2.1 h2.1, Nat.le_trans h1.2.2 h2.2.1⟩
  | inr q =>
    have : q = r := h2
    rw [← this]
    exact ⟨h1.2.1, h1.2.2⟩
theorem qa_le_new {a : qA} {kd : Nat × Int} {z : Int → Int} {w : Nat} {o : qO} (h : qa_le (qa_new a kd z w) o) : qa_le a o := by
  cases o with
  | inl q => exact ⟨Nat.le_of_succ_le h.1, Nat.le_of_succ_le h.2.1, Nat.le_trans (Nat.le_add_right _ _) h.2.2⟩
  | inr q => exact ⟨Nat.le_of_succ_le h.1, Nat.le_of_succ_le h.2.1, Nat.le_trans (Nat.le_add_right _ _) h.2.2⟩
theorem qa_made {pc : Nat} {ls st : List qV} {a : qA} {A : Int → Nat} {H1 : Heap} {locs : List Loc} {kc ks : Nat} {LS : Array Slot} {kd : Nat × Int} {z : Int → Int} {w q : Nat} {cq : ClassId} {cA : Int → ClassId} {tys : List (ClassId × FieldType)} (hk : qa_At p l e R s m args below meth c Q D A0 Ai n0 nL c0 s0 pc ls ((1, (a.2.2.1 : Int)) :: st) (qa_new a kd z w)) (hwf : qa_wf a) (hls : qa_okl a.2.2.1 ls) (hst : qa_okl a.2.2.1 st) (hn : n0 ≤ a.2.2.1) (hA : ∀ v : Int, v < (n0 : Int) → A v = Ai v) (hL : lv_has LS nL (qa_lv A ls)) (hc : c0 + kc = a.2.2.2.1) (hs : s0 + ks = a.2.2.2.2)
    (hz : ∀ j, z j = 0 ∨ z j = -1) (h0 : kd.1 ≠ 0) (hl : 100 < kd.1 → 0 ≤ kd.2 ∧ kd.2 < 2147483648)
    (hP : va_P D vwCl (qa_ws A cA a ++ [(q, qa_cell (fun v => if v = (a.2.2.1 : Int) then q else A v) (fun v => if v = (a.2.2.1 : Int) then cq else cA v) (qa_new a kd z w) (a.2.2.1 : Int))]) H1) (hD : va_D A0 (qa_ws A cA a ++ [(q, qa_cell (fun v => if v = (a.2.2.1 : Int) then q else A v) (fun v => if v = (a.2.2.1 : Int) then cq else cA v) (qa_new a kd z w) (a.2.2.1 : Int))])) (hK : va_K D vwCl tys s) (hT : qa_T tys (fun v => if v = (a.2.2.1 : Int) then cq else cA v) (qa_new a kd z w)) (hS : va_S A0 s.heap H1 locs) :
    W p l e R s m args below meth c H1 locs (kc + 1) (ks + w) Q (F0 m pc LS (.ref q :: st.map (qa_val A))) := by
  have hAx : ∀ x : Int, x < (a.2.2.1 : Int) → (fun v => if v = (a.2.2.1 : Int) then q else A v) x = A x := fun x hx => if_neg (by omega)
  rw [← qa_ws_new hwf] at hP hD
  have h := hk (fun v => if v = (a.2.2.1 : Int) then q else A v) H1 locs (kc + 1) (ks + w) LS ⟨_, tys, hP, hD, hK, hT⟩ (qa_wf_new hwf hz h0 hl) (qa_okl_mono hls (Nat.le_succ _)) (qa_okl_cons ⟨fun h => by rcases h with h | h <;> exact absurd h (by show ¬ (1 : Nat) = _; decide), fun _ => by show (a.2.2.1 : Int) < ((a.2.2.1 + 1 : Nat) : Int); omega⟩ (qa_okl_mono hst (Nat.le_succ _))) (Nat.le_succ_of_le hn) (fun v hv => (hAx v (by omega)).trans (hA v hv)) hS (by rw [qa_lv_ext hAx hls]; exact hL) (by show c0 + (kc + 1) = a.2.2.2.1 + 1; omega) (by show s0 + (ks + w) = a.2.2.2.2 + w; omega)
  rw [List.map_cons, qa_map_ext hAx hst, qa_v1, qa_rfr (show (a.2.2.1 : Int) ≠ -1 by omega)] at h
  simp only [if_true] at h
  exact h
theorem qa_T_new {tys : List (ClassId × FieldType)} {cA : Int → ClassId} {a : qA} {kd : Nat × Int} {z : Int → Int} {w : Nat} {cq : ClassId} {tys' : List (ClassId × FieldType)} (hwf : qa_wf a) (h : qa_T tys cA a) (h2 : 100 < kd.1 → ∃ t0 : Nat, (tys ++ tys')[t0]? = some (cq, qa_aty kd.1)) : qa_T (tys ++ tys') (fun v => if v = (a.2.2.1 : Int) then cq else cA v) (qa_new a kd z w) := by
  intro k hk
  have hk3 : 100 < (if k = (a.2.2.1 : Int) then kd else a.2.1 k).1 := hk
  show ∃ t0 : Nat, (tys ++ tys')[t0]? = some (if k = (a.2.2.1 : Int) then cq else cA k, qa_aty (if k = (a.2.2.1 : Int) then kd else a.2.1 k).1)
  by_cases hk2 : k = (a.2.2.1 : Int)
  · rw [if_pos hk2] at hk3 ⊢
    rw [if_pos hk2]
    exact h2 hk3
  · rw [if_neg hk2] at hk3 ⊢
    rw [if_neg hk2]
    obtain ⟨t0, ht⟩ := h k hk3
    exact ⟨t0, by rw [List.getElem?_append_left (List.getElem?_eq_some_iff.mp ht).1]; exact ht⟩
theorem qa_dflt (A : Int → Nat) (ty : FieldType) : defaultValue ty = qa_val A (qa_tg ty, if qa_tg ty = 1 then -1 else 0) := by
  cases ty <;> rfl
theorem ok_new (C : qa_C xb Ai p s m args meth c cc nL own A0 R c0 s0 r) {pc index ci : Nat} {k : qI} {Cn : String} {T : u_T} {N : Nat} {ty0 : Nat → FieldType} {z : Int → Int} (hK0 : qa_K ci Cn T N ty0) (hw : ∀ w ∈ [Cond.classLink own index Cn, .instantiable Cn N, .initialized Cn], w ∈ qa_tb) (hz : ∀ j, z j = 0 ∨ z j = -1) (hz2 : ∀ j, j < N → z (j : Int) = if qa_tg (ty0 j) = 1 then -1 else 0) (d : decode cc pc = .ok (.new index, 3)) (K : qa_OK p l e R s m args below meth c Q D A0 Ai n0 nL c0 s0 r pcs (pc + 3) k) : qa_OK p l e R s m args below meth c Q D A0 Ai n0 nL c0 s0 r pcs pc (q_new ci N z k) := by
  intro ls st a o ho
  unfold q_new at ho
  obtain ⟨hle, hk⟩ := K _ _ _ _ ho
  refine ⟨qa_le_new hle, fun g => ?_⟩
  obtain ⟨b1, b2⟩ := qa_bud hle g
  intro A H locs kc ks LS hW hwf hls hst hn hA hS hL hc hs
  obtain ⟨cA, tys, hP, hD, hKK, hT⟩ := hW
  have r1 : c0 + R.cells = r.2.2.2.2.1 := C.2.2.2.2.2.2.2.1
  have r2 : s0 + R.slots = r.2.2.2.2.2 := C.2.2.2.2.2.2.2.2.1
  have b1' : a.2.2.2.1 + 1 ≤ r.2.2.2.2.1 := b1
  have b2' : a.2.2.2.2 + N ≤ r.2.2.2.2.2 := b2
  refine va_new (D := D) (ci := ci) (C := Cn) (T := T) (N := N) C.1 C.2.1 C.2.2.2.2.1 hK0.2.2.1 ty0 hK0.2.2.2.1 C.2.2.2.1 (C.2.2.2.2.1 _ (hw _ (by simp))) (C.2.2.2.2.1 _ (hw _ (by simp))) (C.2.2.2.2.1 _ (hw _ (by simp))) hKK hP hD hS C.2.2.2.2.2.2.1 hK0.1 (fs := (List.range N).map (fun j : Nat => qa_val A (qa_tg (ty0 j), z (j : Int)))) (fun j hj => ?_) (by omega) (by omega) d (fun q H1 hP1 hD1 hS1 => ?_)
  · show _ = (((List.range N).map (fun j : Nat => qa_val A (qa_tg (ty0 j), z (j : Int))))).getD j .null
    rw [List.getD_eq_getElem?_getD, List.getElem?_map, List.getElem?_range hj, Option.map_some, Option.getD_some, hz2 j hj]
    exact qa_dflt A (ty0 j)
  · have ecell : qa_cell (fun v => if v = (a.2.2.1 : Int) then q else A v) (fun v => if v = (a.2.2.1 : Int) then (0 : ClassId) else cA v) (qa_new a (ci + 1, 0) z N) (a.2.2.1 : Int) = .inr (ci, (List.range N).map (fun j : Nat => qa_val A (qa_tg (ty0 j), z (j : Int)))) := by
      rw [qa_cls (ci := ci) (by show (if (a.2.2.1 : Int) = (a.2.2.1 : Int) then ((ci + 1, 0) : Nat × Int) else _).1 = ci + 1; rw [if_pos rfl]) hK0.2.2.2.2.2, hK0.nf]
      congr 2
      apply List.map_congr_left
      intro j hj
      have hj' := List.mem_range.mp hj
      rw [qa_fld (by rw [hK0.nf]; exact hj') hK0.2.2.2.2.2, hK0.ft]
      show qa_val _ (qa_tg (ty0 j), if (a.2.2.1 : Int) = (a.2.2.1 : Int) then z (j : Int) else _) = _
      rw [if_pos rfl]
      apply qa_val_ext
      intro h1
      dsimp only at h1 ⊢
      have := hz2 j hj'
      rw [if_pos h1] at this
      rw [this, if_neg (by omega)]
    rw [← ecell] at hP1 hD1
    have hT' := qa_T_new (tys' := []) (kd := (ci + 1, 0)) (z := z) (w := N) (cq := (0 : ClassId)) hwf hT (fun h => absurd h (by have := hK0.2.2.2.2.2; show ¬ 100 < ci + 1; omega))
    rw [List.append_nil] at hT'
    exact qa_made (hk g) hwf hls hst hn hA hL hc hs hz (by show ci + 1 ≠ 0; omega) (fun h => absurd h (by have := hK0.2.2.2.2.2; show ¬ 100 < ci + 1; omega)) hP1 hD1 hKK hT' hS1
theorem qa_newag (C : qa_C xb Ai p s m args meth c cc nL own A0 R c0 s0 r) {pc pc' ty t : Nat} {z : Int} {k : qI} (hz : z = 0 ∨ z = -1) (hty : 100 < ty) (K : qa_OK p l e R s m args below meth c Q D A0 Ai n0 nL c0 s0 r pcs pc' k)
    (hw : ∀ (A : Int → Nat) (cA : Int → ClassId) (tys : List (ClassId × FieldType)) (a : qA) (n : Int) (H : Heap) (locs : List Loc) (kc ks : Nat) (LS : Array Slot) (rest : List Value), va_K D vwCl tys s → va_P D vwCl (qa_ws A cA a) H → va_D A0 (qa_ws A cA a) → va_S A0 s.heap H locs → ¬ Int32.ofInt n < 0 → (Int32.ofInt n).toNatClampNeg = n.toNat → n.toNat ≤ 60000000 → kc + 1 ≤ R.cells → ks + n.toNat ≤ R.slots →
      (∀ (q : Nat) (cq : ClassId) (H1 : Heap), va_K D vwCl (tys ++ [(cq, qa_aty ty)]) s → va_P D vwCl (qa_ws A cA a ++ [(q, .inl (cq, n.toNat, qa_arr (fun v => if v = (a.2.2.1 : Int) then q else A v) ty (fun _ => z)))]) H1 → va_D A0 (qa_ws A cA a ++ [(q, .inl (cq, n.toNat, qa_arr (fun v => if v = (a.2.2.1 : Int) then q else A v) ty (fun _ => z)))]) → va_S A0 s.heap H1 locs → W p l e R s m args below meth c H1 locs (kc + 1) (ks + n.toNat) Q (F0 m pc' LS (.ref q :: rest))) → W p l e R s m args below meth c H locs kc ks Q (F0 m pc LS (.int (Int32.ofInt n) :: rest))) : qa_OK p l e R s m args below meth c Q D A0 Ai n0 nL c0 s0 r pcs pc (q_newa ty z k) := by
  intro ls st a o ho
  unfold q_newa at ho
  split at ho
  · rename_i n rs
    split at ho
    · rename_i h
      obtain ⟨h1, h2, h3⟩ := h
      obtain ⟨hle, hk⟩ := K _ _ _ _ ho
      refine ⟨qa_le_new hle, fun g => ?_⟩
      obtain ⟨b1, b2⟩ := qa_bud hle g
      intro A H locs kc ks LS hW hwf hls hst hn hA hS hL hc hs
      obtain ⟨cA, tys, hP, hD, hKK, hT⟩ := hW
      have r1 : c0 + R.cells = r.2.2.2.2.1 := C.2.2.2.2.2.2.2.1
      have r2 : s0 + R.slots = r.2.2.2.2.2 := C.2.2.2.2.2.2.2.2.1
      have b1' : a.2.2.2.1 + 1 ≤ r.2.2.2.2.1 := b1
      have b2' : a.2.2.2.2 + n.2.toNat ≤ r.2.2.2.2.2 := b2
      have hr := qa_rgi (qa_okl_hd hst) h1
      rw [List.map_cons, qa_eta h1, qa_v0]
      refine hw A cA tys a n.2 H locs kc ks LS _ hKK hP hD hS (by rw [q_lt0 hr]; omega) (q_clamp hr) (by omega) (by omega) (by omega) (fun q cq H1 hK1 hP1 hD1 hS1 => ?_)
      have ecell : qa_cell (fun v => if v = (a.2.2.1 : Int) then q else A v) (fun v => if v = (a.2.2.1 : Int) then cq else cA v) (qa_new a (ty, n.2) (fun _ => z) n.2.toNat) (a.2.2.1 : Int) = .inl (cq, n.2.toNat, qa_arr (fun v => if v = (a.2.2.1 : Int) then q else A v) ty (fun _ => z)) := by
        have ek : (qa_new a (ty, n.2) (fun _ => z) n.2.toNat).2.1 (a.2.2.1 : Int) = (ty, n.2) := if_pos rfl
        have em : (qa_new a (ty, n.2) (fun _ => z) n.2.toNat).1 (a.2.2.1 : Int) = fun _ => z := by
          funext i
          exact if_pos rfl
        rw [qa_arc (ty := ty) (by rw [ek]) hty, ek, em]
        dsimp only
        rw [if_pos rfl]
      rw [← ecell] at hP1 hD1
      have hT' := qa_T_new (tys' := [(cq, qa_aty ty)]) (kd := (ty, n.2)) (z := fun _ => z) (w := n.2.toNat) (cq := cq) hwf hT (fun _ => ⟨tys.length, by rw [List.getElem?_append_right (Nat.le_refl _)]; simp⟩)
      exact qa_made (hk g) hwf hls (qa_okl_tl hst) hn hA hL hc hs (fun _ => hz) (by show ty ≠ 0; omega) (fun _ => ⟨h2, by show n.2 < 2147483648; omega⟩) hP1 hD1 hK1 hT' hS1
    · cases ho
  · cases ho
theorem ok_newint (C : qa_C xb Ai p s m args meth c cc nL own A0 R c0 s0 r) {pc : Nat} {k : qI} (hw : Cond.arrayClass .int ∈ qa_tb) (d : decode cc pc = .ok (.newarray .int, 2)) (K : qa_OK p l e R s m args below meth c Q D A0 Ai n0 nL c0 s0 r pcs (pc + 2) k) : qa_OK p l e R s m args below meth c Q D A0 Ai n0 nL c0 s0 r pcs pc (q_newa 101 0 k) :=
  qa_newag (t := 0) C (Or.inl rfl) (by decide) K (fun A cA tys a n H locs kc ks LS rest hK hP hD hS hn hcl h6 hcc hss kk => va_newa (atype := .int) C.1 C.2.1 (C.2.2.2.2.1 _ hw) (ty := .int) rfl hK hP hD hS C.2.2.2.2.2.2.1 (N' := n.toNat) (a0 := (n.toNat, .inl (fun _ => 0))) (fun _ => rfl) hn hcl (by show n.toNat * 4 ≤ _; omega) hcc hss d kk)
theorem ok_newbyte (C : qa_C xb Ai p s m args meth c cc nL own A0 R c0 s0 r) {pc : Nat} {k : qI} (hw : Cond.arrayClass .byte ∈ qa_tb) (d : decode cc pc = .ok (.newarray .byte, 2)) (K : qa_OK p l e R s m args below meth c Q D A0 Ai n0 nL c0 s0 r pcs (pc + 2) k) : qa_OK p l e R s m args below meth c Q D A0 Ai n0 nL c0 s0 r pcs pc (q_newa 102 0 k) :=
  qa_newag (t := 0) C (Or.inl rfl) (by decide) K (fun A cA tys a n H locs kc ks LS rest hK hP hD hS hn hcl h6 hcc hss kk => va_newa (atype := .byte) C.1 C.2.1 (C.2.2.2.2.1 _ hw) (ty := .byte) rfl hK hP hD hS C.2.2.2.2.2.2.1 (N' := n.toNat) (a0 := (n.toNat, .inl (fun _ => 0))) (fun _ => rfl) hn hcl (by show n.toNat * 1 ≤ _; omega) hcc hss d kk)
theorem ok_newbool (C : qa_C xb Ai p s m args meth c cc nL own A0 R c0 s0 r) {pc : Nat} {k : qI} (hw : Cond.arrayClass .boolean ∈ qa_tb) (d : decode cc pc = .ok (.newarray .boolean, 2)) (K : qa_OK p l e R s m args below meth c Q D A0 Ai n0 nL c0 s0 r pcs (pc + 2) k) : qa_OK p l e R s m args below meth c Q D A0 Ai n0 nL c0 s0 r pcs pc (q_newa 103 0 k) :=
  qa_newag (t := 0) C (Or.inl rfl) (by decide) K (fun A cA tys a n H locs kc ks LS rest hK hP hD hS hn hcl h6 hcc hss kk => va_newa (atype := .boolean) C.1 C.2.1 (C.2.2.2.2.1 _ hw) (ty := .boolean) rfl hK hP hD hS C.2.2.2.2.2.2.1 (N' := n.toNat) (a0 := (n.toNat, .inl (fun _ => 0))) (fun _ => rfl) hn hcl (by show n.toNat * 1 ≤ _; omega) hcc hss d kk)
theorem ok_newlong (C : qa_C xb Ai p s m args meth c cc nL own A0 R c0 s0 r) {pc : Nat} {k : qI} (hw : Cond.arrayClass .long ∈ qa_tb) (d : decode cc pc = .ok (.newarray .long, 2)) (K : qa_OK p l e R s m args below meth c Q D A0 Ai n0 nL c0 s0 r pcs (pc + 2) k) : qa_OK p l e R s m args below meth c Q D A0 Ai n0 nL c0 s0 r pcs pc (q_newa 105 0 k) :=
  qa_newag (t := 0) C (Or.inl rfl) (by decide) K (fun A cA tys a n H locs kc ks LS rest hK hP hD hS hn hcl h6 hcc hss kk => va_newa (atype := .long) C.1 C.2.1 (C.2.2.2.2.1 _ hw) (ty := .long) rfl hK hP hD hS C.2.2.2.2.2.2.1 (N' := n.toNat) (a0 := (n.toNat, .inr (.inl (fun _ => 0)))) (fun _ => rfl) hn hcl (by show n.toNat * 8 ≤ _; omega) hcc hss d kk)
theorem ok_newdouble (C : qa_C xb Ai p s m args meth c cc nL own A0 R c0 s0 r) {pc : Nat} {k : qI} (hw : Cond.arrayClass .double ∈ qa_tb) (d : decode cc pc = .ok (.newarray .double, 2)) (K : qa_OK p l e R s m args below meth c Q D A0 Ai n0 nL c0 s0 r pcs (pc + 2) k) : qa_OK p l e R s m args below meth c Q D A0 Ai n0 nL c0 s0 r pcs pc (q_newa 107 0 k) :=
  qa_newag (t := 0) C (Or.inl rfl) (by decide) K (fun A cA tys a n H locs kc ks LS rest hK hP hD hS hn hcl h6 hcc hss kk => va_newa (atype := .double) C.1 C.2.1 (C.2.2.2.2.1 _ hw) (ty := .double) rfl hK hP hD hS C.2.2.2.2.2.2.1 (N' := n.toNat) (a0 := (n.toNat, .inr (.inr (.inr (.inl (fun _ => 0)))))) (fun _ => rfl) hn hcl (by show n.toNat * 8 ≤ _; omega) hcc hss d kk)
theorem ok_newrefs (C : qa_C xb Ai p s m args meth c cc nL own A0 R c0 s0 r) {pc index ci : Nat} {k : qI} {rC : vw_C} (hci : vwCl[ci]? = some rC) (hw : Cond.classLink own index rC.1 ∈ qa_tb) (hov : rC.1 ∈ qa_over) (d : decode cc pc = .ok (.anewarray index, 3)) (K : qa_OK p l e R s m args below meth c Q D A0 Ai n0 nL c0 s0 r pcs (pc + 3) k) : qa_OK p l e R s m args below meth c Q D A0 Ai n0 nL c0 s0 r pcs pc (q_newa (111 + ci) (-1) k) :=
  qa_newag (t := 1) C (Or.inr rfl) (by omega) K (fun A cA tys a n H locs kc ks LS rest hK hP hD hS hn hcl h6 hcc hss kk => by
    have hcn : qa_cn ci = rC.1 := by unfold qa_cn; rw [hci]
    have hSS : qa_S Ai A0 s s.heap := C.2.2.2.2.2.2.2.2.2.2
    refine va_newq (C := rC.1) C.1 C.2.1 C.2.2.2.1 (C.2.2.2.2.1 _ hw) (hSS.2.1 _ hov) hK hP hD hS C.2.2.2.2.2.2.1 (N' := n.toNat) hn hcl (by omega) hcc hss d (fun q cq H1 hK1 hP1 hD1 hS1 => ?_)
    refine kk q cq H1 (by rw [qa_atyr, hcn]; exact hK1) ?_ ?_ hS1
    · rw [qa_arrr (by omega)]
      exact hP1
    · rw [qa_arrr (by omega)]
      exact hD1)
end QS
