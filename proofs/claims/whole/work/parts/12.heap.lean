section QS
variable {p : Program} {l : Launch} {e : Env} {R : Room} {s : State} {m : MethodId} {args : Array Value} {below : List Frame} {meth : Method} {c : Code} {Q : State → Prop} {cc : ByteArray} {nL : Nat} {own : String} {D : va_G} {A0 : Nat → Prop} {Ai : Int → Nat} {xb : Bool} {n0 c0 s0 : Nat} {r : qR} {pcs : Nat → Nat}
theorem qa_brR {pc T : Nat} {k : qI} (K : qa_OK p l e R s m args below meth c Q D A0 Ai n0 nL c0 s0 r pcs (pc + 3) k) (P : Int → Prop) {f : qI}
    (hf : ∀ ls st a o, f ls st a = some o → ∃ x rs, st = (1, x) :: rs ∧ ((P x ∧ o = .inl (T, ls, rs, a)) ∨ (¬ P x ∧ k ls rs a = some o)))
    (hw : ∀ x A H locs kc ks LS rest, (P x → W p l e R s m args below meth c H locs kc ks Q (F0 m (pcs T) LS rest)) → (¬ P x → W p l e R s m args below meth c H locs kc ks Q (F0 m (pc + 3) LS rest)) → W p l e R s m args below meth c H locs kc ks Q (F0 m pc LS (va_rf (qa_rf A x) :: rest))) : qa_OK p l e R s m args below meth c Q D A0 Ai n0 nL c0 s0 r pcs pc f := by
  refine qa_gen K (fun ls st a o ho => ?_)
  obtain ⟨x, rs, rfl, ⟨h1, h2⟩ | ⟨h1, h2⟩⟩ := hf ls st a o ho
  · exact ⟨ls, rs, pcs T, Or.inr ⟨T, h2, rfl⟩, fun N g1 g2 => ⟨g1, qa_okl_tl g2⟩, fun _ N g1 g2 A H locs kc ks LS hL kk => hw x A H locs kc ks LS _ (fun _ => kk LS hL) (fun z => absurd h1 z)⟩
  · exact ⟨ls, rs, pc + 3, Or.inl ⟨h2, rfl⟩, fun N g1 g2 => ⟨g1, qa_okl_tl g2⟩, fun _ N g1 g2 A H locs kc ks LS hL kk => hw x A H locs kc ks LS _ (fun z => absurd z h1) (fun _ => kk LS hL)⟩
theorem ok_ifnull (C : qa_C xb Ai p s m args meth c cc nL own A0 R c0 s0 r) {pc T : Nat} {off : Int} {k : qI} (d : decode cc pc = .ok (.ifnull off, 3)) (ht : (pc : Int) + off = (pcs T : Int)) (K : qa_OK p l e R s m args below meth c Q D A0 Ai n0 nL c0 s0 r pcs (pc + 3) k) : qa_OK p l e R s m args below meth c Q D A0 Ai n0 nL c0 s0 r pcs pc (q_null T k) := by
  refine qa_brR (T := T) K (fun x => x = -1) (fun ls st a o ho => ?_) (fun x A H locs kc ks LS rest k1 k2 => ?_)
  · unfold q_null at ho
    split at ho
    · rename_i x rs
      split at ho
      · rename_i h
        split at ho
        · rename_i h2
          exact ⟨x.2, rs, by rw [← qa_eta h], Or.inl ⟨h2, (Option.some.inj ho).symm⟩⟩
        · rename_i h2
          exact ⟨x.2, rs, by rw [← qa_eta h], Or.inr ⟨h2, ho⟩⟩
      · cases ho
    · cases ho
  · by_cases hx : x = -1
    · subst hx
      exact lv_ifnullN C.1 C.2.1 d ht (k1 rfl)
    · rw [qa_rfr hx]
      exact lv_ifnull C.1 C.2.1 d (k2 hx)
theorem ok_ifnonnull (C : qa_C xb Ai p s m args meth c cc nL own A0 R c0 s0 r) {pc T : Nat} {off : Int} {k : qI} (d : decode cc pc = .ok (.ifnonnull off, 3)) (ht : (pc : Int) + off = (pcs T : Int)) (K : qa_OK p l e R s m args below meth c Q D A0 Ai n0 nL c0 s0 r pcs (pc + 3) k) : qa_OK p l e R s m args below meth c Q D A0 Ai n0 nL c0 s0 r pcs pc (q_nonnull T k) := by
  refine qa_brR (T := T) K (fun x => ¬ x = -1) (fun ls st a o ho => ?_) (fun x A H locs kc ks LS rest k1 k2 => ?_)
  · unfold q_nonnull at ho
    split at ho
    · rename_i x rs
      split at ho
      · rename_i h
        split at ho
        · rename_i h2
          exact ⟨x.2, rs, by rw [← qa_eta h], Or.inr ⟨not_not_intro h2, ho⟩⟩
        · rename_i h2
          exact ⟨x.2, rs, by rw [← qa_eta h], Or.inl ⟨h2, (Option.some.inj ho).symm⟩⟩
      · cases ho
    · cases ho
  · by_cases hx : x = -1
    · subst hx
      exact lv_ifnonnullN C.1 C.2.1 d (k2 (not_not_intro rfl))
    · rw [qa_rfr hx]
      exact lv_ifnonnull C.1 C.2.1 d ht (k1 hx)
theorem qa_ws_get {A : Int → Nat} {cA : Int → ClassId} {a : qA} {k : Int} (h0 : 0 ≤ k) (h1 : k < (a.2.2.1 : Int)) : (qa_ws A cA a)[k.toNat]? = some (A k, qa_cell A cA a k) := by
  have e : ((k.toNat : Nat) : Int) = k := Int.toNat_of_nonneg h0
  unfold qa_ws
  rw [List.getElem?_map, List.getElem?_range (by omega), Option.map_some, e]
theorem qa_ws_set {A : Int → Nat} {cA : Int → ClassId} {a a' : qA} {k : Int} (h0 : 0 ≤ k) (h1 : k < (a.2.2.1 : Int)) (hn : a'.2.2.1 = a.2.2.1) (h : ∀ j : Int, j ≠ k → qa_cell A cA a' j = qa_cell A cA a j) :
    (qa_ws A cA a).set k.toNat (A k, qa_cell A cA a' k) = qa_ws A cA a' := by
  apply List.ext_getElem?
  intro i
  rw [List.getElem?_set]
  have hl : (qa_ws A cA a).length = a.2.2.1 := by unfold qa_ws; simp
  have e : ((k.toNat : Nat) : Int) = k := Int.toNat_of_nonneg h0
  by_cases hi : k.toNat = i
  · subst hi
    rw [if_pos rfl, if_pos (by rw [hl]; omega), qa_ws_get h0 (by rw [hn]; exact h1)]
  · rw [if_neg hi]
    unfold qa_ws
    rw [List.getElem?_map, List.getElem?_map, hn]
    by_cases hlt : i < a.2.2.1
    · rw [List.getElem?_range hlt, Option.map_some, Option.map_some, h i (by omega)]
    · rw [List.getElem?_eq_none (by simp; omega)]
      rfl
theorem qa_cls {a : qA} {ci : Nat} {o : Int} (hk : (a.2.1 o).1 = ci + 1) (hci : ci < 99) {A : Int → Nat} {cA : Int → ClassId} : qa_cell A cA a o = .inr (ci, (List.range (qa_nf ci)).map (fun j : Nat => qa_val A (qa_tag (ci + 1) (j : Int), a.1 o (j : Int)))) := by
  unfold qa_cell
  rw [if_pos (by omega), hk]
  rfl
theorem qa_arc {a : qA} {ty : Nat} {o : Int} (hk : (a.2.1 o).1 = ty) (hty : 100 < ty) {A : Int → Nat} {cA : Int → ClassId} : qa_cell A cA a o = .inl (cA o, (a.2.1 o).2.toNat, qa_arr A ty (a.1 o)) := by
  unfold qa_cell
  rw [if_neg (by omega), hk]
theorem qa_fld {ci j : Nat} (hj : j < qa_nf ci) (hci : ci < 99) : qa_tag (ci + 1) (j : Int) = qa_tg (qa_ft ci j) := by
  unfold qa_tag
  rw [if_neg (by omega), if_pos (by omega), if_pos ⟨by omega, by simpa using hj⟩]
  rfl
def qa_K (ci : Nat) (C : String) (T : u_T) (N : Nat) (ty0 : Nat → FieldType) : Prop := vwCl[ci]? = some (C, T, N) ∧ qa_tys[ci]? = some ty0 ∧ (∀ w ∈ u_ws C T N, w ∈ qa_tb) ∧ (∀ k, k < N → parseFieldDescriptor (T k).2.2.1 = some (ty0 k)) ∧ (∀ a, a < N → ∀ b, b < N → a ≠ b → (T a).2.1 ≠ (T b).2.1) ∧ ci < 99
theorem qa_K.nf {ci : Nat} {C : String} {T : u_T} {N : Nat} {ty0 : Nat → FieldType} (h : qa_K ci C T N ty0) : qa_nf ci = N := by
  unfold qa_nf
  rw [h.1]
theorem qa_K.ft {ci : Nat} {C : String} {T : u_T} {N : Nat} {ty0 : Nat → FieldType} (h : qa_K ci C T N ty0) (j : Nat) : qa_ft ci j = ty0 j := by
  unfold qa_ft
  rw [h.2.1]
theorem ok_get (C : qa_C xb Ai p s m args meth c cc nL own A0 R c0 s0 r) {pc index ci j t : Nat} {k : qI} {Cn : String} {T : u_T} {N : Nat} {ty0 : Nat → FieldType} (hK0 : qa_K ci Cn T N ty0) (hj : j < N) (ht : qa_tg (ty0 j) = t) {ref fn fd : String} (hfn : (T j).2.1 = fn) (hfd : (T j).2.2.1 = fd) (hlink : Cond.fieldLink own index ref fn fd ∈ qa_tb) (hsame : ∀ x, s.fieldFound? (T j).1 (T j).2.1 (T j).2.2.1 = some x → s.fieldFound? ref (T j).2.1 (T j).2.2.1 = some x) (d : decode cc pc = .ok (.getfield index, 3)) (K : qa_OK p l e R s m args below meth c Q D A0 Ai n0 nL c0 s0 r pcs (pc + 3) k) : qa_OK p l e R s m args below meth c Q D A0 Ai n0 nL c0 s0 r pcs pc (q_get ci j t k) := by
  intro ls st a o ho
  unfold q_get at ho
  split at ho
  · rename_i ob rs
    split at ho
    · rename_i h
      refine ⟨(K _ _ _ _ ho).1, fun g => ?_⟩
      intro A H locs kc ks LS hW hwf hls hst hn hA hS hL hc hs
      obtain ⟨cA, tys, hP, hD, hKK, hT⟩ := hW
      have hb := hwf.2.1 ob.2 (by rw [h.2]; omega)
      have he := qa_ws_get (A := A) (cA := cA) (a := a) hb.1 hb.2
      rw [qa_cls h.2 hK0.2.2.2.2.2] at he
      have htag : qa_tag (ci + 1) (j : Int) = t := by rw [qa_fld (by rw [hK0.nf]; exact hj) hK0.2.2.2.2.2, hK0.ft, ht]
      have hx := hwf.1 ob.2 (j : Int)
      rw [h.2, htag] at hx
      have kk := (K _ _ _ _ ho).2 g A H locs kc ks LS ⟨cA, tys, hP, hD, hKK, hT⟩ hwf hls (qa_okl_cons hx (qa_okl_tl hst)) hn hA hS hL hc hs
      rw [List.map_cons, qa_eta h.1, qa_v1]
      rw [List.map_cons] at kk
      have hne : ob.2 ≠ -1 := by omega
      rw [qa_rfr hne]
      refine va_get (D := D) (ci := ci) (v := qa_val A (t, a.1 ob.2 (j : Int))) (C := Cn) (T := T) (N := N) C.1 C.2.1 C.2.2.2.2.1 hK0.2.2.1 C.2.2.2.1 hKK hP _ he hK0.1 j hj (C.2.2.2.2.1 _ (by rw [hfn, hfd]; exact hlink)) hsame ?_ d kk
      rw [List.getElem?_map, List.getElem?_range (by rw [hK0.nf]; exact hj), Option.map_some, htag]
    · cases ho
  · cases ho
theorem qa_wf_put {a : qA} {o j x : Int} (h : qa_wf a) (hx : qa_okv a.2.2.1 (qa_tag (a.2.1 o).1 j, x)) : qa_wf (qa_up a.1 o j x, a.2) := by
  refine ⟨fun k i => ?_, h.2.1, h.2.2⟩
  show qa_okv a.2.2.1 (qa_tag (a.2.1 k).1 i, qa_up a.1 o j x k i)
  unfold qa_up
  split
  · rename_i hh
    rw [hh.1, hh.2]
    exact hx
  · exact h.1 k i
theorem qa_cell_ne {A : Int → Nat} {cA : Int → ClassId} {a : qA} {o j x k : Int} (h : k ≠ o) : qa_cell A cA (qa_up a.1 o j x, a.2) k = qa_cell A cA a k := by
  have e : qa_up a.1 o j x k = a.1 k := by
    funext i
    unfold qa_up
    rw [if_neg (fun z => h z.1)]
  unfold qa_cell
  dsimp only
  rw [e]
theorem qa_putg (C : qa_C xb Ai p s m args meth c cc nL own A0 R c0 s0 r) {pc index ci j t : Nat} {k : qI} {Cn : String} {T : u_T} {N : Nat} {ty0 : Nat → FieldType} (hK0 : qa_K ci Cn T N ty0) (hj : j < N) (ht : qa_tg (ty0 j) = t) {ref fn fd : String} (hfn : (T j).2.1 = fn) (hfd : (T j).2.2.1 = fd) (hlink : Cond.fieldLink own index ref fn fd ∈ qa_tb) (hsame : ∀ x, s.fieldFound? (T j).1 (T j).2.1 (T j).2.2.1 = some x → s.fieldFound? ref (T j).2.1 (T j).2.2.1 = some x) (hfin : (T j).2.2.2 = false ∨ ((T j).2.2.2 = true ∧ meth.name = "<init>" ∧ (T j).1 = own)) (P : Int → Prop) (hfit : ∀ A x, P x → narrow (ty0 j) (qa_val A (t, x)) = qa_val A (t, x) ∧ fits (ty0 j) (qa_val A (t, x)) = true) (d : decode cc pc = .ok (.putfield index, 3)) (K : qa_OK p l e R s m args below meth c Q D A0 Ai n0 nL c0 s0 r pcs (pc + 3) k) {f : qI}
    (hf : ∀ ls st a o, f ls st a = some o → ∃ x y rs, st = (t, x) :: (1, y) :: rs ∧ P x ∧ (a.2.1 y).1 = ci + 1 ∧ k ls rs (qa_up a.1 y j x, a.2) = some o) : qa_OK p l e R s m args below meth c Q D A0 Ai n0 nL c0 s0 r pcs pc f := by
  intro ls st a o ho
  obtain ⟨x, y, rs, rfl, hx, hy, hk⟩ := hf ls st a o ho
  refine ⟨(K _ _ _ _ hk).1, fun g => ?_⟩
  intro A H locs kc ks LS hW hwf hls hst hn hA hS hL hc hs
  obtain ⟨cA, tys, hP, hD, hKK, hT⟩ := hW
  have hb := hwf.2.1 y (by rw [hy]; omega)
  have he := qa_ws_get (A := A) (cA := cA) (a := a) hb.1 hb.2
  rw [qa_cls hy hK0.2.2.2.2.2] at he
  have htag : qa_tag (ci + 1) (j : Int) = t := by rw [qa_fld (by rw [hK0.nf]; exact hj) hK0.2.2.2.2.2, hK0.ft, ht]
  have hset := qa_ws_set (A := A) (cA := cA) (a := a) (a' := (qa_up a.1 y j x, a.2)) hb.1 hb.2 rfl (fun k hk => qa_cell_ne hk)
  rw [qa_cls (a := (qa_up a.1 y j x, a.2)) hy hK0.2.2.2.2.2] at hset
  have hfs : (List.range (qa_nf ci)).map (fun i : Nat => qa_val A (qa_tag (ci + 1) (i : Int), qa_up a.1 y j x y (i : Int))) = ((List.range (qa_nf ci)).map (fun i : Nat => qa_val A (qa_tag (ci + 1) (i : Int), a.1 y (i : Int)))).set j (qa_val A (t, x)) := by
    apply List.ext_getElem?
    intro i
    rw [List.getElem?_set, List.getElem?_map, List.getElem?_map, List.length_map, List.length_range, hK0.nf]
    by_cases hi : j = i
    · subst hi
      rw [if_pos rfl, if_pos hj, List.getElem?_range hj, Option.map_some, htag]
      unfold qa_up
      rw [if_pos ⟨rfl, rfl⟩]
    · rw [if_neg hi]
      by_cases hlt : i < N
      · rw [List.getElem?_range hlt, Option.map_some, Option.map_some]
        unfold qa_up
        rw [if_neg (fun z => hi (by have := z.2; omega))]
      · rw [List.getElem?_eq_none (by simp; omega)]
        rfl
  dsimp only at hset
  rw [hfs] at hset
  have hok := qa_okl_hd hst
  have hwf' : qa_wf (qa_up a.1 y j x, a.2) := qa_wf_put hwf (by rw [hy, htag]; exact hok)
  have hne : y ≠ -1 := by omega
  obtain ⟨e1, e2⟩ := hfit A x hx
  rw [List.map_cons, List.map_cons, qa_v1, qa_rfr hne]
  have kk : ∀ (H1 : Heap) (locs1 : List Loc), va_P D vwCl ((qa_ws A cA a).set y.toNat (A y, .inr (ci, ((List.range (qa_nf ci)).map (fun i : Nat => qa_val A (qa_tag (ci + 1) (i : Int), a.1 y (i : Int)))).set j (qa_val A (t, x))))) H1 → va_D A0 ((qa_ws A cA a).set y.toNat (A y, .inr (ci, ((List.range (qa_nf ci)).map (fun i : Nat => qa_val A (qa_tag (ci + 1) (i : Int), a.1 y (i : Int)))).set j (qa_val A (t, x))))) → va_S A0 s.heap H1 locs1 → W p l e R s m args below meth c H1 locs1 kc ks Q (F0 m (pc + 3) LS (rs.map (qa_val A))) := by
    intro H1 locs1 hP1 hD1 hS1
    rw [hset] at hP1 hD1
    exact (K _ _ _ _ hk).2 g A H1 locs1 kc ks LS ⟨cA, tys, hP1, hD1, hKK, hT⟩ hwf' hls (qa_okl_tl (qa_okl_tl hst)) hn hA hS1 hL hc hs
  have hl : j < ((List.range (qa_nf ci)).map (fun i : Nat => qa_val A (qa_tag (ci + 1) (i : Int), a.1 y (i : Int)))).length := by rw [List.length_map, List.length_range, hK0.nf]; exact hj
  rcases hfin with hfin | ⟨hf1, hf2, hf3⟩
  · exact va_put (D := D) (ci := ci) (C := Cn) (T := T) (N := N) C.1 C.2.1 C.2.2.2.2.1 hK0.2.2.1 ty0 hK0.2.2.2.1 hK0.2.2.2.2.1 C.2.2.2.1 hKK hP hD hS _ he hK0.1 j hj (C.2.2.2.2.1 _ (by rw [hfn, hfd]; exact hlink)) hsame hfin (hK0.2.2.2.1 j hj) e1 e2 hl d kk
  · exact va_putF (D := D) (ci := ci) (C := Cn) (T := T) (N := N) C.1 C.2.1 C.2.2.2.2.1 hK0.2.2.1 ty0 hK0.2.2.2.1 hK0.2.2.2.2.1 C.2.2.2.1 hKK hP hD hS _ he hK0.1 j hj (C.2.2.2.2.1 _ (by rw [hfn, hfd]; exact hlink)) hsame hf1 hf2 hf3 (hK0.2.2.2.1 j hj) e1 e2 hl d kk
theorem ok_put (C : qa_C xb Ai p s m args meth c cc nL own A0 R c0 s0 r) {pc index ci j t : Nat} {k : qI} {Cn : String} {T : u_T} {N : Nat} {ty0 : Nat → FieldType} (hK0 : qa_K ci Cn T N ty0) (hj : j < N) (ht : qa_tg (ty0 j) = t) {ref fn fd : String} (hfn : (T j).2.1 = fn) (hfd : (T j).2.2.1 = fd) (hlink : Cond.fieldLink own index ref fn fd ∈ qa_tb) (hsame : ∀ x, s.fieldFound? (T j).1 (T j).2.1 (T j).2.2.1 = some x → s.fieldFound? ref (T j).2.1 (T j).2.2.1 = some x) (hfin : (T j).2.2.2 = false ∨ ((T j).2.2.2 = true ∧ meth.name = "<init>" ∧ (T j).1 = own)) (hfit : ∀ A x, narrow (ty0 j) (qa_val A (t, x)) = qa_val A (t, x) ∧ fits (ty0 j) (qa_val A (t, x)) = true) (d : decode cc pc = .ok (.putfield index, 3)) (K : qa_OK p l e R s m args below meth c Q D A0 Ai n0 nL c0 s0 r pcs (pc + 3) k) : qa_OK p l e R s m args below meth c Q D A0 Ai n0 nL c0 s0 r pcs pc (q_put ci j t k) := by
  refine qa_putg C hK0 hj ht hfn hfd hlink hsame hfin (fun _ => True) (fun A x _ => hfit A x) d K (fun ls st a o ho => ?_)
  unfold q_put at ho
  split at ho
  · rename_i v y rs
    split at ho
    · rename_i h
      exact ⟨v.2, y.2, rs, by rw [← qa_eta h.1, ← qa_eta h.2.1], trivial, h.2.2, ho⟩
    · cases ho
  · cases ho
theorem ok_putz (C : qa_C xb Ai p s m args meth c cc nL own A0 R c0 s0 r) {pc index ci j : Nat} {k : qI} {Cn : String} {T : u_T} {N : Nat} {ty0 : Nat → FieldType} (hK0 : qa_K ci Cn T N ty0) (hj : j < N) (ht : ty0 j = .boolean) {ref fn fd : String} (hfn : (T j).2.1 = fn) (hfd : (T j).2.2.1 = fd) (hlink : Cond.fieldLink own index ref fn fd ∈ qa_tb) (hsame : ∀ x, s.fieldFound? (T j).1 (T j).2.1 (T j).2.2.1 = some x → s.fieldFound? ref (T j).2.1 (T j).2.2.1 = some x) (hfin : (T j).2.2.2 = false ∨ ((T j).2.2.2 = true ∧ meth.name = "<init>" ∧ (T j).1 = own)) (d : decode cc pc = .ok (.putfield index, 3)) (K : qa_OK p l e R s m args below meth c Q D A0 Ai n0 nL c0 s0 r pcs (pc + 3) k) : qa_OK p l e R s m args below meth c Q D A0 Ai n0 nL c0 s0 r pcs pc (q_putz ci j k) := by
  refine qa_putg (t := 0) C hK0 hj (by rw [ht]; rfl) hfn hfd hlink hsame hfin (fun x => x = 0 ∨ x = 1) (fun A x hx => ?_) d K (fun ls st a o ho => ?_)
  · rw [ht]
    rcases hx with rfl | rfl <;> exact ⟨rfl, rfl⟩
  · unfold q_putz at ho
    split at ho
    · rename_i v y rs
      split at ho
      · rename_i h
        exact ⟨v.2, y.2, rs, by rw [← qa_eta h.1, ← qa_eta h.2.2.1], h.2.1, h.2.2.2, ho⟩
      · cases ho
    · cases ho
end QS
