def e0_tm : List (Int × Term) := [(-10, .static "PromiseLog$Rules" "LEAST" "[I"), (-11, .static "PromiseLog$Rules" "MOST" "[I"), (-12, .static "PromiseLog$1" "$SwitchMap$PromiseLog$Verb" "[I"), (-13, .static "PromiseLog" "VERBS" "[LPromiseLog$Verb;"), (-14, .static "java/lang/Integer" "DigitTens" "[B"), (-15, .static "java/lang/Integer" "DigitOnes" "[B"), (-16, .static "jdk/internal/util/Preconditions" "SIOOBE_FORMATTER" "Ljava/util/function/BiFunction;"), (-17, .arg 0), (-20, .static "PromiseLog$Verb" "APPEND" "LPromiseLog$Verb;"), (-21, .static "PromiseLog$Verb" "JOIN" "LPromiseLog$Verb;"), (-22, .static "PromiseLog$Verb" "READ" "LPromiseLog$Verb;"), (-23, .static "PromiseLog$Verb" "PROMISE" "LPromiseLog$Verb;"), (-24, .static "PromiseLog$Verb" "MOVE" "LPromiseLog$Verb;"), (-25, .static "PromiseLog$Verb" "LEAVE" "LPromiseLog$Verb;"), (-26, .static "PromiseLog$Verb" "FORK" "LPromiseLog$Verb;"), (-27, .static "PromiseLog$Verb" "MERGE" "LPromiseLog$Verb;"), (-28, .static "PromiseLog$Verb" "DROP" "LPromiseLog$Verb;"), (-29, .static "PromiseLog$Verb" "TICKS" "LPromiseLog$Verb;"), (-40, .string "PromiseLog$Verb" 61), (-41, .string "PromiseLog$Verb" 69), (-42, .string "PromiseLog$Verb" 74), (-43, .string "PromiseLog$Verb" 79), (-44, .string "PromiseLog$Verb" 84), (-45, .string "PromiseLog$Verb" 89), (-46, .string "PromiseLog$Verb" 94), (-47, .string "PromiseLog$Verb" 99), (-48, .string "PromiseLog$Verb" 102), (-49, .string "PromiseLog$Verb" 105), (-60, .string "PromiseLog$Verb" 63), (-61, .string "PromiseLog$Verb" 71), (-62, .string "PromiseLog$Verb" 76), (-63, .string "PromiseLog$Verb" 81), (-64, .string "PromiseLog$Verb" 86), (-65, .string "PromiseLog$Verb" 91), (-66, .string "PromiseLog$Verb" 96), (-67, .string "PromiseLog$Verb" 96), (-68, .string "PromiseLog$Verb" 96), (-69, .string "PromiseLog$Verb" 107), (-80, .string "PromiseLog$Script" 92), (-140, .field (.string "PromiseLog$Verb" 61) "java/lang/String" "value" "[B"), (-141, .field (.string "PromiseLog$Verb" 69) "java/lang/String" "value" "[B"), (-142, .field (.string "PromiseLog$Verb" 74) "java/lang/String" "value" "[B"), (-143, .field (.string "PromiseLog$Verb" 79) "java/lang/String" "value" "[B"), (-144, .field (.string "PromiseLog$Verb" 84) "java/lang/String" "value" "[B"), (-145, .field (.string "PromiseLog$Verb" 89) "java/lang/String" "value" "[B"), (-146, .field (.string "PromiseLog$Verb" 94) "java/lang/String" "value" "[B"), (-147, .field (.string "PromiseLog$Verb" 99) "java/lang/String" "value" "[B"), (-148, .field (.string "PromiseLog$Verb" 102) "java/lang/String" "value" "[B"), (-149, .field (.string "PromiseLog$Verb" 105) "java/lang/String" "value" "[B"), (-160, .field (.string "PromiseLog$Verb" 63) "java/lang/String" "value" "[B"), (-161, .field (.string "PromiseLog$Verb" 71) "java/lang/String" "value" "[B"), (-162, .field (.string "PromiseLog$Verb" 76) "java/lang/String" "value" "[B"), (-163, .field (.string "PromiseLog$Verb" 81) "java/lang/String" "value" "[B"), (-164, .field (.string "PromiseLog$Verb" 86) "java/lang/String" "value" "[B"), (-165, .field (.string "PromiseLog$Verb" 91) "java/lang/String" "value" "[B"), (-166, .field (.string "PromiseLog$Verb" 96) "java/lang/String" "value" "[B"), (-167, .field (.string "PromiseLog$Verb" 96) "java/lang/String" "value" "[B"), (-168, .field (.string "PromiseLog$Verb" 96) "java/lang/String" "value" "[B"), (-169, .field (.string "PromiseLog$Verb" 107) "java/lang/String" "value" "[B"), (-180, .field (.string "PromiseLog$Script" 92) "java/lang/String" "value" "[B")]
def e0_t (v : Int) : Term := ((e0_tm.find? (fun q => q.1 == v)).map (fun q => q.2)).getD (.int 0)
def e0_A (args : Array Value) (s : State) (v : Int) : Nat := match (e0_t v).eval args s none [] s with
  | some (.ref a) => a
  | _ => 0
def e0_vt (v : qV) : Term := if v.1 = 1 then e0_t v.2 else .int (Int32.ofInt v.2)
abbrev e0_N : List Cond := flatC (Jvm.Cond.and given_1 narrow_1)
def e0_b : List (Int × Nat) := [(-10, 42), (-11, 52), (-12, 27), (-13, 10), (-14, 165), (-15, 62), (-140, 566), (-141, 584), (-142, 598), (-143, 612), (-144, 629), (-145, 643), (-146, 657), (-147, 670), (-148, 679), (-149, 687), (-160, 576), (-161, 592), (-162, 606), (-163, 623), (-164, 637), (-165, 652), (-166, 665), (-167, 665), (-168, 665), (-169, 696), (-180, 456)]
def e0_at (v : Int) : Nat := ((e0_b.find? (fun q => q.1 == v)).map (fun q => q.2)).getD 0
def e0_el (q : Int × Nat × List Int) (j : Nat) : Cond := .eq (.elem (e0_t q.1) (.int (Int32.ofNat j))) (e0_vt (if q.2.1 = 110 then 1 else 0, q.2.2.getD j 0))
theorem e0_m1 : ∀ q ∈ qa_SC, Cond.exactly (e0_t q.1) q.2 ∈ e0_N := by decide +kernel
theorem e0_m2 : ∀ q ∈ qa_SA, Cond.arrayOf (e0_t q.1) (qa_aty q.2.1) ∈ e0_N := by decide +kernel
theorem e0_m3 : ∀ q ∈ qa_SA, Cond.eq (.length (e0_t q.1)) (.int (Int32.ofNat q.2.2.length)) ∈ e0_N ∧ q.2.2.length < 2 ^ 31 := by decide +kernel
theorem e0_m4 : ∀ q ∈ qa_SA, (e0_N.drop (e0_at q.1)).take q.2.2.length = (List.range q.2.2.length).map (e0_el q) := by decide +kernel
theorem e0_m5 (q : Int × Nat × List Int) (hq : q ∈ qa_SA) (j : Nat) (hj : j < q.2.2.length) : e0_el q j ∈ e0_N := by
  have h : e0_el q j ∈ (e0_N.drop (e0_at q.1)).take q.2.2.length := by
    rw [e0_m4 q hq]
    exact List.mem_map.mpr ⟨j, List.mem_range.mpr hj, rfl⟩
  exact List.mem_of_mem_drop (List.mem_of_mem_take h)
theorem e0_m6 : ∀ q ∈ qa_SA, q.2.1 = 110 → ∀ j, j < q.2.2.length → q.2.2.getD j 0 ≠ -1 ∧ ∃ z ∈ qa_SC, z.1 = q.2.2.getD j 0 := by decide +kernel
theorem e0_m7 : ∀ q ∈ qa_SO, ∃ z ∈ qa_SC, z.1 = q.1 := by decide +kernel
def e0_ix : List Nat := [266, 267, 268, 270, 271, 272, 274, 275, 276, 278, 279, 280, 282, 283, 284, 286, 287, 288, 290, 291, 292, 294, 295, 296, 298, 299, 300, 302, 303, 304, 0, 563, 0, 581, 0, 595, 0, 609, 0, 626, 0, 640, 0, 654, 0, 667, 0, 676, 0, 684, 0, 573, 0, 589, 0, 603, 0, 620, 0, 634, 0, 649, 0, 662, 0, 662, 0, 662, 0, 693, 0, 453]
theorem e0_m8a : ∀ z ∈ qa_SO.zip e0_ix, e0_N[z.2]? = some (Cond.eq (.field (e0_t z.1.1) z.1.2.1 z.1.2.2.1 z.1.2.2.2.1) (e0_vt z.1.2.2.2.2)) ∨ e0_vt z.1.2.2.2.2 = .field (e0_t z.1.1) z.1.2.1 z.1.2.2.1 z.1.2.2.2.1 := by decide +kernel
theorem e0_m8b : (qa_SO.zip e0_ix).map (fun z => z.1) = qa_SO := by decide +kernel
theorem e0_m8c : ∀ q ∈ qa_SO, q.2.2.2.2.1 = 0 ∨ q.2.2.2.2.1 = 1 ∧ q.2.2.2.2.2 ≠ -1 ∧ ((∃ z ∈ qa_SC, z.1 = q.2.2.2.2.2) ∨ ∃ z ∈ qa_SA, z.1 = q.2.2.2.2.2) := by decide +kernel
theorem e0_m8 (q : Int × String × String × String × qV) (hq : q ∈ qa_SO) : Cond.eq (.field (e0_t q.1) q.2.1 q.2.2.1 q.2.2.2.1) (e0_vt q.2.2.2.2) ∈ e0_N ∨ e0_vt q.2.2.2.2 = .field (e0_t q.1) q.2.1 q.2.2.1 q.2.2.2.1 := by
  rw [← e0_m8b] at hq
  obtain ⟨z, hz, e⟩ := List.mem_map.mp hq
  have e : z.1 = q := e
  have h := e0_m8a z hz
  rw [e] at h
  exact h.imp (fun h => List.mem_of_getElem? h) id
theorem e0_t80 : e0_t (-80) = .string "PromiseLog$Script" 92 := by decide +kernel
theorem e0_t16 : e0_t (-16) = .static "jdk/internal/util/Preconditions" "SIOOBE_FORMATTER" "Ljava/util/function/BiFunction;" := by decide +kernel
theorem e0_t17 : e0_t (-17) = .arg 0 := by decide +kernel
theorem e0_b17 {b : Addr} {s : State} : e0_A #[Value.ref b] s (-17) = b := by
  unfold e0_A
  rw [e0_t17]
  rfl
theorem e0_m9 : ∀ q ∈ qa_SZ, Cond.laysStatic q.1 q.2.1 q.2.2.1 ∈ lw_tbl ∧ Cond.initialized q.1 ∈ lw_tbl := by decide +kernel
theorem e0_m10 : ∀ q ∈ qa_SZ, (q.2.2.2.1 = 0 ∨ q.2.2.2.1 = 1 ∧ q.2.2.2.2 ≠ -1 ∧ ((∃ z ∈ qa_SC, z.1 = q.2.2.2.2) ∨ ∃ z ∈ qa_SA, z.1 = q.2.2.2.2)) ∧ (Cond.eq (.static q.1 q.2.1 q.2.2.1) (e0_vt q.2.2.2) ∈ e0_N ∨ e0_vt q.2.2.2 = .static q.1 q.2.1 q.2.2.1) := by decide +kernel
theorem e0_m11 : ∀ w ∈ qa_nest, w ∈ lw_tbl := by decide +kernel
theorem e0_m12 : ∀ C ∈ qa_over, Cond.arrayOver (.object C) ∈ lw_tbl := by decide +kernel
theorem e0_m13 : ∀ q ∈ qa_nc, Cond.not (.castable q.1 q.2) ∈ e0_N := by decide +kernel
theorem e0_m14 : (Cond.laysStatic Bundle.tN "UNASSIGNED_STACK" Bundle.steD ∈ lw_tbl ∧ Cond.laysStatic Bundle.tN "SUPPRESSED_SENTINEL" Bundle.listD ∈ lw_tbl ∧ Cond.initialized Bundle.tN ∈ lw_tbl) ∧ Cond.isRef (.static Bundle.tN "UNASSIGNED_STACK" Bundle.steD) ∈ e0_N ∧ Cond.isRef (.static Bundle.tN "SUPPRESSED_SENTINEL" Bundle.listD) ∈ e0_N := by decide +kernel
theorem e0_m15 : (Cond.laysStatic "jdk/internal/util/Preconditions" "SIOOBE_FORMATTER" "Ljava/util/function/BiFunction;" ∈ lw_tbl ∧ Cond.initialized "jdk/internal/util/Preconditions" ∈ lw_tbl) ∧ Cond.isRef (.static "jdk/internal/util/Preconditions" "SIOOBE_FORMATTER" "Ljava/util/function/BiFunction;") ∈ e0_N := by decide +kernel
theorem e0_m16 : Cond.stringRef "PromiseLog$Script" 92 "end" ∈ lw_tbl := by decide +kernel
theorem e0_m17 : ∀ q ∈ vwCl, (∀ w ∈ u_ws q.1 q.2.1 q.2.2, w ∈ lw_tbl) ∧ Cond.instantiable q.1 q.2.2 ∈ lw_tbl := by decide +kernel
section E0
variable {args : Array Value} {s : State} {F : Nat → Prop}
theorem e0_R {v : Int} (h : ∃ a : Addr, (e0_t v).eval args s none [] s = some (.ref a)) : (e0_t v).eval args s none [] s = some (.ref (e0_A args s v)) := by
  obtain ⟨a, h⟩ := h
  have e : e0_A args s v = a := by
    unfold e0_A
    rw [h]
  rw [e]
  exact h
theorem e0_cls (hs : ∀ w ∈ e0_N, w.before args s = true) (q : Int × String) (hq : q ∈ qa_SC) : (e0_t q.1).eval args s none [] s = some (.ref (e0_A args s q.1)) := e0_R (by
  obtain ⟨a, c, cA, kA, q1, -⟩ := Cond.exactly_spec (args := args) (first := s) (o := none) (s := s) (idx := []) (t := e0_t q.1) (cls := q.2) (hs _ (e0_m1 q hq))
  exact ⟨a, q1⟩)
theorem e0_arr (hs : ∀ w ∈ e0_N, w.before args s = true) (q : Int × Nat × List Int) (hq : q ∈ qa_SA) : (e0_t q.1).eval args s none [] s = some (.ref (e0_A args s q.1)) := e0_R (by
  obtain ⟨t, cell, ht, -⟩ := Term.length_spec (va_eqt (hs _ (e0_m3 q hq).1))
  exact ⟨t, ht⟩)
theorem e0_value (hs : ∀ w ∈ e0_N, w.before args s = true) {v : qV} (h : v.1 = 0 ∨ v.1 = 1 ∧ v.2 ≠ -1 ∧ ((∃ z ∈ qa_SC, z.1 = v.2) ∨ ∃ z ∈ qa_SA, z.1 = v.2)) : (e0_vt v).eval args s none [] s = some (qa_val (e0_A args s) v) := by
  obtain ⟨t, x⟩ := v
  rcases h with h | ⟨h1, h2, h3⟩
  · have h : t = 0 := h
    subst h
    show (Term.int (Int32.ofInt x)).eval args s none [] s = some (.int (Int32.ofInt x))
    rfl
  · have h1 : t = 1 := h1
    subst h1
    have h2 : x ≠ -1 := h2
    show (e0_t x).eval args s none [] s = some (va_rf (qa_rf (e0_A args s) x))
    rw [qa_rfr h2]
    rcases h3 with ⟨z, hz, e⟩ | ⟨z, hz, e⟩
    · have e : z.1 = x := e
      rw [← e]
      exact e0_cls hs z hz
    · have e : z.1 = x := e
      rw [← e]
      exact e0_arr hs z hz
theorem e0_other (hs : ∀ w ∈ e0_N, w.before args s = true) {t : Term} {v : qV} (h : v.1 = 0 ∨ v.1 = 1 ∧ v.2 ≠ -1 ∧ ((∃ z ∈ qa_SC, z.1 = v.2) ∨ ∃ z ∈ qa_SA, z.1 = v.2)) (ht : Cond.eq t (e0_vt v) ∈ e0_N ∨ e0_vt v = t) : t.eval args s none [] s = some (qa_val (e0_A args s) v) := by
  have hv := e0_value hs h
  rcases ht with ht | ht
  · obtain ⟨y, h1, h2⟩ := Cond.eq_one (args := args) (first := s) (o := none) (s := s) (idx := []) (a := t) (b := e0_vt v) (hs _ ht)
    rw [h1, ← h2]
    exact hv
  · rw [← ht]
    exact hv
theorem e0_T (hs : ∀ w ∈ e0_N, w.before args s = true) (hA : ∀ a : Nat, a < s.heap.size → ¬ F a) (q : Int × Nat × List Int) (hq : q ∈ qa_SA) : va_T (qa_aty q.2.1) (e0_A args s q.1) q.2.2.length (fun j => qa_val (e0_A args s) (if q.2.1 = 110 then 1 else 0, q.2.2.getD j 0)) F s s.heap := by
  obtain ⟨t, ht, hT⟩ := va_Tof (args := args) (s := s) (tm := e0_t q.1) (ty := qa_aty q.2.1) (N := q.2.2.length) (f := fun j => qa_val (e0_A args s) (if q.2.1 = 110 then 1 else 0, q.2.2.getD j 0)) (A := F) (e0_m3 q hq).2 (hs _ (e0_m2 q hq)) (va_eqt (hs _ (e0_m3 q hq).1)) (fun j hj => e0_other hs (by
    by_cases h : q.2.1 = 110
    · rw [if_pos h]
      obtain ⟨h1, h2⟩ := e0_m6 q hq h j hj
      exact Or.inr ⟨rfl, h1, Or.inl h2⟩
    · rw [if_neg h]
      exact Or.inl rfl) (Or.inl (e0_m5 q hq j hj))) hA
  have e := e0_arr hs q hq
  rw [ht] at e
  have e2 : t = e0_A args s q.1 := by
    injection e with e
    injection e with e
  rw [← e2]
  exact hT
theorem e0_S3 (hs : ∀ w ∈ e0_N, w.before args s = true) (hts : ∀ w ∈ lw_tbl, w.before args s = true) (hA : ∀ a : Nat, a < s.heap.size → ¬ F a) : qa_S3 (e0_A args s) F s s.heap := by
  refine ⟨fun q hq => va_Zof (hts _ (e0_m9 q hq).1) (hts _ (e0_m9 q hq).2) (e0_other hs (e0_m10 q hq).1 (e0_m10 q hq).2) hA, fun q hq => e0_T hs hA q hq, fun q hq => ?_, fun q hq => va_Oof (hs _ (e0_m1 q hq)) (e0_cls hs q hq) hA⟩
  obtain ⟨z, hz, e⟩ := e0_m7 q hq
  have h := e0_cls hs z hz
  rw [e] at h
  exact vk_OFof h (e0_other hs (e0_m8c q hq) (e0_m8 q hq)) hA
theorem e0_S (hs : ∀ w ∈ e0_N, w.before args s = true) (hts : ∀ w ∈ lw_tbl, w.before args s = true) (hA : ∀ a : Nat, a < s.heap.size → ¬ F a) : qa_S (e0_A args s) F s s.heap := by
  have h80 : (Term.string "PromiseLog$Script" 92).eval args s none [] s = some (.ref (e0_A args s (-80))) := by
    rw [← e0_t80]
    exact e0_cls hs (-80, "java/lang/String") (by decide +kernel)
  refine ⟨fun w hw => va_Nw.of (qa_nest_tab w hw) (hts w (e0_m11 w hw)), fun C hC => va_AO.of (hts _ (e0_m12 C hC)), vx_Zqof (hts _ e0_m14.1.1) (hts _ e0_m14.1.2.2) (hs _ e0_m14.2.1) hA, vx_Zqof (hts _ e0_m14.1.2.1) (hts _ e0_m14.1.2.2) (hs _ e0_m14.2.2) hA, e0_S3 hs hts hA, vk_R.of (hts _ e0_m16) h80, fun q hq => va_Nc.of (hs _ (e0_m13 q hq)), ?_⟩
  have hk := e0_m15
  obtain ⟨v, hv, hr⟩ := Cond.isRef_spec (args := args) (first := s) (o := none) (s := s) (idx := []) (hs _ hk.2)
  unfold qa_S4
  cases v with
  | null => exact Or.inl (va_Zof (hts _ hk.1.1) (hts _ hk.1.2) hv hA)
  | ref t =>
    have e : e0_A args s (-16) = t := by
      unfold e0_A
      rw [e0_t16, hv]
    rw [e]
    exact Or.inr (va_Zof (hts _ hk.1.1) (hts _ hk.1.2) hv hA)
  | _ => exact absurd hr (by simp [Value.isRef])
theorem e0_K (hts : ∀ w ∈ lw_tbl, w.before args s = true) : ∃ D : va_G, va_K D vwCl [] s := by
  have h : ∀ k : Nat, ∃ z : ClassId × (Nat → Nat), ∀ q, vwCl[k]? = some q → u_Kn s q.1 q.2.1 q.2.2 z.1 z.2 := by
    intro k
    cases hk : vwCl[k]? with
    | none => exact ⟨(default, fun _ => 0), fun q h => by cases h⟩
    | some q =>
      have hm := List.mem_of_getElem? hk
      obtain ⟨cC, iS, hK⟩ := u_known (ws := lw_tbl) (args := args) (s := s) hts (e0_m17 q hm).1 (hts _ (e0_m17 q hm).2)
      exact ⟨(cC, iS), fun q' h => by cases h; exact hK⟩
  obtain ⟨f, hf⟩ := Classical.axiomOfChoice h
  exact ⟨(fun k => (f k).1, fun k => (f k).2), fun k q hq => hf k q hq, fun k q hq => by simp at hq⟩
end E0
