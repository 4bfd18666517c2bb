def qa_tys : List (Nat → FieldType) := [tyJ0, tyJ4, tyJx00060, tyJx7c733, tyX1, tyX2, tyX3, tyX4, tyX5, tyX6, tyX7, tyX8, tyX9, tyX11, tyX12]
def qa_tg (t : FieldType) : Nat := match t with
  | .long => 2
  | .float => 3
  | .double => 4
  | .object _ => 1
  | .array _ => 1
  | _ => 0
def qa_nf (ci : Nat) : Nat := match vwCl[ci]? with
  | some q => q.2.2
  | none => 0
def qa_ft (ci j : Nat) : FieldType := match qa_tys[ci]? with
  | some t => t j
  | none => .int
def qa_tag (kd : Nat) (j : Int) : Nat := if kd = 0 then 9 else if kd < 100 then (if 0 ≤ j ∧ j < (qa_nf (kd - 1) : Int) then qa_tg (qa_ft (kd - 1) j.toNat) else 9) else
  if kd = 105 then 2 else if kd = 106 then 3 else if kd = 107 then 4 else if kd < 105 then 0 else 1
def qa_okv (n : Nat) (v : qV) : Prop := (v.1 = 0 ∨ v.1 = 2 → qa_rg v.2) ∧ (v.1 = 1 → v.2 < (n : Int))
def qa_wf (a : qA) : Prop := (∀ k j : Int, qa_okv a.2.2.1 (qa_tag (a.2.1 k).1 j, a.1 k j)) ∧ (∀ k : Int, (a.2.1 k).1 ≠ 0 → 0 ≤ k ∧ k < (a.2.2.1 : Int)) ∧ ∀ k : Int, 100 < (a.2.1 k).1 → 0 ≤ (a.2.1 k).2 ∧ (a.2.1 k).2 < 2147483648
def qa_rf (A : Int → Nat) (v : Int) : Option Nat := if v = -1 then none else some (A v)
def qa_val (A : Int → Nat) (v : qV) : Value := if v.1 = 0 then .int (Int32.ofInt v.2) else if v.1 = 1 then va_rf (qa_rf A v.2) else if v.1 = 2 then .long (Int64.ofInt v.2) else if v.1 = 3 then .float (UInt32.ofNat v.2.toNat) else if v.1 = 4 then .double (UInt64.ofNat v.2.toNat) else .null
def qa_arr (A : Int → Nat) (ty : Nat) (f : Int → Int) : ((Nat → Int32) ⊕ (Nat → Int64) ⊕ (Nat → UInt32) ⊕ (Nat → UInt64) ⊕ (Nat → Option Nat)) :=
  if ty = 105 then .inr (.inl (fun i => Int64.ofInt (f i))) else if ty = 106 then .inr (.inr (.inl (fun i => UInt32.ofNat (f i).toNat))) else if ty = 107 then .inr (.inr (.inr (.inl (fun i => UInt64.ofNat (f i).toNat)))) else if ty < 105 then .inl (fun i => Int32.ofInt (f i)) else .inr (.inr (.inr (.inr (fun i => qa_rf A (f i)))))
def qa_cell (A : Int → Nat) (cA : Int → ClassId) (a : qA) (k : Int) : va_E :=
  if (a.2.1 k).1 < 100 then .inr ((a.2.1 k).1 - 1, (List.range (qa_nf ((a.2.1 k).1 - 1))).map (fun j : Nat => qa_val A (qa_tag (a.2.1 k).1 (j : Int), a.1 k (j : Int))))
  else .inl (cA k, (a.2.1 k).2.toNat, qa_arr A (a.2.1 k).1 (a.1 k))
def qa_ws (A : Int → Nat) (cA : Int → ClassId) (a : qA) : va_W := (List.range a.2.2.1).map (fun k : Nat => (A (k : Int), qa_cell A cA a (k : Int)))
def qa_cn (ci : Nat) : String := match vwCl[ci]? with
  | some q => q.1
  | none => ""
def qa_aty (ty : Nat) : FieldType := if ty = 101 then .int else if ty = 102 then .byte else if ty = 103 then .boolean else if ty = 104 then .char else if ty = 105 then .long else if ty = 106 then .float else if ty = 107 then .double else if ty = 110 then .object "PromiseLog$Verb" else .object (qa_cn (ty - 111))
def qa_T (tys : List (ClassId × FieldType)) (cA : Int → ClassId) (a : qA) : Prop := ∀ k : Int, 100 < (a.2.1 k).1 → ∃ t0 : Nat, tys[t0]? = some (cA k, qa_aty (a.2.1 k).1)
def qa_W (D : va_G) (s : State) (A0 : Nat → Prop) (A : Int → Nat) (a : qA) (H : Heap) : Prop :=
  ∃ (cA : Int → ClassId) (tys : List (ClassId × FieldType)), va_P D vwCl (qa_ws A cA a) H ∧ va_D A0 (qa_ws A cA a) ∧ va_K D vwCl tys s ∧ qa_T tys cA a
def qa_lvf (A : Int → Nat) (ls : List qV) (i : Nat) : Option (Nat × Value) := match ls[i]? with
  | some v => if v.1 < 8 then some (i, qa_val A v) else none
  | none => none
def qa_lv (A : Int → Nat) (ls : List qV) : List (Nat × Value) := (List.range ls.length).filterMap (qa_lvf A ls)
def qa_okl (n : Nat) (ls : List qV) : Prop := ∀ v ∈ ls, qa_okv n v
def qa_tb : List Cond := lw_tbl.filter goodWord
def qa_At (p : Program) (l : Launch) (e : Env) (R : Room) (s : State) (m : MethodId) (args : Array Value) (below : List Frame) (meth : Method) (c : Code) (Q : State → Prop) (D : va_G) (A0 : Nat → Prop) (Ai : Int → Nat) (n0 nL c0 s0 : Nat) (pc : Nat) (ls st : List qV) (a : qA) : Prop :=
  ∀ (A : Int → Nat) (H : Heap) (locs : List Loc) (kc ks : Nat) (LS : Array Slot), qa_W D s A0 A a H → qa_wf a → qa_okl a.2.2.1 ls → qa_okl a.2.2.1 st → n0 ≤ a.2.2.1 → (∀ v : Int, v < (n0 : Int) → A v = Ai v) → va_S A0 s.heap H locs → lv_has LS nL (qa_lv A ls) → c0 + kc = a.2.2.2.1 → s0 + ks = a.2.2.2.2 →
    W p l e R s m args below meth c H locs kc ks Q (F0 m pc LS (st.map (qa_val A)))
def qa_le (a : qA) (o : qO) : Prop := match o with
  | .inl q => a.2.2.1 ≤ q.2.2.2.2.2.1 ∧ a.2.2.2.1 ≤ q.2.2.2.2.2.2.1 ∧ a.2.2.2.2 ≤ q.2.2.2.2.2.2.2
  | .inr q => a.2.2.1 ≤ q.2.2.2.1 ∧ a.2.2.2.1 ≤ q.2.2.2.2.1 ∧ a.2.2.2.2 ≤ q.2.2.2.2.2
def qa_good (p : Program) (l : Launch) (e : Env) (R : Room) (s : State) (m : MethodId) (args : Array Value) (below : List Frame) (meth : Method) (c : Code) (Q : State → Prop) (D : va_G) (A0 : Nat → Prop) (Ai : Int → Nat) (n0 nL c0 s0 : Nat) (r : qR) (pcs : Nat → Nat) (o : qO) : Prop := match o with
  | .inl (j, ls, st, a) => a.2.2.2.1 ≤ r.2.2.2.2.1 ∧ a.2.2.2.2 ≤ r.2.2.2.2.2 ∧ qa_At p l e R s m args below meth c Q D A0 Ai n0 nL c0 s0 (pcs j) ls st a
  | .inr r' => r' = r
def qa_OK (p : Program) (l : Launch) (e : Env) (R : Room) (s : State) (m : MethodId) (args : Array Value) (below : List Frame) (meth : Method) (c : Code) (Q : State → Prop) (D : va_G) (A0 : Nat → Prop) (Ai : Int → Nat) (n0 nL c0 s0 : Nat) (r : qR) (pcs : Nat → Nat) (pc : Nat) (f : qI) : Prop :=
  ∀ (ls st : List qV) (a : qA) (o : qO), f ls st a = some o → qa_le a o ∧ (qa_good p l e R s m args below meth c Q D A0 Ai n0 nL c0 s0 r pcs o → qa_At p l e R s m args below meth c Q D A0 Ai n0 nL c0 s0 pc ls st a)
theorem qa_val_ext {A A' : Int → Nat} {v : qV} (h : v.1 = 1 → A' v.2 = A v.2) : qa_val A' v = qa_val A v := by
  obtain ⟨t, x⟩ := v
  unfold qa_val
  dsimp only at h ⊢
  by_cases h1 : t = 1
  · have h2 := h h1
    subst h1
    unfold qa_rf
    rw [h2]
  · simp only [if_neg h1]
def qa_nest : List Cond := [.methodLinkNest "PromiseLog" 9 yX7_init "PromiseLog", .methodLinkNest "PromiseLog$State" 30 yX6_init "PromiseLog", .methodLinkNest "PromiseLog" 32 yX1_init "PromiseLog", .methodLinkNest "PromiseLog" 39 yX4_init "PromiseLog", .methodLinkNest "PromiseLog" 46 yX8_init "PromiseLog", .castable "java/lang/IndexOutOfBoundsException" "java/lang/IndexOutOfBoundsException", .castable "java/lang/IllegalArgumentException" "java/lang/IllegalArgumentException", .castable "java/lang/IllegalStateException" "java/lang/IllegalStateException", .declares ⟨"java/lang/RuntimeException", "<init>", "()V"⟩, .declares ⟨"java/lang/Exception", "<init>", "()V"⟩, .declares ⟨"java/lang/Throwable", "<init>", "()V"⟩, .fieldLinkNest "PromiseLog$Script" 111 "PromiseLog" "VERBS" "[LPromiseLog$Verb;" "PromiseLog", .privateMethod ⟨"java/lang/AbstractStringBuilder", "ensureCapacityInternal", "(I)V"⟩, .privateMethod ⟨"java/lang/AbstractStringBuilder", "newCapacity", "(I)I"⟩, .privateMethod ⟨"java/lang/AbstractStringBuilder", "inflate", "()V"⟩]
def qa_over : List String := ["PromiseLog$Branch", "PromiseLog$Reader", "PromiseLog$Entry", "PromiseLog$State", "PromiseLog$Verb"]
def qa_SZ : List (String × String × String × qV) := [("PromiseLog$Rules", "LEAST", "[I", (1, -10)), ("PromiseLog$Rules", "MOST", "[I", (1, -11)), ("PromiseLog$1", "$SwitchMap$PromiseLog$Verb", "[I", (1, -12)), ("PromiseLog", "VERBS", "[LPromiseLog$Verb;", (1, -13)), ("java/lang/String", "COMPACT_STRINGS", "Z", (0, 1)), ("java/lang/Integer", "DigitTens", "[B", (1, -14)), ("java/lang/Integer", "DigitOnes", "[B", (1, -15))]
def qa_SA : List (Int × Nat × List Int) := [(-10, 101, [1, 1, 0, 0, 1, 1, 0]), (-11, 101, [400, 900, 500, 99, 9, 60, 1]), (-12, 101, [1, 2, 3, 4, 5, 6, 7, 8, 9, 0]), (-13, 110, [-20, -21, -22, -23, -24, -25, -26, -27, -28, -29]), (-14, 102, [48, 48, 48, 48, 48, 48, 48, 48, 48, 48, 49, 49, 49, 49, 49, 49, 49, 49, 49, 49, 50, 50, 50, 50, 50, 50, 50, 50, 50, 50, 51, 51, 51, 51, 51, 51, 51, 51, 51, 51, 52, 52, 52, 52, 52, 52, 52, 52, 52, 52, 53, 53, 53, 53, 53, 53, 53, 53, 53, 53, 54, 54, 54, 54, 54, 54, 54, 54, 54, 54, 55, 55, 55, 55, 55, 55, 55, 55, 55, 55, 56, 56, 56, 56, 56, 56, 56, 56, 56, 56, 57, 57, 57, 57, 57, 57, 57, 57, 57, 57]), (-15, 102, [48, 49, 50, 51, 52, 53, 54, 55, 56, 57, 48, 49, 50, 51, 52, 53, 54, 55, 56, 57, 48, 49, 50, 51, 52, 53, 54, 55, 56, 57, 48, 49, 50, 51, 52, 53, 54, 55, 56, 57, 48, 49, 50, 51, 52, 53, 54, 55, 56, 57, 48, 49, 50, 51, 52, 53, 54, 55, 56, 57, 48, 49, 50, 51, 52, 53, 54, 55, 56, 57, 48, 49, 50, 51, 52, 53, 54, 55, 56, 57, 48, 49, 50, 51, 52, 53, 54, 55, 56, 57, 48, 49, 50, 51, 52, 53, 54, 55, 56, 57]), (-140, 102, [97, 112, 112, 101, 110, 100]), (-141, 102, [106, 111, 105, 110]), (-142, 102, [114, 101, 97, 100]), (-143, 102, [112, 114, 111, 109, 105, 115, 101]), (-144, 102, [109, 111, 118, 101]), (-145, 102, [108, 101, 97, 118, 101]), (-146, 102, [102, 111, 114, 107]), (-147, 102, [109, 101, 114, 103, 101]), (-148, 102, [100, 114, 111, 112]), (-149, 102, [116, 105, 99, 107, 115]), (-160, 102, [98, 107, 115, 118]), (-161, 102, [98, 101]), (-162, 102, [114, 105]), (-163, 102, [114, 116]), (-164, 102, [114, 98]), (-165, 102, [114]), (-166, 102, [98]), (-167, 102, [98]), (-168, 102, [98]), (-169, 102, [110]), (-180, 102, [101, 110, 100])]
def qa_SO : List (Int × String × String × String × qV) := [(-20, "java/lang/Enum", "ordinal", "I", (0, 0)), (-20, "PromiseLog$Verb", "word", "Ljava/lang/String;", (1, -40)), (-20, "PromiseLog$Verb", "operands", "Ljava/lang/String;", (1, -60)), (-21, "java/lang/Enum", "ordinal", "I", (0, 1)), (-21, "PromiseLog$Verb", "word", "Ljava/lang/String;", (1, -41)), (-21, "PromiseLog$Verb", "operands", "Ljava/lang/String;", (1, -61)), (-22, "java/lang/Enum", "ordinal", "I", (0, 2)), (-22, "PromiseLog$Verb", "word", "Ljava/lang/String;", (1, -42)), (-22, "PromiseLog$Verb", "operands", "Ljava/lang/String;", (1, -62)), (-23, "java/lang/Enum", "ordinal", "I", (0, 3)), (-23, "PromiseLog$Verb", "word", "Ljava/lang/String;", (1, -43)), (-23, "PromiseLog$Verb", "operands", "Ljava/lang/String;", (1, -63)), (-24, "java/lang/Enum", "ordinal", "I", (0, 4)), (-24, "PromiseLog$Verb", "word", "Ljava/lang/String;", (1, -44)), (-24, "PromiseLog$Verb", "operands", "Ljava/lang/String;", (1, -64)), (-25, "java/lang/Enum", "ordinal", "I", (0, 5)), (-25, "PromiseLog$Verb", "word", "Ljava/lang/String;", (1, -45)), (-25, "PromiseLog$Verb", "operands", "Ljava/lang/String;", (1, -65)), (-26, "java/lang/Enum", "ordinal", "I", (0, 6)), (-26, "PromiseLog$Verb", "word", "Ljava/lang/String;", (1, -46)), (-26, "PromiseLog$Verb", "operands", "Ljava/lang/String;", (1, -66)), (-27, "java/lang/Enum", "ordinal", "I", (0, 7)), (-27, "PromiseLog$Verb", "word", "Ljava/lang/String;", (1, -47)), (-27, "PromiseLog$Verb", "operands", "Ljava/lang/String;", (1, -67)), (-28, "java/lang/Enum", "ordinal", "I", (0, 8)), (-28, "PromiseLog$Verb", "word", "Ljava/lang/String;", (1, -48)), (-28, "PromiseLog$Verb", "operands", "Ljava/lang/String;", (1, -68)), (-29, "java/lang/Enum", "ordinal", "I", (0, 9)), (-29, "PromiseLog$Verb", "word", "Ljava/lang/String;", (1, -49)), (-29, "PromiseLog$Verb", "operands", "Ljava/lang/String;", (1, -69)), (-40, "java/lang/String", "value", "[B", (1, -140)), (-40, "java/lang/String", "coder", "B", (0, 0)), (-41, "java/lang/String", "value", "[B", (1, -141)), (-41, "java/lang/String", "coder", "B", (0, 0)), (-42, "java/lang/String", "value", "[B", (1, -142)), (-42, "java/lang/String", "coder", "B", (0, 0)), (-43, "java/lang/String", "value", "[B", (1, -143)), (-43, "java/lang/String", "coder", "B", (0, 0)), (-44, "java/lang/String", "value", "[B", (1, -144)), (-44, "java/lang/String", "coder", "B", (0, 0)), (-45, "java/lang/String", "value", "[B", (1, -145)), (-45, "java/lang/String", "coder", "B", (0, 0)), (-46, "java/lang/String", "value", "[B", (1, -146)), (-46, "java/lang/String", "coder", "B", (0, 0)), (-47, "java/lang/String", "value", "[B", (1, -147)), (-47, "java/lang/String", "coder", "B", (0, 0)), (-48, "java/lang/String", "value", "[B", (1, -148)), (-48, "java/lang/String", "coder", "B", (0, 0)), (-49, "java/lang/String", "value", "[B", (1, -149)), (-49, "java/lang/String", "coder", "B", (0, 0)), (-60, "java/lang/String", "value", "[B", (1, -160)), (-60, "java/lang/String", "coder", "B", (0, 0)), (-61, "java/lang/String", "value", "[B", (1, -161)), (-61, "java/lang/String", "coder", "B", (0, 0)), (-62, "java/lang/String", "value", "[B", (1, -162)), (-62, "java/lang/String", "coder", "B", (0, 0)), (-63, "java/lang/String", "value", "[B", (1, -163)), (-63, "java/lang/String", "coder", "B", (0, 0)), (-64, "java/lang/String", "value", "[B", (1, -164)), (-64, "java/lang/String", "coder", "B", (0, 0)), (-65, "java/lang/String", "value", "[B", (1, -165)), (-65, "java/lang/String", "coder", "B", (0, 0)), (-66, "java/lang/String", "value", "[B", (1, -166)), (-66, "java/lang/String", "coder", "B", (0, 0)), (-67, "java/lang/String", "value", "[B", (1, -167)), (-67, "java/lang/String", "coder", "B", (0, 0)), (-68, "java/lang/String", "value", "[B", (1, -168)), (-68, "java/lang/String", "coder", "B", (0, 0)), (-69, "java/lang/String", "value", "[B", (1, -169)), (-69, "java/lang/String", "coder", "B", (0, 0)), (-80, "java/lang/String", "value", "[B", (1, -180)), (-80, "java/lang/String", "coder", "B", (0, 0))]
def qa_SC : List (Int × String) := [(-20, "PromiseLog$Verb"), (-21, "PromiseLog$Verb"), (-22, "PromiseLog$Verb"), (-23, "PromiseLog$Verb"), (-24, "PromiseLog$Verb"), (-25, "PromiseLog$Verb"), (-26, "PromiseLog$Verb"), (-27, "PromiseLog$Verb"), (-28, "PromiseLog$Verb"), (-29, "PromiseLog$Verb"), (-40, "java/lang/String"), (-41, "java/lang/String"), (-42, "java/lang/String"), (-43, "java/lang/String"), (-44, "java/lang/String"), (-45, "java/lang/String"), (-46, "java/lang/String"), (-47, "java/lang/String"), (-48, "java/lang/String"), (-49, "java/lang/String"), (-60, "java/lang/String"), (-61, "java/lang/String"), (-62, "java/lang/String"), (-63, "java/lang/String"), (-64, "java/lang/String"), (-65, "java/lang/String"), (-66, "java/lang/String"), (-67, "java/lang/String"), (-68, "java/lang/String"), (-69, "java/lang/String"), (-80, "java/lang/String")]
def qa_S3 (A : Int → Nat) (F : Nat → Prop) (U : State) (H : Heap) : Prop := (∀ q ∈ qa_SZ, va_Z q.1 q.2.1 q.2.2.1 (qa_val A q.2.2.2) F U H) ∧ (∀ q ∈ qa_SA, va_T (qa_aty q.2.1) (A q.1) q.2.2.length (fun j => qa_val A (if q.2.1 = 110 then 1 else 0, q.2.2.getD j 0)) F U H) ∧ (∀ q ∈ qa_SO, va_OF q.2.1 q.2.2.1 q.2.2.2.1 (qa_val A q.2.2.2.2) (A q.1) F U H) ∧ ∀ q ∈ qa_SC, va_O q.2 (A q.1) F U H
def qa_nc : List (String × String) := [("java/lang/IllegalArgumentException", "java/lang/IndexOutOfBoundsException"), ("java/lang/IllegalStateException", "java/lang/IllegalArgumentException")]
def qa_S4 (A : Int → Nat) (F : Nat → Prop) (U : State) (H : Heap) : Prop := va_Z "jdk/internal/util/Preconditions" "SIOOBE_FORMATTER" "Ljava/util/function/BiFunction;" .null F U H ∨ va_Z "jdk/internal/util/Preconditions" "SIOOBE_FORMATTER" "Ljava/util/function/BiFunction;" (.ref (A (-16))) F U H
def qa_S (A : Int → Nat) (F : Nat → Prop) (U : State) (H : Heap) : Prop := (∀ w ∈ qa_nest, va_Nw w U) ∧ (∀ C ∈ qa_over, va_AO C U) ∧ vx_Zq Bundle.tN "UNASSIGNED_STACK" Bundle.steD F U H ∧ vx_Zq Bundle.tN "SUPPRESSED_SENTINEL" Bundle.listD F U H ∧ qa_S3 A F U H ∧ vk_R "PromiseLog$Script" 92 "end" (A (-80)) U ∧ (∀ q ∈ qa_nc, va_Nc q.1 q.2 U) ∧ qa_S4 A F U H
theorem qa_S3.moved {A : Int → Nat} {F : Nat → Prop} {s U : State} {H : Heap} (hal : s.vm.Alike U.vm) (h : qa_S3 A F s H) : qa_S3 A F U H := ⟨fun q hq => (h.1 q hq).moved hal, fun q hq => (h.2.1 q hq).moved hal, fun q hq => (h.2.2.1 q hq).moved hal, fun q hq => (h.2.2.2 q hq).moved hal⟩
theorem qa_S3.call {A A' : Int → Nat} {F F' : Nat → Prop} {U : State} {H H1 : Heap} (h : qa_S3 A F U H) (hq : ∀ a : Nat, a < H.size → ¬ F a → H1[a]? = H[a]?) (hF : ∀ q, F' q → F q) (hA : ∀ v : Int, v < 0 → A' v = A v) : qa_S3 A' F' U H1 := by
  have k1 : ∀ q ∈ qa_SZ, q.2.2.2.1 = 1 → q.2.2.2.2 < 0 := by decide +kernel
  have k2 : ∀ q ∈ qa_SA, q.1 < 0 ∧ (q.2.1 = 110 → q.2.2.length = 10 ∧ ∀ x ∈ q.2.2, x < 0) := by decide +kernel
  have k3 : ∀ q ∈ qa_SO, q.1 < 0 ∧ (q.2.2.2.2.1 = 1 → q.2.2.2.2.2 < 0) := by decide +kernel
  have k4 : ∀ q ∈ qa_SC, q.1 < 0 := by decide +kernel
  refine ⟨fun q hq' => ?_, fun q hq' => ?_, fun q hq' => ?_, fun q hq' => ?_⟩
  · rw [qa_val_ext (A := A) (fun z => hA _ (k1 q hq' z))]
    exact ((h.1 q hq').kept hq).narrow hF
  · rw [hA _ (k2 q hq').1]
    obtain ⟨cell, h1, h2, h3, h4, h5, h6, h7⟩ := ((h.2.1 q hq').kept hq).narrow hF
    refine ⟨cell, h1, h2, h3, h4, h5, fun j hj => ?_, h7⟩
    rw [h6 j hj]
    congr 1
    refine (qa_val_ext (fun z => hA _ ?_)).symm
    dsimp only at z ⊢
    split at z
    · rename_i hc
      rw [List.getD_eq_getElem?_getD, List.getElem?_eq_getElem hj]
      exact ((k2 q hq').2 hc).2 _ (List.getElem_mem hj)
    · cases z
  · rw [qa_val_ext (A := A) (fun z => hA _ ((k3 q hq').2 z)), hA _ (k3 q hq').1]
    exact ((h.2.2.1 q hq').kept hq).narrow hF
  · rw [hA _ (k4 q hq')]
    exact ((h.2.2.2 q hq').kept hq).narrow hF
theorem qa_nwp {x : MethodName} {s U : State} (hW : s.WarmedH U.vm) (hZ : va_Nw (.privateMethod x) s) : va_Nw (.privateMethod x) U := va_tabs rfl (rfl : (s.setVm U.vm).vm = U.vm) (by rw [Cond.privateMethod_setVm hW.alike]; exact hZ)
theorem qa_nest_warm {s U : State} (hW : s.WarmedH U.vm) (h : ∀ w ∈ qa_nest, va_Nw w s) : ∀ w ∈ qa_nest, va_Nw w U := by
  intro w hw
  have h1 := h w hw
  simp only [qa_nest, List.mem_cons, List.not_mem_nil, or_false] at hw
  rcases hw with rfl | rfl | rfl | rfl | rfl | rfl | rfl | rfl | rfl | rfl | rfl | rfl | rfl | rfl | rfl <;> first | exact qa_nwp hW h1 | exact va_Nw.warmM hW h1 | exact va_Nw.warmC hW h1 | exact va_Nw.warmD hW h1 | exact va_Nw.warmF hW h1
theorem qa_nest_tab : ∀ w ∈ qa_nest, w.onTables = true := by decide +kernel
theorem qa_S.call {A A' : Int → Nat} {F F' : Nat → Prop} {s U : State} {H : Heap} {locs : List Loc} (h : qa_S A F s s.heap) (hS : va_S F s.heap H locs) (hW : s.WarmedH U.vm) (hH : U.heap = H) (hF : ∀ q, F' q → F q) (hA : ∀ v : Int, v < 0 → A' v = A v) : qa_S A' F' U U.heap := by
  obtain ⟨h1, h2, h3, h4, h5, h6, h7, h8⟩ := h
  refine ⟨qa_nest_warm hW h1, fun C hC => (h2 C hC).moved hW.alike, ?_, ?_, ?_, ?_, fun q hq => (h7 q hq).moved hW.alike, ?_⟩
  · rw [hH]
    exact ((h3.moved hW.alike).kept hS.2.1).narrow hF
  · rw [hH]
    exact ((h4.moved hW.alike).kept hS.2.1).narrow hF
  · rw [hH]
    exact (h5.moved hW.alike).call hS.2.1 hF hA
  · rw [hA _ (by decide)]
    exact h6.warm hW
  · rw [hH]
    unfold qa_S4
    rw [hA _ (by decide)]
    exact h8.imp (fun z => ((z.moved hW.alike).kept hS.2.1).narrow hF) (fun z => ((z.moved hW.alike).kept hS.2.1).narrow hF)
theorem qa_S.same {A : Int → Nat} {F : Nat → Prop} {s U : State} {H : Heap} (hv : s.vm = U.vm) (h : qa_S A F s H) : qa_S A F U H := by
  obtain ⟨h1, h2, h3, h4, h5, h6, h7, h8⟩ := h
  have hal : s.vm.Alike U.vm := hv ▸ Vm.Alike.refl s.vm
  exact ⟨fun w hw => va_Nw.same (qa_nest_tab w hw) hv (h1 w hw), fun C hC => (h2 C hC).moved hal, h3.moved hal, h4.moved hal, h5.moved hal, h6.same hv.symm, fun q hq => (h7 q hq).moved hal, h8.imp (fun z => z.moved hal) (fun z => z.moved hal)⟩
theorem qa_S.word {A : Int → Nat} {F : Nat → Prop} {s : State} {H : Heap} {args : Array Value} (h : qa_S A F s H) {w : Cond} (hw : w ∈ qa_nest) : w.before args s = true := va_Nw.use (qa_nest_tab w hw) (h.1 w hw)
def qa_C (xb : Bool) (Ai : Int → Nat) (p : Program) (s : State) (m : MethodId) (args : Array Value) (meth : Method) (c : Code) (cc : ByteArray) (nL : Nat) (own : String) (A0 : Nat → Prop) (R : Room) (c0 s0 : Nat) (r : qR) : Prop :=
  p.tables.exec = Jvm.exec ∧ c.code = cc ∧ c.maxLocals = nL ∧ s.vm.findClass own = some m.cls ∧ (∀ w ∈ qa_tb, w.before args s = true) ∧ meth.locks = false ∧ (∀ q, s.heap.size ≤ q → A0 q) ∧ c0 + R.cells = r.2.2.2.2.1 ∧ s0 + R.slots = r.2.2.2.2.2 ∧ (xb = true → ∀ x ∈ c.exceptionTable.toList, False) ∧ qa_S Ai A0 s s.heap
theorem q_i32 {v : Int} (h : qa_rg v) : (Int32.ofInt v).toInt = v := Int32.toInt_ofInt_of_le (by have := h.1; omega) (by have := h.2; omega)
theorem q_clamp {v : Int} (h : qa_rg v) : (Int32.ofInt v).toNatClampNeg = v.toNat := by
  show (Int32.ofInt v).toInt.toNat = v.toNat
  rw [q_i32 h]
theorem q_add {x y : Int} (hx : qa_rg x) (hy : qa_rg y) (h : qa_rg (x + y)) : Int32.ofInt x + Int32.ofInt y = Int32.ofInt (x + y) := by
  apply Int32.toInt_inj.mp
  rw [Jvm.Kit.i32_add (by rw [q_i32 hx, q_i32 hy]; exact h.1) (by rw [q_i32 hx, q_i32 hy]; exact h.2), q_i32 hx, q_i32 hy, q_i32 h]
theorem q_sub {x y : Int} (hx : qa_rg x) (hy : qa_rg y) (h : qa_rg (x - y)) : Int32.ofInt x - Int32.ofInt y = Int32.ofInt (x - y) := by
  apply Int32.toInt_inj.mp
  rw [Jvm.Kit.i32_sub (by rw [q_i32 hx, q_i32 hy]; exact h.1) (by rw [q_i32 hx, q_i32 hy]; exact h.2), q_i32 hx, q_i32 hy, q_i32 h]
theorem q_mul {x y : Int} (hx : qa_rg x) (hy : qa_rg y) (h : qa_rg (x * y)) : Int32.ofInt x * Int32.ofInt y = Int32.ofInt (x * y) := by
  apply Int32.toInt_inj.mp
  rw [Jvm.Kit.i32_mul (by rw [q_i32 hx, q_i32 hy]; exact h.1) (by rw [q_i32 hx, q_i32 hy]; exact h.2), q_i32 hx, q_i32 hy, q_i32 h]
theorem q_neg {x : Int} (hx : qa_rg x) (h : qa_rg (-x)) : -Int32.ofInt x = Int32.ofInt (-x) := by
  apply Int32.toInt_inj.mp
  rw [Jvm.Kit.i32_neg (by rw [q_i32 hx]; intro z; have := h.2; omega), q_i32 hx, q_i32 h]
theorem q_div {x y : Int} (hx : qa_rg x) (hy : qa_rg y) (h0 : 0 ≤ x) (h1 : 0 < y) : Int32.ofInt x / Int32.ofInt y = Int32.ofInt (x / y) ∧ qa_rg (x / y) := by
  have h2 : qa_rg (x / y) := by
    have a1 := Int.ediv_nonneg h0 (Int.le_of_lt h1)
    have a2 := Int.ediv_le_self y h0
    have := hx.2
    exact ⟨by omega, by omega⟩
  refine ⟨?_, h2⟩
  apply Int32.toInt_inj.mp
  rw [Jvm.Kit.i32_div (by rw [q_i32 hx, q_i32 hy]; omega), q_i32 hx, q_i32 hy, q_i32 h2, Int.tdiv_eq_ediv_of_nonneg h0]
theorem q_rem {x y : Int} (hx : qa_rg x) (hy : qa_rg y) (h0 : 0 ≤ x) (h1 : 0 < y) : Int32.ofInt x - Int32.ofInt x / Int32.ofInt y * Int32.ofInt y = Int32.ofInt (x % y) ∧ qa_rg (x % y) := by
  have a1 := Int.emod_nonneg x (show y ≠ 0 by omega)
  have a2 := Int.emod_lt_of_pos x h1
  have h2 : qa_rg (x % y) := by
    have := hy.2
    exact ⟨by omega, by omega⟩
  refine ⟨?_, h2⟩
  have e : x / y * y = x - x % y := by
    have := Int.emod_add_mul_ediv x y
    rw [Int.mul_comm] at this
    omega
  have b1 := Int.ediv_nonneg h0 (Int.le_of_lt h1)
  have b2 : 0 ≤ x / y * y := Int.mul_nonneg b1 (Int.le_of_lt h1)
  have b3 := hx.2
  obtain ⟨q1, q2⟩ := q_div hx hy h0 h1
  rw [q1, q_mul q2 hy ⟨by omega, by omega⟩, q_sub hx ⟨by omega, by omega⟩ ⟨by omega, by omega⟩, e]
  congr 1
  omega
theorem q_ne0 {y : Int} (hy : qa_rg y) (h1 : 0 < y) : ¬ Int32.ofInt y = 0 := by
  intro h
  have := congrArg Int32.toInt h
  rw [q_i32 hy, Int32.toInt_zero] at this
  omega
theorem q_eq {x y : Int} (hx : qa_rg x) (hy : qa_rg y) : Int32.ofInt x = Int32.ofInt y ↔ x = y := by
  constructor
  · intro h
    have := congrArg Int32.toInt h
    rwa [q_i32 hx, q_i32 hy] at this
  · intro h; rw [h]
theorem q_lt {x y : Int} (hx : qa_rg x) (hy : qa_rg y) : Int32.ofInt x < Int32.ofInt y ↔ x < y := by
  rw [Int32.lt_iff_toInt_lt, q_i32 hx, q_i32 hy]
theorem q_le {x y : Int} (hx : qa_rg x) (hy : qa_rg y) : Int32.ofInt x ≤ Int32.ofInt y ↔ x ≤ y := by
  rw [Int32.le_iff_toInt_le, q_i32 hx, q_i32 hy]
theorem q_rg0 : qa_rg 0 := ⟨by decide, by decide⟩
theorem q_of0 : Int32.ofInt 0 = 0 := rfl
theorem q_eq0 {x : Int} (hx : qa_rg x) : Int32.ofInt x = 0 ↔ x = 0 := by rw [← q_of0]; exact q_eq hx q_rg0
theorem q_lt0 {x : Int} (hx : qa_rg x) : Int32.ofInt x < 0 ↔ x < 0 := by rw [← q_of0]; exact q_lt hx q_rg0
theorem q_0lt {x : Int} (hx : qa_rg x) : 0 < Int32.ofInt x ↔ 0 < x := by rw [← q_of0]; exact q_lt q_rg0 hx
theorem q_0le {x : Int} (hx : qa_rg x) : 0 ≤ Int32.ofInt x ↔ 0 ≤ x := by rw [← q_of0]; exact q_le q_rg0 hx
theorem q_le0 {x : Int} (hx : qa_rg x) : Int32.ofInt x ≤ 0 ↔ x ≤ 0 := by rw [← q_of0]; exact q_le hx q_rg0
theorem qa_v0 (A : Int → Nat) (x : Int) : qa_val A (0, x) = .int (Int32.ofInt x) := rfl
theorem qa_v1 (A : Int → Nat) (x : Int) : qa_val A (1, x) = va_rf (qa_rf A x) := rfl
theorem qa_v2 (A : Int → Nat) (x : Int) : qa_val A (2, x) = .long (Int64.ofInt x) := rfl
theorem qa_v3 (A : Int → Nat) (x : Int) : qa_val A (3, x) = .float (UInt32.ofNat x.toNat) := rfl
theorem qa_v4 (A : Int → Nat) (x : Int) : qa_val A (4, x) = .double (UInt64.ofNat x.toNat) := rfl
theorem qa_rfr {A : Int → Nat} {x : Int} (h : x ≠ -1) : va_rf (qa_rf A x) = .ref (A x) := by
  unfold qa_rf
  rw [if_neg h]
  rfl
theorem qa_rfn {A : Int → Nat} : va_rf (qa_rf A (-1)) = .null := rfl
theorem qa_cat1 (A : Int → Nat) {v : qV} (h : v.1 < 2) : (qa_val A v).category = 1 := by
  obtain ⟨t, x⟩ := v
  rcases (show t = 0 ∨ t = 1 by have : t < 2 := h; omega) with rfl | rfl
  · rfl
  · rw [qa_v1]
    unfold qa_rf
    split <;> rfl
theorem qa_mem_lv {A : Int → Nat} {ls : List qV} {i : Nat} {v : qV} (h : ls[i]? = some v) (hv : v.1 < 8) : (i, qa_val A v) ∈ qa_lv A ls := by
  refine List.mem_filterMap.mpr ⟨i, List.mem_range.mpr (List.getElem?_eq_some_iff.mp h).1, ?_⟩
  unfold qa_lvf
  rw [h]
  exact if_pos hv
theorem qa_lv_mem {A : Int → Nat} {ls : List qV} {q : Nat × Value} (h : q ∈ qa_lv A ls) : ∃ v, ls[q.1]? = some v ∧ v.1 < 8 ∧ q.2 = qa_val A v := by
  obtain ⟨i, -, hi⟩ := List.mem_filterMap.mp h
  unfold qa_lvf at hi
  split at hi
  · rename_i v hv
    split at hi
    · cases hi; exact ⟨v, hv, by assumption, rfl⟩
    · cases hi
  · cases hi
theorem qa_lv_at {A : Int → Nat} {ls : List qV} {LS : Array Slot} {nL i : Nat} {v : qV} (hL : lv_has LS nL (qa_lv A ls)) (h : ls[i]? = some v) (hv : v.1 < 8) : LS[i]? = some (.val (qa_val A v)) := hL.2.2 _ (qa_mem_lv h hv)
