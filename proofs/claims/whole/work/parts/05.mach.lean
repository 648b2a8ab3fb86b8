/-! ===== abstract values, worlds and methods ===== -/
abbrev zV : Type := Int ⊕ (Int ⊕ Option Nat)
abbrev zi (x : Int) : zV := Sum.inl x
abbrev zl (x : Int) : zV := Sum.inr (Sum.inl x)
abbrev zr (x : Option Nat) : zV := Sum.inr (Sum.inr x)
def zc (ad : Nat → Nat) (v : zV) : Value := match v with
  | .inl x => .int (Int32.ofInt x)
  | .inr (.inl x) => .long (Int64.ofInt x)
  | .inr (.inr r) => va_rf (r.map ad)
def zin (x : Int) : Prop := -2147483648 ≤ x ∧ x ≤ 2147483647
def zinL (x : Int) : Prop := -9223372036854775808 ≤ x ∧ x ≤ 9223372036854775807
def zok (v : zV) : Prop := match v with
  | .inl x => zin x
  | .inr (.inl x) => zinL x
  | .inr (.inr _) => True
def zcat (v : zV) : Nat := match v with
  | .inl _ => 1
  | .inr (.inl _) => 2
  | .inr (.inr _) => 1
theorem zc_cat (ad : Nat → Nat) (v : zV) : (zc ad v).category = zcat v := by
  rcases v with x | x | r
  · rfl
  · rfl
  · cases r <;> rfl
/-- the heap: kinds (class 0-4, arrays: 5 int, 6 boolean, 7 Node, 8 Tree, 9 long; with the length), whole numbers, references -/
abbrev zH : Type := List (Nat × Nat) × ((Nat → Int → Int) × (Nat → Int → Option Nat))
def zNf (c : Nat) : Nat := match c with
  | 0 => 5
  | 1 => 15
  | 2 => 5
  | 3 => 4
  | _ => 15
def zRf (c k : Nat) : Bool := match c with
  | 0 => k == 0 || k == 2
  | 1 => k == 6 || k == 7 || k == 14
  | 2 => k == 0 || k == 1
  | 3 => k == 0 || k == 1 || k == 3
  | _ => !(k == 1 || k == 2 || k == 4 || k == 11 || k == 12)
def zfl (ad : Nat → Nat) (c : Nat) (I : Int → Int) (R : Int → Option Nat) : List Value :=
  (List.range (zNf c)).map fun k => if zRf c k = true then va_rf ((R (k : Nat)).map ad) else .int (Int32.ofInt (I (k : Nat)))
def zE (cy : Nat → ClassId) (ad : Nat → Nat) (kd : Nat × Nat) (I : Int → Int) (R : Int → Option Nat) : va_E :=
  if kd.1 = 5 then .inl (cy 5, kd.2, .inl fun j => Int32.ofInt (I (j : Nat)))
  else if kd.1 = 6 then .inl (cy 6, kd.2, .inl fun j => Int32.ofInt (I (j : Nat)))
  else if kd.1 = 7 then .inl (cy 7, kd.2, .inr (.inr (.inr (.inr fun j => (R (j : Nat)).map ad))))
  else if kd.1 = 8 then .inl (cy 8, kd.2, .inr (.inr (.inr (.inr fun j => (R (j : Nat)).map ad))))
  else if kd.1 = 9 then .inl (cy 9, kd.2, .inr (.inl fun j => Int64.ofInt (I (j : Nat))))
  else .inr (kd.1, zfl ad kd.1 I R)
def zws (cy : Nat → ClassId) (ad : Nat → Nat) (h : zH) : va_W := (List.range h.1.length).map fun i => (ad i, zE cy ad (h.1.getD i (0, 0)) (h.2.1 i) (h.2.2 i))
theorem zws_get {cy : Nat → ClassId} {ad : Nat → Nat} {h : zH} {i : Nat} {kd : Nat × Nat} (hk : h.1[i]? = some kd) : (zws cy ad h)[i]? = some (ad i, zE cy ad kd (h.2.1 i) (h.2.2 i)) := by
  obtain ⟨hl, he⟩ := List.getElem?_eq_some_iff.mp hk
  simp [zws, hl, he]
theorem zws_len {cy : Nat → ClassId} {ad : Nat → Nat} {h : zH} : (zws cy ad h).length = h.1.length := by simp [zws]
theorem zws_inv {cy : Nat → ClassId} {ad : Nat → Nat} {h : zH} {i : Nat} {q : Nat × va_E} (hk : (zws cy ad h)[i]? = some q) : i < h.1.length ∧ q = (ad i, zE cy ad (h.1.getD i (0, 0)) (h.2.1 i) (h.2.2 i)) := by
  simp only [zws, List.getElem?_map] at hk
  cases hr : (List.range h.1.length)[i]? with
  | none => rw [hr] at hk; simp at hk
  | some j =>
    rw [hr] at hk
    obtain ⟨hl, he⟩ := List.getElem?_eq_some_iff.mp hr
    simp at hl he hk
    subst he
    exact ⟨hl, hk.symm⟩
def zup {α : Type} (f : Nat → Int → α) (o : Nat) (k : Int) (v : α) : Nat → Int → α := fun o' k' => if o' = o ∧ k' = k then v else f o' k'
theorem zup_s {α : Type} (f : Nat → Int → α) (o : Nat) (k : Int) (v : α) : zup f o k v o k = v := by simp [zup]
theorem zup_o {α : Type} (f : Nat → Int → α) {o o' : Nat} (k k' : Int) (v : α) (h : o' ≠ o) : zup f o k v o' k' = f o' k' := by simp [zup, h]
theorem zup_k {α : Type} (f : Nat → Int → α) (o o' : Nat) {k k' : Int} (v : α) (h : k' ≠ k) : zup f o k v o' k' = f o' k' := by simp [zup, h]
theorem zws_set {cy : Nat → ClassId} {ad : Nat → Nat} {K : List (Nat × Nat)} {I I' : Nat → Int → Int} {R R' : Nat → Int → Option Nat} {o : Nat} {kd : Nat × Nat} (hk : K[o]? = some kd) (hI : ∀ i, i ≠ o → I' i = I i) (hR : ∀ i, i ≠ o → R' i = R i) :
    zws cy ad (K, I', R') = (zws cy ad (K, I, R)).set o (ad o, zE cy ad kd (I' o) (R' o)) := by
  obtain ⟨hl, he⟩ := List.getElem?_eq_some_iff.mp hk
  refine List.ext_getElem? fun i => ?_
  by_cases hi : i = o
  · subst hi
    rw [zws_get (h := (K, I', R')) hk, List.getElem?_set_self (by rw [zws_len]; exact hl)]
  · rw [List.getElem?_set_ne (fun h => hi h.symm)]
    by_cases h2 : i < K.length
    · rw [zws_get (h := (K, I', R')) (List.getElem?_eq_getElem h2), zws_get (h := (K, I, R)) (List.getElem?_eq_getElem h2)]
      simp only [hI i hi, hR i hi]
    · rw [List.getElem?_eq_none (by rw [zws_len]; exact Nat.le_of_not_lt h2), List.getElem?_eq_none (by rw [zws_len]; exact Nat.le_of_not_lt h2)]
/-- a method: name, code, its locals, what it returns, its handlers, its room -/
abbrev zM : Type := MethodName × ByteArray × Nat × Option FieldType × List (Nat × Nat × Nat × Nat) × Room
abbrev zname (y : zM) : MethodName := y.1
abbrev zcode (y : zM) : ByteArray := y.2.1
abbrev zmax (y : zM) : Nat := y.2.2.1
abbrev zret (y : zM) : Option FieldType := y.2.2.2.1
abbrev zhh (y : zM) : List (Nat × Nat × Nat × Nat) := y.2.2.2.2.1
abbrev zroom (y : zM) : Room := y.2.2.2.2.2
def zgw : List Cond := lw_tbl.filter goodWord
theorem zgw_in {w : Cond} (h : w ∈ lw_tbl) (g : goodWord w = true) : w ∈ zgw := List.mem_filter.mpr ⟨h, g⟩
def zword (y : zM) : Cond := match zhh y with
  | [] => .code (zname y) (zcode y) (zmax y) (zret y)
  | hh => .codeWith (zname y) (zcode y) (zmax y) (zret y) hh
def zwsM (y : zM) : List Cond := zword y :: zgw
def zTy (cy : Nat → ClassId) : List (ClassId × FieldType) := [(cy 5, .int), (cy 6, .boolean), (cy 7, .object "SlackRows$Node"), (cy 8, .object "SlackRows$Tree"), (cy 9, .long)]
abbrev zO : Type := (Option zV ⊕ Nat) × zH
def zEx (k : Nat) : String := match k with
  | 0 => "java/lang/IndexOutOfBoundsException"
  | 1 => "java/lang/IllegalArgumentException"
  | _ => "java/lang/IllegalStateException"
/-- the cells of a world, at a state and its heap -/
def zWh (D : va_G) (cy : Nat → ClassId) (ad : Nat → Nat) (A : Nat → Prop) (h : zH) (U : State) (H : Heap) : Prop :=
  va_P D vwCl (zws cy ad h) H ∧ va_D A (zws cy ad h) ∧ va_K D vwCl (zTy cy) U ∧ h.1.length ≤ 4096 ∧ ∀ o k, zin (h.2.1 o k)
def zNestM : List (String × Nat × MethodName × String) := [("SlackRows", 9, yX2_init, "SlackRows"), ("SlackRows$Tree", 30, yX3_init, "SlackRows"), ("SlackRows$CommandText", 58, yX6_isBetween, "SlackRows"), ("SlackRows$Tree", 113, yX6_isBetween, "SlackRows"), ("SlackRows$Tree", 266, yX6_mix, "SlackRows")]
def zMsg : List (Nat × String) := [(172, "there is no such node"), (181, "a number is out of range"), (206, "the tree does not allow this"), (190, "the node is no group"), (184, "a number is negative"), (192, "the node is no task"), (130, "the command text is full"), (147, "the undo stack is empty")]
def zDecl : List MethodName := [⟨"java/lang/Exception", "<init>", "()V"⟩, ⟨"java/lang/Exception", "<init>", "(Ljava/lang/String;)V"⟩, ⟨"java/lang/RuntimeException", "<init>", "()V"⟩, ⟨"java/lang/RuntimeException", "<init>", "(Ljava/lang/String;)V"⟩, ⟨"java/lang/Throwable", "<init>", "()V"⟩, ⟨"java/lang/Throwable", "<init>", "(Ljava/lang/String;)V"⟩]
def zCmd : List String := ["GROUP", "TASK", "LAST", "BORROW", "BACK", "MOVE", "DROP", "UNTIL"]
def zRef : List String := ["NOT", "NO_NODE", "OUT_OF_RANGE", "IMPOSSIBLE"]
def zNumC : List Int := [2, 3, 2, 2, 2, 3, 1, 1]
def zSw : List Int := [1, 2, 4, 5, 6, 3, 7, 0]
def zWlen : List Nat := [5, 4, 4, 6, 4, 4, 4, 5]
def zWbyt : List (List Int32) := [[103, 114, 111, 117, 112], [116, 97, 115, 107], [108, 97, 115, 116], [98, 111, 114, 114, 111, 119], [98, 97, 99, 107], [109, 111, 118, 101], [100, 114, 111, 112], [117, 110, 116, 105, 108]]
/-- what stands outside the worlds and is never written; objects by numbers from 4096 on -/
def zSt (ad : Nat → Nat) (J : Nat → Int → Int) (A : Nat → Prop) (U : State) (H : Heap) : Prop :=
  (∀ q ∈ zNestM, va_Nw (.methodLinkNest q.1 q.2.1 q.2.2.1 q.2.2.2) U) ∧
  va_Nw (.fieldLinkNest "SlackRows$CommandText" 65 "SlackRows" "COMMANDS" "[LSlackRows$Command;" "SlackRows") U ∧
  ((∀ k, k < 3 → va_Nw (.castable (zEx k) (zEx k)) U) ∧ ∀ x ∈ zDecl, va_Nw (.declares x) U) ∧
  (∀ j k, j < 3 → k < 3 → j ≠ k → va_Nc (zEx j) (zEx k) U) ∧
  (va_AO "SlackRows$Tree" U ∧ va_AO "SlackRows$Node" U) ∧
  va_En "SlackRows$Command" "LSlackRows$Command;" zCmd [("java/lang/Enum", "ordinal", "I", [0, 1, 2, 3, 4, 5, 6, 7]), ("SlackRows$Command", "numberCount", "I", [2, 3, 2, 2, 2, 3, 1, 1])] (fun i => ad (4096 + i)) A U H ∧
  va_En "SlackRows$Refusal" "LSlackRows$Refusal;" zRef [] (fun i => ad (4104 + i)) A U H ∧
  (va_Z "SlackRows" "COMMANDS" "[LSlackRows$Command;" (.ref (ad 4108)) A U H ∧ va_T (.object "SlackRows$Command") (ad 4108) 8 (fun j => .ref (ad (4096 + j))) A U H) ∧
  (va_Z "SlackRows$1" "$SwitchMap$SlackRows$Command" "[I" (.ref (ad 4109)) A U H ∧ va_T .int (ad 4109) 8 (fun j => .int (Int32.ofInt (zSw.getD j 0))) A U H) ∧
  va_Ef 8 "SlackRows$Command" "word" "Ljava/lang/String;" (fun i => .ref (ad (4110 + i))) (fun i => ad (4096 + i)) A U H ∧
  vk_S 8 zWlen zWbyt (fun i => ad (4110 + i)) (fun i => ad (4120 + i)) A U H ∧
  (va_Z "java/lang/String" "COMPACT_STRINGS" "Z" (.int 1) A U H ∧ (va_Z "jdk/internal/util/Preconditions" "SIOOBE_FORMATTER" "Ljava/util/function/BiFunction;" .null A U H ∨ va_Z "jdk/internal/util/Preconditions" "SIOOBE_FORMATTER" "Ljava/util/function/BiFunction;" (.ref (ad 4140)) A U H)) ∧
  (vx_Zq Bundle.tN "UNASSIGNED_STACK" Bundle.steD A U H ∧ vx_Zq Bundle.tN "SUPPRESSED_SENTINEL" Bundle.listD A U H) ∧
  (∀ q ∈ zMsg, ∃ a, vk_R "SlackRows" q.1 q.2 a U) ∧
  ((J 4131 0).toNat < 2147483648 ∧ va_T .int (ad 4130) (J 4131 0).toNat (fun j => .int (Int32.ofInt (J 4130 (j : Nat)))) A U H)
theorem zSt.to {ad ad' : Nat → Nat} {J : Nat → Int → Int} {A A' : Nat → Prop} {s U : State} {H : Heap} (h : zSt ad J A s s.heap) (had : ∀ i, 4096 ≤ i → ad' i = ad i) (hW : s.WarmedH U.vm) (hq : ∀ a : Nat, a < s.heap.size → ¬ A a → H[a]? = s.heap[a]?) (hA : ∀ q, A' q → A q) : zSt ad' J A' U H := by
  have hvm : s.vm.Alike U.vm := hW.alike
  obtain ⟨h1, h2, ⟨h3, h3'⟩, h4, ⟨h5, h5'⟩, h6, h7, ⟨h8, h8'⟩, ⟨h9, h9'⟩, h10, h11, ⟨h12, h12'⟩, ⟨h13, h13'⟩, h14, h15, h15'⟩ := h
  have e1 : (fun i => ad' (4096 + i)) = fun i => ad (4096 + i) := funext fun i => had _ (by omega)
  have e2 : (fun i => ad' (4104 + i)) = fun i => ad (4104 + i) := funext fun i => had _ (by omega)
  have e3 : (fun i => ad' (4110 + i)) = fun i => ad (4110 + i) := funext fun i => had _ (by omega)
  have e4 : (fun i => ad' (4120 + i)) = fun i => ad (4120 + i) := funext fun i => had _ (by omega)
  have e5 : (fun i => Value.ref (ad' (4110 + i))) = fun i => Value.ref (ad (4110 + i)) := funext fun i => by rw [had _ (by omega)]
  have e6 : (fun i => Value.ref (ad' (4096 + i))) = fun i => Value.ref (ad (4096 + i)) := funext fun i => by rw [had _ (by omega)]
  unfold zSt
  rw [e1, e2, e3, e4, e5, e6, had 4108 (by omega), had 4109 (by omega), had 4130 (by omega), had 4140 (by omega)]
  refine ⟨fun q hq1 => (h1 q hq1).warmM hW, h2.warmF hW, ⟨fun k hk => (h3 k hk).warmC hW, fun x hx => (h3' x hx).warmD hW⟩, fun j k hj hk hjk => (h4 j k hj hk hjk).moved hvm, ⟨h5.moved hvm, h5'.moved hvm⟩, ((h6.kept hq).narrow hA).moved hvm, ((h7.kept hq).narrow hA).moved hvm, ⟨((h8.kept hq).narrow hA).moved hvm, ((h8'.kept hq).narrow hA).moved hvm⟩, ⟨((h9.kept hq).narrow hA).moved hvm, ((h9'.kept hq).narrow hA).moved hvm⟩, ((h10.kept hq).narrow hA).moved hvm, ((h11.kept hq).narrow hA).moved hvm, ⟨((h12.kept hq).narrow hA).moved hvm, h12'.imp (fun g => ((g.kept hq).narrow hA).moved hvm) (fun g => ((g.kept hq).narrow hA).moved hvm)⟩, ⟨((h13.kept hq).narrow hA).moved hvm, ((h13'.kept hq).narrow hA).moved hvm⟩, fun q hq1 => ?_, h15, ((h15'.kept hq).narrow hA).moved hvm⟩
  obtain ⟨a, ha⟩ := h14 q hq1
  exact ⟨a, ha.warm hW⟩
/-! ===== a method's walk, in these words ===== -/
def zCx (l : Launch) (p : Program) (y : zM) (s : State) (m : MethodId) (args : Array Value) (meth : Method) (c : Code) (A : Nat → Prop) : Prop :=
  l.stackTraces = false ∧ p.tables.exec = Jvm.exec ∧ c.code = zcode y ∧ c.maxLocals = zmax y ∧ meth.sig.returnType = zret y ∧ s.vm.findClass (zname y).cls = some m.cls ∧ (∀ w ∈ zgw, w.before args s = true) ∧ meth.locks = false ∧ c.exceptionTable.toList = tableOf (zhh y) ∧ meth.name = (zname y).name ∧ ∀ q, s.heap.size ≤ q → A q
/-- references lead to what is there -/
def zvd (K : Nat) (v : zV) : Prop := match v with
  | .inl _ => True
  | .inr (.inl _) => True
  | .inr (.inr r) => ∀ x, r = some x → x < K ∨ 4096 ≤ x
def zgo (K : Nat) (v : zV) : Prop := zok v ∧ zvd K v
def zhvd (h : zH) : Prop := ∀ o k x, h.2.2 o k = some x → x < h.1.length ∨ 4096 ≤ x
def zWl (D : va_G) (cy : Nat → ClassId) (A : Nat → Prop) (ad0 : Nat → Nat) (k0 : Nat) (J : Nat → Int → Int) (ad : Nat → Nat) (h : zH) (s : State) (H : Heap) (locs : List Loc) : Prop :=
  zWh D cy ad A h s H ∧ va_S A s.heap H locs ∧ (∀ i, i < k0 ∨ 4096 ≤ i → ad i = ad0 i) ∧ k0 ≤ h.1.length ∧ (∀ i, 4096 ≤ i → h.2.1 i = J i) ∧ zhvd h
def zEnd (D : va_G) (cy : Nat → ClassId) (A : Nat → Prop) (ad0 : Nat → Nat) (k0 : Nat) (J : Nat → Int → Int) (h : zH) (ad' : Nat → Nat) (st t : State) : Prop :=
  (∀ i, i < k0 ∨ 4096 ≤ i → ad' i = ad0 i) ∧ zWh D cy ad' A h t t.heap ∧ k0 ≤ h.1.length ∧ (∀ i, 4096 ≤ i → h.2.1 i = J i) ∧ zhvd h ∧ va_F A st t
def zQc (D : va_G) (cy : Nat → ClassId) (A : Nat → Prop) (ad0 : Nat → Nat) (k0 : Nat) (J : Nat → Int → Int) (o : zO) : Array Value → State → Outcome → State → Prop := fun _ st oc t =>
  ∃ (v : Option zV) (ad' : Nat → Nat), o.1 = .inl v ∧ oc = .returned (v.map (zc ad')) ∧ (∀ w, v = some w → zgo o.2.1.length w) ∧ zEnd D cy A ad0 k0 J o.2 ad' st t
def zXC (D : va_G) (cy : Nat → ClassId) (A : Nat → Prop) (ad0 : Nat → Nat) (k0 : Nat) (J : Nat → Int → Int) (o : zO) : String → State → State → Prop := fun E st t =>
  ∃ (k : Nat) (ad' : Nat → Nat), o.1 = .inr k ∧ k < 3 ∧ E = zEx k ∧ zEnd D cy A ad0 k0 J o.2 ad' st t
def zQ (below : List Frame) (args : Array Value) (s : State) (y : zM) (D : va_G) (cy : Nat → ClassId) (A : Nat → Prop) (ad0 : Nat → Nat) (k0 : Nat) (J : Nat → Int → Int) (o : zO) : State → Prop :=
  vx_MQ below (zQc D cy A ad0 k0 J o) (zXC D cy A ad0 k0 J o) args s (zroom y).cells (zroom y).slots A
abbrev zLs (ad : Nat → Nat) (L : List (Nat × zV)) : List (Nat × Value) := L.map fun q => (q.1, zc ad q.2)
/-- from here, with these locals, this stack, this heap and so much room used, the method comes to the outcome o -/
def Ev (y : zM) (pc : Nat) (L : List (Nat × zV)) (stk : List zV) (h : zH) (n : Nat × Nat) (o : zO) : Prop :=
  ∀ (l : Launch) (p : Program) (e : Env) (s : State) (m : MethodId) (args : Array Value) (below : List Frame) (meth : Method) (c : Code) (D : va_G) (cy : Nat → ClassId) (A : Nat → Prop) (ad0 : Nat → Nat) (k0 : Nat) (J : Nat → Int → Int) (ad : Nat → Nat) (H : Heap) (locs : List Loc) (ls : Array Slot),
    zCx l p y s m args meth c A → zSt ad0 J A s s.heap → zWl D cy A ad0 k0 J ad h s H locs → lv_has ls (zmax y) (zLs ad L) → (∀ q ∈ L, zgo h.1.length q.2) → (∀ v ∈ stk, zgo h.1.length v) →
    W p l e (zroom y) s m args below meth c H locs n.1 n.2 (zQ below args s y D cy A ad0 k0 J o) (F0 m pc ls (stk.map (zc ad)))
/-! whole numbers -/
theorem zI_toInt {x : Int} (h : zin x) : (Int32.ofInt x).toInt = x := by
  obtain ⟨h1, h2⟩ := h
  rw [Int32.toInt_ofInt]
  have e : ((Int32.size : Nat) : Int) = 4294967296 := rfl
  exact Int.bmod_eq_of_le (by omega) (by omega)
theorem zL_toInt {x : Int} (h : zinL x) : (Int64.ofInt x).toInt = x := by
  obtain ⟨h1, h2⟩ := h
  rw [Int64.toInt_ofInt]
  have e : ((Int64.size : Nat) : Int) = 18446744073709551616 := rfl
  exact Int.bmod_eq_of_le (by omega) (by omega)
theorem zI_of (x : Int32) : Int32.ofInt x.toInt = x := Int32.ofInt_toInt x
theorem zI_in (x : Int32) : zin x.toInt := ⟨by have := x.le_toInt; omega, by have := x.toInt_lt; omega⟩
theorem zI_lt {x y : Int} (hx : zin x) (hy : zin y) : Int32.ofInt x < Int32.ofInt y ↔ x < y := by rw [Int32.lt_iff_toInt_lt, zI_toInt hx, zI_toInt hy]
theorem zI_le {x y : Int} (hx : zin x) (hy : zin y) : Int32.ofInt x ≤ Int32.ofInt y ↔ x ≤ y := by rw [Int32.le_iff_toInt_le, zI_toInt hx, zI_toInt hy]
theorem zI_eq {x y : Int} (hx : zin x) (hy : zin y) : Int32.ofInt x = Int32.ofInt y ↔ x = y := by rw [← Int32.toInt_inj, zI_toInt hx, zI_toInt hy]
theorem zI_0 : (0 : Int32) = Int32.ofInt 0 := rfl
theorem zin0 : zin 0 := ⟨by omega, by omega⟩
theorem zI_nat {x : Int} (h : zin x) (h0 : 0 ≤ x) : (Int32.ofInt x).toNatClampNeg = x.toNat := by
  show (Int32.ofInt x).toInt.toNat = x.toNat
  rw [zI_toInt h]
theorem zI_vp {x : Int} {n : Nat} (h : zin x) (h0 : 0 ≤ x) (h1 : x < n) : vp_in (Int32.ofInt x) n := by
  unfold vp_in
  rw [zI_nat h h0, zI_0, zI_lt h zin0]
  omega
theorem zcast {x : Int} (h0 : 0 ≤ x) : ((x.toNat : Nat) : Int) = x := Int.toNat_of_nonneg h0
/-! locals -/
theorem zL_get {ad : Nat → Nat} {L : List (Nat × zV)} {ls : Array Slot} {nL k i : Nat} {v : zV} (h : lv_has ls nL (zLs ad L)) (hk : L[k]? = some (i, v)) : ls[i]? = some (.val (zc ad v)) :=
  h.2.2 (i, zc ad v) (List.mem_map.mpr ⟨(i, v), List.mem_of_getElem? hk, rfl⟩)
/-- what a store leaves: of category one, of category two -/
def zset (L : List (Nat × zV)) (i : Nat) (v : zV) : List (Nat × zV) := (i, v) :: L.filter (fun q => !(q.1 == i) && !(q.1 + 1 == i && zcat q.2 == 2))
def zsetL (L : List (Nat × zV)) (i : Nat) (v : zV) : List (Nat × zV) := (i, v) :: L.filter (fun q => !(q.1 == i) && (!(q.1 == i + 1) && !(q.1 + 1 == i && zcat q.2 == 2)))
theorem zset_ls (ad : Nat → Nat) (L : List (Nat × zV)) (i : Nat) (v : zV) : (i, zc ad v) :: (zLs ad L).filter (fun q => !(q.1 == i) && !(q.1 + 1 == i && q.2.category == 2)) = zLs ad (zset L i v) := by
  simp only [zset, zLs, List.map_cons, List.filter_map]
  congr 2
  refine List.filter_congr fun q _ => ?_
  simp [Function.comp, zc_cat]
theorem zsetL_ls (ad : Nat → Nat) (L : List (Nat × zV)) (i : Nat) (v : zV) : (i, zc ad v) :: (zLs ad L).filter (fun q => !(q.1 == i) && (!(q.1 == i + 1) && !(q.1 + 1 == i && q.2.category == 2))) = zLs ad (zsetL L i v) := by
  simp only [zsetL, zLs, List.map_cons, List.filter_map]
  congr 2
  refine List.filter_congr fun q _ => ?_
  simp [Function.comp, zc_cat]
theorem zset_go {K : Nat} {L : List (Nat × zV)} {i : Nat} {v : zV} (h : ∀ q ∈ L, zgo K q.2) (hv : zgo K v) : ∀ q ∈ zset L i v, zgo K q.2 := by
  intro q hq
  rcases List.mem_cons.mp hq with e | e
  · rw [e]; exact hv
  · exact h q (List.mem_filter.mp e).1
theorem zsetL_go {K : Nat} {L : List (Nat × zV)} {i : Nat} {v : zV} (h : ∀ q ∈ L, zgo K q.2) (hv : zgo K v) : ∀ q ∈ zsetL L i v, zgo K q.2 := by
  intro q hq
  rcases List.mem_cons.mp hq with e | e
  · rw [e]; exact hv
  · exact h q (List.mem_filter.mp e).1
theorem zst_go {K : Nat} {v : zV} {st : List zV} (h : ∀ w ∈ st, zgo K w) (hv : zgo K v) : ∀ w ∈ v :: st, zgo K w := by
  intro w hw
  rcases List.mem_cons.mp hw with e | e
  · rw [e]; exact hv
  · exact h w e
theorem zst_tl {K : Nat} {v : zV} {st : List zV} (h : ∀ w ∈ v :: st, zgo K w) : ∀ w ∈ st, zgo K w := fun w hw => h w (List.mem_cons_of_mem _ hw)
theorem zst_hd {K : Nat} {v : zV} {st : List zV} (h : ∀ w ∈ v :: st, zgo K w) : zgo K v := h v List.mem_cons_self
/-! fewer locals, in another order -/
theorem Ev.loc {y : zM} {pc : Nat} {L L' : List (Nat × zV)} {st : List zV} {h : zH} {n : Nat × Nat} {o : zO} (hs : ∀ q ∈ L', q ∈ L) (k : Ev y pc L' st h n o) : Ev y pc L st h n o := by
  intro l p e s m args below meth c D cy A ad0 k0 J ad H locs ls hC hZ hW hl hL hs2
  refine k l p e s m args below meth c D cy A ad0 k0 J ad H locs ls hC hZ hW ⟨hl.1, hl.2.1, ?_⟩ (fun q hq => hL q (hs q hq)) hs2
  intro q hq
  obtain ⟨r, hr, rfl⟩ := List.mem_map.mp hq
  exact hl.2.2 _ (List.mem_map.mpr ⟨r, hs r hr, rfl⟩)
/-- more room counted as used -/
theorem Ev.wide {y : zM} {pc : Nat} {L : List (Nat × zV)} {st : List zV} {h : zH} {n n' : Nat × Nat} {o : zO} (h1 : n.1 ≤ n'.1) (h2 : n.2 ≤ n'.2) (k : Ev y pc L st h n' o) : Ev y pc L st h n o := by
  intro l p e s m args below meth c D cy A ad0 k0 J ad H locs ls hC hZ hW hl hL hs
  exact W.widen h1 h2 (k l p e s m args below meth c D cy A ad0 k0 J ad H locs ls hC hZ hW hl hL hs)
def zlk (L : List (Nat × zV)) (i : Nat) : Option zV := match L with
  | [] => none
  | q :: L => match Nat.beq q.1 i with
    | true => some q.2
    | false => zlk L i
theorem zlk_mem {L : List (Nat × zV)} {i : Nat} {v : zV} (h : zlk L i = some v) : (i, v) ∈ L := by
  induction L with
  | nil => simp [zlk] at h
  | cons q L ih =>
    unfold zlk at h
    cases hq : Nat.beq q.1 i with
    | true =>
      rw [hq] at h
      have e := Nat.eq_of_beq_eq_true hq
      obtain ⟨q1, q2⟩ := q
      simp at h e
      subst h; subst e
      exact List.mem_cons_self
    | false =>
      rw [hq] at h
      exact List.mem_cons_of_mem _ (ih h)
theorem zlk_get {ad : Nat → Nat} {L : List (Nat × zV)} {ls : Array Slot} {nL i : Nat} {v : zV} (h : lv_has ls nL (zLs ad L)) (hk : zlk L i = some v) : ls[i]? = some (.val (zc ad v)) :=
  h.2.2 (i, zc ad v) (List.mem_map.mpr ⟨(i, v), zlk_mem hk, rfl⟩)
def zw (x : Int) : Int := x.bmod 18446744073709551616
theorem zw_in (x : Int) : zinL (zw x) := by
  unfold zw zinL
  have h1 := Int.le_bmod (x := x) (m := 18446744073709551616) (by decide)
  have h2 := Int.bmod_lt (x := x) (m := 18446744073709551616) (by decide)
  omega
theorem zw_id {x : Int} (h : zinL x) : zw x = x := by
  obtain ⟨h1, h2⟩ := h
  exact Int.bmod_eq_of_le (by omega) (by omega)
theorem zw_of (x : Int) : Int64.ofInt (zw x) = Int64.ofInt x := by
  rw [← Int64.toInt_inj, Int64.toInt_ofInt, Int64.toInt_ofInt]
  exact Int.bmod_bmod
theorem zin_L {x : Int} (h : zin x) : zinL x := ⟨by have := h.1; omega, by have := h.2; omega⟩
theorem zI_l {x : Int} (h : zin x) : (Int32.ofInt x).toInt64 = Int64.ofInt x := by
  rw [← Int64.toInt_inj, zL_toInt (zin_L h), Int32.toInt_toInt64, zI_toInt h]
theorem zne0 {b : Int} (gb : zin b) (hb : 0 < b) : ¬ Int32.ofInt b = 0 := by
  rw [zI_0, zI_eq gb zin0]; omega
theorem zdiv_in {a b : Int} (ga : zin a) (ha : 0 ≤ a) (hb : 0 < b) : zin (a / b) := by
  have h1 : a / b ≤ a := Int.ediv_le_self b ha
  have h2 : 0 ≤ a / b := Int.ediv_nonneg ha (by omega)
  obtain ⟨g1, g2⟩ := ga
  exact ⟨by omega, by omega⟩
theorem zrem_in {a b : Int} (ga : zin a) (ha : 0 ≤ a) (hb : 0 < b) : zin (a % b) := by
  have h1 : a % b ≤ a := by
    have e1 := Int.emod_add_mul_ediv a b
    have e2 : 0 ≤ b * (a / b) := Int.mul_nonneg (by omega) (Int.ediv_nonneg ha (by omega))
    omega
  have h2 : 0 ≤ a % b := Int.emod_nonneg a (by omega)
  obtain ⟨g1, g2⟩ := ga
  exact ⟨by omega, by omega⟩
theorem zdiv {a b : Int} (ga : zin a) (gb : zin b) (ha : 0 ≤ a) (hb : 0 < b) : Int32.ofInt (a / b) = Int32.ofInt a / Int32.ofInt b := by
  rw [← Int32.toInt_inj, Int32.toInt_div, zI_toInt (zdiv_in ga ha hb), zI_toInt ga, zI_toInt gb, Int.tdiv_eq_ediv_of_nonneg ha]
  have := zdiv_in ga ha hb
  exact (Int.bmod_eq_of_le (by have := this.1; omega) (by have := this.2; omega)).symm
theorem zrem {a b : Int} (ga : zin a) (gb : zin b) (ha : 0 ≤ a) (hb : 0 < b) : Int32.ofInt (a % b) = Int32.ofInt a - Int32.ofInt a / Int32.ofInt b * Int32.ofInt b := by
  rw [← zdiv ga gb ha hb, ← Int32.ofInt_mul, ← Int32.ofInt_sub]
  congr 1
  have := Int.emod_add_mul_ediv a b
  rw [Int.mul_comm] at this
  omega
theorem zcmp_in (a b : Int) : zin (if b < a then 1 else if a = b then 0 else -1) := by
  split
  · exact ⟨by decide, by decide⟩
  · split <;> exact ⟨by decide, by decide⟩
theorem zcmp {a b : Int} (ga : zinL a) (gb : zinL b) : Int32.ofInt (if b < a then 1 else if a = b then 0 else -1) = lg_cmp (Int64.ofInt a) (Int64.ofInt b) := by
  unfold lg_cmp
  have h1 : (Int64.ofInt a > Int64.ofInt b) ↔ b < a := by rw [gt_iff_lt, Int64.lt_iff_toInt_lt, zL_toInt ga, zL_toInt gb]
  have h2 : (Int64.ofInt a = Int64.ofInt b) ↔ a = b := by rw [← Int64.toInt_inj, zL_toInt ga, zL_toInt gb]
  simp only [h1, h2]
  split
  · rfl
  · split <;> rfl

section ZR
variable {y : zM} {pc : Nat} {L : List (Nat × zV)} {st : List zV} {h : zH} {n : Nat × Nat} {o : zO}
theorem Ev.iconst {x : Int} (d : decode (zcode y) pc = .ok (.iconst x, 1)) (k : Ev y (pc + 1) L (zi x :: st) h n o) (hx0 : -2147483648 ≤ x ∧ x ≤ 2147483647 := by decide) : Ev y pc L st h n o := by
  intro l p e s m args below meth c D cy A ad0 k0 J ad H locs ls hC hZ hW hl hL hs
  have hx := hC.2.1
  have hb := hC.2.2.1
  exact lv_iconst hx hb d rfl (k l p e s m args below meth c D cy A ad0 k0 J ad H locs ls hC hZ hW hl hL (zst_go hs ⟨hx0, trivial⟩))
theorem Ev.bipush {x : Int} (d : decode (zcode y) pc = .ok (.bipush x, 2)) (k : Ev y (pc + 2) L (zi x :: st) h n o) (hv : (Int8.ofInt x).toInt32 = Int32.ofInt x := by decide) (hx0 : -2147483648 ≤ x ∧ x ≤ 2147483647 := by decide) : Ev y pc L st h n o := by
  intro l p e s m args below meth c D cy A ad0 k0 J ad H locs ls hC hZ hW hl hL hs
  have hx := hC.2.1
  have hb := hC.2.2.1
  exact lv_bipush hx hb d hv (k l p e s m args below meth c D cy A ad0 k0 J ad H locs ls hC hZ hW hl hL (zst_go hs ⟨hx0, trivial⟩))
theorem Ev.sipush {x : Int} (d : decode (zcode y) pc = .ok (.sipush x, 3)) (k : Ev y (pc + 3) L (zi x :: st) h n o) (hv : (Int16.ofInt x).toInt32 = Int32.ofInt x := by decide) (hx0 : -2147483648 ≤ x ∧ x ≤ 2147483647 := by decide) : Ev y pc L st h n o := by
  intro l p e s m args below meth c D cy A ad0 k0 J ad H locs ls hC hZ hW hl hL hs
  have hx := hC.2.1
  have hb := hC.2.2.1
  exact lv_sipush hx hb d hv (k l p e s m args below meth c D cy A ad0 k0 J ad H locs ls hC hZ hW hl hL (zst_go hs ⟨hx0, trivial⟩))
theorem Ev.ldc2 {own : String} {idx : Nat} {x : Int} (d : decode (zcode y) pc = .ok (.ldc2_w idx, 3)) (hw : Cond.constantLong (zname y).cls idx (Int64.ofInt x) ∈ zgw) (k : Ev y (pc + 3) L (zl x :: st) h n o) (hx0 : -9223372036854775808 ≤ x ∧ x ≤ 9223372036854775807 := by decide) : Ev y pc L st h n o := by
  intro l p e s m args below meth c D cy A ad0 k0 J ad H locs ls hC hZ hW hl hL hs
  have hx := hC.2.1
  have hb := hC.2.2.1
  exact lv_ldc2 hx hb hC.2.2.2.2.2.1 (hC.2.2.2.2.2.2.1 _ hw) d (k l p e s m args below meth c D cy A ad0 k0 J ad H locs ls hC hZ hW hl hL (zst_go hs ⟨hx0, trivial⟩))
theorem Ev.lconst {f : Fin 2} {x : Int} (d : decode (zcode y) pc = .ok (.lconst f, 1)) (hf : Int64.ofNat (f : Nat) = Int64.ofInt x) (k : Ev y (pc + 1) L (zl x :: st) h n o) (hx0 : -9223372036854775808 ≤ x ∧ x ≤ 9223372036854775807 := by decide) : Ev y pc L st h n o := by
  intro l p e s m args below meth c D cy A ad0 k0 J ad H locs ls hC hZ hW hl hL hs
  have hx := hC.2.1
  have hb := hC.2.2.1
  exact lv_lconst hx hb d hf (k l p e s m args below meth c D cy A ad0 k0 J ad H locs ls hC hZ hW hl hL (zst_go hs ⟨hx0, trivial⟩))
theorem Ev.null (d : decode (zcode y) pc = .ok (.aconst_null, 1)) (k : Ev y (pc + 1) L (zr none :: st) h n o) : Ev y pc L st h n o := by
  intro l p e s m args below meth c D cy A ad0 k0 J ad H locs ls hC hZ hW hl hL hs
  have hx := hC.2.1
  have hb := hC.2.2.1
  exact lv_null hx hb d (k l p e s m args below meth c D cy A ad0 k0 J ad H locs ls hC hZ hW hl hL (zst_go hs ⟨trivial, fun _ h => nomatch h⟩))
theorem Ev.iload_n {f : Fin 4} {i : Nat} {x : Int} (d : decode (zcode y) pc = .ok (.iload_n f, 1)) (hi : (f : Nat) = i) (hk : zlk L i = some (zi x)) (k : Ev y (pc + 1) L (zi x :: st) h n o) : Ev y pc L st h n o := by
  intro l p e s m args below meth c D cy A ad0 k0 J ad H locs ls hC hZ hW hl hL hs
  have hx := hC.2.1
  have hb := hC.2.2.1
  exact lv_iload_n hx hb d hi (zlk_get hl hk) (k l p e s m args below meth c D cy A ad0 k0 J ad H locs ls hC hZ hW hl hL (zst_go hs (hL _ (zlk_mem hk))))
theorem Ev.iload {i : Nat} {x : Int} (d : decode (zcode y) pc = .ok (.iload i, 2)) (hk : zlk L i = some (zi x)) (k : Ev y (pc + 2) L (zi x :: st) h n o) : Ev y pc L st h n o := by
  intro l p e s m args below meth c D cy A ad0 k0 J ad H locs ls hC hZ hW hl hL hs
  have hx := hC.2.1
  have hb := hC.2.2.1
  exact lv_iload hx hb d (zlk_get hl hk) (k l p e s m args below meth c D cy A ad0 k0 J ad H locs ls hC hZ hW hl hL (zst_go hs (hL _ (zlk_mem hk))))
theorem Ev.lload_n {f : Fin 4} {i : Nat} {x : Int} (d : decode (zcode y) pc = .ok (.lload_n f, 1)) (hi : (f : Nat) = i) (hk : zlk L i = some (zl x)) (k : Ev y (pc + 1) L (zl x :: st) h n o) : Ev y pc L st h n o := by
  intro l p e s m args below meth c D cy A ad0 k0 J ad H locs ls hC hZ hW hl hL hs
  have hx := hC.2.1
  have hb := hC.2.2.1
  exact lv_lload_n hx hb d hi (zlk_get hl hk) (k l p e s m args below meth c D cy A ad0 k0 J ad H locs ls hC hZ hW hl hL (zst_go hs (hL _ (zlk_mem hk))))
theorem Ev.lload {i : Nat} {x : Int} (d : decode (zcode y) pc = .ok (.lload i, 2)) (hk : zlk L i = some (zl x)) (k : Ev y (pc + 2) L (zl x :: st) h n o) : Ev y pc L st h n o := by
  intro l p e s m args below meth c D cy A ad0 k0 J ad H locs ls hC hZ hW hl hL hs
  have hx := hC.2.1
  have hb := hC.2.2.1
  exact lv_lload hx hb d (zlk_get hl hk) (k l p e s m args below meth c D cy A ad0 k0 J ad H locs ls hC hZ hW hl hL (zst_go hs (hL _ (zlk_mem hk))))
theorem Ev.aload_n {f : Fin 4} {i : Nat} {r : Option Nat} (d : decode (zcode y) pc = .ok (.aload_n f, 1)) (hi : (f : Nat) = i) (hk : zlk L i = some (zr r)) (k : Ev y (pc + 1) L (zr r :: st) h n o) : Ev y pc L st h n o := by
  intro l p e s m args below meth c D cy A ad0 k0 J ad H locs ls hC hZ hW hl hL hs
  have hx := hC.2.1
  have hb := hC.2.2.1
  have hk2 := zlk_get hl hk
  have hgo := hL _ (zlk_mem hk)
  cases r with
  | none => exact lv_aload_nN hx hb d hi hk2 (k l p e s m args below meth c D cy A ad0 k0 J ad H locs ls hC hZ hW hl hL (zst_go hs hgo))
  | some x => exact lv_aload_n hx hb d hi hk2 (k l p e s m args below meth c D cy A ad0 k0 J ad H locs ls hC hZ hW hl hL (zst_go hs hgo))
theorem Ev.aload {i : Nat} {r : Option Nat} (d : decode (zcode y) pc = .ok (.aload i, 2)) (hk : zlk L i = some (zr r)) (k : Ev y (pc + 2) L (zr r :: st) h n o) : Ev y pc L st h n o := by
  intro l p e s m args below meth c D cy A ad0 k0 J ad H locs ls hC hZ hW hl hL hs
  have hx := hC.2.1
  have hb := hC.2.2.1
  have hk2 := zlk_get hl hk
  have hgo := hL _ (zlk_mem hk)
  cases r with
  | none => exact lv_aloadN hx hb d hk2 (k l p e s m args below meth c D cy A ad0 k0 J ad H locs ls hC hZ hW hl hL (zst_go hs hgo))
  | some x => exact lv_aload hx hb d hk2 (k l p e s m args below meth c D cy A ad0 k0 J ad H locs ls hC hZ hW hl hL (zst_go hs hgo))
theorem Ev.istore_n {f : Fin 4} {i : Nat} {x : Int} {L' : List (Nat × zV)} (d : decode (zcode y) pc = .ok (.istore_n f, 1)) (hi : (f : Nat) = i) (hn : i < zmax y) (e0 : zset L i (zi x) = L') (k : Ev y (pc + 1) L' st h n o) : Ev y pc L (zi x :: st) h n o := by
  intro l p e s m args below meth c D cy A ad0 k0 J ad H locs ls hC hZ hW hl hL hs
  have hx := hC.2.1
  have hb := hC.2.2.1
  refine lv_istore_n hx hb d hi hl hn (zset_ls ad L i (zi x)) (fun ls' hl' => ?_)
  subst e0
  exact k l p e s m args below meth c D cy A ad0 k0 J ad H locs ls' hC hZ hW hl' (zset_go hL (zst_hd hs)) (zst_tl hs)
theorem Ev.lstore_n {f : Fin 4} {i : Nat} {x : Int} {L' : List (Nat × zV)} (d : decode (zcode y) pc = .ok (.lstore_n f, 1)) (hi : (f : Nat) = i) (hn : i + 1 < zmax y) (e0 : zsetL L i (zl x) = L') (k : Ev y (pc + 1) L' st h n o) : Ev y pc L (zl x :: st) h n o := by
  intro l p e s m args below meth c D cy A ad0 k0 J ad H locs ls hC hZ hW hl hL hs
  have hx := hC.2.1
  have hb := hC.2.2.1
  refine lv_lstore_n hx hb d hi hl hn (zsetL_ls ad L i (zl x)) (fun ls' hl' => ?_)
  subst e0
  exact k l p e s m args below meth c D cy A ad0 k0 J ad H locs ls' hC hZ hW hl' (zsetL_go hL (zst_hd hs)) (zst_tl hs)
theorem Ev.astore_n {f : Fin 4} {i : Nat} {r : Option Nat} {L' : List (Nat × zV)} (d : decode (zcode y) pc = .ok (.astore_n f, 1)) (hi : (f : Nat) = i) (hn : i < zmax y) (e0 : zset L i (zr r) = L') (k : Ev y (pc + 1) L' st h n o) : Ev y pc L (zr r :: st) h n o := by
  intro l p e s m args below meth c D cy A ad0 k0 J ad H locs ls hC hZ hW hl hL hs
  have hx := hC.2.1
  have hb := hC.2.2.1
  subst e0
  cases r with
  | none =>
    refine lv_astore_nN hx hb d hi hl hn (zset_ls ad L i (zr none)) (fun ls' hl' => ?_)
    exact k l p e s m args below meth c D cy A ad0 k0 J ad H locs ls' hC hZ hW hl' (zset_go hL (zst_hd hs)) (zst_tl hs)
  | some x =>
    refine lv_astore_n hx hb d hi hl hn (zset_ls ad L i (zr (some x))) (fun ls' hl' => ?_)
    exact k l p e s m args below meth c D cy A ad0 k0 J ad H locs ls' hC hZ hW hl' (zset_go hL (zst_hd hs)) (zst_tl hs)
theorem Ev.istore {i : Nat} {x : Int} {L' : List (Nat × zV)} (d : decode (zcode y) pc = .ok (.istore i, 2)) (hn : i < zmax y) (e0 : zset L i (zi x) = L') (k : Ev y (pc + 2) L' st h n o) : Ev y pc L (zi x :: st) h n o := by
  intro l p e s m args below meth c D cy A ad0 k0 J ad H locs ls hC hZ hW hl hL hs
  have hx := hC.2.1
  have hb := hC.2.2.1
  refine lv_istore hx hb d hl hn (zset_ls ad L i (zi x)) (fun ls' hl' => ?_)
  subst e0
  exact k l p e s m args below meth c D cy A ad0 k0 J ad H locs ls' hC hZ hW hl' (zset_go hL (zst_hd hs)) (zst_tl hs)
theorem Ev.lstore {i : Nat} {x : Int} {L' : List (Nat × zV)} (d : decode (zcode y) pc = .ok (.lstore i, 2)) (hn : i + 1 < zmax y) (e0 : zsetL L i (zl x) = L') (k : Ev y (pc + 2) L' st h n o) : Ev y pc L (zl x :: st) h n o := by
  intro l p e s m args below meth c D cy A ad0 k0 J ad H locs ls hC hZ hW hl hL hs
  have hx := hC.2.1
  have hb := hC.2.2.1
  refine lv_lstore hx hb d hl hn (zsetL_ls ad L i (zl x)) (fun ls' hl' => ?_)
  subst e0
  exact k l p e s m args below meth c D cy A ad0 k0 J ad H locs ls' hC hZ hW hl' (zsetL_go hL (zst_hd hs)) (zst_tl hs)
theorem Ev.astore {i : Nat} {r : Option Nat} {L' : List (Nat × zV)} (d : decode (zcode y) pc = .ok (.astore i, 2)) (hn : i < zmax y) (e0 : zset L i (zr r) = L') (k : Ev y (pc + 2) L' st h n o) : Ev y pc L (zr r :: st) h n o := by
  intro l p e s m args below meth c D cy A ad0 k0 J ad H locs ls hC hZ hW hl hL hs
  have hx := hC.2.1
  have hb := hC.2.2.1
  subst e0
  cases r with
  | none =>
    refine lv_astoreN hx hb d hl hn (zset_ls ad L i (zr none)) (fun ls' hl' => ?_)
    exact k l p e s m args below meth c D cy A ad0 k0 J ad H locs ls' hC hZ hW hl' (zset_go hL (zst_hd hs)) (zst_tl hs)
  | some x =>
    refine lv_astore hx hb d hl hn (zset_ls ad L i (zr (some x))) (fun ls' hl' => ?_)
    exact k l p e s m args below meth c D cy A ad0 k0 J ad H locs ls' hC hZ hW hl' (zset_go hL (zst_hd hs)) (zst_tl hs)
theorem Ev.iinc {i : Nat} {z x : Int} {L' : List (Nat × zV)} (d : decode (zcode y) pc = .ok (.iinc i z, 3)) (hk : zlk L i = some (zi x)) (hn : i < zmax y) (hr : -2147483648 ≤ x + z ∧ x + z ≤ 2147483647) (e0 : zset L i (zi (x + z)) = L') (k : Ev y (pc + 3) L' st h n o) : Ev y pc L st h n o := by
  intro l p e s m args below meth c D cy A ad0 k0 J ad H locs ls hC hZ hW hl hL hs
  have hx := hC.2.1
  have hb := hC.2.2.1
  subst e0
  obtain ⟨j, hj⟩ := List.getElem?_of_mem (zlk_mem hk)
  refine lv_iinc hx hb d hl (k := j) (x := Int32.ofInt x) (v := Int32.ofInt (x + z)) (by rw [zLs, List.getElem?_map, hj]; rfl) (Int32.ofInt_add _ _).symm hn (zset_ls ad L i (zi (x + z))) (fun ls' hl' => ?_)
  exact k l p e s m args below meth c D cy A ad0 k0 J ad H locs ls' hC hZ hW hl' (zset_go hL ⟨hr, trivial⟩) hs
theorem Ev.dup {v : zV} (d : decode (zcode y) pc = .ok (.dup, 1)) (hv : zcat v = 1) (k : Ev y (pc + 1) L (v :: v :: st) h n o) : Ev y pc L (v :: st) h n o := by
  intro l p e s m args below meth c D cy A ad0 k0 J ad H locs ls hC hZ hW hl hL hs
  have hx := hC.2.1
  have hb := hC.2.2.1
  exact lv_dup hx hb d ((zc_cat ad v).trans hv) (k l p e s m args below meth c D cy A ad0 k0 J ad H locs ls hC hZ hW hl hL (zst_go hs (zst_hd hs)))
theorem Ev.dup2 {v w : zV} (d : decode (zcode y) pc = .ok (.dup2, 1)) (hv : zcat v = 1) (hw : zcat w = 1) (k : Ev y (pc + 1) L (v :: w :: v :: w :: st) h n o) : Ev y pc L (v :: w :: st) h n o := by
  intro l p e s m args below meth c D cy A ad0 k0 J ad H locs ls hC hZ hW hl hL hs
  have hx := hC.2.1
  have hb := hC.2.2.1
  exact lv_dup2_11 hx hb d ((zc_cat ad v).trans hv) ((zc_cat ad w).trans hw) (k l p e s m args below meth c D cy A ad0 k0 J ad H locs ls hC hZ hW hl hL (zst_go (zst_go hs (zst_hd (zst_tl hs))) (zst_hd hs)))
theorem Ev.pop {v : zV} (d : decode (zcode y) pc = .ok (.pop, 1)) (hv : zcat v = 1) (k : Ev y (pc + 1) L st h n o) : Ev y pc L (v :: st) h n o := by
  intro l p e s m args below meth c D cy A ad0 k0 J ad H locs ls hC hZ hW hl hL hs
  have hx := hC.2.1
  have hb := hC.2.2.1
  exact lv_pop hx hb d ((zc_cat ad v).trans hv) (k l p e s m args below meth c D cy A ad0 k0 J ad H locs ls hC hZ hW hl hL (zst_tl hs))
theorem Ev.iadd {a b : Int} (d : decode (zcode y) pc = .ok (.iadd, 1)) (hr : -2147483648 ≤ a + b ∧ a + b ≤ 2147483647) (k : Ev y (pc + 1) L (zi (a + b) :: st) h n o) : Ev y pc L (zi b :: zi a :: st) h n o := by
  intro l p e s m args below meth c D cy A ad0 k0 J ad H locs ls hC hZ hW hl hL hs
  have hx := hC.2.1
  have hb := hC.2.2.1
  refine lv_iadd hx hb d ?_
  have k9 := (k l p e s m args below meth c D cy A ad0 k0 J ad H locs ls hC hZ hW hl hL (zst_go (zst_tl (zst_tl hs)) ⟨hr, trivial⟩))
  have e9 : zc ad (zi (a + b)) = .int (Int32.ofInt a + Int32.ofInt b) := congrArg Value.int (Int32.ofInt_add a b)
  rw [List.map_cons, e9] at k9
  exact k9
theorem Ev.isub {a b : Int} (d : decode (zcode y) pc = .ok (.isub, 1)) (hr : -2147483648 ≤ a - b ∧ a - b ≤ 2147483647) (k : Ev y (pc + 1) L (zi (a - b) :: st) h n o) : Ev y pc L (zi b :: zi a :: st) h n o := by
  intro l p e s m args below meth c D cy A ad0 k0 J ad H locs ls hC hZ hW hl hL hs
  have hx := hC.2.1
  have hb := hC.2.2.1
  refine lv_isub hx hb d ?_
  have k9 := (k l p e s m args below meth c D cy A ad0 k0 J ad H locs ls hC hZ hW hl hL (zst_go (zst_tl (zst_tl hs)) ⟨hr, trivial⟩))
  have e9 : zc ad (zi (a - b)) = .int (Int32.ofInt a - Int32.ofInt b) := congrArg Value.int (Int32.ofInt_sub a b)
  rw [List.map_cons, e9] at k9
  exact k9
theorem Ev.imul {a b : Int} (d : decode (zcode y) pc = .ok (.imul, 1)) (hr : -2147483648 ≤ a * b ∧ a * b ≤ 2147483647) (k : Ev y (pc + 1) L (zi (a * b) :: st) h n o) : Ev y pc L (zi b :: zi a :: st) h n o := by
  intro l p e s m args below meth c D cy A ad0 k0 J ad H locs ls hC hZ hW hl hL hs
  have hx := hC.2.1
  have hb := hC.2.2.1
  refine lv_imul hx hb d ?_
  have k9 := (k l p e s m args below meth c D cy A ad0 k0 J ad H locs ls hC hZ hW hl hL (zst_go (zst_tl (zst_tl hs)) ⟨hr, trivial⟩))
  have e9 : zc ad (zi (a * b)) = .int (Int32.ofInt a * Int32.ofInt b) := congrArg Value.int (Int32.ofInt_mul a b)
  rw [List.map_cons, e9] at k9
  exact k9
theorem Ev.ineg {a : Int} (d : decode (zcode y) pc = .ok (.ineg, 1)) (hr : -2147483648 ≤ -a ∧ -a ≤ 2147483647) (k : Ev y (pc + 1) L (zi (-a) :: st) h n o) : Ev y pc L (zi a :: st) h n o := by
  intro l p e s m args below meth c D cy A ad0 k0 J ad H locs ls hC hZ hW hl hL hs
  have hx := hC.2.1
  have hb := hC.2.2.1
  refine lv_ineg hx hb d ?_
  have k9 := (k l p e s m args below meth c D cy A ad0 k0 J ad H locs ls hC hZ hW hl hL (zst_go (zst_tl hs) ⟨hr, trivial⟩))
  have e9 : zc ad (zi (-a)) = .int (-(Int32.ofInt a)) := congrArg Value.int (Int32.ofInt_neg a)
  rw [List.map_cons, e9] at k9
  exact k9
theorem Ev.idiv {a b : Int} (d : decode (zcode y) pc = .ok (.idiv, 1)) (ha : 0 ≤ a) (hb0 : 0 < b) (k : Ev y (pc + 1) L (zi (a / b) :: st) h n o) : Ev y pc L (zi b :: zi a :: st) h n o := by
  intro l p e s m args below meth c D cy A ad0 k0 J ad H locs ls hC hZ hW hl hL hs
  have hx := hC.2.1
  have hb := hC.2.2.1
  have ga := (zst_hd (zst_tl hs)).1
  have gb := (zst_hd hs).1
  have gr : zin (a / b) := zdiv_in ga ha hb0
  refine lv_idiv hx hb d (zne0 gb hb0) ?_
  have k9 := (k l p e s m args below meth c D cy A ad0 k0 J ad H locs ls hC hZ hW hl hL (zst_go (zst_tl (zst_tl hs)) ⟨gr, trivial⟩))
  have e9 : zc ad (zi (a / b)) = .int (Int32.ofInt a / Int32.ofInt b) := congrArg Value.int (zdiv ga gb ha hb0)
  rw [List.map_cons, e9] at k9
  exact k9
theorem Ev.irem {a b : Int} (d : decode (zcode y) pc = .ok (.irem, 1)) (ha : 0 ≤ a) (hb0 : 0 < b) (k : Ev y (pc + 1) L (zi (a % b) :: st) h n o) : Ev y pc L (zi b :: zi a :: st) h n o := by
  intro l p e s m args below meth c D cy A ad0 k0 J ad H locs ls hC hZ hW hl hL hs
  have hx := hC.2.1
  have hb := hC.2.2.1
  have ga := (zst_hd (zst_tl hs)).1
  have gb := (zst_hd hs).1
  have gr : zin (a % b) := zrem_in ga ha hb0
  refine lv_irem hx hb d (zne0 gb hb0) ?_
  have k9 := (k l p e s m args below meth c D cy A ad0 k0 J ad H locs ls hC hZ hW hl hL (zst_go (zst_tl (zst_tl hs)) ⟨gr, trivial⟩))
  have e9 : zc ad (zi (a % b)) = .int (Int32.ofInt a - Int32.ofInt a / Int32.ofInt b * Int32.ofInt b) := congrArg Value.int (zrem ga gb ha hb0)
  rw [List.map_cons, e9] at k9
  exact k9
theorem Ev.iand {a b : Int} (d : decode (zcode y) pc = .ok (.iand, 1)) (k : Ev y (pc + 1) L (zi (Int32.ofInt a &&& Int32.ofInt b).toInt :: st) h n o) : Ev y pc L (zi b :: zi a :: st) h n o := by
  intro l p e s m args below meth c D cy A ad0 k0 J ad H locs ls hC hZ hW hl hL hs
  have hx := hC.2.1
  have hb := hC.2.2.1
  refine lv_iand hx hb d ?_
  have k9 := (k l p e s m args below meth c D cy A ad0 k0 J ad H locs ls hC hZ hW hl hL (zst_go (zst_tl (zst_tl hs)) ⟨zI_in _, trivial⟩))
  have e9 : zc ad (zi (Int32.ofInt a &&& Int32.ofInt b).toInt) = .int (Int32.ofInt a &&& Int32.ofInt b) := congrArg Value.int (zI_of _)
  rw [List.map_cons, e9] at k9
  exact k9
theorem Ev.i2l {a : Int} (d : decode (zcode y) pc = .ok (.i2l, 1)) (k : Ev y (pc + 1) L (zl a :: st) h n o) : Ev y pc L (zi a :: st) h n o := by
  intro l p e s m args below meth c D cy A ad0 k0 J ad H locs ls hC hZ hW hl hL hs
  have hx := hC.2.1
  have hb := hC.2.2.1
  exact lv_i2l hx hb d (zI_l (zst_hd hs).1) (k l p e s m args below meth c D cy A ad0 k0 J ad H locs ls hC hZ hW hl hL (zst_go (zst_tl hs) ⟨zin_L (zst_hd hs).1, trivial⟩))
theorem Ev.ladd {a b : Int} (d : decode (zcode y) pc = .ok (.ladd, 1)) (k : Ev y (pc + 1) L (zl (zw (a + b)) :: st) h n o) : Ev y pc L (zl b :: zl a :: st) h n o := by
  intro l p e s m args below meth c D cy A ad0 k0 J ad H locs ls hC hZ hW hl hL hs
  have hx := hC.2.1
  have hb := hC.2.2.1
  refine lv_ladd hx hb d ?_
  have k9 := (k l p e s m args below meth c D cy A ad0 k0 J ad H locs ls hC hZ hW hl hL (zst_go (zst_tl (zst_tl hs)) ⟨zw_in _, trivial⟩))
  have e9 : zc ad (zl (zw (a + b))) = .long (Int64.ofInt a + Int64.ofInt b) := congrArg Value.long ((zw_of _).trans (Int64.ofInt_add a b))
  rw [List.map_cons, e9] at k9
  exact k9
theorem Ev.lsub {a b : Int} (d : decode (zcode y) pc = .ok (.lsub, 1)) (k : Ev y (pc + 1) L (zl (zw (a - b)) :: st) h n o) : Ev y pc L (zl b :: zl a :: st) h n o := by
  intro l p e s m args below meth c D cy A ad0 k0 J ad H locs ls hC hZ hW hl hL hs
  have hx := hC.2.1
  have hb := hC.2.2.1
  refine lv_lsub hx hb d ?_
  have k9 := (k l p e s m args below meth c D cy A ad0 k0 J ad H locs ls hC hZ hW hl hL (zst_go (zst_tl (zst_tl hs)) ⟨zw_in _, trivial⟩))
  have e9 : zc ad (zl (zw (a - b))) = .long (Int64.ofInt a - Int64.ofInt b) := congrArg Value.long ((zw_of _).trans (Int64.ofInt_sub a b))
  rw [List.map_cons, e9] at k9
  exact k9
theorem Ev.lmul {a b : Int} (d : decode (zcode y) pc = .ok (.lmul, 1)) (k : Ev y (pc + 1) L (zl (zw (a * b)) :: st) h n o) : Ev y pc L (zl b :: zl a :: st) h n o := by
  intro l p e s m args below meth c D cy A ad0 k0 J ad H locs ls hC hZ hW hl hL hs
  have hx := hC.2.1
  have hb := hC.2.2.1
  refine lv_lmul hx hb d ?_
  have k9 := (k l p e s m args below meth c D cy A ad0 k0 J ad H locs ls hC hZ hW hl hL (zst_go (zst_tl (zst_tl hs)) ⟨zw_in _, trivial⟩))
  have e9 : zc ad (zl (zw (a * b))) = .long (Int64.ofInt a * Int64.ofInt b) := congrArg Value.long ((zw_of _).trans (Int64.ofInt_mul a b))
  rw [List.map_cons, e9] at k9
  exact k9
theorem Ev.lcmp {a b : Int} (d : decode (zcode y) pc = .ok (.lcmp, 1)) (k : Ev y (pc + 1) L (zi (if b < a then 1 else if a = b then 0 else -1) :: st) h n o) : Ev y pc L (zl b :: zl a :: st) h n o := by
  intro l p e s m args below meth c D cy A ad0 k0 J ad H locs ls hC hZ hW hl hL hs
  have hx := hC.2.1
  have hb := hC.2.2.1
  have ga := (zst_hd (zst_tl hs)).1
  have gb := (zst_hd hs).1
  refine W.lcmp hx hb d ?_
  have k9 := (k l p e s m args below meth c D cy A ad0 k0 J ad H locs ls hC hZ hW hl hL (zst_go (zst_tl (zst_tl hs)) ⟨zcmp_in a b, trivial⟩))
  have e9 : zc ad (zi (if b < a then 1 else if a = b then 0 else -1)) = .int (lg_cmp (Int64.ofInt a) (Int64.ofInt b)) := congrArg Value.int (zcmp ga gb)
  rw [List.map_cons, e9] at k9
  exact k9
theorem Ev.goto {off : Int} {tgt : Nat} (d : decode (zcode y) pc = .ok (.goto off, 3)) (ht : (pc : Int) + off = (tgt : Int)) (k : Ev y tgt L st h n o) : Ev y pc L st h n o := by
  intro l p e s m args below meth c D cy A ad0 k0 J ad H locs ls hC hZ hW hl hL hs
  have hx := hC.2.1
  have hb := hC.2.2.1
  exact lv_goto hx hb d ht (k l p e s m args below meth c D cy A ad0 k0 J ad H locs ls hC hZ hW hl hL hs)
theorem Ev.if_eq {a off : Int} {tgt : Nat} (d : decode (zcode y) pc = .ok (.ifCond .eq off, 3)) (ht : (pc : Int) + off = (tgt : Int)) (kt : a = 0 → Ev y tgt L st h n o) (kf : ¬ a = 0 → Ev y (pc + 3) L st h n o) : Ev y pc L (zi a :: st) h n o := by
  intro l p e s m args below meth c D cy A ad0 k0 J ad H locs ls hC hZ hW hl hL hs
  have hx := hC.2.1
  have hb := hC.2.2.1
  have ga := (zst_hd hs).1
  exact lv_if_eq hx hb d ht (fun hc => (kt ((zI_eq ga zin0).mp hc) l p e s m args below meth c D cy A ad0 k0 J ad H locs ls hC hZ hW hl hL (zst_tl hs))) (fun hc => (kf (fun q => hc ((zI_eq ga zin0).mpr q)) l p e s m args below meth c D cy A ad0 k0 J ad H locs ls hC hZ hW hl hL (zst_tl hs)))
theorem Ev.if_ne {a off : Int} {tgt : Nat} (d : decode (zcode y) pc = .ok (.ifCond .ne off, 3)) (ht : (pc : Int) + off = (tgt : Int)) (kt : ¬ a = 0 → Ev y tgt L st h n o) (kf : a = 0 → Ev y (pc + 3) L st h n o) : Ev y pc L (zi a :: st) h n o := by
  intro l p e s m args below meth c D cy A ad0 k0 J ad H locs ls hC hZ hW hl hL hs
  have hx := hC.2.1
  have hb := hC.2.2.1
  have ga := (zst_hd hs).1
  exact lv_if_ne hx hb d ht (fun hc => (kt (fun q => hc ((zI_eq ga zin0).mpr q)) l p e s m args below meth c D cy A ad0 k0 J ad H locs ls hC hZ hW hl hL (zst_tl hs))) (fun hc => (kf ((zI_eq ga zin0).mp hc) l p e s m args below meth c D cy A ad0 k0 J ad H locs ls hC hZ hW hl hL (zst_tl hs)))
theorem Ev.if_lt {a off : Int} {tgt : Nat} (d : decode (zcode y) pc = .ok (.ifCond .lt off, 3)) (ht : (pc : Int) + off = (tgt : Int)) (kt : a < 0 → Ev y tgt L st h n o) (kf : ¬ a < 0 → Ev y (pc + 3) L st h n o) : Ev y pc L (zi a :: st) h n o := by
  intro l p e s m args below meth c D cy A ad0 k0 J ad H locs ls hC hZ hW hl hL hs
  have hx := hC.2.1
  have hb := hC.2.2.1
  have ga := (zst_hd hs).1
  exact lv_if_lt hx hb d ht (fun hc => (kt ((zI_lt ga zin0).mp hc) l p e s m args below meth c D cy A ad0 k0 J ad H locs ls hC hZ hW hl hL (zst_tl hs))) (fun hc => (kf (fun q => hc ((zI_lt ga zin0).mpr q)) l p e s m args below meth c D cy A ad0 k0 J ad H locs ls hC hZ hW hl hL (zst_tl hs)))
theorem Ev.if_ge {a off : Int} {tgt : Nat} (d : decode (zcode y) pc = .ok (.ifCond .ge off, 3)) (ht : (pc : Int) + off = (tgt : Int)) (kt : 0 ≤ a → Ev y tgt L st h n o) (kf : ¬ 0 ≤ a → Ev y (pc + 3) L st h n o) : Ev y pc L (zi a :: st) h n o := by
  intro l p e s m args below meth c D cy A ad0 k0 J ad H locs ls hC hZ hW hl hL hs
  have hx := hC.2.1
  have hb := hC.2.2.1
  have ga := (zst_hd hs).1
  exact lv_if_ge hx hb d ht (fun hc => (kt ((zI_le zin0 ga).mp hc) l p e s m args below meth c D cy A ad0 k0 J ad H locs ls hC hZ hW hl hL (zst_tl hs))) (fun hc => (kf (fun q => hc ((zI_le zin0 ga).mpr q)) l p e s m args below meth c D cy A ad0 k0 J ad H locs ls hC hZ hW hl hL (zst_tl hs)))
theorem Ev.if_gt {a off : Int} {tgt : Nat} (d : decode (zcode y) pc = .ok (.ifCond .gt off, 3)) (ht : (pc : Int) + off = (tgt : Int)) (kt : 0 < a → Ev y tgt L st h n o) (kf : ¬ 0 < a → Ev y (pc + 3) L st h n o) : Ev y pc L (zi a :: st) h n o := by
  intro l p e s m args below meth c D cy A ad0 k0 J ad H locs ls hC hZ hW hl hL hs
  have hx := hC.2.1
  have hb := hC.2.2.1
  have ga := (zst_hd hs).1
  exact lv_if_gt hx hb d ht (fun hc => (kt ((zI_lt zin0 ga).mp hc) l p e s m args below meth c D cy A ad0 k0 J ad H locs ls hC hZ hW hl hL (zst_tl hs))) (fun hc => (kf (fun q => hc ((zI_lt zin0 ga).mpr q)) l p e s m args below meth c D cy A ad0 k0 J ad H locs ls hC hZ hW hl hL (zst_tl hs)))
theorem Ev.if_le {a off : Int} {tgt : Nat} (d : decode (zcode y) pc = .ok (.ifCond .le off, 3)) (ht : (pc : Int) + off = (tgt : Int)) (kt : a ≤ 0 → Ev y tgt L st h n o) (kf : ¬ a ≤ 0 → Ev y (pc + 3) L st h n o) : Ev y pc L (zi a :: st) h n o := by
  intro l p e s m args below meth c D cy A ad0 k0 J ad H locs ls hC hZ hW hl hL hs
  have hx := hC.2.1
  have hb := hC.2.2.1
  have ga := (zst_hd hs).1
  exact lv_if_le hx hb d ht (fun hc => (kt ((zI_le ga zin0).mp hc) l p e s m args below meth c D cy A ad0 k0 J ad H locs ls hC hZ hW hl hL (zst_tl hs))) (fun hc => (kf (fun q => hc ((zI_le ga zin0).mpr q)) l p e s m args below meth c D cy A ad0 k0 J ad H locs ls hC hZ hW hl hL (zst_tl hs)))
theorem Ev.icmp_eq {a b off : Int} {tgt : Nat} (d : decode (zcode y) pc = .ok (.if_icmp .eq off, 3)) (ht : (pc : Int) + off = (tgt : Int)) (kt : a = b → Ev y tgt L st h n o) (kf : ¬ a = b → Ev y (pc + 3) L st h n o) : Ev y pc L (zi b :: zi a :: st) h n o := by
  intro l p e s m args below meth c D cy A ad0 k0 J ad H locs ls hC hZ hW hl hL hs
  have hx := hC.2.1
  have hb := hC.2.2.1
  have ga := (zst_hd (zst_tl hs)).1
  have gb := (zst_hd hs).1
  exact lv_icmp_eq hx hb d ht (fun hc => (kt ((zI_eq ga gb).mp hc) l p e s m args below meth c D cy A ad0 k0 J ad H locs ls hC hZ hW hl hL (zst_tl (zst_tl hs)))) (fun hc => (kf (fun q => hc ((zI_eq ga gb).mpr q)) l p e s m args below meth c D cy A ad0 k0 J ad H locs ls hC hZ hW hl hL (zst_tl (zst_tl hs))))
theorem Ev.icmp_ne {a b off : Int} {tgt : Nat} (d : decode (zcode y) pc = .ok (.if_icmp .ne off, 3)) (ht : (pc : Int) + off = (tgt : Int)) (kt : ¬ a = b → Ev y tgt L st h n o) (kf : a = b → Ev y (pc + 3) L st h n o) : Ev y pc L (zi b :: zi a :: st) h n o := by
  intro l p e s m args below meth c D cy A ad0 k0 J ad H locs ls hC hZ hW hl hL hs
  have hx := hC.2.1
  have hb := hC.2.2.1
  have ga := (zst_hd (zst_tl hs)).1
  have gb := (zst_hd hs).1
  exact lv_icmp_ne hx hb d ht (fun hc => (kt (fun q => hc ((zI_eq ga gb).mpr q)) l p e s m args below meth c D cy A ad0 k0 J ad H locs ls hC hZ hW hl hL (zst_tl (zst_tl hs)))) (fun hc => (kf ((zI_eq ga gb).mp hc) l p e s m args below meth c D cy A ad0 k0 J ad H locs ls hC hZ hW hl hL (zst_tl (zst_tl hs))))
theorem Ev.icmp_lt {a b off : Int} {tgt : Nat} (d : decode (zcode y) pc = .ok (.if_icmp .lt off, 3)) (ht : (pc : Int) + off = (tgt : Int)) (kt : a < b → Ev y tgt L st h n o) (kf : ¬ a < b → Ev y (pc + 3) L st h n o) : Ev y pc L (zi b :: zi a :: st) h n o := by
  intro l p e s m args below meth c D cy A ad0 k0 J ad H locs ls hC hZ hW hl hL hs
  have hx := hC.2.1
  have hb := hC.2.2.1
  have ga := (zst_hd (zst_tl hs)).1
  have gb := (zst_hd hs).1
  exact lv_icmp_lt hx hb d ht (fun hc => (kt ((zI_lt ga gb).mp hc) l p e s m args below meth c D cy A ad0 k0 J ad H locs ls hC hZ hW hl hL (zst_tl (zst_tl hs)))) (fun hc => (kf (fun q => hc ((zI_lt ga gb).mpr q)) l p e s m args below meth c D cy A ad0 k0 J ad H locs ls hC hZ hW hl hL (zst_tl (zst_tl hs))))
theorem Ev.icmp_ge {a b off : Int} {tgt : Nat} (d : decode (zcode y) pc = .ok (.if_icmp .ge off, 3)) (ht : (pc : Int) + off = (tgt : Int)) (kt : b ≤ a → Ev y tgt L st h n o) (kf : ¬ b ≤ a → Ev y (pc + 3) L st h n o) : Ev y pc L (zi b :: zi a :: st) h n o := by
  intro l p e s m args below meth c D cy A ad0 k0 J ad H locs ls hC hZ hW hl hL hs
  have hx := hC.2.1
  have hb := hC.2.2.1
  have ga := (zst_hd (zst_tl hs)).1
  have gb := (zst_hd hs).1
  exact lv_icmp_ge hx hb d ht (fun hc => (kt ((zI_le gb ga).mp hc) l p e s m args below meth c D cy A ad0 k0 J ad H locs ls hC hZ hW hl hL (zst_tl (zst_tl hs)))) (fun hc => (kf (fun q => hc ((zI_le gb ga).mpr q)) l p e s m args below meth c D cy A ad0 k0 J ad H locs ls hC hZ hW hl hL (zst_tl (zst_tl hs))))
theorem Ev.icmp_gt {a b off : Int} {tgt : Nat} (d : decode (zcode y) pc = .ok (.if_icmp .gt off, 3)) (ht : (pc : Int) + off = (tgt : Int)) (kt : b < a → Ev y tgt L st h n o) (kf : ¬ b < a → Ev y (pc + 3) L st h n o) : Ev y pc L (zi b :: zi a :: st) h n o := by
  intro l p e s m args below meth c D cy A ad0 k0 J ad H locs ls hC hZ hW hl hL hs
  have hx := hC.2.1
  have hb := hC.2.2.1
  have ga := (zst_hd (zst_tl hs)).1
  have gb := (zst_hd hs).1
  exact lv_icmp_gt hx hb d ht (fun hc => (kt ((zI_lt gb ga).mp hc) l p e s m args below meth c D cy A ad0 k0 J ad H locs ls hC hZ hW hl hL (zst_tl (zst_tl hs)))) (fun hc => (kf (fun q => hc ((zI_lt gb ga).mpr q)) l p e s m args below meth c D cy A ad0 k0 J ad H locs ls hC hZ hW hl hL (zst_tl (zst_tl hs))))
theorem Ev.icmp_le {a b off : Int} {tgt : Nat} (d : decode (zcode y) pc = .ok (.if_icmp .le off, 3)) (ht : (pc : Int) + off = (tgt : Int)) (kt : a ≤ b → Ev y tgt L st h n o) (kf : ¬ a ≤ b → Ev y (pc + 3) L st h n o) : Ev y pc L (zi b :: zi a :: st) h n o := by
  intro l p e s m args below meth c D cy A ad0 k0 J ad H locs ls hC hZ hW hl hL hs
  have hx := hC.2.1
  have hb := hC.2.2.1
  have ga := (zst_hd (zst_tl hs)).1
  have gb := (zst_hd hs).1
  exact lv_icmp_le hx hb d ht (fun hc => (kt ((zI_le ga gb).mp hc) l p e s m args below meth c D cy A ad0 k0 J ad H locs ls hC hZ hW hl hL (zst_tl (zst_tl hs)))) (fun hc => (kf (fun q => hc ((zI_le ga gb).mpr q)) l p e s m args below meth c D cy A ad0 k0 J ad H locs ls hC hZ hW hl hL (zst_tl (zst_tl hs))))
theorem Ev.ifnull {r : Option Nat} {off : Int} {tgt : Nat} (d : decode (zcode y) pc = .ok (.ifnull off, 3)) (ht : (pc : Int) + off = (tgt : Int)) (kt : r = none → Ev y tgt L st h n o) (kf : ∀ x, r = some x → Ev y (pc + 3) L st h n o) : Ev y pc L (zr r :: st) h n o := by
  intro l p e s m args below meth c D cy A ad0 k0 J ad H locs ls hC hZ hW hl hL hs
  have hx := hC.2.1
  have hb := hC.2.2.1
  cases r with
  | none => exact lv_ifnullN hx hb d ht (kt rfl l p e s m args below meth c D cy A ad0 k0 J ad H locs ls hC hZ hW hl hL (zst_tl hs))
  | some x => exact lv_ifnull hx hb d (kf x rfl l p e s m args below meth c D cy A ad0 k0 J ad H locs ls hC hZ hW hl hL (zst_tl hs))
theorem Ev.ifnonnull {r : Option Nat} {off : Int} {tgt : Nat} (d : decode (zcode y) pc = .ok (.ifnonnull off, 3)) (ht : (pc : Int) + off = (tgt : Int)) (kt : ∀ x, r = some x → Ev y tgt L st h n o) (kf : r = none → Ev y (pc + 3) L st h n o) : Ev y pc L (zr r :: st) h n o := by
  intro l p e s m args below meth c D cy A ad0 k0 J ad H locs ls hC hZ hW hl hL hs
  have hx := hC.2.1
  have hb := hC.2.2.1
  cases r with
  | none => exact lv_ifnonnullN hx hb d (kf rfl l p e s m args below meth c D cy A ad0 k0 J ad H locs ls hC hZ hW hl hL (zst_tl hs))
  | some x => exact lv_ifnonnull hx hb d ht (kt x rfl l p e s m args below meth c D cy A ad0 k0 J ad H locs ls hC hZ hW hl hL (zst_tl hs))
theorem Ev.tableIn {dflt lo hi : Int} {offs : Array Int} {len : Nat} {a off : Int} {tgt : Nat} (d : decode (zcode y) pc = .ok (.tableswitch dflt lo hi offs, len)) (h1 : lo ≤ a) (h2 : a ≤ hi) (ho : offs[(a - lo).toNat]? = some off) (ht : (pc : Int) + off = (tgt : Int)) (k : Ev y tgt L st h n o) : Ev y pc L (zi a :: st) h n o := by
  intro l p e s m args below meth c D cy A ad0 k0 J ad H locs ls hC hZ hW hl hL hs
  have hx := hC.2.1
  have hb := hC.2.2.1
  have ga := (zst_hd hs).1
  exact lv_tableIn hx hb d (by rw [zI_toInt ga]; omega) (by rw [zI_toInt ga]; omega) (by rw [zI_toInt ga]; exact ho) ht (k l p e s m args below meth c D cy A ad0 k0 J ad H locs ls hC hZ hW hl hL (zst_tl hs))
theorem Ev.tableOut {dflt lo hi : Int} {offs : Array Int} {len : Nat} {a : Int} {tgt : Nat} (d : decode (zcode y) pc = .ok (.tableswitch dflt lo hi offs, len)) (h1 : a < lo ∨ hi < a) (ht : (pc : Int) + dflt = (tgt : Int)) (k : Ev y tgt L st h n o) : Ev y pc L (zi a :: st) h n o := by
  intro l p e s m args below meth c D cy A ad0 k0 J ad H locs ls hC hZ hW hl hL hs
  have hx := hC.2.1
  have hb := hC.2.2.1
  have ga := (zst_hd hs).1
  exact lv_tableOut hx hb d (by rw [zI_toInt ga]; exact h1) ht (k l p e s m args below meth c D cy A ad0 k0 J ad H locs ls hC hZ hW hl hL (zst_tl hs))

end ZR
