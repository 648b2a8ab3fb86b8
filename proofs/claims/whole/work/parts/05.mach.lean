/-! ===== abstract values, worlds and methods ===== -/
abbrev zV : Type := Int ⊕ (Int ⊕ Option Nat)
abbrev zi (x : Int) : zV := Sum.inl x
abbrev zl (x : Int) : zV := Sum.inr (Sum.inl x)
abbrev zr (x : Option Nat) : zV := Sum.inr (Sum.inr x)
def zc (ad : Nat → Nat) (v : zV) : Value := match v with
  | .inl x => .int (Int32.ofInt x)
  | .inr (.inl x) => .long (Int64.ofInt x)
  | .inr (.inr r) => va_rf (r.map ad)
def zin (x : Int) : Prop := -2147483648 ≤ x ∧ x ≤ 2147483647
def zinL (x : Int) : Prop := -9223372036854775808 ≤ x ∧ x ≤ 9223372036854775807
def zok (v : zV) : Prop := match v with
  | .inl x => zin x
  | .inr (.inl x) => zinL x
  | .inr (.inr _) => True
def zcat (v : zV) : Nat := match v with
  | .inl _ => 1
  | .inr (.inl _) => 2
  | .inr (.inr _) => 1
theorem zc_cat (ad : Nat → Nat) (v : zV) : (zc ad v).category = zcat v := by
  rcases v with x | x | r
  · rfl
  · rfl
  · cases r <;> rfl
/-- the heap: kinds (class 0-4, arrays: 5 int, 6 boolean, 7 Node, 8 Tree, 9 long; with the length), whole numbers, references -/
abbrev zH : Type := List (Nat × Nat) × ((Nat → Int → Int) × (Nat → Int → Option Nat))
def zNf (c : Nat) : Nat := match c with
  | 0 => 5
  | 1 => 15
  | 2 => 5
  | 3 => 4
  | _ => 15
def zRf (c k : Nat) : Bool := match c with
  | 0 => k == 0 || k == 2
  | 1 => k == 6 || k == 7 || k == 14
  | 2 => k == 0 || k == 1
  | 3 => k == 0 || k == 1 || k == 3
  | _ => !(k == 1 || k == 2 || k == 4 || k == 11 || k == 12)
def zfl (ad : Nat → Nat) (c : Nat) (I : Int → Int) (R : Int → Option Nat) : List Value :=
  (List.range (zNf c)).map fun k => if zRf c k = true then va_rf ((R (k : Nat)).map ad) else .int (Int32.ofInt (I (k : Nat)))
def zE (cy : Nat → ClassId) (ad : Nat → Nat) (kd : Nat × Nat) (I : Int → Int) (R : Int → Option Nat) : va_E :=
  if kd.1 = 5 then .inl (cy 5, kd.2, .inl fun j => Int32.ofInt (I (j : Nat)))
  else if kd.1 = 6 then .inl (cy 6, kd.2, .inl fun j => Int32.ofInt (I (j : Nat)))
  else if kd.1 = 7 then .inl (cy 7, kd.2, .inr (.inr (.inr (.inr fun j => (R (j : Nat)).map ad))))
  else if kd.1 = 8 then .inl (cy 8, kd.2, .inr (.inr (.inr (.inr fun j => (R (j : Nat)).map ad))))
  else if kd.1 = 9 then .inl (cy 9, kd.2, .inr (.inl fun j => Int64.ofInt (I (j : Nat))))
  else .inr (kd.1, zfl ad kd.1 I R)
def zws (cy : Nat → ClassId) (ad : Nat → Nat) (h : zH) : va_W := (List.range h.1.length).map fun i => (ad i, zE cy ad (h.1.getD i (0, 0)) (h.2.1 i) (h.2.2 i))
theorem zws_get {cy : Nat → ClassId} {ad : Nat → Nat} {h : zH} {i : Nat} {kd : Nat × Nat} (hk : h.1[i]? = some kd) : (zws cy ad h)[i]? = some (ad i, zE cy ad kd (h.2.1 i) (h.2.2 i)) := by
  obtain ⟨hl, he⟩ := List.getElem?_eq_some_iff.mp hk
  simp [zws, hl, he]
theorem zws_len {cy : Nat → ClassId} {ad : Nat → Nat} {h : zH} : (zws cy ad h).length = h.1.length := by simp [zws]
theorem zws_inv {cy : Nat → ClassId} {ad : Nat → Nat} {h : zH} {i : Nat} {q : Nat × va_E} (hk : (zws cy ad h)[i]? = some q) : i < h.1.length ∧ q = (ad i, zE cy ad (h.1.getD i (0, 0)) (h.2.1 i) (h.2.2 i)) := by
  simp only [zws, List.getElem?_map] at hk
  cases hr : (List.range h.1.length)[i]? with
  | none => rw [hr] at hk; simp at hk
  | some j =>
    rw [hr] at hk
    obtain ⟨hl, he⟩ := List.getElem?_eq_some_iff.mp hr
    simp at hl he hk
    subst he
    exact ⟨hl, hk.symm⟩
def zup {α : Type} (f : Nat → Int → α) (o : Nat) (k : Int) (v : α) : Nat → Int → α := fun o' k' => if o' = o ∧ k' = k then v else f o' k'
theorem zup_s {α : Type} (f : Nat → Int → α) (o : Nat) (k : Int) (v : α) : zup f o k v o k = v := by simp [zup]
theorem zup_o {α : Type} (f : Nat → Int → α) {o o' : Nat} (k k' : Int) (v : α) (h : o' ≠ o) : zup f o k v o' k' = f o' k' := by simp [zup, h]
theorem zup_k {α : Type} (f : Nat → Int → α) (o o' : Nat) {k k' : Int} (v : α) (h : k' ≠ k) : zup f o k v o' k' = f o' k' := by simp [zup, h]
theorem zws_set {cy : Nat → ClassId} {ad : Nat → Nat} {K : List (Nat × Nat)} {I I' : Nat → Int → Int} {R R' : Nat → Int → Option Nat} {o : Nat} {kd : Nat × Nat} (hk : K[o]? = some kd) (hI : ∀ i, i ≠ o → I' i = I i) (hR : ∀ i, i ≠ o → R' i = R i) :
    zws cy ad (K, I', R') = (zws cy ad (K, I, R)).set o (ad o, zE cy ad kd (I' o) (R' o)) := by
  obtain ⟨hl, he⟩ := List.getElem?_eq_some_iff.mp hk
  refine List.ext_getElem? fun i => ?_
  by_cases hi : i = o
  · subst hi
    rw [zws_get (h := (K, I', R')) hk, List.getElem?_set_self (by rw [zws_len]; exact hl)]
  · rw [List.getElem?_set_ne (fun h => hi h.symm)]
    by_cases h2 : i < K.length
    · rw [zws_get (h := (K, I', R')) (List.getElem?_eq_getElem h2), zws_get (h := (K, I, R)) (List.getElem?_eq_getElem h2)]
      simp only [hI i hi, hR i hi]
    · rw [List.getElem?_eq_none (by rw [zws_len]; exact Nat.le_of_not_lt h2), List.getElem?_eq_none (by rw [zws_len]; exact Nat.le_of_not_lt h2)]
/-- a method: name, code, its locals, what it returns, its handlers, its room -/
abbrev zM : Type := MethodName × ByteArray × Nat × Option FieldType × List (Nat × Nat × Nat × Nat) × Room
abbrev zname (y : zM) : MethodName := y.1
abbrev zcode (y : zM) : ByteArray := y.2.1
abbrev zmax (y : zM) : Nat := y.2.2.1
abbrev zret (y : zM) : Option FieldType := y.2.2.2.1
abbrev zhh (y : zM) : List (Nat × Nat × Nat × Nat) := y.2.2.2.2.1
abbrev zroom (y : zM) : Room := y.2.2.2.2.2
def zgw : List Cond := lw_tbl.filter goodWord
theorem zgw_in {w : Cond} (h : w ∈ lw_tbl) (g : goodWord w = true) : w ∈ zgw := List.mem_filter.mpr ⟨h, g⟩
def zword (y : zM) : Cond := match zhh y with
  | [] => .code (zname y) (zcode y) (zmax y) (zret y)
  | hh => .codeWith (zname y) (zcode y) (zmax y) (zret y) hh
def zwsM (y : zM) : List Cond := zword y :: zgw
def zTy (cy : Nat → ClassId) : List (ClassId × FieldType) := [(cy 5, .int), (cy 6, .boolean), (cy 7, .object "SlackRows$Node"), (cy 8, .object "SlackRows$Tree"), (cy 9, .long)]
abbrev zO : Type := (Option zV ⊕ Nat) × zH
def zEx (k : Nat) : String := match k with
  | 0 => "java/lang/IndexOutOfBoundsException"
  | 1 => "java/lang/IllegalArgumentException"
  | _ => "java/lang/IllegalStateException"
/-- the cells of a world, at a state and its heap -/
def zWh (D : va_G) (cy : Nat → ClassId) (ad : Nat → Nat) (A : Nat → Prop) (h : zH) (U : State) (H : Heap) : Prop :=
  va_P D vwCl (zws cy ad h) H ∧ va_D A (zws cy ad h) ∧ va_K D vwCl (zTy cy) U ∧ h.1.length ≤ 4096 ∧ ∀ o k, zin (h.2.1 o k)
def zNestM : List (String × Nat × MethodName × String) := [("SlackRows", 9, yX2_init, "SlackRows"), ("SlackRows$Tree", 30, yX3_init, "SlackRows"), ("SlackRows$CommandText", 58, yX6_isBetween, "SlackRows"), ("SlackRows$Tree", 113, yX6_isBetween, "SlackRows"), ("SlackRows$Tree", 266, yX6_mix, "SlackRows")]
def zMsg : List (Nat × String) := [(172, "there is no such node"), (181, "a number is out of range"), (206, "the tree does not allow this"), (190, "the node is no group"), (184, "a number is negative"), (192, "the node is no task"), (130, "the command text is full"), (147, "the undo stack is empty")]
def zCmd : List String := ["GROUP", "TASK", "LAST", "BORROW", "BACK", "MOVE", "DROP", "UNTIL"]
def zRef : List String := ["NOT", "NO_NODE", "OUT_OF_RANGE", "IMPOSSIBLE"]
def zNumC : List Int := [2, 3, 2, 2, 2, 3, 1, 1]
def zSw : List Int := [1, 2, 4, 5, 6, 3, 7, 0]
def zWlen : List Nat := [5, 4, 4, 6, 4, 4, 4, 5]
def zWbyt : List (List Int32) := [[103, 114, 111, 117, 112], [116, 97, 115, 107], [108, 97, 115, 116], [98, 111, 114, 114, 111, 119], [98, 97, 99, 107], [109, 111, 118, 101], [100, 114, 111, 112], [117, 110, 116, 105, 108]]
/-- what stands outside the worlds and is never written; objects by numbers from 4096 on -/
def zSt (ad : Nat → Nat) (J : Nat → Int → Int) (A : Nat → Prop) (U : State) (H : Heap) : Prop :=
  (∀ q ∈ zNestM, va_Nw (.methodLinkNest q.1 q.2.1 q.2.2.1 q.2.2.2) U) ∧
  va_Nw (.fieldLinkNest "SlackRows$CommandText" 65 "SlackRows" "COMMANDS" "[LSlackRows$Command;" "SlackRows") U ∧
  (∀ k, k < 3 → va_Nw (.castable (zEx k) (zEx k)) U) ∧
  (∀ j k, j < 3 → k < 3 → j ≠ k → va_Nc (zEx j) (zEx k) U) ∧
  (va_AO "SlackRows$Tree" U ∧ va_AO "SlackRows$Node" U) ∧
  va_En "SlackRows$Command" "LSlackRows$Command;" zCmd [("java/lang/Enum", "ordinal", "I", [0, 1, 2, 3, 4, 5, 6, 7]), ("SlackRows$Command", "numberCount", "I", [2, 3, 2, 2, 2, 3, 1, 1])] (fun i => ad (4096 + i)) A U H ∧
  va_En "SlackRows$Refusal" "LSlackRows$Refusal;" zRef [] (fun i => ad (4104 + i)) A U H ∧
  (va_Z "SlackRows" "COMMANDS" "[LSlackRows$Command;" (.ref (ad 4108)) A U H ∧ va_T (.object "SlackRows$Command") (ad 4108) 8 (fun j => .ref (ad (4096 + j))) A U H) ∧
  (va_Z "SlackRows$1" "$SwitchMap$SlackRows$Command" "[I" (.ref (ad 4109)) A U H ∧ va_T .int (ad 4109) 8 (fun j => .int (Int32.ofInt (zSw.getD j 0))) A U H) ∧
  va_Ef 8 "SlackRows$Command" "word" "Ljava/lang/String;" (fun i => .ref (ad (4110 + i))) (fun i => ad (4096 + i)) A U H ∧
  vk_S 8 zWlen zWbyt (fun i => ad (4110 + i)) (fun i => ad (4120 + i)) A U H ∧
  va_Z "java/lang/String" "COMPACT_STRINGS" "Z" (.int 1) A U H ∧
  (vx_Zq Bundle.tN "UNASSIGNED_STACK" Bundle.steD A U H ∧ vx_Zq Bundle.tN "SUPPRESSED_SENTINEL" Bundle.listD A U H) ∧
  (∀ q ∈ zMsg, ∃ a, vk_R "SlackRows" q.1 q.2 a U) ∧
  ((J 4131 0).toNat < 2147483648 ∧ va_T .int (ad 4130) (J 4131 0).toNat (fun j => .int (Int32.ofInt (J 4130 (j : Nat)))) A U H)
theorem zSt.to {ad ad' : Nat → Nat} {J : Nat → Int → Int} {A A' : Nat → Prop} {s U : State} {H : Heap} (h : zSt ad J A s s.heap) (had : ∀ i, 4096 ≤ i → ad' i = ad i) (hW : s.WarmedH U.vm) (hq : ∀ a : Nat, a < s.heap.size → ¬ A a → H[a]? = s.heap[a]?) (hA : ∀ q, A' q → A q) : zSt ad' J A' U H := by
  have hvm : s.vm.Alike U.vm := hW.alike
  obtain ⟨h1, h2, h3, h4, ⟨h5, h5'⟩, h6, h7, ⟨h8, h8'⟩, ⟨h9, h9'⟩, h10, h11, h12, ⟨h13, h13'⟩, h14, h15, h15'⟩ := h
  have e1 : (fun i => ad' (4096 + i)) = fun i => ad (4096 + i) := funext fun i => had _ (by omega)
  have e2 : (fun i => ad' (4104 + i)) = fun i => ad (4104 + i) := funext fun i => had _ (by omega)
  have e3 : (fun i => ad' (4110 + i)) = fun i => ad (4110 + i) := funext fun i => had _ (by omega)
  have e4 : (fun i => ad' (4120 + i)) = fun i => ad (4120 + i) := funext fun i => had _ (by omega)
  have e5 : (fun i => Value.ref (ad' (4110 + i))) = fun i => Value.ref (ad (4110 + i)) := funext fun i => by rw [had _ (by omega)]
  have e6 : (fun i => Value.ref (ad' (4096 + i))) = fun i => Value.ref (ad (4096 + i)) := funext fun i => by rw [had _ (by omega)]
  unfold zSt
  rw [e1, e2, e3, e4, e5, e6, had 4108 (by omega), had 4109 (by omega), had 4130 (by omega)]
  refine ⟨fun q hq1 => (h1 q hq1).warmM hW, h2.warmF hW, fun k hk => (h3 k hk).warmC hW, fun j k hj hk hjk => (h4 j k hj hk hjk).moved hvm, ⟨h5.moved hvm, h5'.moved hvm⟩, ((h6.kept hq).narrow hA).moved hvm, ((h7.kept hq).narrow hA).moved hvm, ⟨((h8.kept hq).narrow hA).moved hvm, ((h8'.kept hq).narrow hA).moved hvm⟩, ⟨((h9.kept hq).narrow hA).moved hvm, ((h9'.kept hq).narrow hA).moved hvm⟩, ((h10.kept hq).narrow hA).moved hvm, ((h11.kept hq).narrow hA).moved hvm, ((h12.kept hq).narrow hA).moved hvm, ⟨((h13.kept hq).narrow hA).moved hvm, ((h13'.kept hq).narrow hA).moved hvm⟩, fun q hq1 => ?_, h15, ((h15'.kept hq).narrow hA).moved hvm⟩
  obtain ⟨a, ha⟩ := h14 q hq1
  exact ⟨a, ha.warm hW⟩
/-! ===== a method's walk, in these words ===== -/
def zCx (l : Launch) (p : Program) (y : zM) (s : State) (m : MethodId) (args : Array Value) (meth : Method) (c : Code) (A : Nat → Prop) : Prop :=
  l.stackTraces = false ∧ p.tables.exec = Jvm.exec ∧ c.code = zcode y ∧ c.maxLocals = zmax y ∧ meth.sig.returnType = zret y ∧ s.vm.findClass (zname y).cls = some m.cls ∧ (∀ w ∈ zgw, w.before args s = true) ∧ meth.locks = false ∧ c.exceptionTable.toList = tableOf (zhh y) ∧ meth.name = (zname y).name ∧ ∀ q, s.heap.size ≤ q → A q
/-- references lead to what is there -/
def zvd (K : Nat) (v : zV) : Prop := match v with
  | .inl _ => True
  | .inr (.inl _) => True
  | .inr (.inr r) => ∀ x, r = some x → x < K ∨ 4096 ≤ x
def zgo (K : Nat) (v : zV) : Prop := zok v ∧ zvd K v
def zhvd (h : zH) : Prop := ∀ o k x, h.2.2 o k = some x → x < h.1.length ∨ 4096 ≤ x
def zWl (D : va_G) (cy : Nat → ClassId) (A : Nat → Prop) (ad0 : Nat → Nat) (k0 : Nat) (J : Nat → Int → Int) (ad : Nat → Nat) (h : zH) (s : State) (H : Heap) (locs : List Loc) : Prop :=
  zWh D cy ad A h s H ∧ va_S A s.heap H locs ∧ (∀ i, i < k0 ∨ 4096 ≤ i → ad i = ad0 i) ∧ k0 ≤ h.1.length ∧ (∀ i, 4096 ≤ i → h.2.1 i = J i) ∧ zhvd h
def zEnd (D : va_G) (cy : Nat → ClassId) (A : Nat → Prop) (ad0 : Nat → Nat) (k0 : Nat) (J : Nat → Int → Int) (h : zH) (ad' : Nat → Nat) (st t : State) : Prop :=
  (∀ i, i < k0 ∨ 4096 ≤ i → ad' i = ad0 i) ∧ zWh D cy ad' A h t t.heap ∧ k0 ≤ h.1.length ∧ (∀ i, 4096 ≤ i → h.2.1 i = J i) ∧ zhvd h ∧ va_F A st t
def zQc (D : va_G) (cy : Nat → ClassId) (A : Nat → Prop) (ad0 : Nat → Nat) (k0 : Nat) (J : Nat → Int → Int) (o : zO) : Array Value → State → Outcome → State → Prop := fun _ st oc t =>
  ∃ (v : Option zV) (ad' : Nat → Nat), o.1 = .inl v ∧ oc = .returned (v.map (zc ad')) ∧ (∀ w, v = some w → zgo o.2.1.length w) ∧ zEnd D cy A ad0 k0 J o.2 ad' st t
def zXC (D : va_G) (cy : Nat → ClassId) (A : Nat → Prop) (ad0 : Nat → Nat) (k0 : Nat) (J : Nat → Int → Int) (o : zO) : String → State → State → Prop := fun E st t =>
  ∃ (k : Nat) (ad' : Nat → Nat), o.1 = .inr k ∧ k < 3 ∧ E = zEx k ∧ zEnd D cy A ad0 k0 J o.2 ad' st t
def zQ (below : List Frame) (args : Array Value) (s : State) (y : zM) (D : va_G) (cy : Nat → ClassId) (A : Nat → Prop) (ad0 : Nat → Nat) (k0 : Nat) (J : Nat → Int → Int) (o : zO) : State → Prop :=
  vx_MQ below (zQc D cy A ad0 k0 J o) (zXC D cy A ad0 k0 J o) args s (zroom y).cells (zroom y).slots A
abbrev zLs (ad : Nat → Nat) (L : List (Nat × zV)) : List (Nat × Value) := L.map fun q => (q.1, zc ad q.2)
/-- from here, with these locals, this stack, this heap and so much room used, the method comes to the outcome o -/
def Ev (y : zM) (pc : Nat) (L : List (Nat × zV)) (stk : List zV) (h : zH) (n : Nat × Nat) (o : zO) : Prop :=
  ∀ (l : Launch) (p : Program) (e : Env) (s : State) (m : MethodId) (args : Array Value) (below : List Frame) (meth : Method) (c : Code) (D : va_G) (cy : Nat → ClassId) (A : Nat → Prop) (ad0 : Nat → Nat) (k0 : Nat) (J : Nat → Int → Int) (ad : Nat → Nat) (H : Heap) (locs : List Loc) (ls : Array Slot),
    zCx l p y s m args meth c A → zSt ad0 J A s s.heap → zWl D cy A ad0 k0 J ad h s H locs → lv_has ls (zmax y) (zLs ad L) → (∀ q ∈ L, zgo h.1.length q.2) → (∀ v ∈ stk, zgo h.1.length v) →
    W p l e (zroom y) s m args below meth c H locs n.1 n.2 (zQ below args s y D cy A ad0 k0 J o) (F0 m pc ls (stk.map (zc ad)))
/-! whole numbers -/
theorem zI_toInt {x : Int} (h : zin x) : (Int32.ofInt x).toInt = x := by
  obtain ⟨h1, h2⟩ := h
  rw [Int32.toInt_ofInt]
  exact Int.bmod_eq_of_le (by omega) (by omega)
theorem zL_toInt {x : Int} (h : zinL x) : (Int64.ofInt x).toInt = x := by
  obtain ⟨h1, h2⟩ := h
  rw [Int64.toInt_ofInt]
  exact Int.bmod_eq_of_le (by omega) (by omega)
theorem zI_of (x : Int32) : Int32.ofInt x.toInt = x := Int32.ofInt_toInt x
theorem zI_in (x : Int32) : zin x.toInt := ⟨by have := x.le_toInt; omega, by have := x.toInt_lt; omega⟩
theorem zI_lt {x y : Int} (hx : zin x) (hy : zin y) : Int32.ofInt x < Int32.ofInt y ↔ x < y := by rw [Int32.lt_iff_toInt_lt, zI_toInt hx, zI_toInt hy]
theorem zI_le {x y : Int} (hx : zin x) (hy : zin y) : Int32.ofInt x ≤ Int32.ofInt y ↔ x ≤ y := by rw [Int32.le_iff_toInt_le, zI_toInt hx, zI_toInt hy]
theorem zI_eq {x y : Int} (hx : zin x) (hy : zin y) : Int32.ofInt x = Int32.ofInt y ↔ x = y := by rw [← Int32.toInt_inj, zI_toInt hx, zI_toInt hy]
theorem zI_0 : (0 : Int32) = Int32.ofInt 0 := rfl
theorem zin0 : zin 0 := ⟨by omega, by omega⟩
theorem zI_nat {x : Int} (h : zin x) (h0 : 0 ≤ x) : (Int32.ofInt x).toNatClampNeg = x.toNat := by
  show (Int32.ofInt x).toInt.toNat = x.toNat
  rw [zI_toInt h]
theorem zI_vp {x : Int} {n : Nat} (h : zin x) (h0 : 0 ≤ x) (h1 : x < n) : vp_in (Int32.ofInt x) n := by
  unfold vp_in
  rw [zI_nat h h0, zI_0, zI_lt h zin0]
  omega
theorem zcast {x : Int} (h0 : 0 ≤ x) : ((x.toNat : Nat) : Int) = x := Int.toNat_of_nonneg h0
/-! locals -/
theorem zL_get {ad : Nat → Nat} {L : List (Nat × zV)} {ls : Array Slot} {nL k i : Nat} {v : zV} (h : lv_has ls nL (zLs ad L)) (hk : L[k]? = some (i, v)) : ls[i]? = some (.val (zc ad v)) :=
  h.2.2 (i, zc ad v) (List.mem_map.mpr ⟨(i, v), List.mem_of_getElem? hk, rfl⟩)
/-- what a store leaves: of category one, of category two -/
def zset (L : List (Nat × zV)) (i : Nat) (v : zV) : List (Nat × zV) := (i, v) :: L.filter (fun q => !(q.1 == i) && !(q.1 + 1 == i && zcat q.2 == 2))
def zsetL (L : List (Nat × zV)) (i : Nat) (v : zV) : List (Nat × zV) := (i, v) :: L.filter (fun q => !(q.1 == i) && (!(q.1 == i + 1) && !(q.1 + 1 == i && zcat q.2 == 2)))
theorem zset_ls (ad : Nat → Nat) (L : List (Nat × zV)) (i : Nat) (v : zV) : (i, zc ad v) :: (zLs ad L).filter (fun q => !(q.1 == i) && !(q.1 + 1 == i && q.2.category == 2)) = zLs ad (zset L i v) := by
  simp only [zset, zLs, List.map_cons, List.filter_map]
  congr 2
  refine List.filter_congr fun q _ => ?_
  simp [Function.comp, zc_cat]
theorem zsetL_ls (ad : Nat → Nat) (L : List (Nat × zV)) (i : Nat) (v : zV) : (i, zc ad v) :: (zLs ad L).filter (fun q => !(q.1 == i) && (!(q.1 == i + 1) && !(q.1 + 1 == i && q.2.category == 2))) = zLs ad (zsetL L i v) := by
  simp only [zsetL, zLs, List.map_cons, List.filter_map]
  congr 2
  refine List.filter_congr fun q _ => ?_
  simp [Function.comp, zc_cat]
theorem zset_go {K : Nat} {L : List (Nat × zV)} {i : Nat} {v : zV} (h : ∀ q ∈ L, zgo K q.2) (hv : zgo K v) : ∀ q ∈ zset L i v, zgo K q.2 := by
  intro q hq
  rcases List.mem_cons.mp hq with e | e
  · rw [e]; exact hv
  · exact h q (List.mem_filter.mp e).1
theorem zsetL_go {K : Nat} {L : List (Nat × zV)} {i : Nat} {v : zV} (h : ∀ q ∈ L, zgo K q.2) (hv : zgo K v) : ∀ q ∈ zsetL L i v, zgo K q.2 := by
  intro q hq
  rcases List.mem_cons.mp hq with e | e
  · rw [e]; exact hv
  · exact h q (List.mem_filter.mp e).1
theorem zst_go {K : Nat} {v : zV} {st : List zV} (h : ∀ w ∈ st, zgo K w) (hv : zgo K v) : ∀ w ∈ v :: st, zgo K w := by
  intro w hw
  rcases List.mem_cons.mp hw with e | e
  · rw [e]; exact hv
  · exact h w e
theorem zst_tl {K : Nat} {v : zV} {st : List zV} (h : ∀ w ∈ v :: st, zgo K w) : ∀ w ∈ st, zgo K w := fun w hw => h w (List.mem_cons_of_mem _ hw)
theorem zst_hd {K : Nat} {v : zV} {st : List zV} (h : ∀ w ∈ v :: st, zgo K w) : zgo K v := h v List.mem_cons_self
/-! fewer locals, in another order -/
theorem Ev.loc {y : zM} {pc : Nat} {L L' : List (Nat × zV)} {st : List zV} {h : zH} {n : Nat × Nat} {o : zO} (hs : ∀ q ∈ L', q ∈ L) (k : Ev y pc L' st h n o) : Ev y pc L st h n o := by
  intro l p e s m args below meth c D cy A ad0 k0 J ad H locs ls hC hZ hW hl hL hs2
  refine k l p e s m args below meth c D cy A ad0 k0 J ad H locs ls hC hZ hW ⟨hl.1, hl.2.1, ?_⟩ (fun q hq => hL q (hs q hq)) hs2
  intro q hq
  obtain ⟨r, hr, rfl⟩ := List.mem_map.mp hq
  exact hl.2.2 _ (List.mem_map.mpr ⟨r, hs r hr, rfl⟩)
/-- more room counted as used -/
theorem Ev.wide {y : zM} {pc : Nat} {L : List (Nat × zV)} {st : List zV} {h : zH} {n n' : Nat × Nat} {o : zO} (h1 : n.1 ≤ n'.1) (h2 : n.2 ≤ n'.2) (k : Ev y pc L st h n' o) : Ev y pc L st h n o := by
  intro l p e s m args below meth c D cy A ad0 k0 J ad H locs ls hC hZ hW hl hL hs
  exact W.widen h1 h2 (k l p e s m args below meth c D cy A ad0 k0 J ad H locs ls hC hZ hW hl hL hs)
theorem tst1 : ((vx_atS RX6 174 "java/lang/IndexOutOfBoundsException" ["java/lang/RuntimeException", "java/lang/Exception"]).filter (fun w => !goodWord w)) = [] := by decide +kernel
