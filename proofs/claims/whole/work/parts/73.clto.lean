/-! ===== what stands at the start, together ===== -/
theorem zg_6 : (Jvm.Cond.arrayOf (Jvm.Term.static "SlackRows" "COMMANDS" "[LSlackRows$Command;") (Jvm.ClassFile.FieldType.object "SlackRows$Command")) ∈ zgv := List.mem_of_getElem? (i := 6) (by decide +kernel)
theorem zg_7 : (Jvm.Cond.eq (Jvm.Term.length (Jvm.Term.static "SlackRows" "COMMANDS" "[LSlackRows$Command;")) (Jvm.Term.int (8 : Int32))) ∈ zgv := List.mem_of_getElem? (i := 7) (by decide +kernel)
theorem zg_9 : (Jvm.Cond.eq (Jvm.Term.elem (Jvm.Term.static "SlackRows" "COMMANDS" "[LSlackRows$Command;") (Jvm.Term.int (0 : Int32))) (Jvm.Term.static "SlackRows$Command" "GROUP" "LSlackRows$Command;")) ∈ zgv := List.mem_of_getElem? (i := 9) (by decide +kernel)
theorem zg_10 : (Jvm.Cond.eq (Jvm.Term.elem (Jvm.Term.static "SlackRows" "COMMANDS" "[LSlackRows$Command;") (Jvm.Term.int (1 : Int32))) (Jvm.Term.static "SlackRows$Command" "TASK" "LSlackRows$Command;")) ∈ zgv := List.mem_of_getElem? (i := 10) (by decide +kernel)
theorem zg_11 : (Jvm.Cond.eq (Jvm.Term.elem (Jvm.Term.static "SlackRows" "COMMANDS" "[LSlackRows$Command;") (Jvm.Term.int (2 : Int32))) (Jvm.Term.static "SlackRows$Command" "LAST" "LSlackRows$Command;")) ∈ zgv := List.mem_of_getElem? (i := 11) (by decide +kernel)
theorem zg_12 : (Jvm.Cond.eq (Jvm.Term.elem (Jvm.Term.static "SlackRows" "COMMANDS" "[LSlackRows$Command;") (Jvm.Term.int (3 : Int32))) (Jvm.Term.static "SlackRows$Command" "BORROW" "LSlackRows$Command;")) ∈ zgv := List.mem_of_getElem? (i := 12) (by decide +kernel)
theorem zg_13 : (Jvm.Cond.eq (Jvm.Term.elem (Jvm.Term.static "SlackRows" "COMMANDS" "[LSlackRows$Command;") (Jvm.Term.int (4 : Int32))) (Jvm.Term.static "SlackRows$Command" "BACK" "LSlackRows$Command;")) ∈ zgv := List.mem_of_getElem? (i := 13) (by decide +kernel)
theorem zg_14 : (Jvm.Cond.eq (Jvm.Term.elem (Jvm.Term.static "SlackRows" "COMMANDS" "[LSlackRows$Command;") (Jvm.Term.int (5 : Int32))) (Jvm.Term.static "SlackRows$Command" "MOVE" "LSlackRows$Command;")) ∈ zgv := List.mem_of_getElem? (i := 14) (by decide +kernel)
theorem zg_15 : (Jvm.Cond.eq (Jvm.Term.elem (Jvm.Term.static "SlackRows" "COMMANDS" "[LSlackRows$Command;") (Jvm.Term.int (6 : Int32))) (Jvm.Term.static "SlackRows$Command" "DROP" "LSlackRows$Command;")) ∈ zgv := List.mem_of_getElem? (i := 15) (by decide +kernel)
theorem zg_16 : (Jvm.Cond.eq (Jvm.Term.elem (Jvm.Term.static "SlackRows" "COMMANDS" "[LSlackRows$Command;") (Jvm.Term.int (7 : Int32))) (Jvm.Term.static "SlackRows$Command" "UNTIL" "LSlackRows$Command;")) ∈ zgv := List.mem_of_getElem? (i := 16) (by decide +kernel)
theorem zg_17 : (Jvm.Cond.eq (Jvm.Term.static "java/lang/String" "COMPACT_STRINGS" "Z") (Jvm.Term.int (1 : Int32))) ∈ zgv := List.mem_of_getElem? (i := 17) (by decide +kernel)
theorem zg_18 : (Jvm.Cond.isRef (Jvm.Term.static "jdk/internal/util/Preconditions" "SIOOBE_FORMATTER" "Ljava/util/function/BiFunction;")) ∈ zgv := List.mem_of_getElem? (i := 18) (by decide +kernel)
theorem zg_24 : (Jvm.Cond.eq (Jvm.Term.field (Jvm.Term.static "SlackRows$Command" "UNTIL" "LSlackRows$Command;") "SlackRows$Command" "word" "Ljava/lang/String;") (Jvm.Term.string "SlackRows$Command" (80 : Nat))) ∈ zgv := List.mem_of_getElem? (i := 24) (by decide +kernel)
theorem zg_35 : (Jvm.Cond.eq (Jvm.Term.field (Jvm.Term.static "SlackRows$Command" "MOVE" "LSlackRows$Command;") "SlackRows$Command" "word" "Ljava/lang/String;") (Jvm.Term.string "SlackRows$Command" (74 : Nat))) ∈ zgv := List.mem_of_getElem? (i := 35) (by decide +kernel)
theorem zg_47 : (Jvm.Cond.arrayOf (Jvm.Term.static "SlackRows$1" "$SwitchMap$SlackRows$Command" "[I") Jvm.ClassFile.FieldType.int) ∈ zgv := List.mem_of_getElem? (i := 47) (by decide +kernel)
theorem zg_48 : (Jvm.Cond.eq (Jvm.Term.length (Jvm.Term.static "SlackRows$1" "$SwitchMap$SlackRows$Command" "[I")) (Jvm.Term.int (8 : Int32))) ∈ zgv := List.mem_of_getElem? (i := 48) (by decide +kernel)
theorem zg_49 : (Jvm.Cond.eq (Jvm.Term.elem (Jvm.Term.static "SlackRows$1" "$SwitchMap$SlackRows$Command" "[I") (Jvm.Term.int (0 : Int32))) (Jvm.Term.int (1 : Int32))) ∈ zgv := List.mem_of_getElem? (i := 49) (by decide +kernel)
theorem zg_50 : (Jvm.Cond.eq (Jvm.Term.elem (Jvm.Term.static "SlackRows$1" "$SwitchMap$SlackRows$Command" "[I") (Jvm.Term.int (1 : Int32))) (Jvm.Term.int (2 : Int32))) ∈ zgv := List.mem_of_getElem? (i := 50) (by decide +kernel)
theorem zg_51 : (Jvm.Cond.eq (Jvm.Term.elem (Jvm.Term.static "SlackRows$1" "$SwitchMap$SlackRows$Command" "[I") (Jvm.Term.int (2 : Int32))) (Jvm.Term.int (4 : Int32))) ∈ zgv := List.mem_of_getElem? (i := 51) (by decide +kernel)
theorem zg_52 : (Jvm.Cond.eq (Jvm.Term.elem (Jvm.Term.static "SlackRows$1" "$SwitchMap$SlackRows$Command" "[I") (Jvm.Term.int (3 : Int32))) (Jvm.Term.int (5 : Int32))) ∈ zgv := List.mem_of_getElem? (i := 52) (by decide +kernel)
theorem zg_53 : (Jvm.Cond.eq (Jvm.Term.elem (Jvm.Term.static "SlackRows$1" "$SwitchMap$SlackRows$Command" "[I") (Jvm.Term.int (4 : Int32))) (Jvm.Term.int (6 : Int32))) ∈ zgv := List.mem_of_getElem? (i := 53) (by decide +kernel)
theorem zg_54 : (Jvm.Cond.eq (Jvm.Term.elem (Jvm.Term.static "SlackRows$1" "$SwitchMap$SlackRows$Command" "[I") (Jvm.Term.int (5 : Int32))) (Jvm.Term.int (3 : Int32))) ∈ zgv := List.mem_of_getElem? (i := 54) (by decide +kernel)
theorem zg_55 : (Jvm.Cond.eq (Jvm.Term.elem (Jvm.Term.static "SlackRows$1" "$SwitchMap$SlackRows$Command" "[I") (Jvm.Term.int (6 : Int32))) (Jvm.Term.int (7 : Int32))) ∈ zgv := List.mem_of_getElem? (i := 55) (by decide +kernel)
theorem zg_56 : (Jvm.Cond.eq (Jvm.Term.elem (Jvm.Term.static "SlackRows$1" "$SwitchMap$SlackRows$Command" "[I") (Jvm.Term.int (7 : Int32))) (Jvm.Term.int (0 : Int32))) ∈ zgv := List.mem_of_getElem? (i := 56) (by decide +kernel)
theorem zg_66 : (Jvm.Cond.eq (Jvm.Term.field (Jvm.Term.static "SlackRows$Command" "GROUP" "LSlackRows$Command;") "SlackRows$Command" "word" "Ljava/lang/String;") (Jvm.Term.string "SlackRows$Command" (56 : Nat))) ∈ zgv := List.mem_of_getElem? (i := 66) (by decide +kernel)
theorem zg_74 : (Jvm.Cond.isRef (Jvm.Term.static "java/lang/Throwable" "UNASSIGNED_STACK" "[Ljava/lang/StackTraceElement;")) ∈ zgv := List.mem_of_getElem? (i := 74) (by decide +kernel)
theorem zg_75 : (Jvm.Cond.isRef (Jvm.Term.static "java/lang/Throwable" "SUPPRESSED_SENTINEL" "Ljava/util/List;")) ∈ zgv := List.mem_of_getElem? (i := 75) (by decide +kernel)
theorem zg_78 : (Jvm.Cond.eq (Jvm.Term.field (Jvm.Term.static "SlackRows$Command" "TASK" "LSlackRows$Command;") "SlackRows$Command" "word" "Ljava/lang/String;") (Jvm.Term.string "SlackRows$Command" (62 : Nat))) ∈ zgv := List.mem_of_getElem? (i := 78) (by decide +kernel)
theorem zg_89 : (Jvm.Cond.eq (Jvm.Term.field (Jvm.Term.static "SlackRows$Command" "DROP" "LSlackRows$Command;") "SlackRows$Command" "word" "Ljava/lang/String;") (Jvm.Term.string "SlackRows$Command" (77 : Nat))) ∈ zgv := List.mem_of_getElem? (i := 89) (by decide +kernel)
theorem zg_101 : (Jvm.Cond.eq (Jvm.Term.field (Jvm.Term.static "SlackRows$Command" "LAST" "LSlackRows$Command;") "SlackRows$Command" "word" "Ljava/lang/String;") (Jvm.Term.string "SlackRows$Command" (65 : Nat))) ∈ zgv := List.mem_of_getElem? (i := 101) (by decide +kernel)
theorem zg_114 : (Jvm.Cond.eq (Jvm.Term.field (Jvm.Term.static "SlackRows$Command" "BORROW" "LSlackRows$Command;") "SlackRows$Command" "word" "Ljava/lang/String;") (Jvm.Term.string "SlackRows$Command" (68 : Nat))) ∈ zgv := List.mem_of_getElem? (i := 114) (by decide +kernel)
theorem zg_128 : (Jvm.Cond.eq (Jvm.Term.field (Jvm.Term.static "SlackRows$Command" "BACK" "LSlackRows$Command;") "SlackRows$Command" "word" "Ljava/lang/String;") (Jvm.Term.string "SlackRows$Command" (71 : Nat))) ∈ zgv := List.mem_of_getElem? (i := 128) (by decide +kernel)
theorem zg_168 : (Jvm.Cond.exactly (Jvm.Term.string "SlackRows" (172 : Nat)) "java/lang/String") ∈ zgv := List.mem_of_getElem? (i := 168) (by decide +kernel)
theorem zg_193 : (Jvm.Cond.exactly (Jvm.Term.string "SlackRows" (181 : Nat)) "java/lang/String") ∈ zgv := List.mem_of_getElem? (i := 193) (by decide +kernel)
theorem zg_222 : (Jvm.Cond.exactly (Jvm.Term.string "SlackRows" (206 : Nat)) "java/lang/String") ∈ zgv := List.mem_of_getElem? (i := 222) (by decide +kernel)
theorem zg_256 : (Jvm.Cond.exactly (Jvm.Term.string "SlackRows" (190 : Nat)) "java/lang/String") ∈ zgv := List.mem_of_getElem? (i := 256) (by decide +kernel)
theorem zg_283 : (Jvm.Cond.exactly (Jvm.Term.string "SlackRows" (184 : Nat)) "java/lang/String") ∈ zgv := List.mem_of_getElem? (i := 283) (by decide +kernel)
theorem zg_311 : (Jvm.Cond.exactly (Jvm.Term.string "SlackRows" (192 : Nat)) "java/lang/String") ∈ zgv := List.mem_of_getElem? (i := 311) (by decide +kernel)
theorem zg_339 : (Jvm.Cond.exactly (Jvm.Term.string "SlackRows" (130 : Nat)) "java/lang/String") ∈ zgv := List.mem_of_getElem? (i := 339) (by decide +kernel)
theorem zg_373 : (Jvm.Cond.exactly (Jvm.Term.string "SlackRows" (147 : Nat)) "java/lang/String") ∈ zgv := List.mem_of_getElem? (i := 373) (by decide +kernel)
theorem zZev {C n d : String} {v : Value} {A : Nat → Prop} {s : State} {args : Array Value} (h : va_Z C n d v A s s.heap) : (Term.static C n d).eval args s none [] s = some v := by
  obtain ⟨cf, kf, fi, f, a, cell, h1, h2, h3, h4, h5, h6, h7, -⟩ := h
  simp [Term.eval, State.fieldNamed?, h1, h2, h4, h5, h6, h7]
theorem z_arr {s : State} {a0 : Array Value} {A : Nat → Prop} (hts : ∀ w ∈ lw_tbl, w.before a0 s = true) (hgv : (Jvm.Cond.and given_1 narrow_1).before a0 s = true) (hA : ∀ a : Nat, a < s.heap.size → ¬ A a) {adC : Nat → Nat} (hev : ∀ i, i < zCmd.length → (Term.static "SlackRows$Command" (zCmd.getD i "") "LSlackRows$Command;").eval a0 s none [] s = some (.ref (adC i))) : ∃ t : Nat, va_Z "SlackRows" "COMMANDS" "[LSlackRows$Command;" (.ref t) A s s.heap ∧ va_T (.object "SlackRows$Command") t 8 (fun j => .ref (adC j)) A s s.heap := by
  have h5 : ∀ i, i < 8 → Cond.eq (.elem (.static "SlackRows" "COMMANDS" "[LSlackRows$Command;") (.int (Int32.ofNat i))) (.static "SlackRows$Command" (zCmd.getD i "") "LSlackRows$Command;") ∈ zgv := fun i hi => match i, hi with
      | 0, _ => zg_9
      | 1, _ => zg_10
      | 2, _ => zg_11
      | 3, _ => zg_12
      | 4, _ => zg_13
      | 5, _ => zg_14
      | 6, _ => zg_15
      | 7, _ => zg_16
      | k + 8, hk => absurd hk (Nat.not_lt.mpr (show 8 ≤ k + 8 from Nat.le_add_left 8 k))
  obtain ⟨t, ht, hT⟩ := va_Tof (tm := .static "SlackRows" "COMMANDS" "[LSlackRows$Command;") (ty := .object "SlackRows$Command") (N := 8) (f := fun j => .ref (adC j)) (A := A) (by decide) (flat_of_before _ hgv _ zg_6) (va_eqt (flat_of_before _ hgv _ zg_7)) (fun j hj => va_eqv (flat_of_before _ hgv _ (h5 j hj)) (hev j hj)) hA
  exact ⟨t, va_Zref (hts _ (List.mem_of_getElem? (i := 324) (by decide +kernel))) (hts _ (List.mem_of_getElem? (i := 91) (by decide +kernel))) ht hA, hT⟩
def zSwI : List Int32 := [1, 2, 4, 5, 6, 3, 7, 0]
theorem z_sw {s : State} {a0 : Array Value} {A : Nat → Prop} (hts : ∀ w ∈ lw_tbl, w.before a0 s = true) (hgv : (Jvm.Cond.and given_1 narrow_1).before a0 s = true) (hA : ∀ a : Nat, a < s.heap.size → ¬ A a) : ∃ t : Nat, va_Z "SlackRows$1" "$SwitchMap$SlackRows$Command" "[I" (.ref t) A s s.heap ∧ va_T .int t 8 (fun j => .int (Int32.ofInt (zSw.getD j 0))) A s s.heap := by
  have h5 : ∀ i, i < 8 → Cond.eq (.elem (.static "SlackRows$1" "$SwitchMap$SlackRows$Command" "[I") (.int (Int32.ofNat i))) (.int (zSwI.getD i 0)) ∈ zgv := fun i hi => match i, hi with
      | 0, _ => zg_49
      | 1, _ => zg_50
      | 2, _ => zg_51
      | 3, _ => zg_52
      | 4, _ => zg_53
      | 5, _ => zg_54
      | 6, _ => zg_55
      | 7, _ => zg_56
      | k + 8, hk => absurd hk (Nat.not_lt.mpr (show 8 ≤ k + 8 from Nat.le_add_left 8 k))
  obtain ⟨t, ht, hT⟩ := va_Tof (tm := .static "SlackRows$1" "$SwitchMap$SlackRows$Command" "[I") (ty := .int) (N := 8) (f := fun j => .int (zSwI.getD j 0)) (A := A) (by decide) (flat_of_before _ hgv _ zg_47) (va_eqt (flat_of_before _ hgv _ zg_48)) (fun j hj => va_eqt (flat_of_before _ hgv _ (h5 j hj))) hA
  have e : ∀ i, i < 8 → Int32.ofInt (zSw.getD i 0) = zSwI.getD i 0 := by decide
  exact ⟨t, va_Zref (hts _ (List.mem_of_getElem? (i := 437) (by decide +kernel))) (hts _ (List.mem_of_getElem? (i := 99) (by decide +kernel))) ht hA, hT.cg fun i hi => congrArg Value.int (e i hi)⟩
theorem z_wrd {s : State} {a0 : Array Value} {A : Nat → Prop} (hgv : (Jvm.Cond.and given_1 narrow_1).before a0 s = true) (hA : ∀ a : Nat, a < s.heap.size → ¬ A a) {adC adK : Nat → Nat} (hev : ∀ i, i < zCmd.length → (Term.static "SlackRows$Command" (zCmd.getD i "") "LSlackRows$Command;").eval a0 s none [] s = some (.ref (adC i))) (hek : ∀ i : Nat, i < 8 → (Term.string "SlackRows$Command" (zWi i)).eval a0 s none [] s = some (.ref (adK i))) : va_Ef 8 "SlackRows$Command" "word" "Ljava/lang/String;" (fun i => .ref (adK i)) adC A s s.heap := by
  have h5 : ∀ i, i < 8 → Cond.eq (.field (.static "SlackRows$Command" (zCmd.getD i "") "LSlackRows$Command;") "SlackRows$Command" "word" "Ljava/lang/String;") (.string "SlackRows$Command" (zWi i)) ∈ zgv := fun i hi => match i, hi with
      | 0, _ => zg_66
      | 1, _ => zg_78
      | 2, _ => zg_101
      | 3, _ => zg_114
      | 4, _ => zg_128
      | 5, _ => zg_35
      | 6, _ => zg_89
      | 7, _ => zg_24
      | k + 8, hk => absurd hk (Nat.not_lt.mpr (show 8 ≤ k + 8 from Nat.le_add_left 8 k))
  exact va_Efof (E := "SlackRows$Command") (d0 := "LSlackRows$Command;") (nm := zCmd) (tm := fun i => .string "SlackRows$Command" (zWi i)) (v := fun i => .ref (adK i)) hev (fun i hi => flat_of_before _ hgv _ (h5 i hi)) hek hA
theorem z_cmp {s : State} {a0 : Array Value} {A : Nat → Prop} (hts : ∀ w ∈ lw_tbl, w.before a0 s = true) (hgv : (Jvm.Cond.and given_1 narrow_1).before a0 s = true) (hA : ∀ a : Nat, a < s.heap.size → ¬ A a) : va_Z "java/lang/String" "COMPACT_STRINGS" "Z" (.int 1) A s s.heap := va_Zof (hts _ (List.mem_of_getElem? (i := 338) (by decide +kernel))) (hts _ (List.mem_of_getElem? (i := 107) (by decide +kernel))) (va_eqi (flat_of_before _ hgv _ zg_17)) hA
theorem z_fmt {s : State} {a0 : Array Value} {A : Nat → Prop} (hts : ∀ w ∈ lw_tbl, w.before a0 s = true) (hgv : (Jvm.Cond.and given_1 narrow_1).before a0 s = true) (hA : ∀ a : Nat, a < s.heap.size → ¬ A a) : ∃ t : Nat, va_Z "jdk/internal/util/Preconditions" "SIOOBE_FORMATTER" "Ljava/util/function/BiFunction;" .null A s s.heap ∨ va_Z "jdk/internal/util/Preconditions" "SIOOBE_FORMATTER" "Ljava/util/function/BiFunction;" (.ref t) A s s.heap := by
  rcases va_Zqof (hts _ (List.mem_of_getElem? (i := 354) (by decide +kernel))) (hts _ (List.mem_of_getElem? (i := 109) (by decide +kernel))) (flat_of_before _ hgv _ zg_18) hA with h | ⟨t, h⟩
  · exact ⟨0, Or.inl h⟩
  · exact ⟨t, Or.inr h⟩
theorem z_thr {s : State} {a0 : Array Value} {A : Nat → Prop} (hts : ∀ w ∈ lw_tbl, w.before a0 s = true) (hgv : (Jvm.Cond.and given_1 narrow_1).before a0 s = true) (hA : ∀ a : Nat, a < s.heap.size → ¬ A a) : vx_Zq Bundle.tN "UNASSIGNED_STACK" Bundle.steD A s s.heap ∧ vx_Zq Bundle.tN "SUPPRESSED_SENTINEL" Bundle.listD A s s.heap := ⟨vx_Zqof (hts _ (List.mem_of_getElem? (i := 668) (by decide +kernel))) (hts _ (List.mem_of_getElem? (i := 100) (by decide +kernel))) (flat_of_before _ hgv _ zg_74) hA, vx_Zqof (hts _ (List.mem_of_getElem? (i := 670) (by decide +kernel))) (hts _ (List.mem_of_getElem? (i := 100) (by decide +kernel))) (flat_of_before _ hgv _ zg_75) hA⟩
theorem z_msg1 {s : State} {a0 : Array Value} {k : Nat} {tx : String} (h1 : (Cond.stringRef "SlackRows" k tx).before a0 s = true) (h2 : (Cond.exactly (.string "SlackRows" k) "java/lang/String").before a0 s = true) : ∃ a, vk_R "SlackRows" k tx a s := by
  obtain ⟨a, c, cell, kk, q1, -⟩ := Cond.exactly_spec (args := a0) (first := s) (o := none) (s := s) (idx := []) (t := .string "SlackRows" k) (cls := "java/lang/String") h2
  exact ⟨a, vk_R.of h1 q1⟩
theorem z_msg {s : State} {a0 : Array Value} (hts : ∀ w ∈ lw_tbl, w.before a0 s = true) (hgv : (Jvm.Cond.and given_1 narrow_1).before a0 s = true) : ∀ q ∈ zMsg, ∃ a, vk_R "SlackRows" q.1 q.2 a s := List.forall_mem_cons.mpr ⟨z_msg1 (hts _ (List.mem_of_getElem? (i := 682) (by decide +kernel))) (flat_of_before _ hgv _ zg_168), List.forall_mem_cons.mpr ⟨z_msg1 (hts _ (List.mem_of_getElem? (i := 719) (by decide +kernel))) (flat_of_before _ hgv _ zg_193), List.forall_mem_cons.mpr ⟨z_msg1 (hts _ (List.mem_of_getElem? (i := 736) (by decide +kernel))) (flat_of_before _ hgv _ zg_222), List.forall_mem_cons.mpr ⟨z_msg1 (hts _ (List.mem_of_getElem? (i := 831) (by decide +kernel))) (flat_of_before _ hgv _ zg_256), List.forall_mem_cons.mpr ⟨z_msg1 (hts _ (List.mem_of_getElem? (i := 843) (by decide +kernel))) (flat_of_before _ hgv _ zg_283), List.forall_mem_cons.mpr ⟨z_msg1 (hts _ (List.mem_of_getElem? (i := 884) (by decide +kernel))) (flat_of_before _ hgv _ zg_311), List.forall_mem_cons.mpr ⟨z_msg1 (hts _ (List.mem_of_getElem? (i := 928) (by decide +kernel))) (flat_of_before _ hgv _ zg_339), List.forall_mem_cons.mpr ⟨z_msg1 (hts _ (List.mem_of_getElem? (i := 936) (by decide +kernel))) (flat_of_before _ hgv _ zg_373), fun _ h => absurd h List.not_mem_nil⟩⟩⟩⟩⟩⟩⟩⟩
theorem z_prim {s : State} {a0 : Array Value} {ty : FieldType} (hty : ty = .int ∨ ty = .boolean ∨ ty = .long) (h : (Cond.arrayClass ty).before a0 s = true) : ∃ cA : ClassId, ArrOfT s cA ty ∧ va_RA s cA ty := by
  obtain ⟨c, k, comp, f1, f2, f3⟩ := Cond.arrayClass_spec h
  refine ⟨c, fun n z => ⟨fun k h => (by cases h), k, f2, comp, f3⟩, ?_⟩
  rcases hty with rfl | rfl | rfl <;> exact f1
theorem z_objs {s : State} {a0 : Array Value} {C : String} (h : (Cond.arrayOver (.object C)).before a0 s = true) : ∃ cA : ClassId, ArrOfT s cA (.object C) ∧ va_RA s cA (.object C) := by
  obtain ⟨comp, c, k, h1, h2, h3, h4, h5⟩ := Cond.arrayOver_spec h
  exact ⟨c, fun n z => ⟨fun k h => (by cases h), k, h3, comp, h4⟩, k, comp, h3, h4, h1, h5⟩
theorem z_K {s : State} {a0 : Array Value} (hts : ∀ w ∈ lw_tbl, w.before a0 s = true) : ∃ (D : va_G) (cy : Nat → ClassId), va_K D vwCl (zTy cy) s := by
  have hin : ∀ i, i < 5 → Cond.instantiable (zCn i) (zNf i) ∈ lw_tbl := fun i hi => match i, hi with
      | 0, _ => (List.mem_of_getElem? (i := 120) (by decide +kernel))
      | 1, _ => (List.mem_of_getElem? (i := 153) (by decide +kernel))
      | 2, _ => (List.mem_of_getElem? (i := 146) (by decide +kernel))
      | 3, _ => (List.mem_of_getElem? (i := 112) (by decide +kernel))
      | 4, _ => (List.mem_of_getElem? (i := 939) (by decide +kernel))
      | k + 5, hk => absurd hk (Nat.not_lt.mpr (show 5 ≤ k + 5 from Nat.le_add_left 5 k))
  have hz : ∀ w ∈ zgw, w.before a0 s = true := fun w hw => hts w (List.mem_filter.mp hw).1
  have h0 : ∀ c : Nat, ∃ q : ClassId × (Nat → Nat), c < 5 → u_Kn s (zCn c) (zT c) (zNf c) q.1 q.2 := fun c => by
    by_cases hc : c < 5
    · obtain ⟨cC, iS, hK⟩ := u_known (C := zCn c) (T := zT c) (N := zNf c) (n := zNf c) hz (zin_ws hc) (hts _ (hin c hc))
      exact ⟨(cC, iS), fun _ => hK⟩
    · exact ⟨((0 : Nat), fun _ => 0), fun h => absurd h hc⟩
  obtain ⟨f, hf⟩ := Classical.axiomOfChoice h0
  obtain ⟨c5, a5, b5⟩ := z_prim (ty := .int) (Or.inl rfl) (hts _ (List.mem_of_getElem? (i := 143) (by decide +kernel)))
  obtain ⟨c6, a6, b6⟩ := z_prim (ty := .boolean) (Or.inr (Or.inl rfl)) (hts _ (List.mem_of_getElem? (i := 990) (by decide +kernel)))
  obtain ⟨c9, a9, b9⟩ := z_prim (ty := .long) (Or.inr (Or.inr rfl)) (hts _ (List.mem_of_getElem? (i := 1322) (by decide +kernel)))
  obtain ⟨c7, a7, b7⟩ := z_objs (C := "SlackRows$Node") (hts _ (List.mem_of_getElem? (i := 152) (by decide +kernel)))
  obtain ⟨c8, a8, b8⟩ := z_objs (C := "SlackRows$Tree") (hts _ (List.mem_of_getElem? (i := 145) (by decide +kernel)))
  refine ⟨(fun c => (f c).1, fun c => (f c).2), fun k => if k = 5 then c5 else if k = 6 then c6 else if k = 7 then c7 else if k = 8 then c8 else c9, fun c q hq => ?_, fun k q hq => ?_⟩
  · have hc : c < 5 := (List.getElem?_eq_some_iff.mp hq).1
    have e := Option.some.inj ((zcl hc).symm.trans hq)
    subst e
    exact hf c hc
  · match k, hq with
    | 0, hq => cases hq; exact ⟨a5, b5⟩
    | 1, hq => cases hq; exact ⟨a6, b6⟩
    | 2, hq => cases hq; exact ⟨a7, b7⟩
    | 3, hq => cases hq; exact ⟨a8, b8⟩
    | 4, hq => cases hq; exact ⟨a9, b9⟩
    | k + 5, hq => exact absurd (List.getElem?_eq_some_iff.mp hq).1 (Nat.not_lt.mpr (show 5 ≤ k + 5 from Nat.le_add_left 5 k))
def zJ (xs : Nat → Int32) (L : Nat) : Nat → Int → Int := fun o k => if o = 4130 then (xs k.toNat).toInt else if o = 4131 then (L : Int) else 0
theorem z_start {s : State} {b L : Nat} {xs : Nat → Int32} (hts : ∀ w ∈ lw_tbl, w.before #[Value.ref b] s = true) (hgv : (Jvm.Cond.and given_1 narrow_1).before #[Value.ref b] s = true) (hX : va_X b L xs s s.heap) (hbl : b < s.heap.size) (hL : L ≤ 2048) : ∃ ad : Nat → Nat, ad 4130 = b ∧ zSt ad (zJ xs L) (fun q : Nat => s.heap.size ≤ q) s s.heap := by
  have hA : ∀ a : Nat, a < s.heap.size → ¬ (fun q : Nat => s.heap.size ≤ q) a := fun a h => Nat.not_le.mpr h
  obtain ⟨adC, hC, hev⟩ := z_cmd hts hgv hA
  obtain ⟨adR, hR⟩ := z_ref hts hgv hA
  obtain ⟨adK, adV, hS, hek⟩ := z_str hgv hA
  obtain ⟨t8, hZ8, hT8⟩ := z_arr hts hgv hA hev
  obtain ⟨t9, hZ9, hT9⟩ := z_sw hts hgv hA
  have hW := z_wrd hgv hA hev hek
  obtain ⟨tF, hF⟩ := z_fmt hts hgv hA
  obtain ⟨ad, e⟩ : ∃ ad : Nat → Nat, ad = fun i => if i < 4104 then adC (i - 4096) else if i < 4108 then adR (i - 4104) else if i = 4108 then t8 else if i = 4109 then t9 else if i < 4118 then adK (i - 4110) else if i < 4128 then adV (i - 4120) else if i = 4130 then b else tF := ⟨_, rfl⟩
  have eC : ∀ i, i < 8 → ad (4096 + i) = adC i := fun i hi => by
    rw [e]
    show (if 4096 + i < 4104 then adC (4096 + i - 4096) else _) = _
    rw [if_pos (by omega), Nat.add_sub_cancel_left]
  have eR : ∀ i, i < 4 → ad (4104 + i) = adR i := fun i hi => by
    rw [e]
    show (if 4104 + i < 4104 then _ else if 4104 + i < 4108 then adR (4104 + i - 4104) else _) = _
    rw [if_neg (by omega), if_pos (by omega), Nat.add_sub_cancel_left]
  have eK : ∀ i, i < 8 → ad (4110 + i) = adK i := fun i hi => by
    rw [e]
    show (if 4110 + i < 4104 then _ else if 4110 + i < 4108 then _ else if 4110 + i = 4108 then _ else if 4110 + i = 4109 then _ else if 4110 + i < 4118 then adK (4110 + i - 4110) else _) = _
    rw [if_neg (by omega), if_neg (by omega), if_neg (by omega), if_neg (by omega), if_pos (by omega), Nat.add_sub_cancel_left]
  have eV : ∀ i, i < 8 → ad (4120 + i) = adV i := fun i hi => by
    rw [e]
    show (if 4120 + i < 4104 then _ else if 4120 + i < 4108 then _ else if 4120 + i = 4108 then _ else if 4120 + i = 4109 then _ else if 4120 + i < 4118 then _ else if 4120 + i < 4128 then adV (4120 + i - 4120) else _) = _
    rw [if_neg (by omega), if_neg (by omega), if_neg (by omega), if_neg (by omega), if_neg (by omega), if_pos (by omega), Nat.add_sub_cancel_left]
  have e8 : ad 4108 = t8 := by rw [e]; rfl
  have e9 : ad 4109 = t9 := by rw [e]; rfl
  have eb : ad 4130 = b := by rw [e]; rfl
  have eF : ad 4140 = tF := by rw [e]; rfl
  refine ⟨ad, eb, ?_⟩
  have n1 := z_nest hts
  obtain ⟨scr, k1, k2, k3, k4, k5⟩ := hX
  unfold zSt
  rw [e8, e9, eb, eF]
  refine ⟨n1.1, n1.2, z_exc hts, z_nc hgv, z_ao hts, hC.cg eC, hR.cg eR, ⟨hZ8, hT8.cg fun i hi => by rw [eC i hi]⟩, ⟨hZ9, hT9⟩, hW.cg (fun i hi => by rw [eK i hi]) eC, hS.cg eK eV, ⟨z_cmp hts hgv hA, hF⟩, z_thr hts hgv hA, z_msg hts hgv, ?_⟩
  have eL : zJ xs L 4131 0 = (L : Int) := rfl
  rw [eL, Int.toNat_natCast]
  exact ⟨by omega, scr, k1, k2, k3, by omega, by rw [k4], fun j hj => by
    rw [k5 j hj]
    refine congrArg (fun z => some (Value.int z)) ?_
    show xs j = Int32.ofInt (xs ((j : Int).toNat)).toInt
    rw [Int.toNat_natCast, Int32.ofInt_toInt], hA b hbl⟩
