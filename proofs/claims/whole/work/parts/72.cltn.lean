/-! ===== what stands at the start ===== -/
abbrev zgv : List Cond := flatC (Jvm.Cond.and given_1 narrow_1)
def zWi (i : Nat) : Nat := [56, 62, 65, 68, 71, 74, 77, 80].getD i 0
theorem va_En.cg {E d : String} {nm : List String} {F : List (String × String × String × List Int32)} {ad ad' : Nat → Nat} {A : Nat → Prop} {U : State} {H : Heap} (h : va_En E d nm F ad A U H) (e : ∀ i, i < nm.length → ad' i = ad i) : va_En E d nm F ad' A U H := by
  refine ⟨fun i hi => ?_, fun i j hi hj q => ?_⟩
  · rw [e i hi]
    exact h.1 i hi
  · rw [e i hi, e j hj] at q
    exact h.2 i j hi hj q
theorem va_Ef.cg {N : Nat} {o n d : String} {v v' : Nat → Value} {ad ad' : Nat → Nat} {A : Nat → Prop} {U : State} {H : Heap} (h : va_Ef N o n d v ad A U H) (e1 : ∀ i, i < N → v' i = v i) (e : ∀ i, i < N → ad' i = ad i) : va_Ef N o n d v' ad' A U H := fun i hi => by
  rw [e1 i hi, e i hi]
  exact h i hi
theorem vk_S.cg {N : Nat} {len : List Nat} {byt : List (List Int32)} {a1 a2 b1 b2 : Nat → Nat} {A : Nat → Prop} {U : State} {H : Heap} (h : vk_S N len byt a1 a2 A U H) (e1 : ∀ i, i < N → b1 i = a1 i) (e2 : ∀ i, i < N → b2 i = a2 i) : vk_S N len byt b1 b2 A U H := by
  refine ⟨fun i hi => ?_, fun i j hi hj q => ?_⟩
  · rw [e1 i hi, e2 i hi]
    exact h.1 i hi
  · rw [e1 i hi, e1 j hj] at q
    exact h.2 i j hi hj q
theorem va_T.cg {ty : FieldType} {t N : Nat} {f g : Nat → Value} {A : Nat → Prop} {U : State} {H : Heap} (h : va_T ty t N f A U H) (e : ∀ i, i < N → g i = f i) : va_T ty t N g A U H := by
  obtain ⟨cell, h1, h2, h3, h4, h5, h6, h7⟩ := h
  exact ⟨cell, h1, h2, h3, h4, h5, fun j hj => by rw [e j hj]; exact h6 j hj, h7⟩
theorem zg_22 : (Jvm.Cond.exactly (Jvm.Term.static "SlackRows$Command" "UNTIL" "LSlackRows$Command;") "SlackRows$Command") ∈ zgv := List.mem_of_getElem? (i := 22) (by decide +kernel)
theorem zg_23 : (Jvm.Cond.eq (Jvm.Term.field (Jvm.Term.static "SlackRows$Command" "UNTIL" "LSlackRows$Command;") "java/lang/Enum" "ordinal" "I") (Jvm.Term.int (7 : Int32))) ∈ zgv := List.mem_of_getElem? (i := 23) (by decide +kernel)
theorem zg_25 : (Jvm.Cond.eq (Jvm.Term.field (Jvm.Term.static "SlackRows$Command" "UNTIL" "LSlackRows$Command;") "SlackRows$Command" "numberCount" "I") (Jvm.Term.int (1 : Int32))) ∈ zgv := List.mem_of_getElem? (i := 25) (by decide +kernel)
theorem zg_26 : (Jvm.Cond.exactly (Jvm.Term.static "SlackRows$Refusal" "NOT" "LSlackRows$Refusal;") "SlackRows$Refusal") ∈ zgv := List.mem_of_getElem? (i := 26) (by decide +kernel)
theorem zg_29 : (Jvm.Cond.exactly (Jvm.Term.static "SlackRows$Refusal" "OUT_OF_RANGE" "LSlackRows$Refusal;") "SlackRows$Refusal") ∈ zgv := List.mem_of_getElem? (i := 29) (by decide +kernel)
theorem zg_32 : (Jvm.Cond.not (Jvm.Cond.eq (Jvm.Term.static "SlackRows$Refusal" "NOT" "LSlackRows$Refusal;") (Jvm.Term.static "SlackRows$Refusal" "OUT_OF_RANGE" "LSlackRows$Refusal;"))) ∈ zgv := List.mem_of_getElem? (i := 32) (by decide +kernel)
theorem zg_33 : (Jvm.Cond.exactly (Jvm.Term.static "SlackRows$Command" "MOVE" "LSlackRows$Command;") "SlackRows$Command") ∈ zgv := List.mem_of_getElem? (i := 33) (by decide +kernel)
theorem zg_34 : (Jvm.Cond.eq (Jvm.Term.field (Jvm.Term.static "SlackRows$Command" "MOVE" "LSlackRows$Command;") "java/lang/Enum" "ordinal" "I") (Jvm.Term.int (5 : Int32))) ∈ zgv := List.mem_of_getElem? (i := 34) (by decide +kernel)
theorem zg_36 : (Jvm.Cond.eq (Jvm.Term.field (Jvm.Term.static "SlackRows$Command" "MOVE" "LSlackRows$Command;") "SlackRows$Command" "numberCount" "I") (Jvm.Term.int (3 : Int32))) ∈ zgv := List.mem_of_getElem? (i := 36) (by decide +kernel)
theorem zg_37 : (Jvm.Cond.not (Jvm.Cond.eq (Jvm.Term.static "SlackRows$Command" "UNTIL" "LSlackRows$Command;") (Jvm.Term.static "SlackRows$Command" "MOVE" "LSlackRows$Command;"))) ∈ zgv := List.mem_of_getElem? (i := 37) (by decide +kernel)
theorem zg_40 : (Jvm.Cond.exactly (Jvm.Term.static "SlackRows$Refusal" "NO_NODE" "LSlackRows$Refusal;") "SlackRows$Refusal") ∈ zgv := List.mem_of_getElem? (i := 40) (by decide +kernel)
theorem zg_43 : (Jvm.Cond.not (Jvm.Cond.eq (Jvm.Term.static "SlackRows$Refusal" "NOT" "LSlackRows$Refusal;") (Jvm.Term.static "SlackRows$Refusal" "NO_NODE" "LSlackRows$Refusal;"))) ∈ zgv := List.mem_of_getElem? (i := 43) (by decide +kernel)
theorem zg_44 : (Jvm.Cond.not (Jvm.Cond.eq (Jvm.Term.static "SlackRows$Refusal" "OUT_OF_RANGE" "LSlackRows$Refusal;") (Jvm.Term.static "SlackRows$Refusal" "NO_NODE" "LSlackRows$Refusal;"))) ∈ zgv := List.mem_of_getElem? (i := 44) (by decide +kernel)
theorem zg_57 : (Jvm.Cond.exactly (Jvm.Term.static "SlackRows$Refusal" "IMPOSSIBLE" "LSlackRows$Refusal;") "SlackRows$Refusal") ∈ zgv := List.mem_of_getElem? (i := 57) (by decide +kernel)
theorem zg_60 : (Jvm.Cond.not (Jvm.Cond.eq (Jvm.Term.static "SlackRows$Refusal" "NOT" "LSlackRows$Refusal;") (Jvm.Term.static "SlackRows$Refusal" "IMPOSSIBLE" "LSlackRows$Refusal;"))) ∈ zgv := List.mem_of_getElem? (i := 60) (by decide +kernel)
theorem zg_61 : (Jvm.Cond.not (Jvm.Cond.eq (Jvm.Term.static "SlackRows$Refusal" "OUT_OF_RANGE" "LSlackRows$Refusal;") (Jvm.Term.static "SlackRows$Refusal" "IMPOSSIBLE" "LSlackRows$Refusal;"))) ∈ zgv := List.mem_of_getElem? (i := 61) (by decide +kernel)
theorem zg_63 : (Jvm.Cond.not (Jvm.Cond.eq (Jvm.Term.static "SlackRows$Refusal" "NO_NODE" "LSlackRows$Refusal;") (Jvm.Term.static "SlackRows$Refusal" "IMPOSSIBLE" "LSlackRows$Refusal;"))) ∈ zgv := List.mem_of_getElem? (i := 63) (by decide +kernel)
theorem zg_64 : (Jvm.Cond.exactly (Jvm.Term.static "SlackRows$Command" "GROUP" "LSlackRows$Command;") "SlackRows$Command") ∈ zgv := List.mem_of_getElem? (i := 64) (by decide +kernel)
theorem zg_65 : (Jvm.Cond.eq (Jvm.Term.field (Jvm.Term.static "SlackRows$Command" "GROUP" "LSlackRows$Command;") "java/lang/Enum" "ordinal" "I") (Jvm.Term.int (0 : Int32))) ∈ zgv := List.mem_of_getElem? (i := 65) (by decide +kernel)
theorem zg_67 : (Jvm.Cond.eq (Jvm.Term.field (Jvm.Term.static "SlackRows$Command" "GROUP" "LSlackRows$Command;") "SlackRows$Command" "numberCount" "I") (Jvm.Term.int (2 : Int32))) ∈ zgv := List.mem_of_getElem? (i := 67) (by decide +kernel)
theorem zg_68 : (Jvm.Cond.not (Jvm.Cond.eq (Jvm.Term.static "SlackRows$Command" "UNTIL" "LSlackRows$Command;") (Jvm.Term.static "SlackRows$Command" "GROUP" "LSlackRows$Command;"))) ∈ zgv := List.mem_of_getElem? (i := 68) (by decide +kernel)
theorem zg_71 : (Jvm.Cond.not (Jvm.Cond.eq (Jvm.Term.static "SlackRows$Command" "MOVE" "LSlackRows$Command;") (Jvm.Term.static "SlackRows$Command" "GROUP" "LSlackRows$Command;"))) ∈ zgv := List.mem_of_getElem? (i := 71) (by decide +kernel)
theorem zg_76 : (Jvm.Cond.exactly (Jvm.Term.static "SlackRows$Command" "TASK" "LSlackRows$Command;") "SlackRows$Command") ∈ zgv := List.mem_of_getElem? (i := 76) (by decide +kernel)
theorem zg_77 : (Jvm.Cond.eq (Jvm.Term.field (Jvm.Term.static "SlackRows$Command" "TASK" "LSlackRows$Command;") "java/lang/Enum" "ordinal" "I") (Jvm.Term.int (1 : Int32))) ∈ zgv := List.mem_of_getElem? (i := 77) (by decide +kernel)
theorem zg_79 : (Jvm.Cond.eq (Jvm.Term.field (Jvm.Term.static "SlackRows$Command" "TASK" "LSlackRows$Command;") "SlackRows$Command" "numberCount" "I") (Jvm.Term.int (3 : Int32))) ∈ zgv := List.mem_of_getElem? (i := 79) (by decide +kernel)
theorem zg_80 : (Jvm.Cond.not (Jvm.Cond.eq (Jvm.Term.static "SlackRows$Command" "UNTIL" "LSlackRows$Command;") (Jvm.Term.static "SlackRows$Command" "TASK" "LSlackRows$Command;"))) ∈ zgv := List.mem_of_getElem? (i := 80) (by decide +kernel)
theorem zg_83 : (Jvm.Cond.not (Jvm.Cond.eq (Jvm.Term.static "SlackRows$Command" "MOVE" "LSlackRows$Command;") (Jvm.Term.static "SlackRows$Command" "TASK" "LSlackRows$Command;"))) ∈ zgv := List.mem_of_getElem? (i := 83) (by decide +kernel)
theorem zg_86 : (Jvm.Cond.not (Jvm.Cond.eq (Jvm.Term.static "SlackRows$Command" "GROUP" "LSlackRows$Command;") (Jvm.Term.static "SlackRows$Command" "TASK" "LSlackRows$Command;"))) ∈ zgv := List.mem_of_getElem? (i := 86) (by decide +kernel)
theorem zg_87 : (Jvm.Cond.exactly (Jvm.Term.static "SlackRows$Command" "DROP" "LSlackRows$Command;") "SlackRows$Command") ∈ zgv := List.mem_of_getElem? (i := 87) (by decide +kernel)
theorem zg_88 : (Jvm.Cond.eq (Jvm.Term.field (Jvm.Term.static "SlackRows$Command" "DROP" "LSlackRows$Command;") "java/lang/Enum" "ordinal" "I") (Jvm.Term.int (6 : Int32))) ∈ zgv := List.mem_of_getElem? (i := 88) (by decide +kernel)
theorem zg_90 : (Jvm.Cond.eq (Jvm.Term.field (Jvm.Term.static "SlackRows$Command" "DROP" "LSlackRows$Command;") "SlackRows$Command" "numberCount" "I") (Jvm.Term.int (1 : Int32))) ∈ zgv := List.mem_of_getElem? (i := 90) (by decide +kernel)
theorem zg_91 : (Jvm.Cond.not (Jvm.Cond.eq (Jvm.Term.static "SlackRows$Command" "UNTIL" "LSlackRows$Command;") (Jvm.Term.static "SlackRows$Command" "DROP" "LSlackRows$Command;"))) ∈ zgv := List.mem_of_getElem? (i := 91) (by decide +kernel)
theorem zg_94 : (Jvm.Cond.not (Jvm.Cond.eq (Jvm.Term.static "SlackRows$Command" "MOVE" "LSlackRows$Command;") (Jvm.Term.static "SlackRows$Command" "DROP" "LSlackRows$Command;"))) ∈ zgv := List.mem_of_getElem? (i := 94) (by decide +kernel)
theorem zg_97 : (Jvm.Cond.not (Jvm.Cond.eq (Jvm.Term.static "SlackRows$Command" "GROUP" "LSlackRows$Command;") (Jvm.Term.static "SlackRows$Command" "DROP" "LSlackRows$Command;"))) ∈ zgv := List.mem_of_getElem? (i := 97) (by decide +kernel)
theorem zg_98 : (Jvm.Cond.not (Jvm.Cond.eq (Jvm.Term.static "SlackRows$Command" "TASK" "LSlackRows$Command;") (Jvm.Term.static "SlackRows$Command" "DROP" "LSlackRows$Command;"))) ∈ zgv := List.mem_of_getElem? (i := 98) (by decide +kernel)
theorem zg_99 : (Jvm.Cond.exactly (Jvm.Term.static "SlackRows$Command" "LAST" "LSlackRows$Command;") "SlackRows$Command") ∈ zgv := List.mem_of_getElem? (i := 99) (by decide +kernel)
theorem zg_100 : (Jvm.Cond.eq (Jvm.Term.field (Jvm.Term.static "SlackRows$Command" "LAST" "LSlackRows$Command;") "java/lang/Enum" "ordinal" "I") (Jvm.Term.int (2 : Int32))) ∈ zgv := List.mem_of_getElem? (i := 100) (by decide +kernel)
theorem zg_102 : (Jvm.Cond.eq (Jvm.Term.field (Jvm.Term.static "SlackRows$Command" "LAST" "LSlackRows$Command;") "SlackRows$Command" "numberCount" "I") (Jvm.Term.int (2 : Int32))) ∈ zgv := List.mem_of_getElem? (i := 102) (by decide +kernel)
theorem zg_103 : (Jvm.Cond.not (Jvm.Cond.eq (Jvm.Term.static "SlackRows$Command" "UNTIL" "LSlackRows$Command;") (Jvm.Term.static "SlackRows$Command" "LAST" "LSlackRows$Command;"))) ∈ zgv := List.mem_of_getElem? (i := 103) (by decide +kernel)
theorem zg_106 : (Jvm.Cond.not (Jvm.Cond.eq (Jvm.Term.static "SlackRows$Command" "MOVE" "LSlackRows$Command;") (Jvm.Term.static "SlackRows$Command" "LAST" "LSlackRows$Command;"))) ∈ zgv := List.mem_of_getElem? (i := 106) (by decide +kernel)
theorem zg_109 : (Jvm.Cond.not (Jvm.Cond.eq (Jvm.Term.static "SlackRows$Command" "GROUP" "LSlackRows$Command;") (Jvm.Term.static "SlackRows$Command" "LAST" "LSlackRows$Command;"))) ∈ zgv := List.mem_of_getElem? (i := 109) (by decide +kernel)
theorem zg_110 : (Jvm.Cond.not (Jvm.Cond.eq (Jvm.Term.static "SlackRows$Command" "TASK" "LSlackRows$Command;") (Jvm.Term.static "SlackRows$Command" "LAST" "LSlackRows$Command;"))) ∈ zgv := List.mem_of_getElem? (i := 110) (by decide +kernel)
theorem zg_111 : (Jvm.Cond.not (Jvm.Cond.eq (Jvm.Term.static "SlackRows$Command" "DROP" "LSlackRows$Command;") (Jvm.Term.static "SlackRows$Command" "LAST" "LSlackRows$Command;"))) ∈ zgv := List.mem_of_getElem? (i := 111) (by decide +kernel)
theorem zg_112 : (Jvm.Cond.exactly (Jvm.Term.static "SlackRows$Command" "BORROW" "LSlackRows$Command;") "SlackRows$Command") ∈ zgv := List.mem_of_getElem? (i := 112) (by decide +kernel)
theorem zg_113 : (Jvm.Cond.eq (Jvm.Term.field (Jvm.Term.static "SlackRows$Command" "BORROW" "LSlackRows$Command;") "java/lang/Enum" "ordinal" "I") (Jvm.Term.int (3 : Int32))) ∈ zgv := List.mem_of_getElem? (i := 113) (by decide +kernel)
theorem zg_115 : (Jvm.Cond.eq (Jvm.Term.field (Jvm.Term.static "SlackRows$Command" "BORROW" "LSlackRows$Command;") "SlackRows$Command" "numberCount" "I") (Jvm.Term.int (2 : Int32))) ∈ zgv := List.mem_of_getElem? (i := 115) (by decide +kernel)
theorem zg_116 : (Jvm.Cond.not (Jvm.Cond.eq (Jvm.Term.static "SlackRows$Command" "UNTIL" "LSlackRows$Command;") (Jvm.Term.static "SlackRows$Command" "BORROW" "LSlackRows$Command;"))) ∈ zgv := List.mem_of_getElem? (i := 116) (by decide +kernel)
theorem zg_119 : (Jvm.Cond.not (Jvm.Cond.eq (Jvm.Term.static "SlackRows$Command" "MOVE" "LSlackRows$Command;") (Jvm.Term.static "SlackRows$Command" "BORROW" "LSlackRows$Command;"))) ∈ zgv := List.mem_of_getElem? (i := 119) (by decide +kernel)
theorem zg_122 : (Jvm.Cond.not (Jvm.Cond.eq (Jvm.Term.static "SlackRows$Command" "GROUP" "LSlackRows$Command;") (Jvm.Term.static "SlackRows$Command" "BORROW" "LSlackRows$Command;"))) ∈ zgv := List.mem_of_getElem? (i := 122) (by decide +kernel)
theorem zg_123 : (Jvm.Cond.not (Jvm.Cond.eq (Jvm.Term.static "SlackRows$Command" "TASK" "LSlackRows$Command;") (Jvm.Term.static "SlackRows$Command" "BORROW" "LSlackRows$Command;"))) ∈ zgv := List.mem_of_getElem? (i := 123) (by decide +kernel)
theorem zg_124 : (Jvm.Cond.not (Jvm.Cond.eq (Jvm.Term.static "SlackRows$Command" "DROP" "LSlackRows$Command;") (Jvm.Term.static "SlackRows$Command" "BORROW" "LSlackRows$Command;"))) ∈ zgv := List.mem_of_getElem? (i := 124) (by decide +kernel)
theorem zg_125 : (Jvm.Cond.not (Jvm.Cond.eq (Jvm.Term.static "SlackRows$Command" "LAST" "LSlackRows$Command;") (Jvm.Term.static "SlackRows$Command" "BORROW" "LSlackRows$Command;"))) ∈ zgv := List.mem_of_getElem? (i := 125) (by decide +kernel)
theorem zg_126 : (Jvm.Cond.exactly (Jvm.Term.static "SlackRows$Command" "BACK" "LSlackRows$Command;") "SlackRows$Command") ∈ zgv := List.mem_of_getElem? (i := 126) (by decide +kernel)
theorem zg_127 : (Jvm.Cond.eq (Jvm.Term.field (Jvm.Term.static "SlackRows$Command" "BACK" "LSlackRows$Command;") "java/lang/Enum" "ordinal" "I") (Jvm.Term.int (4 : Int32))) ∈ zgv := List.mem_of_getElem? (i := 127) (by decide +kernel)
theorem zg_129 : (Jvm.Cond.eq (Jvm.Term.field (Jvm.Term.static "SlackRows$Command" "BACK" "LSlackRows$Command;") "SlackRows$Command" "numberCount" "I") (Jvm.Term.int (2 : Int32))) ∈ zgv := List.mem_of_getElem? (i := 129) (by decide +kernel)
theorem zg_130 : (Jvm.Cond.not (Jvm.Cond.eq (Jvm.Term.static "SlackRows$Command" "UNTIL" "LSlackRows$Command;") (Jvm.Term.static "SlackRows$Command" "BACK" "LSlackRows$Command;"))) ∈ zgv := List.mem_of_getElem? (i := 130) (by decide +kernel)
theorem zg_133 : (Jvm.Cond.not (Jvm.Cond.eq (Jvm.Term.static "SlackRows$Command" "MOVE" "LSlackRows$Command;") (Jvm.Term.static "SlackRows$Command" "BACK" "LSlackRows$Command;"))) ∈ zgv := List.mem_of_getElem? (i := 133) (by decide +kernel)
theorem zg_136 : (Jvm.Cond.not (Jvm.Cond.eq (Jvm.Term.static "SlackRows$Command" "GROUP" "LSlackRows$Command;") (Jvm.Term.static "SlackRows$Command" "BACK" "LSlackRows$Command;"))) ∈ zgv := List.mem_of_getElem? (i := 136) (by decide +kernel)
theorem zg_137 : (Jvm.Cond.not (Jvm.Cond.eq (Jvm.Term.static "SlackRows$Command" "TASK" "LSlackRows$Command;") (Jvm.Term.static "SlackRows$Command" "BACK" "LSlackRows$Command;"))) ∈ zgv := List.mem_of_getElem? (i := 137) (by decide +kernel)
theorem zg_138 : (Jvm.Cond.not (Jvm.Cond.eq (Jvm.Term.static "SlackRows$Command" "DROP" "LSlackRows$Command;") (Jvm.Term.static "SlackRows$Command" "BACK" "LSlackRows$Command;"))) ∈ zgv := List.mem_of_getElem? (i := 138) (by decide +kernel)
theorem zg_139 : (Jvm.Cond.not (Jvm.Cond.eq (Jvm.Term.static "SlackRows$Command" "LAST" "LSlackRows$Command;") (Jvm.Term.static "SlackRows$Command" "BACK" "LSlackRows$Command;"))) ∈ zgv := List.mem_of_getElem? (i := 139) (by decide +kernel)
theorem zg_140 : (Jvm.Cond.not (Jvm.Cond.eq (Jvm.Term.static "SlackRows$Command" "BORROW" "LSlackRows$Command;") (Jvm.Term.static "SlackRows$Command" "BACK" "LSlackRows$Command;"))) ∈ zgv := List.mem_of_getElem? (i := 140) (by decide +kernel)
theorem zg_148 : (Jvm.Cond.not (Jvm.Cond.castable "java/lang/IllegalArgumentException" "java/lang/IndexOutOfBoundsException")) ∈ zgv := List.mem_of_getElem? (i := 148) (by decide +kernel)
theorem zg_149 : (Jvm.Cond.not (Jvm.Cond.castable "java/lang/IllegalStateException" "java/lang/IndexOutOfBoundsException")) ∈ zgv := List.mem_of_getElem? (i := 149) (by decide +kernel)
theorem zg_157 : (Jvm.Cond.not (Jvm.Cond.castable "java/lang/IndexOutOfBoundsException" "java/lang/IllegalArgumentException")) ∈ zgv := List.mem_of_getElem? (i := 157) (by decide +kernel)
theorem zg_158 : (Jvm.Cond.not (Jvm.Cond.castable "java/lang/IllegalStateException" "java/lang/IllegalArgumentException")) ∈ zgv := List.mem_of_getElem? (i := 158) (by decide +kernel)
theorem zg_166 : (Jvm.Cond.not (Jvm.Cond.castable "java/lang/IndexOutOfBoundsException" "java/lang/IllegalStateException")) ∈ zgv := List.mem_of_getElem? (i := 166) (by decide +kernel)
theorem zg_167 : (Jvm.Cond.not (Jvm.Cond.castable "java/lang/IllegalArgumentException" "java/lang/IllegalStateException")) ∈ zgv := List.mem_of_getElem? (i := 167) (by decide +kernel)
theorem zg_407 : (Jvm.Cond.exactly (Jvm.Term.string "SlackRows$Command" (80 : Nat)) "java/lang/String") ∈ zgv := List.mem_of_getElem? (i := 407) (by decide +kernel)
theorem zg_408 : (Jvm.Cond.eq (Jvm.Term.field (Jvm.Term.string "SlackRows$Command" (80 : Nat)) "java/lang/String" "coder" "B") (Jvm.Term.int (0 : Int32))) ∈ zgv := List.mem_of_getElem? (i := 408) (by decide +kernel)
theorem zg_409 : (Jvm.Cond.arrayOf (Jvm.Term.field (Jvm.Term.string "SlackRows$Command" (80 : Nat)) "java/lang/String" "value" "[B") Jvm.ClassFile.FieldType.byte) ∈ zgv := List.mem_of_getElem? (i := 409) (by decide +kernel)
theorem zg_410 : (Jvm.Cond.eq (Jvm.Term.length (Jvm.Term.field (Jvm.Term.string "SlackRows$Command" (80 : Nat)) "java/lang/String" "value" "[B")) (Jvm.Term.int (5 : Int32))) ∈ zgv := List.mem_of_getElem? (i := 410) (by decide +kernel)
theorem zg_411 : (Jvm.Cond.eq (Jvm.Term.elem (Jvm.Term.field (Jvm.Term.string "SlackRows$Command" (80 : Nat)) "java/lang/String" "value" "[B") (Jvm.Term.int (0 : Int32))) (Jvm.Term.int (117 : Int32))) ∈ zgv := List.mem_of_getElem? (i := 411) (by decide +kernel)
theorem zg_412 : (Jvm.Cond.eq (Jvm.Term.elem (Jvm.Term.field (Jvm.Term.string "SlackRows$Command" (80 : Nat)) "java/lang/String" "value" "[B") (Jvm.Term.int (1 : Int32))) (Jvm.Term.int (110 : Int32))) ∈ zgv := List.mem_of_getElem? (i := 412) (by decide +kernel)
theorem zg_413 : (Jvm.Cond.eq (Jvm.Term.elem (Jvm.Term.field (Jvm.Term.string "SlackRows$Command" (80 : Nat)) "java/lang/String" "value" "[B") (Jvm.Term.int (2 : Int32))) (Jvm.Term.int (116 : Int32))) ∈ zgv := List.mem_of_getElem? (i := 413) (by decide +kernel)
theorem zg_414 : (Jvm.Cond.eq (Jvm.Term.elem (Jvm.Term.field (Jvm.Term.string "SlackRows$Command" (80 : Nat)) "java/lang/String" "value" "[B") (Jvm.Term.int (3 : Int32))) (Jvm.Term.int (105 : Int32))) ∈ zgv := List.mem_of_getElem? (i := 414) (by decide +kernel)
theorem zg_415 : (Jvm.Cond.eq (Jvm.Term.elem (Jvm.Term.field (Jvm.Term.string "SlackRows$Command" (80 : Nat)) "java/lang/String" "value" "[B") (Jvm.Term.int (4 : Int32))) (Jvm.Term.int (108 : Int32))) ∈ zgv := List.mem_of_getElem? (i := 415) (by decide +kernel)
theorem zg_424 : (Jvm.Cond.exactly (Jvm.Term.string "SlackRows$Command" (74 : Nat)) "java/lang/String") ∈ zgv := List.mem_of_getElem? (i := 424) (by decide +kernel)
theorem zg_425 : (Jvm.Cond.eq (Jvm.Term.field (Jvm.Term.string "SlackRows$Command" (74 : Nat)) "java/lang/String" "coder" "B") (Jvm.Term.int (0 : Int32))) ∈ zgv := List.mem_of_getElem? (i := 425) (by decide +kernel)
theorem zg_426 : (Jvm.Cond.arrayOf (Jvm.Term.field (Jvm.Term.string "SlackRows$Command" (74 : Nat)) "java/lang/String" "value" "[B") Jvm.ClassFile.FieldType.byte) ∈ zgv := List.mem_of_getElem? (i := 426) (by decide +kernel)
theorem zg_427 : (Jvm.Cond.eq (Jvm.Term.length (Jvm.Term.field (Jvm.Term.string "SlackRows$Command" (74 : Nat)) "java/lang/String" "value" "[B")) (Jvm.Term.int (4 : Int32))) ∈ zgv := List.mem_of_getElem? (i := 427) (by decide +kernel)
theorem zg_428 : (Jvm.Cond.eq (Jvm.Term.elem (Jvm.Term.field (Jvm.Term.string "SlackRows$Command" (74 : Nat)) "java/lang/String" "value" "[B") (Jvm.Term.int (0 : Int32))) (Jvm.Term.int (109 : Int32))) ∈ zgv := List.mem_of_getElem? (i := 428) (by decide +kernel)
theorem zg_429 : (Jvm.Cond.eq (Jvm.Term.elem (Jvm.Term.field (Jvm.Term.string "SlackRows$Command" (74 : Nat)) "java/lang/String" "value" "[B") (Jvm.Term.int (1 : Int32))) (Jvm.Term.int (111 : Int32))) ∈ zgv := List.mem_of_getElem? (i := 429) (by decide +kernel)
theorem zg_430 : (Jvm.Cond.eq (Jvm.Term.elem (Jvm.Term.field (Jvm.Term.string "SlackRows$Command" (74 : Nat)) "java/lang/String" "value" "[B") (Jvm.Term.int (2 : Int32))) (Jvm.Term.int (118 : Int32))) ∈ zgv := List.mem_of_getElem? (i := 430) (by decide +kernel)
theorem zg_431 : (Jvm.Cond.eq (Jvm.Term.elem (Jvm.Term.field (Jvm.Term.string "SlackRows$Command" (74 : Nat)) "java/lang/String" "value" "[B") (Jvm.Term.int (3 : Int32))) (Jvm.Term.int (101 : Int32))) ∈ zgv := List.mem_of_getElem? (i := 431) (by decide +kernel)
theorem zg_440 : (Jvm.Cond.not (Jvm.Cond.eq (Jvm.Term.string "SlackRows$Command" (80 : Nat)) (Jvm.Term.string "SlackRows$Command" (74 : Nat)))) ∈ zgv := List.mem_of_getElem? (i := 440) (by decide +kernel)
theorem zg_441 : (Jvm.Cond.exactly (Jvm.Term.string "SlackRows$Command" (56 : Nat)) "java/lang/String") ∈ zgv := List.mem_of_getElem? (i := 441) (by decide +kernel)
theorem zg_442 : (Jvm.Cond.eq (Jvm.Term.field (Jvm.Term.string "SlackRows$Command" (56 : Nat)) "java/lang/String" "coder" "B") (Jvm.Term.int (0 : Int32))) ∈ zgv := List.mem_of_getElem? (i := 442) (by decide +kernel)
theorem zg_443 : (Jvm.Cond.arrayOf (Jvm.Term.field (Jvm.Term.string "SlackRows$Command" (56 : Nat)) "java/lang/String" "value" "[B") Jvm.ClassFile.FieldType.byte) ∈ zgv := List.mem_of_getElem? (i := 443) (by decide +kernel)
theorem zg_444 : (Jvm.Cond.eq (Jvm.Term.length (Jvm.Term.field (Jvm.Term.string "SlackRows$Command" (56 : Nat)) "java/lang/String" "value" "[B")) (Jvm.Term.int (5 : Int32))) ∈ zgv := List.mem_of_getElem? (i := 444) (by decide +kernel)
theorem zg_445 : (Jvm.Cond.eq (Jvm.Term.elem (Jvm.Term.field (Jvm.Term.string "SlackRows$Command" (56 : Nat)) "java/lang/String" "value" "[B") (Jvm.Term.int (0 : Int32))) (Jvm.Term.int (103 : Int32))) ∈ zgv := List.mem_of_getElem? (i := 445) (by decide +kernel)
theorem zg_446 : (Jvm.Cond.eq (Jvm.Term.elem (Jvm.Term.field (Jvm.Term.string "SlackRows$Command" (56 : Nat)) "java/lang/String" "value" "[B") (Jvm.Term.int (1 : Int32))) (Jvm.Term.int (114 : Int32))) ∈ zgv := List.mem_of_getElem? (i := 446) (by decide +kernel)
theorem zg_447 : (Jvm.Cond.eq (Jvm.Term.elem (Jvm.Term.field (Jvm.Term.string "SlackRows$Command" (56 : Nat)) "java/lang/String" "value" "[B") (Jvm.Term.int (2 : Int32))) (Jvm.Term.int (111 : Int32))) ∈ zgv := List.mem_of_getElem? (i := 447) (by decide +kernel)
theorem zg_448 : (Jvm.Cond.eq (Jvm.Term.elem (Jvm.Term.field (Jvm.Term.string "SlackRows$Command" (56 : Nat)) "java/lang/String" "value" "[B") (Jvm.Term.int (3 : Int32))) (Jvm.Term.int (117 : Int32))) ∈ zgv := List.mem_of_getElem? (i := 448) (by decide +kernel)
theorem zg_449 : (Jvm.Cond.eq (Jvm.Term.elem (Jvm.Term.field (Jvm.Term.string "SlackRows$Command" (56 : Nat)) "java/lang/String" "value" "[B") (Jvm.Term.int (4 : Int32))) (Jvm.Term.int (112 : Int32))) ∈ zgv := List.mem_of_getElem? (i := 449) (by decide +kernel)
theorem zg_458 : (Jvm.Cond.not (Jvm.Cond.eq (Jvm.Term.string "SlackRows$Command" (80 : Nat)) (Jvm.Term.string "SlackRows$Command" (56 : Nat)))) ∈ zgv := List.mem_of_getElem? (i := 458) (by decide +kernel)
theorem zg_459 : (Jvm.Cond.not (Jvm.Cond.eq (Jvm.Term.string "SlackRows$Command" (74 : Nat)) (Jvm.Term.string "SlackRows$Command" (56 : Nat)))) ∈ zgv := List.mem_of_getElem? (i := 459) (by decide +kernel)
theorem zg_460 : (Jvm.Cond.exactly (Jvm.Term.string "SlackRows$Command" (62 : Nat)) "java/lang/String") ∈ zgv := List.mem_of_getElem? (i := 460) (by decide +kernel)
theorem zg_461 : (Jvm.Cond.eq (Jvm.Term.field (Jvm.Term.string "SlackRows$Command" (62 : Nat)) "java/lang/String" "coder" "B") (Jvm.Term.int (0 : Int32))) ∈ zgv := List.mem_of_getElem? (i := 461) (by decide +kernel)
theorem zg_462 : (Jvm.Cond.arrayOf (Jvm.Term.field (Jvm.Term.string "SlackRows$Command" (62 : Nat)) "java/lang/String" "value" "[B") Jvm.ClassFile.FieldType.byte) ∈ zgv := List.mem_of_getElem? (i := 462) (by decide +kernel)
theorem zg_463 : (Jvm.Cond.eq (Jvm.Term.length (Jvm.Term.field (Jvm.Term.string "SlackRows$Command" (62 : Nat)) "java/lang/String" "value" "[B")) (Jvm.Term.int (4 : Int32))) ∈ zgv := List.mem_of_getElem? (i := 463) (by decide +kernel)
theorem zg_464 : (Jvm.Cond.eq (Jvm.Term.elem (Jvm.Term.field (Jvm.Term.string "SlackRows$Command" (62 : Nat)) "java/lang/String" "value" "[B") (Jvm.Term.int (0 : Int32))) (Jvm.Term.int (116 : Int32))) ∈ zgv := List.mem_of_getElem? (i := 464) (by decide +kernel)
theorem zg_465 : (Jvm.Cond.eq (Jvm.Term.elem (Jvm.Term.field (Jvm.Term.string "SlackRows$Command" (62 : Nat)) "java/lang/String" "value" "[B") (Jvm.Term.int (1 : Int32))) (Jvm.Term.int (97 : Int32))) ∈ zgv := List.mem_of_getElem? (i := 465) (by decide +kernel)
theorem zg_466 : (Jvm.Cond.eq (Jvm.Term.elem (Jvm.Term.field (Jvm.Term.string "SlackRows$Command" (62 : Nat)) "java/lang/String" "value" "[B") (Jvm.Term.int (2 : Int32))) (Jvm.Term.int (115 : Int32))) ∈ zgv := List.mem_of_getElem? (i := 466) (by decide +kernel)
theorem zg_467 : (Jvm.Cond.eq (Jvm.Term.elem (Jvm.Term.field (Jvm.Term.string "SlackRows$Command" (62 : Nat)) "java/lang/String" "value" "[B") (Jvm.Term.int (3 : Int32))) (Jvm.Term.int (107 : Int32))) ∈ zgv := List.mem_of_getElem? (i := 467) (by decide +kernel)
theorem zg_476 : (Jvm.Cond.not (Jvm.Cond.eq (Jvm.Term.string "SlackRows$Command" (80 : Nat)) (Jvm.Term.string "SlackRows$Command" (62 : Nat)))) ∈ zgv := List.mem_of_getElem? (i := 476) (by decide +kernel)
theorem zg_477 : (Jvm.Cond.not (Jvm.Cond.eq (Jvm.Term.string "SlackRows$Command" (74 : Nat)) (Jvm.Term.string "SlackRows$Command" (62 : Nat)))) ∈ zgv := List.mem_of_getElem? (i := 477) (by decide +kernel)
theorem zg_478 : (Jvm.Cond.not (Jvm.Cond.eq (Jvm.Term.string "SlackRows$Command" (56 : Nat)) (Jvm.Term.string "SlackRows$Command" (62 : Nat)))) ∈ zgv := List.mem_of_getElem? (i := 478) (by decide +kernel)
theorem zg_479 : (Jvm.Cond.exactly (Jvm.Term.string "SlackRows$Command" (77 : Nat)) "java/lang/String") ∈ zgv := List.mem_of_getElem? (i := 479) (by decide +kernel)
theorem zg_480 : (Jvm.Cond.eq (Jvm.Term.field (Jvm.Term.string "SlackRows$Command" (77 : Nat)) "java/lang/String" "coder" "B") (Jvm.Term.int (0 : Int32))) ∈ zgv := List.mem_of_getElem? (i := 480) (by decide +kernel)
theorem zg_481 : (Jvm.Cond.arrayOf (Jvm.Term.field (Jvm.Term.string "SlackRows$Command" (77 : Nat)) "java/lang/String" "value" "[B") Jvm.ClassFile.FieldType.byte) ∈ zgv := List.mem_of_getElem? (i := 481) (by decide +kernel)
theorem zg_482 : (Jvm.Cond.eq (Jvm.Term.length (Jvm.Term.field (Jvm.Term.string "SlackRows$Command" (77 : Nat)) "java/lang/String" "value" "[B")) (Jvm.Term.int (4 : Int32))) ∈ zgv := List.mem_of_getElem? (i := 482) (by decide +kernel)
theorem zg_483 : (Jvm.Cond.eq (Jvm.Term.elem (Jvm.Term.field (Jvm.Term.string "SlackRows$Command" (77 : Nat)) "java/lang/String" "value" "[B") (Jvm.Term.int (0 : Int32))) (Jvm.Term.int (100 : Int32))) ∈ zgv := List.mem_of_getElem? (i := 483) (by decide +kernel)
theorem zg_484 : (Jvm.Cond.eq (Jvm.Term.elem (Jvm.Term.field (Jvm.Term.string "SlackRows$Command" (77 : Nat)) "java/lang/String" "value" "[B") (Jvm.Term.int (1 : Int32))) (Jvm.Term.int (114 : Int32))) ∈ zgv := List.mem_of_getElem? (i := 484) (by decide +kernel)
theorem zg_485 : (Jvm.Cond.eq (Jvm.Term.elem (Jvm.Term.field (Jvm.Term.string "SlackRows$Command" (77 : Nat)) "java/lang/String" "value" "[B") (Jvm.Term.int (2 : Int32))) (Jvm.Term.int (111 : Int32))) ∈ zgv := List.mem_of_getElem? (i := 485) (by decide +kernel)
theorem zg_486 : (Jvm.Cond.eq (Jvm.Term.elem (Jvm.Term.field (Jvm.Term.string "SlackRows$Command" (77 : Nat)) "java/lang/String" "value" "[B") (Jvm.Term.int (3 : Int32))) (Jvm.Term.int (112 : Int32))) ∈ zgv := List.mem_of_getElem? (i := 486) (by decide +kernel)
theorem zg_495 : (Jvm.Cond.not (Jvm.Cond.eq (Jvm.Term.string "SlackRows$Command" (80 : Nat)) (Jvm.Term.string "SlackRows$Command" (77 : Nat)))) ∈ zgv := List.mem_of_getElem? (i := 495) (by decide +kernel)
theorem zg_496 : (Jvm.Cond.not (Jvm.Cond.eq (Jvm.Term.string "SlackRows$Command" (74 : Nat)) (Jvm.Term.string "SlackRows$Command" (77 : Nat)))) ∈ zgv := List.mem_of_getElem? (i := 496) (by decide +kernel)
theorem zg_497 : (Jvm.Cond.not (Jvm.Cond.eq (Jvm.Term.string "SlackRows$Command" (56 : Nat)) (Jvm.Term.string "SlackRows$Command" (77 : Nat)))) ∈ zgv := List.mem_of_getElem? (i := 497) (by decide +kernel)
theorem zg_498 : (Jvm.Cond.not (Jvm.Cond.eq (Jvm.Term.string "SlackRows$Command" (62 : Nat)) (Jvm.Term.string "SlackRows$Command" (77 : Nat)))) ∈ zgv := List.mem_of_getElem? (i := 498) (by decide +kernel)
theorem zg_499 : (Jvm.Cond.exactly (Jvm.Term.string "SlackRows$Command" (65 : Nat)) "java/lang/String") ∈ zgv := List.mem_of_getElem? (i := 499) (by decide +kernel)
theorem zg_500 : (Jvm.Cond.eq (Jvm.Term.field (Jvm.Term.string "SlackRows$Command" (65 : Nat)) "java/lang/String" "coder" "B") (Jvm.Term.int (0 : Int32))) ∈ zgv := List.mem_of_getElem? (i := 500) (by decide +kernel)
theorem zg_501 : (Jvm.Cond.arrayOf (Jvm.Term.field (Jvm.Term.string "SlackRows$Command" (65 : Nat)) "java/lang/String" "value" "[B") Jvm.ClassFile.FieldType.byte) ∈ zgv := List.mem_of_getElem? (i := 501) (by decide +kernel)
theorem zg_502 : (Jvm.Cond.eq (Jvm.Term.length (Jvm.Term.field (Jvm.Term.string "SlackRows$Command" (65 : Nat)) "java/lang/String" "value" "[B")) (Jvm.Term.int (4 : Int32))) ∈ zgv := List.mem_of_getElem? (i := 502) (by decide +kernel)
theorem zg_503 : (Jvm.Cond.eq (Jvm.Term.elem (Jvm.Term.field (Jvm.Term.string "SlackRows$Command" (65 : Nat)) "java/lang/String" "value" "[B") (Jvm.Term.int (0 : Int32))) (Jvm.Term.int (108 : Int32))) ∈ zgv := List.mem_of_getElem? (i := 503) (by decide +kernel)
theorem zg_504 : (Jvm.Cond.eq (Jvm.Term.elem (Jvm.Term.field (Jvm.Term.string "SlackRows$Command" (65 : Nat)) "java/lang/String" "value" "[B") (Jvm.Term.int (1 : Int32))) (Jvm.Term.int (97 : Int32))) ∈ zgv := List.mem_of_getElem? (i := 504) (by decide +kernel)
theorem zg_505 : (Jvm.Cond.eq (Jvm.Term.elem (Jvm.Term.field (Jvm.Term.string "SlackRows$Command" (65 : Nat)) "java/lang/String" "value" "[B") (Jvm.Term.int (2 : Int32))) (Jvm.Term.int (115 : Int32))) ∈ zgv := List.mem_of_getElem? (i := 505) (by decide +kernel)
theorem zg_506 : (Jvm.Cond.eq (Jvm.Term.elem (Jvm.Term.field (Jvm.Term.string "SlackRows$Command" (65 : Nat)) "java/lang/String" "value" "[B") (Jvm.Term.int (3 : Int32))) (Jvm.Term.int (116 : Int32))) ∈ zgv := List.mem_of_getElem? (i := 506) (by decide +kernel)
theorem zg_515 : (Jvm.Cond.not (Jvm.Cond.eq (Jvm.Term.string "SlackRows$Command" (80 : Nat)) (Jvm.Term.string "SlackRows$Command" (65 : Nat)))) ∈ zgv := List.mem_of_getElem? (i := 515) (by decide +kernel)
theorem zg_516 : (Jvm.Cond.not (Jvm.Cond.eq (Jvm.Term.string "SlackRows$Command" (74 : Nat)) (Jvm.Term.string "SlackRows$Command" (65 : Nat)))) ∈ zgv := List.mem_of_getElem? (i := 516) (by decide +kernel)
theorem zg_517 : (Jvm.Cond.not (Jvm.Cond.eq (Jvm.Term.string "SlackRows$Command" (56 : Nat)) (Jvm.Term.string "SlackRows$Command" (65 : Nat)))) ∈ zgv := List.mem_of_getElem? (i := 517) (by decide +kernel)
theorem zg_518 : (Jvm.Cond.not (Jvm.Cond.eq (Jvm.Term.string "SlackRows$Command" (62 : Nat)) (Jvm.Term.string "SlackRows$Command" (65 : Nat)))) ∈ zgv := List.mem_of_getElem? (i := 518) (by decide +kernel)
theorem zg_519 : (Jvm.Cond.not (Jvm.Cond.eq (Jvm.Term.string "SlackRows$Command" (77 : Nat)) (Jvm.Term.string "SlackRows$Command" (65 : Nat)))) ∈ zgv := List.mem_of_getElem? (i := 519) (by decide +kernel)
theorem zg_520 : (Jvm.Cond.exactly (Jvm.Term.string "SlackRows$Command" (68 : Nat)) "java/lang/String") ∈ zgv := List.mem_of_getElem? (i := 520) (by decide +kernel)
theorem zg_521 : (Jvm.Cond.eq (Jvm.Term.field (Jvm.Term.string "SlackRows$Command" (68 : Nat)) "java/lang/String" "coder" "B") (Jvm.Term.int (0 : Int32))) ∈ zgv := List.mem_of_getElem? (i := 521) (by decide +kernel)
theorem zg_522 : (Jvm.Cond.arrayOf (Jvm.Term.field (Jvm.Term.string "SlackRows$Command" (68 : Nat)) "java/lang/String" "value" "[B") Jvm.ClassFile.FieldType.byte) ∈ zgv := List.mem_of_getElem? (i := 522) (by decide +kernel)
theorem zg_523 : (Jvm.Cond.eq (Jvm.Term.length (Jvm.Term.field (Jvm.Term.string "SlackRows$Command" (68 : Nat)) "java/lang/String" "value" "[B")) (Jvm.Term.int (6 : Int32))) ∈ zgv := List.mem_of_getElem? (i := 523) (by decide +kernel)
theorem zg_524 : (Jvm.Cond.eq (Jvm.Term.elem (Jvm.Term.field (Jvm.Term.string "SlackRows$Command" (68 : Nat)) "java/lang/String" "value" "[B") (Jvm.Term.int (0 : Int32))) (Jvm.Term.int (98 : Int32))) ∈ zgv := List.mem_of_getElem? (i := 524) (by decide +kernel)
theorem zg_525 : (Jvm.Cond.eq (Jvm.Term.elem (Jvm.Term.field (Jvm.Term.string "SlackRows$Command" (68 : Nat)) "java/lang/String" "value" "[B") (Jvm.Term.int (1 : Int32))) (Jvm.Term.int (111 : Int32))) ∈ zgv := List.mem_of_getElem? (i := 525) (by decide +kernel)
theorem zg_526 : (Jvm.Cond.eq (Jvm.Term.elem (Jvm.Term.field (Jvm.Term.string "SlackRows$Command" (68 : Nat)) "java/lang/String" "value" "[B") (Jvm.Term.int (2 : Int32))) (Jvm.Term.int (114 : Int32))) ∈ zgv := List.mem_of_getElem? (i := 526) (by decide +kernel)
theorem zg_527 : (Jvm.Cond.eq (Jvm.Term.elem (Jvm.Term.field (Jvm.Term.string "SlackRows$Command" (68 : Nat)) "java/lang/String" "value" "[B") (Jvm.Term.int (3 : Int32))) (Jvm.Term.int (114 : Int32))) ∈ zgv := List.mem_of_getElem? (i := 527) (by decide +kernel)
theorem zg_528 : (Jvm.Cond.eq (Jvm.Term.elem (Jvm.Term.field (Jvm.Term.string "SlackRows$Command" (68 : Nat)) "java/lang/String" "value" "[B") (Jvm.Term.int (4 : Int32))) (Jvm.Term.int (111 : Int32))) ∈ zgv := List.mem_of_getElem? (i := 528) (by decide +kernel)
theorem zg_529 : (Jvm.Cond.eq (Jvm.Term.elem (Jvm.Term.field (Jvm.Term.string "SlackRows$Command" (68 : Nat)) "java/lang/String" "value" "[B") (Jvm.Term.int (5 : Int32))) (Jvm.Term.int (119 : Int32))) ∈ zgv := List.mem_of_getElem? (i := 529) (by decide +kernel)
theorem zg_538 : (Jvm.Cond.not (Jvm.Cond.eq (Jvm.Term.string "SlackRows$Command" (80 : Nat)) (Jvm.Term.string "SlackRows$Command" (68 : Nat)))) ∈ zgv := List.mem_of_getElem? (i := 538) (by decide +kernel)
theorem zg_539 : (Jvm.Cond.not (Jvm.Cond.eq (Jvm.Term.string "SlackRows$Command" (74 : Nat)) (Jvm.Term.string "SlackRows$Command" (68 : Nat)))) ∈ zgv := List.mem_of_getElem? (i := 539) (by decide +kernel)
theorem zg_540 : (Jvm.Cond.not (Jvm.Cond.eq (Jvm.Term.string "SlackRows$Command" (56 : Nat)) (Jvm.Term.string "SlackRows$Command" (68 : Nat)))) ∈ zgv := List.mem_of_getElem? (i := 540) (by decide +kernel)
theorem zg_541 : (Jvm.Cond.not (Jvm.Cond.eq (Jvm.Term.string "SlackRows$Command" (62 : Nat)) (Jvm.Term.string "SlackRows$Command" (68 : Nat)))) ∈ zgv := List.mem_of_getElem? (i := 541) (by decide +kernel)
theorem zg_542 : (Jvm.Cond.not (Jvm.Cond.eq (Jvm.Term.string "SlackRows$Command" (77 : Nat)) (Jvm.Term.string "SlackRows$Command" (68 : Nat)))) ∈ zgv := List.mem_of_getElem? (i := 542) (by decide +kernel)
theorem zg_543 : (Jvm.Cond.not (Jvm.Cond.eq (Jvm.Term.string "SlackRows$Command" (65 : Nat)) (Jvm.Term.string "SlackRows$Command" (68 : Nat)))) ∈ zgv := List.mem_of_getElem? (i := 543) (by decide +kernel)
theorem zg_544 : (Jvm.Cond.exactly (Jvm.Term.string "SlackRows$Command" (71 : Nat)) "java/lang/String") ∈ zgv := List.mem_of_getElem? (i := 544) (by decide +kernel)
theorem zg_545 : (Jvm.Cond.eq (Jvm.Term.field (Jvm.Term.string "SlackRows$Command" (71 : Nat)) "java/lang/String" "coder" "B") (Jvm.Term.int (0 : Int32))) ∈ zgv := List.mem_of_getElem? (i := 545) (by decide +kernel)
theorem zg_546 : (Jvm.Cond.arrayOf (Jvm.Term.field (Jvm.Term.string "SlackRows$Command" (71 : Nat)) "java/lang/String" "value" "[B") Jvm.ClassFile.FieldType.byte) ∈ zgv := List.mem_of_getElem? (i := 546) (by decide +kernel)
theorem zg_547 : (Jvm.Cond.eq (Jvm.Term.length (Jvm.Term.field (Jvm.Term.string "SlackRows$Command" (71 : Nat)) "java/lang/String" "value" "[B")) (Jvm.Term.int (4 : Int32))) ∈ zgv := List.mem_of_getElem? (i := 547) (by decide +kernel)
theorem zg_548 : (Jvm.Cond.eq (Jvm.Term.elem (Jvm.Term.field (Jvm.Term.string "SlackRows$Command" (71 : Nat)) "java/lang/String" "value" "[B") (Jvm.Term.int (0 : Int32))) (Jvm.Term.int (98 : Int32))) ∈ zgv := List.mem_of_getElem? (i := 548) (by decide +kernel)
theorem zg_549 : (Jvm.Cond.eq (Jvm.Term.elem (Jvm.Term.field (Jvm.Term.string "SlackRows$Command" (71 : Nat)) "java/lang/String" "value" "[B") (Jvm.Term.int (1 : Int32))) (Jvm.Term.int (97 : Int32))) ∈ zgv := List.mem_of_getElem? (i := 549) (by decide +kernel)
theorem zg_550 : (Jvm.Cond.eq (Jvm.Term.elem (Jvm.Term.field (Jvm.Term.string "SlackRows$Command" (71 : Nat)) "java/lang/String" "value" "[B") (Jvm.Term.int (2 : Int32))) (Jvm.Term.int (99 : Int32))) ∈ zgv := List.mem_of_getElem? (i := 550) (by decide +kernel)
theorem zg_551 : (Jvm.Cond.eq (Jvm.Term.elem (Jvm.Term.field (Jvm.Term.string "SlackRows$Command" (71 : Nat)) "java/lang/String" "value" "[B") (Jvm.Term.int (3 : Int32))) (Jvm.Term.int (107 : Int32))) ∈ zgv := List.mem_of_getElem? (i := 551) (by decide +kernel)
theorem zg_560 : (Jvm.Cond.not (Jvm.Cond.eq (Jvm.Term.string "SlackRows$Command" (80 : Nat)) (Jvm.Term.string "SlackRows$Command" (71 : Nat)))) ∈ zgv := List.mem_of_getElem? (i := 560) (by decide +kernel)
theorem zg_561 : (Jvm.Cond.not (Jvm.Cond.eq (Jvm.Term.string "SlackRows$Command" (74 : Nat)) (Jvm.Term.string "SlackRows$Command" (71 : Nat)))) ∈ zgv := List.mem_of_getElem? (i := 561) (by decide +kernel)
theorem zg_562 : (Jvm.Cond.not (Jvm.Cond.eq (Jvm.Term.string "SlackRows$Command" (56 : Nat)) (Jvm.Term.string "SlackRows$Command" (71 : Nat)))) ∈ zgv := List.mem_of_getElem? (i := 562) (by decide +kernel)
theorem zg_563 : (Jvm.Cond.not (Jvm.Cond.eq (Jvm.Term.string "SlackRows$Command" (62 : Nat)) (Jvm.Term.string "SlackRows$Command" (71 : Nat)))) ∈ zgv := List.mem_of_getElem? (i := 563) (by decide +kernel)
theorem zg_564 : (Jvm.Cond.not (Jvm.Cond.eq (Jvm.Term.string "SlackRows$Command" (77 : Nat)) (Jvm.Term.string "SlackRows$Command" (71 : Nat)))) ∈ zgv := List.mem_of_getElem? (i := 564) (by decide +kernel)
theorem zg_565 : (Jvm.Cond.not (Jvm.Cond.eq (Jvm.Term.string "SlackRows$Command" (65 : Nat)) (Jvm.Term.string "SlackRows$Command" (71 : Nat)))) ∈ zgv := List.mem_of_getElem? (i := 565) (by decide +kernel)
theorem zg_566 : (Jvm.Cond.not (Jvm.Cond.eq (Jvm.Term.string "SlackRows$Command" (68 : Nat)) (Jvm.Term.string "SlackRows$Command" (71 : Nat)))) ∈ zgv := List.mem_of_getElem? (i := 566) (by decide +kernel)
theorem z_nest {s : State} {a0 : Array Value} (hts : ∀ w ∈ lw_tbl, w.before a0 s = true) : (∀ q ∈ zNestM, va_Nw (.methodLinkNest q.1 q.2.1 q.2.2.1 q.2.2.2) s) ∧ va_Nw (.fieldLinkNest "SlackRows$CommandText" 65 "SlackRows" "COMMANDS" "[LSlackRows$Command;" "SlackRows") s :=
  ⟨List.forall_mem_cons.mpr ⟨va_Nw.of (A := a0) rfl (hts _ (List.mem_of_getElem? (i := 121) (by decide +kernel))), List.forall_mem_cons.mpr ⟨va_Nw.of (A := a0) rfl (hts _ (List.mem_of_getElem? (i := 154) (by decide +kernel))), List.forall_mem_cons.mpr ⟨va_Nw.of (A := a0) rfl (hts _ (List.mem_of_getElem? (i := 320) (by decide +kernel))), List.forall_mem_cons.mpr ⟨va_Nw.of (A := a0) rfl (hts _ (List.mem_of_getElem? (i := 420) (by decide +kernel))), List.forall_mem_cons.mpr ⟨va_Nw.of (A := a0) rfl (hts _ (List.mem_of_getElem? (i := 601) (by decide +kernel))), fun _ h => absurd h List.not_mem_nil⟩⟩⟩⟩⟩, va_Nw.of (A := a0) rfl (hts _ (List.mem_of_getElem? (i := 323) (by decide +kernel)))⟩
theorem z_exc {s : State} {a0 : Array Value} (hts : ∀ w ∈ lw_tbl, w.before a0 s = true) : (∀ k, k < 3 → va_Nw (.castable (zEx k) (zEx k)) s) ∧ ∀ x ∈ zDecl, va_Nw (.declares x) s :=
  ⟨fun i hi => match i, hi with
      | 0, _ => va_Nw.of (A := a0) rfl (hts _ (List.mem_of_getElem? (i := 643) (by decide +kernel)))
      | 1, _ => va_Nw.of (A := a0) rfl (hts _ (List.mem_of_getElem? (i := 712) (by decide +kernel)))
      | 2, _ => va_Nw.of (A := a0) rfl (hts _ (List.mem_of_getElem? (i := 729) (by decide +kernel)))
      | k + 3, hk => absurd hk (Nat.not_lt.mpr (show 3 ≤ k + 3 from Nat.le_add_left 3 k)), List.forall_mem_cons.mpr ⟨va_Nw.of (A := a0) rfl (hts _ (List.mem_of_getElem? (i := 646) (by decide +kernel))), List.forall_mem_cons.mpr ⟨va_Nw.of (A := a0) rfl (hts _ (List.mem_of_getElem? (i := 647) (by decide +kernel))), List.forall_mem_cons.mpr ⟨va_Nw.of (A := a0) rfl (hts _ (List.mem_of_getElem? (i := 644) (by decide +kernel))), List.forall_mem_cons.mpr ⟨va_Nw.of (A := a0) rfl (hts _ (List.mem_of_getElem? (i := 645) (by decide +kernel))), List.forall_mem_cons.mpr ⟨va_Nw.of (A := a0) rfl (hts _ (List.mem_of_getElem? (i := 648) (by decide +kernel))), List.forall_mem_cons.mpr ⟨va_Nw.of (A := a0) rfl (hts _ (List.mem_of_getElem? (i := 649) (by decide +kernel))), fun _ h => absurd h List.not_mem_nil⟩⟩⟩⟩⟩⟩⟩
theorem z_nc {s : State} {a0 : Array Value} (hgv : (Jvm.Cond.and given_1 narrow_1).before a0 s = true) : ∀ i j, i < 3 → j < 3 → i ≠ j → va_Nc (zEx i) (zEx j) s :=
  fun i j hi hj e => match i, hi with
    | 0, _ => (match j, hj with
      | 0, _ => absurd rfl e
      | 1, _ => va_Nc.of (flat_of_before _ hgv _ zg_157)
      | 2, _ => va_Nc.of (flat_of_before _ hgv _ zg_166)
      | k + 3, hk => absurd hk (Nat.not_lt.mpr (show 3 ≤ k + 3 from Nat.le_add_left 3 k)))
    | 1, _ => (match j, hj with
      | 0, _ => va_Nc.of (flat_of_before _ hgv _ zg_148)
      | 1, _ => absurd rfl e
      | 2, _ => va_Nc.of (flat_of_before _ hgv _ zg_167)
      | k + 3, hk => absurd hk (Nat.not_lt.mpr (show 3 ≤ k + 3 from Nat.le_add_left 3 k)))
    | 2, _ => (match j, hj with
      | 0, _ => va_Nc.of (flat_of_before _ hgv _ zg_149)
      | 1, _ => va_Nc.of (flat_of_before _ hgv _ zg_158)
      | 2, _ => absurd rfl e
      | k + 3, hk => absurd hk (Nat.not_lt.mpr (show 3 ≤ k + 3 from Nat.le_add_left 3 k)))
    | k + 3, hk => absurd hk (Nat.not_lt.mpr (show 3 ≤ k + 3 from Nat.le_add_left 3 k))
theorem z_ao {s : State} {a0 : Array Value} (hts : ∀ w ∈ lw_tbl, w.before a0 s = true) : va_AO "SlackRows$Tree" s ∧ va_AO "SlackRows$Node" s := ⟨va_AO.of (A := a0) (hts _ (List.mem_of_getElem? (i := 145) (by decide +kernel))), va_AO.of (A := a0) (hts _ (List.mem_of_getElem? (i := 152) (by decide +kernel)))⟩
theorem z_cmd {s : State} {a0 : Array Value} {A : Nat → Prop} (hts : ∀ w ∈ lw_tbl, w.before a0 s = true) (hgv : (Jvm.Cond.and given_1 narrow_1).before a0 s = true) (hA : ∀ a : Nat, a < s.heap.size → ¬ A a) : ∃ ad : Nat → Nat, va_En "SlackRows$Command" "LSlackRows$Command;" zCmd [("java/lang/Enum", "ordinal", "I", [0, 1, 2, 3, 4, 5, 6, 7]), ("SlackRows$Command", "numberCount", "I", [2, 3, 2, 2, 2, 3, 1, 1])] ad A s s.heap ∧ ∀ i, i < zCmd.length → (Term.static "SlackRows$Command" (zCmd.getD i "") "LSlackRows$Command;").eval a0 s none [] s = some (.ref (ad i)) := by
  have h1 : ∀ i, i < zCmd.length → Cond.laysStatic "SlackRows$Command" (zCmd.getD i "") "LSlackRows$Command;" ∈ lw_tbl := fun i hi => match i, hi with
      | 0, _ => (List.mem_of_getElem? (i := 632) (by decide +kernel))
      | 1, _ => (List.mem_of_getElem? (i := 751) (by decide +kernel))
      | 2, _ => (List.mem_of_getElem? (i := 777) (by decide +kernel))
      | 3, _ => (List.mem_of_getElem? (i := 786) (by decide +kernel))
      | 4, _ => (List.mem_of_getElem? (i := 795) (by decide +kernel))
      | 5, _ => (List.mem_of_getElem? (i := 430) (by decide +kernel))
      | 6, _ => (List.mem_of_getElem? (i := 768) (by decide +kernel))
      | 7, _ => (List.mem_of_getElem? (i := 419) (by decide +kernel))
      | k + 8, hk => absurd hk (Nat.not_lt.mpr (show 8 ≤ k + 8 from Nat.le_add_left 8 k))
  have h2 : ∀ i, i < zCmd.length → Cond.exactly (.static "SlackRows$Command" (zCmd.getD i "") "LSlackRows$Command;") "SlackRows$Command" ∈ zgv := fun i hi => match i, hi with
      | 0, _ => zg_64
      | 1, _ => zg_76
      | 2, _ => zg_99
      | 3, _ => zg_112
      | 4, _ => zg_126
      | 5, _ => zg_33
      | 6, _ => zg_87
      | 7, _ => zg_22
      | k + 8, hk => absurd hk (Nat.not_lt.mpr (show 8 ≤ k + 8 from Nat.le_add_left 8 k))
  have h3 : ∀ q ∈ ([("java/lang/Enum", "ordinal", "I", [0, 1, 2, 3, 4, 5, 6, 7]), ("SlackRows$Command", "numberCount", "I", [2, 3, 2, 2, 2, 3, 1, 1])] : List (String × String × String × List Int32)), ∀ i, i < zCmd.length → Cond.eq (.field (.static "SlackRows$Command" (zCmd.getD i "") "LSlackRows$Command;") q.1 q.2.1 q.2.2.1) (.int (q.2.2.2.getD i 0)) ∈ zgv := List.forall_mem_cons.mpr ⟨fun i hi => match i, hi with
      | 0, _ => zg_65
      | 1, _ => zg_77
      | 2, _ => zg_100
      | 3, _ => zg_113
      | 4, _ => zg_127
      | 5, _ => zg_34
      | 6, _ => zg_88
      | 7, _ => zg_23
      | k + 8, hk => absurd hk (Nat.not_lt.mpr (show 8 ≤ k + 8 from Nat.le_add_left 8 k)), List.forall_mem_cons.mpr ⟨fun i hi => match i, hi with
      | 0, _ => zg_67
      | 1, _ => zg_79
      | 2, _ => zg_102
      | 3, _ => zg_115
      | 4, _ => zg_129
      | 5, _ => zg_36
      | 6, _ => zg_90
      | 7, _ => zg_25
      | k + 8, hk => absurd hk (Nat.not_lt.mpr (show 8 ≤ k + 8 from Nat.le_add_left 8 k)), fun _ h => absurd h List.not_mem_nil⟩⟩
  have h4 : ∀ i j, i < zCmd.length → j < zCmd.length → i ≠ j → Cond.not (.eq (.static "SlackRows$Command" (zCmd.getD i "") "LSlackRows$Command;") (.static "SlackRows$Command" (zCmd.getD j "") "LSlackRows$Command;")) ∈ zgv ∨ Cond.not (.eq (.static "SlackRows$Command" (zCmd.getD j "") "LSlackRows$Command;") (.static "SlackRows$Command" (zCmd.getD i "") "LSlackRows$Command;")) ∈ zgv := fun i j hi hj e => match i, hi with
    | 0, _ => (match j, hj with
      | 0, _ => absurd rfl e
      | 1, _ => Or.inl zg_86
      | 2, _ => Or.inl zg_109
      | 3, _ => Or.inl zg_122
      | 4, _ => Or.inl zg_136
      | 5, _ => Or.inr zg_71
      | 6, _ => Or.inl zg_97
      | 7, _ => Or.inr zg_68
      | k + 8, hk => absurd hk (Nat.not_lt.mpr (show 8 ≤ k + 8 from Nat.le_add_left 8 k)))
    | 1, _ => (match j, hj with
      | 0, _ => Or.inr zg_86
      | 1, _ => absurd rfl e
      | 2, _ => Or.inl zg_110
      | 3, _ => Or.inl zg_123
      | 4, _ => Or.inl zg_137
      | 5, _ => Or.inr zg_83
      | 6, _ => Or.inl zg_98
      | 7, _ => Or.inr zg_80
      | k + 8, hk => absurd hk (Nat.not_lt.mpr (show 8 ≤ k + 8 from Nat.le_add_left 8 k)))
    | 2, _ => (match j, hj with
      | 0, _ => Or.inr zg_109
      | 1, _ => Or.inr zg_110
      | 2, _ => absurd rfl e
      | 3, _ => Or.inl zg_125
      | 4, _ => Or.inl zg_139
      | 5, _ => Or.inr zg_106
      | 6, _ => Or.inr zg_111
      | 7, _ => Or.inr zg_103
      | k + 8, hk => absurd hk (Nat.not_lt.mpr (show 8 ≤ k + 8 from Nat.le_add_left 8 k)))
    | 3, _ => (match j, hj with
      | 0, _ => Or.inr zg_122
      | 1, _ => Or.inr zg_123
      | 2, _ => Or.inr zg_125
      | 3, _ => absurd rfl e
      | 4, _ => Or.inl zg_140
      | 5, _ => Or.inr zg_119
      | 6, _ => Or.inr zg_124
      | 7, _ => Or.inr zg_116
      | k + 8, hk => absurd hk (Nat.not_lt.mpr (show 8 ≤ k + 8 from Nat.le_add_left 8 k)))
    | 4, _ => (match j, hj with
      | 0, _ => Or.inr zg_136
      | 1, _ => Or.inr zg_137
      | 2, _ => Or.inr zg_139
      | 3, _ => Or.inr zg_140
      | 4, _ => absurd rfl e
      | 5, _ => Or.inr zg_133
      | 6, _ => Or.inr zg_138
      | 7, _ => Or.inr zg_130
      | k + 8, hk => absurd hk (Nat.not_lt.mpr (show 8 ≤ k + 8 from Nat.le_add_left 8 k)))
    | 5, _ => (match j, hj with
      | 0, _ => Or.inl zg_71
      | 1, _ => Or.inl zg_83
      | 2, _ => Or.inl zg_106
      | 3, _ => Or.inl zg_119
      | 4, _ => Or.inl zg_133
      | 5, _ => absurd rfl e
      | 6, _ => Or.inl zg_94
      | 7, _ => Or.inr zg_37
      | k + 8, hk => absurd hk (Nat.not_lt.mpr (show 8 ≤ k + 8 from Nat.le_add_left 8 k)))
    | 6, _ => (match j, hj with
      | 0, _ => Or.inr zg_97
      | 1, _ => Or.inr zg_98
      | 2, _ => Or.inl zg_111
      | 3, _ => Or.inl zg_124
      | 4, _ => Or.inl zg_138
      | 5, _ => Or.inr zg_94
      | 6, _ => absurd rfl e
      | 7, _ => Or.inr zg_91
      | k + 8, hk => absurd hk (Nat.not_lt.mpr (show 8 ≤ k + 8 from Nat.le_add_left 8 k)))
    | 7, _ => (match j, hj with
      | 0, _ => Or.inl zg_68
      | 1, _ => Or.inl zg_80
      | 2, _ => Or.inl zg_103
      | 3, _ => Or.inl zg_116
      | 4, _ => Or.inl zg_130
      | 5, _ => Or.inl zg_37
      | 6, _ => Or.inl zg_91
      | 7, _ => absurd rfl e
      | k + 8, hk => absurd hk (Nat.not_lt.mpr (show 8 ≤ k + 8 from Nat.le_add_left 8 k)))
    | k + 8, hk => absurd hk (Nat.not_lt.mpr (show 8 ≤ k + 8 from Nat.le_add_left 8 k))
  exact va_Enof2 (fun i hi => hts _ (h1 i hi)) (hts _ (List.mem_of_getElem? (i := 97) (by decide +kernel))) (fun i hi => flat_of_before _ hgv _ (h2 i hi)) (fun q hq i hi => flat_of_before _ hgv _ (h3 q hq i hi)) (fun i j hi hj e => (h4 i j hi hj e).imp (flat_of_before _ hgv _) (flat_of_before _ hgv _)) hA
theorem z_ref {s : State} {a0 : Array Value} {A : Nat → Prop} (hts : ∀ w ∈ lw_tbl, w.before a0 s = true) (hgv : (Jvm.Cond.and given_1 narrow_1).before a0 s = true) (hA : ∀ a : Nat, a < s.heap.size → ¬ A a) : ∃ ad : Nat → Nat, va_En "SlackRows$Refusal" "LSlackRows$Refusal;" zRef [] ad A s s.heap := by
  have h1 : ∀ i, i < zRef.length → Cond.laysStatic "SlackRows$Refusal" (zRef.getD i "") "LSlackRows$Refusal;" ∈ lw_tbl := fun i hi => match i, hi with
      | 0, _ => (List.mem_of_getElem? (i := 422) (by decide +kernel))
      | 1, _ => (List.mem_of_getElem? (i := 432) (by decide +kernel))
      | 2, _ => (List.mem_of_getElem? (i := 424) (by decide +kernel))
      | 3, _ => (List.mem_of_getElem? (i := 460) (by decide +kernel))
      | k + 4, hk => absurd hk (Nat.not_lt.mpr (show 4 ≤ k + 4 from Nat.le_add_left 4 k))
  have h2 : ∀ i, i < zRef.length → Cond.exactly (.static "SlackRows$Refusal" (zRef.getD i "") "LSlackRows$Refusal;") "SlackRows$Refusal" ∈ zgv := fun i hi => match i, hi with
      | 0, _ => zg_26
      | 1, _ => zg_40
      | 2, _ => zg_29
      | 3, _ => zg_57
      | k + 4, hk => absurd hk (Nat.not_lt.mpr (show 4 ≤ k + 4 from Nat.le_add_left 4 k))
  have h4 : ∀ i j, i < zRef.length → j < zRef.length → i ≠ j → Cond.not (.eq (.static "SlackRows$Refusal" (zRef.getD i "") "LSlackRows$Refusal;") (.static "SlackRows$Refusal" (zRef.getD j "") "LSlackRows$Refusal;")) ∈ zgv ∨ Cond.not (.eq (.static "SlackRows$Refusal" (zRef.getD j "") "LSlackRows$Refusal;") (.static "SlackRows$Refusal" (zRef.getD i "") "LSlackRows$Refusal;")) ∈ zgv := fun i j hi hj e => match i, hi with
    | 0, _ => (match j, hj with
      | 0, _ => absurd rfl e
      | 1, _ => Or.inl zg_43
      | 2, _ => Or.inl zg_32
      | 3, _ => Or.inl zg_60
      | k + 4, hk => absurd hk (Nat.not_lt.mpr (show 4 ≤ k + 4 from Nat.le_add_left 4 k)))
    | 1, _ => (match j, hj with
      | 0, _ => Or.inr zg_43
      | 1, _ => absurd rfl e
      | 2, _ => Or.inr zg_44
      | 3, _ => Or.inl zg_63
      | k + 4, hk => absurd hk (Nat.not_lt.mpr (show 4 ≤ k + 4 from Nat.le_add_left 4 k)))
    | 2, _ => (match j, hj with
      | 0, _ => Or.inr zg_32
      | 1, _ => Or.inl zg_44
      | 2, _ => absurd rfl e
      | 3, _ => Or.inl zg_61
      | k + 4, hk => absurd hk (Nat.not_lt.mpr (show 4 ≤ k + 4 from Nat.le_add_left 4 k)))
    | 3, _ => (match j, hj with
      | 0, _ => Or.inr zg_60
      | 1, _ => Or.inr zg_63
      | 2, _ => Or.inr zg_61
      | 3, _ => absurd rfl e
      | k + 4, hk => absurd hk (Nat.not_lt.mpr (show 4 ≤ k + 4 from Nat.le_add_left 4 k)))
    | k + 4, hk => absurd hk (Nat.not_lt.mpr (show 4 ≤ k + 4 from Nat.le_add_left 4 k))
  exact va_Enof (fun i hi => hts _ (h1 i hi)) (hts _ (List.mem_of_getElem? (i := 98) (by decide +kernel))) (fun i hi => flat_of_before _ hgv _ (h2 i hi)) (fun q hq => absurd hq List.not_mem_nil) (fun i j hi hj e => (h4 i j hi hj e).imp (flat_of_before _ hgv _) (flat_of_before _ hgv _)) hA
theorem z_str {s : State} {a0 : Array Value} {A : Nat → Prop} (hgv : (Jvm.Cond.and given_1 narrow_1).before a0 s = true) (hA : ∀ a : Nat, a < s.heap.size → ¬ A a) : ∃ adK adV : Nat → Nat, vk_S 8 zWlen zWbyt adK adV A s s.heap ∧ ∀ i : Nat, i < 8 → (Term.string "SlackRows$Command" (zWi i)).eval a0 s none [] s = some (.ref (adK i)) := by
  have h1 : ∀ i, i < 8 → Cond.exactly (.string "SlackRows$Command" (zWi i)) "java/lang/String" ∈ zgv := fun i hi => match i, hi with
      | 0, _ => zg_441
      | 1, _ => zg_460
      | 2, _ => zg_499
      | 3, _ => zg_520
      | 4, _ => zg_544
      | 5, _ => zg_424
      | 6, _ => zg_479
      | 7, _ => zg_407
      | k + 8, hk => absurd hk (Nat.not_lt.mpr (show 8 ≤ k + 8 from Nat.le_add_left 8 k))
  have h2 : ∀ i, i < 8 → Cond.eq (.field (.string "SlackRows$Command" (zWi i)) "java/lang/String" "coder" "B") (.int 0) ∈ zgv := fun i hi => match i, hi with
      | 0, _ => zg_442
      | 1, _ => zg_461
      | 2, _ => zg_500
      | 3, _ => zg_521
      | 4, _ => zg_545
      | 5, _ => zg_425
      | 6, _ => zg_480
      | 7, _ => zg_408
      | k + 8, hk => absurd hk (Nat.not_lt.mpr (show 8 ≤ k + 8 from Nat.le_add_left 8 k))
  have h3 : ∀ i, i < 8 → Cond.arrayOf (.field (.string "SlackRows$Command" (zWi i)) "java/lang/String" "value" "[B") .byte ∈ zgv := fun i hi => match i, hi with
      | 0, _ => zg_443
      | 1, _ => zg_462
      | 2, _ => zg_501
      | 3, _ => zg_522
      | 4, _ => zg_546
      | 5, _ => zg_426
      | 6, _ => zg_481
      | 7, _ => zg_409
      | k + 8, hk => absurd hk (Nat.not_lt.mpr (show 8 ≤ k + 8 from Nat.le_add_left 8 k))
  have h4 : ∀ i, i < 8 → Cond.eq (.length (.field (.string "SlackRows$Command" (zWi i)) "java/lang/String" "value" "[B")) (.int (Int32.ofNat (zWlen.getD i 0))) ∈ zgv := fun i hi => match i, hi with
      | 0, _ => zg_444
      | 1, _ => zg_463
      | 2, _ => zg_502
      | 3, _ => zg_523
      | 4, _ => zg_547
      | 5, _ => zg_427
      | 6, _ => zg_482
      | 7, _ => zg_410
      | k + 8, hk => absurd hk (Nat.not_lt.mpr (show 8 ≤ k + 8 from Nat.le_add_left 8 k))
  have h5 : ∀ i, i < 8 → ∀ j, j < zWlen.getD i 0 → Cond.eq (.elem (.field (.string "SlackRows$Command" (zWi i)) "java/lang/String" "value" "[B") (.int (Int32.ofNat j))) (.int ((zWbyt.getD i []).getD j 0)) ∈ zgv := fun i hi => match i, hi with
      | 0, _ => fun j hj => (match j, hj with | 0, _ => zg_445 | 1, _ => zg_446 | 2, _ => zg_447 | 3, _ => zg_448 | 4, _ => zg_449 | k + 5, hk => absurd hk (by have e : zWlen.getD 0 0 = 5 := rfl; omega))
      | 1, _ => fun j hj => (match j, hj with | 0, _ => zg_464 | 1, _ => zg_465 | 2, _ => zg_466 | 3, _ => zg_467 | k + 4, hk => absurd hk (by have e : zWlen.getD 1 0 = 4 := rfl; omega))
      | 2, _ => fun j hj => (match j, hj with | 0, _ => zg_503 | 1, _ => zg_504 | 2, _ => zg_505 | 3, _ => zg_506 | k + 4, hk => absurd hk (by have e : zWlen.getD 2 0 = 4 := rfl; omega))
      | 3, _ => fun j hj => (match j, hj with | 0, _ => zg_524 | 1, _ => zg_525 | 2, _ => zg_526 | 3, _ => zg_527 | 4, _ => zg_528 | 5, _ => zg_529 | k + 6, hk => absurd hk (by have e : zWlen.getD 3 0 = 6 := rfl; omega))
      | 4, _ => fun j hj => (match j, hj with | 0, _ => zg_548 | 1, _ => zg_549 | 2, _ => zg_550 | 3, _ => zg_551 | k + 4, hk => absurd hk (by have e : zWlen.getD 4 0 = 4 := rfl; omega))
      | 5, _ => fun j hj => (match j, hj with | 0, _ => zg_428 | 1, _ => zg_429 | 2, _ => zg_430 | 3, _ => zg_431 | k + 4, hk => absurd hk (by have e : zWlen.getD 5 0 = 4 := rfl; omega))
      | 6, _ => fun j hj => (match j, hj with | 0, _ => zg_483 | 1, _ => zg_484 | 2, _ => zg_485 | 3, _ => zg_486 | k + 4, hk => absurd hk (by have e : zWlen.getD 6 0 = 4 := rfl; omega))
      | 7, _ => fun j hj => (match j, hj with | 0, _ => zg_411 | 1, _ => zg_412 | 2, _ => zg_413 | 3, _ => zg_414 | 4, _ => zg_415 | k + 5, hk => absurd hk (by have e : zWlen.getD 7 0 = 5 := rfl; omega))
      | k + 8, hk => absurd hk (Nat.not_lt.mpr (show 8 ≤ k + 8 from Nat.le_add_left 8 k))
  have h6 : ∀ i j, i < 8 → j < 8 → i ≠ j → Cond.not (.eq (.string "SlackRows$Command" (zWi i)) (.string "SlackRows$Command" (zWi j))) ∈ zgv ∨ Cond.not (.eq (.string "SlackRows$Command" (zWi j)) (.string "SlackRows$Command" (zWi i))) ∈ zgv := fun i j hi hj e => match i, hi with
    | 0, _ => (match j, hj with
      | 0, _ => absurd rfl e
      | 1, _ => Or.inl zg_478
      | 2, _ => Or.inl zg_517
      | 3, _ => Or.inl zg_540
      | 4, _ => Or.inl zg_562
      | 5, _ => Or.inr zg_459
      | 6, _ => Or.inl zg_497
      | 7, _ => Or.inr zg_458
      | k + 8, hk => absurd hk (Nat.not_lt.mpr (show 8 ≤ k + 8 from Nat.le_add_left 8 k)))
    | 1, _ => (match j, hj with
      | 0, _ => Or.inr zg_478
      | 1, _ => absurd rfl e
      | 2, _ => Or.inl zg_518
      | 3, _ => Or.inl zg_541
      | 4, _ => Or.inl zg_563
      | 5, _ => Or.inr zg_477
      | 6, _ => Or.inl zg_498
      | 7, _ => Or.inr zg_476
      | k + 8, hk => absurd hk (Nat.not_lt.mpr (show 8 ≤ k + 8 from Nat.le_add_left 8 k)))
    | 2, _ => (match j, hj with
      | 0, _ => Or.inr zg_517
      | 1, _ => Or.inr zg_518
      | 2, _ => absurd rfl e
      | 3, _ => Or.inl zg_543
      | 4, _ => Or.inl zg_565
      | 5, _ => Or.inr zg_516
      | 6, _ => Or.inr zg_519
      | 7, _ => Or.inr zg_515
      | k + 8, hk => absurd hk (Nat.not_lt.mpr (show 8 ≤ k + 8 from Nat.le_add_left 8 k)))
    | 3, _ => (match j, hj with
      | 0, _ => Or.inr zg_540
      | 1, _ => Or.inr zg_541
      | 2, _ => Or.inr zg_543
      | 3, _ => absurd rfl e
      | 4, _ => Or.inl zg_566
      | 5, _ => Or.inr zg_539
      | 6, _ => Or.inr zg_542
      | 7, _ => Or.inr zg_538
      | k + 8, hk => absurd hk (Nat.not_lt.mpr (show 8 ≤ k + 8 from Nat.le_add_left 8 k)))
    | 4, _ => (match j, hj with
      | 0, _ => Or.inr zg_562
      | 1, _ => Or.inr zg_563
      | 2, _ => Or.inr zg_565
      | 3, _ => Or.inr zg_566
      | 4, _ => absurd rfl e
      | 5, _ => Or.inr zg_561
      | 6, _ => Or.inr zg_564
      | 7, _ => Or.inr zg_560
      | k + 8, hk => absurd hk (Nat.not_lt.mpr (show 8 ≤ k + 8 from Nat.le_add_left 8 k)))
    | 5, _ => (match j, hj with
      | 0, _ => Or.inl zg_459
      | 1, _ => Or.inl zg_477
      | 2, _ => Or.inl zg_516
      | 3, _ => Or.inl zg_539
      | 4, _ => Or.inl zg_561
      | 5, _ => absurd rfl e
      | 6, _ => Or.inl zg_496
      | 7, _ => Or.inr zg_440
      | k + 8, hk => absurd hk (Nat.not_lt.mpr (show 8 ≤ k + 8 from Nat.le_add_left 8 k)))
    | 6, _ => (match j, hj with
      | 0, _ => Or.inr zg_497
      | 1, _ => Or.inr zg_498
      | 2, _ => Or.inl zg_519
      | 3, _ => Or.inl zg_542
      | 4, _ => Or.inl zg_564
      | 5, _ => Or.inr zg_496
      | 6, _ => absurd rfl e
      | 7, _ => Or.inr zg_495
      | k + 8, hk => absurd hk (Nat.not_lt.mpr (show 8 ≤ k + 8 from Nat.le_add_left 8 k)))
    | 7, _ => (match j, hj with
      | 0, _ => Or.inl zg_458
      | 1, _ => Or.inl zg_476
      | 2, _ => Or.inl zg_515
      | 3, _ => Or.inl zg_538
      | 4, _ => Or.inl zg_560
      | 5, _ => Or.inl zg_440
      | 6, _ => Or.inl zg_495
      | 7, _ => absurd rfl e
      | k + 8, hk => absurd hk (Nat.not_lt.mpr (show 8 ≤ k + 8 from Nat.le_add_left 8 k)))
    | k + 8, hk => absurd hk (Nat.not_lt.mpr (show 8 ≤ k + 8 from Nat.le_add_left 8 k))
  have h0 : ∀ i, i < 8 → zWlen.getD i 0 < 2 ^ 31 := by decide +kernel
  exact vk_Sof (tm := fun i => .string "SlackRows$Command" (zWi i)) h0 (fun i hi => flat_of_before _ hgv _ (h1 i hi)) (fun i hi => flat_of_before _ hgv _ (h2 i hi)) (fun i hi => flat_of_before _ hgv _ (h3 i hi)) (fun i hi => flat_of_before _ hgv _ (h4 i hi)) (fun i hi j hj => flat_of_before _ hgv _ (h5 i hi j hj)) (fun i j hi hj e => (h6 i j hi hj e).imp (flat_of_before _ hgv _) (flat_of_before _ hgv _)) hA
