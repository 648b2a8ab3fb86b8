/-! ===== what stands outside the worlds: enums, static tables, texts ===== -/
abbrev M_ord : zM := (yJx29ce0_ordinal_8abf5, cJx29ce0_ordinal_8abf5, 1, (some .int), [], ⟨0, 0, 0, 0⟩)
theorem ok_ord : zOk M_ord := ⟨rfl, by decide +kernel, zgw_in (List.mem_of_getElem? (i := 443) (by decide +kernel)) rfl, zgw_in (List.mem_of_getElem? (i := 96) (by decide +kernel)) rfl, by decide +kernel, by decide +kernel⟩
abbrev M_coder : zM := (yJ0_coder_7d493, cJ0_coder_7d493, 1, (some .byte), [], ⟨0, 0, 0, 0⟩)
theorem ok_coder : zOk M_coder := ⟨rfl, by decide +kernel, zgw_in (List.mem_of_getElem? (i := 336) (by decide +kernel)) rfl, zgw_in (List.mem_of_getElem? (i := 107) (by decide +kernel)) rfl, by decide +kernel, by decide +kernel⟩
abbrev M_slen : zM := (yJ0_length_8abf5, cJ0_length_8abf5, 1, (some .int), [], ⟨1, 0, 0, 20⟩)
theorem ok_slen : zOk M_slen := ⟨rfl, by decide +kernel, zgw_in (List.mem_of_getElem? (i := 332) (by decide +kernel)) rfl, zgw_in (List.mem_of_getElem? (i := 107) (by decide +kernel)) rfl, by decide +kernel, by decide +kernel⟩
abbrev M_lat : zM := (yJ0_isLatin1_aae02, cJ0_isLatin1_aae02, 1, (some .boolean), [], ⟨0, 0, 0, 0⟩)
theorem ok_lat : zOk M_lat := ⟨rfl, by decide +kernel, zgw_in (List.mem_of_getElem? (i := 346) (by decide +kernel)) rfl, zgw_in (List.mem_of_getElem? (i := 107) (by decide +kernel)) rfl, by decide +kernel, by decide +kernel⟩
abbrev M_pci : zM := (yJ3_checkIndex_8e157, cJ3_checkIndex_8e157, 3, (some .int), [], ⟨0, 0, 0, 0⟩)
theorem ok_pci : zOk M_pci := ⟨rfl, by decide +kernel, zgw_in (List.mem_of_getElem? (i := 357) (by decide +kernel)) rfl, zgw_in (List.mem_of_getElem? (i := 109) (by decide +kernel)) rfl, by decide +kernel, by decide +kernel⟩
abbrev M_sci : zM := (yJ0_checkIndex_df160, cJ0_checkIndex_df160, 2, none, [], ⟨1, 0, 0, 22⟩)
theorem ok_sci : zOk M_sci := ⟨rfl, by decide +kernel, zgw_in (List.mem_of_getElem? (i := 352) (by decide +kernel)) rfl, zgw_in (List.mem_of_getElem? (i := 107) (by decide +kernel)) rfl, by decide +kernel, by decide +kernel⟩
abbrev M_lchar : zM := (yJ1_charAt_3b067, cJ1_charAt_3b067, 2, (some .char), [], ⟨2, 0, 0, 43⟩)
theorem ok_lchar : zOk M_lchar := ⟨rfl, by decide +kernel, zgw_in (List.mem_of_getElem? (i := 349) (by decide +kernel)) rfl, zgw_in (List.mem_of_getElem? (i := 108) (by decide +kernel)) rfl, by decide +kernel, by decide +kernel⟩
abbrev M_schar : zM := (yJ0_charAt_5068e, cJ0_charAt_5068e, 2, (some .char), [], ⟨3, 0, 0, 64⟩)
theorem ok_schar : zOk M_schar := ⟨rfl, by decide +kernel, zgw_in (List.mem_of_getElem? (i := 342) (by decide +kernel)) rfl, zgw_in (List.mem_of_getElem? (i := 107) (by decide +kernel)) rfl, by decide +kernel, by decide +kernel⟩
section ZS
variable {y : zM} {pc : Nat} {L : List (Nat × zV)} {st : List zV} {h : zH} {n : Nat × Nat} {q : zO}
theorem zad {D : va_G} {cy : Nat → ClassId} {A : Nat → Prop} {ad0 : Nat → Nat} {k0 : Nat} {J : Nat → Int → Int} {ad : Nat → Nat} {h : zH} {s : State} {H : Heap} {locs : List Loc} (hW : zWl D cy A ad0 k0 J ad h s H locs) {i : Nat} (hi : 4096 ≤ i) : ad i = ad0 i := hW.2.2.1 i (Or.inr hi)
theorem zvp {x : Int} {N : Nat} (h : zin x) (h0 : 0 ≤ x) (h1 : x < N) : vp_in (Int32.ofInt x) N := zI_vp h h0 h1
theorem Ev.gsC {idx i : Nat} (d : decode (zcode y) pc = .ok (.getstatic idx, 3)) (hi : i < 8) (hw : Cond.fieldLink (zname y).cls idx "SlackRows$Command" (zCmd.getD i "") "LSlackRows$Command;" ∈ zgw) (kk : Ev y (pc + 3) L (zr (some (4096 + i)) :: st) h n q) : Ev y pc L st h n q := by
  intro l p e s m args below meth c D cy A ad0 k0 J ad H locs ls hC hZ hW hl hL hs
  have k9 := kk l p e s m args below meth c D cy A ad0 k0 J ad H locs ls hC hZ hW hl hL (zst_go hs ⟨trivial, fun x hx => Or.inr (by cases hx; omega)⟩)
  have e9 : zc ad (zr (some (4096 + i))) = .ref (ad0 (4096 + i)) := congrArg Value.ref (zad hW (by omega))
  rw [List.map_cons, e9] at k9
  exact va_gets hC.2.1 hC.2.2.1 (hZ.2.2.2.2.2.1.1 i hi).1 hW.2.1 hC.2.2.2.2.2.1 (hC.2.2.2.2.2.2.1 _ hw) (fun _ e => e) d k9
theorem Ev.gsR {idx i : Nat} (d : decode (zcode y) pc = .ok (.getstatic idx, 3)) (hi : i < 4) (hw : Cond.fieldLink (zname y).cls idx "SlackRows$Refusal" (zRef.getD i "") "LSlackRows$Refusal;" ∈ zgw) (kk : Ev y (pc + 3) L (zr (some (4104 + i)) :: st) h n q) : Ev y pc L st h n q := by
  intro l p e s m args below meth c D cy A ad0 k0 J ad H locs ls hC hZ hW hl hL hs
  have k9 := kk l p e s m args below meth c D cy A ad0 k0 J ad H locs ls hC hZ hW hl hL (zst_go hs ⟨trivial, fun x hx => Or.inr (by cases hx; omega)⟩)
  have e9 : zc ad (zr (some (4104 + i))) = .ref (ad0 (4104 + i)) := congrArg Value.ref (zad hW (by omega))
  rw [List.map_cons, e9] at k9
  exact va_gets hC.2.1 hC.2.2.1 (hZ.2.2.2.2.2.2.1.1 i hi).1 hW.2.1 hC.2.2.2.2.2.1 (hC.2.2.2.2.2.2.1 _ hw) (fun _ e => e) d k9
theorem Ev.gsW {idx : Nat} (d : decode (zcode y) pc = .ok (.getstatic idx, 3)) (hw : Cond.fieldLink (zname y).cls idx "SlackRows$1" "$SwitchMap$SlackRows$Command" "[I" ∈ zgw) (kk : Ev y (pc + 3) L (zr (some (4109)) :: st) h n q) : Ev y pc L st h n q := by
  intro l p e s m args below meth c D cy A ad0 k0 J ad H locs ls hC hZ hW hl hL hs
  have k9 := kk l p e s m args below meth c D cy A ad0 k0 J ad H locs ls hC hZ hW hl hL (zst_go hs ⟨trivial, fun x hx => Or.inr (by cases hx; omega)⟩)
  have e9 : zc ad (zr (some (4109))) = .ref (ad0 (4109)) := congrArg Value.ref (zad hW (by omega))
  rw [List.map_cons, e9] at k9
  exact va_gets hC.2.1 hC.2.2.1 hZ.2.2.2.2.2.2.2.2.1.1 hW.2.1 hC.2.2.2.2.2.1 (hC.2.2.2.2.2.2.1 _ hw) (fun _ e => e) d k9
theorem Ev.gsA {idx : Nat} (d : decode (zcode y) pc = .ok (.getstatic idx, 3)) (hy : (zname y).cls = "SlackRows$CommandText") (hi : idx = 65) (kk : Ev y (pc + 3) L (zr (some (4108)) :: st) h n q) : Ev y pc L st h n q := by
  intro l p e s m args below meth c D cy A ad0 k0 J ad H locs ls hC hZ hW hl hL hs
  have k9 := kk l p e s m args below meth c D cy A ad0 k0 J ad H locs ls hC hZ hW hl hL (zst_go hs ⟨trivial, fun x hx => Or.inr (by cases hx; omega)⟩)
  have e9 : zc ad (zr (some (4108))) = .ref (ad0 (4108)) := congrArg Value.ref (zad hW (by omega))
  rw [List.map_cons, e9] at k9
  subst hi
  have hown := hC.2.2.2.2.2.1
  rw [hy] at hown
  exact va_getsN (own := "SlackRows$CommandText") hC.2.1 hC.2.2.1 hZ.2.2.2.2.2.2.2.1.1 hW.2.1 hown (va_Nw.use (A := args) rfl hZ.2.1) (fun _ e => e) d k9
theorem Ev.gsZ {idx : Nat} (d : decode (zcode y) pc = .ok (.getstatic idx, 3)) (hw : Cond.fieldLink (zname y).cls idx "java/lang/String" "COMPACT_STRINGS" "Z" ∈ zgw) (kk : Ev y (pc + 3) L (zi 1 :: st) h n q) : Ev y pc L st h n q := by
  intro l p e s m args below meth c D cy A ad0 k0 J ad H locs ls hC hZ hW hl hL hs
  have k9 := kk l p e s m args below meth c D cy A ad0 k0 J ad H locs ls hC hZ hW hl hL (zst_go hs ⟨⟨by omega, by omega⟩, trivial⟩)
  exact va_gets hC.2.1 hC.2.2.1 hZ.2.2.2.2.2.2.2.2.2.2.2.1.1 hW.2.1 hC.2.2.2.2.2.1 (hC.2.2.2.2.2.2.1 _ hw) (fun _ e => e) d k9
theorem Ev.gsQ {idx : Nat} (d : decode (zcode y) pc = .ok (.getstatic idx, 3)) (hw : Cond.fieldLink (zname y).cls idx "jdk/internal/util/Preconditions" "SIOOBE_FORMATTER" "Ljava/util/function/BiFunction;" ∈ zgw) (kk : ∀ r : Option Nat, (r = none ∨ r = some 4140) → Ev y (pc + 3) L (zr r :: st) h n q) : Ev y pc L st h n q := by
  intro l p e s m args below meth c D cy A ad0 k0 J ad H locs ls hC hZ hW hl hL hs
  rcases hZ.2.2.2.2.2.2.2.2.2.2.2.1.2 with g | g
  · have k9 := kk none (Or.inl rfl) l p e s m args below meth c D cy A ad0 k0 J ad H locs ls hC hZ hW hl hL (zst_go hs ⟨trivial, fun x hx => by cases hx⟩)
    exact va_gets hC.2.1 hC.2.2.1 g hW.2.1 hC.2.2.2.2.2.1 (hC.2.2.2.2.2.2.1 _ hw) (fun _ e => e) d k9
  · have k9 := kk (some 4140) (Or.inr rfl) l p e s m args below meth c D cy A ad0 k0 J ad H locs ls hC hZ hW hl hL (zst_go hs ⟨trivial, fun x hx => Or.inr (by cases hx; omega)⟩)
    have e9 : zc ad (zr (some 4140)) = .ref (ad0 4140) := congrArg Value.ref (zad hW (by omega))
    rw [List.map_cons, e9] at k9
    exact va_gets hC.2.1 hC.2.2.1 g hW.2.1 hC.2.2.2.2.2.1 (hC.2.2.2.2.2.2.1 _ hw) (fun _ e => e) d k9
theorem Ev.aaC {i : Int} (d : decode (zcode y) pc = .ok (.aaload, 1)) (h0 : 0 ≤ i) (h1 : i < 8) (kk : Ev y (pc + 1) L (zr (some (4096 + i.toNat)) :: st) h n q) : Ev y pc L (zi i :: zr (some 4108) :: st) h n q := by
  intro l p e s m args below meth c D cy A ad0 k0 J ad H locs ls hC hZ hW hl hL hs
  have k9 := kk l p e s m args below meth c D cy A ad0 k0 J ad H locs ls hC hZ hW hl hL (zst_go (zst_tl (zst_tl hs)) ⟨trivial, fun x hx => Or.inr (by cases hx; omega)⟩)
  have e9 : zc ad (zr (some (4096 + i.toNat))) = .ref (ad0 (4096 + i.toNat)) := congrArg Value.ref (zad hW (by omega))
  rw [List.map_cons, e9] at k9
  show W p l e (zroom y) s m args below meth c H locs n.1 n.2 _ (F0 m pc ls (Value.int (Int32.ofInt i) :: Value.ref (ad 4108) :: st.map (zc ad)))
  rw [zad hW (i := 4108) (by omega)]
  exact vb_tq hC.2.1 hC.2.2.1 hZ.2.2.2.2.2.2.2.1.2 hW.2.1 (zvp (zst_hd hs).1 h0 h1) (by rw [zI_nat (zst_hd hs).1 h0]) d k9
theorem Ev.alC (d : decode (zcode y) pc = .ok (.arraylength, 1)) (kk : Ev y (pc + 1) L (zi 8 :: st) h n q) : Ev y pc L (zr (some 4108) :: st) h n q := by
  intro l p e s m args below meth c D cy A ad0 k0 J ad H locs ls hC hZ hW hl hL hs
  have k9 := kk l p e s m args below meth c D cy A ad0 k0 J ad H locs ls hC hZ hW hl hL (zst_go (zst_tl hs) ⟨⟨by omega, by omega⟩, trivial⟩)
  show W p l e (zroom y) s m args below meth c H locs n.1 n.2 _ (F0 m pc ls (Value.ref (ad 4108) :: st.map (zc ad)))
  rw [zad hW (i := 4108) (by omega)]
  exact va_tlen hC.2.1 hC.2.2.1 hZ.2.2.2.2.2.2.2.1.2 hW.2.1 rfl d k9
theorem Ev.iaW {i x : Int} (d : decode (zcode y) pc = .ok (.iaload, 1)) (h0 : 0 ≤ i) (h1 : i < 8) (hx : zSw.getD i.toNat 0 = x) (kk : Ev y (pc + 1) L (zi x :: st) h n q) : Ev y pc L (zi i :: zr (some 4109) :: st) h n q := by
  intro l p e s m args below meth c D cy A ad0 k0 J ad H locs ls hC hZ hW hl hL hs
  have hr : ∀ j, j < 8 → zin (zSw.getD j 0) := by
    intro j hj
    have : 0 ≤ zSw.getD j 0 ∧ zSw.getD j 0 ≤ 8 := (by decide : ∀ j, j < 8 → 0 ≤ zSw.getD j 0 ∧ zSw.getD j 0 ≤ 8) j hj
    exact ⟨by omega, by omega⟩
  have k9 := kk l p e s m args below meth c D cy A ad0 k0 J ad H locs ls hC hZ hW hl hL (zst_go (zst_tl (zst_tl hs)) ⟨hx ▸ hr i.toNat (by omega), trivial⟩)
  show W p l e (zroom y) s m args below meth c H locs n.1 n.2 _ (F0 m pc ls (Value.int (Int32.ofInt i) :: Value.ref (ad 4109) :: st.map (zc ad)))
  rw [zad hW (i := 4109) (by omega)]
  exact va_ti hC.2.1 hC.2.2.1 hZ.2.2.2.2.2.2.2.2.1.2 hW.2.1 (zvp (zst_hd hs).1 h0 h1) (by rw [zI_nat (zst_hd hs).1 h0, hx]; rfl) d k9
/-- the script -/
theorem Ev.iaS {i : Int} (d : decode (zcode y) pc = .ok (.iaload, 1)) (h0 : 0 ≤ i) (h1 : i < (h.2.1 4131 0).toNat) (kk : Ev y (pc + 1) L (zi (h.2.1 4130 i) :: st) h n q) : Ev y pc L (zi i :: zr (some 4130) :: st) h n q := by
  intro l p e s m args below meth c D cy A ad0 k0 J ad H locs ls hC hZ hW hl hL hs
  have k9 := kk l p e s m args below meth c D cy A ad0 k0 J ad H locs ls hC hZ hW hl hL (zst_go (zst_tl (zst_tl hs)) ⟨hW.1.2.2.2.2 _ _, trivial⟩)
  show W p l e (zroom y) s m args below meth c H locs n.1 n.2 _ (F0 m pc ls (Value.int (Int32.ofInt i) :: Value.ref (ad 4130) :: st.map (zc ad)))
  rw [zad hW (i := 4130) (by omega)]
  have e1 := hW.2.2.2.2.1 4130 (by omega)
  have e2 := hW.2.2.2.2.1 4131 (by omega)
  rw [e2] at h1
  exact va_ti hC.2.1 hC.2.2.1 hZ.2.2.2.2.2.2.2.2.2.2.2.2.2.2.2 hW.2.1 (zvp (zst_hd hs).1 h0 h1) (by rw [zI_nat (zst_hd hs).1 h0, zcast h0, e1]; rfl) d k9
theorem Ev.alS (d : decode (zcode y) pc = .ok (.arraylength, 1)) (h0 : 0 ≤ h.2.1 4131 0) (kk : Ev y (pc + 1) L (zi (h.2.1 4131 0) :: st) h n q) : Ev y pc L (zr (some 4130) :: st) h n q := by
  intro l p e s m args below meth c D cy A ad0 k0 J ad H locs ls hC hZ hW hl hL hs
  have k9 := kk l p e s m args below meth c D cy A ad0 k0 J ad H locs ls hC hZ hW hl hL (zst_go (zst_tl hs) ⟨hW.1.2.2.2.2 _ _, trivial⟩)
  show W p l e (zroom y) s m args below meth c H locs n.1 n.2 _ (F0 m pc ls (Value.ref (ad 4130) :: st.map (zc ad)))
  rw [zad hW (i := 4130) (by omega)]
  have e2 := hW.2.2.2.2.1 4131 (by omega)
  refine va_tlen hC.2.1 hC.2.2.1 hZ.2.2.2.2.2.2.2.2.2.2.2.2.2.2.2 hW.2.1 ?_ d k9
  rw [e2] at h0 ⊢
  show Int32.ofInt (((J 4131 0).toNat : Nat) : Int) = _
  rw [Int.toNat_of_nonneg h0]
/-- a field of an enum's constant -/
def zEnF : List (String × String × String × List Int32) := [("java/lang/Enum", "ordinal", "I", [0, 1, 2, 3, 4, 5, 6, 7]), ("SlackRows$Command", "numberCount", "I", [2, 3, 2, 2, 2, 3, 1, 1])]
theorem Ev.geE {idx i : Nat} {w : String × String × String × List Int32} (d : decode (zcode y) pc = .ok (.getfield idx, 3)) (hi : i < 8) (hq : w ∈ zEnF) (hw : Cond.fieldLink (zname y).cls idx w.1 w.2.1 w.2.2.1 ∈ zgw) {x : Int} (hx0 : zin x) (hx : w.2.2.2.getD i 0 = Int32.ofInt x) (kk : Ev y (pc + 3) L (zi x :: st) h n q) : Ev y pc L (zr (some (4096 + i)) :: st) h n q := by
  intro l p e s m args below meth c D cy A ad0 k0 J ad H locs ls hC hZ hW hl hL hs
  have k9 := kk l p e s m args below meth c D cy A ad0 k0 J ad H locs ls hC hZ hW hl hL (zst_go (zst_tl hs) ⟨hx0, trivial⟩)
  have e9 : zc ad (zi x) = .int (w.2.2.2.getD i 0) := congrArg Value.int hx.symm
  rw [List.map_cons, e9] at k9
  show W p l e (zroom y) s m args below meth c H locs n.1 n.2 _ (F0 m pc ls (Value.ref (ad (4096 + i)) :: st.map (zc ad)))
  rw [zad hW (i := 4096 + i) (by omega)]
  exact va_getE (ad := fun i => ad0 (4096 + i)) (i := i) (nm := zCmd) hC.2.1 hC.2.2.1 hZ.2.2.2.2.2.1 hi hW.2.1 hC.2.2.2.2.2.1 hq (hC.2.2.2.2.2.2.1 _ hw) (fun _ e => e) d k9
theorem Ev.geW {idx i : Nat} (d : decode (zcode y) pc = .ok (.getfield idx, 3)) (hi : i < 8) (hw : Cond.fieldLink (zname y).cls idx "SlackRows$Command" "word" "Ljava/lang/String;" ∈ zgw) (kk : Ev y (pc + 3) L (zr (some (4110 + i)) :: st) h n q) : Ev y pc L (zr (some (4096 + i)) :: st) h n q := by
  intro l p e s m args below meth c D cy A ad0 k0 J ad H locs ls hC hZ hW hl hL hs
  have k9 := kk l p e s m args below meth c D cy A ad0 k0 J ad H locs ls hC hZ hW hl hL (zst_go (zst_tl hs) ⟨trivial, fun x hx => Or.inr (by cases hx; omega)⟩)
  have e9 : zc ad (zr (some (4110 + i))) = .ref (ad0 (4110 + i)) := congrArg Value.ref (zad hW (by omega))
  rw [List.map_cons, e9] at k9
  show W p l e (zroom y) s m args below meth c H locs n.1 n.2 _ (F0 m pc ls (Value.ref (ad (4096 + i)) :: st.map (zc ad)))
  rw [zad hW (i := 4096 + i) (by omega)]
  exact va_getX (ad := fun i => ad0 (4096 + i)) (i := i) (v := fun i => .ref (ad0 (4110 + i))) hC.2.1 hC.2.2.1 hZ.2.2.2.2.2.2.2.2.2.1 hi hW.2.1 hC.2.2.2.2.2.1 (hC.2.2.2.2.2.2.1 _ hw) (fun _ e => e) d k9
/-- a text's fields, its bytes -/
theorem Ev.gtC {idx i : Nat} (d : decode (zcode y) pc = .ok (.getfield idx, 3)) (hi : i < 8) (hw : Cond.fieldLink (zname y).cls idx "java/lang/String" "coder" "B" ∈ zgw) (kk : Ev y (pc + 3) L (zi 0 :: st) h n q) : Ev y pc L (zr (some (4110 + i)) :: st) h n q := by
  intro l p e s m args below meth c D cy A ad0 k0 J ad H locs ls hC hZ hW hl hL hs
  have k9 := kk l p e s m args below meth c D cy A ad0 k0 J ad H locs ls hC hZ hW hl hL (zst_go (zst_tl hs) ⟨⟨by omega, by omega⟩, trivial⟩)
  show W p l e (zroom y) s m args below meth c H locs n.1 n.2 _ (F0 m pc ls (Value.ref (ad (4110 + i)) :: st.map (zc ad)))
  rw [zad hW (i := 4110 + i) (by omega)]
  exact vk_getf hC.2.1 hC.2.2.1 (hZ.2.2.2.2.2.2.2.2.2.2.1.1 i hi).2.1 hW.2.1 hC.2.2.2.2.2.1 (hC.2.2.2.2.2.2.1 _ hw) (fun _ e => e) d k9
theorem Ev.gtV {idx i : Nat} (d : decode (zcode y) pc = .ok (.getfield idx, 3)) (hi : i < 8) (hw : Cond.fieldLink (zname y).cls idx "java/lang/String" "value" "[B" ∈ zgw) (kk : Ev y (pc + 3) L (zr (some (4120 + i)) :: st) h n q) : Ev y pc L (zr (some (4110 + i)) :: st) h n q := by
  intro l p e s m args below meth c D cy A ad0 k0 J ad H locs ls hC hZ hW hl hL hs
  have k9 := kk l p e s m args below meth c D cy A ad0 k0 J ad H locs ls hC hZ hW hl hL (zst_go (zst_tl hs) ⟨trivial, fun x hx => Or.inr (by cases hx; omega)⟩)
  have e9 : zc ad (zr (some (4120 + i))) = .ref (ad0 (4120 + i)) := congrArg Value.ref (zad hW (by omega))
  rw [List.map_cons, e9] at k9
  show W p l e (zroom y) s m args below meth c H locs n.1 n.2 _ (F0 m pc ls (Value.ref (ad (4110 + i)) :: st.map (zc ad)))
  rw [zad hW (i := 4110 + i) (by omega)]
  exact vk_getf hC.2.1 hC.2.2.1 (hZ.2.2.2.2.2.2.2.2.2.2.1.1 i hi).2.2.1 hW.2.1 hC.2.2.2.2.2.1 (hC.2.2.2.2.2.2.1 _ hw) (fun _ e => e) d k9
def zbl (i : Nat) : Int := (zWlen.getD i 0 : Nat)
def zbv (i k : Nat) : Int := ((zWbyt.getD i []).getD k 0).toInt
theorem zbl_rng : ∀ i, i < 8 → 4 ≤ zbl i ∧ zbl i ≤ 6 := by decide
theorem zbv_rng : ∀ i, i < 8 → ∀ k, k < 6 → (k < zWlen.getD i 0 → 97 ≤ zbv i k ∧ zbv i k ≤ 122 ∧ (Int32.ofInt (zbv i k) &&& Int32.ofInt 255).toInt = zbv i k) := by decide +kernel
theorem Ev.alB {i : Nat} (d : decode (zcode y) pc = .ok (.arraylength, 1)) (hi : i < 8) (kk : Ev y (pc + 1) L (zi (zbl i) :: st) h n q) : Ev y pc L (zr (some (4120 + i)) :: st) h n q := by
  intro l p e s m args below meth c D cy A ad0 k0 J ad H locs ls hC hZ hW hl hL hs
  have hb := zbl_rng i hi
  have k9 := kk l p e s m args below meth c D cy A ad0 k0 J ad H locs ls hC hZ hW hl hL (zst_go (zst_tl hs) ⟨⟨by omega, by omega⟩, trivial⟩)
  show W p l e (zroom y) s m args below meth c H locs n.1 n.2 _ (F0 m pc ls (Value.ref (ad (4120 + i)) :: st.map (zc ad)))
  rw [zad hW (i := 4120 + i) (by omega)]
  exact va_tlen hC.2.1 hC.2.2.1 (hZ.2.2.2.2.2.2.2.2.2.2.1.1 i hi).2.2.2 hW.2.1 rfl d k9
theorem Ev.baB {i : Nat} {k : Int} (d : decode (zcode y) pc = .ok (.baload, 1)) (hi : i < 8) (h0 : 0 ≤ k) (h1 : k < zbl i) (kk : Ev y (pc + 1) L (zi (zbv i k.toNat) :: st) h n q) : Ev y pc L (zi k :: zr (some (4120 + i)) :: st) h n q := by
  intro l p e s m args below meth c D cy A ad0 k0 J ad H locs ls hC hZ hW hl hL hs
  have hb := zbl_rng i hi
  have hv := zbv_rng i hi k.toNat (by omega) (by unfold zbl at h1; omega)
  have k9 := kk l p e s m args below meth c D cy A ad0 k0 J ad H locs ls hC hZ hW hl hL (zst_go (zst_tl (zst_tl hs)) ⟨⟨by omega, by omega⟩, trivial⟩)
  show W p l e (zroom y) s m args below meth c H locs n.1 n.2 _ (F0 m pc ls (Value.int (Int32.ofInt k) :: Value.ref (ad (4120 + i)) :: st.map (zc ad)))
  rw [zad hW (i := 4120 + i) (by omega)]
  exact va_tb hC.2.1 hC.2.2.1 (hZ.2.2.2.2.2.2.2.2.2.2.1.1 i hi).2.2.2 hW.2.1 (zvp (zst_hd hs).1 h0 h1) (by rw [zI_nat (zst_hd hs).1 h0]; exact congrArg Value.int (zI_of _).symm) d k9
theorem Ev.ishr0 {a : Int} (d : decode (zcode y) pc = .ok (.ishr, 1)) (kk : Ev y (pc + 1) L (zi a :: st) h n q) : Ev y pc L (zi 0 :: zi a :: st) h n q := by
  intro l p e s m args below meth c D cy A ad0 k0 J ad H locs ls hC hZ hW hl hL hs
  have k9 := kk l p e s m args below meth c D cy A ad0 k0 J ad H locs ls hC hZ hW hl hL (zst_go (zst_tl (zst_tl hs)) (zst_hd (zst_tl hs)))
  refine lv_ishr hC.2.1 hC.2.2.1 d ?_
  have e9 : Int32.ofInt a >>> (Int32.ofInt 0 &&& 31) = Int32.ofInt a := by
    rw [show Int32.ofInt 0 &&& 31 = 0 from rfl]
    exact Int32.shiftRight_zero
  rw [e9]
  exact k9
theorem Ev.i2c {a : Int} (d : decode (zcode y) pc = .ok (.i2c, 1)) (ha : 0 ≤ a ∧ a ≤ 255) (kk : Ev y (pc + 1) L (zi a :: st) h n q) : Ev y pc L (zi a :: st) h n q := by
  intro l p e s m args below meth c D cy A ad0 k0 J ad H locs ls hC hZ hW hl hL hs
  have k9 := kk l p e s m args below meth c D cy A ad0 k0 J ad H locs ls hC hZ hW hl hL (zst_go (zst_tl hs) (zst_hd hs))
  refine lv_i2c (v := Int32.ofInt a) hC.2.1 hC.2.2.1 d ?_ k9
  have key : ∀ k : Nat, k < 256 → ((Int32.ofInt (k : Int)).toUInt32 % 65536).toInt32 = Int32.ofInt (k : Int) := by decide +kernel
  have := key a.toNat (by omega)
  rw [Int.toNat_of_nonneg ha.1] at this
  exact this
theorem Ev.nret {x : Int} {ty : FieldType} (d : decode (zcode y) pc = .ok (.ireturn, 1)) (hr : zret y = some ty) (hx : narrow ty (.int (Int32.ofInt x)) = .int (Int32.ofInt x)) (hn : n.1 ≤ (zroom y).cells ∧ n.2 ≤ (zroom y).slots) : Ev y pc L [zi x] h n (.inl (some (zi x)), h) := by
  intro l p e s m args below meth c0 D cy A ad0 k0 J ad H locs ls hC hZ hW hl hL hs
  refine W.widen hn.1 hn.2 (vx_ret (W.zret hC.2.1 hC.2.2.1 (hC.2.2.2.2.1.trans hr) hx (fun t ht hWm => ⟨some (zi x), ad, rfl, rfl, fun w hw => ?_, hW.end ht hWm.alike⟩) (fun q hq => hW.2.1.2.2 q hq) d hC.2.2.2.2.2.2.2.1))
  cases hw
  exact zst_hd hs
/-- a call on a text -/
theorem Ev.callT {z : zM} {idx i : Nat} {as : List zV} {stk : List zV} {v : Option zV} {h1 : zH} (hz : Ev z 0 (zargs 0 (zr (some (4110 + i)) :: as)) [] h (0, 0) (.inl v, h1)) (d : decode (zcode y) pc = .ok (.invokevirtual idx, 3)) (hok : zOk z) (lk : zLkV y z idx as.length) (hrm : zRm y z) (hi : i < 8) (hci : (zname z).cls = "java/lang/String") (hstk : stk = as.reverse ++ zr (some (4110 + i)) :: st) (hsz : ((zr (some (4110 + i)) :: as).map zcat).sum ≤ zmax z) (hop : (st.map zcat).sum ≤ 8) (hn : n.1 + (zroom z).cells ≤ (zroom y).cells ∧ n.2 + (zroom z).slots ≤ (zroom y).slots)
    (kk : Ev y (pc + 3) L (v.toList ++ st) h1 (n.1 + (zroom z).cells, n.2 + (zroom z).slots) q) : Ev y pc L stk h n q := by
  subst hstk
  intro l p e s m args below meth c0 D cy A ad0 k0 J ad H locs ls hC hZ hW hl hL hs
  have hs2 : ∀ w ∈ zr (some (4110 + i)) :: as, zgo h.1.length w := fun w hw => hs w (by
    rcases List.mem_cons.mp hw with e | e
    · rw [e]; exact List.mem_append_right _ List.mem_cons_self
    · exact List.mem_append_left _ (List.mem_reverse.mpr e))
  have hs3 : ∀ w ∈ st, zgo h.1.length w := fun w hw => hs w (List.mem_append_right _ (List.mem_cons_of_mem _ hw))
  have hM := zMetR hok hsz hz hs2 hC.1 D cy ad H.size
  have hts := hC.2.2.2.2.2.2.1
  have hrecv := vk_recv hZ.2.2.2.2.2.2.2.2.2.2.1 hi hW.2.1
  have hcb : CallW (zroom y) s args (zname y).cls (zname z).cls idx (zname z) (zcode z) (zmax z) (zret z) (zwsM z) (zroom z) (zroom z).cells (zroom z).slots as.length :=
    ⟨callB_of as.length hts (zGood hok) (zwsM_nil hok.1) rfl rfl (hts _ hok.2.2.2.1) (hts _ lk.1) ⟨hok.2.2.2.2.1, hok.2.2.2.2.2, lk.2.2.2⟩ hrm, hts _ lk.2.1, hts _ lk.2.2.1⟩
  refine zCore (a := (Value.ref (ad (4110 + i)) :: as.map (zc ad)).toArray) (va_runV (As := as.map (zc ad)) (Ts := zgw) (C := (zname z).cls) (b := ad (4110 + i)) ⟨hC.2.1, hC.2.2.1, hC.2.2.2.1, hC.2.2.2.2.2.1, hts⟩ hM hcb ⟨zBlind, by rw [hci, zad hW (by omega)]; exact hrecv, fun U hU hWm => zPre (as := zr (some (4110 + i)) :: as) hC hZ hW hU hWm⟩ rfl (by rw [List.length_map]) hl.1 ?_ (lv_room (by rw [zcat_sum]; exact hop)) d hn) hC hZ hW hl hL hs3 kk
  show (as.reverse ++ zr (some (4110 + i)) :: st).map (zc ad) = (as.map (zc ad)).reverse ++ Value.ref (ad (4110 + i)) :: st.map (zc ad)
  rw [List.map_append, List.map_reverse]
  rfl
/-- ordinal() of a command -/
theorem Ev.callO {idx i : Nat} {h1 : zH} {v : Option zV} (hz : Ev M_ord 0 [(0, zr (some (4096 + i)))] [] h (0, 0) (.inl v, h1)) (d : decode (zcode y) pc = .ok (.invokevirtual idx, 3)) (hi : i < 8) (lk : Cond.methodLink (zname y).cls idx ⟨"SlackRows$Command", "ordinal", "()I"⟩ ∈ zgw) (hrm : zRm y M_ord) (hop : (st.map zcat).sum ≤ 8) (hn : n.1 ≤ (zroom y).cells ∧ n.2 ≤ (zroom y).slots)
    (kk : Ev y (pc + 3) L (v.toList ++ st) h1 (n.1 + 0, n.2 + 0) q) : Ev y pc L (zr (some (4096 + i)) :: st) h n q := by
  intro l p e s m args below meth c0 D cy A ad0 k0 J ad H locs ls hC hZ hW hl hL hs
  have hs2 : ∀ w ∈ [zr (some (4096 + i))], zgo h.1.length w := fun w hw => hs w (by rw [List.mem_singleton.mp hw]; exact List.mem_cons_self)
  have hM := zMetR (as := [zr (some (4096 + i))]) ok_ord (Nat.le_of_ble_eq_true rfl) hz hs2 hC.1 D cy ad H.size
  have hts := hC.2.2.2.2.2.2.1
  have hrecv := va_recvE hZ.2.2.2.2.2.1 (show i < zCmd.length from hi) hW.2.1
  have hG : GoodIn zgw (va_wsU (zname y).cls idx "SlackRows$Command" "java/lang/Enum" ⟨"SlackRows$Command", "ordinal", "()I"⟩ (zname M_ord) (zwsM M_ord)) := by
    intro w hw
    unfold va_wsU at hw
    have gd : ∀ w, w ∈ zgw → w ∈ zgw ∧ ((w.onTables && w.keeps) = true ∨ ∃ ty, w = .arrayClass ty) := fun w hw => ⟨hw, good_of_word (List.mem_filter.mp hw).2⟩
    rcases List.mem_append.mp hw with g | g
    · simp only [List.mem_cons, List.not_mem_nil, or_false] at g
      rcases g with rfl | rfl | rfl | rfl | rfl
      · exact gd _ lk
      · exact gd _ (zgw_in (List.mem_of_getElem? (i := 439) (by decide +kernel)) rfl)
      · exact gd _ (zgw_in (List.mem_of_getElem? (i := 441) (by decide +kernel)) rfl)
      · exact gd _ (zgw_in (List.mem_of_getElem? (i := 442) (by decide +kernel)) rfl)
      · exact gd _ ok_ord.2.2.2.1
    · exact zGood ok_ord w g
  have cw := va_cwU (R := zroom y) (s := s) (args := args) (own := (zname y).cls) (index := idx) (C := "SlackRows$Command") (owner := "java/lang/Enum") (x := ⟨"SlackRows$Command", "ordinal", "()I"⟩) (y := zname M_ord) (bytes := zcode M_ord) (maxL := 1) (ret := some .int) (mc := 0) (ms := 0) (rm := zroom M_ord) 0 hts hG (zwsM_nil ok_ord.1) rfl rfl rfl ⟨by decide, by decide, by decide +kernel⟩ hrm
  refine zCore (a := #[Value.ref (ad (4096 + i))]) (mc := 0) (ms := 0) (va_runU (As := []) (Ts := zgw) (b := ad (4096 + i)) ⟨hC.2.1, hC.2.2.1, hC.2.2.2.1, hC.2.2.2.2.2.1, hts⟩ hM cw ⟨zBlind, by rw [zad hW (by omega)]; exact hrecv, fun U hU hWm => zPre (as := [zr (some (4096 + i))]) hC hZ hW hU hWm⟩ rfl rfl hl.1 rfl (lv_room (by rw [zcat_sum]; exact hop)) d hn) hC hZ hW hl hL (zst_tl hs) kk
end ZS
theorem s_ord {h : zH} {i : Nat} (hi : i < 8) : Ev M_ord 0 [(0, zr (some (4096 + i)))] [] h (0, 0) (.inl (some (zi (i : Int))), h) := by
  refine Ev.aload_n (pc := 0) (n := (0, 0)) (i := 0) dJx29ce0_ordinal_8abf5_0 rfl rfl ?_
  refine Ev.geE (pc := 1) (n := (0, 0)) (x := (i : Int)) (w := ("java/lang/Enum", "ordinal", "I", [0, 1, 2, 3, 4, 5, 6, 7])) dJx29ce0_ordinal_8abf5_1 hi (by decide) (zgw_in (List.mem_of_getElem? (i := 1324) (by decide +kernel)) rfl) ⟨by omega, by omega⟩ ((by decide : ∀ i : Nat, i < 8 → ([0, 1, 2, 3, 4, 5, 6, 7] : List Int32).getD i 0 = Int32.ofInt (i : Int)) i hi) ?_
  exact Ev.iret dJx29ce0_ordinal_8abf5_4 rfl ⟨(Nat.le_of_ble_eq_true rfl), (Nat.le_of_ble_eq_true rfl)⟩
theorem s_coder {h : zH} {i : Nat} (hi : i < 8) : Ev M_coder 0 [(0, zr (some (4110 + i)))] [] h (0, 0) (.inl (some (zi 0)), h) := by
  refine Ev.gsZ (pc := 0) (n := (0, 0)) dJ0_coder_7d493_0 (zgw_in (List.mem_of_getElem? (i := 337) (by decide +kernel)) rfl) ?_
  refine Ev.if_eq (pc := 3) (n := (0, 0)) (tgt := 13) dJ0_coder_7d493_3 rfl (fun hc => absurd hc (by decide)) (fun hc => ?_)
  refine Ev.aload_n (pc := 6) (n := (0, 0)) (i := 0) dJ0_coder_7d493_6 rfl rfl ?_
  refine Ev.gtC (pc := 7) (n := (0, 0)) dJ0_coder_7d493_7 hi (zgw_in (List.mem_of_getElem? (i := 1327) (by decide +kernel)) rfl) ?_
  refine Ev.goto (pc := 10) (n := (0, 0)) (tgt := 14) dJ0_coder_7d493_10 rfl ?_
  exact Ev.nret dJ0_coder_7d493_14 rfl (by decide) ⟨(Nat.le_of_ble_eq_true rfl), (Nat.le_of_ble_eq_true rfl)⟩
theorem s_lat {h : zH} {i : Nat} (hi : i < 8) : Ev M_lat 0 [(0, zr (some (4110 + i)))] [] h (0, 0) (.inl (some (zi 1)), h) := by
  refine Ev.gsZ (pc := 0) (n := (0, 0)) dJ0_isLatin1_aae02_0 (zgw_in (List.mem_of_getElem? (i := 337) (by decide +kernel)) rfl) ?_
  refine Ev.if_eq (pc := 3) (n := (0, 0)) (tgt := 17) dJ0_isLatin1_aae02_3 rfl (fun hc => absurd hc (by decide)) (fun hc => ?_)
  refine Ev.aload_n (pc := 6) (n := (0, 0)) (i := 0) dJ0_isLatin1_aae02_6 rfl rfl ?_
  refine Ev.gtC (pc := 7) (n := (0, 0)) dJ0_isLatin1_aae02_7 hi (zgw_in (List.mem_of_getElem? (i := 1327) (by decide +kernel)) rfl) ?_
  refine Ev.if_ne (pc := 10) (n := (0, 0)) (tgt := 17) dJ0_isLatin1_aae02_10 rfl (fun hc => absurd rfl hc) (fun hc => ?_)
  refine Ev.iconst (pc := 13) (n := (0, 0)) dJ0_isLatin1_aae02_13 ?_
  refine Ev.goto (pc := 14) (n := (0, 0)) (tgt := 18) dJ0_isLatin1_aae02_14 rfl ?_
  exact Ev.bret dJ0_isLatin1_aae02_18 rfl (by decide) ⟨(Nat.le_of_ble_eq_true rfl), (Nat.le_of_ble_eq_true rfl)⟩
theorem lkj_len {y : zM} (hy : (zname y).cls = "SlackRows$CommandText") : zLkV y M_slen 77 0 := by
  unfold zLkV
  rw [hy]
  exact ⟨zgw_in (List.mem_of_getElem? (i := 329) (by decide +kernel)) rfl, zgw_in (List.mem_of_getElem? (i := 330) (by decide +kernel)) rfl, zgw_in (List.mem_of_getElem? (i := 331) (by decide +kernel)) rfl, by decide +kernel⟩
theorem lkj_char {y : zM} (hy : (zname y).cls = "SlackRows$CommandText") : zLkV y M_schar 81 1 := by
  unfold zLkV
  rw [hy]
  exact ⟨zgw_in (List.mem_of_getElem? (i := 339) (by decide +kernel)) rfl, zgw_in (List.mem_of_getElem? (i := 340) (by decide +kernel)) rfl, zgw_in (List.mem_of_getElem? (i := 341) (by decide +kernel)) rfl, by decide +kernel⟩
theorem lkj_coder {y : zM} (hy : (zname y).cls = "java/lang/String") : zLkV y M_coder 335 0 := by
  unfold zLkV
  rw [hy]
  exact ⟨zgw_in (List.mem_of_getElem? (i := 333) (by decide +kernel)) rfl, zgw_in (List.mem_of_getElem? (i := 334) (by decide +kernel)) rfl, zgw_in (List.mem_of_getElem? (i := 335) (by decide +kernel)) rfl, by decide +kernel⟩
theorem lkj_lat {y : zM} (hy : (zname y).cls = "java/lang/String") : zLkV y M_lat 492 0 := by
  unfold zLkV
  rw [hy]
  exact ⟨zgw_in (List.mem_of_getElem? (i := 343) (by decide +kernel)) rfl, zgw_in (List.mem_of_getElem? (i := 344) (by decide +kernel)) rfl, zgw_in (List.mem_of_getElem? (i := 345) (by decide +kernel)) rfl, by decide +kernel⟩
theorem lkj_lchar {y : zM} (hy : (zname y).cls = "java/lang/String") : zLkS y M_lchar 495 2 := by
  unfold zLkS
  rw [hy]
  exact ⟨zgw_in (List.mem_of_getElem? (i := 347) (by decide +kernel)) rfl, zgw_in (List.mem_of_getElem? (i := 348) (by decide +kernel)) rfl, by decide +kernel⟩
theorem lkj_sci {y : zM} (hy : (zname y).cls = "java/lang/StringLatin1") : zLkS y M_sci 9 2 := by
  unfold zLkS
  rw [hy]
  exact ⟨zgw_in (List.mem_of_getElem? (i := 350) (by decide +kernel)) rfl, zgw_in (List.mem_of_getElem? (i := 351) (by decide +kernel)) rfl, by decide +kernel⟩
theorem lkj_pci {y : zM} (hy : (zname y).cls = "java/lang/String") : zLkS y M_pci 1059 3 := by
  unfold zLkS
  rw [hy]
  exact ⟨zgw_in (List.mem_of_getElem? (i := 355) (by decide +kernel)) rfl, zgw_in (List.mem_of_getElem? (i := 356) (by decide +kernel)) rfl, by decide +kernel⟩
theorem s_slen {h : zH} {i : Nat} (hi : i < 8) : Ev M_slen 0 [(0, zr (some (4110 + i)))] [] h (0, 0) (.inl (some (zi (zbl i))), h) := by
  refine Ev.aload_n (pc := 0) (n := (0, 0)) (i := 0) dJ0_length_8abf5_0 rfl rfl ?_
  refine Ev.gtV (pc := 1) (n := (0, 0)) dJ0_length_8abf5_1 hi (zgw_in (List.mem_of_getElem? (i := 1326) (by decide +kernel)) rfl) ?_
  refine Ev.alB (pc := 4) (n := (0, 0)) dJ0_length_8abf5_4 hi ?_
  refine Ev.aload_n (pc := 5) (n := (0, 0)) (i := 0) dJ0_length_8abf5_5 rfl rfl ?_
  refine Ev.callT (pc := 6) (n := (0, 0)) (i := i) (as := []) (st := [zi (zbl i)]) (s_coder hi) dJ0_length_8abf5_6 ok_coder (lkj_coder rfl) ⟨(Nat.le_of_ble_eq_true rfl), (Nat.le_of_ble_eq_true rfl)⟩ hi rfl rfl (Nat.le_of_ble_eq_true rfl) (Nat.le_of_ble_eq_true rfl) ⟨(Nat.le_of_ble_eq_true rfl), (Nat.le_of_ble_eq_true rfl)⟩ ?_
  refine Ev.ishr0 (pc := 9) (n := (0, 0)) dJ0_length_8abf5_9 ?_
  exact Ev.iret dJ0_length_8abf5_10 rfl ⟨(Nat.le_of_ble_eq_true rfl), (Nat.le_of_ble_eq_true rfl)⟩
theorem s_pci {h : zH} {k N : Int} (r : Option Nat) (h0 : 0 ≤ k) (h1 : k < N) : Ev M_pci 0 [(0, zi k), (1, zi N), (2, zr r)] [] h (0, 0) (.inl (some (zi k)), h) := by
  refine Ev.iload_n (pc := 0) (n := (0, 0)) (i := 0) dJ3_checkIndex_8e157_0 rfl rfl ?_
  refine Ev.if_lt (pc := 1) (n := (0, 0)) (tgt := 9) dJ3_checkIndex_8e157_1 rfl (fun hc => absurd hc (by omega)) (fun hc => ?_)
  refine Ev.iload_n (pc := 4) (n := (0, 0)) (i := 0) dJ3_checkIndex_8e157_4 rfl rfl ?_
  refine Ev.iload_n (pc := 5) (n := (0, 0)) (i := 1) dJ3_checkIndex_8e157_5 rfl rfl ?_
  refine Ev.icmp_lt (pc := 6) (n := (0, 0)) (tgt := 16) dJ3_checkIndex_8e157_6 rfl (fun hc => ?_) (fun hc => absurd h1 hc)
  refine Ev.iload_n (pc := 16) (n := (0, 0)) (i := 0) dJ3_checkIndex_8e157_16 rfl rfl ?_
  exact Ev.iret dJ3_checkIndex_8e157_17 rfl ⟨(Nat.le_of_ble_eq_true rfl), (Nat.le_of_ble_eq_true rfl)⟩
theorem s_sci {h : zH} {k N : Int} (h0 : 0 ≤ k) (h1 : k < N) : Ev M_sci 0 [(0, zi k), (1, zi N)] [] h (0, 0) (.inl none, h) := by
  refine Ev.iload_n (pc := 0) (n := (0, 0)) (i := 0) dJ0_checkIndex_df160_0 rfl rfl ?_
  refine Ev.iload_n (pc := 1) (n := (0, 0)) (i := 1) dJ0_checkIndex_df160_1 rfl rfl ?_
  refine Ev.gsQ (pc := 2) (n := (0, 0)) dJ0_checkIndex_df160_2 (zgw_in (List.mem_of_getElem? (i := 353) (by decide +kernel)) rfl) (fun r hr => ?_)
  refine Ev.callS (pc := 5) (n := (0, 0)) (as := [zi k, zi N, zr r]) (st := []) (s_pci r h0 h1) dJ0_checkIndex_df160_5 ok_pci (lkj_pci rfl) ⟨(Nat.le_of_ble_eq_true rfl), (Nat.le_of_ble_eq_true rfl)⟩ rfl (Nat.le_of_ble_eq_true rfl) (Nat.le_of_ble_eq_true rfl) ⟨(Nat.le_of_ble_eq_true rfl), (Nat.le_of_ble_eq_true rfl)⟩ ?_
  refine Ev.pop (pc := 8) (n := (0, 0)) dJ0_checkIndex_df160_8 rfl ?_
  exact Ev.vret dJ0_checkIndex_df160_9 rfl ⟨(Nat.le_of_ble_eq_true rfl), (Nat.le_of_ble_eq_true rfl)⟩
theorem s_lchar {h : zH} {i : Nat} (hi : i < 8) {k : Int} (h0 : 0 ≤ k) (h1 : k < zbl i) : Ev M_lchar 0 [(0, zr (some (4120 + i))), (1, zi k)] [] h (0, 0) (.inl (some (zi (zbv i k.toNat))), h) := by
  have hb := zbl_rng i hi
  have hv := zbv_rng i hi k.toNat (by omega) (by unfold zbl at h1; omega)
  refine Ev.iload_n (pc := 0) (n := (0, 0)) (i := 1) dJ1_charAt_3b067_0 rfl rfl ?_
  refine Ev.aload_n (pc := 1) (n := (0, 0)) (i := 0) dJ1_charAt_3b067_1 rfl rfl ?_
  refine Ev.alB (pc := 2) (n := (0, 0)) dJ1_charAt_3b067_2 hi ?_
  refine Ev.callS (pc := 3) (n := (0, 0)) (as := [zi k, zi (zbl i)]) (st := []) (s_sci h0 h1) dJ1_charAt_3b067_3 ok_sci (lkj_sci rfl) ⟨(Nat.le_of_ble_eq_true rfl), (Nat.le_of_ble_eq_true rfl)⟩ rfl (Nat.le_of_ble_eq_true rfl) (Nat.le_of_ble_eq_true rfl) ⟨(Nat.le_of_ble_eq_true rfl), (Nat.le_of_ble_eq_true rfl)⟩ ?_
  refine Ev.aload_n (pc := 6) (n := (0, 0)) (i := 0) dJ1_charAt_3b067_6 rfl rfl ?_
  refine Ev.iload_n (pc := 7) (n := (0, 0)) (i := 1) dJ1_charAt_3b067_7 rfl rfl ?_
  refine Ev.baB (pc := 8) (n := (0, 0)) dJ1_charAt_3b067_8 hi h0 h1 ?_
  refine Ev.sipush (pc := 9) (n := (0, 0)) dJ1_charAt_3b067_9 ?_
  refine Ev.iand (pc := 12) (n := (0, 0)) dJ1_charAt_3b067_12 ?_
  rw [hv.2.2]
  refine Ev.i2c (pc := 13) (n := (0, 0)) dJ1_charAt_3b067_13 ⟨by omega, by omega⟩ ?_
  refine Ev.nret dJ1_charAt_3b067_14 rfl ?_ ⟨(Nat.le_of_ble_eq_true rfl), (Nat.le_of_ble_eq_true rfl)⟩
  have key : ∀ k : Nat, k < 256 → narrow .char (.int (Int32.ofInt (k : Int))) = .int (Int32.ofInt (k : Int)) := by decide +kernel
  have := key (zbv i k.toNat).toNat (by omega)
  rw [Int.toNat_of_nonneg (by omega)] at this
  exact this
theorem s_schar {h : zH} {i : Nat} (hi : i < 8) {k : Int} (h0 : 0 ≤ k) (h1 : k < zbl i) : Ev M_schar 0 [(0, zr (some (4110 + i))), (1, zi k)] [] h (0, 0) (.inl (some (zi (zbv i k.toNat))), h) := by
  have hb := zbl_rng i hi
  have hv := zbv_rng i hi k.toNat (by omega) (by unfold zbl at h1; omega)
  refine Ev.aload_n (pc := 0) (n := (0, 0)) (i := 0) dJ0_charAt_5068e_0 rfl rfl ?_
  refine Ev.callT (pc := 1) (n := (0, 0)) (i := i) (as := []) (st := []) (s_lat hi) dJ0_charAt_5068e_1 ok_lat (lkj_lat rfl) ⟨(Nat.le_of_ble_eq_true rfl), (Nat.le_of_ble_eq_true rfl)⟩ hi rfl rfl (Nat.le_of_ble_eq_true rfl) (Nat.le_of_ble_eq_true rfl) ⟨(Nat.le_of_ble_eq_true rfl), (Nat.le_of_ble_eq_true rfl)⟩ ?_
  refine Ev.if_eq (pc := 4) (n := (0, 0)) (tgt := 16) dJ0_charAt_5068e_4 rfl (fun hc => absurd hc (by decide)) (fun hc => ?_)
  refine Ev.aload_n (pc := 7) (n := (0, 0)) (i := 0) dJ0_charAt_5068e_7 rfl rfl ?_
  refine Ev.gtV (pc := 8) (n := (0, 0)) dJ0_charAt_5068e_8 hi (zgw_in (List.mem_of_getElem? (i := 1326) (by decide +kernel)) rfl) ?_
  refine Ev.iload_n (pc := 11) (n := (0, 0)) (i := 1) dJ0_charAt_5068e_11 rfl rfl ?_
  refine Ev.callS (pc := 12) (n := (0, 0)) (as := [zr (some (4120 + i)), zi k]) (st := []) (s_lchar hi h0 h1) dJ0_charAt_5068e_12 ok_lchar (lkj_lchar rfl) ⟨(Nat.le_of_ble_eq_true rfl), (Nat.le_of_ble_eq_true rfl)⟩ rfl (Nat.le_of_ble_eq_true rfl) (Nat.le_of_ble_eq_true rfl) ⟨(Nat.le_of_ble_eq_true rfl), (Nat.le_of_ble_eq_true rfl)⟩ ?_
  refine Ev.nret dJ0_charAt_5068e_15 rfl ?_ ⟨(Nat.le_of_ble_eq_true rfl), (Nat.le_of_ble_eq_true rfl)⟩
  have key : ∀ k : Nat, k < 256 → narrow .char (.int (Int32.ofInt (k : Int))) = .int (Int32.ofInt (k : Int)) := by decide +kernel
  have := key (zbv i k.toNat).toNat (by omega)
  rw [Int.toNat_of_nonneg (by omega)] at this
  exact this
