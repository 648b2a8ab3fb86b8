/-! ===== the heap's rows ===== -/
def zT (c : Nat) : u_T := match c with
  | 0 => TX2
  | 1 => TX3
  | 2 => TX5
  | 3 => TX6
  | _ => TX7
def zCn (c : Nat) : String := match c with
  | 0 => RX2
  | 1 => RX3
  | 2 => RX5
  | 3 => RX6
  | _ => RX7
def zty (c : Nat) : Nat → FieldType := match c with
  | 0 => tyX2
  | 1 => tyX3
  | 2 => tyX5
  | 3 => tyX6
  | _ => tyX7
theorem zlt5 {P : Nat → Prop} (h0 : P 0) (h1 : P 1) (h2 : P 2) (h3 : P 3) (h4 : P 4) {c : Nat} (hc : c < 5) : P c := by
  match c, hc with
  | 0, _ => exact h0
  | 1, _ => exact h1
  | 2, _ => exact h2
  | 3, _ => exact h3
  | 4, _ => exact h4
theorem zcl {c : Nat} (hc : c < 5) : vwCl[c]? = some (zCn c, zT c, zNf c) := zlt5 (P := fun c => vwCl[c]? = some (zCn c, zT c, zNf c)) rfl rfl rfl rfl rfl hc
theorem zT_own {c : Nat} (hc : c < 5) : ∀ k, k < zNf c → (zT c k).1 = zCn c := zlt5 (P := fun c => ∀ k, k < zNf c → (zT c k).1 = zCn c) (by decide +kernel) (by decide +kernel) (by decide +kernel) (by decide +kernel) (by decide +kernel) hc
theorem zty_ok {c : Nat} (hc : c < 5) : ∀ k, k < zNf c → parseFieldDescriptor (zT c k).2.2.1 = some (zty c k) := zlt5 (P := fun c => ∀ k, k < zNf c → parseFieldDescriptor (zT c k).2.2.1 = some (zty c k)) tyX2_ok tyX3_ok tyX5_ok tyX6_ok tyX7_ok hc
theorem zT_nm {c : Nat} (hc : c < 5) : ∀ a, a < zNf c → ∀ b, b < zNf c → a ≠ b → (zT c a).2.1 ≠ (zT c b).2.1 := zlt5 (P := fun c => ∀ a, a < zNf c → ∀ b, b < zNf c → a ≠ b → (zT c a).2.1 ≠ (zT c b).2.1) nmX2 nmX3 nmX5 nmX6 nmX7 hc
def zrt (t : FieldType) : Bool := match t with
  | .object _ => true
  | .array _ => true
  | _ => false
theorem zty_r {c : Nat} (hc : c < 5) : ∀ k, k < zNf c → zrt (zty c k) = zRf c k := zlt5 (P := fun c => ∀ k, k < zNf c → zrt (zty c k) = zRf c k) (by decide +kernel) (by decide +kernel) (by decide +kernel) (by decide +kernel) (by decide +kernel) hc
theorem zty_i {c : Nat} (hc : c < 5) : ∀ k, k < zNf c → zRf c k = false → zty c k = .int ∨ zty c k = .boolean := zlt5 (P := fun c => ∀ k, k < zNf c → zRf c k = false → zty c k = .int ∨ zty c k = .boolean) (by decide +kernel) (by decide +kernel) (by decide +kernel) (by decide +kernel) (by decide +kernel) hc
theorem zgood_ws {c : Nat} (hc : c < 5) : (u_ws (zCn c) (zT c) (zNf c)).all goodWord = true := zlt5 (P := fun c => (u_ws (zCn c) (zT c) (zNf c)).all goodWord = true) (by decide +kernel) (by decide +kernel) (by decide +kernel) (by decide +kernel) (by decide +kernel) hc
theorem zin_ws {c : Nat} (hc : c < 5) : ∀ w ∈ u_ws (zCn c) (zT c) (zNf c), w ∈ zgw := fun w hw => zgw_in (zlt5 (P := fun c => ∀ w ∈ u_ws (zCn c) (zT c) (zNf c), w ∈ lw_tbl) inX2 inX3 inX5 inX6 inX7 hc w hw) (List.all_eq_true.mp (zgood_ws hc) w hw)
theorem zE_obj {cy : Nat → ClassId} {ad : Nat → Nat} {c z : Nat} (hc : c < 5) (I : Int → Int) (R : Int → Option Nat) : zE cy ad (c, z) I R = .inr (c, zfl ad c I R) := by
  unfold zE
  dsimp only
  rw [if_neg (by omega), if_neg (by omega), if_neg (by omega), if_neg (by omega), if_neg (by omega)]
theorem zfl_len (ad : Nat → Nat) (c : Nat) (I : Int → Int) (R : Int → Option Nat) : (zfl ad c I R).length = zNf c := by simp [zfl]
theorem zfl_get {ad : Nat → Nat} {c k : Nat} (hk : k < zNf c) (I : Int → Int) (R : Int → Option Nat) : (zfl ad c I R)[k]? = some (if zRf c k = true then va_rf ((R (k : Nat)).map ad) else .int (Int32.ofInt (I (k : Nat)))) := by
  simp [zfl, hk]
theorem zfl_setI {ad : Nat → Nat} {c k : Nat} (hr : zRf c k = false) (I : Int → Int) (R : Int → Option Nat) (x : Int) : zfl ad c (fun j => if j = (k : Int) then x else I j) R = (zfl ad c I R).set k (.int (Int32.ofInt x)) := by
  refine List.ext_getElem? fun i => ?_
  by_cases hi : i < zNf c
  · by_cases he : i = k
    · subst he
      rw [zfl_get hi, List.getElem?_set_self (by rw [zfl_len]; exact hi), hr]
      simp
    · rw [zfl_get hi, List.getElem?_set_ne (fun h => he h.symm), zfl_get hi]
      have : ¬ ((i : Int) = (k : Int)) := fun h => he (Int.ofNat_inj.mp h)
      simp only [this, if_false]
  · rw [List.getElem?_eq_none (by rw [zfl_len]; omega), List.getElem?_eq_none (by rw [List.length_set, zfl_len]; omega)]
theorem zfl_setR {ad : Nat → Nat} {c k : Nat} (hr : zRf c k = true) (I : Int → Int) (R : Int → Option Nat) (x : Option Nat) : zfl ad c I (fun j => if j = (k : Int) then x else R j) = (zfl ad c I R).set k (va_rf (x.map ad)) := by
  refine List.ext_getElem? fun i => ?_
  by_cases hi : i < zNf c
  · by_cases he : i = k
    · subst he
      rw [zfl_get hi, List.getElem?_set_self (by rw [zfl_len]; exact hi), hr]
      simp
    · rw [zfl_get hi, List.getElem?_set_ne (fun h => he h.symm), zfl_get hi]
      have : ¬ ((i : Int) = (k : Int)) := fun h => he (Int.ofNat_inj.mp h)
      simp only [this, if_false]
  · rw [List.getElem?_eq_none (by rw [zfl_len]; omega), List.getElem?_eq_none (by rw [List.length_set, zfl_len]; omega)]
theorem zup_row {α : Type} (f : Nat → Int → α) (o : Nat) (k : Int) (v : α) : zup f o k v o = fun j => if j = k then v else f o j := by
  funext j
  simp [zup]
/-- the link words of a field -/
def zFl (own : String) (idx c k : Nat) : Prop := c < 5 ∧ k < zNf c ∧ Cond.fieldLink own idx (zCn c) (zT c k).2.1 (zT c k).2.2.1 ∈ zgw
section ZH
variable {D : va_G} {cy : Nat → ClassId} {A : Nat → Prop} {ad0 : Nat → Nat} {k0 : Nat} {J : Nat → Int → Int} {ad : Nat → Nat} {h : zH} {s : State} {H H1 : Heap} {locs locs1 : List Loc} {o : Nat} {kd : Nat × Nat}
theorem zWl.putI {k x : Int} (hW : zWl D cy A ad0 k0 J ad h s H locs) (ho : h.1[o]? = some kd) (hx : zin x) (hP1 : va_P D vwCl ((zws cy ad h).set o (ad o, zE cy ad kd (zup h.2.1 o k x o) (h.2.2 o))) H1) (hD1 : va_D A ((zws cy ad h).set o (ad o, zE cy ad kd (zup h.2.1 o k x o) (h.2.2 o)))) (hS1 : va_S A s.heap H1 locs1) : zWl D cy A ad0 k0 J ad (h.1, zup h.2.1 o k x, h.2.2) s H1 locs1 := by
  obtain ⟨⟨-, -, hK, hlen, hin⟩, -, had, hk0, hJ, hv⟩ := hW
  have hol : o < 4096 := Nat.lt_of_lt_of_le (List.getElem?_eq_some_iff.mp ho).1 hlen
  have e : (zws cy ad h).set o (ad o, zE cy ad kd (zup h.2.1 o k x o) (h.2.2 o)) = zws cy ad (h.1, zup h.2.1 o k x, h.2.2) := (zws_set (K := h.1) (I := h.2.1) (I' := zup h.2.1 o k x) (R := h.2.2) (R' := h.2.2) ho (fun i hi => funext fun j => zup_o h.2.1 k j x hi) (fun _ _ => rfl)).symm
  rw [e] at hP1 hD1
  refine ⟨⟨hP1, hD1, hK, hlen, fun o' k' => ?_⟩, hS1, had, hk0, fun i hi => ?_, hv⟩
  · show zin (zup h.2.1 o k x o' k')
    unfold zup
    split
    · exact hx
    · exact hin o' k'
  · have hne : i ≠ o := by omega
    exact (funext fun j => zup_o h.2.1 k j x hne).trans (hJ i hi)
theorem zWl.putR {k : Int} {x : Option Nat} (hW : zWl D cy A ad0 k0 J ad h s H locs) (ho : h.1[o]? = some kd) (hx : zvd h.1.length (zr x)) (hP1 : va_P D vwCl ((zws cy ad h).set o (ad o, zE cy ad kd (h.2.1 o) (zup h.2.2 o k x o))) H1) (hD1 : va_D A ((zws cy ad h).set o (ad o, zE cy ad kd (h.2.1 o) (zup h.2.2 o k x o)))) (hS1 : va_S A s.heap H1 locs1) : zWl D cy A ad0 k0 J ad (h.1, h.2.1, zup h.2.2 o k x) s H1 locs1 := by
  obtain ⟨⟨-, -, hK, hlen, hin⟩, -, had, hk0, hJ, hv⟩ := hW
  have e : (zws cy ad h).set o (ad o, zE cy ad kd (h.2.1 o) (zup h.2.2 o k x o)) = zws cy ad (h.1, h.2.1, zup h.2.2 o k x) := (zws_set (K := h.1) (I := h.2.1) (I' := h.2.1) (R := h.2.2) (R' := zup h.2.2 o k x) ho (fun _ _ => rfl) (fun i hi => funext fun j => zup_o h.2.2 k j x hi)).symm
  rw [e] at hP1 hD1
  refine ⟨⟨hP1, hD1, hK, hlen, hin⟩, hS1, had, hk0, hJ, fun o' k' z hz => ?_⟩
  have hz' : zup h.2.2 o k x o' k' = some z := hz
  unfold zup at hz'
  split at hz'
  · exact hx z hz'
  · exact hv o' k' z hz'
end ZH
section ZR2
variable {y : zM} {pc : Nat} {L : List (Nat × zV)} {st : List zV} {h : zH} {n : Nat × Nat} {q : zO}
theorem Ev.getI {idx ob c z k : Nat} (d : decode (zcode y) pc = .ok (.getfield idx, 3)) (lk : zFl (zname y).cls idx c k) (ho : h.1[ob]? = some (c, z)) (hr : zRf c k = false) (kk : Ev y (pc + 3) L (zi (h.2.1 ob (k : Nat)) :: st) h n q) : Ev y pc L (zr (some ob) :: st) h n q := by
  intro l p e s m args below meth c0 D cy A ad0 k0 J ad H locs ls hC hZ hW hl hL hs
  obtain ⟨hc, hk, hw⟩ := lk
  have he := zws_get (cy := cy) (ad := ad) ho
  rw [zE_obj hc] at he
  exact va_get hC.2.1 hC.2.2.1 hC.2.2.2.2.2.2.1 (zin_ws hc) hC.2.2.2.2.2.1 hW.1.2.2.1 hW.1.1 ob he (zcl hc) k hk (hC.2.2.2.2.2.2.1 _ hw) (fun x e => by rw [zT_own hc k hk] at e; exact e) (by rw [zfl_get hk, hr]; rfl) d
    (kk l p e s m args below meth c0 D cy A ad0 k0 J ad H locs ls hC hZ hW hl hL (zst_go (zst_tl hs) ⟨hW.1.2.2.2.2 _ _, trivial⟩))
theorem Ev.getR {idx ob c z k : Nat} (d : decode (zcode y) pc = .ok (.getfield idx, 3)) (lk : zFl (zname y).cls idx c k) (ho : h.1[ob]? = some (c, z)) (hr : zRf c k = true) (kk : Ev y (pc + 3) L (zr (h.2.2 ob (k : Nat)) :: st) h n q) : Ev y pc L (zr (some ob) :: st) h n q := by
  intro l p e s m args below meth c0 D cy A ad0 k0 J ad H locs ls hC hZ hW hl hL hs
  obtain ⟨hc, hk, hw⟩ := lk
  have he := zws_get (cy := cy) (ad := ad) ho
  rw [zE_obj hc] at he
  exact va_get hC.2.1 hC.2.2.1 hC.2.2.2.2.2.2.1 (zin_ws hc) hC.2.2.2.2.2.1 hW.1.2.2.1 hW.1.1 ob he (zcl hc) k hk (hC.2.2.2.2.2.2.1 _ hw) (fun x e => by rw [zT_own hc k hk] at e; exact e) (by rw [zfl_get hk, hr]; rfl) d
    (kk l p e s m args below meth c0 D cy A ad0 k0 J ad H locs ls hC hZ hW hl hL (zst_go (zst_tl hs) ⟨trivial, fun x hx => hW.2.2.2.2.2 _ _ x hx⟩))
theorem znar_i {t : FieldType} {x : Int} (ht : t = .int ∨ t = .boolean) (hb : t = .boolean → x = 0 ∨ x = 1) : narrow t (.int (Int32.ofInt x)) = .int (Int32.ofInt x) ∧ fits t (.int (Int32.ofInt x)) = true := by
  rcases ht with rfl | rfl
  · exact ⟨rfl, rfl⟩
  · rcases hb rfl with rfl | rfl
    · exact ⟨by decide, by decide⟩
    · exact ⟨by decide, by decide⟩
theorem znar_r {t : FieldType} {x : Option Nat} (ht : zrt t = true) : narrow t (va_rf x) = va_rf x ∧ fits t (va_rf x) = true := by
  cases t <;> simp [zrt] at ht
  · cases x <;> exact ⟨rfl, rfl⟩
  · cases x <;> exact ⟨rfl, rfl⟩
theorem Ev.putI {idx ob c z k : Nat} {x : Int} (d : decode (zcode y) pc = .ok (.putfield idx, 3)) (lk : zFl (zname y).cls idx c k) (ho : h.1[ob]? = some (c, z)) (hr : zRf c k = false) (hf : (zT c k).2.2.2 = false) (hbx : zty c k = .boolean → x = 0 ∨ x = 1) (kk : Ev y (pc + 3) L st (h.1, zup h.2.1 ob (k : Nat) x, h.2.2) n q) : Ev y pc L (zi x :: zr (some ob) :: st) h n q := by
  intro l p e s m args below meth c0 D cy A ad0 k0 J ad H locs ls hC hZ hW hl hL hs
  obtain ⟨hc, hk, hw⟩ := lk
  have he := zws_get (cy := cy) (ad := ad) ho
  rw [zE_obj hc] at he
  have hnf := znar_i (x := x) (zty_i hc k hk hr) hbx
  refine va_put hC.2.1 hC.2.2.1 hC.2.2.2.2.2.2.1 (zin_ws hc) (zty c) (zty_ok hc) (zT_nm hc) hC.2.2.2.2.2.1 hW.1.2.2.1 hW.1.1 hW.1.2.1 hW.2.1 ob he (zcl hc) k hk (hC.2.2.2.2.2.2.1 _ hw) (fun x e => by rw [zT_own hc k hk] at e; exact e) hf (zty_ok hc k hk) hnf.1 hnf.2 (by rw [zfl_len]; exact hk) d (fun H1 locs1 hP1 hD1 hS1 => ?_)
  have e9 : (Sum.inr (c, (zfl ad c (h.2.1 ob) (h.2.2 ob)).set k (zc ad (zi x))) : va_E) = zE cy ad (c, z) (zup h.2.1 ob (k : Nat) x ob) (h.2.2 ob) := by
    rw [zE_obj hc, zup_row, zfl_setI hr]
    rfl
  have hP1 : va_P D vwCl ((zws cy ad h).set ob (ad ob, Sum.inr (c, (zfl ad c (h.2.1 ob) (h.2.2 ob)).set k (zc ad (zi x))))) H1 := hP1
  have hD1 : va_D A ((zws cy ad h).set ob (ad ob, Sum.inr (c, (zfl ad c (h.2.1 ob) (h.2.2 ob)).set k (zc ad (zi x))))) := hD1
  rw [e9] at hP1 hD1
  exact kk l p e s m args below meth c0 D cy A ad0 k0 J ad H1 locs1 ls hC hZ (zWl.putI hW ho (zst_hd hs).1 hP1 hD1 hS1) hl hL (zst_tl (zst_tl hs))
theorem Ev.putR {idx ob c z k : Nat} {x : Option Nat} (d : decode (zcode y) pc = .ok (.putfield idx, 3)) (lk : zFl (zname y).cls idx c k) (ho : h.1[ob]? = some (c, z)) (hr : zRf c k = true) (hf : (zT c k).2.2.2 = false) (kk : Ev y (pc + 3) L st (h.1, h.2.1, zup h.2.2 ob (k : Nat) x) n q) : Ev y pc L (zr x :: zr (some ob) :: st) h n q := by
  intro l p e s m args below meth c0 D cy A ad0 k0 J ad H locs ls hC hZ hW hl hL hs
  obtain ⟨hc, hk, hw⟩ := lk
  have he := zws_get (cy := cy) (ad := ad) ho
  rw [zE_obj hc] at he
  have hnf := znar_r (t := zty c k) (x := x.map ad) ((zty_r hc k hk).trans hr)
  refine va_put hC.2.1 hC.2.2.1 hC.2.2.2.2.2.2.1 (zin_ws hc) (zty c) (zty_ok hc) (zT_nm hc) hC.2.2.2.2.2.1 hW.1.2.2.1 hW.1.1 hW.1.2.1 hW.2.1 ob he (zcl hc) k hk (hC.2.2.2.2.2.2.1 _ hw) (fun x e => by rw [zT_own hc k hk] at e; exact e) hf (zty_ok hc k hk) hnf.1 hnf.2 (by rw [zfl_len]; exact hk) d (fun H1 locs1 hP1 hD1 hS1 => ?_)
  have e9 : (Sum.inr (c, (zfl ad c (h.2.1 ob) (h.2.2 ob)).set k (zc ad (zr x))) : va_E) = zE cy ad (c, z) (h.2.1 ob) (zup h.2.2 ob (k : Nat) x ob) := by
    rw [zE_obj hc, zup_row, zfl_setR hr]
    rfl
  have hP1 : va_P D vwCl ((zws cy ad h).set ob (ad ob, Sum.inr (c, (zfl ad c (h.2.1 ob) (h.2.2 ob)).set k (zc ad (zr x))))) H1 := hP1
  have hD1 : va_D A ((zws cy ad h).set ob (ad ob, Sum.inr (c, (zfl ad c (h.2.1 ob) (h.2.2 ob)).set k (zc ad (zr x))))) := hD1
  rw [e9] at hP1 hD1
  exact kk l p e s m args below meth c0 D cy A ad0 k0 J ad H1 locs1 ls hC hZ (zWl.putR hW ho (zst_hd hs).2 hP1 hD1 hS1) hl hL (zst_tl (zst_tl hs))
/-- a final field in its class's own constructor -/
theorem Ev.putF {idx ob c z k : Nat} {x : Option Nat} (d : decode (zcode y) pc = .ok (.putfield idx, 3)) (lk : zFl (zname y).cls idx c k) (ho : h.1[ob]? = some (c, z)) (hr : zRf c k = true) (hf : (zT c k).2.2.2 = true) (hin : (zname y).name = "<init>") (hcl : zCn c = (zname y).cls) (kk : Ev y (pc + 3) L st (h.1, h.2.1, zup h.2.2 ob (k : Nat) x) n q) : Ev y pc L (zr x :: zr (some ob) :: st) h n q := by
  intro l p e s m args below meth c0 D cy A ad0 k0 J ad H locs ls hC hZ hW hl hL hs
  obtain ⟨hc, hk, hw⟩ := lk
  have he := zws_get (cy := cy) (ad := ad) ho
  rw [zE_obj hc] at he
  have hnf := znar_r (t := zty c k) (x := x.map ad) ((zty_r hc k hk).trans hr)
  refine va_putF hC.2.1 hC.2.2.1 hC.2.2.2.2.2.2.1 (zin_ws hc) (zty c) (zty_ok hc) (zT_nm hc) hC.2.2.2.2.2.1 hW.1.2.2.1 hW.1.1 hW.1.2.1 hW.2.1 ob he (zcl hc) k hk (hC.2.2.2.2.2.2.1 _ hw) (fun x e => by rw [zT_own hc k hk] at e; exact e) hf (hC.2.2.2.2.2.2.2.2.2.1.trans hin) ((zT_own hc k hk).trans hcl) (zty_ok hc k hk) hnf.1 hnf.2 (by rw [zfl_len]; exact hk) d (fun H1 locs1 hP1 hD1 hS1 => ?_)
  have e9 : (Sum.inr (c, (zfl ad c (h.2.1 ob) (h.2.2 ob)).set k (zc ad (zr x))) : va_E) = zE cy ad (c, z) (h.2.1 ob) (zup h.2.2 ob (k : Nat) x ob) := by
    rw [zE_obj hc, zup_row, zfl_setR hr]
    rfl
  have hP1 : va_P D vwCl ((zws cy ad h).set ob (ad ob, Sum.inr (c, (zfl ad c (h.2.1 ob) (h.2.2 ob)).set k (zc ad (zr x))))) H1 := hP1
  have hD1 : va_D A ((zws cy ad h).set ob (ad ob, Sum.inr (c, (zfl ad c (h.2.1 ob) (h.2.2 ob)).set k (zc ad (zr x))))) := hD1
  rw [e9] at hP1 hD1
  exact kk l p e s m args below meth c0 D cy A ad0 k0 J ad H1 locs1 ls hC hZ (zWl.putR hW ho (zst_hd hs).2 hP1 hD1 hS1) hl hL (zst_tl (zst_tl hs))
/-! arrays -/
theorem zE5 (cy : Nat → ClassId) (ad : Nat → Nat) (N : Nat) (I : Int → Int) (R : Int → Option Nat) : zE cy ad (5, N) I R = .inl (cy 5, N, .inl fun j => Int32.ofInt (I (j : Nat))) := rfl
theorem zE6 (cy : Nat → ClassId) (ad : Nat → Nat) (N : Nat) (I : Int → Int) (R : Int → Option Nat) : zE cy ad (6, N) I R = .inl (cy 6, N, .inl fun j => Int32.ofInt (I (j : Nat))) := rfl
theorem zE7 (cy : Nat → ClassId) (ad : Nat → Nat) (N : Nat) (I : Int → Int) (R : Int → Option Nat) : zE cy ad (7, N) I R = .inl (cy 7, N, .inr (.inr (.inr (.inr fun j => (R (j : Nat)).map ad)))) := rfl
theorem zE8 (cy : Nat → ClassId) (ad : Nat → Nat) (N : Nat) (I : Int → Int) (R : Int → Option Nat) : zE cy ad (8, N) I R = .inl (cy 8, N, .inr (.inr (.inr (.inr fun j => (R (j : Nat)).map ad)))) := rfl
theorem zE9 (cy : Nat → ClassId) (ad : Nat → Nat) (N : Nat) (I : Int → Int) (R : Int → Option Nat) : zE cy ad (9, N) I R = .inl (cy 9, N, .inr (.inl fun j => Int64.ofInt (I (j : Nat)))) := rfl
theorem zupd {I : Int → Int} {x i : Int} (gi : zin i) (h0 : 0 ≤ i) : upd (fun j => Int32.ofInt (I (j : Nat))) (Int32.ofInt i).toNatClampNeg (Int32.ofInt x) = fun j : Nat => Int32.ofInt (if (j : Int) = i then x else I j) := by
  funext j
  unfold upd
  rw [zI_nat gi h0]
  by_cases hj : (j : Int) = i
  · rw [if_pos (by omega), if_pos hj]
  · rw [if_neg (by omega), if_neg hj]
theorem zupdL {I : Int → Int} {x i : Int} (gi : zin i) (h0 : 0 ≤ i) : vp_updL (fun j => Int64.ofInt (I (j : Nat))) (Int32.ofInt i).toNatClampNeg (Int64.ofInt x) = fun j : Nat => Int64.ofInt (if (j : Int) = i then x else I j) := by
  funext j
  unfold vp_updL
  rw [zI_nat gi h0]
  by_cases hj : (j : Int) = i
  · rw [if_pos (by omega), if_pos hj]
  · rw [if_neg (by omega), if_neg hj]
theorem zupdR {ad : Nat → Nat} {R : Int → Option Nat} {i : Int} {x : Nat} (gi : zin i) (h0 : 0 ≤ i) : va_up (fun j => (R (j : Nat)).map ad) (Int32.ofInt i).toNatClampNeg (some (ad x)) = fun j : Nat => (if (j : Int) = i then some x else R j).map ad := by
  funext j
  unfold va_up
  rw [zI_nat gi h0]
  by_cases hj : (j : Int) = i
  · rw [if_pos (by omega), if_pos hj]; rfl
  · rw [if_neg (by omega), if_neg hj]
theorem Ev.iald {ob N : Nat} {i : Int} (d : decode (zcode y) pc = .ok (.iaload, 1)) (ho : h.1[ob]? = some (5, N)) (h0 : 0 ≤ i) (h1 : i < N) (kk : Ev y (pc + 1) L (zi (h.2.1 ob i) :: st) h n q) : Ev y pc L (zi i :: zr (some ob) :: st) h n q := by
  intro l p e s m args below meth c0 D cy A ad0 k0 J ad H locs ls hC hZ hW hl hL hs
  have gi := (zst_hd hs).1
  have he := zws_get (cy := cy) (ad := ad) ho
  rw [zE5] at he
  refine va_iald hC.2.1 hC.2.2.1 hW.1.2.2.1 hW.1.1 ob 0 he rfl (zI_vp gi h0 h1) d ?_
  have k9 := kk l p e s m args below meth c0 D cy A ad0 k0 J ad H locs ls hC hZ hW hl hL (zst_go (zst_tl (zst_tl hs)) ⟨hW.1.2.2.2.2 _ _, trivial⟩)
  rw [zI_nat gi h0, zcast h0]
  exact k9
theorem Ev.zald {ob N : Nat} {i : Int} (d : decode (zcode y) pc = .ok (.baload, 1)) (ho : h.1[ob]? = some (6, N)) (h0 : 0 ≤ i) (h1 : i < N) (kk : Ev y (pc + 1) L (zi (h.2.1 ob i) :: st) h n q) : Ev y pc L (zi i :: zr (some ob) :: st) h n q := by
  intro l p e s m args below meth c0 D cy A ad0 k0 J ad H locs ls hC hZ hW hl hL hs
  have gi := (zst_hd hs).1
  have he := zws_get (cy := cy) (ad := ad) ho
  rw [zE6] at he
  refine va_zald hC.2.1 hC.2.2.1 hW.1.2.2.1 hW.1.1 ob 1 he rfl (zI_vp gi h0 h1) d ?_
  have k9 := kk l p e s m args below meth c0 D cy A ad0 k0 J ad H locs ls hC hZ hW hl hL (zst_go (zst_tl (zst_tl hs)) ⟨hW.1.2.2.2.2 _ _, trivial⟩)
  rw [zI_nat gi h0, zcast h0]
  exact k9
theorem Ev.lald {ob N : Nat} {i : Int} (d : decode (zcode y) pc = .ok (.laload, 1)) (ho : h.1[ob]? = some (9, N)) (h0 : 0 ≤ i) (h1 : i < N) (kk : Ev y (pc + 1) L (zl (h.2.1 ob i) :: st) h n q) : Ev y pc L (zi i :: zr (some ob) :: st) h n q := by
  intro l p e s m args below meth c0 D cy A ad0 k0 J ad H locs ls hC hZ hW hl hL hs
  have gi := (zst_hd hs).1
  have he := zws_get (cy := cy) (ad := ad) ho
  rw [zE9] at he
  refine va_lald hC.2.1 hC.2.2.1 hW.1.2.2.1 hW.1.1 ob 4 he rfl (zI_vp gi h0 h1) d ?_
  have k9 := kk l p e s m args below meth c0 D cy A ad0 k0 J ad H locs ls hC hZ hW hl hL (zst_go (zst_tl (zst_tl hs)) ⟨zin_L (hW.1.2.2.2.2 _ _), trivial⟩)
  rw [zI_nat gi h0, zcast h0]
  exact k9
theorem Ev.aald {ob N kd : Nat} {i : Int} (d : decode (zcode y) pc = .ok (.aaload, 1)) (ho : h.1[ob]? = some (kd, N)) (hkd : kd = 7 ∨ kd = 8) (h0 : 0 ≤ i) (h1 : i < N) (kk : Ev y (pc + 1) L (zr (h.2.2 ob i) :: st) h n q) : Ev y pc L (zi i :: zr (some ob) :: st) h n q := by
  intro l p e s m args below meth c0 D cy A ad0 k0 J ad H locs ls hC hZ hW hl hL hs
  have gi := (zst_hd hs).1
  have he := zws_get (cy := cy) (ad := ad) ho
  have k9 := kk l p e s m args below meth c0 D cy A ad0 k0 J ad H locs ls hC hZ hW hl hL (zst_go (zst_tl (zst_tl hs)) ⟨trivial, fun x hx => hW.2.2.2.2.2 _ _ x hx⟩)
  rcases hkd with rfl | rfl
  · rw [zE7] at he
    refine va_aldq hC.2.1 hC.2.2.1 hW.1.2.2.1 hW.1.1 ob 2 he rfl (zI_vp gi h0 h1) d ?_
    rw [zI_nat gi h0, zcast h0]
    exact k9
  · rw [zE8] at he
    refine va_aldq hC.2.1 hC.2.2.1 hW.1.2.2.1 hW.1.1 ob 3 he rfl (zI_vp gi h0 h1) d ?_
    rw [zI_nat gi h0, zcast h0]
    exact k9
theorem Ev.iast {ob N : Nat} {i x : Int} (d : decode (zcode y) pc = .ok (.iastore, 1)) (ho : h.1[ob]? = some (5, N)) (h0 : 0 ≤ i) (h1 : i < N) (kk : Ev y (pc + 1) L st (h.1, zup h.2.1 ob i x, h.2.2) n q) : Ev y pc L (zi x :: zi i :: zr (some ob) :: st) h n q := by
  intro l p e s m args below meth c0 D cy A ad0 k0 J ad H locs ls hC hZ hW hl hL hs
  have gi := (zst_hd (zst_tl hs)).1
  have he := zws_get (cy := cy) (ad := ad) ho
  rw [zE5] at he
  refine va_iast hC.2.1 hC.2.2.1 hW.1.2.2.1 hW.1.1 hW.1.2.1 hW.2.1 ob 0 he rfl (zI_vp gi h0 h1) d (fun H1 locs1 hP1 hD1 hS1 => ?_)
  have e9 : (Sum.inl (cy 5, N, Sum.inl (upd (fun j => Int32.ofInt (h.2.1 ob (j : Nat))) (Int32.ofInt i).toNatClampNeg (Int32.ofInt x))) : va_E) = zE cy ad (5, N) (zup h.2.1 ob i x ob) (h.2.2 ob) := by
    rw [zE5, zup_row, zupd gi h0]
  rw [e9] at hP1 hD1
  exact kk l p e s m args below meth c0 D cy A ad0 k0 J ad H1 locs1 ls hC hZ (zWl.putI hW ho (zst_hd hs).1 hP1 hD1 hS1) hl hL (zst_tl (zst_tl (zst_tl hs)))
theorem Ev.zast {ob N : Nat} {i x : Int} (d : decode (zcode y) pc = .ok (.bastore, 1)) (ho : h.1[ob]? = some (6, N)) (h0 : 0 ≤ i) (h1 : i < N) (hx : x = 0 ∨ x = 1) (kk : Ev y (pc + 1) L st (h.1, zup h.2.1 ob i x, h.2.2) n q) : Ev y pc L (zi x :: zi i :: zr (some ob) :: st) h n q := by
  intro l p e s m args below meth c0 D cy A ad0 k0 J ad H locs ls hC hZ hW hl hL hs
  have gi := (zst_hd (zst_tl hs)).1
  have he := zws_get (cy := cy) (ad := ad) ho
  rw [zE6] at he
  refine va_zast hC.2.1 hC.2.2.1 hW.1.2.2.1 hW.1.1 hW.1.2.1 hW.2.1 ob 1 he rfl (zI_vp gi h0 h1) d (fun H1 locs1 hP1 hD1 hS1 => ?_)
  have ex : vp_nar .boolean (Int32.ofInt x) = Int32.ofInt x := by
    rcases hx with rfl | rfl
    · decide
    · decide
  have e9 : (Sum.inl (cy 6, N, Sum.inl (upd (fun j => Int32.ofInt (h.2.1 ob (j : Nat))) (Int32.ofInt i).toNatClampNeg (vp_nar .boolean (Int32.ofInt x)))) : va_E) = zE cy ad (6, N) (zup h.2.1 ob i x ob) (h.2.2 ob) := by
    rw [zE6, zup_row, ex, zupd gi h0]
  rw [e9] at hP1 hD1
  exact kk l p e s m args below meth c0 D cy A ad0 k0 J ad H1 locs1 ls hC hZ (zWl.putI hW ho (zst_hd hs).1 hP1 hD1 hS1) hl hL (zst_tl (zst_tl (zst_tl hs)))
theorem Ev.last {ob N : Nat} {i x : Int} (d : decode (zcode y) pc = .ok (.lastore, 1)) (ho : h.1[ob]? = some (9, N)) (h0 : 0 ≤ i) (h1 : i < N) (hx : zin x) (kk : Ev y (pc + 1) L st (h.1, zup h.2.1 ob i x, h.2.2) n q) : Ev y pc L (zl x :: zi i :: zr (some ob) :: st) h n q := by
  intro l p e s m args below meth c0 D cy A ad0 k0 J ad H locs ls hC hZ hW hl hL hs
  have gi := (zst_hd (zst_tl hs)).1
  have he := zws_get (cy := cy) (ad := ad) ho
  rw [zE9] at he
  refine va_last hC.2.1 hC.2.2.1 hW.1.2.2.1 hW.1.1 hW.1.2.1 hW.2.1 ob 4 he rfl (zI_vp gi h0 h1) d (fun H1 locs1 hP1 hD1 hS1 => ?_)
  have e9 : (Sum.inl (cy 9, N, Sum.inr (Sum.inl (vp_updL (fun j => Int64.ofInt (h.2.1 ob (j : Nat))) (Int32.ofInt i).toNatClampNeg (Int64.ofInt x)))) : va_E) = zE cy ad (9, N) (zup h.2.1 ob i x ob) (h.2.2 ob) := by
    rw [zE9, zup_row, zupdL gi h0]
  rw [e9] at hP1 hD1
  exact kk l p e s m args below meth c0 D cy A ad0 k0 J ad H1 locs1 ls hC hZ (zWl.putI hW ho hx hP1 hD1 hS1) hl hL (zst_tl (zst_tl (zst_tl hs)))
/-- a node into a row of nodes, a tree into a row of trees -/
theorem Ev.aast {ob N kd xo ci z : Nat} {i : Int} (d : decode (zcode y) pc = .ok (.aastore, 1)) (ho : h.1[ob]? = some (kd, N)) (hkd : kd = 7 ∧ ci = 1 ∨ kd = 8 ∧ ci = 2) (hxo : h.1[xo]? = some (ci, z)) (h0 : 0 ≤ i) (h1 : i < N) (kk : Ev y (pc + 1) L st (h.1, h.2.1, zup h.2.2 ob i (some xo)) n q) : Ev y pc L (zr (some xo) :: zi i :: zr (some ob) :: st) h n q := by
  intro l p e s m args below meth c0 D cy A ad0 k0 J ad H locs ls hC hZ hW hl hL hs
  have gi := (zst_hd (zst_tl hs)).1
  have he := zws_get (cy := cy) (ad := ad) ho
  have hv := zws_get (cy := cy) (ad := ad) hxo
  rcases hkd with ⟨rfl, rfl⟩ | ⟨rfl, rfl⟩
  · rw [zE7] at he
    rw [zE_obj (by omega)] at hv
    refine va_astq hC.2.1 hC.2.2.1 hW.1.2.2.1 hW.1.1 hW.1.2.1 hW.2.1 ob 2 xo 1 (r := (RX3, TX3, 15)) he rfl hv rfl (zI_vp gi h0 h1) d (fun H1 locs1 hP1 hD1 hS1 => ?_)
    have e9 : (Sum.inl (cy 7, N, Sum.inr (Sum.inr (Sum.inr (Sum.inr (va_up (fun j => (h.2.2 ob (j : Nat)).map ad) (Int32.ofInt i).toNatClampNeg (some (ad xo))))))) : va_E) = zE cy ad (7, N) (h.2.1 ob) (zup h.2.2 ob i (some xo) ob) := by
      rw [zE7, zup_row, zupdR gi h0]
    rw [e9] at hP1 hD1
    exact kk l p e s m args below meth c0 D cy A ad0 k0 J ad H1 locs1 ls hC hZ (zWl.putR hW ho (zst_hd hs).2 hP1 hD1 hS1) hl hL (zst_tl (zst_tl (zst_tl hs)))
  · rw [zE8] at he
    rw [zE_obj (by omega)] at hv
    refine va_astq hC.2.1 hC.2.2.1 hW.1.2.2.1 hW.1.1 hW.1.2.1 hW.2.1 ob 3 xo 2 (r := (RX5, TX5, 5)) he rfl hv rfl (zI_vp gi h0 h1) d (fun H1 locs1 hP1 hD1 hS1 => ?_)
    have e9 : (Sum.inl (cy 8, N, Sum.inr (Sum.inr (Sum.inr (Sum.inr (va_up (fun j => (h.2.2 ob (j : Nat)).map ad) (Int32.ofInt i).toNatClampNeg (some (ad xo))))))) : va_E) = zE cy ad (8, N) (h.2.1 ob) (zup h.2.2 ob i (some xo) ob) := by
      rw [zE8, zup_row, zupdR gi h0]
    rw [e9] at hP1 hD1
    exact kk l p e s m args below meth c0 D cy A ad0 k0 J ad H1 locs1 ls hC hZ (zWl.putR hW ho (zst_hd hs).2 hP1 hD1 hS1) hl hL (zst_tl (zst_tl (zst_tl hs)))
theorem Ev.alen8 {ob N : Nat} {v : Int} (d : decode (zcode y) pc = .ok (.arraylength, 1)) (ho : h.1[ob]? = some (8, N)) (hv : Int32.ofNat N = Int32.ofInt v) (hv2 : zin v) (kk : Ev y (pc + 1) L (zi v :: st) h n q) : Ev y pc L (zr (some ob) :: st) h n q := by
  intro l p e s m args below meth c0 D cy A ad0 k0 J ad H locs ls hC hZ hW hl hL hs
  have he := zws_get (cy := cy) (ad := ad) ho
  rw [zE8] at he
  exact va_alen hC.2.1 hC.2.2.1 hW.1.2.2.1 hW.1.1 ob 3 he (ty := .object "SlackRows$Tree") rfl hv d (kk l p e s m args below meth c0 D cy A ad0 k0 J ad H locs ls hC hZ hW hl hL (zst_go (zst_tl hs) ⟨hv2, trivial⟩))
/-! references compared -/
def zcm (K : Nat) (a b : Option Nat) : Prop := (∀ x, a = some x → x < K) ∧ (∀ x, b = some x → x < K) ∨ (∃ i j, i < 8 ∧ j < 8 ∧ a = some (4096 + i) ∧ b = some (4096 + j)) ∨ ∃ i j, i < 4 ∧ j < 4 ∧ a = some (4104 + i) ∧ b = some (4104 + j)
theorem zcm_iff {D : va_G} {cy : Nat → ClassId} {A : Nat → Prop} {ad0 : Nat → Nat} {k0 : Nat} {J : Nat → Int → Int} {ad : Nat → Nat} {h : zH} {s : State} {H : Heap} {locs : List Loc} {a b : Option Nat} (hZ : zSt ad0 J A s s.heap) (hW : zWl D cy A ad0 k0 J ad h s H locs) (hc : zcm h.1.length a b) : a.map ad = b.map ad ↔ a = b := by
  constructor
  · intro he
    rcases hc with ⟨h1, h2⟩ | ⟨i, j, hi, hj, rfl, rfl⟩ | ⟨i, j, hi, hj, rfl, rfl⟩
    · cases a with
      | none => cases b with
        | none => rfl
        | some y => simp at he
      | some x => cases b with
        | none => simp at he
        | some y =>
          simp at he
          have hx := h1 x rfl
          have hy := h2 y rfl
          have e1 := zws_get (cy := cy) (ad := ad) (h := h) (List.getElem?_eq_getElem hx)
          have e2 := zws_get (cy := cy) (ad := ad) (h := h) (List.getElem?_eq_getElem hy)
          exact congrArg some (hW.1.2.1.1 x y _ _ e1 e2 he)
    · have he' : ad (4096 + i) = ad (4096 + j) := by simpa using he
      rw [hW.2.2.1 _ (Or.inr (by omega)), hW.2.2.1 _ (Or.inr (by omega))] at he'
      rw [hZ.2.2.2.2.2.1.2 i j hi hj he']
    · have he' : ad (4104 + i) = ad (4104 + j) := by simpa using he
      rw [hW.2.2.1 _ (Or.inr (by omega)), hW.2.2.1 _ (Or.inr (by omega))] at he'
      rw [hZ.2.2.2.2.2.2.1.2 i j hi hj he']
  · intro he
    rw [he]
theorem Ev.acmp_eq {a b : Option Nat} {off : Int} {tgt : Nat} (d : decode (zcode y) pc = .ok (.if_acmp .eq off, 3)) (ht : (pc : Int) + off = (tgt : Int)) (hc : zcm h.1.length a b) (kt : a = b → Ev y tgt L st h n q) (kf : ¬ a = b → Ev y (pc + 3) L st h n q) : Ev y pc L (zr b :: zr a :: st) h n q := by
  intro l p e s m args below meth c0 D cy A ad0 k0 J ad H locs ls hC hZ hW hl hL hs
  exact lv_acmp_eq hC.2.1 hC.2.2.1 d ht (fun g => kt ((zcm_iff hZ hW hc).mp g) l p e s m args below meth c0 D cy A ad0 k0 J ad H locs ls hC hZ hW hl hL (zst_tl (zst_tl hs))) (fun g => kf (fun w => g ((zcm_iff hZ hW hc).mpr w)) l p e s m args below meth c0 D cy A ad0 k0 J ad H locs ls hC hZ hW hl hL (zst_tl (zst_tl hs)))
theorem Ev.acmp_ne {a b : Option Nat} {off : Int} {tgt : Nat} (d : decode (zcode y) pc = .ok (.if_acmp .ne off, 3)) (ht : (pc : Int) + off = (tgt : Int)) (hc : zcm h.1.length a b) (kt : ¬ a = b → Ev y tgt L st h n q) (kf : a = b → Ev y (pc + 3) L st h n q) : Ev y pc L (zr b :: zr a :: st) h n q := by
  intro l p e s m args below meth c0 D cy A ad0 k0 J ad H locs ls hC hZ hW hl hL hs
  exact lv_acmp_ne hC.2.1 hC.2.2.1 d ht (fun g => kt (fun w => g ((zcm_iff hZ hW hc).mpr w)) l p e s m args below meth c0 D cy A ad0 k0 J ad H locs ls hC hZ hW hl hL (zst_tl (zst_tl hs))) (fun g => kf ((zcm_iff hZ hW hc).mp g) l p e s m args below meth c0 D cy A ad0 k0 J ad H locs ls hC hZ hW hl hL (zst_tl (zst_tl hs)))
/-! ends -/
theorem zWl.end {D : va_G} {cy : Nat → ClassId} {A : Nat → Prop} {ad0 : Nat → Nat} {k0 : Nat} {J : Nat → Int → Int} {ad : Nat → Nat} {h : zH} {s t : State} {H : Heap} {locs : List Loc} (hW : zWl D cy A ad0 k0 J ad h s H locs) (ht : t.heap = H) (hw : s.vm.Alike t.vm) : zEnd D cy A ad0 k0 J h ad s t :=
  ⟨hW.2.2.1, ⟨by rw [ht]; exact hW.1.1, hW.1.2.1, va_K.moved hw hW.1.2.2.1, hW.1.2.2.2⟩, hW.2.2.2.1, hW.2.2.2.2.1, hW.2.2.2.2.2, hW.2.1.F ht⟩
theorem Ev.iret {x : Int} (d : decode (zcode y) pc = .ok (.ireturn, 1)) (hr : zret y = some .int) (hn : n.1 ≤ (zroom y).cells ∧ n.2 ≤ (zroom y).slots) : Ev y pc L [zi x] h n (.inl (some (zi x)), h) := by
  intro l p e s m args below meth c0 D cy A ad0 k0 J ad H locs ls hC hZ hW hl hL hs
  refine W.widen hn.1 hn.2 (vx_ret (W.iret hC.2.1 hC.2.2.1 (hC.2.2.2.2.1.trans hr) (fun t ht hWm => ⟨some (zi x), ad, rfl, rfl, fun w hw => ?_, hW.end ht hWm.alike⟩) (fun q hq => hW.2.1.2.2 q hq) d hC.2.2.2.2.2.2.2.1))
  cases hw
  exact zst_hd hs
theorem Ev.bret {x : Int} (d : decode (zcode y) pc = .ok (.ireturn, 1)) (hr : zret y = some .boolean) (hx : x = 0 ∨ x = 1) (hn : n.1 ≤ (zroom y).cells ∧ n.2 ≤ (zroom y).slots) : Ev y pc L [zi x] h n (.inl (some (zi x)), h) := by
  intro l p e s m args below meth c0 D cy A ad0 k0 J ad H locs ls hC hZ hW hl hL hs
  refine W.widen hn.1 hn.2 (vx_ret (W.zret hC.2.1 hC.2.2.1 (hC.2.2.2.2.1.trans hr) (znar_i (Or.inr rfl) (fun _ => hx)).1 (fun t ht hWm => ⟨some (zi x), ad, rfl, rfl, fun w hw => ?_, hW.end ht hWm.alike⟩) (fun q hq => hW.2.1.2.2 q hq) d hC.2.2.2.2.2.2.2.1))
  cases hw
  exact zst_hd hs
theorem Ev.lret {x : Int} (d : decode (zcode y) pc = .ok (.lreturn, 1)) (hr : zret y = some .long) (hn : n.1 ≤ (zroom y).cells ∧ n.2 ≤ (zroom y).slots) : Ev y pc L [zl x] h n (.inl (some (zl x)), h) := by
  intro l p e s m args below meth c0 D cy A ad0 k0 J ad H locs ls hC hZ hW hl hL hs
  refine W.widen hn.1 hn.2 (vx_ret (W.lret hC.2.1 hC.2.2.1 (hC.2.2.2.2.1.trans hr) (fun t ht hWm => ⟨some (zl x), ad, rfl, rfl, fun w hw => ?_, hW.end ht hWm.alike⟩) (fun q hq => hW.2.1.2.2 q hq) d hC.2.2.2.2.2.2.2.1))
  cases hw
  exact zst_hd hs
theorem Ev.aret {r : Option Nat} {rt : FieldType} (d : decode (zcode y) pc = .ok (.areturn, 1)) (hr : zret y = some rt) (hrt : zrt rt = true) (hn : n.1 ≤ (zroom y).cells ∧ n.2 ≤ (zroom y).slots) : Ev y pc L [zr r] h n (.inl (some (zr r)), h) := by
  intro l p e s m args below meth c0 D cy A ad0 k0 J ad H locs ls hC hZ hW hl hL hs
  have e1 : (∃ n, rt = .object n) ∨ ∃ t, rt = .array t := by
    cases rt <;> simp [zrt] at hrt
    · exact Or.inl ⟨_, rfl⟩
    · exact Or.inr ⟨_, rfl⟩
  have e2 : va_rf (r.map ad) = .null ∨ ∃ a, va_rf (r.map ad) = .ref a := by
    cases r with
    | none => exact Or.inl rfl
    | some x => exact Or.inr ⟨_, rfl⟩
  refine W.widen hn.1 hn.2 (vx_ret (W.aret hC.2.1 hC.2.2.1 (hC.2.2.2.2.1.trans hr) e1 e2 (fun t ht hWm => ⟨some (zr r), ad, rfl, rfl, fun w hw => ?_, hW.end ht hWm.alike⟩) (fun q hq => hW.2.1.2.2 q hq) d hC.2.2.2.2.2.2.2.1))
  cases hw
  exact zst_hd hs
theorem Ev.vret (d : decode (zcode y) pc = .ok (.return_, 1)) (hr : zret y = none) (hn : n.1 ≤ (zroom y).cells ∧ n.2 ≤ (zroom y).slots) : Ev y pc L [] h n (.inl none, h) := by
  intro l p e s m args below meth c0 D cy A ad0 k0 J ad H locs ls hC hZ hW hl hL hs
  exact W.widen hn.1 hn.2 (vx_ret (W.vret hC.2.1 hC.2.2.1 (hC.2.2.2.2.1.trans hr) (fun t ht hWm => ⟨none, ad, rfl, rfl, fun w hw => (by cases hw), hW.end ht hWm.alike⟩) (fun q hq => hW.2.1.2.2 q hq) d hC.2.2.2.2.2.2.2.1))
end ZR2
