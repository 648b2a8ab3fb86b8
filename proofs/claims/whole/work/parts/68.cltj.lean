/-! ===== what is made anew ===== -/
theorem kt_len {m : Nat} (hm : m ≤ 272) : (KK.take m).length = m := by rw [List.length_take, KK_len]; omega
theorem kt_lt {m : Nat} {kd : Nat × Nat} (hm : KK[m]? = some kd) : m < 272 := by
  obtain ⟨hl, -⟩ := List.getElem?_eq_some_iff.mp hm
  rw [KK_len] at hl
  exact hl
theorem kt_push {m : Nat} {kd : Nat × Nat} (hm : KK[m]? = some kd) : KK.take m ++ [kd] = KK.take (m + 1) := by
  rw [List.take_add_one, hm]
  rfl
theorem kt_at {m o : Nat} {kd : Nat × Nat} (ho : o < m) (hm : KK[o]? = some kd) : (KK.take m)[o]? = some kd := by
  rw [List.getElem?_take_of_lt ho]
  exact hm
theorem zE_ad {cy : Nat → ClassId} {ad ad' : Nat → Nat} {kd : Nat × Nat} {I : Int → Int} {R : Int → Option Nat} (e : ∀ k x, R k = some x → ad' x = ad x) : zE cy ad' kd I R = zE cy ad kd I R := by
  have em : ∀ k, (R k).map ad' = (R k).map ad := fun k => by
    cases hr : R k with
    | none => rfl
    | some x => exact congrArg some (e k x hr)
  have ef : zfl ad' kd.1 I R = zfl ad kd.1 I R := by
    unfold zfl
    refine List.map_congr_left fun k _ => ?_
    rw [em]
  have ea : (fun j : Nat => (R (j : Nat)).map ad') = fun j : Nat => (R (j : Nat)).map ad := funext fun j => em _
  unfold zE
  rw [ef, ea]
theorem zws_new {cy : Nat → ClassId} {ad : Nat → Nat} {K : List (Nat × Nat)} {I : Nat → Int → Int} {R : Nat → Int → Option Nat} {kd : Nat × Nat} {q : Nat} (hv : zhvd (K, I, R)) (hl : K.length < 4096) : zws cy (fun i => if i = K.length then q else ad i) (K ++ [kd], I, R) = zws cy ad (K, I, R) ++ [(q, zE cy ad kd (I K.length) (R K.length))] := by
  have ea : ∀ (o : Nat) (k : Int) (x : Nat), R o k = some x → (if x = K.length then q else ad x) = ad x := fun o k x hx => by
    have t : x < K.length ∨ 4096 ≤ x := hv o k x hx
    rw [if_neg (by omega)]
  refine List.ext_getElem? fun i => ?_
  by_cases h1 : i < K.length
  · have k1 : (K ++ [kd])[i]? = some K[i] := by rw [List.getElem?_append_left h1]; exact List.getElem?_eq_getElem h1
    rw [List.getElem?_append_left (by rw [zws_len]; exact h1), zws_get (h := (K ++ [kd], I, R)) k1, zws_get (h := (K, I, R)) (List.getElem?_eq_getElem h1)]
    show some ((if i = K.length then q else ad i), zE cy _ K[i] (I i) (R i)) = _
    rw [if_neg (by omega), zE_ad (ad := ad) (fun k x hx => ea i k x hx)]
  · by_cases h2 : i = K.length
    · subst h2
      have k1 : (K ++ [kd])[K.length]? = some kd := by rw [List.getElem?_append_right (Nat.le_refl _), Nat.sub_self]; rfl
      rw [List.getElem?_append_right (by rw [zws_len]; exact Nat.le_refl _), zws_len, zws_get (h := (K ++ [kd], I, R)) k1, Nat.sub_self]
      show some ((if K.length = K.length then q else ad K.length), zE cy _ kd (I K.length) (R K.length)) = _
      rw [if_pos rfl, zE_ad (ad := ad) (fun k x hx => ea K.length k x hx)]
      rfl
    · rw [List.getElem?_eq_none (by rw [zws_len]; show (K ++ [kd]).length ≤ i; rw [List.length_append, List.length_singleton]; omega), List.getElem?_eq_none (by rw [List.length_append, zws_len, List.length_singleton]; show K.length + 1 ≤ i; omega)]
section ZNW
variable {D : va_G} {cy : Nat → ClassId} {A : Nat → Prop} {ad0 : Nat → Nat} {k0 : Nat} {J : Nat → Int → Int} {ad : Nat → Nat} {h : zH} {s : State} {H H1 : Heap} {locs locs1 : List Loc} {kd : Nat × Nat} {q : Nat}
theorem zWl.grow (hW : zWl D cy A ad0 k0 J ad h s H locs) (hlen : h.1.length < 4096) (hP1 : va_P D vwCl (zws cy ad h ++ [(q, zE cy ad kd (h.2.1 h.1.length) (h.2.2 h.1.length))]) H1) (hD1 : va_D A (zws cy ad h ++ [(q, zE cy ad kd (h.2.1 h.1.length) (h.2.2 h.1.length))])) (hS1 : va_S A s.heap H1 locs1) : zWl D cy A ad0 k0 J (fun i => if i = h.1.length then q else ad i) (h.1 ++ [kd], h.2.1, h.2.2) s H1 locs1 := by
  obtain ⟨⟨-, -, hK, hl, hin⟩, -, had, hk0, hJ, hv⟩ := hW
  have e := zws_new (kd := kd) (q := q) (cy := cy) (ad := ad) (K := h.1) (I := h.2.1) (R := h.2.2) hv hlen
  have el : (h.1 ++ [kd]).length = h.1.length + 1 := by rw [List.length_append, List.length_singleton]
  refine ⟨⟨by rw [e]; exact hP1, by rw [e]; exact hD1, hK, ?_, hin⟩, hS1, fun i hi => ?_, ?_, hJ, fun o k x hx => ?_⟩
  · show (h.1 ++ [kd]).length ≤ 4096
    rw [el]
    omega
  · show (if i = h.1.length then q else ad i) = ad0 i
    rw [if_neg (by omega)]
    exact had i hi
  · show k0 ≤ (h.1 ++ [kd]).length
    rw [el]
    omega
  · show x < (h.1 ++ [kd]).length ∨ 4096 ≤ x
    rw [el]
    have := hv o k x hx
    omega
end ZNW
section ZNX
variable {y : zM} {pc : Nat} {L : List (Nat × zV)} {st : List zV} {h : zH} {n : Nat × Nat} {q : zO}
theorem zdef {ad : Nat → Nat} {c : Nat} (hc : c < 5) {I : Int → Int} {R : Int → Option Nat} (hI : ∀ k, I k = 0) (hR : ∀ k, R k = none) : ∀ j, j < zNf c → defaultValue (zty c j) = vp_V (zfl ad c I R) j := by
  intro j hj
  unfold vp_V
  rw [List.getD_eq_getElem?_getD, zfl_get hj]
  show defaultValue (zty c j) = (if zRf c j = true then va_rf ((R (j : Nat)).map ad) else .int (Int32.ofInt (I (j : Nat))))
  by_cases hr : zRf c j = true
  · rw [if_pos hr, hR]
    have g := zty_r hc j hj
    rw [hr] at g
    cases ht : zty c j <;> rw [ht] at g <;> first | rfl | cases g
  · rw [if_neg hr, hI]
    rcases zty_i hc j hj (by simpa using hr) with g | g <;> rw [g] <;> rfl
theorem zNewT {y : zM} {L : List (Nat × zV)} {st : List zV} {q : zO} {l : Launch} {p : Program} {e : Env} {s : State} {m0 : MethodId} {args : Array Value} {below : List Frame} {meth : Method} {c0 : Code} {D : va_G} {cy : Nat → ClassId} {A : Nat → Prop} {ad0 : Nat → Nat} {k0 : Nat} {J : Nat → Int → Int} {ad : Nat → Nat} {H H1 : Heap} {locs : List Loc} {ls : Array Slot} {m : Nat} {kd : Nat × Nat} {I : Nat → Int → Int} {R : Nat → Int → Option Nat} {q1 pc2 : Nat} {n2 : Nat × Nat} (hC : zCx l p y s m0 args meth c0 A) (hZ : zSt ad0 J A s s.heap) (hW : zWl D cy A ad0 k0 J ad (KK.take m, I, R) s H locs) (hl : lv_has ls (zmax y) (zLs ad L)) (hL : ∀ q ∈ L, zgo (KK.take m).length q.2) (hs : ∀ v ∈ st, zgo (KK.take m).length v) (hm : KK[m]? = some kd) (hP1 : va_P D vwCl (zws cy ad (KK.take m, I, R) ++ [(q1, zE cy ad kd (I m) (R m))]) H1) (hD1 : va_D A (zws cy ad (KK.take m, I, R) ++ [(q1, zE cy ad kd (I m) (R m))])) (hS1 : va_S A s.heap H1 locs) (kk : Ev y pc2 L (zr (some m) :: st) (KK.take (m + 1), I, R) n2 q) : W p l e (zroom y) s m0 args below meth c0 H1 locs n2.1 n2.2 (zQ below args s y D cy A ad0 k0 J q) (F0 m0 pc2 ls (.ref q1 :: st.map (zc ad))) := by
  have hlt := kt_lt hm
  have hlen : (KK.take m).length = m := kt_len (by omega)
  have e1 : zE cy ad kd (I m) (R m) = zE cy ad kd (I (KK.take m).length) (R (KK.take m).length) := by rw [hlen]
  rw [e1] at hP1 hD1
  have hW2 := hW.grow (kd := kd) (q := q1) (by show (KK.take m).length < 4096; omega) hP1 hD1 hS1
  have had : ∀ i, i < (KK.take m).length ∨ 4096 ≤ i → (fun i => if i = (KK.take m).length then q1 else ad i) i = ad i := fun i hi => if_neg (by omega)
  have hle : (KK.take m).length ≤ (KK.take m ++ [kd]).length := by rw [List.length_append]; omega
  rw [← kt_push hm] at kk
  have k9 := kk l p e s m0 args below meth c0 D cy A ad0 k0 J _ H1 locs ls hC hZ hW2 (by rw [zLs_eq hL had]; exact hl) (fun w hw => zgo_mono (hL w hw) hle) (zst_go (fun w hw => zgo_mono (hs w hw) hle) ⟨trivial, fun x hx => by
    cases hx
    left
    show m < (KK.take m ++ [kd]).length
    rw [List.length_append, List.length_singleton, hlen]
    omega⟩)
  have e9 : (zr (some m) :: st).map (zc fun i => if i = (KK.take m).length then q1 else ad i) = .ref q1 :: st.map (zc ad) := by
    rw [List.map_cons, zst_eq hs had]
    refine congrArg (fun z => z :: st.map (zc ad)) ?_
    show va_rf (some (if m = (KK.take m).length then q1 else ad m)) = _
    rw [if_pos hlen.symm]
    rfl
  rw [e9] at k9
  exact k9
theorem Ev.newK {m c : Nat} {I : Nat → Int → Int} {R : Nat → Int → Option Nat} {idx : Nat} (d : decode (zcode y) pc = .ok (.new idx, 3)) (hc : c < 5) (hcl : Cond.classLink (zname y).cls idx (zCn c) ∈ zgw) (hin : Cond.instantiable (zCn c) (zNf c) ∈ zgw) (hi : Cond.initialized (zCn c) ∈ zgw) (hm : KK[m]? = some (c, 0)) (hI : ∀ k, I m k = 0) (hR : ∀ k, R m k = none) (hn : n.1 + 1 ≤ (zroom y).cells ∧ n.2 + zNf c ≤ (zroom y).slots) (kk : Ev y (pc + 3) L (zr (some m) :: st) (KK.take (m + 1), I, R) (n.1 + 1, n.2 + zNf c) q) : Ev y pc L st (KK.take m, I, R) n q := by
  intro l p e s m0 args below meth c0 D cy A ad0 k0 J ad H locs ls hC hZ hW hl hL hs
  have hts := hC.2.2.2.2.2.2.1
  refine va_new (ci := c) (fs := zfl ad c (I m) (R m)) hC.2.1 hC.2.2.1 hts (zin_ws hc) (zty c) (zty_ok hc) hC.2.2.2.2.2.1 (hts _ hcl) (hts _ hin) (hts _ hi) hW.1.2.2.1 hW.1.1 hW.1.2.1 hW.2.1 hC.2.2.2.2.2.2.2.2.2.2 (zcl hc) (zdef hc hI hR) hn.1 hn.2 d (fun q1 H1 hP1 hD1 hS1 => ?_)
  have e1 : (Sum.inr (c, zfl ad c (I m) (R m)) : va_E) = zE cy ad (c, 0) (I m) (R m) := by rw [zE_obj hc]
  rw [e1] at hP1 hD1
  exact zNewT hC hZ hW hl hL hs hm hP1 hD1 hS1 kk
theorem zcy {D : va_G} {cy : Nat → ClassId} {s : State} {cA : ClassId} {ty : FieldType} (hK : va_K D vwCl (zTy cy ++ [(cA, ty)]) s) {k : Nat} {cB : ClassId} (hk : (zTy cy)[k]? = some (cB, ty)) : cA = cB := by
  have hk1 : (zTy cy ++ [(cA, ty)])[k]? = some (cB, ty) := by
    rw [List.getElem?_append_left (List.getElem?_eq_some_iff.mp hk).1]
    exact hk
  have a := (hK.2 k _ hk1).2
  have b := (hK.2 5 (cA, ty) rfl).2
  have fa : ∀ {c : ClassId}, va_RA s c ty → s.vm.findClass ("[" ++ ty.toString) = some c := fun {c} g => by
    cases ty
    all_goals first
      | exact g
      | (obtain ⟨_, _, _, _, _, g4⟩ := g; exact g4)
  exact Option.some.inj ((fa b).symm.trans (fa a))
theorem Ev.newI {m N : Nat} {v : Int} {I : Nat → Int → Int} {R : Nat → Int → Option Nat} (d : decode (zcode y) pc = .ok (.newarray .int, 2)) (hw : Cond.arrayClass .int ∈ zgw) (hm : KK[m]? = some (5, N)) (hI : ∀ k, I m k = 0) (hv : v = (N : Int)) (hN : N ≤ 1000000) (hn : n.1 + 1 ≤ (zroom y).cells ∧ n.2 + N ≤ (zroom y).slots) (kk : Ev y (pc + 2) L (zr (some m) :: st) (KK.take (m + 1), I, R) (n.1 + 1, n.2 + N) q) : Ev y pc L (zi v :: st) (KK.take m, I, R) n q := by
  intro l p e s m0 args below meth c0 D cy A ad0 k0 J ad H locs ls hC hZ hW hl hL hs
  have hts := hC.2.2.2.2.2.2.1
  have gv := (zst_hd hs).1
  have ez : ¬ Int32.ofInt v < 0 := by rw [zI_0, zI_lt gv zin0]; omega
  have en : (Int32.ofInt v).toNatClampNeg = N := by rw [zI_nat gv (by omega)]; omega
  refine va_newa (a0 := (N, .inl fun j => Int32.ofInt (I m (j : Nat)))) (ty := .int) (atype := .int) hC.2.1 hC.2.2.1 (hts _ hw) rfl hW.1.2.2.1 hW.1.1 hW.1.2.1 hW.2.1 hC.2.2.2.2.2.2.2.2.2.2 (fun cA => ?_) ez en (by show N * 4 ≤ 536870912; omega) hn.1 hn.2 d (fun q1 cA H1 hK1 hP1 hD1 hS1 => ?_)
  · show arrV cA N (fun j => .int (Int32.ofInt (I m (j : Nat)))) = arrV cA N (fun _ => .int 0)
    congr 1
    funext j
    rw [hI]
    rfl
  have ec : cA = cy 5 := zcy hK1 (k := 0) rfl
  subst ec
  exact zNewT hC hZ hW hl hL (zst_tl hs) hm hP1 hD1 hS1 kk
theorem Ev.newZ {m N : Nat} {v : Int} {I : Nat → Int → Int} {R : Nat → Int → Option Nat} (d : decode (zcode y) pc = .ok (.newarray .boolean, 2)) (hw : Cond.arrayClass .boolean ∈ zgw) (hm : KK[m]? = some (6, N)) (hI : ∀ k, I m k = 0) (hv : v = (N : Int)) (hN : N ≤ 1000000) (hn : n.1 + 1 ≤ (zroom y).cells ∧ n.2 + N ≤ (zroom y).slots) (kk : Ev y (pc + 2) L (zr (some m) :: st) (KK.take (m + 1), I, R) (n.1 + 1, n.2 + N) q) : Ev y pc L (zi v :: st) (KK.take m, I, R) n q := by
  intro l p e s m0 args below meth c0 D cy A ad0 k0 J ad H locs ls hC hZ hW hl hL hs
  have hts := hC.2.2.2.2.2.2.1
  have gv := (zst_hd hs).1
  have ez : ¬ Int32.ofInt v < 0 := by rw [zI_0, zI_lt gv zin0]; omega
  have en : (Int32.ofInt v).toNatClampNeg = N := by rw [zI_nat gv (by omega)]; omega
  refine va_newa (a0 := (N, .inl fun j => Int32.ofInt (I m (j : Nat)))) (ty := .boolean) (atype := .boolean) hC.2.1 hC.2.2.1 (hts _ hw) rfl hW.1.2.2.1 hW.1.1 hW.1.2.1 hW.2.1 hC.2.2.2.2.2.2.2.2.2.2 (fun cA => ?_) ez en (by show N * 1 ≤ 536870912; omega) hn.1 hn.2 d (fun q1 cA H1 hK1 hP1 hD1 hS1 => ?_)
  · show arrV cA N (fun j => .int (Int32.ofInt (I m (j : Nat)))) = arrV cA N (fun _ => .int 0)
    congr 1
    funext j
    rw [hI]
    rfl
  have ec : cA = cy 6 := zcy hK1 (k := 1) rfl
  subst ec
  exact zNewT hC hZ hW hl hL (zst_tl hs) hm hP1 hD1 hS1 kk
theorem Ev.newL {m N : Nat} {v : Int} {I : Nat → Int → Int} {R : Nat → Int → Option Nat} (d : decode (zcode y) pc = .ok (.newarray .long, 2)) (hw : Cond.arrayClass .long ∈ zgw) (hm : KK[m]? = some (9, N)) (hI : ∀ k, I m k = 0) (hv : v = (N : Int)) (hN : N ≤ 1000000) (hn : n.1 + 1 ≤ (zroom y).cells ∧ n.2 + N ≤ (zroom y).slots) (kk : Ev y (pc + 2) L (zr (some m) :: st) (KK.take (m + 1), I, R) (n.1 + 1, n.2 + N) q) : Ev y pc L (zi v :: st) (KK.take m, I, R) n q := by
  intro l p e s m0 args below meth c0 D cy A ad0 k0 J ad H locs ls hC hZ hW hl hL hs
  have hts := hC.2.2.2.2.2.2.1
  have gv := (zst_hd hs).1
  have ez : ¬ Int32.ofInt v < 0 := by rw [zI_0, zI_lt gv zin0]; omega
  have en : (Int32.ofInt v).toNatClampNeg = N := by rw [zI_nat gv (by omega)]; omega
  refine va_newa (a0 := (N, .inr (.inl fun j => Int64.ofInt (I m (j : Nat))))) (ty := .long) (atype := .long) hC.2.1 hC.2.2.1 (hts _ hw) rfl hW.1.2.2.1 hW.1.1 hW.1.2.1 hW.2.1 hC.2.2.2.2.2.2.2.2.2.2 (fun cA => ?_) ez en (by show N * 8 ≤ 536870912; omega) hn.1 hn.2 d (fun q1 cA H1 hK1 hP1 hD1 hS1 => ?_)
  · show arrV cA N (fun j => .long (Int64.ofInt (I m (j : Nat)))) = arrV cA N (fun _ => .long 0)
    congr 1
    funext j
    rw [hI]
    rfl
  have ec : cA = cy 9 := zcy hK1 (k := 4) rfl
  subst ec
  exact zNewT hC hZ hW hl hL (zst_tl hs) hm hP1 hD1 hS1 kk
theorem Ev.newN {m N idx : Nat} {v : Int} {I : Nat → Int → Int} {R : Nat → Int → Option Nat} (d : decode (zcode y) pc = .ok (.anewarray idx, 3)) (hcl : Cond.classLink (zname y).cls idx "SlackRows$Node" ∈ zgw) (hm : KK[m]? = some (7, N)) (hR : ∀ k, R m k = none) (hv : v = (N : Int)) (hN : N ≤ 1000000) (hn : n.1 + 1 ≤ (zroom y).cells ∧ n.2 + N ≤ (zroom y).slots) (kk : Ev y (pc + 3) L (zr (some m) :: st) (KK.take (m + 1), I, R) (n.1 + 1, n.2 + N) q) : Ev y pc L (zi v :: st) (KK.take m, I, R) n q := by
  intro l p e s m0 args below meth c0 D cy A ad0 k0 J ad H locs ls hC hZ hW hl hL hs
  have hts := hC.2.2.2.2.2.2.1
  have gv := (zst_hd hs).1
  have ez : ¬ Int32.ofInt v < 0 := by rw [zI_0, zI_lt gv zin0]; omega
  have en : (Int32.ofInt v).toNatClampNeg = N := by rw [zI_nat gv (by omega)]; omega
  refine va_newq hC.2.1 hC.2.2.1 hC.2.2.2.2.2.1 (hts _ hcl) hZ.2.2.2.2.1.2 hW.1.2.2.1 hW.1.1 hW.1.2.1 hW.2.1 hC.2.2.2.2.2.2.2.2.2.2 ez en (by omega) hn.1 hn.2 d (fun q1 cA H1 hK1 hP1 hD1 hS1 => ?_)
  have ec : cA = cy 7 := zcy hK1 (k := 2) rfl
  subst ec
  have e1 : (Sum.inl (cy 7, N, Sum.inr (Sum.inr (Sum.inr (Sum.inr (fun _ => none))))) : va_E) = zE cy ad (7, N) (I m) (R m) := by
    rw [zE7]
    have : (fun j : Nat => (R m (j : Nat)).map ad) = fun _ => none := funext fun j => by rw [hR]; rfl
    rw [this]
  rw [e1] at hP1 hD1
  exact zNewT hC hZ hW hl hL (zst_tl hs) hm hP1 hD1 hS1 kk
theorem Ev.newR {m N idx : Nat} {v : Int} {I : Nat → Int → Int} {R : Nat → Int → Option Nat} (d : decode (zcode y) pc = .ok (.anewarray idx, 3)) (hcl : Cond.classLink (zname y).cls idx "SlackRows$Tree" ∈ zgw) (hm : KK[m]? = some (8, N)) (hR : ∀ k, R m k = none) (hv : v = (N : Int)) (hN : N ≤ 1000000) (hn : n.1 + 1 ≤ (zroom y).cells ∧ n.2 + N ≤ (zroom y).slots) (kk : Ev y (pc + 3) L (zr (some m) :: st) (KK.take (m + 1), I, R) (n.1 + 1, n.2 + N) q) : Ev y pc L (zi v :: st) (KK.take m, I, R) n q := by
  intro l p e s m0 args below meth c0 D cy A ad0 k0 J ad H locs ls hC hZ hW hl hL hs
  have hts := hC.2.2.2.2.2.2.1
  have gv := (zst_hd hs).1
  have ez : ¬ Int32.ofInt v < 0 := by rw [zI_0, zI_lt gv zin0]; omega
  have en : (Int32.ofInt v).toNatClampNeg = N := by rw [zI_nat gv (by omega)]; omega
  refine va_newq hC.2.1 hC.2.2.1 hC.2.2.2.2.2.1 (hts _ hcl) hZ.2.2.2.2.1.1 hW.1.2.2.1 hW.1.1 hW.1.2.1 hW.2.1 hC.2.2.2.2.2.2.2.2.2.2 ez en (by omega) hn.1 hn.2 d (fun q1 cA H1 hK1 hP1 hD1 hS1 => ?_)
  have ec : cA = cy 8 := zcy hK1 (k := 3) rfl
  subst ec
  have e1 : (Sum.inl (cy 8, N, Sum.inr (Sum.inr (Sum.inr (Sum.inr (fun _ => none))))) : va_E) = zE cy ad (8, N) (I m) (R m) := by
    rw [zE8]
    have : (fun j : Nat => (R m (j : Nat)).map ad) = fun _ => none := funext fun j => by rw [hR]; rfl
    rw [this]
  rw [e1] at hP1 hD1
  exact zNewT hC hZ hW hl hL (zst_tl hs) hm hP1 hD1 hS1 kk
end ZNX
