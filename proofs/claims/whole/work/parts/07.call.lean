/-! ===== calls ===== -/
def zA (ad : Nat → Nat) (h : zH) (sz : Nat) : Nat → Prop := fun q => (∃ i, i < h.1.length ∧ q = ad i) ∨ sz ≤ q
def zargs (i : Nat) (as : List zV) : List (Nat × zV) := match as with
  | [] => []
  | v :: vs => (i, v) :: zargs (if zcat v = 2 then i + 2 else i + 1) vs
theorem zargs_ls (ad : Nat → Nat) (as : List zV) : ∀ i, lv_args i (as.map (zc ad)) = zLs ad (zargs i as) := by
  induction as with
  | nil => intro i; rfl
  | cons v vs ih =>
    intro i
    show (i, zc ad v) :: lv_args (if (zc ad v).category = 2 then i + 2 else i + 1) (vs.map (zc ad)) = (i, zc ad v) :: zLs ad (zargs (if zcat v = 2 then i + 2 else i + 1) vs)
    rw [zc_cat, ih]
theorem zargs_mem {as : List zV} : ∀ {i : Nat} {q : Nat × zV}, q ∈ zargs i as → q.2 ∈ as := by
  induction as with
  | nil => intro i q h; cases h
  | cons v vs ih =>
    intro i q h
    rcases List.mem_cons.mp h with e | e
    · rw [e]; exact List.mem_cons_self
    · exact List.mem_cons_of_mem _ (ih e)
theorem zsl_len (ad : Nat → Nat) (as : List zV) : (lg_sl (as.map (zc ad))).length = (as.map zcat).sum := by
  induction as with
  | nil => rfl
  | cons v vs ih =>
    have e : (lg_sl ((v :: vs).map (zc ad))).length = (if (zc ad v).category = 2 then [Slot.val (zc ad v), .second] else [.val (zc ad v)]).length + (lg_sl (vs.map (zc ad))).length := by
      simp [lg_sl, List.flatMap_cons]
    rw [e, ih, zc_cat, List.map_cons, List.sum_cons]
    rcases v with x | x | r <;> rfl
theorem zcat_sum (ad : Nat → Nat) (st : List zV) : ((st.map (zc ad)).map fun v => v.category).sum = (st.map zcat).sum := by
  rw [List.map_map]
  congr 1
  exact List.map_congr_left fun v _ => zc_cat ad v
theorem zgo_mono {K K' : Nat} {v : zV} (h : zgo K v) (hk : K ≤ K') : zgo K' v := by
  refine ⟨h.1, ?_⟩
  rcases v with x | x | r
  · trivial
  · trivial
  · intro x hx
    rcases h.2 x hx with g | g
    · exact Or.inl (Nat.lt_of_lt_of_le g hk)
    · exact Or.inr g
theorem zc_eq {ad ad' : Nat → Nat} {K : Nat} {v : zV} (hv : zvd K v) (he : ∀ i, i < K ∨ 4096 ≤ i → ad' i = ad i) : zc ad' v = zc ad v := by
  rcases v with x | x | r
  · rfl
  · rfl
  · cases r with
    | none => rfl
    | some x =>
      show va_rf (some (ad' x)) = va_rf (some (ad x))
      rw [he x (hv x rfl)]
theorem zLs_eq {ad ad' : Nat → Nat} {K : Nat} {L : List (Nat × zV)} (hL : ∀ q ∈ L, zgo K q.2) (he : ∀ i, i < K ∨ 4096 ≤ i → ad' i = ad i) : zLs ad' L = zLs ad L :=
  List.map_congr_left fun q hq => by rw [zc_eq (hL q hq).2 he]
theorem zst_eq {ad ad' : Nat → Nat} {K : Nat} {st : List zV} (hs : ∀ v ∈ st, zgo K v) (he : ∀ i, i < K ∨ 4096 ≤ i → ad' i = ad i) : st.map (zc ad') = st.map (zc ad) :=
  List.map_congr_left fun v hv => zc_eq (hs v hv).2 he
def zPc (D : va_G) (cy : Nat → ClassId) (ad : Nat → Nat) (h : zH) (as : List zV) (sz : Nat) : Array Value → State → Prop :=
  va_Pc (as.map (zc ad)) (fun U => U.heap.size = sz ∧ zWh D cy ad (zA ad h sz) h U U.heap ∧ zSt ad h.2.1 (zA ad h sz) U U.heap ∧ zhvd h)
/-- what the tables say of a method -/
def zOk (z : zM) : Prop := zhh z = [] ∧ plainName (zname z).cls = true ∧ Cond.code (zname z) (zcode z) (zmax z) (zret z) ∈ zgw ∧ Cond.initialized (zname z).cls ∈ zgw ∧ (zname z).cls ≠ "java/lang/invoke/MethodHandle" ∧ (zname z).cls ≠ "java/lang/invoke/VarHandle"
theorem zwsM_nil {z : zM} (hz : zhh z = []) : zwsM z = Cond.code (zname z) (zcode z) (zmax z) (zret z) :: zgw := by
  unfold zwsM zword
  rw [hz]
theorem zMet {z : zM} {as : List zV} {h : zH} {o : zO} (hok : zOk z) (hsz : (as.map zcat).sum ≤ zmax z) (hE : Ev z 0 (zargs 0 as) [] h (0, 0) o) (hgo : ∀ v ∈ as, zgo h.1.length v) {l : Launch} (hl : l.stackTraces = false) (D : va_G) (cy : Nat → ClassId) (ad : Nat → Nat) (sz : Nat) :
    vx_Met l (zname z) (zwsM z) (zroom z) (zPc D cy ad h as sz) (zQc D cy (zA ad h sz) ad h.1.length h.2.1 o) (zXC D cy (zA ad h sz) ad h.1.length h.2.1 o) (zroom z).cells (zroom z).slots (zA ad h sz) := by
  refine vx_ofW (cc := zcode z) (maxL := zmax z) (ret := zret z) hok.2.1 (zwsM_nil hok.1) ?_
  intro p e s m args below meth c s₁ B hml hex hPc
  obtain ⟨rfl, hsz', hWh, hSt, hv⟩ := hPc
  subst hsz'
  have hts : ∀ w ∈ zgw, w.before (as.map (zc ad)).toArray s = true := fun w hw => atoms_spec (ws := zwsM z) B.pre w (List.mem_cons_of_mem _ hw)
  have hT : c.exceptionTable.toList = tableOf (zhh z) := by
    rw [hok.1]
    exact List.eq_nil_iff_forall_not_mem.mpr fun x hx => hex x hx
  have hl1 := lv_entry (as.map (zc ad)) (n := zmax z) (by rw [zsl_len]; exact hsz)
  rw [zargs_ls] at hl1
  rw [lg_entry_eq]
  exact hE l p e s m _ below meth c D cy (zA ad h s.heap.size) ad h.1.length h.2.1 ad s.heap [] _ ⟨hl, B.exec, B.bytes, hml, B.returns, findClass_of_methodNamed B.named, hts, B.notSynchronized, hT, (name_of_methodNamed B.named B.method).1, fun q hq => Or.inr hq⟩ hSt ⟨hWh, va_S.rf, fun _ _ => rfl, Nat.le_refl _, fun _ _ => rfl, hv⟩ hl1 (fun q hq => hgo _ (zargs_mem hq)) (fun v hv => by cases hv)
theorem zMetR {z : zM} {as : List zV} {h h1 : zH} {v : Option zV} (hok : zOk z) (hsz : (as.map zcat).sum ≤ zmax z) (hE : Ev z 0 (zargs 0 as) [] h (0, 0) (.inl v, h1)) (hgo : ∀ v ∈ as, zgo h.1.length v) {l : Launch} (hl : l.stackTraces = false) (D : va_G) (cy : Nat → ClassId) (ad : Nat → Nat) (sz : Nat) :
    Met l (zname z) (zwsM z) (zroom z) (zPc D cy ad h as sz) (zQc D cy (zA ad h sz) ad h.1.length h.2.1 (.inl v, h1)) (zroom z).cells (zroom z).slots (zA ad h sz) := by
  have hM := zMet hok hsz hE hgo hl D cy ad sz
  intro p e ha hc hk s m args below hf happ hP hK
  obtain ⟨k, o, a1, a2, a3, a4⟩ := hM p e ha hc hk s m args below hf happ hP hK
  refine ⟨k, o, a1, a2, a3, ?_⟩
  rcases a4 with g | ⟨q, -, E, ce, L, ⟨k9, ad9, e9, -⟩, -⟩
  · exact g
  · cases e9
section ZC
variable {l : Launch} {p : Program} {e : Env} {s : State} {m : MethodId} {args : Array Value} {below : List Frame} {meth : Method} {c : Code} {D : va_G} {cy : Nat → ClassId} {A : Nat → Prop} {ad0 : Nat → Nat} {k0 : Nat} {J : Nat → Int → Int} {ad : Nat → Nat} {H : Heap} {locs : List Loc} {ls : Array Slot} {y : zM} {h : zH}
theorem zA_A (hC : zCx l p y s m args meth c A) (hW : zWl D cy A ad0 k0 J ad h s H locs) : ∀ q, zA ad h H.size q → A q := by
  intro q hq
  rcases hq with ⟨i, hi, rfl⟩ | hq
  · exact hW.1.2.1.2 i _ (zws_get (List.getElem?_eq_getElem hi))
  · exact hC.2.2.2.2.2.2.2.2.2.2 q (Nat.le_trans hW.2.1.1 hq)
theorem zPre (hC : zCx l p y s m args meth c A) (hZ : zSt ad0 J A s s.heap) (hW : zWl D cy A ad0 k0 J ad h s H locs) {as : List zV} {U : State} (hU : U.heap = H) (hWm : s.WarmedH U.vm) : zPc D cy ad h as H.size (as.map (zc ad)).toArray U := by
  have eJ : J = J := rfl
  refine ⟨rfl, by rw [hU], ⟨by rw [hU]; exact hW.1.1, ⟨hW.1.2.1.1, fun k q hk => ?_⟩, va_K.moved hWm.alike hW.1.2.2.1, hW.1.2.2.2⟩, ?_, hW.2.2.2.2.2⟩
  · obtain ⟨hi, rfl⟩ := zws_inv hk
    exact Or.inl ⟨k, hi, rfl⟩
  · have h1 := hZ.to (ad' := ad) (A' := zA ad h H.size) (U := U) (H := H) (fun i hi => hW.2.2.1 i (Or.inr hi)) hWm (fun a h1 h2 => hW.2.1.2.1 a h1 h2) (zA_A hC hW)
    rw [hU]
    have e1 := hW.2.2.2.2.1 4130 (by omega)
    have e2 := hW.2.2.2.2.1 4131 (by omega)
    unfold zSt at h1 ⊢
    rw [e1, e2]
    exact h1
theorem zBlind {as : List zV} {sz : Nat} : FrameBlind (zPc D cy ad h as sz) := by
  intro a U g mk hq
  obtain ⟨e1, e2, hWh, hSt, hv⟩ := hq
  exact ⟨e1, e2, ⟨hWh.1, hWh.2.1, va_K.moved (u := U) (U := U.calling g mk a) (Vm.Alike.refl U.vm) hWh.2.2.1, hWh.2.2.2⟩, hSt.to (U := U.calling g mk a) (fun _ _ => rfl) (State.WarmedH.refl U) (fun _ _ _ => rfl) (fun _ h => h), hv⟩
theorem zAfter {h1 : zH} {ad' : Nat → Nat} {st₀ t T' : State} {L : List Loc} (hC : zCx l p y s m args meth c A) (hW : zWl D cy A ad0 k0 J ad h s H locs) (hE : zEnd D cy (zA ad h H.size) ad h.1.length h.2.1 h1 ad' st₀ t) (h0 : st₀.heap = H) (e1 : T'.heap = t.heap) (hL : ∀ q ∈ L, zA ad h H.size q.base) : zWl D cy A ad0 k0 J ad' h1 s T'.heap (locs ++ L) := by
  obtain ⟨had, hWh, hk, hJ, hv, hF⟩ := hE
  have hAA := zA_A hC hW
  obtain ⟨-, -, hS⟩ := vx_keep h0 e1 hW.2.1 (fun q _ g => hAA q g) hAA hL hF
  refine ⟨⟨by rw [e1]; exact hWh.1, ⟨hWh.2.1.1, fun k q hq => hAA _ (hWh.2.1.2 k q hq)⟩, hW.1.2.2.1, hWh.2.2.2⟩, hS, fun i hi => ?_, Nat.le_trans hW.2.2.2.1 hk, fun i hi => (hJ i hi).trans (hW.2.2.2.2.1 i hi), hv⟩
  rw [had i ?_, hW.2.2.1 i hi]
  rcases hi with g | g
  · exact Or.inl (Nat.lt_of_lt_of_le g hW.2.2.2.1)
  · exact Or.inr g
theorem zCore {pc : Nat} {Ls : List (Nat × zV)} {st : List zV} {n : Nat × Nat} {o : zO} {v : Option zV} {h1 : zH} {stk : List Value} {a : Array Value} {mc ms : Nat}
    (hRun : va_Run p l e (zroom y) s m args below meth c H locs n.1 n.2 mc ms (F0 m pc ls stk) (st.map (zc ad)) (zQc D cy (zA ad h H.size) ad h.1.length h.2.1 (.inl v, h1) a) (zA ad h H.size))
    (hC : zCx l p y s m args meth c A) (hZ : zSt ad0 J A s s.heap) (hW : zWl D cy A ad0 k0 J ad h s H locs) (hl : lv_has ls (zmax y) (zLs ad Ls)) (hL : ∀ q ∈ Ls, zgo h.1.length q.2) (hs : ∀ w ∈ st, zgo h.1.length w)
    (kk : Ev y (pc + 3) Ls (v.toList ++ st) h1 (n.1 + mc, n.2 + ms) o) : W p l e (zroom y) s m args below meth c H locs n.1 n.2 (zQ below args s y D cy A ad0 k0 J o) (F0 m pc ls stk) := by
  intro T hT X
  obtain ⟨v9, st₀, t, T', L, h0, X', hL9, e1, e2, ⟨v', ad', ev, eo, hgo, hEnd⟩, go⟩ := hRun T hT X
  cases ev
  cases eo
  have hW' := zAfter (T' := T') hC hW hEnd h0 e1 hL9
  have hle : h.1.length ≤ h1.1.length := hEnd.2.2.1
  have had : ∀ i, i < h.1.length ∨ 4096 ≤ i → ad' i = ad i := hEnd.1
  have k9 := kk l p e s m args below meth c D cy A ad0 k0 J ad' T'.heap (locs ++ L) ls hC hZ hW' (by rw [zLs_eq hL had]; exact hl) (fun q hq => zgo_mono (hL q hq) hle) (fun w hw => by
    rcases List.mem_append.mp hw with g | g
    · cases v with
      | none => cases g
      | some v0 =>
        rw [List.mem_singleton.mp g]
        exact hgo v0 rfl
    · exact zgo_mono (hs w g) hle)
  obtain ⟨t2, a1, b1⟩ := k9 T' rfl X'
  refine ⟨t2, go t2 ?_, b1⟩
  have e9 : (v.toList ++ st).map (zc ad') = (v.map (zc ad')).toList ++ st.map (zc ad) := by
    rw [List.map_append, zst_eq hs had]
    cases v <;> rfl
  rw [e9] at a1
  exact a1
theorem zGood {z : zM} (hok : zOk z) : GoodIn zgw (zwsM z) := by
  intro w hw
  rw [zwsM_nil hok.1] at hw
  rcases List.mem_cons.mp hw with e | e
  · rw [e]
    exact ⟨hok.2.2.1, good_of_word (List.mem_filter.mp hok.2.2.1).2⟩
  · exact ⟨e, good_of_word (List.mem_filter.mp e).2⟩
end ZC
def zRm (y z : zM) : Prop := (zroom z).frames + 1 ≤ (zroom y).frames ∧ 8 + (zmax z + 11) + (zroom z).locals ≤ (zroom y).locals
def zLkV (y z : zM) (idx nA : Nat) : Prop := Cond.methodLink (zname y).cls idx (zname z) ∈ zgw ∧ Cond.instanceMethod (zname z) ∈ zgw ∧ Cond.selects (zname z).cls (zname z) (zname z) ∈ zgw ∧ (parseMethodDescriptor (zname z).desc).map (fun d => d.parameters.length) = some nA
def zLkS (y z : zM) (idx nA : Nat) : Prop := Cond.methodLink (zname y).cls idx (zname z) ∈ zgw ∧ Cond.static (zname z) ∈ zgw ∧ (parseMethodDescriptor (zname z).desc).map (fun d => d.parameters.length) = some nA
section ZR3
variable {y : zM} {pc : Nat} {L : List (Nat × zV)} {st : List zV} {h : zH} {n : Nat × Nat} {q : zO}
theorem Ev.callV {z : zM} {idx ob ci cz : Nat} {as : List zV} {stk : List zV} {v : Option zV} {h1 : zH} (hz : Ev z 0 (zargs 0 (zr (some ob) :: as)) [] h (0, 0) (.inl v, h1)) (d : decode (zcode y) pc = .ok (.invokevirtual idx, 3)) (hok : zOk z) (lk : zLkV y z idx as.length) (hrm : zRm y z) (ho : h.1[ob]? = some (ci, cz)) (hci : ci < 5 ∧ zCn ci = (zname z).cls) (hstk : stk = as.reverse ++ zr (some ob) :: st) (hsz : ((zr (some ob) :: as).map zcat).sum ≤ zmax z) (hop : (st.map zcat).sum ≤ 8) (hn : n.1 + (zroom z).cells ≤ (zroom y).cells ∧ n.2 + (zroom z).slots ≤ (zroom y).slots)
    (kk : Ev y (pc + 3) L (v.toList ++ st) h1 (n.1 + (zroom z).cells, n.2 + (zroom z).slots) q) : Ev y pc L stk h n q := by
  subst hstk
  intro l p e s m args below meth c0 D cy A ad0 k0 J ad H locs ls hC hZ hW hl hL hs
  have hs2 : ∀ w ∈ zr (some ob) :: as, zgo h.1.length w := fun w hw => hs w (by
    rcases List.mem_cons.mp hw with e | e
    · rw [e]; exact List.mem_append_right _ List.mem_cons_self
    · exact List.mem_append_left _ (List.mem_reverse.mpr e))
  have hs3 : ∀ w ∈ st, zgo h.1.length w := fun w hw => hs w (List.mem_append_right _ (List.mem_cons_of_mem _ hw))
  have hM := zMetR hok hsz hz hs2 hC.1 D cy ad H.size
  have he := zws_get (cy := cy) (ad := ad) ho
  rw [zE_obj hci.1] at he
  have hts := hC.2.2.2.2.2.2.1
  have hrecv := va_recv hW.1.2.2.1 hW.1.1 (zcl hci.1) he
  have hcb : CallW (zroom y) s args (zname y).cls (zname z).cls idx (zname z) (zcode z) (zmax z) (zret z) (zwsM z) (zroom z) (zroom z).cells (zroom z).slots as.length :=
    ⟨callB_of as.length hts (zGood hok) (zwsM_nil hok.1) rfl rfl (hts _ hok.2.2.2.1) (hts _ lk.1) ⟨hok.2.2.2.2.1, hok.2.2.2.2.2, lk.2.2.2⟩ hrm, hts _ lk.2.1, hts _ lk.2.2.1⟩
  refine zCore (a := (Value.ref (ad ob) :: as.map (zc ad)).toArray) (va_runV (As := as.map (zc ad)) (Ts := zgw) (C := (zname z).cls) (b := ad ob) ⟨hC.2.1, hC.2.2.1, hC.2.2.2.1, hC.2.2.2.2.2.1, hts⟩ hM hcb ⟨zBlind, by rw [hci.2] at hrecv; exact hrecv, fun U hU hWm => zPre (as := zr (some ob) :: as) hC hZ hW hU hWm⟩ rfl (by rw [List.length_map]) hl.1 ?_ (lv_room (by rw [zcat_sum]; exact hop)) d hn) hC hZ hW hl hL hs3 kk
  show (as.reverse ++ zr (some ob) :: st).map (zc ad) = (as.map (zc ad)).reverse ++ Value.ref (ad ob) :: st.map (zc ad)
  rw [List.map_append, List.map_reverse]
  rfl
theorem Ev.callS {z : zM} {idx : Nat} {as : List zV} {stk : List zV} {v : Option zV} {h1 : zH} (hz : Ev z 0 (zargs 0 as) [] h (0, 0) (.inl v, h1)) (d : decode (zcode y) pc = .ok (.invokestatic idx, 3)) (hok : zOk z) (lk : zLkS y z idx as.length) (hrm : zRm y z) (hstk : stk = as.reverse ++ st) (hsz : (as.map zcat).sum ≤ zmax z) (hop : (st.map zcat).sum ≤ 8) (hn : n.1 + (zroom z).cells ≤ (zroom y).cells ∧ n.2 + (zroom z).slots ≤ (zroom y).slots)
    (kk : Ev y (pc + 3) L (v.toList ++ st) h1 (n.1 + (zroom z).cells, n.2 + (zroom z).slots) q) : Ev y pc L stk h n q := by
  subst hstk
  intro l p e s m args below meth c0 D cy A ad0 k0 J ad H locs ls hC hZ hW hl hL hs
  have hs2 : ∀ w ∈ as, zgo h.1.length w := fun w hw => hs w (List.mem_append_left _ (List.mem_reverse.mpr hw))
  have hs3 : ∀ w ∈ st, zgo h.1.length w := fun w hw => hs w (List.mem_append_right _ hw)
  have hM := zMetR hok hsz hz hs2 hC.1 D cy ad H.size
  have hts := hC.2.2.2.2.2.2.1
  refine zCore (a := (as.map (zc ad)).toArray) (va_runS (As := as.map (zc ad)) (Ts := zgw) ⟨hC.2.1, hC.2.2.1, hC.2.2.2.1, hC.2.2.2.2.2.1, hts⟩ hM ⟨callB_of as.length hts (zGood hok) (zwsM_nil hok.1) rfl rfl (hts _ hok.2.2.2.1) (hts _ lk.1) ⟨hok.2.2.2.2.1, hok.2.2.2.2.2, lk.2.2⟩ hrm, hts _ lk.2.1⟩ ⟨zBlind, fun U hU hWm => zPre (as := as) hC hZ hW hU hWm⟩ rfl (by rw [List.length_map]) hl.1 ?_ (lv_room (by rw [zcat_sum]; exact hop)) d hn) hC hZ hW hl hL hs3 kk
  show (as.reverse ++ st).map (zc ad) = (as.map (zc ad)).reverse ++ st.map (zc ad)
  rw [List.map_append, List.map_reverse]
/-- a private static method of a nest mate -/
theorem Ev.callSN {z : zM} {idx : Nat} {as : List zV} {stk : List zV} {v : Option zV} {h1 : zH} (hz : Ev z 0 (zargs 0 as) [] h (0, 0) (.inl v, h1)) (d : decode (zcode y) pc = .ok (.invokestatic idx, 3)) (hok : zOk z) (lk : ((zname y).cls, idx, zname z, "SlackRows") ∈ zNestM ∧ Cond.static (zname z) ∈ zgw ∧ (parseMethodDescriptor (zname z).desc).map (fun d => d.parameters.length) = some as.length) (hrm : zRm y z) (hstk : stk = as.reverse ++ st) (hsz : (as.map zcat).sum ≤ zmax z) (hop : (st.map zcat).sum ≤ 8) (hn : n.1 + (zroom z).cells ≤ (zroom y).cells ∧ n.2 + (zroom z).slots ≤ (zroom y).slots)
    (kk : Ev y (pc + 3) L (v.toList ++ st) h1 (n.1 + (zroom z).cells, n.2 + (zroom z).slots) q) : Ev y pc L stk h n q := by
  subst hstk
  intro l p e s m args below meth c0 D cy A ad0 k0 J ad H locs ls hC hZ hW hl hL hs
  have hs2 : ∀ w ∈ as, zgo h.1.length w := fun w hw => hs w (List.mem_append_left _ (List.mem_reverse.mpr hw))
  have hs3 : ∀ w ∈ st, zgo h.1.length w := fun w hw => hs w (List.mem_append_right _ hw)
  have hM := zMetR hok hsz hz hs2 hC.1 D cy ad H.size
  have hts := hC.2.2.2.2.2.2.1
  refine zCore (a := (as.map (zc ad)).toArray) (va_runSN (host := "SlackRows") (As := as.map (zc ad)) (Ts := zgw) ⟨hC.2.1, hC.2.2.1, hC.2.2.2.1, hC.2.2.2.2.2.1, hts⟩ hM ⟨va_cnB as.length hts (zGood hok) (zwsM_nil hok.1) rfl rfl (hZ.1 _ lk.1) (hts _ hok.2.2.2.1) ⟨hok.2.2.2.2.1, hok.2.2.2.2.2, lk.2.2⟩ hrm, hts _ lk.2.1, trivial⟩ ⟨zBlind, fun U hU hWm => zPre (as := as) hC hZ hW hU hWm⟩ rfl (by rw [List.length_map]) hl.1 ?_ (lv_room (by rw [zcat_sum]; exact hop)) d hn) hC hZ hW hl hL hs3 kk
  show (as.reverse ++ st).map (zc ad) = (as.map (zc ad)).reverse ++ st.map (zc ad)
  rw [List.map_append, List.map_reverse]
/-- a constructor -/
theorem Ev.callI {z : zM} {idx ob : Nat} {as : List zV} {stk : List zV} {h1 : zH} (hz : Ev z 0 (zargs 0 (zr (some ob) :: as)) [] h (0, 0) (.inl none, h1)) (d : decode (zcode y) pc = .ok (.invokespecial idx, 3)) (hok : zOk z) (lk : Cond.methodLink (zname y).cls idx (zname z) ∈ zgw ∧ Cond.instanceMethod (zname z) ∈ zgw ∧ (parseMethodDescriptor (zname z).desc).map (fun d => d.parameters.length) = some as.length) (hi : (zname z).name = "<init>") (hv : zret z = none) (hrm : zRm y z) (hstk : stk = as.reverse ++ zr (some ob) :: st) (hsz : ((zr (some ob) :: as).map zcat).sum ≤ zmax z) (hop : (st.map zcat).sum ≤ 8) (hn : n.1 + (zroom z).cells ≤ (zroom y).cells ∧ n.2 + (zroom z).slots ≤ (zroom y).slots)
    (kk : Ev y (pc + 3) L st h1 (n.1 + (zroom z).cells, n.2 + (zroom z).slots) q) : Ev y pc L stk h n q := by
  subst hstk
  intro l p e s m args below meth c0 D cy A ad0 k0 J ad H locs ls hC hZ hW hl hL hs
  have hs2 : ∀ w ∈ zr (some ob) :: as, zgo h.1.length w := fun w hw => hs w (by
    rcases List.mem_cons.mp hw with e | e
    · rw [e]; exact List.mem_append_right _ List.mem_cons_self
    · exact List.mem_append_left _ (List.mem_reverse.mpr e))
  have hs3 : ∀ w ∈ st, zgo h.1.length w := fun w hw => hs w (List.mem_append_right _ (List.mem_cons_of_mem _ hw))
  have hM := zMetR hok hsz hz hs2 hC.1 D cy ad H.size
  have hts := hC.2.2.2.2.2.2.1
  have hcb := callB_of as.length hts (zGood hok) (zwsM_nil hok.1) rfl rfl (hts _ hok.2.2.2.1) (hts _ lk.1) ⟨hok.2.2.2.2.1, hok.2.2.2.2.2, lk.2.2⟩ hrm
  rw [hv] at hcb
  refine zCore (v := none) (a := (Value.ref (ad ob) :: as.map (zc ad)).toArray) (va_runI (As := as.map (zc ad)) (Ts := zgw) (b := ad ob) ⟨hC.2.1, hC.2.2.1, hC.2.2.2.1, hC.2.2.2.2.2.1, hts⟩ hM ⟨hcb, hi, hts _ lk.2.1⟩ ⟨zBlind, fun U hU hWm => zPre (as := zr (some ob) :: as) hC hZ hW hU hWm⟩ rfl (by rw [List.length_map]) hl.1 ?_ (lv_room (by rw [zcat_sum]; exact hop)) d hn) hC hZ hW hl hL hs3 kk
  show (as.reverse ++ zr (some ob) :: st).map (zc ad) = (as.map (zc ad)).reverse ++ Value.ref (ad ob) :: st.map (zc ad)
  rw [List.map_append, List.map_reverse]
  rfl
/-- a private constructor of a nest mate -/
theorem Ev.callIN {z : zM} {idx ob : Nat} {as : List zV} {stk : List zV} {h1 : zH} (hz : Ev z 0 (zargs 0 (zr (some ob) :: as)) [] h (0, 0) (.inl none, h1)) (d : decode (zcode y) pc = .ok (.invokespecial idx, 3)) (hok : zOk z) (lk : ((zname y).cls, idx, zname z, "SlackRows") ∈ zNestM ∧ Cond.instanceMethod (zname z) ∈ zgw ∧ (parseMethodDescriptor (zname z).desc).map (fun d => d.parameters.length) = some as.length) (hi : (zname z).name = "<init>") (hv : zret z = none) (hrm : zRm y z) (hstk : stk = as.reverse ++ zr (some ob) :: st) (hsz : ((zr (some ob) :: as).map zcat).sum ≤ zmax z) (hop : (st.map zcat).sum ≤ 8) (hn : n.1 + (zroom z).cells ≤ (zroom y).cells ∧ n.2 + (zroom z).slots ≤ (zroom y).slots)
    (kk : Ev y (pc + 3) L st h1 (n.1 + (zroom z).cells, n.2 + (zroom z).slots) q) : Ev y pc L stk h n q := by
  subst hstk
  intro l p e s m args below meth c0 D cy A ad0 k0 J ad H locs ls hC hZ hW hl hL hs
  have hs2 : ∀ w ∈ zr (some ob) :: as, zgo h.1.length w := fun w hw => hs w (by
    rcases List.mem_cons.mp hw with e | e
    · rw [e]; exact List.mem_append_right _ List.mem_cons_self
    · exact List.mem_append_left _ (List.mem_reverse.mpr e))
  have hs3 : ∀ w ∈ st, zgo h.1.length w := fun w hw => hs w (List.mem_append_right _ (List.mem_cons_of_mem _ hw))
  have hM := zMetR hok hsz hz hs2 hC.1 D cy ad H.size
  have hts := hC.2.2.2.2.2.2.1
  have hcb := va_cnB (host := "SlackRows") as.length hts (zGood hok) (zwsM_nil hok.1) rfl rfl (hZ.1 _ lk.1) (hts _ hok.2.2.2.1) ⟨hok.2.2.2.2.1, hok.2.2.2.2.2, lk.2.2⟩ hrm
  rw [hv] at hcb
  refine zCore (v := none) (a := (Value.ref (ad ob) :: as.map (zc ad)).toArray) (va_runIN (host := "SlackRows") (As := as.map (zc ad)) (Ts := zgw) (b := ad ob) ⟨hC.2.1, hC.2.2.1, hC.2.2.2.1, hC.2.2.2.2.2.1, hts⟩ hM ⟨hcb, hi, hts _ lk.2.1⟩ ⟨zBlind, fun U hU hWm => zPre (as := zr (some ob) :: as) hC hZ hW hU hWm⟩ rfl (by rw [List.length_map]) hl.1 ?_ (lv_room (by rw [zcat_sum]; exact hop)) d hn) hC hZ hW hl hL hs3 kk
  show (as.reverse ++ zr (some ob) :: st).map (zc ad) = (as.map (zc ad)).reverse ++ Value.ref (ad ob) :: st.map (zc ad)
  rw [List.map_append, List.map_reverse]
  rfl
/-- Math.max, Math.min -/
theorem Ev.mmax {idx : Nat} {a b : Int} (d : decode (zcode y) pc = .ok (.invokestatic idx, 3)) (lk : Cond.methodLink (zname y).cls idx Lib.Math.max.name ∈ zgw ∧ Cond.static Lib.Math.max.name ∈ zgw ∧ Cond.initialized "java/lang/Math" ∈ zgw ∧ Cond.code Lib.Math.max.name Lib.Math.max.code 2 (some .int) ∈ zgw) (hrm : 1 ≤ (zroom y).frames ∧ 21 ≤ (zroom y).locals) (hop : (st.map zcat).sum ≤ 8) (hn : n.1 ≤ (zroom y).cells ∧ n.2 ≤ (zroom y).slots) (kk : Ev y (pc + 3) L (zi (if a < b then b else a) :: st) h n q) : Ev y pc L (zi b :: zi a :: st) h n q := by
  intro l p e s m args below meth c0 D cy A ad0 k0 J ad H locs ls hC hZ hW hl hL hs
  have hts := hC.2.2.2.2.2.2.1
  have ga := (zst_hd (zst_tl hs)).1
  have gb := (zst_hd hs).1
  refine va_mmax hC.2.1 hC.2.2.1 (hC.2.2.2.1.trans hl.1.symm) hC.2.2.2.2.2.1 (hts _ lk.1) (hts _ lk.2.1) (hts _ lk.2.2.1) (hts _ lk.2.2.2) hrm.1 (by rw [zcat_sum]; omega) hn.1 hn.2 d ?_
  have e9 : zc ad (zi (if a < b then b else a)) = .int (if Int32.ofInt a < Int32.ofInt b then Int32.ofInt b else Int32.ofInt a) := by
    by_cases hab : a < b
    · rw [if_pos hab, if_pos ((zI_lt ga gb).mpr hab)]; rfl
    · rw [if_neg hab, if_neg (fun g => hab ((zI_lt ga gb).mp g))]; rfl
  have k9 := kk l p e s m args below meth c0 D cy A ad0 k0 J ad H locs ls hC hZ hW hl hL (zst_go (zst_tl (zst_tl hs)) ⟨by split; exact gb; exact ga, trivial⟩)
  rw [List.map_cons, e9] at k9
  exact k9
theorem Ev.mmin {idx : Nat} {a b : Int} (d : decode (zcode y) pc = .ok (.invokestatic idx, 3)) (lk : Cond.methodLink (zname y).cls idx Lib.Math.min.name ∈ zgw ∧ Cond.static Lib.Math.min.name ∈ zgw ∧ Cond.initialized "java/lang/Math" ∈ zgw ∧ Cond.code Lib.Math.min.name Lib.Math.min.code 2 (some .int) ∈ zgw) (hrm : 1 ≤ (zroom y).frames ∧ 21 ≤ (zroom y).locals) (hop : (st.map zcat).sum ≤ 8) (hn : n.1 ≤ (zroom y).cells ∧ n.2 ≤ (zroom y).slots) (kk : Ev y (pc + 3) L (zi (if b < a then b else a) :: st) h n q) : Ev y pc L (zi b :: zi a :: st) h n q := by
  intro l p e s m args below meth c0 D cy A ad0 k0 J ad H locs ls hC hZ hW hl hL hs
  have hts := hC.2.2.2.2.2.2.1
  have ga := (zst_hd (zst_tl hs)).1
  have gb := (zst_hd hs).1
  refine va_mmin hC.2.1 hC.2.2.1 (hC.2.2.2.1.trans hl.1.symm) hC.2.2.2.2.2.1 (hts _ lk.1) (hts _ lk.2.1) (hts _ lk.2.2.1) (hts _ lk.2.2.2) hrm.1 (by rw [zcat_sum]; omega) hn.1 hn.2 d ?_
  have e9 : zc ad (zi (if b < a then b else a)) = .int (if Int32.ofInt b < Int32.ofInt a then Int32.ofInt b else Int32.ofInt a) := by
    by_cases hab : b < a
    · rw [if_pos hab, if_pos ((zI_lt gb ga).mpr hab)]; rfl
    · rw [if_neg hab, if_neg (fun g => hab ((zI_lt gb ga).mp g))]; rfl
  have k9 := kk l p e s m args below meth c0 D cy A ad0 k0 J ad H locs ls hC hZ hW hl hL (zst_go (zst_tl (zst_tl hs)) ⟨by split; exact gb; exact ga, trivial⟩)
  rw [List.map_cons, e9] at k9
  exact k9
theorem Ev.objInit {idx : Nat} {r : Option Nat} (d : decode (zcode y) pc = .ok (.invokespecial idx, 3)) (lk : Cond.methodLink (zname y).cls idx Lib.objectInit ∈ zgw ∧ Cond.instanceMethod Lib.objectInit ∈ zgw ∧ Cond.code Lib.objectInit ⟨#[0xb1]⟩ 1 none ∈ zgw) (hrm : 1 ≤ (zroom y).frames ∧ 20 ≤ (zroom y).locals) (hop : (st.map zcat).sum ≤ 8) {x : Nat} (hr : r = some x) (kk : Ev y (pc + 3) L st h n q) : Ev y pc L (zr r :: st) h n q := by
  subst hr
  intro l p e s m args below meth c0 D cy A ad0 k0 J ad H locs ls hC hZ hW hl hL hs
  have hts := hC.2.2.2.2.2.2.1
  exact W.objInit hC.2.1 hC.2.2.1 hC.2.2.2.2.2.1 (hts _ lk.1) (hts _ lk.2.1) (hts _ lk.2.2) rfl (hl.1.trans hC.2.2.2.1.symm) rfl d hrm.1 (by
    have e1 := lv_room (m := m) (pc := pc) (ls := ls) (rest := zc ad (zr (some x)) :: st.map (zc ad)) (st := st.map (zc ad)) (by rw [zcat_sum]; exact hop)
    have e2 : 2 * (F0 m pc ls (zc ad (zr (some x)) :: st.map (zc ad))).monitorRoom + ((st.map (zc ad)).map fun v => v.category).sum + 12 ≤ 20 := by omega
    exact Nat.le_trans e2 hrm.2) (kk l p e s m args below meth c0 D cy A ad0 k0 J ad H locs ls hC hZ hW hl hL (zst_tl hs))
end ZR3
