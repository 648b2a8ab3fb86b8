/-! ===== exceptions: thrown, passed on, caught ===== -/
def zNms : List String := ["java/lang/RuntimeException", "java/lang/Exception"]
/-- what the tables say of a throw of the k-th class -/
def zXw (ik ic k : Nat) : Prop := Cond.classLink "SlackRows" ik (zEx k) ∈ zgw ∧ Cond.initialized (zEx k) ∈ zgw ∧ (∀ w ∈ (vx_atS "SlackRows" ic (zEx k) zNms).filter goodWord, w ∈ zgw) ∧ (∀ w ∈ (vx_atS "SlackRows" ic (zEx k) zNms).filter (fun w => !goodWord w), w ∈ Cond.castable (zEx k) (zEx k) :: zDecl.map Cond.declares) ∧ ∀ w ∈ Cond.classLink "SlackRows" ik (zEx k) :: Cond.initialized (zEx k) :: vx_atS "SlackRows" ic (zEx k) zNms, vx_ot w = true
theorem zplaces {L : List Cond} (ps : List Nat) (h : L = ps.filterMap (fun i => lw_tbl[i]?)) (g : L.all goodWord = true) : ∀ w ∈ L, w ∈ zgw := by
  intro w hw
  have hg := List.all_eq_true.mp g w hw
  rw [h] at hw
  obtain ⟨i, -, hi⟩ := List.mem_filterMap.mp hw
  exact zgw_in (List.mem_of_getElem? hi) hg
theorem zXw0 : zXw 170 174 0 := ⟨zgw_in (List.mem_of_getElem? (i := 641) (by decide +kernel)) rfl, zgw_in (List.mem_of_getElem? (i := 103) (by decide +kernel)) rfl, zplaces [100, 663, 672, 676, 679, 681, 664, 665, 117, 118, 666, 671, 677, 697, 653, 698, 655, 699, 657, 667, 669, 659, 693, 694, 696, 659, 684, 685, 686, 687, 687, 688, 689, 690, 690, 691, 692, 693, 683, 642, 650, 651, 652, 654, 656, 658, 662, 661, 660] (by decide +kernel) (by decide +kernel), by decide +kernel, by decide +kernel⟩
theorem zXw1 : zXw 179 183 1 := ⟨zgw_in (List.mem_of_getElem? (i := 710) (by decide +kernel)) rfl, zgw_in (List.mem_of_getElem? (i := 104) (by decide +kernel)) rfl, zplaces [100, 663, 672, 676, 679, 681, 664, 665, 117, 118, 666, 671, 677, 697, 653, 698, 655, 699, 657, 667, 669, 659, 693, 694, 696, 659, 721, 722, 723, 687, 687, 688, 689, 690, 690, 691, 692, 693, 720, 711, 713, 674, 714, 715, 716, 717, 662, 661, 718] (by decide +kernel) (by decide +kernel), by decide +kernel, by decide +kernel⟩
theorem zXw2 : zXw 128 132 2 := ⟨zgw_in (List.mem_of_getElem? (i := 727) (by decide +kernel)) rfl, zgw_in (List.mem_of_getElem? (i := 105) (by decide +kernel)) rfl, zplaces [100, 663, 672, 676, 679, 681, 664, 665, 117, 118, 666, 671, 677, 697, 653, 698, 655, 699, 657, 667, 669, 659, 693, 694, 696, 659, 738, 739, 740, 687, 687, 688, 689, 690, 690, 691, 692, 693, 737, 728, 730, 675, 731, 732, 733, 734, 662, 661, 735] (by decide +kernel) (by decide +kernel), by decide +kernel, by decide +kernel⟩
section ZX
variable {y : zM} {pc : Nat} {L : List (Nat × zV)} {st : List zV} {h : zH} {n : Nat × Nat} {q : zO}
theorem tableOf_nil {c : Code} (h : c.exceptionTable.toList = tableOf []) : ∀ x ∈ c.exceptionTable.toList, False := fun x hx => by
  rw [h] at hx
  exact absurd hx List.not_mem_nil
theorem Ev.throwS {ik is ic k : Nat} {tx : String} (d0 : decode (zcode y) pc = .ok (.new ik, 3)) (d3 : decode (zcode y) (pc + 3) = .ok (.dup, 1)) (d4 : decode (zcode y) (pc + 4) = .ok (.ldc is, 2)) (d6 : decode (zcode y) (pc + 6) = .ok (.invokespecial ic, 3)) (d9 : decode (zcode y) (pc + 9) = .ok (.athrow, 1)) (hk : k < 3) (hcl : (zname y).cls = "SlackRows") (hm : (is, tx) ∈ zMsg) (hX : zXw ik ic k) (hh : zhh y = []) (hrm : 5 < (zroom y).frames ∧ (st.map zcat).sum + 82 ≤ (zroom y).locals) (hn : n.1 + 1 ≤ (zroom y).cells ∧ n.2 + 6 ≤ (zroom y).slots) : Ev y pc L st h n (.inr k, h) := by
  intro l p e s m args below meth c D cy A ad0 k0 J ad H locs ls hC hZ hW hl hL hs
  have hts := hC.2.2.2.2.2.2.1
  have hown := hC.2.2.2.2.2.1
  rw [hcl] at hown
  obtain ⟨a, hmsg⟩ := hZ.2.2.2.2.2.2.2.2.2.2.2.2.2.1 (is, tx) hm
  have hT : c.exceptionTable.toList = tableOf [] := by rw [← hh]; exact hC.2.2.2.2.2.2.2.2.1
  have hB : ∀ w ∈ Cond.castable (zEx k) (zEx k) :: zDecl.map Cond.declares, w.before args s = true := by
    refine vx_c (va_Nw.use (A := args) rfl (hZ.2.2.1.1 k hk)) (fun w hw => ?_)
    obtain ⟨x, hx, rfl⟩ := List.mem_map.mp hw
    exact va_Nw.use (A := args) rfl (hZ.2.2.1.2 x hx)
  have hfit : Bundle.fit (zEx k) = true := (by decide +kernel : ∀ k, k < 3 → Bundle.fit (zEx k) = true) k hk
  refine vx_throwS (names := zNms) (own := "SlackRows") (cls := zEx k) (text := tx) (A := A) hC.2.1 hC.2.2.1 hC.1 hown hfit (by decide +kernel) (hts _ hX.1) (hts _ hX.2.1) hmsg (vx_hat (fun w hw => hts w (hX.2.2.1 w hw)) hX.2.2.2.1 hB) hX.2.2.2.2 hZ.2.2.2.2.2.2.2.2.2.2.2.2.1.1 hZ.2.2.2.2.2.2.2.2.2.2.2.2.1.2 hW.2.1 (hl.1.trans hC.2.2.2.1.symm) d0 d3 d4 d6 d9 (fun x hx => (tableOf_nil hT x hx).elim) hrm.1 (by rw [zcat_sum]; exact hrm.2) hn.1 hn.2 hC.2.2.2.2.2.2.2.1 (fun t hv hsz hq => ?_) hW.2.1.2.2 hn.1 hn.2
  exact ⟨k, ad, rfl, hk, rfl, hW.2.2.1, ⟨hW.1.1.kept (fun i q hi => hq q.1 (vx_lt hW.1.1 hi)), hW.1.2.1, va_K.moved hv hW.1.2.2.1, hW.1.2.2.2⟩, hW.2.2.2.1, hW.2.2.2.2.1, hW.2.2.2.2.2, ⟨Nat.le_trans hW.2.1.1 hsz, fun i h1 h2 => (hq i (Nat.lt_of_lt_of_le h1 hW.2.1.1)).trans (hW.2.1.2.1 i h1 h2)⟩⟩
end ZX
section ZCX
variable {l : Launch} {p : Program} {e : Env} {s : State} {m : MethodId} {args : Array Value} {below : List Frame} {meth : Method} {c : Code} {D : va_G} {cy : Nat → ClassId} {A : Nat → Prop} {ad0 : Nat → Nat} {k0 : Nat} {J : Nat → Int → Int} {ad : Nat → Nat} {H : Heap} {locs : List Loc} {ls : Array Slot} {y : zM} {h : zH}
/-- behind a call that throws -/
theorem zCoreX {pc : Nat} {rest : List Value} {n : Nat × Nat} {o : zO} {k : Nat} {h1 : zH} {stk : List Value} {a : Array Value} {mc ms : Nat}
    (hRun : vx_Run p l e (zroom y) s m args below meth c H locs n.1 n.2 mc ms (F0 m pc ls stk) rest (zQc D cy (zA ad h H.size) ad h.1.length h.2.1 (.inr k, h1) a) (zXC D cy (zA ad h H.size) ad h.1.length h.2.1 (.inr k, h1)) (zA ad h H.size))
    (hC : zCx l p y s m args meth c A) (hW : zWl D cy A ad0 k0 J ad h s H locs)
    (kk : ∀ (ad' : Nat → Nat) (H1 : Heap) (locs1 : List Loc) (q : Addr) (ce : Cell), k < 3 → zWl D cy A ad0 k0 J ad' h1 s H1 locs1 → H1[q]? = some ce → ce.vm = .none → s.vm.findClass (zEx k) = some ce.cls → vx_W p l e (zroom y) s m args below meth c H1 locs1 (n.1 + mc) (n.2 + ms) (zQ below args s y D cy A ad0 k0 J o) (F0 m pc ls rest) q) : W p l e (zroom y) s m args below meth c H locs n.1 n.2 (zQ below args s y D cy A ad0 k0 J o) (F0 m pc ls stk) := by
  intro T hT X
  rcases hRun T hT X with ⟨v9, st₀, t, T', L, h0, X', hL9, e1, e2, ⟨v', ad', ev, -⟩, -⟩ | ⟨q, st₀, t, T', L, E, ce, h0, X', hL9, e1, e2, ⟨k9, ad', ek, hk, rfl, hEnd⟩, hce, hcv, hcl, st⟩
  · cases ev
  · cases ek
    have hW' := zAfter (T' := T') hC hW hEnd h0 e1 hL9
    obtain ⟨t2, a1, b1⟩ := kk ad' T'.heap (locs ++ L) q ce hk hW' (by rw [e1]; exact hce) hcv hcl T' rfl X'
    exact ⟨t2, st.trans a1, b1⟩
/-- it goes on to the caller -/
theorem zOut {pc : Nat} {rest : List Value} {n : Nat × Nat} {k : Nat} {h1 : zH} {H1 : Heap} {locs1 : List Loc} {q : Addr} {ce : Cell} {ad' : Nat → Nat} (hC : zCx l p y s m args meth c A) (hh : zhh y = []) (hk : k < 3) (hW : zWl D cy A ad0 k0 J ad' h1 s H1 locs1) (hce : H1[q]? = some ce) (hcv : ce.vm = .none) (hcl : s.vm.findClass (zEx k) = some ce.cls) (hn : n.1 ≤ (zroom y).cells ∧ n.2 ≤ (zroom y).slots) : vx_W p l e (zroom y) s m args below meth c H1 locs1 n.1 n.2 (zQ below args s y D cy A ad0 k0 J (.inr k, h1)) (F0 m pc ls rest) q := by
  have hT : c.exceptionTable.toList = tableOf [] := by rw [← hh]; exact hC.2.2.2.2.2.2.2.2.1
  exact vx_out (fun x hx => (tableOf_nil hT x hx).elim) hC.2.2.2.2.2.2.2.1 hce hcv hcl (fun t ht hv => ⟨k, ad', rfl, hk, rfl, hW.end ht hv⟩) hW.2.1.2.2 hn.1 hn.2
end ZCX
section ZR5
variable {y : zM} {pc : Nat} {L : List (Nat × zV)} {st : List zV} {h : zH} {n : Nat × Nat} {q : zO}
/-- a call that throws, not caught here -/
theorem Ev.callVX {z : zM} {idx ob ci cz k : Nat} {as : List zV} {stk : List zV} {h1 : zH} (hz : Ev z 0 (zargs 0 (zr (some ob) :: as)) [] h (0, 0) (.inr k, h1)) (d : decode (zcode y) pc = .ok (.invokevirtual idx, 3)) (hok : zOk z) (lk : zLkV y z idx as.length) (hrm : zRm y z) (ho : h.1[ob]? = some (ci, cz)) (hci : ci < 5 ∧ zCn ci = (zname z).cls) (hstk : stk = as.reverse ++ zr (some ob) :: st) (hsz : ((zr (some ob) :: as).map zcat).sum ≤ zmax z) (hop : (st.map zcat).sum ≤ 8) (hn : n.1 + (zroom z).cells ≤ (zroom y).cells ∧ n.2 + (zroom z).slots ≤ (zroom y).slots) (hh : zhh y = []) : Ev y pc L stk h n (.inr k, h1) := by
  subst hstk
  intro l p e s m args below meth c0 D cy A ad0 k0 J ad H locs ls hC hZ hW hl hL hs
  have hs2 : ∀ w ∈ zr (some ob) :: as, zgo h.1.length w := fun w hw => hs w (by
    rcases List.mem_cons.mp hw with e | e
    · rw [e]; exact List.mem_append_right _ List.mem_cons_self
    · exact List.mem_append_left _ (List.mem_reverse.mpr e))
  have hM := zMet hok hsz hz hs2 hC.1 D cy ad H.size
  have he := zws_get (cy := cy) (ad := ad) ho
  rw [zE_obj hci.1] at he
  have hts := hC.2.2.2.2.2.2.1
  have hrecv := va_recv hW.1.2.2.1 hW.1.1 (zcl hci.1) he
  have hcb : CallW (zroom y) s args (zname y).cls (zname z).cls idx (zname z) (zcode z) (zmax z) (zret z) (zwsM z) (zroom z) (zroom z).cells (zroom z).slots as.length :=
    ⟨callB_of as.length hts (zGood hok) (zwsM_nil hok.1) rfl rfl (hts _ hok.2.2.2.1) (hts _ lk.1) ⟨hok.2.2.2.2.1, hok.2.2.2.2.2, lk.2.2.2⟩ hrm, hts _ lk.2.1, hts _ lk.2.2.1⟩
  refine zCoreX (a := (Value.ref (ad ob) :: as.map (zc ad)).toArray) (rest := st.map (zc ad)) (vx_runV (As := as.map (zc ad)) (Ts := zgw) (C := (zname z).cls) (b := ad ob) ⟨hC.2.1, hC.2.2.1, hC.2.2.2.1, hC.2.2.2.2.2.1, hts⟩ hM hcb ⟨zBlind, by rw [hci.2] at hrecv; exact hrecv, fun U hU hWm => zPre (as := zr (some ob) :: as) hC hZ hW hU hWm⟩ rfl (by rw [List.length_map]) hl.1 ?_ (lv_room (by rw [zcat_sum]; exact hop)) d hn) hC hW (fun ad' H1 locs1 q ce hk hW1 hce hcv hcl => zOut (n := (n.1 + (zroom z).cells, n.2 + (zroom z).slots)) hC hh hk hW1 hce hcv hcl hn)
  show (as.reverse ++ zr (some ob) :: st).map (zc ad) = (as.map (zc ad)).reverse ++ Value.ref (ad ob) :: st.map (zc ad)
  rw [List.map_append, List.map_reverse]
  rfl
theorem Ev.callSX {z : zM} {idx k : Nat} {as : List zV} {stk : List zV} {h1 : zH} (hz : Ev z 0 (zargs 0 as) [] h (0, 0) (.inr k, h1)) (d : decode (zcode y) pc = .ok (.invokestatic idx, 3)) (hok : zOk z) (lk : zLkS y z idx as.length) (hrm : zRm y z) (hstk : stk = as.reverse ++ st) (hsz : (as.map zcat).sum ≤ zmax z) (hop : (st.map zcat).sum ≤ 8) (hn : n.1 + (zroom z).cells ≤ (zroom y).cells ∧ n.2 + (zroom z).slots ≤ (zroom y).slots) (hh : zhh y = []) : Ev y pc L stk h n (.inr k, h1) := by
  subst hstk
  intro l p e s m args below meth c0 D cy A ad0 k0 J ad H locs ls hC hZ hW hl hL hs
  have hs2 : ∀ w ∈ as, zgo h.1.length w := fun w hw => hs w (List.mem_append_left _ (List.mem_reverse.mpr hw))
  have hM := zMet hok hsz hz hs2 hC.1 D cy ad H.size
  have hts := hC.2.2.2.2.2.2.1
  refine zCoreX (a := (as.map (zc ad)).toArray) (rest := st.map (zc ad)) (vx_runS (As := as.map (zc ad)) (Ts := zgw) ⟨hC.2.1, hC.2.2.1, hC.2.2.2.1, hC.2.2.2.2.2.1, hts⟩ hM ⟨callB_of as.length hts (zGood hok) (zwsM_nil hok.1) rfl rfl (hts _ hok.2.2.2.1) (hts _ lk.1) ⟨hok.2.2.2.2.1, hok.2.2.2.2.2, lk.2.2⟩ hrm, hts _ lk.2.1⟩ ⟨zBlind, fun U hU hWm => zPre (as := as) hC hZ hW hU hWm⟩ rfl (by rw [List.length_map]) hl.1 ?_ (lv_room (by rw [zcat_sum]; exact hop)) d hn) hC hW (fun ad' H1 locs1 q ce hk hW1 hce hcv hcl => zOut (n := (n.1 + (zroom z).cells, n.2 + (zroom z).slots)) hC hh hk hW1 hce hcv hcl hn)
  show (as.reverse ++ st).map (zc ad) = (as.map (zc ad)).reverse ++ st.map (zc ad)
  rw [List.map_append, List.map_reverse]
/-- a call that throws, caught here; the handler stores the exception and answers v -/
def zHnd (y : zM) (hp i : Nat) (v : Int) : Prop := i < zmax y ∧ ∃ la : Nat, ((∃ f : Fin 4, (f : Nat) = i ∧ la = 1 ∧ decode (zcode y) hp = .ok (.astore_n f, 1)) ∨ (la = 2 ∧ decode (zcode y) hp = .ok (.astore i, 2))) ∧ decode (zcode y) (hp + la) = .ok (.iconst v, 1) ∧ decode (zcode y) (hp + la + 1) = .ok (.ireturn, 1)
theorem Ev.callVC {z : zM} {idx ob ci cz k i : Nat} {v : Int} {as : List zV} {stk : List zV} {h1 : zH} (hz : Ev z 0 (zargs 0 (zr (some ob) :: as)) [] h (0, 0) (.inr k, h1)) (d : decode (zcode y) pc = .ok (.invokevirtual idx, 3)) (hok : zOk z) (lk : zLkV y z idx as.length) (hrm : zRm y z) (ho : h.1[ob]? = some (ci, cz)) (hci : ci < 5 ∧ zCn ci = (zname z).cls) (hstk : stk = as.reverse ++ zr (some ob) :: st) (hsz : ((zr (some ob) :: as).map zcat).sum ≤ zmax z) (hop : (st.map zcat).sum ≤ 8) (hn : n.1 + (zroom z).cells ≤ (zroom y).cells ∧ n.2 + (zroom z).slots ≤ (zroom y).slots)
    (pre suf : List (Nat × Nat × Nat × Nat)) {a b hp ct : Nat} (htab : zhh y = pre ++ (a, b, hp, ct) :: suf) (hpre : ∀ w ∈ pre, w.2.2.2 ≠ 0 ∧ ∃ j, j < 3 ∧ j ≠ k ∧ Cond.classLink (zname y).cls w.2.2.2 (zEx j) ∈ zgw) (hcov : a ≤ pc ∧ pc < b) (hct : ct ≠ 0 ∧ Cond.classLink (zname y).cls ct (zEx k) ∈ zgw) (hv : zin v) (hH : zHnd y hp i v) (hret : zret y = some .int) : Ev y pc L stk h n (.inl (some (zi v)), h1) := by
  subst hstk
  intro l p e s m args below meth c0 D cy A ad0 k0 J ad H locs ls hC hZ hW hl hL hs
  have hs2 : ∀ w ∈ zr (some ob) :: as, zgo h.1.length w := fun w hw => hs w (by
    rcases List.mem_cons.mp hw with e | e
    · rw [e]; exact List.mem_append_right _ List.mem_cons_self
    · exact List.mem_append_left _ (List.mem_reverse.mpr e))
  have hM := zMet hok hsz hz hs2 hC.1 D cy ad H.size
  have he := zws_get (cy := cy) (ad := ad) ho
  rw [zE_obj hci.1] at he
  have hts := hC.2.2.2.2.2.2.1
  have hrecv := va_recv hW.1.2.2.1 hW.1.1 (zcl hci.1) he
  have hcb : CallW (zroom y) s args (zname y).cls (zname z).cls idx (zname z) (zcode z) (zmax z) (zret z) (zwsM z) (zroom z) (zroom z).cells (zroom z).slots as.length :=
    ⟨callB_of as.length hts (zGood hok) (zwsM_nil hok.1) rfl rfl (hts _ hok.2.2.2.1) (hts _ lk.1) ⟨hok.2.2.2.2.1, hok.2.2.2.2.2, lk.2.2.2⟩ hrm, hts _ lk.2.1, hts _ lk.2.2.1⟩
  refine zCoreX (a := (Value.ref (ad ob) :: as.map (zc ad)).toArray) (rest := st.map (zc ad)) (vx_runV (As := as.map (zc ad)) (Ts := zgw) (C := (zname z).cls) (b := ad ob) ⟨hC.2.1, hC.2.2.1, hC.2.2.2.1, hC.2.2.2.2.2.1, hts⟩ hM hcb ⟨zBlind, by rw [hci.2] at hrecv; exact hrecv, fun U hU hWm => zPre (as := zr (some ob) :: as) hC hZ hW hU hWm⟩ rfl (by rw [List.length_map]) hl.1 ?_ (lv_room (by rw [zcat_sum]; exact hop)) d hn) hC hW (fun ad' H1 locs1 q ce hk hW1 hce hcv hcl => ?_)
  · show (as.reverse ++ zr (some ob) :: st).map (zc ad) = (as.map (zc ad)).reverse ++ Value.ref (ad ob) :: st.map (zc ad)
    rw [List.map_append, List.map_reverse]
    rfl
  have hT : c0.exceptionTable.toList = tableOf pre ++ ⟨a, b, hp, ct⟩ :: tableOf suf := by
    rw [hC.2.2.2.2.2.2.2.2.1, htab]
    simp [tableOf]
  refine vx_catch (own := (zname y).cls) (name := zEx k) hC.2.2.2.2.2.1 (tableOf pre) ⟨a, b, hp, ct⟩ (tableOf suf) hT (fun x hx => ?_) (by simp [covers, hcov.1, hcov.2]) hct.1 (hts _ hct.2) (va_Nw.use (A := args) rfl (hZ.2.2.1.1 k hk)) hce hcv hcl ?_
  · obtain ⟨w, hw, rfl⟩ := List.mem_map.mp hx
    obtain ⟨h1, j, hj, hjk, hlk⟩ := hpre w hw
    exact Or.inr ⟨h1, zEx j, hts _ hlk, hZ.2.2.2.1 k j hk hj (fun e => hjk e.symm)⟩
  · have hret2 : ∀ (ls' : Array Slot) (la : Nat), decode (zcode y) (hp + la) = .ok (.iconst v, 1) → decode (zcode y) (hp + la + 1) = .ok (.ireturn, 1) → W p l e (zroom y) s m args below meth c0 H1 locs1 (n.1 + (zroom z).cells) (n.2 + (zroom z).slots) (zQ below args s y D cy A ad0 k0 J (.inl (some (zi v)), h1)) (F0 m (hp + la) ls' []) := fun ls' la e1 e2 => by
      refine lv_iconst hC.2.1 hC.2.2.1 e1 rfl ?_
      refine W.widen hn.1 hn.2 (vx_ret (W.iret hC.2.1 hC.2.2.1 (hC.2.2.2.2.1.trans hret) (fun t ht hWm => ⟨some (zi v), ad', rfl, rfl, fun w hw => ?_, hW1.end ht hWm.alike⟩) (fun q hq => hW1.2.1.2.2 q hq) e2 hC.2.2.2.2.2.2.2.1))
      cases hw
      exact ⟨hv, trivial⟩
    obtain ⟨hi, la, hst, e1, e2⟩ := hH
    rcases hst with ⟨f, hf, rfl, dh⟩ | ⟨rfl, dh⟩
    · exact lv_astore_n hC.2.1 hC.2.2.1 dh hf hl hi rfl (fun ls' _ => hret2 ls' 1 e1 e2)
    · exact lv_astore hC.2.1 hC.2.2.1 dh hl hi rfl (fun ls' _ => hret2 ls' 2 e1 e2)
end ZR5
/-! methods with handlers -/
def zOkH (z : zM) : Prop := zwsM z = Cond.codeWith (zname z) (zcode z) (zmax z) (zret z) (zhh z) :: zgw ∧ plainName (zname z).cls = true ∧ Cond.codeWith (zname z) (zcode z) (zmax z) (zret z) (zhh z) ∈ zgw ∧ Cond.initialized (zname z).cls ∈ zgw ∧ (zname z).cls ≠ "java/lang/invoke/MethodHandle" ∧ (zname z).cls ≠ "java/lang/invoke/VarHandle"
theorem zMetH {z : zM} {as : List zV} {h : zH} {v : Option zV} {h1 : zH} (hok : zOkH z) (hsz : (as.map zcat).sum ≤ zmax z) (hE : Ev z 0 (zargs 0 as) [] h (0, 0) (.inl v, h1)) (hgo : ∀ v ∈ as, zgo h.1.length v) {l : Launch} (hl : l.stackTraces = false) (D : va_G) (cy : Nat → ClassId) (ad : Nat → Nat) (sz : Nat) :
    Met l (zname z) (zwsM z) (zroom z) (zPc D cy ad h as sz) (zQc D cy (zA ad h sz) ad h.1.length h.2.1 (.inl v, h1)) (zroom z).cells (zroom z).slots (zA ad h sz) := by
  have hM : vx_Met l (zname z) (zwsM z) (zroom z) (zPc D cy ad h as sz) (zQc D cy (zA ad h sz) ad h.1.length h.2.1 (.inl v, h1)) (zXC D cy (zA ad h sz) ad h.1.length h.2.1 (.inl v, h1)) (zroom z).cells (zroom z).slots (zA ad h sz) := by
    refine vx_ofWH (cc := zcode z) (maxL := zmax z) (ret := zret z) hok.2.1 hok.1 ?_
    intro p e s m args below meth c s₁ B hml hPc
    obtain ⟨rfl, hsz', hWh, hSt, hv⟩ := hPc
    subst hsz'
    have hts0 : ∀ w ∈ zwsM z, w.before (as.map (zc ad)).toArray s = true := fun w hw => atoms_spec (ws := zwsM z) B.pre w hw
    have hts : ∀ w ∈ zgw, w.before (as.map (zc ad)).toArray s = true := fun w hw => hts0 w (List.mem_cons_of_mem _ hw)
    have hT : c.exceptionTable.toList = tableOf (zhh z) := vx_table (x := zname z) B (hts0 _ (by rw [hok.1]; exact List.mem_cons_self))
    have hl1 := lv_entry (as.map (zc ad)) (n := zmax z) (by rw [zsl_len]; exact hsz)
    rw [zargs_ls] at hl1
    rw [lg_entry_eq]
    exact hE l p e s m _ below meth c D cy (zA ad h s.heap.size) ad h.1.length h.2.1 ad s.heap [] _ ⟨hl, B.exec, B.bytes, hml, B.returns, findClass_of_methodNamed B.named, hts, B.notSynchronized, hT, (name_of_methodNamed B.named B.method).1, fun q hq => Or.inr hq⟩ hSt ⟨hWh, va_S.rf, fun _ _ => rfl, Nat.le_refl _, fun _ _ => rfl, hv⟩ hl1 (fun q hq => hgo _ (zargs_mem hq)) (fun v hv => by cases hv)
  intro p e ha hc hk s m args below hf happ hP hK
  obtain ⟨k, o, a1, a2, a3, a4⟩ := hM p e ha hc hk s m args below hf happ hP hK
  refine ⟨k, o, a1, a2, a3, ?_⟩
  rcases a4 with g | ⟨q, -, E, ce, L, ⟨k9, ad9, e9, -⟩, -⟩
  · exact g
  · cases e9
theorem zGoodH {z : zM} {own : String} {idx : Nat} (hok : zOkH z) (h1 : Cond.methodLink own idx (zname z) ∈ zgw) (h2 : Cond.static (zname z) ∈ zgw) : GoodIn zgw (va_wsS own idx (zname z) (zwsM z)) := by
  have gd : ∀ w, w ∈ zgw → w ∈ zgw ∧ ((w.onTables && w.keeps) = true ∨ ∃ ty, w = .arrayClass ty) := fun w hw => ⟨hw, good_of_word (List.mem_filter.mp hw).2⟩
  intro w hw
  unfold va_wsS at hw
  rcases List.mem_append.mp hw with g | g
  · simp only [List.mem_cons, List.not_mem_nil, or_false] at g
    rcases g with rfl | rfl | rfl
    · exact gd _ h1
    · exact gd _ h2
    · exact gd _ hok.2.2.2.1
  · rw [hok.1] at g
    rcases List.mem_cons.mp g with rfl | g
    · exact gd _ hok.2.2.1
    · exact gd _ g
theorem Ev.callSH {y : zM} {pc : Nat} {L : List (Nat × zV)} {st : List zV} {h : zH} {n : Nat × Nat} {q : zO} {z : zM} {idx : Nat} {as : List zV} {stk : List zV} {v : Option zV} {h1 : zH} (hz : Ev z 0 (zargs 0 as) [] h (0, 0) (.inl v, h1)) (d : decode (zcode y) pc = .ok (.invokestatic idx, 3)) (hok : zOkH z) (lk : zLkS y z idx as.length) (hrm : zRm y z) (hstk : stk = as.reverse ++ st) (hsz : (as.map zcat).sum ≤ zmax z) (hop : (st.map zcat).sum ≤ 8) (hn : n.1 + (zroom z).cells ≤ (zroom y).cells ∧ n.2 + (zroom z).slots ≤ (zroom y).slots)
    (kk : Ev y (pc + 3) L (v.toList ++ st) h1 (n.1 + (zroom z).cells, n.2 + (zroom z).slots) q) : Ev y pc L stk h n q := by
  subst hstk
  intro l p e s m args below meth c0 D cy A ad0 k0 J ad H locs ls hC hZ hW hl hL hs
  have hs2 : ∀ w ∈ as, zgo h.1.length w := fun w hw => hs w (List.mem_append_left _ (List.mem_reverse.mpr hw))
  have hs3 : ∀ w ∈ st, zgo h.1.length w := fun w hw => hs w (List.mem_append_right _ hw)
  have hM := zMetH hok hsz hz hs2 hC.1 D cy ad H.size
  have hts := hC.2.2.2.2.2.2.1
  refine zCore (a := (as.map (zc ad)).toArray) (vx_runSW (As := as.map (zc ad)) (Ts := zgw) ⟨hC.2.1, hC.2.2.1, hC.2.2.2.1, hC.2.2.2.2.2.1, hts⟩ hM (vx_cwSW as.length hts (zGoodH hok lk.1 lk.2.1) hok.1 rfl rfl ⟨hok.2.2.2.2.1, hok.2.2.2.2.2, lk.2.2⟩ hrm) ⟨zBlind, fun U hU hWm => zPre (as := as) hC hZ hW hU hWm⟩ rfl (by rw [List.length_map]) hl.1 ?_ (lv_room (by rw [zcat_sum]; exact hop)) d hn) hC hZ hW hl hL hs3 kk
  show (as.reverse ++ st).map (zc ad) = (as.map (zc ad)).reverse ++ st.map (zc ad)
  rw [List.map_append, List.map_reverse]
