theorem s_of2 {h : zH} {I' : Nat → Int → Int} (hR : zRM h) (e : I' 261 = h.2.1 261) {k w : Int} (hk : 0 ≤ k ∧ k < 24) (hw : 0 ≤ w ∧ w < 7) : Ev M_X7_of 0 [(0, zr (some 260)), (1, zi k), (2, zi w)] [] (h.1, I', h.2.2) (0, 0) (.inl (some (zi (rf h k w))), (h.1, I', h.2.2)) := by
  have k9 := s_of (h := (h.1, I', h.2.2)) (hR.up I') hk hw
  have e2 : rf (h.1, I', h.2.2) k w = rf h k w := congrFun e _
  rw [e2] at k9
  exact k9
theorem s_find2 {h : zH} {I' : Nat → Int → Int} (hR : zRM h) (e : I' 261 = h.2.1 261) {n : Nat} {x : Int} (hn : h.2.1 261 0 = n) (hn24 : n ≤ 24) : Ev M_X7_find 0 [(0, zr (some 260)), (1, zi x)] [] (h.1, I', h.2.2) (0, 0) (.inl (some (zi (zfnd (fun j => rf h j 0) x n))), (h.1, I', h.2.2)) := by
  have k9 := s_find (h := (h.1, I', h.2.2)) (hR.up I') (x := x) ((congrFun e 0).trans hn) hn24
  have e2 : (fun j => rf (h.1, I', h.2.2) j 0) = fun j => rf h j 0 := funext fun j => congrFun e _
  rw [e2] at k9
  exact k9
theorem s_isIn2 {h : zH} {I' : Nat → Int → Int} (hR : zRM h) (e : I' 261 = h.2.1 261) {k gr r : Int} (hk : 0 ≤ k ∧ k < 24) : Ev M_X7_isIn 0 [(0, zr (some 260)), (1, zi k), (2, zi gr), (3, zi r)] [] (h.1, I', h.2.2) (0, 0) (.inl (some (zi (if rf h k 2 = gr ∧ rf h k 3 = r then 1 else 0))), (h.1, I', h.2.2)) := by
  have k9 := s_isIn (h := (h.1, I', h.2.2)) (hR.up I') (gr := gr) (r := r) hk
  have e2 : rf (h.1, I', h.2.2) k 2 = rf h k 2 := congrFun e _
  have e3 : rf (h.1, I', h.2.2) k 3 = rf h k 3 := congrFun e _
  rw [e2, e3] at k9
  exact k9
theorem s_rowLength2 {h : zH} {I' : Nat → Int → Int} (hR : zRM h) (e : I' 261 = h.2.1 261) {n : Nat} {gr r : Int} (hn : h.2.1 261 0 = n) (hn24 : n ≤ 24) (hs : ∀ m : Nat, m ≤ n → -1000000000 ≤ zsum (fun j => if rf h j 2 = gr ∧ rf h j 3 = r then I' 263 j else 0) m ∧ zsum (fun j => if rf h j 2 = gr ∧ rf h j 3 = r then I' 263 j else 0) m ≤ 1000000000) : Ev M_X7_rowLength 0 [(0, zr (some 260)), (1, zi gr), (2, zi r)] [] (h.1, I', h.2.2) (0, 0) (.inl (some (zi (mrl n (rf h) (I' 263) gr r))), (h.1, I', h.2.2)) := by
  have e2 : (fun j => if rf (h.1, I', h.2.2) j 2 = gr ∧ rf (h.1, I', h.2.2) j 3 = r then (h.1, I', h.2.2).2.1 263 j else 0) = fun j => if rf h j 2 = gr ∧ rf h j 3 = r then I' 263 j else 0 := funext fun j => by
    have a2 : rf (h.1, I', h.2.2) j 2 = rf h j 2 := congrFun e _
    have a3 : rf (h.1, I', h.2.2) j 3 = rf h j 3 := congrFun e _
    rw [a2, a3]
  have k9 := s_rowLength (h := (h.1, I', h.2.2)) (hR.up I') (gr := gr) (r := r) ((congrFun e 0).trans hn) hn24 (by rw [e2]; exact hs)
  rw [e2] at k9
  exact k9
def zcp (I : Nat → Int → Int) (a b : Int) (m : Nat) : Nat → Int → Int := fun o k => if o = 261 ∧ b ≤ k ∧ k < b + m then I 261 (k - b + a) else I o k
theorem zcp_0 (I : Nat → Int → Int) (a b : Int) : zcp I a b 0 = I := by
  funext o k
  unfold zcp
  rw [if_neg (by omega)]
theorem zcp_s {I : Nat → Int → Int} {a b : Int} {m : Nat} (hd : a + 171 ≤ b ∨ b + 171 ≤ a) (hm : m < 171) : zup (zcp I a b m) 261 (b + m) (zcp I a b m 261 (a + m)) = zcp I a b (m + 1) := by
  funext o k
  unfold zup
  by_cases h1 : o = 261 ∧ k = b + m
  · rw [if_pos h1]
    unfold zcp
    rw [if_neg (by omega), if_pos ⟨h1.1, by omega⟩]
    rw [show k - b + a = a + m by omega]
  · rw [if_neg h1]
    unfold zcp
    by_cases h2 : o = 261 ∧ b ≤ k ∧ k < b + m
    · rw [if_pos h2, if_pos (by omega)]
    · rw [if_neg h2, if_neg (by omega)]
theorem s_copies_loop {h : zH} (hR : zRM h) {a b : Int} (ha : 0 ≤ a ∧ a + 171 ≤ 1026) (hb : 0 ≤ b ∧ b + 171 ≤ 1026) (hd : a + 171 ≤ b ∨ b + 171 ≤ a) : ∀ (j m : Nat), m ≤ 171 → 171 - m = j → Ev M_X7_copies 2 [(0, zr (some 260)), (1, zi a), (2, zi b), (3, zi (m : Int))] [] (h.1, zcp h.2.1 a b m, h.2.2) (0, 0) (.inl none, (h.1, zcp h.2.1 a b 171, h.2.2)) := by
  intro j
  induction j with
  | zero =>
    intro m hm hj
    have hmn : m = 171 := by omega
    subst hmn
    refine Ev.iload_n (pc := 2) (n := (0, 0)) (i := 3) dX7_copies_2 rfl rfl ?_
    refine Ev.sipush (pc := 3) (n := (0, 0)) dX7_copies_3 ?_
    refine Ev.icmp_ge (pc := 6) (n := (0, 0)) (tgt := 31) dX7_copies_6 rfl (fun hc => ?_) (fun hc => absurd hc (by omega))
    exact Ev.vret dX7_copies_31 rfl ⟨(Nat.le_of_ble_eq_true rfl), (Nat.le_of_ble_eq_true rfl)⟩
  | succ j ih =>
    intro m hm hj
    refine Ev.iload_n (pc := 2) (n := (0, 0)) (i := 3) dX7_copies_2 rfl rfl ?_
    refine Ev.sipush (pc := 3) (n := (0, 0)) dX7_copies_3 ?_
    refine Ev.icmp_ge (pc := 6) (n := (0, 0)) (tgt := 31) dX7_copies_6 rfl (fun hc => absurd hc (by omega)) (fun hc => ?_)
    refine Ev.aload_n (pc := 9) (n := (0, 0)) (i := 0) dX7_copies_9 rfl rfl ?_
    refine Ev.gR (pc := 10) (n := (0, 0)) (r := (some 261)) dX7_copies_10 fl_X7_7 (zk_at hR.1 rfl) rfl hR.2.1 ?_
    refine Ev.iload_n (pc := 13) (n := (0, 0)) (i := 2) dX7_copies_13 rfl rfl ?_
    refine Ev.iload_n (pc := 14) (n := (0, 0)) (i := 3) dX7_copies_14 rfl rfl ?_
    refine Ev.iadd (pc := 15) (n := (0, 0)) dX7_copies_15 ⟨by omega, by omega⟩ ?_
    refine Ev.aload_n (pc := 16) (n := (0, 0)) (i := 0) dX7_copies_16 rfl rfl ?_
    refine Ev.gR (pc := 17) (n := (0, 0)) (r := (some 261)) dX7_copies_17 fl_X7_7 (zk_at hR.1 rfl) rfl hR.2.1 ?_
    refine Ev.iload_n (pc := 20) (n := (0, 0)) (i := 1) dX7_copies_20 rfl rfl ?_
    refine Ev.iload_n (pc := 21) (n := (0, 0)) (i := 3) dX7_copies_21 rfl rfl ?_
    refine Ev.iadd (pc := 22) (n := (0, 0)) dX7_copies_22 ⟨by omega, by omega⟩ ?_
    refine Ev.ia (pc := 23) (n := (0, 0)) (x := (zcp h.2.1 a b m 261 (a + m))) dX7_copies_23 (zk_at hR.1 rfl) (by omega) (by omega) rfl ?_
    refine Ev.iast (pc := 24) (n := (0, 0)) dX7_copies_24 (zk_at hR.1 rfl) (by omega) (by omega) ?_
    refine Ev.iinc (pc := 25) (n := (0, 0)) (L' := [(3, zi ((m : Int) + 1)), (0, zr (some 260)), (1, zi a), (2, zi b)]) dX7_copies_25 rfl (Nat.le_of_ble_eq_true rfl) ⟨by omega, by omega⟩ rfl ?_
    refine Ev.goto (pc := 28) (n := (0, 0)) (tgt := 2) dX7_copies_28 rfl ?_
    refine Ev.perm [1, 2, 3, 0] rfl ?_
    have k9 := ih (m + 1) (by omega) (by omega)
    rw [← zcp_s hd (by omega)] at k9
    exact k9
theorem s_copies {h : zH} (hR : zRM h) {a b : Int} (ha : 0 ≤ a ∧ a + 171 ≤ 1026) (hb : 0 ≤ b ∧ b + 171 ≤ 1026) (hd : a + 171 ≤ b ∨ b + 171 ≤ a) : Ev M_X7_copies 0 [(0, zr (some 260)), (1, zi a), (2, zi b)] [] h (0, 0) (.inl none, (h.1, zcp h.2.1 a b 171, h.2.2)) := by
  refine Ev.iconst (pc := 0) (n := (0, 0)) dX7_copies_0 ?_
  refine Ev.istore_n (pc := 1) (n := (0, 0)) (i := 3) (L' := [(3, zi 0), (0, zr (some 260)), (1, zi a), (2, zi b)]) dX7_copies_1 rfl (Nat.le_of_ble_eq_true rfl) rfl ?_
  refine Ev.perm [1, 2, 3, 0] rfl ?_
  have k9 := s_copies_loop hR ha hb hd 171 0 (by omega) (by omega)
  rw [zcp_0] at k9
  exact k9
def zsav (I : Nat → Int → Int) : Nat → Int → Int :=
  if I 260 1 = 4 then zcp (zup (zup (zcp (zcp (zcp I 342 171 171) 513 342 171) 684 513 171) 260 1 3) 260 1 4) 0 684 171
  else zcp (zup I 260 1 (I 260 1 + 1)) 0 (171 * (I 260 1 + 1)) 171
theorem s_saves {h : zH} (hR : zRM h) (hk : 0 ≤ h.2.1 260 1 ∧ h.2.1 260 1 ≤ 4) : Ev M_X7_saves 0 [(0, zr (some 260))] [] h (0, 0) (.inl none, (h.1, zsav h.2.1, h.2.2)) := by
  refine Ev.aload_n (pc := 0) (n := (0, 0)) (i := 0) dX7_saves_0 rfl rfl ?_
  refine Ev.gI (pc := 1) (n := (0, 0)) (x := (h).2.1 260 1) dX7_saves_1 fl_X7_41 (zk_at hR.1 rfl) rfl rfl ?_
  refine Ev.iconst (pc := 4) (n := (0, 0)) dX7_saves_4 ?_
  refine Ev.icmp_ne (pc := 5) (n := (0, 0)) (tgt := 47) dX7_saves_5 rfl (fun hc => ?_) (fun hc => ?_)
  · skip
    unfold zsav
    rw [if_neg hc]
    refine Ev.aload_n (pc := 47) (n := (0, 0)) (i := 0) dX7_saves_47 rfl rfl ?_
    refine Ev.dup (pc := 48) (n := (0, 0)) dX7_saves_48 rfl ?_
    refine Ev.gI (pc := 49) (n := (0, 0)) (x := (h).2.1 260 1) dX7_saves_49 fl_X7_41 (zk_at hR.1 rfl) rfl rfl ?_
    refine Ev.iconst (pc := 52) (n := (0, 0)) dX7_saves_52 ?_
    refine Ev.iadd (pc := 53) (n := (0, 0)) dX7_saves_53 ⟨by omega, by omega⟩ ?_
    refine Ev.putI (pc := 54) (n := (0, 0)) dX7_saves_54 fl_X7_41 (zk_at hR.1 rfl) rfl rfl (fun h9 => by cases h9) ?_
    refine Ev.aload_n (pc := 57) (n := (0, 0)) (i := 0) dX7_saves_57 rfl rfl ?_
    refine Ev.iconst (pc := 58) (n := (0, 0)) dX7_saves_58 ?_
    refine Ev.sipush (pc := 59) (n := (0, 0)) dX7_saves_59 ?_
    refine Ev.aload_n (pc := 62) (n := (0, 0)) (i := 0) dX7_saves_62 rfl rfl ?_
    refine Ev.gI (pc := 63) (n := (0, 0)) (x := (h.2.1 260 1 + 1)) dX7_saves_63 fl_X7_41 (zk_at hR.1 rfl) rfl (by simp [zup]) ?_
    refine Ev.imul (pc := 66) (n := (0, 0)) dX7_saves_66 ⟨by omega, by omega⟩ ?_
    refine Ev.callV (pc := 67) (n := (0, 0)) (ob := 260) (as := [zi 0, zi (171 * (h.2.1 260 1 + 1))]) (st := []) (s_copies (h := ((h).1, zup (h).2.1 260 1 (((h).2.1 260 1) + 1), (h).2.2)) hR (a := 0) (b := 171 * (h.2.1 260 1 + 1)) (by omega) (by omega) (by omega)) dX7_saves_67 ok_X7_copies (lk_X7_45 rfl) ⟨(Nat.le_of_ble_eq_true rfl), (Nat.le_of_ble_eq_true rfl)⟩ (zk_at hR.1 rfl) ⟨by decide, rfl⟩ rfl (Nat.le_of_ble_eq_true rfl) (Nat.le_of_ble_eq_true rfl) ⟨(Nat.le_of_ble_eq_true rfl), (Nat.le_of_ble_eq_true rfl)⟩ ?_
    exact Ev.vret dX7_saves_70 rfl ⟨(Nat.le_of_ble_eq_true rfl), (Nat.le_of_ble_eq_true rfl)⟩
  · skip
    unfold zsav
    rw [if_pos hc]
    refine Ev.iconst (pc := 8) (n := (0, 0)) dX7_saves_8 ?_
    refine Ev.istore_n (pc := 9) (n := (0, 0)) (i := 1) (L' := [(1, zi 1), (0, zr (some 260))]) dX7_saves_9 rfl (Nat.le_of_ble_eq_true rfl) rfl ?_
    refine Ev.perm [1, 0] rfl ?_
    refine Ev.iload_n (pc := 10) (n := (0, 0)) (i := 1) dX7_saves_10 rfl rfl ?_
    refine Ev.iconst (pc := 11) (n := (0, 0)) dX7_saves_11 ?_
    refine Ev.icmp_ge (pc := 12) (n := (0, 0)) (tgt := 37) dX7_saves_12 rfl (fun hc2 => absurd hc2 (by omega)) (fun hc2 => ?_)
    refine Ev.aload_n (pc := 15) (n := (0, 0)) (i := 0) dX7_saves_15 rfl rfl ?_
    refine Ev.sipush (pc := 16) (n := (0, 0)) dX7_saves_16 ?_
    refine Ev.iload_n (pc := 19) (n := (0, 0)) (i := 1) dX7_saves_19 rfl rfl ?_
    refine Ev.iconst (pc := 20) (n := (0, 0)) dX7_saves_20 ?_
    refine Ev.iadd (pc := 21) (n := (0, 0)) dX7_saves_21 ⟨by omega, by omega⟩ ?_
    refine Ev.imul (pc := 22) (n := (0, 0)) dX7_saves_22 ⟨by omega, by omega⟩ ?_
    refine Ev.sipush (pc := 23) (n := (0, 0)) dX7_saves_23 ?_
    refine Ev.iload_n (pc := 26) (n := (0, 0)) (i := 1) dX7_saves_26 rfl rfl ?_
    refine Ev.imul (pc := 27) (n := (0, 0)) dX7_saves_27 ⟨by omega, by omega⟩ ?_
    refine Ev.callV (pc := 28) (n := (0, 0)) (ob := 260) (as := [zi (171 * (1 + 1)), zi (171 * 1)]) (st := []) (s_copies (h := h) hR (a := 342) (b := 171) (by omega) (by omega) (by omega)) dX7_saves_28 ok_X7_copies (lk_X7_45 rfl) ⟨(Nat.le_of_ble_eq_true rfl), (Nat.le_of_ble_eq_true rfl)⟩ (zk_at hR.1 rfl) ⟨by decide, rfl⟩ rfl (Nat.le_of_ble_eq_true rfl) (Nat.le_of_ble_eq_true rfl) ⟨(Nat.le_of_ble_eq_true rfl), (Nat.le_of_ble_eq_true rfl)⟩ ?_
    refine Ev.iinc (pc := 31) (n := (0, 0)) (L' := [(1, zi 2), (0, zr (some 260))]) dX7_saves_31 rfl (Nat.le_of_ble_eq_true rfl) ⟨by omega, by omega⟩ rfl ?_
    refine Ev.goto (pc := 34) (n := (0, 0)) (tgt := 10) dX7_saves_34 rfl ?_
    refine Ev.perm [1, 0] rfl ?_
    refine Ev.iload_n (pc := 10) (n := (0, 0)) (i := 1) dX7_saves_10 rfl rfl ?_
    refine Ev.iconst (pc := 11) (n := (0, 0)) dX7_saves_11 ?_
    refine Ev.icmp_ge (pc := 12) (n := (0, 0)) (tgt := 37) dX7_saves_12 rfl (fun hc2 => absurd hc2 (by omega)) (fun hc2 => ?_)
    refine Ev.aload_n (pc := 15) (n := (0, 0)) (i := 0) dX7_saves_15 rfl rfl ?_
    refine Ev.sipush (pc := 16) (n := (0, 0)) dX7_saves_16 ?_
    refine Ev.iload_n (pc := 19) (n := (0, 0)) (i := 1) dX7_saves_19 rfl rfl ?_
    refine Ev.iconst (pc := 20) (n := (0, 0)) dX7_saves_20 ?_
    refine Ev.iadd (pc := 21) (n := (0, 0)) dX7_saves_21 ⟨by omega, by omega⟩ ?_
    refine Ev.imul (pc := 22) (n := (0, 0)) dX7_saves_22 ⟨by omega, by omega⟩ ?_
    refine Ev.sipush (pc := 23) (n := (0, 0)) dX7_saves_23 ?_
    refine Ev.iload_n (pc := 26) (n := (0, 0)) (i := 1) dX7_saves_26 rfl rfl ?_
    refine Ev.imul (pc := 27) (n := (0, 0)) dX7_saves_27 ⟨by omega, by omega⟩ ?_
    refine Ev.callV (pc := 28) (n := (0, 0)) (ob := 260) (as := [zi (171 * (2 + 1)), zi (171 * 2)]) (st := []) (s_copies (h := (h.1, (zcp h.2.1 342 171 171), h.2.2)) hR (a := 513) (b := 342) (by omega) (by omega) (by omega)) dX7_saves_28 ok_X7_copies (lk_X7_45 rfl) ⟨(Nat.le_of_ble_eq_true rfl), (Nat.le_of_ble_eq_true rfl)⟩ (zk_at hR.1 rfl) ⟨by decide, rfl⟩ rfl (Nat.le_of_ble_eq_true rfl) (Nat.le_of_ble_eq_true rfl) ⟨(Nat.le_of_ble_eq_true rfl), (Nat.le_of_ble_eq_true rfl)⟩ ?_
    refine Ev.iinc (pc := 31) (n := (0, 0)) (L' := [(1, zi 3), (0, zr (some 260))]) dX7_saves_31 rfl (Nat.le_of_ble_eq_true rfl) ⟨by omega, by omega⟩ rfl ?_
    refine Ev.goto (pc := 34) (n := (0, 0)) (tgt := 10) dX7_saves_34 rfl ?_
    refine Ev.perm [1, 0] rfl ?_
    refine Ev.iload_n (pc := 10) (n := (0, 0)) (i := 1) dX7_saves_10 rfl rfl ?_
    refine Ev.iconst (pc := 11) (n := (0, 0)) dX7_saves_11 ?_
    refine Ev.icmp_ge (pc := 12) (n := (0, 0)) (tgt := 37) dX7_saves_12 rfl (fun hc2 => absurd hc2 (by omega)) (fun hc2 => ?_)
    refine Ev.aload_n (pc := 15) (n := (0, 0)) (i := 0) dX7_saves_15 rfl rfl ?_
    refine Ev.sipush (pc := 16) (n := (0, 0)) dX7_saves_16 ?_
    refine Ev.iload_n (pc := 19) (n := (0, 0)) (i := 1) dX7_saves_19 rfl rfl ?_
    refine Ev.iconst (pc := 20) (n := (0, 0)) dX7_saves_20 ?_
    refine Ev.iadd (pc := 21) (n := (0, 0)) dX7_saves_21 ⟨by omega, by omega⟩ ?_
    refine Ev.imul (pc := 22) (n := (0, 0)) dX7_saves_22 ⟨by omega, by omega⟩ ?_
    refine Ev.sipush (pc := 23) (n := (0, 0)) dX7_saves_23 ?_
    refine Ev.iload_n (pc := 26) (n := (0, 0)) (i := 1) dX7_saves_26 rfl rfl ?_
    refine Ev.imul (pc := 27) (n := (0, 0)) dX7_saves_27 ⟨by omega, by omega⟩ ?_
    refine Ev.callV (pc := 28) (n := (0, 0)) (ob := 260) (as := [zi (171 * (3 + 1)), zi (171 * 3)]) (st := []) (s_copies (h := (h.1, (zcp (zcp h.2.1 342 171 171) 513 342 171), h.2.2)) hR (a := 684) (b := 513) (by omega) (by omega) (by omega)) dX7_saves_28 ok_X7_copies (lk_X7_45 rfl) ⟨(Nat.le_of_ble_eq_true rfl), (Nat.le_of_ble_eq_true rfl)⟩ (zk_at hR.1 rfl) ⟨by decide, rfl⟩ rfl (Nat.le_of_ble_eq_true rfl) (Nat.le_of_ble_eq_true rfl) ⟨(Nat.le_of_ble_eq_true rfl), (Nat.le_of_ble_eq_true rfl)⟩ ?_
    refine Ev.iinc (pc := 31) (n := (0, 0)) (L' := [(1, zi 4), (0, zr (some 260))]) dX7_saves_31 rfl (Nat.le_of_ble_eq_true rfl) ⟨by omega, by omega⟩ rfl ?_
    refine Ev.goto (pc := 34) (n := (0, 0)) (tgt := 10) dX7_saves_34 rfl ?_
    refine Ev.perm [1, 0] rfl ?_
    refine Ev.iload_n (pc := 10) (n := (0, 0)) (i := 1) dX7_saves_10 rfl rfl ?_
    refine Ev.iconst (pc := 11) (n := (0, 0)) dX7_saves_11 ?_
    refine Ev.icmp_ge (pc := 12) (n := (0, 0)) (tgt := 37) dX7_saves_12 rfl (fun hc2 => ?_) (fun hc2 => absurd hc2 (by omega))
    refine Ev.aload_n (pc := 37) (n := (0, 0)) (i := 0) dX7_saves_37 rfl rfl ?_
    refine Ev.dup (pc := 38) (n := (0, 0)) dX7_saves_38 rfl ?_
    refine Ev.gI (pc := 39) (n := (0, 0)) (x := 4) dX7_saves_39 fl_X7_41 (zk_at hR.1 rfl) rfl hc ?_
    refine Ev.iconst (pc := 42) (n := (0, 0)) dX7_saves_42 ?_
    refine Ev.isub (pc := 43) (n := (0, 0)) dX7_saves_43 ⟨by omega, by omega⟩ ?_
    refine Ev.putI (pc := 44) (n := (0, 0)) dX7_saves_44 fl_X7_41 (zk_at hR.1 rfl) rfl rfl (fun h9 => by cases h9) ?_
    refine Ev.aload_n (pc := 47) (n := (0, 0)) (i := 0) dX7_saves_47 rfl rfl ?_
    refine Ev.dup (pc := 48) (n := (0, 0)) dX7_saves_48 rfl ?_
    refine Ev.gI (pc := 49) (n := (0, 0)) (x := 3) dX7_saves_49 fl_X7_41 (zk_at hR.1 rfl) rfl (by simp [zup]) ?_
    refine Ev.iconst (pc := 52) (n := (0, 0)) dX7_saves_52 ?_
    refine Ev.iadd (pc := 53) (n := (0, 0)) dX7_saves_53 ⟨by omega, by omega⟩ ?_
    refine Ev.putI (pc := 54) (n := (0, 0)) dX7_saves_54 fl_X7_41 (zk_at hR.1 rfl) rfl rfl (fun h9 => by cases h9) ?_
    refine Ev.aload_n (pc := 57) (n := (0, 0)) (i := 0) dX7_saves_57 rfl rfl ?_
    refine Ev.iconst (pc := 58) (n := (0, 0)) dX7_saves_58 ?_
    refine Ev.sipush (pc := 59) (n := (0, 0)) dX7_saves_59 ?_
    refine Ev.aload_n (pc := 62) (n := (0, 0)) (i := 0) dX7_saves_62 rfl rfl ?_
    refine Ev.gI (pc := 63) (n := (0, 0)) (x := 4) dX7_saves_63 fl_X7_41 (zk_at hR.1 rfl) rfl (by simp [zup]) ?_
    refine Ev.imul (pc := 66) (n := (0, 0)) dX7_saves_66 ⟨by omega, by omega⟩ ?_
    refine Ev.callV (pc := 67) (n := (0, 0)) (ob := 260) (as := [zi 0, zi (171 * 4)]) (st := []) (s_copies (h := (((((h.1, (zcp (zcp (zcp h.2.1 342 171 171) 513 342 171) 684 513 171), h.2.2)).1, zup ((h.1, (zcp (zcp (zcp h.2.1 342 171 171) 513 342 171) 684 513 171), h.2.2)).2.1 260 1 (4 - 1), ((h.1, (zcp (zcp (zcp h.2.1 342 171 171) 513 342 171) 684 513 171), h.2.2)).2.2)).1, zup ((((h.1, (zcp (zcp (zcp h.2.1 342 171 171) 513 342 171) 684 513 171), h.2.2)).1, zup ((h.1, (zcp (zcp (zcp h.2.1 342 171 171) 513 342 171) 684 513 171), h.2.2)).2.1 260 1 (4 - 1), ((h.1, (zcp (zcp (zcp h.2.1 342 171 171) 513 342 171) 684 513 171), h.2.2)).2.2)).2.1 260 1 (3 + 1), ((((h.1, (zcp (zcp (zcp h.2.1 342 171 171) 513 342 171) 684 513 171), h.2.2)).1, zup ((h.1, (zcp (zcp (zcp h.2.1 342 171 171) 513 342 171) 684 513 171), h.2.2)).2.1 260 1 (4 - 1), ((h.1, (zcp (zcp (zcp h.2.1 342 171 171) 513 342 171) 684 513 171), h.2.2)).2.2)).2.2)) hR (a := 0) (b := 684) (by omega) (by omega) (by omega)) dX7_saves_67 ok_X7_copies (lk_X7_45 rfl) ⟨(Nat.le_of_ble_eq_true rfl), (Nat.le_of_ble_eq_true rfl)⟩ (zk_at hR.1 rfl) ⟨by decide, rfl⟩ rfl (Nat.le_of_ble_eq_true rfl) (Nat.le_of_ble_eq_true rfl) ⟨(Nat.le_of_ble_eq_true rfl), (Nat.le_of_ble_eq_true rfl)⟩ ?_
    exact Ev.vret dX7_saves_70 rfl ⟨(Nat.le_of_ble_eq_true rfl), (Nat.le_of_ble_eq_true rfl)⟩
theorem WF.chu {n : Nat} {f : zF} {dep : Nat → Nat} {B : Int} (h : WF n f dep B) : ∀ p q x : Nat, p < n → q < n → f x 2 = f p 0 → f x 2 = f q 0 → p = q := fun p q x hp hq e1 e2 => h.num_inj hp hq (e1.symm.trans e2)
theorem zup_ag {I : Nat → Int → Int} {I' : Nat → Int → Int} {a : Nat} {k v : Int} (h : ∀ o, o ≠ a → I' o = I o) : ∀ o, o ≠ a → zup I' a k v o = I o := fun o ho => (funext fun j => zup_o I' k j v ho).trans (h o ho)
theorem s_layOrder_loop {h : zH} (hR : zRM h) {n : Nat} {dep : Nat → Nat} {B : Int} (hn : h.2.1 261 0 = n) (hw : WF n (rf h) dep B) : ∀ (j i many : Nat) (I' : Nat → Int → Int) (ord : Nat → Nat), n - i = j → i ≤ many → (∀ o, o ≠ 267 → I' o = h.2.1 o) → (∀ a : Nat, a < many → I' 267 a = ord a) → BInv n (fun p x => rf h x 2 = rf h p 0) ord i 0 many →
  ∃ (I2 : Nat → Int → Int) (ord2 : Nat → Nat), (∀ o, o ≠ 267 → I2 o = h.2.1 o) ∧ (∀ a : Nat, a < n → I2 267 a = ord2 a) ∧ BInv n (fun p x => rf h x 2 = rf h p 0) ord2 n 0 n ∧ Ev M_X7_layOrder 11 [(0, zr (some 260)), (1, zi (many : Int)), (2, zi (i : Int))] [] (h.1, I', h.2.2) (0, 0) (.inl none, (h.1, I2, h.2.2)) := by
  intro j
  have hn24 := hw.1.2
  induction j with
  | zero =>
    intro i many I' ord hj him hI ho hB
    have h1 := hB.le
    have e1 : i = n := by omega
    have e2 : many = n := by omega
    subst e1; subst e2
    refine ⟨I', ord, hI, ho, hB, ?_⟩
    refine Ev.iload_n (pc := 11) (n := (0, 0)) (i := 2) dX7_layOrder_11 rfl rfl ?_
    refine Ev.iload_n (pc := 12) (n := (0, 0)) (i := 1) dX7_layOrder_12 rfl rfl ?_
    refine Ev.icmp_ge (pc := 13) (n := (0, 0)) (tgt := 76) dX7_layOrder_13 rfl (fun hc => ?_) (fun hc => absurd hc (by omega))
    exact Ev.vret dX7_layOrder_76 rfl ⟨(Nat.le_of_ble_eq_true rfl), (Nat.le_of_ble_eq_true rfl)⟩
  | succ j ih =>
    intro i many I' ord hj him hI ho hB
    by_cases hlt : i < many
    · have e261 : I' 261 = h.2.1 261 := hI 261 (by decide)
      have hi1 := hB.1 i hlt
      suffices K : ∀ (jc c many : Nat) (I' : Nat → Int → Int) (ord : Nat → Nat), n - c = jc → c ≤ n → i < many → (∀ o, o ≠ 267 → I' o = h.2.1 o) → (∀ a : Nat, a < many → I' 267 a = ord a) → BInv n (fun p x => rf h x 2 = rf h p 0) ord i c many →
          ∃ (I2 : Nat → Int → Int) (ord2 : Nat → Nat), (∀ o, o ≠ 267 → I2 o = h.2.1 o) ∧ (∀ a : Nat, a < n → I2 267 a = ord2 a) ∧ BInv n (fun p x => rf h x 2 = rf h p 0) ord2 n 0 n ∧ Ev M_X7_layOrder 31 [(0, zr (some 260)), (1, zi (many : Int)), (2, zi (i : Int)), (3, zi (rf h (ord i) 0)), (4, zi (c : Int))] [] (h.1, I', h.2.2) (0, 0) (.inl none, (h.1, I2, h.2.2)) by
        obtain ⟨I2, ord2, r1, r2, r3, r4⟩ := K n 0 many I' ord (by omega) (by omega) hlt hI ho hB
        refine ⟨I2, ord2, r1, r2, r3, ?_⟩
        refine Ev.iload_n (pc := 11) (n := (0, 0)) (i := 2) dX7_layOrder_11 rfl rfl ?_
        refine Ev.iload_n (pc := 12) (n := (0, 0)) (i := 1) dX7_layOrder_12 rfl rfl ?_
        refine Ev.icmp_ge (pc := 13) (n := (0, 0)) (tgt := 76) dX7_layOrder_13 rfl (fun hc => absurd hc (by omega)) (fun hc => ?_)
        refine Ev.aload_n (pc := 16) (n := (0, 0)) (i := 0) dX7_layOrder_16 rfl rfl ?_
        refine Ev.aload_n (pc := 17) (n := (0, 0)) (i := 0) dX7_layOrder_17 rfl rfl ?_
        refine Ev.gR (pc := 18) (n := (0, 0)) (r := (some 267)) dX7_layOrder_18 fl_X7_28 (zk_at hR.1 rfl) rfl hR.2.2.2.2.2.2.2.1 ?_
        refine Ev.iload_n (pc := 21) (n := (0, 0)) (i := 2) dX7_layOrder_21 rfl rfl ?_
        refine Ev.ia (pc := 22) (n := (0, 0)) (x := (ord i : Int)) dX7_layOrder_22 (zk_at hR.1 rfl) (by omega) (by omega) (ho i hlt) ?_
        refine Ev.iconst (pc := 23) (n := (0, 0)) dX7_layOrder_23 ?_
        refine Ev.callV (pc := 24) (n := (0, 0)) (ob := 260) (as := [zi (ord i : Int), zi 0]) (st := []) (s_of2 hR e261 ⟨by omega, by omega⟩ ⟨by decide, by decide⟩) dX7_layOrder_24 ok_X7_of (lk_X7_49 rfl) ⟨(Nat.le_of_ble_eq_true rfl), (Nat.le_of_ble_eq_true rfl)⟩ (zk_at hR.1 rfl) ⟨by decide, rfl⟩ rfl (Nat.le_of_ble_eq_true rfl) (Nat.le_of_ble_eq_true rfl) ⟨(Nat.le_of_ble_eq_true rfl), (Nat.le_of_ble_eq_true rfl)⟩ ?_
        refine Ev.istore_n (pc := 27) (n := (0, 0)) (i := 3) (L' := [(3, zi (rf h (ord i : Int) 0)), (0, zr (some 260)), (1, zi (many : Int)), (2, zi (i : Int))]) dX7_layOrder_27 rfl (Nat.le_of_ble_eq_true rfl) rfl ?_
        refine Ev.iconst (pc := 28) (n := (0, 0)) dX7_layOrder_28 ?_
        refine Ev.istore (pc := 29) (n := (0, 0)) (i := 4) (L' := [(4, zi 0), (3, zi (rf h (ord i : Int) 0)), (0, zr (some 260)), (1, zi (many : Int)), (2, zi (i : Int))]) dX7_layOrder_29 (Nat.le_of_ble_eq_true rfl) rfl ?_
        refine Ev.perm [2, 3, 4, 1, 0] rfl ?_
        exact r4
      clear hI ho hB e261 hi1 hlt him I' ord many
      intro jc
      induction jc with
      | zero =>
        intro c many I' ord hj2 hcn him hI ho hB
        have e1 : c = n := by omega
        subst e1
        have e261 : I' 261 = h.2.1 261 := hI 261 (by decide)
        obtain ⟨I2, ord2, r1, r2, r3, r4⟩ := ih (i + 1) many I' ord (by omega) (by omega) hI ho (hB.next (Nat.le_refl _) (Nat.zero_le _))
        refine ⟨I2, ord2, r1, r2, r3, ?_⟩
        refine Ev.iload (pc := 31) (n := (0, 0)) dX7_layOrder_31 rfl ?_
        refine Ev.aload_n (pc := 33) (n := (0, 0)) (i := 0) dX7_layOrder_33 rfl rfl ?_
        refine Ev.gR (pc := 34) (n := (0, 0)) (r := (some 261)) dX7_layOrder_34 fl_X7_7 (zk_at hR.1 rfl) rfl hR.2.1 ?_
        refine Ev.iconst (pc := 37) (n := (0, 0)) dX7_layOrder_37 ?_
        refine Ev.ia (pc := 38) (n := (0, 0)) (x := (c : Int)) dX7_layOrder_38 (zk_at hR.1 rfl) (by omega) (by omega) ((congrFun e261 0).trans hn) ?_
        refine Ev.icmp_ge (pc := 39) (n := (0, 0)) (tgt := 70) dX7_layOrder_39 rfl (fun hc => ?_) (fun hc => absurd hc (by omega))
        refine Ev.iinc (pc := 70) (n := (0, 0)) (L' := [(2, zi ((i : Int) + 1)), (0, zr (some 260)), (1, zi (many : Int)), (3, zi (rf h (ord i) 0)), (4, zi (c : Int))]) dX7_layOrder_70 rfl (Nat.le_of_ble_eq_true rfl) ⟨by omega, by omega⟩ rfl ?_
        refine Ev.goto (pc := 73) (n := (0, 0)) (tgt := 11) dX7_layOrder_73 rfl ?_
        refine Ev.perm [1, 2, 0] rfl ?_
        exact r4
      | succ jc ihc =>
        intro c many I' ord hj2 hcn him hI ho hB
        have e261 : I' 261 = h.2.1 261 := hI 261 (by decide)
        have hi1 := hB.1 i him
        have hmn := hB.le
        by_cases hch : rf h c 2 = rf h (ord i) 0
        · have hc1 : 1 ≤ c := by
            rcases Nat.eq_zero_or_pos c with e0 | e0
            · subst e0; exact absurd hch (hw.root2 hi1)
            · exact e0
          obtain ⟨hB2, hmn2⟩ := hB.add hw.chu (ord' := fun a => if a = many then c else ord a) him hc1 (by omega) hch (fun a ha => if_neg (by omega)) (if_pos rfl)
          have hag : ∀ a : Nat, a < many + 1 → zup I' 267 many c 267 a = ((if a = many then c else ord a : Nat) : Int) := by
            intro a ha
            by_cases g : a = many
            · subst g
              rw [zup_s, if_pos rfl]
            · rw [zup_k _ _ _ _ (by omega), if_neg g]
              exact ho a (by omega)
          obtain ⟨I2, ord2, r1, r2, r3, r4⟩ := ihc (c + 1) (many + 1) (zup I' 267 many c) (fun a => if a = many then c else ord a) (by omega) (by omega) (by omega) (zup_ag hI) hag hB2
          refine ⟨I2, ord2, r1, r2, r3, ?_⟩
          rw [if_neg (by omega : ¬ i = many)] at r4
          refine Ev.iload (pc := 31) (n := (0, 0)) dX7_layOrder_31 rfl ?_
          refine Ev.aload_n (pc := 33) (n := (0, 0)) (i := 0) dX7_layOrder_33 rfl rfl ?_
          refine Ev.gR (pc := 34) (n := (0, 0)) (r := (some 261)) dX7_layOrder_34 fl_X7_7 (zk_at hR.1 rfl) rfl hR.2.1 ?_
          refine Ev.iconst (pc := 37) (n := (0, 0)) dX7_layOrder_37 ?_
          refine Ev.ia (pc := 38) (n := (0, 0)) (x := (n : Int)) dX7_layOrder_38 (zk_at hR.1 rfl) (by omega) (by omega) ((congrFun e261 0).trans hn) ?_
          refine Ev.icmp_ge (pc := 39) (n := (0, 0)) (tgt := 70) dX7_layOrder_39 rfl (fun hc => absurd hc (by omega)) (fun hc => ?_)
          refine Ev.aload_n (pc := 42) (n := (0, 0)) (i := 0) dX7_layOrder_42 rfl rfl ?_
          refine Ev.iload (pc := 43) (n := (0, 0)) dX7_layOrder_43 rfl ?_
          refine Ev.iconst (pc := 45) (n := (0, 0)) dX7_layOrder_45 ?_
          refine Ev.callV (pc := 46) (n := (0, 0)) (ob := 260) (as := [zi (c : Int), zi 2]) (st := []) (s_of2 hR e261 ⟨by omega, by omega⟩ ⟨by decide, by decide⟩) dX7_layOrder_46 ok_X7_of (lk_X7_49 rfl) ⟨(Nat.le_of_ble_eq_true rfl), (Nat.le_of_ble_eq_true rfl)⟩ (zk_at hR.1 rfl) ⟨by decide, rfl⟩ rfl (Nat.le_of_ble_eq_true rfl) (Nat.le_of_ble_eq_true rfl) ⟨(Nat.le_of_ble_eq_true rfl), (Nat.le_of_ble_eq_true rfl)⟩ ?_
          refine Ev.iload_n (pc := 49) (n := (0, 0)) (i := 3) dX7_layOrder_49 rfl rfl ?_
          refine Ev.icmp_ne (pc := 50) (n := (0, 0)) (tgt := 64) dX7_layOrder_50 rfl (fun hc => absurd hch hc) (fun hc => ?_)
          refine Ev.aload_n (pc := 53) (n := (0, 0)) (i := 0) dX7_layOrder_53 rfl rfl ?_
          refine Ev.gR (pc := 54) (n := (0, 0)) (r := (some 267)) dX7_layOrder_54 fl_X7_28 (zk_at hR.1 rfl) rfl hR.2.2.2.2.2.2.2.1 ?_
          refine Ev.iload_n (pc := 57) (n := (0, 0)) (i := 1) dX7_layOrder_57 rfl rfl ?_
          refine Ev.iload (pc := 58) (n := (0, 0)) dX7_layOrder_58 rfl ?_
          refine Ev.iast (pc := 60) (n := (0, 0)) dX7_layOrder_60 (zk_at hR.1 rfl) (by omega) (by omega) ?_
          refine Ev.iinc (pc := 61) (n := (0, 0)) (L' := [(1, zi ((many : Int) + 1)), (0, zr (some 260)), (2, zi (i : Int)), (3, zi (rf h (ord i) 0)), (4, zi (c : Int))]) dX7_layOrder_61 rfl (Nat.le_of_ble_eq_true rfl) ⟨by omega, by omega⟩ rfl ?_
          refine Ev.iinc (pc := 64) (n := (0, 0)) (L' := [(4, zi ((c : Int) + 1)), (1, zi ((many : Int) + 1)), (0, zr (some 260)), (2, zi (i : Int)), (3, zi (rf h (ord i) 0))]) dX7_layOrder_64 rfl (Nat.le_of_ble_eq_true rfl) ⟨by omega, by omega⟩ rfl ?_
          refine Ev.goto (pc := 67) (n := (0, 0)) (tgt := 31) dX7_layOrder_67 rfl ?_
          refine Ev.perm [2, 1, 3, 4, 0] rfl ?_
          exact r4
        · obtain ⟨I2, ord2, r1, r2, r3, r4⟩ := ihc (c + 1) many I' ord (by omega) (by omega) him hI ho (hB.skip hch)
          refine ⟨I2, ord2, r1, r2, r3, ?_⟩
          refine Ev.iload (pc := 31) (n := (0, 0)) dX7_layOrder_31 rfl ?_
          refine Ev.aload_n (pc := 33) (n := (0, 0)) (i := 0) dX7_layOrder_33 rfl rfl ?_
          refine Ev.gR (pc := 34) (n := (0, 0)) (r := (some 261)) dX7_layOrder_34 fl_X7_7 (zk_at hR.1 rfl) rfl hR.2.1 ?_
          refine Ev.iconst (pc := 37) (n := (0, 0)) dX7_layOrder_37 ?_
          refine Ev.ia (pc := 38) (n := (0, 0)) (x := (n : Int)) dX7_layOrder_38 (zk_at hR.1 rfl) (by omega) (by omega) ((congrFun e261 0).trans hn) ?_
          refine Ev.icmp_ge (pc := 39) (n := (0, 0)) (tgt := 70) dX7_layOrder_39 rfl (fun hc => absurd hc (by omega)) (fun hc => ?_)
          refine Ev.aload_n (pc := 42) (n := (0, 0)) (i := 0) dX7_layOrder_42 rfl rfl ?_
          refine Ev.iload (pc := 43) (n := (0, 0)) dX7_layOrder_43 rfl ?_
          refine Ev.iconst (pc := 45) (n := (0, 0)) dX7_layOrder_45 ?_
          refine Ev.callV (pc := 46) (n := (0, 0)) (ob := 260) (as := [zi (c : Int), zi 2]) (st := []) (s_of2 hR e261 ⟨by omega, by omega⟩ ⟨by decide, by decide⟩) dX7_layOrder_46 ok_X7_of (lk_X7_49 rfl) ⟨(Nat.le_of_ble_eq_true rfl), (Nat.le_of_ble_eq_true rfl)⟩ (zk_at hR.1 rfl) ⟨by decide, rfl⟩ rfl (Nat.le_of_ble_eq_true rfl) (Nat.le_of_ble_eq_true rfl) ⟨(Nat.le_of_ble_eq_true rfl), (Nat.le_of_ble_eq_true rfl)⟩ ?_
          refine Ev.iload_n (pc := 49) (n := (0, 0)) (i := 3) dX7_layOrder_49 rfl rfl ?_
          refine Ev.icmp_ne (pc := 50) (n := (0, 0)) (tgt := 64) dX7_layOrder_50 rfl (fun hc => ?_) (fun hc => absurd hc hch)
          refine Ev.iinc (pc := 64) (n := (0, 0)) (L' := [(4, zi ((c : Int) + 1)), (0, zr (some 260)), (1, zi (many : Int)), (2, zi (i : Int)), (3, zi (rf h (ord i) 0))]) dX7_layOrder_64 rfl (Nat.le_of_ble_eq_true rfl) ⟨by omega, by omega⟩ rfl ?_
          refine Ev.goto (pc := 67) (n := (0, 0)) (tgt := 31) dX7_layOrder_67 rfl ?_
          refine Ev.perm [1, 2, 3, 4, 0] rfl ?_
          exact r4
    · exfalso
      have e1 : i = many := by omega
      subst e1
      have h1 := hB.done (dep := dep) (fun x hx1 hx => by
        obtain ⟨-, -, p, hp, e3, -, e4⟩ := hw.2.2.2.2.1 x hx1 hx
        exact ⟨p, hp, e3, e4⟩)
      omega
theorem s_layOrder {h : zH} (hR : zRM h) {n : Nat} {dep : Nat → Nat} {B : Int} (hn : h.2.1 261 0 = n) (hw : WF n (rf h) dep B) : ∃ (I2 : Nat → Int → Int) (ord2 : Nat → Nat), (∀ o, o ≠ 267 → I2 o = h.2.1 o) ∧ (∀ a : Nat, a < n → I2 267 a = ord2 a) ∧ BInv n (fun p x => rf h x 2 = rf h p 0) ord2 n 0 n ∧ Ev M_X7_layOrder 0 [(0, zr (some 260))] [] h (0, 0) (.inl none, (h.1, I2, h.2.2)) := by
  have hag : ∀ a : Nat, a < 1 → zup h.2.1 267 0 0 267 a = ((0 : Nat) : Int) := by
    intro a ha
    have e0 : a = 0 := by omega
    subst e0
    exact zup_s _ _ _ _
  obtain ⟨I2, ord2, r1, r2, r3, r4⟩ := s_layOrder_loop hR hn hw n 0 1 (zup h.2.1 267 0 0) (fun _ => 0) (by omega) (by omega) (zup_ag (fun _ _ => rfl)) hag (BInv.start hw.1.1 rfl (by omega))
  refine ⟨I2, ord2, r1, r2, r3, ?_⟩
  refine Ev.iconst (pc := 0) (n := (0, 0)) dX7_layOrder_0 ?_
  refine Ev.istore_n (pc := 1) (n := (0, 0)) (i := 1) (L' := [(1, zi 1), (0, zr (some 260))]) dX7_layOrder_1 rfl (Nat.le_of_ble_eq_true rfl) rfl ?_
  refine Ev.aload_n (pc := 2) (n := (0, 0)) (i := 0) dX7_layOrder_2 rfl rfl ?_
  refine Ev.gR (pc := 3) (n := (0, 0)) (r := (some 267)) dX7_layOrder_3 fl_X7_28 (zk_at hR.1 rfl) rfl hR.2.2.2.2.2.2.2.1 ?_
  refine Ev.iconst (pc := 6) (n := (0, 0)) dX7_layOrder_6 ?_
  refine Ev.iconst (pc := 7) (n := (0, 0)) dX7_layOrder_7 ?_
  refine Ev.iast (pc := 8) (n := (0, 0)) dX7_layOrder_8 (zk_at hR.1 rfl) (by omega) (by omega) ?_
  refine Ev.iconst (pc := 9) (n := (0, 0)) dX7_layOrder_9 ?_
  refine Ev.istore_n (pc := 10) (n := (0, 0)) (i := 2) (L' := [(2, zi 0), (1, zi 1), (0, zr (some 260))]) dX7_layOrder_10 rfl (Nat.le_of_ble_eq_true rfl) rfl ?_
  refine Ev.perm [2, 1, 0] rfl ?_
  exact r4
theorem s_lengthOf {h : zH} {I' : Nat → Int → Int} (hR : zRM h) (e261 : I' 261 = h.2.1 261) {Ln : Int → Int} (eL : I' 263 = Ln) {n : Nat} (hn : h.2.1 261 0 = n) (hn24 : n ≤ 24) {k : Nat} (hk : k < n) (hs : ∀ r : Int, 0 ≤ r ∧ r ≤ 3 → ∀ m : Nat, m ≤ n → -1000000000 ≤ zsum (fun j => if rf h j 2 = rf h k 0 ∧ rf h j 3 = r then Ln j else 0) m ∧ zsum (fun j => if rf h j 2 = rf h k 0 ∧ rf h j 3 = r then Ln j else 0) m ≤ 1000000000) (hb : (0 ≤ rf h k 5 ∧ rf h k 5 ≤ 60) ∧ (0 ≤ rf h k 6 ∧ rf h k 6 ≤ 1000000000)) : Ev M_X7_lengthOf 0 [(0, zr (some 260)), (1, zi (k : Int))] [] (h.1, I', h.2.2) (0, 0) (.inl (some (zi (mln n (rf h) Ln k))), (h.1, I', h.2.2)) := by
  refine Ev.aload_n (pc := 0) (n := (0, 0)) (i := 0) dX7_lengthOf_0 rfl rfl ?_
  refine Ev.iload_n (pc := 1) (n := (0, 0)) (i := 1) dX7_lengthOf_1 rfl rfl ?_
  refine Ev.iconst (pc := 2) (n := (0, 0)) dX7_lengthOf_2 ?_
  refine Ev.callV (pc := 3) (n := (0, 0)) (ob := 260) (as := [zi (k : Int), zi 1]) (st := []) (s_of2 hR e261 ⟨by omega, by omega⟩ ⟨by decide, by decide⟩) dX7_lengthOf_3 ok_X7_of (lk_X7_49 rfl) ⟨(Nat.le_of_ble_eq_true rfl), (Nat.le_of_ble_eq_true rfl)⟩ (zk_at hR.1 rfl) ⟨by decide, rfl⟩ rfl (Nat.le_of_ble_eq_true rfl) (Nat.le_of_ble_eq_true rfl) ⟨(Nat.le_of_ble_eq_true rfl), (Nat.le_of_ble_eq_true rfl)⟩ ?_
  refine Ev.iconst (pc := 6) (n := (0, 0)) dX7_lengthOf_6 ?_
  refine Ev.icmp_ne (pc := 7) (n := (0, 0)) (tgt := 25) dX7_lengthOf_7 rfl (fun hc => ?_) (fun hc => ?_)
  · skip
    have e9 : mln n (rf h) Ln k = mlg n (rf h) Ln (rf h k 0) := if_neg hc
    rw [e9]
    refine Ev.iconst (pc := 25) (n := (0, 0)) dX7_lengthOf_25 ?_
    refine Ev.istore_n (pc := 26) (n := (0, 0)) (i := 2) (L' := [(2, zi 0), (0, zr (some 260)), (1, zi (k : Int))]) dX7_lengthOf_26 rfl (Nat.le_of_ble_eq_true rfl) rfl ?_
    refine Ev.iconst (pc := 27) (n := (0, 0)) dX7_lengthOf_27 ?_
    refine Ev.istore_n (pc := 28) (n := (0, 0)) (i := 3) (L' := [(3, zi 0), (2, zi 0), (0, zr (some 260)), (1, zi (k : Int))]) dX7_lengthOf_28 rfl (Nat.le_of_ble_eq_true rfl) rfl ?_
    refine Ev.perm [2, 3, 1, 0] rfl ?_
    refine Ev.iload_n (pc := 29) (n := (0, 0)) (i := 3) dX7_lengthOf_29 rfl rfl ?_
    refine Ev.iconst (pc := 30) (n := (0, 0)) dX7_lengthOf_30 ?_
    refine Ev.icmp_ge (pc := 31) (n := (0, 0)) (tgt := 66) dX7_lengthOf_31 rfl (fun hc0 => absurd hc0 (by omega)) (fun hc0 => ?_)
    refine Ev.aload_n (pc := 34) (n := (0, 0)) (i := 0) dX7_lengthOf_34 rfl rfl ?_
    refine Ev.aload_n (pc := 35) (n := (0, 0)) (i := 0) dX7_lengthOf_35 rfl rfl ?_
    refine Ev.iload_n (pc := 36) (n := (0, 0)) (i := 1) dX7_lengthOf_36 rfl rfl ?_
    refine Ev.iconst (pc := 37) (n := (0, 0)) dX7_lengthOf_37 ?_
    refine Ev.callV (pc := 38) (n := (0, 0)) (ob := 260) (as := [zi (k : Int), zi 0]) (st := [zr (some 260)]) (s_of2 hR e261 ⟨by omega, by omega⟩ ⟨by decide, by decide⟩) dX7_lengthOf_38 ok_X7_of (lk_X7_49 rfl) ⟨(Nat.le_of_ble_eq_true rfl), (Nat.le_of_ble_eq_true rfl)⟩ (zk_at hR.1 rfl) ⟨by decide, rfl⟩ rfl (Nat.le_of_ble_eq_true rfl) (Nat.le_of_ble_eq_true rfl) ⟨(Nat.le_of_ble_eq_true rfl), (Nat.le_of_ble_eq_true rfl)⟩ ?_
    refine Ev.iload_n (pc := 41) (n := (0, 0)) (i := 3) dX7_lengthOf_41 rfl rfl ?_
    refine Ev.callV (pc := 42) (n := (0, 0)) (ob := 260) (as := [zi (rf h (k : Int) 0), zi 0]) (st := []) (s_rowLength2 hR e261 (gr := rf h k 0) (r := 0) hn hn24 (by rw [eL]; exact hs 0 (by omega))) dX7_lengthOf_42 ok_X7_rowLength (lk_X7_68 rfl) ⟨(Nat.le_of_ble_eq_true rfl), (Nat.le_of_ble_eq_true rfl)⟩ (zk_at hR.1 rfl) ⟨by decide, rfl⟩ rfl (Nat.le_of_ble_eq_true rfl) (Nat.le_of_ble_eq_true rfl) ⟨(Nat.le_of_ble_eq_true rfl), (Nat.le_of_ble_eq_true rfl)⟩ ?_
    rw [eL]
    refine Ev.istore (pc := 45) (n := (0, 0)) (i := 4) (L' := [(4, zi (mrl n (rf h) Ln (rf h k 0) 0)), (0, zr (some 260)), (1, zi (k : Int)), (2, zi 0), (3, zi 0)]) dX7_lengthOf_45 (Nat.le_of_ble_eq_true rfl) rfl ?_
    refine Ev.iload (pc := 47) (n := (0, 0)) dX7_lengthOf_47 rfl ?_
    refine Ev.iload_n (pc := 49) (n := (0, 0)) (i := 2) dX7_lengthOf_49 rfl rfl ?_
    suffices K0 : Ev M_X7_lengthOf 59 [(4, zi (mrl n (rf h) Ln (rf h k 0) 0)), (0, zr (some 260)), (1, zi (k : Int)), (2, zi 0), (3, zi 0)] [zi (zmx 0 (mrl n (rf h) Ln (rf h k 0) 0))] (h.1, I', h.2.2) (0, 0) (.inl (some (zi (mlg n (rf h) Ln (rf h k 0)))), (h.1, I', h.2.2)) by
      refine Ev.icmp_le (pc := 50) (n := (0, 0)) (tgt := 58) dX7_lengthOf_50 rfl (fun hd => ?_) (fun hd => ?_)
      · skip
        refine Ev.iload_n (pc := 58) (n := (0, 0)) (i := 2) dX7_lengthOf_58 rfl rfl ?_
        rw [show zmx 0 (mrl n (rf h) Ln (rf h k 0) 0) = 0 from if_neg (by omega)] at K0
        exact K0
      · skip
        refine Ev.iload (pc := 53) (n := (0, 0)) dX7_lengthOf_53 rfl ?_
        refine Ev.goto (pc := 55) (n := (0, 0)) (tgt := 59) dX7_lengthOf_55 rfl ?_
        rw [show zmx 0 (mrl n (rf h) Ln (rf h k 0) 0) = (mrl n (rf h) Ln (rf h k 0) 0) from if_pos (by omega)] at K0
        exact K0
    refine Ev.istore_n (pc := 59) (n := (0, 0)) (i := 2) (L' := [(2, zi (zmx 0 (mrl n (rf h) Ln (rf h k 0) 0))), (4, zi (mrl n (rf h) Ln (rf h k 0) 0)), (0, zr (some 260)), (1, zi (k : Int)), (3, zi 0)]) dX7_lengthOf_59 rfl (Nat.le_of_ble_eq_true rfl) rfl ?_
    refine Ev.iinc (pc := 60) (n := (0, 0)) (L' := [(3, zi 1), (2, zi (zmx 0 (mrl n (rf h) Ln (rf h k 0) 0))), (4, zi (mrl n (rf h) Ln (rf h k 0) 0)), (0, zr (some 260)), (1, zi (k : Int))]) dX7_lengthOf_60 rfl (Nat.le_of_ble_eq_true rfl) ⟨by omega, by omega⟩ rfl ?_
    refine Ev.goto (pc := 63) (n := (0, 0)) (tgt := 29) dX7_lengthOf_63 rfl ?_
    refine Ev.perm [3, 4, 1, 0] rfl ?_
    refine Ev.iload_n (pc := 29) (n := (0, 0)) (i := 3) dX7_lengthOf_29 rfl rfl ?_
    refine Ev.iconst (pc := 30) (n := (0, 0)) dX7_lengthOf_30 ?_
    refine Ev.icmp_ge (pc := 31) (n := (0, 0)) (tgt := 66) dX7_lengthOf_31 rfl (fun hc1 => absurd hc1 (by omega)) (fun hc1 => ?_)
    refine Ev.aload_n (pc := 34) (n := (0, 0)) (i := 0) dX7_lengthOf_34 rfl rfl ?_
    refine Ev.aload_n (pc := 35) (n := (0, 0)) (i := 0) dX7_lengthOf_35 rfl rfl ?_
    refine Ev.iload_n (pc := 36) (n := (0, 0)) (i := 1) dX7_lengthOf_36 rfl rfl ?_
    refine Ev.iconst (pc := 37) (n := (0, 0)) dX7_lengthOf_37 ?_
    refine Ev.callV (pc := 38) (n := (0, 0)) (ob := 260) (as := [zi (k : Int), zi 0]) (st := [zr (some 260)]) (s_of2 hR e261 ⟨by omega, by omega⟩ ⟨by decide, by decide⟩) dX7_lengthOf_38 ok_X7_of (lk_X7_49 rfl) ⟨(Nat.le_of_ble_eq_true rfl), (Nat.le_of_ble_eq_true rfl)⟩ (zk_at hR.1 rfl) ⟨by decide, rfl⟩ rfl (Nat.le_of_ble_eq_true rfl) (Nat.le_of_ble_eq_true rfl) ⟨(Nat.le_of_ble_eq_true rfl), (Nat.le_of_ble_eq_true rfl)⟩ ?_
    refine Ev.iload_n (pc := 41) (n := (0, 0)) (i := 3) dX7_lengthOf_41 rfl rfl ?_
    refine Ev.callV (pc := 42) (n := (0, 0)) (ob := 260) (as := [zi (rf h (k : Int) 0), zi 1]) (st := []) (s_rowLength2 hR e261 (gr := rf h k 0) (r := 1) hn hn24 (by rw [eL]; exact hs 1 (by omega))) dX7_lengthOf_42 ok_X7_rowLength (lk_X7_68 rfl) ⟨(Nat.le_of_ble_eq_true rfl), (Nat.le_of_ble_eq_true rfl)⟩ (zk_at hR.1 rfl) ⟨by decide, rfl⟩ rfl (Nat.le_of_ble_eq_true rfl) (Nat.le_of_ble_eq_true rfl) ⟨(Nat.le_of_ble_eq_true rfl), (Nat.le_of_ble_eq_true rfl)⟩ ?_
    rw [eL]
    refine Ev.istore (pc := 45) (n := (0, 0)) (i := 4) (L' := [(4, zi (mrl n (rf h) Ln (rf h k 0) 1)), (0, zr (some 260)), (1, zi (k : Int)), (2, zi (zmx 0 (mrl n (rf h) Ln (rf h k 0) 0))), (3, zi 1)]) dX7_lengthOf_45 (Nat.le_of_ble_eq_true rfl) rfl ?_
    refine Ev.iload (pc := 47) (n := (0, 0)) dX7_lengthOf_47 rfl ?_
    refine Ev.iload_n (pc := 49) (n := (0, 0)) (i := 2) dX7_lengthOf_49 rfl rfl ?_
    suffices K1 : Ev M_X7_lengthOf 59 [(4, zi (mrl n (rf h) Ln (rf h k 0) 1)), (0, zr (some 260)), (1, zi (k : Int)), (2, zi (zmx 0 (mrl n (rf h) Ln (rf h k 0) 0))), (3, zi 1)] [zi (zmx (zmx 0 (mrl n (rf h) Ln (rf h k 0) 0)) (mrl n (rf h) Ln (rf h k 0) 1))] (h.1, I', h.2.2) (0, 0) (.inl (some (zi (mlg n (rf h) Ln (rf h k 0)))), (h.1, I', h.2.2)) by
      refine Ev.icmp_le (pc := 50) (n := (0, 0)) (tgt := 58) dX7_lengthOf_50 rfl (fun hd => ?_) (fun hd => ?_)
      · skip
        refine Ev.iload_n (pc := 58) (n := (0, 0)) (i := 2) dX7_lengthOf_58 rfl rfl ?_
        rw [show zmx (zmx 0 (mrl n (rf h) Ln (rf h k 0) 0)) (mrl n (rf h) Ln (rf h k 0) 1) = (zmx 0 (mrl n (rf h) Ln (rf h k 0) 0)) from if_neg (by omega)] at K1
        exact K1
      · skip
        refine Ev.iload (pc := 53) (n := (0, 0)) dX7_lengthOf_53 rfl ?_
        refine Ev.goto (pc := 55) (n := (0, 0)) (tgt := 59) dX7_lengthOf_55 rfl ?_
        rw [show zmx (zmx 0 (mrl n (rf h) Ln (rf h k 0) 0)) (mrl n (rf h) Ln (rf h k 0) 1) = (mrl n (rf h) Ln (rf h k 0) 1) from if_pos (by omega)] at K1
        exact K1
    refine Ev.istore_n (pc := 59) (n := (0, 0)) (i := 2) (L' := [(2, zi (zmx (zmx 0 (mrl n (rf h) Ln (rf h k 0) 0)) (mrl n (rf h) Ln (rf h k 0) 1))), (4, zi (mrl n (rf h) Ln (rf h k 0) 1)), (0, zr (some 260)), (1, zi (k : Int)), (3, zi 1)]) dX7_lengthOf_59 rfl (Nat.le_of_ble_eq_true rfl) rfl ?_
    refine Ev.iinc (pc := 60) (n := (0, 0)) (L' := [(3, zi 2), (2, zi (zmx (zmx 0 (mrl n (rf h) Ln (rf h k 0) 0)) (mrl n (rf h) Ln (rf h k 0) 1))), (4, zi (mrl n (rf h) Ln (rf h k 0) 1)), (0, zr (some 260)), (1, zi (k : Int))]) dX7_lengthOf_60 rfl (Nat.le_of_ble_eq_true rfl) ⟨by omega, by omega⟩ rfl ?_
    refine Ev.goto (pc := 63) (n := (0, 0)) (tgt := 29) dX7_lengthOf_63 rfl ?_
    refine Ev.perm [3, 4, 1, 0] rfl ?_
    refine Ev.iload_n (pc := 29) (n := (0, 0)) (i := 3) dX7_lengthOf_29 rfl rfl ?_
    refine Ev.iconst (pc := 30) (n := (0, 0)) dX7_lengthOf_30 ?_
    refine Ev.icmp_ge (pc := 31) (n := (0, 0)) (tgt := 66) dX7_lengthOf_31 rfl (fun hc2 => absurd hc2 (by omega)) (fun hc2 => ?_)
    refine Ev.aload_n (pc := 34) (n := (0, 0)) (i := 0) dX7_lengthOf_34 rfl rfl ?_
    refine Ev.aload_n (pc := 35) (n := (0, 0)) (i := 0) dX7_lengthOf_35 rfl rfl ?_
    refine Ev.iload_n (pc := 36) (n := (0, 0)) (i := 1) dX7_lengthOf_36 rfl rfl ?_
    refine Ev.iconst (pc := 37) (n := (0, 0)) dX7_lengthOf_37 ?_
    refine Ev.callV (pc := 38) (n := (0, 0)) (ob := 260) (as := [zi (k : Int), zi 0]) (st := [zr (some 260)]) (s_of2 hR e261 ⟨by omega, by omega⟩ ⟨by decide, by decide⟩) dX7_lengthOf_38 ok_X7_of (lk_X7_49 rfl) ⟨(Nat.le_of_ble_eq_true rfl), (Nat.le_of_ble_eq_true rfl)⟩ (zk_at hR.1 rfl) ⟨by decide, rfl⟩ rfl (Nat.le_of_ble_eq_true rfl) (Nat.le_of_ble_eq_true rfl) ⟨(Nat.le_of_ble_eq_true rfl), (Nat.le_of_ble_eq_true rfl)⟩ ?_
    refine Ev.iload_n (pc := 41) (n := (0, 0)) (i := 3) dX7_lengthOf_41 rfl rfl ?_
    refine Ev.callV (pc := 42) (n := (0, 0)) (ob := 260) (as := [zi (rf h (k : Int) 0), zi 2]) (st := []) (s_rowLength2 hR e261 (gr := rf h k 0) (r := 2) hn hn24 (by rw [eL]; exact hs 2 (by omega))) dX7_lengthOf_42 ok_X7_rowLength (lk_X7_68 rfl) ⟨(Nat.le_of_ble_eq_true rfl), (Nat.le_of_ble_eq_true rfl)⟩ (zk_at hR.1 rfl) ⟨by decide, rfl⟩ rfl (Nat.le_of_ble_eq_true rfl) (Nat.le_of_ble_eq_true rfl) ⟨(Nat.le_of_ble_eq_true rfl), (Nat.le_of_ble_eq_true rfl)⟩ ?_
    rw [eL]
    refine Ev.istore (pc := 45) (n := (0, 0)) (i := 4) (L' := [(4, zi (mrl n (rf h) Ln (rf h k 0) 2)), (0, zr (some 260)), (1, zi (k : Int)), (2, zi (zmx (zmx 0 (mrl n (rf h) Ln (rf h k 0) 0)) (mrl n (rf h) Ln (rf h k 0) 1))), (3, zi 2)]) dX7_lengthOf_45 (Nat.le_of_ble_eq_true rfl) rfl ?_
    refine Ev.iload (pc := 47) (n := (0, 0)) dX7_lengthOf_47 rfl ?_
    refine Ev.iload_n (pc := 49) (n := (0, 0)) (i := 2) dX7_lengthOf_49 rfl rfl ?_
    suffices K2 : Ev M_X7_lengthOf 59 [(4, zi (mrl n (rf h) Ln (rf h k 0) 2)), (0, zr (some 260)), (1, zi (k : Int)), (2, zi (zmx (zmx 0 (mrl n (rf h) Ln (rf h k 0) 0)) (mrl n (rf h) Ln (rf h k 0) 1))), (3, zi 2)] [zi (zmx (zmx (zmx 0 (mrl n (rf h) Ln (rf h k 0) 0)) (mrl n (rf h) Ln (rf h k 0) 1)) (mrl n (rf h) Ln (rf h k 0) 2))] (h.1, I', h.2.2) (0, 0) (.inl (some (zi (mlg n (rf h) Ln (rf h k 0)))), (h.1, I', h.2.2)) by
      refine Ev.icmp_le (pc := 50) (n := (0, 0)) (tgt := 58) dX7_lengthOf_50 rfl (fun hd => ?_) (fun hd => ?_)
      · skip
        refine Ev.iload_n (pc := 58) (n := (0, 0)) (i := 2) dX7_lengthOf_58 rfl rfl ?_
        rw [show zmx (zmx (zmx 0 (mrl n (rf h) Ln (rf h k 0) 0)) (mrl n (rf h) Ln (rf h k 0) 1)) (mrl n (rf h) Ln (rf h k 0) 2) = (zmx (zmx 0 (mrl n (rf h) Ln (rf h k 0) 0)) (mrl n (rf h) Ln (rf h k 0) 1)) from if_neg (by omega)] at K2
        exact K2
      · skip
        refine Ev.iload (pc := 53) (n := (0, 0)) dX7_lengthOf_53 rfl ?_
        refine Ev.goto (pc := 55) (n := (0, 0)) (tgt := 59) dX7_lengthOf_55 rfl ?_
        rw [show zmx (zmx (zmx 0 (mrl n (rf h) Ln (rf h k 0) 0)) (mrl n (rf h) Ln (rf h k 0) 1)) (mrl n (rf h) Ln (rf h k 0) 2) = (mrl n (rf h) Ln (rf h k 0) 2) from if_pos (by omega)] at K2
        exact K2
    refine Ev.istore_n (pc := 59) (n := (0, 0)) (i := 2) (L' := [(2, zi (zmx (zmx (zmx 0 (mrl n (rf h) Ln (rf h k 0) 0)) (mrl n (rf h) Ln (rf h k 0) 1)) (mrl n (rf h) Ln (rf h k 0) 2))), (4, zi (mrl n (rf h) Ln (rf h k 0) 2)), (0, zr (some 260)), (1, zi (k : Int)), (3, zi 2)]) dX7_lengthOf_59 rfl (Nat.le_of_ble_eq_true rfl) rfl ?_
    refine Ev.iinc (pc := 60) (n := (0, 0)) (L' := [(3, zi 3), (2, zi (zmx (zmx (zmx 0 (mrl n (rf h) Ln (rf h k 0) 0)) (mrl n (rf h) Ln (rf h k 0) 1)) (mrl n (rf h) Ln (rf h k 0) 2))), (4, zi (mrl n (rf h) Ln (rf h k 0) 2)), (0, zr (some 260)), (1, zi (k : Int))]) dX7_lengthOf_60 rfl (Nat.le_of_ble_eq_true rfl) ⟨by omega, by omega⟩ rfl ?_
    refine Ev.goto (pc := 63) (n := (0, 0)) (tgt := 29) dX7_lengthOf_63 rfl ?_
    refine Ev.perm [3, 4, 1, 0] rfl ?_
    refine Ev.iload_n (pc := 29) (n := (0, 0)) (i := 3) dX7_lengthOf_29 rfl rfl ?_
    refine Ev.iconst (pc := 30) (n := (0, 0)) dX7_lengthOf_30 ?_
    refine Ev.icmp_ge (pc := 31) (n := (0, 0)) (tgt := 66) dX7_lengthOf_31 rfl (fun hc3 => absurd hc3 (by omega)) (fun hc3 => ?_)
    refine Ev.aload_n (pc := 34) (n := (0, 0)) (i := 0) dX7_lengthOf_34 rfl rfl ?_
    refine Ev.aload_n (pc := 35) (n := (0, 0)) (i := 0) dX7_lengthOf_35 rfl rfl ?_
    refine Ev.iload_n (pc := 36) (n := (0, 0)) (i := 1) dX7_lengthOf_36 rfl rfl ?_
    refine Ev.iconst (pc := 37) (n := (0, 0)) dX7_lengthOf_37 ?_
    refine Ev.callV (pc := 38) (n := (0, 0)) (ob := 260) (as := [zi (k : Int), zi 0]) (st := [zr (some 260)]) (s_of2 hR e261 ⟨by omega, by omega⟩ ⟨by decide, by decide⟩) dX7_lengthOf_38 ok_X7_of (lk_X7_49 rfl) ⟨(Nat.le_of_ble_eq_true rfl), (Nat.le_of_ble_eq_true rfl)⟩ (zk_at hR.1 rfl) ⟨by decide, rfl⟩ rfl (Nat.le_of_ble_eq_true rfl) (Nat.le_of_ble_eq_true rfl) ⟨(Nat.le_of_ble_eq_true rfl), (Nat.le_of_ble_eq_true rfl)⟩ ?_
    refine Ev.iload_n (pc := 41) (n := (0, 0)) (i := 3) dX7_lengthOf_41 rfl rfl ?_
    refine Ev.callV (pc := 42) (n := (0, 0)) (ob := 260) (as := [zi (rf h (k : Int) 0), zi 3]) (st := []) (s_rowLength2 hR e261 (gr := rf h k 0) (r := 3) hn hn24 (by rw [eL]; exact hs 3 (by omega))) dX7_lengthOf_42 ok_X7_rowLength (lk_X7_68 rfl) ⟨(Nat.le_of_ble_eq_true rfl), (Nat.le_of_ble_eq_true rfl)⟩ (zk_at hR.1 rfl) ⟨by decide, rfl⟩ rfl (Nat.le_of_ble_eq_true rfl) (Nat.le_of_ble_eq_true rfl) ⟨(Nat.le_of_ble_eq_true rfl), (Nat.le_of_ble_eq_true rfl)⟩ ?_
    rw [eL]
    refine Ev.istore (pc := 45) (n := (0, 0)) (i := 4) (L' := [(4, zi (mrl n (rf h) Ln (rf h k 0) 3)), (0, zr (some 260)), (1, zi (k : Int)), (2, zi (zmx (zmx (zmx 0 (mrl n (rf h) Ln (rf h k 0) 0)) (mrl n (rf h) Ln (rf h k 0) 1)) (mrl n (rf h) Ln (rf h k 0) 2))), (3, zi 3)]) dX7_lengthOf_45 (Nat.le_of_ble_eq_true rfl) rfl ?_
    refine Ev.iload (pc := 47) (n := (0, 0)) dX7_lengthOf_47 rfl ?_
    refine Ev.iload_n (pc := 49) (n := (0, 0)) (i := 2) dX7_lengthOf_49 rfl rfl ?_
    suffices K3 : Ev M_X7_lengthOf 59 [(4, zi (mrl n (rf h) Ln (rf h k 0) 3)), (0, zr (some 260)), (1, zi (k : Int)), (2, zi (zmx (zmx (zmx 0 (mrl n (rf h) Ln (rf h k 0) 0)) (mrl n (rf h) Ln (rf h k 0) 1)) (mrl n (rf h) Ln (rf h k 0) 2))), (3, zi 3)] [zi (zmx (zmx (zmx (zmx 0 (mrl n (rf h) Ln (rf h k 0) 0)) (mrl n (rf h) Ln (rf h k 0) 1)) (mrl n (rf h) Ln (rf h k 0) 2)) (mrl n (rf h) Ln (rf h k 0) 3))] (h.1, I', h.2.2) (0, 0) (.inl (some (zi (mlg n (rf h) Ln (rf h k 0)))), (h.1, I', h.2.2)) by
      refine Ev.icmp_le (pc := 50) (n := (0, 0)) (tgt := 58) dX7_lengthOf_50 rfl (fun hd => ?_) (fun hd => ?_)
      · skip
        refine Ev.iload_n (pc := 58) (n := (0, 0)) (i := 2) dX7_lengthOf_58 rfl rfl ?_
        rw [show zmx (zmx (zmx (zmx 0 (mrl n (rf h) Ln (rf h k 0) 0)) (mrl n (rf h) Ln (rf h k 0) 1)) (mrl n (rf h) Ln (rf h k 0) 2)) (mrl n (rf h) Ln (rf h k 0) 3) = (zmx (zmx (zmx 0 (mrl n (rf h) Ln (rf h k 0) 0)) (mrl n (rf h) Ln (rf h k 0) 1)) (mrl n (rf h) Ln (rf h k 0) 2)) from if_neg (by omega)] at K3
        exact K3
      · skip
        refine Ev.iload (pc := 53) (n := (0, 0)) dX7_lengthOf_53 rfl ?_
        refine Ev.goto (pc := 55) (n := (0, 0)) (tgt := 59) dX7_lengthOf_55 rfl ?_
        rw [show zmx (zmx (zmx (zmx 0 (mrl n (rf h) Ln (rf h k 0) 0)) (mrl n (rf h) Ln (rf h k 0) 1)) (mrl n (rf h) Ln (rf h k 0) 2)) (mrl n (rf h) Ln (rf h k 0) 3) = (mrl n (rf h) Ln (rf h k 0) 3) from if_pos (by omega)] at K3
        exact K3
    refine Ev.istore_n (pc := 59) (n := (0, 0)) (i := 2) (L' := [(2, zi (zmx (zmx (zmx (zmx 0 (mrl n (rf h) Ln (rf h k 0) 0)) (mrl n (rf h) Ln (rf h k 0) 1)) (mrl n (rf h) Ln (rf h k 0) 2)) (mrl n (rf h) Ln (rf h k 0) 3))), (4, zi (mrl n (rf h) Ln (rf h k 0) 3)), (0, zr (some 260)), (1, zi (k : Int)), (3, zi 3)]) dX7_lengthOf_59 rfl (Nat.le_of_ble_eq_true rfl) rfl ?_
    refine Ev.iinc (pc := 60) (n := (0, 0)) (L' := [(3, zi 4), (2, zi (zmx (zmx (zmx (zmx 0 (mrl n (rf h) Ln (rf h k 0) 0)) (mrl n (rf h) Ln (rf h k 0) 1)) (mrl n (rf h) Ln (rf h k 0) 2)) (mrl n (rf h) Ln (rf h k 0) 3))), (4, zi (mrl n (rf h) Ln (rf h k 0) 3)), (0, zr (some 260)), (1, zi (k : Int))]) dX7_lengthOf_60 rfl (Nat.le_of_ble_eq_true rfl) ⟨by omega, by omega⟩ rfl ?_
    refine Ev.goto (pc := 63) (n := (0, 0)) (tgt := 29) dX7_lengthOf_63 rfl ?_
    refine Ev.perm [3, 4, 1, 0] rfl ?_
    refine Ev.iload_n (pc := 29) (n := (0, 0)) (i := 3) dX7_lengthOf_29 rfl rfl ?_
    refine Ev.iconst (pc := 30) (n := (0, 0)) dX7_lengthOf_30 ?_
    refine Ev.icmp_ge (pc := 31) (n := (0, 0)) (tgt := 66) dX7_lengthOf_31 rfl (fun hc4 => ?_) (fun hc4 => absurd hc4 (by omega))
    refine Ev.iload_n (pc := 66) (n := (0, 0)) (i := 2) dX7_lengthOf_66 rfl rfl ?_
    exact Ev.iret dX7_lengthOf_67 rfl ⟨(Nat.le_of_ble_eq_true rfl), (Nat.le_of_ble_eq_true rfl)⟩
  · skip
    have e9 : mln n (rf h) Ln k = rf h k 5 + rf h k 6 := if_pos hc
    rw [e9]
    refine Ev.aload_n (pc := 10) (n := (0, 0)) (i := 0) dX7_lengthOf_10 rfl rfl ?_
    refine Ev.iload_n (pc := 11) (n := (0, 0)) (i := 1) dX7_lengthOf_11 rfl rfl ?_
    refine Ev.iconst (pc := 12) (n := (0, 0)) dX7_lengthOf_12 ?_
    refine Ev.callV (pc := 13) (n := (0, 0)) (ob := 260) (as := [zi (k : Int), zi 5]) (st := []) (s_of2 hR e261 ⟨by omega, by omega⟩ ⟨by decide, by decide⟩) dX7_lengthOf_13 ok_X7_of (lk_X7_49 rfl) ⟨(Nat.le_of_ble_eq_true rfl), (Nat.le_of_ble_eq_true rfl)⟩ (zk_at hR.1 rfl) ⟨by decide, rfl⟩ rfl (Nat.le_of_ble_eq_true rfl) (Nat.le_of_ble_eq_true rfl) ⟨(Nat.le_of_ble_eq_true rfl), (Nat.le_of_ble_eq_true rfl)⟩ ?_
    refine Ev.aload_n (pc := 16) (n := (0, 0)) (i := 0) dX7_lengthOf_16 rfl rfl ?_
    refine Ev.iload_n (pc := 17) (n := (0, 0)) (i := 1) dX7_lengthOf_17 rfl rfl ?_
    refine Ev.bipush (pc := 18) (n := (0, 0)) dX7_lengthOf_18 ?_
    refine Ev.callV (pc := 20) (n := (0, 0)) (ob := 260) (as := [zi (k : Int), zi 6]) (st := [zi (rf h (k : Int) 5)]) (s_of2 hR e261 ⟨by omega, by omega⟩ ⟨by decide, by decide⟩) dX7_lengthOf_20 ok_X7_of (lk_X7_49 rfl) ⟨(Nat.le_of_ble_eq_true rfl), (Nat.le_of_ble_eq_true rfl)⟩ (zk_at hR.1 rfl) ⟨by decide, rfl⟩ rfl (Nat.le_of_ble_eq_true rfl) (Nat.le_of_ble_eq_true rfl) ⟨(Nat.le_of_ble_eq_true rfl), (Nat.le_of_ble_eq_true rfl)⟩ ?_
    refine Ev.iadd (pc := 23) (n := (0, 0)) dX7_lengthOf_23 ⟨by omega, by omega⟩ ?_
    exact Ev.iret dX7_lengthOf_24 rfl ⟨(Nat.le_of_ble_eq_true rfl), (Nat.le_of_ble_eq_true rfl)⟩
theorem s_rowSlack {h : zH} {I' : Nat → Int → Int} (hR : zRM h) (e261 : I' 261 = h.2.1 261) {Ln : Int → Int} (eL : I' 263 = Ln) {n : Nat} (hn : h.2.1 261 0 = n) (hn24 : n ≤ 24) {gr r : Int} {p : Nat} (hp : p < n) (hf : zfnd (fun j => rf h j 0) gr n = p) (hs : ∀ m : Nat, m ≤ n → -1000000000 ≤ zsum (fun j => if rf h j 2 = gr ∧ rf h j 3 = r then Ln j else 0) m ∧ zsum (fun j => if rf h j 2 = gr ∧ rf h j 3 = r then Ln j else 0) m ≤ 1000000000) (hb : -1000000000 ≤ Ln p ∧ Ln p ≤ 1000000000) : Ev M_X7_rowSlack 0 [(0, zr (some 260)), (1, zi gr), (2, zi r)] [] (h.1, I', h.2.2) (0, 0) (.inl (some (zi (Ln p - mrl n (rf h) Ln gr r))), (h.1, I', h.2.2)) := by
  refine Ev.aload_n (pc := 0) (n := (0, 0)) (i := 0) dX7_rowSlack_0 rfl rfl ?_
  refine Ev.gR (pc := 1) (n := (0, 0)) (r := (some 263)) dX7_rowSlack_1 fl_X7_16 (zk_at hR.1 rfl) rfl hR.2.2.2.1 ?_
  refine Ev.aload_n (pc := 4) (n := (0, 0)) (i := 0) dX7_rowSlack_4 rfl rfl ?_
  refine Ev.iload_n (pc := 5) (n := (0, 0)) (i := 1) dX7_rowSlack_5 rfl rfl ?_
  refine Ev.callV (pc := 6) (n := (0, 0)) (ob := 260) (as := [zi gr]) (st := [zr (some 263)]) (s_find2 hR e261 hn hn24) dX7_rowSlack_6 ok_X7_find (lk_X7_53 rfl) ⟨(Nat.le_of_ble_eq_true rfl), (Nat.le_of_ble_eq_true rfl)⟩ (zk_at hR.1 rfl) ⟨by decide, rfl⟩ rfl (Nat.le_of_ble_eq_true rfl) (Nat.le_of_ble_eq_true rfl) ⟨(Nat.le_of_ble_eq_true rfl), (Nat.le_of_ble_eq_true rfl)⟩ ?_
  rw [hf]
  refine Ev.ia (pc := 9) (n := (0, 0)) (x := (Ln p)) dX7_rowSlack_9 (zk_at hR.1 rfl) (by omega) (by omega) (congrFun eL _) ?_
  refine Ev.aload_n (pc := 10) (n := (0, 0)) (i := 0) dX7_rowSlack_10 rfl rfl ?_
  refine Ev.iload_n (pc := 11) (n := (0, 0)) (i := 1) dX7_rowSlack_11 rfl rfl ?_
  refine Ev.iload_n (pc := 12) (n := (0, 0)) (i := 2) dX7_rowSlack_12 rfl rfl ?_
  refine Ev.callV (pc := 13) (n := (0, 0)) (ob := 260) (as := [zi gr, zi r]) (st := [zi (Ln p)]) (s_rowLength2 hR e261 hn hn24 (by rw [eL]; exact hs)) dX7_rowSlack_13 ok_X7_rowLength (lk_X7_68 rfl) ⟨(Nat.le_of_ble_eq_true rfl), (Nat.le_of_ble_eq_true rfl)⟩ (zk_at hR.1 rfl) ⟨by decide, rfl⟩ rfl (Nat.le_of_ble_eq_true rfl) (Nat.le_of_ble_eq_true rfl) ⟨(Nat.le_of_ble_eq_true rfl), (Nat.le_of_ble_eq_true rfl)⟩ ?_
  rw [eL]
  have hs9 := hs n (Nat.le_refl _)
  have e9 : mrl n (rf h) Ln gr r = zsum (fun j => if rf h j 2 = gr ∧ rf h j 3 = r then Ln j else 0) n := rfl
  refine Ev.isub (pc := 16) (n := (0, 0)) dX7_rowSlack_16 ⟨by omega, by omega⟩ ?_
  exact Ev.iret dX7_rowSlack_17 rfl ⟨(Nat.le_of_ble_eq_true rfl), (Nat.le_of_ble_eq_true rfl)⟩
theorem s_layTimes_loop {h : zH} {I' : Nat → Int → Int} (hR : zRM h) (e261 : I' 261 = h.2.1 261) {Ln : Int → Int} (eL : I' 263 = Ln) {n : Nat} (hn : h.2.1 261 0 = n) (hn24 : n ≤ 24) {k p : Nat} (hk : k < n) (hp : p < n) (hf : zfnd (fun j => rf h j 0) (rf h k 2) n = p) (hs : ∀ m : Nat, m ≤ n → 0 ≤ zsum (fun j => if rf h j 2 = rf h k 2 ∧ rf h j 3 = rf h k 3 then Ln j else 0) m ∧ zsum (fun j => if rf h j 2 = rf h k 2 ∧ rf h j 3 = rf h k 3 then Ln j else 0) m ≤ 1000000000) (hs2 : ∀ m : Nat, m ≤ n → 0 ≤ zsum (fun o => if (rf h o 2 = rf h k 2 ∧ rf h o 3 = rf h k 3) ∧ rf h o 4 < rf h k 4 then Ln o else 0) m ∧ zsum (fun o => if (rf h o 2 = rf h k 2 ∧ rf h o 3 = rf h k 3) ∧ rf h o 4 < rf h k 4 then Ln o else 0) m ≤ 1000000000) (hb : (0 ≤ Ln p ∧ Ln p ≤ 1000000000) ∧ (0 ≤ I' 264 p ∧ I' 264 p ≤ 1000000000) ∧ (0 ≤ I' 265 p ∧ I' 265 p ≤ 1000000000) ∧ (0 ≤ I' 266 p ∧ I' 266 p ≤ 24)) : ∀ (j o : Nat), o ≤ n → n - o = j → Ev M_X7_layTimes 19 [(0, zr (some 260)), (1, zi (k : Int)), (2, zi (rf h k 2)), (3, zi (p : Int)), (4, zi (zsum (fun o => if (rf h o 2 = rf h k 2 ∧ rf h o 3 = rf h k 3) ∧ rf h o 4 < rf h k 4 then Ln o else 0) o)), (5, zi (o : Int))] [] (h.1, I', h.2.2) (0, 0) (.inl none, (h.1, (zup (zup (zup I' 264 k (I' 264 p + mah n (rf h) Ln k)) 265 k (I' 265 p + (Ln p - mrl n (rf h) Ln (rf h k 2) (rf h k 3)))) 266 k (I' 266 p + 1)), h.2.2)) := by
  intro j
  induction j with
  | zero =>
    intro o ho hj
    have hon : o = n := by omega
    subst hon
    have hs9 := hs2 o (Nat.le_refl _)
    have hs8 := hs o (Nat.le_refl _)
    have em : mah o (rf h) Ln k = zsum (fun o => if (rf h o 2 = rf h k 2 ∧ rf h o 3 = rf h k 3) ∧ rf h o 4 < rf h k 4 then Ln o else 0) o := rfl
    have er : mrl o (rf h) Ln (rf h k 2) (rf h k 3) = zsum (fun j => if rf h j 2 = rf h k 2 ∧ rf h j 3 = rf h k 3 then Ln j else 0) o := rfl
    refine Ev.iload (pc := 19) (n := (0, 0)) dX7_layTimes_19 rfl ?_
    refine Ev.aload_n (pc := 21) (n := (0, 0)) (i := 0) dX7_layTimes_21 rfl rfl ?_
    refine Ev.gR (pc := 22) (n := (0, 0)) (r := (some 261)) dX7_layTimes_22 fl_X7_7 (zk_at hR.1 rfl) rfl hR.2.1 ?_
    refine Ev.iconst (pc := 25) (n := (0, 0)) dX7_layTimes_25 ?_
    refine Ev.ia (pc := 26) (n := (0, 0)) (x := (o : Int)) dX7_layTimes_26 (zk_at hR.1 rfl) (by omega) (by omega) ((congrFun e261 0).trans hn) ?_
    refine Ev.icmp_ge (pc := 27) (n := (0, 0)) (tgt := 84) dX7_layTimes_27 rfl (fun hc => ?_) (fun hc => absurd hc (by omega))
    refine Ev.aload_n (pc := 84) (n := (0, 0)) (i := 0) dX7_layTimes_84 rfl rfl ?_
    refine Ev.gR (pc := 85) (n := (0, 0)) (r := (some 264)) dX7_layTimes_85 fl_X7_19 (zk_at hR.1 rfl) rfl hR.2.2.2.2.1 ?_
    refine Ev.iload_n (pc := 88) (n := (0, 0)) (i := 1) dX7_layTimes_88 rfl rfl ?_
    refine Ev.aload_n (pc := 89) (n := (0, 0)) (i := 0) dX7_layTimes_89 rfl rfl ?_
    refine Ev.gR (pc := 90) (n := (0, 0)) (r := (some 264)) dX7_layTimes_90 fl_X7_19 (zk_at hR.1 rfl) rfl hR.2.2.2.2.1 ?_
    refine Ev.iload_n (pc := 93) (n := (0, 0)) (i := 3) dX7_layTimes_93 rfl rfl ?_
    refine Ev.ia (pc := 94) (n := (0, 0)) (x := (I' 264 p)) dX7_layTimes_94 (zk_at hR.1 rfl) (by omega) (by omega) rfl ?_
    refine Ev.iload (pc := 95) (n := (0, 0)) dX7_layTimes_95 rfl ?_
    refine Ev.iadd (pc := 97) (n := (0, 0)) dX7_layTimes_97 ⟨by omega, by omega⟩ ?_
    refine Ev.iast (pc := 98) (n := (0, 0)) dX7_layTimes_98 (zk_at hR.1 rfl) (by omega) (by omega) ?_
    refine Ev.aload_n (pc := 99) (n := (0, 0)) (i := 0) dX7_layTimes_99 rfl rfl ?_
    refine Ev.gR (pc := 100) (n := (0, 0)) (r := (some 265)) dX7_layTimes_100 fl_X7_22 (zk_at hR.1 rfl) rfl hR.2.2.2.2.2.1 ?_
    refine Ev.iload_n (pc := 103) (n := (0, 0)) (i := 1) dX7_layTimes_103 rfl rfl ?_
    refine Ev.aload_n (pc := 104) (n := (0, 0)) (i := 0) dX7_layTimes_104 rfl rfl ?_
    refine Ev.gR (pc := 105) (n := (0, 0)) (r := (some 265)) dX7_layTimes_105 fl_X7_22 (zk_at hR.1 rfl) rfl hR.2.2.2.2.2.1 ?_
    refine Ev.iload_n (pc := 108) (n := (0, 0)) (i := 3) dX7_layTimes_108 rfl rfl ?_
    refine Ev.ia (pc := 109) (n := (0, 0)) (x := (I' 265 p)) dX7_layTimes_109 (zk_at hR.1 rfl) (by omega) (by omega) (by simp [zup]) ?_
    refine Ev.aload_n (pc := 110) (n := (0, 0)) (i := 0) dX7_layTimes_110 rfl rfl ?_
    refine Ev.iload_n (pc := 111) (n := (0, 0)) (i := 2) dX7_layTimes_111 rfl rfl ?_
    refine Ev.aload_n (pc := 112) (n := (0, 0)) (i := 0) dX7_layTimes_112 rfl rfl ?_
    refine Ev.iload_n (pc := 113) (n := (0, 0)) (i := 1) dX7_layTimes_113 rfl rfl ?_
    refine Ev.iconst (pc := 114) (n := (0, 0)) dX7_layTimes_114 ?_
    refine Ev.callV (pc := 115) (n := (0, 0)) (ob := 260) (as := [zi (k : Int), zi 3]) (st := [zi (rf h k 2), zr (some 260), zi (I' 265 p), zi (k : Int), zr (some 265)]) (s_of2 hR (I' := _) ((funext fun j => zup_o I' (k : Int) j _ (by decide)).trans e261) ⟨by omega, by omega⟩ ⟨by decide, by decide⟩) dX7_layTimes_115 ok_X7_of (lk_X7_49 rfl) ⟨(Nat.le_of_ble_eq_true rfl), (Nat.le_of_ble_eq_true rfl)⟩ (zk_at hR.1 rfl) ⟨by decide, rfl⟩ rfl (Nat.le_of_ble_eq_true rfl) (Nat.le_of_ble_eq_true rfl) ⟨(Nat.le_of_ble_eq_true rfl), (Nat.le_of_ble_eq_true rfl)⟩ ?_
    refine Ev.callV (pc := 118) (n := (0, 0)) (ob := 260) (as := [zi (rf h k 2), zi (rf h (k : Int) 3)]) (st := [zi (I' 265 p), zi (k : Int), zr (some 265)]) (s_rowSlack hR (I' := _) ((funext fun j => zup_o I' (k : Int) j _ (by decide)).trans e261) (Ln := Ln) ((funext fun j => zup_o I' (k : Int) j _ (by decide)).trans eL) hn hn24 hp hf (fun m hm => ⟨by have := (hs m hm).1; omega, (hs m hm).2⟩) ⟨by omega, by omega⟩) dX7_layTimes_118 ok_X7_rowSlack (lk_X7_71 rfl) ⟨(Nat.le_of_ble_eq_true rfl), (Nat.le_of_ble_eq_true rfl)⟩ (zk_at hR.1 rfl) ⟨by decide, rfl⟩ rfl (Nat.le_of_ble_eq_true rfl) (Nat.le_of_ble_eq_true rfl) ⟨(Nat.le_of_ble_eq_true rfl), (Nat.le_of_ble_eq_true rfl)⟩ ?_
    refine Ev.iadd (pc := 121) (n := (0, 0)) dX7_layTimes_121 ⟨by omega, by omega⟩ ?_
    refine Ev.iast (pc := 122) (n := (0, 0)) dX7_layTimes_122 (zk_at hR.1 rfl) (by omega) (by omega) ?_
    refine Ev.aload_n (pc := 123) (n := (0, 0)) (i := 0) dX7_layTimes_123 rfl rfl ?_
    refine Ev.gR (pc := 124) (n := (0, 0)) (r := (some 266)) dX7_layTimes_124 fl_X7_25 (zk_at hR.1 rfl) rfl hR.2.2.2.2.2.2.1 ?_
    refine Ev.iload_n (pc := 127) (n := (0, 0)) (i := 1) dX7_layTimes_127 rfl rfl ?_
    refine Ev.aload_n (pc := 128) (n := (0, 0)) (i := 0) dX7_layTimes_128 rfl rfl ?_
    refine Ev.gR (pc := 129) (n := (0, 0)) (r := (some 266)) dX7_layTimes_129 fl_X7_25 (zk_at hR.1 rfl) rfl hR.2.2.2.2.2.2.1 ?_
    refine Ev.iload_n (pc := 132) (n := (0, 0)) (i := 3) dX7_layTimes_132 rfl rfl ?_
    refine Ev.ia (pc := 133) (n := (0, 0)) (x := (I' 266 p)) dX7_layTimes_133 (zk_at hR.1 rfl) (by omega) (by omega) (by simp [zup]) ?_
    refine Ev.iconst (pc := 134) (n := (0, 0)) dX7_layTimes_134 ?_
    refine Ev.iadd (pc := 135) (n := (0, 0)) dX7_layTimes_135 ⟨by omega, by omega⟩ ?_
    refine Ev.iast (pc := 136) (n := (0, 0)) dX7_layTimes_136 (zk_at hR.1 rfl) (by omega) (by omega) ?_
    rw [em]
    exact Ev.vret dX7_layTimes_137 rfl ⟨(Nat.le_of_ble_eq_true rfl), (Nat.le_of_ble_eq_true rfl)⟩
  | succ j ih =>
    intro o ho hj
    have hs9 := hs2 o (by omega)
    have hs8 := hs2 (o + 1) (by omega)
    have ez : zsum (fun o => if (rf h o 2 = rf h k 2 ∧ rf h o 3 = rf h k 3) ∧ rf h o 4 < rf h k 4 then Ln o else 0) (o + 1) = zsum (fun o => if (rf h o 2 = rf h k 2 ∧ rf h o 3 = rf h k 3) ∧ rf h o 4 < rf h k 4 then Ln o else 0) o + (if (rf h o 2 = rf h k 2 ∧ rf h o 3 = rf h k 3) ∧ rf h o 4 < rf h k 4 then Ln o else 0) := rfl
    refine Ev.iload (pc := 19) (n := (0, 0)) dX7_layTimes_19 rfl ?_
    refine Ev.aload_n (pc := 21) (n := (0, 0)) (i := 0) dX7_layTimes_21 rfl rfl ?_
    refine Ev.gR (pc := 22) (n := (0, 0)) (r := (some 261)) dX7_layTimes_22 fl_X7_7 (zk_at hR.1 rfl) rfl hR.2.1 ?_
    refine Ev.iconst (pc := 25) (n := (0, 0)) dX7_layTimes_25 ?_
    refine Ev.ia (pc := 26) (n := (0, 0)) (x := (n : Int)) dX7_layTimes_26 (zk_at hR.1 rfl) (by omega) (by omega) ((congrFun e261 0).trans hn) ?_
    refine Ev.icmp_ge (pc := 27) (n := (0, 0)) (tgt := 84) dX7_layTimes_27 rfl (fun hc => absurd hc (by omega)) (fun hc => ?_)
    refine Ev.iload (pc := 30) (n := (0, 0)) dX7_layTimes_30 rfl ?_
    refine Ev.aload_n (pc := 32) (n := (0, 0)) (i := 0) dX7_layTimes_32 rfl rfl ?_
    refine Ev.iload (pc := 33) (n := (0, 0)) dX7_layTimes_33 rfl ?_
    refine Ev.iload_n (pc := 35) (n := (0, 0)) (i := 2) dX7_layTimes_35 rfl rfl ?_
    refine Ev.aload_n (pc := 36) (n := (0, 0)) (i := 0) dX7_layTimes_36 rfl rfl ?_
    refine Ev.iload_n (pc := 37) (n := (0, 0)) (i := 1) dX7_layTimes_37 rfl rfl ?_
    refine Ev.iconst (pc := 38) (n := (0, 0)) dX7_layTimes_38 ?_
    refine Ev.callV (pc := 39) (n := (0, 0)) (ob := 260) (as := [zi (k : Int), zi 3]) (st := [zi (rf h k 2), zi (o : Int), zr (some 260), zi (zsum (fun o => if (rf h o 2 = rf h k 2 ∧ rf h o 3 = rf h k 3) ∧ rf h o 4 < rf h k 4 then Ln o else 0) o)]) (s_of2 hR e261 ⟨by omega, by omega⟩ ⟨by decide, by decide⟩) dX7_layTimes_39 ok_X7_of (lk_X7_49 rfl) ⟨(Nat.le_of_ble_eq_true rfl), (Nat.le_of_ble_eq_true rfl)⟩ (zk_at hR.1 rfl) ⟨by decide, rfl⟩ rfl (Nat.le_of_ble_eq_true rfl) (Nat.le_of_ble_eq_true rfl) ⟨(Nat.le_of_ble_eq_true rfl), (Nat.le_of_ble_eq_true rfl)⟩ ?_
    refine Ev.callV (pc := 42) (n := (0, 0)) (ob := 260) (as := [zi (o : Int), zi (rf h k 2), zi (rf h (k : Int) 3)]) (st := [zi (zsum (fun o => if (rf h o 2 = rf h k 2 ∧ rf h o 3 = rf h k 3) ∧ rf h o 4 < rf h k 4 then Ln o else 0) o)]) (s_isIn2 hR e261 ⟨by omega, by omega⟩) dX7_layTimes_42 ok_X7_isIn (lk_X7_64 rfl) ⟨(Nat.le_of_ble_eq_true rfl), (Nat.le_of_ble_eq_true rfl)⟩ (zk_at hR.1 rfl) ⟨by decide, rfl⟩ rfl (Nat.le_of_ble_eq_true rfl) (Nat.le_of_ble_eq_true rfl) ⟨(Nat.le_of_ble_eq_true rfl), (Nat.le_of_ble_eq_true rfl)⟩ ?_
    have k9 := ih (o + 1) (by omega) (by omega)
    by_cases hin : rf h o 2 = rf h k 2 ∧ rf h o 3 = rf h k 3
    · skip
      rw [if_pos hin]
      refine Ev.if_eq (pc := 45) (n := (0, 0)) (tgt := 74) dX7_layTimes_45 rfl (fun hc => absurd hc (by decide)) (fun hc => ?_)
      refine Ev.aload_n (pc := 48) (n := (0, 0)) (i := 0) dX7_layTimes_48 rfl rfl ?_
      refine Ev.iload (pc := 49) (n := (0, 0)) dX7_layTimes_49 rfl ?_
      refine Ev.iconst (pc := 51) (n := (0, 0)) dX7_layTimes_51 ?_
      refine Ev.callV (pc := 52) (n := (0, 0)) (ob := 260) (as := [zi (o : Int), zi 4]) (st := [zi (zsum (fun o => if (rf h o 2 = rf h k 2 ∧ rf h o 3 = rf h k 3) ∧ rf h o 4 < rf h k 4 then Ln o else 0) o)]) (s_of2 hR e261 ⟨by omega, by omega⟩ ⟨by decide, by decide⟩) dX7_layTimes_52 ok_X7_of (lk_X7_49 rfl) ⟨(Nat.le_of_ble_eq_true rfl), (Nat.le_of_ble_eq_true rfl)⟩ (zk_at hR.1 rfl) ⟨by decide, rfl⟩ rfl (Nat.le_of_ble_eq_true rfl) (Nat.le_of_ble_eq_true rfl) ⟨(Nat.le_of_ble_eq_true rfl), (Nat.le_of_ble_eq_true rfl)⟩ ?_
      refine Ev.aload_n (pc := 55) (n := (0, 0)) (i := 0) dX7_layTimes_55 rfl rfl ?_
      refine Ev.iload_n (pc := 56) (n := (0, 0)) (i := 1) dX7_layTimes_56 rfl rfl ?_
      refine Ev.iconst (pc := 57) (n := (0, 0)) dX7_layTimes_57 ?_
      refine Ev.callV (pc := 58) (n := (0, 0)) (ob := 260) (as := [zi (k : Int), zi 4]) (st := [zi (rf h (o : Int) 4), zi (zsum (fun o => if (rf h o 2 = rf h k 2 ∧ rf h o 3 = rf h k 3) ∧ rf h o 4 < rf h k 4 then Ln o else 0) o)]) (s_of2 hR e261 ⟨by omega, by omega⟩ ⟨by decide, by decide⟩) dX7_layTimes_58 ok_X7_of (lk_X7_49 rfl) ⟨(Nat.le_of_ble_eq_true rfl), (Nat.le_of_ble_eq_true rfl)⟩ (zk_at hR.1 rfl) ⟨by decide, rfl⟩ rfl (Nat.le_of_ble_eq_true rfl) (Nat.le_of_ble_eq_true rfl) ⟨(Nat.le_of_ble_eq_true rfl), (Nat.le_of_ble_eq_true rfl)⟩ ?_
      refine Ev.icmp_ge (pc := 61) (n := (0, 0)) (tgt := 74) dX7_layTimes_61 rfl (fun hd => ?_) (fun hd => ?_)
      · skip
        rw [if_neg (fun g9 => absurd g9.2 (by omega))] at ez
        refine Ev.iconst (pc := 74) (n := (0, 0)) dX7_layTimes_74 ?_
        refine Ev.iadd (pc := 75) (n := (0, 0)) dX7_layTimes_75 ⟨by omega, by omega⟩ ?_
        refine Ev.istore (pc := 76) (n := (0, 0)) (i := 4) (L' := [(4, zi ((zsum (fun o => if (rf h o 2 = rf h k 2 ∧ rf h o 3 = rf h k 3) ∧ rf h o 4 < rf h k 4 then Ln o else 0) o) + 0)), (0, zr (some 260)), (1, zi (k : Int)), (2, zi (rf h k 2)), (3, zi (p : Int)), (5, zi (o : Int))]) dX7_layTimes_76 (Nat.le_of_ble_eq_true rfl) rfl ?_
        refine Ev.iinc (pc := 78) (n := (0, 0)) (L' := [(5, zi ((o : Int) + 1)), (4, zi ((zsum (fun o => if (rf h o 2 = rf h k 2 ∧ rf h o 3 = rf h k 3) ∧ rf h o 4 < rf h k 4 then Ln o else 0) o) + 0)), (0, zr (some 260)), (1, zi (k : Int)), (2, zi (rf h k 2)), (3, zi (p : Int))]) dX7_layTimes_78 rfl (Nat.le_of_ble_eq_true rfl) ⟨by omega, by omega⟩ rfl ?_
        refine Ev.goto (pc := 81) (n := (0, 0)) (tgt := 19) dX7_layTimes_81 rfl ?_
        refine Ev.perm [2, 3, 4, 5, 1, 0] rfl ?_
        rw [ez] at k9
        exact k9
      · skip
        rw [if_pos ⟨hin, by omega⟩] at ez
        refine Ev.aload_n (pc := 64) (n := (0, 0)) (i := 0) dX7_layTimes_64 rfl rfl ?_
        refine Ev.gR (pc := 65) (n := (0, 0)) (r := (some 263)) dX7_layTimes_65 fl_X7_16 (zk_at hR.1 rfl) rfl hR.2.2.2.1 ?_
        refine Ev.iload (pc := 68) (n := (0, 0)) dX7_layTimes_68 rfl ?_
        refine Ev.ia (pc := 70) (n := (0, 0)) (x := (Ln o)) dX7_layTimes_70 (zk_at hR.1 rfl) (by omega) (by omega) (congrFun eL _) ?_
        refine Ev.goto (pc := 71) (n := (0, 0)) (tgt := 75) dX7_layTimes_71 rfl ?_
        refine Ev.iadd (pc := 75) (n := (0, 0)) dX7_layTimes_75 ⟨by omega, by omega⟩ ?_
        refine Ev.istore (pc := 76) (n := (0, 0)) (i := 4) (L' := [(4, zi ((zsum (fun o => if (rf h o 2 = rf h k 2 ∧ rf h o 3 = rf h k 3) ∧ rf h o 4 < rf h k 4 then Ln o else 0) o) + (Ln o))), (0, zr (some 260)), (1, zi (k : Int)), (2, zi (rf h k 2)), (3, zi (p : Int)), (5, zi (o : Int))]) dX7_layTimes_76 (Nat.le_of_ble_eq_true rfl) rfl ?_
        refine Ev.iinc (pc := 78) (n := (0, 0)) (L' := [(5, zi ((o : Int) + 1)), (4, zi ((zsum (fun o => if (rf h o 2 = rf h k 2 ∧ rf h o 3 = rf h k 3) ∧ rf h o 4 < rf h k 4 then Ln o else 0) o) + (Ln o))), (0, zr (some 260)), (1, zi (k : Int)), (2, zi (rf h k 2)), (3, zi (p : Int))]) dX7_layTimes_78 rfl (Nat.le_of_ble_eq_true rfl) ⟨by omega, by omega⟩ rfl ?_
        refine Ev.goto (pc := 81) (n := (0, 0)) (tgt := 19) dX7_layTimes_81 rfl ?_
        refine Ev.perm [2, 3, 4, 5, 1, 0] rfl ?_
        rw [ez] at k9
        exact k9
    · skip
      rw [if_neg hin]
      rw [if_neg (fun g9 => hin g9.1)] at ez
      refine Ev.if_eq (pc := 45) (n := (0, 0)) (tgt := 74) dX7_layTimes_45 rfl (fun hc => ?_) (fun hc => absurd rfl hc)
      refine Ev.iconst (pc := 74) (n := (0, 0)) dX7_layTimes_74 ?_
      refine Ev.iadd (pc := 75) (n := (0, 0)) dX7_layTimes_75 ⟨by omega, by omega⟩ ?_
      refine Ev.istore (pc := 76) (n := (0, 0)) (i := 4) (L' := [(4, zi ((zsum (fun o => if (rf h o 2 = rf h k 2 ∧ rf h o 3 = rf h k 3) ∧ rf h o 4 < rf h k 4 then Ln o else 0) o) + 0)), (0, zr (some 260)), (1, zi (k : Int)), (2, zi (rf h k 2)), (3, zi (p : Int)), (5, zi (o : Int))]) dX7_layTimes_76 (Nat.le_of_ble_eq_true rfl) rfl ?_
      refine Ev.iinc (pc := 78) (n := (0, 0)) (L' := [(5, zi ((o : Int) + 1)), (4, zi ((zsum (fun o => if (rf h o 2 = rf h k 2 ∧ rf h o 3 = rf h k 3) ∧ rf h o 4 < rf h k 4 then Ln o else 0) o) + 0)), (0, zr (some 260)), (1, zi (k : Int)), (2, zi (rf h k 2)), (3, zi (p : Int))]) dX7_layTimes_78 rfl (Nat.le_of_ble_eq_true rfl) ⟨by omega, by omega⟩ rfl ?_
      refine Ev.goto (pc := 81) (n := (0, 0)) (tgt := 19) dX7_layTimes_81 rfl ?_
      refine Ev.perm [2, 3, 4, 5, 1, 0] rfl ?_
      rw [ez] at k9
      exact k9
theorem s_layTimes {h : zH} {I' : Nat → Int → Int} (hR : zRM h) (e261 : I' 261 = h.2.1 261) {Ln : Int → Int} (eL : I' 263 = Ln) {n : Nat} (hn : h.2.1 261 0 = n) (hn24 : n ≤ 24) {k p : Nat} (hk : k < n) (hp : p < n) (hf : zfnd (fun j => rf h j 0) (rf h k 2) n = p) (hs : ∀ m : Nat, m ≤ n → 0 ≤ zsum (fun j => if rf h j 2 = rf h k 2 ∧ rf h j 3 = rf h k 3 then Ln j else 0) m ∧ zsum (fun j => if rf h j 2 = rf h k 2 ∧ rf h j 3 = rf h k 3 then Ln j else 0) m ≤ 1000000000) (hs2 : ∀ m : Nat, m ≤ n → 0 ≤ zsum (fun o => if (rf h o 2 = rf h k 2 ∧ rf h o 3 = rf h k 3) ∧ rf h o 4 < rf h k 4 then Ln o else 0) m ∧ zsum (fun o => if (rf h o 2 = rf h k 2 ∧ rf h o 3 = rf h k 3) ∧ rf h o 4 < rf h k 4 then Ln o else 0) m ≤ 1000000000) (hb : (0 ≤ Ln p ∧ Ln p ≤ 1000000000) ∧ (0 ≤ I' 264 p ∧ I' 264 p ≤ 1000000000) ∧ (0 ≤ I' 265 p ∧ I' 265 p ≤ 1000000000) ∧ (0 ≤ I' 266 p ∧ I' 266 p ≤ 24)) : Ev M_X7_layTimes 0 [(0, zr (some 260)), (1, zi (k : Int))] [] (h.1, I', h.2.2) (0, 0) (.inl none, (h.1, (zup (zup (zup I' 264 k (I' 264 p + mah n (rf h) Ln k)) 265 k (I' 265 p + (Ln p - mrl n (rf h) Ln (rf h k 2) (rf h k 3)))) 266 k (I' 266 p + 1)), h.2.2)) := by
  refine Ev.aload_n (pc := 0) (n := (0, 0)) (i := 0) dX7_layTimes_0 rfl rfl ?_
  refine Ev.iload_n (pc := 1) (n := (0, 0)) (i := 1) dX7_layTimes_1 rfl rfl ?_
  refine Ev.iconst (pc := 2) (n := (0, 0)) dX7_layTimes_2 ?_
  refine Ev.callV (pc := 3) (n := (0, 0)) (ob := 260) (as := [zi (k : Int), zi 2]) (st := []) (s_of2 hR e261 ⟨by omega, by omega⟩ ⟨by decide, by decide⟩) dX7_layTimes_3 ok_X7_of (lk_X7_49 rfl) ⟨(Nat.le_of_ble_eq_true rfl), (Nat.le_of_ble_eq_true rfl)⟩ (zk_at hR.1 rfl) ⟨by decide, rfl⟩ rfl (Nat.le_of_ble_eq_true rfl) (Nat.le_of_ble_eq_true rfl) ⟨(Nat.le_of_ble_eq_true rfl), (Nat.le_of_ble_eq_true rfl)⟩ ?_
  refine Ev.istore_n (pc := 6) (n := (0, 0)) (i := 2) (L' := [(2, zi (rf h (k : Int) 2)), (0, zr (some 260)), (1, zi (k : Int))]) dX7_layTimes_6 rfl (Nat.le_of_ble_eq_true rfl) rfl ?_
  refine Ev.aload_n (pc := 7) (n := (0, 0)) (i := 0) dX7_layTimes_7 rfl rfl ?_
  refine Ev.iload_n (pc := 8) (n := (0, 0)) (i := 2) dX7_layTimes_8 rfl rfl ?_
  refine Ev.callV (pc := 9) (n := (0, 0)) (ob := 260) (as := [zi (rf h (k : Int) 2)]) (st := []) (s_find2 hR e261 hn hn24) dX7_layTimes_9 ok_X7_find (lk_X7_53 rfl) ⟨(Nat.le_of_ble_eq_true rfl), (Nat.le_of_ble_eq_true rfl)⟩ (zk_at hR.1 rfl) ⟨by decide, rfl⟩ rfl (Nat.le_of_ble_eq_true rfl) (Nat.le_of_ble_eq_true rfl) ⟨(Nat.le_of_ble_eq_true rfl), (Nat.le_of_ble_eq_true rfl)⟩ ?_
  rw [hf]
  refine Ev.istore_n (pc := 12) (n := (0, 0)) (i := 3) (L' := [(3, zi (p : Int)), (2, zi (rf h (k : Int) 2)), (0, zr (some 260)), (1, zi (k : Int))]) dX7_layTimes_12 rfl (Nat.le_of_ble_eq_true rfl) rfl ?_
  refine Ev.iconst (pc := 13) (n := (0, 0)) dX7_layTimes_13 ?_
  refine Ev.istore (pc := 14) (n := (0, 0)) (i := 4) (L' := [(4, zi 0), (3, zi (p : Int)), (2, zi (rf h (k : Int) 2)), (0, zr (some 260)), (1, zi (k : Int))]) dX7_layTimes_14 (Nat.le_of_ble_eq_true rfl) rfl ?_
  refine Ev.iconst (pc := 16) (n := (0, 0)) dX7_layTimes_16 ?_
  refine Ev.istore (pc := 17) (n := (0, 0)) (i := 5) (L' := [(5, zi 0), (4, zi 0), (3, zi (p : Int)), (2, zi (rf h (k : Int) 2)), (0, zr (some 260)), (1, zi (k : Int))]) dX7_layTimes_17 (Nat.le_of_ble_eq_true rfl) rfl ?_
  refine Ev.perm [4, 5, 3, 2, 1, 0] rfl ?_
  exact s_layTimes_loop hR e261 eL hn hn24 hk hp hf hs hs2 hb n 0 (by omega) (by omega)
theorem BInv.dep_le {n : Nat} {ch : Nat → Nat → Prop} {ord : Nat → Nat} {dep : Nat → Nat} (h : BInv n ch ord n 0 n) (hd : ∀ p x, p < n → 1 ≤ x → x < n → ch p x → dep x = dep p + 1) (h0 : dep 0 = 0) : ∀ j, j < n → dep (ord j) ≤ j := by
  have key : ∀ F j, j < F → j < n → dep (ord j) ≤ j := by
    intro F
    induction F with
    | zero => intro j hj; omega
    | succ F ih =>
      intro j hj hn
      rcases Nat.eq_zero_or_pos j with e | e
      · subst e; rw [h.2.2.1, h0]; exact Nat.le_refl _
      · obtain ⟨a, ha, -, hc⟩ := h.2.2.2.2.2.2 j e hn
        have h1 := hd (ord a) (ord j) (h.1 a (by omega)) (h.2.2.2.2.1 j e hn) (h.1 j hn) hc
        have h2 := ih a (by omega) (by omega)
        omega
  intro j hj
  exact key (j + 1) j (by omega) hj
def zLaid (I I2 : Nat → Int → Int) (n : Nat) (len st sl dp : Int → Int) : Prop := (∀ o, o < 263 ∨ 267 < o → I2 o = I o) ∧ ∀ k : Nat, k < n → I2 263 k = len k ∧ I2 264 k = st k ∧ I2 265 k = sl k ∧ I2 266 k = dp k
theorem s_lay2 {h : zH} (hR : zRM h) {n : Nat} {dep : Nat → Nat} {B : Int} (hn : h.2.1 261 0 = n) (hw : WF n (rf h) dep B) (hB : 24 * (60 + B) ≤ 1000000000) {len st sl dp : Int → Int} (hl : IsLen n (rf h) len) (ht : IsTm n (rf h) len st sl dp) {ord : Nat → Nat} (hO : BInv n (fun p x => rf h x 2 = rf h p 0) ord n 0 n) : ∀ (j i : Nat) (I' : Nat → Int → Int), n - i = j → 1 ≤ i → i ≤ n → (∀ o, o < 263 ∨ 267 < o → I' o = h.2.1 o) → (∀ a : Nat, a < n → I' 267 a = ord a) → (∀ k : Nat, k < n → I' 263 k = len k) → (∀ a : Nat, a < i → I' 264 (ord a) = st (ord a) ∧ I' 265 (ord a) = sl (ord a) ∧ I' 266 (ord a) = dp (ord a)) →
  ∃ I2 : Nat → Int → Int, zLaid h.2.1 I2 n len st sl dp ∧ Ev M_X7_lay 67 [(0, zr (some 260)), (1, zi (i : Int))] [] (h.1, I', h.2.2) (0, 0) (.inl none, (h.1, I2, h.2.2)) := by
  intro j
  have hdd : ∀ x, 1 ≤ x → x < n → ∃ p, p < n ∧ (fun p x => rf h x 2 = rf h p 0) p x ∧ dep x = dep p + 1 := fun x hx1 hx => by
    obtain ⟨-, -, p, hp, e3, -, e4⟩ := hw.2.2.2.2.1 x hx1 hx
    exact ⟨p, hp, e3, e4⟩
  have hall := (hO.done hdd).2
  have hM := mtot_le hw
  have hn1 := hw.1
  induction j with
  | zero =>
    intro i I' hj hi1 hin hI ho hln hst
    have e1 : i = n := by omega
    subst e1
    have e261 : I' 261 = h.2.1 261 := hI 261 (by decide)
    refine ⟨I', ⟨hI, fun k hk => ?_⟩, ?_⟩
    · obtain ⟨a, ha, e⟩ := hall k hk
      have := hst a ha
      rw [e] at this
      exact ⟨hln k hk, this⟩
    · skip
      refine Ev.iload_n (pc := 67) (n := (0, 0)) (i := 1) dX7_lay_67 rfl rfl ?_
      refine Ev.aload_n (pc := 68) (n := (0, 0)) (i := 0) dX7_lay_68 rfl rfl ?_
      refine Ev.gR (pc := 69) (n := (0, 0)) (r := (some 261)) dX7_lay_69 fl_X7_7 (zk_at hR.1 rfl) rfl hR.2.1 ?_
      refine Ev.iconst (pc := 72) (n := (0, 0)) dX7_lay_72 ?_
      refine Ev.ia (pc := 73) (n := (0, 0)) (x := (i : Int)) dX7_lay_73 (zk_at hR.1 rfl) (by omega) (by omega) ((congrFun e261 0).trans hn) ?_
      refine Ev.icmp_ge (pc := 74) (n := (0, 0)) (tgt := 93) dX7_lay_74 rfl (fun hc => ?_) (fun hc => absurd hc (by omega))
      exact Ev.vret dX7_lay_93 rfl ⟨(Nat.le_of_ble_eq_true rfl), (Nat.le_of_ble_eq_true rfl)⟩
  | succ j ih =>
    intro i I' hj hi1 hin hI ho hln hst
    have hlt : i < n := by omega
    have e261 : I' 261 = h.2.1 261 := hI 261 (by decide)
    obtain ⟨a, ha, -, hca⟩ := hO.2.2.2.2.2.2 i (by omega) hlt
    have hk := hO.1 i hlt
    have hp := hO.1 a (by omega)
    have hk1 := hO.2.2.2.2.1 i (by omega) hlt
    have hca' : rf h (ord i) 2 = rf h (ord a) 0 := hca
    obtain ⟨t1, t2, t3⟩ := ht.2.2.2 (ord i) (ord a) hk1 hk hp hca'
    obtain ⟨s1, s2, s3⟩ := hst a (by omega)
    have b1 := ht.bd hw hl (ord a) hp
    have b2 := hl.bd hw (ord a) hp
    have b3 : 0 ≤ len 0 ∧ len 0 ≤ mtot n (rf h) := hl.bd hw 0 (by omega)
    have b4 := hO.dep_le (dep := dep) (fun p x hp hx1 hx hc => hw.dep_c hp hx1 hx hc) hw.2.2.2.2.2 a (by omega)
    have em : mah n (rf h) (I' 263) (ord i) = mah n (rf h) len (ord i) := mah_congr hln _
    have er : mrl n (rf h) (I' 263) (rf h (ord i) 2) (rf h (ord i) 3) = mrl n (rf h) len (rf h (ord i) 2) (rf h (ord i) 3) := mrl_congr hln _ _
    have hs1 : ∀ m : Nat, m ≤ n → 0 ≤ zsum (fun j => if rf h j 2 = rf h (ord i) 2 ∧ rf h j 3 = rf h (ord i) 3 then I' 263 j else 0) m ∧ zsum (fun j => if rf h j 2 = rf h (ord i) 2 ∧ rf h j 3 = rf h (ord i) 3 then I' 263 j else 0) m ≤ 1000000000 := fun m hm => by
      have e9 : zsum (fun j => if rf h j 2 = rf h (ord i) 2 ∧ rf h j 3 = rf h (ord i) 3 then I' 263 j else 0) m = zsum (fun j => if rf h j 2 = rf h (ord i) 2 ∧ rf h j 3 = rf h (ord i) 3 then len j else 0) m := zsum_congr fun k hk => by rw [hln k (by omega)]
      rw [e9]
      have := mrl_bd hw hl (rf h (ord i) 2) (rf h (ord i) 3) m hm
      omega
    have hs2 : ∀ m : Nat, m ≤ n → 0 ≤ zsum (fun o => if (rf h o 2 = rf h (ord i) 2 ∧ rf h o 3 = rf h (ord i) 3) ∧ rf h o 4 < rf h (ord i) 4 then I' 263 o else 0) m ∧ zsum (fun o => if (rf h o 2 = rf h (ord i) 2 ∧ rf h o 3 = rf h (ord i) 3) ∧ rf h o 4 < rf h (ord i) 4 then I' 263 o else 0) m ≤ 1000000000 := fun m hm => by
      have e9 : zsum (fun o => if (rf h o 2 = rf h (ord i) 2 ∧ rf h o 3 = rf h (ord i) 3) ∧ rf h o 4 < rf h (ord i) 4 then I' 263 o else 0) m = zsum (fun o => if (rf h o 2 = rf h (ord i) 2 ∧ rf h o 3 = rf h (ord i) 3) ∧ rf h o 4 < rf h (ord i) 4 then len o else 0) m := zsum_congr fun k hk => by rw [hln k (by omega)]
      rw [e9]
      have := mah_bd hw hl hk m hm
      omega
    have hLp : I' 263 (ord a) = len (ord a) := hln _ hp
    have step := s_layTimes hR e261 (Ln := I' 263) rfl hn hn1.2 hk hp (hw.par hp hca'.symm) hs1 hs2 ⟨by omega, by omega, by omega, by omega⟩
    rw [em, er, s1, s2, s3, hLp, ← t1, ← t2, ← t3] at step
    have hno : ∀ b : Nat, b < i → (ord b : Int) ≠ ord i := fun b hb e => by
      have := hO.2.1 b i (by omega) hlt (by omega)
      omega
    obtain ⟨I2, r1, r2⟩ := ih (i + 1) (zup (zup (zup I' 264 (ord i) (st (ord i))) 265 (ord i) (sl (ord i))) 266 (ord i) (dp (ord i))) (by omega) (by omega) (by omega) (fun o ho2 => by
      funext x
      rw [zup_o _ _ _ _ (by omega), zup_o _ _ _ _ (by omega), zup_o _ _ _ _ (by omega), hI o ho2]) (fun b hb => by
      rw [zup_o _ _ _ _ (by omega), zup_o _ _ _ _ (by omega), zup_o _ _ _ _ (by omega)]
      exact ho b hb) (fun k hk => by
      rw [zup_o _ _ _ _ (by omega), zup_o _ _ _ _ (by omega), zup_o _ _ _ _ (by omega)]
      exact hln k hk) (fun b hb => by
      by_cases e : b = i
      · subst e
        refine ⟨?_, ?_, ?_⟩ <;> simp [zup]
      · have h9 := hno b (by omega)
        have := hst b (by omega)
        simp [zup, h9, this])
    refine ⟨I2, r1, ?_⟩
    refine Ev.iload_n (pc := 67) (n := (0, 0)) (i := 1) dX7_lay_67 rfl rfl ?_
    refine Ev.aload_n (pc := 68) (n := (0, 0)) (i := 0) dX7_lay_68 rfl rfl ?_
    refine Ev.gR (pc := 69) (n := (0, 0)) (r := (some 261)) dX7_lay_69 fl_X7_7 (zk_at hR.1 rfl) rfl hR.2.1 ?_
    refine Ev.iconst (pc := 72) (n := (0, 0)) dX7_lay_72 ?_
    refine Ev.ia (pc := 73) (n := (0, 0)) (x := (n : Int)) dX7_lay_73 (zk_at hR.1 rfl) (by omega) (by omega) ((congrFun e261 0).trans hn) ?_
    refine Ev.icmp_ge (pc := 74) (n := (0, 0)) (tgt := 93) dX7_lay_74 rfl (fun hc => absurd hc (by omega)) (fun hc => ?_)
    refine Ev.aload_n (pc := 77) (n := (0, 0)) (i := 0) dX7_lay_77 rfl rfl ?_
    refine Ev.aload_n (pc := 78) (n := (0, 0)) (i := 0) dX7_lay_78 rfl rfl ?_
    refine Ev.gR (pc := 79) (n := (0, 0)) (r := (some 267)) dX7_lay_79 fl_X7_28 (zk_at hR.1 rfl) rfl hR.2.2.2.2.2.2.2.1 ?_
    refine Ev.iload_n (pc := 82) (n := (0, 0)) (i := 1) dX7_lay_82 rfl rfl ?_
    refine Ev.ia (pc := 83) (n := (0, 0)) (x := (ord i : Int)) dX7_lay_83 (zk_at hR.1 rfl) (by omega) (by omega) (ho i hlt) ?_
    refine Ev.callV (pc := 84) (n := (0, 0)) (ob := 260) (as := [zi (ord i : Int)]) (st := []) (step) dX7_lay_84 ok_X7_layTimes (lk_X7_80 rfl) ⟨(Nat.le_of_ble_eq_true rfl), (Nat.le_of_ble_eq_true rfl)⟩ (zk_at hR.1 rfl) ⟨by decide, rfl⟩ rfl (Nat.le_of_ble_eq_true rfl) (Nat.le_of_ble_eq_true rfl) ⟨(Nat.le_of_ble_eq_true rfl), (Nat.le_of_ble_eq_true rfl)⟩ ?_
    refine Ev.iinc (pc := 87) (n := (0, 0)) (L' := [(1, zi ((i : Int) + 1)), (0, zr (some 260))]) dX7_lay_87 rfl (Nat.le_of_ble_eq_true rfl) ⟨by omega, by omega⟩ rfl ?_
    refine Ev.goto (pc := 90) (n := (0, 0)) (tgt := 67) dX7_lay_90 rfl ?_
    refine Ev.perm [1, 0] rfl ?_
    exact r2
theorem s_lay1 {h : zH} (hR : zRM h) {n : Nat} {dep : Nat → Nat} {B : Int} (hn : h.2.1 261 0 = n) (hw : WF n (rf h) dep B) (hB : 24 * (60 + B) ≤ 1000000000) {len st sl dp : Int → Int} (hl : IsLen n (rf h) len) (ht : IsTm n (rf h) len st sl dp) {ord : Nat → Nat} (hO : BInv n (fun p x => rf h x 2 = rf h p 0) ord n 0 n) : ∀ (i : Nat) (I' : Nat → Int → Int), i ≤ n → (∀ o, o ≠ 263 → o ≠ 267 → I' o = h.2.1 o) → (∀ a : Nat, a < n → I' 267 a = ord a) → (∀ a : Nat, i ≤ a → a < n → I' 263 (ord a) = len (ord a)) →
  ∃ I2 : Nat → Int → Int, zLaid h.2.1 I2 n len st sl dp ∧ Ev M_X7_lay 13 [(0, zr (some 260)), (1, zi ((i : Int) - 1))] [] (h.1, I', h.2.2) (0, 0) (.inl none, (h.1, I2, h.2.2)) := by
  intro i
  have hdd : ∀ x, 1 ≤ x → x < n → ∃ p, p < n ∧ (fun p x => rf h x 2 = rf h p 0) p x ∧ dep x = dep p + 1 := fun x hx1 hx => by
    obtain ⟨-, -, p, hp, e3, -, e4⟩ := hw.2.2.2.2.1 x hx1 hx
    exact ⟨p, hp, e3, e4⟩
  have hall := (hO.done hdd).2
  have hM := mtot_le hw
  have hn1 := hw.1
  induction i with
  | zero =>
    intro I' hin hI ho hln
    have e261 : I' 261 = h.2.1 261 := hI 261 (by decide) (by decide)
    obtain ⟨I2, r1, r2⟩ := s_lay2 hR hn hw hB hl ht hO (n - 1) 1 (zup (zup (zup I' 264 0 0) 265 0 0) 266 0 0) (by omega) (by omega) (by omega) (fun o ho2 => by
      funext x
      rw [zup_o _ _ _ _ (by omega), zup_o _ _ _ _ (by omega), zup_o _ _ _ _ (by omega), hI o (by omega) (by omega)]) (fun b hb => by
      rw [zup_o _ _ _ _ (by omega), zup_o _ _ _ _ (by omega), zup_o _ _ _ _ (by omega)]
      exact ho b hb) (fun k hk => by
      rw [zup_o _ _ _ _ (by omega), zup_o _ _ _ _ (by omega), zup_o _ _ _ _ (by omega)]
      obtain ⟨a, ha, e⟩ := hall k hk
      rw [← e]
      exact hln a (Nat.zero_le _) ha) (fun b hb => by
      have e0 : b = 0 := by omega
      subst e0
      have h0 := hO.2.2.1
      rw [h0]
      have a1 := ht.1
      have a2 := ht.2.1
      have a3 := ht.2.2.1
      simp only [Int.natCast_zero]
      refine ⟨?_, ?_, ?_⟩ <;> simp [zup, a1, a2, a3])
    refine ⟨I2, r1, ?_⟩
    refine Ev.iload_n (pc := 13) (n := (0, 0)) (i := 1) dX7_lay_13 rfl rfl ?_
    refine Ev.if_lt (pc := 14) (n := (0, 0)) (tgt := 44) dX7_lay_14 rfl (fun hc => ?_) (fun hc => absurd (by decide) hc)
    refine Ev.aload_n (pc := 44) (n := (0, 0)) (i := 0) dX7_lay_44 rfl rfl ?_
    refine Ev.gR (pc := 45) (n := (0, 0)) (r := (some 264)) dX7_lay_45 fl_X7_19 (zk_at hR.1 rfl) rfl hR.2.2.2.2.1 ?_
    refine Ev.iconst (pc := 48) (n := (0, 0)) dX7_lay_48 ?_
    refine Ev.iconst (pc := 49) (n := (0, 0)) dX7_lay_49 ?_
    refine Ev.iast (pc := 50) (n := (0, 0)) dX7_lay_50 (zk_at hR.1 rfl) (by omega) (by omega) ?_
    refine Ev.aload_n (pc := 51) (n := (0, 0)) (i := 0) dX7_lay_51 rfl rfl ?_
    refine Ev.gR (pc := 52) (n := (0, 0)) (r := (some 265)) dX7_lay_52 fl_X7_22 (zk_at hR.1 rfl) rfl hR.2.2.2.2.2.1 ?_
    refine Ev.iconst (pc := 55) (n := (0, 0)) dX7_lay_55 ?_
    refine Ev.iconst (pc := 56) (n := (0, 0)) dX7_lay_56 ?_
    refine Ev.iast (pc := 57) (n := (0, 0)) dX7_lay_57 (zk_at hR.1 rfl) (by omega) (by omega) ?_
    refine Ev.aload_n (pc := 58) (n := (0, 0)) (i := 0) dX7_lay_58 rfl rfl ?_
    refine Ev.gR (pc := 59) (n := (0, 0)) (r := (some 266)) dX7_lay_59 fl_X7_25 (zk_at hR.1 rfl) rfl hR.2.2.2.2.2.2.1 ?_
    refine Ev.iconst (pc := 62) (n := (0, 0)) dX7_lay_62 ?_
    refine Ev.iconst (pc := 63) (n := (0, 0)) dX7_lay_63 ?_
    refine Ev.iast (pc := 64) (n := (0, 0)) dX7_lay_64 (zk_at hR.1 rfl) (by omega) (by omega) ?_
    refine Ev.iconst (pc := 65) (n := (0, 0)) dX7_lay_65 ?_
    refine Ev.istore_n (pc := 66) (n := (0, 0)) (i := 1) (L' := [(1, zi 1), (0, zr (some 260))]) dX7_lay_66 rfl (Nat.le_of_ble_eq_true rfl) rfl ?_
    refine Ev.perm [1, 0] rfl ?_
    exact r2
  | succ i ih =>
    intro I' hin hI ho hln
    have hlt : i < n := by omega
    have e261 : I' 261 = h.2.1 261 := hI 261 (by decide) (by decide)
    have hk := hO.1 i hlt
    have hch : ∀ c : Nat, 1 ≤ c → c < n → rf h c 2 = rf h (ord i) 0 → I' 263 c = len c := fun c hc1 hc e => by
      obtain ⟨b, hb, eb⟩ := hall c hc
      have hb0 : 0 < b := by
        rcases Nat.eq_zero_or_pos b with g | g
        · subst g
          have := hO.2.2.1
          omega
        · exact g
      obtain ⟨a, ha, -, hca⟩ := hO.2.2.2.2.2.2 b hb0 hb
      have hca' : rf h (ord b) 2 = rf h (ord a) 0 := hca
      rw [eb, e] at hca'
      have e2 := hw.num_inj hk (hO.1 a (by omega)) hca'
      have e3 := hO.2.1 i a hlt (by omega) e2
      rw [← eb]
      exact hln b (by omega) hb
    have hs : ∀ r : Int, 0 ≤ r ∧ r ≤ 3 → ∀ m : Nat, m ≤ n → -1000000000 ≤ zsum (fun j => if rf h j 2 = rf h (ord i) 0 ∧ rf h j 3 = r then I' 263 j else 0) m ∧ zsum (fun j => if rf h j 2 = rf h (ord i) 0 ∧ rf h j 3 = r then I' 263 j else 0) m ≤ 1000000000 := fun r hr m hm => by
      have e9 : zsum (fun j => if rf h j 2 = rf h (ord i) 0 ∧ rf h j 3 = r then I' 263 j else 0) m = zsum (fun j => if rf h j 2 = rf h (ord i) 0 ∧ rf h j 3 = r then len j else 0) m := zsum_congr fun c hc => by
        by_cases g : rf h c 2 = rf h (ord i) 0 ∧ rf h c 3 = r
        · rw [if_pos g, if_pos g]
          refine hch c ?_ (by omega) g.1
          rcases Nat.eq_zero_or_pos c with e0 | e0
          · subst e0; exact absurd g.1 (hw.root2 hk)
          · exact e0
        · rw [if_neg g, if_neg g]
      rw [e9]
      have := mrl_bd hw hl (rf h (ord i) 0) r m hm
      omega
    have hb := hw.2.2.2.1 (ord i) hk
    have hBB : 0 ≤ B := by omega
    have step := s_lengthOf hR e261 (Ln := I' 263) rfl hn hn1.2 hk hs ⟨by omega, by omega⟩
    have em : mln n (rf h) (I' 263) (ord i) = len (ord i) := (mln_congr hw hk hch).trans (hl (ord i) hk).symm
    rw [em] at step
    obtain ⟨I2, r1, r2⟩ := ih (zup I' 263 (ord i) (len (ord i))) (by omega) (fun o h1 h2 => by
      funext x
      rw [zup_o _ _ _ _ h1, hI o h1 h2]) (fun b hb => by
      rw [zup_o _ _ _ _ (by omega)]
      exact ho b hb) (fun b hb1 hb2 => by
      by_cases e : b = i
      · subst e; exact zup_s _ _ _ _
      · have h9 : (ord b : Int) ≠ ord i := fun g => by
          have := hO.2.1 b i hb2 hlt (by omega)
          omega
        rw [zup_k _ _ _ _ h9]
        exact hln b (by omega) hb2)
    refine ⟨I2, r1, ?_⟩
    rw [show ((i + 1 : Nat) : Int) - 1 = (i : Int) by omega]
    refine Ev.iload_n (pc := 13) (n := (0, 0)) (i := 1) dX7_lay_13 rfl rfl ?_
    refine Ev.if_lt (pc := 14) (n := (0, 0)) (tgt := 44) dX7_lay_14 rfl (fun hc => absurd hc (by omega)) (fun hc => ?_)
    refine Ev.aload_n (pc := 17) (n := (0, 0)) (i := 0) dX7_lay_17 rfl rfl ?_
    refine Ev.gR (pc := 18) (n := (0, 0)) (r := (some 263)) dX7_lay_18 fl_X7_16 (zk_at hR.1 rfl) rfl hR.2.2.2.1 ?_
    refine Ev.aload_n (pc := 21) (n := (0, 0)) (i := 0) dX7_lay_21 rfl rfl ?_
    refine Ev.gR (pc := 22) (n := (0, 0)) (r := (some 267)) dX7_lay_22 fl_X7_28 (zk_at hR.1 rfl) rfl hR.2.2.2.2.2.2.2.1 ?_
    refine Ev.iload_n (pc := 25) (n := (0, 0)) (i := 1) dX7_lay_25 rfl rfl ?_
    refine Ev.ia (pc := 26) (n := (0, 0)) (x := (ord i : Int)) dX7_lay_26 (zk_at hR.1 rfl) (by omega) (by omega) (ho i hlt) ?_
    refine Ev.aload_n (pc := 27) (n := (0, 0)) (i := 0) dX7_lay_27 rfl rfl ?_
    refine Ev.aload_n (pc := 28) (n := (0, 0)) (i := 0) dX7_lay_28 rfl rfl ?_
    refine Ev.gR (pc := 29) (n := (0, 0)) (r := (some 267)) dX7_lay_29 fl_X7_28 (zk_at hR.1 rfl) rfl hR.2.2.2.2.2.2.2.1 ?_
    refine Ev.iload_n (pc := 32) (n := (0, 0)) (i := 1) dX7_lay_32 rfl rfl ?_
    refine Ev.ia (pc := 33) (n := (0, 0)) (x := (ord i : Int)) dX7_lay_33 (zk_at hR.1 rfl) (by omega) (by omega) (ho i hlt) ?_
    refine Ev.callV (pc := 34) (n := (0, 0)) (ob := 260) (as := [zi (ord i : Int)]) (st := [zi (ord i : Int), zr (some 263)]) (step) dX7_lay_34 ok_X7_lengthOf (lk_X7_77 rfl) ⟨(Nat.le_of_ble_eq_true rfl), (Nat.le_of_ble_eq_true rfl)⟩ (zk_at hR.1 rfl) ⟨by decide, rfl⟩ rfl (Nat.le_of_ble_eq_true rfl) (Nat.le_of_ble_eq_true rfl) ⟨(Nat.le_of_ble_eq_true rfl), (Nat.le_of_ble_eq_true rfl)⟩ ?_
    refine Ev.iast (pc := 37) (n := (0, 0)) dX7_lay_37 (zk_at hR.1 rfl) (by omega) (by omega) ?_
    refine Ev.iinc (pc := 38) (n := (0, 0)) (L' := [(1, zi ((i : Int) + (-1))), (0, zr (some 260))]) dX7_lay_38 rfl (Nat.le_of_ble_eq_true rfl) ⟨by omega, by omega⟩ rfl ?_
    refine Ev.goto (pc := 41) (n := (0, 0)) (tgt := 13) dX7_lay_41 rfl ?_
    refine Ev.perm [1, 0] rfl ?_
    exact r2
theorem s_lay {h : zH} (hR : zRM h) {n : Nat} {dep : Nat → Nat} {B : Int} (hn : h.2.1 261 0 = n) (hw : WF n (rf h) dep B) (hB : 24 * (60 + B) ≤ 1000000000) {len st sl dp : Int → Int} (hl : IsLen n (rf h) len) (ht : IsTm n (rf h) len st sl dp) : ∃ I2 : Nat → Int → Int, zLaid h.2.1 I2 n len st sl dp ∧ Ev M_X7_lay 0 [(0, zr (some 260))] [] h (0, 0) (.inl none, (h.1, I2, h.2.2)) := by
  obtain ⟨I', ord, r1, r2, hO, r4⟩ := s_layOrder hR hn hw
  have hn1 := hw.1
  obtain ⟨I2, q1, q2⟩ := s_lay1 hR hn hw hB hl ht hO n I' (Nat.le_refl _) (fun o _ h2 => r1 o h2) r2 (fun a h1 h2 => by omega)
  refine ⟨I2, q1, ?_⟩
  refine Ev.aload_n (pc := 0) (n := (0, 0)) (i := 0) dX7_lay_0 rfl rfl ?_
  refine Ev.callV (pc := 1) (n := (0, 0)) (ob := 260) (as := []) (st := []) (r4) dX7_lay_1 ok_X7_layOrder (lk_X7_74 rfl) ⟨(Nat.le_of_ble_eq_true rfl), (Nat.le_of_ble_eq_true rfl)⟩ (zk_at hR.1 rfl) ⟨by decide, rfl⟩ rfl (Nat.le_of_ble_eq_true rfl) (Nat.le_of_ble_eq_true rfl) ⟨(Nat.le_of_ble_eq_true rfl), (Nat.le_of_ble_eq_true rfl)⟩ ?_
  refine Ev.aload_n (pc := 4) (n := (0, 0)) (i := 0) dX7_lay_4 rfl rfl ?_
  refine Ev.gR (pc := 5) (n := (0, 0)) (r := (some 261)) dX7_lay_5 fl_X7_7 (zk_at hR.1 rfl) rfl hR.2.1 ?_
  refine Ev.iconst (pc := 8) (n := (0, 0)) dX7_lay_8 ?_
  refine Ev.ia (pc := 9) (n := (0, 0)) (x := (n : Int)) dX7_lay_9 (zk_at hR.1 rfl) (by omega) (by omega) ((congrFun (r1 261 (by decide)) 0).trans hn) ?_
  refine Ev.iconst (pc := 10) (n := (0, 0)) dX7_lay_10 ?_
  refine Ev.isub (pc := 11) (n := (0, 0)) dX7_lay_11 ⟨by omega, by omega⟩ ?_
  refine Ev.istore_n (pc := 12) (n := (0, 0)) (i := 1) (L' := [(1, zi ((n : Int) - 1)), (0, zr (some 260))]) dX7_lay_12 rfl (Nat.le_of_ble_eq_true rfl) rfl ?_
  refine Ev.perm [1, 0] rfl ?_
  exact q2
