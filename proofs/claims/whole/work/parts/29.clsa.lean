/-! ===== the class: a node's own methods ===== -/
def Nd (h : zH) (o : Nat) : Prop := h.1[o]? = some (1, 0) ∧ h.1[o + 1]? = some (5, 4) ∧ h.2.2 o 14 = some (o + 1)
def lbut (A : Int → Int) (r : Int) : Nat → Int
  | 0 => 0
  | m + 1 => if (m : Int) = r then lbut A r m else zmx (lbut A r m) (A m)
theorem s_isCritical {h : zH} {o : Nat} (hN : Nd h o) {s : Int} (e13 : h.2.1 o 13 = s) : Ev M_X3_isCritical 0 [(0, zr (some o))] [] h (0, 0) (.inl (some (zi (if s = 0 then 1 else 0))), h) := by
  refine Ev.aload_n (pc := 0) (n := (0, 0)) (i := 0) dX3_isCritical_0 rfl rfl ?_
  refine Ev.gI (pc := 1) (n := (0, 0)) (x := s) dX3_isCritical_1 fl_X3_53 hN.1 rfl e13 ?_
  refine Ev.if_ne (pc := 4) (n := (0, 0)) (tgt := 11) dX3_isCritical_4 rfl (fun h1 => ?_) (fun h1 => ?_)
  · skip
    rw [if_neg h1]
    refine Ev.iconst (pc := 11) (n := (0, 0)) dX3_isCritical_11 ?_
    exact Ev.bret dX3_isCritical_12 rfl (by decide) ⟨(Nat.le_of_ble_eq_true rfl), (Nat.le_of_ble_eq_true rfl)⟩
  · skip
    rw [if_pos h1]
    refine Ev.iconst (pc := 7) (n := (0, 0)) dX3_isCritical_7 ?_
    refine Ev.goto (pc := 8) (n := (0, 0)) (tgt := 12) dX3_isCritical_8 rfl ?_
    exact Ev.bret dX3_isCritical_12 rfl (by decide) ⟨(Nat.le_of_ble_eq_true rfl), (Nat.le_of_ble_eq_true rfl)⟩
theorem s_isCriticalTask {h : zH} {o : Nat} (hN : Nd h o) {k s : Int} (e1 : h.2.1 o 1 = k) (hk : k = 0 ∨ k = 1) (e13 : h.2.1 o 13 = s) : Ev M_X3_isCriticalTask 0 [(0, zr (some o))] [] h (0, 0) (.inl (some (zi (if k = 1 ∧ s = 0 then 1 else 0))), h) := by
  refine Ev.aload_n (pc := 0) (n := (0, 0)) (i := 0) dX3_isCriticalTask_0 rfl rfl ?_
  refine Ev.gI (pc := 1) (n := (0, 0)) (x := k) dX3_isCriticalTask_1 fl_X3_15 hN.1 rfl e1 ?_
  refine Ev.if_eq (pc := 4) (n := (0, 0)) (tgt := 18) dX3_isCriticalTask_4 rfl (fun h1 => ?_) (fun h1 => ?_)
  · skip
    rw [if_neg (fun g9 => by omega)]
    refine Ev.iconst (pc := 18) (n := (0, 0)) dX3_isCriticalTask_18 ?_
    exact Ev.bret dX3_isCriticalTask_19 rfl (by decide) ⟨(Nat.le_of_ble_eq_true rfl), (Nat.le_of_ble_eq_true rfl)⟩
  · skip
    refine Ev.aload_n (pc := 7) (n := (0, 0)) (i := 0) dX3_isCriticalTask_7 rfl rfl ?_
    refine Ev.callV (pc := 8) (n := (0, 0)) (ob := o) (as := []) (st := []) (s_isCritical hN e13) dX3_isCriticalTask_8 ok_X3_isCritical (lk_X3_60 rfl) ⟨(Nat.le_of_ble_eq_true rfl), (Nat.le_of_ble_eq_true rfl)⟩ hN.1 ⟨by decide, rfl⟩ rfl (Nat.le_of_ble_eq_true rfl) (Nat.le_of_ble_eq_true rfl) ⟨(Nat.le_of_ble_eq_true rfl), (Nat.le_of_ble_eq_true rfl)⟩ ?_
    by_cases h2 : s = 0
    · skip
      rw [if_pos h2, if_pos (show k = 1 ∧ s = 0 from ⟨by omega, h2⟩)]
      refine Ev.if_eq (pc := 11) (n := (0, 0)) (tgt := 18) dX3_isCriticalTask_11 rfl (fun hc => absurd hc (by decide)) (fun hc => ?_)
      refine Ev.iconst (pc := 14) (n := (0, 0)) dX3_isCriticalTask_14 ?_
      refine Ev.goto (pc := 15) (n := (0, 0)) (tgt := 19) dX3_isCriticalTask_15 rfl ?_
      exact Ev.bret dX3_isCriticalTask_19 rfl (by decide) ⟨(Nat.le_of_ble_eq_true rfl), (Nat.le_of_ble_eq_true rfl)⟩
    · skip
      rw [if_neg h2, if_neg (fun g9 => h2 g9.2)]
      refine Ev.if_eq (pc := 11) (n := (0, 0)) (tgt := 18) dX3_isCriticalTask_11 rfl (fun hc => ?_) (fun hc => absurd rfl hc)
      refine Ev.iconst (pc := 18) (n := (0, 0)) dX3_isCriticalTask_18 ?_
      exact Ev.bret dX3_isCriticalTask_19 rfl (by decide) ⟨(Nat.le_of_ble_eq_true rfl), (Nat.le_of_ble_eq_true rfl)⟩
theorem s_runsAt {h : zH} {o : Nat} (hN : Nd h o) {k s l t : Int} (e1 : h.2.1 o 1 = k) (hk : k = 0 ∨ k = 1) (e11 : h.2.1 o 11 = s) (e10 : h.2.1 o 10 = l) (hb : 0 ≤ s ∧ s ≤ 1000000000 ∧ 0 ≤ l ∧ l ≤ 1000000000) : Ev M_X3_runsAt 0 [(0, zr (some o)), (1, zi t)] [] h (0, 0) (.inl (some (zi (if (k = 1 ∧ s ≤ t) ∧ t < s + l then 1 else 0))), h) := by
  refine Ev.aload_n (pc := 0) (n := (0, 0)) (i := 0) dX3_runsAt_0 rfl rfl ?_
  refine Ev.gI (pc := 1) (n := (0, 0)) (x := k) dX3_runsAt_1 fl_X3_15 hN.1 rfl e1 ?_
  refine Ev.if_eq (pc := 4) (n := (0, 0)) (tgt := 32) dX3_runsAt_4 rfl (fun h1 => ?_) (fun h1 => ?_)
  · skip
    rw [if_neg (fun g9 => by omega)]
    refine Ev.iconst (pc := 32) (n := (0, 0)) dX3_runsAt_32 ?_
    exact Ev.bret dX3_runsAt_33 rfl (by decide) ⟨(Nat.le_of_ble_eq_true rfl), (Nat.le_of_ble_eq_true rfl)⟩
  · skip
    refine Ev.aload_n (pc := 7) (n := (0, 0)) (i := 0) dX3_runsAt_7 rfl rfl ?_
    refine Ev.gI (pc := 8) (n := (0, 0)) (x := s) dX3_runsAt_8 fl_X3_47 hN.1 rfl e11 ?_
    refine Ev.iload_n (pc := 11) (n := (0, 0)) (i := 1) dX3_runsAt_11 rfl rfl ?_
    refine Ev.icmp_gt (pc := 12) (n := (0, 0)) (tgt := 32) dX3_runsAt_12 rfl (fun h2 => ?_) (fun h2 => ?_)
    · skip
      rw [if_neg (fun g9 => by omega)]
      refine Ev.iconst (pc := 32) (n := (0, 0)) dX3_runsAt_32 ?_
      exact Ev.bret dX3_runsAt_33 rfl (by decide) ⟨(Nat.le_of_ble_eq_true rfl), (Nat.le_of_ble_eq_true rfl)⟩
    · skip
      refine Ev.iload_n (pc := 15) (n := (0, 0)) (i := 1) dX3_runsAt_15 rfl rfl ?_
      refine Ev.aload_n (pc := 16) (n := (0, 0)) (i := 0) dX3_runsAt_16 rfl rfl ?_
      refine Ev.gI (pc := 17) (n := (0, 0)) (x := s) dX3_runsAt_17 fl_X3_47 hN.1 rfl e11 ?_
      refine Ev.aload_n (pc := 20) (n := (0, 0)) (i := 0) dX3_runsAt_20 rfl rfl ?_
      refine Ev.gI (pc := 21) (n := (0, 0)) (x := l) dX3_runsAt_21 fl_X3_44 hN.1 rfl e10 ?_
      refine Ev.iadd (pc := 24) (n := (0, 0)) dX3_runsAt_24 ⟨by omega, by omega⟩ ?_
      refine Ev.icmp_ge (pc := 25) (n := (0, 0)) (tgt := 32) dX3_runsAt_25 rfl (fun h3 => ?_) (fun h3 => ?_)
      · skip
        rw [if_neg (fun g9 => by omega)]
        refine Ev.iconst (pc := 32) (n := (0, 0)) dX3_runsAt_32 ?_
        exact Ev.bret dX3_runsAt_33 rfl (by decide) ⟨(Nat.le_of_ble_eq_true rfl), (Nat.le_of_ble_eq_true rfl)⟩
      · skip
        rw [if_pos (show (k = 1 ∧ s ≤ t) ∧ t < s + l from ⟨⟨by omega, by omega⟩, by omega⟩)]
        refine Ev.iconst (pc := 28) (n := (0, 0)) dX3_runsAt_28 ?_
        refine Ev.goto (pc := 29) (n := (0, 0)) (tgt := 33) dX3_runsAt_29 rfl ?_
        exact Ev.bret dX3_runsAt_33 rfl (by decide) ⟨(Nat.le_of_ble_eq_true rfl), (Nat.le_of_ble_eq_true rfl)⟩
theorem s_standsIn {h : zH} {o : Nat} (hN : Nd h o) {a b g r : Int} (e2 : h.2.1 o 2 = a) (e3 : h.2.1 o 3 = b) : Ev M_X3_standsIn 0 [(0, zr (some o)), (1, zi g), (2, zi r)] [] h (0, 0) (.inl (some (zi (if a = g ∧ b = r then 1 else 0))), h) := by
  refine Ev.aload_n (pc := 0) (n := (0, 0)) (i := 0) dX3_standsIn_0 rfl rfl ?_
  refine Ev.gI (pc := 1) (n := (0, 0)) (x := a) dX3_standsIn_1 fl_X3_19 hN.1 rfl e2 ?_
  refine Ev.iload_n (pc := 4) (n := (0, 0)) (i := 1) dX3_standsIn_4 rfl rfl ?_
  refine Ev.icmp_ne (pc := 5) (n := (0, 0)) (tgt := 20) dX3_standsIn_5 rfl (fun h1 => ?_) (fun h1 => ?_)
  · skip
    rw [if_neg (fun g9 => h1 g9.1)]
    refine Ev.iconst (pc := 20) (n := (0, 0)) dX3_standsIn_20 ?_
    exact Ev.bret dX3_standsIn_21 rfl (by decide) ⟨(Nat.le_of_ble_eq_true rfl), (Nat.le_of_ble_eq_true rfl)⟩
  · skip
    refine Ev.aload_n (pc := 8) (n := (0, 0)) (i := 0) dX3_standsIn_8 rfl rfl ?_
    refine Ev.gI (pc := 9) (n := (0, 0)) (x := b) dX3_standsIn_9 fl_X3_22 hN.1 rfl e3 ?_
    refine Ev.iload_n (pc := 12) (n := (0, 0)) (i := 2) dX3_standsIn_12 rfl rfl ?_
    refine Ev.icmp_ne (pc := 13) (n := (0, 0)) (tgt := 20) dX3_standsIn_13 rfl (fun h2 => ?_) (fun h2 => ?_)
    · skip
      rw [if_neg (fun g9 => h2 g9.2)]
      refine Ev.iconst (pc := 20) (n := (0, 0)) dX3_standsIn_20 ?_
      exact Ev.bret dX3_standsIn_21 rfl (by decide) ⟨(Nat.le_of_ble_eq_true rfl), (Nat.le_of_ble_eq_true rfl)⟩
    · skip
      rw [if_pos (show a = g ∧ b = r from ⟨h1, h2⟩)]
      refine Ev.iconst (pc := 16) (n := (0, 0)) dX3_standsIn_16 ?_
      refine Ev.goto (pc := 17) (n := (0, 0)) (tgt := 21) dX3_standsIn_17 rfl ?_
      exact Ev.bret dX3_standsIn_21 rfl (by decide) ⟨(Nat.le_of_ble_eq_true rfl), (Nat.le_of_ble_eq_true rfl)⟩
theorem s_rowLengthN {h : zH} {o : Nat} (hN : Nd h o) {r : Int} : Ev M_X3_rowLength 0 [(0, zr (some o)), (1, zi r)] [] h (0, 0) (.inl (some (zi (if 0 ≤ r ∧ r < 4 then h.2.1 (o + 1) r else 0))), h) := by
  refine Ev.iload_n (pc := 0) (n := (0, 0)) (i := 1) dX3_rowLength_0 rfl rfl ?_
  refine Ev.if_lt (pc := 1) (n := (0, 0)) (tgt := 18) dX3_rowLength_1 rfl (fun h1 => ?_) (fun h1 => ?_)
  · skip
    rw [if_neg (fun g9 => by omega)]
    refine Ev.iconst (pc := 18) (n := (0, 0)) dX3_rowLength_18 ?_
    exact Ev.iret dX3_rowLength_19 rfl ⟨(Nat.le_of_ble_eq_true rfl), (Nat.le_of_ble_eq_true rfl)⟩
  · skip
    refine Ev.iload_n (pc := 4) (n := (0, 0)) (i := 1) dX3_rowLength_4 rfl rfl ?_
    refine Ev.iconst (pc := 5) (n := (0, 0)) dX3_rowLength_5 ?_
    refine Ev.icmp_ge (pc := 6) (n := (0, 0)) (tgt := 18) dX3_rowLength_6 rfl (fun h2 => ?_) (fun h2 => ?_)
    · skip
      rw [if_neg (fun g9 => by omega)]
      refine Ev.iconst (pc := 18) (n := (0, 0)) dX3_rowLength_18 ?_
      exact Ev.iret dX3_rowLength_19 rfl ⟨(Nat.le_of_ble_eq_true rfl), (Nat.le_of_ble_eq_true rfl)⟩
    · skip
      rw [if_pos (show 0 ≤ r ∧ r < 4 from ⟨by omega, by omega⟩)]
      refine Ev.aload_n (pc := 9) (n := (0, 0)) (i := 0) dX3_rowLength_9 rfl rfl ?_
      refine Ev.gR (pc := 10) (n := (0, 0)) (r := (some (o + 1))) dX3_rowLength_10 fl_X3_56 hN.1 rfl hN.2.2 ?_
      refine Ev.iload_n (pc := 13) (n := (0, 0)) (i := 1) dX3_rowLength_13 rfl rfl ?_
      refine Ev.ia (pc := 14) (n := (0, 0)) (x := (h).2.1 (o + 1) r) dX3_rowLength_14 hN.2.1 (by omega) (by omega) rfl ?_
      refine Ev.goto (pc := 15) (n := (0, 0)) (tgt := 19) dX3_rowLength_15 rfl ?_
      exact Ev.iret dX3_rowLength_19 rfl ⟨(Nat.le_of_ble_eq_true rfl), (Nat.le_of_ble_eq_true rfl)⟩
theorem s_lengthenRow {h : zH} {o : Nat} (hN : Nd h o) {r b : Int} (hr : 0 ≤ r ∧ r < 4) (hb : -2000000000 ≤ h.2.1 (o + 1) r + b ∧ h.2.1 (o + 1) r + b ≤ 2000000000) : Ev M_X3_lengthenRow 0 [(0, zr (some o)), (1, zi r), (2, zi b)] [] h (0, 0) (.inl none, (h.1, zup h.2.1 (o + 1) r (h.2.1 (o + 1) r + b), h.2.2)) := by
  refine Ev.iload_n (pc := 0) (n := (0, 0)) (i := 1) dX3_lengthenRow_0 rfl rfl ?_
  refine Ev.if_lt (pc := 1) (n := (0, 0)) (tgt := 19) dX3_lengthenRow_1 rfl (fun hc => absurd hc (by omega)) (fun hc => ?_)
  refine Ev.iload_n (pc := 4) (n := (0, 0)) (i := 1) dX3_lengthenRow_4 rfl rfl ?_
  refine Ev.iconst (pc := 5) (n := (0, 0)) dX3_lengthenRow_5 ?_
  refine Ev.icmp_ge (pc := 6) (n := (0, 0)) (tgt := 19) dX3_lengthenRow_6 rfl (fun hc2 => absurd hc2 (by omega)) (fun hc2 => ?_)
  refine Ev.aload_n (pc := 9) (n := (0, 0)) (i := 0) dX3_lengthenRow_9 rfl rfl ?_
  refine Ev.gR (pc := 10) (n := (0, 0)) (r := (some (o + 1))) dX3_lengthenRow_10 fl_X3_56 hN.1 rfl hN.2.2 ?_
  refine Ev.iload_n (pc := 13) (n := (0, 0)) (i := 1) dX3_lengthenRow_13 rfl rfl ?_
  refine Ev.dup2 (pc := 14) (n := (0, 0)) dX3_lengthenRow_14 rfl rfl ?_
  refine Ev.ia (pc := 15) (n := (0, 0)) (x := (h).2.1 (o + 1) r) dX3_lengthenRow_15 hN.2.1 (by omega) (by omega) rfl ?_
  refine Ev.iload_n (pc := 16) (n := (0, 0)) (i := 2) dX3_lengthenRow_16 rfl rfl ?_
  refine Ev.iadd (pc := 17) (n := (0, 0)) dX3_lengthenRow_17 ⟨by omega, by omega⟩ ?_
  refine Ev.iast (pc := 18) (n := (0, 0)) dX3_lengthenRow_18 hN.2.1 (by omega) (by omega) ?_
  exact Ev.vret dX3_lengthenRow_19 rfl ⟨(Nat.le_of_ble_eq_true rfl), (Nat.le_of_ble_eq_true rfl)⟩
theorem s_lengthenRow_no {h : zH} {o : Nat} (hN : Nd h o) {r b : Int} (hr : ¬ (0 ≤ r ∧ r < 4)) : Ev M_X3_lengthenRow 0 [(0, zr (some o)), (1, zi r), (2, zi b)] [] h (0, 0) (.inl none, h) := by
  refine Ev.iload_n (pc := 0) (n := (0, 0)) (i := 1) dX3_lengthenRow_0 rfl rfl ?_
  refine Ev.if_lt (pc := 1) (n := (0, 0)) (tgt := 19) dX3_lengthenRow_1 rfl (fun h1 => ?_) (fun h1 => ?_)
  · skip
    exact Ev.vret dX3_lengthenRow_19 rfl ⟨(Nat.le_of_ble_eq_true rfl), (Nat.le_of_ble_eq_true rfl)⟩
  · skip
    refine Ev.iload_n (pc := 4) (n := (0, 0)) (i := 1) dX3_lengthenRow_4 rfl rfl ?_
    refine Ev.iconst (pc := 5) (n := (0, 0)) dX3_lengthenRow_5 ?_
    refine Ev.icmp_ge (pc := 6) (n := (0, 0)) (tgt := 19) dX3_lengthenRow_6 rfl (fun h2 => ?_) (fun h2 => ?_)
    · skip
      exact Ev.vret dX3_lengthenRow_19 rfl ⟨(Nat.le_of_ble_eq_true rfl), (Nat.le_of_ble_eq_true rfl)⟩
    · skip
      exact absurd hr (by omega)
theorem s_longest_loop {h : zH} {o : Nat} (hN : Nd h o) {r : Int} : ∀ (j m : Nat), m ≤ 4 → 4 - m = j → Ev M_X3_longestRowBut 4 [(0, zr (some o)), (1, zi r), (2, zi (lbut (h.2.1 (o + 1)) r m)), (3, zi (m : Int))] [] h (0, 0) (.inl (some (zi (lbut (h.2.1 (o + 1)) r 4))), h) := by
  intro j
  induction j with
  | zero =>
    intro m hm hj
    have e : m = 4 := by omega
    subst e
    refine Ev.iload_n (pc := 4) (n := (0, 0)) (i := 3) dX3_longestRowBut_4 rfl rfl ?_
    refine Ev.iconst (pc := 5) (n := (0, 0)) dX3_longestRowBut_5 ?_
    refine Ev.icmp_ge (pc := 6) (n := (0, 0)) (tgt := 37) dX3_longestRowBut_6 rfl (fun hc => ?_) (fun hc => absurd hc (by omega))
    refine Ev.iload_n (pc := 37) (n := (0, 0)) (i := 2) dX3_longestRowBut_37 rfl rfl ?_
    exact Ev.iret dX3_longestRowBut_38 rfl ⟨(Nat.le_of_ble_eq_true rfl), (Nat.le_of_ble_eq_true rfl)⟩
  | succ j ih =>
    intro m hm hj
    have k9 := ih (m + 1) (by omega) (by omega)
    have ez : lbut (h.2.1 (o + 1)) r (m + 1) = if (m : Int) = r then lbut (h.2.1 (o + 1)) r m else zmx (lbut (h.2.1 (o + 1)) r m) (h.2.1 (o + 1) m) := rfl
    rw [ez] at k9
    refine Ev.iload_n (pc := 4) (n := (0, 0)) (i := 3) dX3_longestRowBut_4 rfl rfl ?_
    refine Ev.iconst (pc := 5) (n := (0, 0)) dX3_longestRowBut_5 ?_
    refine Ev.icmp_ge (pc := 6) (n := (0, 0)) (tgt := 37) dX3_longestRowBut_6 rfl (fun hc => absurd hc (by omega)) (fun hc => ?_)
    refine Ev.iload_n (pc := 9) (n := (0, 0)) (i := 3) dX3_longestRowBut_9 rfl rfl ?_
    refine Ev.iload_n (pc := 10) (n := (0, 0)) (i := 1) dX3_longestRowBut_10 rfl rfl ?_
    refine Ev.icmp_eq (pc := 11) (n := (0, 0)) (tgt := 31) dX3_longestRowBut_11 rfl (fun h1 => ?_) (fun h1 => ?_)
    · skip
      rw [if_pos h1] at k9
      refine Ev.iinc (pc := 31) (n := (0, 0)) (L' := [(3, zi ((m : Int) + 1)), (0, zr (some o)), (1, zi r), (2, zi (lbut (h.2.1 (o + 1)) r m))]) dX3_longestRowBut_31 rfl (Nat.le_of_ble_eq_true rfl) ⟨by omega, by omega⟩ rfl ?_
      refine Ev.goto (pc := 34) (n := (0, 0)) (tgt := 4) dX3_longestRowBut_34 rfl ?_
      refine Ev.perm [1, 2, 3, 0] rfl ?_
      exact k9
    · skip
      rw [if_neg h1] at k9
      unfold zmx at k9
      refine Ev.aload_n (pc := 14) (n := (0, 0)) (i := 0) dX3_longestRowBut_14 rfl rfl ?_
      refine Ev.gR (pc := 15) (n := (0, 0)) (r := (some (o + 1))) dX3_longestRowBut_15 fl_X3_56 hN.1 rfl hN.2.2 ?_
      refine Ev.iload_n (pc := 18) (n := (0, 0)) (i := 3) dX3_longestRowBut_18 rfl rfl ?_
      refine Ev.ia (pc := 19) (n := (0, 0)) (x := (h).2.1 (o + 1) (m : Int)) dX3_longestRowBut_19 hN.2.1 (by omega) (by omega) rfl ?_
      refine Ev.iload_n (pc := 20) (n := (0, 0)) (i := 2) dX3_longestRowBut_20 rfl rfl ?_
      refine Ev.icmp_le (pc := 21) (n := (0, 0)) (tgt := 31) dX3_longestRowBut_21 rfl (fun h2 => ?_) (fun h2 => ?_)
      · skip
        rw [if_neg (Int.not_lt.mpr h2)] at k9
        refine Ev.iinc (pc := 31) (n := (0, 0)) (L' := [(3, zi ((m : Int) + 1)), (0, zr (some o)), (1, zi r), (2, zi (lbut (h.2.1 (o + 1)) r m))]) dX3_longestRowBut_31 rfl (Nat.le_of_ble_eq_true rfl) ⟨by omega, by omega⟩ rfl ?_
        refine Ev.goto (pc := 34) (n := (0, 0)) (tgt := 4) dX3_longestRowBut_34 rfl ?_
        refine Ev.perm [1, 2, 3, 0] rfl ?_
        exact k9
      · skip
        rw [if_pos (Int.not_le.mp h2)] at k9
        refine Ev.aload_n (pc := 24) (n := (0, 0)) (i := 0) dX3_longestRowBut_24 rfl rfl ?_
        refine Ev.gR (pc := 25) (n := (0, 0)) (r := (some (o + 1))) dX3_longestRowBut_25 fl_X3_56 hN.1 rfl hN.2.2 ?_
        refine Ev.iload_n (pc := 28) (n := (0, 0)) (i := 3) dX3_longestRowBut_28 rfl rfl ?_
        refine Ev.ia (pc := 29) (n := (0, 0)) (x := (h).2.1 (o + 1) (m : Int)) dX3_longestRowBut_29 hN.2.1 (by omega) (by omega) rfl ?_
        refine Ev.istore_n (pc := 30) (n := (0, 0)) (i := 2) (L' := [(2, zi ((h).2.1 (o + 1) (m : Int))), (0, zr (some o)), (1, zi r), (3, zi (m : Int))]) dX3_longestRowBut_30 rfl (Nat.le_of_ble_eq_true rfl) rfl ?_
        refine Ev.iinc (pc := 31) (n := (0, 0)) (L' := [(3, zi ((m : Int) + 1)), (2, zi ((h).2.1 (o + 1) (m : Int))), (0, zr (some o)), (1, zi r)]) dX3_longestRowBut_31 rfl (Nat.le_of_ble_eq_true rfl) ⟨by omega, by omega⟩ rfl ?_
        refine Ev.goto (pc := 34) (n := (0, 0)) (tgt := 4) dX3_longestRowBut_34 rfl ?_
        refine Ev.perm [2, 3, 1, 0] rfl ?_
        exact k9
theorem s_longestRowBut {h : zH} {o : Nat} (hN : Nd h o) {r : Int} : Ev M_X3_longestRowBut 0 [(0, zr (some o)), (1, zi r)] [] h (0, 0) (.inl (some (zi (lbut (h.2.1 (o + 1)) r 4))), h) := by
  refine Ev.iconst (pc := 0) (n := (0, 0)) dX3_longestRowBut_0 ?_
  refine Ev.istore_n (pc := 1) (n := (0, 0)) (i := 2) (L' := [(2, zi 0), (0, zr (some o)), (1, zi r)]) dX3_longestRowBut_1 rfl (Nat.le_of_ble_eq_true rfl) rfl ?_
  refine Ev.iconst (pc := 2) (n := (0, 0)) dX3_longestRowBut_2 ?_
  refine Ev.istore_n (pc := 3) (n := (0, 0)) (i := 3) (L' := [(3, zi 0), (2, zi 0), (0, zr (some o)), (1, zi r)]) dX3_longestRowBut_3 rfl (Nat.le_of_ble_eq_true rfl) rfl ?_
  refine Ev.perm [2, 3, 1, 0] rfl ?_
  exact s_longest_loop hN 4 0 (by omega) (by omega)
theorem s_reserveWith {h : zH} {o : Nat} (hN : Nd h o) {u v d : Int} (e4 : h.2.1 o 4 = u) (e5 : h.2.1 o 5 = v) (hb : (0 ≤ u ∧ u ≤ 60) ∧ (0 ≤ v ∧ v ≤ 1000000000) ∧ (0 ≤ d ∧ d ≤ 61)) : Ev M_X3_reserveWith 0 [(0, zr (some o)), (1, zi d)] [] h (0, 0) (.inl (some (zi (mres u v d))), h) := by
  unfold mres
  refine Ev.iconst (pc := 0) (n := (0, 0)) dX3_reserveWith_0 ?_
  refine Ev.iload_n (pc := 1) (n := (0, 0)) (i := 1) dX3_reserveWith_1 rfl rfl ?_
  refine Ev.aload_n (pc := 2) (n := (0, 0)) (i := 0) dX3_reserveWith_2 rfl rfl ?_
  refine Ev.gI (pc := 3) (n := (0, 0)) (x := u) dX3_reserveWith_3 fl_X3_25 hN.1 rfl e4 ?_
  refine Ev.isub (pc := 6) (n := (0, 0)) dX3_reserveWith_6 ⟨by omega, by omega⟩ ?_
  refine Ev.mmax (pc := 7) (n := (0, 0)) dX3_reserveWith_7 (lk_X3_68 rfl) ⟨(Nat.le_of_ble_eq_true rfl), (Nat.le_of_ble_eq_true rfl)⟩ (Nat.le_of_ble_eq_true rfl) ⟨(Nat.le_of_ble_eq_true rfl), (Nat.le_of_ble_eq_true rfl)⟩ ?_
  have hq : 0 ≤ (if 0 < d - u then d - u else 0) ∧ (if 0 < d - u then d - u else 0) ≤ 61 := by split <;> omega
  refine Ev.istore_n (pc := 10) (n := (0, 0)) (i := 2) (L' := [(2, zi (if 0 < (d - u) then (d - u) else 0)), (0, zr (some o)), (1, zi d)]) dX3_reserveWith_10 rfl (Nat.le_of_ble_eq_true rfl) rfl ?_
  refine Ev.iconst (pc := 11) (n := (0, 0)) dX3_reserveWith_11 ?_
  refine Ev.aload_n (pc := 12) (n := (0, 0)) (i := 0) dX3_reserveWith_12 rfl rfl ?_
  refine Ev.gI (pc := 13) (n := (0, 0)) (x := v) dX3_reserveWith_13 fl_X3_28 hN.1 rfl e5 ?_
  refine Ev.iload_n (pc := 16) (n := (0, 0)) (i := 2) dX3_reserveWith_16 rfl rfl ?_
  refine Ev.isub (pc := 17) (n := (0, 0)) dX3_reserveWith_17 ⟨by omega, by omega⟩ ?_
  refine Ev.mmax (pc := 18) (n := (0, 0)) dX3_reserveWith_18 (lk_X3_68 rfl) ⟨(Nat.le_of_ble_eq_true rfl), (Nat.le_of_ble_eq_true rfl)⟩ (Nat.le_of_ble_eq_true rfl) ⟨(Nat.le_of_ble_eq_true rfl), (Nat.le_of_ble_eq_true rfl)⟩ ?_
  exact Ev.iret dX3_reserveWith_21 rfl ⟨(Nat.le_of_ble_eq_true rfl), (Nat.le_of_ble_eq_true rfl)⟩
theorem s_lengthWith {h : zH} {o : Nat} (hN : Nd h o) {u v d : Int} (e4 : h.2.1 o 4 = u) (e5 : h.2.1 o 5 = v) (hb : (0 ≤ u ∧ u ≤ 60) ∧ (0 ≤ v ∧ v ≤ 1000000000) ∧ (0 ≤ d ∧ d ≤ 61)) : Ev M_X3_lengthWith 0 [(0, zr (some o)), (1, zi d)] [] h (0, 0) (.inl (some (zi (d + mres u v d))), h) := by
  have hm := mres_rng (d := u) (r := v) (d2 := d) hb.2.1.1
  refine Ev.iload_n (pc := 0) (n := (0, 0)) (i := 1) dX3_lengthWith_0 rfl rfl ?_
  refine Ev.aload_n (pc := 1) (n := (0, 0)) (i := 0) dX3_lengthWith_1 rfl rfl ?_
  refine Ev.iload_n (pc := 2) (n := (0, 0)) (i := 1) dX3_lengthWith_2 rfl rfl ?_
  refine Ev.callV (pc := 3) (n := (0, 0)) (ob := o) (as := [zi d]) (st := [zi d]) (s_reserveWith hN e4 e5 hb) dX3_lengthWith_3 ok_X3_reserveWith (lk_X3_74 rfl) ⟨(Nat.le_of_ble_eq_true rfl), (Nat.le_of_ble_eq_true rfl)⟩ hN.1 ⟨by decide, rfl⟩ rfl (Nat.le_of_ble_eq_true rfl) (Nat.le_of_ble_eq_true rfl) ⟨(Nat.le_of_ble_eq_true rfl), (Nat.le_of_ble_eq_true rfl)⟩ ?_
  refine Ev.iadd (pc := 6) (n := (0, 0)) dX3_lengthWith_6 ⟨by omega, by omega⟩ ?_
  exact Ev.iret dX3_lengthWith_7 rfl ⟨(Nat.le_of_ble_eq_true rfl), (Nat.le_of_ble_eq_true rfl)⟩
theorem s_copyFromN {h : zH} {o : Nat} (hN : Nd h o) {p : Nat} (hP : h.1[p]? = some (1, 0)) (hne : p ≠ o) (hb : h.2.1 p 1 = 0 ∨ h.2.1 p 1 = 1) : Ev M_X3_copyFrom 0 [(0, zr (some o)), (1, zr (some p))] [] h (0, 0) (.inl none, (h.1, (zup (zup (zup (zup (zup (zup h.2.1 o 0 (h.2.1 p 0)) o 1 (h.2.1 p 1)) o 2 (h.2.1 p 2)) o 3 (h.2.1 p 3)) o 4 (h.2.1 p 4)) o 5 (h.2.1 p 5)), h.2.2)) := by
  refine Ev.aload_n (pc := 0) (n := (0, 0)) (i := 0) dX3_copyFrom_0 rfl rfl ?_
  refine Ev.aload_n (pc := 1) (n := (0, 0)) (i := 1) dX3_copyFrom_1 rfl rfl ?_
  refine Ev.gI (pc := 2) (n := (0, 0)) (x := (h.2.1 p 0)) dX3_copyFrom_2 fl_X3_9 hP rfl rfl ?_
  refine Ev.putI (pc := 5) (n := (0, 0)) dX3_copyFrom_5 fl_X3_9 hN.1 rfl rfl (fun h9 => by cases h9) ?_
  refine Ev.aload_n (pc := 8) (n := (0, 0)) (i := 0) dX3_copyFrom_8 rfl rfl ?_
  refine Ev.aload_n (pc := 9) (n := (0, 0)) (i := 1) dX3_copyFrom_9 rfl rfl ?_
  refine Ev.gI (pc := 10) (n := (0, 0)) (x := (h.2.1 p 1)) dX3_copyFrom_10 fl_X3_15 hP rfl (show (zup h.2.1 o 0 (h.2.1 p 0)) p 1 = h.2.1 p 1 by rw [zup_o _ _ _ _ hne]) ?_
  refine Ev.putI (pc := 13) (n := (0, 0)) dX3_copyFrom_13 fl_X3_15 hN.1 rfl rfl (fun _ => hb) ?_
  refine Ev.aload_n (pc := 16) (n := (0, 0)) (i := 0) dX3_copyFrom_16 rfl rfl ?_
  refine Ev.aload_n (pc := 17) (n := (0, 0)) (i := 1) dX3_copyFrom_17 rfl rfl ?_
  refine Ev.gI (pc := 18) (n := (0, 0)) (x := (h.2.1 p 2)) dX3_copyFrom_18 fl_X3_19 hP rfl (show (zup (zup h.2.1 o 0 (h.2.1 p 0)) o 1 (h.2.1 p 1)) p 2 = h.2.1 p 2 by rw [zup_o _ _ _ _ hne, zup_o _ _ _ _ hne]) ?_
  refine Ev.putI (pc := 21) (n := (0, 0)) dX3_copyFrom_21 fl_X3_19 hN.1 rfl rfl (fun h9 => by cases h9) ?_
  refine Ev.aload_n (pc := 24) (n := (0, 0)) (i := 0) dX3_copyFrom_24 rfl rfl ?_
  refine Ev.aload_n (pc := 25) (n := (0, 0)) (i := 1) dX3_copyFrom_25 rfl rfl ?_
  refine Ev.gI (pc := 26) (n := (0, 0)) (x := (h.2.1 p 3)) dX3_copyFrom_26 fl_X3_22 hP rfl (show (zup (zup (zup h.2.1 o 0 (h.2.1 p 0)) o 1 (h.2.1 p 1)) o 2 (h.2.1 p 2)) p 3 = h.2.1 p 3 by rw [zup_o _ _ _ _ hne, zup_o _ _ _ _ hne, zup_o _ _ _ _ hne]) ?_
  refine Ev.putI (pc := 29) (n := (0, 0)) dX3_copyFrom_29 fl_X3_22 hN.1 rfl rfl (fun h9 => by cases h9) ?_
  refine Ev.aload_n (pc := 32) (n := (0, 0)) (i := 0) dX3_copyFrom_32 rfl rfl ?_
  refine Ev.aload_n (pc := 33) (n := (0, 0)) (i := 1) dX3_copyFrom_33 rfl rfl ?_
  refine Ev.gI (pc := 34) (n := (0, 0)) (x := (h.2.1 p 4)) dX3_copyFrom_34 fl_X3_25 hP rfl (show (zup (zup (zup (zup h.2.1 o 0 (h.2.1 p 0)) o 1 (h.2.1 p 1)) o 2 (h.2.1 p 2)) o 3 (h.2.1 p 3)) p 4 = h.2.1 p 4 by rw [zup_o _ _ _ _ hne, zup_o _ _ _ _ hne, zup_o _ _ _ _ hne, zup_o _ _ _ _ hne]) ?_
  refine Ev.putI (pc := 37) (n := (0, 0)) dX3_copyFrom_37 fl_X3_25 hN.1 rfl rfl (fun h9 => by cases h9) ?_
  refine Ev.aload_n (pc := 40) (n := (0, 0)) (i := 0) dX3_copyFrom_40 rfl rfl ?_
  refine Ev.aload_n (pc := 41) (n := (0, 0)) (i := 1) dX3_copyFrom_41 rfl rfl ?_
  refine Ev.gI (pc := 42) (n := (0, 0)) (x := (h.2.1 p 5)) dX3_copyFrom_42 fl_X3_28 hP rfl (show (zup (zup (zup (zup (zup h.2.1 o 0 (h.2.1 p 0)) o 1 (h.2.1 p 1)) o 2 (h.2.1 p 2)) o 3 (h.2.1 p 3)) o 4 (h.2.1 p 4)) p 5 = h.2.1 p 5 by rw [zup_o _ _ _ _ hne, zup_o _ _ _ _ hne, zup_o _ _ _ _ hne, zup_o _ _ _ _ hne, zup_o _ _ _ _ hne]) ?_
  refine Ev.putI (pc := 45) (n := (0, 0)) dX3_copyFrom_45 fl_X3_28 hN.1 rfl rfl (fun h9 => by cases h9) ?_
  exact Ev.vret dX3_copyFrom_48 rfl ⟨(Nat.le_of_ble_eq_true rfl), (Nat.le_of_ble_eq_true rfl)⟩
