/-! ===== the class: commands of a text ===== -/
theorem s_appendC {h : zH} {I : Nat → Int → Int} (hM : zCM h) {t : Int → Int} {L : Nat} (hT : TXC I t L) (v : Int) : Ev M_X2_append 0 [(0, zr (some 1)), (1, zi v)] [] (h.1, I, h.2.2) (0, 0) (.inl (some (zi (if L < 150 then 1 else 0))), (h.1, (if L < 150 then zup (zup I 2 L v) 1 1 ((L : Int) + 1) else I), h.2.2)) := by
  have hL := hT.2.1
  refine Ev.aload_n (pc := 0) (n := (0, 0)) (i := 0) dX2_append_0 rfl rfl ?_
  refine Ev.gI (pc := 1) (n := (0, 0)) (x := (L : Int)) dX2_append_1 fl_X2_15 (zk_at hM.1 rfl) rfl hT.1 ?_
  refine Ev.sipush (pc := 4) (n := (0, 0)) dX2_append_4 ?_
  refine Ev.icmp_lt (pc := 7) (n := (0, 0)) (tgt := 12) dX2_append_7 rfl (fun hc => ?_) (fun hc => ?_)
  · skip
    refine Ev.aload_n (pc := 12) (n := (0, 0)) (i := 0) dX2_append_12 rfl rfl ?_
    refine Ev.gR (pc := 13) (n := (0, 0)) (r := (some 2)) dX2_append_13 fl_X2_9 (zk_at hM.1 rfl) rfl hM.2.1 ?_
    refine Ev.aload_n (pc := 16) (n := (0, 0)) (i := 0) dX2_append_16 rfl rfl ?_
    refine Ev.gI (pc := 17) (n := (0, 0)) (x := (L : Int)) dX2_append_17 fl_X2_15 (zk_at hM.1 rfl) rfl hT.1 ?_
    refine Ev.iload_n (pc := 20) (n := (0, 0)) (i := 1) dX2_append_20 rfl rfl ?_
    refine Ev.iast (pc := 21) (n := (0, 0)) dX2_append_21 (zk_at hM.1 rfl) (by omega) (by omega) ?_
    refine Ev.aload_n (pc := 22) (n := (0, 0)) (i := 0) dX2_append_22 rfl rfl ?_
    refine Ev.dup (pc := 23) (n := (0, 0)) dX2_append_23 rfl ?_
    refine Ev.gI (pc := 24) (n := (0, 0)) (x := (L : Int)) dX2_append_24 fl_X2_15 (zk_at hM.1 rfl) rfl hT.1 ?_
    refine Ev.iconst (pc := 27) (n := (0, 0)) dX2_append_27 ?_
    refine Ev.iadd (pc := 28) (n := (0, 0)) dX2_append_28 ⟨by omega, by omega⟩ ?_
    refine Ev.putI (pc := 29) (n := (0, 0)) dX2_append_29 fl_X2_15 (zk_at hM.1 rfl) rfl rfl (fun h9 => by cases h9) ?_
    refine Ev.iconst (pc := 32) (n := (0, 0)) dX2_append_32 ?_
    have e9 : (L : Int) < 150 := hc
    rw [if_pos (show L < 150 by omega), if_pos (show L < 150 by omega)]
    exact Ev.bret dX2_append_33 rfl (by decide) ⟨(Nat.le_of_ble_eq_true rfl), (Nat.le_of_ble_eq_true rfl)⟩
  · skip
    rw [if_neg (show ¬ L < 150 by omega), if_neg (show ¬ L < 150 by omega)]
    refine Ev.iconst (pc := 10) (n := (0, 0)) dX2_append_10 ?_
    exact Ev.bret dX2_append_11 rfl (by decide) ⟨(Nat.le_of_ble_eq_true rfl), (Nat.le_of_ble_eq_true rfl)⟩
theorem s_rewindC {h : zH} {I : Nat → Int → Int} (hM : zCM h) : Ev M_X2_rewind 0 [(0, zr (some 1))] [] (h.1, I, h.2.2) (0, 0) (.inl none, (h.1, zup (zup I 1 3 0) 1 4 (-1), h.2.2)) := by
  refine Ev.aload_n (pc := 0) (n := (0, 0)) (i := 0) dX2_rewind_0 rfl rfl ?_
  refine Ev.iconst (pc := 1) (n := (0, 0)) dX2_rewind_1 ?_
  refine Ev.putI (pc := 2) (n := (0, 0)) dX2_rewind_2 fl_X2_22 (zk_at hM.1 rfl) rfl rfl (fun h9 => by cases h9) ?_
  refine Ev.aload_n (pc := 5) (n := (0, 0)) (i := 0) dX2_rewind_5 rfl rfl ?_
  refine Ev.iconst (pc := 6) (n := (0, 0)) dX2_rewind_6 ?_
  refine Ev.putI (pc := 7) (n := (0, 0)) dX2_rewind_7 fl_X2_25 (zk_at hM.1 rfl) rfl rfl (fun h9 => by cases h9) ?_
  exact Ev.vret dX2_rewind_10 rfl ⟨(Nat.le_of_ble_eq_true rfl), (Nat.le_of_ble_eq_true rfl)⟩
theorem s_digits_loop {h : zH} (hM : zCM h) {t : Int → Int} {L : Nat} : ∀ (f : Nat) (v : Int) (q : Nat) (I : Nat → Int → Int), ((f = 3 ∧ v = 0) ∨ (f = 2 ∧ 0 ≤ v ∧ v ≤ 9) ∨ (f = 1 ∧ 0 ≤ v ∧ v ≤ 99) ∨ (f = 0 ∧ 0 ≤ v ∧ v ≤ 999)) → TXC I t L → I 1 3 = q → q ≤ L → Ev M_X2_readDigits 4 [(0, zr (some 1)), (1, zi v), (2, zi (3 - (f : Int)))] [] (h.1, I, h.2.2) (0, 0) (.inl (some (zi (dvF t L f v q))), (h.1, zup I 1 3 ((q + ndF t L f q : Nat) : Int), h.2.2)) := by
  intro f
  induction f with
  | zero =>
    intro v q I hv hT hp hq
    have e1 : dvF t L 0 v q = v := rfl
    have e2 : ndF t L 0 q = 0 := rfl
    rw [e1, e2, Nat.add_zero, zup_id hp]
    refine Ev.iload_n (pc := 4) (n := (0, 0)) (i := 2) dX2_readDigits_4 rfl rfl ?_
    refine Ev.iconst (pc := 5) (n := (0, 0)) dX2_readDigits_5 ?_
    refine Ev.icmp_ge (pc := 6) (n := (0, 0)) (tgt := 45) dX2_readDigits_6 rfl (fun hc => ?_) (fun hc => absurd hc (by omega))
    refine Ev.iload_n (pc := 45) (n := (0, 0)) (i := 1) dX2_readDigits_45 rfl rfl ?_
    exact Ev.iret dX2_readDigits_46 rfl ⟨(Nat.le_of_ble_eq_true rfl), (Nat.le_of_ble_eq_true rfl)⟩
  | succ f ih =>
    intro v q I hv hT hp hq
    have hL := hT.2.1
    have eD : dvF t L (f + 1) v q = if 48 ≤ hr t L q ∧ hr t L q ≤ 57 then dvF t L f (10 * v + hr t L q - 48) (q + 1) else v := rfl
    have eN : ndF t L (f + 1) q = if 48 ≤ hr t L q ∧ hr t L q ≤ 57 then ndF t L f (q + 1) + 1 else 0 := rfl
    have ka := s_isAtDigitC hM hT hp
    have ei : 3 - ((f + 1 : Nat) : Int) + 1 = 3 - (f : Int) := by omega
    by_cases h1 : 48 ≤ hr t L q ∧ hr t L q ≤ 57
    · rw [if_pos h1] at eD eN ka
      have hqL : q < L := hr_lt (t := t) (by omega)
      have k9 := ih (10 * v + hr t L q - 48) (q + 1) (zup I 1 3 ((q : Int) + 1)) (by omega) (hT.up (by decide) _) (zup_s _ _ _ _) (by omega)
      rw [zup_zup, ← eD, show q + 1 + ndF t L f (q + 1) = q + ndF t L (f + 1) q by omega] at k9
      refine Ev.iload_n (pc := 4) (n := (0, 0)) (i := 2) dX2_readDigits_4 rfl rfl ?_
      refine Ev.iconst (pc := 5) (n := (0, 0)) dX2_readDigits_5 ?_
      refine Ev.icmp_ge (pc := 6) (n := (0, 0)) (tgt := 45) dX2_readDigits_6 rfl (fun hc => absurd hc (by omega)) (fun hc => ?_)
      refine Ev.aload_n (pc := 9) (n := (0, 0)) (i := 0) dX2_readDigits_9 rfl rfl ?_
      refine Ev.callV (pc := 10) (n := (0, 0)) (ob := 1) (as := []) (st := []) (ka) dX2_readDigits_10 ok_X2_isAtDigit (lk_X2_85 rfl) ⟨(Nat.le_of_ble_eq_true rfl), (Nat.le_of_ble_eq_true rfl)⟩ (zk_at hM.1 rfl) ⟨by decide, rfl⟩ rfl (Nat.le_of_ble_eq_true rfl) (Nat.le_of_ble_eq_true rfl) ⟨(Nat.le_of_ble_eq_true rfl), (Nat.le_of_ble_eq_true rfl)⟩ ?_
      refine Ev.if_eq (pc := 13) (n := (0, 0)) (tgt := 45) dX2_readDigits_13 rfl (fun hc => absurd hc (by decide)) (fun hc => ?_)
      refine Ev.bipush (pc := 16) (n := (0, 0)) dX2_readDigits_16 ?_
      refine Ev.iload_n (pc := 18) (n := (0, 0)) (i := 1) dX2_readDigits_18 rfl rfl ?_
      refine Ev.imul (pc := 19) (n := (0, 0)) dX2_readDigits_19 ⟨by omega, by omega⟩ ?_
      refine Ev.aload_n (pc := 20) (n := (0, 0)) (i := 0) dX2_readDigits_20 rfl rfl ?_
      refine Ev.callV (pc := 21) (n := (0, 0)) (ob := 1) (as := []) (st := [zi (10 * v)]) (s_peekC hM hT hp) dX2_readDigits_21 ok_X2_peek (lk_X2_39 rfl) ⟨(Nat.le_of_ble_eq_true rfl), (Nat.le_of_ble_eq_true rfl)⟩ (zk_at hM.1 rfl) ⟨by decide, rfl⟩ rfl (Nat.le_of_ble_eq_true rfl) (Nat.le_of_ble_eq_true rfl) ⟨(Nat.le_of_ble_eq_true rfl), (Nat.le_of_ble_eq_true rfl)⟩ ?_
      refine Ev.iadd (pc := 24) (n := (0, 0)) dX2_readDigits_24 ⟨by omega, by omega⟩ ?_
      refine Ev.bipush (pc := 25) (n := (0, 0)) dX2_readDigits_25 ?_
      refine Ev.isub (pc := 27) (n := (0, 0)) dX2_readDigits_27 ⟨by omega, by omega⟩ ?_
      refine Ev.istore_n (pc := 28) (n := (0, 0)) (i := 1) (L' := [(1, zi (((10 * v) + (hr t L q)) - 48)), (0, zr (some 1)), (2, zi (3 - ((f + 1 : Nat) : Int)))]) dX2_readDigits_28 rfl (Nat.le_of_ble_eq_true rfl) rfl ?_
      refine Ev.aload_n (pc := 29) (n := (0, 0)) (i := 0) dX2_readDigits_29 rfl rfl ?_
      refine Ev.dup (pc := 30) (n := (0, 0)) dX2_readDigits_30 rfl ?_
      refine Ev.gI (pc := 31) (n := (0, 0)) (x := (q : Int)) dX2_readDigits_31 fl_X2_22 (zk_at hM.1 rfl) rfl hp ?_
      refine Ev.iconst (pc := 34) (n := (0, 0)) dX2_readDigits_34 ?_
      refine Ev.iadd (pc := 35) (n := (0, 0)) dX2_readDigits_35 ⟨by omega, by omega⟩ ?_
      refine Ev.putI (pc := 36) (n := (0, 0)) dX2_readDigits_36 fl_X2_22 (zk_at hM.1 rfl) rfl rfl (fun h9 => by cases h9) ?_
      refine Ev.iinc (pc := 39) (n := (0, 0)) (L' := [(2, zi ((3 - ((f + 1 : Nat) : Int)) + 1)), (1, zi (((10 * v) + (hr t L q)) - 48)), (0, zr (some 1))]) dX2_readDigits_39 rfl (Nat.le_of_ble_eq_true rfl) ⟨by omega, by omega⟩ rfl ?_
      refine Ev.goto (pc := 42) (n := (0, 0)) (tgt := 4) dX2_readDigits_42 rfl ?_
      rw [ei]
      refine Ev.perm [2, 1, 0] rfl ?_
      exact k9
    · rw [if_neg h1] at eD eN ka
      rw [eD, eN, show q + 0 = q from rfl, zup_id hp]
      refine Ev.iload_n (pc := 4) (n := (0, 0)) (i := 2) dX2_readDigits_4 rfl rfl ?_
      refine Ev.iconst (pc := 5) (n := (0, 0)) dX2_readDigits_5 ?_
      refine Ev.icmp_ge (pc := 6) (n := (0, 0)) (tgt := 45) dX2_readDigits_6 rfl (fun hc => absurd hc (by omega)) (fun hc => ?_)
      refine Ev.aload_n (pc := 9) (n := (0, 0)) (i := 0) dX2_readDigits_9 rfl rfl ?_
      refine Ev.callV (pc := 10) (n := (0, 0)) (ob := 1) (as := []) (st := []) (ka) dX2_readDigits_10 ok_X2_isAtDigit (lk_X2_85 rfl) ⟨(Nat.le_of_ble_eq_true rfl), (Nat.le_of_ble_eq_true rfl)⟩ (zk_at hM.1 rfl) ⟨by decide, rfl⟩ rfl (Nat.le_of_ble_eq_true rfl) (Nat.le_of_ble_eq_true rfl) ⟨(Nat.le_of_ble_eq_true rfl), (Nat.le_of_ble_eq_true rfl)⟩ ?_
      refine Ev.if_eq (pc := 13) (n := (0, 0)) (tgt := 45) dX2_readDigits_13 rfl (fun hc => ?_) (fun hc => absurd rfl hc)
      refine Ev.iload_n (pc := 45) (n := (0, 0)) (i := 1) dX2_readDigits_45 rfl rfl ?_
      exact Ev.iret dX2_readDigits_46 rfl ⟨(Nat.le_of_ble_eq_true rfl), (Nat.le_of_ble_eq_true rfl)⟩
theorem s_readDigits {h : zH} {I : Nat → Int → Int} (hM : zCM h) {t : Int → Int} {L : Nat} (hT : TXC I t L) {p : Nat} (hp : I 1 3 = p) (hpL : p ≤ L) : Ev M_X2_readDigits 0 [(0, zr (some 1))] [] (h.1, I, h.2.2) (0, 0) (.inl (some (zi (dvF t L 3 0 p))), (h.1, zup I 1 3 ((p + ndF t L 3 p : Nat) : Int), h.2.2)) := by
  refine Ev.iconst (pc := 0) (n := (0, 0)) dX2_readDigits_0 ?_
  refine Ev.istore_n (pc := 1) (n := (0, 0)) (i := 1) (L' := [(1, zi 0), (0, zr (some 1))]) dX2_readDigits_1 rfl (Nat.le_of_ble_eq_true rfl) rfl ?_
  refine Ev.iconst (pc := 2) (n := (0, 0)) dX2_readDigits_2 ?_
  refine Ev.istore_n (pc := 3) (n := (0, 0)) (i := 2) (L' := [(2, zi 0), (1, zi 0), (0, zr (some 1))]) dX2_readDigits_3 rfl (Nat.le_of_ble_eq_true rfl) rfl ?_
  refine Ev.perm [2, 1, 0] rfl ?_
  exact s_digits_loop hM 3 0 p I (Or.inl ⟨rfl, rfl⟩) hT hp hpL
theorem s_numb_loop {h : zH} (hM : zCM h) {t : Int → Int} {L cnt : Nat} (hcn : cnt ≤ 3) : ∀ (c i q : Nat) (I : Nat → Int → Int), i + c = cnt → TXC I t L → I 1 3 = q → q ≤ L → ∃ (v : Int) (I2 : Nat → Int → Int), zCk I I2 ∧ I2 1 3 = natP t L (c) q ∧ I2 1 4 = I 1 4 ∧ (nokF t L (c) q ≠ 0 → v = 1 ∧ (∀ j : Nat, j < c → I2 3 ((i + j : Nat) : Int) = nvF t L j q) ∧ ∀ x : Int, (x < i ∨ (i : Int) + (c : Nat) ≤ x) → I2 3 x = I 3 x) ∧ (nokF t L (c) q = 0 → v = 0 ∨ v = 1 ∧ 48 ≤ hr t L (natP t L (c) q) ∧ hr t L (natP t L (c) q) ≤ 57) ∧ Ev M_X2_readNumbers 22 [(0, zr (some 1)), (1, zi (cnt : Int)), (2, zi (i : Int))] [] (h.1, I, h.2.2) (0, 0) (.inl (some (zi v)), (h.1, I2, h.2.2)) := by
  intro c
  induction c with
  | zero =>
    intro i q I hic hT hp hq
    refine ⟨1, I, zCk.rfl' I, hp, rfl, fun _ => ⟨rfl, fun j hj => absurd hj (by omega), fun _ _ => rfl⟩, fun e => absurd e (by show ¬ (1 : Int) = 0; decide), ?_⟩
    refine Ev.iload_n (pc := 22) (n := (0, 0)) (i := 2) dX2_readNumbers_22 rfl rfl ?_
    refine Ev.iload_n (pc := 23) (n := (0, 0)) (i := 1) dX2_readNumbers_23 rfl rfl ?_
    refine Ev.icmp_ge (pc := 24) (n := (0, 0)) (tgt := 64) dX2_readNumbers_24 rfl (fun hc => ?_) (fun hc => absurd hc (by omega))
    refine Ev.iconst (pc := 64) (n := (0, 0)) dX2_readNumbers_64 ?_
    exact Ev.bret dX2_readNumbers_65 rfl (by decide) ⟨(Nat.le_of_ble_eq_true rfl), (Nat.le_of_ble_eq_true rfl)⟩
  | succ c ih =>
    intro i q I hic hT hp hq
    have eP : natP t L (c + 1) q = if nmOk t L q then natP t L c (nmAt t L q) else nmAt t L q := rfl
    have eK : nokF t L (c + 1) q = if nmOk t L q then nokF t L c (nmAt t L q) else 0 := rfl
    have eA : nmAt t L q = if hr t L q = 32 then sk t L q + ndF t L 3 (sk t L q) else q := rfl
    have ks := s_skipSpacesC hM hT hp
    by_cases h1 : hr t L q = 32
    rotate_left
    · have h2 : sk t L q = q := rn_out (by omega)
      have hno : ¬ nmOk t L q := fun g => h1 g.1
      rw [if_neg h1] at eA
      rw [if_neg hno, eA] at eP
      rw [if_neg hno] at eK
      rw [h2, if_neg (Nat.lt_irrefl q), zup_id hp] at ks
      rw [eP, eK]
      refine ⟨0, I, zCk.rfl' I, hp, rfl, fun e => absurd rfl e, fun _ => Or.inl rfl, ?_⟩
      refine Ev.iload_n (pc := 22) (n := (0, 0)) (i := 2) dX2_readNumbers_22 rfl rfl ?_
      refine Ev.iload_n (pc := 23) (n := (0, 0)) (i := 1) dX2_readNumbers_23 rfl rfl ?_
      refine Ev.icmp_ge (pc := 24) (n := (0, 0)) (tgt := 64) dX2_readNumbers_24 rfl (fun hc => absurd hc (by omega)) (fun hc => ?_)
      refine Ev.iload_n (pc := 27) (n := (0, 0)) (i := 2) dX2_readNumbers_27 rfl rfl ?_
      refine Ev.iconst (pc := 28) (n := (0, 0)) dX2_readNumbers_28 ?_
      refine Ev.icmp_ge (pc := 29) (n := (0, 0)) (tgt := 64) dX2_readNumbers_29 rfl (fun hc => absurd hc (by omega)) (fun hc => ?_)
      refine Ev.aload_n (pc := 32) (n := (0, 0)) (i := 0) dX2_readNumbers_32 rfl rfl ?_
      refine Ev.callV (pc := 33) (n := (0, 0)) (ob := 1) (as := []) (st := []) (ks) dX2_readNumbers_33 ok_X2_skipSpaces (lk_X2_35 rfl) ⟨(Nat.le_of_ble_eq_true rfl), (Nat.le_of_ble_eq_true rfl)⟩ (zk_at hM.1 rfl) ⟨by decide, rfl⟩ rfl (Nat.le_of_ble_eq_true rfl) (Nat.le_of_ble_eq_true rfl) ⟨(Nat.le_of_ble_eq_true rfl), (Nat.le_of_ble_eq_true rfl)⟩ ?_
      refine Ev.if_eq (pc := 36) (n := (0, 0)) (tgt := 46) dX2_readNumbers_36 rfl (fun hc => ?_) (fun hc => absurd rfl hc)
      refine Ev.iconst (pc := 46) (n := (0, 0)) dX2_readNumbers_46 ?_
      exact Ev.bret dX2_readNumbers_47 rfl (by decide) ⟨(Nat.le_of_ble_eq_true rfl), (Nat.le_of_ble_eq_true rfl)⟩
    · have h2 : sk t L q = sk t L (q + 1) := rn_in (by omega) (by omega)
      have h3 := (sk_ge t L (q + 1)).1
      have h4 := (sk_ge t L q).2 hq
      rw [if_pos (show q < sk t L q by omega)] at ks
      rw [if_pos h1] at eA
      have hT1 : TXC (zup I 1 3 ((sk t L q : Nat) : Int)) t L := hT.up (by decide) _
      have ka := s_isAtDigitC hM hT1 (zup_s _ _ _ _)
      have n0 : ndF t L 3 (sk t L q) = if 48 ≤ hr t L (sk t L q) ∧ hr t L (sk t L q) ≤ 57 then ndF t L 2 (sk t L q + 1) + 1 else 0 := rfl
      by_cases h5 : 48 ≤ hr t L (sk t L q) ∧ hr t L (sk t L q) ≤ 57
      rotate_left
      · rw [if_neg h5] at ka n0
        have hno : ¬ nmOk t L q := fun g => by
          have := g.2.1
          omega
        rw [if_neg hno, eA, n0, Nat.add_zero] at eP
        rw [if_neg hno] at eK
        rw [eP, eK]
        refine ⟨0, _, zCk.at' I _, zup_s _ _ _ _, zup_k _ _ _ _ (by decide), fun e => absurd rfl e, fun _ => Or.inl rfl, ?_⟩
        refine Ev.iload_n (pc := 22) (n := (0, 0)) (i := 2) dX2_readNumbers_22 rfl rfl ?_
        refine Ev.iload_n (pc := 23) (n := (0, 0)) (i := 1) dX2_readNumbers_23 rfl rfl ?_
        refine Ev.icmp_ge (pc := 24) (n := (0, 0)) (tgt := 64) dX2_readNumbers_24 rfl (fun hc => absurd hc (by omega)) (fun hc => ?_)
        refine Ev.iload_n (pc := 27) (n := (0, 0)) (i := 2) dX2_readNumbers_27 rfl rfl ?_
        refine Ev.iconst (pc := 28) (n := (0, 0)) dX2_readNumbers_28 ?_
        refine Ev.icmp_ge (pc := 29) (n := (0, 0)) (tgt := 64) dX2_readNumbers_29 rfl (fun hc => absurd hc (by omega)) (fun hc => ?_)
        refine Ev.aload_n (pc := 32) (n := (0, 0)) (i := 0) dX2_readNumbers_32 rfl rfl ?_
        refine Ev.callV (pc := 33) (n := (0, 0)) (ob := 1) (as := []) (st := []) (ks) dX2_readNumbers_33 ok_X2_skipSpaces (lk_X2_35 rfl) ⟨(Nat.le_of_ble_eq_true rfl), (Nat.le_of_ble_eq_true rfl)⟩ (zk_at hM.1 rfl) ⟨by decide, rfl⟩ rfl (Nat.le_of_ble_eq_true rfl) (Nat.le_of_ble_eq_true rfl) ⟨(Nat.le_of_ble_eq_true rfl), (Nat.le_of_ble_eq_true rfl)⟩ ?_
        refine Ev.if_eq (pc := 36) (n := (0, 0)) (tgt := 46) dX2_readNumbers_36 rfl (fun hc => absurd hc (by decide)) (fun hc => ?_)
        refine Ev.aload_n (pc := 39) (n := (0, 0)) (i := 0) dX2_readNumbers_39 rfl rfl ?_
        refine Ev.callV (pc := 40) (n := (0, 0)) (ob := 1) (as := []) (st := []) (ka) dX2_readNumbers_40 ok_X2_isAtDigit (lk_X2_85 rfl) ⟨(Nat.le_of_ble_eq_true rfl), (Nat.le_of_ble_eq_true rfl)⟩ (zk_at hM.1 rfl) ⟨by decide, rfl⟩ rfl (Nat.le_of_ble_eq_true rfl) (Nat.le_of_ble_eq_true rfl) ⟨(Nat.le_of_ble_eq_true rfl), (Nat.le_of_ble_eq_true rfl)⟩ ?_
        refine Ev.if_ne (pc := 43) (n := (0, 0)) (tgt := 48) dX2_readNumbers_43 rfl (fun hc => absurd rfl hc) (fun hc => ?_)
        refine Ev.iconst (pc := 46) (n := (0, 0)) dX2_readNumbers_46 ?_
        exact Ev.bret dX2_readNumbers_47 rfl (by decide) ⟨(Nat.le_of_ble_eq_true rfl), (Nat.le_of_ble_eq_true rfl)⟩
      · rw [if_pos h5] at ka n0
        have hnd := (ndF_le t L 3 (sk t L q)).2 h4
        have kd9 := s_readDigits hM hT1 (zup_s _ _ _ _) h4
        rw [zup_zup, ← eA] at kd9
        have hT2 : TXC (zup (zup I 1 3 ((nmAt t L q : Nat) : Int)) 3 (i : Int) (nmV t L q)) t L := (hT.up (by decide) _).up3 _ _
        have hp2 : (zup (zup I 1 3 ((nmAt t L q : Nat) : Int)) 3 (i : Int) (nmV t L q)) 1 3 = ((nmAt t L q : Nat) : Int) := (zup_o _ _ _ _ (by decide)).trans (zup_s _ _ _ _)
        obtain ⟨v, I2, q1, q2, q3, q4, q5, k9⟩ := ih (i + 1) (nmAt t L q) (zup (zup I 1 3 ((nmAt t L q : Nat) : Int)) 3 (i : Int) (nmV t L q)) (by omega) hT2 hp2 (by omega)
        have w1 : zCk I I2 := ((zCk.at' I _).trans (zCk.nu _ _ _)).trans q1
        have w3 : I2 1 4 = I 1 4 := q3.trans ((zup_o _ _ _ _ (by decide)).trans (zup_k _ _ _ _ (by decide)))
        by_cases h6 : 48 ≤ hr t L (nmAt t L q) ∧ hr t L (nmAt t L q) ≤ 57
        · have hno : ¬ nmOk t L q := fun g => g.2.2 (by rw [← eA]; exact h6)
          rw [if_neg hno] at eP eK
          have hcc : natP t L c (nmAt t L q) = nmAt t L q ∧ (v = 0 ∨ v = 1) := by
            cases c with
            | zero => exact ⟨rfl, Or.inr (q4 (by show ¬ (1 : Int) = 0; decide)).1⟩
            | succ c =>
              have hno2 : ¬ nmOk t L (nmAt t L q) := fun g => by
                have := g.1
                omega
              have eP2 : natP t L (c + 1) (nmAt t L q) = if nmOk t L (nmAt t L q) then natP t L c (nmAt t L (nmAt t L q)) else nmAt t L (nmAt t L q) := rfl
              have eK2 : nokF t L (c + 1) (nmAt t L q) = if nmOk t L (nmAt t L q) then nokF t L c (nmAt t L (nmAt t L q)) else 0 := rfl
              have eA2 : nmAt t L (nmAt t L q) = nmAt t L q := if_neg (by omega)
              rw [if_neg hno2] at eP2 eK2
              refine ⟨eP2.trans eA2, ?_⟩
              rcases q5 eK2 with g | g
              · exact Or.inl g
              · exact Or.inr g.1
          rw [hcc.1] at q2
          rw [eP, eK]
          refine ⟨v, I2, w1, q2, w3, fun e => absurd rfl e, fun _ => ?_, ?_⟩
          · rcases hcc.2 with g | g
            · exact Or.inl g
            · exact Or.inr ⟨g, h6⟩
          refine Ev.iload_n (pc := 22) (n := (0, 0)) (i := 2) dX2_readNumbers_22 rfl rfl ?_
          refine Ev.iload_n (pc := 23) (n := (0, 0)) (i := 1) dX2_readNumbers_23 rfl rfl ?_
          refine Ev.icmp_ge (pc := 24) (n := (0, 0)) (tgt := 64) dX2_readNumbers_24 rfl (fun hc => absurd hc (by omega)) (fun hc => ?_)
          refine Ev.iload_n (pc := 27) (n := (0, 0)) (i := 2) dX2_readNumbers_27 rfl rfl ?_
          refine Ev.iconst (pc := 28) (n := (0, 0)) dX2_readNumbers_28 ?_
          refine Ev.icmp_ge (pc := 29) (n := (0, 0)) (tgt := 64) dX2_readNumbers_29 rfl (fun hc => absurd hc (by omega)) (fun hc => ?_)
          refine Ev.aload_n (pc := 32) (n := (0, 0)) (i := 0) dX2_readNumbers_32 rfl rfl ?_
          refine Ev.callV (pc := 33) (n := (0, 0)) (ob := 1) (as := []) (st := []) (ks) dX2_readNumbers_33 ok_X2_skipSpaces (lk_X2_35 rfl) ⟨(Nat.le_of_ble_eq_true rfl), (Nat.le_of_ble_eq_true rfl)⟩ (zk_at hM.1 rfl) ⟨by decide, rfl⟩ rfl (Nat.le_of_ble_eq_true rfl) (Nat.le_of_ble_eq_true rfl) ⟨(Nat.le_of_ble_eq_true rfl), (Nat.le_of_ble_eq_true rfl)⟩ ?_
          refine Ev.if_eq (pc := 36) (n := (0, 0)) (tgt := 46) dX2_readNumbers_36 rfl (fun hc => absurd hc (by decide)) (fun hc => ?_)
          refine Ev.aload_n (pc := 39) (n := (0, 0)) (i := 0) dX2_readNumbers_39 rfl rfl ?_
          refine Ev.callV (pc := 40) (n := (0, 0)) (ob := 1) (as := []) (st := []) (ka) dX2_readNumbers_40 ok_X2_isAtDigit (lk_X2_85 rfl) ⟨(Nat.le_of_ble_eq_true rfl), (Nat.le_of_ble_eq_true rfl)⟩ (zk_at hM.1 rfl) ⟨by decide, rfl⟩ rfl (Nat.le_of_ble_eq_true rfl) (Nat.le_of_ble_eq_true rfl) ⟨(Nat.le_of_ble_eq_true rfl), (Nat.le_of_ble_eq_true rfl)⟩ ?_
          refine Ev.if_ne (pc := 43) (n := (0, 0)) (tgt := 48) dX2_readNumbers_43 rfl (fun hc => ?_) (fun hc => absurd hc (by decide))
          refine Ev.aload_n (pc := 48) (n := (0, 0)) (i := 0) dX2_readNumbers_48 rfl rfl ?_
          refine Ev.gR (pc := 49) (n := (0, 0)) (r := (some 3)) dX2_readNumbers_49 fl_X2_19 (zk_at hM.1 rfl) rfl hM.2.2.1 ?_
          refine Ev.iload_n (pc := 52) (n := (0, 0)) (i := 2) dX2_readNumbers_52 rfl rfl ?_
          refine Ev.aload_n (pc := 53) (n := (0, 0)) (i := 0) dX2_readNumbers_53 rfl rfl ?_
          refine Ev.callV (pc := 54) (n := (0, 0)) (ob := 1) (as := []) (st := [zi (i : Int), zr (some 3)]) (kd9) dX2_readNumbers_54 ok_X2_readDigits (lk_X2_88 rfl) ⟨(Nat.le_of_ble_eq_true rfl), (Nat.le_of_ble_eq_true rfl)⟩ (zk_at hM.1 rfl) ⟨by decide, rfl⟩ rfl (Nat.le_of_ble_eq_true rfl) (Nat.le_of_ble_eq_true rfl) ⟨(Nat.le_of_ble_eq_true rfl), (Nat.le_of_ble_eq_true rfl)⟩ ?_
          refine Ev.iast (pc := 57) (n := (0, 0)) dX2_readNumbers_57 (zk_at hM.1 rfl) (by omega) (by omega) ?_
          refine Ev.iinc (pc := 58) (n := (0, 0)) (L' := [(2, zi ((i : Int) + 1)), (0, zr (some 1)), (1, zi (cnt : Int))]) dX2_readNumbers_58 rfl (Nat.le_of_ble_eq_true rfl) ⟨by omega, by omega⟩ rfl ?_
          refine Ev.goto (pc := 61) (n := (0, 0)) (tgt := 22) dX2_readNumbers_61 rfl ?_
          refine Ev.perm [1, 2, 0] rfl ?_
          exact k9
        · have hok : nmOk t L q := ⟨h1, by omega, by rw [← eA]; exact h6⟩
          rw [if_pos hok] at eP eK
          rw [eP, eK]
          refine ⟨v, I2, w1, q2, w3, fun e => ⟨(q4 e).1, fun j hj => ?_, fun x hx => ?_⟩, q5, ?_⟩
          · cases j with
            | zero =>
              have a := (q4 e).2.2 (i : Int) (by omega)
              exact a.trans (zup_s _ _ _ _)
            | succ j =>
              have a := (q4 e).2.1 j (by omega)
              have b : ((i + (j + 1) : Nat) : Int) = ((i + 1 + j : Nat) : Int) := by omega
              rw [b]
              exact a
          · have a := (q4 e).2.2 x (by omega)
            exact a.trans ((zup_k _ _ _ _ (by omega)).trans (zup_o _ _ _ _ (by decide)))
          refine Ev.iload_n (pc := 22) (n := (0, 0)) (i := 2) dX2_readNumbers_22 rfl rfl ?_
          refine Ev.iload_n (pc := 23) (n := (0, 0)) (i := 1) dX2_readNumbers_23 rfl rfl ?_
          refine Ev.icmp_ge (pc := 24) (n := (0, 0)) (tgt := 64) dX2_readNumbers_24 rfl (fun hc => absurd hc (by omega)) (fun hc => ?_)
          refine Ev.iload_n (pc := 27) (n := (0, 0)) (i := 2) dX2_readNumbers_27 rfl rfl ?_
          refine Ev.iconst (pc := 28) (n := (0, 0)) dX2_readNumbers_28 ?_
          refine Ev.icmp_ge (pc := 29) (n := (0, 0)) (tgt := 64) dX2_readNumbers_29 rfl (fun hc => absurd hc (by omega)) (fun hc => ?_)
          refine Ev.aload_n (pc := 32) (n := (0, 0)) (i := 0) dX2_readNumbers_32 rfl rfl ?_
          refine Ev.callV (pc := 33) (n := (0, 0)) (ob := 1) (as := []) (st := []) (ks) dX2_readNumbers_33 ok_X2_skipSpaces (lk_X2_35 rfl) ⟨(Nat.le_of_ble_eq_true rfl), (Nat.le_of_ble_eq_true rfl)⟩ (zk_at hM.1 rfl) ⟨by decide, rfl⟩ rfl (Nat.le_of_ble_eq_true rfl) (Nat.le_of_ble_eq_true rfl) ⟨(Nat.le_of_ble_eq_true rfl), (Nat.le_of_ble_eq_true rfl)⟩ ?_
          refine Ev.if_eq (pc := 36) (n := (0, 0)) (tgt := 46) dX2_readNumbers_36 rfl (fun hc => absurd hc (by decide)) (fun hc => ?_)
          refine Ev.aload_n (pc := 39) (n := (0, 0)) (i := 0) dX2_readNumbers_39 rfl rfl ?_
          refine Ev.callV (pc := 40) (n := (0, 0)) (ob := 1) (as := []) (st := []) (ka) dX2_readNumbers_40 ok_X2_isAtDigit (lk_X2_85 rfl) ⟨(Nat.le_of_ble_eq_true rfl), (Nat.le_of_ble_eq_true rfl)⟩ (zk_at hM.1 rfl) ⟨by decide, rfl⟩ rfl (Nat.le_of_ble_eq_true rfl) (Nat.le_of_ble_eq_true rfl) ⟨(Nat.le_of_ble_eq_true rfl), (Nat.le_of_ble_eq_true rfl)⟩ ?_
          refine Ev.if_ne (pc := 43) (n := (0, 0)) (tgt := 48) dX2_readNumbers_43 rfl (fun hc => ?_) (fun hc => absurd hc (by decide))
          refine Ev.aload_n (pc := 48) (n := (0, 0)) (i := 0) dX2_readNumbers_48 rfl rfl ?_
          refine Ev.gR (pc := 49) (n := (0, 0)) (r := (some 3)) dX2_readNumbers_49 fl_X2_19 (zk_at hM.1 rfl) rfl hM.2.2.1 ?_
          refine Ev.iload_n (pc := 52) (n := (0, 0)) (i := 2) dX2_readNumbers_52 rfl rfl ?_
          refine Ev.aload_n (pc := 53) (n := (0, 0)) (i := 0) dX2_readNumbers_53 rfl rfl ?_
          refine Ev.callV (pc := 54) (n := (0, 0)) (ob := 1) (as := []) (st := [zi (i : Int), zr (some 3)]) (kd9) dX2_readNumbers_54 ok_X2_readDigits (lk_X2_88 rfl) ⟨(Nat.le_of_ble_eq_true rfl), (Nat.le_of_ble_eq_true rfl)⟩ (zk_at hM.1 rfl) ⟨by decide, rfl⟩ rfl (Nat.le_of_ble_eq_true rfl) (Nat.le_of_ble_eq_true rfl) ⟨(Nat.le_of_ble_eq_true rfl), (Nat.le_of_ble_eq_true rfl)⟩ ?_
          refine Ev.iast (pc := 57) (n := (0, 0)) dX2_readNumbers_57 (zk_at hM.1 rfl) (by omega) (by omega) ?_
          refine Ev.iinc (pc := 58) (n := (0, 0)) (L' := [(2, zi ((i : Int) + 1)), (0, zr (some 1)), (1, zi (cnt : Int))]) dX2_readNumbers_58 rfl (Nat.le_of_ble_eq_true rfl) ⟨by omega, by omega⟩ rfl ?_
          refine Ev.goto (pc := 61) (n := (0, 0)) (tgt := 22) dX2_readNumbers_61 rfl ?_
          refine Ev.perm [1, 2, 0] rfl ?_
          exact k9
theorem s_readNumbers {h : zH} {I : Nat → Int → Int} (hM : zCM h) {t : Int → Int} {L : Nat} (hT : TXC I t L) {p : Nat} (hp : I 1 3 = p) (hpL : p ≤ L) {cnt : Nat} (hcn : cnt ≤ 3) : ∃ (v : Int) (I2 : Nat → Int → Int), zCk I I2 ∧ I2 1 3 = natP t L cnt p ∧ I2 1 4 = I 1 4 ∧ (nokF t L cnt p ≠ 0 → v = 1 ∧ ∀ j : Nat, j < 3 → I2 3 j = if j < cnt then nvF t L j p else 0) ∧ (nokF t L cnt p = 0 → v = 0 ∨ v = 1 ∧ 48 ≤ hr t L (natP t L cnt p) ∧ hr t L (natP t L cnt p) ≤ 57) ∧ Ev M_X2_readNumbers 0 [(0, zr (some 1)), (1, zi (cnt : Int))] [] (h.1, I, h.2.2) (0, 0) (.inl (some (zi v)), (h.1, I2, h.2.2)) := by
  obtain ⟨v, I2, q1, q2, q3, q4, q5, k9⟩ := s_numb_loop hM hcn cnt 0 p (zup (zup (zup I 3 0 0) 3 1 0) 3 2 0) (by omega) (((hT.up3 _ _).up3 _ _).up3 _ _) ((zup_o _ _ _ _ (by decide)).trans ((zup_o _ _ _ _ (by decide)).trans ((zup_o _ _ _ _ (by decide)).trans hp))) hpL
  have w0 : ∀ j : Nat, j < 3 → (zup (zup (zup I 3 0 0) 3 1 0) 3 2 0) 3 j = 0 := fun j hj => by
    have c : j = 0 ∨ j = 1 ∨ j = 2 := by omega
    rcases c with rfl | rfl | rfl
    · exact (zup_k _ _ _ _ (by decide)).trans ((zup_k _ _ _ _ (by decide)).trans (zup_s _ _ _ _))
    · exact (zup_k _ _ _ _ (by decide)).trans (zup_s _ _ _ _)
    · exact zup_s _ _ _ _
  refine ⟨v, I2, (((zCk.nu _ _ _).trans (zCk.nu _ _ _)).trans (zCk.nu _ _ _)).trans q1, q2, q3.trans ((zup_o _ _ _ _ (by decide)).trans ((zup_o _ _ _ _ (by decide)).trans (zup_o _ _ _ _ (by decide)))), fun e => ⟨(q4 e).1, fun j hj => ?_⟩, q5, ?_⟩
  · by_cases c : j < cnt
    · rw [if_pos c]
      have a := (q4 e).2.1 j c
      rw [Nat.zero_add] at a
      exact a
    · rw [if_neg c]
      exact ((q4 e).2.2 j (Or.inr (by omega))).trans (w0 j hj)
  refine Ev.iconst (pc := 0) (n := (0, 0)) dX2_readNumbers_0 ?_
  refine Ev.istore_n (pc := 1) (n := (0, 0)) (i := 2) (L' := [(2, zi 0), (0, zr (some 1)), (1, zi (cnt : Int))]) dX2_readNumbers_1 rfl (Nat.le_of_ble_eq_true rfl) rfl ?_
  refine Ev.iload_n (pc := 2) (n := (0, 0)) (i := 2) dX2_readNumbers_2 rfl rfl ?_
  refine Ev.iconst (pc := 3) (n := (0, 0)) dX2_readNumbers_3 ?_
  refine Ev.icmp_ge (pc := 4) (n := (0, 0)) (tgt := 20) dX2_readNumbers_4 rfl (fun hc => absurd hc (by decide)) (fun hc => ?_)
  refine Ev.aload_n (pc := 7) (n := (0, 0)) (i := 0) dX2_readNumbers_7 rfl rfl ?_
  refine Ev.gR (pc := 8) (n := (0, 0)) (r := (some 3)) dX2_readNumbers_8 fl_X2_19 (zk_at hM.1 rfl) rfl hM.2.2.1 ?_
  refine Ev.iload_n (pc := 11) (n := (0, 0)) (i := 2) dX2_readNumbers_11 rfl rfl ?_
  refine Ev.iconst (pc := 12) (n := (0, 0)) dX2_readNumbers_12 ?_
  refine Ev.iast (pc := 13) (n := (0, 0)) dX2_readNumbers_13 (zk_at hM.1 rfl) (by omega) (by omega) ?_
  refine Ev.iinc (pc := 14) (n := (0, 0)) (L' := [(2, zi 1), (0, zr (some 1)), (1, zi (cnt : Int))]) dX2_readNumbers_14 rfl (Nat.le_of_ble_eq_true rfl) ⟨by omega, by omega⟩ rfl ?_
  refine Ev.goto (pc := 17) (n := (0, 0)) (tgt := 2) dX2_readNumbers_17 rfl ?_
  refine Ev.iload_n (pc := 2) (n := (0, 0)) (i := 2) dX2_readNumbers_2 rfl rfl ?_
  refine Ev.iconst (pc := 3) (n := (0, 0)) dX2_readNumbers_3 ?_
  refine Ev.icmp_ge (pc := 4) (n := (0, 0)) (tgt := 20) dX2_readNumbers_4 rfl (fun hc => absurd hc (by decide)) (fun hc => ?_)
  refine Ev.aload_n (pc := 7) (n := (0, 0)) (i := 0) dX2_readNumbers_7 rfl rfl ?_
  refine Ev.gR (pc := 8) (n := (0, 0)) (r := (some 3)) dX2_readNumbers_8 fl_X2_19 (zk_at hM.1 rfl) rfl hM.2.2.1 ?_
  refine Ev.iload_n (pc := 11) (n := (0, 0)) (i := 2) dX2_readNumbers_11 rfl rfl ?_
  refine Ev.iconst (pc := 12) (n := (0, 0)) dX2_readNumbers_12 ?_
  refine Ev.iast (pc := 13) (n := (0, 0)) dX2_readNumbers_13 (zk_at hM.1 rfl) (by omega) (by omega) ?_
  refine Ev.iinc (pc := 14) (n := (0, 0)) (L' := [(2, zi 2), (0, zr (some 1)), (1, zi (cnt : Int))]) dX2_readNumbers_14 rfl (Nat.le_of_ble_eq_true rfl) ⟨by omega, by omega⟩ rfl ?_
  refine Ev.goto (pc := 17) (n := (0, 0)) (tgt := 2) dX2_readNumbers_17 rfl ?_
  refine Ev.iload_n (pc := 2) (n := (0, 0)) (i := 2) dX2_readNumbers_2 rfl rfl ?_
  refine Ev.iconst (pc := 3) (n := (0, 0)) dX2_readNumbers_3 ?_
  refine Ev.icmp_ge (pc := 4) (n := (0, 0)) (tgt := 20) dX2_readNumbers_4 rfl (fun hc => absurd hc (by decide)) (fun hc => ?_)
  refine Ev.aload_n (pc := 7) (n := (0, 0)) (i := 0) dX2_readNumbers_7 rfl rfl ?_
  refine Ev.gR (pc := 8) (n := (0, 0)) (r := (some 3)) dX2_readNumbers_8 fl_X2_19 (zk_at hM.1 rfl) rfl hM.2.2.1 ?_
  refine Ev.iload_n (pc := 11) (n := (0, 0)) (i := 2) dX2_readNumbers_11 rfl rfl ?_
  refine Ev.iconst (pc := 12) (n := (0, 0)) dX2_readNumbers_12 ?_
  refine Ev.iast (pc := 13) (n := (0, 0)) dX2_readNumbers_13 (zk_at hM.1 rfl) (by omega) (by omega) ?_
  refine Ev.iinc (pc := 14) (n := (0, 0)) (L' := [(2, zi 3), (0, zr (some 1)), (1, zi (cnt : Int))]) dX2_readNumbers_14 rfl (Nat.le_of_ble_eq_true rfl) ⟨by omega, by omega⟩ rfl ?_
  refine Ev.goto (pc := 17) (n := (0, 0)) (tgt := 2) dX2_readNumbers_17 rfl ?_
  refine Ev.iload_n (pc := 2) (n := (0, 0)) (i := 2) dX2_readNumbers_2 rfl rfl ?_
  refine Ev.iconst (pc := 3) (n := (0, 0)) dX2_readNumbers_3 ?_
  refine Ev.icmp_ge (pc := 4) (n := (0, 0)) (tgt := 20) dX2_readNumbers_4 rfl (fun hc => ?_) (fun hc => absurd hc (by decide))
  refine Ev.iconst (pc := 20) (n := (0, 0)) dX2_readNumbers_20 ?_
  refine Ev.istore_n (pc := 21) (n := (0, 0)) (i := 2) (L' := [(2, zi 0), (0, zr (some 1)), (1, zi (cnt : Int))]) dX2_readNumbers_21 rfl (Nat.le_of_ble_eq_true rfl) rfl ?_
  refine Ev.perm [1, 2, 0] rfl ?_
  exact k9
theorem s_readSemicolon {h : zH} {I : Nat → Int → Int} (hM : zCM h) {t : Int → Int} {L : Nat} (hT : TXC I t L) {p : Nat} (hp : I 1 3 = p) : Ev M_X2_readSemicolon 0 [(0, zr (some 1))] [] (h.1, I, h.2.2) (0, 0) (.inl (some (zi (if hr t L (sk t L p) = 59 then 1 else 0))), (h.1, zup I 1 3 ((if hr t L (sk t L p) = 59 then sk t L p + 1 else sk t L p : Nat) : Int), h.2.2)) := by
  have hL := hT.2.1
  have ks := s_skipSpacesC hM hT hp
  have hT1 : TXC (zup I 1 3 ((sk t L p : Nat) : Int)) t L := hT.up (by decide) _
  have hq2 : (zup I 1 3 ((sk t L p : Nat) : Int)) 1 3 = ((sk t L p : Nat) : Int) := zup_s _ _ _ _
  refine Ev.aload_n (pc := 0) (n := (0, 0)) (i := 0) dX2_readSemicolon_0 rfl rfl ?_
  refine Ev.callV (pc := 1) (n := (0, 0)) (ob := 1) (as := []) (st := []) (ks) dX2_readSemicolon_1 ok_X2_skipSpaces (lk_X2_35 rfl) ⟨(Nat.le_of_ble_eq_true rfl), (Nat.le_of_ble_eq_true rfl)⟩ (zk_at hM.1 rfl) ⟨by decide, rfl⟩ rfl (Nat.le_of_ble_eq_true rfl) (Nat.le_of_ble_eq_true rfl) ⟨(Nat.le_of_ble_eq_true rfl), (Nat.le_of_ble_eq_true rfl)⟩ ?_
  refine Ev.pop (pc := 4) (n := (0, 0)) dX2_readSemicolon_4 rfl ?_
  refine Ev.aload_n (pc := 5) (n := (0, 0)) (i := 0) dX2_readSemicolon_5 rfl rfl ?_
  refine Ev.callV (pc := 6) (n := (0, 0)) (ob := 1) (as := []) (st := []) (s_peekC hM hT1 (zup_s _ _ _ _)) dX2_readSemicolon_6 ok_X2_peek (lk_X2_39 rfl) ⟨(Nat.le_of_ble_eq_true rfl), (Nat.le_of_ble_eq_true rfl)⟩ (zk_at hM.1 rfl) ⟨by decide, rfl⟩ rfl (Nat.le_of_ble_eq_true rfl) (Nat.le_of_ble_eq_true rfl) ⟨(Nat.le_of_ble_eq_true rfl), (Nat.le_of_ble_eq_true rfl)⟩ ?_
  refine Ev.bipush (pc := 9) (n := (0, 0)) dX2_readSemicolon_9 ?_
  refine Ev.icmp_eq (pc := 11) (n := (0, 0)) (tgt := 16) dX2_readSemicolon_11 rfl (fun h1 => ?_) (fun h1 => ?_)
  · skip
    have hs : sk t L p < L := hr_lt (t := t) (by omega)
    rw [if_pos h1, if_pos h1, show ((sk t L p + 1 : Nat) : Int) = (sk t L p : Nat) + 1 from rfl, ← zup_zup I 1 3 ((sk t L p : Nat) : Int) ((sk t L p : Nat) + 1)]
    refine Ev.aload_n (pc := 16) (n := (0, 0)) (i := 0) dX2_readSemicolon_16 rfl rfl ?_
    refine Ev.dup (pc := 17) (n := (0, 0)) dX2_readSemicolon_17 rfl ?_
    refine Ev.gI (pc := 18) (n := (0, 0)) (x := ((sk t L p : Nat) : Int)) dX2_readSemicolon_18 fl_X2_22 (zk_at hM.1 rfl) rfl hq2 ?_
    refine Ev.iconst (pc := 21) (n := (0, 0)) dX2_readSemicolon_21 ?_
    refine Ev.iadd (pc := 22) (n := (0, 0)) dX2_readSemicolon_22 ⟨by omega, by omega⟩ ?_
    refine Ev.putI (pc := 23) (n := (0, 0)) dX2_readSemicolon_23 fl_X2_22 (zk_at hM.1 rfl) rfl rfl (fun h9 => by cases h9) ?_
    refine Ev.iconst (pc := 26) (n := (0, 0)) dX2_readSemicolon_26 ?_
    exact Ev.bret dX2_readSemicolon_27 rfl (by decide) ⟨(Nat.le_of_ble_eq_true rfl), (Nat.le_of_ble_eq_true rfl)⟩
  · skip
    rw [if_neg h1, if_neg h1]
    refine Ev.iconst (pc := 14) (n := (0, 0)) dX2_readSemicolon_14 ?_
    exact Ev.bret dX2_readSemicolon_15 rfl (by decide) ⟨(Nat.le_of_ble_eq_true rfl), (Nat.le_of_ble_eq_true rfl)⟩
