/-! ===== the class: its text ===== -/
def zCM (h : zH) : Prop := h.1 = KK ∧ h.2.2 1 0 = some 2 ∧ h.2.2 1 2 = some 3 ∧ h.2.2 0 0 = some 1 ∧ h.2.2 0 1 = some 4
def TXC (I : Nat → Int → Int) (t : Int → Int) (L : Nat) : Prop := I 1 1 = L ∧ L ≤ 150 ∧ ∀ p : Nat, p < L → I 2 p = t p
theorem TXC.up {I : Nat → Int → Int} {t : Int → Int} {L : Nat} (h : TXC I t L) {k : Int} (hk : k ≠ 1) (v : Int) : TXC (zup I 1 k v) t L := ⟨(zup_k _ _ _ _ (fun e => hk e.symm)).trans h.1, h.2.1, fun p hp => (zup_o _ _ _ _ (by decide)).trans (h.2.2 p hp)⟩
theorem TXC.up3 {I : Nat → Int → Int} {t : Int → Int} {L : Nat} (h : TXC I t L) (k v : Int) : TXC (zup I 3 k v) t L := ⟨(zup_o _ _ _ _ (by decide)).trans h.1, h.2.1, fun p hp => (zup_o _ _ _ _ (by decide)).trans (h.2.2 p hp)⟩
def zCk (I I2 : Nat → Int → Int) : Prop := (∀ o, o ≠ 1 → o ≠ 3 → I2 o = I o) ∧ ∀ x : Int, x ≠ 3 → x ≠ 4 → I2 1 x = I 1 x
theorem zCk.rfl' (I : Nat → Int → Int) : zCk I I := ⟨fun _ _ _ => rfl, fun _ _ _ => rfl⟩
theorem zCk.trans {I I2 I3 : Nat → Int → Int} (h1 : zCk I I2) (h2 : zCk I2 I3) : zCk I I3 := ⟨fun o a b => (h2.1 o a b).trans (h1.1 o a b), fun x a b => (h2.2 x a b).trans (h1.2 x a b)⟩
theorem zCk.at' (I : Nat → Int → Int) (v : Int) : zCk I (zup I 1 3 v) := ⟨fun o a _ => funext fun x => zup_o _ _ _ _ a, fun x a _ => zup_k _ _ _ _ a⟩
theorem zCk.fl (I : Nat → Int → Int) (v : Int) : zCk I (zup I 1 4 v) := ⟨fun o a _ => funext fun x => zup_o _ _ _ _ a, fun x _ a => zup_k _ _ _ _ a⟩
theorem zCk.nu (I : Nat → Int → Int) (k v : Int) : zCk I (zup I 3 k v) := ⟨fun o _ a => funext fun x => zup_o _ _ _ _ a, fun x _ _ => zup_o _ _ _ _ (by decide)⟩
theorem zCk.tx {I I2 : Nat → Int → Int} (h : zCk I I2) {t : Int → Int} {L : Nat} (hT : TXC I t L) : TXC I2 t L := ⟨(h.2 1 (by decide) (by decide)).trans hT.1, hT.2.1, fun p hp => (congrFun (h.1 2 (by decide) (by decide)) p).trans (hT.2.2 p hp)⟩
/-- words and their numbers -/
def wvL (g : Nat → Int) : Nat → Int
  | 0 => 0
  | j + 1 => 27 * wvL g j + g j - 96
theorem wvL_nn {g : Nat → Int} : ∀ m, (∀ j, j < m → 97 ≤ g j ∧ g j ≤ 122) → 0 ≤ wvL g m
  | 0, _ => Int.le_refl 0
  | m + 1, h => by
    have a := wvL_nn m (fun j hj => h j (by omega))
    have b := h m (by omega)
    show 0 ≤ 27 * wvL g m + g m - 96
    omega
theorem wvL_inj {g g' : Nat → Int} : ∀ m m', (∀ j, j < m → 97 ≤ g j ∧ g j ≤ 122) → (∀ j, j < m' → 97 ≤ g' j ∧ g' j ≤ 122) → wvL g m = wvL g' m' → m = m' ∧ ∀ j, j < m → g j = g' j
  | 0, 0, _, _, _ => ⟨rfl, fun j hj => by omega⟩
  | 0, m' + 1, _, h', e => by
    have a := wvL_nn m' (fun j hj => h' j (by omega))
    have b := h' m' (by omega)
    have e2 : (0 : Int) = 27 * wvL g' m' + g' m' - 96 := e
    omega
  | m + 1, 0, h, _, e => by
    have a := wvL_nn m (fun j hj => h j (by omega))
    have b := h m (by omega)
    have e2 : 27 * wvL g m + g m - 96 = 0 := e
    omega
  | m + 1, m' + 1, h, h', e => by
    have b := h m (by omega)
    have b' := h' m' (by omega)
    have e2 : 27 * wvL g m + g m - 96 = 27 * wvL g' m' + g' m' - 96 := e
    have e3 : g m = g' m' := by omega
    have k := wvL_inj m m' (fun j hj => h j (by omega)) (fun j hj => h' j (by omega)) (by omega)
    refine ⟨by omega, fun j hj => ?_⟩
    by_cases c : j < m
    · exact k.2 j c
    · have c1 : j = m := by omega
      have c2 := k.1
      subst c1
      subst c2
      exact e3
theorem wvL_congr {g g' : Nat → Int} : ∀ m, (∀ j, j < m → g j = g' j) → wvL g m = wvL g' m
  | 0, _ => rfl
  | m + 1, h => by
    show 27 * wvL g m + g m - 96 = 27 * wvL g' m + g' m - 96
    rw [wvL_congr m (fun j hj => h j (by omega)), h m (by omega)]
theorem wvF_wvL (t : Int → Int) (L p : Nat) : ∀ j, j ≤ 7 → wvF t L p j = wvL (fun i => hr t L (p + i)) j
  | 0, _ => rfl
  | j + 1, h => by
    have e : wvF t L p (j + 1) = if j < 7 then 27 * wvF t L p j + hr t L (p + j) - 96 else -1 := rfl
    rw [e, if_pos (by omega), wvF_wvL t L p j (by omega)]
    rfl
def zwc (i : Nat) : Int := wvL (zbv i) (zWlen.getD i 0)
theorem zwc_v : (zwc 0 = 4085899 ∧ zwc 1 = 394913 ∧ zwc 2 = 237458 ∧ zwc 3 = 37037273) ∧ zwc 4 = 40187 ∧ zwc 5 = 267413 ∧ zwc 6 = 92275 ∧ zwc 7 = 11450658 := by decide +kernel
theorem zWlen_le : ∀ i, i < 8 → zWlen.getD i 0 ≤ 6 := by decide
theorem kindW_iff {w : Int} {i : Nat} (hi : i < 8) : kindW w = i + 1 ↔ w = zwc i := by
  obtain ⟨⟨a0, a1, a2, a3⟩, a4, a5, a6, a7⟩ := zwc_v
  have c : i = 0 ∨ i = 1 ∨ i = 2 ∨ i = 3 ∨ i = 4 ∨ i = 5 ∨ i = 6 ∨ i = 7 := by omega
  unfold kindW
  rcases c with rfl | rfl | rfl | rfl | rfl | rfl | rfl | rfl <;> (repeat' split) <;> omega
theorem kd_iff {t : Int → Int} {L p : Nat} {i : Nat} (hi : i < 8) : kd t L p = i + 1 ↔ (((lt t L p : Nat) : Int) - p = zbl i ∧ ∀ j : Nat, (j : Int) < zbl i → hr t L (p + j) = zbv i j) := by
  have r := rn_all (lo := 97) (hi := 122) (t := t) (L := L) (by decide) (L - p) p (Nat.le_refl _)
  have r3 : ∀ j, p ≤ j → j < lt t L p → 97 ≤ hr t L j ∧ hr t L j ≤ 122 := r.2.2.2
  have hlet : ∀ j, j < lt t L p - p → 97 ≤ hr t L (p + j) ∧ hr t L (p + j) ≤ 122 := fun j hj => r3 (p + j) (by omega) (by omega)
  have hz := zWlen_le i hi
  have hlet2 : ∀ j, j < zWlen.getD i 0 → 97 ≤ zbv i j ∧ zbv i j ≤ 122 := fun j hj => by
    have := zbv_rng i hi j (by omega) hj
    exact ⟨this.1, this.2.1⟩
  have r0 : p ≤ lt t L p := r.1
  unfold kd
  rw [kindW_iff hi]
  constructor
  · intro e
    by_cases c : lt t L p - p ≤ 7
    · rw [wvF_wvL t L p _ c] at e
      obtain ⟨e1, e2⟩ := wvL_inj _ _ hlet hlet2 e
      refine ⟨?_, fun j hj => e2 j ?_⟩
      · show ((lt t L p : Nat) : Int) - p = ((zWlen.getD i 0 : Nat) : Int)
        omega
      · have hj2 : (j : Int) < ((zWlen.getD i 0 : Nat) : Int) := hj
        omega
    · have := (wvF_rng (t := t) (L := L) (p := p) (lt t L p - p) hlet).2 (by omega)
      rw [this] at e
      have := wvL_nn _ hlet2
      have e9 : zwc i = wvL (zbv i) (zWlen.getD i 0) := rfl
      omega
  · intro ⟨e1, e2⟩
    have e3 : ((lt t L p : Nat) : Int) - p = ((zWlen.getD i 0 : Nat) : Int) := e1
    have e4 : lt t L p - p = zWlen.getD i 0 := by omega
    rw [e4, wvF_wvL t L p _ (by omega)]
    refine wvL_congr _ fun j hj => e2 j ?_
    show (j : Int) < ((zWlen.getD i 0 : Nat) : Int)
    omega
theorem s_peekC {h : zH} {I : Nat → Int → Int} (hM : zCM h) {t : Int → Int} {L : Nat} (hT : TXC I t L) {p : Nat} (hp : I 1 3 = p) : Ev M_X2_peek 0 [(0, zr (some 1))] [] (h.1, I, h.2.2) (0, 0) (.inl (some (zi (hr t L p))), (h.1, I, h.2.2)) := by
  have hL := hT.2.1
  refine Ev.aload_n (pc := 0) (n := (0, 0)) (i := 0) dX2_peek_0 rfl rfl ?_
  refine Ev.gI (pc := 1) (n := (0, 0)) (x := (p : Int)) dX2_peek_1 fl_X2_22 (zk_at hM.1 rfl) rfl hp ?_
  refine Ev.aload_n (pc := 4) (n := (0, 0)) (i := 0) dX2_peek_4 rfl rfl ?_
  refine Ev.gI (pc := 5) (n := (0, 0)) (x := (L : Int)) dX2_peek_5 fl_X2_15 (zk_at hM.1 rfl) rfl hT.1 ?_
  refine Ev.icmp_ge (pc := 8) (n := (0, 0)) (tgt := 33) dX2_peek_8 rfl (fun hc => ?_) (fun hc => ?_)
  · skip
    have e : hr t L p = -1 := if_neg (by omega)
    rw [e]
    refine Ev.iconst (pc := 33) (n := (0, 0)) dX2_peek_33 ?_
    exact Ev.iret dX2_peek_34 rfl ⟨(Nat.le_of_ble_eq_true rfl), (Nat.le_of_ble_eq_true rfl)⟩
  · skip
    have e : hr t L p = t p := if_pos (by omega)
    rw [e]
    refine Ev.aload_n (pc := 11) (n := (0, 0)) (i := 0) dX2_peek_11 rfl rfl ?_
    refine Ev.gI (pc := 12) (n := (0, 0)) (x := (p : Int)) dX2_peek_12 fl_X2_22 (zk_at hM.1 rfl) rfl hp ?_
    refine Ev.sipush (pc := 15) (n := (0, 0)) dX2_peek_15 ?_
    refine Ev.icmp_ge (pc := 18) (n := (0, 0)) (tgt := 33) dX2_peek_18 rfl (fun hc => absurd hc (by omega)) (fun hc => ?_)
    refine Ev.aload_n (pc := 21) (n := (0, 0)) (i := 0) dX2_peek_21 rfl rfl ?_
    refine Ev.gR (pc := 22) (n := (0, 0)) (r := (some 2)) dX2_peek_22 fl_X2_9 (zk_at hM.1 rfl) rfl hM.2.1 ?_
    refine Ev.aload_n (pc := 25) (n := (0, 0)) (i := 0) dX2_peek_25 rfl rfl ?_
    refine Ev.gI (pc := 26) (n := (0, 0)) (x := (p : Int)) dX2_peek_26 fl_X2_22 (zk_at hM.1 rfl) rfl hp ?_
    refine Ev.ia (pc := 29) (n := (0, 0)) (x := (t p)) dX2_peek_29 (zk_at hM.1 rfl) (by omega) (by omega) (hT.2.2 p (by omega)) ?_
    refine Ev.goto (pc := 30) (n := (0, 0)) (tgt := 34) dX2_peek_30 rfl ?_
    exact Ev.iret dX2_peek_34 rfl ⟨(Nat.le_of_ble_eq_true rfl), (Nat.le_of_ble_eq_true rfl)⟩
theorem s_isAtLetterC {h : zH} {I : Nat → Int → Int} (hM : zCM h) {t : Int → Int} {L : Nat} (hT : TXC I t L) {p : Nat} (hp : I 1 3 = p) : Ev M_X2_isAtLetter 0 [(0, zr (some 1))] [] (h.1, I, h.2.2) (0, 0) (.inl (some (zi (if 97 ≤ hr t L p ∧ hr t L p ≤ 122 then 1 else 0))), (h.1, I, h.2.2)) := by
  refine Ev.aload_n (pc := 0) (n := (0, 0)) (i := 0) dX2_isAtLetter_0 rfl rfl ?_
  refine Ev.callV (pc := 1) (n := (0, 0)) (ob := 1) (as := []) (st := []) (s_peekC hM hT hp) dX2_isAtLetter_1 ok_X2_peek (lk_X2_39 rfl) ⟨(Nat.le_of_ble_eq_true rfl), (Nat.le_of_ble_eq_true rfl)⟩ (zk_at hM.1 rfl) ⟨by decide, rfl⟩ rfl (Nat.le_of_ble_eq_true rfl) (Nat.le_of_ble_eq_true rfl) ⟨(Nat.le_of_ble_eq_true rfl), (Nat.le_of_ble_eq_true rfl)⟩ ?_
  refine Ev.bipush (pc := 4) (n := (0, 0)) dX2_isAtLetter_4 ?_
  refine Ev.bipush (pc := 6) (n := (0, 0)) dX2_isAtLetter_6 ?_
  refine Ev.callSN (pc := 8) (n := (0, 0)) (as := [zi (hr t L p), zi 97, zi 122]) (st := []) (s_isBetween _ (hr t L p) 97 122) dX2_isAtLetter_8 ok_X6_isBetween (lk_X2_58 rfl) ⟨(Nat.le_of_ble_eq_true rfl), (Nat.le_of_ble_eq_true rfl)⟩ rfl (Nat.le_of_ble_eq_true rfl) (Nat.le_of_ble_eq_true rfl) ⟨(Nat.le_of_ble_eq_true rfl), (Nat.le_of_ble_eq_true rfl)⟩ ?_
  exact Ev.bret dX2_isAtLetter_11 rfl (by split <;> decide) ⟨(Nat.le_of_ble_eq_true rfl), (Nat.le_of_ble_eq_true rfl)⟩
theorem s_isAtDigitC {h : zH} {I : Nat → Int → Int} (hM : zCM h) {t : Int → Int} {L : Nat} (hT : TXC I t L) {p : Nat} (hp : I 1 3 = p) : Ev M_X2_isAtDigit 0 [(0, zr (some 1))] [] (h.1, I, h.2.2) (0, 0) (.inl (some (zi (if 48 ≤ hr t L p ∧ hr t L p ≤ 57 then 1 else 0))), (h.1, I, h.2.2)) := by
  refine Ev.aload_n (pc := 0) (n := (0, 0)) (i := 0) dX2_isAtDigit_0 rfl rfl ?_
  refine Ev.callV (pc := 1) (n := (0, 0)) (ob := 1) (as := []) (st := []) (s_peekC hM hT hp) dX2_isAtDigit_1 ok_X2_peek (lk_X2_39 rfl) ⟨(Nat.le_of_ble_eq_true rfl), (Nat.le_of_ble_eq_true rfl)⟩ (zk_at hM.1 rfl) ⟨by decide, rfl⟩ rfl (Nat.le_of_ble_eq_true rfl) (Nat.le_of_ble_eq_true rfl) ⟨(Nat.le_of_ble_eq_true rfl), (Nat.le_of_ble_eq_true rfl)⟩ ?_
  refine Ev.bipush (pc := 4) (n := (0, 0)) dX2_isAtDigit_4 ?_
  refine Ev.bipush (pc := 6) (n := (0, 0)) dX2_isAtDigit_6 ?_
  refine Ev.callSN (pc := 8) (n := (0, 0)) (as := [zi (hr t L p), zi 48, zi 57]) (st := []) (s_isBetween _ (hr t L p) 48 57) dX2_isAtDigit_8 ok_X6_isBetween (lk_X2_58 rfl) ⟨(Nat.le_of_ble_eq_true rfl), (Nat.le_of_ble_eq_true rfl)⟩ rfl (Nat.le_of_ble_eq_true rfl) (Nat.le_of_ble_eq_true rfl) ⟨(Nat.le_of_ble_eq_true rfl), (Nat.le_of_ble_eq_true rfl)⟩ ?_
  exact Ev.bret dX2_isAtDigit_11 rfl (by split <;> decide) ⟨(Nat.le_of_ble_eq_true rfl), (Nat.le_of_ble_eq_true rfl)⟩
theorem s_skip_end {h : zH} {I : Nat → Int → Int} (hM : zCM h) {t : Int → Int} {L : Nat} (hT : TXC I t L) {p : Nat} (hp : I 1 3 = p) {p0 : Nat} (h1 : ¬ hr t L p = 32) : Ev M_X2_skipSpaces 5 [(0, zr (some 1)), (1, zi (p0 : Int))] [] (h.1, I, h.2.2) (0, 0) (.inl (some (zi (if p0 < sk t L p then 1 else 0))), (h.1, zup I 1 3 ((sk t L p : Nat) : Int), h.2.2)) := by
  have h2 : sk t L p = p := rn_out (by omega)
  rw [h2, zup_id hp]
  refine Ev.aload_n (pc := 5) (n := (0, 0)) (i := 0) dX2_skipSpaces_5 rfl rfl ?_
  refine Ev.gI (pc := 6) (n := (0, 0)) (x := (p : Int)) dX2_skipSpaces_6 fl_X2_22 (zk_at hM.1 rfl) rfl hp ?_
  refine Ev.aload_n (pc := 9) (n := (0, 0)) (i := 0) dX2_skipSpaces_9 rfl rfl ?_
  refine Ev.gI (pc := 10) (n := (0, 0)) (x := (L : Int)) dX2_skipSpaces_10 fl_X2_15 (zk_at hM.1 rfl) rfl hT.1 ?_
  refine Ev.icmp_ge (pc := 13) (n := (0, 0)) (tgt := 38) dX2_skipSpaces_13 rfl (fun hc => ?_) (fun hc => ?_)
  · skip
    refine Ev.aload_n (pc := 38) (n := (0, 0)) (i := 0) dX2_skipSpaces_38 rfl rfl ?_
    refine Ev.gI (pc := 39) (n := (0, 0)) (x := (p : Int)) dX2_skipSpaces_39 fl_X2_22 (zk_at hM.1 rfl) rfl hp ?_
    refine Ev.iload_n (pc := 42) (n := (0, 0)) (i := 1) dX2_skipSpaces_42 rfl rfl ?_
    refine Ev.icmp_le (pc := 43) (n := (0, 0)) (tgt := 50) dX2_skipSpaces_43 rfl (fun h5 => ?_) (fun h5 => ?_)
    · skip
      rw [if_neg (show ¬ p0 < p by omega)]
      refine Ev.iconst (pc := 50) (n := (0, 0)) dX2_skipSpaces_50 ?_
      exact Ev.bret dX2_skipSpaces_51 rfl (by decide) ⟨(Nat.le_of_ble_eq_true rfl), (Nat.le_of_ble_eq_true rfl)⟩
    · skip
      rw [if_pos (show p0 < p by omega)]
      refine Ev.iconst (pc := 46) (n := (0, 0)) dX2_skipSpaces_46 ?_
      refine Ev.goto (pc := 47) (n := (0, 0)) (tgt := 51) dX2_skipSpaces_47 rfl ?_
      exact Ev.bret dX2_skipSpaces_51 rfl (by decide) ⟨(Nat.le_of_ble_eq_true rfl), (Nat.le_of_ble_eq_true rfl)⟩
  · skip
    refine Ev.aload_n (pc := 16) (n := (0, 0)) (i := 0) dX2_skipSpaces_16 rfl rfl ?_
    refine Ev.callV (pc := 17) (n := (0, 0)) (ob := 1) (as := []) (st := []) (s_peekC hM hT hp) dX2_skipSpaces_17 ok_X2_peek (lk_X2_39 rfl) ⟨(Nat.le_of_ble_eq_true rfl), (Nat.le_of_ble_eq_true rfl)⟩ (zk_at hM.1 rfl) ⟨by decide, rfl⟩ rfl (Nat.le_of_ble_eq_true rfl) (Nat.le_of_ble_eq_true rfl) ⟨(Nat.le_of_ble_eq_true rfl), (Nat.le_of_ble_eq_true rfl)⟩ ?_
    refine Ev.bipush (pc := 20) (n := (0, 0)) dX2_skipSpaces_20 ?_
    refine Ev.icmp_ne (pc := 22) (n := (0, 0)) (tgt := 38) dX2_skipSpaces_22 rfl (fun hc => ?_) (fun hc => absurd hc h1)
    refine Ev.aload_n (pc := 38) (n := (0, 0)) (i := 0) dX2_skipSpaces_38 rfl rfl ?_
    refine Ev.gI (pc := 39) (n := (0, 0)) (x := (p : Int)) dX2_skipSpaces_39 fl_X2_22 (zk_at hM.1 rfl) rfl hp ?_
    refine Ev.iload_n (pc := 42) (n := (0, 0)) (i := 1) dX2_skipSpaces_42 rfl rfl ?_
    refine Ev.icmp_le (pc := 43) (n := (0, 0)) (tgt := 50) dX2_skipSpaces_43 rfl (fun h5 => ?_) (fun h5 => ?_)
    · skip
      rw [if_neg (show ¬ p0 < p by omega)]
      refine Ev.iconst (pc := 50) (n := (0, 0)) dX2_skipSpaces_50 ?_
      exact Ev.bret dX2_skipSpaces_51 rfl (by decide) ⟨(Nat.le_of_ble_eq_true rfl), (Nat.le_of_ble_eq_true rfl)⟩
    · skip
      rw [if_pos (show p0 < p by omega)]
      refine Ev.iconst (pc := 46) (n := (0, 0)) dX2_skipSpaces_46 ?_
      refine Ev.goto (pc := 47) (n := (0, 0)) (tgt := 51) dX2_skipSpaces_47 rfl ?_
      exact Ev.bret dX2_skipSpaces_51 rfl (by decide) ⟨(Nat.le_of_ble_eq_true rfl), (Nat.le_of_ble_eq_true rfl)⟩
theorem s_skip_loop {h : zH} (hM : zCM h) {t : Int → Int} {L p0 : Nat} : ∀ (f p : Nat) (I : Nat → Int → Int), TXC I t L → I 1 3 = p → L - p ≤ f → Ev M_X2_skipSpaces 5 [(0, zr (some 1)), (1, zi (p0 : Int))] [] (h.1, I, h.2.2) (0, 0) (.inl (some (zi (if p0 < sk t L p then 1 else 0))), (h.1, zup I 1 3 ((sk t L p : Nat) : Int), h.2.2)) := by
  intro f
  induction f with
  | zero =>
    intro p I hT hp hf
    have h1 : hr t L p = -1 := if_neg (by omega)
    exact s_skip_end hM hT hp (by omega)
  | succ f ih =>
    intro p I hT hp hf
    by_cases h1 : hr t L p = 32
    · have h2 : sk t L p = sk t L (p + 1) := rn_in (by omega) (by omega)
      have hpL : p < L := hr_lt (t := t) (by omega)
      have hL := hT.2.1
      have k9 := ih (p + 1) (zup I 1 3 ((p : Int) + 1)) (hT.up (by decide) _) (zup_s _ _ _ _) (by omega)
      rw [zup_zup, ← h2] at k9
      refine Ev.aload_n (pc := 5) (n := (0, 0)) (i := 0) dX2_skipSpaces_5 rfl rfl ?_
      refine Ev.gI (pc := 6) (n := (0, 0)) (x := (p : Int)) dX2_skipSpaces_6 fl_X2_22 (zk_at hM.1 rfl) rfl hp ?_
      refine Ev.aload_n (pc := 9) (n := (0, 0)) (i := 0) dX2_skipSpaces_9 rfl rfl ?_
      refine Ev.gI (pc := 10) (n := (0, 0)) (x := (L : Int)) dX2_skipSpaces_10 fl_X2_15 (zk_at hM.1 rfl) rfl hT.1 ?_
      refine Ev.icmp_ge (pc := 13) (n := (0, 0)) (tgt := 38) dX2_skipSpaces_13 rfl (fun hc => absurd hc (by omega)) (fun hc => ?_)
      refine Ev.aload_n (pc := 16) (n := (0, 0)) (i := 0) dX2_skipSpaces_16 rfl rfl ?_
      refine Ev.callV (pc := 17) (n := (0, 0)) (ob := 1) (as := []) (st := []) (s_peekC hM hT hp) dX2_skipSpaces_17 ok_X2_peek (lk_X2_39 rfl) ⟨(Nat.le_of_ble_eq_true rfl), (Nat.le_of_ble_eq_true rfl)⟩ (zk_at hM.1 rfl) ⟨by decide, rfl⟩ rfl (Nat.le_of_ble_eq_true rfl) (Nat.le_of_ble_eq_true rfl) ⟨(Nat.le_of_ble_eq_true rfl), (Nat.le_of_ble_eq_true rfl)⟩ ?_
      refine Ev.bipush (pc := 20) (n := (0, 0)) dX2_skipSpaces_20 ?_
      refine Ev.icmp_ne (pc := 22) (n := (0, 0)) (tgt := 38) dX2_skipSpaces_22 rfl (fun hc => absurd h1 hc) (fun hc => ?_)
      refine Ev.aload_n (pc := 25) (n := (0, 0)) (i := 0) dX2_skipSpaces_25 rfl rfl ?_
      refine Ev.dup (pc := 26) (n := (0, 0)) dX2_skipSpaces_26 rfl ?_
      refine Ev.gI (pc := 27) (n := (0, 0)) (x := (p : Int)) dX2_skipSpaces_27 fl_X2_22 (zk_at hM.1 rfl) rfl hp ?_
      refine Ev.iconst (pc := 30) (n := (0, 0)) dX2_skipSpaces_30 ?_
      refine Ev.iadd (pc := 31) (n := (0, 0)) dX2_skipSpaces_31 ⟨by omega, by omega⟩ ?_
      refine Ev.putI (pc := 32) (n := (0, 0)) dX2_skipSpaces_32 fl_X2_22 (zk_at hM.1 rfl) rfl rfl (fun h9 => by cases h9) ?_
      refine Ev.goto (pc := 35) (n := (0, 0)) (tgt := 5) dX2_skipSpaces_35 rfl ?_
      exact k9
    · exact s_skip_end hM hT hp h1
theorem s_skipSpacesC {h : zH} {I : Nat → Int → Int} (hM : zCM h) {t : Int → Int} {L : Nat} (hT : TXC I t L) {p : Nat} (hp : I 1 3 = p) : Ev M_X2_skipSpaces 0 [(0, zr (some 1))] [] (h.1, I, h.2.2) (0, 0) (.inl (some (zi (if p < sk t L p then 1 else 0))), (h.1, zup I 1 3 ((sk t L p : Nat) : Int), h.2.2)) := by
  refine Ev.aload_n (pc := 0) (n := (0, 0)) (i := 0) dX2_skipSpaces_0 rfl rfl ?_
  refine Ev.gI (pc := 1) (n := (0, 0)) (x := (p : Int)) dX2_skipSpaces_1 fl_X2_22 (zk_at hM.1 rfl) rfl hp ?_
  refine Ev.istore_n (pc := 4) (n := (0, 0)) (i := 1) (L' := [(1, zi (p : Int)), (0, zr (some 1))]) dX2_skipSpaces_4 rfl (Nat.le_of_ble_eq_true rfl) rfl ?_
  refine Ev.perm [1, 0] rfl ?_
  exact s_skip_loop hM (L - p) p I hT hp (Nat.le_refl _)
theorem s_lett_loop {h : zH} (hM : zCM h) {t : Int → Int} {L p0 : Nat} : ∀ (f p : Nat) (I : Nat → Int → Int), TXC I t L → I 1 3 = p → L - p ≤ f → ∀ o : zO, Ev M_X2_readWord 36 [(0, zr (some 1)), (1, zi (p0 : Int))] [] (h.1, zup I 1 3 ((lt t L p : Nat) : Int), h.2.2) (0, 0) o → Ev M_X2_readWord 5 [(0, zr (some 1)), (1, zi (p0 : Int))] [] (h.1, I, h.2.2) (0, 0) o := by
  intro f
  have E : ∀ (p : Nat) (I : Nat → Int → Int), TXC I t L → I 1 3 = p → ¬ (97 ≤ hr t L p ∧ hr t L p ≤ 122) → ∀ o : zO, Ev M_X2_readWord 36 [(0, zr (some 1)), (1, zi (p0 : Int))] [] (h.1, zup I 1 3 ((lt t L p : Nat) : Int), h.2.2) (0, 0) o → Ev M_X2_readWord 5 [(0, zr (some 1)), (1, zi (p0 : Int))] [] (h.1, I, h.2.2) (0, 0) o := fun p I hT hp h1 o K => by
    have h2 : lt t L p = p := rn_out h1
    rw [h2, zup_id hp] at K
    refine Ev.aload_n (pc := 5) (n := (0, 0)) (i := 0) dX2_readWord_5 rfl rfl ?_
    refine Ev.gI (pc := 6) (n := (0, 0)) (x := (p : Int)) dX2_readWord_6 fl_X2_22 (zk_at hM.1 rfl) rfl hp ?_
    refine Ev.aload_n (pc := 9) (n := (0, 0)) (i := 0) dX2_readWord_9 rfl rfl ?_
    refine Ev.gI (pc := 10) (n := (0, 0)) (x := (L : Int)) dX2_readWord_10 fl_X2_15 (zk_at hM.1 rfl) rfl hT.1 ?_
    refine Ev.icmp_ge (pc := 13) (n := (0, 0)) (tgt := 36) dX2_readWord_13 rfl (fun hc => ?_) (fun hc => ?_)
    · skip
      exact K
    · skip
      refine Ev.aload_n (pc := 16) (n := (0, 0)) (i := 0) dX2_readWord_16 rfl rfl ?_
      refine Ev.callV (pc := 17) (n := (0, 0)) (ob := 1) (as := []) (st := []) (s_isAtLetterC hM hT hp) dX2_readWord_17 ok_X2_isAtLetter (lk_X2_62 rfl) ⟨(Nat.le_of_ble_eq_true rfl), (Nat.le_of_ble_eq_true rfl)⟩ (zk_at hM.1 rfl) ⟨by decide, rfl⟩ rfl (Nat.le_of_ble_eq_true rfl) (Nat.le_of_ble_eq_true rfl) ⟨(Nat.le_of_ble_eq_true rfl), (Nat.le_of_ble_eq_true rfl)⟩ ?_
      rw [if_neg h1]
      refine Ev.if_eq (pc := 20) (n := (0, 0)) (tgt := 36) dX2_readWord_20 rfl (fun hc => ?_) (fun hc => absurd rfl hc)
      exact K
  induction f with
  | zero =>
    intro p I hT hp hf o K
    have h1 : hr t L p = -1 := if_neg (by omega)
    exact E p I hT hp (by omega) o K
  | succ f ih =>
    intro p I hT hp hf o K
    by_cases h1 : 97 ≤ hr t L p ∧ hr t L p ≤ 122
    · have h2 : lt t L p = lt t L (p + 1) := rn_in (by omega) h1
      have hpL : p < L := hr_lt (t := t) (by omega)
      have hL := hT.2.1
      have k9 := ih (p + 1) (zup I 1 3 ((p : Int) + 1)) (hT.up (by decide) _) (zup_s _ _ _ _) (by omega) o
      rw [zup_zup, ← h2] at k9
      refine Ev.aload_n (pc := 5) (n := (0, 0)) (i := 0) dX2_readWord_5 rfl rfl ?_
      refine Ev.gI (pc := 6) (n := (0, 0)) (x := (p : Int)) dX2_readWord_6 fl_X2_22 (zk_at hM.1 rfl) rfl hp ?_
      refine Ev.aload_n (pc := 9) (n := (0, 0)) (i := 0) dX2_readWord_9 rfl rfl ?_
      refine Ev.gI (pc := 10) (n := (0, 0)) (x := (L : Int)) dX2_readWord_10 fl_X2_15 (zk_at hM.1 rfl) rfl hT.1 ?_
      refine Ev.icmp_ge (pc := 13) (n := (0, 0)) (tgt := 36) dX2_readWord_13 rfl (fun hc => absurd hc (by omega)) (fun hc => ?_)
      refine Ev.aload_n (pc := 16) (n := (0, 0)) (i := 0) dX2_readWord_16 rfl rfl ?_
      refine Ev.callV (pc := 17) (n := (0, 0)) (ob := 1) (as := []) (st := []) (s_isAtLetterC hM hT hp) dX2_readWord_17 ok_X2_isAtLetter (lk_X2_62 rfl) ⟨(Nat.le_of_ble_eq_true rfl), (Nat.le_of_ble_eq_true rfl)⟩ (zk_at hM.1 rfl) ⟨by decide, rfl⟩ rfl (Nat.le_of_ble_eq_true rfl) (Nat.le_of_ble_eq_true rfl) ⟨(Nat.le_of_ble_eq_true rfl), (Nat.le_of_ble_eq_true rfl)⟩ ?_
      rw [if_pos h1]
      refine Ev.if_eq (pc := 20) (n := (0, 0)) (tgt := 36) dX2_readWord_20 rfl (fun hc => absurd hc (by decide)) (fun hc => ?_)
      refine Ev.aload_n (pc := 23) (n := (0, 0)) (i := 0) dX2_readWord_23 rfl rfl ?_
      refine Ev.dup (pc := 24) (n := (0, 0)) dX2_readWord_24 rfl ?_
      refine Ev.gI (pc := 25) (n := (0, 0)) (x := (p : Int)) dX2_readWord_25 fl_X2_22 (zk_at hM.1 rfl) rfl hp ?_
      refine Ev.iconst (pc := 28) (n := (0, 0)) dX2_readWord_28 ?_
      refine Ev.iadd (pc := 29) (n := (0, 0)) dX2_readWord_29 ⟨by omega, by omega⟩ ?_
      refine Ev.putI (pc := 30) (n := (0, 0)) dX2_readWord_30 fl_X2_22 (zk_at hM.1 rfl) rfl rfl (fun h9 => by cases h9) ?_
      refine Ev.goto (pc := 33) (n := (0, 0)) (tgt := 5) dX2_readWord_33 rfl ?_
      exact k9 K
    · exact E p I hT hp h1 o K
theorem s_isWord_loop {h : zH} {I : Nat → Int → Int} (hM : zCM h) {t : Int → Int} {L : Nat} (hT : TXC I t L) {p e : Nat} (hp : I 1 3 = e) (hpe : p ≤ e) (heL : e ≤ L) {i : Nat} (hi : i < 8) (he : (e : Int) - p = zbl i) : ∀ (f j : Nat), zbl i - j = f → (∀ k : Nat, k < j → hr t L (p + k) = zbv i k) → ∃ v : Int, ((v = 1 ∧ (((e : Nat) : Int) - p = zbl i ∧ ∀ j : Nat, (j : Int) < zbl i → hr t L (p + j) = zbv i j)) ∨ (v = 0 ∧ ¬ (((e : Nat) : Int) - p = zbl i ∧ ∀ j : Nat, (j : Int) < zbl i → hr t L (p + j) = zbv i j))) ∧ Ev M_X2_isWordAt 31 [(0, zr (some 1)), (1, zr (some (4110 + i))), (2, zi (p : Int)), (3, zi (j : Int))] [] (h.1, I, h.2.2) (0, 0) (.inl (some (zi v)), (h.1, I, h.2.2)) := by
  have hz := zbl_rng i hi
  have hL := hT.2.1
  intro f
  induction f with
  | zero =>
    intro j hf hm
    refine ⟨1, Or.inl ⟨rfl, he, fun k hk => hm k (by omega)⟩, ?_⟩
    refine Ev.iload_n (pc := 31) (n := (0, 0)) (i := 3) dX2_isWordAt_31 rfl rfl ?_
    refine Ev.aload_n (pc := 32) (n := (0, 0)) (i := 1) dX2_isWordAt_32 rfl rfl ?_
    refine Ev.callT (pc := 33) (n := (0, 0)) (i := i) (as := []) (st := [zi (j : Int)]) (s_slen hi) dX2_isWordAt_33 ok_slen (lkj_len rfl) ⟨(Nat.le_of_ble_eq_true rfl), (Nat.le_of_ble_eq_true rfl)⟩ hi rfl rfl (Nat.le_of_ble_eq_true rfl) (Nat.le_of_ble_eq_true rfl) ⟨(Nat.le_of_ble_eq_true rfl), (Nat.le_of_ble_eq_true rfl)⟩ ?_
    refine Ev.icmp_ge (pc := 36) (n := (0, 0)) (tgt := 63) dX2_isWordAt_36 rfl (fun hc => ?_) (fun hc => absurd hc (by omega))
    refine Ev.iconst (pc := 63) (n := (0, 0)) dX2_isWordAt_63 ?_
    exact Ev.bret dX2_isWordAt_64 rfl (by decide) ⟨(Nat.le_of_ble_eq_true rfl), (Nat.le_of_ble_eq_true rfl)⟩
  | succ f ih =>
    intro j hf hm
    have e1 : (p : Int) + (j : Int) = ((p + j : Nat) : Int) := by omega
    have hb2 : I 2 ((p : Int) + (j : Int)) = hr t L (p + j) := by
      rw [e1, hT.2.2 _ (by omega)]
      exact (if_pos (by omega)).symm
    have kc := s_schar (h := (h.1, I, h.2.2)) hi (k := (j : Int)) (by omega) (by omega)
    rw [Int.toNat_natCast] at kc
    by_cases h1 : hr t L (p + j) = zbv i j
    · obtain ⟨v, hv, k9⟩ := ih (j + 1) (by omega) (fun k hk => by
        by_cases c : k = j
        · subst c; exact h1
        · exact hm k (by omega))
      refine ⟨v, hv, ?_⟩
      refine Ev.iload_n (pc := 31) (n := (0, 0)) (i := 3) dX2_isWordAt_31 rfl rfl ?_
      refine Ev.aload_n (pc := 32) (n := (0, 0)) (i := 1) dX2_isWordAt_32 rfl rfl ?_
      refine Ev.callT (pc := 33) (n := (0, 0)) (i := i) (as := []) (st := [zi (j : Int)]) (s_slen hi) dX2_isWordAt_33 ok_slen (lkj_len rfl) ⟨(Nat.le_of_ble_eq_true rfl), (Nat.le_of_ble_eq_true rfl)⟩ hi rfl rfl (Nat.le_of_ble_eq_true rfl) (Nat.le_of_ble_eq_true rfl) ⟨(Nat.le_of_ble_eq_true rfl), (Nat.le_of_ble_eq_true rfl)⟩ ?_
      refine Ev.icmp_ge (pc := 36) (n := (0, 0)) (tgt := 63) dX2_isWordAt_36 rfl (fun hc => absurd hc (by omega)) (fun hc => ?_)
      refine Ev.aload_n (pc := 39) (n := (0, 0)) (i := 0) dX2_isWordAt_39 rfl rfl ?_
      refine Ev.gR (pc := 40) (n := (0, 0)) (r := (some 2)) dX2_isWordAt_40 fl_X2_9 (zk_at hM.1 rfl) rfl hM.2.1 ?_
      refine Ev.iload_n (pc := 43) (n := (0, 0)) (i := 2) dX2_isWordAt_43 rfl rfl ?_
      refine Ev.iload_n (pc := 44) (n := (0, 0)) (i := 3) dX2_isWordAt_44 rfl rfl ?_
      refine Ev.iadd (pc := 45) (n := (0, 0)) dX2_isWordAt_45 ⟨by omega, by omega⟩ ?_
      refine Ev.ia (pc := 46) (n := (0, 0)) (x := (hr t L (p + j))) dX2_isWordAt_46 (zk_at hM.1 rfl) (by omega) (by omega) hb2 ?_
      refine Ev.aload_n (pc := 47) (n := (0, 0)) (i := 1) dX2_isWordAt_47 rfl rfl ?_
      refine Ev.iload_n (pc := 48) (n := (0, 0)) (i := 3) dX2_isWordAt_48 rfl rfl ?_
      refine Ev.callT (pc := 49) (n := (0, 0)) (i := i) (as := [zi (j : Int)]) (st := [zi (hr t L (p + j))]) (kc) dX2_isWordAt_49 ok_schar (lkj_char rfl) ⟨(Nat.le_of_ble_eq_true rfl), (Nat.le_of_ble_eq_true rfl)⟩ hi rfl rfl (Nat.le_of_ble_eq_true rfl) (Nat.le_of_ble_eq_true rfl) ⟨(Nat.le_of_ble_eq_true rfl), (Nat.le_of_ble_eq_true rfl)⟩ ?_
      refine Ev.icmp_eq (pc := 52) (n := (0, 0)) (tgt := 57) dX2_isWordAt_52 rfl (fun hc => ?_) (fun hc => absurd h1 hc)
      refine Ev.iinc (pc := 57) (n := (0, 0)) (L' := [(3, zi ((j : Int) + 1)), (0, zr (some 1)), (1, zr (some (4110 + i))), (2, zi (p : Int))]) dX2_isWordAt_57 rfl (Nat.le_of_ble_eq_true rfl) ⟨by omega, by omega⟩ rfl ?_
      refine Ev.goto (pc := 60) (n := (0, 0)) (tgt := 31) dX2_isWordAt_60 rfl ?_
      refine Ev.perm [1, 2, 3, 0] rfl ?_
      exact k9
    · refine ⟨0, Or.inr ⟨rfl, fun g => h1 (g.2 j (by omega))⟩, ?_⟩
      refine Ev.iload_n (pc := 31) (n := (0, 0)) (i := 3) dX2_isWordAt_31 rfl rfl ?_
      refine Ev.aload_n (pc := 32) (n := (0, 0)) (i := 1) dX2_isWordAt_32 rfl rfl ?_
      refine Ev.callT (pc := 33) (n := (0, 0)) (i := i) (as := []) (st := [zi (j : Int)]) (s_slen hi) dX2_isWordAt_33 ok_slen (lkj_len rfl) ⟨(Nat.le_of_ble_eq_true rfl), (Nat.le_of_ble_eq_true rfl)⟩ hi rfl rfl (Nat.le_of_ble_eq_true rfl) (Nat.le_of_ble_eq_true rfl) ⟨(Nat.le_of_ble_eq_true rfl), (Nat.le_of_ble_eq_true rfl)⟩ ?_
      refine Ev.icmp_ge (pc := 36) (n := (0, 0)) (tgt := 63) dX2_isWordAt_36 rfl (fun hc => absurd hc (by omega)) (fun hc => ?_)
      refine Ev.aload_n (pc := 39) (n := (0, 0)) (i := 0) dX2_isWordAt_39 rfl rfl ?_
      refine Ev.gR (pc := 40) (n := (0, 0)) (r := (some 2)) dX2_isWordAt_40 fl_X2_9 (zk_at hM.1 rfl) rfl hM.2.1 ?_
      refine Ev.iload_n (pc := 43) (n := (0, 0)) (i := 2) dX2_isWordAt_43 rfl rfl ?_
      refine Ev.iload_n (pc := 44) (n := (0, 0)) (i := 3) dX2_isWordAt_44 rfl rfl ?_
      refine Ev.iadd (pc := 45) (n := (0, 0)) dX2_isWordAt_45 ⟨by omega, by omega⟩ ?_
      refine Ev.ia (pc := 46) (n := (0, 0)) (x := (hr t L (p + j))) dX2_isWordAt_46 (zk_at hM.1 rfl) (by omega) (by omega) hb2 ?_
      refine Ev.aload_n (pc := 47) (n := (0, 0)) (i := 1) dX2_isWordAt_47 rfl rfl ?_
      refine Ev.iload_n (pc := 48) (n := (0, 0)) (i := 3) dX2_isWordAt_48 rfl rfl ?_
      refine Ev.callT (pc := 49) (n := (0, 0)) (i := i) (as := [zi (j : Int)]) (st := [zi (hr t L (p + j))]) (kc) dX2_isWordAt_49 ok_schar (lkj_char rfl) ⟨(Nat.le_of_ble_eq_true rfl), (Nat.le_of_ble_eq_true rfl)⟩ hi rfl rfl (Nat.le_of_ble_eq_true rfl) (Nat.le_of_ble_eq_true rfl) ⟨(Nat.le_of_ble_eq_true rfl), (Nat.le_of_ble_eq_true rfl)⟩ ?_
      refine Ev.icmp_eq (pc := 52) (n := (0, 0)) (tgt := 57) dX2_isWordAt_52 rfl (fun hc => absurd hc h1) (fun hc => ?_)
      refine Ev.iconst (pc := 55) (n := (0, 0)) dX2_isWordAt_55 ?_
      exact Ev.bret dX2_isWordAt_56 rfl (by decide) ⟨(Nat.le_of_ble_eq_true rfl), (Nat.le_of_ble_eq_true rfl)⟩
theorem s_isWordAt {h : zH} {I : Nat → Int → Int} (hM : zCM h) {t : Int → Int} {L : Nat} (hT : TXC I t L) {p e : Nat} (hp : I 1 3 = e) (hpe : p ≤ e) (heL : e ≤ L) {i : Nat} (hi : i < 8) : ∃ v : Int, ((v = 1 ∧ (((e : Nat) : Int) - p = zbl i ∧ ∀ j : Nat, (j : Int) < zbl i → hr t L (p + j) = zbv i j)) ∨ (v = 0 ∧ ¬ (((e : Nat) : Int) - p = zbl i ∧ ∀ j : Nat, (j : Int) < zbl i → hr t L (p + j) = zbv i j))) ∧ Ev M_X2_isWordAt 0 [(0, zr (some 1)), (1, zr (some (4110 + i))), (2, zi (p : Int))] [] (h.1, I, h.2.2) (0, 0) (.inl (some (zi v)), (h.1, I, h.2.2)) := by
  have hL := hT.2.1
  have hz := zbl_rng i hi
  by_cases he : (e : Int) - p = zbl i
  · skip
    obtain ⟨v, hv, k9⟩ := s_isWord_loop hM hT hp hpe heL hi he (zbl i).toNat 0 (by omega) (fun k hk => absurd hk (by omega))
    refine ⟨v, hv, ?_⟩
    refine Ev.iload_n (pc := 0) (n := (0, 0)) (i := 2) dX2_isWordAt_0 rfl rfl ?_
    refine Ev.if_lt (pc := 1) (n := (0, 0)) (tgt := 27) dX2_isWordAt_1 rfl (fun hc => absurd hc (by omega)) (fun hc => ?_)
    refine Ev.aload_n (pc := 4) (n := (0, 0)) (i := 0) dX2_isWordAt_4 rfl rfl ?_
    refine Ev.gI (pc := 5) (n := (0, 0)) (x := (e : Int)) dX2_isWordAt_5 fl_X2_22 (zk_at hM.1 rfl) rfl hp ?_
    refine Ev.sipush (pc := 8) (n := (0, 0)) dX2_isWordAt_8 ?_
    refine Ev.icmp_gt (pc := 11) (n := (0, 0)) (tgt := 27) dX2_isWordAt_11 rfl (fun hc => absurd hc (by omega)) (fun hc => ?_)
    refine Ev.aload_n (pc := 14) (n := (0, 0)) (i := 0) dX2_isWordAt_14 rfl rfl ?_
    refine Ev.gI (pc := 15) (n := (0, 0)) (x := (e : Int)) dX2_isWordAt_15 fl_X2_22 (zk_at hM.1 rfl) rfl hp ?_
    refine Ev.iload_n (pc := 18) (n := (0, 0)) (i := 2) dX2_isWordAt_18 rfl rfl ?_
    refine Ev.isub (pc := 19) (n := (0, 0)) dX2_isWordAt_19 ⟨by omega, by omega⟩ ?_
    refine Ev.aload_n (pc := 20) (n := (0, 0)) (i := 1) dX2_isWordAt_20 rfl rfl ?_
    refine Ev.callT (pc := 21) (n := (0, 0)) (i := i) (as := []) (st := [zi ((e : Int) - (p : Int))]) (s_slen hi) dX2_isWordAt_21 ok_slen (lkj_len rfl) ⟨(Nat.le_of_ble_eq_true rfl), (Nat.le_of_ble_eq_true rfl)⟩ hi rfl rfl (Nat.le_of_ble_eq_true rfl) (Nat.le_of_ble_eq_true rfl) ⟨(Nat.le_of_ble_eq_true rfl), (Nat.le_of_ble_eq_true rfl)⟩ ?_
    refine Ev.icmp_eq (pc := 24) (n := (0, 0)) (tgt := 29) dX2_isWordAt_24 rfl (fun hc => ?_) (fun hc => absurd he hc)
    refine Ev.iconst (pc := 29) (n := (0, 0)) dX2_isWordAt_29 ?_
    refine Ev.istore_n (pc := 30) (n := (0, 0)) (i := 3) (L' := [(3, zi 0), (0, zr (some 1)), (1, zr (some (4110 + i))), (2, zi (p : Int))]) dX2_isWordAt_30 rfl (Nat.le_of_ble_eq_true rfl) rfl ?_
    refine Ev.perm [1, 2, 3, 0] rfl ?_
    exact k9
  · skip
    refine ⟨0, Or.inr ⟨rfl, fun g => he g.1⟩, ?_⟩
    refine Ev.iload_n (pc := 0) (n := (0, 0)) (i := 2) dX2_isWordAt_0 rfl rfl ?_
    refine Ev.if_lt (pc := 1) (n := (0, 0)) (tgt := 27) dX2_isWordAt_1 rfl (fun hc => absurd hc (by omega)) (fun hc => ?_)
    refine Ev.aload_n (pc := 4) (n := (0, 0)) (i := 0) dX2_isWordAt_4 rfl rfl ?_
    refine Ev.gI (pc := 5) (n := (0, 0)) (x := (e : Int)) dX2_isWordAt_5 fl_X2_22 (zk_at hM.1 rfl) rfl hp ?_
    refine Ev.sipush (pc := 8) (n := (0, 0)) dX2_isWordAt_8 ?_
    refine Ev.icmp_gt (pc := 11) (n := (0, 0)) (tgt := 27) dX2_isWordAt_11 rfl (fun hc => absurd hc (by omega)) (fun hc => ?_)
    refine Ev.aload_n (pc := 14) (n := (0, 0)) (i := 0) dX2_isWordAt_14 rfl rfl ?_
    refine Ev.gI (pc := 15) (n := (0, 0)) (x := (e : Int)) dX2_isWordAt_15 fl_X2_22 (zk_at hM.1 rfl) rfl hp ?_
    refine Ev.iload_n (pc := 18) (n := (0, 0)) (i := 2) dX2_isWordAt_18 rfl rfl ?_
    refine Ev.isub (pc := 19) (n := (0, 0)) dX2_isWordAt_19 ⟨by omega, by omega⟩ ?_
    refine Ev.aload_n (pc := 20) (n := (0, 0)) (i := 1) dX2_isWordAt_20 rfl rfl ?_
    refine Ev.callT (pc := 21) (n := (0, 0)) (i := i) (as := []) (st := [zi ((e : Int) - (p : Int))]) (s_slen hi) dX2_isWordAt_21 ok_slen (lkj_len rfl) ⟨(Nat.le_of_ble_eq_true rfl), (Nat.le_of_ble_eq_true rfl)⟩ hi rfl rfl (Nat.le_of_ble_eq_true rfl) (Nat.le_of_ble_eq_true rfl) ⟨(Nat.le_of_ble_eq_true rfl), (Nat.le_of_ble_eq_true rfl)⟩ ?_
    refine Ev.icmp_eq (pc := 24) (n := (0, 0)) (tgt := 29) dX2_isWordAt_24 rfl (fun hc => absurd hc he) (fun hc => ?_)
    refine Ev.iconst (pc := 27) (n := (0, 0)) dX2_isWordAt_27 ?_
    exact Ev.bret dX2_isWordAt_28 rfl (by decide) ⟨(Nat.le_of_ble_eq_true rfl), (Nat.le_of_ble_eq_true rfl)⟩
theorem s_words_loop {h : zH} {I : Nat → Int → Int} (hM : zCM h) {t : Int → Int} {L : Nat} (hT : TXC I t L) {p : Nat} (hpL : p ≤ L) (hp : I 1 3 = (lt t L p : Nat)) {r : Option Nat} (hr9 : (kd t L p = 0 ∧ r = none) ∨ ∃ m : Nat, m < 8 ∧ kd t L p = m + 1 ∧ r = some (4096 + m)) : ∀ (f i : Nat), i + f = 8 → (∀ k : Nat, k < i → kd t L p ≠ k + 1) → Ev M_X2_readWord 38 [(0, zr (some 1)), (1, zi (p : Int)), (2, zi (i : Int))] [] (h.1, I, h.2.2) (0, 0) (.inl (some (zr r)), (h.1, I, h.2.2)) := by
  intro f
  induction f with
  | zero =>
    intro i hif hm
    have hr0 : r = none := by
      rcases hr9 with ⟨-, e⟩ | ⟨m, m8, e, -⟩
      · exact e
      · exact absurd e (hm m (by omega))
    subst hr0
    refine Ev.iload_n (pc := 38) (n := (0, 0)) (i := 2) dX2_readWord_38 rfl rfl ?_
    refine Ev.gsA (pc := 39) (n := (0, 0)) dX2_readWord_39 rfl rfl ?_
    refine Ev.alC (pc := 42) (n := (0, 0)) dX2_readWord_42 ?_
    refine Ev.icmp_ge (pc := 43) (n := (0, 0)) (tgt := 74) dX2_readWord_43 rfl (fun hc => ?_) (fun hc => absurd hc (by omega))
    refine Ev.null (pc := 74) (n := (0, 0)) dX2_readWord_74 ?_
    exact Ev.aret dX2_readWord_75 rfl rfl ⟨(Nat.le_of_ble_eq_true rfl), (Nat.le_of_ble_eq_true rfl)⟩
  | succ f ih =>
    intro i hif hm
    have hi : i < 8 := by omega
    have g2 := lt_ge t L p
    obtain ⟨v, hv, kw⟩ := s_isWordAt hM hT hp g2.1 (g2.2 hpL) hi
    rw [← kd_iff hi] at hv
    rcases hv with ⟨rfl, h1⟩ | ⟨rfl, h1⟩
    · have hr0 : r = some (4096 + i) := by
        rcases hr9 with ⟨e, -⟩ | ⟨m, m8, e, e2⟩
        · omega
        · have : m = i := by omega
          rw [e2, this]
      subst hr0
      refine Ev.iload_n (pc := 38) (n := (0, 0)) (i := 2) dX2_readWord_38 rfl rfl ?_
      refine Ev.gsA (pc := 39) (n := (0, 0)) dX2_readWord_39 rfl rfl ?_
      refine Ev.alC (pc := 42) (n := (0, 0)) dX2_readWord_42 ?_
      refine Ev.icmp_ge (pc := 43) (n := (0, 0)) (tgt := 74) dX2_readWord_43 rfl (fun hc => absurd hc (by omega)) (fun hc => ?_)
      refine Ev.aload_n (pc := 46) (n := (0, 0)) (i := 0) dX2_readWord_46 rfl rfl ?_
      refine Ev.gsA (pc := 47) (n := (0, 0)) dX2_readWord_47 rfl rfl ?_
      refine Ev.iload_n (pc := 50) (n := (0, 0)) (i := 2) dX2_readWord_50 rfl rfl ?_
      refine Ev.aaC (pc := 51) (n := (0, 0)) dX2_readWord_51 (by omega) (by omega) ?_
      refine Ev.geW (pc := 52) (n := (0, 0)) (i := i) dX2_readWord_52 hi (zgw_in (List.mem_of_getElem? (i := 1325) (by decide +kernel)) rfl) ?_
      refine Ev.iload_n (pc := 55) (n := (0, 0)) (i := 1) dX2_readWord_55 rfl rfl ?_
      refine Ev.callV (pc := 56) (n := (0, 0)) (ob := 1) (as := [zr (some (4110 + i)), zi (p : Int)]) (st := []) (kw) dX2_readWord_56 ok_X2_isWordAt (lk_X2_73 rfl) ⟨(Nat.le_of_ble_eq_true rfl), (Nat.le_of_ble_eq_true rfl)⟩ (zk_at hM.1 rfl) ⟨by decide, rfl⟩ rfl (Nat.le_of_ble_eq_true rfl) (Nat.le_of_ble_eq_true rfl) ⟨(Nat.le_of_ble_eq_true rfl), (Nat.le_of_ble_eq_true rfl)⟩ ?_
      refine Ev.if_eq (pc := 59) (n := (0, 0)) (tgt := 68) dX2_readWord_59 rfl (fun hc => absurd hc (by decide)) (fun hc => ?_)
      refine Ev.gsA (pc := 62) (n := (0, 0)) dX2_readWord_62 rfl rfl ?_
      refine Ev.iload_n (pc := 65) (n := (0, 0)) (i := 2) dX2_readWord_65 rfl rfl ?_
      refine Ev.aaC (pc := 66) (n := (0, 0)) dX2_readWord_66 (by omega) (by omega) ?_
      exact Ev.aret dX2_readWord_67 rfl rfl ⟨(Nat.le_of_ble_eq_true rfl), (Nat.le_of_ble_eq_true rfl)⟩
    · have k9 := ih (i + 1) (by omega) (fun k hk => by
        by_cases c : k = i
        · subst c; exact h1
        · exact hm k (by omega))
      refine Ev.iload_n (pc := 38) (n := (0, 0)) (i := 2) dX2_readWord_38 rfl rfl ?_
      refine Ev.gsA (pc := 39) (n := (0, 0)) dX2_readWord_39 rfl rfl ?_
      refine Ev.alC (pc := 42) (n := (0, 0)) dX2_readWord_42 ?_
      refine Ev.icmp_ge (pc := 43) (n := (0, 0)) (tgt := 74) dX2_readWord_43 rfl (fun hc => absurd hc (by omega)) (fun hc => ?_)
      refine Ev.aload_n (pc := 46) (n := (0, 0)) (i := 0) dX2_readWord_46 rfl rfl ?_
      refine Ev.gsA (pc := 47) (n := (0, 0)) dX2_readWord_47 rfl rfl ?_
      refine Ev.iload_n (pc := 50) (n := (0, 0)) (i := 2) dX2_readWord_50 rfl rfl ?_
      refine Ev.aaC (pc := 51) (n := (0, 0)) dX2_readWord_51 (by omega) (by omega) ?_
      refine Ev.geW (pc := 52) (n := (0, 0)) (i := i) dX2_readWord_52 hi (zgw_in (List.mem_of_getElem? (i := 1325) (by decide +kernel)) rfl) ?_
      refine Ev.iload_n (pc := 55) (n := (0, 0)) (i := 1) dX2_readWord_55 rfl rfl ?_
      refine Ev.callV (pc := 56) (n := (0, 0)) (ob := 1) (as := [zr (some (4110 + i)), zi (p : Int)]) (st := []) (kw) dX2_readWord_56 ok_X2_isWordAt (lk_X2_73 rfl) ⟨(Nat.le_of_ble_eq_true rfl), (Nat.le_of_ble_eq_true rfl)⟩ (zk_at hM.1 rfl) ⟨by decide, rfl⟩ rfl (Nat.le_of_ble_eq_true rfl) (Nat.le_of_ble_eq_true rfl) ⟨(Nat.le_of_ble_eq_true rfl), (Nat.le_of_ble_eq_true rfl)⟩ ?_
      refine Ev.if_eq (pc := 59) (n := (0, 0)) (tgt := 68) dX2_readWord_59 rfl (fun hc => ?_) (fun hc => absurd rfl hc)
      refine Ev.iinc (pc := 68) (n := (0, 0)) (L' := [(2, zi ((i : Int) + 1)), (0, zr (some 1)), (1, zi (p : Int))]) dX2_readWord_68 rfl (Nat.le_of_ble_eq_true rfl) ⟨by omega, by omega⟩ rfl ?_
      refine Ev.goto (pc := 71) (n := (0, 0)) (tgt := 38) dX2_readWord_71 rfl ?_
      refine Ev.perm [1, 2, 0] rfl ?_
      exact k9
theorem s_readWord {h : zH} {I : Nat → Int → Int} (hM : zCM h) {t : Int → Int} {L : Nat} (hT : TXC I t L) {p : Nat} (hp : I 1 3 = p) (hpL : p ≤ L) {r : Option Nat} (hr9 : (kd t L p = 0 ∧ r = none) ∨ ∃ m : Nat, m < 8 ∧ kd t L p = m + 1 ∧ r = some (4096 + m)) : Ev M_X2_readWord 0 [(0, zr (some 1))] [] (h.1, I, h.2.2) (0, 0) (.inl (some (zr r)), (h.1, zup I 1 3 ((lt t L p : Nat) : Int), h.2.2)) := by
  refine Ev.aload_n (pc := 0) (n := (0, 0)) (i := 0) dX2_readWord_0 rfl rfl ?_
  refine Ev.gI (pc := 1) (n := (0, 0)) (x := (p : Int)) dX2_readWord_1 fl_X2_22 (zk_at hM.1 rfl) rfl hp ?_
  refine Ev.istore_n (pc := 4) (n := (0, 0)) (i := 1) (L' := [(1, zi (p : Int)), (0, zr (some 1))]) dX2_readWord_4 rfl (Nat.le_of_ble_eq_true rfl) rfl ?_
  refine Ev.perm [1, 0] rfl ?_
  refine s_lett_loop hM (L - p) p I hT hp (Nat.le_refl _) _ ?_
  refine Ev.iconst (pc := 36) (n := (0, 0)) dX2_readWord_36 ?_
  refine Ev.istore_n (pc := 37) (n := (0, 0)) (i := 2) (L' := [(2, zi 0), (0, zr (some 1)), (1, zi (p : Int))]) dX2_readWord_37 rfl (Nat.le_of_ble_eq_true rfl) rfl ?_
  refine Ev.perm [1, 2, 0] rfl ?_
  exact s_words_loop hM (hT.up (by decide) _) hpL (zup_s _ _ _ _) hr9 8 0 (by omega) (fun k hk => absurd hk (by omega))
