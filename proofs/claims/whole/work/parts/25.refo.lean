def zPk (I I2 : Nat → Int → Int) : Prop := (∀ o, o ≠ 260 → o ≠ 269 → I2 o = I o) ∧ ∀ x : Int, x ≠ 11 → x ≠ 12 → I2 260 x = I 260 x
theorem zPk.rfl' (I : Nat → Int → Int) : zPk I I := ⟨fun _ _ _ => rfl, fun _ _ _ => rfl⟩
theorem zPk.trans {I I2 I3 : Nat → Int → Int} (h1 : zPk I I2) (h2 : zPk I2 I3) : zPk I I3 := ⟨fun o a b => (h2.1 o a b).trans (h1.1 o a b), fun x a b => (h2.2 x a b).trans (h1.2 x a b)⟩
theorem zPk.at' (I : Nat → Int → Int) (v : Int) : zPk I (zup I 260 11 v) := ⟨fun o a _ => funext fun x => zup_o _ _ _ _ a, fun x a _ => zup_k _ _ _ _ a⟩
theorem zPk.nu (I : Nat → Int → Int) (v : Int) : zPk I (zup I 260 12 v) := ⟨fun o a _ => funext fun x => zup_o _ _ _ _ a, fun x _ a => zup_k _ _ _ _ a⟩
theorem zPk.gv (I : Nat → Int → Int) (k v : Int) : zPk I (zup I 269 k v) := ⟨fun o _ a => funext fun x => zup_o _ _ _ _ a, fun x _ _ => zup_o _ _ _ _ (by decide)⟩
theorem zPk.tx {I I2 : Nat → Int → Int} (h : zPk I I2) {t : Int → Int} {L : Nat} (hT : TX I t L) : TX I2 t L := ⟨(h.2 4 (by decide) (by decide)).trans hT.1, hT.2.1, fun p hp => (congrFun (h.1 262 (by decide) (by decide)) p).trans (hT.2.2 p hp)⟩
def natP (t : Int → Int) (L : Nat) : Nat → Nat → Nat
  | 0, p => p
  | c + 1, p => if nmOk t L p then natP t L c (nmAt t L p) else nmAt t L p
def nokF (t : Int → Int) (L : Nat) : Nat → Nat → Int
  | 0, _ => 1
  | c + 1, p => if nmOk t L p then nokF t L c (nmAt t L p) else 0
def nvF (t : Int → Int) (L : Nat) : Nat → Nat → Int
  | 0, p => nmV t L p
  | j + 1, p => nvF t L j (nmAt t L p)
def cN (t : Int → Int) (L p : Nat) : Nat := (nOf (kd t L p)).toNat
def cE (t : Int → Int) (L p : Nat) : Nat := natP t L (cN t L p) (lt t L p)
def cmdK (t : Int → Int) (L p : Nat) : Int := if kd t L p = 0 then 0 else if nokF t L (cN t L p) (lt t L p) = 0 then 0 else if hr t L (sk t L (cE t L p)) = 59 then kd t L p else 0
def cmdAt (t : Int → Int) (L p : Nat) : Nat := if kd t L p = 0 then p else if nokF t L (cN t L p) (lt t L p) = 0 then cE t L p else if hr t L (sk t L (cE t L p)) = 59 then sk t L (cE t L p) + 1 else sk t L (cE t L p)
def fltF (t : Int → Int) (L : Nat) : Nat → Nat → Int
  | 0, _ => -1
  | f + 1, p => if p < L then (if cmdK t L p = 0 then cmdAt t L p else fltF t L f (sk t L (cmdAt t L p))) else -1
theorem nOf_rng (k : Int) : 1 ≤ nOf k ∧ nOf k ≤ 3 := by
  unfold nOf
  repeat' split
  all_goals omega
theorem sk_ge (t : Int → Int) (L p : Nat) : p ≤ sk t L p ∧ (p ≤ L → sk t L p ≤ L) := by
  have h := rn_all (lo := 32) (hi := 32) (t := t) (L := L) (by omega) (L - p) p (Nat.le_refl _)
  exact ⟨h.1, h.2.1⟩
theorem lt_ge (t : Int → Int) (L p : Nat) : p ≤ lt t L p ∧ (p ≤ L → lt t L p ≤ L) := by
  have h := rn_all (lo := 97) (hi := 122) (t := t) (L := L) (by omega) (L - p) p (Nat.le_refl _)
  exact ⟨h.1, h.2.1⟩
theorem nmAt_ge (t : Int → Int) (L p : Nat) : p ≤ nmAt t L p ∧ (p ≤ L → nmAt t L p ≤ L) := by
  unfold nmAt
  have h1 := sk_ge t L p
  have h2 := ndF_le t L 3 (sk t L p)
  split <;> omega
theorem natP_ge (t : Int → Int) (L : Nat) : ∀ c p, p ≤ natP t L c p ∧ (p ≤ L → natP t L c p ≤ L) := by
  intro c
  induction c with
  | zero => intro p; exact ⟨Nat.le_refl _, fun h => h⟩
  | succ c ih =>
    intro p
    have h1 := nmAt_ge t L p
    have h2 := ih (nmAt t L p)
    show p ≤ (if nmOk t L p then natP t L c (nmAt t L p) else nmAt t L p) ∧ (p ≤ L → (if nmOk t L p then natP t L c (nmAt t L p) else nmAt t L p) ≤ L)
    split <;> omega
theorem cmdAt_ge (t : Int → Int) (L p : Nat) : p ≤ cmdAt t L p ∧ (p ≤ L → cmdAt t L p ≤ L) ∧ (cmdK t L p ≠ 0 → p < cmdAt t L p) := by
  unfold cmdAt cmdK
  have h1 := lt_ge t L p
  have h2 : lt t L p ≤ cE t L p ∧ (lt t L p ≤ L → cE t L p ≤ L) := natP_ge t L (cN t L p) (lt t L p)
  have h3 := sk_ge t L (cE t L p)
  split
  · exact ⟨Nat.le_refl _, fun h => h, fun h => absurd rfl h⟩
  · split
    · exact ⟨by omega, fun h => by omega, fun h => absurd rfl h⟩
    · split
      · rename_i g
        have h4 : sk t L (cE t L p) < L := hr_lt (t := t) (by omega)
        exact ⟨by omega, fun h => by omega, fun _ => by omega⟩
      · exact ⟨by omega, fun h => by omega, fun h => absurd rfl h⟩
theorem dvF_rng {t : Int → Int} {L : Nat} : ∀ (f : Nat) (v : Int) (p : Nat), ((f = 3 ∧ v = 0) ∨ (f = 2 ∧ 0 ≤ v ∧ v ≤ 9) ∨ (f = 1 ∧ 0 ≤ v ∧ v ≤ 99) ∨ (f = 0 ∧ 0 ≤ v ∧ v ≤ 999)) → 0 ≤ dvF t L f v p ∧ dvF t L f v p ≤ 999 := by
  intro f
  induction f with
  | zero => intro v p h; show 0 ≤ v ∧ v ≤ 999; omega
  | succ f ih =>
    intro v p h
    show 0 ≤ (if 48 ≤ hr t L p ∧ hr t L p ≤ 57 then dvF t L f (10 * v + hr t L p - 48) (p + 1) else v) ∧ (if 48 ≤ hr t L p ∧ hr t L p ≤ 57 then dvF t L f (10 * v + hr t L p - 48) (p + 1) else v) ≤ 999
    split
    · exact ih _ _ (by omega)
    · omega
theorem nvF_rng (t : Int → Int) (L : Nat) : ∀ j p, 0 ≤ nvF t L j p ∧ nvF t L j p ≤ 999 := by
  intro j
  induction j with
  | zero => intro p; exact dvF_rng 3 0 _ (by omega)
  | succ j ih => intro p; exact ih _
theorem s_num_loop {h : zH} {I : Nat → Int → Int} (hR : zRM h) {t : Int → Int} {L : Nat} (hT : TX I t L) {p1 : Nat} : ∀ (f : Nat) (v : Int) (q : Nat), q + f = p1 + 3 → ((f = 3 ∧ v = 0) ∨ (f = 2 ∧ 0 ≤ v ∧ v ≤ 9) ∨ (f = 1 ∧ 0 ≤ v ∧ v ≤ 99) ∨ (f = 0 ∧ 0 ≤ v ∧ v ≤ 999)) → q ≤ L → ∀ o : zO, Ev M_X7_isNumber 72 [(0, zr (some 260)), (1, zi (p1 : Int)), (2, zi (dvF t L f v q))] [] (h.1, zup I 260 11 ((q + ndF t L f q : Nat) : Int), h.2.2) (0, 0) o → Ev M_X7_isNumber 22 [(0, zr (some 260)), (1, zi (p1 : Int)), (2, zi v)] [] (h.1, zup I 260 11 (q : Int), h.2.2) (0, 0) o := by
  intro f
  have hL := hT.2.1
  induction f with
  | zero =>
    intro v q hq hv hqL o hh
    refine Ev.aload_n (pc := 22) (n := (0, 0)) (i := 0) dX7_isNumber_22 rfl rfl ?_
    refine Ev.gI (pc := 23) (n := (0, 0)) (x := (q : Int)) dX7_isNumber_23 fl_X7_201 (zk_at hR.1 rfl) rfl (show zup I 260 11 (q : Int) 260 11 = (q : Int) from zup_s _ _ _ _) ?_
    refine Ev.iload_n (pc := 26) (n := (0, 0)) (i := 1) dX7_isNumber_26 rfl rfl ?_
    refine Ev.isub (pc := 27) (n := (0, 0)) dX7_isNumber_27 ⟨by omega, by omega⟩ ?_
    refine Ev.iconst (pc := 28) (n := (0, 0)) dX7_isNumber_28 ?_
    refine Ev.icmp_ge (pc := 29) (n := (0, 0)) (tgt := 72) dX7_isNumber_29 rfl (fun hc => ?_) (fun hc => absurd hc (by omega))
    exact hh
  | succ f ih =>
    intro v q hq hv hqL o hh
    by_cases h1 : 48 ≤ hr t L q ∧ hr t L q ≤ 57
    · have hpL : q < L := hr_lt (t := t) (by omega)
      have e1 : ndF t L (f + 1) q = ndF t L f (q + 1) + 1 := if_pos h1
      have e2 : dvF t L (f + 1) v q = dvF t L f (10 * v + hr t L q - 48) (q + 1) := if_pos h1
      rw [e1, e2, show q + (ndF t L f (q + 1) + 1) = q + 1 + ndF t L f (q + 1) by omega] at hh
      have k9 := ih (10 * v + hr t L q - 48) (q + 1) (by omega) (by omega) (by omega) o hh
      refine Ev.aload_n (pc := 22) (n := (0, 0)) (i := 0) dX7_isNumber_22 rfl rfl ?_
      refine Ev.gI (pc := 23) (n := (0, 0)) (x := (q : Int)) dX7_isNumber_23 fl_X7_201 (zk_at hR.1 rfl) rfl (show zup I 260 11 (q : Int) 260 11 = (q : Int) from zup_s _ _ _ _) ?_
      refine Ev.iload_n (pc := 26) (n := (0, 0)) (i := 1) dX7_isNumber_26 rfl rfl ?_
      refine Ev.isub (pc := 27) (n := (0, 0)) dX7_isNumber_27 ⟨by omega, by omega⟩ ?_
      refine Ev.iconst (pc := 28) (n := (0, 0)) dX7_isNumber_28 ?_
      refine Ev.icmp_ge (pc := 29) (n := (0, 0)) (tgt := 72) dX7_isNumber_29 rfl (fun hc => absurd hc (by omega)) (fun hc => ?_)
      refine Ev.aload_n (pc := 32) (n := (0, 0)) (i := 0) dX7_isNumber_32 rfl rfl ?_
      refine Ev.callV (pc := 33) (n := (0, 0)) (ob := 260) (as := []) (st := []) (s_here hR (hT.up (by decide) _) (zup_s _ _ _ _)) dX7_isNumber_33 ok_X7_here (lk_X7_204 rfl) ⟨(Nat.le_of_ble_eq_true rfl), (Nat.le_of_ble_eq_true rfl)⟩ (zk_at hR.1 rfl) ⟨by decide, rfl⟩ rfl (Nat.le_of_ble_eq_true rfl) (Nat.le_of_ble_eq_true rfl) ⟨(Nat.le_of_ble_eq_true rfl), (Nat.le_of_ble_eq_true rfl)⟩ ?_
      refine Ev.bipush (pc := 36) (n := (0, 0)) dX7_isNumber_36 ?_
      refine Ev.bipush (pc := 38) (n := (0, 0)) dX7_isNumber_38 ?_
      refine Ev.callS (pc := 40) (n := (0, 0)) (as := [zi (hr t L q), zi 48, zi 57]) (st := []) (s_in (h.1, zup I 260 11 (q : Int), h.2.2) (hr t L q) 48 57) dX7_isNumber_40 ok_X7_in (lk_X7_91 rfl) ⟨(Nat.le_of_ble_eq_true rfl), (Nat.le_of_ble_eq_true rfl)⟩ rfl (Nat.le_of_ble_eq_true rfl) (Nat.le_of_ble_eq_true rfl) ⟨(Nat.le_of_ble_eq_true rfl), (Nat.le_of_ble_eq_true rfl)⟩ ?_
      rw [if_pos h1]
      refine Ev.if_eq (pc := 43) (n := (0, 0)) (tgt := 72) dX7_isNumber_43 rfl (fun hc2 => absurd hc2 (by decide)) (fun hc2 => ?_)
      refine Ev.bipush (pc := 46) (n := (0, 0)) dX7_isNumber_46 ?_
      refine Ev.iload_n (pc := 48) (n := (0, 0)) (i := 2) dX7_isNumber_48 rfl rfl ?_
      refine Ev.imul (pc := 49) (n := (0, 0)) dX7_isNumber_49 ⟨by omega, by omega⟩ ?_
      refine Ev.aload_n (pc := 50) (n := (0, 0)) (i := 0) dX7_isNumber_50 rfl rfl ?_
      refine Ev.callV (pc := 51) (n := (0, 0)) (ob := 260) (as := []) (st := [zi (10 * v)]) (s_here hR (hT.up (by decide) _) (zup_s _ _ _ _)) dX7_isNumber_51 ok_X7_here (lk_X7_204 rfl) ⟨(Nat.le_of_ble_eq_true rfl), (Nat.le_of_ble_eq_true rfl)⟩ (zk_at hR.1 rfl) ⟨by decide, rfl⟩ rfl (Nat.le_of_ble_eq_true rfl) (Nat.le_of_ble_eq_true rfl) ⟨(Nat.le_of_ble_eq_true rfl), (Nat.le_of_ble_eq_true rfl)⟩ ?_
      refine Ev.iadd (pc := 54) (n := (0, 0)) dX7_isNumber_54 ⟨by omega, by omega⟩ ?_
      refine Ev.bipush (pc := 55) (n := (0, 0)) dX7_isNumber_55 ?_
      refine Ev.isub (pc := 57) (n := (0, 0)) dX7_isNumber_57 ⟨by omega, by omega⟩ ?_
      refine Ev.istore_n (pc := 58) (n := (0, 0)) (i := 2) (L' := [(2, zi (((10 * v) + (hr t L q)) - 48)), (0, zr (some 260)), (1, zi (p1 : Int))]) dX7_isNumber_58 rfl (Nat.le_of_ble_eq_true rfl) rfl ?_
      refine Ev.aload_n (pc := 59) (n := (0, 0)) (i := 0) dX7_isNumber_59 rfl rfl ?_
      refine Ev.dup (pc := 60) (n := (0, 0)) dX7_isNumber_60 rfl ?_
      refine Ev.gI (pc := 61) (n := (0, 0)) (x := (q : Int)) dX7_isNumber_61 fl_X7_201 (zk_at hR.1 rfl) rfl (show zup I 260 11 (q : Int) 260 11 = (q : Int) from zup_s _ _ _ _) ?_
      refine Ev.iconst (pc := 64) (n := (0, 0)) dX7_isNumber_64 ?_
      refine Ev.iadd (pc := 65) (n := (0, 0)) dX7_isNumber_65 ⟨by omega, by omega⟩ ?_
      refine Ev.putI (pc := 66) (n := (0, 0)) dX7_isNumber_66 fl_X7_201 (zk_at hR.1 rfl) rfl rfl (fun h9 => by cases h9) ?_
      refine Ev.hpeq (h' := (h.1, (zup I 260 11 ((q + 1 : Nat) : Int)), h.2.2)) (congrArg (fun I9 => (h.1, I9, h.2.2)) (by
        show zup (zup I 260 11 (q : Int)) 260 11 ((q : Int) + 1) = _
        rw [zup_zup, show (q : Int) + 1 = ((q + 1 : Nat) : Int) by omega])) ?_
      refine Ev.goto (pc := 69) (n := (0, 0)) (tgt := 22) dX7_isNumber_69 rfl ?_
      refine Ev.perm [1, 2, 0] rfl ?_
      exact k9
    · have e1 : ndF t L (f + 1) q = 0 := if_neg h1
      have e2 : dvF t L (f + 1) v q = v := if_neg h1
      rw [e1, e2, Nat.add_zero] at hh
      refine Ev.aload_n (pc := 22) (n := (0, 0)) (i := 0) dX7_isNumber_22 rfl rfl ?_
      refine Ev.gI (pc := 23) (n := (0, 0)) (x := (q : Int)) dX7_isNumber_23 fl_X7_201 (zk_at hR.1 rfl) rfl (show zup I 260 11 (q : Int) 260 11 = (q : Int) from zup_s _ _ _ _) ?_
      refine Ev.iload_n (pc := 26) (n := (0, 0)) (i := 1) dX7_isNumber_26 rfl rfl ?_
      refine Ev.isub (pc := 27) (n := (0, 0)) dX7_isNumber_27 ⟨by omega, by omega⟩ ?_
      refine Ev.iconst (pc := 28) (n := (0, 0)) dX7_isNumber_28 ?_
      refine Ev.icmp_ge (pc := 29) (n := (0, 0)) (tgt := 72) dX7_isNumber_29 rfl (fun hc => absurd hc (by omega)) (fun hc => ?_)
      refine Ev.aload_n (pc := 32) (n := (0, 0)) (i := 0) dX7_isNumber_32 rfl rfl ?_
      refine Ev.callV (pc := 33) (n := (0, 0)) (ob := 260) (as := []) (st := []) (s_here hR (hT.up (by decide) _) (zup_s _ _ _ _)) dX7_isNumber_33 ok_X7_here (lk_X7_204 rfl) ⟨(Nat.le_of_ble_eq_true rfl), (Nat.le_of_ble_eq_true rfl)⟩ (zk_at hR.1 rfl) ⟨by decide, rfl⟩ rfl (Nat.le_of_ble_eq_true rfl) (Nat.le_of_ble_eq_true rfl) ⟨(Nat.le_of_ble_eq_true rfl), (Nat.le_of_ble_eq_true rfl)⟩ ?_
      refine Ev.bipush (pc := 36) (n := (0, 0)) dX7_isNumber_36 ?_
      refine Ev.bipush (pc := 38) (n := (0, 0)) dX7_isNumber_38 ?_
      refine Ev.callS (pc := 40) (n := (0, 0)) (as := [zi (hr t L q), zi 48, zi 57]) (st := []) (s_in (h.1, zup I 260 11 (q : Int), h.2.2) (hr t L q) 48 57) dX7_isNumber_40 ok_X7_in (lk_X7_91 rfl) ⟨(Nat.le_of_ble_eq_true rfl), (Nat.le_of_ble_eq_true rfl)⟩ rfl (Nat.le_of_ble_eq_true rfl) (Nat.le_of_ble_eq_true rfl) ⟨(Nat.le_of_ble_eq_true rfl), (Nat.le_of_ble_eq_true rfl)⟩ ?_
      rw [if_neg h1]
      refine Ev.if_eq (pc := 43) (n := (0, 0)) (tgt := 72) dX7_isNumber_43 rfl (fun hc2 => ?_) (fun hc2 => absurd rfl hc2)
      exact hh
theorem s_isNumber_no {h : zH} {I : Nat → Int → Int} (hR : zRM h) {t : Int → Int} {L : Nat} (hT : TX I t L) {p : Nat} (hp : I 260 11 = p) (h1 : ¬ hr t L p = 32) : Ev M_X7_isNumber 0 [(0, zr (some 260))] [] (h.1, I, h.2.2) (0, 0) (.inl (some (zi 0)), (h.1, I, h.2.2)) := by
  refine Ev.aload_n (pc := 0) (n := (0, 0)) (i := 0) dX7_isNumber_0 rfl rfl ?_
  refine Ev.callV (pc := 1) (n := (0, 0)) (ob := 260) (as := []) (st := []) (s_here hR hT hp) dX7_isNumber_1 ok_X7_here (lk_X7_204 rfl) ⟨(Nat.le_of_ble_eq_true rfl), (Nat.le_of_ble_eq_true rfl)⟩ (zk_at hR.1 rfl) ⟨by decide, rfl⟩ rfl (Nat.le_of_ble_eq_true rfl) (Nat.le_of_ble_eq_true rfl) ⟨(Nat.le_of_ble_eq_true rfl), (Nat.le_of_ble_eq_true rfl)⟩ ?_
  refine Ev.bipush (pc := 4) (n := (0, 0)) dX7_isNumber_4 ?_
  refine Ev.icmp_eq (pc := 6) (n := (0, 0)) (tgt := 11) dX7_isNumber_6 rfl (fun hc => absurd hc h1) (fun hc => ?_)
  refine Ev.iconst (pc := 9) (n := (0, 0)) dX7_isNumber_9 ?_
  exact Ev.bret dX7_isNumber_10 rfl (by decide) ⟨(Nat.le_of_ble_eq_true rfl), (Nat.le_of_ble_eq_true rfl)⟩
theorem s_isNumber {h : zH} {I : Nat → Int → Int} (hR : zRM h) {t : Int → Int} {L : Nat} (hT : TX I t L) {p : Nat} (hp : I 260 11 = p) (hpL : p ≤ L) (h1 : hr t L p = 32) {i : Int} (hq : I 260 12 = i) (hi : 0 ≤ i ∧ i < 3) : Ev M_X7_isNumber 0 [(0, zr (some 260))] [] (h.1, I, h.2.2) (0, 0) (.inl (some (zi (if nmOk t L p then 1 else 0))), (h.1, (zup (zup (zup I 260 11 ((nmAt t L p : Nat) : Int)) 269 i (nmV t L p)) 260 12 (i + 1)), h.2.2)) := by
  have hL := hT.2.1
  have g1 := sk_ge t L p
  have g2 := ndF_le t L 3 (sk t L p)
  have e1 : nmAt t L p = sk t L p + ndF t L 3 (sk t L p) := if_pos h1
  have eV : dvF t L 3 0 (sk t L p) = nmV t L p := rfl
  refine Ev.aload_n (pc := 0) (n := (0, 0)) (i := 0) dX7_isNumber_0 rfl rfl ?_
  refine Ev.callV (pc := 1) (n := (0, 0)) (ob := 260) (as := []) (st := []) (s_here hR hT hp) dX7_isNumber_1 ok_X7_here (lk_X7_204 rfl) ⟨(Nat.le_of_ble_eq_true rfl), (Nat.le_of_ble_eq_true rfl)⟩ (zk_at hR.1 rfl) ⟨by decide, rfl⟩ rfl (Nat.le_of_ble_eq_true rfl) (Nat.le_of_ble_eq_true rfl) ⟨(Nat.le_of_ble_eq_true rfl), (Nat.le_of_ble_eq_true rfl)⟩ ?_
  refine Ev.bipush (pc := 4) (n := (0, 0)) dX7_isNumber_4 ?_
  refine Ev.icmp_eq (pc := 6) (n := (0, 0)) (tgt := 11) dX7_isNumber_6 rfl (fun hc => ?_) (fun hc => absurd h1 hc)
  refine Ev.aload_n (pc := 11) (n := (0, 0)) (i := 0) dX7_isNumber_11 rfl rfl ?_
  refine Ev.callV (pc := 12) (n := (0, 0)) (ob := 260) (as := []) (st := []) (s_passSpaces hR hT hp) dX7_isNumber_12 ok_X7_passSpaces (lk_X7_229 rfl) ⟨(Nat.le_of_ble_eq_true rfl), (Nat.le_of_ble_eq_true rfl)⟩ (zk_at hR.1 rfl) ⟨by decide, rfl⟩ rfl (Nat.le_of_ble_eq_true rfl) (Nat.le_of_ble_eq_true rfl) ⟨(Nat.le_of_ble_eq_true rfl), (Nat.le_of_ble_eq_true rfl)⟩ ?_
  refine Ev.aload_n (pc := 15) (n := (0, 0)) (i := 0) dX7_isNumber_15 rfl rfl ?_
  refine Ev.gI (pc := 16) (n := (0, 0)) (x := (sk t L p : Int)) dX7_isNumber_16 fl_X7_201 (zk_at hR.1 rfl) rfl (show zup I 260 11 (sk t L p : Int) 260 11 = (sk t L p : Int) from zup_s _ _ _ _) ?_
  refine Ev.istore_n (pc := 19) (n := (0, 0)) (i := 1) (L' := [(1, zi (sk t L p : Int)), (0, zr (some 260))]) dX7_isNumber_19 rfl (Nat.le_of_ble_eq_true rfl) rfl ?_
  refine Ev.iconst (pc := 20) (n := (0, 0)) dX7_isNumber_20 ?_
  refine Ev.istore_n (pc := 21) (n := (0, 0)) (i := 2) (L' := [(2, zi 0), (1, zi (sk t L p : Int)), (0, zr (some 260))]) dX7_isNumber_21 rfl (Nat.le_of_ble_eq_true rfl) rfl ?_
  refine Ev.perm [2, 1, 0] rfl ?_
  have r9 := fun o => s_num_loop hR hT (p1 := sk t L p) 3 0 (sk t L p) rfl (by omega) (by omega) o
  rw [← e1, eV] at r9
  refine r9 _ ?_
  refine Ev.aload_n (pc := 72) (n := (0, 0)) (i := 0) dX7_isNumber_72 rfl rfl ?_
  refine Ev.gR (pc := 73) (n := (0, 0)) (r := (some 269)) dX7_isNumber_73 fl_X7_35 (zk_at hR.1 rfl) rfl hR.2.2.2.2.2.2.2.2.2.1 ?_
  refine Ev.aload_n (pc := 76) (n := (0, 0)) (i := 0) dX7_isNumber_76 rfl rfl ?_
  refine Ev.gI (pc := 77) (n := (0, 0)) (x := i) dX7_isNumber_77 fl_X7_232 (zk_at hR.1 rfl) rfl (show zup I 260 11 ((nmAt t L p : Nat) : Int) 260 12 = i from (zup_k _ _ _ _ (by decide)).trans hq) ?_
  refine Ev.iload_n (pc := 80) (n := (0, 0)) (i := 2) dX7_isNumber_80 rfl rfl ?_
  refine Ev.iast (pc := 81) (n := (0, 0)) dX7_isNumber_81 (zk_at hR.1 rfl) (by omega) (by omega) ?_
  have hq2 : (zup (zup I 260 11 ((nmAt t L p : Nat) : Int)) 269 i (nmV t L p)) 260 12 = i := (zup_o _ _ _ _ (by decide)).trans ((zup_k I 260 260 _ (by decide)).trans hq)
  have ha2 : (zup (zup I 260 11 ((nmAt t L p : Nat) : Int)) 269 i (nmV t L p)) 260 11 = ((nmAt t L p : Nat) : Int) := (zup_o _ _ _ _ (by decide)).trans (zup_s _ _ _ _)
  have ha3 : (zup (zup (zup I 260 11 ((nmAt t L p : Nat) : Int)) 269 i (nmV t L p)) 260 12 (i + 1)) 260 11 = ((nmAt t L p : Nat) : Int) := (zup_k _ _ _ _ (by decide)).trans ha2
  have hT3 : TX (zup (zup (zup I 260 11 ((nmAt t L p : Nat) : Int)) 269 i (nmV t L p)) 260 12 (i + 1)) t L := ((hT.up (by decide) _).up9 _ _).up (by decide) _
  refine Ev.aload_n (pc := 82) (n := (0, 0)) (i := 0) dX7_isNumber_82 rfl rfl ?_
  refine Ev.dup (pc := 83) (n := (0, 0)) dX7_isNumber_83 rfl ?_
  refine Ev.gI (pc := 84) (n := (0, 0)) (x := i) dX7_isNumber_84 fl_X7_232 (zk_at hR.1 rfl) rfl hq2 ?_
  refine Ev.iconst (pc := 87) (n := (0, 0)) dX7_isNumber_87 ?_
  refine Ev.iadd (pc := 88) (n := (0, 0)) dX7_isNumber_88 ⟨by omega, by omega⟩ ?_
  refine Ev.putI (pc := 89) (n := (0, 0)) dX7_isNumber_89 fl_X7_232 (zk_at hR.1 rfl) rfl rfl (fun h9 => by cases h9) ?_
  refine Ev.aload_n (pc := 92) (n := (0, 0)) (i := 0) dX7_isNumber_92 rfl rfl ?_
  refine Ev.gI (pc := 93) (n := (0, 0)) (x := ((nmAt t L p : Nat) : Int)) dX7_isNumber_93 fl_X7_201 (zk_at hR.1 rfl) rfl ha3 ?_
  refine Ev.iload_n (pc := 96) (n := (0, 0)) (i := 1) dX7_isNumber_96 rfl rfl ?_
  refine Ev.icmp_le (pc := 97) (n := (0, 0)) (tgt := 118) dX7_isNumber_97 rfl (fun h2 => ?_) (fun h2 => ?_)
  · skip
    rw [if_neg (fun g9 : nmOk t L p => absurd g9.2.1 (by omega))]
    refine Ev.iconst (pc := 118) (n := (0, 0)) dX7_isNumber_118 ?_
    exact Ev.bret dX7_isNumber_119 rfl (by decide) ⟨(Nat.le_of_ble_eq_true rfl), (Nat.le_of_ble_eq_true rfl)⟩
  · skip
    refine Ev.aload_n (pc := 100) (n := (0, 0)) (i := 0) dX7_isNumber_100 rfl rfl ?_
    refine Ev.callV (pc := 101) (n := (0, 0)) (ob := 260) (as := []) (st := []) (s_here hR hT3 ha3) dX7_isNumber_101 ok_X7_here (lk_X7_204 rfl) ⟨(Nat.le_of_ble_eq_true rfl), (Nat.le_of_ble_eq_true rfl)⟩ (zk_at hR.1 rfl) ⟨by decide, rfl⟩ rfl (Nat.le_of_ble_eq_true rfl) (Nat.le_of_ble_eq_true rfl) ⟨(Nat.le_of_ble_eq_true rfl), (Nat.le_of_ble_eq_true rfl)⟩ ?_
    refine Ev.bipush (pc := 104) (n := (0, 0)) dX7_isNumber_104 ?_
    refine Ev.bipush (pc := 106) (n := (0, 0)) dX7_isNumber_106 ?_
    refine Ev.callS (pc := 108) (n := (0, 0)) (as := [zi (hr t L (nmAt t L p)), zi 48, zi 57]) (st := []) (s_in (h.1, (zup (zup (zup I 260 11 ((nmAt t L p : Nat) : Int)) 269 i (nmV t L p)) 260 12 (i + 1)), h.2.2) (hr t L (nmAt t L p)) 48 57) dX7_isNumber_108 ok_X7_in (lk_X7_91 rfl) ⟨(Nat.le_of_ble_eq_true rfl), (Nat.le_of_ble_eq_true rfl)⟩ rfl (Nat.le_of_ble_eq_true rfl) (Nat.le_of_ble_eq_true rfl) ⟨(Nat.le_of_ble_eq_true rfl), (Nat.le_of_ble_eq_true rfl)⟩ ?_
    by_cases h4 : 48 ≤ hr t L (nmAt t L p) ∧ hr t L (nmAt t L p) ≤ 57
    · skip
      rw [if_pos h4]
      rw [e1] at h4
      rw [if_neg (fun g9 : nmOk t L p => g9.2.2 h4)]
      refine Ev.if_ne (pc := 111) (n := (0, 0)) (tgt := 118) dX7_isNumber_111 rfl (fun hc3 => ?_) (fun hc3 => absurd hc3 (by decide))
      refine Ev.iconst (pc := 118) (n := (0, 0)) dX7_isNumber_118 ?_
      exact Ev.bret dX7_isNumber_119 rfl (by decide) ⟨(Nat.le_of_ble_eq_true rfl), (Nat.le_of_ble_eq_true rfl)⟩
    · skip
      rw [if_neg h4]
      rw [e1] at h4
      rw [if_pos (show nmOk t L p from ⟨h1, by omega, h4⟩)]
      refine Ev.if_ne (pc := 111) (n := (0, 0)) (tgt := 118) dX7_isNumber_111 rfl (fun hc3 => absurd rfl hc3) (fun hc3 => ?_)
      refine Ev.iconst (pc := 114) (n := (0, 0)) dX7_isNumber_114 ?_
      refine Ev.goto (pc := 115) (n := (0, 0)) (tgt := 119) dX7_isNumber_115 rfl ?_
      exact Ev.bret dX7_isNumber_119 rfl (by decide) ⟨(Nat.le_of_ble_eq_true rfl), (Nat.le_of_ble_eq_true rfl)⟩
theorem s_cmd_loop {h : zH} (hR : zRM h) {t : Int → Int} {L : Nat} {k : Int} (hk : 0 < k) : ∀ (c i q : Nat) (I : Nat → Int → Int), TX I t L → I 260 11 = q → I 260 12 = i → q ≤ L → (i + c : Nat) = nOf k → ∃ I2 : Nat → Int → Int, zPk I I2 ∧ I2 260 11 = natP t L c q ∧ (nokF t L c q ≠ 0 → (∀ j : Nat, j < c → I2 269 ((i + j : Nat) : Int) = nvF t L j q) ∧ ∀ j : Nat, j < i → I2 269 j = I 269 j) ∧ (nokF t L c q = 0 → Ev M_X7_command 12 [(0, zr (some 260)), (1, zi k), (2, zi (i : Int))] [] (h.1, I, h.2.2) (0, 0) (.inl (some (zi 0)), (h.1, I2, h.2.2))) ∧ (nokF t L c q ≠ 0 → ∀ o : zO, Ev M_X7_command 39 [(0, zr (some 260)), (1, zi k)] [] (h.1, I2, h.2.2) (0, 0) o → Ev M_X7_command 12 [(0, zr (some 260)), (1, zi k), (2, zi (i : Int))] [] (h.1, I, h.2.2) (0, 0) o) := by
  have hnk := nOf_rng k
  intro c
  induction c with
  | zero =>
    intro i q I hT hp hn hq hi
    refine ⟨I, zPk.rfl' I, hp, fun _ => ⟨fun j hj => absurd hj (Nat.not_lt_zero _), fun _ _ => rfl⟩, fun e => absurd e (show ¬ (1 : Int) = 0 by decide), fun _ o hh => ?_⟩
    refine Ev.iload_n (pc := 12) (n := (0, 0)) (i := 2) dX7_command_12 rfl rfl ?_
    refine Ev.iload_n (pc := 13) (n := (0, 0)) (i := 1) dX7_command_13 rfl rfl ?_
    refine Ev.callS (pc := 14) (n := (0, 0)) (as := [zi k]) (st := [zi (i : Int)]) (s_numbersOf (h.1, I, h.2.2) k) dX7_command_14 ok_X7_numbersOf (lk_X7_238 rfl) ⟨(Nat.le_of_ble_eq_true rfl), (Nat.le_of_ble_eq_true rfl)⟩ rfl (Nat.le_of_ble_eq_true rfl) (Nat.le_of_ble_eq_true rfl) ⟨(Nat.le_of_ble_eq_true rfl), (Nat.le_of_ble_eq_true rfl)⟩ ?_
    refine Ev.icmp_ge (pc := 17) (n := (0, 0)) (tgt := 39) dX7_command_17 rfl (fun hc => ?_) (fun hc => absurd hc (by omega))
    refine Ev.perm [0, 1] rfl ?_
    exact hh
  | succ c ih =>
    intro i q I hT hp hn hq hi
    have eo : nokF t L (c + 1) q = if nmOk t L q then nokF t L c (nmAt t L q) else 0 := rfl
    have ep : natP t L (c + 1) q = if nmOk t L q then natP t L c (nmAt t L q) else nmAt t L q := rfl
    by_cases h1 : hr t L q = 32
    · have rr := s_isNumber hR hT hp hq h1 hn (by omega)
      have hP3 : zPk I (zup (zup (zup I 260 11 ((nmAt t L q : Nat) : Int)) 269 (i : Int) (nmV t L q)) 260 12 ((i : Int) + 1)) := ((zPk.at' I _).trans (zPk.gv _ _ _)).trans (zPk.nu _ _)
      have hp3 : (zup (zup (zup I 260 11 ((nmAt t L q : Nat) : Int)) 269 (i : Int) (nmV t L q)) 260 12 ((i : Int) + 1)) 260 11 = nmAt t L q := (zup_k _ _ _ _ (by decide)).trans ((zup_o _ _ _ _ (by decide)).trans (zup_s _ _ _ _))
      have hn3 : (zup (zup (zup I 260 11 ((nmAt t L q : Nat) : Int)) 269 (i : Int) (nmV t L q)) 260 12 ((i : Int) + 1)) 260 12 = ((i + 1 : Nat) : Int) := (zup_s _ _ _ _).trans (by omega)
      have hg3 : ∀ j : Int, (zup (zup (zup I 260 11 ((nmAt t L q : Nat) : Int)) 269 (i : Int) (nmV t L q)) 260 12 ((i : Int) + 1)) 269 j = if j = i then nmV t L q else I 269 j := fun j => by
        rw [zup_o _ _ _ _ (by decide), zup_row]
        show (if j = (i : Int) then nmV t L q else zup I 260 11 (nmAt t L q : Int) 269 j) = if j = (i : Int) then nmV t L q else I 269 j
        by_cases e : j = i
        · rw [if_pos e, if_pos e]
        · rw [if_neg e, if_neg e, zup_o _ _ _ _ (by decide)]
      by_cases h2 : nmOk t L q
      · rw [if_pos h2] at eo ep
        obtain ⟨I2, a1, a2, a3, a4, a5⟩ := ih (i + 1) (nmAt t L q) (zup (zup (zup I 260 11 ((nmAt t L q : Nat) : Int)) 269 (i : Int) (nmV t L q)) 260 12 ((i : Int) + 1)) (hP3.tx hT) hp3 hn3 ((nmAt_ge t L q).2 hq) (by omega)
        rw [eo, ep]
        refine ⟨I2, hP3.trans a1, a2, fun ho => ⟨fun j hj => ?_, fun j hj => ?_⟩, fun ho => ?_, fun ho o hh => ?_⟩
        · cases j with
          | zero =>
            have b1 := (a3 ho).2 i (by omega)
            rw [hg3, if_pos rfl] at b1
            exact b1
          | succ j =>
            have b1 := (a3 ho).1 j (by omega)
            rw [show i + 1 + j = i + (j + 1) by omega] at b1
            exact b1
        · have b1 := (a3 ho).2 j (by omega)
          rw [hg3, if_neg (by omega)] at b1
          exact b1
        · skip
          refine Ev.iload_n (pc := 12) (n := (0, 0)) (i := 2) dX7_command_12 rfl rfl ?_
          refine Ev.iload_n (pc := 13) (n := (0, 0)) (i := 1) dX7_command_13 rfl rfl ?_
          refine Ev.callS (pc := 14) (n := (0, 0)) (as := [zi k]) (st := [zi (i : Int)]) (s_numbersOf (h.1, I, h.2.2) k) dX7_command_14 ok_X7_numbersOf (lk_X7_238 rfl) ⟨(Nat.le_of_ble_eq_true rfl), (Nat.le_of_ble_eq_true rfl)⟩ rfl (Nat.le_of_ble_eq_true rfl) (Nat.le_of_ble_eq_true rfl) ⟨(Nat.le_of_ble_eq_true rfl), (Nat.le_of_ble_eq_true rfl)⟩ ?_
          refine Ev.icmp_ge (pc := 17) (n := (0, 0)) (tgt := 39) dX7_command_17 rfl (fun hc => absurd hc (by omega)) (fun hc => ?_)
          refine Ev.iload_n (pc := 20) (n := (0, 0)) (i := 1) dX7_command_20 rfl rfl ?_
          refine Ev.if_le (pc := 21) (n := (0, 0)) (tgt := 39) dX7_command_21 rfl (fun hc2 => absurd hc2 (by omega)) (fun hc2 => ?_)
          refine Ev.aload_n (pc := 24) (n := (0, 0)) (i := 0) dX7_command_24 rfl rfl ?_
          refine Ev.callV (pc := 25) (n := (0, 0)) (ob := 260) (as := []) (st := []) (rr) dX7_command_25 ok_X7_isNumber (lk_X7_241 rfl) ⟨(Nat.le_of_ble_eq_true rfl), (Nat.le_of_ble_eq_true rfl)⟩ (zk_at hR.1 rfl) ⟨by decide, rfl⟩ rfl (Nat.le_of_ble_eq_true rfl) (Nat.le_of_ble_eq_true rfl) ⟨(Nat.le_of_ble_eq_true rfl), (Nat.le_of_ble_eq_true rfl)⟩ ?_
          rw [if_pos h2]
          refine Ev.if_ne (pc := 28) (n := (0, 0)) (tgt := 33) dX7_command_28 rfl (fun hc3 => ?_) (fun hc3 => absurd hc3 (by decide))
          refine Ev.iinc (pc := 33) (n := (0, 0)) (L' := [(2, zi ((i : Int) + 1)), (0, zr (some 260)), (1, zi k)]) dX7_command_33 rfl (Nat.le_of_ble_eq_true rfl) ⟨by omega, by omega⟩ rfl ?_
          rw [show (i : Int) + 1 = ((i + 1 : Nat) : Int) by omega]
          refine Ev.goto (pc := 36) (n := (0, 0)) (tgt := 12) dX7_command_36 rfl ?_
          refine Ev.perm [1, 2, 0] rfl ?_
          exact a4 ho
        · skip
          refine Ev.iload_n (pc := 12) (n := (0, 0)) (i := 2) dX7_command_12 rfl rfl ?_
          refine Ev.iload_n (pc := 13) (n := (0, 0)) (i := 1) dX7_command_13 rfl rfl ?_
          refine Ev.callS (pc := 14) (n := (0, 0)) (as := [zi k]) (st := [zi (i : Int)]) (s_numbersOf (h.1, I, h.2.2) k) dX7_command_14 ok_X7_numbersOf (lk_X7_238 rfl) ⟨(Nat.le_of_ble_eq_true rfl), (Nat.le_of_ble_eq_true rfl)⟩ rfl (Nat.le_of_ble_eq_true rfl) (Nat.le_of_ble_eq_true rfl) ⟨(Nat.le_of_ble_eq_true rfl), (Nat.le_of_ble_eq_true rfl)⟩ ?_
          refine Ev.icmp_ge (pc := 17) (n := (0, 0)) (tgt := 39) dX7_command_17 rfl (fun hc => absurd hc (by omega)) (fun hc => ?_)
          refine Ev.iload_n (pc := 20) (n := (0, 0)) (i := 1) dX7_command_20 rfl rfl ?_
          refine Ev.if_le (pc := 21) (n := (0, 0)) (tgt := 39) dX7_command_21 rfl (fun hc2 => absurd hc2 (by omega)) (fun hc2 => ?_)
          refine Ev.aload_n (pc := 24) (n := (0, 0)) (i := 0) dX7_command_24 rfl rfl ?_
          refine Ev.callV (pc := 25) (n := (0, 0)) (ob := 260) (as := []) (st := []) (rr) dX7_command_25 ok_X7_isNumber (lk_X7_241 rfl) ⟨(Nat.le_of_ble_eq_true rfl), (Nat.le_of_ble_eq_true rfl)⟩ (zk_at hR.1 rfl) ⟨by decide, rfl⟩ rfl (Nat.le_of_ble_eq_true rfl) (Nat.le_of_ble_eq_true rfl) ⟨(Nat.le_of_ble_eq_true rfl), (Nat.le_of_ble_eq_true rfl)⟩ ?_
          rw [if_pos h2]
          refine Ev.if_ne (pc := 28) (n := (0, 0)) (tgt := 33) dX7_command_28 rfl (fun hc3 => ?_) (fun hc3 => absurd hc3 (by decide))
          refine Ev.iinc (pc := 33) (n := (0, 0)) (L' := [(2, zi ((i : Int) + 1)), (0, zr (some 260)), (1, zi k)]) dX7_command_33 rfl (Nat.le_of_ble_eq_true rfl) ⟨by omega, by omega⟩ rfl ?_
          rw [show (i : Int) + 1 = ((i + 1 : Nat) : Int) by omega]
          refine Ev.goto (pc := 36) (n := (0, 0)) (tgt := 12) dX7_command_36 rfl ?_
          refine Ev.perm [1, 2, 0] rfl ?_
          exact a5 ho o hh
      · rw [if_neg h2] at eo ep
        rw [eo, ep]
        refine ⟨(zup (zup (zup I 260 11 ((nmAt t L q : Nat) : Int)) 269 (i : Int) (nmV t L q)) 260 12 ((i : Int) + 1)), hP3, hp3, fun ho => absurd rfl ho, fun _ => ?_, fun ho => absurd rfl ho⟩
        refine Ev.iload_n (pc := 12) (n := (0, 0)) (i := 2) dX7_command_12 rfl rfl ?_
        refine Ev.iload_n (pc := 13) (n := (0, 0)) (i := 1) dX7_command_13 rfl rfl ?_
        refine Ev.callS (pc := 14) (n := (0, 0)) (as := [zi k]) (st := [zi (i : Int)]) (s_numbersOf (h.1, I, h.2.2) k) dX7_command_14 ok_X7_numbersOf (lk_X7_238 rfl) ⟨(Nat.le_of_ble_eq_true rfl), (Nat.le_of_ble_eq_true rfl)⟩ rfl (Nat.le_of_ble_eq_true rfl) (Nat.le_of_ble_eq_true rfl) ⟨(Nat.le_of_ble_eq_true rfl), (Nat.le_of_ble_eq_true rfl)⟩ ?_
        refine Ev.icmp_ge (pc := 17) (n := (0, 0)) (tgt := 39) dX7_command_17 rfl (fun hc => absurd hc (by omega)) (fun hc => ?_)
        refine Ev.iload_n (pc := 20) (n := (0, 0)) (i := 1) dX7_command_20 rfl rfl ?_
        refine Ev.if_le (pc := 21) (n := (0, 0)) (tgt := 39) dX7_command_21 rfl (fun hc2 => absurd hc2 (by omega)) (fun hc2 => ?_)
        refine Ev.aload_n (pc := 24) (n := (0, 0)) (i := 0) dX7_command_24 rfl rfl ?_
        refine Ev.callV (pc := 25) (n := (0, 0)) (ob := 260) (as := []) (st := []) (rr) dX7_command_25 ok_X7_isNumber (lk_X7_241 rfl) ⟨(Nat.le_of_ble_eq_true rfl), (Nat.le_of_ble_eq_true rfl)⟩ (zk_at hR.1 rfl) ⟨by decide, rfl⟩ rfl (Nat.le_of_ble_eq_true rfl) (Nat.le_of_ble_eq_true rfl) ⟨(Nat.le_of_ble_eq_true rfl), (Nat.le_of_ble_eq_true rfl)⟩ ?_
        rw [if_neg h2]
        refine Ev.if_ne (pc := 28) (n := (0, 0)) (tgt := 33) dX7_command_28 rfl (fun hc3 => absurd rfl hc3) (fun hc3 => ?_)
        refine Ev.iconst (pc := 31) (n := (0, 0)) dX7_command_31 ?_
        exact Ev.iret dX7_command_32 rfl ⟨(Nat.le_of_ble_eq_true rfl), (Nat.le_of_ble_eq_true rfl)⟩
    · have h2 : ¬ nmOk t L q := fun g => h1 g.1
      rw [if_neg h2] at eo ep
      have e5 : nmAt t L q = q := if_neg h1
      rw [eo, ep, e5]
      refine ⟨I, zPk.rfl' I, hp, fun ho => absurd rfl ho, fun _ => ?_, fun ho => absurd rfl ho⟩
      refine Ev.iload_n (pc := 12) (n := (0, 0)) (i := 2) dX7_command_12 rfl rfl ?_
      refine Ev.iload_n (pc := 13) (n := (0, 0)) (i := 1) dX7_command_13 rfl rfl ?_
      refine Ev.callS (pc := 14) (n := (0, 0)) (as := [zi k]) (st := [zi (i : Int)]) (s_numbersOf (h.1, I, h.2.2) k) dX7_command_14 ok_X7_numbersOf (lk_X7_238 rfl) ⟨(Nat.le_of_ble_eq_true rfl), (Nat.le_of_ble_eq_true rfl)⟩ rfl (Nat.le_of_ble_eq_true rfl) (Nat.le_of_ble_eq_true rfl) ⟨(Nat.le_of_ble_eq_true rfl), (Nat.le_of_ble_eq_true rfl)⟩ ?_
      refine Ev.icmp_ge (pc := 17) (n := (0, 0)) (tgt := 39) dX7_command_17 rfl (fun hc => absurd hc (by omega)) (fun hc => ?_)
      refine Ev.iload_n (pc := 20) (n := (0, 0)) (i := 1) dX7_command_20 rfl rfl ?_
      refine Ev.if_le (pc := 21) (n := (0, 0)) (tgt := 39) dX7_command_21 rfl (fun hc2 => absurd hc2 (by omega)) (fun hc2 => ?_)
      refine Ev.aload_n (pc := 24) (n := (0, 0)) (i := 0) dX7_command_24 rfl rfl ?_
      refine Ev.callV (pc := 25) (n := (0, 0)) (ob := 260) (as := []) (st := []) (s_isNumber_no hR hT hp h1) dX7_command_25 ok_X7_isNumber (lk_X7_241 rfl) ⟨(Nat.le_of_ble_eq_true rfl), (Nat.le_of_ble_eq_true rfl)⟩ (zk_at hR.1 rfl) ⟨by decide, rfl⟩ rfl (Nat.le_of_ble_eq_true rfl) (Nat.le_of_ble_eq_true rfl) ⟨(Nat.le_of_ble_eq_true rfl), (Nat.le_of_ble_eq_true rfl)⟩ ?_
      refine Ev.if_ne (pc := 28) (n := (0, 0)) (tgt := 33) dX7_command_28 rfl (fun hc3 => absurd rfl hc3) (fun hc3 => ?_)
      refine Ev.iconst (pc := 31) (n := (0, 0)) dX7_command_31 ?_
      exact Ev.iret dX7_command_32 rfl ⟨(Nat.le_of_ble_eq_true rfl), (Nat.le_of_ble_eq_true rfl)⟩
theorem s_command {h : zH} {I : Nat → Int → Int} (hR : zRM h) {t : Int → Int} {L : Nat} (hT : TX I t L) (hb : BY t L) {p : Nat} (hp : I 260 11 = p) (hpL : p ≤ L) : ∃ I2 : Nat → Int → Int, zPk I I2 ∧ I2 260 11 = cmdAt t L p ∧ (cmdK t L p ≠ 0 → ∀ j : Nat, j < (nOf (cmdK t L p)).toNat → I2 269 j = nvF t L j (lt t L p)) ∧ Ev M_X7_command 0 [(0, zr (some 260))] [] (h.1, I, h.2.2) (0, 0) (.inl (some (zi (cmdK t L p))), (h.1, I2, h.2.2)) := by
  have hL := hT.2.1
  have hkr := kindW_rng (wvF t L p (lt t L p - p))
  have hkr2 : 0 ≤ kd t L p ∧ kd t L p ≤ 8 := hkr
  have hPW : zPk I (zup (zup I 260 11 ((if kd t L p = 0 then p else lt t L p : Nat) : Int)) 260 12 0) := (zPk.at' I _).trans (zPk.nu _ _)
  by_cases hk : kd t L p = 0
  · skip
    have e1 : cmdK t L p = kd t L p := (if_pos hk).trans hk.symm
    have e2 : cmdAt t L p = p := if_pos hk
    have en := nOf_rng (kd t L p)
    rw [e1, e2]
    refine ⟨(zup (zup I 260 11 ((if kd t L p = 0 then p else lt t L p : Nat) : Int)) 260 12 0), hPW, (zup_k _ _ _ _ (by decide)).trans ((zup_s _ _ _ _).trans (by rw [if_pos hk])), fun g9 => absurd hk g9, ?_⟩
    refine Ev.aload_n (pc := 0) (n := (0, 0)) (i := 0) dX7_command_0 rfl rfl ?_
    refine Ev.callV (pc := 1) (n := (0, 0)) (ob := 260) (as := []) (st := []) (s_word hR hT hb hp) dX7_command_1 ok_X7_word (lk_X7_235 rfl) ⟨(Nat.le_of_ble_eq_true rfl), (Nat.le_of_ble_eq_true rfl)⟩ (zk_at hR.1 rfl) ⟨by decide, rfl⟩ rfl (Nat.le_of_ble_eq_true rfl) (Nat.le_of_ble_eq_true rfl) ⟨(Nat.le_of_ble_eq_true rfl), (Nat.le_of_ble_eq_true rfl)⟩ ?_
    refine Ev.istore_n (pc := 4) (n := (0, 0)) (i := 1) (L' := [(1, zi (kd t L p)), (0, zr (some 260))]) dX7_command_4 rfl (Nat.le_of_ble_eq_true rfl) rfl ?_
    refine Ev.aload_n (pc := 5) (n := (0, 0)) (i := 0) dX7_command_5 rfl rfl ?_
    refine Ev.iconst (pc := 6) (n := (0, 0)) dX7_command_6 ?_
    refine Ev.putI (pc := 7) (n := (0, 0)) dX7_command_7 fl_X7_232 (zk_at hR.1 rfl) rfl rfl (fun h9 => by cases h9) ?_
    refine Ev.iconst (pc := 10) (n := (0, 0)) dX7_command_10 ?_
    refine Ev.istore_n (pc := 11) (n := (0, 0)) (i := 2) (L' := [(2, zi 0), (1, zi (kd t L p)), (0, zr (some 260))]) dX7_command_11 rfl (Nat.le_of_ble_eq_true rfl) rfl ?_
    refine Ev.perm [2, 1, 0] rfl ?_
    refine Ev.iload_n (pc := 12) (n := (0, 0)) (i := 2) dX7_command_12 rfl rfl ?_
    refine Ev.iload_n (pc := 13) (n := (0, 0)) (i := 1) dX7_command_13 rfl rfl ?_
    refine Ev.callS (pc := 14) (n := (0, 0)) (as := [zi (kd t L p)]) (st := [zi 0]) (s_numbersOf (h.1, (zup (zup I 260 11 ((if kd t L p = 0 then p else lt t L p : Nat) : Int)) 260 12 0), h.2.2) (kd t L p)) dX7_command_14 ok_X7_numbersOf (lk_X7_238 rfl) ⟨(Nat.le_of_ble_eq_true rfl), (Nat.le_of_ble_eq_true rfl)⟩ rfl (Nat.le_of_ble_eq_true rfl) (Nat.le_of_ble_eq_true rfl) ⟨(Nat.le_of_ble_eq_true rfl), (Nat.le_of_ble_eq_true rfl)⟩ ?_
    refine Ev.icmp_ge (pc := 17) (n := (0, 0)) (tgt := 39) dX7_command_17 rfl (fun hc => absurd hc (by omega)) (fun hc => ?_)
    refine Ev.iload_n (pc := 20) (n := (0, 0)) (i := 1) dX7_command_20 rfl rfl ?_
    refine Ev.if_le (pc := 21) (n := (0, 0)) (tgt := 39) dX7_command_21 rfl (fun hc2 => ?_) (fun hc2 => absurd hc2 (by omega))
    refine Ev.iload_n (pc := 39) (n := (0, 0)) (i := 1) dX7_command_39 rfl rfl ?_
    refine Ev.if_le (pc := 40) (n := (0, 0)) (tgt := 68) dX7_command_40 rfl (fun hc3 => ?_) (fun hc3 => absurd hc3 (by omega))
    refine Ev.iload_n (pc := 68) (n := (0, 0)) (i := 1) dX7_command_68 rfl rfl ?_
    exact Ev.iret dX7_command_69 rfl ⟨(Nat.le_of_ble_eq_true rfl), (Nat.le_of_ble_eq_true rfl)⟩
  · skip
    have ew : ((if kd t L p = 0 then p else lt t L p : Nat) : Int) = (lt t L p : Int) := by rw [if_neg hk]
    have hcN : (((cN t L p : Nat)) : Int) = nOf (kd t L p) := by
      have := nOf_rng (kd t L p)
      unfold cN
      omega
    have hltL := (lt_ge t L p).2 hpL
    obtain ⟨I3, a1, a2, a3, a4, a5⟩ := s_cmd_loop hR (t := t) (L := L) (k := kd t L p) (by omega) (cN t L p) 0 (lt t L p) (zup (zup I 260 11 ((if kd t L p = 0 then p else lt t L p : Nat) : Int)) 260 12 0) (hPW.tx hT) ((zup_k _ _ _ _ (by decide)).trans ((zup_s _ _ _ _).trans ew)) (zup_s _ _ _ _) hltL (by omega)
    have eE : natP t L (cN t L p) (lt t L p) = cE t L p := rfl
    rw [eE] at a2
    have hEL : cE t L p ≤ L := (natP_ge t L (cN t L p) (lt t L p)).2 hltL
    have hT3 : TX I3 t L := (hPW.trans a1).tx hT
    by_cases ho : nokF t L (cN t L p) (lt t L p) = 0
    · skip
      have e1 : cmdK t L p = 0 := (if_neg hk).trans (if_pos ho)
      have e2 : cmdAt t L p = cE t L p := (if_neg hk).trans (if_pos ho)
      rw [e1, e2]
      refine ⟨I3, hPW.trans a1, a2, fun g9 => absurd rfl g9, ?_⟩
      refine Ev.aload_n (pc := 0) (n := (0, 0)) (i := 0) dX7_command_0 rfl rfl ?_
      refine Ev.callV (pc := 1) (n := (0, 0)) (ob := 260) (as := []) (st := []) (s_word hR hT hb hp) dX7_command_1 ok_X7_word (lk_X7_235 rfl) ⟨(Nat.le_of_ble_eq_true rfl), (Nat.le_of_ble_eq_true rfl)⟩ (zk_at hR.1 rfl) ⟨by decide, rfl⟩ rfl (Nat.le_of_ble_eq_true rfl) (Nat.le_of_ble_eq_true rfl) ⟨(Nat.le_of_ble_eq_true rfl), (Nat.le_of_ble_eq_true rfl)⟩ ?_
      refine Ev.istore_n (pc := 4) (n := (0, 0)) (i := 1) (L' := [(1, zi (kd t L p)), (0, zr (some 260))]) dX7_command_4 rfl (Nat.le_of_ble_eq_true rfl) rfl ?_
      refine Ev.aload_n (pc := 5) (n := (0, 0)) (i := 0) dX7_command_5 rfl rfl ?_
      refine Ev.iconst (pc := 6) (n := (0, 0)) dX7_command_6 ?_
      refine Ev.putI (pc := 7) (n := (0, 0)) dX7_command_7 fl_X7_232 (zk_at hR.1 rfl) rfl rfl (fun h9 => by cases h9) ?_
      refine Ev.iconst (pc := 10) (n := (0, 0)) dX7_command_10 ?_
      refine Ev.istore_n (pc := 11) (n := (0, 0)) (i := 2) (L' := [(2, zi 0), (1, zi (kd t L p)), (0, zr (some 260))]) dX7_command_11 rfl (Nat.le_of_ble_eq_true rfl) rfl ?_
      refine Ev.perm [2, 1, 0] rfl ?_
      exact a4 ho
    · skip
      have hT4 : TX (zup I3 260 11 ((sk t L (cE t L p) : Nat) : Int)) t L := hT3.up (by decide) _
      by_cases hs : hr t L (sk t L (cE t L p)) = 59
      · skip
        have e1 : cmdK t L p = kd t L p := (if_neg hk).trans ((if_neg ho).trans (if_pos hs))
        have e2 : cmdAt t L p = sk t L (cE t L p) + 1 := (if_neg hk).trans ((if_neg ho).trans (if_pos hs))
        rw [e1, e2]
        have h4 : sk t L (cE t L p) < L := hr_lt (t := t) (by omega)
        refine ⟨zup (zup I3 260 11 ((sk t L (cE t L p) : Nat) : Int)) 260 11 (((sk t L (cE t L p) : Nat) : Int) + 1), (hPW.trans a1).trans ((zPk.at' _ _).trans (zPk.at' _ _)), (zup_s _ _ _ _).trans (by omega), fun _ j hj => ?_, ?_⟩
        · rw [zup_o _ _ _ _ (by decide), zup_o _ _ _ _ (by decide)]
          have := (a3 ho).1 j (by unfold cN; exact hj)
          rw [Nat.zero_add] at this
          exact this
        refine Ev.aload_n (pc := 0) (n := (0, 0)) (i := 0) dX7_command_0 rfl rfl ?_
        refine Ev.callV (pc := 1) (n := (0, 0)) (ob := 260) (as := []) (st := []) (s_word hR hT hb hp) dX7_command_1 ok_X7_word (lk_X7_235 rfl) ⟨(Nat.le_of_ble_eq_true rfl), (Nat.le_of_ble_eq_true rfl)⟩ (zk_at hR.1 rfl) ⟨by decide, rfl⟩ rfl (Nat.le_of_ble_eq_true rfl) (Nat.le_of_ble_eq_true rfl) ⟨(Nat.le_of_ble_eq_true rfl), (Nat.le_of_ble_eq_true rfl)⟩ ?_
        refine Ev.istore_n (pc := 4) (n := (0, 0)) (i := 1) (L' := [(1, zi (kd t L p)), (0, zr (some 260))]) dX7_command_4 rfl (Nat.le_of_ble_eq_true rfl) rfl ?_
        refine Ev.aload_n (pc := 5) (n := (0, 0)) (i := 0) dX7_command_5 rfl rfl ?_
        refine Ev.iconst (pc := 6) (n := (0, 0)) dX7_command_6 ?_
        refine Ev.putI (pc := 7) (n := (0, 0)) dX7_command_7 fl_X7_232 (zk_at hR.1 rfl) rfl rfl (fun h9 => by cases h9) ?_
        refine Ev.iconst (pc := 10) (n := (0, 0)) dX7_command_10 ?_
        refine Ev.istore_n (pc := 11) (n := (0, 0)) (i := 2) (L' := [(2, zi 0), (1, zi (kd t L p)), (0, zr (some 260))]) dX7_command_11 rfl (Nat.le_of_ble_eq_true rfl) rfl ?_
        refine Ev.perm [2, 1, 0] rfl ?_
        refine a5 ho _ ?_
        refine Ev.iload_n (pc := 39) (n := (0, 0)) (i := 1) dX7_command_39 rfl rfl ?_
        refine Ev.if_le (pc := 40) (n := (0, 0)) (tgt := 68) dX7_command_40 rfl (fun hc => absurd hc (by omega)) (fun hc => ?_)
        refine Ev.aload_n (pc := 43) (n := (0, 0)) (i := 0) dX7_command_43 rfl rfl ?_
        refine Ev.callV (pc := 44) (n := (0, 0)) (ob := 260) (as := []) (st := []) (s_passSpaces hR hT3 a2) dX7_command_44 ok_X7_passSpaces (lk_X7_229 rfl) ⟨(Nat.le_of_ble_eq_true rfl), (Nat.le_of_ble_eq_true rfl)⟩ (zk_at hR.1 rfl) ⟨by decide, rfl⟩ rfl (Nat.le_of_ble_eq_true rfl) (Nat.le_of_ble_eq_true rfl) ⟨(Nat.le_of_ble_eq_true rfl), (Nat.le_of_ble_eq_true rfl)⟩ ?_
        refine Ev.aload_n (pc := 47) (n := (0, 0)) (i := 0) dX7_command_47 rfl rfl ?_
        refine Ev.callV (pc := 48) (n := (0, 0)) (ob := 260) (as := []) (st := []) (s_here hR hT4 (zup_s _ _ _ _)) dX7_command_48 ok_X7_here (lk_X7_204 rfl) ⟨(Nat.le_of_ble_eq_true rfl), (Nat.le_of_ble_eq_true rfl)⟩ (zk_at hR.1 rfl) ⟨by decide, rfl⟩ rfl (Nat.le_of_ble_eq_true rfl) (Nat.le_of_ble_eq_true rfl) ⟨(Nat.le_of_ble_eq_true rfl), (Nat.le_of_ble_eq_true rfl)⟩ ?_
        refine Ev.bipush (pc := 51) (n := (0, 0)) dX7_command_51 ?_
        refine Ev.icmp_eq (pc := 53) (n := (0, 0)) (tgt := 58) dX7_command_53 rfl (fun hc2 => ?_) (fun hc2 => absurd hs hc2)
        refine Ev.aload_n (pc := 58) (n := (0, 0)) (i := 0) dX7_command_58 rfl rfl ?_
        refine Ev.dup (pc := 59) (n := (0, 0)) dX7_command_59 rfl ?_
        refine Ev.gI (pc := 60) (n := (0, 0)) (x := ((sk t L (cE t L p) : Nat) : Int)) dX7_command_60 fl_X7_201 (zk_at hR.1 rfl) rfl (show zup I3 260 11 ((sk t L (cE t L p) : Nat) : Int) 260 11 = ((sk t L (cE t L p) : Nat) : Int) from zup_s _ _ _ _) ?_
        refine Ev.iconst (pc := 63) (n := (0, 0)) dX7_command_63 ?_
        refine Ev.iadd (pc := 64) (n := (0, 0)) dX7_command_64 ⟨by omega, by omega⟩ ?_
        refine Ev.putI (pc := 65) (n := (0, 0)) dX7_command_65 fl_X7_201 (zk_at hR.1 rfl) rfl rfl (fun h9 => by cases h9) ?_
        refine Ev.iload_n (pc := 68) (n := (0, 0)) (i := 1) dX7_command_68 rfl rfl ?_
        exact Ev.iret dX7_command_69 rfl ⟨(Nat.le_of_ble_eq_true rfl), (Nat.le_of_ble_eq_true rfl)⟩
      · skip
        have e1 : cmdK t L p = 0 := (if_neg hk).trans ((if_neg ho).trans (if_neg hs))
        have e2 : cmdAt t L p = sk t L (cE t L p) := (if_neg hk).trans ((if_neg ho).trans (if_neg hs))
        rw [e1, e2]
        refine ⟨(zup I3 260 11 ((sk t L (cE t L p) : Nat) : Int)), (hPW.trans a1).trans (zPk.at' _ _), zup_s _ _ _ _, fun g9 => absurd rfl g9, ?_⟩
        refine Ev.aload_n (pc := 0) (n := (0, 0)) (i := 0) dX7_command_0 rfl rfl ?_
        refine Ev.callV (pc := 1) (n := (0, 0)) (ob := 260) (as := []) (st := []) (s_word hR hT hb hp) dX7_command_1 ok_X7_word (lk_X7_235 rfl) ⟨(Nat.le_of_ble_eq_true rfl), (Nat.le_of_ble_eq_true rfl)⟩ (zk_at hR.1 rfl) ⟨by decide, rfl⟩ rfl (Nat.le_of_ble_eq_true rfl) (Nat.le_of_ble_eq_true rfl) ⟨(Nat.le_of_ble_eq_true rfl), (Nat.le_of_ble_eq_true rfl)⟩ ?_
        refine Ev.istore_n (pc := 4) (n := (0, 0)) (i := 1) (L' := [(1, zi (kd t L p)), (0, zr (some 260))]) dX7_command_4 rfl (Nat.le_of_ble_eq_true rfl) rfl ?_
        refine Ev.aload_n (pc := 5) (n := (0, 0)) (i := 0) dX7_command_5 rfl rfl ?_
        refine Ev.iconst (pc := 6) (n := (0, 0)) dX7_command_6 ?_
        refine Ev.putI (pc := 7) (n := (0, 0)) dX7_command_7 fl_X7_232 (zk_at hR.1 rfl) rfl rfl (fun h9 => by cases h9) ?_
        refine Ev.iconst (pc := 10) (n := (0, 0)) dX7_command_10 ?_
        refine Ev.istore_n (pc := 11) (n := (0, 0)) (i := 2) (L' := [(2, zi 0), (1, zi (kd t L p)), (0, zr (some 260))]) dX7_command_11 rfl (Nat.le_of_ble_eq_true rfl) rfl ?_
        refine Ev.perm [2, 1, 0] rfl ?_
        refine a5 ho _ ?_
        refine Ev.iload_n (pc := 39) (n := (0, 0)) (i := 1) dX7_command_39 rfl rfl ?_
        refine Ev.if_le (pc := 40) (n := (0, 0)) (tgt := 68) dX7_command_40 rfl (fun hc => absurd hc (by omega)) (fun hc => ?_)
        refine Ev.aload_n (pc := 43) (n := (0, 0)) (i := 0) dX7_command_43 rfl rfl ?_
        refine Ev.callV (pc := 44) (n := (0, 0)) (ob := 260) (as := []) (st := []) (s_passSpaces hR hT3 a2) dX7_command_44 ok_X7_passSpaces (lk_X7_229 rfl) ⟨(Nat.le_of_ble_eq_true rfl), (Nat.le_of_ble_eq_true rfl)⟩ (zk_at hR.1 rfl) ⟨by decide, rfl⟩ rfl (Nat.le_of_ble_eq_true rfl) (Nat.le_of_ble_eq_true rfl) ⟨(Nat.le_of_ble_eq_true rfl), (Nat.le_of_ble_eq_true rfl)⟩ ?_
        refine Ev.aload_n (pc := 47) (n := (0, 0)) (i := 0) dX7_command_47 rfl rfl ?_
        refine Ev.callV (pc := 48) (n := (0, 0)) (ob := 260) (as := []) (st := []) (s_here hR hT4 (zup_s _ _ _ _)) dX7_command_48 ok_X7_here (lk_X7_204 rfl) ⟨(Nat.le_of_ble_eq_true rfl), (Nat.le_of_ble_eq_true rfl)⟩ (zk_at hR.1 rfl) ⟨by decide, rfl⟩ rfl (Nat.le_of_ble_eq_true rfl) (Nat.le_of_ble_eq_true rfl) ⟨(Nat.le_of_ble_eq_true rfl), (Nat.le_of_ble_eq_true rfl)⟩ ?_
        refine Ev.bipush (pc := 51) (n := (0, 0)) dX7_command_51 ?_
        refine Ev.icmp_eq (pc := 53) (n := (0, 0)) (tgt := 58) dX7_command_53 rfl (fun hc2 => absurd hc2 hs) (fun hc2 => ?_)
        refine Ev.iconst (pc := 56) (n := (0, 0)) dX7_command_56 ?_
        exact Ev.iret dX7_command_57 rfl ⟨(Nat.le_of_ble_eq_true rfl), (Nat.le_of_ble_eq_true rfl)⟩
theorem s_flt_loop {h : zH} (hR : zRM h) {t : Int → Int} {L : Nat} (hb : BY t L) : ∀ (f p : Nat) (I : Nat → Int → Int), TX I t L → I 260 11 = p → p ≤ L → L - p < f → ∃ I2 : Nat → Int → Int, zPk I I2 ∧ Ev M_X7_fault 9 [(0, zr (some 260))] [] (h.1, I, h.2.2) (0, 0) (.inl (some (zi (fltF t L f p))), (h.1, I2, h.2.2)) := by
  intro f
  induction f with
  | zero => intro p I hT hp hpL hf; omega
  | succ f ih =>
    intro p I hT hp hpL hf
    have hlg := hT.1
    have hL := hT.2.1
    have ef : fltF t L (f + 1) p = if p < L then (if cmdK t L p = 0 then (cmdAt t L p : Int) else fltF t L f (sk t L (cmdAt t L p))) else -1 := rfl
    rw [ef]
    by_cases h1 : p < L
    · rw [if_pos h1]
      obtain ⟨I3, a1, a2, a3, a4⟩ := s_command hR hT hb hp hpL
      have hg := cmdAt_ge t L p
      by_cases h2 : cmdK t L p = 0
      · rw [if_pos h2]
        refine ⟨I3, a1, ?_⟩
        refine Ev.aload_n (pc := 9) (n := (0, 0)) (i := 0) dX7_fault_9 rfl rfl ?_
        refine Ev.gI (pc := 10) (n := (0, 0)) (x := (p : Int)) dX7_fault_10 fl_X7_201 (zk_at hR.1 rfl) rfl hp ?_
        refine Ev.aload_n (pc := 13) (n := (0, 0)) (i := 0) dX7_fault_13 rfl rfl ?_
        refine Ev.gI (pc := 14) (n := (0, 0)) (x := (L : Int)) dX7_fault_14 fl_X7_183 (zk_at hR.1 rfl) rfl hlg ?_
        refine Ev.icmp_ge (pc := 17) (n := (0, 0)) (tgt := 39) dX7_fault_17 rfl (fun hc => absurd hc (by omega)) (fun hc => ?_)
        refine Ev.aload_n (pc := 20) (n := (0, 0)) (i := 0) dX7_fault_20 rfl rfl ?_
        refine Ev.callV (pc := 21) (n := (0, 0)) (ob := 260) (as := []) (st := []) (a4) dX7_fault_21 ok_X7_command (lk_X7_245 rfl) ⟨(Nat.le_of_ble_eq_true rfl), (Nat.le_of_ble_eq_true rfl)⟩ (zk_at hR.1 rfl) ⟨by decide, rfl⟩ rfl (Nat.le_of_ble_eq_true rfl) (Nat.le_of_ble_eq_true rfl) ⟨(Nat.le_of_ble_eq_true rfl), (Nat.le_of_ble_eq_true rfl)⟩ ?_
        refine Ev.if_ne (pc := 24) (n := (0, 0)) (tgt := 32) dX7_fault_24 rfl (fun hc2 => absurd h2 hc2) (fun hc2 => ?_)
        refine Ev.aload_n (pc := 27) (n := (0, 0)) (i := 0) dX7_fault_27 rfl rfl ?_
        refine Ev.gI (pc := 28) (n := (0, 0)) (x := (cmdAt t L p : Int)) dX7_fault_28 fl_X7_201 (zk_at hR.1 rfl) rfl a2 ?_
        exact Ev.iret dX7_fault_31 rfl ⟨(Nat.le_of_ble_eq_true rfl), (Nat.le_of_ble_eq_true rfl)⟩
      · rw [if_neg h2]
        have hs := sk_ge t L (cmdAt t L p)
        have hT3 := a1.tx hT
        obtain ⟨I2, b1, b2⟩ := ih (sk t L (cmdAt t L p)) (zup I3 260 11 (sk t L (cmdAt t L p) : Int)) (hT3.up (by decide) _) (zup_s _ _ _ _) (by omega) (by omega)
        refine ⟨I2, (a1.trans (zPk.at' _ _)).trans b1, ?_⟩
        refine Ev.aload_n (pc := 9) (n := (0, 0)) (i := 0) dX7_fault_9 rfl rfl ?_
        refine Ev.gI (pc := 10) (n := (0, 0)) (x := (p : Int)) dX7_fault_10 fl_X7_201 (zk_at hR.1 rfl) rfl hp ?_
        refine Ev.aload_n (pc := 13) (n := (0, 0)) (i := 0) dX7_fault_13 rfl rfl ?_
        refine Ev.gI (pc := 14) (n := (0, 0)) (x := (L : Int)) dX7_fault_14 fl_X7_183 (zk_at hR.1 rfl) rfl hlg ?_
        refine Ev.icmp_ge (pc := 17) (n := (0, 0)) (tgt := 39) dX7_fault_17 rfl (fun hc => absurd hc (by omega)) (fun hc => ?_)
        refine Ev.aload_n (pc := 20) (n := (0, 0)) (i := 0) dX7_fault_20 rfl rfl ?_
        refine Ev.callV (pc := 21) (n := (0, 0)) (ob := 260) (as := []) (st := []) (a4) dX7_fault_21 ok_X7_command (lk_X7_245 rfl) ⟨(Nat.le_of_ble_eq_true rfl), (Nat.le_of_ble_eq_true rfl)⟩ (zk_at hR.1 rfl) ⟨by decide, rfl⟩ rfl (Nat.le_of_ble_eq_true rfl) (Nat.le_of_ble_eq_true rfl) ⟨(Nat.le_of_ble_eq_true rfl), (Nat.le_of_ble_eq_true rfl)⟩ ?_
        refine Ev.if_ne (pc := 24) (n := (0, 0)) (tgt := 32) dX7_fault_24 rfl (fun hc2 => ?_) (fun hc2 => absurd hc2 h2)
        refine Ev.aload_n (pc := 32) (n := (0, 0)) (i := 0) dX7_fault_32 rfl rfl ?_
        refine Ev.callV (pc := 33) (n := (0, 0)) (ob := 260) (as := []) (st := []) (s_passSpaces hR hT3 a2) dX7_fault_33 ok_X7_passSpaces (lk_X7_229 rfl) ⟨(Nat.le_of_ble_eq_true rfl), (Nat.le_of_ble_eq_true rfl)⟩ (zk_at hR.1 rfl) ⟨by decide, rfl⟩ rfl (Nat.le_of_ble_eq_true rfl) (Nat.le_of_ble_eq_true rfl) ⟨(Nat.le_of_ble_eq_true rfl), (Nat.le_of_ble_eq_true rfl)⟩ ?_
        refine Ev.goto (pc := 36) (n := (0, 0)) (tgt := 9) dX7_fault_36 rfl ?_
        exact b2
    · rw [if_neg h1]
      refine ⟨I, zPk.rfl' I, ?_⟩
      refine Ev.aload_n (pc := 9) (n := (0, 0)) (i := 0) dX7_fault_9 rfl rfl ?_
      refine Ev.gI (pc := 10) (n := (0, 0)) (x := (p : Int)) dX7_fault_10 fl_X7_201 (zk_at hR.1 rfl) rfl hp ?_
      refine Ev.aload_n (pc := 13) (n := (0, 0)) (i := 0) dX7_fault_13 rfl rfl ?_
      refine Ev.gI (pc := 14) (n := (0, 0)) (x := (L : Int)) dX7_fault_14 fl_X7_183 (zk_at hR.1 rfl) rfl hlg ?_
      refine Ev.icmp_ge (pc := 17) (n := (0, 0)) (tgt := 39) dX7_fault_17 rfl (fun hc => ?_) (fun hc => absurd hc (by omega))
      refine Ev.iconst (pc := 39) (n := (0, 0)) dX7_fault_39 ?_
      exact Ev.iret dX7_fault_40 rfl ⟨(Nat.le_of_ble_eq_true rfl), (Nat.le_of_ble_eq_true rfl)⟩
theorem s_fault {h : zH} {I : Nat → Int → Int} (hR : zRM h) {t : Int → Int} {L : Nat} (hT : TX I t L) (hb : BY t L) : ∃ I2 : Nat → Int → Int, zPk I I2 ∧ Ev M_X7_fault 0 [(0, zr (some 260))] [] (h.1, I, h.2.2) (0, 0) (.inl (some (zi (fltF t L (L + 1) (sk t L 0)))), (h.1, I2, h.2.2)) := by
  have hs := sk_ge t L 0
  have hT0 : TX (zup I 260 11 0) t L := hT.up (by decide) _
  have r0 := s_passSpaces hR hT0 (p := 0) (zup_s _ _ _ _)
  rw [zup_zup] at r0
  obtain ⟨I2, b1, b2⟩ := s_flt_loop hR hb (L + 1) (sk t L 0) (zup I 260 11 (sk t L 0 : Int)) (hT.up (by decide) _) (zup_s _ _ _ _) (by omega) (by omega)
  refine ⟨I2, (zPk.at' _ _).trans b1, ?_⟩
  refine Ev.aload_n (pc := 0) (n := (0, 0)) (i := 0) dX7_fault_0 rfl rfl ?_
  refine Ev.iconst (pc := 1) (n := (0, 0)) dX7_fault_1 ?_
  refine Ev.putI (pc := 2) (n := (0, 0)) dX7_fault_2 fl_X7_201 (zk_at hR.1 rfl) rfl rfl (fun h9 => by cases h9) ?_
  refine Ev.aload_n (pc := 5) (n := (0, 0)) (i := 0) dX7_fault_5 rfl rfl ?_
  refine Ev.callV (pc := 6) (n := (0, 0)) (ob := 260) (as := []) (st := []) (r0) dX7_fault_6 ok_X7_passSpaces (lk_X7_229 rfl) ⟨(Nat.le_of_ble_eq_true rfl), (Nat.le_of_ble_eq_true rfl)⟩ (zk_at hR.1 rfl) ⟨by decide, rfl⟩ rfl (Nat.le_of_ble_eq_true rfl) (Nat.le_of_ble_eq_true rfl) ⟨(Nat.le_of_ble_eq_true rfl), (Nat.le_of_ble_eq_true rfl)⟩ ?_
  exact b2
