/-! ===== the class: a tree copied ===== -/
def Z6 (I : Nat → Int → Int) (o p : Nat) : Nat → Int → Int := (zup (zup (zup (zup (zup (zup I o 0 (I p 0)) o 1 (I p 1)) o 2 (I p 2)) o 3 (I p 3)) o 4 (I p 4)) o 5 (I p 5))
theorem Z6_o (I : Nat → Int → Int) {o p x : Nat} (h : x ≠ o) : Z6 I o p x = I x := by
  funext k
  unfold Z6
  rw [zup_o _ _ _ _ h, zup_o _ _ _ _ h, zup_o _ _ _ _ h, zup_o _ _ _ _ h, zup_o _ _ _ _ h, zup_o _ _ _ _ h]
theorem Z6_k (I : Nat → Int → Int) (o p : Nat) {k : Int} (h : 6 ≤ k) : Z6 I o p o k = I o k := by
  unfold Z6
  rw [zup_k _ _ _ _ (by omega), zup_k _ _ _ _ (by omega), zup_k _ _ _ _ (by omega), zup_k _ _ _ _ (by omega), zup_k _ _ _ _ (by omega), zup_k _ _ _ _ (by omega)]
theorem Z6_s (I : Nat → Int → Int) (o p : Nat) {k : Int} (h0 : 0 ≤ k) (h5 : k ≤ 5) : Z6 I o p o k = I p k := by
  unfold Z6
  rcases (show k = 0 ∨ k = 1 ∨ k = 2 ∨ k = 3 ∨ k = 4 ∨ k = 5 by omega) with e | e | e | e | e | e <;> subst e
  · rw [zup_k _ _ _ _ (by decide), zup_k _ _ _ _ (by decide), zup_k _ _ _ _ (by decide), zup_k _ _ _ _ (by decide), zup_k _ _ _ _ (by decide), zup_s]
  · rw [zup_k _ _ _ _ (by decide), zup_k _ _ _ _ (by decide), zup_k _ _ _ _ (by decide), zup_k _ _ _ _ (by decide), zup_s]
  · rw [zup_k _ _ _ _ (by decide), zup_k _ _ _ _ (by decide), zup_k _ _ _ _ (by decide), zup_s]
  · rw [zup_k _ _ _ _ (by decide), zup_k _ _ _ _ (by decide), zup_s]
  · rw [zup_k _ _ _ _ (by decide), zup_s]
  · rw [zup_s]
theorem s_copy_loop {h : zH} {T U n0 n : Nat} {F0 F : zF} {ad0 dl0 ad dl : Int} {ar ar2 q0 q : Nat → Nat} (hC : CT h T n0 F0 ad0 dl0 ar q0) (hU : CT h U n F ad dl ar2 q) (hTU : T + 51 ≤ U ∨ U + 51 ≤ T) : ∀ (j m : Nat) (I' : Nat → Int → Int), m ≤ 24 → 24 - m = j → ((∀ o, (o < T ∨ T + 51 ≤ o) → I' o = h.2.1 o) ∧ (∀ i, i < m → ∀ k : Int, 0 ≤ k → k ≤ 5 → I' (ar i) k = h.2.1 (ar2 i) k) ∧ (∀ i, i < 24 → ∀ k : Int, 6 ≤ k → I' (ar i) k = h.2.1 (ar i) k) ∧ (∀ i, m ≤ i → i < 24 → I' (ar i) = h.2.1 (ar i)) ∧ I' T 2 = n ∧ I' T 3 = ad ∧ I' T 4 = dl) → ∃ I3, (CT (h.1, I3, h.2.2) T n F ad dl ar q ∧ ∀ o, (o < T ∨ T + 51 ≤ o) → I3 o = h.2.1 o) ∧ Ev M_X5_copyFrom 26 [(0, zr (some T)), (1, zr (some U)), (2, zi (m : Int))] [] (h.1, I', h.2.2) (0, 0) (.inl none, (h.1, I3, h.2.2)) := by
  intro j
  have hn := hU.n24
  induction j with
  | zero =>
    intro m I' hm hj hI
    have e : m = 24 := by omega
    subst e
    obtain ⟨i1, i2, i3, i4, i5⟩ := hI
    have s0 := hC.sep (show 0 < 24 by omega)
    refine ⟨I', ⟨hC.set i5 ⟨rfl, rfl⟩ (fun i hi => (hC.2.1.1 i hi).1) (fun i hi => ⟨i, hi, rfl⟩) hC.2.1.2.2.1 rfl (fun _ _ => rfl) (fun i hi => ?_) hU.2.2.1.1 hU.2.2.1.2 (fun i hi => ?_) rfl (fun k h1 h2 h3 => i3 0 (by omega) k (by omega)) hU.2.2.2.2.2, i1⟩, ?_⟩
    · rw [i2 i hi 1 (by decide) (by decide)]; exact hU.tk hi
    · have g := i2 i (by omega)
      unfold Cn
      show I' (ar i) 0 = _ ∧ I' (ar i) 1 = _ ∧ I' (ar i) 2 = _ ∧ I' (ar i) 3 = _ ∧ I' (ar i) 4 = _ ∧ I' (ar i) 5 = _
      rw [g 0 (by decide) (by decide), g 1 (by decide) (by decide), g 2 (by decide) (by decide), g 3 (by decide) (by decide), g 4 (by decide) (by decide), g 5 (by decide) (by decide)]
      exact ⟨hU.c0 hi, hU.c1 hi, hU.c2 hi, hU.c3 hi, hU.c4 hi, hU.c5 hi⟩
    refine Ev.iload_n (pc := 26) (n := (0, 0)) (i := 2) dX5_copyFrom_26 rfl rfl ?_
    refine Ev.bipush (pc := 27) (n := (0, 0)) dX5_copyFrom_27 ?_
    refine Ev.icmp_ge (pc := 29) (n := (0, 0)) (tgt := 53) dX5_copyFrom_29 rfl (fun hc => ?_) (fun hc => absurd hc (by omega))
    exact Ev.vret dX5_copyFrom_53 rfl ⟨(Nat.le_of_ble_eq_true rfl), (Nat.le_of_ble_eq_true rfl)⟩
  | succ j ih =>
    intro m I' hm hj hI
    have hm24 : m < 24 := by omega
    obtain ⟨i1, i2, i3, i4, i5, i6, i7⟩ := hI
    have sm := hC.sep hm24
    have su := hU.sep hm24
    have hne : ar2 m ≠ ar m := by omega
    have eU : I' (ar2 m) = h.2.1 (ar2 m) := i1 _ (by omega)
    obtain ⟨I3, h3, h4⟩ := ih (m + 1) (Z6 I' (ar m) (ar2 m)) (by omega) (by omega) ⟨fun o ho => (Z6_o I' (by omega)).trans (i1 o ho), fun i hi k h1 h2 => by
      by_cases e : i = m
      · subst e
        rw [Z6_s I' _ _ h1 h2, eU]
      · rw [Z6_o I' (hC.arx (by omega) hm24 e)]
        exact i2 i (by omega) k h1 h2, fun i hi k h1 => by
      by_cases e : i = m
      · subst e
        rw [Z6_k I' _ _ h1]
        exact i3 i hi k h1
      · rw [Z6_o I' (hC.arx (by omega) hm24 e)]
        exact i3 i hi k h1, fun i h1 h2 => by
      rw [Z6_o I' (hC.arx h2 hm24 (by omega))]
      exact i4 i (by omega) h2, by
      rw [Z6_o I' (show T ≠ ar m by omega)]; exact i5, by
      rw [Z6_o I' (show T ≠ ar m by omega)]; exact i6, by
      rw [Z6_o I' (show T ≠ ar m by omega)]; exact i7⟩
    refine ⟨I3, h3, ?_⟩
    refine Ev.iload_n (pc := 26) (n := (0, 0)) (i := 2) dX5_copyFrom_26 rfl rfl ?_
    refine Ev.bipush (pc := 27) (n := (0, 0)) dX5_copyFrom_27 ?_
    refine Ev.icmp_ge (pc := 29) (n := (0, 0)) (tgt := 53) dX5_copyFrom_29 rfl (fun hc => absurd hc (by omega)) (fun hc => ?_)
    refine Ev.aload_n (pc := 32) (n := (0, 0)) (i := 0) dX5_copyFrom_32 rfl rfl ?_
    refine Ev.gR (pc := 33) (n := (0, 0)) (r := (some (T + 1))) dX5_copyFrom_33 fl_X5_11 hC.1.1.1 rfl hC.1.2.1.1 ?_
    refine Ev.iload_n (pc := 36) (n := (0, 0)) (i := 2) dX5_copyFrom_36 rfl rfl ?_
    refine Ev.aa (pc := 37) (n := (0, 0)) (r := (some (ar m))) dX5_copyFrom_37 hC.1.1.2.1 (by decide) (by omega) (by omega) (hC.a24 hm24) ?_
    refine Ev.aload_n (pc := 38) (n := (0, 0)) (i := 1) dX5_copyFrom_38 rfl rfl ?_
    refine Ev.gR (pc := 39) (n := (0, 0)) (r := (some (U + 1))) dX5_copyFrom_39 fl_X5_11 hU.1.1.1 rfl hU.1.2.1.1 ?_
    refine Ev.iload_n (pc := 42) (n := (0, 0)) (i := 2) dX5_copyFrom_42 rfl rfl ?_
    refine Ev.aa (pc := 43) (n := (0, 0)) (r := (some (ar2 m))) dX5_copyFrom_43 hU.1.1.2.1 (by decide) (by omega) (by omega) (hU.a24 hm24) ?_
    refine Ev.callV (pc := 44) (n := (0, 0)) (ob := (ar m)) (as := [zr (some (ar2 m))]) (st := []) (s_copyFromN (h := (h.1, I', h.2.2)) (hC.nd24 hm24) (hU.nd24 hm24).1 hne (by show I' (ar2 m) 1 = 0 ∨ I' (ar2 m) 1 = 1; rw [eU]; exact hU.tk hm24)) dX5_copyFrom_44 ok_X3_copyFrom (lk_X5_31 rfl) ⟨(Nat.le_of_ble_eq_true rfl), (Nat.le_of_ble_eq_true rfl)⟩ (hC.nd24 hm24).1 ⟨by decide, rfl⟩ rfl (Nat.le_of_ble_eq_true rfl) (Nat.le_of_ble_eq_true rfl) ⟨(Nat.le_of_ble_eq_true rfl), (Nat.le_of_ble_eq_true rfl)⟩ ?_
    refine Ev.iinc (pc := 47) (n := (0, 0)) (L' := [(2, zi ((m : Int) + 1)), (0, zr (some T)), (1, zr (some U))]) dX5_copyFrom_47 rfl (Nat.le_of_ble_eq_true rfl) ⟨by omega, by omega⟩ rfl ?_
    refine Ev.goto (pc := 50) (n := (0, 0)) (tgt := 26) dX5_copyFrom_50 rfl ?_
    refine Ev.perm [1, 2, 0] rfl ?_
    exact h4
theorem s_copyFrom {h : zH} {T U n0 n : Nat} {F0 F : zF} {ad0 dl0 ad dl : Int} {ar ar2 q0 q : Nat → Nat} (hC : CT h T n0 F0 ad0 dl0 ar q0) (hU : CT h U n F ad dl ar2 q) (hTU : T + 51 ≤ U ∨ U + 51 ≤ T) : ∃ I3, (CT (h.1, I3, h.2.2) T n F ad dl ar q ∧ ∀ o, (o < T ∨ T + 51 ≤ o) → I3 o = h.2.1 o) ∧ Ev M_X5_copyFrom 0 [(0, zr (some T)), (1, zr (some U))] [] h (0, 0) (.inl none, (h.1, I3, h.2.2)) := by
  have uT : U ≠ T := by omega
  obtain ⟨I3, h3, h4⟩ := s_copy_loop hC hU hTU 24 0 (zup (zup (zup h.2.1 T 2 (n : Int)) T 3 ad) T 4 dl) (by omega) rfl ⟨fun o ho => funext fun k => by
    rw [zup_o _ _ _ _ (by omega), zup_o _ _ _ _ (by omega), zup_o _ _ _ _ (by omega)], fun i hi => by omega, fun i hi k hk => by
    have := hC.sep hi
    rw [zup_o _ _ _ _ (by omega), zup_o _ _ _ _ (by omega), zup_o _ _ _ _ (by omega)], fun i h1 h2 => funext fun k => by
    have := hC.sep h2
    rw [zup_o _ _ _ _ (by omega), zup_o _ _ _ _ (by omega), zup_o _ _ _ _ (by omega)], by
    rw [zup_k _ _ _ _ (by decide), zup_k _ _ _ _ (by decide), zup_s], by
    rw [zup_k _ _ _ _ (by decide), zup_s], zup_s _ _ _ _⟩
  refine ⟨I3, h3, ?_⟩
  refine Ev.aload_n (pc := 0) (n := (0, 0)) (i := 0) dX5_copyFrom_0 rfl rfl ?_
  refine Ev.aload_n (pc := 1) (n := (0, 0)) (i := 1) dX5_copyFrom_1 rfl rfl ?_
  refine Ev.gI (pc := 2) (n := (0, 0)) (x := (n : Int)) dX5_copyFrom_2 fl_X5_20 hU.1.1.1 rfl hU.tri.1 ?_
  refine Ev.putI (pc := 5) (n := (0, 0)) dX5_copyFrom_5 fl_X5_20 hC.1.1.1 rfl rfl (fun h9 => by cases h9) ?_
  refine Ev.aload_n (pc := 8) (n := (0, 0)) (i := 0) dX5_copyFrom_8 rfl rfl ?_
  refine Ev.aload_n (pc := 9) (n := (0, 0)) (i := 1) dX5_copyFrom_9 rfl rfl ?_
  refine Ev.gI (pc := 10) (n := (0, 0)) (x := ad) dX5_copyFrom_10 fl_X5_24 hU.1.1.1 rfl (show (zup h.2.1 T 2 (n : Int)) U 3 = ad from by rw [zup_o _ _ _ _ uT]; exact hU.tri.2.1) ?_
  refine Ev.putI (pc := 13) (n := (0, 0)) dX5_copyFrom_13 fl_X5_24 hC.1.1.1 rfl rfl (fun h9 => by cases h9) ?_
  refine Ev.aload_n (pc := 16) (n := (0, 0)) (i := 0) dX5_copyFrom_16 rfl rfl ?_
  refine Ev.aload_n (pc := 17) (n := (0, 0)) (i := 1) dX5_copyFrom_17 rfl rfl ?_
  refine Ev.gI (pc := 18) (n := (0, 0)) (x := dl) dX5_copyFrom_18 fl_X5_27 hU.1.1.1 rfl (show (zup (zup h.2.1 T 2 (n : Int)) T 3 ad) U 4 = dl from by rw [zup_o _ _ _ _ uT, zup_o _ _ _ _ uT]; exact hU.tri.2.2) ?_
  refine Ev.putI (pc := 21) (n := (0, 0)) dX5_copyFrom_21 fl_X5_27 hC.1.1.1 rfl rfl (fun h9 => by cases h9) ?_
  refine Ev.iconst (pc := 24) (n := (0, 0)) dX5_copyFrom_24 ?_
  refine Ev.istore_n (pc := 25) (n := (0, 0)) (i := 2) (L' := [(2, zi 0), (0, zr (some T)), (1, zr (some U))]) dX5_copyFrom_25 rfl (Nat.le_of_ble_eq_true rfl) rfl ?_
  refine Ev.perm [1, 2, 0] rfl ?_
  exact h4
