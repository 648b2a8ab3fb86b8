/-! ===== the class: changes ===== -/
theorem Ordd.cong {n : Nat} {F F' : zF} {q : Nat → Nat} (hq : ∀ i, i < n → q i < n) (e : ∀ k : Nat, k < n → F' k 2 = F k 2 ∧ F' k 3 = F k 3 ∧ F' k 4 = F k 4) (h : Ordd n F q) : Ordd n F' q := fun i h1 hi => by
  rw [(e (q i) (hq i hi)).2.2, h i h1 hi]
  refine zsum_congr fun j hj => ?_
  show sameRow F (q i) (q j) = sameRow F' (q i) (q j)
  unfold sameRow
  rw [(e (q i) (hq i hi)).1, (e (q i) (hq i hi)).2.1, (e (q j) (hq j (by omega))).1, (e (q j) (hq j (by omega))).2.1]
theorem CT.set {h : zH} {T n : Nat} {F : zF} {ad dl : Int} {ar q : Nat → Nat} (hC : CT h T n F ad dl ar q) {I' : Nat → Int → Int} {R' : Nat → Int → Option Nat} {n' : Nat} {F' : zF} {ad' dl' : Int} {ar' q' : Nat → Nat} (t : I' T 2 = n' ∧ I' T 3 = ad' ∧ I' T 4 = dl') (r : R' T 0 = h.2.2 T 0 ∧ R' T 1 = h.2.2 T 1) (a1 : ∀ i : Nat, i < 24 → R' (T + 1) i = some (ar' i)) (a2 : ∀ i, i < 24 → ∃ j, j < 24 ∧ ar' i = ar j) (a3 : ∀ i j, i < 24 → j < 24 → ar' i = ar' j → i = j) (a4 : ar' 0 = ar 0) (nd : ∀ i, i < 24 → R' (ar i) 14 = h.2.2 (ar i) 14) (tk : ∀ i, i < 24 → I' (ar i) 1 = 0 ∨ I' (ar i) 1 = 1) (hn : 1 ≤ n' ∧ n' ≤ 24) (hp : Pm n' q') (cn : ∀ i, i < n' → Cn (h.1, I', R') (ar' i) F' (q' i)) (r6 : R' (ar 0) 6 = h.2.2 (ar 0) 6) (i3 : ∀ k, 8 ≤ k → k ≤ 13 → k ≠ 10 → I' (ar 0) k = h.2.1 (ar 0) k) (ho : Ordd n' F' q') : CT (h.1, I', R') T n' F' ad' dl' ar' q' := by
  obtain ⟨⟨u1, u2, u3⟩, ⟨b1, b2, b3, b4⟩, c, d, ⟨e1, e2, e3, e4, e5, e6⟩, f⟩ := hC
  refine ⟨⟨u1, ⟨r.1.trans u2.1, r.2.trans u2.2⟩, t⟩, ⟨fun i hi => ?_, fun i hi => ?_, a3, a4.trans b4⟩, ⟨hn, hp⟩, cn, ?_, ho⟩
  · obtain ⟨j, hj, e⟩ := a2 i hi
    obtain ⟨g1, ⟨g2, g3, g4⟩, g5⟩ := b1 j hj
    refine ⟨a1 i hi, ?_, ?_⟩
    · rw [e]; exact ⟨g2, g3, (nd j hj).trans g4⟩
    · show I' (ar' i) 1 = 0 ∨ I' (ar' i) 1 = 1
      rw [e]; exact tk j hj
  · obtain ⟨j, hj, e⟩ := a2 i hi
    obtain ⟨m, hm, e9⟩ := b2 j hj
    exact ⟨m, hm, e.trans e9⟩
  · show R' (ar' 0) 6 = none ∧ I' (ar' 0) 8 = -1 ∧ I' (ar' 0) 9 = 0 ∧ I' (ar' 0) 11 = 0 ∧ I' (ar' 0) 12 = 0 ∧ I' (ar' 0) 13 = 0
    rw [a4]
    exact ⟨r6.trans e1, (i3 8 (by omega) (by omega) (by omega)).trans e2, (i3 9 (by omega) (by omega) (by omega)).trans e3, (i3 11 (by omega) (by omega) (by omega)).trans e4, (i3 12 (by omega) (by omega) (by omega)).trans e5, (i3 13 (by omega) (by omega) (by omega)).trans e6⟩
theorem CT.tk {h : zH} {T n : Nat} {F : zF} {ad dl : Int} {ar q : Nat → Nat} (hC : CT h T n F ad dl ar q) {i : Nat} (hi : i < 24) : h.2.1 (ar i) 1 = 0 ∨ h.2.1 (ar i) 1 = 1 := (hC.2.1.1 i hi).2.2
theorem CT.tri {h : zH} {T n : Nat} {F : zF} {ad dl : Int} {ar q : Nat → Nat} (hC : CT h T n F ad dl ar q) : h.2.1 T 2 = n ∧ h.2.1 T 3 = ad ∧ h.2.1 T 4 = dl := hC.1.2.2
theorem CT.a24 {h : zH} {T n : Nat} {F : zF} {ad dl : Int} {ar q : Nat → Nat} (hC : CT h T n F ad dl ar q) {i : Nat} (hi : i < 24) : h.2.2 (T + 1) i = some (ar i) := (hC.2.1.1 i hi).1
theorem CT.nd24 {h : zH} {T n : Nat} {F : zF} {ad dl : Int} {ar q : Nat → Nat} (hC : CT h T n F ad dl ar q) {i : Nat} (hi : i < 24) : Nd h (ar i) := (hC.2.1.1 i hi).2.1
/-- a reserve, a duration -/
theorem CT.upD {h : zH} {T n : Nat} {F : zF} {ad dl : Int} {ar q : Nat → Nat} (hC : CT h T n F ad dl ar q) {i : Nat} (hi : i < n) {f w : Int} (hfw : (f = 5 ∧ w = 6) ∨ (f = 4 ∧ w = 5)) (v : Int) : CT (h.1, zup h.2.1 (ar i) f v, h.2.2) T n (fup F (q i) w v) ad dl ar q := by
  have hn := hC.n24
  have s := hC.sep (show i < 24 by omega)
  have hf : f ≠ 0 ∧ f ≠ 1 ∧ f ≠ 2 ∧ f ≠ 3 := by omega
  refine hC.set ⟨?_, ?_, ?_⟩ ⟨rfl, rfl⟩ (fun i hi => hC.a24 hi) (fun i hi => ⟨i, hi, rfl⟩) hC.2.1.2.2.1 rfl (fun _ _ => rfl) (fun j hj => ?_) hC.2.2.1.1 hC.2.2.1.2 (fun j hj => ?_) rfl (fun k h1 h2 h3 => zup_k _ _ _ _ (by omega)) ?_
  · rw [zup_o _ _ _ _ (by omega)]; exact hC.tri.1
  · rw [zup_o _ _ _ _ (by omega)]; exact hC.tri.2.1
  · rw [zup_o _ _ _ _ (by omega)]; exact hC.tri.2.2
  · rw [zup_k _ _ _ _ (fun e => hf.2.1 e.symm)]; exact hC.tk hj
  · have c0 := hC.c0 hj
    have c1 := hC.c1 hj
    have c2 := hC.c2 hj
    have c3 := hC.c3 hj
    have c4 := hC.c4 hj
    have c5 := hC.c5 hj
    by_cases e : j = i
    · subst e
      have g : ∀ w2 : Int, w2 ≠ w → fup F (q j) w v (q j) w2 = F (q j) w2 := fun w2 hw2 => if_neg (fun g => hw2 g.2)
      have gw : fup F (q j) w v (q j) w = v := if_pos ⟨rfl, rfl⟩
      refine ⟨?_, ?_, ?_, ?_, ?_, ?_⟩
      · show zup h.2.1 (ar j) f v (ar j) 0 = _
        rw [zup_k _ _ _ _ (fun e => hf.1 e.symm), g 0 (by omega)]; exact c0
      · show zup h.2.1 (ar j) f v (ar j) 1 = _
        rw [zup_k _ _ _ _ (fun e => hf.2.1 e.symm), g 1 (by omega)]; exact c1
      · show zup h.2.1 (ar j) f v (ar j) 2 = _
        rw [zup_k _ _ _ _ (fun e => hf.2.2.1 e.symm), g 2 (by omega)]; exact c2
      · show zup h.2.1 (ar j) f v (ar j) 3 = _
        rw [zup_k _ _ _ _ (fun e => hf.2.2.2 e.symm), g 3 (by omega)]; exact c3
      · show zup h.2.1 (ar j) f v (ar j) 4 = _
        rcases hfw with ⟨rfl, rfl⟩ | ⟨rfl, rfl⟩
        · rw [zup_k _ _ _ _ (by decide), g 5 (by decide)]; exact c4
        · rw [zup_s]; exact gw.symm
      · show zup h.2.1 (ar j) f v (ar j) 5 = _
        rcases hfw with ⟨rfl, rfl⟩ | ⟨rfl, rfl⟩
        · rw [zup_s]; exact gw.symm
        · rw [zup_k _ _ _ _ (by decide), g 6 (by decide)]; exact c5
    · have hne : ar j ≠ ar i := fun g => e (hC.arin hj hi g)
      have hqe : ((q j : Nat) : Int) ≠ (q i : Nat) := fun g => e (hC.qin hj hi (by omega))
      have g : ∀ w2 : Int, fup F (q i) w v (q j) w2 = F (q j) w2 := fun w2 => if_neg (fun g => hqe g.1)
      refine ⟨?_, ?_, ?_, ?_, ?_, ?_⟩
      · show zup h.2.1 (ar i) f v (ar j) 0 = _
        rw [zup_o _ _ _ _ hne, g]; exact c0
      · show zup h.2.1 (ar i) f v (ar j) 1 = _
        rw [zup_o _ _ _ _ hne, g]; exact c1
      · show zup h.2.1 (ar i) f v (ar j) 2 = _
        rw [zup_o _ _ _ _ hne, g]; exact c2
      · show zup h.2.1 (ar i) f v (ar j) 3 = _
        rw [zup_o _ _ _ _ hne, g]; exact c3
      · show zup h.2.1 (ar i) f v (ar j) 4 = _
        rw [zup_o _ _ _ _ hne, g]; exact c4
      · show zup h.2.1 (ar i) f v (ar j) 5 = _
        rw [zup_o _ _ _ _ hne, g]; exact c5
  · exact Ordd.cong hC.2.2.1.2.1 (fun k hk => ⟨if_neg (fun g => by omega), if_neg (fun g => by omega), if_neg (fun g => by omega)⟩) hC.2.2.2.2.2
theorem s_changeReserve {h : zH} {T n : Nat} {F : zF} {ad dl : Int} {ar q : Nat → Nat} (hC : CT h T n F ad dl ar q) {i : Nat} (hi : i < n) {b : Int} (hb : -1000000000 ≤ F (q i) 6 + b ∧ F (q i) 6 + b ≤ 1000000000) {dep2 : Nat → Nat} {B2 : Int} (hw2 : WF n (fup F (q i) 6 (F (q i) 6 + b)) dep2 B2) (hB2 : 24 * (60 + B2) ≤ 1000000000) {len2 st2 sl2 dp2 : Int → Int} (hl2 : IsLen n (fup F (q i) 6 (F (q i) 6 + b)) len2) (ht2 : IsTm n (fup F (q i) 6 (F (q i) 6 + b)) len2 st2 sl2 dp2) : ∃ (I3 : Nat → Int → Int) (R3 : Nat → Int → Option Nat), (CT (h.1, I3, R3) T n (fup F (q i) 6 (F (q i) 6 + b)) ad dl ar q ∧ PLN (h.1, I3, R3) n (fup F (q i) 6 (F (q i) 6 + b)) len2 st2 sl2 dp2 ar q ∧ ∀ o, (o < T ∨ T + 51 ≤ o) → I3 o = h.2.1 o ∧ R3 o = h.2.2 o) ∧ Ev M_X5_changeReserve 0 [(0, zr (some T)), (1, zr (some (ar i))), (2, zi b)] [] h (0, 0) (.inl (some (zi (F (q i) 6 + b))), (h.1, I3, R3)) := by
  have hn := hC.n24
  have s := hC.sep (show i < 24 by omega)
  have hC1 : CT (h.1, (zup h.2.1 (ar i) 5 (F (q i) 6 + b)), h.2.2) T n (fup F (q i) 6 (F (q i) 6 + b)) ad dl ar q := hC.upD hi (Or.inl ⟨rfl, rfl⟩) _
  obtain ⟨I3, R3, hC3, hP3, hfr, k1⟩ := s_plan hC1 hw2 hB2 hl2 ht2
  refine ⟨I3, R3, ⟨hC3, hP3, fun o ho => ⟨(hfr o ho).1.trans (funext fun k => zup_o _ _ _ _ (by omega)), (hfr o ho).2⟩⟩, ?_⟩
  have e6 : (fup F (q i) 6 (F (q i) 6 + b)) (q i) 6 = F (q i) 6 + b := if_pos ⟨rfl, rfl⟩
  refine Ev.aload_n (pc := 0) (n := (0, 0)) (i := 1) dX5_changeReserve_0 rfl rfl ?_
  refine Ev.dup (pc := 1) (n := (0, 0)) dX5_changeReserve_1 rfl ?_
  refine Ev.gI (pc := 2) (n := (0, 0)) (x := (F (q i) 6)) dX5_changeReserve_2 fl_X5_75 (hC.nd hi).1 rfl (hC.c5 hi) ?_
  refine Ev.iload_n (pc := 5) (n := (0, 0)) (i := 2) dX5_changeReserve_5 rfl rfl ?_
  refine Ev.iadd (pc := 6) (n := (0, 0)) dX5_changeReserve_6 ⟨by omega, by omega⟩ ?_
  refine Ev.putI (pc := 7) (n := (0, 0)) dX5_changeReserve_7 fl_X5_75 (hC.nd hi).1 rfl rfl (fun h9 => by cases h9) ?_
  refine Ev.aload_n (pc := 10) (n := (0, 0)) (i := 0) dX5_changeReserve_10 rfl rfl ?_
  refine Ev.callV (pc := 11) (n := (0, 0)) (ob := T) (as := []) (st := []) (k1) dX5_changeReserve_11 ok_X5_plan (lk_X5_184 rfl) ⟨(Nat.le_of_ble_eq_true rfl), (Nat.le_of_ble_eq_true rfl)⟩ hC1.1.1.1 ⟨by decide, rfl⟩ rfl (Nat.le_of_ble_eq_true rfl) (Nat.le_of_ble_eq_true rfl) ⟨(Nat.le_of_ble_eq_true rfl), (Nat.le_of_ble_eq_true rfl)⟩ ?_
  refine Ev.aload_n (pc := 14) (n := (0, 0)) (i := 1) dX5_changeReserve_14 rfl rfl ?_
  refine Ev.gI (pc := 15) (n := (0, 0)) (x := (F (q i) 6 + b)) dX5_changeReserve_15 fl_X5_75 (hC3.nd hi).1 rfl ((hC3.c5 hi).trans e6) ?_
  exact Ev.iret dX5_changeReserve_18 rfl ⟨(Nat.le_of_ble_eq_true rfl), (Nat.le_of_ble_eq_true rfl)⟩
theorem s_changeDuration {h : zH} {T n : Nat} {F : zF} {ad dl : Int} {ar q : Nat → Nat} (hC : CT h T n F ad dl ar q) {i : Nat} (hi : i < n) {d : Int} (hd : 0 ≤ d ∧ d ≤ 60) (hb : (0 ≤ F (q i) 5 ∧ F (q i) 5 ≤ 60) ∧ (0 ≤ F (q i) 6 ∧ F (q i) 6 ≤ 1000000000)) {dep2 : Nat → Nat} {B2 : Int} (hw2 : WF n (flast F (q i) d) dep2 B2) (hB2 : 24 * (60 + B2) ≤ 1000000000) {len2 st2 sl2 dp2 : Int → Int} (hl2 : IsLen n (flast F (q i) d) len2) (ht2 : IsTm n (flast F (q i) d) len2 st2 sl2 dp2) : ∃ (I3 : Nat → Int → Int) (R3 : Nat → Int → Option Nat), (CT (h.1, I3, R3) T n (flast F (q i) d) ad dl ar q ∧ PLN (h.1, I3, R3) n (flast F (q i) d) len2 st2 sl2 dp2 ar q ∧ ∀ o, (o < T ∨ T + 51 ≤ o) → I3 o = h.2.1 o ∧ R3 o = h.2.2 o) ∧ Ev M_X5_changeDuration 0 [(0, zr (some T)), (1, zr (some (ar i))), (2, zi d)] [] h (0, 0) (.inl (some (zi (len2 0))), (h.1, I3, R3)) := by
  have hn := hC.n24
  have s := hC.sep (show i < 24 by omega)
  have hC1 : CT (h.1, (zup (zup h.2.1 (ar i) 5 (mres (F (q i) 5) (F (q i) 6) d)) (ar i) 4 d), h.2.2) T n (flast F (q i) d) ad dl ar q := (hC.upD hi (f := 5) (w := 6) (Or.inl ⟨rfl, rfl⟩) _).upD hi (Or.inr ⟨rfl, rfl⟩) _
  obtain ⟨I3, R3, hC3, hP3, hfr, k1⟩ := s_plan hC1 hw2 hB2 hl2 ht2
  refine ⟨I3, R3, ⟨hC3, hP3, fun o ho => ⟨(hfr o ho).1.trans (funext fun k => (zup_o _ _ _ _ (by omega)).trans (zup_o _ _ _ _ (by omega))), (hfr o ho).2⟩⟩, ?_⟩
  refine Ev.aload_n (pc := 0) (n := (0, 0)) (i := 1) dX5_changeDuration_0 rfl rfl ?_
  refine Ev.aload_n (pc := 1) (n := (0, 0)) (i := 1) dX5_changeDuration_1 rfl rfl ?_
  refine Ev.iload_n (pc := 2) (n := (0, 0)) (i := 2) dX5_changeDuration_2 rfl rfl ?_
  refine Ev.callV (pc := 3) (n := (0, 0)) (ob := (ar i)) (as := [zi d]) (st := [zr (some (ar i))]) (s_reserveWith (hC.nd hi) (hC.c4 hi) (hC.c5 hi) ⟨hb.1, hb.2, by omega, by omega⟩) dX5_changeDuration_3 ok_X3_reserveWith (lk_X5_191 rfl) ⟨(Nat.le_of_ble_eq_true rfl), (Nat.le_of_ble_eq_true rfl)⟩ (hC.nd hi).1 ⟨by decide, rfl⟩ rfl (Nat.le_of_ble_eq_true rfl) (Nat.le_of_ble_eq_true rfl) ⟨(Nat.le_of_ble_eq_true rfl), (Nat.le_of_ble_eq_true rfl)⟩ ?_
  refine Ev.putI (pc := 6) (n := (0, 0)) dX5_changeDuration_6 fl_X5_75 (hC.nd hi).1 rfl rfl (fun h9 => by cases h9) ?_
  refine Ev.aload_n (pc := 9) (n := (0, 0)) (i := 1) dX5_changeDuration_9 rfl rfl ?_
  refine Ev.iload_n (pc := 10) (n := (0, 0)) (i := 2) dX5_changeDuration_10 rfl rfl ?_
  refine Ev.putI (pc := 11) (n := (0, 0)) dX5_changeDuration_11 fl_X5_72 (hC.nd hi).1 rfl rfl (fun h9 => by cases h9) ?_
  refine Ev.aload_n (pc := 14) (n := (0, 0)) (i := 0) dX5_changeDuration_14 rfl rfl ?_
  refine Ev.callV (pc := 15) (n := (0, 0)) (ob := T) (as := []) (st := []) (k1) dX5_changeDuration_15 ok_X5_plan (lk_X5_184 rfl) ⟨(Nat.le_of_ble_eq_true rfl), (Nat.le_of_ble_eq_true rfl)⟩ hC.1.1.1 ⟨by decide, rfl⟩ rfl (Nat.le_of_ble_eq_true rfl) (Nat.le_of_ble_eq_true rfl) ⟨(Nat.le_of_ble_eq_true rfl), (Nat.le_of_ble_eq_true rfl)⟩ ?_
  refine Ev.aload_n (pc := 18) (n := (0, 0)) (i := 0) dX5_changeDuration_18 rfl rfl ?_
  refine Ev.callV (pc := 19) (n := (0, 0)) (ob := T) (as := []) (st := []) (s_endC hC3 hP3) dX5_changeDuration_19 ok_X5_end (lk_X5_194 rfl) ⟨(Nat.le_of_ble_eq_true rfl), (Nat.le_of_ble_eq_true rfl)⟩ hC.1.1.1 ⟨by decide, rfl⟩ rfl (Nat.le_of_ble_eq_true rfl) (Nat.le_of_ble_eq_true rfl) ⟨(Nat.le_of_ble_eq_true rfl), (Nat.le_of_ble_eq_true rfl)⟩ ?_
  exact Ev.iret dX5_changeDuration_22 rfl ⟨(Nat.le_of_ble_eq_true rfl), (Nat.le_of_ble_eq_true rfl)⟩
theorem s_slackIfC {h : zH} {T n : Nat} {F : zF} {ad dl : Int} {ar q : Nat → Nat} (hC : CT h T n F ad dl ar q) {dep : Nat → Nat} {B : Int} (hw : WF n F dep B) (hB : 24 * (60 + B) ≤ 1000000000) {len st sl dp : Int → Int} (hl : IsLen n F len) (ht : IsTm n F len st sl dp) (hP : PLN h n F len st sl dp ar q) {i j : Nat} (hi : i < n) (hj : j < n) {dep2 : Nat → Nat} {B2 : Int} (hw2 : WF n (fup F (q j) 6 (F (q j) 6 + sl (q j))) dep2 B2) (hB2 : 24 * (60 + B2) ≤ 1000000000) {len2 st2 sl2 dp2 : Int → Int} (hl2 : IsLen n (fup F (q j) 6 (F (q j) 6 + sl (q j))) len2) (ht2 : IsTm n (fup F (q j) 6 (F (q j) 6 + sl (q j))) len2 st2 sl2 dp2) : ∃ (I3 : Nat → Int → Int) (R3 : Nat → Int → Option Nat), (CT (h.1, I3, R3) T n F ad dl ar q ∧ PLN (h.1, I3, R3) n F len st sl dp ar q ∧ ∀ o, (o < T ∨ T + 51 ≤ o) → I3 o = h.2.1 o ∧ R3 o = h.2.2 o) ∧ Ev M_X5_slackIfBorrowed 0 [(0, zr (some T)), (1, zr (some (ar i))), (2, zr (some (ar j)))] [] h (0, 0) (.inl (some (zi (sl2 (q i)))), (h.1, I3, R3)) := by
  have hn := hC.n24
  have hmt := mtot_le hw
  have hqj := hC.qlt hj
  have bj := PL.bd hw hB hl ht hqj
  have b6 := (hw.2.2.2.1 (q j) hqj).2.2.1
  have s := hC.sep (show j < 24 by omega)
  have hC1 : CT (h.1, (zup h.2.1 (ar j) 5 (F (q j) 6 + sl (q j))), h.2.2) T n (fup F (q j) 6 (F (q j) 6 + sl (q j))) ad dl ar q := hC.upD hj (Or.inl ⟨rfl, rfl⟩) _
  obtain ⟨I3, R3, hC3, hP3, hfr, k1⟩ := s_plan hC1 hw2 hB2 hl2 ht2
  have e6 : (fup F (q j) 6 (F (q j) 6 + sl (q j))) (q j) 6 = F (q j) 6 + sl (q j) := if_pos ⟨rfl, rfl⟩
  have hC4 := hC3.upD hj (f := 5) (w := 6) (Or.inl ⟨rfl, rfl⟩) (F (q j) 6)
  have ef : fup (fup F (q j) 6 (F (q j) 6 + sl (q j))) (q j) 6 (F (q j) 6) = F := by
    funext o w
    show (if o = (q j : Nat) ∧ w = 6 then F (q j) 6 else if o = (q j : Nat) ∧ w = 6 then F (q j) 6 + sl (q j) else F o w) = F o w
    split
    · rename_i g; rw [g.1, g.2]
    · rfl
  rw [ef] at hC4
  have hC4 : CT (h.1, (zup I3 (ar j) 5 (F (q j) 6)), R3) T n F ad dl ar q := hC4
  obtain ⟨I5, R5, hC5, hP5, hfr5, k2⟩ := s_plan hC4 hw hB hl ht
  refine ⟨I5, R5, ⟨hC5, hP5, fun o ho => ⟨(hfr5 o ho).1.trans ((funext fun k => zup_o _ _ _ _ (by omega)).trans ((hfr o ho).1.trans (funext fun k => zup_o _ _ _ _ (by omega)))), (hfr5 o ho).2.trans (hfr o ho).2⟩⟩, ?_⟩
  have e7 : F (q j) 6 + sl (q j) - sl (q j) = F (q j) 6 := by omega
  refine Ev.aload_n (pc := 0) (n := (0, 0)) (i := 2) dX5_slackIfBorrowed_0 rfl rfl ?_
  refine Ev.gI (pc := 1) (n := (0, 0)) (x := (sl (q j))) dX5_slackIfBorrowed_1 fl_X5_104 (hC.nd hj).1 rfl (hP.p5 hj) ?_
  refine Ev.istore_n (pc := 4) (n := (0, 0)) (i := 3) (L' := [(3, zi (sl (q j))), (0, zr (some T)), (1, zr (some (ar i))), (2, zr (some (ar j)))]) dX5_slackIfBorrowed_4 rfl (Nat.le_of_ble_eq_true rfl) rfl ?_
  refine Ev.aload_n (pc := 5) (n := (0, 0)) (i := 2) dX5_slackIfBorrowed_5 rfl rfl ?_
  refine Ev.dup (pc := 6) (n := (0, 0)) dX5_slackIfBorrowed_6 rfl ?_
  refine Ev.gI (pc := 7) (n := (0, 0)) (x := (F (q j) 6)) dX5_slackIfBorrowed_7 fl_X5_75 (hC.nd hj).1 rfl (hC.c5 hj) ?_
  refine Ev.iload_n (pc := 10) (n := (0, 0)) (i := 3) dX5_slackIfBorrowed_10 rfl rfl ?_
  refine Ev.iadd (pc := 11) (n := (0, 0)) dX5_slackIfBorrowed_11 ⟨by omega, by omega⟩ ?_
  refine Ev.putI (pc := 12) (n := (0, 0)) dX5_slackIfBorrowed_12 fl_X5_75 (hC.nd hj).1 rfl rfl (fun h9 => by cases h9) ?_
  refine Ev.aload_n (pc := 15) (n := (0, 0)) (i := 0) dX5_slackIfBorrowed_15 rfl rfl ?_
  refine Ev.callV (pc := 16) (n := (0, 0)) (ob := T) (as := []) (st := []) (k1) dX5_slackIfBorrowed_16 ok_X5_plan (lk_X5_184 rfl) ⟨(Nat.le_of_ble_eq_true rfl), (Nat.le_of_ble_eq_true rfl)⟩ hC.1.1.1 ⟨by decide, rfl⟩ rfl (Nat.le_of_ble_eq_true rfl) (Nat.le_of_ble_eq_true rfl) ⟨(Nat.le_of_ble_eq_true rfl), (Nat.le_of_ble_eq_true rfl)⟩ ?_
  refine Ev.aload_n (pc := 19) (n := (0, 0)) (i := 1) dX5_slackIfBorrowed_19 rfl rfl ?_
  refine Ev.gI (pc := 20) (n := (0, 0)) (x := (sl2 (q i))) dX5_slackIfBorrowed_20 fl_X5_104 (hC3.nd hi).1 rfl (hP3.p5 hi) ?_
  refine Ev.istore (pc := 23) (n := (0, 0)) (i := 4) (L' := [(4, zi (sl2 (q i))), (3, zi (sl (q j))), (0, zr (some T)), (1, zr (some (ar i))), (2, zr (some (ar j)))]) dX5_slackIfBorrowed_23 (Nat.le_of_ble_eq_true rfl) rfl ?_
  refine Ev.aload_n (pc := 25) (n := (0, 0)) (i := 2) dX5_slackIfBorrowed_25 rfl rfl ?_
  refine Ev.dup (pc := 26) (n := (0, 0)) dX5_slackIfBorrowed_26 rfl ?_
  refine Ev.gI (pc := 27) (n := (0, 0)) (x := (F (q j) 6 + sl (q j))) dX5_slackIfBorrowed_27 fl_X5_75 (hC3.nd hj).1 rfl ((hC3.c5 hj).trans e6) ?_
  refine Ev.iload_n (pc := 30) (n := (0, 0)) (i := 3) dX5_slackIfBorrowed_30 rfl rfl ?_
  refine Ev.isub (pc := 31) (n := (0, 0)) dX5_slackIfBorrowed_31 ⟨by omega, by omega⟩ ?_
  rw [e7]
  refine Ev.putI (pc := 32) (n := (0, 0)) dX5_slackIfBorrowed_32 fl_X5_75 (hC3.nd hj).1 rfl rfl (fun h9 => by cases h9) ?_
  refine Ev.aload_n (pc := 35) (n := (0, 0)) (i := 0) dX5_slackIfBorrowed_35 rfl rfl ?_
  refine Ev.callV (pc := 36) (n := (0, 0)) (ob := T) (as := []) (st := []) (k2) dX5_slackIfBorrowed_36 ok_X5_plan (lk_X5_184 rfl) ⟨(Nat.le_of_ble_eq_true rfl), (Nat.le_of_ble_eq_true rfl)⟩ hC3.1.1.1 ⟨by decide, rfl⟩ rfl (Nat.le_of_ble_eq_true rfl) (Nat.le_of_ble_eq_true rfl) ⟨(Nat.le_of_ble_eq_true rfl), (Nat.le_of_ble_eq_true rfl)⟩ ?_
  refine Ev.iload (pc := 39) (n := (0, 0)) dX5_slackIfBorrowed_39 rfl ?_
  exact Ev.iret dX5_slackIfBorrowed_41 rfl ⟨(Nat.le_of_ble_eq_true rfl), (Nat.le_of_ble_eq_true rfl)⟩
theorem CT.add {h : zH} {T n : Nat} {F : zF} {ad dl : Int} {ar q : Nat → Nat} (hC : CT h T n F ad dl ar q) (hn : n < 24) {i : Nat} (hi : i < n) {t r d : Int} (ht : t = 0 ∨ t = 1) : CT (h.1, (zup (zup (zup (zup (zup (zup (zup (zup h.2.1 (ar n) 0 ad) (ar n) 1 t) (ar n) 2 (F (q i) 0)) (ar n) 3 r) (ar n) 4 d) (ar n) 5 0) T 2 ((n : Int) + 1)) T 3 (ad + 1)), h.2.2) T (n + 1) (fadd n F ad t (F (q i) 0) r d) (ad + 1) dl ar (fun j => if j = n then n else q j) := by
  have s := hC.sep hn
  have hn1 := hC.n1
  have hqm : Pm n q := hC.2.2.1.2
  have eT : ∀ k : Int, k ≠ 2 → k ≠ 3 → (zup (zup (zup (zup (zup (zup (zup (zup h.2.1 (ar n) 0 ad) (ar n) 1 t) (ar n) 2 (F (q i) 0)) (ar n) 3 r) (ar n) 4 d) (ar n) 5 0) T 2 ((n : Int) + 1)) T 3 (ad + 1)) T k = h.2.1 T k := fun k h2 h3 => by
    rw [zup_k _ _ _ _ h3, zup_k _ _ _ _ h2, zup_o _ _ _ _ (by omega), zup_o _ _ _ _ (by omega), zup_o _ _ _ _ (by omega), zup_o _ _ _ _ (by omega), zup_o _ _ _ _ (by omega), zup_o _ _ _ _ (by omega)]
  have eO : ∀ j, j < 24 → j ≠ n → ∀ k : Int, (zup (zup (zup (zup (zup (zup (zup (zup h.2.1 (ar n) 0 ad) (ar n) 1 t) (ar n) 2 (F (q i) 0)) (ar n) 3 r) (ar n) 4 d) (ar n) 5 0) T 2 ((n : Int) + 1)) T 3 (ad + 1)) (ar j) k = h.2.1 (ar j) k := fun j hj hne k => by
    have hx := hC.arx hj hn hne
    have sj := hC.sep hj
    rw [zup_o _ _ _ _ (by omega), zup_o _ _ _ _ (by omega), zup_o _ _ _ _ hx, zup_o _ _ _ _ hx, zup_o _ _ _ _ hx, zup_o _ _ _ _ hx, zup_o _ _ _ _ hx, zup_o _ _ _ _ hx]
  have nT : ar n ≠ T := by omega
  have e1 : (zup (zup (zup (zup (zup (zup (zup (zup h.2.1 (ar n) 0 ad) (ar n) 1 t) (ar n) 2 (F (q i) 0)) (ar n) 3 r) (ar n) 4 d) (ar n) 5 0) T 2 ((n : Int) + 1)) T 3 (ad + 1)) (ar n) 1 = t := by
    rw [zup_o _ _ _ _ nT, zup_o _ _ _ _ nT, zup_k _ _ _ _ (by decide), zup_k _ _ _ _ (by decide), zup_k _ _ _ _ (by decide), zup_k _ _ _ _ (by decide), zup_s]
  have ff := fadd_n n F ad t (F (q i) 0) r d
  refine hC.set ⟨?_, ?_, ?_⟩ ⟨rfl, rfl⟩ (fun i hi => hC.a24 hi) (fun i hi => ⟨i, hi, rfl⟩) hC.2.1.2.2.1 rfl (fun _ _ => rfl) (fun j hj => ?_) ⟨by omega, by omega⟩ ⟨fun j hj => ?_, fun a b ha hb e => ?_, ?_⟩ (fun j hj => ?_) rfl (fun k h1 h2 h3 => eO 0 (by omega) (by omega) k) (fun j h1 hj => ?_)
  · rw [zup_k _ _ _ _ (by decide), zup_s]; omega
  · rw [zup_s]
  · rw [eT 4 (by decide) (by decide)]; exact hC.tri.2.2
  · by_cases e : j = n
    · subst e; rw [e1]; exact ht
    · rw [eO j hj e]; exact hC.tk hj
  · dsimp only
    split
    · omega
    · have := hqm.1 j (by omega); omega
  · dsimp only at e
    by_cases g1 : a = n <;> by_cases g2 : b = n
    · omega
    · rw [if_pos g1, if_neg g2] at e
      have := hqm.1 b (by omega); omega
    · rw [if_neg g1, if_pos g2] at e
      have := hqm.1 a (by omega); omega
    · rw [if_neg g1, if_neg g2] at e
      exact hqm.2.1 a b (by omega) (by omega) e
  · show (if 0 = n then n else q 0) = 0
    rw [if_neg (by omega)]; exact hqm.2.2
  · by_cases e : j = n
    · subst e
      have eq : (if j = j then j else q j) = j := if_pos rfl
      show Cn _ (ar j) _ ((if j = j then j else q j : Nat) : Int)
      rw [eq]
      refine ⟨?_, ?_, ?_, ?_, ?_, ?_⟩
      · rw [ff.1]
        show (zup (zup (zup (zup (zup (zup (zup (zup h.2.1 (ar j) 0 ad) (ar j) 1 t) (ar j) 2 (F (q i) 0)) (ar j) 3 r) (ar j) 4 d) (ar j) 5 0) T 2 ((j : Int) + 1)) T 3 (ad + 1)) (ar j) 0 = _
        rw [zup_o _ _ _ _ nT, zup_o _ _ _ _ nT, zup_k _ _ _ _ (by decide), zup_k _ _ _ _ (by decide), zup_k _ _ _ _ (by decide), zup_k _ _ _ _ (by decide), zup_k _ _ _ _ (by decide), zup_s]
      · rw [ff.2.1]; exact e1
      · rw [ff.2.2.1]
        show (zup (zup (zup (zup (zup (zup (zup (zup h.2.1 (ar j) 0 ad) (ar j) 1 t) (ar j) 2 (F (q i) 0)) (ar j) 3 r) (ar j) 4 d) (ar j) 5 0) T 2 ((j : Int) + 1)) T 3 (ad + 1)) (ar j) 2 = _
        rw [zup_o _ _ _ _ nT, zup_o _ _ _ _ nT, zup_k _ _ _ _ (by decide), zup_k _ _ _ _ (by decide), zup_k _ _ _ _ (by decide), zup_s]
      · rw [ff.2.2.2.1]
        show (zup (zup (zup (zup (zup (zup (zup (zup h.2.1 (ar j) 0 ad) (ar j) 1 t) (ar j) 2 (F (q i) 0)) (ar j) 3 r) (ar j) 4 d) (ar j) 5 0) T 2 ((j : Int) + 1)) T 3 (ad + 1)) (ar j) 3 = _
        rw [zup_o _ _ _ _ nT, zup_o _ _ _ _ nT, zup_k _ _ _ _ (by decide), zup_k _ _ _ _ (by decide), zup_s]
      · rw [ff.2.2.2.2.2.1]
        show (zup (zup (zup (zup (zup (zup (zup (zup h.2.1 (ar j) 0 ad) (ar j) 1 t) (ar j) 2 (F (q i) 0)) (ar j) 3 r) (ar j) 4 d) (ar j) 5 0) T 2 ((j : Int) + 1)) T 3 (ad + 1)) (ar j) 4 = _
        rw [zup_o _ _ _ _ nT, zup_o _ _ _ _ nT, zup_k _ _ _ _ (by decide), zup_s]
      · rw [ff.2.2.2.2.2.2]
        show (zup (zup (zup (zup (zup (zup (zup (zup h.2.1 (ar j) 0 ad) (ar j) 1 t) (ar j) 2 (F (q i) 0)) (ar j) 3 r) (ar j) 4 d) (ar j) 5 0) T 2 ((j : Int) + 1)) T 3 (ad + 1)) (ar j) 5 = _
        rw [zup_o _ _ _ _ nT, zup_o _ _ _ _ nT, zup_s]
    · have hj2 : j < n := by omega
      have eq : (if j = n then n else q j) = q j := if_neg e
      show Cn _ (ar j) _ ((if j = n then n else q j : Nat) : Int)
      rw [eq]
      have hql := hqm.1 j hj2
      have hqn : ((q j : Nat) : Int) ≠ (n : Int) := by omega
      unfold Cn
      rw [fadd_o hqn, fadd_o hqn, fadd_o hqn, fadd_o hqn, fadd_o hqn, fadd_o hqn]
      show (zup (zup (zup (zup (zup (zup (zup (zup h.2.1 (ar n) 0 ad) (ar n) 1 t) (ar n) 2 (F (q i) 0)) (ar n) 3 r) (ar n) 4 d) (ar n) 5 0) T 2 ((n : Int) + 1)) T 3 (ad + 1)) (ar j) 0 = _ ∧ (zup (zup (zup (zup (zup (zup (zup (zup h.2.1 (ar n) 0 ad) (ar n) 1 t) (ar n) 2 (F (q i) 0)) (ar n) 3 r) (ar n) 4 d) (ar n) 5 0) T 2 ((n : Int) + 1)) T 3 (ad + 1)) (ar j) 1 = _ ∧ (zup (zup (zup (zup (zup (zup (zup (zup h.2.1 (ar n) 0 ad) (ar n) 1 t) (ar n) 2 (F (q i) 0)) (ar n) 3 r) (ar n) 4 d) (ar n) 5 0) T 2 ((n : Int) + 1)) T 3 (ad + 1)) (ar j) 2 = _ ∧ (zup (zup (zup (zup (zup (zup (zup (zup h.2.1 (ar n) 0 ad) (ar n) 1 t) (ar n) 2 (F (q i) 0)) (ar n) 3 r) (ar n) 4 d) (ar n) 5 0) T 2 ((n : Int) + 1)) T 3 (ad + 1)) (ar j) 3 = _ ∧ (zup (zup (zup (zup (zup (zup (zup (zup h.2.1 (ar n) 0 ad) (ar n) 1 t) (ar n) 2 (F (q i) 0)) (ar n) 3 r) (ar n) 4 d) (ar n) 5 0) T 2 ((n : Int) + 1)) T 3 (ad + 1)) (ar j) 4 = _ ∧ (zup (zup (zup (zup (zup (zup (zup (zup h.2.1 (ar n) 0 ad) (ar n) 1 t) (ar n) 2 (F (q i) 0)) (ar n) 3 r) (ar n) 4 d) (ar n) 5 0) T 2 ((n : Int) + 1)) T 3 (ad + 1)) (ar j) 5 = _
      rw [eO j (by omega) e, eO j (by omega) e, eO j (by omega) e, eO j (by omega) e, eO j (by omega) e, eO j (by omega) e]
      exact ⟨hC.c0 hj2, hC.c1 hj2, hC.c2 hj2, hC.c3 hj2, hC.c4 hj2, hC.c5 hj2⟩
  · by_cases e : j = n
    · subst e
      have eq : (if j = j then j else q j) = j := if_pos rfl
      rw [eq, ff.2.2.2.2.1]
      have es := hC.sum (fun k => if F k 2 = F (q i) 0 ∧ F k 3 = r then 1 else 0)
      show mcc j F (F (q i) 0) r = _
      unfold mcc
      rw [← es]
      refine zsum_congr fun k hk => ?_
      have hql := hqm.1 k hk
      have hqn : ((q k : Nat) : Int) ≠ (j : Int) := by omega
      show (if F (q k) 2 = F (q i) 0 ∧ F (q k) 3 = r then (1 : Int) else 0) = sameRow _ (j : Int) ((if k = j then j else q k : Nat) : Int)
      rw [if_neg (show ¬ k = j by omega)]
      unfold sameRow
      rw [ff.2.2.1, ff.2.2.2.1, fadd_o hqn, fadd_o hqn]
    · have hj2 : j < n := by omega
      have eq : (if j = n then n else q j) = q j := if_neg e
      have hqn : ((q j : Nat) : Int) ≠ (n : Int) := by have := hqm.1 j hj2; omega
      rw [eq, fadd_o hqn, hC.2.2.2.2.2 j h1 hj2]
      refine zsum_congr fun k hk => ?_
      have hqk : ((q k : Nat) : Int) ≠ (n : Int) := by have := hqm.1 k (by omega); omega
      show sameRow F (q j) (q k) = sameRow _ (q j) ((if k = n then n else q k : Nat) : Int)
      rw [if_neg (show ¬ k = n by omega)]
      unfold sameRow
      rw [fadd_o hqn, fadd_o hqn, fadd_o hqk, fadd_o hqk]
theorem s_addNode {h : zH} {T n : Nat} {F : zF} {ad dl : Int} {ar q : Nat → Nat} (hC : CT h T n F ad dl ar q) (hn : n < 24) (hab : 0 ≤ ad ∧ ad ≤ 1000000) {i : Nat} (hi : i < n) {t r d : Int} (ht : t = 0 ∨ t = 1) {dep2 : Nat → Nat} {B2 : Int} (hw2 : WF (n + 1) (fadd n F ad t (F (q i) 0) r d) dep2 B2) (hB2 : 24 * (60 + B2) ≤ 1000000000) {len2 st2 sl2 dp2 : Int → Int} (hl2 : IsLen (n + 1) (fadd n F ad t (F (q i) 0) r d) len2) (ht2 : IsTm (n + 1) (fadd n F ad t (F (q i) 0) r d) len2 st2 sl2 dp2) : ∃ (I3 : Nat → Int → Int) (R3 : Nat → Int → Option Nat), (CT (h.1, I3, R3) T (n + 1) (fadd n F ad t (F (q i) 0) r d) (ad + 1) dl ar (fun j => if j = n then n else q j) ∧ PLN (h.1, I3, R3) (n + 1) (fadd n F ad t (F (q i) 0) r d) len2 st2 sl2 dp2 ar (fun j => if j = n then n else q j) ∧ ∀ o, (o < T ∨ T + 51 ≤ o) → I3 o = h.2.1 o ∧ R3 o = h.2.2 o) ∧ Ev M_X5_addNode 0 [(0, zr (some T)), (1, zr (some (ar i))), (2, zi r), (3, zi t), (4, zi d)] [] h (0, 0) (.inl (some (zi ad)), (h.1, I3, R3)) := by
  have s := hC.sep hn
  have hC1 : CT (h.1, (zup (zup (zup (zup (zup (zup (zup (zup h.2.1 (ar n) 0 ad) (ar n) 1 t) (ar n) 2 (F (q i) 0)) (ar n) 3 r) (ar n) 4 d) (ar n) 5 0) T 2 ((n : Int) + 1)) T 3 (ad + 1)), h.2.2) T (n + 1) (fadd n F ad t (F (q i) 0) r d) (ad + 1) dl ar (fun j => if j = n then n else q j) := hC.add hn hi ht
  obtain ⟨I3, R3, hC3, hP3, hfr, k1⟩ := s_plan hC1 hw2 hB2 hl2 ht2
  refine ⟨I3, R3, ⟨hC3, hP3, fun o ho => ⟨(hfr o ho).1.trans (funext fun k => ?_), (hfr o ho).2⟩⟩, ?_⟩
  · have n1 : o ≠ T := by omega
    have n2 : o ≠ ar n := by omega
    show (zup (zup (zup (zup (zup (zup (zup (zup h.2.1 (ar n) 0 ad) (ar n) 1 t) (ar n) 2 (F (q i) 0)) (ar n) 3 r) (ar n) 4 d) (ar n) 5 0) T 2 ((n : Int) + 1)) T 3 (ad + 1)) o k = h.2.1 o k
    rw [zup_o _ _ _ _ n1, zup_o _ _ _ _ n1, zup_o _ _ _ _ n2, zup_o _ _ _ _ n2, zup_o _ _ _ _ n2, zup_o _ _ _ _ n2, zup_o _ _ _ _ n2, zup_o _ _ _ _ n2]
  have nT : T ≠ ar n := by omega
  have nI : ar i ≠ ar n := hC.arx (by omega) hn (by omega)
  have e0 : I3 (ar n) 0 = ad := by
    have := hC3.c0 (show n < n + 1 by omega)
    rw [show (if n = n then n else q n) = n from if_pos rfl, (fadd_n n F ad t (F (q i) 0) r d).1] at this
    exact this
  refine Ev.aload_n (pc := 0) (n := (0, 0)) (i := 0) dX5_addNode_0 rfl rfl ?_
  refine Ev.gI (pc := 1) (n := (0, 0)) (x := (n : Int)) dX5_addNode_1 fl_X5_20 hC.1.1.1 rfl hC.1.2.2.1 ?_
  refine Ev.bipush (pc := 4) (n := (0, 0)) dX5_addNode_4 ?_
  refine Ev.icmp_lt (pc := 6) (n := (0, 0)) (tgt := 11) dX5_addNode_6 rfl (fun hc => ?_) (fun hc => absurd hc (by omega))
  refine Ev.aload_n (pc := 11) (n := (0, 0)) (i := 0) dX5_addNode_11 rfl rfl ?_
  refine Ev.gR (pc := 12) (n := (0, 0)) (r := (some (T + 1))) dX5_addNode_12 fl_X5_11 hC.1.1.1 rfl hC.1.2.1.1 ?_
  refine Ev.aload_n (pc := 15) (n := (0, 0)) (i := 0) dX5_addNode_15 rfl rfl ?_
  refine Ev.gI (pc := 16) (n := (0, 0)) (x := (n : Int)) dX5_addNode_16 fl_X5_20 hC.1.1.1 rfl hC.1.2.2.1 ?_
  refine Ev.aa (pc := 19) (n := (0, 0)) (r := (some (ar n))) dX5_addNode_19 hC.1.1.2.1 (by decide) (by omega) (by omega) (hC.a24 hn) ?_
  refine Ev.astore (pc := 20) (n := (0, 0)) (i := 5) (L' := [(5, zr (some (ar n))), (0, zr (some T)), (1, zr (some (ar i))), (2, zi r), (3, zi t), (4, zi d)]) dX5_addNode_20 (Nat.le_of_ble_eq_true rfl) rfl ?_
  refine Ev.aload (pc := 22) (n := (0, 0)) dX5_addNode_22 rfl ?_
  refine Ev.aload_n (pc := 24) (n := (0, 0)) (i := 0) dX5_addNode_24 rfl rfl ?_
  refine Ev.gI (pc := 25) (n := (0, 0)) (x := ad) dX5_addNode_25 fl_X5_24 hC.1.1.1 rfl hC.1.2.2.2.1 ?_
  refine Ev.putI (pc := 28) (n := (0, 0)) dX5_addNode_28 fl_X5_35 (hC.nd24 hn).1 rfl rfl (fun h9 => by cases h9) ?_
  refine Ev.aload (pc := 31) (n := (0, 0)) dX5_addNode_31 rfl ?_
  refine Ev.iload_n (pc := 33) (n := (0, 0)) (i := 3) dX5_addNode_33 rfl rfl ?_
  refine Ev.putI (pc := 34) (n := (0, 0)) dX5_addNode_34 fl_X5_68 (hC.nd24 hn).1 rfl rfl (fun _ => ht) ?_
  refine Ev.aload (pc := 37) (n := (0, 0)) dX5_addNode_37 rfl ?_
  refine Ev.aload_n (pc := 39) (n := (0, 0)) (i := 1) dX5_addNode_39 rfl rfl ?_
  refine Ev.gI (pc := 40) (n := (0, 0)) (x := (F (q i) 0)) dX5_addNode_40 fl_X5_35 (hC.nd hi).1 rfl (show (zup (zup h.2.1 (ar n) 0 ad) (ar n) 1 t) (ar i) 0 = F (q i) 0 from by rw [zup_o _ _ _ _ nI, zup_o _ _ _ _ nI]; exact hC.c0 hi) ?_
  refine Ev.putI (pc := 43) (n := (0, 0)) dX5_addNode_43 fl_X5_47 (hC.nd24 hn).1 rfl rfl (fun h9 => by cases h9) ?_
  refine Ev.aload (pc := 46) (n := (0, 0)) dX5_addNode_46 rfl ?_
  refine Ev.iload_n (pc := 48) (n := (0, 0)) (i := 2) dX5_addNode_48 rfl rfl ?_
  refine Ev.putI (pc := 49) (n := (0, 0)) dX5_addNode_49 fl_X5_61 (hC.nd24 hn).1 rfl rfl (fun h9 => by cases h9) ?_
  refine Ev.aload (pc := 52) (n := (0, 0)) dX5_addNode_52 rfl ?_
  refine Ev.iload (pc := 54) (n := (0, 0)) dX5_addNode_54 rfl ?_
  refine Ev.putI (pc := 56) (n := (0, 0)) dX5_addNode_56 fl_X5_72 (hC.nd24 hn).1 rfl rfl (fun h9 => by cases h9) ?_
  refine Ev.aload (pc := 59) (n := (0, 0)) dX5_addNode_59 rfl ?_
  refine Ev.iconst (pc := 61) (n := (0, 0)) dX5_addNode_61 ?_
  refine Ev.putI (pc := 62) (n := (0, 0)) dX5_addNode_62 fl_X5_75 (hC.nd24 hn).1 rfl rfl (fun h9 => by cases h9) ?_
  refine Ev.aload_n (pc := 65) (n := (0, 0)) (i := 0) dX5_addNode_65 rfl rfl ?_
  refine Ev.dup (pc := 66) (n := (0, 0)) dX5_addNode_66 rfl ?_
  refine Ev.gI (pc := 67) (n := (0, 0)) (x := (n : Int)) dX5_addNode_67 fl_X5_20 hC.1.1.1 rfl (show (zup (zup (zup (zup (zup (zup h.2.1 (ar n) 0 ad) (ar n) 1 t) (ar n) 2 (F (q i) 0)) (ar n) 3 r) (ar n) 4 d) (ar n) 5 0) T 2 = n from by rw [zup_o _ _ _ _ nT, zup_o _ _ _ _ nT, zup_o _ _ _ _ nT, zup_o _ _ _ _ nT, zup_o _ _ _ _ nT, zup_o _ _ _ _ nT]; exact hC.tri.1) ?_
  refine Ev.iconst (pc := 70) (n := (0, 0)) dX5_addNode_70 ?_
  refine Ev.iadd (pc := 71) (n := (0, 0)) dX5_addNode_71 ⟨by omega, by omega⟩ ?_
  refine Ev.putI (pc := 72) (n := (0, 0)) dX5_addNode_72 fl_X5_20 hC.1.1.1 rfl rfl (fun h9 => by cases h9) ?_
  refine Ev.aload_n (pc := 75) (n := (0, 0)) (i := 0) dX5_addNode_75 rfl rfl ?_
  refine Ev.dup (pc := 76) (n := (0, 0)) dX5_addNode_76 rfl ?_
  refine Ev.gI (pc := 77) (n := (0, 0)) (x := ad) dX5_addNode_77 fl_X5_24 hC.1.1.1 rfl (show (zup (zup (zup (zup (zup (zup (zup h.2.1 (ar n) 0 ad) (ar n) 1 t) (ar n) 2 (F (q i) 0)) (ar n) 3 r) (ar n) 4 d) (ar n) 5 0) T 2 ((n : Int) + 1)) T 3 = ad from by rw [zup_k _ _ _ _ (by decide), zup_o _ _ _ _ nT, zup_o _ _ _ _ nT, zup_o _ _ _ _ nT, zup_o _ _ _ _ nT, zup_o _ _ _ _ nT, zup_o _ _ _ _ nT]; exact hC.tri.2.1) ?_
  refine Ev.iconst (pc := 80) (n := (0, 0)) dX5_addNode_80 ?_
  refine Ev.iadd (pc := 81) (n := (0, 0)) dX5_addNode_81 ⟨by omega, by omega⟩ ?_
  refine Ev.putI (pc := 82) (n := (0, 0)) dX5_addNode_82 fl_X5_24 hC.1.1.1 rfl rfl (fun h9 => by cases h9) ?_
  refine Ev.aload_n (pc := 85) (n := (0, 0)) (i := 0) dX5_addNode_85 rfl rfl ?_
  refine Ev.callV (pc := 86) (n := (0, 0)) (ob := T) (as := []) (st := []) (k1) dX5_addNode_86 ok_X5_plan (lk_X5_184 rfl) ⟨(Nat.le_of_ble_eq_true rfl), (Nat.le_of_ble_eq_true rfl)⟩ hC.1.1.1 ⟨by decide, rfl⟩ rfl (Nat.le_of_ble_eq_true rfl) (Nat.le_of_ble_eq_true rfl) ⟨(Nat.le_of_ble_eq_true rfl), (Nat.le_of_ble_eq_true rfl)⟩ ?_
  refine Ev.aload (pc := 89) (n := (0, 0)) dX5_addNode_89 rfl ?_
  refine Ev.gI (pc := 91) (n := (0, 0)) (x := ad) dX5_addNode_91 fl_X5_35 (hC3.nd24 hn).1 rfl e0 ?_
  exact Ev.iret dX5_addNode_94 rfl ⟨(Nat.le_of_ble_eq_true rfl), (Nat.le_of_ble_eq_true rfl)⟩
