/-! ===== the class: a node moved ===== -/
def sh1 (i j : Nat) : Nat := if j < i then j else j + 1
def pmv (i n j : Nat) : Nat := if j + 1 < n then sh1 i j else if j + 1 = n then i else j
theorem sh1_ne (i j : Nat) : sh1 i j ≠ i := by unfold sh1; split <;> omega
theorem sh1_lt {i j n : Nat} (h : j + 1 < n) : sh1 i j < n := by unfold sh1; split <;> omega
theorem pmv_lt {i n m j : Nat} (hi : i < n) (hn : n ≤ m) (hj : j < m) : pmv i n j < m := by unfold pmv sh1; split <;> (try split) <;> omega
theorem pmv_lt2 {i n j : Nat} (hi : i < n) (hj : j < n) : pmv i n j < n := by unfold pmv sh1; split <;> (try split) <;> omega
theorem pmv_in {i n a b : Nat} (hi : i < n) (e : pmv i n a = pmv i n b) : a = b := by
  unfold pmv sh1 at e
  repeat' split at e
  all_goals omega
theorem zsq_sh (q : Nat → Nat) (S : Int → Int) (i : Nat) : ∀ j, zsq (fun l => q (sh1 i l)) S j = zsq q S (sh1 i j) - (if i < sh1 i j then S (q i) else 0) := by
  intro j
  induction j with
  | zero =>
    unfold sh1
    by_cases c : 0 < i
    · rw [if_pos c, if_neg (by omega)]; rfl
    · have e : i = 0 := by omega
      subst e
      rw [if_neg c, if_pos (by omega)]
      show 0 = (0 + S (q 0)) - S (q 0)
      omega
  | succ j ih =>
    rw [zsq_s, ih]
    have e1 : ∀ m, zsq q S (m + 1) = zsq q S m + S (q m) := fun m => rfl
    by_cases c1 : j + 1 < i
    · have h1 : sh1 i j = j := if_pos (by omega)
      have h2 : sh1 i (j + 1) = j + 1 := if_pos c1
      rw [h1, h2, if_neg (by omega), if_neg (by omega), e1]
      omega
    · by_cases c2 : j + 1 = i
      · have h1 : sh1 i j = j := if_pos (by omega)
        have h2 : sh1 i (j + 1) = i + 1 := (if_neg c1).trans (by omega)
        have e2 := e1 i
        have e3 := e1 j
        rw [c2] at e3
        rw [h1, h2, if_neg (by omega), if_pos (by omega), e2, e3]
        omega
      · have h1 : sh1 i j = j + 1 := if_neg (by omega)
        have h2 : sh1 i (j + 1) = j + 1 + 1 := if_neg c1
        have e2 := e1 (j + 1)
        rw [h1, h2, if_pos (by omega), if_pos (by omega), e2]
        omega
/-- the place that is left, and what stood behind it -/
theorem flv_val {n : Nat} {F : zF} {q : Nat → Nat} (hO : Ordd n F q) (hq : Pm n q) {i p : Nat} (hi1 : 1 ≤ i) (hi : i < n) (hp1 : 1 ≤ p) (hp : p < n) (hne : p ≠ i) : flv F (q i) n (q p) 4 = F (q p) 4 - (if i < p then sameRow F (q p) (q i) else 0) := by
  show (if (4 : Int) = 4 ∧ ((q p : Nat) : Int) < n ∧ (F (q p) 2 = F (q i) 2 ∧ F (q p) 3 = F (q i) 3) ∧ F (q i) 4 < F (q p) 4 then F (q p) 4 - 1 else F (q p) 4) = _
  have hql := hq.1 p hp
  by_cases c : F (q p) 2 = F (q i) 2 ∧ F (q p) 3 = F (q i) 3
  · have e1 : sameRow F (q p) (q i) = 1 := if_pos ⟨c.1.symm, c.2.symm⟩
    rw [e1]
    by_cases c2 : i < p
    · have := hO.lt hi1 c2 hp c.1.symm c.2.symm
      rw [if_pos ⟨rfl, by omega, c, this⟩, if_pos c2]
    · have := hO.lt hp1 (show p < i by omega) hi c.1 c.2
      rw [if_neg (fun g => by omega), if_neg c2]
      omega
  · have e1 : sameRow F (q p) (q i) = 0 := if_neg (fun g => c ⟨g.1.symm, g.2.symm⟩)
    rw [e1, if_neg (fun g => c g.2.2.1)]
    split <;> omega
theorem CT.mov {h : zH} {T n : Nat} {F : zF} {ad dl : Int} {ar q : Nat → Nat} (hC : CT h T n F ad dl ar q) {i : Nat} (hi1 : 1 ≤ i) (hi : i < n) {g r : Int} (hg : 0 ≤ g) {R' : Nat → Int → Option Nat} (hR : ∀ o, o ≠ T + 1 → R' o = h.2.2 o) (hA : ∀ j : Nat, j < 24 → R' (T + 1) j = some (ar (pmv i n j))) : CT (h.1, (zup (zup h.2.1 (ar i) 2 g) (ar i) 3 r), R') T n (fmove n F (q i) g r) ad dl (fun j => ar (pmv i n j)) (fun j => q (pmv i n j)) := by
  have hn := hC.n24
  have s := hC.sep (show i < 24 by omega)
  have hqm : Pm n q := hC.2.2.1.2
  have hO : Ordd n F q := hC.2.2.2.2.2
  have hk := fmove_k n F (q i) g r
  have eO : ∀ o, o ≠ ar i → (zup (zup h.2.1 (ar i) 2 g) (ar i) 3 r) o = h.2.1 o := fun o ho => by
    funext k
    rw [zup_o _ _ _ _ ho, zup_o _ _ _ _ ho]
  have eK : ∀ k : Int, k ≠ 2 → k ≠ 3 → (zup (zup h.2.1 (ar i) 2 g) (ar i) 3 r) (ar i) k = h.2.1 (ar i) k := fun k h2 h3 => by rw [zup_k _ _ _ _ h3, zup_k _ _ _ _ h2]
  have p0 : pmv i n 0 = 0 := by unfold pmv sh1; rw [if_pos (by omega), if_pos (by omega)]
  have eo : ∀ x : Nat, x ≠ q i → ∀ w : Int, w ≠ 4 → (fmove n F (q i) g r) x w = F x w := fun x hx w hw => by rw [fmove_o (by omega), flv_ne _ _ _ _ hw]
  refine hC.set ⟨?_, ?_, ?_⟩ ⟨congrFun (hR T (by omega)) 0, congrFun (hR T (by omega)) 1⟩ hA (fun j hj => ⟨pmv i n j, pmv_lt hi hn hj, rfl⟩) (fun a b ha hb e => ?_) (congrArg ar p0) (fun j hj => congrFun (hR _ (by have := hC.sep hj; omega)) 14) (fun j hj => ?_) hC.2.2.1.1 ⟨fun j hj => hqm.1 _ (pmv_lt2 hi hj), fun a b ha hb e => pmv_in hi (hqm.2.1 _ _ (pmv_lt2 hi ha) (pmv_lt2 hi hb) e), (congrArg q p0).trans hqm.2.2⟩ (fun j hj => ?_) (congrFun (hR _ (by have := hC.sep (show 0 < 24 by omega); omega)) 6) (fun k h1 h2 h3 => congrFun (eO _ (hC.arx (by omega) (by omega) (by omega))) k) (fun j h1 hj => ?_)
  · rw [eO T (by omega)]; exact hC.tri.1
  · rw [eO T (by omega)]; exact hC.tri.2.1
  · rw [eO T (by omega)]; exact hC.tri.2.2
  · by_cases c : a = b
    · exact c
    · exact absurd e (hC.arx (pmv_lt hi hn ha) (pmv_lt hi hn hb) (fun g => c (pmv_in hi g)))
  · by_cases e : j = i
    · subst e
      rw [eK 1 (by decide) (by decide)]; exact hC.tk hj
    · rw [eO _ (hC.arx hj (by omega) e)]; exact hC.tk hj
  · by_cases e : pmv i n j = i
    · show Cn _ (ar (pmv i n j)) _ (q (pmv i n j))
      rw [e]
      refine ⟨?_, ?_, ?_, ?_, ?_, ?_⟩
      · rw [hk.2.2.2 0 (by decide) (by decide) (by decide)]; exact (eK 0 (by decide) (by decide)).trans (hC.c0 hi)
      · rw [hk.2.2.2 1 (by decide) (by decide) (by decide)]; exact (eK 1 (by decide) (by decide)).trans (hC.c1 hi)
      · rw [hk.1]
        show (zup (zup h.2.1 (ar i) 2 g) (ar i) 3 r) (ar i) 2 = g
        rw [zup_k _ _ _ _ (by decide), zup_s]
      · rw [hk.2.1]
        exact zup_s _ _ _ _
      · rw [hk.2.2.2 5 (by decide) (by decide) (by decide)]; exact (eK 4 (by decide) (by decide)).trans (hC.c4 hi)
      · rw [hk.2.2.2 6 (by decide) (by decide) (by decide)]; exact (eK 5 (by decide) (by decide)).trans (hC.c5 hi)
    · have hpl := pmv_lt2 hi hj
      have hx : q (pmv i n j) ≠ q i := fun g => e (hC.qin hpl hi g)
      have ex := eo (q (pmv i n j)) hx
      show Cn _ (ar (pmv i n j)) _ (q (pmv i n j))
      unfold Cn
      rw [ex 0 (by decide), ex 1 (by decide), ex 2 (by decide), ex 3 (by decide), ex 5 (by decide), ex 6 (by decide)]
      show (zup (zup h.2.1 (ar i) 2 g) (ar i) 3 r) (ar (pmv i n j)) 0 = _ ∧ (zup (zup h.2.1 (ar i) 2 g) (ar i) 3 r) (ar (pmv i n j)) 1 = _ ∧ (zup (zup h.2.1 (ar i) 2 g) (ar i) 3 r) (ar (pmv i n j)) 2 = _ ∧ (zup (zup h.2.1 (ar i) 2 g) (ar i) 3 r) (ar (pmv i n j)) 3 = _ ∧ (zup (zup h.2.1 (ar i) 2 g) (ar i) 3 r) (ar (pmv i n j)) 4 = _ ∧ (zup (zup h.2.1 (ar i) 2 g) (ar i) 3 r) (ar (pmv i n j)) 5 = _
      rw [eO _ (hC.arx (by omega) (by omega) e)]
      exact ⟨hC.c0 hpl, hC.c1 hpl, hC.c2 hpl, hC.c3 hpl, hC.c4 hpl, hC.c5 hpl⟩
  · have hpre : ∀ l, l < j → pmv i n l = sh1 i l := fun l hl => if_pos (by omega)
    by_cases c : j + 1 < n
    · have ej : pmv i n j = sh1 i j := if_pos c
      have hpl : sh1 i j < n := sh1_lt c
      have hp1 : 1 ≤ sh1 i j := by unfold sh1; split <;> omega
      have hne := sh1_ne i j
      have hx : q (sh1 i j) ≠ q i := fun g => hne (hC.qin hpl hi g)
      rw [ej, fmove_o (show ((q (sh1 i j) : Nat) : Int) ≠ (q i : Nat) by omega), flv_val hO hqm hi1 hi hp1 hpl hne, hO _ hp1 hpl]
      have e1 : zsq (fun j => q (pmv i n j)) (sameRow (fmove n F (q i) g r) (q (sh1 i j))) j = zsq (fun l => q (sh1 i l)) (sameRow F (q (sh1 i j))) j := zsum_congr fun l hl => by
        show sameRow _ _ (q (pmv i n l)) = sameRow _ _ (q (sh1 i l))
        rw [hpre l hl]
        have hy : q (sh1 i l) ≠ q i := fun g => sh1_ne i l (hC.qin (sh1_lt (by omega)) hi g)
        unfold sameRow
        rw [eo _ hy 2 (by decide), eo _ hy 3 (by decide), eo _ hx 2 (by decide), eo _ hx 3 (by decide)]
      rw [e1, zsq_sh]
    · have ej : pmv i n j = i := (if_neg c).trans (if_pos (by omega))
      rw [ej, hk.2.2.1]
      have e1 : zsq (fun j => q (pmv i n j)) (sameRow (fmove n F (q i) g r) (q i)) j = zsq (fun l => q (sh1 i l)) (fun x => if fleave n F (q i) x 2 = g ∧ fleave n F (q i) x 3 = r then 1 else 0) j := zsum_congr fun l hl => by
        show sameRow _ _ (q (pmv i n l)) = (if fleave n F (q i) (q (sh1 i l)) 2 = g ∧ fleave n F (q i) (q (sh1 i l)) 3 = r then 1 else 0)
        rw [hpre l hl]
        have hy : q (sh1 i l) ≠ q i := fun g => sh1_ne i l (hC.qin (sh1_lt (by omega)) hi g)
        have hy2 : ((q (sh1 i l) : Nat) : Int) ≠ (q i : Nat) := by omega
        unfold sameRow
        rw [eo _ hy 2 (by decide), eo _ hy 3 (by decide), hk.1, hk.2.1, fleave_2 _ _ _ hy2, fleave_3 _ _ _ hy2 3 (by decide)]
      have e2 : (if fleave n F (q i) (q i) 2 = g ∧ fleave n F (q i) (q i) 3 = r then (1 : Int) else 0) = 0 := if_neg fun w => by
        have : fleave n F (q i) (q i) 2 = -1 := if_pos ⟨rfl, rfl⟩
        omega
      have e3 : sh1 i j = n := by unfold sh1; rw [if_neg (by omega)]; omega
      have es := hC.sum (fun x => if fleave n F (q i) x 2 = g ∧ fleave n F (q i) x 3 = r then 1 else 0)
      rw [e1, zsq_sh, e3, if_pos hi]
      show mcc n (fleave n F (q i)) g r = _ - (if fleave n F (q i) (q i) 2 = g ∧ fleave n F (q i) (q i) 3 = r then (1 : Int) else 0)
      rw [e2, es]
      show mcc n (fleave n F (q i)) g r = mcc n (fleave n F (q i)) g r - 0
      omega
theorem s_putLast_loop {h : zH} {T n : Nat} {F : zF} {ad dl : Int} {ar q : Nat → Nat} (hC : CT h T n F ad dl ar q) {i : Nat} (hi : i < n) {g r : Int} {Q : (Nat → Int → Int) → (Nat → Int → Option Nat) → Prop} {v : Int} (K : ∀ R2, ((∀ o, o ≠ T + 1 → R2 o = h.2.2 o) ∧ (∀ j : Nat, j < (if n ≤ i then n else n - 1) → R2 (T + 1) j = some (ar (sh1 i j))) ∧ ∀ j : Nat, n ≤ j → R2 (T + 1) j = h.2.2 (T + 1) j) → ∃ (I3 : Nat → Int → Int) (R3 : Nat → Int → Option Nat), Q I3 R3 ∧ Ev M_X5_putLast 48 [(0, zr (some T)), (1, zr (some (ar i))), (2, zi g), (3, zi r)] [] (h.1, h.2.1, R2) (0, 0) (.inl (some (zi v)), (h.1, I3, R3))) : ∀ (j m : Nat) (R' : Nat → Int → Option Nat), m ≤ n → n - m = j → ((∀ o, o ≠ T + 1 → R' o = h.2.2 o) ∧ (∀ j : Nat, j < (if m ≤ i then m else m - 1) → R' (T + 1) j = some (ar (sh1 i j))) ∧ ∀ j : Nat, m ≤ j → R' (T + 1) j = h.2.2 (T + 1) j) → ∃ (I3 : Nat → Int → Int) (R3 : Nat → Int → Option Nat), Q I3 R3 ∧ Ev M_X5_putLast 6 [(0, zr (some T)), (1, zr (some (ar i))), (2, zi g), (3, zi r), (4, zi ((if m ≤ i then m else m - 1 : Nat) : Int)), (5, zi (m : Int))] [] (h.1, h.2.1, R') (0, 0) (.inl (some (zi v)), (h.1, I3, R3)) := by
  intro j
  have hn := hC.n24
  induction j with
  | zero =>
    intro m R' hm hj hI
    have e : m = n := by omega
    subst e
    obtain ⟨I3, R3, h3, h4⟩ := K R' hI
    refine ⟨I3, R3, h3, ?_⟩
    obtain ⟨hR, -, -⟩ := hI
    refine Ev.iload (pc := 6) (n := (0, 0)) dX5_putLast_6 rfl ?_
    refine Ev.aload_n (pc := 8) (n := (0, 0)) (i := 0) dX5_putLast_8 rfl rfl ?_
    refine Ev.gI (pc := 9) (n := (0, 0)) (x := (m : Int)) dX5_putLast_9 fl_X5_20 hC.1.1.1 rfl hC.1.2.2.1 ?_
    refine Ev.icmp_ge (pc := 12) (n := (0, 0)) (tgt := 48) dX5_putLast_12 rfl (fun hc => ?_) (fun hc => absurd hc (by omega))
    refine Ev.perm [0, 1, 2, 3] rfl ?_
    exact h4
  | succ j ih =>
    intro m R' hm hj hI
    have hmn : m < n := by omega
    obtain ⟨hR, r1, r2⟩ := hI
    have eM : R' (T + 1) (m : Int) = some (ar m) := (r2 m (Nat.le_refl _)).trans (hC.a24 (by omega))
    by_cases e : m = i
    · have t1 : (if m + 1 ≤ i then m + 1 else m + 1 - 1) = (if m ≤ i then m else m - 1) := by
        rw [if_neg (by omega), if_pos (by omega)]; omega
      obtain ⟨I3, R3, h3, h4⟩ := ih (m + 1) R' (by omega) (by omega) ⟨hR, fun j hj => r1 j (by rw [t1] at hj; exact hj), fun j hj => r2 j (by omega)⟩
      refine ⟨I3, R3, h3, ?_⟩
      rw [t1] at h4
      refine Ev.iload (pc := 6) (n := (0, 0)) dX5_putLast_6 rfl ?_
      refine Ev.aload_n (pc := 8) (n := (0, 0)) (i := 0) dX5_putLast_8 rfl rfl ?_
      refine Ev.gI (pc := 9) (n := (0, 0)) (x := (n : Int)) dX5_putLast_9 fl_X5_20 hC.1.1.1 rfl hC.1.2.2.1 ?_
      refine Ev.icmp_ge (pc := 12) (n := (0, 0)) (tgt := 48) dX5_putLast_12 rfl (fun hc => absurd hc (by omega)) (fun hc => ?_)
      refine Ev.aload_n (pc := 15) (n := (0, 0)) (i := 0) dX5_putLast_15 rfl rfl ?_
      refine Ev.gR (pc := 16) (n := (0, 0)) (r := (some (T + 1))) dX5_putLast_16 fl_X5_11 hC.1.1.1 rfl (show R' T 0 = some (T + 1) from (congrFun (hR T (by omega)) 0).trans hC.1.2.1.1) ?_
      refine Ev.iload (pc := 19) (n := (0, 0)) dX5_putLast_19 rfl ?_
      refine Ev.aa (pc := 21) (n := (0, 0)) (r := (some (ar m))) dX5_putLast_21 hC.1.1.2.1 (by decide) (by omega) (by omega) eM ?_
      refine Ev.astore (pc := 22) (n := (0, 0)) (i := 6) (L' := [(6, zr (some (ar m))), (0, zr (some T)), (1, zr (some (ar i))), (2, zi g), (3, zi r), (4, zi ((if m ≤ i then m else m - 1 : Nat) : Int)), (5, zi (m : Int))]) dX5_putLast_22 (Nat.le_of_ble_eq_true rfl) rfl ?_
      refine Ev.aload (pc := 24) (n := (0, 0)) dX5_putLast_24 rfl ?_
      refine Ev.aload_n (pc := 26) (n := (0, 0)) (i := 1) dX5_putLast_26 rfl rfl ?_
      refine Ev.acmp_eq (pc := 27) (n := (0, 0)) (tgt := 42) dX5_putLast_27 rfl (zcmN (h := (h.1, h.2.1, R')) (by refine ⟨(hC.nd hmn).1, (hC.nd hmn).2.1, ?_⟩; exact (congrFun (hR _ (by have := hC.sep (show m < 24 by omega); omega)) 14).trans (hC.nd hmn).2.2) (by refine ⟨(hC.nd hi).1, (hC.nd hi).2.1, ?_⟩; exact (congrFun (hR _ (by have := hC.sep (show i < 24 by omega); omega)) 14).trans (hC.nd hi).2.2)) (fun hc => ?_) (fun hc => absurd (congrArg some (congrArg ar e)) hc)
      refine Ev.iinc (pc := 42) (n := (0, 0)) (L' := [(5, zi ((m : Int) + 1)), (6, zr (some (ar m))), (0, zr (some T)), (1, zr (some (ar i))), (2, zi g), (3, zi r), (4, zi ((if m ≤ i then m else m - 1 : Nat) : Int))]) dX5_putLast_42 rfl (Nat.le_of_ble_eq_true rfl) ⟨by omega, by omega⟩ rfl ?_
      refine Ev.goto (pc := 45) (n := (0, 0)) (tgt := 6) dX5_putLast_45 rfl ?_
      refine Ev.perm [2, 3, 4, 5, 6, 0] rfl ?_
      exact h4
    · have hto : (if m ≤ i then m else m - 1) < 24 := by split <;> omega
      have t1 : (if m + 1 ≤ i then m + 1 else m + 1 - 1) = (if m ≤ i then m else m - 1) + 1 := by split <;> split <;> omega
      have t2 : sh1 i (if m ≤ i then m else m - 1) = m := by unfold sh1; split <;> split <;> omega
      have t3 : (if m ≤ i then m else m - 1) ≤ m := by split <;> omega
      obtain ⟨I3, R3, h3, h4⟩ := ih (m + 1) (zup R' (T + 1) (((if m ≤ i then m else m - 1) : Nat) : Int) (some (ar m))) (by omega) (by omega) ⟨fun o ho => (funext fun k => zup_o _ _ _ _ ho).trans (hR o ho), fun j hj => by
        rw [t1] at hj
        by_cases c : j = (if m ≤ i then m else m - 1)
        · subst c
          rw [zup_s, t2]
        · rw [zup_k _ _ _ _ (by omega)]
          exact r1 j (by omega), fun j hj => by
        rw [zup_k _ _ _ _ (by omega)]
        exact r2 j (by omega)⟩
      refine ⟨I3, R3, h3, ?_⟩
      rw [t1] at h4
      refine Ev.iload (pc := 6) (n := (0, 0)) dX5_putLast_6 rfl ?_
      refine Ev.aload_n (pc := 8) (n := (0, 0)) (i := 0) dX5_putLast_8 rfl rfl ?_
      refine Ev.gI (pc := 9) (n := (0, 0)) (x := (n : Int)) dX5_putLast_9 fl_X5_20 hC.1.1.1 rfl hC.1.2.2.1 ?_
      refine Ev.icmp_ge (pc := 12) (n := (0, 0)) (tgt := 48) dX5_putLast_12 rfl (fun hc => absurd hc (by omega)) (fun hc => ?_)
      refine Ev.aload_n (pc := 15) (n := (0, 0)) (i := 0) dX5_putLast_15 rfl rfl ?_
      refine Ev.gR (pc := 16) (n := (0, 0)) (r := (some (T + 1))) dX5_putLast_16 fl_X5_11 hC.1.1.1 rfl (show R' T 0 = some (T + 1) from (congrFun (hR T (by omega)) 0).trans hC.1.2.1.1) ?_
      refine Ev.iload (pc := 19) (n := (0, 0)) dX5_putLast_19 rfl ?_
      refine Ev.aa (pc := 21) (n := (0, 0)) (r := (some (ar m))) dX5_putLast_21 hC.1.1.2.1 (by decide) (by omega) (by omega) eM ?_
      refine Ev.astore (pc := 22) (n := (0, 0)) (i := 6) (L' := [(6, zr (some (ar m))), (0, zr (some T)), (1, zr (some (ar i))), (2, zi g), (3, zi r), (4, zi ((if m ≤ i then m else m - 1 : Nat) : Int)), (5, zi (m : Int))]) dX5_putLast_22 (Nat.le_of_ble_eq_true rfl) rfl ?_
      refine Ev.aload (pc := 24) (n := (0, 0)) dX5_putLast_24 rfl ?_
      refine Ev.aload_n (pc := 26) (n := (0, 0)) (i := 1) dX5_putLast_26 rfl rfl ?_
      refine Ev.acmp_eq (pc := 27) (n := (0, 0)) (tgt := 42) dX5_putLast_27 rfl (zcmN (h := (h.1, h.2.1, R')) (by refine ⟨(hC.nd hmn).1, (hC.nd hmn).2.1, ?_⟩; exact (congrFun (hR _ (by have := hC.sep (show m < 24 by omega); omega)) 14).trans (hC.nd hmn).2.2) (by refine ⟨(hC.nd hi).1, (hC.nd hi).2.1, ?_⟩; exact (congrFun (hR _ (by have := hC.sep (show i < 24 by omega); omega)) 14).trans (hC.nd hi).2.2)) (fun hc => absurd (hC.arin hmn hi (Option.some.inj hc)) e) (fun hc => ?_)
      refine Ev.aload_n (pc := 30) (n := (0, 0)) (i := 0) dX5_putLast_30 rfl rfl ?_
      refine Ev.gR (pc := 31) (n := (0, 0)) (r := (some (T + 1))) dX5_putLast_31 fl_X5_11 hC.1.1.1 rfl (show R' T 0 = some (T + 1) from (congrFun (hR T (by omega)) 0).trans hC.1.2.1.1) ?_
      refine Ev.iload (pc := 34) (n := (0, 0)) dX5_putLast_34 rfl ?_
      refine Ev.aload (pc := 36) (n := (0, 0)) dX5_putLast_36 rfl ?_
      refine Ev.aast (pc := 38) (n := (0, 0)) dX5_putLast_38 hC.1.1.2.1 (by decide) (hC.nd hmn).1 (by omega) (by omega) ?_
      refine Ev.iinc (pc := 39) (n := (0, 0)) (L' := [(4, zi (((if m ≤ i then m else m - 1 : Nat) : Int) + 1)), (6, zr (some (ar m))), (0, zr (some T)), (1, zr (some (ar i))), (2, zi g), (3, zi r), (5, zi (m : Int))]) dX5_putLast_39 rfl (Nat.le_of_ble_eq_true rfl) ⟨by omega, by omega⟩ rfl ?_
      refine Ev.iinc (pc := 42) (n := (0, 0)) (L' := [(5, zi ((m : Int) + 1)), (4, zi (((if m ≤ i then m else m - 1 : Nat) : Int) + 1)), (6, zr (some (ar m))), (0, zr (some T)), (1, zr (some (ar i))), (2, zi g), (3, zi r)]) dX5_putLast_42 rfl (Nat.le_of_ble_eq_true rfl) ⟨by omega, by omega⟩ rfl ?_
      refine Ev.goto (pc := 45) (n := (0, 0)) (tgt := 6) dX5_putLast_45 rfl ?_
      refine Ev.perm [3, 4, 5, 6, 1, 0] rfl ?_
      exact h4
theorem s_putLast {h : zH} {T n : Nat} {F : zF} {ad dl : Int} {ar q : Nat → Nat} (hC : CT h T n F ad dl ar q) {i : Nat} (hi1 : 1 ≤ i) (hi : i < n) {g r : Int} (hg : 0 ≤ g) {dep2 : Nat → Nat} {B2 : Int} (hw2 : WF n (fmove n F (q i) g r) dep2 B2) (hB2 : 24 * (60 + B2) ≤ 1000000000) {len2 st2 sl2 dp2 : Int → Int} (hl2 : IsLen n (fmove n F (q i) g r) len2) (ht2 : IsTm n (fmove n F (q i) g r) len2 st2 sl2 dp2) : ∃ (I3 : Nat → Int → Int) (R3 : Nat → Int → Option Nat), (CT (h.1, I3, R3) T n (fmove n F (q i) g r) ad dl (fun j => ar (pmv i n j)) (fun j => q (pmv i n j)) ∧ PLN (h.1, I3, R3) n (fmove n F (q i) g r) len2 st2 sl2 dp2 (fun j => ar (pmv i n j)) (fun j => q (pmv i n j)) ∧ ∀ o, (o < T ∨ T + 51 ≤ o) → I3 o = h.2.1 o ∧ R3 o = h.2.2 o) ∧ Ev M_X5_putLast 0 [(0, zr (some T)), (1, zr (some (ar i))), (2, zi g), (3, zi r)] [] h (0, 0) (.inl (some (zi (mcc n (fleave n F (q i)) g r))), (h.1, I3, R3)) := by
  have hn := hC.n24
  have s := hC.sep (show i < 24 by omega)
  obtain ⟨I3, R3, h3, h4⟩ := s_putLast_loop hC hi (g := g) (r := r) (v := mcc n (fleave n F (q i)) g r) (Q := fun I3 R3 => (CT (h.1, I3, R3) T n (fmove n F (q i) g r) ad dl (fun j => ar (pmv i n j)) (fun j => q (pmv i n j)) ∧ PLN (h.1, I3, R3) n (fmove n F (q i) g r) len2 st2 sl2 dp2 (fun j => ar (pmv i n j)) (fun j => q (pmv i n j)) ∧ ∀ o, (o < T ∨ T + 51 ≤ o) → I3 o = h.2.1 o ∧ R3 o = h.2.2 o)) (fun R2 hI => by
    obtain ⟨hR, r1, r2⟩ := hI
    rw [if_neg (by omega)] at r1
    have hC1 : CT (h.1, (zup (zup h.2.1 (ar i) 2 g) (ar i) 3 r), (zup R2 (T + 1) ((n : Int) - 1) (some (ar i)))) T n (fmove n F (q i) g r) ad dl (fun j => ar (pmv i n j)) (fun j => q (pmv i n j)) := hC.mov hi1 hi hg (fun o ho => (funext fun k => zup_o _ _ _ _ ho).trans (hR o ho)) (fun j hj => by
      unfold pmv
      by_cases c : j + 1 < n
      · rw [if_pos c, zup_k _ _ _ _ (by omega)]
        exact r1 j (by omega)
      · by_cases c2 : j + 1 = n
        · rw [if_neg c, if_pos c2, show (j : Int) = (n : Int) - 1 by omega, zup_s]
        · rw [if_neg c, if_neg c2, zup_k _ _ _ _ (by omega), r2 j (by omega)]
          exact hC.a24 hj)
    obtain ⟨I3, R3, hC3, hP3, hfr, k1⟩ := s_plan hC1 hw2 hB2 hl2 ht2
    refine ⟨I3, R3, ⟨hC3, hP3, fun o ho => ⟨(hfr o ho).1.trans (funext fun k => ?_), (hfr o ho).2.trans ((funext fun k => zup_o _ _ _ _ (by omega)).trans (hR o (by omega)))⟩⟩, ?_⟩
    · have n2 : o ≠ ar i := by omega
      show (zup (zup h.2.1 (ar i) 2 g) (ar i) 3 r) o k = h.2.1 o k
      rw [zup_o _ _ _ _ n2, zup_o _ _ _ _ n2]
    have ep : pmv i n (n - 1) = i := (if_neg (by omega)).trans (if_pos (by omega))
    have e8 : I3 (ar i) 8 = mcc n (fleave n F (q i)) g r := by
      have := hP3.p0 (show n - 1 < n by omega)
      rw [ep, (fmove_k n F (q i) g r).2.2.1] at this
      exact this
    refine Ev.aload_n (pc := 48) (n := (0, 0)) (i := 0) dX5_putLast_48 rfl rfl ?_
    refine Ev.gR (pc := 49) (n := (0, 0)) (r := (some (T + 1))) dX5_putLast_49 fl_X5_11 hC.1.1.1 rfl (show R2 T 0 = some (T + 1) from (congrFun (hR T (by omega)) 0).trans hC.1.2.1.1) ?_
    refine Ev.aload_n (pc := 52) (n := (0, 0)) (i := 0) dX5_putLast_52 rfl rfl ?_
    refine Ev.gI (pc := 53) (n := (0, 0)) (x := (n : Int)) dX5_putLast_53 fl_X5_20 hC.1.1.1 rfl hC.1.2.2.1 ?_
    refine Ev.iconst (pc := 56) (n := (0, 0)) dX5_putLast_56 ?_
    refine Ev.isub (pc := 57) (n := (0, 0)) dX5_putLast_57 ⟨by omega, by omega⟩ ?_
    refine Ev.aload_n (pc := 58) (n := (0, 0)) (i := 1) dX5_putLast_58 rfl rfl ?_
    refine Ev.aast (pc := 59) (n := (0, 0)) dX5_putLast_59 hC.1.1.2.1 (by decide) (hC.nd hi).1 (by omega) (by omega) ?_
    refine Ev.aload_n (pc := 60) (n := (0, 0)) (i := 1) dX5_putLast_60 rfl rfl ?_
    refine Ev.iload_n (pc := 61) (n := (0, 0)) (i := 2) dX5_putLast_61 rfl rfl ?_
    refine Ev.putI (pc := 62) (n := (0, 0)) dX5_putLast_62 fl_X5_47 (hC.nd hi).1 rfl rfl (fun h9 => by cases h9) ?_
    refine Ev.aload_n (pc := 65) (n := (0, 0)) (i := 1) dX5_putLast_65 rfl rfl ?_
    refine Ev.iload_n (pc := 66) (n := (0, 0)) (i := 3) dX5_putLast_66 rfl rfl ?_
    refine Ev.putI (pc := 67) (n := (0, 0)) dX5_putLast_67 fl_X5_61 (hC.nd hi).1 rfl rfl (fun h9 => by cases h9) ?_
    refine Ev.aload_n (pc := 70) (n := (0, 0)) (i := 0) dX5_putLast_70 rfl rfl ?_
    refine Ev.callV (pc := 71) (n := (0, 0)) (ob := T) (as := []) (st := []) (k1) dX5_putLast_71 ok_X5_plan (lk_X5_184 rfl) ⟨(Nat.le_of_ble_eq_true rfl), (Nat.le_of_ble_eq_true rfl)⟩ hC1.1.1.1 ⟨by decide, rfl⟩ rfl (Nat.le_of_ble_eq_true rfl) (Nat.le_of_ble_eq_true rfl) ⟨(Nat.le_of_ble_eq_true rfl), (Nat.le_of_ble_eq_true rfl)⟩ ?_
    refine Ev.aload_n (pc := 74) (n := (0, 0)) (i := 1) dX5_putLast_74 rfl rfl ?_
    refine Ev.gI (pc := 75) (n := (0, 0)) (x := (mcc n (fleave n F (q i)) g r)) dX5_putLast_75 fl_X5_92 (show (h.1)[ar i]? = some (1, 0) from (hC.nd hi).1) rfl e8 ?_
    exact Ev.iret dX5_putLast_78 rfl ⟨(Nat.le_of_ble_eq_true rfl), (Nat.le_of_ble_eq_true rfl)⟩)
    n 0 h.2.2 (by omega) rfl ⟨fun _ _ => rfl, fun j hj => by rw [if_pos (by omega)] at hj; omega, fun _ _ => rfl⟩
  refine ⟨I3, R3, h3, ?_⟩
  rw [if_pos (by omega)] at h4
  refine Ev.iconst (pc := 0) (n := (0, 0)) dX5_putLast_0 ?_
  refine Ev.istore (pc := 1) (n := (0, 0)) (i := 4) (L' := [(4, zi 0), (0, zr (some T)), (1, zr (some (ar i))), (2, zi g), (3, zi r)]) dX5_putLast_1 (Nat.le_of_ble_eq_true rfl) rfl ?_
  refine Ev.iconst (pc := 3) (n := (0, 0)) dX5_putLast_3 ?_
  refine Ev.istore (pc := 4) (n := (0, 0)) (i := 5) (L' := [(5, zi 0), (4, zi 0), (0, zr (some T)), (1, zr (some (ar i))), (2, zi g), (3, zi r)]) dX5_putLast_4 (Nat.le_of_ble_eq_true rfl) rfl ?_
  refine Ev.perm [2, 3, 4, 5, 1, 0] rfl ?_
  exact h4
