/-! ===== the class: times ===== -/
theorem zsum_stop {g : Int → Int} {m : Nat} : ∀ {n : Nat}, m ≤ n → (∀ k : Nat, m ≤ k → k < n → g k = 0) → zsum g n = zsum g m := by
  intro n
  induction n with
  | zero => intro h _; have e : m = 0 := by omega
            subst e; rfl
  | succ n ih =>
    intro h h0
    by_cases e : m = n + 1
    · subst e; rfl
    · have e1 : zsum g (n + 1) = zsum g n + g n := rfl
      rw [e1, h0 n (by omega) (by omega), ih (by omega) (fun k h1 h2 => h0 k h1 (by omega)), Int.add_zero]
theorem sameRow_0 {F : zF} {a b : Int} (h : ¬ (F a 2 = F b 2 ∧ F a 3 = F b 3)) : sameRow F b a = 0 := if_neg h
theorem nroot {n : Nat} {F : zF} {dep : Nat → Nat} {B : Int} (hw : WF n F dep B) {k : Nat} (h1 : 1 ≤ k) (hk : k < n) : F 0 2 ≠ F k 2 := by
  obtain ⟨p, hp, e, -⟩ := hw.par_of h1 hk
  rw [e]
  exact hw.root2 hp
theorem q_pos {n : Nat} {q : Nat → Nat} (hq : Pm n q) {x : Nat} (h1 : 1 ≤ x) (hx : x < n) : 1 ≤ q x := by
  rcases Nat.eq_zero_or_pos (q x) with g | g
  · have := hq.2.1 x 0 hx (by omega) (g.trans hq.2.2.symm); omega
  · exact g
theorem place_none {n : Nat} {F : zF} {dep : Nat → Nat} {B : Int} (hw : WF n F dep B) {q : Nat → Nat} (hq : Pm n q) (hO : Ordd n F q) {x : Nat} (h1 : 1 ≤ x) (hx : x < n) (e : ahF F q x x = none) : F (q x) 4 = 0 := by
  rw [hO x h1 hx]
  refine zsum_none fun i hi => ?_
  show sameRow F (q x) (q i) = 0
  refine sameRow_0 fun g => ?_
  rcases ahF_spec F q x x with ⟨-, ha⟩ | ⟨y, e2, -⟩
  · rcases Nat.eq_zero_or_pos i with c | c
    · subst c
      rw [hq.2.2] at g
      exact nroot hw (q_pos hq h1 hx) (hq.1 x hx) g.1
    · exact ha i c hi g
  · rw [e] at e2; cases e2
theorem place_some {n : Nat} {F : zF} {q : Nat → Nat} (hO : Ordd n F q) {x y : Nat} (h1 : 1 ≤ x) (hx : x < n) (e : ahF F q x x = some y) : (1 ≤ y ∧ y < x) ∧ (F (q y) 2 = F (q x) 2 ∧ F (q y) 3 = F (q x) 3) ∧ F (q x) 4 = F (q y) 4 + 1 := by
  rcases ahF_spec F q x x with ⟨e2, -⟩ | ⟨y2, e2, h3, h4, h5⟩
  · rw [e] at e2; cases e2
  · rw [e] at e2
    cases e2
    refine ⟨h3, h4, ?_⟩
    rw [hO x h1 hx, hO y h3.1 (by omega)]
    have es : sameRow F (q y) = sameRow F (q x) := by
      funext j
      unfold sameRow
      rw [h4.1, h4.2]
    rw [es]
    have e3 : zsq q (sameRow F (q x)) x = zsq q (sameRow F (q x)) (y + 1) := zsum_stop (by omega) fun k h6 h7 => sameRow_0 (h5 k (by omega) h7)
    rw [e3, zsq_s]
    have : sameRow F (q x) (q y) = 1 := if_pos h4
    omega
theorem mah_none {n : Nat} {F : zF} {dep : Nat → Nat} {B : Int} (hw : WF n F dep B) {len : Int → Int} {k : Nat} (h1 : 1 ≤ k) (hk : k < n) (e : F k 4 = 0) : mah n F len k = 0 := by
  refine zsum_none fun o ho => if_neg fun g => ?_
  rcases Nat.eq_zero_or_pos o with c | c
  · subst c
    exact nroot hw h1 hk g.1.1
  · have := (hw.2.2.2.2.1 o c ho).2.1
    omega
theorem mah_some {n : Nat} {F : zF} {dep : Nat → Nat} {B : Int} (hw : WF n F dep B) {q : Nat → Nat} (hq : Pm n q) (hO : Ordd n F q) {len : Int → Int} {x y : Nat} (h1 : 1 ≤ x) (hx : x < n) (e : ahF F q x x = some y) : mah n F len (q x) = mah n F len (q y) + len (q y) := by
  obtain ⟨h3, h4, h5⟩ := place_some hO h1 hx e
  have := zsum_chg (g := fun o => if (F o 2 = F (q y) 2 ∧ F o 3 = F (q y) 3) ∧ F o 4 < F (q y) 4 then len o else 0) (g' := fun o => if (F o 2 = F (q x) 2 ∧ F o 3 = F (q x) 3) ∧ F o 4 < F (q x) 4 then len o else 0) (hq.1 y (by omega)) (fun o ho hne => by
    by_cases c : (F o 2 = F (q y) 2 ∧ F o 3 = F (q y) 3) ∧ F o 4 < F (q y) 4
    · show (if (F o 2 = F (q x) 2 ∧ F o 3 = F (q x) 3) ∧ F o 4 < F (q x) 4 then len o else 0) = (if (F o 2 = F (q y) 2 ∧ F o 3 = F (q y) 3) ∧ F o 4 < F (q y) 4 then len o else 0)
      rw [if_pos c, if_pos ⟨⟨c.1.1.trans h4.1, c.1.2.trans h4.2⟩, by omega⟩]
    · show (if (F o 2 = F (q x) 2 ∧ F o 3 = F (q x) 3) ∧ F o 4 < F (q x) 4 then len o else 0) = (if (F o 2 = F (q y) 2 ∧ F o 3 = F (q y) 3) ∧ F o 4 < F (q y) 4 then len o else 0)
      rw [if_neg c, if_neg]
      intro g
      have g2 : F o 2 = F (q y) 2 := g.1.1.trans h4.1.symm
      have g3 : F o 3 = F (q y) 3 := g.1.2.trans h4.2.symm
      have g4 : F o 4 = F (q y) 4 := by
        have : ¬ F o 4 < F (q y) 4 := fun w => c ⟨⟨g2, g3⟩, w⟩
        omega
      obtain ⟨i, hi, ei⟩ := zonto hq.1 hq.2.1 o ho
      subst ei
      have hi1 : 1 ≤ i := by
        rcases Nat.eq_zero_or_pos i with w | w
        · subst w
          rw [hq.2.2] at g2
          exact absurd g2 (nroot hw (q_pos hq h3.1 (by omega)) (hq.1 y (by omega)))
        · exact w
      exact hne (congrArg q (hO.uniq hi1 hi h3.1 (by omega) g2 g3 g4)))
  have e1 : (if (F (q y) 2 = F (q y) 2 ∧ F (q y) 3 = F (q y) 3) ∧ F (q y) 4 < F (q y) 4 then len (q y) else 0) = 0 := if_neg fun g => by omega
  have e2 : (if (F (q y) 2 = F (q x) 2 ∧ F (q y) 3 = F (q x) 3) ∧ F (q y) 4 < F (q x) 4 then len (q y) else 0) = len (q y) := if_pos ⟨h4, by omega⟩
  rw [e1, e2] at this
  show zsum _ n = zsum _ n + _
  omega
theorem s_tell_root {h : zH} {T n : Nat} {F : zF} {ad dl : Int} {ar q : Nat → Nat} (hC : CT h T n F ad dl ar q) : Ev M_X5_tellTimes 0 [(0, zr (some T)), (1, zr (some (ar 0)))] [] h (0, 0) (.inl none, h) := by
  refine Ev.aload_n (pc := 0) (n := (0, 0)) (i := 1) dX5_tellTimes_0 rfl rfl ?_
  refine Ev.gR (pc := 1) (n := (0, 0)) (r := none) dX5_tellTimes_1 fl_X5_50 (hC.nd hC.n1).1 rfl hC.2.2.2.2.1.1 ?_
  refine Ev.astore_n (pc := 4) (n := (0, 0)) (i := 2) (L' := [(2, zr none), (0, zr (some T)), (1, zr (some (ar 0)))]) dX5_tellTimes_4 rfl (Nat.le_of_ble_eq_true rfl) rfl ?_
  refine Ev.aload_n (pc := 5) (n := (0, 0)) (i := 1) dX5_tellTimes_5 rfl rfl ?_
  refine Ev.gR (pc := 6) (n := (0, 0)) (r := (h).2.2 (ar 0) 7) dX5_tellTimes_6 fl_X5_58 (hC.nd hC.n1).1 rfl rfl ?_
  refine Ev.astore_n (pc := 9) (n := (0, 0)) (i := 3) (L' := [(3, zr ((h).2.2 (ar 0) 7)), (2, zr none), (0, zr (some T)), (1, zr (some (ar 0)))]) dX5_tellTimes_9 rfl (Nat.le_of_ble_eq_true rfl) rfl ?_
  refine Ev.aload_n (pc := 10) (n := (0, 0)) (i := 2) dX5_tellTimes_10 rfl rfl ?_
  refine Ev.ifnonnull (pc := 11) (n := (0, 0)) (tgt := 15) dX5_tellTimes_11 rfl (fun x9 hc => nomatch hc) (fun hc => ?_)
  exact Ev.vret dX5_tellTimes_14 rfl ⟨(Nat.le_of_ble_eq_true rfl), (Nat.le_of_ble_eq_true rfl)⟩
theorem s_tellTimes {h : zH} {T n : Nat} {F : zF} {ad dl : Int} {ar q : Nat → Nat} (hC : CT h T n F ad dl ar q) {x p : Nat} (h1 : 1 ≤ x) (hx : x < n) (hp : p < n) (hpx : p ≠ x) {pa : Option Nat} (l6 : h.2.2 (ar x) 6 = some (ar p)) (l7 : h.2.2 (ar x) 7 = pa.map ar) (hpa : ∀ y, pa = some y → y < n ∧ y ≠ x) {a9 a11 lp s13 rl pl sv : Int} (p9 : h.2.1 (ar p) 9 = a9) (p11 : h.2.1 (ar p) 11 = a11) (p10 : h.2.1 (ar p) 10 = lp) (p13 : h.2.1 (ar p) 13 = s13) (hr : 0 ≤ F (q x) 3 ∧ F (q x) 3 < 4) (prl : h.2.1 (ar p + 1) (F (q x) 3) = rl) (hno : pa = none → pl = 0 ∧ sv = a11) (hso : ∀ y, pa = some y → h.2.1 (ar y) 8 + 1 = pl ∧ h.2.1 (ar y) 11 + h.2.1 (ar y) 10 = sv) (hb : (0 ≤ a9 ∧ a9 ≤ 1000) ∧ (0 ≤ pl ∧ pl ≤ 1000) ∧ (0 ≤ sv ∧ sv ≤ 1000000000) ∧ (0 ≤ lp ∧ lp ≤ 1000000000) ∧ (0 ≤ rl ∧ rl ≤ 1000000000) ∧ (0 ≤ s13 ∧ s13 ≤ 1000000000)) : Ev M_X5_tellTimes 0 [(0, zr (some T)), (1, zr (some (ar x)))] [] h (0, 0) (.inl none, (h.1, (zup (zup (zup (zup (zup h.2.1 (ar x) 9 (a9 + 1)) (ar x) 8 pl) (ar x) 11 sv) (ar x) 12 (lp - rl)) (ar x) 13 (lp - rl + s13)), h.2.2)) := by
  have hn := hC.n24
  have nep : ar p ≠ ar x := hC.arx (by omega) (by omega) hpx
  have nel : ar p + 1 ≠ ar x := fun e => (hC.sep (show x < 24 by omega)).2.2 p (by omega) e.symm
  obtain ⟨⟨b1, b2⟩, ⟨b3, b4⟩, ⟨b5, b6⟩, ⟨b7, b8⟩, ⟨b9, b10⟩, b11, b12⟩ := hb
  cases pa with
  | none =>
    obtain ⟨rfl, rfl⟩ := hno rfl
    refine Ev.aload_n (pc := 0) (n := (0, 0)) (i := 1) dX5_tellTimes_0 rfl rfl ?_
    refine Ev.gR (pc := 1) (n := (0, 0)) (r := (some (ar p))) dX5_tellTimes_1 fl_X5_50 (hC.nd hx).1 rfl l6 ?_
    refine Ev.astore_n (pc := 4) (n := (0, 0)) (i := 2) (L' := [(2, zr (some (ar p))), (0, zr (some T)), (1, zr (some (ar x)))]) dX5_tellTimes_4 rfl (Nat.le_of_ble_eq_true rfl) rfl ?_
    refine Ev.aload_n (pc := 5) (n := (0, 0)) (i := 1) dX5_tellTimes_5 rfl rfl ?_
    refine Ev.gR (pc := 6) (n := (0, 0)) (r := none) dX5_tellTimes_6 fl_X5_58 (hC.nd hx).1 rfl l7 ?_
    refine Ev.astore_n (pc := 9) (n := (0, 0)) (i := 3) (L' := [(3, zr none), (2, zr (some (ar p))), (0, zr (some T)), (1, zr (some (ar x)))]) dX5_tellTimes_9 rfl (Nat.le_of_ble_eq_true rfl) rfl ?_
    refine Ev.aload_n (pc := 10) (n := (0, 0)) (i := 2) dX5_tellTimes_10 rfl rfl ?_
    refine Ev.ifnonnull (pc := 11) (n := (0, 0)) (tgt := 15) dX5_tellTimes_11 rfl (fun x9 hc => ?_) (fun hc => nomatch hc)
    refine Ev.aload_n (pc := 15) (n := (0, 0)) (i := 1) dX5_tellTimes_15 rfl rfl ?_
    refine Ev.aload_n (pc := 16) (n := (0, 0)) (i := 2) dX5_tellTimes_16 rfl rfl ?_
    refine Ev.gI (pc := 17) (n := (0, 0)) (x := a9) dX5_tellTimes_17 fl_X5_89 (hC.nd hp).1 rfl p9 ?_
    refine Ev.iconst (pc := 20) (n := (0, 0)) dX5_tellTimes_20 ?_
    refine Ev.iadd (pc := 21) (n := (0, 0)) dX5_tellTimes_21 ⟨by omega, by omega⟩ ?_
    refine Ev.putI (pc := 22) (n := (0, 0)) dX5_tellTimes_22 fl_X5_89 (hC.nd hx).1 rfl rfl (fun h9 => by cases h9) ?_
    refine Ev.aload_n (pc := 25) (n := (0, 0)) (i := 1) dX5_tellTimes_25 rfl rfl ?_
    refine Ev.aload_n (pc := 26) (n := (0, 0)) (i := 3) dX5_tellTimes_26 rfl rfl ?_
    refine Ev.ifnonnull (pc := 27) (n := (0, 0)) (tgt := 34) dX5_tellTimes_27 rfl (fun x9 hc => nomatch hc) (fun hc => ?_)
    refine Ev.iconst (pc := 30) (n := (0, 0)) dX5_tellTimes_30 ?_
    refine Ev.goto (pc := 31) (n := (0, 0)) (tgt := 40) dX5_tellTimes_31 rfl ?_
    refine Ev.putI (pc := 40) (n := (0, 0)) dX5_tellTimes_40 fl_X5_92 (hC.nd hx).1 rfl rfl (fun h9 => by cases h9) ?_
    refine Ev.aload_n (pc := 43) (n := (0, 0)) (i := 1) dX5_tellTimes_43 rfl rfl ?_
    refine Ev.aload_n (pc := 44) (n := (0, 0)) (i := 3) dX5_tellTimes_44 rfl rfl ?_
    refine Ev.ifnonnull (pc := 45) (n := (0, 0)) (tgt := 55) dX5_tellTimes_45 rfl (fun x9 hc => nomatch hc) (fun hc => ?_)
    refine Ev.aload_n (pc := 48) (n := (0, 0)) (i := 2) dX5_tellTimes_48 rfl rfl ?_
    refine Ev.gI (pc := 49) (n := (0, 0)) (x := sv) dX5_tellTimes_49 fl_X5_95 (hC.nd hp).1 rfl (show (zup (zup h.2.1 (ar x) 9 (a9 + 1)) (ar x) 8 0) (ar p) 11 = sv from by rw [zup_o _ _ _ _ nep, zup_o _ _ _ _ nep]; exact p11) ?_
    refine Ev.goto (pc := 52) (n := (0, 0)) (tgt := 64) dX5_tellTimes_52 rfl ?_
    refine Ev.putI (pc := 64) (n := (0, 0)) dX5_tellTimes_64 fl_X5_95 (hC.nd hx).1 rfl rfl (fun h9 => by cases h9) ?_
    refine Ev.aload_n (pc := 67) (n := (0, 0)) (i := 1) dX5_tellTimes_67 rfl rfl ?_
    refine Ev.aload_n (pc := 68) (n := (0, 0)) (i := 2) dX5_tellTimes_68 rfl rfl ?_
    refine Ev.gI (pc := 69) (n := (0, 0)) (x := lp) dX5_tellTimes_69 fl_X5_82 (hC.nd hp).1 rfl (show (zup (zup (zup h.2.1 (ar x) 9 (a9 + 1)) (ar x) 8 0) (ar x) 11 sv) (ar p) 10 = lp from by rw [zup_o _ _ _ _ nep, zup_o _ _ _ _ nep, zup_o _ _ _ _ nep]; exact p10) ?_
    refine Ev.aload_n (pc := 72) (n := (0, 0)) (i := 2) dX5_tellTimes_72 rfl rfl ?_
    refine Ev.aload_n (pc := 73) (n := (0, 0)) (i := 1) dX5_tellTimes_73 rfl rfl ?_
    refine Ev.gI (pc := 74) (n := (0, 0)) (x := (F (q x) 3)) dX5_tellTimes_74 fl_X5_61 (hC.nd hx).1 rfl (show (zup (zup (zup h.2.1 (ar x) 9 (a9 + 1)) (ar x) 8 0) (ar x) 11 sv) (ar x) 3 = F (q x) 3 from by rw [zup_k _ _ _ _ (by decide), zup_k _ _ _ _ (by decide), zup_k _ _ _ _ (by decide)]; exact hC.c3 hx) ?_
    refine Ev.callV (pc := 77) (n := (0, 0)) (ob := (ar p)) (as := [zi (F (q x) 3)]) (st := [zi lp, zr (some (ar x))]) (s_rowLengthN (h := (h.1, (zup (zup (zup h.2.1 (ar x) 9 (a9 + 1)) (ar x) 8 0) (ar x) 11 sv), h.2.2)) (hC.nd hp)) dX5_tellTimes_77 ok_X3_rowLength (lk_X5_98 rfl) ⟨(Nat.le_of_ble_eq_true rfl), (Nat.le_of_ble_eq_true rfl)⟩ (hC.nd hp).1 ⟨by decide, rfl⟩ rfl (Nat.le_of_ble_eq_true rfl) (Nat.le_of_ble_eq_true rfl) ⟨(Nat.le_of_ble_eq_true rfl), (Nat.le_of_ble_eq_true rfl)⟩ ?_
    have e9 : (zup (zup (zup h.2.1 (ar x) 9 (a9 + 1)) (ar x) 8 0) (ar x) 11 sv) (ar p + 1) (F (q x) 3) = rl := by rw [zup_o _ _ _ _ nel, zup_o _ _ _ _ nel, zup_o _ _ _ _ nel]; exact prl
    show Ev M_X5_tellTimes 80 [(3, zr none), (2, zr (some (ar p))), (0, zr (some T)), (1, zr (some (ar x)))] [zi (if 0 ≤ F (q x) 3 ∧ F (q x) 3 < 4 then (zup (zup (zup h.2.1 (ar x) 9 (a9 + 1)) (ar x) 8 0) (ar x) 11 sv) (ar p + 1) (F (q x) 3) else 0), zi lp, zr (some (ar x))] (h.1, (zup (zup (zup h.2.1 (ar x) 9 (a9 + 1)) (ar x) 8 0) (ar x) 11 sv), h.2.2) (0, 0) (.inl none, (h.1, (zup (zup (zup (zup (zup h.2.1 (ar x) 9 (a9 + 1)) (ar x) 8 0) (ar x) 11 sv) (ar x) 12 (lp - rl)) (ar x) 13 (lp - rl + s13)), h.2.2))
    rw [if_pos hr, e9]
    refine Ev.isub (pc := 80) (n := (0, 0)) dX5_tellTimes_80 ⟨by omega, by omega⟩ ?_
    refine Ev.putI (pc := 81) (n := (0, 0)) dX5_tellTimes_81 fl_X5_101 (hC.nd hx).1 rfl rfl (fun h9 => by cases h9) ?_
    refine Ev.aload_n (pc := 84) (n := (0, 0)) (i := 1) dX5_tellTimes_84 rfl rfl ?_
    refine Ev.aload_n (pc := 85) (n := (0, 0)) (i := 1) dX5_tellTimes_85 rfl rfl ?_
    refine Ev.gI (pc := 86) (n := (0, 0)) (x := (lp - rl)) dX5_tellTimes_86 fl_X5_101 (hC.nd hx).1 rfl (zup_s _ _ _ _) ?_
    refine Ev.aload_n (pc := 89) (n := (0, 0)) (i := 2) dX5_tellTimes_89 rfl rfl ?_
    refine Ev.gI (pc := 90) (n := (0, 0)) (x := s13) dX5_tellTimes_90 fl_X5_104 (hC.nd hp).1 rfl (show (zup (zup (zup (zup h.2.1 (ar x) 9 (a9 + 1)) (ar x) 8 0) (ar x) 11 sv) (ar x) 12 (lp - rl)) (ar p) 13 = s13 from by rw [zup_o _ _ _ _ nep, zup_o _ _ _ _ nep, zup_o _ _ _ _ nep, zup_o _ _ _ _ nep]; exact p13) ?_
    refine Ev.iadd (pc := 93) (n := (0, 0)) dX5_tellTimes_93 ⟨by omega, by omega⟩ ?_
    refine Ev.putI (pc := 94) (n := (0, 0)) dX5_tellTimes_94 fl_X5_104 (hC.nd hx).1 rfl rfl (fun h9 => by cases h9) ?_
    exact Ev.vret dX5_tellTimes_97 rfl ⟨(Nat.le_of_ble_eq_true rfl), (Nat.le_of_ble_eq_true rfl)⟩
  | some y =>
    obtain ⟨hyn, hyx⟩ := hpa y rfl
    obtain ⟨g1, g2⟩ := hso y rfl
    have ney : ar y ≠ ar x := hC.arx (by omega) (by omega) hyx
    refine Ev.aload_n (pc := 0) (n := (0, 0)) (i := 1) dX5_tellTimes_0 rfl rfl ?_
    refine Ev.gR (pc := 1) (n := (0, 0)) (r := (some (ar p))) dX5_tellTimes_1 fl_X5_50 (hC.nd hx).1 rfl l6 ?_
    refine Ev.astore_n (pc := 4) (n := (0, 0)) (i := 2) (L' := [(2, zr (some (ar p))), (0, zr (some T)), (1, zr (some (ar x)))]) dX5_tellTimes_4 rfl (Nat.le_of_ble_eq_true rfl) rfl ?_
    refine Ev.aload_n (pc := 5) (n := (0, 0)) (i := 1) dX5_tellTimes_5 rfl rfl ?_
    refine Ev.gR (pc := 6) (n := (0, 0)) (r := (some (ar y))) dX5_tellTimes_6 fl_X5_58 (hC.nd hx).1 rfl l7 ?_
    refine Ev.astore_n (pc := 9) (n := (0, 0)) (i := 3) (L' := [(3, zr (some (ar y))), (2, zr (some (ar p))), (0, zr (some T)), (1, zr (some (ar x)))]) dX5_tellTimes_9 rfl (Nat.le_of_ble_eq_true rfl) rfl ?_
    refine Ev.aload_n (pc := 10) (n := (0, 0)) (i := 2) dX5_tellTimes_10 rfl rfl ?_
    refine Ev.ifnonnull (pc := 11) (n := (0, 0)) (tgt := 15) dX5_tellTimes_11 rfl (fun x9 hc => ?_) (fun hc => nomatch hc)
    refine Ev.aload_n (pc := 15) (n := (0, 0)) (i := 1) dX5_tellTimes_15 rfl rfl ?_
    refine Ev.aload_n (pc := 16) (n := (0, 0)) (i := 2) dX5_tellTimes_16 rfl rfl ?_
    refine Ev.gI (pc := 17) (n := (0, 0)) (x := a9) dX5_tellTimes_17 fl_X5_89 (hC.nd hp).1 rfl p9 ?_
    refine Ev.iconst (pc := 20) (n := (0, 0)) dX5_tellTimes_20 ?_
    refine Ev.iadd (pc := 21) (n := (0, 0)) dX5_tellTimes_21 ⟨by omega, by omega⟩ ?_
    refine Ev.putI (pc := 22) (n := (0, 0)) dX5_tellTimes_22 fl_X5_89 (hC.nd hx).1 rfl rfl (fun h9 => by cases h9) ?_
    refine Ev.aload_n (pc := 25) (n := (0, 0)) (i := 1) dX5_tellTimes_25 rfl rfl ?_
    refine Ev.aload_n (pc := 26) (n := (0, 0)) (i := 3) dX5_tellTimes_26 rfl rfl ?_
    refine Ev.ifnonnull (pc := 27) (n := (0, 0)) (tgt := 34) dX5_tellTimes_27 rfl (fun x9 hc => ?_) (fun hc => nomatch hc)
    refine Ev.aload_n (pc := 34) (n := (0, 0)) (i := 3) dX5_tellTimes_34 rfl rfl ?_
    refine Ev.gI (pc := 35) (n := (0, 0)) (x := (h.2.1 (ar y) 8)) dX5_tellTimes_35 fl_X5_92 (hC.nd hyn).1 rfl (show (zup h.2.1 (ar x) 9 (a9 + 1)) (ar y) 8 = (h.2.1 (ar y) 8) from by rw [zup_o _ _ _ _ ney]) ?_
    refine Ev.iconst (pc := 38) (n := (0, 0)) dX5_tellTimes_38 ?_
    refine Ev.iadd (pc := 39) (n := (0, 0)) dX5_tellTimes_39 ⟨by omega, by omega⟩ ?_
    rw [g1]
    refine Ev.putI (pc := 40) (n := (0, 0)) dX5_tellTimes_40 fl_X5_92 (hC.nd hx).1 rfl rfl (fun h9 => by cases h9) ?_
    refine Ev.aload_n (pc := 43) (n := (0, 0)) (i := 1) dX5_tellTimes_43 rfl rfl ?_
    refine Ev.aload_n (pc := 44) (n := (0, 0)) (i := 3) dX5_tellTimes_44 rfl rfl ?_
    refine Ev.ifnonnull (pc := 45) (n := (0, 0)) (tgt := 55) dX5_tellTimes_45 rfl (fun x9 hc => ?_) (fun hc => nomatch hc)
    have bs : -2147483648 ≤ h.2.1 (ar y) 11 + h.2.1 (ar y) 10 ∧ h.2.1 (ar y) 11 + h.2.1 (ar y) 10 ≤ 2147483647 := by rw [g2]; exact ⟨by omega, by omega⟩
    refine Ev.aload_n (pc := 55) (n := (0, 0)) (i := 3) dX5_tellTimes_55 rfl rfl ?_
    refine Ev.gI (pc := 56) (n := (0, 0)) (x := (h.2.1 (ar y) 11)) dX5_tellTimes_56 fl_X5_95 (hC.nd hyn).1 rfl (show (zup (zup h.2.1 (ar x) 9 (a9 + 1)) (ar x) 8 pl) (ar y) 11 = (h.2.1 (ar y) 11) from by rw [zup_o _ _ _ _ ney, zup_o _ _ _ _ ney]) ?_
    refine Ev.aload_n (pc := 59) (n := (0, 0)) (i := 3) dX5_tellTimes_59 rfl rfl ?_
    refine Ev.gI (pc := 60) (n := (0, 0)) (x := (h.2.1 (ar y) 10)) dX5_tellTimes_60 fl_X5_82 (hC.nd hyn).1 rfl (show (zup (zup h.2.1 (ar x) 9 (a9 + 1)) (ar x) 8 pl) (ar y) 10 = (h.2.1 (ar y) 10) from by rw [zup_o _ _ _ _ ney, zup_o _ _ _ _ ney]) ?_
    refine Ev.iadd (pc := 63) (n := (0, 0)) dX5_tellTimes_63 ⟨by omega, by omega⟩ ?_
    rw [g2]
    refine Ev.putI (pc := 64) (n := (0, 0)) dX5_tellTimes_64 fl_X5_95 (hC.nd hx).1 rfl rfl (fun h9 => by cases h9) ?_
    refine Ev.aload_n (pc := 67) (n := (0, 0)) (i := 1) dX5_tellTimes_67 rfl rfl ?_
    refine Ev.aload_n (pc := 68) (n := (0, 0)) (i := 2) dX5_tellTimes_68 rfl rfl ?_
    refine Ev.gI (pc := 69) (n := (0, 0)) (x := lp) dX5_tellTimes_69 fl_X5_82 (hC.nd hp).1 rfl (show (zup (zup (zup h.2.1 (ar x) 9 (a9 + 1)) (ar x) 8 pl) (ar x) 11 sv) (ar p) 10 = lp from by rw [zup_o _ _ _ _ nep, zup_o _ _ _ _ nep, zup_o _ _ _ _ nep]; exact p10) ?_
    refine Ev.aload_n (pc := 72) (n := (0, 0)) (i := 2) dX5_tellTimes_72 rfl rfl ?_
    refine Ev.aload_n (pc := 73) (n := (0, 0)) (i := 1) dX5_tellTimes_73 rfl rfl ?_
    refine Ev.gI (pc := 74) (n := (0, 0)) (x := (F (q x) 3)) dX5_tellTimes_74 fl_X5_61 (hC.nd hx).1 rfl (show (zup (zup (zup h.2.1 (ar x) 9 (a9 + 1)) (ar x) 8 pl) (ar x) 11 sv) (ar x) 3 = F (q x) 3 from by rw [zup_k _ _ _ _ (by decide), zup_k _ _ _ _ (by decide), zup_k _ _ _ _ (by decide)]; exact hC.c3 hx) ?_
    refine Ev.callV (pc := 77) (n := (0, 0)) (ob := (ar p)) (as := [zi (F (q x) 3)]) (st := [zi lp, zr (some (ar x))]) (s_rowLengthN (h := (h.1, (zup (zup (zup h.2.1 (ar x) 9 (a9 + 1)) (ar x) 8 pl) (ar x) 11 sv), h.2.2)) (hC.nd hp)) dX5_tellTimes_77 ok_X3_rowLength (lk_X5_98 rfl) ⟨(Nat.le_of_ble_eq_true rfl), (Nat.le_of_ble_eq_true rfl)⟩ (hC.nd hp).1 ⟨by decide, rfl⟩ rfl (Nat.le_of_ble_eq_true rfl) (Nat.le_of_ble_eq_true rfl) ⟨(Nat.le_of_ble_eq_true rfl), (Nat.le_of_ble_eq_true rfl)⟩ ?_
    have e9 : (zup (zup (zup h.2.1 (ar x) 9 (a9 + 1)) (ar x) 8 pl) (ar x) 11 sv) (ar p + 1) (F (q x) 3) = rl := by rw [zup_o _ _ _ _ nel, zup_o _ _ _ _ nel, zup_o _ _ _ _ nel]; exact prl
    show Ev M_X5_tellTimes 80 [(3, zr (some (ar y))), (2, zr (some (ar p))), (0, zr (some T)), (1, zr (some (ar x)))] [zi (if 0 ≤ F (q x) 3 ∧ F (q x) 3 < 4 then (zup (zup (zup h.2.1 (ar x) 9 (a9 + 1)) (ar x) 8 pl) (ar x) 11 sv) (ar p + 1) (F (q x) 3) else 0), zi lp, zr (some (ar x))] (h.1, (zup (zup (zup h.2.1 (ar x) 9 (a9 + 1)) (ar x) 8 pl) (ar x) 11 sv), h.2.2) (0, 0) (.inl none, (h.1, (zup (zup (zup (zup (zup h.2.1 (ar x) 9 (a9 + 1)) (ar x) 8 pl) (ar x) 11 sv) (ar x) 12 (lp - rl)) (ar x) 13 (lp - rl + s13)), h.2.2))
    rw [if_pos hr, e9]
    refine Ev.isub (pc := 80) (n := (0, 0)) dX5_tellTimes_80 ⟨by omega, by omega⟩ ?_
    refine Ev.putI (pc := 81) (n := (0, 0)) dX5_tellTimes_81 fl_X5_101 (hC.nd hx).1 rfl rfl (fun h9 => by cases h9) ?_
    refine Ev.aload_n (pc := 84) (n := (0, 0)) (i := 1) dX5_tellTimes_84 rfl rfl ?_
    refine Ev.aload_n (pc := 85) (n := (0, 0)) (i := 1) dX5_tellTimes_85 rfl rfl ?_
    refine Ev.gI (pc := 86) (n := (0, 0)) (x := (lp - rl)) dX5_tellTimes_86 fl_X5_101 (hC.nd hx).1 rfl (zup_s _ _ _ _) ?_
    refine Ev.aload_n (pc := 89) (n := (0, 0)) (i := 2) dX5_tellTimes_89 rfl rfl ?_
    refine Ev.gI (pc := 90) (n := (0, 0)) (x := s13) dX5_tellTimes_90 fl_X5_104 (hC.nd hp).1 rfl (show (zup (zup (zup (zup h.2.1 (ar x) 9 (a9 + 1)) (ar x) 8 pl) (ar x) 11 sv) (ar x) 12 (lp - rl)) (ar p) 13 = s13 from by rw [zup_o _ _ _ _ nep, zup_o _ _ _ _ nep, zup_o _ _ _ _ nep, zup_o _ _ _ _ nep]; exact p13) ?_
    refine Ev.iadd (pc := 93) (n := (0, 0)) dX5_tellTimes_93 ⟨by omega, by omega⟩ ?_
    refine Ev.putI (pc := 94) (n := (0, 0)) dX5_tellTimes_94 fl_X5_104 (hC.nd hx).1 rfl rfl (fun h9 => by cases h9) ?_
    exact Ev.vret dX5_tellTimes_97 rfl ⟨(Nat.le_of_ble_eq_true rfl), (Nat.le_of_ble_eq_true rfl)⟩
/-- what follows from a tree is told for the first i of the order -/
def TDx (n : Nat) (F : zF) (len st sl dp : Int → Int) (ar q : Nat → Nat) (I' : Nat → Int → Int) (x : Nat) : Prop := I' (ar x) 8 = F (q x) 4 ∧ I' (ar x) 9 = dp (q x) ∧ I' (ar x) 11 = st (q x) ∧ I' (ar x) 12 = prs n F len (q x) ∧ I' (ar x) 13 = sl (q x)
def TDn (h : zH) (T n : Nat) (F : zF) (ad dl : Int) (ar q ord : Nat → Nat) (len st sl dp : Int → Int) (I' : Nat → Int → Int) (i : Nat) : Prop := CT (h.1, I', h.2.2) T n F ad dl ar q ∧ (∀ a, a < i → TDx n F len st sl dp ar q I' (ord a)) ∧ (∀ o, (∀ x, x < n → o ≠ ar x) → I' o = h.2.1 o) ∧ ∀ x, x < n → I' (ar x) 10 = h.2.1 (ar x) 10
theorem s_times_loop {h0 h : zH} {T n : Nat} {F : zF} {ad dl : Int} {ar q ord : Nat → Nat} (hF : FO h0 h.2.2 T n F ad dl ar q ord n) (hB9 : BInv n (chp F q) ord n 0 n) {dep : Nat → Nat} {B : Int} (hw : WF n F dep B) (hB : 24 * (60 + B) ≤ 1000000000) {len st sl dp : Int → Int} (hl : IsLen n F len) (ht : IsTm n F len st sl dp) (hln : ∀ x, x < n → h.2.1 (ar x) 10 = len (q x)) (hrw : ∀ x, x < n → ∀ r : Int, 0 ≤ r → r < 4 → h.2.1 (ar x + 1) r = mrl n F len (F (q x) 0) r) : ∀ (j i : Nat) (I' : Nat → Int → Int), n - i = j → i ≤ n → TDn h T n F ad dl ar q ord len st sl dp I' i → ∃ I3, TDn h T n F ad dl ar q ord len st sl dp I3 n ∧ Ev M_X5_plan 10 [(0, zr (some T)), (1, zi (i : Int))] [] (h.1, I', h.2.2) (0, 0) (.inl none, (h.1, I3, h.2.2)) := by
  intro j
  induction j with
  | zero =>
    intro i I' hj hi hD
    have e : i = n := by omega
    subst e
    refine ⟨I', hD, ?_⟩
    have hC := hD.1
    refine Ev.iload_n (pc := 10) (n := (0, 0)) (i := 1) dX5_plan_10 rfl rfl ?_
    refine Ev.aload_n (pc := 11) (n := (0, 0)) (i := 0) dX5_plan_11 rfl rfl ?_
    refine Ev.gI (pc := 12) (n := (0, 0)) (x := (i : Int)) dX5_plan_12 fl_X5_20 hC.1.1.1 rfl hC.1.2.2.1 ?_
    refine Ev.icmp_ge (pc := 15) (n := (0, 0)) (tgt := 34) dX5_plan_15 rfl (fun hc => ?_) (fun hc => absurd hc (by omega))
    exact Ev.vret dX5_plan_34 rfl ⟨(Nat.le_of_ble_eq_true rfl), (Nat.le_of_ble_eq_true rfl)⟩
  | succ j ih =>
    intro i I' hj hi hD
    have hin : i < n := by omega
    obtain ⟨hC, d1, d2, d3⟩ := hD
    have hn := hC.n24
    have hqm : Pm n q := hC.2.2.1.2
    have hO : Ordd n F q := hC.2.2.2.2.2
    have eR : h.2.2 (T + 2) (i : Int) = some (ar (ord i)) := hF.2.1 i hin
    by_cases h0 : i = 0
    · subst h0
      have ey : ord 0 = 0 := hB9.2.2.1
      obtain ⟨I3, h3, h4⟩ := ih 1 I' (by omega) (by omega) ⟨hC, fun a ha => by
        have e : a = 0 := by omega
        subst e
        rw [ey]
        obtain ⟨-, r8, r9, r11, r12, r13⟩ := hC.2.2.2.2.1
        unfold TDx
        rw [hqm.2.2]
        exact ⟨r8.trans hw.2.1.2.2.2.2.symm, r9.trans ht.2.2.1.symm, r11.trans ht.1.symm, r12, r13.trans ht.2.1.symm⟩, d2, d3⟩
      refine ⟨I3, h3, ?_⟩
      rw [ey] at eR
      refine Ev.iload_n (pc := 10) (n := (0, 0)) (i := 1) dX5_plan_10 rfl rfl ?_
      refine Ev.aload_n (pc := 11) (n := (0, 0)) (i := 0) dX5_plan_11 rfl rfl ?_
      refine Ev.gI (pc := 12) (n := (0, 0)) (x := (n : Int)) dX5_plan_12 fl_X5_20 hC.1.1.1 rfl hC.1.2.2.1 ?_
      refine Ev.icmp_ge (pc := 15) (n := (0, 0)) (tgt := 34) dX5_plan_15 rfl (fun hc => absurd hc (by omega)) (fun hc => ?_)
      refine Ev.aload_n (pc := 18) (n := (0, 0)) (i := 0) dX5_plan_18 rfl rfl ?_
      refine Ev.aload_n (pc := 19) (n := (0, 0)) (i := 0) dX5_plan_19 rfl rfl ?_
      refine Ev.gR (pc := 20) (n := (0, 0)) (r := (some (T + 2))) dX5_plan_20 fl_X5_17 hC.1.1.1 rfl hC.1.2.1.2 ?_
      refine Ev.iload_n (pc := 23) (n := (0, 0)) (i := 1) dX5_plan_23 rfl rfl ?_
      refine Ev.aa (pc := 24) (n := (0, 0)) (r := (some (ar 0))) dX5_plan_24 hC.1.1.2.2 (by decide) (by omega) (by omega) eR ?_
      refine Ev.callV (pc := 25) (n := (0, 0)) (ob := T) (as := [zr (some (ar 0))]) (st := []) (s_tell_root hC) dX5_plan_25 ok_X5_tellTimes (lk_X5_44 rfl) ⟨(Nat.le_of_ble_eq_true rfl), (Nat.le_of_ble_eq_true rfl)⟩ hC.1.1.1 ⟨by decide, rfl⟩ rfl (Nat.le_of_ble_eq_true rfl) (Nat.le_of_ble_eq_true rfl) ⟨(Nat.le_of_ble_eq_true rfl), (Nat.le_of_ble_eq_true rfl)⟩ ?_
      refine Ev.iinc (pc := 28) (n := (0, 0)) (L' := [(1, zi (((0 : Nat) : Int) + 1)), (0, zr (some T))]) dX5_plan_28 rfl (Nat.le_of_ble_eq_true rfl) ⟨by omega, by omega⟩ rfl ?_
      refine Ev.goto (pc := 31) (n := (0, 0)) (tgt := 10) dX5_plan_31 rfl ?_
      refine Ev.perm [1, 0] rfl ?_
      exact h4
    · have hx : ord i < n := hB9.1 i hin
      have h1 : 1 ≤ ord i := hB9.2.2.2.2.1 i (by omega) hin
      have hq1 : 1 ≤ q (ord i) := q_pos hqm h1 hx
      have hq := hqm.1 (ord i) hx
      obtain ⟨a, ha, -, hch⟩ := hB9.2.2.2.2.2.2 i (by omega) hin
      have hp : ord a < n := hB9.1 a (by omega)
      have hqp := hqm.1 (ord a) hp
      have hch : F (q (ord i)) 2 = F (q (ord a)) 0 := hch
      have hdp := hw.dep_c hqp hq1 hq hch
      have hpx : ord a ≠ ord i := fun g => by rw [g] at hdp; omega
      have hlk := hF.2.2.2.1 i (by omega) hin
      have hr := (hw.2.2.2.2.1 (q (ord i)) hq1 hq).1
      have tp := d1 a ha
      have bp := PL.bd hw hB hl ht hqp
      have bx := PL.bd hw hB hl ht hq
      have hmt := mtot_le hw
      have brl : 0 ≤ mrl n F len (F (q (ord a)) 0) (F (q (ord i)) 3) ∧ mrl n F len (F (q (ord a)) 0) (F (q (ord i)) 3) ≤ mtot n F := mrl_bd hw hl (F (q (ord a)) 0) (F (q (ord i)) 3) n (Nat.le_refl _)
      have bd : dep (q (ord a)) ≤ a := BInv.dep_le (dep := fun x => dep (q x)) hB9 (fun p x hp h1 hx e => hw.dep_c (hqm.1 p hp) (q_pos hqm h1 hx) (hqm.1 x hx) e) (by rw [hqm.2.2]; exact hw.2.2.2.2.2) a (by omega)
      obtain ⟨t1, t2, t3⟩ := ht.2.2.2 (q (ord i)) (q (ord a)) hq1 hq hqp hch
      have b4 := (hw.2.2.2.2.1 (q (ord i)) hq1 hq).2.1
      have hyy : ∀ y, ahF F q (ord i) (ord i) = some y → y < n ∧ y ≠ ord i ∧ TDx n F len st sl dp ar q I' y := fun y e => by
        obtain ⟨g1, g2, g3⟩ := place_some hO h1 hx e
        have hyn : y < n := by omega
        refine ⟨hyn, by omega, ?_⟩
        obtain ⟨b, hb, eb⟩ := (hB9.done (dep := fun x => dep (q x)) (fun x h1 hx => by
          obtain ⟨p, hp, e1, -, e2⟩ := hw.par_of (q_pos hqm h1 hx) (hqm.1 x hx)
          obtain ⟨y, hy, ey⟩ := hC.onto hp
          exact ⟨y, hy, by show F (q x) 2 = F (q y) 0; rw [ey]; exact e1, by rw [ey]; exact e2⟩)).2 y hyn
        rw [← eb]
        refine d1 b ?_
        have hbi : b ≠ i := fun g => by subst g; omega
        have hb0 : b ≠ 0 := fun g => by subst g; have := hB9.2.2.1; omega
        rcases Nat.lt_trichotomy b i with g | g | g
        · exact g
        · exact absurd g hbi
        · have := hF.2.2.1 i b (by omega) g (by omega) (by rw [eb]; exact g2.1.symm)
          omega
      have k1 := s_tellTimes hC h1 hx hp hpx (pa := ahF F q (ord i) (ord i)) (hlk.1 (ord a) hp hch) hlk.2 (fun y e => ⟨(hyy y e).1, (hyy y e).2.1⟩) (a9 := dp (q (ord a))) (a11 := st (q (ord a))) (lp := len (q (ord a))) (s13 := sl (q (ord a))) (rl := mrl n F len (F (q (ord a)) 0) (F (q (ord i)) 3)) (pl := F (q (ord i)) 4) (sv := st (q (ord i))) tp.2.1 tp.2.2.1 ((d3 _ hp).trans (hln _ hp)) tp.2.2.2.2 ⟨by omega, by omega⟩ ((congrFun (d2 (ar (ord a) + 1) (fun x hx e => (hC.sep (show x < 24 by omega)).2.2 (ord a) (by omega) e.symm)) _).trans (hrw _ hp _ (by omega) (by omega))) (fun e => ⟨place_none hw hqm hO h1 hx e, by rw [t1, mah_none hw hq1 hq (place_none hw hqm hO h1 hx e)]; omega⟩) (fun y e => by
        obtain ⟨y1, y2, y3⟩ := hyy y e
        obtain ⟨g1, g2, g3⟩ := place_some hO h1 hx e
        obtain ⟨u1, -, -⟩ := ht.2.2.2 (q y) (q (ord a)) (q_pos hqm g1.1 y1) (hqm.1 y y1) hqp (g2.1.trans hch)
        refine ⟨?_, ?_⟩
        · show I' (ar y) 8 + 1 = _
          rw [y3.1, g3]
        · show I' (ar y) 11 + I' (ar y) 10 = _
          rw [y3.2.2.1, d3 y y1, hln y y1, t1, mah_some hw hqm hO h1 hx e, u1]
          omega) ⟨⟨by omega, by omega⟩, ⟨by omega, by omega⟩, ⟨by omega, by omega⟩, ⟨by omega, by omega⟩, ⟨by omega, by omega⟩, by omega, by omega⟩
      have hxx : ord i < 24 := by omega
      have hC9 : CT (h.1, (zup (zup (zup (zup (zup I' (ar (ord i)) 9 (dp (q (ord a)) + 1)) (ar (ord i)) 8 (F (q (ord i)) 4)) (ar (ord i)) 11 (st (q (ord i)))) (ar (ord i)) 12 (len (q (ord a)) - mrl n F len (F (q (ord a)) 0) (F (q (ord i)) 3))) (ar (ord i)) 13 (len (q (ord a)) - mrl n F len (F (q (ord a)) 0) (F (q (ord i)) 3) + sl (q (ord a)))), h.2.2) T n F ad dl ar q := ((((hC.upI hxx (k := 9) (by decide) (fun g => by omega) _).upI hxx (k := 8) (by decide) (fun g => by omega) _).upI hxx (k := 11) (by decide) (fun g => by omega) _).upI hxx (k := 12) (by decide) (fun g => by omega) _).upI hxx (k := 13) (by decide) (fun g => by omega) _
      have e5 : ∀ o, o ≠ ar (ord i) → (zup (zup (zup (zup (zup I' (ar (ord i)) 9 (dp (q (ord a)) + 1)) (ar (ord i)) 8 (F (q (ord i)) 4)) (ar (ord i)) 11 (st (q (ord i)))) (ar (ord i)) 12 (len (q (ord a)) - mrl n F len (F (q (ord a)) 0) (F (q (ord i)) 3))) (ar (ord i)) 13 (len (q (ord a)) - mrl n F len (F (q (ord a)) 0) (F (q (ord i)) 3) + sl (q (ord a)))) o = I' o := fun o ho => by
        funext k
        rw [zup_o _ _ _ _ ho, zup_o _ _ _ _ ho, zup_o _ _ _ _ ho, zup_o _ _ _ _ ho, zup_o _ _ _ _ ho]
      have hpz : zpos n F (F (q (ord i)) 2) = q (ord a) := hw.par hqp hch.symm
      obtain ⟨I3, h3, h4⟩ := ih (i + 1) (zup (zup (zup (zup (zup I' (ar (ord i)) 9 (dp (q (ord a)) + 1)) (ar (ord i)) 8 (F (q (ord i)) 4)) (ar (ord i)) 11 (st (q (ord i)))) (ar (ord i)) 12 (len (q (ord a)) - mrl n F len (F (q (ord a)) 0) (F (q (ord i)) 3))) (ar (ord i)) 13 (len (q (ord a)) - mrl n F len (F (q (ord a)) 0) (F (q (ord i)) 3) + sl (q (ord a)))) (by omega) (by omega) ⟨hC9, fun b hb => by
        by_cases e : b = i
        · subst e
          refine ⟨?_, ?_, ?_, ?_, ?_⟩
          · rw [zup_k _ _ _ _ (by decide), zup_k _ _ _ _ (by decide), zup_k _ _ _ _ (by decide), zup_s]
          · rw [zup_k _ _ _ _ (by decide), zup_k _ _ _ _ (by decide), zup_k _ _ _ _ (by decide), zup_k _ _ _ _ (by decide), zup_s, t3]
          · rw [zup_k _ _ _ _ (by decide), zup_k _ _ _ _ (by decide), zup_s]
          · rw [zup_k _ _ _ _ (by decide), zup_s]
            unfold prs
            rw [if_neg (by omega), hpz, hch]
          · rw [zup_s, t2, hch]
            omega
        · have g := d1 b (by omega)
          have hne : ar (ord b) ≠ ar (ord i) := fun g2 => e (hB9.2.1 b i (by omega) hin (hC.arin (hB9.1 b (by omega)) hx g2))
          unfold TDx
          rw [e5 _ hne]
          exact g, fun o ho => by rw [e5 o (ho _ hx)]; exact d2 o ho, fun x hx2 => by
        by_cases e : ar x = ar (ord i)
        · rw [e, zup_k _ _ _ _ (by decide), zup_k _ _ _ _ (by decide), zup_k _ _ _ _ (by decide), zup_k _ _ _ _ (by decide), zup_k _ _ _ _ (by decide)]
          exact d3 _ hx
        · rw [e5 _ e]
          exact d3 x hx2⟩
      refine ⟨I3, h3, ?_⟩
      refine Ev.iload_n (pc := 10) (n := (0, 0)) (i := 1) dX5_plan_10 rfl rfl ?_
      refine Ev.aload_n (pc := 11) (n := (0, 0)) (i := 0) dX5_plan_11 rfl rfl ?_
      refine Ev.gI (pc := 12) (n := (0, 0)) (x := (n : Int)) dX5_plan_12 fl_X5_20 hC.1.1.1 rfl hC.1.2.2.1 ?_
      refine Ev.icmp_ge (pc := 15) (n := (0, 0)) (tgt := 34) dX5_plan_15 rfl (fun hc => absurd hc (by omega)) (fun hc => ?_)
      refine Ev.aload_n (pc := 18) (n := (0, 0)) (i := 0) dX5_plan_18 rfl rfl ?_
      refine Ev.aload_n (pc := 19) (n := (0, 0)) (i := 0) dX5_plan_19 rfl rfl ?_
      refine Ev.gR (pc := 20) (n := (0, 0)) (r := (some (T + 2))) dX5_plan_20 fl_X5_17 hC.1.1.1 rfl hC.1.2.1.2 ?_
      refine Ev.iload_n (pc := 23) (n := (0, 0)) (i := 1) dX5_plan_23 rfl rfl ?_
      refine Ev.aa (pc := 24) (n := (0, 0)) (r := (some (ar (ord i)))) dX5_plan_24 hC.1.1.2.2 (by decide) (by omega) (by omega) eR ?_
      refine Ev.callV (pc := 25) (n := (0, 0)) (ob := T) (as := [zr (some (ar (ord i)))]) (st := []) (k1) dX5_plan_25 ok_X5_tellTimes (lk_X5_44 rfl) ⟨(Nat.le_of_ble_eq_true rfl), (Nat.le_of_ble_eq_true rfl)⟩ hC.1.1.1 ⟨by decide, rfl⟩ rfl (Nat.le_of_ble_eq_true rfl) (Nat.le_of_ble_eq_true rfl) ⟨(Nat.le_of_ble_eq_true rfl), (Nat.le_of_ble_eq_true rfl)⟩ ?_
      refine Ev.iinc (pc := 28) (n := (0, 0)) (L' := [(1, zi ((i : Int) + 1)), (0, zr (some T))]) dX5_plan_28 rfl (Nat.le_of_ble_eq_true rfl) ⟨by omega, by omega⟩ rfl ?_
      refine Ev.goto (pc := 31) (n := (0, 0)) (tgt := 10) dX5_plan_31 rfl ?_
      refine Ev.perm [1, 0] rfl ?_
      exact h4
theorem s_plan {h : zH} {T n : Nat} {F : zF} {ad dl : Int} {ar q : Nat → Nat} (hC : CT h T n F ad dl ar q) {dep : Nat → Nat} {B : Int} (hw : WF n F dep B) (hB : 24 * (60 + B) ≤ 1000000000) {len st sl dp : Int → Int} (hl : IsLen n F len) (ht : IsTm n F len st sl dp) : ∃ (I3 : Nat → Int → Int) (R3 : Nat → Int → Option Nat), CT (h.1, I3, R3) T n F ad dl ar q ∧ PLN (h.1, I3, R3) n F len st sl dp ar q ∧ (∀ o, (o < T ∨ T + 51 ≤ o) → I3 o = h.2.1 o ∧ R3 o = h.2.2 o) ∧ Ev M_X5_plan 0 [(0, zr (some T))] [] h (0, 0) (.inl none, (h.1, I3, R3)) := by
  have hn := hC.n24
  have hqm : Pm n q := hC.2.2.1.2
  obtain ⟨R3, ord, hF, hB9, k1⟩ := s_findOrder hC hw
  have hC1 := hF.1
  have hF1 : FO (h.1, h.2.1, R3) R3 T n F ad dl ar q ord n := ⟨hF.1, hF.2.1, hF.2.2.1, hF.2.2.2.1, fun _ _ => rfl⟩
  obtain ⟨I2, hM, k2⟩ := s_measure (h := (h.1, h.2.1, R3)) hC1 (h0 := (h.1, h.2.1, R3)) hF1 hB9 hw hB hl
  obtain ⟨hC2, m1, m2, m3, m4⟩ := hM
  have hall := (hB9.done (dep := fun x => dep (q x)) (fun x h1 hx => by
    obtain ⟨p, hp, e1, -, e2⟩ := hw.par_of (q_pos hqm h1 hx) (hqm.1 x hx)
    obtain ⟨y, hy, ey⟩ := hC.onto hp
    exact ⟨y, hy, by show F (q x) 2 = F (q y) 0; rw [ey]; exact e1, by rw [ey]; exact e2⟩)).2
  have hln : ∀ x, x < n → I2 (ar x) 10 = len (q x) := fun x hx => by
    obtain ⟨a, ha, e⟩ := hall x hx
    rw [← e]
    exact m1 a (by omega) ha
  have hrw : ∀ x, x < n → ∀ r : Int, 0 ≤ r → r < 4 → I2 (ar x + 1) r = mrl n F len (F (q x) 0) r := fun x hx r h1 h2 => by
    rw [m2 x hx r h1 h2, rsm_0 hqm hB9.1 (fun a b ha hb e => hB9.2.1 a b ha hb e)]
  have hF2 : FO (h.1, I2, R3) R3 T n F ad dl ar q ord n := ⟨hC2, hF.2.1, hF.2.2.1, hF.2.2.2.1, fun _ _ => rfl⟩
  obtain ⟨I3, hD, k3⟩ := s_times_loop (h0 := (h.1, I2, R3)) (h := (h.1, I2, R3)) hF2 hB9 hw hB hl ht hln hrw n 0 I2 rfl (by omega) ⟨hC2, fun a ha => by omega, fun _ _ => rfl, fun _ _ => rfl⟩
  obtain ⟨hC3, d1, d2, d3⟩ := hD
  refine ⟨I3, R3, hC3, fun i hi => ?_, fun o ho => ⟨?_, hF.2.2.2.2 o ho⟩, ?_⟩
  · obtain ⟨a, ha, e⟩ := hall i hi
    have g := d1 a ha
    rw [e] at g
    refine ⟨⟨g.1, g.2.1, (d3 i hi).trans (hln i hi), g.2.2.1, g.2.2.2.1, g.2.2.2.2⟩, fun r h1 h2 => ?_, fun e0 => ?_, fun j hj ej => ?_⟩
    · show I3 (ar i + 1) r = _
      rw [d2 (ar i + 1) (fun x hx e => (hC.sep (show x < 24 by omega)).2.2 i (by omega) e.symm)]
      exact hrw i hi r h1 h2
    · have ei : i = 0 := hqm.2.1 i 0 hi (by omega) (e0.trans hqm.2.2.symm)
      subst ei
      exact hC3.2.2.2.2.1.1
    · have ha0 : 1 ≤ a := by
        rcases Nat.eq_zero_or_pos a with w | w
        · subst w
          rw [hB9.2.2.1] at e
          subst e
          rw [hqm.2.2] at ej
          exact absurd ej (hw.root2 (hqm.1 j hj))
        · exact w
      have := (hF.2.2.2.1 a ha0 ha).1 j hj (by rw [e]; exact ej)
      rw [e] at this
      exact this
  · have hx : ∀ x, x < n → o ≠ ar x ∧ o ≠ ar x + 1 := fun x hx => by
      have := hC.sep (show x < 24 by omega)
      omega
    rw [d2 o (fun x h9 => (hx x h9).1)]
    exact m3 o hx
  refine Ev.aload_n (pc := 0) (n := (0, 0)) (i := 0) dX5_plan_0 rfl rfl ?_
  refine Ev.callV (pc := 1) (n := (0, 0)) (ob := T) (as := []) (st := []) (k1) dX5_plan_1 ok_X5_findOrder (lk_X5_38 rfl) ⟨(Nat.le_of_ble_eq_true rfl), (Nat.le_of_ble_eq_true rfl)⟩ hC.1.1.1 ⟨by decide, rfl⟩ rfl (Nat.le_of_ble_eq_true rfl) (Nat.le_of_ble_eq_true rfl) ⟨(Nat.le_of_ble_eq_true rfl), (Nat.le_of_ble_eq_true rfl)⟩ ?_
  refine Ev.aload_n (pc := 4) (n := (0, 0)) (i := 0) dX5_plan_4 rfl rfl ?_
  refine Ev.callV (pc := 5) (n := (0, 0)) (ob := T) (as := []) (st := []) (k2) dX5_plan_5 ok_X5_measureLengths (lk_X5_41 rfl) ⟨(Nat.le_of_ble_eq_true rfl), (Nat.le_of_ble_eq_true rfl)⟩ hC.1.1.1 ⟨by decide, rfl⟩ rfl (Nat.le_of_ble_eq_true rfl) (Nat.le_of_ble_eq_true rfl) ⟨(Nat.le_of_ble_eq_true rfl), (Nat.le_of_ble_eq_true rfl)⟩ ?_
  refine Ev.iconst (pc := 8) (n := (0, 0)) dX5_plan_8 ?_
  refine Ev.istore_n (pc := 9) (n := (0, 0)) (i := 1) (L' := [(1, zi 0), (0, zr (some T))]) dX5_plan_9 rfl (Nat.le_of_ble_eq_true rfl) rfl ?_
  refine Ev.perm [1, 0] rfl ?_
  exact k3
