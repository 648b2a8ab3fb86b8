/-! ===== the class: its plan ===== -/
theorem CT.fr {h : zH} {T n : Nat} {F : zF} {ad dl : Int} {ar q : Nat → Nat} (hC : CT h T n F ad dl ar q) {I' : Nat → Int → Int} {R' : Nat → Int → Option Nat} (i1 : ∀ k, I' T k = h.2.1 T k) (i2 : ∀ i, i < 24 → ∀ k, 0 ≤ k → k ≤ 5 → I' (ar i) k = h.2.1 (ar i) k) (i3 : ∀ k, 8 ≤ k → k ≤ 13 → k ≠ 10 → I' (ar 0) k = h.2.1 (ar 0) k) (r1 : ∀ k, R' T k = h.2.2 T k) (r2 : ∀ k, R' (T + 1) k = h.2.2 (T + 1) k) (r3 : ∀ i, i < 24 → R' (ar i) 14 = h.2.2 (ar i) 14) (r4 : R' (ar 0) 6 = h.2.2 (ar 0) 6) : CT (h.1, I', R') T n F ad dl ar q := by
  obtain ⟨⟨a1, a2, a3⟩, ⟨b1, b2⟩, c, d, ⟨e1, e2, e3, e4, e5, e6⟩, f⟩ := hC
  have hn := c.1.2
  refine ⟨⟨a1, ⟨(r1 0).trans a2.1, (r1 1).trans a2.2⟩, (i1 2).trans a3.1, (i1 3).trans a3.2.1, (i1 4).trans a3.2.2⟩, ⟨fun i hi => ?_, b2⟩, c, fun i hi => ?_, ⟨r4.trans e1, (i3 8 (by omega) (by omega) (by omega)).trans e2, (i3 9 (by omega) (by omega) (by omega)).trans e3, (i3 11 (by omega) (by omega) (by omega)).trans e4, (i3 12 (by omega) (by omega) (by omega)).trans e5, (i3 13 (by omega) (by omega) (by omega)).trans e6⟩, f⟩
  · obtain ⟨g1, ⟨g2, g3, g4⟩, g5⟩ := b1 i hi
    refine ⟨(r2 i).trans g1, ⟨g2, g3, (r3 i hi).trans g4⟩, ?_⟩
    show I' (ar i) 1 = 0 ∨ I' (ar i) 1 = 1
    rw [i2 i hi 1 (by omega) (by omega)]
    exact g5
  · obtain ⟨g0, g1, g2, g3, g4, g5⟩ := d i hi
    have hi2 : i < 24 := by omega
    exact ⟨(i2 i hi2 0 (by omega) (by omega)).trans g0, (i2 i hi2 1 (by omega) (by omega)).trans g1, (i2 i hi2 2 (by omega) (by omega)).trans g2, (i2 i hi2 3 (by omega) (by omega)).trans g3, (i2 i hi2 4 (by omega) (by omega)).trans g4, (i2 i hi2 5 (by omega) (by omega)).trans g5⟩
/-- where things lie -/
theorem CT.sep {h : zH} {T n : Nat} {F : zF} {ad dl : Int} {ar q : Nat → Nat} (hC : CT h T n F ad dl ar q) {i : Nat} (hi : i < 24) : T + 3 ≤ ar i ∧ ar i + 1 < T + 51 ∧ ∀ j, j < 24 → ar i ≠ ar j + 1 := by
  obtain ⟨j, hj, e⟩ := hC.2.1.2.1 i hi
  refine ⟨by omega, by omega, fun k hk => ?_⟩
  obtain ⟨m, hm, e2⟩ := hC.2.1.2.1 k hk
  omega
theorem CT.arx {h : zH} {T n : Nat} {F : zF} {ad dl : Int} {ar q : Nat → Nat} (hC : CT h T n F ad dl ar q) {i j : Nat} (hi : i < 24) (hj : j < 24) (e : i ≠ j) : ar i ≠ ar j := fun g => e (hC.2.1.2.2.1 i j hi hj g)
/-- a link of a node that isn't the root -/
theorem CT.upR {h : zH} {T n : Nat} {F : zF} {ad dl : Int} {ar q : Nat → Nat} (hC : CT h T n F ad dl ar q) {x : Nat} (h1 : 1 ≤ x) (hx : x < 24) {k : Int} (hk : k ≠ 14) (v : Option Nat) : CT (h.1, h.2.1, zup h.2.2 (ar x) k v) T n F ad dl ar q := by
  have s := hC.sep hx
  refine hC.fr (fun _ => rfl) (fun _ _ _ _ _ => rfl) (fun _ _ _ _ => rfl) (fun k => zup_o _ _ _ _ (by omega)) (fun k => zup_o _ _ _ _ (by omega)) (fun i hi => zup_k _ _ _ _ (fun e => hk e.symm)) (zup_o _ _ _ _ (hC.arx (by omega) hx (by omega)))
/-- a place of the order -/
theorem CT.upO {h : zH} {T n : Nat} {F : zF} {ad dl : Int} {ar q : Nat → Nat} (hC : CT h T n F ad dl ar q) (k : Int) (v : Option Nat) : CT (h.1, h.2.1, zup h.2.2 (T + 2) k v) T n F ad dl ar q :=
  hC.fr (fun _ => rfl) (fun _ _ _ _ _ => rfl) (fun _ _ _ _ => rfl) (fun k => zup_o _ _ _ _ (by omega)) (fun k => zup_o _ _ _ _ (by omega)) (fun i hi => zup_o _ _ _ _ (by have := hC.sep hi; omega)) (zup_o _ _ _ _ (by have := hC.sep (i := 0) (by omega); omega))
/-- a number that follows from the tree -/
theorem CT.upI {h : zH} {T n : Nat} {F : zF} {ad dl : Int} {ar q : Nat → Nat} (hC : CT h T n F ad dl ar q) {x : Nat} (hx : x < 24) {k : Int} (hk : 8 ≤ k) (h0 : x = 0 → k = 10) (v : Int) : CT (h.1, zup h.2.1 (ar x) k v, h.2.2) T n F ad dl ar q := by
  have s := hC.sep hx
  refine hC.fr (fun k => zup_o _ _ _ _ (by omega)) (fun i hi k h1 h2 => zup_k _ _ _ _ (by omega)) (fun k h1 h2 h3 => ?_) (fun _ => rfl) (fun _ => rfl) (fun _ _ => rfl) rfl
  by_cases e : x = 0
  · exact zup_k _ _ _ _ (by have := h0 e; omega)
  · exact zup_o _ _ _ _ (hC.arx (by omega) hx (fun g => e g.symm))
theorem CT.upL {h : zH} {T n : Nat} {F : zF} {ad dl : Int} {ar q : Nat → Nat} (hC : CT h T n F ad dl ar q) {x : Nat} (hx : x < 24) (k v : Int) : CT (h.1, zup h.2.1 (ar x + 1) k v, h.2.2) T n F ad dl ar q := by
  have s := hC.sep hx
  exact hC.fr (fun k => zup_o _ _ _ _ (by omega)) (fun i hi k h1 h2 => zup_o _ _ _ _ (by have := (hC.sep hi).2.2 x hx; omega)) (fun k h1 h2 h3 => zup_o _ _ _ _ (by have := (hC.sep (i := 0) (by omega)).2.2 x hx; omega)) (fun _ => rfl) (fun _ => rfl) (fun _ _ => rfl) rfl
/-- the node ahead in the list, in the same row -/
def ahF (F : zF) (q : Nat → Nat) (x : Nat) : Nat → Option Nat
  | 0 => none
  | m + 1 => if 1 ≤ m ∧ F (q m) 2 = F (q x) 2 ∧ F (q m) 3 = F (q x) 3 then some m else ahF F q x m
theorem ahF_spec (F : zF) (q : Nat → Nat) (x : Nat) : ∀ m, (ahF F q x m = none ∧ ∀ i, 1 ≤ i → i < m → ¬ (F (q i) 2 = F (q x) 2 ∧ F (q i) 3 = F (q x) 3)) ∨ ∃ y, ahF F q x m = some y ∧ (1 ≤ y ∧ y < m) ∧ (F (q y) 2 = F (q x) 2 ∧ F (q y) 3 = F (q x) 3) ∧ ∀ i, y < i → i < m → ¬ (F (q i) 2 = F (q x) 2 ∧ F (q i) 3 = F (q x) 3) := by
  intro m
  induction m with
  | zero => exact Or.inl ⟨rfl, fun i h1 h2 => by omega⟩
  | succ m ih =>
    by_cases c : 1 ≤ m ∧ F (q m) 2 = F (q x) 2 ∧ F (q m) 3 = F (q x) 3
    · exact Or.inr ⟨m, if_pos c, ⟨c.1, by omega⟩, c.2, fun i h1 h2 => by omega⟩
    · have e : ahF F q x (m + 1) = ahF F q x m := if_neg c
      rw [e]
      rcases ih with ⟨e1, ha⟩ | ⟨y, e1, h1, h2, ha⟩
      · refine Or.inl ⟨e1, fun i h1 h2 => ?_⟩
        by_cases g : i = m
        · subst g; exact fun w => c ⟨h1, w⟩
        · exact ha i h1 (by omega)
      · refine Or.inr ⟨y, e1, ⟨h1.1, by omega⟩, h2, fun i h3 h4 => ?_⟩
        by_cases g : i = m
        · subst g; exact fun w => c ⟨by omega, w⟩
        · exact ha i h3 (by omega)
theorem s_findAhead_loop {h : zH} {T n : Nat} {F : zF} {ad dl : Int} {ar q : Nat → Nat} (hC : CT h T n F ad dl ar q) {x : Nat} (hx : x < n) : ∀ m : Nat, m < n → Ev M_X5_findAhead 11 [(0, zr (some T)), (1, zi (x : Int)), (2, zr (some (ar x))), (3, zi (m : Int))] [] h (0, 0) (.inl (some (zr ((ahF F q x (m + 1)).map ar))), h) := by
  intro m
  have hn := hC.n24
  induction m with
  | zero =>
    intro hm
    have e : ahF F q x (0 + 1) = none := if_neg (fun g => absurd g.1 (by decide))
    rw [e]
    refine Ev.iload_n (pc := 11) (n := (0, 0)) (i := 3) dX5_findAhead_11 rfl rfl ?_
    refine Ev.if_le (pc := 12) (n := (0, 0)) (tgt := 56) dX5_findAhead_12 rfl (fun hc => ?_) (fun hc => absurd hc (by omega))
    refine Ev.null (pc := 56) (n := (0, 0)) dX5_findAhead_56 ?_
    exact Ev.aret dX5_findAhead_57 rfl rfl ⟨(Nat.le_of_ble_eq_true rfl), (Nat.le_of_ble_eq_true rfl)⟩
  | succ m ih =>
    intro hm
    have k9 := ih (by omega)
    by_cases c : 1 ≤ m + 1 ∧ F (q (m + 1)) 2 = F (q x) 2 ∧ F (q (m + 1)) 3 = F (q x) 3
    · have e : ahF F q x (m + 1 + 1) = some (m + 1) := if_pos c
      rw [e]
      refine Ev.iload_n (pc := 11) (n := (0, 0)) (i := 3) dX5_findAhead_11 rfl rfl ?_
      refine Ev.if_le (pc := 12) (n := (0, 0)) (tgt := 56) dX5_findAhead_12 rfl (fun hc => absurd hc (by omega)) (fun hc => ?_)
      refine Ev.aload_n (pc := 15) (n := (0, 0)) (i := 0) dX5_findAhead_15 rfl rfl ?_
      refine Ev.gR (pc := 16) (n := (0, 0)) (r := (some (T + 1))) dX5_findAhead_16 fl_X5_11 hC.1.1.1 rfl hC.1.2.1.1 ?_
      refine Ev.iload_n (pc := 19) (n := (0, 0)) (i := 3) dX5_findAhead_19 rfl rfl ?_
      refine Ev.aa (pc := 20) (n := (0, 0)) (r := (some (ar (m + 1)))) dX5_findAhead_20 hC.1.1.2.1 (by decide) (by omega) (by omega) (hC.arr hm) ?_
      refine Ev.astore (pc := 21) (n := (0, 0)) (i := 4) (L' := [(4, zr (some (ar (m + 1)))), (0, zr (some T)), (1, zi (x : Int)), (2, zr (some (ar x))), (3, zi ((m + 1 : Nat) : Int))]) dX5_findAhead_21 (Nat.le_of_ble_eq_true rfl) rfl ?_
      refine Ev.aload (pc := 23) (n := (0, 0)) dX5_findAhead_23 rfl ?_
      refine Ev.gI (pc := 25) (n := (0, 0)) (x := (F (q (m + 1)) 2)) dX5_findAhead_25 fl_X5_47 (hC.nd hm).1 rfl (hC.c2 hm) ?_
      refine Ev.aload_n (pc := 28) (n := (0, 0)) (i := 2) dX5_findAhead_28 rfl rfl ?_
      refine Ev.gI (pc := 29) (n := (0, 0)) (x := (F (q x) 2)) dX5_findAhead_29 fl_X5_47 (hC.nd hx).1 rfl (hC.c2 hx) ?_
      refine Ev.icmp_ne (pc := 32) (n := (0, 0)) (tgt := 50) dX5_findAhead_32 rfl (fun hc => absurd c.2.1 hc) (fun hc => ?_)
      refine Ev.aload (pc := 35) (n := (0, 0)) dX5_findAhead_35 rfl ?_
      refine Ev.gI (pc := 37) (n := (0, 0)) (x := (F (q (m + 1)) 3)) dX5_findAhead_37 fl_X5_61 (hC.nd hm).1 rfl (hC.c3 hm) ?_
      refine Ev.aload_n (pc := 40) (n := (0, 0)) (i := 2) dX5_findAhead_40 rfl rfl ?_
      refine Ev.gI (pc := 41) (n := (0, 0)) (x := (F (q x) 3)) dX5_findAhead_41 fl_X5_61 (hC.nd hx).1 rfl (hC.c3 hx) ?_
      refine Ev.icmp_ne (pc := 44) (n := (0, 0)) (tgt := 50) dX5_findAhead_44 rfl (fun hc => absurd c.2.2 hc) (fun hc => ?_)
      refine Ev.aload (pc := 47) (n := (0, 0)) dX5_findAhead_47 rfl ?_
      exact Ev.aret dX5_findAhead_49 rfl rfl ⟨(Nat.le_of_ble_eq_true rfl), (Nat.le_of_ble_eq_true rfl)⟩
    · have e : ahF F q x (m + 1 + 1) = ahF F q x (m + 1) := if_neg c
      rw [e]
      by_cases c2 : F (q (m + 1)) 2 = F (q x) 2
      · skip
        refine Ev.iload_n (pc := 11) (n := (0, 0)) (i := 3) dX5_findAhead_11 rfl rfl ?_
        refine Ev.if_le (pc := 12) (n := (0, 0)) (tgt := 56) dX5_findAhead_12 rfl (fun hc => absurd hc (by omega)) (fun hc => ?_)
        refine Ev.aload_n (pc := 15) (n := (0, 0)) (i := 0) dX5_findAhead_15 rfl rfl ?_
        refine Ev.gR (pc := 16) (n := (0, 0)) (r := (some (T + 1))) dX5_findAhead_16 fl_X5_11 hC.1.1.1 rfl hC.1.2.1.1 ?_
        refine Ev.iload_n (pc := 19) (n := (0, 0)) (i := 3) dX5_findAhead_19 rfl rfl ?_
        refine Ev.aa (pc := 20) (n := (0, 0)) (r := (some (ar (m + 1)))) dX5_findAhead_20 hC.1.1.2.1 (by decide) (by omega) (by omega) (hC.arr hm) ?_
        refine Ev.astore (pc := 21) (n := (0, 0)) (i := 4) (L' := [(4, zr (some (ar (m + 1)))), (0, zr (some T)), (1, zi (x : Int)), (2, zr (some (ar x))), (3, zi ((m + 1 : Nat) : Int))]) dX5_findAhead_21 (Nat.le_of_ble_eq_true rfl) rfl ?_
        refine Ev.aload (pc := 23) (n := (0, 0)) dX5_findAhead_23 rfl ?_
        refine Ev.gI (pc := 25) (n := (0, 0)) (x := (F (q (m + 1)) 2)) dX5_findAhead_25 fl_X5_47 (hC.nd hm).1 rfl (hC.c2 hm) ?_
        refine Ev.aload_n (pc := 28) (n := (0, 0)) (i := 2) dX5_findAhead_28 rfl rfl ?_
        refine Ev.gI (pc := 29) (n := (0, 0)) (x := (F (q x) 2)) dX5_findAhead_29 fl_X5_47 (hC.nd hx).1 rfl (hC.c2 hx) ?_
        refine Ev.icmp_ne (pc := 32) (n := (0, 0)) (tgt := 50) dX5_findAhead_32 rfl (fun hc => absurd c2 hc) (fun hc => ?_)
        refine Ev.aload (pc := 35) (n := (0, 0)) dX5_findAhead_35 rfl ?_
        refine Ev.gI (pc := 37) (n := (0, 0)) (x := (F (q (m + 1)) 3)) dX5_findAhead_37 fl_X5_61 (hC.nd hm).1 rfl (hC.c3 hm) ?_
        refine Ev.aload_n (pc := 40) (n := (0, 0)) (i := 2) dX5_findAhead_40 rfl rfl ?_
        refine Ev.gI (pc := 41) (n := (0, 0)) (x := (F (q x) 3)) dX5_findAhead_41 fl_X5_61 (hC.nd hx).1 rfl (hC.c3 hx) ?_
        refine Ev.icmp_ne (pc := 44) (n := (0, 0)) (tgt := 50) dX5_findAhead_44 rfl (fun hc => ?_) (fun hc => absurd (show _ from ⟨by omega, c2, hc⟩) c)
        have e3 : ((m + 1 : Nat) : Int) + -1 = (m : Int) := by omega
        refine Ev.iinc (pc := 50) (n := (0, 0)) (L' := [(3, zi (((m + 1 : Nat) : Int) + (-1))), (4, zr (some (ar (m + 1)))), (0, zr (some T)), (1, zi (x : Int)), (2, zr (some (ar x)))]) dX5_findAhead_50 rfl (Nat.le_of_ble_eq_true rfl) ⟨by omega, by omega⟩ rfl ?_
        rw [e3]
        refine Ev.goto (pc := 53) (n := (0, 0)) (tgt := 11) dX5_findAhead_53 rfl ?_
        refine Ev.perm [2, 3, 4, 0] rfl ?_
        exact k9
      · skip
        refine Ev.iload_n (pc := 11) (n := (0, 0)) (i := 3) dX5_findAhead_11 rfl rfl ?_
        refine Ev.if_le (pc := 12) (n := (0, 0)) (tgt := 56) dX5_findAhead_12 rfl (fun hc => absurd hc (by omega)) (fun hc => ?_)
        refine Ev.aload_n (pc := 15) (n := (0, 0)) (i := 0) dX5_findAhead_15 rfl rfl ?_
        refine Ev.gR (pc := 16) (n := (0, 0)) (r := (some (T + 1))) dX5_findAhead_16 fl_X5_11 hC.1.1.1 rfl hC.1.2.1.1 ?_
        refine Ev.iload_n (pc := 19) (n := (0, 0)) (i := 3) dX5_findAhead_19 rfl rfl ?_
        refine Ev.aa (pc := 20) (n := (0, 0)) (r := (some (ar (m + 1)))) dX5_findAhead_20 hC.1.1.2.1 (by decide) (by omega) (by omega) (hC.arr hm) ?_
        refine Ev.astore (pc := 21) (n := (0, 0)) (i := 4) (L' := [(4, zr (some (ar (m + 1)))), (0, zr (some T)), (1, zi (x : Int)), (2, zr (some (ar x))), (3, zi ((m + 1 : Nat) : Int))]) dX5_findAhead_21 (Nat.le_of_ble_eq_true rfl) rfl ?_
        refine Ev.aload (pc := 23) (n := (0, 0)) dX5_findAhead_23 rfl ?_
        refine Ev.gI (pc := 25) (n := (0, 0)) (x := (F (q (m + 1)) 2)) dX5_findAhead_25 fl_X5_47 (hC.nd hm).1 rfl (hC.c2 hm) ?_
        refine Ev.aload_n (pc := 28) (n := (0, 0)) (i := 2) dX5_findAhead_28 rfl rfl ?_
        refine Ev.gI (pc := 29) (n := (0, 0)) (x := (F (q x) 2)) dX5_findAhead_29 fl_X5_47 (hC.nd hx).1 rfl (hC.c2 hx) ?_
        refine Ev.icmp_ne (pc := 32) (n := (0, 0)) (tgt := 50) dX5_findAhead_32 rfl (fun hc => ?_) (fun hc => absurd hc c2)
        have e3 : ((m + 1 : Nat) : Int) + -1 = (m : Int) := by omega
        refine Ev.iinc (pc := 50) (n := (0, 0)) (L' := [(3, zi (((m + 1 : Nat) : Int) + (-1))), (4, zr (some (ar (m + 1)))), (0, zr (some T)), (1, zi (x : Int)), (2, zr (some (ar x)))]) dX5_findAhead_50 rfl (Nat.le_of_ble_eq_true rfl) ⟨by omega, by omega⟩ rfl ?_
        rw [e3]
        refine Ev.goto (pc := 53) (n := (0, 0)) (tgt := 11) dX5_findAhead_53 rfl ?_
        refine Ev.perm [2, 3, 4, 0] rfl ?_
        exact k9
theorem s_findAhead {h : zH} {T n : Nat} {F : zF} {ad dl : Int} {ar q : Nat → Nat} (hC : CT h T n F ad dl ar q) {x : Nat} (h1 : 1 ≤ x) (hx : x < n) : Ev M_X5_findAhead 0 [(0, zr (some T)), (1, zi (x : Int))] [] h (0, 0) (.inl (some (zr ((ahF F q x x).map ar))), h) := by
  have hn := hC.n24
  have e3 : (x : Int) - 1 = ((x - 1 : Nat) : Int) := by omega
  have k9 := s_findAhead_loop hC hx (x - 1) (by omega)
  rw [show x - 1 + 1 = x by omega] at k9
  refine Ev.aload_n (pc := 0) (n := (0, 0)) (i := 0) dX5_findAhead_0 rfl rfl ?_
  refine Ev.gR (pc := 1) (n := (0, 0)) (r := (some (T + 1))) dX5_findAhead_1 fl_X5_11 hC.1.1.1 rfl hC.1.2.1.1 ?_
  refine Ev.iload_n (pc := 4) (n := (0, 0)) (i := 1) dX5_findAhead_4 rfl rfl ?_
  refine Ev.aa (pc := 5) (n := (0, 0)) (r := (some (ar x))) dX5_findAhead_5 hC.1.1.2.1 (by decide) (by omega) (by omega) (hC.arr hx) ?_
  refine Ev.astore_n (pc := 6) (n := (0, 0)) (i := 2) (L' := [(2, zr (some (ar x))), (0, zr (some T)), (1, zi (x : Int))]) dX5_findAhead_6 rfl (Nat.le_of_ble_eq_true rfl) rfl ?_
  refine Ev.iload_n (pc := 7) (n := (0, 0)) (i := 1) dX5_findAhead_7 rfl rfl ?_
  refine Ev.iconst (pc := 8) (n := (0, 0)) dX5_findAhead_8 ?_
  refine Ev.isub (pc := 9) (n := (0, 0)) dX5_findAhead_9 ⟨by omega, by omega⟩ ?_
  rw [e3]
  refine Ev.istore_n (pc := 10) (n := (0, 0)) (i := 3) (L' := [(3, zi ((x - 1 : Nat) : Int)), (2, zr (some (ar x))), (0, zr (some T)), (1, zi (x : Int))]) dX5_findAhead_10 rfl (Nat.le_of_ble_eq_true rfl) rfl ?_
  refine Ev.perm [2, 3, 1, 0] rfl ?_
  exact k9
abbrev chp (F : zF) (q : Nat → Nat) : Nat → Nat → Prop := fun p x => F (q x) 2 = F (q p) 0
/-- links told for a node -/
def LK (R : Nat → Int → Option Nat) (n : Nat) (F : zF) (ar q : Nat → Nat) (x : Nat) : Prop := (∀ p, p < n → chp F q p x → R (ar x) 6 = some (ar p)) ∧ R (ar x) 7 = (ahF F q x x).map ar
def FO (h : zH) (R : Nat → Int → Option Nat) (T n : Nat) (F : zF) (ad dl : Int) (ar q ord : Nat → Nat) (many : Nat) : Prop :=
  CT (h.1, h.2.1, R) T n F ad dl ar q ∧ (∀ a : Nat, a < many → R (T + 2) a = some (ar (ord a))) ∧ (∀ a b, 1 ≤ a → a < b → b < many → F (q (ord a)) 2 = F (q (ord b)) 2 → ord a < ord b) ∧ (∀ a, 1 ≤ a → a < many → LK R n F ar q (ord a)) ∧ ∀ o, (o < T ∨ T + 51 ≤ o) → R o = h.2.2 o
theorem WF.chpu {n : Nat} {F : zF} {dep : Nat → Nat} {B : Int} (hw : WF n F dep B) {q : Nat → Nat} (hq : Pm n q) : ∀ p r x, p < n → r < n → chp F q p x → chp F q r x → p = r := fun p r x hp hr e1 e2 => hq.2.1 p r hp hr (hw.num_inj (hq.1 p hp) (hq.1 r hr) (e1.symm.trans e2))
theorem s_order_in {h : zH} {T n : Nat} {F : zF} {ad dl : Int} {ar q : Nat → Nat} {dep : Nat → Nat} {B : Int} (hw : WF n F dep B) : ∀ (j c k i : Nat) (R : Nat → Int → Option Nat) (ord : Nat → Nat), n - c = j → 1 ≤ c → c ≤ n → i < k → FO h R T n F ad dl ar q ord k → BInv n (chp F q) ord i c k →
    (∀ (k2 : Nat) (R2 : Nat → Int → Option Nat) (ord2 : Nat → Nat), i < k2 → ord2 i = ord i → FO h R2 T n F ad dl ar q ord2 k2 → BInv n (chp F q) ord2 i n k2 → ∃ (R3 : Nat → Int → Option Nat) (ord3 : Nat → Nat), FO h R3 T n F ad dl ar q ord3 n ∧ BInv n (chp F q) ord3 n 0 n ∧ Ev M_X5_findOrder 101 [(0, zr (some T)), (1, zi (k2 : Int)), (2, zi (i : Int)), (3, zr (some (ar (ord i)))), (4, zi (n : Int))] [] (h.1, h.2.1, R2) (0, 0) (.inl none, (h.1, h.2.1, R3))) →
    ∃ (R3 : Nat → Int → Option Nat) (ord3 : Nat → Nat), FO h R3 T n F ad dl ar q ord3 n ∧ BInv n (chp F q) ord3 n 0 n ∧ Ev M_X5_findOrder 31 [(0, zr (some T)), (1, zi (k : Int)), (2, zi (i : Int)), (3, zr (some (ar (ord i)))), (4, zi (c : Int))] [] (h.1, h.2.1, R) (0, 0) (.inl none, (h.1, h.2.1, R3)) := by
  intro j
  induction j with
  | zero =>
    intro c k i R ord hj hc1 hc hik hF hB K
    have e : c = n := by omega
    subst e
    obtain ⟨R3, ord3, h3, h4, h5⟩ := K k R ord hik rfl hF hB
    refine ⟨R3, ord3, h3, h4, ?_⟩
    have hC := hF.1
    have hn := hC.n24
    refine Ev.iload (pc := 31) (n := (0, 0)) dX5_findOrder_31 rfl ?_
    refine Ev.aload_n (pc := 33) (n := (0, 0)) (i := 0) dX5_findOrder_33 rfl rfl ?_
    refine Ev.gI (pc := 34) (n := (0, 0)) (x := (c : Int)) dX5_findOrder_34 fl_X5_20 hC.1.1.1 rfl hC.1.2.2.1 ?_
    refine Ev.icmp_ge (pc := 37) (n := (0, 0)) (tgt := 101) dX5_findOrder_37 rfl (fun hc9 => ?_) (fun hc9 => absurd hc9 (by omega))
    exact h5
  | succ j ih =>
    intro c k i R ord hj hc1 hc hik hF hB K
    have hcn : c < n := by omega
    obtain ⟨hC, f2, f3, f4, f5⟩ := hF
    have hn := hC.n24
    have hqm : Pm n q := hC.2.2.1.2
    have hi : ord i < n := hB.1 i hik
    by_cases hch : F (q c) 2 = F (q (ord i)) 0
    · obtain ⟨hB2, hkn⟩ := hB.add (ord' := fun j => if j = k then c else ord j) (hw.chpu hqm) hik hc1 hcn hch (fun j hj => if_neg (by omega)) (if_pos rfl)
      have hno : ∀ a, a < k → ord a ≠ c := fun a ha e => by
        have := hB2.2.1 a k (by omega) (by omega) (by dsimp only; rw [if_neg (by omega), if_pos rfl]; exact e)
        omega
      have sc := hC.sep (show c < 24 by omega)
      have hC1 := hC.upR (x := c) hc1 (by omega) (k := 6) (by decide) (some (ar (ord i)))
      have hC2 := hC1.upR (x := c) hc1 (by omega) (k := 7) (by decide) ((ahF F q c c).map ar)
      have hC3 := hC2.upO (k : Int) (some (ar c))
      have hF3 : FO h (zup (zup (zup R (ar c) 6 (some (ar (ord i)))) (ar c) 7 ((ahF F q c c).map ar)) (T + 2) (k : Int) (some (ar c))) T n F ad dl ar q (fun j => if j = k then c else ord j) (k + 1) := by
        refine ⟨hC3, fun a ha => ?_, fun a b h1 h2 h3 h4 => ?_, fun a h1 h2 => ?_, fun o ho => ?_⟩
        · by_cases e : a = k
          · subst e
            show zup _ (T + 2) (a : Int) _ (T + 2) (a : Int) = some (ar (if a = a then c else ord a))
            rw [zup_s, if_pos rfl]
          · show zup _ (T + 2) (k : Int) _ (T + 2) (a : Int) = some (ar (if a = k then c else ord a))
            rw [zup_k _ _ _ _ (by omega), zup_o _ _ _ _ (by omega), zup_o _ _ _ _ (by omega), if_neg e]
            exact f2 a (by omega)
        · dsimp only at h4 ⊢
          by_cases e : b = k
          · rw [if_neg (show ¬ a = k by omega), if_pos e] at h4 ⊢
            have h1a := hB.2.2.2.2.1 a (by omega) (by omega)
            rcases (hB.2.2.2.2.2.1 (ord a) h1a (hB.1 a (by omega))).mp ⟨a, by omega, rfl⟩ with ⟨a2, ha2, g⟩ | ⟨-, g⟩
            · have := hw.chpu hqm (ord a2) (ord i) (ord a) (hB.1 a2 (by omega)) hi g (h4.trans hch)
              have := hB.2.1 a2 i (by omega) hik this
              omega
            · exact g
          · rw [if_neg (show ¬ a = k by omega), if_neg e] at h4 ⊢
            exact f3 a b h1 h2 (by omega) h4
        · dsimp only
          by_cases e : a = k
          · rw [if_pos e]
            refine ⟨fun p hp g => ?_, ?_⟩
            · show zup _ (T + 2) (k : Int) _ (ar c) 6 = some (ar p)
              rw [zup_o _ _ _ _ (by omega), zup_k _ _ _ _ (by decide), zup_s, hw.chpu hqm p (ord i) c hp hi g hch]
            · show zup _ (T + 2) (k : Int) _ (ar c) 7 = _
              rw [zup_o _ _ _ _ (by omega), zup_s]
          · rw [if_neg e]
            have g1 := f4 a h1 (by omega)
            have hax : ord a < 24 := by have := hB.1 a (by omega); omega
            have sx := hC.sep hax
            have hne := hC.arx hax (show c < 24 by omega) (hno a (by omega))
            refine ⟨fun p hp g => ?_, ?_⟩
            · show zup _ (T + 2) (k : Int) _ (ar (ord a)) 6 = some (ar p)
              rw [zup_o _ _ _ _ (by omega), zup_o _ _ _ _ hne, zup_o _ _ _ _ hne]
              exact g1.1 p hp g
            · show zup _ (T + 2) (k : Int) _ (ar (ord a)) 7 = _
              rw [zup_o _ _ _ _ (by omega), zup_o _ _ _ _ hne, zup_o _ _ _ _ hne]
              exact g1.2
        · rw [← f5 o ho]
          funext k9
          rw [zup_o _ _ _ _ (by omega), zup_o _ _ _ _ (by omega), zup_o _ _ _ _ (by omega)]
      obtain ⟨R3, ord3, h3, h4, h5⟩ := ih (c + 1) (k + 1) i _ _ (by omega) (by omega) (by omega) (by omega) hF3 hB2 (fun k2 R2 ord2 g1 g2 g3 g4 => by
        have e : (if i = k then c else ord i) = ord i := if_neg (by omega)
        have := K k2 R2 ord2 g1 (g2.trans e) g3 g4
        rw [e]
        exact this)
      refine ⟨R3, ord3, h3, h4, ?_⟩
      have ei : (if i = k then c else ord i) = ord i := if_neg (by omega)
      rw [ei] at h5
      refine Ev.iload (pc := 31) (n := (0, 0)) dX5_findOrder_31 rfl ?_
      refine Ev.aload_n (pc := 33) (n := (0, 0)) (i := 0) dX5_findOrder_33 rfl rfl ?_
      refine Ev.gI (pc := 34) (n := (0, 0)) (x := (n : Int)) dX5_findOrder_34 fl_X5_20 hC.1.1.1 rfl hC.1.2.2.1 ?_
      refine Ev.icmp_ge (pc := 37) (n := (0, 0)) (tgt := 101) dX5_findOrder_37 rfl (fun hc9 => absurd hc9 (by omega)) (fun hc9 => ?_)
      refine Ev.aload_n (pc := 40) (n := (0, 0)) (i := 0) dX5_findOrder_40 rfl rfl ?_
      refine Ev.gR (pc := 41) (n := (0, 0)) (r := (some (T + 1))) dX5_findOrder_41 fl_X5_11 hC.1.1.1 rfl hC.1.2.1.1 ?_
      refine Ev.iload (pc := 44) (n := (0, 0)) dX5_findOrder_44 rfl ?_
      refine Ev.aa (pc := 46) (n := (0, 0)) (r := (some (ar c))) dX5_findOrder_46 hC.1.1.2.1 (by decide) (by omega) (by omega) (hC.arr hcn) ?_
      refine Ev.astore (pc := 47) (n := (0, 0)) (i := 5) (L' := [(5, zr (some (ar c))), (0, zr (some T)), (1, zi (k : Int)), (2, zi (i : Int)), (3, zr (some (ar (ord i)))), (4, zi (c : Int))]) dX5_findOrder_47 (Nat.le_of_ble_eq_true rfl) rfl ?_
      refine Ev.aload (pc := 49) (n := (0, 0)) dX5_findOrder_49 rfl ?_
      refine Ev.gI (pc := 51) (n := (0, 0)) (x := (F (q c) 2)) dX5_findOrder_51 fl_X5_47 (hC.nd hcn).1 rfl (hC.c2 hcn) ?_
      refine Ev.aload_n (pc := 54) (n := (0, 0)) (i := 3) dX5_findOrder_54 rfl rfl ?_
      refine Ev.gI (pc := 55) (n := (0, 0)) (x := (F (q (ord i)) 0)) dX5_findOrder_55 fl_X5_35 (hC.nd hi).1 rfl (hC.c0 hi) ?_
      refine Ev.icmp_ne (pc := 58) (n := (0, 0)) (tgt := 95) dX5_findOrder_58 rfl (fun hc9 => absurd hch hc9) (fun hc9 => ?_)
      refine Ev.iload_n (pc := 61) (n := (0, 0)) (i := 1) dX5_findOrder_61 rfl rfl ?_
      refine Ev.bipush (pc := 62) (n := (0, 0)) dX5_findOrder_62 ?_
      refine Ev.icmp_ge (pc := 64) (n := (0, 0)) (tgt := 95) dX5_findOrder_64 rfl (fun hc9 => absurd hc9 (by omega)) (fun hc9 => ?_)
      refine Ev.aload (pc := 67) (n := (0, 0)) dX5_findOrder_67 rfl ?_
      refine Ev.aload_n (pc := 69) (n := (0, 0)) (i := 3) dX5_findOrder_69 rfl rfl ?_
      refine Ev.putR (pc := 70) (n := (0, 0)) dX5_findOrder_70 fl_X5_50 (hC.nd hcn).1 rfl rfl ?_
      refine Ev.aload (pc := 73) (n := (0, 0)) dX5_findOrder_73 rfl ?_
      refine Ev.aload_n (pc := 75) (n := (0, 0)) (i := 0) dX5_findOrder_75 rfl rfl ?_
      refine Ev.iload (pc := 76) (n := (0, 0)) dX5_findOrder_76 rfl ?_
      refine Ev.callV (pc := 78) (n := (0, 0)) (ob := T) (as := [zi (c : Int)]) (st := [zr (some (ar c))]) (s_findAhead hC1 hc1 hcn) dX5_findOrder_78 ok_X5_findAhead (lk_X5_54 rfl) ⟨(Nat.le_of_ble_eq_true rfl), (Nat.le_of_ble_eq_true rfl)⟩ hC.1.1.1 ⟨by decide, rfl⟩ rfl (Nat.le_of_ble_eq_true rfl) (Nat.le_of_ble_eq_true rfl) ⟨(Nat.le_of_ble_eq_true rfl), (Nat.le_of_ble_eq_true rfl)⟩ ?_
      refine Ev.putR (pc := 81) (n := (0, 0)) dX5_findOrder_81 fl_X5_58 (hC1.nd hcn).1 rfl rfl ?_
      refine Ev.aload_n (pc := 84) (n := (0, 0)) (i := 0) dX5_findOrder_84 rfl rfl ?_
      refine Ev.gR (pc := 85) (n := (0, 0)) (r := (some (T + 2))) dX5_findOrder_85 fl_X5_17 hC2.1.1.1 rfl hC2.1.2.1.2 ?_
      refine Ev.iload_n (pc := 88) (n := (0, 0)) (i := 1) dX5_findOrder_88 rfl rfl ?_
      refine Ev.aload (pc := 89) (n := (0, 0)) dX5_findOrder_89 rfl ?_
      refine Ev.aast (pc := 91) (n := (0, 0)) dX5_findOrder_91 hC2.1.1.2.2 (by decide) (hC2.nd hcn).1 (by omega) (by omega) ?_
      refine Ev.iinc (pc := 92) (n := (0, 0)) (L' := [(1, zi ((k : Int) + 1)), (5, zr (some (ar c))), (0, zr (some T)), (2, zi (i : Int)), (3, zr (some (ar (ord i)))), (4, zi (c : Int))]) dX5_findOrder_92 rfl (Nat.le_of_ble_eq_true rfl) ⟨by omega, by omega⟩ rfl ?_
      refine Ev.iinc (pc := 95) (n := (0, 0)) (L' := [(4, zi ((c : Int) + 1)), (1, zi ((k : Int) + 1)), (5, zr (some (ar c))), (0, zr (some T)), (2, zi (i : Int)), (3, zr (some (ar (ord i))))]) dX5_findOrder_95 rfl (Nat.le_of_ble_eq_true rfl) ⟨by omega, by omega⟩ rfl ?_
      refine Ev.goto (pc := 98) (n := (0, 0)) (tgt := 31) dX5_findOrder_98 rfl ?_
      refine Ev.perm [3, 1, 4, 5, 0] rfl ?_
      exact h5
    · obtain ⟨R3, ord3, h3, h4, h5⟩ := ih (c + 1) k i R ord (by omega) (by omega) (by omega) hik ⟨hC, f2, f3, f4, f5⟩ (hB.skip hch) K
      refine ⟨R3, ord3, h3, h4, ?_⟩
      refine Ev.iload (pc := 31) (n := (0, 0)) dX5_findOrder_31 rfl ?_
      refine Ev.aload_n (pc := 33) (n := (0, 0)) (i := 0) dX5_findOrder_33 rfl rfl ?_
      refine Ev.gI (pc := 34) (n := (0, 0)) (x := (n : Int)) dX5_findOrder_34 fl_X5_20 hC.1.1.1 rfl hC.1.2.2.1 ?_
      refine Ev.icmp_ge (pc := 37) (n := (0, 0)) (tgt := 101) dX5_findOrder_37 rfl (fun hc9 => absurd hc9 (by omega)) (fun hc9 => ?_)
      refine Ev.aload_n (pc := 40) (n := (0, 0)) (i := 0) dX5_findOrder_40 rfl rfl ?_
      refine Ev.gR (pc := 41) (n := (0, 0)) (r := (some (T + 1))) dX5_findOrder_41 fl_X5_11 hC.1.1.1 rfl hC.1.2.1.1 ?_
      refine Ev.iload (pc := 44) (n := (0, 0)) dX5_findOrder_44 rfl ?_
      refine Ev.aa (pc := 46) (n := (0, 0)) (r := (some (ar c))) dX5_findOrder_46 hC.1.1.2.1 (by decide) (by omega) (by omega) (hC.arr hcn) ?_
      refine Ev.astore (pc := 47) (n := (0, 0)) (i := 5) (L' := [(5, zr (some (ar c))), (0, zr (some T)), (1, zi (k : Int)), (2, zi (i : Int)), (3, zr (some (ar (ord i)))), (4, zi (c : Int))]) dX5_findOrder_47 (Nat.le_of_ble_eq_true rfl) rfl ?_
      refine Ev.aload (pc := 49) (n := (0, 0)) dX5_findOrder_49 rfl ?_
      refine Ev.gI (pc := 51) (n := (0, 0)) (x := (F (q c) 2)) dX5_findOrder_51 fl_X5_47 (hC.nd hcn).1 rfl (hC.c2 hcn) ?_
      refine Ev.aload_n (pc := 54) (n := (0, 0)) (i := 3) dX5_findOrder_54 rfl rfl ?_
      refine Ev.gI (pc := 55) (n := (0, 0)) (x := (F (q (ord i)) 0)) dX5_findOrder_55 fl_X5_35 (hC.nd hi).1 rfl (hC.c0 hi) ?_
      refine Ev.icmp_ne (pc := 58) (n := (0, 0)) (tgt := 95) dX5_findOrder_58 rfl (fun hc9 => ?_) (fun hc9 => absurd hc9 hch)
      refine Ev.iinc (pc := 95) (n := (0, 0)) (L' := [(4, zi ((c : Int) + 1)), (5, zr (some (ar c))), (0, zr (some T)), (1, zi (k : Int)), (2, zi (i : Int)), (3, zr (some (ar (ord i))))]) dX5_findOrder_95 rfl (Nat.le_of_ble_eq_true rfl) ⟨by omega, by omega⟩ rfl ?_
      refine Ev.goto (pc := 98) (n := (0, 0)) (tgt := 31) dX5_findOrder_98 rfl ?_
      refine Ev.perm [2, 3, 4, 5, 0] rfl ?_
      exact h5
theorem s_order_loop {h : zH} {T n : Nat} {F : zF} {ad dl : Int} {ar q : Nat → Nat} {dep : Nat → Nat} {B : Int} (hw : WF n F dep B) : ∀ (j i k : Nat) (R : Nat → Int → Option Nat) (ord : Nat → Nat), n - i = j → i ≤ k → FO h R T n F ad dl ar q ord k → BInv n (chp F q) ord i 0 k → ∃ (R3 : Nat → Int → Option Nat) (ord3 : Nat → Nat), FO h R3 T n F ad dl ar q ord3 n ∧ BInv n (chp F q) ord3 n 0 n ∧ Ev M_X5_findOrder 16 [(0, zr (some T)), (1, zi (k : Int)), (2, zi (i : Int))] [] (h.1, h.2.1, R) (0, 0) (.inl none, (h.1, h.2.1, R3)) := by
  intro j
  induction j with
  | zero =>
    intro i k R ord hj hik hF hB
    have hkn := hB.le
    have e : i = k := by omega
    subst e
    have hC := hF.1
    have hn := hC.n24
    have hn2 : i = n := by omega
    subst hn2
    refine ⟨R, ord, hF, hB, ?_⟩
    refine Ev.iload_n (pc := 16) (n := (0, 0)) (i := 2) dX5_findOrder_16 rfl rfl ?_
    refine Ev.iload_n (pc := 17) (n := (0, 0)) (i := 1) dX5_findOrder_17 rfl rfl ?_
    refine Ev.icmp_ge (pc := 18) (n := (0, 0)) (tgt := 107) dX5_findOrder_18 rfl (fun hc => ?_) (fun hc => absurd hc (by omega))
    exact Ev.vret dX5_findOrder_107 rfl ⟨(Nat.le_of_ble_eq_true rfl), (Nat.le_of_ble_eq_true rfl)⟩
  | succ j ih =>
    intro i k R ord hj hik hF hB
    have hkn := hB.le
    have hC := hF.1
    have hn := hC.n24
    have hqm : Pm n q := hC.2.2.1.2
    by_cases e : i = k
    · subst e
      have hd := hB.done (dep := fun x => dep (q x)) (fun x h1 hx => by
        have hqx : 1 ≤ q x := by
          rcases Nat.eq_zero_or_pos (q x) with g | g
          · have := hqm.2.1 x 0 hx (by omega) (g.trans hqm.2.2.symm); omega
          · exact g
        obtain ⟨p, hp, e1, -, e2⟩ := hw.par_of hqx (hqm.1 x hx)
        obtain ⟨y, hy, ey⟩ := hC.onto hp
        exact ⟨y, hy, by show F (q x) 2 = F (q y) 0; rw [ey]; exact e1, by rw [ey]; exact e2⟩)
      omega
    have hik2 : i < k := by omega
    have hi : ord i < n := hB.1 i hik2
    have hB1 : BInv n (chp F q) ord i 1 k := hB.skip (fun g => hw.root2 (hqm.1 _ hi) (by have g2 : F (q 0) 2 = F (q (ord i)) 0 := g; rw [hqm.2.2] at g2; exact g2))
    obtain ⟨R3, ord3, h3, h4, h5⟩ := s_order_in hw (n - 1) 1 k i R ord rfl (by omega) (by omega) hik2 hF hB1 (fun k2 R2 ord2 g1 g2 g3 g4 => by
      obtain ⟨R3, ord3, h3, h4, h5⟩ := ih (i + 1) k2 R2 ord2 (by omega) (by omega) g3 (g4.next (Nat.le_refl _) (by omega))
      refine ⟨R3, ord3, h3, h4, ?_⟩
      refine Ev.iinc (pc := 101) (n := (0, 0)) (L' := [(2, zi ((i : Int) + 1)), (0, zr (some T)), (1, zi (k2 : Int)), (3, zr (some (ar (ord i)))), (4, zi (n : Int))]) dX5_findOrder_101 rfl (Nat.le_of_ble_eq_true rfl) ⟨by omega, by omega⟩ rfl ?_
      refine Ev.goto (pc := 104) (n := (0, 0)) (tgt := 16) dX5_findOrder_104 rfl ?_
      refine Ev.perm [1, 2, 0] rfl ?_
      exact h5)
    refine ⟨R3, ord3, h3, h4, ?_⟩
    refine Ev.iload_n (pc := 16) (n := (0, 0)) (i := 2) dX5_findOrder_16 rfl rfl ?_
    refine Ev.iload_n (pc := 17) (n := (0, 0)) (i := 1) dX5_findOrder_17 rfl rfl ?_
    refine Ev.icmp_ge (pc := 18) (n := (0, 0)) (tgt := 107) dX5_findOrder_18 rfl (fun hc => absurd hc (by omega)) (fun hc => ?_)
    refine Ev.aload_n (pc := 21) (n := (0, 0)) (i := 0) dX5_findOrder_21 rfl rfl ?_
    refine Ev.gR (pc := 22) (n := (0, 0)) (r := (some (T + 2))) dX5_findOrder_22 fl_X5_17 hC.1.1.1 rfl hC.1.2.1.2 ?_
    refine Ev.iload_n (pc := 25) (n := (0, 0)) (i := 2) dX5_findOrder_25 rfl rfl ?_
    refine Ev.aa (pc := 26) (n := (0, 0)) (r := (some (ar (ord i)))) dX5_findOrder_26 hC.1.1.2.2 (by decide) (by omega) (by omega) (hF.2.1 i hik2) ?_
    refine Ev.astore_n (pc := 27) (n := (0, 0)) (i := 3) (L' := [(3, zr (some (ar (ord i)))), (0, zr (some T)), (1, zi (k : Int)), (2, zi (i : Int))]) dX5_findOrder_27 rfl (Nat.le_of_ble_eq_true rfl) rfl ?_
    refine Ev.iconst (pc := 28) (n := (0, 0)) dX5_findOrder_28 ?_
    refine Ev.istore (pc := 29) (n := (0, 0)) (i := 4) (L' := [(4, zi 1), (3, zr (some (ar (ord i)))), (0, zr (some T)), (1, zi (k : Int)), (2, zi (i : Int))]) dX5_findOrder_29 (Nat.le_of_ble_eq_true rfl) rfl ?_
    refine Ev.perm [2, 3, 4, 1, 0] rfl ?_
    exact h5
theorem s_findOrder {h : zH} {T n : Nat} {F : zF} {ad dl : Int} {ar q : Nat → Nat} (hC : CT h T n F ad dl ar q) {dep : Nat → Nat} {B : Int} (hw : WF n F dep B) : ∃ (R3 : Nat → Int → Option Nat) (ord3 : Nat → Nat), FO h R3 T n F ad dl ar q ord3 n ∧ BInv n (chp F q) ord3 n 0 n ∧ Ev M_X5_findOrder 0 [(0, zr (some T))] [] h (0, 0) (.inl none, (h.1, h.2.1, R3)) := by
  have hn := hC.n24
  have hC1 := hC.upO 0 (some (ar 0))
  obtain ⟨R3, ord3, h3, h4, h5⟩ := s_order_loop hw n 0 1 (zup h.2.2 (T + 2) 0 (some (ar 0))) (fun _ => 0) rfl (by omega) ⟨hC1, fun a ha => by
    have e : a = 0 := by omega
    subst e
    exact zup_s _ _ _ _, fun a b h1 h2 h3 => by omega, fun a h1 h2 => by omega, fun o ho => funext fun k => zup_o _ _ _ _ (by omega)⟩ (BInv.start hC.n1 rfl (by omega))
  refine ⟨R3, ord3, h3, h4, ?_⟩
  refine Ev.aload_n (pc := 0) (n := (0, 0)) (i := 0) dX5_findOrder_0 rfl rfl ?_
  refine Ev.gR (pc := 1) (n := (0, 0)) (r := (some (T + 2))) dX5_findOrder_1 fl_X5_17 hC.1.1.1 rfl hC.1.2.1.2 ?_
  refine Ev.iconst (pc := 4) (n := (0, 0)) dX5_findOrder_4 ?_
  refine Ev.aload_n (pc := 5) (n := (0, 0)) (i := 0) dX5_findOrder_5 rfl rfl ?_
  refine Ev.gR (pc := 6) (n := (0, 0)) (r := (some (T + 1))) dX5_findOrder_6 fl_X5_11 hC.1.1.1 rfl hC.1.2.1.1 ?_
  refine Ev.iconst (pc := 9) (n := (0, 0)) dX5_findOrder_9 ?_
  refine Ev.aa (pc := 10) (n := (0, 0)) (r := (some (ar 0))) dX5_findOrder_10 hC.1.1.2.1 (by decide) (by omega) (by omega) (hC.arr hC.n1) ?_
  refine Ev.aast (pc := 11) (n := (0, 0)) dX5_findOrder_11 hC.1.1.2.2 (by decide) (hC.nd hC.n1).1 (by omega) (by omega) ?_
  refine Ev.iconst (pc := 12) (n := (0, 0)) dX5_findOrder_12 ?_
  refine Ev.istore_n (pc := 13) (n := (0, 0)) (i := 1) (L' := [(1, zi 1), (0, zr (some T))]) dX5_findOrder_13 rfl (Nat.le_of_ble_eq_true rfl) rfl ?_
  refine Ev.iconst (pc := 14) (n := (0, 0)) dX5_findOrder_14 ?_
  refine Ev.istore_n (pc := 15) (n := (0, 0)) (i := 2) (L' := [(2, zi 0), (1, zi 1), (0, zr (some T))]) dX5_findOrder_15 rfl (Nat.le_of_ble_eq_true rfl) rfl ?_
  refine Ev.perm [2, 1, 0] rfl ?_
  exact h5
