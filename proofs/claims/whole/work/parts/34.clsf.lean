/-! ===== the class: in order ===== -/
def NX (n : Nat) (ar q : Nat → Nat) (mm : Nat) (A : Nat → Nat) (j : Nat) (r : Option Nat) : Prop := (j < mm ∧ ∃ i, i < n ∧ r = some (ar i) ∧ q i = A j) ∨ (mm ≤ j ∧ r = none)
theorem NX.ex {n : Nat} {ar q : Nat → Nat} (ho : ∀ k, k < n → ∃ i, i < n ∧ q i = k) {mm : Nat} {A : Nat → Nat} (hA : ∀ j, j < mm → A j < n) (j : Nat) : ∃ r, NX n ar q mm A j r := by
  by_cases h : j < mm
  · obtain ⟨i, hi, e⟩ := ho (A j) (hA j h)
    exact ⟨some (ar i), Or.inl ⟨h, i, hi, rfl, e⟩⟩
  · exact ⟨none, Or.inr ⟨by omega, rfl⟩⟩
def NXp (n : Nat) (ar q : Nat → Nat) (mm : Nat) (A : Nat → Nat) (j : Nat) (last : Option Nat) : Prop := (j = 0 ∧ last = none) ∨ ∃ i a, i < n ∧ last = some (ar i) ∧ j = a + 1 ∧ a < mm ∧ q i = A a
theorem NX.pre {n : Nat} {ar q : Nat → Nat} {mm : Nat} {A : Nat → Nat} {j i : Nat} (hi : i < n) (hj : j < mm) (e : q i = A j) : NXp n ar q mm A (j + 1) (some (ar i)) := Or.inr ⟨i, j, hi, rfl, rfl, hj, e⟩
theorem CritTo.lt_iff {n : Nat} {F : zF} {dep : Nat → Nat} {B : Int} (hw : WF n F dep B) {st sl : Int → Int} {m : Nat} {A : Nat → Nat} (h : CritTo F st sl n m A) {a b : Nat} (ha : a < m) (hb : b < m) : (st (A a) < st (A b) ∨ st (A a) = st (A b) ∧ F (A a) 0 < F (A b) 0) ↔ a < b := by
  have K : ∀ a b, a < b → b < m → (st (A a) < st (A b) ∨ st (A a) = st (A b) ∧ F (A a) 0 < F (A b) 0) := fun a b hab hb => by
    rcases h.2.2.1 a b hab hb with g | ⟨g1, g2⟩
    · exact Or.inl g
    · exact Or.inr ⟨g1, hw.2.2.1 (A a) (A b) g2 (h.2.1 b hb).1⟩
  constructor
  · intro g
    rcases Nat.lt_trichotomy a b with c | c | c
    · exact c
    · subst c; omega
    · have := K b a c ha; omega
  · intro g; exact K a b g hb
theorem s_startsBefore {h : zH} {T n : Nat} {F : zF} {ad dl : Int} {ar q : Nat → Nat} (hC : CT h T n F ad dl ar q) {len st sl dp : Int → Int} (hP : PLN h n F len st sl dp ar q) {i j : Nat} (hi : i < n) (hj : j < n) : Ev M_X5_startsBefore 0 [(0, zr (some (ar i))), (1, zr (some (ar j)))] [] h (0, 0) (.inl (some (zi (if st (q i) < st (q j) ∨ st (q i) = st (q j) ∧ F (q i) 0 < F (q j) 0 then 1 else 0))), h) := by
  refine Ev.aload_n (pc := 0) (n := (0, 0)) (i := 0) dX5_startsBefore_0 rfl rfl ?_
  refine Ev.gI (pc := 1) (n := (0, 0)) (x := (st (q i))) dX5_startsBefore_1 fl_X5_95 (hC.nd hi).1 rfl (hP.p3 hi) ?_
  refine Ev.aload_n (pc := 4) (n := (0, 0)) (i := 1) dX5_startsBefore_4 rfl rfl ?_
  refine Ev.gI (pc := 5) (n := (0, 0)) (x := (st (q j))) dX5_startsBefore_5 fl_X5_95 (hC.nd hj).1 rfl (hP.p3 hj) ?_
  refine Ev.icmp_lt (pc := 8) (n := (0, 0)) (tgt := 33) dX5_startsBefore_8 rfl (fun h1 => ?_) (fun h1 => ?_)
  · skip
    rw [if_pos (show st (q i) < st (q j) ∨ st (q i) = st (q j) ∧ F (q i) 0 < F (q j) 0 from Or.inl h1)]
    refine Ev.iconst (pc := 33) (n := (0, 0)) dX5_startsBefore_33 ?_
    refine Ev.goto (pc := 34) (n := (0, 0)) (tgt := 38) dX5_startsBefore_34 rfl ?_
    exact Ev.bret dX5_startsBefore_38 rfl (by decide) ⟨(Nat.le_of_ble_eq_true rfl), (Nat.le_of_ble_eq_true rfl)⟩
  · skip
    refine Ev.aload_n (pc := 11) (n := (0, 0)) (i := 0) dX5_startsBefore_11 rfl rfl ?_
    refine Ev.gI (pc := 12) (n := (0, 0)) (x := (st (q i))) dX5_startsBefore_12 fl_X5_95 (hC.nd hi).1 rfl (hP.p3 hi) ?_
    refine Ev.aload_n (pc := 15) (n := (0, 0)) (i := 1) dX5_startsBefore_15 rfl rfl ?_
    refine Ev.gI (pc := 16) (n := (0, 0)) (x := (st (q j))) dX5_startsBefore_16 fl_X5_95 (hC.nd hj).1 rfl (hP.p3 hj) ?_
    refine Ev.icmp_ne (pc := 19) (n := (0, 0)) (tgt := 37) dX5_startsBefore_19 rfl (fun h2 => ?_) (fun h2 => ?_)
    · skip
      rw [if_neg (show ¬ (st (q i) < st (q j) ∨ st (q i) = st (q j) ∧ F (q i) 0 < F (q j) 0) from fun g => by omega)]
      refine Ev.iconst (pc := 37) (n := (0, 0)) dX5_startsBefore_37 ?_
      exact Ev.bret dX5_startsBefore_38 rfl (by decide) ⟨(Nat.le_of_ble_eq_true rfl), (Nat.le_of_ble_eq_true rfl)⟩
    · skip
      refine Ev.aload_n (pc := 22) (n := (0, 0)) (i := 0) dX5_startsBefore_22 rfl rfl ?_
      refine Ev.gI (pc := 23) (n := (0, 0)) (x := (F (q i) 0)) dX5_startsBefore_23 fl_X5_35 (hC.nd hi).1 rfl (hC.c0 hi) ?_
      refine Ev.aload_n (pc := 26) (n := (0, 0)) (i := 1) dX5_startsBefore_26 rfl rfl ?_
      refine Ev.gI (pc := 27) (n := (0, 0)) (x := (F (q j) 0)) dX5_startsBefore_27 fl_X5_35 (hC.nd hj).1 rfl (hC.c0 hj) ?_
      refine Ev.icmp_ge (pc := 30) (n := (0, 0)) (tgt := 37) dX5_startsBefore_30 rfl (fun h3 => ?_) (fun h3 => ?_)
      · skip
        rw [if_neg (show ¬ (st (q i) < st (q j) ∨ st (q i) = st (q j) ∧ F (q i) 0 < F (q j) 0) from fun g => by omega)]
        refine Ev.iconst (pc := 37) (n := (0, 0)) dX5_startsBefore_37 ?_
        exact Ev.bret dX5_startsBefore_38 rfl (by decide) ⟨(Nat.le_of_ble_eq_true rfl), (Nat.le_of_ble_eq_true rfl)⟩
      · skip
        rw [if_pos (show st (q i) < st (q j) ∨ st (q i) = st (q j) ∧ F (q i) 0 < F (q j) 0 from Or.inr ⟨h2, by omega⟩)]
        refine Ev.iconst (pc := 33) (n := (0, 0)) dX5_startsBefore_33 ?_
        refine Ev.goto (pc := 34) (n := (0, 0)) (tgt := 38) dX5_startsBefore_34 rfl ?_
        exact Ev.bret dX5_startsBefore_38 rfl (by decide) ⟨(Nat.le_of_ble_eq_true rfl), (Nat.le_of_ble_eq_true rfl)⟩
theorem s_nextC_loop {h : zH} {T n : Nat} {F : zF} {ad dl : Int} {ar q : Nat → Nat} (hC : CT h T n F ad dl ar q) {dep : Nat → Nat} {B : Int} (hw : WF n F dep B) (hB : 24 * (60 + B) ≤ 1000000000) {len st sl dp : Int → Int} (hl : IsLen n F len) (ht : IsTm n F len st sl dp) (hP : PLN h n F len st sl dp ar q) {mm : Nat} {A : Nat → Nat} (hcr : CritTo F st sl n mm A) {k : Nat} {last r : Option Nat} (hL : NXp n ar q mm A k last) (hr : NX n ar q mm A k r) : ∀ (j m : Nat) (x : Option Nat), m ≤ n → n - m = j → ((x = none ∧ ∀ i, i < m → ∀ a, a < mm → A a = q i → a < k) ∨ ∃ b a0, b < m ∧ x = some (ar b) ∧ a0 < mm ∧ A a0 = q b ∧ k ≤ a0 ∧ ∀ i, i < m → ∀ a, a < mm → A a = q i → k ≤ a → a0 ≤ a) → Ev M_X5_nextCritical 4 [(0, zr (some T)), (1, zr last), (2, zr x), (3, zi (m : Int))] [] h (0, 0) (.inl (some (zr r)), h) := by
  intro j
  have hn := hC.n24
  induction j with
  | zero =>
    intro m x hm hj hI
    have e : m = n := by omega
    subst e
    have ex : x = r := by
      rcases hI with ⟨rfl, ha⟩ | ⟨b, a0, hb, rfl, h1, h2, h3, ha⟩
      · rcases hr with ⟨g1, -⟩ | ⟨-, e⟩
        · obtain ⟨i, hi, e⟩ := hC.onto (hcr.2.1 k g1).1
          have := ha i hi k g1 e.symm
          omega
        · exact e.symm
      · rcases hr with ⟨g1, i, hi, rfl, e⟩ | ⟨g, -⟩
        · have := ha i hi k g1 e.symm (Nat.le_refl _)
          have e2 : a0 = k := by omega
          subst e2
          rw [hC.qin hb hi (h2.symm.trans e.symm)]
        · omega
    subst ex
    refine Ev.iload_n (pc := 4) (n := (0, 0)) (i := 3) dX5_nextCritical_4 rfl rfl ?_
    refine Ev.aload_n (pc := 5) (n := (0, 0)) (i := 0) dX5_nextCritical_5 rfl rfl ?_
    refine Ev.gI (pc := 6) (n := (0, 0)) (x := (m : Int)) dX5_nextCritical_6 fl_X5_20 hC.1.1.1 rfl hC.1.2.2.1 ?_
    refine Ev.icmp_ge (pc := 9) (n := (0, 0)) (tgt := 75) dX5_nextCritical_9 rfl (fun hc => ?_) (fun hc => absurd hc (by omega))
    refine Ev.aload_n (pc := 75) (n := (0, 0)) (i := 2) dX5_nextCritical_75 rfl rfl ?_
    exact Ev.aret dX5_nextCritical_76 rfl rfl ⟨(Nat.le_of_ble_eq_true rfl), (Nat.le_of_ble_eq_true rfl)⟩
  | succ j ih =>
    intro m x hm hj hI
    have hmn : m < n := by omega
    have hq := hC.qlt hmn
    have b0 := (hw.2.2.2.1 (q m) hq).1
    have KN : (∀ a, a < mm → A a = q m → a < k ∨ ∃ b a0, x = some (ar b) ∧ b < m ∧ A a0 = q b ∧ a0 < mm ∧ a0 ≤ a) → ((x = none ∧ ∀ i, i < (m + 1) → ∀ a, a < mm → A a = q i → a < k) ∨ ∃ b a0, b < (m + 1) ∧ x = some (ar b) ∧ a0 < mm ∧ A a0 = q b ∧ k ≤ a0 ∧ ∀ i, i < (m + 1) → ∀ a, a < mm → A a = q i → k ≤ a → a0 ≤ a) := fun hN => by
      rcases hI with ⟨e, ha⟩ | ⟨b, a0, hb, e, h1, h2, h3, ha⟩
      · refine Or.inl ⟨e, fun i hi a h4 h5 => ?_⟩
        by_cases e2 : i = m
        · subst e2
          rcases hN a h4 h5 with g | ⟨b, a0, e3, -⟩
          · exact g
          · rw [e] at e3; cases e3
        · exact ha i (by omega) a h4 h5
      · refine Or.inr ⟨b, a0, by omega, e, h1, h2, h3, fun i hi a h4 h5 h6 => ?_⟩
        by_cases e2 : i = m
        · subst e2
          rcases hN a h4 h5 with g | ⟨b2, a2, e3, hb2, h7, h8, h9⟩
          · omega
          · rw [e] at e3
            have := hC.arin (by omega) (by omega) (Option.some.inj e3)
            subst this
            have := hcr.lt h1 h8 (h2.trans h7.symm)
            omega
        · exact ha i (by omega) a h4 h5 h6
    have KY : ∀ a1, a1 < mm → A a1 = q m → k ≤ a1 → (∀ b a0, x = some (ar b) → b < m → A a0 = q b → a0 < mm → a1 < a0) → (((some (ar m)) = none ∧ ∀ i, i < (m + 1) → ∀ a, a < mm → A a = q i → a < k) ∨ ∃ b a0, b < (m + 1) ∧ (some (ar m)) = some (ar b) ∧ a0 < mm ∧ A a0 = q b ∧ k ≤ a0 ∧ ∀ i, i < (m + 1) → ∀ a, a < mm → A a = q i → k ≤ a → a0 ≤ a) := fun a1 h1 h2 h3 hlt => by
      refine Or.inr ⟨m, a1, by omega, rfl, h1, h2, h3, fun i hi a h4 h5 h6 => ?_⟩
      by_cases e2 : i = m
      · subst e2
        have := hcr.lt h1 h4 (h2.trans h5.symm)
        omega
      · rcases hI with ⟨e, ha⟩ | ⟨b, a0, hb, e, g1, g2, g3, ha⟩
        · have := ha i (by omega) a h4 h5; omega
        · have := hlt b a0 e hb g2 g1
          have := ha i (by omega) a h4 h5 h6
          omega
    refine Ev.iload_n (pc := 4) (n := (0, 0)) (i := 3) dX5_nextCritical_4 rfl rfl ?_
    refine Ev.aload_n (pc := 5) (n := (0, 0)) (i := 0) dX5_nextCritical_5 rfl rfl ?_
    refine Ev.gI (pc := 6) (n := (0, 0)) (x := (n : Int)) dX5_nextCritical_6 fl_X5_20 hC.1.1.1 rfl hC.1.2.2.1 ?_
    refine Ev.icmp_ge (pc := 9) (n := (0, 0)) (tgt := 75) dX5_nextCritical_9 rfl (fun hc => absurd hc (by omega)) (fun hc => ?_)
    refine Ev.aload_n (pc := 12) (n := (0, 0)) (i := 0) dX5_nextCritical_12 rfl rfl ?_
    refine Ev.gR (pc := 13) (n := (0, 0)) (r := (some (T + 1))) dX5_nextCritical_13 fl_X5_11 hC.1.1.1 rfl hC.1.2.1.1 ?_
    refine Ev.iload_n (pc := 16) (n := (0, 0)) (i := 3) dX5_nextCritical_16 rfl rfl ?_
    refine Ev.aa (pc := 17) (n := (0, 0)) (r := (some (ar m))) dX5_nextCritical_17 hC.1.1.2.1 (by decide) (by omega) (by omega) (hC.arr hmn) ?_
    refine Ev.astore (pc := 18) (n := (0, 0)) (i := 4) (L' := [(4, zr (some (ar m))), (0, zr (some T)), (1, zr last), (2, zr x), (3, zi (m : Int))]) dX5_nextCritical_18 (Nat.le_of_ble_eq_true rfl) rfl ?_
    suffices K : ∀ v : Int, (v = 0 ∨ v = 1) → (∀ a, a < mm → A a = q m → (v = 1 ↔ k ≤ a)) → Ev M_X5_nextCritical 38 [(4, zr (some (ar m))), (0, zr (some T)), (1, zr last), (2, zr x), (3, zi (m : Int))] [zi v] h (0, 0) (.inl (some (zr r)), h) by
      rcases hL with ⟨rfl, rfl⟩ | ⟨i, a, hi, rfl, rfl, ha, hqi⟩
      · skip
        refine Ev.aload_n (pc := 20) (n := (0, 0)) (i := 1) dX5_nextCritical_20 rfl rfl ?_
        refine Ev.ifnull (pc := 21) (n := (0, 0)) (tgt := 33) dX5_nextCritical_21 rfl (fun hc => ?_) (fun x9 hc => nomatch hc)
        refine Ev.iconst (pc := 33) (n := (0, 0)) dX5_nextCritical_33 ?_
        refine Ev.goto (pc := 34) (n := (0, 0)) (tgt := 38) dX5_nextCritical_34 rfl ?_
        exact K 1 (Or.inr rfl) (fun a _ _ => ⟨fun _ => Nat.zero_le _, fun _ => rfl⟩)
      · skip
        refine Ev.aload_n (pc := 20) (n := (0, 0)) (i := 1) dX5_nextCritical_20 rfl rfl ?_
        refine Ev.ifnull (pc := 21) (n := (0, 0)) (tgt := 33) dX5_nextCritical_21 rfl (fun hc => nomatch hc) (fun x9 hc => ?_)
        refine Ev.aload_n (pc := 24) (n := (0, 0)) (i := 1) dX5_nextCritical_24 rfl rfl ?_
        refine Ev.aload (pc := 25) (n := (0, 0)) dX5_nextCritical_25 rfl ?_
        refine Ev.callS (pc := 27) (n := (0, 0)) (as := [zr (some (ar i)), zr (some (ar m))]) (st := []) (s_startsBefore hC hP hi hmn) dX5_nextCritical_27 ok_X5_startsBefore (lk_X5_250 rfl) ⟨(Nat.le_of_ble_eq_true rfl), (Nat.le_of_ble_eq_true rfl)⟩ rfl (Nat.le_of_ble_eq_true rfl) (Nat.le_of_ble_eq_true rfl) ⟨(Nat.le_of_ble_eq_true rfl), (Nat.le_of_ble_eq_true rfl)⟩ ?_
        by_cases h9 : st (q i) < st (q m) ∨ st (q i) = st (q m) ∧ F (q i) 0 < F (q m) 0
        · skip
          rw [if_pos h9]
          refine Ev.if_eq (pc := 30) (n := (0, 0)) (tgt := 37) dX5_nextCritical_30 rfl (fun hc => absurd hc (by decide)) (fun hc => ?_)
          refine Ev.iconst (pc := 33) (n := (0, 0)) dX5_nextCritical_33 ?_
          refine Ev.goto (pc := 34) (n := (0, 0)) (tgt := 38) dX5_nextCritical_34 rfl ?_
          exact K 1 (Or.inr rfl) (fun a2 g1 g2 => by
            rw [hqi, ← g2, hcr.lt_iff hw ha g1] at h9
            exact ⟨fun _ => h9, fun _ => rfl⟩)
        · skip
          rw [if_neg h9]
          refine Ev.if_eq (pc := 30) (n := (0, 0)) (tgt := 37) dX5_nextCritical_30 rfl (fun hc => ?_) (fun hc => absurd rfl hc)
          refine Ev.iconst (pc := 37) (n := (0, 0)) dX5_nextCritical_37 ?_
          exact K 0 (Or.inl rfl) (fun a2 g1 g2 => by
            rw [hqi, ← g2, hcr.lt_iff hw ha g1] at h9
            exact ⟨fun g => absurd g (by decide), fun g => absurd g h9⟩)
    intro v hv01 hv
    refine Ev.istore (pc := 38) (n := (0, 0)) (i := 5) (L' := [(5, zi v), (4, zr (some (ar m))), (0, zr (some T)), (1, zr last), (2, zr x), (3, zi (m : Int))]) dX5_nextCritical_38 (Nat.le_of_ble_eq_true rfl) rfl ?_
    refine Ev.aload (pc := 40) (n := (0, 0)) dX5_nextCritical_40 rfl ?_
    refine Ev.callV (pc := 42) (n := (0, 0)) (ob := (ar m)) (as := []) (st := []) (s_isCriticalTask (hC.nd hmn) (hC.c1 hmn) b0 (hP.p5 hmn)) dX5_nextCritical_42 ok_X3_isCriticalTask (lk_X5_221 rfl) ⟨(Nat.le_of_ble_eq_true rfl), (Nat.le_of_ble_eq_true rfl)⟩ (hC.nd hmn).1 ⟨by decide, rfl⟩ rfl (Nat.le_of_ble_eq_true rfl) (Nat.le_of_ble_eq_true rfl) ⟨(Nat.le_of_ble_eq_true rfl), (Nat.le_of_ble_eq_true rfl)⟩ ?_
    by_cases h9 : F (q m) 1 = 1 ∧ sl (q m) = 0
    · skip
      rw [if_pos h9]
      refine Ev.if_eq (pc := 45) (n := (0, 0)) (tgt := 69) dX5_nextCritical_45 rfl (fun hc => absurd hc (by decide)) (fun hc => ?_)
      obtain ⟨a1, ha1, ea1⟩ := hcr.2.2.2 (q m) hq h9.1 h9.2
      have hv1 := hv a1 ha1 ea1
      refine Ev.iload (pc := 48) (n := (0, 0)) dX5_nextCritical_48 rfl ?_
      refine Ev.if_eq (pc := 50) (n := (0, 0)) (tgt := 69) dX5_nextCritical_50 rfl (fun h8 => ?_) (fun h8 => ?_)
      · skip
        refine Ev.iinc (pc := 69) (n := (0, 0)) (L' := [(3, zi ((m : Int) + 1)), (5, zi v), (4, zr (some (ar m))), (0, zr (some T)), (1, zr last), (2, zr x)]) dX5_nextCritical_69 rfl (Nat.le_of_ble_eq_true rfl) ⟨by omega, by omega⟩ rfl ?_
        refine Ev.goto (pc := 72) (n := (0, 0)) (tgt := 4) dX5_nextCritical_72 rfl ?_
        refine Ev.perm [3, 4, 5, 0] rfl ?_
        exact ih (m + 1) x (by omega) (by omega) (KN (fun a g1 g2 => Or.inl (by
          have := hcr.lt ha1 g1 (ea1.trans g2.symm)
          subst this
          have : ¬ k ≤ a1 := fun g => by have := hv1.mpr g; omega
          omega)))
      · skip
        have hk1 : k ≤ a1 := hv1.mp (by omega)
        rcases hI with ⟨rfl, ha⟩ | ⟨b, a0, hb, rfl, h1, h2, h3, ha⟩
        · skip
          refine Ev.aload_n (pc := 53) (n := (0, 0)) (i := 2) dX5_nextCritical_53 rfl rfl ?_
          refine Ev.ifnull (pc := 54) (n := (0, 0)) (tgt := 66) dX5_nextCritical_54 rfl (fun hc => ?_) (fun x9 hc => nomatch hc)
          refine Ev.aload (pc := 66) (n := (0, 0)) dX5_nextCritical_66 rfl ?_
          refine Ev.astore_n (pc := 68) (n := (0, 0)) (i := 2) (L' := [(2, zr (some (ar m))), (5, zi v), (4, zr (some (ar m))), (0, zr (some T)), (1, zr last), (3, zi (m : Int))]) dX5_nextCritical_68 rfl (Nat.le_of_ble_eq_true rfl) rfl ?_
          refine Ev.iinc (pc := 69) (n := (0, 0)) (L' := [(3, zi ((m : Int) + 1)), (2, zr (some (ar m))), (5, zi v), (4, zr (some (ar m))), (0, zr (some T)), (1, zr last)]) dX5_nextCritical_69 rfl (Nat.le_of_ble_eq_true rfl) ⟨by omega, by omega⟩ rfl ?_
          refine Ev.goto (pc := 72) (n := (0, 0)) (tgt := 4) dX5_nextCritical_72 rfl ?_
          refine Ev.perm [4, 5, 1, 0] rfl ?_
          exact ih (m + 1) (some (ar m)) (by omega) (by omega) (KY a1 ha1 ea1 hk1 (fun b a0 e => nomatch e))
        · skip
          refine Ev.aload_n (pc := 53) (n := (0, 0)) (i := 2) dX5_nextCritical_53 rfl rfl ?_
          refine Ev.ifnull (pc := 54) (n := (0, 0)) (tgt := 66) dX5_nextCritical_54 rfl (fun hc => nomatch hc) (fun x9 hc => ?_)
          refine Ev.aload (pc := 57) (n := (0, 0)) dX5_nextCritical_57 rfl ?_
          refine Ev.aload_n (pc := 59) (n := (0, 0)) (i := 2) dX5_nextCritical_59 rfl rfl ?_
          refine Ev.callS (pc := 60) (n := (0, 0)) (as := [zr (some (ar m)), zr (some (ar b))]) (st := []) (s_startsBefore hC hP hmn (show b < n by omega)) dX5_nextCritical_60 ok_X5_startsBefore (lk_X5_250 rfl) ⟨(Nat.le_of_ble_eq_true rfl), (Nat.le_of_ble_eq_true rfl)⟩ rfl (Nat.le_of_ble_eq_true rfl) (Nat.le_of_ble_eq_true rfl) ⟨(Nat.le_of_ble_eq_true rfl), (Nat.le_of_ble_eq_true rfl)⟩ ?_
          have hlt : (st (q m) < st (q b) ∨ st (q m) = st (q b) ∧ F (q m) 0 < F (q b) 0) ↔ a1 < a0 := by rw [← ea1, ← h2]; exact hcr.lt_iff hw ha1 h1
          by_cases h7 : st (q m) < st (q b) ∨ st (q m) = st (q b) ∧ F (q m) 0 < F (q b) 0
          · skip
            rw [if_pos h7]
            refine Ev.if_eq (pc := 63) (n := (0, 0)) (tgt := 69) dX5_nextCritical_63 rfl (fun hc => absurd hc (by decide)) (fun hc => ?_)
            refine Ev.aload (pc := 66) (n := (0, 0)) dX5_nextCritical_66 rfl ?_
            refine Ev.astore_n (pc := 68) (n := (0, 0)) (i := 2) (L' := [(2, zr (some (ar m))), (5, zi v), (4, zr (some (ar m))), (0, zr (some T)), (1, zr last), (3, zi (m : Int))]) dX5_nextCritical_68 rfl (Nat.le_of_ble_eq_true rfl) rfl ?_
            refine Ev.iinc (pc := 69) (n := (0, 0)) (L' := [(3, zi ((m : Int) + 1)), (2, zr (some (ar m))), (5, zi v), (4, zr (some (ar m))), (0, zr (some T)), (1, zr last)]) dX5_nextCritical_69 rfl (Nat.le_of_ble_eq_true rfl) ⟨by omega, by omega⟩ rfl ?_
            refine Ev.goto (pc := 72) (n := (0, 0)) (tgt := 4) dX5_nextCritical_72 rfl ?_
            refine Ev.perm [4, 5, 1, 0] rfl ?_
            exact ih (m + 1) (some (ar m)) (by omega) (by omega) (KY a1 ha1 ea1 hk1 (fun b2 a2 e g1 g2 g3 => by
              have := hC.arin (by omega) (by omega) (Option.some.inj e)
              subst this
              have := hcr.lt h1 g3 (h2.trans g2.symm)
              have := hlt.mp h7
              omega))
          · skip
            rw [if_neg h7]
            refine Ev.if_eq (pc := 63) (n := (0, 0)) (tgt := 69) dX5_nextCritical_63 rfl (fun hc => ?_) (fun hc => absurd rfl hc)
            refine Ev.iinc (pc := 69) (n := (0, 0)) (L' := [(3, zi ((m : Int) + 1)), (5, zi v), (4, zr (some (ar m))), (0, zr (some T)), (1, zr last), (2, zr (some (ar b)))]) dX5_nextCritical_69 rfl (Nat.le_of_ble_eq_true rfl) ⟨by omega, by omega⟩ rfl ?_
            refine Ev.goto (pc := 72) (n := (0, 0)) (tgt := 4) dX5_nextCritical_72 rfl ?_
            refine Ev.perm [3, 4, 5, 0] rfl ?_
            exact ih (m + 1) (some (ar b)) (by omega) (by omega) (KN (fun a g1 g2 => Or.inr ⟨b, a0, rfl, hb, h2, h1, by
              have := hcr.lt ha1 g1 (ea1.trans g2.symm)
              subst this
              have : ¬ a1 < a0 := fun g => h7 (hlt.mpr g)
              omega⟩))
    · skip
      rw [if_neg h9]
      refine Ev.if_eq (pc := 45) (n := (0, 0)) (tgt := 69) dX5_nextCritical_45 rfl (fun hc => ?_) (fun hc => absurd rfl hc)
      refine Ev.iinc (pc := 69) (n := (0, 0)) (L' := [(3, zi ((m : Int) + 1)), (5, zi v), (4, zr (some (ar m))), (0, zr (some T)), (1, zr last), (2, zr x)]) dX5_nextCritical_69 rfl (Nat.le_of_ble_eq_true rfl) ⟨by omega, by omega⟩ rfl ?_
      refine Ev.goto (pc := 72) (n := (0, 0)) (tgt := 4) dX5_nextCritical_72 rfl ?_
      refine Ev.perm [3, 4, 5, 0] rfl ?_
      exact ih (m + 1) x (by omega) (by omega) (KN (fun a g1 g2 => absurd (by rw [← g2]; exact (hcr.2.1 a g1).2) h9))
theorem s_nextCritical {h : zH} {T n : Nat} {F : zF} {ad dl : Int} {ar q : Nat → Nat} (hC : CT h T n F ad dl ar q) {dep : Nat → Nat} {B : Int} (hw : WF n F dep B) (hB : 24 * (60 + B) ≤ 1000000000) {len st sl dp : Int → Int} (hl : IsLen n F len) (ht : IsTm n F len st sl dp) (hP : PLN h n F len st sl dp ar q) {mm : Nat} {A : Nat → Nat} (hcr : CritTo F st sl n mm A) {k : Nat} {last r : Option Nat} (hL : NXp n ar q mm A k last) (hr : NX n ar q mm A k r) : Ev M_X5_nextCritical 0 [(0, zr (some T)), (1, zr last)] [] h (0, 0) (.inl (some (zr r)), h) := by
  refine Ev.null (pc := 0) (n := (0, 0)) dX5_nextCritical_0 ?_
  refine Ev.astore_n (pc := 1) (n := (0, 0)) (i := 2) (L' := [(2, zr none), (0, zr (some T)), (1, zr last)]) dX5_nextCritical_1 rfl (Nat.le_of_ble_eq_true rfl) rfl ?_
  refine Ev.iconst (pc := 2) (n := (0, 0)) dX5_nextCritical_2 ?_
  refine Ev.istore_n (pc := 3) (n := (0, 0)) (i := 3) (L' := [(3, zi 0), (2, zr none), (0, zr (some T)), (1, zr last)]) dX5_nextCritical_3 rfl (Nat.le_of_ble_eq_true rfl) rfl ?_
  refine Ev.perm [2, 3, 1, 0] rfl ?_
  exact s_nextC_loop hC hw hB hl ht hP hcr hL hr n 0 none (by omega) (by omega) (Or.inl ⟨rfl, fun i hi => absurd hi (Nat.not_lt_zero _)⟩)
theorem s_critNum_loop {h : zH} {T n : Nat} {F : zF} {ad dl : Int} {ar q : Nat → Nat} (hC : CT h T n F ad dl ar q) {dep : Nat → Nat} {B : Int} (hw : WF n F dep B) (hB : 24 * (60 + B) ≤ 1000000000) {len st sl dp : Int → Int} (hl : IsLen n F len) (ht : IsTm n F len st sl dp) (hP : PLN h n F len st sl dp ar q) {mm : Nat} {A : Nat → Nat} (hcr : CritTo F st sl n mm A) {t : Int} (ht0 : 0 ≤ t ∧ t < n) : ∀ (j i : Nat) (r : Option Nat), (i : Int) ≤ t → t.toNat - i = j → NX n ar q mm A i r → Ev M_X5_criticalNumber 18 [(0, zr (some T)), (1, zi t), (2, zr r), (3, zi (i : Int))] [] h (0, 0) (.inl (some (zi (if t < mm then F (A t.toNat) 0 else -1))), h) := by
  intro j
  have hn := hC.n24
  induction j with
  | zero =>
    intro i r hi hj hr
    have e : i = t.toNat := by omega
    rcases hr with ⟨h1, p, hp, rfl, h2⟩ | ⟨h1, rfl⟩
    · rw [if_pos (by omega), ← e, ← h2]
      refine Ev.iload_n (pc := 18) (n := (0, 0)) (i := 3) dX5_criticalNumber_18 rfl rfl ?_
      refine Ev.iload_n (pc := 19) (n := (0, 0)) (i := 1) dX5_criticalNumber_19 rfl rfl ?_
      refine Ev.icmp_ge (pc := 20) (n := (0, 0)) (tgt := 39) dX5_criticalNumber_20 rfl (fun hc => ?_) (fun hc => absurd hc (by omega))
      refine Ev.aload_n (pc := 39) (n := (0, 0)) (i := 2) dX5_criticalNumber_39 rfl rfl ?_
      refine Ev.ifnonnull (pc := 40) (n := (0, 0)) (tgt := 47) dX5_criticalNumber_40 rfl (fun x9 hc => ?_) (fun hc => nomatch hc)
      refine Ev.aload_n (pc := 47) (n := (0, 0)) (i := 2) dX5_criticalNumber_47 rfl rfl ?_
      refine Ev.gI (pc := 48) (n := (0, 0)) (x := (F (q p) 0)) dX5_criticalNumber_48 fl_X5_35 (hC.nd hp).1 rfl (hC.c0 hp) ?_
      exact Ev.iret dX5_criticalNumber_51 rfl ⟨(Nat.le_of_ble_eq_true rfl), (Nat.le_of_ble_eq_true rfl)⟩
    · rw [if_neg (by omega)]
      refine Ev.iload_n (pc := 18) (n := (0, 0)) (i := 3) dX5_criticalNumber_18 rfl rfl ?_
      refine Ev.iload_n (pc := 19) (n := (0, 0)) (i := 1) dX5_criticalNumber_19 rfl rfl ?_
      refine Ev.icmp_ge (pc := 20) (n := (0, 0)) (tgt := 39) dX5_criticalNumber_20 rfl (fun hc => ?_) (fun hc => absurd hc (by omega))
      refine Ev.aload_n (pc := 39) (n := (0, 0)) (i := 2) dX5_criticalNumber_39 rfl rfl ?_
      refine Ev.ifnonnull (pc := 40) (n := (0, 0)) (tgt := 47) dX5_criticalNumber_40 rfl (fun x9 hc => nomatch hc) (fun hc => ?_)
      refine Ev.iconst (pc := 43) (n := (0, 0)) dX5_criticalNumber_43 ?_
      refine Ev.goto (pc := 44) (n := (0, 0)) (tgt := 51) dX5_criticalNumber_44 rfl ?_
      exact Ev.iret dX5_criticalNumber_51 rfl ⟨(Nat.le_of_ble_eq_true rfl), (Nat.le_of_ble_eq_true rfl)⟩
  | succ j ih =>
    intro i r hi hj hr
    rcases hr with ⟨h1, p, hp, rfl, h2⟩ | ⟨h1, rfl⟩
    · obtain ⟨r2, hr2⟩ := NX.ex (ar := ar) (mm := mm) (A := A) (fun k hk => hC.onto hk) (fun j hj => (hcr.2.1 j hj).1) (i + 1)
      refine Ev.iload_n (pc := 18) (n := (0, 0)) (i := 3) dX5_criticalNumber_18 rfl rfl ?_
      refine Ev.iload_n (pc := 19) (n := (0, 0)) (i := 1) dX5_criticalNumber_19 rfl rfl ?_
      refine Ev.icmp_ge (pc := 20) (n := (0, 0)) (tgt := 39) dX5_criticalNumber_20 rfl (fun hc => absurd hc (by omega)) (fun hc => ?_)
      refine Ev.aload_n (pc := 23) (n := (0, 0)) (i := 2) dX5_criticalNumber_23 rfl rfl ?_
      refine Ev.ifnull (pc := 24) (n := (0, 0)) (tgt := 39) dX5_criticalNumber_24 rfl (fun hc => nomatch hc) (fun x9 hc => ?_)
      refine Ev.aload_n (pc := 27) (n := (0, 0)) (i := 0) dX5_criticalNumber_27 rfl rfl ?_
      refine Ev.aload_n (pc := 28) (n := (0, 0)) (i := 2) dX5_criticalNumber_28 rfl rfl ?_
      refine Ev.callV (pc := 29) (n := (0, 0)) (ob := T) (as := [zr (some (ar p))]) (st := []) (s_nextCritical hC hw hB hl ht hP hcr (NX.pre hp h1 h2) hr2) dX5_criticalNumber_29 ok_X5_nextCritical (lk_X5_246 rfl) ⟨(Nat.le_of_ble_eq_true rfl), (Nat.le_of_ble_eq_true rfl)⟩ hC.1.1.1 ⟨by decide, rfl⟩ rfl (Nat.le_of_ble_eq_true rfl) (Nat.le_of_ble_eq_true rfl) ⟨(Nat.le_of_ble_eq_true rfl), (Nat.le_of_ble_eq_true rfl)⟩ ?_
      refine Ev.astore_n (pc := 32) (n := (0, 0)) (i := 2) (L' := [(2, zr r2), (0, zr (some T)), (1, zi t), (3, zi (i : Int))]) dX5_criticalNumber_32 rfl (Nat.le_of_ble_eq_true rfl) rfl ?_
      refine Ev.iinc (pc := 33) (n := (0, 0)) (L' := [(3, zi ((i : Int) + 1)), (2, zr r2), (0, zr (some T)), (1, zi t)]) dX5_criticalNumber_33 rfl (Nat.le_of_ble_eq_true rfl) ⟨by omega, by omega⟩ rfl ?_
      refine Ev.goto (pc := 36) (n := (0, 0)) (tgt := 18) dX5_criticalNumber_36 rfl ?_
      refine Ev.perm [2, 3, 1, 0] rfl ?_
      exact ih (i + 1) r2 (by omega) (by omega) hr2
    · rw [if_neg (by omega)]
      refine Ev.iload_n (pc := 18) (n := (0, 0)) (i := 3) dX5_criticalNumber_18 rfl rfl ?_
      refine Ev.iload_n (pc := 19) (n := (0, 0)) (i := 1) dX5_criticalNumber_19 rfl rfl ?_
      refine Ev.icmp_ge (pc := 20) (n := (0, 0)) (tgt := 39) dX5_criticalNumber_20 rfl (fun hc => absurd hc (by omega)) (fun hc => ?_)
      refine Ev.aload_n (pc := 23) (n := (0, 0)) (i := 2) dX5_criticalNumber_23 rfl rfl ?_
      refine Ev.ifnull (pc := 24) (n := (0, 0)) (tgt := 39) dX5_criticalNumber_24 rfl (fun hc => ?_) (fun x9 hc => nomatch hc)
      refine Ev.aload_n (pc := 39) (n := (0, 0)) (i := 2) dX5_criticalNumber_39 rfl rfl ?_
      refine Ev.ifnonnull (pc := 40) (n := (0, 0)) (tgt := 47) dX5_criticalNumber_40 rfl (fun x9 hc => nomatch hc) (fun hc => ?_)
      refine Ev.iconst (pc := 43) (n := (0, 0)) dX5_criticalNumber_43 ?_
      refine Ev.goto (pc := 44) (n := (0, 0)) (tgt := 51) dX5_criticalNumber_44 rfl ?_
      exact Ev.iret dX5_criticalNumber_51 rfl ⟨(Nat.le_of_ble_eq_true rfl), (Nat.le_of_ble_eq_true rfl)⟩
theorem s_criticalNumber {h : zH} {T n : Nat} {F : zF} {ad dl : Int} {ar q : Nat → Nat} (hC : CT h T n F ad dl ar q) {dep : Nat → Nat} {B : Int} (hw : WF n F dep B) (hB : 24 * (60 + B) ≤ 1000000000) {len st sl dp : Int → Int} (hl : IsLen n F len) (ht : IsTm n F len st sl dp) (hP : PLN h n F len st sl dp ar q) {mm : Nat} {A : Nat → Nat} (hcr : CritTo F st sl n mm A) {t : Int} (ht0 : 0 ≤ t) : Ev M_X5_criticalNumber 0 [(0, zr (some T)), (1, zi t)] [] h (0, 0) (.inl (some (zi (if t < mm then F (A t.toNat) 0 else -1))), h) := by
  refine Ev.iload_n (pc := 0) (n := (0, 0)) (i := 1) dX5_criticalNumber_0 rfl rfl ?_
  refine Ev.aload_n (pc := 1) (n := (0, 0)) (i := 0) dX5_criticalNumber_1 rfl rfl ?_
  refine Ev.gI (pc := 2) (n := (0, 0)) (x := (n : Int)) dX5_criticalNumber_2 fl_X5_20 hC.1.1.1 rfl hC.1.2.2.1 ?_
  refine Ev.icmp_lt (pc := 5) (n := (0, 0)) (tgt := 10) dX5_criticalNumber_5 rfl (fun h1 => ?_) (fun h1 => ?_)
  · skip
    obtain ⟨r, hr⟩ := NX.ex (ar := ar) (mm := mm) (A := A) (fun k hk => hC.onto hk) (fun j hj => (hcr.2.1 j hj).1) 0
    refine Ev.aload_n (pc := 10) (n := (0, 0)) (i := 0) dX5_criticalNumber_10 rfl rfl ?_
    refine Ev.null (pc := 11) (n := (0, 0)) dX5_criticalNumber_11 ?_
    refine Ev.callV (pc := 12) (n := (0, 0)) (ob := T) (as := [zr none]) (st := []) (s_nextCritical hC hw hB hl ht hP hcr (Or.inl ⟨rfl, rfl⟩) hr) dX5_criticalNumber_12 ok_X5_nextCritical (lk_X5_246 rfl) ⟨(Nat.le_of_ble_eq_true rfl), (Nat.le_of_ble_eq_true rfl)⟩ hC.1.1.1 ⟨by decide, rfl⟩ rfl (Nat.le_of_ble_eq_true rfl) (Nat.le_of_ble_eq_true rfl) ⟨(Nat.le_of_ble_eq_true rfl), (Nat.le_of_ble_eq_true rfl)⟩ ?_
    refine Ev.astore_n (pc := 15) (n := (0, 0)) (i := 2) (L' := [(2, zr r), (0, zr (some T)), (1, zi t)]) dX5_criticalNumber_15 rfl (Nat.le_of_ble_eq_true rfl) rfl ?_
    refine Ev.iconst (pc := 16) (n := (0, 0)) dX5_criticalNumber_16 ?_
    refine Ev.istore_n (pc := 17) (n := (0, 0)) (i := 3) (L' := [(3, zi 0), (2, zr r), (0, zr (some T)), (1, zi t)]) dX5_criticalNumber_17 rfl (Nat.le_of_ble_eq_true rfl) rfl ?_
    refine Ev.perm [2, 3, 1, 0] rfl ?_
    exact s_critNum_loop hC hw hB hl ht hP hcr ⟨ht0, by omega⟩ _ 0 r (by omega) rfl hr
  · skip
    have := hcr.1
    rw [if_neg (by omega)]
    refine Ev.iconst (pc := 8) (n := (0, 0)) dX5_criticalNumber_8 ?_
    exact Ev.iret dX5_criticalNumber_9 rfl ⟨(Nat.le_of_ble_eq_true rfl), (Nat.le_of_ble_eq_true rfl)⟩
theorem s_nextN_loop {h : zH} {T n : Nat} {F : zF} {ad dl : Int} {ar q : Nat → Nat} (hC : CT h T n F ad dl ar q) {dep : Nat → Nat} {B : Int} (hw : WF n F dep B) {k : Nat} {y : Int} (hy : ∀ c : Nat, c < n → (y < F c 0 ↔ k ≤ c)) {r : Option Nat} (hr : NX n ar q n (fun j => j) k r) : ∀ (j m : Nat) (x : Option Nat), m ≤ n → n - m = j → ((x = none ∧ ∀ i, i < m → q i < k) ∨ ∃ b, b < m ∧ x = some (ar b) ∧ k ≤ q b ∧ ∀ i, i < m → k ≤ q i → q b ≤ q i) → Ev M_X5_nextNumbered 4 [(0, zr (some T)), (1, zi y), (2, zr x), (3, zi (m : Int))] [] h (0, 0) (.inl (some (zr r)), h) := by
  intro j
  have hn := hC.n24
  induction j with
  | zero =>
    intro m x hm hj hI
    have e : m = n := by omega
    subst e
    have ex : x = r := by
      rcases hI with ⟨rfl, ha⟩ | ⟨b, hb, rfl, h3, ha⟩
      · rcases hr with ⟨g1, i, hi, -, e⟩ | ⟨-, e⟩
        · have := ha i hi; have e2 : q i = k := e; omega
        · exact e.symm
      · rcases hr with ⟨g1, i, hi, rfl, e⟩ | ⟨g, -⟩
        · have e2 : q i = k := e
          have := ha i hi (by omega)
          rw [hC.qin hb hi (by omega)]
        · have := hC.qlt hb; omega
    subst ex
    refine Ev.iload_n (pc := 4) (n := (0, 0)) (i := 3) dX5_nextNumbered_4 rfl rfl ?_
    refine Ev.aload_n (pc := 5) (n := (0, 0)) (i := 0) dX5_nextNumbered_5 rfl rfl ?_
    refine Ev.gI (pc := 6) (n := (0, 0)) (x := (m : Int)) dX5_nextNumbered_6 fl_X5_20 hC.1.1.1 rfl hC.1.2.2.1 ?_
    refine Ev.icmp_ge (pc := 9) (n := (0, 0)) (tgt := 54) dX5_nextNumbered_9 rfl (fun hc => ?_) (fun hc => absurd hc (by omega))
    refine Ev.aload_n (pc := 54) (n := (0, 0)) (i := 2) dX5_nextNumbered_54 rfl rfl ?_
    exact Ev.aret dX5_nextNumbered_55 rfl rfl ⟨(Nat.le_of_ble_eq_true rfl), (Nat.le_of_ble_eq_true rfl)⟩
  | succ j ih =>
    intro m x hm hj hI
    have hmn : m < n := by omega
    have hq := hC.qlt hmn
    have hym := hy (q m) hq
    have KN : (q m < k ∨ ∃ b, x = some (ar b) ∧ b < m ∧ q b ≤ q m) → ((x = none ∧ ∀ i, i < (m + 1) → q i < k) ∨ ∃ b, b < (m + 1) ∧ x = some (ar b) ∧ k ≤ q b ∧ ∀ i, i < (m + 1) → k ≤ q i → q b ≤ q i) := fun hN => by
      rcases hI with ⟨e, ha⟩ | ⟨b, hb, e, h3, ha⟩
      · refine Or.inl ⟨e, fun i hi => ?_⟩
        by_cases e2 : i = m
        · subst e2
          rcases hN with g | ⟨b, e3, -⟩
          · exact g
          · rw [e] at e3; cases e3
        · exact ha i (by omega)
      · refine Or.inr ⟨b, by omega, e, h3, fun i hi h6 => ?_⟩
        by_cases e2 : i = m
        · subst e2
          rcases hN with g | ⟨b2, e3, hb2, h7⟩
          · omega
          · rw [e] at e3
            have := hC.arin (by omega) (by omega) (Option.some.inj e3)
            subst this
            exact h7
        · exact ha i (by omega) h6
    have KY : k ≤ q m → (∀ b, x = some (ar b) → b < m → q m < q b) → (((some (ar m)) = none ∧ ∀ i, i < (m + 1) → q i < k) ∨ ∃ b, b < (m + 1) ∧ (some (ar m)) = some (ar b) ∧ k ≤ q b ∧ ∀ i, i < (m + 1) → k ≤ q i → q b ≤ q i) := fun h3 hlt => by
      refine Or.inr ⟨m, by omega, rfl, h3, fun i hi h6 => ?_⟩
      by_cases e2 : i = m
      · subst e2; exact Nat.le_refl _
      · rcases hI with ⟨e, ha⟩ | ⟨b, hb, e, g3, ha⟩
        · have := ha i (by omega); omega
        · have := hlt b e hb
          have := ha i (by omega) h6
          omega
    refine Ev.iload_n (pc := 4) (n := (0, 0)) (i := 3) dX5_nextNumbered_4 rfl rfl ?_
    refine Ev.aload_n (pc := 5) (n := (0, 0)) (i := 0) dX5_nextNumbered_5 rfl rfl ?_
    refine Ev.gI (pc := 6) (n := (0, 0)) (x := (n : Int)) dX5_nextNumbered_6 fl_X5_20 hC.1.1.1 rfl hC.1.2.2.1 ?_
    refine Ev.icmp_ge (pc := 9) (n := (0, 0)) (tgt := 54) dX5_nextNumbered_9 rfl (fun hc => absurd hc (by omega)) (fun hc => ?_)
    refine Ev.aload_n (pc := 12) (n := (0, 0)) (i := 0) dX5_nextNumbered_12 rfl rfl ?_
    refine Ev.gR (pc := 13) (n := (0, 0)) (r := (some (T + 1))) dX5_nextNumbered_13 fl_X5_11 hC.1.1.1 rfl hC.1.2.1.1 ?_
    refine Ev.iload_n (pc := 16) (n := (0, 0)) (i := 3) dX5_nextNumbered_16 rfl rfl ?_
    refine Ev.aa (pc := 17) (n := (0, 0)) (r := (some (ar m))) dX5_nextNumbered_17 hC.1.1.2.1 (by decide) (by omega) (by omega) (hC.arr hmn) ?_
    refine Ev.astore (pc := 18) (n := (0, 0)) (i := 4) (L' := [(4, zr (some (ar m))), (0, zr (some T)), (1, zi y), (2, zr x), (3, zi (m : Int))]) dX5_nextNumbered_18 (Nat.le_of_ble_eq_true rfl) rfl ?_
    refine Ev.aload (pc := 20) (n := (0, 0)) dX5_nextNumbered_20 rfl ?_
    refine Ev.gI (pc := 22) (n := (0, 0)) (x := (F (q m) 0)) dX5_nextNumbered_22 fl_X5_35 (hC.nd hmn).1 rfl (hC.c0 hmn) ?_
    refine Ev.iload_n (pc := 25) (n := (0, 0)) (i := 1) dX5_nextNumbered_25 rfl rfl ?_
    refine Ev.icmp_le (pc := 26) (n := (0, 0)) (tgt := 48) dX5_nextNumbered_26 rfl (fun h1 => ?_) (fun h1 => ?_)
    · skip
      refine Ev.iinc (pc := 48) (n := (0, 0)) (L' := [(3, zi ((m : Int) + 1)), (4, zr (some (ar m))), (0, zr (some T)), (1, zi y), (2, zr x)]) dX5_nextNumbered_48 rfl (Nat.le_of_ble_eq_true rfl) ⟨by omega, by omega⟩ rfl ?_
      refine Ev.goto (pc := 51) (n := (0, 0)) (tgt := 4) dX5_nextNumbered_51 rfl ?_
      refine Ev.perm [2, 3, 4, 0] rfl ?_
      exact ih (m + 1) x (by omega) (by omega) (KN (Or.inl (by
        have : ¬ k ≤ q m := fun g => by have := hym.mpr g; omega
        omega)))
    · skip
      have hk1 : k ≤ q m := hym.mp (by omega)
      rcases hI with ⟨rfl, ha⟩ | ⟨b, hb, rfl, h3, ha⟩
      · skip
        refine Ev.aload_n (pc := 29) (n := (0, 0)) (i := 2) dX5_nextNumbered_29 rfl rfl ?_
        refine Ev.ifnull (pc := 30) (n := (0, 0)) (tgt := 45) dX5_nextNumbered_30 rfl (fun hc => ?_) (fun x9 hc => nomatch hc)
        refine Ev.aload (pc := 45) (n := (0, 0)) dX5_nextNumbered_45 rfl ?_
        refine Ev.astore_n (pc := 47) (n := (0, 0)) (i := 2) (L' := [(2, zr (some (ar m))), (4, zr (some (ar m))), (0, zr (some T)), (1, zi y), (3, zi (m : Int))]) dX5_nextNumbered_47 rfl (Nat.le_of_ble_eq_true rfl) rfl ?_
        refine Ev.iinc (pc := 48) (n := (0, 0)) (L' := [(3, zi ((m : Int) + 1)), (2, zr (some (ar m))), (4, zr (some (ar m))), (0, zr (some T)), (1, zi y)]) dX5_nextNumbered_48 rfl (Nat.le_of_ble_eq_true rfl) ⟨by omega, by omega⟩ rfl ?_
        refine Ev.goto (pc := 51) (n := (0, 0)) (tgt := 4) dX5_nextNumbered_51 rfl ?_
        refine Ev.perm [3, 4, 1, 0] rfl ?_
        exact ih (m + 1) (some (ar m)) (by omega) (by omega) (KY hk1 (fun b e => nomatch e))
      · skip
        refine Ev.aload_n (pc := 29) (n := (0, 0)) (i := 2) dX5_nextNumbered_29 rfl rfl ?_
        refine Ev.ifnull (pc := 30) (n := (0, 0)) (tgt := 45) dX5_nextNumbered_30 rfl (fun hc => nomatch hc) (fun x9 hc => ?_)
        refine Ev.aload (pc := 33) (n := (0, 0)) dX5_nextNumbered_33 rfl ?_
        refine Ev.gI (pc := 35) (n := (0, 0)) (x := (F (q m) 0)) dX5_nextNumbered_35 fl_X5_35 (hC.nd hmn).1 rfl (hC.c0 hmn) ?_
        refine Ev.aload_n (pc := 38) (n := (0, 0)) (i := 2) dX5_nextNumbered_38 rfl rfl ?_
        refine Ev.gI (pc := 39) (n := (0, 0)) (x := (F (q b) 0)) dX5_nextNumbered_39 fl_X5_35 (hC.nd (show b < n by omega)).1 rfl (hC.c0 (show b < n by omega)) ?_
        refine Ev.icmp_ge (pc := 42) (n := (0, 0)) (tgt := 48) dX5_nextNumbered_42 rfl (fun h2 => ?_) (fun h2 => ?_)
        · skip
          refine Ev.iinc (pc := 48) (n := (0, 0)) (L' := [(3, zi ((m : Int) + 1)), (4, zr (some (ar m))), (0, zr (some T)), (1, zi y), (2, zr (some (ar b)))]) dX5_nextNumbered_48 rfl (Nat.le_of_ble_eq_true rfl) ⟨by omega, by omega⟩ rfl ?_
          refine Ev.goto (pc := 51) (n := (0, 0)) (tgt := 4) dX5_nextNumbered_51 rfl ?_
          refine Ev.perm [2, 3, 4, 0] rfl ?_
          exact ih (m + 1) (some (ar b)) (by omega) (by omega) (KN (Or.inr ⟨b, rfl, hb, by
            have : ¬ q m < q b := fun g => by have := hw.2.2.1 (q m) (q b) g (hC.qlt (by omega)); omega
            omega⟩))
        · skip
          refine Ev.aload (pc := 45) (n := (0, 0)) dX5_nextNumbered_45 rfl ?_
          refine Ev.astore_n (pc := 47) (n := (0, 0)) (i := 2) (L' := [(2, zr (some (ar m))), (4, zr (some (ar m))), (0, zr (some T)), (1, zi y), (3, zi (m : Int))]) dX5_nextNumbered_47 rfl (Nat.le_of_ble_eq_true rfl) rfl ?_
          refine Ev.iinc (pc := 48) (n := (0, 0)) (L' := [(3, zi ((m : Int) + 1)), (2, zr (some (ar m))), (4, zr (some (ar m))), (0, zr (some T)), (1, zi y)]) dX5_nextNumbered_48 rfl (Nat.le_of_ble_eq_true rfl) ⟨by omega, by omega⟩ rfl ?_
          refine Ev.goto (pc := 51) (n := (0, 0)) (tgt := 4) dX5_nextNumbered_51 rfl ?_
          refine Ev.perm [3, 4, 1, 0] rfl ?_
          exact ih (m + 1) (some (ar m)) (by omega) (by omega) (KY hk1 (fun b2 e g1 => by
            have := hC.arin (by omega) (by omega) (Option.some.inj e)
            subst this
            have : ¬ q b < q m := fun g => by have := hw.2.2.1 (q b) (q m) g hq; omega
            have : q b ≠ q m := fun g => by have := hC.qin (by omega) hmn g; omega
            omega))
theorem s_nextNumbered {h : zH} {T n : Nat} {F : zF} {ad dl : Int} {ar q : Nat → Nat} (hC : CT h T n F ad dl ar q) {dep : Nat → Nat} {B : Int} (hw : WF n F dep B) {k : Nat} {y : Int} (hy : ∀ c : Nat, c < n → (y < F c 0 ↔ k ≤ c)) {r : Option Nat} (hr : NX n ar q n (fun j => j) k r) : Ev M_X5_nextNumbered 0 [(0, zr (some T)), (1, zi y)] [] h (0, 0) (.inl (some (zr r)), h) := by
  refine Ev.null (pc := 0) (n := (0, 0)) dX5_nextNumbered_0 ?_
  refine Ev.astore_n (pc := 1) (n := (0, 0)) (i := 2) (L' := [(2, zr none), (0, zr (some T)), (1, zi y)]) dX5_nextNumbered_1 rfl (Nat.le_of_ble_eq_true rfl) rfl ?_
  refine Ev.iconst (pc := 2) (n := (0, 0)) dX5_nextNumbered_2 ?_
  refine Ev.istore_n (pc := 3) (n := (0, 0)) (i := 3) (L' := [(3, zi 0), (2, zr none), (0, zr (some T)), (1, zi y)]) dX5_nextNumbered_3 rfl (Nat.le_of_ble_eq_true rfl) rfl ?_
  refine Ev.perm [2, 3, 1, 0] rfl ?_
  exact s_nextN_loop hC hw hy hr n 0 none (by omega) (by omega) (Or.inl ⟨rfl, fun i hi => absurd hi (Nat.not_lt_zero _)⟩)
theorem s_mix (h : zH) (a v : Int) : Ev M_X6_mix 0 [(0, zl a), (2, zi v)] [] h (0, 0) (.inl (some (zl (zmix a v))), h) := by
  refine Ev.ldc2 (pc := 0) (n := (0, 0)) (own := "") dX6_mix_0 (lc_X6_165 rfl) ?_
  refine Ev.lload_n (pc := 3) (n := (0, 0)) (i := 0) dX6_mix_3 rfl rfl ?_
  refine Ev.lmul (pc := 4) (n := (0, 0)) dX6_mix_4 ?_
  refine Ev.iload_n (pc := 5) (n := (0, 0)) (i := 2) dX6_mix_5 rfl rfl ?_
  refine Ev.i2l (pc := 6) (n := (0, 0)) dX6_mix_6 ?_
  refine Ev.ladd (pc := 7) (n := (0, 0)) dX6_mix_7 ?_
  exact Ev.lret dX6_mix_8 rfl ⟨(Nat.le_of_ble_eq_true rfl), (Nat.le_of_ble_eq_true rfl)⟩
theorem s_mixN_1 {h : zH} {T n : Nat} {F : zF} {ad dl : Int} {ar q : Nat → Nat} (hC : CT h T n F ad dl ar q) {dep : Nat → Nat} {B : Int} (hw : WF n F dep B) (hB : 24 * (60 + B) ≤ 1000000000) {len st sl dp : Int → Int} (hl : IsLen n F len) (ht : IsTm n F len st sl dp) (hP : PLN h n F len st sl dp ar q) {i : Nat} (hi : i < n) {a b : Int} : ∀ (j w : Nat), w ≤ 13 → 13 - w = j → ∀ o : zO, Ev M_X5_mixNode 39 [(0, zr (some T)), (1, zl a), (3, zr (some (ar i))), (4, zl (zfold (gNode n F len st sl dp (q i)) b 13))] [] h (0, 0) o → Ev M_X5_mixNode 13 [(0, zr (some T)), (1, zl a), (3, zr (some (ar i))), (4, zl (zfold (gNode n F len st sl dp (q i)) b w)), (6, zi (w : Int))] [] h (0, 0) o := by
  intro j
  induction j with
  | zero =>
    intro w hw1 hj o K
    have e : w = 13 := by omega
    subst e
    refine Ev.iload (pc := 13) (n := (0, 0)) dX5_mixNode_13 rfl ?_
    refine Ev.bipush (pc := 15) (n := (0, 0)) dX5_mixNode_15 ?_
    refine Ev.icmp_ge (pc := 17) (n := (0, 0)) (tgt := 39) dX5_mixNode_17 rfl (fun hc => ?_) (fun hc => absurd hc (by omega))
    refine Ev.perm [0, 1, 2, 3] rfl ?_
    exact K
  | succ j ih =>
    intro w hw1 hj o K
    have k9 := ih (w + 1) (by omega) (by omega) o K
    have ez : zfold (gNode n F len st sl dp (q i)) b (w + 1) = zmix (zfold (gNode n F len st sl dp (q i)) b w) (mnode n F len st sl dp (q i) w) := rfl
    rw [ez] at k9
    refine Ev.iload (pc := 13) (n := (0, 0)) dX5_mixNode_13 rfl ?_
    refine Ev.bipush (pc := 15) (n := (0, 0)) dX5_mixNode_15 ?_
    refine Ev.icmp_ge (pc := 17) (n := (0, 0)) (tgt := 39) dX5_mixNode_17 rfl (fun hc => absurd hc (by omega)) (fun hc => ?_)
    refine Ev.lload (pc := 20) (n := (0, 0)) dX5_mixNode_20 rfl ?_
    refine Ev.aload_n (pc := 22) (n := (0, 0)) (i := 3) dX5_mixNode_22 rfl rfl ?_
    refine Ev.iload (pc := 23) (n := (0, 0)) dX5_mixNode_23 rfl ?_
    refine Ev.callV (pc := 25) (n := (0, 0)) (ob := (ar i)) (as := [zi (w : Int)]) (st := [zl (zfold (gNode n F len st sl dp (q i)) b w)]) (s_valueN hC hw hB hl ht hP hi ⟨by omega, by omega⟩) dX5_mixNode_25 ok_X3_value (lk_X5_270 rfl) ⟨(Nat.le_of_ble_eq_true rfl), (Nat.le_of_ble_eq_true rfl)⟩ (hC.nd hi).1 ⟨by decide, rfl⟩ rfl (Nat.le_of_ble_eq_true rfl) (Nat.le_of_ble_eq_true rfl) ⟨(Nat.le_of_ble_eq_true rfl), (Nat.le_of_ble_eq_true rfl)⟩ ?_
    refine Ev.callSN (pc := 28) (n := (0, 0)) (as := [zl (zfold (gNode n F len st sl dp (q i)) b w), zi (mnode n F len st sl dp (q i) w)]) (st := []) (s_mix h _ _) dX5_mixNode_28 ok_X6_mix (lk_X5_266 rfl) ⟨(Nat.le_of_ble_eq_true rfl), (Nat.le_of_ble_eq_true rfl)⟩ rfl (Nat.le_of_ble_eq_true rfl) (Nat.le_of_ble_eq_true rfl) ⟨(Nat.le_of_ble_eq_true rfl), (Nat.le_of_ble_eq_true rfl)⟩ ?_
    refine Ev.lstore (pc := 31) (n := (0, 0)) (i := 4) (L' := [(4, zl (zmix (zfold (gNode n F len st sl dp (q i)) b w) (mnode n F len st sl dp (q i) w))), (0, zr (some T)), (1, zl a), (3, zr (some (ar i))), (6, zi (w : Int))]) dX5_mixNode_31 (Nat.le_of_ble_eq_true rfl) rfl ?_
    refine Ev.iinc (pc := 33) (n := (0, 0)) (L' := [(6, zi ((w : Int) + 1)), (4, zl (zmix (zfold (gNode n F len st sl dp (q i)) b w) (mnode n F len st sl dp (q i) w))), (0, zr (some T)), (1, zl a), (3, zr (some (ar i)))]) dX5_mixNode_33 rfl (Nat.le_of_ble_eq_true rfl) ⟨by omega, by omega⟩ rfl ?_
    refine Ev.goto (pc := 36) (n := (0, 0)) (tgt := 13) dX5_mixNode_36 rfl ?_
    refine Ev.perm [2, 3, 4, 1, 0] rfl ?_
    exact k9
theorem s_mixN_2 {h : zH} {T n : Nat} {F : zF} {ad dl : Int} {ar q : Nat → Nat} (hC : CT h T n F ad dl ar q) {dep : Nat → Nat} {B : Int} (hw : WF n F dep B) (hB : 24 * (60 + B) ≤ 1000000000) {len st sl dp : Int → Int} (hl : IsLen n F len) (ht : IsTm n F len st sl dp) (hP : PLN h n F len st sl dp ar q) {i : Nat} (hi : i < n) (hg : F (q i) 1 = 0) {a b : Int} : ∀ (j w : Nat), w ≤ 16 → 16 - w = j → Ev M_X5_mixNode 42 [(0, zr (some T)), (1, zl a), (3, zr (some (ar i))), (4, zl (zfold (gRow n F len sl (q i)) b w)), (6, zi (w : Int))] [] h (0, 0) (.inl (some (zl (zfold (gRow n F len sl (q i)) b 16))), h) := by
  intro j
  induction j with
  | zero =>
    intro w hw1 hj
    have e : w = 16 := by omega
    subst e
    refine Ev.aload_n (pc := 42) (n := (0, 0)) (i := 3) dX5_mixNode_42 rfl rfl ?_
    refine Ev.gI (pc := 43) (n := (0, 0)) (x := (F (q i) 1)) dX5_mixNode_43 fl_X5_68 (hC.nd hi).1 rfl (hC.c1 hi) ?_
    refine Ev.if_ne (pc := 46) (n := (0, 0)) (tgt := 82) dX5_mixNode_46 rfl (fun hc => absurd hg hc) (fun hc => ?_)
    refine Ev.iload (pc := 49) (n := (0, 0)) dX5_mixNode_49 rfl ?_
    refine Ev.bipush (pc := 51) (n := (0, 0)) dX5_mixNode_51 ?_
    refine Ev.icmp_ge (pc := 53) (n := (0, 0)) (tgt := 82) dX5_mixNode_53 rfl (fun hc => ?_) (fun hc => absurd hc (by omega))
    refine Ev.lload (pc := 82) (n := (0, 0)) dX5_mixNode_82 rfl ?_
    exact Ev.lret dX5_mixNode_84 rfl ⟨(Nat.le_of_ble_eq_true rfl), (Nat.le_of_ble_eq_true rfl)⟩
  | succ j ih =>
    intro w hw1 hj
    have k9 := ih (w + 1) (by omega) (by omega)
    have ez : zfold (gRow n F len sl (q i)) b (w + 1) = zmix (zfold (gRow n F len sl (q i)) b w) (mrow n F len sl (q i) (F (q i) 0) ((w : Int) / 4) ((w : Int) % 4)) := rfl
    rw [ez] at k9
    refine Ev.aload_n (pc := 42) (n := (0, 0)) (i := 3) dX5_mixNode_42 rfl rfl ?_
    refine Ev.gI (pc := 43) (n := (0, 0)) (x := (F (q i) 1)) dX5_mixNode_43 fl_X5_68 (hC.nd hi).1 rfl (hC.c1 hi) ?_
    refine Ev.if_ne (pc := 46) (n := (0, 0)) (tgt := 82) dX5_mixNode_46 rfl (fun hc => absurd hg hc) (fun hc => ?_)
    refine Ev.iload (pc := 49) (n := (0, 0)) dX5_mixNode_49 rfl ?_
    refine Ev.bipush (pc := 51) (n := (0, 0)) dX5_mixNode_51 ?_
    refine Ev.icmp_ge (pc := 53) (n := (0, 0)) (tgt := 82) dX5_mixNode_53 rfl (fun hc => absurd hc (by omega)) (fun hc => ?_)
    refine Ev.lload (pc := 56) (n := (0, 0)) dX5_mixNode_56 rfl ?_
    refine Ev.aload_n (pc := 58) (n := (0, 0)) (i := 0) dX5_mixNode_58 rfl rfl ?_
    refine Ev.aload_n (pc := 59) (n := (0, 0)) (i := 3) dX5_mixNode_59 rfl rfl ?_
    refine Ev.iload (pc := 60) (n := (0, 0)) dX5_mixNode_60 rfl ?_
    refine Ev.iconst (pc := 62) (n := (0, 0)) dX5_mixNode_62 ?_
    refine Ev.idiv (pc := 63) (n := (0, 0)) dX5_mixNode_63 (by omega) (by omega) ?_
    refine Ev.iload (pc := 64) (n := (0, 0)) dX5_mixNode_64 rfl ?_
    refine Ev.iconst (pc := 66) (n := (0, 0)) dX5_mixNode_66 ?_
    refine Ev.irem (pc := 67) (n := (0, 0)) dX5_mixNode_67 (by omega) (by omega) ?_
    refine Ev.callV (pc := 68) (n := (0, 0)) (ob := T) (as := [zr (some (ar i)), zi ((w : Int) / 4), zi ((w : Int) % 4)]) (st := [zl (zfold (gRow n F len sl (q i)) b w)]) (s_rowValueC hC hw hB hl ht hP hi ⟨by omega, by omega⟩ ⟨by omega, by omega⟩) dX5_mixNode_68 ok_X5_rowValue (lk_X5_273 rfl) ⟨(Nat.le_of_ble_eq_true rfl), (Nat.le_of_ble_eq_true rfl)⟩ hC.1.1.1 ⟨by decide, rfl⟩ rfl (Nat.le_of_ble_eq_true rfl) (Nat.le_of_ble_eq_true rfl) ⟨(Nat.le_of_ble_eq_true rfl), (Nat.le_of_ble_eq_true rfl)⟩ ?_
    refine Ev.callSN (pc := 71) (n := (0, 0)) (as := [zl (zfold (gRow n F len sl (q i)) b w), zi (mrow n F len sl (q i) (F (q i) 0) ((w : Int) / 4) ((w : Int) % 4))]) (st := []) (s_mix h _ _) dX5_mixNode_71 ok_X6_mix (lk_X5_266 rfl) ⟨(Nat.le_of_ble_eq_true rfl), (Nat.le_of_ble_eq_true rfl)⟩ rfl (Nat.le_of_ble_eq_true rfl) (Nat.le_of_ble_eq_true rfl) ⟨(Nat.le_of_ble_eq_true rfl), (Nat.le_of_ble_eq_true rfl)⟩ ?_
    refine Ev.lstore (pc := 74) (n := (0, 0)) (i := 4) (L' := [(4, zl (zmix (zfold (gRow n F len sl (q i)) b w) (mrow n F len sl (q i) (F (q i) 0) ((w : Int) / 4) ((w : Int) % 4)))), (0, zr (some T)), (1, zl a), (3, zr (some (ar i))), (6, zi (w : Int))]) dX5_mixNode_74 (Nat.le_of_ble_eq_true rfl) rfl ?_
    refine Ev.iinc (pc := 76) (n := (0, 0)) (L' := [(6, zi ((w : Int) + 1)), (4, zl (zmix (zfold (gRow n F len sl (q i)) b w) (mrow n F len sl (q i) (F (q i) 0) ((w : Int) / 4) ((w : Int) % 4)))), (0, zr (some T)), (1, zl a), (3, zr (some (ar i)))]) dX5_mixNode_76 rfl (Nat.le_of_ble_eq_true rfl) ⟨by omega, by omega⟩ rfl ?_
    refine Ev.goto (pc := 79) (n := (0, 0)) (tgt := 42) dX5_mixNode_79 rfl ?_
    refine Ev.perm [2, 3, 4, 1, 0] rfl ?_
    exact k9
theorem s_mixNode {h : zH} {T n : Nat} {F : zF} {ad dl : Int} {ar q : Nat → Nat} (hC : CT h T n F ad dl ar q) {dep : Nat → Nat} {B : Int} (hw : WF n F dep B) (hB : 24 * (60 + B) ≤ 1000000000) {len st sl dp : Int → Int} (hl : IsLen n F len) (ht : IsTm n F len st sl dp) (hP : PLN h n F len st sl dp ar q) {i : Nat} (hi : i < n) {a : Int} : Ev M_X5_mixNode 0 [(0, zr (some T)), (1, zl a), (3, zr (some (ar i)))] [] h (0, 0) (.inl (some (zl (dNode n F len st sl dp (q i) a))), h) := by
  have b0 := (hw.2.2.2.1 (q i) (hC.qlt hi)).1
  refine Ev.lload_n (pc := 0) (n := (0, 0)) (i := 1) dX5_mixNode_0 rfl rfl ?_
  refine Ev.aload_n (pc := 1) (n := (0, 0)) (i := 3) dX5_mixNode_1 rfl rfl ?_
  refine Ev.gI (pc := 2) (n := (0, 0)) (x := (F (q i) 0)) dX5_mixNode_2 fl_X5_35 (hC.nd hi).1 rfl (hC.c0 hi) ?_
  refine Ev.callSN (pc := 5) (n := (0, 0)) (as := [zl a, zi (F (q i) 0)]) (st := []) (s_mix h _ _) dX5_mixNode_5 ok_X6_mix (lk_X5_266 rfl) ⟨(Nat.le_of_ble_eq_true rfl), (Nat.le_of_ble_eq_true rfl)⟩ rfl (Nat.le_of_ble_eq_true rfl) (Nat.le_of_ble_eq_true rfl) ⟨(Nat.le_of_ble_eq_true rfl), (Nat.le_of_ble_eq_true rfl)⟩ ?_
  refine Ev.lstore (pc := 8) (n := (0, 0)) (i := 4) (L' := [(4, zl (zmix a (F (q i) 0))), (0, zr (some T)), (1, zl a), (3, zr (some (ar i)))]) dX5_mixNode_8 (Nat.le_of_ble_eq_true rfl) rfl ?_
  refine Ev.iconst (pc := 10) (n := (0, 0)) dX5_mixNode_10 ?_
  refine Ev.istore (pc := 11) (n := (0, 0)) (i := 6) (L' := [(6, zi 0), (4, zl (zmix a (F (q i) 0))), (0, zr (some T)), (1, zl a), (3, zr (some (ar i)))]) dX5_mixNode_11 (Nat.le_of_ble_eq_true rfl) rfl ?_
  refine Ev.perm [2, 3, 4, 1, 0] rfl ?_
  refine s_mixN_1 hC hw hB hl ht hP hi (a := a) (b := zmix a (F (q i) 0)) 13 0 (by omega) (by omega) _ ?_
  refine Ev.iconst (pc := 39) (n := (0, 0)) dX5_mixNode_39 ?_
  refine Ev.istore (pc := 40) (n := (0, 0)) (i := 6) (L' := [(6, zi 0), (0, zr (some T)), (1, zl a), (3, zr (some (ar i))), (4, zl (zfold (gNode n F len st sl dp (q i)) (zmix a (F (q i) 0)) 13))]) dX5_mixNode_40 (Nat.le_of_ble_eq_true rfl) rfl ?_
  unfold dNode
  by_cases h1 : F (q i) 1 = 0
  · skip
    rw [if_pos h1]
    refine Ev.perm [1, 2, 3, 4, 0] rfl ?_
    exact s_mixN_2 hC hw hB hl ht hP hi h1 16 0 (by omega) (by omega)
  · skip
    rw [if_neg h1]
    refine Ev.aload_n (pc := 42) (n := (0, 0)) (i := 3) dX5_mixNode_42 rfl rfl ?_
    refine Ev.gI (pc := 43) (n := (0, 0)) (x := (F (q i) 1)) dX5_mixNode_43 fl_X5_68 (hC.nd hi).1 rfl (hC.c1 hi) ?_
    refine Ev.if_ne (pc := 46) (n := (0, 0)) (tgt := 82) dX5_mixNode_46 rfl (fun hc => ?_) (fun hc => absurd hc h1)
    refine Ev.lload (pc := 82) (n := (0, 0)) dX5_mixNode_82 rfl ?_
    exact Ev.lret dX5_mixNode_84 rfl ⟨(Nat.le_of_ble_eq_true rfl), (Nat.le_of_ble_eq_true rfl)⟩
theorem WF.after {n : Nat} {F : zF} {dep : Nat → Nat} {B : Int} (hw : WF n F dep B) {k : Nat} (hk : k < n) : ∀ c : Nat, c < n → (F k 0 < F c 0 ↔ k + 1 ≤ c) := fun c hc => by
  constructor
  · intro g
    rcases Nat.lt_trichotomy k c with e | e | e
    · exact e
    · subst e; omega
    · have := hw.2.2.1 c k e hk; omega
  · intro g; exact hw.2.2.1 k c g hc
theorem s_mixNodes_loop {h : zH} {T n : Nat} {F : zF} {ad dl : Int} {ar q : Nat → Nat} (hC : CT h T n F ad dl ar q) {dep : Nat → Nat} {B : Int} (hw : WF n F dep B) (hB : 24 * (60 + B) ≤ 1000000000) {len st sl dp : Int → Int} (hl : IsLen n F len) (ht : IsTm n F len st sl dp) (hP : PLN h n F len st sl dp ar q) {a : Int} : ∀ (j i : Nat) (r : Option Nat), i ≤ n → n - i = j → NX n ar q n (fun j => j) i r → Ev M_X5_mixNodes 12 [(0, zr (some T)), (1, zl a), (3, zl (dNodes n F len st sl dp a i)), (5, zr r), (6, zi (i : Int))] [] h (0, 0) (.inl (some (zl (dNodes n F len st sl dp a n))), h) := by
  intro j
  have hn := hC.n24
  induction j with
  | zero =>
    intro i r hi hj hr
    have e : i = n := by omega
    subst e
    refine Ev.iload (pc := 12) (n := (0, 0)) dX5_mixNodes_12 rfl ?_
    refine Ev.aload_n (pc := 14) (n := (0, 0)) (i := 0) dX5_mixNodes_14 rfl rfl ?_
    refine Ev.gI (pc := 15) (n := (0, 0)) (x := (i : Int)) dX5_mixNodes_15 fl_X5_20 hC.1.1.1 rfl hC.1.2.2.1 ?_
    refine Ev.icmp_ge (pc := 18) (n := (0, 0)) (tgt := 51) dX5_mixNodes_18 rfl (fun hc => ?_) (fun hc => absurd hc (by omega))
    refine Ev.lload_n (pc := 51) (n := (0, 0)) (i := 3) dX5_mixNodes_51 rfl rfl ?_
    exact Ev.lret dX5_mixNodes_52 rfl ⟨(Nat.le_of_ble_eq_true rfl), (Nat.le_of_ble_eq_true rfl)⟩
  | succ j ih =>
    intro i r hi hj hr
    rcases hr with ⟨h1, p, hp, rfl, h2⟩ | ⟨h1, rfl⟩
    · have h2 : q p = i := h2
      obtain ⟨r2, hr2⟩ := NX.ex (ar := ar) (mm := n) (A := fun j => j) (fun k hk => hC.onto hk) (fun j hj => hj) (i + 1)
      have k9 := ih (i + 1) r2 (by omega) (by omega) hr2
      have ez : dNodes n F len st sl dp a (i + 1) = dNode n F len st sl dp i (dNodes n F len st sl dp a i) := rfl
      rw [ez, ← h2] at k9
      rw [h2] at k9
      refine Ev.iload (pc := 12) (n := (0, 0)) dX5_mixNodes_12 rfl ?_
      refine Ev.aload_n (pc := 14) (n := (0, 0)) (i := 0) dX5_mixNodes_14 rfl rfl ?_
      refine Ev.gI (pc := 15) (n := (0, 0)) (x := (n : Int)) dX5_mixNodes_15 fl_X5_20 hC.1.1.1 rfl hC.1.2.2.1 ?_
      refine Ev.icmp_ge (pc := 18) (n := (0, 0)) (tgt := 51) dX5_mixNodes_18 rfl (fun hc => absurd hc (by omega)) (fun hc => ?_)
      refine Ev.aload (pc := 21) (n := (0, 0)) dX5_mixNodes_21 rfl ?_
      refine Ev.ifnull (pc := 23) (n := (0, 0)) (tgt := 51) dX5_mixNodes_23 rfl (fun hc => nomatch hc) (fun x9 hc => ?_)
      refine Ev.aload_n (pc := 26) (n := (0, 0)) (i := 0) dX5_mixNodes_26 rfl rfl ?_
      refine Ev.lload_n (pc := 27) (n := (0, 0)) (i := 3) dX5_mixNodes_27 rfl rfl ?_
      refine Ev.aload (pc := 28) (n := (0, 0)) dX5_mixNodes_28 rfl ?_
      refine Ev.callV (pc := 30) (n := (0, 0)) (ob := T) (as := [zl (dNodes n F len st sl dp a i), zr (some (ar p))]) (st := []) (s_mixNode hC hw hB hl ht hP hp) dX5_mixNodes_30 ok_X5_mixNode (lk_X5_262 rfl) ⟨(Nat.le_of_ble_eq_true rfl), (Nat.le_of_ble_eq_true rfl)⟩ hC.1.1.1 ⟨by decide, rfl⟩ rfl (Nat.le_of_ble_eq_true rfl) (Nat.le_of_ble_eq_true rfl) ⟨(Nat.le_of_ble_eq_true rfl), (Nat.le_of_ble_eq_true rfl)⟩ ?_
      rw [h2]
      refine Ev.lstore_n (pc := 33) (n := (0, 0)) (i := 3) (L' := [(3, zl (dNode n F len st sl dp i (dNodes n F len st sl dp a i))), (0, zr (some T)), (1, zl a), (5, zr (some (ar p))), (6, zi (i : Int))]) dX5_mixNodes_33 rfl (Nat.le_of_ble_eq_true rfl) rfl ?_
      refine Ev.aload_n (pc := 34) (n := (0, 0)) (i := 0) dX5_mixNodes_34 rfl rfl ?_
      refine Ev.aload (pc := 35) (n := (0, 0)) dX5_mixNodes_35 rfl ?_
      refine Ev.gI (pc := 37) (n := (0, 0)) (x := (F (q p) 0)) dX5_mixNodes_37 fl_X5_35 (hC.nd hp).1 rfl (hC.c0 hp) ?_
      refine Ev.callV (pc := 40) (n := (0, 0)) (ob := T) (as := [zi (F (q p) 0)]) (st := []) (s_nextNumbered hC hw (y := F (q p) 0) (fun c hc => by rw [hw.after (hC.qlt hp) c hc, h2]) hr2) dX5_mixNodes_40 ok_X5_nextNumbered (lk_X5_259 rfl) ⟨(Nat.le_of_ble_eq_true rfl), (Nat.le_of_ble_eq_true rfl)⟩ hC.1.1.1 ⟨by decide, rfl⟩ rfl (Nat.le_of_ble_eq_true rfl) (Nat.le_of_ble_eq_true rfl) ⟨(Nat.le_of_ble_eq_true rfl), (Nat.le_of_ble_eq_true rfl)⟩ ?_
      refine Ev.astore (pc := 43) (n := (0, 0)) (i := 5) (L' := [(5, zr r2), (3, zl (dNode n F len st sl dp i (dNodes n F len st sl dp a i))), (0, zr (some T)), (1, zl a), (6, zi (i : Int))]) dX5_mixNodes_43 (Nat.le_of_ble_eq_true rfl) rfl ?_
      refine Ev.iinc (pc := 45) (n := (0, 0)) (L' := [(6, zi ((i : Int) + 1)), (5, zr r2), (3, zl (dNode n F len st sl dp i (dNodes n F len st sl dp a i))), (0, zr (some T)), (1, zl a)]) dX5_mixNodes_45 rfl (Nat.le_of_ble_eq_true rfl) ⟨by omega, by omega⟩ rfl ?_
      refine Ev.goto (pc := 48) (n := (0, 0)) (tgt := 12) dX5_mixNodes_48 rfl ?_
      refine Ev.perm [3, 4, 2, 1, 0] rfl ?_
      exact k9
    · omega
theorem s_mixNodes {h : zH} {T n : Nat} {F : zF} {ad dl : Int} {ar q : Nat → Nat} (hC : CT h T n F ad dl ar q) {dep : Nat → Nat} {B : Int} (hw : WF n F dep B) (hB : 24 * (60 + B) ≤ 1000000000) {len st sl dp : Int → Int} (hl : IsLen n F len) (ht : IsTm n F len st sl dp) (hP : PLN h n F len st sl dp ar q) {a : Int} : Ev M_X5_mixNodes 0 [(0, zr (some T)), (1, zl a)] [] h (0, 0) (.inl (some (zl (dNodes n F len st sl dp a n))), h) := by
  obtain ⟨r, hr⟩ := NX.ex (ar := ar) (mm := n) (A := fun j => j) (fun k hk => hC.onto hk) (fun j hj => hj) 0
  refine Ev.lload_n (pc := 0) (n := (0, 0)) (i := 1) dX5_mixNodes_0 rfl rfl ?_
  refine Ev.lstore_n (pc := 1) (n := (0, 0)) (i := 3) (L' := [(3, zl a), (0, zr (some T)), (1, zl a)]) dX5_mixNodes_1 rfl (Nat.le_of_ble_eq_true rfl) rfl ?_
  refine Ev.aload_n (pc := 2) (n := (0, 0)) (i := 0) dX5_mixNodes_2 rfl rfl ?_
  refine Ev.iconst (pc := 3) (n := (0, 0)) dX5_mixNodes_3 ?_
  refine Ev.callV (pc := 4) (n := (0, 0)) (ob := T) (as := [zi (-1)]) (st := []) (s_nextNumbered hC hw (y := -1) (fun c hc => ⟨fun _ => Nat.zero_le _, fun _ => by have := hw.num_nn hc; omega⟩) hr) dX5_mixNodes_4 ok_X5_nextNumbered (lk_X5_259 rfl) ⟨(Nat.le_of_ble_eq_true rfl), (Nat.le_of_ble_eq_true rfl)⟩ hC.1.1.1 ⟨by decide, rfl⟩ rfl (Nat.le_of_ble_eq_true rfl) (Nat.le_of_ble_eq_true rfl) ⟨(Nat.le_of_ble_eq_true rfl), (Nat.le_of_ble_eq_true rfl)⟩ ?_
  refine Ev.astore (pc := 7) (n := (0, 0)) (i := 5) (L' := [(5, zr r), (3, zl a), (0, zr (some T)), (1, zl a)]) dX5_mixNodes_7 (Nat.le_of_ble_eq_true rfl) rfl ?_
  refine Ev.iconst (pc := 9) (n := (0, 0)) dX5_mixNodes_9 ?_
  refine Ev.istore (pc := 10) (n := (0, 0)) (i := 6) (L' := [(6, zi 0), (5, zr r), (3, zl a), (0, zr (some T)), (1, zl a)]) dX5_mixNodes_10 (Nat.le_of_ble_eq_true rfl) rfl ?_
  refine Ev.perm [3, 4, 2, 1, 0] rfl ?_
  exact s_mixNodes_loop hC hw hB hl ht hP n 0 r (by omega) (by omega) hr
theorem s_mixCrit_loop {h : zH} {T n : Nat} {F : zF} {ad dl : Int} {ar q : Nat → Nat} (hC : CT h T n F ad dl ar q) {dep : Nat → Nat} {B : Int} (hw : WF n F dep B) (hB : 24 * (60 + B) ≤ 1000000000) {len st sl dp : Int → Int} (hl : IsLen n F len) (ht : IsTm n F len st sl dp) (hP : PLN h n F len st sl dp ar q) {mm : Nat} {A : Nat → Nat} (hcr : CritTo F st sl n mm A) {a : Int} : ∀ (j i : Nat) (r : Option Nat), i ≤ mm → mm - i = j → NX n ar q mm A i r → Ev M_X5_mixCritical 12 [(0, zr (some T)), (1, zl a), (3, zl (zfold (gCrit F A) a i)), (5, zr r), (6, zi (i : Int))] [] h (0, 0) (.inl (some (zl (zfold (gCrit F A) a mm))), h) := by
  intro j
  have hn := hC.n24
  have hmm := hcr.1
  induction j with
  | zero =>
    intro i r hi hj hr
    have e : i = mm := by omega
    subst e
    rcases hr with ⟨h1, -⟩ | ⟨h1, rfl⟩
    · omega
    by_cases h2 : i = n
    · skip
      refine Ev.iload (pc := 12) (n := (0, 0)) dX5_mixCritical_12 rfl ?_
      refine Ev.aload_n (pc := 14) (n := (0, 0)) (i := 0) dX5_mixCritical_14 rfl rfl ?_
      refine Ev.gI (pc := 15) (n := (0, 0)) (x := (n : Int)) dX5_mixCritical_15 fl_X5_20 hC.1.1.1 rfl hC.1.2.2.1 ?_
      refine Ev.icmp_ge (pc := 18) (n := (0, 0)) (tgt := 50) dX5_mixCritical_18 rfl (fun hc => ?_) (fun hc => absurd hc (by omega))
      refine Ev.lload_n (pc := 50) (n := (0, 0)) (i := 3) dX5_mixCritical_50 rfl rfl ?_
      exact Ev.lret dX5_mixCritical_51 rfl ⟨(Nat.le_of_ble_eq_true rfl), (Nat.le_of_ble_eq_true rfl)⟩
    · skip
      refine Ev.iload (pc := 12) (n := (0, 0)) dX5_mixCritical_12 rfl ?_
      refine Ev.aload_n (pc := 14) (n := (0, 0)) (i := 0) dX5_mixCritical_14 rfl rfl ?_
      refine Ev.gI (pc := 15) (n := (0, 0)) (x := (n : Int)) dX5_mixCritical_15 fl_X5_20 hC.1.1.1 rfl hC.1.2.2.1 ?_
      refine Ev.icmp_ge (pc := 18) (n := (0, 0)) (tgt := 50) dX5_mixCritical_18 rfl (fun hc => absurd hc (by omega)) (fun hc => ?_)
      refine Ev.aload (pc := 21) (n := (0, 0)) dX5_mixCritical_21 rfl ?_
      refine Ev.ifnull (pc := 23) (n := (0, 0)) (tgt := 50) dX5_mixCritical_23 rfl (fun hc => ?_) (fun x9 hc => nomatch hc)
      refine Ev.lload_n (pc := 50) (n := (0, 0)) (i := 3) dX5_mixCritical_50 rfl rfl ?_
      exact Ev.lret dX5_mixCritical_51 rfl ⟨(Nat.le_of_ble_eq_true rfl), (Nat.le_of_ble_eq_true rfl)⟩
  | succ j ih =>
    intro i r hi hj hr
    rcases hr with ⟨h1, p, hp, rfl, h2⟩ | ⟨h1, rfl⟩
    · obtain ⟨r2, hr2⟩ := NX.ex (ar := ar) (mm := mm) (A := A) (fun k hk => hC.onto hk) (fun j hj => (hcr.2.1 j hj).1) (i + 1)
      have k9 := ih (i + 1) r2 (by omega) (by omega) hr2
      have ez : zfold (gCrit F A) a (i + 1) = zmix (zfold (gCrit F A) a i) (F (A i) 0) := rfl
      rw [ez, ← h2] at k9
      refine Ev.iload (pc := 12) (n := (0, 0)) dX5_mixCritical_12 rfl ?_
      refine Ev.aload_n (pc := 14) (n := (0, 0)) (i := 0) dX5_mixCritical_14 rfl rfl ?_
      refine Ev.gI (pc := 15) (n := (0, 0)) (x := (n : Int)) dX5_mixCritical_15 fl_X5_20 hC.1.1.1 rfl hC.1.2.2.1 ?_
      refine Ev.icmp_ge (pc := 18) (n := (0, 0)) (tgt := 50) dX5_mixCritical_18 rfl (fun hc => absurd hc (by omega)) (fun hc => ?_)
      refine Ev.aload (pc := 21) (n := (0, 0)) dX5_mixCritical_21 rfl ?_
      refine Ev.ifnull (pc := 23) (n := (0, 0)) (tgt := 50) dX5_mixCritical_23 rfl (fun hc => nomatch hc) (fun x9 hc => ?_)
      refine Ev.lload_n (pc := 26) (n := (0, 0)) (i := 3) dX5_mixCritical_26 rfl rfl ?_
      refine Ev.aload (pc := 27) (n := (0, 0)) dX5_mixCritical_27 rfl ?_
      refine Ev.gI (pc := 29) (n := (0, 0)) (x := (F (q p) 0)) dX5_mixCritical_29 fl_X5_35 (hC.nd hp).1 rfl (hC.c0 hp) ?_
      refine Ev.callSN (pc := 32) (n := (0, 0)) (as := [zl (zfold (gCrit F A) a i), zi (F (q p) 0)]) (st := []) (s_mix h _ _) dX5_mixCritical_32 ok_X6_mix (lk_X5_266 rfl) ⟨(Nat.le_of_ble_eq_true rfl), (Nat.le_of_ble_eq_true rfl)⟩ rfl (Nat.le_of_ble_eq_true rfl) (Nat.le_of_ble_eq_true rfl) ⟨(Nat.le_of_ble_eq_true rfl), (Nat.le_of_ble_eq_true rfl)⟩ ?_
      refine Ev.lstore_n (pc := 35) (n := (0, 0)) (i := 3) (L' := [(3, zl (zmix (zfold (gCrit F A) a i) (F (q p) 0))), (0, zr (some T)), (1, zl a), (5, zr (some (ar p))), (6, zi (i : Int))]) dX5_mixCritical_35 rfl (Nat.le_of_ble_eq_true rfl) rfl ?_
      refine Ev.aload_n (pc := 36) (n := (0, 0)) (i := 0) dX5_mixCritical_36 rfl rfl ?_
      refine Ev.aload (pc := 37) (n := (0, 0)) dX5_mixCritical_37 rfl ?_
      refine Ev.callV (pc := 39) (n := (0, 0)) (ob := T) (as := [zr (some (ar p))]) (st := []) (s_nextCritical hC hw hB hl ht hP hcr (NX.pre hp h1 h2) hr2) dX5_mixCritical_39 ok_X5_nextCritical (lk_X5_246 rfl) ⟨(Nat.le_of_ble_eq_true rfl), (Nat.le_of_ble_eq_true rfl)⟩ hC.1.1.1 ⟨by decide, rfl⟩ rfl (Nat.le_of_ble_eq_true rfl) (Nat.le_of_ble_eq_true rfl) ⟨(Nat.le_of_ble_eq_true rfl), (Nat.le_of_ble_eq_true rfl)⟩ ?_
      refine Ev.astore (pc := 42) (n := (0, 0)) (i := 5) (L' := [(5, zr r2), (3, zl (zmix (zfold (gCrit F A) a i) (F (q p) 0))), (0, zr (some T)), (1, zl a), (6, zi (i : Int))]) dX5_mixCritical_42 (Nat.le_of_ble_eq_true rfl) rfl ?_
      refine Ev.iinc (pc := 44) (n := (0, 0)) (L' := [(6, zi ((i : Int) + 1)), (5, zr r2), (3, zl (zmix (zfold (gCrit F A) a i) (F (q p) 0))), (0, zr (some T)), (1, zl a)]) dX5_mixCritical_44 rfl (Nat.le_of_ble_eq_true rfl) ⟨by omega, by omega⟩ rfl ?_
      refine Ev.goto (pc := 47) (n := (0, 0)) (tgt := 12) dX5_mixCritical_47 rfl ?_
      refine Ev.perm [3, 4, 2, 1, 0] rfl ?_
      exact k9
    · omega
theorem s_mixCritical {h : zH} {T n : Nat} {F : zF} {ad dl : Int} {ar q : Nat → Nat} (hC : CT h T n F ad dl ar q) {dep : Nat → Nat} {B : Int} (hw : WF n F dep B) (hB : 24 * (60 + B) ≤ 1000000000) {len st sl dp : Int → Int} (hl : IsLen n F len) (ht : IsTm n F len st sl dp) (hP : PLN h n F len st sl dp ar q) {mm : Nat} {A : Nat → Nat} (hcr : CritTo F st sl n mm A) {a : Int} : Ev M_X5_mixCritical 0 [(0, zr (some T)), (1, zl a)] [] h (0, 0) (.inl (some (zl (zfold (gCrit F A) a mm))), h) := by
  obtain ⟨r, hr⟩ := NX.ex (ar := ar) (mm := mm) (A := A) (fun k hk => hC.onto hk) (fun j hj => (hcr.2.1 j hj).1) 0
  refine Ev.lload_n (pc := 0) (n := (0, 0)) (i := 1) dX5_mixCritical_0 rfl rfl ?_
  refine Ev.lstore_n (pc := 1) (n := (0, 0)) (i := 3) (L' := [(3, zl a), (0, zr (some T)), (1, zl a)]) dX5_mixCritical_1 rfl (Nat.le_of_ble_eq_true rfl) rfl ?_
  refine Ev.aload_n (pc := 2) (n := (0, 0)) (i := 0) dX5_mixCritical_2 rfl rfl ?_
  refine Ev.null (pc := 3) (n := (0, 0)) dX5_mixCritical_3 ?_
  refine Ev.callV (pc := 4) (n := (0, 0)) (ob := T) (as := [zr none]) (st := []) (s_nextCritical hC hw hB hl ht hP hcr (Or.inl ⟨rfl, rfl⟩) hr) dX5_mixCritical_4 ok_X5_nextCritical (lk_X5_246 rfl) ⟨(Nat.le_of_ble_eq_true rfl), (Nat.le_of_ble_eq_true rfl)⟩ hC.1.1.1 ⟨by decide, rfl⟩ rfl (Nat.le_of_ble_eq_true rfl) (Nat.le_of_ble_eq_true rfl) ⟨(Nat.le_of_ble_eq_true rfl), (Nat.le_of_ble_eq_true rfl)⟩ ?_
  refine Ev.astore (pc := 7) (n := (0, 0)) (i := 5) (L' := [(5, zr r), (3, zl a), (0, zr (some T)), (1, zl a)]) dX5_mixCritical_7 (Nat.le_of_ble_eq_true rfl) rfl ?_
  refine Ev.iconst (pc := 9) (n := (0, 0)) dX5_mixCritical_9 ?_
  refine Ev.istore (pc := 10) (n := (0, 0)) (i := 6) (L' := [(6, zi 0), (5, zr r), (3, zl a), (0, zr (some T)), (1, zl a)]) dX5_mixCritical_10 (Nat.le_of_ble_eq_true rfl) rfl ?_
  refine Ev.perm [3, 4, 2, 1, 0] rfl ?_
  exact s_mixCrit_loop hC hw hB hl ht hP hcr mm 0 r (by omega) (by omega) hr
