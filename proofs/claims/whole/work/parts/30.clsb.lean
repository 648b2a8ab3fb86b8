/-! ===== the class: trees ===== -/
def zsq (q : Nat → Nat) (g : Int → Int) (m : Nat) : Int := zsum (fun i => g (q i.toNat)) m
theorem zsq_s (q : Nat → Nat) (g : Int → Int) (m : Nat) : zsq q g (m + 1) = zsq q g m + g (q m) := rfl
theorem zsq_0 (q : Nat → Nat) (g : Int → Int) : zsq q g 0 = 0 := rfl
def Cn (h : zH) (o : Nat) (F : zF) (k : Int) : Prop := h.2.1 o 0 = F k 0 ∧ h.2.1 o 1 = F k 1 ∧ h.2.1 o 2 = F k 2 ∧ h.2.1 o 3 = F k 3 ∧ h.2.1 o 4 = F k 5 ∧ h.2.1 o 5 = F k 6
def Pm (n : Nat) (q : Nat → Nat) : Prop := (∀ i, i < n → q i < n) ∧ (∀ i j, i < n → j < n → q i = q j → i = j) ∧ q 0 = 0
def sameRow (F : zF) (k : Int) : Int → Int := fun j => if F j 2 = F k 2 ∧ F j 3 = F k 3 then 1 else 0
def Ordd (n : Nat) (F : zF) (q : Nat → Nat) : Prop := ∀ i, 1 ≤ i → i < n → F (q i) 4 = zsq q (sameRow F (q i)) i
def CT (h : zH) (T n : Nat) (F : zF) (ad dl : Int) (ar q : Nat → Nat) : Prop :=
  ((h.1[T]? = some (2, 0) ∧ h.1[T + 1]? = some (7, 24) ∧ h.1[T + 2]? = some (7, 24)) ∧ (h.2.2 T 0 = some (T + 1) ∧ h.2.2 T 1 = some (T + 2)) ∧ (h.2.1 T 2 = n ∧ h.2.1 T 3 = ad ∧ h.2.1 T 4 = dl)) ∧
  ((∀ i : Nat, i < 24 → h.2.2 (T + 1) i = some (ar i) ∧ Nd h (ar i) ∧ (h.2.1 (ar i) 1 = 0 ∨ h.2.1 (ar i) 1 = 1)) ∧ (∀ i, i < 24 → ∃ j, j < 24 ∧ ar i = T + 3 + 2 * j) ∧ (∀ i j, i < 24 → j < 24 → ar i = ar j → i = j) ∧ ar 0 = T + 3) ∧
  ((1 ≤ n ∧ n ≤ 24) ∧ Pm n q) ∧ (∀ i, i < n → Cn h (ar i) F (q i)) ∧
  (h.2.2 (ar 0) 6 = none ∧ h.2.1 (ar 0) 8 = -1 ∧ h.2.1 (ar 0) 9 = 0 ∧ h.2.1 (ar 0) 11 = 0 ∧ h.2.1 (ar 0) 12 = 0 ∧ h.2.1 (ar 0) 13 = 0) ∧ Ordd n F q
def prs (n : Nat) (F : zF) (len : Int → Int) (k : Int) : Int := if k = 0 then 0 else len (zpos n F (F k 2)) - mrl n F len (F k 2) (F k 3)
/-- what follows from a tree, told -/
def PLN (h : zH) (n : Nat) (F : zF) (len st sl dp : Int → Int) (ar q : Nat → Nat) : Prop := ∀ i, i < n →
  (h.2.1 (ar i) 8 = F (q i) 4 ∧ h.2.1 (ar i) 9 = dp (q i) ∧ h.2.1 (ar i) 10 = len (q i) ∧ h.2.1 (ar i) 11 = st (q i) ∧ h.2.1 (ar i) 12 = prs n F len (q i) ∧ h.2.1 (ar i) 13 = sl (q i)) ∧
  (∀ r : Int, 0 ≤ r → r < 4 → h.2.1 (ar i + 1) r = mrl n F len (F (q i) 0) r) ∧ (q i = 0 → h.2.2 (ar i) 6 = none) ∧ ∀ j, j < n → F (q i) 2 = F (q j) 0 → h.2.2 (ar i) 6 = some (ar j)

theorem CT.n24 {h : zH} {T n : Nat} {F : zF} {ad dl : Int} {ar q : Nat → Nat} (hC : CT h T n F ad dl ar q) : n ≤ 24 := hC.2.2.1.1.2
theorem CT.n1 {h : zH} {T n : Nat} {F : zF} {ad dl : Int} {ar q : Nat → Nat} (hC : CT h T n F ad dl ar q) : 1 ≤ n := hC.2.2.1.1.1
theorem CT.qlt {h : zH} {T n : Nat} {F : zF} {ad dl : Int} {ar q : Nat → Nat} (hC : CT h T n F ad dl ar q) {i : Nat} (hi : i < n) : q i < n := hC.2.2.1.2.1 i hi
theorem CT.qin {h : zH} {T n : Nat} {F : zF} {ad dl : Int} {ar q : Nat → Nat} (hC : CT h T n F ad dl ar q) {i j : Nat} (hi : i < n) (hj : j < n) (e : q i = q j) : i = j := hC.2.2.1.2.2.1 i j hi hj e
theorem CT.q0 {h : zH} {T n : Nat} {F : zF} {ad dl : Int} {ar q : Nat → Nat} (hC : CT h T n F ad dl ar q) : q 0 = 0 := hC.2.2.1.2.2.2
theorem CT.arr {h : zH} {T n : Nat} {F : zF} {ad dl : Int} {ar q : Nat → Nat} (hC : CT h T n F ad dl ar q) {i : Nat} (hi : i < n) : h.2.2 (T + 1) i = some (ar i) := (hC.2.1.1 i (Nat.lt_of_lt_of_le hi hC.2.2.1.1.2)).1
theorem CT.nd {h : zH} {T n : Nat} {F : zF} {ad dl : Int} {ar q : Nat → Nat} (hC : CT h T n F ad dl ar q) {i : Nat} (hi : i < n) : Nd h (ar i) := (hC.2.1.1 i (Nat.lt_of_lt_of_le hi hC.2.2.1.1.2)).2.1
theorem CT.c0 {h : zH} {T n : Nat} {F : zF} {ad dl : Int} {ar q : Nat → Nat} (hC : CT h T n F ad dl ar q) {i : Nat} (hi : i < n) : h.2.1 (ar i) 0 = F (q i) 0 := (hC.2.2.2.1 i hi).1
theorem CT.c1 {h : zH} {T n : Nat} {F : zF} {ad dl : Int} {ar q : Nat → Nat} (hC : CT h T n F ad dl ar q) {i : Nat} (hi : i < n) : h.2.1 (ar i) 1 = F (q i) 1 := (hC.2.2.2.1 i hi).2.1
theorem CT.c2 {h : zH} {T n : Nat} {F : zF} {ad dl : Int} {ar q : Nat → Nat} (hC : CT h T n F ad dl ar q) {i : Nat} (hi : i < n) : h.2.1 (ar i) 2 = F (q i) 2 := (hC.2.2.2.1 i hi).2.2.1
theorem CT.c3 {h : zH} {T n : Nat} {F : zF} {ad dl : Int} {ar q : Nat → Nat} (hC : CT h T n F ad dl ar q) {i : Nat} (hi : i < n) : h.2.1 (ar i) 3 = F (q i) 3 := (hC.2.2.2.1 i hi).2.2.2.1
theorem CT.c4 {h : zH} {T n : Nat} {F : zF} {ad dl : Int} {ar q : Nat → Nat} (hC : CT h T n F ad dl ar q) {i : Nat} (hi : i < n) : h.2.1 (ar i) 4 = F (q i) 5 := (hC.2.2.2.1 i hi).2.2.2.2.1
theorem CT.c5 {h : zH} {T n : Nat} {F : zF} {ad dl : Int} {ar q : Nat → Nat} (hC : CT h T n F ad dl ar q) {i : Nat} (hi : i < n) : h.2.1 (ar i) 5 = F (q i) 6 := (hC.2.2.2.1 i hi).2.2.2.2.2
theorem CT.onto {h : zH} {T n : Nat} {F : zF} {ad dl : Int} {ar q : Nat → Nat} (hC : CT h T n F ad dl ar q) {k : Nat} (hk : k < n) : ∃ i, i < n ∧ q i = k := zonto hC.2.2.1.2.1 hC.2.2.1.2.2.1 k hk
theorem CT.sum {h : zH} {T n : Nat} {F : zF} {ad dl : Int} {ar q : Nat → Nat} (hC : CT h T n F ad dl ar q) (g : Int → Int) : zsq q g n = zsum g n := zsum_bij hC.2.2.1.2.1 hC.2.2.1.2.2.1 g
theorem CT.arin {h : zH} {T n : Nat} {F : zF} {ad dl : Int} {ar q : Nat → Nat} (hC : CT h T n F ad dl ar q) {i j : Nat} (hi : i < n) (hj : j < n) (e : ar i = ar j) : i = j := hC.2.1.2.2.1 i j (Nat.lt_of_lt_of_le hi hC.2.2.1.1.2) (Nat.lt_of_lt_of_le hj hC.2.2.1.1.2) e
theorem PLN.p0 {h : zH} {n : Nat} {F : zF} {len st sl dp : Int → Int} {ar q : Nat → Nat} (hP : PLN h n F len st sl dp ar q) {i : Nat} (hi : i < n) : h.2.1 (ar i) 8 = F (q i) 4 := (hP i hi).1.1
theorem PLN.p1 {h : zH} {n : Nat} {F : zF} {len st sl dp : Int → Int} {ar q : Nat → Nat} (hP : PLN h n F len st sl dp ar q) {i : Nat} (hi : i < n) : h.2.1 (ar i) 9 = dp (q i) := (hP i hi).1.2.1
theorem PLN.p2 {h : zH} {n : Nat} {F : zF} {len st sl dp : Int → Int} {ar q : Nat → Nat} (hP : PLN h n F len st sl dp ar q) {i : Nat} (hi : i < n) : h.2.1 (ar i) 10 = len (q i) := (hP i hi).1.2.2.1
theorem PLN.p3 {h : zH} {n : Nat} {F : zF} {len st sl dp : Int → Int} {ar q : Nat → Nat} (hP : PLN h n F len st sl dp ar q) {i : Nat} (hi : i < n) : h.2.1 (ar i) 11 = st (q i) := (hP i hi).1.2.2.2.1
theorem PLN.p4 {h : zH} {n : Nat} {F : zF} {len st sl dp : Int → Int} {ar q : Nat → Nat} (hP : PLN h n F len st sl dp ar q) {i : Nat} (hi : i < n) : h.2.1 (ar i) 12 = prs n F len (q i) := (hP i hi).1.2.2.2.2.1
theorem PLN.p5 {h : zH} {n : Nat} {F : zF} {len st sl dp : Int → Int} {ar q : Nat → Nat} (hP : PLN h n F len st sl dp ar q) {i : Nat} (hi : i < n) : h.2.1 (ar i) 13 = sl (q i) := (hP i hi).1.2.2.2.2.2
theorem zsq_bd {q : Nat → Nat} {g : Int → Int} {b : Int} (hb : 0 ≤ b) {m : Nat} (h : ∀ i : Nat, i < m → 0 ≤ g (q i) ∧ g (q i) ≤ b) : 0 ≤ zsq q g m ∧ zsq q g m ≤ m * b := zsum_rng (fun i => g (q i.toNat)) hb m (fun k hk => h k hk)
theorem s_findN_loop {h : zH} {T n : Nat} {F : zF} {ad dl : Int} {ar q : Nat → Nat} (hC : CT h T n F ad dl ar q) {x : Int} : ∀ (j m : Nat), m ≤ n → n - m = j → (∀ i, i < m → F (q i) 0 ≠ x) → ∃ r : Option Nat, ((∃ i, i < n ∧ r = some (ar i) ∧ F (q i) 0 = x) ∨ (r = none ∧ ∀ i, i < n → F (q i) 0 ≠ x)) ∧ Ev M_X5_find 2 [(0, zr (some T)), (1, zi x), (2, zi (m : Int))] [] h (0, 0) (.inl (some (zr r)), h) := by
  intro j
  have hn := hC.n24
  induction j with
  | zero =>
    intro m hm hj ha
    have e : m = n := by omega
    subst e
    refine ⟨none, Or.inr ⟨rfl, ha⟩, ?_⟩
    refine Ev.iload_n (pc := 2) (n := (0, 0)) (i := 2) dX5_find_2 rfl rfl ?_
    refine Ev.aload_n (pc := 3) (n := (0, 0)) (i := 0) dX5_find_3 rfl rfl ?_
    refine Ev.gI (pc := 4) (n := (0, 0)) (x := (m : Int)) dX5_find_4 fl_X5_20 hC.1.1.1 rfl hC.1.2.2.1 ?_
    refine Ev.icmp_ge (pc := 7) (n := (0, 0)) (tgt := 36) dX5_find_7 rfl (fun hc => ?_) (fun hc => absurd hc (by omega))
    refine Ev.null (pc := 36) (n := (0, 0)) dX5_find_36 ?_
    exact Ev.aret dX5_find_37 rfl rfl ⟨(Nat.le_of_ble_eq_true rfl), (Nat.le_of_ble_eq_true rfl)⟩
  | succ j ih =>
    intro m hm hj ha
    have hmn : m < n := by omega
    by_cases h1 : F (q m) 0 = x
    · refine ⟨some (ar m), Or.inl ⟨m, hmn, rfl, h1⟩, ?_⟩
      refine Ev.iload_n (pc := 2) (n := (0, 0)) (i := 2) dX5_find_2 rfl rfl ?_
      refine Ev.aload_n (pc := 3) (n := (0, 0)) (i := 0) dX5_find_3 rfl rfl ?_
      refine Ev.gI (pc := 4) (n := (0, 0)) (x := (n : Int)) dX5_find_4 fl_X5_20 hC.1.1.1 rfl hC.1.2.2.1 ?_
      refine Ev.icmp_ge (pc := 7) (n := (0, 0)) (tgt := 36) dX5_find_7 rfl (fun hc => absurd hc (by omega)) (fun hc => ?_)
      refine Ev.aload_n (pc := 10) (n := (0, 0)) (i := 0) dX5_find_10 rfl rfl ?_
      refine Ev.gR (pc := 11) (n := (0, 0)) (r := (some (T + 1))) dX5_find_11 fl_X5_11 hC.1.1.1 rfl hC.1.2.1.1 ?_
      refine Ev.iload_n (pc := 14) (n := (0, 0)) (i := 2) dX5_find_14 rfl rfl ?_
      refine Ev.aa (pc := 15) (n := (0, 0)) (r := (some (ar m))) dX5_find_15 hC.1.1.2.1 (by decide) (by omega) (by omega) (hC.arr hmn) ?_
      refine Ev.gI (pc := 16) (n := (0, 0)) (x := (F (q m) 0)) dX5_find_16 fl_X5_35 (hC.nd hmn).1 rfl (hC.c0 hmn) ?_
      refine Ev.iload_n (pc := 19) (n := (0, 0)) (i := 1) dX5_find_19 rfl rfl ?_
      refine Ev.icmp_ne (pc := 20) (n := (0, 0)) (tgt := 30) dX5_find_20 rfl (fun hc2 => absurd h1 hc2) (fun hc2 => ?_)
      refine Ev.aload_n (pc := 23) (n := (0, 0)) (i := 0) dX5_find_23 rfl rfl ?_
      refine Ev.gR (pc := 24) (n := (0, 0)) (r := (some (T + 1))) dX5_find_24 fl_X5_11 hC.1.1.1 rfl hC.1.2.1.1 ?_
      refine Ev.iload_n (pc := 27) (n := (0, 0)) (i := 2) dX5_find_27 rfl rfl ?_
      refine Ev.aa (pc := 28) (n := (0, 0)) (r := (some (ar m))) dX5_find_28 hC.1.1.2.1 (by decide) (by omega) (by omega) (hC.arr hmn) ?_
      exact Ev.aret dX5_find_29 rfl rfl ⟨(Nat.le_of_ble_eq_true rfl), (Nat.le_of_ble_eq_true rfl)⟩
    · obtain ⟨r, h2, h3⟩ := ih (m + 1) (by omega) (by omega) (fun i hi => by
        by_cases e : i = m
        · subst e; exact h1
        · exact ha i (by omega))
      refine ⟨r, h2, ?_⟩
      refine Ev.iload_n (pc := 2) (n := (0, 0)) (i := 2) dX5_find_2 rfl rfl ?_
      refine Ev.aload_n (pc := 3) (n := (0, 0)) (i := 0) dX5_find_3 rfl rfl ?_
      refine Ev.gI (pc := 4) (n := (0, 0)) (x := (n : Int)) dX5_find_4 fl_X5_20 hC.1.1.1 rfl hC.1.2.2.1 ?_
      refine Ev.icmp_ge (pc := 7) (n := (0, 0)) (tgt := 36) dX5_find_7 rfl (fun hc => absurd hc (by omega)) (fun hc => ?_)
      refine Ev.aload_n (pc := 10) (n := (0, 0)) (i := 0) dX5_find_10 rfl rfl ?_
      refine Ev.gR (pc := 11) (n := (0, 0)) (r := (some (T + 1))) dX5_find_11 fl_X5_11 hC.1.1.1 rfl hC.1.2.1.1 ?_
      refine Ev.iload_n (pc := 14) (n := (0, 0)) (i := 2) dX5_find_14 rfl rfl ?_
      refine Ev.aa (pc := 15) (n := (0, 0)) (r := (some (ar m))) dX5_find_15 hC.1.1.2.1 (by decide) (by omega) (by omega) (hC.arr hmn) ?_
      refine Ev.gI (pc := 16) (n := (0, 0)) (x := (F (q m) 0)) dX5_find_16 fl_X5_35 (hC.nd hmn).1 rfl (hC.c0 hmn) ?_
      refine Ev.iload_n (pc := 19) (n := (0, 0)) (i := 1) dX5_find_19 rfl rfl ?_
      refine Ev.icmp_ne (pc := 20) (n := (0, 0)) (tgt := 30) dX5_find_20 rfl (fun hc2 => ?_) (fun hc2 => absurd hc2 h1)
      refine Ev.iinc (pc := 30) (n := (0, 0)) (L' := [(2, zi ((m : Int) + 1)), (0, zr (some T)), (1, zi x)]) dX5_find_30 rfl (Nat.le_of_ble_eq_true rfl) ⟨by omega, by omega⟩ rfl ?_
      refine Ev.goto (pc := 33) (n := (0, 0)) (tgt := 2) dX5_find_33 rfl ?_
      refine Ev.perm [1, 2, 0] rfl ?_
      exact h3
theorem s_findN {h : zH} {T n : Nat} {F : zF} {ad dl : Int} {ar q : Nat → Nat} (hC : CT h T n F ad dl ar q) {x : Int} : ∃ r : Option Nat, ((∃ i, i < n ∧ r = some (ar i) ∧ F (q i) 0 = x) ∨ (r = none ∧ ∀ i, i < n → F (q i) 0 ≠ x)) ∧ Ev M_X5_find 0 [(0, zr (some T)), (1, zi x)] [] h (0, 0) (.inl (some (zr r)), h) := by
  obtain ⟨r, h2, h3⟩ := s_findN_loop hC (x := x) n 0 (by omega) (by omega) (fun i hi => absurd hi (Nat.not_lt_zero _))
  refine ⟨r, h2, ?_⟩
  refine Ev.iconst (pc := 0) (n := (0, 0)) dX5_find_0 ?_
  refine Ev.istore_n (pc := 1) (n := (0, 0)) (i := 2) (L' := [(2, zi 0), (0, zr (some T)), (1, zi x)]) dX5_find_1 rfl (Nat.le_of_ble_eq_true rfl) rfl ?_
  refine Ev.perm [1, 2, 0] rfl ?_
  exact h3
theorem s_find_some {h : zH} {T n : Nat} {F : zF} {ad dl : Int} {ar q : Nat → Nat} (hC : CT h T n F ad dl ar q) {dep : Nat → Nat} {B : Int} (hw : WF n F dep B) {x : Int} {k : Nat} (hz : zpos n F x = k) : ∃ i, i < n ∧ q i = k ∧ Ev M_X5_find 0 [(0, zr (some T)), (1, zi x)] [] h (0, 0) (.inl (some (zr (some (ar i)))), h) := by
  obtain ⟨hk, e0⟩ := zpos_num hz
  obtain ⟨r, h2, h3⟩ := s_findN hC (x := x)
  rcases h2 with ⟨i, hi, rfl, e⟩ | ⟨-, ha⟩
  · exact ⟨i, hi, hw.num_inj (hC.qlt hi) hk (e.trans e0.symm), h3⟩
  · obtain ⟨i, hi, e⟩ := hC.onto hk
    exact absurd (by rw [e]; exact e0) (ha i hi)
theorem s_find_none {h : zH} {T n : Nat} {F : zF} {ad dl : Int} {ar q : Nat → Nat} (hC : CT h T n F ad dl ar q) {x : Int} (hz : zpos n F x = -1) : Ev M_X5_find 0 [(0, zr (some T)), (1, zi x)] [] h (0, 0) (.inl (some (zr none)), h) := by
  obtain ⟨r, h2, h3⟩ := s_findN hC (x := x)
  rcases h2 with ⟨i, hi, rfl, e⟩ | ⟨rfl, -⟩
  · rcases zfnd_cases (fun j => F j 0) x n with ⟨-, ha⟩ | ⟨k, hk, e2, -⟩
    · exact absurd e (ha (q i) (hC.qlt hi))
    · have e3 : zpos n F x = k := e2
      omega
  · exact h3
theorem s_endC {h : zH} {T n : Nat} {F : zF} {ad dl : Int} {ar q : Nat → Nat} (hC : CT h T n F ad dl ar q) {len st sl dp : Int → Int} (hP : PLN h n F len st sl dp ar q) : Ev M_X5_end 0 [(0, zr (some T))] [] h (0, 0) (.inl (some (zi (len 0))), h) := by
  have h1 := hC.n1
  refine Ev.aload_n (pc := 0) (n := (0, 0)) (i := 0) dX5_end_0 rfl rfl ?_
  refine Ev.gR (pc := 1) (n := (0, 0)) (r := (some (T + 1))) dX5_end_1 fl_X5_11 hC.1.1.1 rfl hC.1.2.1.1 ?_
  refine Ev.iconst (pc := 4) (n := (0, 0)) dX5_end_4 ?_
  refine Ev.aa (pc := 5) (n := (0, 0)) (r := (some (ar 0))) dX5_end_5 hC.1.1.2.1 (by decide) (by omega) (by omega) (hC.arr hC.n1) ?_
  refine Ev.gI (pc := 6) (n := (0, 0)) (x := (len 0)) dX5_end_6 fl_X5_82 (hC.nd hC.n1).1 rfl ((hP.p2 hC.n1).trans (by rw [hC.q0]; rfl)) ?_
  exact Ev.iret dX5_end_9 rfl ⟨(Nat.le_of_ble_eq_true rfl), (Nat.le_of_ble_eq_true rfl)⟩
theorem s_latenessC {h : zH} {T n : Nat} {F : zF} {ad dl : Int} {ar q : Nat → Nat} (hC : CT h T n F ad dl ar q) {len st sl dp : Int → Int} (hP : PLN h n F len st sl dp ar q) (hb : 0 ≤ len 0 ∧ len 0 ≤ 1000000000) (hd : 0 ≤ dl ∧ dl ≤ 999) : Ev M_X5_lateness 0 [(0, zr (some T))] [] h (0, 0) (.inl (some (zi (mlate (len 0) dl))), h) := by
  refine Ev.iconst (pc := 0) (n := (0, 0)) dX5_lateness_0 ?_
  refine Ev.aload_n (pc := 1) (n := (0, 0)) (i := 0) dX5_lateness_1 rfl rfl ?_
  refine Ev.callV (pc := 2) (n := (0, 0)) (ob := T) (as := []) (st := [zi 0]) (s_endC hC hP) dX5_lateness_2 ok_X5_end (lk_X5_194 rfl) ⟨(Nat.le_of_ble_eq_true rfl), (Nat.le_of_ble_eq_true rfl)⟩ hC.1.1.1 ⟨by decide, rfl⟩ rfl (Nat.le_of_ble_eq_true rfl) (Nat.le_of_ble_eq_true rfl) ⟨(Nat.le_of_ble_eq_true rfl), (Nat.le_of_ble_eq_true rfl)⟩ ?_
  refine Ev.aload_n (pc := 5) (n := (0, 0)) (i := 0) dX5_lateness_5 rfl rfl ?_
  refine Ev.gI (pc := 6) (n := (0, 0)) (x := dl) dX5_lateness_6 fl_X5_27 hC.1.1.1 rfl hC.1.2.2.2.2 ?_
  refine Ev.isub (pc := 9) (n := (0, 0)) dX5_lateness_9 ⟨by omega, by omega⟩ ?_
  refine Ev.mmax (pc := 10) (n := (0, 0)) dX5_lateness_10 (lk_X5_197 rfl) ⟨(Nat.le_of_ble_eq_true rfl), (Nat.le_of_ble_eq_true rfl)⟩ (Nat.le_of_ble_eq_true rfl) ⟨(Nat.le_of_ble_eq_true rfl), (Nat.le_of_ble_eq_true rfl)⟩ ?_
  exact Ev.iret dX5_lateness_13 rfl ⟨(Nat.le_of_ble_eq_true rfl), (Nat.le_of_ble_eq_true rfl)⟩
theorem s_countTasks_loop {h : zH} {T n : Nat} {F : zF} {ad dl : Int} {ar q : Nat → Nat} (hC : CT h T n F ad dl ar q) {dep : Nat → Nat} {B : Int} (hw : WF n F dep B)  : ∀ (j m : Nat), m ≤ n → n - m = j → Ev M_X5_countTasks 4 [(0, zr (some T)), (1, zi (zsq q (fun k => if F k 1 = 1 then 1 else 0) m)), (2, zi (m : Int))] [] h (0, 0) (.inl (some (zi (zsum (fun k => if F k 1 = 1 then 1 else 0) n))), h) := by
  intro j
  have hn := hC.n24
  induction j with
  | zero =>
    intro m hm hj
    have e : m = n := by omega
    subst e
    rw [← hC.sum]
    refine Ev.iload_n (pc := 4) (n := (0, 0)) (i := 2) dX5_countTasks_4 rfl rfl ?_
    refine Ev.aload_n (pc := 5) (n := (0, 0)) (i := 0) dX5_countTasks_5 rfl rfl ?_
    refine Ev.gI (pc := 6) (n := (0, 0)) (x := (m : Int)) dX5_countTasks_6 fl_X5_20 hC.1.1.1 rfl hC.1.2.2.1 ?_
    refine Ev.icmp_ge (pc := 9) (n := (0, 0)) (tgt := 38) dX5_countTasks_9 rfl (fun hc => ?_) (fun hc => absurd hc (by omega))
    refine Ev.iload_n (pc := 38) (n := (0, 0)) (i := 1) dX5_countTasks_38 rfl rfl ?_
    exact Ev.iret dX5_countTasks_39 rfl ⟨(Nat.le_of_ble_eq_true rfl), (Nat.le_of_ble_eq_true rfl)⟩
  | succ j ih =>
    intro m hm hj
    have hmn : m < n := by omega
    have hq := hC.qlt hmn
    have k9 := ih (m + 1) (by omega) (by omega)
    have hs := zsq_bd (q := q) (g := (fun k => if F k 1 = 1 then 1 else 0)) (b := 1) (by omega) (m := m) (fun i hi => by
      show 0 ≤ (if F (q i) 1 = 1 then (1 : Int) else 0) ∧ (if F (q i) 1 = 1 then (1 : Int) else 0) ≤ 1
      split <;> omega)
    have ez : zsq q (fun k => if F k 1 = 1 then 1 else 0) (m + 1) = zsq q (fun k => if F k 1 = 1 then 1 else 0) m + (fun k => if F k 1 = 1 then 1 else 0) (q m) := rfl
    rw [ez] at k9
    have eg : ((fun k => if F k 1 = 1 then 1 else 0) (q m) : Int) = (if F (q m) 1 = 1 then 1 else 0) := rfl
    rw [eg] at k9
    refine Ev.iload_n (pc := 4) (n := (0, 0)) (i := 2) dX5_countTasks_4 rfl rfl ?_
    refine Ev.aload_n (pc := 5) (n := (0, 0)) (i := 0) dX5_countTasks_5 rfl rfl ?_
    refine Ev.gI (pc := 6) (n := (0, 0)) (x := (n : Int)) dX5_countTasks_6 fl_X5_20 hC.1.1.1 rfl hC.1.2.2.1 ?_
    refine Ev.icmp_ge (pc := 9) (n := (0, 0)) (tgt := 38) dX5_countTasks_9 rfl (fun hc => absurd hc (by omega)) (fun hc => ?_)
    have b0 := (hw.2.2.2.1 (q m) hq).1
    refine Ev.iload_n (pc := 12) (n := (0, 0)) (i := 1) dX5_countTasks_12 rfl rfl ?_
    refine Ev.aload_n (pc := 13) (n := (0, 0)) (i := 0) dX5_countTasks_13 rfl rfl ?_
    refine Ev.gR (pc := 14) (n := (0, 0)) (r := (some (T + 1))) dX5_countTasks_14 fl_X5_11 hC.1.1.1 rfl hC.1.2.1.1 ?_
    refine Ev.iload_n (pc := 17) (n := (0, 0)) (i := 2) dX5_countTasks_17 rfl rfl ?_
    refine Ev.aa (pc := 18) (n := (0, 0)) (r := (some (ar m))) dX5_countTasks_18 hC.1.1.2.1 (by decide) (by omega) (by omega) (hC.arr hmn) ?_
    refine Ev.gI (pc := 19) (n := (0, 0)) (x := (F (q m) 1)) dX5_countTasks_19 fl_X5_68 (hC.nd hmn).1 rfl (hC.c1 hmn) ?_
    refine Ev.if_eq (pc := 22) (n := (0, 0)) (tgt := 29) dX5_countTasks_22 rfl (fun h1 => ?_) (fun h1 => ?_)
    · skip
      rw [if_neg (by omega)] at k9
      refine Ev.iconst (pc := 29) (n := (0, 0)) dX5_countTasks_29 ?_
      refine Ev.iadd (pc := 30) (n := (0, 0)) dX5_countTasks_30 ⟨by omega, by omega⟩ ?_
      refine Ev.istore_n (pc := 31) (n := (0, 0)) (i := 1) (L' := [(1, zi ((zsq q (fun k => if F k 1 = 1 then 1 else 0) m) + 0)), (0, zr (some T)), (2, zi (m : Int))]) dX5_countTasks_31 rfl (Nat.le_of_ble_eq_true rfl) rfl ?_
      refine Ev.iinc (pc := 32) (n := (0, 0)) (L' := [(2, zi ((m : Int) + 1)), (1, zi ((zsq q (fun k => if F k 1 = 1 then 1 else 0) m) + 0)), (0, zr (some T))]) dX5_countTasks_32 rfl (Nat.le_of_ble_eq_true rfl) ⟨by omega, by omega⟩ rfl ?_
      refine Ev.goto (pc := 35) (n := (0, 0)) (tgt := 4) dX5_countTasks_35 rfl ?_
      refine Ev.perm [2, 1, 0] rfl ?_
      exact k9
    · skip
      rw [if_pos (by omega)] at k9
      refine Ev.iconst (pc := 25) (n := (0, 0)) dX5_countTasks_25 ?_
      refine Ev.goto (pc := 26) (n := (0, 0)) (tgt := 30) dX5_countTasks_26 rfl ?_
      refine Ev.iadd (pc := 30) (n := (0, 0)) dX5_countTasks_30 ⟨by omega, by omega⟩ ?_
      refine Ev.istore_n (pc := 31) (n := (0, 0)) (i := 1) (L' := [(1, zi ((zsq q (fun k => if F k 1 = 1 then 1 else 0) m) + 1)), (0, zr (some T)), (2, zi (m : Int))]) dX5_countTasks_31 rfl (Nat.le_of_ble_eq_true rfl) rfl ?_
      refine Ev.iinc (pc := 32) (n := (0, 0)) (L' := [(2, zi ((m : Int) + 1)), (1, zi ((zsq q (fun k => if F k 1 = 1 then 1 else 0) m) + 1)), (0, zr (some T))]) dX5_countTasks_32 rfl (Nat.le_of_ble_eq_true rfl) ⟨by omega, by omega⟩ rfl ?_
      refine Ev.goto (pc := 35) (n := (0, 0)) (tgt := 4) dX5_countTasks_35 rfl ?_
      refine Ev.perm [2, 1, 0] rfl ?_
      exact k9
theorem s_countTasks {h : zH} {T n : Nat} {F : zF} {ad dl : Int} {ar q : Nat → Nat} (hC : CT h T n F ad dl ar q) {dep : Nat → Nat} {B : Int} (hw : WF n F dep B)  : Ev M_X5_countTasks 0 [(0, zr (some T))] [] h (0, 0) (.inl (some (zi (zsum (fun k => if F k 1 = 1 then 1 else 0) n))), h) := by
  refine Ev.iconst (pc := 0) (n := (0, 0)) dX5_countTasks_0 ?_
  refine Ev.istore_n (pc := 1) (n := (0, 0)) (i := 1) (L' := [(1, zi 0), (0, zr (some T))]) dX5_countTasks_1 rfl (Nat.le_of_ble_eq_true rfl) rfl ?_
  refine Ev.iconst (pc := 2) (n := (0, 0)) dX5_countTasks_2 ?_
  refine Ev.istore_n (pc := 3) (n := (0, 0)) (i := 2) (L' := [(2, zi 0), (1, zi 0), (0, zr (some T))]) dX5_countTasks_3 rfl (Nat.le_of_ble_eq_true rfl) rfl ?_
  refine Ev.perm [2, 1, 0] rfl ?_
  exact s_countTasks_loop hC hw n 0 (by omega) (by omega)
theorem s_sumD_loop {h : zH} {T n : Nat} {F : zF} {ad dl : Int} {ar q : Nat → Nat} (hC : CT h T n F ad dl ar q) {dep : Nat → Nat} {B : Int} (hw : WF n F dep B)  : ∀ (j m : Nat), m ≤ n → n - m = j → Ev M_X5_sumOfDurations 4 [(0, zr (some T)), (1, zi (zsq q (fun k => F k 5) m)), (2, zi (m : Int))] [] h (0, 0) (.inl (some (zi (zsum (fun k => F k 5) n))), h) := by
  intro j
  have hn := hC.n24
  induction j with
  | zero =>
    intro m hm hj
    have e : m = n := by omega
    subst e
    rw [← hC.sum]
    refine Ev.iload_n (pc := 4) (n := (0, 0)) (i := 2) dX5_sumOfDurations_4 rfl rfl ?_
    refine Ev.aload_n (pc := 5) (n := (0, 0)) (i := 0) dX5_sumOfDurations_5 rfl rfl ?_
    refine Ev.gI (pc := 6) (n := (0, 0)) (x := (m : Int)) dX5_sumOfDurations_6 fl_X5_20 hC.1.1.1 rfl hC.1.2.2.1 ?_
    refine Ev.icmp_ge (pc := 9) (n := (0, 0)) (tgt := 46) dX5_sumOfDurations_9 rfl (fun hc => ?_) (fun hc => absurd hc (by omega))
    refine Ev.iload_n (pc := 46) (n := (0, 0)) (i := 1) dX5_sumOfDurations_46 rfl rfl ?_
    exact Ev.iret dX5_sumOfDurations_47 rfl ⟨(Nat.le_of_ble_eq_true rfl), (Nat.le_of_ble_eq_true rfl)⟩
  | succ j ih =>
    intro m hm hj
    have hmn : m < n := by omega
    have hq := hC.qlt hmn
    have k9 := ih (m + 1) (by omega) (by omega)
    have hs := zsq_bd (q := q) (g := (fun k => F k 5)) (b := 60) (by omega) (m := m) (fun i hi => (hw.2.2.2.1 (q i) (hC.qlt (by omega))).2.1)
    have ez : zsq q (fun k => F k 5) (m + 1) = zsq q (fun k => F k 5) m + (fun k => F k 5) (q m) := rfl
    rw [ez] at k9
    have eg : ((fun k => F k 5) (q m) : Int) = F (q m) 5 := rfl
    rw [eg] at k9
    refine Ev.iload_n (pc := 4) (n := (0, 0)) (i := 2) dX5_sumOfDurations_4 rfl rfl ?_
    refine Ev.aload_n (pc := 5) (n := (0, 0)) (i := 0) dX5_sumOfDurations_5 rfl rfl ?_
    refine Ev.gI (pc := 6) (n := (0, 0)) (x := (n : Int)) dX5_sumOfDurations_6 fl_X5_20 hC.1.1.1 rfl hC.1.2.2.1 ?_
    refine Ev.icmp_ge (pc := 9) (n := (0, 0)) (tgt := 46) dX5_sumOfDurations_9 rfl (fun hc => absurd hc (by omega)) (fun hc => ?_)
    have b0 := hw.2.2.2.1 (q m) hq
    refine Ev.iload_n (pc := 12) (n := (0, 0)) (i := 1) dX5_sumOfDurations_12 rfl rfl ?_
    refine Ev.aload_n (pc := 13) (n := (0, 0)) (i := 0) dX5_sumOfDurations_13 rfl rfl ?_
    refine Ev.gR (pc := 14) (n := (0, 0)) (r := (some (T + 1))) dX5_sumOfDurations_14 fl_X5_11 hC.1.1.1 rfl hC.1.2.1.1 ?_
    refine Ev.iload_n (pc := 17) (n := (0, 0)) (i := 2) dX5_sumOfDurations_17 rfl rfl ?_
    refine Ev.aa (pc := 18) (n := (0, 0)) (r := (some (ar m))) dX5_sumOfDurations_18 hC.1.1.2.1 (by decide) (by omega) (by omega) (hC.arr hmn) ?_
    refine Ev.gI (pc := 19) (n := (0, 0)) (x := (F (q m) 1)) dX5_sumOfDurations_19 fl_X5_68 (hC.nd hmn).1 rfl (hC.c1 hmn) ?_
    refine Ev.if_eq (pc := 22) (n := (0, 0)) (tgt := 37) dX5_sumOfDurations_22 rfl (fun h1 => ?_) (fun h1 => ?_)
    · skip
      rw [show F (q m) 5 = 0 from (b0.2.2.2 (by omega)).1] at k9
      refine Ev.iconst (pc := 37) (n := (0, 0)) dX5_sumOfDurations_37 ?_
      refine Ev.iadd (pc := 38) (n := (0, 0)) dX5_sumOfDurations_38 ⟨by omega, by omega⟩ ?_
      refine Ev.istore_n (pc := 39) (n := (0, 0)) (i := 1) (L' := [(1, zi ((zsq q (fun k => F k 5) m) + 0)), (0, zr (some T)), (2, zi (m : Int))]) dX5_sumOfDurations_39 rfl (Nat.le_of_ble_eq_true rfl) rfl ?_
      refine Ev.iinc (pc := 40) (n := (0, 0)) (L' := [(2, zi ((m : Int) + 1)), (1, zi ((zsq q (fun k => F k 5) m) + 0)), (0, zr (some T))]) dX5_sumOfDurations_40 rfl (Nat.le_of_ble_eq_true rfl) ⟨by omega, by omega⟩ rfl ?_
      refine Ev.goto (pc := 43) (n := (0, 0)) (tgt := 4) dX5_sumOfDurations_43 rfl ?_
      refine Ev.perm [2, 1, 0] rfl ?_
      exact k9
    · skip
      refine Ev.aload_n (pc := 25) (n := (0, 0)) (i := 0) dX5_sumOfDurations_25 rfl rfl ?_
      refine Ev.gR (pc := 26) (n := (0, 0)) (r := (some (T + 1))) dX5_sumOfDurations_26 fl_X5_11 hC.1.1.1 rfl hC.1.2.1.1 ?_
      refine Ev.iload_n (pc := 29) (n := (0, 0)) (i := 2) dX5_sumOfDurations_29 rfl rfl ?_
      refine Ev.aa (pc := 30) (n := (0, 0)) (r := (some (ar m))) dX5_sumOfDurations_30 hC.1.1.2.1 (by decide) (by omega) (by omega) (hC.arr hmn) ?_
      refine Ev.gI (pc := 31) (n := (0, 0)) (x := (F (q m) 5)) dX5_sumOfDurations_31 fl_X5_72 (hC.nd hmn).1 rfl (hC.c4 hmn) ?_
      refine Ev.goto (pc := 34) (n := (0, 0)) (tgt := 38) dX5_sumOfDurations_34 rfl ?_
      refine Ev.iadd (pc := 38) (n := (0, 0)) dX5_sumOfDurations_38 ⟨by omega, by omega⟩ ?_
      refine Ev.istore_n (pc := 39) (n := (0, 0)) (i := 1) (L' := [(1, zi ((zsq q (fun k => F k 5) m) + (F (q m) 5))), (0, zr (some T)), (2, zi (m : Int))]) dX5_sumOfDurations_39 rfl (Nat.le_of_ble_eq_true rfl) rfl ?_
      refine Ev.iinc (pc := 40) (n := (0, 0)) (L' := [(2, zi ((m : Int) + 1)), (1, zi ((zsq q (fun k => F k 5) m) + (F (q m) 5))), (0, zr (some T))]) dX5_sumOfDurations_40 rfl (Nat.le_of_ble_eq_true rfl) ⟨by omega, by omega⟩ rfl ?_
      refine Ev.goto (pc := 43) (n := (0, 0)) (tgt := 4) dX5_sumOfDurations_43 rfl ?_
      refine Ev.perm [2, 1, 0] rfl ?_
      exact k9
theorem s_sumD {h : zH} {T n : Nat} {F : zF} {ad dl : Int} {ar q : Nat → Nat} (hC : CT h T n F ad dl ar q) {dep : Nat → Nat} {B : Int} (hw : WF n F dep B)  : Ev M_X5_sumOfDurations 0 [(0, zr (some T))] [] h (0, 0) (.inl (some (zi (zsum (fun k => F k 5) n))), h) := by
  refine Ev.iconst (pc := 0) (n := (0, 0)) dX5_sumOfDurations_0 ?_
  refine Ev.istore_n (pc := 1) (n := (0, 0)) (i := 1) (L' := [(1, zi 0), (0, zr (some T))]) dX5_sumOfDurations_1 rfl (Nat.le_of_ble_eq_true rfl) rfl ?_
  refine Ev.iconst (pc := 2) (n := (0, 0)) dX5_sumOfDurations_2 ?_
  refine Ev.istore_n (pc := 3) (n := (0, 0)) (i := 2) (L' := [(2, zi 0), (1, zi 0), (0, zr (some T))]) dX5_sumOfDurations_3 rfl (Nat.le_of_ble_eq_true rfl) rfl ?_
  refine Ev.perm [2, 1, 0] rfl ?_
  exact s_sumD_loop hC hw n 0 (by omega) (by omega)
theorem s_sumR_loop {h : zH} {T n : Nat} {F : zF} {ad dl : Int} {ar q : Nat → Nat} (hC : CT h T n F ad dl ar q) {dep : Nat → Nat} {B : Int} (hw : WF n F dep B) (hB : 24 * (60 + B) ≤ 1000000000)  : ∀ (j m : Nat), m ≤ n → n - m = j → Ev M_X5_sumOfReserves 4 [(0, zr (some T)), (1, zi (zsq q (fun k => F k 6) m)), (2, zi (m : Int))] [] h (0, 0) (.inl (some (zi (zsum (fun k => F k 6) n))), h) := by
  intro j
  have hn := hC.n24
  induction j with
  | zero =>
    intro m hm hj
    have e : m = n := by omega
    subst e
    rw [← hC.sum]
    refine Ev.iload_n (pc := 4) (n := (0, 0)) (i := 2) dX5_sumOfReserves_4 rfl rfl ?_
    refine Ev.aload_n (pc := 5) (n := (0, 0)) (i := 0) dX5_sumOfReserves_5 rfl rfl ?_
    refine Ev.gI (pc := 6) (n := (0, 0)) (x := (m : Int)) dX5_sumOfReserves_6 fl_X5_20 hC.1.1.1 rfl hC.1.2.2.1 ?_
    refine Ev.icmp_ge (pc := 9) (n := (0, 0)) (tgt := 46) dX5_sumOfReserves_9 rfl (fun hc => ?_) (fun hc => absurd hc (by omega))
    refine Ev.iload_n (pc := 46) (n := (0, 0)) (i := 1) dX5_sumOfReserves_46 rfl rfl ?_
    exact Ev.iret dX5_sumOfReserves_47 rfl ⟨(Nat.le_of_ble_eq_true rfl), (Nat.le_of_ble_eq_true rfl)⟩
  | succ j ih =>
    intro m hm hj
    have hmn : m < n := by omega
    have hq := hC.qlt hmn
    have k9 := ih (m + 1) (by omega) (by omega)
    have hs := zsq_bd (q := q) (g := (fun k => F k 6)) (b := B) (by have := (hw.2.2.2.1 (q m) hq).2.2.1; omega) (m := m) (fun i hi => (hw.2.2.2.1 (q i) (hC.qlt (by omega))).2.2.1)
    have ez : zsq q (fun k => F k 6) (m + 1) = zsq q (fun k => F k 6) m + (fun k => F k 6) (q m) := rfl
    rw [ez] at k9
    have eg : ((fun k => F k 6) (q m) : Int) = F (q m) 6 := rfl
    rw [eg] at k9
    have hm24 : (m : Int) * B ≤ 24 * B := Int.mul_le_mul_of_nonneg_right (by omega) (by have := (hw.2.2.2.1 (q m) hq).2.2.1; omega)
    have hB0 : 0 ≤ B := by have := (hw.2.2.2.1 (q m) hq).2.2.1; omega
    refine Ev.iload_n (pc := 4) (n := (0, 0)) (i := 2) dX5_sumOfReserves_4 rfl rfl ?_
    refine Ev.aload_n (pc := 5) (n := (0, 0)) (i := 0) dX5_sumOfReserves_5 rfl rfl ?_
    refine Ev.gI (pc := 6) (n := (0, 0)) (x := (n : Int)) dX5_sumOfReserves_6 fl_X5_20 hC.1.1.1 rfl hC.1.2.2.1 ?_
    refine Ev.icmp_ge (pc := 9) (n := (0, 0)) (tgt := 46) dX5_sumOfReserves_9 rfl (fun hc => absurd hc (by omega)) (fun hc => ?_)
    have b0 := hw.2.2.2.1 (q m) hq
    refine Ev.iload_n (pc := 12) (n := (0, 0)) (i := 1) dX5_sumOfReserves_12 rfl rfl ?_
    refine Ev.aload_n (pc := 13) (n := (0, 0)) (i := 0) dX5_sumOfReserves_13 rfl rfl ?_
    refine Ev.gR (pc := 14) (n := (0, 0)) (r := (some (T + 1))) dX5_sumOfReserves_14 fl_X5_11 hC.1.1.1 rfl hC.1.2.1.1 ?_
    refine Ev.iload_n (pc := 17) (n := (0, 0)) (i := 2) dX5_sumOfReserves_17 rfl rfl ?_
    refine Ev.aa (pc := 18) (n := (0, 0)) (r := (some (ar m))) dX5_sumOfReserves_18 hC.1.1.2.1 (by decide) (by omega) (by omega) (hC.arr hmn) ?_
    refine Ev.gI (pc := 19) (n := (0, 0)) (x := (F (q m) 1)) dX5_sumOfReserves_19 fl_X5_68 (hC.nd hmn).1 rfl (hC.c1 hmn) ?_
    refine Ev.if_eq (pc := 22) (n := (0, 0)) (tgt := 37) dX5_sumOfReserves_22 rfl (fun h1 => ?_) (fun h1 => ?_)
    · skip
      rw [show F (q m) 6 = 0 from (b0.2.2.2 (by omega)).2] at k9
      refine Ev.iconst (pc := 37) (n := (0, 0)) dX5_sumOfReserves_37 ?_
      refine Ev.iadd (pc := 38) (n := (0, 0)) dX5_sumOfReserves_38 ⟨by omega, by omega⟩ ?_
      refine Ev.istore_n (pc := 39) (n := (0, 0)) (i := 1) (L' := [(1, zi ((zsq q (fun k => F k 6) m) + 0)), (0, zr (some T)), (2, zi (m : Int))]) dX5_sumOfReserves_39 rfl (Nat.le_of_ble_eq_true rfl) rfl ?_
      refine Ev.iinc (pc := 40) (n := (0, 0)) (L' := [(2, zi ((m : Int) + 1)), (1, zi ((zsq q (fun k => F k 6) m) + 0)), (0, zr (some T))]) dX5_sumOfReserves_40 rfl (Nat.le_of_ble_eq_true rfl) ⟨by omega, by omega⟩ rfl ?_
      refine Ev.goto (pc := 43) (n := (0, 0)) (tgt := 4) dX5_sumOfReserves_43 rfl ?_
      refine Ev.perm [2, 1, 0] rfl ?_
      exact k9
    · skip
      refine Ev.aload_n (pc := 25) (n := (0, 0)) (i := 0) dX5_sumOfReserves_25 rfl rfl ?_
      refine Ev.gR (pc := 26) (n := (0, 0)) (r := (some (T + 1))) dX5_sumOfReserves_26 fl_X5_11 hC.1.1.1 rfl hC.1.2.1.1 ?_
      refine Ev.iload_n (pc := 29) (n := (0, 0)) (i := 2) dX5_sumOfReserves_29 rfl rfl ?_
      refine Ev.aa (pc := 30) (n := (0, 0)) (r := (some (ar m))) dX5_sumOfReserves_30 hC.1.1.2.1 (by decide) (by omega) (by omega) (hC.arr hmn) ?_
      refine Ev.gI (pc := 31) (n := (0, 0)) (x := (F (q m) 6)) dX5_sumOfReserves_31 fl_X5_75 (hC.nd hmn).1 rfl (hC.c5 hmn) ?_
      refine Ev.goto (pc := 34) (n := (0, 0)) (tgt := 38) dX5_sumOfReserves_34 rfl ?_
      refine Ev.iadd (pc := 38) (n := (0, 0)) dX5_sumOfReserves_38 ⟨by omega, by omega⟩ ?_
      refine Ev.istore_n (pc := 39) (n := (0, 0)) (i := 1) (L' := [(1, zi ((zsq q (fun k => F k 6) m) + (F (q m) 6))), (0, zr (some T)), (2, zi (m : Int))]) dX5_sumOfReserves_39 rfl (Nat.le_of_ble_eq_true rfl) rfl ?_
      refine Ev.iinc (pc := 40) (n := (0, 0)) (L' := [(2, zi ((m : Int) + 1)), (1, zi ((zsq q (fun k => F k 6) m) + (F (q m) 6))), (0, zr (some T))]) dX5_sumOfReserves_40 rfl (Nat.le_of_ble_eq_true rfl) ⟨by omega, by omega⟩ rfl ?_
      refine Ev.goto (pc := 43) (n := (0, 0)) (tgt := 4) dX5_sumOfReserves_43 rfl ?_
      refine Ev.perm [2, 1, 0] rfl ?_
      exact k9
theorem s_sumR {h : zH} {T n : Nat} {F : zF} {ad dl : Int} {ar q : Nat → Nat} (hC : CT h T n F ad dl ar q) {dep : Nat → Nat} {B : Int} (hw : WF n F dep B) (hB : 24 * (60 + B) ≤ 1000000000)  : Ev M_X5_sumOfReserves 0 [(0, zr (some T))] [] h (0, 0) (.inl (some (zi (zsum (fun k => F k 6) n))), h) := by
  refine Ev.iconst (pc := 0) (n := (0, 0)) dX5_sumOfReserves_0 ?_
  refine Ev.istore_n (pc := 1) (n := (0, 0)) (i := 1) (L' := [(1, zi 0), (0, zr (some T))]) dX5_sumOfReserves_1 rfl (Nat.le_of_ble_eq_true rfl) rfl ?_
  refine Ev.iconst (pc := 2) (n := (0, 0)) dX5_sumOfReserves_2 ?_
  refine Ev.istore_n (pc := 3) (n := (0, 0)) (i := 2) (L' := [(2, zi 0), (1, zi 0), (0, zr (some T))]) dX5_sumOfReserves_3 rfl (Nat.le_of_ble_eq_true rfl) rfl ?_
  refine Ev.perm [2, 1, 0] rfl ?_
  exact s_sumR_loop hC hw hB n 0 (by omega) (by omega)
