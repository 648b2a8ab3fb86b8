/-! ===== the class: lengths and times ===== -/
def rsm (n : Nat) (F : zF) (len : Int → Int) (q ord : Nat → Nat) (m : Nat) (g r : Int) : Int := zsum (fun a => if (m : Int) ≤ a ∧ F (q (ord a.toNat)) 2 = g ∧ F (q (ord a.toNat)) 3 = r then len (q (ord a.toNat)) else 0) n
theorem rsm_n (n : Nat) (F : zF) (len : Int → Int) (q ord : Nat → Nat) (g r : Int) : rsm n F len q ord n g r = 0 := zsum_none fun k hk => if_neg fun g => by omega
theorem rsm_0 {n : Nat} {F : zF} {len : Int → Int} {q ord : Nat → Nat} (hq : Pm n q) (ho1 : ∀ a, a < n → ord a < n) (ho2 : ∀ a b, a < n → b < n → ord a = ord b → a = b) (g r : Int) : rsm n F len q ord 0 g r = mrl n F len g r := by
  have := zsum_bij (n := n) (f := fun a => q (ord a)) (fun a ha => hq.1 _ (ho1 a ha)) (fun a b ha hb e => ho2 a b ha hb (hq.2.1 _ _ (ho1 a ha) (ho1 b hb) e)) (fun k => if F k 2 = g ∧ F k 3 = r then len k else 0)
  refine Eq.trans (zsum_congr fun k hk => ?_) this
  by_cases c : F (q (ord k)) 2 = g ∧ F (q (ord k)) 3 = r
  · show (if ((0 : Nat) : Int) ≤ (k : Int) ∧ F (q (ord k)) 2 = g ∧ F (q (ord k)) 3 = r then len (q (ord k)) else 0) = (if F (q (ord k)) 2 = g ∧ F (q (ord k)) 3 = r then len (q (ord k)) else 0)
    rw [if_pos c, if_pos ⟨by omega, c⟩]
  · show (if ((0 : Nat) : Int) ≤ (k : Int) ∧ F (q (ord k)) 2 = g ∧ F (q (ord k)) 3 = r then len (q (ord k)) else 0) = (if F (q (ord k)) 2 = g ∧ F (q (ord k)) 3 = r then len (q (ord k)) else 0)
    rw [if_neg c, if_neg (fun g => c g.2)]
theorem rsm_s {n : Nat} {F : zF} {len : Int → Int} {q ord : Nat → Nat} {m : Nat} (hm : m < n) (g r : Int) : rsm n F len q ord m g r = rsm n F len q ord (m + 1) g r + (if F (q (ord m)) 2 = g ∧ F (q (ord m)) 3 = r then len (q (ord m)) else 0) := by
  have := zsum_chg (g := fun a => if ((m + 1 : Nat) : Int) ≤ a ∧ F (q (ord a.toNat)) 2 = g ∧ F (q (ord a.toNat)) 3 = r then len (q (ord a.toNat)) else 0) (g' := fun a => if (m : Int) ≤ a ∧ F (q (ord a.toNat)) 2 = g ∧ F (q (ord a.toNat)) 3 = r then len (q (ord a.toNat)) else 0) hm (fun j hj hne => by
    by_cases c : (m : Int) ≤ (j : Int) ∧ F (q (ord j)) 2 = g ∧ F (q (ord j)) 3 = r
    · show (if (m : Int) ≤ (j : Int) ∧ F (q (ord j)) 2 = g ∧ F (q (ord j)) 3 = r then len (q (ord j)) else 0) = (if ((m + 1 : Nat) : Int) ≤ (j : Int) ∧ F (q (ord j)) 2 = g ∧ F (q (ord j)) 3 = r then len (q (ord j)) else 0)
      rw [if_pos c, if_pos ⟨by omega, c.2⟩]
    · show (if (m : Int) ≤ (j : Int) ∧ F (q (ord j)) 2 = g ∧ F (q (ord j)) 3 = r then len (q (ord j)) else 0) = (if ((m + 1 : Nat) : Int) ≤ (j : Int) ∧ F (q (ord j)) 2 = g ∧ F (q (ord j)) 3 = r then len (q (ord j)) else 0)
      rw [if_neg c, if_neg (fun g => c ⟨by omega, g.2⟩)])
  have e1 : (if ((m + 1 : Nat) : Int) ≤ (m : Int) ∧ F (q (ord (m : Int).toNat)) 2 = g ∧ F (q (ord (m : Int).toNat)) 3 = r then len (q (ord (m : Int).toNat)) else 0) = 0 := if_neg fun g => by omega
  have e2 : (if (m : Int) ≤ (m : Int) ∧ F (q (ord (m : Int).toNat)) 2 = g ∧ F (q (ord (m : Int).toNat)) 3 = r then len (q (ord (m : Int).toNat)) else 0) = (if F (q (ord m)) 2 = g ∧ F (q (ord m)) 3 = r then len (q (ord m)) else 0) := by
    by_cases c : F (q (ord m)) 2 = g ∧ F (q (ord m)) 3 = r
    · rw [if_pos c]; exact if_pos ⟨Int.le_refl _, c⟩
    · rw [if_neg c]; exact if_neg fun g => c g.2
  rw [e1, e2] at this
  show zsum _ n = zsum _ n + _
  omega
theorem rsm_bd {n : Nat} {F : zF} {dep : Nat → Nat} {B : Int} (hw : WF n F dep B) {len : Int → Int} (hl : IsLen n F len) {q ord : Nat → Nat} (hq : Pm n q) (ho1 : ∀ a, a < n → ord a < n) (ho2 : ∀ a b, a < n → b < n → ord a = ord b → a = b) (m : Nat) (g r : Int) : 0 ≤ rsm n F len q ord m g r ∧ rsm n F len q ord m g r ≤ mtot n F := by
  have h0 : ∀ a : Nat, a < n → 0 ≤ len (q (ord a)) := fun a ha => (hl.bd hw _ (hq.1 _ (ho1 a ha))).1
  refine ⟨zsum_nn fun k hk => ?_, ?_⟩
  · have := h0 k hk
    show 0 ≤ (if (m : Int) ≤ (k : Int) ∧ F (q (ord k)) 2 = g ∧ F (q (ord k)) 3 = r then len (q (ord k)) else 0)
    split <;> omega
  · have e : rsm n F len q ord m g r ≤ rsm n F len q ord 0 g r := zsum_le fun k hk => by
      have := h0 k hk
      show (if (m : Int) ≤ (k : Int) ∧ F (q (ord k)) 2 = g ∧ F (q (ord k)) 3 = r then len (q (ord k)) else 0) ≤ (if ((0 : Nat) : Int) ≤ (k : Int) ∧ F (q (ord k)) 2 = g ∧ F (q (ord k)) 3 = r then len (q (ord k)) else 0)
      by_cases c : F (q (ord k)) 2 = g ∧ F (q (ord k)) 3 = r
      · rw [if_pos (show ((0 : Nat) : Int) ≤ (k : Int) ∧ F (q (ord k)) 2 = g ∧ F (q (ord k)) 3 = r from ⟨by omega, c⟩)]
        split <;> omega
      · rw [if_neg (fun g => c g.2), if_neg (fun g => c g.2)]
        exact Int.le_refl _
    rw [rsm_0 hq ho1 ho2] at e
    have := (mrl_bd hw hl g r n (Nat.le_refl _)).2
    exact Int.le_trans e this
/-- children come later -/
theorem BInv.later {n : Nat} {F : zF} {dep : Nat → Nat} {B : Int} (hw : WF n F dep B) {q ord : Nat → Nat} (hq : Pm n q) (hB : BInv n (chp F q) ord n 0 n) {m a : Nat} (hm : m < n) (ha : a < n) (e : F (q (ord a)) 2 = F (q (ord m)) 0) : m < a := by
  rcases Nat.eq_zero_or_pos a with g | g
  · subst g
    rw [hB.2.2.1, hq.2.2] at e
    exact absurd e (hw.root2 (hq.1 _ (hB.1 m hm)))
  · obtain ⟨a2, h1, -, h2⟩ := hB.2.2.2.2.2.2 a g ha
    have := hw.chpu hq (ord a2) (ord m) (ord a) (hB.1 a2 (by omega)) (hB.1 m hm) h2 e
    have := hB.2.1 a2 m (by omega) hm this
    omega
theorem rsm_full {n : Nat} {F : zF} {dep : Nat → Nat} {B : Int} (hw : WF n F dep B) {len : Int → Int} {q ord : Nat → Nat} (hq : Pm n q) (hB : BInv n (chp F q) ord n 0 n) {m : Nat} (hm : m < n) (r : Int) : rsm n F len q ord (m + 1) (F (q (ord m)) 0) r = mrl n F len (F (q (ord m)) 0) r := by
  rw [← rsm_0 (ord := ord) hq hB.1 (fun a b ha hb e => hB.2.1 a b ha hb e)]
  refine zsum_congr fun k hk => ?_
  show (if ((m + 1 : Nat) : Int) ≤ (k : Int) ∧ F (q (ord k)) 2 = F (q (ord m)) 0 ∧ F (q (ord k)) 3 = r then len (q (ord k)) else 0) = (if ((0 : Nat) : Int) ≤ (k : Int) ∧ F (q (ord k)) 2 = F (q (ord m)) 0 ∧ F (q (ord k)) 3 = r then len (q (ord k)) else 0)
  by_cases c : F (q (ord k)) 2 = F (q (ord m)) 0 ∧ F (q (ord k)) 3 = r
  · have := BInv.later hw hq hB hm hk c.1
    rw [if_pos ⟨by omega, c⟩, if_pos ⟨by omega, c⟩]
  · rw [if_neg (fun g => c g.2), if_neg (fun g => c g.2)]
theorem lbut_all (A : Int → Int) : lbut A (-1) 4 = zmx (zmx (zmx (zmx 0 (A 0)) (A 1)) (A 2)) (A 3) := rfl
/-- rows emptied up to row r of place i -/
def ZRo (h : zH) (T n : Nat) (F : zF) (ad dl : Int) (ar q : Nat → Nat) (I' : Nat → Int → Int) (i r : Nat) : Prop := CT (h.1, I', h.2.2) T n F ad dl ar q ∧ (∀ x, x < n → ∀ r' : Int, 0 ≤ r' → r' < 4 → (x < i ∨ x = i ∧ r' < r) → I' (ar x + 1) r' = 0) ∧ ∀ o, (∀ x, x < n → o ≠ ar x + 1) → I' o = h.2.1 o
theorem s_zero_in {h : zH} {T n : Nat} {F : zF} {ad dl : Int} {ar q : Nat → Nat} (Q : (Nat → Int → Int) → Prop) {i : Nat} (hi : i < n) : ∀ (j r : Nat) (I' : Nat → Int → Int), 4 - r = j → r ≤ 4 → ZRo h T n F ad dl ar q I' i r → (∀ I2, ZRo h T n F ad dl ar q I2 i 4 → ∃ I3, Q I3 ∧ Ev M_X5_measureLengths 35 [(0, zr (some T)), (1, zi (i : Int)), (2, zi 4)] [] (h.1, I2, h.2.2) (0, 0) (.inl none, (h.1, I3, h.2.2))) → ∃ I3, Q I3 ∧ Ev M_X5_measureLengths 12 [(0, zr (some T)), (1, zi (i : Int)), (2, zi (r : Int))] [] (h.1, I', h.2.2) (0, 0) (.inl none, (h.1, I3, h.2.2)) := by
  intro j
  induction j with
  | zero =>
    intro r I' hj hr hZ K
    have e : r = 4 := by omega
    subst e
    obtain ⟨I3, h3, h4⟩ := K I' hZ
    refine ⟨I3, h3, ?_⟩
    have hC := hZ.1
    refine Ev.iload_n (pc := 12) (n := (0, 0)) (i := 2) dX5_measureLengths_12 rfl rfl ?_
    refine Ev.iconst (pc := 13) (n := (0, 0)) dX5_measureLengths_13 ?_
    refine Ev.icmp_ge (pc := 14) (n := (0, 0)) (tgt := 35) dX5_measureLengths_14 rfl (fun hc => ?_) (fun hc => absurd hc (by omega))
    exact h4
  | succ j ih =>
    intro r I' hj hr hZ K
    obtain ⟨hC, z1, z2⟩ := hZ
    have hn := hC.n24
    have si := hC.sep (show i < 24 by omega)
    have hC1 := hC.upL (show i < 24 by omega) (r : Int) 0
    obtain ⟨I3, h3, h4⟩ := ih (r + 1) (zup I' (ar i + 1) (r : Int) 0) (by omega) (by omega) ⟨hC1, fun x hx r' h1 h2 h3 => by
      by_cases e : x = i
      · subst e
        by_cases e2 : r' = (r : Int)
        · subst e2; exact zup_s _ _ _ _
        · rw [zup_k _ _ _ _ e2]
          exact z1 x hx r' h1 h2 (by omega)
      · rw [zup_o _ _ _ _ (fun g => e (hC.arin hx hi (by omega)))]
        exact z1 x hx r' h1 h2 (by omega), fun o ho => by
      rw [← z2 o ho]
      exact funext fun k => zup_o _ _ _ _ (ho i hi)⟩ K
    refine ⟨I3, h3, ?_⟩
    refine Ev.iload_n (pc := 12) (n := (0, 0)) (i := 2) dX5_measureLengths_12 rfl rfl ?_
    refine Ev.iconst (pc := 13) (n := (0, 0)) dX5_measureLengths_13 ?_
    refine Ev.icmp_ge (pc := 14) (n := (0, 0)) (tgt := 35) dX5_measureLengths_14 rfl (fun hc => absurd hc (by omega)) (fun hc => ?_)
    refine Ev.aload_n (pc := 17) (n := (0, 0)) (i := 0) dX5_measureLengths_17 rfl rfl ?_
    refine Ev.gR (pc := 18) (n := (0, 0)) (r := (some (T + 1))) dX5_measureLengths_18 fl_X5_11 hC.1.1.1 rfl hC.1.2.1.1 ?_
    refine Ev.iload_n (pc := 21) (n := (0, 0)) (i := 1) dX5_measureLengths_21 rfl rfl ?_
    refine Ev.aa (pc := 22) (n := (0, 0)) (r := (some (ar i))) dX5_measureLengths_22 hC.1.1.2.1 (by decide) (by omega) (by omega) (hC.arr hi) ?_
    refine Ev.gR (pc := 23) (n := (0, 0)) (r := (some (ar i + 1))) dX5_measureLengths_23 fl_X5_64 (hC.nd hi).1 rfl (hC.nd hi).2.2 ?_
    refine Ev.iload_n (pc := 26) (n := (0, 0)) (i := 2) dX5_measureLengths_26 rfl rfl ?_
    refine Ev.iconst (pc := 27) (n := (0, 0)) dX5_measureLengths_27 ?_
    refine Ev.iast (pc := 28) (n := (0, 0)) dX5_measureLengths_28 (hC.nd hi).2.1 (by omega) (by omega) ?_
    refine Ev.iinc (pc := 29) (n := (0, 0)) (L' := [(2, zi ((r : Int) + 1)), (0, zr (some T)), (1, zi (i : Int))]) dX5_measureLengths_29 rfl (Nat.le_of_ble_eq_true rfl) ⟨by omega, by omega⟩ rfl ?_
    refine Ev.goto (pc := 32) (n := (0, 0)) (tgt := 12) dX5_measureLengths_32 rfl ?_
    refine Ev.perm [1, 2, 0] rfl ?_
    exact h4
theorem s_zero {h : zH} {T n : Nat} {F : zF} {ad dl : Int} {ar q : Nat → Nat} (Q : (Nat → Int → Int) → Prop) : ∀ (j i : Nat) (I' : Nat → Int → Int), n - i = j → i ≤ n → ZRo h T n F ad dl ar q I' i 0 → (∀ I2, ZRo h T n F ad dl ar q I2 n 0 → ∃ I3, Q I3 ∧ Ev M_X5_measureLengths 41 [(0, zr (some T)), (1, zi (n : Int))] [] (h.1, I2, h.2.2) (0, 0) (.inl none, (h.1, I3, h.2.2))) → ∃ I3, Q I3 ∧ Ev M_X5_measureLengths 2 [(0, zr (some T)), (1, zi (i : Int))] [] (h.1, I', h.2.2) (0, 0) (.inl none, (h.1, I3, h.2.2)) := by
  intro j
  induction j with
  | zero =>
    intro i I' hj hr hZ K
    have e : i = n := by omega
    subst e
    obtain ⟨I3, h3, h4⟩ := K I' hZ
    refine ⟨I3, h3, ?_⟩
    have hC := hZ.1
    refine Ev.iload_n (pc := 2) (n := (0, 0)) (i := 1) dX5_measureLengths_2 rfl rfl ?_
    refine Ev.aload_n (pc := 3) (n := (0, 0)) (i := 0) dX5_measureLengths_3 rfl rfl ?_
    refine Ev.gI (pc := 4) (n := (0, 0)) (x := (i : Int)) dX5_measureLengths_4 fl_X5_20 hC.1.1.1 rfl hC.1.2.2.1 ?_
    refine Ev.icmp_ge (pc := 7) (n := (0, 0)) (tgt := 41) dX5_measureLengths_7 rfl (fun hc => ?_) (fun hc => absurd hc (by omega))
    exact h4
  | succ j ih =>
    intro i I' hj hr hZ K
    have hi : i < n := by omega
    have hC := hZ.1
    have hn := hC.n24
    obtain ⟨I3, h3, h4⟩ := s_zero_in Q hi 4 0 I' rfl (by omega) ⟨hZ.1, fun x hx r' h1 h2 h3 => hZ.2.1 x hx r' h1 h2 (by omega), hZ.2.2⟩ (fun I2 hZ2 => by
      obtain ⟨I3, h3, h4⟩ := ih (i + 1) I2 (by omega) (by omega) ⟨hZ2.1, fun x hx r' h1 h2 h3 => hZ2.2.1 x hx r' h1 h2 (by omega), hZ2.2.2⟩ K
      refine ⟨I3, h3, ?_⟩
      refine Ev.iinc (pc := 35) (n := (0, 0)) (L' := [(1, zi ((i : Int) + 1)), (0, zr (some T)), (2, zi 4)]) dX5_measureLengths_35 rfl (Nat.le_of_ble_eq_true rfl) ⟨by omega, by omega⟩ rfl ?_
      refine Ev.goto (pc := 38) (n := (0, 0)) (tgt := 2) dX5_measureLengths_38 rfl ?_
      refine Ev.perm [1, 0] rfl ?_
      exact h4)
    refine ⟨I3, h3, ?_⟩
    refine Ev.iload_n (pc := 2) (n := (0, 0)) (i := 1) dX5_measureLengths_2 rfl rfl ?_
    refine Ev.aload_n (pc := 3) (n := (0, 0)) (i := 0) dX5_measureLengths_3 rfl rfl ?_
    refine Ev.gI (pc := 4) (n := (0, 0)) (x := (n : Int)) dX5_measureLengths_4 fl_X5_20 hC.1.1.1 rfl hC.1.2.2.1 ?_
    refine Ev.icmp_ge (pc := 7) (n := (0, 0)) (tgt := 41) dX5_measureLengths_7 rfl (fun hc => absurd hc (by omega)) (fun hc => ?_)
    refine Ev.iconst (pc := 10) (n := (0, 0)) dX5_measureLengths_10 ?_
    refine Ev.istore_n (pc := 11) (n := (0, 0)) (i := 2) (L' := [(2, zi 0), (0, zr (some T)), (1, zi (i : Int))]) dX5_measureLengths_11 rfl (Nat.le_of_ble_eq_true rfl) rfl ?_
    refine Ev.perm [1, 2, 0] rfl ?_
    exact h4
/-- lengths told from place m of the order on -/
def MLn (h : zH) (T n : Nat) (F : zF) (ad dl : Int) (ar q ord : Nat → Nat) (len : Int → Int) (I' : Nat → Int → Int) (m : Nat) : Prop := CT (h.1, I', h.2.2) T n F ad dl ar q ∧ (∀ a, m ≤ a → a < n → I' (ar (ord a)) 10 = len (q (ord a))) ∧ (∀ x, x < n → ∀ r : Int, 0 ≤ r → r < 4 → I' (ar x + 1) r = rsm n F len q ord m (F (q x) 0) r) ∧ (∀ o, (∀ x, x < n → o ≠ ar x ∧ o ≠ ar x + 1) → I' o = h.2.1 o) ∧ ∀ x, x < n → ∀ k : Int, k ≠ 10 → I' (ar x) k = h.2.1 (ar x) k
theorem s_len_loop {h0 h : zH} {T n : Nat} {F : zF} {ad dl : Int} {ar q ord : Nat → Nat} (hF : FO h0 h.2.2 T n F ad dl ar q ord n) (hB9 : BInv n (chp F q) ord n 0 n) {dep : Nat → Nat} {B : Int} (hw : WF n F dep B) (hB : 24 * (60 + B) ≤ 1000000000) {len : Int → Int} (hl : IsLen n F len) : ∀ (m : Nat) (I' : Nat → Int → Int), m ≤ n → MLn h T n F ad dl ar q ord len I' m → ∃ I3, MLn h T n F ad dl ar q ord len I3 0 ∧ Ev M_X5_measureLengths 48 [(0, zr (some T)), (1, zi ((m : Int) - 1))] [] (h.1, I', h.2.2) (0, 0) (.inl none, (h.1, I3, h.2.2)) := by
  intro m
  induction m with
  | zero =>
    intro I' hm hM
    refine ⟨I', hM, ?_⟩
    have hC := hM.1
    refine Ev.iload_n (pc := 48) (n := (0, 0)) (i := 1) dX5_measureLengths_48 rfl rfl ?_
    refine Ev.if_lt (pc := 49) (n := (0, 0)) (tgt := 115) dX5_measureLengths_49 rfl (fun hc => ?_) (fun hc => absurd hc (by omega))
    exact Ev.vret dX5_measureLengths_115 rfl ⟨(Nat.le_of_ble_eq_true rfl), (Nat.le_of_ble_eq_true rfl)⟩
  | succ m ih =>
    intro I' hm hM
    have hmn : m < n := by omega
    obtain ⟨hC, m1, m2, m3, m4⟩ := hM
    have hn := hC.n24
    have hqm : Pm n q := hC.2.2.1.2
    have hy : ord m < n := hB9.1 m hmn
    have hq := hqm.1 (ord m) hy
    have b0 := hw.2.2.2.1 (q (ord m)) hq
    have hmt := mtot_le hw
    have bl := hl.bd hw (q (ord m)) hq
    have sy := hC.sep (show ord m < 24 by omega)
    have e3 : ((m + 1 : Nat) : Int) - 1 = (m : Int) := by omega
    have hC1 : CT (h.1, zup I' (ar (ord m)) 10 (len (q (ord m))), h.2.2) T n F ad dl ar q := hC.upI (x := ord m) (by omega) (k := 10) (by decide) (fun _ => rfl) (len (q (ord m)))
    have eR : h.2.2 (T + 2) (m : Int) = some (ar (ord m)) := hF.2.1 m hmn
    have el : len (q (ord m)) = mln n F len (q (ord m)) := hl _ hq
    have eG : F (q (ord m)) 1 = 0 → lbut (I' (ar (ord m) + 1)) (-1) 4 = len (q (ord m)) := fun g => by
      rw [el, lbut_all, m2 (ord m) hy 0 (by decide) (by decide), m2 (ord m) hy 1 (by decide) (by decide), m2 (ord m) hy 2 (by decide) (by decide), m2 (ord m) hy 3 (by decide) (by decide), rsm_full hw hqm hB9 hmn, rsm_full hw hqm hB9 hmn, rsm_full hw hqm hB9 hmn, rsm_full hw hqm hB9 hmn]
      unfold mln
      rw [if_neg (by omega)]
      rfl
    have eT : F (q (ord m)) 1 = 1 → F (q (ord m)) 5 + F (q (ord m)) 6 = len (q (ord m)) := fun g => by
      rw [el]
      unfold mln
      rw [if_pos g]
    have hlen : ∀ (I2 : Nat → Int → Int), (∀ x, x < n → ∀ k, I2 (ar x) k = zup I' (ar (ord m)) 10 (len (q (ord m))) (ar x) k) → ∀ a, m ≤ a → a < n → I2 (ar (ord a)) 10 = len (q (ord a)) := fun I2 g a h1 h2 => by
      rw [g (ord a) (hB9.1 a h2) 10]
      by_cases e : a = m
      · subst e; exact zup_s _ _ _ _
      · rw [zup_o _ _ _ _ (fun e2 => e (hB9.2.1 a m h2 hmn (hC.arin (hB9.1 a h2) hy e2)))]
        exact m1 a (by omega) h2
    rw [e3]
    by_cases h0 : m = 0
    · subst h0
      have ey : ord 0 = 0 := hB9.2.2.1
      have hC1 : CT (h.1, zup I' (ar (ord 0)) 10 (len (q (ord 0))), h.2.2) T n F ad dl ar q := hC1
      obtain ⟨I3, h3, h4⟩ := ih (zup I' (ar (ord 0)) 10 (len (q (ord 0)))) (by omega) ⟨hC1, hlen _ (fun _ _ _ => rfl), fun x hx r h1 h2 => by
        rw [zup_o _ _ _ _ (fun e => (hC.sep (show ord 0 < 24 by omega)).2.2 x (by omega) e.symm), m2 x hx r h1 h2, rsm_s hmn, if_neg (fun g => by rw [ey, hqm.2.2] at g; exact hw.root2 (hqm.1 x hx) g.1)]
        omega, fun o ho => by rw [← m3 o ho]; exact funext fun k => zup_o _ _ _ _ (ho (ord 0) hy).1, fun x hx k hk => by rw [← m4 x hx k hk]; exact zup_k _ _ _ _ hk⟩
      refine ⟨I3, h3, ?_⟩
      have eg : h.2.2 (ar (ord 0)) 6 = none := by rw [ey]; exact hC.2.2.2.2.1.1
      refine Ev.iload_n (pc := 48) (n := (0, 0)) (i := 1) dX5_measureLengths_48 rfl rfl ?_
      refine Ev.if_lt (pc := 49) (n := (0, 0)) (tgt := 115) dX5_measureLengths_49 rfl (fun hc => absurd hc (by omega)) (fun hc => ?_)
      refine Ev.aload_n (pc := 52) (n := (0, 0)) (i := 0) dX5_measureLengths_52 rfl rfl ?_
      refine Ev.gR (pc := 53) (n := (0, 0)) (r := (some (T + 2))) dX5_measureLengths_53 fl_X5_17 hC.1.1.1 rfl hC.1.2.1.2 ?_
      refine Ev.iload_n (pc := 56) (n := (0, 0)) (i := 1) dX5_measureLengths_56 rfl rfl ?_
      refine Ev.aa (pc := 57) (n := (0, 0)) (r := (some (ar (ord 0)))) dX5_measureLengths_57 hC.1.1.2.2 (by decide) (by omega) (by omega) eR ?_
      refine Ev.astore_n (pc := 58) (n := (0, 0)) (i := 2) (L' := [(2, zr (some (ar (ord 0)))), (0, zr (some T)), (1, zi (0 : Int))]) dX5_measureLengths_58 rfl (Nat.le_of_ble_eq_true rfl) rfl ?_
      suffices K9 : Ev M_X5_measureLengths 84 [(2, zr (some (ar (ord 0)))), (0, zr (some T)), (1, zi (0 : Int))] [zi (len (q (ord 0))), zr (some (ar (ord 0)))] (h.1, I', h.2.2) (0, 0) (.inl none, (h.1, I3, h.2.2)) by
        refine Ev.aload_n (pc := 59) (n := (0, 0)) (i := 2) dX5_measureLengths_59 rfl rfl ?_
        refine Ev.aload_n (pc := 60) (n := (0, 0)) (i := 2) dX5_measureLengths_60 rfl rfl ?_
        refine Ev.gI (pc := 61) (n := (0, 0)) (x := (F (q (ord 0)) 1)) dX5_measureLengths_61 fl_X5_68 (hC.nd hy).1 rfl (hC.c1 hy) ?_
        refine Ev.if_eq (pc := 64) (n := (0, 0)) (tgt := 79) dX5_measureLengths_64 rfl (fun h5 => ?_) (fun h5 => ?_)
        · skip
          refine Ev.aload_n (pc := 79) (n := (0, 0)) (i := 2) dX5_measureLengths_79 rfl rfl ?_
          refine Ev.iconst (pc := 80) (n := (0, 0)) dX5_measureLengths_80 ?_
          refine Ev.callV (pc := 81) (n := (0, 0)) (ob := (ar (ord 0))) (as := [zi (-1)]) (st := [zr (some (ar (ord 0)))]) (s_longestRowBut (h := (h.1, I', h.2.2)) (hC.nd hy)) dX5_measureLengths_81 ok_X3_longestRowBut (lk_X5_78 rfl) ⟨(Nat.le_of_ble_eq_true rfl), (Nat.le_of_ble_eq_true rfl)⟩ (hC.nd hy).1 ⟨by decide, rfl⟩ rfl (Nat.le_of_ble_eq_true rfl) (Nat.le_of_ble_eq_true rfl) ⟨(Nat.le_of_ble_eq_true rfl), (Nat.le_of_ble_eq_true rfl)⟩ ?_
          rw [eG (by omega)]
          exact K9
        · skip
          refine Ev.aload_n (pc := 67) (n := (0, 0)) (i := 2) dX5_measureLengths_67 rfl rfl ?_
          refine Ev.gI (pc := 68) (n := (0, 0)) (x := (F (q (ord 0)) 5)) dX5_measureLengths_68 fl_X5_72 (hC.nd hy).1 rfl (hC.c4 hy) ?_
          refine Ev.aload_n (pc := 71) (n := (0, 0)) (i := 2) dX5_measureLengths_71 rfl rfl ?_
          refine Ev.gI (pc := 72) (n := (0, 0)) (x := (F (q (ord 0)) 6)) dX5_measureLengths_72 fl_X5_75 (hC.nd hy).1 rfl (hC.c5 hy) ?_
          refine Ev.iadd (pc := 75) (n := (0, 0)) dX5_measureLengths_75 ⟨by omega, by omega⟩ ?_
          refine Ev.goto (pc := 76) (n := (0, 0)) (tgt := 84) dX5_measureLengths_76 rfl ?_
          rw [eT (by omega)]
          exact K9
      refine Ev.putI (pc := 84) (n := (0, 0)) dX5_measureLengths_84 fl_X5_82 (hC.nd hy).1 rfl rfl (fun h9 => by cases h9) ?_
      refine Ev.aload_n (pc := 87) (n := (0, 0)) (i := 2) dX5_measureLengths_87 rfl rfl ?_
      refine Ev.gR (pc := 88) (n := (0, 0)) (r := none) dX5_measureLengths_88 fl_X5_50 (hC1.nd hy).1 rfl eg ?_
      refine Ev.ifnull (pc := 91) (n := (0, 0)) (tgt := 109) dX5_measureLengths_91 rfl (fun hc => ?_) (fun x9 hc => nomatch hc)
      refine Ev.iinc (pc := 109) (n := (0, 0)) (L' := [(1, zi ((0 : Int) + (-1))), (2, zr (some (ar (ord 0)))), (0, zr (some T))]) dX5_measureLengths_109 rfl (Nat.le_of_ble_eq_true rfl) ⟨by omega, by omega⟩ rfl ?_
      refine Ev.goto (pc := 112) (n := (0, 0)) (tgt := 48) dX5_measureLengths_112 rfl ?_
      refine Ev.perm [2, 0] rfl ?_
      rw [show (0 : Int) + -1 = ((0 : Nat) : Int) - 1 from rfl]
      exact h4
    · have hy1 : 1 ≤ ord m := hB9.2.2.2.2.1 m (by omega) hmn
      have hqy1 : 1 ≤ q (ord m) := by
        rcases Nat.eq_zero_or_pos (q (ord m)) with g | g
        · have := hqm.2.1 (ord m) 0 hy (by omega) (g.trans hqm.2.2.symm); omega
        · exact g
      obtain ⟨k0, hk0, e1, -, e2⟩ := hw.par_of hqy1 hq
      obtain ⟨p, hp, ep⟩ := hC.onto hk0
      rw [← ep] at e1 e2
      have hr := (hw.2.2.2.2.1 (q (ord m)) hqy1 hq).1
      have hpy : p ≠ ord m := fun g => by rw [g] at e2; omega
      have eg : h.2.2 (ar (ord m)) 6 = some (ar p) := (hF.2.2.2.1 m (by omega) hmn).1 p hp e1
      have sp := hC.sep (show p < 24 by omega)
      have hne : ar p + 1 ≠ ar (ord m) := fun e => sy.2.2 p (by omega) e.symm
      have eA : zup I' (ar (ord m)) 10 (len (q (ord m))) (ar p + 1) (F (q (ord m)) 3) = rsm n F len q ord (m + 1) (F (q p) 0) (F (q (ord m)) 3) := by
        rw [zup_o _ _ _ _ hne]
        exact m2 p hp _ (by omega) (by omega)
      have bA := rsm_bd hw hl hqm hB9.1 (fun a b ha hb e => hB9.2.1 a b ha hb e) (m + 1) (F (q p) 0) (F (q (ord m)) 3)
      have hC2 : CT (h.1, zup (zup I' (ar (ord m)) 10 (len (q (ord m)))) (ar p + 1) (F (q (ord m)) 3) (zup I' (ar (ord m)) 10 (len (q (ord m))) (ar p + 1) (F (q (ord m)) 3) + len (q (ord m))), h.2.2) T n F ad dl ar q := hC1.upL (show p < 24 by omega) (F (q (ord m)) 3) (zup I' (ar (ord m)) 10 (len (q (ord m))) (ar p + 1) (F (q (ord m)) 3) + len (q (ord m)))
      obtain ⟨I3, h3, h4⟩ := ih _ (by omega) ⟨hC2, hlen _ (fun x hx k => zup_o _ _ _ _ (fun e => (hC.sep (show x < 24 by omega)).2.2 p (by omega) e)), fun x hx r h1 h2 => by
        rw [rsm_s hmn]
        by_cases e : x = p ∧ r = F (q (ord m)) 3
        · obtain ⟨rfl, rfl⟩ := e
          show zup _ (ar x + 1) (F (q (ord m)) 3) _ (ar x + 1) (F (q (ord m)) 3) = _
          rw [zup_s, if_pos ⟨e1, rfl⟩]
          exact congrArg (· + len (q (ord m))) eA
        · have e4 : ¬ (F (q (ord m)) 2 = F (q x) 0 ∧ F (q (ord m)) 3 = r) := fun g => e ⟨hw.chpu hqm x p (ord m) hx hp g.1 e1, g.2.symm⟩
          rw [if_neg e4, Int.add_zero, ← m2 x hx r h1 h2]
          show zup (zup I' (ar (ord m)) 10 (len (q (ord m)))) (ar p + 1) (F (q (ord m)) 3) _ (ar x + 1) r = _
          have e5 : zup I' (ar (ord m)) 10 (len (q (ord m))) (ar x + 1) r = I' (ar x + 1) r := zup_o _ _ _ _ (fun e => sy.2.2 x (by omega) e.symm)
          by_cases e6 : x = p
          · subst e6
            rw [zup_k _ _ _ _ (fun g => e ⟨rfl, g⟩)]; exact e5
          · rw [zup_o _ _ _ _ (fun g => e6 (hC.arin hx hp (by omega)))]; exact e5, fun o ho => by
        rw [← m3 o ho]
        funext k
        show zup _ (ar p + 1) _ _ o k = _
        rw [zup_o _ _ _ _ (ho p hp).2, zup_o _ _ _ _ (ho (ord m) hy).1], fun x hx k hk => by
        rw [← m4 x hx k hk]
        show zup _ (ar p + 1) _ _ (ar x) k = _
        rw [zup_o _ _ _ _ (fun e => (hC.sep (show x < 24 by omega)).2.2 p (by omega) e), zup_k _ _ _ _ hk]⟩
      refine ⟨I3, h3, ?_⟩
      refine Ev.iload_n (pc := 48) (n := (0, 0)) (i := 1) dX5_measureLengths_48 rfl rfl ?_
      refine Ev.if_lt (pc := 49) (n := (0, 0)) (tgt := 115) dX5_measureLengths_49 rfl (fun hc => absurd hc (by omega)) (fun hc => ?_)
      refine Ev.aload_n (pc := 52) (n := (0, 0)) (i := 0) dX5_measureLengths_52 rfl rfl ?_
      refine Ev.gR (pc := 53) (n := (0, 0)) (r := (some (T + 2))) dX5_measureLengths_53 fl_X5_17 hC.1.1.1 rfl hC.1.2.1.2 ?_
      refine Ev.iload_n (pc := 56) (n := (0, 0)) (i := 1) dX5_measureLengths_56 rfl rfl ?_
      refine Ev.aa (pc := 57) (n := (0, 0)) (r := (some (ar (ord m)))) dX5_measureLengths_57 hC.1.1.2.2 (by decide) (by omega) (by omega) eR ?_
      refine Ev.astore_n (pc := 58) (n := (0, 0)) (i := 2) (L' := [(2, zr (some (ar (ord m)))), (0, zr (some T)), (1, zi (m : Int))]) dX5_measureLengths_58 rfl (Nat.le_of_ble_eq_true rfl) rfl ?_
      suffices K9 : Ev M_X5_measureLengths 84 [(2, zr (some (ar (ord m)))), (0, zr (some T)), (1, zi (m : Int))] [zi (len (q (ord m))), zr (some (ar (ord m)))] (h.1, I', h.2.2) (0, 0) (.inl none, (h.1, I3, h.2.2)) by
        refine Ev.aload_n (pc := 59) (n := (0, 0)) (i := 2) dX5_measureLengths_59 rfl rfl ?_
        refine Ev.aload_n (pc := 60) (n := (0, 0)) (i := 2) dX5_measureLengths_60 rfl rfl ?_
        refine Ev.gI (pc := 61) (n := (0, 0)) (x := (F (q (ord m)) 1)) dX5_measureLengths_61 fl_X5_68 (hC.nd hy).1 rfl (hC.c1 hy) ?_
        refine Ev.if_eq (pc := 64) (n := (0, 0)) (tgt := 79) dX5_measureLengths_64 rfl (fun h5 => ?_) (fun h5 => ?_)
        · skip
          refine Ev.aload_n (pc := 79) (n := (0, 0)) (i := 2) dX5_measureLengths_79 rfl rfl ?_
          refine Ev.iconst (pc := 80) (n := (0, 0)) dX5_measureLengths_80 ?_
          refine Ev.callV (pc := 81) (n := (0, 0)) (ob := (ar (ord m))) (as := [zi (-1)]) (st := [zr (some (ar (ord m)))]) (s_longestRowBut (h := (h.1, I', h.2.2)) (hC.nd hy)) dX5_measureLengths_81 ok_X3_longestRowBut (lk_X5_78 rfl) ⟨(Nat.le_of_ble_eq_true rfl), (Nat.le_of_ble_eq_true rfl)⟩ (hC.nd hy).1 ⟨by decide, rfl⟩ rfl (Nat.le_of_ble_eq_true rfl) (Nat.le_of_ble_eq_true rfl) ⟨(Nat.le_of_ble_eq_true rfl), (Nat.le_of_ble_eq_true rfl)⟩ ?_
          rw [eG (by omega)]
          exact K9
        · skip
          refine Ev.aload_n (pc := 67) (n := (0, 0)) (i := 2) dX5_measureLengths_67 rfl rfl ?_
          refine Ev.gI (pc := 68) (n := (0, 0)) (x := (F (q (ord m)) 5)) dX5_measureLengths_68 fl_X5_72 (hC.nd hy).1 rfl (hC.c4 hy) ?_
          refine Ev.aload_n (pc := 71) (n := (0, 0)) (i := 2) dX5_measureLengths_71 rfl rfl ?_
          refine Ev.gI (pc := 72) (n := (0, 0)) (x := (F (q (ord m)) 6)) dX5_measureLengths_72 fl_X5_75 (hC.nd hy).1 rfl (hC.c5 hy) ?_
          refine Ev.iadd (pc := 75) (n := (0, 0)) dX5_measureLengths_75 ⟨by omega, by omega⟩ ?_
          refine Ev.goto (pc := 76) (n := (0, 0)) (tgt := 84) dX5_measureLengths_76 rfl ?_
          rw [eT (by omega)]
          exact K9
      refine Ev.putI (pc := 84) (n := (0, 0)) dX5_measureLengths_84 fl_X5_82 (hC.nd hy).1 rfl rfl (fun h9 => by cases h9) ?_
      refine Ev.aload_n (pc := 87) (n := (0, 0)) (i := 2) dX5_measureLengths_87 rfl rfl ?_
      refine Ev.gR (pc := 88) (n := (0, 0)) (r := (some (ar p))) dX5_measureLengths_88 fl_X5_50 (hC1.nd hy).1 rfl eg ?_
      refine Ev.ifnull (pc := 91) (n := (0, 0)) (tgt := 109) dX5_measureLengths_91 rfl (fun hc => nomatch hc) (fun x9 hc => ?_)
      refine Ev.aload_n (pc := 94) (n := (0, 0)) (i := 2) dX5_measureLengths_94 rfl rfl ?_
      refine Ev.gR (pc := 95) (n := (0, 0)) (r := (some (ar p))) dX5_measureLengths_95 fl_X5_50 (hC1.nd hy).1 rfl eg ?_
      refine Ev.aload_n (pc := 98) (n := (0, 0)) (i := 2) dX5_measureLengths_98 rfl rfl ?_
      refine Ev.gI (pc := 99) (n := (0, 0)) (x := (F (q (ord m)) 3)) dX5_measureLengths_99 fl_X5_61 (hC1.nd hy).1 rfl (hC1.c3 hy) ?_
      refine Ev.aload_n (pc := 102) (n := (0, 0)) (i := 2) dX5_measureLengths_102 rfl rfl ?_
      refine Ev.gI (pc := 103) (n := (0, 0)) (x := (len (q (ord m)))) dX5_measureLengths_103 fl_X5_82 (hC1.nd hy).1 rfl (zup_s _ _ _ _) ?_
      refine Ev.callV (pc := 106) (n := (0, 0)) (ob := (ar p)) (as := [zi (F (q (ord m)) 3), zi (len (q (ord m)))]) (st := []) (s_lengthenRow (h := (h.1, (zup I' (ar (ord m)) 10 (len (q (ord m)))), h.2.2)) (hC1.nd hp) ⟨by omega, by omega⟩ (by show -2000000000 ≤ (zup I' (ar (ord m)) 10 (len (q (ord m)))) (ar p + 1) (F (q (ord m)) 3) + len (q (ord m)) ∧ (zup I' (ar (ord m)) 10 (len (q (ord m)))) (ar p + 1) (F (q (ord m)) 3) + len (q (ord m)) ≤ 2000000000; rw [eA]; exact ⟨by omega, by omega⟩)) dX5_measureLengths_106 ok_X3_lengthenRow (lk_X5_85 rfl) ⟨(Nat.le_of_ble_eq_true rfl), (Nat.le_of_ble_eq_true rfl)⟩ (hC1.nd hp).1 ⟨by decide, rfl⟩ rfl (Nat.le_of_ble_eq_true rfl) (Nat.le_of_ble_eq_true rfl) ⟨(Nat.le_of_ble_eq_true rfl), (Nat.le_of_ble_eq_true rfl)⟩ ?_
      refine Ev.iinc (pc := 109) (n := (0, 0)) (L' := [(1, zi ((m : Int) + (-1))), (2, zr (some (ar (ord m)))), (0, zr (some T))]) dX5_measureLengths_109 rfl (Nat.le_of_ble_eq_true rfl) ⟨by omega, by omega⟩ rfl ?_
      have e4 : (m : Int) + -1 = (m : Int) - 1 := rfl
      rw [e4]
      refine Ev.goto (pc := 112) (n := (0, 0)) (tgt := 48) dX5_measureLengths_112 rfl ?_
      refine Ev.perm [2, 0] rfl ?_
      exact h4
theorem s_measure {h0 h : zH} {T n : Nat} {F : zF} {ad dl : Int} {ar q ord : Nat → Nat} (hC : CT h T n F ad dl ar q) (hF : FO h0 h.2.2 T n F ad dl ar q ord n) (hB9 : BInv n (chp F q) ord n 0 n) {dep : Nat → Nat} {B : Int} (hw : WF n F dep B) (hB : 24 * (60 + B) ≤ 1000000000) {len : Int → Int} (hl : IsLen n F len) : ∃ I3, MLn h T n F ad dl ar q ord len I3 0 ∧ Ev M_X5_measureLengths 0 [(0, zr (some T))] [] h (0, 0) (.inl none, (h.1, I3, h.2.2)) := by
  have hn := hC.n24
  obtain ⟨I3, h3, h4⟩ := s_zero (h := h) (T := T) (n := n) (F := F) (ad := ad) (dl := dl) (ar := ar) (q := q) (fun I3 => MLn h T n F ad dl ar q ord len I3 0) n 0 h.2.1 rfl (by omega) ⟨hC, fun x hx r' h1 h2 h3 => by omega, fun _ _ => rfl⟩ (fun I2 hZ => by
    have hC2 := hZ.1
    obtain ⟨I3, h3, h4⟩ := s_len_loop hF hB9 hw hB hl n I2 (Nat.le_refl _) ⟨hZ.1, fun a h1 h2 => by omega, fun x hx r h1 h2 => by rw [rsm_n]; exact hZ.2.1 x hx r h1 h2 (Or.inl hx), fun o ho => hZ.2.2 o (fun x hx => (ho x hx).2), fun x hx k hk => by rw [hZ.2.2 (ar x) (fun y hy e => (hC.sep (show x < 24 by omega)).2.2 y (by omega) e)]⟩
    refine ⟨I3, h3, ?_⟩
    refine Ev.aload_n (pc := 41) (n := (0, 0)) (i := 0) dX5_measureLengths_41 rfl rfl ?_
    refine Ev.gI (pc := 42) (n := (0, 0)) (x := (n : Int)) dX5_measureLengths_42 fl_X5_20 hC2.1.1.1 rfl hC2.1.2.2.1 ?_
    refine Ev.iconst (pc := 45) (n := (0, 0)) dX5_measureLengths_45 ?_
    refine Ev.isub (pc := 46) (n := (0, 0)) dX5_measureLengths_46 ⟨by omega, by omega⟩ ?_
    refine Ev.istore_n (pc := 47) (n := (0, 0)) (i := 1) (L' := [(1, zi ((n : Int) - 1)), (0, zr (some T))]) dX5_measureLengths_47 rfl (Nat.le_of_ble_eq_true rfl) rfl ?_
    refine Ev.perm [1, 0] rfl ?_
    exact h4)
  refine ⟨I3, h3, ?_⟩
  refine Ev.iconst (pc := 0) (n := (0, 0)) dX5_measureLengths_0 ?_
  refine Ev.istore_n (pc := 1) (n := (0, 0)) (i := 1) (L' := [(1, zi 0), (0, zr (some T))]) dX5_measureLengths_1 rfl (Nat.le_of_ble_eq_true rfl) rfl ?_
  refine Ev.perm [1, 0] rfl ?_
  exact h4
