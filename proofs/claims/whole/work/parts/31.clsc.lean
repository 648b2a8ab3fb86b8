/-! ===== the class: what a tree tells, given its plan ===== -/
theorem PL.bd {n : Nat} {F : zF} {dep : Nat → Nat} {B : Int} (hw : WF n F dep B) (hB : 24 * (60 + B) ≤ 1000000000) {len st sl dp : Int → Int} (hl : IsLen n F len) (ht : IsTm n F len st sl dp) {k : Nat} (hk : k < n) : (0 ≤ len k ∧ 0 ≤ st k ∧ 0 ≤ sl k ∧ st k + len k + sl k ≤ len 0) ∧ len 0 ≤ 1000000000 ∧ 0 ≤ dp k ∧ dp k = dep k := by
  have hm := mtot_le hw
  have b1 := hl.bd hw k hk
  have b2 := ht.bd hw hl k hk
  have b3 : 0 ≤ len 0 ∧ len 0 ≤ mtot n F := hl.bd hw 0 (by omega)
  exact ⟨⟨b1.1, b2.1, b2.2.1, b2.2.2.2.1⟩, by omega, b2.2.2.1, b2.2.2.2.2⟩
theorem mcc_task {n : Nat} {F : zF} {dep : Nat → Nat} {B : Int} (hw : WF n F dep B) {k : Nat} (hk : k < n) (ht : F k 1 = 1) (r : Int) : mcc n F (F k 0) r = 0 := by
  refine zsum_none fun c hc => if_neg fun g => ?_
  rcases Nat.eq_zero_or_pos c with e | e
  · subst e
    exact hw.root2 hk g.1
  · obtain ⟨p, hp, e2, e3, -⟩ := (hw.2.2.2.2.1 c e hc).2.2
    have := hw.num_inj hp hk (e2.symm.trans g.1)
    subst this
    omega
theorem mrws_task {n : Nat} {F : zF} {dep : Nat → Nat} {B : Int} (hw : WF n F dep B) {len sl : Int → Int} {k : Nat} (hk : k < n) (ht : F k 1 = 1) : mrws n F len sl k = 0 := by
  refine zsum_none fun r _ => if_neg fun g => ?_
  have := mcc_task hw hk ht r
  have := g.2.2
  omega
theorem mRo_eq {n : Nat} {F : zF} {dep : Nat → Nat} {B : Int} (hw : WF n F dep B) (len sl : Int → Int) : zsum (fun k => mrws n F len sl k) n = mRo n F len sl n := by
  refine zsum_congr fun k hk => ?_
  show mrws n F len sl k = if F k 1 = 1 then 0 else mrws n F len sl k
  split
  · exact mrws_task hw hk (by assumption)
  · rfl
theorem CritTo.cnt {F : zF} {st sl : Int → Int} {k m : Nat} {A : Nat → Nat} (h : CritTo F st sl k m A) : zsum (fun k => if F k 1 = 1 ∧ sl k = 0 then 1 else 0) k = m := by
  have K : ∀ k : Nat, ∃ (m : Nat) (A : Nat → Nat), CritTo F st sl k m A ∧ zsum (fun k => if F k 1 = 1 ∧ sl k = 0 then 1 else 0) k = m := by
    intro k
    induction k with
    | zero => exact ⟨0, fun _ => 0, CritTo.none F st sl _, rfl⟩
    | succ k ih =>
      obtain ⟨m, A, h, e⟩ := ih
      have ez : zsum (fun k => if F k 1 = 1 ∧ sl k = 0 then 1 else 0) (k + 1) = zsum (fun k => if F k 1 = 1 ∧ sl k = 0 then 1 else 0) k + (if F k 1 = 1 ∧ sl k = 0 then 1 else 0) := rfl
      by_cases c : F k 1 = 1 ∧ sl k = 0
      · obtain ⟨m2, A2, h2⟩ := CritTo.ex F st sl (k + 1)
        rw [ez, e, if_pos c]
        have K : ∀ q : Nat, q ≤ m → (∀ j, q ≤ j → j < m → st k < st (A j)) → ∃ p, p ≤ m ∧ (p = 0 ∨ st (A (p - 1)) ≤ st k) ∧ ∀ j, p ≤ j → j < m → st k < st (A j) := by
          intro q
          induction q with
          | zero => intro h1 h2; exact ⟨0, h1, Or.inl rfl, h2⟩
          | succ q iq =>
            intro h1 h2
            by_cases g : st k < st (A q)
            · refine iq (by omega) (fun j h3 h4 => ?_)
              by_cases e : j = q
              · subst e; exact g
              · exact h2 j (by omega) h4
            · exact ⟨q + 1, h1, Or.inr (by show st (A q) ≤ st k; omega), h2⟩
        obtain ⟨p, h1, h2, h3⟩ := K m (Nat.le_refl _) (fun j h1 h2 => by omega)
        exact ⟨m + 1, cIns A p k, h.ins h1 c.1 c.2 h2 h3, by omega⟩
      · exact ⟨m, A, h.skip c, by rw [ez, e, if_neg c]; omega⟩
  obtain ⟨m2, A2, h2, e2⟩ := K k
  rw [e2, (h.uniq h2).1]
/-- the most tasks at one time: no other time need be looked at than those at which tasks start -/
def mstF (F : zF) (q : Nat → Nat) (g : Int → Int) : Nat → Int
  | 0 => 0
  | m + 1 => if F (q m) 1 = 1 then zmx (mstF F q g m) (g (q m)) else mstF F q g m
theorem mstF_rng {F : zF} {q : Nat → Nat} {g : Int → Int} {b : Int} (hb : 0 ≤ b) : ∀ m : Nat, (∀ i, i < m → g (q i) ≤ b) → 0 ≤ mstF F q g m ∧ mstF F q g m ≤ b := by
  intro m
  induction m with
  | zero => intro _; exact ⟨Int.le_refl _, hb⟩
  | succ m ih =>
    intro h
    have h1 := ih (fun i hi => h i (by omega))
    unfold mstF
    split
    · have := zmx_l (mstF F q g m) (g (q m))
      exact ⟨by omega, zmx_le h1.2 (h m (by omega))⟩
    · exact h1
theorem mstF_ge {F : zF} {q : Nat → Nat} {g : Int → Int} : ∀ {m i : Nat}, i < m → F (q i) 1 = 1 → g (q i) ≤ mstF F q g m := by
  intro m
  induction m with
  | zero => intro i hi; omega
  | succ m ih =>
    intro i hi h1
    unfold mstF
    by_cases e : i = m
    · subst e
      rw [if_pos h1]
      exact zmx_r _ _
    · have := ih (i := i) (by omega) h1
      split
      · have := zmx_l (mstF F q g m) (g (q m)); omega
      · exact this
theorem mstF_le {F : zF} {q : Nat → Nat} {g : Int → Int} {b : Int} (hb : 0 ≤ b) : ∀ m : Nat, (∀ i, i < m → F (q i) 1 = 1 → g (q i) ≤ b) → mstF F q g m ≤ b := by
  intro m
  induction m with
  | zero => intro _; exact hb
  | succ m ih =>
    intro h
    have h1 := ih (fun i hi => h i (by omega))
    unfold mstF
    split
    · exact zmx_le h1 (h m (by omega) (by assumption))
    · exact h1
theorem zmost_ge {g : Int → Int} : ∀ {m k : Nat}, k < m → g k ≤ zmost g m := by
  intro m
  induction m with
  | zero => intro k hk; omega
  | succ m ih =>
    intro k hk
    show g k ≤ zmx (zmost g m) (g m)
    by_cases e : k = m
    · subst e; exact zmx_r _ _
    · have := ih (k := k) (by omega)
      have := zmx_l (zmost g m) (g m); omega
theorem zmost_le {g : Int → Int} {b : Int} (hb : 0 ≤ b) : ∀ {m : Nat}, (∀ k : Nat, k < m → g k ≤ b) → zmost g m ≤ b := by
  intro m
  induction m with
  | zero => intro _; exact hb
  | succ m ih => intro h; exact zmx_le (ih fun k hk => h k (by omega)) (h m (by omega))
theorem zmost_nn (g : Int → Int) : ∀ m : Nat, 0 ≤ zmost g m := by
  intro m
  induction m with
  | zero => exact Int.le_refl _
  | succ m ih => have := zmx_l (zmost g m) (g m); show 0 ≤ zmx (zmost g m) (g m); omega
theorem zmaxat (P : Nat → Prop) (f : Nat → Int) : ∀ m : Nat, (∃ k, k < m ∧ P k) → ∃ k, k < m ∧ P k ∧ ∀ j, j < m → P j → f j ≤ f k := by
  intro m
  induction m with
  | zero => intro ⟨k, hk, _⟩; omega
  | succ m ih =>
    intro ⟨k, hk, hp⟩
    by_cases c : ∃ k, k < m ∧ P k
    · obtain ⟨k2, h1, h2, h3⟩ := ih c
      by_cases cm : P m ∧ f k2 < f m
      · refine ⟨m, by omega, cm.1, fun j hj hpj => ?_⟩
        by_cases e : j = m
        · subst e; omega
        · have := h3 j (by omega) hpj; omega
      · refine ⟨k2, by omega, h2, fun j hj hpj => ?_⟩
        by_cases e : j = m
        · subst e
          have : ¬ f k2 < f j := fun g => cm ⟨hpj, g⟩
          omega
        · exact h3 j (by omega) hpj
    · have e : k = m := Classical.byContradiction fun g => c ⟨k, by omega, hp⟩
      subst e
      refine ⟨k, by omega, hp, fun j hj hpj => ?_⟩
      by_cases e : j = k
      · subst e; omega
      · exact absurd ⟨j, by omega, hpj⟩ c
theorem mMo_eq {n : Nat} {F : zF} {q : Nat → Nat} (hq : ∀ i, i < n → q i < n) (ho : ∀ k, k < n → ∃ i, i < n ∧ q i = k) (len st : Int → Int) : mstF F q (fun k => mrun n F len st (st k)) n = mMo n F len st n := by
  refine Int.le_antisymm (mstF_le (zmost_nn _ _) n fun i hi _ => ?_) (zmost_le ?_ fun k hk => ?_)
  · exact zmost_ge (g := fun k => mrun n F len st (st k)) (hq i hi)
  · exact (mstF_rng (b := 24 + n) (by omega) n fun i hi => by have := (mrun_bd F len st (st (q i)) n).2; show mrun n F len st (st (q i)) ≤ _; unfold mrun; omega).1
  · by_cases c : ∃ j : Nat, j < n ∧ ((F j 1 = 1 ∧ st j ≤ st k) ∧ st k < st j + len j)
    · obtain ⟨j, hj, h1, h2⟩ := zmaxat (fun j => (F j 1 = 1 ∧ st j ≤ st k) ∧ st k < st j + len j) (fun j => st j) n c
      obtain ⟨i, hi, e⟩ := ho j hj
      have hge := mstF_ge (F := F) (q := q) (g := fun k => mrun n F len st (st k)) hi (by rw [e]; exact h1.1.1)
      refine Int.le_trans ?_ hge
      rw [e]
      show mrun n F len st (st k) ≤ mrun n F len st (st j)
      refine zsum_le fun x hx => ?_
      skip
      by_cases g : (F x 1 = 1 ∧ st x ≤ st k) ∧ st k < st x + len x
      · have := h2 x hx g
        rw [if_pos g, if_pos ⟨⟨g.1.1, this⟩, by omega⟩]
        omega
      · rw [if_neg g]
        split <;> omega
    · have e0 : mrun n F len st (st k) = 0 := zsum_none fun j hj => if_neg fun g => c ⟨j, hj, g⟩
      have := (mstF_rng (F := F) (q := q) (g := fun k => mrun n F len st (st k)) (b := 24 + n) (by omega) n fun i hi => by have := (mrun_bd F len st (st (q i)) n).2; show mrun n F len st (st (q i)) ≤ _; unfold mrun; omega).1
      show mrun n F len st (st k) ≤ _
      omega
/-- the places of a row are counted in the order of the list -/
theorem Ordd.lt {n : Nat} {F : zF} {q : Nat → Nat} (h : Ordd n F q) {i j : Nat} (hi : 1 ≤ i) (hij : i < j) (hj : j < n) (e2 : F (q i) 2 = F (q j) 2) (e3 : F (q i) 3 = F (q j) 3) : F (q i) 4 < F (q j) 4 := by
  rw [h i hi (by omega), h j (by omega) hj]
  have e : sameRow F (q i) = sameRow F (q j) := by
    funext x
    unfold sameRow
    rw [e2, e3]
  rw [e]
  have h1 : zsq q (sameRow F (q j)) (i + 1) = zsq q (sameRow F (q j)) i + sameRow F (q j) (q i) := rfl
  have h2 : sameRow F (q j) (q i) = 1 := if_pos ⟨e2, e3⟩
  have h3 : zsq q (sameRow F (q j)) (i + 1) ≤ zsq q (sameRow F (q j)) j := zsum_up hij fun k _ => by
    show 0 ≤ sameRow F (q j) (q k)
    unfold sameRow
    split <;> omega
  omega
theorem Ordd.uniq {n : Nat} {F : zF} {q : Nat → Nat} (h : Ordd n F q) {i j : Nat} (hi : 1 ≤ i) (hin : i < n) (hj1 : 1 ≤ j) (hj : j < n) (e2 : F (q i) 2 = F (q j) 2) (e3 : F (q i) 3 = F (q j) 3) (e4 : F (q i) 4 = F (q j) 4) : i = j := by
  rcases Nat.lt_trichotomy i j with g | g | g
  · have := h.lt hi g hj e2 e3; omega
  · exact g
  · have := h.lt hj1 g hin e2.symm e3.symm; omega
theorem s_countRunningC_loop {h : zH} {T n : Nat} {F : zF} {ad dl : Int} {ar q : Nat → Nat} (hC : CT h T n F ad dl ar q) {dep : Nat → Nat} {B : Int} (hw : WF n F dep B) (hB : 24 * (60 + B) ≤ 1000000000) {len st sl dp : Int → Int} (hl : IsLen n F len) (ht : IsTm n F len st sl dp) (hP : PLN h n F len st sl dp ar q) {t : Int} : ∀ (j m : Nat), m ≤ n → n - m = j → Ev M_X5_countRunning 4 [(0, zr (some T)), (1, zi t), (2, zi (zsq q (fun k => if (F k 1 = 1 ∧ st k ≤ t) ∧ t < st k + len k then 1 else 0) m)), (3, zi (m : Int))] [] h (0, 0) (.inl (some (zi (zsum (fun k => if (F k 1 = 1 ∧ st k ≤ t) ∧ t < st k + len k then 1 else 0) n))), h) := by
  intro j
  have hn := hC.n24
  induction j with
  | zero =>
    intro m hm hj
    have e : m = n := by omega
    subst e
    rw [← hC.sum]
    refine Ev.iload_n (pc := 4) (n := (0, 0)) (i := 3) dX5_countRunning_4 rfl rfl ?_
    refine Ev.aload_n (pc := 5) (n := (0, 0)) (i := 0) dX5_countRunning_5 rfl rfl ?_
    refine Ev.gI (pc := 6) (n := (0, 0)) (x := (m : Int)) dX5_countRunning_6 fl_X5_20 hC.1.1.1 rfl hC.1.2.2.1 ?_
    refine Ev.icmp_ge (pc := 9) (n := (0, 0)) (tgt := 39) dX5_countRunning_9 rfl (fun hc => ?_) (fun hc => absurd hc (by omega))
    refine Ev.iload_n (pc := 39) (n := (0, 0)) (i := 2) dX5_countRunning_39 rfl rfl ?_
    exact Ev.iret dX5_countRunning_40 rfl ⟨(Nat.le_of_ble_eq_true rfl), (Nat.le_of_ble_eq_true rfl)⟩
  | succ j ih =>
    intro m hm hj
    have hmn : m < n := by omega
    have hq := hC.qlt hmn
    have k9 := ih (m + 1) (by omega) (by omega)
    have hs := zsq_bd (q := q) (g := (fun k => if (F k 1 = 1 ∧ st k ≤ t) ∧ t < st k + len k then 1 else 0)) (b := 1) (by omega) (m := m) (fun i hi => by split <;> omega)
    have ez : zsq q (fun k => if (F k 1 = 1 ∧ st k ≤ t) ∧ t < st k + len k then 1 else 0) (m + 1) = zsq q (fun k => if (F k 1 = 1 ∧ st k ≤ t) ∧ t < st k + len k then 1 else 0) m + (fun k => if (F k 1 = 1 ∧ st k ≤ t) ∧ t < st k + len k then 1 else 0) (q m) := rfl
    rw [ez] at k9
    refine Ev.iload_n (pc := 4) (n := (0, 0)) (i := 3) dX5_countRunning_4 rfl rfl ?_
    refine Ev.aload_n (pc := 5) (n := (0, 0)) (i := 0) dX5_countRunning_5 rfl rfl ?_
    refine Ev.gI (pc := 6) (n := (0, 0)) (x := (n : Int)) dX5_countRunning_6 fl_X5_20 hC.1.1.1 rfl hC.1.2.2.1 ?_
    refine Ev.icmp_ge (pc := 9) (n := (0, 0)) (tgt := 39) dX5_countRunning_9 rfl (fun hc => absurd hc (by omega)) (fun hc => ?_)
    have b0 := (hw.2.2.2.1 (q m) hq).1
    have b1 := PL.bd hw hB hl ht hq
    refine Ev.iload_n (pc := 12) (n := (0, 0)) (i := 2) dX5_countRunning_12 rfl rfl ?_
    refine Ev.aload_n (pc := 13) (n := (0, 0)) (i := 0) dX5_countRunning_13 rfl rfl ?_
    refine Ev.gR (pc := 14) (n := (0, 0)) (r := (some (T + 1))) dX5_countRunning_14 fl_X5_11 hC.1.1.1 rfl hC.1.2.1.1 ?_
    refine Ev.iload_n (pc := 17) (n := (0, 0)) (i := 3) dX5_countRunning_17 rfl rfl ?_
    refine Ev.aa (pc := 18) (n := (0, 0)) (r := (some (ar m))) dX5_countRunning_18 hC.1.1.2.1 (by decide) (by omega) (by omega) (hC.arr hmn) ?_
    refine Ev.iload_n (pc := 19) (n := (0, 0)) (i := 1) dX5_countRunning_19 rfl rfl ?_
    refine Ev.callV (pc := 20) (n := (0, 0)) (ob := (ar m)) (as := [zi t]) (st := [zi (zsq q (fun k => if (F k 1 = 1 ∧ st k ≤ t) ∧ t < st k + len k then 1 else 0) m)]) (s_runsAt (hC.nd hmn) (hC.c1 hmn) b0 (hP.p3 hmn) (hP.p2 hmn) ⟨by omega, by omega, by omega, by omega⟩) dX5_countRunning_20 ok_X3_runsAt (lk_X5_232 rfl) ⟨(Nat.le_of_ble_eq_true rfl), (Nat.le_of_ble_eq_true rfl)⟩ (hC.nd hmn).1 ⟨by decide, rfl⟩ rfl (Nat.le_of_ble_eq_true rfl) (Nat.le_of_ble_eq_true rfl) ⟨(Nat.le_of_ble_eq_true rfl), (Nat.le_of_ble_eq_true rfl)⟩ ?_
    have eg : ((fun k => if (F k 1 = 1 ∧ st k ≤ t) ∧ t < st k + len k then 1 else 0) (q m) : Int) = (if (F (q m) 1 = 1 ∧ st (q m) ≤ t) ∧ t < st (q m) + len (q m) then 1 else 0) := rfl
    rw [eg] at k9
    by_cases h9 : (F (q m) 1 = 1 ∧ st (q m) ≤ t) ∧ t < st (q m) + len (q m)
    · skip
      rw [if_pos h9]
      rw [if_pos h9] at k9
      refine Ev.if_eq (pc := 23) (n := (0, 0)) (tgt := 30) dX5_countRunning_23 rfl (fun hc => absurd hc (by decide)) (fun hc => ?_)
      refine Ev.iconst (pc := 26) (n := (0, 0)) dX5_countRunning_26 ?_
      refine Ev.goto (pc := 27) (n := (0, 0)) (tgt := 31) dX5_countRunning_27 rfl ?_
      refine Ev.iadd (pc := 31) (n := (0, 0)) dX5_countRunning_31 ⟨by omega, by omega⟩ ?_
      refine Ev.istore_n (pc := 32) (n := (0, 0)) (i := 2) (L' := [(2, zi ((zsq q (fun k => if (F k 1 = 1 ∧ st k ≤ t) ∧ t < st k + len k then 1 else 0) m) + 1)), (0, zr (some T)), (1, zi t), (3, zi (m : Int))]) dX5_countRunning_32 rfl (Nat.le_of_ble_eq_true rfl) rfl ?_
      refine Ev.iinc (pc := 33) (n := (0, 0)) (L' := [(3, zi ((m : Int) + 1)), (2, zi ((zsq q (fun k => if (F k 1 = 1 ∧ st k ≤ t) ∧ t < st k + len k then 1 else 0) m) + 1)), (0, zr (some T)), (1, zi t)]) dX5_countRunning_33 rfl (Nat.le_of_ble_eq_true rfl) ⟨by omega, by omega⟩ rfl ?_
      refine Ev.goto (pc := 36) (n := (0, 0)) (tgt := 4) dX5_countRunning_36 rfl ?_
      refine Ev.perm [2, 3, 1, 0] rfl ?_
      exact k9
    · skip
      rw [if_neg h9]
      rw [if_neg h9] at k9
      refine Ev.if_eq (pc := 23) (n := (0, 0)) (tgt := 30) dX5_countRunning_23 rfl (fun hc => ?_) (fun hc => absurd rfl hc)
      refine Ev.iconst (pc := 30) (n := (0, 0)) dX5_countRunning_30 ?_
      refine Ev.iadd (pc := 31) (n := (0, 0)) dX5_countRunning_31 ⟨by omega, by omega⟩ ?_
      refine Ev.istore_n (pc := 32) (n := (0, 0)) (i := 2) (L' := [(2, zi ((zsq q (fun k => if (F k 1 = 1 ∧ st k ≤ t) ∧ t < st k + len k then 1 else 0) m) + 0)), (0, zr (some T)), (1, zi t), (3, zi (m : Int))]) dX5_countRunning_32 rfl (Nat.le_of_ble_eq_true rfl) rfl ?_
      refine Ev.iinc (pc := 33) (n := (0, 0)) (L' := [(3, zi ((m : Int) + 1)), (2, zi ((zsq q (fun k => if (F k 1 = 1 ∧ st k ≤ t) ∧ t < st k + len k then 1 else 0) m) + 0)), (0, zr (some T)), (1, zi t)]) dX5_countRunning_33 rfl (Nat.le_of_ble_eq_true rfl) ⟨by omega, by omega⟩ rfl ?_
      refine Ev.goto (pc := 36) (n := (0, 0)) (tgt := 4) dX5_countRunning_36 rfl ?_
      refine Ev.perm [2, 3, 1, 0] rfl ?_
      exact k9
theorem s_countRunningC {h : zH} {T n : Nat} {F : zF} {ad dl : Int} {ar q : Nat → Nat} (hC : CT h T n F ad dl ar q) {dep : Nat → Nat} {B : Int} (hw : WF n F dep B) (hB : 24 * (60 + B) ≤ 1000000000) {len st sl dp : Int → Int} (hl : IsLen n F len) (ht : IsTm n F len st sl dp) (hP : PLN h n F len st sl dp ar q) {t : Int} : Ev M_X5_countRunning 0 [(0, zr (some T)), (1, zi t)] [] h (0, 0) (.inl (some (zi (mrun n F len st t))), h) := by
  refine Ev.iconst (pc := 0) (n := (0, 0)) dX5_countRunning_0 ?_
  refine Ev.istore_n (pc := 1) (n := (0, 0)) (i := 2) (L' := [(2, zi 0), (0, zr (some T)), (1, zi t)]) dX5_countRunning_1 rfl (Nat.le_of_ble_eq_true rfl) rfl ?_
  refine Ev.iconst (pc := 2) (n := (0, 0)) dX5_countRunning_2 ?_
  refine Ev.istore_n (pc := 3) (n := (0, 0)) (i := 3) (L' := [(3, zi 0), (2, zi 0), (0, zr (some T)), (1, zi t)]) dX5_countRunning_3 rfl (Nat.le_of_ble_eq_true rfl) rfl ?_
  refine Ev.perm [2, 3, 1, 0] rfl ?_
  exact s_countRunningC_loop hC hw hB hl ht hP n 0 (by omega) (by omega)
theorem s_countCritC_loop {h : zH} {T n : Nat} {F : zF} {ad dl : Int} {ar q : Nat → Nat} (hC : CT h T n F ad dl ar q) {dep : Nat → Nat} {B : Int} (hw : WF n F dep B) (hB : 24 * (60 + B) ≤ 1000000000) {len st sl dp : Int → Int} (hl : IsLen n F len) (ht : IsTm n F len st sl dp) (hP : PLN h n F len st sl dp ar q) : ∀ (j m : Nat), m ≤ n → n - m = j → Ev M_X5_countCriticalTasks 4 [(0, zr (some T)), (1, zi (zsq q (fun k => if F k 1 = 1 ∧ sl k = 0 then 1 else 0) m)), (2, zi (m : Int))] [] h (0, 0) (.inl (some (zi (zsum (fun k => if F k 1 = 1 ∧ sl k = 0 then 1 else 0) n))), h) := by
  intro j
  have hn := hC.n24
  induction j with
  | zero =>
    intro m hm hj
    have e : m = n := by omega
    subst e
    rw [← hC.sum]
    refine Ev.iload_n (pc := 4) (n := (0, 0)) (i := 2) dX5_countCriticalTasks_4 rfl rfl ?_
    refine Ev.aload_n (pc := 5) (n := (0, 0)) (i := 0) dX5_countCriticalTasks_5 rfl rfl ?_
    refine Ev.gI (pc := 6) (n := (0, 0)) (x := (m : Int)) dX5_countCriticalTasks_6 fl_X5_20 hC.1.1.1 rfl hC.1.2.2.1 ?_
    refine Ev.icmp_ge (pc := 9) (n := (0, 0)) (tgt := 38) dX5_countCriticalTasks_9 rfl (fun hc => ?_) (fun hc => absurd hc (by omega))
    refine Ev.iload_n (pc := 38) (n := (0, 0)) (i := 1) dX5_countCriticalTasks_38 rfl rfl ?_
    exact Ev.iret dX5_countCriticalTasks_39 rfl ⟨(Nat.le_of_ble_eq_true rfl), (Nat.le_of_ble_eq_true rfl)⟩
  | succ j ih =>
    intro m hm hj
    have hmn : m < n := by omega
    have hq := hC.qlt hmn
    have k9 := ih (m + 1) (by omega) (by omega)
    have hs := zsq_bd (q := q) (g := (fun k => if F k 1 = 1 ∧ sl k = 0 then 1 else 0)) (b := 1) (by omega) (m := m) (fun i hi => by split <;> omega)
    have ez : zsq q (fun k => if F k 1 = 1 ∧ sl k = 0 then 1 else 0) (m + 1) = zsq q (fun k => if F k 1 = 1 ∧ sl k = 0 then 1 else 0) m + (fun k => if F k 1 = 1 ∧ sl k = 0 then 1 else 0) (q m) := rfl
    rw [ez] at k9
    refine Ev.iload_n (pc := 4) (n := (0, 0)) (i := 2) dX5_countCriticalTasks_4 rfl rfl ?_
    refine Ev.aload_n (pc := 5) (n := (0, 0)) (i := 0) dX5_countCriticalTasks_5 rfl rfl ?_
    refine Ev.gI (pc := 6) (n := (0, 0)) (x := (n : Int)) dX5_countCriticalTasks_6 fl_X5_20 hC.1.1.1 rfl hC.1.2.2.1 ?_
    refine Ev.icmp_ge (pc := 9) (n := (0, 0)) (tgt := 38) dX5_countCriticalTasks_9 rfl (fun hc => absurd hc (by omega)) (fun hc => ?_)
    have b0 := (hw.2.2.2.1 (q m) hq).1
    refine Ev.iload_n (pc := 12) (n := (0, 0)) (i := 1) dX5_countCriticalTasks_12 rfl rfl ?_
    refine Ev.aload_n (pc := 13) (n := (0, 0)) (i := 0) dX5_countCriticalTasks_13 rfl rfl ?_
    refine Ev.gR (pc := 14) (n := (0, 0)) (r := (some (T + 1))) dX5_countCriticalTasks_14 fl_X5_11 hC.1.1.1 rfl hC.1.2.1.1 ?_
    refine Ev.iload_n (pc := 17) (n := (0, 0)) (i := 2) dX5_countCriticalTasks_17 rfl rfl ?_
    refine Ev.aa (pc := 18) (n := (0, 0)) (r := (some (ar m))) dX5_countCriticalTasks_18 hC.1.1.2.1 (by decide) (by omega) (by omega) (hC.arr hmn) ?_
    refine Ev.callV (pc := 19) (n := (0, 0)) (ob := (ar m)) (as := []) (st := [zi (zsq q (fun k => if F k 1 = 1 ∧ sl k = 0 then 1 else 0) m)]) (s_isCriticalTask (hC.nd hmn) (hC.c1 hmn) b0 (hP.p5 hmn)) dX5_countCriticalTasks_19 ok_X3_isCriticalTask (lk_X5_221 rfl) ⟨(Nat.le_of_ble_eq_true rfl), (Nat.le_of_ble_eq_true rfl)⟩ (hC.nd hmn).1 ⟨by decide, rfl⟩ rfl (Nat.le_of_ble_eq_true rfl) (Nat.le_of_ble_eq_true rfl) ⟨(Nat.le_of_ble_eq_true rfl), (Nat.le_of_ble_eq_true rfl)⟩ ?_
    have eg : ((fun k => if F k 1 = 1 ∧ sl k = 0 then 1 else 0) (q m) : Int) = (if F (q m) 1 = 1 ∧ sl (q m) = 0 then 1 else 0) := rfl
    rw [eg] at k9
    by_cases h9 : F (q m) 1 = 1 ∧ sl (q m) = 0
    · skip
      rw [if_pos h9]
      rw [if_pos h9] at k9
      refine Ev.if_eq (pc := 22) (n := (0, 0)) (tgt := 29) dX5_countCriticalTasks_22 rfl (fun hc => absurd hc (by decide)) (fun hc => ?_)
      refine Ev.iconst (pc := 25) (n := (0, 0)) dX5_countCriticalTasks_25 ?_
      refine Ev.goto (pc := 26) (n := (0, 0)) (tgt := 30) dX5_countCriticalTasks_26 rfl ?_
      refine Ev.iadd (pc := 30) (n := (0, 0)) dX5_countCriticalTasks_30 ⟨by omega, by omega⟩ ?_
      refine Ev.istore_n (pc := 31) (n := (0, 0)) (i := 1) (L' := [(1, zi ((zsq q (fun k => if F k 1 = 1 ∧ sl k = 0 then 1 else 0) m) + 1)), (0, zr (some T)), (2, zi (m : Int))]) dX5_countCriticalTasks_31 rfl (Nat.le_of_ble_eq_true rfl) rfl ?_
      refine Ev.iinc (pc := 32) (n := (0, 0)) (L' := [(2, zi ((m : Int) + 1)), (1, zi ((zsq q (fun k => if F k 1 = 1 ∧ sl k = 0 then 1 else 0) m) + 1)), (0, zr (some T))]) dX5_countCriticalTasks_32 rfl (Nat.le_of_ble_eq_true rfl) ⟨by omega, by omega⟩ rfl ?_
      refine Ev.goto (pc := 35) (n := (0, 0)) (tgt := 4) dX5_countCriticalTasks_35 rfl ?_
      refine Ev.perm [2, 1, 0] rfl ?_
      exact k9
    · skip
      rw [if_neg h9]
      rw [if_neg h9] at k9
      refine Ev.if_eq (pc := 22) (n := (0, 0)) (tgt := 29) dX5_countCriticalTasks_22 rfl (fun hc => ?_) (fun hc => absurd rfl hc)
      refine Ev.iconst (pc := 29) (n := (0, 0)) dX5_countCriticalTasks_29 ?_
      refine Ev.iadd (pc := 30) (n := (0, 0)) dX5_countCriticalTasks_30 ⟨by omega, by omega⟩ ?_
      refine Ev.istore_n (pc := 31) (n := (0, 0)) (i := 1) (L' := [(1, zi ((zsq q (fun k => if F k 1 = 1 ∧ sl k = 0 then 1 else 0) m) + 0)), (0, zr (some T)), (2, zi (m : Int))]) dX5_countCriticalTasks_31 rfl (Nat.le_of_ble_eq_true rfl) rfl ?_
      refine Ev.iinc (pc := 32) (n := (0, 0)) (L' := [(2, zi ((m : Int) + 1)), (1, zi ((zsq q (fun k => if F k 1 = 1 ∧ sl k = 0 then 1 else 0) m) + 0)), (0, zr (some T))]) dX5_countCriticalTasks_32 rfl (Nat.le_of_ble_eq_true rfl) ⟨by omega, by omega⟩ rfl ?_
      refine Ev.goto (pc := 35) (n := (0, 0)) (tgt := 4) dX5_countCriticalTasks_35 rfl ?_
      refine Ev.perm [2, 1, 0] rfl ?_
      exact k9
theorem s_countCritC {h : zH} {T n : Nat} {F : zF} {ad dl : Int} {ar q : Nat → Nat} (hC : CT h T n F ad dl ar q) {dep : Nat → Nat} {B : Int} (hw : WF n F dep B) (hB : 24 * (60 + B) ≤ 1000000000) {len st sl dp : Int → Int} (hl : IsLen n F len) (ht : IsTm n F len st sl dp) (hP : PLN h n F len st sl dp ar q) : Ev M_X5_countCriticalTasks 0 [(0, zr (some T))] [] h (0, 0) (.inl (some (zi (zsum (fun k => if F k 1 = 1 ∧ sl k = 0 then 1 else 0) n))), h) := by
  refine Ev.iconst (pc := 0) (n := (0, 0)) dX5_countCriticalTasks_0 ?_
  refine Ev.istore_n (pc := 1) (n := (0, 0)) (i := 1) (L' := [(1, zi 0), (0, zr (some T))]) dX5_countCriticalTasks_1 rfl (Nat.le_of_ble_eq_true rfl) rfl ?_
  refine Ev.iconst (pc := 2) (n := (0, 0)) dX5_countCriticalTasks_2 ?_
  refine Ev.istore_n (pc := 3) (n := (0, 0)) (i := 2) (L' := [(2, zi 0), (1, zi 0), (0, zr (some T))]) dX5_countCriticalTasks_3 rfl (Nat.le_of_ble_eq_true rfl) rfl ?_
  refine Ev.perm [2, 1, 0] rfl ?_
  exact s_countCritC_loop hC hw hB hl ht hP n 0 (by omega) (by omega)
theorem s_countChildrenC_loop {h : zH} {T n : Nat} {F : zF} {ad dl : Int} {ar q : Nat → Nat} (hC : CT h T n F ad dl ar q) {dep : Nat → Nat} {B : Int} (hw : WF n F dep B) {i0 : Nat} (hi0 : i0 < n) {r : Int} : ∀ (j m : Nat), 1 ≤ m → m ≤ n → n - m = j → Ev M_X5_countChildren 5 [(0, zr (some T)), (1, zr (some (ar i0))), (2, zi r), (3, zi (zsq q (fun k => if F k 2 = F (q i0) 0 ∧ F k 3 = r then 1 else 0) m)), (4, zi (m : Int))] [] h (0, 0) (.inl (some (zi (zsum (fun k => if F k 2 = F (q i0) 0 ∧ F k 3 = r then 1 else 0) n))), h) := by
  intro j
  have hn := hC.n24
  induction j with
  | zero =>
    intro m hm1 hm hj
    have e : m = n := by omega
    subst e
    rw [← hC.sum]
    refine Ev.iload (pc := 5) (n := (0, 0)) dX5_countChildren_5 rfl ?_
    refine Ev.aload_n (pc := 7) (n := (0, 0)) (i := 0) dX5_countChildren_7 rfl rfl ?_
    refine Ev.gI (pc := 8) (n := (0, 0)) (x := (m : Int)) dX5_countChildren_8 fl_X5_20 hC.1.1.1 rfl hC.1.2.2.1 ?_
    refine Ev.icmp_ge (pc := 11) (n := (0, 0)) (tgt := 46) dX5_countChildren_11 rfl (fun hc => ?_) (fun hc => absurd hc (by omega))
    refine Ev.iload_n (pc := 46) (n := (0, 0)) (i := 3) dX5_countChildren_46 rfl rfl ?_
    exact Ev.iret dX5_countChildren_47 rfl ⟨(Nat.le_of_ble_eq_true rfl), (Nat.le_of_ble_eq_true rfl)⟩
  | succ j ih =>
    intro m hm1 hm hj
    have hmn : m < n := by omega
    have hq := hC.qlt hmn
    have k9 := ih (m + 1) (by omega) (by omega) (by omega)
    have hs := zsq_bd (q := q) (g := (fun k => if F k 2 = F (q i0) 0 ∧ F k 3 = r then 1 else 0)) (b := 1) (by omega) (m := m) (fun i hi => by split <;> omega)
    have ez : zsq q (fun k => if F k 2 = F (q i0) 0 ∧ F k 3 = r then 1 else 0) (m + 1) = zsq q (fun k => if F k 2 = F (q i0) 0 ∧ F k 3 = r then 1 else 0) m + (fun k => if F k 2 = F (q i0) 0 ∧ F k 3 = r then 1 else 0) (q m) := rfl
    rw [ez] at k9
    refine Ev.iload (pc := 5) (n := (0, 0)) dX5_countChildren_5 rfl ?_
    refine Ev.aload_n (pc := 7) (n := (0, 0)) (i := 0) dX5_countChildren_7 rfl rfl ?_
    refine Ev.gI (pc := 8) (n := (0, 0)) (x := (n : Int)) dX5_countChildren_8 fl_X5_20 hC.1.1.1 rfl hC.1.2.2.1 ?_
    refine Ev.icmp_ge (pc := 11) (n := (0, 0)) (tgt := 46) dX5_countChildren_11 rfl (fun hc => absurd hc (by omega)) (fun hc => ?_)
    refine Ev.iload_n (pc := 14) (n := (0, 0)) (i := 3) dX5_countChildren_14 rfl rfl ?_
    refine Ev.aload_n (pc := 15) (n := (0, 0)) (i := 0) dX5_countChildren_15 rfl rfl ?_
    refine Ev.gR (pc := 16) (n := (0, 0)) (r := (some (T + 1))) dX5_countChildren_16 fl_X5_11 hC.1.1.1 rfl hC.1.2.1.1 ?_
    refine Ev.iload (pc := 19) (n := (0, 0)) dX5_countChildren_19 rfl ?_
    refine Ev.aa (pc := 21) (n := (0, 0)) (r := (some (ar m))) dX5_countChildren_21 hC.1.1.2.1 (by decide) (by omega) (by omega) (hC.arr hmn) ?_
    refine Ev.aload_n (pc := 22) (n := (0, 0)) (i := 1) dX5_countChildren_22 rfl rfl ?_
    refine Ev.gI (pc := 23) (n := (0, 0)) (x := (F (q i0) 0)) dX5_countChildren_23 fl_X5_35 (hC.nd hi0).1 rfl (hC.c0 hi0) ?_
    refine Ev.iload_n (pc := 26) (n := (0, 0)) (i := 2) dX5_countChildren_26 rfl rfl ?_
    refine Ev.callV (pc := 27) (n := (0, 0)) (ob := (ar m)) (as := [zi (F (q i0) 0), zi r]) (st := [zi (zsq q (fun k => if F k 2 = F (q i0) 0 ∧ F k 3 = r then 1 else 0) m)]) (s_standsIn (hC.nd hmn) (hC.c2 hmn) (hC.c3 hmn)) dX5_countChildren_27 ok_X3_standsIn (lk_X5_239 rfl) ⟨(Nat.le_of_ble_eq_true rfl), (Nat.le_of_ble_eq_true rfl)⟩ (hC.nd hmn).1 ⟨by decide, rfl⟩ rfl (Nat.le_of_ble_eq_true rfl) (Nat.le_of_ble_eq_true rfl) ⟨(Nat.le_of_ble_eq_true rfl), (Nat.le_of_ble_eq_true rfl)⟩ ?_
    have eg : ((fun k => if F k 2 = F (q i0) 0 ∧ F k 3 = r then 1 else 0) (q m) : Int) = (if F (q m) 2 = F (q i0) 0 ∧ F (q m) 3 = r then 1 else 0) := rfl
    rw [eg] at k9
    by_cases h9 : F (q m) 2 = F (q i0) 0 ∧ F (q m) 3 = r
    · skip
      rw [if_pos h9]
      rw [if_pos h9] at k9
      refine Ev.if_eq (pc := 30) (n := (0, 0)) (tgt := 37) dX5_countChildren_30 rfl (fun hc => absurd hc (by decide)) (fun hc => ?_)
      refine Ev.iconst (pc := 33) (n := (0, 0)) dX5_countChildren_33 ?_
      refine Ev.goto (pc := 34) (n := (0, 0)) (tgt := 38) dX5_countChildren_34 rfl ?_
      refine Ev.iadd (pc := 38) (n := (0, 0)) dX5_countChildren_38 ⟨by omega, by omega⟩ ?_
      refine Ev.istore_n (pc := 39) (n := (0, 0)) (i := 3) (L' := [(3, zi ((zsq q (fun k => if F k 2 = F (q i0) 0 ∧ F k 3 = r then 1 else 0) m) + 1)), (0, zr (some T)), (1, zr (some (ar i0))), (2, zi r), (4, zi (m : Int))]) dX5_countChildren_39 rfl (Nat.le_of_ble_eq_true rfl) rfl ?_
      refine Ev.iinc (pc := 40) (n := (0, 0)) (L' := [(4, zi ((m : Int) + 1)), (3, zi ((zsq q (fun k => if F k 2 = F (q i0) 0 ∧ F k 3 = r then 1 else 0) m) + 1)), (0, zr (some T)), (1, zr (some (ar i0))), (2, zi r)]) dX5_countChildren_40 rfl (Nat.le_of_ble_eq_true rfl) ⟨by omega, by omega⟩ rfl ?_
      refine Ev.goto (pc := 43) (n := (0, 0)) (tgt := 5) dX5_countChildren_43 rfl ?_
      refine Ev.perm [2, 3, 4, 1, 0] rfl ?_
      exact k9
    · skip
      rw [if_neg h9]
      rw [if_neg h9] at k9
      refine Ev.if_eq (pc := 30) (n := (0, 0)) (tgt := 37) dX5_countChildren_30 rfl (fun hc => ?_) (fun hc => absurd rfl hc)
      refine Ev.iconst (pc := 37) (n := (0, 0)) dX5_countChildren_37 ?_
      refine Ev.iadd (pc := 38) (n := (0, 0)) dX5_countChildren_38 ⟨by omega, by omega⟩ ?_
      refine Ev.istore_n (pc := 39) (n := (0, 0)) (i := 3) (L' := [(3, zi ((zsq q (fun k => if F k 2 = F (q i0) 0 ∧ F k 3 = r then 1 else 0) m) + 0)), (0, zr (some T)), (1, zr (some (ar i0))), (2, zi r), (4, zi (m : Int))]) dX5_countChildren_39 rfl (Nat.le_of_ble_eq_true rfl) rfl ?_
      refine Ev.iinc (pc := 40) (n := (0, 0)) (L' := [(4, zi ((m : Int) + 1)), (3, zi ((zsq q (fun k => if F k 2 = F (q i0) 0 ∧ F k 3 = r then 1 else 0) m) + 0)), (0, zr (some T)), (1, zr (some (ar i0))), (2, zi r)]) dX5_countChildren_40 rfl (Nat.le_of_ble_eq_true rfl) ⟨by omega, by omega⟩ rfl ?_
      refine Ev.goto (pc := 43) (n := (0, 0)) (tgt := 5) dX5_countChildren_43 rfl ?_
      refine Ev.perm [2, 3, 4, 1, 0] rfl ?_
      exact k9
theorem s_countChildrenC {h : zH} {T n : Nat} {F : zF} {ad dl : Int} {ar q : Nat → Nat} (hC : CT h T n F ad dl ar q) {dep : Nat → Nat} {B : Int} (hw : WF n F dep B) {i0 : Nat} (hi0 : i0 < n) {r : Int} : Ev M_X5_countChildren 0 [(0, zr (some T)), (1, zr (some (ar i0))), (2, zi r)] [] h (0, 0) (.inl (some (zi (mcc n F (F (q i0) 0) r))), h) := by
  have e0 : zsq q (fun k => if F k 2 = F (q i0) 0 ∧ F k 3 = r then 1 else 0) 1 = 0 := by
    show 0 + (if F (q 0) 2 = F (q i0) 0 ∧ F (q 0) 3 = r then 1 else 0) = (0 : Int)
    rw [if_neg (fun g => hw.root2 (hC.qlt hi0) (by have := g.1; rw [hC.q0] at this; exact this))]
    rfl
  refine Ev.iconst (pc := 0) (n := (0, 0)) dX5_countChildren_0 ?_
  refine Ev.istore_n (pc := 1) (n := (0, 0)) (i := 3) (L' := [(3, zi 0), (0, zr (some T)), (1, zr (some (ar i0))), (2, zi r)]) dX5_countChildren_1 rfl (Nat.le_of_ble_eq_true rfl) rfl ?_
  refine Ev.iconst (pc := 2) (n := (0, 0)) dX5_countChildren_2 ?_
  refine Ev.istore (pc := 3) (n := (0, 0)) (i := 4) (L' := [(4, zi 1), (3, zi 0), (0, zr (some T)), (1, zr (some (ar i0))), (2, zi r)]) dX5_countChildren_3 (Nat.le_of_ble_eq_true rfl) rfl ?_
  refine Ev.perm [2, 3, 4, 1, 0] rfl ?_
  have k9 := s_countChildrenC_loop (r := r) hC hw hi0 (n - 1) 1 (by omega) (by have := hC.n1; omega) rfl
  rw [e0] at k9
  exact k9
theorem s_rowLengthC {h : zH} {T n : Nat} {F : zF} {ad dl : Int} {ar q : Nat → Nat} (hC : CT h T n F ad dl ar q) {len st sl dp : Int → Int} (hP : PLN h n F len st sl dp ar q) {i : Nat} (hi : i < n) {r : Int} (hr : 0 ≤ r ∧ r < 4) : Ev M_X3_rowLength 0 [(0, zr (some (ar i))), (1, zi r)] [] h (0, 0) (.inl (some (zi (mrl n F len (F (q i) 0) r))), h) := by
  have k := s_rowLengthN (hC.nd hi) (r := r)
  rw [if_pos hr, (hP i hi).2.1 r hr.1 hr.2] at k
  exact k
theorem s_isCriticalRowC {h : zH} {T n : Nat} {F : zF} {ad dl : Int} {ar q : Nat → Nat} (hC : CT h T n F ad dl ar q) {dep : Nat → Nat} {B : Int} (hw : WF n F dep B) (hB : 24 * (60 + B) ≤ 1000000000) {len st sl dp : Int → Int} (hl : IsLen n F len) (ht : IsTm n F len st sl dp) (hP : PLN h n F len st sl dp ar q) {i : Nat} (hi : i < n) {r : Int} (hr : 0 ≤ r ∧ r < 4) : Ev M_X5_isCriticalRow 0 [(0, zr (some T)), (1, zr (some (ar i))), (2, zi r)] [] h (0, 0) (.inl (some (zi (if mcr n F len sl (q i) (F (q i) 0) r then 1 else 0))), h) := by
  refine Ev.aload_n (pc := 0) (n := (0, 0)) (i := 1) dX5_isCriticalRow_0 rfl rfl ?_
  refine Ev.callV (pc := 1) (n := (0, 0)) (ob := (ar i)) (as := []) (st := []) (s_isCritical (hC.nd hi) (hP.p5 hi)) dX5_isCriticalRow_1 ok_X3_isCritical (lk_X5_243 rfl) ⟨(Nat.le_of_ble_eq_true rfl), (Nat.le_of_ble_eq_true rfl)⟩ (hC.nd hi).1 ⟨by decide, rfl⟩ rfl (Nat.le_of_ble_eq_true rfl) (Nat.le_of_ble_eq_true rfl) ⟨(Nat.le_of_ble_eq_true rfl), (Nat.le_of_ble_eq_true rfl)⟩ ?_
  by_cases h1 : sl (q i) = 0
  · skip
    rw [if_pos h1]
    refine Ev.if_eq (pc := 4) (n := (0, 0)) (tgt := 32) dX5_isCriticalRow_4 rfl (fun hc => absurd hc (by decide)) (fun hc => ?_)
    refine Ev.aload_n (pc := 7) (n := (0, 0)) (i := 1) dX5_isCriticalRow_7 rfl rfl ?_
    refine Ev.gI (pc := 8) (n := (0, 0)) (x := (len (q i))) dX5_isCriticalRow_8 fl_X5_82 (hC.nd hi).1 rfl (hP.p2 hi) ?_
    refine Ev.aload_n (pc := 11) (n := (0, 0)) (i := 1) dX5_isCriticalRow_11 rfl rfl ?_
    refine Ev.iload_n (pc := 12) (n := (0, 0)) (i := 2) dX5_isCriticalRow_12 rfl rfl ?_
    refine Ev.callV (pc := 13) (n := (0, 0)) (ob := (ar i)) (as := [zi r]) (st := [zi (len (q i))]) (s_rowLengthC hC hP hi hr) dX5_isCriticalRow_13 ok_X3_rowLength (lk_X5_98 rfl) ⟨(Nat.le_of_ble_eq_true rfl), (Nat.le_of_ble_eq_true rfl)⟩ (hC.nd hi).1 ⟨by decide, rfl⟩ rfl (Nat.le_of_ble_eq_true rfl) (Nat.le_of_ble_eq_true rfl) ⟨(Nat.le_of_ble_eq_true rfl), (Nat.le_of_ble_eq_true rfl)⟩ ?_
    refine Ev.icmp_ne (pc := 16) (n := (0, 0)) (tgt := 32) dX5_isCriticalRow_16 rfl (fun h2 => ?_) (fun h2 => ?_)
    · skip
      rw [if_neg (fun g9 : mcr n F len sl (q i) (F (q i) 0) r => h2 (by have := g9.1; omega))]
      refine Ev.iconst (pc := 32) (n := (0, 0)) dX5_isCriticalRow_32 ?_
      exact Ev.bret dX5_isCriticalRow_33 rfl (by decide) ⟨(Nat.le_of_ble_eq_true rfl), (Nat.le_of_ble_eq_true rfl)⟩
    · skip
      refine Ev.aload_n (pc := 19) (n := (0, 0)) (i := 0) dX5_isCriticalRow_19 rfl rfl ?_
      refine Ev.aload_n (pc := 20) (n := (0, 0)) (i := 1) dX5_isCriticalRow_20 rfl rfl ?_
      refine Ev.iload_n (pc := 21) (n := (0, 0)) (i := 2) dX5_isCriticalRow_21 rfl rfl ?_
      refine Ev.callV (pc := 22) (n := (0, 0)) (ob := T) (as := [zr (some (ar i)), zi r]) (st := []) (s_countChildrenC hC hw hi) dX5_isCriticalRow_22 ok_X5_countChildren (lk_X5_236 rfl) ⟨(Nat.le_of_ble_eq_true rfl), (Nat.le_of_ble_eq_true rfl)⟩ hC.1.1.1 ⟨by decide, rfl⟩ rfl (Nat.le_of_ble_eq_true rfl) (Nat.le_of_ble_eq_true rfl) ⟨(Nat.le_of_ble_eq_true rfl), (Nat.le_of_ble_eq_true rfl)⟩ ?_
      refine Ev.if_le (pc := 25) (n := (0, 0)) (tgt := 32) dX5_isCriticalRow_25 rfl (fun h3 => ?_) (fun h3 => ?_)
      · skip
        rw [if_neg (fun g9 : mcr n F len sl (q i) (F (q i) 0) r => by have := g9.2.2; omega)]
        refine Ev.iconst (pc := 32) (n := (0, 0)) dX5_isCriticalRow_32 ?_
        exact Ev.bret dX5_isCriticalRow_33 rfl (by decide) ⟨(Nat.le_of_ble_eq_true rfl), (Nat.le_of_ble_eq_true rfl)⟩
      · skip
        rw [if_pos (show mcr n F len sl (q i) (F (q i) 0) r from ⟨by omega, h1, by omega⟩)]
        refine Ev.iconst (pc := 28) (n := (0, 0)) dX5_isCriticalRow_28 ?_
        refine Ev.goto (pc := 29) (n := (0, 0)) (tgt := 33) dX5_isCriticalRow_29 rfl ?_
        exact Ev.bret dX5_isCriticalRow_33 rfl (by decide) ⟨(Nat.le_of_ble_eq_true rfl), (Nat.le_of_ble_eq_true rfl)⟩
  · skip
    rw [if_neg h1, if_neg (fun g9 : mcr n F len sl (q i) (F (q i) 0) r => h1 g9.2.1)]
    refine Ev.if_eq (pc := 4) (n := (0, 0)) (tgt := 32) dX5_isCriticalRow_4 rfl (fun hc => ?_) (fun hc => absurd rfl hc)
    refine Ev.iconst (pc := 32) (n := (0, 0)) dX5_isCriticalRow_32 ?_
    exact Ev.bret dX5_isCriticalRow_33 rfl (by decide) ⟨(Nat.le_of_ble_eq_true rfl), (Nat.le_of_ble_eq_true rfl)⟩
theorem s_rowValueC {h : zH} {T n : Nat} {F : zF} {ad dl : Int} {ar q : Nat → Nat} (hC : CT h T n F ad dl ar q) {dep : Nat → Nat} {B : Int} (hw : WF n F dep B) (hB : 24 * (60 + B) ≤ 1000000000) {len st sl dp : Int → Int} (hl : IsLen n F len) (ht : IsTm n F len st sl dp) (hP : PLN h n F len st sl dp ar q) {i : Nat} (hi : i < n) {r : Int} (hr : 0 ≤ r ∧ r < 4) {w : Int} (hw3 : 0 ≤ w ∧ w ≤ 3) : Ev M_X5_rowValue 0 [(0, zr (some T)), (1, zr (some (ar i))), (2, zi r), (3, zi w)] [] h (0, 0) (.inl (some (zi (mrow n F len sl (q i) (F (q i) 0) r w))), h) := by
  have b1 := PL.bd hw hB hl ht (hC.qlt hi)
  have hm := mtot_le hw
  have hs : 0 ≤ mrl n F len (F (q i) 0) r ∧ mrl n F len (F (q i) 0) r ≤ mtot n F := mrl_bd hw hl (F (q i) 0) r n (Nat.le_refl _)
  rcases (show w = 0 ∨ w = 1 ∨ w = 2 ∨ w = 3 by omega) with e | e | e | e <;> subst e
  · skip
    have e9 : mrow n F len sl (q i) (F (q i) 0) r 0 = mcc n F (F (q i) 0) r := rfl
    rw [e9]
    refine Ev.iload_n (pc := 0) (n := (0, 0)) (i := 3) dX5_rowValue_0 rfl rfl ?_
    refine Ev.tableIn (pc := 1) (n := (0, 0)) (off := 27) (tgt := 28) dX5_rowValue_1 (by omega) (by omega) (by rfl) rfl ?_
    refine Ev.aload_n (pc := 28) (n := (0, 0)) (i := 0) dX5_rowValue_28 rfl rfl ?_
    refine Ev.aload_n (pc := 29) (n := (0, 0)) (i := 1) dX5_rowValue_29 rfl rfl ?_
    refine Ev.iload_n (pc := 30) (n := (0, 0)) (i := 2) dX5_rowValue_30 rfl rfl ?_
    refine Ev.callV (pc := 31) (n := (0, 0)) (ob := T) (as := [zr (some (ar i)), zi r]) (st := []) (s_countChildrenC hC hw hi) dX5_rowValue_31 ok_X5_countChildren (lk_X5_236 rfl) ⟨(Nat.le_of_ble_eq_true rfl), (Nat.le_of_ble_eq_true rfl)⟩ hC.1.1.1 ⟨by decide, rfl⟩ rfl (Nat.le_of_ble_eq_true rfl) (Nat.le_of_ble_eq_true rfl) ⟨(Nat.le_of_ble_eq_true rfl), (Nat.le_of_ble_eq_true rfl)⟩ ?_
    exact Ev.iret dX5_rowValue_34 rfl ⟨(Nat.le_of_ble_eq_true rfl), (Nat.le_of_ble_eq_true rfl)⟩
  · skip
    have e9 : mrow n F len sl (q i) (F (q i) 0) r 1 = mrl n F len (F (q i) 0) r := rfl
    rw [e9]
    refine Ev.iload_n (pc := 0) (n := (0, 0)) (i := 3) dX5_rowValue_0 rfl rfl ?_
    refine Ev.tableIn (pc := 1) (n := (0, 0)) (off := 34) (tgt := 35) dX5_rowValue_1 (by omega) (by omega) (by rfl) rfl ?_
    refine Ev.aload_n (pc := 35) (n := (0, 0)) (i := 1) dX5_rowValue_35 rfl rfl ?_
    refine Ev.iload_n (pc := 36) (n := (0, 0)) (i := 2) dX5_rowValue_36 rfl rfl ?_
    refine Ev.callV (pc := 37) (n := (0, 0)) (ob := (ar i)) (as := [zi r]) (st := []) (s_rowLengthC hC hP hi hr) dX5_rowValue_37 ok_X3_rowLength (lk_X5_98 rfl) ⟨(Nat.le_of_ble_eq_true rfl), (Nat.le_of_ble_eq_true rfl)⟩ (hC.nd hi).1 ⟨by decide, rfl⟩ rfl (Nat.le_of_ble_eq_true rfl) (Nat.le_of_ble_eq_true rfl) ⟨(Nat.le_of_ble_eq_true rfl), (Nat.le_of_ble_eq_true rfl)⟩ ?_
    exact Ev.iret dX5_rowValue_40 rfl ⟨(Nat.le_of_ble_eq_true rfl), (Nat.le_of_ble_eq_true rfl)⟩
  · skip
    have e9 : mrow n F len sl (q i) (F (q i) 0) r 2 = len (q i) - mrl n F len (F (q i) 0) r := rfl
    rw [e9]
    refine Ev.iload_n (pc := 0) (n := (0, 0)) (i := 3) dX5_rowValue_0 rfl rfl ?_
    refine Ev.tableIn (pc := 1) (n := (0, 0)) (off := 40) (tgt := 41) dX5_rowValue_1 (by omega) (by omega) (by rfl) rfl ?_
    refine Ev.aload_n (pc := 41) (n := (0, 0)) (i := 1) dX5_rowValue_41 rfl rfl ?_
    refine Ev.gI (pc := 42) (n := (0, 0)) (x := (len (q i))) dX5_rowValue_42 fl_X5_82 (hC.nd hi).1 rfl (hP.p2 hi) ?_
    refine Ev.aload_n (pc := 45) (n := (0, 0)) (i := 1) dX5_rowValue_45 rfl rfl ?_
    refine Ev.iload_n (pc := 46) (n := (0, 0)) (i := 2) dX5_rowValue_46 rfl rfl ?_
    refine Ev.callV (pc := 47) (n := (0, 0)) (ob := (ar i)) (as := [zi r]) (st := [zi (len (q i))]) (s_rowLengthC hC hP hi hr) dX5_rowValue_47 ok_X3_rowLength (lk_X5_98 rfl) ⟨(Nat.le_of_ble_eq_true rfl), (Nat.le_of_ble_eq_true rfl)⟩ (hC.nd hi).1 ⟨by decide, rfl⟩ rfl (Nat.le_of_ble_eq_true rfl) (Nat.le_of_ble_eq_true rfl) ⟨(Nat.le_of_ble_eq_true rfl), (Nat.le_of_ble_eq_true rfl)⟩ ?_
    refine Ev.isub (pc := 50) (n := (0, 0)) dX5_rowValue_50 ⟨by omega, by omega⟩ ?_
    exact Ev.iret dX5_rowValue_51 rfl ⟨(Nat.le_of_ble_eq_true rfl), (Nat.le_of_ble_eq_true rfl)⟩
  · skip
    have e9 : mrow n F len sl (q i) (F (q i) 0) r 3 = if mcr n F len sl (q i) (F (q i) 0) r then 1 else 0 := rfl
    rw [e9]
    refine Ev.iload_n (pc := 0) (n := (0, 0)) (i := 3) dX5_rowValue_0 rfl rfl ?_
    refine Ev.tableOut (pc := 1) (n := (0, 0)) (tgt := 52) dX5_rowValue_1 (by omega) rfl ?_
    refine Ev.aload_n (pc := 52) (n := (0, 0)) (i := 0) dX5_rowValue_52 rfl rfl ?_
    refine Ev.aload_n (pc := 53) (n := (0, 0)) (i := 1) dX5_rowValue_53 rfl rfl ?_
    refine Ev.iload_n (pc := 54) (n := (0, 0)) (i := 2) dX5_rowValue_54 rfl rfl ?_
    refine Ev.callV (pc := 55) (n := (0, 0)) (ob := T) (as := [zr (some (ar i)), zi r]) (st := []) (s_isCriticalRowC hC hw hB hl ht hP hi hr) dX5_rowValue_55 ok_X5_isCriticalRow (lk_X5_225 rfl) ⟨(Nat.le_of_ble_eq_true rfl), (Nat.le_of_ble_eq_true rfl)⟩ hC.1.1.1 ⟨by decide, rfl⟩ rfl (Nat.le_of_ble_eq_true rfl) (Nat.le_of_ble_eq_true rfl) ⟨(Nat.le_of_ble_eq_true rfl), (Nat.le_of_ble_eq_true rfl)⟩ ?_
    by_cases h9 : mcr n F len sl (q i) (F (q i) 0) r
    · skip
      rw [if_pos h9]
      refine Ev.if_eq (pc := 58) (n := (0, 0)) (tgt := 65) dX5_rowValue_58 rfl (fun hc => absurd hc (by decide)) (fun hc => ?_)
      refine Ev.iconst (pc := 61) (n := (0, 0)) dX5_rowValue_61 ?_
      refine Ev.goto (pc := 62) (n := (0, 0)) (tgt := 66) dX5_rowValue_62 rfl ?_
      exact Ev.iret dX5_rowValue_66 rfl ⟨(Nat.le_of_ble_eq_true rfl), (Nat.le_of_ble_eq_true rfl)⟩
    · skip
      rw [if_neg h9]
      refine Ev.if_eq (pc := 58) (n := (0, 0)) (tgt := 65) dX5_rowValue_58 rfl (fun hc => ?_) (fun hc => absurd rfl hc)
      refine Ev.iconst (pc := 65) (n := (0, 0)) dX5_rowValue_65 ?_
      exact Ev.iret dX5_rowValue_66 rfl ⟨(Nat.le_of_ble_eq_true rfl), (Nat.le_of_ble_eq_true rfl)⟩
theorem s_critRows_in {h : zH} {T n : Nat} {F : zF} {ad dl : Int} {ar q : Nat → Nat} (hC : CT h T n F ad dl ar q) {dep : Nat → Nat} {B : Int} (hw : WF n F dep B) (hB : 24 * (60 + B) ≤ 1000000000) {len st sl dp : Int → Int} (hl : IsLen n F len) (ht : IsTm n F len st sl dp) (hP : PLN h n F len st sl dp ar q) {m : Nat} (hm : m < n) {c : Int} (hc9 : 0 ≤ c ∧ c ≤ 1000) : ∀ (j r : Nat), r ≤ 4 → 4 - r = j → ∀ o : zO, Ev M_X5_countCriticalRows 47 [(0, zr (some T)), (1, zi (c + mrws n F len sl (q m))), (2, zi (m : Int))] [] h (0, 0) o → Ev M_X5_countCriticalRows 14 [(0, zr (some T)), (1, zi (c + zsum (fun r => if mcr n F len sl (q m) (F (q m) 0) r then 1 else 0) r)), (2, zi (m : Int)), (3, zi (r : Int))] [] h (0, 0) o := by
  intro j
  have hn := hC.n24
  induction j with
  | zero =>
    intro r hr hj o K
    have e : r = 4 := by omega
    subst e
    refine Ev.iload_n (pc := 14) (n := (0, 0)) (i := 3) dX5_countCriticalRows_14 rfl rfl ?_
    refine Ev.iconst (pc := 15) (n := (0, 0)) dX5_countCriticalRows_15 ?_
    refine Ev.icmp_ge (pc := 16) (n := (0, 0)) (tgt := 47) dX5_countCriticalRows_16 rfl (fun hc => ?_) (fun hc => absurd hc (by omega))
    refine Ev.perm [0, 1, 2] rfl ?_
    exact K
  | succ j ih =>
    intro r hr hj o K
    have k9 := ih (r + 1) (by omega) (by omega) o K
    have ez : zsum (fun r => if mcr n F len sl (q m) (F (q m) 0) r then 1 else 0) (r + 1) = zsum (fun r => if mcr n F len sl (q m) (F (q m) 0) r then 1 else 0) r + (if mcr n F len sl (q m) (F (q m) 0) (r : Int) then 1 else 0) := rfl
    have hs := zsum_rng (fun r => if mcr n F len sl (q m) (F (q m) 0) r then 1 else 0) (b := 1) (by omega) r (fun i hi => by split <;> omega)
    rw [ez, ← Int.add_assoc] at k9
    refine Ev.iload_n (pc := 14) (n := (0, 0)) (i := 3) dX5_countCriticalRows_14 rfl rfl ?_
    refine Ev.iconst (pc := 15) (n := (0, 0)) dX5_countCriticalRows_15 ?_
    refine Ev.icmp_ge (pc := 16) (n := (0, 0)) (tgt := 47) dX5_countCriticalRows_16 rfl (fun hc => absurd hc (by omega)) (fun hc => ?_)
    refine Ev.iload_n (pc := 19) (n := (0, 0)) (i := 1) dX5_countCriticalRows_19 rfl rfl ?_
    refine Ev.aload_n (pc := 20) (n := (0, 0)) (i := 0) dX5_countCriticalRows_20 rfl rfl ?_
    refine Ev.aload_n (pc := 21) (n := (0, 0)) (i := 0) dX5_countCriticalRows_21 rfl rfl ?_
    refine Ev.gR (pc := 22) (n := (0, 0)) (r := (some (T + 1))) dX5_countCriticalRows_22 fl_X5_11 hC.1.1.1 rfl hC.1.2.1.1 ?_
    refine Ev.iload_n (pc := 25) (n := (0, 0)) (i := 2) dX5_countCriticalRows_25 rfl rfl ?_
    refine Ev.aa (pc := 26) (n := (0, 0)) (r := (some (ar m))) dX5_countCriticalRows_26 hC.1.1.2.1 (by decide) (by omega) (by omega) (hC.arr hm) ?_
    refine Ev.iload_n (pc := 27) (n := (0, 0)) (i := 3) dX5_countCriticalRows_27 rfl rfl ?_
    refine Ev.callV (pc := 28) (n := (0, 0)) (ob := T) (as := [zr (some (ar m)), zi (r : Int)]) (st := [zi (c + zsum (fun r => if mcr n F len sl (q m) (F (q m) 0) r then 1 else 0) r)]) (s_isCriticalRowC hC hw hB hl ht hP hm ⟨by omega, by omega⟩) dX5_countCriticalRows_28 ok_X5_isCriticalRow (lk_X5_225 rfl) ⟨(Nat.le_of_ble_eq_true rfl), (Nat.le_of_ble_eq_true rfl)⟩ hC.1.1.1 ⟨by decide, rfl⟩ rfl (Nat.le_of_ble_eq_true rfl) (Nat.le_of_ble_eq_true rfl) ⟨(Nat.le_of_ble_eq_true rfl), (Nat.le_of_ble_eq_true rfl)⟩ ?_
    by_cases h9 : mcr n F len sl (q m) (F (q m) 0) (r : Int)
    · skip
      rw [if_pos h9]
      rw [if_pos h9] at k9
      refine Ev.if_eq (pc := 31) (n := (0, 0)) (tgt := 38) dX5_countCriticalRows_31 rfl (fun hc => absurd hc (by decide)) (fun hc => ?_)
      refine Ev.iconst (pc := 34) (n := (0, 0)) dX5_countCriticalRows_34 ?_
      refine Ev.goto (pc := 35) (n := (0, 0)) (tgt := 39) dX5_countCriticalRows_35 rfl ?_
      refine Ev.iadd (pc := 39) (n := (0, 0)) dX5_countCriticalRows_39 ⟨by omega, by omega⟩ ?_
      refine Ev.istore_n (pc := 40) (n := (0, 0)) (i := 1) (L' := [(1, zi ((c + zsum (fun r => if mcr n F len sl (q m) (F (q m) 0) r then 1 else 0) r) + 1)), (0, zr (some T)), (2, zi (m : Int)), (3, zi (r : Int))]) dX5_countCriticalRows_40 rfl (Nat.le_of_ble_eq_true rfl) rfl ?_
      refine Ev.iinc (pc := 41) (n := (0, 0)) (L' := [(3, zi ((r : Int) + 1)), (1, zi ((c + zsum (fun r => if mcr n F len sl (q m) (F (q m) 0) r then 1 else 0) r) + 1)), (0, zr (some T)), (2, zi (m : Int))]) dX5_countCriticalRows_41 rfl (Nat.le_of_ble_eq_true rfl) ⟨by omega, by omega⟩ rfl ?_
      refine Ev.goto (pc := 44) (n := (0, 0)) (tgt := 14) dX5_countCriticalRows_44 rfl ?_
      refine Ev.perm [2, 1, 3, 0] rfl ?_
      exact k9
    · skip
      rw [if_neg h9]
      rw [if_neg h9] at k9
      refine Ev.if_eq (pc := 31) (n := (0, 0)) (tgt := 38) dX5_countCriticalRows_31 rfl (fun hc => ?_) (fun hc => absurd rfl hc)
      refine Ev.iconst (pc := 38) (n := (0, 0)) dX5_countCriticalRows_38 ?_
      refine Ev.iadd (pc := 39) (n := (0, 0)) dX5_countCriticalRows_39 ⟨by omega, by omega⟩ ?_
      refine Ev.istore_n (pc := 40) (n := (0, 0)) (i := 1) (L' := [(1, zi ((c + zsum (fun r => if mcr n F len sl (q m) (F (q m) 0) r then 1 else 0) r) + 0)), (0, zr (some T)), (2, zi (m : Int)), (3, zi (r : Int))]) dX5_countCriticalRows_40 rfl (Nat.le_of_ble_eq_true rfl) rfl ?_
      refine Ev.iinc (pc := 41) (n := (0, 0)) (L' := [(3, zi ((r : Int) + 1)), (1, zi ((c + zsum (fun r => if mcr n F len sl (q m) (F (q m) 0) r then 1 else 0) r) + 0)), (0, zr (some T)), (2, zi (m : Int))]) dX5_countCriticalRows_41 rfl (Nat.le_of_ble_eq_true rfl) ⟨by omega, by omega⟩ rfl ?_
      refine Ev.goto (pc := 44) (n := (0, 0)) (tgt := 14) dX5_countCriticalRows_44 rfl ?_
      refine Ev.perm [2, 1, 3, 0] rfl ?_
      exact k9
theorem s_critRows_loop {h : zH} {T n : Nat} {F : zF} {ad dl : Int} {ar q : Nat → Nat} (hC : CT h T n F ad dl ar q) {dep : Nat → Nat} {B : Int} (hw : WF n F dep B) (hB : 24 * (60 + B) ≤ 1000000000) {len st sl dp : Int → Int} (hl : IsLen n F len) (ht : IsTm n F len st sl dp) (hP : PLN h n F len st sl dp ar q) : ∀ (j m : Nat), m ≤ n → n - m = j → Ev M_X5_countCriticalRows 4 [(0, zr (some T)), (1, zi (zsq q (fun k => mrws n F len sl k) m)), (2, zi (m : Int))] [] h (0, 0) (.inl (some (zi (mRo n F len sl n))), h) := by
  intro j
  have hn := hC.n24
  induction j with
  | zero =>
    intro m hm hj
    have e : m = n := by omega
    subst e
    rw [← mRo_eq hw, ← hC.sum]
    refine Ev.iload_n (pc := 4) (n := (0, 0)) (i := 2) dX5_countCriticalRows_4 rfl rfl ?_
    refine Ev.aload_n (pc := 5) (n := (0, 0)) (i := 0) dX5_countCriticalRows_5 rfl rfl ?_
    refine Ev.gI (pc := 6) (n := (0, 0)) (x := (m : Int)) dX5_countCriticalRows_6 fl_X5_20 hC.1.1.1 rfl hC.1.2.2.1 ?_
    refine Ev.icmp_ge (pc := 9) (n := (0, 0)) (tgt := 53) dX5_countCriticalRows_9 rfl (fun hc => ?_) (fun hc => absurd hc (by omega))
    refine Ev.iload_n (pc := 53) (n := (0, 0)) (i := 1) dX5_countCriticalRows_53 rfl rfl ?_
    exact Ev.iret dX5_countCriticalRows_54 rfl ⟨(Nat.le_of_ble_eq_true rfl), (Nat.le_of_ble_eq_true rfl)⟩
  | succ j ih =>
    intro m hm hj
    have hmn : m < n := by omega
    have k9 := ih (m + 1) (by omega) (by omega)
    have hs := zsq_bd (q := q) (g := (fun k => mrws n F len sl k)) (b := 4) (by omega) (m := m) (fun i hi => by
      have := zsum_rng (fun r => if mcr n F len sl (q i) (F (q i) 0) r then 1 else 0) (b := 1) (by omega) 4 (fun i hi => by split <;> omega)
      exact ⟨this.1, by have := this.2; show zsum _ 4 ≤ 4; omega⟩)
    have ez : zsq q (fun k => mrws n F len sl k) (m + 1) = zsq q (fun k => mrws n F len sl k) m + mrws n F len sl (q m) := rfl
    rw [ez] at k9
    refine Ev.iload_n (pc := 4) (n := (0, 0)) (i := 2) dX5_countCriticalRows_4 rfl rfl ?_
    refine Ev.aload_n (pc := 5) (n := (0, 0)) (i := 0) dX5_countCriticalRows_5 rfl rfl ?_
    refine Ev.gI (pc := 6) (n := (0, 0)) (x := (n : Int)) dX5_countCriticalRows_6 fl_X5_20 hC.1.1.1 rfl hC.1.2.2.1 ?_
    refine Ev.icmp_ge (pc := 9) (n := (0, 0)) (tgt := 53) dX5_countCriticalRows_9 rfl (fun hc => absurd hc (by omega)) (fun hc => ?_)
    refine Ev.iconst (pc := 12) (n := (0, 0)) dX5_countCriticalRows_12 ?_
    refine Ev.istore_n (pc := 13) (n := (0, 0)) (i := 3) (L' := [(3, zi 0), (0, zr (some T)), (1, zi (zsq q (fun k => mrws n F len sl k) m)), (2, zi (m : Int))]) dX5_countCriticalRows_13 rfl (Nat.le_of_ble_eq_true rfl) rfl ?_
    refine Ev.perm [1, 2, 3, 0] rfl ?_
    have k8 := s_critRows_in hC hw hB hl ht hP hmn (c := zsq q (fun k => mrws n F len sl k) m) ⟨by omega, by omega⟩ 4 0 (by omega) (by omega) (.inl (some (zi (mRo n F len sl n))), h)
    have e0 : zsq q (fun k => mrws n F len sl k) m + zsum (fun r => if mcr n F len sl (q m) (F (q m) 0) r then 1 else 0) 0 = zsq q (fun k => mrws n F len sl k) m := Int.add_zero _
    rw [e0] at k8
    refine k8 ?_
    refine Ev.iinc (pc := 47) (n := (0, 0)) (L' := [(2, zi ((m : Int) + 1)), (0, zr (some T)), (1, zi (zsq q (fun k => mrws n F len sl k) m + mrws n F len sl (q m)))]) dX5_countCriticalRows_47 rfl (Nat.le_of_ble_eq_true rfl) ⟨by omega, by omega⟩ rfl ?_
    refine Ev.goto (pc := 50) (n := (0, 0)) (tgt := 4) dX5_countCriticalRows_50 rfl ?_
    refine Ev.perm [1, 2, 0] rfl ?_
    exact k9
theorem s_critRows {h : zH} {T n : Nat} {F : zF} {ad dl : Int} {ar q : Nat → Nat} (hC : CT h T n F ad dl ar q) {dep : Nat → Nat} {B : Int} (hw : WF n F dep B) (hB : 24 * (60 + B) ≤ 1000000000) {len st sl dp : Int → Int} (hl : IsLen n F len) (ht : IsTm n F len st sl dp) (hP : PLN h n F len st sl dp ar q) : Ev M_X5_countCriticalRows 0 [(0, zr (some T))] [] h (0, 0) (.inl (some (zi (mRo n F len sl n))), h) := by
  refine Ev.iconst (pc := 0) (n := (0, 0)) dX5_countCriticalRows_0 ?_
  refine Ev.istore_n (pc := 1) (n := (0, 0)) (i := 1) (L' := [(1, zi 0), (0, zr (some T))]) dX5_countCriticalRows_1 rfl (Nat.le_of_ble_eq_true rfl) rfl ?_
  refine Ev.iconst (pc := 2) (n := (0, 0)) dX5_countCriticalRows_2 ?_
  refine Ev.istore_n (pc := 3) (n := (0, 0)) (i := 2) (L' := [(2, zi 0), (1, zi 0), (0, zr (some T))]) dX5_countCriticalRows_3 rfl (Nat.le_of_ble_eq_true rfl) rfl ?_
  refine Ev.perm [2, 1, 0] rfl ?_
  exact s_critRows_loop hC hw hB hl ht hP n 0 (by omega) (by omega)
theorem s_mostRunning_loop {h : zH} {T n : Nat} {F : zF} {ad dl : Int} {ar q : Nat → Nat} (hC : CT h T n F ad dl ar q) {dep : Nat → Nat} {B : Int} (hw : WF n F dep B) (hB : 24 * (60 + B) ≤ 1000000000) {len st sl dp : Int → Int} (hl : IsLen n F len) (ht : IsTm n F len st sl dp) (hP : PLN h n F len st sl dp ar q) : ∀ (j m : Nat), m ≤ n → n - m = j → Ev M_X5_mostRunning 4 [(0, zr (some T)), (1, zi (mstF F q (fun k => mrun n F len st (st k)) m)), (2, zi (m : Int))] [] h (0, 0) (.inl (some (zi (mMo n F len st n))), h) := by
  intro j
  have hn := hC.n24
  induction j with
  | zero =>
    intro m hm hj
    have e : m = n := by omega
    subst e
    rw [← mMo_eq (fun i hi => hC.qlt hi) (fun k hk => hC.onto hk)]
    refine Ev.iload_n (pc := 4) (n := (0, 0)) (i := 2) dX5_mostRunning_4 rfl rfl ?_
    refine Ev.aload_n (pc := 5) (n := (0, 0)) (i := 0) dX5_mostRunning_5 rfl rfl ?_
    refine Ev.gI (pc := 6) (n := (0, 0)) (x := (m : Int)) dX5_mostRunning_6 fl_X5_20 hC.1.1.1 rfl hC.1.2.2.1 ?_
    refine Ev.icmp_ge (pc := 9) (n := (0, 0)) (tgt := 48) dX5_mostRunning_9 rfl (fun hc => ?_) (fun hc => absurd hc (by omega))
    refine Ev.iload_n (pc := 48) (n := (0, 0)) (i := 1) dX5_mostRunning_48 rfl rfl ?_
    exact Ev.iret dX5_mostRunning_49 rfl ⟨(Nat.le_of_ble_eq_true rfl), (Nat.le_of_ble_eq_true rfl)⟩
  | succ j ih =>
    intro m hm hj
    have hmn : m < n := by omega
    have hq := hC.qlt hmn
    have b0 := (hw.2.2.2.1 (q m) hq).1
    have k9 := ih (m + 1) (by omega) (by omega)
    have ez : mstF F q (fun k => mrun n F len st (st k)) (m + 1) = if F (q m) 1 = 1 then zmx (mstF F q (fun k => mrun n F len st (st k)) m) (mrun n F len st (st (q m))) else mstF F q (fun k => mrun n F len st (st k)) m := rfl
    rw [ez] at k9
    refine Ev.iload_n (pc := 4) (n := (0, 0)) (i := 2) dX5_mostRunning_4 rfl rfl ?_
    refine Ev.aload_n (pc := 5) (n := (0, 0)) (i := 0) dX5_mostRunning_5 rfl rfl ?_
    refine Ev.gI (pc := 6) (n := (0, 0)) (x := (n : Int)) dX5_mostRunning_6 fl_X5_20 hC.1.1.1 rfl hC.1.2.2.1 ?_
    refine Ev.icmp_ge (pc := 9) (n := (0, 0)) (tgt := 48) dX5_mostRunning_9 rfl (fun hc => absurd hc (by omega)) (fun hc => ?_)
    refine Ev.aload_n (pc := 12) (n := (0, 0)) (i := 0) dX5_mostRunning_12 rfl rfl ?_
    refine Ev.gR (pc := 13) (n := (0, 0)) (r := (some (T + 1))) dX5_mostRunning_13 fl_X5_11 hC.1.1.1 rfl hC.1.2.1.1 ?_
    refine Ev.iload_n (pc := 16) (n := (0, 0)) (i := 2) dX5_mostRunning_16 rfl rfl ?_
    refine Ev.aa (pc := 17) (n := (0, 0)) (r := (some (ar m))) dX5_mostRunning_17 hC.1.1.2.1 (by decide) (by omega) (by omega) (hC.arr hmn) ?_
    refine Ev.gI (pc := 18) (n := (0, 0)) (x := (F (q m) 1)) dX5_mostRunning_18 fl_X5_68 (hC.nd hmn).1 rfl (hC.c1 hmn) ?_
    refine Ev.if_eq (pc := 21) (n := (0, 0)) (tgt := 42) dX5_mostRunning_21 rfl (fun h1 => ?_) (fun h1 => ?_)
    · skip
      rw [if_neg (by omega)] at k9
      refine Ev.iinc (pc := 42) (n := (0, 0)) (L' := [(2, zi ((m : Int) + 1)), (0, zr (some T)), (1, zi (mstF F q (fun k => mrun n F len st (st k)) m))]) dX5_mostRunning_42 rfl (Nat.le_of_ble_eq_true rfl) ⟨by omega, by omega⟩ rfl ?_
      refine Ev.goto (pc := 45) (n := (0, 0)) (tgt := 4) dX5_mostRunning_45 rfl ?_
      refine Ev.perm [1, 2, 0] rfl ?_
      exact k9
    · skip
      rw [if_pos (by omega)] at k9
      unfold zmx at k9
      refine Ev.iload_n (pc := 24) (n := (0, 0)) (i := 1) dX5_mostRunning_24 rfl rfl ?_
      refine Ev.aload_n (pc := 25) (n := (0, 0)) (i := 0) dX5_mostRunning_25 rfl rfl ?_
      refine Ev.aload_n (pc := 26) (n := (0, 0)) (i := 0) dX5_mostRunning_26 rfl rfl ?_
      refine Ev.gR (pc := 27) (n := (0, 0)) (r := (some (T + 1))) dX5_mostRunning_27 fl_X5_11 hC.1.1.1 rfl hC.1.2.1.1 ?_
      refine Ev.iload_n (pc := 30) (n := (0, 0)) (i := 2) dX5_mostRunning_30 rfl rfl ?_
      refine Ev.aa (pc := 31) (n := (0, 0)) (r := (some (ar m))) dX5_mostRunning_31 hC.1.1.2.1 (by decide) (by omega) (by omega) (hC.arr hmn) ?_
      refine Ev.gI (pc := 32) (n := (0, 0)) (x := (st (q m))) dX5_mostRunning_32 fl_X5_95 (hC.nd hmn).1 rfl (hP.p3 hmn) ?_
      refine Ev.callV (pc := 35) (n := (0, 0)) (ob := T) (as := [zi (st (q m))]) (st := [zi (mstF F q (fun k => mrun n F len st (st k)) m)]) (s_countRunningC hC hw hB hl ht hP) dX5_mostRunning_35 ok_X5_countRunning (lk_X5_229 rfl) ⟨(Nat.le_of_ble_eq_true rfl), (Nat.le_of_ble_eq_true rfl)⟩ hC.1.1.1 ⟨by decide, rfl⟩ rfl (Nat.le_of_ble_eq_true rfl) (Nat.le_of_ble_eq_true rfl) ⟨(Nat.le_of_ble_eq_true rfl), (Nat.le_of_ble_eq_true rfl)⟩ ?_
      refine Ev.mmax (pc := 38) (n := (0, 0)) dX5_mostRunning_38 (lk_X5_197 rfl) ⟨(Nat.le_of_ble_eq_true rfl), (Nat.le_of_ble_eq_true rfl)⟩ (Nat.le_of_ble_eq_true rfl) ⟨(Nat.le_of_ble_eq_true rfl), (Nat.le_of_ble_eq_true rfl)⟩ ?_
      refine Ev.istore_n (pc := 41) (n := (0, 0)) (i := 1) (L' := [(1, zi (if (mstF F q (fun k => mrun n F len st (st k)) m) < (mrun n F len st (st (q m))) then (mrun n F len st (st (q m))) else (mstF F q (fun k => mrun n F len st (st k)) m))), (0, zr (some T)), (2, zi (m : Int))]) dX5_mostRunning_41 rfl (Nat.le_of_ble_eq_true rfl) rfl ?_
      refine Ev.iinc (pc := 42) (n := (0, 0)) (L' := [(2, zi ((m : Int) + 1)), (1, zi (if (mstF F q (fun k => mrun n F len st (st k)) m) < (mrun n F len st (st (q m))) then (mrun n F len st (st (q m))) else (mstF F q (fun k => mrun n F len st (st k)) m))), (0, zr (some T))]) dX5_mostRunning_42 rfl (Nat.le_of_ble_eq_true rfl) ⟨by omega, by omega⟩ rfl ?_
      refine Ev.goto (pc := 45) (n := (0, 0)) (tgt := 4) dX5_mostRunning_45 rfl ?_
      refine Ev.perm [2, 1, 0] rfl ?_
      exact k9
theorem s_mostRunning {h : zH} {T n : Nat} {F : zF} {ad dl : Int} {ar q : Nat → Nat} (hC : CT h T n F ad dl ar q) {dep : Nat → Nat} {B : Int} (hw : WF n F dep B) (hB : 24 * (60 + B) ≤ 1000000000) {len st sl dp : Int → Int} (hl : IsLen n F len) (ht : IsTm n F len st sl dp) (hP : PLN h n F len st sl dp ar q) : Ev M_X5_mostRunning 0 [(0, zr (some T))] [] h (0, 0) (.inl (some (zi (mMo n F len st n))), h) := by
  refine Ev.iconst (pc := 0) (n := (0, 0)) dX5_mostRunning_0 ?_
  refine Ev.istore_n (pc := 1) (n := (0, 0)) (i := 1) (L' := [(1, zi 0), (0, zr (some T))]) dX5_mostRunning_1 rfl (Nat.le_of_ble_eq_true rfl) rfl ?_
  refine Ev.iconst (pc := 2) (n := (0, 0)) dX5_mostRunning_2 ?_
  refine Ev.istore_n (pc := 3) (n := (0, 0)) (i := 2) (L' := [(2, zi 0), (1, zi 0), (0, zr (some T))]) dX5_mostRunning_3 rfl (Nat.le_of_ble_eq_true rfl) rfl ?_
  refine Ev.perm [2, 1, 0] rfl ?_
  exact s_mostRunning_loop hC hw hB hl ht hP n 0 (by omega) (by omega)
theorem s_childNumber_loop {h : zH} {T n : Nat} {F : zF} {ad dl : Int} {ar q : Nat → Nat} (hC : CT h T n F ad dl ar q) {dep : Nat → Nat} {B : Int} (hw : WF n F dep B) (hB : 24 * (60 + B) ≤ 1000000000) {len st sl dp : Int → Int} (hl : IsLen n F len) (ht : IsTm n F len st sl dp) (hP : PLN h n F len st sl dp ar q) {i0 : Nat} (hi0 : i0 < n) {r p c : Int} (hc9 : IsChild n F (F (q i0) 0) r p 0 c) : ∀ (j m : Nat), 1 ≤ m → m ≤ n → n - m = j → (∀ i, i < m → ¬ ((F (q i) 2 = F (q i0) 0 ∧ F (q i) 3 = r) ∧ F (q i) 4 = p)) → Ev M_X5_childNumber 3 [(0, zr (some T)), (1, zr (some (ar i0))), (2, zi r), (3, zi p), (4, zi (m : Int))] [] h (0, 0) (.inl (some (zi c)), h) := by
  intro j
  have hn := hC.n24
  induction j with
  | zero =>
    intro m hm1 hm hj ha
    have e : m = n := by omega
    subst e
    rcases hc9 with ⟨k, -, hk, h2, h3, -⟩ | ⟨rfl, -⟩
    · obtain ⟨i, hi, e⟩ := hC.onto hk
      exact absurd (by rw [e]; exact ⟨h2, h3⟩) (ha i hi)
    refine Ev.iload (pc := 3) (n := (0, 0)) dX5_childNumber_3 rfl ?_
    refine Ev.aload_n (pc := 5) (n := (0, 0)) (i := 0) dX5_childNumber_5 rfl rfl ?_
    refine Ev.gI (pc := 6) (n := (0, 0)) (x := (m : Int)) dX5_childNumber_6 fl_X5_20 hC.1.1.1 rfl hC.1.2.2.1 ?_
    refine Ev.icmp_ge (pc := 9) (n := (0, 0)) (tgt := 55) dX5_childNumber_9 rfl (fun hc => ?_) (fun hc => absurd hc (by omega))
    refine Ev.iconst (pc := 55) (n := (0, 0)) dX5_childNumber_55 ?_
    exact Ev.iret dX5_childNumber_56 rfl ⟨(Nat.le_of_ble_eq_true rfl), (Nat.le_of_ble_eq_true rfl)⟩
  | succ j ih =>
    intro m hm1 hm hj ha
    have hmn : m < n := by omega
    refine Ev.iload (pc := 3) (n := (0, 0)) dX5_childNumber_3 rfl ?_
    refine Ev.aload_n (pc := 5) (n := (0, 0)) (i := 0) dX5_childNumber_5 rfl rfl ?_
    refine Ev.gI (pc := 6) (n := (0, 0)) (x := (n : Int)) dX5_childNumber_6 fl_X5_20 hC.1.1.1 rfl hC.1.2.2.1 ?_
    refine Ev.icmp_ge (pc := 9) (n := (0, 0)) (tgt := 55) dX5_childNumber_9 rfl (fun hc => absurd hc (by omega)) (fun hc => ?_)
    refine Ev.aload_n (pc := 12) (n := (0, 0)) (i := 0) dX5_childNumber_12 rfl rfl ?_
    refine Ev.gR (pc := 13) (n := (0, 0)) (r := (some (T + 1))) dX5_childNumber_13 fl_X5_11 hC.1.1.1 rfl hC.1.2.1.1 ?_
    refine Ev.iload (pc := 16) (n := (0, 0)) dX5_childNumber_16 rfl ?_
    refine Ev.aa (pc := 18) (n := (0, 0)) (r := (some (ar m))) dX5_childNumber_18 hC.1.1.2.1 (by decide) (by omega) (by omega) (hC.arr hmn) ?_
    refine Ev.astore (pc := 19) (n := (0, 0)) (i := 5) (L' := [(5, zr (some (ar m))), (0, zr (some T)), (1, zr (some (ar i0))), (2, zi r), (3, zi p), (4, zi (m : Int))]) dX5_childNumber_19 (Nat.le_of_ble_eq_true rfl) rfl ?_
    refine Ev.aload (pc := 21) (n := (0, 0)) dX5_childNumber_21 rfl ?_
    refine Ev.aload_n (pc := 23) (n := (0, 0)) (i := 1) dX5_childNumber_23 rfl rfl ?_
    refine Ev.gI (pc := 24) (n := (0, 0)) (x := (F (q i0) 0)) dX5_childNumber_24 fl_X5_35 (hC.nd hi0).1 rfl (hC.c0 hi0) ?_
    refine Ev.iload_n (pc := 27) (n := (0, 0)) (i := 2) dX5_childNumber_27 rfl rfl ?_
    refine Ev.callV (pc := 28) (n := (0, 0)) (ob := (ar m)) (as := [zi (F (q i0) 0), zi r]) (st := []) (s_standsIn (hC.nd hmn) (hC.c2 hmn) (hC.c3 hmn)) dX5_childNumber_28 ok_X3_standsIn (lk_X5_239 rfl) ⟨(Nat.le_of_ble_eq_true rfl), (Nat.le_of_ble_eq_true rfl)⟩ (hC.nd hmn).1 ⟨by decide, rfl⟩ rfl (Nat.le_of_ble_eq_true rfl) (Nat.le_of_ble_eq_true rfl) ⟨(Nat.le_of_ble_eq_true rfl), (Nat.le_of_ble_eq_true rfl)⟩ ?_
    by_cases h9 : F (q m) 2 = F (q i0) 0 ∧ F (q m) 3 = r
    · skip
      rw [if_pos h9]
      refine Ev.if_eq (pc := 31) (n := (0, 0)) (tgt := 49) dX5_childNumber_31 rfl (fun hc => absurd hc (by decide)) (fun hc => ?_)
      refine Ev.aload (pc := 34) (n := (0, 0)) dX5_childNumber_34 rfl ?_
      refine Ev.gI (pc := 36) (n := (0, 0)) (x := (F (q m) 4)) dX5_childNumber_36 fl_X5_92 (hC.nd hmn).1 rfl (hP.p0 hmn) ?_
      refine Ev.iload_n (pc := 39) (n := (0, 0)) (i := 3) dX5_childNumber_39 rfl rfl ?_
      refine Ev.icmp_ne (pc := 40) (n := (0, 0)) (tgt := 49) dX5_childNumber_40 rfl (fun h8 => ?_) (fun h8 => ?_)
      · skip
        refine Ev.iinc (pc := 49) (n := (0, 0)) (L' := [(4, zi ((m : Int) + 1)), (5, zr (some (ar m))), (0, zr (some T)), (1, zr (some (ar i0))), (2, zi r), (3, zi p)]) dX5_childNumber_49 rfl (Nat.le_of_ble_eq_true rfl) ⟨by omega, by omega⟩ rfl ?_
        refine Ev.goto (pc := 52) (n := (0, 0)) (tgt := 3) dX5_childNumber_52 rfl ?_
        refine Ev.perm [2, 3, 4, 5, 0] rfl ?_
        exact ih (m + 1) (by omega) (by omega) (by omega) (fun i hi g => by
          by_cases e : i = m
          · subst e; exact h8 g.2
          · exact ha i (by omega) g)
      · skip
        have ec : c = F (q m) 0 := by
          rcases hc9 with ⟨k, -, hk, h2, h3, h4⟩ | ⟨-, h2⟩
          · obtain ⟨i, hi, e⟩ := hC.onto hk
            rw [← e] at h2 h3 h4
            have hi1 : 1 ≤ i := by
              rcases Nat.eq_zero_or_pos i with g | g
              · subst g
                exact absurd h2.1 (by rw [hC.q0]; exact hw.root2 (hC.qlt hi0))
              · exact g
            have := hC.2.2.2.2.2.uniq hi1 hi hm1 hmn (h2.1.trans h9.1.symm) (h2.2.trans h9.2.symm) (h3.trans h8.symm)
            subst this
            exact h4
          · exact absurd ⟨h9, h8⟩ (h2 (q m) (Nat.zero_le _) (hC.qlt hmn))
        rw [ec]
        refine Ev.aload (pc := 43) (n := (0, 0)) dX5_childNumber_43 rfl ?_
        refine Ev.gI (pc := 45) (n := (0, 0)) (x := (F (q m) 0)) dX5_childNumber_45 fl_X5_35 (hC.nd hmn).1 rfl (hC.c0 hmn) ?_
        exact Ev.iret dX5_childNumber_48 rfl ⟨(Nat.le_of_ble_eq_true rfl), (Nat.le_of_ble_eq_true rfl)⟩
    · skip
      rw [if_neg h9]
      refine Ev.if_eq (pc := 31) (n := (0, 0)) (tgt := 49) dX5_childNumber_31 rfl (fun hc => ?_) (fun hc => absurd rfl hc)
      refine Ev.iinc (pc := 49) (n := (0, 0)) (L' := [(4, zi ((m : Int) + 1)), (5, zr (some (ar m))), (0, zr (some T)), (1, zr (some (ar i0))), (2, zi r), (3, zi p)]) dX5_childNumber_49 rfl (Nat.le_of_ble_eq_true rfl) ⟨by omega, by omega⟩ rfl ?_
      refine Ev.goto (pc := 52) (n := (0, 0)) (tgt := 3) dX5_childNumber_52 rfl ?_
      refine Ev.perm [2, 3, 4, 5, 0] rfl ?_
      exact ih (m + 1) (by omega) (by omega) (by omega) (fun i hi g => by
        by_cases e : i = m
        · subst e; exact h9 g.1
        · exact ha i (by omega) g)
theorem s_childNumber {h : zH} {T n : Nat} {F : zF} {ad dl : Int} {ar q : Nat → Nat} (hC : CT h T n F ad dl ar q) {dep : Nat → Nat} {B : Int} (hw : WF n F dep B) (hB : 24 * (60 + B) ≤ 1000000000) {len st sl dp : Int → Int} (hl : IsLen n F len) (ht : IsTm n F len st sl dp) (hP : PLN h n F len st sl dp ar q) {i0 : Nat} (hi0 : i0 < n) {r p c : Int} (hc9 : IsChild n F (F (q i0) 0) r p 0 c) : Ev M_X5_childNumber 0 [(0, zr (some T)), (1, zr (some (ar i0))), (2, zi r), (3, zi p)] [] h (0, 0) (.inl (some (zi c)), h) := by
  refine Ev.iconst (pc := 0) (n := (0, 0)) dX5_childNumber_0 ?_
  refine Ev.istore (pc := 1) (n := (0, 0)) (i := 4) (L' := [(4, zi 1), (0, zr (some T)), (1, zr (some (ar i0))), (2, zi r), (3, zi p)]) dX5_childNumber_1 (Nat.le_of_ble_eq_true rfl) rfl ?_
  refine Ev.perm [1, 2, 3, 4, 0] rfl ?_
  exact s_childNumber_loop hC hw hB hl ht hP hi0 hc9 (n - 1) 1 (by omega) hC.n1 rfl (fun i hi g => by
    have e : i = 0 := by omega
    subst e
    exact absurd g.1.1 (by rw [hC.q0]; exact hw.root2 (hC.qlt hi0)))
theorem s_valueC {h : zH} {T n : Nat} {F : zF} {ad dl : Int} {ar q : Nat → Nat} (hC : CT h T n F ad dl ar q) {dep : Nat → Nat} {B : Int} (hw : WF n F dep B) (hB : 24 * (60 + B) ≤ 1000000000) {len st sl dp : Int → Int} (hl : IsLen n F len) (ht : IsTm n F len st sl dp) (hP : PLN h n F len st sl dp ar q) (hd : 0 ≤ dl ∧ dl ≤ 999) {mm : Nat} {A : Nat → Nat} (hcr : CritTo F st sl n mm A) {lg w : Int} (hw3 : 0 ≤ w ∧ w ≤ 10) : Ev M_X5_value 0 [(0, zr (some T)), (1, zi w)] [] h (0, 0) (.inl (some (zi (mwh n F len st sl dl ad mm lg w))), h) := by
  have b3 := PL.bd hw hB hl ht (show 0 < n by have := hC.n1; omega)
  rcases (show w = 0 ∨ w = 1 ∨ w = 2 ∨ w = 3 ∨ w = 4 ∨ w = 5 ∨ w = 6 ∨ w = 7 ∨ w = 8 ∨ w = 9 ∨ w = 10 by omega) with e | e | e | e | e | e | e | e | e | e | e <;> subst e
  · skip
    have e9 : mwh n F len st sl dl ad mm lg 0 = (n : Int) := rfl
    rw [e9]
    refine Ev.iload_n (pc := 0) (n := (0, 0)) (i := 1) dX5_value_0 rfl rfl ?_
    refine Ev.tableIn (pc := 1) (n := (0, 0)) (off := 55) (tgt := 56) dX5_value_1 (by omega) (by omega) (by rfl) rfl ?_
    refine Ev.aload_n (pc := 56) (n := (0, 0)) (i := 0) dX5_value_56 rfl rfl ?_
    refine Ev.gI (pc := 57) (n := (0, 0)) (x := (n : Int)) dX5_value_57 fl_X5_20 hC.1.1.1 rfl hC.1.2.2.1 ?_
    exact Ev.iret dX5_value_60 rfl ⟨(Nat.le_of_ble_eq_true rfl), (Nat.le_of_ble_eq_true rfl)⟩
  · skip
    have e9 : mwh n F len st sl dl ad mm lg 1 = mTk F n := rfl
    rw [e9]
    refine Ev.iload_n (pc := 0) (n := (0, 0)) (i := 1) dX5_value_0 rfl rfl ?_
    refine Ev.tableIn (pc := 1) (n := (0, 0)) (off := 60) (tgt := 61) dX5_value_1 (by omega) (by omega) (by rfl) rfl ?_
    refine Ev.aload_n (pc := 61) (n := (0, 0)) (i := 0) dX5_value_61 rfl rfl ?_
    refine Ev.callV (pc := 62) (n := (0, 0)) (ob := T) (as := []) (st := []) (s_countTasks hC hw) dX5_value_62 ok_X5_countTasks (lk_X5_203 rfl) ⟨(Nat.le_of_ble_eq_true rfl), (Nat.le_of_ble_eq_true rfl)⟩ hC.1.1.1 ⟨by decide, rfl⟩ rfl (Nat.le_of_ble_eq_true rfl) (Nat.le_of_ble_eq_true rfl) ⟨(Nat.le_of_ble_eq_true rfl), (Nat.le_of_ble_eq_true rfl)⟩ ?_
    exact Ev.iret dX5_value_65 rfl ⟨(Nat.le_of_ble_eq_true rfl), (Nat.le_of_ble_eq_true rfl)⟩
  · skip
    have e9 : mwh n F len st sl dl ad mm lg 2 = len 0 := rfl
    rw [e9]
    refine Ev.iload_n (pc := 0) (n := (0, 0)) (i := 1) dX5_value_0 rfl rfl ?_
    refine Ev.tableIn (pc := 1) (n := (0, 0)) (off := 65) (tgt := 66) dX5_value_1 (by omega) (by omega) (by rfl) rfl ?_
    refine Ev.aload_n (pc := 66) (n := (0, 0)) (i := 0) dX5_value_66 rfl rfl ?_
    refine Ev.callV (pc := 67) (n := (0, 0)) (ob := T) (as := []) (st := []) (s_endC hC hP) dX5_value_67 ok_X5_end (lk_X5_194 rfl) ⟨(Nat.le_of_ble_eq_true rfl), (Nat.le_of_ble_eq_true rfl)⟩ hC.1.1.1 ⟨by decide, rfl⟩ rfl (Nat.le_of_ble_eq_true rfl) (Nat.le_of_ble_eq_true rfl) ⟨(Nat.le_of_ble_eq_true rfl), (Nat.le_of_ble_eq_true rfl)⟩ ?_
    exact Ev.iret dX5_value_70 rfl ⟨(Nat.le_of_ble_eq_true rfl), (Nat.le_of_ble_eq_true rfl)⟩
  · skip
    have e9 : mwh n F len st sl dl ad mm lg 3 = dl := rfl
    rw [e9]
    refine Ev.iload_n (pc := 0) (n := (0, 0)) (i := 1) dX5_value_0 rfl rfl ?_
    refine Ev.tableIn (pc := 1) (n := (0, 0)) (off := 70) (tgt := 71) dX5_value_1 (by omega) (by omega) (by rfl) rfl ?_
    refine Ev.aload_n (pc := 71) (n := (0, 0)) (i := 0) dX5_value_71 rfl rfl ?_
    refine Ev.gI (pc := 72) (n := (0, 0)) (x := dl) dX5_value_72 fl_X5_27 hC.1.1.1 rfl hC.1.2.2.2.2 ?_
    exact Ev.iret dX5_value_75 rfl ⟨(Nat.le_of_ble_eq_true rfl), (Nat.le_of_ble_eq_true rfl)⟩
  · skip
    have e9 : mwh n F len st sl dl ad mm lg 4 = mlate (len 0) dl := rfl
    rw [e9]
    refine Ev.iload_n (pc := 0) (n := (0, 0)) (i := 1) dX5_value_0 rfl rfl ?_
    refine Ev.tableIn (pc := 1) (n := (0, 0)) (off := 75) (tgt := 76) dX5_value_1 (by omega) (by omega) (by rfl) rfl ?_
    refine Ev.aload_n (pc := 76) (n := (0, 0)) (i := 0) dX5_value_76 rfl rfl ?_
    refine Ev.callV (pc := 77) (n := (0, 0)) (ob := T) (as := []) (st := []) (s_latenessC hC hP ⟨by have := b3.1; omega, by omega⟩ hd) dX5_value_77 ok_X5_lateness (lk_X5_163 rfl) ⟨(Nat.le_of_ble_eq_true rfl), (Nat.le_of_ble_eq_true rfl)⟩ hC.1.1.1 ⟨by decide, rfl⟩ rfl (Nat.le_of_ble_eq_true rfl) (Nat.le_of_ble_eq_true rfl) ⟨(Nat.le_of_ble_eq_true rfl), (Nat.le_of_ble_eq_true rfl)⟩ ?_
    exact Ev.iret dX5_value_80 rfl ⟨(Nat.le_of_ble_eq_true rfl), (Nat.le_of_ble_eq_true rfl)⟩
  · skip
    have e9 : mwh n F len st sl dl ad mm lg 5 = (mm : Int) := rfl
    rw [e9]
    refine Ev.iload_n (pc := 0) (n := (0, 0)) (i := 1) dX5_value_0 rfl rfl ?_
    refine Ev.tableIn (pc := 1) (n := (0, 0)) (off := 80) (tgt := 81) dX5_value_1 (by omega) (by omega) (by rfl) rfl ?_
    refine Ev.aload_n (pc := 81) (n := (0, 0)) (i := 0) dX5_value_81 rfl rfl ?_
    rw [← hcr.cnt]
    refine Ev.callV (pc := 82) (n := (0, 0)) (ob := T) (as := []) (st := []) (s_countCritC hC hw hB hl ht hP) dX5_value_82 ok_X5_countCriticalTasks (lk_X5_206 rfl) ⟨(Nat.le_of_ble_eq_true rfl), (Nat.le_of_ble_eq_true rfl)⟩ hC.1.1.1 ⟨by decide, rfl⟩ rfl (Nat.le_of_ble_eq_true rfl) (Nat.le_of_ble_eq_true rfl) ⟨(Nat.le_of_ble_eq_true rfl), (Nat.le_of_ble_eq_true rfl)⟩ ?_
    exact Ev.iret dX5_value_85 rfl ⟨(Nat.le_of_ble_eq_true rfl), (Nat.le_of_ble_eq_true rfl)⟩
  · skip
    have e9 : mwh n F len st sl dl ad mm lg 6 = mRo n F len sl n := rfl
    rw [e9]
    refine Ev.iload_n (pc := 0) (n := (0, 0)) (i := 1) dX5_value_0 rfl rfl ?_
    refine Ev.tableIn (pc := 1) (n := (0, 0)) (off := 85) (tgt := 86) dX5_value_1 (by omega) (by omega) (by rfl) rfl ?_
    refine Ev.aload_n (pc := 86) (n := (0, 0)) (i := 0) dX5_value_86 rfl rfl ?_
    refine Ev.callV (pc := 87) (n := (0, 0)) (ob := T) (as := []) (st := []) (s_critRows hC hw hB hl ht hP) dX5_value_87 ok_X5_countCriticalRows (lk_X5_209 rfl) ⟨(Nat.le_of_ble_eq_true rfl), (Nat.le_of_ble_eq_true rfl)⟩ hC.1.1.1 ⟨by decide, rfl⟩ rfl (Nat.le_of_ble_eq_true rfl) (Nat.le_of_ble_eq_true rfl) ⟨(Nat.le_of_ble_eq_true rfl), (Nat.le_of_ble_eq_true rfl)⟩ ?_
    exact Ev.iret dX5_value_90 rfl ⟨(Nat.le_of_ble_eq_true rfl), (Nat.le_of_ble_eq_true rfl)⟩
  · skip
    have e9 : mwh n F len st sl dl ad mm lg 7 = mDu F n := rfl
    rw [e9]
    refine Ev.iload_n (pc := 0) (n := (0, 0)) (i := 1) dX5_value_0 rfl rfl ?_
    refine Ev.tableIn (pc := 1) (n := (0, 0)) (off := 90) (tgt := 91) dX5_value_1 (by omega) (by omega) (by rfl) rfl ?_
    refine Ev.aload_n (pc := 91) (n := (0, 0)) (i := 0) dX5_value_91 rfl rfl ?_
    refine Ev.callV (pc := 92) (n := (0, 0)) (ob := T) (as := []) (st := []) (s_sumD hC hw) dX5_value_92 ok_X5_sumOfDurations (lk_X5_212 rfl) ⟨(Nat.le_of_ble_eq_true rfl), (Nat.le_of_ble_eq_true rfl)⟩ hC.1.1.1 ⟨by decide, rfl⟩ rfl (Nat.le_of_ble_eq_true rfl) (Nat.le_of_ble_eq_true rfl) ⟨(Nat.le_of_ble_eq_true rfl), (Nat.le_of_ble_eq_true rfl)⟩ ?_
    exact Ev.iret dX5_value_95 rfl ⟨(Nat.le_of_ble_eq_true rfl), (Nat.le_of_ble_eq_true rfl)⟩
  · skip
    have e9 : mwh n F len st sl dl ad mm lg 8 = mRe F n := rfl
    rw [e9]
    refine Ev.iload_n (pc := 0) (n := (0, 0)) (i := 1) dX5_value_0 rfl rfl ?_
    refine Ev.tableIn (pc := 1) (n := (0, 0)) (off := 95) (tgt := 96) dX5_value_1 (by omega) (by omega) (by rfl) rfl ?_
    refine Ev.aload_n (pc := 96) (n := (0, 0)) (i := 0) dX5_value_96 rfl rfl ?_
    refine Ev.callV (pc := 97) (n := (0, 0)) (ob := T) (as := []) (st := []) (s_sumR hC hw hB) dX5_value_97 ok_X5_sumOfReserves (lk_X5_215 rfl) ⟨(Nat.le_of_ble_eq_true rfl), (Nat.le_of_ble_eq_true rfl)⟩ hC.1.1.1 ⟨by decide, rfl⟩ rfl (Nat.le_of_ble_eq_true rfl) (Nat.le_of_ble_eq_true rfl) ⟨(Nat.le_of_ble_eq_true rfl), (Nat.le_of_ble_eq_true rfl)⟩ ?_
    exact Ev.iret dX5_value_100 rfl ⟨(Nat.le_of_ble_eq_true rfl), (Nat.le_of_ble_eq_true rfl)⟩
  · skip
    have e9 : mwh n F len st sl dl ad mm lg 9 = mMo n F len st n := rfl
    rw [e9]
    refine Ev.iload_n (pc := 0) (n := (0, 0)) (i := 1) dX5_value_0 rfl rfl ?_
    refine Ev.tableIn (pc := 1) (n := (0, 0)) (off := 100) (tgt := 101) dX5_value_1 (by omega) (by omega) (by rfl) rfl ?_
    refine Ev.aload_n (pc := 101) (n := (0, 0)) (i := 0) dX5_value_101 rfl rfl ?_
    refine Ev.callV (pc := 102) (n := (0, 0)) (ob := T) (as := []) (st := []) (s_mostRunning hC hw hB hl ht hP) dX5_value_102 ok_X5_mostRunning (lk_X5_218 rfl) ⟨(Nat.le_of_ble_eq_true rfl), (Nat.le_of_ble_eq_true rfl)⟩ hC.1.1.1 ⟨by decide, rfl⟩ rfl (Nat.le_of_ble_eq_true rfl) (Nat.le_of_ble_eq_true rfl) ⟨(Nat.le_of_ble_eq_true rfl), (Nat.le_of_ble_eq_true rfl)⟩ ?_
    exact Ev.iret dX5_value_105 rfl ⟨(Nat.le_of_ble_eq_true rfl), (Nat.le_of_ble_eq_true rfl)⟩
  · skip
    have e9 : mwh n F len st sl dl ad mm lg 10 = ad := rfl
    rw [e9]
    refine Ev.iload_n (pc := 0) (n := (0, 0)) (i := 1) dX5_value_0 rfl rfl ?_
    refine Ev.tableOut (pc := 1) (n := (0, 0)) (tgt := 106) dX5_value_1 (by omega) rfl ?_
    refine Ev.aload_n (pc := 106) (n := (0, 0)) (i := 0) dX5_value_106 rfl rfl ?_
    refine Ev.gI (pc := 107) (n := (0, 0)) (x := ad) dX5_value_107 fl_X5_24 hC.1.1.1 rfl hC.1.2.2.2.1 ?_
    exact Ev.iret dX5_value_110 rfl ⟨(Nat.le_of_ble_eq_true rfl), (Nat.le_of_ble_eq_true rfl)⟩
theorem s_valueN {h : zH} {T n : Nat} {F : zF} {ad dl : Int} {ar q : Nat → Nat} (hC : CT h T n F ad dl ar q) {dep : Nat → Nat} {B : Int} (hw : WF n F dep B) (hB : 24 * (60 + B) ≤ 1000000000) {len st sl dp : Int → Int} (hl : IsLen n F len) (ht : IsTm n F len st sl dp) (hP : PLN h n F len st sl dp ar q) {i : Nat} (hi : i < n) {w : Int} (hw3 : 0 ≤ w ∧ w ≤ 12) : Ev M_X3_value 0 [(0, zr (some (ar i))), (1, zi w)] [] h (0, 0) (.inl (some (zi (mnode n F len st sl dp (q i) w))), h) := by
  have hq := hC.qlt hi
  have b0 := hw.2.2.2.1 (q i) hq
  have b1 := PL.bd hw hB hl ht hq
  have r0 : F 0 2 = -1 ∧ F 0 3 = -1 ∧ F 0 4 = -1 := ⟨hw.2.1.2.2.1, hw.2.1.2.2.2.1, hw.2.1.2.2.2.2⟩
  rcases (show w = 0 ∨ w = 1 ∨ w = 2 ∨ w = 3 ∨ w = 4 ∨ w = 5 ∨ w = 6 ∨ w = 7 ∨ w = 8 ∨ w = 9 ∨ w = 10 ∨ w = 11 ∨ w = 12 by omega) with e | e | e | e | e | e | e | e | e | e | e | e | e <;> subst e
  · skip
    have e9 : mnode n F len st sl dp (q i) 0 = F (q i) 1 := rfl
    rw [e9]
    refine Ev.iload_n (pc := 0) (n := (0, 0)) (i := 1) dX3_value_0 rfl rfl ?_
    refine Ev.tableIn (pc := 1) (n := (0, 0)) (off := 63) (tgt := 64) dX3_value_1 (by omega) (by omega) (by rfl) rfl ?_
    refine Ev.aload_n (pc := 64) (n := (0, 0)) (i := 0) dX3_value_64 rfl rfl ?_
    refine Ev.gI (pc := 65) (n := (0, 0)) (x := (F (q i) 1)) dX3_value_65 fl_X3_15 (hC.nd hi).1 rfl (hC.c1 hi) ?_
    refine Ev.if_eq (pc := 68) (n := (0, 0)) (tgt := 75) dX3_value_68 rfl (fun h2 => ?_) (fun h2 => ?_)
    · skip
      rw [show F (q i) 1 = 0 by omega]
      refine Ev.iconst (pc := 75) (n := (0, 0)) dX3_value_75 ?_
      exact Ev.iret dX3_value_76 rfl ⟨(Nat.le_of_ble_eq_true rfl), (Nat.le_of_ble_eq_true rfl)⟩
    · skip
      rw [show F (q i) 1 = 1 by omega]
      refine Ev.iconst (pc := 71) (n := (0, 0)) dX3_value_71 ?_
      refine Ev.goto (pc := 72) (n := (0, 0)) (tgt := 76) dX3_value_72 rfl ?_
      exact Ev.iret dX3_value_76 rfl ⟨(Nat.le_of_ble_eq_true rfl), (Nat.le_of_ble_eq_true rfl)⟩
  · skip
    have e9 : mnode n F len st sl dp (q i) 1 = if ((q i : Nat) : Int) = 0 then -1 else F (q i) 2 := rfl
    rw [e9]
    refine Ev.iload_n (pc := 0) (n := (0, 0)) (i := 1) dX3_value_0 rfl rfl ?_
    refine Ev.tableIn (pc := 1) (n := (0, 0)) (off := 76) (tgt := 77) dX3_value_1 (by omega) (by omega) (by rfl) rfl ?_
    refine Ev.aload_n (pc := 77) (n := (0, 0)) (i := 0) dX3_value_77 rfl rfl ?_
    refine Ev.gI (pc := 78) (n := (0, 0)) (x := (F (q i) 2)) dX3_value_78 fl_X3_19 (hC.nd hi).1 rfl (hC.c2 hi) ?_
    have e8 : (if ((q i : Nat) : Int) = 0 then -1 else F (q i) 2) = F (q i) 2 := by
      split
      · rename_i g
        rw [g]
        exact r0.1.symm
      · rfl
    rw [e8]
    exact Ev.iret dX3_value_81 rfl ⟨(Nat.le_of_ble_eq_true rfl), (Nat.le_of_ble_eq_true rfl)⟩
  · skip
    have e9 : mnode n F len st sl dp (q i) 2 = if ((q i : Nat) : Int) = 0 then -1 else F (q i) 3 := rfl
    rw [e9]
    refine Ev.iload_n (pc := 0) (n := (0, 0)) (i := 1) dX3_value_0 rfl rfl ?_
    refine Ev.tableIn (pc := 1) (n := (0, 0)) (off := 81) (tgt := 82) dX3_value_1 (by omega) (by omega) (by rfl) rfl ?_
    refine Ev.aload_n (pc := 82) (n := (0, 0)) (i := 0) dX3_value_82 rfl rfl ?_
    refine Ev.gI (pc := 83) (n := (0, 0)) (x := (F (q i) 3)) dX3_value_83 fl_X3_22 (hC.nd hi).1 rfl (hC.c3 hi) ?_
    have e8 : (if ((q i : Nat) : Int) = 0 then -1 else F (q i) 3) = F (q i) 3 := by
      split
      · rename_i g
        rw [g]
        exact r0.2.1.symm
      · rfl
    rw [e8]
    exact Ev.iret dX3_value_86 rfl ⟨(Nat.le_of_ble_eq_true rfl), (Nat.le_of_ble_eq_true rfl)⟩
  · skip
    have e9 : mnode n F len st sl dp (q i) 3 = if ((q i : Nat) : Int) = 0 then -1 else F (q i) 4 := rfl
    rw [e9]
    refine Ev.iload_n (pc := 0) (n := (0, 0)) (i := 1) dX3_value_0 rfl rfl ?_
    refine Ev.tableIn (pc := 1) (n := (0, 0)) (off := 86) (tgt := 87) dX3_value_1 (by omega) (by omega) (by rfl) rfl ?_
    refine Ev.aload_n (pc := 87) (n := (0, 0)) (i := 0) dX3_value_87 rfl rfl ?_
    refine Ev.gI (pc := 88) (n := (0, 0)) (x := (F (q i) 4)) dX3_value_88 fl_X3_38 (hC.nd hi).1 rfl (hP.p0 hi) ?_
    have e8 : (if ((q i : Nat) : Int) = 0 then -1 else F (q i) 4) = F (q i) 4 := by
      split
      · rename_i g
        rw [g]
        exact r0.2.2.symm
      · rfl
    rw [e8]
    exact Ev.iret dX3_value_91 rfl ⟨(Nat.le_of_ble_eq_true rfl), (Nat.le_of_ble_eq_true rfl)⟩
  · skip
    have e9 : mnode n F len st sl dp (q i) 4 = if F (q i) 1 = 1 then F (q i) 5 else -1 := rfl
    rw [e9]
    refine Ev.iload_n (pc := 0) (n := (0, 0)) (i := 1) dX3_value_0 rfl rfl ?_
    refine Ev.tableIn (pc := 1) (n := (0, 0)) (off := 91) (tgt := 92) dX3_value_1 (by omega) (by omega) (by rfl) rfl ?_
    refine Ev.aload_n (pc := 92) (n := (0, 0)) (i := 0) dX3_value_92 rfl rfl ?_
    refine Ev.gI (pc := 93) (n := (0, 0)) (x := (F (q i) 1)) dX3_value_93 fl_X3_15 (hC.nd hi).1 rfl (hC.c1 hi) ?_
    refine Ev.if_eq (pc := 96) (n := (0, 0)) (tgt := 106) dX3_value_96 rfl (fun h2 => ?_) (fun h2 => ?_)
    · skip
      rw [if_neg (by omega)]
      refine Ev.iconst (pc := 106) (n := (0, 0)) dX3_value_106 ?_
      exact Ev.iret dX3_value_107 rfl ⟨(Nat.le_of_ble_eq_true rfl), (Nat.le_of_ble_eq_true rfl)⟩
    · skip
      rw [if_pos (by omega)]
      refine Ev.aload_n (pc := 99) (n := (0, 0)) (i := 0) dX3_value_99 rfl rfl ?_
      refine Ev.gI (pc := 100) (n := (0, 0)) (x := (F (q i) 5)) dX3_value_100 fl_X3_25 (hC.nd hi).1 rfl (hC.c4 hi) ?_
      refine Ev.goto (pc := 103) (n := (0, 0)) (tgt := 107) dX3_value_103 rfl ?_
      exact Ev.iret dX3_value_107 rfl ⟨(Nat.le_of_ble_eq_true rfl), (Nat.le_of_ble_eq_true rfl)⟩
  · skip
    have e9 : mnode n F len st sl dp (q i) 5 = if F (q i) 1 = 1 then F (q i) 6 else -1 := rfl
    rw [e9]
    refine Ev.iload_n (pc := 0) (n := (0, 0)) (i := 1) dX3_value_0 rfl rfl ?_
    refine Ev.tableIn (pc := 1) (n := (0, 0)) (off := 107) (tgt := 108) dX3_value_1 (by omega) (by omega) (by rfl) rfl ?_
    refine Ev.aload_n (pc := 108) (n := (0, 0)) (i := 0) dX3_value_108 rfl rfl ?_
    refine Ev.gI (pc := 109) (n := (0, 0)) (x := (F (q i) 1)) dX3_value_109 fl_X3_15 (hC.nd hi).1 rfl (hC.c1 hi) ?_
    refine Ev.if_eq (pc := 112) (n := (0, 0)) (tgt := 122) dX3_value_112 rfl (fun h2 => ?_) (fun h2 => ?_)
    · skip
      rw [if_neg (by omega)]
      refine Ev.iconst (pc := 122) (n := (0, 0)) dX3_value_122 ?_
      exact Ev.iret dX3_value_123 rfl ⟨(Nat.le_of_ble_eq_true rfl), (Nat.le_of_ble_eq_true rfl)⟩
    · skip
      rw [if_pos (by omega)]
      refine Ev.aload_n (pc := 115) (n := (0, 0)) (i := 0) dX3_value_115 rfl rfl ?_
      refine Ev.gI (pc := 116) (n := (0, 0)) (x := (F (q i) 6)) dX3_value_116 fl_X3_28 (hC.nd hi).1 rfl (hC.c5 hi) ?_
      refine Ev.goto (pc := 119) (n := (0, 0)) (tgt := 123) dX3_value_119 rfl ?_
      exact Ev.iret dX3_value_123 rfl ⟨(Nat.le_of_ble_eq_true rfl), (Nat.le_of_ble_eq_true rfl)⟩
  · skip
    have e9 : mnode n F len st sl dp (q i) 6 = len (q i) := rfl
    rw [e9]
    refine Ev.iload_n (pc := 0) (n := (0, 0)) (i := 1) dX3_value_0 rfl rfl ?_
    refine Ev.tableIn (pc := 1) (n := (0, 0)) (off := 123) (tgt := 124) dX3_value_1 (by omega) (by omega) (by rfl) rfl ?_
    refine Ev.aload_n (pc := 124) (n := (0, 0)) (i := 0) dX3_value_124 rfl rfl ?_
    refine Ev.gI (pc := 125) (n := (0, 0)) (x := (len (q i))) dX3_value_125 fl_X3_44 (hC.nd hi).1 rfl (hP.p2 hi) ?_
    exact Ev.iret dX3_value_128 rfl ⟨(Nat.le_of_ble_eq_true rfl), (Nat.le_of_ble_eq_true rfl)⟩
  · skip
    have e9 : mnode n F len st sl dp (q i) 7 = st (q i) := rfl
    rw [e9]
    refine Ev.iload_n (pc := 0) (n := (0, 0)) (i := 1) dX3_value_0 rfl rfl ?_
    refine Ev.tableIn (pc := 1) (n := (0, 0)) (off := 128) (tgt := 129) dX3_value_1 (by omega) (by omega) (by rfl) rfl ?_
    refine Ev.aload_n (pc := 129) (n := (0, 0)) (i := 0) dX3_value_129 rfl rfl ?_
    refine Ev.gI (pc := 130) (n := (0, 0)) (x := (st (q i))) dX3_value_130 fl_X3_47 (hC.nd hi).1 rfl (hP.p3 hi) ?_
    exact Ev.iret dX3_value_133 rfl ⟨(Nat.le_of_ble_eq_true rfl), (Nat.le_of_ble_eq_true rfl)⟩
  · skip
    have e9 : mnode n F len st sl dp (q i) 8 = st (q i) + sl (q i) := rfl
    rw [e9]
    refine Ev.iload_n (pc := 0) (n := (0, 0)) (i := 1) dX3_value_0 rfl rfl ?_
    refine Ev.tableIn (pc := 1) (n := (0, 0)) (off := 133) (tgt := 134) dX3_value_1 (by omega) (by omega) (by rfl) rfl ?_
    refine Ev.aload_n (pc := 134) (n := (0, 0)) (i := 0) dX3_value_134 rfl rfl ?_
    refine Ev.gI (pc := 135) (n := (0, 0)) (x := (st (q i))) dX3_value_135 fl_X3_47 (hC.nd hi).1 rfl (hP.p3 hi) ?_
    refine Ev.aload_n (pc := 138) (n := (0, 0)) (i := 0) dX3_value_138 rfl rfl ?_
    refine Ev.gI (pc := 139) (n := (0, 0)) (x := (sl (q i))) dX3_value_139 fl_X3_53 (hC.nd hi).1 rfl (hP.p5 hi) ?_
    refine Ev.iadd (pc := 142) (n := (0, 0)) dX3_value_142 ⟨by omega, by omega⟩ ?_
    exact Ev.iret dX3_value_143 rfl ⟨(Nat.le_of_ble_eq_true rfl), (Nat.le_of_ble_eq_true rfl)⟩
  · skip
    have e9 : mnode n F len st sl dp (q i) 9 = sl (q i) := rfl
    rw [e9]
    refine Ev.iload_n (pc := 0) (n := (0, 0)) (i := 1) dX3_value_0 rfl rfl ?_
    refine Ev.tableIn (pc := 1) (n := (0, 0)) (off := 143) (tgt := 144) dX3_value_1 (by omega) (by omega) (by rfl) rfl ?_
    refine Ev.aload_n (pc := 144) (n := (0, 0)) (i := 0) dX3_value_144 rfl rfl ?_
    refine Ev.gI (pc := 145) (n := (0, 0)) (x := (sl (q i))) dX3_value_145 fl_X3_53 (hC.nd hi).1 rfl (hP.p5 hi) ?_
    exact Ev.iret dX3_value_148 rfl ⟨(Nat.le_of_ble_eq_true rfl), (Nat.le_of_ble_eq_true rfl)⟩
  · skip
    have e9 : mnode n F len st sl dp (q i) 10 = prs n F len (q i) := rfl
    rw [e9]
    refine Ev.iload_n (pc := 0) (n := (0, 0)) (i := 1) dX3_value_0 rfl rfl ?_
    refine Ev.tableIn (pc := 1) (n := (0, 0)) (off := 148) (tgt := 149) dX3_value_1 (by omega) (by omega) (by rfl) rfl ?_
    refine Ev.aload_n (pc := 149) (n := (0, 0)) (i := 0) dX3_value_149 rfl rfl ?_
    refine Ev.gI (pc := 150) (n := (0, 0)) (x := (prs n F len (q i))) dX3_value_150 fl_X3_50 (hC.nd hi).1 rfl (hP.p4 hi) ?_
    exact Ev.iret dX3_value_153 rfl ⟨(Nat.le_of_ble_eq_true rfl), (Nat.le_of_ble_eq_true rfl)⟩
  · skip
    have e9 : mnode n F len st sl dp (q i) 11 = if sl (q i) = 0 then 1 else 0 := rfl
    rw [e9]
    refine Ev.iload_n (pc := 0) (n := (0, 0)) (i := 1) dX3_value_0 rfl rfl ?_
    refine Ev.tableIn (pc := 1) (n := (0, 0)) (off := 153) (tgt := 154) dX3_value_1 (by omega) (by omega) (by rfl) rfl ?_
    refine Ev.aload_n (pc := 154) (n := (0, 0)) (i := 0) dX3_value_154 rfl rfl ?_
    refine Ev.callV (pc := 155) (n := (0, 0)) (ob := (ar i)) (as := []) (st := []) (s_isCritical (hC.nd hi) (hP.p5 hi)) dX3_value_155 ok_X3_isCritical (lk_X3_60 rfl) ⟨(Nat.le_of_ble_eq_true rfl), (Nat.le_of_ble_eq_true rfl)⟩ (hC.nd hi).1 ⟨by decide, rfl⟩ rfl (Nat.le_of_ble_eq_true rfl) (Nat.le_of_ble_eq_true rfl) ⟨(Nat.le_of_ble_eq_true rfl), (Nat.le_of_ble_eq_true rfl)⟩ ?_
    by_cases h9 : sl (q i) = 0
    · skip
      rw [if_pos h9]
      refine Ev.if_eq (pc := 158) (n := (0, 0)) (tgt := 165) dX3_value_158 rfl (fun hc => absurd hc (by decide)) (fun hc => ?_)
      refine Ev.iconst (pc := 161) (n := (0, 0)) dX3_value_161 ?_
      refine Ev.goto (pc := 162) (n := (0, 0)) (tgt := 166) dX3_value_162 rfl ?_
      exact Ev.iret dX3_value_166 rfl ⟨(Nat.le_of_ble_eq_true rfl), (Nat.le_of_ble_eq_true rfl)⟩
    · skip
      rw [if_neg h9]
      refine Ev.if_eq (pc := 158) (n := (0, 0)) (tgt := 165) dX3_value_158 rfl (fun hc => ?_) (fun hc => absurd rfl hc)
      refine Ev.iconst (pc := 165) (n := (0, 0)) dX3_value_165 ?_
      exact Ev.iret dX3_value_166 rfl ⟨(Nat.le_of_ble_eq_true rfl), (Nat.le_of_ble_eq_true rfl)⟩
  · skip
    have e9 : mnode n F len st sl dp (q i) 12 = dp (q i) := rfl
    rw [e9]
    refine Ev.iload_n (pc := 0) (n := (0, 0)) (i := 1) dX3_value_0 rfl rfl ?_
    refine Ev.tableOut (pc := 1) (n := (0, 0)) (tgt := 167) dX3_value_1 (by omega) rfl ?_
    refine Ev.aload_n (pc := 167) (n := (0, 0)) (i := 0) dX3_value_167 rfl rfl ?_
    refine Ev.gI (pc := 168) (n := (0, 0)) (x := (dp (q i))) dX3_value_168 fl_X3_41 (hC.nd hi).1 rfl (hP.p1 hi) ?_
    exact Ev.iret dX3_value_171 rfl ⟨(Nat.le_of_ble_eq_true rfl), (Nat.le_of_ble_eq_true rfl)⟩
