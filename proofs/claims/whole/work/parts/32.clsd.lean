/-! ===== the class: climbs ===== -/
def GP (h : zH) (n : Nat) (F : zF) (ar q : Nat → Nat) : Prop := (∀ i, i < n → Nd h (ar i)) ∧ ((1 ≤ n ∧ n ≤ 24) ∧ Pm n q) ∧ (∀ i j, i < n → j < n → ar i = ar j → i = j) ∧ ∀ i, i < n → (q i = 0 → h.2.2 (ar i) 6 = none) ∧ ∀ j, j < n → F (q i) 2 = F (q j) 0 → h.2.2 (ar i) 6 = some (ar j)
theorem GP.of {h : zH} {T n : Nat} {F : zF} {ad dl : Int} {ar q : Nat → Nat} (hC : CT h T n F ad dl ar q) {len st sl dp : Int → Int} (hP : PLN h n F len st sl dp ar q) : GP h n F ar q := ⟨fun i hi => hC.nd hi, hC.2.2.1, fun i j hi hj e => hC.arin hi hj e, fun i hi => (hP i hi).2.2⟩
theorem GP.qlt {h : zH} {n : Nat} {F : zF} {ar q : Nat → Nat} (hG : GP h n F ar q) {i : Nat} (hi : i < n) : q i < n := hG.2.1.2.1 i hi
theorem GP.onto {h : zH} {n : Nat} {F : zF} {ar q : Nat → Nat} (hG : GP h n F ar q) {k : Nat} (hk : k < n) : ∃ i, i < n ∧ q i = k := zonto hG.2.1.2.1 hG.2.1.2.2.1 k hk
theorem GP.qin {h : zH} {n : Nat} {F : zF} {ar q : Nat → Nat} (hG : GP h n F ar q) {i j : Nat} (hi : i < n) (hj : j < n) (e : q i = q j) : i = j := hG.2.1.2.2.1 i j hi hj e
/-- the group of a node is there -/
theorem GP.par {h : zH} {n : Nat} {F : zF} {ar q : Nat → Nat} (hG : GP h n F ar q) {dep : Nat → Nat} {B : Int} (hw : WF n F dep B) {i : Nat} (hi : i < n) (h0 : q i ≠ 0) : ∃ p, p < n ∧ F (q i) 2 = F (q p) 0 ∧ dep (q i) = dep (q p) + 1 ∧ h.2.2 (ar i) 6 = some (ar p) := by
  obtain ⟨k, hk, e1, -, e2⟩ := hw.par_of (show 1 ≤ q i by omega) (hG.qlt hi)
  obtain ⟨p, hp, e⟩ := hG.onto hk
  rw [← e] at e1 e2
  exact ⟨p, hp, e1, e2, (hG.2.2.2 i hi).2 p hp e1⟩
theorem zcmN {h : zH} {o p : Nat} (h1 : Nd h o) (h2 : Nd h p) : zcm h.1.length (some o) (some p) := by
  refine Or.inl ⟨fun x e => ?_, fun x e => ?_⟩
  · cases e
    exact (List.getElem?_eq_some_iff.mp h1.1).1
  · cases e
    exact (List.getElem?_eq_some_iff.mp h2.1).1
theorem s_isWithin_loop {h : zH} {n : Nat} {F : zF} {ar q : Nat → Nat} (hG : GP h n F ar q) {dep : Nat → Nat} {B : Int} (hw : WF n F dep B) (x0 : Nat) {j : Nat} (hj : j < n) : ∀ (D c : Nat), c < n → dep (q c) < D → ∃ b : Int, (b = 1 ∧ Bel n F (F (q c) 0) (F (q j) 0) ∨ b = 0 ∧ ¬ Bel n F (F (q c) 0) (F (q j) 0)) ∧ Ev M_X3_isWithin 2 [(0, zr (some x0)), (1, zr (some (ar j))), (2, zr (some (ar c)))] [] h (0, 0) (.inl (some (zi b)), h) := by
  intro D
  induction D with
  | zero => intro c hc hd; omega
  | succ D ih =>
    intro c hc hd
    by_cases h1 : c = j
    · subst h1
      refine ⟨1, Or.inl ⟨rfl, Bel.self _ _ _⟩, ?_⟩
      refine Ev.aload_n (pc := 2) (n := (0, 0)) (i := 2) dX3_isWithin_2 rfl rfl ?_
      refine Ev.ifnull (pc := 3) (n := (0, 0)) (tgt := 21) dX3_isWithin_3 rfl (fun hc9 => nomatch hc9) (fun x9 hc9 => ?_)
      refine Ev.aload_n (pc := 6) (n := (0, 0)) (i := 2) dX3_isWithin_6 rfl rfl ?_
      refine Ev.aload_n (pc := 7) (n := (0, 0)) (i := 1) dX3_isWithin_7 rfl rfl ?_
      refine Ev.acmp_ne (pc := 8) (n := (0, 0)) (tgt := 13) dX3_isWithin_8 rfl (zcmN (hG.1 c hc) (hG.1 c hc)) (fun hc9 => absurd rfl hc9) (fun hc9 => ?_)
      refine Ev.iconst (pc := 11) (n := (0, 0)) dX3_isWithin_11 ?_
      exact Ev.bret dX3_isWithin_12 rfl (by decide) ⟨(Nat.le_of_ble_eq_true rfl), (Nat.le_of_ble_eq_true rfl)⟩
    · have h2 : ar c ≠ ar j := fun e => h1 (hG.2.2.1 c j hc hj e)
      have h3 : q c ≠ q j := fun e => h1 (hG.qin hc hj e)
      by_cases h0 : q c = 0
      · refine ⟨0, Or.inr ⟨rfl, by rw [h0]; exact hw.bel_root (hG.qlt hj) (by omega)⟩, ?_⟩
        refine Ev.aload_n (pc := 2) (n := (0, 0)) (i := 2) dX3_isWithin_2 rfl rfl ?_
        refine Ev.ifnull (pc := 3) (n := (0, 0)) (tgt := 21) dX3_isWithin_3 rfl (fun hc9 => nomatch hc9) (fun x9 hc9 => ?_)
        refine Ev.aload_n (pc := 6) (n := (0, 0)) (i := 2) dX3_isWithin_6 rfl rfl ?_
        refine Ev.aload_n (pc := 7) (n := (0, 0)) (i := 1) dX3_isWithin_7 rfl rfl ?_
        refine Ev.acmp_ne (pc := 8) (n := (0, 0)) (tgt := 13) dX3_isWithin_8 rfl (zcmN (hG.1 c hc) (hG.1 j hj)) (fun hc9 => ?_) (fun hc9 => absurd (Option.some.inj hc9) h2)
        refine Ev.aload_n (pc := 13) (n := (0, 0)) (i := 2) dX3_isWithin_13 rfl rfl ?_
        refine Ev.gR (pc := 14) (n := (0, 0)) (r := none) dX3_isWithin_14 fl_X3_31 (hG.1 c hc).1 rfl ((hG.2.2.2 c hc).1 h0) ?_
        refine Ev.astore_n (pc := 17) (n := (0, 0)) (i := 2) (L' := [(2, zr none), (0, zr (some x0)), (1, zr (some (ar j)))]) dX3_isWithin_17 rfl (Nat.le_of_ble_eq_true rfl) rfl ?_
        refine Ev.goto (pc := 18) (n := (0, 0)) (tgt := 2) dX3_isWithin_18 rfl ?_
        refine Ev.aload_n (pc := 2) (n := (0, 0)) (i := 2) dX3_isWithin_2 rfl rfl ?_
        refine Ev.ifnull (pc := 3) (n := (0, 0)) (tgt := 21) dX3_isWithin_3 rfl (fun hc9 => ?_) (fun x9 hc9 => nomatch hc9)
        refine Ev.iconst (pc := 21) (n := (0, 0)) dX3_isWithin_21 ?_
        exact Ev.bret dX3_isWithin_22 rfl (by decide) ⟨(Nat.le_of_ble_eq_true rfl), (Nat.le_of_ble_eq_true rfl)⟩
      · obtain ⟨p, hp, e1, e2, e3⟩ := hG.par hw hc h0
        obtain ⟨b, hb, k9⟩ := ih p hp (by omega)
        refine ⟨b, by rw [hw.bel_up (hG.qlt hc) (hG.qlt hj) e1 h3]; exact hb, ?_⟩
        refine Ev.aload_n (pc := 2) (n := (0, 0)) (i := 2) dX3_isWithin_2 rfl rfl ?_
        refine Ev.ifnull (pc := 3) (n := (0, 0)) (tgt := 21) dX3_isWithin_3 rfl (fun hc9 => nomatch hc9) (fun x9 hc9 => ?_)
        refine Ev.aload_n (pc := 6) (n := (0, 0)) (i := 2) dX3_isWithin_6 rfl rfl ?_
        refine Ev.aload_n (pc := 7) (n := (0, 0)) (i := 1) dX3_isWithin_7 rfl rfl ?_
        refine Ev.acmp_ne (pc := 8) (n := (0, 0)) (tgt := 13) dX3_isWithin_8 rfl (zcmN (hG.1 c hc) (hG.1 j hj)) (fun hc9 => ?_) (fun hc9 => absurd (Option.some.inj hc9) h2)
        refine Ev.aload_n (pc := 13) (n := (0, 0)) (i := 2) dX3_isWithin_13 rfl rfl ?_
        refine Ev.gR (pc := 14) (n := (0, 0)) (r := (some (ar p))) dX3_isWithin_14 fl_X3_31 (hG.1 c hc).1 rfl e3 ?_
        refine Ev.astore_n (pc := 17) (n := (0, 0)) (i := 2) (L' := [(2, zr (some (ar p))), (0, zr (some x0)), (1, zr (some (ar j)))]) dX3_isWithin_17 rfl (Nat.le_of_ble_eq_true rfl) rfl ?_
        refine Ev.goto (pc := 18) (n := (0, 0)) (tgt := 2) dX3_isWithin_18 rfl ?_
        refine Ev.perm [1, 2, 0] rfl ?_
        exact k9
theorem s_isWithin {h : zH} {n : Nat} {F : zF} {ar q : Nat → Nat} (hG : GP h n F ar q) {dep : Nat → Nat} {B : Int} (hw : WF n F dep B) {i j : Nat} (hi : i < n) (hj : j < n) : ∃ b : Int, (b = 1 ∧ Bel n F (F (q i) 0) (F (q j) 0) ∨ b = 0 ∧ ¬ Bel n F (F (q i) 0) (F (q j) 0)) ∧ Ev M_X3_isWithin 0 [(0, zr (some (ar i))), (1, zr (some (ar j)))] [] h (0, 0) (.inl (some (zi b)), h) := by
  obtain ⟨b, hb, k9⟩ := s_isWithin_loop hG hw (ar i) hj (dep (q i) + 1) i hi (by omega)
  refine ⟨b, hb, ?_⟩
  refine Ev.aload_n (pc := 0) (n := (0, 0)) (i := 0) dX3_isWithin_0 rfl rfl ?_
  refine Ev.astore_n (pc := 1) (n := (0, 0)) (i := 2) (L' := [(2, zr (some (ar i))), (0, zr (some (ar i))), (1, zr (some (ar j)))]) dX3_isWithin_1 rfl (Nat.le_of_ble_eq_true rfl) rfl ?_
  refine Ev.perm [1, 2, 0] rfl ?_
  exact k9
theorem s_whyNotTo {h : zH} {T n : Nat} {F : zF} {ad dl : Int} {ar q : Nat → Nat} (hC : CT h T n F ad dl ar q) {dep : Nat → Nat} {B : Int} (hw : WF n F dep B) {len st sl dp : Int → Int} (hP : PLN h n F len st sl dp ar q) {i j : Nat} (hi : i < n) (hj : j < n) : ∃ w : Int, IsReason n F (F (q i) 0) (F (q j) 0) w ∧ Ev M_X3_whyNotTo 0 [(0, zr (some (ar i))), (1, zr (some (ar j)))] [] h (0, 0) (.inl (some (zi w)), h) := by
  have hz : zpos n F (F (q j) 0) = q j := (hw.chn 0).pos (hC.qlt hj)
  have b0 := (hw.2.2.2.1 (q j) (hC.qlt hj)).1
  by_cases h1 : F (q i) 0 = 0
  · skip
    refine ⟨1, Or.inl ⟨rfl, h1⟩, ?_⟩
    refine Ev.aload_n (pc := 0) (n := (0, 0)) (i := 0) dX3_whyNotTo_0 rfl rfl ?_
    refine Ev.gI (pc := 1) (n := (0, 0)) (x := (F (q i) 0)) dX3_whyNotTo_1 fl_X3_9 (hC.nd hi).1 rfl (hC.c0 hi) ?_
    refine Ev.if_ne (pc := 4) (n := (0, 0)) (tgt := 9) dX3_whyNotTo_4 rfl (fun hc => absurd h1 hc) (fun hc => ?_)
    refine Ev.iconst (pc := 7) (n := (0, 0)) dX3_whyNotTo_7 ?_
    exact Ev.iret dX3_whyNotTo_8 rfl ⟨(Nat.le_of_ble_eq_true rfl), (Nat.le_of_ble_eq_true rfl)⟩
  · skip
    by_cases h2 : F (q j) 1 = 1
    · skip
      refine ⟨2, Or.inr (Or.inl ⟨rfl, h1, by rw [hz]; exact h2⟩), ?_⟩
      refine Ev.aload_n (pc := 0) (n := (0, 0)) (i := 0) dX3_whyNotTo_0 rfl rfl ?_
      refine Ev.gI (pc := 1) (n := (0, 0)) (x := (F (q i) 0)) dX3_whyNotTo_1 fl_X3_9 (hC.nd hi).1 rfl (hC.c0 hi) ?_
      refine Ev.if_ne (pc := 4) (n := (0, 0)) (tgt := 9) dX3_whyNotTo_4 rfl (fun hc => ?_) (fun hc => absurd hc h1)
      refine Ev.aload_n (pc := 9) (n := (0, 0)) (i := 1) dX3_whyNotTo_9 rfl rfl ?_
      refine Ev.gI (pc := 10) (n := (0, 0)) (x := (F (q j) 1)) dX3_whyNotTo_10 fl_X3_15 (hC.nd hj).1 rfl (hC.c1 hj) ?_
      refine Ev.if_eq (pc := 13) (n := (0, 0)) (tgt := 18) dX3_whyNotTo_13 rfl (fun hc => absurd hc (by omega)) (fun hc => ?_)
      refine Ev.iconst (pc := 16) (n := (0, 0)) dX3_whyNotTo_16 ?_
      exact Ev.iret dX3_whyNotTo_17 rfl ⟨(Nat.le_of_ble_eq_true rfl), (Nat.le_of_ble_eq_true rfl)⟩
    · skip
      obtain ⟨b, hb, k9⟩ := s_isWithin (GP.of hC hP) hw hj hi
      rcases hb with ⟨rfl, hb⟩ | ⟨rfl, hb⟩
      · skip
        refine ⟨3, Or.inr (Or.inr (Or.inl ⟨rfl, h1, by rw [hz]; exact h2, hb⟩)), ?_⟩
        refine Ev.aload_n (pc := 0) (n := (0, 0)) (i := 0) dX3_whyNotTo_0 rfl rfl ?_
        refine Ev.gI (pc := 1) (n := (0, 0)) (x := (F (q i) 0)) dX3_whyNotTo_1 fl_X3_9 (hC.nd hi).1 rfl (hC.c0 hi) ?_
        refine Ev.if_ne (pc := 4) (n := (0, 0)) (tgt := 9) dX3_whyNotTo_4 rfl (fun hc => ?_) (fun hc => absurd hc h1)
        refine Ev.aload_n (pc := 9) (n := (0, 0)) (i := 1) dX3_whyNotTo_9 rfl rfl ?_
        refine Ev.gI (pc := 10) (n := (0, 0)) (x := (F (q j) 1)) dX3_whyNotTo_10 fl_X3_15 (hC.nd hj).1 rfl (hC.c1 hj) ?_
        refine Ev.if_eq (pc := 13) (n := (0, 0)) (tgt := 18) dX3_whyNotTo_13 rfl (fun hc => ?_) (fun hc => absurd hc (by omega))
        refine Ev.aload_n (pc := 18) (n := (0, 0)) (i := 1) dX3_whyNotTo_18 rfl rfl ?_
        refine Ev.aload_n (pc := 19) (n := (0, 0)) (i := 0) dX3_whyNotTo_19 rfl rfl ?_
        refine Ev.callV (pc := 20) (n := (0, 0)) (ob := (ar j)) (as := [zr (some (ar i))]) (st := []) (k9) dX3_whyNotTo_20 ok_X3_isWithin (lk_X3_64 rfl) ⟨(Nat.le_of_ble_eq_true rfl), (Nat.le_of_ble_eq_true rfl)⟩ (hC.nd hj).1 ⟨by decide, rfl⟩ rfl (Nat.le_of_ble_eq_true rfl) (Nat.le_of_ble_eq_true rfl) ⟨(Nat.le_of_ble_eq_true rfl), (Nat.le_of_ble_eq_true rfl)⟩ ?_
        refine Ev.if_eq (pc := 23) (n := (0, 0)) (tgt := 30) dX3_whyNotTo_23 rfl (fun hc => absurd hc (by decide)) (fun hc => ?_)
        refine Ev.iconst (pc := 26) (n := (0, 0)) dX3_whyNotTo_26 ?_
        refine Ev.goto (pc := 27) (n := (0, 0)) (tgt := 31) dX3_whyNotTo_27 rfl ?_
        exact Ev.iret dX3_whyNotTo_31 rfl ⟨(Nat.le_of_ble_eq_true rfl), (Nat.le_of_ble_eq_true rfl)⟩
      · skip
        refine ⟨0, Or.inr (Or.inr (Or.inr ⟨rfl, h1, by rw [hz]; exact h2, hb⟩)), ?_⟩
        refine Ev.aload_n (pc := 0) (n := (0, 0)) (i := 0) dX3_whyNotTo_0 rfl rfl ?_
        refine Ev.gI (pc := 1) (n := (0, 0)) (x := (F (q i) 0)) dX3_whyNotTo_1 fl_X3_9 (hC.nd hi).1 rfl (hC.c0 hi) ?_
        refine Ev.if_ne (pc := 4) (n := (0, 0)) (tgt := 9) dX3_whyNotTo_4 rfl (fun hc => ?_) (fun hc => absurd hc h1)
        refine Ev.aload_n (pc := 9) (n := (0, 0)) (i := 1) dX3_whyNotTo_9 rfl rfl ?_
        refine Ev.gI (pc := 10) (n := (0, 0)) (x := (F (q j) 1)) dX3_whyNotTo_10 fl_X3_15 (hC.nd hj).1 rfl (hC.c1 hj) ?_
        refine Ev.if_eq (pc := 13) (n := (0, 0)) (tgt := 18) dX3_whyNotTo_13 rfl (fun hc => ?_) (fun hc => absurd hc (by omega))
        refine Ev.aload_n (pc := 18) (n := (0, 0)) (i := 1) dX3_whyNotTo_18 rfl rfl ?_
        refine Ev.aload_n (pc := 19) (n := (0, 0)) (i := 0) dX3_whyNotTo_19 rfl rfl ?_
        refine Ev.callV (pc := 20) (n := (0, 0)) (ob := (ar j)) (as := [zr (some (ar i))]) (st := []) (k9) dX3_whyNotTo_20 ok_X3_isWithin (lk_X3_64 rfl) ⟨(Nat.le_of_ble_eq_true rfl), (Nat.le_of_ble_eq_true rfl)⟩ (hC.nd hj).1 ⟨by decide, rfl⟩ rfl (Nat.le_of_ble_eq_true rfl) (Nat.le_of_ble_eq_true rfl) ⟨(Nat.le_of_ble_eq_true rfl), (Nat.le_of_ble_eq_true rfl)⟩ ?_
        refine Ev.if_eq (pc := 23) (n := (0, 0)) (tgt := 30) dX3_whyNotTo_23 rfl (fun hc => ?_) (fun hc => absurd rfl hc)
        refine Ev.iconst (pc := 30) (n := (0, 0)) dX3_whyNotTo_30 ?_
        exact Ev.iret dX3_whyNotTo_31 rfl ⟨(Nat.le_of_ble_eq_true rfl), (Nat.le_of_ble_eq_true rfl)⟩
theorem IsReason.uniq {n : Nat} {f : zF} {x g w w' : Int} (h : IsReason n f x g w) (h' : IsReason n f x g w') : w = w' := by
  rcases h with ⟨rfl, a⟩ | ⟨rfl, a, b⟩ | ⟨rfl, a, b, c⟩ | ⟨rfl, a, b, c⟩ <;> rcases h' with ⟨rfl, a'⟩ | ⟨rfl, a', b'⟩ | ⟨rfl, a', b', c'⟩ | ⟨rfl, a', b', c'⟩ <;> first | rfl | exact absurd a' a | exact absurd a a' | exact absurd b' b | exact absurd b b' | exact absurd c' c | exact absurd c c'
/-! another length of one node -/
theorem zmx_max (a v : Int) : zmx a v = max a v := by unfold zmx; split <;> omega
theorem zsum_chg {g g' : Int → Int} {n k : Nat} (hk : k < n) (h : ∀ j : Nat, j < n → j ≠ k → g' j = g j) : zsum g' n = zsum g n - g k + g' k := by
  have e1 : zsum g' n = zsum (fun j => g j + (g' j - g j)) n := zsum_congr fun j _ => by omega
  have e2 : zsum (fun j => g' j - g j) n = g' k - g k := zsum_one (g := fun j => g' j - g j) hk (fun j hj hne => by have := h j hj hne; show g' j - g j = 0; omega)
  rw [e1, zsum_add g (fun j => g' j - g j), e2]
  omega
/-- below a child: below its group -/
theorem WF.bel_tr {n : Nat} {f : zF} {dep : Nat → Nat} {B : Int} (h : WF n f dep B) {c x : Nat} (hc1 : 1 ≤ c) (hc : c < n) (hx : x < n) (e : f c 2 = f x 0) : ∀ y : Nat, y < n → Bel n f (f y 0) (f c 0) → Bel n f (f y 0) (f x 0) := by
  have hne : c ≠ x := fun g => by subst g; have := h.dep_c hx hc1 hc e; omega
  refine h.down (P := fun y => Bel n f (f y 0) (f c 0) → Bel n f (f y 0) (f x 0)) (fun g => absurd g (h.bel_root hc (by omega))) (fun y p h1 hy hp e2 ih g => ?_)
  by_cases h2 : y = c
  · subst h2
    exact (h.bel_up hy hx e hne).mpr (Bel.self _ _ _)
  · have h3 := ih ((h.bel_up hy hc e2 h2).mp g)
    by_cases h4 : y = x
    · subst h4; exact Bel.self _ _ _
    · exact (h.bel_up hy hx e2 h4).mpr h3
/-- one node of a depth at most above another -/
theorem WF.bel_one {n : Nat} {f : zF} {dep : Nat → Nat} {B : Int} (h : WF n f dep B) {b c : Nat} (hb1 : 1 ≤ b) (hb : b < n) (hc1 : 1 ≤ c) (hc : c < n) (e : dep b = dep c) : ∀ y : Nat, y < n → Bel n f (f y 0) (f b 0) → Bel n f (f y 0) (f c 0) → b = c := by
  refine h.down (P := fun y => Bel n f (f y 0) (f b 0) → Bel n f (f y 0) (f c 0) → b = c) (fun g _ => absurd g (h.bel_root hb (by omega))) (fun y p h1 hy hp e2 ih g1 g2 => ?_)
  have hd := h.dep_c hp h1 hy e2
  by_cases h2 : y = b
  · by_cases h3 : y = c
    · omega
    · have := h.bel_dep hc (by omega) p hp ((h.bel_up hy hc e2 h3).mp g2)
      subst h2
      omega
  · by_cases h3 : y = c
    · have := h.bel_dep hb (by omega) p hp ((h.bel_up hy hb e2 h2).mp g1)
      subst h3
      omega
    · exact ih ((h.bel_up hy hb e2 h2).mp g1) ((h.bel_up hy hc e2 h3).mp g2)
def Oth (F F' : zF) (k : Nat) : Prop := ∀ o w : Int, ¬ (o = k ∧ (w = 5 ∨ w = 6)) → F' o w = F o w
theorem Oth.s {F F' : zF} {k : Nat} (h : Oth F F' k) (o : Int) {w : Int} (hw : w ≤ 4) : F' o w = F o w := h o w (fun g => by omega)
theorem Oth.o {F F' : zF} {k : Nat} (h : Oth F F' k) {o : Int} (w : Int) (ho : o ≠ k) : F' o w = F o w := h o w (fun g => ho g.1)
theorem mrl_oth {n : Nat} {F F' : zF} {k : Nat} (h : Oth F F' k) (len : Int → Int) (g r : Int) : mrl n F' len g r = mrl n F len g r := zsum_congr fun o _ => by rw [h.s o (by decide), h.s o (by decide)]
/-- the lengths of nodes that are not above it stay -/
theorem Oth.same {n : Nat} {F F' : zF} {dep : Nat → Nat} {B : Int} (hw : WF n F dep B) {k : Nat} (hk : k < n) (h : Oth F F' k) {len len' : Int → Int} (hl : IsLen n F len) (hl' : IsLen n F' len') : ∀ x : Nat, x < n → ¬ Bel n F (F k 0) (F x 0) → len' x = len x := by
  refine hw.up (P := fun x => ¬ Bel n F (F k 0) (F x 0) → len' x = len x) (fun x hx ih hn => ?_)
  have hxk : x ≠ k := fun e => by subst e; exact hn (Bel.self _ _ _)
  have hxk' : (x : Int) ≠ (k : Int) := by omega
  rw [hl' x hx, hl x hx]
  have e : ∀ r : Int, mrl n F' len' (F' x 0) r = mrl n F len (F x 0) r := fun r => by
    rw [h.s x (by decide), mrl_oth h]
    refine zsum_congr fun c hc => ?_
    by_cases g : F c 2 = F x 0 ∧ F c 3 = r
    · rw [if_pos g, if_pos g]
      have hc1 : 1 ≤ c := by
        rcases Nat.eq_zero_or_pos c with e | e
        · subst e; exact absurd g.1 (hw.root2 hx)
        · exact e
      exact ih c hc1 hc g.1 (fun b => hn (hw.bel_tr hc1 hc hx g.1 k hk b))
    · rw [if_neg g, if_neg g]
  unfold mln
  rw [h.o 1 hxk', h.o 5 hxk', h.o 6 hxk']
  split
  · rfl
  · show zmx (zmx (zmx (zmx 0 (mrl n F' len' (F' x 0) 0)) (mrl n F' len' (F' x 0) 1)) (mrl n F' len' (F' x 0) 2)) (mrl n F' len' (F' x 0) 3) = _
    rw [e, e, e, e]
    rfl
theorem lbut_congr {A A' : Int → Int} (h : ∀ r : Int, 0 ≤ r → r < 4 → A r = A' r) (r : Int) : ∀ m : Nat, m ≤ 4 → lbut A r m = lbut A' r m := by
  intro m
  induction m with
  | zero => intro _; rfl
  | succ m ih =>
    intro hm
    show (if (m : Int) = r then lbut A r m else zmx (lbut A r m) (A m)) = (if (m : Int) = r then lbut A' r m else zmx (lbut A' r m) (A' m))
    rw [ih (by omega), h m (by omega) (by omega)]
theorem lbut_mx {A A' : Int → Int} {r x : Int} (hr : 0 ≤ r ∧ r ≤ 3) (hx : A' r = x) (ho : ∀ s : Int, 0 ≤ s → s ≤ 3 → s ≠ r → A' s = A s) : zmx x (lbut A r 4) = zmx (zmx (zmx (zmx 0 (A' 0)) (A' 1)) (A' 2)) (A' 3) := by
  have l0 : lbut A 0 4 = zmx (zmx (zmx 0 (A 1)) (A 2)) (A 3) := rfl
  have l1 : lbut A 1 4 = zmx (zmx (zmx 0 (A 0)) (A 2)) (A 3) := rfl
  have l2 : lbut A 2 4 = zmx (zmx (zmx 0 (A 0)) (A 1)) (A 3) := rfl
  have l3 : lbut A 3 4 = zmx (zmx (zmx 0 (A 0)) (A 1)) (A 2) := rfl
  rcases (show r = 0 ∨ r = 1 ∨ r = 2 ∨ r = 3 by omega) with e | e | e | e <;> subst e
  · rw [l0, hx, ho 1 (by omega) (by omega) (by omega), ho 2 (by omega) (by omega) (by omega), ho 3 (by omega) (by omega) (by omega)]
    simp only [zmx_max]
    omega
  · rw [l1, hx, ho 0 (by omega) (by omega) (by omega), ho 2 (by omega) (by omega) (by omega), ho 3 (by omega) (by omega) (by omega)]
    simp only [zmx_max]
    omega
  · rw [l2, hx, ho 0 (by omega) (by omega) (by omega), ho 1 (by omega) (by omega) (by omega), ho 3 (by omega) (by omega) (by omega)]
    simp only [zmx_max]
    omega
  · rw [l3, hx, ho 0 (by omega) (by omega) (by omega), ho 1 (by omega) (by omega) (by omega), ho 2 (by omega) (by omega) (by omega)]
    simp only [zmx_max]
    omega
/-- from a node above it to the next -/
theorem Oth.step {n : Nat} {F F' : zF} {dep : Nat → Nat} {B : Int} (hw : WF n F dep B) {k : Nat} (hk : k < n) (h : Oth F F' k) (hkt : F k 1 = 1) {len len' : Int → Int} (hl : IsLen n F len) (hl' : IsLen n F' len') {b p : Nat} (hb1 : 1 ≤ b) (hb : b < n) (hp : p < n) (e : F b 2 = F p 0) (hbel : Bel n F (F k 0) (F b 0)) : zmx (mrl n F len (F p 0) (F b 3) - len b + len' b) (lbut (fun r => mrl n F len (F p 0) r) (F b 3) 4) = len' p := by
  obtain ⟨hr, -, p2, hp2, e2, e3, -⟩ := hw.2.2.2.2.1 b hb1 hb
  have epp : p2 = p := hw.num_inj hp2 hp (e2.symm.trans e)
  subst epp
  have hkp : k ≠ p2 := fun g => by subst g; omega
  have hsib : ∀ c : Nat, c < n → F c 2 = F p2 0 → c ≠ b → len' c = len c := fun c hc g hne => by
    have hc1 : 1 ≤ c := by
      rcases Nat.eq_zero_or_pos c with e | e
      · subst e; exact absurd g (hw.root2 hp2)
      · exact e
    refine h.same hw hk hl hl' c hc (fun g2 => hne ?_)
    have d1 := hw.dep_c hp2 hc1 hc g
    have d2 := hw.dep_c hp2 hb1 hb e
    exact hw.bel_one hc1 hc hb1 hb (by omega) k hk g2 hbel
  have er : mrl n F len' (F p2 0) (F b 3) = mrl n F len (F p2 0) (F b 3) - len b + len' b := by
    have := zsum_chg (g := fun c => if F c 2 = F p2 0 ∧ F c 3 = F b 3 then len c else 0) (g' := fun c => if F c 2 = F p2 0 ∧ F c 3 = F b 3 then len' c else 0) hb (fun c hc hne => by
      by_cases g : F c 2 = F p2 0 ∧ F c 3 = F b 3
      · show (if _ then _ else _) = (if _ then _ else _)
        rw [if_pos g, if_pos g]; exact hsib c hc g.1 hne
      · show (if _ then _ else _) = (if _ then _ else _)
        rw [if_neg g, if_neg g])
    have i1 : (if F b 2 = F p2 0 ∧ F b 3 = F b 3 then len b else 0) = len b := if_pos ⟨e, rfl⟩
    have i2 : (if F b 2 = F p2 0 ∧ F b 3 = F b 3 then len' b else 0) = len' b := if_pos ⟨e, rfl⟩
    rw [i1, i2] at this
    exact this
  have eo : ∀ s : Int, 0 ≤ s → s ≤ 3 → s ≠ F b 3 → mrl n F len' (F p2 0) s = mrl n F len (F p2 0) s := fun s _ _ hs => zsum_congr fun c hc => by
    by_cases g : F c 2 = F p2 0 ∧ F c 3 = s
    · rw [if_pos g, if_pos g]
      exact hsib c hc g.1 (fun e => by subst e; exact hs g.2.symm)
    · rw [if_neg g, if_neg g]
  have ep : len' p2 = zmx (zmx (zmx (zmx 0 (mrl n F len' (F p2 0) 0)) (mrl n F len' (F p2 0) 1)) (mrl n F len' (F p2 0) 2)) (mrl n F len' (F p2 0) 3) := by
    rw [hl' p2 hp2]
    unfold mln
    rw [h.s p2 (by decide), if_neg (by omega), h.s p2 (by decide)]
    unfold mlg
    rw [mrl_oth h, mrl_oth h, mrl_oth h, mrl_oth h]
  rw [ep]
  exact lbut_mx (A := fun r => mrl n F len (F p2 0) r) (A' := fun r => mrl n F len' (F p2 0) r) hr er eo
/-- a longer task: no shorter end -/
theorem Oth.mono {n : Nat} {F F1 F2 : zF} {dep : Nat → Nat} {B : Int} (hw : WF n F dep B) {k : Nat} (h1 : Oth F F1 k) (h2 : Oth F F2 k) {l1 l2 : Int → Int} (hl1 : IsLen n F1 l1) (hl2 : IsLen n F2 l2) (hk : k < n) (hle : l1 k ≤ l2 k) : ∀ x : Nat, x < n → l1 x ≤ l2 x := by
  refine hw.up (P := fun x => l1 x ≤ l2 x) (fun x hx ih => ?_)
  by_cases hxk : x = k
  · subst hxk; exact hle
  have hxk' : (x : Int) ≠ (k : Int) := by omega
  rw [hl1 x hx, hl2 x hx]
  have e : ∀ r : Int, mrl n F1 l1 (F x 0) r ≤ mrl n F2 l2 (F x 0) r := fun r => by
    rw [mrl_oth h1, mrl_oth h2]
    refine zsum_le fun c hc => ?_
    by_cases g : F c 2 = F x 0 ∧ F c 3 = r
    · rw [if_pos g, if_pos g]
      have hc1 : 1 ≤ c := by
        rcases Nat.eq_zero_or_pos c with e | e
        · subst e; exact absurd g.1 (hw.root2 hx)
        · exact e
      exact ih c hc1 hc g.1
    · rw [if_neg g, if_neg g]; exact Int.le_refl _
  unfold mln
  rw [h1.o 1 hxk', h1.o 5 hxk', h1.o 6 hxk', h2.o 1 hxk', h2.o 5 hxk', h2.o 6 hxk', h1.s x (by decide), h2.s x (by decide)]
  split
  · exact Int.le_refl _
  · unfold mlg
    have a0 := e 0
    have a1 := e 1
    have a2 := e 2
    have a3 := e 3
    simp only [zmx_max]
    omega
theorem flast_oth (F : zF) (k : Nat) (d : Int) : Oth F (flast F k d) k := fun o w hn => by
  show (if o = k ∧ w = 5 then d else if o = k ∧ w = 6 then mres (F k 5) (F k 6) d else F o w) = F o w
  rw [if_neg (fun g => hn ⟨g.1, Or.inl g.2⟩), if_neg (fun g => hn ⟨g.1, Or.inr g.2⟩)]
theorem flast_len {n : Nat} {F : zF} {k : Nat} (hk : k < n) (ht : F k 1 = 1) {d : Int} {len' : Int → Int} (hl' : IsLen n (flast F k d) len') : len' k = d + mres (F k 5) (F k 6) d := by
  rw [hl' k hk]
  unfold mln
  rw [(flast_oth F k d).s k (by decide), if_pos ht]
  have e5 : flast F k d k 5 = d := if_pos ⟨rfl, rfl⟩
  have e6 : flast F k d k 6 = mres (F k 5) (F k 6) d := by
    show (if (k : Int) = k ∧ (6 : Int) = 5 then d else if (k : Int) = k ∧ (6 : Int) = 6 then mres (F k 5) (F k 6) d else F k 6) = _
    rw [if_neg (fun g => absurd g.2 (by decide)), if_pos ⟨rfl, rfl⟩]
  rw [e5, e6]
theorem s_endIf_loop {h : zH} {T n : Nat} {F : zF} {ad dl : Int} {ar q : Nat → Nat} (hC : CT h T n F ad dl ar q) {dep : Nat → Nat} {B : Int} (hw : WF n F dep B) (hB : 24 * (60 + B) ≤ 1000000000) {len st sl dp : Int → Int} (hl : IsLen n F len) (ht : IsTm n F len st sl dp) (hP : PLN h n F len st sl dp ar q) {k : Nat} (hk : k < n) (hkt : F k 1 = 1) {F9 : zF} (hO : Oth F F9 k) {B9 : Int} {dep9 : Nat → Nat} (hw9 : WF n F9 dep9 B9) (hB9 : 24 * (60 + B9) ≤ 1000000000) {len9 : Int → Int} (hl9 : IsLen n F9 len9) (x0 : Nat) (v0 : Int) : ∀ (D b : Nat), b < n → dep (q b) < D → Bel n F (F k 0) (F (q b) 0) → Ev M_X3_endIfLength 10 [(0, zr (some x0)), (1, zi v0), (2, zi (len9 (q b))), (3, zr (some (ar b))), (4, zr (h.2.2 (ar b) 6))] [] h (0, 0) (.inl (some (zi (len9 0))), h) := by
  intro D
  have hG := GP.of hC hP
  induction D with
  | zero => intro b hb hd; omega
  | succ D ih =>
    intro b hb hd hbel
    by_cases h0 : q b = 0
    · rw [(hP b hb).2.2.1 h0, h0]
      refine Ev.aload (pc := 10) (n := (0, 0)) dX3_endIfLength_10 rfl ?_
      refine Ev.ifnull (pc := 12) (n := (0, 0)) (tgt := 61) dX3_endIfLength_12 rfl (fun hc => ?_) (fun x9 hc => nomatch hc)
      refine Ev.iload_n (pc := 61) (n := (0, 0)) (i := 2) dX3_endIfLength_61 rfl rfl ?_
      exact Ev.iret dX3_endIfLength_62 rfl ⟨(Nat.le_of_ble_eq_true rfl), (Nat.le_of_ble_eq_true rfl)⟩
    · obtain ⟨p, hp, e1, e2, e3⟩ := hG.par hw hb h0
      rw [e3]
      have hq := hC.qlt hb
      have hqp := hC.qlt hp
      have k9 := ih p hp (by omega) (hw.bel_tr (by omega) hq hqp e1 k hk hbel)
      have hm := mtot_le hw
      have hm9 := mtot_le hw9
      have hr := (hw.2.2.2.2.1 (q b) (by omega) hq).1
      have b1 := PL.bd hw hB hl ht hq
      have b9 := hl9.bd hw9 (q b) hq
      have hs : 0 ≤ mrl n F len (F (q p) 0) (F (q b) 3) ∧ mrl n F len (F (q p) 0) (F (q b) 3) ≤ mtot n F := mrl_bd hw hl (F (q p) 0) (F (q b) 3) n (Nat.le_refl _)
      have es := hO.step hw hk hkt hl hl9 (by omega) hq hqp e1 hbel
      rw [lbut_congr (A := fun r => mrl n F len (F (q p) 0) r) (A' := h.2.1 (ar p + 1)) (fun r h1 h2 => ((hP p hp).2.1 r h1 h2).symm) (F (q b) 3) 4 (Nat.le_refl _)] at es
      unfold zmx at es
      refine Ev.aload (pc := 10) (n := (0, 0)) dX3_endIfLength_10 rfl ?_
      refine Ev.ifnull (pc := 12) (n := (0, 0)) (tgt := 61) dX3_endIfLength_12 rfl (fun hc => nomatch hc) (fun x9 hc => ?_)
      refine Ev.aload (pc := 15) (n := (0, 0)) dX3_endIfLength_15 rfl ?_
      refine Ev.aload_n (pc := 17) (n := (0, 0)) (i := 3) dX3_endIfLength_17 rfl rfl ?_
      refine Ev.gI (pc := 18) (n := (0, 0)) (x := (F (q b) 3)) dX3_endIfLength_18 fl_X3_22 (hC.nd hb).1 rfl (hC.c3 hb) ?_
      refine Ev.callV (pc := 21) (n := (0, 0)) (ob := (ar p)) (as := [zi (F (q b) 3)]) (st := []) (s_rowLengthC hC hP hp ⟨by omega, by omega⟩) dX3_endIfLength_21 ok_X3_rowLength (lk_X3_78 rfl) ⟨(Nat.le_of_ble_eq_true rfl), (Nat.le_of_ble_eq_true rfl)⟩ (hC.nd hp).1 ⟨by decide, rfl⟩ rfl (Nat.le_of_ble_eq_true rfl) (Nat.le_of_ble_eq_true rfl) ⟨(Nat.le_of_ble_eq_true rfl), (Nat.le_of_ble_eq_true rfl)⟩ ?_
      refine Ev.aload_n (pc := 24) (n := (0, 0)) (i := 3) dX3_endIfLength_24 rfl rfl ?_
      refine Ev.gI (pc := 25) (n := (0, 0)) (x := (len (q b))) dX3_endIfLength_25 fl_X3_44 (hC.nd hb).1 rfl (hP.p2 hb) ?_
      refine Ev.isub (pc := 28) (n := (0, 0)) dX3_endIfLength_28 ⟨by omega, by omega⟩ ?_
      refine Ev.iload_n (pc := 29) (n := (0, 0)) (i := 2) dX3_endIfLength_29 rfl rfl ?_
      refine Ev.iadd (pc := 30) (n := (0, 0)) dX3_endIfLength_30 ⟨by omega, by omega⟩ ?_
      refine Ev.istore (pc := 31) (n := (0, 0)) (i := 5) (L' := [(5, zi (((mrl n F len (F (q p) 0) (F (q b) 3)) - (len (q b))) + (len9 (q b)))), (0, zr (some x0)), (1, zi v0), (2, zi (len9 (q b))), (3, zr (some (ar b))), (4, zr (some (ar p)))]) dX3_endIfLength_31 (Nat.le_of_ble_eq_true rfl) rfl ?_
      refine Ev.iload (pc := 33) (n := (0, 0)) dX3_endIfLength_33 rfl ?_
      refine Ev.aload (pc := 35) (n := (0, 0)) dX3_endIfLength_35 rfl ?_
      refine Ev.aload_n (pc := 37) (n := (0, 0)) (i := 3) dX3_endIfLength_37 rfl rfl ?_
      refine Ev.gI (pc := 38) (n := (0, 0)) (x := (F (q b) 3)) dX3_endIfLength_38 fl_X3_22 (hC.nd hb).1 rfl (hC.c3 hb) ?_
      refine Ev.callV (pc := 41) (n := (0, 0)) (ob := (ar p)) (as := [zi (F (q b) 3)]) (st := [zi (((mrl n F len (F (q p) 0) (F (q b) 3)) - (len (q b))) + (len9 (q b)))]) (s_longestRowBut (hC.nd hp)) dX3_endIfLength_41 ok_X3_longestRowBut (lk_X3_81 rfl) ⟨(Nat.le_of_ble_eq_true rfl), (Nat.le_of_ble_eq_true rfl)⟩ (hC.nd hp).1 ⟨by decide, rfl⟩ rfl (Nat.le_of_ble_eq_true rfl) (Nat.le_of_ble_eq_true rfl) ⟨(Nat.le_of_ble_eq_true rfl), (Nat.le_of_ble_eq_true rfl)⟩ ?_
      refine Ev.mmax (pc := 44) (n := (0, 0)) dX3_endIfLength_44 (lk_X3_68 rfl) ⟨(Nat.le_of_ble_eq_true rfl), (Nat.le_of_ble_eq_true rfl)⟩ (Nat.le_of_ble_eq_true rfl) ⟨(Nat.le_of_ble_eq_true rfl), (Nat.le_of_ble_eq_true rfl)⟩ ?_
      rw [es]
      refine Ev.istore_n (pc := 47) (n := (0, 0)) (i := 2) (L' := [(2, zi (len9 (q p))), (5, zi (((mrl n F len (F (q p) 0) (F (q b) 3)) - (len (q b))) + (len9 (q b)))), (0, zr (some x0)), (1, zi v0), (3, zr (some (ar b))), (4, zr (some (ar p)))]) dX3_endIfLength_47 rfl (Nat.le_of_ble_eq_true rfl) rfl ?_
      refine Ev.aload (pc := 48) (n := (0, 0)) dX3_endIfLength_48 rfl ?_
      refine Ev.astore_n (pc := 50) (n := (0, 0)) (i := 3) (L' := [(3, zr (some (ar p))), (2, zi (len9 (q p))), (5, zi (((mrl n F len (F (q p) 0) (F (q b) 3)) - (len (q b))) + (len9 (q b)))), (0, zr (some x0)), (1, zi v0), (4, zr (some (ar p)))]) dX3_endIfLength_50 rfl (Nat.le_of_ble_eq_true rfl) rfl ?_
      refine Ev.aload (pc := 51) (n := (0, 0)) dX3_endIfLength_51 rfl ?_
      refine Ev.gR (pc := 53) (n := (0, 0)) (r := (h.2.2 (ar p) 6)) dX3_endIfLength_53 fl_X3_31 (hC.nd hp).1 rfl rfl ?_
      refine Ev.astore (pc := 56) (n := (0, 0)) (i := 4) (L' := [(4, zr (h.2.2 (ar p) 6)), (3, zr (some (ar p))), (2, zi (len9 (q p))), (5, zi (((mrl n F len (F (q p) 0) (F (q b) 3)) - (len (q b))) + (len9 (q b)))), (0, zr (some x0)), (1, zi v0)]) dX3_endIfLength_56 (Nat.le_of_ble_eq_true rfl) rfl ?_
      refine Ev.goto (pc := 58) (n := (0, 0)) (tgt := 10) dX3_endIfLength_58 rfl ?_
      refine Ev.perm [4, 5, 2, 1, 0] rfl ?_
      exact k9
theorem s_endIfLength {h : zH} {T n : Nat} {F : zF} {ad dl : Int} {ar q : Nat → Nat} (hC : CT h T n F ad dl ar q) {dep : Nat → Nat} {B : Int} (hw : WF n F dep B) (hB : 24 * (60 + B) ≤ 1000000000) {len st sl dp : Int → Int} (hl : IsLen n F len) (ht : IsTm n F len st sl dp) (hP : PLN h n F len st sl dp ar q) {k : Nat} (hk : k < n) (hkt : F k 1 = 1) {F9 : zF} (hO : Oth F F9 k) {B9 : Int} {dep9 : Nat → Nat} (hw9 : WF n F9 dep9 B9) (hB9 : 24 * (60 + B9) ≤ 1000000000) {len9 : Int → Int} (hl9 : IsLen n F9 len9) {i : Nat} (hi : i < n) (hqi : q i = k) {v : Int} (hv : v = len9 (q i)) : Ev M_X3_endIfLength 0 [(0, zr (some (ar i))), (1, zi v)] [] h (0, 0) (.inl (some (zi (len9 0))), h) := by
  subst hv
  refine Ev.iload_n (pc := 0) (n := (0, 0)) (i := 1) dX3_endIfLength_0 rfl rfl ?_
  refine Ev.istore_n (pc := 1) (n := (0, 0)) (i := 2) (L' := [(2, zi (len9 (q i))), (0, zr (some (ar i))), (1, zi (len9 (q i)))]) dX3_endIfLength_1 rfl (Nat.le_of_ble_eq_true rfl) rfl ?_
  refine Ev.aload_n (pc := 2) (n := (0, 0)) (i := 0) dX3_endIfLength_2 rfl rfl ?_
  refine Ev.astore_n (pc := 3) (n := (0, 0)) (i := 3) (L' := [(3, zr (some (ar i))), (2, zi (len9 (q i))), (0, zr (some (ar i))), (1, zi (len9 (q i)))]) dX3_endIfLength_3 rfl (Nat.le_of_ble_eq_true rfl) rfl ?_
  refine Ev.aload_n (pc := 4) (n := (0, 0)) (i := 0) dX3_endIfLength_4 rfl rfl ?_
  refine Ev.gR (pc := 5) (n := (0, 0)) (r := (h.2.2 (ar i) 6)) dX3_endIfLength_5 fl_X3_31 (hC.nd hi).1 rfl rfl ?_
  refine Ev.astore (pc := 8) (n := (0, 0)) (i := 4) (L' := [(4, zr (h.2.2 (ar i) 6)), (3, zr (some (ar i))), (2, zi (len9 (q i))), (0, zr (some (ar i))), (1, zi (len9 (q i)))]) dX3_endIfLength_8 (Nat.le_of_ble_eq_true rfl) rfl ?_
  refine Ev.perm [3, 4, 2, 1, 0] rfl ?_
  have k9 := s_endIf_loop hC hw hB hl ht hP hk hkt hO hw9 hB9 hl9 (ar i) (len9 (q i)) (dep (q i) + 1) i hi (by omega) (by rw [hqi]; exact Bel.self _ _ _)
  exact k9
theorem s_canMoveTo_none {h : zH} (o : Nat) : Ev M_X5_canMoveTo 0 [(0, zr (some o)), (1, zr none)] [] h (0, 0) (.inl (some (zi 0)), h) := by
  refine Ev.aload_n (pc := 0) (n := (0, 0)) (i := 1) dX5_canMoveTo_0 rfl rfl ?_
  refine Ev.ifnull (pc := 1) (n := (0, 0)) (tgt := 16) dX5_canMoveTo_1 rfl (fun hc => ?_) (fun x9 hc => nomatch hc)
  refine Ev.iconst (pc := 16) (n := (0, 0)) dX5_canMoveTo_16 ?_
  exact Ev.bret dX5_canMoveTo_17 rfl (by decide) ⟨(Nat.le_of_ble_eq_true rfl), (Nat.le_of_ble_eq_true rfl)⟩
theorem s_canMoveTo {h : zH} {T n : Nat} {F : zF} {ad dl : Int} {ar q : Nat → Nat} (hC : CT h T n F ad dl ar q) {dep : Nat → Nat} {B : Int} (hw : WF n F dep B) {len st sl dp : Int → Int} (hP : PLN h n F len st sl dp ar q) {i j : Nat} (hi : i < n) (hj : j < n) {w : Int} (hr9 : IsReason n F (F (q i) 0) (F (q j) 0) w) : Ev M_X5_canMoveTo 0 [(0, zr (some (ar i))), (1, zr (some (ar j)))] [] h (0, 0) (.inl (some (zi (if w = 0 then 1 else 0))), h) := by
  obtain ⟨w2, hw2, k9⟩ := s_whyNotTo hC hw hP hi hj
  have ew := hw2.uniq hr9
  subst ew
  refine Ev.aload_n (pc := 0) (n := (0, 0)) (i := 1) dX5_canMoveTo_0 rfl rfl ?_
  refine Ev.ifnull (pc := 1) (n := (0, 0)) (tgt := 16) dX5_canMoveTo_1 rfl (fun hc => nomatch hc) (fun x9 hc => ?_)
  refine Ev.aload_n (pc := 4) (n := (0, 0)) (i := 0) dX5_canMoveTo_4 rfl rfl ?_
  refine Ev.aload_n (pc := 5) (n := (0, 0)) (i := 1) dX5_canMoveTo_5 rfl rfl ?_
  refine Ev.callV (pc := 6) (n := (0, 0)) (ob := (ar i)) (as := [zr (some (ar j))]) (st := []) (k9) dX5_canMoveTo_6 ok_X3_whyNotTo (lk_X5_159 rfl) ⟨(Nat.le_of_ble_eq_true rfl), (Nat.le_of_ble_eq_true rfl)⟩ (hC.nd hi).1 ⟨by decide, rfl⟩ rfl (Nat.le_of_ble_eq_true rfl) (Nat.le_of_ble_eq_true rfl) ⟨(Nat.le_of_ble_eq_true rfl), (Nat.le_of_ble_eq_true rfl)⟩ ?_
  refine Ev.if_ne (pc := 9) (n := (0, 0)) (tgt := 16) dX5_canMoveTo_9 rfl (fun h1 => ?_) (fun h1 => ?_)
  · skip
    rw [if_neg h1]
    refine Ev.iconst (pc := 16) (n := (0, 0)) dX5_canMoveTo_16 ?_
    exact Ev.bret dX5_canMoveTo_17 rfl (by decide) ⟨(Nat.le_of_ble_eq_true rfl), (Nat.le_of_ble_eq_true rfl)⟩
  · skip
    rw [if_pos h1]
    refine Ev.iconst (pc := 12) (n := (0, 0)) dX5_canMoveTo_12 ?_
    refine Ev.goto (pc := 13) (n := (0, 0)) (tgt := 17) dX5_canMoveTo_13 rfl ?_
    exact Ev.bret dX5_canMoveTo_17 rfl (by decide) ⟨(Nat.le_of_ble_eq_true rfl), (Nat.le_of_ble_eq_true rfl)⟩
