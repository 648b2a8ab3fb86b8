/-- x is the node with the number t, or below it -/
def mbelF (n : Nat) (f : zF) (t : Int) : Nat → Int → Prop
  | 0, _ => False
  | D + 1, x => x = t ∨ (x ≠ -1 ∧ mbelF n f t D (f (zpos n f x) 2))
def Bel (n : Nat) (f : zF) (x t : Int) : Prop := ∃ D, mbelF n f t D x
theorem Bel.self (n : Nat) (f : zF) (t : Int) : Bel n f t t := ⟨1, Or.inl rfl⟩
theorem Bel.up {n : Nat} {f : zF} {x t : Int} (h1 : x ≠ t) (h2 : x ≠ -1) : Bel n f x t ↔ Bel n f (f (zpos n f x) 2) t := by
  constructor
  · rintro ⟨D, hD⟩
    cases D with
    | zero => exact hD.elim
    | succ D =>
      rcases hD with e | ⟨-, e⟩
      · exact absurd e h1
      · exact ⟨D, e⟩
  · rintro ⟨D, hD⟩
    exact ⟨D + 1, Or.inr ⟨h2, hD⟩⟩
theorem Bel.none {n : Nat} {f : zF} {t : Int} (ht : t ≠ -1) : ¬ Bel n f (-1) t := by
  rintro ⟨D, hD⟩
  cases D with
  | zero => exact hD
  | succ D =>
    rcases hD with e | ⟨e, -⟩
    · exact ht e.symm
    · exact e rfl
/-- chains that end: what a climb needs -/
def Chn (n : Nat) (f : zF) (dep : Nat → Nat) (t : Int) : Prop := (∀ i j : Nat, i < j → j < n → f i 0 < f j 0) ∧ ∀ k : Nat, k < n → f k 0 ≠ t → f k 2 = -1 ∨ ∃ p : Nat, p < n ∧ f k 2 = f p 0 ∧ dep k = dep p + 1
theorem WF.chn {n : Nat} {f : zF} {dep : Nat → Nat} {B : Int} (h : WF n f dep B) (t : Int) : Chn n f dep t := by
  refine ⟨h.2.2.1, fun k hk _ => ?_⟩
  rcases Nat.eq_zero_or_pos k with e | e
  · subst e; exact Or.inl h.2.1.2.2.1
  · obtain ⟨-, -, p, hp, e1, -, e2⟩ := h.2.2.2.2.1 k e hk
    exact Or.inr ⟨p, hp, e1, e2⟩
theorem Chn.pos {n : Nat} {f : zF} {dep : Nat → Nat} {t : Int} (h : Chn n f dep t) {p : Nat} (hp : p < n) : zpos n f (f p 0) = p := zfnd_at hp rfl (fun j hj e => by
  have := h.1 j p hj hp
  have e3 : f j 0 = f p 0 := e
  omega)
theorem s_isBelow_loop {h : zH} {I : Nat → Int → Int} {F : zF} (hR : zRM h) {n : Nat} (hn : I 261 0 = n) (hn24 : n ≤ 24) {dep : Nat → Nat} {t : Int} (hc : Chn n F dep t) (ht : t ≠ -1) (x0 : Int) : ∀ (D : Nat) (k : Nat), k < n → dep k < D → ∃ b : Int, (b = 1 ∧ Bel n F (F k 0) t ∨ b = 0 ∧ ¬ Bel n F (F k 0) t) ∧ Ev M_X7_isBelow 2 [(0, zr (some 260)), (1, zi x0), (2, zi t), (3, zi (F k 0))] [] (h.1, zrw I F, h.2.2) (0, 0) (.inl (some (zi b)), (h.1, zrw I F, h.2.2)) := by
  have hend : ∃ b : Int, (b = 1 ∧ Bel n F (-1) t ∨ b = 0 ∧ ¬ Bel n F (-1) t) ∧ Ev M_X7_isBelow 2 [(0, zr (some 260)), (1, zi x0), (2, zi t), (3, zi (-1))] [] (h.1, zrw I F, h.2.2) (0, 0) (.inl (some (zi b)), (h.1, zrw I F, h.2.2)) := by
    refine ⟨0, Or.inr ⟨rfl, Bel.none ht⟩, ?_⟩
    refine Ev.iload_n (pc := 2) (n := (0, 0)) (i := 3) dX7_isBelow_2 rfl rfl ?_
    refine Ev.iconst (pc := 3) (n := (0, 0)) dX7_isBelow_3 ?_
    refine Ev.icmp_eq (pc := 4) (n := (0, 0)) (tgt := 26) dX7_isBelow_4 rfl (fun hc2 => ?_) (fun hc2 => absurd rfl hc2)
    refine Ev.iload_n (pc := 26) (n := (0, 0)) (i := 3) dX7_isBelow_26 rfl rfl ?_
    refine Ev.iload_n (pc := 27) (n := (0, 0)) (i := 2) dX7_isBelow_27 rfl rfl ?_
    refine Ev.icmp_ne (pc := 28) (n := (0, 0)) (tgt := 35) dX7_isBelow_28 rfl (fun hc3 => ?_) (fun hc3 => absurd hc3.symm ht)
    refine Ev.iconst (pc := 35) (n := (0, 0)) dX7_isBelow_35 ?_
    exact Ev.bret dX7_isBelow_36 rfl (by decide) ⟨(Nat.le_of_ble_eq_true rfl), (Nat.le_of_ble_eq_true rfl)⟩
  intro D
  induction D with
  | zero => intro k _ hD; omega
  | succ D ih =>
    intro k hk hD
    by_cases hx : F k 0 = t
    · refine ⟨1, Or.inl ⟨rfl, by rw [hx]; exact Bel.self n F t⟩, ?_⟩
      refine Ev.iload_n (pc := 2) (n := (0, 0)) (i := 3) dX7_isBelow_2 rfl rfl ?_
      refine Ev.iconst (pc := 3) (n := (0, 0)) dX7_isBelow_3 ?_
      refine Ev.icmp_eq (pc := 4) (n := (0, 0)) (tgt := 26) dX7_isBelow_4 rfl (fun hc2 => absurd (hx.symm.trans hc2) ht) (fun hc2 => ?_)
      refine Ev.iload_n (pc := 7) (n := (0, 0)) (i := 3) dX7_isBelow_7 rfl rfl ?_
      refine Ev.iload_n (pc := 8) (n := (0, 0)) (i := 2) dX7_isBelow_8 rfl rfl ?_
      refine Ev.icmp_eq (pc := 9) (n := (0, 0)) (tgt := 26) dX7_isBelow_9 rfl (fun hc3 => ?_) (fun hc3 => absurd hx hc3)
      refine Ev.iload_n (pc := 26) (n := (0, 0)) (i := 3) dX7_isBelow_26 rfl rfl ?_
      refine Ev.iload_n (pc := 27) (n := (0, 0)) (i := 2) dX7_isBelow_27 rfl rfl ?_
      refine Ev.icmp_ne (pc := 28) (n := (0, 0)) (tgt := 35) dX7_isBelow_28 rfl (fun hc4 => absurd hx hc4) (fun hc4 => ?_)
      refine Ev.iconst (pc := 31) (n := (0, 0)) dX7_isBelow_31 ?_
      refine Ev.goto (pc := 32) (n := (0, 0)) (tgt := 36) dX7_isBelow_32 rfl ?_
      exact Ev.bret dX7_isBelow_36 rfl (by decide) ⟨(Nat.le_of_ble_eq_true rfl), (Nat.le_of_ble_eq_true rfl)⟩
    · by_cases hm : F k 0 = -1
      · rw [hm]
        exact hend
      · have hpk := hc.pos hk
        have hup := Bel.up (n := n) (f := F) hx hm
        rw [hpk] at hup
        rcases hc.2 k hk hx with e1 | ⟨p, hp, e1, e2⟩
        · rw [e1] at hup
          obtain ⟨b, hb, r⟩ := hend
          refine ⟨b, by rw [hup]; exact hb, ?_⟩
          refine Ev.iload_n (pc := 2) (n := (0, 0)) (i := 3) dX7_isBelow_2 rfl rfl ?_
          refine Ev.iconst (pc := 3) (n := (0, 0)) dX7_isBelow_3 ?_
          refine Ev.icmp_eq (pc := 4) (n := (0, 0)) (tgt := 26) dX7_isBelow_4 rfl (fun hc2 => absurd hc2 hm) (fun hc2 => ?_)
          refine Ev.iload_n (pc := 7) (n := (0, 0)) (i := 3) dX7_isBelow_7 rfl rfl ?_
          refine Ev.iload_n (pc := 8) (n := (0, 0)) (i := 2) dX7_isBelow_8 rfl rfl ?_
          refine Ev.icmp_eq (pc := 9) (n := (0, 0)) (tgt := 26) dX7_isBelow_9 rfl (fun hc3 => absurd hc3 hx) (fun hc3 => ?_)
          refine Ev.aload_n (pc := 12) (n := (0, 0)) (i := 0) dX7_isBelow_12 rfl rfl ?_
          refine Ev.aload_n (pc := 13) (n := (0, 0)) (i := 0) dX7_isBelow_13 rfl rfl ?_
          refine Ev.iload_n (pc := 14) (n := (0, 0)) (i := 3) dX7_isBelow_14 rfl rfl ?_
          refine Ev.callV (pc := 15) (n := (0, 0)) (ob := 260) (as := [zi (F (k : Int) 0)]) (st := [zr (some 260)]) (s_findF hR hn hn24) dX7_isBelow_15 ok_X7_find (lk_X7_53 rfl) ⟨(Nat.le_of_ble_eq_true rfl), (Nat.le_of_ble_eq_true rfl)⟩ (zk_at hR.1 rfl) ⟨by decide, rfl⟩ rfl (Nat.le_of_ble_eq_true rfl) (Nat.le_of_ble_eq_true rfl) ⟨(Nat.le_of_ble_eq_true rfl), (Nat.le_of_ble_eq_true rfl)⟩ ?_
          rw [hpk]
          refine Ev.iconst (pc := 18) (n := (0, 0)) dX7_isBelow_18 ?_
          refine Ev.callV (pc := 19) (n := (0, 0)) (ob := 260) (as := [zi (k : Int), zi 2]) (st := []) (s_ofF hR ⟨by omega, by omega⟩ ⟨by decide, by decide⟩) dX7_isBelow_19 ok_X7_of (lk_X7_49 rfl) ⟨(Nat.le_of_ble_eq_true rfl), (Nat.le_of_ble_eq_true rfl)⟩ (zk_at hR.1 rfl) ⟨by decide, rfl⟩ rfl (Nat.le_of_ble_eq_true rfl) (Nat.le_of_ble_eq_true rfl) ⟨(Nat.le_of_ble_eq_true rfl), (Nat.le_of_ble_eq_true rfl)⟩ ?_
          rw [e1]
          refine Ev.istore_n (pc := 22) (n := (0, 0)) (i := 3) (L' := [(3, zi (-1)), (0, zr (some 260)), (1, zi x0), (2, zi t)]) dX7_isBelow_22 rfl (Nat.le_of_ble_eq_true rfl) rfl ?_
          refine Ev.goto (pc := 23) (n := (0, 0)) (tgt := 2) dX7_isBelow_23 rfl ?_
          refine Ev.perm [1, 2, 3, 0] rfl ?_
          exact r
        · rw [e1] at hup
          obtain ⟨b, hb, r⟩ := ih p hp (by omega)
          refine ⟨b, by rw [hup]; exact hb, ?_⟩
          refine Ev.iload_n (pc := 2) (n := (0, 0)) (i := 3) dX7_isBelow_2 rfl rfl ?_
          refine Ev.iconst (pc := 3) (n := (0, 0)) dX7_isBelow_3 ?_
          refine Ev.icmp_eq (pc := 4) (n := (0, 0)) (tgt := 26) dX7_isBelow_4 rfl (fun hc2 => absurd hc2 hm) (fun hc2 => ?_)
          refine Ev.iload_n (pc := 7) (n := (0, 0)) (i := 3) dX7_isBelow_7 rfl rfl ?_
          refine Ev.iload_n (pc := 8) (n := (0, 0)) (i := 2) dX7_isBelow_8 rfl rfl ?_
          refine Ev.icmp_eq (pc := 9) (n := (0, 0)) (tgt := 26) dX7_isBelow_9 rfl (fun hc3 => absurd hc3 hx) (fun hc3 => ?_)
          refine Ev.aload_n (pc := 12) (n := (0, 0)) (i := 0) dX7_isBelow_12 rfl rfl ?_
          refine Ev.aload_n (pc := 13) (n := (0, 0)) (i := 0) dX7_isBelow_13 rfl rfl ?_
          refine Ev.iload_n (pc := 14) (n := (0, 0)) (i := 3) dX7_isBelow_14 rfl rfl ?_
          refine Ev.callV (pc := 15) (n := (0, 0)) (ob := 260) (as := [zi (F (k : Int) 0)]) (st := [zr (some 260)]) (s_findF hR hn hn24) dX7_isBelow_15 ok_X7_find (lk_X7_53 rfl) ⟨(Nat.le_of_ble_eq_true rfl), (Nat.le_of_ble_eq_true rfl)⟩ (zk_at hR.1 rfl) ⟨by decide, rfl⟩ rfl (Nat.le_of_ble_eq_true rfl) (Nat.le_of_ble_eq_true rfl) ⟨(Nat.le_of_ble_eq_true rfl), (Nat.le_of_ble_eq_true rfl)⟩ ?_
          rw [hpk]
          refine Ev.iconst (pc := 18) (n := (0, 0)) dX7_isBelow_18 ?_
          refine Ev.callV (pc := 19) (n := (0, 0)) (ob := 260) (as := [zi (k : Int), zi 2]) (st := []) (s_ofF hR ⟨by omega, by omega⟩ ⟨by decide, by decide⟩) dX7_isBelow_19 ok_X7_of (lk_X7_49 rfl) ⟨(Nat.le_of_ble_eq_true rfl), (Nat.le_of_ble_eq_true rfl)⟩ (zk_at hR.1 rfl) ⟨by decide, rfl⟩ rfl (Nat.le_of_ble_eq_true rfl) (Nat.le_of_ble_eq_true rfl) ⟨(Nat.le_of_ble_eq_true rfl), (Nat.le_of_ble_eq_true rfl)⟩ ?_
          rw [e1]
          refine Ev.istore_n (pc := 22) (n := (0, 0)) (i := 3) (L' := [(3, zi (F (p : Int) 0)), (0, zr (some 260)), (1, zi x0), (2, zi t)]) dX7_isBelow_22 rfl (Nat.le_of_ble_eq_true rfl) rfl ?_
          refine Ev.goto (pc := 23) (n := (0, 0)) (tgt := 2) dX7_isBelow_23 rfl ?_
          refine Ev.perm [1, 2, 3, 0] rfl ?_
          exact r
theorem s_isBelow {h : zH} {I : Nat → Int → Int} {F : zF} (hR : zRM h) {n : Nat} (hn : I 261 0 = n) (hn24 : n ≤ 24) {dep : Nat → Nat} {t : Int} (hc : Chn n F dep t) (ht : t ≠ -1) {k : Nat} {x : Int} (hk : k < n) (hx : F k 0 = x) : ∃ b : Int, (b = 1 ∧ Bel n F x t ∨ b = 0 ∧ ¬ Bel n F x t) ∧ Ev M_X7_isBelow 0 [(0, zr (some 260)), (1, zi x), (2, zi t)] [] (h.1, zrw I F, h.2.2) (0, 0) (.inl (some (zi b)), (h.1, zrw I F, h.2.2)) := by
  subst hx
  obtain ⟨b, hb, r⟩ := s_isBelow_loop (I := I) hR hn hn24 hc ht (F k 0) (dep k + 1) k hk (by omega)
  refine ⟨b, hb, ?_⟩
  refine Ev.iload_n (pc := 0) (n := (0, 0)) (i := 1) dX7_isBelow_0 rfl rfl ?_
  refine Ev.istore_n (pc := 1) (n := (0, 0)) (i := 3) (L' := [(3, zi (F (k : Int) 0)), (0, zr (some 260)), (1, zi (F (k : Int) 0)), (2, zi t)]) dX7_isBelow_1 rfl (Nat.le_of_ble_eq_true rfl) rfl ?_
  refine Ev.perm [1, 2, 3, 0] rfl ?_
  exact r
/-- why a node cannot be moved to a group -/
def IsReason (n : Nat) (f : zF) (x g w : Int) : Prop := (w = 1 ∧ x = 0) ∨ (w = 2 ∧ x ≠ 0 ∧ f (zpos n f g) 1 = 1) ∨ (w = 3 ∧ x ≠ 0 ∧ f (zpos n f g) 1 ≠ 1 ∧ Bel n f g x) ∨ (w = 0 ∧ x ≠ 0 ∧ f (zpos n f g) 1 ≠ 1 ∧ ¬ Bel n f g x)
theorem s_reasonOf {h : zH} {I : Nat → Int → Int} {F : zF} (hR : zRM h) {n : Nat} (hn : I 261 0 = n) (hn24 : n ≤ 24) {dep : Nat → Nat} {B : Int} (hw : WF n F dep B) {x gr : Int} (hxn : x ≠ -1) (hg : zpos n F gr ≠ -1) : ∃ w : Int, IsReason n F x gr w ∧ Ev M_X7_reasonOf 0 [(0, zr (some 260)), (1, zi x), (2, zi gr)] [] (h.1, zrw I F, h.2.2) (0, 0) (.inl (some (zi w)), (h.1, zrw I F, h.2.2)) := by
  obtain ⟨k, hk, hf⟩ : ∃ k : Nat, k < n ∧ zpos n F gr = k := by
    have hq : -1 ≤ zpos n F gr ∧ zpos n F gr < n := zfnd_rng (fun j => F j 0) gr n
    exact ⟨(zpos n F gr).toNat, by omega, by omega⟩
  have hgk : F k 0 = gr := by
    rcases zfnd_cases (fun j => F j 0) gr n with ⟨e, -⟩ | ⟨j, -, e, e2, -⟩
    · have e' : zpos n F gr = -1 := e
      omega
    · have e' : zpos n F gr = j := e
      have : k = j := by omega
      rw [this]; exact e2
  by_cases h1 : x = 0
  · skip
    refine ⟨1, Or.inl ⟨rfl, h1⟩, ?_⟩
    refine Ev.iload_n (pc := 0) (n := (0, 0)) (i := 1) dX7_reasonOf_0 rfl rfl ?_
    refine Ev.if_ne (pc := 1) (n := (0, 0)) (tgt := 8) dX7_reasonOf_1 rfl (fun hc => absurd h1 hc) (fun hc => ?_)
    refine Ev.iconst (pc := 4) (n := (0, 0)) dX7_reasonOf_4 ?_
    refine Ev.goto (pc := 5) (n := (0, 0)) (tgt := 34) dX7_reasonOf_5 rfl ?_
    exact Ev.iret dX7_reasonOf_34 rfl ⟨(Nat.le_of_ble_eq_true rfl), (Nat.le_of_ble_eq_true rfl)⟩
  · skip
    by_cases h2 : F k 1 = 1
    · skip
      refine ⟨2, Or.inr (Or.inl ⟨rfl, h1, by rw [hf]; exact h2⟩), ?_⟩
      refine Ev.iload_n (pc := 0) (n := (0, 0)) (i := 1) dX7_reasonOf_0 rfl rfl ?_
      refine Ev.if_ne (pc := 1) (n := (0, 0)) (tgt := 8) dX7_reasonOf_1 rfl (fun hc => ?_) (fun hc => absurd hc h1)
      refine Ev.aload_n (pc := 8) (n := (0, 0)) (i := 0) dX7_reasonOf_8 rfl rfl ?_
      refine Ev.iload_n (pc := 9) (n := (0, 0)) (i := 2) dX7_reasonOf_9 rfl rfl ?_
      refine Ev.callV (pc := 10) (n := (0, 0)) (ob := 260) (as := [zi gr]) (st := []) (s_isTaskF hR hn hn24 hk hf) dX7_reasonOf_10 ok_X7_isTask (lk_X7_94 rfl) ⟨(Nat.le_of_ble_eq_true rfl), (Nat.le_of_ble_eq_true rfl)⟩ (zk_at hR.1 rfl) ⟨by decide, rfl⟩ rfl (Nat.le_of_ble_eq_true rfl) (Nat.le_of_ble_eq_true rfl) ⟨(Nat.le_of_ble_eq_true rfl), (Nat.le_of_ble_eq_true rfl)⟩ ?_
      rw [if_pos h2]
      refine Ev.if_eq (pc := 13) (n := (0, 0)) (tgt := 20) dX7_reasonOf_13 rfl (fun hc2 => absurd hc2 (by decide)) (fun hc2 => ?_)
      refine Ev.iconst (pc := 16) (n := (0, 0)) dX7_reasonOf_16 ?_
      refine Ev.goto (pc := 17) (n := (0, 0)) (tgt := 34) dX7_reasonOf_17 rfl ?_
      exact Ev.iret dX7_reasonOf_34 rfl ⟨(Nat.le_of_ble_eq_true rfl), (Nat.le_of_ble_eq_true rfl)⟩
    · skip
      obtain ⟨b, hb, r⟩ := s_isBelow (I := I) hR hn hn24 (hw.chn x) (t := x) hxn hk hgk
      have hwb : ∀ w : Int, (b = 1 ∧ w = 3 ∨ b = 0 ∧ w = 0) → IsReason n F x gr w := fun w hw9 => by
        rcases hb with ⟨e, hB9⟩ | ⟨e, hB9⟩
        · exact Or.inr (Or.inr (Or.inl ⟨by omega, h1, by rw [hf]; exact h2, hB9⟩))
        · exact Or.inr (Or.inr (Or.inr ⟨by omega, h1, by rw [hf]; exact h2, hB9⟩))
      have hb2 : b = 0 ∨ b = 1 := by rcases hb with ⟨e, -⟩ | ⟨e, -⟩ <;> omega
      by_cases hb1 : b = 0
      · skip
        refine ⟨0, hwb 0 (by omega), ?_⟩
        refine Ev.iload_n (pc := 0) (n := (0, 0)) (i := 1) dX7_reasonOf_0 rfl rfl ?_
        refine Ev.if_ne (pc := 1) (n := (0, 0)) (tgt := 8) dX7_reasonOf_1 rfl (fun hc => ?_) (fun hc => absurd hc h1)
        refine Ev.aload_n (pc := 8) (n := (0, 0)) (i := 0) dX7_reasonOf_8 rfl rfl ?_
        refine Ev.iload_n (pc := 9) (n := (0, 0)) (i := 2) dX7_reasonOf_9 rfl rfl ?_
        refine Ev.callV (pc := 10) (n := (0, 0)) (ob := 260) (as := [zi gr]) (st := []) (s_isTaskF hR hn hn24 hk hf) dX7_reasonOf_10 ok_X7_isTask (lk_X7_94 rfl) ⟨(Nat.le_of_ble_eq_true rfl), (Nat.le_of_ble_eq_true rfl)⟩ (zk_at hR.1 rfl) ⟨by decide, rfl⟩ rfl (Nat.le_of_ble_eq_true rfl) (Nat.le_of_ble_eq_true rfl) ⟨(Nat.le_of_ble_eq_true rfl), (Nat.le_of_ble_eq_true rfl)⟩ ?_
        rw [if_neg h2]
        refine Ev.if_eq (pc := 13) (n := (0, 0)) (tgt := 20) dX7_reasonOf_13 rfl (fun hc2 => ?_) (fun hc2 => absurd rfl hc2)
        refine Ev.aload_n (pc := 20) (n := (0, 0)) (i := 0) dX7_reasonOf_20 rfl rfl ?_
        refine Ev.iload_n (pc := 21) (n := (0, 0)) (i := 2) dX7_reasonOf_21 rfl rfl ?_
        refine Ev.iload_n (pc := 22) (n := (0, 0)) (i := 1) dX7_reasonOf_22 rfl rfl ?_
        refine Ev.callV (pc := 23) (n := (0, 0)) (ob := 260) (as := [zi gr, zi x]) (st := []) (r) dX7_reasonOf_23 ok_X7_isBelow (lk_X7_115 rfl) ⟨(Nat.le_of_ble_eq_true rfl), (Nat.le_of_ble_eq_true rfl)⟩ (zk_at hR.1 rfl) ⟨by decide, rfl⟩ rfl (Nat.le_of_ble_eq_true rfl) (Nat.le_of_ble_eq_true rfl) ⟨(Nat.le_of_ble_eq_true rfl), (Nat.le_of_ble_eq_true rfl)⟩ ?_
        refine Ev.if_eq (pc := 26) (n := (0, 0)) (tgt := 33) dX7_reasonOf_26 rfl (fun hc3 => ?_) (fun hc3 => absurd hb1 hc3)
        refine Ev.iconst (pc := 33) (n := (0, 0)) dX7_reasonOf_33 ?_
        exact Ev.iret dX7_reasonOf_34 rfl ⟨(Nat.le_of_ble_eq_true rfl), (Nat.le_of_ble_eq_true rfl)⟩
      · skip
        refine ⟨3, hwb 3 (by omega), ?_⟩
        refine Ev.iload_n (pc := 0) (n := (0, 0)) (i := 1) dX7_reasonOf_0 rfl rfl ?_
        refine Ev.if_ne (pc := 1) (n := (0, 0)) (tgt := 8) dX7_reasonOf_1 rfl (fun hc => ?_) (fun hc => absurd hc h1)
        refine Ev.aload_n (pc := 8) (n := (0, 0)) (i := 0) dX7_reasonOf_8 rfl rfl ?_
        refine Ev.iload_n (pc := 9) (n := (0, 0)) (i := 2) dX7_reasonOf_9 rfl rfl ?_
        refine Ev.callV (pc := 10) (n := (0, 0)) (ob := 260) (as := [zi gr]) (st := []) (s_isTaskF hR hn hn24 hk hf) dX7_reasonOf_10 ok_X7_isTask (lk_X7_94 rfl) ⟨(Nat.le_of_ble_eq_true rfl), (Nat.le_of_ble_eq_true rfl)⟩ (zk_at hR.1 rfl) ⟨by decide, rfl⟩ rfl (Nat.le_of_ble_eq_true rfl) (Nat.le_of_ble_eq_true rfl) ⟨(Nat.le_of_ble_eq_true rfl), (Nat.le_of_ble_eq_true rfl)⟩ ?_
        rw [if_neg h2]
        refine Ev.if_eq (pc := 13) (n := (0, 0)) (tgt := 20) dX7_reasonOf_13 rfl (fun hc2 => ?_) (fun hc2 => absurd rfl hc2)
        refine Ev.aload_n (pc := 20) (n := (0, 0)) (i := 0) dX7_reasonOf_20 rfl rfl ?_
        refine Ev.iload_n (pc := 21) (n := (0, 0)) (i := 2) dX7_reasonOf_21 rfl rfl ?_
        refine Ev.iload_n (pc := 22) (n := (0, 0)) (i := 1) dX7_reasonOf_22 rfl rfl ?_
        refine Ev.callV (pc := 23) (n := (0, 0)) (ob := 260) (as := [zi gr, zi x]) (st := []) (r) dX7_reasonOf_23 ok_X7_isBelow (lk_X7_115 rfl) ⟨(Nat.le_of_ble_eq_true rfl), (Nat.le_of_ble_eq_true rfl)⟩ (zk_at hR.1 rfl) ⟨by decide, rfl⟩ rfl (Nat.le_of_ble_eq_true rfl) (Nat.le_of_ble_eq_true rfl) ⟨(Nat.le_of_ble_eq_true rfl), (Nat.le_of_ble_eq_true rfl)⟩ ?_
        refine Ev.if_eq (pc := 26) (n := (0, 0)) (tgt := 33) dX7_reasonOf_26 rfl (fun hc3 => absurd hc3 hb1) (fun hc3 => ?_)
        refine Ev.iconst (pc := 29) (n := (0, 0)) dX7_reasonOf_29 ?_
        refine Ev.goto (pc := 30) (n := (0, 0)) (tgt := 34) dX7_reasonOf_30 rfl ?_
        exact Ev.iret dX7_reasonOf_34 rfl ⟨(Nat.le_of_ble_eq_true rfl), (Nat.le_of_ble_eq_true rfl)⟩
def IsWMove (n : Nat) (f : zF) (x g r w : Int) : Prop := ((zpos n f x = -1 ∨ zpos n f g = -1) ∧ w = 1) ∨ (zpos n f x ≠ -1 ∧ zpos n f g ≠ -1 ∧ ((¬ (0 ≤ r ∧ r ≤ 3) ∧ w = 2) ∨ ((0 ≤ r ∧ r ≤ 3) ∧ ∃ v, IsReason n f x g v ∧ w = if 0 < v then 3 else 0)))
theorem s_whyNotMove {h : zH} {I : Nat → Int → Int} {F : zF} (hR : zRM h) {n : Nat} (hn : I 261 0 = n) (hn24 : n ≤ 24) {dep : Nat → Nat} {B : Int} (hw : WF n F dep B) {x gr r : Int} : ∃ w : Int, IsWMove n F x gr r w ∧ Ev M_X7_whyNotMove 0 [(0, zr (some 260)), (1, zi x), (2, zi gr), (3, zi r)] [] (h.1, zrw I F, h.2.2) (0, 0) (.inl (some (zi w)), (h.1, zrw I F, h.2.2)) := by
  by_cases h1 : zpos n F x = -1
  · skip
    refine ⟨1, Or.inl ⟨Or.inl h1, rfl⟩, ?_⟩
    refine Ev.aload_n (pc := 0) (n := (0, 0)) (i := 0) dX7_whyNotMove_0 rfl rfl ?_
    refine Ev.iload_n (pc := 1) (n := (0, 0)) (i := 1) dX7_whyNotMove_1 rfl rfl ?_
    refine Ev.callV (pc := 2) (n := (0, 0)) (ob := 260) (as := [zi x]) (st := []) (s_findF hR hn hn24) dX7_whyNotMove_2 ok_X7_find (lk_X7_53 rfl) ⟨(Nat.le_of_ble_eq_true rfl), (Nat.le_of_ble_eq_true rfl)⟩ (zk_at hR.1 rfl) ⟨by decide, rfl⟩ rfl (Nat.le_of_ble_eq_true rfl) (Nat.le_of_ble_eq_true rfl) ⟨(Nat.le_of_ble_eq_true rfl), (Nat.le_of_ble_eq_true rfl)⟩ ?_
    refine Ev.iconst (pc := 5) (n := (0, 0)) dX7_whyNotMove_5 ?_
    refine Ev.icmp_eq (pc := 6) (n := (0, 0)) (tgt := 18) dX7_whyNotMove_6 rfl (fun hc => ?_) (fun hc => absurd h1 hc)
    refine Ev.iconst (pc := 18) (n := (0, 0)) dX7_whyNotMove_18 ?_
    exact Ev.iret dX7_whyNotMove_19 rfl ⟨(Nat.le_of_ble_eq_true rfl), (Nat.le_of_ble_eq_true rfl)⟩
  · skip
    by_cases h2 : zpos n F gr = -1
    · skip
      refine ⟨1, Or.inl ⟨Or.inr h2, rfl⟩, ?_⟩
      refine Ev.aload_n (pc := 0) (n := (0, 0)) (i := 0) dX7_whyNotMove_0 rfl rfl ?_
      refine Ev.iload_n (pc := 1) (n := (0, 0)) (i := 1) dX7_whyNotMove_1 rfl rfl ?_
      refine Ev.callV (pc := 2) (n := (0, 0)) (ob := 260) (as := [zi x]) (st := []) (s_findF hR hn hn24) dX7_whyNotMove_2 ok_X7_find (lk_X7_53 rfl) ⟨(Nat.le_of_ble_eq_true rfl), (Nat.le_of_ble_eq_true rfl)⟩ (zk_at hR.1 rfl) ⟨by decide, rfl⟩ rfl (Nat.le_of_ble_eq_true rfl) (Nat.le_of_ble_eq_true rfl) ⟨(Nat.le_of_ble_eq_true rfl), (Nat.le_of_ble_eq_true rfl)⟩ ?_
      refine Ev.iconst (pc := 5) (n := (0, 0)) dX7_whyNotMove_5 ?_
      refine Ev.icmp_eq (pc := 6) (n := (0, 0)) (tgt := 18) dX7_whyNotMove_6 rfl (fun hc => absurd hc h1) (fun hc => ?_)
      refine Ev.aload_n (pc := 9) (n := (0, 0)) (i := 0) dX7_whyNotMove_9 rfl rfl ?_
      refine Ev.iload_n (pc := 10) (n := (0, 0)) (i := 2) dX7_whyNotMove_10 rfl rfl ?_
      refine Ev.callV (pc := 11) (n := (0, 0)) (ob := 260) (as := [zi gr]) (st := []) (s_findF hR hn hn24) dX7_whyNotMove_11 ok_X7_find (lk_X7_53 rfl) ⟨(Nat.le_of_ble_eq_true rfl), (Nat.le_of_ble_eq_true rfl)⟩ (zk_at hR.1 rfl) ⟨by decide, rfl⟩ rfl (Nat.le_of_ble_eq_true rfl) (Nat.le_of_ble_eq_true rfl) ⟨(Nat.le_of_ble_eq_true rfl), (Nat.le_of_ble_eq_true rfl)⟩ ?_
      refine Ev.iconst (pc := 14) (n := (0, 0)) dX7_whyNotMove_14 ?_
      refine Ev.icmp_ne (pc := 15) (n := (0, 0)) (tgt := 20) dX7_whyNotMove_15 rfl (fun hc => absurd h2 hc) (fun hc => ?_)
      refine Ev.iconst (pc := 18) (n := (0, 0)) dX7_whyNotMove_18 ?_
      exact Ev.iret dX7_whyNotMove_19 rfl ⟨(Nat.le_of_ble_eq_true rfl), (Nat.le_of_ble_eq_true rfl)⟩
    · skip
      by_cases h3 : 0 ≤ r ∧ r ≤ 3
      · skip
        have hxn : x ≠ -1 := fun e => by
          rcases zfnd_cases (fun j => F j 0) x n with ⟨e9, -⟩ | ⟨j, hj, -, e2, -⟩
          · exact h1 e9
          · have := hw.num_nn hj
            have e3 : F j 0 = x := e2
            omega
        obtain ⟨v, hv, rr⟩ := s_reasonOf (I := I) hR hn hn24 hw hxn h2
        by_cases h4 : 0 < v
        · skip
          refine ⟨3, Or.inr ⟨h1, h2, Or.inr ⟨h3, v, hv, by rw [if_pos h4]⟩⟩, ?_⟩
          refine Ev.aload_n (pc := 0) (n := (0, 0)) (i := 0) dX7_whyNotMove_0 rfl rfl ?_
          refine Ev.iload_n (pc := 1) (n := (0, 0)) (i := 1) dX7_whyNotMove_1 rfl rfl ?_
          refine Ev.callV (pc := 2) (n := (0, 0)) (ob := 260) (as := [zi x]) (st := []) (s_findF hR hn hn24) dX7_whyNotMove_2 ok_X7_find (lk_X7_53 rfl) ⟨(Nat.le_of_ble_eq_true rfl), (Nat.le_of_ble_eq_true rfl)⟩ (zk_at hR.1 rfl) ⟨by decide, rfl⟩ rfl (Nat.le_of_ble_eq_true rfl) (Nat.le_of_ble_eq_true rfl) ⟨(Nat.le_of_ble_eq_true rfl), (Nat.le_of_ble_eq_true rfl)⟩ ?_
          refine Ev.iconst (pc := 5) (n := (0, 0)) dX7_whyNotMove_5 ?_
          refine Ev.icmp_eq (pc := 6) (n := (0, 0)) (tgt := 18) dX7_whyNotMove_6 rfl (fun hc => absurd hc h1) (fun hc => ?_)
          refine Ev.aload_n (pc := 9) (n := (0, 0)) (i := 0) dX7_whyNotMove_9 rfl rfl ?_
          refine Ev.iload_n (pc := 10) (n := (0, 0)) (i := 2) dX7_whyNotMove_10 rfl rfl ?_
          refine Ev.callV (pc := 11) (n := (0, 0)) (ob := 260) (as := [zi gr]) (st := []) (s_findF hR hn hn24) dX7_whyNotMove_11 ok_X7_find (lk_X7_53 rfl) ⟨(Nat.le_of_ble_eq_true rfl), (Nat.le_of_ble_eq_true rfl)⟩ (zk_at hR.1 rfl) ⟨by decide, rfl⟩ rfl (Nat.le_of_ble_eq_true rfl) (Nat.le_of_ble_eq_true rfl) ⟨(Nat.le_of_ble_eq_true rfl), (Nat.le_of_ble_eq_true rfl)⟩ ?_
          refine Ev.iconst (pc := 14) (n := (0, 0)) dX7_whyNotMove_14 ?_
          refine Ev.icmp_ne (pc := 15) (n := (0, 0)) (tgt := 20) dX7_whyNotMove_15 rfl (fun hc => ?_) (fun hc => absurd hc h2)
          refine Ev.iload_n (pc := 20) (n := (0, 0)) (i := 3) dX7_whyNotMove_20 rfl rfl ?_
          refine Ev.iconst (pc := 21) (n := (0, 0)) dX7_whyNotMove_21 ?_
          refine Ev.iconst (pc := 22) (n := (0, 0)) dX7_whyNotMove_22 ?_
          refine Ev.callS (pc := 23) (n := (0, 0)) (as := [zi r, zi 0, zi 3]) (st := []) (s_in (h.1, zrw I F, h.2.2) r 0 3) dX7_whyNotMove_23 ok_X7_in (lk_X7_91 rfl) ⟨(Nat.le_of_ble_eq_true rfl), (Nat.le_of_ble_eq_true rfl)⟩ rfl (Nat.le_of_ble_eq_true rfl) (Nat.le_of_ble_eq_true rfl) ⟨(Nat.le_of_ble_eq_true rfl), (Nat.le_of_ble_eq_true rfl)⟩ ?_
          rw [if_pos h3]
          refine Ev.if_ne (pc := 26) (n := (0, 0)) (tgt := 33) dX7_whyNotMove_26 rfl (fun hc2 => ?_) (fun hc2 => absurd hc2 (by decide))
          refine Ev.aload_n (pc := 33) (n := (0, 0)) (i := 0) dX7_whyNotMove_33 rfl rfl ?_
          refine Ev.iload_n (pc := 34) (n := (0, 0)) (i := 1) dX7_whyNotMove_34 rfl rfl ?_
          refine Ev.iload_n (pc := 35) (n := (0, 0)) (i := 2) dX7_whyNotMove_35 rfl rfl ?_
          refine Ev.callV (pc := 36) (n := (0, 0)) (ob := 260) (as := [zi x, zi gr]) (st := []) (rr) dX7_whyNotMove_36 ok_X7_reasonOf (lk_X7_119 rfl) ⟨(Nat.le_of_ble_eq_true rfl), (Nat.le_of_ble_eq_true rfl)⟩ (zk_at hR.1 rfl) ⟨by decide, rfl⟩ rfl (Nat.le_of_ble_eq_true rfl) (Nat.le_of_ble_eq_true rfl) ⟨(Nat.le_of_ble_eq_true rfl), (Nat.le_of_ble_eq_true rfl)⟩ ?_
          refine Ev.if_le (pc := 39) (n := (0, 0)) (tgt := 46) dX7_whyNotMove_39 rfl (fun hc3 => absurd hc3 (by omega)) (fun hc3 => ?_)
          refine Ev.iconst (pc := 42) (n := (0, 0)) dX7_whyNotMove_42 ?_
          refine Ev.goto (pc := 43) (n := (0, 0)) (tgt := 47) dX7_whyNotMove_43 rfl ?_
          exact Ev.iret dX7_whyNotMove_47 rfl ⟨(Nat.le_of_ble_eq_true rfl), (Nat.le_of_ble_eq_true rfl)⟩
        · skip
          refine ⟨0, Or.inr ⟨h1, h2, Or.inr ⟨h3, v, hv, by rw [if_neg h4]⟩⟩, ?_⟩
          refine Ev.aload_n (pc := 0) (n := (0, 0)) (i := 0) dX7_whyNotMove_0 rfl rfl ?_
          refine Ev.iload_n (pc := 1) (n := (0, 0)) (i := 1) dX7_whyNotMove_1 rfl rfl ?_
          refine Ev.callV (pc := 2) (n := (0, 0)) (ob := 260) (as := [zi x]) (st := []) (s_findF hR hn hn24) dX7_whyNotMove_2 ok_X7_find (lk_X7_53 rfl) ⟨(Nat.le_of_ble_eq_true rfl), (Nat.le_of_ble_eq_true rfl)⟩ (zk_at hR.1 rfl) ⟨by decide, rfl⟩ rfl (Nat.le_of_ble_eq_true rfl) (Nat.le_of_ble_eq_true rfl) ⟨(Nat.le_of_ble_eq_true rfl), (Nat.le_of_ble_eq_true rfl)⟩ ?_
          refine Ev.iconst (pc := 5) (n := (0, 0)) dX7_whyNotMove_5 ?_
          refine Ev.icmp_eq (pc := 6) (n := (0, 0)) (tgt := 18) dX7_whyNotMove_6 rfl (fun hc => absurd hc h1) (fun hc => ?_)
          refine Ev.aload_n (pc := 9) (n := (0, 0)) (i := 0) dX7_whyNotMove_9 rfl rfl ?_
          refine Ev.iload_n (pc := 10) (n := (0, 0)) (i := 2) dX7_whyNotMove_10 rfl rfl ?_
          refine Ev.callV (pc := 11) (n := (0, 0)) (ob := 260) (as := [zi gr]) (st := []) (s_findF hR hn hn24) dX7_whyNotMove_11 ok_X7_find (lk_X7_53 rfl) ⟨(Nat.le_of_ble_eq_true rfl), (Nat.le_of_ble_eq_true rfl)⟩ (zk_at hR.1 rfl) ⟨by decide, rfl⟩ rfl (Nat.le_of_ble_eq_true rfl) (Nat.le_of_ble_eq_true rfl) ⟨(Nat.le_of_ble_eq_true rfl), (Nat.le_of_ble_eq_true rfl)⟩ ?_
          refine Ev.iconst (pc := 14) (n := (0, 0)) dX7_whyNotMove_14 ?_
          refine Ev.icmp_ne (pc := 15) (n := (0, 0)) (tgt := 20) dX7_whyNotMove_15 rfl (fun hc => ?_) (fun hc => absurd hc h2)
          refine Ev.iload_n (pc := 20) (n := (0, 0)) (i := 3) dX7_whyNotMove_20 rfl rfl ?_
          refine Ev.iconst (pc := 21) (n := (0, 0)) dX7_whyNotMove_21 ?_
          refine Ev.iconst (pc := 22) (n := (0, 0)) dX7_whyNotMove_22 ?_
          refine Ev.callS (pc := 23) (n := (0, 0)) (as := [zi r, zi 0, zi 3]) (st := []) (s_in (h.1, zrw I F, h.2.2) r 0 3) dX7_whyNotMove_23 ok_X7_in (lk_X7_91 rfl) ⟨(Nat.le_of_ble_eq_true rfl), (Nat.le_of_ble_eq_true rfl)⟩ rfl (Nat.le_of_ble_eq_true rfl) (Nat.le_of_ble_eq_true rfl) ⟨(Nat.le_of_ble_eq_true rfl), (Nat.le_of_ble_eq_true rfl)⟩ ?_
          rw [if_pos h3]
          refine Ev.if_ne (pc := 26) (n := (0, 0)) (tgt := 33) dX7_whyNotMove_26 rfl (fun hc2 => ?_) (fun hc2 => absurd hc2 (by decide))
          refine Ev.aload_n (pc := 33) (n := (0, 0)) (i := 0) dX7_whyNotMove_33 rfl rfl ?_
          refine Ev.iload_n (pc := 34) (n := (0, 0)) (i := 1) dX7_whyNotMove_34 rfl rfl ?_
          refine Ev.iload_n (pc := 35) (n := (0, 0)) (i := 2) dX7_whyNotMove_35 rfl rfl ?_
          refine Ev.callV (pc := 36) (n := (0, 0)) (ob := 260) (as := [zi x, zi gr]) (st := []) (rr) dX7_whyNotMove_36 ok_X7_reasonOf (lk_X7_119 rfl) ⟨(Nat.le_of_ble_eq_true rfl), (Nat.le_of_ble_eq_true rfl)⟩ (zk_at hR.1 rfl) ⟨by decide, rfl⟩ rfl (Nat.le_of_ble_eq_true rfl) (Nat.le_of_ble_eq_true rfl) ⟨(Nat.le_of_ble_eq_true rfl), (Nat.le_of_ble_eq_true rfl)⟩ ?_
          refine Ev.if_le (pc := 39) (n := (0, 0)) (tgt := 46) dX7_whyNotMove_39 rfl (fun hc3 => ?_) (fun hc3 => absurd hc3 (by omega))
          refine Ev.iconst (pc := 46) (n := (0, 0)) dX7_whyNotMove_46 ?_
          exact Ev.iret dX7_whyNotMove_47 rfl ⟨(Nat.le_of_ble_eq_true rfl), (Nat.le_of_ble_eq_true rfl)⟩
      · skip
        refine ⟨2, Or.inr ⟨h1, h2, Or.inl ⟨h3, rfl⟩⟩, ?_⟩
        refine Ev.aload_n (pc := 0) (n := (0, 0)) (i := 0) dX7_whyNotMove_0 rfl rfl ?_
        refine Ev.iload_n (pc := 1) (n := (0, 0)) (i := 1) dX7_whyNotMove_1 rfl rfl ?_
        refine Ev.callV (pc := 2) (n := (0, 0)) (ob := 260) (as := [zi x]) (st := []) (s_findF hR hn hn24) dX7_whyNotMove_2 ok_X7_find (lk_X7_53 rfl) ⟨(Nat.le_of_ble_eq_true rfl), (Nat.le_of_ble_eq_true rfl)⟩ (zk_at hR.1 rfl) ⟨by decide, rfl⟩ rfl (Nat.le_of_ble_eq_true rfl) (Nat.le_of_ble_eq_true rfl) ⟨(Nat.le_of_ble_eq_true rfl), (Nat.le_of_ble_eq_true rfl)⟩ ?_
        refine Ev.iconst (pc := 5) (n := (0, 0)) dX7_whyNotMove_5 ?_
        refine Ev.icmp_eq (pc := 6) (n := (0, 0)) (tgt := 18) dX7_whyNotMove_6 rfl (fun hc => absurd hc h1) (fun hc => ?_)
        refine Ev.aload_n (pc := 9) (n := (0, 0)) (i := 0) dX7_whyNotMove_9 rfl rfl ?_
        refine Ev.iload_n (pc := 10) (n := (0, 0)) (i := 2) dX7_whyNotMove_10 rfl rfl ?_
        refine Ev.callV (pc := 11) (n := (0, 0)) (ob := 260) (as := [zi gr]) (st := []) (s_findF hR hn hn24) dX7_whyNotMove_11 ok_X7_find (lk_X7_53 rfl) ⟨(Nat.le_of_ble_eq_true rfl), (Nat.le_of_ble_eq_true rfl)⟩ (zk_at hR.1 rfl) ⟨by decide, rfl⟩ rfl (Nat.le_of_ble_eq_true rfl) (Nat.le_of_ble_eq_true rfl) ⟨(Nat.le_of_ble_eq_true rfl), (Nat.le_of_ble_eq_true rfl)⟩ ?_
        refine Ev.iconst (pc := 14) (n := (0, 0)) dX7_whyNotMove_14 ?_
        refine Ev.icmp_ne (pc := 15) (n := (0, 0)) (tgt := 20) dX7_whyNotMove_15 rfl (fun hc => ?_) (fun hc => absurd hc h2)
        refine Ev.iload_n (pc := 20) (n := (0, 0)) (i := 3) dX7_whyNotMove_20 rfl rfl ?_
        refine Ev.iconst (pc := 21) (n := (0, 0)) dX7_whyNotMove_21 ?_
        refine Ev.iconst (pc := 22) (n := (0, 0)) dX7_whyNotMove_22 ?_
        refine Ev.callS (pc := 23) (n := (0, 0)) (as := [zi r, zi 0, zi 3]) (st := []) (s_in (h.1, zrw I F, h.2.2) r 0 3) dX7_whyNotMove_23 ok_X7_in (lk_X7_91 rfl) ⟨(Nat.le_of_ble_eq_true rfl), (Nat.le_of_ble_eq_true rfl)⟩ rfl (Nat.le_of_ble_eq_true rfl) (Nat.le_of_ble_eq_true rfl) ⟨(Nat.le_of_ble_eq_true rfl), (Nat.le_of_ble_eq_true rfl)⟩ ?_
        rw [if_neg h3]
        refine Ev.if_ne (pc := 26) (n := (0, 0)) (tgt := 33) dX7_whyNotMove_26 rfl (fun hc2 => absurd rfl hc2) (fun hc2 => ?_)
        refine Ev.iconst (pc := 29) (n := (0, 0)) dX7_whyNotMove_29 ?_
        refine Ev.goto (pc := 30) (n := (0, 0)) (tgt := 47) dX7_whyNotMove_30 rfl ?_
        exact Ev.iret dX7_whyNotMove_47 rfl ⟨(Nat.le_of_ble_eq_true rfl), (Nat.le_of_ble_eq_true rfl)⟩
/-- the nodes of the first m places behind a node in its row come a place ahead -/
def flv (f : zF) (k m : Int) : zF := fun o w => if w = 4 ∧ o < m ∧ (f o 2 = f k 2 ∧ f o 3 = f k 3) ∧ f k 4 < f o 4 then f o 4 - 1 else f o w
theorem flv_ne (f : zF) (k m o : Int) {w : Int} (h : w ≠ 4) : flv f k m o w = f o w := if_neg (fun g => h g.1)
theorem flv_ge (f : zF) (k : Int) {m o w : Int} (h : m ≤ o) : flv f k m o w = f o w := if_neg (fun g => by omega)
theorem flv_self (f : zF) (k m w : Int) : flv f k m k w = f k w := if_neg (fun g => by omega)
theorem flv_0 (f : zF) (k o w : Int) (h : 0 ≤ o) : flv f k 0 o w = f o w := flv_ge f k h
theorem flv_skip (f : zF) {k m : Int} (h : ¬ ((f m 2 = f k 2 ∧ f m 3 = f k 3) ∧ f k 4 < f m 4)) : flv f k (m + 1) = flv f k m := by
  funext o w
  unfold flv
  by_cases e : o = m
  · subst e; rw [if_neg (fun g => h g.2.2), if_neg (fun g => h g.2.2)]
  · by_cases g : w = 4 ∧ o < m ∧ (f o 2 = f k 2 ∧ f o 3 = f k 3) ∧ f k 4 < f o 4
    · rw [if_pos g, if_pos ⟨g.1, by omega, g.2.2⟩]
    · rw [if_neg g, if_neg (fun q => g ⟨q.1, by omega, q.2.2⟩)]
theorem flv_step (f : zF) {k m : Int} (h : (f m 2 = f k 2 ∧ f m 3 = f k 3) ∧ f k 4 < f m 4) : fup (flv f k m) m 4 (f m 4 - 1) = flv f k (m + 1) := by
  funext o w
  unfold fup
  by_cases e : o = m ∧ w = 4
  · rw [if_pos e]
    unfold flv
    rw [e.1, if_pos ⟨e.2, by omega, h⟩]
  · rw [if_neg e]
    unfold flv
    by_cases g : w = 4 ∧ o < m ∧ (f o 2 = f k 2 ∧ f o 3 = f k 3) ∧ f k 4 < f o 4
    · rw [if_pos g, if_pos ⟨g.1, by omega, g.2.2⟩]
    · rw [if_neg g, if_neg (fun q => g ⟨q.1, by omega, q.2.2⟩)]
def fleave (n : Nat) (f : zF) (k : Int) : zF := fup (flv f k n) k 2 (-1)
theorem s_leaves_loop {h : zH} {I : Nat → Int → Int} {F : zF} (hR : zRM h) {n : Nat} (hn : I 261 0 = n) (hn24 : n ≤ 24) {k : Nat} (hk : k < n) (hpl : ∀ o : Nat, o < n → -1 ≤ F o 4 ∧ F o 4 ≤ 100) : ∀ (j o : Nat), o ≤ n → n - o = j → Ev M_X7_leaves 17 [(0, zr (some 260)), (1, zi (k : Int)), (2, zi (F k 2)), (3, zi (F k 3)), (4, zi (o : Int))] [] (h.1, zrw I (flv F k o), h.2.2) (0, 0) (.inl none, (h.1, zrw I (fleave n F k), h.2.2)) := by
  intro j
  induction j with
  | zero =>
    intro o ho hj
    have hon : o = n := by omega
    subst hon
    refine Ev.iload (pc := 17) (n := (0, 0)) dX7_leaves_17 rfl ?_
    refine Ev.aload_n (pc := 19) (n := (0, 0)) (i := 0) dX7_leaves_19 rfl rfl ?_
    refine Ev.gR (pc := 20) (n := (0, 0)) (r := (some 261)) dX7_leaves_20 fl_X7_7 (zk_at hR.1 rfl) rfl hR.2.1 ?_
    refine Ev.iconst (pc := 23) (n := (0, 0)) dX7_leaves_23 ?_
    refine Ev.ia (pc := 24) (n := (0, 0)) (x := (o : Int)) dX7_leaves_24 (zk_at hR.1 rfl) (by omega) (by omega) ((zrw_x I (flv F k o) (by omega)).trans hn) ?_
    refine Ev.icmp_ge (pc := 25) (n := (0, 0)) (tgt := 77) dX7_leaves_25 rfl (fun hc => ?_) (fun hc => absurd hc (by omega))
    refine Ev.aload_n (pc := 77) (n := (0, 0)) (i := 0) dX7_leaves_77 rfl rfl ?_
    refine Ev.iload_n (pc := 78) (n := (0, 0)) (i := 1) dX7_leaves_78 rfl rfl ?_
    refine Ev.iconst (pc := 79) (n := (0, 0)) dX7_leaves_79 ?_
    refine Ev.iconst (pc := 80) (n := (0, 0)) dX7_leaves_80 ?_
    refine Ev.callV (pc := 81) (n := (0, 0)) (ob := 260) (as := [zi (k : Int), zi 2, zi (-1)]) (st := []) (s_setF hR ⟨by omega, by omega⟩ ⟨by decide, by decide⟩) dX7_leaves_81 ok_X7_set (lk_X7_100 rfl) ⟨(Nat.le_of_ble_eq_true rfl), (Nat.le_of_ble_eq_true rfl)⟩ (zk_at hR.1 rfl) ⟨by decide, rfl⟩ rfl (Nat.le_of_ble_eq_true rfl) (Nat.le_of_ble_eq_true rfl) ⟨(Nat.le_of_ble_eq_true rfl), (Nat.le_of_ble_eq_true rfl)⟩ ?_
    exact Ev.vret dX7_leaves_84 rfl ⟨(Nat.le_of_ble_eq_true rfl), (Nat.le_of_ble_eq_true rfl)⟩
  | succ j ih =>
    intro o ho hj
    have k9 := ih (o + 1) (by omega) (by omega)
    have hp1 := hpl o (by omega)
    have a2 : flv F k o o 2 = F o 2 := flv_ne _ _ _ _ (by decide)
    have a3 : flv F k o o 3 = F o 3 := flv_ne _ _ _ _ (by decide)
    have a4 : flv F k o o 4 = F o 4 := flv_ge _ _ (by omega)
    have b4 : flv F k o k 4 = F k 4 := flv_self _ _ _ _
    refine Ev.iload (pc := 17) (n := (0, 0)) dX7_leaves_17 rfl ?_
    refine Ev.aload_n (pc := 19) (n := (0, 0)) (i := 0) dX7_leaves_19 rfl rfl ?_
    refine Ev.gR (pc := 20) (n := (0, 0)) (r := (some 261)) dX7_leaves_20 fl_X7_7 (zk_at hR.1 rfl) rfl hR.2.1 ?_
    refine Ev.iconst (pc := 23) (n := (0, 0)) dX7_leaves_23 ?_
    refine Ev.ia (pc := 24) (n := (0, 0)) (x := (n : Int)) dX7_leaves_24 (zk_at hR.1 rfl) (by omega) (by omega) ((zrw_x I (flv F k o) (by omega)).trans hn) ?_
    refine Ev.icmp_ge (pc := 25) (n := (0, 0)) (tgt := 77) dX7_leaves_25 rfl (fun hc => absurd hc (by omega)) (fun hc => ?_)
    refine Ev.aload_n (pc := 28) (n := (0, 0)) (i := 0) dX7_leaves_28 rfl rfl ?_
    refine Ev.iload (pc := 29) (n := (0, 0)) dX7_leaves_29 rfl ?_
    refine Ev.iload_n (pc := 31) (n := (0, 0)) (i := 2) dX7_leaves_31 rfl rfl ?_
    refine Ev.iload_n (pc := 32) (n := (0, 0)) (i := 3) dX7_leaves_32 rfl rfl ?_
    refine Ev.callV (pc := 33) (n := (0, 0)) (ob := 260) (as := [zi (o : Int), zi (F (k : Int) 2), zi (F (k : Int) 3)]) (st := []) (s_isInF hR ⟨by omega, by omega⟩) dX7_leaves_33 ok_X7_isIn (lk_X7_64 rfl) ⟨(Nat.le_of_ble_eq_true rfl), (Nat.le_of_ble_eq_true rfl)⟩ (zk_at hR.1 rfl) ⟨by decide, rfl⟩ rfl (Nat.le_of_ble_eq_true rfl) (Nat.le_of_ble_eq_true rfl) ⟨(Nat.le_of_ble_eq_true rfl), (Nat.le_of_ble_eq_true rfl)⟩ ?_
    rw [a2, a3]
    by_cases hin : F o 2 = F k 2 ∧ F o 3 = F k 3
    · skip
      rw [if_pos hin]
      refine Ev.if_eq (pc := 36) (n := (0, 0)) (tgt := 71) dX7_leaves_36 rfl (fun hc => absurd hc (by decide)) (fun hc => ?_)
      refine Ev.aload_n (pc := 39) (n := (0, 0)) (i := 0) dX7_leaves_39 rfl rfl ?_
      refine Ev.iload (pc := 40) (n := (0, 0)) dX7_leaves_40 rfl ?_
      refine Ev.iconst (pc := 42) (n := (0, 0)) dX7_leaves_42 ?_
      refine Ev.callV (pc := 43) (n := (0, 0)) (ob := 260) (as := [zi (o : Int), zi 4]) (st := []) (s_ofF hR ⟨by omega, by omega⟩ ⟨by decide, by decide⟩) dX7_leaves_43 ok_X7_of (lk_X7_49 rfl) ⟨(Nat.le_of_ble_eq_true rfl), (Nat.le_of_ble_eq_true rfl)⟩ (zk_at hR.1 rfl) ⟨by decide, rfl⟩ rfl (Nat.le_of_ble_eq_true rfl) (Nat.le_of_ble_eq_true rfl) ⟨(Nat.le_of_ble_eq_true rfl), (Nat.le_of_ble_eq_true rfl)⟩ ?_
      rw [a4]
      refine Ev.aload_n (pc := 46) (n := (0, 0)) (i := 0) dX7_leaves_46 rfl rfl ?_
      refine Ev.iload_n (pc := 47) (n := (0, 0)) (i := 1) dX7_leaves_47 rfl rfl ?_
      refine Ev.iconst (pc := 48) (n := (0, 0)) dX7_leaves_48 ?_
      refine Ev.callV (pc := 49) (n := (0, 0)) (ob := 260) (as := [zi (k : Int), zi 4]) (st := [zi (F (o : Int) 4)]) (s_ofF hR ⟨by omega, by omega⟩ ⟨by decide, by decide⟩) dX7_leaves_49 ok_X7_of (lk_X7_49 rfl) ⟨(Nat.le_of_ble_eq_true rfl), (Nat.le_of_ble_eq_true rfl)⟩ (zk_at hR.1 rfl) ⟨by decide, rfl⟩ rfl (Nat.le_of_ble_eq_true rfl) (Nat.le_of_ble_eq_true rfl) ⟨(Nat.le_of_ble_eq_true rfl), (Nat.le_of_ble_eq_true rfl)⟩ ?_
      rw [b4]
      refine Ev.icmp_le (pc := 52) (n := (0, 0)) (tgt := 71) dX7_leaves_52 rfl (fun hd => ?_) (fun hd => ?_)
      · skip
        refine Ev.iinc (pc := 71) (n := (0, 0)) (L' := [(4, zi ((o : Int) + 1)), (0, zr (some 260)), (1, zi (k : Int)), (2, zi (F (k : Int) 2)), (3, zi (F (k : Int) 3))]) dX7_leaves_71 rfl (Nat.le_of_ble_eq_true rfl) ⟨by omega, by omega⟩ rfl ?_
        refine Ev.goto (pc := 74) (n := (0, 0)) (tgt := 17) dX7_leaves_74 rfl ?_
        refine Ev.perm [1, 2, 3, 4, 0] rfl ?_
        rw [show ((o + 1 : Nat) : Int) = (o : Int) + 1 by omega, flv_skip F (fun g9 => absurd g9.2 (by omega))] at k9
        exact k9
      · skip
        refine Ev.aload_n (pc := 55) (n := (0, 0)) (i := 0) dX7_leaves_55 rfl rfl ?_
        refine Ev.iload (pc := 56) (n := (0, 0)) dX7_leaves_56 rfl ?_
        refine Ev.iconst (pc := 58) (n := (0, 0)) dX7_leaves_58 ?_
        refine Ev.aload_n (pc := 59) (n := (0, 0)) (i := 0) dX7_leaves_59 rfl rfl ?_
        refine Ev.iload (pc := 60) (n := (0, 0)) dX7_leaves_60 rfl ?_
        refine Ev.iconst (pc := 62) (n := (0, 0)) dX7_leaves_62 ?_
        refine Ev.callV (pc := 63) (n := (0, 0)) (ob := 260) (as := [zi (o : Int), zi 4]) (st := [zi 4, zi (o : Int), zr (some 260)]) (s_ofF hR ⟨by omega, by omega⟩ ⟨by decide, by decide⟩) dX7_leaves_63 ok_X7_of (lk_X7_49 rfl) ⟨(Nat.le_of_ble_eq_true rfl), (Nat.le_of_ble_eq_true rfl)⟩ (zk_at hR.1 rfl) ⟨by decide, rfl⟩ rfl (Nat.le_of_ble_eq_true rfl) (Nat.le_of_ble_eq_true rfl) ⟨(Nat.le_of_ble_eq_true rfl), (Nat.le_of_ble_eq_true rfl)⟩ ?_
        rw [a4]
        refine Ev.iconst (pc := 66) (n := (0, 0)) dX7_leaves_66 ?_
        refine Ev.isub (pc := 67) (n := (0, 0)) dX7_leaves_67 ⟨by omega, by omega⟩ ?_
        refine Ev.callV (pc := 68) (n := (0, 0)) (ob := 260) (as := [zi (o : Int), zi 4, zi ((F (o : Int) 4) - 1)]) (st := []) (s_setF hR ⟨by omega, by omega⟩ ⟨by decide, by decide⟩) dX7_leaves_68 ok_X7_set (lk_X7_100 rfl) ⟨(Nat.le_of_ble_eq_true rfl), (Nat.le_of_ble_eq_true rfl)⟩ (zk_at hR.1 rfl) ⟨by decide, rfl⟩ rfl (Nat.le_of_ble_eq_true rfl) (Nat.le_of_ble_eq_true rfl) ⟨(Nat.le_of_ble_eq_true rfl), (Nat.le_of_ble_eq_true rfl)⟩ ?_
        refine Ev.iinc (pc := 71) (n := (0, 0)) (L' := [(4, zi ((o : Int) + 1)), (0, zr (some 260)), (1, zi (k : Int)), (2, zi (F (k : Int) 2)), (3, zi (F (k : Int) 3))]) dX7_leaves_71 rfl (Nat.le_of_ble_eq_true rfl) ⟨by omega, by omega⟩ rfl ?_
        refine Ev.goto (pc := 74) (n := (0, 0)) (tgt := 17) dX7_leaves_74 rfl ?_
        refine Ev.perm [1, 2, 3, 4, 0] rfl ?_
        rw [show ((o + 1 : Nat) : Int) = (o : Int) + 1 by omega, ← flv_step F ⟨hin, by omega⟩] at k9
        exact k9
    · skip
      rw [if_neg hin]
      refine Ev.if_eq (pc := 36) (n := (0, 0)) (tgt := 71) dX7_leaves_36 rfl (fun hc => ?_) (fun hc => absurd rfl hc)
      refine Ev.iinc (pc := 71) (n := (0, 0)) (L' := [(4, zi ((o : Int) + 1)), (0, zr (some 260)), (1, zi (k : Int)), (2, zi (F (k : Int) 2)), (3, zi (F (k : Int) 3))]) dX7_leaves_71 rfl (Nat.le_of_ble_eq_true rfl) ⟨by omega, by omega⟩ rfl ?_
      refine Ev.goto (pc := 74) (n := (0, 0)) (tgt := 17) dX7_leaves_74 rfl ?_
      refine Ev.perm [1, 2, 3, 4, 0] rfl ?_
      rw [show ((o + 1 : Nat) : Int) = (o : Int) + 1 by omega, flv_skip F (fun g9 => absurd g9.1 hin)] at k9
      exact k9
theorem s_leaves {h : zH} {I : Nat → Int → Int} {F : zF} (hR : zRM h) {n : Nat} (hn : I 261 0 = n) (hn24 : n ≤ 24) {k : Nat} (hk : k < n) (hpl : ∀ o : Nat, o < n → -1 ≤ F o 4 ∧ F o 4 ≤ 100) : Ev M_X7_leaves 0 [(0, zr (some 260)), (1, zi (k : Int))] [] (h.1, zrw I F, h.2.2) (0, 0) (.inl none, (h.1, zrw I (fleave n F k), h.2.2)) := by
  refine Ev.aload_n (pc := 0) (n := (0, 0)) (i := 0) dX7_leaves_0 rfl rfl ?_
  refine Ev.iload_n (pc := 1) (n := (0, 0)) (i := 1) dX7_leaves_1 rfl rfl ?_
  refine Ev.iconst (pc := 2) (n := (0, 0)) dX7_leaves_2 ?_
  refine Ev.callV (pc := 3) (n := (0, 0)) (ob := 260) (as := [zi (k : Int), zi 2]) (st := []) (s_ofF hR ⟨by omega, by omega⟩ ⟨by decide, by decide⟩) dX7_leaves_3 ok_X7_of (lk_X7_49 rfl) ⟨(Nat.le_of_ble_eq_true rfl), (Nat.le_of_ble_eq_true rfl)⟩ (zk_at hR.1 rfl) ⟨by decide, rfl⟩ rfl (Nat.le_of_ble_eq_true rfl) (Nat.le_of_ble_eq_true rfl) ⟨(Nat.le_of_ble_eq_true rfl), (Nat.le_of_ble_eq_true rfl)⟩ ?_
  refine Ev.istore_n (pc := 6) (n := (0, 0)) (i := 2) (L' := [(2, zi (F (k : Int) 2)), (0, zr (some 260)), (1, zi (k : Int))]) dX7_leaves_6 rfl (Nat.le_of_ble_eq_true rfl) rfl ?_
  refine Ev.aload_n (pc := 7) (n := (0, 0)) (i := 0) dX7_leaves_7 rfl rfl ?_
  refine Ev.iload_n (pc := 8) (n := (0, 0)) (i := 1) dX7_leaves_8 rfl rfl ?_
  refine Ev.iconst (pc := 9) (n := (0, 0)) dX7_leaves_9 ?_
  refine Ev.callV (pc := 10) (n := (0, 0)) (ob := 260) (as := [zi (k : Int), zi 3]) (st := []) (s_ofF hR ⟨by omega, by omega⟩ ⟨by decide, by decide⟩) dX7_leaves_10 ok_X7_of (lk_X7_49 rfl) ⟨(Nat.le_of_ble_eq_true rfl), (Nat.le_of_ble_eq_true rfl)⟩ (zk_at hR.1 rfl) ⟨by decide, rfl⟩ rfl (Nat.le_of_ble_eq_true rfl) (Nat.le_of_ble_eq_true rfl) ⟨(Nat.le_of_ble_eq_true rfl), (Nat.le_of_ble_eq_true rfl)⟩ ?_
  refine Ev.istore_n (pc := 13) (n := (0, 0)) (i := 3) (L' := [(3, zi (F (k : Int) 3)), (2, zi (F (k : Int) 2)), (0, zr (some 260)), (1, zi (k : Int))]) dX7_leaves_13 rfl (Nat.le_of_ble_eq_true rfl) rfl ?_
  refine Ev.iconst (pc := 14) (n := (0, 0)) dX7_leaves_14 ?_
  refine Ev.istore (pc := 15) (n := (0, 0)) (i := 4) (L' := [(4, zi 0), (3, zi (F (k : Int) 3)), (2, zi (F (k : Int) 2)), (0, zr (some 260)), (1, zi (k : Int))]) dX7_leaves_15 (Nat.le_of_ble_eq_true rfl) rfl ?_
  refine Ev.perm [3, 4, 2, 1, 0] rfl ?_
  have k9 := s_leaves_loop (I := I) hR hn hn24 hk hpl n 0 (by omega) (by omega)
  rw [show zrw I (flv F k ((0 : Nat) : Int)) = zrw I F from zrw_congr (fun a b h1 _ _ _ => flv_0 F k a b h1)] at k9
  exact k9
def fmove (n : Nat) (f : zF) (k g r : Int) : zF := fup (fup (fup (fleave n f k) k 2 g) k 3 r) k 4 (mcc n (fleave n f k) g r)
theorem s_moves {h : zH} {I : Nat → Int → Int} {F : zF} (hR : zRM h) {n : Nat} (hn : I 261 0 = n) (hn24 : n ≤ 24) {k : Nat} (hk : k < n) (hpl : ∀ o : Nat, o < n → -1 ≤ F o 4 ∧ F o 4 ≤ 100) {x gr r : Int} (hf : zpos n F x = k) : Ev M_X7_moves 0 [(0, zr (some 260)), (1, zi x), (2, zi gr), (3, zi r)] [] (h.1, zrw I F, h.2.2) (0, 0) (.inl (some (zi (mcc n (fleave n F k) gr r))), (h.1, zrw I (fmove n F k gr r), h.2.2)) := by
  refine Ev.aload_n (pc := 0) (n := (0, 0)) (i := 0) dX7_moves_0 rfl rfl ?_
  refine Ev.iload_n (pc := 1) (n := (0, 0)) (i := 1) dX7_moves_1 rfl rfl ?_
  refine Ev.callV (pc := 2) (n := (0, 0)) (ob := 260) (as := [zi x]) (st := []) (s_findF hR hn hn24) dX7_moves_2 ok_X7_find (lk_X7_53 rfl) ⟨(Nat.le_of_ble_eq_true rfl), (Nat.le_of_ble_eq_true rfl)⟩ (zk_at hR.1 rfl) ⟨by decide, rfl⟩ rfl (Nat.le_of_ble_eq_true rfl) (Nat.le_of_ble_eq_true rfl) ⟨(Nat.le_of_ble_eq_true rfl), (Nat.le_of_ble_eq_true rfl)⟩ ?_
  rw [hf]
  refine Ev.istore (pc := 5) (n := (0, 0)) (i := 4) (L' := [(4, zi (k : Int)), (0, zr (some 260)), (1, zi x), (2, zi gr), (3, zi r)]) dX7_moves_5 (Nat.le_of_ble_eq_true rfl) rfl ?_
  refine Ev.aload_n (pc := 7) (n := (0, 0)) (i := 0) dX7_moves_7 rfl rfl ?_
  refine Ev.iload (pc := 8) (n := (0, 0)) dX7_moves_8 rfl ?_
  refine Ev.callV (pc := 10) (n := (0, 0)) (ob := 260) (as := [zi (k : Int)]) (st := []) (s_leaves hR hn hn24 hk hpl) dX7_moves_10 ok_X7_leaves (lk_X7_122 rfl) ⟨(Nat.le_of_ble_eq_true rfl), (Nat.le_of_ble_eq_true rfl)⟩ (zk_at hR.1 rfl) ⟨by decide, rfl⟩ rfl (Nat.le_of_ble_eq_true rfl) (Nat.le_of_ble_eq_true rfl) ⟨(Nat.le_of_ble_eq_true rfl), (Nat.le_of_ble_eq_true rfl)⟩ ?_
  refine Ev.aload_n (pc := 13) (n := (0, 0)) (i := 0) dX7_moves_13 rfl rfl ?_
  refine Ev.iload_n (pc := 14) (n := (0, 0)) (i := 2) dX7_moves_14 rfl rfl ?_
  refine Ev.iload_n (pc := 15) (n := (0, 0)) (i := 3) dX7_moves_15 rfl rfl ?_
  refine Ev.callV (pc := 16) (n := (0, 0)) (ob := 260) (as := [zi gr, zi r]) (st := []) (s_childrenOfF hR hn hn24) dX7_moves_16 ok_X7_childrenOf (lk_X7_97 rfl) ⟨(Nat.le_of_ble_eq_true rfl), (Nat.le_of_ble_eq_true rfl)⟩ (zk_at hR.1 rfl) ⟨by decide, rfl⟩ rfl (Nat.le_of_ble_eq_true rfl) (Nat.le_of_ble_eq_true rfl) ⟨(Nat.le_of_ble_eq_true rfl), (Nat.le_of_ble_eq_true rfl)⟩ ?_
  refine Ev.istore (pc := 19) (n := (0, 0)) (i := 5) (L' := [(5, zi (mcc n (fleave n F k) gr r)), (4, zi (k : Int)), (0, zr (some 260)), (1, zi x), (2, zi gr), (3, zi r)]) dX7_moves_19 (Nat.le_of_ble_eq_true rfl) rfl ?_
  refine Ev.aload_n (pc := 21) (n := (0, 0)) (i := 0) dX7_moves_21 rfl rfl ?_
  refine Ev.iload (pc := 22) (n := (0, 0)) dX7_moves_22 rfl ?_
  refine Ev.iconst (pc := 24) (n := (0, 0)) dX7_moves_24 ?_
  refine Ev.iload_n (pc := 25) (n := (0, 0)) (i := 2) dX7_moves_25 rfl rfl ?_
  refine Ev.callV (pc := 26) (n := (0, 0)) (ob := 260) (as := [zi (k : Int), zi 2, zi gr]) (st := []) (s_setF hR ⟨by omega, by omega⟩ ⟨by decide, by decide⟩) dX7_moves_26 ok_X7_set (lk_X7_100 rfl) ⟨(Nat.le_of_ble_eq_true rfl), (Nat.le_of_ble_eq_true rfl)⟩ (zk_at hR.1 rfl) ⟨by decide, rfl⟩ rfl (Nat.le_of_ble_eq_true rfl) (Nat.le_of_ble_eq_true rfl) ⟨(Nat.le_of_ble_eq_true rfl), (Nat.le_of_ble_eq_true rfl)⟩ ?_
  refine Ev.aload_n (pc := 29) (n := (0, 0)) (i := 0) dX7_moves_29 rfl rfl ?_
  refine Ev.iload (pc := 30) (n := (0, 0)) dX7_moves_30 rfl ?_
  refine Ev.iconst (pc := 32) (n := (0, 0)) dX7_moves_32 ?_
  refine Ev.iload_n (pc := 33) (n := (0, 0)) (i := 3) dX7_moves_33 rfl rfl ?_
  refine Ev.callV (pc := 34) (n := (0, 0)) (ob := 260) (as := [zi (k : Int), zi 3, zi r]) (st := []) (s_setF hR ⟨by omega, by omega⟩ ⟨by decide, by decide⟩) dX7_moves_34 ok_X7_set (lk_X7_100 rfl) ⟨(Nat.le_of_ble_eq_true rfl), (Nat.le_of_ble_eq_true rfl)⟩ (zk_at hR.1 rfl) ⟨by decide, rfl⟩ rfl (Nat.le_of_ble_eq_true rfl) (Nat.le_of_ble_eq_true rfl) ⟨(Nat.le_of_ble_eq_true rfl), (Nat.le_of_ble_eq_true rfl)⟩ ?_
  refine Ev.aload_n (pc := 37) (n := (0, 0)) (i := 0) dX7_moves_37 rfl rfl ?_
  refine Ev.iload (pc := 38) (n := (0, 0)) dX7_moves_38 rfl ?_
  refine Ev.iconst (pc := 40) (n := (0, 0)) dX7_moves_40 ?_
  refine Ev.iload (pc := 41) (n := (0, 0)) dX7_moves_41 rfl ?_
  refine Ev.callV (pc := 43) (n := (0, 0)) (ob := 260) (as := [zi (k : Int), zi 4, zi (mcc n (fleave n F k) gr r)]) (st := []) (s_setF hR ⟨by omega, by omega⟩ ⟨by decide, by decide⟩) dX7_moves_43 ok_X7_set (lk_X7_100 rfl) ⟨(Nat.le_of_ble_eq_true rfl), (Nat.le_of_ble_eq_true rfl)⟩ (zk_at hR.1 rfl) ⟨by decide, rfl⟩ rfl (Nat.le_of_ble_eq_true rfl) (Nat.le_of_ble_eq_true rfl) ⟨(Nat.le_of_ble_eq_true rfl), (Nat.le_of_ble_eq_true rfl)⟩ ?_
  refine Ev.iload (pc := 46) (n := (0, 0)) dX7_moves_46 rfl ?_
  exact Ev.iret dX7_moves_48 rfl ⟨(Nat.le_of_ble_eq_true rfl), (Nat.le_of_ble_eq_true rfl)⟩
