theorem fleave_ne (n : Nat) (f : zF) (k o : Int) {w : Int} (h4 : w ≠ 4) (h2 : w ≠ 2) : fleave n f k o w = f o w := (if_neg (fun g => h2 g.2)).trans (flv_ne f k n o h4)
theorem fleave_2 (n : Nat) (f : zF) (k : Int) {o : Int} (h : o ≠ k) : fleave n f k o 2 = f o 2 := (if_neg (fun g => h g.1)).trans (flv_ne f k n o (by decide))
theorem fleave_3 (n : Nat) (f : zF) (k : Int) {o : Int} (h : o ≠ k) (w : Int) (hw : w ≠ 4) : fleave n f k o w = f o w := (if_neg (fun g => h g.1)).trans (flv_ne f k n o hw)
theorem zpos_leave (n : Nat) (f : zF) (k x : Int) : zpos n (fleave n f k) x = zpos n f x := zfnd_congr fun j _ => fleave_ne n f k j (by decide) (by decide)
theorem zpos_num {n : Nat} {f : zF} {x : Int} {k : Nat} (h : zpos n f x = k) : k < n ∧ f k 0 = x := by
  rcases zfnd_cases (fun j => f j 0) x n with ⟨e, -⟩ | ⟨j, hj, e, e2, -⟩
  · have e' : zpos n f x = -1 := e
    omega
  · have e' : zpos n f x = j := e
    have : k = j := by omega
    subst this
    exact ⟨hj, e2⟩
theorem Bel_leave {n : Nat} {f : zF} {k : Nat} {t : Int} (hk : f k 0 = t) (x : Int) : Bel n (fleave n f k) x t ↔ Bel n f x t := by
  have key : ∀ (D : Nat) (x : Int), mbelF n (fleave n f k) t D x ↔ mbelF n f t D x := by
    intro D
    induction D with
    | zero => intro x; exact Iff.rfl
    | succ D ih =>
      intro x
      show (x = t ∨ (x ≠ -1 ∧ mbelF n (fleave n f k) t D (fleave n f k (zpos n (fleave n f k) x) 2))) ↔ (x = t ∨ (x ≠ -1 ∧ mbelF n f t D (f (zpos n f x) 2)))
      by_cases hx : x = t
      · exact ⟨fun _ => Or.inl hx, fun _ => Or.inl hx⟩
      · rw [zpos_leave]
        have hne : zpos n f x ≠ k := fun e => hx ((zpos_num e).2.symm.trans hk)
        rw [fleave_2 n f k hne, ih]
  constructor
  · rintro ⟨D, hD⟩; exact ⟨D, (key D x).mp hD⟩
  · rintro ⟨D, hD⟩; exact ⟨D, (key D x).mpr hD⟩
theorem Chn_leave {n : Nat} {f : zF} {dep : Nat → Nat} {B : Int} (h : WF n f dep B) {k : Nat} {t : Int} (hk : f k 0 = t) : Chn n (fleave n f k) dep t := by
  refine ⟨fun i j hij hj => ?_, fun j hj hne => ?_⟩
  · rw [fleave_ne _ _ _ _ (by decide) (by decide), fleave_ne _ _ _ _ (by decide) (by decide)]
    exact h.2.2.1 i j hij hj
  · rw [fleave_ne _ _ _ _ (by decide) (by decide)] at hne
    have hjk : (j : Int) ≠ k := fun e => by
      have : j = k := by omega
      subst this; exact hne hk
    rw [fleave_2 n f k hjk]
    rcases (h.chn t).2 j hj hne with e | ⟨p, hp, e1, e2⟩
    · exact Or.inl e
    · exact Or.inr ⟨p, hp, by rw [fleave_ne _ _ _ _ (by decide) (by decide)]; exact e1, e2⟩
/-- the first w values of a place come to another -/
def fcp (f : zF) (s d w : Int) : zF := fun a b => if a = d ∧ b < w then f s b else f a b
theorem fcp_step (f : zF) (s d w : Int) : fup (fcp f s d w) d w (fcp f s d w s w) = fcp f s d (w + 1) := by
  funext a b
  have e : fcp f s d w s w = f s w := if_neg (fun g => by omega)
  rw [e]
  unfold fup fcp
  by_cases h1 : a = d ∧ b = w
  · rw [if_pos h1, if_pos ⟨h1.1, by omega⟩, h1.2]
  · rw [if_neg h1]
    by_cases h2 : a = d ∧ b < w
    · rw [if_pos h2, if_pos ⟨h2.1, by omega⟩]
    · rw [if_neg h2, if_neg (fun g => by omega)]
/-- how many of the first m go -/
def gcnt (G : Int → Int) (m : Nat) : Int := zsum (fun j => if G j = 1 then 1 else 0) m
theorem gcnt_bd (G : Int → Int) : ∀ m : Nat, 0 ≤ gcnt G m ∧ gcnt G m ≤ m := by
  intro m
  induction m with
  | zero => exact ⟨Int.le_refl _, Int.le_refl _⟩
  | succ m ih =>
    have e : gcnt G (m + 1) = gcnt G m + (if G m = 1 then 1 else 0) := rfl
    rw [e]
    split <;> omega
theorem gcnt_mono (G : Int → Int) : ∀ {m k : Nat}, m ≤ k → gcnt G m ≤ gcnt G k ∧ gcnt G k - gcnt G m ≤ k - m := by
  intro m k
  induction k with
  | zero => intro h; have : m = 0 := by omega
            subst this; exact ⟨Int.le_refl _, by omega⟩
  | succ k ih =>
    intro h
    by_cases e : m = k + 1
    · subst e; exact ⟨Int.le_refl _, by omega⟩
    · have := ih (by omega)
      have e2 : gcnt G (k + 1) = gcnt G k + (if G k = 1 then 1 else 0) := rfl
      rw [e2]
      split <;> omega
theorem gcnt_lt {G : Int → Int} {j m : Nat} (h : j < m) (hj : G j ≠ 1) : (j : Int) - gcnt G j < m - gcnt G m := by
  have h1 := gcnt_mono G (m := j + 1) (k := m) (by omega)
  have e2 : gcnt G (j + 1) = gcnt G j + (if G j = 1 then 1 else 0) := rfl
  rw [if_neg hj] at e2
  omega
theorem s_rem_in {h : zH} {I : Nat → Int → Int} {F : zF} (hR : zRM h) {n m : Nat} (hn24 : n ≤ 24) (hm : m < n) {c p x : Int} (hc : 0 ≤ c ∧ c ≤ m) (hp : (m : Int) - c = p) {o : zO} (K : Ev M_X7_removes 112 [(0, zr (some 260)), (1, zi x), (2, zi c), (3, zi (n : Int)), (4, zi (m : Int))] [] (h.1, zrw I (fcp F m p 7), h.2.2) (0, 0) o) : ∀ (j w : Nat), w ≤ 7 → 7 - w = j → Ev M_X7_removes 81 [(0, zr (some 260)), (1, zi x), (2, zi c), (3, zi (n : Int)), (4, zi (m : Int)), (5, zi (w : Int))] [] (h.1, zrw I (fcp F m p w), h.2.2) (0, 0) o := by
  intro j
  induction j with
  | zero =>
    intro w hw hj
    have e : w = 7 := by omega
    subst e
    refine Ev.iload (pc := 81) (n := (0, 0)) dX7_removes_81 rfl ?_
    refine Ev.bipush (pc := 83) (n := (0, 0)) dX7_removes_83 ?_
    refine Ev.icmp_ge (pc := 85) (n := (0, 0)) (tgt := 112) dX7_removes_85 rfl (fun hc2 => ?_) (fun hc2 => absurd hc2 (by omega))
    refine Ev.perm [0, 1, 2, 3, 4] rfl ?_
    exact K
  | succ j ih =>
    intro w hw hj
    have k9 := ih (w + 1) (by omega) (by omega)
    refine Ev.iload (pc := 81) (n := (0, 0)) dX7_removes_81 rfl ?_
    refine Ev.bipush (pc := 83) (n := (0, 0)) dX7_removes_83 ?_
    refine Ev.icmp_ge (pc := 85) (n := (0, 0)) (tgt := 112) dX7_removes_85 rfl (fun hc2 => absurd hc2 (by omega)) (fun hc2 => ?_)
    refine Ev.aload_n (pc := 88) (n := (0, 0)) (i := 0) dX7_removes_88 rfl rfl ?_
    refine Ev.iload (pc := 89) (n := (0, 0)) dX7_removes_89 rfl ?_
    refine Ev.iload_n (pc := 91) (n := (0, 0)) (i := 2) dX7_removes_91 rfl rfl ?_
    refine Ev.isub (pc := 92) (n := (0, 0)) dX7_removes_92 ⟨by omega, by omega⟩ ?_
    refine Ev.iload (pc := 93) (n := (0, 0)) dX7_removes_93 rfl ?_
    refine Ev.aload_n (pc := 95) (n := (0, 0)) (i := 0) dX7_removes_95 rfl rfl ?_
    refine Ev.iload (pc := 96) (n := (0, 0)) dX7_removes_96 rfl ?_
    refine Ev.iload (pc := 98) (n := (0, 0)) dX7_removes_98 rfl ?_
    refine Ev.callV (pc := 100) (n := (0, 0)) (ob := 260) (as := [zi (m : Int), zi (w : Int)]) (st := [zi (w : Int), zi ((m : Int) - c), zr (some 260)]) (s_ofF hR ⟨by omega, by omega⟩ ⟨by omega, by omega⟩) dX7_removes_100 ok_X7_of (lk_X7_49 rfl) ⟨(Nat.le_of_ble_eq_true rfl), (Nat.le_of_ble_eq_true rfl)⟩ (zk_at hR.1 rfl) ⟨by decide, rfl⟩ rfl (Nat.le_of_ble_eq_true rfl) (Nat.le_of_ble_eq_true rfl) ⟨(Nat.le_of_ble_eq_true rfl), (Nat.le_of_ble_eq_true rfl)⟩ ?_
    refine Ev.callV (pc := 103) (n := (0, 0)) (ob := 260) (as := [zi ((m : Int) - c), zi (w : Int), zi (fcp F m p w m w)]) (st := []) (s_setF hR ⟨by omega, by omega⟩ ⟨by omega, by omega⟩) dX7_removes_103 ok_X7_set (lk_X7_100 rfl) ⟨(Nat.le_of_ble_eq_true rfl), (Nat.le_of_ble_eq_true rfl)⟩ (zk_at hR.1 rfl) ⟨by decide, rfl⟩ rfl (Nat.le_of_ble_eq_true rfl) (Nat.le_of_ble_eq_true rfl) ⟨(Nat.le_of_ble_eq_true rfl), (Nat.le_of_ble_eq_true rfl)⟩ ?_
    refine Ev.iinc (pc := 106) (n := (0, 0)) (L' := [(5, zi ((w : Int) + 1)), (0, zr (some 260)), (1, zi x), (2, zi c), (3, zi (n : Int)), (4, zi (m : Int))]) dX7_removes_106 rfl (Nat.le_of_ble_eq_true rfl) ⟨by omega, by omega⟩ rfl ?_
    refine Ev.goto (pc := 109) (n := (0, 0)) (tgt := 81) dX7_removes_109 rfl ?_
    refine Ev.perm [1, 2, 3, 4, 5, 0] rfl ?_
    rw [show ((w + 1 : Nat) : Int) = (w : Int) + 1 by omega, ← fcp_step] at k9
    rw [hp]
    exact k9
theorem s_rem2 {h : zH} {I : Nat → Int → Int} (hR : zRM h) {n : Nat} (hn : I 261 0 = n) (hn24 : n ≤ 24) {F1 : zF} {G : Int → Int} {x : Int} (hG : ∀ j : Nat, j < n → I 268 j = G j ∧ (G j = 1 ∨ G j = 0)) : ∀ (j m : Nat) (F2 : zF), m ≤ n → n - m = j → (∀ j : Nat, j < m → G j ≠ 1 → ∀ w : Int, 0 ≤ w → w < 7 → F2 ((j : Int) - gcnt G j) w = F1 j w) → (∀ j : Nat, m ≤ j → j < n → ∀ w : Int, 0 ≤ w → w < 7 → F2 j w = F1 j w) →
  ∃ F3 : zF, (∀ j : Nat, j < n → G j ≠ 1 → ∀ w : Int, 0 ≤ w → w < 7 → F3 ((j : Int) - gcnt G j) w = F1 j w) ∧ Ev M_X7_removes 56 [(0, zr (some 260)), (1, zi x), (2, zi (gcnt G m)), (3, zi (n : Int)), (4, zi (m : Int))] [] (h.1, zrw I F2, h.2.2) (0, 0) (.inl (some (zi (gcnt G n))), (h.1, zrw (zup I 261 0 ((n : Int) - gcnt G n)) F3, h.2.2)) := by
  intro j
  induction j with
  | zero =>
    intro m F2 hm hj hA hB
    have e : m = n := by omega
    subst e
    have hg := gcnt_bd G m
    refine ⟨F2, hA, ?_⟩
    refine Ev.iload (pc := 56) (n := (0, 0)) dX7_removes_56 rfl ?_
    refine Ev.iload_n (pc := 58) (n := (0, 0)) (i := 3) dX7_removes_58 rfl rfl ?_
    refine Ev.icmp_ge (pc := 59) (n := (0, 0)) (tgt := 118) dX7_removes_59 rfl (fun hc => ?_) (fun hc => absurd hc (by omega))
    refine Ev.aload_n (pc := 118) (n := (0, 0)) (i := 0) dX7_removes_118 rfl rfl ?_
    refine Ev.gR (pc := 119) (n := (0, 0)) (r := (some 261)) dX7_removes_119 fl_X7_7 (zk_at hR.1 rfl) rfl hR.2.1 ?_
    refine Ev.iconst (pc := 122) (n := (0, 0)) dX7_removes_122 ?_
    refine Ev.iload_n (pc := 123) (n := (0, 0)) (i := 3) dX7_removes_123 rfl rfl ?_
    refine Ev.iload_n (pc := 124) (n := (0, 0)) (i := 2) dX7_removes_124 rfl rfl ?_
    refine Ev.isub (pc := 125) (n := (0, 0)) dX7_removes_125 ⟨by omega, by omega⟩ ?_
    refine Ev.iast (pc := 126) (n := (0, 0)) dX7_removes_126 (zk_at hR.1 rfl) (by omega) (by omega) ?_
    rw [show zup (zrw I F2) 261 0 ((m : Int) - gcnt G m) = zrw (zup I 261 0 ((m : Int) - gcnt G m)) F2 from zrw_up I F2 (by omega)]
    refine Ev.iload_n (pc := 127) (n := (0, 0)) (i := 2) dX7_removes_127 rfl rfl ?_
    exact Ev.iret dX7_removes_128 rfl ⟨(Nat.le_of_ble_eq_true rfl), (Nat.le_of_ble_eq_true rfl)⟩
  | succ j ih =>
    intro m F2 hm hj hA hB
    have hg := gcnt_bd G m
    have eg : gcnt G (m + 1) = gcnt G m + (if G m = 1 then 1 else 0) := rfl
    obtain ⟨hG1, hG2⟩ := hG m (by omega)
    by_cases h1 : G m = 1
    · rw [if_pos h1] at eg
      obtain ⟨F3, r1, r2⟩ := ih (m + 1) F2 (by omega) (by omega) (fun j hj2 hne => hA j (by
        by_cases e : j = m
        · subst e; exact absurd h1 hne
        · omega) hne) (fun j hj2 => hB j (by omega))
      refine ⟨F3, r1, ?_⟩
      rw [eg] at r2
      refine Ev.iload (pc := 56) (n := (0, 0)) dX7_removes_56 rfl ?_
      refine Ev.iload_n (pc := 58) (n := (0, 0)) (i := 3) dX7_removes_58 rfl rfl ?_
      refine Ev.icmp_ge (pc := 59) (n := (0, 0)) (tgt := 118) dX7_removes_59 rfl (fun hc => absurd hc (by omega)) (fun hc => ?_)
      refine Ev.aload_n (pc := 62) (n := (0, 0)) (i := 0) dX7_removes_62 rfl rfl ?_
      refine Ev.gR (pc := 63) (n := (0, 0)) (r := (some 268)) dX7_removes_63 fl_X7_31 (zk_at hR.1 rfl) rfl hR.2.2.2.2.2.2.2.2.1 ?_
      refine Ev.iload (pc := 66) (n := (0, 0)) dX7_removes_66 rfl ?_
      refine Ev.za (pc := 68) (n := (0, 0)) (x := (G m)) dX7_removes_68 (zk_at hR.1 rfl) (by omega) (by omega) ((congrFun (zrw_o I F2 (by decide)) m).trans hG1) ?_
      refine Ev.if_eq (pc := 69) (n := (0, 0)) (tgt := 78) dX7_removes_69 rfl (fun hc2 => absurd hc2 (by omega)) (fun hc2 => ?_)
      refine Ev.iinc (pc := 72) (n := (0, 0)) (L' := [(2, zi ((gcnt G m) + 1)), (0, zr (some 260)), (1, zi x), (3, zi (n : Int)), (4, zi (m : Int))]) dX7_removes_72 rfl (Nat.le_of_ble_eq_true rfl) ⟨by omega, by omega⟩ rfl ?_
      refine Ev.goto (pc := 75) (n := (0, 0)) (tgt := 112) dX7_removes_75 rfl ?_
      refine Ev.iinc (pc := 112) (n := (0, 0)) (L' := [(4, zi ((m : Int) + 1)), (2, zi ((gcnt G m) + 1)), (0, zr (some 260)), (1, zi x), (3, zi (n : Int))]) dX7_removes_112 rfl (Nat.le_of_ble_eq_true rfl) ⟨by omega, by omega⟩ rfl ?_
      refine Ev.goto (pc := 115) (n := (0, 0)) (tgt := 56) dX7_removes_115 rfl ?_
      refine Ev.perm [2, 3, 1, 4, 0] rfl ?_
      exact r2
    · rw [if_neg h1] at eg
      have hlt : ∀ j : Nat, j < m → G j ≠ 1 → (j : Int) - gcnt G j < m - gcnt G m := fun j hj2 hne => gcnt_lt hj2 hne
      obtain ⟨F3, r1, r2⟩ := ih (m + 1) (fcp F2 m ((m : Int) - gcnt G m) 7) (by omega) (by omega) (fun j hj2 hne w hw1 hw2 => by
        by_cases e : j = m
        · subst e
          show (if (j : Int) - gcnt G j = (j : Int) - gcnt G j ∧ w < 7 then F2 j w else F2 ((j : Int) - gcnt G j) w) = F1 j w
          rw [if_pos ⟨rfl, hw2⟩]
          exact hB j (Nat.le_refl _) (by omega) w hw1 hw2
        · have := hlt j (by omega) hne
          show (if (j : Int) - gcnt G j = (m : Int) - gcnt G m ∧ w < 7 then F2 m w else F2 ((j : Int) - gcnt G j) w) = F1 j w
          rw [if_neg (by omega)]
          exact hA j (by omega) hne w hw1 hw2) (fun j hj2 hj3 w hw1 hw2 => by
        show (if (j : Int) = (m : Int) - gcnt G m ∧ w < 7 then F2 m w else F2 j w) = F1 j w
        rw [if_neg (by omega)]
        exact hB j (by omega) hj3 w hw1 hw2)
      refine ⟨F3, r1, ?_⟩
      rw [eg, Int.add_zero] at r2
      refine Ev.iload (pc := 56) (n := (0, 0)) dX7_removes_56 rfl ?_
      refine Ev.iload_n (pc := 58) (n := (0, 0)) (i := 3) dX7_removes_58 rfl rfl ?_
      refine Ev.icmp_ge (pc := 59) (n := (0, 0)) (tgt := 118) dX7_removes_59 rfl (fun hc => absurd hc (by omega)) (fun hc => ?_)
      refine Ev.aload_n (pc := 62) (n := (0, 0)) (i := 0) dX7_removes_62 rfl rfl ?_
      refine Ev.gR (pc := 63) (n := (0, 0)) (r := (some 268)) dX7_removes_63 fl_X7_31 (zk_at hR.1 rfl) rfl hR.2.2.2.2.2.2.2.2.1 ?_
      refine Ev.iload (pc := 66) (n := (0, 0)) dX7_removes_66 rfl ?_
      refine Ev.za (pc := 68) (n := (0, 0)) (x := (G m)) dX7_removes_68 (zk_at hR.1 rfl) (by omega) (by omega) ((congrFun (zrw_o I F2 (by decide)) m).trans hG1) ?_
      refine Ev.if_eq (pc := 69) (n := (0, 0)) (tgt := 78) dX7_removes_69 rfl (fun hc2 => ?_) (fun hc2 => absurd (by omega) hc2)
      refine Ev.iconst (pc := 78) (n := (0, 0)) dX7_removes_78 ?_
      refine Ev.istore (pc := 79) (n := (0, 0)) (i := 5) (L' := [(5, zi 0), (0, zr (some 260)), (1, zi x), (2, zi (gcnt G m)), (3, zi (n : Int)), (4, zi (m : Int))]) dX7_removes_79 (Nat.le_of_ble_eq_true rfl) rfl ?_
      refine Ev.perm [1, 2, 3, 4, 5, 0] rfl ?_
      have K : Ev M_X7_removes 112 [(0, zr (some 260)), (1, zi x), (2, zi (gcnt G m)), (3, zi (n : Int)), (4, zi (m : Int))] [] (h.1, zrw I (fcp F2 m ((m : Int) - gcnt G m) 7), h.2.2) (0, 0) (.inl (some (zi (gcnt G n))), (h.1, zrw (zup I 261 0 ((n : Int) - gcnt G n)) F3, h.2.2)) := by
        refine Ev.iinc (pc := 112) (n := (0, 0)) (L' := [(4, zi ((m : Int) + 1)), (0, zr (some 260)), (1, zi x), (2, zi (gcnt G m)), (3, zi (n : Int))]) dX7_removes_112 rfl (Nat.le_of_ble_eq_true rfl) ⟨by omega, by omega⟩ rfl ?_
        refine Ev.goto (pc := 115) (n := (0, 0)) (tgt := 56) dX7_removes_115 rfl ?_
        refine Ev.perm [1, 2, 3, 4, 0] rfl ?_
        exact r2
      have k9 := s_rem_in hR hn24 (by omega) hg rfl K 7 0 (by omega) (by omega)
      rw [show zrw I (fcp F2 m ((m : Int) - gcnt G m) ((0 : Nat) : Int)) = zrw I F2 from zrw_congr (fun a b _ _ h3 _ => if_neg (fun g => by omega))] at k9
      exact k9
theorem s_rem1 {h : zH} {I : Nat → Int → Int} (hR : zRM h) {n : Nat} (hn : I 261 0 = n) (hn24 : n ≤ 24) {F1 : zF} {dep : Nat → Nat} {t : Int} (hch : Chn n F1 dep t) (ht : t ≠ -1) : ∀ (j m : Nat) (I2 : Nat → Int → Int) (G : Int → Int), m ≤ n → n - m = j → (∀ o, o ≠ 268 → I2 o = I o) → (∀ j : Nat, j < m → I2 268 j = G j ∧ (G j = 1 ∧ Bel n F1 (F1 j 0) t ∨ G j = 0 ∧ ¬ Bel n F1 (F1 j 0) t)) →
  ∃ (I3 : Nat → Int → Int) (G : Int → Int) (F3 : zF), (∀ o, o ≠ 268 → I3 o = I o) ∧ (∀ j : Nat, j < n → G j = 1 ∧ Bel n F1 (F1 j 0) t ∨ G j = 0 ∧ ¬ Bel n F1 (F1 j 0) t) ∧ (∀ j : Nat, j < n → G j ≠ 1 → ∀ w : Int, 0 ≤ w → w < 7 → F3 ((j : Int) - gcnt G j) w = F1 j w) ∧ Ev M_X7_removes 13 [(0, zr (some 260)), (1, zi t), (2, zi 0), (3, zi (m : Int))] [] (h.1, zrw I2 F1, h.2.2) (0, 0) (.inl (some (zi (gcnt G n))), (h.1, zrw (zup I3 261 0 ((n : Int) - gcnt G n)) F3, h.2.2)) := by
  intro j
  induction j with
  | zero =>
    intro m I2 G hm hj hI hG
    have e : m = n := by omega
    subst e
    have hn2 : I2 261 0 = m := (congrFun (hI 261 (by decide)) 0).trans hn
    obtain ⟨F3, r1, r2⟩ := s_rem2 (I := I2) hR hn2 hn24 (F1 := F1) (G := G) (x := t) (fun j hj2 => ⟨(hG j hj2).1, by rcases (hG j hj2).2 with ⟨e, -⟩ | ⟨e, -⟩ <;> omega⟩) m 0 F1 (by omega) (by omega) (fun j hj2 => by omega) (fun _ _ _ _ _ _ => rfl)
    refine ⟨I2, G, F3, hI, fun j hj2 => (hG j hj2).2, r1, ?_⟩
    refine Ev.iload_n (pc := 13) (n := (0, 0)) (i := 3) dX7_removes_13 rfl rfl ?_
    refine Ev.aload_n (pc := 14) (n := (0, 0)) (i := 0) dX7_removes_14 rfl rfl ?_
    refine Ev.gR (pc := 15) (n := (0, 0)) (r := (some 261)) dX7_removes_15 fl_X7_7 (zk_at hR.1 rfl) rfl hR.2.1 ?_
    refine Ev.iconst (pc := 18) (n := (0, 0)) dX7_removes_18 ?_
    refine Ev.ia (pc := 19) (n := (0, 0)) (x := (m : Int)) dX7_removes_19 (zk_at hR.1 rfl) (by omega) (by omega) ((zrw_x I2 F1 (by omega)).trans hn2) ?_
    refine Ev.icmp_ge (pc := 20) (n := (0, 0)) (tgt := 46) dX7_removes_20 rfl (fun hc => ?_) (fun hc => absurd hc (by omega))
    refine Ev.aload_n (pc := 46) (n := (0, 0)) (i := 0) dX7_removes_46 rfl rfl ?_
    refine Ev.gR (pc := 47) (n := (0, 0)) (r := (some 261)) dX7_removes_47 fl_X7_7 (zk_at hR.1 rfl) rfl hR.2.1 ?_
    refine Ev.iconst (pc := 50) (n := (0, 0)) dX7_removes_50 ?_
    refine Ev.ia (pc := 51) (n := (0, 0)) (x := (m : Int)) dX7_removes_51 (zk_at hR.1 rfl) (by omega) (by omega) ((zrw_x I2 F1 (by omega)).trans hn2) ?_
    refine Ev.istore_n (pc := 52) (n := (0, 0)) (i := 3) (L' := [(3, zi (m : Int)), (0, zr (some 260)), (1, zi t), (2, zi 0)]) dX7_removes_52 rfl (Nat.le_of_ble_eq_true rfl) rfl ?_
    refine Ev.iconst (pc := 53) (n := (0, 0)) dX7_removes_53 ?_
    refine Ev.istore (pc := 54) (n := (0, 0)) (i := 4) (L' := [(4, zi 0), (3, zi (m : Int)), (0, zr (some 260)), (1, zi t), (2, zi 0)]) dX7_removes_54 (Nat.le_of_ble_eq_true rfl) rfl ?_
    refine Ev.perm [2, 3, 4, 1, 0] rfl ?_
    exact r2
  | succ j ih =>
    intro m I2 G hm hj hI hG
    have hn2 : I2 261 0 = n := (congrFun (hI 261 (by decide)) 0).trans hn
    obtain ⟨b, hb, rb⟩ := s_isBelow (I := I2) (F := F1) hR hn2 hn24 hch ht (k := m) (by omega) rfl
    have hb2 : b = 0 ∨ b = 1 := by rcases hb with ⟨e, -⟩ | ⟨e, -⟩ <;> omega
    obtain ⟨I3, G3, F3, r1, r2, r3, r4⟩ := ih (m + 1) (zup I2 268 m b) (fun j => if j = (m : Int) then b else G j) (by omega) (by omega) (fun o ho => by
      rw [← hI o ho]
      funext y
      exact zup_o _ _ _ _ ho) (fun j hj2 => by
      by_cases e : j = m
      · subst e
        refine ⟨by rw [zup_s, if_pos rfl], ?_⟩
        rw [if_pos rfl]
        exact hb
      · have e2 : ¬ (j : Int) = m := by omega
        rw [zup_k _ _ _ _ e2, if_neg e2]
        exact hG j (by omega))
    refine ⟨I3, G3, F3, r1, r2, r3, ?_⟩
    refine Ev.iload_n (pc := 13) (n := (0, 0)) (i := 3) dX7_removes_13 rfl rfl ?_
    refine Ev.aload_n (pc := 14) (n := (0, 0)) (i := 0) dX7_removes_14 rfl rfl ?_
    refine Ev.gR (pc := 15) (n := (0, 0)) (r := (some 261)) dX7_removes_15 fl_X7_7 (zk_at hR.1 rfl) rfl hR.2.1 ?_
    refine Ev.iconst (pc := 18) (n := (0, 0)) dX7_removes_18 ?_
    refine Ev.ia (pc := 19) (n := (0, 0)) (x := (n : Int)) dX7_removes_19 (zk_at hR.1 rfl) (by omega) (by omega) ((zrw_x I2 F1 (by omega)).trans hn2) ?_
    refine Ev.icmp_ge (pc := 20) (n := (0, 0)) (tgt := 46) dX7_removes_20 rfl (fun hc => absurd hc (by omega)) (fun hc => ?_)
    refine Ev.aload_n (pc := 23) (n := (0, 0)) (i := 0) dX7_removes_23 rfl rfl ?_
    refine Ev.gR (pc := 24) (n := (0, 0)) (r := (some 268)) dX7_removes_24 fl_X7_31 (zk_at hR.1 rfl) rfl hR.2.2.2.2.2.2.2.2.1 ?_
    refine Ev.iload_n (pc := 27) (n := (0, 0)) (i := 3) dX7_removes_27 rfl rfl ?_
    refine Ev.aload_n (pc := 28) (n := (0, 0)) (i := 0) dX7_removes_28 rfl rfl ?_
    refine Ev.aload_n (pc := 29) (n := (0, 0)) (i := 0) dX7_removes_29 rfl rfl ?_
    refine Ev.iload_n (pc := 30) (n := (0, 0)) (i := 3) dX7_removes_30 rfl rfl ?_
    refine Ev.iconst (pc := 31) (n := (0, 0)) dX7_removes_31 ?_
    refine Ev.callV (pc := 32) (n := (0, 0)) (ob := 260) (as := [zi (m : Int), zi 0]) (st := [zr (some 260), zi (m : Int), zr (some 268)]) (s_ofF hR ⟨by omega, by omega⟩ ⟨by decide, by decide⟩) dX7_removes_32 ok_X7_of (lk_X7_49 rfl) ⟨(Nat.le_of_ble_eq_true rfl), (Nat.le_of_ble_eq_true rfl)⟩ (zk_at hR.1 rfl) ⟨by decide, rfl⟩ rfl (Nat.le_of_ble_eq_true rfl) (Nat.le_of_ble_eq_true rfl) ⟨(Nat.le_of_ble_eq_true rfl), (Nat.le_of_ble_eq_true rfl)⟩ ?_
    refine Ev.iload_n (pc := 35) (n := (0, 0)) (i := 1) dX7_removes_35 rfl rfl ?_
    refine Ev.callV (pc := 36) (n := (0, 0)) (ob := 260) (as := [zi (F1 (m : Int) 0), zi t]) (st := [zi (m : Int), zr (some 268)]) (rb) dX7_removes_36 ok_X7_isBelow (lk_X7_115 rfl) ⟨(Nat.le_of_ble_eq_true rfl), (Nat.le_of_ble_eq_true rfl)⟩ (zk_at hR.1 rfl) ⟨by decide, rfl⟩ rfl (Nat.le_of_ble_eq_true rfl) (Nat.le_of_ble_eq_true rfl) ⟨(Nat.le_of_ble_eq_true rfl), (Nat.le_of_ble_eq_true rfl)⟩ ?_
    refine Ev.zast (pc := 39) (n := (0, 0)) dX7_removes_39 (zk_at hR.1 rfl) (by omega) (by omega) (by omega) ?_
    refine Ev.iinc (pc := 40) (n := (0, 0)) (L' := [(3, zi ((m : Int) + 1)), (0, zr (some 260)), (1, zi t), (2, zi 0)]) dX7_removes_40 rfl (Nat.le_of_ble_eq_true rfl) ⟨by omega, by omega⟩ rfl ?_
    refine Ev.goto (pc := 43) (n := (0, 0)) (tgt := 13) dX7_removes_43 rfl ?_
    refine Ev.perm [1, 2, 3, 0] rfl ?_
    rw [show zup (zrw I2 F1) 268 (m : Int) b = zrw (zup I2 268 m b) F1 from zrw_up2 I2 F1 (by decide)]
    exact r4
theorem s_removes {h : zH} {I : Nat → Int → Int} {F : zF} (hR : zRM h) {n : Nat} (hn : I 261 0 = n) (hn24 : n ≤ 24) {dep : Nat → Nat} {B : Int} (hw : WF n F dep B) {k : Nat} {t : Int} (hf : zpos n F t = k) (hpl : ∀ o : Nat, o < n → -1 ≤ F o 4 ∧ F o 4 ≤ 100) : ∃ (I3 : Nat → Int → Int) (G : Int → Int) (F3 : zF), (∀ o, o ≠ 268 → I3 o = I o) ∧ (∀ j : Nat, j < n → G j = 1 ∧ Bel n F (F j 0) t ∨ G j = 0 ∧ ¬ Bel n F (F j 0) t) ∧ (∀ j : Nat, j < n → G j ≠ 1 → ∀ w : Int, 0 ≤ w → w < 7 → F3 ((j : Int) - gcnt G j) w = fleave n F k j w) ∧ Ev M_X7_removes 0 [(0, zr (some 260)), (1, zi t)] [] (h.1, zrw I F, h.2.2) (0, 0) (.inl (some (zi (gcnt G n))), (h.1, zrw (zup I3 261 0 ((n : Int) - gcnt G n)) F3, h.2.2)) := by
  obtain ⟨hk, hkt⟩ := zpos_num hf
  have ht : t ≠ -1 := by have := hw.num_nn hk; omega
  obtain ⟨I3, G, F3, r1, r2, r3, r4⟩ := s_rem1 (I := I) hR hn hn24 (Chn_leave hw hkt) ht n 0 I (fun _ => 0) (by omega) (by omega) (fun _ _ => rfl) (fun j hj => by omega)
  refine ⟨I3, G, F3, r1, fun j hj => ?_, r3, ?_⟩
  · have := r2 j hj
    rw [fleave_ne _ _ _ _ (by decide) (by decide), Bel_leave hkt] at this
    exact this
  · skip
    refine Ev.aload_n (pc := 0) (n := (0, 0)) (i := 0) dX7_removes_0 rfl rfl ?_
    refine Ev.aload_n (pc := 1) (n := (0, 0)) (i := 0) dX7_removes_1 rfl rfl ?_
    refine Ev.iload_n (pc := 2) (n := (0, 0)) (i := 1) dX7_removes_2 rfl rfl ?_
    refine Ev.callV (pc := 3) (n := (0, 0)) (ob := 260) (as := [zi t]) (st := [zr (some 260)]) (s_findF hR hn hn24) dX7_removes_3 ok_X7_find (lk_X7_53 rfl) ⟨(Nat.le_of_ble_eq_true rfl), (Nat.le_of_ble_eq_true rfl)⟩ (zk_at hR.1 rfl) ⟨by decide, rfl⟩ rfl (Nat.le_of_ble_eq_true rfl) (Nat.le_of_ble_eq_true rfl) ⟨(Nat.le_of_ble_eq_true rfl), (Nat.le_of_ble_eq_true rfl)⟩ ?_
    rw [hf]
    refine Ev.callV (pc := 6) (n := (0, 0)) (ob := 260) (as := [zi (k : Int)]) (st := []) (s_leaves hR hn hn24 hk hpl) dX7_removes_6 ok_X7_leaves (lk_X7_122 rfl) ⟨(Nat.le_of_ble_eq_true rfl), (Nat.le_of_ble_eq_true rfl)⟩ (zk_at hR.1 rfl) ⟨by decide, rfl⟩ rfl (Nat.le_of_ble_eq_true rfl) (Nat.le_of_ble_eq_true rfl) ⟨(Nat.le_of_ble_eq_true rfl), (Nat.le_of_ble_eq_true rfl)⟩ ?_
    refine Ev.iconst (pc := 9) (n := (0, 0)) dX7_removes_9 ?_
    refine Ev.istore_n (pc := 10) (n := (0, 0)) (i := 2) (L' := [(2, zi 0), (0, zr (some 260)), (1, zi t)]) dX7_removes_10 rfl (Nat.le_of_ble_eq_true rfl) rfl ?_
    refine Ev.iconst (pc := 11) (n := (0, 0)) dX7_removes_11 ?_
    refine Ev.istore_n (pc := 12) (n := (0, 0)) (i := 3) (L' := [(3, zi 0), (2, zi 0), (0, zr (some 260)), (1, zi t)]) dX7_removes_12 rfl (Nat.le_of_ble_eq_true rfl) rfl ?_
    refine Ev.perm [2, 3, 1, 0] rfl ?_
    exact r4
