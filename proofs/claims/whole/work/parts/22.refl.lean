theorem CritTo.lt {F : zF} {st sl : Int → Int} {k m : Nat} {A : Nat → Nat} (h : CritTo F st sl k m A) {i j : Nat} (hi : i < m) (hj : j < m) (e : A i = A j) : i = j := by
  rcases Nat.lt_trichotomy i j with g | g | g
  · rcases h.2.2.1 i j g hj with q | q
    · rw [e] at q; omega
    · omega
  · exact g
  · rcases h.2.2.1 j i g hi with q | q
    · rw [e] at q; omega
    · omega
theorem CritTo.agree {F : zF} {st sl : Int → Int} {k m m' : Nat} {A A' : Nat → Nat} (h : CritTo F st sl k m A) (h' : CritTo F st sl k m' A') : ∀ J j : Nat, j < J → j < m → j < m' → A j = A' j := by
  intro J
  induction J with
  | zero => intro j hj; omega
  | succ J ih =>
    intro j hj hm hm'
    by_cases hJ : j < J
    · exact ih j hJ hm hm'
    · obtain ⟨i, hi, ei⟩ := h.2.2.2 (A' j) (h'.2.1 j hm').1 (h'.2.1 j hm').2.1 (h'.2.1 j hm').2.2
      obtain ⟨i', hi', ei'⟩ := h'.2.2.2 (A j) (h.2.1 j hm).1 (h.2.1 j hm).2.1 (h.2.1 j hm).2.2
      have c1 : ¬ i < j := fun g => by
        have e2 := ih i (by omega) hi (by omega)
        have := h'.lt (i := i) (j := j) (by omega) hm' (e2.symm.trans ei)
        omega
      have c2 : ¬ i' < j := fun g => by
        have e2 := ih i' (by omega) (by omega) hi'
        have := h.lt (i := i') (j := j) (by omega) hm (e2.trans ei')
        omega
      by_cases c3 : i = j
      · subst c3; exact ei
      by_cases c4 : i' = j
      · subst c4; exact ei'.symm
      have q1 := h.2.2.1 j i (by omega) hi
      have q2 := h'.2.2.1 j i' (by omega) hi'
      rw [ei] at q1
      rw [ei'] at q2
      omega
theorem CritTo.uniq {F : zF} {st sl : Int → Int} {k m m' : Nat} {A A' : Nat → Nat} (h : CritTo F st sl k m A) (h' : CritTo F st sl k m' A') : m = m' ∧ ∀ j, j < m → A j = A' j := by
  have ag := fun j => CritTo.agree h h' (j + 1) j (Nat.lt_succ_self j)
  have em : m = m' := by
    rcases Nat.lt_trichotomy m m' with g | g | g
    · obtain ⟨i, hi, ei⟩ := h.2.2.2 (A' m) (h'.2.1 m g).1 (h'.2.1 m g).2.1 (h'.2.1 m g).2.2
      have := h'.lt (i := i) (j := m) (by omega) g ((ag i hi (by omega)).symm.trans ei)
      omega
    · exact g
    · obtain ⟨i, hi, ei⟩ := h'.2.2.2 (A m') (h.2.1 m' g).1 (h.2.1 m' g).2.1 (h.2.1 m' g).2.2
      have := h.lt (i := i) (j := m') (by omega) g ((ag i (by omega) hi).trans ei)
      omega
  exact ⟨em, fun j hj => ag j hj (by omega)⟩
theorem CritTo.ex (F : zF) (st sl : Int → Int) : ∀ k : Nat, ∃ (m : Nat) (A : Nat → Nat), CritTo F st sl k m A := by
  intro k
  induction k with
  | zero => exact ⟨0, fun _ => 0, CritTo.none F st sl _⟩
  | succ k ih =>
    obtain ⟨m, A, h⟩ := ih
    by_cases c : F k 1 = 1 ∧ sl k = 0
    · have K : ∀ q : Nat, q ≤ m → (∀ j, q ≤ j → j < m → st k < st (A j)) → ∃ p, p ≤ m ∧ (p = 0 ∨ st (A (p - 1)) ≤ st k) ∧ ∀ j, p ≤ j → j < m → st k < st (A j) := by
        intro q
        induction q with
        | zero => intro h1 h2; exact ⟨0, h1, Or.inl rfl, h2⟩
        | succ q iq =>
          intro h1 h2
          by_cases g : st k < st (A q)
          · refine iq (by omega) (fun j h3 h4 => ?_)
            by_cases e : j = q
            · subst e; exact g
            · exact h2 j (by omega) h4
          · exact ⟨q + 1, h1, Or.inr (by show st (A q) ≤ st k; omega), h2⟩
      obtain ⟨p, h1, h2, h3⟩ := K m (Nat.le_refl _) (fun j h1 h2 => by omega)
      exact ⟨m + 1, cIns A p k, h.ins h1 c.1 c.2 h2 h3⟩
    · exact ⟨m, A, h.skip c⟩
/-! what whole tells -/
def zmost (g : Int → Int) : Nat → Int
  | 0 => 0
  | m + 1 => zmx (zmost g m) (g m)
def mrws (n : Nat) (F : zF) (len sl : Int → Int) (k : Int) : Int := zsum (fun r => if mcr n F len sl k (F k 0) r then 1 else 0) 4
def mTk (F : zF) (m : Nat) : Int := zsum (fun k => if F k 1 = 1 then 1 else 0) m
def mDu (F : zF) (m : Nat) : Int := zsum (fun k => F k 5) m
def mRe (F : zF) (m : Nat) : Int := zsum (fun k => F k 6) m
def mRo (n : Nat) (F : zF) (len sl : Int → Int) (m : Nat) : Int := zsum (fun k => if F k 1 = 1 then 0 else mrws n F len sl k) m
def mMo (n : Nat) (F : zF) (len st : Int → Int) (m : Nat) : Int := zmost (fun k => mrun n F len st (st k)) m
def mwh (n : Nat) (F : zF) (len st sl : Int → Int) (dl ad : Int) (m : Nat) (lg w : Int) : Int := if w = 0 then n else if w = 1 then mTk F n else if w = 2 then len 0 else if w = 3 then dl else if w = 4 then mlate (len 0) dl else if w = 5 then m else if w = 6 then mRo n F len sl n else if w = 7 then mDu F n else if w = 8 then mRe F n else if w = 9 then mMo n F len st n else if w = 10 then ad else lg
theorem zsum_rng (g : Int → Int) {b : Int} (hb : 0 ≤ b) : ∀ m : Nat, (∀ k : Nat, k < m → 0 ≤ g k ∧ g k ≤ b) → 0 ≤ zsum g m ∧ zsum g m ≤ m * b := by
  intro m
  induction m with
  | zero => intro _; exact ⟨Int.le_refl _, by simp [zsum]⟩
  | succ m ih =>
    intro h
    have h1 := ih (fun k hk => h k (by omega))
    have h2 := h m (by omega)
    have e : zsum g (m + 1) = zsum g m + g m := rfl
    rw [e]
    refine ⟨by omega, ?_⟩
    have e2 : ((m + 1 : Nat) : Int) * b = m * b + b := by
      rw [show ((m + 1 : Nat) : Int) = (m : Int) + 1 by omega, Int.add_mul, Int.one_mul]
    rw [e2]
    omega
theorem s_whole_rows {h : zH} {I : Nat → Int → Int} {F : zF} (hR : zRM h) {n : Nat} (hn : I 261 0 = n) (hn24 : n ≤ 24) {dep : Nat → Nat} {B : Int} (hw : WF n F dep B) (hB : 24 * (60 + B) ≤ 1000000000) {len st sl dp : Int → Int} (hl : IsLen n F len) (ht : IsTm n F len st sl dp) (hA : ∀ k : Nat, k < n → I 263 k = len k ∧ I 264 k = st k ∧ I 265 k = sl k ∧ I 266 k = dp k) {k : Nat} (hk : k < n) {w a b c e f : Int} (he : 0 ≤ e ∧ e ≤ 1000) : ∀ (j r : Nat), r ≤ 4 → 4 - r = j → ∀ o : zO, Ev M_X7_wholeValue 156 [(0, zr (some 260)), (1, zi w), (2, zi a), (3, zi b), (4, zi c), (5, zi (e + mrws n F len sl k)), (6, zi f), (7, zi (k : Int))] [] (h.1, zrw I F, h.2.2) (0, 0) o → Ev M_X7_wholeValue 113 [(0, zr (some 260)), (1, zi w), (2, zi a), (3, zi b), (4, zi c), (5, zi (e + zsum (fun r => if mcr n F len sl k (F k 0) r then 1 else 0) r)), (6, zi f), (7, zi (k : Int)), (8, zi 0), (10, zi (r : Int))] [] (h.1, zrw I F, h.2.2) (0, 0) o := by
  intro j
  have hf : zpos n F (F k 0) = k := (hw.chn 0).pos hk
  induction j with
  | zero =>
    intro r hr hj o hh
    have e4 : r = 4 := by omega
    subst e4
    refine Ev.iload (pc := 113) (n := (0, 0)) dX7_wholeValue_113 rfl ?_
    refine Ev.iconst (pc := 115) (n := (0, 0)) dX7_wholeValue_115 ?_
    refine Ev.icmp_ge (pc := 116) (n := (0, 0)) (tgt := 156) dX7_wholeValue_116 rfl (fun hc => ?_) (fun hc => absurd hc (by omega))
    refine Ev.perm [0, 1, 2, 3, 4, 5, 6, 7] rfl ?_
    exact hh
  | succ j ih =>
    intro r hr hj o hh
    have k9 := ih (r + 1) (by omega) (by omega) o hh
    have hs := zsum_rng (fun r => if mcr n F len sl k (F k 0) r then 1 else 0) (b := 1) (by omega) r (fun x hx => by
      show 0 ≤ (if mcr n F len sl k (F k 0) x then (1 : Int) else 0) ∧ (if mcr n F len sl k (F k 0) x then (1 : Int) else 0) ≤ 1
      split <;> omega)
    have ez : zsum (fun r => if mcr n F len sl k (F k 0) r then 1 else 0) (r + 1) = zsum (fun r => if mcr n F len sl k (F k 0) r then 1 else 0) r + (if mcr n F len sl k (F k 0) r then 1 else 0) := rfl
    rw [ez] at k9
    refine Ev.iload (pc := 113) (n := (0, 0)) dX7_wholeValue_113 rfl ?_
    refine Ev.iconst (pc := 115) (n := (0, 0)) dX7_wholeValue_115 ?_
    refine Ev.icmp_ge (pc := 116) (n := (0, 0)) (tgt := 156) dX7_wholeValue_116 rfl (fun hc => absurd hc (by omega)) (fun hc => ?_)
    refine Ev.iload (pc := 119) (n := (0, 0)) dX7_wholeValue_119 rfl ?_
    refine Ev.if_ne (pc := 121) (n := (0, 0)) (tgt := 156) dX7_wholeValue_121 rfl (fun hc2 => absurd rfl hc2) (fun hc2 => ?_)
    refine Ev.iload (pc := 124) (n := (0, 0)) dX7_wholeValue_124 rfl ?_
    refine Ev.aload_n (pc := 126) (n := (0, 0)) (i := 0) dX7_wholeValue_126 rfl rfl ?_
    refine Ev.aload_n (pc := 127) (n := (0, 0)) (i := 0) dX7_wholeValue_127 rfl rfl ?_
    refine Ev.iload (pc := 128) (n := (0, 0)) dX7_wholeValue_128 rfl ?_
    refine Ev.iconst (pc := 130) (n := (0, 0)) dX7_wholeValue_130 ?_
    refine Ev.callV (pc := 131) (n := (0, 0)) (ob := 260) (as := [zi (k : Int), zi 0]) (st := [zr (some 260), zi (e + zsum (fun r => if mcr n F len sl k (F k 0) r then 1 else 0) r)]) (s_ofF hR ⟨by omega, by omega⟩ ⟨by decide, by decide⟩) dX7_wholeValue_131 ok_X7_of (lk_X7_49 rfl) ⟨(Nat.le_of_ble_eq_true rfl), (Nat.le_of_ble_eq_true rfl)⟩ (zk_at hR.1 rfl) ⟨by decide, rfl⟩ rfl (Nat.le_of_ble_eq_true rfl) (Nat.le_of_ble_eq_true rfl) ⟨(Nat.le_of_ble_eq_true rfl), (Nat.le_of_ble_eq_true rfl)⟩ ?_
    refine Ev.iload (pc := 134) (n := (0, 0)) dX7_wholeValue_134 rfl ?_
    refine Ev.callV (pc := 136) (n := (0, 0)) (ob := 260) (as := [zi (F (k : Int) 0), zi (r : Int)]) (st := [zi (e + zsum (fun r => if mcr n F len sl k (F k 0) r then 1 else 0) r)]) (s_isCriticalRow hR hn hn24 hw hB hl ht hA hf) dX7_wholeValue_136 ok_X7_isCriticalRow (lk_X7_168 rfl) ⟨(Nat.le_of_ble_eq_true rfl), (Nat.le_of_ble_eq_true rfl)⟩ (zk_at hR.1 rfl) ⟨by decide, rfl⟩ rfl (Nat.le_of_ble_eq_true rfl) (Nat.le_of_ble_eq_true rfl) ⟨(Nat.le_of_ble_eq_true rfl), (Nat.le_of_ble_eq_true rfl)⟩ ?_
    by_cases h9 : mcr n F len sl k (F k 0) r
    · skip
      rw [if_pos h9, ← Int.add_assoc] at k9
      rw [if_pos h9]
      refine Ev.if_eq (pc := 139) (n := (0, 0)) (tgt := 146) dX7_wholeValue_139 rfl (fun hc3 => absurd hc3 (by decide)) (fun hc3 => ?_)
      refine Ev.iconst (pc := 142) (n := (0, 0)) dX7_wholeValue_142 ?_
      refine Ev.goto (pc := 143) (n := (0, 0)) (tgt := 147) dX7_wholeValue_143 rfl ?_
      refine Ev.iadd (pc := 147) (n := (0, 0)) dX7_wholeValue_147 ⟨by omega, by omega⟩ ?_
      refine Ev.istore (pc := 148) (n := (0, 0)) (i := 5) (L' := [(5, zi ((e + zsum (fun r => if mcr n F len sl k (F k 0) r then 1 else 0) r) + 1)), (0, zr (some 260)), (1, zi w), (2, zi a), (3, zi b), (4, zi c), (6, zi f), (7, zi (k : Int)), (8, zi 0), (10, zi (r : Int))]) dX7_wholeValue_148 (Nat.le_of_ble_eq_true rfl) rfl ?_
      refine Ev.iinc (pc := 150) (n := (0, 0)) (L' := [(10, zi ((r : Int) + 1)), (5, zi ((e + zsum (fun r => if mcr n F len sl k (F k 0) r then 1 else 0) r) + 1)), (0, zr (some 260)), (1, zi w), (2, zi a), (3, zi b), (4, zi c), (6, zi f), (7, zi (k : Int)), (8, zi 0)]) dX7_wholeValue_150 rfl (Nat.le_of_ble_eq_true rfl) ⟨by omega, by omega⟩ rfl ?_
      refine Ev.goto (pc := 153) (n := (0, 0)) (tgt := 113) dX7_wholeValue_153 rfl ?_
      refine Ev.perm [2, 3, 4, 5, 6, 1, 7, 8, 9, 0] rfl ?_
      exact k9
    · skip
      rw [if_neg h9, ← Int.add_assoc] at k9
      rw [if_neg h9]
      refine Ev.if_eq (pc := 139) (n := (0, 0)) (tgt := 146) dX7_wholeValue_139 rfl (fun hc3 => ?_) (fun hc3 => absurd rfl hc3)
      refine Ev.iconst (pc := 146) (n := (0, 0)) dX7_wholeValue_146 ?_
      refine Ev.iadd (pc := 147) (n := (0, 0)) dX7_wholeValue_147 ⟨by omega, by omega⟩ ?_
      refine Ev.istore (pc := 148) (n := (0, 0)) (i := 5) (L' := [(5, zi ((e + zsum (fun r => if mcr n F len sl k (F k 0) r then 1 else 0) r) + 0)), (0, zr (some 260)), (1, zi w), (2, zi a), (3, zi b), (4, zi c), (6, zi f), (7, zi (k : Int)), (8, zi 0), (10, zi (r : Int))]) dX7_wholeValue_148 (Nat.le_of_ble_eq_true rfl) rfl ?_
      refine Ev.iinc (pc := 150) (n := (0, 0)) (L' := [(10, zi ((r : Int) + 1)), (5, zi ((e + zsum (fun r => if mcr n F len sl k (F k 0) r then 1 else 0) r) + 0)), (0, zr (some 260)), (1, zi w), (2, zi a), (3, zi b), (4, zi c), (6, zi f), (7, zi (k : Int)), (8, zi 0)]) dX7_wholeValue_150 rfl (Nat.le_of_ble_eq_true rfl) ⟨by omega, by omega⟩ rfl ?_
      refine Ev.goto (pc := 153) (n := (0, 0)) (tgt := 113) dX7_wholeValue_153 rfl ?_
      refine Ev.perm [2, 3, 4, 5, 6, 1, 7, 8, 9, 0] rfl ?_
      exact k9
theorem s_whole_loop {h : zH} {I : Nat → Int → Int} {F : zF} (hR : zRM h) {n : Nat} (hn : I 261 0 = n) (hn24 : n ≤ 24) {dep : Nat → Nat} {B : Int} (hw : WF n F dep B) (hB : 24 * (60 + B) ≤ 1000000000) {len st sl dp : Int → Int} (hl : IsLen n F len) (ht : IsTm n F len st sl dp) (hA : ∀ k : Nat, k < n → I 263 k = len k ∧ I 264 k = st k ∧ I 265 k = sl k ∧ I 266 k = dp k) {w : Int} : ∀ (j k : Nat), k ≤ n → n - k = j → ∀ o : zO, Ev M_X7_wholeValue 162 [(0, zr (some 260)), (1, zi w), (2, zi (mTk F n)), (3, zi (mDu F n)), (4, zi (mRe F n)), (5, zi (mRo n F len sl n)), (6, zi (mMo n F len st n)), (7, zi (n : Int))] [] (h.1, zrw I F, h.2.2) (0, 0) o → Ev M_X7_wholeValue 16 [(0, zr (some 260)), (1, zi w), (2, zi (mTk F k)), (3, zi (mDu F k)), (4, zi (mRe F k)), (5, zi (mRo n F len sl k)), (6, zi (mMo n F len st k)), (7, zi (k : Int))] [] (h.1, zrw I F, h.2.2) (0, 0) o := by
  intro j
  induction j with
  | zero =>
    intro k hk hj o hh
    have e : k = n := by omega
    subst e
    refine Ev.iload (pc := 16) (n := (0, 0)) dX7_wholeValue_16 rfl ?_
    refine Ev.aload_n (pc := 18) (n := (0, 0)) (i := 0) dX7_wholeValue_18 rfl rfl ?_
    refine Ev.gR (pc := 19) (n := (0, 0)) (r := (some 261)) dX7_wholeValue_19 fl_X7_7 (zk_at hR.1 rfl) rfl hR.2.1 ?_
    refine Ev.iconst (pc := 22) (n := (0, 0)) dX7_wholeValue_22 ?_
    refine Ev.ia (pc := 23) (n := (0, 0)) (x := (k : Int)) dX7_wholeValue_23 (zk_at hR.1 rfl) (by omega) (by omega) ((zrw_x I F (by omega)).trans hn) ?_
    refine Ev.icmp_ge (pc := 24) (n := (0, 0)) (tgt := 162) dX7_wholeValue_24 rfl (fun hc => ?_) (fun hc => absurd hc (by omega))
    exact hh
  | succ j ih =>
    intro k hk hj o hh
    have hkn : k < n := by omega
    have k9 := ih (k + 1) (by omega) (by omega) o hh
    have hm := mtot_le hw
    have b0 := hw.2.2.2.1 k hkn
    have bT : 0 ≤ mTk F k ∧ mTk F k ≤ k * 1 := zsum_rng _ (by omega) k (fun x hx => by
      show 0 ≤ (if F x 1 = 1 then (1 : Int) else 0) ∧ (if F x 1 = 1 then (1 : Int) else 0) ≤ 1
      split <;> omega)
    have bD : 0 ≤ mDu F k ∧ mDu F k ≤ k * 60 := zsum_rng _ (by omega) k (fun x hx => (hw.2.2.2.1 x (by omega)).2.1)
    have bR : 0 ≤ mRe F k ∧ mRe F k ≤ mtot n F := by
      have h1 : ∀ x : Nat, x < n → 0 ≤ F x 6 := fun x hx => (hw.2.2.2.1 x hx).2.2.1.1
      refine ⟨zsum_nn (fun x hx => h1 x (by omega)), Int.le_trans (zsum_up (g := fun x => F x 6) hk h1) (zsum_le fun x hx => ?_)⟩
      have := (hw.2.2.2.1 x hx).2.1.1
      show F x 6 ≤ F x 5 + F x 6
      omega
    have bO : 0 ≤ mRo n F len sl k ∧ mRo n F len sl k ≤ k * 4 := zsum_rng _ (by omega) k (fun x hx => by
      show 0 ≤ (if F x 1 = 1 then 0 else mrws n F len sl x) ∧ (if F x 1 = 1 then 0 else mrws n F len sl x) ≤ 4
      have := zsum_rng (fun r => if mcr n F len sl x (F x 0) r then 1 else 0) (b := 1) (by omega) 4 (fun y hy => by
        show 0 ≤ (if mcr n F len sl x (F x 0) y then (1 : Int) else 0) ∧ (if mcr n F len sl x (F x 0) y then (1 : Int) else 0) ≤ 1
        split <;> omega)
      have e9 : mrws n F len sl x = zsum (fun r => if mcr n F len sl x (F x 0) r then 1 else 0) 4 := rfl
      split <;> omega)
    have eT : mTk F (k + 1) = mTk F k + (if F k 1 = 1 then 1 else 0) := rfl
    have eD : mDu F (k + 1) = mDu F k + F k 5 := rfl
    have eR : mRe F (k + 1) = mRe F k + F k 6 := rfl
    have eO : mRo n F len sl (k + 1) = mRo n F len sl k + (if F k 1 = 1 then 0 else mrws n F len sl k) := rfl
    have eM : mMo n F len st (k + 1) = zmx (mMo n F len st k) (mrun n F len st (st k)) := rfl
    have v1 : zrw I F 264 (k : Int) = st k := (congrFun (zrw_o I F (by decide)) _).trans (hA k hkn).2.1
    rw [eT, eD, eR, eO, eM] at k9
    refine Ev.iload (pc := 16) (n := (0, 0)) dX7_wholeValue_16 rfl ?_
    refine Ev.aload_n (pc := 18) (n := (0, 0)) (i := 0) dX7_wholeValue_18 rfl rfl ?_
    refine Ev.gR (pc := 19) (n := (0, 0)) (r := (some 261)) dX7_wholeValue_19 fl_X7_7 (zk_at hR.1 rfl) rfl hR.2.1 ?_
    refine Ev.iconst (pc := 22) (n := (0, 0)) dX7_wholeValue_22 ?_
    refine Ev.ia (pc := 23) (n := (0, 0)) (x := (n : Int)) dX7_wholeValue_23 (zk_at hR.1 rfl) (by omega) (by omega) ((zrw_x I F (by omega)).trans hn) ?_
    refine Ev.icmp_ge (pc := 24) (n := (0, 0)) (tgt := 162) dX7_wholeValue_24 rfl (fun hc => absurd hc (by omega)) (fun hc => ?_)
    refine Ev.aload_n (pc := 27) (n := (0, 0)) (i := 0) dX7_wholeValue_27 rfl rfl ?_
    refine Ev.iload (pc := 28) (n := (0, 0)) dX7_wholeValue_28 rfl ?_
    refine Ev.iconst (pc := 30) (n := (0, 0)) dX7_wholeValue_30 ?_
    refine Ev.callV (pc := 31) (n := (0, 0)) (ob := 260) (as := [zi (k : Int), zi 1]) (st := []) (s_ofF hR ⟨by omega, by omega⟩ ⟨by decide, by decide⟩) dX7_wholeValue_31 ok_X7_of (lk_X7_49 rfl) ⟨(Nat.le_of_ble_eq_true rfl), (Nat.le_of_ble_eq_true rfl)⟩ (zk_at hR.1 rfl) ⟨by decide, rfl⟩ rfl (Nat.le_of_ble_eq_true rfl) (Nat.le_of_ble_eq_true rfl) ⟨(Nat.le_of_ble_eq_true rfl), (Nat.le_of_ble_eq_true rfl)⟩ ?_
    refine Ev.iconst (pc := 34) (n := (0, 0)) dX7_wholeValue_34 ?_
    by_cases h1 : F k 1 = 1
    · skip
      rw [if_pos h1, if_pos h1] at k9
      refine Ev.icmp_ne (pc := 35) (n := (0, 0)) (tgt := 42) dX7_wholeValue_35 rfl (fun hc2 => absurd h1 hc2) (fun hc2 => ?_)
      refine Ev.iconst (pc := 38) (n := (0, 0)) dX7_wholeValue_38 ?_
      refine Ev.goto (pc := 39) (n := (0, 0)) (tgt := 43) dX7_wholeValue_39 rfl ?_
      refine Ev.istore (pc := 43) (n := (0, 0)) (i := 8) (L' := [(8, zi 1), (0, zr (some 260)), (1, zi w), (2, zi (mTk F k)), (3, zi (mDu F k)), (4, zi (mRe F k)), (5, zi (mRo n F len sl k)), (6, zi (mMo n F len st k)), (7, zi (k : Int))]) dX7_wholeValue_43 (Nat.le_of_ble_eq_true rfl) rfl ?_
      refine Ev.iload_n (pc := 45) (n := (0, 0)) (i := 2) dX7_wholeValue_45 rfl rfl ?_
      refine Ev.iload (pc := 46) (n := (0, 0)) dX7_wholeValue_46 rfl ?_
      refine Ev.if_eq (pc := 48) (n := (0, 0)) (tgt := 55) dX7_wholeValue_48 rfl (fun hc3 => absurd hc3 (by decide)) (fun hc3 => ?_)
      refine Ev.iconst (pc := 51) (n := (0, 0)) dX7_wholeValue_51 ?_
      refine Ev.goto (pc := 52) (n := (0, 0)) (tgt := 56) dX7_wholeValue_52 rfl ?_
      refine Ev.iadd (pc := 56) (n := (0, 0)) dX7_wholeValue_56 ⟨by omega, by omega⟩ ?_
      refine Ev.istore_n (pc := 57) (n := (0, 0)) (i := 2) (L' := [(2, zi ((mTk F k) + 1)), (8, zi 1), (0, zr (some 260)), (1, zi w), (3, zi (mDu F k)), (4, zi (mRe F k)), (5, zi (mRo n F len sl k)), (6, zi (mMo n F len st k)), (7, zi (k : Int))]) dX7_wholeValue_57 rfl (Nat.le_of_ble_eq_true rfl) rfl ?_
      refine Ev.iload_n (pc := 58) (n := (0, 0)) (i := 3) dX7_wholeValue_58 rfl rfl ?_
      refine Ev.aload_n (pc := 59) (n := (0, 0)) (i := 0) dX7_wholeValue_59 rfl rfl ?_
      refine Ev.iload (pc := 60) (n := (0, 0)) dX7_wholeValue_60 rfl ?_
      refine Ev.iconst (pc := 62) (n := (0, 0)) dX7_wholeValue_62 ?_
      refine Ev.callV (pc := 63) (n := (0, 0)) (ob := 260) (as := [zi (k : Int), zi 5]) (st := [zi (mDu F k)]) (s_ofF hR ⟨by omega, by omega⟩ ⟨by decide, by decide⟩) dX7_wholeValue_63 ok_X7_of (lk_X7_49 rfl) ⟨(Nat.le_of_ble_eq_true rfl), (Nat.le_of_ble_eq_true rfl)⟩ (zk_at hR.1 rfl) ⟨by decide, rfl⟩ rfl (Nat.le_of_ble_eq_true rfl) (Nat.le_of_ble_eq_true rfl) ⟨(Nat.le_of_ble_eq_true rfl), (Nat.le_of_ble_eq_true rfl)⟩ ?_
      refine Ev.iadd (pc := 66) (n := (0, 0)) dX7_wholeValue_66 ⟨by omega, by omega⟩ ?_
      refine Ev.istore_n (pc := 67) (n := (0, 0)) (i := 3) (L' := [(3, zi ((mDu F k) + (F (k : Int) 5))), (2, zi ((mTk F k) + 1)), (8, zi 1), (0, zr (some 260)), (1, zi w), (4, zi (mRe F k)), (5, zi (mRo n F len sl k)), (6, zi (mMo n F len st k)), (7, zi (k : Int))]) dX7_wholeValue_67 rfl (Nat.le_of_ble_eq_true rfl) rfl ?_
      refine Ev.iload (pc := 68) (n := (0, 0)) dX7_wholeValue_68 rfl ?_
      refine Ev.aload_n (pc := 70) (n := (0, 0)) (i := 0) dX7_wholeValue_70 rfl rfl ?_
      refine Ev.iload (pc := 71) (n := (0, 0)) dX7_wholeValue_71 rfl ?_
      refine Ev.bipush (pc := 73) (n := (0, 0)) dX7_wholeValue_73 ?_
      refine Ev.callV (pc := 75) (n := (0, 0)) (ob := 260) (as := [zi (k : Int), zi 6]) (st := [zi (mRe F k)]) (s_ofF hR ⟨by omega, by omega⟩ ⟨by decide, by decide⟩) dX7_wholeValue_75 ok_X7_of (lk_X7_49 rfl) ⟨(Nat.le_of_ble_eq_true rfl), (Nat.le_of_ble_eq_true rfl)⟩ (zk_at hR.1 rfl) ⟨by decide, rfl⟩ rfl (Nat.le_of_ble_eq_true rfl) (Nat.le_of_ble_eq_true rfl) ⟨(Nat.le_of_ble_eq_true rfl), (Nat.le_of_ble_eq_true rfl)⟩ ?_
      refine Ev.iadd (pc := 78) (n := (0, 0)) dX7_wholeValue_78 ⟨by omega, by omega⟩ ?_
      refine Ev.istore (pc := 79) (n := (0, 0)) (i := 4) (L' := [(4, zi ((mRe F k) + (F (k : Int) 6))), (3, zi ((mDu F k) + (F (k : Int) 5))), (2, zi ((mTk F k) + 1)), (8, zi 1), (0, zr (some 260)), (1, zi w), (5, zi (mRo n F len sl k)), (6, zi (mMo n F len st k)), (7, zi (k : Int))]) dX7_wholeValue_79 (Nat.le_of_ble_eq_true rfl) rfl ?_
      refine Ev.aload_n (pc := 81) (n := (0, 0)) (i := 0) dX7_wholeValue_81 rfl rfl ?_
      refine Ev.aload_n (pc := 82) (n := (0, 0)) (i := 0) dX7_wholeValue_82 rfl rfl ?_
      refine Ev.gR (pc := 83) (n := (0, 0)) (r := (some 264)) dX7_wholeValue_83 fl_X7_19 (zk_at hR.1 rfl) rfl hR.2.2.2.2.1 ?_
      refine Ev.iload (pc := 86) (n := (0, 0)) dX7_wholeValue_86 rfl ?_
      refine Ev.ia (pc := 88) (n := (0, 0)) (x := (st k)) dX7_wholeValue_88 (zk_at hR.1 rfl) (by omega) (by omega) v1 ?_
      refine Ev.callV (pc := 89) (n := (0, 0)) (ob := 260) (as := [zi (st k)]) (st := []) (s_runningAt hR hn hn24 hw hB hl ht hA) dX7_wholeValue_89 ok_X7_runningAt (lk_X7_180 rfl) ⟨(Nat.le_of_ble_eq_true rfl), (Nat.le_of_ble_eq_true rfl)⟩ (zk_at hR.1 rfl) ⟨by decide, rfl⟩ rfl (Nat.le_of_ble_eq_true rfl) (Nat.le_of_ble_eq_true rfl) ⟨(Nat.le_of_ble_eq_true rfl), (Nat.le_of_ble_eq_true rfl)⟩ ?_
      refine Ev.istore (pc := 92) (n := (0, 0)) (i := 9) (L' := [(9, zi (mrun n F len st (st k))), (4, zi ((mRe F k) + (F (k : Int) 6))), (3, zi ((mDu F k) + (F (k : Int) 5))), (2, zi ((mTk F k) + 1)), (8, zi 1), (0, zr (some 260)), (1, zi w), (5, zi (mRo n F len sl k)), (6, zi (mMo n F len st k)), (7, zi (k : Int))]) dX7_wholeValue_92 (Nat.le_of_ble_eq_true rfl) rfl ?_
      refine Ev.iload (pc := 94) (n := (0, 0)) dX7_wholeValue_94 rfl ?_
      refine Ev.iload (pc := 96) (n := (0, 0)) dX7_wholeValue_96 rfl ?_
      have K9 : ∀ v : Int, v = zmx (mMo n F len st k) (mrun n F len st (st k)) → Ev M_X7_wholeValue 108 [(9, zi (mrun n F len st (st k))), (4, zi ((mRe F k) + (F (k : Int) 6))), (3, zi ((mDu F k) + (F (k : Int) 5))), (2, zi ((mTk F k) + 1)), (8, zi 1), (0, zr (some 260)), (1, zi w), (5, zi (mRo n F len sl k)), (6, zi (mMo n F len st k)), (7, zi (k : Int))] [zi v] (h.1, zrw I F, h.2.2) (0, 0) o := by
        intro v hv
        subst hv
        refine Ev.istore (pc := 108) (n := (0, 0)) (i := 6) (L' := [(6, zi (zmx (mMo n F len st k) (mrun n F len st (st k)))), (9, zi (mrun n F len st (st k))), (4, zi ((mRe F k) + (F (k : Int) 6))), (3, zi ((mDu F k) + (F (k : Int) 5))), (2, zi ((mTk F k) + 1)), (8, zi 1), (0, zr (some 260)), (1, zi w), (5, zi (mRo n F len sl k)), (7, zi (k : Int))]) dX7_wholeValue_108 (Nat.le_of_ble_eq_true rfl) rfl ?_
        refine Ev.iconst (pc := 110) (n := (0, 0)) dX7_wholeValue_110 ?_
        refine Ev.istore (pc := 111) (n := (0, 0)) (i := 10) (L' := [(10, zi 0), (6, zi (zmx (mMo n F len st k) (mrun n F len st (st k)))), (9, zi (mrun n F len st (st k))), (4, zi ((mRe F k) + (F (k : Int) 6))), (3, zi ((mDu F k) + (F (k : Int) 5))), (2, zi ((mTk F k) + 1)), (8, zi 1), (0, zr (some 260)), (1, zi w), (5, zi (mRo n F len sl k)), (7, zi (k : Int))]) dX7_wholeValue_111 (Nat.le_of_ble_eq_true rfl) rfl ?_
        refine Ev.iload (pc := 113) (n := (0, 0)) dX7_wholeValue_113 rfl ?_
        refine Ev.iconst (pc := 115) (n := (0, 0)) dX7_wholeValue_115 ?_
        refine Ev.icmp_ge (pc := 116) (n := (0, 0)) (tgt := 156) dX7_wholeValue_116 rfl (fun hc5 => absurd hc5 (by omega)) (fun hc5 => ?_)
        refine Ev.iload (pc := 119) (n := (0, 0)) dX7_wholeValue_119 rfl ?_
        refine Ev.if_ne (pc := 121) (n := (0, 0)) (tgt := 156) dX7_wholeValue_121 rfl (fun hc6 => ?_) (fun hc6 => absurd hc6 (by decide))
        refine Ev.iinc (pc := 156) (n := (0, 0)) (L' := [(7, zi ((k : Int) + 1)), (10, zi 0), (6, zi (zmx (mMo n F len st k) (mrun n F len st (st k)))), (9, zi (mrun n F len st (st k))), (4, zi ((mRe F k) + (F (k : Int) 6))), (3, zi ((mDu F k) + (F (k : Int) 5))), (2, zi ((mTk F k) + 1)), (8, zi 1), (0, zr (some 260)), (1, zi w), (5, zi (mRo n F len sl k))]) dX7_wholeValue_156 rfl (Nat.le_of_ble_eq_true rfl) ⟨by omega, by omega⟩ rfl ?_
        refine Ev.goto (pc := 159) (n := (0, 0)) (tgt := 16) dX7_wholeValue_159 rfl ?_
        refine Ev.perm [8, 9, 6, 5, 4, 10, 2, 0] rfl ?_
        rw [Int.add_zero] at k9
        exact k9
      refine Ev.icmp_le (pc := 98) (n := (0, 0)) (tgt := 106) dX7_wholeValue_98 rfl (fun h4 => ?_) (fun h4 => ?_)
      · skip
        refine Ev.iload (pc := 106) (n := (0, 0)) dX7_wholeValue_106 rfl ?_
        exact K9 _ (if_neg (by omega)).symm
      · skip
        refine Ev.iload (pc := 101) (n := (0, 0)) dX7_wholeValue_101 rfl ?_
        refine Ev.goto (pc := 103) (n := (0, 0)) (tgt := 108) dX7_wholeValue_103 rfl ?_
        exact K9 _ (if_pos (by omega)).symm
    · skip
      rw [if_neg h1, if_neg h1] at k9
      refine Ev.icmp_ne (pc := 35) (n := (0, 0)) (tgt := 42) dX7_wholeValue_35 rfl (fun hc2 => ?_) (fun hc2 => absurd hc2 h1)
      refine Ev.iconst (pc := 42) (n := (0, 0)) dX7_wholeValue_42 ?_
      refine Ev.istore (pc := 43) (n := (0, 0)) (i := 8) (L' := [(8, zi 0), (0, zr (some 260)), (1, zi w), (2, zi (mTk F k)), (3, zi (mDu F k)), (4, zi (mRe F k)), (5, zi (mRo n F len sl k)), (6, zi (mMo n F len st k)), (7, zi (k : Int))]) dX7_wholeValue_43 (Nat.le_of_ble_eq_true rfl) rfl ?_
      refine Ev.iload_n (pc := 45) (n := (0, 0)) (i := 2) dX7_wholeValue_45 rfl rfl ?_
      refine Ev.iload (pc := 46) (n := (0, 0)) dX7_wholeValue_46 rfl ?_
      refine Ev.if_eq (pc := 48) (n := (0, 0)) (tgt := 55) dX7_wholeValue_48 rfl (fun hc3 => ?_) (fun hc3 => absurd rfl hc3)
      refine Ev.iconst (pc := 55) (n := (0, 0)) dX7_wholeValue_55 ?_
      refine Ev.iadd (pc := 56) (n := (0, 0)) dX7_wholeValue_56 ⟨by omega, by omega⟩ ?_
      refine Ev.istore_n (pc := 57) (n := (0, 0)) (i := 2) (L' := [(2, zi ((mTk F k) + 0)), (8, zi 0), (0, zr (some 260)), (1, zi w), (3, zi (mDu F k)), (4, zi (mRe F k)), (5, zi (mRo n F len sl k)), (6, zi (mMo n F len st k)), (7, zi (k : Int))]) dX7_wholeValue_57 rfl (Nat.le_of_ble_eq_true rfl) rfl ?_
      refine Ev.iload_n (pc := 58) (n := (0, 0)) (i := 3) dX7_wholeValue_58 rfl rfl ?_
      refine Ev.aload_n (pc := 59) (n := (0, 0)) (i := 0) dX7_wholeValue_59 rfl rfl ?_
      refine Ev.iload (pc := 60) (n := (0, 0)) dX7_wholeValue_60 rfl ?_
      refine Ev.iconst (pc := 62) (n := (0, 0)) dX7_wholeValue_62 ?_
      refine Ev.callV (pc := 63) (n := (0, 0)) (ob := 260) (as := [zi (k : Int), zi 5]) (st := [zi (mDu F k)]) (s_ofF hR ⟨by omega, by omega⟩ ⟨by decide, by decide⟩) dX7_wholeValue_63 ok_X7_of (lk_X7_49 rfl) ⟨(Nat.le_of_ble_eq_true rfl), (Nat.le_of_ble_eq_true rfl)⟩ (zk_at hR.1 rfl) ⟨by decide, rfl⟩ rfl (Nat.le_of_ble_eq_true rfl) (Nat.le_of_ble_eq_true rfl) ⟨(Nat.le_of_ble_eq_true rfl), (Nat.le_of_ble_eq_true rfl)⟩ ?_
      refine Ev.iadd (pc := 66) (n := (0, 0)) dX7_wholeValue_66 ⟨by omega, by omega⟩ ?_
      refine Ev.istore_n (pc := 67) (n := (0, 0)) (i := 3) (L' := [(3, zi ((mDu F k) + (F (k : Int) 5))), (2, zi ((mTk F k) + 0)), (8, zi 0), (0, zr (some 260)), (1, zi w), (4, zi (mRe F k)), (5, zi (mRo n F len sl k)), (6, zi (mMo n F len st k)), (7, zi (k : Int))]) dX7_wholeValue_67 rfl (Nat.le_of_ble_eq_true rfl) rfl ?_
      refine Ev.iload (pc := 68) (n := (0, 0)) dX7_wholeValue_68 rfl ?_
      refine Ev.aload_n (pc := 70) (n := (0, 0)) (i := 0) dX7_wholeValue_70 rfl rfl ?_
      refine Ev.iload (pc := 71) (n := (0, 0)) dX7_wholeValue_71 rfl ?_
      refine Ev.bipush (pc := 73) (n := (0, 0)) dX7_wholeValue_73 ?_
      refine Ev.callV (pc := 75) (n := (0, 0)) (ob := 260) (as := [zi (k : Int), zi 6]) (st := [zi (mRe F k)]) (s_ofF hR ⟨by omega, by omega⟩ ⟨by decide, by decide⟩) dX7_wholeValue_75 ok_X7_of (lk_X7_49 rfl) ⟨(Nat.le_of_ble_eq_true rfl), (Nat.le_of_ble_eq_true rfl)⟩ (zk_at hR.1 rfl) ⟨by decide, rfl⟩ rfl (Nat.le_of_ble_eq_true rfl) (Nat.le_of_ble_eq_true rfl) ⟨(Nat.le_of_ble_eq_true rfl), (Nat.le_of_ble_eq_true rfl)⟩ ?_
      refine Ev.iadd (pc := 78) (n := (0, 0)) dX7_wholeValue_78 ⟨by omega, by omega⟩ ?_
      refine Ev.istore (pc := 79) (n := (0, 0)) (i := 4) (L' := [(4, zi ((mRe F k) + (F (k : Int) 6))), (3, zi ((mDu F k) + (F (k : Int) 5))), (2, zi ((mTk F k) + 0)), (8, zi 0), (0, zr (some 260)), (1, zi w), (5, zi (mRo n F len sl k)), (6, zi (mMo n F len st k)), (7, zi (k : Int))]) dX7_wholeValue_79 (Nat.le_of_ble_eq_true rfl) rfl ?_
      refine Ev.aload_n (pc := 81) (n := (0, 0)) (i := 0) dX7_wholeValue_81 rfl rfl ?_
      refine Ev.aload_n (pc := 82) (n := (0, 0)) (i := 0) dX7_wholeValue_82 rfl rfl ?_
      refine Ev.gR (pc := 83) (n := (0, 0)) (r := (some 264)) dX7_wholeValue_83 fl_X7_19 (zk_at hR.1 rfl) rfl hR.2.2.2.2.1 ?_
      refine Ev.iload (pc := 86) (n := (0, 0)) dX7_wholeValue_86 rfl ?_
      refine Ev.ia (pc := 88) (n := (0, 0)) (x := (st k)) dX7_wholeValue_88 (zk_at hR.1 rfl) (by omega) (by omega) v1 ?_
      refine Ev.callV (pc := 89) (n := (0, 0)) (ob := 260) (as := [zi (st k)]) (st := []) (s_runningAt hR hn hn24 hw hB hl ht hA) dX7_wholeValue_89 ok_X7_runningAt (lk_X7_180 rfl) ⟨(Nat.le_of_ble_eq_true rfl), (Nat.le_of_ble_eq_true rfl)⟩ (zk_at hR.1 rfl) ⟨by decide, rfl⟩ rfl (Nat.le_of_ble_eq_true rfl) (Nat.le_of_ble_eq_true rfl) ⟨(Nat.le_of_ble_eq_true rfl), (Nat.le_of_ble_eq_true rfl)⟩ ?_
      refine Ev.istore (pc := 92) (n := (0, 0)) (i := 9) (L' := [(9, zi (mrun n F len st (st k))), (4, zi ((mRe F k) + (F (k : Int) 6))), (3, zi ((mDu F k) + (F (k : Int) 5))), (2, zi ((mTk F k) + 0)), (8, zi 0), (0, zr (some 260)), (1, zi w), (5, zi (mRo n F len sl k)), (6, zi (mMo n F len st k)), (7, zi (k : Int))]) dX7_wholeValue_92 (Nat.le_of_ble_eq_true rfl) rfl ?_
      refine Ev.iload (pc := 94) (n := (0, 0)) dX7_wholeValue_94 rfl ?_
      refine Ev.iload (pc := 96) (n := (0, 0)) dX7_wholeValue_96 rfl ?_
      have K9 : ∀ v : Int, v = zmx (mMo n F len st k) (mrun n F len st (st k)) → Ev M_X7_wholeValue 108 [(9, zi (mrun n F len st (st k))), (4, zi ((mRe F k) + (F (k : Int) 6))), (3, zi ((mDu F k) + (F (k : Int) 5))), (2, zi ((mTk F k) + 0)), (8, zi 0), (0, zr (some 260)), (1, zi w), (5, zi (mRo n F len sl k)), (6, zi (mMo n F len st k)), (7, zi (k : Int))] [zi v] (h.1, zrw I F, h.2.2) (0, 0) o := by
        intro v hv
        subst hv
        refine Ev.istore (pc := 108) (n := (0, 0)) (i := 6) (L' := [(6, zi (zmx (mMo n F len st k) (mrun n F len st (st k)))), (9, zi (mrun n F len st (st k))), (4, zi ((mRe F k) + (F (k : Int) 6))), (3, zi ((mDu F k) + (F (k : Int) 5))), (2, zi ((mTk F k) + 0)), (8, zi 0), (0, zr (some 260)), (1, zi w), (5, zi (mRo n F len sl k)), (7, zi (k : Int))]) dX7_wholeValue_108 (Nat.le_of_ble_eq_true rfl) rfl ?_
        refine Ev.iconst (pc := 110) (n := (0, 0)) dX7_wholeValue_110 ?_
        refine Ev.istore (pc := 111) (n := (0, 0)) (i := 10) (L' := [(10, zi 0), (6, zi (zmx (mMo n F len st k) (mrun n F len st (st k)))), (9, zi (mrun n F len st (st k))), (4, zi ((mRe F k) + (F (k : Int) 6))), (3, zi ((mDu F k) + (F (k : Int) 5))), (2, zi ((mTk F k) + 0)), (8, zi 0), (0, zr (some 260)), (1, zi w), (5, zi (mRo n F len sl k)), (7, zi (k : Int))]) dX7_wholeValue_111 (Nat.le_of_ble_eq_true rfl) rfl ?_
        refine Ev.perm [7, 8, 5, 4, 3, 9, 1, 10, 6, 0] rfl ?_
        have K8 := s_whole_rows hR hn hn24 hw hB hl ht hA hkn (w := w) (a := mTk F k + 0) (b := mDu F k + F k 5) (c := mRe F k + F k 6) (f := zmx (mMo n F len st k) (mrun n F len st (st k))) (e := mRo n F len sl k) (by omega) 4 0 (by omega) (by omega) o
        have e8 : zsum (fun r => if mcr n F len sl k (F k 0) r then 1 else 0) 0 = 0 := rfl
        rw [e8, Int.add_zero (mRo n F len sl k)] at K8
        refine K8 ?_
        refine Ev.perm [0, 1, 2, 3, 4, 5, 6, 7] rfl ?_
        refine Ev.iinc (pc := 156) (n := (0, 0)) (L' := [(7, zi ((k : Int) + 1)), (0, zr (some 260)), (1, zi w), (2, zi ((mTk F k) + 0)), (3, zi ((mDu F k) + (F (k : Int) 5))), (4, zi ((mRe F k) + (F (k : Int) 6))), (5, zi (mRo n F len sl k + mrws n F len sl k)), (6, zi (zmx (mMo n F len st k) (mrun n F len st (st k))))]) dX7_wholeValue_156 rfl (Nat.le_of_ble_eq_true rfl) ⟨by omega, by omega⟩ rfl ?_
        refine Ev.goto (pc := 159) (n := (0, 0)) (tgt := 16) dX7_wholeValue_159 rfl ?_
        refine Ev.perm [1, 2, 3, 4, 5, 6, 7, 0] rfl ?_
        exact k9
      refine Ev.icmp_le (pc := 98) (n := (0, 0)) (tgt := 106) dX7_wholeValue_98 rfl (fun h4 => ?_) (fun h4 => ?_)
      · skip
        refine Ev.iload (pc := 106) (n := (0, 0)) dX7_wholeValue_106 rfl ?_
        exact K9 _ (if_neg (by omega)).symm
      · skip
        refine Ev.iload (pc := 101) (n := (0, 0)) dX7_wholeValue_101 rfl ?_
        refine Ev.goto (pc := 103) (n := (0, 0)) (tgt := 108) dX7_wholeValue_103 rfl ?_
        exact K9 _ (if_pos (by omega)).symm
theorem s_wholeValue {h : zH} {I : Nat → Int → Int} {F : zF} (hR : zRM h) {n : Nat} (hn : I 261 0 = n) (hn24 : n ≤ 24) {dep : Nat → Nat} {B : Int} (hw : WF n F dep B) (hB : 24 * (60 + B) ≤ 1000000000) {len st sl dp : Int → Int} (hl : IsLen n F len) (ht : IsTm n F len st sl dp) (hA : ∀ k : Nat, k < n → I 263 k = len k ∧ I 264 k = st k ∧ I 265 k = sl k ∧ I 266 k = dp k) {dl ad lg : Int} (hd : I 261 2 = dl) (hd2 : 0 ≤ dl ∧ dl ≤ 999) (ha : I 261 1 = ad) (hg : I 260 4 = lg) {m : Nat} {A : Nat → Nat} (hC : CritTo F st sl n m A) {w : Int} (hw3 : 0 ≤ w ∧ w ≤ 11) : ∃ I2 : Nat → Int → Int, zKeep I I2 ∧ (∀ x : Nat, x < n → I2 263 x = len x ∧ I2 264 x = st x ∧ I2 265 x = sl x ∧ I2 266 x = dp x) ∧ Ev M_X7_wholeValue 0 [(0, zr (some 260)), (1, zi w)] [] (h.1, zrw I F, h.2.2) (0, 0) (.inl (some (zi (mwh n F len st sl dl ad m lg w))), (h.1, zrw I2 F, h.2.2)) := by
  suffices K : ∃ I2 : Nat → Int → Int, zKeep I I2 ∧ (∀ x : Nat, x < n → I2 263 x = len x ∧ I2 264 x = st x ∧ I2 265 x = sl x ∧ I2 266 x = dp x) ∧ Ev M_X7_wholeValue 162 [(0, zr (some 260)), (1, zi w), (2, zi (mTk F n)), (3, zi (mDu F n)), (4, zi (mRe F n)), (5, zi (mRo n F len sl n)), (6, zi (mMo n F len st n)), (7, zi (n : Int))] [] (h.1, zrw I F, h.2.2) (0, 0) (.inl (some (zi (mwh n F len st sl dl ad m lg w))), (h.1, zrw I2 F, h.2.2)) by
    obtain ⟨I2, k1, k2, k3⟩ := K
    refine ⟨I2, k1, k2, ?_⟩
    refine Ev.iconst (pc := 0) (n := (0, 0)) dX7_wholeValue_0 ?_
    refine Ev.istore_n (pc := 1) (n := (0, 0)) (i := 2) (L' := [(2, zi 0), (0, zr (some 260)), (1, zi w)]) dX7_wholeValue_1 rfl (Nat.le_of_ble_eq_true rfl) rfl ?_
    refine Ev.iconst (pc := 2) (n := (0, 0)) dX7_wholeValue_2 ?_
    refine Ev.istore_n (pc := 3) (n := (0, 0)) (i := 3) (L' := [(3, zi 0), (2, zi 0), (0, zr (some 260)), (1, zi w)]) dX7_wholeValue_3 rfl (Nat.le_of_ble_eq_true rfl) rfl ?_
    refine Ev.iconst (pc := 4) (n := (0, 0)) dX7_wholeValue_4 ?_
    refine Ev.istore (pc := 5) (n := (0, 0)) (i := 4) (L' := [(4, zi 0), (3, zi 0), (2, zi 0), (0, zr (some 260)), (1, zi w)]) dX7_wholeValue_5 (Nat.le_of_ble_eq_true rfl) rfl ?_
    refine Ev.iconst (pc := 7) (n := (0, 0)) dX7_wholeValue_7 ?_
    refine Ev.istore (pc := 8) (n := (0, 0)) (i := 5) (L' := [(5, zi 0), (4, zi 0), (3, zi 0), (2, zi 0), (0, zr (some 260)), (1, zi w)]) dX7_wholeValue_8 (Nat.le_of_ble_eq_true rfl) rfl ?_
    refine Ev.iconst (pc := 10) (n := (0, 0)) dX7_wholeValue_10 ?_
    refine Ev.istore (pc := 11) (n := (0, 0)) (i := 6) (L' := [(6, zi 0), (5, zi 0), (4, zi 0), (3, zi 0), (2, zi 0), (0, zr (some 260)), (1, zi w)]) dX7_wholeValue_11 (Nat.le_of_ble_eq_true rfl) rfl ?_
    refine Ev.iconst (pc := 13) (n := (0, 0)) dX7_wholeValue_13 ?_
    refine Ev.istore (pc := 14) (n := (0, 0)) (i := 7) (L' := [(7, zi 0), (6, zi 0), (5, zi 0), (4, zi 0), (3, zi 0), (2, zi 0), (0, zr (some 260)), (1, zi w)]) dX7_wholeValue_14 (Nat.le_of_ble_eq_true rfl) rfl ?_
    refine Ev.perm [6, 7, 5, 4, 3, 2, 1, 0] rfl ?_
    exact s_whole_loop hR hn hn24 hw hB hl ht hA n 0 (by omega) (by omega) _ k3
  rcases (show w = 0 ∨ w = 1 ∨ w = 2 ∨ w = 3 ∨ w = 4 ∨ w = 5 ∨ w = 6 ∨ w = 7 ∨ w = 8 ∨ w = 9 ∨ w = 10 ∨ w = 11 by omega) with e | e | e | e | e | e | e | e | e | e | e | e <;> subst e
  · skip
    have e9 : mwh n F len st sl dl ad m lg 0 = n := rfl
    rw [e9]
    refine ⟨I, zKeep.rfl' I, hA, ?_⟩
    refine Ev.iload_n (pc := 162) (n := (0, 0)) (i := 1) dX7_wholeValue_162 rfl rfl ?_
    refine Ev.tableIn (pc := 163) (n := (0, 0)) (off := 57) (tgt := 220) dX7_wholeValue_163 (by omega) (by omega) (by rfl) rfl ?_
    refine Ev.aload_n (pc := 220) (n := (0, 0)) (i := 0) dX7_wholeValue_220 rfl rfl ?_
    refine Ev.gR (pc := 221) (n := (0, 0)) (r := (some 261)) dX7_wholeValue_221 fl_X7_7 (zk_at hR.1 rfl) rfl hR.2.1 ?_
    refine Ev.iconst (pc := 224) (n := (0, 0)) dX7_wholeValue_224 ?_
    refine Ev.ia (pc := 225) (n := (0, 0)) (x := (n : Int)) dX7_wholeValue_225 (zk_at hR.1 rfl) (by omega) (by omega) ((zrw_x I F (by omega)).trans hn) ?_
    exact Ev.iret dX7_wholeValue_226 rfl ⟨(Nat.le_of_ble_eq_true rfl), (Nat.le_of_ble_eq_true rfl)⟩
  · skip
    have e9 : mwh n F len st sl dl ad m lg 1 = mTk F n := rfl
    rw [e9]
    refine ⟨I, zKeep.rfl' I, hA, ?_⟩
    refine Ev.iload_n (pc := 162) (n := (0, 0)) (i := 1) dX7_wholeValue_162 rfl rfl ?_
    refine Ev.tableIn (pc := 163) (n := (0, 0)) (off := 64) (tgt := 227) dX7_wholeValue_163 (by omega) (by omega) (by rfl) rfl ?_
    refine Ev.iload_n (pc := 227) (n := (0, 0)) (i := 2) dX7_wholeValue_227 rfl rfl ?_
    exact Ev.iret dX7_wholeValue_228 rfl ⟨(Nat.le_of_ble_eq_true rfl), (Nat.le_of_ble_eq_true rfl)⟩
  · skip
    have e9 : mwh n F len st sl dl ad m lg 2 = len 0 := rfl
    rw [e9]
    refine ⟨I, zKeep.rfl' I, hA, ?_⟩
    refine Ev.iload_n (pc := 162) (n := (0, 0)) (i := 1) dX7_wholeValue_162 rfl rfl ?_
    refine Ev.tableIn (pc := 163) (n := (0, 0)) (off := 66) (tgt := 229) dX7_wholeValue_163 (by omega) (by omega) (by rfl) rfl ?_
    refine Ev.aload_n (pc := 229) (n := (0, 0)) (i := 0) dX7_wholeValue_229 rfl rfl ?_
    refine Ev.gR (pc := 230) (n := (0, 0)) (r := (some 263)) dX7_wholeValue_230 fl_X7_16 (zk_at hR.1 rfl) rfl hR.2.2.2.1 ?_
    refine Ev.iconst (pc := 233) (n := (0, 0)) dX7_wholeValue_233 ?_
    refine Ev.ia (pc := 234) (n := (0, 0)) (x := (len 0)) dX7_wholeValue_234 (zk_at hR.1 rfl) (by omega) (by omega) ((congrFun (zrw_o I F (by decide)) 0).trans (hA 0 (by have := hw.1.1; omega)).1) ?_
    exact Ev.iret dX7_wholeValue_235 rfl ⟨(Nat.le_of_ble_eq_true rfl), (Nat.le_of_ble_eq_true rfl)⟩
  · skip
    have e9 : mwh n F len st sl dl ad m lg 3 = dl := rfl
    rw [e9]
    refine ⟨I, zKeep.rfl' I, hA, ?_⟩
    refine Ev.iload_n (pc := 162) (n := (0, 0)) (i := 1) dX7_wholeValue_162 rfl rfl ?_
    refine Ev.tableIn (pc := 163) (n := (0, 0)) (off := 73) (tgt := 236) dX7_wholeValue_163 (by omega) (by omega) (by rfl) rfl ?_
    refine Ev.aload_n (pc := 236) (n := (0, 0)) (i := 0) dX7_wholeValue_236 rfl rfl ?_
    refine Ev.gR (pc := 237) (n := (0, 0)) (r := (some 261)) dX7_wholeValue_237 fl_X7_7 (zk_at hR.1 rfl) rfl hR.2.1 ?_
    refine Ev.iconst (pc := 240) (n := (0, 0)) dX7_wholeValue_240 ?_
    refine Ev.ia (pc := 241) (n := (0, 0)) (x := dl) dX7_wholeValue_241 (zk_at hR.1 rfl) (by omega) (by omega) ((zrw_x I F (by omega)).trans hd) ?_
    exact Ev.iret dX7_wholeValue_242 rfl ⟨(Nat.le_of_ble_eq_true rfl), (Nat.le_of_ble_eq_true rfl)⟩
  · skip
    have e9 : mwh n F len st sl dl ad m lg 4 = mlate (len 0) dl := rfl
    rw [e9]
    obtain ⟨I2, hL, r⟩ := s_latenessF (I := I) (F := F) hR hn hn24 hw hB hl ht hd hd2
    refine ⟨I2, hL.keep, hL.2, ?_⟩
    refine Ev.iload_n (pc := 162) (n := (0, 0)) (i := 1) dX7_wholeValue_162 rfl rfl ?_
    refine Ev.tableIn (pc := 163) (n := (0, 0)) (off := 80) (tgt := 243) dX7_wholeValue_163 (by omega) (by omega) (by rfl) rfl ?_
    refine Ev.aload_n (pc := 243) (n := (0, 0)) (i := 0) dX7_wholeValue_243 rfl rfl ?_
    refine Ev.callV (pc := 244) (n := (0, 0)) (ob := 260) (as := []) (st := []) (r) dX7_wholeValue_244 ok_X7_lateness (lk_X7_162 rfl) ⟨(Nat.le_of_ble_eq_true rfl), (Nat.le_of_ble_eq_true rfl)⟩ (zk_at hR.1 rfl) ⟨by decide, rfl⟩ rfl (Nat.le_of_ble_eq_true rfl) (Nat.le_of_ble_eq_true rfl) ⟨(Nat.le_of_ble_eq_true rfl), (Nat.le_of_ble_eq_true rfl)⟩ ?_
    exact Ev.iret dX7_wholeValue_247 rfl ⟨(Nat.le_of_ble_eq_true rfl), (Nat.le_of_ble_eq_true rfl)⟩
  · skip
    have e9 : mwh n F len st sl dl ad m lg 5 = m := rfl
    rw [e9]
    obtain ⟨I2, m2, A2, q1, q2, q3, q4, q5⟩ := s_layCritical (I := I) (F := F) hR hn hn24 hw hB hl ht
    have em := (hC.uniq q2).1
    subst em
    refine ⟨I2, q1, q4, ?_⟩
    refine Ev.iload_n (pc := 162) (n := (0, 0)) (i := 1) dX7_wholeValue_162 rfl rfl ?_
    refine Ev.tableIn (pc := 163) (n := (0, 0)) (off := 85) (tgt := 248) dX7_wholeValue_163 (by omega) (by omega) (by rfl) rfl ?_
    refine Ev.aload_n (pc := 248) (n := (0, 0)) (i := 0) dX7_wholeValue_248 rfl rfl ?_
    refine Ev.callV (pc := 249) (n := (0, 0)) (ob := 260) (as := []) (st := []) (q5) dX7_wholeValue_249 ok_X7_layCritical (lk_X7_177 rfl) ⟨(Nat.le_of_ble_eq_true rfl), (Nat.le_of_ble_eq_true rfl)⟩ (zk_at hR.1 rfl) ⟨by decide, rfl⟩ rfl (Nat.le_of_ble_eq_true rfl) (Nat.le_of_ble_eq_true rfl) ⟨(Nat.le_of_ble_eq_true rfl), (Nat.le_of_ble_eq_true rfl)⟩ ?_
    exact Ev.iret dX7_wholeValue_252 rfl ⟨(Nat.le_of_ble_eq_true rfl), (Nat.le_of_ble_eq_true rfl)⟩
  · skip
    have e9 : mwh n F len st sl dl ad m lg 6 = mRo n F len sl n := rfl
    rw [e9]
    refine ⟨I, zKeep.rfl' I, hA, ?_⟩
    refine Ev.iload_n (pc := 162) (n := (0, 0)) (i := 1) dX7_wholeValue_162 rfl rfl ?_
    refine Ev.tableIn (pc := 163) (n := (0, 0)) (off := 90) (tgt := 253) dX7_wholeValue_163 (by omega) (by omega) (by rfl) rfl ?_
    refine Ev.iload (pc := 253) (n := (0, 0)) dX7_wholeValue_253 rfl ?_
    exact Ev.iret dX7_wholeValue_255 rfl ⟨(Nat.le_of_ble_eq_true rfl), (Nat.le_of_ble_eq_true rfl)⟩
  · skip
    have e9 : mwh n F len st sl dl ad m lg 7 = mDu F n := rfl
    rw [e9]
    refine ⟨I, zKeep.rfl' I, hA, ?_⟩
    refine Ev.iload_n (pc := 162) (n := (0, 0)) (i := 1) dX7_wholeValue_162 rfl rfl ?_
    refine Ev.tableIn (pc := 163) (n := (0, 0)) (off := 93) (tgt := 256) dX7_wholeValue_163 (by omega) (by omega) (by rfl) rfl ?_
    refine Ev.iload_n (pc := 256) (n := (0, 0)) (i := 3) dX7_wholeValue_256 rfl rfl ?_
    exact Ev.iret dX7_wholeValue_257 rfl ⟨(Nat.le_of_ble_eq_true rfl), (Nat.le_of_ble_eq_true rfl)⟩
  · skip
    have e9 : mwh n F len st sl dl ad m lg 8 = mRe F n := rfl
    rw [e9]
    refine ⟨I, zKeep.rfl' I, hA, ?_⟩
    refine Ev.iload_n (pc := 162) (n := (0, 0)) (i := 1) dX7_wholeValue_162 rfl rfl ?_
    refine Ev.tableIn (pc := 163) (n := (0, 0)) (off := 95) (tgt := 258) dX7_wholeValue_163 (by omega) (by omega) (by rfl) rfl ?_
    refine Ev.iload (pc := 258) (n := (0, 0)) dX7_wholeValue_258 rfl ?_
    exact Ev.iret dX7_wholeValue_260 rfl ⟨(Nat.le_of_ble_eq_true rfl), (Nat.le_of_ble_eq_true rfl)⟩
  · skip
    have e9 : mwh n F len st sl dl ad m lg 9 = mMo n F len st n := rfl
    rw [e9]
    refine ⟨I, zKeep.rfl' I, hA, ?_⟩
    refine Ev.iload_n (pc := 162) (n := (0, 0)) (i := 1) dX7_wholeValue_162 rfl rfl ?_
    refine Ev.tableIn (pc := 163) (n := (0, 0)) (off := 98) (tgt := 261) dX7_wholeValue_163 (by omega) (by omega) (by rfl) rfl ?_
    refine Ev.iload (pc := 261) (n := (0, 0)) dX7_wholeValue_261 rfl ?_
    exact Ev.iret dX7_wholeValue_263 rfl ⟨(Nat.le_of_ble_eq_true rfl), (Nat.le_of_ble_eq_true rfl)⟩
  · skip
    have e9 : mwh n F len st sl dl ad m lg 10 = ad := rfl
    rw [e9]
    refine ⟨I, zKeep.rfl' I, hA, ?_⟩
    refine Ev.iload_n (pc := 162) (n := (0, 0)) (i := 1) dX7_wholeValue_162 rfl rfl ?_
    refine Ev.tableIn (pc := 163) (n := (0, 0)) (off := 101) (tgt := 264) dX7_wholeValue_163 (by omega) (by omega) (by rfl) rfl ?_
    refine Ev.aload_n (pc := 264) (n := (0, 0)) (i := 0) dX7_wholeValue_264 rfl rfl ?_
    refine Ev.gR (pc := 265) (n := (0, 0)) (r := (some 261)) dX7_wholeValue_265 fl_X7_7 (zk_at hR.1 rfl) rfl hR.2.1 ?_
    refine Ev.iconst (pc := 268) (n := (0, 0)) dX7_wholeValue_268 ?_
    refine Ev.ia (pc := 269) (n := (0, 0)) (x := ad) dX7_wholeValue_269 (zk_at hR.1 rfl) (by omega) (by omega) ((zrw_x I F (by omega)).trans ha) ?_
    exact Ev.iret dX7_wholeValue_270 rfl ⟨(Nat.le_of_ble_eq_true rfl), (Nat.le_of_ble_eq_true rfl)⟩
  · skip
    have e9 : mwh n F len st sl dl ad m lg 11 = lg := rfl
    rw [e9]
    refine ⟨I, zKeep.rfl' I, hA, ?_⟩
    refine Ev.iload_n (pc := 162) (n := (0, 0)) (i := 1) dX7_wholeValue_162 rfl rfl ?_
    refine Ev.tableOut (pc := 163) (n := (0, 0)) (tgt := 271) dX7_wholeValue_163 (by omega) rfl ?_
    refine Ev.aload_n (pc := 271) (n := (0, 0)) (i := 0) dX7_wholeValue_271 rfl rfl ?_
    refine Ev.gI (pc := 272) (n := (0, 0)) (x := lg) dX7_wholeValue_272 fl_X7_183 (zk_at hR.1 rfl) rfl ((congrFun (zrw_o I F (by decide)) 4).trans hg) ?_
    exact Ev.iret dX7_wholeValue_275 rfl ⟨(Nat.le_of_ble_eq_true rfl), (Nat.le_of_ble_eq_true rfl)⟩
theorem s_whole_no {h : zH} {I : Nat → Int → Int} {F : zF} (hR : zRM h) {n : Nat} (hn : I 261 0 = n) (hn24 : n ≤ 24) {w : Int} (h2 : ¬ (0 ≤ w ∧ w ≤ 11)) : Ev M_X7_whole 0 [(0, zr (some 260)), (1, zi w)] [] (h.1, zrw I F, h.2.2) (0, 0) (.inl (some (zi 0)), (h.1, zrw (zup I 260 2 1) F, h.2.2)) := by
  refine Ev.aload_n (pc := 0) (n := (0, 0)) (i := 0) dX7_whole_0 rfl rfl ?_
  refine Ev.iload_n (pc := 1) (n := (0, 0)) (i := 1) dX7_whole_1 rfl rfl ?_
  refine Ev.iconst (pc := 2) (n := (0, 0)) dX7_whole_2 ?_
  refine Ev.bipush (pc := 3) (n := (0, 0)) dX7_whole_3 ?_
  refine Ev.callS (pc := 5) (n := (0, 0)) (as := [zi w, zi 0, zi 11]) (st := [zr (some 260)]) (s_in (h.1, zrw I F, h.2.2) w 0 11) dX7_whole_5 ok_X7_in (lk_X7_91 rfl) ⟨(Nat.le_of_ble_eq_true rfl), (Nat.le_of_ble_eq_true rfl)⟩ rfl (Nat.le_of_ble_eq_true rfl) (Nat.le_of_ble_eq_true rfl) ⟨(Nat.le_of_ble_eq_true rfl), (Nat.le_of_ble_eq_true rfl)⟩ ?_
  rw [if_neg h2]
  refine Ev.if_eq (pc := 8) (n := (0, 0)) (tgt := 15) dX7_whole_8 rfl (fun hc2 => ?_) (fun hc2 => absurd rfl hc2)
  refine Ev.iconst (pc := 15) (n := (0, 0)) dX7_whole_15 ?_
  refine Ev.callV (pc := 16) (n := (0, 0)) (ob := 260) (as := [zi 1]) (st := []) (s_refF (I := I) hR 1) dX7_whole_16 ok_X7_isRefused (lk_X7_60 rfl) ⟨(Nat.le_of_ble_eq_true rfl), (Nat.le_of_ble_eq_true rfl)⟩ (zk_at hR.1 rfl) ⟨by decide, rfl⟩ rfl (Nat.le_of_ble_eq_true rfl) (Nat.le_of_ble_eq_true rfl) ⟨(Nat.le_of_ble_eq_true rfl), (Nat.le_of_ble_eq_true rfl)⟩ ?_
  rw [if_neg (by decide : ¬ (1 : Int) = 0)]
  refine Ev.if_eq (pc := 19) (n := (0, 0)) (tgt := 24) dX7_whole_19 rfl (fun hc9 => absurd hc9 (by decide)) (fun hc9 => ?_)
  refine Ev.iconst (pc := 22) (n := (0, 0)) dX7_whole_22 ?_
  exact Ev.iret dX7_whole_23 rfl ⟨(Nat.le_of_ble_eq_true rfl), (Nat.le_of_ble_eq_true rfl)⟩
theorem s_whole {h : zH} {I : Nat → Int → Int} {F : zF} (hR : zRM h) {n : Nat} (hn : I 261 0 = n) (hn24 : n ≤ 24) {dep : Nat → Nat} {B : Int} (hw : WF n F dep B) (hB : 24 * (60 + B) ≤ 1000000000) {len st sl dp : Int → Int} (hl : IsLen n F len) (ht : IsTm n F len st sl dp) {dl ad lg : Int} (hd : I 261 2 = dl) (hd2 : 0 ≤ dl ∧ dl ≤ 999) (ha : I 261 1 = ad) (hg : I 260 4 = lg) {m : Nat} {A : Nat → Nat} (hC : CritTo F st sl n m A) {w : Int} (h2 : 0 ≤ w ∧ w ≤ 11) : ∃ I2 : Nat → Int → Int, zKeep (zup I 260 2 0) I2 ∧ (∀ x : Nat, x < n → I2 263 x = len x ∧ I2 264 x = st x ∧ I2 265 x = sl x ∧ I2 266 x = dp x) ∧ Ev M_X7_whole 0 [(0, zr (some 260)), (1, zi w)] [] (h.1, zrw I F, h.2.2) (0, 0) (.inl (some (zi (mwh n F len st sl dl ad m lg w))), (h.1, zrw I2 F, h.2.2)) := by
  have hn0 : zup I 260 2 0 261 0 = n := (zup_o _ _ _ _ (by decide)).trans hn
  obtain ⟨I1, hL, r⟩ := s_layF (I := (zup I 260 2 0)) (F := F) hR hn0 hw hB hl ht
  have hK := hL.keep
  obtain ⟨I2, k1, k2, k3⟩ := s_wholeValue (I := I1) (F := F) hR (hK.x (by omega) hn0) hn24 hw hB hl ht hL.2 (hK.x (by omega) ((zup_o _ _ _ _ (by decide)).trans hd)) hd2 (hK.x (by omega) ((zup_o _ _ _ _ (by decide)).trans ha)) ((congrFun (hK.1 260 (by decide)) 4).trans ((zup_k _ _ _ _ (by decide)).trans hg)) hC h2
  refine ⟨I2, hK.trans k1, k2, ?_⟩
  refine Ev.aload_n (pc := 0) (n := (0, 0)) (i := 0) dX7_whole_0 rfl rfl ?_
  refine Ev.iload_n (pc := 1) (n := (0, 0)) (i := 1) dX7_whole_1 rfl rfl ?_
  refine Ev.iconst (pc := 2) (n := (0, 0)) dX7_whole_2 ?_
  refine Ev.bipush (pc := 3) (n := (0, 0)) dX7_whole_3 ?_
  refine Ev.callS (pc := 5) (n := (0, 0)) (as := [zi w, zi 0, zi 11]) (st := [zr (some 260)]) (s_in (h.1, zrw I F, h.2.2) w 0 11) dX7_whole_5 ok_X7_in (lk_X7_91 rfl) ⟨(Nat.le_of_ble_eq_true rfl), (Nat.le_of_ble_eq_true rfl)⟩ rfl (Nat.le_of_ble_eq_true rfl) (Nat.le_of_ble_eq_true rfl) ⟨(Nat.le_of_ble_eq_true rfl), (Nat.le_of_ble_eq_true rfl)⟩ ?_
  rw [if_pos h2]
  refine Ev.if_eq (pc := 8) (n := (0, 0)) (tgt := 15) dX7_whole_8 rfl (fun hc2 => absurd hc2 (by decide)) (fun hc2 => ?_)
  refine Ev.iconst (pc := 11) (n := (0, 0)) dX7_whole_11 ?_
  refine Ev.goto (pc := 12) (n := (0, 0)) (tgt := 16) dX7_whole_12 rfl ?_
  refine Ev.callV (pc := 16) (n := (0, 0)) (ob := 260) (as := [zi 0]) (st := []) (s_refF (I := I) hR 0) dX7_whole_16 ok_X7_isRefused (lk_X7_60 rfl) ⟨(Nat.le_of_ble_eq_true rfl), (Nat.le_of_ble_eq_true rfl)⟩ (zk_at hR.1 rfl) ⟨by decide, rfl⟩ rfl (Nat.le_of_ble_eq_true rfl) (Nat.le_of_ble_eq_true rfl) ⟨(Nat.le_of_ble_eq_true rfl), (Nat.le_of_ble_eq_true rfl)⟩ ?_
  rw [if_pos (rfl : (0 : Int) = 0)]
  refine Ev.if_eq (pc := 19) (n := (0, 0)) (tgt := 24) dX7_whole_19 rfl (fun hc9 => ?_) (fun hc9 => absurd rfl hc9)
  refine Ev.aload_n (pc := 24) (n := (0, 0)) (i := 0) dX7_whole_24 rfl rfl ?_
  refine Ev.callV (pc := 25) (n := (0, 0)) (ob := 260) (as := []) (st := []) (r) dX7_whole_25 ok_X7_lay (lk_X7_84 rfl) ⟨(Nat.le_of_ble_eq_true rfl), (Nat.le_of_ble_eq_true rfl)⟩ (zk_at hR.1 rfl) ⟨by decide, rfl⟩ rfl (Nat.le_of_ble_eq_true rfl) (Nat.le_of_ble_eq_true rfl) ⟨(Nat.le_of_ble_eq_true rfl), (Nat.le_of_ble_eq_true rfl)⟩ ?_
  refine Ev.aload_n (pc := 28) (n := (0, 0)) (i := 0) dX7_whole_28 rfl rfl ?_
  refine Ev.iload_n (pc := 29) (n := (0, 0)) (i := 1) dX7_whole_29 rfl rfl ?_
  refine Ev.callV (pc := 30) (n := (0, 0)) (ob := 260) (as := [zi w]) (st := []) (k3) dX7_whole_30 ok_X7_wholeValue (lk_X7_186 rfl) ⟨(Nat.le_of_ble_eq_true rfl), (Nat.le_of_ble_eq_true rfl)⟩ (zk_at hR.1 rfl) ⟨by decide, rfl⟩ rfl (Nat.le_of_ble_eq_true rfl) (Nat.le_of_ble_eq_true rfl) ⟨(Nat.le_of_ble_eq_true rfl), (Nat.le_of_ble_eq_true rfl)⟩ ?_
  exact Ev.iret dX7_whole_33 rfl ⟨(Nat.le_of_ble_eq_true rfl), (Nat.le_of_ble_eq_true rfl)⟩
theorem s_undo_no {h : zH} {I : Nat → Int → Int} {F : zF} (hR : zRM h) {n : Nat} (hn : I 261 0 = n) (hn24 : n ≤ 24) {kp : Int} (hkp : I 260 1 = kp) (hk0 : kp = 0) : Ev M_X7_undo 0 [(0, zr (some 260))] [] (h.1, zrw I F, h.2.2) (0, 0) (.inl (some (zi 0)), (h.1, zrw (zup I 260 2 1) F, h.2.2)) := by
  subst hk0
  refine Ev.aload_n (pc := 0) (n := (0, 0)) (i := 0) dX7_undo_0 rfl rfl ?_
  refine Ev.aload_n (pc := 1) (n := (0, 0)) (i := 0) dX7_undo_1 rfl rfl ?_
  refine Ev.gI (pc := 2) (n := (0, 0)) (x := 0) dX7_undo_2 fl_X7_41 (zk_at hR.1 rfl) rfl ((congrFun (zrw_o I F (by decide)) 1).trans hkp) ?_
  refine Ev.if_ne (pc := 5) (n := (0, 0)) (tgt := 12) dX7_undo_5 rfl (fun hc => absurd rfl hc) (fun hc => ?_)
  refine Ev.iconst (pc := 8) (n := (0, 0)) dX7_undo_8 ?_
  refine Ev.goto (pc := 9) (n := (0, 0)) (tgt := 13) dX7_undo_9 rfl ?_
  refine Ev.callV (pc := 13) (n := (0, 0)) (ob := 260) (as := [zi 1]) (st := []) (s_refF (I := I) hR 1) dX7_undo_13 ok_X7_isRefused (lk_X7_60 rfl) ⟨(Nat.le_of_ble_eq_true rfl), (Nat.le_of_ble_eq_true rfl)⟩ (zk_at hR.1 rfl) ⟨by decide, rfl⟩ rfl (Nat.le_of_ble_eq_true rfl) (Nat.le_of_ble_eq_true rfl) ⟨(Nat.le_of_ble_eq_true rfl), (Nat.le_of_ble_eq_true rfl)⟩ ?_
  rw [if_neg (by decide : ¬ (1 : Int) = 0)]
  refine Ev.if_eq (pc := 16) (n := (0, 0)) (tgt := 21) dX7_undo_16 rfl (fun hc9 => absurd hc9 (by decide)) (fun hc9 => ?_)
  refine Ev.iconst (pc := 19) (n := (0, 0)) dX7_undo_19 ?_
  exact Ev.iret dX7_undo_20 rfl ⟨(Nat.le_of_ble_eq_true rfl), (Nat.le_of_ble_eq_true rfl)⟩
theorem s_undo {h : zH} {I : Nat → Int → Int} {F : zF} (hR : zRM h) {n : Nat} (hn : I 261 0 = n) (hn24 : n ≤ 24) {kp : Int} (hkp : I 260 1 = kp) (hk0 : 1 ≤ kp ∧ kp ≤ 4) : Ev M_X7_undo 0 [(0, zr (some 260))] [] (h.1, zrw I F, h.2.2) (0, 0) (.inl (some (zi (kp - 1))), (h.1, zup (zcp (zrw (zup I 260 2 0) F) (171 * kp) 0 171) 260 1 (kp - 1), h.2.2)) := by
  have hkp0 : (zup I 260 2 0) 260 1 = kp := (zup_k _ _ _ _ (by decide)).trans hkp
  have hkp1 : zcp (zrw (zup I 260 2 0) F) (171 * kp) 0 171 260 1 = kp := by
    rw [zcp_o _ _ _ _ (by decide), zrw_o _ _ (by decide)]; exact hkp0
  refine Ev.aload_n (pc := 0) (n := (0, 0)) (i := 0) dX7_undo_0 rfl rfl ?_
  refine Ev.aload_n (pc := 1) (n := (0, 0)) (i := 0) dX7_undo_1 rfl rfl ?_
  refine Ev.gI (pc := 2) (n := (0, 0)) (x := kp) dX7_undo_2 fl_X7_41 (zk_at hR.1 rfl) rfl ((congrFun (zrw_o I F (by decide)) 1).trans hkp) ?_
  refine Ev.if_ne (pc := 5) (n := (0, 0)) (tgt := 12) dX7_undo_5 rfl (fun hc => ?_) (fun hc => absurd hc (by omega))
  refine Ev.iconst (pc := 12) (n := (0, 0)) dX7_undo_12 ?_
  refine Ev.callV (pc := 13) (n := (0, 0)) (ob := 260) (as := [zi 0]) (st := []) (s_refF (I := I) hR 0) dX7_undo_13 ok_X7_isRefused (lk_X7_60 rfl) ⟨(Nat.le_of_ble_eq_true rfl), (Nat.le_of_ble_eq_true rfl)⟩ (zk_at hR.1 rfl) ⟨by decide, rfl⟩ rfl (Nat.le_of_ble_eq_true rfl) (Nat.le_of_ble_eq_true rfl) ⟨(Nat.le_of_ble_eq_true rfl), (Nat.le_of_ble_eq_true rfl)⟩ ?_
  rw [if_pos (rfl : (0 : Int) = 0)]
  refine Ev.if_eq (pc := 16) (n := (0, 0)) (tgt := 21) dX7_undo_16 rfl (fun hc9 => ?_) (fun hc9 => absurd rfl hc9)
  refine Ev.aload_n (pc := 21) (n := (0, 0)) (i := 0) dX7_undo_21 rfl rfl ?_
  refine Ev.sipush (pc := 22) (n := (0, 0)) dX7_undo_22 ?_
  refine Ev.aload_n (pc := 25) (n := (0, 0)) (i := 0) dX7_undo_25 rfl rfl ?_
  refine Ev.gI (pc := 26) (n := (0, 0)) (x := kp) dX7_undo_26 fl_X7_41 (zk_at hR.1 rfl) rfl ((congrFun (zrw_o (zup I 260 2 0) F (by decide)) 1).trans hkp0) ?_
  refine Ev.imul (pc := 29) (n := (0, 0)) dX7_undo_29 ⟨by omega, by omega⟩ ?_
  refine Ev.iconst (pc := 30) (n := (0, 0)) dX7_undo_30 ?_
  refine Ev.callV (pc := 31) (n := (0, 0)) (ob := 260) (as := [zi (171 * kp), zi 0]) (st := []) (s_copies (h := (h.1, zrw (zup I 260 2 0) F, h.2.2)) hR (a := 171 * kp) (b := 0) (by omega) (by omega) (by omega)) dX7_undo_31 ok_X7_copies (lk_X7_45 rfl) ⟨(Nat.le_of_ble_eq_true rfl), (Nat.le_of_ble_eq_true rfl)⟩ (zk_at hR.1 rfl) ⟨by decide, rfl⟩ rfl (Nat.le_of_ble_eq_true rfl) (Nat.le_of_ble_eq_true rfl) ⟨(Nat.le_of_ble_eq_true rfl), (Nat.le_of_ble_eq_true rfl)⟩ ?_
  refine Ev.aload_n (pc := 34) (n := (0, 0)) (i := 0) dX7_undo_34 rfl rfl ?_
  refine Ev.dup (pc := 35) (n := (0, 0)) dX7_undo_35 rfl ?_
  refine Ev.gI (pc := 36) (n := (0, 0)) (x := kp) dX7_undo_36 fl_X7_41 (zk_at hR.1 rfl) rfl hkp1 ?_
  refine Ev.iconst (pc := 39) (n := (0, 0)) dX7_undo_39 ?_
  refine Ev.isub (pc := 40) (n := (0, 0)) dX7_undo_40 ⟨by omega, by omega⟩ ?_
  refine Ev.putI (pc := 41) (n := (0, 0)) dX7_undo_41 fl_X7_41 (zk_at hR.1 rfl) rfl rfl (fun h9 => by cases h9) ?_
  refine Ev.aload_n (pc := 44) (n := (0, 0)) (i := 0) dX7_undo_44 rfl rfl ?_
  refine Ev.gI (pc := 45) (n := (0, 0)) (x := (kp - 1)) dX7_undo_45 fl_X7_41 (zk_at hR.1 rfl) rfl (show zup (zcp (zrw (zup I 260 2 0) F) (171 * kp) 0 171) 260 1 (kp - 1) 260 1 = kp - 1 from zup_s _ _ _ _) ?_
  exact Ev.iret dX7_undo_48 rfl ⟨(Nat.le_of_ble_eq_true rfl), (Nat.le_of_ble_eq_true rfl)⟩
