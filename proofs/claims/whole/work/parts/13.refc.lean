/-! the nodes of the present state written anew -/
def zrw (I : Nat → Int → Int) (F : zF) : Nat → Int → Int := fun o x => if o = 261 ∧ 3 ≤ x ∧ x < 171 then F ((x - 3) / 7) ((x - 3) % 7) else I o x
def fup (F : zF) (k w v : Int) : zF := fun k' w' => if k' = k ∧ w' = w then v else F k' w'
theorem zrw_congr {I : Nat → Int → Int} {F F' : zF} (h : ∀ k w : Int, 0 ≤ k → k < 24 → 0 ≤ w → w < 7 → F k w = F' k w) : zrw I F = zrw I F' := by
  funext o x
  unfold zrw
  split
  · exact h _ _ (by omega) (by omega) (by omega) (by omega)
  · rfl
theorem zrw_self (I : Nat → Int → Int) : zrw I (fun k w => I 261 (3 + 7 * k + w)) = I := by
  funext o x
  unfold zrw
  split
  · have e : 3 + 7 * ((x - 3) / 7) + (x - 3) % 7 = x := by omega
    rename_i g
    show I 261 (3 + 7 * ((x - 3) / 7) + (x - 3) % 7) = I o x
    rw [e, g.1]
  · rfl
theorem zrw_o (I : Nat → Int → Int) (F : zF) {o : Nat} (h : o ≠ 261) : zrw I F o = I o := by
  funext x
  unfold zrw
  rw [if_neg (fun g => h g.1)]
theorem zrw_x (I : Nat → Int → Int) (F : zF) {x : Int} (h : x < 3 ∨ 171 ≤ x) : zrw I F 261 x = I 261 x := by
  unfold zrw
  rw [if_neg (by omega)]
theorem zrw_at (I : Nat → Int → Int) (F : zF) {k w : Int} (hk : 0 ≤ k ∧ k < 24) (hw : 0 ≤ w ∧ w < 7) : zrw I F 261 (3 + 7 * k + w) = F k w := by
  unfold zrw
  rw [if_pos (by omega), show (3 + 7 * k + w - 3) / 7 = k by omega, show (3 + 7 * k + w - 3) % 7 = w by omega]
theorem zrw_set (I : Nat → Int → Int) (F : zF) {k w v : Int} (hk : 0 ≤ k ∧ k < 24) (hw : 0 ≤ w ∧ w < 7) : zup (zrw I F) 261 (3 + 7 * k + w) v = zrw I (fup F k w v) := by
  funext o x
  unfold zup zrw fup
  by_cases h1 : o = 261 ∧ x = 3 + 7 * k + w
  · rw [if_pos h1, if_pos (by omega), if_pos (by omega)]
  · rw [if_neg h1]
    by_cases h2 : o = 261 ∧ 3 ≤ x ∧ x < 171
    · rw [if_pos h2, if_pos h2, if_neg (by omega)]
    · rw [if_neg h2, if_neg h2]
theorem s_ofF {h : zH} {I : Nat → Int → Int} {F : zF} (hR : zRM h) {k w : Int} (hk : 0 ≤ k ∧ k < 24) (hw : 0 ≤ w ∧ w < 7) : Ev M_X7_of 0 [(0, zr (some 260)), (1, zi k), (2, zi w)] [] (h.1, zrw I F, h.2.2) (0, 0) (.inl (some (zi (F k w))), (h.1, zrw I F, h.2.2)) := by
  have k9 := s_of (h := (h.1, zrw I F, h.2.2)) (hR.up _) hk hw
  have e2 : rf (h.1, zrw I F, h.2.2) k w = F k w := zrw_at I F hk hw
  rw [e2] at k9
  exact k9
theorem s_setF {h : zH} {I : Nat → Int → Int} {F : zF} (hR : zRM h) {k w v : Int} (hk : 0 ≤ k ∧ k < 24) (hw : 0 ≤ w ∧ w < 7) : Ev M_X7_set 0 [(0, zr (some 260)), (1, zi k), (2, zi w), (3, zi v)] [] (h.1, zrw I F, h.2.2) (0, 0) (.inl none, (h.1, zrw I (fup F k w v), h.2.2)) := by
  have k9 := s_set (h := (h.1, zrw I F, h.2.2)) (hR.up _) (v := v) hk hw
  have e2 : zup (h.1, zrw I F, h.2.2).2.1 261 (3 + 7 * k + w) v = zrw I (fup F k w v) := zrw_set I F hk hw
  rw [e2] at k9
  exact k9
/-! the same reads over nodes written anew -/
theorem zfnd_congr {g g' : Int → Int} {x : Int} : ∀ {m : Nat}, (∀ k : Nat, k < m → g k = g' k) → zfnd g x m = zfnd g' x m := by
  intro m
  induction m with
  | zero => intro _; rfl
  | succ m ih =>
    intro h
    show (if 0 ≤ zfnd g x m then zfnd g x m else if g m = x then (m : Int) else -1) = (if 0 ≤ zfnd g' x m then zfnd g' x m else if g' m = x then (m : Int) else -1)
    rw [ih (fun k hk => h k (by omega)), h m (by omega)]
abbrev zpos (n : Nat) (f : zF) (x : Int) : Int := zfnd (fun j => f j 0) x n
theorem s_findF {h : zH} {I : Nat → Int → Int} {F : zF} (hR : zRM h) {n : Nat} {x : Int} (hn : I 261 0 = n) (hn24 : n ≤ 24) : Ev M_X7_find 0 [(0, zr (some 260)), (1, zi x)] [] (h.1, zrw I F, h.2.2) (0, 0) (.inl (some (zi (zpos n F x))), (h.1, zrw I F, h.2.2)) := by
  have k9 := s_find (h := (h.1, zrw I F, h.2.2)) (hR.up _) (x := x) (n := n) ((zrw_x I F (by omega)).trans hn) hn24
  have e2 : zfnd (fun j => rf (h.1, zrw I F, h.2.2) j 0) x n = zpos n F x := zfnd_congr fun k hk => zrw_at I F (by omega) (by omega)
  rw [e2] at k9
  exact k9
theorem s_isInF {h : zH} {I : Nat → Int → Int} {F : zF} (hR : zRM h) {k gr r : Int} (hk : 0 ≤ k ∧ k < 24) : Ev M_X7_isIn 0 [(0, zr (some 260)), (1, zi k), (2, zi gr), (3, zi r)] [] (h.1, zrw I F, h.2.2) (0, 0) (.inl (some (zi (if F k 2 = gr ∧ F k 3 = r then 1 else 0))), (h.1, zrw I F, h.2.2)) := by
  have k9 := s_isIn (h := (h.1, zrw I F, h.2.2)) (hR.up _) (gr := gr) (r := r) hk
  have e2 : rf (h.1, zrw I F, h.2.2) k 2 = F k 2 := zrw_at I F hk (by omega)
  have e3 : rf (h.1, zrw I F, h.2.2) k 3 = F k 3 := zrw_at I F hk (by omega)
  rw [e2, e3] at k9
  exact k9
/-- how many children a row has -/
def mcc (n : Nat) (f : zF) (g r : Int) : Int := zsum (fun j => if f j 2 = g ∧ f j 3 = r then 1 else 0) n
theorem mcc_bd (f : zF) (g r : Int) : ∀ m : Nat, 0 ≤ zsum (fun j => if f j 2 = g ∧ f j 3 = r then 1 else 0) m ∧ zsum (fun j => if f j 2 = g ∧ f j 3 = r then 1 else 0) m ≤ m := by
  intro m
  induction m with
  | zero => exact ⟨Int.le_refl _, Int.le_refl _⟩
  | succ m ih =>
    have e : zsum (fun j => if f j 2 = g ∧ f j 3 = r then 1 else 0) (m + 1) = zsum (fun j => if f j 2 = g ∧ f j 3 = r then 1 else 0) m + (if f m 2 = g ∧ f m 3 = r then 1 else 0) := rfl
    rw [e]
    split <;> omega
theorem s_childrenOfF {h : zH} {I : Nat → Int → Int} {F : zF} (hR : zRM h) {n : Nat} {gr r : Int} (hn : I 261 0 = n) (hn24 : n ≤ 24) : Ev M_X7_childrenOf 0 [(0, zr (some 260)), (1, zi gr), (2, zi r)] [] (h.1, zrw I F, h.2.2) (0, 0) (.inl (some (zi (mcc n F gr r))), (h.1, zrw I F, h.2.2)) := by
  have k9 := s_childrenOf (h := (h.1, zrw I F, h.2.2)) (hR.up _) (gr := gr) (r := r) (n := n) ((zrw_x I F (by omega)).trans hn) hn24 (fun m hm => by
    have := mcc_bd (rf (h.1, zrw I F, h.2.2)) gr r m
    omega)
  have e2 : zsum (fun j => if rf (h.1, zrw I F, h.2.2) j 2 = gr ∧ rf (h.1, zrw I F, h.2.2) j 3 = r then 1 else 0) n = mcc n F gr r := zsum_congr fun k hk => by
    have a2 : rf (h.1, zrw I F, h.2.2) k 2 = F k 2 := zrw_at I F (by omega) (by omega)
    have a3 : rf (h.1, zrw I F, h.2.2) k 3 = F k 3 := zrw_at I F (by omega) (by omega)
    rw [a2, a3]
  rw [e2] at k9
  exact k9
theorem s_isTaskF {h : zH} {I : Nat → Int → Int} {F : zF} (hR : zRM h) {n k : Nat} {x : Int} (hn : I 261 0 = n) (hn24 : n ≤ 24) (hk : k < n) (hf : zpos n F x = k) : Ev M_X7_isTask 0 [(0, zr (some 260)), (1, zi x)] [] (h.1, zrw I F, h.2.2) (0, 0) (.inl (some (zi (if F k 1 = 1 then 1 else 0))), (h.1, zrw I F, h.2.2)) := by
  have k9 := s_isTask (h := (h.1, zrw I F, h.2.2)) (hR.up _) (x := x) (n := n) ((zrw_x I F (by omega)).trans hn) hn24 hk ((zfnd_congr fun k hk => zrw_at I F (by omega) (by omega)).trans hf)
  have e2 : rf (h.1, zrw I F, h.2.2) k 1 = F k 1 := zrw_at I F (by omega) (by omega)
  rw [e2] at k9
  exact k9
def wAdd (n : Nat) (f : zF) (g r d : Int) : Int := if zpos n f g = -1 then 1 else if ¬ ((0 ≤ r ∧ r ≤ 3) ∧ (0 ≤ d ∧ d ≤ 60)) then 2 else if f (zpos n f g) 1 = 1 ∨ n = 24 then 3 else 0
def wTask (n : Nat) (f : zF) (x b : Int) : Int := if zpos n f x = -1 then 1 else if b = 0 then 2 else if f (zpos n f x) 1 = 1 then 0 else 3
theorem s_whyNotAdd {h : zH} {I : Nat → Int → Int} {F : zF} (hR : zRM h) {n : Nat} (hn : I 261 0 = n) (hn24 : n ≤ 24) {gr r du : Int} : Ev M_X7_whyNotAdd 0 [(0, zr (some 260)), (1, zi gr), (2, zi r), (3, zi du)] [] (h.1, zrw I F, h.2.2) (0, 0) (.inl (some (zi (wAdd n F gr r du))), (h.1, zrw I F, h.2.2)) := by
  refine Ev.aload_n (pc := 0) (n := (0, 0)) (i := 0) dX7_whyNotAdd_0 rfl rfl ?_
  refine Ev.iload_n (pc := 1) (n := (0, 0)) (i := 1) dX7_whyNotAdd_1 rfl rfl ?_
  refine Ev.callV (pc := 2) (n := (0, 0)) (ob := 260) (as := [zi gr]) (st := []) (s_findF hR hn hn24) dX7_whyNotAdd_2 ok_X7_find (lk_X7_53 rfl) ⟨(Nat.le_of_ble_eq_true rfl), (Nat.le_of_ble_eq_true rfl)⟩ (zk_at hR.1 rfl) ⟨by decide, rfl⟩ rfl (Nat.le_of_ble_eq_true rfl) (Nat.le_of_ble_eq_true rfl) ⟨(Nat.le_of_ble_eq_true rfl), (Nat.le_of_ble_eq_true rfl)⟩ ?_
  refine Ev.iconst (pc := 5) (n := (0, 0)) dX7_whyNotAdd_5 ?_
  refine Ev.icmp_ne (pc := 6) (n := (0, 0)) (tgt := 11) dX7_whyNotAdd_6 rfl (fun h1 => ?_) (fun h1 => ?_)
  · skip
    obtain ⟨k, hk, hf⟩ : ∃ k : Nat, k < n ∧ zpos n F gr = k := by
      have hq : -1 ≤ zpos n F gr ∧ zpos n F gr < n := zfnd_rng (fun j => F j 0) gr n
      exact ⟨(zpos n F gr).toNat, by omega, by omega⟩
    refine Ev.iload_n (pc := 11) (n := (0, 0)) (i := 2) dX7_whyNotAdd_11 rfl rfl ?_
    refine Ev.iconst (pc := 12) (n := (0, 0)) dX7_whyNotAdd_12 ?_
    refine Ev.iconst (pc := 13) (n := (0, 0)) dX7_whyNotAdd_13 ?_
    refine Ev.callS (pc := 14) (n := (0, 0)) (as := [zi r, zi 0, zi 3]) (st := []) (s_in (h.1, zrw I F, h.2.2) r 0 3) dX7_whyNotAdd_14 ok_X7_in (lk_X7_91 rfl) ⟨(Nat.le_of_ble_eq_true rfl), (Nat.le_of_ble_eq_true rfl)⟩ rfl (Nat.le_of_ble_eq_true rfl) (Nat.le_of_ble_eq_true rfl) ⟨(Nat.le_of_ble_eq_true rfl), (Nat.le_of_ble_eq_true rfl)⟩ ?_
    by_cases h2 : 0 ≤ r ∧ r ≤ 3
    · skip
      rw [if_pos h2]
      refine Ev.if_eq (pc := 17) (n := (0, 0)) (tgt := 30) dX7_whyNotAdd_17 rfl (fun hc => absurd hc (by decide)) (fun hc => ?_)
      refine Ev.iload_n (pc := 20) (n := (0, 0)) (i := 3) dX7_whyNotAdd_20 rfl rfl ?_
      refine Ev.iconst (pc := 21) (n := (0, 0)) dX7_whyNotAdd_21 ?_
      refine Ev.bipush (pc := 22) (n := (0, 0)) dX7_whyNotAdd_22 ?_
      refine Ev.callS (pc := 24) (n := (0, 0)) (as := [zi du, zi 0, zi 60]) (st := []) (s_in (h.1, zrw I F, h.2.2) du 0 60) dX7_whyNotAdd_24 ok_X7_in (lk_X7_91 rfl) ⟨(Nat.le_of_ble_eq_true rfl), (Nat.le_of_ble_eq_true rfl)⟩ rfl (Nat.le_of_ble_eq_true rfl) (Nat.le_of_ble_eq_true rfl) ⟨(Nat.le_of_ble_eq_true rfl), (Nat.le_of_ble_eq_true rfl)⟩ ?_
      by_cases h3 : 0 ≤ du ∧ du ≤ 60
      · skip
        rw [if_pos h3]
        refine Ev.if_ne (pc := 27) (n := (0, 0)) (tgt := 32) dX7_whyNotAdd_27 rfl (fun hc => ?_) (fun hc => absurd hc (by decide))
        refine Ev.aload_n (pc := 32) (n := (0, 0)) (i := 0) dX7_whyNotAdd_32 rfl rfl ?_
        refine Ev.iload_n (pc := 33) (n := (0, 0)) (i := 1) dX7_whyNotAdd_33 rfl rfl ?_
        refine Ev.callV (pc := 34) (n := (0, 0)) (ob := 260) (as := [zi gr]) (st := []) (s_isTaskF hR hn hn24 hk hf) dX7_whyNotAdd_34 ok_X7_isTask (lk_X7_94 rfl) ⟨(Nat.le_of_ble_eq_true rfl), (Nat.le_of_ble_eq_true rfl)⟩ (zk_at hR.1 rfl) ⟨by decide, rfl⟩ rfl (Nat.le_of_ble_eq_true rfl) (Nat.le_of_ble_eq_true rfl) ⟨(Nat.le_of_ble_eq_true rfl), (Nat.le_of_ble_eq_true rfl)⟩ ?_
        by_cases h4 : F k 1 = 1
        · skip
          rw [if_pos h4]
          refine Ev.if_ne (pc := 37) (n := (0, 0)) (tgt := 51) dX7_whyNotAdd_37 rfl (fun hc => ?_) (fun hc => absurd hc (by decide))
          refine Ev.iconst (pc := 51) (n := (0, 0)) dX7_whyNotAdd_51 ?_
          refine Ev.goto (pc := 52) (n := (0, 0)) (tgt := 56) dX7_whyNotAdd_52 rfl ?_
          rw [show wAdd n F gr r du = 3 by unfold wAdd; rw [if_neg h1, if_neg (by omega), hf, if_pos (Or.inl h4)]]
          exact Ev.iret dX7_whyNotAdd_56 rfl ⟨(Nat.le_of_ble_eq_true rfl), (Nat.le_of_ble_eq_true rfl)⟩
        · skip
          rw [if_neg h4]
          refine Ev.if_ne (pc := 37) (n := (0, 0)) (tgt := 51) dX7_whyNotAdd_37 rfl (fun hc => absurd rfl hc) (fun hc => ?_)
          refine Ev.aload_n (pc := 40) (n := (0, 0)) (i := 0) dX7_whyNotAdd_40 rfl rfl ?_
          refine Ev.gR (pc := 41) (n := (0, 0)) (r := (some 261)) dX7_whyNotAdd_41 fl_X7_7 (zk_at hR.1 rfl) rfl hR.2.1 ?_
          refine Ev.iconst (pc := 44) (n := (0, 0)) dX7_whyNotAdd_44 ?_
          refine Ev.ia (pc := 45) (n := (0, 0)) (x := (n : Int)) dX7_whyNotAdd_45 (zk_at hR.1 rfl) (by omega) (by omega) ((zrw_x I F (by omega)).trans hn) ?_
          refine Ev.bipush (pc := 46) (n := (0, 0)) dX7_whyNotAdd_46 ?_
          refine Ev.icmp_ne (pc := 48) (n := (0, 0)) (tgt := 55) dX7_whyNotAdd_48 rfl (fun h5 => ?_) (fun h5 => ?_)
          · skip
            refine Ev.iconst (pc := 55) (n := (0, 0)) dX7_whyNotAdd_55 ?_
            rw [show wAdd n F gr r du = 0 by unfold wAdd; rw [if_neg h1, if_neg (by omega), hf, if_neg (by omega)]]
            exact Ev.iret dX7_whyNotAdd_56 rfl ⟨(Nat.le_of_ble_eq_true rfl), (Nat.le_of_ble_eq_true rfl)⟩
          · skip
            refine Ev.iconst (pc := 51) (n := (0, 0)) dX7_whyNotAdd_51 ?_
            refine Ev.goto (pc := 52) (n := (0, 0)) (tgt := 56) dX7_whyNotAdd_52 rfl ?_
            rw [show wAdd n F gr r du = 3 by unfold wAdd; rw [if_neg h1, if_neg (by omega), hf, if_pos (by omega)]]
            exact Ev.iret dX7_whyNotAdd_56 rfl ⟨(Nat.le_of_ble_eq_true rfl), (Nat.le_of_ble_eq_true rfl)⟩
      · skip
        rw [if_neg h3]
        refine Ev.if_ne (pc := 27) (n := (0, 0)) (tgt := 32) dX7_whyNotAdd_27 rfl (fun hc => absurd rfl hc) (fun hc => ?_)
        refine Ev.iconst (pc := 30) (n := (0, 0)) dX7_whyNotAdd_30 ?_
        rw [show wAdd n F gr r du = 2 by unfold wAdd; rw [if_neg h1, if_pos (by omega)]]
        exact Ev.iret dX7_whyNotAdd_31 rfl ⟨(Nat.le_of_ble_eq_true rfl), (Nat.le_of_ble_eq_true rfl)⟩
    · skip
      rw [if_neg h2]
      refine Ev.if_eq (pc := 17) (n := (0, 0)) (tgt := 30) dX7_whyNotAdd_17 rfl (fun hc => ?_) (fun hc => absurd rfl hc)
      refine Ev.iconst (pc := 30) (n := (0, 0)) dX7_whyNotAdd_30 ?_
      rw [show wAdd n F gr r du = 2 by unfold wAdd; rw [if_neg h1, if_pos (by omega)]]
      exact Ev.iret dX7_whyNotAdd_31 rfl ⟨(Nat.le_of_ble_eq_true rfl), (Nat.le_of_ble_eq_true rfl)⟩
  · skip
    refine Ev.iconst (pc := 9) (n := (0, 0)) dX7_whyNotAdd_9 ?_
    rw [show wAdd n F gr r du = 1 by unfold wAdd; rw [if_pos h1]]
    exact Ev.iret dX7_whyNotAdd_10 rfl ⟨(Nat.le_of_ble_eq_true rfl), (Nat.le_of_ble_eq_true rfl)⟩
theorem s_whyNotTask {h : zH} {I : Nat → Int → Int} {F : zF} (hR : zRM h) {n : Nat} (hn : I 261 0 = n) (hn24 : n ≤ 24) {x b : Int} : Ev M_X7_whyNotTask 0 [(0, zr (some 260)), (1, zi x), (2, zi b)] [] (h.1, zrw I F, h.2.2) (0, 0) (.inl (some (zi (wTask n F x b))), (h.1, zrw I F, h.2.2)) := by
  refine Ev.aload_n (pc := 0) (n := (0, 0)) (i := 0) dX7_whyNotTask_0 rfl rfl ?_
  refine Ev.iload_n (pc := 1) (n := (0, 0)) (i := 1) dX7_whyNotTask_1 rfl rfl ?_
  refine Ev.callV (pc := 2) (n := (0, 0)) (ob := 260) (as := [zi x]) (st := []) (s_findF hR hn hn24) dX7_whyNotTask_2 ok_X7_find (lk_X7_53 rfl) ⟨(Nat.le_of_ble_eq_true rfl), (Nat.le_of_ble_eq_true rfl)⟩ (zk_at hR.1 rfl) ⟨by decide, rfl⟩ rfl (Nat.le_of_ble_eq_true rfl) (Nat.le_of_ble_eq_true rfl) ⟨(Nat.le_of_ble_eq_true rfl), (Nat.le_of_ble_eq_true rfl)⟩ ?_
  refine Ev.iconst (pc := 5) (n := (0, 0)) dX7_whyNotTask_5 ?_
  refine Ev.icmp_ne (pc := 6) (n := (0, 0)) (tgt := 13) dX7_whyNotTask_6 rfl (fun h1 => ?_) (fun h1 => ?_)
  · skip
    obtain ⟨k, hk, hf⟩ : ∃ k : Nat, k < n ∧ zpos n F x = k := by
      have hq : -1 ≤ zpos n F x ∧ zpos n F x < n := zfnd_rng (fun j => F j 0) x n
      exact ⟨(zpos n F x).toNat, by omega, by omega⟩
    refine Ev.iload_n (pc := 13) (n := (0, 0)) (i := 2) dX7_whyNotTask_13 rfl rfl ?_
    refine Ev.if_ne (pc := 14) (n := (0, 0)) (tgt := 21) dX7_whyNotTask_14 rfl (fun h2 => ?_) (fun h2 => ?_)
    · skip
      refine Ev.aload_n (pc := 21) (n := (0, 0)) (i := 0) dX7_whyNotTask_21 rfl rfl ?_
      refine Ev.iload_n (pc := 22) (n := (0, 0)) (i := 1) dX7_whyNotTask_22 rfl rfl ?_
      refine Ev.callV (pc := 23) (n := (0, 0)) (ob := 260) (as := [zi x]) (st := []) (s_isTaskF hR hn hn24 hk hf) dX7_whyNotTask_23 ok_X7_isTask (lk_X7_94 rfl) ⟨(Nat.le_of_ble_eq_true rfl), (Nat.le_of_ble_eq_true rfl)⟩ (zk_at hR.1 rfl) ⟨by decide, rfl⟩ rfl (Nat.le_of_ble_eq_true rfl) (Nat.le_of_ble_eq_true rfl) ⟨(Nat.le_of_ble_eq_true rfl), (Nat.le_of_ble_eq_true rfl)⟩ ?_
      by_cases h4 : F k 1 = 1
      · skip
        rw [if_pos h4]
        refine Ev.if_eq (pc := 26) (n := (0, 0)) (tgt := 33) dX7_whyNotTask_26 rfl (fun hc => absurd hc (by decide)) (fun hc => ?_)
        refine Ev.iconst (pc := 29) (n := (0, 0)) dX7_whyNotTask_29 ?_
        refine Ev.goto (pc := 30) (n := (0, 0)) (tgt := 34) dX7_whyNotTask_30 rfl ?_
        rw [show wTask n F x b = 0 by unfold wTask; rw [if_neg h1, if_neg h2, hf, if_pos h4]]
        exact Ev.iret dX7_whyNotTask_34 rfl ⟨(Nat.le_of_ble_eq_true rfl), (Nat.le_of_ble_eq_true rfl)⟩
      · skip
        rw [if_neg h4]
        refine Ev.if_eq (pc := 26) (n := (0, 0)) (tgt := 33) dX7_whyNotTask_26 rfl (fun hc => ?_) (fun hc => absurd rfl hc)
        refine Ev.iconst (pc := 33) (n := (0, 0)) dX7_whyNotTask_33 ?_
        rw [show wTask n F x b = 3 by unfold wTask; rw [if_neg h1, if_neg h2, hf, if_neg h4]]
        exact Ev.iret dX7_whyNotTask_34 rfl ⟨(Nat.le_of_ble_eq_true rfl), (Nat.le_of_ble_eq_true rfl)⟩
    · skip
      refine Ev.iconst (pc := 17) (n := (0, 0)) dX7_whyNotTask_17 ?_
      refine Ev.goto (pc := 18) (n := (0, 0)) (tgt := 34) dX7_whyNotTask_18 rfl ?_
      rw [show wTask n F x b = 2 by unfold wTask; rw [if_neg h1, if_pos h2]]
      exact Ev.iret dX7_whyNotTask_34 rfl ⟨(Nat.le_of_ble_eq_true rfl), (Nat.le_of_ble_eq_true rfl)⟩
  · skip
    refine Ev.iconst (pc := 9) (n := (0, 0)) dX7_whyNotTask_9 ?_
    refine Ev.goto (pc := 10) (n := (0, 0)) (tgt := 34) dX7_whyNotTask_10 rfl ?_
    rw [show wTask n F x b = 1 by unfold wTask; rw [if_pos h1]]
    exact Ev.iret dX7_whyNotTask_34 rfl ⟨(Nat.le_of_ble_eq_true rfl), (Nat.le_of_ble_eq_true rfl)⟩
def wRow (n : Nat) (f : zF) (x b : Int) : Int := if zpos n f x = -1 then 1 else if b = 0 then 2 else if f (zpos n f x) 1 = 1 then 3 else 0
theorem s_whyNotRow {h : zH} {I : Nat → Int → Int} {F : zF} (hR : zRM h) {n : Nat} (hn : I 261 0 = n) (hn24 : n ≤ 24) {x b : Int} : Ev M_X7_whyNotRow 0 [(0, zr (some 260)), (1, zi x), (2, zi b)] [] (h.1, zrw I F, h.2.2) (0, 0) (.inl (some (zi (wRow n F x b))), (h.1, zrw I F, h.2.2)) := by
  refine Ev.aload_n (pc := 0) (n := (0, 0)) (i := 0) dX7_whyNotRow_0 rfl rfl ?_
  refine Ev.iload_n (pc := 1) (n := (0, 0)) (i := 1) dX7_whyNotRow_1 rfl rfl ?_
  refine Ev.callV (pc := 2) (n := (0, 0)) (ob := 260) (as := [zi x]) (st := []) (s_findF hR hn hn24) dX7_whyNotRow_2 ok_X7_find (lk_X7_53 rfl) ⟨(Nat.le_of_ble_eq_true rfl), (Nat.le_of_ble_eq_true rfl)⟩ (zk_at hR.1 rfl) ⟨by decide, rfl⟩ rfl (Nat.le_of_ble_eq_true rfl) (Nat.le_of_ble_eq_true rfl) ⟨(Nat.le_of_ble_eq_true rfl), (Nat.le_of_ble_eq_true rfl)⟩ ?_
  refine Ev.iconst (pc := 5) (n := (0, 0)) dX7_whyNotRow_5 ?_
  refine Ev.icmp_ne (pc := 6) (n := (0, 0)) (tgt := 13) dX7_whyNotRow_6 rfl (fun h1 => ?_) (fun h1 => ?_)
  · skip
    obtain ⟨k, hk, hf⟩ : ∃ k : Nat, k < n ∧ zpos n F x = k := by
      have hq : -1 ≤ zpos n F x ∧ zpos n F x < n := zfnd_rng (fun j => F j 0) x n
      exact ⟨(zpos n F x).toNat, by omega, by omega⟩
    refine Ev.iload_n (pc := 13) (n := (0, 0)) (i := 2) dX7_whyNotRow_13 rfl rfl ?_
    refine Ev.if_ne (pc := 14) (n := (0, 0)) (tgt := 21) dX7_whyNotRow_14 rfl (fun h2 => ?_) (fun h2 => ?_)
    · skip
      refine Ev.aload_n (pc := 21) (n := (0, 0)) (i := 0) dX7_whyNotRow_21 rfl rfl ?_
      refine Ev.iload_n (pc := 22) (n := (0, 0)) (i := 1) dX7_whyNotRow_22 rfl rfl ?_
      refine Ev.callV (pc := 23) (n := (0, 0)) (ob := 260) (as := [zi x]) (st := []) (s_isTaskF hR hn hn24 hk hf) dX7_whyNotRow_23 ok_X7_isTask (lk_X7_94 rfl) ⟨(Nat.le_of_ble_eq_true rfl), (Nat.le_of_ble_eq_true rfl)⟩ (zk_at hR.1 rfl) ⟨by decide, rfl⟩ rfl (Nat.le_of_ble_eq_true rfl) (Nat.le_of_ble_eq_true rfl) ⟨(Nat.le_of_ble_eq_true rfl), (Nat.le_of_ble_eq_true rfl)⟩ ?_
      by_cases h4 : F k 1 = 1
      · skip
        rw [if_pos h4]
        refine Ev.if_eq (pc := 26) (n := (0, 0)) (tgt := 33) dX7_whyNotRow_26 rfl (fun hc => absurd hc (by decide)) (fun hc => ?_)
        refine Ev.iconst (pc := 29) (n := (0, 0)) dX7_whyNotRow_29 ?_
        refine Ev.goto (pc := 30) (n := (0, 0)) (tgt := 34) dX7_whyNotRow_30 rfl ?_
        rw [show wRow n F x b = 3 by unfold wRow; rw [if_neg h1, if_neg h2, hf, if_pos h4]]
        exact Ev.iret dX7_whyNotRow_34 rfl ⟨(Nat.le_of_ble_eq_true rfl), (Nat.le_of_ble_eq_true rfl)⟩
      · skip
        rw [if_neg h4]
        refine Ev.if_eq (pc := 26) (n := (0, 0)) (tgt := 33) dX7_whyNotRow_26 rfl (fun hc => ?_) (fun hc => absurd rfl hc)
        refine Ev.iconst (pc := 33) (n := (0, 0)) dX7_whyNotRow_33 ?_
        rw [show wRow n F x b = 0 by unfold wRow; rw [if_neg h1, if_neg h2, hf, if_neg h4]]
        exact Ev.iret dX7_whyNotRow_34 rfl ⟨(Nat.le_of_ble_eq_true rfl), (Nat.le_of_ble_eq_true rfl)⟩
    · skip
      refine Ev.iconst (pc := 17) (n := (0, 0)) dX7_whyNotRow_17 ?_
      refine Ev.goto (pc := 18) (n := (0, 0)) (tgt := 34) dX7_whyNotRow_18 rfl ?_
      rw [show wRow n F x b = 2 by unfold wRow; rw [if_neg h1, if_pos h2]]
      exact Ev.iret dX7_whyNotRow_34 rfl ⟨(Nat.le_of_ble_eq_true rfl), (Nat.le_of_ble_eq_true rfl)⟩
  · skip
    refine Ev.iconst (pc := 9) (n := (0, 0)) dX7_whyNotRow_9 ?_
    refine Ev.goto (pc := 10) (n := (0, 0)) (tgt := 34) dX7_whyNotRow_10 rfl ?_
    rw [show wRow n F x b = 1 by unfold wRow; rw [if_pos h1]]
    exact Ev.iret dX7_whyNotRow_34 rfl ⟨(Nat.le_of_ble_eq_true rfl), (Nat.le_of_ble_eq_true rfl)⟩
def wRem (n : Nat) (f : zF) (x : Int) : Int := if zpos n f x = -1 then 1 else if x = 0 then 3 else 0
theorem s_whyNotRemove {h : zH} {I : Nat → Int → Int} {F : zF} (hR : zRM h) {n : Nat} (hn : I 261 0 = n) (hn24 : n ≤ 24) {x : Int} : Ev M_X7_whyNotRemove 0 [(0, zr (some 260)), (1, zi x)] [] (h.1, zrw I F, h.2.2) (0, 0) (.inl (some (zi (wRem n F x))), (h.1, zrw I F, h.2.2)) := by
  refine Ev.aload_n (pc := 0) (n := (0, 0)) (i := 0) dX7_whyNotRemove_0 rfl rfl ?_
  refine Ev.iload_n (pc := 1) (n := (0, 0)) (i := 1) dX7_whyNotRemove_1 rfl rfl ?_
  refine Ev.callV (pc := 2) (n := (0, 0)) (ob := 260) (as := [zi x]) (st := []) (s_findF hR hn hn24) dX7_whyNotRemove_2 ok_X7_find (lk_X7_53 rfl) ⟨(Nat.le_of_ble_eq_true rfl), (Nat.le_of_ble_eq_true rfl)⟩ (zk_at hR.1 rfl) ⟨by decide, rfl⟩ rfl (Nat.le_of_ble_eq_true rfl) (Nat.le_of_ble_eq_true rfl) ⟨(Nat.le_of_ble_eq_true rfl), (Nat.le_of_ble_eq_true rfl)⟩ ?_
  refine Ev.iconst (pc := 5) (n := (0, 0)) dX7_whyNotRemove_5 ?_
  refine Ev.icmp_ne (pc := 6) (n := (0, 0)) (tgt := 13) dX7_whyNotRemove_6 rfl (fun h1 => ?_) (fun h1 => ?_)
  · skip
    refine Ev.iload_n (pc := 13) (n := (0, 0)) (i := 1) dX7_whyNotRemove_13 rfl rfl ?_
    refine Ev.if_ne (pc := 14) (n := (0, 0)) (tgt := 21) dX7_whyNotRemove_14 rfl (fun h2 => ?_) (fun h2 => ?_)
    · skip
      refine Ev.iconst (pc := 21) (n := (0, 0)) dX7_whyNotRemove_21 ?_
      rw [show wRem n F x = 0 by unfold wRem; rw [if_neg h1, if_neg h2]]
      exact Ev.iret dX7_whyNotRemove_22 rfl ⟨(Nat.le_of_ble_eq_true rfl), (Nat.le_of_ble_eq_true rfl)⟩
    · skip
      refine Ev.iconst (pc := 17) (n := (0, 0)) dX7_whyNotRemove_17 ?_
      refine Ev.goto (pc := 18) (n := (0, 0)) (tgt := 22) dX7_whyNotRemove_18 rfl ?_
      rw [show wRem n F x = 3 by unfold wRem; rw [if_neg h1, if_pos h2]]
      exact Ev.iret dX7_whyNotRemove_22 rfl ⟨(Nat.le_of_ble_eq_true rfl), (Nat.le_of_ble_eq_true rfl)⟩
  · skip
    refine Ev.iconst (pc := 9) (n := (0, 0)) dX7_whyNotRemove_9 ?_
    refine Ev.goto (pc := 10) (n := (0, 0)) (tgt := 22) dX7_whyNotRemove_10 rfl ?_
    rw [show wRem n F x = 1 by unfold wRem; rw [if_pos h1]]
    exact Ev.iret dX7_whyNotRemove_22 rfl ⟨(Nat.le_of_ble_eq_true rfl), (Nat.le_of_ble_eq_true rfl)⟩
def wUnt (d : Int) : Int := if 0 ≤ d ∧ d ≤ 999 then 0 else 2
theorem s_whyNotUntil (h : zH) (d : Int) : Ev M_X7_whyNotUntil 0 [(0, zi d)] [] h (0, 0) (.inl (some (zi (wUnt d))), h) := by
  refine Ev.iload_n (pc := 0) (n := (0, 0)) (i := 0) dX7_whyNotUntil_0 rfl rfl ?_
  refine Ev.iconst (pc := 1) (n := (0, 0)) dX7_whyNotUntil_1 ?_
  refine Ev.sipush (pc := 2) (n := (0, 0)) dX7_whyNotUntil_2 ?_
  refine Ev.callS (pc := 5) (n := (0, 0)) (as := [zi d, zi 0, zi 999]) (st := []) (s_in h d 0 999) dX7_whyNotUntil_5 ok_X7_in (lk_X7_91 rfl) ⟨(Nat.le_of_ble_eq_true rfl), (Nat.le_of_ble_eq_true rfl)⟩ rfl (Nat.le_of_ble_eq_true rfl) (Nat.le_of_ble_eq_true rfl) ⟨(Nat.le_of_ble_eq_true rfl), (Nat.le_of_ble_eq_true rfl)⟩ ?_
  by_cases h1 : 0 ≤ d ∧ d ≤ 999
  · skip
    rw [if_pos h1]
    refine Ev.if_eq (pc := 8) (n := (0, 0)) (tgt := 15) dX7_whyNotUntil_8 rfl (fun hc => absurd hc (by decide)) (fun hc => ?_)
    refine Ev.iconst (pc := 11) (n := (0, 0)) dX7_whyNotUntil_11 ?_
    refine Ev.goto (pc := 12) (n := (0, 0)) (tgt := 16) dX7_whyNotUntil_12 rfl ?_
    rw [show wUnt d = 0 by unfold wUnt; rw [if_pos h1]]
    exact Ev.iret dX7_whyNotUntil_16 rfl ⟨(Nat.le_of_ble_eq_true rfl), (Nat.le_of_ble_eq_true rfl)⟩
  · skip
    rw [if_neg h1]
    refine Ev.if_eq (pc := 8) (n := (0, 0)) (tgt := 15) dX7_whyNotUntil_8 rfl (fun hc => ?_) (fun hc => absurd rfl hc)
    refine Ev.iconst (pc := 15) (n := (0, 0)) dX7_whyNotUntil_15 ?_
    rw [show wUnt d = 2 by unfold wUnt; rw [if_neg h1]]
    exact Ev.iret dX7_whyNotUntil_16 rfl ⟨(Nat.le_of_ble_eq_true rfl), (Nat.le_of_ble_eq_true rfl)⟩
/-- a node more at the end -/
def fadd (n : Nat) (f : zF) (a t g r d : Int) : zF := fup (fup (fup (fup (fup (fup (fup f n 0 a) n 1 t) n 2 g) n 3 r) n 4 (mcc n f g r)) n 5 d) n 6 0
theorem zrw_up (I : Nat → Int → Int) (F : zF) {x v : Int} (h : x < 3 ∨ 171 ≤ x) : zup (zrw I F) 261 x v = zrw (zup I 261 x v) F := by
  funext o y
  show (if o = 261 ∧ y = x then v else if o = 261 ∧ 3 ≤ y ∧ y < 171 then F ((y - 3) / 7) ((y - 3) % 7) else I o y) = (if o = 261 ∧ 3 ≤ y ∧ y < 171 then F ((y - 3) / 7) ((y - 3) % 7) else if o = 261 ∧ y = x then v else I o y)
  by_cases h1 : o = 261 ∧ y = x
  · rw [if_pos h1, if_neg (by omega), if_pos h1]
  · rw [if_neg h1, if_neg h1]
theorem zrw_up2 (I : Nat → Int → Int) (F : zF) {a : Nat} {x v : Int} (h : a ≠ 261) : zup (zrw I F) a x v = zrw (zup I a x v) F := by
  funext o y
  show (if o = a ∧ y = x then v else if o = 261 ∧ 3 ≤ y ∧ y < 171 then F ((y - 3) / 7) ((y - 3) % 7) else I o y) = (if o = 261 ∧ 3 ≤ y ∧ y < 171 then F ((y - 3) / 7) ((y - 3) % 7) else if o = a ∧ y = x then v else I o y)
  by_cases h1 : o = a ∧ y = x
  · rw [if_pos h1, if_neg (fun g => h (h1.1.symm.trans g.1)), if_pos h1]
  · rw [if_neg h1, if_neg h1]
theorem s_adds {h : zH} {I : Nat → Int → Int} {F : zF} (hR : zRM h) {n : Nat} (hn : I 261 0 = n) (hn24 : n ≤ 24) (hn2 : n < 24) {gr r t du a : Int} (ha : I 261 1 = a) (ha2 : 0 ≤ a ∧ a ≤ 1000000) : Ev M_X7_adds 0 [(0, zr (some 260)), (1, zi gr), (2, zi r), (3, zi t), (4, zi du)] [] (h.1, zrw I F, h.2.2) (0, 0) (.inl (some (zi a)), (h.1, zrw (zup (zup I 261 0 (n + 1)) 261 1 (a + 1)) (fadd n F a t gr r du), h.2.2)) := by
  refine Ev.aload_n (pc := 0) (n := (0, 0)) (i := 0) dX7_adds_0 rfl rfl ?_
  refine Ev.gR (pc := 1) (n := (0, 0)) (r := (some 261)) dX7_adds_1 fl_X7_7 (zk_at hR.1 rfl) rfl hR.2.1 ?_
  refine Ev.iconst (pc := 4) (n := (0, 0)) dX7_adds_4 ?_
  refine Ev.ia (pc := 5) (n := (0, 0)) (x := (n : Int)) dX7_adds_5 (zk_at hR.1 rfl) (by omega) (by omega) ((zrw_x I F (by omega)).trans hn) ?_
  refine Ev.istore (pc := 6) (n := (0, 0)) (i := 5) (L' := [(5, zi (n : Int)), (0, zr (some 260)), (1, zi gr), (2, zi r), (3, zi t), (4, zi du)]) dX7_adds_6 (Nat.le_of_ble_eq_true rfl) rfl ?_
  refine Ev.aload_n (pc := 8) (n := (0, 0)) (i := 0) dX7_adds_8 rfl rfl ?_
  refine Ev.iload_n (pc := 9) (n := (0, 0)) (i := 1) dX7_adds_9 rfl rfl ?_
  refine Ev.iload_n (pc := 10) (n := (0, 0)) (i := 2) dX7_adds_10 rfl rfl ?_
  refine Ev.callV (pc := 11) (n := (0, 0)) (ob := 260) (as := [zi gr, zi r]) (st := []) (s_childrenOfF hR hn hn24) dX7_adds_11 ok_X7_childrenOf (lk_X7_97 rfl) ⟨(Nat.le_of_ble_eq_true rfl), (Nat.le_of_ble_eq_true rfl)⟩ (zk_at hR.1 rfl) ⟨by decide, rfl⟩ rfl (Nat.le_of_ble_eq_true rfl) (Nat.le_of_ble_eq_true rfl) ⟨(Nat.le_of_ble_eq_true rfl), (Nat.le_of_ble_eq_true rfl)⟩ ?_
  refine Ev.istore (pc := 14) (n := (0, 0)) (i := 6) (L' := [(6, zi (mcc n F gr r)), (5, zi (n : Int)), (0, zr (some 260)), (1, zi gr), (2, zi r), (3, zi t), (4, zi du)]) dX7_adds_14 (Nat.le_of_ble_eq_true rfl) rfl ?_
  refine Ev.aload_n (pc := 16) (n := (0, 0)) (i := 0) dX7_adds_16 rfl rfl ?_
  refine Ev.gR (pc := 17) (n := (0, 0)) (r := (some 261)) dX7_adds_17 fl_X7_7 (zk_at hR.1 rfl) rfl hR.2.1 ?_
  refine Ev.iconst (pc := 20) (n := (0, 0)) dX7_adds_20 ?_
  refine Ev.dup2 (pc := 21) (n := (0, 0)) dX7_adds_21 rfl rfl ?_
  refine Ev.ia (pc := 22) (n := (0, 0)) (x := (n : Int)) dX7_adds_22 (zk_at hR.1 rfl) (by omega) (by omega) ((zrw_x I F (by omega)).trans hn) ?_
  refine Ev.iconst (pc := 23) (n := (0, 0)) dX7_adds_23 ?_
  refine Ev.iadd (pc := 24) (n := (0, 0)) dX7_adds_24 ⟨by omega, by omega⟩ ?_
  refine Ev.iast (pc := 25) (n := (0, 0)) dX7_adds_25 (zk_at hR.1 rfl) (by omega) (by omega) ?_
  rw [show zup (zrw I F) 261 0 ((n : Int) + 1) = zrw (zup I 261 0 (n + 1)) F from zrw_up I F (by omega)]
  have ha9 : (zup I 261 0 (n + 1)) 261 1 = a := (zup_k _ _ _ _ (by decide)).trans ha
  refine Ev.aload_n (pc := 26) (n := (0, 0)) (i := 0) dX7_adds_26 rfl rfl ?_
  refine Ev.iload (pc := 27) (n := (0, 0)) dX7_adds_27 rfl ?_
  refine Ev.iconst (pc := 29) (n := (0, 0)) dX7_adds_29 ?_
  refine Ev.aload_n (pc := 30) (n := (0, 0)) (i := 0) dX7_adds_30 rfl rfl ?_
  refine Ev.gR (pc := 31) (n := (0, 0)) (r := (some 261)) dX7_adds_31 fl_X7_7 (zk_at hR.1 rfl) rfl hR.2.1 ?_
  refine Ev.iconst (pc := 34) (n := (0, 0)) dX7_adds_34 ?_
  refine Ev.ia (pc := 35) (n := (0, 0)) (x := a) dX7_adds_35 (zk_at hR.1 rfl) (by omega) (by omega) ((zrw_x (zup I 261 0 (n + 1)) F (by omega)).trans ha9) ?_
  refine Ev.callV (pc := 36) (n := (0, 0)) (ob := 260) (as := [zi (n : Int), zi 0, zi a]) (st := []) (s_setF hR ⟨by omega, by omega⟩ ⟨by decide, by decide⟩) dX7_adds_36 ok_X7_set (lk_X7_100 rfl) ⟨(Nat.le_of_ble_eq_true rfl), (Nat.le_of_ble_eq_true rfl)⟩ (zk_at hR.1 rfl) ⟨by decide, rfl⟩ rfl (Nat.le_of_ble_eq_true rfl) (Nat.le_of_ble_eq_true rfl) ⟨(Nat.le_of_ble_eq_true rfl), (Nat.le_of_ble_eq_true rfl)⟩ ?_
  refine Ev.aload_n (pc := 39) (n := (0, 0)) (i := 0) dX7_adds_39 rfl rfl ?_
  refine Ev.iload (pc := 40) (n := (0, 0)) dX7_adds_40 rfl ?_
  refine Ev.iconst (pc := 42) (n := (0, 0)) dX7_adds_42 ?_
  refine Ev.iload_n (pc := 43) (n := (0, 0)) (i := 3) dX7_adds_43 rfl rfl ?_
  refine Ev.callV (pc := 44) (n := (0, 0)) (ob := 260) (as := [zi (n : Int), zi 1, zi t]) (st := []) (s_setF hR ⟨by omega, by omega⟩ ⟨by decide, by decide⟩) dX7_adds_44 ok_X7_set (lk_X7_100 rfl) ⟨(Nat.le_of_ble_eq_true rfl), (Nat.le_of_ble_eq_true rfl)⟩ (zk_at hR.1 rfl) ⟨by decide, rfl⟩ rfl (Nat.le_of_ble_eq_true rfl) (Nat.le_of_ble_eq_true rfl) ⟨(Nat.le_of_ble_eq_true rfl), (Nat.le_of_ble_eq_true rfl)⟩ ?_
  refine Ev.aload_n (pc := 47) (n := (0, 0)) (i := 0) dX7_adds_47 rfl rfl ?_
  refine Ev.iload (pc := 48) (n := (0, 0)) dX7_adds_48 rfl ?_
  refine Ev.iconst (pc := 50) (n := (0, 0)) dX7_adds_50 ?_
  refine Ev.iload_n (pc := 51) (n := (0, 0)) (i := 1) dX7_adds_51 rfl rfl ?_
  refine Ev.callV (pc := 52) (n := (0, 0)) (ob := 260) (as := [zi (n : Int), zi 2, zi gr]) (st := []) (s_setF hR ⟨by omega, by omega⟩ ⟨by decide, by decide⟩) dX7_adds_52 ok_X7_set (lk_X7_100 rfl) ⟨(Nat.le_of_ble_eq_true rfl), (Nat.le_of_ble_eq_true rfl)⟩ (zk_at hR.1 rfl) ⟨by decide, rfl⟩ rfl (Nat.le_of_ble_eq_true rfl) (Nat.le_of_ble_eq_true rfl) ⟨(Nat.le_of_ble_eq_true rfl), (Nat.le_of_ble_eq_true rfl)⟩ ?_
  refine Ev.aload_n (pc := 55) (n := (0, 0)) (i := 0) dX7_adds_55 rfl rfl ?_
  refine Ev.iload (pc := 56) (n := (0, 0)) dX7_adds_56 rfl ?_
  refine Ev.iconst (pc := 58) (n := (0, 0)) dX7_adds_58 ?_
  refine Ev.iload_n (pc := 59) (n := (0, 0)) (i := 2) dX7_adds_59 rfl rfl ?_
  refine Ev.callV (pc := 60) (n := (0, 0)) (ob := 260) (as := [zi (n : Int), zi 3, zi r]) (st := []) (s_setF hR ⟨by omega, by omega⟩ ⟨by decide, by decide⟩) dX7_adds_60 ok_X7_set (lk_X7_100 rfl) ⟨(Nat.le_of_ble_eq_true rfl), (Nat.le_of_ble_eq_true rfl)⟩ (zk_at hR.1 rfl) ⟨by decide, rfl⟩ rfl (Nat.le_of_ble_eq_true rfl) (Nat.le_of_ble_eq_true rfl) ⟨(Nat.le_of_ble_eq_true rfl), (Nat.le_of_ble_eq_true rfl)⟩ ?_
  refine Ev.aload_n (pc := 63) (n := (0, 0)) (i := 0) dX7_adds_63 rfl rfl ?_
  refine Ev.iload (pc := 64) (n := (0, 0)) dX7_adds_64 rfl ?_
  refine Ev.iconst (pc := 66) (n := (0, 0)) dX7_adds_66 ?_
  refine Ev.iload (pc := 67) (n := (0, 0)) dX7_adds_67 rfl ?_
  refine Ev.callV (pc := 69) (n := (0, 0)) (ob := 260) (as := [zi (n : Int), zi 4, zi (mcc n F gr r)]) (st := []) (s_setF hR ⟨by omega, by omega⟩ ⟨by decide, by decide⟩) dX7_adds_69 ok_X7_set (lk_X7_100 rfl) ⟨(Nat.le_of_ble_eq_true rfl), (Nat.le_of_ble_eq_true rfl)⟩ (zk_at hR.1 rfl) ⟨by decide, rfl⟩ rfl (Nat.le_of_ble_eq_true rfl) (Nat.le_of_ble_eq_true rfl) ⟨(Nat.le_of_ble_eq_true rfl), (Nat.le_of_ble_eq_true rfl)⟩ ?_
  refine Ev.aload_n (pc := 72) (n := (0, 0)) (i := 0) dX7_adds_72 rfl rfl ?_
  refine Ev.iload (pc := 73) (n := (0, 0)) dX7_adds_73 rfl ?_
  refine Ev.iconst (pc := 75) (n := (0, 0)) dX7_adds_75 ?_
  refine Ev.iload (pc := 76) (n := (0, 0)) dX7_adds_76 rfl ?_
  refine Ev.callV (pc := 78) (n := (0, 0)) (ob := 260) (as := [zi (n : Int), zi 5, zi du]) (st := []) (s_setF hR ⟨by omega, by omega⟩ ⟨by decide, by decide⟩) dX7_adds_78 ok_X7_set (lk_X7_100 rfl) ⟨(Nat.le_of_ble_eq_true rfl), (Nat.le_of_ble_eq_true rfl)⟩ (zk_at hR.1 rfl) ⟨by decide, rfl⟩ rfl (Nat.le_of_ble_eq_true rfl) (Nat.le_of_ble_eq_true rfl) ⟨(Nat.le_of_ble_eq_true rfl), (Nat.le_of_ble_eq_true rfl)⟩ ?_
  refine Ev.aload_n (pc := 81) (n := (0, 0)) (i := 0) dX7_adds_81 rfl rfl ?_
  refine Ev.iload (pc := 82) (n := (0, 0)) dX7_adds_82 rfl ?_
  refine Ev.bipush (pc := 84) (n := (0, 0)) dX7_adds_84 ?_
  refine Ev.iconst (pc := 86) (n := (0, 0)) dX7_adds_86 ?_
  refine Ev.callV (pc := 87) (n := (0, 0)) (ob := 260) (as := [zi (n : Int), zi 6, zi 0]) (st := []) (s_setF hR ⟨by omega, by omega⟩ ⟨by decide, by decide⟩) dX7_adds_87 ok_X7_set (lk_X7_100 rfl) ⟨(Nat.le_of_ble_eq_true rfl), (Nat.le_of_ble_eq_true rfl)⟩ (zk_at hR.1 rfl) ⟨by decide, rfl⟩ rfl (Nat.le_of_ble_eq_true rfl) (Nat.le_of_ble_eq_true rfl) ⟨(Nat.le_of_ble_eq_true rfl), (Nat.le_of_ble_eq_true rfl)⟩ ?_
  refine Ev.aload_n (pc := 90) (n := (0, 0)) (i := 0) dX7_adds_90 rfl rfl ?_
  refine Ev.gR (pc := 91) (n := (0, 0)) (r := (some 261)) dX7_adds_91 fl_X7_7 (zk_at hR.1 rfl) rfl hR.2.1 ?_
  refine Ev.iconst (pc := 94) (n := (0, 0)) dX7_adds_94 ?_
  refine Ev.dup2 (pc := 95) (n := (0, 0)) dX7_adds_95 rfl rfl ?_
  refine Ev.ia (pc := 96) (n := (0, 0)) (x := a) dX7_adds_96 (zk_at hR.1 rfl) (by omega) (by omega) ((zrw_x (zup I 261 0 (n + 1)) (fup (fup (fup (fup (fup (fup (fup F n 0 a) n 1 t) n 2 gr) n 3 r) n 4 (mcc n F gr r)) n 5 du) n 6 0) (by omega)).trans ha9) ?_
  refine Ev.iconst (pc := 97) (n := (0, 0)) dX7_adds_97 ?_
  refine Ev.iadd (pc := 98) (n := (0, 0)) dX7_adds_98 ⟨by omega, by omega⟩ ?_
  refine Ev.iast (pc := 99) (n := (0, 0)) dX7_adds_99 (zk_at hR.1 rfl) (by omega) (by omega) ?_
  rw [show zup (zrw (zup I 261 0 (n + 1)) (fup (fup (fup (fup (fup (fup (fup F n 0 a) n 1 t) n 2 gr) n 3 r) n 4 (mcc n F gr r)) n 5 du) n 6 0)) 261 1 (a + 1) = zrw (zup (zup I 261 0 (n + 1)) 261 1 (a + 1)) (fup (fup (fup (fup (fup (fup (fup F n 0 a) n 1 t) n 2 gr) n 3 r) n 4 (mcc n F gr r)) n 5 du) n 6 0) from zrw_up _ _ (by omega)]
  refine Ev.aload_n (pc := 100) (n := (0, 0)) (i := 0) dX7_adds_100 rfl rfl ?_
  refine Ev.gR (pc := 101) (n := (0, 0)) (r := (some 261)) dX7_adds_101 fl_X7_7 (zk_at hR.1 rfl) rfl hR.2.1 ?_
  refine Ev.iconst (pc := 104) (n := (0, 0)) dX7_adds_104 ?_
  refine Ev.ia (pc := 105) (n := (0, 0)) (x := (a + 1)) dX7_adds_105 (zk_at hR.1 rfl) (by omega) (by omega) ((zrw_x (zup (zup I 261 0 (n + 1)) 261 1 (a + 1)) (fup (fup (fup (fup (fup (fup (fup F n 0 a) n 1 t) n 2 gr) n 3 r) n 4 (mcc n F gr r)) n 5 du) n 6 0) (by omega)).trans (zup_s _ _ _ _)) ?_
  refine Ev.iconst (pc := 106) (n := (0, 0)) dX7_adds_106 ?_
  refine Ev.isub (pc := 107) (n := (0, 0)) dX7_adds_107 ⟨by omega, by omega⟩ ?_
  rw [show (a : Int) + 1 - 1 = a by omega]
  exact Ev.iret dX7_adds_108 rfl ⟨(Nat.le_of_ble_eq_true rfl), (Nat.le_of_ble_eq_true rfl)⟩
