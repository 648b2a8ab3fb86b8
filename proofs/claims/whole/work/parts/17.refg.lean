theorem zcp_o (I : Nat → Int → Int) (a b : Int) (m : Nat) {o : Nat} (h : o ≠ 261) : zcp I a b m o = I o := by
  funext x
  unfold zcp
  rw [if_neg (fun g => h g.1)]
theorem zcp_out (I : Nat → Int → Int) (a b : Int) (m : Nat) {x : Int} (h : x < b ∨ b + m ≤ x) : zcp I a b m 261 x = I 261 x := by
  unfold zcp
  rw [if_neg (by omega)]
theorem zcp_in (I : Nat → Int → Int) (a b : Int) (m : Nat) {x : Int} (h : b ≤ x ∧ x < b + m) : zcp I a b m 261 x = I 261 (x - b + a) := by
  unfold zcp
  rw [if_pos ⟨rfl, h⟩]
/-- what saving does: nothing but the rows of the saved states and their number -/
theorem zsav_o (I : Nat → Int → Int) {o : Nat} (h1 : o ≠ 261) (h0 : o ≠ 260) : zsav I o = I o := by
  unfold zsav
  split
  · rw [zcp_o _ _ _ _ h1]
    funext x
    rw [zup_o _ _ _ _ h0, zup_o _ _ _ _ h0, zcp_o _ _ _ _ h1, zcp_o _ _ _ _ h1, zcp_o _ _ _ _ h1]
  · rw [zcp_o _ _ _ _ h1]
    funext x
    rw [zup_o _ _ _ _ h0]
theorem zsav_260 (I : Nat → Int → Int) {x : Int} (h : x ≠ 1) : zsav I 260 x = I 260 x := by
  unfold zsav
  split
  · rw [zcp_o _ _ _ _ (by decide), zup_k _ _ _ _ h, zup_k _ _ _ _ h, zcp_o _ _ _ _ (by decide), zcp_o _ _ _ _ (by decide), zcp_o _ _ _ _ (by decide)]
  · rw [zcp_o _ _ _ _ (by decide), zup_k _ _ _ _ h]
theorem zsav_kept (I : Nat → Int → Int) : zsav I 260 1 = if I 260 1 = 4 then 4 else I 260 1 + 1 := by
  unfold zsav
  split
  · rw [zcp_o _ _ _ _ (by decide), zup_s]
  · rw [zcp_o _ _ _ _ (by decide), zup_s]
theorem zsav_lo (I : Nat → Int → Int) (hk : 0 ≤ I 260 1 ∧ I 260 1 ≤ 4) {x : Int} (h : x < 171) : zsav I 261 x = I 261 x := by
  unfold zsav
  split
  · rw [zcp_out _ _ _ _ (by omega), zup_o _ _ _ _ (by decide), zup_o _ _ _ _ (by decide), zcp_out _ _ _ _ (by omega), zcp_out _ _ _ _ (by omega), zcp_out _ _ _ _ (by omega)]
  · rw [zcp_out _ _ _ _ (by omega), zup_o _ _ _ _ (by decide)]
theorem zsav_sec (I : Nat → Int → Int) (hk : 0 ≤ I 260 1 ∧ I 260 1 ≤ 4) {j x : Int} (hj : 1 ≤ j ∧ j ≤ 4) (hx : 0 ≤ x ∧ x < 171) : zsav I 261 (171 * j + x) = if I 260 1 = 4 then (if j = 4 then I 261 x else I 261 (171 * (j + 1) + x)) else if j = I 260 1 + 1 then I 261 x else I 261 (171 * j + x) := by
  unfold zsav
  by_cases h4 : I 260 1 = 4
  · rw [if_pos h4, if_pos h4]
    rcases (show j = 1 ∨ j = 2 ∨ j = 3 ∨ j = 4 by omega) with e | e | e | e <;> subst e
    · rw [if_neg (by decide), zcp_out _ _ _ _ (by omega), zup_o _ _ _ _ (by decide), zup_o _ _ _ _ (by decide), zcp_out _ _ _ _ (by omega), zcp_out _ _ _ _ (by omega), zcp_in _ _ _ _ (by omega)]
      congr 1
      omega
    · rw [if_neg (by decide), zcp_out _ _ _ _ (by omega), zup_o _ _ _ _ (by decide), zup_o _ _ _ _ (by decide), zcp_out _ _ _ _ (by omega), zcp_in _ _ _ _ (by omega), zcp_out _ _ _ _ (by omega)]
      congr 1
      omega
    · rw [if_neg (by decide), zcp_out _ _ _ _ (by omega), zup_o _ _ _ _ (by decide), zup_o _ _ _ _ (by decide), zcp_in _ _ _ _ (by omega), zcp_out _ _ _ _ (by omega), zcp_out _ _ _ _ (by omega)]
      congr 1
      omega
    · rw [if_pos rfl, zcp_in _ _ _ _ (by omega), zup_o _ _ _ _ (by decide), zup_o _ _ _ _ (by decide), zcp_out _ _ _ _ (by omega), zcp_out _ _ _ _ (by omega), zcp_out _ _ _ _ (by omega)]
      congr 1
      omega
  · rw [if_neg h4, if_neg h4]
    by_cases e : j = I 260 1 + 1
    · rw [if_pos e, zcp_in _ _ _ _ (by omega), zup_o _ _ _ _ (by decide)]
      congr 1
      omega
    · rw [if_neg e, zcp_out _ _ _ _ (by omega), zup_o _ _ _ _ (by decide)]
theorem zrw_id {J : Nat → Int → Int} {F : zF} (h : ∀ k w : Int, 0 ≤ k → k < 24 → 0 ≤ w → w < 7 → J 261 (3 + 7 * k + w) = F k w) : zrw J F = J := by
  rw [← zrw_congr (F := fun k w => J 261 (3 + 7 * k + w)) h, zrw_self]
/-- the state saved -/
def fsav (I : Nat → Int → Int) (F : zF) (w : Int) : Nat → Int → Int := zsav (zrw (zup I 260 2 w) F)
theorem fsav_kept (I : Nat → Int → Int) (F : zF) (w : Int) : zrw (zup I 260 2 w) F 260 1 = I 260 1 := by
  rw [zrw_o _ _ (by decide), zup_k _ _ _ _ (by decide)]
theorem fsav_x (I : Nat → Int → Int) (F : zF) (w : Int) (hk : 0 ≤ I 260 1 ∧ I 260 1 ≤ 4) {x : Int} (h : x < 3) : fsav I F w 261 x = I 261 x := by
  unfold fsav
  rw [zsav_lo _ (by rw [fsav_kept]; exact hk) (by omega), zrw_x _ _ (by omega), zup_o _ _ _ _ (by decide)]
theorem s_refF {h : zH} {I : Nat → Int → Int} {F : zF} (hR : zRM h) (w : Int) : Ev M_X7_isRefused 0 [(0, zr (some 260)), (1, zi w)] [] (h.1, zrw I F, h.2.2) (0, 0) (.inl (some (zi (if w = 0 then 0 else 1))), (h.1, zrw (zup I 260 2 w) F, h.2.2)) := by
  have k9 := s_isRefused (h := (h.1, zrw I F, h.2.2)) (hR.up _) w
  rw [← zrw_up2 I F (by decide)]
  exact k9
theorem s_barF {h : zH} {I : Nat → Int → Int} {F : zF} (hR : zRM h) (w : Int) : Ev M_X7_isBarred 0 [(0, zr (some 260)), (1, zi w)] [] (h.1, zrw I F, h.2.2) (0, 0) (.inl (some (zi (if (if w = 3 then 2 else w) = 0 then 0 else 1))), (h.1, zrw (zup I 260 2 (if w = 3 then 2 else w)) F, h.2.2)) := by
  have k9 := s_isBarred (h := (h.1, zrw I F, h.2.2)) (hR.up _) w
  rw [← zrw_up2 I F (by decide)]
  exact k9
theorem s_savF {h : zH} {I : Nat → Int → Int} {F : zF} (hR : zRM h) (w : Int) (hk : 0 ≤ I 260 1 ∧ I 260 1 ≤ 4) : Ev M_X7_saves 0 [(0, zr (some 260))] [] (h.1, zrw (zup I 260 2 w) F, h.2.2) (0, 0) (.inl none, (h.1, zrw (fsav I F w) F, h.2.2)) := by
  have k9 := s_saves (h := (h.1, zrw (zup I 260 2 w) F, h.2.2)) (hR.up _) (by
    show 0 ≤ zrw (zup I 260 2 w) F 260 1 ∧ zrw (zup I 260 2 w) F 260 1 ≤ 4
    rw [fsav_kept]; exact hk)
  have e : zrw (fsav I F w) F = fsav I F w := zrw_id fun k x h1 h2 h3 h4 => by
    unfold fsav
    rw [zsav_lo _ (by rw [fsav_kept]; exact hk) (by omega), zrw_at _ _ ⟨h1, h2⟩ ⟨h3, h4⟩]
  rw [e]
  exact k9
theorem s_addGroup_no {h : zH} {I : Nat → Int → Int} {F : zF} (hR : zRM h) {n : Nat} (hn : I 261 0 = n) (hn24 : n ≤ 24)  {gr r : Int} (hw0 : ¬ wAdd n F gr r 0 = 0) : Ev M_X7_addGroup 0 [(0, zr (some 260)), (1, zi gr), (2, zi r)] [] (h.1, zrw I F, h.2.2) (0, 0) (.inl (some (zi 0)), (h.1, zrw (zup I 260 2 (wAdd n F gr r 0)) F, h.2.2)) := by
  refine Ev.aload_n (pc := 0) (n := (0, 0)) (i := 0) dX7_addGroup_0 rfl rfl ?_
  refine Ev.aload_n (pc := 1) (n := (0, 0)) (i := 0) dX7_addGroup_1 rfl rfl ?_
  refine Ev.iload_n (pc := 2) (n := (0, 0)) (i := 1) dX7_addGroup_2 rfl rfl ?_
  refine Ev.iload_n (pc := 3) (n := (0, 0)) (i := 2) dX7_addGroup_3 rfl rfl ?_
  refine Ev.iconst (pc := 4) (n := (0, 0)) dX7_addGroup_4 ?_
  refine Ev.callV (pc := 5) (n := (0, 0)) (ob := 260) (as := [zi gr, zi r, zi 0]) (st := [zr (some 260)]) (s_whyNotAdd hR hn hn24) dX7_addGroup_5 ok_X7_whyNotAdd (lk_X7_104 rfl) ⟨(Nat.le_of_ble_eq_true rfl), (Nat.le_of_ble_eq_true rfl)⟩ (zk_at hR.1 rfl) ⟨by decide, rfl⟩ rfl (Nat.le_of_ble_eq_true rfl) (Nat.le_of_ble_eq_true rfl) ⟨(Nat.le_of_ble_eq_true rfl), (Nat.le_of_ble_eq_true rfl)⟩ ?_
  refine Ev.callV (pc := 8) (n := (0, 0)) (ob := 260) (as := [zi (wAdd n F gr r 0)]) (st := []) (s_refF hR (wAdd n F gr r 0)) dX7_addGroup_8 ok_X7_isRefused (lk_X7_60 rfl) ⟨(Nat.le_of_ble_eq_true rfl), (Nat.le_of_ble_eq_true rfl)⟩ (zk_at hR.1 rfl) ⟨by decide, rfl⟩ rfl (Nat.le_of_ble_eq_true rfl) (Nat.le_of_ble_eq_true rfl) ⟨(Nat.le_of_ble_eq_true rfl), (Nat.le_of_ble_eq_true rfl)⟩ ?_
  rw [if_neg hw0]
  refine Ev.if_eq (pc := 11) (n := (0, 0)) (tgt := 16) dX7_addGroup_11 rfl (fun hc => absurd hc (by decide)) (fun hc => ?_)
  refine Ev.iconst (pc := 14) (n := (0, 0)) dX7_addGroup_14 ?_
  exact Ev.iret dX7_addGroup_15 rfl ⟨(Nat.le_of_ble_eq_true rfl), (Nat.le_of_ble_eq_true rfl)⟩
theorem s_addGroup {h : zH} {I : Nat → Int → Int} {F : zF} (hR : zRM h) {n : Nat} (hn : I 261 0 = n) (hn24 : n ≤ 24) (hkp : 0 ≤ I 260 1 ∧ I 260 1 ≤ 4) {gr r : Int} {a : Int} (ha : I 261 1 = a) (ha2 : 0 ≤ a ∧ a ≤ 1000000) (hw0 : wAdd n F gr r 0 = 0) : Ev M_X7_addGroup 0 [(0, zr (some 260)), (1, zi gr), (2, zi r)] [] (h.1, zrw I F, h.2.2) (0, 0) (.inl (some (zi a)), (h.1, zrw (zup (zup (fsav I F 0) 261 0 (n + 1)) 261 1 (a + 1)) (fadd n F a 0 gr r 0), h.2.2)) := by
  refine Ev.aload_n (pc := 0) (n := (0, 0)) (i := 0) dX7_addGroup_0 rfl rfl ?_
  refine Ev.aload_n (pc := 1) (n := (0, 0)) (i := 0) dX7_addGroup_1 rfl rfl ?_
  refine Ev.iload_n (pc := 2) (n := (0, 0)) (i := 1) dX7_addGroup_2 rfl rfl ?_
  refine Ev.iload_n (pc := 3) (n := (0, 0)) (i := 2) dX7_addGroup_3 rfl rfl ?_
  refine Ev.iconst (pc := 4) (n := (0, 0)) dX7_addGroup_4 ?_
  refine Ev.callV (pc := 5) (n := (0, 0)) (ob := 260) (as := [zi gr, zi r, zi 0]) (st := [zr (some 260)]) (s_whyNotAdd hR hn hn24) dX7_addGroup_5 ok_X7_whyNotAdd (lk_X7_104 rfl) ⟨(Nat.le_of_ble_eq_true rfl), (Nat.le_of_ble_eq_true rfl)⟩ (zk_at hR.1 rfl) ⟨by decide, rfl⟩ rfl (Nat.le_of_ble_eq_true rfl) (Nat.le_of_ble_eq_true rfl) ⟨(Nat.le_of_ble_eq_true rfl), (Nat.le_of_ble_eq_true rfl)⟩ ?_
  refine Ev.callV (pc := 8) (n := (0, 0)) (ob := 260) (as := [zi (wAdd n F gr r 0)]) (st := []) (s_refF hR (wAdd n F gr r 0)) dX7_addGroup_8 ok_X7_isRefused (lk_X7_60 rfl) ⟨(Nat.le_of_ble_eq_true rfl), (Nat.le_of_ble_eq_true rfl)⟩ (zk_at hR.1 rfl) ⟨by decide, rfl⟩ rfl (Nat.le_of_ble_eq_true rfl) (Nat.le_of_ble_eq_true rfl) ⟨(Nat.le_of_ble_eq_true rfl), (Nat.le_of_ble_eq_true rfl)⟩ ?_
  rw [hw0]
  rw [if_pos (rfl : (0 : Int) = 0)]
  refine Ev.if_eq (pc := 11) (n := (0, 0)) (tgt := 16) dX7_addGroup_11 rfl (fun hc => ?_) (fun hc => absurd rfl hc)
  refine Ev.aload_n (pc := 16) (n := (0, 0)) (i := 0) dX7_addGroup_16 rfl rfl ?_
  refine Ev.callV (pc := 17) (n := (0, 0)) (ob := 260) (as := []) (st := []) (s_savF hR 0 hkp) dX7_addGroup_17 ok_X7_saves (lk_X7_108 rfl) ⟨(Nat.le_of_ble_eq_true rfl), (Nat.le_of_ble_eq_true rfl)⟩ (zk_at hR.1 rfl) ⟨by decide, rfl⟩ rfl (Nat.le_of_ble_eq_true rfl) (Nat.le_of_ble_eq_true rfl) ⟨(Nat.le_of_ble_eq_true rfl), (Nat.le_of_ble_eq_true rfl)⟩ ?_
  have hnJ : fsav I F 0 261 0 = n := (fsav_x I F 0 hkp (by omega)).trans hn
  refine Ev.aload_n (pc := 20) (n := (0, 0)) (i := 0) dX7_addGroup_20 rfl rfl ?_
  refine Ev.iload_n (pc := 21) (n := (0, 0)) (i := 1) dX7_addGroup_21 rfl rfl ?_
  refine Ev.iload_n (pc := 22) (n := (0, 0)) (i := 2) dX7_addGroup_22 rfl rfl ?_
  refine Ev.iconst (pc := 23) (n := (0, 0)) dX7_addGroup_23 ?_
  refine Ev.iconst (pc := 24) (n := (0, 0)) dX7_addGroup_24 ?_
  have hn2 : n < 24 := by
    unfold wAdd at hw0
    by_cases e : n = 24
    · rw [if_pos (Or.inr e)] at hw0
      split at hw0
      · omega
      · split at hw0 <;> omega
    · omega
  have haJ : fsav I F 0 261 1 = a := (fsav_x I F 0 hkp (by omega)).trans ha
  refine Ev.callV (pc := 25) (n := (0, 0)) (ob := 260) (as := [zi gr, zi r, zi 0, zi 0]) (st := []) (s_adds hR hnJ hn24 hn2 haJ ha2) dX7_addGroup_25 ok_X7_adds (lk_X7_111 rfl) ⟨(Nat.le_of_ble_eq_true rfl), (Nat.le_of_ble_eq_true rfl)⟩ (zk_at hR.1 rfl) ⟨by decide, rfl⟩ rfl (Nat.le_of_ble_eq_true rfl) (Nat.le_of_ble_eq_true rfl) ⟨(Nat.le_of_ble_eq_true rfl), (Nat.le_of_ble_eq_true rfl)⟩ ?_
  exact Ev.iret dX7_addGroup_28 rfl ⟨(Nat.le_of_ble_eq_true rfl), (Nat.le_of_ble_eq_true rfl)⟩
theorem s_addTask_no {h : zH} {I : Nat → Int → Int} {F : zF} (hR : zRM h) {n : Nat} (hn : I 261 0 = n) (hn24 : n ≤ 24)  {gr r du : Int} (hw0 : ¬ wAdd n F gr r du = 0) : Ev M_X7_addTask 0 [(0, zr (some 260)), (1, zi gr), (2, zi r), (3, zi du)] [] (h.1, zrw I F, h.2.2) (0, 0) (.inl (some (zi 0)), (h.1, zrw (zup I 260 2 (wAdd n F gr r du)) F, h.2.2)) := by
  refine Ev.aload_n (pc := 0) (n := (0, 0)) (i := 0) dX7_addTask_0 rfl rfl ?_
  refine Ev.aload_n (pc := 1) (n := (0, 0)) (i := 0) dX7_addTask_1 rfl rfl ?_
  refine Ev.iload_n (pc := 2) (n := (0, 0)) (i := 1) dX7_addTask_2 rfl rfl ?_
  refine Ev.iload_n (pc := 3) (n := (0, 0)) (i := 2) dX7_addTask_3 rfl rfl ?_
  refine Ev.iload_n (pc := 4) (n := (0, 0)) (i := 3) dX7_addTask_4 rfl rfl ?_
  refine Ev.callV (pc := 5) (n := (0, 0)) (ob := 260) (as := [zi gr, zi r, zi du]) (st := [zr (some 260)]) (s_whyNotAdd hR hn hn24) dX7_addTask_5 ok_X7_whyNotAdd (lk_X7_104 rfl) ⟨(Nat.le_of_ble_eq_true rfl), (Nat.le_of_ble_eq_true rfl)⟩ (zk_at hR.1 rfl) ⟨by decide, rfl⟩ rfl (Nat.le_of_ble_eq_true rfl) (Nat.le_of_ble_eq_true rfl) ⟨(Nat.le_of_ble_eq_true rfl), (Nat.le_of_ble_eq_true rfl)⟩ ?_
  refine Ev.callV (pc := 8) (n := (0, 0)) (ob := 260) (as := [zi (wAdd n F gr r du)]) (st := []) (s_refF hR (wAdd n F gr r du)) dX7_addTask_8 ok_X7_isRefused (lk_X7_60 rfl) ⟨(Nat.le_of_ble_eq_true rfl), (Nat.le_of_ble_eq_true rfl)⟩ (zk_at hR.1 rfl) ⟨by decide, rfl⟩ rfl (Nat.le_of_ble_eq_true rfl) (Nat.le_of_ble_eq_true rfl) ⟨(Nat.le_of_ble_eq_true rfl), (Nat.le_of_ble_eq_true rfl)⟩ ?_
  rw [if_neg hw0]
  refine Ev.if_eq (pc := 11) (n := (0, 0)) (tgt := 16) dX7_addTask_11 rfl (fun hc => absurd hc (by decide)) (fun hc => ?_)
  refine Ev.iconst (pc := 14) (n := (0, 0)) dX7_addTask_14 ?_
  exact Ev.iret dX7_addTask_15 rfl ⟨(Nat.le_of_ble_eq_true rfl), (Nat.le_of_ble_eq_true rfl)⟩
theorem s_addTask {h : zH} {I : Nat → Int → Int} {F : zF} (hR : zRM h) {n : Nat} (hn : I 261 0 = n) (hn24 : n ≤ 24) (hkp : 0 ≤ I 260 1 ∧ I 260 1 ≤ 4) {gr r du : Int} {a : Int} (ha : I 261 1 = a) (ha2 : 0 ≤ a ∧ a ≤ 1000000) (hw0 : wAdd n F gr r du = 0) : Ev M_X7_addTask 0 [(0, zr (some 260)), (1, zi gr), (2, zi r), (3, zi du)] [] (h.1, zrw I F, h.2.2) (0, 0) (.inl (some (zi a)), (h.1, zrw (zup (zup (fsav I F 0) 261 0 (n + 1)) 261 1 (a + 1)) (fadd n F a 1 gr r du), h.2.2)) := by
  refine Ev.aload_n (pc := 0) (n := (0, 0)) (i := 0) dX7_addTask_0 rfl rfl ?_
  refine Ev.aload_n (pc := 1) (n := (0, 0)) (i := 0) dX7_addTask_1 rfl rfl ?_
  refine Ev.iload_n (pc := 2) (n := (0, 0)) (i := 1) dX7_addTask_2 rfl rfl ?_
  refine Ev.iload_n (pc := 3) (n := (0, 0)) (i := 2) dX7_addTask_3 rfl rfl ?_
  refine Ev.iload_n (pc := 4) (n := (0, 0)) (i := 3) dX7_addTask_4 rfl rfl ?_
  refine Ev.callV (pc := 5) (n := (0, 0)) (ob := 260) (as := [zi gr, zi r, zi du]) (st := [zr (some 260)]) (s_whyNotAdd hR hn hn24) dX7_addTask_5 ok_X7_whyNotAdd (lk_X7_104 rfl) ⟨(Nat.le_of_ble_eq_true rfl), (Nat.le_of_ble_eq_true rfl)⟩ (zk_at hR.1 rfl) ⟨by decide, rfl⟩ rfl (Nat.le_of_ble_eq_true rfl) (Nat.le_of_ble_eq_true rfl) ⟨(Nat.le_of_ble_eq_true rfl), (Nat.le_of_ble_eq_true rfl)⟩ ?_
  refine Ev.callV (pc := 8) (n := (0, 0)) (ob := 260) (as := [zi (wAdd n F gr r du)]) (st := []) (s_refF hR (wAdd n F gr r du)) dX7_addTask_8 ok_X7_isRefused (lk_X7_60 rfl) ⟨(Nat.le_of_ble_eq_true rfl), (Nat.le_of_ble_eq_true rfl)⟩ (zk_at hR.1 rfl) ⟨by decide, rfl⟩ rfl (Nat.le_of_ble_eq_true rfl) (Nat.le_of_ble_eq_true rfl) ⟨(Nat.le_of_ble_eq_true rfl), (Nat.le_of_ble_eq_true rfl)⟩ ?_
  rw [hw0]
  rw [if_pos (rfl : (0 : Int) = 0)]
  refine Ev.if_eq (pc := 11) (n := (0, 0)) (tgt := 16) dX7_addTask_11 rfl (fun hc => ?_) (fun hc => absurd rfl hc)
  refine Ev.aload_n (pc := 16) (n := (0, 0)) (i := 0) dX7_addTask_16 rfl rfl ?_
  refine Ev.callV (pc := 17) (n := (0, 0)) (ob := 260) (as := []) (st := []) (s_savF hR 0 hkp) dX7_addTask_17 ok_X7_saves (lk_X7_108 rfl) ⟨(Nat.le_of_ble_eq_true rfl), (Nat.le_of_ble_eq_true rfl)⟩ (zk_at hR.1 rfl) ⟨by decide, rfl⟩ rfl (Nat.le_of_ble_eq_true rfl) (Nat.le_of_ble_eq_true rfl) ⟨(Nat.le_of_ble_eq_true rfl), (Nat.le_of_ble_eq_true rfl)⟩ ?_
  have hnJ : fsav I F 0 261 0 = n := (fsav_x I F 0 hkp (by omega)).trans hn
  refine Ev.aload_n (pc := 20) (n := (0, 0)) (i := 0) dX7_addTask_20 rfl rfl ?_
  refine Ev.iload_n (pc := 21) (n := (0, 0)) (i := 1) dX7_addTask_21 rfl rfl ?_
  refine Ev.iload_n (pc := 22) (n := (0, 0)) (i := 2) dX7_addTask_22 rfl rfl ?_
  refine Ev.iconst (pc := 23) (n := (0, 0)) dX7_addTask_23 ?_
  refine Ev.iload_n (pc := 24) (n := (0, 0)) (i := 3) dX7_addTask_24 rfl rfl ?_
  have hn2 : n < 24 := by
    unfold wAdd at hw0
    by_cases e : n = 24
    · rw [if_pos (Or.inr e)] at hw0
      split at hw0
      · omega
      · split at hw0 <;> omega
    · omega
  have haJ : fsav I F 0 261 1 = a := (fsav_x I F 0 hkp (by omega)).trans ha
  refine Ev.callV (pc := 25) (n := (0, 0)) (ob := 260) (as := [zi gr, zi r, zi 1, zi du]) (st := []) (s_adds hR hnJ hn24 hn2 haJ ha2) dX7_addTask_25 ok_X7_adds (lk_X7_111 rfl) ⟨(Nat.le_of_ble_eq_true rfl), (Nat.le_of_ble_eq_true rfl)⟩ (zk_at hR.1 rfl) ⟨by decide, rfl⟩ rfl (Nat.le_of_ble_eq_true rfl) (Nat.le_of_ble_eq_true rfl) ⟨(Nat.le_of_ble_eq_true rfl), (Nat.le_of_ble_eq_true rfl)⟩ ?_
  exact Ev.iret dX7_addTask_28 rfl ⟨(Nat.le_of_ble_eq_true rfl), (Nat.le_of_ble_eq_true rfl)⟩
theorem s_move {h : zH} {I : Nat → Int → Int} {F : zF} (hR : zRM h) {n : Nat} (hn : I 261 0 = n) (hn24 : n ≤ 24) (hkp : 0 ≤ I 260 1 ∧ I 260 1 ≤ 4) {dep : Nat → Nat} {B : Int} (hw : WF n F dep B) (hpl : ∀ o : Nat, o < n → -1 ≤ F o 4 ∧ F o 4 ≤ 100) {x gr r : Int} : ∃ w : Int, IsWMove n F x gr r w ∧ (¬ w = 0 → Ev M_X7_move 0 [(0, zr (some 260)), (1, zi x), (2, zi gr), (3, zi r)] [] (h.1, zrw I F, h.2.2) (0, 0) (.inl (some (zi 0)), (h.1, zrw (zup I 260 2 w) F, h.2.2))) ∧ (w = 0 → ∀ k : Nat, zpos n F x = k → Ev M_X7_move 0 [(0, zr (some 260)), (1, zi x), (2, zi gr), (3, zi r)] [] (h.1, zrw I F, h.2.2) (0, 0) (.inl (some (zi (mcc n (fleave n F k) gr r))), (h.1, zrw (fsav I F 0) (fmove n F k gr r), h.2.2))) := by
  obtain ⟨w, hW, rw9⟩ := s_whyNotMove (I := I) hR hn hn24 hw (x := x) (gr := gr) (r := r)
  refine ⟨w, hW, fun hw0 => ?_, fun hw0 k hf => ?_⟩
  · skip
    refine Ev.aload_n (pc := 0) (n := (0, 0)) (i := 0) dX7_move_0 rfl rfl ?_
    refine Ev.aload_n (pc := 1) (n := (0, 0)) (i := 0) dX7_move_1 rfl rfl ?_
    refine Ev.iload_n (pc := 2) (n := (0, 0)) (i := 1) dX7_move_2 rfl rfl ?_
    refine Ev.iload_n (pc := 3) (n := (0, 0)) (i := 2) dX7_move_3 rfl rfl ?_
    refine Ev.iload_n (pc := 4) (n := (0, 0)) (i := 3) dX7_move_4 rfl rfl ?_
    refine Ev.callV (pc := 5) (n := (0, 0)) (ob := 260) (as := [zi x, zi gr, zi r]) (st := [zr (some 260)]) (rw9) dX7_move_5 ok_X7_whyNotMove (lk_X7_125 rfl) ⟨(Nat.le_of_ble_eq_true rfl), (Nat.le_of_ble_eq_true rfl)⟩ (zk_at hR.1 rfl) ⟨by decide, rfl⟩ rfl (Nat.le_of_ble_eq_true rfl) (Nat.le_of_ble_eq_true rfl) ⟨(Nat.le_of_ble_eq_true rfl), (Nat.le_of_ble_eq_true rfl)⟩ ?_
    refine Ev.callV (pc := 8) (n := (0, 0)) (ob := 260) (as := [zi w]) (st := []) (s_refF hR w) dX7_move_8 ok_X7_isRefused (lk_X7_60 rfl) ⟨(Nat.le_of_ble_eq_true rfl), (Nat.le_of_ble_eq_true rfl)⟩ (zk_at hR.1 rfl) ⟨by decide, rfl⟩ rfl (Nat.le_of_ble_eq_true rfl) (Nat.le_of_ble_eq_true rfl) ⟨(Nat.le_of_ble_eq_true rfl), (Nat.le_of_ble_eq_true rfl)⟩ ?_
    rw [if_neg hw0]
    refine Ev.if_eq (pc := 11) (n := (0, 0)) (tgt := 16) dX7_move_11 rfl (fun hc => absurd hc (by decide)) (fun hc => ?_)
    refine Ev.iconst (pc := 14) (n := (0, 0)) dX7_move_14 ?_
    exact Ev.iret dX7_move_15 rfl ⟨(Nat.le_of_ble_eq_true rfl), (Nat.le_of_ble_eq_true rfl)⟩
  · skip
    subst hw0
    refine Ev.aload_n (pc := 0) (n := (0, 0)) (i := 0) dX7_move_0 rfl rfl ?_
    refine Ev.aload_n (pc := 1) (n := (0, 0)) (i := 0) dX7_move_1 rfl rfl ?_
    refine Ev.iload_n (pc := 2) (n := (0, 0)) (i := 1) dX7_move_2 rfl rfl ?_
    refine Ev.iload_n (pc := 3) (n := (0, 0)) (i := 2) dX7_move_3 rfl rfl ?_
    refine Ev.iload_n (pc := 4) (n := (0, 0)) (i := 3) dX7_move_4 rfl rfl ?_
    refine Ev.callV (pc := 5) (n := (0, 0)) (ob := 260) (as := [zi x, zi gr, zi r]) (st := [zr (some 260)]) (rw9) dX7_move_5 ok_X7_whyNotMove (lk_X7_125 rfl) ⟨(Nat.le_of_ble_eq_true rfl), (Nat.le_of_ble_eq_true rfl)⟩ (zk_at hR.1 rfl) ⟨by decide, rfl⟩ rfl (Nat.le_of_ble_eq_true rfl) (Nat.le_of_ble_eq_true rfl) ⟨(Nat.le_of_ble_eq_true rfl), (Nat.le_of_ble_eq_true rfl)⟩ ?_
    refine Ev.callV (pc := 8) (n := (0, 0)) (ob := 260) (as := [zi 0]) (st := []) (s_refF hR 0) dX7_move_8 ok_X7_isRefused (lk_X7_60 rfl) ⟨(Nat.le_of_ble_eq_true rfl), (Nat.le_of_ble_eq_true rfl)⟩ (zk_at hR.1 rfl) ⟨by decide, rfl⟩ rfl (Nat.le_of_ble_eq_true rfl) (Nat.le_of_ble_eq_true rfl) ⟨(Nat.le_of_ble_eq_true rfl), (Nat.le_of_ble_eq_true rfl)⟩ ?_
    rw [if_pos (rfl : (0 : Int) = 0)]
    refine Ev.if_eq (pc := 11) (n := (0, 0)) (tgt := 16) dX7_move_11 rfl (fun hc => ?_) (fun hc => absurd rfl hc)
    refine Ev.aload_n (pc := 16) (n := (0, 0)) (i := 0) dX7_move_16 rfl rfl ?_
    refine Ev.callV (pc := 17) (n := (0, 0)) (ob := 260) (as := []) (st := []) (s_savF hR 0 hkp) dX7_move_17 ok_X7_saves (lk_X7_108 rfl) ⟨(Nat.le_of_ble_eq_true rfl), (Nat.le_of_ble_eq_true rfl)⟩ (zk_at hR.1 rfl) ⟨by decide, rfl⟩ rfl (Nat.le_of_ble_eq_true rfl) (Nat.le_of_ble_eq_true rfl) ⟨(Nat.le_of_ble_eq_true rfl), (Nat.le_of_ble_eq_true rfl)⟩ ?_
    have hnJ : fsav I F 0 261 0 = n := (fsav_x I F 0 hkp (by omega)).trans hn
    have hk := (zpos_num hf).1
    refine Ev.aload_n (pc := 20) (n := (0, 0)) (i := 0) dX7_move_20 rfl rfl ?_
    refine Ev.iload_n (pc := 21) (n := (0, 0)) (i := 1) dX7_move_21 rfl rfl ?_
    refine Ev.iload_n (pc := 22) (n := (0, 0)) (i := 2) dX7_move_22 rfl rfl ?_
    refine Ev.iload_n (pc := 23) (n := (0, 0)) (i := 3) dX7_move_23 rfl rfl ?_
    refine Ev.callV (pc := 24) (n := (0, 0)) (ob := 260) (as := [zi x, zi gr, zi r]) (st := []) (s_moves hR hnJ hn24 hk hpl hf) dX7_move_24 ok_X7_moves (lk_X7_128 rfl) ⟨(Nat.le_of_ble_eq_true rfl), (Nat.le_of_ble_eq_true rfl)⟩ (zk_at hR.1 rfl) ⟨by decide, rfl⟩ rfl (Nat.le_of_ble_eq_true rfl) (Nat.le_of_ble_eq_true rfl) ⟨(Nat.le_of_ble_eq_true rfl), (Nat.le_of_ble_eq_true rfl)⟩ ?_
    exact Ev.iret dX7_move_27 rfl ⟨(Nat.le_of_ble_eq_true rfl), (Nat.le_of_ble_eq_true rfl)⟩
theorem s_remove_no {h : zH} {I : Nat → Int → Int} {F : zF} (hR : zRM h) {n : Nat} (hn : I 261 0 = n) (hn24 : n ≤ 24) {x : Int} (hw0 : ¬ (if wRem n F x = 3 then 2 else wRem n F x) = 0) : Ev M_X7_remove 0 [(0, zr (some 260)), (1, zi x)] [] (h.1, zrw I F, h.2.2) (0, 0) (.inl (some (zi 0)), (h.1, zrw (zup I 260 2 (if wRem n F x = 3 then 2 else wRem n F x)) F, h.2.2)) := by
  refine Ev.aload_n (pc := 0) (n := (0, 0)) (i := 0) dX7_remove_0 rfl rfl ?_
  refine Ev.aload_n (pc := 1) (n := (0, 0)) (i := 0) dX7_remove_1 rfl rfl ?_
  refine Ev.iload_n (pc := 2) (n := (0, 0)) (i := 1) dX7_remove_2 rfl rfl ?_
  refine Ev.callV (pc := 3) (n := (0, 0)) (ob := 260) (as := [zi x]) (st := [zr (some 260)]) (s_whyNotRemove hR hn hn24) dX7_remove_3 ok_X7_whyNotRemove (lk_X7_131 rfl) ⟨(Nat.le_of_ble_eq_true rfl), (Nat.le_of_ble_eq_true rfl)⟩ (zk_at hR.1 rfl) ⟨by decide, rfl⟩ rfl (Nat.le_of_ble_eq_true rfl) (Nat.le_of_ble_eq_true rfl) ⟨(Nat.le_of_ble_eq_true rfl), (Nat.le_of_ble_eq_true rfl)⟩ ?_
  refine Ev.callV (pc := 6) (n := (0, 0)) (ob := 260) (as := [zi (wRem n F x)]) (st := []) (s_barF hR (wRem n F x)) dX7_remove_6 ok_X7_isBarred (lk_X7_134 rfl) ⟨(Nat.le_of_ble_eq_true rfl), (Nat.le_of_ble_eq_true rfl)⟩ (zk_at hR.1 rfl) ⟨by decide, rfl⟩ rfl (Nat.le_of_ble_eq_true rfl) (Nat.le_of_ble_eq_true rfl) ⟨(Nat.le_of_ble_eq_true rfl), (Nat.le_of_ble_eq_true rfl)⟩ ?_
  rw [if_neg hw0]
  refine Ev.if_eq (pc := 9) (n := (0, 0)) (tgt := 14) dX7_remove_9 rfl (fun hc => absurd hc (by decide)) (fun hc => ?_)
  refine Ev.iconst (pc := 12) (n := (0, 0)) dX7_remove_12 ?_
  exact Ev.iret dX7_remove_13 rfl ⟨(Nat.le_of_ble_eq_true rfl), (Nat.le_of_ble_eq_true rfl)⟩
theorem s_remove {h : zH} {I : Nat → Int → Int} {F : zF} (hR : zRM h) {n : Nat} (hn : I 261 0 = n) (hn24 : n ≤ 24) (hkp : 0 ≤ I 260 1 ∧ I 260 1 ≤ 4) {dep : Nat → Nat} {B : Int} (hw : WF n F dep B) (hpl : ∀ o : Nat, o < n → -1 ≤ F o 4 ∧ F o 4 ≤ 100) {x : Int} {k : Nat} (hf : zpos n F x = k) (hw0 : wRem n F x = 0) : ∃ (I3 : Nat → Int → Int) (G : Int → Int) (F3 : zF), (∀ o, o ≠ 268 → I3 o = fsav I F 0 o) ∧ (∀ j : Nat, j < n → G j = 1 ∧ Bel n F (F j 0) x ∨ G j = 0 ∧ ¬ Bel n F (F j 0) x) ∧ (∀ j : Nat, j < n → G j ≠ 1 → ∀ w : Int, 0 ≤ w → w < 7 → F3 ((j : Int) - gcnt G j) w = fleave n F k j w) ∧ Ev M_X7_remove 0 [(0, zr (some 260)), (1, zi x)] [] (h.1, zrw I F, h.2.2) (0, 0) (.inl (some (zi (gcnt G n))), (h.1, zrw (zup I3 261 0 ((n : Int) - gcnt G n)) F3, h.2.2)) := by
  have hnJ : fsav I F 0 261 0 = n := (fsav_x I F 0 hkp (by omega)).trans hn
  obtain ⟨I3, G, F3, r1, r2, r3, r4⟩ := s_removes (I := fsav I F 0) hR hnJ hn24 hw hf hpl
  refine ⟨I3, G, F3, r1, r2, r3, ?_⟩
  refine Ev.aload_n (pc := 0) (n := (0, 0)) (i := 0) dX7_remove_0 rfl rfl ?_
  refine Ev.aload_n (pc := 1) (n := (0, 0)) (i := 0) dX7_remove_1 rfl rfl ?_
  refine Ev.iload_n (pc := 2) (n := (0, 0)) (i := 1) dX7_remove_2 rfl rfl ?_
  refine Ev.callV (pc := 3) (n := (0, 0)) (ob := 260) (as := [zi x]) (st := [zr (some 260)]) (s_whyNotRemove hR hn hn24) dX7_remove_3 ok_X7_whyNotRemove (lk_X7_131 rfl) ⟨(Nat.le_of_ble_eq_true rfl), (Nat.le_of_ble_eq_true rfl)⟩ (zk_at hR.1 rfl) ⟨by decide, rfl⟩ rfl (Nat.le_of_ble_eq_true rfl) (Nat.le_of_ble_eq_true rfl) ⟨(Nat.le_of_ble_eq_true rfl), (Nat.le_of_ble_eq_true rfl)⟩ ?_
  refine Ev.callV (pc := 6) (n := (0, 0)) (ob := 260) (as := [zi (wRem n F x)]) (st := []) (s_barF hR (wRem n F x)) dX7_remove_6 ok_X7_isBarred (lk_X7_134 rfl) ⟨(Nat.le_of_ble_eq_true rfl), (Nat.le_of_ble_eq_true rfl)⟩ (zk_at hR.1 rfl) ⟨by decide, rfl⟩ rfl (Nat.le_of_ble_eq_true rfl) (Nat.le_of_ble_eq_true rfl) ⟨(Nat.le_of_ble_eq_true rfl), (Nat.le_of_ble_eq_true rfl)⟩ ?_
  rw [hw0]
  rw [if_neg (by decide : ¬ (0 : Int) = 3), if_pos (rfl : (0 : Int) = 0)]
  refine Ev.if_eq (pc := 9) (n := (0, 0)) (tgt := 14) dX7_remove_9 rfl (fun hc => ?_) (fun hc => absurd rfl hc)
  refine Ev.aload_n (pc := 14) (n := (0, 0)) (i := 0) dX7_remove_14 rfl rfl ?_
  refine Ev.callV (pc := 15) (n := (0, 0)) (ob := 260) (as := []) (st := []) (s_savF hR 0 hkp) dX7_remove_15 ok_X7_saves (lk_X7_108 rfl) ⟨(Nat.le_of_ble_eq_true rfl), (Nat.le_of_ble_eq_true rfl)⟩ (zk_at hR.1 rfl) ⟨by decide, rfl⟩ rfl (Nat.le_of_ble_eq_true rfl) (Nat.le_of_ble_eq_true rfl) ⟨(Nat.le_of_ble_eq_true rfl), (Nat.le_of_ble_eq_true rfl)⟩ ?_
  refine Ev.aload_n (pc := 18) (n := (0, 0)) (i := 0) dX7_remove_18 rfl rfl ?_
  refine Ev.iload_n (pc := 19) (n := (0, 0)) (i := 1) dX7_remove_19 rfl rfl ?_
  refine Ev.callV (pc := 20) (n := (0, 0)) (ob := 260) (as := [zi x]) (st := []) (r4) dX7_remove_20 ok_X7_removes (lk_X7_137 rfl) ⟨(Nat.le_of_ble_eq_true rfl), (Nat.le_of_ble_eq_true rfl)⟩ (zk_at hR.1 rfl) ⟨by decide, rfl⟩ rfl (Nat.le_of_ble_eq_true rfl) (Nat.le_of_ble_eq_true rfl) ⟨(Nat.le_of_ble_eq_true rfl), (Nat.le_of_ble_eq_true rfl)⟩ ?_
  exact Ev.iret dX7_remove_23 rfl ⟨(Nat.le_of_ble_eq_true rfl), (Nat.le_of_ble_eq_true rfl)⟩
theorem s_setDuration_no {h : zH} {I : Nat → Int → Int} {F : zF} (hR : zRM h) {n : Nat} (hn : I 261 0 = n) (hn24 : n ≤ 24) {x d : Int} (hw0 : ¬ wTask n F x (if 0 ≤ d ∧ d ≤ 60 then 1 else 0) = 0) : Ev M_X7_setDuration 0 [(0, zr (some 260)), (1, zi x), (2, zi d)] [] (h.1, zrw I F, h.2.2) (0, 0) (.inl (some (zi 0)), (h.1, zrw (zup I 260 2 (wTask n F x (if 0 ≤ d ∧ d ≤ 60 then 1 else 0))) F, h.2.2)) := by
  refine Ev.aload_n (pc := 0) (n := (0, 0)) (i := 0) dX7_setDuration_0 rfl rfl ?_
  refine Ev.aload_n (pc := 1) (n := (0, 0)) (i := 0) dX7_setDuration_1 rfl rfl ?_
  refine Ev.iload_n (pc := 2) (n := (0, 0)) (i := 1) dX7_setDuration_2 rfl rfl ?_
  refine Ev.iload_n (pc := 3) (n := (0, 0)) (i := 2) dX7_setDuration_3 rfl rfl ?_
  refine Ev.iconst (pc := 4) (n := (0, 0)) dX7_setDuration_4 ?_
  refine Ev.bipush (pc := 5) (n := (0, 0)) dX7_setDuration_5 ?_
  refine Ev.callS (pc := 7) (n := (0, 0)) (as := [zi d, zi 0, zi 60]) (st := [zi x, zr (some 260), zr (some 260)]) (s_in (h.1, zrw I F, h.2.2) d 0 60) dX7_setDuration_7 ok_X7_in (lk_X7_91 rfl) ⟨(Nat.le_of_ble_eq_true rfl), (Nat.le_of_ble_eq_true rfl)⟩ rfl (Nat.le_of_ble_eq_true rfl) (Nat.le_of_ble_eq_true rfl) ⟨(Nat.le_of_ble_eq_true rfl), (Nat.le_of_ble_eq_true rfl)⟩ ?_
  refine Ev.callV (pc := 10) (n := (0, 0)) (ob := 260) (as := [zi x, zi (if 0 ≤ d ∧ d ≤ 60 then 1 else 0)]) (st := [zr (some 260)]) (s_whyNotTask hR hn hn24) dX7_setDuration_10 ok_X7_whyNotTask (lk_X7_140 rfl) ⟨(Nat.le_of_ble_eq_true rfl), (Nat.le_of_ble_eq_true rfl)⟩ (zk_at hR.1 rfl) ⟨by decide, rfl⟩ rfl (Nat.le_of_ble_eq_true rfl) (Nat.le_of_ble_eq_true rfl) ⟨(Nat.le_of_ble_eq_true rfl), (Nat.le_of_ble_eq_true rfl)⟩ ?_
  refine Ev.callV (pc := 13) (n := (0, 0)) (ob := 260) (as := [zi (wTask n F x (if 0 ≤ d ∧ d ≤ 60 then 1 else 0))]) (st := []) (s_refF hR (wTask n F x (if 0 ≤ d ∧ d ≤ 60 then 1 else 0))) dX7_setDuration_13 ok_X7_isRefused (lk_X7_60 rfl) ⟨(Nat.le_of_ble_eq_true rfl), (Nat.le_of_ble_eq_true rfl)⟩ (zk_at hR.1 rfl) ⟨by decide, rfl⟩ rfl (Nat.le_of_ble_eq_true rfl) (Nat.le_of_ble_eq_true rfl) ⟨(Nat.le_of_ble_eq_true rfl), (Nat.le_of_ble_eq_true rfl)⟩ ?_
  rw [if_neg hw0]
  refine Ev.if_eq (pc := 16) (n := (0, 0)) (tgt := 21) dX7_setDuration_16 rfl (fun hc => absurd hc (by decide)) (fun hc => ?_)
  refine Ev.iconst (pc := 19) (n := (0, 0)) dX7_setDuration_19 ?_
  exact Ev.iret dX7_setDuration_20 rfl ⟨(Nat.le_of_ble_eq_true rfl), (Nat.le_of_ble_eq_true rfl)⟩
theorem s_setDuration {h : zH} {I : Nat → Int → Int} {F : zF} (hR : zRM h) {n : Nat} (hn : I 261 0 = n) (hn24 : n ≤ 24) (hkp : 0 ≤ I 260 1 ∧ I 260 1 ≤ 4) {x d : Int} {k : Nat} (hf : zpos n F x = k) {dep : Nat → Nat} {B : Int} (hw : WF n (flast F k d) dep B) (hB : 24 * (60 + B) ≤ 1000000000) {len st sl dp : Int → Int} (hl : IsLen n (flast F k d) len) (ht : IsTm n (flast F k d) len st sl dp) (hb : (0 ≤ F k 5 ∧ F k 5 ≤ 60) ∧ (0 ≤ F k 6 ∧ F k 6 ≤ 1000000000)) (hw0 : wTask n F x (if 0 ≤ d ∧ d ≤ 60 then 1 else 0) = 0) : ∃ I2 : Nat → Int → Int, zLaid (fsav I F 0) I2 n len st sl dp ∧ Ev M_X7_setDuration 0 [(0, zr (some 260)), (1, zi x), (2, zi d)] [] (h.1, zrw I F, h.2.2) (0, 0) (.inl (some (zi (len 0))), (h.1, zrw I2 (flast F k d), h.2.2)) := by
  have hnJ : fsav I F 0 261 0 = n := (fsav_x I F 0 hkp (by omega)).trans hn
  obtain ⟨k9, hk, hf9, -, hd9⟩ := wTask_pos hw0
  have ek : k9 = k := by omega
  subst ek
  have hd : 0 ≤ d ∧ d ≤ 60 := by
    by_cases e : 0 ≤ d ∧ d ≤ 60
    · exact e
    · rw [if_neg e] at hd9; exact absurd rfl hd9
  obtain ⟨I2, hL, r⟩ := s_endF (I := fsav I F 0) (F := flast F k9 d) hR hnJ hn24 hw hB hl ht
  refine ⟨I2, hL, ?_⟩
  refine Ev.aload_n (pc := 0) (n := (0, 0)) (i := 0) dX7_setDuration_0 rfl rfl ?_
  refine Ev.aload_n (pc := 1) (n := (0, 0)) (i := 0) dX7_setDuration_1 rfl rfl ?_
  refine Ev.iload_n (pc := 2) (n := (0, 0)) (i := 1) dX7_setDuration_2 rfl rfl ?_
  refine Ev.iload_n (pc := 3) (n := (0, 0)) (i := 2) dX7_setDuration_3 rfl rfl ?_
  refine Ev.iconst (pc := 4) (n := (0, 0)) dX7_setDuration_4 ?_
  refine Ev.bipush (pc := 5) (n := (0, 0)) dX7_setDuration_5 ?_
  refine Ev.callS (pc := 7) (n := (0, 0)) (as := [zi d, zi 0, zi 60]) (st := [zi x, zr (some 260), zr (some 260)]) (s_in (h.1, zrw I F, h.2.2) d 0 60) dX7_setDuration_7 ok_X7_in (lk_X7_91 rfl) ⟨(Nat.le_of_ble_eq_true rfl), (Nat.le_of_ble_eq_true rfl)⟩ rfl (Nat.le_of_ble_eq_true rfl) (Nat.le_of_ble_eq_true rfl) ⟨(Nat.le_of_ble_eq_true rfl), (Nat.le_of_ble_eq_true rfl)⟩ ?_
  refine Ev.callV (pc := 10) (n := (0, 0)) (ob := 260) (as := [zi x, zi (if 0 ≤ d ∧ d ≤ 60 then 1 else 0)]) (st := [zr (some 260)]) (s_whyNotTask hR hn hn24) dX7_setDuration_10 ok_X7_whyNotTask (lk_X7_140 rfl) ⟨(Nat.le_of_ble_eq_true rfl), (Nat.le_of_ble_eq_true rfl)⟩ (zk_at hR.1 rfl) ⟨by decide, rfl⟩ rfl (Nat.le_of_ble_eq_true rfl) (Nat.le_of_ble_eq_true rfl) ⟨(Nat.le_of_ble_eq_true rfl), (Nat.le_of_ble_eq_true rfl)⟩ ?_
  refine Ev.callV (pc := 13) (n := (0, 0)) (ob := 260) (as := [zi (wTask n F x (if 0 ≤ d ∧ d ≤ 60 then 1 else 0))]) (st := []) (s_refF hR (wTask n F x (if 0 ≤ d ∧ d ≤ 60 then 1 else 0))) dX7_setDuration_13 ok_X7_isRefused (lk_X7_60 rfl) ⟨(Nat.le_of_ble_eq_true rfl), (Nat.le_of_ble_eq_true rfl)⟩ (zk_at hR.1 rfl) ⟨by decide, rfl⟩ rfl (Nat.le_of_ble_eq_true rfl) (Nat.le_of_ble_eq_true rfl) ⟨(Nat.le_of_ble_eq_true rfl), (Nat.le_of_ble_eq_true rfl)⟩ ?_
  rw [hw0]
  rw [if_pos (rfl : (0 : Int) = 0)]
  refine Ev.if_eq (pc := 16) (n := (0, 0)) (tgt := 21) dX7_setDuration_16 rfl (fun hc => ?_) (fun hc => absurd rfl hc)
  refine Ev.aload_n (pc := 21) (n := (0, 0)) (i := 0) dX7_setDuration_21 rfl rfl ?_
  refine Ev.callV (pc := 22) (n := (0, 0)) (ob := 260) (as := []) (st := []) (s_savF hR 0 hkp) dX7_setDuration_22 ok_X7_saves (lk_X7_108 rfl) ⟨(Nat.le_of_ble_eq_true rfl), (Nat.le_of_ble_eq_true rfl)⟩ (zk_at hR.1 rfl) ⟨by decide, rfl⟩ rfl (Nat.le_of_ble_eq_true rfl) (Nat.le_of_ble_eq_true rfl) ⟨(Nat.le_of_ble_eq_true rfl), (Nat.le_of_ble_eq_true rfl)⟩ ?_
  refine Ev.aload_n (pc := 25) (n := (0, 0)) (i := 0) dX7_setDuration_25 rfl rfl ?_
  refine Ev.iload_n (pc := 26) (n := (0, 0)) (i := 1) dX7_setDuration_26 rfl rfl ?_
  refine Ev.iload_n (pc := 27) (n := (0, 0)) (i := 2) dX7_setDuration_27 rfl rfl ?_
  refine Ev.callV (pc := 28) (n := (0, 0)) (ob := 260) (as := [zi x, zi d]) (st := []) (s_lasts hR hnJ hn24 hk hf hd hb) dX7_setDuration_28 ok_X7_lasts (lk_X7_144 rfl) ⟨(Nat.le_of_ble_eq_true rfl), (Nat.le_of_ble_eq_true rfl)⟩ (zk_at hR.1 rfl) ⟨by decide, rfl⟩ rfl (Nat.le_of_ble_eq_true rfl) (Nat.le_of_ble_eq_true rfl) ⟨(Nat.le_of_ble_eq_true rfl), (Nat.le_of_ble_eq_true rfl)⟩ ?_
  refine Ev.aload_n (pc := 31) (n := (0, 0)) (i := 0) dX7_setDuration_31 rfl rfl ?_
  refine Ev.callV (pc := 32) (n := (0, 0)) (ob := 260) (as := []) (st := []) (r) dX7_setDuration_32 ok_X7_end (lk_X7_87 rfl) ⟨(Nat.le_of_ble_eq_true rfl), (Nat.le_of_ble_eq_true rfl)⟩ (zk_at hR.1 rfl) ⟨by decide, rfl⟩ rfl (Nat.le_of_ble_eq_true rfl) (Nat.le_of_ble_eq_true rfl) ⟨(Nat.le_of_ble_eq_true rfl), (Nat.le_of_ble_eq_true rfl)⟩ ?_
  exact Ev.iret dX7_setDuration_35 rfl ⟨(Nat.le_of_ble_eq_true rfl), (Nat.le_of_ble_eq_true rfl)⟩
theorem s_borrow {h : zH} {I : Nat → Int → Int} {F : zF} (hR : zRM h) {n : Nat} (hn : I 261 0 = n) (hn24 : n ≤ 24) (hkp : 0 ≤ I 260 1 ∧ I 260 1 ≤ 4) {dep : Nat → Nat} {B : Int} (hw : WF n F dep B) (hB : 24 * (60 + B) ≤ 1000000000) {len st sl dp : Int → Int} (hl : IsLen n F len) (ht : IsTm n F len st sl dp) {x a : Int} {k : Nat} (hf : wBor n F sl x a = 0 → zpos n F x = k) (hb : wBor n F sl x a = 0 → -1000000000 ≤ F k 6 + a ∧ F k 6 + a ≤ 1000000000) : ∃ I2 : Nat → Int → Int, (I2 = I ∨ zLaid I I2 n len st sl dp) ∧ (¬ wBor n F sl x a = 0 → Ev M_X7_borrow 0 [(0, zr (some 260)), (1, zi x), (2, zi a)] [] (h.1, zrw I F, h.2.2) (0, 0) (.inl (some (zi 0)), (h.1, zrw (zup I2 260 2 (wBor n F sl x a)) F, h.2.2))) ∧ (wBor n F sl x a = 0 → Ev M_X7_borrow 0 [(0, zr (some 260)), (1, zi x), (2, zi a)] [] (h.1, zrw I F, h.2.2) (0, 0) (.inl (some (zi (F k 6 + a))), (h.1, zrw (fsav I2 F 0) (fup F k 6 (F k 6 + a)), h.2.2))) := by
  obtain ⟨I2, hI2, r⟩ := s_whyNotBorrow (I := I) hR hn hn24 hw hB hl ht (x := x) (a := a)
  refine ⟨I2, hI2, fun hw0 => ?_, fun hw0 => ?_⟩
  · skip
    refine Ev.aload_n (pc := 0) (n := (0, 0)) (i := 0) dX7_borrow_0 rfl rfl ?_
    refine Ev.aload_n (pc := 1) (n := (0, 0)) (i := 0) dX7_borrow_1 rfl rfl ?_
    refine Ev.iload_n (pc := 2) (n := (0, 0)) (i := 1) dX7_borrow_2 rfl rfl ?_
    refine Ev.iload_n (pc := 3) (n := (0, 0)) (i := 2) dX7_borrow_3 rfl rfl ?_
    refine Ev.callV (pc := 4) (n := (0, 0)) (ob := 260) (as := [zi x, zi a]) (st := [zr (some 260)]) (r) dX7_borrow_4 ok_X7_whyNotBorrow (lk_X7_150 rfl) ⟨(Nat.le_of_ble_eq_true rfl), (Nat.le_of_ble_eq_true rfl)⟩ (zk_at hR.1 rfl) ⟨by decide, rfl⟩ rfl (Nat.le_of_ble_eq_true rfl) (Nat.le_of_ble_eq_true rfl) ⟨(Nat.le_of_ble_eq_true rfl), (Nat.le_of_ble_eq_true rfl)⟩ ?_
    refine Ev.callV (pc := 7) (n := (0, 0)) (ob := 260) (as := [zi (wBor n F sl x a)]) (st := []) (s_refF (I := I2) hR (wBor n F sl x a)) dX7_borrow_7 ok_X7_isRefused (lk_X7_60 rfl) ⟨(Nat.le_of_ble_eq_true rfl), (Nat.le_of_ble_eq_true rfl)⟩ (zk_at hR.1 rfl) ⟨by decide, rfl⟩ rfl (Nat.le_of_ble_eq_true rfl) (Nat.le_of_ble_eq_true rfl) ⟨(Nat.le_of_ble_eq_true rfl), (Nat.le_of_ble_eq_true rfl)⟩ ?_
    rw [if_neg hw0]
    refine Ev.if_eq (pc := 10) (n := (0, 0)) (tgt := 15) dX7_borrow_10 rfl (fun hc => absurd hc (by decide)) (fun hc => ?_)
    refine Ev.iconst (pc := 13) (n := (0, 0)) dX7_borrow_13 ?_
    exact Ev.iret dX7_borrow_14 rfl ⟨(Nat.le_of_ble_eq_true rfl), (Nat.le_of_ble_eq_true rfl)⟩
  · skip
    have hnI : I2 261 0 = n := by
      rcases hI2 with e | e
      · rw [e]; exact hn
      · rw [e.1 261 (by decide)]; exact hn
    have hkI : 0 ≤ I2 260 1 ∧ I2 260 1 ≤ 4 := by
      rcases hI2 with e | e
      · rw [e]; exact hkp
      · rw [e.1 260 (by decide)]; exact hkp
    have hnJ : fsav I2 F 0 261 0 = n := (fsav_x I2 F 0 hkI (by omega)).trans hnI
    have hk := (zpos_num (hf hw0)).1
    refine Ev.aload_n (pc := 0) (n := (0, 0)) (i := 0) dX7_borrow_0 rfl rfl ?_
    refine Ev.aload_n (pc := 1) (n := (0, 0)) (i := 0) dX7_borrow_1 rfl rfl ?_
    refine Ev.iload_n (pc := 2) (n := (0, 0)) (i := 1) dX7_borrow_2 rfl rfl ?_
    refine Ev.iload_n (pc := 3) (n := (0, 0)) (i := 2) dX7_borrow_3 rfl rfl ?_
    refine Ev.callV (pc := 4) (n := (0, 0)) (ob := 260) (as := [zi x, zi a]) (st := [zr (some 260)]) (r) dX7_borrow_4 ok_X7_whyNotBorrow (lk_X7_150 rfl) ⟨(Nat.le_of_ble_eq_true rfl), (Nat.le_of_ble_eq_true rfl)⟩ (zk_at hR.1 rfl) ⟨by decide, rfl⟩ rfl (Nat.le_of_ble_eq_true rfl) (Nat.le_of_ble_eq_true rfl) ⟨(Nat.le_of_ble_eq_true rfl), (Nat.le_of_ble_eq_true rfl)⟩ ?_
    refine Ev.callV (pc := 7) (n := (0, 0)) (ob := 260) (as := [zi (wBor n F sl x a)]) (st := []) (s_refF (I := I2) hR (wBor n F sl x a)) dX7_borrow_7 ok_X7_isRefused (lk_X7_60 rfl) ⟨(Nat.le_of_ble_eq_true rfl), (Nat.le_of_ble_eq_true rfl)⟩ (zk_at hR.1 rfl) ⟨by decide, rfl⟩ rfl (Nat.le_of_ble_eq_true rfl) (Nat.le_of_ble_eq_true rfl) ⟨(Nat.le_of_ble_eq_true rfl), (Nat.le_of_ble_eq_true rfl)⟩ ?_
    rw [hw0]
    rw [if_pos (rfl : (0 : Int) = 0)]
    refine Ev.if_eq (pc := 10) (n := (0, 0)) (tgt := 15) dX7_borrow_10 rfl (fun hc => ?_) (fun hc => absurd rfl hc)
    refine Ev.aload_n (pc := 15) (n := (0, 0)) (i := 0) dX7_borrow_15 rfl rfl ?_
    refine Ev.callV (pc := 16) (n := (0, 0)) (ob := 260) (as := []) (st := []) (s_savF hR 0 hkI) dX7_borrow_16 ok_X7_saves (lk_X7_108 rfl) ⟨(Nat.le_of_ble_eq_true rfl), (Nat.le_of_ble_eq_true rfl)⟩ (zk_at hR.1 rfl) ⟨by decide, rfl⟩ rfl (Nat.le_of_ble_eq_true rfl) (Nat.le_of_ble_eq_true rfl) ⟨(Nat.le_of_ble_eq_true rfl), (Nat.le_of_ble_eq_true rfl)⟩ ?_
    refine Ev.aload_n (pc := 19) (n := (0, 0)) (i := 0) dX7_borrow_19 rfl rfl ?_
    refine Ev.iload_n (pc := 20) (n := (0, 0)) (i := 1) dX7_borrow_20 rfl rfl ?_
    refine Ev.iload_n (pc := 21) (n := (0, 0)) (i := 2) dX7_borrow_21 rfl rfl ?_
    refine Ev.callV (pc := 22) (n := (0, 0)) (ob := 260) (as := [zi x, zi a]) (st := []) (s_reserves hR hnJ hn24 hk (hf hw0) (hb hw0)) dX7_borrow_22 ok_X7_reserves (lk_X7_153 rfl) ⟨(Nat.le_of_ble_eq_true rfl), (Nat.le_of_ble_eq_true rfl)⟩ (zk_at hR.1 rfl) ⟨by decide, rfl⟩ rfl (Nat.le_of_ble_eq_true rfl) (Nat.le_of_ble_eq_true rfl) ⟨(Nat.le_of_ble_eq_true rfl), (Nat.le_of_ble_eq_true rfl)⟩ ?_
    exact Ev.iret dX7_borrow_25 rfl ⟨(Nat.le_of_ble_eq_true rfl), (Nat.le_of_ble_eq_true rfl)⟩
theorem s_giveBack_no {h : zH} {I : Nat → Int → Int} {F : zF} (hR : zRM h) {n : Nat} (hn : I 261 0 = n) (hn24 : n ≤ 24) {x a : Int} (hw0 : ¬ wBck n F x a = 0) : Ev M_X7_giveBack 0 [(0, zr (some 260)), (1, zi x), (2, zi a)] [] (h.1, zrw I F, h.2.2) (0, 0) (.inl (some (zi 0)), (h.1, zrw (zup I 260 2 (wBck n F x a)) F, h.2.2)) := by
  refine Ev.aload_n (pc := 0) (n := (0, 0)) (i := 0) dX7_giveBack_0 rfl rfl ?_
  refine Ev.aload_n (pc := 1) (n := (0, 0)) (i := 0) dX7_giveBack_1 rfl rfl ?_
  refine Ev.iload_n (pc := 2) (n := (0, 0)) (i := 1) dX7_giveBack_2 rfl rfl ?_
  refine Ev.iload_n (pc := 3) (n := (0, 0)) (i := 2) dX7_giveBack_3 rfl rfl ?_
  refine Ev.callV (pc := 4) (n := (0, 0)) (ob := 260) (as := [zi x, zi a]) (st := [zr (some 260)]) (s_whyNotBack hR hn hn24) dX7_giveBack_4 ok_X7_whyNotBack (lk_X7_156 rfl) ⟨(Nat.le_of_ble_eq_true rfl), (Nat.le_of_ble_eq_true rfl)⟩ (zk_at hR.1 rfl) ⟨by decide, rfl⟩ rfl (Nat.le_of_ble_eq_true rfl) (Nat.le_of_ble_eq_true rfl) ⟨(Nat.le_of_ble_eq_true rfl), (Nat.le_of_ble_eq_true rfl)⟩ ?_
  refine Ev.callV (pc := 7) (n := (0, 0)) (ob := 260) (as := [zi (wBck n F x a)]) (st := []) (s_refF hR (wBck n F x a)) dX7_giveBack_7 ok_X7_isRefused (lk_X7_60 rfl) ⟨(Nat.le_of_ble_eq_true rfl), (Nat.le_of_ble_eq_true rfl)⟩ (zk_at hR.1 rfl) ⟨by decide, rfl⟩ rfl (Nat.le_of_ble_eq_true rfl) (Nat.le_of_ble_eq_true rfl) ⟨(Nat.le_of_ble_eq_true rfl), (Nat.le_of_ble_eq_true rfl)⟩ ?_
  rw [if_neg hw0]
  refine Ev.if_eq (pc := 10) (n := (0, 0)) (tgt := 15) dX7_giveBack_10 rfl (fun hc => absurd hc (by decide)) (fun hc => ?_)
  refine Ev.iconst (pc := 13) (n := (0, 0)) dX7_giveBack_13 ?_
  exact Ev.iret dX7_giveBack_14 rfl ⟨(Nat.le_of_ble_eq_true rfl), (Nat.le_of_ble_eq_true rfl)⟩
theorem s_giveBack {h : zH} {I : Nat → Int → Int} {F : zF} (hR : zRM h) {n : Nat} (hn : I 261 0 = n) (hn24 : n ≤ 24) (hkp : 0 ≤ I 260 1 ∧ I 260 1 ≤ 4) {x a : Int} {k : Nat} (hf : zpos n F x = k) (ha : 0 ≤ a ∧ a ≤ 99) (hb : -1000000000 ≤ F k 6 + -a ∧ F k 6 + -a ≤ 1000000000) (hw0 : wBck n F x a = 0) : Ev M_X7_giveBack 0 [(0, zr (some 260)), (1, zi x), (2, zi a)] [] (h.1, zrw I F, h.2.2) (0, 0) (.inl (some (zi (F k 6 + -a))), (h.1, zrw (fsav I F 0) (fup F k 6 (F k 6 + -a)), h.2.2)) := by
  have hnJ : fsav I F 0 261 0 = n := (fsav_x I F 0 hkp (by omega)).trans hn
  have hk := (zpos_num hf).1
  refine Ev.aload_n (pc := 0) (n := (0, 0)) (i := 0) dX7_giveBack_0 rfl rfl ?_
  refine Ev.aload_n (pc := 1) (n := (0, 0)) (i := 0) dX7_giveBack_1 rfl rfl ?_
  refine Ev.iload_n (pc := 2) (n := (0, 0)) (i := 1) dX7_giveBack_2 rfl rfl ?_
  refine Ev.iload_n (pc := 3) (n := (0, 0)) (i := 2) dX7_giveBack_3 rfl rfl ?_
  refine Ev.callV (pc := 4) (n := (0, 0)) (ob := 260) (as := [zi x, zi a]) (st := [zr (some 260)]) (s_whyNotBack hR hn hn24) dX7_giveBack_4 ok_X7_whyNotBack (lk_X7_156 rfl) ⟨(Nat.le_of_ble_eq_true rfl), (Nat.le_of_ble_eq_true rfl)⟩ (zk_at hR.1 rfl) ⟨by decide, rfl⟩ rfl (Nat.le_of_ble_eq_true rfl) (Nat.le_of_ble_eq_true rfl) ⟨(Nat.le_of_ble_eq_true rfl), (Nat.le_of_ble_eq_true rfl)⟩ ?_
  refine Ev.callV (pc := 7) (n := (0, 0)) (ob := 260) (as := [zi (wBck n F x a)]) (st := []) (s_refF hR (wBck n F x a)) dX7_giveBack_7 ok_X7_isRefused (lk_X7_60 rfl) ⟨(Nat.le_of_ble_eq_true rfl), (Nat.le_of_ble_eq_true rfl)⟩ (zk_at hR.1 rfl) ⟨by decide, rfl⟩ rfl (Nat.le_of_ble_eq_true rfl) (Nat.le_of_ble_eq_true rfl) ⟨(Nat.le_of_ble_eq_true rfl), (Nat.le_of_ble_eq_true rfl)⟩ ?_
  rw [hw0]
  rw [if_pos (rfl : (0 : Int) = 0)]
  refine Ev.if_eq (pc := 10) (n := (0, 0)) (tgt := 15) dX7_giveBack_10 rfl (fun hc => ?_) (fun hc => absurd rfl hc)
  refine Ev.aload_n (pc := 15) (n := (0, 0)) (i := 0) dX7_giveBack_15 rfl rfl ?_
  refine Ev.callV (pc := 16) (n := (0, 0)) (ob := 260) (as := []) (st := []) (s_savF hR 0 hkp) dX7_giveBack_16 ok_X7_saves (lk_X7_108 rfl) ⟨(Nat.le_of_ble_eq_true rfl), (Nat.le_of_ble_eq_true rfl)⟩ (zk_at hR.1 rfl) ⟨by decide, rfl⟩ rfl (Nat.le_of_ble_eq_true rfl) (Nat.le_of_ble_eq_true rfl) ⟨(Nat.le_of_ble_eq_true rfl), (Nat.le_of_ble_eq_true rfl)⟩ ?_
  refine Ev.aload_n (pc := 19) (n := (0, 0)) (i := 0) dX7_giveBack_19 rfl rfl ?_
  refine Ev.iload_n (pc := 20) (n := (0, 0)) (i := 1) dX7_giveBack_20 rfl rfl ?_
  refine Ev.iload_n (pc := 21) (n := (0, 0)) (i := 2) dX7_giveBack_21 rfl rfl ?_
  refine Ev.ineg (pc := 22) (n := (0, 0)) dX7_giveBack_22 ⟨by omega, by omega⟩ ?_
  refine Ev.callV (pc := 23) (n := (0, 0)) (ob := 260) (as := [zi x, zi (-a)]) (st := []) (s_reserves hR hnJ hn24 hk hf hb) dX7_giveBack_23 ok_X7_reserves (lk_X7_153 rfl) ⟨(Nat.le_of_ble_eq_true rfl), (Nat.le_of_ble_eq_true rfl)⟩ (zk_at hR.1 rfl) ⟨by decide, rfl⟩ rfl (Nat.le_of_ble_eq_true rfl) (Nat.le_of_ble_eq_true rfl) ⟨(Nat.le_of_ble_eq_true rfl), (Nat.le_of_ble_eq_true rfl)⟩ ?_
  exact Ev.iret dX7_giveBack_26 rfl ⟨(Nat.le_of_ble_eq_true rfl), (Nat.le_of_ble_eq_true rfl)⟩
theorem s_setDeadline_no {h : zH} {I : Nat → Int → Int} {F : zF} (hR : zRM h) {n : Nat} (hn : I 261 0 = n) (hn24 : n ≤ 24) {d : Int} (hd : ¬ (0 ≤ d ∧ d ≤ 999)) : Ev M_X7_setDeadline 0 [(0, zr (some 260)), (1, zi d)] [] (h.1, zrw I F, h.2.2) (0, 0) (.inl (some (zi 0)), (h.1, zrw (zup I 260 2 1) F, h.2.2)) := by
  refine Ev.aload_n (pc := 0) (n := (0, 0)) (i := 0) dX7_setDeadline_0 rfl rfl ?_
  refine Ev.iload_n (pc := 1) (n := (0, 0)) (i := 1) dX7_setDeadline_1 rfl rfl ?_
  refine Ev.callS (pc := 2) (n := (0, 0)) (as := [zi d]) (st := [zr (some 260)]) (s_whyNotUntil (h.1, zrw I F, h.2.2) d) dX7_setDeadline_2 ok_X7_whyNotUntil (lk_X7_159 rfl) ⟨(Nat.le_of_ble_eq_true rfl), (Nat.le_of_ble_eq_true rfl)⟩ rfl (Nat.le_of_ble_eq_true rfl) (Nat.le_of_ble_eq_true rfl) ⟨(Nat.le_of_ble_eq_true rfl), (Nat.le_of_ble_eq_true rfl)⟩ ?_
  have e : ¬ wUnt d = 0 := by unfold wUnt; rw [if_neg hd]; decide
  refine Ev.if_ne (pc := 5) (n := (0, 0)) (tgt := 12) dX7_setDeadline_5 rfl (fun hc => ?_) (fun hc => absurd hc e)
  refine Ev.iconst (pc := 12) (n := (0, 0)) dX7_setDeadline_12 ?_
  refine Ev.callV (pc := 13) (n := (0, 0)) (ob := 260) (as := [zi 1]) (st := []) (s_refF hR 1) dX7_setDeadline_13 ok_X7_isRefused (lk_X7_60 rfl) ⟨(Nat.le_of_ble_eq_true rfl), (Nat.le_of_ble_eq_true rfl)⟩ (zk_at hR.1 rfl) ⟨by decide, rfl⟩ rfl (Nat.le_of_ble_eq_true rfl) (Nat.le_of_ble_eq_true rfl) ⟨(Nat.le_of_ble_eq_true rfl), (Nat.le_of_ble_eq_true rfl)⟩ ?_
  rw [if_neg (by decide : ¬ (1 : Int) = 0)]
  refine Ev.if_eq (pc := 16) (n := (0, 0)) (tgt := 21) dX7_setDeadline_16 rfl (fun hc2 => absurd hc2 (by decide)) (fun hc2 => ?_)
  refine Ev.iconst (pc := 19) (n := (0, 0)) dX7_setDeadline_19 ?_
  exact Ev.iret dX7_setDeadline_20 rfl ⟨(Nat.le_of_ble_eq_true rfl), (Nat.le_of_ble_eq_true rfl)⟩
theorem s_setDeadline {h : zH} {I : Nat → Int → Int} {F : zF} (hR : zRM h) {n : Nat} (hn : I 261 0 = n) (hn24 : n ≤ 24) (hkp : 0 ≤ I 260 1 ∧ I 260 1 ≤ 4) {dep : Nat → Nat} {B : Int} (hw : WF n F dep B) (hB : 24 * (60 + B) ≤ 1000000000) {len st sl dp : Int → Int} (hl : IsLen n F len) (ht : IsTm n F len st sl dp) {d : Int} (hd : 0 ≤ d ∧ d ≤ 999) : ∃ I2 : Nat → Int → Int, zLaid (zup (fsav I F 0) 261 2 d) I2 n len st sl dp ∧ Ev M_X7_setDeadline 0 [(0, zr (some 260)), (1, zi d)] [] (h.1, zrw I F, h.2.2) (0, 0) (.inl (some (zi (mlate (len 0) d))), (h.1, zrw I2 F, h.2.2)) := by
  have hnJ : zup (fsav I F 0) 261 2 d 261 0 = n := by
    rw [zup_k _ _ _ _ (by decide)]
    exact (fsav_x I F 0 hkp (by omega)).trans hn
  obtain ⟨I2, hL, r⟩ := s_latenessF (I := zup (fsav I F 0) 261 2 d) (F := F) hR hnJ hn24 hw hB hl ht (zup_s _ _ _ _) hd
  refine ⟨I2, hL, ?_⟩
  refine Ev.aload_n (pc := 0) (n := (0, 0)) (i := 0) dX7_setDeadline_0 rfl rfl ?_
  refine Ev.iload_n (pc := 1) (n := (0, 0)) (i := 1) dX7_setDeadline_1 rfl rfl ?_
  refine Ev.callS (pc := 2) (n := (0, 0)) (as := [zi d]) (st := [zr (some 260)]) (s_whyNotUntil (h.1, zrw I F, h.2.2) d) dX7_setDeadline_2 ok_X7_whyNotUntil (lk_X7_159 rfl) ⟨(Nat.le_of_ble_eq_true rfl), (Nat.le_of_ble_eq_true rfl)⟩ rfl (Nat.le_of_ble_eq_true rfl) (Nat.le_of_ble_eq_true rfl) ⟨(Nat.le_of_ble_eq_true rfl), (Nat.le_of_ble_eq_true rfl)⟩ ?_
  have e : wUnt d = 0 := by unfold wUnt; rw [if_pos hd]
  refine Ev.if_ne (pc := 5) (n := (0, 0)) (tgt := 12) dX7_setDeadline_5 rfl (fun hc => absurd e hc) (fun hc => ?_)
  refine Ev.iconst (pc := 8) (n := (0, 0)) dX7_setDeadline_8 ?_
  refine Ev.goto (pc := 9) (n := (0, 0)) (tgt := 13) dX7_setDeadline_9 rfl ?_
  refine Ev.callV (pc := 13) (n := (0, 0)) (ob := 260) (as := [zi 0]) (st := []) (s_refF hR 0) dX7_setDeadline_13 ok_X7_isRefused (lk_X7_60 rfl) ⟨(Nat.le_of_ble_eq_true rfl), (Nat.le_of_ble_eq_true rfl)⟩ (zk_at hR.1 rfl) ⟨by decide, rfl⟩ rfl (Nat.le_of_ble_eq_true rfl) (Nat.le_of_ble_eq_true rfl) ⟨(Nat.le_of_ble_eq_true rfl), (Nat.le_of_ble_eq_true rfl)⟩ ?_
  rw [if_pos (rfl : (0 : Int) = 0)]
  refine Ev.if_eq (pc := 16) (n := (0, 0)) (tgt := 21) dX7_setDeadline_16 rfl (fun hc2 => ?_) (fun hc2 => absurd rfl hc2)
  refine Ev.aload_n (pc := 21) (n := (0, 0)) (i := 0) dX7_setDeadline_21 rfl rfl ?_
  refine Ev.callV (pc := 22) (n := (0, 0)) (ob := 260) (as := []) (st := []) (s_savF hR 0 hkp) dX7_setDeadline_22 ok_X7_saves (lk_X7_108 rfl) ⟨(Nat.le_of_ble_eq_true rfl), (Nat.le_of_ble_eq_true rfl)⟩ (zk_at hR.1 rfl) ⟨by decide, rfl⟩ rfl (Nat.le_of_ble_eq_true rfl) (Nat.le_of_ble_eq_true rfl) ⟨(Nat.le_of_ble_eq_true rfl), (Nat.le_of_ble_eq_true rfl)⟩ ?_
  refine Ev.aload_n (pc := 25) (n := (0, 0)) (i := 0) dX7_setDeadline_25 rfl rfl ?_
  refine Ev.gR (pc := 26) (n := (0, 0)) (r := (some 261)) dX7_setDeadline_26 fl_X7_7 (zk_at hR.1 rfl) rfl hR.2.1 ?_
  refine Ev.iconst (pc := 29) (n := (0, 0)) dX7_setDeadline_29 ?_
  refine Ev.iload_n (pc := 30) (n := (0, 0)) (i := 1) dX7_setDeadline_30 rfl rfl ?_
  refine Ev.iast (pc := 31) (n := (0, 0)) dX7_setDeadline_31 (zk_at hR.1 rfl) (by omega) (by omega) ?_
  rw [show zup (zrw (fsav I F 0) F) 261 2 d = zrw (zup (fsav I F 0) 261 2 d) F from zrw_up _ _ (by omega)]
  refine Ev.aload_n (pc := 32) (n := (0, 0)) (i := 0) dX7_setDeadline_32 rfl rfl ?_
  refine Ev.callV (pc := 33) (n := (0, 0)) (ob := 260) (as := []) (st := []) (r) dX7_setDeadline_33 ok_X7_lateness (lk_X7_162 rfl) ⟨(Nat.le_of_ble_eq_true rfl), (Nat.le_of_ble_eq_true rfl)⟩ (zk_at hR.1 rfl) ⟨by decide, rfl⟩ rfl (Nat.le_of_ble_eq_true rfl) (Nat.le_of_ble_eq_true rfl) ⟨(Nat.le_of_ble_eq_true rfl), (Nat.le_of_ble_eq_true rfl)⟩ ?_
  exact Ev.iret dX7_setDeadline_36 rfl ⟨(Nat.le_of_ble_eq_true rfl), (Nat.le_of_ble_eq_true rfl)⟩
