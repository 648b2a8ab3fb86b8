/-! the plan hangs on the nodes that are there alone -/
theorem WF.cong {n : Nat} {f g : zF} {dep : Nat → Nat} {B : Int} (e : ∀ k w : Int, 0 ≤ k → k < 24 → 0 ≤ w → w < 7 → f k w = g k w) (h : WF n f dep B) : WF n g dep B := by
  have hn := h.1
  have e' : ∀ (k : Nat) (w : Int), k < n → 0 ≤ w → w < 7 → g k w = f k w := fun k w hk h1 h2 => (e k w (by omega) (by omega) h1 h2).symm
  obtain ⟨h1, ⟨a0, a1, a2, a3, a4⟩, h3, h4, h5, h6⟩ := h
  have z : ∀ w : Int, 0 ≤ w → w < 7 → g 0 w = f 0 w := fun w h1 h2 => e' 0 w (by omega) h1 h2
  refine ⟨h1, ⟨?_, ?_, ?_, ?_, ?_⟩, fun i j hij hj => ?_, fun k hk => ?_, fun k hk1 hk => ?_, h6⟩
  · rw [z 0 (by omega) (by omega)]; exact a0
  · rw [z 1 (by omega) (by omega)]; exact a1
  · rw [z 2 (by omega) (by omega)]; exact a2
  · rw [z 3 (by omega) (by omega)]; exact a3
  · rw [z 4 (by omega) (by omega)]; exact a4
  · rw [e' i 0 (by omega) (by omega) (by omega), e' j 0 (by omega) (by omega) (by omega)]; exact h3 i j hij hj
  · rw [e' k 1 hk (by omega) (by omega), e' k 5 hk (by omega) (by omega), e' k 6 hk (by omega) (by omega)]; exact h4 k hk
  · rw [e' k 3 hk (by omega) (by omega), e' k 4 hk (by omega) (by omega), e' k 2 hk (by omega) (by omega)]
    obtain ⟨b1, b2, p, hp, b3, b4, b5⟩ := h5 k hk1 hk
    exact ⟨b1, b2, p, hp, by rw [e' p 0 hp (by omega) (by omega)]; exact b3, by rw [e' p 1 hp (by omega) (by omega)]; exact b4, b5⟩
theorem mrl_cong {n : Nat} (hn : n ≤ 24) {f g : zF} (e : ∀ k w : Int, 0 ≤ k → k < 24 → 0 ≤ w → w < 7 → f k w = g k w) (len : Int → Int) (gr r : Int) : mrl n f len gr r = mrl n g len gr r := zsum_congr fun k hk => by rw [e k 2 (by omega) (by omega) (by omega) (by omega), e k 3 (by omega) (by omega) (by omega) (by omega)]
theorem IsLen.cong {n : Nat} (hn : n ≤ 24) {f g : zF} (e : ∀ k w : Int, 0 ≤ k → k < 24 → 0 ≤ w → w < 7 → f k w = g k w) {len : Int → Int} (h : IsLen n f len) : IsLen n g len := fun k hk => by
  rw [h k hk]
  unfold mln mlg
  rw [e k 1 (by omega) (by omega) (by omega) (by omega), e k 5 (by omega) (by omega) (by omega) (by omega), e k 6 (by omega) (by omega) (by omega) (by omega), e k 0 (by omega) (by omega) (by omega) (by omega), mrl_cong hn e, mrl_cong hn e, mrl_cong hn e, mrl_cong hn e]
theorem IsTm.cong {n : Nat} (hn : n ≤ 24) {f g : zF} (e : ∀ k w : Int, 0 ≤ k → k < 24 → 0 ≤ w → w < 7 → f k w = g k w) {len st sl dp : Int → Int} (h : IsTm n f len st sl dp) : IsTm n g len st sl dp := by
  refine ⟨h.1, h.2.1, h.2.2.1, fun k p hk1 hk hp e2 => ?_⟩
  rw [← e k 2 (by omega) (by omega) (by omega) (by omega), ← e p 0 (by omega) (by omega) (by omega) (by omega)] at e2
  have h1 := h.2.2.2 k p hk1 hk hp e2
  have e3 : mah n g len k = mah n f len k := zsum_congr fun o ho => by
    rw [e k 2 (by omega) (by omega) (by omega) (by omega), e k 3 (by omega) (by omega) (by omega) (by omega), e k 4 (by omega) (by omega) (by omega) (by omega), e o 2 (by omega) (by omega) (by omega) (by omega), e o 3 (by omega) (by omega) (by omega) (by omega), e o 4 (by omega) (by omega) (by omega) (by omega)]
  rw [e3, ← mrl_cong hn e, ← e k 2 (by omega) (by omega) (by omega) (by omega), ← e k 3 (by omega) (by omega) (by omega) (by omega)]
  exact h1
theorem s_layF {h : zH} {I : Nat → Int → Int} {F : zF} (hR : zRM h) {n : Nat} (hn : I 261 0 = n) {dep : Nat → Nat} {B : Int} (hw : WF n F dep B) (hB : 24 * (60 + B) ≤ 1000000000) {len st sl dp : Int → Int} (hl : IsLen n F len) (ht : IsTm n F len st sl dp) : ∃ I2 : Nat → Int → Int, zLaid I I2 n len st sl dp ∧ Ev M_X7_lay 0 [(0, zr (some 260))] [] (h.1, zrw I F, h.2.2) (0, 0) (.inl none, (h.1, zrw I2 F, h.2.2)) := by
  have hn24 := hw.1.2
  have e : ∀ k w : Int, 0 ≤ k → k < 24 → 0 ≤ w → w < 7 → F k w = rf (h.1, zrw I F, h.2.2) k w := fun k w h1 h2 h3 h4 => (zrw_at I F ⟨h1, h2⟩ ⟨h3, h4⟩).symm
  obtain ⟨I2, ⟨r1, r2⟩, r3⟩ := s_lay (h := (h.1, zrw I F, h.2.2)) (hR.up _) (n := n) ((zrw_x I F (by omega)).trans hn) (hw.cong e) hB (hl.cong hn24 e) (ht.cong hn24 e)
  have e2 : zrw (fun o => if o = 261 then I 261 else I2 o) F = I2 := by
    funext o x
    by_cases h1 : o = 261
    · subst h1
      rw [r1 261 (by decide)]
      show (if 261 = 261 ∧ 3 ≤ x ∧ x < 171 then F ((x - 3) / 7) ((x - 3) % 7) else (if 261 = 261 then I 261 else I2 261) x) = (if 261 = 261 ∧ 3 ≤ x ∧ x < 171 then F ((x - 3) / 7) ((x - 3) % 7) else I 261 x)
      rw [if_pos (rfl : 261 = 261)]
    · rw [zrw_o _ _ h1, if_neg h1]
  refine ⟨fun o => if o = 261 then I 261 else I2 o, ⟨fun o ho => ?_, fun k hk => ?_⟩, ?_⟩
  · by_cases h1 : o = 261
    · subst h1; exact if_pos rfl
    · show (if o = 261 then I 261 else I2 o) = I o
      rw [if_neg h1, r1 o ho]
      exact zrw_o I F h1
  · exact r2 k hk
  · rw [e2]
    exact r3
theorem s_endF {h : zH} {I : Nat → Int → Int} {F : zF} (hR : zRM h) {n : Nat} (hn : I 261 0 = n) (hn24 : n ≤ 24) {dep : Nat → Nat} {B : Int} (hw : WF n F dep B) (hB : 24 * (60 + B) ≤ 1000000000) {len st sl dp : Int → Int} (hl : IsLen n F len) (ht : IsTm n F len st sl dp) : ∃ I2 : Nat → Int → Int, zLaid I I2 n len st sl dp ∧ Ev M_X7_end 0 [(0, zr (some 260))] [] (h.1, zrw I F, h.2.2) (0, 0) (.inl (some (zi (len 0))), (h.1, zrw I2 F, h.2.2)) := by
  obtain ⟨I2, hL, r⟩ := s_layF (I := I) (F := F) hR hn hw hB hl ht
  refine ⟨I2, hL, ?_⟩
  refine Ev.aload_n (pc := 0) (n := (0, 0)) (i := 0) dX7_end_0 rfl rfl ?_
  refine Ev.callV (pc := 1) (n := (0, 0)) (ob := 260) (as := []) (st := []) (r) dX7_end_1 ok_X7_lay (lk_X7_84 rfl) ⟨(Nat.le_of_ble_eq_true rfl), (Nat.le_of_ble_eq_true rfl)⟩ (zk_at hR.1 rfl) ⟨by decide, rfl⟩ rfl (Nat.le_of_ble_eq_true rfl) (Nat.le_of_ble_eq_true rfl) ⟨(Nat.le_of_ble_eq_true rfl), (Nat.le_of_ble_eq_true rfl)⟩ ?_
  have hn1 := hw.1
  refine Ev.aload_n (pc := 4) (n := (0, 0)) (i := 0) dX7_end_4 rfl rfl ?_
  refine Ev.gR (pc := 5) (n := (0, 0)) (r := (some 263)) dX7_end_5 fl_X7_16 (zk_at hR.1 rfl) rfl hR.2.2.2.1 ?_
  refine Ev.iconst (pc := 8) (n := (0, 0)) dX7_end_8 ?_
  refine Ev.ia (pc := 9) (n := (0, 0)) (x := (len 0)) dX7_end_9 (zk_at hR.1 rfl) (by omega) (by omega) ((congrFun (zrw_o I2 F (by decide)) 0).trans (hL.2 0 (by omega)).1) ?_
  exact Ev.iret dX7_end_10 rfl ⟨(Nat.le_of_ble_eq_true rfl), (Nat.le_of_ble_eq_true rfl)⟩
def mlate (e d : Int) : Int := if 0 < e - d then e - d else 0
theorem s_latenessF {h : zH} {I : Nat → Int → Int} {F : zF} (hR : zRM h) {n : Nat} (hn : I 261 0 = n) (hn24 : n ≤ 24) {dep : Nat → Nat} {B : Int} (hw : WF n F dep B) (hB : 24 * (60 + B) ≤ 1000000000) {len st sl dp : Int → Int} (hl : IsLen n F len) (ht : IsTm n F len st sl dp) {d : Int} (hd : I 261 2 = d) (hd2 : 0 ≤ d ∧ d ≤ 999) : ∃ I2 : Nat → Int → Int, zLaid I I2 n len st sl dp ∧ Ev M_X7_lateness 0 [(0, zr (some 260))] [] (h.1, zrw I F, h.2.2) (0, 0) (.inl (some (zi (mlate (len 0) d))), (h.1, zrw I2 F, h.2.2)) := by
  obtain ⟨I2, hL, r⟩ := s_endF (I := I) (F := F) hR hn hn24 hw hB hl ht
  refine ⟨I2, hL, ?_⟩
  have hb : 0 ≤ len 0 ∧ len 0 ≤ mtot n F := hl.bd hw 0 (by have := hw.1; omega)
  have hm := mtot_le hw
  refine Ev.aload_n (pc := 0) (n := (0, 0)) (i := 0) dX7_lateness_0 rfl rfl ?_
  refine Ev.callV (pc := 1) (n := (0, 0)) (ob := 260) (as := []) (st := []) (r) dX7_lateness_1 ok_X7_end (lk_X7_87 rfl) ⟨(Nat.le_of_ble_eq_true rfl), (Nat.le_of_ble_eq_true rfl)⟩ (zk_at hR.1 rfl) ⟨by decide, rfl⟩ rfl (Nat.le_of_ble_eq_true rfl) (Nat.le_of_ble_eq_true rfl) ⟨(Nat.le_of_ble_eq_true rfl), (Nat.le_of_ble_eq_true rfl)⟩ ?_
  refine Ev.aload_n (pc := 4) (n := (0, 0)) (i := 0) dX7_lateness_4 rfl rfl ?_
  refine Ev.gR (pc := 5) (n := (0, 0)) (r := (some 261)) dX7_lateness_5 fl_X7_7 (zk_at hR.1 rfl) rfl hR.2.1 ?_
  refine Ev.iconst (pc := 8) (n := (0, 0)) dX7_lateness_8 ?_
  refine Ev.ia (pc := 9) (n := (0, 0)) (x := d) dX7_lateness_9 (zk_at hR.1 rfl) (by omega) (by omega) ((zrw_x I2 F (by omega)).trans ((congrFun (hL.1 261 (by decide)) 2).trans hd)) ?_
  refine Ev.isub (pc := 10) (n := (0, 0)) dX7_lateness_10 ⟨by omega, by omega⟩ ?_
  refine Ev.istore_n (pc := 11) (n := (0, 0)) (i := 1) (L' := [(1, zi ((len 0) - d)), (0, zr (some 260))]) dX7_lateness_11 rfl (Nat.le_of_ble_eq_true rfl) rfl ?_
  refine Ev.iload_n (pc := 12) (n := (0, 0)) (i := 1) dX7_lateness_12 rfl rfl ?_
  refine Ev.if_le (pc := 13) (n := (0, 0)) (tgt := 20) dX7_lateness_13 rfl (fun hc => ?_) (fun hc => ?_)
  · skip
    refine Ev.iconst (pc := 20) (n := (0, 0)) dX7_lateness_20 ?_
    rw [show mlate (len 0) d = 0 by unfold mlate; rw [if_neg (by omega)]]
    exact Ev.iret dX7_lateness_21 rfl ⟨(Nat.le_of_ble_eq_true rfl), (Nat.le_of_ble_eq_true rfl)⟩
  · skip
    refine Ev.iload_n (pc := 16) (n := (0, 0)) (i := 1) dX7_lateness_16 rfl rfl ?_
    refine Ev.goto (pc := 17) (n := (0, 0)) (tgt := 21) dX7_lateness_17 rfl ?_
    rw [show mlate (len 0) d = len 0 - d by unfold mlate; rw [if_pos (by omega)]]
    exact Ev.iret dX7_lateness_21 rfl ⟨(Nat.le_of_ble_eq_true rfl), (Nat.le_of_ble_eq_true rfl)⟩
theorem s_slackOfF {h : zH} {I : Nat → Int → Int} {F : zF} (hR : zRM h) {n : Nat} (hn : I 261 0 = n) (hn24 : n ≤ 24) {dep : Nat → Nat} {B : Int} (hw : WF n F dep B) (hB : 24 * (60 + B) ≤ 1000000000) {len st sl dp : Int → Int} (hl : IsLen n F len) (ht : IsTm n F len st sl dp) {k : Nat} {x : Int} (hk : k < n) (hf : zpos n F x = k) : ∃ I2 : Nat → Int → Int, zLaid I I2 n len st sl dp ∧ Ev M_X7_slackOf 0 [(0, zr (some 260)), (1, zi x)] [] (h.1, zrw I F, h.2.2) (0, 0) (.inl (some (zi (sl k))), (h.1, zrw I2 F, h.2.2)) := by
  obtain ⟨I2, hL, r⟩ := s_layF (I := I) (F := F) hR hn hw hB hl ht
  refine ⟨I2, hL, ?_⟩
  have hn2 : I2 261 0 = n := (congrFun (hL.1 261 (by decide)) 0).trans hn
  refine Ev.aload_n (pc := 0) (n := (0, 0)) (i := 0) dX7_slackOf_0 rfl rfl ?_
  refine Ev.callV (pc := 1) (n := (0, 0)) (ob := 260) (as := []) (st := []) (r) dX7_slackOf_1 ok_X7_lay (lk_X7_84 rfl) ⟨(Nat.le_of_ble_eq_true rfl), (Nat.le_of_ble_eq_true rfl)⟩ (zk_at hR.1 rfl) ⟨by decide, rfl⟩ rfl (Nat.le_of_ble_eq_true rfl) (Nat.le_of_ble_eq_true rfl) ⟨(Nat.le_of_ble_eq_true rfl), (Nat.le_of_ble_eq_true rfl)⟩ ?_
  refine Ev.aload_n (pc := 4) (n := (0, 0)) (i := 0) dX7_slackOf_4 rfl rfl ?_
  refine Ev.gR (pc := 5) (n := (0, 0)) (r := (some 265)) dX7_slackOf_5 fl_X7_22 (zk_at hR.1 rfl) rfl hR.2.2.2.2.2.1 ?_
  refine Ev.aload_n (pc := 8) (n := (0, 0)) (i := 0) dX7_slackOf_8 rfl rfl ?_
  refine Ev.iload_n (pc := 9) (n := (0, 0)) (i := 1) dX7_slackOf_9 rfl rfl ?_
  refine Ev.callV (pc := 10) (n := (0, 0)) (ob := 260) (as := [zi x]) (st := [zr (some 265)]) (s_findF hR hn2 hn24) dX7_slackOf_10 ok_X7_find (lk_X7_53 rfl) ⟨(Nat.le_of_ble_eq_true rfl), (Nat.le_of_ble_eq_true rfl)⟩ (zk_at hR.1 rfl) ⟨by decide, rfl⟩ rfl (Nat.le_of_ble_eq_true rfl) (Nat.le_of_ble_eq_true rfl) ⟨(Nat.le_of_ble_eq_true rfl), (Nat.le_of_ble_eq_true rfl)⟩ ?_
  rw [hf]
  refine Ev.ia (pc := 13) (n := (0, 0)) (x := (sl k)) dX7_slackOf_13 (zk_at hR.1 rfl) (by omega) (by omega) ((congrFun (zrw_o I2 F (by decide)) k).trans (hL.2 k hk).2.2.1) ?_
  exact Ev.iret dX7_slackOf_14 rfl ⟨(Nat.le_of_ble_eq_true rfl), (Nat.le_of_ble_eq_true rfl)⟩
def wBor (n : Nat) (f : zF) (sl : Int → Int) (x a : Int) : Int := if wTask n f x (if 1 ≤ a ∧ a ≤ 99 then 1 else 0) ≠ 0 then wTask n f x (if 1 ≤ a ∧ a ≤ 99 then 1 else 0) else if sl (zpos n f x) < a then 3 else 0
def wBck (n : Nat) (f : zF) (x a : Int) : Int := if wTask n f x (if 1 ≤ a ∧ a ≤ 99 then 1 else 0) ≠ 0 then wTask n f x (if 1 ≤ a ∧ a ≤ 99 then 1 else 0) else if f (zpos n f x) 6 < a then 3 else 0
theorem wTask_pos {n : Nat} {f : zF} {x b : Int} (h : wTask n f x b = 0) : ∃ k : Nat, k < n ∧ zpos n f x = k ∧ f k 1 = 1 ∧ b ≠ 0 := by
  unfold wTask at h
  have hq : -1 ≤ zpos n f x ∧ zpos n f x < n := zfnd_rng (fun j => f j 0) x n
  by_cases h1 : zpos n f x = -1
  · rw [if_pos h1] at h; omega
  · rw [if_neg h1] at h
    by_cases h2 : b = 0
    · rw [if_pos h2] at h; omega
    · rw [if_neg h2] at h
      by_cases h3 : f (zpos n f x) 1 = 1
      · refine ⟨(zpos n f x).toNat, by omega, by omega, ?_, h2⟩
        rw [show (((zpos n f x).toNat : Nat) : Int) = zpos n f x by omega]
        exact h3
      · rw [if_neg h3] at h; omega
theorem s_whyNotBorrow {h : zH} {I : Nat → Int → Int} {F : zF} (hR : zRM h) {n : Nat} (hn : I 261 0 = n) (hn24 : n ≤ 24) {dep : Nat → Nat} {B : Int} (hw : WF n F dep B) (hB : 24 * (60 + B) ≤ 1000000000) {len st sl dp : Int → Int} (hl : IsLen n F len) (ht : IsTm n F len st sl dp) {x a : Int} : ∃ I2 : Nat → Int → Int, (I2 = I ∨ zLaid I I2 n len st sl dp) ∧ Ev M_X7_whyNotBorrow 0 [(0, zr (some 260)), (1, zi x), (2, zi a)] [] (h.1, zrw I F, h.2.2) (0, 0) (.inl (some (zi (wBor n F sl x a))), (h.1, zrw I2 F, h.2.2)) := by
  by_cases h0 : wTask n F x (if 1 ≤ a ∧ a ≤ 99 then 1 else 0) = 0
  · skip
    obtain ⟨k, hk, hf, -, -⟩ := wTask_pos h0
    obtain ⟨I2, hL, r⟩ := s_slackOfF (I := I) (F := F) hR hn hn24 hw hB hl ht hk hf
    refine ⟨I2, Or.inr hL, ?_⟩
    refine Ev.aload_n (pc := 0) (n := (0, 0)) (i := 0) dX7_whyNotBorrow_0 rfl rfl ?_
    refine Ev.iload_n (pc := 1) (n := (0, 0)) (i := 1) dX7_whyNotBorrow_1 rfl rfl ?_
    refine Ev.iload_n (pc := 2) (n := (0, 0)) (i := 2) dX7_whyNotBorrow_2 rfl rfl ?_
    refine Ev.iconst (pc := 3) (n := (0, 0)) dX7_whyNotBorrow_3 ?_
    refine Ev.bipush (pc := 4) (n := (0, 0)) dX7_whyNotBorrow_4 ?_
    refine Ev.callS (pc := 6) (n := (0, 0)) (as := [zi a, zi 1, zi 99]) (st := [zi x, zr (some 260)]) (s_in (h.1, zrw I F, h.2.2) a 1 99) dX7_whyNotBorrow_6 ok_X7_in (lk_X7_91 rfl) ⟨(Nat.le_of_ble_eq_true rfl), (Nat.le_of_ble_eq_true rfl)⟩ rfl (Nat.le_of_ble_eq_true rfl) (Nat.le_of_ble_eq_true rfl) ⟨(Nat.le_of_ble_eq_true rfl), (Nat.le_of_ble_eq_true rfl)⟩ ?_
    refine Ev.callV (pc := 9) (n := (0, 0)) (ob := 260) (as := [zi x, zi (if 1 ≤ a ∧ a ≤ 99 then 1 else 0)]) (st := []) (s_whyNotTask hR hn hn24) dX7_whyNotBorrow_9 ok_X7_whyNotTask (lk_X7_140 rfl) ⟨(Nat.le_of_ble_eq_true rfl), (Nat.le_of_ble_eq_true rfl)⟩ (zk_at hR.1 rfl) ⟨by decide, rfl⟩ rfl (Nat.le_of_ble_eq_true rfl) (Nat.le_of_ble_eq_true rfl) ⟨(Nat.le_of_ble_eq_true rfl), (Nat.le_of_ble_eq_true rfl)⟩ ?_
    refine Ev.istore_n (pc := 12) (n := (0, 0)) (i := 3) (L' := [(3, zi (wTask n F x (if 1 ≤ a ∧ a ≤ 99 then 1 else 0))), (0, zr (some 260)), (1, zi x), (2, zi a)]) dX7_whyNotBorrow_12 rfl (Nat.le_of_ble_eq_true rfl) rfl ?_
    refine Ev.iload_n (pc := 13) (n := (0, 0)) (i := 3) dX7_whyNotBorrow_13 rfl rfl ?_
    refine Ev.if_eq (pc := 14) (n := (0, 0)) (tgt := 21) dX7_whyNotBorrow_14 rfl (fun hc => ?_) (fun hc => absurd h0 hc)
    refine Ev.aload_n (pc := 21) (n := (0, 0)) (i := 0) dX7_whyNotBorrow_21 rfl rfl ?_
    refine Ev.iload_n (pc := 22) (n := (0, 0)) (i := 1) dX7_whyNotBorrow_22 rfl rfl ?_
    refine Ev.callV (pc := 23) (n := (0, 0)) (ob := 260) (as := [zi x]) (st := []) (r) dX7_whyNotBorrow_23 ok_X7_slackOf (lk_X7_147 rfl) ⟨(Nat.le_of_ble_eq_true rfl), (Nat.le_of_ble_eq_true rfl)⟩ (zk_at hR.1 rfl) ⟨by decide, rfl⟩ rfl (Nat.le_of_ble_eq_true rfl) (Nat.le_of_ble_eq_true rfl) ⟨(Nat.le_of_ble_eq_true rfl), (Nat.le_of_ble_eq_true rfl)⟩ ?_
    refine Ev.iload_n (pc := 26) (n := (0, 0)) (i := 2) dX7_whyNotBorrow_26 rfl rfl ?_
    refine Ev.icmp_ge (pc := 27) (n := (0, 0)) (tgt := 34) dX7_whyNotBorrow_27 rfl (fun h2 => ?_) (fun h2 => ?_)
    · skip
      refine Ev.iconst (pc := 34) (n := (0, 0)) dX7_whyNotBorrow_34 ?_
      rw [show wBor n F sl x a = 0 by unfold wBor; rw [if_neg (fun g => g h0), hf, if_neg (by omega)]]
      exact Ev.iret dX7_whyNotBorrow_35 rfl ⟨(Nat.le_of_ble_eq_true rfl), (Nat.le_of_ble_eq_true rfl)⟩
    · skip
      refine Ev.iconst (pc := 30) (n := (0, 0)) dX7_whyNotBorrow_30 ?_
      refine Ev.goto (pc := 31) (n := (0, 0)) (tgt := 35) dX7_whyNotBorrow_31 rfl ?_
      rw [show wBor n F sl x a = 3 by unfold wBor; rw [if_neg (fun g => g h0), hf, if_pos (by omega)]]
      exact Ev.iret dX7_whyNotBorrow_35 rfl ⟨(Nat.le_of_ble_eq_true rfl), (Nat.le_of_ble_eq_true rfl)⟩
  · skip
    refine ⟨I, Or.inl rfl, ?_⟩
    refine Ev.aload_n (pc := 0) (n := (0, 0)) (i := 0) dX7_whyNotBorrow_0 rfl rfl ?_
    refine Ev.iload_n (pc := 1) (n := (0, 0)) (i := 1) dX7_whyNotBorrow_1 rfl rfl ?_
    refine Ev.iload_n (pc := 2) (n := (0, 0)) (i := 2) dX7_whyNotBorrow_2 rfl rfl ?_
    refine Ev.iconst (pc := 3) (n := (0, 0)) dX7_whyNotBorrow_3 ?_
    refine Ev.bipush (pc := 4) (n := (0, 0)) dX7_whyNotBorrow_4 ?_
    refine Ev.callS (pc := 6) (n := (0, 0)) (as := [zi a, zi 1, zi 99]) (st := [zi x, zr (some 260)]) (s_in (h.1, zrw I F, h.2.2) a 1 99) dX7_whyNotBorrow_6 ok_X7_in (lk_X7_91 rfl) ⟨(Nat.le_of_ble_eq_true rfl), (Nat.le_of_ble_eq_true rfl)⟩ rfl (Nat.le_of_ble_eq_true rfl) (Nat.le_of_ble_eq_true rfl) ⟨(Nat.le_of_ble_eq_true rfl), (Nat.le_of_ble_eq_true rfl)⟩ ?_
    refine Ev.callV (pc := 9) (n := (0, 0)) (ob := 260) (as := [zi x, zi (if 1 ≤ a ∧ a ≤ 99 then 1 else 0)]) (st := []) (s_whyNotTask hR hn hn24) dX7_whyNotBorrow_9 ok_X7_whyNotTask (lk_X7_140 rfl) ⟨(Nat.le_of_ble_eq_true rfl), (Nat.le_of_ble_eq_true rfl)⟩ (zk_at hR.1 rfl) ⟨by decide, rfl⟩ rfl (Nat.le_of_ble_eq_true rfl) (Nat.le_of_ble_eq_true rfl) ⟨(Nat.le_of_ble_eq_true rfl), (Nat.le_of_ble_eq_true rfl)⟩ ?_
    refine Ev.istore_n (pc := 12) (n := (0, 0)) (i := 3) (L' := [(3, zi (wTask n F x (if 1 ≤ a ∧ a ≤ 99 then 1 else 0))), (0, zr (some 260)), (1, zi x), (2, zi a)]) dX7_whyNotBorrow_12 rfl (Nat.le_of_ble_eq_true rfl) rfl ?_
    refine Ev.iload_n (pc := 13) (n := (0, 0)) (i := 3) dX7_whyNotBorrow_13 rfl rfl ?_
    refine Ev.if_eq (pc := 14) (n := (0, 0)) (tgt := 21) dX7_whyNotBorrow_14 rfl (fun hc => absurd hc h0) (fun hc => ?_)
    refine Ev.iload_n (pc := 17) (n := (0, 0)) (i := 3) dX7_whyNotBorrow_17 rfl rfl ?_
    refine Ev.goto (pc := 18) (n := (0, 0)) (tgt := 35) dX7_whyNotBorrow_18 rfl ?_
    rw [show wBor n F sl x a = wTask n F x (if 1 ≤ a ∧ a ≤ 99 then 1 else 0) by unfold wBor; rw [if_pos h0]]
    exact Ev.iret dX7_whyNotBorrow_35 rfl ⟨(Nat.le_of_ble_eq_true rfl), (Nat.le_of_ble_eq_true rfl)⟩
theorem s_whyNotBack {h : zH} {I : Nat → Int → Int} {F : zF} (hR : zRM h) {n : Nat} (hn : I 261 0 = n) (hn24 : n ≤ 24) {x a : Int} : Ev M_X7_whyNotBack 0 [(0, zr (some 260)), (1, zi x), (2, zi a)] [] (h.1, zrw I F, h.2.2) (0, 0) (.inl (some (zi (wBck n F x a))), (h.1, zrw I F, h.2.2)) := by
  by_cases h0 : wTask n F x (if 1 ≤ a ∧ a ≤ 99 then 1 else 0) = 0
  · skip
    obtain ⟨k, hk, hf, -, -⟩ := wTask_pos h0
    refine Ev.aload_n (pc := 0) (n := (0, 0)) (i := 0) dX7_whyNotBack_0 rfl rfl ?_
    refine Ev.iload_n (pc := 1) (n := (0, 0)) (i := 1) dX7_whyNotBack_1 rfl rfl ?_
    refine Ev.iload_n (pc := 2) (n := (0, 0)) (i := 2) dX7_whyNotBack_2 rfl rfl ?_
    refine Ev.iconst (pc := 3) (n := (0, 0)) dX7_whyNotBack_3 ?_
    refine Ev.bipush (pc := 4) (n := (0, 0)) dX7_whyNotBack_4 ?_
    refine Ev.callS (pc := 6) (n := (0, 0)) (as := [zi a, zi 1, zi 99]) (st := [zi x, zr (some 260)]) (s_in (h.1, zrw I F, h.2.2) a 1 99) dX7_whyNotBack_6 ok_X7_in (lk_X7_91 rfl) ⟨(Nat.le_of_ble_eq_true rfl), (Nat.le_of_ble_eq_true rfl)⟩ rfl (Nat.le_of_ble_eq_true rfl) (Nat.le_of_ble_eq_true rfl) ⟨(Nat.le_of_ble_eq_true rfl), (Nat.le_of_ble_eq_true rfl)⟩ ?_
    refine Ev.callV (pc := 9) (n := (0, 0)) (ob := 260) (as := [zi x, zi (if 1 ≤ a ∧ a ≤ 99 then 1 else 0)]) (st := []) (s_whyNotTask hR hn hn24) dX7_whyNotBack_9 ok_X7_whyNotTask (lk_X7_140 rfl) ⟨(Nat.le_of_ble_eq_true rfl), (Nat.le_of_ble_eq_true rfl)⟩ (zk_at hR.1 rfl) ⟨by decide, rfl⟩ rfl (Nat.le_of_ble_eq_true rfl) (Nat.le_of_ble_eq_true rfl) ⟨(Nat.le_of_ble_eq_true rfl), (Nat.le_of_ble_eq_true rfl)⟩ ?_
    refine Ev.istore_n (pc := 12) (n := (0, 0)) (i := 3) (L' := [(3, zi (wTask n F x (if 1 ≤ a ∧ a ≤ 99 then 1 else 0))), (0, zr (some 260)), (1, zi x), (2, zi a)]) dX7_whyNotBack_12 rfl (Nat.le_of_ble_eq_true rfl) rfl ?_
    refine Ev.iload_n (pc := 13) (n := (0, 0)) (i := 3) dX7_whyNotBack_13 rfl rfl ?_
    refine Ev.if_eq (pc := 14) (n := (0, 0)) (tgt := 21) dX7_whyNotBack_14 rfl (fun hc => ?_) (fun hc => absurd h0 hc)
    refine Ev.aload_n (pc := 21) (n := (0, 0)) (i := 0) dX7_whyNotBack_21 rfl rfl ?_
    refine Ev.aload_n (pc := 22) (n := (0, 0)) (i := 0) dX7_whyNotBack_22 rfl rfl ?_
    refine Ev.iload_n (pc := 23) (n := (0, 0)) (i := 1) dX7_whyNotBack_23 rfl rfl ?_
    refine Ev.callV (pc := 24) (n := (0, 0)) (ob := 260) (as := [zi x]) (st := [zr (some 260)]) (s_findF hR hn hn24) dX7_whyNotBack_24 ok_X7_find (lk_X7_53 rfl) ⟨(Nat.le_of_ble_eq_true rfl), (Nat.le_of_ble_eq_true rfl)⟩ (zk_at hR.1 rfl) ⟨by decide, rfl⟩ rfl (Nat.le_of_ble_eq_true rfl) (Nat.le_of_ble_eq_true rfl) ⟨(Nat.le_of_ble_eq_true rfl), (Nat.le_of_ble_eq_true rfl)⟩ ?_
    rw [hf]
    refine Ev.bipush (pc := 27) (n := (0, 0)) dX7_whyNotBack_27 ?_
    refine Ev.callV (pc := 29) (n := (0, 0)) (ob := 260) (as := [zi (k : Int), zi 6]) (st := []) (s_ofF hR ⟨by omega, by omega⟩ ⟨by decide, by decide⟩) dX7_whyNotBack_29 ok_X7_of (lk_X7_49 rfl) ⟨(Nat.le_of_ble_eq_true rfl), (Nat.le_of_ble_eq_true rfl)⟩ (zk_at hR.1 rfl) ⟨by decide, rfl⟩ rfl (Nat.le_of_ble_eq_true rfl) (Nat.le_of_ble_eq_true rfl) ⟨(Nat.le_of_ble_eq_true rfl), (Nat.le_of_ble_eq_true rfl)⟩ ?_
    refine Ev.iload_n (pc := 32) (n := (0, 0)) (i := 2) dX7_whyNotBack_32 rfl rfl ?_
    refine Ev.icmp_ge (pc := 33) (n := (0, 0)) (tgt := 40) dX7_whyNotBack_33 rfl (fun h2 => ?_) (fun h2 => ?_)
    · skip
      refine Ev.iconst (pc := 40) (n := (0, 0)) dX7_whyNotBack_40 ?_
      rw [show wBck n F x a = 0 by unfold wBck; rw [if_neg (fun g => g h0), hf, if_neg (by omega)]]
      exact Ev.iret dX7_whyNotBack_41 rfl ⟨(Nat.le_of_ble_eq_true rfl), (Nat.le_of_ble_eq_true rfl)⟩
    · skip
      refine Ev.iconst (pc := 36) (n := (0, 0)) dX7_whyNotBack_36 ?_
      refine Ev.goto (pc := 37) (n := (0, 0)) (tgt := 41) dX7_whyNotBack_37 rfl ?_
      rw [show wBck n F x a = 3 by unfold wBck; rw [if_neg (fun g => g h0), hf, if_pos (by omega)]]
      exact Ev.iret dX7_whyNotBack_41 rfl ⟨(Nat.le_of_ble_eq_true rfl), (Nat.le_of_ble_eq_true rfl)⟩
  · skip
    refine Ev.aload_n (pc := 0) (n := (0, 0)) (i := 0) dX7_whyNotBack_0 rfl rfl ?_
    refine Ev.iload_n (pc := 1) (n := (0, 0)) (i := 1) dX7_whyNotBack_1 rfl rfl ?_
    refine Ev.iload_n (pc := 2) (n := (0, 0)) (i := 2) dX7_whyNotBack_2 rfl rfl ?_
    refine Ev.iconst (pc := 3) (n := (0, 0)) dX7_whyNotBack_3 ?_
    refine Ev.bipush (pc := 4) (n := (0, 0)) dX7_whyNotBack_4 ?_
    refine Ev.callS (pc := 6) (n := (0, 0)) (as := [zi a, zi 1, zi 99]) (st := [zi x, zr (some 260)]) (s_in (h.1, zrw I F, h.2.2) a 1 99) dX7_whyNotBack_6 ok_X7_in (lk_X7_91 rfl) ⟨(Nat.le_of_ble_eq_true rfl), (Nat.le_of_ble_eq_true rfl)⟩ rfl (Nat.le_of_ble_eq_true rfl) (Nat.le_of_ble_eq_true rfl) ⟨(Nat.le_of_ble_eq_true rfl), (Nat.le_of_ble_eq_true rfl)⟩ ?_
    refine Ev.callV (pc := 9) (n := (0, 0)) (ob := 260) (as := [zi x, zi (if 1 ≤ a ∧ a ≤ 99 then 1 else 0)]) (st := []) (s_whyNotTask hR hn hn24) dX7_whyNotBack_9 ok_X7_whyNotTask (lk_X7_140 rfl) ⟨(Nat.le_of_ble_eq_true rfl), (Nat.le_of_ble_eq_true rfl)⟩ (zk_at hR.1 rfl) ⟨by decide, rfl⟩ rfl (Nat.le_of_ble_eq_true rfl) (Nat.le_of_ble_eq_true rfl) ⟨(Nat.le_of_ble_eq_true rfl), (Nat.le_of_ble_eq_true rfl)⟩ ?_
    refine Ev.istore_n (pc := 12) (n := (0, 0)) (i := 3) (L' := [(3, zi (wTask n F x (if 1 ≤ a ∧ a ≤ 99 then 1 else 0))), (0, zr (some 260)), (1, zi x), (2, zi a)]) dX7_whyNotBack_12 rfl (Nat.le_of_ble_eq_true rfl) rfl ?_
    refine Ev.iload_n (pc := 13) (n := (0, 0)) (i := 3) dX7_whyNotBack_13 rfl rfl ?_
    refine Ev.if_eq (pc := 14) (n := (0, 0)) (tgt := 21) dX7_whyNotBack_14 rfl (fun hc => absurd hc h0) (fun hc => ?_)
    refine Ev.iload_n (pc := 17) (n := (0, 0)) (i := 3) dX7_whyNotBack_17 rfl rfl ?_
    refine Ev.goto (pc := 18) (n := (0, 0)) (tgt := 41) dX7_whyNotBack_18 rfl ?_
    rw [show wBck n F x a = wTask n F x (if 1 ≤ a ∧ a ≤ 99 then 1 else 0) by unfold wBck; rw [if_pos h0]]
    exact Ev.iret dX7_whyNotBack_41 rfl ⟨(Nat.le_of_ble_eq_true rfl), (Nat.le_of_ble_eq_true rfl)⟩
theorem s_reserves {h : zH} {I : Nat → Int → Int} {F : zF} (hR : zRM h) {n : Nat} (hn : I 261 0 = n) (hn24 : n ≤ 24) {k : Nat} {x a : Int} (hk : k < n) (hf : zpos n F x = k) (hb : -1000000000 ≤ F k 6 + a ∧ F k 6 + a ≤ 1000000000) : Ev M_X7_reserves 0 [(0, zr (some 260)), (1, zi x), (2, zi a)] [] (h.1, zrw I F, h.2.2) (0, 0) (.inl (some (zi (F k 6 + a))), (h.1, zrw I (fup F k 6 (F k 6 + a)), h.2.2)) := by
  refine Ev.aload_n (pc := 0) (n := (0, 0)) (i := 0) dX7_reserves_0 rfl rfl ?_
  refine Ev.iload_n (pc := 1) (n := (0, 0)) (i := 1) dX7_reserves_1 rfl rfl ?_
  refine Ev.callV (pc := 2) (n := (0, 0)) (ob := 260) (as := [zi x]) (st := []) (s_findF hR hn hn24) dX7_reserves_2 ok_X7_find (lk_X7_53 rfl) ⟨(Nat.le_of_ble_eq_true rfl), (Nat.le_of_ble_eq_true rfl)⟩ (zk_at hR.1 rfl) ⟨by decide, rfl⟩ rfl (Nat.le_of_ble_eq_true rfl) (Nat.le_of_ble_eq_true rfl) ⟨(Nat.le_of_ble_eq_true rfl), (Nat.le_of_ble_eq_true rfl)⟩ ?_
  rw [hf]
  refine Ev.istore_n (pc := 5) (n := (0, 0)) (i := 3) (L' := [(3, zi (k : Int)), (0, zr (some 260)), (1, zi x), (2, zi a)]) dX7_reserves_5 rfl (Nat.le_of_ble_eq_true rfl) rfl ?_
  refine Ev.aload_n (pc := 6) (n := (0, 0)) (i := 0) dX7_reserves_6 rfl rfl ?_
  refine Ev.iload_n (pc := 7) (n := (0, 0)) (i := 3) dX7_reserves_7 rfl rfl ?_
  refine Ev.bipush (pc := 8) (n := (0, 0)) dX7_reserves_8 ?_
  refine Ev.aload_n (pc := 10) (n := (0, 0)) (i := 0) dX7_reserves_10 rfl rfl ?_
  refine Ev.iload_n (pc := 11) (n := (0, 0)) (i := 3) dX7_reserves_11 rfl rfl ?_
  refine Ev.bipush (pc := 12) (n := (0, 0)) dX7_reserves_12 ?_
  refine Ev.callV (pc := 14) (n := (0, 0)) (ob := 260) (as := [zi (k : Int), zi 6]) (st := [zi 6, zi (k : Int), zr (some 260)]) (s_ofF hR ⟨by omega, by omega⟩ ⟨by decide, by decide⟩) dX7_reserves_14 ok_X7_of (lk_X7_49 rfl) ⟨(Nat.le_of_ble_eq_true rfl), (Nat.le_of_ble_eq_true rfl)⟩ (zk_at hR.1 rfl) ⟨by decide, rfl⟩ rfl (Nat.le_of_ble_eq_true rfl) (Nat.le_of_ble_eq_true rfl) ⟨(Nat.le_of_ble_eq_true rfl), (Nat.le_of_ble_eq_true rfl)⟩ ?_
  refine Ev.iload_n (pc := 17) (n := (0, 0)) (i := 2) dX7_reserves_17 rfl rfl ?_
  refine Ev.iadd (pc := 18) (n := (0, 0)) dX7_reserves_18 ⟨by omega, by omega⟩ ?_
  refine Ev.callV (pc := 19) (n := (0, 0)) (ob := 260) (as := [zi (k : Int), zi 6, zi ((F (k : Int) 6) + a)]) (st := []) (s_setF hR ⟨by omega, by omega⟩ ⟨by decide, by decide⟩) dX7_reserves_19 ok_X7_set (lk_X7_100 rfl) ⟨(Nat.le_of_ble_eq_true rfl), (Nat.le_of_ble_eq_true rfl)⟩ (zk_at hR.1 rfl) ⟨by decide, rfl⟩ rfl (Nat.le_of_ble_eq_true rfl) (Nat.le_of_ble_eq_true rfl) ⟨(Nat.le_of_ble_eq_true rfl), (Nat.le_of_ble_eq_true rfl)⟩ ?_
  refine Ev.aload_n (pc := 22) (n := (0, 0)) (i := 0) dX7_reserves_22 rfl rfl ?_
  refine Ev.iload_n (pc := 23) (n := (0, 0)) (i := 3) dX7_reserves_23 rfl rfl ?_
  refine Ev.bipush (pc := 24) (n := (0, 0)) dX7_reserves_24 ?_
  refine Ev.callV (pc := 26) (n := (0, 0)) (ob := 260) (as := [zi (k : Int), zi 6]) (st := []) (s_ofF hR ⟨by omega, by omega⟩ ⟨by decide, by decide⟩) dX7_reserves_26 ok_X7_of (lk_X7_49 rfl) ⟨(Nat.le_of_ble_eq_true rfl), (Nat.le_of_ble_eq_true rfl)⟩ (zk_at hR.1 rfl) ⟨by decide, rfl⟩ rfl (Nat.le_of_ble_eq_true rfl) (Nat.le_of_ble_eq_true rfl) ⟨(Nat.le_of_ble_eq_true rfl), (Nat.le_of_ble_eq_true rfl)⟩ ?_
  rw [show fup F k 6 (F k 6 + a) k 6 = F k 6 + a from if_pos ⟨rfl, rfl⟩]
  exact Ev.iret dX7_reserves_29 rfl ⟨(Nat.le_of_ble_eq_true rfl), (Nat.le_of_ble_eq_true rfl)⟩
/-- the reserve that another duration leaves -/
def mres (d r d2 : Int) : Int := if 0 < r - (if 0 < d2 - d then d2 - d else 0) then r - (if 0 < d2 - d then d2 - d else 0) else 0
def flast (f : zF) (k d : Int) : zF := fup (fup f k 6 (mres (f k 5) (f k 6) d)) k 5 d
theorem s_lasts {h : zH} {I : Nat → Int → Int} {F : zF} (hR : zRM h) {n : Nat} (hn : I 261 0 = n) (hn24 : n ≤ 24) {k : Nat} {x d : Int} (hk : k < n) (hf : zpos n F x = k) (hd : 0 ≤ d ∧ d ≤ 60) (hb : (0 ≤ F k 5 ∧ F k 5 ≤ 60) ∧ (0 ≤ F k 6 ∧ F k 6 ≤ 1000000000)) : Ev M_X7_lasts 0 [(0, zr (some 260)), (1, zi x), (2, zi d)] [] (h.1, zrw I F, h.2.2) (0, 0) (.inl none, (h.1, zrw I (flast F k d), h.2.2)) := by
  refine Ev.aload_n (pc := 0) (n := (0, 0)) (i := 0) dX7_lasts_0 rfl rfl ?_
  refine Ev.iload_n (pc := 1) (n := (0, 0)) (i := 1) dX7_lasts_1 rfl rfl ?_
  refine Ev.callV (pc := 2) (n := (0, 0)) (ob := 260) (as := [zi x]) (st := []) (s_findF hR hn hn24) dX7_lasts_2 ok_X7_find (lk_X7_53 rfl) ⟨(Nat.le_of_ble_eq_true rfl), (Nat.le_of_ble_eq_true rfl)⟩ (zk_at hR.1 rfl) ⟨by decide, rfl⟩ rfl (Nat.le_of_ble_eq_true rfl) (Nat.le_of_ble_eq_true rfl) ⟨(Nat.le_of_ble_eq_true rfl), (Nat.le_of_ble_eq_true rfl)⟩ ?_
  rw [hf]
  refine Ev.istore_n (pc := 5) (n := (0, 0)) (i := 3) (L' := [(3, zi (k : Int)), (0, zr (some 260)), (1, zi x), (2, zi d)]) dX7_lasts_5 rfl (Nat.le_of_ble_eq_true rfl) rfl ?_
  refine Ev.iload_n (pc := 6) (n := (0, 0)) (i := 2) dX7_lasts_6 rfl rfl ?_
  refine Ev.aload_n (pc := 7) (n := (0, 0)) (i := 0) dX7_lasts_7 rfl rfl ?_
  refine Ev.iload_n (pc := 8) (n := (0, 0)) (i := 3) dX7_lasts_8 rfl rfl ?_
  refine Ev.iconst (pc := 9) (n := (0, 0)) dX7_lasts_9 ?_
  refine Ev.callV (pc := 10) (n := (0, 0)) (ob := 260) (as := [zi (k : Int), zi 5]) (st := [zi d]) (s_ofF hR ⟨by omega, by omega⟩ ⟨by decide, by decide⟩) dX7_lasts_10 ok_X7_of (lk_X7_49 rfl) ⟨(Nat.le_of_ble_eq_true rfl), (Nat.le_of_ble_eq_true rfl)⟩ (zk_at hR.1 rfl) ⟨by decide, rfl⟩ rfl (Nat.le_of_ble_eq_true rfl) (Nat.le_of_ble_eq_true rfl) ⟨(Nat.le_of_ble_eq_true rfl), (Nat.le_of_ble_eq_true rfl)⟩ ?_
  refine Ev.isub (pc := 13) (n := (0, 0)) dX7_lasts_13 ⟨by omega, by omega⟩ ?_
  refine Ev.istore (pc := 14) (n := (0, 0)) (i := 4) (L' := [(4, zi (d - (F (k : Int) 5))), (3, zi (k : Int)), (0, zr (some 260)), (1, zi x), (2, zi d)]) dX7_lasts_14 (Nat.le_of_ble_eq_true rfl) rfl ?_
  refine Ev.aload_n (pc := 16) (n := (0, 0)) (i := 0) dX7_lasts_16 rfl rfl ?_
  refine Ev.iload_n (pc := 17) (n := (0, 0)) (i := 3) dX7_lasts_17 rfl rfl ?_
  refine Ev.bipush (pc := 18) (n := (0, 0)) dX7_lasts_18 ?_
  refine Ev.callV (pc := 20) (n := (0, 0)) (ob := 260) (as := [zi (k : Int), zi 6]) (st := []) (s_ofF hR ⟨by omega, by omega⟩ ⟨by decide, by decide⟩) dX7_lasts_20 ok_X7_of (lk_X7_49 rfl) ⟨(Nat.le_of_ble_eq_true rfl), (Nat.le_of_ble_eq_true rfl)⟩ (zk_at hR.1 rfl) ⟨by decide, rfl⟩ rfl (Nat.le_of_ble_eq_true rfl) (Nat.le_of_ble_eq_true rfl) ⟨(Nat.le_of_ble_eq_true rfl), (Nat.le_of_ble_eq_true rfl)⟩ ?_
  refine Ev.iload (pc := 23) (n := (0, 0)) dX7_lasts_23 rfl ?_
  refine Ev.if_le (pc := 25) (n := (0, 0)) (tgt := 33) dX7_lasts_25 rfl (fun h1 => ?_) (fun h1 => ?_)
  · skip
    have e1 : (if 0 < d - F k 5 then d - F k 5 else 0) = 0 := if_neg (by omega)
    refine Ev.iconst (pc := 33) (n := (0, 0)) dX7_lasts_33 ?_
    refine Ev.isub (pc := 34) (n := (0, 0)) dX7_lasts_34 ⟨by omega, by omega⟩ ?_
    refine Ev.istore (pc := 35) (n := (0, 0)) (i := 5) (L' := [(5, zi ((F (k : Int) 6) - 0)), (4, zi (d - (F (k : Int) 5))), (3, zi (k : Int)), (0, zr (some 260)), (1, zi x), (2, zi d)]) dX7_lasts_35 (Nat.le_of_ble_eq_true rfl) rfl ?_
    refine Ev.aload_n (pc := 37) (n := (0, 0)) (i := 0) dX7_lasts_37 rfl rfl ?_
    refine Ev.iload_n (pc := 38) (n := (0, 0)) (i := 3) dX7_lasts_38 rfl rfl ?_
    refine Ev.bipush (pc := 39) (n := (0, 0)) dX7_lasts_39 ?_
    refine Ev.iload (pc := 41) (n := (0, 0)) dX7_lasts_41 rfl ?_
    refine Ev.if_le (pc := 43) (n := (0, 0)) (tgt := 51) dX7_lasts_43 rfl (fun h2 => ?_) (fun h2 => ?_)
    · skip
      have e2 : mres (F k 5) (F k 6) d = 0 := by
        unfold mres
        rw [e1]
        exact if_neg (by omega)
      unfold flast
      rw [e2]
      refine Ev.iconst (pc := 51) (n := (0, 0)) dX7_lasts_51 ?_
      refine Ev.callV (pc := 52) (n := (0, 0)) (ob := 260) (as := [zi (k : Int), zi 6, zi 0]) (st := []) (s_setF hR ⟨by omega, by omega⟩ ⟨by decide, by decide⟩) dX7_lasts_52 ok_X7_set (lk_X7_100 rfl) ⟨(Nat.le_of_ble_eq_true rfl), (Nat.le_of_ble_eq_true rfl)⟩ (zk_at hR.1 rfl) ⟨by decide, rfl⟩ rfl (Nat.le_of_ble_eq_true rfl) (Nat.le_of_ble_eq_true rfl) ⟨(Nat.le_of_ble_eq_true rfl), (Nat.le_of_ble_eq_true rfl)⟩ ?_
      refine Ev.aload_n (pc := 55) (n := (0, 0)) (i := 0) dX7_lasts_55 rfl rfl ?_
      refine Ev.iload_n (pc := 56) (n := (0, 0)) (i := 3) dX7_lasts_56 rfl rfl ?_
      refine Ev.iconst (pc := 57) (n := (0, 0)) dX7_lasts_57 ?_
      refine Ev.iload_n (pc := 58) (n := (0, 0)) (i := 2) dX7_lasts_58 rfl rfl ?_
      refine Ev.callV (pc := 59) (n := (0, 0)) (ob := 260) (as := [zi (k : Int), zi 5, zi d]) (st := []) (s_setF hR ⟨by omega, by omega⟩ ⟨by decide, by decide⟩) dX7_lasts_59 ok_X7_set (lk_X7_100 rfl) ⟨(Nat.le_of_ble_eq_true rfl), (Nat.le_of_ble_eq_true rfl)⟩ (zk_at hR.1 rfl) ⟨by decide, rfl⟩ rfl (Nat.le_of_ble_eq_true rfl) (Nat.le_of_ble_eq_true rfl) ⟨(Nat.le_of_ble_eq_true rfl), (Nat.le_of_ble_eq_true rfl)⟩ ?_
      exact Ev.vret dX7_lasts_62 rfl ⟨(Nat.le_of_ble_eq_true rfl), (Nat.le_of_ble_eq_true rfl)⟩
    · skip
      have e2 : mres (F k 5) (F k 6) d = (F (k : Int) 6 - 0) := by
        unfold mres
        rw [e1]
        exact if_pos (by omega)
      unfold flast
      rw [e2]
      refine Ev.iload (pc := 46) (n := (0, 0)) dX7_lasts_46 rfl ?_
      refine Ev.goto (pc := 48) (n := (0, 0)) (tgt := 52) dX7_lasts_48 rfl ?_
      refine Ev.callV (pc := 52) (n := (0, 0)) (ob := 260) (as := [zi (k : Int), zi 6, zi ((F (k : Int) 6) - 0)]) (st := []) (s_setF hR ⟨by omega, by omega⟩ ⟨by decide, by decide⟩) dX7_lasts_52 ok_X7_set (lk_X7_100 rfl) ⟨(Nat.le_of_ble_eq_true rfl), (Nat.le_of_ble_eq_true rfl)⟩ (zk_at hR.1 rfl) ⟨by decide, rfl⟩ rfl (Nat.le_of_ble_eq_true rfl) (Nat.le_of_ble_eq_true rfl) ⟨(Nat.le_of_ble_eq_true rfl), (Nat.le_of_ble_eq_true rfl)⟩ ?_
      refine Ev.aload_n (pc := 55) (n := (0, 0)) (i := 0) dX7_lasts_55 rfl rfl ?_
      refine Ev.iload_n (pc := 56) (n := (0, 0)) (i := 3) dX7_lasts_56 rfl rfl ?_
      refine Ev.iconst (pc := 57) (n := (0, 0)) dX7_lasts_57 ?_
      refine Ev.iload_n (pc := 58) (n := (0, 0)) (i := 2) dX7_lasts_58 rfl rfl ?_
      refine Ev.callV (pc := 59) (n := (0, 0)) (ob := 260) (as := [zi (k : Int), zi 5, zi d]) (st := []) (s_setF hR ⟨by omega, by omega⟩ ⟨by decide, by decide⟩) dX7_lasts_59 ok_X7_set (lk_X7_100 rfl) ⟨(Nat.le_of_ble_eq_true rfl), (Nat.le_of_ble_eq_true rfl)⟩ (zk_at hR.1 rfl) ⟨by decide, rfl⟩ rfl (Nat.le_of_ble_eq_true rfl) (Nat.le_of_ble_eq_true rfl) ⟨(Nat.le_of_ble_eq_true rfl), (Nat.le_of_ble_eq_true rfl)⟩ ?_
      exact Ev.vret dX7_lasts_62 rfl ⟨(Nat.le_of_ble_eq_true rfl), (Nat.le_of_ble_eq_true rfl)⟩
  · skip
    have e1 : (if 0 < d - F k 5 then d - F k 5 else 0) = (d - F (k : Int) 5) := if_pos (by omega)
    refine Ev.iload (pc := 28) (n := (0, 0)) dX7_lasts_28 rfl ?_
    refine Ev.goto (pc := 30) (n := (0, 0)) (tgt := 34) dX7_lasts_30 rfl ?_
    refine Ev.isub (pc := 34) (n := (0, 0)) dX7_lasts_34 ⟨by omega, by omega⟩ ?_
    refine Ev.istore (pc := 35) (n := (0, 0)) (i := 5) (L' := [(5, zi ((F (k : Int) 6) - (d - (F (k : Int) 5)))), (4, zi (d - (F (k : Int) 5))), (3, zi (k : Int)), (0, zr (some 260)), (1, zi x), (2, zi d)]) dX7_lasts_35 (Nat.le_of_ble_eq_true rfl) rfl ?_
    refine Ev.aload_n (pc := 37) (n := (0, 0)) (i := 0) dX7_lasts_37 rfl rfl ?_
    refine Ev.iload_n (pc := 38) (n := (0, 0)) (i := 3) dX7_lasts_38 rfl rfl ?_
    refine Ev.bipush (pc := 39) (n := (0, 0)) dX7_lasts_39 ?_
    refine Ev.iload (pc := 41) (n := (0, 0)) dX7_lasts_41 rfl ?_
    refine Ev.if_le (pc := 43) (n := (0, 0)) (tgt := 51) dX7_lasts_43 rfl (fun h2 => ?_) (fun h2 => ?_)
    · skip
      have e2 : mres (F k 5) (F k 6) d = 0 := by
        unfold mres
        rw [e1]
        exact if_neg (by omega)
      unfold flast
      rw [e2]
      refine Ev.iconst (pc := 51) (n := (0, 0)) dX7_lasts_51 ?_
      refine Ev.callV (pc := 52) (n := (0, 0)) (ob := 260) (as := [zi (k : Int), zi 6, zi 0]) (st := []) (s_setF hR ⟨by omega, by omega⟩ ⟨by decide, by decide⟩) dX7_lasts_52 ok_X7_set (lk_X7_100 rfl) ⟨(Nat.le_of_ble_eq_true rfl), (Nat.le_of_ble_eq_true rfl)⟩ (zk_at hR.1 rfl) ⟨by decide, rfl⟩ rfl (Nat.le_of_ble_eq_true rfl) (Nat.le_of_ble_eq_true rfl) ⟨(Nat.le_of_ble_eq_true rfl), (Nat.le_of_ble_eq_true rfl)⟩ ?_
      refine Ev.aload_n (pc := 55) (n := (0, 0)) (i := 0) dX7_lasts_55 rfl rfl ?_
      refine Ev.iload_n (pc := 56) (n := (0, 0)) (i := 3) dX7_lasts_56 rfl rfl ?_
      refine Ev.iconst (pc := 57) (n := (0, 0)) dX7_lasts_57 ?_
      refine Ev.iload_n (pc := 58) (n := (0, 0)) (i := 2) dX7_lasts_58 rfl rfl ?_
      refine Ev.callV (pc := 59) (n := (0, 0)) (ob := 260) (as := [zi (k : Int), zi 5, zi d]) (st := []) (s_setF hR ⟨by omega, by omega⟩ ⟨by decide, by decide⟩) dX7_lasts_59 ok_X7_set (lk_X7_100 rfl) ⟨(Nat.le_of_ble_eq_true rfl), (Nat.le_of_ble_eq_true rfl)⟩ (zk_at hR.1 rfl) ⟨by decide, rfl⟩ rfl (Nat.le_of_ble_eq_true rfl) (Nat.le_of_ble_eq_true rfl) ⟨(Nat.le_of_ble_eq_true rfl), (Nat.le_of_ble_eq_true rfl)⟩ ?_
      exact Ev.vret dX7_lasts_62 rfl ⟨(Nat.le_of_ble_eq_true rfl), (Nat.le_of_ble_eq_true rfl)⟩
    · skip
      have e2 : mres (F k 5) (F k 6) d = (F (k : Int) 6 - (d - F (k : Int) 5)) := by
        unfold mres
        rw [e1]
        exact if_pos (by omega)
      unfold flast
      rw [e2]
      refine Ev.iload (pc := 46) (n := (0, 0)) dX7_lasts_46 rfl ?_
      refine Ev.goto (pc := 48) (n := (0, 0)) (tgt := 52) dX7_lasts_48 rfl ?_
      refine Ev.callV (pc := 52) (n := (0, 0)) (ob := 260) (as := [zi (k : Int), zi 6, zi ((F (k : Int) 6) - (d - (F (k : Int) 5)))]) (st := []) (s_setF hR ⟨by omega, by omega⟩ ⟨by decide, by decide⟩) dX7_lasts_52 ok_X7_set (lk_X7_100 rfl) ⟨(Nat.le_of_ble_eq_true rfl), (Nat.le_of_ble_eq_true rfl)⟩ (zk_at hR.1 rfl) ⟨by decide, rfl⟩ rfl (Nat.le_of_ble_eq_true rfl) (Nat.le_of_ble_eq_true rfl) ⟨(Nat.le_of_ble_eq_true rfl), (Nat.le_of_ble_eq_true rfl)⟩ ?_
      refine Ev.aload_n (pc := 55) (n := (0, 0)) (i := 0) dX7_lasts_55 rfl rfl ?_
      refine Ev.iload_n (pc := 56) (n := (0, 0)) (i := 3) dX7_lasts_56 rfl rfl ?_
      refine Ev.iconst (pc := 57) (n := (0, 0)) dX7_lasts_57 ?_
      refine Ev.iload_n (pc := 58) (n := (0, 0)) (i := 2) dX7_lasts_58 rfl rfl ?_
      refine Ev.callV (pc := 59) (n := (0, 0)) (ob := 260) (as := [zi (k : Int), zi 5, zi d]) (st := []) (s_setF hR ⟨by omega, by omega⟩ ⟨by decide, by decide⟩) dX7_lasts_59 ok_X7_set (lk_X7_100 rfl) ⟨(Nat.le_of_ble_eq_true rfl), (Nat.le_of_ble_eq_true rfl)⟩ (zk_at hR.1 rfl) ⟨by decide, rfl⟩ rfl (Nat.le_of_ble_eq_true rfl) (Nat.le_of_ble_eq_true rfl) ⟨(Nat.le_of_ble_eq_true rfl), (Nat.le_of_ble_eq_true rfl)⟩ ?_
      exact Ev.vret dX7_lasts_62 rfl ⟨(Nat.le_of_ble_eq_true rfl), (Nat.le_of_ble_eq_true rfl)⟩
