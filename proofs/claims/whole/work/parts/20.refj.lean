/-- the state put aside, changed, asked, and put back -/
theorem aside {I P J : Nat → Int → Int} {F F' : zF} (hP : P = zcp (zrw I F) 0 855 171) (hJ : zKeep P J) (h855 : ∀ x : Int, 855 ≤ x → J 261 x = P 261 x) : ∃ I2, zKeep I I2 ∧ zcp (zrw J F') 855 0 171 = zrw I2 F := by
  have e1 : ∀ x : Int, 0 ≤ x → x < 171 → zcp (zrw J F') 855 0 171 261 x = zrw I F 261 x := fun x h1 h2 => by
    rw [zcp_in _ _ _ _ (by omega), zrw_x _ _ (by omega), h855 _ (by omega), hP, zcp_in _ _ _ _ (by omega)]
    congr 1
    omega
  refine ⟨fun o x => if o = 261 ∧ 3 ≤ x ∧ x < 171 then I 261 x else zcp (zrw J F') 855 0 171 o x, ⟨fun o ho => ?_, fun x hx => ?_⟩, ?_⟩
  · funext x
    have hne : o ≠ 261 := by omega
    show (if o = 261 ∧ 3 ≤ x ∧ x < 171 then I 261 x else zcp (zrw J F') 855 0 171 o x) = I o x
    rw [if_neg (fun g => hne g.1), zcp_o _ _ _ _ hne, zrw_o _ _ hne, hJ.1 o ho, hP, zcp_o _ _ _ _ hne, zrw_o _ _ hne]
  · show (if 261 = 261 ∧ 3 ≤ x ∧ x < 171 then I 261 x else zcp (zrw J F') 855 0 171 261 x) = I 261 x
    by_cases h0 : 0 ≤ x ∧ x < 3
    · rw [if_neg (by omega), e1 x h0.1 (by omega), zrw_x _ _ (by omega)]
    · by_cases hneg : x < 0
      · rw [if_neg (by omega), zcp_out _ _ _ _ (by omega), zrw_x _ _ (by omega), hJ.2 x (by omega), hP, zcp_out _ _ _ _ (by omega), zrw_x _ _ (by omega)]
      · rw [if_neg (by omega), zcp_out _ _ _ _ (by omega), zrw_x _ _ (by omega), hJ.2 x (by omega), hP, zcp_out _ _ _ _ (by omega), zrw_x _ _ (by omega)]
  · funext o x
    show zcp (zrw J F') 855 0 171 o x = (if o = 261 ∧ 3 ≤ x ∧ x < 171 then F ((x - 3) / 7) ((x - 3) % 7) else if o = 261 ∧ 3 ≤ x ∧ x < 171 then I 261 x else zcp (zrw J F') 855 0 171 o x)
    by_cases g : o = 261 ∧ 3 ≤ x ∧ x < 171
    · rw [if_pos g, g.1, e1 x (by omega) (by omega)]
      show (if 261 = 261 ∧ 3 ≤ x ∧ x < 171 then F ((x - 3) / 7) ((x - 3) % 7) else I 261 x) = _
      rw [if_pos ⟨rfl, g.2⟩]
    · rw [if_neg g, if_neg g]
theorem aside_id (I : Nat → Int → Int) (F : zF) : zrw (zcp (zrw I F) 0 855 171) F = zcp (zrw I F) 0 855 171 := zrw_id fun k w h1 h2 h3 h4 => by
  rw [zcp_out _ _ _ _ (by omega), zrw_at _ _ ⟨h1, h2⟩ ⟨h3, h4⟩]
theorem s_putAside {h : zH} {I : Nat → Int → Int} {F : zF} (hR : zRM h) : Ev M_X7_putAside 0 [(0, zr (some 260))] [] (h.1, zrw I F, h.2.2) (0, 0) (.inl none, (h.1, zrw (zcp (zrw I F) 0 855 171) F, h.2.2)) := by
  rw [aside_id]
  refine Ev.aload_n (pc := 0) (n := (0, 0)) (i := 0) dX7_putAside_0 rfl rfl ?_
  refine Ev.iconst (pc := 1) (n := (0, 0)) dX7_putAside_1 ?_
  refine Ev.sipush (pc := 2) (n := (0, 0)) dX7_putAside_2 ?_
  refine Ev.callV (pc := 5) (n := (0, 0)) (ob := 260) (as := [zi 0, zi 855]) (st := []) (s_copies (h := (h.1, zrw I F, h.2.2)) hR (a := 0) (b := 855) (by omega) (by omega) (by omega)) dX7_putAside_5 ok_X7_copies (lk_X7_45 rfl) ⟨(Nat.le_of_ble_eq_true rfl), (Nat.le_of_ble_eq_true rfl)⟩ (zk_at hR.1 rfl) ⟨by decide, rfl⟩ rfl (Nat.le_of_ble_eq_true rfl) (Nat.le_of_ble_eq_true rfl) ⟨(Nat.le_of_ble_eq_true rfl), (Nat.le_of_ble_eq_true rfl)⟩ ?_
  exact Ev.vret dX7_putAside_8 rfl ⟨(Nat.le_of_ble_eq_true rfl), (Nat.le_of_ble_eq_true rfl)⟩
theorem s_comesBack {h : zH} {J : Nat → Int → Int} (hR : zRM h) : Ev M_X7_comesBack 0 [(0, zr (some 260))] [] (h.1, J, h.2.2) (0, 0) (.inl none, (h.1, zcp J 855 0 171, h.2.2)) := by
  refine Ev.aload_n (pc := 0) (n := (0, 0)) (i := 0) dX7_comesBack_0 rfl rfl ?_
  refine Ev.sipush (pc := 1) (n := (0, 0)) dX7_comesBack_1 ?_
  refine Ev.iconst (pc := 4) (n := (0, 0)) dX7_comesBack_4 ?_
  refine Ev.callV (pc := 5) (n := (0, 0)) (ob := 260) (as := [zi 855, zi 0]) (st := []) (s_copies (h := (h.1, J, h.2.2)) hR (a := 855) (b := 0) (by omega) (by omega) (by omega)) dX7_comesBack_5 ok_X7_copies (lk_X7_45 rfl) ⟨(Nat.le_of_ble_eq_true rfl), (Nat.le_of_ble_eq_true rfl)⟩ (zk_at hR.1 rfl) ⟨by decide, rfl⟩ rfl (Nat.le_of_ble_eq_true rfl) (Nat.le_of_ble_eq_true rfl) ⟨(Nat.le_of_ble_eq_true rfl), (Nat.le_of_ble_eq_true rfl)⟩ ?_
  exact Ev.vret dX7_comesBack_8 rfl ⟨(Nat.le_of_ble_eq_true rfl), (Nat.le_of_ble_eq_true rfl)⟩
theorem s_endBy {h : zH} {I : Nat → Int → Int} {F : zF} (hR : zRM h) {n : Nat} (hn : I 261 0 = n) (hn24 : n ≤ 24) {k : Nat} {x d : Int} (hf : zpos n F x = k) (hd : 0 ≤ d ∧ d ≤ 60) (hb : (0 ≤ F k 5 ∧ F k 5 ≤ 60) ∧ (0 ≤ F k 6 ∧ F k 6 ≤ 1000000000)) {dep : Nat → Nat} {B : Int} (hw : WF n (flast F k d) dep B) (hB : 24 * (60 + B) ≤ 1000000000) {len st sl dp : Int → Int} (hl : IsLen n (flast F k d) len) (ht : IsTm n (flast F k d) len st sl dp) : ∃ I2 : Nat → Int → Int, zKeep I I2 ∧ Ev M_X7_endBy 0 [(0, zr (some 260)), (1, zi x), (2, zi d)] [] (h.1, zrw I F, h.2.2) (0, 0) (.inl (some (zi (len 0))), (h.1, zrw I2 F, h.2.2)) := by
  have hk := (zpos_num hf).1
  have hnP : (zcp (zrw I F) 0 855 171) 261 0 = n := by rw [zcp_out _ _ _ _ (by omega), zrw_x _ _ (by omega)]; exact hn
  obtain ⟨J, hL, r⟩ := s_endF (I := (zcp (zrw I F) 0 855 171)) (F := (flast F k d)) hR hnP hn24 hw hB hl ht
  obtain ⟨I2, hI2, e2⟩ := aside (F' := (flast F k d)) rfl hL.keep (fun x _ => congrFun (hL.1 261 (by decide)) x)
  refine ⟨I2, hI2, ?_⟩
  refine Ev.aload_n (pc := 0) (n := (0, 0)) (i := 0) dX7_endBy_0 rfl rfl ?_
  refine Ev.callV (pc := 1) (n := (0, 0)) (ob := 260) (as := []) (st := []) (s_putAside hR) dX7_endBy_1 ok_X7_putAside (lk_X7_189 rfl) ⟨(Nat.le_of_ble_eq_true rfl), (Nat.le_of_ble_eq_true rfl)⟩ (zk_at hR.1 rfl) ⟨by decide, rfl⟩ rfl (Nat.le_of_ble_eq_true rfl) (Nat.le_of_ble_eq_true rfl) ⟨(Nat.le_of_ble_eq_true rfl), (Nat.le_of_ble_eq_true rfl)⟩ ?_
  refine Ev.aload_n (pc := 4) (n := (0, 0)) (i := 0) dX7_endBy_4 rfl rfl ?_
  refine Ev.iload_n (pc := 5) (n := (0, 0)) (i := 1) dX7_endBy_5 rfl rfl ?_
  refine Ev.iload_n (pc := 6) (n := (0, 0)) (i := 2) dX7_endBy_6 rfl rfl ?_
  refine Ev.callV (pc := 7) (n := (0, 0)) (ob := 260) (as := [zi x, zi d]) (st := []) (s_lasts hR hnP hn24 hk hf hd hb) dX7_endBy_7 ok_X7_lasts (lk_X7_144 rfl) ⟨(Nat.le_of_ble_eq_true rfl), (Nat.le_of_ble_eq_true rfl)⟩ (zk_at hR.1 rfl) ⟨by decide, rfl⟩ rfl (Nat.le_of_ble_eq_true rfl) (Nat.le_of_ble_eq_true rfl) ⟨(Nat.le_of_ble_eq_true rfl), (Nat.le_of_ble_eq_true rfl)⟩ ?_
  refine Ev.aload_n (pc := 10) (n := (0, 0)) (i := 0) dX7_endBy_10 rfl rfl ?_
  refine Ev.callV (pc := 11) (n := (0, 0)) (ob := 260) (as := []) (st := []) (r) dX7_endBy_11 ok_X7_end (lk_X7_87 rfl) ⟨(Nat.le_of_ble_eq_true rfl), (Nat.le_of_ble_eq_true rfl)⟩ (zk_at hR.1 rfl) ⟨by decide, rfl⟩ rfl (Nat.le_of_ble_eq_true rfl) (Nat.le_of_ble_eq_true rfl) ⟨(Nat.le_of_ble_eq_true rfl), (Nat.le_of_ble_eq_true rfl)⟩ ?_
  refine Ev.istore_n (pc := 14) (n := (0, 0)) (i := 3) (L' := [(3, zi (len 0)), (0, zr (some 260)), (1, zi x), (2, zi d)]) dX7_endBy_14 rfl (Nat.le_of_ble_eq_true rfl) rfl ?_
  refine Ev.aload_n (pc := 15) (n := (0, 0)) (i := 0) dX7_endBy_15 rfl rfl ?_
  refine Ev.callV (pc := 16) (n := (0, 0)) (ob := 260) (as := []) (st := []) (s_comesBack hR) dX7_endBy_16 ok_X7_comesBack (lk_X7_192 rfl) ⟨(Nat.le_of_ble_eq_true rfl), (Nat.le_of_ble_eq_true rfl)⟩ (zk_at hR.1 rfl) ⟨by decide, rfl⟩ rfl (Nat.le_of_ble_eq_true rfl) (Nat.le_of_ble_eq_true rfl) ⟨(Nat.le_of_ble_eq_true rfl), (Nat.le_of_ble_eq_true rfl)⟩ ?_
  rw [e2]
  refine Ev.iload_n (pc := 19) (n := (0, 0)) (i := 3) dX7_endBy_19 rfl rfl ?_
  exact Ev.iret dX7_endBy_20 rfl ⟨(Nat.le_of_ble_eq_true rfl), (Nat.le_of_ble_eq_true rfl)⟩
theorem s_endWith_no {h : zH} {I : Nat → Int → Int} {F : zF} (hR : zRM h) {n : Nat} (hn : I 261 0 = n) (hn24 : n ≤ 24) {x d : Int} (hw0 : ¬ wTask n F x (if 0 ≤ d ∧ d ≤ 60 then 1 else 0) = 0) : Ev M_X7_endWith 0 [(0, zr (some 260)), (1, zi x), (2, zi d)] [] (h.1, zrw I F, h.2.2) (0, 0) (.inl (some (zi 0)), (h.1, zrw (zup I 260 2 (wTask n F x (if 0 ≤ d ∧ d ≤ 60 then 1 else 0))) F, h.2.2)) := by
  refine Ev.aload_n (pc := 0) (n := (0, 0)) (i := 0) dX7_endWith_0 rfl rfl ?_
  refine Ev.aload_n (pc := 1) (n := (0, 0)) (i := 0) dX7_endWith_1 rfl rfl ?_
  refine Ev.iload_n (pc := 2) (n := (0, 0)) (i := 1) dX7_endWith_2 rfl rfl ?_
  refine Ev.iload_n (pc := 3) (n := (0, 0)) (i := 2) dX7_endWith_3 rfl rfl ?_
  refine Ev.iconst (pc := 4) (n := (0, 0)) dX7_endWith_4 ?_
  refine Ev.bipush (pc := 5) (n := (0, 0)) dX7_endWith_5 ?_
  refine Ev.callS (pc := 7) (n := (0, 0)) (as := [zi d, zi 0, zi 60]) (st := [zi x, zr (some 260), zr (some 260)]) (s_in (h.1, zrw I F, h.2.2) d 0 60) dX7_endWith_7 ok_X7_in (lk_X7_91 rfl) ⟨(Nat.le_of_ble_eq_true rfl), (Nat.le_of_ble_eq_true rfl)⟩ rfl (Nat.le_of_ble_eq_true rfl) (Nat.le_of_ble_eq_true rfl) ⟨(Nat.le_of_ble_eq_true rfl), (Nat.le_of_ble_eq_true rfl)⟩ ?_
  refine Ev.callV (pc := 10) (n := (0, 0)) (ob := 260) (as := [zi x, zi (if 0 ≤ d ∧ d ≤ 60 then 1 else 0)]) (st := [zr (some 260)]) (s_whyNotTask hR hn hn24) dX7_endWith_10 ok_X7_whyNotTask (lk_X7_140 rfl) ⟨(Nat.le_of_ble_eq_true rfl), (Nat.le_of_ble_eq_true rfl)⟩ (zk_at hR.1 rfl) ⟨by decide, rfl⟩ rfl (Nat.le_of_ble_eq_true rfl) (Nat.le_of_ble_eq_true rfl) ⟨(Nat.le_of_ble_eq_true rfl), (Nat.le_of_ble_eq_true rfl)⟩ ?_
  refine Ev.callV (pc := 13) (n := (0, 0)) (ob := 260) (as := [zi (wTask n F x (if 0 ≤ d ∧ d ≤ 60 then 1 else 0))]) (st := []) (s_refF (I := I) hR (wTask n F x (if 0 ≤ d ∧ d ≤ 60 then 1 else 0))) dX7_endWith_13 ok_X7_isRefused (lk_X7_60 rfl) ⟨(Nat.le_of_ble_eq_true rfl), (Nat.le_of_ble_eq_true rfl)⟩ (zk_at hR.1 rfl) ⟨by decide, rfl⟩ rfl (Nat.le_of_ble_eq_true rfl) (Nat.le_of_ble_eq_true rfl) ⟨(Nat.le_of_ble_eq_true rfl), (Nat.le_of_ble_eq_true rfl)⟩ ?_
  rw [if_neg hw0]
  refine Ev.if_eq (pc := 16) (n := (0, 0)) (tgt := 21) dX7_endWith_16 rfl (fun hc => absurd hc (by decide)) (fun hc => ?_)
  refine Ev.iconst (pc := 19) (n := (0, 0)) dX7_endWith_19 ?_
  exact Ev.iret dX7_endWith_20 rfl ⟨(Nat.le_of_ble_eq_true rfl), (Nat.le_of_ble_eq_true rfl)⟩
theorem s_endWith {h : zH} {I : Nat → Int → Int} {F : zF} (hR : zRM h) {n : Nat} (hn : I 261 0 = n) (hn24 : n ≤ 24) {k : Nat} {x d : Int} (hf : zpos n F x = k) (hb : (0 ≤ F k 5 ∧ F k 5 ≤ 60) ∧ (0 ≤ F k 6 ∧ F k 6 ≤ 1000000000)) {dep : Nat → Nat} {B : Int} (hw : WF n (flast F k d) dep B) (hB : 24 * (60 + B) ≤ 1000000000) {len st sl dp : Int → Int} (hl : IsLen n (flast F k d) len) (ht : IsTm n (flast F k d) len st sl dp) (hw0 : wTask n F x (if 0 ≤ d ∧ d ≤ 60 then 1 else 0) = 0) : ∃ I2 : Nat → Int → Int, zKeep (zup I 260 2 0) I2 ∧ Ev M_X7_endWith 0 [(0, zr (some 260)), (1, zi x), (2, zi d)] [] (h.1, zrw I F, h.2.2) (0, 0) (.inl (some (zi (len 0))), (h.1, zrw I2 F, h.2.2)) := by
  have hn0 : zup I 260 2 0 261 0 = n := (zup_o _ _ _ _ (by decide)).trans hn
  have hd : 0 ≤ d ∧ d ≤ 60 := by
    obtain ⟨-, -, -, -, hd9⟩ := wTask_pos hw0
    by_cases e : 0 ≤ d ∧ d ≤ 60
    · exact e
    · rw [if_neg e] at hd9; exact absurd rfl hd9
  obtain ⟨I2, hI2, r⟩ := s_endBy (I := (zup I 260 2 0)) hR hn0 hn24 hf hd hb hw hB hl ht
  refine ⟨I2, hI2, ?_⟩
  refine Ev.aload_n (pc := 0) (n := (0, 0)) (i := 0) dX7_endWith_0 rfl rfl ?_
  refine Ev.aload_n (pc := 1) (n := (0, 0)) (i := 0) dX7_endWith_1 rfl rfl ?_
  refine Ev.iload_n (pc := 2) (n := (0, 0)) (i := 1) dX7_endWith_2 rfl rfl ?_
  refine Ev.iload_n (pc := 3) (n := (0, 0)) (i := 2) dX7_endWith_3 rfl rfl ?_
  refine Ev.iconst (pc := 4) (n := (0, 0)) dX7_endWith_4 ?_
  refine Ev.bipush (pc := 5) (n := (0, 0)) dX7_endWith_5 ?_
  refine Ev.callS (pc := 7) (n := (0, 0)) (as := [zi d, zi 0, zi 60]) (st := [zi x, zr (some 260), zr (some 260)]) (s_in (h.1, zrw I F, h.2.2) d 0 60) dX7_endWith_7 ok_X7_in (lk_X7_91 rfl) ⟨(Nat.le_of_ble_eq_true rfl), (Nat.le_of_ble_eq_true rfl)⟩ rfl (Nat.le_of_ble_eq_true rfl) (Nat.le_of_ble_eq_true rfl) ⟨(Nat.le_of_ble_eq_true rfl), (Nat.le_of_ble_eq_true rfl)⟩ ?_
  refine Ev.callV (pc := 10) (n := (0, 0)) (ob := 260) (as := [zi x, zi (if 0 ≤ d ∧ d ≤ 60 then 1 else 0)]) (st := [zr (some 260)]) (s_whyNotTask hR hn hn24) dX7_endWith_10 ok_X7_whyNotTask (lk_X7_140 rfl) ⟨(Nat.le_of_ble_eq_true rfl), (Nat.le_of_ble_eq_true rfl)⟩ (zk_at hR.1 rfl) ⟨by decide, rfl⟩ rfl (Nat.le_of_ble_eq_true rfl) (Nat.le_of_ble_eq_true rfl) ⟨(Nat.le_of_ble_eq_true rfl), (Nat.le_of_ble_eq_true rfl)⟩ ?_
  refine Ev.callV (pc := 13) (n := (0, 0)) (ob := 260) (as := [zi (wTask n F x (if 0 ≤ d ∧ d ≤ 60 then 1 else 0))]) (st := []) (s_refF (I := I) hR (wTask n F x (if 0 ≤ d ∧ d ≤ 60 then 1 else 0))) dX7_endWith_13 ok_X7_isRefused (lk_X7_60 rfl) ⟨(Nat.le_of_ble_eq_true rfl), (Nat.le_of_ble_eq_true rfl)⟩ (zk_at hR.1 rfl) ⟨by decide, rfl⟩ rfl (Nat.le_of_ble_eq_true rfl) (Nat.le_of_ble_eq_true rfl) ⟨(Nat.le_of_ble_eq_true rfl), (Nat.le_of_ble_eq_true rfl)⟩ ?_
  rw [hw0]
  rw [if_pos (rfl : (0 : Int) = 0)]
  refine Ev.if_eq (pc := 16) (n := (0, 0)) (tgt := 21) dX7_endWith_16 rfl (fun hc9 => ?_) (fun hc9 => absurd rfl hc9)
  refine Ev.aload_n (pc := 21) (n := (0, 0)) (i := 0) dX7_endWith_21 rfl rfl ?_
  refine Ev.iload_n (pc := 22) (n := (0, 0)) (i := 1) dX7_endWith_22 rfl rfl ?_
  refine Ev.iload_n (pc := 23) (n := (0, 0)) (i := 2) dX7_endWith_23 rfl rfl ?_
  refine Ev.callV (pc := 24) (n := (0, 0)) (ob := 260) (as := [zi x, zi d]) (st := []) (r) dX7_endWith_24 ok_X7_endBy (lk_X7_195 rfl) ⟨(Nat.le_of_ble_eq_true rfl), (Nat.le_of_ble_eq_true rfl)⟩ (zk_at hR.1 rfl) ⟨by decide, rfl⟩ rfl (Nat.le_of_ble_eq_true rfl) (Nat.le_of_ble_eq_true rfl) ⟨(Nat.le_of_ble_eq_true rfl), (Nat.le_of_ble_eq_true rfl)⟩ ?_
  exact Ev.iret dX7_endWith_27 rfl ⟨(Nat.le_of_ble_eq_true rfl), (Nat.le_of_ble_eq_true rfl)⟩
/-- the ends that other durations of a task give -/
def IsEnds (n : Nat) (F : zF) (k : Nat) (dep : Nat → Nat) (B : Int) (E : Int → Int) : Prop := ∀ d : Int, 0 ≤ d → d ≤ 60 → WF n (flast F k d) dep B ∧ ∃ len st sl dp : Int → Int, IsLen n (flast F k d) len ∧ IsTm n (flast F k d) len st sl dp ∧ len 0 = E d
theorem s_grow_loop {h : zH} {F : zF} (hR : zRM h) {n : Nat} (hn24 : n ≤ 24) {k : Nat} {x now : Int} (hf : zpos n F x = k) (hb : (0 ≤ F k 5 ∧ F k 5 ≤ 60) ∧ (0 ≤ F k 6 ∧ F k 6 ≤ 1000000000)) {dep : Nat → Nat} {B : Int} (hB : 24 * (60 + B) ≤ 1000000000) {E : Int → Int} (hE : IsEnds n F k dep B E) {d0 : Int} (hd0 : 0 ≤ d0 ∧ E d0 ≤ now) : ∀ (j : Nat) (I : Nat → Int → Int) (d : Int), I 261 0 = n → d0 ≤ d → d ≤ 60 → (d - d0).toNat = j → (∀ e : Int, d < e → e ≤ 60 → now < E e) → ∃ (I2 : Nat → Int → Int) (g : Int), zKeep I I2 ∧ (d0 ≤ g ∧ g ≤ 60 ∧ E g ≤ now ∧ ∀ e : Int, g < e → e ≤ 60 → now < E e) ∧ Ev M_X7_growsTo 23 [(0, zr (some 260)), (1, zi x), (2, zi now), (3, zi d)] [] (h.1, zrw I F, h.2.2) (0, 0) (.inl (some (zi g)), (h.1, zrw I2 F, h.2.2)) := by
  intro j
  induction j with
  | zero =>
    intro I d hn h1 h2 hj hgt
    have e0 : d = d0 := by omega
    subst e0
    obtain ⟨hw, len, st, sl, dp, hl, ht, hE0⟩ := hE d (by omega) h2
    obtain ⟨I2, hI2, r⟩ := s_endBy (I := I) hR hn hn24 hf ⟨by omega, h2⟩ hb hw hB hl ht
    refine ⟨I2, d, hI2, ⟨Int.le_refl _, h2, hd0.2, hgt⟩, ?_⟩
    refine Ev.aload_n (pc := 23) (n := (0, 0)) (i := 0) dX7_growsTo_23 rfl rfl ?_
    refine Ev.iload_n (pc := 24) (n := (0, 0)) (i := 1) dX7_growsTo_24 rfl rfl ?_
    refine Ev.iload_n (pc := 25) (n := (0, 0)) (i := 3) dX7_growsTo_25 rfl rfl ?_
    refine Ev.callV (pc := 26) (n := (0, 0)) (ob := 260) (as := [zi x, zi d]) (st := []) (r) dX7_growsTo_26 ok_X7_endBy (lk_X7_195 rfl) ⟨(Nat.le_of_ble_eq_true rfl), (Nat.le_of_ble_eq_true rfl)⟩ (zk_at hR.1 rfl) ⟨by decide, rfl⟩ rfl (Nat.le_of_ble_eq_true rfl) (Nat.le_of_ble_eq_true rfl) ⟨(Nat.le_of_ble_eq_true rfl), (Nat.le_of_ble_eq_true rfl)⟩ ?_
    refine Ev.iload_n (pc := 29) (n := (0, 0)) (i := 2) dX7_growsTo_29 rfl rfl ?_
    refine Ev.icmp_le (pc := 30) (n := (0, 0)) (tgt := 39) dX7_growsTo_30 rfl (fun hc => ?_) (fun hc => absurd hc (by omega))
    refine Ev.iload_n (pc := 39) (n := (0, 0)) (i := 3) dX7_growsTo_39 rfl rfl ?_
    exact Ev.iret dX7_growsTo_40 rfl ⟨(Nat.le_of_ble_eq_true rfl), (Nat.le_of_ble_eq_true rfl)⟩
  | succ j ih =>
    intro I d hn h1 h2 hj hgt
    obtain ⟨hw, len, st, sl, dp, hl, ht, hE0⟩ := hE d (by omega) h2
    obtain ⟨I2, hI2, r⟩ := s_endBy (I := I) hR hn hn24 hf ⟨by omega, h2⟩ hb hw hB hl ht
    by_cases hle : E d ≤ now
    · refine ⟨I2, d, hI2, ⟨h1, h2, hle, hgt⟩, ?_⟩
      refine Ev.aload_n (pc := 23) (n := (0, 0)) (i := 0) dX7_growsTo_23 rfl rfl ?_
      refine Ev.iload_n (pc := 24) (n := (0, 0)) (i := 1) dX7_growsTo_24 rfl rfl ?_
      refine Ev.iload_n (pc := 25) (n := (0, 0)) (i := 3) dX7_growsTo_25 rfl rfl ?_
      refine Ev.callV (pc := 26) (n := (0, 0)) (ob := 260) (as := [zi x, zi d]) (st := []) (r) dX7_growsTo_26 ok_X7_endBy (lk_X7_195 rfl) ⟨(Nat.le_of_ble_eq_true rfl), (Nat.le_of_ble_eq_true rfl)⟩ (zk_at hR.1 rfl) ⟨by decide, rfl⟩ rfl (Nat.le_of_ble_eq_true rfl) (Nat.le_of_ble_eq_true rfl) ⟨(Nat.le_of_ble_eq_true rfl), (Nat.le_of_ble_eq_true rfl)⟩ ?_
      refine Ev.iload_n (pc := 29) (n := (0, 0)) (i := 2) dX7_growsTo_29 rfl rfl ?_
      refine Ev.icmp_le (pc := 30) (n := (0, 0)) (tgt := 39) dX7_growsTo_30 rfl (fun hc => ?_) (fun hc => absurd hc (by omega))
      refine Ev.iload_n (pc := 39) (n := (0, 0)) (i := 3) dX7_growsTo_39 rfl rfl ?_
      exact Ev.iret dX7_growsTo_40 rfl ⟨(Nat.le_of_ble_eq_true rfl), (Nat.le_of_ble_eq_true rfl)⟩
    · obtain ⟨I3, g, hI3, hg, r3⟩ := ih I2 (d - 1) (hI2.x (by omega) hn) (by omega) (by omega) (by omega) (fun e he1 he2 => by
        by_cases e9 : e = d
        · subst e9; omega
        · exact hgt e (by omega) he2)
      refine ⟨I3, g, hI2.trans hI3, hg, ?_⟩
      refine Ev.aload_n (pc := 23) (n := (0, 0)) (i := 0) dX7_growsTo_23 rfl rfl ?_
      refine Ev.iload_n (pc := 24) (n := (0, 0)) (i := 1) dX7_growsTo_24 rfl rfl ?_
      refine Ev.iload_n (pc := 25) (n := (0, 0)) (i := 3) dX7_growsTo_25 rfl rfl ?_
      refine Ev.callV (pc := 26) (n := (0, 0)) (ob := 260) (as := [zi x, zi d]) (st := []) (r) dX7_growsTo_26 ok_X7_endBy (lk_X7_195 rfl) ⟨(Nat.le_of_ble_eq_true rfl), (Nat.le_of_ble_eq_true rfl)⟩ (zk_at hR.1 rfl) ⟨by decide, rfl⟩ rfl (Nat.le_of_ble_eq_true rfl) (Nat.le_of_ble_eq_true rfl) ⟨(Nat.le_of_ble_eq_true rfl), (Nat.le_of_ble_eq_true rfl)⟩ ?_
      refine Ev.iload_n (pc := 29) (n := (0, 0)) (i := 2) dX7_growsTo_29 rfl rfl ?_
      refine Ev.icmp_le (pc := 30) (n := (0, 0)) (tgt := 39) dX7_growsTo_30 rfl (fun hc => absurd hc (by omega)) (fun hc => ?_)
      refine Ev.iinc (pc := 33) (n := (0, 0)) (L' := [(3, zi (d + (-1))), (0, zr (some 260)), (1, zi x), (2, zi now)]) dX7_growsTo_33 rfl (Nat.le_of_ble_eq_true rfl) ⟨by omega, by omega⟩ rfl ?_
      refine Ev.goto (pc := 36) (n := (0, 0)) (tgt := 23) dX7_growsTo_36 rfl ?_
      refine Ev.perm [1, 2, 3, 0] rfl ?_
      exact r3
theorem s_growsTo_no {h : zH} {I : Nat → Int → Int} {F : zF} (hR : zRM h) {n : Nat} (hn : I 261 0 = n) (hn24 : n ≤ 24) {x : Int} (hw0 : ¬ (if wTask n F x 1 = 3 then 2 else wTask n F x 1) = 0) : Ev M_X7_growsTo 0 [(0, zr (some 260)), (1, zi x)] [] (h.1, zrw I F, h.2.2) (0, 0) (.inl (some (zi 0)), (h.1, zrw (zup I 260 2 (if wTask n F x 1 = 3 then 2 else wTask n F x 1)) F, h.2.2)) := by
  refine Ev.aload_n (pc := 0) (n := (0, 0)) (i := 0) dX7_growsTo_0 rfl rfl ?_
  refine Ev.aload_n (pc := 1) (n := (0, 0)) (i := 0) dX7_growsTo_1 rfl rfl ?_
  refine Ev.iload_n (pc := 2) (n := (0, 0)) (i := 1) dX7_growsTo_2 rfl rfl ?_
  refine Ev.iconst (pc := 3) (n := (0, 0)) dX7_growsTo_3 ?_
  refine Ev.callV (pc := 4) (n := (0, 0)) (ob := 260) (as := [zi x, zi 1]) (st := [zr (some 260)]) (s_whyNotTask hR hn hn24) dX7_growsTo_4 ok_X7_whyNotTask (lk_X7_140 rfl) ⟨(Nat.le_of_ble_eq_true rfl), (Nat.le_of_ble_eq_true rfl)⟩ (zk_at hR.1 rfl) ⟨by decide, rfl⟩ rfl (Nat.le_of_ble_eq_true rfl) (Nat.le_of_ble_eq_true rfl) ⟨(Nat.le_of_ble_eq_true rfl), (Nat.le_of_ble_eq_true rfl)⟩ ?_
  refine Ev.callV (pc := 7) (n := (0, 0)) (ob := 260) (as := [zi (wTask n F x 1)]) (st := []) (s_barF (I := I) hR (wTask n F x 1)) dX7_growsTo_7 ok_X7_isBarred (lk_X7_134 rfl) ⟨(Nat.le_of_ble_eq_true rfl), (Nat.le_of_ble_eq_true rfl)⟩ (zk_at hR.1 rfl) ⟨by decide, rfl⟩ rfl (Nat.le_of_ble_eq_true rfl) (Nat.le_of_ble_eq_true rfl) ⟨(Nat.le_of_ble_eq_true rfl), (Nat.le_of_ble_eq_true rfl)⟩ ?_
  rw [if_neg hw0]
  refine Ev.if_eq (pc := 10) (n := (0, 0)) (tgt := 15) dX7_growsTo_10 rfl (fun hc => absurd hc (by decide)) (fun hc => ?_)
  refine Ev.iconst (pc := 13) (n := (0, 0)) dX7_growsTo_13 ?_
  exact Ev.iret dX7_growsTo_14 rfl ⟨(Nat.le_of_ble_eq_true rfl), (Nat.le_of_ble_eq_true rfl)⟩
theorem s_growsTo {h : zH} {I : Nat → Int → Int} {F : zF} (hR : zRM h) {n : Nat} (hn : I 261 0 = n) (hn24 : n ≤ 24) {dep : Nat → Nat} {B : Int} (hw : WF n F dep B) (hB : 24 * (60 + B) ≤ 1000000000) {len st sl dp : Int → Int} (hl : IsLen n F len) (ht : IsTm n F len st sl dp) {k : Nat} {x : Int} (hf : zpos n F x = k) (hb : (0 ≤ F k 5 ∧ F k 5 ≤ 60) ∧ (0 ≤ F k 6 ∧ F k 6 ≤ 1000000000)) {E : Int → Int} (hE : IsEnds n F k dep B E) {d0 : Int} (hd0 : (0 ≤ d0 ∧ d0 ≤ 60) ∧ E d0 ≤ len 0) (hw0 : wTask n F x 1 = 0) : ∃ (I2 : Nat → Int → Int) (g : Int), zKeep (zup I 260 2 0) I2 ∧ (d0 ≤ g ∧ g ≤ 60 ∧ E g ≤ len 0 ∧ ∀ e : Int, g < e → e ≤ 60 → len 0 < E e) ∧ Ev M_X7_growsTo 0 [(0, zr (some 260)), (1, zi x)] [] (h.1, zrw I F, h.2.2) (0, 0) (.inl (some (zi g)), (h.1, zrw I2 F, h.2.2)) := by
  have hn0 : zup I 260 2 0 261 0 = n := (zup_o _ _ _ _ (by decide)).trans hn
  obtain ⟨I2, hL, r⟩ := s_endF (I := (zup I 260 2 0)) hR hn0 hn24 hw hB hl ht
  obtain ⟨I3, g, hI3, hg, r3⟩ := s_grow_loop hR hn24 hf hb hB hE ⟨hd0.1.1, hd0.2⟩ (60 - d0).toNat I2 60 (hL.keep.x (by omega) hn0) (by omega) (by omega) rfl (fun e h1 h2 => by omega)
  refine ⟨I3, g, hL.keep.trans hI3, hg, ?_⟩
  refine Ev.aload_n (pc := 0) (n := (0, 0)) (i := 0) dX7_growsTo_0 rfl rfl ?_
  refine Ev.aload_n (pc := 1) (n := (0, 0)) (i := 0) dX7_growsTo_1 rfl rfl ?_
  refine Ev.iload_n (pc := 2) (n := (0, 0)) (i := 1) dX7_growsTo_2 rfl rfl ?_
  refine Ev.iconst (pc := 3) (n := (0, 0)) dX7_growsTo_3 ?_
  refine Ev.callV (pc := 4) (n := (0, 0)) (ob := 260) (as := [zi x, zi 1]) (st := [zr (some 260)]) (s_whyNotTask hR hn hn24) dX7_growsTo_4 ok_X7_whyNotTask (lk_X7_140 rfl) ⟨(Nat.le_of_ble_eq_true rfl), (Nat.le_of_ble_eq_true rfl)⟩ (zk_at hR.1 rfl) ⟨by decide, rfl⟩ rfl (Nat.le_of_ble_eq_true rfl) (Nat.le_of_ble_eq_true rfl) ⟨(Nat.le_of_ble_eq_true rfl), (Nat.le_of_ble_eq_true rfl)⟩ ?_
  refine Ev.callV (pc := 7) (n := (0, 0)) (ob := 260) (as := [zi (wTask n F x 1)]) (st := []) (s_barF (I := I) hR (wTask n F x 1)) dX7_growsTo_7 ok_X7_isBarred (lk_X7_134 rfl) ⟨(Nat.le_of_ble_eq_true rfl), (Nat.le_of_ble_eq_true rfl)⟩ (zk_at hR.1 rfl) ⟨by decide, rfl⟩ rfl (Nat.le_of_ble_eq_true rfl) (Nat.le_of_ble_eq_true rfl) ⟨(Nat.le_of_ble_eq_true rfl), (Nat.le_of_ble_eq_true rfl)⟩ ?_
  rw [hw0, if_neg (by decide : ¬ (0 : Int) = 3)]
  rw [if_pos (rfl : (0 : Int) = 0)]
  refine Ev.if_eq (pc := 10) (n := (0, 0)) (tgt := 15) dX7_growsTo_10 rfl (fun hc9 => ?_) (fun hc9 => absurd rfl hc9)
  refine Ev.aload_n (pc := 15) (n := (0, 0)) (i := 0) dX7_growsTo_15 rfl rfl ?_
  refine Ev.callV (pc := 16) (n := (0, 0)) (ob := 260) (as := []) (st := []) (r) dX7_growsTo_16 ok_X7_end (lk_X7_87 rfl) ⟨(Nat.le_of_ble_eq_true rfl), (Nat.le_of_ble_eq_true rfl)⟩ (zk_at hR.1 rfl) ⟨by decide, rfl⟩ rfl (Nat.le_of_ble_eq_true rfl) (Nat.le_of_ble_eq_true rfl) ⟨(Nat.le_of_ble_eq_true rfl), (Nat.le_of_ble_eq_true rfl)⟩ ?_
  refine Ev.istore_n (pc := 19) (n := (0, 0)) (i := 2) (L' := [(2, zi (len 0)), (0, zr (some 260)), (1, zi x)]) dX7_growsTo_19 rfl (Nat.le_of_ble_eq_true rfl) rfl ?_
  refine Ev.bipush (pc := 20) (n := (0, 0)) dX7_growsTo_20 ?_
  refine Ev.istore_n (pc := 22) (n := (0, 0)) (i := 3) (L' := [(3, zi 60), (2, zi (len 0)), (0, zr (some 260)), (1, zi x)]) dX7_growsTo_22 rfl (Nat.le_of_ble_eq_true rfl) rfl ?_
  refine Ev.perm [2, 3, 1, 0] rfl ?_
  exact r3
/-- the first of the places from m on whose task, shortened by one, gives an earlier end -/
def IsCut (n : Nat) (F : zF) (C : Nat → Int) (now : Int) (m : Nat) (c : Int) : Prop := (∃ k : Nat, m ≤ k ∧ k < n ∧ F k 1 = 1 ∧ 0 < F k 5 ∧ C k < now ∧ c = F k 0 ∧ ∀ j : Nat, m ≤ j → j < k → ¬ (F j 1 = 1 ∧ 0 < F j 5 ∧ C j < now)) ∨ (c = -1 ∧ ∀ j : Nat, m ≤ j → j < n → ¬ (F j 1 = 1 ∧ 0 < F j 5 ∧ C j < now))
theorem IsCut.skip {n : Nat} {F : zF} {C : Nat → Int} {now : Int} {m : Nat} {c : Int} (hno : ¬ (F m 1 = 1 ∧ 0 < F m 5 ∧ C m < now)) (h : IsCut n F C now (m + 1) c) : IsCut n F C now m c := by
  rcases h with ⟨k, h1, h2, h3, h4, h5, h6, h7⟩ | ⟨h1, h2⟩
  · refine Or.inl ⟨k, by omega, h2, h3, h4, h5, h6, fun j hj1 hj2 => ?_⟩
    by_cases e : j = m
    · subst e; exact hno
    · exact h7 j (by omega) hj2
  · refine Or.inr ⟨h1, fun j hj1 hj2 => ?_⟩
    by_cases e : j = m
    · subst e; exact hno
    · exact h2 j (by omega) hj2
def IsCuts (n : Nat) (F : zF) (dep : Nat → Nat) (B : Int) (C : Nat → Int) : Prop := ∀ k : Nat, k < n → F k 1 = 1 → 0 < F k 5 → WF n (flast F k (F k 5 - 1)) dep B ∧ ∃ len st sl dp : Int → Int, IsLen n (flast F k (F k 5 - 1)) len ∧ IsTm n (flast F k (F k 5 - 1)) len st sl dp ∧ len 0 = C k
theorem s_cut_loop {h : zH} {F : zF} (hR : zRM h) {n : Nat} (hn24 : n ≤ 24) {now : Int} {dep : Nat → Nat} {B : Int} (hw : WF n F dep B) (hB : 24 * (60 + B) ≤ 1000000000) {C : Nat → Int} (hC : IsCuts n F dep B C) : ∀ (j k : Nat) (I : Nat → Int → Int), I 261 0 = n → k ≤ n → n - k = j → ∃ (I2 : Nat → Int → Int) (c : Int), zKeep I I2 ∧ IsCut n F C now k c ∧ Ev M_X7_cutTask 7 [(0, zr (some 260)), (1, zi now), (2, zi (k : Int))] [] (h.1, zrw I F, h.2.2) (0, 0) (.inl (some (zi c)), (h.1, zrw I2 F, h.2.2)) := by
  intro j
  induction j with
  | zero =>
    intro k I hn hk hj
    have e : k = n := by omega
    subst e
    refine ⟨I, -1, zKeep.rfl' I, Or.inr ⟨rfl, fun j h1 h2 => by omega⟩, ?_⟩
    refine Ev.iload_n (pc := 7) (n := (0, 0)) (i := 2) dX7_cutTask_7 rfl rfl ?_
    refine Ev.aload_n (pc := 8) (n := (0, 0)) (i := 0) dX7_cutTask_8 rfl rfl ?_
    refine Ev.gR (pc := 9) (n := (0, 0)) (r := (some 261)) dX7_cutTask_9 fl_X7_7 (zk_at hR.1 rfl) rfl hR.2.1 ?_
    refine Ev.iconst (pc := 12) (n := (0, 0)) dX7_cutTask_12 ?_
    refine Ev.ia (pc := 13) (n := (0, 0)) (x := (k : Int)) dX7_cutTask_13 (zk_at hR.1 rfl) (by omega) (by omega) ((zrw_x I F (by omega)).trans hn) ?_
    refine Ev.icmp_ge (pc := 14) (n := (0, 0)) (tgt := 68) dX7_cutTask_14 rfl (fun hc => ?_) (fun hc => absurd hc (by omega))
    refine Ev.iconst (pc := 68) (n := (0, 0)) dX7_cutTask_68 ?_
    exact Ev.iret dX7_cutTask_69 rfl ⟨(Nat.le_of_ble_eq_true rfl), (Nat.le_of_ble_eq_true rfl)⟩
  | succ j ih =>
    intro k I hn hk hj
    have hkn : k < n := by omega
    have b := hw.2.2.2.1 k hkn
    have hBB : 0 ≤ B := by omega
    by_cases h1 : F k 1 = 1
    · by_cases h2 : 0 < F k 5
      · obtain ⟨hwc, len, st, sl, dp, hl, ht, hCk⟩ := hC k hkn h1 h2
        have hf : zpos n F (F k 0) = k := (hw.chn 0).pos hkn
        obtain ⟨I3, hI3, r⟩ := s_endBy (I := I) hR hn hn24 hf (d := F k 5 - 1) ⟨by omega, by omega⟩ ⟨b.2.1, by omega⟩ hwc hB hl ht
        by_cases h3 : C k < now
        · refine ⟨I3, F k 0, hI3, Or.inl ⟨k, Nat.le_refl _, hkn, h1, h2, h3, rfl, fun j a b => by omega⟩, ?_⟩
          refine Ev.iload_n (pc := 7) (n := (0, 0)) (i := 2) dX7_cutTask_7 rfl rfl ?_
          refine Ev.aload_n (pc := 8) (n := (0, 0)) (i := 0) dX7_cutTask_8 rfl rfl ?_
          refine Ev.gR (pc := 9) (n := (0, 0)) (r := (some 261)) dX7_cutTask_9 fl_X7_7 (zk_at hR.1 rfl) rfl hR.2.1 ?_
          refine Ev.iconst (pc := 12) (n := (0, 0)) dX7_cutTask_12 ?_
          refine Ev.ia (pc := 13) (n := (0, 0)) (x := (n : Int)) dX7_cutTask_13 (zk_at hR.1 rfl) (by omega) (by omega) ((zrw_x I F (by omega)).trans hn) ?_
          refine Ev.icmp_ge (pc := 14) (n := (0, 0)) (tgt := 68) dX7_cutTask_14 rfl (fun hc => absurd hc (by omega)) (fun hc => ?_)
          refine Ev.aload_n (pc := 17) (n := (0, 0)) (i := 0) dX7_cutTask_17 rfl rfl ?_
          refine Ev.iload_n (pc := 18) (n := (0, 0)) (i := 2) dX7_cutTask_18 rfl rfl ?_
          refine Ev.iconst (pc := 19) (n := (0, 0)) dX7_cutTask_19 ?_
          refine Ev.callV (pc := 20) (n := (0, 0)) (ob := 260) (as := [zi (k : Int), zi 5]) (st := []) (s_ofF hR ⟨by omega, by omega⟩ ⟨by decide, by decide⟩) dX7_cutTask_20 ok_X7_of (lk_X7_49 rfl) ⟨(Nat.le_of_ble_eq_true rfl), (Nat.le_of_ble_eq_true rfl)⟩ (zk_at hR.1 rfl) ⟨by decide, rfl⟩ rfl (Nat.le_of_ble_eq_true rfl) (Nat.le_of_ble_eq_true rfl) ⟨(Nat.le_of_ble_eq_true rfl), (Nat.le_of_ble_eq_true rfl)⟩ ?_
          refine Ev.istore_n (pc := 23) (n := (0, 0)) (i := 3) (L' := [(3, zi (F (k : Int) 5)), (0, zr (some 260)), (1, zi now), (2, zi (k : Int))]) dX7_cutTask_23 rfl (Nat.le_of_ble_eq_true rfl) rfl ?_
          refine Ev.aload_n (pc := 24) (n := (0, 0)) (i := 0) dX7_cutTask_24 rfl rfl ?_
          refine Ev.iload_n (pc := 25) (n := (0, 0)) (i := 2) dX7_cutTask_25 rfl rfl ?_
          refine Ev.iconst (pc := 26) (n := (0, 0)) dX7_cutTask_26 ?_
          refine Ev.callV (pc := 27) (n := (0, 0)) (ob := 260) (as := [zi (k : Int), zi 1]) (st := []) (s_ofF hR ⟨by omega, by omega⟩ ⟨by decide, by decide⟩) dX7_cutTask_27 ok_X7_of (lk_X7_49 rfl) ⟨(Nat.le_of_ble_eq_true rfl), (Nat.le_of_ble_eq_true rfl)⟩ (zk_at hR.1 rfl) ⟨by decide, rfl⟩ rfl (Nat.le_of_ble_eq_true rfl) (Nat.le_of_ble_eq_true rfl) ⟨(Nat.le_of_ble_eq_true rfl), (Nat.le_of_ble_eq_true rfl)⟩ ?_
          refine Ev.iconst (pc := 30) (n := (0, 0)) dX7_cutTask_30 ?_
          refine Ev.icmp_ne (pc := 31) (n := (0, 0)) (tgt := 62) dX7_cutTask_31 rfl (fun hc2 => absurd h1 hc2) (fun hc2 => ?_)
          refine Ev.iload_n (pc := 34) (n := (0, 0)) (i := 3) dX7_cutTask_34 rfl rfl ?_
          refine Ev.if_le (pc := 35) (n := (0, 0)) (tgt := 62) dX7_cutTask_35 rfl (fun hc3 => absurd hc3 (by omega)) (fun hc3 => ?_)
          refine Ev.aload_n (pc := 38) (n := (0, 0)) (i := 0) dX7_cutTask_38 rfl rfl ?_
          refine Ev.aload_n (pc := 39) (n := (0, 0)) (i := 0) dX7_cutTask_39 rfl rfl ?_
          refine Ev.iload_n (pc := 40) (n := (0, 0)) (i := 2) dX7_cutTask_40 rfl rfl ?_
          refine Ev.iconst (pc := 41) (n := (0, 0)) dX7_cutTask_41 ?_
          refine Ev.callV (pc := 42) (n := (0, 0)) (ob := 260) (as := [zi (k : Int), zi 0]) (st := [zr (some 260)]) (s_ofF hR ⟨by omega, by omega⟩ ⟨by decide, by decide⟩) dX7_cutTask_42 ok_X7_of (lk_X7_49 rfl) ⟨(Nat.le_of_ble_eq_true rfl), (Nat.le_of_ble_eq_true rfl)⟩ (zk_at hR.1 rfl) ⟨by decide, rfl⟩ rfl (Nat.le_of_ble_eq_true rfl) (Nat.le_of_ble_eq_true rfl) ⟨(Nat.le_of_ble_eq_true rfl), (Nat.le_of_ble_eq_true rfl)⟩ ?_
          refine Ev.iload_n (pc := 45) (n := (0, 0)) (i := 3) dX7_cutTask_45 rfl rfl ?_
          refine Ev.iconst (pc := 46) (n := (0, 0)) dX7_cutTask_46 ?_
          refine Ev.isub (pc := 47) (n := (0, 0)) dX7_cutTask_47 ⟨by omega, by omega⟩ ?_
          refine Ev.callV (pc := 48) (n := (0, 0)) (ob := 260) (as := [zi (F (k : Int) 0), zi ((F (k : Int) 5) - 1)]) (st := []) (r) dX7_cutTask_48 ok_X7_endBy (lk_X7_195 rfl) ⟨(Nat.le_of_ble_eq_true rfl), (Nat.le_of_ble_eq_true rfl)⟩ (zk_at hR.1 rfl) ⟨by decide, rfl⟩ rfl (Nat.le_of_ble_eq_true rfl) (Nat.le_of_ble_eq_true rfl) ⟨(Nat.le_of_ble_eq_true rfl), (Nat.le_of_ble_eq_true rfl)⟩ ?_
          refine Ev.iload_n (pc := 51) (n := (0, 0)) (i := 1) dX7_cutTask_51 rfl rfl ?_
          refine Ev.icmp_ge (pc := 52) (n := (0, 0)) (tgt := 62) dX7_cutTask_52 rfl (fun hc4 => absurd hc4 (by omega)) (fun hc4 => ?_)
          refine Ev.aload_n (pc := 55) (n := (0, 0)) (i := 0) dX7_cutTask_55 rfl rfl ?_
          refine Ev.iload_n (pc := 56) (n := (0, 0)) (i := 2) dX7_cutTask_56 rfl rfl ?_
          refine Ev.iconst (pc := 57) (n := (0, 0)) dX7_cutTask_57 ?_
          refine Ev.callV (pc := 58) (n := (0, 0)) (ob := 260) (as := [zi (k : Int), zi 0]) (st := []) (s_ofF hR ⟨by omega, by omega⟩ ⟨by decide, by decide⟩) dX7_cutTask_58 ok_X7_of (lk_X7_49 rfl) ⟨(Nat.le_of_ble_eq_true rfl), (Nat.le_of_ble_eq_true rfl)⟩ (zk_at hR.1 rfl) ⟨by decide, rfl⟩ rfl (Nat.le_of_ble_eq_true rfl) (Nat.le_of_ble_eq_true rfl) ⟨(Nat.le_of_ble_eq_true rfl), (Nat.le_of_ble_eq_true rfl)⟩ ?_
          exact Ev.iret dX7_cutTask_61 rfl ⟨(Nat.le_of_ble_eq_true rfl), (Nat.le_of_ble_eq_true rfl)⟩
        · obtain ⟨I2, c, r1, r2, r3⟩ := ih (k + 1) I3 (hI3.x (by omega) hn) (by omega) (by omega)
          refine ⟨I2, c, hI3.trans r1, r2.skip (fun g => h3 g.2.2), ?_⟩
          refine Ev.iload_n (pc := 7) (n := (0, 0)) (i := 2) dX7_cutTask_7 rfl rfl ?_
          refine Ev.aload_n (pc := 8) (n := (0, 0)) (i := 0) dX7_cutTask_8 rfl rfl ?_
          refine Ev.gR (pc := 9) (n := (0, 0)) (r := (some 261)) dX7_cutTask_9 fl_X7_7 (zk_at hR.1 rfl) rfl hR.2.1 ?_
          refine Ev.iconst (pc := 12) (n := (0, 0)) dX7_cutTask_12 ?_
          refine Ev.ia (pc := 13) (n := (0, 0)) (x := (n : Int)) dX7_cutTask_13 (zk_at hR.1 rfl) (by omega) (by omega) ((zrw_x I F (by omega)).trans hn) ?_
          refine Ev.icmp_ge (pc := 14) (n := (0, 0)) (tgt := 68) dX7_cutTask_14 rfl (fun hc => absurd hc (by omega)) (fun hc => ?_)
          refine Ev.aload_n (pc := 17) (n := (0, 0)) (i := 0) dX7_cutTask_17 rfl rfl ?_
          refine Ev.iload_n (pc := 18) (n := (0, 0)) (i := 2) dX7_cutTask_18 rfl rfl ?_
          refine Ev.iconst (pc := 19) (n := (0, 0)) dX7_cutTask_19 ?_
          refine Ev.callV (pc := 20) (n := (0, 0)) (ob := 260) (as := [zi (k : Int), zi 5]) (st := []) (s_ofF hR ⟨by omega, by omega⟩ ⟨by decide, by decide⟩) dX7_cutTask_20 ok_X7_of (lk_X7_49 rfl) ⟨(Nat.le_of_ble_eq_true rfl), (Nat.le_of_ble_eq_true rfl)⟩ (zk_at hR.1 rfl) ⟨by decide, rfl⟩ rfl (Nat.le_of_ble_eq_true rfl) (Nat.le_of_ble_eq_true rfl) ⟨(Nat.le_of_ble_eq_true rfl), (Nat.le_of_ble_eq_true rfl)⟩ ?_
          refine Ev.istore_n (pc := 23) (n := (0, 0)) (i := 3) (L' := [(3, zi (F (k : Int) 5)), (0, zr (some 260)), (1, zi now), (2, zi (k : Int))]) dX7_cutTask_23 rfl (Nat.le_of_ble_eq_true rfl) rfl ?_
          refine Ev.aload_n (pc := 24) (n := (0, 0)) (i := 0) dX7_cutTask_24 rfl rfl ?_
          refine Ev.iload_n (pc := 25) (n := (0, 0)) (i := 2) dX7_cutTask_25 rfl rfl ?_
          refine Ev.iconst (pc := 26) (n := (0, 0)) dX7_cutTask_26 ?_
          refine Ev.callV (pc := 27) (n := (0, 0)) (ob := 260) (as := [zi (k : Int), zi 1]) (st := []) (s_ofF hR ⟨by omega, by omega⟩ ⟨by decide, by decide⟩) dX7_cutTask_27 ok_X7_of (lk_X7_49 rfl) ⟨(Nat.le_of_ble_eq_true rfl), (Nat.le_of_ble_eq_true rfl)⟩ (zk_at hR.1 rfl) ⟨by decide, rfl⟩ rfl (Nat.le_of_ble_eq_true rfl) (Nat.le_of_ble_eq_true rfl) ⟨(Nat.le_of_ble_eq_true rfl), (Nat.le_of_ble_eq_true rfl)⟩ ?_
          refine Ev.iconst (pc := 30) (n := (0, 0)) dX7_cutTask_30 ?_
          refine Ev.icmp_ne (pc := 31) (n := (0, 0)) (tgt := 62) dX7_cutTask_31 rfl (fun hc2 => absurd h1 hc2) (fun hc2 => ?_)
          refine Ev.iload_n (pc := 34) (n := (0, 0)) (i := 3) dX7_cutTask_34 rfl rfl ?_
          refine Ev.if_le (pc := 35) (n := (0, 0)) (tgt := 62) dX7_cutTask_35 rfl (fun hc3 => absurd hc3 (by omega)) (fun hc3 => ?_)
          refine Ev.aload_n (pc := 38) (n := (0, 0)) (i := 0) dX7_cutTask_38 rfl rfl ?_
          refine Ev.aload_n (pc := 39) (n := (0, 0)) (i := 0) dX7_cutTask_39 rfl rfl ?_
          refine Ev.iload_n (pc := 40) (n := (0, 0)) (i := 2) dX7_cutTask_40 rfl rfl ?_
          refine Ev.iconst (pc := 41) (n := (0, 0)) dX7_cutTask_41 ?_
          refine Ev.callV (pc := 42) (n := (0, 0)) (ob := 260) (as := [zi (k : Int), zi 0]) (st := [zr (some 260)]) (s_ofF hR ⟨by omega, by omega⟩ ⟨by decide, by decide⟩) dX7_cutTask_42 ok_X7_of (lk_X7_49 rfl) ⟨(Nat.le_of_ble_eq_true rfl), (Nat.le_of_ble_eq_true rfl)⟩ (zk_at hR.1 rfl) ⟨by decide, rfl⟩ rfl (Nat.le_of_ble_eq_true rfl) (Nat.le_of_ble_eq_true rfl) ⟨(Nat.le_of_ble_eq_true rfl), (Nat.le_of_ble_eq_true rfl)⟩ ?_
          refine Ev.iload_n (pc := 45) (n := (0, 0)) (i := 3) dX7_cutTask_45 rfl rfl ?_
          refine Ev.iconst (pc := 46) (n := (0, 0)) dX7_cutTask_46 ?_
          refine Ev.isub (pc := 47) (n := (0, 0)) dX7_cutTask_47 ⟨by omega, by omega⟩ ?_
          refine Ev.callV (pc := 48) (n := (0, 0)) (ob := 260) (as := [zi (F (k : Int) 0), zi ((F (k : Int) 5) - 1)]) (st := []) (r) dX7_cutTask_48 ok_X7_endBy (lk_X7_195 rfl) ⟨(Nat.le_of_ble_eq_true rfl), (Nat.le_of_ble_eq_true rfl)⟩ (zk_at hR.1 rfl) ⟨by decide, rfl⟩ rfl (Nat.le_of_ble_eq_true rfl) (Nat.le_of_ble_eq_true rfl) ⟨(Nat.le_of_ble_eq_true rfl), (Nat.le_of_ble_eq_true rfl)⟩ ?_
          refine Ev.iload_n (pc := 51) (n := (0, 0)) (i := 1) dX7_cutTask_51 rfl rfl ?_
          refine Ev.icmp_ge (pc := 52) (n := (0, 0)) (tgt := 62) dX7_cutTask_52 rfl (fun hc4 => ?_) (fun hc4 => absurd hc4 (by omega))
          refine Ev.iinc (pc := 62) (n := (0, 0)) (L' := [(2, zi ((k : Int) + 1)), (3, zi (F (k : Int) 5)), (0, zr (some 260)), (1, zi now)]) dX7_cutTask_62 rfl (Nat.le_of_ble_eq_true rfl) ⟨by omega, by omega⟩ rfl ?_
          refine Ev.goto (pc := 65) (n := (0, 0)) (tgt := 7) dX7_cutTask_65 rfl ?_
          refine Ev.perm [2, 3, 0] rfl ?_
          exact r3
      · obtain ⟨I2, c, r1, r2, r3⟩ := ih (k + 1) I hn (by omega) (by omega)
        refine ⟨I2, c, r1, r2.skip (fun g => h2 g.2.1), ?_⟩
        refine Ev.iload_n (pc := 7) (n := (0, 0)) (i := 2) dX7_cutTask_7 rfl rfl ?_
        refine Ev.aload_n (pc := 8) (n := (0, 0)) (i := 0) dX7_cutTask_8 rfl rfl ?_
        refine Ev.gR (pc := 9) (n := (0, 0)) (r := (some 261)) dX7_cutTask_9 fl_X7_7 (zk_at hR.1 rfl) rfl hR.2.1 ?_
        refine Ev.iconst (pc := 12) (n := (0, 0)) dX7_cutTask_12 ?_
        refine Ev.ia (pc := 13) (n := (0, 0)) (x := (n : Int)) dX7_cutTask_13 (zk_at hR.1 rfl) (by omega) (by omega) ((zrw_x I F (by omega)).trans hn) ?_
        refine Ev.icmp_ge (pc := 14) (n := (0, 0)) (tgt := 68) dX7_cutTask_14 rfl (fun hc => absurd hc (by omega)) (fun hc => ?_)
        refine Ev.aload_n (pc := 17) (n := (0, 0)) (i := 0) dX7_cutTask_17 rfl rfl ?_
        refine Ev.iload_n (pc := 18) (n := (0, 0)) (i := 2) dX7_cutTask_18 rfl rfl ?_
        refine Ev.iconst (pc := 19) (n := (0, 0)) dX7_cutTask_19 ?_
        refine Ev.callV (pc := 20) (n := (0, 0)) (ob := 260) (as := [zi (k : Int), zi 5]) (st := []) (s_ofF hR ⟨by omega, by omega⟩ ⟨by decide, by decide⟩) dX7_cutTask_20 ok_X7_of (lk_X7_49 rfl) ⟨(Nat.le_of_ble_eq_true rfl), (Nat.le_of_ble_eq_true rfl)⟩ (zk_at hR.1 rfl) ⟨by decide, rfl⟩ rfl (Nat.le_of_ble_eq_true rfl) (Nat.le_of_ble_eq_true rfl) ⟨(Nat.le_of_ble_eq_true rfl), (Nat.le_of_ble_eq_true rfl)⟩ ?_
        refine Ev.istore_n (pc := 23) (n := (0, 0)) (i := 3) (L' := [(3, zi (F (k : Int) 5)), (0, zr (some 260)), (1, zi now), (2, zi (k : Int))]) dX7_cutTask_23 rfl (Nat.le_of_ble_eq_true rfl) rfl ?_
        refine Ev.aload_n (pc := 24) (n := (0, 0)) (i := 0) dX7_cutTask_24 rfl rfl ?_
        refine Ev.iload_n (pc := 25) (n := (0, 0)) (i := 2) dX7_cutTask_25 rfl rfl ?_
        refine Ev.iconst (pc := 26) (n := (0, 0)) dX7_cutTask_26 ?_
        refine Ev.callV (pc := 27) (n := (0, 0)) (ob := 260) (as := [zi (k : Int), zi 1]) (st := []) (s_ofF hR ⟨by omega, by omega⟩ ⟨by decide, by decide⟩) dX7_cutTask_27 ok_X7_of (lk_X7_49 rfl) ⟨(Nat.le_of_ble_eq_true rfl), (Nat.le_of_ble_eq_true rfl)⟩ (zk_at hR.1 rfl) ⟨by decide, rfl⟩ rfl (Nat.le_of_ble_eq_true rfl) (Nat.le_of_ble_eq_true rfl) ⟨(Nat.le_of_ble_eq_true rfl), (Nat.le_of_ble_eq_true rfl)⟩ ?_
        refine Ev.iconst (pc := 30) (n := (0, 0)) dX7_cutTask_30 ?_
        refine Ev.icmp_ne (pc := 31) (n := (0, 0)) (tgt := 62) dX7_cutTask_31 rfl (fun hc2 => absurd h1 hc2) (fun hc2 => ?_)
        refine Ev.iload_n (pc := 34) (n := (0, 0)) (i := 3) dX7_cutTask_34 rfl rfl ?_
        refine Ev.if_le (pc := 35) (n := (0, 0)) (tgt := 62) dX7_cutTask_35 rfl (fun hc3 => ?_) (fun hc3 => absurd hc3 (by omega))
        refine Ev.iinc (pc := 62) (n := (0, 0)) (L' := [(2, zi ((k : Int) + 1)), (3, zi (F (k : Int) 5)), (0, zr (some 260)), (1, zi now)]) dX7_cutTask_62 rfl (Nat.le_of_ble_eq_true rfl) ⟨by omega, by omega⟩ rfl ?_
        refine Ev.goto (pc := 65) (n := (0, 0)) (tgt := 7) dX7_cutTask_65 rfl ?_
        refine Ev.perm [2, 3, 0] rfl ?_
        exact r3
    · obtain ⟨I2, c, r1, r2, r3⟩ := ih (k + 1) I hn (by omega) (by omega)
      refine ⟨I2, c, r1, r2.skip (fun g => h1 g.1), ?_⟩
      refine Ev.iload_n (pc := 7) (n := (0, 0)) (i := 2) dX7_cutTask_7 rfl rfl ?_
      refine Ev.aload_n (pc := 8) (n := (0, 0)) (i := 0) dX7_cutTask_8 rfl rfl ?_
      refine Ev.gR (pc := 9) (n := (0, 0)) (r := (some 261)) dX7_cutTask_9 fl_X7_7 (zk_at hR.1 rfl) rfl hR.2.1 ?_
      refine Ev.iconst (pc := 12) (n := (0, 0)) dX7_cutTask_12 ?_
      refine Ev.ia (pc := 13) (n := (0, 0)) (x := (n : Int)) dX7_cutTask_13 (zk_at hR.1 rfl) (by omega) (by omega) ((zrw_x I F (by omega)).trans hn) ?_
      refine Ev.icmp_ge (pc := 14) (n := (0, 0)) (tgt := 68) dX7_cutTask_14 rfl (fun hc => absurd hc (by omega)) (fun hc => ?_)
      refine Ev.aload_n (pc := 17) (n := (0, 0)) (i := 0) dX7_cutTask_17 rfl rfl ?_
      refine Ev.iload_n (pc := 18) (n := (0, 0)) (i := 2) dX7_cutTask_18 rfl rfl ?_
      refine Ev.iconst (pc := 19) (n := (0, 0)) dX7_cutTask_19 ?_
      refine Ev.callV (pc := 20) (n := (0, 0)) (ob := 260) (as := [zi (k : Int), zi 5]) (st := []) (s_ofF hR ⟨by omega, by omega⟩ ⟨by decide, by decide⟩) dX7_cutTask_20 ok_X7_of (lk_X7_49 rfl) ⟨(Nat.le_of_ble_eq_true rfl), (Nat.le_of_ble_eq_true rfl)⟩ (zk_at hR.1 rfl) ⟨by decide, rfl⟩ rfl (Nat.le_of_ble_eq_true rfl) (Nat.le_of_ble_eq_true rfl) ⟨(Nat.le_of_ble_eq_true rfl), (Nat.le_of_ble_eq_true rfl)⟩ ?_
      refine Ev.istore_n (pc := 23) (n := (0, 0)) (i := 3) (L' := [(3, zi (F (k : Int) 5)), (0, zr (some 260)), (1, zi now), (2, zi (k : Int))]) dX7_cutTask_23 rfl (Nat.le_of_ble_eq_true rfl) rfl ?_
      refine Ev.aload_n (pc := 24) (n := (0, 0)) (i := 0) dX7_cutTask_24 rfl rfl ?_
      refine Ev.iload_n (pc := 25) (n := (0, 0)) (i := 2) dX7_cutTask_25 rfl rfl ?_
      refine Ev.iconst (pc := 26) (n := (0, 0)) dX7_cutTask_26 ?_
      refine Ev.callV (pc := 27) (n := (0, 0)) (ob := 260) (as := [zi (k : Int), zi 1]) (st := []) (s_ofF hR ⟨by omega, by omega⟩ ⟨by decide, by decide⟩) dX7_cutTask_27 ok_X7_of (lk_X7_49 rfl) ⟨(Nat.le_of_ble_eq_true rfl), (Nat.le_of_ble_eq_true rfl)⟩ (zk_at hR.1 rfl) ⟨by decide, rfl⟩ rfl (Nat.le_of_ble_eq_true rfl) (Nat.le_of_ble_eq_true rfl) ⟨(Nat.le_of_ble_eq_true rfl), (Nat.le_of_ble_eq_true rfl)⟩ ?_
      refine Ev.iconst (pc := 30) (n := (0, 0)) dX7_cutTask_30 ?_
      refine Ev.icmp_ne (pc := 31) (n := (0, 0)) (tgt := 62) dX7_cutTask_31 rfl (fun hc2 => ?_) (fun hc2 => absurd hc2 h1)
      refine Ev.iinc (pc := 62) (n := (0, 0)) (L' := [(2, zi ((k : Int) + 1)), (3, zi (F (k : Int) 5)), (0, zr (some 260)), (1, zi now)]) dX7_cutTask_62 rfl (Nat.le_of_ble_eq_true rfl) ⟨by omega, by omega⟩ rfl ?_
      refine Ev.goto (pc := 65) (n := (0, 0)) (tgt := 7) dX7_cutTask_65 rfl ?_
      refine Ev.perm [2, 3, 0] rfl ?_
      exact r3
theorem s_cutTask {h : zH} {I : Nat → Int → Int} {F : zF} (hR : zRM h) {n : Nat} (hn : I 261 0 = n) (hn24 : n ≤ 24) {dep : Nat → Nat} {B : Int} (hw : WF n F dep B) (hB : 24 * (60 + B) ≤ 1000000000) {len st sl dp : Int → Int} (hl : IsLen n F len) (ht : IsTm n F len st sl dp) {C : Nat → Int} (hC : IsCuts n F dep B C) : ∃ (I2 : Nat → Int → Int) (c : Int), zKeep I I2 ∧ IsCut n F C (len 0) 0 c ∧ Ev M_X7_cutTask 0 [(0, zr (some 260))] [] (h.1, zrw I F, h.2.2) (0, 0) (.inl (some (zi c)), (h.1, zrw I2 F, h.2.2)) := by
  obtain ⟨I2, hL, r⟩ := s_endF (I := I) hR hn hn24 hw hB hl ht
  obtain ⟨I3, c, r1, r2, r3⟩ := s_cut_loop hR hn24 (now := len 0) hw hB hC n 0 I2 (hL.keep.x (by omega) hn) (by omega) (by omega)
  refine ⟨I3, c, hL.keep.trans r1, r2, ?_⟩
  refine Ev.aload_n (pc := 0) (n := (0, 0)) (i := 0) dX7_cutTask_0 rfl rfl ?_
  refine Ev.callV (pc := 1) (n := (0, 0)) (ob := 260) (as := []) (st := []) (r) dX7_cutTask_1 ok_X7_end (lk_X7_87 rfl) ⟨(Nat.le_of_ble_eq_true rfl), (Nat.le_of_ble_eq_true rfl)⟩ (zk_at hR.1 rfl) ⟨by decide, rfl⟩ rfl (Nat.le_of_ble_eq_true rfl) (Nat.le_of_ble_eq_true rfl) ⟨(Nat.le_of_ble_eq_true rfl), (Nat.le_of_ble_eq_true rfl)⟩ ?_
  refine Ev.istore_n (pc := 4) (n := (0, 0)) (i := 1) (L' := [(1, zi (len 0)), (0, zr (some 260))]) dX7_cutTask_4 rfl (Nat.le_of_ble_eq_true rfl) rfl ?_
  refine Ev.iconst (pc := 5) (n := (0, 0)) dX7_cutTask_5 ?_
  refine Ev.istore_n (pc := 6) (n := (0, 0)) (i := 2) (L' := [(2, zi 0), (1, zi (len 0)), (0, zr (some 260))]) dX7_cutTask_6 rfl (Nat.le_of_ble_eq_true rfl) rfl ?_
  refine Ev.perm [2, 1, 0] rfl ?_
  exact r3
theorem s_bestCut {h : zH} {I : Nat → Int → Int} {F : zF} (hR : zRM h) {n : Nat} (hn : I 261 0 = n) (hn24 : n ≤ 24) {dep : Nat → Nat} {B : Int} (hw : WF n F dep B) (hB : 24 * (60 + B) ≤ 1000000000) {len st sl dp : Int → Int} (hl : IsLen n F len) (ht : IsTm n F len st sl dp) {C : Nat → Int} (hC : IsCuts n F dep B C) : ∃ (I2 : Nat → Int → Int) (c : Int), zKeep (zup I 260 2 0) I2 ∧ IsCut n F C (len 0) 0 c ∧ Ev M_X7_bestCut 0 [(0, zr (some 260))] [] (h.1, zrw I F, h.2.2) (0, 0) (.inl (some (zi c)), (h.1, zrw I2 F, h.2.2)) := by
  have hn0 : zup I 260 2 0 261 0 = n := (zup_o _ _ _ _ (by decide)).trans hn
  obtain ⟨I2, c, r1, r2, r3⟩ := s_cutTask (I := (zup I 260 2 0)) hR hn0 hn24 hw hB hl ht hC
  refine ⟨I2, c, r1, r2, ?_⟩
  refine Ev.aload_n (pc := 0) (n := (0, 0)) (i := 0) dX7_bestCut_0 rfl rfl ?_
  refine Ev.iconst (pc := 1) (n := (0, 0)) dX7_bestCut_1 ?_
  refine Ev.putI (pc := 2) (n := (0, 0)) dX7_bestCut_2 fl_X7_57 (zk_at hR.1 rfl) rfl rfl (fun h9 => by cases h9) ?_
  refine Ev.hpeq (h' := (h.1, zrw (zup I 260 2 0) F, h.2.2)) (congrArg (fun I9 => (h.1, I9, h.2.2)) (zrw_up2 I F (x := 2) (v := 0) (a := 260) (by decide))) ?_
  refine Ev.aload_n (pc := 5) (n := (0, 0)) (i := 0) dX7_bestCut_5 rfl rfl ?_
  refine Ev.callV (pc := 6) (n := (0, 0)) (ob := 260) (as := []) (st := []) (r3) dX7_bestCut_6 ok_X7_cutTask (lk_X7_198 rfl) ⟨(Nat.le_of_ble_eq_true rfl), (Nat.le_of_ble_eq_true rfl)⟩ (zk_at hR.1 rfl) ⟨by decide, rfl⟩ rfl (Nat.le_of_ble_eq_true rfl) (Nat.le_of_ble_eq_true rfl) ⟨(Nat.le_of_ble_eq_true rfl), (Nat.le_of_ble_eq_true rfl)⟩ ?_
  exact Ev.iret dX7_bestCut_9 rfl ⟨(Nat.le_of_ble_eq_true rfl), (Nat.le_of_ble_eq_true rfl)⟩
theorem s_slackIf_no {h : zH} {I : Nat → Int → Int} {F : zF} (hR : zRM h) {n : Nat} (hn : I 261 0 = n) (hn24 : n ≤ 24) {x y : Int} (hw0 : ¬ (if (if zpos n F x = -1 then 1 else wTask n F y 1) = 3 then 2 else (if zpos n F x = -1 then 1 else wTask n F y 1)) = 0) : Ev M_X7_slackIf 0 [(0, zr (some 260)), (1, zi x), (2, zi y)] [] (h.1, zrw I F, h.2.2) (0, 0) (.inl (some (zi 0)), (h.1, zrw (zup I 260 2 (if (if zpos n F x = -1 then 1 else wTask n F y 1) = 3 then 2 else (if zpos n F x = -1 then 1 else wTask n F y 1))) F, h.2.2)) := by
  by_cases h1 : zpos n F x = -1
  · skip
    rw [if_pos h1]
    refine Ev.aload_n (pc := 0) (n := (0, 0)) (i := 0) dX7_slackIf_0 rfl rfl ?_
    refine Ev.aload_n (pc := 1) (n := (0, 0)) (i := 0) dX7_slackIf_1 rfl rfl ?_
    refine Ev.iload_n (pc := 2) (n := (0, 0)) (i := 1) dX7_slackIf_2 rfl rfl ?_
    refine Ev.callV (pc := 3) (n := (0, 0)) (ob := 260) (as := [zi x]) (st := [zr (some 260)]) (s_findF hR hn hn24) dX7_slackIf_3 ok_X7_find (lk_X7_53 rfl) ⟨(Nat.le_of_ble_eq_true rfl), (Nat.le_of_ble_eq_true rfl)⟩ (zk_at hR.1 rfl) ⟨by decide, rfl⟩ rfl (Nat.le_of_ble_eq_true rfl) (Nat.le_of_ble_eq_true rfl) ⟨(Nat.le_of_ble_eq_true rfl), (Nat.le_of_ble_eq_true rfl)⟩ ?_
    refine Ev.iconst (pc := 6) (n := (0, 0)) dX7_slackIf_6 ?_
    refine Ev.icmp_ne (pc := 7) (n := (0, 0)) (tgt := 14) dX7_slackIf_7 rfl (fun hc => absurd h1 hc) (fun hc => ?_)
    refine Ev.iconst (pc := 10) (n := (0, 0)) dX7_slackIf_10 ?_
    refine Ev.goto (pc := 11) (n := (0, 0)) (tgt := 20) dX7_slackIf_11 rfl ?_
    refine Ev.callV (pc := 20) (n := (0, 0)) (ob := 260) (as := [zi 1]) (st := []) (s_barF (I := I) hR 1) dX7_slackIf_20 ok_X7_isBarred (lk_X7_134 rfl) ⟨(Nat.le_of_ble_eq_true rfl), (Nat.le_of_ble_eq_true rfl)⟩ (zk_at hR.1 rfl) ⟨by decide, rfl⟩ rfl (Nat.le_of_ble_eq_true rfl) (Nat.le_of_ble_eq_true rfl) ⟨(Nat.le_of_ble_eq_true rfl), (Nat.le_of_ble_eq_true rfl)⟩ ?_
    rw [if_neg (by decide : ¬ (1 : Int) = 3)]
    rw [if_neg (by decide : ¬ (1 : Int) = 0)]
    refine Ev.if_eq (pc := 23) (n := (0, 0)) (tgt := 28) dX7_slackIf_23 rfl (fun hc9 => absurd hc9 (by decide)) (fun hc9 => ?_)
    refine Ev.iconst (pc := 26) (n := (0, 0)) dX7_slackIf_26 ?_
    exact Ev.iret dX7_slackIf_27 rfl ⟨(Nat.le_of_ble_eq_true rfl), (Nat.le_of_ble_eq_true rfl)⟩
  · skip
    rw [if_neg h1] at hw0 ⊢
    refine Ev.aload_n (pc := 0) (n := (0, 0)) (i := 0) dX7_slackIf_0 rfl rfl ?_
    refine Ev.aload_n (pc := 1) (n := (0, 0)) (i := 0) dX7_slackIf_1 rfl rfl ?_
    refine Ev.iload_n (pc := 2) (n := (0, 0)) (i := 1) dX7_slackIf_2 rfl rfl ?_
    refine Ev.callV (pc := 3) (n := (0, 0)) (ob := 260) (as := [zi x]) (st := [zr (some 260)]) (s_findF hR hn hn24) dX7_slackIf_3 ok_X7_find (lk_X7_53 rfl) ⟨(Nat.le_of_ble_eq_true rfl), (Nat.le_of_ble_eq_true rfl)⟩ (zk_at hR.1 rfl) ⟨by decide, rfl⟩ rfl (Nat.le_of_ble_eq_true rfl) (Nat.le_of_ble_eq_true rfl) ⟨(Nat.le_of_ble_eq_true rfl), (Nat.le_of_ble_eq_true rfl)⟩ ?_
    refine Ev.iconst (pc := 6) (n := (0, 0)) dX7_slackIf_6 ?_
    refine Ev.icmp_ne (pc := 7) (n := (0, 0)) (tgt := 14) dX7_slackIf_7 rfl (fun hc => ?_) (fun hc => absurd hc h1)
    refine Ev.aload_n (pc := 14) (n := (0, 0)) (i := 0) dX7_slackIf_14 rfl rfl ?_
    refine Ev.iload_n (pc := 15) (n := (0, 0)) (i := 2) dX7_slackIf_15 rfl rfl ?_
    refine Ev.iconst (pc := 16) (n := (0, 0)) dX7_slackIf_16 ?_
    refine Ev.callV (pc := 17) (n := (0, 0)) (ob := 260) (as := [zi y, zi 1]) (st := [zr (some 260)]) (s_whyNotTask hR hn hn24) dX7_slackIf_17 ok_X7_whyNotTask (lk_X7_140 rfl) ⟨(Nat.le_of_ble_eq_true rfl), (Nat.le_of_ble_eq_true rfl)⟩ (zk_at hR.1 rfl) ⟨by decide, rfl⟩ rfl (Nat.le_of_ble_eq_true rfl) (Nat.le_of_ble_eq_true rfl) ⟨(Nat.le_of_ble_eq_true rfl), (Nat.le_of_ble_eq_true rfl)⟩ ?_
    refine Ev.callV (pc := 20) (n := (0, 0)) (ob := 260) (as := [zi (wTask n F y 1)]) (st := []) (s_barF (I := I) hR (wTask n F y 1)) dX7_slackIf_20 ok_X7_isBarred (lk_X7_134 rfl) ⟨(Nat.le_of_ble_eq_true rfl), (Nat.le_of_ble_eq_true rfl)⟩ (zk_at hR.1 rfl) ⟨by decide, rfl⟩ rfl (Nat.le_of_ble_eq_true rfl) (Nat.le_of_ble_eq_true rfl) ⟨(Nat.le_of_ble_eq_true rfl), (Nat.le_of_ble_eq_true rfl)⟩ ?_
    rw [if_neg hw0]
    refine Ev.if_eq (pc := 23) (n := (0, 0)) (tgt := 28) dX7_slackIf_23 rfl (fun hc9 => absurd hc9 (by decide)) (fun hc9 => ?_)
    refine Ev.iconst (pc := 26) (n := (0, 0)) dX7_slackIf_26 ?_
    exact Ev.iret dX7_slackIf_27 rfl ⟨(Nat.le_of_ble_eq_true rfl), (Nat.le_of_ble_eq_true rfl)⟩
theorem s_slackIf {h : zH} {I : Nat → Int → Int} {F : zF} (hR : zRM h) {n : Nat} (hn : I 261 0 = n) (hn24 : n ≤ 24) {dep : Nat → Nat} {B : Int} (hw : WF n F dep B) (hB : 24 * (60 + B) ≤ 1000000000) {len st sl dp : Int → Int} (hl : IsLen n F len) (ht : IsTm n F len st sl dp) {i k : Nat} {x y : Int} (hfx : zpos n F x = i) (hfy : zpos n F y = k) {dep3 : Nat → Nat} {B3 : Int} (hw3 : WF n (fup F k 6 (F k 6 + sl k)) dep3 B3) (hB3 : 24 * (60 + B3) ≤ 1000000000) {len3 st3 sl3 dp3 : Int → Int} (hl3 : IsLen n (fup F k 6 (F k 6 + sl k)) len3) (ht3 : IsTm n (fup F k 6 (F k 6 + sl k)) len3 st3 sl3 dp3) (hw0 : wTask n F y 1 = 0) : ∃ I2 : Nat → Int → Int, zKeep (zup I 260 2 0) I2 ∧ Ev M_X7_slackIf 0 [(0, zr (some 260)), (1, zi x), (2, zi y)] [] (h.1, zrw I F, h.2.2) (0, 0) (.inl (some (zi (sl3 i))), (h.1, zrw I2 F, h.2.2)) := by
  have hn0 : zup I 260 2 0 261 0 = n := (zup_o _ _ _ _ (by decide)).trans hn
  have h1 : ¬ zpos n F x = -1 := by omega
  have hi := (zpos_num hfx).1
  have hk := (zpos_num hfy).1
  have b := hw.2.2.2.1 k hk
  have b2 := ht.bd hw hl k hk
  have b3 := hl.bd hw k hk
  have b4 : 0 ≤ len 0 ∧ len 0 ≤ mtot n F := hl.bd hw 0 (by omega)
  have hm := mtot_le hw
  obtain ⟨k4, _, hf4, hT4, _⟩ := wTask_pos hw0
  have hk4 : k4 = k := by have := hfy.symm.trans hf4; omega
  have hT : F k 1 = 1 := hk4 ▸ hT4
  have hlk : len k = F k 5 + F k 6 := (hl k hk).trans (if_pos hT)
  have hzi : zpos n (fup F k 6 (F k 6 + sl k)) x = i := (zfnd_congr (fun j hj => if_neg (fun g => absurd g.2 (by decide)))).trans hfx
  obtain ⟨I1, hL, r⟩ := s_slackOfF (I := (zup I 260 2 0)) hR hn0 hn24 hw hB hl ht hk hfy
  have hn1 : I1 261 0 = n := hL.keep.x (by omega) hn0
  have hnP : (zcp (zrw I1 F) 0 855 171) 261 0 = n := by rw [zcp_out _ _ _ _ (by omega), zrw_x _ _ (by omega)]; exact hn1
  obtain ⟨J, hL3, r3⟩ := s_slackOfF (I := (zcp (zrw I1 F) 0 855 171)) (F := (fup F k 6 (F k 6 + sl k))) hR hnP hn24 hw3 hB3 hl3 ht3 hi hzi
  obtain ⟨I2, hI2, e2⟩ := aside (F' := (fup F k 6 (F k 6 + sl k))) rfl hL3.keep (fun x _ => congrFun (hL3.1 261 (by decide)) x)
  refine ⟨I2, hL.keep.trans hI2, ?_⟩
  refine Ev.aload_n (pc := 0) (n := (0, 0)) (i := 0) dX7_slackIf_0 rfl rfl ?_
  refine Ev.aload_n (pc := 1) (n := (0, 0)) (i := 0) dX7_slackIf_1 rfl rfl ?_
  refine Ev.iload_n (pc := 2) (n := (0, 0)) (i := 1) dX7_slackIf_2 rfl rfl ?_
  refine Ev.callV (pc := 3) (n := (0, 0)) (ob := 260) (as := [zi x]) (st := [zr (some 260)]) (s_findF hR hn hn24) dX7_slackIf_3 ok_X7_find (lk_X7_53 rfl) ⟨(Nat.le_of_ble_eq_true rfl), (Nat.le_of_ble_eq_true rfl)⟩ (zk_at hR.1 rfl) ⟨by decide, rfl⟩ rfl (Nat.le_of_ble_eq_true rfl) (Nat.le_of_ble_eq_true rfl) ⟨(Nat.le_of_ble_eq_true rfl), (Nat.le_of_ble_eq_true rfl)⟩ ?_
  refine Ev.iconst (pc := 6) (n := (0, 0)) dX7_slackIf_6 ?_
  refine Ev.icmp_ne (pc := 7) (n := (0, 0)) (tgt := 14) dX7_slackIf_7 rfl (fun hc => ?_) (fun hc => absurd hc h1)
  refine Ev.aload_n (pc := 14) (n := (0, 0)) (i := 0) dX7_slackIf_14 rfl rfl ?_
  refine Ev.iload_n (pc := 15) (n := (0, 0)) (i := 2) dX7_slackIf_15 rfl rfl ?_
  refine Ev.iconst (pc := 16) (n := (0, 0)) dX7_slackIf_16 ?_
  refine Ev.callV (pc := 17) (n := (0, 0)) (ob := 260) (as := [zi y, zi 1]) (st := [zr (some 260)]) (s_whyNotTask hR hn hn24) dX7_slackIf_17 ok_X7_whyNotTask (lk_X7_140 rfl) ⟨(Nat.le_of_ble_eq_true rfl), (Nat.le_of_ble_eq_true rfl)⟩ (zk_at hR.1 rfl) ⟨by decide, rfl⟩ rfl (Nat.le_of_ble_eq_true rfl) (Nat.le_of_ble_eq_true rfl) ⟨(Nat.le_of_ble_eq_true rfl), (Nat.le_of_ble_eq_true rfl)⟩ ?_
  refine Ev.callV (pc := 20) (n := (0, 0)) (ob := 260) (as := [zi (wTask n F y 1)]) (st := []) (s_barF (I := I) hR (wTask n F y 1)) dX7_slackIf_20 ok_X7_isBarred (lk_X7_134 rfl) ⟨(Nat.le_of_ble_eq_true rfl), (Nat.le_of_ble_eq_true rfl)⟩ (zk_at hR.1 rfl) ⟨by decide, rfl⟩ rfl (Nat.le_of_ble_eq_true rfl) (Nat.le_of_ble_eq_true rfl) ⟨(Nat.le_of_ble_eq_true rfl), (Nat.le_of_ble_eq_true rfl)⟩ ?_
  rw [hw0, if_neg (by decide : ¬ (0 : Int) = 3)]
  rw [if_pos (rfl : (0 : Int) = 0)]
  refine Ev.if_eq (pc := 23) (n := (0, 0)) (tgt := 28) dX7_slackIf_23 rfl (fun hc9 => ?_) (fun hc9 => absurd rfl hc9)
  refine Ev.aload_n (pc := 28) (n := (0, 0)) (i := 0) dX7_slackIf_28 rfl rfl ?_
  refine Ev.iload_n (pc := 29) (n := (0, 0)) (i := 2) dX7_slackIf_29 rfl rfl ?_
  refine Ev.callV (pc := 30) (n := (0, 0)) (ob := 260) (as := [zi y]) (st := []) (r) dX7_slackIf_30 ok_X7_slackOf (lk_X7_147 rfl) ⟨(Nat.le_of_ble_eq_true rfl), (Nat.le_of_ble_eq_true rfl)⟩ (zk_at hR.1 rfl) ⟨by decide, rfl⟩ rfl (Nat.le_of_ble_eq_true rfl) (Nat.le_of_ble_eq_true rfl) ⟨(Nat.le_of_ble_eq_true rfl), (Nat.le_of_ble_eq_true rfl)⟩ ?_
  refine Ev.istore_n (pc := 33) (n := (0, 0)) (i := 3) (L' := [(3, zi (sl (k : Int))), (0, zr (some 260)), (1, zi x), (2, zi y)]) dX7_slackIf_33 rfl (Nat.le_of_ble_eq_true rfl) rfl ?_
  refine Ev.aload_n (pc := 34) (n := (0, 0)) (i := 0) dX7_slackIf_34 rfl rfl ?_
  refine Ev.callV (pc := 35) (n := (0, 0)) (ob := 260) (as := []) (st := []) (s_putAside hR) dX7_slackIf_35 ok_X7_putAside (lk_X7_189 rfl) ⟨(Nat.le_of_ble_eq_true rfl), (Nat.le_of_ble_eq_true rfl)⟩ (zk_at hR.1 rfl) ⟨by decide, rfl⟩ rfl (Nat.le_of_ble_eq_true rfl) (Nat.le_of_ble_eq_true rfl) ⟨(Nat.le_of_ble_eq_true rfl), (Nat.le_of_ble_eq_true rfl)⟩ ?_
  refine Ev.aload_n (pc := 38) (n := (0, 0)) (i := 0) dX7_slackIf_38 rfl rfl ?_
  refine Ev.iload_n (pc := 39) (n := (0, 0)) (i := 2) dX7_slackIf_39 rfl rfl ?_
  refine Ev.iload_n (pc := 40) (n := (0, 0)) (i := 3) dX7_slackIf_40 rfl rfl ?_
  refine Ev.callV (pc := 41) (n := (0, 0)) (ob := 260) (as := [zi y, zi (sl (k : Int))]) (st := []) (s_reserves hR hnP hn24 hk hfy (by omega)) dX7_slackIf_41 ok_X7_reserves (lk_X7_153 rfl) ⟨(Nat.le_of_ble_eq_true rfl), (Nat.le_of_ble_eq_true rfl)⟩ (zk_at hR.1 rfl) ⟨by decide, rfl⟩ rfl (Nat.le_of_ble_eq_true rfl) (Nat.le_of_ble_eq_true rfl) ⟨(Nat.le_of_ble_eq_true rfl), (Nat.le_of_ble_eq_true rfl)⟩ ?_
  refine Ev.pop (pc := 44) (n := (0, 0)) dX7_slackIf_44 rfl ?_
  refine Ev.aload_n (pc := 45) (n := (0, 0)) (i := 0) dX7_slackIf_45 rfl rfl ?_
  refine Ev.iload_n (pc := 46) (n := (0, 0)) (i := 1) dX7_slackIf_46 rfl rfl ?_
  refine Ev.callV (pc := 47) (n := (0, 0)) (ob := 260) (as := [zi x]) (st := []) (r3) dX7_slackIf_47 ok_X7_slackOf (lk_X7_147 rfl) ⟨(Nat.le_of_ble_eq_true rfl), (Nat.le_of_ble_eq_true rfl)⟩ (zk_at hR.1 rfl) ⟨by decide, rfl⟩ rfl (Nat.le_of_ble_eq_true rfl) (Nat.le_of_ble_eq_true rfl) ⟨(Nat.le_of_ble_eq_true rfl), (Nat.le_of_ble_eq_true rfl)⟩ ?_
  refine Ev.istore (pc := 50) (n := (0, 0)) (i := 4) (L' := [(4, zi (sl3 (i : Int))), (3, zi (sl (k : Int))), (0, zr (some 260)), (1, zi x), (2, zi y)]) dX7_slackIf_50 (Nat.le_of_ble_eq_true rfl) rfl ?_
  refine Ev.aload_n (pc := 52) (n := (0, 0)) (i := 0) dX7_slackIf_52 rfl rfl ?_
  refine Ev.callV (pc := 53) (n := (0, 0)) (ob := 260) (as := []) (st := []) (s_comesBack hR) dX7_slackIf_53 ok_X7_comesBack (lk_X7_192 rfl) ⟨(Nat.le_of_ble_eq_true rfl), (Nat.le_of_ble_eq_true rfl)⟩ (zk_at hR.1 rfl) ⟨by decide, rfl⟩ rfl (Nat.le_of_ble_eq_true rfl) (Nat.le_of_ble_eq_true rfl) ⟨(Nat.le_of_ble_eq_true rfl), (Nat.le_of_ble_eq_true rfl)⟩ ?_
  rw [e2]
  refine Ev.iload (pc := 56) (n := (0, 0)) dX7_slackIf_56 rfl ?_
  exact Ev.iret dX7_slackIf_58 rfl ⟨(Nat.le_of_ble_eq_true rfl), (Nat.le_of_ble_eq_true rfl)⟩
