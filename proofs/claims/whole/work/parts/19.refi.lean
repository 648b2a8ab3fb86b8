/-- nothing but what is worked with has changed -/
def zKeep (I I2 : Nat → Int → Int) : Prop := (∀ o, o < 261 ∨ o = 262 ∨ 271 ≤ o → I2 o = I o) ∧ ∀ x : Int, x < 3 ∨ (171 ≤ x ∧ x < 855) → I2 261 x = I 261 x
theorem Ev.hpeq {y : zM} {pc : Nat} {L : List (Nat × zV)} {st : List zV} {h h' : zH} {n : Nat × Nat} {o : zO} (e : h = h') (k : Ev y pc L st h' n o) : Ev y pc L st h n o := e ▸ k
theorem zKeep.rfl' (I : Nat → Int → Int) : zKeep I I := ⟨fun _ _ => rfl, fun _ _ => rfl⟩
theorem zKeep.trans {I I2 I3 : Nat → Int → Int} (h1 : zKeep I I2) (h2 : zKeep I2 I3) : zKeep I I3 := ⟨fun o ho => (h2.1 o ho).trans (h1.1 o ho), fun x hx => (h2.2 x hx).trans (h1.2 x hx)⟩
theorem zLaid.keep {I I2 : Nat → Int → Int} {n : Nat} {len st sl dp : Int → Int} (h : zLaid I I2 n len st sl dp) : zKeep I I2 := ⟨fun o ho => h.1 o (by omega), fun x _ => congrFun (h.1 261 (by decide)) x⟩
theorem zKeep.x {I I2 : Nat → Int → Int} (h : zKeep I I2) {x v : Int} (hx : x < 3) (e : I 261 x = v) : I2 261 x = v := (h.2 x (Or.inl hx)).trans e
theorem s_node_no {h : zH} {I : Nat → Int → Int} {F : zF} (hR : zRM h) {n : Nat} (hn : I 261 0 = n) (hn24 : n ≤ 24) {x w : Int} (hw0 : ¬ (if zpos n F x = -1 then 1 else if 0 ≤ w ∧ w ≤ 12 then 0 else 2) = 0) : Ev M_X7_node 0 [(0, zr (some 260)), (1, zi x), (2, zi w)] [] (h.1, zrw I F, h.2.2) (0, 0) (.inl (some (zi 0)), (h.1, zrw (zup I 260 2 (if zpos n F x = -1 then 1 else if 0 ≤ w ∧ w ≤ 12 then 0 else 2)) F, h.2.2)) := by
  by_cases h1 : zpos n F x = -1
  · skip
    rw [if_pos h1]
    refine Ev.aload_n (pc := 0) (n := (0, 0)) (i := 0) dX7_node_0 rfl rfl ?_
    refine Ev.aload_n (pc := 1) (n := (0, 0)) (i := 0) dX7_node_1 rfl rfl ?_
    refine Ev.iload_n (pc := 2) (n := (0, 0)) (i := 1) dX7_node_2 rfl rfl ?_
    refine Ev.callV (pc := 3) (n := (0, 0)) (ob := 260) (as := [zi x]) (st := [zr (some 260)]) (s_findF hR hn hn24) dX7_node_3 ok_X7_find (lk_X7_53 rfl) ⟨(Nat.le_of_ble_eq_true rfl), (Nat.le_of_ble_eq_true rfl)⟩ (zk_at hR.1 rfl) ⟨by decide, rfl⟩ rfl (Nat.le_of_ble_eq_true rfl) (Nat.le_of_ble_eq_true rfl) ⟨(Nat.le_of_ble_eq_true rfl), (Nat.le_of_ble_eq_true rfl)⟩ ?_
    refine Ev.iconst (pc := 6) (n := (0, 0)) dX7_node_6 ?_
    refine Ev.icmp_ne (pc := 7) (n := (0, 0)) (tgt := 14) dX7_node_7 rfl (fun hc => absurd h1 hc) (fun hc => ?_)
    refine Ev.iconst (pc := 10) (n := (0, 0)) dX7_node_10 ?_
    refine Ev.goto (pc := 11) (n := (0, 0)) (tgt := 29) dX7_node_11 rfl ?_
    refine Ev.callV (pc := 29) (n := (0, 0)) (ob := 260) (as := [zi 1]) (st := []) (s_refF hR 1) dX7_node_29 ok_X7_isRefused (lk_X7_60 rfl) ⟨(Nat.le_of_ble_eq_true rfl), (Nat.le_of_ble_eq_true rfl)⟩ (zk_at hR.1 rfl) ⟨by decide, rfl⟩ rfl (Nat.le_of_ble_eq_true rfl) (Nat.le_of_ble_eq_true rfl) ⟨(Nat.le_of_ble_eq_true rfl), (Nat.le_of_ble_eq_true rfl)⟩ ?_
    rw [if_neg (by decide : ¬ (1 : Int) = 0)]
    refine Ev.if_eq (pc := 32) (n := (0, 0)) (tgt := 37) dX7_node_32 rfl (fun hc9 => absurd hc9 (by decide)) (fun hc9 => ?_)
    refine Ev.iconst (pc := 35) (n := (0, 0)) dX7_node_35 ?_
    exact Ev.iret dX7_node_36 rfl ⟨(Nat.le_of_ble_eq_true rfl), (Nat.le_of_ble_eq_true rfl)⟩
  · skip
    have h2 : ¬ (0 ≤ w ∧ w ≤ 12) := fun e => hw0 (by rw [if_neg h1, if_pos e])
    rw [if_neg h1, if_neg h2]
    refine Ev.aload_n (pc := 0) (n := (0, 0)) (i := 0) dX7_node_0 rfl rfl ?_
    refine Ev.aload_n (pc := 1) (n := (0, 0)) (i := 0) dX7_node_1 rfl rfl ?_
    refine Ev.iload_n (pc := 2) (n := (0, 0)) (i := 1) dX7_node_2 rfl rfl ?_
    refine Ev.callV (pc := 3) (n := (0, 0)) (ob := 260) (as := [zi x]) (st := [zr (some 260)]) (s_findF hR hn hn24) dX7_node_3 ok_X7_find (lk_X7_53 rfl) ⟨(Nat.le_of_ble_eq_true rfl), (Nat.le_of_ble_eq_true rfl)⟩ (zk_at hR.1 rfl) ⟨by decide, rfl⟩ rfl (Nat.le_of_ble_eq_true rfl) (Nat.le_of_ble_eq_true rfl) ⟨(Nat.le_of_ble_eq_true rfl), (Nat.le_of_ble_eq_true rfl)⟩ ?_
    refine Ev.iconst (pc := 6) (n := (0, 0)) dX7_node_6 ?_
    refine Ev.icmp_ne (pc := 7) (n := (0, 0)) (tgt := 14) dX7_node_7 rfl (fun hc => ?_) (fun hc => absurd hc h1)
    refine Ev.iload_n (pc := 14) (n := (0, 0)) (i := 2) dX7_node_14 rfl rfl ?_
    refine Ev.iconst (pc := 15) (n := (0, 0)) dX7_node_15 ?_
    refine Ev.bipush (pc := 16) (n := (0, 0)) dX7_node_16 ?_
    refine Ev.callS (pc := 18) (n := (0, 0)) (as := [zi w, zi 0, zi 12]) (st := [zr (some 260)]) (s_in (h.1, zrw I F, h.2.2) w 0 12) dX7_node_18 ok_X7_in (lk_X7_91 rfl) ⟨(Nat.le_of_ble_eq_true rfl), (Nat.le_of_ble_eq_true rfl)⟩ rfl (Nat.le_of_ble_eq_true rfl) (Nat.le_of_ble_eq_true rfl) ⟨(Nat.le_of_ble_eq_true rfl), (Nat.le_of_ble_eq_true rfl)⟩ ?_
    rw [if_neg h2]
    refine Ev.if_eq (pc := 21) (n := (0, 0)) (tgt := 28) dX7_node_21 rfl (fun hc2 => ?_) (fun hc2 => absurd rfl hc2)
    refine Ev.iconst (pc := 28) (n := (0, 0)) dX7_node_28 ?_
    refine Ev.callV (pc := 29) (n := (0, 0)) (ob := 260) (as := [zi 2]) (st := []) (s_refF hR 2) dX7_node_29 ok_X7_isRefused (lk_X7_60 rfl) ⟨(Nat.le_of_ble_eq_true rfl), (Nat.le_of_ble_eq_true rfl)⟩ (zk_at hR.1 rfl) ⟨by decide, rfl⟩ rfl (Nat.le_of_ble_eq_true rfl) (Nat.le_of_ble_eq_true rfl) ⟨(Nat.le_of_ble_eq_true rfl), (Nat.le_of_ble_eq_true rfl)⟩ ?_
    rw [if_neg (by decide : ¬ (2 : Int) = 0)]
    refine Ev.if_eq (pc := 32) (n := (0, 0)) (tgt := 37) dX7_node_32 rfl (fun hc9 => absurd hc9 (by decide)) (fun hc9 => ?_)
    refine Ev.iconst (pc := 35) (n := (0, 0)) dX7_node_35 ?_
    exact Ev.iret dX7_node_36 rfl ⟨(Nat.le_of_ble_eq_true rfl), (Nat.le_of_ble_eq_true rfl)⟩
theorem s_node {h : zH} {I : Nat → Int → Int} {F : zF} (hR : zRM h) {n : Nat} (hn : I 261 0 = n) (hn24 : n ≤ 24) {dep : Nat → Nat} {B : Int} (hw : WF n F dep B) (hB : 24 * (60 + B) ≤ 1000000000) {len st sl dp : Int → Int} (hl : IsLen n F len) (ht : IsTm n F len st sl dp) {x w : Int} {k : Nat} (hf : zpos n F x = k) (h2 : 0 ≤ w ∧ w ≤ 12) : ∃ I2 : Nat → Int → Int, zLaid (zup I 260 2 0) I2 n len st sl dp ∧ Ev M_X7_node 0 [(0, zr (some 260)), (1, zi x), (2, zi w)] [] (h.1, zrw I F, h.2.2) (0, 0) (.inl (some (zi (mnode n F len st sl dp k w))), (h.1, zrw I2 F, h.2.2)) := by
  have h1 : ¬ zpos n F x = -1 := by omega
  have hk := (zpos_num hf).1
  have hn0 : zup I 260 2 0 261 0 = n := (zup_o _ _ _ _ (by decide)).trans hn
  obtain ⟨I2, hL, rl⟩ := s_layF (I := zup I 260 2 0) (F := F) hR hn0 hw hB hl ht
  have hn2 : I2 261 0 = n := hL.keep.x (by omega) hn0
  refine ⟨I2, hL, ?_⟩
  refine Ev.aload_n (pc := 0) (n := (0, 0)) (i := 0) dX7_node_0 rfl rfl ?_
  refine Ev.aload_n (pc := 1) (n := (0, 0)) (i := 0) dX7_node_1 rfl rfl ?_
  refine Ev.iload_n (pc := 2) (n := (0, 0)) (i := 1) dX7_node_2 rfl rfl ?_
  refine Ev.callV (pc := 3) (n := (0, 0)) (ob := 260) (as := [zi x]) (st := [zr (some 260)]) (s_findF hR hn hn24) dX7_node_3 ok_X7_find (lk_X7_53 rfl) ⟨(Nat.le_of_ble_eq_true rfl), (Nat.le_of_ble_eq_true rfl)⟩ (zk_at hR.1 rfl) ⟨by decide, rfl⟩ rfl (Nat.le_of_ble_eq_true rfl) (Nat.le_of_ble_eq_true rfl) ⟨(Nat.le_of_ble_eq_true rfl), (Nat.le_of_ble_eq_true rfl)⟩ ?_
  refine Ev.iconst (pc := 6) (n := (0, 0)) dX7_node_6 ?_
  refine Ev.icmp_ne (pc := 7) (n := (0, 0)) (tgt := 14) dX7_node_7 rfl (fun hc => ?_) (fun hc => absurd hc h1)
  refine Ev.iload_n (pc := 14) (n := (0, 0)) (i := 2) dX7_node_14 rfl rfl ?_
  refine Ev.iconst (pc := 15) (n := (0, 0)) dX7_node_15 ?_
  refine Ev.bipush (pc := 16) (n := (0, 0)) dX7_node_16 ?_
  refine Ev.callS (pc := 18) (n := (0, 0)) (as := [zi w, zi 0, zi 12]) (st := [zr (some 260)]) (s_in (h.1, zrw I F, h.2.2) w 0 12) dX7_node_18 ok_X7_in (lk_X7_91 rfl) ⟨(Nat.le_of_ble_eq_true rfl), (Nat.le_of_ble_eq_true rfl)⟩ rfl (Nat.le_of_ble_eq_true rfl) (Nat.le_of_ble_eq_true rfl) ⟨(Nat.le_of_ble_eq_true rfl), (Nat.le_of_ble_eq_true rfl)⟩ ?_
  rw [if_pos h2]
  refine Ev.if_eq (pc := 21) (n := (0, 0)) (tgt := 28) dX7_node_21 rfl (fun hc2 => absurd hc2 (by decide)) (fun hc2 => ?_)
  refine Ev.iconst (pc := 24) (n := (0, 0)) dX7_node_24 ?_
  refine Ev.goto (pc := 25) (n := (0, 0)) (tgt := 29) dX7_node_25 rfl ?_
  refine Ev.callV (pc := 29) (n := (0, 0)) (ob := 260) (as := [zi 0]) (st := []) (s_refF hR 0) dX7_node_29 ok_X7_isRefused (lk_X7_60 rfl) ⟨(Nat.le_of_ble_eq_true rfl), (Nat.le_of_ble_eq_true rfl)⟩ (zk_at hR.1 rfl) ⟨by decide, rfl⟩ rfl (Nat.le_of_ble_eq_true rfl) (Nat.le_of_ble_eq_true rfl) ⟨(Nat.le_of_ble_eq_true rfl), (Nat.le_of_ble_eq_true rfl)⟩ ?_
  rw [if_pos (rfl : (0 : Int) = 0)]
  refine Ev.if_eq (pc := 32) (n := (0, 0)) (tgt := 37) dX7_node_32 rfl (fun hc9 => ?_) (fun hc9 => absurd rfl hc9)
  refine Ev.aload_n (pc := 37) (n := (0, 0)) (i := 0) dX7_node_37 rfl rfl ?_
  refine Ev.callV (pc := 38) (n := (0, 0)) (ob := 260) (as := []) (st := []) (rl) dX7_node_38 ok_X7_lay (lk_X7_84 rfl) ⟨(Nat.le_of_ble_eq_true rfl), (Nat.le_of_ble_eq_true rfl)⟩ (zk_at hR.1 rfl) ⟨by decide, rfl⟩ rfl (Nat.le_of_ble_eq_true rfl) (Nat.le_of_ble_eq_true rfl) ⟨(Nat.le_of_ble_eq_true rfl), (Nat.le_of_ble_eq_true rfl)⟩ ?_
  refine Ev.aload_n (pc := 41) (n := (0, 0)) (i := 0) dX7_node_41 rfl rfl ?_
  refine Ev.aload_n (pc := 42) (n := (0, 0)) (i := 0) dX7_node_42 rfl rfl ?_
  refine Ev.iload_n (pc := 43) (n := (0, 0)) (i := 1) dX7_node_43 rfl rfl ?_
  refine Ev.callV (pc := 44) (n := (0, 0)) (ob := 260) (as := [zi x]) (st := [zr (some 260)]) (s_findF hR hn2 hn24) dX7_node_44 ok_X7_find (lk_X7_53 rfl) ⟨(Nat.le_of_ble_eq_true rfl), (Nat.le_of_ble_eq_true rfl)⟩ (zk_at hR.1 rfl) ⟨by decide, rfl⟩ rfl (Nat.le_of_ble_eq_true rfl) (Nat.le_of_ble_eq_true rfl) ⟨(Nat.le_of_ble_eq_true rfl), (Nat.le_of_ble_eq_true rfl)⟩ ?_
  rw [hf]
  refine Ev.iload_n (pc := 47) (n := (0, 0)) (i := 2) dX7_node_47 rfl rfl ?_
  refine Ev.callV (pc := 48) (n := (0, 0)) (ob := 260) (as := [zi (k : Int), zi w]) (st := []) (s_nodeValue hR hn2 hn24 hw hB hl ht hL.2 hk h2) dX7_node_48 ok_X7_nodeValue (lk_X7_165 rfl) ⟨(Nat.le_of_ble_eq_true rfl), (Nat.le_of_ble_eq_true rfl)⟩ (zk_at hR.1 rfl) ⟨by decide, rfl⟩ rfl (Nat.le_of_ble_eq_true rfl) (Nat.le_of_ble_eq_true rfl) ⟨(Nat.le_of_ble_eq_true rfl), (Nat.le_of_ble_eq_true rfl)⟩ ?_
  exact Ev.iret dX7_node_51 rfl ⟨(Nat.le_of_ble_eq_true rfl), (Nat.le_of_ble_eq_true rfl)⟩
def bRw (r w : Int) : Int := if (0 ≤ r ∧ r ≤ 3) ∧ 0 ≤ w ∧ w ≤ 3 then 1 else 0
theorem s_row_no {h : zH} {I : Nat → Int → Int} {F : zF} (hR : zRM h) {n : Nat} (hn : I 261 0 = n) (hn24 : n ≤ 24) {gr r w : Int} (hw0 : ¬ wRow n F gr (bRw r w) = 0) : Ev M_X7_row 0 [(0, zr (some 260)), (1, zi gr), (2, zi r), (3, zi w)] [] (h.1, zrw I F, h.2.2) (0, 0) (.inl (some (zi 0)), (h.1, zrw (zup I 260 2 (wRow n F gr (bRw r w))) F, h.2.2)) := by
  refine Ev.aload_n (pc := 0) (n := (0, 0)) (i := 0) dX7_row_0 rfl rfl ?_
  refine Ev.aload_n (pc := 1) (n := (0, 0)) (i := 0) dX7_row_1 rfl rfl ?_
  refine Ev.iload_n (pc := 2) (n := (0, 0)) (i := 1) dX7_row_2 rfl rfl ?_
  refine Ev.iload_n (pc := 3) (n := (0, 0)) (i := 2) dX7_row_3 rfl rfl ?_
  refine Ev.iconst (pc := 4) (n := (0, 0)) dX7_row_4 ?_
  refine Ev.iconst (pc := 5) (n := (0, 0)) dX7_row_5 ?_
  refine Ev.callS (pc := 6) (n := (0, 0)) (as := [zi r, zi 0, zi 3]) (st := [zi gr, zr (some 260), zr (some 260)]) (s_in (h.1, zrw I F, h.2.2) r 0 3) dX7_row_6 ok_X7_in (lk_X7_91 rfl) ⟨(Nat.le_of_ble_eq_true rfl), (Nat.le_of_ble_eq_true rfl)⟩ rfl (Nat.le_of_ble_eq_true rfl) (Nat.le_of_ble_eq_true rfl) ⟨(Nat.le_of_ble_eq_true rfl), (Nat.le_of_ble_eq_true rfl)⟩ ?_
  by_cases h1 : 0 ≤ r ∧ r ≤ 3
  · skip
    rw [if_pos h1]
    refine Ev.if_eq (pc := 9) (n := (0, 0)) (tgt := 25) dX7_row_9 rfl (fun hc => absurd hc (by decide)) (fun hc => ?_)
    refine Ev.iload_n (pc := 12) (n := (0, 0)) (i := 3) dX7_row_12 rfl rfl ?_
    refine Ev.iconst (pc := 13) (n := (0, 0)) dX7_row_13 ?_
    refine Ev.iconst (pc := 14) (n := (0, 0)) dX7_row_14 ?_
    refine Ev.callS (pc := 15) (n := (0, 0)) (as := [zi w, zi 0, zi 3]) (st := [zi gr, zr (some 260), zr (some 260)]) (s_in (h.1, zrw I F, h.2.2) w 0 3) dX7_row_15 ok_X7_in (lk_X7_91 rfl) ⟨(Nat.le_of_ble_eq_true rfl), (Nat.le_of_ble_eq_true rfl)⟩ rfl (Nat.le_of_ble_eq_true rfl) (Nat.le_of_ble_eq_true rfl) ⟨(Nat.le_of_ble_eq_true rfl), (Nat.le_of_ble_eq_true rfl)⟩ ?_
    by_cases h2 : 0 ≤ w ∧ w ≤ 3
    · skip
      rw [if_pos h2]
      have eb : (bRw r w) = 1 := if_pos ⟨h1, h2⟩
      rw [eb] at hw0
      rw [eb]
      refine Ev.if_eq (pc := 18) (n := (0, 0)) (tgt := 25) dX7_row_18 rfl (fun hc2 => absurd hc2 (by decide)) (fun hc2 => ?_)
      refine Ev.iconst (pc := 21) (n := (0, 0)) dX7_row_21 ?_
      refine Ev.goto (pc := 22) (n := (0, 0)) (tgt := 26) dX7_row_22 rfl ?_
      refine Ev.callV (pc := 26) (n := (0, 0)) (ob := 260) (as := [zi gr, zi 1]) (st := [zr (some 260)]) (s_whyNotRow hR hn hn24) dX7_row_26 ok_X7_whyNotRow (lk_X7_171 rfl) ⟨(Nat.le_of_ble_eq_true rfl), (Nat.le_of_ble_eq_true rfl)⟩ (zk_at hR.1 rfl) ⟨by decide, rfl⟩ rfl (Nat.le_of_ble_eq_true rfl) (Nat.le_of_ble_eq_true rfl) ⟨(Nat.le_of_ble_eq_true rfl), (Nat.le_of_ble_eq_true rfl)⟩ ?_
      refine Ev.callV (pc := 29) (n := (0, 0)) (ob := 260) (as := [zi (wRow n F gr 1)]) (st := []) (s_refF hR (wRow n F gr 1)) dX7_row_29 ok_X7_isRefused (lk_X7_60 rfl) ⟨(Nat.le_of_ble_eq_true rfl), (Nat.le_of_ble_eq_true rfl)⟩ (zk_at hR.1 rfl) ⟨by decide, rfl⟩ rfl (Nat.le_of_ble_eq_true rfl) (Nat.le_of_ble_eq_true rfl) ⟨(Nat.le_of_ble_eq_true rfl), (Nat.le_of_ble_eq_true rfl)⟩ ?_
      rw [if_neg hw0]
      refine Ev.if_eq (pc := 32) (n := (0, 0)) (tgt := 37) dX7_row_32 rfl (fun hc9 => absurd hc9 (by decide)) (fun hc9 => ?_)
      refine Ev.iconst (pc := 35) (n := (0, 0)) dX7_row_35 ?_
      exact Ev.iret dX7_row_36 rfl ⟨(Nat.le_of_ble_eq_true rfl), (Nat.le_of_ble_eq_true rfl)⟩
    · skip
      rw [if_neg h2]
      have eb : (bRw r w) = 0 := if_neg (fun e => h2 e.2)
      rw [eb] at hw0
      rw [eb]
      refine Ev.if_eq (pc := 18) (n := (0, 0)) (tgt := 25) dX7_row_18 rfl (fun hc2 => ?_) (fun hc2 => absurd rfl hc2)
      refine Ev.iconst (pc := 25) (n := (0, 0)) dX7_row_25 ?_
      refine Ev.callV (pc := 26) (n := (0, 0)) (ob := 260) (as := [zi gr, zi 0]) (st := [zr (some 260)]) (s_whyNotRow hR hn hn24) dX7_row_26 ok_X7_whyNotRow (lk_X7_171 rfl) ⟨(Nat.le_of_ble_eq_true rfl), (Nat.le_of_ble_eq_true rfl)⟩ (zk_at hR.1 rfl) ⟨by decide, rfl⟩ rfl (Nat.le_of_ble_eq_true rfl) (Nat.le_of_ble_eq_true rfl) ⟨(Nat.le_of_ble_eq_true rfl), (Nat.le_of_ble_eq_true rfl)⟩ ?_
      refine Ev.callV (pc := 29) (n := (0, 0)) (ob := 260) (as := [zi (wRow n F gr 0)]) (st := []) (s_refF hR (wRow n F gr 0)) dX7_row_29 ok_X7_isRefused (lk_X7_60 rfl) ⟨(Nat.le_of_ble_eq_true rfl), (Nat.le_of_ble_eq_true rfl)⟩ (zk_at hR.1 rfl) ⟨by decide, rfl⟩ rfl (Nat.le_of_ble_eq_true rfl) (Nat.le_of_ble_eq_true rfl) ⟨(Nat.le_of_ble_eq_true rfl), (Nat.le_of_ble_eq_true rfl)⟩ ?_
      rw [if_neg hw0]
      refine Ev.if_eq (pc := 32) (n := (0, 0)) (tgt := 37) dX7_row_32 rfl (fun hc9 => absurd hc9 (by decide)) (fun hc9 => ?_)
      refine Ev.iconst (pc := 35) (n := (0, 0)) dX7_row_35 ?_
      exact Ev.iret dX7_row_36 rfl ⟨(Nat.le_of_ble_eq_true rfl), (Nat.le_of_ble_eq_true rfl)⟩
  · skip
    rw [if_neg h1]
    have eb : (bRw r w) = 0 := if_neg (fun e => h1 e.1)
    rw [eb] at hw0
    rw [eb]
    refine Ev.if_eq (pc := 9) (n := (0, 0)) (tgt := 25) dX7_row_9 rfl (fun hc => ?_) (fun hc => absurd rfl hc)
    refine Ev.iconst (pc := 25) (n := (0, 0)) dX7_row_25 ?_
    refine Ev.callV (pc := 26) (n := (0, 0)) (ob := 260) (as := [zi gr, zi 0]) (st := [zr (some 260)]) (s_whyNotRow hR hn hn24) dX7_row_26 ok_X7_whyNotRow (lk_X7_171 rfl) ⟨(Nat.le_of_ble_eq_true rfl), (Nat.le_of_ble_eq_true rfl)⟩ (zk_at hR.1 rfl) ⟨by decide, rfl⟩ rfl (Nat.le_of_ble_eq_true rfl) (Nat.le_of_ble_eq_true rfl) ⟨(Nat.le_of_ble_eq_true rfl), (Nat.le_of_ble_eq_true rfl)⟩ ?_
    refine Ev.callV (pc := 29) (n := (0, 0)) (ob := 260) (as := [zi (wRow n F gr 0)]) (st := []) (s_refF hR (wRow n F gr 0)) dX7_row_29 ok_X7_isRefused (lk_X7_60 rfl) ⟨(Nat.le_of_ble_eq_true rfl), (Nat.le_of_ble_eq_true rfl)⟩ (zk_at hR.1 rfl) ⟨by decide, rfl⟩ rfl (Nat.le_of_ble_eq_true rfl) (Nat.le_of_ble_eq_true rfl) ⟨(Nat.le_of_ble_eq_true rfl), (Nat.le_of_ble_eq_true rfl)⟩ ?_
    rw [if_neg hw0]
    refine Ev.if_eq (pc := 32) (n := (0, 0)) (tgt := 37) dX7_row_32 rfl (fun hc9 => absurd hc9 (by decide)) (fun hc9 => ?_)
    refine Ev.iconst (pc := 35) (n := (0, 0)) dX7_row_35 ?_
    exact Ev.iret dX7_row_36 rfl ⟨(Nat.le_of_ble_eq_true rfl), (Nat.le_of_ble_eq_true rfl)⟩
theorem s_row {h : zH} {I : Nat → Int → Int} {F : zF} (hR : zRM h) {n : Nat} (hn : I 261 0 = n) (hn24 : n ≤ 24) {dep : Nat → Nat} {B : Int} (hw : WF n F dep B) (hB : 24 * (60 + B) ≤ 1000000000) {len st sl dp : Int → Int} (hl : IsLen n F len) (ht : IsTm n F len st sl dp) {gr r w : Int} {p : Nat} (hf : zpos n F gr = p) (h1 : 0 ≤ r ∧ r ≤ 3) (h2 : 0 ≤ w ∧ w ≤ 3) (hw0 : wRow n F gr 1 = 0) : ∃ I2 : Nat → Int → Int, zLaid (zup I 260 2 0) I2 n len st sl dp ∧ Ev M_X7_row 0 [(0, zr (some 260)), (1, zi gr), (2, zi r), (3, zi w)] [] (h.1, zrw I F, h.2.2) (0, 0) (.inl (some (zi (mrow n F len sl p gr r w))), (h.1, zrw I2 F, h.2.2)) := by
  have hp := (zpos_num hf).1
  have hn0 : zup I 260 2 0 261 0 = n := (zup_o _ _ _ _ (by decide)).trans hn
  obtain ⟨I2, hL, rl⟩ := s_layF (I := zup I 260 2 0) (F := F) hR hn0 hw hB hl ht
  have hn2 : I2 261 0 = n := hL.keep.x (by omega) hn0
  refine ⟨I2, hL, ?_⟩
  refine Ev.aload_n (pc := 0) (n := (0, 0)) (i := 0) dX7_row_0 rfl rfl ?_
  refine Ev.aload_n (pc := 1) (n := (0, 0)) (i := 0) dX7_row_1 rfl rfl ?_
  refine Ev.iload_n (pc := 2) (n := (0, 0)) (i := 1) dX7_row_2 rfl rfl ?_
  refine Ev.iload_n (pc := 3) (n := (0, 0)) (i := 2) dX7_row_3 rfl rfl ?_
  refine Ev.iconst (pc := 4) (n := (0, 0)) dX7_row_4 ?_
  refine Ev.iconst (pc := 5) (n := (0, 0)) dX7_row_5 ?_
  refine Ev.callS (pc := 6) (n := (0, 0)) (as := [zi r, zi 0, zi 3]) (st := [zi gr, zr (some 260), zr (some 260)]) (s_in (h.1, zrw I F, h.2.2) r 0 3) dX7_row_6 ok_X7_in (lk_X7_91 rfl) ⟨(Nat.le_of_ble_eq_true rfl), (Nat.le_of_ble_eq_true rfl)⟩ rfl (Nat.le_of_ble_eq_true rfl) (Nat.le_of_ble_eq_true rfl) ⟨(Nat.le_of_ble_eq_true rfl), (Nat.le_of_ble_eq_true rfl)⟩ ?_
  rw [if_pos h1]
  refine Ev.if_eq (pc := 9) (n := (0, 0)) (tgt := 25) dX7_row_9 rfl (fun hc => absurd hc (by decide)) (fun hc => ?_)
  refine Ev.iload_n (pc := 12) (n := (0, 0)) (i := 3) dX7_row_12 rfl rfl ?_
  refine Ev.iconst (pc := 13) (n := (0, 0)) dX7_row_13 ?_
  refine Ev.iconst (pc := 14) (n := (0, 0)) dX7_row_14 ?_
  refine Ev.callS (pc := 15) (n := (0, 0)) (as := [zi w, zi 0, zi 3]) (st := [zi gr, zr (some 260), zr (some 260)]) (s_in (h.1, zrw I F, h.2.2) w 0 3) dX7_row_15 ok_X7_in (lk_X7_91 rfl) ⟨(Nat.le_of_ble_eq_true rfl), (Nat.le_of_ble_eq_true rfl)⟩ rfl (Nat.le_of_ble_eq_true rfl) (Nat.le_of_ble_eq_true rfl) ⟨(Nat.le_of_ble_eq_true rfl), (Nat.le_of_ble_eq_true rfl)⟩ ?_
  rw [if_pos h2]
  refine Ev.if_eq (pc := 18) (n := (0, 0)) (tgt := 25) dX7_row_18 rfl (fun hc2 => absurd hc2 (by decide)) (fun hc2 => ?_)
  refine Ev.iconst (pc := 21) (n := (0, 0)) dX7_row_21 ?_
  refine Ev.goto (pc := 22) (n := (0, 0)) (tgt := 26) dX7_row_22 rfl ?_
  refine Ev.callV (pc := 26) (n := (0, 0)) (ob := 260) (as := [zi gr, zi 1]) (st := [zr (some 260)]) (s_whyNotRow hR hn hn24) dX7_row_26 ok_X7_whyNotRow (lk_X7_171 rfl) ⟨(Nat.le_of_ble_eq_true rfl), (Nat.le_of_ble_eq_true rfl)⟩ (zk_at hR.1 rfl) ⟨by decide, rfl⟩ rfl (Nat.le_of_ble_eq_true rfl) (Nat.le_of_ble_eq_true rfl) ⟨(Nat.le_of_ble_eq_true rfl), (Nat.le_of_ble_eq_true rfl)⟩ ?_
  refine Ev.callV (pc := 29) (n := (0, 0)) (ob := 260) (as := [zi (wRow n F gr 1)]) (st := []) (s_refF hR (wRow n F gr 1)) dX7_row_29 ok_X7_isRefused (lk_X7_60 rfl) ⟨(Nat.le_of_ble_eq_true rfl), (Nat.le_of_ble_eq_true rfl)⟩ (zk_at hR.1 rfl) ⟨by decide, rfl⟩ rfl (Nat.le_of_ble_eq_true rfl) (Nat.le_of_ble_eq_true rfl) ⟨(Nat.le_of_ble_eq_true rfl), (Nat.le_of_ble_eq_true rfl)⟩ ?_
  rw [hw0]
  rw [if_pos (rfl : (0 : Int) = 0)]
  refine Ev.if_eq (pc := 32) (n := (0, 0)) (tgt := 37) dX7_row_32 rfl (fun hc9 => ?_) (fun hc9 => absurd rfl hc9)
  refine Ev.aload_n (pc := 37) (n := (0, 0)) (i := 0) dX7_row_37 rfl rfl ?_
  refine Ev.callV (pc := 38) (n := (0, 0)) (ob := 260) (as := []) (st := []) (rl) dX7_row_38 ok_X7_lay (lk_X7_84 rfl) ⟨(Nat.le_of_ble_eq_true rfl), (Nat.le_of_ble_eq_true rfl)⟩ (zk_at hR.1 rfl) ⟨by decide, rfl⟩ rfl (Nat.le_of_ble_eq_true rfl) (Nat.le_of_ble_eq_true rfl) ⟨(Nat.le_of_ble_eq_true rfl), (Nat.le_of_ble_eq_true rfl)⟩ ?_
  refine Ev.aload_n (pc := 41) (n := (0, 0)) (i := 0) dX7_row_41 rfl rfl ?_
  refine Ev.iload_n (pc := 42) (n := (0, 0)) (i := 1) dX7_row_42 rfl rfl ?_
  refine Ev.iload_n (pc := 43) (n := (0, 0)) (i := 2) dX7_row_43 rfl rfl ?_
  refine Ev.iload_n (pc := 44) (n := (0, 0)) (i := 3) dX7_row_44 rfl rfl ?_
  refine Ev.callV (pc := 45) (n := (0, 0)) (ob := 260) (as := [zi gr, zi r, zi w]) (st := []) (s_rowValue hR hn2 hn24 hw hB hl ht hL.2 hf h2) dX7_row_45 ok_X7_rowValue (lk_X7_174 rfl) ⟨(Nat.le_of_ble_eq_true rfl), (Nat.le_of_ble_eq_true rfl)⟩ (zk_at hR.1 rfl) ⟨by decide, rfl⟩ rfl (Nat.le_of_ble_eq_true rfl) (Nat.le_of_ble_eq_true rfl) ⟨(Nat.le_of_ble_eq_true rfl), (Nat.le_of_ble_eq_true rfl)⟩ ?_
  exact Ev.iret dX7_row_48 rfl ⟨(Nat.le_of_ble_eq_true rfl), (Nat.le_of_ble_eq_true rfl)⟩
theorem s_running_no {h : zH} {I : Nat → Int → Int} {F : zF} (hR : zRM h) {n : Nat} (hn : I 261 0 = n) (hn24 : n ≤ 24) {t : Int} (ht0 : t < 0) : Ev M_X7_running 0 [(0, zr (some 260)), (1, zi t)] [] (h.1, zrw I F, h.2.2) (0, 0) (.inl (some (zi 0)), (h.1, zrw (zup I 260 2 1) F, h.2.2)) := by
  refine Ev.aload_n (pc := 0) (n := (0, 0)) (i := 0) dX7_running_0 rfl rfl ?_
  refine Ev.iload_n (pc := 1) (n := (0, 0)) (i := 1) dX7_running_1 rfl rfl ?_
  refine Ev.if_ge (pc := 2) (n := (0, 0)) (tgt := 9) dX7_running_2 rfl (fun hc => absurd hc (by omega)) (fun hc => ?_)
  refine Ev.iconst (pc := 5) (n := (0, 0)) dX7_running_5 ?_
  refine Ev.goto (pc := 6) (n := (0, 0)) (tgt := 10) dX7_running_6 rfl ?_
  refine Ev.callV (pc := 10) (n := (0, 0)) (ob := 260) (as := [zi 1]) (st := []) (s_refF hR 1) dX7_running_10 ok_X7_isRefused (lk_X7_60 rfl) ⟨(Nat.le_of_ble_eq_true rfl), (Nat.le_of_ble_eq_true rfl)⟩ (zk_at hR.1 rfl) ⟨by decide, rfl⟩ rfl (Nat.le_of_ble_eq_true rfl) (Nat.le_of_ble_eq_true rfl) ⟨(Nat.le_of_ble_eq_true rfl), (Nat.le_of_ble_eq_true rfl)⟩ ?_
  rw [if_neg (by decide : ¬ (1 : Int) = 0)]
  refine Ev.if_eq (pc := 13) (n := (0, 0)) (tgt := 18) dX7_running_13 rfl (fun hc9 => absurd hc9 (by decide)) (fun hc9 => ?_)
  refine Ev.iconst (pc := 16) (n := (0, 0)) dX7_running_16 ?_
  exact Ev.iret dX7_running_17 rfl ⟨(Nat.le_of_ble_eq_true rfl), (Nat.le_of_ble_eq_true rfl)⟩
theorem s_running {h : zH} {I : Nat → Int → Int} {F : zF} (hR : zRM h) {n : Nat} (hn : I 261 0 = n) (hn24 : n ≤ 24) {dep : Nat → Nat} {B : Int} (hw : WF n F dep B) (hB : 24 * (60 + B) ≤ 1000000000) {len st sl dp : Int → Int} (hl : IsLen n F len) (ht : IsTm n F len st sl dp) {t : Int} (ht0 : 0 ≤ t) : ∃ I2 : Nat → Int → Int, zLaid (zup I 260 2 0) I2 n len st sl dp ∧ Ev M_X7_running 0 [(0, zr (some 260)), (1, zi t)] [] (h.1, zrw I F, h.2.2) (0, 0) (.inl (some (zi (mrun n F len st t))), (h.1, zrw I2 F, h.2.2)) := by
  have hn0 : zup I 260 2 0 261 0 = n := (zup_o _ _ _ _ (by decide)).trans hn
  obtain ⟨I2, hL, rl⟩ := s_layF (I := zup I 260 2 0) (F := F) hR hn0 hw hB hl ht
  have hn2 : I2 261 0 = n := hL.keep.x (by omega) hn0
  refine ⟨I2, hL, ?_⟩
  refine Ev.aload_n (pc := 0) (n := (0, 0)) (i := 0) dX7_running_0 rfl rfl ?_
  refine Ev.iload_n (pc := 1) (n := (0, 0)) (i := 1) dX7_running_1 rfl rfl ?_
  refine Ev.if_ge (pc := 2) (n := (0, 0)) (tgt := 9) dX7_running_2 rfl (fun hc => ?_) (fun hc => absurd ht0 hc)
  refine Ev.iconst (pc := 9) (n := (0, 0)) dX7_running_9 ?_
  refine Ev.callV (pc := 10) (n := (0, 0)) (ob := 260) (as := [zi 0]) (st := []) (s_refF hR 0) dX7_running_10 ok_X7_isRefused (lk_X7_60 rfl) ⟨(Nat.le_of_ble_eq_true rfl), (Nat.le_of_ble_eq_true rfl)⟩ (zk_at hR.1 rfl) ⟨by decide, rfl⟩ rfl (Nat.le_of_ble_eq_true rfl) (Nat.le_of_ble_eq_true rfl) ⟨(Nat.le_of_ble_eq_true rfl), (Nat.le_of_ble_eq_true rfl)⟩ ?_
  rw [if_pos (rfl : (0 : Int) = 0)]
  refine Ev.if_eq (pc := 13) (n := (0, 0)) (tgt := 18) dX7_running_13 rfl (fun hc9 => ?_) (fun hc9 => absurd rfl hc9)
  refine Ev.aload_n (pc := 18) (n := (0, 0)) (i := 0) dX7_running_18 rfl rfl ?_
  refine Ev.callV (pc := 19) (n := (0, 0)) (ob := 260) (as := []) (st := []) (rl) dX7_running_19 ok_X7_lay (lk_X7_84 rfl) ⟨(Nat.le_of_ble_eq_true rfl), (Nat.le_of_ble_eq_true rfl)⟩ (zk_at hR.1 rfl) ⟨by decide, rfl⟩ rfl (Nat.le_of_ble_eq_true rfl) (Nat.le_of_ble_eq_true rfl) ⟨(Nat.le_of_ble_eq_true rfl), (Nat.le_of_ble_eq_true rfl)⟩ ?_
  refine Ev.aload_n (pc := 22) (n := (0, 0)) (i := 0) dX7_running_22 rfl rfl ?_
  refine Ev.iload_n (pc := 23) (n := (0, 0)) (i := 1) dX7_running_23 rfl rfl ?_
  refine Ev.callV (pc := 24) (n := (0, 0)) (ob := 260) (as := [zi t]) (st := []) (s_runningAt hR hn2 hn24 hw hB hl ht hL.2) dX7_running_24 ok_X7_runningAt (lk_X7_180 rfl) ⟨(Nat.le_of_ble_eq_true rfl), (Nat.le_of_ble_eq_true rfl)⟩ (zk_at hR.1 rfl) ⟨by decide, rfl⟩ rfl (Nat.le_of_ble_eq_true rfl) (Nat.le_of_ble_eq_true rfl) ⟨(Nat.le_of_ble_eq_true rfl), (Nat.le_of_ble_eq_true rfl)⟩ ?_
  exact Ev.iret dX7_running_27 rfl ⟨(Nat.le_of_ble_eq_true rfl), (Nat.le_of_ble_eq_true rfl)⟩
theorem s_reason_no {h : zH} {I : Nat → Int → Int} {F : zF} (hR : zRM h) {n : Nat} (hn : I 261 0 = n) (hn24 : n ≤ 24) {x gr : Int} (h0 : zpos n F x = -1 ∨ zpos n F gr = -1) : Ev M_X7_reason 0 [(0, zr (some 260)), (1, zi x), (2, zi gr)] [] (h.1, zrw I F, h.2.2) (0, 0) (.inl (some (zi 0)), (h.1, zrw (zup I 260 2 1) F, h.2.2)) := by
  by_cases h1 : zpos n F x = -1
  · skip
    refine Ev.aload_n (pc := 0) (n := (0, 0)) (i := 0) dX7_reason_0 rfl rfl ?_
    refine Ev.aload_n (pc := 1) (n := (0, 0)) (i := 0) dX7_reason_1 rfl rfl ?_
    refine Ev.iload_n (pc := 2) (n := (0, 0)) (i := 1) dX7_reason_2 rfl rfl ?_
    refine Ev.callV (pc := 3) (n := (0, 0)) (ob := 260) (as := [zi x]) (st := [zr (some 260)]) (s_findF hR hn hn24) dX7_reason_3 ok_X7_find (lk_X7_53 rfl) ⟨(Nat.le_of_ble_eq_true rfl), (Nat.le_of_ble_eq_true rfl)⟩ (zk_at hR.1 rfl) ⟨by decide, rfl⟩ rfl (Nat.le_of_ble_eq_true rfl) (Nat.le_of_ble_eq_true rfl) ⟨(Nat.le_of_ble_eq_true rfl), (Nat.le_of_ble_eq_true rfl)⟩ ?_
    refine Ev.iconst (pc := 6) (n := (0, 0)) dX7_reason_6 ?_
    refine Ev.icmp_eq (pc := 7) (n := (0, 0)) (tgt := 19) dX7_reason_7 rfl (fun hc => ?_) (fun hc => absurd h1 hc)
    refine Ev.iconst (pc := 19) (n := (0, 0)) dX7_reason_19 ?_
    refine Ev.goto (pc := 20) (n := (0, 0)) (tgt := 24) dX7_reason_20 rfl ?_
    refine Ev.callV (pc := 24) (n := (0, 0)) (ob := 260) (as := [zi 1]) (st := []) (s_refF hR 1) dX7_reason_24 ok_X7_isRefused (lk_X7_60 rfl) ⟨(Nat.le_of_ble_eq_true rfl), (Nat.le_of_ble_eq_true rfl)⟩ (zk_at hR.1 rfl) ⟨by decide, rfl⟩ rfl (Nat.le_of_ble_eq_true rfl) (Nat.le_of_ble_eq_true rfl) ⟨(Nat.le_of_ble_eq_true rfl), (Nat.le_of_ble_eq_true rfl)⟩ ?_
    rw [if_neg (by decide : ¬ (1 : Int) = 0)]
    refine Ev.if_eq (pc := 27) (n := (0, 0)) (tgt := 32) dX7_reason_27 rfl (fun hc9 => absurd hc9 (by decide)) (fun hc9 => ?_)
    refine Ev.iconst (pc := 30) (n := (0, 0)) dX7_reason_30 ?_
    exact Ev.iret dX7_reason_31 rfl ⟨(Nat.le_of_ble_eq_true rfl), (Nat.le_of_ble_eq_true rfl)⟩
  · skip
    have h2 : zpos n F gr = -1 := by omega
    refine Ev.aload_n (pc := 0) (n := (0, 0)) (i := 0) dX7_reason_0 rfl rfl ?_
    refine Ev.aload_n (pc := 1) (n := (0, 0)) (i := 0) dX7_reason_1 rfl rfl ?_
    refine Ev.iload_n (pc := 2) (n := (0, 0)) (i := 1) dX7_reason_2 rfl rfl ?_
    refine Ev.callV (pc := 3) (n := (0, 0)) (ob := 260) (as := [zi x]) (st := [zr (some 260)]) (s_findF hR hn hn24) dX7_reason_3 ok_X7_find (lk_X7_53 rfl) ⟨(Nat.le_of_ble_eq_true rfl), (Nat.le_of_ble_eq_true rfl)⟩ (zk_at hR.1 rfl) ⟨by decide, rfl⟩ rfl (Nat.le_of_ble_eq_true rfl) (Nat.le_of_ble_eq_true rfl) ⟨(Nat.le_of_ble_eq_true rfl), (Nat.le_of_ble_eq_true rfl)⟩ ?_
    refine Ev.iconst (pc := 6) (n := (0, 0)) dX7_reason_6 ?_
    refine Ev.icmp_eq (pc := 7) (n := (0, 0)) (tgt := 19) dX7_reason_7 rfl (fun hc => absurd hc h1) (fun hc => ?_)
    refine Ev.aload_n (pc := 10) (n := (0, 0)) (i := 0) dX7_reason_10 rfl rfl ?_
    refine Ev.iload_n (pc := 11) (n := (0, 0)) (i := 2) dX7_reason_11 rfl rfl ?_
    refine Ev.callV (pc := 12) (n := (0, 0)) (ob := 260) (as := [zi gr]) (st := [zr (some 260)]) (s_findF hR hn hn24) dX7_reason_12 ok_X7_find (lk_X7_53 rfl) ⟨(Nat.le_of_ble_eq_true rfl), (Nat.le_of_ble_eq_true rfl)⟩ (zk_at hR.1 rfl) ⟨by decide, rfl⟩ rfl (Nat.le_of_ble_eq_true rfl) (Nat.le_of_ble_eq_true rfl) ⟨(Nat.le_of_ble_eq_true rfl), (Nat.le_of_ble_eq_true rfl)⟩ ?_
    refine Ev.iconst (pc := 15) (n := (0, 0)) dX7_reason_15 ?_
    refine Ev.icmp_ne (pc := 16) (n := (0, 0)) (tgt := 23) dX7_reason_16 rfl (fun hc2 => absurd h2 hc2) (fun hc2 => ?_)
    refine Ev.iconst (pc := 19) (n := (0, 0)) dX7_reason_19 ?_
    refine Ev.goto (pc := 20) (n := (0, 0)) (tgt := 24) dX7_reason_20 rfl ?_
    refine Ev.callV (pc := 24) (n := (0, 0)) (ob := 260) (as := [zi 1]) (st := []) (s_refF hR 1) dX7_reason_24 ok_X7_isRefused (lk_X7_60 rfl) ⟨(Nat.le_of_ble_eq_true rfl), (Nat.le_of_ble_eq_true rfl)⟩ (zk_at hR.1 rfl) ⟨by decide, rfl⟩ rfl (Nat.le_of_ble_eq_true rfl) (Nat.le_of_ble_eq_true rfl) ⟨(Nat.le_of_ble_eq_true rfl), (Nat.le_of_ble_eq_true rfl)⟩ ?_
    rw [if_neg (by decide : ¬ (1 : Int) = 0)]
    refine Ev.if_eq (pc := 27) (n := (0, 0)) (tgt := 32) dX7_reason_27 rfl (fun hc9 => absurd hc9 (by decide)) (fun hc9 => ?_)
    refine Ev.iconst (pc := 30) (n := (0, 0)) dX7_reason_30 ?_
    exact Ev.iret dX7_reason_31 rfl ⟨(Nat.le_of_ble_eq_true rfl), (Nat.le_of_ble_eq_true rfl)⟩
theorem s_reason {h : zH} {I : Nat → Int → Int} {F : zF} (hR : zRM h) {n : Nat} (hn : I 261 0 = n) (hn24 : n ≤ 24) {dep : Nat → Nat} {B : Int} (hw : WF n F dep B) {x gr : Int} (h1 : ¬ zpos n F x = -1) (h2 : ¬ zpos n F gr = -1) : ∃ v : Int, IsReason n F x gr v ∧ Ev M_X7_reason 0 [(0, zr (some 260)), (1, zi x), (2, zi gr)] [] (h.1, zrw I F, h.2.2) (0, 0) (.inl (some (zi v)), (h.1, zrw (zup I 260 2 0) F, h.2.2)) := by
  have hxn : x ≠ -1 := fun e => by
    rcases zfnd_cases (fun j => F j 0) x n with ⟨e9, -⟩ | ⟨j, hj, -, e2, -⟩
    · exact h1 e9
    · have := hw.num_nn hj
      have e3 : F j 0 = x := e2
      omega
  have hn0 : zup I 260 2 0 261 0 = n := (zup_o _ _ _ _ (by decide)).trans hn
  obtain ⟨v, hv, rr⟩ := s_reasonOf (I := zup I 260 2 0) hR hn0 hn24 hw hxn h2
  refine ⟨v, hv, ?_⟩
  refine Ev.aload_n (pc := 0) (n := (0, 0)) (i := 0) dX7_reason_0 rfl rfl ?_
  refine Ev.aload_n (pc := 1) (n := (0, 0)) (i := 0) dX7_reason_1 rfl rfl ?_
  refine Ev.iload_n (pc := 2) (n := (0, 0)) (i := 1) dX7_reason_2 rfl rfl ?_
  refine Ev.callV (pc := 3) (n := (0, 0)) (ob := 260) (as := [zi x]) (st := [zr (some 260)]) (s_findF hR hn hn24) dX7_reason_3 ok_X7_find (lk_X7_53 rfl) ⟨(Nat.le_of_ble_eq_true rfl), (Nat.le_of_ble_eq_true rfl)⟩ (zk_at hR.1 rfl) ⟨by decide, rfl⟩ rfl (Nat.le_of_ble_eq_true rfl) (Nat.le_of_ble_eq_true rfl) ⟨(Nat.le_of_ble_eq_true rfl), (Nat.le_of_ble_eq_true rfl)⟩ ?_
  refine Ev.iconst (pc := 6) (n := (0, 0)) dX7_reason_6 ?_
  refine Ev.icmp_eq (pc := 7) (n := (0, 0)) (tgt := 19) dX7_reason_7 rfl (fun hc => absurd hc h1) (fun hc => ?_)
  refine Ev.aload_n (pc := 10) (n := (0, 0)) (i := 0) dX7_reason_10 rfl rfl ?_
  refine Ev.iload_n (pc := 11) (n := (0, 0)) (i := 2) dX7_reason_11 rfl rfl ?_
  refine Ev.callV (pc := 12) (n := (0, 0)) (ob := 260) (as := [zi gr]) (st := [zr (some 260)]) (s_findF hR hn hn24) dX7_reason_12 ok_X7_find (lk_X7_53 rfl) ⟨(Nat.le_of_ble_eq_true rfl), (Nat.le_of_ble_eq_true rfl)⟩ (zk_at hR.1 rfl) ⟨by decide, rfl⟩ rfl (Nat.le_of_ble_eq_true rfl) (Nat.le_of_ble_eq_true rfl) ⟨(Nat.le_of_ble_eq_true rfl), (Nat.le_of_ble_eq_true rfl)⟩ ?_
  refine Ev.iconst (pc := 15) (n := (0, 0)) dX7_reason_15 ?_
  refine Ev.icmp_ne (pc := 16) (n := (0, 0)) (tgt := 23) dX7_reason_16 rfl (fun hc2 => ?_) (fun hc2 => absurd hc2 h2)
  refine Ev.iconst (pc := 23) (n := (0, 0)) dX7_reason_23 ?_
  refine Ev.callV (pc := 24) (n := (0, 0)) (ob := 260) (as := [zi 0]) (st := []) (s_refF hR 0) dX7_reason_24 ok_X7_isRefused (lk_X7_60 rfl) ⟨(Nat.le_of_ble_eq_true rfl), (Nat.le_of_ble_eq_true rfl)⟩ (zk_at hR.1 rfl) ⟨by decide, rfl⟩ rfl (Nat.le_of_ble_eq_true rfl) (Nat.le_of_ble_eq_true rfl) ⟨(Nat.le_of_ble_eq_true rfl), (Nat.le_of_ble_eq_true rfl)⟩ ?_
  rw [if_pos (rfl : (0 : Int) = 0)]
  refine Ev.if_eq (pc := 27) (n := (0, 0)) (tgt := 32) dX7_reason_27 rfl (fun hc9 => ?_) (fun hc9 => absurd rfl hc9)
  refine Ev.aload_n (pc := 32) (n := (0, 0)) (i := 0) dX7_reason_32 rfl rfl ?_
  refine Ev.iload_n (pc := 33) (n := (0, 0)) (i := 1) dX7_reason_33 rfl rfl ?_
  refine Ev.iload_n (pc := 34) (n := (0, 0)) (i := 2) dX7_reason_34 rfl rfl ?_
  refine Ev.callV (pc := 35) (n := (0, 0)) (ob := 260) (as := [zi x, zi gr]) (st := []) (rr) dX7_reason_35 ok_X7_reasonOf (lk_X7_119 rfl) ⟨(Nat.le_of_ble_eq_true rfl), (Nat.le_of_ble_eq_true rfl)⟩ (zk_at hR.1 rfl) ⟨by decide, rfl⟩ rfl (Nat.le_of_ble_eq_true rfl) (Nat.le_of_ble_eq_true rfl) ⟨(Nat.le_of_ble_eq_true rfl), (Nat.le_of_ble_eq_true rfl)⟩ ?_
  exact Ev.iret dX7_reason_38 rfl ⟨(Nat.le_of_ble_eq_true rfl), (Nat.le_of_ble_eq_true rfl)⟩
theorem s_type_no1 {h : zH} {I : Nat → Int → Int} {F : zF} (hR : zRM h) {n : Nat} (hn : I 261 0 = n) (hn24 : n ≤ 24) {v : Int} (h1 : ¬ (0 ≤ v ∧ v ≤ 127)) : Ev M_X7_type 0 [(0, zr (some 260)), (1, zi v)] [] (h.1, zrw I F, h.2.2) (0, 0) (.inl (some (zi 0)), (h.1, zrw (zup I 260 2 1) F, h.2.2)) := by
  refine Ev.aload_n (pc := 0) (n := (0, 0)) (i := 0) dX7_type_0 rfl rfl ?_
  refine Ev.iload_n (pc := 1) (n := (0, 0)) (i := 1) dX7_type_1 rfl rfl ?_
  refine Ev.iconst (pc := 2) (n := (0, 0)) dX7_type_2 ?_
  refine Ev.bipush (pc := 3) (n := (0, 0)) dX7_type_3 ?_
  refine Ev.callS (pc := 5) (n := (0, 0)) (as := [zi v, zi 0, zi 127]) (st := [zr (some 260)]) (s_in (h.1, zrw I F, h.2.2) v 0 127) dX7_type_5 ok_X7_in (lk_X7_91 rfl) ⟨(Nat.le_of_ble_eq_true rfl), (Nat.le_of_ble_eq_true rfl)⟩ rfl (Nat.le_of_ble_eq_true rfl) (Nat.le_of_ble_eq_true rfl) ⟨(Nat.le_of_ble_eq_true rfl), (Nat.le_of_ble_eq_true rfl)⟩ ?_
  rw [if_neg h1]
  refine Ev.if_ne (pc := 8) (n := (0, 0)) (tgt := 15) dX7_type_8 rfl (fun hc => absurd rfl hc) (fun hc => ?_)
  refine Ev.iconst (pc := 11) (n := (0, 0)) dX7_type_11 ?_
  refine Ev.goto (pc := 12) (n := (0, 0)) (tgt := 30) dX7_type_12 rfl ?_
  refine Ev.callV (pc := 30) (n := (0, 0)) (ob := 260) (as := [zi 1]) (st := []) (s_refF hR 1) dX7_type_30 ok_X7_isRefused (lk_X7_60 rfl) ⟨(Nat.le_of_ble_eq_true rfl), (Nat.le_of_ble_eq_true rfl)⟩ (zk_at hR.1 rfl) ⟨by decide, rfl⟩ rfl (Nat.le_of_ble_eq_true rfl) (Nat.le_of_ble_eq_true rfl) ⟨(Nat.le_of_ble_eq_true rfl), (Nat.le_of_ble_eq_true rfl)⟩ ?_
  rw [if_neg (by decide : ¬ (1 : Int) = 0)]
  refine Ev.if_eq (pc := 33) (n := (0, 0)) (tgt := 38) dX7_type_33 rfl (fun hc9 => absurd hc9 (by decide)) (fun hc9 => ?_)
  refine Ev.iconst (pc := 36) (n := (0, 0)) dX7_type_36 ?_
  exact Ev.iret dX7_type_37 rfl ⟨(Nat.le_of_ble_eq_true rfl), (Nat.le_of_ble_eq_true rfl)⟩
theorem s_type_no2 {h : zH} {I : Nat → Int → Int} {F : zF} (hR : zRM h) {n : Nat} (hn : I 261 0 = n) (hn24 : n ≤ 24) {v : Int} (h1 : 0 ≤ v ∧ v ≤ 127) (hm : I 260 4 = 150) : Ev M_X7_type 0 [(0, zr (some 260)), (1, zi v)] [] (h.1, zrw I F, h.2.2) (0, 0) (.inl (some (zi 0)), (h.1, zrw (zup I 260 2 2) F, h.2.2)) := by
  refine Ev.aload_n (pc := 0) (n := (0, 0)) (i := 0) dX7_type_0 rfl rfl ?_
  refine Ev.iload_n (pc := 1) (n := (0, 0)) (i := 1) dX7_type_1 rfl rfl ?_
  refine Ev.iconst (pc := 2) (n := (0, 0)) dX7_type_2 ?_
  refine Ev.bipush (pc := 3) (n := (0, 0)) dX7_type_3 ?_
  refine Ev.callS (pc := 5) (n := (0, 0)) (as := [zi v, zi 0, zi 127]) (st := [zr (some 260)]) (s_in (h.1, zrw I F, h.2.2) v 0 127) dX7_type_5 ok_X7_in (lk_X7_91 rfl) ⟨(Nat.le_of_ble_eq_true rfl), (Nat.le_of_ble_eq_true rfl)⟩ rfl (Nat.le_of_ble_eq_true rfl) (Nat.le_of_ble_eq_true rfl) ⟨(Nat.le_of_ble_eq_true rfl), (Nat.le_of_ble_eq_true rfl)⟩ ?_
  rw [if_pos h1]
  refine Ev.if_ne (pc := 8) (n := (0, 0)) (tgt := 15) dX7_type_8 rfl (fun hc => ?_) (fun hc => absurd hc (by decide))
  refine Ev.aload_n (pc := 15) (n := (0, 0)) (i := 0) dX7_type_15 rfl rfl ?_
  refine Ev.gI (pc := 16) (n := (0, 0)) (x := 150) dX7_type_16 fl_X7_183 (zk_at hR.1 rfl) rfl ((congrFun (zrw_o I F (by decide)) 4).trans hm) ?_
  refine Ev.sipush (pc := 19) (n := (0, 0)) dX7_type_19 ?_
  refine Ev.icmp_ne (pc := 22) (n := (0, 0)) (tgt := 29) dX7_type_22 rfl (fun hc2 => absurd rfl hc2) (fun hc2 => ?_)
  refine Ev.iconst (pc := 25) (n := (0, 0)) dX7_type_25 ?_
  refine Ev.goto (pc := 26) (n := (0, 0)) (tgt := 30) dX7_type_26 rfl ?_
  refine Ev.callV (pc := 30) (n := (0, 0)) (ob := 260) (as := [zi 2]) (st := []) (s_refF hR 2) dX7_type_30 ok_X7_isRefused (lk_X7_60 rfl) ⟨(Nat.le_of_ble_eq_true rfl), (Nat.le_of_ble_eq_true rfl)⟩ (zk_at hR.1 rfl) ⟨by decide, rfl⟩ rfl (Nat.le_of_ble_eq_true rfl) (Nat.le_of_ble_eq_true rfl) ⟨(Nat.le_of_ble_eq_true rfl), (Nat.le_of_ble_eq_true rfl)⟩ ?_
  rw [if_neg (by decide : ¬ (2 : Int) = 0)]
  refine Ev.if_eq (pc := 33) (n := (0, 0)) (tgt := 38) dX7_type_33 rfl (fun hc9 => absurd hc9 (by decide)) (fun hc9 => ?_)
  refine Ev.iconst (pc := 36) (n := (0, 0)) dX7_type_36 ?_
  exact Ev.iret dX7_type_37 rfl ⟨(Nat.le_of_ble_eq_true rfl), (Nat.le_of_ble_eq_true rfl)⟩
-- type
theorem s_type {h : zH} {I : Nat → Int → Int} {F : zF} (hR : zRM h) {n : Nat} (hn : I 261 0 = n) (hn24 : n ≤ 24) {v m : Int} (h1 : 0 ≤ v ∧ v ≤ 127) (hm : I 260 4 = m) (hm2 : 0 ≤ m ∧ m < 150) : Ev M_X7_type 0 [(0, zr (some 260)), (1, zi v)] [] (h.1, zrw I F, h.2.2) (0, 0) (.inl (some (zi (m + 1))), (h.1, zrw (zup (zup (zup I 260 2 0) 262 m v) 260 4 (m + 1)) F, h.2.2)) := by
  have hm9 : zup I 260 2 0 260 4 = m := by rw [zup_k _ _ _ _ (by decide)]; exact hm
  refine Ev.aload_n (pc := 0) (n := (0, 0)) (i := 0) dX7_type_0 rfl rfl ?_
  refine Ev.iload_n (pc := 1) (n := (0, 0)) (i := 1) dX7_type_1 rfl rfl ?_
  refine Ev.iconst (pc := 2) (n := (0, 0)) dX7_type_2 ?_
  refine Ev.bipush (pc := 3) (n := (0, 0)) dX7_type_3 ?_
  refine Ev.callS (pc := 5) (n := (0, 0)) (as := [zi v, zi 0, zi 127]) (st := [zr (some 260)]) (s_in (h.1, zrw I F, h.2.2) v 0 127) dX7_type_5 ok_X7_in (lk_X7_91 rfl) ⟨(Nat.le_of_ble_eq_true rfl), (Nat.le_of_ble_eq_true rfl)⟩ rfl (Nat.le_of_ble_eq_true rfl) (Nat.le_of_ble_eq_true rfl) ⟨(Nat.le_of_ble_eq_true rfl), (Nat.le_of_ble_eq_true rfl)⟩ ?_
  rw [if_pos h1]
  refine Ev.if_ne (pc := 8) (n := (0, 0)) (tgt := 15) dX7_type_8 rfl (fun hc => ?_) (fun hc => absurd hc (by decide))
  refine Ev.aload_n (pc := 15) (n := (0, 0)) (i := 0) dX7_type_15 rfl rfl ?_
  refine Ev.gI (pc := 16) (n := (0, 0)) (x := m) dX7_type_16 fl_X7_183 (zk_at hR.1 rfl) rfl ((congrFun (zrw_o I F (by decide)) 4).trans hm) ?_
  refine Ev.sipush (pc := 19) (n := (0, 0)) dX7_type_19 ?_
  refine Ev.icmp_ne (pc := 22) (n := (0, 0)) (tgt := 29) dX7_type_22 rfl (fun hc2 => ?_) (fun hc2 => absurd hc2 (by omega))
  refine Ev.iconst (pc := 29) (n := (0, 0)) dX7_type_29 ?_
  refine Ev.callV (pc := 30) (n := (0, 0)) (ob := 260) (as := [zi 0]) (st := []) (s_refF hR 0) dX7_type_30 ok_X7_isRefused (lk_X7_60 rfl) ⟨(Nat.le_of_ble_eq_true rfl), (Nat.le_of_ble_eq_true rfl)⟩ (zk_at hR.1 rfl) ⟨by decide, rfl⟩ rfl (Nat.le_of_ble_eq_true rfl) (Nat.le_of_ble_eq_true rfl) ⟨(Nat.le_of_ble_eq_true rfl), (Nat.le_of_ble_eq_true rfl)⟩ ?_
  rw [if_pos (rfl : (0 : Int) = 0)]
  refine Ev.if_eq (pc := 33) (n := (0, 0)) (tgt := 38) dX7_type_33 rfl (fun hc9 => ?_) (fun hc9 => absurd rfl hc9)
  refine Ev.aload_n (pc := 38) (n := (0, 0)) (i := 0) dX7_type_38 rfl rfl ?_
  refine Ev.gR (pc := 39) (n := (0, 0)) (r := (some 262)) dX7_type_39 fl_X7_13 (zk_at hR.1 rfl) rfl hR.2.2.1 ?_
  refine Ev.aload_n (pc := 42) (n := (0, 0)) (i := 0) dX7_type_42 rfl rfl ?_
  refine Ev.gI (pc := 43) (n := (0, 0)) (x := m) dX7_type_43 fl_X7_183 (zk_at hR.1 rfl) rfl ((congrFun (zrw_o (zup I 260 2 0) F (by decide)) 4).trans hm9) ?_
  refine Ev.iload_n (pc := 46) (n := (0, 0)) (i := 1) dX7_type_46 rfl rfl ?_
  refine Ev.iast (pc := 47) (n := (0, 0)) dX7_type_47 (zk_at hR.1 rfl) (by omega) (by omega) ?_
  refine Ev.hpeq (h' := (h.1, zrw (zup (zup I 260 2 0) 262 m v) F, h.2.2)) (congrArg (fun I9 => (h.1, I9, h.2.2)) (zrw_up2 (zup I 260 2 0) F (x := m) (v := v) (a := 262) (by decide))) ?_
  have hm8 : (zup (zup I 260 2 0) 262 m v) 260 4 = m := by rw [zup_o _ _ _ _ (by decide)]; exact hm9
  refine Ev.aload_n (pc := 48) (n := (0, 0)) (i := 0) dX7_type_48 rfl rfl ?_
  refine Ev.dup (pc := 49) (n := (0, 0)) dX7_type_49 rfl ?_
  refine Ev.gI (pc := 50) (n := (0, 0)) (x := m) dX7_type_50 fl_X7_183 (zk_at hR.1 rfl) rfl ((congrFun (zrw_o (zup (zup I 260 2 0) 262 m v) F (by decide)) 4).trans hm8) ?_
  refine Ev.iconst (pc := 53) (n := (0, 0)) dX7_type_53 ?_
  refine Ev.iadd (pc := 54) (n := (0, 0)) dX7_type_54 ⟨by omega, by omega⟩ ?_
  refine Ev.putI (pc := 55) (n := (0, 0)) dX7_type_55 fl_X7_183 (zk_at hR.1 rfl) rfl rfl (fun h9 => by cases h9) ?_
  refine Ev.hpeq (h' := (h.1, zrw (zup (zup (zup I 260 2 0) 262 m v) 260 4 (m + 1)) F, h.2.2)) (congrArg (fun I9 => (h.1, I9, h.2.2)) (zrw_up2 (zup (zup I 260 2 0) 262 m v) F (x := 4) (v := m + 1) (a := 260) (by decide))) ?_
  refine Ev.aload_n (pc := 58) (n := (0, 0)) (i := 0) dX7_type_58 rfl rfl ?_
  refine Ev.gI (pc := 59) (n := (0, 0)) (x := (m + 1)) dX7_type_59 fl_X7_183 (zk_at hR.1 rfl) rfl ((congrFun (zrw_o (zup (zup (zup I 260 2 0) 262 m v) 260 4 (m + 1)) F (by decide)) 4).trans (zup_s _ _ _ _)) ?_
  exact Ev.iret dX7_type_62 rfl ⟨(Nat.le_of_ble_eq_true rfl), (Nat.le_of_ble_eq_true rfl)⟩
theorem s_clearCommands {h : zH} {I : Nat → Int → Int} {F : zF} (hR : zRM h) {n : Nat} (hn : I 261 0 = n) (hn24 : n ≤ 24) {m : Int} (hm : I 260 4 = m) : Ev M_X7_clearCommands 0 [(0, zr (some 260))] [] (h.1, zrw I F, h.2.2) (0, 0) (.inl (some (zi m)), (h.1, zrw (zup (zup I 260 2 0) 260 4 0) F, h.2.2)) := by
  refine Ev.aload_n (pc := 0) (n := (0, 0)) (i := 0) dX7_clearCommands_0 rfl rfl ?_
  refine Ev.iconst (pc := 1) (n := (0, 0)) dX7_clearCommands_1 ?_
  refine Ev.putI (pc := 2) (n := (0, 0)) dX7_clearCommands_2 fl_X7_57 (zk_at hR.1 rfl) rfl rfl (fun h9 => by cases h9) ?_
  refine Ev.hpeq (h' := (h.1, zrw (zup I 260 2 0) F, h.2.2)) (congrArg (fun I9 => (h.1, I9, h.2.2)) (zrw_up2 I F (x := 2) (v := 0) (a := 260) (by decide))) ?_
  have hm9 : zup I 260 2 0 260 4 = m := by rw [zup_k _ _ _ _ (by decide)]; exact hm
  refine Ev.aload_n (pc := 5) (n := (0, 0)) (i := 0) dX7_clearCommands_5 rfl rfl ?_
  refine Ev.gI (pc := 6) (n := (0, 0)) (x := m) dX7_clearCommands_6 fl_X7_183 (zk_at hR.1 rfl) rfl ((congrFun (zrw_o (zup I 260 2 0) F (by decide)) 4).trans hm9) ?_
  refine Ev.istore_n (pc := 9) (n := (0, 0)) (i := 1) (L' := [(1, zi m), (0, zr (some 260))]) dX7_clearCommands_9 rfl (Nat.le_of_ble_eq_true rfl) rfl ?_
  refine Ev.aload_n (pc := 10) (n := (0, 0)) (i := 0) dX7_clearCommands_10 rfl rfl ?_
  refine Ev.iconst (pc := 11) (n := (0, 0)) dX7_clearCommands_11 ?_
  refine Ev.putI (pc := 12) (n := (0, 0)) dX7_clearCommands_12 fl_X7_183 (zk_at hR.1 rfl) rfl rfl (fun h9 => by cases h9) ?_
  refine Ev.hpeq (h' := (h.1, zrw (zup (zup I 260 2 0) 260 4 0) F, h.2.2)) (congrArg (fun I9 => (h.1, I9, h.2.2)) (zrw_up2 (zup I 260 2 0) F (x := 4) (v := 0) (a := 260) (by decide))) ?_
  refine Ev.iload_n (pc := 15) (n := (0, 0)) (i := 1) dX7_clearCommands_15 rfl rfl ?_
  exact Ev.iret dX7_clearCommands_16 rfl ⟨(Nat.le_of_ble_eq_true rfl), (Nat.le_of_ble_eq_true rfl)⟩
