/-! ===== the class: what it requires ===== -/
theorem s_requireRange (h : zH) {v lo hi : Int} (h1 : lo ≤ v ∧ v ≤ hi) : Ev M_X6_requireRange 0 [(0, zi v), (1, zi lo), (2, zi hi)] [] h (0, 0) (.inl none, h) := by
  refine Ev.iload_n (pc := 0) (n := (0, 0)) (i := 0) dX6_requireRange_0 rfl rfl ?_
  refine Ev.iload_n (pc := 1) (n := (0, 0)) (i := 1) dX6_requireRange_1 rfl rfl ?_
  refine Ev.iload_n (pc := 2) (n := (0, 0)) (i := 2) dX6_requireRange_2 rfl rfl ?_
  refine Ev.callS (pc := 3) (n := (0, 0)) (as := [zi v, zi lo, zi hi]) (st := []) (s_isBetween h v lo hi) dX6_requireRange_3 ok_X6_isBetween (lk_X6_175 rfl) ⟨(Nat.le_of_ble_eq_true rfl), (Nat.le_of_ble_eq_true rfl)⟩ rfl (Nat.le_of_ble_eq_true rfl) (Nat.le_of_ble_eq_true rfl) ⟨(Nat.le_of_ble_eq_true rfl), (Nat.le_of_ble_eq_true rfl)⟩ ?_
  rw [if_pos h1]
  refine Ev.if_ne (pc := 6) (n := (0, 0)) (tgt := 19) dX6_requireRange_6 rfl (fun hc => ?_) (fun hc => absurd hc (by decide))
  exact Ev.vret dX6_requireRange_19 rfl ⟨(Nat.le_of_ble_eq_true rfl), (Nat.le_of_ble_eq_true rfl)⟩
theorem s_requireRange_no (h : zH) {v lo hi : Int} (h1 : ¬ (lo ≤ v ∧ v ≤ hi)) : Ev M_X6_requireRange 0 [(0, zi v), (1, zi lo), (2, zi hi)] [] h (0, 0) (.inr 1, h) := by
  refine Ev.iload_n (pc := 0) (n := (0, 0)) (i := 0) dX6_requireRange_0 rfl rfl ?_
  refine Ev.iload_n (pc := 1) (n := (0, 0)) (i := 1) dX6_requireRange_1 rfl rfl ?_
  refine Ev.iload_n (pc := 2) (n := (0, 0)) (i := 2) dX6_requireRange_2 rfl rfl ?_
  refine Ev.callS (pc := 3) (n := (0, 0)) (as := [zi v, zi lo, zi hi]) (st := []) (s_isBetween h v lo hi) dX6_requireRange_3 ok_X6_isBetween (lk_X6_175 rfl) ⟨(Nat.le_of_ble_eq_true rfl), (Nat.le_of_ble_eq_true rfl)⟩ rfl (Nat.le_of_ble_eq_true rfl) (Nat.le_of_ble_eq_true rfl) ⟨(Nat.le_of_ble_eq_true rfl), (Nat.le_of_ble_eq_true rfl)⟩ ?_
  rw [if_neg h1]
  refine Ev.if_ne (pc := 6) (n := (0, 0)) (tgt := 19) dX6_requireRange_6 rfl (fun hc => absurd rfl hc) (fun hc => ?_)
  exact Ev.throwS (pc := 9) (n := (0, 0)) dX6_requireRange_9 dX6_requireRange_12 dX6_requireRange_13 dX6_requireRange_15 dX6_requireRange_18 (by decide) rfl (List.mem_of_getElem? (i := 1) rfl) zXw1 rfl ⟨(Nat.le_of_ble_eq_true rfl), (Nat.le_of_ble_eq_true rfl)⟩ ⟨(Nat.le_of_ble_eq_true rfl), (Nat.le_of_ble_eq_true rfl)⟩
theorem s_requireNotNegative (h : zH) {v : Int} (h1 : 0 ≤ v) : Ev M_X6_requireNotNegative 0 [(0, zi v)] [] h (0, 0) (.inl none, h) := by
  refine Ev.iload_n (pc := 0) (n := (0, 0)) (i := 0) dX6_requireNotNegative_0 rfl rfl ?_
  refine Ev.if_ge (pc := 1) (n := (0, 0)) (tgt := 14) dX6_requireNotNegative_1 rfl (fun hc => ?_) (fun hc => absurd hc (by omega))
  exact Ev.vret dX6_requireNotNegative_14 rfl ⟨(Nat.le_of_ble_eq_true rfl), (Nat.le_of_ble_eq_true rfl)⟩
theorem s_requireNotNegative_no (h : zH) {v : Int} (h1 : ¬ (0 ≤ v)) : Ev M_X6_requireNotNegative 0 [(0, zi v)] [] h (0, 0) (.inr 1, h) := by
  refine Ev.iload_n (pc := 0) (n := (0, 0)) (i := 0) dX6_requireNotNegative_0 rfl rfl ?_
  refine Ev.if_ge (pc := 1) (n := (0, 0)) (tgt := 14) dX6_requireNotNegative_1 rfl (fun hc => absurd hc (by omega)) (fun hc => ?_)
  exact Ev.throwS (pc := 4) (n := (0, 0)) dX6_requireNotNegative_4 dX6_requireNotNegative_7 dX6_requireNotNegative_8 dX6_requireNotNegative_10 dX6_requireNotNegative_13 (by decide) rfl (List.mem_of_getElem? (i := 4) rfl) zXw1 rfl ⟨(Nat.le_of_ble_eq_true rfl), (Nat.le_of_ble_eq_true rfl)⟩ ⟨(Nat.le_of_ble_eq_true rfl), (Nat.le_of_ble_eq_true rfl)⟩
theorem s_requireGroup {h : zH} {T n : Nat} {F : zF} {ad dl : Int} {ar q : Nat → Nat} (hC : CT h T n F ad dl ar q) {j : Nat} (hj : j < n) (h1 : F (q j) 1 = 0) : Ev M_X6_requireGroup 0 [(0, zr (some (ar j)))] [] h (0, 0) (.inl none, h) := by
  refine Ev.aload_n (pc := 0) (n := (0, 0)) (i := 0) dX6_requireGroup_0 rfl rfl ?_
  refine Ev.gI (pc := 1) (n := (0, 0)) (x := (F (q j) 1)) dX6_requireGroup_1 fl_X6_186 (hC.nd hj).1 rfl (hC.c1 hj) ?_
  refine Ev.if_eq (pc := 4) (n := (0, 0)) (tgt := 17) dX6_requireGroup_4 rfl (fun hc => ?_) (fun hc => absurd hc (by omega))
  exact Ev.vret dX6_requireGroup_17 rfl ⟨(Nat.le_of_ble_eq_true rfl), (Nat.le_of_ble_eq_true rfl)⟩
theorem s_requireGroup_no {h : zH} {T n : Nat} {F : zF} {ad dl : Int} {ar q : Nat → Nat} (hC : CT h T n F ad dl ar q) {j : Nat} (hj : j < n) (h1 : F (q j) 1 = 1) : Ev M_X6_requireGroup 0 [(0, zr (some (ar j)))] [] h (0, 0) (.inr 2, h) := by
  refine Ev.aload_n (pc := 0) (n := (0, 0)) (i := 0) dX6_requireGroup_0 rfl rfl ?_
  refine Ev.gI (pc := 1) (n := (0, 0)) (x := (F (q j) 1)) dX6_requireGroup_1 fl_X6_186 (hC.nd hj).1 rfl (hC.c1 hj) ?_
  refine Ev.if_eq (pc := 4) (n := (0, 0)) (tgt := 17) dX6_requireGroup_4 rfl (fun hc => absurd hc (by omega)) (fun hc => ?_)
  exact Ev.throwS (pc := 7) (n := (0, 0)) dX6_requireGroup_7 dX6_requireGroup_10 dX6_requireGroup_11 dX6_requireGroup_13 dX6_requireGroup_16 (by decide) rfl (List.mem_of_getElem? (i := 3) rfl) zXw2 rfl ⟨(Nat.le_of_ble_eq_true rfl), (Nat.le_of_ble_eq_true rfl)⟩ ⟨(Nat.le_of_ble_eq_true rfl), (Nat.le_of_ble_eq_true rfl)⟩
theorem s_requireTask {h : zH} {T n : Nat} {F : zF} {ad dl : Int} {ar q : Nat → Nat} (hC : CT h T n F ad dl ar q) {j : Nat} (hj : j < n) (h1 : F (q j) 1 = 1) : Ev M_X6_requireTask 0 [(0, zr (some (ar j)))] [] h (0, 0) (.inl none, h) := by
  refine Ev.aload_n (pc := 0) (n := (0, 0)) (i := 0) dX6_requireTask_0 rfl rfl ?_
  refine Ev.gI (pc := 1) (n := (0, 0)) (x := (F (q j) 1)) dX6_requireTask_1 fl_X6_186 (hC.nd hj).1 rfl (hC.c1 hj) ?_
  refine Ev.if_ne (pc := 4) (n := (0, 0)) (tgt := 17) dX6_requireTask_4 rfl (fun hc => ?_) (fun hc => absurd hc (by omega))
  exact Ev.vret dX6_requireTask_17 rfl ⟨(Nat.le_of_ble_eq_true rfl), (Nat.le_of_ble_eq_true rfl)⟩
theorem s_requireTask_no {h : zH} {T n : Nat} {F : zF} {ad dl : Int} {ar q : Nat → Nat} (hC : CT h T n F ad dl ar q) {j : Nat} (hj : j < n) (h1 : F (q j) 1 = 0) : Ev M_X6_requireTask 0 [(0, zr (some (ar j)))] [] h (0, 0) (.inr 2, h) := by
  refine Ev.aload_n (pc := 0) (n := (0, 0)) (i := 0) dX6_requireTask_0 rfl rfl ?_
  refine Ev.gI (pc := 1) (n := (0, 0)) (x := (F (q j) 1)) dX6_requireTask_1 fl_X6_186 (hC.nd hj).1 rfl (hC.c1 hj) ?_
  refine Ev.if_ne (pc := 4) (n := (0, 0)) (tgt := 17) dX6_requireTask_4 rfl (fun hc => absurd hc (by omega)) (fun hc => ?_)
  exact Ev.throwS (pc := 7) (n := (0, 0)) dX6_requireTask_7 dX6_requireTask_10 dX6_requireTask_11 dX6_requireTask_13 dX6_requireTask_16 (by decide) rfl (List.mem_of_getElem? (i := 5) rfl) zXw2 rfl ⟨(Nat.le_of_ble_eq_true rfl), (Nat.le_of_ble_eq_true rfl)⟩ ⟨(Nat.le_of_ble_eq_true rfl), (Nat.le_of_ble_eq_true rfl)⟩
theorem s_existing {h : zH} (hM : zCM h) {T n : Nat} (hTr : h.2.2 0 3 = some T) {F : zF} {ad dl : Int} {ar q : Nat → Nat} (hC : CT h T n F ad dl ar q) {dep : Nat → Nat} {B : Int} (hw : WF n F dep B) {x : Int} {k : Nat} (hz : zpos n F x = k) : ∃ j, j < n ∧ q j = k ∧ Ev M_X6_existing 0 [(0, zr (some 0)), (1, zi x)] [] h (0, 0) (.inl (some (zr (some (ar j)))), h) := by
  obtain ⟨j, hj, ej, k1⟩ := s_find_some hC hw hz
  refine ⟨j, hj, ej, ?_⟩
  refine Ev.aload_n (pc := 0) (n := (0, 0)) (i := 0) dX6_existing_0 rfl rfl ?_
  refine Ev.gR (pc := 1) (n := (0, 0)) (r := (some T)) dX6_existing_1 fl_X6_27 (zk_at hM.1 rfl) rfl hTr ?_
  refine Ev.iload_n (pc := 4) (n := (0, 0)) (i := 1) dX6_existing_4 rfl rfl ?_
  refine Ev.callV (pc := 5) (n := (0, 0)) (ob := T) (as := [zi x]) (st := []) (k1) dX6_existing_5 ok_X5_find (lk_X6_167 rfl) ⟨(Nat.le_of_ble_eq_true rfl), (Nat.le_of_ble_eq_true rfl)⟩ hC.1.1.1 ⟨by decide, rfl⟩ rfl (Nat.le_of_ble_eq_true rfl) (Nat.le_of_ble_eq_true rfl) ⟨(Nat.le_of_ble_eq_true rfl), (Nat.le_of_ble_eq_true rfl)⟩ ?_
  refine Ev.astore_n (pc := 8) (n := (0, 0)) (i := 2) (L' := [(2, zr (some (ar j))), (0, zr (some 0)), (1, zi x)]) dX6_existing_8 rfl (Nat.le_of_ble_eq_true rfl) rfl ?_
  refine Ev.aload_n (pc := 9) (n := (0, 0)) (i := 2) dX6_existing_9 rfl rfl ?_
  refine Ev.ifnonnull (pc := 10) (n := (0, 0)) (tgt := 23) dX6_existing_10 rfl (fun x9 hc => ?_) (fun hc => nomatch hc)
  refine Ev.aload_n (pc := 23) (n := (0, 0)) (i := 2) dX6_existing_23 rfl rfl ?_
  exact Ev.aret dX6_existing_24 rfl rfl ⟨(Nat.le_of_ble_eq_true rfl), (Nat.le_of_ble_eq_true rfl)⟩
theorem s_existing_no {h : zH} (hM : zCM h) {T n : Nat} (hTr : h.2.2 0 3 = some T) {F : zF} {ad dl : Int} {ar q : Nat → Nat} (hC : CT h T n F ad dl ar q) {x : Int} (hz : zpos n F x = -1) : Ev M_X6_existing 0 [(0, zr (some 0)), (1, zi x)] [] h (0, 0) (.inr 0, h) := by
  refine Ev.aload_n (pc := 0) (n := (0, 0)) (i := 0) dX6_existing_0 rfl rfl ?_
  refine Ev.gR (pc := 1) (n := (0, 0)) (r := (some T)) dX6_existing_1 fl_X6_27 (zk_at hM.1 rfl) rfl hTr ?_
  refine Ev.iload_n (pc := 4) (n := (0, 0)) (i := 1) dX6_existing_4 rfl rfl ?_
  refine Ev.callV (pc := 5) (n := (0, 0)) (ob := T) (as := [zi x]) (st := []) (s_find_none hC hz) dX6_existing_5 ok_X5_find (lk_X6_167 rfl) ⟨(Nat.le_of_ble_eq_true rfl), (Nat.le_of_ble_eq_true rfl)⟩ hC.1.1.1 ⟨by decide, rfl⟩ rfl (Nat.le_of_ble_eq_true rfl) (Nat.le_of_ble_eq_true rfl) ⟨(Nat.le_of_ble_eq_true rfl), (Nat.le_of_ble_eq_true rfl)⟩ ?_
  refine Ev.astore_n (pc := 8) (n := (0, 0)) (i := 2) (L' := [(2, zr none), (0, zr (some 0)), (1, zi x)]) dX6_existing_8 rfl (Nat.le_of_ble_eq_true rfl) rfl ?_
  refine Ev.aload_n (pc := 9) (n := (0, 0)) (i := 2) dX6_existing_9 rfl rfl ?_
  refine Ev.ifnonnull (pc := 10) (n := (0, 0)) (tgt := 23) dX6_existing_10 rfl (fun x9 hc => nomatch hc) (fun hc => ?_)
  exact Ev.throwS (pc := 13) (n := (0, 0)) dX6_existing_13 dX6_existing_16 dX6_existing_17 dX6_existing_19 dX6_existing_22 (by decide) rfl (List.mem_of_getElem? (i := 0) rfl) zXw0 rfl ⟨(Nat.le_of_ble_eq_true rfl), (Nat.le_of_ble_eq_true rfl)⟩ ⟨(Nat.le_of_ble_eq_true rfl), (Nat.le_of_ble_eq_true rfl)⟩
theorem s_requireAllowed0 (h : zH) : Ev M_X6_requireAllowed 0 [(0, zr (some (4104 + 0)))] [] h (0, 0) (.inl none, h) := by
  refine Ev.aload_n (pc := 0) (n := (0, 0)) (i := 0) dX6_requireAllowed_0 rfl rfl ?_
  refine Ev.gsR (pc := 1) (n := (0, 0)) (i := 1) dX6_requireAllowed_1 (by decide) (zgw_in (List.mem_of_getElem? (i := 640) (by decide +kernel)) rfl) ?_
  refine Ev.acmp_ne (pc := 4) (n := (0, 0)) (tgt := 17) dX6_requireAllowed_4 rfl (Or.inr (Or.inr ⟨0, 1, by decide, by decide, rfl, rfl⟩)) (fun hc => ?_) (fun hc => absurd hc (by decide))
  refine Ev.aload_n (pc := 17) (n := (0, 0)) (i := 0) dX6_requireAllowed_17 rfl rfl ?_
  refine Ev.gsR (pc := 18) (n := (0, 0)) (i := 2) dX6_requireAllowed_18 (by decide) (zgw_in (List.mem_of_getElem? (i := 709) (by decide +kernel)) rfl) ?_
  refine Ev.acmp_ne (pc := 21) (n := (0, 0)) (tgt := 34) dX6_requireAllowed_21 rfl (Or.inr (Or.inr ⟨0, 2, by decide, by decide, rfl, rfl⟩)) (fun hc => ?_) (fun hc => absurd hc (by decide))
  refine Ev.aload_n (pc := 34) (n := (0, 0)) (i := 0) dX6_requireAllowed_34 rfl rfl ?_
  refine Ev.gsR (pc := 35) (n := (0, 0)) (i := 3) dX6_requireAllowed_35 (by decide) (zgw_in (List.mem_of_getElem? (i := 726) (by decide +kernel)) rfl) ?_
  refine Ev.acmp_ne (pc := 38) (n := (0, 0)) (tgt := 51) dX6_requireAllowed_38 rfl (Or.inr (Or.inr ⟨0, 3, by decide, by decide, rfl, rfl⟩)) (fun hc => ?_) (fun hc => absurd hc (by decide))
  exact Ev.vret dX6_requireAllowed_51 rfl ⟨(Nat.le_of_ble_eq_true rfl), (Nat.le_of_ble_eq_true rfl)⟩
theorem s_requireAllowed1 (h : zH) : Ev M_X6_requireAllowed 0 [(0, zr (some (4104 + 1)))] [] h (0, 0) (.inr 0, h) := by
  refine Ev.aload_n (pc := 0) (n := (0, 0)) (i := 0) dX6_requireAllowed_0 rfl rfl ?_
  refine Ev.gsR (pc := 1) (n := (0, 0)) (i := 1) dX6_requireAllowed_1 (by decide) (zgw_in (List.mem_of_getElem? (i := 640) (by decide +kernel)) rfl) ?_
  refine Ev.acmp_ne (pc := 4) (n := (0, 0)) (tgt := 17) dX6_requireAllowed_4 rfl (Or.inr (Or.inr ⟨1, 1, by decide, by decide, rfl, rfl⟩)) (fun hc => absurd rfl hc) (fun hc => ?_)
  exact Ev.throwS (pc := 7) (n := (0, 0)) dX6_requireAllowed_7 dX6_requireAllowed_10 dX6_requireAllowed_11 dX6_requireAllowed_13 dX6_requireAllowed_16 (by decide) rfl (List.mem_of_getElem? (i := 0) rfl) zXw0 rfl ⟨(Nat.le_of_ble_eq_true rfl), (Nat.le_of_ble_eq_true rfl)⟩ ⟨(Nat.le_of_ble_eq_true rfl), (Nat.le_of_ble_eq_true rfl)⟩
theorem s_requireAllowed2 (h : zH) : Ev M_X6_requireAllowed 0 [(0, zr (some (4104 + 2)))] [] h (0, 0) (.inr 1, h) := by
  refine Ev.aload_n (pc := 0) (n := (0, 0)) (i := 0) dX6_requireAllowed_0 rfl rfl ?_
  refine Ev.gsR (pc := 1) (n := (0, 0)) (i := 1) dX6_requireAllowed_1 (by decide) (zgw_in (List.mem_of_getElem? (i := 640) (by decide +kernel)) rfl) ?_
  refine Ev.acmp_ne (pc := 4) (n := (0, 0)) (tgt := 17) dX6_requireAllowed_4 rfl (Or.inr (Or.inr ⟨2, 1, by decide, by decide, rfl, rfl⟩)) (fun hc => ?_) (fun hc => absurd hc (by decide))
  refine Ev.aload_n (pc := 17) (n := (0, 0)) (i := 0) dX6_requireAllowed_17 rfl rfl ?_
  refine Ev.gsR (pc := 18) (n := (0, 0)) (i := 2) dX6_requireAllowed_18 (by decide) (zgw_in (List.mem_of_getElem? (i := 709) (by decide +kernel)) rfl) ?_
  refine Ev.acmp_ne (pc := 21) (n := (0, 0)) (tgt := 34) dX6_requireAllowed_21 rfl (Or.inr (Or.inr ⟨2, 2, by decide, by decide, rfl, rfl⟩)) (fun hc => absurd rfl hc) (fun hc => ?_)
  exact Ev.throwS (pc := 24) (n := (0, 0)) dX6_requireAllowed_24 dX6_requireAllowed_27 dX6_requireAllowed_28 dX6_requireAllowed_30 dX6_requireAllowed_33 (by decide) rfl (List.mem_of_getElem? (i := 1) rfl) zXw1 rfl ⟨(Nat.le_of_ble_eq_true rfl), (Nat.le_of_ble_eq_true rfl)⟩ ⟨(Nat.le_of_ble_eq_true rfl), (Nat.le_of_ble_eq_true rfl)⟩
theorem s_requireAllowed3 (h : zH) : Ev M_X6_requireAllowed 0 [(0, zr (some (4104 + 3)))] [] h (0, 0) (.inr 2, h) := by
  refine Ev.aload_n (pc := 0) (n := (0, 0)) (i := 0) dX6_requireAllowed_0 rfl rfl ?_
  refine Ev.gsR (pc := 1) (n := (0, 0)) (i := 1) dX6_requireAllowed_1 (by decide) (zgw_in (List.mem_of_getElem? (i := 640) (by decide +kernel)) rfl) ?_
  refine Ev.acmp_ne (pc := 4) (n := (0, 0)) (tgt := 17) dX6_requireAllowed_4 rfl (Or.inr (Or.inr ⟨3, 1, by decide, by decide, rfl, rfl⟩)) (fun hc => ?_) (fun hc => absurd hc (by decide))
  refine Ev.aload_n (pc := 17) (n := (0, 0)) (i := 0) dX6_requireAllowed_17 rfl rfl ?_
  refine Ev.gsR (pc := 18) (n := (0, 0)) (i := 2) dX6_requireAllowed_18 (by decide) (zgw_in (List.mem_of_getElem? (i := 709) (by decide +kernel)) rfl) ?_
  refine Ev.acmp_ne (pc := 21) (n := (0, 0)) (tgt := 34) dX6_requireAllowed_21 rfl (Or.inr (Or.inr ⟨3, 2, by decide, by decide, rfl, rfl⟩)) (fun hc => ?_) (fun hc => absurd hc (by decide))
  refine Ev.aload_n (pc := 34) (n := (0, 0)) (i := 0) dX6_requireAllowed_34 rfl rfl ?_
  refine Ev.gsR (pc := 35) (n := (0, 0)) (i := 3) dX6_requireAllowed_35 (by decide) (zgw_in (List.mem_of_getElem? (i := 726) (by decide +kernel)) rfl) ?_
  refine Ev.acmp_ne (pc := 38) (n := (0, 0)) (tgt := 51) dX6_requireAllowed_38 rfl (Or.inr (Or.inr ⟨3, 3, by decide, by decide, rfl, rfl⟩)) (fun hc => absurd rfl hc) (fun hc => ?_)
  exact Ev.throwS (pc := 41) (n := (0, 0)) dX6_requireAllowed_41 dX6_requireAllowed_44 dX6_requireAllowed_45 dX6_requireAllowed_47 dX6_requireAllowed_50 (by decide) rfl (List.mem_of_getElem? (i := 2) rfl) zXw2 rfl ⟨(Nat.le_of_ble_eq_true rfl), (Nat.le_of_ble_eq_true rfl)⟩ ⟨(Nat.le_of_ble_eq_true rfl), (Nat.le_of_ble_eq_true rfl)⟩
/-- all refusals, all changes -/
theorem IsWhy.rng {n : Nat} {F : zF} {kind a b c w : Int} (h : IsWhy n F kind a b c w) (hl : ∃ len st sl dp : Int → Int, IsLen n F len ∧ IsTm n F len st sl dp) : 0 ≤ w ∧ w ≤ 3 := by
  have hT : ∀ x b : Int, 0 ≤ wTask n F x b ∧ wTask n F x b ≤ 3 := fun x b => by unfold wTask; (repeat' split) <;> omega
  rcases h with ⟨-, h⟩ | ⟨-, h⟩ | ⟨-, h⟩ | ⟨-, h⟩ | ⟨-, h⟩ | ⟨-, h⟩ | ⟨-, h⟩ | ⟨-, h⟩
  · rw [h]; unfold wAdd; (repeat' split) <;> omega
  · rw [h]; unfold wAdd; (repeat' split) <;> omega
  · rw [h]; exact hT _ _
  · obtain ⟨len, st, sl, dp, h1, h2⟩ := hl
    rw [h len st sl dp h1 h2]
    have g0 := hT a 0
    have g1 := hT a 1
    unfold wBor
    (repeat' split) <;> omega
  · rw [h]
    have g0 := hT a 0
    have g1 := hT a 1
    unfold wBck
    (repeat' split) <;> omega
  · rcases h with ⟨-, e⟩ | ⟨-, -, ⟨-, e⟩ | ⟨-, v, -, e⟩⟩
    · omega
    · omega
    · rw [e]; split <;> omega
  · rw [h]; unfold wRem; (repeat' split) <;> omega
  · rw [h]; unfold wUnt; (repeat' split) <;> omega
theorem s_refusal {h : zH} {T n : Nat} {F : zF} {ad dl : Int} {ar q : Nat → Nat} (hC : CT h T n F ad dl ar q) {dep : Nat → Nat} {B : Int} (hw : WF n F dep B) (hB : 24 * (60 + B) ≤ 1000000000) {len st sl dp : Int → Int} (hl : IsLen n F len) (ht : IsTm n F len st sl dp) (hP : PLN h n F len st sl dp ar q) {i : Nat} (hi : i < 8) {a b c w : Int} (hw9 : IsWhy n F ((i : Int) + 1) a b c w) : Ev M_X5_refusal 0 [(0, zr (some T)), (1, zr (some (4096 + i))), (2, zi a), (3, zi b), (4, zi c)] [] h (0, 0) (.inl (some (zr (some (4104 + w.toNat)))), h) := by
  have hi8 : i = 0 ∨ i = 1 ∨ i = 2 ∨ i = 3 ∨ i = 4 ∨ i = 5 ∨ i = 6 ∨ i = 7 := by omega
  rcases hi8 with rfl | rfl | rfl | rfl | rfl | rfl | rfl | rfl
  · exact s_refusal0 hC hw hB hl ht hP hw9
  · exact s_refusal1 hC hw hB hl ht hP hw9
  · exact s_refusal2 hC hw hB hl ht hP hw9
  · exact s_refusal3 hC hw hB hl ht hP hw9
  · exact s_refusal4 hC hw hB hl ht hP hw9
  · exact s_refusal5 hC hw hB hl ht hP hw9
  · exact s_refusal6 hC hw hB hl ht hP hw9
  · exact s_refusal7 hC hw hB hl ht hP hw9
theorem s_carryOut {h : zH} {T n : Nat} {F : zF} {ad dl : Int} {ar q : Nat → Nat} (hC : CT h T n F ad dl ar q) {len st sl dp : Int → Int} (hl : IsLen n F len) (ht : IsTm n F len st sl dp) (hP : PLN h n F len st sl dp ar q) {q0 : Nat} (hG : Gd q0 n F ad dl) (hq0 : q0 ≤ 80000) {i : Nat} (hi : i < 8) {a b c : Int} (hw9 : IsWhy n F ((i : Int) + 1) a b c 0) {n2 : Nat} {F2 : zF} {ad2 dl2 ans : Int} (hc9 : IsChg n F ad dl ((i : Int) + 1) a b c n2 F2 ad2 dl2 ans) : ∃ (I3 : Nat → Int → Int) (R3 : Nat → Int → Option Nat), (TS (h.1, I3, R3) T n2 F2 ad2 dl2 ∧ ∀ o, (o < T ∨ T + 51 ≤ o) → I3 o = h.2.1 o ∧ R3 o = h.2.2 o) ∧ Ev M_X5_carryOut 0 [(0, zr (some T)), (1, zr (some (4096 + i))), (2, zi a), (3, zi b), (4, zi c)] [] h (0, 0) (.inl (some (zi ans)), (h.1, I3, R3)) := by
  have hi8 : i = 0 ∨ i = 1 ∨ i = 2 ∨ i = 3 ∨ i = 4 ∨ i = 5 ∨ i = 6 ∨ i = 7 := by omega
  rcases hi8 with rfl | rfl | rfl | rfl | rfl | rfl | rfl | rfl
  · exact s_carryOut0 hC hl ht hP hG hq0 hw9 hc9
  · exact s_carryOut1 hC hl ht hP hG hq0 hw9 hc9
  · exact s_carryOut2 hC hl ht hP hG hq0 hw9 hc9
  · exact s_carryOut3 hC hl ht hP hG hq0 hw9 hc9
  · exact s_carryOut4 hC hl ht hP hG hq0 hw9 hc9
  · exact s_carryOut5 hC hl ht hP hG hq0 hw9 hc9
  · exact s_carryOut6 hC hl ht hP hG hq0 hw9 hc9
  · exact s_carryOut7 hC hl ht hP hG hq0 hw9 hc9
/-! the whole object -/
def CTx (h : zH) (T : Nat) (s : Nat × zF × Int × Int) : Prop := ∃ ar q : Nat → Nat, CT h T s.1 s.2.1 s.2.2.1 s.2.2.2 ar q
abbrev oTr (t : Nat) : Nat := 5 + 51 * t
def CS (h : zH) (σ : Nat → Nat) (cnt : Nat) (t : Int → Int) (L : Nat) (S : Nat → Nat × zF × Int × Int) : Prop :=
  zCM h ∧ TXC h.2.1 t L ∧ ((∀ j, j < 5 → σ j < 5) ∧ ∀ i j, i < 5 → j < 5 → σ i = σ j → i = j) ∧ ((∀ j : Nat, j < 4 → h.2.2 4 j = some (oTr (σ j))) ∧ h.2.2 0 3 = some (oTr (σ 4))) ∧ (h.2.1 0 2 = cnt ∧ cnt ≤ 4) ∧ ∀ j, j < 4 → CTx h (oTr (σ j)) (S j)
theorem CTx.fr {h : zH} {T : Nat} {s : Nat × zF × Int × Int} (hC : CTx h T s) {I' : Nat → Int → Int} {R' : Nat → Int → Option Nat} (e : ∀ o, T ≤ o → o < T + 51 → I' o = h.2.1 o ∧ R' o = h.2.2 o) : CTx (h.1, I', R') T s := by
  obtain ⟨ar, q, hC⟩ := hC
  have s0 := hC.sep (show 0 < 24 by omega)
  refine ⟨ar, q, hC.fr (fun k => congrFun (e T (by omega) (by omega)).1 k) (fun i hi k _ _ => ?_) (fun k _ _ _ => congrFun (e (ar 0) (by omega) (by omega)).1 k) (fun k => congrFun (e T (by omega) (by omega)).2 k) (fun k => congrFun (e (T + 1) (by omega) (by omega)).2 k) (fun i hi => ?_) (congrFun (e (ar 0) (by omega) (by omega)).2 6)⟩
  · have s := hC.sep hi
    exact congrFun (e (ar i) (by omega) (by omega)).1 k
  · have s := hC.sep hi
    exact congrFun (e (ar i) (by omega) (by omega)).2 14
theorem TS.ct {h : zH} {T n : Nat} {F : zF} {ad dl : Int} (hS : TS h T n F ad dl) : CTx h T (n, F, ad, dl) := by
  obtain ⟨ar, q, -, -, -, -, hC, -⟩ := hS
  exact ⟨ar, q, hC⟩
theorem TS.fr {h : zH} {T n : Nat} {F : zF} {ad dl : Int} (hS : TS h T n F ad dl) {I' : Nat → Int → Int} {R' : Nat → Int → Option Nat} (e : ∀ o, T ≤ o → o < T + 51 → I' o = h.2.1 o ∧ R' o = h.2.2 o) : TS (h.1, I', R') T n F ad dl := by
  obtain ⟨ar, q, len, st, sl, dp, hC, hl, ht, hP⟩ := hS
  have s0 := hC.sep (show 0 < 24 by omega)
  have hn := hC.n24
  refine ⟨ar, q, len, st, sl, dp, hC.fr (fun k => congrFun (e T (by omega) (by omega)).1 k) (fun i hi k _ _ => ?_) (fun k _ _ _ => congrFun (e (ar 0) (by omega) (by omega)).1 k) (fun k => congrFun (e T (by omega) (by omega)).2 k) (fun k => congrFun (e (T + 1) (by omega) (by omega)).2 k) (fun i hi => ?_) (congrFun (e (ar 0) (by omega) (by omega)).2 6), hl, ht, fun i hi => ?_⟩
  · have s := hC.sep hi
    exact congrFun (e (ar i) (by omega) (by omega)).1 k
  · have s := hC.sep hi
    exact congrFun (e (ar i) (by omega) (by omega)).2 14
  · have s := hC.sep (show i < 24 by omega)
    obtain ⟨e1, e2⟩ := e (ar i) (by omega) (by omega)
    obtain ⟨e3, e4⟩ := e (ar i + 1) (by omega) (by omega)
    obtain ⟨⟨p0, p1, p2, p3, p4, p5⟩, r, u, w⟩ := hP i hi
    exact ⟨⟨(congrFun e1 8).trans p0, (congrFun e1 9).trans p1, (congrFun e1 10).trans p2, (congrFun e1 11).trans p3, (congrFun e1 12).trans p4, (congrFun e1 13).trans p5⟩, fun r' h0 h4 => (congrFun e3 r').trans (r r' h0 h4), fun h0 => (congrFun e2 6).trans (u h0), fun j hj he => (congrFun e2 6).trans (w j hj he)⟩
theorem CS.fr {h : zH} {σ : Nat → Nat} {cnt : Nat} {t : Int → Int} {L : Nat} {S : Nat → Nat × zF × Int × Int} (hS : CS h σ cnt t L S) {I' : Nat → Int → Int} {R' : Nat → Int → Option Nat} (a0 : I' 0 2 = h.2.1 0 2) (a1 : I' 1 1 = h.2.1 1 1) (a2 : I' 2 = h.2.1 2) (r : ∀ o, o < 5 → R' o = h.2.2 o) (tr : ∀ j, j < 4 → ∀ o, oTr (σ j) ≤ o → o < oTr (σ j) + 51 → I' o = h.2.1 o ∧ R' o = h.2.2 o) : CS (h.1, I', R') σ cnt t L S := by
  obtain ⟨⟨m1, m2, m3, m4, m5⟩, ⟨t1, t2, t3⟩, p, ⟨s1, s2⟩, ⟨c1, c2⟩, k⟩ := hS
  refine ⟨⟨m1, ?_, ?_, ?_, ?_⟩, ⟨a1.trans t1, t2, fun p hp => (congrFun a2 p).trans (t3 p hp)⟩, p, ⟨fun j hj => ?_, ?_⟩, ⟨a0.trans c1, c2⟩, fun j hj => (k j hj).fr (tr j hj)⟩
  · exact (congrFun (r 1 (by decide)) 0).trans m2
  · exact (congrFun (r 1 (by decide)) 2).trans m3
  · exact (congrFun (r 0 (by decide)) 0).trans m4
  · exact (congrFun (r 0 (by decide)) 1).trans m5
  · exact (congrFun (r 4 (by decide)) j).trans (s1 j hj)
  · exact (congrFun (r 0 (by decide)) 3).trans s2
/-- the trees lie apart -/
theorem CS.apart {h : zH} {σ : Nat → Nat} {cnt : Nat} {t : Int → Int} {L : Nat} {S : Nat → Nat × zF × Int × Int} (hS : CS h σ cnt t L S) {i j : Nat} (hi : i < 5) (hj : j < 5) (e : i ≠ j) : oTr (σ i) + 51 ≤ oTr (σ j) ∨ oTr (σ j) + 51 ≤ oTr (σ i) := by
  have := hS.2.2.1.2 i j hi hj
  have h2 : σ i ≠ σ j := fun g => e (this g)
  unfold oTr
  omega
/-- what changes the tree alone -/
theorem CS.tree {h : zH} {σ : Nat → Nat} {cnt : Nat} {t : Int → Int} {L : Nat} {S : Nat → Nat × zF × Int × Int} (hS : CS h σ cnt t L S) {I' : Nat → Int → Int} {R' : Nat → Int → Option Nat} (e : ∀ o, (o < oTr (σ 4) ∨ oTr (σ 4) + 51 ≤ o) → I' o = h.2.1 o ∧ R' o = h.2.2 o) : CS (h.1, I', R') σ cnt t L S := by
  have g : ∀ o, o < 5 → I' o = h.2.1 o ∧ R' o = h.2.2 o := fun o ho => e o (Or.inl (by unfold oTr; omega))
  refine hS.fr (congrFun (g 0 (by decide)).1 2) (congrFun (g 1 (by decide)).1 1) (g 2 (by decide)).1 (fun o ho => (g o ho).2) (fun j hj o h1 h2 => e o ?_)
  have := hS.apart (i := j) (j := 4) (by omega) (by omega) (by omega)
  omega
/-- what reads the text -/
theorem CS.text {h : zH} {σ : Nat → Nat} {cnt : Nat} {t : Int → Int} {L : Nat} {S : Nat → Nat × zF × Int × Int} (hS : CS h σ cnt t L S) {I' : Nat → Int → Int} (e : zCk h.2.1 I') : CS (h.1, I', h.2.2) σ cnt t L S := by
  refine hS.fr (congrFun (e.1 0 (by decide) (by decide)) 2) (e.2 1 (by decide) (by decide)) (e.1 2 (by decide) (by decide)) (fun o _ => rfl) (fun j hj o h1 h2 => ⟨e.1 o ?_ ?_, rfl⟩)
  · unfold oTr at h1; omega
  · unfold oTr at h1; omega
theorem TS.text {h : zH} {T n : Nat} {F : zF} {ad dl : Int} (hS : TS h T n F ad dl) (hT : 5 ≤ T) {I' : Nat → Int → Int} (e : zCk h.2.1 I') : TS (h.1, I', h.2.2) T n F ad dl := hS.fr (fun o h1 h2 => ⟨e.1 o (by omega) (by omega), rfl⟩)
