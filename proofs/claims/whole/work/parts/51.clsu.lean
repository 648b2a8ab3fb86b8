/-! ===== the class: changing, running, undoing ===== -/
theorem s_change_no {h : zH} {σ : Nat → Nat} {cnt : Nat} {t : Int → Int} {L : Nat} {S : Nat → Nat × zF × Int × Int} (hS : CS h σ cnt t L S) {n : Nat} {F : zF} {ad dl : Int} (hT : TS h (oTr (σ 4)) n F ad dl) {q0 : Nat} (hG : Gd q0 n F ad dl) (hq0 : q0 ≤ 80000) {i : Nat} (hi : i < 8) {a b c w : Int} (hw9 : IsWhy n F ((i : Int) + 1) a b c w) (hw0 : ¬ w = 0) : Ev M_X6_change 0 [(0, zr (some 0)), (1, zr (some (4096 + i))), (2, zi a), (3, zi b), (4, zi c)] [] h (0, 0) (.inr (w - 1).toNat, h) := by
  have hM := hS.1
  have hTr := hS.2.2.2.1.2
  have hcn := hS.2.2.2.2.1.1
  have hc4 := hS.2.2.2.2.1.2
  have hK : ∀ j, j < 5 → h.1[oTr (σ j)]? = some (2, 0) := fun j hj => zk_at hM.1 (KK_T _ (hS.2.2.1.1 j hj))
  have hs5 : ∀ j, j < 5 → oTr (σ j) + 51 ≤ 260 := fun j hj => by have := hS.2.2.1.1 j hj; unfold oTr; omega
  obtain ⟨ar, q, len, st, sl, dp, hC, hl, ht, hP⟩ := hT
  obtain ⟨⟨dep, hw⟩, hN, hA, hD⟩ := hG
  have hB : 24 * (60 + 99 * (q0 : Int)) ≤ 1000000000 := by omega
  have hr := hw9.rng ⟨len, st, sl, dp, hl, ht⟩
  have hrf := s_refusal hC hw hB hl ht hP hi hw9
  rcases (show w = 1 ∨ w = 2 ∨ w = 3 by omega) with rfl | rfl | rfl
  · skip
    refine Ev.aload_n (pc := 0) (n := (0, 0)) (i := 0) dX6_change_0 rfl rfl ?_
    refine Ev.gR (pc := 1) (n := (0, 0)) (r := (some (oTr (σ 4)))) dX6_change_1 fl_X6_27 (zk_at hM.1 rfl) rfl hTr ?_
    refine Ev.aload_n (pc := 4) (n := (0, 0)) (i := 1) dX6_change_4 rfl rfl ?_
    refine Ev.iload_n (pc := 5) (n := (0, 0)) (i := 2) dX6_change_5 rfl rfl ?_
    refine Ev.iload_n (pc := 6) (n := (0, 0)) (i := 3) dX6_change_6 rfl rfl ?_
    refine Ev.iload (pc := 7) (n := (0, 0)) dX6_change_7 rfl ?_
    refine Ev.callV (pc := 9) (n := (0, 0)) (ob := (oTr (σ 4))) (as := [zr (some (4096 + i)), zi a, zi b, zi c]) (st := []) (hrf) dX6_change_9 ok_X5_refusal (lk_X6_208 rfl) ⟨(Nat.le_of_ble_eq_true rfl), (Nat.le_of_ble_eq_true rfl)⟩ (hK 4 (by decide)) ⟨by decide, rfl⟩ rfl (Nat.le_of_ble_eq_true rfl) (Nat.le_of_ble_eq_true rfl) ⟨(Nat.le_of_ble_eq_true rfl), (Nat.le_of_ble_eq_true rfl)⟩ ?_
    exact Ev.callSX (pc := 12) (n := (0, 0)) (as := [zr (some (4104 + 1))]) (st := []) (s_requireAllowed1 h) dX6_change_12 ok_X6_requireAllowed (lk_X6_212 rfl) ⟨(Nat.le_of_ble_eq_true rfl), (Nat.le_of_ble_eq_true rfl)⟩ rfl (Nat.le_of_ble_eq_true rfl) (Nat.le_of_ble_eq_true rfl) ⟨(Nat.le_of_ble_eq_true rfl), (Nat.le_of_ble_eq_true rfl)⟩ rfl
  · skip
    refine Ev.aload_n (pc := 0) (n := (0, 0)) (i := 0) dX6_change_0 rfl rfl ?_
    refine Ev.gR (pc := 1) (n := (0, 0)) (r := (some (oTr (σ 4)))) dX6_change_1 fl_X6_27 (zk_at hM.1 rfl) rfl hTr ?_
    refine Ev.aload_n (pc := 4) (n := (0, 0)) (i := 1) dX6_change_4 rfl rfl ?_
    refine Ev.iload_n (pc := 5) (n := (0, 0)) (i := 2) dX6_change_5 rfl rfl ?_
    refine Ev.iload_n (pc := 6) (n := (0, 0)) (i := 3) dX6_change_6 rfl rfl ?_
    refine Ev.iload (pc := 7) (n := (0, 0)) dX6_change_7 rfl ?_
    refine Ev.callV (pc := 9) (n := (0, 0)) (ob := (oTr (σ 4))) (as := [zr (some (4096 + i)), zi a, zi b, zi c]) (st := []) (hrf) dX6_change_9 ok_X5_refusal (lk_X6_208 rfl) ⟨(Nat.le_of_ble_eq_true rfl), (Nat.le_of_ble_eq_true rfl)⟩ (hK 4 (by decide)) ⟨by decide, rfl⟩ rfl (Nat.le_of_ble_eq_true rfl) (Nat.le_of_ble_eq_true rfl) ⟨(Nat.le_of_ble_eq_true rfl), (Nat.le_of_ble_eq_true rfl)⟩ ?_
    exact Ev.callSX (pc := 12) (n := (0, 0)) (as := [zr (some (4104 + 2))]) (st := []) (s_requireAllowed2 h) dX6_change_12 ok_X6_requireAllowed (lk_X6_212 rfl) ⟨(Nat.le_of_ble_eq_true rfl), (Nat.le_of_ble_eq_true rfl)⟩ rfl (Nat.le_of_ble_eq_true rfl) (Nat.le_of_ble_eq_true rfl) ⟨(Nat.le_of_ble_eq_true rfl), (Nat.le_of_ble_eq_true rfl)⟩ rfl
  · skip
    refine Ev.aload_n (pc := 0) (n := (0, 0)) (i := 0) dX6_change_0 rfl rfl ?_
    refine Ev.gR (pc := 1) (n := (0, 0)) (r := (some (oTr (σ 4)))) dX6_change_1 fl_X6_27 (zk_at hM.1 rfl) rfl hTr ?_
    refine Ev.aload_n (pc := 4) (n := (0, 0)) (i := 1) dX6_change_4 rfl rfl ?_
    refine Ev.iload_n (pc := 5) (n := (0, 0)) (i := 2) dX6_change_5 rfl rfl ?_
    refine Ev.iload_n (pc := 6) (n := (0, 0)) (i := 3) dX6_change_6 rfl rfl ?_
    refine Ev.iload (pc := 7) (n := (0, 0)) dX6_change_7 rfl ?_
    refine Ev.callV (pc := 9) (n := (0, 0)) (ob := (oTr (σ 4))) (as := [zr (some (4096 + i)), zi a, zi b, zi c]) (st := []) (hrf) dX6_change_9 ok_X5_refusal (lk_X6_208 rfl) ⟨(Nat.le_of_ble_eq_true rfl), (Nat.le_of_ble_eq_true rfl)⟩ (hK 4 (by decide)) ⟨by decide, rfl⟩ rfl (Nat.le_of_ble_eq_true rfl) (Nat.le_of_ble_eq_true rfl) ⟨(Nat.le_of_ble_eq_true rfl), (Nat.le_of_ble_eq_true rfl)⟩ ?_
    exact Ev.callSX (pc := 12) (n := (0, 0)) (as := [zr (some (4104 + 3))]) (st := []) (s_requireAllowed3 h) dX6_change_12 ok_X6_requireAllowed (lk_X6_212 rfl) ⟨(Nat.le_of_ble_eq_true rfl), (Nat.le_of_ble_eq_true rfl)⟩ rfl (Nat.le_of_ble_eq_true rfl) (Nat.le_of_ble_eq_true rfl) ⟨(Nat.le_of_ble_eq_true rfl), (Nat.le_of_ble_eq_true rfl)⟩ rfl
theorem s_changeC {h : zH} {σ : Nat → Nat} {cnt : Nat} {t : Int → Int} {L : Nat} {S : Nat → Nat × zF × Int × Int} (hS : CS h σ cnt t L S) {n : Nat} {F : zF} {ad dl : Int} (hT : TS h (oTr (σ 4)) n F ad dl) {q0 : Nat} (hG : Gd q0 n F ad dl) (hq0 : q0 ≤ 80000) {i : Nat} (hi : i < 8) {a b c : Int} (hw9 : IsWhy n F ((i : Int) + 1) a b c 0) {n2 : Nat} {F2 : zF} {ad2 dl2 ans : Int} (hc9 : IsChg n F ad dl ((i : Int) + 1) a b c n2 F2 ad2 dl2 ans) : ∃ (σ2 : Nat → Nat) (I3 : Nat → Int → Int) (R3 : Nat → Int → Option Nat), CS (h.1, I3, R3) σ2 (if cnt = 4 then 4 else cnt + 1) t L (svS cnt S (n, F, ad, dl)) ∧ TS (h.1, I3, R3) (oTr (σ2 4)) n2 F2 ad2 dl2 ∧ (∀ o, ((1 ≤ o ∧ o < 4) ∨ 260 ≤ o) → I3 o = h.2.1 o ∧ R3 o = h.2.2 o) ∧ Ev M_X6_change 0 [(0, zr (some 0)), (1, zr (some (4096 + i))), (2, zi a), (3, zi b), (4, zi c)] [] h (0, 0) (.inl (some (zi ans)), (h.1, I3, R3)) := by
  have hM := hS.1
  have hTr := hS.2.2.2.1.2
  have hcn := hS.2.2.2.2.1.1
  have hc4 := hS.2.2.2.2.1.2
  have hK : ∀ j, j < 5 → h.1[oTr (σ j)]? = some (2, 0) := fun j hj => zk_at hM.1 (KK_T _ (hS.2.2.1.1 j hj))
  have hs5 : ∀ j, j < 5 → oTr (σ j) + 51 ≤ 260 := fun j hj => by have := hS.2.2.1.1 j hj; unfold oTr; omega
  have hT0 := hT
  have hG0 := hG
  obtain ⟨ar, q, len, st, sl, dp, hC, hl, ht, hP⟩ := hT
  obtain ⟨⟨dep, hw⟩, hN, hA, hD⟩ := hG
  have hB : 24 * (60 + 99 * (q0 : Int)) ≤ 1000000000 := by omega
  have hrf := s_refusal hC hw hB hl ht hP hi hw9
  obtain ⟨σ2, I2, R2, k1, k2, k3, k4, k5⟩ := s_save hS hT0
  obtain ⟨ar2, q2, len2, st2, sl2, dp2, hC2, hl2, ht2, hP2⟩ := k3
  obtain ⟨I3, R3, ⟨hT3, hfr⟩, k6⟩ := s_carryOut hC2 hl2 ht2 hP2 hG0 hq0 hi hw9 hc9
  have hs5b : oTr (σ2 4) + 51 ≤ 260 := by have := k1.2.2.1.1 4 (by decide); unfold oTr; omega
  refine ⟨σ2, I3, R3, CS.tree (h := (h.1, I2, R2)) k1 hfr, hT3, fun o ho => ?_, ?_⟩
  · have e1 := k4 o ho
    have e2 := hfr o (by unfold oTr; unfold oTr at hs5b; omega)
    exact ⟨e2.1.trans e1.1, e2.2.trans e1.2⟩
  refine Ev.aload_n (pc := 0) (n := (0, 0)) (i := 0) dX6_change_0 rfl rfl ?_
  refine Ev.gR (pc := 1) (n := (0, 0)) (r := (some (oTr (σ 4)))) dX6_change_1 fl_X6_27 (zk_at hM.1 rfl) rfl hTr ?_
  refine Ev.aload_n (pc := 4) (n := (0, 0)) (i := 1) dX6_change_4 rfl rfl ?_
  refine Ev.iload_n (pc := 5) (n := (0, 0)) (i := 2) dX6_change_5 rfl rfl ?_
  refine Ev.iload_n (pc := 6) (n := (0, 0)) (i := 3) dX6_change_6 rfl rfl ?_
  refine Ev.iload (pc := 7) (n := (0, 0)) dX6_change_7 rfl ?_
  refine Ev.callV (pc := 9) (n := (0, 0)) (ob := (oTr (σ 4))) (as := [zr (some (4096 + i)), zi a, zi b, zi c]) (st := []) (hrf) dX6_change_9 ok_X5_refusal (lk_X6_208 rfl) ⟨(Nat.le_of_ble_eq_true rfl), (Nat.le_of_ble_eq_true rfl)⟩ (hK 4 (by decide)) ⟨by decide, rfl⟩ rfl (Nat.le_of_ble_eq_true rfl) (Nat.le_of_ble_eq_true rfl) ⟨(Nat.le_of_ble_eq_true rfl), (Nat.le_of_ble_eq_true rfl)⟩ ?_
  refine Ev.callS (pc := 12) (n := (0, 0)) (as := [zr (some (4104 + 0))]) (st := []) (s_requireAllowed0 h) dX6_change_12 ok_X6_requireAllowed (lk_X6_212 rfl) ⟨(Nat.le_of_ble_eq_true rfl), (Nat.le_of_ble_eq_true rfl)⟩ rfl (Nat.le_of_ble_eq_true rfl) (Nat.le_of_ble_eq_true rfl) ⟨(Nat.le_of_ble_eq_true rfl), (Nat.le_of_ble_eq_true rfl)⟩ ?_
  refine Ev.aload_n (pc := 15) (n := (3, 18)) (i := 0) dX6_change_15 rfl rfl ?_
  refine Ev.callV (pc := 16) (n := (3, 18)) (ob := 0) (as := []) (st := []) (k5) dX6_change_16 ok_X6_save (lk_X6_141 rfl) ⟨(Nat.le_of_ble_eq_true rfl), (Nat.le_of_ble_eq_true rfl)⟩ (zk_at hM.1 rfl) ⟨by decide, rfl⟩ rfl (Nat.le_of_ble_eq_true rfl) (Nat.le_of_ble_eq_true rfl) ⟨(Nat.le_of_ble_eq_true rfl), (Nat.le_of_ble_eq_true rfl)⟩ ?_
  refine Ev.aload_n (pc := 19) (n := (3, 18)) (i := 0) dX6_change_19 rfl rfl ?_
  refine Ev.gR (pc := 20) (n := (3, 18)) (r := (some (oTr (σ2 4)))) dX6_change_20 fl_X6_27 (zk_at hM.1 rfl) rfl k1.2.2.2.1.2 ?_
  refine Ev.aload_n (pc := 23) (n := (3, 18)) (i := 1) dX6_change_23 rfl rfl ?_
  refine Ev.iload_n (pc := 24) (n := (3, 18)) (i := 2) dX6_change_24 rfl rfl ?_
  refine Ev.iload_n (pc := 25) (n := (3, 18)) (i := 3) dX6_change_25 rfl rfl ?_
  refine Ev.iload (pc := 26) (n := (3, 18)) dX6_change_26 rfl ?_
  refine Ev.callV (pc := 28) (n := (3, 18)) (ob := (oTr (σ2 4))) (as := [zr (some (4096 + i)), zi a, zi b, zi c]) (st := []) (k6) dX6_change_28 ok_X5_carryOut (lk_X6_216 rfl) ⟨(Nat.le_of_ble_eq_true rfl), (Nat.le_of_ble_eq_true rfl)⟩ hC2.1.1.1 ⟨by decide, rfl⟩ rfl (Nat.le_of_ble_eq_true rfl) (Nat.le_of_ble_eq_true rfl) ⟨(Nat.le_of_ble_eq_true rfl), (Nat.le_of_ble_eq_true rfl)⟩ ?_
  exact Ev.iret dX6_change_31 rfl ⟨(Nat.le_of_ble_eq_true rfl), (Nat.le_of_ble_eq_true rfl)⟩
theorem s_undoC_no {h : zH} {σ : Nat → Nat} {cnt : Nat} {t : Int → Int} {L : Nat} {S : Nat → Nat × zF × Int × Int} (hS : CS h σ cnt t L S) (hc0 : cnt = 0) : Ev M_X6_undo 0 [(0, zr (some 0))] [] h (0, 0) (.inr 2, h) := by
  subst hc0
  have hM := hS.1
  have hTr := hS.2.2.2.1.2
  have hcn := hS.2.2.2.2.1.1
  have hc4 := hS.2.2.2.2.1.2
  have hK : ∀ j, j < 5 → h.1[oTr (σ j)]? = some (2, 0) := fun j hj => zk_at hM.1 (KK_T _ (hS.2.2.1.1 j hj))
  have hs5 : ∀ j, j < 5 → oTr (σ j) + 51 ≤ 260 := fun j hj => by have := hS.2.2.1.1 j hj; unfold oTr; omega
  refine Ev.aload_n (pc := 0) (n := (0, 0)) (i := 0) dX6_undo_0 rfl rfl ?_
  refine Ev.gI (pc := 1) (n := (0, 0)) (x := 0) dX6_undo_1 fl_X6_22 (zk_at hM.1 rfl) rfl hcn ?_
  refine Ev.iconst (pc := 4) (n := (0, 0)) dX6_undo_4 ?_
  refine Ev.isub (pc := 5) (n := (0, 0)) dX6_undo_5 ⟨by omega, by omega⟩ ?_
  refine Ev.istore_n (pc := 6) (n := (0, 0)) (i := 1) (L' := [(1, zi (0 - 1)), (0, zr (some 0))]) dX6_undo_6 rfl (Nat.le_of_ble_eq_true rfl) rfl ?_
  refine Ev.iload_n (pc := 7) (n := (0, 0)) (i := 1) dX6_undo_7 rfl rfl ?_
  refine Ev.if_lt (pc := 8) (n := (0, 0)) (tgt := 20) dX6_undo_8 rfl (fun hc => ?_) (fun hc => absurd hc (by decide))
  exact Ev.throwS (pc := 20) (n := (0, 0)) dX6_undo_20 dX6_undo_23 dX6_undo_24 dX6_undo_26 dX6_undo_29 (by decide) rfl (List.mem_of_getElem? (i := 7) rfl) zXw2 rfl ⟨(Nat.le_of_ble_eq_true rfl), (Nat.le_of_ble_eq_true rfl)⟩ ⟨(Nat.le_of_ble_eq_true rfl), (Nat.le_of_ble_eq_true rfl)⟩
theorem s_undoC {h : zH} {σ : Nat → Nat} {cnt : Nat} {t : Int → Int} {L : Nat} {S : Nat → Nat × zF × Int × Int} (hS : CS h σ cnt t L S) {n : Nat} {F : zF} {ad dl : Int} (hT : TS h (oTr (σ 4)) n F ad dl) {k : Nat} (hck : cnt = k + 1) {q0 : Nat} (hG : Gd q0 (S k).1 (S k).2.1 (S k).2.2.1 (S k).2.2.2) (hq0 : q0 ≤ 80000) : ∃ (σ2 : Nat → Nat) (I3 : Nat → Int → Int) (R3 : Nat → Int → Option Nat) (S2 : Nat → Nat × zF × Int × Int), CS (h.1, I3, R3) σ2 k t L S2 ∧ (∀ j, j < k → S2 j = S j) ∧ TS (h.1, I3, R3) (oTr (σ2 4)) (S k).1 (S k).2.1 (S k).2.2.1 (S k).2.2.2 ∧ (∀ o, ((1 ≤ o ∧ o < 4) ∨ 260 ≤ o) → I3 o = h.2.1 o ∧ R3 o = h.2.2 o) ∧ Ev M_X6_undo 0 [(0, zr (some 0))] [] h (0, 0) (.inl (some (zi (k : Int))), (h.1, I3, R3)) := by
  subst hck
  have hM := hS.1
  have hTr := hS.2.2.2.1.2
  have hcn := hS.2.2.2.2.1.1
  have hc4 := hS.2.2.2.2.1.2
  have hK : ∀ j, j < 5 → h.1[oTr (σ j)]? = some (2, 0) := fun j hj => zk_at hM.1 (KK_T _ (hS.2.2.1.1 j hj))
  have hs5 : ∀ j, j < 5 → oTr (σ j) + 51 ≤ 260 := fun j hj => by have := hS.2.2.1.1 j hj; unfold oTr; omega
  have hk4 : k < 4 := by omega
  obtain ⟨m1, hx, ⟨p1, p2⟩, ⟨s1, s2⟩, ⟨c1, c2⟩, kk⟩ := hS
  have hSk := s1 k hk4
  obtain ⟨ar0, q1, hC0⟩ := kk k hk4
  have hro : ∀ o, 5 ≤ o → (zup (zup h.2.2 4 (k : Int) (some (oTr (σ 4)))) 0 3 (some (oTr (σ k)))) o = h.2.2 o := fun o ho => funext fun x => by
    rw [zup_o _ _ _ _ (by omega), zup_o _ _ _ _ (by omega)]
  have hio : ∀ o, o ≠ 0 → (zup h.2.1 0 2 (k : Int)) o = h.2.1 o := fun o ho => funext fun x => zup_o _ _ _ _ ho
  have hCk : CTx (h.1, (zup h.2.1 0 2 (k : Int)), (zup (zup h.2.2 4 (k : Int) (some (oTr (σ 4)))) 0 3 (some (oTr (σ k))))) (oTr (σ k)) (S k) := CTx.fr (h := h) ⟨ar0, q1, hC0⟩ (fun o h1 h2 => ⟨hio o (by unfold oTr at h1; omega), hro o (by unfold oTr at h1; omega)⟩)
  obtain ⟨ar2, q2, hC2⟩ := hCk
  obtain ⟨⟨dep, hw⟩, -, -, -⟩ := hG
  have hB : 24 * (60 + 99 * (q0 : Int)) ≤ 1000000000 := by omega
  obtain ⟨len, st, sl, dp, hl, ht⟩ := plan_ex hw
  obtain ⟨I3, R3, hC3, hP3, hfr, k6⟩ := s_plan hC2 hw hB hl ht
  have hap : ∀ i j, i < 5 → j < 5 → i ≠ j → oTr (σ i) + 51 ≤ oTr (σ j) ∨ oTr (σ j) + 51 ≤ oTr (σ i) := fun i j hi hj e => by
    have h2 : σ i ≠ σ j := fun g => e (p2 i j hi hj g)
    unfold oTr
    omega
  have hlow : ∀ o, o < 5 → I3 o = (zup h.2.1 0 2 (k : Int)) o ∧ R3 o = (zup (zup h.2.2 4 (k : Int) (some (oTr (σ 4)))) 0 3 (some (oTr (σ k)))) o := fun o ho => hfr o (Or.inl (by unfold oTr; omega))
  have hoth : ∀ j, j < 5 → j ≠ k → ∀ o, oTr (σ j) ≤ o → o < oTr (σ j) + 51 → I3 o = h.2.1 o ∧ R3 o = h.2.2 o := fun j hj e o h1 h2 => by
    have a := hap j k hj (by omega) e
    have b := hfr o (by omega)
    exact ⟨b.1.trans (hio o (by unfold oTr at h1; omega)), b.2.trans (hro o (by unfold oTr at h1; omega))⟩
  refine ⟨fun j => if j = k then σ 4 else if j = 4 then σ k else σ j, I3, R3, putS S k (n, F, ad, dl), ⟨⟨m1.1, ?_, ?_, ?_, ?_⟩, ⟨?_, hx.2.1, fun p hp => ?_⟩, ⟨fun j hj => ?_, fun i j hi hj e => ?_⟩, ⟨fun j hj => ?_, ?_⟩, ⟨?_, by omega⟩, fun j hj => ?_⟩, fun j hj => if_neg (by omega), ?_, fun o ho => ?_, ?_⟩
  · exact (congrFun (hlow 1 (by decide)).2 0).trans ((zup_o _ _ _ _ (by decide)).trans ((zup_o _ _ _ _ (by decide)).trans m1.2.1))
  · exact (congrFun (hlow 1 (by decide)).2 2).trans ((zup_o _ _ _ _ (by decide)).trans ((zup_o _ _ _ _ (by decide)).trans m1.2.2.1))
  · have e : (zup (zup h.2.2 4 (k : Int) (some (oTr (σ 4)))) 0 3 (some (oTr (σ k)))) 0 0 = h.2.2 0 0 := by rw [zup_k _ _ _ _ (by decide), zup_o _ _ _ _ (by decide)]
    exact (congrFun (hlow 0 (by decide)).2 0).trans (e.trans m1.2.2.2.1)
  · have e : (zup (zup h.2.2 4 (k : Int) (some (oTr (σ 4)))) 0 3 (some (oTr (σ k)))) 0 1 = h.2.2 0 1 := by rw [zup_k _ _ _ _ (by decide), zup_o _ _ _ _ (by decide)]
    exact (congrFun (hlow 0 (by decide)).2 1).trans (e.trans m1.2.2.2.2)
  · exact (congrFun (hlow 1 (by decide)).1 1).trans ((congrFun (hio 1 (by decide)) 1).trans hx.1)
  · exact (congrFun (hlow 2 (by decide)).1 p).trans ((congrFun (hio 2 (by decide)) p).trans (hx.2.2 p hp))
  · show (if j = k then σ 4 else if j = 4 then σ k else σ j) < 5
    split
    · exact p1 _ (by decide)
    · split
      · exact p1 _ (by omega)
      · exact p1 _ hj
  · have w : ∀ j, (if j = k then σ 4 else if j = 4 then σ k else σ j) = σ (if j = k then 4 else if j = 4 then k else j) := fun j => by
      split
      · rfl
      · split <;> rfl
    have e2 : σ (if i = k then 4 else if i = 4 then k else i) = σ (if j = k then 4 else if j = 4 then k else j) := (w i).symm.trans (e.trans (w j))
    have l : ∀ j, j < 5 → (if j = k then 4 else if j = 4 then k else j) < 5 := fun j hj => by (repeat' split) <;> omega
    have e3 := p2 _ _ (l i hi) (l j hj) e2
    (repeat' split at e3) <;> omega
  · have e1 := congrFun (hlow 4 (by decide)).2 (j : Int)
    refine e1.trans ?_
    show (zup (zup h.2.2 4 (k : Int) (some (oTr (σ 4)))) 0 3 (some (oTr (σ k)))) 4 (j : Int) = some (oTr (if j = k then σ 4 else if j = 4 then σ k else σ j))
    rw [zup_o _ _ _ _ (by decide)]
    by_cases c : j = k
    · subst c
      rw [if_pos rfl, zup_s]
    · rw [if_neg c, if_neg (by omega), zup_k _ _ _ _ (by omega)]
      exact s1 j hj
  · have e1 := congrFun (hlow 0 (by decide)).2 3
    refine e1.trans ?_
    show (zup (zup h.2.2 4 (k : Int) (some (oTr (σ 4)))) 0 3 (some (oTr (σ k)))) 0 3 = some (oTr (if 4 = k then σ 4 else if 4 = 4 then σ k else σ 4))
    rw [if_neg (by omega), if_pos rfl, zup_s]
  · exact (congrFun (hlow 0 (by decide)).1 2).trans (zup_s _ _ _ _)
  · show CTx (h.1, I3, R3) (oTr (if j = k then σ 4 else if j = 4 then σ k else σ j)) (putS S k (n, F, ad, dl) j)
    unfold putS
    by_cases c : j = k
    · rw [if_pos c, if_pos c]
      exact CTx.fr hT.ct (hoth 4 (by decide) (by omega))
    · rw [if_neg c, if_neg c, if_neg (by omega)]
      exact (kk j hj).fr (hoth j (by omega) c)
  · show TS (h.1, I3, R3) (oTr (if 4 = k then σ 4 else if 4 = 4 then σ k else σ 4)) (S k).1 (S k).2.1 (S k).2.2.1 (S k).2.2.2
    rw [if_neg (by omega), if_pos rfl]
    exact ⟨ar2, q2, len, st, sl, dp, hC3, hl, ht, hP3⟩
  · have := hs5 k (by omega)
    have b := hfr o (by unfold oTr; unfold oTr at this; omega)
    have w : (zup (zup h.2.2 4 (k : Int) (some (oTr (σ 4)))) 0 3 (some (oTr (σ k)))) o = h.2.2 o := funext fun x => by
      rw [zup_o _ _ _ _ (by omega), zup_o _ _ _ _ (by omega)]
    exact ⟨b.1.trans (hio o (by omega)), b.2.trans w⟩
  refine Ev.aload_n (pc := 0) (n := (0, 0)) (i := 0) dX6_undo_0 rfl rfl ?_
  refine Ev.gI (pc := 1) (n := (0, 0)) (x := ((k + 1 : Nat) : Int)) dX6_undo_1 fl_X6_22 (zk_at hM.1 rfl) rfl hcn ?_
  refine Ev.iconst (pc := 4) (n := (0, 0)) dX6_undo_4 ?_
  refine Ev.isub (pc := 5) (n := (0, 0)) dX6_undo_5 ⟨by omega, by omega⟩ ?_
  rw [show ((k + 1 : Nat) : Int) - 1 = (k : Int) by omega]
  refine Ev.istore_n (pc := 6) (n := (0, 0)) (i := 1) (L' := [(1, zi (k : Int)), (0, zr (some 0))]) dX6_undo_6 rfl (Nat.le_of_ble_eq_true rfl) rfl ?_
  refine Ev.iload_n (pc := 7) (n := (0, 0)) (i := 1) dX6_undo_7 rfl rfl ?_
  refine Ev.if_lt (pc := 8) (n := (0, 0)) (tgt := 20) dX6_undo_8 rfl (fun hc => absurd hc (by omega)) (fun hc => ?_)
  refine Ev.iload_n (pc := 11) (n := (0, 0)) (i := 1) dX6_undo_11 rfl rfl ?_
  refine Ev.aload_n (pc := 12) (n := (0, 0)) (i := 0) dX6_undo_12 rfl rfl ?_
  refine Ev.gR (pc := 13) (n := (0, 0)) (r := (some 4)) dX6_undo_13 fl_X6_18 (zk_at hM.1 rfl) rfl hM.2.2.2.2 ?_
  refine Ev.alen8 (pc := 16) (n := (0, 0)) (v := 4) dX6_undo_16 (zk_at hM.1 rfl) rfl ⟨by decide, by decide⟩ ?_
  refine Ev.icmp_lt (pc := 17) (n := (0, 0)) (tgt := 30) dX6_undo_17 rfl (fun hc => ?_) (fun hc => absurd hc (by omega))
  refine Ev.aload_n (pc := 30) (n := (0, 0)) (i := 0) dX6_undo_30 rfl rfl ?_
  refine Ev.gR (pc := 31) (n := (0, 0)) (r := (some 4)) dX6_undo_31 fl_X6_18 (zk_at hM.1 rfl) rfl hM.2.2.2.2 ?_
  refine Ev.iload_n (pc := 34) (n := (0, 0)) (i := 1) dX6_undo_34 rfl rfl ?_
  refine Ev.aa (pc := 35) (n := (0, 0)) (r := (some (oTr (σ k)))) dX6_undo_35 (zk_at hM.1 rfl) (by decide) (by omega) (by omega) hSk ?_
  refine Ev.astore_n (pc := 36) (n := (0, 0)) (i := 2) (L' := [(2, zr (some (oTr (σ k)))), (1, zi (k : Int)), (0, zr (some 0))]) dX6_undo_36 rfl (Nat.le_of_ble_eq_true rfl) rfl ?_
  refine Ev.aload_n (pc := 37) (n := (0, 0)) (i := 0) dX6_undo_37 rfl rfl ?_
  refine Ev.gR (pc := 38) (n := (0, 0)) (r := (some 4)) dX6_undo_38 fl_X6_18 (zk_at hM.1 rfl) rfl m1.2.2.2.2 ?_
  refine Ev.iload_n (pc := 41) (n := (0, 0)) (i := 1) dX6_undo_41 rfl rfl ?_
  refine Ev.aload_n (pc := 42) (n := (0, 0)) (i := 0) dX6_undo_42 rfl rfl ?_
  refine Ev.gR (pc := 43) (n := (0, 0)) (r := (some (oTr (σ 4)))) dX6_undo_43 fl_X6_27 (zk_at hM.1 rfl) rfl s2 ?_
  refine Ev.aast (pc := 46) (n := (0, 0)) dX6_undo_46 (zk_at hM.1 rfl) (by decide) (hK 4 (by decide)) (by omega) (by omega) ?_
  refine Ev.aload_n (pc := 47) (n := (0, 0)) (i := 0) dX6_undo_47 rfl rfl ?_
  refine Ev.aload_n (pc := 48) (n := (0, 0)) (i := 2) dX6_undo_48 rfl rfl ?_
  refine Ev.putR (pc := 49) (n := (0, 0)) dX6_undo_49 fl_X6_27 (zk_at hM.1 rfl) rfl rfl ?_
  refine Ev.aload_n (pc := 52) (n := (0, 0)) (i := 0) dX6_undo_52 rfl rfl ?_
  refine Ev.iload_n (pc := 53) (n := (0, 0)) (i := 1) dX6_undo_53 rfl rfl ?_
  refine Ev.putI (pc := 54) (n := (0, 0)) dX6_undo_54 fl_X6_22 (zk_at hM.1 rfl) rfl rfl (fun h9 => by cases h9) ?_
  refine Ev.aload_n (pc := 57) (n := (0, 0)) (i := 0) dX6_undo_57 rfl rfl ?_
  refine Ev.gR (pc := 58) (n := (0, 0)) (r := (some (oTr (σ k)))) dX6_undo_58 fl_X6_27 (zk_at hM.1 rfl) rfl (zup_s (zup h.2.2 4 (k : Int) (some (oTr (σ 4)))) 0 3 (some (oTr (σ k)))) ?_
  refine Ev.callV (pc := 61) (n := (0, 0)) (ob := (oTr (σ k))) (as := []) (st := []) (k6) dX6_undo_61 ok_X5_plan (lk_X6_149 rfl) ⟨(Nat.le_of_ble_eq_true rfl), (Nat.le_of_ble_eq_true rfl)⟩ hC2.1.1.1 ⟨by decide, rfl⟩ rfl (Nat.le_of_ble_eq_true rfl) (Nat.le_of_ble_eq_true rfl) ⟨(Nat.le_of_ble_eq_true rfl), (Nat.le_of_ble_eq_true rfl)⟩ ?_
  refine Ev.aload_n (pc := 64) (n := (0, 0)) (i := 0) dX6_undo_64 rfl rfl ?_
  refine Ev.gI (pc := 65) (n := (0, 0)) (x := (k : Int)) dX6_undo_65 fl_X6_22 (zk_at hM.1 rfl) rfl ((congrFun (hlow 0 (by decide)).1 2).trans (zup_s _ _ _ _)) ?_
  exact Ev.iret dX6_undo_68 rfl ⟨(Nat.le_of_ble_eq_true rfl), (Nat.le_of_ble_eq_true rfl)⟩
